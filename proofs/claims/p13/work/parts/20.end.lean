/-! end(n), of the class and of the reference: exactly -/
section END1
def me_no (n t : Int32) : Bool := pm_cmp0 .lt n || !pm_cmp .le n t
theorem me_c_end {X : pm_X} {d : Nat} {h : pm_H} {n : Int32} (S : hs_Shape h) :
    hq_M X (d + 1) 92 [.ref 0, .int n] h (fun h' v => hs_Shape h' ∧ h' = (bif me_no n (hs_fI h 62 1) then h else hs_sF h 62 3 1 (.int n)) ∧ v = some (.int (bif me_no n (hs_fI h 62 1) then -1 else n))) := by
  refine hq_M.enter (q := (⟨"TrainBearers", "end", "(I)I"⟩, _, 2, some .int, 10, 2, pm_c92)) rfl rfl ?_
  show hq_W X d 10 false (some .int) pm_c92 (0, [some (.ref 0), some (.int n)], [], h) _
  refine hq_p rfl rfl ?_
  refine hq_if rfl (fun c => ?_) (fun c => ?_)
  · refine hq_p rfl rfl ?_
    refine hq_W.ret rfl rfl rfl ⟨S, ?_, ?_⟩
    · rw [me_no, c]; rfl
    · rw [me_no, c]; rfl
  · refine hq_p rfl rfl ?_
    refine hq_p rfl rfl ?_
    refine hq_gR S rfl rfl (by decide) (by decide) rfl ?_
    refine hq_gI S rfl rfl (by decide) (by decide) rfl ?_
    refine hq_ifi rfl (fun c' => ?_) (fun c' => ?_)
    · refine hq_p rfl rfl ?_
      refine hq_gR S rfl rfl (by decide) (by decide) rfl ?_
      refine hq_p rfl rfl ?_
      refine hq_pF S rfl rfl (by decide) rfl rfl ⟨n, rfl⟩ (fun S1 => ?_)
      refine hq_p rfl rfl ?_
      refine hq_W.ret rfl rfl rfl ⟨S1, ?_, ?_⟩
      · rw [me_no, c, c']; rfl
      · rw [me_no, c, c']; rfl
    · refine hq_p rfl rfl ?_
      refine hq_W.ret rfl rfl rfl ⟨S, ?_, ?_⟩
      · rw [me_no, c, c']; rfl
      · rw [me_no, c, c']; rfl
theorem me_m_end {X : pm_X} {d : Nat} {h : pm_H} {n : Int32} (S : hs_Shape h) :
    hq_M X (d + 1) 168 [.ref 97, .int n] h (fun h' v => hs_Shape h' ∧ h' = (bif me_no n (hs_fI h 97 13) then hs_sF h 97 11 0 (.int 0) else hs_sF (hs_sF h 97 11 0 (.int 0)) 97 11 13 (.int n)) ∧ v = some (.int (bif me_no n (hs_fI h 97 13) then -1 else n))) := by
  refine hq_M.enter (q := (⟨"TrainBearersModel", "end", "(I)I"⟩, _, 2, some .int, 11, 2, pm_c168)) rfl rfl ?_
  show hq_W X d 11 false (some .int) pm_c168 (0, [some (.ref 97), some (.int n)], [], h) _
  refine hq_p rfl rfl ?_
  refine hq_p rfl rfl ?_
  refine hq_pF S rfl rfl (by decide) rfl rfl ⟨_, rfl⟩ (fun S1 => ?_)
  have e0 : hs_fI (hs_sF h 97 11 0 (.int 0)) 97 13 = hs_fI h 97 13 := by
    unfold hs_fI
    rw [hs_fV_sF_ne (by decide)]
  refine hq_p rfl rfl ?_
  refine hq_if rfl (fun c => ?_) (fun c => ?_)
  · refine hq_p rfl rfl ?_
    refine hq_W.ret rfl rfl rfl ⟨S1, ?_, ?_⟩
    · rw [me_no, c]; rfl
    · rw [me_no, c]; rfl
  · refine hq_p rfl rfl ?_
    refine hq_p rfl rfl ?_
    refine hq_gI S1 rfl rfl (by decide) (by decide) rfl ?_
    rw [show hs_fI (hs_sF h 97 11 0 (.int (Int32.ofInt 0))) 97 13 = hs_fI h 97 13 from e0]
    refine hq_ifi rfl (fun c' => ?_) (fun c' => ?_)
    · refine hq_p rfl rfl ?_
      refine hq_p rfl rfl ?_
      refine hq_pF S1 rfl rfl (by decide) rfl rfl ⟨n, rfl⟩ (fun S2 => ?_)
      refine hq_p rfl rfl ?_
      refine hq_W.ret rfl rfl rfl ⟨S2, ?_, ?_⟩
      · rw [me_no, c, c']; rfl
      · rw [me_no, c, c']; rfl
    · refine hq_p rfl rfl ?_
      refine hq_W.ret rfl rfl rfl ⟨S1, ?_, ?_⟩
      · rw [me_no, c, c']; rfl
      · rw [me_no, c, c']; rfl
end END1
