/-! CONTRACTS (printed by wip/pm/cts.py) -/
section CT21
theorem ct_160b {X : pm_X} {d : Nat} {h : pm_H} {x1 : Int32} {x2 : Int32} {x3 : Int32} (hd : 1 ≤ d) (ax1 : 0 ≤ x1.toInt) (bx1 : x1.toInt ≤ 5) (ax2 : 0 ≤ x2.toInt) (bx2 : x2.toInt ≤ 5) (ax3 : (-1) ≤ x3.toInt) (bx3 : x3.toInt ≤ 9) : ty_M X ty_Wl d 160 [.ref 97, .int x1, .int x2, .int x3] h ty_pv := by
  intro J H hJ
  obtain ⟨d, rfl⟩ : ∃ e, d = e + 1 := ⟨d - 1, by omega⟩
  have I := H.1 h hJ
  refine hq_M.enter (q := (⟨"TrainBearersModel", "setLane", "(III)V"⟩, _, 4, none, 11, 4, pm_c160)) rfl rfl ?_
  show hq_W X d 11 false (none) pm_c160 (0, [some (.ref 97), some (.int x1), some (.int x2), some (.int x3)], [], h) (fun h' v => J h' ∧ ty_pv h' v)
  refine hq_p rfl rfl ?_
  refine hq_gR I.1 rfl rfl (by decide) (by decide) rfl ?_
  refine hq_p rfl rfl (ty_ge (n := 50) nk_b50 (fun z1 ez1 => ?_))
  refine hq_p rfl rfl (ty_ge (n := 6) nk_b6 (fun z2 ez2 => ?_))
  refine hq_p rfl rfl ?_
  refine hq_p rfl rfl (ty_ge (n := 6 * x1.toInt) (nm_cmul ez2 (by omega) (by omega)) (fun z3 ez3 => ?_))
  refine hq_p rfl rfl (ty_ge (n := z1.toInt + z3.toInt) (nm_add (by omega) (by omega)) (fun z4 ez4 => ?_))
  refine hq_p rfl rfl ?_
  refine hq_p rfl rfl (ty_ge (n := z4.toInt + x2.toInt) (nm_add (by omega) (by omega)) (fun z5 ez5 => ?_))
  refine hq_p rfl rfl ?_
  refine ty_aS (W := ty_Wl) H hJ rfl rfl (by decide) (by omega) (by omega) (fun i e => by unfold ty_Wl; omega) (fun i e => ty_eg (ty_w50 (by omega) (by omega))) (by omega) (by omega) (fun e1 e2 w => by omega) (fun h6 eh6 Jh6 => ?_)
  have Ih6 := H.1 h6 Jh6
  refine hq_p rfl rfl ?_
  refine hq_gR Ih6.1 rfl rfl (by decide) (by decide) rfl ?_
  refine hq_p rfl rfl (ty_ge (n := 50) nk_b50 (fun z7 ez7 => ?_))
  refine hq_p rfl rfl (ty_ge (n := 6) nk_b6 (fun z8 ez8 => ?_))
  refine hq_p rfl rfl ?_
  refine hq_p rfl rfl (ty_ge (n := 6 * x2.toInt) (nm_cmul ez8 (by omega) (by omega)) (fun z9 ez9 => ?_))
  refine hq_p rfl rfl (ty_ge (n := z7.toInt + z9.toInt) (nm_add (by omega) (by omega)) (fun z10 ez10 => ?_))
  refine hq_p rfl rfl ?_
  refine hq_p rfl rfl (ty_ge (n := z10.toInt + x1.toInt) (nm_add (by omega) (by omega)) (fun z11 ez11 => ?_))
  refine hq_p rfl rfl ?_
  refine ty_aS (W := ty_Wl) H Jh6 rfl rfl (by decide) (by omega) (by omega) (fun i e => by unfold ty_Wl; omega) (fun i e => ty_eg (ty_w50 (by omega) (by omega))) (by omega) (by omega) (fun e1 e2 w => by omega) (fun h12 eh12 Jh12 => ?_)
  have Ih12 := H.1 h12 Jh12
  exact hq_W.ret rfl rfl rfl ⟨Jh12, rfl⟩
set_option maxHeartbeats 20000000 in
theorem ct_164 {X : pm_X} {d : Nat} {h : pm_H}  (hd : 4 ≤ d)  : ty_M X ty_Wrow d 164 [.ref 97] h (fun h1 v => (∃ z : Int32, v = some (.int z)) ∧ (hs_fI h1 97 13).toInt = 0) := by
  intro J H hJ
  obtain ⟨d, rfl⟩ : ∃ e, d = e + 1 := ⟨d - 1, by omega⟩
  have I := H.1 h hJ
  obtain ⟨q13, eq13⟩ : ∃ q : Int32, q.toInt = (hs_fI h 97 13).toInt := ⟨_, rfl⟩
  have gq130 : 0 ≤ (hs_fI h 97 13).toInt := (I.2.1 97 13 (by decide)).1
  have gq131 : (hs_fI h 97 13).toInt ≤ 400 := (I.2.1 97 13 (by decide)).2
  refine hq_M.enter (q := (⟨"TrainBearersModel", "row", "()I"⟩, _, 5, some .int, 11, 1, pm_c164)) rfl rfl ?_
  show hq_W X d 11 false (some .int) pm_c164 (0, [some (.ref 97), none, none, none, none], [], h) (fun h' v => J h' ∧ (fun h1 v => (∃ z : Int32, v = some (.int z)) ∧ (hs_fI h1 97 13).toInt = 0) h' v)
  refine hq_p rfl rfl ?_
  refine hq_p rfl rfl (ty_ge (n := 0) nk_i0 (fun z1 ez1 => ?_))
  refine ty_pI (W := ty_Wrow) H hJ rfl rfl (by decide) rfl rfl (by unfold ty_Wrow; omega) rfl (by omega) (by omega) (fun h2 eh2 Jh2 => ?_)
  have wh2 : (hs_fI h2 97 0).toInt = z1.toInt := by rw [eh2]; exact congrArg Int32.toInt (ty_fI_eq I.1 rfl (by decide) rfl)
  have Ih2 := H.1 h2 Jh2
  refine hq_p rfl rfl ?_
  have r4 : (hs_fI h2 97 13).toInt = (hs_fI h 97 13).toInt := by rw [eh2]; exact congrArg Int32.toInt (ty_fI_sF (by decide))
  refine ty_gI Ih2 rfl rfl (by decide) (by decide) rfl rfl (fun z3 ez3 az3 bz3 => ?_)
  refine hq_p (ls' := [some (.ref 97), some (.int z3), none, none, none]) rfl rfl ?_
  refine hq_p rfl rfl ?_
  refine hq_p rfl rfl (ty_ge (n := 0) nk_i0 (fun z5 ez5 => ?_))
  refine ty_pI (W := ty_Wrow) H Jh2 rfl rfl (by decide) rfl rfl (by unfold ty_Wrow; omega) rfl (by omega) (by omega) (fun h6 eh6 Jh6 => ?_)
  have wh6 : (hs_fI h6 97 13).toInt = z5.toInt := by rw [eh6]; exact congrArg Int32.toInt (ty_fI_eq Ih2.1 rfl (by decide) rfl)
  have Ih6 := H.1 h6 Jh6
  refine hq_p rfl rfl ?_
  refine ty_zne rfl (fun c7 => ?_) (fun c7 => ?_)
  · replace c7 : 1 ≤ z3.toInt ∧ z3.toInt ≤ 400 := by omega
    refine hq_p rfl rfl ?_
    refine hq_p rfl rfl (ty_ge (n := 0) nk_i0 (fun z8 ez8 => ?_))
    refine ty_pI (W := ty_Wrow) H Jh6 rfl rfl (by decide) rfl rfl (by unfold ty_Wrow; omega) rfl (by omega) (by omega) (fun h9 eh9 Jh9 => ?_)
    have wh9 : (hs_fI h9 97 11).toInt = z8.toInt := by rw [eh9]; exact congrArg Int32.toInt (ty_fI_eq Ih6.1 rfl (by decide) rfl)
    have Ih9 := H.1 h9 Jh9
    refine hq_p rfl rfl (ty_ge (n := 0) nk_i0 (fun z10 ez10 => ?_))
    refine hq_p (ls' := [some (.ref 97), some (.int z3), some (.int z10), none, none]) rfl rfl ?_
    refine hq_p rfl rfl (ty_ge (n := 0) nk_i0 (fun z11 ez11 => ?_))
    refine hq_p (ls' := [some (.ref 97), some (.int z3), some (.int z10), some (.int z11), none]) rfl rfl ?_
    have r12 : (hs_fI h9 97 13).toInt = (hs_fI h6 97 13).toInt := by rw [eh9]; exact congrArg Int32.toInt (ty_fI_sF (by decide))
    have L35_n97 : ∀ n97 : Nat, ∀ (y89 : Int32) (y90 : Int32) (w91 : Option Value) (h92 : pm_H), (403 - y90.toInt).toNat = n97 → 0 ≤ y89.toInt → y89.toInt ≤ 400 → 0 ≤ y90.toInt → y90.toInt ≤ 403 → pm_two w91 = false → 3 * y89.toInt ≤ y90.toInt → (hs_fI h92 97 13).toInt = (hs_fI h9 97 13).toInt → J h92 → hq_W X d 11 false (some .int) pm_c164 (35, [some (.ref 97), some (.int z3), some (.int y89), some (.int y90), w91], [], h92) (fun h' v => J h' ∧ (fun h1 v => (∃ z : Int32, v = some (.int z)) ∧ (hs_fI h1 97 13).toInt = 0) h' v) := by
      intro n97
      induction n97 using Nat.strongRecOn with
      | ind n97 ihn97 =>
        intro y89 y90 w91 h92 mn97 ay89 by89 ay90 by90 kw91 x0n97 x1n97 Jh92
        have Ih92 := H.1 h92 Jh92
        refine hq_p rfl rfl ?_
        refine hq_p rfl rfl ?_
        refine ty_ige rfl (fun c98 => ?_) (fun c98 => ?_)
        · refine hq_p rfl rfl ?_
          refine hq_p rfl rfl ?_
          refine ty_callg 0 (c := 97) (j := 13) (W := ty_Wrow) H Jh92 rfl (fun _ => rfl) rfl rfl rfl (hq_pre_o Ih92.1 (x := 97) (ci := 11) rfl (by decide) rfl rfl rfl rfl) (fun a k w => by unfold ty_Wt at w; unfold ty_Wrow; omega) (by unfold ty_Wt ty_Wrow; omega) (ct_140 (x1 := y89) (by omega) (by omega) (by omega)) (by decide) (by unfold ty_Wt; omega) (fun h100 _ Jh100 gh100 P99 => ?_)
          have Ih100 := H.1 h100 Jh100
          obtain ⟨z101, rfl, fz101⟩ := P99
          exact hq_W.ret rfl rfl rfl ⟨Jh100, ⟨_, rfl⟩, by omega⟩
        · refine hq_p rfl rfl ?_
          refine hq_p rfl rfl (ty_ge (n := 2) nk_i2 (fun z102 ez102 => ?_))
          refine hq_p rfl rfl (ty_ge (n := y90.toInt + z102.toInt) (nm_add (by omega) (by omega)) (fun z103 ez103 => ?_))
          refine hq_p rfl rfl ?_
          refine ty_ige rfl (fun c104 => ?_) (fun c104 => ?_)
          · refine hq_p rfl rfl (ty_ge (n := 100000000) nk_d100000000 (fun z105 ez105 => ?_))
            refine hq_p (ls' := [some (.ref 97), some (.int z3), some (.int y89), some (.int y90), some (.int z105)]) rfl rfl ?_
            refine hq_p rfl rfl ?_
            refine hq_p rfl rfl (ty_ge (n := 255) nk_s255 (fun z106 ez106 => ?_))
            refine ty_ine rfl (fun c107 => ?_) (fun c107 => ?_)
            · clear c107
              refine hq_p rfl rfl ?_
              refine hq_p (ls' := [some (.ref 97), some (.int z3), some (.int y89), some (.int y90), some (.int z105)]) rfl rfl ?_
              refine hq_p rfl rfl ?_
              refine hq_p rfl rfl (ty_ge (n := 2) nk_i2 (fun z108 ez108 => ?_))
              refine hq_p rfl rfl (ty_ge (n := y90.toInt + z108.toInt) (nm_add (by omega) (by omega)) (fun z109 ez109 => ?_))
              refine hq_p rfl rfl ?_
              refine ty_ige rfl (fun c110 => ?_) (fun c110 => ?_)
              · refine hq_p rfl rfl ?_
                refine hq_p rfl rfl ?_
                refine ty_gI Ih92 rfl rfl (by decide) (by decide) rfl rfl (fun z111 ez111 az111 bz111 => ?_)
                refine hq_p rfl rfl (ty_ge (n := 1) nk_i1 (fun z112 ez112 => ?_))
                refine hq_p rfl rfl (ty_ga (fun z113 az113 bz113 => ?_))
                refine ty_pI (W := ty_Wrow) H Jh92 rfl rfl (by decide) rfl rfl (by unfold ty_Wrow; omega) rfl (by omega) (by omega) (fun h114 eh114 Jh114 => ?_)
                have wh114 : (hs_fI h114 97 11).toInt = z113.toInt := by rw [eh114]; exact congrArg Int32.toInt (ty_fI_eq Ih92.1 rfl (by decide) rfl)
                have Ih114 := H.1 h114 Jh114
                refine ty_inc (ls' := fun z115 => [some (.ref 97), some (.int z3), some (.int y89), some (.int z115), some (.int z105)]) rfl rfl (fun _ => rfl) (nm_addc nk_i3 (by omega) (by omega)) (fun z115 ez115 => ?_)
                refine hq_p rfl rfl ?_
                have r116 : (hs_fI h114 97 13).toInt = (hs_fI h92 97 13).toInt := by rw [eh114]; exact congrArg Int32.toInt (ty_fI_sF (by decide))
                exact ihn97 ((403 - z115.toInt).toNat) (by omega) y89 z115 (some (.int z105)) h114 rfl (by omega) (by omega) (by omega) (by omega) rfl (by omega) (by omega) Jh114
              · refine hq_p rfl rfl ?_
                refine hq_gR Ih92.1 rfl rfl (by decide) (by decide) rfl ?_
                refine hq_p rfl rfl ?_
                refine ty_aL Ih92 rfl rfl (by decide) (by omega) (by omega) (fun _ _ => ty_le rfl) (fun z117 ez117 az117 bz117 => ?_)
                refine hq_p rfl rfl ?_
                refine hq_gR Ih92.1 rfl rfl (by decide) (by decide) rfl ?_
                refine hq_p rfl rfl ?_
                refine hq_p rfl rfl (ty_ge (n := 1) nk_i1 (fun z118 ez118 => ?_))
                refine hq_p rfl rfl (ty_ge (n := y90.toInt + z118.toInt) (nm_add (by omega) (by omega)) (fun z119 ez119 => ?_))
                refine ty_aL Ih92 rfl rfl (by decide) (by omega) (by omega) (fun _ _ => ty_le rfl) (fun z120 ez120 az120 bz120 => ?_)
                refine hq_p rfl rfl ?_
                refine ty_callp 1 Ih92 rfl (fun _ => rfl) rfl rfl rfl rfl (ct_159 (x0 := z117) (x1 := z120) (x2 := z105) (by omega)) (fun _ P121 => ?_)
                obtain ⟨z122, rfl, az122, bz122, iz122⟩ := P121
                refine ty_zeq rfl (fun c123 => ?_) (fun c123 => ?_)
                · clear iz122
                  refine hq_p rfl rfl ?_
                  refine hq_p rfl rfl ?_
                  refine ty_gI Ih92 rfl rfl (by decide) (by decide) rfl rfl (fun z124 ez124 az124 bz124 => ?_)
                  refine hq_p rfl rfl (ty_ge (n := 1) nk_i1 (fun z125 ez125 => ?_))
                  refine hq_p rfl rfl (ty_ga (fun z126 az126 bz126 => ?_))
                  refine ty_pI (W := ty_Wrow) H Jh92 rfl rfl (by decide) rfl rfl (by unfold ty_Wrow; omega) rfl (by omega) (by omega) (fun h127 eh127 Jh127 => ?_)
                  have wh127 : (hs_fI h127 97 11).toInt = z126.toInt := by rw [eh127]; exact congrArg Int32.toInt (ty_fI_eq Ih92.1 rfl (by decide) rfl)
                  have Ih127 := H.1 h127 Jh127
                  refine ty_inc (ls' := fun z128 => [some (.ref 97), some (.int z3), some (.int y89), some (.int z128), some (.int z105)]) rfl rfl (fun _ => rfl) (nm_addc nk_i3 (by omega) (by omega)) (fun z128 ez128 => ?_)
                  refine hq_p rfl rfl ?_
                  have r129 : (hs_fI h127 97 13).toInt = (hs_fI h92 97 13).toInt := by rw [eh127]; exact congrArg Int32.toInt (ty_fI_sF (by decide))
                  exact ihn97 ((403 - z128.toInt).toNat) (by omega) y89 z128 (some (.int z105)) h127 rfl (by omega) (by omega) (by omega) (by omega) rfl (by omega) (by omega) Jh127
                · exfalso; omega
            · exfalso; omega
          · refine hq_p rfl rfl ?_
            refine hq_gR Ih92.1 rfl rfl (by decide) (by decide) rfl ?_
            refine hq_p rfl rfl ?_
            refine hq_p rfl rfl (ty_ge (n := 2) nk_i2 (fun z131 ez131 => ?_))
            refine hq_p rfl rfl (ty_ge (n := y90.toInt + z131.toInt) (nm_add (by omega) (by omega)) (fun z132 ez132 => ?_))
            refine ty_aL Ih92 rfl rfl (by decide) (by omega) (by omega) (fun _ _ => ty_le rfl) (fun z133 ez133 az133 bz133 => ?_)
            refine hq_p rfl rfl ?_
            refine hq_p (ls' := [some (.ref 97), some (.int z3), some (.int y89), some (.int y90), some (.int z133)]) rfl rfl ?_
            refine hq_p rfl rfl ?_
            refine hq_p rfl rfl (ty_ge (n := 255) nk_s255 (fun z134 ez134 => ?_))
            refine ty_ine rfl (fun c135 => ?_) (fun c135 => ?_)
            · clear c135
              refine hq_p rfl rfl ?_
              refine hq_p (ls' := [some (.ref 97), some (.int z3), some (.int y89), some (.int y90), some (.int z133)]) rfl rfl ?_
              refine hq_p rfl rfl ?_
              refine hq_p rfl rfl (ty_ge (n := 2) nk_i2 (fun z136 ez136 => ?_))
              refine hq_p rfl rfl (ty_ge (n := y90.toInt + z136.toInt) (nm_add (by omega) (by omega)) (fun z137 ez137 => ?_))
              refine hq_p rfl rfl ?_
              refine ty_ige rfl (fun c138 => ?_) (fun c138 => ?_)
              · refine hq_p rfl rfl ?_
                refine hq_p rfl rfl ?_
                refine ty_gI Ih92 rfl rfl (by decide) (by decide) rfl rfl (fun z139 ez139 az139 bz139 => ?_)
                refine hq_p rfl rfl (ty_ge (n := 1) nk_i1 (fun z140 ez140 => ?_))
                refine hq_p rfl rfl (ty_ga (fun z141 az141 bz141 => ?_))
                refine ty_pI (W := ty_Wrow) H Jh92 rfl rfl (by decide) rfl rfl (by unfold ty_Wrow; omega) rfl (by omega) (by omega) (fun h142 eh142 Jh142 => ?_)
                have wh142 : (hs_fI h142 97 11).toInt = z141.toInt := by rw [eh142]; exact congrArg Int32.toInt (ty_fI_eq Ih92.1 rfl (by decide) rfl)
                have Ih142 := H.1 h142 Jh142
                refine ty_inc (ls' := fun z143 => [some (.ref 97), some (.int z3), some (.int y89), some (.int z143), some (.int z133)]) rfl rfl (fun _ => rfl) (nm_addc nk_i3 (by omega) (by omega)) (fun z143 ez143 => ?_)
                refine hq_p rfl rfl ?_
                have r144 : (hs_fI h142 97 13).toInt = (hs_fI h92 97 13).toInt := by rw [eh142]; exact congrArg Int32.toInt (ty_fI_sF (by decide))
                exact ihn97 ((403 - z143.toInt).toNat) (by omega) y89 z143 (some (.int z133)) h142 rfl (by omega) (by omega) (by omega) (by omega) rfl (by omega) (by omega) Jh142
              · refine hq_p rfl rfl ?_
                refine hq_gR Ih92.1 rfl rfl (by decide) (by decide) rfl ?_
                refine hq_p rfl rfl ?_
                refine ty_aL Ih92 rfl rfl (by decide) (by omega) (by omega) (fun _ _ => ty_le rfl) (fun z145 ez145 az145 bz145 => ?_)
                refine hq_p rfl rfl ?_
                refine hq_gR Ih92.1 rfl rfl (by decide) (by decide) rfl ?_
                refine hq_p rfl rfl ?_
                refine hq_p rfl rfl (ty_ge (n := 1) nk_i1 (fun z146 ez146 => ?_))
                refine hq_p rfl rfl (ty_ge (n := y90.toInt + z146.toInt) (nm_add (by omega) (by omega)) (fun z147 ez147 => ?_))
                refine ty_aL Ih92 rfl rfl (by decide) (by omega) (by omega) (fun _ _ => ty_le rfl) (fun z148 ez148 az148 bz148 => ?_)
                refine hq_p rfl rfl ?_
                refine ty_callp 1 Ih92 rfl (fun _ => rfl) rfl rfl rfl rfl (ct_159 (x0 := z145) (x1 := z148) (x2 := z133) (by omega)) (fun _ P149 => ?_)
                obtain ⟨z150, rfl, az150, bz150, iz150⟩ := P149
                refine ty_zeq rfl (fun c151 => ?_) (fun c151 => ?_)
                · clear iz150
                  refine hq_p rfl rfl ?_
                  refine hq_p rfl rfl ?_
                  refine ty_gI Ih92 rfl rfl (by decide) (by decide) rfl rfl (fun z152 ez152 az152 bz152 => ?_)
                  refine hq_p rfl rfl (ty_ge (n := 1) nk_i1 (fun z153 ez153 => ?_))
                  refine hq_p rfl rfl (ty_ga (fun z154 az154 bz154 => ?_))
                  refine ty_pI (W := ty_Wrow) H Jh92 rfl rfl (by decide) rfl rfl (by unfold ty_Wrow; omega) rfl (by omega) (by omega) (fun h155 eh155 Jh155 => ?_)
                  have wh155 : (hs_fI h155 97 11).toInt = z154.toInt := by rw [eh155]; exact congrArg Int32.toInt (ty_fI_eq Ih92.1 rfl (by decide) rfl)
                  have Ih155 := H.1 h155 Jh155
                  refine ty_inc (ls' := fun z156 => [some (.ref 97), some (.int z3), some (.int y89), some (.int z156), some (.int z133)]) rfl rfl (fun _ => rfl) (nm_addc nk_i3 (by omega) (by omega)) (fun z156 ez156 => ?_)
                  refine hq_p rfl rfl ?_
                  have r157 : (hs_fI h155 97 13).toInt = (hs_fI h92 97 13).toInt := by rw [eh155]; exact congrArg Int32.toInt (ty_fI_sF (by decide))
                  exact ihn97 ((403 - z156.toInt).toNat) (by omega) y89 z156 (some (.int z133)) h155 rfl (by omega) (by omega) (by omega) (by omega) rfl (by omega) (by omega) Jh155
                · replace c151 : 1 ≤ z150.toInt ∧ z150.toInt ≤ 1 := by omega
                  have f158 := iz150 (by omega)
                  clear iz150
                  refine hq_p rfl rfl ?_
                  refine hq_p rfl rfl ?_
                  refine hq_gR Ih92.1 rfl rfl (by decide) (by decide) rfl ?_
                  refine hq_p rfl rfl ?_
                  refine ty_aL Ih92 rfl rfl (by decide) (by omega) (by omega) (fun _ _ => ty_le rfl) (fun z159 ez159 az159 bz159 => ?_)
                  refine hq_p rfl rfl ?_
                  refine hq_gR Ih92.1 rfl rfl (by decide) (by decide) rfl ?_
                  refine hq_p rfl rfl ?_
                  refine hq_p rfl rfl (ty_ge (n := 1) nk_i1 (fun z160 ez160 => ?_))
                  refine hq_p rfl rfl (ty_ge (n := y90.toInt + z160.toInt) (nm_add (by omega) (by omega)) (fun z161 ez161 => ?_))
                  refine ty_aL Ih92 rfl rfl (by decide) (by omega) (by omega) (fun _ _ => ty_le rfl) (fun z162 ez162 az162 bz162 => ?_)
                  refine hq_p rfl rfl ?_
                  have sz159 : z159.toInt = z145.toInt := by rw [ez159, ez145, show y90.toInt.toNat = y90.toInt.toNat by omega]
                  have sz162 : z162.toInt = z148.toInt := by rw [ez162, ez148, show z161.toInt.toNat = z147.toInt.toNat by omega]
                  refine ty_callg 0 (c := 97) (j := 13) (W := ty_Wrow) H Jh92 rfl (fun _ => rfl) rfl rfl rfl (hq_pre_o Ih92.1 (x := 97) (ci := 11) rfl (by decide) rfl rfl rfl rfl) (fun a k w => by unfold ty_Wl at w; unfold ty_Wrow; omega) (by unfold ty_Wl ty_Wrow; omega) (ct_160b (x1 := z159) (x2 := z162) (x3 := z133) (by omega) (by omega) (by omega) (by omega) (by omega) (by omega) (by omega)) (by decide) (by unfold ty_Wl; omega) (fun h164 _ Jh164 gh164 P163 => ?_)
                  have Ih164 := H.1 h164 Jh164
                  subst P163
                  refine ty_inc (ls' := fun z165 => [some (.ref 97), some (.int z3), some (.int z165), some (.int y90), some (.int z133)]) rfl rfl (fun _ => rfl) (nm_addc nk_i1 (by omega) (by omega)) (fun z165 ez165 => ?_)
                  refine hq_p rfl rfl ?_
                  refine ty_inc (ls' := fun z166 => [some (.ref 97), some (.int z3), some (.int z165), some (.int z166), some (.int z133)]) rfl rfl (fun _ => rfl) (nm_addc nk_i3 (by omega) (by omega)) (fun z166 ez166 => ?_)
                  refine hq_p rfl rfl ?_
                  exact ihn97 ((403 - z166.toInt).toNat) (by omega) z165 z166 (some (.int z133)) h164 rfl (by omega) (by omega) (by omega) (by omega) rfl (by omega) (by omega) Jh164
            · refine hq_p rfl rfl (ty_ge (n := -1) nk_im1 (fun z167 ez167 => ?_))
              refine hq_p rfl rfl ?_
              refine hq_p (ls' := [some (.ref 97), some (.int z3), some (.int y89), some (.int y90), some (.int z167)]) rfl rfl ?_
              refine hq_p rfl rfl ?_
              refine hq_p rfl rfl (ty_ge (n := 2) nk_i2 (fun z168 ez168 => ?_))
              refine hq_p rfl rfl (ty_ge (n := y90.toInt + z168.toInt) (nm_add (by omega) (by omega)) (fun z169 ez169 => ?_))
              refine hq_p rfl rfl ?_
              refine ty_ige rfl (fun c170 => ?_) (fun c170 => ?_)
              · refine hq_p rfl rfl ?_
                refine hq_p rfl rfl ?_
                refine ty_gI Ih92 rfl rfl (by decide) (by decide) rfl rfl (fun z171 ez171 az171 bz171 => ?_)
                refine hq_p rfl rfl (ty_ge (n := 1) nk_i1 (fun z172 ez172 => ?_))
                refine hq_p rfl rfl (ty_ga (fun z173 az173 bz173 => ?_))
                refine ty_pI (W := ty_Wrow) H Jh92 rfl rfl (by decide) rfl rfl (by unfold ty_Wrow; omega) rfl (by omega) (by omega) (fun h174 eh174 Jh174 => ?_)
                have wh174 : (hs_fI h174 97 11).toInt = z173.toInt := by rw [eh174]; exact congrArg Int32.toInt (ty_fI_eq Ih92.1 rfl (by decide) rfl)
                have Ih174 := H.1 h174 Jh174
                refine ty_inc (ls' := fun z175 => [some (.ref 97), some (.int z3), some (.int y89), some (.int z175), some (.int z167)]) rfl rfl (fun _ => rfl) (nm_addc nk_i3 (by omega) (by omega)) (fun z175 ez175 => ?_)
                refine hq_p rfl rfl ?_
                have r176 : (hs_fI h174 97 13).toInt = (hs_fI h92 97 13).toInt := by rw [eh174]; exact congrArg Int32.toInt (ty_fI_sF (by decide))
                exact ihn97 ((403 - z175.toInt).toNat) (by omega) y89 z175 (some (.int z167)) h174 rfl (by omega) (by omega) (by omega) (by omega) rfl (by omega) (by omega) Jh174
              · refine hq_p rfl rfl ?_
                refine hq_gR Ih92.1 rfl rfl (by decide) (by decide) rfl ?_
                refine hq_p rfl rfl ?_
                refine ty_aL Ih92 rfl rfl (by decide) (by omega) (by omega) (fun _ _ => ty_le rfl) (fun z177 ez177 az177 bz177 => ?_)
                refine hq_p rfl rfl ?_
                refine hq_gR Ih92.1 rfl rfl (by decide) (by decide) rfl ?_
                refine hq_p rfl rfl ?_
                refine hq_p rfl rfl (ty_ge (n := 1) nk_i1 (fun z178 ez178 => ?_))
                refine hq_p rfl rfl (ty_ge (n := y90.toInt + z178.toInt) (nm_add (by omega) (by omega)) (fun z179 ez179 => ?_))
                refine ty_aL Ih92 rfl rfl (by decide) (by omega) (by omega) (fun _ _ => ty_le rfl) (fun z180 ez180 az180 bz180 => ?_)
                refine hq_p rfl rfl ?_
                refine ty_callp 1 Ih92 rfl (fun _ => rfl) rfl rfl rfl rfl (ct_159 (x0 := z177) (x1 := z180) (x2 := z167) (by omega)) (fun _ P181 => ?_)
                obtain ⟨z182, rfl, az182, bz182, iz182⟩ := P181
                refine ty_zeq rfl (fun c183 => ?_) (fun c183 => ?_)
                · clear iz182
                  refine hq_p rfl rfl ?_
                  refine hq_p rfl rfl ?_
                  refine ty_gI Ih92 rfl rfl (by decide) (by decide) rfl rfl (fun z184 ez184 az184 bz184 => ?_)
                  refine hq_p rfl rfl (ty_ge (n := 1) nk_i1 (fun z185 ez185 => ?_))
                  refine hq_p rfl rfl (ty_ga (fun z186 az186 bz186 => ?_))
                  refine ty_pI (W := ty_Wrow) H Jh92 rfl rfl (by decide) rfl rfl (by unfold ty_Wrow; omega) rfl (by omega) (by omega) (fun h187 eh187 Jh187 => ?_)
                  have wh187 : (hs_fI h187 97 11).toInt = z186.toInt := by rw [eh187]; exact congrArg Int32.toInt (ty_fI_eq Ih92.1 rfl (by decide) rfl)
                  have Ih187 := H.1 h187 Jh187
                  refine ty_inc (ls' := fun z188 => [some (.ref 97), some (.int z3), some (.int y89), some (.int z188), some (.int z167)]) rfl rfl (fun _ => rfl) (nm_addc nk_i3 (by omega) (by omega)) (fun z188 ez188 => ?_)
                  refine hq_p rfl rfl ?_
                  have r189 : (hs_fI h187 97 13).toInt = (hs_fI h92 97 13).toInt := by rw [eh187]; exact congrArg Int32.toInt (ty_fI_sF (by decide))
                  exact ihn97 ((403 - z188.toInt).toNat) (by omega) y89 z188 (some (.int z167)) h187 rfl (by omega) (by omega) (by omega) (by omega) rfl (by omega) (by omega) Jh187
                · replace c183 : 1 ≤ z182.toInt ∧ z182.toInt ≤ 1 := by omega
                  have f190 := iz182 (by omega)
                  clear iz182
                  refine hq_p rfl rfl ?_
                  refine hq_p rfl rfl ?_
                  refine hq_gR Ih92.1 rfl rfl (by decide) (by decide) rfl ?_
                  refine hq_p rfl rfl ?_
                  refine ty_aL Ih92 rfl rfl (by decide) (by omega) (by omega) (fun _ _ => ty_le rfl) (fun z191 ez191 az191 bz191 => ?_)
                  refine hq_p rfl rfl ?_
                  refine hq_gR Ih92.1 rfl rfl (by decide) (by decide) rfl ?_
                  refine hq_p rfl rfl ?_
                  refine hq_p rfl rfl (ty_ge (n := 1) nk_i1 (fun z192 ez192 => ?_))
                  refine hq_p rfl rfl (ty_ge (n := y90.toInt + z192.toInt) (nm_add (by omega) (by omega)) (fun z193 ez193 => ?_))
                  refine ty_aL Ih92 rfl rfl (by decide) (by omega) (by omega) (fun _ _ => ty_le rfl) (fun z194 ez194 az194 bz194 => ?_)
                  refine hq_p rfl rfl ?_
                  have sz191 : z191.toInt = z177.toInt := by rw [ez191, ez177, show y90.toInt.toNat = y90.toInt.toNat by omega]
                  have sz194 : z194.toInt = z180.toInt := by rw [ez194, ez180, show z193.toInt.toNat = z179.toInt.toNat by omega]
                  refine ty_callg 0 (c := 97) (j := 13) (W := ty_Wrow) H Jh92 rfl (fun _ => rfl) rfl rfl rfl (hq_pre_o Ih92.1 (x := 97) (ci := 11) rfl (by decide) rfl rfl rfl rfl) (fun a k w => by unfold ty_Wl at w; unfold ty_Wrow; omega) (by unfold ty_Wl ty_Wrow; omega) (ct_160b (x1 := z191) (x2 := z194) (x3 := z167) (by omega) (by omega) (by omega) (by omega) (by omega) (by omega) (by omega)) (by decide) (by unfold ty_Wl; omega) (fun h196 _ Jh196 gh196 P195 => ?_)
                  have Ih196 := H.1 h196 Jh196
                  subst P195
                  refine ty_inc (ls' := fun z197 => [some (.ref 97), some (.int z3), some (.int z197), some (.int y90), some (.int z167)]) rfl rfl (fun _ => rfl) (nm_addc nk_i1 (by omega) (by omega)) (fun z197 ez197 => ?_)
                  refine hq_p rfl rfl ?_
                  refine ty_inc (ls' := fun z198 => [some (.ref 97), some (.int z3), some (.int z197), some (.int z198), some (.int z167)]) rfl rfl (fun _ => rfl) (nm_addc nk_i3 (by omega) (by omega)) (fun z198 ez198 => ?_)
                  refine hq_p rfl rfl ?_
                  exact ihn97 ((403 - z198.toInt).toNat) (by omega) z197 z198 (some (.int z167)) h196 rfl (by omega) (by omega) (by omega) (by omega) rfl (by omega) (by omega) Jh196
    exact L35_n97 _ z10 z11 none h9 rfl (by omega) (by omega) (by omega) (by omega) rfl (by omega) (by omega) Jh9
  · refine hq_p rfl rfl ?_
    refine hq_p rfl rfl (ty_ge (n := -6) nk_bm6 (fun z199 ez199 => ?_))
    refine ty_callg 0 (c := 97) (j := 13) (W := ty_Wrow) H Jh6 rfl (fun _ => rfl) rfl rfl rfl (hq_pre_o Ih6.1 (x := 97) (ci := 11) rfl (by decide) rfl rfl rfl rfl) (fun a k w => by unfold ty_Wt at w; unfold ty_Wrow; omega) (by unfold ty_Wt ty_Wrow; omega) (ct_140 (x1 := z199) (by omega) (by omega) (by omega)) (by decide) (by unfold ty_Wt; omega) (fun h201 _ Jh201 gh201 P200 => ?_)
    have Ih201 := H.1 h201 Jh201
    obtain ⟨z202, rfl, fz202⟩ := P200
    exact hq_W.ret rfl rfl rfl ⟨Jh201, ⟨_, rfl⟩, by omega⟩
theorem ct_169 {X : pm_X} {d : Nat} {h : pm_H} {x0 : Int32} (hd : 1 ≤ d)  : ty_M X ty_W0 d 169 [.int x0] h (ty_pb (97 ≤ x0.toInt ∧ x0.toInt ≤ 122)) := by
  intro J H hJ
  obtain ⟨d, rfl⟩ : ∃ e, d = e + 1 := ⟨d - 1, by omega⟩
  have I := H.1 h hJ
  have ax0 := nm_lo x0
  have bx0 := nm_hi x0
  refine hq_M.enter (q := (⟨"TrainBearersModel", "isSmall", "(I)Z"⟩, _, 1, some .boolean, 11, 1, pm_c169)) rfl rfl ?_
  show hq_W X d 11 false (some .boolean) pm_c169 (0, [some (.int x0)], [], h) (fun h' v => J h' ∧ (ty_pb (97 ≤ x0.toInt ∧ x0.toInt ≤ 122)) h' v)
  refine hq_p rfl rfl ?_
  refine hq_p rfl rfl (ty_ge (n := 97) nk_b97 (fun z1 ez1 => ?_))
  refine ty_ilt rfl (fun c2 => ?_) (fun c2 => ?_)
  · refine hq_p rfl rfl (ty_ge (n := 0) nk_i0 (fun z3 ez3 => ?_))
    exact ty_rB rfl rfl (by omega) (by omega) ⟨hJ, _, rfl, by omega, by omega, fun q => by omega⟩
  · refine hq_p rfl rfl ?_
    refine hq_p rfl rfl (ty_ge (n := 122) nk_b122 (fun z4 ez4 => ?_))
    refine ty_igt rfl (fun c5 => ?_) (fun c5 => ?_)
    · refine hq_p rfl rfl (ty_ge (n := 0) nk_i0 (fun z6 ez6 => ?_))
      exact ty_rB rfl rfl (by omega) (by omega) ⟨hJ, _, rfl, by omega, by omega, fun q => by omega⟩
    · refine hq_p rfl rfl (ty_ge (n := 1) nk_i1 (fun z7 ez7 => ?_))
      refine hq_p rfl rfl ?_
      exact ty_rB rfl rfl (by omega) (by omega) ⟨hJ, _, rfl, by omega, by omega, fun q => by omega⟩
theorem ct_170 {X : pm_X} {d : Nat} {h : pm_H} {x0 : Int32} (hd : 1 ≤ d)  : ty_M X ty_W0 d 170 [.int x0] h (ty_pb (48 ≤ x0.toInt ∧ x0.toInt ≤ 57)) := by
  intro J H hJ
  obtain ⟨d, rfl⟩ : ∃ e, d = e + 1 := ⟨d - 1, by omega⟩
  have I := H.1 h hJ
  have ax0 := nm_lo x0
  have bx0 := nm_hi x0
  refine hq_M.enter (q := (⟨"TrainBearersModel", "isDigit", "(I)Z"⟩, _, 1, some .boolean, 11, 1, pm_c170)) rfl rfl ?_
  show hq_W X d 11 false (some .boolean) pm_c170 (0, [some (.int x0)], [], h) (fun h' v => J h' ∧ (ty_pb (48 ≤ x0.toInt ∧ x0.toInt ≤ 57)) h' v)
  refine hq_p rfl rfl ?_
  refine hq_p rfl rfl (ty_ge (n := 48) nk_b48 (fun z1 ez1 => ?_))
  refine ty_ilt rfl (fun c2 => ?_) (fun c2 => ?_)
  · refine hq_p rfl rfl (ty_ge (n := 0) nk_i0 (fun z3 ez3 => ?_))
    exact ty_rB rfl rfl (by omega) (by omega) ⟨hJ, _, rfl, by omega, by omega, fun q => by omega⟩
  · refine hq_p rfl rfl ?_
    refine hq_p rfl rfl (ty_ge (n := 57) nk_b57 (fun z4 ez4 => ?_))
    refine ty_igt rfl (fun c5 => ?_) (fun c5 => ?_)
    · refine hq_p rfl rfl (ty_ge (n := 0) nk_i0 (fun z6 ez6 => ?_))
      exact ty_rB rfl rfl (by omega) (by omega) ⟨hJ, _, rfl, by omega, by omega, fun q => by omega⟩
    · refine hq_p rfl rfl (ty_ge (n := 1) nk_i1 (fun z7 ez7 => ?_))
      refine hq_p rfl rfl ?_
      exact ty_rB rfl rfl (by omega) (by omega) ⟨hJ, _, rfl, by omega, by omega, fun q => by omega⟩
theorem ct_173 {X : pm_X} {d : Nat} {h : pm_H} {x1 : Int64} (hd : 1 ≤ d)  : ty_M X ty_W0 d 173 [.ref 97, .long x1] h (ty_pi 0 1) := by
  intro J H hJ
  obtain ⟨d, rfl⟩ : ∃ e, d = e + 1 := ⟨d - 1, by omega⟩
  have I := H.1 h hJ
  have ax1 := nm_llo x1
  have bx1 := nm_lhi x1
  refine hq_M.enter (q := (⟨"TrainBearersModel", "isWord", "(J)Z"⟩, _, 3, some .boolean, 11, 2, pm_c173)) rfl rfl ?_
  show hq_W X d 11 false (some .boolean) pm_c173 (0, [some (.ref 97), some (.long x1), none], [], h) (fun h' v => J h' ∧ (ty_pi 0 1) h' v)
  refine hq_p rfl rfl ?_
  refine ty_gI I rfl rfl (by decide) (by decide) rfl rfl (fun z1 ez1 az1 bz1 => ?_)
  refine hq_p rfl rfl (ty_ge (n := 1) nk_i1 (fun z2 ez2 => ?_))
  refine ty_ine rfl (fun c3 => ?_) (fun c3 => ?_)
  · clear c3
    refine hq_p rfl rfl (ty_ge (n := 0) nk_i0 (fun z4 ez4 => ?_))
    exact ty_rB rfl rfl (by omega) (by omega) ⟨hJ, _, rfl, by omega, by omega⟩
  · refine hq_p rfl rfl ?_
    refine ty_gL I rfl rfl (by decide) (by decide) rfl rfl (fun z5 ez5 az5 bz5 => ?_)
    refine hq_p rfl rfl ?_
    refine hq_p rfl rfl (ty_gc (fun z6 ez6 => ?_))
    refine ty_zne rfl (fun c7 => ?_) (fun c7 => ?_)
    · clear ez6 c7
      refine hq_p rfl rfl (ty_ge (n := 0) nk_i0 (fun z8 ez8 => ?_))
      exact ty_rB rfl rfl (by omega) (by omega) ⟨hJ, _, rfl, by omega, by omega⟩
    · replace ez6 : z5.toInt = x1.toInt := by omega
      clear c7
      refine hq_p rfl rfl (ty_ge (n := 1) nk_i1 (fun z9 ez9 => ?_))
      refine hq_p rfl rfl ?_
      exact ty_rB rfl rfl (by omega) (by omega) ⟨hJ, _, rfl, by omega, by omega⟩
theorem ct_174 {X : pm_X} {d : Nat} {h : pm_H} {x1 : Int32} (hd : 1 ≤ d)  : ty_M X ty_W0 d 174 [.ref 97, .int x1] h (ty_pi 0 1) := by
  intro J H hJ
  obtain ⟨d, rfl⟩ : ∃ e, d = e + 1 := ⟨d - 1, by omega⟩
  have I := H.1 h hJ
  have ax1 := nm_lo x1
  have bx1 := nm_hi x1
  refine hq_M.enter (q := (⟨"TrainBearersModel", "isSign", "(I)Z"⟩, _, 2, some .boolean, 11, 2, pm_c174)) rfl rfl ?_
  show hq_W X d 11 false (some .boolean) pm_c174 (0, [some (.ref 97), some (.int x1)], [], h) (fun h' v => J h' ∧ (ty_pi 0 1) h' v)
  refine hq_p rfl rfl ?_
  refine ty_gI I rfl rfl (by decide) (by decide) rfl rfl (fun z1 ez1 az1 bz1 => ?_)
  refine hq_p rfl rfl (ty_ge (n := 3) nk_i3 (fun z2 ez2 => ?_))
  refine ty_ine rfl (fun c3 => ?_) (fun c3 => ?_)
  · clear c3
    refine hq_p rfl rfl (ty_ge (n := 0) nk_i0 (fun z4 ez4 => ?_))
    exact ty_rB rfl rfl (by omega) (by omega) ⟨hJ, _, rfl, by omega, by omega⟩
  · refine hq_p rfl rfl ?_
    refine ty_gL I rfl rfl (by decide) (by decide) rfl rfl (fun z5 ez5 az5 bz5 => ?_)
    refine hq_p rfl rfl ?_
    refine hq_p rfl rfl (ty_gle (n := x1.toInt) (nm_i2l _) (fun z6 ez6 => ?_))
    refine hq_p rfl rfl (ty_gc (fun z7 ez7 => ?_))
    refine ty_zne rfl (fun c8 => ?_) (fun c8 => ?_)
    · clear ez7 c8
      refine hq_p rfl rfl (ty_ge (n := 0) nk_i0 (fun z9 ez9 => ?_))
      exact ty_rB rfl rfl (by omega) (by omega) ⟨hJ, _, rfl, by omega, by omega⟩
    · replace ez7 : z5.toInt = z6.toInt := by omega
      clear c8
      refine hq_p rfl rfl (ty_ge (n := 1) nk_i1 (fun z10 ez10 => ?_))
      refine hq_p rfl rfl ?_
      exact ty_rB rfl rfl (by omega) (by omega) ⟨hJ, _, rfl, by omega, by omega⟩
theorem ct_180 {X : pm_X} {d : Nat} {h : pm_H} {x0 : Int32} (hd : 1 ≤ d)  : ty_M X ty_W0 d 180 [.int x0] h (ty_pi 0 6) := by
  intro J H hJ
  obtain ⟨d, rfl⟩ : ∃ e, d = e + 1 := ⟨d - 1, by omega⟩
  have I := H.1 h hJ
  have ax0 := nm_lo x0
  have bx0 := nm_hi x0
  refine hq_M.enter (q := (⟨"TrainBearersModel", "binds", "(I)I"⟩, _, 1, some .int, 11, 1, pm_c180)) rfl rfl ?_
  show hq_W X d 11 false (some .int) pm_c180 (0, [some (.int x0)], [], h) (fun h' v => J h' ∧ (ty_pi 0 6) h' v)
  refine hq_p rfl rfl ?_
  refine hq_p rfl rfl (ty_ge (n := 31) nk_b31 (fun z1 ez1 => ?_))
  refine ty_ilt rfl (fun c2 => ?_) (fun c2 => ?_)
  · refine hq_p rfl rfl ?_
    refine hq_p rfl rfl (ty_ge (n := 30) nk_b30 (fun z3 ez3 => ?_))
    refine ty_ine rfl (fun c4 => ?_) (fun c4 => ?_)
    · replace c4 : -2147483648 ≤ x0.toInt ∧ x0.toInt ≤ 29 := by omega
      refine hq_p rfl rfl ?_
      refine hq_p rfl rfl (ty_ge (n := 29) nk_b29 (fun z5 ez5 => ?_))
      refine ty_ine rfl (fun c6 => ?_) (fun c6 => ?_)
      · replace c6 : -2147483648 ≤ x0.toInt ∧ x0.toInt ≤ 28 := by omega
        refine hq_p rfl rfl ?_
        refine hq_p rfl rfl (ty_ge (n := 28) nk_b28 (fun z7 ez7 => ?_))
        refine ty_ine rfl (fun c8 => ?_) (fun c8 => ?_)
        · replace c8 : -2147483648 ≤ x0.toInt ∧ x0.toInt ≤ 27 := by omega
          refine hq_p rfl rfl ?_
          refine hq_p rfl rfl (ty_ge (n := 25) nk_b25 (fun z9 ez9 => ?_))
          refine ty_ilt rfl (fun c10 => ?_) (fun c10 => ?_)
          · refine hq_p rfl rfl ?_
            refine hq_p rfl rfl (ty_ge (n := 22) nk_b22 (fun z11 ez11 => ?_))
            refine ty_ilt rfl (fun c12 => ?_) (fun c12 => ?_)
            · refine hq_p rfl rfl (ty_ge (n := 5) nk_i5 (fun z13 ez13 => ?_))
              exact hq_W.ret rfl rfl rfl ⟨hJ, _, rfl, by omega, by omega⟩
            · refine hq_p rfl rfl (ty_ge (n := 6) nk_b6 (fun z14 ez14 => ?_))
              refine hq_p rfl rfl ?_
              exact hq_W.ret rfl rfl rfl ⟨hJ, _, rfl, by omega, by omega⟩
          · refine hq_p rfl rfl (ty_ge (n := 4) nk_i4 (fun z15 ez15 => ?_))
            refine hq_p rfl rfl ?_
            exact hq_W.ret rfl rfl rfl ⟨hJ, _, rfl, by omega, by omega⟩
        · refine hq_p rfl rfl (ty_ge (n := 3) nk_i3 (fun z16 ez16 => ?_))
          refine hq_p rfl rfl ?_
          exact hq_W.ret rfl rfl rfl ⟨hJ, _, rfl, by omega, by omega⟩
      · refine hq_p rfl rfl (ty_ge (n := 2) nk_i2 (fun z17 ez17 => ?_))
        refine hq_p rfl rfl ?_
        exact hq_W.ret rfl rfl rfl ⟨hJ, _, rfl, by omega, by omega⟩
    · refine hq_p rfl rfl (ty_ge (n := 1) nk_i1 (fun z18 ez18 => ?_))
      refine hq_p rfl rfl ?_
      exact hq_W.ret rfl rfl rfl ⟨hJ, _, rfl, by omega, by omega⟩
  · refine hq_p rfl rfl (ty_ge (n := 0) nk_i0 (fun z19 ez19 => ?_))
    refine hq_p rfl rfl ?_
    exact hq_W.ret rfl rfl rfl ⟨hJ, _, rfl, by omega, by omega⟩
theorem ct_182 {X : pm_X} {d : Nat} {h : pm_H}  (hd : 1 ≤ d)  : ty_M X ty_W0 d 182 [.ref 97] h (ty_pi (-2147483648) 2147483647) := by
  intro J H hJ
  obtain ⟨d, rfl⟩ : ∃ e, d = e + 1 := ⟨d - 1, by omega⟩
  have I := H.1 h hJ
  refine hq_M.enter (q := (⟨"TrainBearersModel", "inner", "()I"⟩, _, 3, some .int, 11, 1, pm_c182)) rfl rfl ?_
  show hq_W X d 11 false (some .int) pm_c182 (0, [some (.ref 97), none, none], [], h) (fun h' v => J h' ∧ (ty_pi (-2147483648) 2147483647) h' v)
  refine hq_p rfl rfl (ty_ge (n := -1) nk_im1 (fun z1 ez1 => ?_))
  refine hq_p (ls' := [some (.ref 97), some (.int z1), none]) rfl rfl ?_
  refine hq_p rfl rfl (ty_ge (n := 0) nk_i0 (fun z2 ez2 => ?_))
  refine hq_p (ls' := [some (.ref 97), some (.int z1), some (.int z2)]) rfl rfl ?_
  have L4_n79 : ∀ n79 : Nat, ∀ (y75 : Int32) (y76 : Int32), (400 - y76.toInt).toNat = n79 → -2147483648 ≤ y75.toInt → y75.toInt ≤ 2147483647 → 0 ≤ y76.toInt → y76.toInt ≤ 400 → hq_W X d 11 false (some .int) pm_c182 (4, [some (.ref 97), some (.int y75), some (.int y76)], [], h) (fun h' v => J h' ∧ (ty_pi (-2147483648) 2147483647) h' v) := by
    intro n79
    induction n79 using Nat.strongRecOn with
    | ind n79 ihn79 =>
      intro y75 y76 mn79 ay75 by75 ay76 by76
      refine hq_p rfl rfl ?_
      refine hq_p rfl rfl ?_
      refine ty_gI I rfl rfl (by decide) (by decide) rfl rfl (fun z80 ez80 az80 bz80 => ?_)
      refine ty_ige rfl (fun c81 => ?_) (fun c81 => ?_)
      · refine hq_p rfl rfl ?_
        exact hq_W.ret rfl rfl rfl ⟨hJ, _, rfl, by omega, by omega⟩
      · refine hq_p rfl rfl ?_
        refine hq_gR I.1 rfl rfl (by decide) (by decide) rfl ?_
        refine hq_p rfl rfl ?_
        refine ty_aL I rfl rfl (by decide) (by omega) (by omega) (fun _ _ => ty_le rfl) (fun z82 ez82 az82 bz82 => ?_)
        refine hq_p rfl rfl (ty_ge (n := 31) nk_b31 (fun z83 ez83 => ?_))
        refine ty_ilt rfl (fun c84 => ?_) (fun c84 => ?_)
        · refine hq_p rfl rfl ?_
          refine hq_p (ls' := [some (.ref 97), some (.int y75), some (.int y76)]) rfl rfl ?_
          refine ty_inc (ls' := fun z85 => [some (.ref 97), some (.int y75), some (.int z85)]) rfl rfl (fun _ => rfl) (nm_addc nk_i1 (by omega) (by omega)) (fun z85 ez85 => ?_)
          refine hq_p rfl rfl ?_
          exact ihn79 ((400 - z85.toInt).toNat) (by omega) y75 z85 rfl (by omega) (by omega) (by omega) (by omega)
        · refine hq_p rfl rfl ?_
          refine hq_gR I.1 rfl rfl (by decide) (by decide) rfl ?_
          refine hq_p rfl rfl ?_
          refine ty_aL I rfl rfl (by decide) (by omega) (by omega) (fun _ _ => ty_le rfl) (fun z86 ez86 az86 bz86 => ?_)
          refine hq_p rfl rfl ?_
          refine hq_p (ls' := [some (.ref 97), some (.int z86), some (.int y76)]) rfl rfl ?_
          refine ty_inc (ls' := fun z87 => [some (.ref 97), some (.int z86), some (.int z87)]) rfl rfl (fun _ => rfl) (nm_addc nk_i1 (by omega) (by omega)) (fun z87 ez87 => ?_)
          refine hq_p rfl rfl ?_
          exact ihn79 ((400 - z87.toInt).toNat) (by omega) z86 z87 rfl (by omega) (by omega) (by omega) (by omega)
  exact L4_n79 _ z1 z2 rfl (by omega) (by omega) (by omega) (by omega)
theorem ct_183 {X : pm_X} {d : Nat} {h : pm_H}  (hd : 2 ≤ d)  : ty_M X ty_W0 d 183 [.ref 97] h (ty_pi 0 1) := by
  intro J H hJ
  obtain ⟨d, rfl⟩ : ∃ e, d = e + 1 := ⟨d - 1, by omega⟩
  have I := H.1 h hJ
  refine hq_M.enter (q := (⟨"TrainBearersModel", "isCompared", "()Z"⟩, _, 2, some .boolean, 11, 1, pm_c183)) rfl rfl ?_
  show hq_W X d 11 false (some .boolean) pm_c183 (0, [some (.ref 97), none], [], h) (fun h' v => J h' ∧ (ty_pi 0 1) h' v)
  refine hq_p rfl rfl ?_
  refine ty_gI I rfl rfl (by decide) (by decide) rfl rfl (fun z1 ez1 az1 bz1 => ?_)
  refine hq_p rfl rfl (ty_ge (n := 1) nk_i1 (fun z2 ez2 => ?_))
  refine hq_p rfl rfl (ty_ge (n := z1.toInt - z2.toInt) (nm_sub (by omega) (by omega)) (fun z3 ez3 => ?_))
  refine hq_p (ls' := [some (.ref 97), some (.int z3)]) rfl rfl ?_
  have L7_n7 : ∀ n7 : Nat, ∀ (y5 : Int32), (y5.toInt - (-1)).toNat = n7 → -1 ≤ y5.toInt → y5.toInt ≤ 399 → hq_W X d 11 false (some .boolean) pm_c183 (7, [some (.ref 97), some (.int y5)], [], h) (fun h' v => J h' ∧ (ty_pi 0 1) h' v) := by
    intro n7
    induction n7 using Nat.strongRecOn with
    | ind n7 ihn7 =>
      intro y5 mn7 ay5 by5
      refine hq_p rfl rfl ?_
      refine ty_zlt rfl (fun c8 => ?_) (fun c8 => ?_)
      · refine hq_p rfl rfl ?_
        refine ty_zlt rfl (fun c9 => ?_) (fun c9 => ?_)
        · refine hq_p rfl rfl (ty_ge (n := 0) nk_i0 (fun z10 ez10 => ?_))
          exact ty_rB rfl rfl (by omega) (by omega) ⟨hJ, _, rfl, by omega, by omega⟩
        · exfalso; omega
      · refine hq_p rfl rfl ?_
        refine hq_gR I.1 rfl rfl (by decide) (by decide) rfl ?_
        refine hq_p rfl rfl ?_
        refine ty_aL I rfl rfl (by decide) (by omega) (by omega) (fun _ _ => ty_le rfl) (fun z11 ez11 az11 bz11 => ?_)
        refine hq_p rfl rfl (ty_gle (n := z11.toInt) (nm_i2l _) (fun z12 ez12 => ?_))
        refine hq_p rfl rfl (ty_gle (n := 20) (by decide) (fun z13 ez13 => ?_))
        refine hq_p rfl rfl (ty_gle (n := 24) (by decide) (fun z14 ez14 => ?_))
        refine ty_callp 1 I rfl (fun _ => rfl) rfl rfl rfl rfl (ct_136 (x0 := z12) (x1 := z13) (x2 := z14) (by omega)) (fun _ P15 => ?_)
        obtain ⟨z16, rfl, az16, bz16, iz16⟩ := P15
        refine ty_zeq rfl (fun c17 => ?_) (fun c17 => ?_)
        · clear iz16
          refine hq_p rfl rfl ?_
          refine ty_zlt rfl (fun c18 => ?_) (fun c18 => ?_)
          · exfalso; omega
          · refine hq_p rfl rfl ?_
            refine hq_gR I.1 rfl rfl (by decide) (by decide) rfl ?_
            refine hq_p rfl rfl ?_
            refine ty_aL I rfl rfl (by decide) (by omega) (by omega) (fun _ _ => ty_le rfl) (fun z19 ez19 az19 bz19 => ?_)
            refine hq_p rfl rfl (ty_gle (n := z19.toInt) (nm_i2l _) (fun z20 ez20 => ?_))
            refine hq_p rfl rfl (ty_gle (n := 25) (by decide) (fun z21 ez21 => ?_))
            refine hq_p rfl rfl (ty_gle (n := 27) (by decide) (fun z22 ez22 => ?_))
            refine ty_callp 1 I rfl (fun _ => rfl) rfl rfl rfl rfl (ct_136 (x0 := z20) (x1 := z21) (x2 := z22) (by omega)) (fun _ P23 => ?_)
            obtain ⟨z24, rfl, az24, bz24, iz24⟩ := P23
            refine ty_zeq rfl (fun c25 => ?_) (fun c25 => ?_)
            · clear iz24
              refine hq_p rfl rfl (ty_ge (n := 0) nk_i0 (fun z26 ez26 => ?_))
              exact ty_rB rfl rfl (by omega) (by omega) ⟨hJ, _, rfl, by omega, by omega⟩
            · replace c25 : 1 ≤ z24.toInt ∧ z24.toInt ≤ 1 := by omega
              have f27 := iz24 (by omega)
              clear iz24
              refine hq_p rfl rfl (ty_ge (n := 1) nk_i1 (fun z28 ez28 => ?_))
              refine hq_p rfl rfl ?_
              exact ty_rB rfl rfl (by omega) (by omega) ⟨hJ, _, rfl, by omega, by omega⟩
        · replace c17 : 1 ≤ z16.toInt ∧ z16.toInt ≤ 1 := by omega
          have f29 := iz16 (by omega)
          clear iz16
          refine ty_inc (ls' := fun z30 => [some (.ref 97), some (.int z30)]) rfl rfl (fun _ => rfl) (nm_addc nk_im1 (by omega) (by omega)) (fun z30 ez30 => ?_)
          refine hq_p rfl rfl ?_
          exact ihn7 ((z30.toInt - (-1)).toNat) (by omega) z30 rfl (by omega) (by omega)
  exact L7_n7 _ z3 rfl (by omega) (by omega)
theorem ct_184 {X : pm_X} {d : Nat} {h : pm_H}  (hd : 2 ≤ d)  : ty_M X ty_W0 d 184 [.ref 97] h (ty_pi (-1) 10) := by
  intro J H hJ
  obtain ⟨d, rfl⟩ : ∃ e, d = e + 1 := ⟨d - 1, by omega⟩
  have I := H.1 h hJ
  refine hq_M.enter (q := (⟨"TrainBearersModel", "partAt", "()I"⟩, _, 3, some .int, 11, 1, pm_c184)) rfl rfl ?_
  show hq_W X d 11 false (some .int) pm_c184 (0, [some (.ref 97), none, none], [], h) (fun h' v => J h' ∧ (ty_pi (-1) 10) h' v)
  refine hq_p rfl rfl (ty_ge (n := -1) nk_im1 (fun z1 ez1 => ?_))
  refine hq_p (ls' := [some (.ref 97), some (.int z1), none]) rfl rfl ?_
  refine hq_p rfl rfl (ty_ge (n := 0) nk_i0 (fun z2 ez2 => ?_))
  refine hq_p (ls' := [some (.ref 97), some (.int z1), some (.int z2)]) rfl rfl ?_
  have L4_n29 : ∀ n29 : Nat, ∀ (y25 : Int32) (y26 : Int32), (10 - y26.toInt).toNat = n29 → -1 ≤ y25.toInt → y25.toInt ≤ 10 → 0 ≤ y26.toInt → y26.toInt ≤ 10 → hq_W X d 11 false (some .int) pm_c184 (4, [some (.ref 97), some (.int y25), some (.int y26)], [], h) (fun h' v => J h' ∧ (ty_pi (-1) 10) h' v) := by
    intro n29
    induction n29 using Nat.strongRecOn with
    | ind n29 ihn29 =>
      intro y25 y26 mn29 ay25 by25 ay26 by26
      refine hq_p rfl rfl ?_
      refine hq_p rfl rfl (ty_ge (n := 10) nk_b10 (fun z30 ez30 => ?_))
      refine ty_ige rfl (fun c31 => ?_) (fun c31 => ?_)
      · refine hq_p rfl rfl ?_
        exact hq_W.ret rfl rfl rfl ⟨hJ, _, rfl, by omega, by omega⟩
      · refine hq_p rfl rfl ?_
        refine hq_p rfl rfl ?_
        refine hq_gR I.1 rfl rfl (by decide) (by decide) rfl ?_
        refine hq_p rfl rfl ?_
        refine ty_lL I rfl rfl (by decide) (by omega) (by omega) (fun z32 ez32 az32 bz32 => ?_)
        refine ty_callp 0 I rfl (fun _ => rfl) rfl rfl rfl (hq_pre_o I.1 (x := 97) (ci := 11) rfl (by decide) rfl rfl rfl rfl) (ct_173 (x1 := z32) (by omega)) (fun _ P33 => ?_)
        obtain ⟨z34, rfl, az34, bz34⟩ := P33
        refine ty_zeq rfl (fun c35 => ?_) (fun c35 => ?_)
        · refine hq_p rfl rfl ?_
          refine hq_p (ls' := [some (.ref 97), some (.int y25), some (.int y26)]) rfl rfl ?_
          refine ty_inc (ls' := fun z36 => [some (.ref 97), some (.int y25), some (.int z36)]) rfl rfl (fun _ => rfl) (nm_addc nk_i1 (by omega) (by omega)) (fun z36 ez36 => ?_)
          refine hq_p rfl rfl ?_
          exact ihn29 ((10 - z36.toInt).toNat) (by omega) y25 z36 rfl (by omega) (by omega) (by omega) (by omega)
        · replace c35 : 1 ≤ z34.toInt ∧ z34.toInt ≤ 1 := by omega
          refine hq_p rfl rfl ?_
          refine hq_p rfl rfl (ty_ge (n := 1) nk_i1 (fun z37 ez37 => ?_))
          refine hq_p rfl rfl (ty_ge (n := y26.toInt + z37.toInt) (nm_add (by omega) (by omega)) (fun z38 ez38 => ?_))
          refine hq_p rfl rfl ?_
          refine hq_p (ls' := [some (.ref 97), some (.int z38), some (.int y26)]) rfl rfl ?_
          refine ty_inc (ls' := fun z39 => [some (.ref 97), some (.int z38), some (.int z39)]) rfl rfl (fun _ => rfl) (nm_addc nk_i1 (by omega) (by omega)) (fun z39 ez39 => ?_)
          refine hq_p rfl rfl ?_
          exact ihn29 ((10 - z39.toInt).toNat) (by omega) z38 z39 rfl (by omega) (by omega) (by omega) (by omega)
  exact L4_n29 _ z1 z2 rfl (by omega) (by omega) (by omega) (by omega)
theorem ct_185 {X : pm_X} {d : Nat} {h : pm_H}  (hd : 2 ≤ d)  : ty_M X ty_W0 d 185 [.ref 97] h (ty_pi (-1) 7) := by
  intro J H hJ
  obtain ⟨d, rfl⟩ : ∃ e, d = e + 1 := ⟨d - 1, by omega⟩
  have I := H.1 h hJ
  refine hq_M.enter (q := (⟨"TrainBearersModel", "orderPartAt", "()I"⟩, _, 3, some .int, 11, 1, pm_c185)) rfl rfl ?_
  show hq_W X d 11 false (some .int) pm_c185 (0, [some (.ref 97), none, none], [], h) (fun h' v => J h' ∧ (ty_pi (-1) 7) h' v)
  refine hq_p rfl rfl (ty_ge (n := -1) nk_im1 (fun z1 ez1 => ?_))
  refine hq_p (ls' := [some (.ref 97), some (.int z1), none]) rfl rfl ?_
  refine hq_p rfl rfl (ty_ge (n := 0) nk_i0 (fun z2 ez2 => ?_))
  refine hq_p (ls' := [some (.ref 97), some (.int z1), some (.int z2)]) rfl rfl ?_
  have L4_n23 : ∀ n23 : Nat, ∀ (y19 : Int32) (y20 : Int32), (7 - y20.toInt).toNat = n23 → -1 ≤ y19.toInt → y19.toInt ≤ 7 → 0 ≤ y20.toInt → y20.toInt ≤ 7 → hq_W X d 11 false (some .int) pm_c185 (4, [some (.ref 97), some (.int y19), some (.int y20)], [], h) (fun h' v => J h' ∧ (ty_pi (-1) 7) h' v) := by
    intro n23
    induction n23 using Nat.strongRecOn with
    | ind n23 ihn23 =>
      intro y19 y20 mn23 ay19 by19 ay20 by20
      refine hq_p rfl rfl ?_
      refine hq_p rfl rfl (ty_ge (n := 7) nk_b7 (fun z24 ez24 => ?_))
      refine ty_ige rfl (fun c25 => ?_) (fun c25 => ?_)
      · refine hq_p rfl rfl ?_
        exact hq_W.ret rfl rfl rfl ⟨hJ, _, rfl, by omega, by omega⟩
      · refine hq_p rfl rfl ?_
        refine hq_p rfl rfl ?_
        refine hq_gR I.1 rfl rfl (by decide) (by decide) rfl ?_
        refine hq_p rfl rfl ?_
        refine ty_lL I rfl rfl (by decide) (by omega) (by omega) (fun z26 ez26 az26 bz26 => ?_)
        refine ty_callp 0 I rfl (fun _ => rfl) rfl rfl rfl (hq_pre_o I.1 (x := 97) (ci := 11) rfl (by decide) rfl rfl rfl rfl) (ct_173 (x1 := z26) (by omega)) (fun _ P27 => ?_)
        obtain ⟨z28, rfl, az28, bz28⟩ := P27
        refine ty_zeq rfl (fun c29 => ?_) (fun c29 => ?_)
        · refine hq_p rfl rfl ?_
          refine hq_p (ls' := [some (.ref 97), some (.int y19), some (.int y20)]) rfl rfl ?_
          refine ty_inc (ls' := fun z30 => [some (.ref 97), some (.int y19), some (.int z30)]) rfl rfl (fun _ => rfl) (nm_addc nk_i1 (by omega) (by omega)) (fun z30 ez30 => ?_)
          refine hq_p rfl rfl ?_
          exact ihn23 ((7 - z30.toInt).toNat) (by omega) y19 z30 rfl (by omega) (by omega) (by omega) (by omega)
        · replace c29 : 1 ≤ z28.toInt ∧ z28.toInt ≤ 1 := by omega
          refine hq_p rfl rfl ?_
          refine hq_p rfl rfl (ty_ge (n := 1) nk_i1 (fun z31 ez31 => ?_))
          refine hq_p rfl rfl (ty_ge (n := y20.toInt + z31.toInt) (nm_add (by omega) (by omega)) (fun z32 ez32 => ?_))
          refine hq_p rfl rfl ?_
          refine hq_p (ls' := [some (.ref 97), some (.int z32), some (.int y20)]) rfl rfl ?_
          refine ty_inc (ls' := fun z33 => [some (.ref 97), some (.int z32), some (.int z33)]) rfl rfl (fun _ => rfl) (nm_addc nk_i1 (by omega) (by omega)) (fun z33 ez33 => ?_)
          refine hq_p rfl rfl ?_
          exact ihn23 ((7 - z33.toInt).toNat) (by omega) z32 z33 rfl (by omega) (by omega) (by omega) (by omega)
  exact L4_n23 _ z1 z2 rfl (by omega) (by omega) (by omega) (by omega)
end CT21
