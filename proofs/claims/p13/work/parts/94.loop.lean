/-! THE LAW'S LOOP -/
section LOO
theorem al_len2 {n : Nat} (h : n ≤ 3072) : (Int32.ofNat n).toInt = n := by
  have q : (Int32.ofNat n).toInt = ((n : Int)).bmod (2 ^ 32) := Int32.toInt_ofNat'
  rw [q]
  exact nm_bm (by omega) (by omega)
set_option maxRecDepth 20000 in
set_option maxHeartbeats 20000000 in
theorem tp_turn {X : pm_X} {d L n : Nat} {xs : Nat → Int32} {h : pm_H} {i0 : Int32} {Q : pm_H → Option Value → Prop} (hd : 120 ≤ d) (hX : ty_SX X) (hS : ∀ h, pm_arr X h (.retAddr 200) = some (0, L, .inl xs)) (hL : L ≤ 3072) (a0 : 0 ≤ i0.toInt) (b0 : i0.toInt + 6 ≤ L) (hK : tq_K n h) (K : ∀ h1, tq_K (n + 1) h1 → hq_W X d 12 false (some .boolean) pm_cL (1205, [some (.retAddr 200), some (.ref 0), some (.ref 97), some (.int i0)], [], h1) Q) : hq_W X d 12 false (some .boolean) pm_cL (27, [some (.retAddr 200), some (.ref 0), some (.ref 97), some (.int i0)], [], h) Q := by
  refine hq_p rfl rfl ?_
  refine hq_p rfl rfl ?_
  refine hq_iald rfl (hS h) (hs_in (by omega) (by omega)) (ty_ga (fun z1 a1 b1 => ?_))
  refine hq_p rfl rfl (ty_ge (n := 63) nk_b63 (fun z2 e2 => ?_))
  refine hq_p rfl rfl (ty_gb (c := z1 &&& z2) (lo := 0) (hi := 63) (by have q := nm_and_r (x := z1) (y := z2) (by omega); omega) (fun z3 a3 b3 => ?_))
  rcases (show z3.toInt = 0 ∨ z3.toInt = 1 ∨ z3.toInt = 2 ∨ z3.toInt = 3 ∨ z3.toInt = 4 ∨ z3.toInt = 5 ∨ z3.toInt = 6 ∨ z3.toInt = 7 ∨ z3.toInt = 8 ∨ z3.toInt = 9 ∨ z3.toInt = 10 ∨ z3.toInt = 11 ∨ z3.toInt = 12 ∨ z3.toInt = 13 ∨ z3.toInt = 14 ∨ z3.toInt = 15 ∨ z3.toInt = 16 ∨ z3.toInt = 17 ∨ z3.toInt = 18 ∨ z3.toInt = 19 ∨ z3.toInt = 20 ∨ z3.toInt = 21 ∨ z3.toInt = 22 ∨ z3.toInt = 23 ∨ z3.toInt = 24 ∨ z3.toInt = 25 ∨ z3.toInt = 26 ∨ z3.toInt = 27 ∨ z3.toInt = 28 ∨ z3.toInt = 29 ∨ z3.toInt = 30 ∨ z3.toInt = 31 ∨ z3.toInt = 32 ∨ z3.toInt = 33 ∨ z3.toInt = 34 ∨ z3.toInt = 35 ∨ z3.toInt = 36 ∨ z3.toInt = 37 ∨ z3.toInt = 38 ∨ z3.toInt = 39 ∨ z3.toInt = 40 ∨ (z3.toInt < 0 ∨ 40 < z3.toInt) by omega) with c | c | c | c | c | c | c | c | c | c | c | c | c | c | c | c | c | c | c | c | c | c | c | c | c | c | c | c | c | c | c | c | c | c | c | c | c | c | c | c | c | c
  · refine ty_ts (n := 0) rfl c rfl rfl (by decide) ?_
    exact tb_0 hd hX hS hL a0 b0 hK K
  · refine ty_ts (n := 1) rfl c rfl rfl (by decide) ?_
    exact tb_1 hd hX hS hL a0 b0 hK K
  · refine ty_ts (n := 2) rfl c rfl rfl (by decide) ?_
    exact tb_2 hd hX hS hL a0 b0 hK K
  · refine ty_ts (n := 3) rfl c rfl rfl (by decide) ?_
    exact tb_3 hd hX hS hL a0 b0 hK K
  · refine ty_ts (n := 4) rfl c rfl rfl (by decide) ?_
    exact tb_4 hd hX hS hL a0 b0 hK K
  · refine ty_ts (n := 5) rfl c rfl rfl (by decide) ?_
    exact tb_5 hd hX hS hL a0 b0 hK K
  · refine ty_ts (n := 6) rfl c rfl rfl (by decide) ?_
    exact tb_6 hd hX hS hL a0 b0 hK K
  · refine ty_ts (n := 7) rfl c rfl rfl (by decide) ?_
    exact tb_7 hd hX hS hL a0 b0 hK K
  · refine ty_ts (n := 8) rfl c rfl rfl (by decide) ?_
    exact tb_8 hd hX hS hL a0 b0 hK K
  · refine ty_ts (n := 9) rfl c rfl rfl (by decide) ?_
    exact tb_9 hd hX hS hL a0 b0 hK K
  · refine ty_ts (n := 10) rfl c rfl rfl (by decide) ?_
    exact tb_10 hd hX hS hL a0 b0 hK K
  · refine ty_ts (n := 11) rfl c rfl rfl (by decide) ?_
    exact tb_11 hd hX hS hL a0 b0 hK K
  · refine ty_ts (n := 12) rfl c rfl rfl (by decide) ?_
    exact tb_12 hd hX hS hL a0 b0 hK K
  · refine ty_ts (n := 13) rfl c rfl rfl (by decide) ?_
    exact tb_13 hd hX hS hL a0 b0 hK K
  · refine ty_ts (n := 14) rfl c rfl rfl (by decide) ?_
    exact tb_14 hd hX hS hL a0 b0 hK K
  · refine ty_ts (n := 15) rfl c rfl rfl (by decide) ?_
    exact tb_15 hd hX hS hL a0 b0 hK K
  · refine ty_ts (n := 16) rfl c rfl rfl (by decide) ?_
    exact tb_16 hd hX hS hL a0 b0 hK K
  · refine ty_ts (n := 17) rfl c rfl rfl (by decide) ?_
    exact tb_17 hd hX hS hL a0 b0 hK K
  · refine ty_ts (n := 18) rfl c rfl rfl (by decide) ?_
    exact tb_18 hd hX hS hL a0 b0 hK K
  · refine ty_ts (n := 19) rfl c rfl rfl (by decide) ?_
    exact tb_19 hd hX hS hL a0 b0 hK K
  · refine ty_ts (n := 20) rfl c rfl rfl (by decide) ?_
    exact tb_20 hd hX hS hL a0 b0 hK K
  · refine ty_ts (n := 21) rfl c rfl rfl (by decide) ?_
    exact tb_21 hd hX hS hL a0 b0 hK K
  · refine ty_ts (n := 22) rfl c rfl rfl (by decide) ?_
    exact tb_22 hd hX hS hL a0 b0 hK K
  · refine ty_ts (n := 23) rfl c rfl rfl (by decide) ?_
    exact tb_23 hd hX hS hL a0 b0 hK K
  · refine ty_ts (n := 24) rfl c rfl rfl (by decide) ?_
    exact tb_24 hd hX hS hL a0 b0 hK K
  · refine ty_ts (n := 25) rfl c rfl rfl (by decide) ?_
    exact tb_25 hd hX hS hL a0 b0 hK K
  · refine ty_ts (n := 26) rfl c rfl rfl (by decide) ?_
    exact tb_26 hd hX hS hL a0 b0 hK K
  · refine ty_ts (n := 27) rfl c rfl rfl (by decide) ?_
    exact tb_27 hd hX hS hL a0 b0 hK K
  · refine ty_ts (n := 28) rfl c rfl rfl (by decide) ?_
    exact tb_28 hd hX hS hL a0 b0 hK K
  · refine ty_ts (n := 29) rfl c rfl rfl (by decide) ?_
    exact tb_29 hd hX hS hL a0 b0 hK K
  · refine ty_ts (n := 30) rfl c rfl rfl (by decide) ?_
    exact tb_30 hd hX hS hL a0 b0 hK K
  · refine ty_ts (n := 31) rfl c rfl rfl (by decide) ?_
    exact tb_31 hd hX hS hL a0 b0 hK K
  · refine ty_ts (n := 32) rfl c rfl rfl (by decide) ?_
    exact tb_32 hd hX hS hL a0 b0 hK K
  · refine ty_ts (n := 33) rfl c rfl rfl (by decide) ?_
    exact tb_33 hd hX hS hL a0 b0 hK K
  · refine ty_ts (n := 34) rfl c rfl rfl (by decide) ?_
    exact tb_34 hd hX hS hL a0 b0 hK K
  · refine ty_ts (n := 35) rfl c rfl rfl (by decide) ?_
    exact tb_35 hd hX hS hL a0 b0 hK K
  · refine ty_ts (n := 36) rfl c rfl rfl (by decide) ?_
    exact tb_36 hd hX hS hL a0 b0 hK K
  · refine ty_ts (n := 37) rfl c rfl rfl (by decide) ?_
    exact tb_37 hd hX hS hL a0 b0 hK K
  · refine ty_ts (n := 38) rfl c rfl rfl (by decide) ?_
    exact tb_38 hd hX hS hL a0 b0 hK K
  · refine ty_ts (n := 39) rfl c rfl rfl (by decide) ?_
    exact tb_39 hd hX hS hL a0 b0 hK K
  · refine ty_ts (n := 40) rfl c rfl rfl (by decide) ?_
    exact tb_40 hd hX hS hL a0 b0 hK K
  · refine ty_td rfl c (by decide) ?_
    obtain ⟨T, j, r⟩ := hK
    exact K h (tq_1 j r)
set_option maxRecDepth 20000 in
theorem tp_loop {X : pm_X} {d L : Nat} {xs : Nat → Int32} (hd : 120 ≤ d) (hX : ty_SX X) (hS : ∀ h, pm_arr X h (.retAddr 200) = some (0, L, .inl xs)) (hL : L ≤ 3072) : ∀ m : Nat, ∀ (n : Nat) (i0 : Int32) (h : pm_H), (3072 - i0.toInt).toNat = m → i0.toInt = 6 * n → n ≤ 512 → tq_K n h → hq_W X d 12 false (some .boolean) pm_cL (18, [some (.retAddr 200), some (.ref 0), some (.ref 97), some (.int i0)], [], h) (fun h' v => v = some (.int 1) ∧ h'.1 ≤ 600000 ∧ h'.2.1 ≤ 7302250) := by
  intro m
  induction m using Nat.strongRecOn with
  | ind m ih =>
    intro n i0 h em ei hn hK
    refine hq_p rfl rfl ?_
    refine hq_p rfl rfl ?_
    refine hq_alen rfl (hS h) rfl (ty_ge (c := Int32.ofNat L) (n := L) (al_len2 hL) (fun z1 e1 => ?_))
    refine hq_p rfl rfl (ty_ge (n := 6) nk_b6 (fun z2 e2 => ?_))
    refine hq_p rfl rfl (ty_ge (n := z1.toInt - z2.toInt) (nm_sub (by omega) (by omega)) (fun z3 e3 => ?_))
    refine ty_igt rfl (fun c => ?_) (fun c => ?_)
    · refine hq_p rfl rfl ?_
      obtain ⟨T, j, _⟩ := hK
      have s1 := j.1.1.2.2.2.1
      have s2 := j.1.1.2.2.2.2
      refine hq_W.ret rfl rfl rfl ⟨rfl, ?_, ?_⟩
      · exact Nat.le_trans s1 (by omega)
      · exact Nat.le_trans s2 (by omega)
    · refine tp_turn hd hX hS hL (by omega) (by omega) hK (fun h1 hK1 => ?_)
      refine ty_inc (ls' := fun z => [some (.retAddr 200), some (.ref 0), some (.ref 97), some (.int z)]) rfl rfl (fun _ => rfl) (nm_addc (n := 6) (by decide) (by omega) (by omega)) (fun z4 e4 => ?_)
      refine hq_p rfl rfl ?_
      exact ih ((3072 - z4.toInt).toNat) (by omega) (n + 1) z4 h1 rfl (by omega) (by omega) hK1
end LOO
