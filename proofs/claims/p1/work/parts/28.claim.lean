/-! the claim -/
theorem ev_cases {xs : Nat → Int32} : ∃ E, ev_sat E 6 xs ∧ ev_fin (ev_law E 20 7 ev_s1) = true := by
  obtain ⟨c, hc, hx⟩ := ev_c64 (xs 0)
  have hs := ev_sat0 hx
  have fin : ∀ T : Lean.RArray Unit, ev_chk ev_s1 c T ev_bd0 = true → ∃ E, ev_sat E 6 xs ∧ ev_fin (ev_law E 20 7 ev_s1) = true := fun T hT => ev_chk_ok T _ hT hs
  have grp : ∀ (G : List (Nat × Lean.RArray Unit)), G.all (fun q => ev_chk ev_s1 q.1 q.2 ev_bd0) = true → ∀ T, (c, T) ∈ G → ∃ E, ev_sat E 6 xs ∧ ev_fin (ev_law E 20 7 ev_s1) = true := fun G hG T hT => fin T (List.all_eq_true.mp hG _ hT)
  match c, hc with
  | 0, _ => exact grp _ ev_kg0 _ (List.mem_of_getElem? (i := 0) rfl)
  | 1, _ => exact grp _ ev_kg0 _ (List.mem_of_getElem? (i := 1) rfl)
  | 2, _ => exact grp _ ev_kg0 _ (List.mem_of_getElem? (i := 2) rfl)
  | 3, _ => exact grp _ ev_kg0 _ (List.mem_of_getElem? (i := 3) rfl)
  | 4, _ => exact grp _ ev_kg0 _ (List.mem_of_getElem? (i := 4) rfl)
  | 5, _ => exact grp _ ev_kg1 _ (List.mem_of_getElem? (i := 0) rfl)
  | 6, _ => exact grp _ ev_kg2 _ (List.mem_of_getElem? (i := 0) rfl)
  | 7, _ => exact grp _ ev_kg2 _ (List.mem_of_getElem? (i := 1) rfl)
  | 8, _ => exact grp _ ev_kg2 _ (List.mem_of_getElem? (i := 2) rfl)
  | 9, _ => exact grp _ ev_kg2 _ (List.mem_of_getElem? (i := 3) rfl)
  | 10, _ => exact grp _ ev_kg2 _ (List.mem_of_getElem? (i := 4) rfl)
  | 11, _ => exact grp _ ev_kg2 _ (List.mem_of_getElem? (i := 5) rfl)
  | 12, _ => exact grp _ ev_kg3 _ (List.mem_of_getElem? (i := 0) rfl)
  | 13, _ => exact grp _ ev_kg3 _ (List.mem_of_getElem? (i := 1) rfl)
  | 14, _ => exact grp _ ev_kg3 _ (List.mem_of_getElem? (i := 2) rfl)
  | 15, _ => exact grp _ ev_kg3 _ (List.mem_of_getElem? (i := 3) rfl)
  | 16, _ => exact grp _ ev_kg3 _ (List.mem_of_getElem? (i := 4) rfl)
  | 17, _ => exact grp _ ev_kg3 _ (List.mem_of_getElem? (i := 5) rfl)
  | 18, _ => exact grp _ ev_kg3 _ (List.mem_of_getElem? (i := 6) rfl)
  | 19, _ => exact grp _ ev_kg3 _ (List.mem_of_getElem? (i := 7) rfl)
  | 20, _ => exact grp _ ev_kg3 _ (List.mem_of_getElem? (i := 8) rfl)
  | 21, _ => exact grp _ ev_kg3 _ (List.mem_of_getElem? (i := 9) rfl)
  | 22, _ => exact grp _ ev_kg4 _ (List.mem_of_getElem? (i := 0) rfl)
  | 23, _ => exact grp _ ev_kg4 _ (List.mem_of_getElem? (i := 1) rfl)
  | 24, _ => exact grp _ ev_kg4 _ (List.mem_of_getElem? (i := 2) rfl)
  | 25, _ => exact grp _ ev_kg4 _ (List.mem_of_getElem? (i := 3) rfl)
  | 26, _ => exact grp _ ev_kg4 _ (List.mem_of_getElem? (i := 4) rfl)
  | 27, _ => exact grp _ ev_kg4 _ (List.mem_of_getElem? (i := 5) rfl)
  | 28, _ => exact fin _ ev_rn0
  | 29, _ => exact fin _ ev_rn39
  | 30, _ => exact grp _ ev_kg4 _ (List.mem_of_getElem? (i := 6) rfl)
  | 31, _ => exact grp _ ev_kg4 _ (List.mem_of_getElem? (i := 7) rfl)
  | 32, _ => exact grp _ ev_kg4 _ (List.mem_of_getElem? (i := 8) rfl)
  | 33, _ => exact grp _ ev_kg4 _ (List.mem_of_getElem? (i := 9) rfl)
  | 34, _ => exact grp _ ev_kg4 _ (List.mem_of_getElem? (i := 10) rfl)
  | 35, _ => exact grp _ ev_kg4 _ (List.mem_of_getElem? (i := 11) rfl)
  | 36, _ => exact grp _ ev_kg4 _ (List.mem_of_getElem? (i := 12) rfl)
  | 37, _ => exact fin _ ev_rn54
  | 38, _ => exact grp _ ev_kg4 _ (List.mem_of_getElem? (i := 13) rfl)
  | 39, _ => exact grp _ ev_kg4 _ (List.mem_of_getElem? (i := 14) rfl)
  | 40, _ => exact grp _ ev_kg4 _ (List.mem_of_getElem? (i := 15) rfl)
  | 41, _ => exact grp _ ev_kg4 _ (List.mem_of_getElem? (i := 16) rfl)
  | 42, _ => exact grp _ ev_kg4 _ (List.mem_of_getElem? (i := 17) rfl)
  | 43, _ => exact grp _ ev_kg4 _ (List.mem_of_getElem? (i := 18) rfl)
  | 44, _ => exact grp _ ev_kg4 _ (List.mem_of_getElem? (i := 19) rfl)
  | 45, _ => exact grp _ ev_kg4 _ (List.mem_of_getElem? (i := 20) rfl)
  | 46, _ => exact grp _ ev_kg4 _ (List.mem_of_getElem? (i := 21) rfl)
  | 47, _ => exact grp _ ev_kg4 _ (List.mem_of_getElem? (i := 22) rfl)
  | 48, _ => exact grp _ ev_kg4 _ (List.mem_of_getElem? (i := 23) rfl)
  | 49, _ => exact grp _ ev_kg4 _ (List.mem_of_getElem? (i := 24) rfl)
  | 50, _ => exact grp _ ev_kg4 _ (List.mem_of_getElem? (i := 25) rfl)
  | 51, _ => exact grp _ ev_kg4 _ (List.mem_of_getElem? (i := 26) rfl)
  | 52, _ => exact grp _ ev_kg4 _ (List.mem_of_getElem? (i := 27) rfl)
  | 53, _ => exact grp _ ev_kg4 _ (List.mem_of_getElem? (i := 28) rfl)
  | 54, _ => exact grp _ ev_kg4 _ (List.mem_of_getElem? (i := 29) rfl)
  | 55, _ => exact grp _ ev_kg4 _ (List.mem_of_getElem? (i := 30) rfl)
  | 56, _ => exact grp _ ev_kg4 _ (List.mem_of_getElem? (i := 31) rfl)
  | 57, _ => exact grp _ ev_kg4 _ (List.mem_of_getElem? (i := 32) rfl)
  | 58, _ => exact grp _ ev_kg4 _ (List.mem_of_getElem? (i := 33) rfl)
  | 59, _ => exact grp _ ev_kg4 _ (List.mem_of_getElem? (i := 34) rfl)
  | 60, _ => exact grp _ ev_kg4 _ (List.mem_of_getElem? (i := 35) rfl)
  | 61, _ => exact grp _ ev_kg4 _ (List.mem_of_getElem? (i := 36) rfl)
  | 62, _ => exact grp _ ev_kg4 _ (List.mem_of_getElem? (i := 37) rfl)
  | 63, _ => exact grp _ ev_kg4 _ (List.mem_of_getElem? (i := 38) rfl)
  | n + 64, h => exact absurd h (by omega)
theorem whole_start {p : Program} {e : Env} {s : State} {m : MethodId} {below : List Frame} {meth : Method} {c : Code} (l : Launch) (hflags : l.flags = flags0) {b L : Nat} {xs : Nat → Int32} (hL : L ≤ 6) (C0 : lw_At p s m meth c b L xs) : W p l e room_1 s m #[Value.ref b] below meth c s.heap [] 0 0 (lw_Z below #[Value.ref b] s) (entryFrame m ([Value.ref b] : List Value).toArray 4) := by
  have hE : ∃ E, ev_sat E L xs ∧ ev_fin (ev_law E 20 7 ev_s1) = true := by
    by_cases h6 : L = 6
    · subst h6; exact ev_cases
    · have hlt : L < 6 := by omega
      exact ⟨(L + 1, 0, []), ⟨Or.inr ⟨rfl, hL⟩, (fun h => by have h : L + 1 = 7 := h; omega), (fun i q h => by cases h)⟩, List.all_eq_true.mp ev_small L (List.mem_range.mpr hlt)⟩
  obtain ⟨E, h1, h2⟩ := hE
  obtain ⟨hf, z1, z2, hrun⟩ := ev_ends ev_pre h1 h2
  exact pm_start l C0 (d := 20) (by decide) z1 z2 hrun
-- ===== YOUR PART ENDS =====
set_option maxHeartbeats 4000000 in
theorem lw_walk (l : Launch) (hflags : l.flags = flags0) (b : Addr) (xs : List Int32) : MetFree l x (headSpec (Jvm.Cond.code x code maxLocals ret :: tables_1) room_1) (lw_P b xs) (fun _ _ _ _ _ => True) lw_Q := by
  refine MetFree.of_bodyS (code := code) (maxLocals := maxLocals) (ret := ret) (by decide) ?_ ?_
  · intro args s m h hn
    obtain ⟨meth, c, h1, h2, h3, h4, h5, h6, -, -⟩ := Cond.code_spec hn (atoms_spec (ws := Jvm.Cond.code x code maxLocals ret :: tables_1) h _ List.mem_cons_self)
    exact ⟨meth, c, h1, h2, h3, h4, h5, h6⟩
  · intro p e s m args below meth c s₁ B hml0 hP _
    obtain ⟨rfl, hx, hbd, hgv⟩ := hP
    obtain ⟨scr, harrAt, hlist, hof, hsmall⟩ := hx
    obtain ⟨hcb, hkn, -, -⟩ := State.arrayAt?_spec harrAt
    have hown : s.vm.findClass R_law = some m.cls := findClass_of_methodNamed B.named
    have hts0 : ∀ c ∈ (Jvm.Cond.code x code maxLocals ret :: tables_1), c.before #[Value.ref b] s = true := atoms_spec (ws := Jvm.Cond.code x code maxLocals ret :: tables_1) B.pre
    have hts : ∀ w ∈ lw_tbl, w.before #[Value.ref b] s = true := k2_hts_sels lw_privs (fun w hw => hts0 w (List.mem_cons_of_mem _ hw)) lw_privs_ok
    have hml : c.maxLocals = 4 := B.maxLocals_eq (hts0 _ List.mem_cons_self)
    have X₀ : Stand p l e room_1 s m #[Value.ref b] below meth c s₁ [] 0 0 := Stand.of_body B
    have hh0 : s₁.heap = s.heap := by rw [B.state]; rfl
    have hsz : scr.slots.size = xs.length := by rw [← Array.length_toList, hlist, List.length_map]
    have hval : ∀ j : Nat, j < xs.length → scr.slots[j]? = some (.int (xs.getD j 0)) := fun j hj => by
      rw [← Array.getElem?_toList, hlist]
      simp [hj]
    have hbl : b < s.heap.size := (Array.getElem?_eq_some_iff.mp hcb).1
    have hX : va_X b xs.length (fun j => xs.getD j 0) s s.heap := ⟨scr, hcb, hof, hkn, hsz, hval⟩
    have K : W p l e room_1 s m #[Value.ref b] below meth c s₁.heap [] 0 0 (lw_Z below #[Value.ref b] s) (entryFrame m ([Value.ref b] : List Value).toArray 4) := by
      rw [hh0]
      exact whole_start l hflags hbd ⟨B.exec, B.bytes, B.returns, hml, hown, hts, hX, hbl, B.notSynchronized, hgv⟩
    obtain ⟨t, a1, o, b1, b2, b3⟩ := K s₁ rfl X₀
    exact ⟨t, o, a1, b1, b2, b3⟩
theorem lw_pre_spec {args : Array Value} {s : State} (h : (Jvm.Cond.and given_1 narrow_1).before args s = true) (hr : rest_1_c.before args s = true) : ∃ (b : Addr) (xs : List Int32), lw_P b xs args s := by
  have hs := flat_of_before _ h
  have hq := flat_of_before _ hr
  have hc : (Cond.count 1).before args s = true := hs _ (by decide +kernel)
  have harr : (Cond.arrayOf (.arg 0) .int).before args s = true := hs _ (by decide +kernel)
  have hle : (Cond.le (.length (.arg 0)) (.int 6)).before args s = true := hs _ (by decide +kernel)
  have hlen : (Cond.isInt (.length (.arg 0))).before args s = true := hq _ (by decide +kernel)
  have hall : (Cond.all (.arg 0) (.isInt (.elem (.arg 0) (.index 0)))).before args s = true := hq _ (by decide +kernel)
  obtain ⟨b, xs, hb, hx⟩ := State.ints_of_pre rfl harr hlen hall
  have hsm : xs.length < 2 ^ 31 := hx.choose_spec.2.2.2
  have hev : (Term.length (.arg 0)).eval args s none [] s = some (.int xs.length.toInt32) := hx.length_eval hb
  have hv := Cond.le_ints hev (show (Term.int 6).eval args s none [] s = some (.int 6) from rfl)
  have hd : xs.length.toInt32 ≤ 6 := by
    simpa [Cond.before, Cond.holds, hv] using hle
  have hN : xs.length ≤ 6 := (Int32.ofNat_le_ofNat hsm (by decide)).mp (show Int32.ofNat xs.length ≤ Int32.ofNat 6 from hd)
  exact ⟨b, xs, Cond.one_arg hc (show args[0]? = some (.ref b) from hb), hx, hN, h⟩
theorem lw_comes (l : Launch) (hflags : l.flags = flags0) : Comes l x (Jvm.Cond.code x code maxLocals ret :: tables_1) room_1 (fun tb e args s => Calls_1 tb e args s ∧ rest_1 tb e args s ∧ Pre_1 tb e args s)
    (fun _ _ args s o t => lw_Q args s o t) := by
  intro p e ha hc hk s m args below hf hfit hheap happ hpre
  obtain ⟨b, xs, hP⟩ := lw_pre_spec hpre.2.2 hpre.2.1
  obtain ⟨k, o, h1, h2, h3, hQ⟩ := lw_walk l hflags b xs p e ha hc hk s m args below hf ((Spec.applies_iff_loose hf).mp happ).1 hP trivial
  exact ⟨k, o, h1, h2, h3, hQ⟩
theorem lw_frame {s t : State} {o : Outcome} {args : Array Value} (h : Framed s o t [] 600000 7302250) :
    Framed s o t (fieldLocs frame_1_writes args s ++ arrayLocs frame_1_arrays args s ++ staticLocs frame_1_statics s) 600000 7302250 := h
theorem lw_limb (L : Cond) (hL : ∀ (args : Array Value) (s t : State), L.after args s (.returned (some (.int 1))) t = true) :
    ArmFor flags0 classFile x code maxLocals ret World_1 tables_1 room_1 Calls_1 rest_1 Pre_1
      (fun tb e a s o t => postC L tb e a s o t ∧ Framed s o t (fieldLocs frame_1_writes a s ++ arrayLocs frame_1_arrays a s ++ staticLocs frame_1_statics s) 600000 7302250) := by
  intro l hflags _ _ p e ha hc hk s m args below hf hfit hheap happ hpre
  obtain ⟨k, o, h1, h2, h3, rfl, hF⟩ := lw_comes l hflags p e ha hc hk s m args below hf hfit hheap happ hpre
  exact ⟨k, _, h1, h2, h3, hL args s _, lw_frame hF⟩
theorem i_vc : Claimed_1_1 ∧ Claimed_1_2 := ⟨lw_limb limb_1_1 (fun args s t => by simp [limb_1_1, Cond.after, Cond.holds, Cond.value]), lw_limb limb_1_2 (fun args s t => Cond.after_iff.mpr (by
  first | (rw [show limb_1_2 = Cond.eq .result (.int 1) from rfl, Cond.eq_ints (x := 1) (y := 1) rfl rfl]; simp; done) | (simp [limb_1_2, Cond.value, Term.eval]; done)))⟩
