/-! the law, from its entry -/
theorem lw_at {w : Cond} (i : Nat) (h : tables_1[i]? = some w) : w ∈ lw_tbl := List.mem_append_right _ (List.mem_of_getElem? h)
theorem tk_L_8 : Cond.classLink RL 8 RX8 ∈ TBL := (tbl_at 21 (by decide +kernel) (by decide +kernel))
theorem tk_inX8 : Cond.instantiable RX8 10 ∈ TBL := (tbl_at 22 (by decide +kernel) (by decide +kernel))
theorem tk_itX8 : Cond.initialized RX8 ∈ TBL := (tbl_at 1 (by decide +kernel) (by decide +kernel))
theorem tk_L_47 : Cond.methodLink RL 47 yX8_init ∈ TBL := (tbl_at 23 (by decide +kernel) (by decide +kernel))
theorem tk_L_48 : Cond.classLink RL 48 RX9 ∈ TBL := (tbl_at 874 (by decide +kernel) (by decide +kernel))
theorem tk_inX9 : Cond.instantiable RX9 51 ∈ TBL := (tbl_at 875 (by decide +kernel) (by decide +kernel))
theorem tk_itX9 : Cond.initialized RX9 ∈ TBL := (tbl_at 10 (by decide +kernel) (by decide +kernel))
theorem tk_L_50 : Cond.methodLink RL 50 yX9_init ∈ TBL := (tbl_at 876 (by decide +kernel) (by decide +kernel))
theorem arr_kn {args : Array Value} {s : State} {ty : FieldType} (hn : ∀ C, ty ≠ .object C) (h : (Cond.arrayClass ty).before args s = true) : ∃ cA : ClassId, ArrOfT s cA ty ∧ va_RA s cA ty := by
  obtain ⟨c1, k, comp, h1, h2, h3⟩ := Cond.arrayClass_spec h
  refine ⟨c1, fun n z => ⟨fun k h => (by cases h), k, h2, comp, h3⟩, ?_⟩
  cases ty with
  | object C => exact absurd rfl (hn C)
  | _ => exact h1
theorem K_start {args : Array Value} {s : State} (hts : ∀ w ∈ TBL, w.before args s = true) : ∃ (D : va_G) (cA : Nat → ClassId), va_K D vwCl (tyz cA) s := by
  obtain ⟨c0, iS0, hk0⟩ := u_known (C := RX0) (T := TX0) (N := 7) (n := 7) hts iX0 (hts _ tk_inX0)
  obtain ⟨c1, iS1, hk1⟩ := u_known (C := RX1) (T := TX1) (N := 5) (n := 5) hts iX1 (hts _ tk_inX1)
  obtain ⟨c2, iS2, hk2⟩ := u_known (C := RX2) (T := TX2) (N := 4) (n := 4) hts iX2 (hts _ tk_inX2)
  obtain ⟨c3, iS3, hk3⟩ := u_known (C := RX3) (T := TX3) (N := 2) (n := 2) hts iX3 (hts _ tk_inX3)
  obtain ⟨c4, iS4, hk4⟩ := u_known (C := RX4) (T := TX4) (N := 5) (n := 5) hts iX4 (hts _ tk_inX4)
  obtain ⟨c5, iS5, hk5⟩ := u_known (C := RX5) (T := TX5) (N := 13) (n := 13) hts iX5 (hts _ tk_inX5)
  obtain ⟨c6, iS6, hk6⟩ := u_known (C := RX6) (T := TX6) (N := 5) (n := 5) hts iX6 (hts _ tk_inX6)
  obtain ⟨c7, iS7, hk7⟩ := u_known (C := RX7) (T := TX7) (N := 6) (n := 6) hts iX7 (hts _ tk_inX7)
  obtain ⟨c8, iS8, hk8⟩ := u_known (C := RX8) (T := TX8) (N := 10) (n := 10) hts iX8 (hts _ tk_inX8)
  obtain ⟨c9, iS9, hk9⟩ := u_known (C := RX9) (T := TX9) (N := 51) (n := 51) hts iX9 (hts _ tk_inX9)
  obtain ⟨a1, ha1⟩ := arr_kn (ty := .int) (fun _ h => by cases h) (hts _ tk_aint)
  obtain ⟨a2, ha2⟩ := arr_kn (ty := .byte) (fun _ h => by cases h) (hts _ tk_abyte)
  obtain ⟨a3, ha3⟩ := arr_kn (ty := .boolean) (fun _ h => by cases h) (hts _ tk_aboolean)
  obtain ⟨a4, ha4⟩ := arr_kn (ty := .long) (fun _ h => by cases h) (hts _ tk_along)
  refine ⟨(fun k => ([c0, c1, c2, c3, c4, c5, c6, c7, c8, c9] : List ClassId).getD k c0, fun k => ([iS0, iS1, iS2, iS3, iS4, iS5, iS6, iS7, iS8, iS9] : List (Nat → Nat)).getD k iS0), fun k => ([a1, a1, a2, a3, a4] : List ClassId).getD k a1, fun k r hr => ?_, fun k r hr => ?_⟩
  · match k, hr with
    | 0, hr => cases hr; exact hk0
    | 1, hr => cases hr; exact hk1
    | 2, hr => cases hr; exact hk2
    | 3, hr => cases hr; exact hk3
    | 4, hr => cases hr; exact hk4
    | 5, hr => cases hr; exact hk5
    | 6, hr => cases hr; exact hk6
    | 7, hr => cases hr; exact hk7
    | 8, hr => cases hr; exact hk8
    | 9, hr => cases hr; exact hk9
    | k + 10, hr => simp [vwCl] at hr
  · match k, hr with
    | 0, hr => cases hr; exact ha1
    | 1, hr => cases hr; exact ha2
    | 2, hr => cases hr; exact ha3
    | 3, hr => cases hr; exact ha4
    | k + 4, hr => simp [tyz] at hr
theorem str_kn {args : Array Value} {s : State} {k : Nat} {tx : String} {cur : ClassId} (hc : s.vm.findClass RX8 = some cur) (h : (Cond.stringRef RX8 k tx).before args s = true) : ∃ a, vk_R RX8 k tx a s := by
  obtain ⟨_, _, _, a, _, _, _, _, _, h1⟩ := Cond.stringRef_spec hc h
  refine ⟨a, ?_, ?_⟩
  · exact h
  · exact h1
set_option maxRecDepth 100000 in
set_option maxHeartbeats 4000000 in
theorem Th_start {args : Array Value} {s : State} {A : Nat → Prop} (hts : ∀ w ∈ lw_tbl, w.before args s = true) (hs : ∀ c ∈ flatC (Jvm.Cond.and given_1 narrow_1), c.before args s = true) (hA : ∀ a : Nat, a < s.heap.size → ¬ A a) : Th A s s.heap := by
  obtain ⟨cur, _, hcur, _⟩ := Cond.instantiable_spec (hts (Cond.instantiable RX8 10) (tbl_lw _ tk_inX8))
  refine ⟨?_, ?_, fun k => ?_, fun x hx => ?_, fun r hr => ?_⟩
  · exact vx_Zqof (hts (Cond.laysStatic Bundle.tN "UNASSIGNED_STACK" Bundle.steD) (lw_at 631 (by decide +kernel))) (hts (Cond.initialized Bundle.tN) (lw_at 11 (by decide +kernel))) (hs (Cond.isRef (.static Bundle.tN "UNASSIGNED_STACK" Bundle.steD)) (by decide +kernel)) hA
  · exact vx_Zqof (hts (Cond.laysStatic Bundle.tN "SUPPRESSED_SENTINEL" Bundle.listD) (lw_at 633 (by decide +kernel))) (hts (Cond.initialized Bundle.tN) (lw_at 11 (by decide +kernel))) (hs (Cond.isRef (.static Bundle.tN "SUPPRESSED_SENTINEL" Bundle.listD)) (by decide +kernel)) hA
  · have x1 : va_Nw (.castable (XE 1) (XE 1)) s := va_Nw.of rfl (hts (Cond.castable (XE 1) (XE 1)) (lw_at 606 (by decide +kernel)))
    have x2 : va_Nw (.castable (XE 2) (XE 2)) s := va_Nw.of rfl (hts (Cond.castable (XE 2) (XE 2)) (lw_at 687 (by decide +kernel)))
    have x3 : va_Nw (.castable (XE 3) (XE 3)) s := va_Nw.of rfl (hts (Cond.castable (XE 3) (XE 3)) (lw_at 712 (by decide +kernel)))
    have x4 : va_Nw (.castable (XE 4) (XE 4)) s := va_Nw.of rfl (hts (Cond.castable (XE 4) (XE 4)) (lw_at 728 (by decide +kernel)))
    match k with
    | 0 => exact x4
    | 1 => exact x1
    | 2 => exact x2
    | 3 => exact x3
    | k + 4 => exact x4
  · rcases List.mem_cons.mp hx with hx | hx
    · subst hx; exact va_Nw.of rfl (hts _ (lw_at 608 (by decide +kernel)))
    · rcases List.mem_cons.mp hx with hx | hx
      · subst hx; exact va_Nw.of rfl (hts _ (lw_at 610 (by decide +kernel)))
      · cases List.mem_singleton.mp hx; exact va_Nw.of rfl (hts _ (lw_at 612 (by decide +kernel)))
  · have all : ∀ r ∈ strX, Cond.stringRef RX8 r.1 r.2 ∈ lw_tbl := by
      intro r hr
      unfold strX at hr
      rcases List.mem_cons.mp hr with hr | hr
      · subst hr; exact (lw_at 646 (by decide +kernel))
      rcases List.mem_cons.mp hr with hr | hr
      · subst hr; exact (lw_at 694 (by decide +kernel))
      rcases List.mem_cons.mp hr with hr | hr
      · subst hr; exact (lw_at 719 (by decide +kernel))
      rcases List.mem_cons.mp hr with hr | hr
      · subst hr; exact (lw_at 735 (by decide +kernel))
      rcases List.mem_cons.mp hr with hr | hr
      · subst hr; exact (lw_at 830 (by decide +kernel))
      rcases List.mem_cons.mp hr with hr | hr
      · subst hr; exact (lw_at 831 (by decide +kernel))
      rcases List.mem_cons.mp hr with hr | hr
      · subst hr; exact (lw_at 840 (by decide +kernel))
      rcases List.mem_cons.mp hr with hr | hr
      · subst hr; exact (lw_at 841 (by decide +kernel))
      rcases List.mem_cons.mp hr with hr | hr
      · subst hr; exact (lw_at 853 (by decide +kernel))
      rcases List.mem_cons.mp hr with hr | hr
      · subst hr; exact (lw_at 854 (by decide +kernel))
      rcases List.mem_cons.mp hr with hr | hr
      · subst hr; exact (lw_at 864 (by decide +kernel))
      rcases List.mem_cons.mp hr with hr | hr
      · subst hr; exact (lw_at 873 (by decide +kernel))
      cases hr
    exact str_kn hcur (hts _ (all r hr))
set_option maxRecDepth 100000 in
theorem Nk_start {args : Array Value} {s : State} (hs : ∀ c ∈ flatC (Jvm.Cond.and given_1 narrow_1), c.before args s = true) : Nk s := ⟨va_Nc.of (hs (Cond.not (.castable (XE 4) (XE 3))) (by decide +kernel)), va_Nc.of (hs (Cond.not (.castable (XE 2) (XE 4))) (by decide +kernel))⟩
set_option maxRecDepth 100000 in
theorem Nst_start {args : Array Value} {s : State} (hts : ∀ w ∈ lw_tbl, w.before args s = true) : Nst s := ⟨va_Nw.of rfl (hts (.methodLinkNest RX8 11 yX4_init "TreeJoiner") (lw_at 31 (by decide +kernel))), va_Nw.of rfl (hts (.methodLinkNest RX8 18 yX1_init "TreeJoiner") (lw_at 67 (by decide +kernel)))⟩
set_option maxRecDepth 100000 in
set_option maxHeartbeats 4000000 in
theorem Z_start0 {args : Array Value} {s : State} {A : Nat → Prop} (hts : ∀ w ∈ lw_tbl, w.before args s = true) (hs : ∀ c ∈ flatC (Jvm.Cond.and given_1 narrow_1), c.before args s = true) (hA : ∀ a : Nat, a < s.heap.size → ¬ A a) : ∃ b : Nat, va_Z RX0 "SECOND" "[I" (.ref b) A s s.heap ∧ va_T .int b 9 (fun j => .int (Int32.ofInt (zf0 j))) A s s.heap ∧ b < s.heap.size ∧ ¬ A b := by
  obtain ⟨t, h1, h2⟩ := va_Tof (args := args) (s := s) (tm := .static RX0 "SECOND" "[I") (ty := .int) (N := 9) (f := fun j => .int (Int32.ofInt (zf0 j))) (A := A) (by decide) (hs (Cond.arrayOf (.static RX0 "SECOND" "[I") .int) (by decide +kernel)) (va_eqt (z := 9) (hs (Cond.eq (.length (.static RX0 "SECOND" "[I")) (.int 9)) (by decide +kernel))) (fun j hj => match j, hj with
    | 0, _ => va_eqt (z := 0) (hs (Cond.eq (.elem (.static RX0 "SECOND" "[I") (.int 0)) (.int 0)) (by decide +kernel))
    | 1, _ => va_eqt (z := 1) (hs (Cond.eq (.elem (.static RX0 "SECOND" "[I") (.int 1)) (.int 1)) (by decide +kernel))
    | 2, _ => va_eqt (z := 3) (hs (Cond.eq (.elem (.static RX0 "SECOND" "[I") (.int 2)) (.int 3)) (by decide +kernel))
    | 3, _ => va_eqt (z := 6) (hs (Cond.eq (.elem (.static RX0 "SECOND" "[I") (.int 3)) (.int 6)) (by decide +kernel))
    | 4, _ => va_eqt (z := 10) (hs (Cond.eq (.elem (.static RX0 "SECOND" "[I") (.int 4)) (.int 10)) (by decide +kernel))
    | 5, _ => va_eqt (z := 15) (hs (Cond.eq (.elem (.static RX0 "SECOND" "[I") (.int 5)) (.int 15)) (by decide +kernel))
    | 6, _ => va_eqt (z := 21) (hs (Cond.eq (.elem (.static RX0 "SECOND" "[I") (.int 6)) (.int 21)) (by decide +kernel))
    | 7, _ => va_eqt (z := 28) (hs (Cond.eq (.elem (.static RX0 "SECOND" "[I") (.int 7)) (.int 28)) (by decide +kernel))
    | 8, _ => va_eqt (z := 36) (hs (Cond.eq (.elem (.static RX0 "SECOND" "[I") (.int 8)) (.int 36)) (by decide +kernel))
    | j + 9, h => absurd h (by omega)) hA
  obtain ⟨cell, hc, _⟩ := id h2
  have hb : t < s.heap.size := (Array.getElem?_eq_some_iff.mp hc).1
  exact ⟨t, va_Zref (hts (Cond.laysStatic RX0 "SECOND" "[I") (lw_at 517 (by decide +kernel))) (hts (Cond.initialized RX0) (lw_at 7 (by decide +kernel))) h1 hA, h2, hb, hA t hb⟩
set_option maxRecDepth 100000 in
set_option maxHeartbeats 4000000 in
theorem Z_start1 {args : Array Value} {s : State} {A : Nat → Prop} (hts : ∀ w ∈ lw_tbl, w.before args s = true) (hs : ∀ c ∈ flatC (Jvm.Cond.and given_1 narrow_1), c.before args s = true) (hA : ∀ a : Nat, a < s.heap.size → ¬ A a) : ∃ b : Nat, va_Z RX0 "THIRD" "[I" (.ref b) A s s.heap ∧ va_T .int b 9 (fun j => .int (Int32.ofInt (zf1 j))) A s s.heap ∧ b < s.heap.size ∧ ¬ A b := by
  obtain ⟨t, h1, h2⟩ := va_Tof (args := args) (s := s) (tm := .static RX0 "THIRD" "[I") (ty := .int) (N := 9) (f := fun j => .int (Int32.ofInt (zf1 j))) (A := A) (by decide) (hs (Cond.arrayOf (.static RX0 "THIRD" "[I") .int) (by decide +kernel)) (va_eqt (z := 9) (hs (Cond.eq (.length (.static RX0 "THIRD" "[I")) (.int 9)) (by decide +kernel))) (fun j hj => match j, hj with
    | 0, _ => va_eqt (z := 0) (hs (Cond.eq (.elem (.static RX0 "THIRD" "[I") (.int 0)) (.int 0)) (by decide +kernel))
    | 1, _ => va_eqt (z := 1) (hs (Cond.eq (.elem (.static RX0 "THIRD" "[I") (.int 1)) (.int 1)) (by decide +kernel))
    | 2, _ => va_eqt (z := 4) (hs (Cond.eq (.elem (.static RX0 "THIRD" "[I") (.int 2)) (.int 4)) (by decide +kernel))
    | 3, _ => va_eqt (z := 10) (hs (Cond.eq (.elem (.static RX0 "THIRD" "[I") (.int 3)) (.int 10)) (by decide +kernel))
    | 4, _ => va_eqt (z := 20) (hs (Cond.eq (.elem (.static RX0 "THIRD" "[I") (.int 4)) (.int 20)) (by decide +kernel))
    | 5, _ => va_eqt (z := 35) (hs (Cond.eq (.elem (.static RX0 "THIRD" "[I") (.int 5)) (.int 35)) (by decide +kernel))
    | 6, _ => va_eqt (z := 56) (hs (Cond.eq (.elem (.static RX0 "THIRD" "[I") (.int 6)) (.int 56)) (by decide +kernel))
    | 7, _ => va_eqt (z := 84) (hs (Cond.eq (.elem (.static RX0 "THIRD" "[I") (.int 7)) (.int 84)) (by decide +kernel))
    | 8, _ => va_eqt (z := 120) (hs (Cond.eq (.elem (.static RX0 "THIRD" "[I") (.int 8)) (.int 120)) (by decide +kernel))
    | j + 9, h => absurd h (by omega)) hA
  obtain ⟨cell, hc, _⟩ := id h2
  have hb : t < s.heap.size := (Array.getElem?_eq_some_iff.mp hc).1
  exact ⟨t, va_Zref (hts (Cond.laysStatic RX0 "THIRD" "[I") (lw_at 519 (by decide +kernel))) (hts (Cond.initialized RX0) (lw_at 7 (by decide +kernel))) h1 hA, h2, hb, hA t hb⟩
set_option maxRecDepth 100000 in
set_option maxHeartbeats 4000000 in
theorem Z_start2 {args : Array Value} {s : State} {A : Nat → Prop} (hts : ∀ w ∈ lw_tbl, w.before args s = true) (hs : ∀ c ∈ flatC (Jvm.Cond.and given_1 narrow_1), c.before args s = true) (hA : ∀ a : Nat, a < s.heap.size → ¬ A a) : ∃ b : Nat, va_Z RX0 "FOURTH" "[I" (.ref b) A s s.heap ∧ va_T .int b 9 (fun j => .int (Int32.ofInt (zf2 j))) A s s.heap ∧ b < s.heap.size ∧ ¬ A b := by
  obtain ⟨t, h1, h2⟩ := va_Tof (args := args) (s := s) (tm := .static RX0 "FOURTH" "[I") (ty := .int) (N := 9) (f := fun j => .int (Int32.ofInt (zf2 j))) (A := A) (by decide) (hs (Cond.arrayOf (.static RX0 "FOURTH" "[I") .int) (by decide +kernel)) (va_eqt (z := 9) (hs (Cond.eq (.length (.static RX0 "FOURTH" "[I")) (.int 9)) (by decide +kernel))) (fun j hj => match j, hj with
    | 0, _ => va_eqt (z := 0) (hs (Cond.eq (.elem (.static RX0 "FOURTH" "[I") (.int 0)) (.int 0)) (by decide +kernel))
    | 1, _ => va_eqt (z := 1) (hs (Cond.eq (.elem (.static RX0 "FOURTH" "[I") (.int 1)) (.int 1)) (by decide +kernel))
    | 2, _ => va_eqt (z := 5) (hs (Cond.eq (.elem (.static RX0 "FOURTH" "[I") (.int 2)) (.int 5)) (by decide +kernel))
    | 3, _ => va_eqt (z := 15) (hs (Cond.eq (.elem (.static RX0 "FOURTH" "[I") (.int 3)) (.int 15)) (by decide +kernel))
    | 4, _ => va_eqt (z := 35) (hs (Cond.eq (.elem (.static RX0 "FOURTH" "[I") (.int 4)) (.int 35)) (by decide +kernel))
    | 5, _ => va_eqt (z := 70) (hs (Cond.eq (.elem (.static RX0 "FOURTH" "[I") (.int 5)) (.int 70)) (by decide +kernel))
    | 6, _ => va_eqt (z := 126) (hs (Cond.eq (.elem (.static RX0 "FOURTH" "[I") (.int 6)) (.int 126)) (by decide +kernel))
    | 7, _ => va_eqt (z := 210) (hs (Cond.eq (.elem (.static RX0 "FOURTH" "[I") (.int 7)) (.int 210)) (by decide +kernel))
    | 8, _ => va_eqt (z := 330) (hs (Cond.eq (.elem (.static RX0 "FOURTH" "[I") (.int 8)) (.int 330)) (by decide +kernel))
    | j + 9, h => absurd h (by omega)) hA
  obtain ⟨cell, hc, _⟩ := id h2
  have hb : t < s.heap.size := (Array.getElem?_eq_some_iff.mp hc).1
  exact ⟨t, va_Zref (hts (Cond.laysStatic RX0 "FOURTH" "[I") (lw_at 521 (by decide +kernel))) (hts (Cond.initialized RX0) (lw_at 7 (by decide +kernel))) h1 hA, h2, hb, hA t hb⟩
theorem Sx_start {args : Array Value} {s : State} {A : Nat → Prop} (hts : ∀ w ∈ lw_tbl, w.before args s = true) (hs : ∀ c ∈ flatC (Jvm.Cond.and given_1 narrow_1), c.before args s = true) (hA : ∀ a : Nat, a < s.heap.size → ¬ A a) : Sx zsC A s s.heap := by
  intro r hr
  unfold zsC at hr
  rcases List.mem_cons.mp hr with hr | hr
  · subst hr; exact Z_start0 hts hs hA
  · rcases List.mem_cons.mp hr with hr | hr
    · subst hr; exact Z_start1 hts hs hA
    · cases List.mem_singleton.mp hr; exact Z_start2 hts hs hA
def σI : St := fun o k => if o < 29 then σ0 o k else if o < 59 then τ0 (o - 29) k else 0
theorem R_I : R (fun o => σI (0 + o)) (mM σI) := by
  refine R_cg R_init (fun o k h => ?_) (fun o k h => ?_)
  · show σI (0 + o) k = _
    unfold σI
    rw [Nat.zero_add, if_pos h]
  · rw [mM_in h]
    unfold σI
    rw [if_neg (by omega), if_pos (by omega), show 29 + o - 29 = o by omega]
theorem Ap_D {D : va_G} {cA : Nat → ClassId} {sh : List Sh} {ad : Nat → Nat} {σ : St} {A : Nat → Prop} (h : va_D A (wl cA ad σ 0 sh)) : Ap sh ad ∧ ∀ o, o < sh.length → A (ad o) := by
  refine ⟨fun i j hi hj e => ?_, fun o ho => ?_⟩
  · exact h.1 i j _ _ (wl_at (List.getElem?_eq_getElem hi)) (wl_at (List.getElem?_eq_getElem hj)) e
  · exact h.2 o _ (wl_at (List.getElem?_eq_getElem ho))
set_option maxRecDepth 100000 in
set_option maxHeartbeats 4000000 in
theorem wl_I (cA : Nat → ClassId) (a0 a1 a2 a3 a4 a5 a6 a7 a8 a9 a10 a11 a12 a13 a14 a15 a16 a17 a18 a19 a20 a21 a22 a23 a24 a25 a26 a27 a28 a29 a30 a31 a32 a33 a34 a35 a36 a37 a38 a39 a40 a41 a42 a43 a44 a45 a46 a47 a48 a49 a50 a51 a52 a53 a54 a55 a56 a57 a58 a59 : Nat) : wl cA (fun o => ([a0, a1, a2, a3, a4, a5, a6, a7, a8, a9, a10, a11, a12, a13, a14, a15, a16, a17, a18, a19, a20, a21, a22, a23, a24, a25, a26, a27, a28, a29, a30, a31, a32, a33, a34, a35, a36, a37, a38, a39, a40, a41, a42, a43, a44, a45, a46, a47, a48, a49, a50, a51, a52, a53, a54, a55, a56, a57, a58, a59] : List Nat).getD o 0) σI 0 shA = [(a0, .inr (8, [.ref a1, .ref a3, .ref a12, .ref a13, .ref a17, .ref a23, .ref a26, vI 0, vI (-1), vI (-1)])), (a1, .inr (4, [.ref a2, vI 0, vI 0, vI 0, vI 0])), (a2, .inl (cA 1, 1000, .inl (fun _ => 0))), (a3, .inr (1, [.ref a4, .ref a7, .ref a10, .ref a11, vI 0])), (a4, .inr (2, [vI 8, .ref a5, .ref a6, vI 0])), (a5, .inl (cA 1, 128, .inl (fun _ => 0))), (a6, .inl (cA 1, 16, .inl (fun _ => 0))), (a7, .inr (2, [vI 12, .ref a8, .ref a9, vI 0])), (a8, .inl (cA 1, 384, .inl (fun _ => 0))), (a9, .inl (cA 1, 32, .inl (fun _ => 0))), (a10, .inl (cA 1, 17, .inl (fun _ => 0))), (a11, .inl (cA 1, 1632, .inl (fun _ => 0))), (a12, .inr (5, [vI 0, vI 0, .ref a1, .ref a3, vI 0, vI 0, vI 0, vI 0, vI 0, vI 0, vI 0, vI 0, vI 0])), (a13, .inr (3, [.ref a14, .ref a1])), (a14, .inr (2, [vI 12, .ref a15, .ref a16, vI 0])), (a15, .inl (cA 1, 96, .inl (fun _ => 0))), (a16, .inl (cA 1, 8, .inl (fun _ => 0))), (a17, .inr (0, [vI 0, .ref a3, .ref a18, .ref a19, .ref a20, .ref a21, .ref a22])), (a18, .inl (cA 1, 8, .inl (fun _ => 0))), (a19, .inl (cA 1, 95040, .inl (fun _ => 0))), (a20, .inl (cA 1, 95040, .inl (fun _ => 0))), (a21, .inl (cA 1, 720, .inl (fun _ => 0))), (a22, .inl (cA 1, 7920, .inl (fun _ => 0))), (a23, .inr (6, [vI 0, .ref a3, .ref a17, .ref a24, .ref a25])), (a24, .inl (cA 1, 56, .inl (fun _ => 0))), (a25, .inl (cA 1, 672, .inl (fun _ => 0))), (a26, .inr (7, [vI 0, .ref a3, .ref a23, .ref a27, .ref a28, vI 0])), (a27, .inl (cA 1, 576, .inl (fun _ => 0))), (a28, .inl (cA 1, 288, .inl (fun _ => 0))), (a29, .inr (9, [vI 0, .ref a30, vI 0, vI 0, vI 0, .ref a31, .ref a32, vI 0, .ref a33, .ref a34, vI 0, .ref a35, .ref a36, .ref a37, .ref a38, .ref a39, .ref a40, .ref a41, .ref a42, .ref a43, .ref a44, .ref a45, .ref a46, vI 0, .ref a47, .ref a48, vI 0, vI 0, vI 0, vI 0, vI 0, vI 0, vI 0, vI 0, vI 0, vI 0, vL (-1), vI 0, .ref a49, .ref a50, .ref a51, .ref a52, vI 0, .ref a53, .ref a54, .ref a55, .ref a56, .ref a57, vI 0, .ref a58, vI 0])), (a30, .inl (cA 2, 1000, .inl (fun _ => 0))), (a31, .inl (cA 2, 136, .inl (fun _ => 0))), (a32, .inl (cA 1, 17, .inl (fun _ => 0))), (a33, .inl (cA 2, 396, .inl (fun _ => 0))), (a34, .inl (cA 1, 33, .inl (fun _ => 0))), (a35, .inl (cA 1, 204, .inl (fun _ => 0))), (a36, .inl (cA 1, 204, .inl (fun _ => 0))), (a37, .inl (cA 1, 204, .inl (fun _ => 0))), (a38, .inl (cA 1, 204, .inl (fun _ => 0))), (a39, .inl (cA 1, 204, .inl (fun _ => 0))), (a40, .inl (cA 1, 204, .inl (fun _ => 0))), (a41, .inl (cA 1, 204, .inl (fun _ => 0))), (a42, .inl (cA 3, 204, .inl (fun _ => 0))), (a43, .inl (cA 3, 204, .inl (fun _ => 0))), (a44, .inl (cA 3, 204, .inl (fun _ => 0))), (a45, .inl (cA 3, 204, .inl (fun _ => 0))), (a46, .inl (cA 1, 17, .inl (fun _ => 0))), (a47, .inl (cA 2, 108, .inl (fun _ => 0))), (a48, .inl (cA 1, 9, .inl (fun _ => 0))), (a49, .inl (cA 1, 6561, .inl (fun _ => 0))), (a50, .inl (cA 4, 95040, .inr (.inl (fun _ => 0)))), (a51, .inl (cA 4, 95040, .inr (.inl (fun _ => 0)))), (a52, .inl (cA 1, 70, .inl (fun _ => 0))), (a53, .inl (cA 1, 120, .inl (fun _ => 0))), (a54, .inl (cA 1, 120, .inl (fun _ => 0))), (a55, .inl (cA 1, 120, .inl (fun _ => 0))), (a56, .inl (cA 1, 1400, .inl (fun _ => 0))), (a57, .inl (cA 4, 200, .inr (.inl (fun _ => 0)))), (a58, .inl (cA 1, 720, .inl (fun _ => 0))), (a59, .inl (cA 4, 1, .inr (.inl (fun _ => 0))))] := rfl
set_option maxRecDepth 100000 in
set_option maxHeartbeats 4000000 in
theorem whole_start {p : Program} {e : Env} {s : State} {m : MethodId} {below : List Frame} {meth : Method} {c : Code} (l : Launch) (hst : l.stackTraces = false) {b L : Nat} {xs : Nat → Int32} (hL : L ≤ 3072) (C0 : lw_At p s m meth c b L xs) : W p l e room_1 s m #[Value.ref b] below meth c s.heap [] 0 0 (lw_Z below #[Value.ref b] s) (entryFrame m ([Value.ref b] : List Value).toArray 7) := by
  obtain ⟨hx, hb, hr, hml, hown, hts, hX, hbl, hlocks, hgv⟩ := id C0
  have hs := flat_of_before _ hgv
  have htb : ∀ w ∈ TBL, w.before #[Value.ref b] s = true := fun w h => hts w (tbl_lw w h)
  obtain ⟨D, cA, hK⟩ := K_start htb
  have NS := Nst_start hts
  have C : CK p s m #[Value.ref b] c cL_law RL 7 D cA (fun q : Nat => s.heap.size ≤ q) := ⟨hx, hb, hown, hml, htb, hK, fun _ h => h⟩
  have key : KW p l e room_1 s m #[Value.ref b] below meth c 0 0 7 D (fun q : Nat => s.heap.size ≤ q) (lw_Z below #[Value.ref b] s) [] [(0, .ref b)] [] 0 := by
    refine k_new C iX8 tyX8 tyX8_ok tk_L_8 tk_inX8 tk_itX8 (ci := 8) (fs := [.null, .null, .null, .null, .null, .null, .null, vI 0, vI 0, vI 0]) rfl (fun j hj => match j, hj with | 0, _ => rfl | 1, _ => rfl | 2, _ => rfl | 3, _ => rfl | 4, _ => rfl | 5, _ => rfl | 6, _ => rfl | 7, _ => rfl | 8, _ => rfl | 9, _ => rfl | j + 10, h => absurd h (by omega)) ⟨Nat.le_of_ble_eq_true rfl, Nat.le_of_ble_eq_true rfl⟩ dL_law_0 (fun q0 => ?_)
    refine (show KW _ _ _ _ _ _ _ _ _ _ 1 10 _ _ _ _ [(q0, .inr (8, [.null, .null, .null, .null, .null, .null, .null, vI 0, vI 0, vI 0]))] _ _ _ → _ from id) ?_
    refine k_dup C rfl dL_law_3 ?_
    refine k_init C (m_X8_init l D cA q0) Wm_N NS hi_X8 tk_L_47 rfl rfl ⟨Nat.le_of_ble_eq_true rfl, Nat.le_of_ble_eq_true rfl⟩ (As := []) (st := [.ref q0]) rfl rfl (Nat.le_of_ble_eq_true rfl) dL_law_4 0 rfl [] (wr := []) rfl (by decide) (by decide) ⟨Nat.le_of_ble_eq_true rfl, Nat.le_of_ble_eq_true rfl⟩ (fun u4 => ?_)
    refine (show KW _ _ _ _ _ _ _ _ _ _ 29 203698 _ _ _ _ [(q0, .inr (8, [.ref (u4 0), .ref (u4 2), .ref (u4 11), .ref (u4 12), .ref (u4 16), .ref (u4 22), .ref (u4 25), vI 0, vI (-1), vI (-1)])), ((u4 0), .inr (4, [.ref (u4 1), vI 0, vI 0, vI 0, vI 0])), ((u4 1), .inl (cA 1, 1000, .inl (fun _ => 0))), ((u4 2), .inr (1, [.ref (u4 3), .ref (u4 6), .ref (u4 9), .ref (u4 10), vI 0])), ((u4 3), .inr (2, [vI 8, .ref (u4 4), .ref (u4 5), vI 0])), ((u4 4), .inl (cA 1, 128, .inl (fun _ => 0))), ((u4 5), .inl (cA 1, 16, .inl (fun _ => 0))), ((u4 6), .inr (2, [vI 12, .ref (u4 7), .ref (u4 8), vI 0])), ((u4 7), .inl (cA 1, 384, .inl (fun _ => 0))), ((u4 8), .inl (cA 1, 32, .inl (fun _ => 0))), ((u4 9), .inl (cA 1, 17, .inl (fun _ => 0))), ((u4 10), .inl (cA 1, 1632, .inl (fun _ => 0))), ((u4 11), .inr (5, [vI 0, vI 0, .ref (u4 0), .ref (u4 2), vI 0, vI 0, vI 0, vI 0, vI 0, vI 0, vI 0, vI 0, vI 0])), ((u4 12), .inr (3, [.ref (u4 13), .ref (u4 0)])), ((u4 13), .inr (2, [vI 12, .ref (u4 14), .ref (u4 15), vI 0])), ((u4 14), .inl (cA 1, 96, .inl (fun _ => 0))), ((u4 15), .inl (cA 1, 8, .inl (fun _ => 0))), ((u4 16), .inr (0, [vI 0, .ref (u4 2), .ref (u4 17), .ref (u4 18), .ref (u4 19), .ref (u4 20), .ref (u4 21)])), ((u4 17), .inl (cA 1, 8, .inl (fun _ => 0))), ((u4 18), .inl (cA 1, 95040, .inl (fun _ => 0))), ((u4 19), .inl (cA 1, 95040, .inl (fun _ => 0))), ((u4 20), .inl (cA 1, 720, .inl (fun _ => 0))), ((u4 21), .inl (cA 1, 7920, .inl (fun _ => 0))), ((u4 22), .inr (6, [vI 0, .ref (u4 2), .ref (u4 16), .ref (u4 23), .ref (u4 24)])), ((u4 23), .inl (cA 1, 56, .inl (fun _ => 0))), ((u4 24), .inl (cA 1, 672, .inl (fun _ => 0))), ((u4 25), .inr (7, [vI 0, .ref (u4 2), .ref (u4 22), .ref (u4 26), .ref (u4 27), vI 0])), ((u4 26), .inl (cA 1, 576, .inl (fun _ => 0))), ((u4 27), .inl (cA 1, 288, .inl (fun _ => 0)))] _ _ _ → _ from id) ?_
    refine k_astore_n C 1 [(0, .ref b)] rfl (by decide) rfl dL_law_7 ?_
    refine k_new C iX9 tyX9 tyX9_ok tk_L_48 tk_inX9 tk_itX9 (ci := 9) (fs := [vI 0, .null, vI 0, vI 0, vI 0, .null, .null, vI 0, .null, .null, vI 0, .null, .null, .null, .null, .null, .null, .null, .null, .null, .null, .null, .null, vI 0, .null, .null, vI 0, vI 0, vI 0, vI 0, vI 0, vI 0, vI 0, vI 0, vI 0, vI 0, vL 0, vI 0, .null, .null, .null, .null, vI 0, .null, .null, .null, .null, .null, vI 0, .null, vI 0]) rfl (fun j hj => match j, hj with | 0, _ => rfl | 1, _ => rfl | 2, _ => rfl | 3, _ => rfl | 4, _ => rfl | 5, _ => rfl | 6, _ => rfl | 7, _ => rfl | 8, _ => rfl | 9, _ => rfl | 10, _ => rfl | 11, _ => rfl | 12, _ => rfl | 13, _ => rfl | 14, _ => rfl | 15, _ => rfl | 16, _ => rfl | 17, _ => rfl | 18, _ => rfl | 19, _ => rfl | 20, _ => rfl | 21, _ => rfl | 22, _ => rfl | 23, _ => rfl | 24, _ => rfl | 25, _ => rfl | 26, _ => rfl | 27, _ => rfl | 28, _ => rfl | 29, _ => rfl | 30, _ => rfl | 31, _ => rfl | 32, _ => rfl | 33, _ => rfl | 34, _ => rfl | 35, _ => rfl | 36, _ => rfl | 37, _ => rfl | 38, _ => rfl | 39, _ => rfl | 40, _ => rfl | 41, _ => rfl | 42, _ => rfl | 43, _ => rfl | 44, _ => rfl | 45, _ => rfl | 46, _ => rfl | 47, _ => rfl | 48, _ => rfl | 49, _ => rfl | 50, _ => rfl | j + 51, h => absurd h (by omega)) ⟨Nat.le_of_ble_eq_true rfl, Nat.le_of_ble_eq_true rfl⟩ dL_law_8 (fun q8 => ?_)
    refine (show KW _ _ _ _ _ _ _ _ _ _ 30 203749 _ _ _ _ [(q0, .inr (8, [.ref (u4 0), .ref (u4 2), .ref (u4 11), .ref (u4 12), .ref (u4 16), .ref (u4 22), .ref (u4 25), vI 0, vI (-1), vI (-1)])), ((u4 0), .inr (4, [.ref (u4 1), vI 0, vI 0, vI 0, vI 0])), ((u4 1), .inl (cA 1, 1000, .inl (fun _ => 0))), ((u4 2), .inr (1, [.ref (u4 3), .ref (u4 6), .ref (u4 9), .ref (u4 10), vI 0])), ((u4 3), .inr (2, [vI 8, .ref (u4 4), .ref (u4 5), vI 0])), ((u4 4), .inl (cA 1, 128, .inl (fun _ => 0))), ((u4 5), .inl (cA 1, 16, .inl (fun _ => 0))), ((u4 6), .inr (2, [vI 12, .ref (u4 7), .ref (u4 8), vI 0])), ((u4 7), .inl (cA 1, 384, .inl (fun _ => 0))), ((u4 8), .inl (cA 1, 32, .inl (fun _ => 0))), ((u4 9), .inl (cA 1, 17, .inl (fun _ => 0))), ((u4 10), .inl (cA 1, 1632, .inl (fun _ => 0))), ((u4 11), .inr (5, [vI 0, vI 0, .ref (u4 0), .ref (u4 2), vI 0, vI 0, vI 0, vI 0, vI 0, vI 0, vI 0, vI 0, vI 0])), ((u4 12), .inr (3, [.ref (u4 13), .ref (u4 0)])), ((u4 13), .inr (2, [vI 12, .ref (u4 14), .ref (u4 15), vI 0])), ((u4 14), .inl (cA 1, 96, .inl (fun _ => 0))), ((u4 15), .inl (cA 1, 8, .inl (fun _ => 0))), ((u4 16), .inr (0, [vI 0, .ref (u4 2), .ref (u4 17), .ref (u4 18), .ref (u4 19), .ref (u4 20), .ref (u4 21)])), ((u4 17), .inl (cA 1, 8, .inl (fun _ => 0))), ((u4 18), .inl (cA 1, 95040, .inl (fun _ => 0))), ((u4 19), .inl (cA 1, 95040, .inl (fun _ => 0))), ((u4 20), .inl (cA 1, 720, .inl (fun _ => 0))), ((u4 21), .inl (cA 1, 7920, .inl (fun _ => 0))), ((u4 22), .inr (6, [vI 0, .ref (u4 2), .ref (u4 16), .ref (u4 23), .ref (u4 24)])), ((u4 23), .inl (cA 1, 56, .inl (fun _ => 0))), ((u4 24), .inl (cA 1, 672, .inl (fun _ => 0))), ((u4 25), .inr (7, [vI 0, .ref (u4 2), .ref (u4 22), .ref (u4 26), .ref (u4 27), vI 0])), ((u4 26), .inl (cA 1, 576, .inl (fun _ => 0))), ((u4 27), .inl (cA 1, 288, .inl (fun _ => 0))), (q8, .inr (9, [vI 0, .null, vI 0, vI 0, vI 0, .null, .null, vI 0, .null, .null, vI 0, .null, .null, .null, .null, .null, .null, .null, .null, .null, .null, .null, .null, vI 0, .null, .null, vI 0, vI 0, vI 0, vI 0, vI 0, vI 0, vI 0, vI 0, vI 0, vI 0, vL 0, vI 0, .null, .null, .null, .null, vI 0, .null, .null, .null, .null, .null, vI 0, .null, vI 0]))] _ _ _ → _ from id) ?_
    refine k_dup C rfl dL_law_11 ?_
    refine k_init C (m_X9_init l D cA q8) Wm_t trivial hi_X9 tk_L_50 rfl rfl ⟨Nat.le_of_ble_eq_true rfl, Nat.le_of_ble_eq_true rfl⟩ (As := []) (st := [.ref q8]) rfl rfl (Nat.le_of_ble_eq_true rfl) dL_law_12 29 rfl [0, 1, 2, 3, 4, 5, 6, 7, 8, 9, 10, 11, 12, 13, 14, 15, 16, 17, 18, 19, 20, 21, 22, 23, 24, 25, 26, 27, 28] (wr := [(q0, .inr (8, [.ref (u4 0), .ref (u4 2), .ref (u4 11), .ref (u4 12), .ref (u4 16), .ref (u4 22), .ref (u4 25), vI 0, vI (-1), vI (-1)])), ((u4 0), .inr (4, [.ref (u4 1), vI 0, vI 0, vI 0, vI 0])), ((u4 1), .inl (cA 1, 1000, .inl (fun _ => 0))), ((u4 2), .inr (1, [.ref (u4 3), .ref (u4 6), .ref (u4 9), .ref (u4 10), vI 0])), ((u4 3), .inr (2, [vI 8, .ref (u4 4), .ref (u4 5), vI 0])), ((u4 4), .inl (cA 1, 128, .inl (fun _ => 0))), ((u4 5), .inl (cA 1, 16, .inl (fun _ => 0))), ((u4 6), .inr (2, [vI 12, .ref (u4 7), .ref (u4 8), vI 0])), ((u4 7), .inl (cA 1, 384, .inl (fun _ => 0))), ((u4 8), .inl (cA 1, 32, .inl (fun _ => 0))), ((u4 9), .inl (cA 1, 17, .inl (fun _ => 0))), ((u4 10), .inl (cA 1, 1632, .inl (fun _ => 0))), ((u4 11), .inr (5, [vI 0, vI 0, .ref (u4 0), .ref (u4 2), vI 0, vI 0, vI 0, vI 0, vI 0, vI 0, vI 0, vI 0, vI 0])), ((u4 12), .inr (3, [.ref (u4 13), .ref (u4 0)])), ((u4 13), .inr (2, [vI 12, .ref (u4 14), .ref (u4 15), vI 0])), ((u4 14), .inl (cA 1, 96, .inl (fun _ => 0))), ((u4 15), .inl (cA 1, 8, .inl (fun _ => 0))), ((u4 16), .inr (0, [vI 0, .ref (u4 2), .ref (u4 17), .ref (u4 18), .ref (u4 19), .ref (u4 20), .ref (u4 21)])), ((u4 17), .inl (cA 1, 8, .inl (fun _ => 0))), ((u4 18), .inl (cA 1, 95040, .inl (fun _ => 0))), ((u4 19), .inl (cA 1, 95040, .inl (fun _ => 0))), ((u4 20), .inl (cA 1, 720, .inl (fun _ => 0))), ((u4 21), .inl (cA 1, 7920, .inl (fun _ => 0))), ((u4 22), .inr (6, [vI 0, .ref (u4 2), .ref (u4 16), .ref (u4 23), .ref (u4 24)])), ((u4 23), .inl (cA 1, 56, .inl (fun _ => 0))), ((u4 24), .inl (cA 1, 672, .inl (fun _ => 0))), ((u4 25), .inr (7, [vI 0, .ref (u4 2), .ref (u4 22), .ref (u4 26), .ref (u4 27), vI 0])), ((u4 26), .inl (cA 1, 576, .inl (fun _ => 0))), ((u4 27), .inl (cA 1, 288, .inl (fun _ => 0)))]) rfl (by decide) (by decide) ⟨Nat.le_of_ble_eq_true rfl, Nat.le_of_ble_eq_true rfl⟩ (fun u12 => ?_)
    refine (show KW _ _ _ _ _ _ _ _ _ _ 59 407100 _ _ _ _ [(q0, .inr (8, [.ref (u4 0), .ref (u4 2), .ref (u4 11), .ref (u4 12), .ref (u4 16), .ref (u4 22), .ref (u4 25), vI 0, vI (-1), vI (-1)])), ((u4 0), .inr (4, [.ref (u4 1), vI 0, vI 0, vI 0, vI 0])), ((u4 1), .inl (cA 1, 1000, .inl (fun _ => 0))), ((u4 2), .inr (1, [.ref (u4 3), .ref (u4 6), .ref (u4 9), .ref (u4 10), vI 0])), ((u4 3), .inr (2, [vI 8, .ref (u4 4), .ref (u4 5), vI 0])), ((u4 4), .inl (cA 1, 128, .inl (fun _ => 0))), ((u4 5), .inl (cA 1, 16, .inl (fun _ => 0))), ((u4 6), .inr (2, [vI 12, .ref (u4 7), .ref (u4 8), vI 0])), ((u4 7), .inl (cA 1, 384, .inl (fun _ => 0))), ((u4 8), .inl (cA 1, 32, .inl (fun _ => 0))), ((u4 9), .inl (cA 1, 17, .inl (fun _ => 0))), ((u4 10), .inl (cA 1, 1632, .inl (fun _ => 0))), ((u4 11), .inr (5, [vI 0, vI 0, .ref (u4 0), .ref (u4 2), vI 0, vI 0, vI 0, vI 0, vI 0, vI 0, vI 0, vI 0, vI 0])), ((u4 12), .inr (3, [.ref (u4 13), .ref (u4 0)])), ((u4 13), .inr (2, [vI 12, .ref (u4 14), .ref (u4 15), vI 0])), ((u4 14), .inl (cA 1, 96, .inl (fun _ => 0))), ((u4 15), .inl (cA 1, 8, .inl (fun _ => 0))), ((u4 16), .inr (0, [vI 0, .ref (u4 2), .ref (u4 17), .ref (u4 18), .ref (u4 19), .ref (u4 20), .ref (u4 21)])), ((u4 17), .inl (cA 1, 8, .inl (fun _ => 0))), ((u4 18), .inl (cA 1, 95040, .inl (fun _ => 0))), ((u4 19), .inl (cA 1, 95040, .inl (fun _ => 0))), ((u4 20), .inl (cA 1, 720, .inl (fun _ => 0))), ((u4 21), .inl (cA 1, 7920, .inl (fun _ => 0))), ((u4 22), .inr (6, [vI 0, .ref (u4 2), .ref (u4 16), .ref (u4 23), .ref (u4 24)])), ((u4 23), .inl (cA 1, 56, .inl (fun _ => 0))), ((u4 24), .inl (cA 1, 672, .inl (fun _ => 0))), ((u4 25), .inr (7, [vI 0, .ref (u4 2), .ref (u4 22), .ref (u4 26), .ref (u4 27), vI 0])), ((u4 26), .inl (cA 1, 576, .inl (fun _ => 0))), ((u4 27), .inl (cA 1, 288, .inl (fun _ => 0))), (q8, .inr (9, [vI 0, .ref (u12 0), vI 0, vI 0, vI 0, .ref (u12 1), .ref (u12 2), vI 0, .ref (u12 3), .ref (u12 4), vI 0, .ref (u12 5), .ref (u12 6), .ref (u12 7), .ref (u12 8), .ref (u12 9), .ref (u12 10), .ref (u12 11), .ref (u12 12), .ref (u12 13), .ref (u12 14), .ref (u12 15), .ref (u12 16), vI 0, .ref (u12 17), .ref (u12 18), vI 0, vI 0, vI 0, vI 0, vI 0, vI 0, vI 0, vI 0, vI 0, vI 0, vL (-1), vI 0, .ref (u12 19), .ref (u12 20), .ref (u12 21), .ref (u12 22), vI 0, .ref (u12 23), .ref (u12 24), .ref (u12 25), .ref (u12 26), .ref (u12 27), vI 0, .ref (u12 28), vI 0])), ((u12 0), .inl (cA 2, 1000, .inl (fun _ => 0))), ((u12 1), .inl (cA 2, 136, .inl (fun _ => 0))), ((u12 2), .inl (cA 1, 17, .inl (fun _ => 0))), ((u12 3), .inl (cA 2, 396, .inl (fun _ => 0))), ((u12 4), .inl (cA 1, 33, .inl (fun _ => 0))), ((u12 5), .inl (cA 1, 204, .inl (fun _ => 0))), ((u12 6), .inl (cA 1, 204, .inl (fun _ => 0))), ((u12 7), .inl (cA 1, 204, .inl (fun _ => 0))), ((u12 8), .inl (cA 1, 204, .inl (fun _ => 0))), ((u12 9), .inl (cA 1, 204, .inl (fun _ => 0))), ((u12 10), .inl (cA 1, 204, .inl (fun _ => 0))), ((u12 11), .inl (cA 1, 204, .inl (fun _ => 0))), ((u12 12), .inl (cA 3, 204, .inl (fun _ => 0))), ((u12 13), .inl (cA 3, 204, .inl (fun _ => 0))), ((u12 14), .inl (cA 3, 204, .inl (fun _ => 0))), ((u12 15), .inl (cA 3, 204, .inl (fun _ => 0))), ((u12 16), .inl (cA 1, 17, .inl (fun _ => 0))), ((u12 17), .inl (cA 2, 108, .inl (fun _ => 0))), ((u12 18), .inl (cA 1, 9, .inl (fun _ => 0))), ((u12 19), .inl (cA 1, 6561, .inl (fun _ => 0))), ((u12 20), .inl (cA 4, 95040, .inr (.inl (fun _ => 0)))), ((u12 21), .inl (cA 4, 95040, .inr (.inl (fun _ => 0)))), ((u12 22), .inl (cA 1, 70, .inl (fun _ => 0))), ((u12 23), .inl (cA 1, 120, .inl (fun _ => 0))), ((u12 24), .inl (cA 1, 120, .inl (fun _ => 0))), ((u12 25), .inl (cA 1, 120, .inl (fun _ => 0))), ((u12 26), .inl (cA 1, 1400, .inl (fun _ => 0))), ((u12 27), .inl (cA 4, 200, .inr (.inl (fun _ => 0)))), ((u12 28), .inl (cA 1, 720, .inl (fun _ => 0)))] _ _ _ → _ from id) ?_
    refine k_astore_n C 2 [(1, .ref q0), (0, .ref b)] rfl (by decide) rfl dL_law_15 ?_
    refine k_iconst C dL_law_16 ?_
    refine k_newa C (atype := .long) (ty := .long) 3 rfl (fun _ h => by cases h) tk_along rfl (n := 1) (N := 1) (a0 := (1, .inr (.inl (fun _ => 0)))) (fun _ => rfl) (by decide) (by decide) (by decide) ⟨Nat.le_of_ble_eq_true rfl, Nat.le_of_ble_eq_true rfl⟩ dL_law_17 (fun q17 => ?_)
    refine (show KW _ _ _ _ _ _ _ _ _ _ 60 407101 _ _ _ _ [(q0, .inr (8, [.ref (u4 0), .ref (u4 2), .ref (u4 11), .ref (u4 12), .ref (u4 16), .ref (u4 22), .ref (u4 25), vI 0, vI (-1), vI (-1)])), ((u4 0), .inr (4, [.ref (u4 1), vI 0, vI 0, vI 0, vI 0])), ((u4 1), .inl (cA 1, 1000, .inl (fun _ => 0))), ((u4 2), .inr (1, [.ref (u4 3), .ref (u4 6), .ref (u4 9), .ref (u4 10), vI 0])), ((u4 3), .inr (2, [vI 8, .ref (u4 4), .ref (u4 5), vI 0])), ((u4 4), .inl (cA 1, 128, .inl (fun _ => 0))), ((u4 5), .inl (cA 1, 16, .inl (fun _ => 0))), ((u4 6), .inr (2, [vI 12, .ref (u4 7), .ref (u4 8), vI 0])), ((u4 7), .inl (cA 1, 384, .inl (fun _ => 0))), ((u4 8), .inl (cA 1, 32, .inl (fun _ => 0))), ((u4 9), .inl (cA 1, 17, .inl (fun _ => 0))), ((u4 10), .inl (cA 1, 1632, .inl (fun _ => 0))), ((u4 11), .inr (5, [vI 0, vI 0, .ref (u4 0), .ref (u4 2), vI 0, vI 0, vI 0, vI 0, vI 0, vI 0, vI 0, vI 0, vI 0])), ((u4 12), .inr (3, [.ref (u4 13), .ref (u4 0)])), ((u4 13), .inr (2, [vI 12, .ref (u4 14), .ref (u4 15), vI 0])), ((u4 14), .inl (cA 1, 96, .inl (fun _ => 0))), ((u4 15), .inl (cA 1, 8, .inl (fun _ => 0))), ((u4 16), .inr (0, [vI 0, .ref (u4 2), .ref (u4 17), .ref (u4 18), .ref (u4 19), .ref (u4 20), .ref (u4 21)])), ((u4 17), .inl (cA 1, 8, .inl (fun _ => 0))), ((u4 18), .inl (cA 1, 95040, .inl (fun _ => 0))), ((u4 19), .inl (cA 1, 95040, .inl (fun _ => 0))), ((u4 20), .inl (cA 1, 720, .inl (fun _ => 0))), ((u4 21), .inl (cA 1, 7920, .inl (fun _ => 0))), ((u4 22), .inr (6, [vI 0, .ref (u4 2), .ref (u4 16), .ref (u4 23), .ref (u4 24)])), ((u4 23), .inl (cA 1, 56, .inl (fun _ => 0))), ((u4 24), .inl (cA 1, 672, .inl (fun _ => 0))), ((u4 25), .inr (7, [vI 0, .ref (u4 2), .ref (u4 22), .ref (u4 26), .ref (u4 27), vI 0])), ((u4 26), .inl (cA 1, 576, .inl (fun _ => 0))), ((u4 27), .inl (cA 1, 288, .inl (fun _ => 0))), (q8, .inr (9, [vI 0, .ref (u12 0), vI 0, vI 0, vI 0, .ref (u12 1), .ref (u12 2), vI 0, .ref (u12 3), .ref (u12 4), vI 0, .ref (u12 5), .ref (u12 6), .ref (u12 7), .ref (u12 8), .ref (u12 9), .ref (u12 10), .ref (u12 11), .ref (u12 12), .ref (u12 13), .ref (u12 14), .ref (u12 15), .ref (u12 16), vI 0, .ref (u12 17), .ref (u12 18), vI 0, vI 0, vI 0, vI 0, vI 0, vI 0, vI 0, vI 0, vI 0, vI 0, vL (-1), vI 0, .ref (u12 19), .ref (u12 20), .ref (u12 21), .ref (u12 22), vI 0, .ref (u12 23), .ref (u12 24), .ref (u12 25), .ref (u12 26), .ref (u12 27), vI 0, .ref (u12 28), vI 0])), ((u12 0), .inl (cA 2, 1000, .inl (fun _ => 0))), ((u12 1), .inl (cA 2, 136, .inl (fun _ => 0))), ((u12 2), .inl (cA 1, 17, .inl (fun _ => 0))), ((u12 3), .inl (cA 2, 396, .inl (fun _ => 0))), ((u12 4), .inl (cA 1, 33, .inl (fun _ => 0))), ((u12 5), .inl (cA 1, 204, .inl (fun _ => 0))), ((u12 6), .inl (cA 1, 204, .inl (fun _ => 0))), ((u12 7), .inl (cA 1, 204, .inl (fun _ => 0))), ((u12 8), .inl (cA 1, 204, .inl (fun _ => 0))), ((u12 9), .inl (cA 1, 204, .inl (fun _ => 0))), ((u12 10), .inl (cA 1, 204, .inl (fun _ => 0))), ((u12 11), .inl (cA 1, 204, .inl (fun _ => 0))), ((u12 12), .inl (cA 3, 204, .inl (fun _ => 0))), ((u12 13), .inl (cA 3, 204, .inl (fun _ => 0))), ((u12 14), .inl (cA 3, 204, .inl (fun _ => 0))), ((u12 15), .inl (cA 3, 204, .inl (fun _ => 0))), ((u12 16), .inl (cA 1, 17, .inl (fun _ => 0))), ((u12 17), .inl (cA 2, 108, .inl (fun _ => 0))), ((u12 18), .inl (cA 1, 9, .inl (fun _ => 0))), ((u12 19), .inl (cA 1, 6561, .inl (fun _ => 0))), ((u12 20), .inl (cA 4, 95040, .inr (.inl (fun _ => 0)))), ((u12 21), .inl (cA 4, 95040, .inr (.inl (fun _ => 0)))), ((u12 22), .inl (cA 1, 70, .inl (fun _ => 0))), ((u12 23), .inl (cA 1, 120, .inl (fun _ => 0))), ((u12 24), .inl (cA 1, 120, .inl (fun _ => 0))), ((u12 25), .inl (cA 1, 120, .inl (fun _ => 0))), ((u12 26), .inl (cA 1, 1400, .inl (fun _ => 0))), ((u12 27), .inl (cA 4, 200, .inr (.inl (fun _ => 0)))), ((u12 28), .inl (cA 1, 720, .inl (fun _ => 0))), (q17, .inl (cA 4, 1, .inr (.inl (fun _ => 0))))] _ _ _ → _ from id) ?_
    refine k_astore_n C 3 [(2, .ref q8), (1, .ref q0), (0, .ref b)] rfl (by decide) rfl dL_law_19 ?_
    refine k_iconst C dL_law_20 ?_
    refine k_istore C 4 [(3, .ref q17), (2, .ref q8), (1, .ref q0), (0, .ref b)] (by decide) rfl dL_law_21 ?_
    intro H locs ls hP hD hS hl
    have e0 := wl_I cA q0 (u4 0) (u4 1) (u4 2) (u4 3) (u4 4) (u4 5) (u4 6) (u4 7) (u4 8) (u4 9) (u4 10) (u4 11) (u4 12) (u4 13) (u4 14) (u4 15) (u4 16) (u4 17) (u4 18) (u4 19) (u4 20) (u4 21) (u4 22) (u4 23) (u4 24) (u4 25) (u4 26) (u4 27) q8 (u12 0) (u12 1) (u12 2) (u12 3) (u12 4) (u12 5) (u12 6) (u12 7) (u12 8) (u12 9) (u12 10) (u12 11) (u12 12) (u12 13) (u12 14) (u12 15) (u12 16) (u12 17) (u12 18) (u12 19) (u12 20) (u12 21) (u12 22) (u12 23) (u12 24) (u12 25) (u12 26) (u12 27) (u12 28) q17
    generalize hae : (fun o => ([q0, (u4 0), (u4 1), (u4 2), (u4 3), (u4 4), (u4 5), (u4 6), (u4 7), (u4 8), (u4 9), (u4 10), (u4 11), (u4 12), (u4 13), (u4 14), (u4 15), (u4 16), (u4 17), (u4 18), (u4 19), (u4 20), (u4 21), (u4 22), (u4 23), (u4 24), (u4 25), (u4 26), (u4 27), q8, (u12 0), (u12 1), (u12 2), (u12 3), (u12 4), (u12 5), (u12 6), (u12 7), (u12 8), (u12 9), (u12 10), (u12 11), (u12 12), (u12 13), (u12 14), (u12 15), (u12 16), (u12 17), (u12 18), (u12 19), (u12 20), (u12 21), (u12 22), (u12 23), (u12 24), (u12 25), (u12 26), (u12 27), (u12 28), q17] : List Nat).getD o 0) = ad at e0
    rw [← e0] at hP hD
    obtain ⟨hAp, hAd⟩ := Ap_D (D := D) hD
    have hA0 : ∀ q, A0 shA ad s.heap.size q → s.heap.size ≤ q := fun q h => h.elim (fun z => by
      obtain ⟨o, h1, h2⟩ := z
      rw [h2]; exact hAd o h1) id
    have hA : ∀ a : Nat, a < s.heap.size → ¬ A0 shA ad s.heap.size a := fun a h z => absurd (hA0 a z) (Nat.not_le.mpr h)
    have hC : Cx p s m #[Value.ref b] c cL_law RL 7 D cA shA ad zsC := ⟨hx, hb, hown, hml, htb, hK, hAp, Sx_start hts hs hA⟩
    have hS2 : va_S (A0 shA ad s.heap.size) s.heap H locs := ⟨hS.1, fun q h1 h2 => hS.2.1 q h1 (Nat.not_le.mpr h1), fun z hz => Or.inr (hS.2.2 z hz)⟩
    have go := law_loop (e := e) (below := below) hst hC (Th_start hts hs hA) (Nk_start hs) hX hbl (hA b hbl) hL (fun o h => hAd o h) hr hlocks 513 0 60 407101 σI (by omega) (by omega) (by omega) (by omega) R_I H locs ls hP hS2
    subst hae
    exact go (lv_sub hl [4, 3, 2, 1, 0] rfl)
  rw [lg_entry_eq]
  exact key s.heap [] _ (fun k q h => by simp at h) ⟨fun i j p q h => by simp at h, fun k q h => by simp at h⟩ va_S.rf (lv_entry [Value.ref b] (Nat.le_of_ble_eq_true rfl))
