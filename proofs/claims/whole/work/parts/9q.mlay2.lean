/-! pure: the reference lays a node -/
def lF (τ τ' : St) (y : Nat) : Prop := ∀ o k, ¬ (o = 24 ∧ k = y) → ¬ (o = 25 ∧ k = y) → τ' o k = τ o k
/-- the beginning of it -/
theorem sp_mlayH {c : Nat → Nat → Int} {N : Nat} {sz : Nat → Nat} {sd : Nat → Int} {n : Nat} {hw wo : Nat → Prop} {τ : St} {Q : St → Prop} {u t x i l : Nat} {j k' way a1 a2 a3 a6 : Int} (hC : CM c N sz sd n hw wo τ) (hu : u < 8) (ht : t < N) (hx : x < sz t) (h1 : a1 = (u : Int)) (h2 : a2 = ((12 * t + x : Nat) : Int)) (h3 : a3 = (i : Int)) (h6 : a6 = (l : Int))
    (h : ∀ (x_1 : Int) (τ1 : St), x_1 = ((12 * u + x : Nat) : Int) → τ1 24 (12 * u + x) = (i : Int) → τ1 25 (12 * u + x) = (l : Int) → lF τ τ1 (12 * u + x) → (c (12 * t + x) 0 ≤ 1 → (¬ c (12 * t + x) 0 = 1 → (¬ c (12 * t + x) 4 = 1 → wp_X9_run (τ1 12 (12 * t + x)) a3 j k' a6 (fun r5 σ4 => wp_X9_lay_B177 a1 a2 a3 j k' a6 x_1 way r5 Q σ4) τ1) ∧ (c (12 * t + x) 4 = 1 → wp_X9_lay_B177 a1 a2 a3 j k' a6 x_1 way 0 Q τ1)) ∧ (c (12 * t + x) 0 = 1 → ∃ nn, wp_X9_lay_L56 Q nn a1 a2 a3 a6 way 0 τ1)) ∧ (¬ c (12 * t + x) 0 ≤ 1 → Q τ1)) : wp_X9_lay a1 a2 a3 j k' a6 way Q τ := by
  obtain ⟨c1, c2, c3, c4, c5, c6, c7, c8, c9⟩ := hC
  obtain ⟨m6, m7, m10, m11, m13, m12, m4⟩ := c5 t x ht hx
  have s12 := (c6.2 t ht).2.1
  have g1 := (c6.1 t x ht hx).1
  have w1 : w32 a2 = ((12 * t + x : Nat) : Int) := by rw [h2]; exact w32_id (by omega) (by omega)
  have rn : (((12 * t + x : Nat) : Int)).toNat = 12 * t + x := by omega
  have rm : iRem a2 12 = (x : Int) := by
    have := (iDiv_n (x := a2) (y := 12) (by omega) (by omega)).2
    rw [this, h2]; omega
  unfold wp_X9_lay
  intro x_1 ex
  have ex' : x_1 = ((12 * u + x : Nat) : Int) := by rw [ex, rm, h1]; omega
  rw [w1, rn, show w32 x_1 = ((12 * u + x : Nat) : Int) by rw [ex']; exact w32_id (by omega) (by omega), show (((12 * u + x : Nat) : Int)).toNat = 12 * u + x by omega]
  refine ⟨by omega, fun s2 e2 => ⟨by omega, fun s3 e3 => ?_⟩⟩
  have f : lF τ s3 (12 * u + x) := fun o k q1 q2 => by rw [e3, su_ko _ _ q2, e2, su_ko _ _ q1]
  have k6 : s3 6 (12 * t + x) = c (12 * t + x) 0 := by rw [f 6 _ (by omega) (by omega)]; exact m6
  have k10 : s3 10 (12 * t + x) = c (12 * t + x) 4 := by rw [f 10 _ (by omega) (by omega)]; exact m10
  rw [k6, k10, w32_id (show -2147483648 ≤ c (12 * t + x) 0 by omega) (by omega), w32_id (show -2147483648 ≤ c (12 * t + x) 4 by omega) (by omega)]
  have := h x_1 s3 ex' (by rw [e3, su_ko _ _ (by omega), e2, su_at]; exact h3) (by rw [e3, su_at]; exact h6) f
  exact ⟨by omega, fun z => ⟨by omega, fun y => ⟨by omega, fun w => ⟨by omega, ((this.1 z).1 y).1 w⟩, fun w => ((this.1 z).1 y).2 w⟩, fun y => (this.1 z).2 y⟩, this.2⟩
theorem sp_mlay1 {c : Nat → Nat → Int} {N : Nat} {sz : Nat → Nat} {sd : Nat → Int} {n : Nat} {hw wo : Nat → Prop} {τ : St} {Q : St → Prop} {u t x t' U P i l : Nat} {j k' way left a1 a2 a3 a6 : Int} (hC : CM c N sz sd n hw wo τ) (hu : u < U) (hU8 : U < 8) (ht : t < N) (hx : x < sz t) (hk : c (12 * t + x) 0 = 1) (hU : τ 0 42 = (U : Int)) (hP : τ 0 48 = (P : Int)) (hP2 : P < 200) (hil : i ≤ l) (hln : l ≤ n) (hway : way < 1000000001) (hs : SI c N (VV c N sd) (c (12 * t + x) 1) i l way t' left) (h1 : a1 = (u : Int)) (h2 : a2 = ((12 * t + x : Nat) : Int)) (h3 : a3 = (i : Int)) (h6 : a6 = (l : Int))
    (h : ∀ τ1 τ', τ1 24 (12 * u + x) = (i : Int) → τ1 25 (12 * u + x) = (l : Int) → lF τ τ1 (12 * u + x) → τ' 0 42 = ((U + 1 : Nat) : Int) → τ' 0 48 = ((P + 1 : Nat) : Int) → JobAt τ' P U (12 * t') 0 i (-1) (-1) l left → τ' 23 (7 * U) = (t' : Int) → τ' 23 (7 * U + 1) = (u : Int) → τ' 23 (7 * U + 2) = (x : Int) → τ' 23 (7 * U + 3) = (i : Int) → τ' 23 (7 * U + 4) = (l : Int) → τ' 23 (7 * U + 5) = -1 → τ' 23 (7 * U + 6) = -1 → (∀ d, d < 12 → τ' 26 (12 * U + d) = -1) → τ' 26 (12 * u + x) = (U : Int) → tF τ1 τ' U P (some (12 * u + x)) → Q τ') : wp_X9_lay a1 a2 a3 j k' a6 way Q τ := by
  have hC0 := hC
  refine sp_mlayH hC (by omega) ht hx h1 h2 h3 h6 (fun x_1 τ1 ex1 y1 y2 y3 => ⟨fun _ => ⟨fun z => absurd hk z, fun _ => ?_⟩, fun z => by omega⟩)
  have hC1 : CM c N sz sd n hw wo τ1 := CM_fr hC0 (fun o k a _ => y3 o k (by omega) (by omega))
  obtain ⟨c1, c2, c3, c4, c5, c6, c7, c8, c9⟩ := hC1
  obtain ⟨m6, m7, m10, m11, m13, m12, m4⟩ := c5 t x ht hx
  have s12 := (c6.2 t ht).2.1
  have nmr : 0 ≤ c (12 * t + x) 1 ∧ c (12 * t + x) 1 < 32 := ⟨(c6.1 t x ht hx).2.2.2.2.2.2.2.2.2.2.1, (c6.1 t x ht hx).2.2.2.2.2.2.2.2.2.2.2.1⟩
  have rm : iRem a2 12 = (x : Int) := by
    have := (iDiv_n (x := a2) (y := 12) (by omega) (by omega)).2
    rw [this, h2]; omega
  obtain ⟨s1, s2, s3, s4, s5⟩ := hs
  have f0 := fun t => (fI_r c N sd (c (12 * t + x) 1) i l t)
  have smp := fun m => sm_p (f := fI c (VV c N sd) (c (12 * t + x) 1) i l) m (fun d _ => (fI_r c N sd (c (12 * t + x) 1) i l d).1)
  have U1 : τ1 0 42 = (U : Int) := by rw [y3 0 42 (by omega) (by omega)]; exact hU
  have P1 : τ1 0 48 = (P : Int) := by rw [y3 0 48 (by omega) (by omega)]; exact hP
  have loop : ∀ (m t'' : Nat), t' - t'' = m → t'' ≤ t' → wp_X9_lay_L56 Q (m + 1) a1 a2 a3 a6 (way - sm (fI c (VV c N sd) (c (12 * t + x) 1) i l) t'') (t'' : Int) τ1 := by
    intro m
    induction m with
    | zero =>
      intro t'' q1 q2
      have e : t'' = t' := by omega
      subst e
      have ft := c6.2 t'' s1
      have mt := c5 t'' 0 s1 ft.1
      have ct := c6.1 t'' 0 s1 ft.1
      have n1 : 0 ≤ c (12 * t'') 1 ∧ c (12 * t'') 1 < 32 := ⟨ct.2.2.2.2.2.2.2.2.2.2.1, ct.2.2.2.2.2.2.2.2.2.2.2.1⟩
      have g6 : c (12 * t'') 6 = 0 ∨ c (12 * t'') 6 = 1 := ct.2.1
      clear ct
      have vr := VV_r c N sd false (12 * t'') i (-1) (-1) l
      unfold wp_X9_lay_L56
      refine sp_isFor (c := c) (r := 12 * t + x) (t := t'') (by omega) (by omega) mt.2.1 m7 mt.2.2.2.2.1 g6 (Or.inl rfl) n1 nmr rfl h2 ?_
      rw [if_pos s2]
      refine ⟨fun z => absurd z (by decide), fun _ => ?_⟩
      refine sp_lie (g := 0) (n := n) (r := 12 * t'') (i := i) (l := l) (j := -1) (k := -1) c8 ⟨hil, hln, Or.inl ⟨rfl, rfl, rfl⟩⟩ c1 (by omega) (by omega) h3 h6 (fun z => absurd rfl z) ?_
      have eT : mT τ1 false (12 * t'') i (-1) (-1) l = VV c N sd false (12 * t'') i (-1) (-1) l := c7 false t'' 0 i l (-1) (-1) s1 ft.1 ⟨hil, hln, Or.inl ⟨s2.2, rfl, rfl⟩⟩
      have el : way - sm (fI c (VV c N sd) (c (12 * t + x) 1) i l) t'' = left := by omega
      rw [eT, el, lCmp_lt (by omega) (by omega)]
      refine ⟨fun _ => ?_, fun z => absurd s4 z⟩
      rw [rm]
      refine sp_takeTree (U := U) (P := P) (t := t'') (i := i) (l := l) (k := -1) (y := some (12 * u + x)) U1 hU8 P1 hP2 (by omega) rfl h3 h6 (by omega) (fun z => absurd rfl z) (fun _ => rfl) (Or.inr ⟨u, x, hu, by omega, h1, rfl, rfl⟩) (fun τ' p1 p2 p3 p4 p5 p6 p7 p8 p9 p10 p11 p12 p13 => ?_)
      exact h τ1 τ' y1 y2 y3 p1 p2 p3 p4 (by rw [p5]; exact h1) p6 p7 p8 p9 p10 p11 (p12 _ rfl) p13
    | succ m ih =>
      intro t'' q1 q2
      have z0 : t'' < N := by omega
      have ft := c6.2 t'' z0
      have mt := c5 t'' 0 z0 ft.1
      have ct := c6.1 t'' 0 z0 ft.1
      have n1 : 0 ≤ c (12 * t'') 1 ∧ c (12 * t'') 1 < 32 := ⟨ct.2.2.2.2.2.2.2.2.2.2.1, ct.2.2.2.2.2.2.2.2.2.2.2.1⟩
      have g6 : c (12 * t'') 6 = 0 ∨ c (12 * t'') 6 = 1 := ct.2.1
      clear ct
      have z16 : t'' < 16 := by omega
      have z192 : 12 * t + x < 192 := by omega
      have z1 : t' - (t'' + 1) = m := by omega
      have z2 : t'' + 1 ≤ t' := by omega
      have z3 : (t'' : Int) + 1 = ((t'' + 1 : Nat) : Int) := by omega
      have z4 : 12 * (t'' : Int) = ((12 * t'' : Nat) : Int) := by omega
      have S0 := smp t''
      have mono := sm_mono (f := fI c (VV c N sd) (c (12 * t + x) 1) i l) (fun d => (fI_r c N sd (c (12 * t + x) 1) i l d).1) z2
      rw [sm_1] at mono
      have nxt := ih (t'' + 1) z1 z2
      rw [sm_1, show way - (sm (fI c (VV c N sd) (c (12 * t + x) 1) i l) t'' + fI c (VV c N sd) (c (12 * t + x) 1) i l t'') = way - sm (fI c (VV c N sd) (c (12 * t + x) 1) i l) t'' - fI c (VV c N sd) (c (12 * t + x) 1) i l t'' by omega] at nxt
      have isF : ∀ R : Int → St → Prop, R (if c (12 * t'') 1 = c (12 * t + x) 1 ∧ c (12 * t'') 6 = 0 then 1 else 0) τ1 → wp_X9_isFor (t'' : Int) a2 0 R τ1 := fun R hR => sp_isFor (c := c) (r := 12 * t + x) (t := t'') z16 z192 mt.2.1 m7 mt.2.2.2.2.1 g6 (Or.inl rfl) n1 nmr rfl h2 hR
      by_cases q : c (12 * t'') 1 = c (12 * t + x) 1 ∧ c (12 * t'') 6 = 0
      · have ef : fI c (VV c N sd) (c (12 * t + x) 1) i l t'' = VV c N sd false (12 * t'') i (-1) (-1) l := by unfold fI; rw [if_pos q]
        have vr := VV_r c N sd false (12 * t'') i (-1) (-1) l
        have eT : mT τ1 false (12 * t'') i (-1) (-1) l = VV c N sd false (12 * t'') i (-1) (-1) l := c7 false t'' 0 i l (-1) (-1) z0 ft.1 ⟨hil, hln, Or.inl ⟨q.2, rfl, rfl⟩⟩
        have lie : ∀ R : Int → St → Prop, R (VV c N sd false (12 * t'') i (-1) (-1) l) τ1 → wp_X9_lie (12 * (t'' : Int)) a3 (-1) (-1) a6 R τ1 := fun R hR => sp_lie (g := 0) (n := n) (r := 12 * t'') (i := i) (l := l) (j := -1) (k := -1) c8 ⟨hil, hln, Or.inl ⟨rfl, rfl, rfl⟩⟩ c1 (by omega) z4 h3 h6 (fun z => absurd rfl z) (by rw [eT]; exact hR)
        unfold wp_X9_lay_L56
        refine isF _ ?_
        rw [if_pos q]
        refine ⟨fun z => absurd z (by decide), fun _ => lie _ ?_⟩
        rw [ef] at mono nxt
        rw [lCmp_lt (by omega) (by omega)]
        refine ⟨fun z => by omega, fun _ => ?_⟩
        unfold wp_X9_lay_B87
        refine isF _ ?_
        rw [if_pos q]
        refine ⟨fun z => absurd z (by decide), fun _ => lie _ ?_⟩
        unfold wp_X9_lay_B118
        intro x_1 ex1 x_2 ex2
        rw [ex1, ex2, z3]
        exact nxt
      · have ef : fI c (VV c N sd) (c (12 * t + x) 1) i l t'' = 0 := by unfold fI; rw [if_neg q]
        unfold wp_X9_lay_L56
        refine isF _ ?_
        rw [if_neg q]
        refine ⟨fun _ => ?_, fun z => absurd w32_0 z⟩
        unfold wp_X9_lay_B87
        refine isF _ ?_
        rw [if_neg q]
        refine ⟨fun _ => ?_, fun z => absurd w32_0 z⟩
        unfold wp_X9_lay_B118
        intro x_1 ex1 x_2 ex2
        rw [ef] at nxt
        rw [ex1, ex2, z3]
        exact nxt
  have := loop t' 0 (by omega) (by omega)
  rw [sm_z0, Int.sub_zero] at this
  exact ⟨_, this⟩
theorem sp_mlay0p {c : Nat → Nat → Int} {N : Nat} {sz : Nat → Nat} {sd : Nat → Int} {n : Nat} {hw wo : Nat → Prop} {τ : St} {Q : St → Prop} {u t x P i l : Nat} {j k k' way a1 a2 a3 a6 : Int} (hC : CM c N sz sd n hw wo τ) (hu : u < 8) (ht : t < N) (hx : x < sz t) (hk : c (12 * t + x) 0 = 0) (hP : τ 0 48 = (P : Int)) (hP2 : P < 200) (hv : Vs (c (12 * t + (x + 1)) 7) i j k l n) (w0 : 0 ≤ way) (hw' : way < ownW c (VV c N sd) (12 * t + x) i j k l) (h1 : a1 = (u : Int)) (h2 : a2 = ((12 * t + x : Nat) : Int)) (h3 : a3 = (i : Int)) (h6 : a6 = (l : Int)) (hkk : j ≠ -1 → k' = k)
    (h : ∀ τ1 τ', τ1 24 (12 * u + x) = (i : Int) → τ1 25 (12 * u + x) = (l : Int) → lF τ τ1 (12 * u + x) → τ' 0 48 = ((P + 1 : Nat) : Int) → JobAt τ' P u (12 * t + (x + 1)) 1 i j k l way → jF τ1 τ' P → Q τ') : wp_X9_lay a1 a2 a3 j k' a6 way Q τ := by
  have hC0 := hC
  refine sp_mlayH hC hu ht hx h1 h2 h3 h6 (fun x_1 τ1 ex1 y1 y2 y3 => ⟨fun _ => ⟨fun _ => ⟨fun z => ?_, fun z => ?_⟩, fun z => by omega⟩, fun z => by omega⟩)
  · have hC1 : CM c N sz sd n hw wo τ1 := CM_fr hC0 (fun o k a _ => y3 o k (by omega) (by omega))
    obtain ⟨c1, c2, c3, c4, c5, c6, c7, c8, c9⟩ := hC1
    obtain ⟨m6, m7, m10, m11, m13, m12, m4⟩ := c5 t x ht hx
    have s12 := (c6.2 t ht).2.1
    have hx1 : x + 1 < sz t := (c6.1 t x ht hx).2.2.2.1 hk
    rw [m12 hk]
    refine sp_run (r := 12 * t + x + 1) (i := i) (l := l) (j := j) (k := k) c8 hv c1 (by omega) rfl h3 h6 hkk ?_
    have eT : mT τ1 true (12 * t + x + 1) i j k l = ownW c (VV c N sd) (12 * t + x) i j k l := by
      unfold ownW; rw [if_neg z]; exact c7 true t (x + 1) i l j k ht hx1 hv
    have ow : ownW c (VV c N sd) (12 * t + x) i j k l ≤ 1000000000 := by unfold ownW; rw [if_neg z]; exact (VV_r _ _ _ _ _ _ _ _ _).2
    rw [eT]
    unfold wp_X9_lay_B177
    rw [lCmp_ge (by omega) (by omega)]
    refine ⟨fun y => by omega, fun _ => ?_⟩
    rw [show w32 a2 = ((12 * t + x : Nat) : Int) by rw [h2]; exact w32_id (by omega) (by omega), show (((12 * t + x : Nat) : Int)).toNat = 12 * t + x by omega, m12 hk]
    refine ⟨by omega, ?_⟩
    exact sp_job (P := P) (u := u) (r := 12 * t + (x + 1)) (i := i) (l := l) (k := k) (by rw [y3 0 48 (by omega) (by omega)]; exact hP) hP2 (Or.inr rfl) h1 rfl h3 h6 hkk (fun τ' p1 p2 p3 => h τ1 τ' y1 y2 y3 p1 p2 p3)
  · unfold ownW at hw'
    rw [if_pos z] at hw'
    omega
