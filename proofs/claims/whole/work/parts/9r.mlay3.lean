/-! pure: the reference sets a tree into a node -/
theorem SA_p {c : Nat → Nat → Int} {N : Nat} {sd : Nat → Int} {t x i l t' p q : Nat} {j k way left : Int} (hs : SA c N (VV c N sd) (12 * t + x) i j k l way t' p q left) : 0 < VV c N sd true (12 * t + (x + 1)) p j k q := by
  obtain ⟨s1, s2, s3, s4, s5, s6, s7, s8, s9⟩ := hs
  have s8' : left < VV c N sd false (12 * t') i (p : Int) (q : Int) l * VV c N sd true (12 * t + (x + 1)) p j k q := by
    have := cap_le (VV c N sd false (12 * t') i (p : Int) (q : Int) l * VV c N sd true (12 * t + x + 1) p j k q)
    have e : wq (VV c N sd) (12 * t + x) i j k l t' p q = cap (VV c N sd false (12 * t') i (p : Int) (q : Int) l * VV c N sd true (12 * t + x + 1) p j k q) := rfl
    show left < VV c N sd false (12 * t') i (p : Int) (q : Int) l * VV c N sd true (12 * t + x + 1) p j k q
    omega
  have b0 : 0 ≤ VV c N sd true (12 * t + (x + 1)) p j k q := (VV_r _ _ _ _ _ _ _ _ _).1
  by_cases z : VV c N sd true (12 * t + (x + 1)) p j k q = 0
  · rw [z, Int.mul_zero] at s8'; omega
  · omega
theorem sp_mlay0s {c : Nat → Nat → Int} {N : Nat} {sz : Nat → Nat} {sd : Nat → Int} {n : Nat} {hw wo : Nat → Prop} {τ : St} {Q : St → Prop} {u t x t' U P i l p q : Nat} {j k k' way left a1 a2 a3 a6 : Int} (hC : CM c N sz sd n hw wo τ) (hu : u < U) (hU8 : U < 8) (ht : t < N) (hx : x < sz t) (hk : c (12 * t + x) 0 = 0) (hU : τ 0 42 = (U : Int)) (hP : τ 0 48 = (P : Int)) (hP2 : P + 1 < 200) (hv : Vs (c (12 * t + x) 6) i j k l n) (hway : 0 ≤ way ∧ way < 1000000001) (hno : ¬ way < ownW c (VV c N sd) (12 * t + x) i j k l) (hs : SA c N (VV c N sd) (12 * t + x) i j k l way t' p q left) (h1 : a1 = (u : Int)) (h2 : a2 = ((12 * t + x : Nat) : Int)) (h3 : a3 = (i : Int)) (h6 : a6 = (l : Int)) (hkk : j ≠ -1 → k' = k)
    (h : ∀ τ1 τ2 τ', τ1 24 (12 * u + x) = (p : Int) → τ1 25 (12 * u + x) = (q : Int) → lF τ τ1 (12 * u + x) → τ2 0 48 = ((P + 1 : Nat) : Int) → JobAt τ2 P u (12 * t + (x + 1)) 1 p j k q (left % VV c N sd true (12 * t + (x + 1)) p j k q) → jF τ1 τ2 P → τ' 0 42 = ((U + 1 : Nat) : Int) → τ' 0 48 = ((P + 2 : Nat) : Int) → JobAt τ' (P + 1) U (12 * t') 0 i (p : Int) (q : Int) l (left / VV c N sd true (12 * t + (x + 1)) p j k q) → τ' 23 (7 * U) = (t' : Int) → τ' 23 (7 * U + 1) = (u : Int) → τ' 23 (7 * U + 2) = (x : Int) → τ' 23 (7 * U + 3) = (i : Int) → τ' 23 (7 * U + 4) = (l : Int) → τ' 23 (7 * U + 5) = (p : Int) → τ' 23 (7 * U + 6) = (q : Int) → (∀ d, d < 12 → τ' 26 (12 * U + d) = -1) → τ' 26 (12 * u + x) = (U : Int) → tF τ2 τ' U (P + 1) (some (12 * u + x)) → Q τ') : wp_X9_lay a1 a2 a3 j k' a6 way Q τ := by
  have sk1 := SA_p hs
  have hC0 := hC
  obtain ⟨s1, s2, s3, s4, s5, s6, s7, s8, s9⟩ := hs
  have lp := lp_r hv
  have vl := hv.2.1
  have kM : ¬ c (12 * t + x) 0 = 1 := by omega
  -- from the rest after the plain ways
  have main : ∀ (x_1 : Int) (τ1 : St) (own : Int), x_1 = ((12 * u + x : Nat) : Int) → lF τ τ1 (12 * u + x) → own = ownW c (VV c N sd) (12 * t + x) i j k l → wp_X9_lay_B177 a1 a2 a3 j k' a6 x_1 way own Q τ1 := by
    intro x_1 τ1 own ex1 y3 ho
    have hC1 : CM c N sz sd n hw wo τ1 := CM_fr hC0 (fun o k a _ => y3 o k (by omega) (by omega))
    obtain ⟨c1, c2, c3, c4, c5, c6, c7, c8, c9⟩ := hC1
    obtain ⟨m6, m7, m10, m11, m13, m12, m4⟩ := c5 t x ht hx
    have s12 := (c6.2 t ht).2.1
    have hx1 : x + 1 < sz t := (c6.1 t x ht hx).2.2.2.1 hk
    have nmr : 0 ≤ c (12 * t + x) 1 ∧ c (12 * t + x) 1 < 32 := ⟨(c6.1 t x ht hx).2.2.2.2.2.2.2.2.2.2.1, (c6.1 t x ht hx).2.2.2.2.2.2.2.2.2.2.2.1⟩
    have rm : iRem a2 12 = (x : Int) := by
      have := (iDiv_n (x := a2) (y := 12) (by omega) (by omega)).2
      rw [this, h2]; omega
    have w2 : w32 a2 = ((12 * t + x : Nat) : Int) := by rw [h2]; exact w32_id (by omega) (by omega)
    have rn : (((12 * t + x : Nat) : Int)).toNat = 12 * t + x := by omega
    have w6 : w32 a6 = (l : Int) := by rw [h6]; exact w32_id (by omega) (by omega)
    have wj : w32 j = j := by rcases hv.2.2 with z | z; exact w32_id (by omega) (by omega); exact w32_id (by omega) (by omega)
    have own0 : 0 ≤ ownW c (VV c N sd) (12 * t + x) i j k l ∧ ownW c (VV c N sd) (12 * t + x) i j k l ≤ 1000000000 := by
      unfold ownW
      split
      · omega
      · exact VV_r _ _ _ _ _ _ _ _ _
    have U1 : τ1 0 42 = (U : Int) := by rw [y3 0 42 (by omega) (by omega)]; exact hU
    have P1 : τ1 0 48 = (P : Int) := by rw [y3 0 48 (by omega) (by omega)]; exact hP
    have z192 : 12 * t + x + 1 < 192 := by omega
    have wr := fun t p q => wq_r (c := c) (N := N) (sd := sd) (12 * t + x) i j k l t p q
    have root : ∀ t'', t'' < N → τ1 7 (12 * t'') = c (12 * t'') 1 ∧ τ1 13 (12 * t'') = c (12 * t'') 6 ∧ (c (12 * t'') 6 = 0 ∨ c (12 * t'') 6 = 1) ∧ (0 ≤ c (12 * t'') 1 ∧ c (12 * t'') 1 < 32) ∧ 0 < sz t'' := by
      intro t'' ht''
      have f := c6.2 t'' ht''
      have m := c5 t'' 0 ht'' f.1
      have f' := c6.1 t'' 0 ht'' f.1
      exact ⟨m.2.1, m.2.2.2.2.1, f'.2.1, ⟨f'.2.2.2.2.2.2.2.2.2.2.1, f'.2.2.2.2.2.2.2.2.2.2.2.1⟩, f.1⟩
    -- a product, looked up
    have setW : ∀ (t'' p'' q'' : Nat) (R : Int → St → Prop), t'' < N → c (12 * t'') 6 = 1 → i ≤ p'' → p'' ≤ lastP j l → fstQ j k p'' ≤ q'' → q'' ≤ l → R (wq (VV c N sd) (12 * t + x) i j k l t'' p'' q'') τ1 → wp_X9_set a2 (t'' : Int) a3 (p'' : Int) (q'' : Int) a6 j k' R τ1 := by
      intro t'' p'' q'' R ht'' h6'' b1 b2 b3 b4 hR
      obtain ⟨va, vp⟩ := pq_vs c6 ht hx hk hv b1 b2 b3 b4
      have lf := lf_r hv b1 b2
      have eA : mT τ1 false (12 * t'') i (p'' : Int) (q'' : Int) l = VV c N sd false (12 * t'') i (p'' : Int) (q'' : Int) l := c7 false t'' 0 i l (p'' : Int) (q'' : Int) ht'' (root t'' ht'').2.2.2.2 (by show Vs (c (12 * t'' + 0) 6) _ _ _ _ _; rw [show 12 * t'' + 0 = 12 * t'' from rfl, h6'']; exact va)
      have eB : mT τ1 true (12 * t + x + 1) p'' j k q'' = VV c N sd true (12 * t + x + 1) p'' j k q'' := c7 true t (x + 1) p'' q'' j k ht hx1 vp
      have rA := VV_r c N sd false (12 * t'') i (p'' : Int) (q'' : Int) l
      have rB := VV_r c N sd true (12 * t + x + 1) p'' j k q''
      have mb := mul_b rA rB
      unfold wp_X9_set
      refine sp_lie (g := 1) (n := n) (r := 12 * t'') (i := i) (l := l) (j := (p'' : Int)) (k := (q'' : Int)) c8 va c1 (by omega) (by omega) h3 h6 (fun _ => rfl) ?_
      rw [w2, rn, m12 hk, eA]
      refine ⟨by omega, ?_⟩
      refine sp_run (g := c (12 * t + (x + 1)) 7) (n := n) (r := 12 * t + x + 1) (i := p'') (l := q'') (j := j) (k := k) c8 vp c1 z192 rfl rfl rfl hkk ?_
      rw [eB]
      exact sp_least (by omega) hR
    -- over q: all of them pass
    have qPass : ∀ (K219 : Int → Int → Int → Int → Int → Int → Int → Int → Int → St → Prop) (K231 : Int → Int → Int → Int → Int → Int → Int → Int → Int → Int → St → Prop) (t'' p'' : Nat) (L0 : Int), t'' < N → c (12 * t'') 6 = 1 → i ≤ p'' → p'' ≤ lastP j l → L0 < 1000000001 → aQ (VV c N sd) (12 * t + x) i j k l t'' p'' (l + 1 - fstQ j k p'') ≤ L0 → K231 a1 a2 a3 j k' a6 x_1 (L0 - aQ (VV c N sd) (12 * t + x) i j k l t'' p'' (l + 1 - fstQ j k p'')) (t'' : Int) ((p'' + 1 : Nat) : Int) τ1 →
        ∀ (m q'' : Nat), l + 1 - q'' = m → fstQ j k p'' ≤ q'' → q'' ≤ l + 1 → wp_X9_lay_L275 K219 K231 Q (m + 1) a1 a2 a3 j k' a6 x_1 (L0 - aQ (VV c N sd) (12 * t + x) i j k l t'' p'' (q'' - fstQ j k p'')) (t'' : Int) (p'' : Int) (q'' : Int) τ1 := by
      intro K219 K231 t'' p'' L0 ht'' h6'' b1 b2 bL hle hK m
      induction m with
      | zero =>
        intro q'' e1 e2 e3
        unfold wp_X9_lay_L275
        rw [w6, w32_id (show -2147483648 ≤ (q'' : Int) by omega) (by omega)]
        refine ⟨fun _ x_1' ex => ?_, fun z => by omega⟩
        rw [ex, show (p'' : Int) + 1 = ((p'' + 1 : Nat) : Int) by omega, show q'' - fstQ j k p'' = l + 1 - fstQ j k p'' by omega]
        exact hK
      | succ m ih =>
        intro q'' e1 e2 e3
        have A0 := aQ_p (c := c) (N := N) (sd := sd) (12 * t + x) i j k l t'' p'' (q'' - fstQ j k p'')
        have nxt : aQ (VV c N sd) (12 * t + x) i j k l t'' p'' (q'' + 1 - fstQ j k p'') = aQ (VV c N sd) (12 * t + x) i j k l t'' p'' (q'' - fstQ j k p'') + wq (VV c N sd) (12 * t + x) i j k l t'' p'' q'' := by
          unfold aQ
          rw [show q'' + 1 - fstQ j k p'' = (q'' - fstQ j k p'') + 1 by omega, sm_1, show fstQ j k p'' + (q'' - fstQ j k p'') = q'' by omega]
        have mono : aQ (VV c N sd) (12 * t + x) i j k l t'' p'' (q'' + 1 - fstQ j k p'') ≤ aQ (VV c N sd) (12 * t + x) i j k l t'' p'' (l + 1 - fstQ j k p'') := sm_mono (fun d => (wq_r (c := c) (N := N) (sd := sd) (12 * t + x) i j k l t'' p'' (fstQ j k p'' + d)).1) (by omega)
        have wr' := wq_r (c := c) (N := N) (sd := sd) (12 * t + x) i j k l t'' p'' q''
        have go := ih (q'' + 1) (by omega) (by omega) (by omega)
        rw [nxt, show L0 - (aQ (VV c N sd) (12 * t + x) i j k l t'' p'' (q'' - fstQ j k p'') + wq (VV c N sd) (12 * t + x) i j k l t'' p'' q'') = L0 - aQ (VV c N sd) (12 * t + x) i j k l t'' p'' (q'' - fstQ j k p'') - wq (VV c N sd) (12 * t + x) i j k l t'' p'' q'' by omega] at go
        unfold wp_X9_lay_L275
        rw [w6, w32_id (show -2147483648 ≤ (q'' : Int) by omega) (by omega)]
        refine ⟨fun z => by omega, fun _ => setW t'' p'' q'' _ ht'' h6'' b1 b2 e2 (by omega) ?_⟩
        rw [lCmp_ge (by omega) (by omega)]
        refine ⟨fun _ x_4 ex4 x_5 ex5 => ?_, fun z => by omega⟩
        rw [ex4, ex5, show (q'' : Int) + 1 = ((q'' + 1 : Nat) : Int) by omega]
        exact go
    -- over q: one is taken
    have qHit : ∀ (K219 : Int → Int → Int → Int → Int → Int → Int → Int → Int → St → Prop) (K231 : Int → Int → Int → Int → Int → Int → Int → Int → Int → Int → St → Prop) (L0 : Int), L0 = aQ (VV c N sd) (12 * t + x) i j k l t' p (q - fstQ j k p) + left → L0 < 1000000001 →
        ∀ (m q'' : Nat), q - q'' = m → fstQ j k p ≤ q'' → q'' ≤ q → wp_X9_lay_L275 K219 K231 Q (m + 1) a1 a2 a3 j k' a6 x_1 (L0 - aQ (VV c N sd) (12 * t + x) i j k l t' p (q'' - fstQ j k p)) (t' : Int) (p : Int) (q'' : Int) τ1 := by
      intro K219 K231 L0 hL bL m
      have lf := lf_r hv s3 s4
      have wrq := wq_r (c := c) (N := N) (sd := sd) (12 * t + x) i j k l t' p q
      induction m with
      | zero =>
        intro q'' e1 e2 e3
        have e : q'' = q := by omega
        subst e
        have el : L0 - aQ (VV c N sd) (12 * t + x) i j k l t' p (q'' - fstQ j k p) = left := by omega
        rw [el]
        unfold wp_X9_lay_L275
        rw [w6, w32_id (show -2147483648 ≤ (q'' : Int) by omega) (by omega)]
        refine ⟨fun z => by omega, fun _ => setW t' p q'' _ s1 s2.2 s3 s4 s5 s6 ?_⟩
        rw [lCmp_ge (by omega) (by omega)]
        refine ⟨fun z => by omega, fun _ => ?_⟩
        have vp := (pq_vs c6 ht hx hk hv s3 s4 s5 s6).2
        have eB : mT τ1 true (12 * t + x + 1) p j k q'' = VV c N sd true (12 * t + (x + 1)) p j k q'' := c7 true t (x + 1) p q'' j k ht hx1 vp
        have rB := VV_r c N sd true (12 * t + (x + 1)) p j k q''
        have dv := lDiv_n (x := left) (y := VV c N sd true (12 * t + (x + 1)) p j k q'') (by omega) (by omega)
        rw [w2, rn, m12 hk]
        refine ⟨by omega, sp_run (g := c (12 * t + (x + 1)) 7) (n := n) (r := 12 * t + x + 1) (i := p) (l := q'') (j := j) (k := k) c8 vp c1 z192 rfl rfl rfl hkk ?_⟩
        rw [eB, show w32 x_1 = ((12 * u + x : Nat) : Int) by rw [ex1]; exact w32_id (by omega) (by omega), show (((12 * u + x : Nat) : Int)).toNat = 12 * u + x by omega]
        refine ⟨by omega, fun s8' e8 => ⟨by omega, fun s9' e9 => ⟨by omega, ?_⟩⟩⟩
        have f9 : lF τ s9' (12 * u + x) := fun o k q1 q2 => by rw [e9, su_ko _ _ q2, e8, su_ko _ _ q1]; exact y3 o k q1 q2
        have z64 : ¬ w64 (VV c N sd true (12 * t + (x + 1)) p j k q'') = 0 := by rw [w64_id (by omega) (by omega)]; omega
        have m12' : s9' 12 (12 * t + x) = ((12 * t + (x + 1) : Nat) : Int) := by
          have := m12 hk
          rw [y3 12 _ (by omega) (by omega)] at this
          rw [f9 12 _ (by omega) (by omega)]; exact this
        rw [dv.1, dv.2, m12']
        refine ⟨z64, sp_job (P := P) (u := u) (r := 12 * t + (x + 1)) (i := p) (l := q'') (k := k) (by rw [f9 0 48 (by omega) (by omega)]; exact hP) (by omega) (Or.inr rfl) h1 rfl rfl rfl hkk (fun τ2 p1 p2 p3 => ⟨z64, ?_⟩)⟩
        rw [rm]
        refine sp_takeTree (U := U) (P := P + 1) (t := t') (i := i) (l := l) (j := (p : Int)) (k := (q'' : Int)) (y := some (12 * u + x)) (by rw [p3 0 42 (by omega) (by omega) (by omega), f9 0 42 (by omega) (by omega)]; exact hU) hU8 p1 hP2 (by omega) rfl h3 h6 (by omega) (fun _ => rfl) (fun z => by omega) (Or.inr ⟨u, x, hu, by omega, h1, rfl, rfl⟩) (fun τ' r1 r2 r3 r4 r5 r6 r7 r8 r9 r10 r11 r12 r13 => ?_)
        exact h s9' τ2 τ' (by rw [e9, su_ko _ _ (by omega), e8, su_at]) (by rw [e9, su_at]) f9 p1 p2 p3 r1 r2 r3 r4 (by rw [r5]; exact h1) r6 r7 r8 r9 r10 r11 (r12 _ rfl) r13
      | succ m ih =>
        intro q'' e1 e2 e3
        have A0 := aQ_p (c := c) (N := N) (sd := sd) (12 * t + x) i j k l t' p (q'' - fstQ j k p)
        have nxt : aQ (VV c N sd) (12 * t + x) i j k l t' p (q'' + 1 - fstQ j k p) = aQ (VV c N sd) (12 * t + x) i j k l t' p (q'' - fstQ j k p) + wq (VV c N sd) (12 * t + x) i j k l t' p q'' := by
          unfold aQ
          rw [show q'' + 1 - fstQ j k p = (q'' - fstQ j k p) + 1 by omega, sm_1, show fstQ j k p + (q'' - fstQ j k p) = q'' by omega]
        have mono : aQ (VV c N sd) (12 * t + x) i j k l t' p (q'' + 1 - fstQ j k p) ≤ aQ (VV c N sd) (12 * t + x) i j k l t' p (q - fstQ j k p) := sm_mono (fun d => (wq_r (c := c) (N := N) (sd := sd) (12 * t + x) i j k l t' p (fstQ j k p + d)).1) (by omega)
        have wr' := wq_r (c := c) (N := N) (sd := sd) (12 * t + x) i j k l t' p q''
        have go := ih (q'' + 1) (by omega) (by omega) (by omega)
        rw [nxt, show L0 - (aQ (VV c N sd) (12 * t + x) i j k l t' p (q'' - fstQ j k p) + wq (VV c N sd) (12 * t + x) i j k l t' p q'') = L0 - aQ (VV c N sd) (12 * t + x) i j k l t' p (q'' - fstQ j k p) - wq (VV c N sd) (12 * t + x) i j k l t' p q'' by omega] at go
        unfold wp_X9_lay_L275
        rw [w6, w32_id (show -2147483648 ≤ (q'' : Int) by omega) (by omega)]
        refine ⟨fun z => by omega, fun _ => setW t' p q'' _ s1 s2.2 s3 s4 e2 (by omega) ?_⟩
        rw [lCmp_ge (by omega) (by omega)]
        refine ⟨fun _ x_4 ex4 x_5 ex5 => ?_, fun z => by omega⟩
        rw [ex4, ex5, show (q'' : Int) + 1 = ((q'' + 1 : Nat) : Int) by omega]
        exact go
    -- the head of a round over p
    have pHead : ∀ (K219 : Int → Int → Int → Int → Int → Int → Int → Int → Int → St → Prop) (K231 : Int → Int → Int → Int → Int → Int → Int → Int → Int → Int → St → Prop) (t'' p'' : Nat) (L : Int), t'' < N → i ≤ p'' → p'' ≤ lastP j l → (¬ (c (12 * t'') 1 = c (12 * t + x) 1 ∧ c (12 * t'') 6 = 1) → wp_X9_lay_B416 K219 a1 a2 a3 j k' a6 x_1 L (t'' : Int) Q τ1) → ((c (12 * t'') 1 = c (12 * t + x) 1 ∧ c (12 * t'') 6 = 1) → ∃ nn, wp_X9_lay_L275 K219 K231 Q nn a1 a2 a3 j k' a6 x_1 L (t'' : Int) (p'' : Int) ((fstQ j k p'' : Nat) : Int) τ1) →
        (¬ w32 j = -1 → wp_X9_lay_B246 K219 K231 a1 a2 a3 j k' a6 x_1 L (t'' : Int) (p'' : Int) (p'' : Int) j Q τ1) ∧ (w32 j = -1 → wp_X9_lay_B246 K219 K231 a1 a2 a3 j k' a6 x_1 L (t'' : Int) (p'' : Int) (p'' : Int) a6 Q τ1) := by
      intro K219 K231 t'' p'' L ht'' b1 b2 hno hyes
      have lf := lf_r hv b1 b2
      obtain ⟨r1, r2, r3, r4, r5⟩ := root t'' ht''
      rw [wj]
      have body : (w32 j = -1 → fstQ j k p'' = p'') → (¬ w32 j = -1 → k' = ((fstQ j k p'' : Nat) : Int)) → wp_X9_isFor (t'' : Int) a2 1 (fun r2 σ1 => (w32 r2 = 0 → wp_X9_lay_B416 K219 a1 a2 a3 j k' a6 x_1 L (t'' : Int) Q σ1) ∧ (¬ w32 r2 = 0 → (¬ w32 j = (-1) → wp_X9_lay_B273 K219 K231 a1 a2 a3 j k' a6 x_1 L (t'' : Int) (p'' : Int) k' Q σ1) ∧ (w32 j = (-1) → wp_X9_lay_B273 K219 K231 a1 a2 a3 j k' a6 x_1 L (t'' : Int) (p'' : Int) (p'' : Int) Q σ1))) τ1 := by
        intro f1 f2
        refine sp_isFor (c := c) (r := 12 * t + x) (t := t'') (by omega) (by omega) r1 m7 r2 r3 (Or.inr rfl) r4 nmr rfl h2 ?_
        by_cases qm : c (12 * t'') 1 = c (12 * t + x) 1 ∧ c (12 * t'') 6 = 1
        · rw [if_pos qm]
          refine ⟨fun z => absurd z (by decide), fun _ => ⟨fun z => ?_, fun z => ?_⟩⟩
          · unfold wp_X9_lay_B273; have := hyes qm; rw [← f2 z] at this; exact this
          · unfold wp_X9_lay_B273; have := hyes qm; rw [f1 z] at this; exact this
        · rw [if_neg qm]
          exact ⟨fun _ => hno qm, fun z => absurd w32_0 z⟩
      rw [wj] at body
      unfold wp_X9_lay_B246
      rw [wj, w6, w32_id (show -2147483648 ≤ (p'' : Int) by omega) (by omega)]
      refine ⟨fun z => ⟨fun y => by have := (lf.2.2.2.2 z).2; omega, fun _ => ?_⟩, fun z => ⟨fun y => by omega, fun _ => ?_⟩⟩
      · exact body (fun w => (lf.2.2.2.1 w).1) (fun w => by rw [hkk w]; exact ((lf.2.2.2.2 w).1).symm)
      · exact body (fun w => (lf.2.2.2.1 w).1) (fun w => by rw [hkk w]; exact ((lf.2.2.2.2 w).1).symm)
    -- past the last p
    have pEnd : ∀ (K219 : Int → Int → Int → Int → Int → Int → Int → Int → Int → St → Prop) (K231 : Int → Int → Int → Int → Int → Int → Int → Int → Int → Int → St → Prop) (t'' : Nat) (L : Int), K219 a1 a2 a3 j k' a6 x_1 L ((t'' + 1 : Nat) : Int) τ1 → (¬ w32 j = -1 → wp_X9_lay_B246 K219 K231 a1 a2 a3 j k' a6 x_1 L (t'' : Int) ((lastP j l + 1 : Nat) : Int) ((lastP j l + 1 : Nat) : Int) j Q τ1) ∧ (w32 j = -1 → wp_X9_lay_B246 K219 K231 a1 a2 a3 j k' a6 x_1 L (t'' : Int) ((lastP j l + 1 : Nat) : Int) ((lastP j l + 1 : Nat) : Int) a6 Q τ1) := by
      intro K219 K231 t'' L hK
      unfold wp_X9_lay_B246 wp_X9_lay_B416
      rw [wj, w6, w32_id (show -2147483648 ≤ ((lastP j l + 1 : Nat) : Int) by omega) (by omega)]
      refine ⟨fun z => ⟨fun _ x_1' ex => ?_, fun y => by have := lp.2.2.2 z; omega⟩, fun z => ⟨fun _ x_1' ex => ?_, fun y => by have := lp.2.2.1 z; omega⟩⟩
      all_goals
        rw [ex, show (t'' : Int) + 1 = ((t'' + 1 : Nat) : Int) by omega]
        exact hK
    -- over p: all pass
    have pPass : ∀ (K219 : Int → Int → Int → Int → Int → Int → Int → Int → Int → St → Prop) (t'' : Nat) (L0 : Int), t'' < N → (c (12 * t'') 1 = c (12 * t + x) 1 ∧ c (12 * t'') 6 = 1) → L0 < 1000000001 → aP (VV c N sd) (12 * t + x) i j k l t'' (lastP j l + 1 - i) ≤ L0 → K219 a1 a2 a3 j k' a6 x_1 (L0 - aP (VV c N sd) (12 * t + x) i j k l t'' (lastP j l + 1 - i)) ((t'' + 1 : Nat) : Int) τ1 →
        ∀ (m p'' : Nat), lastP j l + 1 - p'' = m → i ≤ p'' → p'' ≤ lastP j l + 1 → wp_X9_lay_L231 K219 Q (m + 1) a1 a2 a3 j k' a6 x_1 (L0 - aP (VV c N sd) (12 * t + x) i j k l t'' (p'' - i)) (t'' : Int) (p'' : Int) τ1 := by
      intro K219 t'' L0 ht'' hm bL hle hK m
      induction m with
      | zero =>
        intro p'' e1 e2 e3
        have e : p'' = lastP j l + 1 := by omega
        subst e
        unfold wp_X9_lay_L231
        exact pEnd K219 _ t'' _ hK
      | succ m ih =>
        intro p'' e1 e2 e3
        have zp : p'' ≤ lastP j l := by omega
        have lf := lf_r hv e2 zp
        have P0 := aP_p (c := c) (N := N) (sd := sd) (12 * t + x) i j k l t'' (p'' - i)
        have nxt : aP (VV c N sd) (12 * t + x) i j k l t'' (p'' + 1 - i) = aP (VV c N sd) (12 * t + x) i j k l t'' (p'' - i) + aQ (VV c N sd) (12 * t + x) i j k l t'' p'' (l + 1 - fstQ j k p'') := by
          unfold aP
          rw [show p'' + 1 - i = (p'' - i) + 1 by omega, sm_1, show i + (p'' - i) = p'' by omega]
        have mono : aP (VV c N sd) (12 * t + x) i j k l t'' (p'' + 1 - i) ≤ aP (VV c N sd) (12 * t + x) i j k l t'' (lastP j l + 1 - i) := sm_mono (fun d => aQ_p (c := c) (N := N) (sd := sd) (12 * t + x) i j k l t'' (i + d) _) (by omega)
        have go := ih (p'' + 1) (by omega) (by omega) (by omega)
        rw [nxt, show L0 - (aP (VV c N sd) (12 * t + x) i j k l t'' (p'' - i) + aQ (VV c N sd) (12 * t + x) i j k l t'' p'' (l + 1 - fstQ j k p'')) = L0 - aP (VV c N sd) (12 * t + x) i j k l t'' (p'' - i) - aQ (VV c N sd) (12 * t + x) i j k l t'' p'' (l + 1 - fstQ j k p'') by omega] at go
        unfold wp_X9_lay_L231
        refine pHead K219 _ t'' p'' _ ht'' e2 zp (fun z => absurd hm z) (fun _ => ⟨l + 1 - fstQ j k p'' + 1, ?_⟩)
        have := qPass K219 (fun z0 z1 z2 z3 z4 z5 z6 z7 z8 z9 σ => wp_X9_lay_L231 K219 Q (m + 1) z0 z1 z2 z3 z4 z5 z6 z7 z8 z9 σ) t'' p'' (L0 - aP (VV c N sd) (12 * t + x) i j k l t'' (p'' - i)) ht'' hm.2 e2 zp (by omega) (by omega) go (l + 1 - fstQ j k p'') (fstQ j k p'') rfl (Nat.le_refl _) (by omega)
        rw [Nat.sub_self, show aQ (VV c N sd) (12 * t + x) i j k l t'' p'' 0 = 0 from rfl, Int.sub_zero] at this
        exact this
    have pHit : ∀ (K219 : Int → Int → Int → Int → Int → Int → Int → Int → Int → St → Prop) (L0 : Int), L0 = aP (VV c N sd) (12 * t + x) i j k l t' (p - i) + aQ (VV c N sd) (12 * t + x) i j k l t' p (q - fstQ j k p) + left → L0 < 1000000001 →
        ∀ (m p'' : Nat), p - p'' = m → i ≤ p'' → p'' ≤ p → wp_X9_lay_L231 K219 Q (m + 1) a1 a2 a3 j k' a6 x_1 (L0 - aP (VV c N sd) (12 * t + x) i j k l t' (p'' - i)) (t' : Int) (p'' : Int) τ1 := by
      intro K219 L0 hL bL m
      induction m with
      | zero =>
        intro p'' e1 e2 e3
        have e : p'' = p := by omega
        subst e
        have P0 := aP_p (c := c) (N := N) (sd := sd) (12 * t + x) i j k l t' (p'' - i)
        unfold wp_X9_lay_L231
        refine pHead K219 _ t' p'' _ s1 s3 s4 (fun z => absurd s2 z) (fun _ => ⟨q - fstQ j k p'' + 1, ?_⟩)
        have := qHit K219 (fun z0 z1 z2 z3 z4 z5 z6 z7 z8 z9 σ => wp_X9_lay_L231 K219 Q 0 z0 z1 z2 z3 z4 z5 z6 z7 z8 z9 σ) (L0 - aP (VV c N sd) (12 * t + x) i j k l t' (p'' - i)) (by omega) (by omega) (q - fstQ j k p'') (fstQ j k p'') rfl (Nat.le_refl _) s5
        rw [Nat.sub_self, show aQ (VV c N sd) (12 * t + x) i j k l t' p'' 0 = 0 from rfl, Int.sub_zero] at this
        exact this
      | succ m ih =>
        intro p'' e1 e2 e3
        have zp : p'' ≤ lastP j l := by omega
        have lf := lf_r hv e2 zp
        have P0 := aP_p (c := c) (N := N) (sd := sd) (12 * t + x) i j k l t' (p'' - i)
        have Q0 := aQ_p (c := c) (N := N) (sd := sd) (12 * t + x) i j k l t' p (q - fstQ j k p)
        have nxt : aP (VV c N sd) (12 * t + x) i j k l t' (p'' + 1 - i) = aP (VV c N sd) (12 * t + x) i j k l t' (p'' - i) + aQ (VV c N sd) (12 * t + x) i j k l t' p'' (l + 1 - fstQ j k p'') := by
          unfold aP
          rw [show p'' + 1 - i = (p'' - i) + 1 by omega, sm_1, show i + (p'' - i) = p'' by omega]
        have mono : aP (VV c N sd) (12 * t + x) i j k l t' (p'' + 1 - i) ≤ aP (VV c N sd) (12 * t + x) i j k l t' (p - i) := sm_mono (fun d => aQ_p (c := c) (N := N) (sd := sd) (12 * t + x) i j k l t' (i + d) _) (by omega)
        have go := ih (p'' + 1) (by omega) (by omega) (by omega)
        rw [nxt, show L0 - (aP (VV c N sd) (12 * t + x) i j k l t' (p'' - i) + aQ (VV c N sd) (12 * t + x) i j k l t' p'' (l + 1 - fstQ j k p'')) = L0 - aP (VV c N sd) (12 * t + x) i j k l t' (p'' - i) - aQ (VV c N sd) (12 * t + x) i j k l t' p'' (l + 1 - fstQ j k p'') by omega] at go
        unfold wp_X9_lay_L231
        refine pHead K219 _ t' p'' _ s1 e2 zp (fun z => absurd s2 z) (fun _ => ⟨l + 1 - fstQ j k p'' + 1, ?_⟩)
        have := qPass K219 (fun z0 z1 z2 z3 z4 z5 z6 z7 z8 z9 σ => wp_X9_lay_L231 K219 Q (m + 1) z0 z1 z2 z3 z4 z5 z6 z7 z8 z9 σ) t' p'' (L0 - aP (VV c N sd) (12 * t + x) i j k l t' (p'' - i)) s1 s2.2 e2 zp (by omega) (by omega) go (l + 1 - fstQ j k p'') (fstQ j k p'') rfl (Nat.le_refl _) (by omega)
        rw [Nat.sub_self, show aQ (VV c N sd) (12 * t + x) i j k l t' p'' 0 = 0 from rfl, Int.sub_zero] at this
        exact this
    have tL : ∀ (m t'' : Nat), t' - t'' = m → t'' ≤ t' → wp_X9_lay_L219 Q (m + 1) a1 a2 a3 j k' a6 x_1 (way - own - sm (aT c (VV c N sd) (12 * t + x) i j k l) t'') (t'' : Int) τ1 := by
      intro m
      have smp := fun m => sm_p (f := aT c (VV c N sd) (12 * t + x) i j k l) m (fun d _ => aT_p _ _ _ _ _ d)
      have Pp := aP_p (c := c) (N := N) (sd := sd) (12 * t + x) i j k l t' (p - i)
      have Qp := aQ_p (c := c) (N := N) (sd := sd) (12 * t + x) i j k l t' p (q - fstQ j k p)
      induction m with
      | zero =>
        intro t'' e1 e2
        have e : t'' = t' := by omega
        subst e
        have S0 := smp t''
        unfold wp_X9_lay_L219
        rw [c3, w32_id (show -2147483648 ≤ (N : Int) by omega) (by omega), w32_id (show -2147483648 ≤ (t'' : Int) by omega) (by omega)]
        refine ⟨fun z => by omega, fun _ => ⟨p - i + 1, ?_⟩⟩
        have := pHit (fun z0 z1 z2 z3 z4 z5 z6 z7 z8 σ => wp_X9_lay_L219 Q 0 z0 z1 z2 z3 z4 z5 z6 z7 z8 σ) (way - own - sm (aT c (VV c N sd) (12 * t + x) i j k l) t'') (by omega) (by omega) (p - i) i rfl (Nat.le_refl i) s3
        rw [Nat.sub_self, show aP (VV c N sd) (12 * t + x) i j k l t'' 0 = 0 from rfl, Int.sub_zero] at this
        rw [h3] at this ⊢
        exact this
      | succ m ih =>
        intro t'' e1 e2
        have z0 : t'' < N := by omega
        have S0 := smp t''
        have mono : sm (aT c (VV c N sd) (12 * t + x) i j k l) (t'' + 1) ≤ sm (aT c (VV c N sd) (12 * t + x) i j k l) t' := sm_mono (fun d => aT_p (c := c) (N := N) (sd := sd) (12 * t + x) i j k l d) (by omega)
        rw [sm_1] at mono
        have go := ih (t'' + 1) (by omega) (by omega)
        rw [sm_1, show way - own - (sm (aT c (VV c N sd) (12 * t + x) i j k l) t'' + aT c (VV c N sd) (12 * t + x) i j k l t'') = way - own - sm (aT c (VV c N sd) (12 * t + x) i j k l) t'' - aT c (VV c N sd) (12 * t + x) i j k l t'' by omega] at go
        unfold wp_X9_lay_L219
        rw [c3, w32_id (show -2147483648 ≤ (N : Int) by omega) (by omega), w32_id (show -2147483648 ≤ (t'' : Int) by omega) (by omega)]
        refine ⟨fun z => by omega, fun _ => ?_⟩
        by_cases qm : c (12 * t'') 1 = c (12 * t + x) 1 ∧ c (12 * t'') 6 = 1
        · have ae : aT c (VV c N sd) (12 * t + x) i j k l t'' = aP (VV c N sd) (12 * t + x) i j k l t'' (lastP j l + 1 - i) := by unfold aT; rw [if_pos qm]
          rw [ae] at mono go
          refine ⟨lastP j l + 1 - i + 1, ?_⟩
          have := pPass (fun z0 z1 z2 z3 z4 z5 z6 z7 z8 σ => wp_X9_lay_L219 Q (m + 1) z0 z1 z2 z3 z4 z5 z6 z7 z8 σ) t'' (way - own - sm (aT c (VV c N sd) (12 * t + x) i j k l) t'') z0 qm (by omega) (by omega) go (lastP j l + 1 - i) i rfl (Nat.le_refl i) (by omega)
          rw [Nat.sub_self, show aP (VV c N sd) (12 * t + x) i j k l t'' 0 = 0 from rfl, Int.sub_zero] at this
          rw [h3] at this ⊢
          exact this
        · have ae : aT c (VV c N sd) (12 * t + x) i j k l t'' = 0 := by unfold aT; rw [if_neg qm]
          rw [ae, Int.sub_zero] at go
          refine ⟨1, ?_⟩
          unfold wp_X9_lay_L231
          rw [h3]
          have := pHead (fun z0 z1 z2 z3 z4 z5 z6 z7 z8 σ => wp_X9_lay_L219 Q (m + 1) z0 z1 z2 z3 z4 z5 z6 z7 z8 σ) (fun z0 z1 z2 z3 z4 z5 z6 z7 z8 z9 σ => wp_X9_lay_L231 (fun z0 z1 z2 z3 z4 z5 z6 z7 z8 σ => wp_X9_lay_L219 Q (m + 1) z0 z1 z2 z3 z4 z5 z6 z7 z8 σ) Q 0 z0 z1 z2 z3 z4 z5 z6 z7 z8 z9 σ) t'' i (way - own - sm (aT c (VV c N sd) (12 * t + x) i j k l) t'') z0 (Nat.le_refl i) lp.2.1 (fun _ => by
            unfold wp_X9_lay_B416
            intro x_1' ex
            rw [ex, show (t'' : Int) + 1 = ((t'' + 1 : Nat) : Int) by omega]
            exact go) (fun z => absurd z qm)
          rw [h3] at this
          exact this
    unfold wp_X9_lay_B177
    rw [ho, lCmp_ge (by omega) (by omega), ← ho]
    refine ⟨fun _ x_1' ex => ?_, fun z => by omega⟩
    have := tL t' 0 (by omega) (by omega)
    rw [sm_z0, Int.sub_zero] at this
    rw [ex]
    exact ⟨_, this⟩
  refine sp_mlayH hC (by omega) ht hx h1 h2 h3 h6 (fun x_1 τ1 ex1 y1 y2 y3 => ⟨fun _ => ⟨fun _ => ⟨fun z => ?_, fun z => ?_⟩, fun z => absurd z kM⟩, fun z => by omega⟩)
  · have hC1 : CM c N sz sd n hw wo τ1 := CM_fr hC0 (fun o k a _ => y3 o k (by omega) (by omega))
    obtain ⟨c1, c2, c3, c4, c5, c6, c7, c8, c9⟩ := hC1
    obtain ⟨m6, m7, m10, m11, m13, m12, m4⟩ := c5 t x ht hx
    have s12 := (c6.2 t ht).2.1
    have hx1 : x + 1 < sz t := (c6.1 t x ht hx).2.2.2.1 hk
    have vp : Vs (c (12 * t + (x + 1)) 7) i j k l n := by
      have g6 := (c6.1 t x ht hx).2.2.2.2.2.1
      have g3' := (c6.1 t (x + 1) ht hx1).2.2.1
      have h67 : c (12 * t + x) 6 = 1 ↔ c (12 * t + (x + 1)) 7 = 1 := by
        rw [g6]; exact ⟨fun z => z.elim (fun w => by omega) (fun w => w.2), fun z => Or.inr ⟨hk, z⟩⟩
      obtain ⟨v1, v2, v3⟩ := hv
      refine ⟨v1, v2, ?_⟩
      rcases v3 with z | z
      · left; refine ⟨?_, z.2⟩
        rcases g3' with w | w
        · exact w
        · have := h67.mpr w; omega
      · right; exact ⟨h67.mp z.1, z.2⟩
    rw [m12 hk]
    refine sp_run (r := 12 * t + x + 1) (i := i) (l := l) (j := j) (k := k) c8 vp c1 (by omega) rfl h3 h6 hkk (main x_1 τ1 _ ex1 y3 ?_)
    unfold ownW
    rw [if_neg z]
    exact c7 true t (x + 1) i l j k ht hx1 vp
  · exact main x_1 τ1 0 ex1 y3 (by unfold ownW; rw [if_pos z])
