/-! pure: a node of the whole tree is added -/
theorem addNum {S t z x : Nat} (hS : S < 96) (ht : t < 16) (hz : x < z) (hz12 : z ≤ 12) : (w32 ((S : Int) * 6 + 0) = (S : Int) * 6 + 0) ∧ (w32 ((S : Int) * 6 + 1) = (S : Int) * 6 + 1) ∧ (w32 ((S : Int) * 6 + 2) = (S : Int) * 6 + 2) ∧ (w32 ((S : Int) * 6 + 3) = (S : Int) * 6 + 3) ∧ (w32 ((S : Int) * 6 + 4) = (S : Int) * 6 + 4) ∧ (w32 ((S : Int) * 6 + 5) = (S : Int) * 6 + 5) ∧ (((S : Int) * 6 + 0).toNat = 6 * S) ∧ (((S : Int) * 6 + 1).toNat = 6 * S + 1) ∧ (((S : Int) * 6 + 2).toNat = 6 * S + 2) ∧ (((S : Int) * 6 + 3).toNat = 6 * S + 3) ∧ (((S : Int) * 6 + 4).toNat = 6 * S + 4) ∧ (((S : Int) * 6 + 5).toNat = 6 * S + 5) ∧ (0 ≤ (S : Int) * 6 + 0 ∧ (S : Int) * 6 + 0 < 576) ∧ (0 ≤ (S : Int) * 6 + 1 ∧ (S : Int) * 6 + 1 < 576) ∧ (0 ≤ (S : Int) * 6 + 2 ∧ (S : Int) * 6 + 2 < 576) ∧ (0 ≤ (S : Int) * 6 + 3 ∧ (S : Int) * 6 + 3 < 576) ∧ (0 ≤ (S : Int) * 6 + 4 ∧ (S : Int) * 6 + 4 < 576) ∧ (0 ≤ (S : Int) * 6 + 5 ∧ (S : Int) * 6 + 5 < 576) ∧ (w32 (t : Int) = (t : Int)) ∧ (0 ≤ (t : Int) ∧ (t : Int) < 17) ∧ (((t : Int)).toNat = t) ∧ (((z : Nat) : Int) - 1 = ((z - 1 : Nat) : Int)) ∧ (z - 1 < z) ∧ (x ≤ z - 1) ∧ (z - 1 + 1 = z) := ⟨w32_id (by omega) (by omega), w32_id (by omega) (by omega), w32_id (by omega) (by omega), w32_id (by omega) (by omega), w32_id (by omega) (by omega), w32_id (by omega) (by omega), by omega, by omega, by omega, by omega, by omega, by omega, by omega, by omega, by omega, by omega, by omega, by omega, w32_id (by omega) (by omega), by omega, by omega, by omega, by omega, by omega, by omega⟩
theorem addLp {m y x z : Nat} (h : y - x = m + 1) (hy : y < z) (hz : z ≤ 12) : (¬ (y : Int) ≤ (x : Int)) ∧ (y - 1 - x = m) ∧ (x ≤ y - 1) ∧ (y - 1 < z) ∧ ((y : Int) + -1 = ((y - 1 : Nat) : Int)) ∧ (y - 1 + 1 = y) ∧ (z - y = (z - (y + 1)) + 1) ∧ (y < 12) ∧ (x < y) ∧ (w32 (x : Int) = (x : Int)) ∧ (w32 (y : Int) = (y : Int)) := ⟨by omega, by omega, by omega, by omega, by omega, by omega, by omega, by omega, by omega, w32_id (by omega) (by omega), w32_id (by omega) (by omega)⟩
theorem addWv {a b : Int} {y z : Nat} (e : a = b) (h : -1 ≤ a ∧ a < (y : Int)) (hy : y < z) (hz : z ≤ 12) : w32 b = b := w32_id (by omega) (by omega)
theorem sp_add7 {c : Nat → Nat → Int} {N : Nat} {sz : Nat → Nat} {sd : Nat → Int} {n : Nat} {hw wo : Nat → Prop} {σ : St} {Q : St → Prop} {u t x S : Nat} {W : List Wn} {par a1 a2 : Int} (hC : CC c N sz sd n hw wo σ) (hu : u < 8) (h24 : σ 24 (7 * u) = (t : Int)) (ht : t < N) (hx : x < sz t) (hS : σ 26 0 = (S : Int)) (hS96 : S < 96) (hs : σ 26 5 = ((W.length : Nat) : Int)) (hW : WS σ W) (hl : (KL (pT c t) u x (S : Int) (x + 1) (sz t - (x + 1)) ++ W).length ≤ 96) (h1 : a1 = (u : Int)) (h2 : a2 = (x : Int))
    (h : ∀ σ', σ' 26 0 = ((S + 1 : Nat) : Int) → σ' 26 5 = (((KL (pT c t) u x (S : Int) (x + 1) (sz t - (x + 1)) ++ W).length : Nat) : Int) → WS σ' (KL (pT c t) u x (S : Int) (x + 1) (sz t - (x + 1)) ++ W) → σ' 27 (6 * S) = (u : Int) → σ' 27 (6 * S + 1) = (x : Int) → σ' 27 (6 * S + 2) = par → σ' 27 (6 * S + 3) = σ 25 (nJ u x 3) → σ' 27 (6 * S + 4) = σ 25 (nJ u x 4) → σ' 27 (6 * S + 5) = c (12 * t + x) 3 → (∀ o k, ¬ (o = 26 ∧ (k = 0 ∨ k = 5)) → ¬ (o = 27 ∧ 6 * S ≤ k) → o ≠ 28 → σ' o k = σ o k) → Q σ') : wp_X7_add a1 a2 par Q σ := by
  have hl' : le96 (KL (pT c t) u x (S : Int) (x + 1) (sz t - (x + 1)) ++ W) := hl
  have hWL : WL σ W := ⟨hs, hW⟩
  clear hl hs hW
  have hC0 := hC
  obtain ⟨c1, c2, c3, c4, c5, c6, c7, c8⟩ := hC
  have s12 := (c6.2 t ht).2.1
  have z12 : x < 12 := by omega
  have z16 : t ≤ 16 := by omega
  have t16 : t < 16 := by omega
  have e3 : nd σ t x 3 = c (12 * t + x) 3 := c5 t x 3 ht hx (by omega)
  -- the parts are put on the stack
  have loop : ∀ (m y : Nat) (σ1 : St), y - x = m → x ≤ y → y < sz t → σ1 26 0 = (S : Int) → (∀ o k, ¬ (o = 26 ∧ (k = 0 ∨ k = 5)) → ¬ (o = 27 ∧ 6 * S ≤ k) → o ≠ 28 → σ1 o k = σ o k) → WL σ1 (KL (pT c t) u x (S : Int) (y + 1) (sz t - (y + 1)) ++ W) → σ1 27 (6 * S) = (u : Int) → σ1 27 (6 * S + 1) = (x : Int) → σ1 27 (6 * S + 2) = par → σ1 27 (6 * S + 3) = σ 25 (nJ u x 3) → σ1 27 (6 * S + 4) = σ 25 (nJ u x 4) → σ1 27 (6 * S + 5) = c (12 * t + x) 3 → wp_X7_add_L125 Q (m + 1) (u : Int) (x : Int) (t : Int) (y : Int) σ1 := by
    intro m
    induction m with
    | zero =>
      intro y σ1 g1 g2 g3 g4 g5 g67 k0 k1 k2 k3 k4 k5
      have e : y = x := by omega
      subst e
      unfold wp_X7_add_L125
      refine ⟨fun _ s e => ?_, fun z => absurd (Int.le_refl _) z⟩
      have f : ∀ o k, ¬ (o = 26 ∧ k = 0) → s o k = σ1 o k := fun o k q => by rw [e]; exact su_ko _ _ q
      refine h s (by rw [e, su_at, g4]; omega) (by rw [f 26 5 (by omega)]; exact g67.1) (WS_fr _ g67.2 (fun k _ => f 28 k (by omega))) (by rw [f 27 _ (by omega)]; exact k0) (by rw [f 27 _ (by omega)]; exact k1) (by rw [f 27 _ (by omega)]; exact k2) (by rw [f 27 _ (by omega)]; exact k3) (by rw [f 27 _ (by omega)]; exact k4) (by rw [f 27 _ (by omega)]; exact k5) (fun o k q1 q2 q3 => by rw [f o k (by omega)]; exact g5 o k q1 q2 q3)
    | succ m ih =>
      intro y σ1 g1 g2 g3 g4 g5 g67 k0 k1 k2 k3 k4 k5
      obtain ⟨zy, z1, z2, z3, z4, z5, z6, y12, xy, wx, wy⟩ := addLp g1 g3 s12
      have e2 : nd σ1 t y 2 = pT c t y := (g5 11 _ (fun z => absurd z.1 (by decide)) (fun z => absurd z.1 (by decide)) (by decide)).trans (c5 t y 2 ht g3 (by decide))
      have wv : w32 (pT c t y) = pT c t y := addWv (c5 t y 2 ht g3 (by decide)) ((c4 t ht).2.2.2.1.1 y g3) g3 s12
      have kl : KL (pT c t) u x (S : Int) y (sz t - y) = if pT c t y = (x : Int) then (u, y, (S : Int)) :: KL (pT c t) u x (S : Int) (y + 1) (sz t - (y + 1)) else KL (pT c t) u x (S : Int) (y + 1) (sz t - (y + 1)) := by
        rw [z6]; rfl
      unfold wp_X7_add_L125
      rw [wx, wy]
      refine ⟨fun z => absurd z zy, fun _ => sp_row1 (t := t) (x := y) rfl rfl ?_⟩
      refine sp_cell (t := t) (x := y) (w := 2) rfl rfl z16 y12 (by decide) ?_
      rw [e2, wv]
      unfold wp_X7_add_B161
      refine ⟨fun q x_1 ex => ?_, fun q => ?_⟩
      · rw [if_neg q] at kl
        rw [ex, z4]
        exact ih (y - 1) σ1 z1 z2 z3 g4 g5 (by rw [z5, kl]; exact g67) k0 k1 k2 k3 k4 k5
      · rw [if_pos q] at kl
        refine sp_push (e := (u, y, (S : Int))) g67.1 g67.2 (KL_room (u := u) (S := (S : Int)) (W := W) g2 g3 xy q hl') rfl rfl g4 (fun σ2 y1 y2 y3 x_1 ex => ?_)
        have yy : WL σ2 ((u, y, (S : Int)) :: (KL (pT c t) u x (S : Int) (y + 1) (sz t - (y + 1)) ++ W)) := ⟨y1, y2⟩
        have y4 : ∀ k, σ2 27 k = σ1 27 k := fun k => y3 27 k (fun z => absurd z.1 (by decide)) (by decide)
        rw [ex, z4]
        exact ih (y - 1) σ2 z1 z2 z3 ((y3 26 0 (fun z => absurd z.2 (by decide)) (by decide)).trans g4) (fun o k q1 q2 q3 => (y3 o k (fun z => q1 ⟨z.1, Or.inr z.2⟩) q3).trans (g5 o k q1 q2 q3)) (by rw [z5, kl]; exact yy) ((y4 _).trans k0) ((y4 _).trans k1) ((y4 _).trans k2) ((y4 _).trans k3) ((y4 _).trans k4) ((y4 _).trans k5)
  unfold wp_X7_add
  rw [h1, h2]
  refine sp_useCell (u := u) (w := 0) hu (by omega) rfl rfl ?_
  rw [Nat.add_zero, h24]
  intro x_3 ex3
  rw [hS] at ex3
  subst ex3
  obtain ⟨v0, v1, v2, v3, v4, v5, t0, t1, t2, t3, t4, t5, b0, b1, b2, b3, b4, b5, wt, bt, ttn, szt, szl, szx, szz⟩ := addNum (z := sz t) hS96 t16 hx s12
  rw [v0, v1, v2, v3, v4, v5, t0, t1, t2, t3, t4, t5]
  clear v0 v1 v2 v3 v4 v5 t0 t1 t2 t3 t4 t5
  refine ⟨b0, fun s4 e4 => ⟨b1, fun s5 e5 => ⟨b2, fun s6 e6 => ?_⟩⟩⟩
  have f6 : ∀ o k, o ≠ 27 → s6 o k = σ o k := fun o k q => by rw [e6, su_ko _ _ (fun z => q z.1), e5, su_ko _ _ (fun z => q z.1), e4, su_ko _ _ (fun z => q z.1)]
  refine sp_nodeCell (u := u) (x := x) (w := 3) hu z12 (by decide) rfl rfl rfl ⟨b3, fun s9 e9 => ?_⟩
  have f9 : ∀ o k, o ≠ 27 → s9 o k = σ o k := fun o k q => by rw [e9, su_ko _ _ (fun z => q z.1)]; exact f6 o k q
  refine sp_nodeCell (u := u) (x := x) (w := 4) hu z12 (by decide) rfl rfl rfl ⟨b4, fun s12' e12 => ?_⟩
  have f12 : ∀ o k, o ≠ 27 → s12' o k = σ o k := fun o k q => by rw [e12, su_ko _ _ (fun z => q z.1)]; exact f9 o k q
  refine sp_row1 (t := t) (x := x) rfl rfl ?_
  refine sp_cell (t := t) (x := x) (w := 3) rfl rfl z16 z12 (by decide) ⟨b5, fun s17 e17 => ?_⟩
  have f17 : ∀ o k, o ≠ 27 → s17 o k = σ o k := fun o k q => by rw [e17, su_ko _ _ (fun z => q z.1)]; exact f12 o k q
  have n3' : nd s12' t x 3 = c (12 * t + x) 3 := by rw [← e3]; exact f12 11 _ (by decide)
  have e10 : s17 10 t = ((sz t : Nat) : Int) := by rw [f17 10 t (by decide)]; exact (c4 t ht).1
  rw [wt, ttn, e10]
  refine ⟨bt, fun x_18 ex18 => ⟨sz t - 1 - x + 1, ?_⟩⟩
  rw [ex18, szt]
  clear b0 b1 b2 b3 b4 b5 bt wt ttn szt
  have kl0 : KL (pT c t) u x (S : Int) (sz t - 1 + 1) (sz t - (sz t - 1 + 1)) ++ W = W := by rw [szz, Nat.sub_self]; rfl
  have p265 : s17 26 5 = (((KL (pT c t) u x (S : Int) (sz t - 1 + 1) (sz t - (sz t - 1 + 1)) ++ W).length : Nat) : Int) := by rw [kl0, f17 26 5 (by decide)]; exact hWL.1
  have pWS : WS s17 (KL (pT c t) u x (S : Int) (sz t - 1 + 1) (sz t - (sz t - 1 + 1)) ++ W) := by rw [kl0]; exact WS_fr W hWL.2 (fun k _ => f17 28 k (by decide))
  clear hl' kl0
  refine loop (sz t - 1 - x) (sz t - 1) s17 rfl szx szl (by rw [f17 26 0 (by decide)]; exact hS) (fun o k q1 q2 q3 => ?_) ⟨p265, pWS⟩ ?_ ?_ ?_ ?_ ?_ ?_
  all_goals clear loop h p265 pWS hWL
  · rw [e17, su_ko _ _ (by omega), e12, su_ko _ _ (by omega), e9, su_ko _ _ (by omega), e6, su_ko _ _ (by omega), e5, su_ko _ _ (by omega), e4, su_ko _ _ (by omega)]
  · rw [e17, su_ko _ _ (by omega), e12, su_ko _ _ (by omega), e9, su_ko _ _ (by omega), e6, su_ko _ _ (by omega), e5, su_ko _ _ (by omega), e4, su_at]
  · rw [e17, su_ko _ _ (by omega), e12, su_ko _ _ (by omega), e9, su_ko _ _ (by omega), e6, su_ko _ _ (by omega), e5, su_at]
  · rw [e17, su_ko _ _ (by omega), e12, su_ko _ _ (by omega), e9, su_ko _ _ (by omega), e6, su_at]
  · rw [e17, su_ko _ _ (by omega), e12, su_ko _ _ (by omega), e9, su_at]; exact f6 25 _ (by decide)
  · rw [e17, su_ko _ _ (by omega), e12, su_at]; exact f9 25 _ (by decide)
  · rw [e17, su_at]; exact n3'
