/-! pure: the reference shows a node -/
def ML (τ : St) (L : List Wn) : Prop := τ 0 48 = ((L.length : Nat) : Int) ∧ MStk τ L
theorem shNum {S t x z u : Nat} (hS : S < 96) (ht : t < 16) (hx : x < z) (hz : z ≤ 12) (hu : u < 8) : (w32 (6 * (S : Int)) = 6 * (S : Int)) ∧ (w32 (6 * (S : Int) + 1) = 6 * (S : Int) + 1) ∧ (w32 (6 * (S : Int) + 2) = 6 * (S : Int) + 2) ∧ (w32 (6 * (S : Int) + 3) = 6 * (S : Int) + 3) ∧ (w32 (6 * (S : Int) + 4) = 6 * (S : Int) + 4) ∧ (w32 (6 * (S : Int) + 5) = 6 * (S : Int) + 5) ∧ ((6 * (S : Int)).toNat = 6 * S) ∧ ((6 * (S : Int) + 1).toNat = 6 * S + 1) ∧ ((6 * (S : Int) + 2).toNat = 6 * S + 2) ∧ ((6 * (S : Int) + 3).toNat = 6 * S + 3) ∧ ((6 * (S : Int) + 4).toNat = 6 * S + 4) ∧ ((6 * (S : Int) + 5).toNat = 6 * S + 5) ∧ (0 ≤ 6 * (S : Int) ∧ 6 * (S : Int) < 720) ∧ (0 ≤ 6 * (S : Int) + 1 ∧ 6 * (S : Int) + 1 < 720) ∧ (0 ≤ 6 * (S : Int) + 2 ∧ 6 * (S : Int) + 2 < 720) ∧ (0 ≤ 6 * (S : Int) + 3 ∧ 6 * (S : Int) + 3 < 720) ∧ (0 ≤ 6 * (S : Int) + 4 ∧ 6 * (S : Int) + 4 < 720) ∧ (0 ≤ 6 * (S : Int) + 5 ∧ 6 * (S : Int) + 5 < 720) ∧ (w32 (12 * (u : Int) + (x : Int)) = 12 * (u : Int) + (x : Int)) ∧ ((12 * (u : Int) + (x : Int)).toNat = 12 * u + x) ∧ (0 ≤ 12 * (u : Int) + (x : Int) ∧ 12 * (u : Int) + (x : Int) < 120) ∧ (w32 (12 * (t : Int) + (x : Int)) = 12 * (t : Int) + (x : Int)) ∧ ((12 * (t : Int) + (x : Int)).toNat = 12 * t + x) ∧ (0 ≤ 12 * (t : Int) + (x : Int) ∧ 12 * (t : Int) + (x : Int) < 204) ∧ (w32 (7 * (u : Int)) = 7 * (u : Int)) ∧ ((7 * (u : Int)).toNat = 7 * u) ∧ (0 ≤ 7 * (u : Int) ∧ 7 * (u : Int) < 70) ∧ (w32 (t : Int) = (t : Int)) ∧ (0 ≤ (t : Int) ∧ (t : Int) < 17) ∧ (((t : Int)).toNat = t) ∧ (((z : Nat) : Int) - 1 = ((z - 1 : Nat) : Int)) ∧ (z - 1 < z) ∧ (x ≤ z - 1) ∧ (z - 1 + 1 = z) :=
  ⟨w32_id (by omega) (by omega), w32_id (by omega) (by omega), w32_id (by omega) (by omega), w32_id (by omega) (by omega), w32_id (by omega) (by omega), w32_id (by omega) (by omega), by omega, by omega, by omega, by omega, by omega, by omega, by omega, by omega, by omega, by omega, by omega, by omega, w32_id (by omega) (by omega), by omega, by omega, w32_id (by omega) (by omega), by omega, by omega, w32_id (by omega) (by omega), by omega, by omega, w32_id (by omega) (by omega), by omega, by omega, by omega, by omega, by omega, by omega⟩
theorem shLp {t y : Nat} (ht : t < 16) (hy : y < 12) : (w32 (12 * (t : Int) + (y : Int)) = 12 * (t : Int) + (y : Int)) ∧ ((12 * (t : Int) + (y : Int)).toNat = 12 * t + y) ∧ (0 ≤ 12 * (t : Int) + (y : Int) ∧ 12 * (t : Int) + (y : Int) < 204) := ⟨w32_id (by omega) (by omega), by omega, by omega⟩
theorem sp_show {c : Nat → Nat → Int} {sz : Nat → Nat} {τ : St} {Q : St → Prop} {u t x S : Nat} {W : List Wn} {par a1 a2 a3 : Int} (hu : u < 8) (h23 : τ 23 (7 * u) = (t : Int)) (ht : t < 16) (hx : x < sz t) (s12 : sz t ≤ 12) (h17 : τ 17 t = ((sz t : Nat) : Int)) (h8 : ∀ y, y < sz t → τ 8 (12 * t + y) = pT c t y ∧ -1 ≤ pT c t y ∧ pT c t y < (y : Int)) (hS : τ 0 50 = (S : Int)) (hS96 : S < 96) (hML : ML τ W) (hl : le96 (KL (pT c t) u x (S : Int) (x + 1) (sz t - (x + 1)) ++ W)) (h1 : a1 = (u : Int)) (h2 : a2 = (x : Int)) (h3 : a3 = 12 * (t : Int) + (x : Int))
    (h : ∀ τ', τ' 0 50 = ((S + 1 : Nat) : Int) → ML τ' (KL (pT c t) u x (S : Int) (x + 1) (sz t - (x + 1)) ++ W) → τ' 29 (6 * S) = (u : Int) → τ' 29 (6 * S + 1) = (x : Int) → τ' 29 (6 * S + 2) = par → τ' 29 (6 * S + 3) = τ 24 (12 * u + x) → τ' 29 (6 * S + 4) = τ 25 (12 * u + x) → τ' 29 (6 * S + 5) = τ 9 (12 * t + x) → (∀ o k, ¬ (o = 0 ∧ (k = 48 ∨ k = 50)) → ¬ (o = 29 ∧ 6 * S ≤ k) → o ≠ 27 → τ' o k = τ o k) → Q τ') : wp_X9_show a1 a2 a3 par Q τ := by
  obtain ⟨v0, v1, v2, v3, v4, v5, t0, t1, t2, t3, t4, t5, b0, b1, b2, b3, b4, b5, vu, tu, bu, vt, tt, bt, v7, t7, b7, wt, bT, tT, zz, zl, zx, zs⟩ := shNum hS96 ht hx s12 hu
  have loop : ∀ (m y : Nat) (τ1 : St), y - x = m → x ≤ y → y < sz t → τ1 0 50 = ((S + 1 : Nat) : Int) → (∀ o k, ¬ (o = 0 ∧ (k = 48 ∨ k = 50)) → ¬ (o = 29 ∧ 6 * S ≤ k) → o ≠ 27 → τ1 o k = τ o k) → ML τ1 (KL (pT c t) u x (S : Int) (y + 1) (sz t - (y + 1)) ++ W) → τ1 29 (6 * S) = (u : Int) → τ1 29 (6 * S + 1) = (x : Int) → τ1 29 (6 * S + 2) = par → τ1 29 (6 * S + 3) = τ 24 (12 * u + x) → τ1 29 (6 * S + 4) = τ 25 (12 * u + x) → τ1 29 (6 * S + 5) = τ 9 (12 * t + x) → wp_X9_show_L121 Q (m + 1) (u : Int) (x : Int) (y : Int) τ1 := by
    intro m
    induction m with
    | zero =>
      intro y τ1 g1 g2 g3 g4 g5 g67 k0 k1 k2 k3 k4 k5
      have e : y = x := Nat.le_antisymm (Nat.le_of_sub_eq_zero g1) g2
      subst e
      unfold wp_X9_show_L121
      exact ⟨fun _ => h τ1 g4 g67 k0 k1 k2 k3 k4 k5 g5, fun z => absurd (Int.le_refl _) z⟩
    | succ m ih =>
      intro y τ1 g1 g2 g3 g4 g5 g67 k0 k1 k2 k3 k4 k5
      obtain ⟨zy, z1, z2, z3, z4, z5, z6, y12, xy, wx, wy⟩ := addLp g1 g3 s12
      obtain ⟨q1, q2, q3⟩ := shLp ht y12
      have f23 : τ1 23 (7 * u) = (t : Int) := (g5 23 _ (fun z => absurd z.1 (by decide)) (fun z => absurd z.1 (by decide)) (by decide)).trans h23
      have f8 : τ1 8 (12 * t + y) = pT c t y := (g5 8 _ (fun z => absurd z.1 (by decide)) (fun z => absurd z.1 (by decide)) (by decide)).trans (h8 y g3).1
      have wv : w32 (pT c t y) = pT c t y := addWv rfl (h8 y g3).2 g3 s12
      have kl : KL (pT c t) u x (S : Int) y (sz t - y) = if pT c t y = (x : Int) then (u, y, (S : Int)) :: KL (pT c t) u x (S : Int) (y + 1) (sz t - (y + 1)) else KL (pT c t) u x (S : Int) (y + 1) (sz t - (y + 1)) := by
        rw [z6]; rfl
      have s50 : τ1 0 50 - 1 = (S : Int) := by rw [g4]; clear hl kl g67 hML; omega
      unfold wp_X9_show_L121
      rw [wx, wy, v7, t7, f23, q1, q2, f8, wv, s50]
      refine ⟨fun z => absurd z zy, fun _ => ⟨b7, q3, fun q => ?_, fun q => ?_⟩⟩
      · rw [if_neg q] at kl
        unfold wp_X9_show_B165
        intro x_1 ex
        rw [ex, z4]
        exact ih (y - 1) τ1 z1 z2 z3 g4 g5 (by rw [z5, kl]; exact g67) k0 k1 k2 k3 k4 k5
      · rw [if_pos q] at kl
        refine sp_later (W := KL (pT c t) u x (S : Int) (y + 1) (sz t - (y + 1)) ++ W) (u := u) (x := y) g67.1 (Nat.lt_trans (KL_room (u := u) (S := (S : Int)) (W := W) g2 g3 xy q hl) (by decide)) (Or.inl rfl) rfl rfl (fun τ2 y1 y2 y3 y4 y5 y6 => ?_)
        have yy : ML τ2 ((u, y, (S : Int)) :: (KL (pT c t) u x (S : Int) (y + 1) (sz t - (y + 1)) ++ W)) := ⟨y1, y2, y3, y4, y5, MStk_fr _ g67.2 (fun k hk => y6 27 k (fun z => absurd z.1 (by decide)) (fun z => absurd hk (Nat.not_lt.mpr z.2)))⟩
        have y7 : ∀ k, τ2 29 k = τ1 29 k := fun k => y6 29 k (fun z => absurd z.1 (by decide)) (fun z => absurd z.1 (by decide))
        unfold wp_X9_show_B165
        intro x_1 ex
        rw [ex, z4]
        exact ih (y - 1) τ2 z1 z2 z3 ((y6 0 50 (fun z => absurd z.2 (by decide)) (fun z => absurd z.1 (by decide))).trans g4) (fun o k q1 q2 q3 => (y6 o k (fun z => q1 ⟨z.1, Or.inl z.2⟩) (fun z => q3 z.1)).trans (g5 o k q1 q2 q3)) (by rw [z5, kl]; exact yy) ((y7 _).trans k0) ((y7 _).trans k1) ((y7 _).trans k2) ((y7 _).trans k3) ((y7 _).trans k4) ((y7 _).trans k5)
  unfold wp_X9_show
  rw [h1, h2, h3, hS]
  intro x_1 ex
  subst ex
  rw [v0, v1, v2, v3, v4, v5, t0, t1, t2, t3, t4, t5, vu, tu, vt, tt, v7, t7]
  refine ⟨b0, fun s2 e2 => ⟨b1, fun s3 e3 => ⟨b2, fun s4 e4 => ⟨bu, b3, fun s5 e5 => ⟨bu, b4, fun s6 e6 => ⟨bt, b5, fun s7 e7 s8 e8 => ⟨b7, ?_⟩⟩⟩⟩⟩⟩⟩
  clear v0 v1 v2 v3 v4 v5 t0 t1 t2 t3 t4 t5 b0 b1 b2 b3 b4 b5
  have f4 : ∀ o k, o ≠ 29 → s4 o k = τ o k := fun o k q => by rw [e4, su_ko _ _ (fun z => q z.1), e3, su_ko _ _ (fun z => q z.1), e2, su_ko _ _ (fun z => q z.1)]
  have f5 : ∀ o k, o ≠ 29 → s5 o k = τ o k := fun o k q => by rw [e5, su_ko _ _ (fun z => q z.1)]; exact f4 o k q
  have f6 : ∀ o k, o ≠ 29 → s6 o k = τ o k := fun o k q => by rw [e6, su_ko _ _ (fun z => q z.1)]; exact f5 o k q
  have f7 : ∀ o k, o ≠ 29 → s7 o k = τ o k := fun o k q => by rw [e7, su_ko _ _ (fun z => q z.1)]; exact f6 o k q
  have f8 : ∀ o k, ¬ (o = 0 ∧ k = 50) → o ≠ 29 → s8 o k = τ o k := fun o k q q' => by rw [e8, su_ko _ _ q]; exact f7 o k q'
  have e23 : s8 23 (7 * u) = (t : Int) := (f8 23 _ (fun z => absurd z.1 (by decide)) (by decide)).trans h23
  have e17 : s8 17 t = ((sz t : Nat) : Int) := (f8 17 _ (fun z => absurd z.1 (by decide)) (by decide)).trans h17
  rw [e23, wt, tT, e17, zz]
  refine ⟨bT, fun x_9 ex9 => ⟨sz t - 1 - x + 1, ?_⟩⟩
  subst ex9
  have kl0 : KL (pT c t) u x (S : Int) (sz t - 1 + 1) (sz t - (sz t - 1 + 1)) ++ W = W := by rw [zs, Nat.sub_self]; rfl
  have p50 : s8 0 50 = ((S + 1 : Nat) : Int) := by rw [e8, su_at, f7 0 50 (by decide), hS]; clear hl kl0 hML; omega
  have pML : ML s8 (KL (pT c t) u x (S : Int) (sz t - 1 + 1) (sz t - (sz t - 1 + 1)) ++ W) := by
    rw [kl0]
    exact ⟨(f8 0 48 (fun z => absurd z.2 (by decide)) (by decide)).trans hML.1, MStk_fr W hML.2 (fun k _ => f8 27 k (fun z => absurd z.1 (by decide)) (by decide))⟩
  clear hl kl0 hML
  have g29 : ∀ k, s8 29 k = s7 29 k := fun k => by rw [e8, su_ko _ _ (fun z => absurd z.1 (by decide))]
  refine loop (sz t - 1 - x) (sz t - 1) s8 rfl zx zl p50 (fun o k q1 q2 q3 => ?_) pML ?_ ?_ ?_ ?_ ?_ ?_
  all_goals clear loop h pML
  · rw [e8, su_ko _ _ (fun z => q1 ⟨z.1, Or.inr z.2⟩), e7, su_ko _ _ (by omega), e6, su_ko _ _ (by omega), e5, su_ko _ _ (by omega), e4, su_ko _ _ (by omega), e3, su_ko _ _ (by omega), e2, su_ko _ _ (by omega)]
  · rw [g29, e7, su_ko _ _ (by omega), e6, su_ko _ _ (by omega), e5, su_ko _ _ (by omega), e4, su_ko _ _ (by omega), e3, su_ko _ _ (by omega), e2, su_at]
  · rw [g29, e7, su_ko _ _ (by omega), e6, su_ko _ _ (by omega), e5, su_ko _ _ (by omega), e4, su_ko _ _ (by omega), e3, su_at]
  · rw [g29, e7, su_ko _ _ (by omega), e6, su_ko _ _ (by omega), e5, su_ko _ _ (by omega), e4, su_at]
  · rw [g29, e7, su_ko _ _ (by omega), e6, su_ko _ _ (by omega), e5, su_at]; exact f4 24 _ (by decide)
  · rw [g29, e7, su_ko _ _ (by omega), e6, su_at]; exact f5 25 _ (by decide)
  · rw [g29, e7, su_at]; exact f6 9 _ (by decide)
