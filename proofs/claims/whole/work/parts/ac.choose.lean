/-! pure: a way is chosen, in both worlds -/
theorem RR_0 {σ τ : St} {N : Nat} {sz : Nat → Nat} (h : RR σ τ N sz) (v : Int) : RR σ (su τ 0 0 v) N sz := RR_f h (fun _ _ _ => rfl) (fun o k q => su_ko _ _ (fun z => q (by unfold dcM; omega)))
def RX (cd : Nat → Int) (k : Nat) (r : Int) (σ' : St) (r' : Int) (τ' : St) : Prop := τ' 0 0 = cd k ∧ (k = 0 → r' = r) ∧ R σ' τ'
def cd1 : Nat → Int
  | 0 => 0
  | _ => 1
def cdC : Nat → Int
  | 0 => 0
  | 3 => 1
  | _ => 2
def cdU : Nat → Int
  | 0 => 0
  | 4 => 1
  | _ => 2
theorem TM_low {c : Nat → Nat → Int} {N : Nat} {sz : Nat → Nat} {τ τ' : St} (h : TM c N sz τ) (f : ∀ o k, o ≠ 0 → o < 23 → τ' o k = τ o k) : TM c N sz τ' := by
  refine ⟨h.1, fun t ht => ?_⟩
  obtain ⟨h1, h2, h3⟩ := h.2 t ht
  refine ⟨(f 17 t (by decide) (by decide)).trans h1, h2, fun y hy => ?_⟩
  obtain ⟨a1, a2, a3, a4, a5⟩ := h3 y hy
  exact ⟨(f 6 _ (by decide) (by decide)).trans a1, (f 8 _ (by decide) (by decide)).trans a2, (f 9 _ (by decide) (by decide)).trans a3, a4, a5⟩
theorem R_choose {σ τ : St} (h : R σ τ) {a : Int} (ha : w32 a = a) (h0 : 0 ≤ a) (h1 : a < σ 0 9) : wp_X6_unfold (σ 0 8) a (fun σ1 => wp_X7_grow (fun σ2 => wp_X9_choose a (fun r' τ' => RX cdC 0 (σ2 23 0) σ2 r' τ') τ) σ1) σ := by
  obtain ⟨N, sz, h⟩ := h
  have h9p : 0 < σ 0 9 := Int.lt_of_le_of_lt h0 h1
  have wyr := h.wyr
  have hwr : 0 ≤ a ∧ a < 1000000000 := ⟨h0, Int.lt_of_lt_of_le h1 wyr.2⟩
  have hwr1 : a < 1000000001 := by omega
  have m35 : τ 0 35 = 1 := by
    have e := h.wsr
    rw [if_neg (show ¬ σ 0 9 = -1 by omega)] at e
    exact e
  have m36 : τ 0 36 = σ 0 9 := h.wys.symm
  obtain ⟨c, sd, hw, wo, n, a1, a2, a3, a4, a5, a6, a7, a8, a9, a10, a11, a12⟩ := h.rdy h9p
  have hC := CC_of h a1 a2 a4 a5 a6 a12
  have hM := CM_of h a1 a3 a4 a5 a7 a8
  have hT := TM_of h a4 a5
  have hlt : a < ini c N (VV c N sd) (σ 0 8) 0 n := by
    have q := h1
    rw [a11] at q
    unfold cap at q
    split at q <;> omega
  have cmp : w32 (lCmp a (τ 0 36)) < 0 := by
    rw [m36]
    exact (lCmp_lt (by omega) (by omega)).mpr h1
  unfold wp_X6_unfold
  intro σ1 e1
  have f1 : ∀ o k, ¬ (o = 23 ∧ k = 0) → σ1 o k = σ o k := fun o k q => by rw [e1]; exact su_ko _ _ q
  have C1 : CC c N sz sd n hw wo σ1 := CC_fr hC (fun o k q => f1 o k (fun z => by omega))
  have p23 : σ1 23 0 = ((0 : Nat) : Int) := by rw [e1, su_at]; rfl
  have p17 : σ1 17 0 = (n : Int) := (f1 17 0 (fun z => absurd z.1 (by decide))).trans a2
  refine sp_startInitial (U := 0) (i := 0) (l := n) C1 p23 (by decide) a10 (Nat.zero_le _) (Nat.le_refl _) rfl p17 hwr hlt (fun t left σ2 si b1 b2 b3 b4 b5 b6 => ?_)
  refine ⟨fun z => absurd z (by decide), fun _ => ?_⟩
  have l2 : ∀ o k, o < 23 → σ2 o k = σ1 o k := fun o k q => b6 o k (fun z => by omega) (fun z => by omega) (fun z => by omega)
  have C2 : CC c N sz sd n hw wo σ2 := CC_fr C1 l2
  have lv : LV c (VV c N sd) n (12 * t) 0 (-1) (-1) n left := ⟨⟨Nat.zero_le _, Nat.le_refl _, Or.inl ⟨si.2.1.2, rfl, rfl⟩⟩, si.2.2.1, si.2.2.2.1⟩
  refine unf 10 0 t 0 n (-1) (-1) left σ2 _ (by decide) (by decide) C2 b1 b2 si.1 b5 lv (by omega) (fun σ3 U d1 d2 d3 d4 d5 d6 => ?_)
  have l3 : ∀ o k, o < 23 → σ3 o k = σ2 o k := fun o k q => d1 o k (fun z => by omega) (fun z => by omega) (fun z => by omega)
  have C3 : CC c N sz sd n hw wo σ3 := CC_fr C2 l3
  have U8 : U ≤ 8 := by omega
  have U0 : 0 < U := by omega
  have hUF : ∀ v, v < U → UF c N sz σ3 U v := fun v hv => d5 v (Nat.zero_le _) hv
  have t3 : σ3 24 0 = (t : Int) := (d1 24 0 (fun z => absurd z.1 (by decide)) (fun z => absurd z.2 (by decide)) (fun z => absurd z.1 (by decide))).trans b2
  have shp := Shp_of C3 U0 U8 hUF t3 si.1 si.2.1.2
  obtain ⟨us, tN⟩ := UsC_of hUF
  refine sp_grow C3 tN us shp (fun σ4 S g1 g2 g3 g4 => ?_)
  have l4 : ∀ o k, o < 26 → σ4 o k = σ3 o k := fun o k q => g3 o k (fun z => by omega) (by omega) (by omega)
  have fC : ∀ o k, o < 23 → σ4 o k = σ o k := fun o k q => (l4 o k (by omega)).trans ((l3 o k q).trans ((l2 o k q).trans (f1 o k (fun z => by omega))))
  have u4 : σ4 23 0 = (U : Int) := (l4 23 0 (by decide)).trans d2
  -- the reference
  have main : wp_X9_choose_B31 a 0 (fun r' τ' => RX cdC 0 (σ4 23 0) σ4 r' τ') τ := by
    unfold wp_X9_choose_B31
    intro τ1 e1'
    have q00 : τ1 0 0 = 0 := by rw [e1', su_at]
    have k1 : ∀ o k, ¬ (o = 0 ∧ k = 0) → τ1 o k = τ o k := fun o k q => by rw [e1']; exact su_ko _ _ q
    rw [q00]
    refine ⟨fun _ x_2 ex => ?_, fun z => absurd (by decide) z⟩
    rw [ex, ha]
    have M1 : CM c N sz sd n hw wo τ1 := CM_fr hM (fun o k q1 q2 => k1 o k (fun z => q2 ⟨z.1, Or.inr (Or.inr (Or.inr z.2))⟩))
    refine sp_mgoal (goal := σ 0 8) M1 ((k1 0 37 (fun z => absurd z.2 (by decide))).trans a9.symm) a10 hwr1 si (fun τ2 v1 v2 v3 v4 v5 v6 v7 v8 v9 v10 v11 v12 => ?_)
    have M2 : CM c N sz sd n hw wo τ2 := CM_fr M1 (fun o k q1 q2 => v12 o k (fun z => q2 ⟨z.1, z.2.elim Or.inl (fun y => Or.inr (Or.inl y))⟩) (fun z => by omega))
    obtain ⟨cost, hS⟩ := d6
    refine ⟨1 + cost, ?_⟩
    refine hS _ 1 τ2 0 ⟨M2, by omega, by rw [v1, b1], v2, v3, fun w hw' => ?_, v7, v8, v9, v10, v11⟩ (fun τ3 w1 w2 w3 w4 => ?_)
    · have e : w = 0 ∨ w = 1 ∨ w = 2 := by omega
      rcases e with e | e | e
      · subst e; exact v4.trans b2.symm
      · subst e; exact v5.trans b3.symm
      · subst e; exact v6.trans b4.symm
    · have k3 : ∀ o k, o < 23 → ¬ (o = 0 ∧ (k = 42 ∨ k = 48 ∨ k = 50 ∨ k = 0)) → τ3 o k = τ o k := fun o k q1 q2 => (w1 o k (fun z => q2 ⟨z.1, z.2.elim Or.inl (fun y => Or.inr (Or.inl y))⟩) (fun z => by omega) (fun z => by omega) (fun z => by omega) (fun z => by omega)).trans ((v12 o k (fun z => q2 ⟨z.1, z.2.elim Or.inl (fun y => Or.inr (Or.inl y))⟩) (fun z => by omega)).trans (k1 o k (fun z => q2 ⟨z.1, Or.inr (Or.inr (Or.inr z.2))⟩)))
      have z3 : τ3 0 0 = 0 := (w1 0 0 (fun z => absurd z.2 (by decide)) (fun z => absurd z.1 (by decide)) (fun z => absurd z.1 (by decide)) (fun z => absurd z.1 (by decide)) (fun z => absurd z.1 (by decide))).trans ((v12 0 0 (fun z => absurd z.2 (by decide)) (fun z => absurd z.1 (by decide))).trans q00)
      have hRU : ∀ v, v < U → RU N sz σ3 τ3 v := fun v hv => w4 v (Nat.zero_le _) (by rw [d2]; exact Int.ofNat_lt.mpr hv)
      have hT3 : TM c N sz τ3 := TM_low hT (fun o k q1 q2 => k3 o k q2 (fun z => q1 z.1))
      have hUM := UsM_of hUF hRU
      unfold Lp wp_X9_choose_L143
      rw [w3]
      refine ⟨fun _ => g4 _ τ3 hT3 hUM (fun τ4 y1 y2 y3 => ?_), fun z => absurd (by decide) z⟩
      have s4 : τ4 0 42 = (U : Int) := (y1 0 42 (fun z => absurd z.2 (by decide)) (by decide) (by decide)).trans (w2.trans d2)
      refine ⟨(y1 0 0 (fun z => absurd z.2 (by decide)) (by decide) (by decide)).trans z3, fun _ => s4.trans u4.symm, N, sz, ?_⟩
      refine RR_u h fC (fun o k q1 q2 => (y1 o k (fun z => q2 ⟨z.1, z.2.elim (fun y => Or.inr (Or.inl y)) (fun y => Or.inr (Or.inr (Or.inl y)))⟩) (by omega) (by omega)).trans (k3 o k q1 q2)) (u4.trans s4.symm) ?_ (fun k hk => ?_) (g2.trans y2.symm) ?_ (fun k hk => ?_)
      · rw [u4]; omega
      · rw [u4] at hk
        have hk' : k < 7 * U := by omega
        have e : σ4 24 k = σ3 24 k := l4 24 k (by decide)
        have e' : τ4 23 k = τ3 23 k := y1 23 k (fun z => absurd z.1 (by decide)) (by decide) (by decide)
        rw [e, e']
        have r := (hRU (k / 7) (by omega)).1 (k % 7) (by omega)
        rw [show 7 * (k / 7) + k % 7 = k by omega] at r
        exact r.symm
      · rw [g2]; omega
      · rw [g2] at hk
        exact (y3 k (by omega)).symm
  unfold wp_X9_choose
  rw [m35, ha]
  refine ⟨fun _ => ⟨fun z => absurd z (by omega), fun _ => ⟨fun _ => main, fun z => absurd cmp z⟩⟩, fun z => absurd z (by decide)⟩
