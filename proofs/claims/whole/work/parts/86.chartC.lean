/-! pure: the class's chart: where a cell lies -/
theorem w32_i32 (v : Int32) : w32 v.toInt = v.toInt := by rw [← w32_toInt, Int32.ofInt_toInt]
theorem lCmp_le {x y : Int} (hx : -9223372036854775808 ≤ x ∧ x < 9223372036854775808) (hy : -9223372036854775808 ≤ y ∧ y < 9223372036854775808) : w32 (lCmp x y) ≤ 0 ↔ x ≤ y := by
  unfold lCmp
  rw [w32_i32, show (0 : Int) = (0 : Int32).toInt from rfl, ← Int32.le_iff_toInt_le, lg_cmp_le, Int64.le_iff_toInt_le, w64_toInt, w64_toInt, w64_id hx.1 hx.2, w64_id hy.1 hy.2]
theorem lCmp_ge {x y : Int} (hx : -9223372036854775808 ≤ x ∧ x < 9223372036854775808) (hy : -9223372036854775808 ≤ y ∧ y < 9223372036854775808) : 0 ≤ w32 (lCmp x y) ↔ y ≤ x := by
  unfold lCmp
  rw [w32_i32, show (0 : Int) = (0 : Int32).toInt from rfl, ← Int32.le_iff_toInt_le, lg_cmp_ge, Int64.le_iff_toInt_le, w64_toInt, w64_toInt, w64_id hx.1 hx.2, w64_id hy.1 hy.2]
theorem lCmp_0 {x : Int} (hx : -9223372036854775808 ≤ x ∧ x < 9223372036854775808) : w32 (lCmp x 0) = 0 ↔ x = 0 := by
  have a := lCmp_le hx (show (-9223372036854775808 : Int) ≤ 0 ∧ (0 : Int) < 9223372036854775808 by omega)
  have b := lCmp_ge hx (show (-9223372036854775808 : Int) ≤ 0 ∧ (0 : Int) < 9223372036854775808 by omega)
  omega
theorem sp_cut {x : Int} {Q : Int → St → Prop} {σ : St} (hx : 0 ≤ x ∧ x < 9223372036854775808) (h : Q (cap x) σ) : wp_X0_cut x Q σ := by
  unfold wp_X0_cut
  have a := lCmp_le (x := x) (y := 1000000000) (by omega) (by omega)
  unfold cap at h
  refine ⟨fun q => ?_, fun q => ?_⟩
  · rw [if_neg (by have := a.mp q; omega)] at h; exact h
  · rw [if_pos (by have := fun z => q (a.mpr z); omega)] at h; exact h
def s2 (k : Nat) : Nat := ([0, 1, 3, 6, 10, 15, 21, 28, 36, 45] : List Nat).getD k 0
def s3 (k : Nat) : Nat := ([0, 1, 4, 10, 20, 35, 56, 84, 120, 165] : List Nat).getD k 0
def s4 (k : Nat) : Nat := ([0, 1, 5, 15, 35, 70, 126, 210, 330, 495] : List Nat).getD k 0
theorem s_z : ∀ k, k < 9 → zf0 k = (s2 k : Int) ∧ (0 < k → zf1 k = (s3 (k - 1) : Int) ∧ zf2 k = (s4 (k - 1) : Int)) := by decide
theorem s_1 : ∀ k, k < 9 → s2 (k + 1) = s2 k + k + 1 ∧ s3 (k + 1) = s3 k + s2 (k + 1) ∧ s4 (k + 1) = s4 k + s3 (k + 1) := by decide
theorem s_m : ∀ b, b < 10 → ∀ a, a < b + 1 → s2 a ≤ s2 b ∧ s3 a ≤ s3 b ∧ s4 a ≤ s4 b := by decide
/-- a span with a gap that is not empty, or without one -/
def Vt (g : Int) (i : Nat) (j k : Int) (l n : Nat) : Prop := i ≤ l ∧ l ≤ n ∧ ((g = 0 ∧ j = -1 ∧ k = -1) ∨ (g = 1 ∧ (i : Int) ≤ j ∧ j < k ∧ k ≤ (l : Int)))
theorem Vt.vs {g : Int} {i : Nat} {j k : Int} {l n : Nat} (h : Vt g i j k l n) : Vs g i j k l n := ⟨h.1, h.2.1, by rcases h.2.2 with z | z; exact Or.inl z; exact Or.inr ⟨z.1, z.2.1, by omega, z.2.2.2⟩⟩
def atF (i : Nat) (j k : Int) (l : Nat) : Nat := if j = -1 then i + s2 l else i + s2 j.toNat + s3 (k.toNat - 1) + s4 (l - 1)
theorem q_lt {i j k l : Nat} (h1 : i ≤ j) (h2 : j ≤ k) (h3 : k ≤ l) (h4 : l ≤ 8) : i + s2 j < s2 (j + 1) ∧ i + s2 j + s3 k < s3 (k + 1) ∧ i + s2 j + s3 k + s4 l < s4 (l + 1) := by
  have a := s_1 j (by omega)
  have b := s_1 k (by omega)
  have d := s_1 l (by omega)
  have e := s_m (k + 1) (by omega) (j + 1) (by omega)
  have f := s_m (l + 1) (by omega) (k + 1) (by omega)
  omega
theorem q_inj {i j k l i' j' k' l' : Nat} (h1 : i ≤ j) (h2 : j ≤ k) (h3 : k ≤ l) (h4 : l ≤ 8) (g1 : i' ≤ j') (g2 : j' ≤ k') (g3 : k' ≤ l') (g4 : l' ≤ 8) (h : i + s2 j + s3 k + s4 l = i' + s2 j' + s3 k' + s4 l') : i = i' ∧ j = j' ∧ k = k' ∧ l = l' := by
  have a := q_lt h1 h2 h3 h4
  have b := q_lt g1 g2 g3 g4
  have el : l = l' := by
    rcases Nat.lt_trichotomy l l' with q | q | q
    · have := s_m l' (by omega) (l + 1) (by omega); omega
    · exact q
    · have := s_m l (by omega) (l' + 1) (by omega); omega
  subst el
  have ek : k = k' := by
    rcases Nat.lt_trichotomy k k' with q | q | q
    · have := s_m k' (by omega) (k + 1) (by omega); omega
    · exact q
    · have := s_m k (by omega) (k' + 1) (by omega); omega
  subst ek
  have ej : j = j' := by
    rcases Nat.lt_trichotomy j j' with q | q | q
    · have := s_m j' (by omega) (j + 1) (by omega); omega
    · exact q
    · have := s_m j (by omega) (j' + 1) (by omega); omega
  subst ej
  omega
theorem p_inj {i l i' l' : Nat} (h1 : i ≤ l) (h4 : l ≤ 8) (g1 : i' ≤ l') (g4 : l' ≤ 8) (h : i + s2 l = i' + s2 l') : i = i' ∧ l = l' := by
  have a := s_1 l (by omega)
  have b := s_1 l' (by omega)
  have el : l = l' := by
    rcases Nat.lt_trichotomy l l' with q | q | q
    · have := s_m l' (by omega) (l + 1) (by omega); omega
    · exact q
    · have := s_m l (by omega) (l' + 1) (by omega); omega
  subst el
  omega
theorem at_lt {g : Int} {i l n : Nat} {j k : Int} (hv : Vt g i j k l n) (hn : n ≤ 8) : atF i j k l < 330 ∧ (j = -1 → atF i j k l < 45) := by
  obtain ⟨v1, v2, v3⟩ := hv
  have e : s4 8 = 330 ∧ s2 9 = 45 := by decide
  unfold atF
  rcases v3 with z | z
  · rw [if_pos z.2.1]
    have a := s_1 l (by omega)
    have b := s_m 9 (by omega) (l + 1) (by omega)
    omega
  · rw [if_neg (by omega)]
    have a := q_lt (i := i) (j := j.toNat) (k := k.toNat - 1) (l := l - 1) (by omega) (by omega) (by omega) (by omega)
    have b := s_m 8 (by omega) (l - 1 + 1) (by omega)
    omega
/-- cells of one row do not meet -/
theorem at_inj {g : Int} {i l n i' l' n' : Nat} {j k j' k' : Int} (hv : Vt g i j k l n) (hn : n ≤ 8) (hv' : Vt g i' j' k' l' n') (hn' : n' ≤ 8) (h : atF i j k l = atF i' j' k' l') : i = i' ∧ j = j' ∧ k = k' ∧ l = l' := by
  obtain ⟨v1, v2, v3⟩ := hv
  obtain ⟨w1, w2, w3⟩ := hv'
  unfold atF at h
  rcases v3 with z | z
  · rcases w3 with w | w
    · rw [if_pos z.2.1, if_pos w.2.1] at h
      have := p_inj v1 (by omega) w1 (by omega) h
      omega
    · omega
  · rcases w3 with w | w
    · omega
    · rw [if_neg (by omega), if_neg (by omega)] at h
      have := q_inj (by omega) (by omega) (by omega) (by omega) (by omega) (by omega) (by omega) (by omega) h
      omega
theorem sp_at {g : Int} {i l n : Nat} {j k a0 a1 : Int} {Q : Int → St → Prop} {σ : St} (hv : Vt g i j k l n) (hn : n ≤ 8) (h0 : a0 = (i : Int)) (h1 : a1 = (l : Int)) (h : Q ((atF i j k l : Nat) : Int) σ) : wp_X0_at a0 a1 j k Q σ := by
  obtain ⟨v1, v2, v3⟩ := hv
  unfold wp_X0_at
  unfold atF at h
  rw [h0, h1, w32_id (show -2147483648 ≤ (l : Int) by omega) (by omega)]
  have zl := s_z l (by omega)
  rcases v3 with z | z
  · rw [if_pos z.2.1] at h
    rw [z.2.1]
    refine ⟨fun q => absurd (by decide) q, fun _ => ⟨by omega, ?_⟩⟩
    rw [show ((l : Int)).toNat = l by omega, zl.1, show (i : Int) + (s2 l : Int) = ((i + s2 l : Nat) : Int) by omega]
    exact h
  · rw [if_neg (by omega)] at h
    rw [w32_id (show -2147483648 ≤ j by omega) (by omega), w32_id (show -2147483648 ≤ k by omega) (by omega)]
    refine ⟨fun q => ⟨by omega, by omega, by omega, ?_⟩, fun q => by omega⟩
    have zj := s_z j.toNat (by omega)
    have zk := s_z k.toNat (by omega)
    rw [show ((l : Int)).toNat = l by omega, (zl.2 (by omega)).2, zj.1, (zk.2 (by omega)).1, show (i : Int) + (s2 j.toNat : Int) + (s3 (k.toNat - 1) : Int) + (s4 (l - 1) : Int) = ((i + s2 j.toNat + s3 (k.toNat - 1) + s4 (l - 1) : Nat) : Int) by omega]
    exact h
/-- the class's tables -/
def cT (σ : St) : Tb := fun o r i j k l => if o then σ 20 (330 * r + atF i j k l) else σ 19 (330 * r + atF i j k l)
def cI (σ : St) (nm : Int) (i l : Nat) : Int := σ 21 (45 * nm.toNat + atF i (-1) (-1) l)
def cA (σ : St) (nm : Int) (i p q l : Nat) : Int := σ 22 (330 * nm.toNat + atF i (p : Int) (q : Int) l)
def cc (σ : St) : Nat → Nat → Int := fun r w => σ 11 (12 * r + pm w)
theorem row_ix {r a : Nat} (hr : r < 192) (ha : a < 330) : (0 ≤ w32 ((r : Int) * 330 + (a : Int)) ∧ w32 ((r : Int) * 330 + (a : Int)) < 63360) ∧ (w32 ((r : Int) * 330 + (a : Int))).toNat = 330 * r + a := by
  rw [w32_id (by omega) (by omega)]; omega
theorem sp_nodeWays {g : Int} {r i l n : Nat} {j k a1 a2 a3 : Int} {Q : Int → St → Prop} {σ : St} (hv : Vt g i j k l n) (hn : n ≤ 8) (hr : r < 192) (h1 : a1 = (r : Int)) (h2 : a2 = (i : Int)) (h3 : a3 = (l : Int)) (h : Q (cT σ false r i j k l) σ) : wp_X0_nodeWays a1 a2 a3 j k Q σ := by
  unfold wp_X0_nodeWays
  refine sp_at hv hn h2 h3 ?_
  have b := row_ix hr (at_lt hv hn).1
  rw [h1]
  refine ⟨b.1, ?_⟩
  rw [b.2]
  exact h
theorem sp_partsWays {g : Int} {r i l n : Nat} {j k a1 a2 a3 : Int} {Q : Int → St → Prop} {σ : St} (hv : Vt g i j k l n) (hn : n ≤ 8) (hr : r + 1 < 192) (h1 : a1 = (r : Int)) (h2 : a2 = (i : Int)) (h3 : a3 = (l : Int)) (h : Q (cT σ true (r + 1) i j k l) σ) : wp_X0_partsWays a1 a2 a3 j k Q σ := by
  unfold wp_X0_partsWays
  refine sp_at hv hn h2 h3 ?_
  have b := row_ix hr (at_lt hv hn).1
  rw [h1, show ((r : Int) + 1) = ((r + 1 : Nat) : Int) by omega]
  refine ⟨b.1, ?_⟩
  rw [b.2]
  exact h
theorem sp_initialWays {i l n : Nat} {nm a2 a3 : Int} {Q : Int → St → Prop} {σ : St} (hv : Vt 0 i (-1) (-1) l n) (hn : n ≤ 8) (hnm : 0 ≤ nm ∧ nm < 16) (h2 : a2 = (i : Int)) (h3 : a3 = (l : Int)) (h : Q (cI σ nm i l) σ) : wp_X0_initialWays nm a2 a3 Q σ := by
  unfold wp_X0_initialWays
  refine sp_at hv hn h2 h3 ?_
  have b := (at_lt hv hn).2 rfl
  have e : (w32 (nm * 45 + ((atF i (-1) (-1) l : Nat) : Int))).toNat = 45 * nm.toNat + atF i (-1) (-1) l := by rw [w32_id (by omega) (by omega)]; omega
  refine ⟨by rw [w32_id (by omega) (by omega)]; omega, ?_⟩
  rw [e]
  exact h
/-- head and tail of a run -/
theorem sp_headWays {t x i e n : Nat} {j k a1 a2 a3 : Int} {Q : Int → St → Prop} {σ : St} (ht : t < 16) (hx : x < 12) (h01 : cc σ (12 * t + x) 6 = 0 ∨ cc σ (12 * t + x) 6 = 1) (hv : Vt (cc σ (12 * t + x) 6) i (if cc σ (12 * t + x) 6 = 1 then j else -1) (if cc σ (12 * t + x) 6 = 1 then k else -1) e n) (hn : n ≤ 8) (h1 : a1 = ((12 * t + x : Nat) : Int)) (h2 : a2 = (i : Int)) (h3 : a3 = (e : Int)) (h : Q (cT σ false (12 * t + x) i (if cc σ (12 * t + x) 6 = 1 then j else -1) (if cc σ (12 * t + x) 6 = 1 then k else -1) e) σ) : wp_X0_headWays a1 a2 a3 j k Q σ := by
  unfold wp_X0_headWays
  refine sp_hasFoot (t := t) (x := x) h1 (by omega) hx h01 ?_
  have e6 : nd σ t x 6 = cc σ (12 * t + x) 6 := rfl
  rw [e6]
  unfold wp_X0_headWays_B32 wp_X0_headWays_B43
  rw [h1]
  have b := row_ix (show 12 * t + x < 192 by omega) (at_lt hv hn).1
  rcases h01 with q | q
  · rw [if_neg (by omega), if_neg (by omega)] at h hv b
    rw [q]
    refine ⟨fun _ => ⟨fun _ => sp_at hv hn h2 h3 ⟨b.1, by rw [b.2]; exact h⟩, fun z => absurd w32_0 z⟩, fun z => absurd w32_0 z⟩
  · rw [if_pos q, if_pos q] at h hv b
    rw [q]
    exact ⟨fun z => absurd z (by decide), fun _ => ⟨fun z => absurd z (by decide), fun _ => sp_at hv hn h2 h3 ⟨b.1, by rw [b.2]; exact h⟩⟩⟩
theorem sp_tailWays {t x e l n xr : Nat} {j k a1 a2 a3 : Int} {Q : Int → St → Prop} {σ : St} (ht : t < 16) (hx : x < 12) (h01 : cc σ (12 * t + x) 6 = 0 ∨ cc σ (12 * t + x) 6 = 1) (h5 : cc σ (12 * t + x) 5 = (xr : Int)) (hxr : xr < 192) {g : Int} (hv : Vt g e (if cc σ (12 * t + x) 6 = 1 then -1 else j) (if cc σ (12 * t + x) 6 = 1 then -1 else k) l n) (hn : n ≤ 8) (h1 : a1 = ((12 * t + x : Nat) : Int)) (h2 : a2 = (e : Int)) (h3 : a3 = (l : Int)) (h : Q (cT σ true xr e (if cc σ (12 * t + x) 6 = 1 then -1 else j) (if cc σ (12 * t + x) 6 = 1 then -1 else k) l) σ) : wp_X0_tailWays a1 a2 a3 j k Q σ := by
  unfold wp_X0_tailWays
  refine sp_hasFoot (t := t) (x := x) h1 (by omega) hx h01 ?_
  have e6 : nd σ t x 6 = cc σ (12 * t + x) 6 := rfl
  rw [e6]
  have b := row_ix hxr (at_lt hv hn).1
  unfold wp_X0_tailWays_B16
  rcases h01 with q | q
  · rw [if_neg (by omega), if_neg (by omega)] at h hv b
    rw [q]
    refine ⟨fun z => absurd w32_0 z, fun _ => sp_cell (t := t) (x := x) (w := 5) h1 rfl (by omega) hx (by omega) ?_⟩
    have e5 : nd σ t x 5 = (xr : Int) := h5
    rw [e5]
    unfold wp_X0_tailWays_B52 wp_X0_tailWays_B63
    exact ⟨fun z => absurd z (by decide), fun _ => ⟨fun z => absurd z (by decide), fun _ => sp_at hv hn h2 h3 ⟨b.1, by rw [b.2]; exact h⟩⟩⟩
  · rw [if_pos q, if_pos q] at h hv b
    rw [q]
    refine ⟨fun _ => sp_cell (t := t) (x := x) (w := 5) h1 rfl (by omega) hx (by omega) ?_, fun z => absurd z (by decide)⟩
    have e5 : nd σ t x 5 = (xr : Int) := h5
    rw [e5]
    unfold wp_X0_tailWays_B52 wp_X0_tailWays_B63
    exact ⟨fun _ => ⟨fun _ => sp_at hv hn h2 h3 ⟨b.1, by rw [b.2]; exact h⟩, fun z => absurd w32_0 z⟩, fun z => absurd w32_0 z⟩
