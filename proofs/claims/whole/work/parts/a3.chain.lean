/-! pure: which node stands in the whole tree for a node of a use -/
/-- the shape of a way: kinds, parents, trees put or set in, sizes, and where a use stands -/
def Shp (U : Nat) (kd pp chd : Nat → Nat → Int) (szu : Nat → Nat) (ofU atU : Nat → Int) : Prop :=
  0 < U ∧ U ≤ 8 ∧ (∀ v, v < U → 0 < szu v ∧ szu v ≤ 12 ∧ kd v 0 ≠ 2) ∧
  (∀ v y, v < U → y < szu v → chd v y = -1 ∨ ∃ w : Nat, v < w ∧ w < U ∧ chd v y = (w : Int) ∧ ofU w = (v : Int) ∧ atU w = (y : Int) ∧ kd v y ≠ 2) ∧
  (∀ v y z, v < U → y < szu v → z < szu v → kd v y = 2 → kd v z = 2 → y = z) ∧ (∀ y, y < szu 0 → kd 0 y ≠ 2) ∧
  (∀ v y, v < U → 0 < y → y < szu v → 0 ≤ pp v y ∧ pp v y < (y : Int))
def Chn (U : Nat) (chd : Nat → Nat → Int) (szu : Nat → Nat) : Nat → Nat → Nat → Nat → Nat → Prop
  | 0, v, y, w, x => v = w ∧ y = x
  | k + 1, v, y, w, x => ∃ a : Nat, v < U ∧ y < szu v ∧ chd v y = (a : Int) ∧ Chn U chd szu k a 0 w x
/-- (w, x) stands in the whole tree for (v, y) -/
def Gv (U : Nat) (kd chd : Nat → Nat → Int) (szu : Nat → Nat) (v y w x : Nat) : Prop :=
  w < U ∧ x < szu w ∧ ((kd v y = 2 ∧ chd w x = (v : Int)) ∨ (kd v y ≠ 2 ∧ chd w x = -1 ∧ ∃ k, k + v < U ∧ Chn U chd szu k v y w x))
/-- a use that is the first, or stands at a node of another -/
def Lkn (U : Nat) (chd : Nat → Nat → Int) (szu : Nat → Nat) : Nat → Nat → Prop
  | 0, v => v = 0
  | k + 1, v => ∃ a b : Nat, a < U ∧ b < szu a ∧ chd a b = (v : Int) ∧ Lkn U chd szu k a
def Lk (U : Nat) (chd : Nat → Nat → Int) (szu : Nat → Nat) (v : Nat) : Prop := ∃ k, Lkn U chd szu k v
theorem Lk_0 {U : Nat} {chd : Nat → Nat → Int} {szu : Nat → Nat} : Lk U chd szu 0 := ⟨0, rfl⟩
theorem Lk_s {U : Nat} {chd : Nat → Nat → Int} {szu : Nat → Nat} {a b v : Nat} (h1 : a < U) (h2 : b < szu a) (h3 : chd a b = (v : Int)) (h : Lk U chd szu a) : Lk U chd szu v := by
  obtain ⟨k, h⟩ := h
  exact ⟨k + 1, a, b, h1, h2, h3, h⟩
theorem Lk_c {U : Nat} {chd : Nat → Nat → Int} {szu : Nat → Nat} {v : Nat} (h : Lk U chd szu v) : v = 0 ∨ ∃ a b : Nat, a < U ∧ b < szu a ∧ chd a b = (v : Int) ∧ Lk U chd szu a := by
  obtain ⟨k, h⟩ := h
  cases k with
  | zero => exact Or.inl h
  | succ k => obtain ⟨a, b, h1, h2, h3, h4⟩ := h; exact Or.inr ⟨a, b, h1, h2, h3, k, h4⟩
theorem Chn_back {U : Nat} {chd : Nat → Nat → Int} {szu : Nat → Nat} : ∀ (k v y w x : Nat), Chn U chd szu (k + 1) v y w x → ∃ a b : Nat, a < U ∧ b < szu a ∧ chd a b = (w : Int) ∧ x = 0 ∧ Chn U chd szu k v y a b := by
  intro k
  induction k with
  | zero =>
    intro v y w x h
    obtain ⟨a, h1, h2, h3, h4, h5⟩ := h
    subst h4
    exact ⟨v, y, h1, h2, h3, h5.symm, rfl, rfl⟩
  | succ k ih =>
    intro v y w x h
    obtain ⟨a, h1, h2, h3, h4⟩ := h
    obtain ⟨b, d, g1, g2, g3, g4, g5⟩ := ih a 0 w x h4
    exact ⟨b, d, g1, g2, g3, g4, ⟨a, h1, h2, h3, g5⟩⟩
theorem Shp_up {U : Nat} {kd pp chd : Nat → Nat → Int} {szu : Nat → Nat} {ofU atU : Nat → Int} (hS : Shp U kd pp chd szu ofU atU) {v y w : Nat} (hv : v < U) (hy : y < szu v) (h : chd v y = (w : Int)) : v < w ∧ w < U ∧ ofU w = (v : Int) ∧ atU w = (y : Int) ∧ kd v y ≠ 2 := by
  rcases hS.2.2.2.1 v y hv hy with z | ⟨w', z1, z2, z3, z4, z5, z6⟩
  · rw [h] at z; omega
  · have e : w' = w := by rw [h] at z3; omega
    subst e
    exact ⟨z1, z2, z4, z5, z6⟩
theorem Shp_one {U : Nat} {kd pp chd : Nat → Nat → Int} {szu : Nat → Nat} {ofU atU : Nat → Int} (hS : Shp U kd pp chd szu ofU atU) {v y v' y' w : Nat} (hv : v < U) (hy : y < szu v) (h : chd v y = (w : Int)) (hv' : v' < U) (hy' : y' < szu v') (h' : chd v' y' = (w : Int)) : v = v' ∧ y = y' := by
  obtain ⟨_, _, a3, a4, _⟩ := Shp_up hS hv hy h
  obtain ⟨_, _, b3, b4, _⟩ := Shp_up hS hv' hy' h'
  rw [a3] at b3
  rw [a4] at b4
  omega
theorem Chn_one {U : Nat} {kd pp chd : Nat → Nat → Int} {szu : Nat → Nat} {ofU atU : Nat → Int} (hS : Shp U kd pp chd szu ofU atU) : ∀ (k k' v y v' y' w x : Nat), (y = 0 → v = 0) → (y' = 0 → v' = 0) → Chn U chd szu k v y w x → Chn U chd szu k' v' y' w x → v = v' ∧ y = y' := by
  intro k
  induction k with
  | zero =>
    intro k' v y v' y' w x h0 h0' h h'
    obtain ⟨e1, e2⟩ := h
    cases k' with
    | zero => obtain ⟨f1, f2⟩ := h'; exact ⟨e1.trans f1.symm, e2.trans f2.symm⟩
    | succ k' =>
      obtain ⟨a, b, g1, g2, g3, g4, g5⟩ := Chn_back k' v' y' w x h'
      have := (Shp_up hS g1 g2 g3).1
      have := h0 (e2.trans g4)
      omega
  | succ k ih =>
    intro k' v y v' y' w x h0 h0' h h'
    obtain ⟨a, b, g1, g2, g3, g4, g5⟩ := Chn_back k v y w x h
    cases k' with
    | zero =>
      obtain ⟨f1, f2⟩ := h'
      have := (Shp_up hS g1 g2 g3).1
      have := h0' (f2.trans g4)
      omega
    | succ k' =>
      obtain ⟨a', b', q1, q2, q3, q4, q5⟩ := Chn_back k' v' y' w x h'
      obtain ⟨e1, e2⟩ := Shp_one hS g1 g2 g3 q1 q2 q3
      subst e1; subst e2
      exact ih k' v y v' y' a b h0 h0' g5 q5
/-- a node stands for one node alone -/
theorem Gv_one {U : Nat} {kd pp chd : Nat → Nat → Int} {szu : Nat → Nat} {ofU atU : Nat → Int} (hS : Shp U kd pp chd szu ofU atU) {v y v' y' w x : Nat} (hv : v < U) (hy : y < szu v) (hy' : y' < szu v') (h0 : y = 0 → v = 0) (h0' : y' = 0 → v' = 0) (h : Gv U kd chd szu v y w x) (h' : Gv U kd chd szu v' y' w x) : v = v' ∧ y = y' := by
  obtain ⟨h1, h2, h3⟩ := h
  obtain ⟨_, _, h3'⟩ := h'
  rcases h3 with ⟨a1, a2⟩ | ⟨a1, a2, k, a3, a4⟩
  · rcases h3' with ⟨b1, b2⟩ | ⟨b1, b2, k', b3, b4⟩
    · rw [a2] at b2
      have e : v = v' := by omega
      subst e
      exact ⟨rfl, hS.2.2.2.2.1 v y y' hv hy hy' a1 b1⟩
    · rw [a2] at b2; omega
  · rcases h3' with ⟨b1, b2⟩ | ⟨b1, b2, k', b3, b4⟩
    · rw [a2] at b2; omega
    · exact Chn_one hS k k' v y v' y' w x h0 h0' a4 b4
theorem Chn_ex {U : Nat} {kd pp chd : Nat → Nat → Int} {szu : Nat → Nat} {ofU atU : Nat → Int} (hS : Shp U kd pp chd szu ofU atU) : ∀ (m v y : Nat), U - v ≤ m → v < U → y < szu v → Lk U chd szu v → ∃ k w x : Nat, k + v < U ∧ w < U ∧ x < szu w ∧ chd w x = -1 ∧ Chn U chd szu k v y w x ∧ Lk U chd szu w := by
  intro m
  induction m with
  | zero => intro v y h1 h2 _ _; omega
  | succ m ih =>
    intro v y h1 h2 h3 h4
    rcases hS.2.2.2.1 v y h2 h3 with z | ⟨a, z1, z2, z3, _⟩
    · exact ⟨0, v, y, by omega, h2, h3, z, ⟨rfl, rfl⟩, h4⟩
    · obtain ⟨k, w, x, g1, g2, g3, g4, g5, g6⟩ := ih a 0 (by omega) z2 (hS.2.2.1 a z2).1 (Lk_s h2 h3 z3 h4)
      exact ⟨k + 1, w, x, by omega, g2, g3, g4, ⟨a, h2, h3, z3, g5⟩, g6⟩
theorem Gv_ex {U : Nat} {kd pp chd : Nat → Nat → Int} {szu : Nat → Nat} {ofU atU : Nat → Int} (hS : Shp U kd pp chd szu ofU atU) {v y : Nat} (hv : v < U) (hy : y < szu v) (hl : Lk U chd szu v) : ∃ w x : Nat, Gv U kd chd szu v y w x ∧ Lk U chd szu w := by
  by_cases e : kd v y = 2
  · rcases Lk_c hl with z | ⟨a, b, z1, z2, z3, z4⟩
    · subst z
      exact absurd e (hS.2.2.2.2.2.1 y hy)
    · exact ⟨a, b, ⟨z1, z2, Or.inl ⟨e, z3⟩⟩, z4⟩
  · obtain ⟨k, w, x, g1, g2, g3, g4, g5, g6⟩ := Chn_ex hS (U - v) v y (Nat.le_refl _) hv hy hl
    exact ⟨w, x, ⟨g2, g3, Or.inr ⟨e, g4, k, g1, g5⟩⟩, g6⟩
