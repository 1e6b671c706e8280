/-! pure: a node of the whole tree is added, in both worlds -/
def WL (σ : St) (L : List Wn) : Prop := σ 26 5 = ((L.length : Nat) : Int) ∧ WS σ L
def le96 (L : List Wn) : Prop := L.length ≤ 96
theorem KL_mono (p : Nat → Int) (u x : Nat) (S : Int) (n : Nat) : ∀ (a lo : Nat), (KL p u x S (lo + a) (n - (lo + a))).length ≤ (KL p u x S lo (n - lo)).length := by
  intro a
  induction a with
  | zero => intro lo; exact Nat.le_refl _
  | succ a iha =>
    intro lo
    have h1 := iha (lo + 1)
    have e0 : lo + (a + 1) = lo + 1 + a := by clear h1 iha; omega
    rw [e0]
    by_cases e : lo < n
    · have e6 : n - lo = (n - (lo + 1)) + 1 := by clear h1 iha; omega
      have kk : KL p u x S lo (n - lo) = if p lo = (x : Int) then (u, lo, S) :: KL p u x S (lo + 1) (n - (lo + 1)) else KL p u x S (lo + 1) (n - (lo + 1)) := by rw [e6]; rfl
      rw [kk]
      split
      · exact Nat.le_succ_of_le h1
      · exact h1
    · have e7 : n - (lo + 1 + a) = 0 := by clear h1 iha; omega
      rw [e7]; exact Nat.zero_le _
theorem KL_room {p : Nat → Int} {u x n y : Nat} {S : Int} {W : List Wn} (h1 : x ≤ y) (h2 : y < n) (h3 : x < y) (hq : p y = (x : Int)) (h : le96 (KL p u x S (x + 1) (n - (x + 1)) ++ W)) : (KL p u x S (y + 1) (n - (y + 1)) ++ W).length < 96 := by
  have e1 : x + 1 + (y - (x + 1)) = y := by clear h; omega
  have e6 : n - y = (n - (y + 1)) + 1 := by clear h; omega
  have m := KL_mono p u x S n (y - (x + 1)) (x + 1)
  rw [e1] at m
  have kk : KL p u x S y (n - y) = (u, y, S) :: KL p u x S (y + 1) (n - (y + 1)) := by
    rw [e6]
    show (if p y = (x : Int) then _ else _) = _
    rw [if_pos hq]
  rw [kk] at m
  have l1 : (KL p u x S (y + 1) (n - (y + 1)) ++ W).length = (KL p u x S (y + 1) (n - (y + 1))).length + W.length := List.length_append
  have l2 : (KL p u x S (x + 1) (n - (x + 1)) ++ W).length = (KL p u x S (x + 1) (n - (x + 1))).length + W.length := List.length_append
  have l3 : ((u, y, S) :: KL p u x S (y + 1) (n - (y + 1))).length = (KL p u x S (y + 1) (n - (y + 1))).length + 1 := rfl
  have hh : (KL p u x S (x + 1) (n - (x + 1)) ++ W).length ≤ 96 := h
  rw [l2] at hh
  rw [l3] at m
  rw [l1]
  generalize (KL p u x S (y + 1) (n - (y + 1))).length = A at *
  generalize (KL p u x S (x + 1) (n - (x + 1))).length = B at *
  generalize W.length = C at *
  clear h kk
  omega
