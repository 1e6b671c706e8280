/-! pure: where the parts of a node end -/
noncomputable def eN (p : Nat → Int) (n x : Nat) : Nat := if fndF (fun y => p y < (x : Int)) (n - (x + 1)) (x + 1) = -1 then n else (fndF (fun y => p y < (x : Int)) (n - (x + 1)) (x + 1)).toNat
theorem eN_spec (p : Nat → Int) {n x : Nat} (hx : x < n) : x < eN p n x ∧ eN p n x ≤ n ∧ (∀ y, x < y → y < eN p n x → (x : Int) ≤ p y) ∧ (eN p n x < n → p (eN p n x) < (x : Int)) := by
  unfold eN
  rcases fndF_spec (fun y => p y < (x : Int)) (n - (x + 1)) (x + 1) with z | ⟨j, z1, z2, z3, z4, z5⟩
  · rw [z.1, if_pos rfl]
    exact ⟨hx, Nat.le_refl n, fun y a b => by have := z.2 y (by omega) (by omega); omega, fun q => by omega⟩
  · rw [z1, if_neg (by omega), show ((j : Int)).toNat = j by omega]
    exact ⟨by omega, by omega, fun y a b => by have := z5 y (by omega) b; omega, fun _ => z4⟩
def An (p : Nat → Int) (b y : Nat) : Prop := ∃ k, itp p k (y : Int) = (b : Int)
theorem itp_1 {p : Nat → Int} (k : Nat) {y : Nat} (hy : 0 ≤ p y) : itp p (k + 1) (y : Int) = itp p k ((p y).toNat : Int) := by
  have e1 : itp p 1 (y : Int) = p y := by unfold itp itp; rw [if_neg (by omega), show ((y : Int)).toNat = y by omega]
  rcases itp_add p (y : Int) (by omega) k 1 with z | z
  · rw [z, e1, show (((p y).toNat : Nat) : Int) = p y by omega]
  · rw [e1] at z; omega
theorem An_up {p : Nat → Int} {b y : Nat} (hy : 0 ≤ p y) (h : An p b (p y).toNat) : An p b y := by
  obtain ⟨k, hk⟩ := h
  exact ⟨k + 1, by rw [itp_1 k hy]; exact hk⟩
theorem An_in {p : Nat → Int} {n x : Nat} (hp : Pd p n) (hx : x < n) : ∀ (m y : Nat), y ≤ m → x < y → y < eN p n x → An p x y := by
  intro m
  have sp := eN_spec p hx
  induction m with
  | zero => intro y a b; omega
  | succ m ih =>
    intro y a b c
    have h1 := sp.2.2.1 y b c
    have h2 := hp y (by omega)
    refine An_up (by omega) ?_
    by_cases e : p y = (x : Int)
    · exact ⟨0, by show (((p y).toNat : Nat) : Int) = _; omega⟩
    · exact ih (p y).toNat (by omega) (by omega) (by omega)
/-- the order of the nodes -/
def PO (p : Nat → Int) (n : Nat) : Prop := ∀ y, 0 < y → y < n → ∃ k, itp p k ((y - 1 : Nat) : Int) = p y
theorem An_out {p : Nat → Int} {n x : Nat} (hp : Pd p n) (ho : PO p n) (hx : x < n) : ∀ (m y : Nat), y ≤ m → eN p n x ≤ y → y < n → ¬ An p x y := by
  intro m
  have sp := eN_spec p hx
  induction m with
  | zero => intro y a b; omega
  | succ m ih =>
    intro y a b c h
    obtain ⟨k, hk⟩ := h
    have hy := hp y c
    cases k with
    | zero => have : (y : Int) = (x : Int) := hk; omega
    | succ k =>
      have hpy : 0 ≤ p y := by
        by_cases q : 0 ≤ p y
        · exact q
        · have := itp_dec hp c k; omega
      rw [itp_1 k hpy] at hk
      by_cases e : y = eN p n x
      · have := sp.2.2.2 (by omega)
        rw [← e] at this
        have r := itp_r hp (x := (((p y).toNat : Nat) : Int)) (by omega) k
        omega
      · obtain ⟨k', hk'⟩ := ho y (by omega) c
        refine ih (y - 1) (by omega) (by omega) (by omega) ?_
        rcases itp_add p ((y - 1 : Nat) : Int) (by omega) k k' with z | z
        · exact ⟨k + k', by rw [z, hk', show (p y) = (((p y).toNat : Nat) : Int) by omega]; exact hk⟩
        · omega
theorem An_le {p : Nat → Int} {n b y : Nat} (hp : Pd p n) (hy : y < n) (h : An p b y) : b ≤ y := by
  obtain ⟨k, hk⟩ := h
  have := (itp_r hp (x := (y : Int)) (by omega) k).2
  omega
/-- of two above the same node the smaller is above the greater -/
theorem An_two {p : Nat → Int} {n y : Nat} {a : Int} {x : Nat} (hp : Pd p n) (hy : y < n) (h1 : ∃ k, itp p k (y : Int) = a) (h2 : An p x y) (hax : a < (x : Int)) (ha : -1 ≤ a) (hx : x < n) : a ≤ p x := by
  obtain ⟨k, hk⟩ := h1
  obtain ⟨m, hm⟩ := h2
  by_cases e : k ≤ m
  · rcases itp_add p (y : Int) (by omega) (m - k) k with z | z
    · rw [show m - k + k = m by omega, hm, hk] at z
      have := (itp_r hp (x := a) (by omega) (m - k)).2
      omega
    · have px := hp x hx
      omega
  · rcases itp_add p (y : Int) (by omega) (k - m) m with z | z
    · rw [show k - m + m = k by omega, hk, hm, show k - m = (k - m - 1) + 1 by omega] at z
      have := itp_dec hp hx (k - m - 1)
      omega
    · omega
theorem eN_par {p : Nat → Int} {n x : Nat} (hp : Pd p n) (ho : PO p n) (hx : x < n) (he : eN p n x < n) : p (eN p n x) ≤ p x := by
  have sp := eN_spec p hx
  have h0 := ho (eN p n x) (by omega) he
  have hpe := hp (eN p n x) he
  refine An_two hp (y := eN p n x - 1) (by omega) h0 ?_ (sp.2.2.2 he) hpe.1 hx
  by_cases e : eN p n x - 1 = x
  · rw [e]; exact ⟨0, rfl⟩
  · exact An_in hp hx (eN p n x) (eN p n x - 1) (by omega) (by omega) (by omega)
theorem nx_eN {p : Nat → Int} {n x : Nat} (hp : Pd p n) (ho : PO p n) (hx : x < n) (hpx : 0 ≤ p x) : (nx p n x ≠ -1 → nx p n x = ((eN p n x : Nat) : Int) ∧ eN p n x < n ∧ p (eN p n x) = p x) ∧ (nx p n x = -1 → eN p n x = eN p n (p x).toNat) := by
  have sp := eN_spec p hx
  have px := hp x hx
  have hb : (p x).toNat < n := by omega
  have sb := eN_spec p hb
  have inb : x < eN p n (p x).toNat := by
    by_cases q : eN p n (p x).toNat ≤ x
    · exact absurd (An_up hpx ⟨0, rfl⟩) (An_out hp ho hb x x (Nat.le_refl x) q hx)
    · omega
  refine ⟨fun q => ?_, fun q => ?_⟩
  · rcases nx_spec p n x with z | ⟨s, z1, z2, z3, z4, z5⟩
    · exact absurd z.1 q
    · have h1 : eN p n x ≤ s := by
        by_cases w : s < eN p n x
        · have := sp.2.2.1 s z2 w; omega
        · omega
      by_cases e : s = eN p n x
      · rw [z1, e]; exact ⟨rfl, by omega, by rw [← e]; exact z4⟩
      · exfalso
        have he : eN p n x < n := by omega
        have hle := eN_par hp ho hx he
        have hne := z5 (eN p n x) (by omega) (by omega)
        have : eN p n (p x).toNat ≤ eN p n x := by
          by_cases w : eN p n x < eN p n (p x).toNat
          · have := sb.2.2.1 (eN p n x) (by omega) w; omega
          · omega
        refine An_out hp ho hb s s (Nat.le_refl s) (by omega) z3 (An_up (by omega) ?_)
        rw [z4]
        exact ⟨0, rfl⟩
  · rcases nx_spec p n x with z | ⟨s, z1, z2, z3, z4, z5⟩
    · have h1 : eN p n x ≤ eN p n (p x).toNat := by
        by_cases w : eN p n (p x).toNat < eN p n x
        · have h3 := sp.2.2.1 (eN p n (p x).toNat) (by omega) w
          have h4 := sb.2.2.2 (by omega)
          omega
        · omega
      have h2 : eN p n (p x).toNat ≤ eN p n x := by
        by_cases w : eN p n x < eN p n (p x).toNat
        · have he : eN p n x < n := by omega
          have hle := eN_par hp ho hx he
          have hne := z.2 (eN p n x) (by omega) he
          have := sb.2.2.1 (eN p n x) (by omega) w
          omega
        · omega
      omega
    · rw [z1] at q; omega
theorem eN_kid {p : Nat → Int} {n x y : Nat} (hp : Pd p n) (ho : PO p n) (hx : x < n) (hy : y < n) (h : p y = (x : Int)) : x < y ∧ y < eN p n x := by
  have := hp y hy
  refine ⟨by omega, ?_⟩
  by_cases q : eN p n x ≤ y
  · refine absurd (An_up (by omega) ?_) (An_out hp ho hx y y (Nat.le_refl y) q hy)
    rw [h]
    exact ⟨0, rfl⟩
  · omega
theorem eN_leaf {p : Nat → Int} {n x : Nat} (hp : Pd p n) (hx : x < n) (h : ∀ y, y < n → p y ≠ (x : Int)) : eN p n x = x + 1 := by
  have sp := eN_spec p hx
  by_cases q : x + 1 < eN p n x
  · have h1 := sp.2.2.1 (x + 1) (by omega) q
    have h2 := hp (x + 1) (by omega)
    have h3 := h (x + 1) (by omega)
    omega
  · omega
theorem eN_root {p : Nat → Int} {n : Nat} (hn : 0 < n) (hp : Pd p n) (h0 : ∀ x, 0 < x → x < n → p x ≠ -1) : eN p n 0 = n := by
  have sp := eN_spec p hn
  by_cases q : eN p n 0 < n
  · have h1 := sp.2.2.2 q
    have h2 := hp _ q
    have h3 := h0 (eN p n 0) (by omega) q
    omega
  · omega
