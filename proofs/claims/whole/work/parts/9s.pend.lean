/-! pure: what is still to be laid, in both worlds -/
def pT (c : Nat → Nat → Int) (t : Nat) : Nat → Int := fun y => c (12 * t + y) 2
theorem TS {c : Nat → Nat → Int} {N : Nat} {sz : Nat → Nat} {sd : Nat → Int} {n : Nat} {hw wo : Nat → Prop} {σ : St} {t : Nat} (hC : CC c N sz sd n hw wo σ) (ht : t < N) : PJ (fun y => c (12 * t + y) 0) (pT c t) (sz t) (-1) 4 ∧ PO (pT c t) (sz t) ∧ ∀ x, 0 < x → x < sz t → 0 ≤ pT c t x ∧ ((c (12 * t + x) 5 = -1 ∧ eN (pT c t) (sz t) x = eN (pT c t) (sz t) (pT c t x).toNat) ∨ (c (12 * t + x) 5 = ((12 * t + eN (pT c t) (sz t) x : Nat) : Int) ∧ x < eN (pT c t) (sz t) x ∧ eN (pT c t) (sz t) x < sz t ∧ pT c t (eN (pT c t) (sz t) x) = pT c t x)) := by
  have hC0 := hC
  obtain ⟨c1, c2, c3, c4, c5, c6, c7, c8⟩ := hC
  obtain ⟨f1, f2, f3, f4, f5, f6, f7, f8⟩ := c4 t ht
  have e2 : ∀ y, y < sz t → pT c t y = nd σ t y 2 := fun y hy => (c5 t y 2 ht hy (by omega)).symm
  have pj : PJ (fun y => c (12 * t + y) 0) (pT c t) (sz t) (-1) 4 := PJ_c f4 (fun y hy => (c5 t y 0 ht hy (by omega)).symm) e2
  have po : PO (pT c t) (sz t) := pj.2.2.2.2.2.2.2.2.2.2.2.2
  refine ⟨pj, po, fun x h0 hx => ?_⟩
  have px := pj.1 x hx
  have pn := pj.2.2.2.2.2.2.1 x h0 hx
  have p0 : 0 ≤ pT c t x := by omega
  refine ⟨p0, ?_⟩
  have ne := nx_eN pj.1 po hx p0
  have enx : nx (pT c t) (sz t) x = nx (fun y => nd σ t y 2) (sz t) x := nx_c e2 hx
  rcases c_nx hC0 ht hx with ⟨z1, z2⟩ | ⟨xn, z1, z2, z3, z4, z5, z6⟩
  · exact Or.inl ⟨z2, ne.2 (by rw [enx]; exact z1)⟩
  · have := ne.1 (by rw [enx, z1]; omega)
    have exn : xn = eN (pT c t) (sz t) x := by rw [enx, z1] at this; omega
    right
    rw [← exn]
    refine ⟨z6, z2, z3, ?_⟩
    rw [exn]; exact this.2.2
abbrev En := Nat × Nat × Int × Int × Nat × Int
def yE (e : En) : Int := (e.2.2.2.2.1 : Int) - (e.2.1 : Int) - (e.2.2.2.1 - e.2.2.1)
def OL (c : Nat → Nat → Int) (V : Tb) (sz : Nat → Nat) (n : Nat) (σ : St) (u t : Nat) : Nat → List En → Prop
  | x, [] => sz t ≤ x
  | x, e :: L => e.1 = x ∧ x < sz t ∧ 0 < x ∧ RV c V n (12 * t + x) e.2.1 e.2.2.1 e.2.2.2.1 e.2.2.2.2.1 e.2.2.2.2.2 ∧ (∃ f, RO c V sz σ u t f x e.2.1 e.2.2.1 e.2.2.2.1 e.2.2.2.2.1 e.2.2.2.2.2) ∧ OL c V sz n σ u t (eN (pT c t) (sz t) (pT c t x).toNat) L
def sY : List En → Int
  | [] => 0
  | e :: L => yE e + sY L
def wL (wo : Nat → Prop) (t : Nat) : List En → Prop
  | [] => False
  | e :: L => wo (12 * t + e.1) ∨ wL wo t L
def JL (τ : St) (u t base : Nat) : List En → Prop
  | [] => True
  | e :: L => JobAt τ (base + L.length) u (12 * t + e.1) 1 e.2.1 e.2.2.1 e.2.2.2.1 e.2.2.2.2.1 e.2.2.2.2.2 ∧ JL τ u t base L
theorem JL_fr {τ τ' : St} {u t base : Nat} : ∀ L : List En, JL τ u t base L → (∀ k, 7 * base ≤ k → k < 7 * (base + L.length) → τ' 27 k = τ 27 k) → (∀ k, base ≤ k → k < base + L.length → τ' 28 k = τ 28 k) → JL τ' u t base L := by
  intro L
  induction L with
  | nil => intro _ _ _; exact trivial
  | cons e L ih =>
    intro h h7 h8
    have el : (e :: L).length = L.length + 1 := rfl
    refine ⟨JobAt_fr h.1 (fun d hd => h7 _ (by omega) (by omega)) (h8 _ (by omega) (by omega)), ih h.2 (fun k a b => h7 k a (by omega)) (fun k a b => h8 k a (by omega))⟩
/-- cells of later nodes alone count -/
theorem OL_fr {c : Nat → Nat → Int} {V : Tb} {sz : Nat → Nat} {n : Nat} {σ σ' : St} {u t : Nat} (hp : ∀ x xn, x < sz t → xn < sz t → c (12 * t + x) 5 = ((12 * t + xn : Nat) : Int) → pT c t xn = pT c t x) (he : ∀ x, 0 < x → x < sz t → x < eN (pT c t) (sz t) (pT c t x).toNat) : ∀ (L : List En) (x : Nat), (∀ z w, x ≤ z → z < sz t → w < 7 → σ' 25 (nJ u z w) = σ 25 (nJ u z w)) → OL c V sz n σ u t x L → OL c V sz n σ' u t x L := by
  intro L
  induction L with
  | nil => intro x _ h; exact h
  | cons e L ih =>
    intro x hz h
    obtain ⟨h1, h2, h3, h4, ⟨f, h5⟩, h6⟩ := h
    refine ⟨h1, h2, h3, h4, ⟨f, RO_fr hp f x _ _ _ _ _ h2 (fun z w a b _ d => hz z w a b d) h5⟩, ih _ (fun z w a b d => hz z w ?_ b d) h6⟩
    have := he x h3 h2
    omega
theorem OL_len {c : Nat → Nat → Int} {V : Tb} {sz : Nat → Nat} {n : Nat} {σ : St} {u t : Nat} (he : ∀ x, 0 < x → x < sz t → x < eN (pT c t) (sz t) (pT c t x).toNat) : ∀ (L : List En) (x : Nat), x ≤ sz t → OL c V sz n σ u t x L → L.length + x ≤ sz t := by
  intro L
  induction L with
  | nil => intro x hx h; show 0 + x ≤ _; omega
  | cons e L ih =>
    intro x hx h
    obtain ⟨h1, h2, h3, h4, h5, h6⟩ := h
    have el : (e :: L).length = L.length + 1 := rfl
    have h7 := he x h3 h2
    cases L with
    | nil => show 1 + x ≤ _; omega
    | cons e2 L2 =>
      have h6' := h6
      obtain ⟨g1, g2, _⟩ := h6'
      have := ih _ (by omega) h6
      omega
