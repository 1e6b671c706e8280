/-! pure: a use is unfolded, in both worlds: what is said of it -/
def cF (σ σ' : St) (u : Nat) : Prop := ∀ o k, ¬ (o = 23 ∧ k = 0) → ¬ (o = 24 ∧ 7 * u + 3 ≤ k) → ¬ (o = 25 ∧ 84 * u ≤ k) → σ' o k = σ o k
def mF (τ τ' : St) (u base : Nat) : Prop := ∀ o k, ¬ (o = 0 ∧ (k = 42 ∨ k = 48)) → ¬ (o = 23 ∧ 7 * u ≤ k) → ¬ ((o = 24 ∨ o = 25 ∨ o = 26) ∧ 12 * u ≤ k) → ¬ (o = 27 ∧ 7 * base ≤ k) → ¬ (o = 28 ∧ base ≤ k) → τ' o k = τ o k
def RN1 (σ τ : St) (v y : Nat) : Prop := τ 24 (12 * v + y) = σ 25 (nJ v y 3) ∧ τ 25 (12 * v + y) = σ 25 (nJ v y 4) ∧ τ 26 (12 * v + y) = σ 25 (nJ v y 2)
def RU (N : Nat) (sz : Nat → Nat) (σ τ : St) (v : Nat) : Prop := (∀ w, w < 7 → τ 23 (7 * v + w) = σ 24 (7 * v + w)) ∧ ∃ t : Nat, σ 24 (7 * v) = (t : Int) ∧ t < N ∧ ∀ y, y < sz t → RN1 σ τ v y
/-- the tree that was set in or put at a node of a use -/
def Ch (c : Nat → Nat → Int) (N : Nat) (σ : St) (U v t y : Nat) : Prop := σ 25 (nJ v y 2) = -1 ∨ ∃ w t' : Nat, v < w ∧ w < U ∧ σ 25 (nJ v y 2) = (w : Int) ∧ σ 24 (7 * w) = (t' : Int) ∧ t' < N ∧ σ 24 (7 * w + 1) = (v : Int) ∧ σ 24 (7 * w + 2) = (y : Int) ∧ ((c (12 * t + y) 0 = 0 ∧ c (12 * t') 6 = 1) ∨ (c (12 * t + y) 0 = 1 ∧ c (12 * t') 6 = 0))
def UF (c : Nat → Nat → Int) (N : Nat) (sz : Nat → Nat) (σ : St) (U v : Nat) : Prop := ∃ t : Nat, σ 24 (7 * v) = (t : Int) ∧ t < N ∧ ∀ y, y < sz t → Ch c N σ U v t y
def PreM (c : Nat → Nat → Int) (N : Nat) (sz : Nat → Nat) (sd : Nat → Int) (n : Nat) (hw wo : Nat → Prop) (σ τ : St) (u t base i : Nat) (j k : Int) (l : Nat) (way : Int) : Prop := CM c N sz sd n hw wo τ ∧ base ≤ 12 * u ∧ τ 0 42 = σ 23 0 ∧ τ 0 48 = ((base + 1 : Nat) : Int) ∧ JobAt τ base u (12 * t) 0 i j k l way ∧ (∀ w, w < 3 → τ 23 (7 * u + w) = σ 24 (7 * u + w)) ∧ τ 23 (7 * u + 3) = (i : Int) ∧ τ 23 (7 * u + 4) = (l : Int) ∧ τ 23 (7 * u + 5) = j ∧ τ 23 (7 * u + 6) = k ∧ (∀ d, d < 12 → τ 26 (12 * u + d) = -1)
def MidM (N : Nat) (sz : Nat → Nat) (σx τ τ' : St) (u t base x : Nat) (L : List En) : Prop := mF τ τ' u base ∧ τ' 0 42 = σx 23 0 ∧ JL τ' u t base L ∧ (∀ w, w < 7 → τ' 23 (7 * u + w) = σx 24 (7 * u + w)) ∧ (∀ y, y < x → RN1 σx τ' u y) ∧ (∀ y, x ≤ y → y < 12 → τ' 26 (12 * u + y) = -1) ∧ (∀ v : Nat, u < v → (v : Int) < σx 23 0 → RU N sz σx τ' v)
def SimX (c : Nat → Nat → Int) (N : Nat) (sz : Nat → Nat) (sd : Nat → Int) (n : Nat) (hw wo : Nat → Prop) (σ σx : St) (u t i : Nat) (j k : Int) (l : Nat) (way : Int) (x : Nat) (L : List En) : Prop := ∃ cost : Nat, ∀ (QM : Int → St → Prop) (F : Nat) (τ : St) (base : Nat), PreM c N sz sd n hw wo σ τ u t base i j k l way → (∀ τ', MidM N sz σx τ τ' u t base x L → τ' 0 48 = ((base + L.length : Nat) : Int) → Lp QM F τ') → Lp QM (F + cost) τ
def SimV (c : Nat → Nat → Int) (N : Nat) (sz : Nat → Nat) (sd : Nat → Int) (n : Nat) (hw wo : Nat → Prop) (σ σx : St) (u t i : Nat) (j k : Int) (l : Nat) (way : Int) (x : Nat) (L : List En) (i' : Nat) (j' k' : Int) (l' : Nat) (way' : Int) : Prop := ∃ cost : Nat, ∀ (QM : Int → St → Prop) (F : Nat) (τ : St) (base : Nat), PreM c N sz sd n hw wo σ τ u t base i j k l way → (∀ τ', MidM N sz σx τ τ' u t base x L → τ' 0 48 = ((base + (L.length + 1) : Nat) : Int) → JobAt τ' (base + L.length) u (12 * t + x) 0 i' j' k' l' way' → Lp QM F τ') → Lp QM (F + cost) τ
def Sim (c : Nat → Nat → Int) (N : Nat) (sz : Nat → Nat) (sd : Nat → Int) (n : Nat) (hw wo : Nat → Prop) (σ σ' : St) (u t i : Nat) (j k : Int) (l : Nat) (way : Int) : Prop := ∃ cost : Nat, ∀ (QM : Int → St → Prop) (F : Nat) (τ : St) (base : Nat), PreM c N sz sd n hw wo σ τ u t base i j k l way → (∀ τ', mF τ τ' u base → τ' 0 42 = σ' 23 0 → τ' 0 48 = (base : Int) → (∀ v : Nat, u ≤ v → (v : Int) < σ' 23 0 → RU N sz σ' τ' v) → Lp QM F τ') → Lp QM (F + cost) τ
theorem mF_CM {c : Nat → Nat → Int} {N : Nat} {sz : Nat → Nat} {sd : Nat → Int} {n : Nat} {hw wo : Nat → Prop} {τ τ' : St} {u base : Nat} (h : CM c N sz sd n hw wo τ) (f : mF τ τ' u base) : CM c N sz sd n hw wo τ' := CM_fr h (fun o k a b => f o k (by omega) (by omega) (by omega) (by omega) (by omega))
theorem nJ_84 {u x w : Nat} : 84 * u ≤ nJ u x w := by unfold nJ; omega
theorem nJ_lt {u v x w : Nat} (h : u < v) (hx : x < 12) (hw : w < 7) : nJ u x w < 84 * v := by unfold nJ; omega
theorem LV_y {c : Nat → Nat → Int} {N : Nat} {sz : Nat → Nat} {sd : Nat → Int} {n : Nat} {hw wo : Nat → Prop} {t x i l : Nat} {j k way : Int} (hF : CF c N sz hw wo) (ht : t < N) (hx : x < sz t) (h : LV c (VV c N sd) n (12 * t + x) i j k l way) : 0 ≤ (l : Int) - i - (k - j) ∧ (hw (12 * t + x) → 1 ≤ (l : Int) - i - (k - j)) := by
  have y := Vs_y h.1.vs
  refine ⟨y.1, fun hh => ?_⟩
  by_cases q : (l : Int) - i - (k - j) = 0
  · have := VV_z (n := n) sd hF (o := false) ht hx h.1.vs (by unfold wd; exact Or.inr ⟨rfl, hh⟩) q
    have h2 := h.2
    omega
  · omega
theorem OL_y {c : Nat → Nat → Int} {N : Nat} {sz : Nat → Nat} {sd : Nat → Int} {n : Nat} {hw wo : Nat → Prop} {σ : St} {u t : Nat} (hF : CF c N sz hw wo) (ht : t < N) : ∀ (L : List En) (x : Nat), OL c (VV c N sd) sz n σ u t x L → 0 ≤ sY L ∧ (wL wo t L → 1 ≤ sY L) := by
  intro L
  induction L with
  | nil => intro x _; exact ⟨Int.le_refl 0, fun z => absurd z id⟩
  | cons e L ih =>
    intro x h
    obtain ⟨h1, h2, h3, h4, h5, h6⟩ := h
    obtain ⟨g1, g2⟩ := ih _ h6
    have y := Vs_y h4.1.vs
    have ye : yE e = (e.2.2.2.2.1 : Int) - (e.2.1 : Int) - (e.2.2.2.1 - e.2.2.1) := rfl
    have se : sY (e :: L) = yE e + sY L := rfl
    refine ⟨by omega, fun z => ?_⟩
    rcases z with z | z
    · rw [h1] at z
      by_cases q : (e.2.2.2.2.1 : Int) - (e.2.1 : Int) - (e.2.2.2.1 - e.2.2.1) = 0
      · have := VV_z (n := n) sd hF (o := true) ht h2 h4.1.vs (by unfold wd; exact Or.inl ⟨rfl, z⟩) q
        have h42 := h4.2
        omega
      · omega
    · have := g2 z
      omega
/-- the kind of a node tells its span -/
theorem LV_kind {c : Nat → Nat → Int} {N : Nat} {sz : Nat → Nat} {sd : Nat → Int} {n : Nat} {hw wo : Nat → Prop} {t x i l : Nat} {j k way : Int} (hF : CF c N sz hw wo) (hn : n ≤ 8) (ht : t < N) (hx : x < sz t) (h : LV c (VV c N sd) n (12 * t + x) i j k l way) : (c (12 * t + x) 0 = 3 → (l : Int) - i - (k - j) = 1) ∧ (c (12 * t + x) 0 = 2 → (l : Int) - i - (k - j) = 0) ∧ (c (12 * t + x) 0 = 1 → j = -1 ∧ k = -1 ∧ way < ini c N (VV c N sd) (c (12 * t + x) 1) i l) := by
  have e := VV_eq (n := n) sd hF hn (o := false) ht hx h.1.vs
  have e2 : VV c N sd false (12 * t + x) i j k l = rLie c N sd (VV c N sd) (12 * t + x) i j k l := by rw [e]; unfold rhs; simp only [Bool.false_eq_true, if_false]
  obtain ⟨v, h0, hl⟩ := h
  obtain ⟨g1, g2, g3, g4, g5, g6, g7, g8, g9, g10, g11⟩ := hF.1 t x ht hx
  have n6 : c (12 * t + x) 0 = 3 ∨ c (12 * t + x) 0 = 1 → c (12 * t + x) 6 = 0 := fun q => by
    rcases g2 with w | w
    · exact w
    · rcases g6.mp w with z | z
      · rcases q with q | q <;> (rw [q] at z; exact absurd z (by decide))
      · rcases q with q | q <;> (rw [q] at z; exact absurd z.1 (by decide))
  clear g1 g3 g4 g5 g6 g7 g8 g9 g10 g11
  rw [e2] at hl
  unfold rLie at hl
  have v3 := v.2.2
  refine ⟨fun q => ?_, fun q => ?_, fun q => ?_⟩
  · rw [if_pos q] at hl
    have := n6 (Or.inl q)
    by_cases w : l = i + 1 ∧ sd i = c (12 * t + x) 1
    · rcases v3 with z | z <;> omega
    · rw [if_neg w] at hl; omega
  · rw [if_neg (by omega), if_pos q] at hl
    by_cases w : j = (i : Int) ∧ k = (l : Int)
    · omega
    · rw [if_neg w] at hl; omega
  · rw [if_neg (by omega), if_neg (by omega), if_pos q] at hl
    have := n6 (Or.inr q)
    have cl := cap_le (ini c N (VV c N sd) (c (12 * t + x) 1) i l)
    rcases v3 with z | z
    · exact ⟨z.2.1, z.2.2, by omega⟩
    · omega
