/-! pure: the class lays all parts -/
def RO (c : Nat → Nat → Int) (V : Tb) (sz : Nat → Nat) (σ : St) (u t : Nat) : Nat → Nat → Nat → Int → Int → Nat → Int → Prop
  | 0, _, _, _, _, _, _ => False
  | f + 1, x, i, j, k, l, way => (c (12 * t + x) 5 = -1 ∧ Cl σ u x i j k l way) ∨ ∃ (e xn : Nat) (left : Int), c (12 * t + x) 5 = ((12 * t + xn : Nat) : Int) ∧ x < xn ∧ xn < sz t ∧ SpO c V (12 * t + x) i j k l way e left ∧ Cl σ u x i (hJ c (12 * t + x) j) (hJ c (12 * t + x) k) e (left / tlV c V (12 * t + x) j k l e) ∧ RO c V sz σ u t f xn e (tJ c (12 * t + x) j) (tJ c (12 * t + x) k) l (left % tlV c V (12 * t + x) j k l e)
/-- a run is told by the cells of its own parts -/
theorem RO_fr {c : Nat → Nat → Int} {V : Tb} {sz : Nat → Nat} {σ σ' : St} {u t : Nat} {p : Nat → Int} (hp : ∀ x xn, x < sz t → xn < sz t → c (12 * t + x) 5 = ((12 * t + xn : Nat) : Int) → p xn = p x) : ∀ (f x i : Nat) (j k : Int) (l : Nat) (way : Int), x < sz t → (∀ z w, x ≤ z → z < sz t → p z = p x → w < 7 → σ' 25 (nJ u z w) = σ 25 (nJ u z w)) → RO c V sz σ u t f x i j k l way → RO c V sz σ' u t f x i j k l way := by
  intro f
  induction f with
  | zero => intro x i j k l way _ _ h; exact h
  | succ f ih =>
    intro x i j k l way hx hz h
    rcases h with ⟨h1, h2⟩ | ⟨e, xn, left, h1, h2, h3, h4, h5, h6⟩
    · exact Or.inl ⟨h1, Cl_of h2 (fun w hw => hz x w (Nat.le_refl x) hx rfl hw)⟩
    · have e1 := hp x xn hx h3 h1
      exact Or.inr ⟨e, xn, left, h1, h2, h3, h4, Cl_of h5 (fun w hw => hz x w (Nat.le_refl x) hx rfl hw), ih xn e _ _ l _ h3 (fun z w a b d => hz z w (by omega) b (by rw [d, e1])) h6⟩
theorem chc_s (p : Nat → Int) (x : Int) {a : Nat} : ∀ b, a ≤ b → (∀ z, a ≤ z → z < b → p z ≠ x) → chc p b x = chc p a x := by
  intro b
  induction b with
  | zero => intro h _; rw [show a = 0 by omega]
  | succ b ih =>
    intro h hz
    by_cases e : a = b + 1
    · rw [e]
    · have h1 := ih (by omega) (fun z q1 q2 => hz z q1 (by omega))
      have h2 := hz b (by omega) (by omega)
      show chc p b x + (if p b = x then 1 else 0) = _
      rw [h1, if_neg h2]
      omega
theorem chc_m (p : Nat → Int) (x : Int) {a : Nat} : ∀ b, a ≤ b → chc p a x ≤ chc p b x := by
  intro b
  induction b with
  | zero => intro h; rw [show a = 0 by omega]; exact Int.le_refl _
  | succ b ih =>
    intro h
    by_cases e : a = b + 1
    · rw [e]; exact Int.le_refl _
    · have h1 := ih (by omega)
      show chc p a x ≤ chc p b x + (if p b = x then 1 else 0)
      split <;> omega
theorem chc_1 (p : Nat → Int) (x : Int) {a : Nat} (h : p a = x) : chc p (a + 1) x = chc p a x + 1 := by
  conv => lhs; unfold chc
  rw [if_pos h]
theorem chc_b (p : Nat → Int) (x : Int) : ∀ b : Nat, 0 ≤ chc p b x ∧ chc p b x ≤ (b : Int) := by
  intro b
  induction b with
  | zero => unfold chc; omega
  | succ b ih =>
    unfold chc
    split <;> omega
theorem c_nx {c : Nat → Nat → Int} {N : Nat} {sz : Nat → Nat} {sd : Nat → Int} {n : Nat} {hw wo : Nat → Prop} {σ : St} {t x : Nat} (hC : CC c N sz sd n hw wo σ) (ht : t < N) (hx : x < sz t) : (nx (fun y => nd σ t y 2) (sz t) x = -1 ∧ c (12 * t + x) 5 = -1) ∨ ∃ xn : Nat, nx (fun y => nd σ t y 2) (sz t) x = (xn : Int) ∧ x < xn ∧ xn < sz t ∧ nd σ t xn 2 = nd σ t x 2 ∧ (∀ i, x < i → i < xn → nd σ t i 2 ≠ nd σ t x 2) ∧ c (12 * t + x) 5 = ((12 * t + xn : Nat) : Int) := by
  obtain ⟨c1, c2, c3, c4, c5, c6, c7, c8⟩ := hC
  have e5 : c (12 * t + x) 5 = nxr (fun y => nd σ t y 2) (sz t) t x := by rw [← c5 t x 5 ht hx (by omega)]; exact ((c4 t ht).2.2.2.2.2.1 x hx).2.2.2.2.2.1
  rw [e5]
  unfold nxr
  rcases nx_spec (fun y => nd σ t y 2) (sz t) x with z | ⟨j, z1, z2, z3, z4, z5⟩
  · left; rw [z.1, if_pos rfl]; exact ⟨rfl, rfl⟩
  · right
    exact ⟨j, z1, z2, z3, z4, z5, by rw [z1, if_neg (by omega), show ((j : Int)).toNat = j by omega]⟩
/-- cells of the parts of x in use u -/
def pF (σ σ' : St) (u t n x : Nat) : Prop := ∀ o k, ¬ (o = 25 ∧ ∃ z, x < z ∧ z < n ∧ nd σ t z 2 = (x : Int) ∧ (k = nJ u z 1 ∨ k = nJ u z 3 ∨ k = nJ u z 4 ∨ k = nJ u z 5 ∨ k = nJ u z 6)) → σ' o k = σ o k
theorem sp_layParts {c : Nat → Nat → Int} {N : Nat} {sz : Nat → Nat} {sd : Nat → Int} {n : Nat} {hw wo : Nat → Prop} {σ : St} {Q : St → Prop} {u t x i l : Nat} {j k way a1 a2 a3 : Int} (hC : CC c N sz sd n hw wo σ) (hu : u < 8) (ht : t < N) (hx : x < sz t) (hk : c (12 * t + x) 0 = 0) (h1 : a1 = (u : Int)) (h2 : a2 = (x : Int)) (h3 : a3 = ((12 * t + x : Nat) : Int)) (hc : Cl σ u x i j k l way) (hr : RV c (VV c N sd) n (12 * t + (x + 1)) i j k l way)
    (h : ∀ f σ', RO c (VV c N sd) sz σ' u t f (x + 1) i j k l way → pF σ σ' u t (sz t) x → Q σ') : wp_X6_layParts a1 a2 a3 Q σ := by
  have hC0 := hC
  obtain ⟨c1, c2, c3, c4, c5, c6, c7, c8⟩ := hC
  obtain ⟨f1, f2, f3, f4, f5, f6, f7, f8⟩ := c4 t ht
  have hpd := f4.1
  have kid := PJ_kid f4 hx (by rw [c5 t x 0 ht hx (by omega)]; exact hk)
  have parts : nd σ t x 3 = chc (fun y => nd σ t y 2) (sz t) (x : Int) := (f6 x hx).2.2.2.2.1
  have pb := chc_b (fun y => nd σ t y 2) (x : Int) (sz t)
  have z16 : t ≤ 16 := by omega
  have z12 : x < 12 := by omega
  obtain ⟨b3, b4, b5, b6, b1⟩ := hc
  have loop : ∀ (m y : Nat) (i' : Nat) (j' k' : Int) (l' : Nat) (way' laid : Int) (σ1 : St), sz t - y ≤ m → x < y → y < sz t → nd σ t y 2 = (x : Int) → laid = chc (fun y => nd σ t y 2) (y + 1) (x : Int) → pF σ σ1 u t (sz t) x → Cl σ1 u y i' j' k' l' way' → RV c (VV c N sd) n (12 * t + y) i' j' k' l' way' →
      (∀ f σ', RO c (VV c N sd) sz σ' u t f y i' j' k' l' way' → (∀ o k, ¬ (o = 25 ∧ ∃ z, y ≤ z ∧ z < sz t ∧ nd σ t z 2 = (x : Int) ∧ (k = nJ u z 1 ∨ k = nJ u z 3 ∨ k = nJ u z 4 ∨ k = nJ u z 5 ∨ k = nJ u z 6)) → σ' o k = σ1 o k) → Q σ') → wp_X6_layParts_L51 Q (m + 1) a1 a2 a3 (y : Int) laid σ1 := by
    intro m
    induction m with
    | zero => intro y i' j' k' l' way' laid σ1 e1 e2 e3; omega
    | succ m ih =>
      intro y i' j' k' l' way' laid σ1 e1 e2 e3 e4 e5 hpf hcl hrv hQ
      have low : ∀ o k, o < 23 → σ1 o k = σ o k := fun o k q => hpf o k (fun z => by omega)
      have hC1 : CC c N sz sd n hw wo σ1 := CC_fr hC0 low
      have lb := chc_b (fun y => nd σ t y 2) (x : Int) (y + 1)
      unfold wp_X6_layParts_L51
      refine sp_cell (t := t) (x := x) (w := 3) h3 rfl z16 z12 (by omega) ?_
      have e3' : nd σ1 t x 3 = chc (fun y => nd σ t y 2) (sz t) (x : Int) := by rw [← parts]; exact low 11 _ (by omega)
      rw [e3', e5, w32_id (show -2147483648 ≤ chc (fun y => nd σ t y 2) (sz t) (x : Int) by omega) (by omega), w32_id (show -2147483648 ≤ chc (fun y => nd σ t y 2) (y + 1) (x : Int) by omega) (by omega)]
      rcases c_nx hC0 ht e3 with ⟨z1, z2⟩ | ⟨xn, z1, z2, z3, z4, z5, z6⟩
      · -- the last one
        have last : chc (fun y => nd σ t y 2) (sz t) (x : Int) = chc (fun y => nd σ t y 2) (y + 1) (x : Int) := chc_s _ _ (sz t) (by omega) (fun z a b => by
          rcases nx_spec (fun y => nd σ t y 2) (sz t) y with w | ⟨s, w, _⟩
          · have := w.2 z (by omega) b
            rw [e4] at this
            exact this
          · rw [z1] at w; omega)
        refine ⟨fun _ => hQ 1 σ1 (Or.inl ⟨z2, hcl⟩) (fun _ _ _ => rfl), fun w => by omega⟩
      · have more : chc (fun y => nd σ t y 2) (xn + 1) (x : Int) = chc (fun y => nd σ t y 2) (y + 1) (x : Int) + 1 := by
          rw [chc_1 (fun y => nd σ t y 2) (x : Int) (a := xn) (by show nd σ t xn 2 = _; rw [z4]; exact e4), chc_s (fun y => nd σ t y 2) (x : Int) (a := y + 1) xn (by omega) (fun z a b => by have := z5 z (by omega) b; rw [e4] at this; exact this)]
        have up := chc_m (fun y => nd σ t y 2) (x : Int) (a := xn + 1) (sz t) (by omega)
        refine ⟨fun w => by omega, fun _ => ?_⟩
        refine sp_splitOff (t := t) (x := y) (xn := xn) hC1 hu ht e3 z2 z3 z6 h1 rfl (by omega) hcl hrv (fun e left σ2 so cl1 cl2 fr2 x_5 ex5 => ?_)
        obtain ⟨k1, k2, k3, k4, k5⟩ := SpO_k c6 ht e3 z3 z6 hrv.1 so
        rw [ex5, ← more]
        have fr2' : pF σ σ2 u t (sz t) x := fun o k q => by
          rw [fr2 o k (fun w => q ⟨w.1, y, e2, e3, e4, w.2⟩) (fun w => q ⟨w.1, xn, by omega, z3, by rw [z4]; exact e4, w.2⟩)]
          exact hpf o k q
        refine ih xn e _ _ l' _ _ σ2 (by omega) (by omega) z3 (by rw [z4]; exact e4) rfl fr2' cl2 k5 (fun f σ3 ro fr3 => ?_)
        refine hQ (f + 1) σ3 (Or.inr ⟨e, xn, left, z6, z2, z3, so, Cl_of cl1 (fun w hw' => fr3 25 _ (fun q => ?_)), ro⟩) (fun o k q => ?_)
        · obtain ⟨_, z, q1, q2, q3, q4⟩ := q
          rcases q4 with q4 | q4 | q4 | q4 | q4
          all_goals
            have := nJ_inj (by omega) hw' (by omega) (by omega) q4
            omega
        · rw [fr3 o k (fun w => by obtain ⟨w0, z, w1, w2, w3, w4⟩ := w; exact q ⟨w0, z, by omega, w2, w3, w4⟩)]
          exact fr2 o k (fun w => q ⟨w.1, y, Nat.le_refl y, e3, e4, w.2⟩) (fun w => q ⟨w.1, xn, by omega, z3, by rw [z4]; exact e4, w.2⟩)
  unfold wp_X6_layParts
  intro x_1 ex1
  refine sp_nodeCell (w := 3) hu z12 (by omega) h1 h2 rfl ?_
  refine sp_nodeCell (w := 4) hu z12 (by omega) h1 h2 rfl ?_
  refine sp_nodeCell (w := 5) hu z12 (by omega) h1 h2 rfl ?_
  refine sp_nodeCell (w := 6) hu z12 (by omega) h1 h2 rfl ?_
  refine sp_nodeCell (w := 1) hu z12 (by omega) h1 h2 rfl ?_
  rw [b3, b4, b5, b6, b1]
  have ex1' : x_1 = ((x + 1 : Nat) : Int) := by omega
  refine sp_lay6 (u := u) (x := x + 1) (i := i) (l := l) hu (by omega) h1 ex1' rfl rfl (fun σ1 y1 y2 => ?_)
  have c0 : chc (fun y => nd σ t y 2) (x + 1) (x : Int) = 0 := by
    rw [chc_s (fun y => nd σ t y 2) (x : Int) (a := 0) (x + 1) (by omega) (fun z _ b => by have := hpd z (by omega); have e : (fun y => nd σ t y 2) z = nd σ t z 2 := rfl; omega)]
    rfl
  refine ⟨12 + 1, ?_⟩
  rw [ex1']
  refine loop 12 (x + 1) i j k l way 1 σ1 (by omega) (by omega) kid.1 kid.2 ?_ (fun o k' q => y2 o k' (fun w => q ⟨w.1, x + 1, by omega, kid.1, kid.2, w.2⟩)) y1 hr (fun f σ' ro fr => h f σ' ro (fun o k' q => ?_))
  · rw [chc_1 (fun y => nd σ t y 2) (x : Int) kid.2, c0]; rfl
  · rw [fr o k' (fun w => by obtain ⟨w0, z, w1, w2, w3, w4⟩ := w; exact q ⟨w0, z, by omega, w2, w3, w4⟩)]
    exact y2 o k' (fun w => q ⟨w.1, x + 1, by omega, kid.1, kid.2, w.2⟩)
