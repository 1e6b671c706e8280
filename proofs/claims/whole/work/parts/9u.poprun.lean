/-! pure: a run comes up -/
/-- a run comes up: its first part by itself, the others behind -/
theorem popRun {c : Nat → Nat → Int} {N : Nat} {sz : Nat → Nat} {sd : Nat → Int} {n : Nat} {hw wo : Nat → Prop} {σ : St} {u t x : Nat} {e : En} {L : List En} (hC : CC c N sz sd n hw wo σ) (ht : t < N) (hu : u < 8) (h : OL c (VV c N sd) sz n σ u t x (e :: L)) :
    ∃ (i' : Nat) (j' k' : Int) (l' : Nat) (way' : Int) (L1 : List En), Cl σ u x i' j' k' l' way' ∧ LV c (VV c N sd) n (12 * t + x) i' j' k' l' way' ∧ OL c (VV c N sd) sz n σ u t (eN (pT c t) (sz t) x) L1 ∧ sY (e :: L) = ((l' : Int) - i' - (k' - j')) + sY L1 ∧ (wL wo t (e :: L) → hw (12 * t + x) ∨ wL wo t L1) ∧
      ∀ (QM : Int → St → Prop) (F : Nat) (τ : St) (base : Nat), CM c N sz sd n hw wo τ → base + 16 < 200 → JL τ u t base (e :: L) → τ 0 48 = ((base + (L.length + 1) : Nat) : Int) →
        (∀ τ', τ' 0 48 = ((base + (L1.length + 1) : Nat) : Int) → JobAt τ' (base + L1.length) u (12 * t + x) 0 i' j' k' l' way' → JL τ' u t base L1 → (∀ o k, ¬ (o = 0 ∧ k = 48) → ¬ (o = 27 ∧ 7 * base ≤ k) → ¬ (o = 28 ∧ base ≤ k) → τ' o k = τ o k) → Lp QM F τ') → Lp QM (F + 1) τ := by
  have hC0 := hC
  obtain ⟨tj, tpo, tsx⟩ := TS hC ht
  obtain ⟨c1, c2, c3, c4, c5, c6, c7, c8⟩ := hC
  have hlen := OL_len (fun x h0 hx => by
    obtain ⟨q0, q⟩ := tsx x h0 hx
    have px := tj.1 x hx
    have := eN_spec (pT c t) (show (pT c t x).toNat < sz t by omega)
    by_cases w : eN (pT c t) (sz t) (pT c t x).toNat ≤ x
    · exact absurd (An_up q0 ⟨0, rfl⟩) (An_out tj.1 tpo (show (pT c t x).toNat < sz t by omega) x x (Nat.le_refl x) w hx)
    · omega) (e :: L) x (by obtain ⟨_, h2, _⟩ := h; omega) h
  have s12 := (c6.2 t ht).2.1
  have el : (e :: L).length = L.length + 1 := rfl
  obtain ⟨ex, i, j, k, l, way⟩ := e
  obtain ⟨h1, h2, h3, h4, ⟨f, h5⟩, h6⟩ := h
  have h1' : ex = x := h1
  subst h1'
  obtain ⟨px, tx⟩ := tsx ex h3 h2
  have zr : 12 * t + ex < 192 := by omega
  cases f with
  | zero => exact absurd h5 (by intro z; exact z)
  | succ f =>
    rcases h5 with ⟨g1, g2⟩ | ⟨e', xn, left, g1, g2, g3, g4, g5, g6⟩
    · -- the last part
      have ee : eN (pT c t) (sz t) ex = eN (pT c t) (sz t) (pT c t ex).toNat := by
        rcases tx with z | z
        · exact z.2
        · have := z.1; omega
      obtain ⟨q1, q2, q3⟩ := h4
      have cf := c6.1 t ex ht h2
      have eqv := VV_eq (n := n) sd c6 c1 (o := true) ht h2 q1.vs
      have eqr : VV c N sd true (12 * t + ex) i j k l = VV c N sd false (12 * t + ex) i j k l := by
        rw [eqv]; unfold rhs rOn; rw [if_pos rfl, if_pos g1]
      have h67 : c (12 * t + ex) 7 = 1 ↔ c (12 * t + ex) 6 = 1 := by
        rw [cf.2.2.2.2.2.2.1]; exact ⟨fun z => z.elim id (fun w => absurd g1 w.1), Or.inl⟩
      have h6' := cf.2.1
      have h7' := cf.2.2.1
      have hwo := cf.2.2.2.2.2.2.2.2.2.1
      clear cf
      refine ⟨i, j, k, l, way, L, g2, ⟨⟨q1.1, q1.2.1, ?_⟩, q2, by rw [← eqr]; exact q3⟩, by rw [ee]; exact h6, rfl, ?_, ?_⟩
      · rcases q1.2.2 with z | z
        · left; refine ⟨?_, z.2⟩
          rcases h6' with w | w
          · exact w
          · have := h67.mpr w
            have z1 : c (12 * t + ex) 7 = 0 := z.1
            omega
        · right; exact ⟨h67.mp z.1, z.2⟩
      · rintro (z | z)
        · left
          rcases hwo.mp z with w | w
          · exact w
          · exact absurd g1 w.1
        · exact Or.inr z
      · intro QM F τ base hM hb hJL hcnt hF
        refine sp_pop (P := base + L.length) (on := 1) (by rw [hcnt]; omega) (by omega) (Or.inr rfl) hJL.1 (fun z => absurd z (by decide)) (fun _ => ?_)
        have m11 := (hM.2.2.2.2.1 t ex ht h2).2.2.2.1
        unfold wp_X9_layOn
        rw [w32_id (show -2147483648 ≤ ((12 * t + ex : Nat) : Int) by omega) (by omega), show (((12 * t + ex : Nat) : Int)).toNat = 12 * t + ex by omega, su_ko _ _ (show ¬ (11 = 0 ∧ 12 * t + ex = 48) by omega), m11, g1]
        refine ⟨by omega, fun z => absurd (by decide) z, fun _ => ?_⟩
        refine sp_job (P := base + L.length) (u := u) (r := 12 * t + ex) (i := i) (l := l) (k := k) (su_at _ _ _ _) (by omega) (Or.inl rfl) rfl rfl rfl rfl (fun z => hJL.1.2.2.2.2.2.1 z) (fun τ' y1 y2 y3 => ?_)
        refine hF τ' (by rw [y1]; omega) y2 (JL_fr L hJL.2 (fun k a b => ?_) (fun k a b => ?_)) (fun o k q1 q2 q3 => ?_)
        · rw [y3 27 k (by omega) (by omega) (by omega), su_ko _ _ (by omega)]
        · rw [y3 28 k (by omega) (by omega) (by omega), su_ko _ _ (by omega)]
        · rw [y3 o k q1 (by omega) (by omega), su_ko _ _ q1]
    · have exn : xn = eN (pT c t) (sz t) ex ∧ pT c t xn = pT c t ex := by
        rcases tx with z | ⟨z1, z2, z3, z4⟩
        · have := z.1; omega
        · have e1 : xn = eN (pT c t) (sz t) ex := by omega
          exact ⟨e1, by rw [e1]; exact z4⟩
      obtain ⟨k1, k2, k3, k4, k5⟩ := SpO_k c6 ht h2 g3 g1 h4.1 g4
      have hwo := (c6.1 t ex ht h2).2.2.2.2.2.2.2.2.2.1
      refine ⟨i, hJ c (12 * t + ex) j, hJ c (12 * t + ex) k, e', _, (xn, e', tJ c (12 * t + ex) j, tJ c (12 * t + ex) k, l, left % tlV c (VV c N sd) (12 * t + ex) j k l e') :: L, g5, k4, ?_, ?_, ?_, ?_⟩
      · refine ⟨exn.1, by rw [← exn.1]; exact g3, by rw [← exn.1]; omega, by rw [← exn.1]; exact k5, ⟨f, by rw [← exn.1]; exact g6⟩, ?_⟩
        rw [← exn.1, exn.2]
        exact h6
      · show yE (ex, i, j, k, l, way) + sY L = _ + (yE (xn, e', tJ c (12 * t + ex) j, tJ c (12 * t + ex) k, l, left % tlV c (VV c N sd) (12 * t + ex) j k l e') + sY L)
        unfold yE
        show ((l : Int) - (i : Int) - (k - j)) + sY L = ((e' : Int) - (i : Int) - (hJ c (12 * t + ex) k - hJ c (12 * t + ex) j)) + (((l : Int) - (e' : Int) - (tJ c (12 * t + ex) k - tJ c (12 * t + ex) j)) + sY L)
        unfold hJ tJ
        by_cases q : c (12 * t + ex) 6 = 1
        · rw [if_pos q, if_pos q, if_pos q, if_pos q]; omega
        · rw [if_neg q, if_neg q, if_neg q, if_neg q]; omega
      · rintro (z | z)
        · rcases hwo.mp z with w | w
          · exact Or.inl w
          · right; left
            have := w.2
            rw [g1, show (((12 * t + xn : Nat) : Int)).toNat = 12 * t + xn by omega] at this
            exact this
        · exact Or.inr (Or.inr z)
      · intro QM F τ base hM hb hJL hcnt hF
        refine sp_pop (P := base + L.length) (on := 1) (by rw [hcnt]; omega) (by omega) (Or.inr rfl) hJL.1 (fun z => absurd z (by decide)) (fun _ => ?_)
        have hM1 : CM c N sz sd n hw wo (su τ 0 48 ((base + L.length : Nat) : Int)) := CM_fr hM (fun o k a b => su_ko _ _ (by omega))
        refine sp_mlayOn (u := u) (t := t) (x := ex) (xn := xn) (P := base + L.length) (i := i) (l := l) (e := e') (k := k) hM1 ht h2 g3 g1 (su_at _ _ _ _) (by omega) h4 g4 rfl rfl rfl rfl (fun z => hJL.1.2.2.2.2.2.1 z) (fun τ' y1 y2 y3 y4 => ?_)
        refine hF τ' (by rw [y1]; show ((base + L.length + 2 : Nat) : Int) = ((base + (L.length + 1 + 1) : Nat) : Int); omega) (by show JobAt τ' (base + (L.length + 1)) _ _ _ _ _ _ _ _; exact y3) ⟨y2, JL_fr L hJL.2 (fun k a b => ?_) (fun k a b => ?_)⟩ (fun o k q1 q2 q3 => ?_)
        · rw [y4 27 k (by omega) (by omega) (by omega), su_ko _ _ (by omega)]
        · rw [y4 28 k (by omega) (by omega) (by omega), su_ko _ _ (by omega)]
        · rw [y4 o k q1 (by omega) (by omega), su_ko _ _ q1]
