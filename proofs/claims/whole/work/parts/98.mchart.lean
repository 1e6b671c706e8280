/-! pure: the reference's chart is right -/
def RM (c : Nat → Nat → Int) (N : Nat) (sz : Nat → Nat) (n : Nat) (V : Tb) (τ : St) (y : Nat) (S : Bool → Nat → Nat → Prop) : Prop := ∀ (o : Bool) (t x i l : Nat) (j k : Int), t < N → x < sz t → Vs (flg c o (12 * t + x)) i j k l n → ((l : Int) - i - (k - j) < (y : Int) ∨ ((l : Int) - i - (k - j) = (y : Int) ∧ S o t x)) → mT τ o (12 * t + x) i j k l = V o (12 * t + x) i j k l
theorem RM_mono {c : Nat → Nat → Int} {N n y : Nat} {sz : Nat → Nat} {V : Tb} {τ : St} {S S' : Bool → Nat → Nat → Prop} (h : ∀ o t x, t < N → x < sz t → S' o t x → S o t x) (hR : RM c N sz n V τ y S) : RM c N sz n V τ y S' := by
  intro o t x i l j k a b v q
  refine hR o t x i l j k a b v ?_
  rcases q with q | q
  · exact Or.inl q
  · exact Or.inr ⟨q.1, h o t x a b q.2⟩
theorem RM_lay {c : Nat → Nat → Int} {N n y t x : Nat} {sz : Nat → Nat} {V : Tb} {τ τ' : St} {S S' : Bool → Nat → Nat → Prop} {o : Bool} (hn : n ≤ 8) (hsz : ∀ t, t < N → sz t ≤ 12) (ht : t < N) (hx : x < sz t) (hL : MLay (mar o) (flg c o (12 * t + x)) (12 * t + x) y n τ τ')
    (hS : ∀ o' t' x', S' o' t' x' → S o' t' x' ∨ (o' = o ∧ t' = t ∧ x' = x))
    (hV : S' o t x → ∀ (i l : Nat) (j k : Int), Vs (flg c o (12 * t + x)) i j k l n → (l : Int) - i - (k - j) = (y : Int) → mT τ' o (12 * t + x) i j k l = V o (12 * t + x) i j k l)
    (hR : RM c N sz n V τ y S) : RM c N sz n V τ' y S' := by
  intro o' t' x' i' l' j' k' a b v' q
  by_cases w : MOwn (mar o) (flg c o (12 * t + x)) (12 * t + x) y n (mar o') (495 * (12 * t' + x') + rkF i' j' k' l')
  · obtain ⟨w1, i, l, j, k, w2, w3, w4⟩ := w
    have eo : o' = o := by
      revert w1
      cases o <;> cases o' <;> intro w1 <;> first | rfl | exact absurd w1 (by decide)
    have b1 := rkF_lt v' hn
    have b2 := rkF_lt w2 hn
    have s1 := hsz t' a
    have s2 := hsz t ht
    have et : t' = t ∧ x' = x := by omega
    have ea : rkF i' j' k' l' = rkF i j k l := by omega
    obtain ⟨e1, e2⟩ := et
    subst e1 e2 eo
    obtain ⟨e1, e2, e3, e4⟩ := rkF_inj v' hn w2 hn ea
    subst e1 e2 e3 e4
    refine hV ?_ _ _ _ _ w2 w3
    rcases q with q | q
    · omega
    · exact q.2
  · rw [mT_ar, hL.1 _ _ w, ← mT_ar τ o' (12 * t' + x') i' j' k' l']
    refine hR o' t' x' i' l' j' k' a b v' ?_
    rcases q with q | q
    · exact Or.inl q
    · rcases hS _ _ _ q.2 with u | ⟨e1, e2, e3⟩
      · exact Or.inr ⟨q.1, u⟩
      · subst e1 e2 e3
        exact absurd ⟨rfl, i', l', j', k', v', q.1, rfl⟩ w
theorem mlay_v {τ : St} {c : Nat → Nat → Int} {N n y t x i l : Nat} {sz : Nat → Nat} {hw wo : Nat → Prop} (sd : Nat → Int) {o : Bool} {j k : Int} {S : Bool → Nat → Nat → Prop} (hn : n ≤ 8) (hF : CF c N sz hw wo) (ht : t < N) (hx : x < sz t) (hv : Vs (flg c o (12 * t + x)) i j k l n) (hy : (l : Int) - i - (k - j) = (y : Int)) (hR : RM c N sz n (VV c N sd) τ y S) (hS : ∀ o' t' x', t' < N → x' < sz t' → Rdy hw wo o t x (y : Int) o' t' x' (y : Int) → S o' t' x') : rhs c N sd (mT τ) o (12 * t + x) i j k l = VV c N sd o (12 * t + x) i j k l := by
  rw [VV_eq sd hF hn ht hx hv]
  have hr : ∀ (o' : Bool) (t' x' i' l' : Nat) (j' k' : Int), t' < N → x' < sz t' → Vs (flg c o' (12 * t' + x')) i' j' k' l' n → Rdy hw wo o t x ((l : Int) - i - (k - j)) o' t' x' ((l' : Int) - i' - (k' - j')) → mT τ o' (12 * t' + x') i' j' k' l' = VV c N sd o' (12 * t' + x') i' j' k' l' := by
    intro o' t' x' i' l' j' k' a b v r
    refine hR o' t' x' i' l' j' k' a b v ?_
    rw [hy] at r
    by_cases e : (l' : Int) - i' - (k' - j') < (y : Int)
    · exact Or.inl e
    · have e2 : (l' : Int) - i' - (k' - j') = (y : Int) := by
        rcases r with z | z
        · exact absurd z e
        · exact z.1
      rw [e2] at r
      exact Or.inr ⟨e2, hS o' t' x' a b r⟩
  exact rhs_K sd hF ht hx hv hr (fun o' t' x' i' l' j' k' a b v r w y' => ⟨(hr o' t' x' i' l' j' k' a b v r).trans (VV_z sd hF a b v w y'), VV_z sd hF a b v w y'⟩)
def MF (τ0 τ : St) : Prop := (∀ a, a ≠ 21 → a ≠ 22 → τ a = τ0 a) ∧ MB τ
theorem MF_lay {τ0 τ τ' : St} {A r y n : Nat} {g : Int} (hA : A = 21 ∨ A = 22) (h : MF τ0 τ) (hL : MLay A g r y n τ τ') : MF τ0 τ' := ⟨fun a h1 h2 => by
  have : τ' a = τ a := by funext b; exact hL.1 a b (fun z => by have := z.1; omega)
  rw [this]; exact h.1 a h1 h2, hL.2⟩
theorem MC_c {c : Nat → Nat → Int} {N : Nat} {sz : Nat → Nat} {hw wo : Nat → Prop} {τ τ' : St} (h : MC c N sz hw wo τ) (e : ∀ a, a ≠ 21 → a ≠ 22 → τ' a = τ a) : MC c N sz hw wo τ' := by
  unfold MC
  rw [e 0 (by decide) (by decide), e 17 (by decide) (by decide), e 6 (by decide) (by decide), e 7 (by decide) (by decide), e 10 (by decide) (by decide), e 11 (by decide) (by decide), e 13 (by decide) (by decide), e 15 (by decide) (by decide), e 12 (by decide) (by decide), e 14 (by decide) (by decide), e 16 (by decide) (by decide)]
  exact h
def WW (c : Nat → Nat → Int) (N : Nat) (sz : Nat → Nat) (sd : Nat → Int) (n : Nat) (τ0 : St) : Prop := ∀ τ' : St, (∀ a, a ≠ 21 → a ≠ 22 → τ' a = τ0 a) → ∀ t x i, t < N → x < sz t → c (12 * t + x) 0 = 3 → i < n → ∀ R : Int → St → Prop, R (bI (sd i = c (12 * t + x) 1)) τ' → wp_X9_isWord ((12 * t + x : Nat) : Int) (i : Int) R τ'
theorem mlay_one0 {τ0 τ : St} {Q : St → Prop} {c : Nat → Nat → Int} {N n y t x : Nat} {sz : Nat → Nat} {hw wo : Nat → Prop} {sd : Nat → Int} {S S' : Bool → Nat → Nat → Prop} {a1 : Int} (hn : n ≤ 8) (hN : N ≤ 16) (h26 : τ0 0 26 = (n : Int)) (hyn : y ≤ n) (hM : MC c N sz hw wo τ0) (hF : CF c N sz hw wo) (h4 : ∀ t x, t < N → x < sz t → 0 ≤ c (12 * t + x) 4 ∧ c (12 * t + x) 4 ≤ 2) (hS0 : NS τ0) (hW : WW c N sz sd n τ0) (ht : t < N) (hx : x < sz t) (h1 : a1 = ((12 * t + x : Nat) : Int)) (hI : MF τ0 τ) (hR : RM c N sz n (VV c N sd) τ y S) (hSn : ¬ S false t x)
    (hS : ∀ o' t' x', S' o' t' x' → S o' t' x' ∨ (o' = false ∧ t' = t ∧ x' = x))
    (hg : ∀ o' t' x', t' < N → x' < sz t' → Rdy hw wo false t x (y : Int) o' t' x' (y : Int) → S o' t' x')
    (h : ∀ τ', MF τ0 τ' → RM c N sz n (VV c N sd) τ' y S' → Q τ') : wp_X9_fill a1 (y : Int) 0 Q τ := by
  obtain ⟨g1, g2, g3, g4, g5, g6, g7, g8, g9, g10, g11⟩ := hF.1 t x ht hx
  have s12 := (hF.2 t ht).2.1
  have hsz : ∀ t, t < N → sz t ≤ 12 := fun t h => (hF.2 t h).2.1
  have m := MC_c hM hI.1
  have e26 : τ 0 26 = (n : Int) := by rw [hI.1 0 (by decide) (by decide)]; exact h26
  unfold wp_X9_fill
  rw [show w32 a1 = ((12 * t + x : Nat) : Int) by rw [h1]; exact w32_id (by omega) (by omega), show (((12 * t + x : Nat) : Int)).toNat = 12 * t + x by omega, (m.2.2 t x ht hx).2.2.2.2.1]
  refine ⟨fun _ => ⟨by omega, ?_⟩, fun z => absurd w32_0 z⟩
  refine sp_mfillB (A := 21) (v := VV c N sd false (12 * t + x)) (r := 12 * t + x) (n := n) (Or.inl rfl) g2 hn hyn e26 hI.2 (fun i l j k _ _ => VV_r _ _ _ _ _ _ _ _ _) (fun τ' i l j k hL hv hy R hR' => ?_) (fun τ' hL hv => ?_)
  · have hI' := MF_lay (Or.inl rfl) hI hL
    have m' := MC_c hM hI'.1
    have hS' : NS τ' := by unfold NS; rw [hI'.1 20 (by decide) (by decide)]; exact hS0
    have hRM : RM c N sz n (VV c N sd) τ' y S := RM_lay (o := false) hn hsz ht hx hL (fun o' t' x' z => Or.inl z) (fun z => absurd z hSn) hR
    have val := mlay_v sd (o := false) hn hF ht hx hv hy hRM hg
    have e : rhs c N sd (mT τ') false (12 * t + x) i j k l = rLie c N sd (mT τ') (12 * t + x) i j k l := by unfold rhs; simp only [Bool.false_eq_true, if_false]
    refine sp_put0 (r := 12 * t + x) hS' hv hn (by omega) h1 (fun R' hR'' => ?_) hR'
    refine sp_mreckonLie (c := c) (N := N) (n := n) (sz := sz) (hw := hw) (wo := wo) (sd := sd) (t := t) (x := x) hS' hI'.2 hn hN m' hF (h4 t x ht hx) ht hx hv (fun k3 hl R2 hR2 => ?_) h1 rfl rfl ?_
    · rw [h1]
      have := hv.2.1
      exact hW τ' hI'.1 t x i ht hx k3 (by omega) R2 hR2
    · rw [← e, val]; exact hR''
  · exact h τ' (MF_lay (Or.inl rfl) hI hL) (RM_lay (o := false) hn hsz ht hx hL hS (fun _ i l j k a b => hv i l j k a b) hR)
theorem mlay_one1 {τ0 τ : St} {Q : St → Prop} {c : Nat → Nat → Int} {N n y t x : Nat} {sz : Nat → Nat} {hw wo : Nat → Prop} {sd : Nat → Int} {S S' : Bool → Nat → Nat → Prop} {a1 : Int} (hn : n ≤ 8) (hN : N ≤ 16) (h26 : τ0 0 26 = (n : Int)) (hyn : y ≤ n) (hM : MC c N sz hw wo τ0) (hF : CF c N sz hw wo) (hS0 : NS τ0) (ht : t < N) (hx : x < sz t) (h1 : a1 = ((12 * t + x : Nat) : Int)) (hI : MF τ0 τ) (hR : RM c N sz n (VV c N sd) τ y S) (hSn : ¬ S true t x)
    (hS : ∀ o' t' x', S' o' t' x' → S o' t' x' ∨ (o' = true ∧ t' = t ∧ x' = x))
    (hg : ∀ o' t' x', t' < N → x' < sz t' → Rdy hw wo true t x (y : Int) o' t' x' (y : Int) → S o' t' x')
    (h : ∀ τ', MF τ0 τ' → RM c N sz n (VV c N sd) τ' y S' → Q τ') : wp_X9_fill a1 (y : Int) 1 Q τ := by
  obtain ⟨g1, g2, g3, g4, g5, g6, g7, g8, g9, g10, g11⟩ := hF.1 t x ht hx
  have s12 := (hF.2 t ht).2.1
  have hsz : ∀ t, t < N → sz t ≤ 12 := fun t h => (hF.2 t h).2.1
  have m := MC_c hM hI.1
  have e26 : τ 0 26 = (n : Int) := by rw [hI.1 0 (by decide) (by decide)]; exact h26
  unfold wp_X9_fill
  rw [show w32 a1 = ((12 * t + x : Nat) : Int) by rw [h1]; exact w32_id (by omega) (by omega), show (((12 * t + x : Nat) : Int)).toNat = 12 * t + x by omega, (m.2.2 t x ht hx).2.2.2.2.2.1]
  refine ⟨fun z => absurd z (by decide), fun _ => ⟨by omega, ?_⟩⟩
  refine sp_mfillB (A := 22) (v := VV c N sd true (12 * t + x)) (r := 12 * t + x) (n := n) (Or.inr rfl) g3 hn hyn e26 hI.2 (fun i l j k _ _ => VV_r _ _ _ _ _ _ _ _ _) (fun τ' i l j k hL hv hy R hR' => ?_) (fun τ' hL hv => ?_)
  · have hI' := MF_lay (Or.inr rfl) hI hL
    have m' := (MC_c hM hI'.1).2.2 t x ht hx
    have hS' : NS τ' := by unfold NS; rw [hI'.1 20 (by decide) (by decide)]; exact hS0
    have hRM : RM c N sz n (VV c N sd) τ' y S := RM_lay (o := true) hn hsz ht hx hL (fun o' t' x' z => Or.inl z) (fun z => absurd z hSn) hR
    have val := mlay_v sd (o := true) hn hF ht hx hv hy hRM hg
    have e : rhs c N sd (mT τ') true (12 * t + x) i j k l = rOn c (mT τ') (12 * t + x) i j k l := by unfold rhs; rw [if_pos rfl]
    refine sp_put1 (r := 12 * t + x) hS' hv hn (by omega) h1 (fun R' hR'' => ?_) hR'
    refine sp_mreckonRun (c := c) (r := 12 * t + x) hS' hI'.2 hn (by omega) m'.2.2.2.2.1 g2 m'.2.2.2.1 ?_ (fun z => ?_) hv h1 rfl rfl ?_
    · rcases g5 with z | ⟨x', z1, z2, z3⟩
      · exact Or.inl z
      · exact Or.inr ⟨12 * t + x', by omega, z3⟩
    · have := g7.mpr (Or.inl z)
      rcases hv.2.2 with u | u <;> omega
    · rw [← e, val]; exact hR''
  · exact h τ' (MF_lay (Or.inr rfl) hI hL) (RM_lay (o := true) hn hsz ht hx hL hS (fun _ i l j k a b => hv i l j k a b) hR)
theorem bI_w (P : Prop) : w32 (bI P) = bI P := by have := bI_01 P; exact w32_id (by omega) (by omega)
theorem sp_reckon {τ0 τ : St} {Q : St → Prop} {c : Nat → Nat → Int} {N n y : Nat} {sz : Nat → Nat} {hw wo : Nat → Prop} {sd : Nat → Int} {M : Prop} {wI : Int} (hMw : (M ∧ wI = 0) ∨ (¬ M ∧ wI = 1)) (hn : n ≤ 8) (hN : N ≤ 16) (h26 : τ0 0 26 = (n : Int)) (hyn : y ≤ n) (hM : MC c N sz hw wo τ0) (hF : CF c N sz hw wo) (h4 : ∀ t x, t < N → x < sz t → 0 ≤ c (12 * t + x) 4 ∧ c (12 * t + x) 4 ≤ 2) (hS0 : NS τ0) (hW : WW c N sz sd n τ0) (hI : MF τ0 τ) (hR : RM c N sz n (VV c N sd) τ y (Sw hw wo M 0))
    (h : ∀ τ', MF τ0 τ' → RM c N sz n (VV c N sd) τ' y (Sw hw wo M N) → Q τ') : wp_X9_reckon (y : Int) wI Q τ := by
  have hsz : ∀ t, t < N → sz t ≤ 12 := fun t h => (hF.2 t h).2.1
  have ww : w32 wI = wI := by rcases hMw with z | z <;> (rw [z.2]; decide)
  have wT : ∀ r, wd hw wo true r ↔ wo r := fun r => by unfold wd; simp
  have wF : ∀ r, wd hw wo false r ↔ hw r := fun r => by unfold wd; simp
  have laid : ∀ P : Prop, bI P = wI ↔ (P ↔ ¬ M) := by
    intro P
    by_cases p : P
    · rw [bI_t p]
      rcases hMw with z | z
      · rw [z.2]; exact ⟨fun q => absurd q (by decide), fun q => absurd z.1 (q.mp p)⟩
      · rw [z.2]; exact ⟨fun _ => ⟨fun _ => z.1, fun _ => p⟩, fun _ => rfl⟩
    · rw [bI_f p]
      rcases hMw with z | z
      · rw [z.2]; exact ⟨fun _ => ⟨fun q => absurd q p, fun q => absurd z.1 q⟩, fun _ => rfl⟩
      · rw [z.2]; exact ⟨fun q => absurd q (by decide), fun q => absurd (q.mpr z.1) p⟩
  have inner : ∀ (K : Int → Int → Int → St → Prop) (t : Nat), t < N → (∀ τ', MF τ0 τ' → RM c N sz n (VV c N sd) τ' y (Sw hw wo M (t + 1)) → K (y : Int) wI ((t + 1 : Nat) : Int) τ') →
      ∀ (u : Nat) (τ' : St), u ≤ sz t → MF τ0 τ' → RM c N sz n (VV c N sd) τ' y (Sq hw wo M t u False) → wp_X9_reckon_L20 K Q (u + 1) (y : Int) wI (t : Int) ((u : Int) - 1) τ' := by
    intro K t ht hK u
    have s12 := hsz t ht
    induction u with
    | zero =>
      intro τ' hu hI' hR'
      unfold wp_X9_reckon_L20
      refine ⟨fun _ x_1 ex => ?_, fun z => absurd (by decide) z⟩
      rw [ex, show (t : Int) + 1 = ((t + 1 : Nat) : Int) by omega]
      refine hK τ' hI' (RM_mono (fun o t' x' a1 a2 q => ?_) hR')
      unfold Sw at q
      unfold Sq
      rcases q with q | q
      · exact Or.inl q
      · refine Or.inr ⟨q.1, ?_⟩
        omega
    | succ u ih =>
      intro τ' hu hI' hR'
      unfold wp_X9_reckon_L20
      rw [w32_id (show -2147483648 ≤ ((u + 1 : Nat) : Int) - 1 by omega) (by omega)]
      refine ⟨fun z => by omega, fun _ x_2 ex2 => ?_⟩
      have er : x_2 = ((12 * t + u : Nat) : Int) := by omega
      have mr := (MC_c hM hI'.1).2.2 t u ht (by omega)
      rw [er, w32_id (show -2147483648 ≤ ((12 * t + u : Nat) : Int) by omega) (by omega), show (((12 * t + u : Nat) : Int)).toNat = 12 * t + u by omega, mr.2.2.2.2.2.2.2.1, bI_w, ww, laid]
      have second : ∀ τ1, MF τ0 τ1 → RM c N sz n (VV c N sd) τ1 y (Sq hw wo M t (u + 1) True) → wp_X9_reckon_B53 K (fun z0 z1 z2 z3 σ => wp_X9_reckon_L20 K Q (u + 1) z0 z1 z2 z3 σ) (y : Int) wI (t : Int) (((u + 1 : Nat) : Int) - 1) ((12 * t + u : Nat) : Int) Q τ1 := by
        intro τ1 hI1 hR1
        have mr1 := (MC_c hM hI1.1).2.2 t u ht (by omega)
        have stepS : ∀ o' t' x', Sq hw wo M t u False o' t' x' → Sq hw wo M t (u + 1) True o' t' x' ∨ (o' = true ∧ t' = t ∧ x' = u) := by
          intro o' t' x' q
          unfold Sq at q ⊢
          rcases q with q | ⟨q1, q2⟩
          · exact Or.inl (Or.inl q)
          · rcases q2 with z | ⟨z, z' | z'⟩
            · exact Or.inl (Or.inr ⟨q1, Or.inl z⟩)
            · by_cases w : u + 1 ≤ x'
              · exact Or.inl (Or.inr ⟨q1, Or.inr ⟨z, Or.inl w⟩⟩)
              · cases o' with
                | true => exact Or.inr ⟨rfl, z, by omega⟩
                | false => exact Or.inl (Or.inr ⟨q1, Or.inr ⟨z, Or.inr ⟨by omega, trivial, rfl⟩⟩⟩)
            · exact absurd z'.2.1 id
        have nxt : ∀ τ2, MF τ0 τ2 → RM c N sz n (VV c N sd) τ2 y (Sq hw wo M t u False) → ∀ x_8 : Int, x_8 = ((u + 1 : Nat) : Int) - 1 + -1 → wp_X9_reckon_L20 K Q (u + 1) (y : Int) wI (t : Int) x_8 τ2 := by
          intro τ2 hI2 hR2 x_8 ex
          rw [ex, show (((u + 1 : Nat) : Int) - 1 + -1) = (u : Int) - 1 by omega]
          exact ih τ2 (by omega) hI2 hR2
        unfold wp_X9_reckon_B53 wp_X9_reckon_B72
        rw [w32_id (show -2147483648 ≤ ((12 * t + u : Nat) : Int) by omega) (by omega), show (((12 * t + u : Nat) : Int)).toNat = 12 * t + u by omega, mr1.2.2.2.2.2.2.2.2, bI_w, ww, laid]
        refine ⟨by omega, fun z => nxt τ1 hI1 (RM_mono (fun o' t' x' a1 a2 q => ?_) hR1), fun z => ?_⟩
        · rcases stepS o' t' x' q with w | ⟨w1, w2, w3⟩
          · exact w
          · subst w1 w2 w3
            unfold Sq at q ⊢
            rcases q with q | ⟨q1, _⟩
            · exact Or.inl q
            · by_cases m : M
              · by_cases w : wd hw wo true (12 * t' + x')
                · exact Or.inl ⟨m, w⟩
                · exact absurd ⟨fun p => absurd ((wT _).mpr p) w, fun p => absurd m p⟩ z
              · rcases q1 with q1 | q1
                · exact absurd q1 m
                · exact absurd ⟨fun _ => m, fun _ => (wT _).mp q1⟩ z
        · refine mlay_one1 (S := Sq hw wo M t (u + 1) True) (S' := Sq hw wo M t u False) hn hN h26 hyn hM hF hS0 ht (by omega) rfl hI1 hR1 (fun q => ?_) stepS (fun o' t' x' a1 a2 r => ?_) (fun τ2 hI2 hR2 => nxt τ2 hI2 hR2)
          · unfold Sq at q
            rcases q with q | ⟨_, q | ⟨_, q | q⟩⟩
            · exact (z.mp ((wT _).mp q.2)) q.1
            · omega
            · omega
            · exact absurd q.2.2 (by decide)
          · unfold Sq
            rcases r with r | ⟨_, r | r⟩
            · omega
            · have m : M := Classical.byContradiction (fun m => r.1 ((wT _).mpr (z.mpr m)))
              exact Or.inl ⟨m, r.2⟩
            · refine Or.inr ⟨?_, Or.inr ⟨r.2.1, ?_⟩⟩
              · by_cases m : M
                · exact Or.inl m
                · exact Or.inr (r.1.mpr ((wT _).mpr (z.mpr m)))
              · rcases r.2.2 with w | w
                · exact Or.inl (by omega)
                · exact Or.inr ⟨by omega, trivial, w.2.1⟩
      have stepS : ∀ o' t' x', Sq hw wo M t (u + 1) True o' t' x' → Sq hw wo M t (u + 1) False o' t' x' ∨ (o' = false ∧ t' = t ∧ x' = u) := by
        intro o' t' x' q
        unfold Sq at q ⊢
        rcases q with q | ⟨q1, q2⟩
        · exact Or.inl (Or.inl q)
        · rcases q2 with z | ⟨z, z' | ⟨z1, z2, z3⟩⟩
          · exact Or.inl (Or.inr ⟨q1, Or.inl z⟩)
          · exact Or.inl (Or.inr ⟨q1, Or.inr ⟨z, Or.inl z'⟩⟩)
          · exact Or.inr ⟨z3, z, by omega⟩
      refine ⟨by omega, fun z => second τ' hI' (RM_mono (fun o' t' x' a1 a2 q => ?_) hR'), fun z => ?_⟩
      · rcases stepS o' t' x' q with w | ⟨w1, w2, w3⟩
        · exact w
        · subst w1 w2 w3
          unfold Sq at q ⊢
          rcases q with q | ⟨q1, _⟩
          · exact Or.inl q
          · by_cases m : M
            · by_cases w : wd hw wo false (12 * t' + x')
              · exact Or.inl ⟨m, w⟩
              · exact absurd ⟨fun p => absurd ((wF _).mpr p) w, fun p => absurd m p⟩ z
            · rcases q1 with q1 | q1
              · exact absurd q1 m
              · exact absurd ⟨fun _ => m, fun _ => (wF _).mp q1⟩ z
      · refine mlay_one0 (S := Sq hw wo M t (u + 1) False) (S' := Sq hw wo M t (u + 1) True) hn hN h26 hyn hM hF h4 hS0 hW ht (by omega) rfl hI' hR' (fun q => ?_) stepS (fun o' t' x' a1 a2 r => ?_) (fun τ2 hI2 hR2 => second τ2 hI2 hR2)
        · unfold Sq at q
          rcases q with q | ⟨_, q | ⟨_, q | q⟩⟩
          · exact (z.mp ((wF _).mp q.2)) q.1
          · omega
          · omega
          · exact absurd q.2.1 id
        · unfold Sq
          rcases r with r | ⟨_, r | r⟩
          · omega
          · have m : M := Classical.byContradiction (fun m => r.1 ((wF _).mpr (z.mpr m)))
            exact Or.inl ⟨m, r.2⟩
          · refine Or.inr ⟨?_, Or.inr ⟨r.2.1, ?_⟩⟩
            · by_cases m : M
              · exact Or.inl m
              · exact Or.inr (r.1.mpr ((wF _).mpr (z.mpr m)))
            · rcases r.2.2 with w | w
              · exact Or.inl (by omega)
              · exact absurd w.2.2 (by decide)
  have outer : ∀ (m t : Nat) (τ' : St), N - t = m → t ≤ N → MF τ0 τ' → RM c N sz n (VV c N sd) τ' y (Sw hw wo M t) → wp_X9_reckon_L2 Q (m + 1) (y : Int) wI (t : Int) τ' := by
    intro m
    induction m with
    | zero =>
      intro t τ' hm ht hI' hR'
      unfold wp_X9_reckon_L2
      rw [(MC_c hM hI'.1).1, w32_id (show -2147483648 ≤ (N : Int) by omega) (by omega), w32_id (show -2147483648 ≤ (t : Int) by omega) (by omega)]
      refine ⟨fun _ => ?_, fun z => by omega⟩
      rw [show t = N by omega] at hR'
      exact h τ' hI' hR'
    | succ m ih =>
      intro t τ' hm ht hI' hR'
      unfold wp_X9_reckon_L2
      rw [(MC_c hM hI'.1).1, w32_id (show -2147483648 ≤ (N : Int) by omega) (by omega), w32_id (show -2147483648 ≤ (t : Int) by omega) (by omega)]
      refine ⟨fun z => by omega, fun _ => ⟨by omega, fun x_1 ex => ?_⟩⟩
      rw [show ((t : Nat) : Int).toNat = t by omega, (MC_c hM hI'.1).2.1 t (by omega)] at ex
      rw [ex]
      refine ⟨_, inner _ t (by omega) (fun τ'' a b => ih (t + 1) τ'' (by omega) (by omega) a b) (sz t) τ' (Nat.le_refl _) hI' (RM_mono (fun o t' x' a1 a2 q => ?_) hR')⟩
      unfold Sq at q
      unfold Sw
      rcases q with q | ⟨q1, q2⟩
      · exact Or.inl q
      · refine Or.inr ⟨q1, ?_⟩
        rcases q2 with z | ⟨z, z' | z'⟩
        · exact z
        · subst z; omega
        · exact absurd z'.2.1 id
  unfold wp_X9_reckon
  exact ⟨_, outer N 0 τ (by omega) (by omega) hI hR⟩
