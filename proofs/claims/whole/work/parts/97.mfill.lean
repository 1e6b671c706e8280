/-! pure: the reference fills its tables -/
def mar (o : Bool) : Nat := if o then 22 else 21
theorem mT_ar (τ : St) (o : Bool) (r i : Nat) (j k : Int) (l : Nat) : mT τ o r i j k l = τ (mar o) (495 * r + rkF i j k l) := rfl
def MOwn (A : Nat) (g : Int) (r y n a b : Nat) : Prop := a = A ∧ ∃ (i l : Nat) (j k : Int), Vs g i j k l n ∧ (l : Int) - i - (k - j) = (y : Int) ∧ b = 495 * r + rkF i j k l
def MLay (A : Nat) (g : Int) (r y n : Nat) (τ τ' : St) : Prop := (∀ a b, ¬ MOwn A g r y n a b → τ' a b = τ a b) ∧ MB τ'
def hI (g : Int) (i : Nat) (j : Int) : Nat := if g = 0 then i else j.toNat
def MDn (A : Nat) (v : Nat → Int → Int → Nat → Int) (g : Int) (r y n : Nat) (τ : St) (i l h : Nat) : Prop := ∀ (i' l' : Nat) (j' k' : Int), Vs g i' j' k' l' n → (l' : Int) - i' - (k' - j') = (y : Int) → Bf i' l' (hI g i' j') i l h → τ A (495 * r + rkF i' j' k' l') = v i' j' k' l'
theorem hI_r {g : Int} {i l n : Nat} {j k : Int} (hv : Vs g i j k l n) : i ≤ hI g i j ∧ hI g i j ≤ l := by
  obtain ⟨v1, v2, v3⟩ := hv
  unfold hI
  rcases v3 with z | z
  · rw [if_pos z.1]; omega
  · rw [if_neg (by omega)]; omega
theorem hI_eq {g : Int} {i l n y : Nat} {j k j' k' : Int} (hv : Vs g i j k l n) (hv' : Vs g i j' k' l n) (hy : (l : Int) - i - (k - j) = (y : Int)) (hy' : (l : Int) - i - (k' - j') = (y : Int)) (h : hI g i j = hI g i j') : j = j' ∧ k = k' := by
  obtain ⟨v1, v2, v3⟩ := hv
  obtain ⟨w1, w2, w3⟩ := hv'
  unfold hI at h
  rcases v3 with z | z
  · rcases w3 with w | w <;> omega
  · rcases w3 with w | w
    · omega
    · rw [if_neg (by omega), if_neg (by omega)] at h
      omega
theorem MB_su {τ : St} {a b : Nat} {v : Int} (h : MB τ) (hv : 0 ≤ v ∧ v ≤ 1000000000) : MB (su τ a b v) := by
  intro k
  have hk := h k
  refine ⟨?_, ?_⟩
  all_goals
    unfold su
    split
    · split
      · exact hv
      · first | exact hk.1 | exact hk.2
    · first | exact hk.1 | exact hk.2
theorem MDn_step {A : Nat} {v : Nat → Int → Int → Nat → Int} {g : Int} {r y n i l h : Nat} {j k : Int} {τ0 τ : St} (hn : n ≤ 8) (hv : Vs g i j k l n) (hy : (l : Int) - i - (k - j) = (y : Int)) (hh : hI g i j = h) (hL : MLay A g r y n τ0 τ) (hD : MDn A v g r y n τ i l h) (hV : 0 ≤ v i j k l ∧ v i j k l ≤ 1000000000) :
    MLay A g r y n τ0 (su τ A (495 * r + rkF i j k l) (v i j k l)) ∧ MDn A v g r y n (su τ A (495 * r + rkF i j k l) (v i j k l)) i l (h + 1) := by
  refine ⟨⟨fun a b hab => ?_, MB_su hL.2 hV⟩, fun i' l' j' k' hv' hy' qb => ?_⟩
  · rw [su_ko _ _ (fun z => hab ⟨z.1, i, l, j, k, hv, hy, z.2⟩)]
    exact hL.1 a b hab
  · by_cases e : rkF i' j' k' l' = rkF i j k l
    · obtain ⟨w1, w2, w3, w4⟩ := rkF_inj hv' hn hv hn e
      subst w1 w2 w3 w4
      rw [su_at]
    · rw [su_ko _ _ (fun z => e (by omega))]
      refine hD i' l' j' k' hv' hy' ?_
      by_cases w : i' = i ∧ l' = l ∧ hI g i' j' = h
      · obtain ⟨w1, w2, w3⟩ := w
        subst w1 w2
        obtain ⟨u1, u2⟩ := hI_eq hv' hv hy' hy (by rw [w3, hh])
        subst u1 u2
        exact absurd rfl e
      · unfold Bf at qb ⊢
        omega
theorem MDn_to {A : Nat} {v : Nat → Int → Int → Nat → Int} {g : Int} {r y n i l h i2 l2 h2 : Nat} {τ : St} (hD : MDn A v g r y n τ i l h) (hb : ∀ (i' l' : Nat) (j' k' : Int), Vs g i' j' k' l' n → (l' : Int) - i' - (k' - j') = (y : Int) → Bf i' l' (hI g i' j') i2 l2 h2 → Bf i' l' (hI g i' j') i l h) : MDn A v g r y n τ i2 l2 h2 := fun i' l' j' k' a b c => hD i' l' j' k' a b (hb i' l' j' k' a b c)
theorem sp_mfillB {τ : St} {Q : St → Prop} {A : Nat} {v : Nat → Int → Int → Nat → Int} {g oI : Int} {r y n : Nat} {a1 : Int} (hA : A = 21 ∨ A = 22) (hg : g = 0 ∨ g = 1) (hn : n ≤ 8) (hyn : y ≤ n) (h26 : τ 0 26 = (n : Int)) (hB : MB τ)
    (hV : ∀ (i l : Nat) (j k : Int), Vs g i j k l n → (l : Int) - i - (k - j) = (y : Int) → 0 ≤ v i j k l ∧ v i j k l ≤ 1000000000)
    (hP : ∀ (τ' : St) (i l : Nat) (j k : Int), MLay A g r y n τ τ' → Vs g i j k l n → (l : Int) - i - (k - j) = (y : Int) → ∀ R : St → Prop, R (su τ' A (495 * r + rkF i j k l) (v i j k l)) → wp_X9_put a1 (i : Int) j k (l : Int) oI R τ')
    (h : ∀ τ', MLay A g r y n τ τ' → (∀ (i l : Nat) (j k : Int), Vs g i j k l n → (l : Int) - i - (k - j) = (y : Int) → τ' A (495 * r + rkF i j k l) = v i j k l) → Q τ') : wp_X9_fill_B19 a1 (y : Int) oI g Q τ := by
  have e26 : ∀ τ', MLay A g r y n τ τ' → τ' 0 26 = (n : Int) := fun τ' hL => by rw [hL.1 0 26 (fun z => by have := z.1; omega)]; exact h26
  have jL : ∀ (K24 : Int → Int → Int → Int → Int → St → Prop) (K37 : Int → Int → Int → Int → Int → Int → St → Prop) (i l : Nat), g = 1 → i ≤ l → l ≤ n → (∀ τ', MLay A g r y n τ τ' → MDn A v g r y n τ' i (l + 1) i → K37 a1 (y : Int) oI g (i : Int) ((l + 1 : Nat) : Int) τ') →
      ∀ (m j : Nat) (τ' : St), l + 1 - j = m → i ≤ j → j ≤ l + 1 → MLay A g r y n τ τ' → MDn A v g r y n τ' i l j → wp_X9_fill_L79 K24 K37 Q (m + 1) a1 (y : Int) oI g (i : Int) (l : Int) (j : Int) τ' := by
    intro K24 K37 i l q1 r1 r2 hK m
    induction m with
    | zero =>
      intro j τ' e1 e2 e3 hL hD
      unfold wp_X9_fill_L79 wp_X9_fill_B132
      rw [w32_id (show -2147483648 ≤ (l : Int) by omega) (by omega), w32_id (show -2147483648 ≤ (j : Int) by omega) (by omega)]
      refine ⟨fun _ x_1 ex => ?_, fun z => by omega⟩
      rw [ex, show (l : Int) + 1 = ((l + 1 : Nat) : Int) by omega]
      refine hK τ' hL (MDn_to hD (fun i' l' j' k' a b c => ?_))
      have := hI_r a
      unfold Bf at *
      omega
    | succ m ih =>
      intro j τ' e1 e2 e3 hL hD
      unfold wp_X9_fill_L79 wp_X9_fill_B126
      rw [w32_id (show -2147483648 ≤ (l : Int) by omega) (by omega), w32_id (show -2147483648 ≤ (j : Int) by omega) (by omega)]
      refine ⟨fun z => by omega, fun _ x_1 ex => ?_⟩
      rw [w32_id (show -2147483648 ≤ x_1 by omega) (by omega)]
      have skip : (∀ (j' k' : Int), Vs g i j' k' l n → (l : Int) - i - (k' - j') = (y : Int) → hI g i j' ≠ j) → wp_X9_fill_L79 K24 K37 Q (m + 1) a1 (y : Int) oI g (i : Int) (l : Int) ((j + 1 : Nat) : Int) τ' := by
        intro hs
        refine ih (j + 1) τ' (by omega) (by omega) (by omega) hL (MDn_to hD (fun i' l' j' k' a b c => ?_))
        by_cases w : i' = i ∧ l' = l
        · obtain ⟨w1, w2⟩ := w
          subst w1 w2
          have := hs j' k' a b
          unfold Bf at *
          omega
        · unfold Bf at *
          omega
      have hIj : ∀ j' : Int, hI g i j' = j'.toNat := fun j' => by unfold hI; rw [if_neg (by omega)]
      refine ⟨fun z x_2 ex2 => ?_, fun z => ⟨fun w x_2 ex2 => ?_, fun w => ?_⟩⟩
      · rw [ex2, show (j : Int) + 1 = ((j + 1 : Nat) : Int) by omega]
        refine skip (fun j' k' a b c => ?_)
        rw [hIj] at c
        rcases a.2.2 with u | u <;> omega
      · rw [ex2, show (j : Int) + 1 = ((j + 1 : Nat) : Int) by omega]
        refine skip (fun j' k' a b c => ?_)
        rw [hIj] at c
        rcases a.2.2 with u | u <;> omega
      · have vv : Vs g i (j : Int) x_1 l n := ⟨r1, r2, Or.inr ⟨q1, by omega, by omega, by omega⟩⟩
        have yy : (l : Int) - i - (x_1 - (j : Int)) = (y : Int) := by omega
        refine hP τ' i l (j : Int) x_1 hL vv yy _ (fun x_2 ex2 => ?_)
        have st := MDn_step hn vv yy (show hI g i (j : Int) = j by rw [hIj]; omega) hL hD (hV _ _ _ _ vv yy)
        rw [ex2, show (j : Int) + 1 = ((j + 1 : Nat) : Int) by omega]
        exact ih (j + 1) _ (by omega) (by omega) (by omega) st.1 st.2
  have lL : ∀ (K24 : Int → Int → Int → Int → Int → St → Prop) (i : Nat), i ≤ n → (∀ τ', MLay A g r y n τ τ' → MDn A v g r y n τ' (i + 1) (i + 1) (i + 1) → K24 a1 (y : Int) oI g ((i + 1 : Nat) : Int) τ') →
      ∀ (m l : Nat) (τ' : St), n + 1 - l = m → i ≤ l → l ≤ n + 1 → MLay A g r y n τ τ' → MDn A v g r y n τ' i l i → wp_X9_fill_L37 K24 Q (m + 1) a1 (y : Int) oI g (i : Int) (l : Int) τ' := by
    intro K24 i hi hK m
    induction m with
    | zero =>
      intro l τ' e1 e2 e3 hL hD
      unfold wp_X9_fill_L37
      rw [e26 τ' hL, w32_id (show -2147483648 ≤ (n : Int) by omega) (by omega), w32_id (show -2147483648 ≤ (l : Int) by omega) (by omega)]
      refine ⟨fun _ x_1 ex => ?_, fun z => by omega⟩
      rw [ex, show (i : Int) + 1 = ((i + 1 : Nat) : Int) by omega]
      refine hK τ' hL (MDn_to hD (fun i' l' j' k' a b c => ?_))
      have := hI_r a
      have := a.2.1
      unfold Bf at *
      omega
    | succ m ih =>
      intro l τ' e1 e2 e3 hL hD
      unfold wp_X9_fill_L37 wp_X9_fill_B132
      rw [e26 τ' hL, w32_id (show -2147483648 ≤ (n : Int) by omega) (by omega), w32_id (show -2147483648 ≤ (l : Int) by omega) (by omega), w32_id (show -2147483648 ≤ (l : Int) - (i : Int) by omega) (by omega), w32_id (show -2147483648 ≤ (y : Int) by omega) (by omega)]
      refine ⟨fun z => by omega, fun _ => ?_⟩
      rcases hg with q | q
      · have nxt : ∀ τ'', MLay A g r y n τ τ'' → MDn A v g r y n τ'' i l (i + 1) → ∀ x_1 : Int, x_1 = (l : Int) + 1 → wp_X9_fill_L37 K24 Q (m + 1) a1 (y : Int) oI g (i : Int) x_1 τ'' := by
          intro τ'' hL' hD' x_1 ex
          rw [ex, show (l : Int) + 1 = ((l + 1 : Nat) : Int) by omega]
          refine ih (l + 1) τ'' (by omega) (by omega) (by omega) hL' (MDn_to hD' (fun i' l' j' k' a b c => ?_))
          have h0 : hI g i' j' = i' := by unfold hI; rw [if_pos q]
          unfold Bf at *
          omega
        have hI0 : ∀ j', hI g i j' = i := fun j' => by unfold hI; rw [if_pos q]
        rw [show w32 g = 0 by rw [q]; exact w32_0]
        refine ⟨fun z => absurd rfl z, fun _ => ⟨fun z => nxt τ' hL (MDn_to hD (fun i' l' j' k' a b c => ?_)), fun z => ?_⟩⟩
        · by_cases w : i' = i ∧ l' = l
          · obtain ⟨w1, w2⟩ := w
            subst w1 w2
            rcases a.2.2 with u | u <;> omega
          · have h0 : hI g i' j' = i' := by unfold hI; rw [if_pos q]
            unfold Bf at *
            omega
        · have vv : Vs g i (-1) (-1) l n := ⟨e2, by omega, Or.inl ⟨q, rfl, rfl⟩⟩
          have yy : (l : Int) - i - (-1 - -1) = (y : Int) := by omega
          have st := MDn_step hn vv yy (hI0 _) hL hD (hV _ _ _ _ vv yy)
          exact hP τ' i l (-1) (-1) hL vv yy _ (nxt _ st.1 st.2)
      · rw [show w32 g = 1 by rw [q]; decide]
        refine ⟨fun _ => ⟨_, jL K24 _ i l q e2 (by omega) (fun τ'' a b => ih (l + 1) τ'' (by omega) (by omega) (by omega) a b) _ i τ' rfl (Nat.le_refl i) (by omega) hL hD⟩, fun z => absurd z (by decide)⟩
  have iL : ∀ (m i : Nat) (τ' : St), n + 1 - i = m → i ≤ n + 1 → MLay A g r y n τ τ' → MDn A v g r y n τ' i i i → wp_X9_fill_L24 Q (m + 1) a1 (y : Int) oI g (i : Int) τ' := by
    intro m
    induction m with
    | zero =>
      intro i τ' e1 e2 hL hD
      unfold wp_X9_fill_L24
      rw [e26 τ' hL, w32_id (show -2147483648 ≤ (n : Int) by omega) (by omega), w32_id (show -2147483648 ≤ (i : Int) by omega) (by omega)]
      refine ⟨fun _ => h τ' hL (fun i' l' j' k' a b => hD i' l' j' k' a b ?_), fun z => by omega⟩
      have := a.1
      have := a.2.1
      unfold Bf
      omega
    | succ m ih =>
      intro i τ' e1 e2 hL hD
      unfold wp_X9_fill_L24
      rw [e26 τ' hL, w32_id (show -2147483648 ≤ (n : Int) by omega) (by omega), w32_id (show -2147483648 ≤ (i : Int) by omega) (by omega)]
      exact ⟨fun z => by omega, fun _ => ⟨_, lL _ i (by omega) (fun τ'' a b => ih (i + 1) τ'' (by omega) (by omega) a b) _ i τ' rfl (Nat.le_refl i) (by omega) hL hD⟩⟩
  unfold wp_X9_fill_B19
  refine ⟨_, iL (n + 1) 0 τ (by omega) (by omega) ⟨fun _ _ _ => rfl, hB⟩ (fun i' l' j' k' a b c => ?_)⟩
  have := hI_r a
  unfold Bf at c
  omega
theorem sp_put0 {τ : St} {Q : St → Prop} {g : Int} {r i l n : Nat} {j k v a1 : Int} (hS : NS τ) (hv : Vs g i j k l n) (hn : n ≤ 8) (hr : r < 192) (h1 : a1 = (r : Int)) (hE : ∀ R : Int → St → Prop, R v τ → wp_X9_reckonLie a1 (i : Int) j k (l : Int) R τ) (h : Q (su τ 21 (495 * r + rkF i j k l) v)) : wp_X9_put a1 (i : Int) j k (l : Int) 0 Q τ := by
  unfold wp_X9_put wp_X9_key
  refine sp_keyed (P := fun y1 y3 => wp_X9_put_B34 a1 (i : Int) j k (l : Int) 0 y1 y3 Q τ) hS hv hn hr h1 rfl rfl (fun _ => rfl) (fun y3 b e => ?_)
  show wp_X9_put_B34 _ _ _ _ _ _ _ _ _ _
  unfold wp_X9_put_B34
  have ix := mrow_ix hr (rkF_lt hv hn)
  refine ⟨b, fun x_1 ex => ⟨fun _ => hE _ ?_, fun z => absurd w32_0 z⟩⟩
  rw [e, h1] at ex
  rw [ex]
  refine ⟨ix.1, fun σ4 e4 => ?_⟩
  rw [e4, ix.2]
  exact h
theorem sp_put1 {τ : St} {Q : St → Prop} {g : Int} {r i l n : Nat} {j k v a1 : Int} (hS : NS τ) (hv : Vs g i j k l n) (hn : n ≤ 8) (hr : r < 192) (h1 : a1 = (r : Int)) (hE : ∀ R : Int → St → Prop, R v τ → wp_X9_reckonRun a1 (i : Int) j k (l : Int) R τ) (h : Q (su τ 22 (495 * r + rkF i j k l) v)) : wp_X9_put a1 (i : Int) j k (l : Int) 1 Q τ := by
  unfold wp_X9_put wp_X9_key
  refine sp_keyed (P := fun y1 y3 => wp_X9_put_B34 a1 (i : Int) j k (l : Int) 1 y1 y3 Q τ) hS hv hn hr h1 rfl rfl (fun _ => rfl) (fun y3 b e => ?_)
  show wp_X9_put_B34 _ _ _ _ _ _ _ _ _ _
  unfold wp_X9_put_B34
  have ix := mrow_ix hr (rkF_lt hv hn)
  refine ⟨b, fun x_1 ex => ⟨fun z => absurd z (by decide), fun _ => hE _ ?_⟩⟩
  rw [e, h1] at ex
  rw [ex]
  refine ⟨ix.1, fun σ4 e4 => ?_⟩
  rw [e4, ix.2]
  exact h
