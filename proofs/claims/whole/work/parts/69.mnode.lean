/-! pure: the reference takes a LABEL, a WORD more (wip/whole/mk69.py) -/
/-- what newNode leaves of the labels when one is new -/
def Adlabel (τ τ' : St) (s e cnt : Nat) : Prop := (∀ o k, o ≠ 2 → o ≠ 3 → ¬ (o = 0 ∧ k = 7) → τ' o k = τ o k) ∧ τ' 0 7 = ((cnt + 1 : Nat) : Int) ∧ (∀ k, k ≠ cnt → τ' 3 k = τ 3 k) ∧ τ' 3 cnt = ((e - s : Nat) : Int) ∧ (∀ i, i < 8 * cnt → τ' 2 i = τ 2 i) ∧ (∀ i, i < e - s → τ' 2 (8 * cnt + i) = τ 1 (s + i)) ∧ ∀ i, τ' 2 i = τ 2 i ∨ ∃ j, τ' 2 i = τ 1 j
theorem sp_mAddlabel {Q : Int → St → Prop} {τ : St} {s e cnt : Nat} (hs : τ 0 28 = (s : Int)) (he : τ 0 29 = (e : Int)) (hse : s ≤ e) (he1 : e ≤ 1000) (hes : e - s ≤ 8) (hc : τ 0 7 = (cnt : Int)) (hc1 : cnt < 17) (hR : Rw (τ 1)) (h : ∀ τ', Adlabel τ τ' s e cnt → wp_X9_newNode_B239 0 (cnt : Int) Q τ') : wp_X9_newNode_B109 0 (cnt : Int) Q τ := by
  unfold wp_X9_newNode_B109
  have key : ∀ (m x : Nat) (τ1 : St), x ≤ e - s → e - s - x = m → (∀ o k, ¬ (o = 2) → τ1 o k = τ o k) → (∀ y, y < x → τ1 2 (8 * cnt + y) = τ 1 (s + y)) → (∀ y, y < 8 * cnt → τ1 2 y = τ 2 y) → (∀ i, τ1 2 i = τ 2 i ∨ ∃ j, τ1 2 i = τ 1 j) → wp_X9_newNode_L112 Q (m + 1) 0 (cnt : Int) (x : Int) τ1 := by
    intro m
    induction m with
    | zero =>
      intro x τ1 hx hm hf h1 h2 h3
      have f29 := (hf 0 29 (by omega)).trans he
      have f28 := (hf 0 28 (by omega)).trans hs
      have fF := (hf 0 7 (by omega)).trans hc
      unfold wp_X9_newNode_L112
      rw [f29, f28, show (e : Int) - (s : Int) = ((e - s : Nat) : Int) by omega]
      simp (disch := omega) only [w32_id]
      refine ⟨fun _ => ⟨fun _ => ⟨by omega, fun τ2 e2 τ3 e3 => ?_⟩, fun z => absurd trivial z⟩, fun q => by omega⟩
      rw [show ((cnt : Int)).toNat = cnt by omega] at e2
      refine h τ3 ⟨fun o k a b c => by rw [e3, su_ko _ _ (by omega), e2, su_ko _ _ (by omega)]; exact hf o k a, by rw [e3, su_at, e2, su_ko _ _ (by omega), fF]; omega, fun k hk => by rw [e3, su_ko _ _ (by omega), e2, su_ko _ _ (by omega)]; exact hf _ _ (by omega), by rw [e3, su_ko _ _ (by omega), e2, su_at], fun i hi => by rw [e3, su_ko _ _ (by omega), e2, su_ko _ _ (by omega)]; exact h2 i hi, fun i hi => by rw [e3, su_ko _ _ (by omega), e2, su_ko _ _ (by omega)]; exact h1 i (by omega), fun i => by rw [e3, su_ko _ _ (by omega), e2, su_ko _ _ (by omega)]; exact h3 i⟩
    | succ m ih =>
      intro x τ1 hx hm hf h1 h2 h3
      have f29 := (hf 0 29 (by omega)).trans he
      have f28 := (hf 0 28 (by omega)).trans hs
      unfold wp_X9_newNode_L112
      rw [f29, f28, show (e : Int) - (s : Int) = ((e - s : Nat) : Int) by omega, show (s : Int) + (x : Int) = ((s + x : Nat) : Int) by omega, show 8 * (cnt : Int) + (x : Int) = ((8 * cnt + x : Nat) : Int) by omega]
      simp (disch := omega) only [w32_id]
      refine ⟨fun q => by omega, fun _ => ⟨fun _ => ⟨by omega, by omega, fun τ4 e4 => ?_⟩, fun z => absurd trivial z⟩⟩
      rw [show (((s + x : Nat)) : Int).toNat = s + x by omega, show (((8 * cnt + x : Nat)) : Int).toNat = 8 * cnt + x by omega, hf 1 _ (by omega), yNar_id (hR _)] at e4
      unfold wp_X9_newNode_B176
      intro x5 e5
      rw [show x5 = ((x + 1 : Nat) : Int) by rw [e5]; omega]
      refine ih (x + 1) τ4 (by omega) (by omega) (fun o k a => by rw [e4, su_ko _ _ (by omega)]; exact hf o k a) (fun y hy => ?_) (fun y hy => by rw [e4, su_ko _ _ (by omega)]; exact h2 y hy) (fun i => ?_)
      · by_cases e6 : y = x
        · rw [e6, e4, su_at]
        · rw [e4, su_ko _ _ (by omega)]; exact h1 y (by omega)
      · by_cases e6 : i = 8 * cnt + x
        · exact Or.inr ⟨s + x, by rw [e6, e4, su_at]⟩
        · rw [e4, su_ko _ _ (by omega)]; exact h3 i
  exact ⟨_, key _ 0 τ (by omega) rfl (fun _ _ _ => rfl) (fun y hy => by omega) (fun _ _ => rfl) (fun _ => Or.inl rfl)⟩
/-- what newNode leaves of the words when one is new -/
def Adword (τ τ' : St) (s e cnt : Nat) : Prop := (∀ o k, o ≠ 4 → o ≠ 5 → ¬ (o = 0 ∧ k = 10) → τ' o k = τ o k) ∧ τ' 0 10 = ((cnt + 1 : Nat) : Int) ∧ (∀ k, k ≠ cnt → τ' 5 k = τ 5 k) ∧ τ' 5 cnt = ((e - s : Nat) : Int) ∧ (∀ i, i < 12 * cnt → τ' 4 i = τ 4 i) ∧ (∀ i, i < e - s → τ' 4 (12 * cnt + i) = τ 1 (s + i)) ∧ ∀ i, τ' 4 i = τ 4 i ∨ ∃ j, τ' 4 i = τ 1 j
theorem sp_mAddword {Q : Int → St → Prop} {τ : St} {s e cnt : Nat} (hs : τ 0 28 = (s : Int)) (he : τ 0 29 = (e : Int)) (hse : s ≤ e) (he1 : e ≤ 1000) (hes : e - s ≤ 12) (hc : τ 0 10 = (cnt : Int)) (hc1 : cnt < 33) (hR : Rw (τ 1)) (h : ∀ τ', Adword τ τ' s e cnt → wp_X9_newNode_B239 1 (cnt : Int) Q τ') : wp_X9_newNode_B109 1 (cnt : Int) Q τ := by
  unfold wp_X9_newNode_B109
  have key : ∀ (m x : Nat) (τ1 : St), x ≤ e - s → e - s - x = m → (∀ o k, ¬ (o = 4) → τ1 o k = τ o k) → (∀ y, y < x → τ1 4 (12 * cnt + y) = τ 1 (s + y)) → (∀ y, y < 12 * cnt → τ1 4 y = τ 4 y) → (∀ i, τ1 4 i = τ 4 i ∨ ∃ j, τ1 4 i = τ 1 j) → wp_X9_newNode_L112 Q (m + 1) 1 (cnt : Int) (x : Int) τ1 := by
    intro m
    induction m with
    | zero =>
      intro x τ1 hx hm hf h1 h2 h3
      have f29 := (hf 0 29 (by omega)).trans he
      have f28 := (hf 0 28 (by omega)).trans hs
      have fF := (hf 0 10 (by omega)).trans hc
      unfold wp_X9_newNode_L112
      rw [f29, f28, show (e : Int) - (s : Int) = ((e - s : Nat) : Int) by omega]
      simp (disch := omega) only [w32_id]
      refine ⟨fun _ => ⟨fun z => absurd z (by decide), fun _ => ⟨by omega, fun τ2 e2 τ3 e3 => ?_⟩⟩, fun q => by omega⟩
      rw [show ((cnt : Int)).toNat = cnt by omega] at e2
      refine h τ3 ⟨fun o k a b c => by rw [e3, su_ko _ _ (by omega), e2, su_ko _ _ (by omega)]; exact hf o k a, by rw [e3, su_at, e2, su_ko _ _ (by omega), fF]; omega, fun k hk => by rw [e3, su_ko _ _ (by omega), e2, su_ko _ _ (by omega)]; exact hf _ _ (by omega), by rw [e3, su_ko _ _ (by omega), e2, su_at], fun i hi => by rw [e3, su_ko _ _ (by omega), e2, su_ko _ _ (by omega)]; exact h2 i hi, fun i hi => by rw [e3, su_ko _ _ (by omega), e2, su_ko _ _ (by omega)]; exact h1 i (by omega), fun i => by rw [e3, su_ko _ _ (by omega), e2, su_ko _ _ (by omega)]; exact h3 i⟩
    | succ m ih =>
      intro x τ1 hx hm hf h1 h2 h3
      have f29 := (hf 0 29 (by omega)).trans he
      have f28 := (hf 0 28 (by omega)).trans hs
      unfold wp_X9_newNode_L112
      rw [f29, f28, show (e : Int) - (s : Int) = ((e - s : Nat) : Int) by omega, show (s : Int) + (x : Int) = ((s + x : Nat) : Int) by omega, show 12 * (cnt : Int) + (x : Int) = ((12 * cnt + x : Nat) : Int) by omega]
      simp (disch := omega) only [w32_id]
      refine ⟨fun q => by omega, fun _ => ⟨fun z => absurd z (by decide), fun _ => ⟨by omega, by omega, fun τ4 e4 => ?_⟩⟩⟩
      rw [show (((s + x : Nat)) : Int).toNat = s + x by omega, show (((12 * cnt + x : Nat)) : Int).toNat = 12 * cnt + x by omega, hf 1 _ (by omega), yNar_id (hR _)] at e4
      unfold wp_X9_newNode_B176
      intro x5 e5
      rw [show x5 = ((x + 1 : Nat) : Int) by rw [e5]; omega]
      refine ih (x + 1) τ4 (by omega) (by omega) (fun o k a => by rw [e4, su_ko _ _ (by omega)]; exact hf o k a) (fun y hy => ?_) (fun y hy => by rw [e4, su_ko _ _ (by omega)]; exact h2 y hy) (fun i => ?_)
      · by_cases e6 : y = x
        · rw [e6, e4, su_at]
        · rw [e4, su_ko _ _ (by omega)]; exact h1 y (by omega)
      · by_cases e6 : i = 12 * cnt + x
        · exact Or.inr ⟨s + x, by rw [e6, e4, su_at]⟩
        · rw [e4, su_ko _ _ (by omega)]; exact h3 i
  exact ⟨_, key _ 0 τ (by omega) rfl (fun _ _ _ => rfl) (fun y hy => by omega) (fun _ _ => rfl) (fun _ => Or.inl rfl)⟩
