theorem tlen_eq {σ : St} (h : TpI σ) : σ 1 1 = (tlen σ : Int) ∧ tlen σ ≤ 1000 := by
  have h1 := h.1
  have h2 := h.2.1
  unfold tlen
  omega
theorem sp_takeWord {Q : St → Prop} : ∀ (m p s0 : Nat) (σ : St), TpI σ → σ 1 4 = (p : Int) → σ 1 3 = (s0 : Int) → s0 ≤ p → p ≤ tlen σ → tlen σ - p = m → Q (su (su σ 1 4 (runTo isSm (σ 2) (tlen σ) p : Nat)) 1 2 (if runTo isSm (σ 2) (tlen σ) p - s0 ≤ 12 then 3 else 1)) → wp_X4_takeWord_L0 Q (m + 1) σ := by
  have fin : ∀ (p s0 : Nat) (σ : St), TpI σ → σ 1 4 = (p : Int) → σ 1 3 = (s0 : Int) → s0 ≤ p → p ≤ tlen σ → Q (su σ 1 2 (if p - s0 ≤ 12 then 3 else 1)) → wp_X4_takeWord_B39 Q σ := by
    intro p s0 σ hI hp hs0 h0 hle h
    obtain ⟨hl, h1000⟩ := tlen_eq hI
    unfold wp_X4_takeWord_B39 wp_X4_takeWord_B59
    simp (disch := omega) only [hp, hs0, w32_id]
    refine ⟨fun q σ1 e => ?_, fun q σ1 e => ?_⟩ <;> subst e
    · rw [if_pos (by omega)] at h; exact h
    · rw [if_neg (by omega)] at h; exact h
  intro m
  induction m with
  | zero =>
    intro p s0 σ hI hp hs0 h0 hle hm h
    obtain ⟨hl, h1000⟩ := tlen_eq hI
    rw [runTo_stop (fun q => by omega), ← hp, su_self] at h
    unfold wp_X4_takeWord_L0
    simp (disch := omega) only [hl, hp, w32_id]
    exact ⟨fun _ => fin p s0 σ hI hp hs0 h0 hle h, fun q => by omega⟩
  | succ m ih =>
    intro p s0 σ hI hp hs0 h0 hle hm h
    obtain ⟨hl, h1000⟩ := tlen_eq hI
    unfold wp_X4_takeWord_L0
    simp (disch := omega) only [hl, hp, w32_id]
    refine ⟨fun q => by omega, fun _ => ⟨by omega, ?_⟩⟩
    apply sp_isSmall (hI.2.2 _)
    rw [w32_b]
    rw [show ((p : Int)).toNat = p by omega]
    cases hb : isSm (σ 2 p) with
    | false =>
      rw [runTo_stop (fun _ => hb), ← hp, su_self] at h
      simp only [if_false, Bool.false_eq_true]
      exact ⟨fun _ => fin p s0 σ hI hp hs0 h0 hle h, fun q => by simp at q⟩
    | true =>
      simp only [if_true]
      refine ⟨fun q => by omega, fun _ σ3 e3 => ?_⟩
      subst e3
      apply ih (p + 1) s0
      · exact TpI_su hI _ (by omega) (by omega)
      · rw [su_at, hp]; omega
      · rw [su_ko _ _ (by omega)]; exact hs0
      · omega
      · rw [tlen_su σ _ (by omega)]; omega
      · rw [tlen_su σ _ (by omega)]; omega
      · rw [tlen_su σ _ (by omega), su_su, su_o σ 4 _ (by omega)]
        rw [runTo_step (by omega) hb] at h
        exact h
theorem sp_takeLabel {Q : St → Prop} : ∀ (m p s0 : Nat) (σ : St), TpI σ → σ 1 4 = (p : Int) → σ 1 3 = (s0 : Int) → s0 ≤ p → p ≤ tlen σ → tlen σ - p = m → Q (su (su σ 1 4 (runTo isLb (σ 2) (tlen σ) p : Nat)) 1 2 (if runTo isLb (σ 2) (tlen σ) p - s0 ≤ 8 then 2 else 1)) → wp_X4_takeLabel_L0 Q (m + 1) σ := by
  have fin : ∀ (p s0 : Nat) (σ : St), TpI σ → σ 1 4 = (p : Int) → σ 1 3 = (s0 : Int) → s0 ≤ p → p ≤ tlen σ → Q (su σ 1 2 (if p - s0 ≤ 8 then 2 else 1)) → wp_X4_takeLabel_B54 Q σ := by
    intro p s0 σ hI hp hs0 h0 hle h
    obtain ⟨hl, h1000⟩ := tlen_eq hI
    unfold wp_X4_takeLabel_B54 wp_X4_takeLabel_B74
    simp (disch := omega) only [hp, hs0, w32_id]
    refine ⟨fun q σ1 e => ?_, fun q σ1 e => ?_⟩ <;> subst e
    · rw [if_pos (by omega)] at h; exact h
    · rw [if_neg (by omega)] at h; exact h
  intro m
  induction m with
  | zero =>
    intro p s0 σ hI hp hs0 h0 hle hm h
    obtain ⟨hl, h1000⟩ := tlen_eq hI
    rw [runTo_stop (fun q => by omega), ← hp, su_self] at h
    unfold wp_X4_takeLabel_L0
    simp (disch := omega) only [hl, hp, w32_id]
    exact ⟨fun _ => fin p s0 σ hI hp hs0 h0 hle h, fun q => by omega⟩
  | succ m ih =>
    intro p s0 σ hI hp hs0 h0 hle hm h
    obtain ⟨hl, h1000⟩ := tlen_eq hI
    have go : isLb (σ 2 p) = true → wp_X4_takeLabel_B41 (fun σ => wp_X4_takeLabel_L0 Q (m + 1) σ) Q σ := by
      intro hb
      unfold wp_X4_takeLabel_B41
      intro σ1 e1
      subst e1
      apply ih (p + 1) s0
      · exact TpI_su hI _ (by omega) (by omega)
      · rw [su_at, hp]; omega
      · rw [su_ko _ _ (by omega)]; exact hs0
      · omega
      · rw [tlen_su σ _ (by omega)]; omega
      · rw [tlen_su σ _ (by omega)]; omega
      · rw [tlen_su σ _ (by omega), su_su, su_o σ 4 _ (by omega)]
        rw [runTo_step (by omega) hb] at h
        exact h
    unfold wp_X4_takeLabel_L0
    simp (disch := omega) only [hl, hp, w32_id]
    refine ⟨fun q => by omega, fun _ => ⟨by omega, ?_⟩⟩
    apply sp_isGreat (hI.2.2 _)
    rw [w32_b]
    rw [show ((p : Int)).toNat = p by omega]
    cases hb : isGr (σ 2 p) with
    | true =>
      simp only [if_true]
      exact ⟨fun _ => go (by unfold isLb; rw [hb]; rfl), fun q => by omega⟩
    | false =>
      simp only [if_false, Bool.false_eq_true]
      refine ⟨fun q => by simp at q, fun _ => ?_⟩
      simp (disch := omega) only [hp, w32_id]
      refine ⟨by omega, ?_⟩
      apply sp_isDigit (hI.2.2 _)
      rw [w32_b, show ((p : Int)).toNat = p by omega]
      cases hd : isDg (σ 2 p) with
      | true =>
        simp only [if_true]
        exact ⟨fun q => by omega, fun _ => go (by unfold isLb; rw [hb, hd]; rfl)⟩
      | false =>
        simp only [if_false, Bool.false_eq_true]
        have hz : isLb (σ 2 p) = false := by unfold isLb; rw [hb, hd]; rfl
        rw [runTo_stop (fun _ => hz), ← hp, su_self] at h
        exact ⟨fun _ => fin p s0 σ hI hp hs0 h0 hle h, fun q => by simp at q⟩
/-- behind advance() from place p: token, start and stop are the token's -/
def tkSt (σ : St) (p : Nat) : St := su (su (su σ 1 3 (tkS (σ 2) (tlen σ) p : Nat)) 1 4 (tkE (σ 2) (tlen σ) p : Nat)) 1 2 (tkK (σ 2) (tlen σ) p)
theorem su_comm (σ : St) {o k a b : Nat} (v w : Int) (h : ¬ (o = a ∧ k = b)) : su (su σ o k v) a b w = su (su σ a b w) o k v := by
  funext x y
  unfold su
  by_cases h1 : x = a <;> by_cases h2 : y = b <;> by_cases h3 : x = o <;> by_cases h4 : y = k <;> simp_all
theorem sp_advance {Q : St → Prop} {p : Nat} {σ : St} (hI : TpI σ) (hp : σ 1 4 = (p : Int)) (hle : p ≤ tlen σ) (h : Q (tkSt σ p)) : wp_X4_advance Q σ := by
  obtain ⟨hl, h1000⟩ := tlen_eq hI
  unfold wp_X4_advance
  refine ⟨_, sp_skip _ p σ hI hp hle rfl ?_⟩
  intro σ2 e2
  have hs := runTo_le isBl (σ 2) hle
  have hI2 : TpI σ2 := by rw [e2]; exact TpI_su (TpI_su hI _ (by omega) (by omega)) _ (by omega) (by omega)
  have hb2 : σ2 2 = σ 2 := by rw [e2, su_o _ _ _ (by omega), su_o _ _ _ (by omega)]
  have hl2 : tlen σ2 = tlen σ := by rw [e2, tlen_su _ _ (by omega), tlen_su _ _ (by omega)]
  have hl1 : σ2 1 1 = (tlen σ : Int) := by rw [(tlen_eq hI2).1, hl2]
  generalize hsd : runTo isBl (σ 2) (tlen σ) p = s0 at *
  have e3 : σ2 1 3 = (s0 : Int) := by rw [e2, su_at, su_at]
  have e4 : σ2 1 4 = (s0 : Int) := by rw [e2, su_ko _ _ (by omega), su_at]
  have hQ : ∀ (tk : Int) (en : Nat), tkK (σ 2) (tlen σ) p = tk → tkE (σ 2) (tlen σ) p = en → Q (su (su σ2 1 4 (en : Int)) 1 2 tk) := by
    intro tk en h1 h2
    have : tkSt σ p = su (su σ2 1 4 (en : Int)) 1 2 tk := by
      unfold tkSt
      rw [h1, h2, show tkS (σ 2) (tlen σ) p = s0 from hsd, e2, su_at]
      congr 1
      rw [su_comm σ _ _ (by omega : ¬ (1 = 1 ∧ 3 = 4)), su_comm (su σ 1 4 _) _ _ (by omega : ¬ (1 = 1 ∧ 3 = 4)), su_su]
    rw [this] at h; exact h
  simp (disch := omega) only [e3, hl1, w32_id]
  have hS : tkS (σ 2) (tlen σ) p = s0 := hsd
  refine ⟨fun q => ⟨by omega, ?_⟩, fun q => ?_⟩
  · intro x ex σ4 e40
    rw [hb2, show ((s0 : Int)).toNat = s0 by omega] at ex
    have hc := hI.2.2 s0
    rw [← ex] at hc
    have hI4 : TpI σ4 := by rw [e40]; exact TpI_su hI2 _ (by omega) (by omega)
    have f2 : σ4 2 = σ 2 := by rw [e40, su_o _ _ _ (by omega), hb2]
    have f4 : σ4 1 4 = ((s0 + 1 : Nat) : Int) := by rw [e40, su_at, e4]; omega
    have f3 : σ4 1 3 = (s0 : Int) := by rw [e40, su_ko _ _ (by omega), e3]
    have fl : tlen σ4 = tlen σ := by rw [e40, tlen_su _ _ (by omega), hl2]
    apply sp_isGreat hc
    rw [w32_b]
    cases hg : isGr x with
    | true =>
      simp only [if_true]
      refine ⟨fun q => by omega, fun _ => ?_⟩
      refine ⟨_, sp_takeLabel _ (s0 + 1) s0 σ4 hI4 f4 f3 (by omega) (by omega) rfl ?_⟩
      rw [f2, fl, e40, su_su]
      exact hQ _ _ (by unfold tkK; simp only [hS]; rw [if_neg (by omega), ← ex, if_pos hg]) (by unfold tkE; simp only [hS]; rw [if_neg (by omega), ← ex, if_pos hg])
    | false =>
      simp only [if_false, Bool.false_eq_true]
      refine ⟨fun _ => ?_, fun q => by simp at q⟩
      apply sp_isSmall hc
      rw [w32_b]
      cases hs1 : isSm x with
      | true =>
        simp only [if_true]
        refine ⟨fun q => by omega, fun _ => ?_⟩
        refine ⟨_, sp_takeWord _ (s0 + 1) s0 σ4 hI4 f4 f3 (by omega) (by omega) rfl ?_⟩
        rw [f2, fl, e40, su_su]
        exact hQ _ _ (by unfold tkK; simp only [hS]; rw [if_neg (by omega), ← ex, hg, hs1]; simp) (by unfold tkE; simp only [hS]; rw [if_neg (by omega), ← ex, hg, hs1]; simp)
      | false =>
        simp only [if_false, Bool.false_eq_true]
        refine ⟨fun _ => ?_, fun q => by simp at q⟩
        apply sp_isSign hc
        rw [w32_b]
        unfold wp_X4_advance_B90
        have h9 : σ4 = su σ2 1 4 ((s0 + 1 : Nat) : Int) := by rw [e40, e4]; congr 1
        cases hsg : isSg x with
        | true =>
          simp only [if_true]
          refine ⟨fun q => by omega, fun _ σ1 e1 => ?_⟩
          rw [e1, h9]
          exact hQ _ _ (by unfold tkK; simp only [hS]; rw [if_neg (by omega), ← ex, hg, hs1, hsg]; simp) (by unfold tkE; simp only [hS]; rw [if_neg (by omega), ← ex, hg, hs1]; simp)
        | false =>
          simp only [if_false, Bool.false_eq_true]
          refine ⟨fun _ σ1 e1 => ?_, fun q => by simp at q⟩
          rw [e1, h9]
          exact hQ _ _ (by unfold tkK; simp only [hS]; rw [if_neg (by omega), ← ex, hg, hs1, hsg]; simp) (by unfold tkE; simp only [hS]; rw [if_neg (by omega), ← ex, hg, hs1]; simp)
  · intro σ13 e13
    have := hQ 0 s0 (by unfold tkK; simp only [hS]; rw [if_pos (by omega)]) (by unfold tkE; simp only [hS]; rw [if_pos (by omega)])
    rw [e13]
    rw [← e4, su_self] at this
    exact this
