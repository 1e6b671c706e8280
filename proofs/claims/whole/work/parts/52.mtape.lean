/-! pure: the reference's tape -/
theorem toNat_ofInt (x : Int) : (((Int32.ofInt x).toBitVec.toNat : Nat) : Int) = x % 4294967296 := by
  have : (Int32.ofInt x).toBitVec = BitVec.ofInt 32 x := rfl
  rw [this, BitVec.toNat_ofInt]
  simp only [Nat.reducePow]
  omega
theorem iAnd255 (x : Int) : iAnd x 255 = x % 256 := by
  unfold iAnd
  have h := pk_and (Int32.ofInt x) (m := Int32.ofInt 255) 8 (by decide)
  rw [h]
  have h2 := toNat_ofInt x
  have h3 : (Int32.ofInt x).toBitVec.toNat % 2 ^ 8 < 2 ^ 31 := by omega
  rw [nI_toInt h3]
  omega
def bM (τ : St) : Nat → Int := fun k => τ 1 k % 256
def mlen (τ : St) : Nat := (τ 0 2).toNat
def TmI (τ : St) : Prop := 0 ≤ τ 0 2 ∧ τ 0 2 ≤ 1000
theorem mlen_eq {τ : St} (h : TmI τ) : τ 0 2 = (mlen τ : Int) ∧ mlen τ ≤ 1000 := by
  have h1 := h.1
  have h2 := h.2
  unfold mlen
  omega
theorem TmI_su {τ : St} (h : TmI τ) {o k : Nat} (v : Int) (h2 : ¬ (o = 0 ∧ k = 2)) : TmI (su τ o k v) := by
  unfold TmI
  rw [su_ko τ v (by omega)]
  exact h
theorem mlen_su (τ : St) {o k : Nat} (v : Int) (h2 : ¬ (o = 0 ∧ k = 2)) : mlen (su τ o k v) = mlen τ := by
  unfold mlen
  rw [su_ko τ v (by omega)]
theorem bM_su (τ : St) {o : Nat} (k : Nat) (v : Int) (h : o ≠ 1) : bM (su τ o k v) = bM τ := by
  unfold bM
  rw [su_o τ k v (fun e => h e.symm)]
theorem bM_r (τ : St) (k : Nat) : 0 ≤ bM τ k ∧ bM τ k ≤ 255 := by unfold bM; omega
/-- the byte at p, 0 behind the end -/
def bAt (b : Nat → Int) (len p : Nat) : Int := if p < len then b p else 0
theorem sp_mat {p : Nat} {Q : Int → St → Prop} {τ : St} (hI : TmI τ) (hp : p ≤ 2000) (h : Q (bAt (bM τ) (mlen τ) p) τ) : wp_X9_at (p : Int) Q τ := by
  obtain ⟨hl, h1000⟩ := mlen_eq hI
  unfold wp_X9_at
  simp (disch := omega) only [hl, w32_id]
  unfold bAt at h
  refine ⟨fun q => ?_, fun q => ⟨by omega, ?_⟩⟩
  · rw [if_neg (by omega)] at h; exact h
  · rw [if_pos (by omega)] at h
    rw [iAnd255, show ((p : Int)).toNat = p by omega]
    exact h
theorem bAt_r (b : Nat → Int) (hb : ∀ k, 0 ≤ b k ∧ b k ≤ 255) (len p : Nat) : 0 ≤ bAt b len p ∧ bAt b len p ≤ 255 := by
  unfold bAt; split
  · exact hb p
  · omega
theorem sp_misGreat {c : Int} (hc : 0 ≤ c ∧ c ≤ 255) {Q : Int → St → Prop} {σ : St} (h : Q (if isGr c then 1 else 0) σ) : wp_X9_isGreat c Q σ := by
  unfold wp_X9_isGreat
  simp only [w32_id (show -2147483648 ≤ c by omega) (show c < 2147483648 by omega)]
  unfold isGr at h
  refine ⟨fun q => ?_, fun q => ⟨fun r => ?_, fun r => ?_⟩⟩
  · rw [decide_eq_false (by omega)] at h; exact h
  · rw [decide_eq_false (by omega)] at h; exact h
  · rw [decide_eq_true (by omega)] at h; exact h
theorem sp_misSmall {c : Int} (hc : 0 ≤ c ∧ c ≤ 255) {Q : Int → St → Prop} {σ : St} (h : Q (if isSm c then 1 else 0) σ) : wp_X9_isSmall c Q σ := by
  unfold wp_X9_isSmall
  simp only [w32_id (show -2147483648 ≤ c by omega) (show c < 2147483648 by omega)]
  unfold isSm at h
  refine ⟨fun q => ?_, fun q => ⟨fun r => ?_, fun r => ?_⟩⟩
  · rw [decide_eq_false (by omega)] at h; exact h
  · rw [decide_eq_false (by omega)] at h; exact h
  · rw [decide_eq_true (by omega)] at h; exact h
/-- the reference's token -/
def mTk (b : Nat → Int) (len p : Nat) : Int :=
  let s := tkS b len p
  if len ≤ s then 0 else if isGr (b s) then 1 else if isSm (b s) then 2 else b s
def nxOk (τ : St) (p : Nat) : St := su (su (su τ 0 28 (tkS (bM τ) (mlen τ) p : Nat)) 0 29 (tkE (bM τ) (mlen τ) p : Nat)) 0 27 (mTk (bM τ) (mlen τ) p)
def nxSt (τ : St) (p : Nat) : St := if tkK (bM τ) (mlen τ) p = 1 then su (su (nxOk τ p) 0 3 1) 0 4 (tkS (bM τ) (mlen τ) p : Nat) else nxOk τ p
def nxR (τ : St) (p : Nat) : Int := if tkK (bM τ) (mlen τ) p = 1 then 0 else 1
theorem sp_mflaw {a b : Int} {Q : Int → St → Prop} {σ : St} (h : Q 0 (su (su σ 0 3 a) 0 4 b)) : wp_X9_flaw a b Q σ := by
  unfold wp_X9_flaw
  intro σ1 e1 σ2 e2
  subst e1; subst e2
  exact h
theorem sp_mlb {Q : Int → St → Prop} : ∀ (m p s0 : Nat) (σ : St), TmI σ → σ 0 29 = (p : Int) → σ 0 28 = (s0 : Int) → s0 ≤ p → p ≤ mlen σ → mlen σ - p = m → (∀ e, e = runTo isLb (bM σ) (mlen σ) p → (e - s0 ≤ 8 → Q 1 (su (su σ 0 29 (e : Nat)) 0 27 1)) ∧ (¬ e - s0 ≤ 8 → Q 0 (su (su (su (su σ 0 29 (e : Nat)) 0 27 1) 0 3 1) 0 4 (s0 : Nat)))) → wp_X9_next_L136 Q (m + 1) σ := by
  have fin : ∀ (p s0 : Nat) (σ : St), TmI σ → σ 0 29 = (p : Int) → σ 0 28 = (s0 : Int) → s0 ≤ p → p ≤ mlen σ → ((p - s0 ≤ 8 → Q 1 (su σ 0 27 1)) ∧ (¬ p - s0 ≤ 8 → Q 0 (su (su (su σ 0 27 1) 0 3 1) 0 4 (s0 : Nat)))) → wp_X9_next_B189 Q σ := by
    intro p s0 σ hI hp hs0 h0 hle h
    obtain ⟨hl, h1000⟩ := mlen_eq hI
    unfold wp_X9_next_B189 wp_X9_next_B220
    intro σ1 e1
    have f1 : σ1 0 29 = (p : Int) := by rw [e1, su_ko _ _ (by omega), hp]
    have f2 : σ1 0 28 = (s0 : Int) := by rw [e1, su_ko _ _ (by omega), hs0]
    simp (disch := omega) only [f1, f2, w32_id]
    refine ⟨fun q => ?_, fun q => ?_⟩
    · rw [e1]; exact h.1 (by omega)
    · apply sp_mflaw
      refine ⟨fun _ => ?_, fun r => absurd w32_0 r⟩
      rw [e1]; exact h.2 (by omega)
  intro m
  induction m with
  | zero =>
    intro p s0 σ hI hp hs0 h0 hle hm h
    obtain ⟨hl, h1000⟩ := mlen_eq hI
    have h := h p (runTo_stop (fun q => by omega)).symm
    rw [← hp, su_self] at h
    have hz : bAt (bM σ) (mlen σ) p = 0 := by unfold bAt; rw [if_neg (by omega)]
    unfold wp_X9_next_L136
    rw [hp]
    apply sp_mat hI (by omega)
    rw [hz]
    apply sp_misGreat (by omega)
    refine ⟨fun q => absurd (by decide) q, fun _ => ?_⟩
    rw [hp]
    apply sp_mat hI (by omega)
    rw [hz]
    exact ⟨fun _ => fin p s0 σ hI hp hs0 h0 hle h, fun q => absurd (by decide) q⟩
  | succ m ih =>
    intro p s0 σ hI hp hs0 h0 hle hm h
    obtain ⟨hl, h1000⟩ := mlen_eq hI
    have hz : bAt (bM σ) (mlen σ) p = bM σ p := by unfold bAt; rw [if_pos (by omega)]
    have hr := bM_r σ p
    have go : isLb (bM σ p) = true → wp_X9_next_B176 (fun σ => wp_X9_next_L136 Q (m + 1) σ) Q σ := by
      intro hb
      unfold wp_X9_next_B176
      intro σ1 e1
      subst e1
      apply ih (p + 1) s0
      · exact TmI_su hI _ (by omega)
      · rw [su_at, hp]; omega
      · rw [su_ko _ _ (by omega)]; exact hs0
      · omega
      · rw [mlen_su σ _ (by omega)]; omega
      · rw [mlen_su σ _ (by omega)]; omega
      · intro e he
        rw [mlen_su σ _ (by omega), bM_su σ _ _ (by omega)] at he
        rw [su_su]
        exact h e (by rw [he, runTo_step (by omega) hb])
    have stp : isLb (bM σ p) = false → wp_X9_next_B189 Q σ := by
      intro hb
      have h := h p (runTo_stop (fun _ => hb)).symm
      rw [← hp, su_self] at h
      exact fin p s0 σ hI hp hs0 h0 hle h
    unfold wp_X9_next_L136
    rw [hp]
    apply sp_mat hI (by omega)
    rw [hz]
    apply sp_misGreat hr
    rw [w32_b]
    cases hg : isGr (bM σ p) with
    | true =>
      simp only [if_true]
      exact ⟨fun _ => go (by unfold isLb; rw [hg]; rfl), fun q => by omega⟩
    | false =>
      simp only [if_false, Bool.false_eq_true]
      refine ⟨fun q => by simp at q, fun _ => ?_⟩
      rw [hp]
      apply sp_mat hI (by omega)
      rw [hz]
      simp (disch := omega) only [w32_id]
      refine ⟨fun q => stp (by unfold isLb isDg; rw [hg, decide_eq_false (by omega)]; rfl), fun q => ?_⟩
      rw [hp]
      apply sp_mat hI (by omega)
      rw [hz]
      simp (disch := omega) only [w32_id]
      exact ⟨fun r => stp (by unfold isLb isDg; rw [hg, decide_eq_false (by omega)]; rfl), fun r => go (by unfold isLb isDg; rw [hg, decide_eq_true (by omega)]; rfl)⟩
theorem sp_mwd {Q : Int → St → Prop} : ∀ (m p s0 : Nat) (σ : St), TmI σ → σ 0 29 = (p : Int) → σ 0 28 = (s0 : Int) → s0 ≤ p → p ≤ mlen σ → mlen σ - p = m → (∀ e, e = runTo isSm (bM σ) (mlen σ) p → (e - s0 ≤ 12 → Q 1 (su (su σ 0 29 (e : Nat)) 0 27 2)) ∧ (¬ e - s0 ≤ 12 → Q 0 (su (su (su (su σ 0 29 (e : Nat)) 0 27 2) 0 3 1) 0 4 (s0 : Nat)))) → wp_X9_next_L233 Q (m + 1) σ := by
  have fin : ∀ (p s0 : Nat) (σ : St), TmI σ → σ 0 29 = (p : Int) → σ 0 28 = (s0 : Int) → s0 ≤ p → p ≤ mlen σ → ((p - s0 ≤ 12 → Q 1 (su σ 0 27 2)) ∧ (¬ p - s0 ≤ 12 → Q 0 (su (su (su σ 0 27 2) 0 3 1) 0 4 (s0 : Nat)))) → ∀ σ5 : St, σ5 = su σ 0 27 2 → (w32 ((σ5 0 29) - (σ5 0 28)) ≤ 12 → wp_X9_next_B291 Q σ5) ∧ (¬ w32 ((σ5 0 29) - (σ5 0 28)) ≤ 12 → wp_X9_flaw 1 (σ5 0 28) (fun r7 σ6 => (w32 r7 = 0 → Q 0 σ6) ∧ (¬ w32 r7 = 0 → wp_X9_next_B291 Q σ6)) σ5) := by
    intro p s0 σ hI hp hs0 h0 hle h
    obtain ⟨hl, h1000⟩ := mlen_eq hI
    unfold wp_X9_next_B291
    intro σ1 e1
    have f1 : σ1 0 29 = (p : Int) := by rw [e1, su_ko _ _ (by omega), hp]
    have f2 : σ1 0 28 = (s0 : Int) := by rw [e1, su_ko _ _ (by omega), hs0]
    simp (disch := omega) only [f1, f2, w32_id]
    refine ⟨fun q => ?_, fun q => ?_⟩
    · rw [e1]; exact h.1 (by omega)
    · apply sp_mflaw
      refine ⟨fun _ => ?_, fun r => absurd w32_0 r⟩
      rw [e1]; exact h.2 (by omega)
  intro m
  induction m with
  | zero =>
    intro p s0 σ hI hp hs0 h0 hle hm h
    obtain ⟨hl, h1000⟩ := mlen_eq hI
    have h := h p (runTo_stop (fun q => by omega)).symm
    rw [← hp, su_self] at h
    have hz : bAt (bM σ) (mlen σ) p = 0 := by unfold bAt; rw [if_neg (by omega)]
    unfold wp_X9_next_L233
    rw [hp]
    apply sp_mat hI (by omega)
    rw [hz]
    apply sp_misSmall (by omega)
    exact ⟨fun _ => fin p s0 σ hI hp hs0 h0 hle h, fun q => absurd (by decide) q⟩
  | succ m ih =>
    intro p s0 σ hI hp hs0 h0 hle hm h
    obtain ⟨hl, h1000⟩ := mlen_eq hI
    have hz : bAt (bM σ) (mlen σ) p = bM σ p := by unfold bAt; rw [if_pos (by omega)]
    have hr := bM_r σ p
    unfold wp_X9_next_L233
    rw [hp]
    apply sp_mat hI (by omega)
    rw [hz]
    apply sp_misSmall hr
    rw [w32_b]
    cases hg : isSm (bM σ p) with
    | true =>
      simp only [if_true]
      refine ⟨fun q => by omega, fun _ σ1 e1 => ?_⟩
      subst e1
      apply ih (p + 1) s0
      · exact TmI_su hI _ (by omega)
      · rw [su_at, hp]; omega
      · rw [su_ko _ _ (by omega)]; exact hs0
      · omega
      · rw [mlen_su σ _ (by omega)]; omega
      · rw [mlen_su σ _ (by omega)]; omega
      · intro e he
        rw [mlen_su σ _ (by omega), bM_su σ _ _ (by omega)] at he
        rw [su_su]
        exact h e (by rw [he, runTo_step (by omega) hg])
    | false =>
      simp only [if_false, Bool.false_eq_true]
      have h := h p (runTo_stop (fun _ => hg)).symm
      rw [← hp, su_self] at h
      exact ⟨fun _ => fin p s0 σ hI hp hs0 h0 hle h, fun q => by simp at q⟩
theorem sp_mB84 {Q : Int → St → Prop} {p : Nat} {τ σ : St} (hI : TmI τ) (hle : tkS (bM τ) (mlen τ) p ≤ mlen τ) (hσ : σ = su τ 0 28 (tkS (bM τ) (mlen τ) p : Nat)) (h : Q (nxR τ p) (nxSt τ p)) : wp_X9_next_B84 Q σ := by
  obtain ⟨hl, h1000⟩ := mlen_eq hI
  generalize hs : tkS (bM τ) (mlen τ) p = s0 at *
  unfold wp_X9_next_B84
  intro σ1 e1 σ2 e2
  have hI2 : TmI σ2 := by rw [e2, e1, hσ]; exact TmI_su (TmI_su (TmI_su hI _ (by omega)) _ (by omega)) _ (by omega)
  have fb : bM σ2 = bM τ := by rw [e2, e1, hσ, bM_su _ _ _ (by omega), bM_su _ _ _ (by omega), bM_su _ _ _ (by omega)]
  have fl : mlen σ2 = mlen τ := by rw [e2, e1, hσ, mlen_su _ _ (by omega), mlen_su _ _ (by omega), mlen_su _ _ (by omega)]
  have f28 : σ2 0 28 = (s0 : Int) := by rw [e2, su_ko _ _ (by omega), e1, su_ko _ _ (by omega), hσ, su_at]
  have f29 : σ2 0 29 = (s0 : Int) := by rw [e2, su_ko _ _ (by omega), e1, su_at, hσ, su_at]
  have f2 : σ2 0 2 = (mlen τ : Int) := by rw [(mlen_eq hI2).1, fl]
  have eσ : σ2 = su (su (su τ 0 28 (s0 : Int)) 0 29 (s0 : Int)) 0 27 0 := by rw [e2, e1, hσ, su_at]
  have hQok : ∀ (tk : Int) (en : Nat), mTk (bM τ) (mlen τ) p = tk → tkE (bM τ) (mlen τ) p = en → tkK (bM τ) (mlen τ) p ≠ 1 → Q 1 (su (su σ2 0 29 (en : Int)) 0 27 tk) := by
    intro tk en h1 h2 h3
    have a1 : nxR τ p = 1 := by unfold nxR; rw [if_neg h3]
    have a2 : nxSt τ p = su (su σ2 0 29 (en : Int)) 0 27 tk := by
      unfold nxSt nxOk
      rw [if_neg h3, h1, h2, hs, eσ]
      rw [su_comm _ _ _ (by omega : ¬ (0 = 0 ∧ 27 = 29)), su_su, su_su]
    rw [a1, a2] at h; exact h
  have hQbad : ∀ (tk : Int) (en : Nat), mTk (bM τ) (mlen τ) p = tk → tkE (bM τ) (mlen τ) p = en → tkK (bM τ) (mlen τ) p = 1 → Q 0 (su (su (su (su σ2 0 29 (en : Int)) 0 27 tk) 0 3 1) 0 4 (s0 : Int)) := by
    intro tk en h1 h2 h3
    have a1 : nxR τ p = 0 := by unfold nxR; rw [if_pos h3]
    have a2 : nxSt τ p = su (su (su (su σ2 0 29 (en : Int)) 0 27 tk) 0 3 1) 0 4 (s0 : Int) := by
      unfold nxSt nxOk
      rw [if_pos h3, h1, h2, hs, eσ]
      rw [su_comm _ _ _ (by omega : ¬ (0 = 0 ∧ 27 = 29)), su_su, su_su]
    rw [a1, a2] at h; exact h
  simp (disch := omega) only [f28, f2, w32_id]
  refine ⟨fun q => ?_, fun q => ?_⟩
  · have hlt : s0 < mlen τ := by omega
    apply sp_mat hI2 (by omega)
    rw [fb, fl, show bAt (bM τ) (mlen τ) s0 = bM τ s0 by unfold bAt; rw [if_pos hlt]]
    have hr := bM_r τ s0
    intro σ5 e5
    have hI5 : TmI σ5 := by rw [e5]; exact TmI_su hI2 _ (by omega)
    have g28 : σ5 0 28 = (s0 : Int) := by rw [e5, su_ko _ _ (by omega), f28]
    have g29 : σ5 0 29 = ((s0 + 1 : Nat) : Int) := by rw [e5, su_at, f29]; omega
    have gb : bM σ5 = bM τ := by rw [e5, bM_su _ _ _ (by omega), fb]
    have gl : mlen σ5 = mlen τ := by rw [e5, mlen_su _ _ (by omega), fl]
    apply sp_misGreat hr
    rw [w32_b]
    cases hg : isGr (bM τ s0) with
    | true =>
      simp only [if_true]
      refine ⟨fun q => by omega, fun _ => ⟨_, sp_mlb _ (s0 + 1) s0 σ5 hI5 g29 g28 (by omega) (by omega) rfl ?_⟩⟩
      intro en he
      rw [gb, gl] at he
      rw [e5, su_su]
      have k1 : mTk (bM τ) (mlen τ) p = 1 := by unfold mTk; simp only [hs]; rw [if_neg (by omega), if_pos hg]
      have k2 : tkE (bM τ) (mlen τ) p = en := by unfold tkE; simp only [hs]; rw [if_neg (by omega), if_pos hg, he]
      have k3 : tkK (bM τ) (mlen τ) p = if en - s0 ≤ 8 then 2 else 1 := by unfold tkK; simp only [hs]; rw [if_neg (by omega), if_pos hg, he]
      exact ⟨fun r => hQok _ _ k1 k2 (by rw [k3, if_pos r]; decide), fun r => hQbad _ _ k1 k2 (by rw [k3, if_neg r])⟩
    | false =>
      simp only [if_false, Bool.false_eq_true]
      refine ⟨fun _ => ?_, fun q => by simp at q⟩
      apply sp_misSmall hr
      rw [w32_b]
      cases hs1 : isSm (bM τ s0) with
      | true =>
        simp only [if_true]
        refine ⟨fun q => by omega, fun _ => ⟨_, sp_mwd _ (s0 + 1) s0 σ5 hI5 g29 g28 (by omega) (by omega) rfl ?_⟩⟩
        intro en he
        rw [gb, gl] at he
        rw [e5, su_su]
        have k1 : mTk (bM τ) (mlen τ) p = 2 := by unfold mTk; simp only [hs]; rw [if_neg (by omega), hg, hs1]; simp
        have k2 : tkE (bM τ) (mlen τ) p = en := by unfold tkE; simp only [hs]; rw [if_neg (by omega), hg, hs1, he]; simp
        have k3 : tkK (bM τ) (mlen τ) p = if en - s0 ≤ 12 then 3 else 1 := by unfold tkK; simp only [hs]; rw [if_neg (by omega), hg, hs1, he]; simp
        exact ⟨fun r => hQok _ _ k1 k2 (by rw [k3, if_pos r]; decide), fun r => hQbad _ _ k1 k2 (by rw [k3, if_neg r])⟩
      | false =>
        simp only [if_false, Bool.false_eq_true]
        refine ⟨fun _ σ10 e10 => ?_, fun q => by simp at q⟩
        have k1 : mTk (bM τ) (mlen τ) p = bM τ s0 := by unfold mTk; simp only [hs]; rw [if_neg (by omega), hg, hs1]; simp
        have k2 : tkE (bM τ) (mlen τ) p = s0 + 1 := by unfold tkE; simp only [hs]; rw [if_neg (by omega), hg, hs1]; simp
        have k3 : tkK (bM τ) (mlen τ) p = if isSg (bM τ s0) then 4 else 1 := by unfold tkK; simp only [hs]; rw [if_neg (by omega), hg, hs1]; simp
        have e5' : σ5 = su σ2 0 29 ((s0 + 1 : Nat) : Int) := by rw [e5, f29]; congr 1
        have ok : isSg (bM τ s0) = true → wp_X9_next_B350 Q σ10 := by
          intro hk
          unfold wp_X9_next_B350
          rw [e10, e5']
          exact hQok _ _ k1 k2 (by rw [k3, if_pos hk]; decide)
        have g10 : σ10 0 28 = (s0 : Int) := by rw [e10, su_ko _ _ (by omega), g28]
        have bad : isSg (bM τ s0) = false → wp_X9_flaw 1 (σ10 0 28) (fun r12 σ11 => (w32 r12 = 0 → Q 0 σ11) ∧ (¬ w32 r12 = 0 → wp_X9_next_B350 Q σ11)) σ10 := by
          intro hk
          apply sp_mflaw
          refine ⟨fun _ => ?_, fun r => absurd w32_0 r⟩
          rw [g10, e10, e5']
          exact hQbad _ _ k1 k2 (by rw [k3, hk]; rfl)
        rw [w32_id (show -2147483648 ≤ bM τ s0 by omega) (show bM τ s0 < 2147483648 by omega)]
        unfold isSg at ok bad
        refine ⟨fun r1 => ok (by simp [r1]), fun n1 => ⟨fun r2 => ok (by simp [r2]), fun n2 => ⟨fun r3 => ok (by simp [r3]), fun n3 => ⟨fun r4 => ok (by simp [r4]), fun n4 => ⟨fun r5 => ok (by simp [r5]), fun n5 => ⟨fun r6 => ok (by simp [r6]), fun n6 => bad (by simp [n1, n2, n3, n4, n5, n6])⟩⟩⟩⟩⟩⟩
  · have hge : mlen τ ≤ s0 := by omega
    have := hQok 0 s0 (by unfold mTk; simp only [hs]; rw [if_pos hge]) (by unfold tkE; simp only [hs]; rw [if_pos hge]) (by unfold tkK; simp only [hs]; rw [if_pos hge]; decide)
    rw [← f29, su_self] at this
    have z : su σ2 0 27 0 = σ2 := by rw [eσ, su_su]
    rw [z] at this
    exact this
theorem sp_mskip {Q : Int → St → Prop} {p : Nat} {τ : St} (hI : TmI τ) (hp0 : p ≤ mlen τ) (h : Q (nxR τ p) (nxSt τ p)) : ∀ (m q : Nat) (σ : St), σ = su τ 0 28 (q : Nat) → p ≤ q → q ≤ mlen τ → runTo isBl (bM τ) (mlen τ) q = tkS (bM τ) (mlen τ) p → mlen τ - q = m → wp_X9_next_L8 Q (m + 1) σ := by
  obtain ⟨hl, h1000⟩ := mlen_eq hI
  have hsl := runTo_le isBl (bM τ) hp0
  intro m
  induction m with
  | zero =>
    intro q σ hσ hpq hq hrun hm
    have f28 : σ 0 28 = (q : Int) := by rw [hσ, su_at]
    have f2 : σ 0 2 = (mlen τ : Int) := by rw [hσ, su_ko _ _ (by omega), hl]
    unfold wp_X9_next_L8
    simp (disch := omega) only [f28, f2, w32_id]
    refine ⟨fun _ => sp_mB84 (p := p) hI hsl (by rw [hσ, ← hrun, runTo_stop (fun z => by omega)]) h, fun z => by omega⟩
  | succ m ih =>
    intro q σ hσ hpq hq hrun hm
    have f28 : σ 0 28 = (q : Int) := by rw [hσ, su_at]
    have f2 : σ 0 2 = (mlen τ : Int) := by rw [hσ, su_ko _ _ (by omega), hl]
    have hIσ : TmI σ := by rw [hσ]; exact TmI_su hI _ (by omega)
    have fb : bM σ = bM τ := by rw [hσ, bM_su _ _ _ (by omega)]
    have fl : mlen σ = mlen τ := by rw [hσ, mlen_su _ _ (by omega)]
    have hz : bAt (bM σ) (mlen σ) q = bM τ q := by rw [fb, fl]; unfold bAt; rw [if_pos (by omega)]
    have hr := bM_r τ q
    have go : isBl (bM τ q) = true → wp_X9_next_B71 (fun σ => wp_X9_next_L8 Q (m + 1) σ) Q σ := by
      intro hb
      unfold wp_X9_next_B71
      intro σ1 e1
      exact ih (q + 1) σ1 (by rw [e1, hσ, su_at, su_su]; congr 1) (by omega) (by omega) (by rw [← hrun, runTo_step (by omega) hb]) (by omega)
    have stp : isBl (bM τ q) = false → wp_X9_next_B84 Q σ := by
      intro hb
      exact sp_mB84 (p := p) hI hsl (by rw [hσ, ← hrun, runTo_stop (fun _ => hb)]) h
    unfold wp_X9_next_L8
    simp (disch := omega) only [f28, f2, w32_id]
    refine ⟨fun z => by omega, fun _ => ?_⟩
    apply sp_mat hIσ (by omega)
    rw [hz, w32_id (show -2147483648 ≤ bM τ q by omega) (show bM τ q < 2147483648 by omega), f28]
    refine ⟨fun r => go (by unfold isBl; simp [r]), fun n1 => ?_⟩
    apply sp_mat hIσ (by omega)
    rw [hz, w32_id (show -2147483648 ≤ bM τ q by omega) (show bM τ q < 2147483648 by omega), f28]
    refine ⟨fun r => go (by unfold isBl; simp [r]), fun n2 => ?_⟩
    apply sp_mat hIσ (by omega)
    rw [hz, w32_id (show -2147483648 ≤ bM τ q by omega) (show bM τ q < 2147483648 by omega), f28]
    refine ⟨fun r => go (by unfold isBl; simp [r]), fun n3 => ?_⟩
    apply sp_mat hIσ (by omega)
    rw [hz, w32_id (show -2147483648 ≤ bM τ q by omega) (show bM τ q < 2147483648 by omega)]
    exact ⟨fun n4 => stp (by unfold isBl; simp [n1, n2, n3, n4]), fun r => go (by unfold isBl; simp [r])⟩
theorem sp_mnext {Q : Int → St → Prop} {p : Nat} {τ : St} (hI : TmI τ) (hp : τ 0 29 = (p : Int)) (hle : p ≤ mlen τ) (h : Q (nxR τ p) (nxSt τ p)) : wp_X9_next Q τ := by
  unfold wp_X9_next
  intro σ1 e1
  exact ⟨_, sp_mskip hI hle h _ p σ1 (by rw [e1, hp]) (Nat.le_refl p) hle rfl rfl⟩
