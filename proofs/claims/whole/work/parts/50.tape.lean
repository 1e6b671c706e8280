/-! pure: numbers, scans, the tape -/
theorem su_su (σ : St) (o k : Nat) (v w : Int) : su (su σ o k v) o k w = su σ o k w := by
  funext a b; unfold su; split <;> (try split) <;> rfl
theorem su_self (σ : St) (o k : Nat) : su σ o k (σ o k) = σ := by
  funext a b; unfold su; split
  · split
    · subst_vars; rfl
    · rfl
  · rfl
theorem su_at (σ : St) (o k : Nat) (v : Int) : su σ o k v o k = v := by simp [su]
theorem su_ko (σ : St) {o k a b : Nat} (v : Int) (h : ¬ (a = o ∧ b = k)) : su σ o k v a b = σ a b := by
  unfold su; split
  · split
    · exact absurd ⟨‹_›, ‹_›⟩ h
    · rfl
  · rfl
theorem su_o (σ : St) {o a : Nat} (k : Nat) (v : Int) (h : a ≠ o) : su σ o k v a = σ a := su_other σ k v h
def scan (f : Int → Bool) (b : Nat → Int) (len : Nat) : Nat → Nat → Nat
  | 0, p => p
  | k + 1, p => if p < len ∧ f (b p) = true then scan f b len k (p + 1) else p
def runTo (f : Int → Bool) (b : Nat → Int) (len p : Nat) : Nat := scan f b len (len - p) p
theorem runTo_step {f : Int → Bool} {b : Nat → Int} {len p : Nat} (h : p < len) (hf : f (b p) = true) : runTo f b len p = runTo f b len (p + 1) := by
  unfold runTo
  obtain ⟨m, hm⟩ : ∃ m, len - p = m + 1 := ⟨len - p - 1, by omega⟩
  rw [hm, show len - (p + 1) = m by omega]
  simp [scan, h, hf]
theorem runTo_stop {f : Int → Bool} {b : Nat → Int} {len p : Nat} (h : p < len → f (b p) = false) : runTo f b len p = p := by
  unfold runTo
  cases hm : len - p with
  | zero => rfl
  | succ m =>
    have hp : p < len := by omega
    simp [scan, h hp]
theorem scan_ge (f : Int → Bool) (b : Nat → Int) (len : Nat) : ∀ m p, p ≤ scan f b len m p := by
  intro m
  induction m with
  | zero => intro p; exact Nat.le_refl p
  | succ m ih =>
    intro p
    unfold scan
    split
    · exact Nat.le_trans (Nat.le_succ p) (ih (p + 1))
    · exact Nat.le_refl p
theorem scan_le (f : Int → Bool) (b : Nat → Int) (len : Nat) : ∀ m p, p ≤ len → scan f b len m p ≤ len := by
  intro m
  induction m with
  | zero => intro p h; exact h
  | succ m ih =>
    intro p h
    unfold scan
    split
    · exact ih (p + 1) (by omega)
    · exact h
theorem runTo_ge (f : Int → Bool) (b : Nat → Int) (len p : Nat) : p ≤ runTo f b len p := scan_ge f b len _ p
theorem runTo_le (f : Int → Bool) (b : Nat → Int) {len p : Nat} (h : p ≤ len) : runTo f b len p ≤ len := scan_le f b len _ p h
def isBl (c : Int) : Bool := decide (c = 9 ∨ c = 10 ∨ c = 13 ∨ c = 32)
def isGr (c : Int) : Bool := decide (65 ≤ c ∧ c ≤ 90)
def isSm (c : Int) : Bool := decide (97 ≤ c ∧ c ≤ 122)
def isDg (c : Int) : Bool := decide (48 ≤ c ∧ c ≤ 57)
def isLb (c : Int) : Bool := isGr c || isDg c
def isSg (c : Int) : Bool := decide (c = 40 ∨ c = 41 ∨ c = 33 ∨ c = 42 ∨ c = 43 ∨ c = 45)
/-- the class's tape: bytes σ 2, length σ 1 1 -/
def TpI (σ : St) : Prop := 0 ≤ σ 1 1 ∧ σ 1 1 ≤ 1000 ∧ ∀ k, 0 ≤ σ 2 k ∧ σ 2 k ≤ 255
def tlen (σ : St) : Nat := (σ 1 1).toNat
/-- the token from place p on: its kind (0 end, 1 bad, 2 LABEL, 3 WORD, 4 sign), begin and end -/
def tkS (b : Nat → Int) (len p : Nat) : Nat := runTo isBl b len p
def tkK (b : Nat → Int) (len p : Nat) : Int :=
  let s := tkS b len p
  if len ≤ s then 0 else if isGr (b s) then (if runTo isLb b len (s + 1) - s ≤ 8 then 2 else 1) else if isSm (b s) then (if runTo isSm b len (s + 1) - s ≤ 12 then 3 else 1) else if isSg (b s) then 4 else 1
def tkE (b : Nat → Int) (len p : Nat) : Nat :=
  let s := tkS b len p
  if len ≤ s then s else if isGr (b s) then runTo isLb b len (s + 1) else if isSm (b s) then runTo isSm b len (s + 1) else s + 1
theorem sp_isBlank {c : Int} (hc : 0 ≤ c ∧ c ≤ 255) {Q : Int → St → Prop} {σ : St} (h : Q (if isBl c then 1 else 0) σ) : wp_X4_isBlank c Q σ := by
  unfold wp_X4_isBlank wp_X4_isBlank_B24
  simp only [w32_id (show -2147483648 ≤ c by omega) (show c < 2147483648 by omega)]
  unfold isBl at h
  by_cases h1 : c = 9
  · simp_all
  by_cases h2 : c = 10
  · simp_all
  by_cases h3 : c = 13
  · simp_all
  by_cases h4 : c = 32 <;> simp_all
theorem sp_isGreat {c : Int} (hc : 0 ≤ c ∧ c ≤ 255) {Q : Int → St → Prop} {σ : St} (h : Q (if isGr c then 1 else 0) σ) : wp_X4_isGreat c Q σ := by
  unfold wp_X4_isGreat
  simp only [w32_id (show -2147483648 ≤ c by omega) (show c < 2147483648 by omega)]
  unfold isGr at h
  refine ⟨fun q => ?_, fun q => ⟨fun r => ?_, fun r => ?_⟩⟩
  · rw [decide_eq_false (by omega)] at h; exact h
  · rw [decide_eq_false (by omega)] at h; exact h
  · rw [decide_eq_true (by omega)] at h; exact h
theorem sp_isSmall {c : Int} (hc : 0 ≤ c ∧ c ≤ 255) {Q : Int → St → Prop} {σ : St} (h : Q (if isSm c then 1 else 0) σ) : wp_X4_isSmall c Q σ := by
  unfold wp_X4_isSmall
  simp only [w32_id (show -2147483648 ≤ c by omega) (show c < 2147483648 by omega)]
  unfold isSm at h
  refine ⟨fun q => ?_, fun q => ⟨fun r => ?_, fun r => ?_⟩⟩
  · rw [decide_eq_false (by omega)] at h; exact h
  · rw [decide_eq_false (by omega)] at h; exact h
  · rw [decide_eq_true (by omega)] at h; exact h
theorem sp_isDigit {c : Int} (hc : 0 ≤ c ∧ c ≤ 255) {Q : Int → St → Prop} {σ : St} (h : Q (if isDg c then 1 else 0) σ) : wp_X4_isDigit c Q σ := by
  unfold wp_X4_isDigit
  simp only [w32_id (show -2147483648 ≤ c by omega) (show c < 2147483648 by omega)]
  unfold isDg at h
  refine ⟨fun q => ?_, fun q => ⟨fun r => ?_, fun r => ?_⟩⟩
  · rw [decide_eq_false (by omega)] at h; exact h
  · rw [decide_eq_false (by omega)] at h; exact h
  · rw [decide_eq_true (by omega)] at h; exact h
theorem sp_isSign {c : Int} (hc : 0 ≤ c ∧ c ≤ 255) {Q : Int → St → Prop} {σ : St} (h : Q (if isSg c then 1 else 0) σ) : wp_X4_isSign c Q σ := by
  unfold wp_X4_isSign wp_X4_isSign_B36
  simp only [w32_id (show -2147483648 ≤ c by omega) (show c < 2147483648 by omega)]
  unfold isSg at h
  by_cases h1 : c = 40
  · simp_all
  by_cases h2 : c = 41
  · simp_all
  by_cases h3 : c = 33
  · simp_all
  by_cases h4 : c = 42
  · simp_all
  by_cases h5 : c = 43
  · simp_all
  by_cases h6 : c = 45 <;> simp_all
theorem w32_b (b : Bool) : w32 (if b then 1 else 0) = (if b then 1 else 0) := by cases b <;> decide
theorem TpI_su {σ : St} (h : TpI σ) {o k : Nat} (v : Int) (h1 : o ≠ 2) (h2 : ¬ (o = 1 ∧ k = 1)) : TpI (su σ o k v) := by
  unfold TpI
  rw [su_ko σ v (by omega), su_o σ k v (fun e => h1 e.symm)]
  exact h
theorem tlen_su (σ : St) {o k : Nat} (v : Int) (h2 : ¬ (o = 1 ∧ k = 1)) : tlen (su σ o k v) = tlen σ := by
  unfold tlen
  rw [su_ko σ v (by omega)]
theorem sp_skip {Q : St → Prop} : ∀ (m p : Nat) (σ : St), TpI σ → σ 1 4 = (p : Int) → p ≤ tlen σ → tlen σ - p = m → Q (su σ 1 4 (runTo isBl (σ 2) (tlen σ) p : Nat)) → wp_X4_skipBlanks_L0 Q (m + 1) σ := by
  intro m
  induction m with
  | zero =>
    intro p σ hI hp hle hm h
    have hl : σ 1 1 = (tlen σ : Int) := by unfold tlen; have := hI.1; omega
    have h1000 : tlen σ ≤ 1000 := by have := hI.2.1; omega
    rw [runTo_stop (fun q => by omega), ← hp, su_self] at h
    unfold wp_X4_skipBlanks_L0
    simp (disch := omega) only [hl, hp, w32_id]
    exact ⟨fun _ => h, fun q => by omega⟩
  | succ m ih =>
    intro p σ hI hp hle hm h
    have hl : σ 1 1 = (tlen σ : Int) := by unfold tlen; have := hI.1; omega
    have h1000 : tlen σ ≤ 1000 := by have := hI.2.1; omega
    unfold wp_X4_skipBlanks_L0
    simp (disch := omega) only [hl, hp, w32_id]
    refine ⟨fun q => by omega, fun _ => ⟨by omega, ?_⟩⟩
    apply sp_isBlank (hI.2.2 _)
    rw [w32_b]
    rw [show ((p : Int)).toNat = p by omega]
    cases hb : isBl (σ 2 p) with
    | false =>
      rw [runTo_stop (fun _ => hb), ← hp, su_self] at h
      simp [h]
    | true =>
      simp only [if_true]
      refine ⟨fun q => by omega, fun _ σ3 e3 => ?_⟩
      subst e3
      apply ih (p + 1)
      · exact TpI_su hI _ (by omega) (by omega)
      · rw [su_at, hp]; omega
      · rw [tlen_su σ _ (by omega)]; omega
      · rw [tlen_su σ _ (by omega)]; omega
      · rw [tlen_su σ _ (by omega), su_su, su_o σ 4 _ (by omega)]
        rw [runTo_step (by omega) hb] at h
        exact h
