/-! pure: bytes that are fed -/
def bt (a : Int) : Nat → Int
  | 0 => w32 a / 16777216 % 256
  | 1 => w32 a / 65536 % 256
  | 2 => w32 a / 256 % 256
  | _ => w32 a % 256
theorem ush_n (x : Int) (s : Nat) (v : UInt32) (hv : v.toNat = s) (hs : s < 32) : ((Int32.ofInt x).toUInt32 >>> v).toInt32.toInt % 256 = (x % 4294967296) / (2 ^ s : Nat) % 256 := by
  have h1 : (((Int32.ofInt x).toUInt32 >>> v).toNat : Int) = (x % 4294967296) / (2 ^ s : Nat) := by
    rw [UInt32.toNat_shiftRight, hv, Nat.mod_eq_of_lt hs, Nat.shiftRight_eq_div_pow, Int.natCast_ediv]
    have : (((Int32.ofInt x).toUInt32.toNat : Nat) : Int) = x % 4294967296 := toNat_ofInt x
    rw [this]
  have h2 : ((Int32.ofInt x).toUInt32 >>> v).toInt32.toInt = (((Int32.ofInt x).toUInt32 >>> v).toNat : Int).bmod 4294967296 := by
    show BitVec.toInt _ = _
    rw [BitVec.toInt_eq_toNat_bmod]
    rfl
  rw [h2, h1]
  generalize (x % 4294967296) / ((2 ^ s : Nat) : Int) = z
  unfold Int.bmod
  simp only []
  split <;> omega
theorem ushb (x : Int) (j : Nat) (hj : j < 4) (s : Int) (hs : s = 24 - 8 * (j : Int)) : iAnd (iUshr x s) 255 = bt x j := by
  rw [iAnd255]
  have e : j = 0 ∨ j = 1 ∨ j = 2 ∨ j = 3 := by omega
  rcases e with e | e | e | e
  · subst e
    have : s = 24 := by omega
    subst this
    unfold iUshr
    rw [ush_n x 24 _ (by decide) (by decide)]
    show _ = w32 x / 16777216 % 256
    unfold w32; omega
  · subst e
    have : s = 16 := by omega
    subst this
    unfold iUshr
    rw [ush_n x 16 _ (by decide) (by decide)]
    show _ = w32 x / 65536 % 256
    unfold w32; omega
  · subst e
    have : s = 8 := by omega
    subst this
    unfold iUshr
    rw [ush_n x 8 _ (by decide) (by decide)]
    show _ = w32 x / 256 % 256
    unfold w32; omega
  · subst e
    have : s = 0 := by omega
    subst this
    unfold iUshr
    rw [ush_n x 0 _ (by decide) (by decide)]
    show _ = w32 x % 256
    unfold w32; omega
theorem shr_n (x : Int) (s : Nat) (y : Int) (hv : ((Int32.ofInt y &&& 31).toBitVec.smod 32).toNat = s) : iShr x y = w32 x / ((2 ^ s : Nat) : Int) := by
  unfold iShr
  have h1 : (Int32.ofInt x >>> (Int32.ofInt y &&& 31)).toInt = ((Int32.ofInt x).toBitVec.sshiftRight ((Int32.ofInt y &&& 31).toBitVec.smod 32).toNat).toInt := rfl
  rw [h1, hv, BitVec.toInt_sshiftRight, Int.shiftRight_eq_div_pow]
  have h2 : (Int32.ofInt x).toBitVec.toInt = w32 x := w32_toInt x
  rw [h2]
theorem byte_m (z : Int) : iByte z % 256 = z % 256 ∧ -128 ≤ iByte z ∧ iByte z ≤ 127 := by
  unfold iByte
  rw [Int8.toInt_toInt32, Int32.toInt_toInt8, w32_toInt]
  unfold w32 Int.bmod
  simp only []
  refine ⟨?_, ?_, ?_⟩ <;> split <;> omega
theorem shrb (x : Int) (j : Nat) (hj : j < 4) (s : Int) (hs : s = 24 - 8 * (j : Int)) : yNar (iByte (iShr x s)) % 256 = bt x j ∧ -128 ≤ yNar (iByte (iShr x s)) ∧ yNar (iByte (iShr x s)) ≤ 127 := by
  have b := byte_m (iShr x s)
  rw [yNar_id b.2]
  refine ⟨?_, b.2⟩
  rw [b.1]
  have e : j = 0 ∨ j = 1 ∨ j = 2 ∨ j = 3 := by omega
  rcases e with e | e | e | e
  · subst e
    have : s = 24 := by omega
    subst this
    rw [shr_n x 24 24 (by decide)]
    rfl
  · subst e
    have : s = 16 := by omega
    subst this
    rw [shr_n x 16 16 (by decide)]
    rfl
  · subst e
    have : s = 8 := by omega
    subst this
    rw [shr_n x 8 8 (by decide)]
    rfl
  · subst e
    have : s = 0 := by omega
    subst this
    rw [shr_n x 0 0 (by decide)]
    show w32 x / 1 % 256 = w32 x % 256
    omega
theorem bt_r (a : Int) (j : Nat) : 0 ≤ bt a j ∧ bt a j ≤ 255 := by
  match j with
  | 0 => show 0 ≤ w32 a / 16777216 % 256 ∧ w32 a / 16777216 % 256 ≤ 255; omega
  | 1 => show 0 ≤ w32 a / 65536 % 256 ∧ w32 a / 65536 % 256 ≤ 255; omega
  | 2 => show 0 ≤ w32 a / 256 % 256 ∧ w32 a / 256 % 256 ≤ 255; omega
  | j + 3 => show 0 ≤ w32 a % 256 ∧ w32 a % 256 ≤ 255; omega
def tpF (σ σ' : St) (L n : Nat) : Prop := ∀ o k, ¬ (o = 1 ∧ k = 1) → ¬ (o = 2 ∧ L ≤ k ∧ k < L + n) → σ' o k = σ o k
theorem sp_append {σ : St} {Q : St → Prop} {a : Int} {L : Nat} (hL : σ 1 1 = (L : Int)) (hL2 : L + 4 ≤ 1000) (h : ∀ σ', σ' 1 1 = ((L + 4 : Nat) : Int) → (∀ j, j < 4 → σ' 2 (L + j) = bt a j) → tpF σ σ' L 4 → Q σ') : wp_X4_append a Q σ := by
  unfold wp_X4_append
  have loop : ∀ (m j : Nat) (σx : St), 4 - j = m → j ≤ 4 → σx 1 1 = ((L + j : Nat) : Int) → (∀ i, i < j → σx 2 (L + i) = bt a i) → tpF σ σx L 4 → wp_X4_append_L3 Q (m + 1) a (24 - 8 * (j : Int)) σx := by
    intro m
    induction m with
    | zero =>
      intro j σx h1 h2 h3 h4 h5
      have e : j = 4 := by omega
      subst e
      have q := h σx h3 h4 h5
      unfold wp_X4_append_L3
      exact ⟨fun _ => q, fun z => absurd (by decide) z⟩
    | succ m ih =>
      intro j σx h1 h2 h3 h4 h5
      have e0 : w32 (24 - 8 * (j : Int)) = 24 - 8 * (j : Int) := w32_id (by omega) (by omega)
      have e1 : w32 (σx 1 1) = ((L + j : Nat) : Int) := by rw [h3]; exact w32_id (by omega) (by omega)
      have e2 : (((L + j : Nat) : Int)).toNat = L + j := Int.toNat_natCast _
      have n0 : ¬ (24 - 8 * (j : Int)) < 0 := by omega
      have n1 : ¬ (1000 : Int) ≤ ((L + j : Nat) : Int) := by omega
      have n2 : 0 ≤ ((L + j : Nat) : Int) ∧ ((L + j : Nat) : Int) < 1000 := by omega
      have st : ∀ σ2 : St, σ2 = su (su σx 2 (L + j) (bt a j)) 1 1 ((su σx 2 (L + j) (bt a j)) 1 1 + 1) → wp_X4_append_L3 Q (m + 1) a (24 - 8 * ((j + 1 : Nat) : Int)) σ2 := by
        intro σ2 es
        refine ih (j + 1) σ2 (by omega) (by omega) ?_ (fun i hi => ?_) (fun o k q1 q2 => ?_)
        · rw [es, su_at, su_ko _ _ (fun z => absurd z.1 (by decide)), h3]; omega
        · rw [es, su_ko _ _ (fun z => absurd z.1 (by decide))]
          by_cases e : i = j
          · subst e; rw [su_at]
          · rw [su_ko _ _ (fun z => e (by omega))]; exact h4 i (by omega)
        · rw [es, su_ko _ _ q1, su_ko _ _ (fun z => q2 (by omega))]; exact h5 o k q1 q2
      unfold wp_X4_append_L3
      rw [e0, e1, e2, ushb a j (by omega) _ rfl]
      refine ⟨fun z => absurd z n0, fun _ => ⟨fun z => absurd z n1, fun _ => ⟨n2, fun σ1 es1 σ2 es2 x_3 ex => ?_⟩⟩⟩
      rw [ex, show 24 - 8 * (j : Int) + -8 = 24 - 8 * ((j + 1 : Nat) : Int) by omega]
      rw [es1] at es2
      exact st σ2 es2
  have := loop 4 0 σ rfl (by omega) hL (fun i hi => absurd hi (Nat.not_lt_zero i)) (fun _ _ _ _ => rfl)
  exact ⟨5, this⟩
/-- which word a byte comes from -/
def w5 (a1 a2 a3 a4 a5 : Int) (j : Nat) : Int := if j < 4 then a1 else if j < 8 then a2 else if j < 12 then a3 else if j < 16 then a4 else a5
theorem rem4 {j : Nat} (h : j < 20) : iRem (j : Int) 4 = ((j % 4 : Nat) : Int) := by
  have : ∀ j : Nat, j < 20 → iRem (j : Int) 4 = ((j % 4 : Nat) : Int) := by decide +kernel
  exact this j h
def mtF (τ τ' : St) (L : Nat) : Prop := ∀ o k, ¬ (o = 0 ∧ k = 2) → ¬ (o = 1 ∧ L ≤ k ∧ k < L + 20) → τ' o k = τ o k
theorem sp_mfeed {τ : St} {Q : Int → St → Prop} {a1 a2 a3 a4 a5 : Int} {L : Nat} (hL : τ 0 2 = (L : Int)) (hL2 : L + 20 ≤ 1000) (h : ∀ τ', τ' 0 2 = ((L + 20 : Nat) : Int) → (∀ j, j < 20 → τ' 1 (L + j) % 256 = bt (w5 a1 a2 a3 a4 a5 j) (j % 4) ∧ -128 ≤ τ' 1 (L + j) ∧ τ' 1 (L + j) ≤ 127) → mtF τ τ' L → Q (τ' 0 2) τ') : ∃ nn, wp_X9_feed_L34 Q nn a1 a2 a3 a4 a5 0 τ := by
  have loop : ∀ (m j : Nat) (τx : St), 20 - j = m → j ≤ 20 → τx 0 2 = ((L + j : Nat) : Int) → (∀ i, i < j → τx 1 (L + i) % 256 = bt (w5 a1 a2 a3 a4 a5 i) (i % 4) ∧ -128 ≤ τx 1 (L + i) ∧ τx 1 (L + i) ≤ 127) → mtF τ τx L → wp_X9_feed_L34 Q (m + 1) a1 a2 a3 a4 a5 (j : Int) τx := by
    intro m
    induction m with
    | zero =>
      intro j τx h1 h2 h3 h4 h5
      have e : j = 20 := by omega
      subst e
      have q := h τx h3 h4 h5
      unfold wp_X9_feed_L34
      exact ⟨fun _ => q, fun z => absurd (by decide) z⟩
    | succ m ih =>
      intro j τx h1 h2 h3 h4 h5
      have j20 : j < 20 := by omega
      have e0 : w32 (j : Int) = (j : Int) := w32_id (by omega) (by omega)
      have e1 : w32 (τx 0 2) = ((L + j : Nat) : Int) := by rw [h3]; exact w32_id (by omega) (by omega)
      have e2 : (((L + j : Nat) : Int)).toNat = L + j := Int.toNat_natCast _
      have n2 : 0 ≤ ((L + j : Nat) : Int) ∧ ((L + j : Nat) : Int) < 1000 := by omega
      have st : ∀ (y : Int), y = w5 a1 a2 a3 a4 a5 j → wp_X9_feed_B87 (fun z0 z1 z2 z3 z4 z5 σ => wp_X9_feed_L34 Q (m + 1) z0 z1 z2 z3 z4 z5 σ) a1 a2 a3 a4 a5 (j : Int) y Q τx := by
        intro y ey
        unfold wp_X9_feed_B87
        rw [e1, e2, rem4 j20]
        refine ⟨n2, fun τ1 et1 τ2 et2 x_3 ex => ?_⟩
        have sb := shrb y (j % 4) (by omega) (24 - 8 * ((j % 4 : Nat) : Int)) rfl
        rw [ex, show (j : Int) + 1 = ((j + 1 : Nat) : Int) by omega]
        refine ih (j + 1) τ2 (by omega) (by omega) ?_ (fun i hi => ?_) (fun o k q1 q2 => ?_)
        · rw [et2, su_at, et1, su_ko _ _ (fun z => absurd z.1 (by decide)), h3]; omega
        · rw [et2, su_ko _ _ (fun z => absurd z.1 (by decide)), et1]
          by_cases e : i = j
          · subst e; rw [su_at, ← ey]; exact sb
          · rw [su_ko _ _ (fun z => e (by omega))]; exact h4 i (by omega)
        · rw [et2, su_ko _ _ q1, et1, su_ko _ _ (fun z => q2 (by omega))]; exact h5 o k q1 q2
      unfold wp_X9_feed_L34
      rw [e0]
      refine ⟨fun z => absurd z (by omega), fun _ => ⟨fun c1 => ⟨fun c2 => ⟨fun c3 => ⟨fun c4 => ?_, fun c4 => ?_⟩, fun c3 => ?_⟩, fun c2 => ?_⟩, fun c1 => ?_⟩⟩
      · exact st a5 (by unfold w5; rw [if_neg (by omega), if_neg (by omega), if_neg (by omega), if_neg (by omega)])
      · exact st a4 (by unfold w5; rw [if_neg (by omega), if_neg (by omega), if_neg (by omega), if_pos (by omega)])
      · exact st a3 (by unfold w5; rw [if_neg (by omega), if_neg (by omega), if_pos (by omega)])
      · exact st a2 (by unfold w5; rw [if_neg (by omega), if_pos (by omega)])
      · exact st a1 (by unfold w5; rw [if_pos (by omega)])
  exact ⟨21, loop 20 0 τ rfl (by omega) hL (fun i hi => absurd hi (Nat.not_lt_zero i)) (fun _ _ _ _ => rfl)⟩
