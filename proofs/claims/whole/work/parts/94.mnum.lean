/-! pure: the reference numbers its spans -/
def rk (i j k l : Nat) : Nat := 494 - ((8 - l) + s2 (8 - k) + s3 (8 - j) + s4 (8 - i))
def rkF (i : Nat) (j k : Int) (l : Nat) : Nat := if j = -1 then rk i i i l else rk i j.toNat k.toNat l
def mm (i j k l : Nat) : Int := 494 - (8 - (l : Int)) - (s2 (8 - k) : Int) - (s3 (8 - j) : Int) - (s4 (8 - i) : Int)
theorem mm_k : ∀ k, k < 9 → (s2 (8 - k) : Int) = (s2 (8 - (k + 1)) : Int) + 8 - (k : Int) := by decide
theorem mm_j : ∀ j, j < 9 → (s3 (8 - j) : Int) = (s3 (8 - (j + 1)) : Int) + (s2 (8 - (j + 1)) : Int) + 8 - (j : Int) := by decide
theorem mm_i : ∀ i, i < 9 → (s4 (8 - i) : Int) = (s4 (8 - (i + 1)) : Int) + (s3 (8 - (i + 1)) : Int) + (s2 (8 - (i + 1)) : Int) + 8 - (i : Int) := by decide
theorem rk_lt {i j k l : Nat} (h1 : i ≤ j) (h2 : j ≤ k) (h3 : k ≤ l) (h4 : l ≤ 8) : (rk i j k l : Int) = mm i j k l ∧ rk i j k l < 495 ∧ rk i j k l + ((8 - l) + s2 (8 - k) + s3 (8 - j) + s4 (8 - i)) = 494 := by
  have q := q_lt (i := 8 - l) (j := 8 - k) (k := 8 - j) (l := 8 - i) (by omega) (by omega) (by omega) (by omega)
  have e := s_m 9 (by omega) (8 - i + 1) (by omega)
  have e9 : s4 9 = 495 := by decide
  unfold rk mm
  omega
theorem rk_inj {i j k l i' j' k' l' : Nat} (h1 : i ≤ j) (h2 : j ≤ k) (h3 : k ≤ l) (h4 : l ≤ 8) (g1 : i' ≤ j') (g2 : j' ≤ k') (g3 : k' ≤ l') (g4 : l' ≤ 8) (h : rk i j k l = rk i' j' k' l') : i = i' ∧ j = j' ∧ k = k' ∧ l = l' := by
  have a := (rk_lt h1 h2 h3 h4).2.2
  have b := (rk_lt g1 g2 g3 g4).2.2
  have := q_inj (i := 8 - l) (j := 8 - k) (k := 8 - j) (l := 8 - i) (i' := 8 - l') (j' := 8 - k') (k' := 8 - j') (l' := 8 - i') (by omega) (by omega) (by omega) (by omega) (by omega) (by omega) (by omega) (by omega) (by omega)
  omega
theorem rkF_lt {g : Int} {i l n : Nat} {j k : Int} (hv : Vs g i j k l n) (hn : n ≤ 8) : rkF i j k l < 495 := by
  obtain ⟨v1, v2, v3⟩ := hv
  unfold rkF
  rcases v3 with z | z
  · rw [if_pos z.2.1]; exact (rk_lt (Nat.le_refl i) (Nat.le_refl i) v1 (by omega)).2.1
  · rw [if_neg (by omega)]; exact (rk_lt (by omega) (by omega) (by omega) (by omega)).2.1
theorem rkF_inj {g : Int} {i l n i' l' n' : Nat} {j k j' k' : Int} (hv : Vs g i j k l n) (hn : n ≤ 8) (hv' : Vs g i' j' k' l' n') (hn' : n' ≤ 8) (h : rkF i j k l = rkF i' j' k' l') : i = i' ∧ j = j' ∧ k = k' ∧ l = l' := by
  obtain ⟨v1, v2, v3⟩ := hv
  obtain ⟨w1, w2, w3⟩ := hv'
  unfold rkF at h
  rcases v3 with z | z
  · rcases w3 with w | w
    · rw [if_pos z.2.1, if_pos w.2.1] at h
      have := rk_inj (Nat.le_refl i) (Nat.le_refl i) v1 (by omega) (Nat.le_refl i') (Nat.le_refl i') w1 (by omega) h
      omega
    · omega
  · rcases w3 with w | w
    · omega
    · rw [if_neg (by omega), if_neg (by omega)] at h
      have := rk_inj (by omega) (by omega) (by omega) (by omega) (by omega) (by omega) (by omega) (by omega) h
      omega
/-- the spans are numbered -/
def NS (τ : St) : Prop := ∀ i j k l : Nat, i ≤ j → j ≤ k → k ≤ l → l ≤ 8 → τ 20 (729 * i + 81 * j + 9 * k + l) = (rk i j k l : Int)
def Bq (i' j' k' l' i j k l : Nat) : Prop := i' < i ∨ (i' = i ∧ (j' < j ∨ (j' = j ∧ (k' < k ∨ (k' = k ∧ l' < l)))))
def Nb (τ0 τ : St) (i j k l : Nat) : Prop := (∀ a, a ≠ 20 → τ a = τ0 a) ∧ ∀ i' j' k' l' : Nat, i' ≤ j' → j' ≤ k' → k' ≤ l' → l' ≤ 8 → Bq i' j' k' l' i j k l → τ 20 (729 * i' + 81 * j' + 9 * k' + l') = (rk i' j' k' l' : Int)
theorem Nb_to {τ0 τ : St} {i j k l i2 j2 k2 l2 : Nat} (h : Nb τ0 τ i j k l) (hb : ∀ i' j' k' l' : Nat, i' ≤ j' → j' ≤ k' → k' ≤ l' → l' ≤ 8 → Bq i' j' k' l' i2 j2 k2 l2 → Bq i' j' k' l' i j k l) : Nb τ0 τ i2 j2 k2 l2 := ⟨h.1, fun i' j' k' l' a b c d e => h.2 i' j' k' l' a b c d (hb i' j' k' l' a b c d e)⟩
theorem sp_number {Q : St → Prop} {τ : St} (h : ∀ τ', (∀ a, a ≠ 20 → τ' a = τ a) → NS τ' → Q τ') : wp_X9_number Q τ := by
  have L32 : ∀ (K4 : Int → Int → St → Prop) (K12 : Int → Int → Int → St → Prop) (K21 : Int → Int → Int → Int → St → Prop) (i j k : Nat), i ≤ j → j ≤ k → k ≤ 8 → (∀ τ', Nb τ τ' i j (k + 1) (k + 1) → K21 (mm i j (k + 1) (k + 1)) (i : Int) (j : Int) ((k + 1 : Nat) : Int) τ') →
      ∀ (m l : Nat) (τ' : St), 9 - l = m → k ≤ l → l ≤ 9 → Nb τ τ' i j k l → wp_X9_number_L32 K4 K12 K21 Q (m + 1) (mm i j k l) (i : Int) (j : Int) (k : Int) (l : Int) τ' := by
    intro K4 K12 K21 i j k h1 h2 h3 hK m
    induction m with
    | zero =>
      intro l τ' e1 e2 e3 hN
      unfold wp_X9_number_L32
      rw [w32_id (show -2147483648 ≤ (l : Int) by omega) (by omega)]
      refine ⟨fun _ x_1 ex => ?_, fun z => by omega⟩
      have el : l = 9 := by omega
      subst el
      rw [ex, show (k : Int) + 1 = ((k + 1 : Nat) : Int) by omega, show mm i j k 9 = mm i j (k + 1) (k + 1) by have := mm_k k (by omega); unfold mm; omega]
      exact hK τ' (Nb_to hN (fun i' j' k' l' a b c d e => by unfold Bq at *; omega))
    | succ m ih =>
      intro l τ' e1 e2 e3 hN
      unfold wp_X9_number_L32 wp_X9_key
      rw [w32_id (show -2147483648 ≤ (l : Int) by omega) (by omega)]
      refine ⟨fun z => by omega, fun _ => ?_⟩
      have ek : 729 * (i : Int) + 81 * (j : Int) + 9 * (k : Int) + (l : Int) = ((729 * i + 81 * j + 9 * k + l : Nat) : Int) := by omega
      have wk : w32 ((729 * i + 81 * j + 9 * k + l : Nat) : Int) = ((729 * i + 81 * j + 9 * k + l : Nat) : Int) := w32_id (by omega) (by omega)
      rw [ek]
      refine ⟨by rw [wk]; omega, fun σ4 e4 x_5 e5 x_6 e6 => ?_⟩
      have rl := (rk_lt h1 h2 e2 (show l ≤ 8 by omega)).1
      rw [e5, e6, show (l : Int) + 1 = ((l + 1 : Nat) : Int) by omega, show mm i j k l + 1 = mm i j k (l + 1) by unfold mm; omega]
      refine ih (l + 1) σ4 (by omega) (by omega) (by omega) ⟨fun a ha => by rw [e4, su_o _ _ _ ha]; exact hN.1 a ha, fun i' j' k' l' a b c d e => ?_⟩
      rw [wk, show (((729 * i + 81 * j + 9 * k + l : Nat) : Int)).toNat = 729 * i + 81 * j + 9 * k + l by omega] at e4
      rw [e4]
      by_cases q : i' = i ∧ j' = j ∧ k' = k ∧ l' = l
      · obtain ⟨rfl, rfl, rfl, rfl⟩ := q
        rw [su_at, rl]
      · rw [su_ko _ _ (by omega)]
        exact hN.2 i' j' k' l' a b c d (by unfold Bq at *; omega)
  have L21 : ∀ (K4 : Int → Int → St → Prop) (K12 : Int → Int → Int → St → Prop) (i j : Nat), i ≤ j → j ≤ 8 → (∀ τ', Nb τ τ' i (j + 1) (j + 1) (j + 1) → K12 (mm i (j + 1) (j + 1) (j + 1)) (i : Int) ((j + 1 : Nat) : Int) τ') →
      ∀ (m k : Nat) (τ' : St), 9 - k = m → j ≤ k → k ≤ 9 → Nb τ τ' i j k k → wp_X9_number_L21 K4 K12 Q (m + 1) (mm i j k k) (i : Int) (j : Int) (k : Int) τ' := by
    intro K4 K12 i j h1 h2 hK m
    induction m with
    | zero =>
      intro k τ' e1 e2 e3 hN
      unfold wp_X9_number_L21
      rw [w32_id (show -2147483648 ≤ (k : Int) by omega) (by omega)]
      refine ⟨fun _ x_1 ex => ?_, fun z => by omega⟩
      have el : k = 9 := by omega
      subst el
      have em : mm i j 9 9 = mm i (j + 1) (j + 1) (j + 1) := by
        have := mm_j j (by omega)
        have e0 : s2 (8 - 9) = 0 := by decide
        unfold mm; omega
      rw [ex, show (j : Int) + 1 = ((j + 1 : Nat) : Int) by omega, em]
      exact hK τ' (Nb_to hN (fun i' j' k' l' a b c d e => by unfold Bq at *; omega))
    | succ m ih =>
      intro k τ' e1 e2 e3 hN
      unfold wp_X9_number_L21
      rw [w32_id (show -2147483648 ≤ (k : Int) by omega) (by omega)]
      refine ⟨fun z => by omega, fun _ => ⟨_, L32 K4 K12 _ i j k h1 e2 (by omega) (fun τ'' hN' => ih (k + 1) τ'' (by omega) (by omega) (by omega) hN') _ k τ' rfl (Nat.le_refl k) (by omega) hN⟩⟩
  have L12 : ∀ (K4 : Int → Int → St → Prop) (i : Nat), i ≤ 8 → (∀ τ', Nb τ τ' (i + 1) (i + 1) (i + 1) (i + 1) → K4 (mm (i + 1) (i + 1) (i + 1) (i + 1)) ((i + 1 : Nat) : Int) τ') →
      ∀ (m j : Nat) (τ' : St), 9 - j = m → i ≤ j → j ≤ 9 → Nb τ τ' i j j j → wp_X9_number_L12 K4 Q (m + 1) (mm i j j j) (i : Int) (j : Int) τ' := by
    intro K4 i h2 hK m
    induction m with
    | zero =>
      intro j τ' e1 e2 e3 hN
      unfold wp_X9_number_L12
      rw [w32_id (show -2147483648 ≤ (j : Int) by omega) (by omega)]
      refine ⟨fun _ x_1 ex => ?_, fun z => by omega⟩
      have el : j = 9 := by omega
      subst el
      have em : mm i 9 9 9 = mm (i + 1) (i + 1) (i + 1) (i + 1) := by
        have := mm_i i (by omega)
        have e0 : s2 (8 - 9) = 0 := by decide
        have e1 : s3 (8 - 9) = 0 := by decide
        unfold mm; omega
      rw [ex, show (i : Int) + 1 = ((i + 1 : Nat) : Int) by omega, em]
      exact hK τ' (Nb_to hN (fun i' j' k' l' a b c d e => by unfold Bq at *; omega))
    | succ m ih =>
      intro j τ' e1 e2 e3 hN
      unfold wp_X9_number_L12
      rw [w32_id (show -2147483648 ≤ (j : Int) by omega) (by omega)]
      refine ⟨fun z => by omega, fun _ => ⟨_, L21 K4 _ i j e2 (by omega) (fun τ'' hN' => ih (j + 1) τ'' (by omega) (by omega) (by omega) hN') _ j τ' rfl (Nat.le_refl j) (by omega) hN⟩⟩
  have L4 : ∀ (m i : Nat) (τ' : St), 9 - i = m → i ≤ 9 → Nb τ τ' i i i i → wp_X9_number_L4 Q (m + 1) (mm i i i i) (i : Int) τ' := by
    intro m
    induction m with
    | zero =>
      intro i τ' e1 e3 hN
      unfold wp_X9_number_L4
      rw [w32_id (show -2147483648 ≤ (i : Int) by omega) (by omega)]
      refine ⟨fun _ => h τ' hN.1 (fun i' j' k' l' a b c d => hN.2 i' j' k' l' a b c d (by unfold Bq; omega)), fun z => by omega⟩
    | succ m ih =>
      intro i τ' e1 e3 hN
      unfold wp_X9_number_L4
      rw [w32_id (show -2147483648 ≤ (i : Int) by omega) (by omega)]
      refine ⟨fun z => by omega, fun _ => ⟨_, L12 _ i (by omega) (fun τ'' hN' => ih (i + 1) τ'' (by omega) (by omega) hN') _ i τ' rfl (Nat.le_refl i) (by omega) hN⟩⟩
  have e0 : mm 0 0 0 0 = 0 := by decide
  unfold wp_X9_number
  have := L4 9 0 τ rfl (by omega) ⟨fun _ _ => rfl, fun i' j' k' l' a b c d e => by unfold Bq at e; omega⟩
  rw [e0] at this
  exact ⟨_, this⟩
/-- the reference's tables -/
def mT (τ : St) : Tb := fun o r i j k l => τ (if o then 22 else 21) (495 * r + rkF i j k l)
def MB (τ : St) : Prop := ∀ k, (0 ≤ τ 21 k ∧ τ 21 k ≤ 1000000000) ∧ (0 ≤ τ 22 k ∧ τ 22 k ≤ 1000000000)
theorem MB_T {τ : St} (h : MB τ) (o r i j k l) : 0 ≤ mT τ o r i j k l ∧ mT τ o r i j k l ≤ 1000000000 := by
  unfold mT
  cases o with
  | true => exact (h _).2
  | false => exact (h _).1
theorem sp_least {x : Int} {Q : Int → St → Prop} {σ : St} (hx : 0 ≤ x ∧ x < 9223372036854775808) (h : Q (cap x) σ) : wp_X9_least x Q σ := by
  unfold wp_X9_least
  have a := lCmp_le (x := x) (y := 1000000000) (by omega) (by omega)
  unfold cap at h
  refine ⟨fun q => ?_, fun q => ?_⟩
  · rw [if_neg (by have := a.mp q; omega)] at h; exact h
  · rw [if_pos (by have := fun z => q (a.mpr z); omega)] at h; exact h
theorem mrow_ix {r a : Nat} (hr : r < 192) (ha : a < 495) : (0 ≤ w32 (495 * (r : Int) + (a : Int)) ∧ w32 (495 * (r : Int) + (a : Int)) < 95040) ∧ (w32 (495 * (r : Int) + (a : Int))).toNat = 495 * r + a := by
  rw [w32_id (by omega) (by omega)]; omega
theorem NS_at {τ : St} {g : Int} {i l n : Nat} {j k : Int} (hS : NS τ) (hv : Vs g i j k l n) (hn : n ≤ 8) : (j = -1 → τ 20 (729 * i + 81 * i + 9 * i + l) = ((rkF i j k l : Nat) : Int)) ∧ (j ≠ -1 → τ 20 (729 * i + 81 * j.toNat + 9 * k.toNat + l) = ((rkF i j k l : Nat) : Int)) := by
  obtain ⟨v1, v2, v3⟩ := hv
  unfold rkF
  refine ⟨fun q => ?_, fun q => ?_⟩
  · rw [if_pos q]; exact hS i i i l (Nat.le_refl i) (Nat.le_refl i) v1 (by omega)
  · rw [if_neg q]
    rcases v3 with z | z
    · exact absurd z.2.1 q
    · exact hS i j.toNat k.toNat l (by omega) (by omega) (by omega) (by omega)
theorem sp_keyed {τ : St} {P : Int → Int → Prop} {g : Int} {r i l n : Nat} {j k k' a1 a2 a5 : Int} (hS : NS τ) (hv : Vs g i j k l n) (hn : n ≤ 8) (hr : r < 192) (h1 : a1 = (r : Int)) (h2 : a2 = (i : Int)) (h5 : a5 = (l : Int)) (hk : j ≠ -1 → k' = k)
    (h : ∀ y3 : Int, (0 ≤ w32 y3 ∧ w32 y3 < 6561) → τ 20 (w32 y3).toNat = ((rkF i j k l : Nat) : Int) → P (495 * a1) y3) : (¬ w32 j = -1 → P (495 * a1) (729 * a2 + 81 * j + 9 * k' + a5)) ∧ (w32 j = -1 → P (495 * a1) (729 * a2 + 81 * a2 + 9 * a2 + a5)) := by
  have nn := NS_at hS hv hn
  obtain ⟨v1, v2, v3⟩ := hv
  have wj : w32 j = j := by rcases v3 with z | z; exact w32_id (by omega) (by omega); exact w32_id (by omega) (by omega)
  rw [wj, h2, h5]
  refine ⟨fun q => ?_, fun q => ?_⟩
  · rcases v3 with z | z
    · exact absurd z.2.1 q
    · rw [hk q]
      have e : 729 * (i : Int) + 81 * j + 9 * k + (l : Int) = ((729 * i + 81 * j.toNat + 9 * k.toNat + l : Nat) : Int) := by omega
      rw [e]
      refine h _ (by rw [w32_id (by omega) (by omega)]; omega) ?_
      rw [w32_id (by omega) (by omega), show (((729 * i + 81 * j.toNat + 9 * k.toNat + l : Nat) : Int)).toNat = 729 * i + 81 * j.toNat + 9 * k.toNat + l by omega]
      exact nn.2 q
  · have e : 729 * (i : Int) + 81 * (i : Int) + 9 * (i : Int) + (l : Int) = ((729 * i + 81 * i + 9 * i + l : Nat) : Int) := by omega
    rw [e]
    refine h _ (by rw [w32_id (by omega) (by omega)]; omega) ?_
    rw [w32_id (by omega) (by omega), show (((729 * i + 81 * i + 9 * i + l : Nat) : Int)).toNat = 729 * i + 81 * i + 9 * i + l by omega]
    exact nn.1 q
theorem sp_lie {τ : St} {Q : Int → St → Prop} {g : Int} {r i l n : Nat} {j k k' a1 a2 a5 : Int} (hS : NS τ) (hv : Vs g i j k l n) (hn : n ≤ 8) (hr : r < 192) (h1 : a1 = (r : Int)) (h2 : a2 = (i : Int)) (h5 : a5 = (l : Int)) (hk : j ≠ -1 → k' = k) (h : Q (mT τ false r i j k l) τ) : wp_X9_lie a1 a2 j k' a5 Q τ := by
  unfold wp_X9_lie wp_X9_key
  refine sp_keyed (P := fun y1 y3 => wp_X9_lie_B38 y1 y3 Q τ) hS hv hn hr h1 h2 h5 hk (fun y3 b e => ?_)
  have ix := mrow_ix hr (rkF_lt hv hn)
  show wp_X9_lie_B38 _ _ _ _
  unfold wp_X9_lie_B38
  rw [e, h1]
  refine ⟨b, ix.1, ?_⟩
  rw [ix.2]
  exact h
theorem sp_run {τ : St} {Q : Int → St → Prop} {g : Int} {r i l n : Nat} {j k k' a1 a2 a5 : Int} (hS : NS τ) (hv : Vs g i j k l n) (hn : n ≤ 8) (hr : r < 192) (h1 : a1 = (r : Int)) (h2 : a2 = (i : Int)) (h5 : a5 = (l : Int)) (hk : j ≠ -1 → k' = k) (h : Q (mT τ true r i j k l) τ) : wp_X9_run a1 a2 j k' a5 Q τ := by
  unfold wp_X9_run wp_X9_key
  refine sp_keyed (P := fun y1 y3 => wp_X9_run_B38 y1 y3 Q τ) hS hv hn hr h1 h2 h5 hk (fun y3 b e => ?_)
  have ix := mrow_ix hr (rkF_lt hv hn)
  show wp_X9_run_B38 _ _ _ _
  unfold wp_X9_run_B38
  rw [e, h1]
  refine ⟨b, ix.1, ?_⟩
  rw [ix.2]
  exact h
