/-! pure: the reference reads -/
def sameW (τ : St) (i nm : Nat) : Prop := τ 19 i = τ 5 nm ∧ ∀ k : Nat, (k : Int) < τ 19 i → τ 18 (12 * i + k) = τ 4 (12 * nm + k)
theorem sp_isWord {τ : St} {Q : Int → St → Prop} {r i n nm : Nat} (hn : n ≤ 8) (hi : i < n) (hr : r < 192) (h26 : τ 0 26 = (n : Int)) (h7 : τ 7 r = (nm : Int)) (hnm : nm < 32) (h19 : 0 ≤ τ 19 i ∧ τ 19 i ≤ 12) (h5 : 0 ≤ τ 5 nm ∧ τ 5 nm ≤ 12) (h18 : ∀ k : Nat, (k : Int) < τ 19 i → -128 ≤ τ 18 (12 * i + k) ∧ τ 18 (12 * i + k) ≤ 255) (h4 : ∀ k, -128 ≤ τ 4 k ∧ τ 4 k ≤ 255) (h : Q (bI (sameW τ i nm)) τ) : wp_X9_isWord (r : Int) (i : Int) Q τ := by
  unfold wp_X9_isWord
  rw [h26, w32_id (show -2147483648 ≤ (n : Int) by omega) (by omega), w32_id (show -2147483648 ≤ (i : Int) by omega) (by omega), w32_id (show -2147483648 ≤ (r : Int) by omega) (by omega), show ((i : Int)).toNat = i by omega, show ((r : Int)).toNat = r by omega, h7, w32_id (show -2147483648 ≤ (nm : Int) by omega) (by omega), show ((nm : Int)).toNat = nm by omega, w32_id (show -2147483648 ≤ τ 19 i by omega) (by omega), w32_id (show -2147483648 ≤ τ 5 nm by omega) (by omega)]
  refine ⟨fun z => by omega, fun _ => ⟨by omega, by omega, by omega, fun q => ?_, fun q => ?_⟩⟩
  · have loop : ∀ (m k : Nat), (τ 19 i).toNat - k = m → k ≤ (τ 19 i).toNat → (∀ k' : Nat, k' < k → τ 18 (12 * i + k') = τ 4 (12 * nm + k')) → wp_X9_isWord_L32 Q (m + 1) (r : Int) (i : Int) (k : Int) τ := by
      intro m
      induction m with
      | zero =>
        intro k e1 e2 hp
        unfold wp_X9_isWord_L32
        rw [w32_id (show -2147483648 ≤ (i : Int) by omega) (by omega), show ((i : Int)).toNat = i by omega, w32_id (show -2147483648 ≤ τ 19 i by omega) (by omega), w32_id (show -2147483648 ≤ (k : Int) by omega) (by omega)]
        refine ⟨by omega, fun _ => ?_, fun z => by omega⟩
        rw [bI_t (show sameW τ i nm from ⟨q, fun k' hk' => hp k' (by omega)⟩)] at h
        exact h
      | succ m ih =>
        intro k e1 e2 hp
        unfold wp_X9_isWord_L32
        have b18 := h18 k (by omega)
        have b4 := h4 (12 * nm + k)
        rw [w32_id (show -2147483648 ≤ (i : Int) by omega) (by omega), show ((i : Int)).toNat = i by omega, w32_id (show -2147483648 ≤ τ 19 i by omega) (by omega), w32_id (show -2147483648 ≤ (k : Int) by omega) (by omega), w32_id (show -2147483648 ≤ (r : Int) by omega) (by omega), show ((r : Int)).toNat = r by omega, h7, show (12 * (i : Int) + (k : Int)) = ((12 * i + k : Nat) : Int) by omega, show (12 * (nm : Int) + (k : Int)) = ((12 * nm + k : Nat) : Int) by omega, w32_id (show -2147483648 ≤ ((12 * i + k : Nat) : Int) by omega) (by omega), w32_id (show -2147483648 ≤ ((12 * nm + k : Nat) : Int) by omega) (by omega), show (((12 * i + k : Nat) : Int)).toNat = 12 * i + k by omega, show (((12 * nm + k : Nat) : Int)).toNat = 12 * nm + k by omega, w32_id (show -2147483648 ≤ τ 18 (12 * i + k) by omega) (by omega), w32_id (show -2147483648 ≤ τ 4 (12 * nm + k) by omega) (by omega)]
        refine ⟨by omega, fun z => by omega, fun _ => ⟨by omega, by omega, by omega, fun z x_1 ex => ?_, fun z => ?_⟩⟩
        · rw [ex, show (k : Int) + 1 = ((k + 1 : Nat) : Int) by omega]
          refine ih (k + 1) (by omega) (by omega) (fun k' hk' => ?_)
          by_cases e : k' = k
          · rw [e]; exact z
          · exact hp k' (by omega)
        · rw [bI_f (fun w : sameW τ i nm => z (w.2 k (by omega)))] at h
          exact h
    exact ⟨_, loop _ 0 rfl (by omega) (fun k' hk' => by omega)⟩
  · rw [bI_f (fun w : sameW τ i nm => q w.1)] at h
    exact h
theorem sp_isGoal {c : Nat → Nat → Int} {τ : St} {Q : Int → St → Prop} {t : Nat} {goal a1 : Int} (ht : t < 16) (h7 : τ 7 (12 * t) = c (12 * t) 1) (h13 : τ 13 (12 * t) = c (12 * t) 6) (h37 : τ 0 37 = goal) (h6 : c (12 * t) 6 = 0 ∨ c (12 * t) 6 = 1) (n1 : 0 ≤ c (12 * t) 1 ∧ c (12 * t) 1 < 32) (n2 : -1 ≤ goal ∧ goal < 32) (h1 : a1 = (t : Int)) (h : Q (if c (12 * t) 1 = goal ∧ c (12 * t) 6 = 0 then 1 else 0) τ) : wp_X9_isGoal a1 Q τ := by
  unfold wp_X9_isGoal
  rw [h1, w32_id (show -2147483648 ≤ (12 * (t : Int)) by omega) (by omega), show (12 * (t : Int)).toNat = 12 * t by omega, h7, h13, h37, w32_id (show -2147483648 ≤ c (12 * t) 1 by omega) (by omega), w32_id (show -2147483648 ≤ goal by omega) (by omega), w32_id (show -2147483648 ≤ c (12 * t) 6 by omega) (by omega)]
  refine ⟨by omega, fun q => ?_, fun q => ⟨by omega, fun q' => ?_, fun q' => ?_⟩⟩
  · rw [if_neg (fun z => q z.1)] at h; exact h
  · rw [if_neg (fun z => q' z.2)] at h; exact h
  · rw [if_pos ⟨q, q'⟩] at h; exact h
/-- the reference's chart is right -/
def RDm (c : Nat → Nat → Int) (N : Nat) (sz : Nat → Nat) (sd : Nat → Int) (n : Nat) (τ : St) : Prop := ∀ (o : Bool) (t x i l : Nat) (j k : Int), t < N → x < sz t → Vs (flg c o (12 * t + x)) i j k l n → mT τ o (12 * t + x) i j k l = VV c N sd o (12 * t + x) i j k l
theorem sp_mchart {τ : St} {Q : Int → St → Prop} {c : Nat → Nat → Int} {N n : Nat} {sz : Nat → Nat} {hw wo : Nat → Prop} {sd : Nat → Int} {goal : Int} (hn : n ≤ 8) (hN : N ≤ 16) (h26 : τ 0 26 = (n : Int)) (hM : MC c N sz hw wo τ) (hF : CF c N sz hw wo) (h4 : ∀ t x, t < N → x < sz t → 0 ≤ c (12 * t + x) 4 ∧ c (12 * t + x) 4 ≤ 2) (hB : MB τ) (h37 : τ 0 37 = goal) (hgo : -1 ≤ goal ∧ goal < 32)
    (hW : ∀ τ' : St, (∀ a, a ≠ 20 → a ≠ 21 → a ≠ 22 → τ' a = τ a) → WW c N sz sd n τ')
    (h : ∀ τ' : St, (∀ a, a ≠ 0 → a ≠ 20 → a ≠ 21 → a ≠ 22 → τ' a = τ a) → (∀ b, b ≠ 35 → b ≠ 36 → τ' 0 b = τ 0 b) → τ' 0 35 = 1 → τ' 0 36 = cap (ini c N (VV c N sd) goal 0 n) → MB τ' → NS τ' → RDm c N sz sd n τ' → Q (τ' 0 36) τ') : wp_X9_number (fun σ2 => ∃ nn, wp_X9_read_L100 Q nn 0 σ2) τ := by
  refine sp_number (fun τ1 f1 hS1 => ?_)
  have hB1 : MB τ1 := by unfold MB; rw [f1 21 (by decide), f1 22 (by decide)]; exact hB
  -- zeros
  have zero : ∀ (P : St → Prop), (∀ τ', MF τ1 τ' → P τ') → (∀ τ', P τ' → ∃ nn, wp_X9_read_L128 Q nn 0 τ') → ∀ (m k : Nat) (τ' : St), 95040 - k = m → k ≤ 95040 → MF τ1 τ' → wp_X9_read_L100 Q (m + 1) (k : Int) τ' := by
    intro P hP hK m
    induction m with
    | zero =>
      intro k τ' e1 e2 hI
      unfold wp_X9_read_L100
      rw [w32_id (show -2147483648 ≤ (k : Int) by omega) (by omega)]
      exact ⟨fun _ => hK τ' (hP τ' hI), fun z => by omega⟩
    | succ m ih =>
      intro k τ' e1 e2 hI
      unfold wp_X9_read_L100
      rw [w32_id (show -2147483648 ≤ (k : Int) by omega) (by omega)]
      refine ⟨fun z => by omega, fun _ => ⟨by omega, fun σ1 e3 => ⟨by omega, fun σ2 e4 x_3 e5 => ?_⟩⟩⟩
      rw [e5, show (k : Int) + 1 = ((k + 1 : Nat) : Int) by omega]
      refine ih (k + 1) σ2 (by omega) (by omega) ⟨fun a q1 q2 => ?_, ?_⟩
      · rw [e4, su_o _ _ _ q2, e3, su_o _ _ _ q1]; exact hI.1 a q1 q2
      · rw [e4, e3]; exact MB_su (MB_su hI.2 (by omega)) (by omega)
  have hM1 : MC c N sz hw wo τ1 := by
    unfold MC
    rw [f1 0 (by decide), f1 17 (by decide), f1 6 (by decide), f1 7 (by decide), f1 10 (by decide), f1 11 (by decide), f1 13 (by decide), f1 15 (by decide), f1 12 (by decide), f1 14 (by decide), f1 16 (by decide)]
    exact hM
  have g26 : τ1 0 26 = (n : Int) := by rw [f1 0 (by decide)]; exact h26
  have hW1 : WW c N sz sd n τ1 := hW τ1 (fun a q _ _ => f1 a q)
  -- the sum
  have sums : ∀ τ2, MF τ1 τ2 → RDm c N sz sd n τ2 → ∀ (m t : Nat) (τ' : St), N - t = m → t ≤ N → (∀ a, a ≠ 0 → τ' a = τ2 a) → (∀ b, b ≠ 36 → τ' 0 b = τ2 0 b) → τ' 0 36 = cap (sm (fun t => if c (12 * t) 1 = goal ∧ c (12 * t) 6 = 0 then VV c N sd false (12 * t) 0 (-1) (-1) n else 0) t) → wp_X9_read_L161 Q (m + 1) (t : Int) τ' := by
    intro τ2 hI2 hR2 m
    have i0 : ∀ m, 0 ≤ sm (fun t => if c (12 * t) 1 = goal ∧ c (12 * t) 6 = 0 then VV c N sd false (12 * t) 0 (-1) (-1) n else 0) m := fun m => sm_p _ (fun d _ => by
      split
      · exact (VV_r _ _ _ _ _ _ _ _ _).1
      · exact Int.le_refl 0)
    have hM2 := MC_c hM1 hI2.1
    induction m with
    | zero =>
      intro t τ' e1 e2 a1 a2 a3
      unfold wp_X9_read_L161
      rw [a2 23 (by decide), hM2.1, w32_id (show -2147483648 ≤ (N : Int) by omega) (by omega), w32_id (show -2147483648 ≤ (t : Int) by omega) (by omega)]
      refine ⟨fun _ σ1 es => ?_, fun z => by omega⟩
      rw [show t = N by omega] at a3
      refine h σ1 (fun a q1 q2 q3 q4 => ?_) (fun b q1 q2 => ?_) (by rw [es, su_at]) (by rw [es, su_ko _ _ (by omega), a3]; rfl) ?_ ?_ ?_
      · rw [es, su_o _ _ _ q1, a1 a q1, hI2.1 a q3 q4, f1 a q2]
      · rw [es, su_ko _ _ (by omega), a2 b q2, hI2.1 0 (by decide) (by decide), f1 0 (by decide)]
      · unfold MB; rw [es, su_o _ _ _ (by decide), su_o _ _ _ (by decide), a1 21 (by decide), a1 22 (by decide)]; exact hI2.2
      · unfold NS; rw [es, su_o _ _ _ (by decide), a1 20 (by decide), hI2.1 20 (by decide) (by decide)]; exact hS1
      · intro o t' x' i l j k q1 q2 v
        rw [← hR2 o t' x' i l j k q1 q2 v, mT_ar, mT_ar, es, su_o _ _ _ (by cases o <;> decide), a1 _ (by cases o <;> decide)]
    | succ m ih =>
      intro t τ' e1 e2 a1 a2 a3
      have z0 : t < N := by omega
      have z1 : N - (t + 1) = m := by omega
      have z2 : t + 1 ≤ N := by omega
      have z3 : (t : Int) + 1 = ((t + 1 : Nat) : Int) := by omega
      have z4 : 12 * t < 192 := by omega
      have z5 : 12 * (t : Int) = ((12 * t : Nat) : Int) := by omega
      have z6 : t < 16 := by omega
      have z7 : ¬ ((N : Int) ≤ (t : Int)) := by omega
      have f := hF.2 t z0
      have mm' := hM2.2.2 t 0 z0 f.1
      have f' := hF.1 t 0 z0 f.1
      have f6 := f'.2.1
      have f1' := f'.2.2.2.2.2.2.2.2.2.2.1
      have f2' := f'.2.2.2.2.2.2.2.2.2.2.2.1
      clear f'
      have nxt : ∀ v : Int, v = cap (sm (fun t => if c (12 * t) 1 = goal ∧ c (12 * t) 6 = 0 then VV c N sd false (12 * t) 0 (-1) (-1) n else 0) (t + 1)) → wp_X9_read_B208 (fun z0 σ => wp_X9_read_L161 Q (m + 1) z0 σ) (t : Int) v Q τ' := by
        intro v hv
        unfold wp_X9_read_B208
        intro σ1 es x_2 ex
        rw [ex, z3]
        exact ih (t + 1) σ1 z1 z2 (fun a q => by rw [es, su_o _ _ _ q]; exact a1 a q) (fun b q => by rw [es, su_ko _ _ (by omega)]; exact a2 b q) (by rw [es, su_at]; exact hv)
      rw [sm_1] at nxt
      unfold wp_X9_read_L161
      rw [a2 23 (by decide), hM2.1, w32_id (show -2147483648 ≤ (N : Int) by omega) (by omega), w32_id (show -2147483648 ≤ (t : Int) by omega) (by omega)]
      refine ⟨fun z => absurd z z7, fun _ => ?_⟩
      refine sp_isGoal (c := c) (t := t) (goal := goal) z6 (by rw [a1 7 (by decide)]; exact mm'.2.1) (by rw [a1 13 (by decide)]; exact mm'.2.2.2.2.1) (by rw [a2 37 (by decide), hI2.1 0 (by decide) (by decide), f1 0 (by decide)]; exact h37) f6 ⟨f1', f2'⟩ hgo rfl ?_
      by_cases q : c (12 * t) 1 = goal ∧ c (12 * t) 6 = 0
      · rw [if_pos q] at nxt ⊢
        refine ⟨fun z => absurd z (by decide), fun _ => ?_⟩
        have vv : Vs 0 0 (-1) (-1) n n := ⟨by omega, by omega, Or.inl ⟨rfl, rfl, rfl⟩⟩
        have eT : mT τ' false (12 * t) 0 (-1) (-1) n = VV c N sd false (12 * t) 0 (-1) (-1) n := by
          rw [mT_ar, a1 _ (by decide), ← mT_ar τ2 false (12 * t) 0 (-1) (-1) n]
          exact hR2 false t 0 0 n (-1) (-1) z0 f.1 ⟨by omega, by omega, Or.inl ⟨q.2, rfl, rfl⟩⟩
        have e26 : τ' 0 26 = (n : Int) := by rw [a2 26 (by decide), hI2.1 0 (by decide) (by decide)]; exact g26
        have c1 := cap_r (i0 t)
        have c2 := VV_r c N sd false (12 * t) 0 (-1) (-1) n
        refine sp_lie (g := 0) (n := n) (r := 12 * t) (i := 0) (l := n) (j := -1) (k := -1) (by unfold NS; rw [a1 20 (by decide), hI2.1 20 (by decide) (by decide)]; exact hS1) vv hn z4 z5 rfl e26 (fun z => absurd rfl z) ?_
        rw [eT, a3]
        exact sp_least (by omega) (nxt _ (by rw [cap_add (i0 t) c2.1]))
      · rw [if_neg q] at nxt ⊢
        refine ⟨fun _ => nxt _ (by rw [Int.add_zero, a3]), fun z => absurd w32_0 z⟩
  have ys : ∀ (m y : Nat) (τ' : St), n + 1 - y = m → y ≤ n + 1 → MF τ1 τ' → RM c N sz n (VV c N sd) τ' y (Sw hw wo False 0) → wp_X9_read_L128 Q (m + 1) (y : Int) τ' := by
    intro m
    induction m with
    | zero =>
      intro y τ' e1 e2 hI hR
      unfold wp_X9_read_L128
      rw [hI.1 0 (by decide) (by decide), g26, w32_id (show -2147483648 ≤ (n : Int) by omega) (by omega), w32_id (show -2147483648 ≤ (y : Int) by omega) (by omega)]
      refine ⟨fun _ σ1 es => ⟨_, sums τ' hI (fun o t x i l j k q1 q2 v => hR o t x i l j k q1 q2 v (Or.inl (by have := (Vs_y v).2; omega))) N 0 σ1 (by omega) (by omega) (fun a q => by rw [es, su_o _ _ _ q]) (fun b q => by rw [es, su_ko _ _ (by omega)]) (by rw [es, su_at, sm_z0, cap_0])⟩, fun z => by omega⟩
    | succ m ih =>
      intro y τ' e1 e2 hI hR
      unfold wp_X9_read_L128
      rw [hI.1 0 (by decide) (by decide), g26, w32_id (show -2147483648 ≤ (n : Int) by omega) (by omega), w32_id (show -2147483648 ≤ (y : Int) by omega) (by omega)]
      refine ⟨fun z => by omega, fun _ => ?_⟩
      refine sp_reckon (M := False) (Or.inr ⟨id, rfl⟩) hn hN g26 (by omega) hM1 hF h4 hS1 hW1 hI hR (fun τ2 hI2 hR2 => ?_)
      refine sp_reckon (M := True) (Or.inl ⟨trivial, rfl⟩) hn hN g26 (by omega) hM1 hF h4 hS1 hW1 hI2 (RM_mono (fun o t' x' q1 q2 q => ?_) hR2) (fun τ3 hI3 hR3 x_4 ex => ?_)
      · unfold Sw at q ⊢
        rcases q with q | q
        · exact Or.inr ⟨Or.inr q.2, q1⟩
        · omega
      · rw [ex, show (y : Int) + 1 = ((y + 1 : Nat) : Int) by omega]
        refine ih (y + 1) τ3 (by omega) (by omega) hI3 (fun o t' x' i l j k q1 q2 v q => hR3 o t' x' i l j k q1 q2 v ?_)
        have : (l : Int) - i - (k - j) < ((y + 1 : Nat) : Int) := by
          rcases q with q | ⟨_, q | q⟩
          · exact q
          · exact absurd q.1 id
          · omega
        by_cases e : (l : Int) - i - (k - j) < (y : Int)
        · exact Or.inl e
        · exact Or.inr ⟨by omega, Or.inr ⟨Or.inl trivial, q1⟩⟩
  refine ⟨_, zero (MF τ1) (fun _ z => z) (fun τ' hI => ⟨_, ys (n + 1) 0 τ' (by omega) (by omega) hI (fun o t x i l j k q1 q2 v q => ?_)⟩) 95040 0 τ1 (by omega) (by omega) ⟨fun _ _ _ => rfl, hB1⟩⟩
  have := (Vs_y v).1
  rcases q with q | ⟨_, q | q⟩
  · omega
  · exact absurd q.1 id
  · omega
