/-! pure: the reference's row more -/
/-- the reference between nodes: tree slot t, n nodes -/
def MN (τ : St) (t n : Nat) : Prop := τ 0 23 = (t : Int) ∧ t ≤ 16 ∧ τ 0 30 = (n : Int) ∧ n ≤ 12 ∧ (-1 ≤ τ 0 31 ∧ τ 0 31 < (n : Int)) ∧ Pd (fun y => τ 8 (12 * t + y)) n ∧ (∀ y, y < n → τ 11 (12 * t + y) = nxr (fun y => τ 8 (12 * t + y)) n t y ∧ τ 12 (12 * t + y) = fsr (fun y => τ 8 (12 * t + y)) n t y)
/-- a row more, of kind k and name nme, under the open node -/
def NwN (τ τ' : St) (t n : Nat) (k nme : Int) : Prop := (∀ o i, ¬ (6 ≤ o ∧ o ≤ 12) → ¬ (o = 0 ∧ i = 30) → τ' o i = τ o i) ∧ τ' 0 30 = ((n + 1 : Nat) : Int) ∧
  (∀ y, y < n → τ' 6 (12 * t + y) = τ 6 (12 * t + y) ∧ τ' 7 (12 * t + y) = τ 7 (12 * t + y) ∧ τ' 8 (12 * t + y) = τ 8 (12 * t + y) ∧ τ' 9 (12 * t + y) = τ 9 (12 * t + y) + (if τ 0 31 = (y : Int) then 1 else 0) ∧ τ' 10 (12 * t + y) = τ 10 (12 * t + y)) ∧
  (τ' 6 (12 * t + n) = k ∧ τ' 7 (12 * t + n) = nme ∧ τ' 8 (12 * t + n) = τ 0 31 ∧ τ' 9 (12 * t + n) = 0 ∧ τ' 10 (12 * t + n) = 0) ∧
  (∀ y, y < n + 1 → τ' 11 (12 * t + y) = nxr (fun y => τ' 8 (12 * t + y)) (n + 1) t y ∧ τ' 12 (12 * t + y) = fsr (fun y => τ' 8 (12 * t + y)) (n + 1) t y) ∧
  (∀ o i, (∀ y, y ≤ n → i ≠ 12 * t + y) → ¬ (o = 0 ∧ i = 30) → τ' o i = τ o i)
theorem nxr_self (p : Nat → Int) (t n : Nat) : nxr p (n + 1) t n = -1 := by
  unfold nxr
  rw [show nx p (n + 1) n = -1 by unfold nx; rw [show n + 1 - (n + 1) = 0 by omega]; rfl, if_pos rfl]
theorem fsr_self {p : Nat → Int} {n : Nat} (t : Nat) (h : Pd p (n + 1)) : fsr p (n + 1) t n = -1 := by
  unfold fsr
  rcases fs_spec p (n + 1) n with ⟨q, _⟩ | ⟨j, q1, q2, q3, q4⟩
  · rw [if_pos q]
  · have := h j q2; omega
theorem sp_mrow {Q : Int → St → Prop} {τ : St} {t n : Nat} {x1 nme : Int} (hM : MN τ t n) (hn : n < 12) (hx1 : x1 = 0 ∨ x1 = 1) (h0 : τ 0 31 = -1 → n = 0) (h : ∀ τ', NwN τ τ' t n (if x1 = 0 then 0 else 3) nme → Q 1 τ') : wp_X9_newNode_B239 x1 nme Q τ := by
  obtain ⟨h23, ht, h30, hn12, h31, hpd, hl⟩ := hM
  have b262 : ∀ k : Int, k = (if x1 = 0 then 0 else 3) → wp_X9_newNode_B262 nme ((12 * t + n : Nat) : Int) ((12 * t + n : Nat) : Int) k Q τ := by
    intro k hk
    unfold wp_X9_newNode_B262
    rw [w32_id (show -2147483648 ≤ ((12 * t + n : Nat) : Int) by omega) (by omega), show (((12 * t + n : Nat)) : Int).toNat = 12 * t + n by omega]
    refine ⟨by omega, fun a1 f1 => ⟨by omega, fun a2 f2 => ⟨by omega, fun a3 f3 => ⟨by omega, fun a4 f4 => ⟨by omega, fun a5 f5 => ⟨by omega, fun a6 f6 => ⟨by omega, fun a7 f7 => ?_⟩⟩⟩⟩⟩⟩⟩
    have e31 : a2 0 31 = τ 0 31 := by rw [f2, su_ko _ _ (by omega), f1, su_ko _ _ (by omega)]
    rw [e31] at f3
    -- the seven cells of row n, all else as it was
    have g : ∀ o i, ¬ (6 ≤ o ∧ o ≤ 12 ∧ i = 12 * t + n) → a7 o i = τ o i := fun o i q => by
      rw [f7, su_ko _ _ (by omega), f6, su_ko _ _ (by omega), f5, su_ko _ _ (by omega), f4, su_ko _ _ (by omega), f3, su_ko _ _ (by omega), f2, su_ko _ _ (by omega), f1, su_ko _ _ (by omega)]
    have g6 : a7 6 (12 * t + n) = k := by rw [f7, su_ko _ _ (by omega), f6, su_ko _ _ (by omega), f5, su_ko _ _ (by omega), f4, su_ko _ _ (by omega), f3, su_ko _ _ (by omega), f2, su_ko _ _ (by omega), f1, su_at]
    have g7 : a7 7 (12 * t + n) = nme := by rw [f7, su_ko _ _ (by omega), f6, su_ko _ _ (by omega), f5, su_ko _ _ (by omega), f4, su_ko _ _ (by omega), f3, su_ko _ _ (by omega), f2, su_at]
    have g8 : a7 8 (12 * t + n) = τ 0 31 := by rw [f7, su_ko _ _ (by omega), f6, su_ko _ _ (by omega), f5, su_ko _ _ (by omega), f4, su_ko _ _ (by omega), f3, su_at]
    have g9 : a7 9 (12 * t + n) = 0 := by rw [f7, su_ko _ _ (by omega), f6, su_ko _ _ (by omega), f5, su_ko _ _ (by omega), f4, su_at]
    have g10 : a7 10 (12 * t + n) = 0 := by rw [f7, su_ko _ _ (by omega), f6, su_ko _ _ (by omega), f5, su_at]
    have g11 : a7 11 (12 * t + n) = -1 := by rw [f7, su_ko _ _ (by omega), f6, su_at]
    have g12 : a7 12 (12 * t + n) = -1 := by rw [f7, su_at]
    have p7 : ∀ y, y < n → a7 8 (12 * t + y) = τ 8 (12 * t + y) := fun y hy => g 8 _ (by omega)
    have hpd' : ∀ a : St, (∀ y, y < n + 1 → a 8 (12 * t + y) = a7 8 (12 * t + y)) → Pd (fun y => a 8 (12 * t + y)) (n + 1) := fun a ha y hy => by
      simp only []
      rw [ha y hy]
      by_cases e : y = n
      · rw [e, g8]; exact h31
      · rw [p7 y (by omega)]; exact hpd y (by omega)
    have g31 : a7 0 31 = τ 0 31 := g 0 31 (by omega)
    rw [g31, w32_id (by omega) (by omega)]
    unfold wp_X9_newNode_B329 wp_X9_here
    refine ⟨fun q a8 f8 => ?_, fun q => ?_⟩
    · -- the first node
      have hn0 : ∀ y, y < n → ¬ τ 0 31 = (y : Int) := fun y hy => by omega
      refine h a8 ⟨fun o i a b => by rw [f8, su_ko _ _ (by omega)]; exact g o i (by omega), by rw [f8, su_at, g 0 30 (by omega), h30]; omega, fun y hy => ?_, ?_, fun y hy => ?_, fun o i a b => by have := a n (Nat.le_refl n); rw [f8, su_ko _ _ (by omega)]; exact g o i (by omega)⟩
      · rw [f8, su_ko _ _ (by omega), su_ko _ _ (by omega), su_ko _ _ (by omega), su_ko _ _ (by omega), su_ko _ _ (by omega), g 6 _ (by omega), g 7 _ (by omega), g 8 _ (by omega), g 9 _ (by omega), g 10 _ (by omega), if_neg (hn0 y hy)]
        exact ⟨rfl, rfl, rfl, by omega, rfl⟩
      · rw [f8, su_ko _ _ (by omega), su_ko _ _ (by omega), su_ko _ _ (by omega), su_ko _ _ (by omega), su_ko _ _ (by omega), hk.symm]
        exact ⟨g6, g7, g8, g9, g10⟩
      · have e8 : ∀ z, a8 8 (12 * t + z) = a7 8 (12 * t + z) := fun z => by rw [f8, su_ko _ _ (by omega)]
        have hP := hpd' a8 (fun z _ => e8 z)
        rw [show a8 11 (12 * t + y) = a7 11 (12 * t + y) by rw [f8, su_ko _ _ (by omega)], show a8 12 (12 * t + y) = a7 12 (12 * t + y) by rw [f8, su_ko _ _ (by omega)]]
        by_cases e : y = n
        · subst e
          rw [g11, g12, nxr_self, fsr_self t hP]
          exact ⟨rfl, rfl⟩
        · have hq : ∀ z, z < n → (fun y => a8 8 (12 * t + y)) z = (fun y => τ 8 (12 * t + y)) z := fun z hz => (e8 z).trans (p7 z hz)
          have hqn : (fun y => a8 8 (12 * t + y)) n = τ 0 31 := (e8 n).trans g8
          exact absurd (h0 q) (by omega)
    · -- under the open node
      have ho : (τ 0 31).toNat < n := by omega
      have e23 : a7 0 23 = (t : Int) := by rw [g 0 23 (by omega)]; exact h23
      rw [e23, show 12 * (t : Int) + τ 0 31 = ((12 * t + (τ 0 31).toNat : Nat) : Int) by omega]
      refine sp_mlink (p := fun y => τ 8 (12 * t + y)) ht hn ho hpd (fun y hy => by rw [g 11 _ (by omega)]; exact (hl y hy).1) (fun y hy => by rw [g 12 _ (by omega)]; exact (hl y hy).2) (fun a8 k1 k2 k3 k4 => ?_)
      intro a9 f9
      have e9 : ∀ o i, ¬ (o = 0 ∧ i = 30) → a9 o i = a8 o i := fun o i z => by rw [f9, su_ko _ _ (by omega)]
      have r8 : ∀ z, a9 8 (12 * t + z) = a7 8 (12 * t + z) := fun z => by rw [e9 8 _ (by omega), k1 8 _ (by omega) (by omega) (by omega)]
      have hq : ∀ z, z < n → (fun y => a9 8 (12 * t + y)) z = (fun y => τ 8 (12 * t + y)) z := fun z hz => (r8 z).trans (p7 z hz)
      have hqn : (fun y => a9 8 (12 * t + y)) n = (((τ 0 31).toNat : Nat) : Int) := by
        show a9 8 (12 * t + n) = _
        rw [r8 n, g8]; omega
      have k3' := k3 _ hq hqn
      have k4n := k4 (12 * t + n) (fun y hy => by omega)
      refine h a9 ⟨fun o i a b => ?_, ?_, fun y hy => ?_, ?_, fun y hy => ?_, fun o i a b => ?_⟩
      · rw [e9 o i b, k1 o i (by omega) (by omega) (by omega)]; exact g o i (by omega)
      · rw [f9, su_at, k1 0 30 (by omega) (by omega) (by omega), g 0 30 (by omega), h30]; omega
      · refine ⟨?_, ?_, ?_, ?_, ?_⟩
        · rw [e9 6 _ (by omega), k1 6 _ (by omega) (by omega) (by omega)]; exact g 6 _ (by omega)
        · rw [e9 7 _ (by omega), k1 7 _ (by omega) (by omega) (by omega)]; exact g 7 _ (by omega)
        · rw [r8 y]; exact p7 y hy
        · rw [e9 9 _ (by omega)]
          by_cases e : y = (τ 0 31).toNat
          · rw [e, k2, g 9 _ (by omega), if_pos (by omega)]
          · rw [k1 9 _ (by omega) (by omega) (by omega), g 9 _ (by omega), if_neg (by omega)]; omega
        · rw [e9 10 _ (by omega), k1 10 _ (by omega) (by omega) (by omega)]; exact g 10 _ (by omega)
      · refine ⟨?_, ?_, ?_, ?_, ?_⟩
        · rw [e9 6 _ (by omega), k1 6 _ (by omega) (by omega) (by omega), g6, hk]
        · rw [e9 7 _ (by omega), k1 7 _ (by omega) (by omega) (by omega)]; exact g7
        · rw [r8 n]; exact g8
        · rw [e9 9 _ (by omega), k1 9 _ (by omega) (by omega) (by omega)]; exact g9
        · rw [e9 10 _ (by omega), k1 10 _ (by omega) (by omega) (by omega)]; exact g10
      · by_cases e : y = n
        · subst e
          rw [e9 11 _ (by omega), e9 12 _ (by omega), k4n.1, k4n.2, g11, g12, nxr_self, fsr_self t (hpd' a9 (fun z _ => r8 z))]
          exact ⟨rfl, rfl⟩
        · rw [e9 11 _ (by omega), e9 12 _ (by omega)]
          exact k3' y (by omega)
      · have an := a n (Nat.le_refl n)
        have hk4 := k4 i (fun y hy => a y (by omega))
        rw [e9 o i b]
        by_cases o11 : o = 11
        · subst o11; rw [hk4.1]; exact g 11 i (by omega)
        · by_cases o12 : o = 12
          · subst o12; rw [hk4.2]; exact g 12 i (by omega)
          · have ao := a (τ 0 31).toNat (by omega)
            rw [k1 o i (by omega) o11 o12]; exact g o i (by omega)
  unfold wp_X9_newNode_B239 wp_X9_here
  rw [h23, h30, show 12 * (t : Int) + (n : Int) = ((12 * t + n : Nat) : Int) by omega]
  rcases hx1 with q | q
  · rw [q]
    exact ⟨fun _ => b262 0 (by rw [if_pos q]), fun z => absurd w32_0 z⟩
  · rw [q]
    exact ⟨fun z => absurd z (by decide), fun _ => b262 3 (by rw [if_neg (by omega)])⟩
