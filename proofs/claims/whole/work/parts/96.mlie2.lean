/-! pure: what the reference reckons for a node -/
def Gp (τ : St) (r i : Nat) (j k : Int) (l t p q : Nat) : Int := mT τ false (12 * t) i (p : Int) (q : Int) l * mT τ true (r + 1) p j k q
theorem sp_mreckonLie {τ : St} {Q : Int → St → Prop} {c : Nat → Nat → Int} {N n t x i l : Nat} {sz : Nat → Nat} {hw wo : Nat → Prop} {sd : Nat → Int} {j k a1 a2 a5 : Int} (hS : NS τ) (hB : MB τ) (hn : n ≤ 8) (hN : N ≤ 16) (hM : MC c N sz hw wo τ) (hF : CF c N sz hw wo) (h4 : 0 ≤ c (12 * t + x) 4 ∧ c (12 * t + x) 4 ≤ 2) (ht : t < N) (hx : x < sz t) (hv : Vs (c (12 * t + x) 6) i j k l n)
    (hW : c (12 * t + x) 0 = 3 → l = i + 1 → ∀ R : Int → St → Prop, R (bI (sd i = c (12 * t + x) 1)) τ → wp_X9_isWord a1 a2 R τ) (h1 : a1 = ((12 * t + x : Nat) : Int)) (h2 : a2 = (i : Int)) (h5 : a5 = (l : Int))
    (h : Q (rLie c N sd (mT τ) (12 * t + x) i j k l) τ) : wp_X9_reckonLie a1 a2 j k a5 Q τ := by
  have hv0 := hv
  obtain ⟨v1, v2, v3⟩ := hv
  obtain ⟨hM1, hM2, hM3⟩ := hM
  obtain ⟨m6, m7, m10, m11, m13, m15, m12, m14, m16⟩ := hM3 t x ht hx
  obtain ⟨g1, g2, g3, g4, g5, g6, g7, g8, g9, g10, g11⟩ := hF.1 t x ht hx
  have s12 := (hF.2 t ht).2.1
  have wj : w32 j = j := by rcases v3 with z | z; exact w32_id (by omega) (by omega); exact w32_id (by omega) (by omega)
  have wk : w32 k = k := by rcases v3 with z | z; exact w32_id (by omega) (by omega); exact w32_id (by omega) (by omega)
  have w1 : w32 a1 = ((12 * t + x : Nat) : Int) := by rw [h1]; exact w32_id (by omega) (by omega)
  have w2 : w32 a2 = (i : Int) := by rw [h2]; exact w32_id (by omega) (by omega)
  have w21 : w32 (a2 + 1) = (i : Int) + 1 := by rw [h2]; exact w32_id (by omega) (by omega)
  have w5 : w32 a5 = (l : Int) := by rw [h5]; exact w32_id (by omega) (by omega)
  have b1 : 0 ≤ ((12 * t + x : Nat) : Int) ∧ ((12 * t + x : Nat) : Int) < 204 := by omega
  have rn : (((12 * t + x : Nat) : Int)).toNat = 12 * t + x := by omega
  -- for a tree
  have root : ∀ t', t' < N → τ 7 (12 * t') = c (12 * t') 1 ∧ τ 13 (12 * t') = c (12 * t') 6 ∧ (c (12 * t') 6 = 0 ∨ c (12 * t') 6 = 1) ∧ (0 ≤ c (12 * t') 1 ∧ c (12 * t') 1 < 32) := by
    intro t' ht'
    have f := hF.2 t' ht'
    have m := hM3 t' 0 ht' f.1
    have f' := hF.1 t' 0 ht' f.1
    exact ⟨m.2.1, m.2.2.2.2.1, f'.2.1, f'.2.2.2.2.2.2.2.2.2.2.1, f'.2.2.2.2.2.2.2.2.2.2.2.1⟩
  unfold wp_X9_reckonLie wp_X9_reckonLie_B31 wp_X9_reckonLie_B59
  rw [w1, rn, m6, m10, wj, wk, w2, w21, w5, w32_id (show -2147483648 ≤ c (12 * t + x) 0 by omega) (by omega), w32_id (show -2147483648 ≤ c (12 * t + x) 4 by omega) (by omega)]
  unfold rLie at h
  refine ⟨b1, fun k3 => ⟨b1, fun k2 => ⟨b1, fun k1 => ?_, fun k1 => ?_⟩, fun k2 => ⟨fun y => ?_, fun y => ⟨fun w => ?_, fun w => ?_⟩⟩⟩, fun k3 => ?_⟩
  · rw [if_neg k3, if_neg k2, if_neg k1] at h
    have k0 : c (12 * t + x) 0 = 0 := by omega
    have m12' := m12 k0
    have hx1 := g4 k0
    have r192 : 12 * t + x + 1 < 192 := by omega
    have G0 : ∀ t' p q, 0 ≤ Gp τ (12 * t + x) i j k l t' p q := fun _ _ _ => (mul_m hB _ _ _ _ _ _ _ _ _ _ _ _).1
    have F0 : ∀ t' p m, 0 ≤ sm (fun dq => Gp τ (12 * t + x) i j k l t' p (fstQ j k p + dq)) m := fun t' p m => sm_p _ (fun _ _ => G0 _ _ _)
    have lp : lastP j l ≤ l ∧ i ≤ lastP j l ∧ (j = -1 → lastP j l = l) ∧ (j ≠ -1 → ((lastP j l : Nat) : Int) = j) := by
      unfold lastP
      rcases v3 with z | z
      · rw [if_pos z.2.1]; omega
      · rw [if_neg (by omega)]; omega
    have qL : ∀ (K168 : Int → Int → Int → Int → Int → Int → Int → St → Prop) (K204 : Int → Int → Int → Int → Int → Int → Int → Int → St → Prop) (t' p : Nat), t' < N → i ≤ p → p ≤ lastP j l → ∀ S : Int, 0 ≤ S →
        K204 a1 a2 j k a5 (cap (S + sm (fun dq => Gp τ (12 * t + x) i j k l t' p (fstQ j k p + dq)) (l + 1 - fstQ j k p))) (t' : Int) ((p + 1 : Nat) : Int) τ →
        ∀ (m q : Nat), l + 1 - q = m → fstQ j k p ≤ q → q ≤ l + 1 → wp_X9_reckonLie_L234 K168 K204 Q (m + 1) a1 a2 j k a5 (cap (S + sm (fun dq => Gp τ (12 * t + x) i j k l t' p (fstQ j k p + dq)) (q - fstQ j k p))) (t' : Int) (p : Int) (q : Int) τ := by
      intro K168 K204 t' p ht' hp1 hp2 S hS0 hK m
      have fq : p ≤ fstQ j k p ∧ fstQ j k p ≤ l ∧ (j = -1 → fstQ j k p = p) ∧ (j ≠ -1 → ((fstQ j k p : Nat) : Int) = k) := by
        unfold fstQ
        rcases v3 with z | z
        · rw [if_pos z.2.1]; omega
        · rw [if_neg (by omega)]; omega
      induction m with
      | zero =>
        intro q e1 e2 e3
        unfold wp_X9_reckonLie_L234
        rw [w5, w32_id (show -2147483648 ≤ (q : Int) by omega) (by omega)]
        refine ⟨fun _ x_1 ex => ?_, fun z => by omega⟩
        rw [ex, show (p : Int) + 1 = ((p + 1 : Nat) : Int) by omega, show q - fstQ j k p = l + 1 - fstQ j k p by omega]
        exact hK
      | succ m ih =>
        intro q e1 e2 e3
        unfold wp_X9_reckonLie_L234
        rw [w5, w32_id (show -2147483648 ≤ (q : Int) by omega) (by omega)]
        refine ⟨fun z => by omega, fun _ => ?_⟩
        refine sp_mset (g := c (12 * t + x) 6) (r := 12 * t + x) (t := t') (i := i) (p := p) (q := q) (l := l) (n := n) hS hB hn r192 (by omega) m12' hp1 (by omega) (by omega) v2 ⟨by omega, by omega, ?_⟩ h1 rfl h2 rfl rfl h5 ?_
        · rcases v3 with z | z
          · exact Or.inl z
          · exact Or.inr ⟨z.1, by omega, z.2.2.1, by omega⟩
        · have S1 : 0 ≤ S + sm (fun dq => Gp τ (12 * t + x) i j k l t' p (fstQ j k p + dq)) (q - fstQ j k p) := by have := F0 t' p (q - fstQ j k p); omega
          have c1 := cap_r S1
          have c2 := cap_r (G0 t' p q)
          refine sp_least (by unfold Gp at c2; omega) (fun x_6 ex => ?_)
          have := ih (q + 1) (by omega) (by omega) (by omega)
          rw [show q + 1 - fstQ j k p = (q - fstQ j k p) + 1 by omega, sm_1, show fstQ j k p + (q - fstQ j k p) = q by omega, ← Int.add_assoc, ← cap_add2 S1 (G0 t' p q)] at this
          rw [ex, show (q : Int) + 1 = ((q + 1 : Nat) : Int) by omega]
          exact this
    have pL : ∀ (K168 : Int → Int → Int → Int → Int → Int → Int → St → Prop) (t' : Nat), t' < N → ∀ S : Int, 0 ≤ S →
        K168 a1 a2 j k a5 (cap (S + sm (fun dp => sm (fun dq => Gp τ (12 * t + x) i j k l t' (i + dp) (fstQ j k (i + dp) + dq)) (l + 1 - fstQ j k (i + dp))) (lastP j l + 1 - i))) ((t' + 1 : Nat) : Int) τ →
        ∀ (m p : Nat), lastP j l + 1 - p = m → i ≤ p → p ≤ lastP j l + 1 → wp_X9_reckonLie_L204 K168 Q (m + 1) a1 a2 j k a5 (cap (S + sm (fun dp => sm (fun dq => Gp τ (12 * t + x) i j k l t' (i + dp) (fstQ j k (i + dp) + dq)) (l + 1 - fstQ j k (i + dp))) (p - i))) (t' : Int) (p : Int) τ := by
      intro K168 t' ht' S hS0 hK m
      induction m with
      | zero =>
        intro p e1 e2 e3
        unfold wp_X9_reckonLie_L204 wp_X9_reckonLie_B217 wp_X9_reckonLie_B278
        rw [wj, w5, w32_id (show -2147483648 ≤ (p : Int) by omega) (by omega)]
        rw [show p - i = lastP j l + 1 - i by omega]
        refine ⟨fun z => ⟨fun _ x_1 ex => ?_, fun y => by omega⟩, fun z => ⟨fun _ x_1 ex => ?_, fun y => by omega⟩⟩
        all_goals
          rw [ex, show (t' : Int) + 1 = ((t' + 1 : Nat) : Int) by omega]
          exact hK
      | succ m ih =>
        intro p e1 e2 e3
        have sF : 0 ≤ sm (fun dp => sm (fun dq => Gp τ (12 * t + x) i j k l t' (i + dp) (fstQ j k (i + dp) + dq)) (l + 1 - fstQ j k (i + dp))) (p - i) := sm_p _ (fun dp _ => F0 _ _ _)
        have nxt := ih (p + 1) (by omega) (by omega) (by omega)
        rw [show p + 1 - i = (p - i) + 1 by omega, sm_1, show i + (p - i) = p by omega, ← Int.add_assoc] at nxt
        have fl : fstQ j k p ≤ l := by
          unfold fstQ
          rcases v3 with z | z
          · rw [if_pos z.2.1]; omega
          · rw [if_neg (by omega)]; omega
        have go := qL K168 (fun z0 z1 z2 z3 z4 z5 z6 z7 σ => wp_X9_reckonLie_L204 K168 Q (m + 1) z0 z1 z2 z3 z4 z5 z6 z7 σ) t' p ht' e2 (by omega) (S + sm (fun dp => sm (fun dq => Gp τ (12 * t + x) i j k l t' (i + dp) (fstQ j k (i + dp) + dq)) (l + 1 - fstQ j k (i + dp))) (p - i)) (by omega) nxt (l + 1 - fstQ j k p) (fstQ j k p) rfl (Nat.le_refl _) (by omega)
        rw [Nat.sub_self, sm_z0, Int.add_zero] at go
        unfold wp_X9_reckonLie_L204 wp_X9_reckonLie_B217 wp_X9_reckonLie_B232
        rw [wj, w5, w32_id (show -2147483648 ≤ (p : Int) by omega) (by omega)]
        refine ⟨fun z => ⟨fun y => by omega, fun _ => ⟨fun _ => ⟨l + 1 - fstQ j k p + 1, ?_⟩, fun y => absurd y z⟩⟩, fun z => ⟨fun y => by omega, fun _ => ⟨fun y => absurd z y, fun _ => ⟨l + 1 - fstQ j k p + 1, ?_⟩⟩⟩⟩
        · have : ((fstQ j k p : Nat) : Int) = k := by
            unfold fstQ; rw [if_neg z]
            rcases v3 with w | w <;> omega
          rw [this] at go
          exact go
        · have : fstQ j k p = p := by unfold fstQ; rw [if_pos z]
          rw [this] at go
          rw [this]
          exact go
    have tL : ∀ a0 : Int, 0 ≤ a0 → c (12 * t + x) 4 ≠ 2 → Q (cap (a0 + axs c N (mT τ) (12 * t + x) i j k l)) τ → ∀ (m t' : Nat), N - t' = m → t' ≤ N → wp_X9_reckonLie_L168 Q (m + 1) a1 a2 j k a5 (cap (a0 + sm (axT c (mT τ) (12 * t + x) i j k l) t')) (t' : Int) τ := by
      intro a0 ha hne hQ m
      have A0 : ∀ m, 0 ≤ sm (axT c (mT τ) (12 * t + x) i j k l) m := fun m => sm_p _ (fun d _ => by
        unfold axT
        split
        · exact sm_p _ (fun _ _ => sm_p _ (fun _ _ => (mul_m hB _ _ _ _ _ _ _ _ _ _ _ _).1))
        · exact Int.le_refl 0)
      induction m with
      | zero =>
        intro t' e1 e2
        unfold wp_X9_reckonLie_L168
        rw [hM1, w32_id (show -2147483648 ≤ (N : Int) by omega) (by omega), w32_id (show -2147483648 ≤ (t' : Int) by omega) (by omega)]
        refine ⟨fun _ => ?_, fun z => by omega⟩
        rw [show t' = N by omega, ← axs_t]
        exact hQ
      | succ m ih =>
        intro t' e1 e2
        obtain ⟨u1, u2, u3, u4⟩ := root t' (by omega)
        have nxt := ih (t' + 1) (by omega) (by omega)
        rw [sm_1, ← Int.add_assoc] at nxt
        unfold wp_X9_reckonLie_L168
        rw [hM1, w32_id (show -2147483648 ≤ (N : Int) by omega) (by omega), w32_id (show -2147483648 ≤ (t' : Int) by omega) (by omega), w1, rn, m10, w32_id (show -2147483648 ≤ c (12 * t + x) 4 by omega) (by omega)]
        refine ⟨fun z => by omega, fun _ => ⟨b1, fun z => absurd z hne, fun _ => ?_⟩⟩
        refine sp_isFor (c := c) (r := 12 * t + x) (t := t') (by omega) (by omega) u1 m7 u2 u3 (Or.inr rfl) u4 ⟨g11.1, g11.2.1⟩ rfl h1 ?_
        by_cases q : c (12 * t') 1 = c (12 * t + x) 1 ∧ c (12 * t') 6 = 1
        · rw [if_pos q]
          refine ⟨fun _ => ⟨lastP j l + 1 - i + 1, ?_⟩, fun z => absurd z (by decide)⟩
          have ea : axT c (mT τ) (12 * t + x) i j k l t' = sm (fun dp => sm (fun dq => Gp τ (12 * t + x) i j k l t' (i + dp) (fstQ j k (i + dp) + dq)) (l + 1 - fstQ j k (i + dp))) (lastP j l + 1 - i) := by unfold axT; rw [if_pos q]; rfl
          rw [ea] at nxt
          have go := pL (fun z0 z1 z2 z3 z4 z5 z6 σ => wp_X9_reckonLie_L168 Q (m + 1) z0 z1 z2 z3 z4 z5 z6 σ) t' (by omega) (a0 + sm (axT c (mT τ) (12 * t + x) i j k l) t') (by have := A0 t'; omega) nxt (lastP j l + 1 - i) i rfl (Nat.le_refl i) (by omega)
          rw [Nat.sub_self, sm_z0, Int.add_zero] at go
          rw [h2] at go ⊢
          exact go
        · rw [if_neg q]
          refine ⟨fun z => absurd w32_0 z, fun _ => ?_⟩
          unfold wp_X9_reckonLie_B278
          intro x_1 ex
          have ea : axT c (mT τ) (12 * t + x) i j k l t' = 0 := by unfold axT; rw [if_neg q]
          rw [ea, Int.add_zero] at nxt
          rw [ex, show (t' : Int) + 1 = ((t' + 1 : Nat) : Int) by omega]
          exact nxt
    have fin : ∀ a0 : Int, (0 ≤ a0 ∧ a0 ≤ 1000000000) → Q (cap (a0 + (if c (12 * t + x) 4 = 2 then 0 else axs c N (mT τ) (12 * t + x) i j k l))) τ → wp_X9_reckonLie_B163 a1 a2 j k a5 a0 Q τ := by
      intro a0 ha hQ
      unfold wp_X9_reckonLie_B163
      by_cases q : c (12 * t + x) 4 = 2
      · rw [if_pos q, Int.add_zero, cap_id ha.2] at hQ
        refine ⟨1, ?_⟩
        unfold wp_X9_reckonLie_L168
        rw [w1, rn, m10, w32_id (show -2147483648 ≤ c (12 * t + x) 4 by omega) (by omega)]
        exact ⟨fun _ => hQ, fun _ => ⟨b1, fun _ => hQ, fun z => absurd q z⟩⟩
      · rw [if_neg q] at hQ
        have := tL a0 ha.1 q hQ N 0 (by omega) (by omega)
        rw [sm_z0, Int.add_zero, cap_id ha.2] at this
        exact ⟨_, this⟩
    unfold rIn at h
    refine ⟨b1, fun z => ⟨b1, ?_⟩, fun z => ?_⟩
    · rw [if_neg z] at h
      rw [m12']
      refine sp_run (g := c (12 * t + x) 6) (r := 12 * t + x + 1) hS hv0 hn r192 rfl h2 h5 (fun _ => rfl) (fin _ (MB_T hB _ _ _ _ _ _) h)
    · rw [if_pos z] at h
      exact fin 0 (by omega) h
  · rw [if_neg k3, if_neg k2, if_pos k1] at h
    have i0 : ∀ m, 0 ≤ sm (fun t' => if c (12 * t') 1 = c (12 * t + x) 1 ∧ c (12 * t') 6 = 0 then mT τ false (12 * t') i (-1) (-1) l else 0) m := fun m => sm_p _ (fun d _ => by
      split
      · exact (MB_T hB _ _ _ _ _ _).1
      · exact Int.le_refl 0)
    have loop : ∀ (m t' : Nat), N - t' = m → t' ≤ N → wp_X9_reckonLie_L77 Q (m + 1) a1 a2 a5 (cap (sm (fun t' => if c (12 * t') 1 = c (12 * t + x) 1 ∧ c (12 * t') 6 = 0 then mT τ false (12 * t') i (-1) (-1) l else 0) t')) (t' : Int) τ := by
      intro m
      induction m with
      | zero =>
        intro t' e1 e2
        unfold wp_X9_reckonLie_L77
        rw [hM1, w32_id (show -2147483648 ≤ (N : Int) by omega) (by omega), w32_id (show -2147483648 ≤ (t' : Int) by omega) (by omega)]
        refine ⟨fun _ => ?_, fun z => by omega⟩
        rw [show t' = N by omega]
        exact h
      | succ m ih =>
        intro t' e1 e2
        obtain ⟨u1, u2, u3, u4⟩ := root t' (by omega)
        have nxt := ih (t' + 1) (by omega) (by omega)
        rw [sm_1] at nxt
        unfold wp_X9_reckonLie_L77
        rw [hM1, w32_id (show -2147483648 ≤ (N : Int) by omega) (by omega), w32_id (show -2147483648 ≤ (t' : Int) by omega) (by omega)]
        refine ⟨fun z => by omega, fun _ => ?_⟩
        refine sp_isFor (c := c) (r := 12 * t + x) (t := t') (by omega) (by omega) u1 m7 u2 u3 (Or.inl rfl) u4 ⟨g11.1, g11.2.1⟩ rfl h1 ?_
        unfold wp_X9_reckonLie_B122
        by_cases q : c (12 * t') 1 = c (12 * t + x) 1 ∧ c (12 * t') 6 = 0
        · rw [if_pos q]
          rw [if_pos q] at nxt
          refine ⟨fun z => absurd z (by decide), fun _ => ?_⟩
          refine sp_lie (g := 0) (n := n) (r := 12 * t') (i := i) (l := l) (j := -1) (k := -1) hS ⟨v1, v2, Or.inl ⟨rfl, rfl, rfl⟩⟩ hn (by omega) (by omega) h2 h5 (fun z => absurd rfl z) ?_
          have c1 := cap_r (i0 t')
          have c2 := MB_T hB false (12 * t') i (-1) (-1) l
          refine sp_least (by omega) (fun x_1 ex => ?_)
          rw [ex, show (t' : Int) + 1 = ((t' + 1 : Nat) : Int) by omega, cap_add (i0 t') c2.1]
          exact nxt
        · rw [if_neg q]
          rw [if_neg q, Int.add_zero] at nxt
          refine ⟨fun _ x_1 ex => ?_, fun z => absurd w32_0 z⟩
          rw [ex, show (t' : Int) + 1 = ((t' + 1 : Nat) : Int) by omega]
          exact nxt
    have := loop N 0 (by omega) (by omega)
    rw [sm_z0, cap_0] at this
    exact ⟨_, this⟩
  · rw [if_neg k3, if_pos k2, if_neg (by omega)] at h
    exact h
  · rw [if_neg k3, if_pos k2, if_neg (by omega)] at h
    exact h
  · rw [if_neg k3, if_pos k2, if_pos (by omega)] at h
    exact h
  · rw [if_pos k3] at h
    refine ⟨fun y => ?_, fun y => hW k3 (by omega) _ ?_⟩
    · rw [if_neg (by omega)] at h
      exact h
    · by_cases q : sd i = c (12 * t + x) 1
      · rw [if_pos ⟨by omega, q⟩] at h
        rw [bI_t q]
        exact ⟨fun z => absurd z (by decide), fun _ => h⟩
      · rw [if_neg (fun z => q z.2)] at h
        rw [bI_f q]
        exact ⟨fun _ => h, fun z => absurd w32_0 z⟩
