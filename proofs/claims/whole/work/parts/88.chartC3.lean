/-! pure: what the class reckons for a node -/
def inA (σ : St) (r i : Nat) (j k : Int) (l p q : Nat) : Int := cA σ (cc σ r 1) i p q l * cT σ true (r + 1) p j k q
def inS (σ : St) (r i : Nat) (j k : Int) (l : Nat) : Int := sm (fun dp => sm (fun dq => inA σ r i j k l (i + dp) (fstQ j k (i + dp) + dq)) (l + 1 - fstQ j k (i + dp))) (lastP j l + 1 - i)
def inC (σ : St) (r i : Nat) (j k : Int) (l : Nat) : Int := (if cc σ r 4 = 1 then 0 else cT σ true (r + 1) i j k l) + (if cc σ r 4 = 2 then 0 else inS σ r i j k l)
theorem nm_ix {nm : Int} {a : Nat} (h : 0 ≤ nm ∧ nm < 16) (ha : a < 495) : (0 ≤ w32 (nm * 495 + (a : Int)) ∧ w32 (nm * 495 + (a : Int)) < 7920) ∧ (w32 (nm * 495 + (a : Int))).toNat = 495 * nm.toNat + a := by
  rw [w32_id (by omega) (by omega)]; omega
theorem sm_z0 (f : Nat → Int) : sm f 0 = 0 := rfl
theorem sm_1 (f : Nat → Int) (n : Nat) : sm f (n + 1) = sm f n + f n := rfl
theorem sp_reckonInner {σ : St} {Q : Int → St → Prop} {g : Int} {t x i l n : Nat} {j k a1 a2 a3 : Int} (ht : t < 16) (hx : x + 1 < 12) (h4 : 0 ≤ cc σ (12 * t + x) 4 ∧ cc σ (12 * t + x) 4 ≤ 2) (hnm : 0 ≤ cc σ (12 * t + x) 1 ∧ cc σ (12 * t + x) 1 < 16) (hv : Vs g i j k l n) (hn : n ≤ 8) (hB : CB σ) (h1 : a1 = ((12 * t + x : Nat) : Int)) (h2 : a2 = (i : Int)) (h3 : a3 = (l : Int))
    (h : Q (cap (inC σ (12 * t + x) i j k l)) σ) : wp_X0_reckonInner a1 a2 a3 j k Q σ := by
  subst h2 h3
  have hv0 := hv
  obtain ⟨v1, v2, v3⟩ := hv
  have e4 : nd σ t x 4 = cc σ (12 * t + x) 4 := rfl
  have e1 : nd σ t x 1 = cc σ (12 * t + x) 1 := rfl
  have G0 : ∀ p q, 0 ≤ inA σ (12 * t + x) i j k l p q := fun p q => (mul_b (CB_A hB _ _ _ _ _) (CB_T hB _ _ _ _ _ _)).1
  have F0 : ∀ p m, 0 ≤ sm (fun dq => inA σ (12 * t + x) i j k l p (fstQ j k p + dq)) m := fun p m => sm_p _ (fun _ _ => G0 _ _)
  have lp : lastP j l ≤ l ∧ i ≤ lastP j l ∧ (j = -1 → lastP j l = l) ∧ (j ≠ -1 → ((lastP j l : Nat) : Int) = j) := by
    unfold lastP
    rcases v3 with z | z
    · rw [if_pos z.2.1]; omega
    · rw [if_neg (by omega)]; omega
  have inner : ∀ (K : Int → Int → Int → Int → Int → Int → Int → Int → Int → St → Prop) (p : Nat), i ≤ p → p ≤ lastP j l → ∀ (S : Int), 0 ≤ S →
      K (i : Int) (l : Int) j k (cap (S + sm (fun dq => inA σ (12 * t + x) i j k l p (fstQ j k p + dq)) (l + 1 - fstQ j k p))) (cc σ (12 * t + x) 1 * 495) (((12 * t + x + 1 : Nat) : Int) * 495) ((lastP j l : Nat) : Int) ((p + 1 : Nat) : Int) σ →
      ∀ (m q : Nat), fstQ j k p ≤ q → q ≤ l + 1 → l + 1 - q = m → wp_X0_reckonInner_L100 K Q (m + 1) (i : Int) (l : Int) j k (cap (S + sm (fun dq => inA σ (12 * t + x) i j k l p (fstQ j k p + dq)) (q - fstQ j k p))) (cc σ (12 * t + x) 1 * 495) (((12 * t + x + 1 : Nat) : Int) * 495) ((lastP j l : Nat) : Int) (p : Int) (q : Int) σ := by
    intro K p hp1 hp2 S hS hK m
    have fq : p ≤ fstQ j k p ∧ fstQ j k p ≤ l ∧ (j = -1 → fstQ j k p = p) ∧ (j ≠ -1 → ((fstQ j k p : Nat) : Int) = k) := by
      unfold fstQ
      rcases v3 with z | z
      · rw [if_pos z.2.1]; omega
      · rw [if_neg (by omega)]; omega
    induction m with
    | zero =>
      intro q hq1 hq2 hm
      unfold wp_X0_reckonInner_L100
      rw [w32_id (show -2147483648 ≤ (l : Int) by omega) (by omega), w32_id (show -2147483648 ≤ (q : Int) by omega) (by omega)]
      refine ⟨fun _ x_1 ex => ?_, fun z => by omega⟩
      rw [ex, show (p : Int) + 1 = ((p + 1 : Nat) : Int) by omega, show q - fstQ j k p = l + 1 - fstQ j k p by omega]
      exact hK
    | succ m ih =>
      intro q hq1 hq2 hm
      unfold wp_X0_reckonInner_L100
      rw [w32_id (show -2147483648 ≤ (l : Int) by omega) (by omega), w32_id (show -2147483648 ≤ (q : Int) by omega) (by omega)]
      refine ⟨fun z => by omega, fun _ => ?_⟩
      have vA : Vs 1 i (p : Int) (q : Int) l n := ⟨v1, v2, Or.inr ⟨rfl, by omega, by omega, by omega⟩⟩
      have vT : Vs g p j k q n := ⟨by omega, by omega, by
        rcases v3 with z | z
        · exact Or.inl z
        · exact Or.inr ⟨z.1, by omega, z.2.2.1, by omega⟩⟩
      refine sp_at vA hn rfl rfl ?_
      have bA := nm_ix hnm (at_lt vA hn).1
      refine ⟨bA.1, fun x_4 ex4 => ?_⟩
      rw [bA.2] at ex4
      have rA := CB_A hB (cc σ (12 * t + x) 1) i p q l
      have eA : x_4 = cA σ (cc σ (12 * t + x) 1) i p q l := ex4.trans (show w32 (cA σ (cc σ (12 * t + x) 1) i p q l) = _ from w32_id (by omega) (by omega))
      have rT := CB_T hB true (12 * t + x + 1) p j k q
      have m2 := mul_b rA rT
      have S1 : 0 ≤ S + sm (fun dq => inA σ (12 * t + x) i j k l p (fstQ j k p + dq)) (q - fstQ j k p) := by have := F0 p (q - fstQ j k p); omega
      have c1 := cap_r S1
      have es : S + sm (fun dq => inA σ (12 * t + x) i j k l p (fstQ j k p + dq)) (q + 1 - fstQ j k p) = (S + sm (fun dq => inA σ (12 * t + x) i j k l p (fstQ j k p + dq)) (q - fstQ j k p)) + cA σ (cc σ (12 * t + x) 1) i p q l * cT σ true (12 * t + x + 1) p j k q := by
        rw [show q + 1 - fstQ j k p = (q - fstQ j k p) + 1 by omega, sm_1, show fstQ j k p + (q - fstQ j k p) = q by omega, Int.add_assoc]
        rfl
      have nxt : ∀ v : Int, v = cap (S + sm (fun dq => inA σ (12 * t + x) i j k l p (fstQ j k p + dq)) (q + 1 - fstQ j k p)) → wp_X0_reckonInner_B165 K (fun z0 z1 z2 z3 z4 z5 z6 z7 z8 z9 σ => wp_X0_reckonInner_L100 K Q (m + 1) z0 z1 z2 z3 z4 z5 z6 z7 z8 z9 σ) (i : Int) (l : Int) j k v (cc σ (12 * t + x) 1 * 495) (((12 * t + x + 1 : Nat) : Int) * 495) ((lastP j l : Nat) : Int) (p : Int) (q : Int) Q σ := by
        intro v hv'
        unfold wp_X0_reckonInner_B165
        intro x_1 ex
        rw [ex, hv', show (q : Int) + 1 = ((q + 1 : Nat) : Int) by omega]
        exact ih (q + 1) (by omega) (by omega) (by omega)
      rw [eA, lCmp_0 (by omega)]
      refine ⟨fun z => nxt _ ?_, fun _ => ?_⟩
      · rw [es, z, Int.zero_mul, Int.add_zero]
      · refine sp_at vT hn rfl rfl ?_
        have bT := row_ix (show 12 * t + x + 1 < 192 by omega) (at_lt vT hn).1
        refine ⟨bT.1, ?_⟩
        rw [bT.2]
        have eT : w32 (σ 20 (495 * (12 * t + x + 1) + atF p j k q)) = cT σ true (12 * t + x + 1) p j k q := show w32 (cT σ true (12 * t + x + 1) p j k q) = _ from w32_id (by omega) (by omega)
        rw [eT, w32_id (show -2147483648 ≤ cap (S + sm (fun dq => inA σ (12 * t + x) i j k l p (fstQ j k p + dq)) (q - fstQ j k p)) by omega) (by omega)]
        refine sp_cut (by omega) (nxt _ ?_)
        rw [es, cap_add S1 m2.1]
  have outer : ∀ (a0 : Int), 0 ≤ a0 → Q (cap (a0 + inS σ (12 * t + x) i j k l)) σ → ∀ (m p : Nat), i ≤ p → p ≤ lastP j l + 1 → lastP j l + 1 - p = m → wp_X0_reckonInner_L84 Q (m + 1) (i : Int) (l : Int) j k (cap (a0 + sm (fun dp => sm (fun dq => inA σ (12 * t + x) i j k l (i + dp) (fstQ j k (i + dp) + dq)) (l + 1 - fstQ j k (i + dp))) (p - i))) (cc σ (12 * t + x) 1 * 495) (((12 * t + x + 1 : Nat) : Int) * 495) ((lastP j l : Nat) : Int) (p : Int) σ := by
    intro a0 h0 hQ m
    induction m with
    | zero =>
      intro p hp1 hp2 hm
      unfold wp_X0_reckonInner_L84
      rw [w32_id (show -2147483648 ≤ ((lastP j l : Nat) : Int) by omega) (by omega), w32_id (show -2147483648 ≤ (p : Int) by omega) (by omega)]
      refine ⟨fun _ => ?_, fun z => by omega⟩
      rw [show p - i = lastP j l + 1 - i by omega]
      exact hQ
    | succ m ih =>
      intro p hp1 hp2 hm
      unfold wp_X0_reckonInner_L84
      rw [w32_id (show -2147483648 ≤ ((lastP j l : Nat) : Int) by omega) (by omega), w32_id (show -2147483648 ≤ (p : Int) by omega) (by omega)]
      refine ⟨fun z => by omega, fun _ x_1 ex => ?_⟩
      have fq : p ≤ fstQ j k p ∧ fstQ j k p ≤ l ∧ x_1 = ((fstQ j k p : Nat) : Int) := by
        rw [ex]
        unfold fstQ iMax
        rcases v3 with z | z
        · rw [if_pos z.2.1, z.2.2, w32_id (show -2147483648 ≤ (p : Int) by omega) (by omega), if_neg (by rw [show w32 (-1) = -1 by decide]; omega)]; omega
        · rw [if_neg (by omega), w32_id (show -2147483648 ≤ (p : Int) by omega) (by omega), w32_id (show -2147483648 ≤ k by omega) (by omega)]
          refine ⟨by omega, by omega, ?_⟩
          split <;> omega
      have sF : 0 ≤ sm (fun dp => sm (fun dq => inA σ (12 * t + x) i j k l (i + dp) (fstQ j k (i + dp) + dq)) (l + 1 - fstQ j k (i + dp))) (p - i) := sm_p _ (fun dp _ => F0 _ _)
      refine ⟨l + 1 - fstQ j k p + 1, ?_⟩
      have := inner (fun z0 z1 z2 z3 z4 z5 z6 z7 z8 σ => wp_X0_reckonInner_L84 Q (m + 1) z0 z1 z2 z3 z4 z5 z6 z7 z8 σ) p hp1 (by omega) (a0 + sm (fun dp => sm (fun dq => inA σ (12 * t + x) i j k l (i + dp) (fstQ j k (i + dp) + dq)) (l + 1 - fstQ j k (i + dp))) (p - i)) (by omega) (by
        have := ih (p + 1) (by omega) (by omega) (by omega)
        rw [show p + 1 - i = (p - i) + 1 by omega, sm_1, show i + (p - i) = p by omega, ← Int.add_assoc] at this
        exact this) (l + 1 - fstQ j k p) (fstQ j k p) (Nat.le_refl _) (by omega) rfl
      rw [Nat.sub_self, sm_z0, Int.add_zero] at this
      rw [fq.2.2]
      exact this
  have rP := CB_T hB true (12 * t + x + 1) i j k l
  have fin : ∀ a0 : Int, (0 ≤ a0 ∧ a0 ≤ 1000000000) → (cc σ (12 * t + x) 4 = 2 → Q a0 σ) → (cc σ (12 * t + x) 4 ≠ 2 → Q (cap (a0 + inS σ (12 * t + x) i j k l)) σ) → wp_X0_reckonInner_B32 a1 (i : Int) (l : Int) j k (cc σ (12 * t + x) 4) a0 Q σ := by
    intro a0 ha q1 q2
    unfold wp_X0_reckonInner_B32
    rw [w32_id (show -2147483648 ≤ cc σ (12 * t + x) 4 by omega) (by omega)]
    refine ⟨fun z => sp_cell (t := t) (x := x) (w := 1) h1 rfl (by omega) (by omega) (by omega) ?_, q1⟩
    rw [e1]
    intro x_3 ex3 x_4 ex4
    have := outer a0 ha.1 (q2 z) (lastP j l + 1 - i) i (Nat.le_refl i) (by omega) rfl
    rw [Nat.sub_self, sm_z0, Int.add_zero, cap_id ha.2] at this
    rw [ex3, ex4, h1, show (((12 * t + x : Nat) : Int) + 1) = ((12 * t + x + 1 : Nat) : Int) by omega]
    unfold wp_X0_reckonInner_B79
    rcases v3 with z | z
    · rw [z.2.1]
      refine ⟨fun w => absurd (by decide) w, fun _ => ⟨l + 1 - i + 1, ?_⟩⟩
      rw [lp.2.2.1 z.2.1, z.2.1] at this
      exact this
    · rw [w32_id (show -2147483648 ≤ j by omega) (by omega)]
      refine ⟨fun _ => ⟨lastP j l + 1 - i + 1, ?_⟩, fun w => by omega⟩
      rw [lp.2.2.2 (by omega)] at this
      exact this
  unfold inC at h
  unfold wp_X0_reckonInner
  refine sp_cell (t := t) (x := x) (w := 4) h1 rfl (by omega) (by omega) (by omega) ?_
  rw [e4]
  rw [w32_id (show -2147483648 ≤ cc σ (12 * t + x) 4 by omega) (by omega)]
  refine ⟨fun z => ?_, fun z => ?_⟩
  · rw [if_neg z] at h
    refine sp_partsWays (r := 12 * t + x) hv0 hn (by omega) h1 rfl rfl (fin _ rP (fun w => ?_) (fun w => ?_))
    · rw [if_pos w, Int.add_zero, cap_id rP.2] at h; exact h
    · rw [if_neg w] at h; exact h
  · rw [if_pos z] at h
    refine fin 0 (by omega) (fun w => by omega) (fun w => ?_)
    rw [if_neg w] at h; exact h
/-- what the class lays into a cell -/
def ndC (σ : St) (r i : Nat) (j k : Int) (l : Nat) : Int :=
  if cc σ r 0 = 3 then (if l = i + 1 ∧ σ 18 i = cc σ r 1 then 1 else 0) else if cc σ r 0 = 2 then (if j = (i : Int) ∧ k = (l : Int) then 1 else 0) else if cc σ r 0 = 1 then cI σ (cc σ r 1) i l else cap (inC σ r i j k l)
theorem sp_reckonNode {σ : St} {Q : Int → St → Prop} {g : Int} {t x i l n : Nat} {j k a1 a2 a3 : Int} (ht : t < 16) (hx : x < 12) (h0 : 0 ≤ cc σ (12 * t + x) 0 ∧ cc σ (12 * t + x) 0 ≤ 3) (h0x : cc σ (12 * t + x) 0 = 0 → x + 1 < 12) (h4 : 0 ≤ cc σ (12 * t + x) 4 ∧ cc σ (12 * t + x) 4 ≤ 2) (hnm : 0 ≤ cc σ (12 * t + x) 1 ∧ cc σ (12 * t + x) 1 < 32 ∧ (cc σ (12 * t + x) 0 ≠ 3 → cc σ (12 * t + x) 1 < 16)) (hv : Vs g i j k l n) (h1g : cc σ (12 * t + x) 0 = 1 → g = 0) (hn : n ≤ 8) (hB : CB σ) (hs : ∀ d, d < 8 → -1 ≤ σ 18 d ∧ σ 18 d < 32) (h1 : a1 = ((12 * t + x : Nat) : Int)) (h2 : a2 = (i : Int)) (h3 : a3 = (l : Int))
    (h : Q (ndC σ (12 * t + x) i j k l) σ) : wp_X0_reckonNode a1 a2 a3 j k Q σ := by
  have hv0 := hv
  obtain ⟨v1, v2, v3⟩ := hv
  have e0 : nd σ t x 0 = cc σ (12 * t + x) 0 := rfl
  have e1 : nd σ t x 1 = cc σ (12 * t + x) 1 := rfl
  unfold wp_X0_reckonNode
  refine sp_cell (t := t) (x := x) (w := 1) h1 rfl (by omega) (by omega) (by omega) ?_
  refine sp_cell (t := t) (x := x) (w := 0) h1 rfl (by omega) (by omega) (by omega) ?_
  rw [e0, e1, w32_id (show -2147483648 ≤ cc σ (12 * t + x) 0 by omega) (by omega)]
  have wj : w32 j = j := by rcases v3 with z | z; exact w32_id (by omega) (by omega); exact w32_id (by omega) (by omega)
  have wk : w32 k = k := by rcases v3 with z | z; exact w32_id (by omega) (by omega); exact w32_id (by omega) (by omega)
  rw [wj, wk, w32_id (show -2147483648 ≤ a2 by omega) (by omega), w32_id (show -2147483648 ≤ a3 by omega) (by omega)]
  unfold ndC at h
  refine ⟨fun z => ?_, fun z => ?_, fun z => ?_, fun z => ?_⟩
  · rw [if_neg (by omega), if_neg (by omega), if_pos z] at h
    rcases v3 with w | w
    · exact sp_initialWays (i := i) (l := l) (n := n) ⟨v1, v2, Or.inl ⟨rfl, rfl, rfl⟩⟩ hn (by omega) h2 h3 h
    · have := h1g z; omega
  · rw [if_neg (by omega), if_pos z] at h
    refine ⟨fun y => ?_, fun y => ⟨fun w => ?_, fun w => ?_⟩⟩
    · rw [if_neg (by omega)] at h; exact h
    · rw [if_neg (by omega)] at h; exact h
    · rw [if_pos (by omega)] at h; exact h
  · rw [if_pos z] at h
    rw [w32_id (show -2147483648 ≤ a2 + 1 by omega) (by omega)]
    refine ⟨fun y => ?_, fun y => ⟨by omega, fun w => ?_, fun w => ?_⟩⟩
    · rw [if_neg (by omega)] at h; exact h
    all_goals
      have hsi := hs i (by omega)
      rw [show a2.toNat = i by omega, w32_id (by omega) (by omega), w32_id (by omega) (by omega)] at w
    · rw [if_neg (fun y' => w y'.2)] at h; exact h
    · rw [if_pos ⟨by omega, w⟩] at h; exact h
  · rw [if_neg (by omega), if_neg (by omega), if_neg (by omega)] at h
    exact sp_reckonInner ht (h0x (by omega)) h4 (by omega) hv0 hn hB h1 h2 h3 h
