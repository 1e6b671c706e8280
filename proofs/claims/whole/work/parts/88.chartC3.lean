/-! pure: what the class reckons for a node -/
/-- how many places the parts lie over at the least -/
def nwC (σ : St) (r : Nat) (j k : Int) : Int := cc σ r 9 + k - j
def inA (σ : St) (r i : Nat) (j k : Int) (l p q : Nat) : Int := cA σ (cc σ r 1) i p q l * cT σ true (r + 1) p j k q
def inT (σ : St) (r i : Nat) (j k : Int) (l p q : Nat) : Int := if (p : Int) + nwC σ r j k ≤ (q : Int) then inA σ r i j k l p q else 0
def inS (σ : St) (r i : Nat) (j k : Int) (l : Nat) : Int := sm (fun dp => sm (fun dq => inT σ r i j k l (i + dp) (fstQ j k (i + dp) + dq)) (l + 1 - fstQ j k (i + dp))) (lastP j l + 1 - i)
def inC (σ : St) (r i : Nat) (j k : Int) (l : Nat) : Int := (if cc σ r 4 = 1 then 0 else cT σ true (r + 1) i j k l) + (if cc σ r 4 = 2 ∨ σ 29 (cc σ r 1).toNat = 0 then 0 else inS σ r i j k l)
/-- where the parts begin at the latest -/
def lpC (σ : St) (r : Nat) (j k : Int) (l : Nat) : Int := if j = -1 then (l : Int) - nwC σ r j k else j
theorem nm_ix {nm : Int} {a : Nat} (h : 0 ≤ nm ∧ nm < 16) (ha : a < 330) : (0 ≤ w32 (nm * 330 + (a : Int)) ∧ w32 (nm * 330 + (a : Int)) < 5280) ∧ (w32 (nm * 330 + (a : Int))).toNat = 330 * nm.toNat + a := by
  rw [w32_id (by omega) (by omega)]; omega
theorem sm_z0 (f : Nat → Int) : sm f 0 = 0 := rfl
theorem sm_1 (f : Nat → Int) (n : Nat) : sm f (n + 1) = sm f n + f n := rfl
theorem sp_reckonInner {σ : St} {Q : Int → St → Prop} {g : Int} {t x i l n : Nat} {j k a1 a2 a3 : Int} (ht : t < 16) (hx : x + 1 < 12) (h4 : 0 ≤ cc σ (12 * t + x) 4 ∧ cc σ (12 * t + x) 4 ≤ 2) (hnm : 0 ≤ cc σ (12 * t + x) 1 ∧ cc σ (12 * t + x) 1 < 16) (h9 : 0 ≤ cc σ (12 * t + x) 9 ∧ cc σ (12 * t + x) 9 ≤ 5000) (h91 : g = 0 → 1 ≤ cc σ (12 * t + x) 9) (h29 : 0 ≤ σ 29 (cc σ (12 * t + x) 1).toNat ∧ σ 29 (cc σ (12 * t + x) 1).toNat ≤ 5000) (hv : Vt g i j k l n) (hn : n ≤ 8) (hB : CB σ) (h1 : a1 = ((12 * t + x : Nat) : Int)) (h2 : a2 = (i : Int)) (h3 : a3 = (l : Int))
    (h : Q (cap (inC σ (12 * t + x) i j k l)) σ) : wp_X0_reckonInner a1 a2 a3 j k Q σ := by
  subst h2 h3
  have hv0 := hv
  obtain ⟨v1, v2, v3⟩ := hv
  have e4 : nd σ t x 4 = cc σ (12 * t + x) 4 := rfl
  have e1 : nd σ t x 1 = cc σ (12 * t + x) 1 := rfl
  have e9 : nd σ t x 9 = cc σ (12 * t + x) 9 := rfl
  have G0 : ∀ p q, 0 ≤ inT σ (12 * t + x) i j k l p q := fun p q => by
    unfold inT
    split
    · exact (mul_b (CB_A hB _ _ _ _ _) (CB_T hB _ _ _ _ _ _)).1
    · exact Int.le_refl 0
  have F0 : ∀ p m, 0 ≤ sm (fun dq => inT σ (12 * t + x) i j k l p (fstQ j k p + dq)) m := fun p m => sm_p _ (fun _ _ => G0 _ _)
  have lp : lastP j l ≤ l ∧ i ≤ lastP j l ∧ (j = -1 → lastP j l = l) ∧ (j ≠ -1 → ((lastP j l : Nat) : Int) = j) := by
    unfold lastP
    rcases v3 with z | z
    · rw [if_pos z.2.1]; omega
    · rw [if_neg (by omega)]; omega
  have nb : 1 ≤ nwC σ (12 * t + x) j k ∧ nwC σ (12 * t + x) j k ≤ 5100 := by
    unfold nwC
    rcases v3 with z | z
    · have := h91 z.1; omega
    · omega
  have lb : -5100 ≤ lpC σ (12 * t + x) j k l ∧ lpC σ (12 * t + x) j k l ≤ ((lastP j l : Nat) : Int) ∧ (j = -1 → lpC σ (12 * t + x) j k l = (l : Int) - nwC σ (12 * t + x) j k) ∧ (j ≠ -1 → lpC σ (12 * t + x) j k l = j) := by
    unfold lpC
    by_cases z : j = -1
    · rw [if_pos z]; have := lp.2.2.1 z; omega
    · rw [if_neg z]; have := lp.2.2.2 z; omega
  have fqa : ∀ p : Nat, i ≤ p → (p : Int) ≤ lpC σ (12 * t + x) j k l → p ≤ fstQ j k p ∧ fstQ j k p ≤ l ∧ (j = -1 → fstQ j k p = p) ∧ (j ≠ -1 → ((fstQ j k p : Nat) : Int) = k) := by
    intro p hp1 hp2
    unfold fstQ
    rcases v3 with z | z
    · rw [if_pos z.2.1]; have := lb.2.2.1 z.2.1; omega
    · rw [if_neg (by omega)]; have := lb.2.2.2 (by omega); omega
  have inner : ∀ (K : Int → Int → Int → Int → Int → Int → Int → Int → Int → Int → St → Prop) (p : Nat), i ≤ p → (p : Int) ≤ lpC σ (12 * t + x) j k l → ∀ (S : Int), 0 ≤ S →
      K a1 (i : Int) (l : Int) j k (cc σ (12 * t + x) 1) (cap (S + sm (fun dq => inT σ (12 * t + x) i j k l p (fstQ j k p + dq)) (l + 1 - fstQ j k p))) (nwC σ (12 * t + x) j k) (lpC σ (12 * t + x) j k l) ((p + 1 : Nat) : Int) σ →
      ∀ (m q : Nat), fstQ j k p ≤ q → (p : Int) + nwC σ (12 * t + x) j k ≤ (q : Int) → q ≤ l + 1 → l + 1 - q = m → wp_X0_reckonInner_L108 K Q (m + 1) a1 (i : Int) (l : Int) j k (cc σ (12 * t + x) 1) (cap (S + sm (fun dq => inT σ (12 * t + x) i j k l p (fstQ j k p + dq)) (q - fstQ j k p))) (nwC σ (12 * t + x) j k) (lpC σ (12 * t + x) j k l) (p : Int) (q : Int) σ := by
    intro K p hp1 hp2 S hS hK m
    have fq := fqa p hp1 hp2
    induction m with
    | zero =>
      intro q hq1 hq0 hq2 hm
      unfold wp_X0_reckonInner_L108
      rw [w32_id (show -2147483648 ≤ (l : Int) by omega) (by omega), w32_id (show -2147483648 ≤ (q : Int) by omega) (by omega)]
      refine ⟨fun _ x_1 ex => ?_, fun z => by omega⟩
      rw [ex, show (p : Int) + 1 = ((p + 1 : Nat) : Int) by omega, show q - fstQ j k p = l + 1 - fstQ j k p by omega]
      exact hK
    | succ m ih =>
      intro q hq1 hq0 hq2 hm
      unfold wp_X0_reckonInner_L108
      rw [w32_id (show -2147483648 ≤ (l : Int) by omega) (by omega), w32_id (show -2147483648 ≤ (q : Int) by omega) (by omega)]
      refine ⟨fun z => by omega, fun _ => ?_⟩
      have vA : Vt 1 i (p : Int) (q : Int) l n := ⟨v1, v2, Or.inr ⟨rfl, by omega, by omega, by omega⟩⟩
      have vT : Vt g p j k q n := ⟨by omega, by omega, by
        rcases v3 with z | z
        · exact Or.inl z
        · have := lb.2.2.2 (by omega)
          have := fq.2.2.2 (by omega)
          exact Or.inr ⟨z.1, by omega, z.2.2.1, by omega⟩⟩
      refine sp_at vA hn rfl rfl ?_
      have bA := nm_ix hnm (at_lt vA hn).1
      refine ⟨bA.1, fun x_4 ex4 => ?_⟩
      rw [bA.2] at ex4
      have rA := CB_A hB (cc σ (12 * t + x) 1) i p q l
      have eA : x_4 = cA σ (cc σ (12 * t + x) 1) i p q l := ex4.trans (show w32 (cA σ (cc σ (12 * t + x) 1) i p q l) = _ from w32_id (by omega) (by omega))
      have rT := CB_T hB true (12 * t + x + 1) p j k q
      have m2 := mul_b rA rT
      have S1 : 0 ≤ S + sm (fun dq => inT σ (12 * t + x) i j k l p (fstQ j k p + dq)) (q - fstQ j k p) := by have := F0 p (q - fstQ j k p); omega
      have c1 := cap_r S1
      have es : S + sm (fun dq => inT σ (12 * t + x) i j k l p (fstQ j k p + dq)) (q + 1 - fstQ j k p) = (S + sm (fun dq => inT σ (12 * t + x) i j k l p (fstQ j k p + dq)) (q - fstQ j k p)) + cA σ (cc σ (12 * t + x) 1) i p q l * cT σ true (12 * t + x + 1) p j k q := by
        rw [show q + 1 - fstQ j k p = (q - fstQ j k p) + 1 by omega, sm_1, show fstQ j k p + (q - fstQ j k p) = q by omega, Int.add_assoc]
        congr 2
        unfold inT
        rw [if_pos hq0]
        rfl
      have nxt : ∀ v : Int, v = cap (S + sm (fun dq => inT σ (12 * t + x) i j k l p (fstQ j k p + dq)) (q + 1 - fstQ j k p)) → wp_X0_reckonInner_B171 K (fun z0 z1 z2 z3 z4 z5 z6 z7 z8 z9 z10 σ => wp_X0_reckonInner_L108 K Q (m + 1) z0 z1 z2 z3 z4 z5 z6 z7 z8 z9 z10 σ) a1 (i : Int) (l : Int) j k (cc σ (12 * t + x) 1) v (nwC σ (12 * t + x) j k) (lpC σ (12 * t + x) j k l) (p : Int) (q : Int) Q σ := by
        intro v hv'
        unfold wp_X0_reckonInner_B171
        intro x_1 ex
        rw [ex, hv', show (q : Int) + 1 = ((q + 1 : Nat) : Int) by omega]
        exact ih (q + 1) (by omega) (by omega) (by omega) (by omega)
      rw [eA, lCmp_0 (by omega)]
      refine ⟨fun z => nxt _ ?_, fun _ => ?_⟩
      · rw [es, z, Int.zero_mul, Int.add_zero]
      · refine sp_partsWays (r := 12 * t + x) vT hn (by omega) h1 rfl rfl ?_
        rw [w32_id (show -2147483648 ≤ cT σ true (12 * t + x + 1) p j k q by omega) (by omega), w32_id (show -2147483648 ≤ cap (S + sm (fun dq => inT σ (12 * t + x) i j k l p (fstQ j k p + dq)) (q - fstQ j k p)) by omega) (by omega)]
        refine sp_cut (by omega) (nxt _ ?_)
        rw [es, cap_add S1 m2.1]
  have outer : ∀ (a0 : Int), 0 ≤ a0 → Q (cap (a0 + inS σ (12 * t + x) i j k l)) σ → ∀ (m p : Nat), i ≤ p → (p : Int) ≤ lpC σ (12 * t + x) j k l + 1 → (lpC σ (12 * t + x) j k l + 1 - (p : Int)).toNat = m → wp_X0_reckonInner_L89 Q (m + 1) a1 (i : Int) (l : Int) j k (cc σ (12 * t + x) 1) (cap (a0 + sm (fun dp => sm (fun dq => inT σ (12 * t + x) i j k l (i + dp) (fstQ j k (i + dp) + dq)) (l + 1 - fstQ j k (i + dp))) (p - i))) (nwC σ (12 * t + x) j k) (lpC σ (12 * t + x) j k l) (p : Int) σ := by
    intro a0 h0 hQ m
    induction m with
    | zero =>
      intro p hp1 hp2 hm
      unfold wp_X0_reckonInner_L89
      rw [w32_id (show -2147483648 ≤ lpC σ (12 * t + x) j k l by omega) (by omega), w32_id (show -2147483648 ≤ (p : Int) by omega) (by omega)]
      refine ⟨fun _ => ?_, fun z => by omega⟩
      unfold inS at hQ
      rw [sm_ext (a := p - i) (lastP j l + 1 - i) (by omega) (fun d a b => sm_0 _ (fun dq hdq => ?_))] at hQ
      · exact hQ
      · unfold inT
        rw [if_neg ?_]
        by_cases z : j = -1
        · have := lb.2.2.1 z
          omega
        · have := lb.2.2.2 z
          have := lp.2.2.2 z
          omega
    | succ m ih =>
      intro p hp1 hp2 hm
      have hp3 : (p : Int) ≤ lpC σ (12 * t + x) j k l := by omega
      have fq := fqa p hp1 hp3
      unfold wp_X0_reckonInner_L89
      rw [w32_id (show -2147483648 ≤ lpC σ (12 * t + x) j k l by omega) (by omega), w32_id (show -2147483648 ≤ (p : Int) by omega) (by omega)]
      refine ⟨fun z => by omega, fun _ x_1 ex => ?_⟩
      have xq : x_1 = (if (p : Int) + nwC σ (12 * t + x) j k < k then k else (p : Int) + nwC σ (12 * t + x) j k) := by
        rw [ex]
        unfold iMax
        have wk : w32 k = k := by rcases v3 with z | z; exact w32_id (by omega) (by omega); exact w32_id (by omega) (by omega)
        rw [wk, w32_id (show -2147483648 ≤ (p : Int) + nwC σ (12 * t + x) j k by omega) (by omega)]
      have xr : ((fstQ j k p : Nat) : Int) ≤ x_1 ∧ (p : Int) + nwC σ (12 * t + x) j k ≤ x_1 ∧ x_1 ≤ 6000 ∧ (∀ q : Nat, fstQ j k p ≤ q → (q : Int) < x_1 → ¬ (p : Int) + nwC σ (12 * t + x) j k ≤ (q : Int)) := by
        rw [xq]
        by_cases z : j = -1
        · have f1 := fq.2.2.1 z
          have kk : k = -1 := by rcases v3 with w | w <;> omega
          rw [if_neg (by omega)]
          refine ⟨by omega, by omega, by omega, fun q _ hq => by omega⟩
        · have f1 := fq.2.2.2 z
          split
          · refine ⟨by omega, by omega, by rcases v3 with w | w <;> omega, fun q _ hq => by omega⟩
          · refine ⟨by omega, by omega, by omega, fun q _ hq => by omega⟩
      have sF : 0 ≤ sm (fun dp => sm (fun dq => inT σ (12 * t + x) i j k l (i + dp) (fstQ j k (i + dp) + dq)) (l + 1 - fstQ j k (i + dp))) (p - i) := sm_p _ (fun dp _ => F0 _ _)
      have hK := ih (p + 1) (by omega) (by omega) (by omega)
      rw [show p + 1 - i = (p - i) + 1 by omega, sm_1, show i + (p - i) = p by omega, ← Int.add_assoc] at hK
      by_cases out : (l : Int) < x_1
      · refine ⟨1, ?_⟩
        unfold wp_X0_reckonInner_L108
        rw [w32_id (show -2147483648 ≤ (l : Int) by omega) (by omega), w32_id (show -2147483648 ≤ x_1 by omega) (by omega)]
        refine ⟨fun _ x_2 ex2 => ?_, fun z => absurd out z⟩
        rw [ex2, show (p : Int) + 1 = ((p + 1 : Nat) : Int) by omega]
        rw [sm_0 (f := fun dq => inT σ (12 * t + x) i j k l p (fstQ j k p + dq)) (l + 1 - fstQ j k p) (fun dq hdq => by unfold inT; rw [if_neg (xr.2.2.2 (fstQ j k p + dq) (by omega) (by omega))]), Int.add_zero] at hK
        exact hK
      · have := inner (fun z0 z1 z2 z3 z4 z5 z6 z7 z8 z9 σ => wp_X0_reckonInner_L89 Q (m + 1) z0 z1 z2 z3 z4 z5 z6 z7 z8 z9 σ) p hp1 hp3 (a0 + sm (fun dp => sm (fun dq => inT σ (12 * t + x) i j k l (i + dp) (fstQ j k (i + dp) + dq)) (l + 1 - fstQ j k (i + dp))) (p - i)) (by omega) hK (l + 1 - x_1.toNat) x_1.toNat (by omega) (by omega) (by omega) rfl
        rw [sm_0 (f := fun dq => inT σ (12 * t + x) i j k l p (fstQ j k p + dq)) (x_1.toNat - fstQ j k p) (fun dq hdq => by unfold inT; rw [if_neg (xr.2.2.2 (fstQ j k p + dq) (by omega) (by omega))]), Int.add_zero, show ((x_1.toNat : Nat) : Int) = x_1 by omega] at this
        exact ⟨_, this⟩
  have rP := CB_T hB true (12 * t + x + 1) i j k l
  have fin : ∀ a0 : Int, (0 ≤ a0 ∧ a0 ≤ 1000000000) → ((cc σ (12 * t + x) 4 = 2 ∨ σ 29 (cc σ (12 * t + x) 1).toNat = 0) → Q a0 σ) → (¬ (cc σ (12 * t + x) 4 = 2 ∨ σ 29 (cc σ (12 * t + x) 1).toNat = 0) → Q (cap (a0 + inS σ (12 * t + x) i j k l)) σ) → wp_X0_reckonInner_B43 a1 (i : Int) (l : Int) j k (cc σ (12 * t + x) 4) (cc σ (12 * t + x) 1) a0 Q σ := by
    intro a0 ha q1 q2
    unfold wp_X0_reckonInner_B43
    rw [w32_id (show -2147483648 ≤ cc σ (12 * t + x) 4 by omega) (by omega), w32_id (show -2147483648 ≤ cc σ (12 * t + x) 1 by omega) (by omega), w32_id (show -2147483648 ≤ σ 29 (cc σ (12 * t + x) 1).toNat by omega) (by omega)]
    refine ⟨fun z => q1 (Or.inl z), fun z4 => ⟨hnm, fun z29 => ?_, fun z => q1 (Or.inr z)⟩⟩
    have hQ := q2 (fun z => z.elim z4 z29)
    unfold wp_X0_narrowest wp_X0_lastBegin
    refine sp_cell (t := t) (x := x) (w := 9) h1 rfl (by omega) (by omega) (by omega) ?_
    rw [e9]
    have base : ∃ nn, wp_X0_reckonInner_L89 Q nn a1 (i : Int) (l : Int) j k (cc σ (12 * t + x) 1) a0 (nwC σ (12 * t + x) j k) (lpC σ (12 * t + x) j k l) (i : Int) σ := by
      by_cases q : (i : Int) ≤ lpC σ (12 * t + x) j k l + 1
      · have := outer a0 ha.1 hQ _ i (Nat.le_refl i) q rfl
        rw [Nat.sub_self, sm_z0, Int.add_zero, cap_id ha.2] at this
        exact ⟨_, this⟩
      · refine ⟨1, ?_⟩
        unfold wp_X0_reckonInner_L89
        rw [w32_id (show -2147483648 ≤ lpC σ (12 * t + x) j k l by omega) (by omega), w32_id (show -2147483648 ≤ (i : Int) by omega) (by omega)]
        refine ⟨fun _ => ?_, fun z => by omega⟩
        unfold inS at hQ
        rw [sm_0 (f := fun dp => sm (fun dq => inT σ (12 * t + x) i j k l (i + dp) (fstQ j k (i + dp) + dq)) (l + 1 - fstQ j k (i + dp))) (lastP j l + 1 - i) (fun dp hdp => sm_0 _ (fun dq hdq => ?_)), Int.add_zero, cap_id ha.2] at hQ
        · exact hQ
        · unfold inT
          rw [if_neg ?_]
          by_cases z : j = -1
          · have := lb.2.2.1 z
            omega
          · have := lb.2.2.2 z
            have := lp.2.2.2 z
            omega
    show (¬ w32 j = -1 → ∃ nn, wp_X0_reckonInner_L89 Q nn a1 (i : Int) (l : Int) j k (cc σ (12 * t + x) 1) a0 (nwC σ (12 * t + x) j k) j (i : Int) σ) ∧ (w32 j = -1 → ∃ nn, wp_X0_reckonInner_L89 Q nn a1 (i : Int) (l : Int) j k (cc σ (12 * t + x) 1) a0 (nwC σ (12 * t + x) j k) ((l : Int) - nwC σ (12 * t + x) j k) (i : Int) σ)
    have wj : w32 j = j := by rcases v3 with z | z; exact w32_id (by omega) (by omega); exact w32_id (by omega) (by omega)
    rw [wj]
    refine ⟨fun z => ?_, fun z => ?_⟩
    · rw [lb.2.2.2 z] at base; exact base
    · rw [lb.2.2.1 z] at base; exact base
  unfold inC at h
  unfold wp_X0_reckonInner
  refine sp_cell (t := t) (x := x) (w := 4) h1 rfl (by omega) (by omega) (by omega) ?_
  refine sp_cell (t := t) (x := x) (w := 1) h1 rfl (by omega) (by omega) (by omega) ?_
  rw [e4, e1]
  rw [w32_id (show -2147483648 ≤ cc σ (12 * t + x) 4 by omega) (by omega)]
  refine ⟨fun z => ?_, fun z => ?_⟩
  · rw [if_neg z] at h
    refine sp_partsWays (r := 12 * t + x) hv0 hn (by omega) h1 rfl rfl (fin _ rP (fun w => ?_) (fun w => ?_))
    · rw [if_pos w, Int.add_zero, cap_id rP.2] at h; exact h
    · rw [if_neg w] at h; exact h
  · rw [if_pos z] at h
    refine fin 0 (by omega) (fun w => ?_) (fun w => ?_)
    · rw [if_pos w, Int.add_zero, cap_0] at h; exact h
    · rw [if_neg w] at h; exact h
/-- what the class lays into a cell -/
def ndC (σ : St) (r i : Nat) (j k : Int) (l : Nat) : Int :=
  if cc σ r 0 = 3 then (if l = i + 1 ∧ σ 18 i = cc σ r 1 then 1 else 0) else if cc σ r 0 = 2 then (if j = (i : Int) ∧ k = (l : Int) then 1 else 0) else if cc σ r 0 = 1 then cI σ (cc σ r 1) i l else cap (inC σ r i j k l)
theorem sp_reckonNode {σ : St} {Q : Int → St → Prop} {g : Int} {t x i l n : Nat} {j k a1 a2 a3 : Int} (ht : t < 16) (hx : x < 12) (h0 : 0 ≤ cc σ (12 * t + x) 0 ∧ cc σ (12 * t + x) 0 ≤ 3) (h0x : cc σ (12 * t + x) 0 = 0 → x + 1 < 12) (h4 : 0 ≤ cc σ (12 * t + x) 4 ∧ cc σ (12 * t + x) 4 ≤ 2) (hnm : 0 ≤ cc σ (12 * t + x) 1 ∧ cc σ (12 * t + x) 1 < 32 ∧ (cc σ (12 * t + x) 0 ≠ 3 → cc σ (12 * t + x) 1 < 16)) (h9 : 0 ≤ cc σ (12 * t + x) 9 ∧ cc σ (12 * t + x) 9 ≤ 5000) (h91 : g = 0 → 1 ≤ cc σ (12 * t + x) 9) (h29 : ∀ d, d < 16 → 0 ≤ σ 29 d ∧ σ 29 d ≤ 5000) (hv : Vt g i j k l n) (h1g : cc σ (12 * t + x) 0 = 1 → g = 0) (hn : n ≤ 8) (hB : CB σ) (hs : ∀ d, d < 8 → -1 ≤ σ 18 d ∧ σ 18 d < 32) (h1 : a1 = ((12 * t + x : Nat) : Int)) (h2 : a2 = (i : Int)) (h3 : a3 = (l : Int))
    (h : Q (ndC σ (12 * t + x) i j k l) σ) : wp_X0_reckonNode a1 a2 a3 j k Q σ := by
  have hv0 := hv
  obtain ⟨v1, v2, v3⟩ := hv
  have e0 : nd σ t x 0 = cc σ (12 * t + x) 0 := rfl
  have e1 : nd σ t x 1 = cc σ (12 * t + x) 1 := rfl
  unfold wp_X0_reckonNode
  refine sp_cell (t := t) (x := x) (w := 1) h1 rfl (by omega) (by omega) (by omega) ?_
  refine sp_cell (t := t) (x := x) (w := 0) h1 rfl (by omega) (by omega) (by omega) ?_
  rw [e0, e1, w32_id (show -2147483648 ≤ cc σ (12 * t + x) 0 by omega) (by omega)]
  have wj : w32 j = j := by rcases v3 with z | z; exact w32_id (by omega) (by omega); exact w32_id (by omega) (by omega)
  have wk : w32 k = k := by rcases v3 with z | z; exact w32_id (by omega) (by omega); exact w32_id (by omega) (by omega)
  rw [wj, wk, w32_id (show -2147483648 ≤ a2 by omega) (by omega), w32_id (show -2147483648 ≤ a3 by omega) (by omega)]
  unfold ndC at h
  refine ⟨fun z => ?_, fun z => ?_, fun z => ?_, fun z => ?_⟩
  · rw [if_neg (by omega), if_neg (by omega), if_pos z] at h
    rcases v3 with w | w
    · exact sp_initialWays (i := i) (l := l) (n := n) ⟨v1, v2, Or.inl ⟨rfl, rfl, rfl⟩⟩ hn (by omega) h2 h3 h
    · have := h1g z; omega
  · rw [if_neg (by omega), if_pos z] at h
    refine ⟨fun y => ?_, fun y => ⟨fun w => ?_, fun w => ?_⟩⟩
    · rw [if_neg (by omega)] at h; exact h
    · rw [if_neg (by omega)] at h; exact h
    · rw [if_pos (by omega)] at h; exact h
  · rw [if_pos z] at h
    rw [w32_id (show -2147483648 ≤ a2 + 1 by omega) (by omega)]
    refine ⟨fun y => ?_, fun y => ⟨by omega, fun w => ?_, fun w => ?_⟩⟩
    · rw [if_neg (by omega)] at h; exact h
    all_goals
      have hsi := hs i (by omega)
      rw [show a2.toNat = i by omega, w32_id (by omega) (by omega), w32_id (by omega) (by omega)] at w
    · rw [if_neg (fun y' => w y'.2)] at h; exact h
    · rw [if_pos ⟨by omega, w⟩] at h; exact h
  · rw [if_neg (by omega), if_neg (by omega), if_neg (by omega)] at h
    have hn16 := hnm.2.2 (by omega)
    exact sp_reckonInner ht (h0x (by omega)) h4 (by omega) h9 h91 (h29 _ (by omega)) hv0 hn hB h1 h2 h3 h
