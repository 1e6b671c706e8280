/-! pure: the reference's jobs -/
theorem lCmp_lt {x y : Int} (hx : -9223372036854775808 ≤ x ∧ x < 9223372036854775808) (hy : -9223372036854775808 ≤ y ∧ y < 9223372036854775808) : w32 (lCmp x y) < 0 ↔ x < y := by
  have := lCmp_ge hx hy
  omega
def JobAt (τ : St) (P u r : Nat) (on : Int) (i : Nat) (j k : Int) (l : Nat) (way : Int) : Prop := τ 27 (7 * P) = (u : Int) ∧ τ 27 (7 * P + 1) = (r : Int) ∧ τ 27 (7 * P + 2) = on ∧ τ 27 (7 * P + 3) = (i : Int) ∧ τ 27 (7 * P + 4) = j ∧ (j ≠ -1 → τ 27 (7 * P + 5) = k) ∧ τ 27 (7 * P + 6) = (l : Int) ∧ τ 28 P = way
def jF (τ τ' : St) (P : Nat) : Prop := ∀ o k, ¬ (o = 0 ∧ k = 48) → ¬ (o = 27 ∧ 7 * P ≤ k ∧ k < 7 * P + 7) → ¬ (o = 28 ∧ k = P) → τ' o k = τ o k
theorem JobAt_fr {τ τ' : St} {P u r i l : Nat} {on j k way : Int} (h : JobAt τ P u r on i j k l way) (h7 : ∀ d, d < 7 → τ' 27 (7 * P + d) = τ 27 (7 * P + d)) (h8 : τ' 28 P = τ 28 P) : JobAt τ' P u r on i j k l way := by
  obtain ⟨a0, a1, a2, a3, a4, a5, a6, a7⟩ := h
  exact ⟨by have := h7 0 (by omega); rw [Nat.add_zero] at this; rw [this]; exact a0, by rw [h7 1 (by omega)]; exact a1, by rw [h7 2 (by omega)]; exact a2, by rw [h7 3 (by omega)]; exact a3, by rw [h7 4 (by omega)]; exact a4, fun q => by rw [h7 5 (by omega)]; exact a5 q, by rw [h7 6 (by omega)]; exact a6, by rw [h8]; exact a7⟩
theorem sp_job {τ : St} {Q : St → Prop} {P u r i l : Nat} {on j k k' way a1 a2 a4 a7 : Int} (hP : τ 0 48 = (P : Int)) (hP2 : P < 200) (hon : on = 0 ∨ on = 1) (h1 : a1 = (u : Int)) (h2 : a2 = (r : Int)) (h4 : a4 = (i : Int)) (h7 : a7 = (l : Int)) (hk : j ≠ -1 → k' = k) (h : ∀ τ', τ' 0 48 = ((P + 1 : Nat) : Int) → JobAt τ' P u r on i j k l way → jF τ τ' P → Q τ') : wp_X9_job a1 a2 on a4 j k' a7 way Q τ := by
  unfold wp_X9_job wp_X9_job_B44
  intro x_1 ex
  rw [hP] at ex
  subst ex
  rw [w32_id (show -2147483648 ≤ 7 * (P : Int) by omega) (by omega), w32_id (show -2147483648 ≤ 7 * (P : Int) + 1 by omega) (by omega), w32_id (show -2147483648 ≤ 7 * (P : Int) + 2 by omega) (by omega), w32_id (show -2147483648 ≤ 7 * (P : Int) + 3 by omega) (by omega), w32_id (show -2147483648 ≤ 7 * (P : Int) + 4 by omega) (by omega), w32_id (show -2147483648 ≤ 7 * (P : Int) + 5 by omega) (by omega), w32_id (show -2147483648 ≤ 7 * (P : Int) + 6 by omega) (by omega)]
  rw [show (7 * (P : Int)).toNat = 7 * P by omega, show (7 * (P : Int) + 1).toNat = 7 * P + 1 by omega, show (7 * (P : Int) + 2).toNat = 7 * P + 2 by omega, show (7 * (P : Int) + 3).toNat = 7 * P + 3 by omega, show (7 * (P : Int) + 4).toNat = 7 * P + 4 by omega, show (7 * (P : Int) + 5).toNat = 7 * P + 5 by omega, show (7 * (P : Int) + 6).toNat = 7 * P + 6 by omega]
  refine ⟨by omega, fun s2 e2 => ⟨by omega, fun s3 e3 => ?_⟩⟩
  have fin : ∀ o : Int, o = on → (0 ≤ 7 * (P : Int) + 2 ∧ 7 * (P : Int) + 2 < 1400) ∧ ∀ σ1 : St, σ1 = su s3 27 (7 * P + 2) o → (0 ≤ 7 * (P : Int) + 3 ∧ 7 * (P : Int) + 3 < 1400) ∧ ∀ σ2 : St, σ2 = su σ1 27 (7 * P + 3) a4 → (0 ≤ 7 * (P : Int) + 4 ∧ 7 * (P : Int) + 4 < 1400) ∧ ∀ σ3 : St, σ3 = su σ2 27 (7 * P + 4) j → (0 ≤ 7 * (P : Int) + 5 ∧ 7 * (P : Int) + 5 < 1400) ∧ ∀ σ4 : St, σ4 = su σ3 27 (7 * P + 5) k' → (0 ≤ 7 * (P : Int) + 6 ∧ 7 * (P : Int) + 6 < 1400) ∧ ∀ σ5 : St, σ5 = su σ4 27 (7 * P + 6) a7 → (0 ≤ w32 (σ5 0 48) ∧ w32 (σ5 0 48) < 200) ∧ ∀ σ6 : St, σ6 = su σ5 28 (w32 (σ5 0 48)).toNat way → ∀ σ7 : St, σ7 = su σ6 0 48 ((σ6 0 48) + 1) → Q σ7 := by
    intro o ho
    refine ⟨by omega, fun s4 e4 => ⟨by omega, fun s5 e5 => ⟨by omega, fun s6 e6 => ⟨by omega, fun s7 e7 => ⟨by omega, fun s8 e8 => ?_⟩⟩⟩⟩⟩
    have p48 : s8 0 48 = (P : Int) := by rw [e8, su_ko _ _ (by omega), e7, su_ko _ _ (by omega), e6, su_ko _ _ (by omega), e5, su_ko _ _ (by omega), e4, su_ko _ _ (by omega), e3, su_ko _ _ (by omega), e2, su_ko _ _ (by omega)]; exact hP
    rw [p48, w32_id (show -2147483648 ≤ (P : Int) by omega) (by omega), show ((P : Int)).toNat = P by omega]
    refine ⟨by omega, fun s9 e9 s10 e10 => ?_⟩
    have f : ∀ k, s10 27 k = s8 27 k := fun k => by rw [e10, su_ko _ _ (by omega), e9, su_ko _ _ (by omega)]
    refine h s10 (by rw [e10, su_at, e9, su_ko _ _ (by omega), p48]; omega) ⟨?_, ?_, ?_, ?_, ?_, ?_, ?_, ?_⟩ (fun o' k'' q1 q2 q3 => ?_)
    · rw [f, e8, su_ko _ _ (by omega), e7, su_ko _ _ (by omega), e6, su_ko _ _ (by omega), e5, su_ko _ _ (by omega), e4, su_ko _ _ (by omega), e3, su_ko _ _ (by omega), e2, su_at]; exact h1
    · rw [f, e8, su_ko _ _ (by omega), e7, su_ko _ _ (by omega), e6, su_ko _ _ (by omega), e5, su_ko _ _ (by omega), e4, su_ko _ _ (by omega), e3, su_at]; exact h2
    · rw [f, e8, su_ko _ _ (by omega), e7, su_ko _ _ (by omega), e6, su_ko _ _ (by omega), e5, su_ko _ _ (by omega), e4, su_at]; exact ho
    · rw [f, e8, su_ko _ _ (by omega), e7, su_ko _ _ (by omega), e6, su_ko _ _ (by omega), e5, su_at]; exact h4
    · rw [f, e8, su_ko _ _ (by omega), e7, su_ko _ _ (by omega), e6, su_at]
    · intro q; rw [f, e8, su_ko _ _ (by omega), e7, su_at]; exact hk q
    · rw [f, e8, su_at]; exact h7
    · rw [e10, su_ko _ _ (by omega), e9, su_at]
    · rw [e10, su_ko _ _ q1, e9, su_ko _ _ q3, e8, su_ko _ _ (by omega), e7, su_ko _ _ (by omega), e6, su_ko _ _ (by omega), e5, su_ko _ _ (by omega), e4, su_ko _ _ (by omega), e3, su_ko _ _ (by omega), e2, su_ko _ _ (by omega)]
  rcases hon with q | q
  · rw [q]
    exact ⟨fun _ => fin 0 q.symm, fun z => absurd w32_0 z⟩
  · rw [q]
    exact ⟨fun z => absurd z (by decide), fun _ => fin 1 q.symm⟩
/-- a use begun, in the reference -/
def tF (τ τ' : St) (U P : Nat) (y : Option Nat) : Prop := ∀ o k, ¬ (o = 0 ∧ (k = 42 ∨ k = 48)) → ¬ (o = 23 ∧ 7 * U ≤ k ∧ k < 7 * U + 7) → ¬ (o = 26 ∧ 12 * U ≤ k ∧ k < 12 * U + 12) → ¬ (o = 26 ∧ y = some k) → ¬ (o = 27 ∧ 7 * P ≤ k ∧ k < 7 * P + 7) → ¬ (o = 28 ∧ k = P) → τ' o k = τ o k
theorem sp_takeTree {τ : St} {Q : St → Prop} {U P t i l : Nat} {ab nd_ j k k' way a1 a4 a7 : Int} {y : Option Nat} (hU : τ 0 42 = (U : Int)) (hU8 : U < 8) (hP : τ 0 48 = (P : Int)) (hP2 : P < 200) (ht : t < 16) (h1 : a1 = (t : Int)) (h4 : a4 = (i : Int)) (h7 : a7 = (l : Int)) (hj : -1 ≤ j ∧ j < 9) (hk : j ≠ -1 → k' = k) (hk1 : j = -1 → k = -1) (hy : (ab = -1 ∧ y = none) ∨ ∃ u x : Nat, u < U ∧ x < 12 ∧ ab = (u : Int) ∧ nd_ = (x : Int) ∧ y = some (12 * u + x))
    (h : ∀ τ', τ' 0 42 = ((U + 1 : Nat) : Int) → τ' 0 48 = ((P + 1 : Nat) : Int) → JobAt τ' P U (12 * t) 0 i j k l way → τ' 23 (7 * U) = (t : Int) → τ' 23 (7 * U + 1) = ab → τ' 23 (7 * U + 2) = nd_ → τ' 23 (7 * U + 3) = (i : Int) → τ' 23 (7 * U + 4) = (l : Int) → τ' 23 (7 * U + 5) = j → τ' 23 (7 * U + 6) = k → (∀ d, d < 12 → τ' 26 (12 * U + d) = -1) → (∀ z, y = some z → τ' 26 z = (U : Int)) → tF τ τ' U P y → Q τ') : wp_X9_takeTree a1 ab nd_ a4 j k' a7 way Q τ := by
  unfold wp_X9_takeTree
  intro x_1 ex
  rw [hU] at ex
  subst ex
  rw [w32_id (show -2147483648 ≤ 7 * (U : Int) by omega) (by omega), w32_id (show -2147483648 ≤ 7 * (U : Int) + 1 by omega) (by omega), w32_id (show -2147483648 ≤ 7 * (U : Int) + 2 by omega) (by omega), w32_id (show -2147483648 ≤ 7 * (U : Int) + 3 by omega) (by omega), w32_id (show -2147483648 ≤ 7 * (U : Int) + 4 by omega) (by omega), w32_id (show -2147483648 ≤ 7 * (U : Int) + 5 by omega) (by omega)]
  rw [show (7 * (U : Int)).toNat = 7 * U by omega, show (7 * (U : Int) + 1).toNat = 7 * U + 1 by omega, show (7 * (U : Int) + 2).toNat = 7 * U + 2 by omega, show (7 * (U : Int) + 3).toNat = 7 * U + 3 by omega, show (7 * (U : Int) + 4).toNat = 7 * U + 4 by omega, show (7 * (U : Int) + 5).toNat = 7 * U + 5 by omega]
  refine ⟨by omega, fun s2 e2 => ⟨by omega, fun s3 e3 => ⟨by omega, fun s4 e4 => ⟨by omega, fun s5 e5 => ⟨by omega, fun s6 e6 => ⟨by omega, fun s7 e7 => ?_⟩⟩⟩⟩⟩⟩
  -- the node links
  have fin : ∀ s8 : St, s8 23 (7 * U) = (t : Int) → s8 23 (7 * U + 1) = ab → s8 23 (7 * U + 2) = nd_ → s8 23 (7 * U + 3) = (i : Int) → s8 23 (7 * U + 4) = (l : Int) → s8 23 (7 * U + 5) = j → s8 23 (7 * U + 6) = k → (∀ o k, ¬ (o = 23 ∧ 7 * U ≤ k ∧ k < 7 * U + 7) → s8 o k = τ o k) → ∃ nn, wp_X9_takeTree_L95 Q nn a1 ab nd_ a4 j k' a7 way 0 s8 := by
    intro s8 b0 b1 b2 b3 b4 b5 b6 bf
    have loop : ∀ (m d : Nat) (s : St), 12 - d = m → d ≤ 12 → (∀ o k, ¬ (o = 26 ∧ 12 * U ≤ k ∧ k < 12 * U + 12) → s o k = s8 o k) → (∀ d', d' < d → s 26 (12 * U + d') = -1) → wp_X9_takeTree_L95 Q (m + 1) a1 ab nd_ a4 j k' a7 way (d : Int) s := by
      intro m
      induction m with
      | zero =>
        intro d s g1 g2 g3 g4
        have su42 : s 0 42 = (U : Int) := by rw [g3 0 42 (by omega), bf 0 42 (by omega)]; exact hU
        unfold wp_X9_takeTree_L95
        rw [w32_id (show -2147483648 ≤ (d : Int) by omega) (by omega)]
        refine ⟨fun _ => ?_, fun z => by omega⟩
        have last : ∀ s1 : St, (∀ o k, ¬ (o = 26 ∧ y = some k) → s1 o k = s o k) → (∀ z, y = some z → s1 26 z = (U : Int)) → wp_X9_takeTree_B144 a1 a4 j k' a7 way Q s1 := by
          intro s1 q1 q2
          unfold wp_X9_takeTree_B144
          intro s9 e9
          have s42 : s9 0 42 = ((U + 1 : Nat) : Int) := by rw [e9, su_at, q1 0 42 (fun z => by omega), su42]; omega
          refine sp_job (P := P) (u := U) (r := 12 * t) (i := i) (l := l) (k := k) (by rw [e9, su_ko _ _ (by omega), q1 0 48 (fun z => by omega), g3 0 48 (by omega), bf 0 48 (by omega)]; exact hP) hP2 (Or.inl rfl) (by rw [s42]; omega) (by rw [h1]; omega) h4 h7 hk (fun τ' p1 p2 p3 => ?_)
          have F : ∀ o k, ¬ (o = 0 ∧ (k = 42 ∨ k = 48)) → ¬ (o = 26 ∧ y = some k) → ¬ (o = 27 ∧ 7 * P ≤ k ∧ k < 7 * P + 7) → ¬ (o = 28 ∧ k = P) → τ' o k = s o k := fun o k r1 r2 r3 r4 => by rw [p3 o k (by omega) r3 r4, e9, su_ko _ _ (by omega), q1 o k r2]
          have F8 : ∀ k, τ' 23 k = s8 23 k := fun k => by rw [F 23 k (by omega) (fun z => by omega) (by omega) (by omega), g3 23 k (by omega)]
          refine h τ' (by rw [p3 0 42 (by omega) (by omega) (by omega)]; exact s42) p1 p2 (by rw [F8]; exact b0) (by rw [F8]; exact b1) (by rw [F8]; exact b2) (by rw [F8]; exact b3) (by rw [F8]; exact b4) (by rw [F8]; exact b5) (by rw [F8]; exact b6) (fun d' hd' => ?_) (fun z hz => ?_) (fun o k r1 r2 r3 r4 r5 r6 => ?_)
          · rw [F 26 _ (by omega) (fun z => ?_) (by omega) (by omega)]
            · exact g4 d' (by omega)
            · rcases hy with w | ⟨u, x, w1, w2, w3, w4, w5⟩
              · rw [w.2] at z; exact absurd z.2 (by simp)
              · rw [w5] at z
                have := Option.some.inj z.2
                omega
          · rw [p3 26 z (by omega) (by omega) (by omega), e9, su_ko _ _ (by omega)]
            exact q2 z hz
          · rw [F o k r1 r4 r5 r6, g3 o k r3]
            exact bf o k r2
        rcases hy with w | ⟨u, x, w1, w2, w3, w4, w5⟩
        · rw [w.1]
          exact ⟨fun _ => last s (fun _ _ _ => rfl) (fun z hz => by rw [w.2] at hz; exact absurd hz (by simp)), fun z => absurd (by decide) z⟩
        · rw [w3, w4, w32_id (show -2147483648 ≤ (u : Int) by omega) (by omega), w32_id (show -2147483648 ≤ 12 * (u : Int) + (x : Int) by omega) (by omega), show (12 * (u : Int) + (x : Int)).toNat = 12 * u + x by omega]
          refine ⟨fun z => by omega, fun _ => ⟨by omega, fun s1 e1 => ?_⟩⟩
          refine last s1 (fun o k q => ?_) (fun z hz => ?_)
          · rw [e1, su_ko _ _ (fun z => q ⟨z.1, by rw [w5, z.2]⟩)]
          · rw [w5] at hz
            have := Option.some.inj hz
            rw [← this, e1, su_at]
            exact su42
      | succ m ih =>
        intro d s g1 g2 g3 g4
        have su42 : s 0 42 = (U : Int) := by rw [g3 0 42 (by omega), bf 0 42 (by omega)]; exact hU
        unfold wp_X9_takeTree_L95
        rw [w32_id (show -2147483648 ≤ (d : Int) by omega) (by omega), su42, w32_id (show -2147483648 ≤ 12 * (U : Int) + (d : Int) by omega) (by omega), show (12 * (U : Int) + (d : Int)).toNat = 12 * U + d by omega]
        refine ⟨fun z => by omega, fun _ => ⟨by omega, fun s1 e1 x_3 ex3 => ?_⟩⟩
        rw [ex3, show (d : Int) + 1 = ((d + 1 : Nat) : Int) by omega]
        refine ih (d + 1) s1 (by omega) (by omega) (fun o k q => by rw [e1, su_ko _ _ (by omega)]; exact g3 o k q) (fun d' hd' => ?_)
        rw [e1]
        by_cases e : d' = d
        · rw [e, su_at]
        · rw [su_ko _ _ (by omega)]; exact g4 d' (by omega)
    exact ⟨_, loop 12 0 s8 rfl (by omega) (fun _ _ _ => rfl) (fun d' hd' => by omega)⟩
  have pre : ∀ v : Int, v = k → wp_X9_takeTree_B91 a1 ab nd_ a4 j k' a7 way (7 * (U : Int) + 6) v Q s7 := by
    intro v hv
    unfold wp_X9_takeTree_B91
    rw [w32_id (show -2147483648 ≤ 7 * (U : Int) + 6 by omega) (by omega), show (7 * (U : Int) + 6).toNat = 7 * U + 6 by omega]
    refine ⟨by omega, fun s8 e8 => fin s8 ?_ ?_ ?_ ?_ ?_ ?_ ?_ (fun o k q => ?_)⟩
    · rw [e8, su_ko _ _ (by omega), e7, su_ko _ _ (by omega), e6, su_ko _ _ (by omega), e5, su_ko _ _ (by omega), e4, su_ko _ _ (by omega), e3, su_ko _ _ (by omega), e2, su_at]; exact h1
    · rw [e8, su_ko _ _ (by omega), e7, su_ko _ _ (by omega), e6, su_ko _ _ (by omega), e5, su_ko _ _ (by omega), e4, su_ko _ _ (by omega), e3, su_at]
    · rw [e8, su_ko _ _ (by omega), e7, su_ko _ _ (by omega), e6, su_ko _ _ (by omega), e5, su_ko _ _ (by omega), e4, su_at]
    · rw [e8, su_ko _ _ (by omega), e7, su_ko _ _ (by omega), e6, su_ko _ _ (by omega), e5, su_at]; exact h4
    · rw [e8, su_ko _ _ (by omega), e7, su_ko _ _ (by omega), e6, su_at]; exact h7
    · rw [e8, su_ko _ _ (by omega), e7, su_at]
    · rw [e8, su_at]; exact hv
    · rw [e8, su_ko _ _ (by omega), e7, su_ko _ _ (by omega), e6, su_ko _ _ (by omega), e5, su_ko _ _ (by omega), e4, su_ko _ _ (by omega), e3, su_ko _ _ (by omega), e2, su_ko _ _ (by omega)]
  rw [w32_id (show -2147483648 ≤ j by omega) (by omega)]
  exact ⟨fun q => pre k' (hk q), fun q => pre (-1) (hk1 q).symm⟩
