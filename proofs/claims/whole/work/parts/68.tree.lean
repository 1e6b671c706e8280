/-! pure: the class's tree() -/
noncomputable def bg (σ : St) (t : Nat) : St := su (su (su (su (su (su (su (su σ 12 0 0) 12 1 0) 12 4 0) 12 5 (-1)) 12 9 0) 12 12 0) 10 t 0) 1 4 0
theorem bg_fr (σ : St) {t o k : Nat} (h : ¬ (o = 12 ∧ (k = 0 ∨ k = 1 ∨ k = 4 ∨ k = 5 ∨ k = 9 ∨ k = 12))) (h1 : ¬ (o = 10 ∧ k = t)) (h2 : ¬ (o = 1 ∧ k = 4)) : bg σ t o k = σ o k := by
  unfold bg
  rw [su_ko _ _ (by omega), su_ko _ _ (by omega), su_ko _ _ (by omega), su_ko _ _ (by omega), su_ko _ _ (by omega), su_ko _ _ (by omega), su_ko _ _ (by omega), su_ko _ _ (by omega)]
theorem bg_v (σ : St) (t : Nat) : bg σ t 12 0 = 0 ∧ bg σ t 12 4 = 0 ∧ bg σ t 12 5 = -1 ∧ bg σ t 12 9 = 0 ∧ bg σ t 12 12 = 0 ∧ bg σ t 10 t = 0 ∧ bg σ t 1 4 = 0 := by
  unfold bg
  refine ⟨?_, ?_, ?_, ?_, ?_, ?_, ?_⟩
  · rw [su_ko _ _ (by omega), su_ko _ _ (by omega), su_ko _ _ (by omega), su_ko _ _ (by omega), su_ko _ _ (by omega), su_ko _ _ (by omega), su_ko _ _ (by omega), su_at]
  · rw [su_ko _ _ (by omega), su_ko _ _ (by omega), su_ko _ _ (by omega), su_ko _ _ (by omega), su_ko _ _ (by omega), su_at]
  · rw [su_ko _ _ (by omega), su_ko _ _ (by omega), su_ko _ _ (by omega), su_ko _ _ (by omega), su_at]
  · rw [su_ko _ _ (by omega), su_ko _ _ (by omega), su_ko _ _ (by omega), su_at]
  · rw [su_ko _ _ (by omega), su_ko _ _ (by omega), su_at]
  · rw [su_ko _ _ (by omega), su_at]
  · rw [su_at]
/-- what the class's parser starts from -/
def CT (σ : St) (t : Nat) : Prop := TpI σ ∧ NmI σ 4 8 16 ∧ NmI σ 7 12 32 ∧ σ 3 4 = (t : Int) ∧ t ≤ 16 ∧ (0 ≤ σ 12 8 ∧ σ 12 8 ≤ 2)
theorem bg_I {σ : St} {t : Nat} (h : CT σ t) : PI (bg σ t) t 0 ∧ PK (bg σ t) t 0 ∧ FrT σ (bg σ t) t := by
  obtain ⟨hI, hN4, hN7, h34, ht, hmk⟩ := h
  obtain ⟨v0, v4, v5, v9, v12, v10, v14⟩ := bg_v σ t
  have g : ∀ o k, o ≠ 12 → o ≠ 10 → (o ≠ 1 ∨ k = 1) → bg σ t o k = σ o k := fun o k a b c => bg_fr σ (by omega) (by omega) (by omega)
  refine ⟨⟨TpI_of hI (g 1 1 (by omega) (by omega) (by omega)) (fun k => g 2 k (by omega) (by omega) (by omega)), NmI_of hN4 (g 4 0 (by omega) (by omega) (by omega)) (g 4 3 (by omega) (by omega) (by omega)) (fun k => g 5 k (by omega) (by omega) (by omega)) (fun k => g 6 k (by omega) (by omega) (by omega)), NmI_of hN7 (g 7 0 (by omega) (by omega) (by omega)) (g 7 3 (by omega) (by omega) (by omega)) (fun k => g 8 k (by omega) (by omega) (by omega)) (fun k => g 9 k (by omega) (by omega) (by omega)), by rw [g 3 4 (by omega) (by omega) (by omega)]; exact h34, ht, by rw [v10]; rfl, by omega, by rw [v5]; decide, fun x hx => by omega, by rw [v4]; decide, fun q => by omega, fun q => by rw [v4] at q; exact absurd q (by decide), by rw [v9]; decide, by rw [bg_fr σ (by omega) (by omega) (by omega)]; exact hmk⟩, ?_, ?_⟩
  · unfold PK
    rw [v4, v5, v9, v12]
    exact ⟨PJ_0 _ _, fun x hx => by omega, Or.inr ⟨rfl, fun x hx => by omega⟩, fun q => absurd q (by decide), fun q => by rcases q with q | q <;> exact absurd q (by decide), fun _ x hx => by omega, fun q => absurd q (by decide)⟩
  · exact FrT_of (fun o k a b c d => g o k c a d) (fun k hk => bg_fr σ (by omega) (by omega) (by omega)) (fun t' x w a b c => g 11 _ (by omega) (by omega) (by omega))
noncomputable def jC (σ : St) (t : Nat) : Int := if nd σ t 0 0 ≠ 0 then 4 else if 1 < σ 12 9 then 5 else if σ 12 9 = 1 ∧ σ 12 11 ≠ nd σ t 0 1 then 6 else if σ 12 12 = 0 then 7 else if 16 ≤ t then 8 else 0
noncomputable def jP (σ : St) (t : Nat) : Int := if jC σ t = 5 ∨ jC σ t = 6 then σ 12 10 else 0
noncomputable def jS (σ : St) (t : Nat) : St := if jC σ t = 0 then σ else su (su σ 12 0 (jC σ t)) 12 1 (jP σ t)
theorem sp_refuse {Q : St → Prop} {σ : St} {a b : Int} (h : Q (su (su σ 12 0 a) 12 1 b)) : wp_X5_refuse a b Q σ := by
  unfold wp_X5_refuse
  intro σ1 e1 σ2 e2
  rw [e2, e1]; exact h
theorem sp_judge {Q : St → Prop} {σ : St} {t n : Nat} (hP : PI σ t n) (hK : PK σ t n) (hn : 0 < n) (h : Q (jS σ t)) : wp_X5_judge Q σ := by
  have h34 := hP.2.2.2.1
  have ht := hP.2.2.2.2.1
  have hn12 := hP.2.2.2.2.2.2.1
  have hfe := hP.2.2.2.2.2.2.2.2.2.2.2.2.1
  have hk0 := hK.1.2.2.1 0 hn
  simp only [] at hk0
  have hrow := hK.2.1 0 hn
  have hls := hP.2.1.2.2.1
  have hws := hP.2.2.1.2.2.1
  have hn1r : -1 ≤ nd σ t 0 1 ∧ nd σ t 0 1 ≤ 100 := by
    by_cases q : nd σ t 0 0 = 3
    · have := hrow.2.2.1 q; have := hrow.2.1; omega
    · have := hrow.2.2.2.1 q; have := hrow.2.1; omega
  have h11r : σ 12 9 = 1 → 0 ≤ σ 12 11 ∧ σ 12 11 ≤ 100 := by
    intro q
    obtain ⟨f, a1, a2, a3, -⟩ := hK.2.2.2.2.2.2 q
    have hr := hK.2.1 f a1
    rw [← a3]
    have := hr.2.2.2.1 (by rw [a2]; decide)
    have := hr.2.1
    omega
  have hw := hK.2.2.1
  have e0 : (t : Int) * 12 + 0 = ((12 * t + 0 : Nat) : Int) := by omega
  unfold wp_X5_judge wp_X1_row
  rw [h34]
  refine sp_cell (w := 0) e0 rfl ht (by omega) (by omega) ?_
  rw [w32_id (show -2147483648 ≤ nd σ t 0 0 by omega) (by omega), w32_id (show -2147483648 ≤ σ 12 9 by omega) (by omega)]
  have b90 : nd σ t 0 0 = 0 → ¬ 1 < σ 12 9 → ¬ (σ 12 9 = 1 ∧ σ 12 11 ≠ nd σ t 0 1) → wp_X5_judge_B90 Q σ := by
    intro c1 c2 c3
    unfold wp_X5_judge_B90
    rw [h34, w32_id (show -2147483648 ≤ (t : Int) by omega) (by omega)]
    have hcase : jC σ t = if σ 12 12 = 0 then 7 else if 16 ≤ t then 8 else 0 := by unfold jC; rw [if_neg (fun z => z c1), if_neg c2, if_neg c3]
    unfold jS jP at h
    refine ⟨fun q => ?_, fun q => ?_⟩
    · have q' : ¬ σ 12 12 = 0 := fun z => q (by rw [z]; decide)
      rw [if_neg q'] at hcase
      refine ⟨fun z => ?_, fun z => ?_⟩
      · rw [if_neg (by omega)] at hcase
        rw [hcase, if_pos rfl] at h; exact h
      · rw [if_pos (by omega)] at hcase
        rw [hcase, if_neg (by decide), if_neg (by decide)] at h
        exact sp_refuse h
    · have q' : σ 12 12 = 0 := by
        rcases hw with z | ⟨z, _⟩
        · rw [z] at q; exact absurd q (by decide)
        · exact z
      rw [if_pos q'] at hcase
      rw [hcase, if_neg (by decide), if_neg (by decide)] at h
      exact sp_refuse h
  refine ⟨fun c1 => ⟨fun c2 => ⟨fun c3 => b90 c1 (by omega) (fun z => c3 z.1), fun c3 => ?_⟩, fun c2 => ?_⟩, fun c1 => ?_⟩
  · refine sp_cell (w := 1) e0 rfl ht (by omega) (by omega) ?_
    have hr := h11r c3
    rw [w32_id (show -2147483648 ≤ σ 12 11 by omega) (by omega), w32_id (show -2147483648 ≤ nd σ t 0 1 by omega) (by omega)]
    refine ⟨fun c4 => b90 c1 (by omega) (fun z => z.2 c4), fun c4 => ?_⟩
    have hcase : jC σ t = 6 := by unfold jC; rw [if_neg (fun z => z c1), if_neg (by omega), if_pos ⟨c3, c4⟩]
    unfold jS jP at h
    rw [hcase, if_neg (by decide), if_pos (Or.inr rfl)] at h
    exact sp_refuse h
  · have hcase : jC σ t = 5 := by unfold jC; rw [if_neg (fun z => z c1), if_pos (by omega)]
    unfold jS jP at h
    rw [hcase, if_neg (by decide), if_pos (Or.inl rfl)] at h
    exact sp_refuse h
  · have hcase : jC σ t = 4 := by unfold jC; rw [if_pos c1]
    unfold jS jP at h
    rw [hcase, if_neg (by decide), if_neg (by decide)] at h
    exact sp_refuse h
theorem jC_r (σ : St) (t : Nat) : jC σ t = 0 ∨ (4 ≤ jC σ t ∧ jC σ t ≤ 8) := by
  unfold jC
  repeat' split
  all_goals omega
/-- the end of a text with a fault -/
noncomputable def tBad (σ σ1 : St) (c : Int) : St := su (su (su (su σ1 4 3 (σ 4 3)) 7 3 (σ 7 3)) 1 1 0) 0 7 c
noncomputable def tOk (σl : St) (t : Nat) : St := su (su (su (su (su (su σl 3 4 ((t + 1 : Nat) : Int)) 1 1 0) 0 7 0) 0 9 (-1)) 23 0 0) 26 0 0
theorem sp_tree {Q : Int → St → Prop} {σ : St} {t : Nat} (hC : CT σ t)
    (hF : ∀ j n', (∀ i, i < j → ¬ cdone (cN (bg σ t) i) ∧ ctC (cN (bg σ t) i) = 0) → ¬ cdone (cN (bg σ t) j) → PI (cN (bg σ t) j) t n' → PK (cN (bg σ t) j) t n' → ctC (cN (bg σ t) j) ≠ 0 → Q (-1 - ((Sc (cN (bg σ t) j) : Nat) : Int)) (tBad σ (cN (bg σ t) (j + 1)) (ctC (cN (bg σ t) j))))
    (hJ : ∀ j n', (∀ i, i < j → ¬ cdone (cN (bg σ t) i) ∧ ctC (cN (bg σ t) i) = 0) → cdone (cN (bg σ t) j) → PI (ld (cN (bg σ t) j)) t n' → PK (ld (cN (bg σ t) j)) t n' → 0 < n' → jC (ld (cN (bg σ t) j)) t ≠ 0 → Q (-1 - jP (ld (cN (bg σ t) j)) t) (tBad σ (jS (ld (cN (bg σ t) j)) t) (jC (ld (cN (bg σ t) j)) t)))
    (hO : ∀ j n', (∀ i, i < j → ¬ cdone (cN (bg σ t) i) ∧ ctC (cN (bg σ t) i) = 0) → cdone (cN (bg σ t) j) → PI (ld (cN (bg σ t) j)) t n' → PK (ld (cN (bg σ t) j)) t n' → 0 < n' → jC (ld (cN (bg σ t) j)) t = 0 → ∀ σl, LI (ld (cN (bg σ t) j)) σl t n' 0 → Q (t : Int) (tOk σl t)) : wp_X8_tree Q σ := by
  obtain ⟨hPb, hKb, hFb⟩ := bg_I hC
  obtain ⟨v0, v4, v5, v9, v12, v10, v14⟩ := bg_v σ t
  have h34 := hC.2.2.2.1
  have ht := hC.2.2.2.2.1
  have hp0 : pOf (bg σ t) = 0 := by unfold pOf; rw [v14]; rfl
  have inv := chain_inv hPb hKb (by rw [v14]; decide) (by rw [hp0]; exact Nat.zero_le _)
  unfold wp_X8_tree wp_X5_parse
  intro x1 e1 x2 e2
  have fault : ∀ (σ1 : St) (c pl : Int), σ1 12 0 = c → c ≠ 0 → (1 ≤ c ∧ c ≤ 8) → σ1 12 1 = pl → Q (-1 - pl) (tBad σ σ1 c) → wp_X5_parse_B41 x1 x2 (fun σ1 => ∀ σ2 : St, σ2 = su σ1 1 1 0 → ∀ σ3 : St, σ3 = su σ2 0 7 (σ2 12 0) → (w32 (σ3 0 7) = 0 → wp_X8_forgetReading (fun σ4 => Q ((σ4 3 4) - 1) σ4) σ3) ∧ (¬ w32 (σ3 0 7) = 0 → Q ((-1) - (σ3 12 1)) σ3)) σ1 := by
    intro σ1 c pl hc0 hc1 hc2 hpl hq
    unfold wp_X5_parse_B41
    rw [hc0, w32_id (by omega) (by omega)]
    refine ⟨fun q => absurd q hc1, fun _ σ3 e3 σ4 e4 σ5 e5 σ6 e6 => ?_⟩
    have f0 : σ5 12 0 = c := by rw [e5, su_ko _ _ (by omega), e4, su_ko _ _ (by omega), e3, su_ko _ _ (by omega)]; exact hc0
    have f1 : σ6 12 1 = pl := by rw [e6, su_ko _ _ (by omega), e5, su_ko _ _ (by omega), e4, su_ko _ _ (by omega), e3, su_ko _ _ (by omega)]; exact hpl
    have f7 : σ6 0 7 = c := by rw [e6, su_at]; exact f0
    rw [f7, f1, w32_id (by omega) (by omega)]
    refine ⟨fun q => absurd q hc1, fun _ => ?_⟩
    have : σ6 = tBad σ σ1 c := by unfold tBad; rw [e6, f0, e5, e4, e3, e1, e2]
    rw [this]; exact hq
  unfold wp_X5_begin wp_X4_rewind
  intro a1 f1 a2 f2 a3 f3 a4 f4 a5 f5 a6 f6
  have g34 : a6 3 4 = (t : Int) := by rw [f6, su_ko _ _ (by omega), f5, su_ko _ _ (by omega), f4, su_ko _ _ (by omega), f3, su_ko _ _ (by omega), f2, su_ko _ _ (by omega), f1, su_ko _ _ (by omega)]; exact h34
  rw [g34, w32_id (by omega) (by omega), show ((t : Int)).toNat = t by omega]
  refine ⟨by omega, fun a7 f7 a8 f8 => ?_⟩
  have hbg : a8 = bg σ t := by rw [f8, f7, f6, f5, f4, f3, f2, f1]; rfl
  rw [hbg]
  refine sp_takeTokens hPb v14 v0 (fun j n1 hch hd hPj => ?_) (fun j n1 hch hnd hPj hz => ?_)
  · obtain ⟨n', a1, a2, a3, a4, a5⟩ := inv j hch
    have hPl : PI (ld (cN (bg σ t) j)) t n' := PI_tf a1 (Tf_tk _ _)
    have hKl : PK (ld (cN (bg σ t) j)) t n' := PK_tf a2 (fun o k h1 _ => Tf_tk _ _ o k (by omega))
    have hn0 : 0 < n' := (a2.1.2.2.2.2.2.2.2.2.1 hd.2).1
    have hc0 : ld (cN (bg σ t) j) 12 0 = 0 := by
      rw [show ld (cN (bg σ t) j) 12 0 = cN (bg σ t) j 12 0 from Tf_tk _ _ 12 0 (by omega)]
      cases j with
      | zero => exact v0
      | succ j => show ctS (cN (bg σ t) j) 12 0 = 0; rw [(ctS_1 _).2.2.2.1]; exact (hch j (by omega)).2
    rw [hc0]
    refine ⟨fun q => absurd w32_0 q, fun _ => ?_⟩
    refine sp_judge hPl hKl hn0 ?_
    by_cases hj : jC (ld (cN (bg σ t) j)) t = 0
    · have hjs : jS (ld (cN (bg σ t) j)) t = ld (cN (bg σ t) j) := by unfold jS; rw [if_pos hj]
      rw [hjs]
      unfold wp_X5_parse_B41
      rw [hc0]
      refine ⟨fun _ => ?_, fun q => absurd w32_0 q⟩
      rw [hPl.2.2.2.1]
      refine sp_link ht hPl.2.2.2.2.2.2.1 hPl.2.2.2.2.2.1 hKl.1.1 (fun x hx => hKl.1.2.2.1 x hx) (fun x hx k0 => ?_) (fun σl hL => ?_)
      · have d4 : ld (cN (bg σ t) j) 12 4 = 4 := (Tf_tk _ _ 12 4 (by omega)).trans hd.2
        rcases hKl.1.2.2.2.1 x hx k0 with z | z
        · exact z.1
        · have c5 := (hKl.1.2.2.2.2.2.2.2.2.1 d4).2
          have z2 := z.2
          rw [c5] at z2
          omega
      intro σ2 e2 σ3 e3 σ4 e4
      have l34 : σl 3 4 = (t : Int) := by rw [hL.1 3 4 (by omega)]; exact hPl.2.2.2.1
      have l120 : σ3 12 0 = 0 := by rw [e3, su_ko _ _ (by omega), e2, su_ko _ _ (by omega), hL.1 12 0 (by omega)]; exact hc0
      have l07 : σ4 0 7 = 0 := by rw [e4, su_at]; exact l120
      rw [l07]
      refine ⟨fun _ => ?_, fun q => absurd w32_0 q⟩
      unfold wp_X8_forgetReading
      intro b1 h1 b2 h2 b3 h3
      have hb : b3 = tOk σl t := by
        rw [h3, h2, h1, e4, l120, e3, e2, l34]
        unfold tOk
        rw [show (t : Int) + 1 = ((t + 1 : Nat) : Int) by omega]
      have h34' : tOk σl t 3 4 = ((t + 1 : Nat) : Int) := by
        unfold tOk
        rw [su_ko _ _ (by omega), su_ko _ _ (by omega), su_ko _ _ (by omega), su_ko _ _ (by omega), su_ko _ _ (by omega), su_at]
      rw [hb, h34', show ((t + 1 : Nat) : Int) - 1 = (t : Int) by omega]
      exact hO j n' hch hd hPl hKl hn0 hj σl hL
    · have hr := jC_r (ld (cN (bg σ t) j)) t
      refine fault _ (jC (ld (cN (bg σ t) j)) t) (jP (ld (cN (bg σ t) j)) t) ?_ hj (by omega) ?_ (hJ j n' hch hd hPl hKl hn0 hj)
      · unfold jS; rw [if_neg hj, su_ko _ _ (by omega), su_at]
      · unfold jS; rw [if_neg hj, su_at]
  · obtain ⟨n', a1, a2, a3, a4, a5⟩ := inv j hch
    obtain ⟨c1, c2, c3, c4, c5⟩ := ctS_1 (cN (bg σ t) j)
    have hr := ctC_r hz
    have h12 : cN (bg σ t) (j + 1) 12 0 = ctC (cN (bg σ t) j) := c4
    rw [h12]
    refine ⟨fun _ => fault _ (ctC (cN (bg σ t) j)) _ h12 hz (by omega) c5 (hF j n' hch hnd a1 a2 hz), fun q => ?_⟩
    rcases hr with z | z | z <;> rw [z] at q <;> exact absurd q (by decide)
