theorem leafS_fr (σ : St) {t n : Nat} {k nme : Int} {o i : Nat} (h : o ≠ 10 ∧ o ≠ 11 ∧ o ≠ 12) : leafS σ t n k nme o i = σ o i := by
  unfold leafS; rw [su_ko _ _ (by omega), aRow_fr _ _ _ _ _ _ (by omega) (by omega)]
theorem openS_fr (σ : St) {t n : Nat} {o i : Nat} (h : o ≠ 10 ∧ o ≠ 11 ∧ o ≠ 12) : openS σ t n o i = σ o i := by
  unfold openS; rw [su_ko _ _ (by omega), sn_fr _ _ (by omega), su_ko _ _ (by omega), aRow_fr _ _ _ _ _ _ (by omega) (by omega)]
theorem tokS_fr (σ : St) {t n s e : Nat} {K : Int} {o i : Nat} (h : o < 4 ∨ 12 < o) : tokS σ t n K s e o i = σ o i := by
  have node : nodeS σ t n K s e o i = σ o i := by
    unfold nodeS labS wordS
    split
    · split
      · rw [su_ko _ _ (by omega), su_ko _ _ (by omega), su_ko _ _ (by omega), su_ko _ _ (by omega), tnS_fr _ (by omega) (by omega) (by omega)]
      · rw [leafS_fr _ (by omega), su_ko _ _ (by omega), tnS_fr _ (by omega) (by omega) (by omega)]
    · rfl
  unfold tokS
  split
  · exact node
  split
  · unfold kindS
    split
    · split
      · exact openS_fr _ (by omega)
      split
      · exact leafS_fr _ (by omega)
      split
      · rw [leafS_fr _ (by omega), footS_fr _ (by omega)]
      split
      · rw [su_ko _ _ (by omega), su_ko _ _ (by omega)]
      split
      · rw [su_ko _ _ (by omega), su_ko _ _ (by omega)]
      · rfl
    · rfl
  split
  · split
    · exact openS_fr _ (by omega)
    · rfl
  split
  · split
    · unfold closeS; rw [su_ko _ _ (by omega), su_ko _ _ (by omega)]
    · exact node
  · rfl
def pOf (σ : St) : Nat := (σ 1 4).toNat
def tOf (σ : St) : Nat := (σ 3 4).toNat
def nOf (σ : St) : Nat := nN σ (tOf σ)
def ld (σ : St) : St := tkSt σ (pOf σ)
def Kc (σ : St) : Int := tkK (σ 2) (tlen σ) (pOf σ)
def Sc (σ : St) : Nat := tkS (σ 2) (tlen σ) (pOf σ)
def Ec (σ : St) : Nat := tkE (σ 2) (tlen σ) (pOf σ)
noncomputable def ctC (σ : St) : Int := if Kc σ = 1 then 1 else tokC (ld σ) (nOf σ) (Kc σ) (Sc σ) (Ec σ)
noncomputable def ctT (σ : St) : St := if Kc σ = 1 then ld σ else tokS (ld σ) (tOf σ) (nOf σ) (Kc σ) (Sc σ) (Ec σ)
noncomputable def ctS (σ : St) : St := su (su (ctT σ) 12 0 (ctC σ)) 12 1 (Sc σ : Nat)
noncomputable def cN (σ : St) : Nat → St
  | 0 => σ
  | j + 1 => ctS (cN σ j)
def cdone (σ : St) : Prop := Kc σ = 0 ∧ σ 12 4 = 4
theorem tkE_lt {b : Nat → Int} {len p : Nat} (h : tkK b len p ≠ 0) : tkS b len p < tkE b len p ∧ tkS b len p < len := by
  have hn : ¬ len ≤ tkS b len p := fun q => h (by unfold tkK; simp only []; rw [if_pos q])
  refine ⟨?_, by omega⟩
  unfold tkE
  simp only []
  rw [if_neg hn]
  split
  · exact Nat.lt_of_lt_of_le (Nat.lt_succ_self _) (runTo_ge _ _ _ _)
  · split
    · exact Nat.lt_of_lt_of_le (Nat.lt_succ_self _) (runTo_ge _ _ _ _)
    · omega
theorem tkE_l {b : Nat → Int} {len p : Nat} (h : tkK b len p = 2) : tkE b len p - tkS b len p ≤ 8 ∧ isGr (b (tkS b len p)) = true ∧ tkE b len p = runTo isLb b len (tkS b len p + 1) := by
  have hn : ¬ len ≤ tkS b len p := fun q => by unfold tkK at h; simp only [] at h; rw [if_pos q] at h; exact absurd h (by decide)
  unfold tkK at h
  simp only [] at h
  unfold tkE
  simp only []
  rw [if_neg hn] at h ⊢
  cases hg : isGr (b (tkS b len p)) with
  | true =>
    rw [hg] at h
    simp only [if_true] at h ⊢
    split at h
    · exact ⟨‹_›, trivial, trivial⟩
    · exact absurd h (by decide)
  | false =>
    rw [hg] at h
    simp only [if_false, Bool.false_eq_true] at h
    split at h
    · split at h <;> exact absurd h (by decide)
    · split at h <;> exact absurd h (by decide)
theorem Tk_ld {σ : St} (hI : TpI σ) (hp : 0 ≤ σ 1 4) (hle : pOf σ ≤ tlen σ) : Tk (ld σ) (Kc σ) (Sc σ) (Ec σ) := by
  obtain ⟨a1, a2, a3⟩ := tk_1 σ (pOf σ)
  have hl := (tlen_eq hI).2
  have w1 := tkE_ge (σ 2) (tlen σ) (pOf σ)
  have w2 := tkE_le (σ 2) hle
  refine ⟨a1, a2, a3, w1, by unfold Ec; omega, tkK_r _ _ _, fun q => (tkE_l q).1, fun q => (tkE_w q).1, fun q => ?_⟩
  have := (tkE_lt (show tkK (σ 2) (tlen σ) (pOf σ) ≠ 0 by rw [show tkK (σ 2) (tlen σ) (pOf σ) = 4 from q]; decide)).2
  unfold Sc; omega
theorem PI_tf {σ σ' : St} {t n : Nat} (hP : PI σ t n) (hf : Tf σ σ') : PI σ' t n := by
  obtain ⟨hI, hN4, hN7, h34, ht, hsz, hn12, hp, hpar, hst, hst2, hst3, hfe, hmk⟩ := hP
  have g : ∀ x i, x ≠ 1 → σ' x i = σ x i := fun x i c => hf x i (by omega)
  have e4 := g 12 4 (by omega)
  have e5 := g 12 5 (by omega)
  exact ⟨(hf.I hI).1, NmI_of hN4 (g 4 0 (by omega)) (g 4 3 (by omega)) (fun k => g 5 k (by omega)) (fun k => g 6 k (by omega)), NmI_of hN7 (g 7 0 (by omega)) (g 7 3 (by omega)) (fun k => g 8 k (by omega)) (fun k => g 9 k (by omega)), by rw [g 3 4 (by omega)]; exact h34, ht, by rw [g 10 t (by omega)]; exact hsz, hn12, by rw [e5]; exact hp, fun x hx => by unfold nd; rw [g 11 _ (by omega)]; exact hpar x hx, by rw [e4]; exact hst, fun q => hst2 (by rw [e4] at q; exact q), fun q => by rw [e5]; exact hst3 (by rw [e4] at q; exact q), by rw [g 12 9 (by omega)]; exact hfe, by rw [g 12 8 (by omega)]; exact hmk⟩
theorem PI_01 {σ : St} {t n : Nat} (hP : PI σ t n) {v w : Int} : PI (su (su σ 12 0 v) 12 1 w) t n := by
  obtain ⟨hI, hN4, hN7, h34, ht, hsz, hn12, hp, hpar, hst, hst2, hst3, hfe, hmk⟩ := hP
  have g : ∀ x i, ¬ (x = 12 ∧ i < 2) → su (su σ 12 0 v) 12 1 w x i = σ x i := fun x i c => by rw [su_ko _ _ (by omega), su_ko _ _ (by omega)]
  have e4 := g 12 4 (by omega)
  have e5 := g 12 5 (by omega)
  exact ⟨TpI_of hI (g 1 1 (by omega)) (fun k => g 2 k (by omega)), NmI_of hN4 (g 4 0 (by omega)) (g 4 3 (by omega)) (fun k => g 5 k (by omega)) (fun k => g 6 k (by omega)), NmI_of hN7 (g 7 0 (by omega)) (g 7 3 (by omega)) (fun k => g 8 k (by omega)) (fun k => g 9 k (by omega)), by rw [g 3 4 (by omega)]; exact h34, ht, by rw [g 10 t (by omega)]; exact hsz, hn12, by rw [e5]; exact hp, fun x hx => by unfold nd; rw [g 11 _ (by omega)]; exact hpar x hx, by rw [e4]; exact hst, fun q => hst2 (by rw [e4] at q; exact q), fun q => by rw [e5]; exact hst3 (by rw [e4] at q; exact q), by rw [g 12 9 (by omega)]; exact hfe, by rw [g 12 8 (by omega)]; exact hmk⟩
theorem ctS_fr (σ : St) {o i : Nat} (h : o < 4 ∨ 12 < o) (h1 : o ≠ 1) : ctS σ o i = σ o i := by
  unfold ctS ctT
  rw [su_ko _ _ (by omega), su_ko _ _ (by omega)]
  split
  · exact Tf_tk σ _ o i (by omega)
  · rw [tokS_fr _ h]; exact Tf_tk σ _ o i (by omega)
theorem ctS_1 (σ : St) : ctS σ 1 1 = σ 1 1 ∧ ctS σ 1 3 = (Sc σ : Nat) ∧ ctS σ 1 4 = (Ec σ : Nat) ∧ ctS σ 12 0 = ctC σ ∧ ctS σ 12 1 = (Sc σ : Nat) := by
  obtain ⟨a1, a2, a3⟩ := tk_1 σ (pOf σ)
  have k : ∀ i, ctS σ 1 i = ld σ 1 i := fun i => by
    unfold ctS ctT
    rw [su_ko _ _ (by omega), su_ko _ _ (by omega)]
    split
    · rfl
    · exact tokS_fr _ (by omega)
  refine ⟨by rw [k 1]; exact Tf_tk σ _ 1 1 (by omega), by rw [k 3]; exact a2, by rw [k 4]; exact a3, ?_, ?_⟩
  · unfold ctS; rw [su_ko _ _ (by omega), su_at]
  · unfold ctS; rw [su_at]
theorem tokC_end {σ : St} {n s e : Nat} (h : σ 12 4 ≠ 4) (hst : 0 ≤ σ 12 4 ∧ σ 12 4 ≤ 4) : tokC σ n 0 s e = 2 := by
  unfold tokC nodeC kindC
  simp only [show ¬ ((0 : Int) = 2) by decide, show ¬ ((0 : Int) = 3) by decide, show ¬ ((0 : Int) = 4) by decide, false_and, if_false, ite_self]
theorem ctC_r {σ : St} (h : ctC σ ≠ 0) : ctC σ = 1 ∨ ctC σ = 2 ∨ ctC σ = 3 := by
  have nod : ∀ (σ : St) (n : Nat) (K : Int) (s e : Nat), nodeC σ n K s e = 0 ∨ nodeC σ n K s e = 2 ∨ nodeC σ n K s e = 3 := by
    intro σ n K s e
    unfold nodeC
    repeat' split
    all_goals simp
  unfold ctC at h ⊢
  split
  · exact Or.inl rfl
  · rename_i q
    rw [if_neg q] at h
    unfold tokC kindC at h ⊢
    have := nod (ld σ) (nOf σ) (Kc σ) (Sc σ) (Ec σ)
    repeat' split
    all_goals simp_all
theorem sp_takeTokens {Q : St → Prop} {σ : St} {t n : Nat} (hP : PI σ t n) (h14 : σ 1 4 = 0) (h0 : σ 12 0 = 0)
    (hdone : ∀ j n', (∀ i, i < j → ¬ cdone (cN σ i) ∧ ctC (cN σ i) = 0) → cdone (cN σ j) → PI (cN σ j) t n' → Q (ld (cN σ j)))
    (hbad : ∀ j n', (∀ i, i < j → ¬ cdone (cN σ i) ∧ ctC (cN σ i) = 0) → ¬ cdone (cN σ j) → PI (cN σ j) t n' → ctC (cN σ j) ≠ 0 → Q (cN σ (j + 1))) : wp_X5_takeTokens Q σ := by
  have key : ∀ (m j n' : Nat), PI (cN σ j) t n' → 0 ≤ cN σ j 1 4 → pOf (cN σ j) ≤ tlen (cN σ j) → tlen (cN σ j) - pOf (cN σ j) ≤ m → j ≤ pOf (cN σ j) → cN σ j 12 0 = 0 → (∀ i, i < j → ¬ cdone (cN σ i) ∧ ctC (cN σ i) = 0) → wp_X5_takeTokens_L2 Q (m + 2) (j : Int) (cN σ j) := by
    intro m
    induction m using Nat.strongRecOn with
    | ind m ih =>
      intro j n' hPj hp hle hm hjp hc0 hch
      have hI := hPj.1
      have h34 := hPj.2.2.2.1
      have ht := hPj.2.2.2.2.1
      have hsz := hPj.2.2.2.2.2.1
      have hl := (tlen_eq hI).2
      have hj1000 : j ≤ 1000 := by omega
      have hto : tOf (cN σ j) = t := by unfold tOf; rw [h34]; omega
      have hno : nOf (cN σ j) = n' := by unfold nOf nN; rw [hto, hsz]; omega
      have hT := Tk_ld hI hp hle
      have hPl : PI (ld (cN σ j)) t n' := PI_tf hPj (Tf_tk _ _)
      have hst := hPj.2.2.2.2.2.2.2.2.2.1
      have e124 : ld (cN σ j) 12 4 = cN σ j 12 4 := Tf_tk _ _ 12 4 (by omega)
      -- the loop after a token that stood
      have cont : ¬ cdone (cN σ j) → ∀ σ1, σ1 = ctS (cN σ j) → ∀ x : Int, x = (j : Int) + 1 → wp_X5_takeTokens_L2 Q (m + 1) x σ1 := by
        intro hnd σ1 e1 x ex
        rw [ex, e1]
        change wp_X5_takeTokens_L2 Q (m + 1) ((j : Int) + 1) (cN σ (j + 1))
        rw [show (j : Int) + 1 = ((j + 1 : Nat) : Int) by omega]
        obtain ⟨c1, c2, c3, c4, c5⟩ := ctS_1 (cN σ j)
        by_cases hz : ctC (cN σ j) = 0
        · -- it stood
          have hK0 : Kc (cN σ j) ≠ 0 := by
            intro q
            unfold ctC at hz
            rw [if_neg (by rw [q]; decide), q] at hz
            have h4 : ld (cN σ j) 12 4 ≠ 4 := by rw [e124]; exact fun z => hnd ⟨q, z⟩
            rw [tokC_end h4 (by rw [e124]; exact hst)] at hz
            exact absurd hz (by decide)
          have hK1 : Kc (cN σ j) ≠ 1 := by
            intro q
            unfold ctC at hz
            rw [if_pos q] at hz
            exact absurd hz (by decide)
          have hz2 : tokC (ld (cN σ j)) (nOf (cN σ j)) (Kc (cN σ j)) (Sc (cN σ j)) (Ec (cN σ j)) = 0 := by unfold ctC at hz; rw [if_neg hK1] at hz; exact hz
          rw [hno] at hz2
          obtain ⟨n2, hP2, -, -⟩ := PI_tok hPl hT hz2
          have hlt := tkE_lt hK0
          have hPn : PI (cN σ (j + 1)) t n2 := by
            show PI (ctS (cN σ j)) t n2
            unfold ctS ctT
            rw [if_neg hK1, hto, hno]
            exact PI_01 hP2
          have hge := tkS_ge (cN σ j 2) (tlen (cN σ j)) (pOf (cN σ j))
          have hle2 := tkE_le (cN σ j 2) hle
          have htl : tlen (cN σ (j + 1)) = tlen (cN σ j) := tlen_of c1
          have hpo : pOf (cN σ (j + 1)) = Ec (cN σ j) := by unfold pOf; show (ctS (cN σ j) 1 4).toNat = _; rw [c3]; omega
          have hEc : Ec (cN σ j) = tkE (cN σ j 2) (tlen (cN σ j)) (pOf (cN σ j)) := rfl
          have hw := ih (m - 1) (by omega) (j + 1) n2 hPn (by show 0 ≤ ctS (cN σ j) 1 4; rw [c3]; omega) (by rw [htl, hpo, hEc]; omega) (by rw [htl, hpo, hEc]; omega) (by rw [hpo, hEc]; omega) (by show ctS (cN σ j) 12 0 = 0; rw [c4, hz]) (fun i hi => by
            by_cases e : i = j
            · rw [e]; exact ⟨hnd, hz⟩
            · exact hch i (by omega))
          rw [show m - 1 + 2 = m + 1 by omega] at hw
          exact hw
        · -- a fault
          have hcr : ctC (cN σ j) = 1 ∨ ctC (cN σ j) = 2 ∨ ctC (cN σ j) = 3 := ctC_r hz
          have hq := hbad j n' hch hnd hPj hz
          unfold wp_X5_takeTokens_L2
          have e0 : cN σ (j + 1) 12 0 = ctC (cN σ j) := c4
          rw [e0, w32_id (show -2147483648 ≤ ((j + 1 : Nat) : Int) by omega) (by omega)]
          refine ⟨fun _ => hq, fun _ => ⟨fun _ => hq, fun z => ?_⟩⟩
          rcases hcr with q | q | q <;> rw [q] at z <;> exact absurd z (by decide)
      have body : ¬ cdone (cN σ j) → wp_X5_takeTokens_B42 (fun z0 σ => wp_X5_takeTokens_L2 Q (m + 1) z0 σ) (j : Int) Q (ld (cN σ j)) := by
        intro hnd
        unfold wp_X5_takeTokens_B42
        have hTK := hT.1
        have hKr := hT.2.2.2.2.2.1
        rw [hTK, w32_id (show -2147483648 ≤ Kc (cN σ j) by omega) (by omega)]
        refine ⟨fun q => ?_, fun q => ?_⟩
        · refine sp_takeToken hPl hT ?_
          unfold wp_X5_takeTokens_B62
          intro σ1 e1 σ2 e2 x ex
          have f13 : σ1 1 3 = (Sc (cN σ j) : Nat) := by rw [e1, su_ko _ _ (by omega), tokS_fr _ (by omega)]; exact hT.2.1
          refine cont hnd σ2 ?_ x ex
          rw [e2, f13, e1]
          unfold ctS ctT ctC
          rw [if_neg q, if_neg q, hto, hno]
        · unfold wp_X5_takeTokens_B62
          intro σ1 e1 σ2 e2 x ex
          have f13 : σ1 1 3 = (Sc (cN σ j) : Nat) := by rw [e1, su_ko _ _ (by omega)]; exact hT.2.1
          refine cont hnd σ2 ?_ x ex
          rw [e2, f13, e1]
          unfold ctS ctT ctC
          rw [if_pos q, if_pos q]
      unfold wp_X5_takeTokens_L2
      rw [w32_id (show -2147483648 ≤ (j : Int) by omega) (by omega), hc0]
      refine ⟨fun q => by omega, fun _ => ⟨fun q => absurd w32_0 q, fun _ => ?_⟩⟩
      refine sp_advance hI (p := pOf (cN σ j)) (by unfold pOf; omega) hle ?_
      have hTK := hT.1
      have hKr := hT.2.2.2.2.2.1
      change (¬ w32 (ld (cN σ j) 1 2) = 0 → wp_X5_takeTokens_B42 _ (j : Int) Q (ld (cN σ j))) ∧ (w32 (ld (cN σ j) 1 2) = 0 → (¬ w32 (ld (cN σ j) 12 4) = 4 → wp_X5_takeTokens_B42 _ (j : Int) Q (ld (cN σ j))) ∧ (w32 (ld (cN σ j) 12 4) = 4 → Q (ld (cN σ j))))
      rw [hTK, e124, w32_id (show -2147483648 ≤ Kc (cN σ j) by omega) (by omega), w32_id (show -2147483648 ≤ cN σ j 12 4 by omega) (by omega)]
      exact ⟨fun q => body (fun z => q z.1), fun q => ⟨fun z => body (fun y => z y.2), fun z => hdone j n' hch ⟨q, z⟩ hPj⟩⟩
  have hp0 : pOf σ = 0 := by unfold pOf; rw [h14]; rfl
  exact ⟨_, key _ 0 n hP (by show 0 ≤ σ 1 4; omega) (by show pOf σ ≤ _; omega) (Nat.le_refl _) (by omega) h0 (fun i hi => by omega)⟩
