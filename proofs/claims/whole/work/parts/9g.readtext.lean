/-! pure: the text of read() -/
def rdCode (b : Nat → Int) (len : Nat) : Int := if tkK b len 0 = 2 then (if tkK b len (tkE b len 0) = 0 then 0 else if tkK b len (tkE b len 0) = 1 then 1 else 2) else if tkK b len 0 = 1 then 1 else 2
def rdPlace (b : Nat → Int) (len : Nat) : Nat := if tkK b len 0 = 2 then tkS b len (tkE b len 0) else tkS b len 0
theorem rd_c {b b' : Nat → Int} {len : Nat} (h : ∀ k, k < len → b k = b' k) : rdCode b len = rdCode b' len ∧ rdPlace b len = rdPlace b' len := by
  unfold rdCode rdPlace
  rw [(tk_c (p := 0) h).2.1, (tk_c (p := 0) h).2.2, (tk_c (p := 0) h).1, (tk_c h).2.1, (tk_c h).1]
  exact ⟨rfl, rfl⟩
def rfC (o k : Nat) : Prop := (o = 0 ∧ (k = 7 ∨ k = 8 ∨ k = 9)) ∨ (o = 1 ∧ 1 ≤ k ∧ k ≤ 4) ∨ (o = 23 ∧ k = 0) ∨ (o = 26 ∧ k = 0)
theorem sp_readC {Q : Int → St → Prop} {σ : St} (hI : TpI σ) (hN : NmI σ 4 8 16)
    (hbad : rdCode (σ 2) (tlen σ) ≠ 0 → ∀ σ' : St, (∀ o k, ¬ rfC o k → σ' o k = σ o k) → σ' 0 7 = rdCode (σ 2) (tlen σ) → σ' 0 9 = -1 → σ' 1 1 = 0 → σ' 23 0 = 0 → σ' 26 0 = 0 → Q (-1 - ((rdPlace (σ 2) (tlen σ) : Nat) : Int)) σ')
    (hok : rdCode (σ 2) (tlen σ) = 0 → tkK (σ 2) (tlen σ) 0 = 2 → ∀ σ' : St, (∀ o k, ¬ rfC o k → σ' o k = σ o k) → σ' 0 7 = 0 → σ' 0 9 = -1 → σ' 1 1 = 0 → σ' 23 0 = 0 → σ' 26 0 = 0 → σ' 0 8 = fdN σ 4 8 (tkS (σ 2) (tlen σ) 0) (tkE (σ 2) (tlen σ) 0) → (¬ w32 (σ' 0 8) = (-1) → wp_X0_fill (fun σ7 => wp_X0_initialWays (σ7 0 8) 0 (σ7 17 0) (fun r9 σ8 => ∀ σ10 : St, σ10 = su σ8 0 9 r9 → wp_X8_read_B92 Q σ10) σ7) σ') ∧ (w32 (σ' 0 8) = (-1) → ∀ σ11 : St, σ11 = su σ' 0 9 0 → wp_X8_read_B92 Q σ11)) : wp_X8_read Q σ := by
  unfold wp_X8_read wp_X8_forgetReading
  intro s1 e1 s2 e2 s3 e3
  unfold wp_X8_parseLabel wp_X4_rewind
  intro r0 er
  have f0 : ∀ o k, ¬ rfC o k → r0 o k = σ o k := fun o k q => by
    unfold rfC at q
    rw [er, su_ko _ _ (by omega), e3, su_ko _ _ (by omega), e2, su_ko _ _ (by omega), e1, su_ko _ _ (by omega)]
  have r11 : r0 1 1 = σ 1 1 := by rw [er, su_ko _ _ (by omega), e3, su_ko _ _ (by omega), e2, su_ko _ _ (by omega), e1, su_ko _ _ (by omega)]
  have r14 : r0 1 4 = 0 := by rw [er, su_at]
  have r09 : r0 0 9 = -1 := by rw [er, su_ko _ _ (by omega), e3, su_ko _ _ (by omega), e2, su_ko _ _ (by omega), e1, su_at]
  have r23 : r0 23 0 = 0 := by rw [er, su_ko _ _ (by omega), e3, su_ko _ _ (by omega), e2, su_at]
  have r26 : r0 26 0 = 0 := by rw [er, su_ko _ _ (by omega), e3, su_at]
  have r2 : r0 2 = σ 2 := by funext k; exact f0 2 k (by unfold rfC; omega)
  have tl : tlen r0 = tlen σ := tlen_of r11
  have hI0 : TpI r0 := ⟨by rw [r11]; exact hI.1, by rw [r11]; exact hI.2.1, fun k => by rw [r2]; exact hI.2.2 k⟩
  have big := (tlen_eq hI).2
  refine sp_advance hI0 (p := 0) (by rw [r14]; rfl) (by omega) ?_
  have k0 := tkK_r (σ 2) (tlen σ) 0
  have a2 : tkSt r0 0 1 2 = tkK (σ 2) (tlen σ) 0 := by unfold tkSt; rw [su_at, r2, tl]
  have a3 : tkSt r0 0 1 3 = ((tkS (σ 2) (tlen σ) 0 : Nat) : Int) := by unfold tkSt; rw [su_ko _ _ (by omega), su_ko _ _ (by omega), su_at, r2, tl]
  have a4 : tkSt r0 0 1 4 = ((tkE (σ 2) (tlen σ) 0 : Nat) : Int) := by unfold tkSt; rw [su_ko _ _ (by omega), su_at, r2, tl]
  have af : ∀ o k, ¬ (o = 1 ∧ (k = 2 ∨ k = 3 ∨ k = 4)) → tkSt r0 0 o k = r0 o k := fun o k q => Tf_tk r0 0 o k q
  -- the end, with a code
  have fin : ∀ (ρ : St) (c : Int) (pl : Nat), (∀ o k, ¬ rfC o k → ρ o k = σ o k) → ρ 0 9 = -1 → ρ 23 0 = 0 → ρ 26 0 = 0 → ρ 1 3 = ((pl : Nat) : Int) → (1 ≤ c ∧ c ≤ 2) → rdCode (σ 2) (tlen σ) = c → rdPlace (σ 2) (tlen σ) = pl → ∀ σ4 : St, σ4 = su ρ 0 7 c → ∀ x_5 : Int, x_5 = σ4 1 3 → ∀ σ6 : St, σ6 = su σ4 1 1 0 → (w32 (σ6 0 7) = 0 → (¬ w32 (σ6 0 8) = (-1) → wp_X0_fill (fun σ7 => wp_X0_initialWays (σ7 0 8) 0 (σ7 17 0) (fun r9 σ8 => ∀ σ10 : St, σ10 = su σ8 0 9 r9 → wp_X8_read_B92 Q σ10) σ7) σ6) ∧ (w32 (σ6 0 8) = (-1) → ∀ σ11 : St, σ11 = su σ6 0 9 0 → wp_X8_read_B92 Q σ11)) ∧ (¬ w32 (σ6 0 7) = 0 → Q ((-1) - x_5) σ6) := by
    intro ρ c pl g0 g1 g2 g3 g4 hc hcc hpl σ4 e4 x_5 e5 σ6 e6
    have h7 : σ6 0 7 = c := by rw [e6, su_ko _ _ (by omega), e4, su_at]
    rw [h7, w32_id (by omega) (by omega)]
    refine ⟨fun z => by omega, fun _ => ?_⟩
    have := hbad (by omega) σ6 (fun o k q => by have q' := q; unfold rfC at q'; rw [e6, su_ko _ _ (by omega), e4, su_ko _ _ (by omega)]; exact g0 o k q) (by rw [h7, hcc]) (by rw [e6, su_ko _ _ (by omega), e4, su_ko _ _ (by omega)]; exact g1) (by rw [e6, su_at]) (by rw [e6, su_ko _ _ (by omega), e4, su_ko _ _ (by omega)]; exact g2) (by rw [e6, su_ko _ _ (by omega), e4, su_ko _ _ (by omega)]; exact g3)
    rw [hpl] at this
    rw [e5, e4, su_ko _ _ (by omega), g4]
    exact this
  have af' : ∀ o k, ¬ rfC o k → tkSt r0 0 o k = σ o k := fun o k q => by have q' := q; unfold rfC at q'; rw [af o k (by omega)]; exact f0 o k q
  rw [a2, w32_id (by omega) (by omega)]
  refine ⟨fun h2 => ?_, fun h2 => ?_⟩
  · rw [a3, a4]
    have tE := tkE_le (σ 2) (len := tlen σ) (p := 0) (by omega)
    have hN0 : NmI (tkSt r0 0) 4 8 16 := NmI_fr hN (fun x k a b => af' x k (by unfold rfC; omega))
    refine sp_find (o := 4) (a := 2) (w := 8) (cap := 16) (la := 1000) hN0 (fun k => by rw [af' 2 k (by unfold rfC; omega)]; have := hI.2.2 k; omega) (by omega) (tkE_ge _ _ _) (by omega) (by omega) (by omega) ?_
    have lab : fndN (tkSt r0 0 (4 + 2)) (tkSt r0 0 (4 + 1)) (tkSt r0 0 2) 8 (tkSt r0 0 4 3).toNat (tkS (σ 2) (tlen σ) 0) (tkE (σ 2) (tlen σ) 0) = fdN σ 4 8 (tkS (σ 2) (tlen σ) 0) (tkE (σ 2) (tlen σ) 0) := by
      unfold fdN
      have q1 : tkSt r0 0 (4 + 2) = σ (4 + 2) := by funext k; exact af' _ k (by unfold rfC; omega)
      have q2 : tkSt r0 0 (4 + 1) = σ (4 + 1) := by funext k; exact af' _ k (by unfold rfC; omega)
      have q3 : tkSt r0 0 2 = σ 2 := by funext k; exact af' _ k (by unfold rfC; omega)
      rw [q1, q2, q3, af' 4 3 (by unfold rfC; omega)]
    rw [lab]
    intro r1 er1
    have g2 : r1 2 = σ 2 := by funext k; rw [er1, su_ko _ _ (by omega)]; exact af' 2 k (by unfold rfC; omega)
    have g11 : r1 1 1 = σ 1 1 := by rw [er1, su_ko _ _ (by omega), af 1 1 (by omega)]; exact r11
    have tl1 : tlen r1 = tlen σ := tlen_of g11
    have hI1 : TpI r1 := ⟨by rw [g11]; exact hI.1, by rw [g11]; exact hI.2.1, fun k => by rw [g2]; exact hI.2.2 k⟩
    refine sp_advance hI1 (p := tkE (σ 2) (tlen σ) 0) (by rw [er1, su_ko _ _ (by omega)]; exact a4) (by rw [tl1]; exact tE) ?_
    have b2 : tkSt r1 (tkE (σ 2) (tlen σ) 0) 1 2 = tkK (σ 2) (tlen σ) (tkE (σ 2) (tlen σ) 0) := by unfold tkSt; rw [su_at, g2, tl1]
    have b3 : tkSt r1 (tkE (σ 2) (tlen σ) 0) 1 3 = ((tkS (σ 2) (tlen σ) (tkE (σ 2) (tlen σ) 0) : Nat) : Int) := by unfold tkSt; rw [su_ko _ _ (by omega), su_ko _ _ (by omega), su_at, g2, tl1]
    have bf : ∀ o k, ¬ (o = 1 ∧ (k = 2 ∨ k = 3 ∨ k = 4)) → tkSt r1 (tkE (σ 2) (tlen σ) 0) o k = r1 o k := fun o k q => Tf_tk r1 _ o k q
    have bf' : ∀ o k, ¬ rfC o k → tkSt r1 (tkE (σ 2) (tlen σ) 0) o k = σ o k := fun o k q => by have q' := q; unfold rfC at q'; rw [bf o k (by omega), er1, su_ko _ _ (by omega)]; exact af' o k q
    have c09 : tkSt r1 (tkE (σ 2) (tlen σ) 0) 0 9 = -1 := by rw [bf 0 9 (by omega), er1, su_ko _ _ (by omega), af 0 9 (by omega)]; exact r09
    have c23 : tkSt r1 (tkE (σ 2) (tlen σ) 0) 23 0 = 0 := by rw [bf 23 0 (by omega), er1, su_ko _ _ (by omega), af 23 0 (by omega)]; exact r23
    have c26 : tkSt r1 (tkE (σ 2) (tlen σ) 0) 26 0 = 0 := by rw [bf 26 0 (by omega), er1, su_ko _ _ (by omega), af 26 0 (by omega)]; exact r26
    have k1 := tkK_r (σ 2) (tlen σ) (tkE (σ 2) (tlen σ) 0)
    rw [b2, w32_id (by omega) (by omega)]
    refine ⟨fun z => ?_, fun z => ?_⟩
    · refine sp_misplaced b2 k1 (fin _ _ (tkS (σ 2) (tlen σ) (tkE (σ 2) (tlen σ) 0)) bf' c09 c23 c26 b3 (by split <;> omega) ?_ ?_)
      · unfold rdCode; rw [if_pos h2, if_neg z]
      · unfold rdPlace; rw [if_pos h2]
    · intro σ4 e4 x_5 e5 σ6 e6
      have h7 : σ6 0 7 = 0 := by rw [e6, su_ko _ _ (by omega), e4, su_at]
      have hc : rdCode (σ 2) (tlen σ) = 0 := by unfold rdCode; rw [if_pos h2, if_pos z]
      rw [h7]
      refine ⟨fun _ => ?_, fun y => absurd w32_0 y⟩
      exact hok hc h2 σ6 (fun o k q => by have q' := q; unfold rfC at q'; rw [e6, su_ko _ _ (by omega), e4, su_ko _ _ (by omega)]; exact bf' o k q) h7 (by rw [e6, su_ko _ _ (by omega), e4, su_ko _ _ (by omega)]; exact c09) (by rw [e6, su_at]) (by rw [e6, su_ko _ _ (by omega), e4, su_ko _ _ (by omega)]; exact c23) (by rw [e6, su_ko _ _ (by omega), e4, su_ko _ _ (by omega)]; exact c26) (by rw [e6, su_ko _ _ (by omega), e4, su_ko _ _ (by omega), bf 0 8 (by omega), er1, su_at])
  · refine sp_misplaced a2 k0 (fin _ _ (tkS (σ 2) (tlen σ) 0) af' (by rw [af 0 9 (by omega)]; exact r09) (by rw [af 23 0 (by omega)]; exact r23) (by rw [af 26 0 (by omega)]; exact r26) a3 (by split <;> omega) ?_ ?_)
    · unfold rdCode; rw [if_neg h2]
    · unfold rdPlace; rw [if_neg h2]
def rfM (o k : Nat) : Prop := o = 0 ∧ (k = 0 ∨ k = 2 ∨ k = 3 ∨ k = 4 ∨ k = 27 ∨ k = 28 ∨ k = 29 ∨ k = 35 ∨ k = 36 ∨ k = 37 ∨ k = 42 ∨ k = 50)
theorem sp_readM {Q : Int → St → Prop} {τ : St} {cnt : Nat} (hI : TmI τ) (hR : Rw (τ 1)) (hM : Mnm τ) (hc : τ 0 7 = (cnt : Int)) (hc1 : cnt ≤ 16)
    (hbad : rdCode (bM τ) (mlen τ) ≠ 0 → ∀ τ' : St, (∀ o k, ¬ rfM o k → τ' o k = τ o k) → τ' 0 3 = rdCode (bM τ) (mlen τ) → τ' 0 2 = 0 → τ' 0 35 = 0 → τ' 0 36 = -1 → τ' 0 42 = 0 → τ' 0 50 = 0 → Q (-1 - ((rdPlace (bM τ) (mlen τ) : Nat) : Int)) τ')
    (hok : rdCode (bM τ) (mlen τ) = 0 → tkK (bM τ) (mlen τ) 0 = 2 → ∀ τ' : St, (∀ o k, ¬ rfM o k → τ' o k = τ o k) → τ' 0 3 = 0 → τ' 0 2 = 0 → τ' 0 35 = 0 → τ' 0 36 = -1 → τ' 0 42 = 0 → τ' 0 50 = 0 → τ' 0 37 = fndN (τ 3) (τ 2) (τ 1) 8 cnt (tkS (bM τ) (mlen τ) 0) (tkE (bM τ) (mlen τ) 0) → wp_X9_number (fun σ2 => ∃ nn, wp_X9_read_L100 Q nn 0 σ2) τ') : wp_X9_read Q τ := by
  unfold wp_X9_read wp_X9_forget
  intro u1 g1 u2 g2 u3 g3 u4 g4 u5 g5
  have f0 : ∀ o k, ¬ rfM o k → u5 o k = τ o k := fun o k q => by
    unfold rfM at q
    rw [g5, su_ko _ _ (by omega), g4, su_ko _ _ (by omega), g3, su_ko _ _ (by omega), g2, su_ko _ _ (by omega), g1, su_ko _ _ (by omega)]
  have v2 : u5 0 2 = τ 0 2 := by rw [g5, su_ko _ _ (by omega), g4, su_ko _ _ (by omega), g3, su_ko _ _ (by omega), g2, su_ko _ _ (by omega), g1, su_ko _ _ (by omega)]
  have v50 : u5 0 50 = 0 := by rw [g5, su_at]
  have v42 : u5 0 42 = 0 := by rw [g5, su_ko _ _ (by omega), g4, su_at]
  have v36 : u5 0 36 = -1 := by rw [g5, su_ko _ _ (by omega), g4, su_ko _ _ (by omega), g3, su_at]
  have v35 : u5 0 35 = 0 := by rw [g5, su_ko _ _ (by omega), g4, su_ko _ _ (by omega), g3, su_ko _ _ (by omega), g2, su_at]
  have w1 : u5 1 = τ 1 := by funext k; exact f0 1 k (by unfold rfM; omega)
  have eb : bM u5 = bM τ := by unfold bM; rw [w1]
  have el : mlen u5 = mlen τ := by unfold mlen; rw [v2]
  have hI5 : TmI u5 := ⟨by rw [v2]; exact hI.1, by rw [v2]; exact hI.2⟩
  have p0 : pN (bM τ) (mlen τ) 0 = 0 := rfl
  have p1 : pN (bM τ) (mlen τ) 1 = tkE (bM τ) (mlen τ) 0 := rfl
  -- the bad end
  have bad : ∀ (ρ : St) (c : Int) (pl : Nat), (∀ o k, ¬ rfM o k → ρ o k = τ o k) → ρ 0 3 = c → ρ 0 4 = ((pl : Nat) : Int) → ρ 0 35 = 0 → ρ 0 36 = -1 → ρ 0 42 = 0 → ρ 0 50 = 0 → rdCode (bM τ) (mlen τ) = c → c ≠ 0 → rdPlace (bM τ) (mlen τ) = pl → wp_X9_read_B77 0 Q ρ := by
    intro ρ c pl a0 a3 a4 a35 a36 a42 a50 hcc hc0 hpl
    unfold wp_X9_read_B77
    intro σ1 e1
    refine ⟨fun z => absurd w32_0 z, fun _ => ?_⟩
    have := hbad (by omega) σ1 (fun o k q => by have q' := q; unfold rfM at q'; rw [e1, su_ko _ _ (by omega)]; exact a0 o k q) (by rw [e1, su_ko _ _ (by omega), a3, hcc]) (by rw [e1, su_at]) (by rw [e1, su_ko _ _ (by omega)]; exact a35) (by rw [e1, su_ko _ _ (by omega)]; exact a36) (by rw [e1, su_ko _ _ (by omega)]; exact a42) (by rw [e1, su_ko _ _ (by omega)]; exact a50)
    rw [hpl] at this
    have e4 : σ1 0 4 = ((pl : Nat) : Int) := by rw [e1, su_ko _ _ (by omega)]; exact a4
    rw [e4]
    exact this
  have bad' : ∀ (ρ : St) (c : Int) (pl : Nat), (∀ o k, ¬ rfM o k → ρ o k = τ o k) → ρ 0 3 = c → ρ 0 4 = ((pl : Nat) : Int) → ρ 0 35 = 0 → ρ 0 36 = -1 → ρ 0 42 = 0 → ρ 0 50 = 0 → rdCode (bM τ) (mlen τ) = c → c ≠ 0 → rdPlace (bM τ) (mlen τ) = pl → wp_X9_read_B31 0 Q ρ := by
    intro ρ c pl a0 a3 a4 a35 a36 a42 a50 hcc hc0 hpl
    unfold wp_X9_read_B31
    refine ⟨fun _ => ?_, fun z => absurd w32_0 z⟩
    unfold wp_X9_read_B44
    intro σ1 e1
    refine ⟨fun _ => ?_, fun z => absurd w32_0 z⟩
    unfold wp_X9_read_B76
    exact bad σ1 c pl (fun o k q => by have q' := q; unfold rfM at q'; rw [e1, su_ko _ _ (by omega)]; exact a0 o k q) (by rw [e1, su_ko _ _ (by omega)]; exact a3) (by rw [e1, su_ko _ _ (by omega)]; exact a4) (by rw [e1, su_ko _ _ (by omega)]; exact a35) (by rw [e1, su_ko _ _ (by omega)]; exact a36) (by rw [e1, su_ko _ _ (by omega)]; exact a42) (by rw [e1, su_ko _ _ (by omega)]; exact a50) hcc hc0 hpl
  refine sp_mstarts hI5 eb el (fun hK τ1 m1 a3 a4 => ?_) (fun hK τ1 m1 hl a3 a4 => ?_)
  · rw [p0] at hK a4
    refine ⟨fun _ => bad' τ1 1 (tkS (bM τ) (mlen τ) 0) (fun o k q => by have q' := q; unfold rfM at q'; rw [m1 o k (by omega)]; exact f0 o k q) a3 a4 (by rw [m1 0 35 (by omega)]; exact v35) (by rw [m1 0 36 (by omega)]; exact v36) (by rw [m1 0 42 (by omega)]; exact v42) (by rw [m1 0 50 (by omega)]; exact v50) ?_ (by decide) ?_, fun z => absurd w32_0 z⟩
    · unfold rdCode; rw [if_neg (by omega), if_pos hK]
    · unfold rdPlace; rw [if_neg (by omega)]
  · rw [p0] at hK
    obtain ⟨l27, l28, l29⟩ := hl
    rw [p0] at l27 l28
    rw [p1] at l29
    have m1' : ∀ o k, ¬ rfM o k → τ1 o k = τ o k := fun o k q => by have q' := q; unfold rfM at q'; rw [m1 o k (by omega)]; exact f0 o k q
    have a35 : τ1 0 35 = 0 := by rw [m1 0 35 (by omega)]; exact v35
    have a36 : τ1 0 36 = -1 := by rw [m1 0 36 (by omega)]; exact v36
    have a42 : τ1 0 42 = 0 := by rw [m1 0 42 (by omega)]; exact v42
    have a50 : τ1 0 50 = 0 := by rw [m1 0 50 (by omega)]; exact v50
    refine ⟨fun z => absurd z (by decide), fun _ => ?_⟩
    have mr : 0 ≤ mTk (bM τ) (mlen τ) 0 ∧ mTk (bM τ) (mlen τ) 0 ≤ 255 := mTk_r hK
    have tok := mTk_k hK
    rw [l27, w32_id (by omega) (by omega)]
    have sg : ∀ p, isSg (bM τ p) = true → 33 ≤ bM τ p := fun p hp => by
      unfold isSg at hp
      have := of_decide_eq_true hp
      omega
    refine ⟨fun h1 => ?_, fun h1 => ?_⟩
    · have k2 : tkK (bM τ) (mlen τ) 0 = 2 := by
        rcases tok with z | z | z | z
        · omega
        · exact z.1
        · omega
        · have := sg _ z.2.2; omega
      unfold wp_X9_read_B31
      refine ⟨fun z => absurd z (by decide), fun _ => ?_⟩
      have tE := tkE_le (bM τ) (len := mlen τ) (p := 0) (by omega)
      have ml : mlen τ ≤ 1000 := by unfold mlen; have := hI.2; omega
      have rb : ∀ f : Nat → Int, Rw f → By f := fun f hf k => by have := hf k; omega
      refine sp_mlabel (cnt := cnt) l28 l29 (tkE_ge _ _ _) (by omega) (by rw [m1' 0 7 (by unfold rfM; omega)]; exact hc) (by omega) (fun k => by rw [m1' 3 k (by unfold rfM; omega)]; exact hM.1 k) (fun k => by rw [m1' 2 k (by unfold rfM; omega)]; exact rb _ hM.2.1 k) (fun k => by rw [m1' 1 k (by unfold rfM; omega)]; exact rb _ hR k) ?_
      have lab : fndN (τ1 3) (τ1 2) (τ1 1) 8 cnt (tkS (bM τ) (mlen τ) 0) (tkE (bM τ) (mlen τ) 0) = fndN (τ 3) (τ 2) (τ 1) 8 cnt (tkS (bM τ) (mlen τ) 0) (tkE (bM τ) (mlen τ) 0) := by
        have q1 : τ1 3 = τ 3 := by funext k; exact m1' _ k (by unfold rfM; omega)
        have q2 : τ1 2 = τ 2 := by funext k; exact m1' _ k (by unfold rfM; omega)
        have q3 : τ1 1 = τ 1 := by funext k; exact m1' _ k (by unfold rfM; omega)
        rw [q1, q2, q3]
      rw [lab]
      unfold wp_X9_read_B44
      intro σ1 e1
      refine ⟨fun z => absurd z (by decide), fun _ => ?_⟩
      have n1 : ∀ o k, ¬ (o = 0 ∧ k = 37) → σ1 o k = τ1 o k := fun o k q => by rw [e1]; exact su_ko _ _ q
      have n37 : σ1 0 37 = fndN (τ 3) (τ 2) (τ 1) 8 cnt (tkS (bM τ) (mlen τ) 0) (tkE (bM τ) (mlen τ) 0) := by rw [e1, su_at]
      have n1' : ∀ o k, ¬ rfM o k → σ1 o k = τ o k := fun o k q => by have q' := q; unfold rfM at q'; rw [n1 o k (by omega)]; exact m1' o k q
      have z1 : σ1 1 = τ 1 := by funext k; exact n1' 1 k (by unfold rfM; omega)
      have z2 : σ1 0 2 = τ 0 2 := by rw [n1 0 2 (by omega), m1 0 2 (by omega)]; exact v2
      refine sp_mnextG (b := bM τ) (len := mlen τ) (j := 1) ⟨by rw [z2]; exact hI.1, by rw [z2]; exact hI.2⟩ (by unfold bM; rw [z1]) (by unfold mlen; rw [z2]) (by rw [n1 0 29 (by omega), p1]; exact l29) (fun hK2 τ2 m2 b3 b4 => ?_) (fun hK2 τ2 m2 hl2 => ?_)
      · rw [p1] at hK2 b4
        refine ⟨fun _ => ?_, fun z => absurd w32_0 z⟩
        unfold wp_X9_read_B76
        refine bad τ2 1 (tkS (bM τ) (mlen τ) (tkE (bM τ) (mlen τ) 0)) (fun o k q => by have q' := q; unfold rfM at q'; rw [m2 o k (by omega)]; exact n1' o k q) b3 b4 (by rw [m2 0 35 (by omega), n1 0 35 (by omega)]; exact a35) (by rw [m2 0 36 (by omega), n1 0 36 (by omega)]; exact a36) (by rw [m2 0 42 (by omega), n1 0 42 (by omega)]; exact a42) (by rw [m2 0 50 (by omega), n1 0 50 (by omega)]; exact a50) ?_ (by decide) ?_
        · unfold rdCode; rw [if_pos k2, if_neg (by omega), if_pos hK2]
        · unfold rdPlace; rw [if_pos k2]
      · rw [p1] at hK2
        obtain ⟨o27, o28, o29⟩ := hl2
        rw [p1] at o27 o28
        have m2' : ∀ o k, ¬ rfM o k → τ2 o k = τ o k := fun o k q => by have q' := q; unfold rfM at q'; rw [m2 o k (by omega)]; exact n1' o k q
        have b35 : τ2 0 35 = 0 := by rw [m2 0 35 (by omega), n1 0 35 (by omega)]; exact a35
        have b36 : τ2 0 36 = -1 := by rw [m2 0 36 (by omega), n1 0 36 (by omega)]; exact a36
        have b42 : τ2 0 42 = 0 := by rw [m2 0 42 (by omega), n1 0 42 (by omega)]; exact a42
        have b50 : τ2 0 50 = 0 := by rw [m2 0 50 (by omega), n1 0 50 (by omega)]; exact a50
        have b3 : τ2 0 3 = 0 := by rw [m2 0 3 (by omega), n1 0 3 (by omega)]; exact a3
        have mr2 : 0 ≤ mTk (bM τ) (mlen τ) (tkE (bM τ) (mlen τ) 0) ∧ mTk (bM τ) (mlen τ) (tkE (bM τ) (mlen τ) 0) ≤ 255 := mTk_r hK2
        have tok2 := mTk_k hK2
        refine ⟨fun z => absurd z (by decide), fun _ => ?_⟩
        rw [o27, w32_id (by omega) (by omega)]
        refine ⟨fun h0 => ?_, fun h0 => ?_⟩
        · have k20 : tkK (bM τ) (mlen τ) (tkE (bM τ) (mlen τ) 0) = 0 := by
            rcases tok2 with z | z | z | z
            · exact z.1
            · omega
            · omega
            · have := sg _ z.2.2; omega
          unfold wp_X9_read_B72 wp_X9_read_B77
          intro σ3 e3
          refine ⟨fun _ => ?_, fun z => absurd z (by decide)⟩
          refine hok (by unfold rdCode; rw [if_pos k2, if_pos k20]) k2 σ3 (fun o k q => by have q' := q; unfold rfM at q'; rw [e3, su_ko _ _ (by omega)]; exact m2' o k q) (by rw [e3, su_ko _ _ (by omega)]; exact b3) (by rw [e3, su_at]) (by rw [e3, su_ko _ _ (by omega)]; exact b35) (by rw [e3, su_ko _ _ (by omega)]; exact b36) (by rw [e3, su_ko _ _ (by omega)]; exact b42) (by rw [e3, su_ko _ _ (by omega)]; exact b50) (by rw [e3, su_ko _ _ (by omega), m2 0 37 (by omega)]; exact n37)
        · have k20 : tkK (bM τ) (mlen τ) (tkE (bM τ) (mlen τ) 0) ≠ 0 := by
            rcases tok2 with z | z | z | z <;> omega
          unfold wp_X9_cannot
          refine sp_mflaw ⟨Or.inl rfl, fun _ => ?_, fun z => absurd w32_0 z⟩
          unfold wp_X9_read_B76
          refine bad _ 2 (tkS (bM τ) (mlen τ) (tkE (bM τ) (mlen τ) 0)) (fun o k q => by have q' := q; unfold rfM at q'; rw [su_ko _ _ (by omega), su_ko _ _ (by omega)]; exact m2' o k q) (by rw [su_ko _ _ (by omega), su_at]) (by rw [su_at]; exact o28) (by rw [su_ko _ _ (by omega), su_ko _ _ (by omega)]; exact b35) (by rw [su_ko _ _ (by omega), su_ko _ _ (by omega)]; exact b36) (by rw [su_ko _ _ (by omega), su_ko _ _ (by omega)]; exact b42) (by rw [su_ko _ _ (by omega), su_ko _ _ (by omega)]; exact b50) ?_ (by decide) ?_
          · unfold rdCode; rw [if_pos k2, if_neg k20, if_neg hK2]
          · unfold rdPlace; rw [if_pos k2]
    · have k2 : tkK (bM τ) (mlen τ) 0 ≠ 2 := by
        rcases tok with z | z | z | z <;> omega
      unfold wp_X9_cannot
      refine sp_mflaw ⟨Or.inl rfl, ?_⟩
      refine bad' _ 2 (tkS (bM τ) (mlen τ) 0) (fun o k q => by have q' := q; unfold rfM at q'; rw [su_ko _ _ (by omega), su_ko _ _ (by omega)]; exact m1' o k q) (by rw [su_ko _ _ (by omega), su_at]) (by rw [su_at]; exact l28) (by rw [su_ko _ _ (by omega), su_ko _ _ (by omega)]; exact a35) (by rw [su_ko _ _ (by omega), su_ko _ _ (by omega)]; exact a36) (by rw [su_ko _ _ (by omega), su_ko _ _ (by omega)]; exact a42) (by rw [su_ko _ _ (by omega), su_ko _ _ (by omega)]; exact a50) ?_ (by decide) ?_
      · unfold rdCode; rw [if_neg k2, if_neg hK]
      · unfold rdPlace; rw [if_neg k2]
