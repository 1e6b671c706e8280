/-! pure: tree() taken, both worlds -/
theorem RR_ok {σ τ S σl τ1 τ' : St} {N n : Nat} {sz : Nat → Nat} (h : RR σ τ N sz) (hN : N < 16) (hF : FrT σ S N) (hP : PI S N n) (hK : PK S N n) (h4 : S 12 4 = 4) (hj : jC S N = 0) (hD : DWd S) (hL : LI S σl N n 0) (hM : MP S τ1 N n) (hk : LK τ1 τ' N n 0) (h3 : τ1 0 3 = 0) (hm : MFk (su τ 0 0 0) τ' N) : RR (tOk σl N) (mOk τ' N n) (N + 1) (fun t => if t = N then n else sz t) := by
  obtain ⟨f1, f2, f3, f4, f5, f6⟩ := hF
  obtain ⟨m1, m2, m3⟩ := hm
  obtain ⟨l1, l2, l3⟩ := hL
  obtain ⟨k1, k2, k3⟩ := hk
  obtain ⟨p1, p2, p3, p4, p5, p6⟩ := hM
  obtain ⟨K1, K2, K3, K4, K5, K6, K7⟩ := hK
  have n12 := hP.2.2.2.2.2.2.1
  have c10 := hP.2.2.2.2.2.1
  have pj9 := K1.2.2.2.2.2.2.2.2.1 h4
  have cur : S 12 5 = -1 := pj9.2
  have n0 : 0 < n := pj9.1
  rw [cur, h4] at K1
  -- what was judged
  unfold jC at hj
  have j0 : nd S N 0 0 = 0 := by
    by_cases q : nd S N 0 0 ≠ 0
    · rw [if_pos q] at hj; exact absurd hj (by decide)
    · exact Classical.not_not.mp q
  rw [if_neg (fun z => z j0)] at hj
  have j9 : S 12 9 ≤ 1 := by
    by_cases q : 1 < S 12 9
    · rw [if_pos q] at hj; exact absurd hj (by decide)
    · omega
  rw [if_neg (by omega)] at hj
  have j12 : S 12 12 = 1 := by
    rcases K3 with q | q
    · exact q
    · by_cases w : S 12 9 = 1 ∧ S 12 11 ≠ nd S N 0 1
      · rw [if_pos w] at hj; exact absurd hj (by decide)
      · rw [if_neg w, if_pos q.1] at hj; exact absurd hj (by decide)
  have foot : ∀ x y, x < n → y < n → nd S N x 0 = 2 → nd S N y 0 = 2 → x = y := by
    intro x y hx hy a b
    have r9 := hP.2.2.2.2.2.2.2.2.2.2.2.2.1
    by_cases q : S 12 9 = 0
    · exact absurd a (K6 q x hx)
    · obtain ⟨f, _, _, _, g⟩ := K7 (by omega)
      rw [g x hx a, g y hy b]
  -- frames
  have F : ∀ o k, (o = 0 ∧ k ≠ 7 ∧ k ≠ 9) ∨ o = 2 ∨ (13 ≤ o ∧ o ≠ 23 ∧ o ≠ 26) ∨ (o = 23 ∧ k ≠ 0) ∨ (o = 26 ∧ k ≠ 0) → tOk σl N o k = σ o k := by
    intro o k q
    unfold tOk
    rw [su_ko _ _ (by omega), su_ko _ _ (by omega), su_ko _ _ (by omega), su_ko _ _ (by omega), su_ko _ _ (by omega), su_ko _ _ (by omega), l1 o k (by omega)]
    exact f1 o k (by omega) (by omega)
  have Fs : ∀ o k, (4 ≤ o ∧ o ≤ 10) ∨ o = 12 → tOk σl N o k = S o k := by
    intro o k q
    unfold tOk
    rw [su_ko _ _ (by omega), su_ko _ _ (by omega), su_ko _ _ (by omega), su_ko _ _ (by omega), su_ko _ _ (by omega), su_ko _ _ (by omega), l1 o k (by omega)]
  have Fd : ∀ t x w, nd (tOk σl N) t x w = nd σl t x w := by
    intro t x w
    unfold tOk
    rw [nd_su _ _ (by omega), nd_su _ _ (by omega), nd_su _ _ (by omega), nd_su _ _ (by omega), nd_su _ _ (by omega), nd_su _ _ (by omega)]
  have v34 : tOk σl N 3 4 = ((N + 1 : Nat) : Int) := by unfold tOk; rw [su_ko _ _ (by omega), su_ko _ _ (by omega), su_ko _ _ (by omega), su_ko _ _ (by omega), su_ko _ _ (by omega), su_at]
  have v11 : tOk σl N 1 1 = 0 := by unfold tOk; rw [su_ko _ _ (by omega), su_ko _ _ (by omega), su_ko _ _ (by omega), su_ko _ _ (by omega), su_at]
  have v07 : tOk σl N 0 7 = 0 := by unfold tOk; rw [su_ko _ _ (by omega), su_ko _ _ (by omega), su_ko _ _ (by omega), su_at]
  have v09 : tOk σl N 0 9 = -1 := by unfold tOk; rw [su_ko _ _ (by omega), su_ko _ _ (by omega), su_at]
  have v23 : tOk σl N 23 0 = 0 := by unfold tOk; rw [su_ko _ _ (by omega), su_at]
  have v26 : tOk σl N 26 0 = 0 := by unfold tOk; rw [su_at]
  have g50 : mOk τ' N n 0 50 = 0 := by unfold mOk; rw [su_at]
  have g42 : mOk τ' N n 0 42 = 0 := by unfold mOk; rw [su_ko _ _ (by omega), su_at]
  have g36 : mOk τ' N n 0 36 = -1 := by unfold mOk; rw [su_ko _ _ (by omega), su_ko _ _ (by omega), su_at]
  have g35 : mOk τ' N n 0 35 = 0 := by unfold mOk; rw [su_ko _ _ (by omega), su_ko _ _ (by omega), su_ko _ _ (by omega), su_at]
  have g23 : mOk τ' N n 0 23 = ((N + 1 : Nat) : Int) := by unfold mOk; rw [su_ko _ _ (by omega), su_ko _ _ (by omega), su_ko _ _ (by omega), su_ko _ _ (by omega), su_at]
  have g17 : mOk τ' N n 17 N = (n : Int) := by unfold mOk; rw [su_ko _ _ (by omega), su_ko _ _ (by omega), su_ko _ _ (by omega), su_ko _ _ (by omega), su_ko _ _ (by omega), su_at]
  have g02 : mOk τ' N n 0 2 = 0 := by unfold mOk; rw [su_ko _ _ (by omega), su_ko _ _ (by omega), su_ko _ _ (by omega), su_ko _ _ (by omega), su_ko _ _ (by omega), su_ko _ _ (by omega), su_at]
  have G' : ∀ o k, o ≠ 0 → ¬ (o = 17 ∧ k = N) → mOk τ' N n o k = τ' o k := by
    intro o k q1 q2
    unfold mOk
    rw [su_ko _ _ (by omega), su_ko _ _ (by omega), su_ko _ _ (by omega), su_ko _ _ (by omega), su_ko _ _ (by omega), su_ko _ _ q2, su_ko _ _ (by omega)]
  have G0 : ∀ k, k ≠ 2 → k ≠ 23 → k ≠ 35 → k ≠ 36 → k ≠ 42 → k ≠ 50 → mOk τ' N n 0 k = τ' 0 k := by
    intro k q1 q2 q3 q4 q5 q6
    unfold mOk
    rw [su_ko _ _ (by omega), su_ko _ _ (by omega), su_ko _ _ (by omega), su_ko _ _ (by omega), su_ko _ _ (by omega), su_ko _ _ (by omega), su_ko _ _ (by omega)]
  have G : ∀ o k, (o = 1 ∨ 17 ≤ o) → ¬ (o = 17 ∧ k = N) → mOk τ' N n o k = τ o k := fun o k q1 q2 => by rw [G' o k (by omega) q2, m1 o k q1, su_ko _ _ (by omega)]
  have Gn : ∀ o k, (2 ≤ o ∧ o ≤ 12) → mOk τ' N n o k = τ1 o k := fun o k q => by rw [G' o k (by omega) (by omega), k1 o k (by omega)]
  have e7 : mOk τ' N n 0 7 = τ1 0 7 := by rw [G0 7 (by omega) (by omega) (by omega) (by omega) (by omega) (by omega), k1 0 7 (by omega)]
  have e10 : mOk τ' N n 0 10 = τ1 0 10 := by rw [G0 10 (by omega) (by omega) (by omega) (by omega) (by omega) (by omega), k1 0 10 (by omega)]
  -- old trees
  have old : ∀ t x w, t < N → x < 12 → w < 12 → nd (tOk σl N) t x w = nd σ t x w := fun t x w a b d => by rw [Fd, l2 t x w b d (by omega)]; exact f5 t x w (by omega) b d
  -- the new one
  have nw : ∀ w, w < 5 → ∀ x, x < n → nd (tOk σl N) N x w = nd S N x w := fun w hw x hx => by rw [Fd, l2 N x w (by omega) (by omega) (by omega)]
  have e0 := nw 0 (by omega)
  have e2 := nw 2 (by omega)
  have mnd : ∀ x, x < n → τ1 6 (12 * N + x) = nd S N x 0 ∧ τ1 8 (12 * N + x) = nd S N x 2 := fun x hx => ⟨(p2 x hx).1, (p2 x hx).2.2.1⟩
  have q0 : ∀ x, x < n → τ1 6 (12 * N + x) = nd (tOk σl N) N x 0 := fun x hx => by rw [e0 x hx]; exact (mnd x hx).1
  have q2 : ∀ x, x < n → τ1 8 (12 * N + x) = nd (tOk σl N) N x 2 := fun x hx => by rw [e2 x hx]; exact (mnd x hx).2
  have pj' : PJ (fun x => nd (tOk σl N) N x 0) (fun x => nd (tOk σl N) N x 2) n (-1) 4 := PJ_c K1 e0 e2
  have sqS : ∀ y, y < n → ∀ u, u < 3 → SQ (fun z => nd S N z 0) (fun z => nd S N z 2) (nd σl N) n y u := fun y hy u hu => (l3 y (by omega) hy).2 u hu
  have ftN : FT (tOk σl N) N n := by
    refine ⟨by rw [Fs 10 N (by omega)]; exact c10, n0, n12, pj', by rw [e0 0 n0]; exact j0, fun x hx => ?_, fun x y hx hy a b => ?_, ?_⟩
    · obtain ⟨a1, a2, a3, a4, a5, a6⟩ := K2 x hx
      have b3 := l3 x (by omega) hx
      have b4 := SQ_f K1 foot sqS (n - x) x (Nat.le_refl _) hx
      have w6 : nd σl N x 6 = bI (HF (fun z => nd S N z 0) (fun z => nd S N z 2) n x) := b4.1
      have w7 : nd σl N x 7 = bI (FO (fun z => nd S N z 0) (fun z => nd S N z 2) n x) := b4.2
      rw [nw 1 (by omega) x hx, e0 x hx, nw 4 (by omega) x hx, nw 3 (by omega) x hx, Fs 7 3 (by omega), Fs 4 3 (by omega), Fd N x 5, Fd N x 6, Fd N x 7]
      refine ⟨a2, a3, a4, a5, ?_, ?_, ?_, ?_⟩
      · rw [a6]; exact (chc_c n e2 _).symm
      · rw [b3.1]; exact (nxr_c hx e2).symm
      · rw [w6]; exact bI_congr (HF_c K1.1 e0 e2).symm
      · rw [w7]; exact bI_congr (FO_c K1.1 hx e0 e2).symm
    · rw [e0 x hx] at a
      rw [e0 y hy] at b
      exact foot x y hx hy a b
    · obtain ⟨x, x1, x2⟩ := K4 j12
      exact ⟨⟨x, x1, by rw [e0 x x1]; exact x2⟩, fun y hy u hu => SQ_e n12 K1 e0 e2 (fun w hw z hz => Fd N z w) hy hu (sqS y hy u hu)⟩
  have frN : FR (tOk σl N) (mOk τ' N n) N n := by
    refine ⟨g17, fun x hx => ?_⟩
    obtain ⟨b1, b2, b3, b4, b5⟩ := p2 x hx
    obtain ⟨d1, d2, d3, d4, d5, d6, d7⟩ := p1
    obtain ⟨x11, x12⟩ := d7 x hx
    obtain ⟨y1, y2, y3, y4⟩ := k3 x (by omega) hx
    obtain ⟨_, _, _, _, _, f6', f7', f8'⟩ := ftN.2.2.2.2.2.1 x hx
    rw [Gn 6 _ (by omega), Gn 7 _ (by omega), Gn 8 _ (by omega), Gn 9 _ (by omega), Gn 10 _ (by omega), Gn 11 _ (by omega), Gn 12 _ (by omega), G' 13 _ (by omega) (by omega), G' 14 _ (by omega) (by omega), G' 15 _ (by omega) (by omega), G' 16 _ (by omega) (by omega)]
    refine ⟨q0 x hx, by rw [nw 1 (by omega) x hx]; exact b2, q2 x hx, by rw [nw 3 (by omega) x hx]; exact b4, by rw [nw 4 (by omega) x hx]; exact b5, ?_, ?_, ?_, ?_, ?_, ?_⟩
    · rw [x11, f6']; exact nxr_c hx q2
    · rw [x12]; exact fsr_c q2
    · rw [y1, f7']; exact bI_congr (HF_c pj'.1 q0 q2)
    · rw [y2]; exact bI_congr (HF_c pj'.1 (kwd_c q0) q2)
    · rw [y3, f8']; exact bI_congr (FO_c pj'.1 hx q0 q2)
    · rw [y4]; exact bI_congr (FO_c pj'.1 hx (kwd_c q0) q2)
  refine RR.mk' ?_ ?_ ?_ ?_ ?_ ?_ ?_ ?_ ?_ ?_ (by omega) v34 g23 (fun t ht => ?_) (fun t ht => ?_) ?_ ?_ ?_ ?_ ?_ ?_ ?_ ?_ ?_ ?_ ?_ ?_ ?_ ?_ ?_ ?_ ?_
  · exact ⟨by rw [v11]; omega, by rw [v11]; omega, fun k => by rw [F 2 k (by omega)]; exact h.tp.2.2 k⟩
  · exact ⟨by rw [g02]; omega, by rw [g02]; omega⟩
  · intro k; rw [G 1 k (by omega) (by omega)]; exact h.r1 k
  · rw [v11, g02]
  · intro k hk; unfold tlen at hk; rw [v11] at hk; exact absurd hk (by omega)
  · exact NmI_fr hP.2.1 (fun x k a b => Fs x k (by omega))
  · exact NmI_fr hP.2.2.1 (fun x k a b => Fs x k (by omega))
  · refine RNs_nw p4 (fun x k a b => Fs x k (by omega)) (fun x k q => ?_)
    rcases q with q | ⟨z1, z2 | z2⟩
    · exact Gn x k (by omega)
    · subst z1 z2; exact e7
    · subst z1 z2; exact e10
  · exact Mnm_nw p5 (fun x k q => Gn x k (by omega))
  · exact DW_fr hD (fun x k q => Fs x k (by omega))
  · show FT (tOk σl N) t (if t = N then n else sz t)
    by_cases e : t = N
    · subst e; rw [if_pos rfl]; exact ftN
    · rw [if_neg e]
      have tN : t < N := by omega
      exact FT_fr (h.ft t tN) (by rw [Fs 10 t (by omega)]; exact f4 t e) (fun x w a b => old t x w tN a b) (by rw [Fs 7 3 (by omega)]; exact f3.2.1) (by rw [Fs 4 3 (by omega)]; exact f2.2.1)
  · show FR (tOk σl N) (mOk τ' N n) t (if t = N then n else sz t)
    by_cases e : t = N
    · subst e; rw [if_pos rfl]; exact frN
    · rw [if_neg e]
      have tN : t < N := by omega
      exact FR_fr (h.ft t tN).2.2.2.1.1 (RR_sz h t tN) (h.fr t tN) (fun x w a b => old t x w tN a b) (G 17 t (by omega) (by omega)) (fun o x a b d => by rw [G' o _ (by omega) (by omega), m3 o _ a b (fun y hy => by omega), su_ko _ _ (by omega)])
  · rw [Fs 12 8 (by omega)]; exact hP.2.2.2.2.2.2.2.2.2.2.2.2.2
  · exact NmI_fr h.n14 (fun x k a b => F x k (by omega))
  · refine RN_fr h.rs (fun x k a b => F x k (by omega)) ?_ (fun k => G 19 k (by omega) (by omega)) (fun k => G 18 k (by omega) (by omega))
    rw [G0 26 (by omega) (by omega) (by omega) (by omega) (by omega) (by omega), m2 26 (by omega) (by omega) (by omega) (by omega) (by omega), su_ko _ _ (by omega)]
  · rw [v07, G0 3 (by omega) (by omega) (by omega) (by omega) (by omega) (by omega), k1 0 3 (by omega), h3]
  · rw [v09, g36]
  · rw [v09]; omega
  · rw [v09, g35, if_pos rfl]
  · exact CB_fr h.cb (fun x k a b => F x k (by omega))
  · exact MB_fr h.mb (fun x k a b => G x k (by omega) (by omega))
  · intro d hd; rw [F 18 d (by omega)]; exact h.sdr d hd
  · intro q; rw [v09] at q; omega
  · rw [v23, g42]
  · rw [v23]; omega
  · intro k hk; rw [v23] at hk; omega
  · rw [v26, g50]
  · rw [v26]; omega
  · intro k hk; rw [v26] at hk; omega
theorem R_tree {σ τ : St} (h : R σ τ) : wp_X8_tree (fun r σ' => wp_X9_tree (fun r' τ' => r' = r ∧ R σ' τ') τ) σ := by
  obtain ⟨N, sz, h⟩ := h
  have hC : CT σ N := ⟨h.tp, h.n4, h.n7, h.c34, h.N16, h.mk⟩
  obtain ⟨hPb, hKb, hFb⟩ := bg_I hC
  obtain ⟨v0, v4, v5, v9, v12, v10, v14⟩ := bg_v σ N
  have bfr : ∀ o k, o ≠ 12 → o ≠ 10 → o ≠ 1 → bg σ N o k = σ o k := fun o k a b d => bg_fr σ (by omega) (by omega) (by omega)
  have b11 : bg σ N 1 1 = σ 1 1 := bg_fr σ (by omega) (by omega) (by omega)
  have hSC : SC (bg σ N) (su τ 0 0 0) N := by
    refine ⟨⟨by rw [su_ko _ _ (by omega)]; exact h.tm.1, by rw [su_ko _ _ (by omega)]; exact h.tm.2⟩, fun k => by rw [su_ko _ _ (by omega)]; exact h.r1 k, v14, ?_, fun k hk => ?_, hPb, hKb⟩
    · unfold tlen mlen; rw [b11, su_ko _ _ (by omega), h.len]
    · unfold bM
      rw [bfr 2 k (by omega) (by omega) (by omega), su_ko _ _ (by omega)]
      refine h.byt k ?_
      unfold mlen at hk
      rw [su_ko _ _ (by omega), ← h.len] at hk
      exact hk
  have hRN : RNs (bg σ N) τ := RNs_nw h.rn (fun o k a b => by
    by_cases e : o = 10
    · omega
    · exact bfr o k (by omega) (by omega) (by omega)) (fun o k q => rfl)
  have hDb : DWd (bg σ N) := DW_fr h.dw (fun o k q => bfr o k (by omega) (by omega) (by omega))
  have hp0 : pOf (bg σ N) = 0 := by unfold pOf; rw [v14]; rfl
  have inv := chain_inv hPb hKb (by rw [v14]; decide) (by rw [hp0]; exact Nat.zero_le _)
  have frm := chain_fr hPb hKb (by rw [v14]; decide) (by rw [hp0]; exact Nat.zero_le _)
  have dwc := chain_DW hPb hKb (by rw [v14]; decide) (by rw [hp0]; exact Nat.zero_le _) hDb
  refine sp_tree hC (fun j n' hch hnd hP hK hc => ?_) (fun j n' hch hcd hP hK hn hc => ?_) (fun j n' hch hcd hP hK hn hc σl hLI => ?_)
  · -- a token that does not stand
    refine sp_mtree hSC v4 v5 v9 h.c23 hRN h.mn (fun j' τ' hch' hnd' hc' a3 aR aM aF => ?_) (fun j' τ' hch' hcd' hc' a3 aR aM aF => ?_) (fun j' n τ1 τ' hch' hcd' hc' h16 aP aM aK a3 aF => ?_)
    · have e : j' = j := stop_u hch' hch (Or.inr hc') (Or.inr hc)
      subst e
      refine ⟨rfl, N, sz, ?_⟩
      have same : ∀ o k, o ≠ 1 → ¬ (o = 12 ∧ k < 2) → cN (bg σ N) (j' + 1) o k = cN (bg σ N) j' o k := fun o k a b => ct_bad hc a b
      refine RR_bad h (hFb.trans ((frm j' hch).trans (FrT_bad hc))) (NmI_fr hP.2.1 (fun x k a b => same x k (by omega) (by omega))) (NmI_fr hP.2.2.1 (fun x k a b => same x k (by omega) (by omega))) ?_ a3 (RNs_nw aR (fun o k a b => same o k (by omega) (by omega)) (fun _ _ _ => rfl)) aM aF
      rw [same 12 8 (by omega) (by omega)]
      exact hP.2.2.2.2.2.2.2.2.2.2.2.2.2
    · have e : j' = j := stop_u hch' hch (Or.inl hcd') (Or.inr hc)
      subst e
      exact absurd hcd' hnd
    · have e : j' = j := stop_u hch' hch (Or.inl hcd') (Or.inr hc)
      subst e
      exact absurd hcd' hnd
  · refine sp_mtree hSC v4 v5 v9 h.c23 hRN h.mn (fun j' τ' hch' hnd' hc' a3 aR aM aF => ?_) (fun j' τ' hch' hcd' hc' a3 aR aM aF => ?_) (fun j' n τ1 τ' hch' hcd' hc' h16 aP aM aK a3 aF => ?_)
    · have e : j' = j := stop_u hch' hch (Or.inr hc') (Or.inl hcd)
      subst e
      exact absurd hcd hnd'
    · have e : j' = j := stop_u hch' hch (Or.inl hcd') (Or.inl hcd)
      subst e
      refine ⟨rfl, N, sz, ?_⟩
      have same : ∀ o k, o ≠ 1 → ¬ (o = 12 ∧ k < 2) → jS (ld (cN (bg σ N) j')) N o k = cN (bg σ N) j' o k := fun o k a b => by
        unfold jS
        rw [if_neg hc, su_ko _ _ (by omega), su_ko _ _ (by omega)]
        exact Tf_tk _ _ o k (by omega)
      have fr2 : FrT (cN (bg σ N) j') (jS (ld (cN (bg σ N) j')) N) N := (FrT_ld _ N _).trans (FrT_12 (fun o k a b => by unfold jS; rw [if_neg hc, su_ko _ _ (by omega), su_ko _ _ (by omega)]; rfl))
      obtain ⟨n2, i1, i2, _⟩ := inv j' hch
      refine RR_bad h (hFb.trans ((frm j' hch).trans fr2)) (NmI_fr i1.2.1 (fun x k a b => same x k (by omega) (by omega))) (NmI_fr i1.2.2.1 (fun x k a b => same x k (by omega) (by omega))) ?_ a3 (RNs_nw aR (fun o k a b => same o k (by omega) (by omega)) (fun _ _ _ => rfl)) aM aF
      rw [same 12 8 (by omega) (by omega)]
      exact i1.2.2.2.2.2.2.2.2.2.2.2.2.2
    · have e : j' = j := stop_u hch' hch (Or.inl hcd') (Or.inl hcd)
      subst e
      exact absurd hc' hc
  · refine sp_mtree hSC v4 v5 v9 h.c23 hRN h.mn (fun j' τ' hch' hnd' hc' a3 aR aM aF => ?_) (fun j' τ' hch' hcd' hc' a3 aR aM aF => ?_) (fun j' n τ1 τ' hch' hcd' hc' h16 aP aM aK a3 aF => ?_)
    · have e : j' = j := stop_u hch' hch (Or.inr hc') (Or.inl hcd)
      subst e
      exact absurd hcd hnd'
    · have e : j' = j := stop_u hch' hch (Or.inl hcd') (Or.inl hcd)
      subst e
      exact absurd hc hc'
    · have e : j' = j := stop_u hch' hch (Or.inl hcd') (Or.inl hcd)
      subst e
      have lt : ∀ o k, o ≠ 1 → ld (cN (bg σ N) j') o k = cN (bg σ N) j' o k := fun o k a => Tf_tk _ _ o k (by omega)
      have en : n' = n := by
        have := hP.2.2.2.2.2.1
        rw [lt 10 N (by omega)] at this
        have := aP.2.2.2.2.2.1
        omega
      subst en
      refine ⟨rfl, N + 1, _, RR_ok (S := ld (cN (bg σ N) j')) h h16 (hFb.trans ((frm j' hch).trans (FrT_ld _ N _))) hP hK (by rw [lt 12 4 (by omega)]; exact hcd.2) hc (DW_fr (dwc j' hch) (fun o k q => lt o k (by omega))) hLI ?_ aK a3 aF⟩
      obtain ⟨q1, q2, q3, q4, q5, q6⟩ := aM
      have ndl : ∀ x w, nd (ld (cN (bg σ N) j')) N x w = nd (cN (bg σ N) j') N x w := fun x w => lt 11 _ (by omega)
      refine ⟨q1, fun x hx => ?_, ?_, RNs_nw q4 (fun o k a b => lt o k (by omega)) (fun _ _ _ => rfl), q5, by rw [lt 12 5 (by omega)]; exact q6⟩
      · rw [ndl, ndl, ndl, ndl, ndl]; exact q2 x hx
      · unfold MPf
        rw [lt 12 9 (by omega), lt 12 10 (by omega), ndl]
        exact q3
