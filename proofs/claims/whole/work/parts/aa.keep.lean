/-! pure: a way is chosen: what stays -/
theorem RR_u {σ τ σ' τ' : St} {N : Nat} {sz : Nat → Nat} (h : RR σ τ N sz) (hc : ∀ o k, o < 23 → σ' o k = σ o k) (hm : ∀ o k, o < 23 → ¬ (o = 0 ∧ (k = 42 ∨ k = 48 ∨ k = 50 ∨ k = 0)) → τ' o k = τ o k) (us : σ' 23 0 = τ' 0 42) (usr : 0 ≤ σ' 23 0 ∧ σ' 23 0 ≤ 8) (usc : ∀ k : Nat, (k : Int) < 7 * σ' 23 0 → σ' 24 k = τ' 23 k) (ws : σ' 26 0 = τ' 0 50) (wsr2 : 0 ≤ σ' 26 0 ∧ σ' 26 0 ≤ 96) (wsc : ∀ k : Nat, (k : Int) < 6 * σ' 26 0 → σ' 27 k = τ' 29 k) : RR σ' τ' N sz := by
  have f : ∀ o k, o < 23 → o < 23 → o < 23 → o < 23 → o < 23 → o < 23 → o < 23 → σ' o k = σ o k := fun o k q _ _ _ _ _ _ => hc o k q
  have m : ∀ o k, o ≠ 0 → o < 23 → τ' o k = τ o k := fun o k q1 q2 => hm o k q2 (fun z => q1 z.1)
  have c7 := hc 0 7 (by decide)
  have c8 := hc 0 8 (by decide)
  have c9 := hc 0 9 (by decide)
  have c11 := hc 1 1 (by decide)
  have c128 := hc 12 8 (by decide)
  have c17 := hc 17 0 (by decide)
  have m2 := hm 0 2 (by decide) (by decide)
  have m3 := hm 0 3 (by decide) (by decide)
  have m7 := hm 0 7 (by decide) (by decide)
  have m10 := hm 0 10 (by decide) (by decide)
  have m23 := hm 0 23 (by decide) (by decide)
  have m26 := hm 0 26 (by decide) (by decide)
  have m35 := hm 0 35 (by decide) (by decide)
  have m36 := hm 0 36 (by decide) (by decide)
  have m37 := hm 0 37 (by decide) (by decide)
  have hnd : ∀ t x w, nd σ' t x w = nd σ t x w := fun t x w => f 11 _ (by omega) (by omega) (by omega) (by omega) (by omega) (by omega) (by omega)
  refine RR.mk' ?_ ?_ ?_ ?_ ?_ ?_ ?_ ?_ ?_ ?_ h.N16 ?_ ?_ (fun t ht => ?_) (fun t ht => ?_) ?_ ?_ ?_ ?_ ?_ ?_ ?_ ?_ ?_ ?_ ?_ us usr usc ws wsr2 wsc
  · refine ⟨by rw [c11]; exact h.tp.1, by rw [c11]; exact h.tp.2.1, fun k => by rw [f 2 k (by omega) (by omega) (by omega) (by omega) (by omega) (by omega) (by omega)]; exact h.tp.2.2 k⟩
  · exact ⟨by rw [m2]; exact h.tm.1, by rw [m2]; exact h.tm.2⟩
  · intro k; rw [m 1 k (by omega) (by omega)]; exact h.r1 k
  · rw [c11, m2]; exact h.len
  · intro k hk
    unfold tlen at hk
    rw [c11] at hk
    unfold bM
    rw [f 2 k (by omega) (by omega) (by omega) (by omega) (by omega) (by omega) (by omega), m 1 k (by omega) (by omega)]
    exact h.byt k hk
  · exact NmI_fr h.n4 (fun x k a b => f x k (by omega) (by omega) (by omega) (by omega) (by omega) (by omega) (by omega))
  · exact NmI_fr h.n7 (fun x k a b => f x k (by omega) (by omega) (by omega) (by omega) (by omega) (by omega) (by omega))
  · refine RNs_nw h.rn (fun x k a b => f x k (by omega) (by omega) (by omega) (by omega) (by omega) (by omega) (by omega)) (fun x k q => ?_)
    rcases q with q | ⟨q1, q2 | q2⟩
    · exact m x k (by omega) (by omega)
    · subst q1 q2; exact m7
    · subst q1 q2; exact m10
  · exact Mnm_nw h.mn (fun x k q => m x k (by omega) (by omega))
  · exact DW_fr h.dw (fun x k q => f x k (by omega) (by omega) (by omega) (by omega) (by omega) (by omega) (by omega))
  · rw [f 3 4 (by omega) (by omega) (by omega) (by omega) (by omega) (by omega) (by omega)]; exact h.c34
  · rw [m23]; exact h.c23
  · exact FT_fr (h.ft t ht) (f 10 t (by omega) (by omega) (by omega) (by omega) (by omega) (by omega) (by omega)) (fun x w _ _ => hnd t x w) (by rw [f 7 3 (by omega) (by omega) (by omega) (by omega) (by omega) (by omega) (by omega)]; exact Int.le_refl _) (by rw [f 4 3 (by omega) (by omega) (by omega) (by omega) (by omega) (by omega) (by omega)]; exact Int.le_refl _)
  · exact FR_fr (h.ft t ht).2.2.2.1.1 (RR_sz h t ht) (h.fr t ht) (fun x w _ _ => hnd t x w) (m 17 t (by omega) (by omega)) (fun o x a b _ => m o _ (by omega) (by omega))
  · rw [c128]; exact h.mk
  · exact NmI_fr h.n14 (fun x k a b => f x k (by omega) (by omega) (by omega) (by omega) (by omega) (by omega) (by omega))
  · exact RN_fr h.rs (fun x k a b => f x k (by omega) (by omega) (by omega) (by omega) (by omega) (by omega) (by omega)) m26 (fun k => m 19 k (by omega) (by omega)) (fun k => m 18 k (by omega) (by omega))
  · rw [c7, m3]; exact h.flt
  · rw [c9, m36]; exact h.wys
  · rw [c9]; exact h.wyr
  · rw [c9, m35]; exact h.wsr
  · exact CB_fr h.cb (fun x k a b => f x k (by omega) (by omega) (by omega) (by omega) (by omega) (by omega) (by omega))
  · exact MB_fr h.mb (fun x k a b => m x k (by omega) (by omega))
  · intro d hd; rw [f 18 d (by omega) (by omega) (by omega) (by omega) (by omega) (by omega) (by omega)]; exact h.sdr d hd
  · intro q
    rw [c9] at q
    exact RDY_fr (RR_sz h) (h.rdy q) c17 c8 c9 (fun t x w _ _ _ => hnd t x w) (fun o k a b => f o k (by omega) (by omega) (by omega) (by omega) (by omega) (by omega) (by omega)) m26 m37 (fun o k a b => m o k (by omega) (by omega))
