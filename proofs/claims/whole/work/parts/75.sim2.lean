/-- the class's side of a token, in the reference's words -/
theorem ct_val {σ0 : St} {b : Nat → Int} {len t n j : Nat} (h14 : σ0 1 4 = 0) (hl : tlen σ0 = len) (hb : ∀ k, k < len → σ0 2 k = b k) (hP : PI (cN σ0 j) t n) :
    Kc (cN σ0 j) = tkK b len (pN b len j) ∧ Sc (cN σ0 j) = tkS b len (pN b len j) ∧ Ec (cN σ0 j) = pN b len (j + 1) ∧ tOf (cN σ0 j) = t ∧ nOf (cN σ0 j) = n ∧ (∀ k, k < len → cN σ0 j 2 k = b k) := by
  obtain ⟨a1, a2, a3⟩ := cN_p h14 j
  have hpn := pN_c (b := σ0 2) (b' := b) hb j
  have hto : tOf (cN σ0 j) = t := by unfold tOf; rw [hP.2.2.2.1]; omega
  have htk := tk_c (b := σ0 2) (b' := b) (len := len) (p := pN b len j) hb
  rw [hl] at a2 a3
  refine ⟨?_, ?_, ?_, hto, by unfold nOf nN; rw [hto, hP.2.2.2.2.2.1]; omega, fun k hk => by rw [a1]; exact hb k hk⟩
  · unfold Kc; rw [a1, a2, a3, hpn]; exact htk.2.1
  · unfold Sc; rw [a1, a2, a3, hpn]; exact htk.1
  · unfold Ec; rw [a1, a2, a3, hpn]; exact htk.2.2
/-- the class's step, where the token is none that is bad -/
theorem ct_step {σ : St} {t n : Nat} {K : Int} {s e : Nat} (h1 : Kc σ = K) (h2 : Sc σ = s) (h3 : Ec σ = e) (h4 : tOf σ = t) (h5 : nOf σ = n) (hK : K ≠ 1) : ctC σ = tokC (ld σ) n K s e ∧ ctS σ = su (su (tokS (ld σ) t n K s e) 12 0 (ctC σ)) 12 1 (s : Int) := by
  have e1 : ctC σ = tokC (ld σ) n K s e := by unfold ctC; rw [h1, if_neg hK, h2, h3, h5]
  refine ⟨e1, ?_⟩
  unfold ctS ctT
  rw [h1, if_neg hK, h2, h3, h4, h5]
theorem ctC_1 {σ : St} (h : Kc σ = 1) : ctC σ = 1 := by unfold ctC; rw [if_pos h]
theorem chain_ext {σ : St} {j : Nat} (h : ∀ i, i < j → ¬ cdone (cN σ i) ∧ ctC (cN σ i) = 0) (h1 : ¬ cdone (cN σ j)) (h2 : ctC (cN σ j) = 0) : ∀ i, i < j + 1 → ¬ cdone (cN σ i) ∧ ctC (cN σ i) = 0 := fun i hi => by
  by_cases e : i = j
  · rw [e]; exact ⟨h1, h2⟩
  · exact h i (by omega)
/-- the reference's tape stands -/
theorem MFr.tape {τ0 τ : St} {t : Nat} (h : MFr τ0 τ t) (hI : TmI τ0) : TmI τ ∧ bM τ = bM τ0 ∧ mlen τ = mlen τ0 := MI hI (h.2.1 2 (by omega) (by omega) (by omega) (by omega) (by omega)) (fun k => h.1 1 k (by omega))
theorem RNs_sc {σ τ τ' : St} (h : RNs σ τ) (hs : ∀ o i, ¬ (o = 0 ∧ (i = 3 ∨ i = 4 ∨ (27 ≤ i ∧ i ≤ 34))) → ¬ (6 ≤ o ∧ o ≤ 12) → τ' o i = τ o i) : RNs σ τ' := ⟨RN_of h.1 rfl (fun _ => rfl) (fun _ => rfl) (hs 0 7 (by omega) (by omega)) (fun k => hs 3 k (by omega) (by omega)) (fun k => hs 2 k (by omega) (by omega)), RN_of h.2 rfl (fun _ => rfl) (fun _ => rfl) (hs 0 10 (by omega) (by omega)) (fun k => hs 5 k (by omega) (by omega)) (fun k => hs 4 k (by omega) (by omega))⟩
theorem Mnm_sc {τ τ' : St} (e : Mnm τ) (hs : ∀ o i, ¬ (o = 0 ∧ (i = 3 ∨ i = 4 ∨ (27 ≤ i ∧ i ≤ 34))) → ¬ (6 ≤ o ∧ o ≤ 12) → τ' o i = τ o i) : Mnm τ' := ⟨fun k => by rw [hs 3 k (by omega) (by omega)]; exact e.1 k, fun k => by rw [hs 2 k (by omega) (by omega)]; exact e.2.1 k, fun k => by rw [hs 5 k (by omega) (by omega)]; exact e.2.2.1 k, fun k => by rw [hs 4 k (by omega) (by omega)]; exact e.2.2.2 k⟩
theorem RNs_sm {σ σ' τ : St} (h : RNs σ τ) (hs : ∀ o k, 4 ≤ o → o ≤ 9 → σ' o k = σ o k) : RNs σ' τ := ⟨RN_of h.1 (hs 4 3 (by omega) (by omega)) (fun k => hs 5 k (by omega) (by omega)) (fun k => hs 6 k (by omega) (by omega)) rfl (fun _ => rfl) (fun _ => rfl), RN_of h.2 (hs 7 3 (by omega) (by omega)) (fun k => hs 8 k (by omega) (by omega)) (fun k => hs 9 k (by omega) (by omega)) rfl (fun _ => rfl) (fun _ => rfl)⟩
/-- what the reference owes where the text has a fault, and where it has none -/
def OwB (Q : Int → St → Prop) (σ0 τ0 : St) (t : Nat) : Prop := ∀ j τ', (∀ i, i < j → ¬ cdone (cN σ0 i) ∧ ctC (cN σ0 i) = 0) → ¬ cdone (cN σ0 j) → ctC (cN σ0 j) ≠ 0 → τ' 0 3 = ctC (cN σ0 j) → τ' 0 4 = ((Sc (cN σ0 j) : Nat) : Int) → RNs (cN σ0 j) τ' → Mnm τ' → MFr τ0 τ' t → Q 0 τ'
/-- the flaw of token j -/
theorem sp_mbad {Q R : Int → St → Prop} {σ0 τ0 τ : St} {t j : Nat} {c pl : Int} (hB : OwB Q σ0 τ0 t) (hch : ∀ i, i < j → ¬ cdone (cN σ0 i) ∧ ctC (cN σ0 i) = 0) (hnd : ¬ cdone (cN σ0 j)) (hc : ctC (cN σ0 j) = c) (hc0 : c ≠ 0) (hpl : pl = ((Sc (cN σ0 j) : Nat) : Int)) (hR : RNs (cN σ0 j) τ) (hM : Mnm τ) (hF : MFr τ0 τ t) (hQ : ∀ τ', Q 0 τ' → R 0 τ') : wp_X9_flaw c pl R τ := by
  apply sp_mflaw
  apply hQ
  have hs : ∀ o i, ¬ (o = 0 ∧ (i = 3 ∨ i = 4 ∨ (27 ≤ i ∧ i ≤ 34))) → su (su τ 0 3 c) 0 4 pl o i = τ o i := fun o i q => by rw [su_ko _ _ (by omega), su_ko _ _ (by omega)]
  refine hB j _ hch hnd (by rw [hc]; exact hc0) (by rw [su_ko _ _ (by omega), su_at, hc]) (by rw [su_at, hpl]) (RNs_sc hR (fun o i a _ => hs o i a)) (Mnm_sc hM (fun o i a _ => hs o i a)) (hF.trans (MFr_0 hs))
/-- next() to token j -/
theorem sp_mto {Q R : Int → St → Prop} {σ0 τ0 τ : St} {t n j : Nat} (hI : TmI τ0) (h14 : σ0 1 4 = 0) (hl : tlen σ0 = mlen τ0) (hb : ∀ k, k < mlen τ0 → σ0 2 k = bM τ0 k) (hP : PI (cN σ0 j) t n) (hB : OwB Q σ0 τ0 t) (hch : ∀ i, i < j → ¬ cdone (cN σ0 i) ∧ ctC (cN σ0 i) = 0) (h29 : τ 0 29 = ((pN (bM τ0) (mlen τ0) j : Nat) : Int)) (hR : RNs (cN σ0 j) τ) (hM : Mnm τ) (hF : MFr τ0 τ t) (hQ : ∀ τ', Q 0 τ' → R 0 τ')
    (hok : tkK (bM τ0) (mlen τ0) (pN (bM τ0) (mlen τ0) j) ≠ 1 → ∀ τ', (∀ o k, ¬ (o = 0 ∧ (k = 27 ∨ k = 28 ∨ k = 29)) → τ' o k = τ o k) → Ld (bM τ0) (mlen τ0) τ' j → R 1 τ') : wp_X9_next R τ := by
  obtain ⟨t1, t2, t3⟩ := hF.tape hI
  obtain ⟨v1, v2, v3, v4, v5, v6⟩ := ct_val h14 hl hb hP
  refine sp_mnextG (j := j) t1 t2 t3 h29 (fun q τ' g a1 a2 => ?_) (fun q τ' g a1 => hok q τ' g a1)
  rw [q] at v1
  have hs : ∀ o i, ¬ (o = 0 ∧ (i = 3 ∨ i = 4 ∨ (27 ≤ i ∧ i ≤ 34))) → τ' o i = τ o i := fun o i z => g o i (by omega)
  apply hQ
  refine hB j τ' hch (fun z => by have := z.1; rw [v1] at this; exact absurd this (by decide)) (by rw [ctC_1 v1]; decide) (by rw [ctC_1 v1, a1]) (by rw [a2, v2]) (RNs_sc hR (fun o i a _ => hs o i a)) (Mnm_sc hM (fun o i a _ => hs o i a)) (hF.trans (MFr_0 hs))
