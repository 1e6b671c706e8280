/-! pure: what a text of a tree leaves alone -/
def FrN (σ σ' : St) (o w : Nat) : Prop := σ' o 0 = σ o 0 ∧ σ o 3 ≤ σ' o 3 ∧ (∀ k : Nat, (k : Int) < σ o 3 → σ' (o + 2) k = σ (o + 2) k) ∧ ∀ j : Nat, (j : Int) < (w : Int) * σ o 3 → σ' (o + 1) j = σ (o + 1) j
def FrT (σ σ' : St) (t : Nat) : Prop := (∀ o k, (o < 4 ∨ 12 < o) → o ≠ 1 → σ' o k = σ o k) ∧ FrN σ σ' 4 8 ∧ FrN σ σ' 7 12 ∧ (∀ k, k ≠ t → σ' 10 k = σ 10 k) ∧ (∀ t' x w, t' ≠ t → x < 12 → w < 12 → nd σ' t' x w = nd σ t' x w) ∧ σ' 1 1 = σ 1 1
theorem FrN.refl (σ : St) (o w : Nat) : FrN σ σ o w := ⟨rfl, Int.le_refl _, fun _ _ => rfl, fun _ _ => rfl⟩
theorem FrN.of {σ σ' : St} {o w : Nat} (h : ∀ x k, (x = o ∨ x = o + 1 ∨ x = o + 2) → σ' x k = σ x k) : FrN σ σ' o w := ⟨h o 0 (by omega), by rw [h o 3 (by omega)]; exact Int.le_refl _, fun k _ => h _ k (by omega), fun k _ => h _ k (by omega)⟩
theorem FrN.trans {σ σ1 σ2 : St} {o w : Nat} (h : FrN σ σ1 o w) (h' : FrN σ1 σ2 o w) : FrN σ σ2 o w := by
  obtain ⟨a, b, c, d⟩ := h
  obtain ⟨a', b', c', d'⟩ := h'
  refine ⟨a'.trans a, by omega, fun k hk => (c' k (by omega)).trans (c k hk), fun j hj => (d' j ?_).trans (d j hj)⟩
  have : (w : Int) * σ o 3 ≤ (w : Int) * σ1 o 3 := Int.mul_le_mul_of_nonneg_left b (by omega)
  omega
theorem FrT.refl (σ : St) (t : Nat) : FrT σ σ t := ⟨fun _ _ _ _ => rfl, FrN.refl _ _ _, FrN.refl _ _ _, fun _ _ => rfl, fun _ _ _ _ _ _ => rfl, rfl⟩
theorem FrT.trans {σ σ1 σ2 : St} {t : Nat} (h : FrT σ σ1 t) (h' : FrT σ1 σ2 t) : FrT σ σ2 t :=
  ⟨fun o k a b => (h'.1 o k a b).trans (h.1 o k a b), h.2.1.trans h'.2.1, h.2.2.1.trans h'.2.2.1, fun k hk => (h'.2.2.2.1 k hk).trans (h.2.2.2.1 k hk), fun t' x w a b c => (h'.2.2.2.2.1 t' x w a b c).trans (h.2.2.2.2.1 t' x w a b c), h'.2.2.2.2.2.trans h.2.2.2.2.2⟩
theorem FrN_tn {σ : St} {o w cap s e : Nat} (hN : NmI σ o w cap) : FrN σ (tnS σ o w cap s e) o w := by
  have h1 := hN.2.1
  unfold tnS
  split
  · exact FrN.refl _ _ _
  · split
    · exact FrN.refl _ _ _
    · refine ⟨addN_fr _ _ _ _ _ _ _ _ (by omega) (by omega) (by omega), by rw [addN_sz]; omega, fun k hk => by rw [addN_len, if_neg (by omega)], fun j hj => ?_⟩
      rw [addN_let, if_neg ?_]
      intro q
      have : ((w * (σ o 3).toNat : Nat) : Int) = (w : Int) * σ o 3 := by rw [Int.natCast_mul, show (((σ o 3).toNat : Nat) : Int) = σ o 3 by omega]
      omega
/-- a change of scratch numbers and of tree t's cells alone -/
theorem FrT_of {σ σ' : St} {t : Nat} (h : ∀ o k, o ≠ 10 → o ≠ 11 → o ≠ 12 → (o ≠ 1 ∨ k = 1) → σ' o k = σ o k) (h10 : ∀ k, k ≠ t → σ' 10 k = σ 10 k) (h11 : ∀ t' x w, t' ≠ t → x < 12 → w < 12 → nd σ' t' x w = nd σ t' x w) : FrT σ σ' t :=
  ⟨fun o k a b => h o k (by omega) (by omega) (by omega) (Or.inl b), FrN.of (fun x k q => h x k (by omega) (by omega) (by omega) (by omega)), FrN.of (fun x k q => h x k (by omega) (by omega) (by omega) (by omega)), h10, h11, h 1 1 (by omega) (by omega) (by omega) (Or.inr rfl)⟩
theorem FrT_leaf {σ : St} {t n : Nat} {k nme : Int} (hn : n < 12) (hp : -1 ≤ σ 12 5 ∧ σ 12 5 < (n : Int)) : FrT σ (leafS σ t n k nme) t :=
  FrT_of (fun o i a b c _ => by unfold leafS; rw [su_ko _ _ (by omega), aRow_fr _ _ _ _ _ _ (by omega) (by omega)]) (fun i hi => by unfold leafS; rw [su_ko _ _ (by omega), aRow_fr _ _ _ _ _ _ (by omega) (by omega)]) (fun t' x w a b c => by unfold leafS; rw [nd_su _ _ (by omega), aRow_nd σ k nme _ hn b c hp, if_neg (by omega), if_neg (by omega)])
theorem FrT_open {σ : St} {t n : Nat} (hn : n < 12) (hp : -1 ≤ σ 12 5 ∧ σ 12 5 < (n : Int)) : FrT σ (openS σ t n) t :=
  FrT_of (fun o i a b c _ => openS_fr σ ⟨a, b, c⟩) (fun i hi => by unfold openS; rw [su_ko _ _ (by omega), sn_fr _ _ (by omega), su_ko _ _ (by omega), aRow_fr _ _ _ _ _ _ (by omega) (by omega)]) (fun t' x w a b c => by unfold openS; rw [nd_su _ _ (by omega), nd_sn _ _ hn (by omega) b c, if_neg (by omega), nd_su _ _ (by omega), aRow_nd σ 0 _ _ hn b c hp, if_neg (by omega), if_neg (by omega)])
theorem FrT_12 {σ σ' : St} {t : Nat} (h : ∀ o k, o ≠ 12 → (o ≠ 1 ∨ k = 1) → σ' o k = σ o k) : FrT σ σ' t :=
  FrT_of (fun o k a b c d => h o k c d) (fun k hk => h 10 k (by omega) (by omega)) (fun t' x w a b c => h 11 _ (by omega) (by omega))
theorem FrT_tok {σ : St} {t n s e : Nat} {K : Int} (hP : PI σ t n) (hT : Tk σ K s e) (hc : tokC σ n K s e = 0) : FrT σ (tokS σ t n K s e) t := by
  have hcur := hP.2.2.2.2.2.2.2.1
  have hst2 := hP.2.2.2.2.2.2.2.2.2.2.1
  have hN4 := hP.2.1
  have hN7 := hP.2.2.1
  have hn12 := hP.2.2.2.2.2.2.1
  have node : nodeC σ n K s e = 0 → FrT σ (nodeS σ t n K s e) t := by
    intro h
    unfold nodeS
    rw [if_pos h]
    unfold nodeC at h
    by_cases k2 : K = 2
    · rw [if_pos k2]
      have f1 : FrT σ (tnS σ 4 8 16 s e) t := ⟨fun o k a b => tnS_fr _ (by omega) (by omega) (by omega), FrN_tn hN4, FrN.of (fun x k q => tnS_fr _ (by omega) (by omega) (by omega)), fun k hk => tnS_fr _ (by omega) (by omega) (by omega), fun t' x w a b c => tnS_fr _ (by omega) (by omega) (by omega), tnS_fr _ (by omega) (by omega) (by omega)⟩
      refine f1.trans (FrT_12 (fun o k a _ => ?_))
      unfold labS
      rw [su_ko _ _ (by omega), su_ko _ _ (by omega), su_ko _ _ (by omega), su_ko _ _ (by omega)]
    · rw [if_neg k2] at h ⊢
      by_cases k3 : K = 3
      · rw [if_pos k3] at h
        by_cases q : n < 12
        · have f1 : FrT σ (tnS σ 7 12 32 s e) t := ⟨fun o k a b => tnS_fr _ (by omega) (by omega) (by omega), FrN.of (fun x k q => tnS_fr _ (by omega) (by omega) (by omega)), FrN_tn hN7, fun k hk => tnS_fr _ (by omega) (by omega) (by omega), fun t' x w a b c => tnS_fr _ (by omega) (by omega) (by omega), tnS_fr _ (by omega) (by omega) (by omega)⟩
          have f2 : FrT (tnS σ 7 12 32 s e) (su (tnS σ 7 12 32 s e) 12 12 1) t := FrT_12 (fun o k a _ => by rw [su_ko _ _ (by omega)])
          unfold wordS
          exact (f1.trans f2).trans (FrT_leaf q (by rw [su_ko _ _ (by omega), tnS_fr _ (by omega) (by omega) (by omega)]; exact hcur))
        · rw [if_neg q] at h; exact absurd h (by decide)
      · rw [if_neg k3] at h; exact absurd h (by decide)
  unfold tokC at hc
  unfold tokS
  by_cases s0 : σ 12 4 = 0
  · rw [if_pos s0] at hc ⊢
    exact node hc
  rw [if_neg s0] at hc ⊢
  by_cases s1 : σ 12 4 = 1
  · rw [if_pos s1]
    have hn := hst2 (Or.inl s1)
    unfold kindS
    split
    · split
      · exact FrT_open hn hcur
      split
      · exact FrT_leaf hn hcur
      split
      · have f1 : FrT σ (footS σ) t := FrT_12 (fun o k a _ => footS_fr σ (by omega))
        exact f1.trans (FrT_leaf hn (by rw [footS_fr σ (by omega)]; exact hcur))
      split
      · exact FrT_12 (fun o k a _ => by rw [su_ko _ _ (by omega), su_ko _ _ (by omega)])
      split
      · exact FrT_12 (fun o k a _ => by rw [su_ko _ _ (by omega), su_ko _ _ (by omega)])
      · exact FrT.refl _ _
    · exact FrT.refl _ _
  rw [if_neg s1] at hc ⊢
  by_cases s2 : σ 12 4 = 2
  · rw [if_pos s2]
    split
    · exact FrT_open (hst2 (Or.inr s2)) hcur
    · exact FrT.refl _ _
  rw [if_neg s2] at hc ⊢
  by_cases s3 : σ 12 4 = 3
  · rw [if_pos s3] at hc ⊢
    by_cases q : K = 4 ∧ σ 2 s = 41
    · rw [if_pos q]
      exact FrT_12 (fun o k a _ => by unfold closeS; rw [su_ko _ _ (by omega), su_ko _ _ (by omega)])
    · rw [if_neg q] at hc ⊢; exact node hc
  rw [if_neg s3]
  exact FrT.refl _ _
theorem FrT_ld (σ : St) (t p : Nat) : FrT σ (tkSt σ p) t := FrT_12 (fun o k a b => Tf_tk σ p o k (by omega))
/-- a token that does not stand leaves all but scratch numbers alone -/
theorem FrT_bad {σ : St} {t : Nat} (h : ctC σ ≠ 0) : FrT σ (ctS σ) t := by
  have f2 : ∀ σ1 : St, FrT σ1 (su (su σ1 12 0 (ctC σ)) 12 1 (Sc σ : Nat)) t := fun σ1 => FrT_12 (fun o k a _ => by rw [su_ko _ _ (by omega), su_ko _ _ (by omega)])
  have e : ctT σ = ld σ := by
    unfold ctC at h
    unfold ctT
    split
    · rfl
    · rename_i q
      rw [if_neg q] at h
      have nod : nodeC (ld σ) (nOf σ) (Kc σ) (Sc σ) (Ec σ) ≠ 0 → nodeS (ld σ) (tOf σ) (nOf σ) (Kc σ) (Sc σ) (Ec σ) = ld σ := fun z => by unfold nodeS; rw [if_neg z]
      unfold tokC at h
      unfold tokS
      split
      · rename_i s0; rw [if_pos s0] at h; exact nod h
      rename_i s0; rw [if_neg s0] at h
      split
      · rename_i s1; rw [if_pos s1] at h
        unfold kindC at h
        unfold kindS
        split at h
        · exact absurd rfl h
        · rename_i z
          split
          · rename_i k4
            rw [if_neg (fun y => z ⟨k4, by omega⟩), if_neg (fun y => z ⟨k4, by omega⟩), if_neg (fun y => z ⟨k4, by omega⟩), if_neg (fun y => z ⟨k4, by omega⟩), if_neg (fun y => z ⟨k4, by omega⟩)]
          · rfl
      rename_i s1; rw [if_neg s1] at h
      split
      · rename_i s2; rw [if_pos s2] at h
        split at h
        · exact absurd rfl h
        · rename_i z; rw [if_neg z]
      rename_i s2; rw [if_neg s2] at h
      split
      · rename_i s3; rw [if_pos s3] at h
        split at h
        · exact absurd rfl h
        · rename_i z; rw [if_neg z]; exact nod h
      · rfl
  unfold ctS
  rw [e]
  exact (FrT_ld σ t _).trans (f2 _)
theorem chain_fr {σ : St} {t n : Nat} (hP : PI σ t n) (hK : PK σ t n) (h14 : 0 ≤ σ 1 4) (hle : pOf σ ≤ tlen σ) : ∀ j, (∀ i, i < j → ¬ cdone (cN σ i) ∧ ctC (cN σ i) = 0) → FrT σ (cN σ j) t := by
  intro j
  induction j with
  | zero => intro _; exact FrT.refl _ _
  | succ j ih =>
    intro hch
    have f1 := ih (fun i hi => hch i (by omega))
    obtain ⟨n', a1, a2, a3, a4, a5⟩ := chain_inv hP hK h14 hle j (fun i hi => hch i (by omega))
    obtain ⟨hnd, hz⟩ := hch j (by omega)
    have hT := Tk_ld a1.1 a3 a4
    have hPl : PI (ld (cN σ j)) t n' := PI_tf a1 (Tf_tk _ _)
    have hto : tOf (cN σ j) = t := by unfold tOf; rw [a1.2.2.2.1]; omega
    have hno : nOf (cN σ j) = n' := by unfold nOf nN; rw [hto, a1.2.2.2.2.2.1]; omega
    have hK1 : Kc (cN σ j) ≠ 1 := by
      intro q
      unfold ctC at hz
      rw [if_pos q] at hz
      exact absurd hz (by decide)
    have hz2 : tokC (ld (cN σ j)) n' (Kc (cN σ j)) (Sc (cN σ j)) (Ec (cN σ j)) = 0 := by unfold ctC at hz; rw [if_neg hK1, hno] at hz; exact hz
    have f2 := FrT_tok hPl hT hz2
    have e : ctT (cN σ j) = tokS (ld (cN σ j)) t n' (Kc (cN σ j)) (Sc (cN σ j)) (Ec (cN σ j)) := by unfold ctT; rw [if_neg hK1, hto, hno]
    refine (f1.trans (FrT_ld (cN σ j) t (pOf (cN σ j)))).trans (f2.trans ?_)
    show FrT _ (ctS (cN σ j)) t
    unfold ctS
    rw [e]
    exact FrT_12 (fun o k a _ => by rw [su_ko _ _ (by omega), su_ko _ _ (by omega)])
