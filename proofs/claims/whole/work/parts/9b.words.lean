/-! pure: no word is listed twice -/
def DWd (σ : St) : Prop := ∀ a b : Nat, a < b → (b : Int) < σ 7 3 → ¬ (σ 9 a = σ 9 b ∧ ∀ i : Nat, (i : Int) < σ 9 b → σ 8 (12 * a + i) = σ 8 (12 * b + i))
theorem DW_of {σ σ' : St} (h : DWd σ) (h3 : σ' 7 3 = σ 7 3) (h8 : ∀ k, σ' 8 k = σ 8 k) (h9 : ∀ k, σ' 9 k = σ 9 k) : DWd σ' := by
  intro a b hab hb z
  rw [h3] at hb
  rw [h9, h9] at z
  exact h a b hab hb ⟨z.1, fun i hi => by have := z.2 i hi; rw [h8, h8] at this; exact this⟩
theorem DW_add {σ : St} {s e : Nat} (hN : NmI σ 7 12 32) (h : DWd σ) (hse : e - s ≤ 12) (hf : fdN σ 7 12 s e = -1) : DWd (addN σ 7 2 12 s e) := by
  obtain ⟨n0, n1, n2, n3, n4⟩ := hN
  intro a b hab hb z
  rw [addN_sz] at hb
  have l : ∀ k, addN σ 7 2 12 s e 9 k = if k = (σ 7 3).toNat then ((e - s : Nat) : Int) else σ 9 k := fun k => addN_len σ 7 2 12 s e k
  have m : ∀ k, addN σ 7 2 12 s e 8 k = if 12 * (σ 7 3).toNat ≤ k ∧ k < 12 * (σ 7 3).toNat + (e - s) then σ 2 (s + (k - 12 * (σ 7 3).toNat)) else σ 8 k := fun k => addN_let σ 7 2 12 s e k
  rw [l, l] at z
  have hac : ¬ a = (σ 7 3).toNat := by omega
  rw [if_neg hac] at z
  have la := n3 a
  rw [show 7 + 2 = 9 from rfl] at la
  by_cases q : b = (σ 7 3).toNat
  · rw [if_pos q] at z
    have fs := fndF_spec (fun k => σ 9 k = ((e - s : Nat) : Int) ∧ eqAt (σ 8) (σ 2) (12 * k) s (e - s)) (σ 7 3).toNat 0
    have hf' : fndF (fun k => σ 9 k = ((e - s : Nat) : Int) ∧ eqAt (σ 8) (σ 2) (12 * k) s (e - s)) (σ 7 3).toNat 0 = -1 := hf
    rcases fs with w | ⟨j, w, _⟩
    · refine w.2 a (by omega) (by omega) ⟨z.1, fun i hi => ?_⟩
      have := z.2 i (by omega)
      rw [m, m, if_neg (by omega), if_pos (by omega), show 12 * b + i - 12 * (σ 7 3).toNat = i by omega] at this
      exact this
    · rw [hf'] at w; omega
  · rw [if_neg q] at z
    have lb := n3 b
    rw [show 7 + 2 = 9 from rfl] at lb
    refine h a b hab (by omega) ⟨z.1, fun i hi => ?_⟩
    have := z.2 i hi
    rw [m, m, if_neg (by omega), if_neg (by omega)] at this
    exact this
theorem DW_tn {σ : St} {s e : Nat} (hN : NmI σ 7 12 32) (h : DWd σ) (hse : e - s ≤ 12) : DWd (tnS σ 7 12 32 s e) := by
  unfold tnS
  by_cases q : fdN σ 7 12 s e ≠ -1
  · rw [if_pos q]; exact h
  · rw [if_neg q]
    by_cases q2 : σ 7 3 = ((32 : Nat) : Int)
    · rw [if_pos q2]; exact h
    · rw [if_neg q2]
      exact DW_add hN h hse (Classical.not_not.mp q)
theorem DW_fr {σ σ' : St} (h : DWd σ) (f : ∀ o k, (o = 7 ∨ o = 8 ∨ o = 9) → σ' o k = σ o k) : DWd σ' := DW_of h (f 7 3 (by omega)) (fun k => f 8 k (by omega)) (fun k => f 9 k (by omega))
theorem DW_leaf {σ : St} {t n : Nat} {k nme : Int} (h : DWd σ) : DWd (leafS σ t n k nme) := DW_fr h (fun o i q => by unfold leafS; rw [su_ko _ _ (by omega), aRow_fr _ _ _ _ _ _ (by omega) (by omega)])
theorem DW_open {σ : St} {t n : Nat} (h : DWd σ) : DWd (openS σ t n) := DW_fr h (fun o i q => by unfold openS; rw [su_ko _ _ (by omega), sn_fr _ _ (by omega), su_ko _ _ (by omega), aRow_fr _ _ _ _ _ _ (by omega) (by omega)])
theorem DW_tok {σ : St} {t n s e : Nat} {K : Int} (hP : PI σ t n) (hD : DWd σ) (hT : Tk σ K s e) : DWd (tokS σ t n K s e) := by
  have hN7 := hP.2.2.1
  have node : DWd (nodeS σ t n K s e) := by
    unfold nodeS
    by_cases h : nodeC σ n K s e = 0
    · rw [if_pos h]
      by_cases k2 : K = 2
      · rw [if_pos k2]
        exact DW_fr hD (fun o i q => by unfold labS; rw [su_ko _ _ (by omega), su_ko _ _ (by omega), su_ko _ _ (by omega), su_ko _ _ (by omega), tnS_fr _ (by omega) (by omega) (by omega)])
      · rw [if_neg k2]
        unfold nodeC at h
        rw [if_neg k2] at h
        by_cases k3 : K = 3
        · unfold wordS
          exact DW_leaf (DW_fr (DW_tn hN7 hD (hT.2.2.2.2.2.2.2.1 k3)) (fun o i q => su_ko _ _ (by omega)))
        · rw [if_neg k3] at h; exact absurd h (by decide)
    · rw [if_neg h]; exact hD
  unfold tokS
  split
  · exact node
  split
  · unfold kindS
    split
    · split
      · exact DW_open hD
      split
      · exact DW_leaf hD
      split
      · exact DW_leaf (DW_fr hD (fun o i q => footS_fr σ (by omega)))
      split
      · exact DW_fr hD (fun o i q => by rw [su_ko _ _ (by omega), su_ko _ _ (by omega)])
      split
      · exact DW_fr hD (fun o i q => by rw [su_ko _ _ (by omega), su_ko _ _ (by omega)])
      · exact hD
    · exact hD
  split
  · split
    · exact DW_open hD
    · exact hD
  split
  · split
    · exact DW_fr hD (fun o i q => by unfold closeS; rw [su_ko _ _ (by omega), su_ko _ _ (by omega)])
    · exact node
  · exact hD
theorem chain_DW {σ : St} {t n : Nat} (hP : PI σ t n) (hK : PK σ t n) (h14 : 0 ≤ σ 1 4) (hle : pOf σ ≤ tlen σ) (hD : DWd σ) : ∀ j, (∀ i, i < j → ¬ cdone (cN σ i) ∧ ctC (cN σ i) = 0) → DWd (cN σ j) := by
  intro j
  induction j with
  | zero => intro _; exact hD
  | succ j ih =>
    intro hch
    have f1 := ih (fun i hi => hch i (by omega))
    obtain ⟨n', a1, a2, a3, a4, a5⟩ := chain_inv hP hK h14 hle j (fun i hi => hch i (by omega))
    obtain ⟨hnd, hz⟩ := hch j (by omega)
    have hT := Tk_ld a1.1 a3 a4
    have hPl : PI (ld (cN σ j)) t n' := PI_tf a1 (Tf_tk _ _)
    have hDl : DWd (ld (cN σ j)) := DW_fr f1 (fun o i q => Tf_tk _ _ o i (by omega))
    have hto : tOf (cN σ j) = t := by unfold tOf; rw [a1.2.2.2.1]; omega
    have hno : nOf (cN σ j) = n' := by unfold nOf nN; rw [hto, a1.2.2.2.2.2.1]; omega
    have hK1 : Kc (cN σ j) ≠ 1 := by
      intro q
      unfold ctC at hz
      rw [if_pos q] at hz
      exact absurd hz (by decide)
    have f2 := DW_tok hPl hDl hT
    have e : ctT (cN σ j) = tokS (ld (cN σ j)) t n' (Kc (cN σ j)) (Sc (cN σ j)) (Ec (cN σ j)) := by unfold ctT; rw [if_neg hK1, hto, hno]
    show DWd (ctS (cN σ j))
    unfold ctS
    rw [e]
    exact DW_fr f2 (fun o i q => by rw [su_ko _ _ (by omega), su_ko _ _ (by omega)])
