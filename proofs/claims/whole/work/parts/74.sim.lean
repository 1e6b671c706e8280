/-! pure: the reference reads a tree as the class does -/
def MPn (σ τ : St) (t n : Nat) : Prop := ∀ x, x < n → τ 6 (12 * t + x) = nd σ t x 0 ∧ τ 7 (12 * t + x) = nd σ t x 1 ∧ τ 8 (12 * t + x) = nd σ t x 2 ∧ τ 9 (12 * t + x) = nd σ t x 3 ∧ τ 10 (12 * t + x) = nd σ t x 4
def MPf (σ τ : St) (t n : Nat) : Prop := (σ 12 9 = 0 → τ 0 32 = -1 ∧ τ 0 34 = -1) ∧ (σ 12 9 = 1 → τ 0 32 ≠ -1 ∧ nd σ t (τ 0 32).toNat 0 = 2 ∧ τ 0 33 = σ 12 10 ∧ τ 0 34 = -1) ∧ (2 ≤ σ 12 9 → τ 0 32 ≠ -1 ∧ τ 0 34 = σ 12 10 ∧ 0 ≤ σ 12 10) ∧ (-1 ≤ τ 0 32 ∧ τ 0 32 < (n : Int)) ∧ (-1 ≤ τ 0 34 ∧ τ 0 34 ≤ 1000)
/-- the names of the reference -/
def Mnm (τ : St) : Prop := (∀ k, 0 ≤ τ 3 k ∧ τ 3 k ≤ 8) ∧ Rw (τ 2) ∧ (∀ k, 0 ≤ τ 5 k ∧ τ 5 k ≤ 12) ∧ Rw (τ 4)
def RNs (σ τ : St) : Prop := RNm σ τ 4 8 7 3 2 ∧ RNm σ τ 7 12 10 5 4
/-- class and reference between two tokens: n nodes of tree t -/
def MP (σ τ : St) (t n : Nat) : Prop := MN τ t n ∧ MPn σ τ t n ∧ MPf σ τ t n ∧ RNs σ τ ∧ Mnm τ ∧ τ 0 31 = σ 12 5
/-- the reference has changed nothing but its scratch, its names and rows of tree t -/
def MFr (τ τ' : St) (t : Nat) : Prop := (∀ o i, (o = 1 ∨ 13 ≤ o) → τ' o i = τ o i) ∧ (∀ i, i ≠ 3 → i ≠ 4 → i ≠ 7 → i ≠ 10 → (i < 27 ∨ 34 < i) → τ' 0 i = τ 0 i) ∧ ∀ o i, 6 ≤ o → o ≤ 12 → (∀ y, y < 12 → i ≠ 12 * t + y) → τ' o i = τ o i
theorem MFr.refl (τ : St) (t : Nat) : MFr τ τ t := ⟨fun _ _ _ => rfl, fun _ _ _ _ _ _ => rfl, fun _ _ _ _ _ => rfl⟩
theorem MFr.trans {τ τ1 τ2 : St} {t : Nat} (h : MFr τ τ1 t) (h' : MFr τ1 τ2 t) : MFr τ τ2 t := ⟨fun o i a => (h'.1 o i a).trans (h.1 o i a), fun i a b c d e => (h'.2.1 i a b c d e).trans (h.2.1 i a b c d e), fun o i a b c => (h'.2.2 o i a b c).trans (h.2.2 o i a b c)⟩
theorem MFr_0 {τ τ' : St} {t : Nat} (h : ∀ o i, ¬ (o = 0 ∧ (i = 3 ∨ i = 4 ∨ (27 ≤ i ∧ i ≤ 34))) → τ' o i = τ o i) : MFr τ τ' t := ⟨fun o i a => h o i (by omega), fun i a b c d e => h 0 i (by omega), fun o i a b c => h o i (by omega)⟩
/-- the class's numbers that matter -/
def SmC (σ σ' : St) : Prop := ∀ o k, o ≠ 1 → ¬ (o = 12 ∧ (k < 2 ∨ k = 4 ∨ k = 6 ∨ k = 7 ∨ k = 8 ∨ k = 12)) → σ' o k = σ o k
theorem MP_sm {σ σ' τ : St} {t n : Nat} (h : MP σ τ t n) (hs : SmC σ σ') : MP σ' τ t n := by
  obtain ⟨a, b, c, d, e, f⟩ := h
  have gnd : ∀ x w, nd σ' t x w = nd σ t x w := fun x w => hs 11 _ (by omega) (by omega)
  refine ⟨a, fun x hx => by simp only [gnd]; exact b x hx, ?_, ⟨RN_of d.1 (hs 4 3 (by omega) (by omega)) (fun k => hs 5 k (by omega) (by omega)) (fun k => hs 6 k (by omega) (by omega)) rfl (fun _ => rfl) (fun _ => rfl), RN_of d.2 (hs 7 3 (by omega) (by omega)) (fun k => hs 8 k (by omega) (by omega)) (fun k => hs 9 k (by omega) (by omega)) rfl (fun _ => rfl) (fun _ => rfl)⟩, e, by rw [hs 12 5 (by omega) (by omega)]; exact f⟩
  unfold MPf
  rw [hs 12 9 (by omega) (by omega), hs 12 10 (by omega) (by omega)]
  simp only [gnd]
  exact c
/-- the reference's scratch beside -/
theorem MP_sc {σ τ τ' : St} {t n : Nat} (h : MP σ τ t n) (hs : ∀ o i, ¬ (o = 0 ∧ (i = 3 ∨ i = 4 ∨ i = 27 ∨ i = 28 ∨ i = 29)) → τ' o i = τ o i) : MP σ τ' t n := by
  obtain ⟨⟨a1, a2, a3, a4, a5, a6, a7⟩, b, c, d, e, f⟩ := h
  have e8 : (fun y => τ' 8 (12 * t + y)) = fun y => τ 8 (12 * t + y) := funext fun y => hs 8 _ (by omega)
  refine ⟨⟨by rw [hs 0 23 (by omega)]; exact a1, a2, by rw [hs 0 30 (by omega)]; exact a3, a4, by rw [hs 0 31 (by omega)]; exact a5, by rw [e8]; exact a6, fun y hy => by rw [e8, hs 11 _ (by omega), hs 12 _ (by omega)]; exact a7 y hy⟩, fun x hx => by rw [hs 6 _ (by omega), hs 7 _ (by omega), hs 8 _ (by omega), hs 9 _ (by omega), hs 10 _ (by omega)]; exact b x hx, by unfold MPf; rw [hs 0 32 (by omega), hs 0 33 (by omega), hs 0 34 (by omega)]; exact c, ⟨RN_of d.1 rfl (fun _ => rfl) (fun _ => rfl) (hs 0 7 (by omega)) (fun k => hs 3 k (by omega)) (fun k => hs 2 k (by omega)), RN_of d.2 rfl (fun _ => rfl) (fun _ => rfl) (hs 0 10 (by omega)) (fun k => hs 5 k (by omega)) (fun k => hs 4 k (by omega))⟩, ⟨fun k => by rw [hs 3 k (by omega)]; exact e.1 k, fun k => by rw [hs 2 k (by omega)]; exact e.2.1 k, fun k => by rw [hs 5 k (by omega)]; exact e.2.2.1 k, fun k => by rw [hs 4 k (by omega)]; exact e.2.2.2 k⟩, by rw [hs 0 31 (by omega)]; exact f⟩
/-- a row more on both sides; k, mk: kind and sign as they are in the end -/
theorem MP_row {σ σ' τ τ1 τ' : St} {t n : Nat} {k0 k nme mk : Int} (hn : n < 12) (hcur : -1 ≤ σ 12 5 ∧ σ 12 5 < (n : Int)) (hMN : MN τ t n) (h31 : τ 0 31 = σ 12 5) (hb : MPn σ τ t n) (hw : NwN τ τ1 t n k0 nme)
    (e6 : τ' 6 (12 * t + n) = k) (e10 : τ' 10 (12 * t + n) = mk) (er : ∀ o i, 6 ≤ o → o ≤ 12 → ¬ (o = 6 ∧ i = 12 * t + n) → ¬ (o = 10 ∧ i = 12 * t + n) → τ' o i = τ1 o i) (e23 : τ' 0 23 = τ 0 23) (e30 : τ' 0 30 = τ1 0 30)
    (c0 : ∀ x w, x < 12 → w < 4 → nd σ' t x w = nd (aRow σ t n k nme (σ 12 5)) t x w) (c4 : ∀ x, x < n → nd σ' t x 4 = nd σ t x 4) (c4n : nd σ' t n 4 = mk) (hc31 : -1 ≤ τ' 0 31 ∧ τ' 0 31 < ((n + 1 : Nat) : Int)) : MN τ' t (n + 1) ∧ MPn σ' τ' t (n + 1) := by
  obtain ⟨a1, a2, a3, a4, a5, a6, a7⟩ := hMN
  obtain ⟨w1, w2, w3, w4, w5, w6⟩ := hw
  have v : ∀ x w, x < 12 → w < 4 → nd σ' t x w = _ := fun x w hx hw => (c0 x w hx hw).trans (aRow_nd σ (t := t) (t' := t) k nme (σ 12 5) hn hx (by omega) hcur)
  have e8 : ∀ y, τ' 8 (12 * t + y) = τ1 8 (12 * t + y) := fun y => er 8 _ (by omega) (by omega) (by omega) (by omega)
  have e8f : (fun y => τ' 8 (12 * t + y)) = fun y => τ1 8 (12 * t + y) := funext e8
  refine ⟨⟨by rw [e23]; exact a1, a2, by rw [e30]; exact w2, by omega, hc31, fun y hy => ?_, fun y hy => ?_⟩, fun x hx => ?_⟩
  · simp only []
    rw [e8 y]
    by_cases q : y = n
    · rw [q, w4.2.2.1]; exact a5
    · rw [(w3 y (by omega)).2.2.1]; exact a6 y (by omega)
  · rw [e8f, er 11 _ (by omega) (by omega) (by omega) (by omega), er 12 _ (by omega) (by omega) (by omega) (by omega)]
    exact w5 y hy
  · by_cases q : x = n
    · subst q
      rw [e6, e10, c4n, er 7 _ (by omega) (by omega) (by omega) (by omega), er 8 _ (by omega) (by omega) (by omega) (by omega), er 9 _ (by omega) (by omega) (by omega) (by omega), w4.2.1, w4.2.2.1, w4.2.2.2.1, v x 0 hn (by omega), v x 1 hn (by omega), v x 2 hn (by omega), v x 3 hn (by omega)]
      simp [h31]
    · obtain ⟨b1, b2, b3, b4, b5⟩ := hb x (by omega)
      obtain ⟨y1, y2, y3, y4, y5⟩ := w3 x (by omega)
      rw [er 6 _ (by omega) (by omega) (by omega) (by omega), er 7 _ (by omega) (by omega) (by omega) (by omega), er 8 _ (by omega) (by omega) (by omega) (by omega), er 9 _ (by omega) (by omega) (by omega) (by omega), er 10 _ (by omega) (by omega) (by omega) (by omega), y1, y2, y3, y4, y5, b1, b2, b3, b4, b5, c4 x (by omega), h31]
      refine ⟨?_, ?_, ?_, ?_, rfl⟩
      · rw [v x 0 (by omega) (by omega), if_neg (by omega), if_neg (by omega)]
      · rw [v x 1 (by omega) (by omega), if_neg (by omega), if_neg (by omega)]
      · rw [v x 2 (by omega) (by omega), if_neg (by omega), if_neg (by omega)]
      · rw [v x 3 (by omega) (by omega), if_neg (show ¬ (t = t ∧ x = n) by omega)]
        by_cases z : σ 12 5 = (x : Int)
        · rw [if_pos z, if_pos ⟨rfl, z.symm, rfl⟩]
        · rw [if_neg z, if_neg (fun y => z y.2.1.symm)]; omega
/-- the chain's places and bytes -/
theorem cN_p {σ : St} (h14 : σ 1 4 = 0) : ∀ j, cN σ j 2 = σ 2 ∧ tlen (cN σ j) = tlen σ ∧ pOf (cN σ j) = pN (σ 2) (tlen σ) j := by
  intro j
  induction j with
  | zero => exact ⟨rfl, rfl, by show (σ 1 4).toNat = 0; rw [h14]; rfl⟩
  | succ j ih =>
    obtain ⟨a, b, c⟩ := ih
    obtain ⟨c1, c2, c3, c4, c5⟩ := ctS_1 (cN σ j)
    refine ⟨?_, (tlen_of c1).trans b, ?_⟩
    · show ctS (cN σ j) 2 = σ 2
      rw [← a]
      exact funext fun k => ctS_fr _ (by omega) (by omega)
    · show (ctS (cN σ j) 1 4).toNat = tkE (σ 2) (tlen σ) (pN (σ 2) (tlen σ) j)
      rw [c3]
      unfold Ec
      rw [a, b, c]
      omega
