/-! pure: a leaf, an open node, a node closed, on both sides -/
theorem leafS_nd (S : St) {t n x w : Nat} {k nme : Int} : nd (leafS S t n k nme) t x w = nd (aRow S t n k nme (S 12 5)) t x w := by unfold leafS; exact nd_su _ _ (by omega)
theorem leafS_12 (S : St) {t n i : Nat} {k nme : Int} (h : i ≠ 4) : leafS S t n k nme 12 i = S 12 i := by unfold leafS; rw [su_ko _ _ (by omega), aRow_fr _ _ _ _ _ _ (by omega) (by omega)]
theorem leafS_10 (S : St) {t n : Nat} {k nme : Int} : leafS S t n k nme 10 t = ((n + 1 : Nat) : Int) := by unfold leafS; rw [su_ko _ _ (by omega), aRow_sz]
theorem openS_nd (S : St) {t n x w : Nat} (hn : n < 12) (hx : x < 12) (hw : w < 12) : nd (openS S t n) t x w = if x = n ∧ w = 4 then S 12 8 else nd (aRow S t n 0 (S 12 6) (S 12 5)) t x w := by
  unfold openS
  rw [nd_su _ _ (by omega), nd_sn _ _ hn (by omega) hx hw, nd_su _ _ (by omega)]
  by_cases q : x = n ∧ w = 4
  · rw [if_pos ⟨rfl, q⟩, if_pos q]
  · rw [if_neg (fun z => q z.2), if_neg q]
theorem openS_12 (S : St) {t n i : Nat} (h : i ≠ 4) (h5 : i ≠ 5) : openS S t n 12 i = S 12 i := by unfold openS; rw [su_ko _ _ (by omega), sn_fr _ _ (by omega), su_ko _ _ (by omega), aRow_fr _ _ _ _ _ _ (by omega) (by omega)]
theorem openS_5 (S : St) {t n : Nat} : openS S t n 12 5 = (n : Int) := by unfold openS; rw [su_ko _ _ (by omega), sn_fr _ _ (by omega), su_at]
theorem openS_10 (S : St) {t n : Nat} : openS S t n 10 t = ((n + 1 : Nat) : Int) := by unfold openS; rw [su_ko _ _ (by omega), sn_fr _ _ (by omega), su_ko _ _ (by omega), aRow_sz]
theorem RNs_nw {S S' τ τ' : St} (h : RNs S τ) (hS : ∀ o k, 4 ≤ o → o ≤ 9 → S' o k = S o k) (hτ : ∀ o k, (2 ≤ o ∧ o ≤ 5) ∨ (o = 0 ∧ (k = 7 ∨ k = 10)) → τ' o k = τ o k) : RNs S' τ' :=
  ⟨RN_of h.1 (hS 4 3 (by omega) (by omega)) (fun k => hS 5 k (by omega) (by omega)) (fun k => hS 6 k (by omega) (by omega)) (hτ 0 7 (by omega)) (fun k => hτ 3 k (by omega)) (fun k => hτ 2 k (by omega)), RN_of h.2 (hS 7 3 (by omega) (by omega)) (fun k => hS 8 k (by omega) (by omega)) (fun k => hS 9 k (by omega) (by omega)) (hτ 0 10 (by omega)) (fun k => hτ 5 k (by omega)) (fun k => hτ 4 k (by omega))⟩
theorem Mnm_nw {τ τ' : St} (e : Mnm τ) (hτ : ∀ o k, (2 ≤ o ∧ o ≤ 5) → τ' o k = τ o k) : Mnm τ' := ⟨fun k => by rw [hτ 3 k (by omega)]; exact e.1 k, fun k => by rw [hτ 2 k (by omega)]; exact e.2.1 k, fun k => by rw [hτ 5 k (by omega)]; exact e.2.2.1 k, fun k => by rw [hτ 4 k (by omega)]; exact e.2.2.2 k⟩
/-- the feet stand, over one row more -/
theorem MPf_nw {S S' τ τ' : St} {t n n' : Nat} (h : MPf S τ t n) (hn : n ≤ n') (h9 : S' 12 9 = S 12 9) (h10 : S' 12 10 = S 12 10) (h32 : τ' 0 32 = τ 0 32) (h33 : τ' 0 33 = τ 0 33) (h34 : τ' 0 34 = τ 0 34) (hnd : ∀ x, x < n → nd S' t x 0 = nd S t x 0) : MPf S' τ' t n' := by
  obtain ⟨a, b, c, d, e⟩ := h
  unfold MPf
  rw [h9, h10, h32, h33, h34]
  refine ⟨a, fun q => ?_, c, ⟨d.1, by omega⟩, e⟩
  obtain ⟨b1, b2, b3, b4⟩ := b q
  exact ⟨b1, by rw [hnd _ (by omega)]; exact b2, b3, b4⟩
theorem MP_leaf {S τ1 τa τ' : St} {t n : Nat} {k0 k nme : Int} (hn : n < 12) (hcur : -1 ≤ S 12 5 ∧ S 12 5 < (n : Int)) (hMN : MN τ1 t n) (h31 : τ1 0 31 = S 12 5) (hb : MPn S τ1 t n) (hw : NwN τ1 τa t n k0 nme) (e6 : τ' 6 (12 * t + n) = k)
    (hr : ∀ o i, ¬ (o = 6 ∧ i = 12 * t + n) → ¬ (o = 0 ∧ ((27 ≤ i ∧ i ≤ 29) ∨ (32 ≤ i ∧ i ≤ 34))) → τ' o i = τa o i) (hf : MPf (leafS S t n k nme) τ' t (n + 1)) (hRN : RNs S τ1) (hMn : Mnm τ1) : MP (leafS S t n k nme) τ' t (n + 1) := by
  have w0 := hw.1
  have w2 := hw.2.1
  have w4 := hw.2.2.2.1
  have e31 : τ' 0 31 = S 12 5 := by rw [hr 0 31 (by omega) (by omega), w0 0 31 (by omega) (by omega)]; exact h31
  have hq : ∀ o k, (2 ≤ o ∧ o ≤ 5) ∨ (o = 0 ∧ (k = 7 ∨ k = 10)) → τ' o k = τ1 o k := fun o i z => by rw [hr o i (by omega) (by omega), w0 o i (by omega) (by omega)]
  have rows := MP_row (σ := S) (σ' := leafS S t n k nme) (τ' := τ') (mk := 0) hn hcur hMN h31 hb hw e6 (by rw [hr 10 _ (by omega) (by omega)]; exact w4.2.2.2.2) (fun o i a b c d => hr o i (by omega) (by omega)) (by rw [hr 0 23 (by omega) (by omega), w0 0 23 (by omega) (by omega)]) (hr 0 30 (by omega) (by omega)) (fun x w hx hw => leafS_nd S) (fun x hx => by rw [leafS_nd, aRow_nd S _ _ _ hn (by omega) (by omega) hcur, if_neg (by omega), if_neg (by omega)]) (by rw [leafS_nd, aRow_nd S _ _ _ hn (by omega) (by omega) hcur, if_pos ⟨rfl, rfl⟩]; rfl) (by rw [e31]; omega)
  exact ⟨rows.1, rows.2, hf, RNs_nw hRN (fun o i a b => leafS_fr S (by omega)) hq, Mnm_nw hMn (fun o i z => hq o i (Or.inl z)), by rw [e31, leafS_12 S (by omega)]⟩
theorem MP_open {S τ1 τa τ' : St} {t n : Nat} (hn : n < 12) (hcur : -1 ≤ S 12 5 ∧ S 12 5 < (n : Int)) (hMN : MN τ1 t n) (h31 : τ1 0 31 = S 12 5) (hb : MPn S τ1 t n) (hw : NwN τ1 τa t n 0 (S 12 6)) (e10 : τ' 10 (12 * t + n) = S 12 8) (e31 : τ' 0 31 = (n : Int))
    (hr : ∀ o i, ¬ (o = 10 ∧ i = 12 * t + n) → ¬ (o = 0 ∧ ((27 ≤ i ∧ i ≤ 29) ∨ i = 31)) → τ' o i = τa o i) (hf : MPf S τ1 t n) (hRN : RNs S τ1) (hMn : Mnm τ1) : MP (openS S t n) τ' t (n + 1) := by
  have w0 := hw.1
  have w4 := hw.2.2.2.1
  have hq : ∀ o k, (2 ≤ o ∧ o ≤ 5) ∨ (o = 0 ∧ (k = 7 ∨ k = 10)) → τ' o k = τ1 o k := fun o i z => by rw [hr o i (by omega) (by omega), w0 o i (by omega) (by omega)]
  have rows := MP_row (σ := S) (σ' := openS S t n) (τ' := τ') (k := 0) (mk := S 12 8) hn hcur hMN h31 hb hw (by rw [hr 6 _ (by omega) (by omega)]; exact w4.1) e10 (fun o i a b c d => hr o i (by omega) (by omega)) (by rw [hr 0 23 (by omega) (by omega), w0 0 23 (by omega) (by omega)]) (hr 0 30 (by omega) (by omega)) (fun x w hx hw => by rw [openS_nd S hn hx (by omega), if_neg (by omega)]) (fun x hx => by rw [openS_nd S hn (by omega) (by omega), if_neg (by omega), aRow_nd S _ _ _ hn (by omega) (by omega) hcur, if_neg (by omega), if_neg (by omega)]) (by rw [openS_nd S hn hn (by omega), if_pos ⟨rfl, rfl⟩]) (by rw [e31]; omega)
  refine ⟨rows.1, rows.2, ?_, RNs_nw hRN (fun o i a b => openS_fr S (by omega)) hq, Mnm_nw hMn (fun o i z => hq o i (Or.inl z)), by rw [e31, openS_5]⟩
  refine MPf_nw hf (by omega) (openS_12 S (by omega) (by omega)) (openS_12 S (by omega) (by omega)) (by rw [hr 0 32 (by omega) (by omega), w0 0 32 (by omega) (by omega)]) (by rw [hr 0 33 (by omega) (by omega), w0 0 33 (by omega) (by omega)]) (by rw [hr 0 34 (by omega) (by omega), w0 0 34 (by omega) (by omega)]) (fun x hx => ?_)
  rw [openS_nd S hn (by omega) (by omega), if_neg (by omega), aRow_nd S _ _ _ hn (by omega) (by omega) hcur, if_neg (by omega), if_neg (by omega)]
theorem MP_close {S τ τ' : St} {t n : Nat} (h : MP S τ t n) (hc : S 12 5 ≠ -1) (hpd : Pd (fun x => nd S t x 2) n) (e31 : τ' 0 31 = τ 8 (12 * t + (S 12 5).toNat)) (hr : ∀ o i, ¬ (o = 0 ∧ ((27 ≤ i ∧ i ≤ 29) ∨ i = 31)) → τ' o i = τ o i) : MP (closeS S t) τ' t n := by
  obtain ⟨⟨a1, a2, a3, a4, a5, a6, a7⟩, b, c, d, e, f⟩ := h
  have g : ∀ o i, o ≠ 12 → closeS S t o i = S o i := fun o i q => by unfold closeS; rw [su_ko _ _ (by omega), su_ko _ _ (by omega)]
  have gnd : ∀ x w, nd (closeS S t) t x w = nd S t x w := fun x w => g 11 _ (by omega)
  have e5 : closeS S t 12 5 = nd S t (S 12 5).toNat 2 := by unfold closeS; rw [su_ko _ _ (by omega), su_at]
  have e8 : (fun y => τ' 8 (12 * t + y)) = fun y => τ 8 (12 * t + y) := funext fun y => hr 8 _ (by omega)
  have hx : (S 12 5).toNat < n := by omega
  have e5' : τ' 0 31 = closeS S t 12 5 := by rw [e31, e5]; exact (b _ hx).2.2.1
  have hp := hpd _ hx
  refine ⟨⟨by rw [hr 0 23 (by omega)]; exact a1, a2, by rw [hr 0 30 (by omega)]; exact a3, a4, by rw [e5', e5]; simp only [] at hp; omega, by rw [e8]; exact a6, fun y hy => by rw [e8, hr 11 _ (by omega), hr 12 _ (by omega)]; exact a7 y hy⟩, fun x hx => by rw [gnd, gnd, gnd, gnd, gnd, hr 6 _ (by omega), hr 7 _ (by omega), hr 8 _ (by omega), hr 9 _ (by omega), hr 10 _ (by omega)]; exact b x hx, MPf_nw c (Nat.le_refl _) (by unfold closeS; rw [su_ko _ _ (by omega), su_ko _ _ (by omega)]) (by unfold closeS; rw [su_ko _ _ (by omega), su_ko _ _ (by omega)]) (hr 0 32 (by omega)) (hr 0 33 (by omega)) (hr 0 34 (by omega)) (fun x _ => gnd x 0), RNs_nw d (fun o i q z => g o i (by omega)) (fun o i z => hr o i (by omega)), Mnm_nw e (fun o i z => hr o i (by omega)), e5'⟩
/-- chc's bounds -/
theorem chc_r (p : Nat → Int) (x : Int) : ∀ n, 0 ≤ chc p n x ∧ chc p n x ≤ (n : Int) := by
  intro n
  induction n with
  | zero => exact ⟨Int.le_refl 0, Int.le_refl 0⟩
  | succ n ih => unfold chc; split <;> omega
theorem chc_pos {p : Nat → Int} {x : Int} {y : Nat} (h : p y = x) : ∀ n, y < n → 0 < chc p n x := by
  intro n
  induction n with
  | zero => intro q; omega
  | succ n ih =>
    intro q
    have r := chc_r p x n
    unfold chc
    by_cases e : y = n
    · rw [← e, if_pos h]; rw [← e] at r; omega
    · have := ih (by omega); split <;> omega
theorem chc_no {p : Nat → Int} {x : Int} : ∀ n, (∀ y, y < n → p y ≠ x) → chc p n x = 0 := by
  intro n
  induction n with
  | zero => intro _; rfl
  | succ n ih => intro h; unfold chc; rw [ih (fun y hy => h y (by omega)), if_neg (h n (by omega))]; rfl
