/-! pure: the class's forest -/
/-- where cell w lies in a row: 7 is FEET from here on, 9 LEAST of the node alone -/
def pm : Nat → Nat
  | 7 => 9
  | 9 => 7
  | w => w
theorem pm_lt : ∀ w, w < 12 → pm w < 12 := by decide
theorem pm_inj : ∀ w, w < 12 → ∀ w', w' < 12 → pm w = pm w' → w = w' := by decide
/-- cell w of node x of tree t -/
def nd (σ : St) (t x w : Nat) : Int := σ 11 (12 * (12 * t + x) + pm w)
/-- node x's cell w of tree t is set -/
def sn (σ : St) (t x w : Nat) (v : Int) : St := su σ 11 (12 * (12 * t + x) + pm w) v
theorem nd_sn (σ : St) {t x w t' x' w' : Nat} (v : Int) (hx : x < 12) (hw : w < 12) (hx' : x' < 12) (hw' : w' < 12) : nd (sn σ t x w v) t' x' w' = if t' = t ∧ x' = x ∧ w' = w then v else nd σ t' x' w' := by
  unfold nd sn
  have l1 := pm_lt w hw
  have l2 := pm_lt w' hw'
  have l3 := pm_inj w' hw' w hw
  by_cases h : t' = t ∧ x' = x ∧ w' = w
  · rw [if_pos h, h.1, h.2.1, h.2.2, su_at]
  · rw [if_neg h, su_ko _ _ (fun q => h ?_)]
    have e : pm w' = pm w := by omega
    exact ⟨by omega, by omega, l3 e⟩
theorem sn_fr (σ : St) {t x w : Nat} (v : Int) {o k : Nat} (h : o ≠ 11) : sn σ t x w v o k = σ o k := by unfold sn; exact su_ko _ _ (by omega)
theorem nd_su (σ : St) {o k t x w : Nat} (v : Int) (h : o ≠ 11) : nd (su σ o k v) t x w = nd σ t x w := by unfold nd; exact su_ko _ _ (by omega)
theorem sp_set {Q : St → Prop} {σ : St} {t x w : Nat} {rI wI v : Int} (hr : rI = ((12 * t + x : Nat) : Int)) (hw : wI = ((pm w : Nat) : Int)) (ht : t ≤ 16) (hx : x < 12) (hw8 : w < 12) (h : Q (sn σ t x w v)) : wp_X1_set rI wI v Q σ := by
  have l1 := pm_lt w hw8
  unfold wp_X1_set
  rw [hr, hw, show ((12 * t + x : Nat) : Int) * 12 + ((pm w : Nat) : Int) = ((12 * (12 * t + x) + pm w : Nat) : Int) by omega, w32_id (by omega) (by omega), show (((12 * (12 * t + x) + pm w : Nat)) : Int).toNat = 12 * (12 * t + x) + pm w by omega]
  refine ⟨by omega, fun σ1 e1 => ?_⟩
  rw [e1]; exact h
theorem sp_cell {Q : Int → St → Prop} {σ : St} {t x w : Nat} {rI wI : Int} (hr : rI = ((12 * t + x : Nat) : Int)) (hw : wI = ((pm w : Nat) : Int)) (ht : t ≤ 16) (hx : x < 12) (hw8 : w < 12) (h : Q (nd σ t x w) σ) : wp_X1_cell rI wI Q σ := by
  have l1 := pm_lt w hw8
  unfold wp_X1_cell
  rw [hr, hw, show ((12 * t + x : Nat) : Int) * 12 + ((pm w : Nat) : Int) = ((12 * (12 * t + x) + pm w : Nat) : Int) by omega, w32_id (by omega) (by omega), show (((12 * (12 * t + x) + pm w : Nat)) : Int).toNat = 12 * (12 * t + x) + pm w by omega]
  exact ⟨by omega, h⟩
theorem sp_hasFoot {Q : Int → St → Prop} {σ : St} {t x : Nat} {rI : Int} (hr : rI = ((12 * t + x : Nat) : Int)) (ht : t ≤ 16) (hx : x < 12) (h01 : nd σ t x 6 = 0 ∨ nd σ t x 6 = 1) (h : Q (nd σ t x 6) σ) : wp_X1_hasFoot rI Q σ := by
  unfold wp_X1_hasFoot
  rw [hr, show ((12 * t + x : Nat) : Int) * 12 + 6 = ((12 * (12 * t + x) + 6 : Nat) : Int) by omega, w32_id (by omega) (by omega), show (((12 * (12 * t + x) + 6 : Nat)) : Int).toNat = 12 * (12 * t + x) + 6 by omega]
  change _ ∧ (¬ w32 (nd σ t x 6) = 1 → Q 0 σ) ∧ (w32 (nd σ t x 6) = 1 → Q 1 σ)
  refine ⟨by omega, ?_⟩
  rcases h01 with e | e <;> rw [e] at h ⊢
  · exact ⟨fun _ => h, fun q => absurd q (by decide)⟩
  · exact ⟨fun q => absurd (by decide) q, fun _ => h⟩
/-- whether a WORD is in a node (w = 8), or in it and the later parts (w = 11) -/
theorem sp_hasWord {Q : Int → St → Prop} {σ : St} {t x w : Nat} {rI oI : Int} (hr : rI = ((12 * t + x : Nat) : Int)) (ho : 8 + oI = ((pm w : Nat) : Int)) (ht : t ≤ 16) (hx : x < 12) (hw8 : w < 12) (hb : 0 ≤ nd σ t x w ∧ nd σ t x w < 1000) (h0 : nd σ t x w = 0 → Q 0 σ) (h1 : nd σ t x w ≠ 0 → Q 1 σ) : wp_X1_hasWord rI oI Q σ := by
  unfold wp_X1_hasWord
  refine sp_cell hr ho ht hx hw8 ?_
  rw [w32_id (by omega) (by omega)]
  exact ⟨fun q => h0 (by omega), fun q => h1 (by omega)⟩
/-- a row more of tree t: node n -/
def aRow0 (σ : St) (t n : Nat) (k nme par : Int) : St := sn (sn (sn (sn (sn (su σ 10 t ((n + 1 : Nat) : Int)) t n 0 k) t n 1 nme) t n 2 par) t n 3 0) t n 4 0
def aRow (σ : St) (t n : Nat) (k nme par : Int) : St := if par = -1 then aRow0 σ t n k nme par else sn (aRow0 σ t n k nme par) t par.toNat 3 (nd (aRow0 σ t n k nme par) t par.toNat 3 + 1)
theorem sp_addRow {Q : St → Prop} {σ : St} {t n : Nat} {k nme par : Int} (ht : t ≤ 16) (hn : n < 12) (hsz : σ 10 t = (n : Int)) (hk : 0 ≤ k ∧ k ≤ 3) (hp : -1 ≤ par ∧ par < 12) (h : Q (aRow σ t n k nme par)) : wp_X1_addRow (t : Int) k nme par Q σ := by
  unfold wp_X1_addRow wp_X1_row
  rw [w32_id (show -2147483648 ≤ (t : Int) by omega) (show (t : Int) < 2147483648 by omega), show ((t : Int)).toNat = t by omega, hsz]
  refine ⟨by omega, by omega, by omega, fun σ3 e3 => ?_⟩
  have hr : (t : Int) * 12 + (n : Int) = ((12 * t + n : Nat) : Int) := by omega
  rw [hsz, show (n : Int) + 1 = ((n + 1 : Nat) : Int) by omega] at e3
  refine sp_set hr (w := 0) rfl ht hn (by omega) ?_
  refine sp_set hr (w := 1) rfl ht hn (by omega) ?_
  refine sp_set hr (w := 2) rfl ht hn (by omega) ?_
  refine sp_set hr (w := 3) rfl ht hn (by omega) ?_
  refine sp_set hr (w := 4) rfl ht hn (by omega) ?_
  have e0 : sn (sn (sn (sn (sn σ3 t n 0 k) t n 1 nme) t n 2 par) t n 3 0) t n 4 0 = aRow0 σ t n k nme par := by rw [e3]; rfl
  rw [e0, w32_id (show -2147483648 ≤ par by omega) (show par < 2147483648 by omega)]
  unfold aRow at h
  refine ⟨fun q => by rw [if_pos q] at h; exact h, fun q => ?_⟩
  rw [if_neg q] at h
  have hr2 : (t : Int) * 12 + par = ((12 * t + par.toNat : Nat) : Int) := by omega
  refine sp_cell hr2 (w := 3) rfl ht (by omega) (by omega) ?_
  exact sp_set hr2 (w := 3) rfl ht (by omega) (by omega) h
theorem aRow_fr (σ : St) (t n : Nat) (k nme par : Int) {o i : Nat} (h : o ≠ 11) (h2 : ¬ (o = 10 ∧ i = t)) : aRow σ t n k nme par o i = σ o i := by
  unfold aRow aRow0
  split
  · rw [sn_fr _ _ h, sn_fr _ _ h, sn_fr _ _ h, sn_fr _ _ h, sn_fr _ _ h, su_ko _ _ h2]
  · rw [sn_fr _ _ h, sn_fr _ _ h, sn_fr _ _ h, sn_fr _ _ h, sn_fr _ _ h, sn_fr _ _ h, su_ko _ _ h2]
theorem aRow_sz (σ : St) (t n : Nat) (k nme par : Int) : aRow σ t n k nme par 10 t = ((n + 1 : Nat) : Int) := by
  unfold aRow aRow0
  split
  · rw [sn_fr _ _ (by omega), sn_fr _ _ (by omega), sn_fr _ _ (by omega), sn_fr _ _ (by omega), sn_fr _ _ (by omega), su_at]
  · rw [sn_fr _ _ (by omega), sn_fr _ _ (by omega), sn_fr _ _ (by omega), sn_fr _ _ (by omega), sn_fr _ _ (by omega), sn_fr _ _ (by omega), su_at]
theorem aRow0_nd (σ : St) {t n t' x w : Nat} (k nme par : Int) (hn : n < 12) (hx : x < 12) (hw : w < 12) : nd (aRow0 σ t n k nme par) t' x w = if t' = t ∧ x = n then (if w = 0 then k else if w = 1 then nme else if w = 2 then par else if w = 3 then 0 else if w = 4 then 0 else nd σ t' x w) else nd σ t' x w := by
  unfold aRow0
  rw [nd_sn _ _ hn (by omega) hx hw, nd_sn _ _ hn (by omega) hx hw, nd_sn _ _ hn (by omega) hx hw, nd_sn _ _ hn (by omega) hx hw, nd_sn _ _ hn (by omega) hx hw, nd_su _ _ (by omega)]
  by_cases h : t' = t ∧ x = n
  · rw [if_pos h]
    obtain ⟨h1, h2⟩ := h
    subst h1; subst h2
    rcases (show w = 0 ∨ w = 1 ∨ w = 2 ∨ w = 3 ∨ w = 4 ∨ 5 ≤ w by omega) with e | e | e | e | e | e
    · subst e; simp
    · subst e; simp
    · subst e; simp
    · subst e; simp
    · subst e; simp
    · rw [if_neg (by omega), if_neg (by omega), if_neg (by omega), if_neg (by omega), if_neg (by omega), if_neg (by omega), if_neg (by omega), if_neg (by omega), if_neg (by omega), if_neg (by omega)]
  · rw [if_neg h, if_neg (fun q => h ⟨q.1, q.2.1⟩), if_neg (fun q => h ⟨q.1, q.2.1⟩), if_neg (fun q => h ⟨q.1, q.2.1⟩), if_neg (fun q => h ⟨q.1, q.2.1⟩), if_neg (fun q => h ⟨q.1, q.2.1⟩)]
theorem aRow_nd (σ : St) {t n t' x w : Nat} (k nme par : Int) (hn : n < 12) (hx : x < 12) (hw : w < 12) (hp : -1 ≤ par ∧ par < n) : nd (aRow σ t n k nme par) t' x w = if t' = t ∧ x = n then (if w = 0 then k else if w = 1 then nme else if w = 2 then par else if w = 3 then 0 else if w = 4 then 0 else nd σ t' x w) else if t' = t ∧ (x : Int) = par ∧ w = 3 then nd σ t' x w + 1 else nd σ t' x w := by
  unfold aRow
  by_cases hpar : par = -1
  · rw [if_pos hpar, aRow0_nd σ k nme par hn hx hw]
    by_cases h : t' = t ∧ x = n
    · rw [if_pos h, if_pos h]
    · rw [if_neg h, if_neg h, if_neg (by omega)]
  · rw [if_neg hpar, nd_sn _ _ (by omega) (by omega) hx hw, aRow0_nd σ k nme par hn hx hw, aRow0_nd σ k nme par hn (by omega) (by omega)]
    by_cases h : t' = t ∧ x = n
    · rw [if_pos h, if_neg (by omega), if_pos h]
    · rw [if_neg h, if_neg h]
      by_cases h3 : t' = t ∧ (x : Int) = par ∧ w = 3
      · have hx2 : par.toNat = x := by omega
        rw [if_pos h3, if_pos ⟨h3.1, by omega, h3.2.2⟩, if_neg (by omega), hx2, h3.1, h3.2.2]
      · rw [if_neg h3, if_neg (by omega)]
