/-! pure: the shape of a tree by its parent table -/
def itp (p : Nat → Int) : Nat → Int → Int
  | 0, x => x
  | k + 1, x => if itp p k x < 0 then -1 else p (itp p k x).toNat
/-- parents are smaller -/
def Pd (p : Nat → Int) (n : Nat) : Prop := ∀ x, x < n → -1 ≤ p x ∧ p x < (x : Int)
theorem itp_r {p : Nat → Int} {n : Nat} (h : Pd p n) {x : Int} (hx : -1 ≤ x ∧ x < (n : Int)) : ∀ k, -1 ≤ itp p k x ∧ itp p k x ≤ x := by
  intro k
  induction k with
  | zero => exact ⟨hx.1, Int.le_refl x⟩
  | succ k ih =>
    unfold itp
    split
    · omega
    · have := h (itp p k x).toNat (by omega)
      omega
theorem itp_c {p q : Nat → Int} {n : Nat} (h : Pd p n) (e : ∀ x, x < n → q x = p x) {x : Int} (hx : -1 ≤ x ∧ x < (n : Int)) : ∀ k, itp q k x = itp p k x := by
  intro k
  induction k with
  | zero => rfl
  | succ k ih =>
    unfold itp
    rw [ih]
    have := itp_r h hx k
    split
    · rfl
    · exact e _ (by omega)
theorem itp_add (p : Nat → Int) (x : Int) (hx : -1 ≤ x) : ∀ a b, itp p (a + b) x = itp p a (itp p b x) ∨ itp p b x = -1 := by
  intro a b
  by_cases h : itp p b x = -1
  · exact Or.inr h
  · left
    induction a with
    | zero => rw [Nat.zero_add]; rfl
    | succ a ih =>
      rw [show a + 1 + b = (a + b) + 1 by omega]
      show (if itp p (a + b) x < 0 then -1 else p (itp p (a + b) x).toNat) = if itp p a (itp p b x) < 0 then -1 else p (itp p a (itp p b x)).toNat
      rw [ih]
/-- the shape of a text of a tree so far: kinds kd, parents p, n nodes, the open node, the parser's state -/
def PJ (kd p : Nat → Int) (n : Nat) (cur st : Int) : Prop :=
  Pd p n ∧ (-1 ≤ cur ∧ cur < (n : Int)) ∧ (∀ x, x < n → 0 ≤ kd x ∧ kd x ≤ 3) ∧ (∀ x, x < n → kd x = 0 → (x + 1 < n ∧ p (x + 1) = (x : Int)) ∨ (x + 1 = n ∧ cur = (x : Int))) ∧
  (∀ x, x < n → p x ≠ -1 → kd (p x).toNat = 0) ∧ (cur ≠ -1 → kd cur.toNat = 0) ∧ (∀ x, 0 < x → x < n → p x ≠ -1) ∧
  (st = 3 → cur + 1 < (n : Int) ∧ cur ≠ -1) ∧ (st = 4 → 0 < n ∧ cur = -1) ∧ (st ≠ 4 → cur = -1 → n = 0) ∧ (st = 0 → cur ≠ -1 → cur + 1 = (n : Int)) ∧
  (0 < n → ∃ k, itp p k ((n - 1 : Nat) : Int) = cur) ∧ (∀ y, 0 < y → y < n → ∃ k, itp p k ((y - 1 : Nat) : Int) = p y)
theorem PJ_0 (kd p : Nat → Int) : PJ kd p 0 (-1) 0 :=
  ⟨fun x h => by omega, by omega, fun x h => by omega, fun x h => by omega, fun x h => by omega, fun h => absurd rfl h, fun x _ h => by omega, fun h => absurd h (by decide), fun h => absurd h (by decide), fun _ _ => rfl, fun _ h => absurd rfl h, fun h => by omega, fun y _ h => by omega⟩
/-- the state alone changes, among those before a node's end -/
theorem PJ_st {kd p kd' p' : Nat → Int} {n : Nat} {cur st st' : Int} (h : PJ kd p n cur st) (ek : ∀ x, x < n → kd' x = kd x) (ep : ∀ x, x < n → p' x = p x) (h4 : st ≠ 4) (h' : st' = 1 ∨ st' = 2) : PJ kd' p' n cur st' := by
  obtain ⟨a, b, c, d, e, f, g, h3, h5, h6, h7, h8, h9⟩ := h
  have a' : Pd p' n := fun x hx => by rw [ep x hx]; exact a x hx
  refine ⟨a', b, fun x hx => by rw [ek x hx]; exact c x hx, fun x hx hk => ?_, fun x hx hp => ?_, fun hc => ?_, fun x h1 h2 => by rw [ep x h2]; exact g x h1 h2, fun q => absurd q (by rcases h' with z | z <;> rw [z] <;> decide), fun q => absurd q (by rcases h' with z | z <;> rw [z] <;> decide), fun _ q => h6 h4 q, fun q => absurd q (by rcases h' with z | z <;> rw [z] <;> decide), fun q => ?_, fun y h1 h2 => ?_⟩
  · rw [ek x hx] at hk
    rcases d x hx hk with ⟨d1, d2⟩ | d1
    · exact Or.inl ⟨d1, by rw [ep _ d1]; exact d2⟩
    · exact Or.inr d1
  · rw [ep x hx] at hp ⊢
    have := a x hx
    rw [ek _ (by omega)]; exact e x hx hp
  · rw [ek _ (by omega)]; exact f hc
  · obtain ⟨k, hk⟩ := h8 q
    exact ⟨k, by rw [itp_c a ep (by omega)]; exact hk⟩
  · obtain ⟨k, hk⟩ := h9 y h1 h2
    exact ⟨k, by rw [itp_c a ep (by omega), ep y h2]; exact hk⟩
/-- a node more, of kind k -/
theorem PJ_add {kd p kd' p' : Nat → Int} {n : Nat} {cur st k cur' st' : Int} (h : PJ kd p n cur st) (ek : ∀ x, x < n → kd' x = kd x) (ep : ∀ x, x < n → p' x = p x) (ekn : kd' n = k) (epn : p' n = cur) (h4 : st ≠ 4) (hk : 0 ≤ k ∧ k ≤ 3)
    (hc : (k ≠ 0 ∧ cur' = cur ∧ st' = (if cur = -1 then 4 else 3)) ∨ (k = 0 ∧ cur' = (n : Int) ∧ st' = 0)) : PJ kd' p' (n + 1) cur' st' := by
  obtain ⟨a, b, c, d, e, f, g, h3, h5, h6, h7, h8, h9⟩ := h
  have a' : Pd p' (n + 1) := fun x hx => by
    by_cases q : x = n
    · rw [q, epn]; omega
    · rw [ep x (by omega)]; exact a x (by omega)
  have an : Pd p' n := fun x hx => a' x (by omega)
  have hcur' : -1 ≤ cur' ∧ cur' < ((n + 1 : Nat) : Int) := by rcases hc with ⟨_, q, _⟩ | ⟨_, q, _⟩ <;> rw [q] <;> omega
  have hkc : cur ≠ -1 → kd' cur.toNat = 0 := fun q => by rw [ek _ (by omega)]; exact f q
  refine ⟨a', hcur', fun x hx => ?_, fun x hx hk0 => ?_, fun x hx hp => ?_, fun q => ?_, fun x h1 h2 => ?_, fun q => ?_, fun q => ?_, fun q z => ?_, fun q z => ?_, fun _ => ?_, fun y h1 h2 => ?_⟩
  · by_cases q : x = n
    · rw [q, ekn]; exact hk
    · rw [ek x (by omega)]; exact c x (by omega)
  · by_cases q : x = n
    · rw [q, ekn] at hk0
      rcases hc with ⟨r, _, _⟩ | ⟨_, r, _⟩
      · exact absurd hk0 r
      · exact Or.inr ⟨by omega, by rw [r, q]⟩
    · rw [ek x (by omega)] at hk0
      rcases d x (by omega) hk0 with ⟨d1, d2⟩ | ⟨d1, d2⟩
      · exact Or.inl ⟨by omega, by rw [ep _ d1]; exact d2⟩
      · exact Or.inl ⟨by omega, by rw [d1, epn]; exact d2⟩
  · by_cases q : x = n
    · rw [q, epn] at hp ⊢; exact hkc hp
    · rw [ep x (by omega)] at hp ⊢
      have := a x (by omega)
      rw [ek _ (by omega)]; exact e x (by omega) hp
  · rcases hc with ⟨_, r, _⟩ | ⟨r0, r, _⟩
    · rw [r] at q ⊢; exact hkc q
    · rw [r, show ((n : Int)).toNat = n by omega, ekn]; exact r0
  · by_cases q : x = n
    · rw [q, epn]
      exact fun z => by have := h6 h4 z; omega
    · rw [ep x (by omega)]; exact g x h1 (by omega)
  · rcases hc with ⟨_, r, s⟩ | ⟨_, r, s⟩
    · rw [s] at q
      split at q
      · omega
      · rename_i z; rw [r]; exact ⟨by omega, z⟩
    · omega
  · rcases hc with ⟨_, r, s⟩ | ⟨_, r, s⟩
    · rw [s] at q
      split at q
      · rename_i z; exact ⟨by omega, by rw [r]; exact z⟩
      · omega
    · omega
  · rcases hc with ⟨_, r, s⟩ | ⟨_, r, s⟩
    · rw [r] at z; rw [s, if_pos z] at q; exact absurd rfl q
    · rw [r] at z; omega
  · rcases hc with ⟨_, r, s⟩ | ⟨_, r, s⟩
    · rw [s] at q; split at q <;> omega
    · rw [r]; omega
  · rw [show n + 1 - 1 = n by omega]
    rcases hc with ⟨_, r, _⟩ | ⟨_, r, _⟩
    · refine ⟨1, ?_⟩
      rw [r]
      unfold itp itp
      rw [if_neg (by omega), show ((n : Int)).toNat = n by omega, epn]
    · exact ⟨0, by rw [r]; rfl⟩
  · by_cases q : y = n
    · subst q
      obtain ⟨k9, hk9⟩ := h8 h1
      exact ⟨k9, by rw [itp_c a ep (by omega), epn]; exact hk9⟩
    · obtain ⟨k9, hk9⟩ := h9 y h1 (by omega)
      exact ⟨k9, by rw [itp_c a ep (by omega), ep y (by omega)]; exact hk9⟩
/-- the open node is closed -/
theorem PJ_close {kd p kd' p' : Nat → Int} {n : Nat} {cur st cur' st' : Int} (h : PJ kd p n cur st) (ek : ∀ x, x < n → kd' x = kd x) (ep : ∀ x, x < n → p' x = p x) (h3' : st = 3) (hc : cur' = p cur.toNat) (hs : st' = if cur' = -1 then 4 else 3) : PJ kd' p' n cur' st' := by
  obtain ⟨a, b, c, d, e, f, g, h3, h5, h6, h7, h8, h9⟩ := h
  obtain ⟨h31, h32⟩ := h3 h3'
  have hac := a cur.toNat (by omega)
  have a' : Pd p' n := fun x hx => by rw [ep x hx]; exact a x hx
  refine ⟨a', by rw [hc]; omega, fun x hx => by rw [ek x hx]; exact c x hx, fun x hx hk => ?_, fun x hx hp => ?_, fun q => ?_, fun x h1 h2 => by rw [ep x h2]; exact g x h1 h2, fun q => ?_, fun q => ?_, fun q z => ?_, fun q => ?_, fun q => ?_, fun y h1 h2 => ?_⟩
  · rw [ek x hx] at hk
    rcases d x hx hk with ⟨d1, d2⟩ | ⟨d1, d2⟩
    · exact Or.inl ⟨d1, by rw [ep _ d1]; exact d2⟩
    · omega
  · rw [ep x hx] at hp ⊢
    have := a x hx
    rw [ek _ (by omega)]; exact e x hx hp
  · rw [hc] at q ⊢
    rw [ek _ (by omega)]; exact e _ (by omega) q
  · rw [hs] at q
    split at q
    · omega
    · exact ⟨by rw [hc]; omega, ‹_›⟩
  · rw [hs] at q
    split at q
    · exact ⟨by omega, ‹_›⟩
    · omega
  · rw [hs, if_pos z] at q; exact absurd rfl q
  · rw [hs] at q; split at q <;> omega
  · obtain ⟨k, hk⟩ := h8 q
    refine ⟨k + 1, ?_⟩
    rw [itp_c a ep (by omega)]
    show (if itp p k ((n - 1 : Nat) : Int) < 0 then -1 else p (itp p k ((n - 1 : Nat) : Int)).toNat) = cur'
    rw [hk, if_neg (by omega), hc]
  · obtain ⟨k, hk⟩ := h9 y h1 h2
    exact ⟨k, by rw [itp_c a ep (by omega), ep y h2]; exact hk⟩
/-- how many of the first n nodes have the parent x -/
def chc (p : Nat → Int) : Nat → Int → Int
  | 0, _ => 0
  | n + 1, x => chc p n x + (if p n = x then 1 else 0)
theorem chc_c {p q : Nat → Int} : ∀ n, (∀ x, x < n → q x = p x) → ∀ x, chc q n x = chc p n x := by
  intro n
  induction n with
  | zero => intro _ x; rfl
  | succ n ih => intro h x; unfold chc; rw [ih (fun y hy => h y (by omega)) x, h n (by omega)]
theorem chc_0 {p : Nat → Int} {n : Nat} (h : Pd p n) {x : Nat} (hx : n ≤ x) : chc p n (x : Int) = 0 := by
  induction n with
  | zero => rfl
  | succ n ih =>
    unfold chc
    rw [ih (fun y hy => h y (by omega)) (by omega)]
    have := h n (by omega)
    rw [if_neg (by omega)]; rfl
/-- the class's numbers of tree t tell such a shape -/
def PK (σ : St) (t n : Nat) : Prop := PJ (fun x => nd σ t x 0) (fun x => nd σ t x 2) n (σ 12 5) (σ 12 4) ∧
  (∀ x, x < n → True ∧ 0 ≤ nd σ t x 1 ∧ (nd σ t x 0 = 3 → nd σ t x 1 < σ 7 3) ∧ (nd σ t x 0 ≠ 3 → nd σ t x 1 < σ 4 3) ∧ (0 ≤ nd σ t x 4 ∧ nd σ t x 4 ≤ 2) ∧ nd σ t x 3 = chc (fun y => nd σ t y 2) n (x : Int)) ∧
  (σ 12 12 = 1 ∨ (σ 12 12 = 0 ∧ ∀ x, x < n → nd σ t x 0 ≠ 3)) ∧ (σ 12 12 = 1 → ∃ x, x < n ∧ nd σ t x 0 = 3) ∧ ((σ 12 4 = 1 ∨ σ 12 4 = 2) → 0 ≤ σ 12 6 ∧ σ 12 6 < σ 4 3) ∧
  (σ 12 9 = 0 → ∀ x, x < n → nd σ t x 0 ≠ 2) ∧ (σ 12 9 = 1 → ∃ f, f < n ∧ nd σ t f 0 = 2 ∧ nd σ t f 1 = σ 12 11 ∧ ∀ x, x < n → nd σ t x 0 = 2 → x = f)
/-- what PK says of the rows, with a row more -/
theorem PK_rows {σ σ' : St} {t n : Nat} {k nme cur : Int} (hn : n < 12) (hpd : Pd (fun x => nd σ t x 2) n) (hcur : -1 ≤ cur ∧ cur < (n : Int)) (hr : ∀ x, x < n → True ∧ 0 ≤ nd σ t x 1 ∧ (nd σ t x 0 = 3 → nd σ t x 1 < σ 7 3) ∧ (nd σ t x 0 ≠ 3 → nd σ t x 1 < σ 4 3) ∧ (0 ≤ nd σ t x 4 ∧ nd σ t x 4 ≤ 2) ∧ nd σ t x 3 = chc (fun y => nd σ t y 2) n (x : Int))
    (h7 : σ 7 3 ≤ σ' 7 3) (h4 : σ 4 3 ≤ σ' 4 3) (hnm : 0 ≤ nme ∧ (k = 3 → nme < σ' 7 3) ∧ (k ≠ 3 → nme < σ' 4 3)) (hmk : 0 ≤ nd σ' t n 4 ∧ nd σ' t n 4 ≤ 2)
    (e0 : ∀ x w, x < 12 → w < 12 → w ≠ 4 → nd σ' t x w = nd (aRow σ t n k nme cur) t x w) (e4 : ∀ x, x < n → nd σ' t x 4 = nd σ t x 4) :
    ∀ x, x < n + 1 → True ∧ 0 ≤ nd σ' t x 1 ∧ (nd σ' t x 0 = 3 → nd σ' t x 1 < σ' 7 3) ∧ (nd σ' t x 0 ≠ 3 → nd σ' t x 1 < σ' 4 3) ∧ (0 ≤ nd σ' t x 4 ∧ nd σ' t x 4 ≤ 2) ∧ nd σ' t x 3 = chc (fun y => nd σ' t y 2) (n + 1) (x : Int) := by
  have v : ∀ x w, x < 12 → w < 12 → nd (aRow σ t n k nme cur) t x w = _ := fun x w hx hw => aRow_nd σ (t := t) (t' := t) k nme cur hn hx hw hcur
  have p' : ∀ x, x < n → nd σ' t x 2 = nd σ t x 2 := fun x hx => by rw [e0 x 2 (by omega) (by omega) (by omega), v x 2 (by omega) (by omega), if_neg (by omega), if_neg (by omega)]
  have pn : nd σ' t n 2 = cur := by rw [e0 n 2 (by omega) (by omega) (by omega), v n 2 (by omega) (by omega), if_pos ⟨rfl, rfl⟩, if_neg (by omega), if_neg (by omega), if_pos rfl]
  have c : ∀ x : Nat, chc (fun y => nd σ' t y 2) (n + 1) (x : Int) = chc (fun y => nd σ t y 2) n (x : Int) + (if cur = (x : Int) then 1 else 0) := fun x => by
    show chc (fun y => nd σ' t y 2) n (x : Int) + (if nd σ' t n 2 = (x : Int) then 1 else 0) = _
    rw [chc_c (p := fun y => nd σ t y 2) n (fun y hy => p' y hy) (x : Int), pn]
  intro x hx
  rw [c x]
  by_cases q : x = n
  · subst q
    have z : ∀ w, w < 12 → w ≠ 4 → nd σ' t x w = _ := fun w hw hw4 => (e0 x w (by omega) hw hw4).trans (v x w (by omega) hw)
    have z0 : nd σ' t x 0 = k := by rw [z 0 (by omega) (by omega), if_pos ⟨rfl, rfl⟩, if_pos rfl]
    have z1 : nd σ' t x 1 = nme := by rw [z 1 (by omega) (by omega), if_pos ⟨rfl, rfl⟩, if_neg (by omega), if_pos rfl]
    have z3 : nd σ' t x 3 = 0 := by rw [z 3 (by omega) (by omega), if_pos ⟨rfl, rfl⟩, if_neg (by omega), if_neg (by omega), if_neg (by omega), if_pos rfl]
    rw [z0, z1, z3, chc_0 hpd (Nat.le_refl x), if_neg (show ¬ cur = (x : Int) by omega)]
    exact ⟨trivial, hnm.1, hnm.2.1, hnm.2.2, hmk, rfl⟩
  · obtain ⟨r1, r2, r3, r4, r5, r6⟩ := hr x (by omega)
    have z : ∀ w, w < 12 → w ≠ 4 → w ≠ 3 → nd σ' t x w = nd σ t x w := fun w hw hw4 hw3 => by
      rw [e0 x w (by omega) hw hw4, v x w (by omega) hw, if_neg (by omega), if_neg (by omega)]
    have z3 : nd σ' t x 3 = nd σ t x 3 + (if cur = (x : Int) then 1 else 0) := by
      rw [e0 x 3 (by omega) (by omega) (by omega), v x 3 (by omega) (by omega), if_neg (by omega)]
      by_cases e : cur = (x : Int)
      · rw [if_pos ⟨rfl, e.symm, rfl⟩, if_pos e]
      · rw [if_neg (fun y => e y.2.1.symm), if_neg e]; omega
    rw [z 0 (by omega) (by omega) (by omega), z 1 (by omega) (by omega) (by omega), z3, e4 x (by omega), r6]
    exact ⟨r1, r2, fun y => by have := r3 y; omega, fun y => by have := r4 y; omega, r5, rfl⟩
