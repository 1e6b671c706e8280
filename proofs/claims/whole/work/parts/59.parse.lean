/-! pure: the class's parser, a token at a time -/
/-- what takeName answers and leaves: names o of width w, at most cap; the token from s to e -/
noncomputable def fdN (σ : St) (o w s e : Nat) : Int := fndN (σ (o + 2)) (σ (o + 1)) (σ 2) w (σ o 3).toNat s e
noncomputable def tnR (σ : St) (o w cap s e : Nat) : Int := if fdN σ o w s e ≠ -1 then fdN σ o w s e else if σ o 3 = (cap : Int) then -1 else σ o 3
noncomputable def tnS (σ : St) (o w cap s e : Nat) : St := if fdN σ o w s e ≠ -1 then σ else if σ o 3 = (cap : Int) then σ else addN σ o 2 w s e
theorem fdN_r {σ : St} {o w cap s e : Nat} (hN : NmI σ o w cap) : fdN σ o w s e = -1 ∨ (0 ≤ fdN σ o w s e ∧ fdN σ o w s e < σ o 3) := by
  unfold fdN fndN
  rcases fndF_spec (fun k => σ (o + 2) k = ((e - s : Nat) : Int) ∧ eqAt (σ (o + 1)) (σ 2) (w * k) s (e - s)) (σ o 3).toNat 0 with h | ⟨j, h1, h2, h3, -⟩
  · exact Or.inl h.1
  · rw [h1]
    have := hN.2.1
    exact Or.inr ⟨by omega, by omega⟩
theorem sp_takeName {o w cap s e : Nat} {Q : Int → St → Prop} {σ : St} (hI : TpI σ) (hN : NmI σ o w cap) (h3 : σ 1 3 = (s : Int)) (h4 : σ 1 4 = (e : Int)) (hse : s ≤ e) (he : e ≤ 1000) (hes : e - s ≤ w) (hw : w ≤ 12) (hcap : cap ≤ 32) (ho : 4 ≤ o) (h : Q (tnR σ o w cap s e) (tnS σ o w cap s e)) : wp_X5_takeName o ((w * cap : Nat) : Int) (cap : Int) Q σ := by
  have hby : By (σ 2) := fun k => by have := hI.2.2 k; omega
  have hsz := hN.2.1
  have hsz2 := hN.2.2.1
  unfold wp_X5_takeName
  rw [h3, h4]
  refine sp_find hN hby (by omega) hse (by omega) hw hcap ?_
  rw [show fndN (σ (o + 2)) (σ (o + 1)) (σ 2) w (σ o 3).toNat s e = fdN σ o w s e from rfl]
  unfold tnR tnS at h
  rcases fdN_r (s := s) (e := e) hN with q | ⟨q1, q2⟩
  · rw [q] at h ⊢
    refine ⟨fun z => absurd (by decide) z, fun _ => ?_⟩
    simp only [ne_eq, not_true_eq_false, if_false] at h
    unfold wp_X2_isFull
    rw [w32_id (by omega) (by omega), w32_id (by omega) (by omega)]
    refine ⟨fun z => ⟨fun _ => ?_, fun z => absurd w32_0 z⟩, fun z => ⟨fun y => absurd y (by decide), fun _ => ?_⟩⟩
    · rw [if_neg (by omega), if_neg (by omega)] at h
      rw [h3, h4]
      refine sp_add hN (by omega) hse (by omega) hw hcap hes (by omega) (by omega) ?_
      rw [addN_sz, show σ o 3 + 1 - 1 = σ o 3 by omega]
      exact h
    · rw [if_pos (by omega), if_pos (by omega)] at h
      exact h
  · rw [w32_id (by omega) (by omega)]
    rw [if_pos (show fdN σ o w s e ≠ -1 by omega), if_pos (show fdN σ o w s e ≠ -1 by omega)] at h
    exact ⟨fun _ => h, fun z => by omega⟩
/-- between tokens: tree slot t, n nodes so far -/
def PI (σ : St) (t n : Nat) : Prop := TpI σ ∧ NmI σ 4 8 16 ∧ NmI σ 7 12 32 ∧ σ 3 4 = (t : Int) ∧ t ≤ 16 ∧ σ 10 t = (n : Int) ∧ n ≤ 12 ∧ (-1 ≤ σ 12 5 ∧ σ 12 5 < (n : Int)) ∧ (∀ x, x < n → -1 ≤ nd σ t x 2 ∧ nd σ t x 2 < (x : Int)) ∧ (0 ≤ σ 12 4 ∧ σ 12 4 ≤ 4) ∧ ((σ 12 4 = 1 ∨ σ 12 4 = 2) → n < 12) ∧ (σ 12 4 = 3 → σ 12 5 ≠ -1) ∧ (0 ≤ σ 12 9 ∧ σ 12 9 ≤ (n : Int)) ∧ (0 ≤ σ 12 8 ∧ σ 12 8 ≤ 2)
/-- the token that is loaded: kind K, from s to e -/
def Tk (σ : St) (K : Int) (s e : Nat) : Prop := σ 1 2 = K ∧ σ 1 3 = (s : Int) ∧ σ 1 4 = (e : Int) ∧ s ≤ e ∧ e ≤ 1000 ∧ (0 ≤ K ∧ K ≤ 4) ∧ (K = 2 → e - s ≤ 8) ∧ (K = 3 → e - s ≤ 12) ∧ (K = 4 → s < 1000)
noncomputable def leafS (σ : St) (t n : Nat) (k nme : Int) : St := su (aRow σ t n k nme (σ 12 5)) 12 4 (if σ 12 5 = -1 then 4 else 3)
theorem sp_addLeaf {Q : St → Prop} {σ : St} {t n : Nat} {k nme : Int} (h34 : σ 3 4 = (t : Int)) (ht : t ≤ 16) (hn : n < 12) (hsz : σ 10 t = (n : Int)) (hk : 0 ≤ k ∧ k ≤ 3) (hp : -1 ≤ σ 12 5 ∧ σ 12 5 < 12) (h : Q (leafS σ t n k nme)) : wp_X5_addLeaf k nme Q σ := by
  unfold wp_X5_addLeaf
  rw [h34]
  refine sp_addRow ht hn hsz hk hp ?_
  rw [aRow_fr _ _ _ _ _ _ (by omega) (by omega), w32_id (by omega) (by omega)]
  unfold wp_X5_addLeaf_B34
  unfold leafS at h
  refine ⟨fun q σ1 e1 => ?_, fun q σ1 e1 => ?_⟩
  · rw [if_neg q] at h; rw [e1]; exact h
  · rw [if_pos q] at h; rw [e1]; exact h
noncomputable def openS (σ : St) (t n : Nat) : St := su (sn (su (aRow σ t n 0 (σ 12 6) (σ 12 5)) 12 5 (n : Int)) t n 4 (σ 12 8)) 12 4 0
theorem sp_openParts {Q : Int → St → Prop} {σ : St} {t n : Nat} (h34 : σ 3 4 = (t : Int)) (ht : t ≤ 16) (hn : n < 12) (hsz : σ 10 t = (n : Int)) (hp : -1 ≤ σ 12 5 ∧ σ 12 5 < 12) (h : Q 0 (openS σ t n)) : wp_X5_openParts Q σ := by
  unfold wp_X5_openParts
  rw [h34]
  refine sp_addRow ht hn hsz (by omega) hp ?_
  have e34 : aRow σ t n 0 (σ 12 6) (σ 12 5) 3 4 = (t : Int) := by rw [aRow_fr _ _ _ _ _ _ (by omega) (by omega)]; exact h34
  rw [e34, w32_id (by omega) (by omega), show ((t : Int)).toNat = t by omega, aRow_sz]
  refine ⟨by omega, fun σ2 e2 => ?_⟩
  rw [show ((n + 1 : Nat) : Int) - 1 = (n : Int) by omega] at e2
  unfold wp_X1_row
  have f34 : σ2 3 4 = (t : Int) := by rw [e2, su_ko _ _ (by omega)]; exact e34
  have f5 : σ2 12 5 = (n : Int) := by rw [e2, su_at]
  have f8 : σ2 12 8 = σ 12 8 := by rw [e2, su_ko _ _ (by omega), aRow_fr _ _ _ _ _ _ (by omega) (by omega)]
  rw [f34, f5]
  dsimp only
  rw [f8]
  refine sp_set (w := 4) (show (t : Int) * 12 + (n : Int) = ((12 * t + n : Nat) : Int) by omega) rfl ht hn (by omega) ?_
  intro σ6 e6
  rw [e6, e2]
  exact h
noncomputable def closeS (σ : St) (t : Nat) : St := su (su σ 12 5 (nd σ t (σ 12 5).toNat 2)) 12 4 (if nd σ t (σ 12 5).toNat 2 = -1 then 4 else 3)
theorem sp_closeParts {Q : Int → St → Prop} {σ : St} {t n : Nat} (h34 : σ 3 4 = (t : Int)) (ht : t ≤ 16) (hn : n ≤ 12) (hp : 0 ≤ σ 12 5 ∧ σ 12 5 < (n : Int)) (hpar : -1 ≤ nd σ t (σ 12 5).toNat 2 ∧ nd σ t (σ 12 5).toNat 2 < 12) (h : Q 0 (closeS σ t)) : wp_X5_closeParts Q σ := by
  unfold wp_X5_closeParts wp_X1_row
  rw [h34]
  refine sp_cell (w := 2) (show (t : Int) * 12 + σ 12 5 = ((12 * t + (σ 12 5).toNat : Nat) : Int) by omega) rfl ht (by omega) (by omega) ?_
  intro σ5 e5
  have f5 : σ5 12 5 = nd σ t (σ 12 5).toNat 2 := by rw [e5, su_at]
  rw [f5, w32_id (by omega) (by omega)]
  unfold wp_X5_closeParts_B40
  unfold closeS at h
  refine ⟨fun q σ1 e1 => ?_, fun q σ1 e1 => ?_⟩
  · rw [if_neg q] at h; rw [e1, e5]; exact h
  · rw [if_pos q] at h; rw [e1, e5]; exact h
noncomputable def footS (σ : St) : St := if σ 12 9 + 1 ≤ 2 then su (su (su σ 12 9 (σ 12 9 + 1)) 12 10 (σ 12 7)) 12 11 (σ 12 6) else su σ 12 9 (σ 12 9 + 1)
theorem sp_noteFoot {Q : St → Prop} {σ : St} (hf : 0 ≤ σ 12 9 ∧ σ 12 9 ≤ 12) (h : Q (footS σ)) : wp_X5_noteFoot Q σ := by
  unfold wp_X5_noteFoot
  intro σ1 e1
  rw [show σ1 12 9 = σ 12 9 + 1 by rw [e1, su_at], w32_id (by omega) (by omega)]
  unfold footS at h
  refine ⟨fun q => by rw [if_neg (by omega)] at h; rw [e1]; exact h, fun q σ2 e2 σ3 e3 => ?_⟩
  rw [if_pos (by omega)] at h
  rw [e3, e2, e1]
  rw [su_ko _ _ (by omega), su_ko _ _ (by omega), su_ko _ _ (by omega)]
  exact h
theorem sp_isAt {Q : Int → St → Prop} {σ : St} {K c : Int} {s e : Nat} (hI : TpI σ) (hT : Tk σ K s e) (hc : 0 ≤ c ∧ c ≤ 255) (h : Q (bI (K = 4 ∧ σ 2 s = c)) σ) : wp_X4_isAt c Q σ := by
  obtain ⟨t1, t2, t3, t4, t5, t6, t7, t8, t9⟩ := hT
  have hb := hI.2.2 s
  unfold wp_X4_isAt
  rw [t1, t2, w32_id (show -2147483648 ≤ K by omega) (by omega), w32_id (show -2147483648 ≤ (s : Int) by omega) (by omega), show ((s : Int)).toNat = s by omega, w32_id (show -2147483648 ≤ σ 2 s by omega) (by omega), w32_id (show -2147483648 ≤ c by omega) (by omega)]
  refine ⟨fun q => by rw [bI_f (fun z => q z.1)] at h; exact h, fun q => ⟨by have := t9 q; omega, fun z => by rw [bI_f (fun y => z y.2)] at h; exact h, fun z => by rw [bI_t ⟨q, z⟩] at h; exact h⟩⟩
theorem w32_bI (P : Prop) : w32 (bI P) = bI P := by
  by_cases h : P
  · rw [bI_t h]; decide
  · rw [bI_f h]; decide
/-- a row of a tree more: what takeNode answers and leaves -/
noncomputable def nodeC (σ : St) (n : Nat) (K : Int) (s e : Nat) : Int := if K = 2 then (if n < 12 then (if tnR σ 4 8 16 s e = -1 then 3 else 0) else 3) else if K = 3 then (if n < 12 then (if tnR σ 7 12 32 s e = -1 then 3 else 0) else 3) else 2
noncomputable def labS (σ : St) (s e : Nat) : St := su (su (su (su (tnS σ 4 8 16 s e) 12 6 (tnR σ 4 8 16 s e)) 12 7 (s : Int)) 12 8 0) 12 4 1
noncomputable def wordS (σ : St) (t n s e : Nat) : St := leafS (su (tnS σ 7 12 32 s e) 12 12 1) t n 3 (tnR σ 7 12 32 s e)
noncomputable def nodeS (σ : St) (t n : Nat) (K : Int) (s e : Nat) : St := if nodeC σ n K s e = 0 then (if K = 2 then labS σ s e else wordS σ t n s e) else σ
theorem tnS_fr (σ : St) {o w cap s e x k : Nat} (h : ¬ (x = o ∧ k = 3)) (h1 : x ≠ o + 1) (h2 : x ≠ o + 2) : tnS σ o w cap s e x k = σ x k := by
  unfold tnS
  split
  · rfl
  · split
    · rfl
    · exact addN_fr _ _ _ _ _ _ _ _ h h1 h2
theorem tnR_m1 {σ : St} {o w cap s e : Nat} (hN : NmI σ o w cap) (h : tnR σ o w cap s e = -1) : tnS σ o w cap s e = σ := by
  unfold tnR at h
  unfold tnS
  split
  · rfl
  · rename_i q
    rw [if_neg q] at h
    split
    · rfl
    · rename_i q2
      rw [if_neg q2] at h
      have := hN.2.1
      omega
theorem tnR_r {σ : St} {o w cap s e : Nat} (hN : NmI σ o w cap) : -1 ≤ tnR σ o w cap s e ∧ tnR σ o w cap s e ≤ (cap : Int) := by
  have h1 := hN.2.1
  have h2 := hN.2.2.1
  unfold tnR
  rcases fdN_r (s := s) (e := e) hN with q | ⟨q1, q2⟩
  · rw [q]; simp only [ne_eq, not_true_eq_false, if_false]; split <;> omega
  · rw [if_pos (by omega)]; omega
theorem sp_takeNode {Q : Int → St → Prop} {σ : St} {t n s e : Nat} {K : Int} (hP : PI σ t n) (hT : Tk σ K s e) (h : Q (nodeC σ n K s e) (nodeS σ t n K s e)) : wp_X5_takeNode Q σ := by
  obtain ⟨hI, hN4, hN7, h34, ht, hsz, hn, hp, hpar, hst, hst2, hst3, hfe, hmk⟩ := hP
  obtain ⟨t1, t2, t3, t4, t5, t6, t7, t8, t9⟩ := hT
  have hr4 := tnR_r (s := s) (e := e) hN4
  have hr7 := tnR_r (s := s) (e := e) hN7
  have core : K = 2 ∨ K = 3 → wp_X5_takeNode_B24 Q σ := by
    intro hK
    unfold wp_X5_takeNode_B24
    rw [h34, w32_id (show -2147483648 ≤ (t : Int) by omega) (by omega), show ((t : Int)).toNat = t by omega, hsz, w32_id (show -2147483648 ≤ (n : Int) by omega) (by omega), t1, w32_id (show -2147483648 ≤ K by omega) (by omega)]
    refine ⟨by omega, fun hn12 => ⟨fun q => ?_, fun q => ?_⟩, fun hn12 => ?_⟩
    · have hK2 : K = 2 := by omega
      unfold wp_X5_takeNode_B62 wp_X5_takeNode_B85
      refine ⟨fun _ => ?_, fun z => absurd w32_0 z⟩
      refine sp_takeName (o := 4) (w := 8) (cap := 16) hI hN4 t2 t3 t4 t5 (t7 hK2) (by omega) (by omega) (by omega) ?_
      unfold nodeS nodeC at h
      rw [if_pos hK2, if_pos (by omega)] at h
      rw [w32_id (by omega) (by omega)]
      refine ⟨fun z => ⟨fun _ σ3 e3 σ4 e4 σ5 e5 σ6 e6 => ?_, fun y => absurd w32_0 y⟩, fun z => ?_⟩
      · rw [if_neg z, if_pos rfl, if_pos hK2] at h
        have f3 : σ3 1 3 = (s : Int) := by rw [e3, su_ko _ _ (by omega), tnS_fr _ (by omega) (by omega) (by omega)]; exact t2
        rw [e6, e5, e4, f3, e3]
        exact h
      · rw [if_pos z, if_neg (by decide)] at h
        rw [tnR_m1 hN4 z]
        exact h
    · unfold wp_X5_takeNode_B62 wp_X5_takeNode_B85_1
      refine ⟨fun z => absurd z (by decide), fun _ => ?_⟩
      refine sp_takeName (o := 7) (w := 12) (cap := 32) hI hN7 t2 t3 t4 t5 (t8 q) (by omega) (by omega) (by omega) ?_
      unfold nodeS nodeC at h
      rw [if_neg (by omega), if_pos q, if_pos (by omega)] at h
      rw [w32_id (by omega) (by omega)]
      refine ⟨fun z => ⟨fun y => absurd y (by decide), fun _ σ7 e7 => ?_⟩, fun z => ?_⟩
      · rw [if_neg z, if_pos rfl, if_neg (by omega)] at h
        have g : ∀ x k, ¬ (x = 12 ∧ k = 12) → ¬ (x = 7 ∧ k = 3) → x ≠ 8 → x ≠ 9 → σ7 x k = σ x k := fun x k a b c d => by rw [e7, su_ko _ _ (by omega), tnS_fr _ (by omega) (by omega) (by omega)]
        refine sp_addLeaf (t := t) (n := n) (by rw [g 3 4 (by omega) (by omega) (by omega) (by omega)]; exact h34) ht (by omega) (by rw [g 10 t (by omega) (by omega) (by omega) (by omega)]; exact hsz) (by omega) (by rw [g 12 5 (by omega) (by omega) (by omega) (by omega)]; omega) ?_
        rw [e7]
        exact h
      · rw [if_pos z, if_neg (by decide)] at h
        rw [tnR_m1 hN7 z]
        exact h
    · unfold nodeS nodeC at h
      rcases hK with q | q
      · rw [if_pos q, if_neg (by omega), if_neg (by decide)] at h; exact h
      · rw [if_neg (by omega), if_pos q, if_neg (by omega), if_neg (by decide)] at h; exact h
  unfold wp_X5_takeNode
  rw [t1, w32_id (show -2147483648 ≤ K by omega) (by omega)]
  refine ⟨fun q => core (Or.inl q), fun q => ⟨fun z => core (Or.inr z), fun z => ?_⟩⟩
  unfold nodeS nodeC at h
  rw [if_neg q, if_neg z, if_neg (by decide)] at h
  exact h
