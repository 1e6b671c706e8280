/-! pure: lists of names -/
noncomputable def bI (P : Prop) : Int := @ite _ P (Classical.propDecidable P) 1 0
theorem bI_t {P : Prop} (h : P) : bI P = 1 := by unfold bI; exact if_pos h
theorem bI_f {P : Prop} (h : ¬ P) : bI P = 0 := by unfold bI; exact if_neg h
noncomputable def fndF (P : Nat → Prop) : Nat → Nat → Int
  | 0, _ => -1
  | m + 1, k => @ite _ (P k) (Classical.propDecidable _) (k : Int) (fndF P m (k + 1))
theorem fndF_t {P : Nat → Prop} {m k : Nat} (h : P k) : fndF P (m + 1) k = (k : Int) := by unfold fndF; exact if_pos h
theorem fndF_f {P : Nat → Prop} {m k : Nat} (h : ¬ P k) : fndF P (m + 1) k = fndF P m (k + 1) := by
  conv => lhs; unfold fndF
  exact if_neg h
theorem fndF_congr {P P' : Nat → Prop} : ∀ (m k : Nat), (∀ j, k ≤ j → j < k + m → (P j ↔ P' j)) → fndF P m k = fndF P' m k := by
  intro m
  induction m with
  | zero => intro k _; rfl
  | succ m ih =>
    intro k h
    have hk := h k (Nat.le_refl k) (by omega)
    have hi := ih (k + 1) (fun j h1 h2 => h j (by omega) (by omega))
    by_cases q : P k
    · rw [fndF_t q, fndF_t (hk.mp q)]
    · rw [fndF_f q, fndF_f (fun z => q (hk.mpr z)), hi]
theorem fndF_spec (P : Nat → Prop) : ∀ (m k : Nat), (fndF P m k = -1 ∧ ∀ j, k ≤ j → j < k + m → ¬ P j) ∨ ∃ j : Nat, fndF P m k = (j : Int) ∧ k ≤ j ∧ j < k + m ∧ P j ∧ ∀ i, k ≤ i → i < j → ¬ P i := by
  intro m
  induction m with
  | zero => intro k; exact Or.inl ⟨rfl, fun j h1 h2 => by omega⟩
  | succ m ih =>
    intro k
    by_cases q : P k
    · exact Or.inr ⟨k, fndF_t q, Nat.le_refl k, by omega, q, fun i h1 h2 => by omega⟩
    · rw [fndF_f q]
      rcases ih (k + 1) with ⟨h1, h2⟩ | ⟨j, h1, h2, h3, h4, h5⟩
      · refine Or.inl ⟨h1, fun j a b => ?_⟩
        by_cases e : j = k
        · rw [e]; exact q
        · exact h2 j (by omega) (by omega)
      · refine Or.inr ⟨j, h1, by omega, by omega, h4, fun i a b => ?_⟩
        by_cases e : i = k
        · rw [e]; exact q
        · exact h5 i (by omega) b
def eqAt (tab b : Nat → Int) (x s n : Nat) : Prop := ∀ i, i < n → tab (x + i) = b (s + i)
def By (f : Nat → Int) : Prop := ∀ k, -128 ≤ f k ∧ f k ≤ 255
theorem w32_by {x : Int} (h : -128 ≤ x ∧ x ≤ 255) : w32 x = x := w32_id (by omega) (by omega)
theorem sp_isSame {o a : Nat} {lw ln la : Int} {Q : Int → St → Prop} {σ : St} {x s e : Nat} (ha : By (σ a)) (ho : By (σ (o + 1))) (hla : (e : Int) ≤ la) (hlw : (x : Int) + ((e - s : Nat) : Int) ≤ lw) (hse : s ≤ e) (hbig : la ≤ 100000) (hbig2 : lw ≤ 100000) (h : Q (bI (eqAt (σ (o + 1)) (σ a) x s (e - s))) σ) : wp_X2_isSame o a lw ln la (x : Int) (s : Int) (e : Int) Q σ := by
  unfold wp_X2_isSame
  have key : ∀ (m i : Nat), s ≤ i → i ≤ e → e - i = m → (∀ j, j < i - s → σ (o + 1) (x + j) = σ a (s + j)) → wp_X2_isSame_L3 o a lw ln la Q (m + 1) (x : Int) (s : Int) (e : Int) (i : Int) σ := by
    intro m
    induction m with
    | zero =>
      intro i h1 h2 h3 hpre
      unfold wp_X2_isSame_L3
      simp (disch := omega) only [w32_id]
      refine ⟨fun _ => ?_, fun q => by omega⟩
      have hq : eqAt (σ (o + 1)) (σ a) x s (e - s) := fun j hj => hpre j (by omega)
      rw [bI_t hq] at h
      exact h
    | succ m ih =>
      intro i h1 h2 h3 hpre
      unfold wp_X2_isSame_L3
      have hx : (x : Int) + (i : Int) - (s : Int) = ((x + (i - s) : Nat) : Int) := by omega
      rw [hx]
      simp (disch := omega) only [w32_id]
      rw [w32_by (ha _), w32_by (ho _), show ((i : Int)).toNat = i by omega, show (((x + (i - s) : Nat)) : Int).toNat = x + (i - s) by omega]
      refine ⟨fun q => by omega, fun _ => ⟨by omega, by omega, fun q x1 e1 => ?_, fun q => ?_⟩⟩
      · have : x1 = ((i + 1 : Nat) : Int) := by rw [e1]; omega
        rw [this]
        refine ih (i + 1) (by omega) (by omega) (by omega) (fun j hj => ?_)
        by_cases e2 : j = i - s
        · rw [e2, ← q, show s + (i - s) = i by omega]
        · exact hpre j (by omega)
      · have hq : ¬ eqAt (σ (o + 1)) (σ a) x s (e - s) := fun z => q (by have := z (i - s) (by omega); rw [show s + (i - s) = i by omega] at this; exact this.symm)
        rw [bI_f hq] at h
        exact h
  exact ⟨_, key _ s (Nat.le_refl s) hse rfl (fun j hj => by omega)⟩
/-- a list of names: object o, width w, at most cap of them -/
def NmI (σ : St) (o w cap : Nat) : Prop := σ o 0 = (w : Int) ∧ 0 ≤ σ o 3 ∧ σ o 3 ≤ (cap : Int) ∧ (∀ k, 0 ≤ σ (o + 2) k ∧ σ (o + 2) k ≤ (w : Int)) ∧ ∀ k, 0 ≤ σ (o + 1) k ∧ σ (o + 1) k ≤ 255
noncomputable def fndN (lf tab b : Nat → Int) (w cnt s e : Nat) : Int := fndF (fun k => lf k = ((e - s : Nat) : Int) ∧ eqAt tab b (w * k) s (e - s)) cnt 0
theorem sp_find {o a w cap : Nat} {la : Int} {Q : Int → St → Prop} {σ : St} {s e : Nat} (hN : NmI σ o w cap) (ha : By (σ a)) (hla : (e : Int) ≤ la) (hse : s ≤ e) (hbig : la ≤ 100000) (hw : w ≤ 12) (hcap : cap ≤ 32) (h : Q (fndN (σ (o + 2)) (σ (o + 1)) (σ a) w (σ o 3).toNat s e) σ) : wp_X2_find o a ((w * cap : Nat) : Int) (cap : Int) la (s : Int) (e : Int) Q σ := by
  obtain ⟨h0, h1, h2, h3, h4⟩ := hN
  obtain ⟨cnt, hcnt⟩ : ∃ n : Nat, σ o 3 = (n : Int) := ⟨(σ o 3).toNat, by omega⟩
  rw [hcnt] at h h2
  rw [show ((cnt : Int)).toNat = cnt by omega] at h
  have hb : By (σ (o + 1)) := fun k => by have := h4 k; omega
  have hwc : w * cap ≤ 100000 := Nat.le_trans (Nat.mul_le_mul hw hcap) (by omega)
  unfold wp_X2_find
  have key : ∀ (m k : Nat), k ≤ cnt → cnt - k = m → fndN (σ (o + 2)) (σ (o + 1)) (σ a) w cnt s e = fndF (fun k => σ (o + 2) k = ((e - s : Nat) : Int) ∧ eqAt (σ (o + 1)) (σ a) (w * k) s (e - s)) m k → wp_X2_find_L3 o a ((w * cap : Nat) : Int) (cap : Int) la Q (m + 1) (s : Int) (e : Int) (k : Int) σ := by
    intro m
    induction m with
    | zero =>
      intro k hk hm hf
      unfold wp_X2_find_L3
      simp (disch := omega) only [hcnt, w32_id]
      refine ⟨fun _ => ?_, fun q => by omega⟩
      rw [hf] at h; exact h
    | succ m ih =>
      intro k hk hm hf
      have hkc : k < cap := by omega
      have h3k := h3 k
      have hmul : w * k + w ≤ w * cap := by
        have : w * (k + 1) ≤ w * cap := Nat.mul_le_mul (Nat.le_refl w) (by omega)
        rw [Nat.mul_add, Nat.mul_one] at this; exact this
      unfold wp_X2_find_L3
      have hes : (e : Int) - (s : Int) = ((e - s : Nat) : Int) := by omega
      rw [hes, w32_id (show -2147483648 ≤ (k : Int) by omega) (show (k : Int) < 2147483648 by omega), show ((k : Int)).toNat = k by omega]
      simp (disch := omega) only [hcnt, w32_id]
      have nxt : ¬ (σ (o + 2) k = ((e - s : Nat) : Int) ∧ eqAt (σ (o + 1)) (σ a) (w * k) s (e - s)) → wp_X2_find_B44 o a ((w * cap : Nat) : Int) (cap : Int) la (fun z0 z1 z2 σ => wp_X2_find_L3 o a ((w * cap : Nat) : Int) (cap : Int) la Q (m + 1) z0 z1 z2 σ) (s : Int) (e : Int) (k : Int) Q σ := by
        intro hn
        unfold wp_X2_find_B44
        intro x1 e1
        rw [show x1 = ((k + 1 : Nat) : Int) by rw [e1]; omega]
        exact ih (k + 1) (by omega) (by omega) (by rw [hf, fndF_f hn])
      refine ⟨fun q => by omega, fun _ => ⟨by omega, fun q => nxt (fun z => q z.1), fun q => ?_⟩⟩
      unfold wp_X2_begin
      rw [h0, show (k : Int) * (w : Int) = ((w * k : Nat) : Int) by rw [Nat.mul_comm]; exact (Int.natCast_mul k w).symm]
      refine sp_isSame ha hb hla (by omega) hse hbig (by omega) ?_
      by_cases hq : eqAt (σ (o + 1)) (σ a) (w * k) s (e - s)
      · rw [bI_t hq]
        refine ⟨fun z => absurd z (by decide), fun _ => ?_⟩
        rw [hf, fndF_t ⟨q, hq⟩] at h
        exact h
      · rw [bI_f hq]
        exact ⟨fun _ => nxt (fun z => hq z.2), fun z => absurd (by decide) z⟩
  exact ⟨_, key _ 0 (by omega) rfl rfl⟩
/-- what add leaves -/
def addN (σ : St) (o a w s e : Nat) : St := su (su (sc σ a (o + 1) s (w * (σ o 3).toNat) (e - s)) (o + 2) (σ o 3).toNat ((e - s : Nat) : Int)) o 3 (σ o 3 + 1)
theorem sp_add {o a w cap : Nat} {la : Int} {Q : St → Prop} {σ : St} {s e : Nat} (hN : NmI σ o w cap) (hla : (e : Int) ≤ la) (hse : s ≤ e) (hbig : la ≤ 100000) (hw : w ≤ 12) (hcap : cap ≤ 32) (hes : e - s ≤ w) (hfull : σ o 3 < (cap : Int)) (hao : a ≠ o + 1) (h : Q (addN σ o a w s e)) : wp_X2_add o a ((w * cap : Nat) : Int) (cap : Int) la (s : Int) (e : Int) Q σ := by
  obtain ⟨h0, h1, h2, h3, h4⟩ := hN
  obtain ⟨cnt, hcnt⟩ : ∃ n : Nat, σ o 3 = (n : Int) := ⟨(σ o 3).toNat, by omega⟩
  unfold addN at h
  rw [hcnt] at h h2 hfull
  rw [show ((cnt : Int)).toNat = cnt by omega] at h
  have hmul : w * cnt + w ≤ w * cap := by
    have : w * (cnt + 1) ≤ w * cap := Nat.mul_le_mul (Nat.le_refl w) (by omega)
    rw [Nat.mul_add, Nat.mul_one] at this; exact this
  have hwc : w * cap ≤ 384 := Nat.le_trans (Nat.mul_le_mul hw hcap) (by omega)
  unfold wp_X2_add wp_X2_isFull wp_X2_begin
  have hes' : (e : Int) - (s : Int) = ((e - s : Nat) : Int) := by omega
  have hm : (cnt : Int) * (w : Int) = ((w * cnt : Nat) : Int) := by rw [Nat.mul_comm]; exact (Int.natCast_mul cnt w).symm
  simp (disch := omega) only [hes', hcnt, h0, hm, w32_id]
  refine ⟨fun _ => ⟨fun q => by simp at q, fun _ => ⟨fun _ => ⟨by omega, ?_⟩, fun q => by omega⟩⟩, fun q => by omega⟩
  intro σ5 e5
  rw [show ((s : Int)).toNat = s by omega, show (((w * cnt : Nat)) : Int).toNat = w * cnt by omega, show ((((e - s : Nat)) : Int)).toNat = e - s by omega] at e5
  have f5 : σ5 o 3 = (cnt : Int) := by rw [e5]; unfold sc; rw [if_neg (by omega)]; exact hcnt
  rw [f5, w32_id (by omega) (by omega), show ((cnt : Int)).toNat = cnt by omega]
  refine ⟨by omega, fun σ6 e6 σ7 e7 => ?_⟩
  have f6 : σ6 o 3 = (cnt : Int) := by rw [e6, su_ko _ _ (by omega), f5]
  rw [e7, f6, e6, e5]
  exact h
