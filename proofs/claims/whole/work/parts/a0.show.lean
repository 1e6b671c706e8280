/-! pure: nodes of the whole tree are shown -/
abbrev Wn := Nat × Nat × Int
def WS (σ : St) : List Wn → Prop
  | [] => True
  | e :: W => σ 28 (3 * W.length) = (e.1 : Int) ∧ σ 28 (3 * W.length + 1) = (e.2.1 : Int) ∧ σ 28 (3 * W.length + 2) = e.2.2 ∧ WS σ W
def MStk (τ : St) : List Wn → Prop
  | [] => True
  | e :: W => τ 27 (4 * W.length) = (e.1 : Int) ∧ τ 27 (4 * W.length + 1) = (e.2.1 : Int) ∧ τ 27 (4 * W.length + 2) = 0 ∧ τ 27 (4 * W.length + 3) = e.2.2 ∧ MStk τ W
theorem WS_fr {σ σ' : St} : ∀ W : List Wn, WS σ W → (∀ k, k < 3 * W.length → σ' 28 k = σ 28 k) → WS σ' W := by
  intro W
  induction W with
  | nil => intro _ _; exact trivial
  | cons e W ih =>
    intro h f
    have el : (e :: W).length = W.length + 1 := rfl
    exact ⟨by rw [f _ (by omega)]; exact h.1, by rw [f _ (by omega)]; exact h.2.1, by rw [f _ (by omega)]; exact h.2.2.1, ih h.2.2.2 (fun k q => f k (by omega))⟩
theorem MStk_fr {τ τ' : St} : ∀ W : List Wn, MStk τ W → (∀ k, k < 4 * W.length → τ' 27 k = τ 27 k) → MStk τ' W := by
  intro W
  induction W with
  | nil => intro _ _; exact trivial
  | cons e W ih =>
    intro h f
    have el : (e :: W).length = W.length + 1 := rfl
    exact ⟨by rw [f _ (by omega)]; exact h.1, by rw [f _ (by omega)]; exact h.2.1, by rw [f _ (by omega)]; exact h.2.2.1, by rw [f _ (by omega)]; exact h.2.2.2.1, ih h.2.2.2.2 (fun k q => f k (by omega))⟩
/-- the parts of node x, the first one first -/
def KL (p : Nat → Int) (u x : Nat) (S : Int) : Nat → Nat → List Wn
  | _, 0 => []
  | lo, m + 1 => if p lo = (x : Int) then (u, lo, S) :: KL p u x S (lo + 1) m else KL p u x S (lo + 1) m
theorem KL_len (p : Nat → Int) (u x : Nat) (S : Int) : ∀ m lo, (KL p u x S lo m).length ≤ m := by
  intro m
  induction m with
  | zero => intro lo; exact Nat.le_refl 0
  | succ m ih =>
    intro lo
    have := ih (lo + 1)
    unfold KL
    split
    · show (KL p u x S (lo + 1) m).length + 1 ≤ m + 1; omega
    · omega
theorem sp_push {Q : St → Prop} {σ : St} {W : List Wn} {e : Wn} {a1 a2 a3 : Int} (hs : σ 26 5 = ((W.length : Nat) : Int)) (hW : WS σ W) (hl : W.length < 96) (h1 : a1 = (e.1 : Int)) (h2 : a2 = (e.2.1 : Int)) (h3 : a3 = e.2.2) (h : ∀ σ', σ' 26 5 = (((e :: W).length : Nat) : Int) → WS σ' (e :: W) → (∀ o k, ¬ (o = 26 ∧ k = 5) → o ≠ 28 → σ' o k = σ o k) → Q σ') : wp_X7_push a1 a2 a3 Q σ := by
  have n0 : ¬ (96 : Int) ≤ ((W.length : Nat) : Int) := by omega
  have v : w32 ((W.length : Nat) : Int) = ((W.length : Nat) : Int) := w32_id (by omega) (by omega)
  have v0 : w32 (((W.length : Nat) : Int) * 3) = ((W.length : Nat) : Int) * 3 := w32_id (by omega) (by omega)
  have v1 : w32 (((W.length : Nat) : Int) * 3 + 1) = ((W.length : Nat) : Int) * 3 + 1 := w32_id (by omega) (by omega)
  have v2 : w32 (((W.length : Nat) : Int) * 3 + 2) = ((W.length : Nat) : Int) * 3 + 2 := w32_id (by omega) (by omega)
  have b0 : 0 ≤ ((W.length : Nat) : Int) * 3 ∧ ((W.length : Nat) : Int) * 3 < 288 := by omega
  have b1 : 0 ≤ ((W.length : Nat) : Int) * 3 + 1 ∧ ((W.length : Nat) : Int) * 3 + 1 < 288 := by omega
  have b2 : 0 ≤ ((W.length : Nat) : Int) * 3 + 2 ∧ ((W.length : Nat) : Int) * 3 + 2 < 288 := by omega
  have t0 : (((W.length : Nat) : Int) * 3).toNat = 3 * W.length := by omega
  have t1 : (((W.length : Nat) : Int) * 3 + 1).toNat = 3 * W.length + 1 := by omega
  have t2 : (((W.length : Nat) : Int) * 3 + 2).toNat = 3 * W.length + 2 := by omega
  unfold wp_X7_push
  rw [hs, v, v0, t0]
  refine ⟨fun z => absurd z n0, fun _ => ⟨b0, fun s1 e1 => ?_⟩⟩
  have s15 : s1 26 5 = ((W.length : Nat) : Int) := by rw [e1, su_ko _ _ (by omega)]; exact hs
  rw [s15, v1, t1]
  refine ⟨b1, fun s2 e2 => ?_⟩
  have s25 : s2 26 5 = ((W.length : Nat) : Int) := by rw [e2, su_ko _ _ (by omega)]; exact s15
  rw [s25, v2, t2]
  refine ⟨b2, fun s3 e3 s4 e4 => ?_⟩
  have s35 : s3 26 5 = ((W.length : Nat) : Int) := by rw [e3, su_ko _ _ (by omega)]; exact s25
  have f28 : ∀ k, s4 28 k = s3 28 k := fun k => by rw [e4, su_ko _ _ (by omega)]
  refine h s4 (by rw [e4, su_at, s35]; show _ = ((W.length + 1 : Nat) : Int); omega) ⟨?_, ?_, ?_, WS_fr W hW (fun k q => ?_)⟩ (fun o k q1 q2 => ?_)
  · rw [f28, e3, su_ko _ _ (by omega), e2, su_ko _ _ (by omega), e1, su_at]; exact h1
  · rw [f28, e3, su_ko _ _ (by omega), e2, su_at]; exact h2
  · rw [f28, e3, su_at]; exact h3
  · rw [f28, e3, su_ko _ _ (by omega), e2, su_ko _ _ (by omega), e1, su_ko _ _ (by omega)]
  · rw [e4, su_ko _ _ q1, e3, su_ko _ _ (fun z => q2 z.1), e2, su_ko _ _ (fun z => q2 z.1), e1, su_ko _ _ (fun z => q2 z.1)]
theorem sp_later {Q : St → Prop} {τ : St} {W : List Wn} {u x : Nat} {it par a1 a2 : Int} (hs : τ 0 48 = ((W.length : Nat) : Int)) (hl : W.length < 300) (hit : it = 0 ∨ it = 1) (h1 : a1 = (u : Int)) (h2 : a2 = (x : Int)) (h : ∀ τ', τ' 0 48 = ((W.length + 1 : Nat) : Int) → τ' 27 (4 * W.length) = (u : Int) → τ' 27 (4 * W.length + 1) = (x : Int) → τ' 27 (4 * W.length + 2) = it → τ' 27 (4 * W.length + 3) = par → (∀ o k, ¬ (o = 0 ∧ k = 48) → ¬ (o = 27 ∧ 4 * W.length ≤ k) → τ' o k = τ o k) → Q τ') : wp_X9_later a1 a2 it par Q τ := by
  have v0 : w32 (4 * ((W.length : Nat) : Int)) = 4 * ((W.length : Nat) : Int) := w32_id (by omega) (by omega)
  have v1 : w32 (4 * ((W.length : Nat) : Int) + 1) = 4 * ((W.length : Nat) : Int) + 1 := w32_id (by omega) (by omega)
  have v2 : w32 (4 * ((W.length : Nat) : Int) + 2) = 4 * ((W.length : Nat) : Int) + 2 := w32_id (by omega) (by omega)
  have v3 : w32 (4 * ((W.length : Nat) : Int) + 3) = 4 * ((W.length : Nat) : Int) + 3 := w32_id (by omega) (by omega)
  have b0 : 0 ≤ 4 * ((W.length : Nat) : Int) ∧ 4 * ((W.length : Nat) : Int) < 1400 := by omega
  have b1 : 0 ≤ 4 * ((W.length : Nat) : Int) + 1 ∧ 4 * ((W.length : Nat) : Int) + 1 < 1400 := by omega
  have b2 : 0 ≤ 4 * ((W.length : Nat) : Int) + 2 ∧ 4 * ((W.length : Nat) : Int) + 2 < 1400 := by omega
  have b3 : 0 ≤ 4 * ((W.length : Nat) : Int) + 3 ∧ 4 * ((W.length : Nat) : Int) + 3 < 1400 := by omega
  have t0 : (4 * ((W.length : Nat) : Int)).toNat = 4 * W.length := by omega
  have t1 : (4 * ((W.length : Nat) : Int) + 1).toNat = 4 * W.length + 1 := by omega
  have t2 : (4 * ((W.length : Nat) : Int) + 2).toNat = 4 * W.length + 2 := by omega
  have t3 : (4 * ((W.length : Nat) : Int) + 3).toNat = 4 * W.length + 3 := by omega
  unfold wp_X9_later
  intro x_1 ex
  rw [hs] at ex
  subst ex
  rw [v0, v1, t0, t1]
  refine ⟨b0, fun s2 e2 => ⟨b1, fun s3 e3 => ?_⟩⟩
  have fin : ∀ o : Int, o = it → wp_X9_later_B43 par (4 * ((W.length : Nat) : Int)) (4 * ((W.length : Nat) : Int) + 2) o Q s3 := by
    intro o ho
    unfold wp_X9_later_B43
    rw [v2, v3, t2, t3]
    refine ⟨b2, fun s4 e4 => ⟨b3, fun s5 e5 s6 e6 => ?_⟩⟩
    have f : ∀ k, s6 27 k = s5 27 k := fun k => by rw [e6, su_ko _ _ (by omega)]
    have p48 : s5 0 48 = ((W.length : Nat) : Int) := by rw [e5, su_ko _ _ (by omega), e4, su_ko _ _ (by omega), e3, su_ko _ _ (by omega), e2, su_ko _ _ (by omega)]; exact hs
    refine h s6 (by rw [e6, su_at, p48]; omega) ?_ ?_ ?_ ?_ (fun o' k q1 q2 => ?_)
    · rw [f, e5, su_ko _ _ (by omega), e4, su_ko _ _ (by omega), e3, su_ko _ _ (by omega), e2, su_at]; exact h1
    · rw [f, e5, su_ko _ _ (by omega), e4, su_ko _ _ (by omega), e3, su_at]; exact h2
    · rw [f, e5, su_ko _ _ (by omega), e4, su_at]; exact ho
    · rw [f, e5, su_at]
    · rw [e6, su_ko _ _ q1, e5, su_ko _ _ (by omega), e4, su_ko _ _ (by omega), e3, su_ko _ _ (by omega), e2, su_ko _ _ (by omega)]
  rcases hit with q | q
  · rw [q]; exact ⟨fun _ => fin 0 q.symm, fun z => absurd w32_0 z⟩
  · rw [q]; exact ⟨fun z => absurd z (by decide), fun _ => fin 1 q.symm⟩
