/-! pure: the reference looks a LABEL, a WORD up (wip/whole/mk54.py) -/
theorem sp_mlabelIn {K2 : Int → St → Prop} {Q : Int → St → Prop} {σ : St} {s e k : Nat} (hs : σ 0 28 = (s : Int)) (he : σ 0 29 = (e : Int)) (hse : s ≤ e) (he1 : e ≤ 1000) (hes : e - s ≤ 8) (hk : k < 17) (ht : By (σ 2)) (hb : By (σ 1)) (hyes : eqAt (σ 2) (σ 1) (8 * k) s (e - s) → Q (k : Int) σ) (hno : ¬ eqAt (σ 2) (σ 1) (8 * k) s (e - s) → ∀ x1 : Int, x1 = (k : Int) + 1 → K2 x1 σ) : wp_X9_label_B33 K2 (k : Int) 1 Q σ := by
  unfold wp_X9_label_B33
  have out0 : ¬ eqAt (σ 2) (σ 1) (8 * k) s (e - s) → wp_X9_label_B90 K2 (k : Int) 0 Q σ := by
    intro h
    unfold wp_X9_label_B90
    exact ⟨fun _ => hno h, fun z => absurd w32_0 z⟩
  have key : ∀ (m i : Nat), i ≤ e - s → e - s - i = m → (∀ j, j < i → σ 2 (8 * k + j) = σ 1 (s + j)) → wp_X9_label_L36 K2 Q (m + 2) (k : Int) 1 (i : Int) σ := by
    intro m
    induction m with
    | zero =>
      intro i h1 h2 hpre
      unfold wp_X9_label_L36
      rw [he, hs]
      simp (disch := omega) only [w32_id]
      refine ⟨fun _ => ?_, fun q => by omega⟩
      unfold wp_X9_label_B90
      exact ⟨fun z => absurd z (by decide), fun _ => hyes (fun j hj => hpre j (by omega))⟩
    | succ m ih =>
      intro i h1 h2 hpre
      unfold wp_X9_label_L36
      rw [he, hs]
      have a1 : (8 : Int) * (k : Int) + (i : Int) = ((8 * k + i : Nat) : Int) := by omega
      have a2 : (s : Int) + (i : Int) = ((s + i : Nat) : Int) := by omega
      rw [a1, a2]
      simp (disch := omega) only [w32_id]
      rw [w32_by (ht _), w32_by (hb _), show (((8 * k + i : Nat)) : Int).toNat = 8 * k + i by omega, show (((s + i : Nat)) : Int).toNat = s + i by omega]
      refine ⟨fun q => by omega, fun _ => ⟨fun z => by omega, fun _ => ⟨by omega, by omega, fun q => ?_, fun q => ?_⟩⟩⟩
      · unfold wp_X9_label_B83
        intro x1 e1
        have hne : ¬ eqAt (σ 2) (σ 1) (8 * k) s (e - s) := fun z => q (z i (by omega))
        unfold wp_X9_label_L36
        rw [he, hs]
        simp (disch := omega) only [w32_id]
        exact ⟨fun _ => out0 hne, fun _ => ⟨fun _ => out0 hne, fun z => by simp at z⟩⟩
      · unfold wp_X9_label_B83
        intro x1 e1
        rw [show x1 = ((i + 1 : Nat) : Int) by rw [e1]; omega]
        refine ih (i + 1) (by omega) (by omega) (fun j hj => ?_)
        by_cases e2 : j = i
        · rw [e2]; exact q
        · exact hpre j (by omega)
  exact ⟨_, key _ 0 (by omega) rfl (fun j hj => by omega)⟩
theorem sp_mlabel {Q : Int → St → Prop} {σ : St} {s e cnt : Nat} (hs : σ 0 28 = (s : Int)) (he : σ 0 29 = (e : Int)) (hse : s ≤ e) (he1 : e ≤ 1000) (hc : σ 0 7 = (cnt : Int)) (hc1 : cnt ≤ 17) (hlf : ∀ k, 0 ≤ σ 3 k ∧ σ 3 k ≤ 8) (ht : By (σ 2)) (hb : By (σ 1)) (h : Q (fndN (σ 3) (σ 2) (σ 1) 8 cnt s e) σ) : wp_X9_label Q σ := by
  unfold wp_X9_label
  have key : ∀ (m k : Nat), k ≤ cnt → cnt - k = m → fndN (σ 3) (σ 2) (σ 1) 8 cnt s e = fndF (fun k => σ 3 k = ((e - s : Nat) : Int) ∧ eqAt (σ 2) (σ 1) (8 * k) s (e - s)) m k → wp_X9_label_L2 Q (m + 1) (k : Int) σ := by
    intro m
    induction m with
    | zero =>
      intro k hk hm hf
      unfold wp_X9_label_L2
      simp (disch := omega) only [hc, w32_id]
      refine ⟨fun _ => ?_, fun q => by omega⟩
      rw [hf] at h; exact h
    | succ m ih =>
      intro k hk hm hf
      have h3k := hlf k
      unfold wp_X9_label_L2
      rw [w32_id (show -2147483648 ≤ (k : Int) by omega) (show (k : Int) < 2147483648 by omega), show ((k : Int)).toNat = k by omega, he, hs, show (e : Int) - (s : Int) = ((e - s : Nat) : Int) by omega]
      simp (disch := omega) only [hc, w32_id]
      have nxt : ¬ (σ 3 k = ((e - s : Nat) : Int) ∧ eqAt (σ 2) (σ 1) (8 * k) s (e - s)) → ∀ x1 : Int, x1 = (k : Int) + 1 → wp_X9_label_L2 Q (m + 1) x1 σ := by
        intro hn x1 e1
        rw [show x1 = ((k + 1 : Nat) : Int) by rw [e1]; omega]
        exact ih (k + 1) (by omega) (by omega) (by rw [hf, fndF_f hn])
      refine ⟨fun q => by omega, fun _ => ⟨by omega, fun q => ?_, fun q => ?_⟩⟩
      · refine ⟨1, ?_⟩
        unfold wp_X9_label_L36
        rw [he, hs, show (e : Int) - (s : Int) = ((e - s : Nat) : Int) by omega]
        simp (disch := omega) only [w32_id]
        have out0 : wp_X9_label_B90 (fun z0 σ => wp_X9_label_L2 Q (m + 1) z0 σ) (k : Int) 0 Q σ := by
          unfold wp_X9_label_B90
          exact ⟨fun _ => nxt (fun z => q z.1), fun z => absurd w32_0 z⟩
        exact ⟨fun _ => out0, fun _ => ⟨fun _ => out0, fun z => by simp at z⟩⟩
      · refine sp_mlabelIn hs he hse he1 (by omega) (by omega) ht hb (fun hq => ?_) (fun hq => nxt (fun z => hq z.2))
        rw [hf, fndF_t ⟨q, hq⟩] at h
        exact h
  exact ⟨_, key _ 0 (by omega) rfl rfl⟩
theorem sp_mwordIn {K2 : Int → St → Prop} {Q : Int → St → Prop} {σ : St} {s e k : Nat} (hs : σ 0 28 = (s : Int)) (he : σ 0 29 = (e : Int)) (hse : s ≤ e) (he1 : e ≤ 1000) (hes : e - s ≤ 12) (hk : k < 33) (ht : By (σ 4)) (hb : By (σ 1)) (hyes : eqAt (σ 4) (σ 1) (12 * k) s (e - s) → Q (k : Int) σ) (hno : ¬ eqAt (σ 4) (σ 1) (12 * k) s (e - s) → ∀ x1 : Int, x1 = (k : Int) + 1 → K2 x1 σ) : wp_X9_word_B33 K2 (k : Int) 1 Q σ := by
  unfold wp_X9_word_B33
  have out0 : ¬ eqAt (σ 4) (σ 1) (12 * k) s (e - s) → wp_X9_word_B90 K2 (k : Int) 0 Q σ := by
    intro h
    unfold wp_X9_word_B90
    exact ⟨fun _ => hno h, fun z => absurd w32_0 z⟩
  have key : ∀ (m i : Nat), i ≤ e - s → e - s - i = m → (∀ j, j < i → σ 4 (12 * k + j) = σ 1 (s + j)) → wp_X9_word_L36 K2 Q (m + 2) (k : Int) 1 (i : Int) σ := by
    intro m
    induction m with
    | zero =>
      intro i h1 h2 hpre
      unfold wp_X9_word_L36
      rw [he, hs]
      simp (disch := omega) only [w32_id]
      refine ⟨fun _ => ?_, fun q => by omega⟩
      unfold wp_X9_word_B90
      exact ⟨fun z => absurd z (by decide), fun _ => hyes (fun j hj => hpre j (by omega))⟩
    | succ m ih =>
      intro i h1 h2 hpre
      unfold wp_X9_word_L36
      rw [he, hs]
      have a1 : (12 : Int) * (k : Int) + (i : Int) = ((12 * k + i : Nat) : Int) := by omega
      have a2 : (s : Int) + (i : Int) = ((s + i : Nat) : Int) := by omega
      rw [a1, a2]
      simp (disch := omega) only [w32_id]
      rw [w32_by (ht _), w32_by (hb _), show (((12 * k + i : Nat)) : Int).toNat = 12 * k + i by omega, show (((s + i : Nat)) : Int).toNat = s + i by omega]
      refine ⟨fun q => by omega, fun _ => ⟨fun z => by omega, fun _ => ⟨by omega, by omega, fun q => ?_, fun q => ?_⟩⟩⟩
      · unfold wp_X9_word_B83
        intro x1 e1
        have hne : ¬ eqAt (σ 4) (σ 1) (12 * k) s (e - s) := fun z => q (z i (by omega))
        unfold wp_X9_word_L36
        rw [he, hs]
        simp (disch := omega) only [w32_id]
        exact ⟨fun _ => out0 hne, fun _ => ⟨fun _ => out0 hne, fun z => by simp at z⟩⟩
      · unfold wp_X9_word_B83
        intro x1 e1
        rw [show x1 = ((i + 1 : Nat) : Int) by rw [e1]; omega]
        refine ih (i + 1) (by omega) (by omega) (fun j hj => ?_)
        by_cases e2 : j = i
        · rw [e2]; exact q
        · exact hpre j (by omega)
  exact ⟨_, key _ 0 (by omega) rfl (fun j hj => by omega)⟩
theorem sp_mword {Q : Int → St → Prop} {σ : St} {s e cnt : Nat} (hs : σ 0 28 = (s : Int)) (he : σ 0 29 = (e : Int)) (hse : s ≤ e) (he1 : e ≤ 1000) (hc : σ 0 10 = (cnt : Int)) (hc1 : cnt ≤ 33) (hlf : ∀ k, 0 ≤ σ 5 k ∧ σ 5 k ≤ 12) (ht : By (σ 4)) (hb : By (σ 1)) (h : Q (fndN (σ 5) (σ 4) (σ 1) 12 cnt s e) σ) : wp_X9_word Q σ := by
  unfold wp_X9_word
  have key : ∀ (m k : Nat), k ≤ cnt → cnt - k = m → fndN (σ 5) (σ 4) (σ 1) 12 cnt s e = fndF (fun k => σ 5 k = ((e - s : Nat) : Int) ∧ eqAt (σ 4) (σ 1) (12 * k) s (e - s)) m k → wp_X9_word_L2 Q (m + 1) (k : Int) σ := by
    intro m
    induction m with
    | zero =>
      intro k hk hm hf
      unfold wp_X9_word_L2
      simp (disch := omega) only [hc, w32_id]
      refine ⟨fun _ => ?_, fun q => by omega⟩
      rw [hf] at h; exact h
    | succ m ih =>
      intro k hk hm hf
      have h3k := hlf k
      unfold wp_X9_word_L2
      rw [w32_id (show -2147483648 ≤ (k : Int) by omega) (show (k : Int) < 2147483648 by omega), show ((k : Int)).toNat = k by omega, he, hs, show (e : Int) - (s : Int) = ((e - s : Nat) : Int) by omega]
      simp (disch := omega) only [hc, w32_id]
      have nxt : ¬ (σ 5 k = ((e - s : Nat) : Int) ∧ eqAt (σ 4) (σ 1) (12 * k) s (e - s)) → ∀ x1 : Int, x1 = (k : Int) + 1 → wp_X9_word_L2 Q (m + 1) x1 σ := by
        intro hn x1 e1
        rw [show x1 = ((k + 1 : Nat) : Int) by rw [e1]; omega]
        exact ih (k + 1) (by omega) (by omega) (by rw [hf, fndF_f hn])
      refine ⟨fun q => by omega, fun _ => ⟨by omega, fun q => ?_, fun q => ?_⟩⟩
      · refine ⟨1, ?_⟩
        unfold wp_X9_word_L36
        rw [he, hs, show (e : Int) - (s : Int) = ((e - s : Nat) : Int) by omega]
        simp (disch := omega) only [w32_id]
        have out0 : wp_X9_word_B90 (fun z0 σ => wp_X9_word_L2 Q (m + 1) z0 σ) (k : Int) 0 Q σ := by
          unfold wp_X9_word_B90
          exact ⟨fun _ => nxt (fun z => q z.1), fun z => absurd w32_0 z⟩
        exact ⟨fun _ => out0, fun _ => ⟨fun _ => out0, fun z => by simp at z⟩⟩
      · refine sp_mwordIn hs he hse he1 (by omega) (by omega) ht hb (fun hq => ?_) (fun hq => nxt (fun z => hq z.2))
        rw [hf, fndF_t ⟨q, hq⟩] at h
        exact h
  exact ⟨_, key _ 0 (by omega) rfl rfl⟩
