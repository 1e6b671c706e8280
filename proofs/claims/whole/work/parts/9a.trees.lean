/-! pure: a tree that was taken -/
/-- the sums of a tree's nodes -/
def EQ (σ : St) (t n : Nat) : Prop := ∀ x, x < n → ∀ u, u < 3 → SQ (fun y => nd σ t y 0) (fun y => nd σ t y 2) (nd σ t) n x u
def FT (σ : St) (t n : Nat) : Prop := σ 10 t = (n : Int) ∧ 0 < n ∧ n ≤ 12 ∧ PJ (fun x => nd σ t x 0) (fun x => nd σ t x 2) n (-1) 4 ∧ nd σ t 0 0 = 0 ∧
  (∀ x, x < n → 0 ≤ nd σ t x 1 ∧ (nd σ t x 0 = 3 → nd σ t x 1 < σ 7 3) ∧ (nd σ t x 0 ≠ 3 → nd σ t x 1 < σ 4 3) ∧ (0 ≤ nd σ t x 4 ∧ nd σ t x 4 ≤ 2) ∧ nd σ t x 3 = chc (fun y => nd σ t y 2) n (x : Int) ∧ nd σ t x 5 = nxr (fun y => nd σ t y 2) n t x ∧ nd σ t x 6 = bI (HF (fun y => nd σ t y 0) (fun y => nd σ t y 2) n x) ∧ nd σ t x 7 = bI (FO (fun y => nd σ t y 0) (fun y => nd σ t y 2) n x)) ∧
  (∀ x y, x < n → y < n → nd σ t x 0 = 2 → nd σ t y 0 = 2 → x = y) ∧ (∃ x, x < n ∧ nd σ t x 0 = 3) ∧ EQ σ t n
def FR (σ τ : St) (t n : Nat) : Prop := τ 17 t = (n : Int) ∧ ∀ x, x < n → τ 6 (12 * t + x) = nd σ t x 0 ∧ τ 7 (12 * t + x) = nd σ t x 1 ∧ τ 8 (12 * t + x) = nd σ t x 2 ∧ τ 9 (12 * t + x) = nd σ t x 3 ∧ τ 10 (12 * t + x) = nd σ t x 4 ∧ τ 11 (12 * t + x) = nd σ t x 5 ∧ τ 12 (12 * t + x) = fsr (fun y => nd σ t y 2) n t x ∧ τ 13 (12 * t + x) = nd σ t x 6 ∧ τ 14 (12 * t + x) = bI (HF (kwd (fun y => nd σ t y 0)) (fun y => nd σ t y 2) n x) ∧ τ 15 (12 * t + x) = nd σ t x 7 ∧ τ 16 (12 * t + x) = bI (FO (kwd (fun y => nd σ t y 0)) (fun y => nd σ t y 2) n x)
theorem PJ_kid {kd p : Nat → Int} {n x : Nat} (h : PJ kd p n (-1) 4) (hx : x < n) (k0 : kd x = 0) : x + 1 < n ∧ p (x + 1) = (x : Int) := by
  rcases h.2.2.2.1 x hx k0 with z | z
  · exact z
  · omega
theorem PJ_fs {kd p : Nat → Int} {n x : Nat} (h : PJ kd p n (-1) 4) (hx : x < n) : (kd x = 0 → fs p n x = ((x + 1 : Nat) : Int)) ∧ (kd x ≠ 0 → fs p n x = -1) := by
  refine ⟨fun k0 => ?_, fun k0 => ?_⟩
  · obtain ⟨h1, h2⟩ := PJ_kid h hx k0
    rcases fs_spec p n x with z | ⟨j, z1, z2, z3, z4⟩
    · exact absurd h2 (z.2 (x + 1) h1)
    · have := h.1 j z2
      have : ¬ x + 1 < j := fun w => z4 (x + 1) w h2
      rw [z1]; omega
  · rcases fs_spec p n x with z | ⟨j, z1, z2, z3, z4⟩
    · exact z.1
    · have := h.2.2.2.2.1 j z2 (by omega)
      rw [z3] at this
      exact absurd this k0
theorem PJ_HF {kd kd' p : Nat → Int} {n x : Nat} (h : PJ kd p n (-1) 4) (hx : x < n) : HF kd' p n x ↔ kd' x = 2 ∨ (kd x = 0 ∧ FO kd' p n (x + 1)) := by
  rw [HF_first h.1 hx]
  have f := PJ_fs h hx
  by_cases k0 : kd x = 0
  · rw [f.1 k0]
    exact or_congr_right ⟨fun z => ⟨k0, by have := z.2; rw [show (((x + 1 : Nat) : Int)).toNat = x + 1 by omega] at this; exact this⟩, fun z => ⟨by omega, by rw [show (((x + 1 : Nat) : Int)).toNat = x + 1 by omega]; exact z.2⟩⟩
  · rw [f.2 k0]
    exact or_congr_right ⟨fun z => absurd rfl z.1, fun z => absurd z.1 k0⟩
theorem itp_dec {p : Nat → Int} {n y : Nat} (hp : Pd p n) (hy : y < n) : ∀ k, itp p (k + 1) (y : Int) ≤ p y := by
  intro k
  have py := hp y hy
  induction k with
  | zero =>
    unfold itp itp
    rw [if_neg (by omega), show ((y : Int)).toNat = y by omega]
    exact Int.le_refl _
  | succ k ih =>
    have r := itp_r hp (x := (y : Int)) (by omega) (k + 1)
    show (if itp p (k + 1) (y : Int) < 0 then -1 else p (itp p (k + 1) (y : Int)).toNat) ≤ p y
    by_cases q : itp p (k + 1) (y : Int) < 0
    · rw [if_pos q]; exact py.1
    · rw [if_neg q]
      have := hp (itp p (k + 1) (y : Int)).toNat (by omega)
      omega
/-- no later part holds the foot once more -/
theorem one_foot {kd p : Nat → Int} {n x y : Nat} (hp : Pd p n) (hu : ∀ x y, x < n → y < n → kd x = 2 → kd y = 2 → x = y) (hx : x < n) (hy : y < n) (hxy : x < y) (he : p y = p x) (h1 : HF kd p n x) (h2 : HF kd p n y) : False := by
  obtain ⟨a, f, f1, f2, f3⟩ := h1
  obtain ⟨b, f', f1', f2', f3'⟩ := h2
  have ef : f' = f := hu f' f f1' f1 f2' f2
  subst ef
  have px := hp x hx
  by_cases e : b ≤ a
  · by_cases e2 : a = b
    · subst e2; omega
    · rcases itp_add p (f' : Int) (by omega) (a - b) b with z | z
      · rw [show a - b + b = a by omega, f3, f3', show a - b = (a - b - 1) + 1 by omega] at z
        have := itp_dec hp hy (a - b - 1)
        omega
      · omega
  · rcases itp_add p (f' : Int) (by omega) (b - a) a with z | z
    · rw [show b - a + a = b by omega, f3', f3] at z
      have := itp_r hp (x := (x : Int)) (by omega) (b - a)
      omega
    · omega
/-- powers of two, for bounds -/
def pw : Nat → Int
  | 0 => 1
  | m + 1 => 2 * pw m
theorem pw_1 : ∀ m, 1 ≤ pw m := by
  intro m
  induction m with
  | zero => exact Int.le_refl 1
  | succ m ih => show 1 ≤ 2 * pw m; omega
theorem pw_m : ∀ {a b : Nat}, a ≤ b → pw a ≤ pw b := by
  intro a b h
  induction b with
  | zero => rw [show a = 0 by omega]; exact Int.le_refl _
  | succ b ih =>
    by_cases e : a = b + 1
    · rw [e]; exact Int.le_refl _
    · have := ih (by omega)
      have := pw_1 b
      show pw a ≤ 2 * pw b
      omega
theorem pw_12 : pw 12 = 4096 := by decide
theorem lfv_v : (lfv 1 0 = 0 ∧ lfv 1 1 = 1 ∧ lfv 1 2 = 0) ∧ (lfv 2 0 = 1 ∧ lfv 2 1 = 0 ∧ lfv 2 2 = 0) ∧ (lfv 3 0 = 0 ∧ lfv 3 1 = 1 ∧ lfv 3 2 = 1) := by decide
theorem lfv_r {k : Int} (h : 0 ≤ k ∧ k ≤ 3) (h0 : k ≠ 0) {u : Nat} (hu : u < 3) : 0 ≤ lfv k u ∧ lfv k u ≤ 1 := by
  have v := lfv_v
  rcases (show k = 1 ∨ k = 2 ∨ k = 3 by omega) with e | e | e <;> rcases (show u = 0 ∨ u = 1 ∨ u = 2 by omega) with d | d | d <;> subst e <;> subst d <;> omega
/-- what the sums are, in numbers -/
theorem SQ_all {kd p : Nat → Int} {n : Nat} {f : Nat → Nat → Int} (h : PJ kd p n (-1) 4) (hq : ∀ x, x < n → ∀ u, u < 3 → SQ kd p f n x u) : ∀ (m x : Nat), n - x ≤ m → x < n →
    (∀ u, u < 3 → 0 ≤ f x (wA u) ∧ f x (wA u) ≤ pw (n - x - 1) ∧ 0 ≤ f x (wO u) ∧ f x (wO u) ≤ pw (n - x)) ∧ (1 ≤ f x (wA 0) + f x (wA 1) ∧ 1 ≤ f x (wO 0) + f x (wO 1)) ∧ (f x (wA 2) ≤ f x (wA 1) ∧ f x (wO 2) ≤ f x (wO 1)) := by
  intro m
  induction m with
  | zero => intro x h1 h2; omega
  | succ m ih =>
    intro x h1 h2
    have kr := h.2.2.1 x h2
    have v := lfv_v
    -- the node alone
    have A : (∀ u, u < 3 → 0 ≤ f x (wA u) ∧ f x (wA u) ≤ pw (n - x - 1)) ∧ 1 ≤ f x (wA 0) + f x (wA 1) ∧ f x (wA 2) ≤ f x (wA 1) := by
      by_cases k0 : kd x = 0
      · have hk := PJ_kid h h2 k0
        have i1 := ih (x + 1) (by omega) hk.1
        have e : ∀ u, u < 3 → f x (wA u) = f (x + 1) (wO u) := fun u hu => by rw [(hq x h2 u hu).1, if_pos k0]
        refine ⟨fun u hu => ?_, ?_, ?_⟩
        · rw [e u hu]
          have := i1.1 u hu
          rw [show n - (x + 1) = n - x - 1 by omega] at this
          exact ⟨this.2.2.1, this.2.2.2⟩
        · rw [e 0 (by omega), e 1 (by omega)]; exact i1.2.1.2
        · rw [e 2 (by omega), e 1 (by omega)]; exact i1.2.2.2
      · have e : ∀ u, u < 3 → f x (wA u) = lfv (kd x) u := fun u hu => by rw [(hq x h2 u hu).1, if_neg k0]
        refine ⟨fun u hu => ?_, ?_, ?_⟩
        · rw [e u hu]
          have := lfv_r kr k0 hu
          have := pw_1 (n - x - 1)
          omega
        · rw [e 0 (by omega), e 1 (by omega)]
          rcases (show kd x = 1 ∨ kd x = 2 ∨ kd x = 3 by omega) with z | z | z <;> rw [z] <;> omega
        · rw [e 2 (by omega), e 1 (by omega)]
          rcases (show kd x = 1 ∨ kd x = 2 ∨ kd x = 3 by omega) with z | z | z <;> rw [z] <;> omega
    have pp : pw (n - x) = 2 * pw (n - x - 1) := by
      have e : n - x = (n - x - 1) + 1 := by omega
      have : pw ((n - x - 1) + 1) = 2 * pw (n - x - 1) := rfl
      rw [← e] at this
      exact this
    have p1 := pw_1 (n - x - 1)
    rcases nx_spec p n x with ⟨q, _⟩ | ⟨j, q1, q2, q3, _⟩
    · have e : ∀ u, u < 3 → f x (wO u) = f x (wA u) := fun u hu => by rw [(hq x h2 u hu).2, if_pos q, Int.add_zero]
      refine ⟨fun u hu => ?_, ⟨A.2.1, ?_⟩, A.2.2, ?_⟩
      · rw [e u hu]; have := A.1 u hu; omega
      · rw [e 0 (by omega), e 1 (by omega)]; exact A.2.1
      · rw [e 2 (by omega), e 1 (by omega)]; exact A.2.2
    · have e : ∀ u, u < 3 → f x (wO u) = f x (wA u) + f j (wO u) := fun u hu => by rw [(hq x h2 u hu).2, q1, if_neg (by omega), show ((j : Int)).toNat = j by omega]
      have i2 := ih j (by omega) q3
      have pj := pw_m (show n - j ≤ n - x - 1 by omega)
      refine ⟨fun u hu => ?_, ⟨A.2.1, ?_⟩, A.2.2, ?_⟩
      · rw [e u hu]
        have a1 := A.1 u hu
        have a2 := i2.1 u hu
        omega
      · rw [e 0 (by omega), e 1 (by omega)]
        have a1 := A.2.1
        have a2 := i2.2.1.2
        omega
      · rw [e 2 (by omega), e 1 (by omega)]
        have a1 := A.2.2
        have a2 := i2.2.2.2
        omega
/-- the number of WORDs tells whether there is one -/
theorem SQ_w {kd p : Nat → Int} {n : Nat} {f : Nat → Nat → Int} (h : PJ kd p n (-1) 4) (hq : ∀ x, x < n → ∀ u, u < 3 → SQ kd p f n x u) : ∀ (m x : Nat), n - x ≤ m → x < n → (HF (kwd kd) p n x ↔ f x (wA 2) ≠ 0) ∧ (FO (kwd kd) p n x ↔ f x (wO 2) ≠ 0) := by
  intro m
  induction m with
  | zero => intro x h1 h2; omega
  | succ m ih =>
    intro x h1 h2
    have kr := h.2.2.1 x h2
    have v := lfv_v
    have kw : kwd kd x = 2 ↔ kd x = 3 := by
      unfold kwd
      by_cases e : kd x = 3
      · rw [if_pos e]; exact ⟨fun _ => e, fun _ => rfl⟩
      · rw [if_neg e]; exact ⟨fun z => absurd z (by decide), fun z => absurd z e⟩
    have A : HF (kwd kd) p n x ↔ f x (wA 2) ≠ 0 := by
      rw [PJ_HF (kd' := kwd kd) h h2, kw, (hq x h2 2 (by omega)).1]
      by_cases k0 : kd x = 0
      · rw [if_pos k0, (ih (x + 1) (by omega) (PJ_kid h h2 k0).1).2]
        exact ⟨fun z => z.elim (fun w => by omega) (fun w => w.2), fun z => Or.inr ⟨k0, z⟩⟩
      · rw [if_neg k0]
        rcases (show kd x = 1 ∨ kd x = 2 ∨ kd x = 3 by omega) with z | z | z
        · rw [z]; exact ⟨fun w => by omega, fun w => by omega⟩
        · rw [z]; exact ⟨fun w => by omega, fun w => by omega⟩
        · rw [z]; exact ⟨fun _ => by omega, fun _ => Or.inl rfl⟩
    refine ⟨A, ?_⟩
    rw [FO_step h2, A, (hq x h2 2 (by omega)).2]
    have ax := (SQ_all h hq (n - x) x (Nat.le_refl _) h2).1 2 (by omega)
    rcases nx_spec p n x with ⟨q, _⟩ | ⟨j, q1, q2, q3, _⟩
    · rw [if_pos q, Int.add_zero, q]
      exact ⟨fun z => z.elim id (fun w => absurd rfl w.1), Or.inl⟩
    · have aj := (SQ_all h hq (n - j) j (Nat.le_refl _) q3).1 2 (by omega)
      rw [q1, if_neg (by omega), show ((j : Int)).toNat = j by omega, (ih j (by omega) q3).2]
      constructor
      · rintro (z | ⟨_, z⟩)
        · omega
        · omega
      · intro z
        by_cases e : f x (wA 2) = 0
        · exact Or.inr ⟨by omega, by omega⟩
        · exact Or.inl e
/-- the number of feet is that of the one foot -/
theorem SQ_f {kd p : Nat → Int} {n : Nat} {f : Nat → Nat → Int} (h : PJ kd p n (-1) 4) (hu : ∀ x y, x < n → y < n → kd x = 2 → kd y = 2 → x = y) (hq : ∀ x, x < n → ∀ u, u < 3 → SQ kd p f n x u) : ∀ (m x : Nat), n - x ≤ m → x < n → f x (wA 0) = bI (HF kd p n x) ∧ f x (wO 0) = bI (FO kd p n x) := by
  intro m
  induction m with
  | zero => intro x h1 h2; omega
  | succ m ih =>
    intro x h1 h2
    have kr := h.2.2.1 x h2
    have v := lfv_v
    have A : f x (wA 0) = bI (HF kd p n x) := by
      rw [(hq x h2 0 (by omega)).1]
      have hf := PJ_HF (kd' := kd) h h2
      by_cases k0 : kd x = 0
      · rw [if_pos k0, (ih (x + 1) (by omega) (PJ_kid h h2 k0).1).2]
        refine bI_congr ?_
        rw [hf]
        exact ⟨fun z => Or.inr ⟨k0, z⟩, fun z => z.elim (fun w => by omega) (fun w => w.2)⟩
      · rw [if_neg k0]
        by_cases k2 : kd x = 2
        · rw [k2, v.2.1.1]
          exact (bI_t (hf.mpr (Or.inl k2))).symm
        · have : lfv (kd x) 0 = 0 := by rcases (show kd x = 1 ∨ kd x = 3 by omega) with z | z <;> rw [z]; exact v.1.1; exact v.2.2.1
          rw [this]
          exact (bI_f (fun z => (hf.mp z).elim k2 (fun w => k0 w.1))).symm
    refine ⟨A, ?_⟩
    have fo := FO_step (kd := kd) (p := p) h2
    rw [(hq x h2 0 (by omega)).2, A]
    rcases nx_spec p n x with ⟨q, _⟩ | ⟨j, q1, q2, q3, q4, _⟩
    · rw [if_pos q, Int.add_zero]
      refine bI_congr ?_
      rw [fo, q]
      exact ⟨Or.inl, fun z => z.elim id (fun w => absurd rfl w.1)⟩
    · rw [q1, show ((j : Int)).toNat = j by omega] at fo
      rw [q1, if_neg (by omega), show ((j : Int)).toNat = j by omega, (ih j (by omega) q3).2]
      by_cases a : HF kd p n x
      · have nb : ¬ FO kd p n j := by
          rintro ⟨y, y1, y2, y3, y4⟩
          exact one_foot h.1 hu h2 y2 (by omega) (y3.trans q4) a y4
        rw [bI_t a, bI_f nb, bI_t (fo.mpr (Or.inl a))]
        rfl
      · rw [bI_f a, Int.zero_add]
        refine bI_congr ?_
        rw [fo]
        exact ⟨fun z => Or.inr ⟨by omega, z⟩, fun z => z.elim (fun w => absurd w a) (fun w => w.2)⟩
def hwF (σ : St) (sz : Nat → Nat) (r : Nat) : Prop := HF (kwd (fun y => nd σ (r / 12) y 0)) (fun y => nd σ (r / 12) y 2) (sz (r / 12)) (r % 12)
def woF (σ : St) (sz : Nat → Nat) (r : Nat) : Prop := FO (kwd (fun y => nd σ (r / 12) y 0)) (fun y => nd σ (r / 12) y 2) (sz (r / 12)) (r % 12)
theorem hwF_at (σ : St) (sz : Nat → Nat) (t x : Nat) (hx : x < 12) : (hwF σ sz (12 * t + x) ↔ HF (kwd (fun y => nd σ t y 0)) (fun y => nd σ t y 2) (sz t) x) ∧ (woF σ sz (12 * t + x) ↔ FO (kwd (fun y => nd σ t y 0)) (fun y => nd σ t y 2) (sz t) x) := by
  unfold hwF woF
  rw [show (12 * t + x) / 12 = t by omega, show (12 * t + x) % 12 = x by omega]
  exact ⟨Iff.rfl, Iff.rfl⟩
theorem CF_of {σ : St} {N : Nat} {sz : Nat → Nat} (h : ∀ t, t < N → FT σ t (sz t)) (h7 : σ 7 3 ≤ 32) (h4 : σ 4 3 ≤ 16) : FC σ N sz (hwF σ sz) (woF σ sz) := by
  refine ⟨⟨fun t x ht hx => ?_, fun t ht => ?_⟩, fun t x ht hx => ?_⟩
  · obtain ⟨f1, f2, f3, f4, f5, f6, f7, f8⟩ := h t ht
    obtain ⟨a1, a2, a3, a4, a5, a6, a7, a8⟩ := f6 x hx
    have hk := f4.2.2.1 x hx
    have nxs := nx_spec (fun y => nd σ t y 2) (sz t) x
    have ha := hwF_at σ sz t x (by omega)
    have c5 : cc σ (12 * t + x) 5 = nxr (fun y => nd σ t y 2) (sz t) t x := a6
    have c6 : cc σ (12 * t + x) 6 = bI (HF (fun y => nd σ t y 0) (fun y => nd σ t y 2) (sz t) x) := a7
    have c7 : cc σ (12 * t + x) 7 = bI (FO (fun y => nd σ t y 0) (fun y => nd σ t y 2) (sz t) x) := a8
    have c0 : cc σ (12 * t + x) 0 = nd σ t x 0 := rfl
    -- the next part
    have hnx : (nx (fun y => nd σ t y 2) (sz t) x = -1 ∧ cc σ (12 * t + x) 5 = -1) ∨ ∃ x', nx (fun y => nd σ t y 2) (sz t) x = ((x' : Nat) : Int) ∧ x < x' ∧ x' < sz t ∧ nd σ t x' 2 = nd σ t x 2 ∧ cc σ (12 * t + x) 5 = ((12 * t + x' : Nat) : Int) ∧ (cc σ (12 * t + x) 5).toNat = 12 * t + x' := by
      rw [c5]
      unfold nxr
      rcases nxs with z | ⟨j, z1, z2, z3, z4, _⟩
      · left; rw [z.1, if_pos rfl]; exact ⟨rfl, rfl⟩
      · right
        refine ⟨j, z1, z2, z3, z4, ?_, ?_⟩
        · rw [z1, if_neg (by omega), show ((j : Int)).toNat = j by omega]
        · rw [z1, if_neg (by omega), show ((j : Int)).toNat = j by omega]; omega
    have hkid := PJ_kid f4 hx
    have c17 : nd σ t x 0 = 0 → cc σ (12 * t + x + 1) 7 = bI (FO (fun y => nd σ t y 0) (fun y => nd σ t y 2) (sz t) (x + 1)) := fun k0 => (f6 (x + 1) (hkid k0).1).2.2.2.2.2.2.2
    refine ⟨by rw [c0]; exact hk, by rw [c6]; exact bI_01 _, by rw [c7]; exact bI_01 _, fun k0 => (hkid k0).1, ?_, ?_, ?_, ?_, ?_, ?_, ?_⟩
    · rcases hnx with z | ⟨x', _, z2, z3, _, z4, _⟩
      · exact Or.inl z.2
      · exact Or.inr ⟨x', z2, z3, z4⟩
    · rw [c6, bI_1, PJ_HF (kd' := fun y => nd σ t y 0) f4 hx]
      refine or_congr_right ⟨fun z => ⟨z.1, by rw [c17 z.1, bI_1]; exact z.2⟩, fun z => ⟨z.1, by have := z.2; rw [c17 z.1, bI_1] at this; exact this⟩⟩
    · rw [c7, bI_1, FO_step hx, c6, bI_1]
      refine or_congr_right ?_
      rcases hnx with z | ⟨x', z1, z2, z3, z4, z5, z6⟩
      · rw [z.1, z.2]; exact ⟨fun w => absurd rfl w.1, fun w => absurd rfl w.1⟩
      · have e7 : cc σ (12 * t + x') 7 = bI (FO (fun y => nd σ t y 0) (fun y => nd σ t y 2) (sz t) x') := (f6 x' z3).2.2.2.2.2.2.2
        rw [z6, z1, show ((x' : Int)).toNat = x' by omega, e7, bI_1, z5]
        exact ⟨fun w => ⟨by omega, w.2⟩, fun w => ⟨by omega, w.2⟩⟩
    · intro q q5
      rcases hnx with z | ⟨x', z1, z2, z3, z4, z5, z6⟩
      · exact absurd z.2 q5
      · have e7 : cc σ (12 * t + x') 7 = bI (FO (fun y => nd σ t y 0) (fun y => nd σ t y 2) (sz t) x') := (f6 x' z3).2.2.2.2.2.2.2
        rw [c6, bI_1] at q
        rw [z6, e7]
        refine bI_f (fun w => ?_)
        obtain ⟨y, y1, y2, y3, y4⟩ := w
        exact one_foot f4.1 f7 hx y2 (by omega) (y3.trans z4) q y4
    · rw [ha.1, PJ_HF (kd' := kwd (fun y => nd σ t y 0)) f4 hx, c0]
      have k1 : kwd (fun y => nd σ t y 0) x = 2 ↔ nd σ t x 0 = 3 := by
        unfold kwd
        by_cases e : nd σ t x 0 = 3
        · rw [if_pos e]; exact ⟨fun _ => e, fun _ => rfl⟩
        · rw [if_neg e]; exact ⟨fun z => absurd z (by decide), fun z => absurd z e⟩
      rw [k1]
      refine or_congr_right ⟨fun z => ⟨z.1, ?_⟩, fun z => ⟨z.1, ?_⟩⟩
      · exact (hwF_at σ sz t (x + 1) (by have := (hkid z.1).1; omega)).2.mpr z.2
      · exact (hwF_at σ sz t (x + 1) (by have := (hkid z.1).1; omega)).2.mp z.2
    · rw [ha.2, FO_step hx, ha.1]
      refine or_congr_right ?_
      rcases hnx with z | ⟨x', z1, z2, z3, z4, z5, z6⟩
      · rw [z.1, z.2]; exact ⟨fun w => absurd rfl w.1, fun w => absurd rfl w.1⟩
      · rw [z6, z1, show ((x' : Int)).toNat = x' by omega, z5, (hwF_at σ sz t x' (by omega)).2]
        exact ⟨fun w => ⟨by omega, w.2⟩, fun w => ⟨by omega, w.2⟩⟩
    · have c1 : cc σ (12 * t + x) 1 = nd σ t x 1 := rfl
      rw [c0, c1]
      refine ⟨a1, ?_, fun z => by have := a3 z; omega⟩
      by_cases e : nd σ t x 0 = 3
      · have := a2 e; omega
      · have := a3 e; omega
  · obtain ⟨f1, f2, f3, f4, f5, f6, f7, f8⟩ := h t ht
    refine ⟨f2, f3, f5, ?_⟩
    have := (hwF_at σ sz t 0 (by omega)).1
    refine this.mpr ((HW_root f4.1 (fun x a b => f4.2.2.2.2.2.2.1 x a b)).mpr f8.1)
  · obtain ⟨f1, f2, f3, f4, f5, f6, f7, f8⟩ := h t ht
    exact (f6 x hx).2.2.2.1
theorem CL_of {σ : St} {N : Nat} {sz : Nat → Nat} (h : ∀ t, t < N → FT σ t (sz t)) : CL (cc σ) N sz (hwF σ sz) (woF σ sz) := by
  intro t x ht hx
  obtain ⟨f1, f2, f3, f4, f5, f6, f7, f8, f9⟩ := h t ht
  have ha := hwF_at σ sz t x (by omega)
  have al := SQ_all f4 f9 (sz t - x) x (Nat.le_refl _) hx
  have wl := SQ_w f4 f9 (sz t - x) x (Nat.le_refl _) hx
  have b1 := pw_m (show sz t - x - 1 ≤ 12 by omega)
  have b2 := pw_m (show sz t - x ≤ 12 by omega)
  rw [pw_12] at b1 b2
  have l1 := al.1 1 (by omega)
  have l2 := al.1 2 (by omega)
  have v := lfv_v
  have hk := f4.2.2.1 x hx
  have sq := f9 x hx 1 (by omega)
  have e6 : cc σ (12 * t + x) 6 = nd σ t x (wA 0) := rfl
  have e7 : cc σ (12 * t + x) 7 = nd σ t x (wO 0) := rfl
  have e9 : cc σ (12 * t + x) 9 = nd σ t x (wA 1) := rfl
  have e10 : cc σ (12 * t + x) 10 = nd σ t x (wO 1) := rfl
  have e8 : cc σ (12 * t + x) 8 = nd σ t x (wA 2) := rfl
  have e11 : cc σ (12 * t + x) 11 = nd σ t x (wO 2) := rfl
  have e0 : cc σ (12 * t + x) 0 = nd σ t x 0 := rfl
  have c5 : cc σ (12 * t + x) 5 = nxr (fun y => nd σ t y 2) (sz t) t x := (f6 x hx).2.2.2.2.2.1
  rw [e6, e7, e8, e9, e10, e11, e0]
  refine ⟨by omega, by omega, by omega, by omega, ⟨fun z => ?_, fun z => ?_, fun z => ?_, fun z => ?_⟩, ?_, fun z => ?_, fun z => ?_, ?_, ?_, fun z => ?_⟩
  · rw [sq.1]
    show (if nd σ t x 0 = 0 then _ else lfv (nd σ t x 0) 1) = 1
    rw [if_neg (by omega), z]; exact v.2.2.2.1
  · rw [sq.1]
    show (if nd σ t x 0 = 0 then _ else lfv (nd σ t x 0) 1) = 0
    rw [if_neg (by omega), z]; exact v.2.1.2.1
  · rw [sq.1]
    show (if nd σ t x 0 = 0 then _ else lfv (nd σ t x 0) 1) = 1
    rw [if_neg (by omega), z]; exact v.1.2.1
  · rw [sq.1]
    show (if nd σ t x 0 = 0 then nd σ t (x + 1) (wO 1) else _) = _
    rw [if_pos z]; rfl
  · rw [sq.2, c5]
    unfold nxr
    by_cases q : nx (fun y => nd σ t y 2) (sz t) x = -1
    · rw [if_pos q, if_pos q, if_pos rfl]
    · rw [if_neg q, if_neg q]
      rw [if_neg (show ¬ ((12 * t + (nx (fun y => nd σ t y 2) (sz t) x).toNat : Nat) : Int) = -1 by omega), show (((12 * t + (nx (fun y => nd σ t y 2) (sz t) x).toNat : Nat) : Int)).toNat = 12 * t + (nx (fun y => nd σ t y 2) (sz t) x).toNat by omega]
      rfl
  · have := al.2.1.1; omega
  · have := al.2.1.2; omega
  · exact ha.1.trans wl.1
  · exact ha.2.trans wl.2
  · have := (ha.1.trans wl.1).mp z
    have := al.2.2.1
    omega
theorem MC_of {σ τ : St} {N : Nat} {sz : Nat → Nat} (h : ∀ t, t < N → FT σ t (sz t)) (hr : ∀ t, t < N → FR σ τ t (sz t)) (hN : τ 0 23 = (N : Int)) : MC (cc σ) N sz (hwF σ sz) (woF σ sz) τ := by
  refine ⟨hN, fun t ht => (hr t ht).1, fun t x ht hx => ?_⟩
  obtain ⟨f1, f2, f3, f4, f5, f6, f7, f8⟩ := h t ht
  obtain ⟨b1, b2, b3, b4, b5, b6, b7, b8, b9, b10, b11⟩ := (hr t ht).2 x hx
  have ha := hwF_at σ sz t x (by omega)
  refine ⟨b1, b2, b5, b6, b8, b10, fun k0 => ?_, ?_, ?_⟩
  · rw [b7]
    unfold fsr
    rw [(PJ_fs f4 hx).1 k0, if_neg (by omega), show (((x + 1 : Nat) : Int)).toNat = x + 1 by omega]
    rfl
  · rw [b9, bI_congr ha.1]
  · rw [b11, bI_congr ha.2]
