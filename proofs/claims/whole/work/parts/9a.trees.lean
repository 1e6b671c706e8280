/-! pure: a tree that was taken -/
def FT (σ : St) (t n : Nat) : Prop := σ 10 t = (n : Int) ∧ 0 < n ∧ n ≤ 12 ∧ PJ (fun x => nd σ t x 0) (fun x => nd σ t x 2) n (-1) 4 ∧ nd σ t 0 0 = 0 ∧
  (∀ x, x < n → 0 ≤ nd σ t x 1 ∧ (nd σ t x 0 = 3 → nd σ t x 1 < σ 7 3) ∧ (nd σ t x 0 ≠ 3 → nd σ t x 1 < σ 4 3) ∧ (0 ≤ nd σ t x 4 ∧ nd σ t x 4 ≤ 2) ∧ nd σ t x 3 = chc (fun y => nd σ t y 2) n (x : Int) ∧ nd σ t x 5 = nxr (fun y => nd σ t y 2) n t x ∧ nd σ t x 6 = bI (HF (fun y => nd σ t y 0) (fun y => nd σ t y 2) n x) ∧ nd σ t x 7 = bI (FO (fun y => nd σ t y 0) (fun y => nd σ t y 2) n x)) ∧
  (∀ x y, x < n → y < n → nd σ t x 0 = 2 → nd σ t y 0 = 2 → x = y) ∧ (∃ x, x < n ∧ nd σ t x 0 = 3)
def FR (σ τ : St) (t n : Nat) : Prop := τ 17 t = (n : Int) ∧ ∀ x, x < n → τ 6 (12 * t + x) = nd σ t x 0 ∧ τ 7 (12 * t + x) = nd σ t x 1 ∧ τ 8 (12 * t + x) = nd σ t x 2 ∧ τ 9 (12 * t + x) = nd σ t x 3 ∧ τ 10 (12 * t + x) = nd σ t x 4 ∧ τ 11 (12 * t + x) = nd σ t x 5 ∧ τ 12 (12 * t + x) = fsr (fun y => nd σ t y 2) n t x ∧ τ 13 (12 * t + x) = nd σ t x 6 ∧ τ 14 (12 * t + x) = bI (HF (kwd (fun y => nd σ t y 0)) (fun y => nd σ t y 2) n x) ∧ τ 15 (12 * t + x) = nd σ t x 7 ∧ τ 16 (12 * t + x) = bI (FO (kwd (fun y => nd σ t y 0)) (fun y => nd σ t y 2) n x)
theorem PJ_kid {kd p : Nat → Int} {n x : Nat} (h : PJ kd p n (-1) 4) (hx : x < n) (k0 : kd x = 0) : x + 1 < n ∧ p (x + 1) = (x : Int) := by
  rcases h.2.2.2.1 x hx k0 with z | z
  · exact z
  · omega
theorem PJ_fs {kd p : Nat → Int} {n x : Nat} (h : PJ kd p n (-1) 4) (hx : x < n) : (kd x = 0 → fs p n x = ((x + 1 : Nat) : Int)) ∧ (kd x ≠ 0 → fs p n x = -1) := by
  refine ⟨fun k0 => ?_, fun k0 => ?_⟩
  · obtain ⟨h1, h2⟩ := PJ_kid h hx k0
    rcases fs_spec p n x with z | ⟨j, z1, z2, z3, z4⟩
    · exact absurd h2 (z.2 (x + 1) h1)
    · have := h.1 j z2
      have : ¬ x + 1 < j := fun w => z4 (x + 1) w h2
      rw [z1]; omega
  · rcases fs_spec p n x with z | ⟨j, z1, z2, z3, z4⟩
    · exact z.1
    · have := h.2.2.2.2.1 j z2 (by omega)
      rw [z3] at this
      exact absurd this k0
theorem PJ_HF {kd kd' p : Nat → Int} {n x : Nat} (h : PJ kd p n (-1) 4) (hx : x < n) : HF kd' p n x ↔ kd' x = 2 ∨ (kd x = 0 ∧ FO kd' p n (x + 1)) := by
  rw [HF_first h.1 hx]
  have f := PJ_fs h hx
  by_cases k0 : kd x = 0
  · rw [f.1 k0]
    exact or_congr_right ⟨fun z => ⟨k0, by have := z.2; rw [show (((x + 1 : Nat) : Int)).toNat = x + 1 by omega] at this; exact this⟩, fun z => ⟨by omega, by rw [show (((x + 1 : Nat) : Int)).toNat = x + 1 by omega]; exact z.2⟩⟩
  · rw [f.2 k0]
    exact or_congr_right ⟨fun z => absurd rfl z.1, fun z => absurd z.1 k0⟩
theorem itp_dec {p : Nat → Int} {n y : Nat} (hp : Pd p n) (hy : y < n) : ∀ k, itp p (k + 1) (y : Int) ≤ p y := by
  intro k
  have py := hp y hy
  induction k with
  | zero =>
    unfold itp itp
    rw [if_neg (by omega), show ((y : Int)).toNat = y by omega]
    exact Int.le_refl _
  | succ k ih =>
    have r := itp_r hp (x := (y : Int)) (by omega) (k + 1)
    show (if itp p (k + 1) (y : Int) < 0 then -1 else p (itp p (k + 1) (y : Int)).toNat) ≤ p y
    by_cases q : itp p (k + 1) (y : Int) < 0
    · rw [if_pos q]; exact py.1
    · rw [if_neg q]
      have := hp (itp p (k + 1) (y : Int)).toNat (by omega)
      omega
/-- no later part holds the foot once more -/
theorem one_foot {kd p : Nat → Int} {n x y : Nat} (hp : Pd p n) (hu : ∀ x y, x < n → y < n → kd x = 2 → kd y = 2 → x = y) (hx : x < n) (hy : y < n) (hxy : x < y) (he : p y = p x) (h1 : HF kd p n x) (h2 : HF kd p n y) : False := by
  obtain ⟨a, f, f1, f2, f3⟩ := h1
  obtain ⟨b, f', f1', f2', f3'⟩ := h2
  have ef : f' = f := hu f' f f1' f1 f2' f2
  subst ef
  have px := hp x hx
  by_cases e : b ≤ a
  · by_cases e2 : a = b
    · subst e2; omega
    · rcases itp_add p (f' : Int) (by omega) (a - b) b with z | z
      · rw [show a - b + b = a by omega, f3, f3', show a - b = (a - b - 1) + 1 by omega] at z
        have := itp_dec hp hy (a - b - 1)
        omega
      · omega
  · rcases itp_add p (f' : Int) (by omega) (b - a) a with z | z
    · rw [show b - a + a = b by omega, f3', f3] at z
      have := itp_r hp (x := (x : Int)) (by omega) (b - a)
      omega
    · omega
def hwF (σ : St) (sz : Nat → Nat) (r : Nat) : Prop := HF (kwd (fun y => nd σ (r / 12) y 0)) (fun y => nd σ (r / 12) y 2) (sz (r / 12)) (r % 12)
def woF (σ : St) (sz : Nat → Nat) (r : Nat) : Prop := FO (kwd (fun y => nd σ (r / 12) y 0)) (fun y => nd σ (r / 12) y 2) (sz (r / 12)) (r % 12)
theorem hwF_at (σ : St) (sz : Nat → Nat) (t x : Nat) (hx : x < 12) : (hwF σ sz (12 * t + x) ↔ HF (kwd (fun y => nd σ t y 0)) (fun y => nd σ t y 2) (sz t) x) ∧ (woF σ sz (12 * t + x) ↔ FO (kwd (fun y => nd σ t y 0)) (fun y => nd σ t y 2) (sz t) x) := by
  unfold hwF woF
  rw [show (12 * t + x) / 12 = t by omega, show (12 * t + x) % 12 = x by omega]
  exact ⟨Iff.rfl, Iff.rfl⟩
theorem CF_of {σ : St} {N : Nat} {sz : Nat → Nat} (h : ∀ t, t < N → FT σ t (sz t)) (h7 : σ 7 3 ≤ 32) (h4 : σ 4 3 ≤ 16) : FC σ N sz (hwF σ sz) (woF σ sz) := by
  refine ⟨⟨fun t x ht hx => ?_, fun t ht => ?_⟩, fun t x ht hx => ?_⟩
  · obtain ⟨f1, f2, f3, f4, f5, f6, f7, f8⟩ := h t ht
    obtain ⟨a1, a2, a3, a4, a5, a6, a7, a8⟩ := f6 x hx
    have hk := f4.2.2.1 x hx
    have nxs := nx_spec (fun y => nd σ t y 2) (sz t) x
    have ha := hwF_at σ sz t x (by omega)
    have c5 : cc σ (12 * t + x) 5 = nxr (fun y => nd σ t y 2) (sz t) t x := a6
    have c6 : cc σ (12 * t + x) 6 = bI (HF (fun y => nd σ t y 0) (fun y => nd σ t y 2) (sz t) x) := a7
    have c7 : cc σ (12 * t + x) 7 = bI (FO (fun y => nd σ t y 0) (fun y => nd σ t y 2) (sz t) x) := a8
    have c0 : cc σ (12 * t + x) 0 = nd σ t x 0 := rfl
    -- the next part
    have hnx : (nx (fun y => nd σ t y 2) (sz t) x = -1 ∧ cc σ (12 * t + x) 5 = -1) ∨ ∃ x', nx (fun y => nd σ t y 2) (sz t) x = ((x' : Nat) : Int) ∧ x < x' ∧ x' < sz t ∧ nd σ t x' 2 = nd σ t x 2 ∧ cc σ (12 * t + x) 5 = ((12 * t + x' : Nat) : Int) ∧ (cc σ (12 * t + x) 5).toNat = 12 * t + x' := by
      rw [c5]
      unfold nxr
      rcases nxs with z | ⟨j, z1, z2, z3, z4, _⟩
      · left; rw [z.1, if_pos rfl]; exact ⟨rfl, rfl⟩
      · right
        refine ⟨j, z1, z2, z3, z4, ?_, ?_⟩
        · rw [z1, if_neg (by omega), show ((j : Int)).toNat = j by omega]
        · rw [z1, if_neg (by omega), show ((j : Int)).toNat = j by omega]; omega
    have hkid := PJ_kid f4 hx
    have c17 : nd σ t x 0 = 0 → cc σ (12 * t + x + 1) 7 = bI (FO (fun y => nd σ t y 0) (fun y => nd σ t y 2) (sz t) (x + 1)) := fun k0 => (f6 (x + 1) (hkid k0).1).2.2.2.2.2.2.2
    refine ⟨by rw [c0]; exact hk, by rw [c6]; exact bI_01 _, by rw [c7]; exact bI_01 _, fun k0 => (hkid k0).1, ?_, ?_, ?_, ?_, ?_, ?_, ?_⟩
    · rcases hnx with z | ⟨x', _, z2, z3, _, z4, _⟩
      · exact Or.inl z.2
      · exact Or.inr ⟨x', z2, z3, z4⟩
    · rw [c6, bI_1, PJ_HF (kd' := fun y => nd σ t y 0) f4 hx]
      refine or_congr_right ⟨fun z => ⟨z.1, by rw [c17 z.1, bI_1]; exact z.2⟩, fun z => ⟨z.1, by have := z.2; rw [c17 z.1, bI_1] at this; exact this⟩⟩
    · rw [c7, bI_1, FO_step hx, c6, bI_1]
      refine or_congr_right ?_
      rcases hnx with z | ⟨x', z1, z2, z3, z4, z5, z6⟩
      · rw [z.1, z.2]; exact ⟨fun w => absurd rfl w.1, fun w => absurd rfl w.1⟩
      · have e7 : cc σ (12 * t + x') 7 = bI (FO (fun y => nd σ t y 0) (fun y => nd σ t y 2) (sz t) x') := (f6 x' z3).2.2.2.2.2.2.2
        rw [z6, z1, show ((x' : Int)).toNat = x' by omega, e7, bI_1, z5]
        exact ⟨fun w => ⟨by omega, w.2⟩, fun w => ⟨by omega, w.2⟩⟩
    · intro q q5
      rcases hnx with z | ⟨x', z1, z2, z3, z4, z5, z6⟩
      · exact absurd z.2 q5
      · have e7 : cc σ (12 * t + x') 7 = bI (FO (fun y => nd σ t y 0) (fun y => nd σ t y 2) (sz t) x') := (f6 x' z3).2.2.2.2.2.2.2
        rw [c6, bI_1] at q
        rw [z6, e7]
        refine bI_f (fun w => ?_)
        obtain ⟨y, y1, y2, y3, y4⟩ := w
        exact one_foot f4.1 f7 hx y2 (by omega) (y3.trans z4) q y4
    · rw [ha.1, PJ_HF (kd' := kwd (fun y => nd σ t y 0)) f4 hx, c0]
      have k1 : kwd (fun y => nd σ t y 0) x = 2 ↔ nd σ t x 0 = 3 := by
        unfold kwd
        by_cases e : nd σ t x 0 = 3
        · rw [if_pos e]; exact ⟨fun _ => e, fun _ => rfl⟩
        · rw [if_neg e]; exact ⟨fun z => absurd z (by decide), fun z => absurd z e⟩
      rw [k1]
      refine or_congr_right ⟨fun z => ⟨z.1, ?_⟩, fun z => ⟨z.1, ?_⟩⟩
      · exact (hwF_at σ sz t (x + 1) (by have := (hkid z.1).1; omega)).2.mpr z.2
      · exact (hwF_at σ sz t (x + 1) (by have := (hkid z.1).1; omega)).2.mp z.2
    · rw [ha.2, FO_step hx, ha.1]
      refine or_congr_right ?_
      rcases hnx with z | ⟨x', z1, z2, z3, z4, z5, z6⟩
      · rw [z.1, z.2]; exact ⟨fun w => absurd rfl w.1, fun w => absurd rfl w.1⟩
      · rw [z6, z1, show ((x' : Int)).toNat = x' by omega, z5, (hwF_at σ sz t x' (by omega)).2]
        exact ⟨fun w => ⟨by omega, w.2⟩, fun w => ⟨by omega, w.2⟩⟩
    · have c1 : cc σ (12 * t + x) 1 = nd σ t x 1 := rfl
      rw [c0, c1]
      refine ⟨a1, ?_, fun z => by have := a3 z; omega⟩
      by_cases e : nd σ t x 0 = 3
      · have := a2 e; omega
      · have := a3 e; omega
  · obtain ⟨f1, f2, f3, f4, f5, f6, f7, f8⟩ := h t ht
    refine ⟨f2, f3, f5, ?_⟩
    have := (hwF_at σ sz t 0 (by omega)).1
    refine this.mpr ((HW_root f4.1 (fun x a b => f4.2.2.2.2.2.2.1 x a b)).mpr f8)
  · obtain ⟨f1, f2, f3, f4, f5, f6, f7, f8⟩ := h t ht
    exact (f6 x hx).2.2.2.1
theorem MC_of {σ τ : St} {N : Nat} {sz : Nat → Nat} (h : ∀ t, t < N → FT σ t (sz t)) (hr : ∀ t, t < N → FR σ τ t (sz t)) (hN : τ 0 23 = (N : Int)) : MC (cc σ) N sz (hwF σ sz) (woF σ sz) τ := by
  refine ⟨hN, fun t ht => (hr t ht).1, fun t x ht hx => ?_⟩
  obtain ⟨f1, f2, f3, f4, f5, f6, f7, f8⟩ := h t ht
  obtain ⟨b1, b2, b3, b4, b5, b6, b7, b8, b9, b10, b11⟩ := (hr t ht).2 x hx
  have ha := hwF_at σ sz t x (by omega)
  refine ⟨b1, b2, b5, b6, b8, b10, fun k0 => ?_, ?_, ?_⟩
  · rw [b7]
    unfold fsr
    rw [(PJ_fs f4 hx).1 k0, if_neg (by omega), show (((x + 1 : Nat) : Int)).toNat = x + 1 by omega]
    rfl
  · rw [b9, bI_congr ha.1]
  · rw [b11, bI_congr ha.2]
