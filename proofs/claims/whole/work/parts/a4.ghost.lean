/-! pure: at most 96 nodes stand in the whole tree -/
theorem pigeon : ∀ (n : Nat) (l : List Nat), l.Nodup → (∀ a, a ∈ l → a < n) → l.length ≤ n := by
  intro n
  induction n with
  | zero =>
    intro l _ h
    cases l with
    | nil => exact Nat.le_refl 0
    | cons a l => exact absurd (h a List.mem_cons_self) (Nat.not_lt_zero a)
  | succ n ih =>
    intro l hn h
    by_cases e : n ∈ l
    · have h1 := ih (l.erase n) (hn.erase n) (fun a ha => by
        have := (hn.mem_erase_iff).mp ha
        have := h a this.2
        omega)
      have h2 := List.length_erase_of_mem e
      omega
    · have := ih l hn (fun a ha => by
        have h3 := h a ha
        have : a ≠ n := fun z => e (z ▸ ha)
        omega)
      omega
def cd (e : Wn) : Nat := 12 * e.1 + e.2.1
/-- a node of a use that waits, or was told -/
def Wt (U : Nat) (kd pp chd : Nat → Nat → Int) (szu : Nat → Nat) (P : List Wn) (e : Wn) : Prop := e.1 < U ∧ e.2.1 < szu e.1 ∧ Lk U chd szu e.1 ∧ (e.2.1 = 0 → e.1 = 0) ∧ (0 < e.2.1 → ∃ a : Wn, ∃ x : Nat, a ∈ P ∧ pp e.1 e.2.1 = (x : Int) ∧ Gv U kd chd szu a.1 a.2.1 e.1 x)
def GI (U : Nat) (kd pp chd : Nat → Nat → Int) (szu : Nat → Nat) (P W : List Wn) : Prop := ((P ++ W).map cd).Nodup ∧ ∀ e, e ∈ P ++ W → Wt U kd pp chd szu P e
theorem cd_one {e f : Wn} (h : cd e = cd f) (he : e.2.1 < 12) (hf : f.2.1 < 12) : e.1 = f.1 ∧ e.2.1 = f.2.1 := by
  unfold cd at h; omega
theorem GI_len {U : Nat} {kd pp chd : Nat → Nat → Int} {szu : Nat → Nat} {ofU atU : Nat → Int} {P W : List Wn} (hS : Shp U kd pp chd szu ofU atU) (h : GI U kd pp chd szu P W) : P.length + W.length ≤ 96 := by
  have := pigeon 96 _ h.1 (fun a ha => by
    obtain ⟨e, he, ee⟩ := List.mem_map.mp ha
    have w := h.2 e he
    have h12 := (hS.2.2.1 e.1 w.1).2.1
    have h8 := hS.2.1
    have w1 := w.1
    have w2 := w.2.1
    unfold cd at ee
    omega)
  rw [List.length_map, List.length_append] at this
  exact this
theorem KL_mem {p : Nat → Int} {u x : Nat} {S : Int} {e : Wn} : ∀ (m lo : Nat), e ∈ KL p u x S lo m → e.1 = u ∧ lo ≤ e.2.1 ∧ e.2.1 < lo + m ∧ p e.2.1 = (x : Int) := by
  intro m
  induction m with
  | zero => intro lo h; exact absurd h List.not_mem_nil
  | succ m ih =>
    intro lo h
    unfold KL at h
    split at h
    · rename_i q
      rcases List.mem_cons.mp h with z | z
      · subst z; exact ⟨rfl, Nat.le_refl _, by show lo < lo + (m + 1); omega, q⟩
      · obtain ⟨a1, a2, a3, a4⟩ := ih _ z
        exact ⟨a1, by omega, by omega, a4⟩
    · obtain ⟨a1, a2, a3, a4⟩ := ih _ h
      exact ⟨a1, by omega, by omega, a4⟩
theorem KL_nd {p : Nat → Int} {u x : Nat} {S : Int} : ∀ (m lo : Nat), ((KL p u x S lo m).map cd).Nodup := by
  intro m
  induction m with
  | zero => intro lo; exact List.nodup_nil
  | succ m ih =>
    intro lo
    unfold KL
    split
    · show (cd (u, lo, S) :: (KL p u x S (lo + 1) m).map cd).Nodup
      refine List.nodup_cons.mpr ⟨fun h => ?_, ih _⟩
      obtain ⟨e, he, ee⟩ := List.mem_map.mp h
      obtain ⟨a1, a2, a3, a4⟩ := KL_mem _ _ he
      have ee' : 12 * e.1 + e.2.1 = 12 * u + lo := ee
      rw [a1] at ee'
      omega
    · exact ih _
theorem nd_app {l1 l2 : List Nat} (h1 : l1.Nodup) (h2 : l2.Nodup) (h : ∀ a, a ∈ l1 → a ∈ l2 → False) : (l1 ++ l2).Nodup := by
  rw [List.nodup_append]
  exact ⟨h1, h2, fun a ha b hb e => h a ha (e ▸ hb)⟩
theorem GI_step {U : Nat} {kd pp chd : Nat → Nat → Int} {szu : Nat → Nat} {ofU atU : Nat → Int} {P W : List Wn} {e : Wn} {w x : Nat} {S : Int} (hS : Shp U kd pp chd szu ofU atU) (h : GI U kd pp chd szu P (e :: W)) (g : Gv U kd chd szu e.1 e.2.1 w x) (hl : Lk U chd szu w) : GI U kd pp chd szu (P ++ [e]) (KL (pp w) w x S (x + 1) (szu w - (x + 1)) ++ W) := by
  obtain ⟨hn, hw⟩ := h
  have ea : P ++ (e :: W) = (P ++ [e]) ++ W := by rw [List.append_assoc]; rfl
  rw [ea] at hn hw
  have he : Wt U kd pp chd szu P e := hw e (by simp)
  have hns := hn
  rw [List.map_append, List.nodup_append] at hn
  obtain ⟨n1, n2, n3⟩ := hn
  have neP : ∀ f, f ∈ P → cd f ≠ cd e := by
    intro f hf z
    rw [List.map_append, List.nodup_append] at n1
    exact n1.2.2 (cd f) (List.mem_map.mpr ⟨f, hf, rfl⟩) (cd e) (by simp) z
  -- a part of (w, x) is new
  have new : ∀ f, f ∈ (P ++ [e]) ++ W → ∀ k, k ∈ KL (pp w) w x S (x + 1) (szu w - (x + 1)) → cd f = cd k → False := by
    intro f hf k hk ef
    obtain ⟨a1, a2, a3, a4⟩ := KL_mem _ _ hk
    have wf := hw f hf
    have s12 := (hS.2.2.1 w g.1).2.1
    have f12 := (hS.2.2.1 f.1 wf.1).2.1
    obtain ⟨c1, c2⟩ := cd_one ef (by have := wf.2.1; omega) (by have := g.2.1; omega)
    obtain ⟨a, x', b1, b2, b3⟩ := wf.2.2.2.2 (by omega)
    have wa := hw a (by simp [b1])
    rw [c1, c2, a1, a4] at b2
    have ex : x' = x := by omega
    rw [ex, c1, a1] at b3
    obtain ⟨d1, d2⟩ := Gv_one hS he.1 he.2.1 wa.2.1 he.2.2.2.1 wa.2.2.2.1 g b3
    exact neP a b1 (by unfold cd; rw [d1, d2])
  have mono : ∀ f, Wt U kd pp chd szu P f → Wt U kd pp chd szu (P ++ [e]) f := by
    intro f hf
    refine ⟨hf.1, hf.2.1, hf.2.2.1, hf.2.2.2.1, fun z => ?_⟩
    obtain ⟨a, x', b1, b2, b3⟩ := hf.2.2.2.2 z
    exact ⟨a, x', by simp [b1], b2, b3⟩
  refine ⟨?_, fun f hf => ?_⟩
  · rw [List.map_append (l₁ := P ++ [e]), List.map_append (l₁ := KL (pp w) w x S (x + 1) (szu w - (x + 1)))]
    refine nd_app n1 (nd_app (KL_nd _ _) n2 (fun a h1 h2 => ?_)) (fun a h1 h2 => ?_)
    · obtain ⟨k, hk, ek⟩ := List.mem_map.mp h1
      obtain ⟨f, hf, ef⟩ := List.mem_map.mp h2
      exact new f (List.mem_append_right _ hf) k hk (ef.trans ek.symm)
    · obtain ⟨f, hf, ef⟩ := List.mem_map.mp h1
      rcases List.mem_append.mp h2 with z | z
      · obtain ⟨k, hk, ek⟩ := List.mem_map.mp z
        exact new f (List.mem_append_left _ hf) k hk (ef.trans ek.symm)
      · exact n3 a h1 a z rfl
  · rcases List.mem_append.mp hf with z | z
    · exact mono f (hw f (List.mem_append_left _ z))
    · rcases List.mem_append.mp z with y | y
      · obtain ⟨a1, a2, a3, a4⟩ := KL_mem _ _ y
        have g1 := g.1
        have g2 := g.2.1
        refine ⟨by rw [a1]; exact g1, by rw [a1]; omega, by rw [a1]; exact hl, fun q => by omega, fun _ => ⟨e, x, by simp, by rw [a1]; exact a4, by rw [a1]; exact g⟩⟩
      · exact mono f (hw f (List.mem_append_right _ y))
theorem GI_0 {U : Nat} {kd pp chd : Nat → Nat → Int} {szu : Nat → Nat} {ofU atU : Nat → Int} (hS : Shp U kd pp chd szu ofU atU) (S : Int) : GI U kd pp chd szu [] [(0, 0, S)] := by
  refine ⟨by simp, fun f hf => ?_⟩
  have e : f = (0, 0, S) := by simpa using hf
  subst e
  exact ⟨hS.1, (hS.2.2.1 0 hS.1).1, Lk_0, fun _ => rfl, fun z => absurd z (Nat.lt_irrefl 0)⟩
