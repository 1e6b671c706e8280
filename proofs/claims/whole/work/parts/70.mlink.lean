/-! pure: the reference hangs a node under the open one -/
theorem fndF_ext (P : Nat → Prop) : ∀ (m k : Nat), fndF P (m + 1) k = @ite _ (fndF P m k ≠ -1) (Classical.propDecidable _) (fndF P m k) (@ite _ (P (k + m)) (Classical.propDecidable _) ((k + m : Nat) : Int) (-1)) := by
  intro m
  induction m with
  | zero =>
    intro k
    have e : fndF P 0 k = -1 := rfl
    rw [if_neg (fun h => h e)]
    by_cases h : P k
    · rw [fndF_t h]; exact (if_pos (show P (k + 0) from h)).symm
    · rw [fndF_f h]; exact (if_neg (show ¬ P (k + 0) from h)).symm
  | succ m ih =>
    intro k
    by_cases h : P k
    · rw [fndF_t h, fndF_t h, if_pos (by omega)]
    · rw [fndF_f h, fndF_f h, ih (k + 1), show k + 1 + m = k + (m + 1) by omega]
/-- the first part of node x, -1 where it has none -/
noncomputable def fs (p : Nat → Int) (n x : Nat) : Int := fndF (fun y => p y = (x : Int)) n 0
noncomputable def fsr (p : Nat → Int) (n t x : Nat) : Int := if fs p n x = -1 then -1 else ((12 * t + (fs p n x).toNat : Nat) : Int)
theorem fs_spec (p : Nat → Int) (n x : Nat) : (fs p n x = -1 ∧ ∀ j, j < n → p j ≠ (x : Int)) ∨ ∃ j : Nat, fs p n x = (j : Int) ∧ j < n ∧ p j = (x : Int) ∧ ∀ i, i < j → p i ≠ (x : Int) := by
  unfold fs
  rcases fndF_spec (fun y => p y = (x : Int)) n 0 with ⟨h1, h2⟩ | ⟨j, h1, h2, h3, h4, h5⟩
  · exact Or.inl ⟨h1, fun j a => h2 j (by omega) (by omega)⟩
  · exact Or.inr ⟨j, h1, by omega, h4, fun i a => h5 i (by omega) a⟩
theorem nx_c {p q : Nat → Int} {n x : Nat} (h : ∀ y, y < n → q y = p y) (hx : x < n) : nx q n x = nx p n x := by
  unfold nx
  exact fndF_congr _ _ (fun j a b => by rw [h j (by omega), h x hx])
theorem fs_c {p q : Nat → Int} {n : Nat} (h : ∀ y, y < n → q y = p y) (x : Nat) : fs q n x = fs p n x := by
  unfold fs
  exact fndF_congr _ _ (fun j a b => by rw [h j (by omega)])
theorem nx_ext {p q : Nat → Int} {n x : Nat} {o : Int} (h : ∀ y, y < n → q y = p y) (hn : q n = o) (hx : x < n) : nx q (n + 1) x = if nx p n x ≠ -1 then nx p n x else if o = p x then (n : Int) else -1 := by
  have e : nx q (n + 1) x = fndF (fun y => q y = q x) ((n - (x + 1)) + 1) (x + 1) := by unfold nx; rw [show n + 1 - (x + 1) = n - (x + 1) + 1 by omega]
  rw [e, fndF_ext, show x + 1 + (n - (x + 1)) = n by omega, show fndF (fun y => q y = q x) (n - (x + 1)) (x + 1) = nx q n x from rfl, nx_c h hx]
  simp only [hn, h x hx]
theorem fs_ext {p q : Nat → Int} {n x : Nat} {o : Int} (h : ∀ y, y < n → q y = p y) (hn : q n = o) : fs q (n + 1) x = if fs p n x ≠ -1 then fs p n x else if o = (x : Int) then (n : Int) else -1 := by
  have e : fs q (n + 1) x = fndF (fun y => q y = (x : Int)) (n + 1) 0 := rfl
  rw [e, fndF_ext, Nat.zero_add, show fndF (fun y => q y = (x : Int)) n 0 = fs q n x from rfl, fs_c h]
  simp only [hn]
theorem nxr_same {p q : Nat → Int} {n t x : Nat} {o : Int} (h : ∀ y, y < n → q y = p y) (hn : q n = o) (hx : x < n) (hc : nx p n x ≠ -1 ∨ ¬ o = p x) : nxr q (n + 1) t x = nxr p n t x := by
  have v : nx q (n + 1) x = nx p n x := by
    rw [nx_ext h hn hx]
    by_cases a : nx p n x = -1
    · rw [if_neg (fun z => z a), if_neg (hc.resolve_left (fun z => z a)), a]
    · rw [if_pos a]
  unfold nxr
  rw [v]
theorem nxr_new {p q : Nat → Int} {n t x : Nat} {o : Int} (h : ∀ y, y < n → q y = p y) (hn : q n = o) (hx : x < n) (h0 : nx p n x = -1) (he : o = p x) : nxr q (n + 1) t x = ((12 * t + n : Nat) : Int) := by
  have v : nx q (n + 1) x = (n : Int) := by rw [nx_ext h hn hx, if_neg (fun z => z h0), if_pos he]
  unfold nxr
  rw [v, if_neg (by omega), show ((n : Int)).toNat = n by omega]
theorem fsr_same {p q : Nat → Int} {n t x : Nat} {o : Int} (h : ∀ y, y < n → q y = p y) (hn : q n = o) (hc : fs p n x ≠ -1 ∨ ¬ o = (x : Int)) : fsr q (n + 1) t x = fsr p n t x := by
  have v : fs q (n + 1) x = fs p n x := by
    rw [fs_ext h hn]
    by_cases a : fs p n x = -1
    · rw [if_neg (fun z => z a), if_neg (hc.resolve_left (fun z => z a)), a]
    · rw [if_pos a]
  unfold fsr
  rw [v]
theorem fsr_new {p q : Nat → Int} {n t x : Nat} {o : Int} (h : ∀ y, y < n → q y = p y) (hn : q n = o) (h0 : fs p n x = -1) (he : o = (x : Int)) : fsr q (n + 1) t x = ((12 * t + n : Nat) : Int) := by
  have v : fs q (n + 1) x = (n : Int) := by rw [fs_ext h hn, if_neg (fun z => z h0), if_pos he]
  unfold fsr
  rw [v, if_neg (by omega), show ((n : Int)).toNat = n by omega]
theorem nx_last {p : Nat → Int} {n x : Nat} : nx p (x + 1) x = -1 := by unfold nx; rw [show x + 1 - (x + 1) = 0 by omega]; rfl
theorem sp_mlink {Q : St → Prop} {τ : St} {t n o : Nat} {p : Nat → Int} (ht : t ≤ 16) (hn : n < 12) (ho : o < n) (hpd : Pd p n) (hnx : ∀ y, y < n → τ 11 (12 * t + y) = nxr p n t y) (hfs : ∀ y, y < n → τ 12 (12 * t + y) = fsr p n t y)
    (h : ∀ τ', (∀ a k, ¬ (a = 9 ∧ k = 12 * t + o) → a ≠ 11 → a ≠ 12 → τ' a k = τ a k) → τ' 9 (12 * t + o) = τ 9 (12 * t + o) + 1 → (∀ q : Nat → Int, (∀ y, y < n → q y = p y) → q n = (o : Int) → ∀ y, y < n → τ' 11 (12 * t + y) = nxr q (n + 1) t y ∧ τ' 12 (12 * t + y) = fsr q (n + 1) t y) → (∀ k, (∀ y, y < n → k ≠ 12 * t + y) → τ' 11 k = τ 11 k ∧ τ' 12 k = τ 12 k) → Q τ') : wp_X9_link ((12 * t + n : Nat) : Int) ((12 * t + o : Nat) : Int) Q τ := by
  unfold wp_X9_link
  rw [w32_id (show -2147483648 ≤ ((12 * t + o : Nat) : Int) by omega) (by omega), show (((12 * t + o : Nat)) : Int).toNat = 12 * t + o by omega]
  refine ⟨by omega, by omega, fun τ1 e1 => ⟨by omega, ?_⟩⟩
  have f11 : ∀ y, y < n → τ1 11 (12 * t + y) = nxr p n t y := fun y hy => by rw [e1, su_ko _ _ (by omega)]; exact hnx y hy
  have f12 : ∀ y, y < n → τ1 12 (12 * t + y) = fsr p n t y := fun y hy => by rw [e1, su_ko _ _ (by omega)]; exact hfs y hy
  rw [f12 o ho]
  rcases fs_spec p n o with ⟨q1, q2⟩ | ⟨j, q1, q2, q3, q4⟩
  · have e0 : fsr p n t o = -1 := by unfold fsr; rw [if_pos q1]
    rw [e0]
    refine ⟨fun z => absurd (by decide) z, fun _ => ⟨by omega, fun τ3 e3 => ?_⟩⟩
    refine h τ3 (fun a k b c d => by rw [e3, su_ko _ _ (by omega), e1, su_ko _ _ (by omega)]) (by rw [e3, su_ko _ _ (by omega), e1, su_at]) (fun q hq hqn y hy => ⟨?_, ?_⟩) (fun k hk => ⟨by rw [e3, su_ko _ _ (by omega), e1, su_ko _ _ (by omega)], by have := hk o ho; rw [e3, su_ko _ _ (by omega), e1, su_ko _ _ (by omega)]⟩)
    · rw [e3, su_ko _ _ (by omega), f11 y hy]
      exact (nxr_same hq hqn hy (Or.inr (fun z => q2 y hy z.symm))).symm
    · by_cases e : y = o
      · subst e
        rw [e3, su_at]
        exact (fsr_new hq hqn q1 rfl).symm
      · rw [e3, su_ko _ _ (by omega), f12 y hy]
        exact (fsr_same hq hqn (Or.inr (by omega))).symm
  · have e0 : fsr p n t o = ((12 * t + j : Nat) : Int) := by unfold fsr; rw [q1, if_neg (by omega), show ((j : Int)).toNat = j by omega]
    rw [e0, w32_id (show -2147483648 ≤ ((12 * t + j : Nat) : Int) by omega) (by omega)]
    refine ⟨fun _ => ⟨by omega, fun x2 e2 => ?_⟩, fun z => by omega⟩
    rw [e2]
    have key : ∀ (m z : Nat), n - z ≤ m → z < n → p z = (o : Int) → wp_X9_link_L35 Q m ((12 * t + n : Nat) : Int) ((12 * t + z : Nat) : Int) τ1 := by
      intro m
      induction m with
      | zero => intro z hm hz hpz; omega
      | succ m ih =>
        intro z hm hz hpz
        unfold wp_X9_link_L35
        rw [w32_id (show -2147483648 ≤ ((12 * t + z : Nat) : Int) by omega) (by omega), show (((12 * t + z : Nat)) : Int).toNat = 12 * t + z by omega, f11 z hz]
        refine ⟨by omega, ?_⟩
        rcases nx_spec p n z with ⟨r1, r2⟩ | ⟨i, r1, r2, r3, r4, r5⟩
        · have ez : nxr p n t z = -1 := by unfold nxr; rw [if_pos r1]
          rw [ez]
          refine ⟨fun _ => ⟨by omega, fun τ3 e3 => ?_⟩, fun y => absurd (by decide) y⟩
          refine h τ3 (fun a k b c d => by rw [e3, su_ko _ _ (by omega), e1, su_ko _ _ (by omega)]) (by rw [e3, su_ko _ _ (by omega), e1, su_at]) (fun q hq hqn y hy => ⟨?_, ?_⟩) (fun k hk => ⟨by have := hk z hz; rw [e3, su_ko _ _ (by omega), e1, su_ko _ _ (by omega)], by rw [e3, su_ko _ _ (by omega), e1, su_ko _ _ (by omega)]⟩)
          · by_cases e : y = z
            · subst e
              rw [e3, su_at]
              exact (nxr_new hq hqn hy r1 hpz.symm).symm
            · rw [e3, su_ko _ _ (by omega), f11 y hy]
              refine (nxr_same hq hqn hy ?_).symm
              by_cases a : nx p n y = -1
              · right
                intro w
                rcases nx_spec p n y with ⟨_, s2⟩ | ⟨i2, s1, _⟩
                · rcases Nat.lt_trichotomy y z with l | l | l
                  · exact s2 z l hz (by rw [hpz, w])
                  · exact e l
                  · exact r2 y l hy (by rw [hpz, w])
                · rw [s1] at a; omega
              · exact Or.inl a
          · rw [e3, su_ko _ _ (by omega), f12 y hy]
            refine (fsr_same hq hqn ?_).symm
            by_cases a : fs p n y = -1
            · right
              intro w
              rcases fs_spec p n y with ⟨_, s2⟩ | ⟨i2, s1, _⟩
              · exact s2 z hz (by rw [hpz, w])
              · rw [s1] at a; omega
            · exact Or.inl a
        · have ez : nxr p n t z = ((12 * t + i : Nat) : Int) := by unfold nxr; rw [r1, if_neg (by omega), show ((i : Int)).toNat = i by omega]
          rw [ez, w32_id (show -2147483648 ≤ ((12 * t + i : Nat) : Int) by omega) (by omega)]
          refine ⟨fun y => by omega, fun _ => ⟨by omega, fun x5 e5 => ?_⟩⟩
          rw [e5]
          exact ih i (by omega) r3 (by rw [r4, hpz])
    exact ⟨_, key _ j (Nat.le_refl _) q2 q3⟩
