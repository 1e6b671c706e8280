/-! states as numbers, worlds by shape -/
abbrev St : Type := Nat → Nat → Int
def su (σ : St) (o k : Nat) (v : Int) : St := fun a b => if a = o then (if b = k then v else σ a b) else σ a b
def w32 (z : Int) : Int := (z + 2147483648) % 4294967296 - 2147483648
def w64 (z : Int) : Int := (z + 9223372036854775808) % 18446744073709551616 - 9223372036854775808
abbrev vI (z : Int) : Value := .int (Int32.ofInt z)
abbrev vL (z : Int) : Value := .long (Int64.ofInt z)
theorem w32_toInt (z : Int) : (Int32.ofInt z).toInt = w32 z := by
  rw [Int32.toInt_ofInt]
  unfold w32 Int.bmod
  simp only [Int32.size]
  split <;> omega
theorem w64_toInt (z : Int) : (Int64.ofInt z).toInt = w64 z := by
  rw [Int64.toInt_ofInt]
  unfold w64 Int.bmod
  simp only [Int64.size]
  split <;> omega
theorem w32_id {z : Int} (h1 : -2147483648 ≤ z) (h2 : z < 2147483648) : w32 z = z := by unfold w32; omega
theorem w64_id {z : Int} (h1 : -9223372036854775808 ≤ z) (h2 : z < 9223372036854775808) : w64 z = z := by unfold w64; omega
theorem w32_lo (z : Int) : -2147483648 ≤ w32 z := by unfold w32; omega
theorem w32_hi (z : Int) : w32 z < 2147483648 := by unfold w32; omega
theorem ofInt_w32 (z : Int) : Int32.ofInt (w32 z) = Int32.ofInt z := by
  rw [← w32_toInt, Int32.ofInt_toInt]
theorem i32_lt (x y : Int) : (Int32.ofInt x < Int32.ofInt y) ↔ w32 x < w32 y := by rw [Int32.lt_iff_toInt_lt, w32_toInt, w32_toInt]
theorem i32_le (x y : Int) : (Int32.ofInt x ≤ Int32.ofInt y) ↔ w32 x ≤ w32 y := by rw [Int32.le_iff_toInt_le, w32_toInt, w32_toInt]
theorem i32_eq (x y : Int) : (Int32.ofInt x = Int32.ofInt y) ↔ w32 x = w32 y := by rw [← Int32.toInt_inj, w32_toInt, w32_toInt]
theorem i32_0 : (0 : Int32) = Int32.ofInt 0 := by decide
theorem w32_0 : w32 0 = 0 := by decide
theorem i32_lt0 (x : Int) : (Int32.ofInt x < 0) ↔ w32 x < 0 := by rw [i32_0, i32_lt, w32_0]
theorem i32_le0 (x : Int) : (Int32.ofInt x ≤ 0) ↔ w32 x ≤ 0 := by rw [i32_0, i32_le, w32_0]
theorem i32_0lt (x : Int) : (0 < Int32.ofInt x) ↔ 0 < w32 x := by rw [i32_0, i32_lt, w32_0]
theorem i32_0le (x : Int) : (0 ≤ Int32.ofInt x) ↔ 0 ≤ w32 x := by rw [i32_0, i32_le, w32_0]
theorem i32_eq0 (x : Int) : (Int32.ofInt x = 0) ↔ w32 x = 0 := by rw [i32_0, i32_eq, w32_0]
theorem i32_in {x : Int} {n : Nat} (h : 0 ≤ w32 x ∧ w32 x < n) : vp_in (Int32.ofInt x) n := by rw [vp_in_iff, w32_toInt]; exact h
theorem i32_cl (x : Int) : (Int32.ofInt x).toNatClampNeg = (w32 x).toNat := by
  rw [← w32_toInt]; rfl
-- operations without a form of their own
def iDiv (x y : Int) : Int := (Int32.ofInt x / Int32.ofInt y).toInt
def iRem (x y : Int) : Int := (Int32.ofInt x - Int32.ofInt x / Int32.ofInt y * Int32.ofInt y).toInt
def iAnd (x y : Int) : Int := (Int32.ofInt x &&& Int32.ofInt y).toInt
def iShr (x y : Int) : Int := (Int32.ofInt x >>> (Int32.ofInt y &&& 31)).toInt
def iUshr (x y : Int) : Int := ((Int32.ofInt x).toUInt32 >>> ((Int32.ofInt y).toUInt32 &&& Int32.toUInt32 31)).toInt32.toInt
def iByte (x : Int) : Int := (Int32.ofInt x).toInt8.toInt32.toInt
def lDiv (x y : Int) : Int := (Int64.ofInt x / Int64.ofInt y).toInt
def lRem (x y : Int) : Int := (Int64.ofInt x - Int64.ofInt x / Int64.ofInt y * Int64.ofInt y).toInt
def lCmp (x y : Int) : Int := (lg_cmp (Int64.ofInt x) (Int64.ofInt y)).toInt
def bNar (x : Int) : Int := (vp_nar .boolean (Int32.ofInt x)).toInt
def yNar (x : Int) : Int := (vp_nar .byte (Int32.ofInt x)).toInt
def iMax (x y : Int) : Int := if w32 x < w32 y then y else x
theorem i2l_eq (x : Int) : (Int32.ofInt x).toInt64 = Int64.ofInt (w32 x) := by
  apply Int64.toInt_inj.mp
  rw [Int32.toInt_toInt64, w32_toInt, w64_toInt]
  unfold w64 w32; omega
theorem l2i_eq (x : Int) : (Int64.ofInt x).toInt32 = Int32.ofInt x := by
  apply Int32.toInt_inj.mp
  rw [Int64.toInt_toInt32, w32_toInt, w64_toInt]
  unfold w64 w32 Int.bmod
  simp only []
  split <;> omega
/-- a cell's shape: 0 an object (its class, its fields), 1 an int array (its length), 2 bytes, 3 booleans, 4 longs; a field: 0 int, 1 long, 2 a reference to a cell -/
abbrev Sh : Type := Nat × Nat × List (Nat × Nat)
def fv (ad : Nat → Nat) (g : Nat → Int) (k : Nat) (d : Nat × Nat) : Value := match d.1 with
  | 0 => .int (Int32.ofInt (g k))
  | 1 => .long (Int64.ofInt (g k))
  | _ => .ref (ad d.2)
def fvs (ad : Nat → Nat) (g : Nat → Int) : Nat → List (Nat × Nat) → List Value
  | _, [] => []
  | k, d :: t => fv ad g k d :: fvs ad g (k + 1) t
def cellE (cA : Nat → ClassId) (ad : Nat → Nat) (g : Nat → Int) (q : Sh) : va_E := match q.1 with
  | 0 => .inr (q.2.1, fvs ad g 0 q.2.2)
  | 4 => .inl (cA 4, q.2.1, .inr (.inl (fun k => Int64.ofInt (g k))))
  | t => .inl (cA t, q.2.1, .inl (fun k => Int32.ofInt (g k)))
def wl (cA : Nat → ClassId) (ad : Nat → Nat) (σ : St) : Nat → List Sh → va_W
  | _, [] => []
  | j, q :: t => (ad j, cellE cA ad (σ j) q) :: wl cA ad σ (j + 1) t
theorem fvs_get (ad : Nat → Nat) (g : Nat → Int) (fl : List (Nat × Nat)) : ∀ j k : Nat, (fvs ad g j fl)[k]? = (fl[k]?).map (fun d => fv ad g (j + k) d) := by
  induction fl with
  | nil => intro j k; simp [fvs]
  | cons d t ih =>
    intro j k
    cases k with
    | zero => simp [fvs]
    | succ k => simp only [fvs, List.getElem?_cons_succ]; rw [ih (j + 1) k, show j + 1 + k = j + (k + 1) by omega]
theorem fvs_len (ad : Nat → Nat) (g : Nat → Int) (fl : List (Nat × Nat)) : ∀ j : Nat, (fvs ad g j fl).length = fl.length := by
  induction fl with
  | nil => intro j; rfl
  | cons d t ih => intro j; simp [fvs, ih]
theorem wl_get (cA : Nat → ClassId) (ad : Nat → Nat) (σ : St) (sh : List Sh) : ∀ j o : Nat, (wl cA ad σ j sh)[o]? = (sh[o]?).map (fun q => (ad (j + o), cellE cA ad (σ (j + o)) q)) := by
  induction sh with
  | nil => intro j k; simp [wl]
  | cons d t ih =>
    intro j k
    cases k with
    | zero => simp [wl]
    | succ k => simp only [wl, List.getElem?_cons_succ]; rw [ih (j + 1) k, show j + 1 + k = j + (k + 1) by omega]
theorem wl_at {cA : Nat → ClassId} {ad : Nat → Nat} {σ : St} {sh : List Sh} {o : Nat} {q : Sh} (h : sh[o]? = some q) : (wl cA ad σ 0 sh)[o]? = some (ad o, cellE cA ad (σ o) q) := by
  rw [wl_get, h]; simp
theorem su_same (σ : St) (o k : Nat) (v : Int) : su σ o k v o = fun b => if b = k then v else σ o b := by
  funext b; simp [su]
theorem su_other (σ : St) {o a : Nat} (k : Nat) (v : Int) (h : a ≠ o) : su σ o k v a = σ a := by
  funext b; simp [su, h]
theorem fvs_su (ad : Nat → Nat) (g : Nat → Int) (k : Nat) (z : Int) (v : Value) (fl : List (Nat × Nat)) {d : Nat × Nat} (hd : fl[k]? = some d) (hv : fv ad (fun b => if b = k then z else g b) k d = v) : (fvs ad g 0 fl).set k v = fvs ad (fun b => if b = k then z else g b) 0 fl := by
  apply List.ext_getElem?
  intro i
  rw [List.getElem?_set, fvs_get, fvs_get, fvs_len]
  by_cases h : k = i
  · subst h
    have hk : k < fl.length := (List.getElem?_eq_some_iff.mp hd).1
    rw [if_pos rfl, if_pos hk, hd]
    simp only [Option.map_some, Nat.zero_add, hv]
  · rw [if_neg h]
    cases hq : fl[i]? with
    | none => rfl
    | some d' =>
      simp only [Option.map_some, Nat.zero_add]
      congr 1
      unfold fv
      have : ¬ i = k := fun e => h e.symm
      simp [this]
theorem wl_set {cA : Nat → ClassId} {ad : Nat → Nat} {σ : St} {sh : List Sh} {o k : Nat} {z : Int} {q : Sh} {x : va_E} (h : sh[o]? = some q) (hx : cellE cA ad (fun b => if b = k then z else σ o b) q = x) : (wl cA ad σ 0 sh).set o (ad o, x) = wl cA ad (su σ o k z) 0 sh := by
  apply List.ext_getElem?
  intro i
  rw [List.getElem?_set, wl_get, wl_get]
  by_cases hi : o = i
  · subst hi
    have hl : o < (wl cA ad σ 0 sh).length := (List.getElem?_eq_some_iff.mp (wl_at h)).1
    simp [h, hl, su_same, hx]
  · rw [if_neg hi]
    cases hq : sh[i]? with
    | none => rfl
    | some d' => simp only [Option.map_some, Nat.zero_add]; rw [su_other σ k z (fun e => hi e.symm)]
theorem wl_setG {cA : Nat → ClassId} {ad : Nat → Nat} {σ σ' : St} {sh : List Sh} {o : Nat} {q : Sh} {x : va_E} (h : sh[o]? = some q) (ho : ∀ a, a ≠ o → σ' a = σ a) (hx : cellE cA ad (σ' o) q = x) : (wl cA ad σ 0 sh).set o (ad o, x) = wl cA ad σ' 0 sh := by
  apply List.ext_getElem?
  intro i
  rw [List.getElem?_set, wl_get, wl_get]
  by_cases hi : o = i
  · subst hi
    have hl : o < (wl cA ad σ 0 sh).length := (List.getElem?_eq_some_iff.mp (wl_at h)).1
    simp [h, hl, hx]
  · rw [if_neg hi]
    cases hq : sh[i]? with
    | none => rfl
    | some d' => simp only [Option.map_some, Nat.zero_add]; rw [ho i (fun e => hi e.symm)]
/-- what an array's part that is copied leaves -/
def sc (σ : St) (o o1 sp dp n : Nat) : St := fun a b => if a = o1 then (if dp ≤ b ∧ b < dp + n then σ o (sp + (b - dp)) else σ a b) else σ a b
/-- the words of every method: the good ones of the tables -/
def TBL : List Cond := lw_tbl.filter goodWord
theorem tbl_good : ∀ w ∈ TBL, goodWord w = true := fun _ h => (List.mem_filter.mp h).2
theorem tbl_lw : ∀ w ∈ TBL, w ∈ lw_tbl := fun _ h => (List.mem_filter.mp h).1
theorem gi_tbl {big ws : List Cond} (hb : ∀ w ∈ TBL, w ∈ big) (h : ∀ w ∈ ws, w ∈ TBL) : GoodIn big ws := fun w hw => ⟨hb w (h w hw), good_of_word (tbl_good w (h w hw))⟩
/-- which cells a method may change: the world's, and new ones -/
def A0 (sh : List Sh) (ad : Nat → Nat) (sz : Nat) : Nat → Prop := fun q => (∃ o, o < sh.length ∧ q = ad o) ∨ sz ≤ q
def Ap (sh : List Sh) (ad : Nat → Nat) : Prop := ∀ i j, i < sh.length → j < sh.length → ad i = ad j → i = j
theorem wl_D {cA : Nat → ClassId} {ad : Nat → Nat} {sh : List Sh} (h : Ap sh ad) (σ : St) (sz : Nat) : va_D (A0 sh ad sz) (wl cA ad σ 0 sh) := by
  have key : ∀ (k : Nat) (q : Nat × va_E), (wl cA ad σ 0 sh)[k]? = some q → k < sh.length ∧ q.1 = ad k := by
    intro k q hk
    rw [wl_get] at hk
    cases hq : sh[k]? with
    | none => rw [hq] at hk; cases hk
    | some d =>
      rw [hq] at hk
      refine ⟨(List.getElem?_eq_some_iff.mp hq).1, ?_⟩
      have := Option.some.inj hk
      rw [← this]; simp
  refine ⟨fun i j p q hp hq e => ?_, fun k q hk => ?_⟩
  · obtain ⟨a1, a2⟩ := key i p hp
    obtain ⟨b1, b2⟩ := key j q hq
    exact h i j a1 b1 (by rw [← a2, ← b2, e])
  · obtain ⟨a1, a2⟩ := key k q hk
    exact Or.inl ⟨k, a1, a2⟩
abbrev Zs : Type := List (String × String × Nat × (Nat → Int32))
def Sx (zs : Zs) (A : Nat → Prop) (U : State) (H : Heap) : Prop := ∀ q ∈ zs, ∃ b : Nat, va_Z q.1 q.2.1 "[I" (.ref b) A U H ∧ va_T .int b q.2.2.1 (fun j => .int (q.2.2.2 j)) A U H ∧ b < H.size ∧ ¬ A b
theorem Sx.moved {zs : Zs} {A : Nat → Prop} {u U : State} {H : Heap} (hvm : u.vm.Alike U.vm) (h : Sx zs A u H) : Sx zs A U H := fun q hq => by
  obtain ⟨b, h1, h2, h3⟩ := h q hq
  exact ⟨b, va_Z.moved hvm h1, va_T.moved hvm h2, h3⟩
theorem Sx.kept {zs : Zs} {A B : Nat → Prop} {U : State} {H H1 : Heap} (h : Sx zs A U H) (hs : H.size ≤ H1.size) (hq : ∀ a : Nat, a < H.size → ¬ A a → H1[a]? = H[a]?) (hB : ∀ q, B q → A q) : Sx zs B U H1 := fun q hm => by
  obtain ⟨b, h1, h2, h3, h4⟩ := h q hm
  exact ⟨b, va_Z.narrow (va_Z.kept h1 hq) hB, va_T.narrow (va_T.kept h2 hq) hB, Nat.lt_of_lt_of_le h3 hs, fun x => h4 (hB b x)⟩
def tyz (cA : Nat → ClassId) : List (ClassId × FieldType) := [(cA 1, .int), (cA 2, .byte), (cA 3, .boolean), (cA 4, .long)]
/-- the world σ stands -/
def Wd (D : va_G) (cA : Nat → ClassId) (sh : List Sh) (ad : Nat → Nat) (zs : Zs) (σ : St) (U : State) : Prop := va_P D vwCl (wl cA ad σ 0 sh) U.heap ∧ va_K D vwCl (tyz cA) U ∧ Ap sh ad ∧ Sx zs (A0 sh ad U.heap.size) U U.heap
/-- contracts -/
def CtI (l : Launch) (y : MethodName) (cw : Cond) (rm : Room) (D : va_G) (cA : Nat → ClassId) (sh : List Sh) (ad : Nat → Nat) (zs : Zs) (As : List Value) (σ : St) (Q : Int → St → Prop) : Prop := ∀ sz : Nat, Met l y (cw :: TBL) rm (va_Pc As (fun U => U.heap.size = sz ∧ Wd D cA sh ad zs σ U)) (va_Qi (fun r u => ∃ z : Int, r = Int32.ofInt z ∧ Q z u) (fun u t => Wd D cA sh ad zs u t) (A0 sh ad sz)) 0 0 (A0 sh ad sz)
def CtL (l : Launch) (y : MethodName) (cw : Cond) (rm : Room) (D : va_G) (cA : Nat → ClassId) (sh : List Sh) (ad : Nat → Nat) (zs : Zs) (As : List Value) (σ : St) (Q : Int → St → Prop) : Prop := ∀ sz : Nat, Met l y (cw :: TBL) rm (va_Pc As (fun U => U.heap.size = sz ∧ Wd D cA sh ad zs σ U)) (va_Ql (fun r u => ∃ z : Int, r = Int64.ofInt z ∧ Q z u) (fun u t => Wd D cA sh ad zs u t) (A0 sh ad sz)) 0 0 (A0 sh ad sz)
def CtV (l : Launch) (y : MethodName) (cw : Cond) (rm : Room) (D : va_G) (cA : Nat → ClassId) (sh : List Sh) (ad : Nat → Nat) (zs : Zs) (As : List Value) (σ : St) (Q : St → Prop) : Prop := ∀ sz : Nat, Met l y (cw :: TBL) rm (va_Pc As (fun U => U.heap.size = sz ∧ Wd D cA sh ad zs σ U)) (va_Qv (fun u => Q u) (fun u t => Wd D cA sh ad zs u t) (A0 sh ad sz)) 0 0 (A0 sh ad sz)
