/-! pure: the whole tree is built, in both worlds -/
def cG (σ σ' : St) : Prop := ∀ o k, ¬ (o = 26 ∧ (k = 0 ∨ k = 5)) → o ≠ 27 → o ≠ 28 → σ' o k = σ o k
def gM (τ τ' : St) : Prop := ∀ o k, ¬ (o = 0 ∧ (k = 48 ∨ k = 50)) → o ≠ 27 → o ≠ 29 → τ' o k = τ o k
def BP (c : Nat → Nat → Int) (N : Nat) (sz : Nat → Nat) (U : Nat) (tr : Nat → Nat) (ch fr to : Nat → Nat → Int) (ofU atU : Nat → Int) (τ : St) : Prop := TM c N sz τ ∧ UsM sz U tr ch fr to ofU atU τ ∧ τ 0 50 = 0 ∧ ML τ [(0, 0, -1)]
def BMd (σx τ τ' : St) (S : Nat) (W : List Wn) : Prop := gM τ τ' ∧ τ' 0 50 = (S : Int) ∧ ML τ' W ∧ ∀ k, k < 6 * S → τ' 29 k = σx 27 k
def SimG (c : Nat → Nat → Int) (N : Nat) (sz : Nat → Nat) (U : Nat) (tr : Nat → Nat) (ch fr to : Nat → Nat → Int) (ofU atU : Nat → Int) (σx : St) (S : Nat) (W : List Wn) : Prop := ∃ cost : Nat, ∀ (QM : St → Prop) (F : Nat) (τ : St), BP c N sz U tr ch fr to ofU atU τ → (∀ τ', BMd σx τ τ' S W → Lb QM F τ') → Lb QM (F + cost) τ
theorem gM_st {τ τ' : St} (h : gM τ τ') : ∀ o k, o ≠ 0 → o ≠ 27 → o ≠ 29 → τ' o k = τ o k := fun o k a1 a2 a3 => h o k (fun z => a1 z.1) a2 a3
theorem six {k S : Nat} (h : k < 6 * (S + 1)) (h' : ¬ k < 6 * S) : k = 6 * S ∨ k = 6 * S + 1 ∨ k = 6 * S + 2 ∨ k = 6 * S + 3 ∨ k = 6 * S + 4 ∨ k = 6 * S + 5 := by omega
/-- one node more, in the reference -/
theorem SimG_step {c : Nat → Nat → Int} {N : Nat} {sz : Nat → Nat} {U : Nat} {tr : Nat → Nat} {ch fr to : Nat → Nat → Int} {ofU atU : Nat → Int} {σx σ2 : St} {S w x : Nat} {e : Wn} {W : List Wn} (hN : ∀ v, v < U → tr v < N) (hS : Shp U (Kd c tr) (Pp c tr) ch (Zu sz tr) ofU atU) (hv : e.1 < U) (hy : e.2.1 < sz (tr e.1)) (hg : Gv U (Kd c tr) ch (Zu sz tr) e.1 e.2.1 w x) (hS96 : S < 96) (hW : W.length < 300) (hl : le96 (KL (pT c (tr w)) w x (S : Int) (x + 1) (sz (tr w) - (x + 1)) ++ W)) (hs : SimG c N sz U tr ch fr to ofU atU σx S (e :: W)) (k0 : σ2 27 (6 * S) = (w : Int)) (k1 : σ2 27 (6 * S + 1) = (x : Int)) (k2 : σ2 27 (6 * S + 2) = e.2.2) (k3 : σ2 27 (6 * S + 3) = fr w x) (k4 : σ2 27 (6 * S + 4) = to w x) (k5 : σ2 27 (6 * S + 5) = c (12 * tr w + x) 3) (k6 : ∀ k, k < 6 * S → σ2 27 k = σx 27 k) : SimG c N sz U tr ch fr to ofU atU σ2 (S + 1) (KL (pT c (tr w)) w x (S : Int) (x + 1) (sz (tr w) - (x + 1)) ++ W) := by
  obtain ⟨cost, hs⟩ := hs
  obtain ⟨cs, hb⟩ := sp_bstep (fr := fr) (to := to) hN hS hv hy hg
  have w8 : w < 8 := Nat.lt_of_lt_of_le hg.1 hS.2.1
  refine ⟨cs + cost, fun QM F τ hp hK => ?_⟩
  rw [← Nat.add_assoc]
  refine hs QM (F + cs) τ hp (fun τ1 m => ?_)
  obtain ⟨m1, m2, m3, m4⟩ := m
  have T1 := TM_fr hp.1 (gM_st m1)
  have U1 := UsM_fr hp.2.1 (gM_st m1)
  obtain ⟨n1, n2, n3, n4, n5, n6⟩ := m3
  refine hb QM F W e.2.2 τ1 hW T1 U1 n1 n2 n3 n4 n5 (fun τ2 f2 p48 => ?_)
  have T2 := TM_fr T1 (bF_st f2)
  have U2 := UsM_fr U1 (bF_st f2)
  have tN := hN w hg.1
  obtain ⟨s1, s2, s3, s4⟩ := U2 w hg.1
  obtain ⟨s5, s6, s7⟩ := s4 x hg.2.1
  obtain ⟨t1, t2, t3⟩ := T2.2 (tr w) tN
  refine sp_show (c := c) (sz := sz) (u := w) (t := tr w) (x := x) (S := S) (W := W) w8 s1 (Nat.lt_of_lt_of_le tN T2.1) hg.2.1 t2 t1 (fun y hy => ⟨(t3 y hy).2.1, (t3 y hy).2.2.2.1⟩) ((f2 0 50 (fun z => absurd z.2 (by decide)) (fun z => absurd z.1 (by decide))).trans m2) hS96 ⟨p48, MStk_fr W n6 (fun k hk => f2 27 k (fun z => absurd z.1 (by decide)) (fun z => absurd hk (Nat.not_lt.mpr z.2)))⟩ hl rfl rfl rfl (fun τ3 q1 q2 q3 q4 q5 q6 q7 q8 q9 => ?_)
  refine hK τ3 ⟨fun o k a1 a2 a3 => ?_, q1, q2, fun k hk => ?_⟩
  · exact ((q9 o k a1 (fun z => a3 z.1) a2).trans (f2 o k (fun z => a1 ⟨z.1, Or.inl z.2⟩) (fun z => a2 z.1))).trans (m1 o k a1 a2 a3)
  · by_cases e' : k < 6 * S
    · exact (((q9 29 k (fun z => absurd z.1 (by decide)) (fun z => absurd e' (Nat.not_lt.mpr z.2)) (by decide)).trans (f2 29 k (fun z => absurd z.1 (by decide)) (fun z => absurd z.1 (by decide)))).trans (m4 k e')).trans (k6 k e').symm
    · rcases six hk e' with z | z | z | z | z | z
      · rw [z, q3, k0]
      · rw [z, q4, k1]
      · rw [z, q5, k2]
      · rw [z, q6, k3, s6]
      · rw [z, q7, k4, s7]
      · rw [z, q8, k5, (t3 x hg.2.1).2.2.1]
theorem gwN {l S : Nat} (h : S + (l + 1) ≤ 96) : (w32 ((l + 1 : Nat) : Int) = ((l + 1 : Nat) : Int)) ∧ (¬ ((l + 1 : Nat) : Int) ≤ 0) ∧ (((l + 1 : Nat) : Int) - 1 = (l : Int)) ∧ (w32 ((l : Int) * 3) = (l : Int) * 3) ∧ (w32 ((l : Int) * 3 + 1) = (l : Int) * 3 + 1) ∧ (w32 ((l : Int) * 3 + 2) = (l : Int) * 3 + 2) ∧ (((l : Int) * 3).toNat = 3 * l) ∧ (((l : Int) * 3 + 1).toNat = 3 * l + 1) ∧ (((l : Int) * 3 + 2).toNat = 3 * l + 2) ∧ (0 ≤ (l : Int) * 3 ∧ (l : Int) * 3 < 288) ∧ (0 ≤ (l : Int) * 3 + 1 ∧ (l : Int) * 3 + 1 < 288) ∧ (0 ≤ (l : Int) * 3 + 2 ∧ (l : Int) * 3 + 2 < 288) ∧ (¬ 96 ≤ w32 (S : Int)) ∧ (S < 96) ∧ (l < 300) ∧ ((S : Int) + 1 = ((S + 1 : Nat) : Int)) := ⟨w32_id (by omega) (by omega), by omega, by omega, w32_id (by omega) (by omega), w32_id (by omega) (by omega), w32_id (by omega) (by omega), by omega, by omega, by omega, by omega, by omega, by omega, by rw [w32_id (by omega) (by omega)]; omega, by omega, by omega, by omega⟩
theorem le_of_sum {a b : Nat} (h : a + b ≤ 96) : b ≤ 96 := by omega
theorem sum_1 {a b : Nat} (h : a + (b + 1) ≤ 96) : a < 96 := by omega
theorem add_up {m a : Nat} (h : 96 - a = m + 1) : 96 - (a + 1) = m := by omega
theorem no_96 {m a : Nat} (h : 96 - a = 0) {b : Nat} (h' : a + (b + 1) ≤ 96) : False := by omega
/-- the class's loop, and the reference beside it -/
theorem sp_growL {c : Nat → Nat → Int} {N : Nat} {sz : Nat → Nat} {sd : Nat → Int} {n : Nat} {hw wo : Nat → Prop} {U : Nat} {tr : Nat → Nat} {ch fr to : Nat → Nat → Int} {ofU atU : Nat → Int} {σ : St} {Q : St → Prop} (hC : CC c N sz sd n hw wo σ) (hN : ∀ v, v < U → tr v < N) (hs : UsC sz U tr ch fr to ofU atU σ) (hS : Shp U (Kd c tr) (Pp c tr) ch (Zu sz tr) ofU atU)
    (h : ∀ (σ' : St) (S : Nat), S ≤ 96 → σ' 26 0 = (S : Int) → cG σ σ' → SimG c N sz U tr ch fr to ofU atU σ' S [] → Q σ') : ∀ (m : Nat) (σx : St) (P W : List Wn), 96 - P.length = m → cG σ σx → σx 26 0 = ((P.length : Nat) : Int) → WL σx W → GI U (Kd c tr) (Pp c tr) ch (Zu sz tr) P W → SimG c N sz U tr ch fr to ofU atU σx P.length W → wp_X7_grow_L19 Q (m + 1) ((P.length : Nat) : Int) σx := by
  intro m
  induction m with
  | zero =>
    intro σx P W g1 g2 g3 g4 g5 g6
    have gl := GI_len hS g5
    have W0 : W = [] := by
      cases W with
      | nil => rfl
      | cons e W => exact (no_96 (m := 0) g1 gl).elim
    subst W0
    have fin := h σx P.length (Nat.le_trans (Nat.le_add_right _ _) gl) g3 g2 g6
    unfold wp_X7_grow_L19
    refine ⟨fun _ => fin, fun _ => ⟨fun _ => fin, fun z => ?_⟩⟩
    rw [g4.1] at z
    exact absurd (by decide) z
  | succ m ih =>
    intro σx P W g1 g2 g3 g4 g5 g6
    have gl := GI_len hS g5
    cases W with
    | nil =>
      have fin := h σx P.length (Nat.le_trans (Nat.le_add_right _ _) gl) g3 g2 g6
      unfold wp_X7_grow_L19
      refine ⟨fun _ => fin, fun _ => ⟨fun _ => fin, fun z => ?_⟩⟩
      rw [g4.1] at z
      exact absurd (by decide) z
    | cons e W =>
      obtain ⟨n1, n2, n3, v0, v1, v2, t0, t1, t2, b0, b1, b2, n96, S96, l300, e1⟩ := gwN (l := W.length) (S := P.length) gl
      have we := g5.2 e (by simp)
      obtain ⟨w, x, hg, hk⟩ := Gv_ex hS we.1 we.2.1 we.2.2.1
      have g5' := GI_step (S := ((P.length : Nat) : Int)) hS g5 hg hk
      have gl' := GI_len hS g5'
      have lP : (P ++ [e]).length = P.length + 1 := by simp
      rw [lP] at gl'
      have hl : le96 (KL (pT c (tr w)) w x ((P.length : Nat) : Int) (x + 1) (sz (tr w) - (x + 1)) ++ W) := le_of_sum gl'
      have w8 : w < 8 := Nat.lt_of_lt_of_le hg.1 hS.2.1
      obtain ⟨z5, z6, z7, z8, z9⟩ := g4
      have z5' : σx 26 5 = ((W.length + 1 : Nat) : Int) := z5
      have q5 : su σx 26 5 ((W.length : Nat) : Int) 26 5 = ((W.length : Nat) : Int) := su_at _ _ _ _
      have f28 : ∀ k, su σx 26 5 ((W.length : Nat) : Int) 28 k = σx 28 k := fun k => su_ko _ _ (fun z => absurd z.1 (by decide))
      have f1 : cG σ (su σx 26 5 ((W.length : Nat) : Int)) := fun o k a1 a2 a3 => (su_ko _ _ (fun z => a1 ⟨z.1, Or.inr z.2⟩)).trans (g2 o k a1 a2 a3)
      have C1 : CC c N sz sd n hw wo (su σx 26 5 ((W.length : Nat) : Int)) := CC_fr hC (fun o k q => f1 o k (fun z => absurd (z.1 ▸ q) (by decide)) (fun z => absurd (z ▸ q) (by decide)) (fun z => absurd (z ▸ q) (by decide)))
      have U1 : UsC sz U tr ch fr to ofU atU (su σx 26 5 ((W.length : Nat) : Int)) := UsC_fr hs (fun o k a1 a2 a3 => f1 o k (fun z => a1 z.1) a2 a3)
      obtain ⟨s1, s2, s3, s4⟩ := U1 w hg.1
      obtain ⟨s5, s6, s7⟩ := s4 x hg.2.1
      unfold wp_X7_grow_L19
      rw [z5', n1, n3]
      refine ⟨fun z => absurd z n96, fun _ => ⟨fun z => absurd z n2, fun _ σ1 e1' => ?_⟩⟩
      rw [e1', q5, v0, v1, v2, t0, t1, t2, f28, f28, f28, z6, z7, z8]
      clear n1 n2 n3 v0 v1 v2 t0 t1 t2 e1'
      refine ⟨b0, b1, b2, sp_addInstead C1 hN U1 hS we.1 we.2.1 hg rfl rfl ?_⟩
      refine sp_add7 (u := w) (t := tr w) (x := x) (S := P.length) (W := W) C1 w8 s1 (hN w hg.1) hg.2.1 ((su_ko _ _ (fun z => absurd z.2 (by decide))).trans g3) S96 q5 (WS_fr W z9 (fun k _ => f28 k)) hl rfl rfl (fun σ2 k1 k2 k3 k4 k5 k6 k7 k8 k9 k10 => ?_)
      intro x_3 ex3
      rw [ex3, e1, ← lP]
      refine ih σ2 (P ++ [e]) _ (by rw [lP]; exact add_up g1) (fun o k a1 a2 a3 => (k10 o k a1 (fun z => a2 z.1) a3).trans (f1 o k a1 a2 a3)) (by rw [lP]; exact k1) ⟨k2, k3⟩ g5' ?_
      rw [lP]
      refine SimG_step hN hS we.1 we.2.1 hg S96 l300 hl g6 k4 k5 k6 (k7.trans s6) (k8.trans s7) k9 (fun k hk => ?_)
      exact (k10 27 k (fun z => absurd z.1 (by decide)) (fun z => absurd hk (Nat.not_lt.mpr z.2)) (by decide)).trans (su_ko _ _ (fun z => absurd z.1 (by decide)))
theorem sp_grow {c : Nat → Nat → Int} {N : Nat} {sz : Nat → Nat} {sd : Nat → Int} {n : Nat} {hw wo : Nat → Prop} {U : Nat} {tr : Nat → Nat} {ch fr to : Nat → Nat → Int} {ofU atU : Nat → Int} {σ : St} {Q : St → Prop} (hC : CC c N sz sd n hw wo σ) (hN : ∀ v, v < U → tr v < N) (hs : UsC sz U tr ch fr to ofU atU σ) (hS : Shp U (Kd c tr) (Pp c tr) ch (Zu sz tr) ofU atU)
    (h : ∀ (σ' : St) (S : Nat), S ≤ 96 → σ' 26 0 = (S : Int) → cG σ σ' → (∀ (QM : St → Prop) (τ : St), TM c N sz τ → UsM sz U tr ch fr to ofU atU τ → (∀ τ', gM τ τ' → τ' 0 50 = (S : Int) → (∀ k, k < 6 * S → τ' 29 k = σ' 27 k) → QM τ') → wp_X9_build QM τ) → Q σ') : wp_X7_grow Q σ := by
  unfold wp_X7_grow
  intro σ1 e1 σ2 e2
  have f2 : cG σ σ2 := fun o k a1 a2 a3 => by rw [e2, su_ko _ _ (fun z => a1 ⟨z.1, Or.inr z.2⟩), e1, su_ko _ _ (fun z => a1 ⟨z.1, Or.inl z.2⟩)]
  have p0 : σ2 26 0 = 0 := by rw [e2, su_ko _ _ (fun z => absurd z.2 (by decide)), e1, su_at]
  have p5 : σ2 26 5 = 0 := by rw [e2, su_at]
  refine sp_push (W := []) (e := (0, 0, -1)) p5 trivial (by decide) rfl rfl rfl (fun σ3 y1 y2 y3 => ⟨97, ?_⟩)
  refine sp_growL (P := []) (W := [(0, 0, -1)]) hC hN hs hS (fun σ' S g1 g2 g3 g4 => h σ' S g1 g2 g3 (fun QM τ hT hU hK => ?_)) 96 σ3 rfl (fun o k a1 a2 a3 => (y3 o k (fun z => a1 ⟨z.1, Or.inr z.2⟩) a3).trans (f2 o k a1 a2 a3)) ((y3 26 0 (fun z => absurd z.2 (by decide)) (by decide)).trans p0) ⟨y1, y2⟩ (GI_0 hS (-1)) ⟨0, fun QM F τ hp hK => hK τ ⟨fun _ _ _ _ _ => rfl, hp.2.2.1, hp.2.2.2, fun k hk => absurd hk (Nat.not_lt_zero k)⟩⟩
  obtain ⟨cost, hs4⟩ := g4
  unfold wp_X9_build
  intro τ1 e1 τ2 e2
  have m2 : gM τ τ2 := fun o k a1 a2 a3 => by rw [e2, su_ko _ _ (fun z => a1 ⟨z.1, Or.inl z.2⟩), e1, su_ko _ _ (fun z => a1 ⟨z.1, Or.inr z.2⟩)]
  have q50 : τ2 0 50 = 0 := by rw [e2, su_ko _ _ (fun z => absurd z.2 (by decide)), e1, su_at]
  have q48 : τ2 0 48 = 0 := by rw [e2, su_at]
  refine sp_later (W := []) (u := 0) (x := 0) q48 (by decide) (Or.inl rfl) rfl rfl (fun τ3 w1 w2 w3 w4 w5 w6 => ⟨1 + cost, ?_⟩)
  have m3 : gM τ τ3 := fun o k a1 a2 a3 => (w6 o k (fun z => a1 ⟨z.1, Or.inl z.2⟩) (fun z => a2 z.1)).trans (m2 o k a1 a2 a3)
  refine hs4 QM 1 τ3 ⟨TM_fr hT (gM_st m3), UsM_fr hU (gM_st m3), (w6 0 50 (fun z => absurd z.2 (by decide)) (fun z => absurd z.1 (by decide))).trans q50, w1, w2, w3, w4, w5, trivial⟩ (fun τ' m => ?_)
  obtain ⟨m4, m5, m6, m7⟩ := m
  show wp_X9_build_L18 QM (0 + 1) τ'
  unfold wp_X9_build_L18
  refine ⟨fun _ => hK τ' (fun o k a1 a2 a3 => (m4 o k a1 a2 a3).trans (m3 o k a1 a2 a3)) m5 m7, fun z => ?_⟩
  rw [m6.1] at z
  exact absurd (by decide) z
