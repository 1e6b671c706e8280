/-! pure: shapes depend on their own rows alone -/
theorem HF_c {kd p kd' p' : Nat → Int} {n y : Nat} (hp : Pd p n) (ek : ∀ x, x < n → kd' x = kd x) (ep : ∀ x, x < n → p' x = p x) : HF kd' p' n y ↔ HF kd p n y := by
  have e : ∀ f k, f < n → itp p' k ((f : Nat) : Int) = itp p k (f : Int) := fun f k hf => itp_c hp ep (by omega) k
  constructor
  · rintro ⟨k, f, f1, f2, f3⟩
    exact ⟨k, f, f1, by rw [← ek f f1]; exact f2, by rw [← e f k f1]; exact f3⟩
  · rintro ⟨k, f, f1, f2, f3⟩
    exact ⟨k, f, f1, by rw [ek f f1]; exact f2, by rw [e f k f1]; exact f3⟩
theorem FO_c {kd p kd' p' : Nat → Int} {n x : Nat} (hp : Pd p n) (hx : x < n) (ek : ∀ x, x < n → kd' x = kd x) (ep : ∀ x, x < n → p' x = p x) : FO kd' p' n x ↔ FO kd p n x := by
  constructor
  · rintro ⟨y, y1, y2, y3, y4⟩
    exact ⟨y, y1, y2, by rw [← ep y y2, ← ep x hx]; exact y3, (HF_c hp ek ep).mp y4⟩
  · rintro ⟨y, y1, y2, y3, y4⟩
    exact ⟨y, y1, y2, by rw [ep y y2, ep x hx]; exact y3, (HF_c hp ek ep).mpr y4⟩
theorem kwd_c {kd kd' : Nat → Int} {n : Nat} (ek : ∀ x, x < n → kd' x = kd x) : ∀ x, x < n → kwd kd' x = kwd kd x := fun x hx => by unfold kwd; rw [ek x hx]
theorem Pd_c {p p' : Nat → Int} {n : Nat} (hp : Pd p n) (ep : ∀ x, x < n → p' x = p x) : Pd p' n := fun x hx => by rw [ep x hx]; exact hp x hx
theorem PJ_c {kd p kd' p' : Nat → Int} {n : Nat} {cur st : Int} (h : PJ kd p n cur st) (ek : ∀ x, x < n → kd' x = kd x) (ep : ∀ x, x < n → p' x = p x) : PJ kd' p' n cur st := by
  obtain ⟨h1, h2, h3, h4, h5, h6, h7, h8, h9, h10, h11, h12, h13⟩ := h
  have e : ∀ f k, f < n → itp p' k ((f : Nat) : Int) = itp p k (f : Int) := fun f k hf => itp_c h1 ep (by omega) k
  refine ⟨Pd_c h1 ep, h2, fun x hx => by rw [ek x hx]; exact h3 x hx, fun x hx k0 => ?_, fun x hx q => ?_, fun q => ?_, fun x a b => by rw [ep x b]; exact h7 x a b, h8, h9, h10, h11, fun hn => ?_, fun y a b => ?_⟩
  · rw [ek x hx] at k0
    rcases h4 x hx k0 with z | z
    · exact Or.inl ⟨z.1, by rw [ep _ z.1]; exact z.2⟩
    · exact Or.inr z
  · rw [ep x hx] at q ⊢
    have := h1 x hx
    rw [ek _ (by omega)]
    exact h5 x hx q
  · rw [ek _ (by omega)]; exact h6 q
  · obtain ⟨k, hk⟩ := h12 hn
    exact ⟨k, by rw [e _ _ (by omega)]; exact hk⟩
  · obtain ⟨k, hk⟩ := h13 y a b
    exact ⟨k, by rw [e _ _ (by omega), ep y b]; exact hk⟩
theorem nxr_c {p p' : Nat → Int} {n t x : Nat} (hx : x < n) (ep : ∀ x, x < n → p' x = p x) : nxr p' n t x = nxr p n t x := by unfold nxr; rw [nx_c ep hx]
theorem fsr_c {p p' : Nat → Int} {n t x : Nat} (ep : ∀ x, x < n → p' x = p x) : fsr p' n t x = fsr p n t x := by unfold fsr; rw [fs_c ep]
theorem SQ_e {kd p kd' p' : Nat → Int} {f f' : Nat → Nat → Int} {n x u : Nat} (hn : n ≤ 12) (hJ : PJ kd p n (-1) 4) (ek : ∀ x, x < n → kd' x = kd x) (ep : ∀ x, x < n → p' x = p x) (ef : ∀ w, w < 12 → ∀ x, x < n → f' x w = f x w) (hx : x < n) (hu : u < 3) (h : SQ kd p f n x u) : SQ kd' p' f' n x u := by
  obtain ⟨h1, h2⟩ := h
  obtain ⟨a1, a2, a3, a4, _, _⟩ := wA_f u hu
  have nxe : nx p' n x = nx p n x := by
    unfold nx
    exact fndF_congr _ _ (fun j a b => by rw [ep j (by omega), ep x hx])
  refine ⟨?_, ?_⟩
  · rw [ef _ a2 x hx, h1, ek x hx]
    by_cases q : kd x = 0
    · rw [if_pos q, if_pos q, ef _ a4 (x + 1) (PJ_kid hJ hx q).1]
    · rw [if_neg q, if_neg q]
  · rw [ef _ a2 x hx, ef _ a4 x hx, h2, nxe]
    rcases nx_spec p n x with ⟨q, _⟩ | ⟨j, q1, q2, q3, _⟩
    · rw [if_pos q, if_pos q]
    · rw [q1, if_neg (by omega), if_neg (by omega), show ((j : Int)).toNat = j by omega, ef _ a4 j q3]
theorem FT_fr {σ σ' : St} {t n : Nat} (h : FT σ t n) (h10 : σ' 10 t = σ 10 t) (hnd : ∀ x w, x < 12 → w < 12 → nd σ' t x w = nd σ t x w) (h7 : σ 7 3 ≤ σ' 7 3) (h4 : σ 4 3 ≤ σ' 4 3) : FT σ' t n := by
  obtain ⟨f1, f2, f3, f4, f5, f6, f7, f8⟩ := h
  have e : ∀ w, w < 12 → ∀ x, x < n → nd σ' t x w = nd σ t x w := fun w hw x hx => hnd x w (by omega) hw
  have e0 := e 0 (by omega)
  have e2 := e 2 (by omega)
  refine ⟨by rw [h10]; exact f1, f2, f3, PJ_c f4 e0 e2, by rw [e0 0 f2]; exact f5, fun x hx => ?_, fun x y hx hy a b => ?_, ?_⟩
  · obtain ⟨a1, a2, a3, a4, a5, a6, a7, a8⟩ := f6 x hx
    rw [e 1 (by omega) x hx, e0 x hx, e 4 (by omega) x hx, e 3 (by omega) x hx, e 5 (by omega) x hx, e 6 (by omega) x hx, e 7 (by omega) x hx]
    refine ⟨a1, fun z => by have := a2 z; omega, fun z => by have := a3 z; omega, a4, ?_, ?_, ?_, ?_⟩
    · rw [a5]; exact (chc_c n e2 _).symm
    · rw [a6]; exact (nxr_c hx e2).symm
    · rw [a7]; exact bI_congr (HF_c f4.1 e0 e2).symm
    · rw [a8]; exact bI_congr (FO_c f4.1 hx e0 e2).symm
  · rw [e0 x hx] at a
    rw [e0 y hy] at b
    exact f7 x y hx hy a b
  · obtain ⟨⟨x, x1, x2⟩, f9⟩ := f8
    exact ⟨⟨x, x1, by rw [e0 x x1]; exact x2⟩, fun x hx u hu => SQ_e f3 f4 e0 e2 (fun w hw y hy => e w hw y hy) hx hu (f9 x hx u hu)⟩
theorem FR_fr {σ σ' τ τ' : St} {t n : Nat} (hp : Pd (fun y => nd σ t y 2) n) (hn : n ≤ 12) (h : FR σ τ t n) (hnd : ∀ x w, x < 12 → w < 12 → nd σ' t x w = nd σ t x w) (h17 : τ' 17 t = τ 17 t) (ht : ∀ o x, 6 ≤ o → o ≤ 16 → x < 12 → τ' o (12 * t + x) = τ o (12 * t + x)) : FR σ' τ' t n := by
  obtain ⟨f1, f2⟩ := h
  have e : ∀ w, w < 12 → ∀ x, x < n → nd σ' t x w = nd σ t x w := fun w hw x hx => hnd x w (by omega) hw
  have e0 := e 0 (by omega)
  have e2 := e 2 (by omega)
  refine ⟨by rw [h17]; exact f1, fun x hx => ?_⟩
  obtain ⟨b1, b2, b3, b4, b5, b6, b7, b8, b9, b10, b11⟩ := f2 x hx
  rw [ht 6 x (by omega) (by omega) (by omega), ht 7 x (by omega) (by omega) (by omega), ht 8 x (by omega) (by omega) (by omega), ht 9 x (by omega) (by omega) (by omega), ht 10 x (by omega) (by omega) (by omega), ht 11 x (by omega) (by omega) (by omega), ht 12 x (by omega) (by omega) (by omega), ht 13 x (by omega) (by omega) (by omega), ht 14 x (by omega) (by omega) (by omega), ht 15 x (by omega) (by omega) (by omega), ht 16 x (by omega) (by omega) (by omega), e0 x hx, e 1 (by omega) x hx, e2 x hx, e 3 (by omega) x hx, e 4 (by omega) x hx, e 5 (by omega) x hx, e 6 (by omega) x hx, e 7 (by omega) x hx]
  refine ⟨b1, b2, b3, b4, b5, b6, ?_, b8, ?_, b10, ?_⟩
  · rw [b7]; exact (fsr_c e2).symm
  · rw [b9]; exact bI_congr (HF_c hp (kwd_c e0) e2).symm
  · rw [b11]; exact bI_congr (FO_c hp hx (kwd_c e0) e2).symm
/-- what a read leaves behind -/
def RDY (σ τ : St) (N : Nat) (sz : Nat → Nat) : Prop := ∃ (c : Nat → Nat → Int) (sd : Nat → Int) (hw wo : Nat → Prop) (n : Nat), n ≤ 8 ∧ σ 17 0 = (n : Int) ∧ τ 0 26 = (n : Int) ∧ (∀ t x w, t < N → x < sz t → w < 12 → c (12 * t + x) w = cc σ (12 * t + x) w) ∧ CF c N sz hw wo ∧ RD c N sz sd n σ ∧ RDm c N sz sd n τ ∧ NS τ ∧ σ 0 8 = τ 0 37 ∧ (0 ≤ σ 0 8 ∧ σ 0 8 < 16) ∧ σ 0 9 = cap (ini c N (VV c N sd) (σ 0 8) 0 n) ∧ CL c N sz hw wo
def RR (σ τ : St) (N : Nat) (sz : Nat → Nat) : Prop :=
  (TpI σ) ∧
  (TmI τ) ∧
  (Rw (τ 1)) ∧
  (σ 1 1 = τ 0 2) ∧
  (∀ k, k < tlen σ → σ 2 k = bM τ k) ∧
  (NmI σ 4 8 16) ∧
  (NmI σ 7 12 32) ∧
  (RNs σ τ) ∧
  (Mnm τ) ∧
  (DWd σ) ∧
  (N ≤ 16) ∧
  (σ 3 4 = (N : Int)) ∧
  (τ 0 23 = (N : Int)) ∧
  (∀ t, t < N → FT σ t (sz t)) ∧
  (∀ t, t < N → FR σ τ t (sz t)) ∧
  (0 ≤ σ 12 8 ∧ σ 12 8 ≤ 2) ∧
  (NmI σ 14 12 8) ∧
  (RNm σ τ 14 12 26 19 18) ∧
  (σ 0 7 = τ 0 3) ∧
  (σ 0 9 = τ 0 36) ∧
  (-1 ≤ σ 0 9 ∧ σ 0 9 ≤ 1000000000) ∧
  (τ 0 35 = (if σ 0 9 = -1 then 0 else 1)) ∧
  (CB σ) ∧
  (MB τ) ∧
  (∀ d, d < 8 → -1 ≤ σ 18 d ∧ σ 18 d < 32) ∧
  (0 < σ 0 9 → RDY σ τ N sz) ∧
  (σ 23 0 = τ 0 42) ∧
  (0 ≤ σ 23 0 ∧ σ 23 0 ≤ 8) ∧
  (∀ k : Nat, (k : Int) < 7 * σ 23 0 → σ 24 k = τ 23 k) ∧
  (σ 26 0 = τ 0 50) ∧
  (0 ≤ σ 26 0 ∧ σ 26 0 ≤ 96) ∧
  (∀ k : Nat, (k : Int) < 6 * σ 26 0 → σ 27 k = τ 29 k)
theorem RR.tp {σ τ : St} {N : Nat} {sz : Nat → Nat} (h : RR σ τ N sz) : TpI σ := h.1
theorem RR.tm {σ τ : St} {N : Nat} {sz : Nat → Nat} (h : RR σ τ N sz) : TmI τ := h.2.1
theorem RR.r1 {σ τ : St} {N : Nat} {sz : Nat → Nat} (h : RR σ τ N sz) : Rw (τ 1) := h.2.2.1
theorem RR.len {σ τ : St} {N : Nat} {sz : Nat → Nat} (h : RR σ τ N sz) : σ 1 1 = τ 0 2 := h.2.2.2.1
theorem RR.byt {σ τ : St} {N : Nat} {sz : Nat → Nat} (h : RR σ τ N sz) : ∀ k, k < tlen σ → σ 2 k = bM τ k := h.2.2.2.2.1
theorem RR.n4 {σ τ : St} {N : Nat} {sz : Nat → Nat} (h : RR σ τ N sz) : NmI σ 4 8 16 := h.2.2.2.2.2.1
theorem RR.n7 {σ τ : St} {N : Nat} {sz : Nat → Nat} (h : RR σ τ N sz) : NmI σ 7 12 32 := h.2.2.2.2.2.2.1
theorem RR.rn {σ τ : St} {N : Nat} {sz : Nat → Nat} (h : RR σ τ N sz) : RNs σ τ := h.2.2.2.2.2.2.2.1
theorem RR.mn {σ τ : St} {N : Nat} {sz : Nat → Nat} (h : RR σ τ N sz) : Mnm τ := h.2.2.2.2.2.2.2.2.1
theorem RR.dw {σ τ : St} {N : Nat} {sz : Nat → Nat} (h : RR σ τ N sz) : DWd σ := h.2.2.2.2.2.2.2.2.2.1
theorem RR.N16 {σ τ : St} {N : Nat} {sz : Nat → Nat} (h : RR σ τ N sz) : N ≤ 16 := h.2.2.2.2.2.2.2.2.2.2.1
theorem RR.c34 {σ τ : St} {N : Nat} {sz : Nat → Nat} (h : RR σ τ N sz) : σ 3 4 = (N : Int) := h.2.2.2.2.2.2.2.2.2.2.2.1
theorem RR.c23 {σ τ : St} {N : Nat} {sz : Nat → Nat} (h : RR σ τ N sz) : τ 0 23 = (N : Int) := h.2.2.2.2.2.2.2.2.2.2.2.2.1
theorem RR.ft {σ τ : St} {N : Nat} {sz : Nat → Nat} (h : RR σ τ N sz) : ∀ t, t < N → FT σ t (sz t) := h.2.2.2.2.2.2.2.2.2.2.2.2.2.1
theorem RR.fr {σ τ : St} {N : Nat} {sz : Nat → Nat} (h : RR σ τ N sz) : ∀ t, t < N → FR σ τ t (sz t) := h.2.2.2.2.2.2.2.2.2.2.2.2.2.2.1
theorem RR.mk {σ τ : St} {N : Nat} {sz : Nat → Nat} (h : RR σ τ N sz) : 0 ≤ σ 12 8 ∧ σ 12 8 ≤ 2 := h.2.2.2.2.2.2.2.2.2.2.2.2.2.2.2.1
theorem RR.n14 {σ τ : St} {N : Nat} {sz : Nat → Nat} (h : RR σ τ N sz) : NmI σ 14 12 8 := h.2.2.2.2.2.2.2.2.2.2.2.2.2.2.2.2.1
theorem RR.rs {σ τ : St} {N : Nat} {sz : Nat → Nat} (h : RR σ τ N sz) : RNm σ τ 14 12 26 19 18 := h.2.2.2.2.2.2.2.2.2.2.2.2.2.2.2.2.2.1
theorem RR.flt {σ τ : St} {N : Nat} {sz : Nat → Nat} (h : RR σ τ N sz) : σ 0 7 = τ 0 3 := h.2.2.2.2.2.2.2.2.2.2.2.2.2.2.2.2.2.2.1
theorem RR.wys {σ τ : St} {N : Nat} {sz : Nat → Nat} (h : RR σ τ N sz) : σ 0 9 = τ 0 36 := h.2.2.2.2.2.2.2.2.2.2.2.2.2.2.2.2.2.2.2.1
theorem RR.wyr {σ τ : St} {N : Nat} {sz : Nat → Nat} (h : RR σ τ N sz) : -1 ≤ σ 0 9 ∧ σ 0 9 ≤ 1000000000 := h.2.2.2.2.2.2.2.2.2.2.2.2.2.2.2.2.2.2.2.2.1
theorem RR.wsr {σ τ : St} {N : Nat} {sz : Nat → Nat} (h : RR σ τ N sz) : τ 0 35 = (if σ 0 9 = -1 then 0 else 1) := h.2.2.2.2.2.2.2.2.2.2.2.2.2.2.2.2.2.2.2.2.2.1
theorem RR.cb {σ τ : St} {N : Nat} {sz : Nat → Nat} (h : RR σ τ N sz) : CB σ := h.2.2.2.2.2.2.2.2.2.2.2.2.2.2.2.2.2.2.2.2.2.2.1
theorem RR.mb {σ τ : St} {N : Nat} {sz : Nat → Nat} (h : RR σ τ N sz) : MB τ := h.2.2.2.2.2.2.2.2.2.2.2.2.2.2.2.2.2.2.2.2.2.2.2.1
theorem RR.sdr {σ τ : St} {N : Nat} {sz : Nat → Nat} (h : RR σ τ N sz) : ∀ d, d < 8 → -1 ≤ σ 18 d ∧ σ 18 d < 32 := h.2.2.2.2.2.2.2.2.2.2.2.2.2.2.2.2.2.2.2.2.2.2.2.2.1
theorem RR.rdy {σ τ : St} {N : Nat} {sz : Nat → Nat} (h : RR σ τ N sz) : 0 < σ 0 9 → RDY σ τ N sz := h.2.2.2.2.2.2.2.2.2.2.2.2.2.2.2.2.2.2.2.2.2.2.2.2.2.1
theorem RR.us {σ τ : St} {N : Nat} {sz : Nat → Nat} (h : RR σ τ N sz) : σ 23 0 = τ 0 42 := h.2.2.2.2.2.2.2.2.2.2.2.2.2.2.2.2.2.2.2.2.2.2.2.2.2.2.1
theorem RR.usr {σ τ : St} {N : Nat} {sz : Nat → Nat} (h : RR σ τ N sz) : 0 ≤ σ 23 0 ∧ σ 23 0 ≤ 8 := h.2.2.2.2.2.2.2.2.2.2.2.2.2.2.2.2.2.2.2.2.2.2.2.2.2.2.2.1
theorem RR.usc {σ τ : St} {N : Nat} {sz : Nat → Nat} (h : RR σ τ N sz) : ∀ k : Nat, (k : Int) < 7 * σ 23 0 → σ 24 k = τ 23 k := h.2.2.2.2.2.2.2.2.2.2.2.2.2.2.2.2.2.2.2.2.2.2.2.2.2.2.2.2.1
theorem RR.ws {σ τ : St} {N : Nat} {sz : Nat → Nat} (h : RR σ τ N sz) : σ 26 0 = τ 0 50 := h.2.2.2.2.2.2.2.2.2.2.2.2.2.2.2.2.2.2.2.2.2.2.2.2.2.2.2.2.2.1
theorem RR.wsr2 {σ τ : St} {N : Nat} {sz : Nat → Nat} (h : RR σ τ N sz) : 0 ≤ σ 26 0 ∧ σ 26 0 ≤ 96 := h.2.2.2.2.2.2.2.2.2.2.2.2.2.2.2.2.2.2.2.2.2.2.2.2.2.2.2.2.2.2.1
theorem RR.wsc {σ τ : St} {N : Nat} {sz : Nat → Nat} (h : RR σ τ N sz) : ∀ k : Nat, (k : Int) < 6 * σ 26 0 → σ 27 k = τ 29 k := h.2.2.2.2.2.2.2.2.2.2.2.2.2.2.2.2.2.2.2.2.2.2.2.2.2.2.2.2.2.2.2
theorem RR.mk' {σ τ : St} {N : Nat} {sz : Nat → Nat} (tp : TpI σ) (tm : TmI τ) (r1 : Rw (τ 1)) (len : σ 1 1 = τ 0 2) (byt : ∀ k, k < tlen σ → σ 2 k = bM τ k) (n4 : NmI σ 4 8 16) (n7 : NmI σ 7 12 32) (rn : RNs σ τ) (mn : Mnm τ) (dw : DWd σ) (N16 : N ≤ 16) (c34 : σ 3 4 = (N : Int)) (c23 : τ 0 23 = (N : Int)) (ft : ∀ t, t < N → FT σ t (sz t)) (fr : ∀ t, t < N → FR σ τ t (sz t)) (mk : 0 ≤ σ 12 8 ∧ σ 12 8 ≤ 2) (n14 : NmI σ 14 12 8) (rs : RNm σ τ 14 12 26 19 18) (flt : σ 0 7 = τ 0 3) (wys : σ 0 9 = τ 0 36) (wyr : -1 ≤ σ 0 9 ∧ σ 0 9 ≤ 1000000000) (wsr : τ 0 35 = (if σ 0 9 = -1 then 0 else 1)) (cb : CB σ) (mb : MB τ) (sdr : ∀ d, d < 8 → -1 ≤ σ 18 d ∧ σ 18 d < 32) (rdy : 0 < σ 0 9 → RDY σ τ N sz) (us : σ 23 0 = τ 0 42) (usr : 0 ≤ σ 23 0 ∧ σ 23 0 ≤ 8) (usc : ∀ k : Nat, (k : Int) < 7 * σ 23 0 → σ 24 k = τ 23 k) (ws : σ 26 0 = τ 0 50) (wsr2 : 0 ≤ σ 26 0 ∧ σ 26 0 ≤ 96) (wsc : ∀ k : Nat, (k : Int) < 6 * σ 26 0 → σ 27 k = τ 29 k) : RR σ τ N sz := ⟨tp, tm, r1, len, byt, n4, n7, rn, mn, dw, N16, c34, c23, ft, fr, mk, n14, rs, flt, wys, wyr, wsr, cb, mb, sdr, rdy, us, usr, usc, ws, wsr2, wsc⟩
theorem RDY_fr {σ σ' τ τ' : St} {N : Nat} {sz : Nat → Nat} (hsz : ∀ t, t < N → sz t ≤ 12) (h : RDY σ τ N sz) (h17 : σ' 17 0 = σ 17 0) (h08 : σ' 0 8 = σ 0 8) (h09 : σ' 0 9 = σ 0 9) (hnd : ∀ t x w, t < N → x < 12 → w < 12 → nd σ' t x w = nd σ t x w) (hc : ∀ o k, 19 ≤ o → o ≤ 22 → σ' o k = σ o k) (m26 : τ' 0 26 = τ 0 26) (m37 : τ' 0 37 = τ 0 37) (hm : ∀ o k, 20 ≤ o → o ≤ 22 → τ' o k = τ o k) : RDY σ' τ' N sz := by
  obtain ⟨c, sd, hw, wo, n, a1, a2, a3, a4, a5, a6, a7, a8, a9, a10, a11, a12⟩ := h
  refine ⟨c, sd, hw, wo, n, a1, by rw [h17]; exact a2, by rw [m26]; exact a3, fun t x w q1 q2 q3 => ?_, a5, ⟨fun o t x i l j k q1 q2 v => ?_, fun nm i l q1 q2 q3 q4 => ?_, fun nm i p q l q1 q2 q3 q4 q5 q6 => ?_⟩, fun o t x i l j k q1 q2 v => ?_, fun i j k l q1 q2 q3 q4 => ?_, by rw [h08, m37]; exact a9, by rw [h08]; exact a10, by rw [h08, h09]; exact a11, a12⟩
  · rw [a4 t x w q1 q2 q3]
    exact (hnd t x w q1 (by have := hsz t q1; omega) q3).symm
  · rw [← a6.1 o t x i l j k q1 q2 v, cT_ar, cT_ar]
    exact hc _ _ (by cases o <;> decide) (by cases o <;> decide)
  · rw [← a6.2.1 nm i l q1 q2 q3 q4]; exact hc _ _ (by omega) (by omega)
  · rw [← a6.2.2 nm i p q l q1 q2 q3 q4 q5 q6]; exact hc _ _ (by omega) (by omega)
  · rw [← a7 o t x i l j k q1 q2 v, mT_ar, mT_ar]
    exact hm _ _ (by cases o <;> decide) (by cases o <;> decide)
  · rw [hm _ _ (by omega) (by omega)]; exact a8 i j k l q1 q2 q3 q4
