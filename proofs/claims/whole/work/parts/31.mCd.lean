set_option maxRecDepth 100000 in
set_option maxHeartbeats 4000000 in
theorem m_X0_lay_L85_1 {p : Program} {l : Launch} {e : Env} {s : State} {m : MethodId} {args : Array Value} {below : List Frame} {meth : Method} {c : Code} {D : va_G} {cA : Nat → ClassId} {ad : Nat → Nat} (C : Cx p s m args c cX0_lay RX0 13 D cA shC ad zsC) (hlocks : meth.locks = false) (hr : meth.sig.returnType = none) {Q : St → Prop} {K50 : Int → Int → Int → Int → Int → St → Prop} (hK50 : ∀ (x1 : Int) (x2 : Int) (x3 : Int) (x4 : Int) (x6 : Int) (σ : St), K50 x1 x2 x3 x4 x6 σ → G p l e rm_X0_lay s m args below meth c 0 0 13 D cA shC ad (QV D cA shC ad zsC below args s Q) σ [(0, .ref (ad 17)), (1, vI x1), (2, vI x2), (3, vI x3), (4, vI x4), (5, .ref (ad 20)), (6, vI x6)] [] 50) : ∀ (n : Nat) (x1 : Int) (x2 : Int) (x3 : Int) (x4 : Int) (x6 : Int) (x7 : Int) (x8 : Int) (σ : St), wp_X0_lay_L85_1 K50 Q n x1 x2 x3 x4 x6 x7 x8 σ → G p l e rm_X0_lay s m args below meth c 0 0 13 D cA shC ad (QV D cA shC ad zsC below args s Q) σ [(0, .ref (ad 17)), (1, vI x1), (2, vI x2), (3, vI x3), (4, vI x4), (5, .ref (ad 20)), (6, vI x6), (7, vI x7), (8, vI x8)] [] 85 := by
  intro n
  induction n with
  | zero => intro _ _ _ _ _ _ _ _ h; exact h.elim
  | succ n ih =>
    intro x1 x2 x3 x4 x6 x7 x8 σ h
    simp only [wp_X0_lay_L85_1] at h
    refine g_iload C 8 8 rfl dX0_lay_85 ?_
    refine g_iload C 7 7 rfl dX0_lay_87 ?_
    refine g_icmp_gt C rfl rfl 218 (by decide) dX0_lay_89 (fun hc => ?_) (fun hc => ?_)
    · have h := h.1 hc
      refine g_iinc C 6 6 [(0, .ref (ad 17)), (1, vI x1), (2, vI x2), (3, vI x3), (4, vI x4), (5, .ref (ad 20)), (7, vI x7), (8, vI x8)] rfl (by decide) rfl dX0_lay_218 (fun x_1 ex_1 => ?_)
      have h := h x_1 ex_1
      refine g_goto C 50 (by decide) dX0_lay_221 ?_
      exact g_pick [1, 2, 3, 4, 5, 6, 0] rfl (hK50 _ _ _ _ _ _ h)
    · have h := h.2 hc
      refine g_iload C 4 4 rfl dX0_lay_92 ?_
      refine g_if_eq C rfl 104 (by decide) dX0_lay_94 (fun hc => ?_) (fun hc => ?_)
      · have h := h.1 hc
        refine g_iload C 6 6 rfl dX0_lay_104 ?_
        exact g_pick [0, 1, 2, 3, 4, 5, 6, 7, 8] rfl (m_X0_lay_B106_1 C hlocks hr hK50 (fun _ _ _ _ _ _ _ _ h => ih _ _ _ _ _ _ _ _ h) h)
      · have h := h.2 hc
        refine g_iload C 6 6 rfl dX0_lay_97 ?_
        refine g_iload_n C 2 2 rfl rfl dX0_lay_99 ?_
        refine g_iadd C dX0_lay_100 ?_
        refine g_goto C 106 (by decide) dX0_lay_101 ?_
        exact g_pick [0, 1, 2, 3, 4, 5, 6, 7, 8] rfl (m_X0_lay_B106_1 C hlocks hr hK50 (fun _ _ _ _ _ _ _ _ h => ih _ _ _ _ _ _ _ _ h) h)
set_option maxRecDepth 100000 in
set_option maxHeartbeats 4000000 in
theorem m_X0_lay_B77_1 {p : Program} {l : Launch} {e : Env} {s : State} {m : MethodId} {args : Array Value} {below : List Frame} {meth : Method} {c : Code} {D : va_G} {cA : Nat → ClassId} {ad : Nat → Nat} (C : Cx p s m args c cX0_lay RX0 13 D cA shC ad zsC) (hlocks : meth.locks = false) (hr : meth.sig.returnType = none) {Q : St → Prop} {K50 : Int → Int → Int → Int → Int → St → Prop} (hK50 : ∀ (x1 : Int) (x2 : Int) (x3 : Int) (x4 : Int) (x6 : Int) (σ : St), K50 x1 x2 x3 x4 x6 σ → G p l e rm_X0_lay s m args below meth c 0 0 13 D cA shC ad (QV D cA shC ad zsC below args s Q) σ [(0, .ref (ad 17)), (1, vI x1), (2, vI x2), (3, vI x3), (4, vI x4), (5, .ref (ad 20)), (6, vI x6)] [] 50) {x1 x2 x3 x4 x6 y0 : Int} {σ : St} (h : wp_X0_lay_B77_1 K50 x1 x2 x3 x4 x6 y0 Q σ) : G p l e rm_X0_lay s m args below meth c 0 0 13 D cA shC ad (QV D cA shC ad zsC below args s Q) σ [(0, .ref (ad 17)), (1, vI x1), (2, vI x2), (3, vI x3), (4, vI x4), (5, .ref (ad 20)), (6, vI x6)] [vI y0] 77 := by
  unfold wp_X0_lay_B77_1 at h
  refine g_istore C 7 [(0, .ref (ad 17)), (1, vI x1), (2, vI x2), (3, vI x3), (4, vI x4), (5, .ref (ad 20)), (6, vI x6)] (by decide) rfl dX0_lay_77 ?_
  refine g_iload C 7 6 rfl dX0_lay_79 ?_
  refine g_iload_n C 3 2 rfl rfl dX0_lay_81 ?_
  refine g_iadd C dX0_lay_82 ?_
  refine g_name (fun x_1 ex_1 => ?_)
  have h := h x_1 ex_1
  refine g_istore C 8 [(7, vI y0), (0, .ref (ad 17)), (1, vI x1), (2, vI x2), (3, vI x3), (4, vI x4), (5, .ref (ad 20)), (6, vI x6)] (by decide) rfl dX0_lay_83 ?_
  obtain ⟨nn, h⟩ := h
  exact g_pick [2, 3, 4, 5, 6, 7, 8, 1, 0] rfl (m_X0_lay_L85_1 C hlocks hr hK50 nn _ _ _ _ _ _ _ _ h)
set_option maxRecDepth 100000 in
set_option maxHeartbeats 4000000 in
theorem m_X0_lay_L50_1 {p : Program} {l : Launch} {e : Env} {s : State} {m : MethodId} {args : Array Value} {below : List Frame} {meth : Method} {c : Code} {D : va_G} {cA : Nat → ClassId} {ad : Nat → Nat} (C : Cx p s m args c cX0_lay RX0 13 D cA shC ad zsC) (hlocks : meth.locks = false) (hr : meth.sig.returnType = none) {Q : St → Prop} : ∀ (n : Nat) (x1 : Int) (x2 : Int) (x3 : Int) (x4 : Int) (x6 : Int) (σ : St), wp_X0_lay_L50_1 Q n x1 x2 x3 x4 x6 σ → G p l e rm_X0_lay s m args below meth c 0 0 13 D cA shC ad (QV D cA shC ad zsC below args s Q) σ [(0, .ref (ad 17)), (1, vI x1), (2, vI x2), (3, vI x3), (4, vI x4), (5, .ref (ad 20)), (6, vI x6)] [] 50 := by
  intro n
  induction n with
  | zero => intro _ _ _ _ _ _ h; exact h.elim
  | succ n ih =>
    intro x1 x2 x3 x4 x6 σ h
    simp only [wp_X0_lay_L50_1] at h
    refine g_iload C 6 6 rfl dX0_lay_50 ?_
    refine g_iload_n C 2 2 rfl rfl dX0_lay_52 ?_
    refine g_iadd C dX0_lay_53 ?_
    refine g_aload_n C 0 0 rfl rfl dX0_lay_54 ?_
    refine g_get C iX0 (ci := 0) (o := 17) (v := vI (σ 17 0)) rfl rfl 0 (by decide) rfl tw_X0_59 dX0_lay_55 ?_
    refine g_icmp_gt C rfl rfl 224 (by decide) dX0_lay_58 (fun hc => ?_) (fun hc => ?_)
    · have h := h.1 hc
      exact g_vret C hlocks hr h dX0_lay_224
    · have h := h.2 hc
      refine g_iload C 4 4 rfl dX0_lay_61 ?_
      refine g_if_eq C rfl 73 (by decide) dX0_lay_63 (fun hc => ?_) (fun hc => ?_)
      · have h := h.1 hc
        refine g_iload C 6 6 rfl dX0_lay_73 ?_
        refine g_iload_n C 2 2 rfl rfl dX0_lay_75 ?_
        refine g_iadd C dX0_lay_76 ?_
        exact g_pick [0, 1, 2, 3, 4, 5, 6] rfl (m_X0_lay_B77_1 C hlocks hr (fun _ _ _ _ _ _ h => ih _ _ _ _ _ _ h) h)
      · have h := h.2 hc
        refine g_aload_n C 0 0 rfl rfl dX0_lay_66 ?_
        refine g_get C iX0 (ci := 0) (o := 17) (v := vI (σ 17 0)) rfl rfl 0 (by decide) rfl tw_X0_59 dX0_lay_67 ?_
        refine g_goto C 77 (by decide) dX0_lay_70 ?_
        exact g_pick [0, 1, 2, 3, 4, 5, 6] rfl (m_X0_lay_B77_1 C hlocks hr (fun _ _ _ _ _ _ h => ih _ _ _ _ _ _ h) h)
set_option maxRecDepth 100000 in
set_option maxHeartbeats 4000000 in
theorem m_X0_lay_B45_1 {p : Program} {l : Launch} {e : Env} {s : State} {m : MethodId} {args : Array Value} {below : List Frame} {meth : Method} {c : Code} {D : va_G} {cA : Nat → ClassId} {ad : Nat → Nat} (C : Cx p s m args c cX0_lay RX0 13 D cA shC ad zsC) (hlocks : meth.locks = false) (hr : meth.sig.returnType = none) {Q : St → Prop} {x1 x2 x3 x4 : Int} {σ : St} (h : wp_X0_lay_B45_1 x1 x2 x3 x4 Q σ) : G p l e rm_X0_lay s m args below meth c 0 0 13 D cA shC ad (QV D cA shC ad zsC below args s Q) σ [(0, .ref (ad 17)), (1, vI x1), (2, vI x2), (3, vI x3), (4, vI x4)] [.ref (ad 20)] 45 := by
  unfold wp_X0_lay_B45_1 at h
  refine g_astore C 5 [(0, .ref (ad 17)), (1, vI x1), (2, vI x2), (3, vI x3), (4, vI x4)] (by decide) rfl dX0_lay_45 ?_
  refine g_iconst C dX0_lay_47 ?_
  refine g_istore C 6 [(5, .ref (ad 20)), (0, .ref (ad 17)), (1, vI x1), (2, vI x2), (3, vI x3), (4, vI x4)] (by decide) rfl dX0_lay_48 ?_
  obtain ⟨nn, h⟩ := h
  exact g_pick [2, 3, 4, 5, 6, 1, 0] rfl (m_X0_lay_L50_1 C hlocks hr nn _ _ _ _ _ _ h)
set_option maxRecDepth 100000 in
set_option maxHeartbeats 4000000 in
theorem m_X0_lay_B28 {p : Program} {l : Launch} {e : Env} {s : State} {m : MethodId} {args : Array Value} {below : List Frame} {meth : Method} {c : Code} {D : va_G} {cA : Nat → ClassId} {ad : Nat → Nat} (C : Cx p s m args c cX0_lay RX0 13 D cA shC ad zsC) (hlocks : meth.locks = false) (hr : meth.sig.returnType = none) {Q : St → Prop} {x1 x2 x3 y0 : Int} {σ : St} (h : wp_X0_lay_B28 x1 x2 x3 y0 Q σ) : G p l e rm_X0_lay s m args below meth c 0 0 13 D cA shC ad (QV D cA shC ad zsC below args s Q) σ [(0, .ref (ad 17)), (1, vI x1), (2, vI x2), (3, vI x3)] [vI y0] 28 := by
  unfold wp_X0_lay_B28 at h
  refine g_istore C 4 [(0, .ref (ad 17)), (1, vI x1), (2, vI x2), (3, vI x3)] (by decide) rfl dX0_lay_28 ?_
  refine g_iload_n C 4 3 rfl rfl dX0_lay_30 ?_
  refine g_if_eq C rfl 41 (by decide) dX0_lay_31 (fun hc => ?_) (fun hc => ?_)
  · have h := h.1 hc
    refine g_aload_n C 1 0 rfl rfl dX0_lay_41 ?_
    refine g_get C iX0 (ci := 0) (o := 17) (v := .ref (ad 19)) rfl rfl 3 (by decide) rfl tw_X0_16 dX0_lay_42 ?_
    exact g_pick [1, 2, 3, 4, 0] rfl (m_X0_lay_B45 C hlocks hr h)
  · have h := h.2 hc
    refine g_aload_n C 1 0 rfl rfl dX0_lay_34 ?_
    refine g_get C iX0 (ci := 0) (o := 17) (v := .ref (ad 20)) rfl rfl 4 (by decide) rfl tw_X0_19 dX0_lay_35 ?_
    refine g_goto C 45 (by decide) dX0_lay_38 ?_
    exact g_pick [1, 2, 3, 4, 0] rfl (m_X0_lay_B45_1 C hlocks hr h)
set_option maxRecDepth 100000 in
set_option maxHeartbeats 4000000 in
theorem m_X0_lay_B16 {p : Program} {l : Launch} {e : Env} {s : State} {m : MethodId} {args : Array Value} {below : List Frame} {meth : Method} {c : Code} {D : va_G} {cA : Nat → ClassId} {ad : Nat → Nat} (C : Cx p s m args c cX0_lay RX0 13 D cA shC ad zsC) (hlocks : meth.locks = false) (hr : meth.sig.returnType = none) {Q : St → Prop} {x1 x2 x3 y1 y2 : Int} {σ : St} (h : wp_X0_lay_B16 x1 x2 x3 y1 y2 Q σ) : G p l e rm_X0_lay s m args below meth c 0 0 13 D cA shC ad (QV D cA shC ad zsC below args s Q) σ [(0, .ref (ad 17)), (1, vI x1), (2, vI x2), (3, vI x3)] [vI y2, vI y1, .ref (ad 3)] 16 := by
  unfold wp_X0_lay_B16 at h
  refine g_callIv C (m_X1_cell l D cA ad h) hv_X1_cell tw_X0_45 (o := 3) (ci := 1) (As := [vI y1, vI y2]) (st := []) rfl rfl rfl rfl ⟨Nat.le_of_ble_eq_true rfl, Nat.le_of_ble_eq_true rfl⟩ rfl rfl (Nat.le_of_ble_eq_true rfl) dX0_lay_16 (fun r2 σ1 h => ?_)
  try dsimp only at h
  refine g_iconst C dX0_lay_19 ?_
  refine g_icmp_ne C (y' := 1) rfl (by decide) 27 (by decide) dX0_lay_20 (fun hc => ?_) (fun hc => ?_)
  · have h := h.1 hc
    refine g_iconst C dX0_lay_27 ?_
    exact g_pick [0, 1, 2, 3] rfl (m_X0_lay_B28 C hlocks hr h)
  · have h := h.2 hc
    refine g_iconst C dX0_lay_23 ?_
    refine g_goto C 28 (by decide) dX0_lay_24 ?_
    exact g_pick [0, 1, 2, 3] rfl (m_X0_lay_B28 C hlocks hr h)
set_option maxRecDepth 100000 in
set_option maxHeartbeats 4000000 in
theorem m_X0_lay_E {p : Program} {l : Launch} {e : Env} {s : State} {m : MethodId} {args : Array Value} {below : List Frame} {meth : Method} {c : Code} {D : va_G} {cA : Nat → ClassId} {ad : Nat → Nat} (C : Cx p s m args c cX0_lay RX0 13 D cA shC ad zsC) (hlocks : meth.locks = false) (hr : meth.sig.returnType = none) {Q : St → Prop} {a1 a2 a3 : Int} {σ : St} (h : wp_X0_lay a1 a2 a3 Q σ) : G p l e rm_X0_lay s m args below meth c 0 0 13 D cA shC ad (QV D cA shC ad zsC below args s Q) σ [(0, .ref (ad 17)), (1, vI a1), (2, vI a2), (3, vI a3)] [] 0 := by
  unfold wp_X0_lay at h
  refine g_aload_n C 0 0 rfl rfl dX0_lay_0 ?_
  refine g_get C iX0 (ci := 0) (o := 17) (v := .ref (ad 3)) rfl rfl 1 (by decide) rfl tw_X0_28 dX0_lay_1 ?_
  refine g_iload_n C 1 1 rfl rfl dX0_lay_4 ?_
  refine g_iload_n C 3 3 rfl rfl dX0_lay_5 ?_
  refine g_if_eq C rfl 14 (by decide) dX0_lay_6 (fun hc => ?_) (fun hc => ?_)
  · have h := h.1 hc
    refine g_bipush C dX0_lay_14 (by decide) ?_
    exact g_pick [0, 1, 2, 3] rfl (m_X0_lay_B16 C hlocks hr h)
  · have h := h.2 hc
    refine g_bipush C dX0_lay_9 (by decide) ?_
    refine g_goto C 16 (by decide) dX0_lay_11 ?_
    exact g_pick [0, 1, 2, 3] rfl (m_X0_lay_B16 C hlocks hr h)
set_option maxRecDepth 100000 in
set_option maxHeartbeats 4000000 in
theorem m_X0_lay (l : Launch) (D : va_G) (cA : Nat → ClassId) (ad : Nat → Nat) {a1 a2 a3 : Int} {Q : St → Prop} {σ : St} (h : wp_X0_lay a1 a2 a3 Q σ) : CtV l yX0_lay (.code yX0_lay cX0_lay 13 none) rm_X0_lay D cA shC ad zsC [.ref (ad 17), vI a1, vI a2, vI a3] σ Q :=
  ct_V RX0 (by decide +kernel) rfl (Nat.le_of_ble_eq_true rfl) (fun p e s m args below meth c C hlocks hr => m_X0_lay_E C hlocks hr h)
abbrev rm_X0_layAll : Room := { frames := 6, cells := 0, slots := 0, locals := 140 }
set_option maxRecDepth 100000 in
set_option maxHeartbeats 4000000 in
theorem m_X0_layAll_L25 {p : Program} {l : Launch} {e : Env} {s : State} {m : MethodId} {args : Array Value} {below : List Frame} {meth : Method} {c : Code} {D : va_G} {cA : Nat → ClassId} {ad : Nat → Nat} (C : Cx p s m args c cX0_layAll RX0 4 D cA shC ad zsC) (hlocks : meth.locks = false) (hr : meth.sig.returnType = none) {Q : St → Prop} {K2 : Int → Int → St → Prop} (hK2 : ∀ (x1 : Int) (x2 : Int) (σ : St), K2 x1 x2 σ → G p l e rm_X0_layAll s m args below meth c 0 0 4 D cA shC ad (QV D cA shC ad zsC below args s Q) σ [(0, .ref (ad 17)), (1, vI x1), (2, vI x2)] [] 2) : ∀ (n : Nat) (x1 : Int) (x2 : Int) (x3 : Int) (σ : St), wp_X0_layAll_L25 K2 Q n x1 x2 x3 σ → G p l e rm_X0_layAll s m args below meth c 0 0 4 D cA shC ad (QV D cA shC ad zsC below args s Q) σ [(0, .ref (ad 17)), (1, vI x1), (2, vI x2), (3, vI x3)] [] 25 := by
  intro n
  induction n with
  | zero => intro _ _ _ _ h; exact h.elim
  | succ n ih =>
    intro x1 x2 x3 σ h
    simp only [wp_X0_layAll_L25] at h
    refine g_iload_n C 3 3 rfl rfl dX0_layAll_25 ?_
    refine g_if_lt C rfl 57 (by decide) dX0_layAll_26 (fun hc => ?_) (fun hc => ?_)
    · have h := h.1 hc
      refine g_iinc C 2 2 [(0, .ref (ad 17)), (1, vI x1), (3, vI x3)] rfl (by decide) rfl dX0_layAll_57 (fun x_1 ex_1 => ?_)
      have h := h x_1 ex_1
      refine g_goto C 2 (by decide) dX0_layAll_60 ?_
      exact g_pick [1, 2, 0] rfl (hK2 _ _ _ h)
    · have h := h.2 hc
      refine g_aload_n C 0 0 rfl rfl dX0_layAll_29 ?_
      refine g_iload_n C 2 2 rfl rfl dX0_layAll_30 ?_
      refine g_iload_n C 3 3 rfl rfl dX0_layAll_31 ?_
      refine g_callIs C (m_X1_row l D cA ad h) hv_X1_row tw_X0_100 (As := [vI x2, vI x3]) (st := [.ref (ad 17)]) rfl rfl ⟨Nat.le_of_ble_eq_true rfl, Nat.le_of_ble_eq_true rfl⟩ rfl rfl (Nat.le_of_ble_eq_true rfl) dX0_layAll_32 (fun r3 σ2 h => ?_)
      try dsimp only at h
      refine g_iload_n C 1 1 rfl rfl dX0_layAll_35 ?_
      refine g_iconst C dX0_layAll_36 ?_
      refine g_callVv C (m_X0_lay l D cA ad h) hv_X0_lay tw_X0_103 (o := 17) (ci := 0) (As := [vI r3, vI x1, vI 0]) (st := []) rfl rfl rfl rfl ⟨Nat.le_of_ble_eq_true rfl, Nat.le_of_ble_eq_true rfl⟩ rfl rfl (Nat.le_of_ble_eq_true rfl) dX0_layAll_37 (fun σ4 h => ?_)
      try dsimp only at h
      refine g_aload_n C 0 0 rfl rfl dX0_layAll_40 ?_
      refine g_iload_n C 2 2 rfl rfl dX0_layAll_41 ?_
      refine g_iload_n C 3 3 rfl rfl dX0_layAll_42 ?_
      refine g_callIs C (m_X1_row l D cA ad h) hv_X1_row tw_X0_100 (As := [vI x2, vI x3]) (st := [.ref (ad 17)]) rfl rfl ⟨Nat.le_of_ble_eq_true rfl, Nat.le_of_ble_eq_true rfl⟩ rfl rfl (Nat.le_of_ble_eq_true rfl) dX0_layAll_43 (fun r6 σ5 h => ?_)
      try dsimp only at h
      refine g_iload_n C 1 1 rfl rfl dX0_layAll_46 ?_
      refine g_iconst C dX0_layAll_47 ?_
      refine g_callVv C (m_X0_lay l D cA ad h) hv_X0_lay tw_X0_103 (o := 17) (ci := 0) (As := [vI r6, vI x1, vI 1]) (st := []) rfl rfl rfl rfl ⟨Nat.le_of_ble_eq_true rfl, Nat.le_of_ble_eq_true rfl⟩ rfl rfl (Nat.le_of_ble_eq_true rfl) dX0_layAll_48 (fun σ7 h => ?_)
      try dsimp only at h
      refine g_iinc C 3 3 [(0, .ref (ad 17)), (1, vI x1), (2, vI x2)] rfl (by decide) rfl dX0_layAll_51 (fun x_8 ex_8 => ?_)
      have h := h x_8 ex_8
      refine g_goto C 25 (by decide) dX0_layAll_54 ?_
      exact g_pick [1, 2, 3, 0] rfl (ih _ _ _ _ h)
set_option maxRecDepth 100000 in
set_option maxHeartbeats 4000000 in
theorem m_X0_layAll_L2 {p : Program} {l : Launch} {e : Env} {s : State} {m : MethodId} {args : Array Value} {below : List Frame} {meth : Method} {c : Code} {D : va_G} {cA : Nat → ClassId} {ad : Nat → Nat} (C : Cx p s m args c cX0_layAll RX0 4 D cA shC ad zsC) (hlocks : meth.locks = false) (hr : meth.sig.returnType = none) {Q : St → Prop} : ∀ (n : Nat) (x1 : Int) (x2 : Int) (σ : St), wp_X0_layAll_L2 Q n x1 x2 σ → G p l e rm_X0_layAll s m args below meth c 0 0 4 D cA shC ad (QV D cA shC ad zsC below args s Q) σ [(0, .ref (ad 17)), (1, vI x1), (2, vI x2)] [] 2 := by
  intro n
  induction n with
  | zero => intro _ _ _ h; exact h.elim
  | succ n ih =>
    intro x1 x2 σ h
    simp only [wp_X0_layAll_L2] at h
    refine g_iload_n C 2 2 rfl rfl dX0_layAll_2 ?_
    refine g_aload_n C 0 0 rfl rfl dX0_layAll_3 ?_
    refine g_get C iX0 (ci := 0) (o := 17) (v := .ref (ad 3)) rfl rfl 1 (by decide) rfl tw_X0_28 dX0_layAll_4 ?_
    refine g_get C iX1 (ci := 1) (o := 3) (v := vI (σ 3 4)) rfl rfl 4 (by decide) rfl tw_X0_67 dX0_layAll_7 ?_
    refine g_icmp_ge C rfl rfl 63 (by decide) dX0_layAll_10 (fun hc => ?_) (fun hc => ?_)
    · have h := h.1 hc
      exact g_vret C hlocks hr h dX0_layAll_63
    · have h := h.2 hc
      refine g_aload_n C 0 0 rfl rfl dX0_layAll_13 ?_
      refine g_get C iX0 (ci := 0) (o := 17) (v := .ref (ad 3)) rfl rfl 1 (by decide) rfl tw_X0_28 dX0_layAll_14 ?_
      refine g_get C iX1 (ci := 1) (o := 3) (v := .ref (ad 10)) rfl rfl 2 (by decide) rfl tw_X0_97 dX0_layAll_17 ?_
      refine g_iload_n C 2 2 rfl rfl dX0_layAll_20 ?_
      obtain ⟨hi, h⟩ := h
      refine g_iald C (o := 10) (N := 17) rfl rfl hi rfl dX0_layAll_21 ?_
      refine g_iconst C dX0_layAll_22 ?_
      refine g_isub C dX0_layAll_23 ?_
      refine g_name (fun x_1 ex_1 => ?_)
      have h := h x_1 ex_1
      refine g_istore_n C 3 [(0, .ref (ad 17)), (1, vI x1), (2, vI x2)] rfl (by decide) rfl dX0_layAll_24 ?_
      obtain ⟨nn, h⟩ := h
      exact g_pick [1, 2, 3, 0] rfl (m_X0_layAll_L25 C hlocks hr (fun _ _ _ h => ih _ _ _ h) nn _ _ _ _ h)
set_option maxRecDepth 100000 in
set_option maxHeartbeats 4000000 in
theorem m_X0_layAll_E {p : Program} {l : Launch} {e : Env} {s : State} {m : MethodId} {args : Array Value} {below : List Frame} {meth : Method} {c : Code} {D : va_G} {cA : Nat → ClassId} {ad : Nat → Nat} (C : Cx p s m args c cX0_layAll RX0 4 D cA shC ad zsC) (hlocks : meth.locks = false) (hr : meth.sig.returnType = none) {Q : St → Prop} {a1 : Int} {σ : St} (h : wp_X0_layAll a1 Q σ) : G p l e rm_X0_layAll s m args below meth c 0 0 4 D cA shC ad (QV D cA shC ad zsC below args s Q) σ [(0, .ref (ad 17)), (1, vI a1)] [] 0 := by
  unfold wp_X0_layAll at h
  refine g_iconst C dX0_layAll_0 ?_
  refine g_istore_n C 2 [(0, .ref (ad 17)), (1, vI a1)] rfl (by decide) rfl dX0_layAll_1 ?_
  obtain ⟨nn, h⟩ := h
  exact g_pick [1, 2, 0] rfl (m_X0_layAll_L2 C hlocks hr nn _ _ _ h)
set_option maxRecDepth 100000 in
set_option maxHeartbeats 4000000 in
theorem m_X0_layAll (l : Launch) (D : va_G) (cA : Nat → ClassId) (ad : Nat → Nat) {a1 : Int} {Q : St → Prop} {σ : St} (h : wp_X0_layAll a1 Q σ) : CtV l yX0_layAll (.code yX0_layAll cX0_layAll 4 none) rm_X0_layAll D cA shC ad zsC [.ref (ad 17), vI a1] σ Q :=
  ct_V RX0 (by decide +kernel) rfl (Nat.le_of_ble_eq_true rfl) (fun p e s m args below meth c C hlocks hr => m_X0_layAll_E C hlocks hr h)
abbrev rm_X1_rootLabel : Room := { frames := 2, cells := 0, slots := 0, locals := 22 }
set_option maxRecDepth 100000 in
set_option maxHeartbeats 4000000 in
theorem m_X1_rootLabel_E {p : Program} {l : Launch} {e : Env} {s : State} {m : MethodId} {args : Array Value} {below : List Frame} {meth : Method} {c : Code} {D : va_G} {cA : Nat → ClassId} {ad : Nat → Nat} (C : Cx p s m args c cX1_rootLabel RX1 2 D cA shC ad zsC) (hlocks : meth.locks = false) (hr : meth.sig.returnType = (some .int)) {Q : Int → St → Prop} {a1 : Int} {σ : St} (h : wp_X1_rootLabel a1 Q σ) : G p l e rm_X1_rootLabel s m args below meth c 0 0 2 D cA shC ad (QI D cA shC ad zsC below args s Q) σ [(0, .ref (ad 3)), (1, vI a1)] [] 0 := by
  unfold wp_X1_rootLabel at h
  refine g_aload_n C 0 0 rfl rfl dX1_rootLabel_0 ?_
  refine g_iload_n C 1 1 rfl rfl dX1_rootLabel_1 ?_
  refine g_iconst C dX1_rootLabel_2 ?_
  refine g_callIs C (m_X1_row l D cA ad h) hv_X1_row tw_X1_30 (As := [vI a1, vI 0]) (st := [.ref (ad 3)]) rfl rfl ⟨Nat.le_of_ble_eq_true rfl, Nat.le_of_ble_eq_true rfl⟩ rfl rfl (Nat.le_of_ble_eq_true rfl) dX1_rootLabel_3 (fun r2 σ1 h => ?_)
  try dsimp only at h
  refine g_iconst C dX1_rootLabel_6 ?_
  refine g_callIv C (m_X1_cell l D cA ad h) hv_X1_cell tw_X1_38 (o := 3) (ci := 1) (As := [vI r2, vI 1]) (st := []) rfl rfl rfl rfl ⟨Nat.le_of_ble_eq_true rfl, Nat.le_of_ble_eq_true rfl⟩ rfl rfl (Nat.le_of_ble_eq_true rfl) dX1_rootLabel_7 (fun r4 σ3 h => ?_)
  try dsimp only at h
  exact g_iret C hlocks hr h dX1_rootLabel_10
set_option maxRecDepth 100000 in
set_option maxHeartbeats 4000000 in
theorem m_X1_rootLabel (l : Launch) (D : va_G) (cA : Nat → ClassId) (ad : Nat → Nat) {a1 : Int} {Q : Int → St → Prop} {σ : St} (h : wp_X1_rootLabel a1 Q σ) : CtI l yX1_rootLabel (.code yX1_rootLabel cX1_rootLabel 2 (some .int)) rm_X1_rootLabel D cA shC ad zsC [.ref (ad 3), vI a1] σ Q :=
  ct_I RX1 (by decide +kernel) rfl (Nat.le_of_ble_eq_true rfl) (fun p e s m args below meth c C hlocks hr => m_X1_rootLabel_E C hlocks hr h)
abbrev rm_X1_isAuxiliary : Room := { frames := 2, cells := 0, slots := 0, locals := 21 }
set_option maxRecDepth 100000 in
set_option maxHeartbeats 4000000 in
theorem m_X1_isAuxiliary_E {p : Program} {l : Launch} {e : Env} {s : State} {m : MethodId} {args : Array Value} {below : List Frame} {meth : Method} {c : Code} {D : va_G} {cA : Nat → ClassId} {ad : Nat → Nat} (C : Cx p s m args c cX1_isAuxiliary RX1 2 D cA shC ad zsC) (hlocks : meth.locks = false) (hr : meth.sig.returnType = (some .boolean)) {Q : Int → St → Prop} {a1 : Int} {σ : St} (h : wp_X1_isAuxiliary a1 Q σ) : G p l e rm_X1_isAuxiliary s m args below meth c 0 0 2 D cA shC ad (QI D cA shC ad zsC below args s Q) σ [(0, .ref (ad 3)), (1, vI a1)] [] 0 := by
  unfold wp_X1_isAuxiliary at h
  refine g_aload_n C 0 0 rfl rfl dX1_isAuxiliary_0 ?_
  refine g_iload_n C 1 1 rfl rfl dX1_isAuxiliary_1 ?_
  refine g_iconst C dX1_isAuxiliary_2 ?_
  refine g_callIs C (m_X1_row l D cA ad h) hv_X1_row tw_X1_30 (As := [vI a1, vI 0]) (st := [.ref (ad 3)]) rfl rfl ⟨Nat.le_of_ble_eq_true rfl, Nat.le_of_ble_eq_true rfl⟩ rfl rfl (Nat.le_of_ble_eq_true rfl) dX1_isAuxiliary_3 (fun r2 σ1 h => ?_)
  try dsimp only at h
  refine g_callIv C (m_X1_hasFoot l D cA ad h) hv_X1_hasFoot tw_X1_34 (o := 3) (ci := 1) (As := [vI r2]) (st := []) rfl rfl rfl rfl ⟨Nat.le_of_ble_eq_true rfl, Nat.le_of_ble_eq_true rfl⟩ rfl rfl (Nat.le_of_ble_eq_true rfl) dX1_isAuxiliary_6 (fun r4 σ3 h => ?_)
  try dsimp only at h
  exact g_zret C hlocks hr h.1 h.2 dX1_isAuxiliary_9
set_option maxRecDepth 100000 in
set_option maxHeartbeats 4000000 in
theorem m_X1_isAuxiliary (l : Launch) (D : va_G) (cA : Nat → ClassId) (ad : Nat → Nat) {a1 : Int} {Q : Int → St → Prop} {σ : St} (h : wp_X1_isAuxiliary a1 Q σ) : CtI l yX1_isAuxiliary (.code yX1_isAuxiliary cX1_isAuxiliary 2 (some .boolean)) rm_X1_isAuxiliary D cA shC ad zsC [.ref (ad 3), vI a1] σ Q :=
  ct_I RX1 (by decide +kernel) rfl (Nat.le_of_ble_eq_true rfl) (fun p e s m args below meth c C hlocks hr => m_X1_isAuxiliary_E C hlocks hr h)
abbrev rm_X0_addAuxiliary : Room := { frames := 2, cells := 0, slots := 0, locals := 23 }
set_option maxRecDepth 100000 in
set_option maxHeartbeats 4000000 in
theorem m_X0_addAuxiliary_L18 {p : Program} {l : Launch} {e : Env} {s : State} {m : MethodId} {args : Array Value} {below : List Frame} {meth : Method} {c : Code} {D : va_G} {cA : Nat → ClassId} {ad : Nat → Nat} (C : Cx p s m args c cX0_addAuxiliary RX0 9 D cA shC ad zsC) (hlocks : meth.locks = false) (hr : meth.sig.returnType = none) {Q : St → Prop} {K6 : Int → Int → Int → Int → Int → St → Prop} (hK6 : ∀ (x1 : Int) (x2 : Int) (x3 : Int) (x4 : Int) (x5 : Int) (σ : St), K6 x1 x2 x3 x4 x5 σ → G p l e rm_X0_addAuxiliary s m args below meth c 0 0 9 D cA shC ad (QV D cA shC ad zsC below args s Q) σ [(0, .ref (ad 17)), (1, vI x1), (2, vI x2), (3, vI x3), (4, vI x4), (5, vI x5)] [] 6) : ∀ (n : Nat) (x1 : Int) (x2 : Int) (x3 : Int) (x4 : Int) (x5 : Int) (x6 : Int) (σ : St), wp_X0_addAuxiliary_L18 K6 Q n x1 x2 x3 x4 x5 x6 σ → G p l e rm_X0_addAuxiliary s m args below meth c 0 0 9 D cA shC ad (QV D cA shC ad zsC below args s Q) σ [(0, .ref (ad 17)), (1, vI x1), (2, vI x2), (3, vI x3), (4, vI x4), (5, vI x5), (6, vI x6)] [] 18 := by
  intro n
  induction n with
  | zero => intro _ _ _ _ _ _ _ h; exact h.elim
  | succ n ih =>
    intro x1 x2 x3 x4 x5 x6 σ h
    simp only [wp_X0_addAuxiliary_L18] at h
    refine g_iload C 6 6 rfl dX0_addAuxiliary_18 ?_
    refine g_iload_n C 3 3 rfl rfl dX0_addAuxiliary_20 ?_
    refine g_iload C 4 4 rfl dX0_addAuxiliary_21 ?_
    refine g_iadd C dX0_addAuxiliary_23 ?_
    refine g_icmp_gt C rfl rfl 96 (by decide) dX0_addAuxiliary_24 (fun hc => ?_) (fun hc => ?_)
    · have h := h.1 hc
      refine g_iinc C 5 5 [(0, .ref (ad 17)), (1, vI x1), (2, vI x2), (3, vI x3), (4, vI x4), (6, vI x6)] rfl (by decide) rfl dX0_addAuxiliary_96 (fun x_1 ex_1 => ?_)
      have h := h x_1 ex_1
      refine g_goto C 6 (by decide) dX0_addAuxiliary_99 ?_
      exact g_pick [1, 2, 3, 4, 5, 0] rfl (hK6 _ _ _ _ _ _ h)
    · have h := h.2 hc
      refine g_iload_n C 3 3 rfl rfl dX0_addAuxiliary_27 ?_
      refine g_iload C 5 5 rfl dX0_addAuxiliary_28 ?_
      refine g_iload C 6 6 rfl dX0_addAuxiliary_30 ?_
      refine g_iload C 6 6 rfl dX0_addAuxiliary_32 ?_
      refine g_iload C 5 5 rfl dX0_addAuxiliary_34 ?_
      refine g_iadd C dX0_addAuxiliary_36 ?_
      refine g_iload_n C 3 3 rfl rfl dX0_addAuxiliary_37 ?_
      refine g_isub C dX0_addAuxiliary_38 ?_
      refine g_iload C 4 4 rfl dX0_addAuxiliary_39 ?_
      refine g_isub C dX0_addAuxiliary_41 ?_
      refine g_callIs C (m_X0_at l D cA ad h) hv_X0_at tw_X0_35 (As := [vI x3, vI x5, vI x6, vI (((x6 + x5) - x3) - x4)]) (st := []) rfl rfl ⟨Nat.le_of_ble_eq_true rfl, Nat.le_of_ble_eq_true rfl⟩ rfl rfl (Nat.le_of_ble_eq_true rfl) dX0_addAuxiliary_42 (fun r3 σ2 h => ?_)
      try dsimp only at h
      refine g_istore C 7 [(0, .ref (ad 17)), (1, vI x1), (2, vI x2), (3, vI x3), (4, vI x4), (5, vI x5), (6, vI x6)] (by decide) rfl dX0_addAuxiliary_45 ?_
      refine g_iload_n C 3 2 rfl rfl dX0_addAuxiliary_47 ?_
      refine g_sipush C dX0_addAuxiliary_48 (by decide) ?_
      refine g_imul C dX0_addAuxiliary_51 ?_
      refine g_iload C 0 7 rfl dX0_addAuxiliary_52 ?_
      refine g_iadd C dX0_addAuxiliary_54 ?_
      refine g_name (fun x_4 ex_4 => ?_)
      have h := h x_4 ex_4
      refine g_istore C 8 [(7, vI r3), (0, .ref (ad 17)), (1, vI x1), (2, vI x2), (3, vI x3), (4, vI x4), (5, vI x5), (6, vI x6)] (by decide) rfl dX0_addAuxiliary_55 ?_
      refine g_aload_n C 2 0 rfl rfl dX0_addAuxiliary_57 ?_
      refine g_get C iX0 (ci := 0) (o := 17) (v := .ref (ad 22)) rfl rfl 6 (by decide) rfl tw_X0_25 dX0_addAuxiliary_58 ?_
      refine g_iload C 0 8 rfl dX0_addAuxiliary_61 ?_
      refine g_aload_n C 2 0 rfl rfl dX0_addAuxiliary_63 ?_
      refine g_get C iX0 (ci := 0) (o := 17) (v := .ref (ad 22)) rfl rfl 6 (by decide) rfl tw_X0_25 dX0_addAuxiliary_64 ?_
      refine g_iload C 0 8 rfl dX0_addAuxiliary_67 ?_
      obtain ⟨hi, h⟩ := h
      refine g_iald C (o := 22) (N := 7920) rfl rfl hi rfl dX0_addAuxiliary_69 ?_
      refine g_i2l C rfl dX0_addAuxiliary_70 ?_
      refine g_aload_n C 2 0 rfl rfl dX0_addAuxiliary_71 ?_
      refine g_get C iX0 (ci := 0) (o := 17) (v := .ref (ad 19)) rfl rfl 3 (by decide) rfl tw_X0_16 dX0_addAuxiliary_72 ?_
      refine g_iload_n C 3 1 rfl rfl dX0_addAuxiliary_75 ?_
      refine g_sipush C dX0_addAuxiliary_76 (by decide) ?_
      refine g_imul C dX0_addAuxiliary_79 ?_
      refine g_iload C 1 7 rfl dX0_addAuxiliary_80 ?_
      refine g_iadd C dX0_addAuxiliary_82 ?_
      obtain ⟨hi, h⟩ := h
      refine g_iald C (o := 19) (N := 95040) rfl rfl hi rfl dX0_addAuxiliary_83 ?_
      refine g_i2l C rfl dX0_addAuxiliary_84 ?_
      refine g_ladd C dX0_addAuxiliary_85 ?_
      refine g_callIs C (m_X0_cut l D cA ad h) hv_X0_cut tw_X0_129 (As := [vL ((w32 (σ2 22 (w32 x_4).toNat)) + (w32 (σ2 19 (w32 ((x1 * 495) + r3)).toNat)))]) (st := [vI x_4, .ref (ad 22)]) rfl rfl ⟨Nat.le_of_ble_eq_true rfl, Nat.le_of_ble_eq_true rfl⟩ rfl rfl (Nat.le_of_ble_eq_true rfl) dX0_addAuxiliary_86 (fun r6 σ5 h => ?_)
      try dsimp only at h
      obtain ⟨hi, h⟩ := h
      refine g_iast C (o := 22) (N := 7920) rfl rfl hi rfl dX0_addAuxiliary_89 (fun σ7 eσ7 => ?_)
      have h := h σ7 eσ7
      refine g_iinc C 8 6 [(8, vI x_4), (7, vI r3), (0, .ref (ad 17)), (1, vI x1), (2, vI x2), (3, vI x3), (4, vI x4), (5, vI x5)] rfl (by decide) rfl dX0_addAuxiliary_90 (fun x_8 ex_8 => ?_)
      have h := h x_8 ex_8
      refine g_goto C 18 (by decide) dX0_addAuxiliary_93 ?_
      exact g_pick [3, 4, 5, 6, 7, 8, 0] rfl (ih _ _ _ _ _ _ _ h)
set_option maxRecDepth 100000 in
set_option maxHeartbeats 4000000 in
theorem m_X0_addAuxiliary_L6 {p : Program} {l : Launch} {e : Env} {s : State} {m : MethodId} {args : Array Value} {below : List Frame} {meth : Method} {c : Code} {D : va_G} {cA : Nat → ClassId} {ad : Nat → Nat} (C : Cx p s m args c cX0_addAuxiliary RX0 9 D cA shC ad zsC) (hlocks : meth.locks = false) (hr : meth.sig.returnType = none) {Q : St → Prop} : ∀ (n : Nat) (x1 : Int) (x2 : Int) (x3 : Int) (x4 : Int) (x5 : Int) (σ : St), wp_X0_addAuxiliary_L6 Q n x1 x2 x3 x4 x5 σ → G p l e rm_X0_addAuxiliary s m args below meth c 0 0 9 D cA shC ad (QV D cA shC ad zsC below args s Q) σ [(0, .ref (ad 17)), (1, vI x1), (2, vI x2), (3, vI x3), (4, vI x4), (5, vI x5)] [] 6 := by
  intro n
  induction n with
  | zero => intro _ _ _ _ _ _ h; exact h.elim
  | succ n ih =>
    intro x1 x2 x3 x4 x5 σ h
    simp only [wp_X0_addAuxiliary_L6] at h
    refine g_iload C 5 5 rfl dX0_addAuxiliary_6 ?_
    refine g_aload_n C 0 0 rfl rfl dX0_addAuxiliary_8 ?_
    refine g_get C iX0 (ci := 0) (o := 17) (v := vI (σ 17 0)) rfl rfl 0 (by decide) rfl tw_X0_59 dX0_addAuxiliary_9 ?_
    refine g_icmp_gt C rfl rfl 102 (by decide) dX0_addAuxiliary_12 (fun hc => ?_) (fun hc => ?_)
    · have h := h.1 hc
      exact g_vret C hlocks hr h dX0_addAuxiliary_102
    · have h := h.2 hc
      refine g_iload_n C 3 3 rfl rfl dX0_addAuxiliary_15 ?_
      refine g_istore C 6 [(0, .ref (ad 17)), (1, vI x1), (2, vI x2), (3, vI x3), (4, vI x4), (5, vI x5)] (by decide) rfl dX0_addAuxiliary_16 ?_
      obtain ⟨nn, h⟩ := h
      exact g_pick [1, 2, 3, 4, 5, 6, 0] rfl (m_X0_addAuxiliary_L18 C hlocks hr (fun _ _ _ _ _ _ h => ih _ _ _ _ _ _ h) nn _ _ _ _ _ _ _ h)
set_option maxRecDepth 100000 in
set_option maxHeartbeats 4000000 in
theorem m_X0_addAuxiliary_E {p : Program} {l : Launch} {e : Env} {s : State} {m : MethodId} {args : Array Value} {below : List Frame} {meth : Method} {c : Code} {D : va_G} {cA : Nat → ClassId} {ad : Nat → Nat} (C : Cx p s m args c cX0_addAuxiliary RX0 9 D cA shC ad zsC) (hlocks : meth.locks = false) (hr : meth.sig.returnType = none) {Q : St → Prop} {a1 a2 a3 a4 : Int} {σ : St} (h : wp_X0_addAuxiliary a1 a2 a3 a4 Q σ) : G p l e rm_X0_addAuxiliary s m args below meth c 0 0 9 D cA shC ad (QV D cA shC ad zsC below args s Q) σ [(0, .ref (ad 17)), (1, vI a1), (2, vI a2), (3, vI a3), (4, vI a4)] [] 0 := by
  unfold wp_X0_addAuxiliary at h
  refine g_iload_n C 3 3 rfl rfl dX0_addAuxiliary_0 ?_
  refine g_iload C 4 4 rfl dX0_addAuxiliary_1 ?_
  refine g_iadd C dX0_addAuxiliary_3 ?_
  refine g_name (fun x_1 ex_1 => ?_)
  have h := h x_1 ex_1
  refine g_istore C 5 [(0, .ref (ad 17)), (1, vI a1), (2, vI a2), (3, vI a3), (4, vI a4)] (by decide) rfl dX0_addAuxiliary_4 ?_
  obtain ⟨nn, h⟩ := h
  exact g_pick [1, 2, 3, 4, 5, 0] rfl (m_X0_addAuxiliary_L6 C hlocks hr nn _ _ _ _ _ _ h)
set_option maxRecDepth 100000 in
set_option maxHeartbeats 4000000 in
theorem m_X0_addAuxiliary (l : Launch) (D : va_G) (cA : Nat → ClassId) (ad : Nat → Nat) {a1 a2 a3 a4 : Int} {Q : St → Prop} {σ : St} (h : wp_X0_addAuxiliary a1 a2 a3 a4 Q σ) : CtV l yX0_addAuxiliary (.code yX0_addAuxiliary cX0_addAuxiliary 9 none) rm_X0_addAuxiliary D cA shC ad zsC [.ref (ad 17), vI a1, vI a2, vI a3, vI a4] σ Q :=
  ct_V RX0 (by decide +kernel) rfl (Nat.le_of_ble_eq_true rfl) (fun p e s m args below meth c C hlocks hr => m_X0_addAuxiliary_E C hlocks hr h)
abbrev rm_X0_addTree : Room := { frames := 3, cells := 0, slots := 0, locals := 51 }
set_option maxRecDepth 100000 in
set_option maxHeartbeats 4000000 in
theorem m_X0_addTree_B110 {p : Program} {l : Launch} {e : Env} {s : State} {m : MethodId} {args : Array Value} {below : List Frame} {meth : Method} {c : Code} {D : va_G} {cA : Nat → ClassId} {ad : Nat → Nat} (C : Cx p s m args c cX0_addTree RX0 8 D cA shC ad zsC) (hlocks : meth.locks = false) (hr : meth.sig.returnType = none) {Q : St → Prop} {K19 : Int → Int → Int → Int → Int → St → Prop} (hK19 : ∀ (x1 : Int) (x2 : Int) (x3 : Int) (x4 : Int) (x5 : Int) (σ : St), K19 x1 x2 x3 x4 x5 σ → G p l e rm_X0_addTree s m args below meth c 0 0 8 D cA shC ad (QV D cA shC ad zsC below args s Q) σ [(0, .ref (ad 17)), (1, vI x1), (2, vI x2), (3, vI x3), (4, vI x4), (5, vI x5)] [] 19) {x1 x2 x3 x4 x5 : Int} {σ : St} (h : wp_X0_addTree_B110 K19 x1 x2 x3 x4 x5 Q σ) : G p l e rm_X0_addTree s m args below meth c 0 0 8 D cA shC ad (QV D cA shC ad zsC below args s Q) σ [(0, .ref (ad 17)), (1, vI x1), (2, vI x2), (3, vI x3), (4, vI x4), (5, vI x5)] [] 110 := by
  unfold wp_X0_addTree_B110 at h
  refine g_iinc C 5 5 [(0, .ref (ad 17)), (1, vI x1), (2, vI x2), (3, vI x3), (4, vI x4)] rfl (by decide) rfl dX0_addTree_110 (fun x_1 ex_1 => ?_)
  have h := h x_1 ex_1
  refine g_goto C 19 (by decide) dX0_addTree_113 ?_
  exact g_pick [1, 2, 3, 4, 5, 0] rfl (hK19 _ _ _ _ _ _ h)
set_option maxRecDepth 100000 in
set_option maxHeartbeats 4000000 in
theorem m_X0_addTree_L19 {p : Program} {l : Launch} {e : Env} {s : State} {m : MethodId} {args : Array Value} {below : List Frame} {meth : Method} {c : Code} {D : va_G} {cA : Nat → ClassId} {ad : Nat → Nat} (C : Cx p s m args c cX0_addTree RX0 8 D cA shC ad zsC) (hlocks : meth.locks = false) (hr : meth.sig.returnType = none) {Q : St → Prop} : ∀ (n : Nat) (x1 : Int) (x2 : Int) (x3 : Int) (x4 : Int) (x5 : Int) (σ : St), wp_X0_addTree_L19 Q n x1 x2 x3 x4 x5 σ → G p l e rm_X0_addTree s m args below meth c 0 0 8 D cA shC ad (QV D cA shC ad zsC below args s Q) σ [(0, .ref (ad 17)), (1, vI x1), (2, vI x2), (3, vI x3), (4, vI x4), (5, vI x5)] [] 19 := by
  intro n
  induction n with
  | zero => intro _ _ _ _ _ _ h; exact h.elim
  | succ n ih =>
    intro x1 x2 x3 x4 x5 σ h
    simp only [wp_X0_addTree_L19] at h
    refine g_iload C 5 5 rfl dX0_addTree_19 ?_
    refine g_iload_n C 2 2 rfl rfl dX0_addTree_21 ?_
    refine g_iadd C dX0_addTree_22 ?_
    refine g_aload_n C 0 0 rfl rfl dX0_addTree_23 ?_
    refine g_get C iX0 (ci := 0) (o := 17) (v := vI (σ 17 0)) rfl rfl 0 (by decide) rfl tw_X0_59 dX0_addTree_24 ?_
    refine g_icmp_gt C rfl rfl 116 (by decide) dX0_addTree_27 (fun hc => ?_) (fun hc => ?_)
    · have h := h.1 hc
      exact g_vret C hlocks hr h dX0_addTree_116
    · have h := h.2 hc
      refine g_aload_n C 0 0 rfl rfl dX0_addTree_30 ?_
      refine g_get C iX0 (ci := 0) (o := 17) (v := .ref (ad 3)) rfl rfl 1 (by decide) rfl tw_X0_28 dX0_addTree_31 ?_
      refine g_iload_n C 1 1 rfl rfl dX0_addTree_34 ?_
      refine g_callIv C (m_X1_isAuxiliary l D cA ad h) hv_X1_isAuxiliary tw_X0_151 (o := 3) (ci := 1) (As := [vI x1]) (st := []) rfl rfl rfl rfl ⟨Nat.le_of_ble_eq_true rfl, Nat.le_of_ble_eq_true rfl⟩ rfl rfl (Nat.le_of_ble_eq_true rfl) dX0_addTree_35 (fun r2 σ1 h => ?_)
      try dsimp only at h
      refine g_if_eq C rfl 54 (by decide) dX0_addTree_38 (fun hc => ?_) (fun hc => ?_)
      · have h := h.1 hc
        refine g_iload C 5 5 rfl dX0_addTree_54 ?_
        refine g_iload C 5 5 rfl dX0_addTree_56 ?_
        refine g_iload_n C 2 2 rfl rfl dX0_addTree_58 ?_
        refine g_iadd C dX0_addTree_59 ?_
        refine g_iconst C dX0_addTree_60 ?_
        refine g_iconst C dX0_addTree_61 ?_
        refine g_callIs C (m_X0_at l D cA ad h) hv_X0_at tw_X0_35 (As := [vI x5, vI (x5 + x2), vI (-1), vI (-1)]) (st := []) rfl rfl ⟨Nat.le_of_ble_eq_true rfl, Nat.le_of_ble_eq_true rfl⟩ rfl rfl (Nat.le_of_ble_eq_true rfl) dX0_addTree_62 (fun r4 σ3 h => ?_)
        try dsimp only at h
        refine g_istore C 6 [(0, .ref (ad 17)), (1, vI x1), (2, vI x2), (3, vI x3), (4, vI x4), (5, vI x5)] (by decide) rfl dX0_addTree_65 ?_
        refine g_iload C 5 4 rfl dX0_addTree_67 ?_
        refine g_bipush C dX0_addTree_69 (by decide) ?_
        refine g_imul C dX0_addTree_71 ?_
        refine g_iload C 0 6 rfl dX0_addTree_72 ?_
        refine g_iadd C dX0_addTree_74 ?_
        refine g_name (fun x_5 ex_5 => ?_)
        have h := h x_5 ex_5
        refine g_istore C 7 [(6, vI r4), (0, .ref (ad 17)), (1, vI x1), (2, vI x2), (3, vI x3), (4, vI x4), (5, vI x5)] (by decide) rfl dX0_addTree_75 ?_
        refine g_aload_n C 2 0 rfl rfl dX0_addTree_77 ?_
        refine g_get C iX0 (ci := 0) (o := 17) (v := .ref (ad 21)) rfl rfl 5 (by decide) rfl tw_X0_22 dX0_addTree_78 ?_
        refine g_iload C 0 7 rfl dX0_addTree_81 ?_
        refine g_aload_n C 2 0 rfl rfl dX0_addTree_83 ?_
        refine g_get C iX0 (ci := 0) (o := 17) (v := .ref (ad 21)) rfl rfl 5 (by decide) rfl tw_X0_22 dX0_addTree_84 ?_
        refine g_iload C 0 7 rfl dX0_addTree_87 ?_
        obtain ⟨hi, h⟩ := h
        refine g_iald C (o := 21) (N := 720) rfl rfl hi rfl dX0_addTree_89 ?_
        refine g_i2l C rfl dX0_addTree_90 ?_
        refine g_aload_n C 2 0 rfl rfl dX0_addTree_91 ?_
        refine g_get C iX0 (ci := 0) (o := 17) (v := .ref (ad 19)) rfl rfl 3 (by decide) rfl tw_X0_16 dX0_addTree_92 ?_
        refine g_iload_n C 5 3 rfl rfl dX0_addTree_95 ?_
        refine g_sipush C dX0_addTree_96 (by decide) ?_
        refine g_imul C dX0_addTree_99 ?_
        refine g_iload C 1 6 rfl dX0_addTree_100 ?_
        refine g_iadd C dX0_addTree_102 ?_
        obtain ⟨hi, h⟩ := h
        refine g_iald C (o := 19) (N := 95040) rfl rfl hi rfl dX0_addTree_103 ?_
        refine g_i2l C rfl dX0_addTree_104 ?_
        refine g_ladd C dX0_addTree_105 ?_
        refine g_callIs C (m_X0_cut l D cA ad h) hv_X0_cut tw_X0_129 (As := [vL ((w32 (σ3 21 (w32 x_5).toNat)) + (w32 (σ3 19 (w32 ((x3 * 495) + r4)).toNat)))]) (st := [vI x_5, .ref (ad 21)]) rfl rfl ⟨Nat.le_of_ble_eq_true rfl, Nat.le_of_ble_eq_true rfl⟩ rfl rfl (Nat.le_of_ble_eq_true rfl) dX0_addTree_106 (fun r7 σ6 h => ?_)
        try dsimp only at h
        obtain ⟨hi, h⟩ := h
        refine g_iast C (o := 21) (N := 720) rfl rfl hi rfl dX0_addTree_109 (fun σ8 eσ8 => ?_)
        have h := h σ8 eσ8
        exact g_pick [2, 3, 4, 5, 6, 7] rfl (m_X0_addTree_B110 C hlocks hr (fun _ _ _ _ _ _ h => ih _ _ _ _ _ _ h) h)
      · have h := h.2 hc
        refine g_aload_n C 0 0 rfl rfl dX0_addTree_41 ?_
        refine g_iload_n C 3 3 rfl rfl dX0_addTree_42 ?_
        refine g_iload C 4 4 rfl dX0_addTree_43 ?_
        refine g_iload C 5 5 rfl dX0_addTree_45 ?_
        refine g_iload_n C 2 2 rfl rfl dX0_addTree_47 ?_
        refine g_callVv C (m_X0_addAuxiliary l D cA ad h) hv_X0_addAuxiliary tw_X0_154 (o := 17) (ci := 0) (As := [vI x3, vI x4, vI x5, vI x2]) (st := []) rfl rfl rfl rfl ⟨Nat.le_of_ble_eq_true rfl, Nat.le_of_ble_eq_true rfl⟩ rfl rfl (Nat.le_of_ble_eq_true rfl) dX0_addTree_48 (fun σ9 h => ?_)
        try dsimp only at h
        refine g_goto C 110 (by decide) dX0_addTree_51 ?_
        exact g_pick [0, 1, 2, 3, 4, 5] rfl (m_X0_addTree_B110 C hlocks hr (fun _ _ _ _ _ _ h => ih _ _ _ _ _ _ h) h)
set_option maxRecDepth 100000 in
set_option maxHeartbeats 4000000 in
theorem m_X0_addTree_E {p : Program} {l : Launch} {e : Env} {s : State} {m : MethodId} {args : Array Value} {below : List Frame} {meth : Method} {c : Code} {D : va_G} {cA : Nat → ClassId} {ad : Nat → Nat} (C : Cx p s m args c cX0_addTree RX0 8 D cA shC ad zsC) (hlocks : meth.locks = false) (hr : meth.sig.returnType = none) {Q : St → Prop} {a1 a2 : Int} {σ : St} (h : wp_X0_addTree a1 a2 Q σ) : G p l e rm_X0_addTree s m args below meth c 0 0 8 D cA shC ad (QV D cA shC ad zsC below args s Q) σ [(0, .ref (ad 17)), (1, vI a1), (2, vI a2)] [] 0 := by
  unfold wp_X0_addTree at h
  refine g_iload_n C 1 1 rfl rfl dX0_addTree_0 ?_
  refine g_iconst C dX0_addTree_1 ?_
  refine g_callIs C (m_X1_row l D cA ad h) hv_X1_row tw_X0_100 (As := [vI a1, vI 0]) (st := []) rfl rfl ⟨Nat.le_of_ble_eq_true rfl, Nat.le_of_ble_eq_true rfl⟩ rfl rfl (Nat.le_of_ble_eq_true rfl) dX0_addTree_2 (fun r2 σ1 h => ?_)
  try dsimp only at h
  refine g_istore_n C 3 [(0, .ref (ad 17)), (1, vI a1), (2, vI a2)] rfl (by decide) rfl dX0_addTree_5 ?_
  refine g_aload_n C 1 0 rfl rfl dX0_addTree_6 ?_
  refine g_get C iX0 (ci := 0) (o := 17) (v := .ref (ad 3)) rfl rfl 1 (by decide) rfl tw_X0_28 dX0_addTree_7 ?_
  refine g_iload_n C 2 1 rfl rfl dX0_addTree_10 ?_
  refine g_callIv C (m_X1_rootLabel l D cA ad h) hv_X1_rootLabel tw_X0_148 (o := 3) (ci := 1) (As := [vI a1]) (st := []) rfl rfl rfl rfl ⟨Nat.le_of_ble_eq_true rfl, Nat.le_of_ble_eq_true rfl⟩ rfl rfl (Nat.le_of_ble_eq_true rfl) dX0_addTree_11 (fun r4 σ3 h => ?_)
  try dsimp only at h
  refine g_istore C 4 [(3, vI r2), (0, .ref (ad 17)), (1, vI a1), (2, vI a2)] (by decide) rfl dX0_addTree_14 ?_
  refine g_iconst C dX0_addTree_16 ?_
  refine g_istore C 5 [(4, vI r4), (3, vI r2), (0, .ref (ad 17)), (1, vI a1), (2, vI a2)] (by decide) rfl dX0_addTree_17 ?_
  obtain ⟨nn, h⟩ := h
  exact g_pick [3, 4, 5, 2, 1, 0] rfl (m_X0_addTree_L19 C hlocks hr nn _ _ _ _ _ _ h)
set_option maxRecDepth 100000 in
set_option maxHeartbeats 4000000 in
theorem m_X0_addTree (l : Launch) (D : va_G) (cA : Nat → ClassId) (ad : Nat → Nat) {a1 a2 : Int} {Q : St → Prop} {σ : St} (h : wp_X0_addTree a1 a2 Q σ) : CtV l yX0_addTree (.code yX0_addTree cX0_addTree 8 none) rm_X0_addTree D cA shC ad zsC [.ref (ad 17), vI a1, vI a2] σ Q :=
  ct_V RX0 (by decide +kernel) rfl (Nat.le_of_ble_eq_true rfl) (fun p e s m args below meth c C hlocks hr => m_X0_addTree_E C hlocks hr h)
abbrev rm_X0_fill : Room := { frames := 7, cells := 0, slots := 0, locals := 163 }
set_option maxRecDepth 100000 in
set_option maxHeartbeats 4000000 in
theorem m_X0_fill_L38 {p : Program} {l : Launch} {e : Env} {s : State} {m : MethodId} {args : Array Value} {below : List Frame} {meth : Method} {c : Code} {D : va_G} {cA : Nat → ClassId} {ad : Nat → Nat} (C : Cx p s m args c cX0_fill RX0 4 D cA shC ad zsC) (hlocks : meth.locks = false) (hr : meth.sig.returnType = none) {Q : St → Prop} {K23 : Int → St → Prop} (hK23 : ∀ (x2 : Int) (σ : St), K23 x2 σ → G p l e rm_X0_fill s m args below meth c 0 0 4 D cA shC ad (QV D cA shC ad zsC below args s Q) σ [(0, .ref (ad 17)), (2, vI x2)] [] 23) : ∀ (n : Nat) (x2 : Int) (x3 : Int) (σ : St), wp_X0_fill_L38 K23 Q n x2 x3 σ → G p l e rm_X0_fill s m args below meth c 0 0 4 D cA shC ad (QV D cA shC ad zsC below args s Q) σ [(0, .ref (ad 17)), (2, vI x2), (3, vI x3)] [] 38 := by
  intro n
  induction n with
  | zero => intro _ _ _ h; exact h.elim
  | succ n ih =>
    intro x2 x3 σ h
    simp only [wp_X0_fill_L38] at h
    refine g_iload_n C 2 3 rfl rfl dX0_fill_38 ?_
    refine g_aload_n C 0 0 rfl rfl dX0_fill_39 ?_
    refine g_get C iX0 (ci := 0) (o := 17) (v := .ref (ad 3)) rfl rfl 1 (by decide) rfl tw_X0_28 dX0_fill_40 ?_
    refine g_get C iX1 (ci := 1) (o := 3) (v := vI (σ 3 4)) rfl rfl 4 (by decide) rfl tw_X0_67 dX0_fill_43 ?_
    refine g_icmp_ge C rfl rfl 61 (by decide) dX0_fill_46 (fun hc => ?_) (fun hc => ?_)
    · have h := h.1 hc
      refine g_aload_n C 0 0 rfl rfl dX0_fill_61 ?_
      refine g_iload_n C 1 2 rfl rfl dX0_fill_62 ?_
      refine g_callVv C (m_X0_layAll l D cA ad h) hv_X0_layAll tw_X0_63 (o := 17) (ci := 0) (As := [vI x2]) (st := []) rfl rfl rfl rfl ⟨Nat.le_of_ble_eq_true rfl, Nat.le_of_ble_eq_true rfl⟩ rfl rfl (Nat.le_of_ble_eq_true rfl) dX0_fill_63 (fun σ1 h => ?_)
      try dsimp only at h
      refine g_iinc C 1 2 [(0, .ref (ad 17)), (3, vI x3)] rfl (by decide) rfl dX0_fill_66 (fun x_2 ex_2 => ?_)
      have h := h x_2 ex_2
      refine g_goto C 23 (by decide) dX0_fill_69 ?_
      exact g_pick [1, 0] rfl (hK23 _ _ h)
    · have h := h.2 hc
      refine g_aload_n C 0 0 rfl rfl dX0_fill_49 ?_
      refine g_iload_n C 2 3 rfl rfl dX0_fill_50 ?_
      refine g_iload_n C 1 2 rfl rfl dX0_fill_51 ?_
      refine g_callVv C (m_X0_addTree l D cA ad h) hv_X0_addTree tw_X0_70 (o := 17) (ci := 0) (As := [vI x3, vI x2]) (st := []) rfl rfl rfl rfl ⟨Nat.le_of_ble_eq_true rfl, Nat.le_of_ble_eq_true rfl⟩ rfl rfl (Nat.le_of_ble_eq_true rfl) dX0_fill_52 (fun σ3 h => ?_)
      try dsimp only at h
      refine g_iinc C 2 3 [(0, .ref (ad 17)), (2, vI x2)] rfl (by decide) rfl dX0_fill_55 (fun x_4 ex_4 => ?_)
      have h := h x_4 ex_4
      refine g_goto C 38 (by decide) dX0_fill_58 ?_
      exact g_pick [1, 2, 0] rfl (ih _ _ _ h)
set_option maxRecDepth 100000 in
set_option maxHeartbeats 4000000 in
theorem m_X0_fill_L23 {p : Program} {l : Launch} {e : Env} {s : State} {m : MethodId} {args : Array Value} {below : List Frame} {meth : Method} {c : Code} {D : va_G} {cA : Nat → ClassId} {ad : Nat → Nat} (C : Cx p s m args c cX0_fill RX0 4 D cA shC ad zsC) (hlocks : meth.locks = false) (hr : meth.sig.returnType = none) {Q : St → Prop} : ∀ (n : Nat) (x2 : Int) (σ : St), wp_X0_fill_L23 Q n x2 σ → G p l e rm_X0_fill s m args below meth c 0 0 4 D cA shC ad (QV D cA shC ad zsC below args s Q) σ [(0, .ref (ad 17)), (2, vI x2)] [] 23 := by
  intro n
  induction n with
  | zero => intro _ _ h; exact h.elim
  | succ n ih =>
    intro x2 σ h
    simp only [wp_X0_fill_L23] at h
    refine g_iload_n C 1 2 rfl rfl dX0_fill_23 ?_
    refine g_aload_n C 0 0 rfl rfl dX0_fill_24 ?_
    refine g_get C iX0 (ci := 0) (o := 17) (v := vI (σ 17 0)) rfl rfl 0 (by decide) rfl tw_X0_59 dX0_fill_25 ?_
    refine g_icmp_gt C rfl rfl 72 (by decide) dX0_fill_28 (fun hc => ?_) (fun hc => ?_)
    · have h := h.1 hc
      exact g_vret C hlocks hr h dX0_fill_72
    · have h := h.2 hc
      refine g_aload_n C 0 0 rfl rfl dX0_fill_31 ?_
      refine g_iload_n C 1 2 rfl rfl dX0_fill_32 ?_
      refine g_callVv C (m_X0_layAll l D cA ad h) hv_X0_layAll tw_X0_63 (o := 17) (ci := 0) (As := [vI x2]) (st := []) rfl rfl rfl rfl ⟨Nat.le_of_ble_eq_true rfl, Nat.le_of_ble_eq_true rfl⟩ rfl rfl (Nat.le_of_ble_eq_true rfl) dX0_fill_33 (fun σ1 h => ?_)
      try dsimp only at h
      refine g_iconst C dX0_fill_36 ?_
      refine g_istore_n C 3 [(0, .ref (ad 17)), (2, vI x2)] rfl (by decide) rfl dX0_fill_37 ?_
      obtain ⟨nn, h⟩ := h
      exact g_pick [1, 2, 0] rfl (m_X0_fill_L38 C hlocks hr (fun _ _ h => ih _ _ h) nn _ _ _ h)
set_option maxRecDepth 100000 in
set_option maxHeartbeats 4000000 in
theorem m_X0_fill_E {p : Program} {l : Launch} {e : Env} {s : State} {m : MethodId} {args : Array Value} {below : List Frame} {meth : Method} {c : Code} {D : va_G} {cA : Nat → ClassId} {ad : Nat → Nat} (C : Cx p s m args c cX0_fill RX0 4 D cA shC ad zsC) (hlocks : meth.locks = false) (hr : meth.sig.returnType = none) {Q : St → Prop} {σ : St} (h : wp_X0_fill Q σ) : G p l e rm_X0_fill s m args below meth c 0 0 4 D cA shC ad (QV D cA shC ad zsC below args s Q) σ [(0, .ref (ad 17)), (1, .ref (ad 14))] [] 0 := by
  unfold wp_X0_fill at h
  refine g_aload_n C 0 0 rfl rfl dX0_fill_0 ?_
  refine g_aload_n C 1 1 rfl rfl dX0_fill_1 ?_
  refine g_callVv C (m_X0_hear l D cA ad h) hv_X0_hear tw_X0_49 (o := 17) (ci := 0) (As := [.ref (ad 14)]) (st := []) rfl rfl rfl rfl ⟨Nat.le_of_ble_eq_true rfl, Nat.le_of_ble_eq_true rfl⟩ rfl rfl (Nat.le_of_ble_eq_true rfl) dX0_fill_2 (fun σ1 h => ?_)
  try dsimp only at h
  refine g_aload_n C 0 0 rfl rfl dX0_fill_5 ?_
  refine g_get C iX0 (ci := 0) (o := 17) (v := .ref (ad 21)) rfl rfl 5 (by decide) rfl tw_X0_22 dX0_fill_6 ?_
  refine g_iconst C dX0_fill_9 ?_
  refine g_callVs C (m_J7_fill_53178_21 l D cA ad h) hv_J7_fill_53178 tw_X0_53 (As := [.ref (ad 21), vI 0]) (st := []) rfl rfl ⟨Nat.le_of_ble_eq_true rfl, Nat.le_of_ble_eq_true rfl⟩ rfl rfl (Nat.le_of_ble_eq_true rfl) dX0_fill_10 (fun σ2 h => ?_)
  try dsimp only at h
  refine g_aload_n C 0 0 rfl rfl dX0_fill_13 ?_
  refine g_get C iX0 (ci := 0) (o := 17) (v := .ref (ad 22)) rfl rfl 6 (by decide) rfl tw_X0_25 dX0_fill_14 ?_
  refine g_iconst C dX0_fill_17 ?_
  refine g_callVs C (m_J7_fill_53178_22 l D cA ad h) hv_J7_fill_53178 tw_X0_53 (As := [.ref (ad 22), vI 0]) (st := []) rfl rfl ⟨Nat.le_of_ble_eq_true rfl, Nat.le_of_ble_eq_true rfl⟩ rfl rfl (Nat.le_of_ble_eq_true rfl) dX0_fill_18 (fun σ3 h => ?_)
  try dsimp only at h
  refine g_iconst C dX0_fill_21 ?_
  refine g_istore_n C 2 [(0, .ref (ad 17)), (1, .ref (ad 14))] rfl (by decide) rfl dX0_fill_22 ?_
  obtain ⟨nn, h⟩ := h
  exact g_pick [1, 0] rfl (m_X0_fill_L23 C hlocks hr nn _ _ h)
set_option maxRecDepth 100000 in
set_option maxHeartbeats 4000000 in
theorem m_X0_fill (l : Launch) (D : va_G) (cA : Nat → ClassId) (ad : Nat → Nat) {Q : St → Prop} {σ : St} (h : wp_X0_fill Q σ) : CtV l yX0_fill (.code yX0_fill cX0_fill 4 none) rm_X0_fill D cA shC ad zsC [.ref (ad 17), .ref (ad 14)] σ Q :=
  ct_V RX0 (by decide +kernel) rfl (Nat.le_of_ble_eq_true rfl) (fun p e s m args below meth c C hlocks hr => m_X0_fill_E C hlocks hr h)
abbrev rm_X8_read : Room := { frames := 8, cells := 0, slots := 0, locals := 186 }
set_option maxRecDepth 100000 in
set_option maxHeartbeats 4000000 in
theorem m_X8_read_B92 {p : Program} {l : Launch} {e : Env} {s : State} {m : MethodId} {args : Array Value} {below : List Frame} {meth : Method} {c : Code} {D : va_G} {cA : Nat → ClassId} {ad : Nat → Nat} (C : Cx p s m args c cX8_read RX8 2 D cA shC ad zsC) (hlocks : meth.locks = false) (hr : meth.sig.returnType = (some .int)) {Q : Int → St → Prop} {σ : St} (h : wp_X8_read_B92 Q σ) : G p l e rm_X8_read s m args below meth c 0 0 2 D cA shC ad (QI D cA shC ad zsC below args s Q) σ [(0, .ref (ad 0))] [] 92 := by
  unfold wp_X8_read_B92 at h
  refine g_aload_n C 0 0 rfl rfl dX8_read_92 ?_
  refine g_get C iX8 (ci := 8) (o := 0) (v := vI (σ 0 9)) rfl rfl 9 (by decide) rfl tw_X8_75 dX8_read_93 ?_
  exact g_iret C hlocks hr h dX8_read_96
set_option maxRecDepth 100000 in
set_option maxHeartbeats 4000000 in
theorem m_X8_read_E {p : Program} {l : Launch} {e : Env} {s : State} {m : MethodId} {args : Array Value} {below : List Frame} {meth : Method} {c : Code} {D : va_G} {cA : Nat → ClassId} {ad : Nat → Nat} (C : Cx p s m args c cX8_read RX8 2 D cA shC ad zsC) (hlocks : meth.locks = false) (hr : meth.sig.returnType = (some .int)) {Q : Int → St → Prop} {σ : St} (h : wp_X8_read Q σ) : G p l e rm_X8_read s m args below meth c 0 0 2 D cA shC ad (QI D cA shC ad zsC below args s Q) σ [(0, .ref (ad 0))] [] 0 := by
  unfold wp_X8_read at h
  refine g_aload_n C 0 0 rfl rfl dX8_read_0 ?_
  refine g_callVv C (m_X8_forgetReading l D cA ad h) hv_X8_forgetReading tw_X8_106 (o := 0) (ci := 8) (As := []) (st := []) rfl rfl rfl rfl ⟨Nat.le_of_ble_eq_true rfl, Nat.le_of_ble_eq_true rfl⟩ rfl rfl (Nat.le_of_ble_eq_true rfl) dX8_read_1 (fun σ1 h => ?_)
  try dsimp only at h
  refine g_aload_n C 0 0 rfl rfl dX8_read_4 ?_
  refine g_aload_n C 0 0 rfl rfl dX8_read_5 ?_
  refine g_callIv C (m_X8_parseLabel l D cA ad h) hv_X8_parseLabel tw_X8_127 (o := 0) (ci := 8) (As := []) (st := [.ref (ad 0)]) rfl rfl rfl rfl ⟨Nat.le_of_ble_eq_true rfl, Nat.le_of_ble_eq_true rfl⟩ rfl rfl (Nat.le_of_ble_eq_true rfl) dX8_read_6 (fun r3 σ2 h => ?_)
  try dsimp only at h
  refine g_put C iX8 (ci := 8) (o := 0) (z := r3) (ty := .int) rfl tyX8_ok nmX8 rfl 7 (by decide) rfl rfl tw_X8_68 rfl (by decide +kernel) rfl rfl dX8_read_9 (fun σ4 eσ4 => ?_)
  have h := h σ4 eσ4
  refine g_aload_n C 0 0 rfl rfl dX8_read_12 ?_
  refine g_get C iX8 (ci := 8) (o := 0) (v := .ref (ad 1)) rfl rfl 0 (by decide) rfl tw_X8_12 dX8_read_13 ?_
  refine g_get C iX4 (ci := 4) (o := 1) (v := vI (σ4 1 3)) rfl rfl 3 (by decide) rfl tw_X8_115 dX8_read_16 ?_
  refine g_name (fun x_5 ex_5 => ?_)
  have h := h x_5 ex_5
  refine g_istore_n C 1 [(0, .ref (ad 0))] rfl (by decide) rfl dX8_read_19 ?_
  refine g_aload_n C 1 0 rfl rfl dX8_read_20 ?_
  refine g_get C iX8 (ci := 8) (o := 0) (v := .ref (ad 1)) rfl rfl 0 (by decide) rfl tw_X8_12 dX8_read_21 ?_
  refine g_iconst C dX8_read_24 ?_
  refine g_put C iX4 (ci := 4) (o := 1) (z := 0) (ty := .int) rfl tyX4_ok nmX4 rfl 1 (by decide) rfl rfl tw_X8_78 rfl (by decide +kernel) rfl rfl dX8_read_25 (fun σ6 eσ6 => ?_)
  have h := h σ6 eσ6
  refine g_aload_n C 1 0 rfl rfl dX8_read_28 ?_
  refine g_get C iX8 (ci := 8) (o := 0) (v := vI (σ6 0 7)) rfl rfl 7 (by decide) rfl tw_X8_68 dX8_read_29 ?_
  refine g_if_eq C rfl 39 (by decide) dX8_read_32 (fun hc => ?_) (fun hc => ?_)
  · have h := h.1 hc
    refine g_aload_n C 1 0 rfl rfl dX8_read_39 ?_
    refine g_get C iX8 (ci := 8) (o := 0) (v := vI (σ6 0 8)) rfl rfl 8 (by decide) rfl tw_X8_72 dX8_read_40 ?_
    refine g_iconst C dX8_read_43 ?_
    refine g_icmp_ne C (y' := (-1)) rfl (by decide) 55 (by decide) dX8_read_44 (fun hc => ?_) (fun hc => ?_)
    · have h := h.1 hc
      refine g_aload_n C 1 0 rfl rfl dX8_read_55 ?_
      refine g_get C iX8 (ci := 8) (o := 0) (v := .ref (ad 17)) rfl rfl 4 (by decide) rfl tw_X8_46 dX8_read_56 ?_
      refine g_aload_n C 1 0 rfl rfl dX8_read_59 ?_
      refine g_get C iX8 (ci := 8) (o := 0) (v := .ref (ad 13)) rfl rfl 3 (by decide) rfl tw_X8_37 dX8_read_60 ?_
      refine g_get C iX3 (ci := 3) (o := 13) (v := .ref (ad 14)) rfl rfl 0 (by decide) rfl tw_X8_118 dX8_read_63 ?_
      refine g_callVv C (m_X0_fill l D cA ad h) hv_X0_fill tw_X8_130 (o := 17) (ci := 0) (As := [.ref (ad 14)]) (st := []) rfl rfl rfl rfl ⟨Nat.le_of_ble_eq_true rfl, Nat.le_of_ble_eq_true rfl⟩ rfl rfl (Nat.le_of_ble_eq_true rfl) dX8_read_66 (fun σ7 h => ?_)
      try dsimp only at h
      refine g_aload_n C 1 0 rfl rfl dX8_read_69 ?_
      refine g_aload_n C 1 0 rfl rfl dX8_read_70 ?_
      refine g_get C iX8 (ci := 8) (o := 0) (v := .ref (ad 17)) rfl rfl 4 (by decide) rfl tw_X8_46 dX8_read_71 ?_
      refine g_aload_n C 1 0 rfl rfl dX8_read_74 ?_
      refine g_get C iX8 (ci := 8) (o := 0) (v := vI (σ7 0 8)) rfl rfl 8 (by decide) rfl tw_X8_72 dX8_read_75 ?_
      refine g_iconst C dX8_read_78 ?_
      refine g_aload_n C 1 0 rfl rfl dX8_read_79 ?_
      refine g_get C iX8 (ci := 8) (o := 0) (v := .ref (ad 17)) rfl rfl 4 (by decide) rfl tw_X8_46 dX8_read_80 ?_
      refine g_get C iX0 (ci := 0) (o := 17) (v := vI (σ7 17 0)) rfl rfl 0 (by decide) rfl tw_X8_134 dX8_read_83 ?_
      refine g_callIv C (m_X0_initialWays l D cA ad h) hv_X0_initialWays tw_X8_135 (o := 17) (ci := 0) (As := [vI (σ7 0 8), vI 0, vI (σ7 17 0)]) (st := [.ref (ad 0)]) rfl rfl rfl rfl ⟨Nat.le_of_ble_eq_true rfl, Nat.le_of_ble_eq_true rfl⟩ rfl rfl (Nat.le_of_ble_eq_true rfl) dX8_read_86 (fun r9 σ8 h => ?_)
      try dsimp only at h
      refine g_put C iX8 (ci := 8) (o := 0) (z := r9) (ty := .int) rfl tyX8_ok nmX8 rfl 9 (by decide) rfl rfl tw_X8_75 rfl (by decide +kernel) rfl rfl dX8_read_89 (fun σ10 eσ10 => ?_)
      have h := h σ10 eσ10
      exact g_pick [1] rfl (m_X8_read_B92 C hlocks hr h)
    · have h := h.2 hc
      refine g_aload_n C 1 0 rfl rfl dX8_read_47 ?_
      refine g_iconst C dX8_read_48 ?_
      refine g_put C iX8 (ci := 8) (o := 0) (z := 0) (ty := .int) rfl tyX8_ok nmX8 rfl 9 (by decide) rfl rfl tw_X8_75 rfl (by decide +kernel) rfl rfl dX8_read_49 (fun σ11 eσ11 => ?_)
      have h := h σ11 eσ11
      refine g_goto C 92 (by decide) dX8_read_52 ?_
      exact g_pick [1] rfl (m_X8_read_B92 C hlocks hr h)
  · have h := h.2 hc
    refine g_iconst C dX8_read_35 ?_
    refine g_iload_n C 0 1 rfl rfl dX8_read_36 ?_
    refine g_isub C dX8_read_37 ?_
    exact g_iret C hlocks hr h dX8_read_38
set_option maxRecDepth 100000 in
set_option maxHeartbeats 4000000 in
theorem m_X8_read (l : Launch) (D : va_G) (cA : Nat → ClassId) (ad : Nat → Nat) {Q : Int → St → Prop} {σ : St} (h : wp_X8_read Q σ) : CtI l yX8_read (.code yX8_read cX8_read 2 (some .int)) rm_X8_read D cA shC ad zsC [.ref (ad 0)] σ Q :=
  ct_I RX8 (by decide +kernel) rfl (Nat.le_of_ble_eq_true rfl) (fun p e s m args below meth c C hlocks hr => m_X8_read_E C hlocks hr h)
abbrev rm_X6_addUse : Room := { frames := 1, cells := 0, slots := 0, locals := 0 }
set_option maxRecDepth 100000 in
set_option maxHeartbeats 4000000 in
theorem m_X6_addUse_E {p : Program} {l : Launch} {e : Env} {s : State} {m : MethodId} {args : Array Value} {below : List Frame} {meth : Method} {c : Code} {D : va_G} {cA : Nat → ClassId} {ad : Nat → Nat} (C : Cx p s m args c cX6_addUse RX6 5 D cA shC ad zsC) (hlocks : meth.locks = false) (hr : meth.sig.returnType = (some .int)) {Q : Int → St → Prop} {a1 a2 a3 : Int} {σ : St} (h : wp_X6_addUse a1 a2 a3 Q σ) : G p l e rm_X6_addUse s m args below meth c 0 0 5 D cA shC ad (QI D cA shC ad zsC below args s Q) σ [(0, .ref (ad 23)), (1, vI a1), (2, vI a2), (3, vI a3)] [] 0 := by
  unfold wp_X6_addUse at h
  refine g_aload_n C 0 0 rfl rfl dX6_addUse_0 ?_
  refine g_get C iX6 (ci := 6) (o := 23) (v := vI (σ 23 0)) rfl rfl 0 (by decide) rfl tw_X6_26 dX6_addUse_1 ?_
  refine g_name (fun x_1 ex_1 => ?_)
  have h := h x_1 ex_1
  refine g_istore C 4 [(0, .ref (ad 23)), (1, vI a1), (2, vI a2), (3, vI a3)] (by decide) rfl dX6_addUse_4 ?_
  refine g_aload_n C 1 0 rfl rfl dX6_addUse_6 ?_
  refine g_dup C rfl dX6_addUse_7 ?_
  refine g_get C iX6 (ci := 6) (o := 23) (v := vI (σ 23 0)) rfl rfl 0 (by decide) rfl tw_X6_26 dX6_addUse_8 ?_
  refine g_iconst C dX6_addUse_11 ?_
  refine g_iadd C dX6_addUse_12 ?_
  refine g_put C iX6 (ci := 6) (o := 23) (z := ((σ 23 0) + 1)) (ty := .int) rfl tyX6_ok nmX6 rfl 0 (by decide) rfl rfl tw_X6_26 rfl (by decide +kernel) rfl rfl dX6_addUse_13 (fun σ2 eσ2 => ?_)
  have h := h σ2 eσ2
  refine g_aload_n C 1 0 rfl rfl dX6_addUse_16 ?_
  refine g_get C iX6 (ci := 6) (o := 23) (v := .ref (ad 24)) rfl rfl 3 (by decide) rfl tw_X6_11 dX6_addUse_17 ?_
  refine g_iload C 0 4 rfl dX6_addUse_20 ?_
  refine g_bipush C dX6_addUse_22 (by decide) ?_
  refine g_imul C dX6_addUse_24 ?_
  refine g_iconst C dX6_addUse_25 ?_
  refine g_iadd C dX6_addUse_26 ?_
  refine g_iload_n C 2 1 rfl rfl dX6_addUse_27 ?_
  obtain ⟨hi, h⟩ := h
  refine g_iast C (o := 24) (N := 56) rfl rfl hi rfl dX6_addUse_28 (fun σ3 eσ3 => ?_)
  have h := h σ3 eσ3
  refine g_aload_n C 1 0 rfl rfl dX6_addUse_29 ?_
  refine g_get C iX6 (ci := 6) (o := 23) (v := .ref (ad 24)) rfl rfl 3 (by decide) rfl tw_X6_11 dX6_addUse_30 ?_
  refine g_iload C 0 4 rfl dX6_addUse_33 ?_
  refine g_bipush C dX6_addUse_35 (by decide) ?_
  refine g_imul C dX6_addUse_37 ?_
  refine g_iconst C dX6_addUse_38 ?_
  refine g_iadd C dX6_addUse_39 ?_
  refine g_iload_n C 3 2 rfl rfl dX6_addUse_40 ?_
  obtain ⟨hi, h⟩ := h
  refine g_iast C (o := 24) (N := 56) rfl rfl hi rfl dX6_addUse_41 (fun σ4 eσ4 => ?_)
  have h := h σ4 eσ4
  refine g_aload_n C 1 0 rfl rfl dX6_addUse_42 ?_
  refine g_get C iX6 (ci := 6) (o := 23) (v := .ref (ad 24)) rfl rfl 3 (by decide) rfl tw_X6_11 dX6_addUse_43 ?_
  refine g_iload C 0 4 rfl dX6_addUse_46 ?_
  refine g_bipush C dX6_addUse_48 (by decide) ?_
  refine g_imul C dX6_addUse_50 ?_
  refine g_iconst C dX6_addUse_51 ?_
  refine g_iadd C dX6_addUse_52 ?_
  refine g_iload_n C 4 3 rfl rfl dX6_addUse_53 ?_
  obtain ⟨hi, h⟩ := h
  refine g_iast C (o := 24) (N := 56) rfl rfl hi rfl dX6_addUse_54 (fun σ5 eσ5 => ?_)
  have h := h σ5 eσ5
  refine g_iload C 0 4 rfl dX6_addUse_55 ?_
  exact g_iret C hlocks hr h dX6_addUse_57
set_option maxRecDepth 100000 in
set_option maxHeartbeats 4000000 in
theorem m_X6_addUse (l : Launch) (D : va_G) (cA : Nat → ClassId) (ad : Nat → Nat) {a1 a2 a3 : Int} {Q : Int → St → Prop} {σ : St} (h : wp_X6_addUse a1 a2 a3 Q σ) : CtI l yX6_addUse (.code yX6_addUse cX6_addUse 5 (some .int)) rm_X6_addUse D cA shC ad zsC [.ref (ad 23), vI a1, vI a2, vI a3] σ Q :=
  ct_I RX6 (by decide +kernel) rfl (Nat.le_of_ble_eq_true rfl) (fun p e s m args below meth c C hlocks hr => m_X6_addUse_E C hlocks hr h)
abbrev rm_X6_setNodeCell : Room := { frames := 1, cells := 0, slots := 0, locals := 0 }
set_option maxRecDepth 100000 in
set_option maxHeartbeats 4000000 in
theorem m_X6_setNodeCell_E {p : Program} {l : Launch} {e : Env} {s : State} {m : MethodId} {args : Array Value} {below : List Frame} {meth : Method} {c : Code} {D : va_G} {cA : Nat → ClassId} {ad : Nat → Nat} (C : Cx p s m args c cX6_setNodeCell RX6 5 D cA shC ad zsC) (hlocks : meth.locks = false) (hr : meth.sig.returnType = none) {Q : St → Prop} {a1 a2 a3 a4 : Int} {σ : St} (h : wp_X6_setNodeCell a1 a2 a3 a4 Q σ) : G p l e rm_X6_setNodeCell s m args below meth c 0 0 5 D cA shC ad (QV D cA shC ad zsC below args s Q) σ [(0, .ref (ad 23)), (1, vI a1), (2, vI a2), (3, vI a3), (4, vI a4)] [] 0 := by
  unfold wp_X6_setNodeCell at h
  refine g_aload_n C 0 0 rfl rfl dX6_setNodeCell_0 ?_
  refine g_get C iX6 (ci := 6) (o := 23) (v := .ref (ad 25)) rfl rfl 4 (by decide) rfl tw_X6_15 dX6_setNodeCell_1 ?_
  refine g_iload_n C 1 1 rfl rfl dX6_setNodeCell_4 ?_
  refine g_bipush C dX6_setNodeCell_5 (by decide) ?_
  refine g_imul C dX6_setNodeCell_7 ?_
  refine g_iload_n C 2 2 rfl rfl dX6_setNodeCell_8 ?_
  refine g_iadd C dX6_setNodeCell_9 ?_
  refine g_bipush C dX6_setNodeCell_10 (by decide) ?_
  refine g_imul C dX6_setNodeCell_12 ?_
  refine g_iload_n C 3 3 rfl rfl dX6_setNodeCell_13 ?_
  refine g_iadd C dX6_setNodeCell_14 ?_
  refine g_iload C 4 4 rfl dX6_setNodeCell_15 ?_
  obtain ⟨hi, h⟩ := h
  refine g_iast C (o := 25) (N := 672) rfl rfl hi rfl dX6_setNodeCell_17 (fun σ1 eσ1 => ?_)
  have h := h σ1 eσ1
  exact g_vret C hlocks hr h dX6_setNodeCell_18
set_option maxRecDepth 100000 in
set_option maxHeartbeats 4000000 in
theorem m_X6_setNodeCell (l : Launch) (D : va_G) (cA : Nat → ClassId) (ad : Nat → Nat) {a1 a2 a3 a4 : Int} {Q : St → Prop} {σ : St} (h : wp_X6_setNodeCell a1 a2 a3 a4 Q σ) : CtV l yX6_setNodeCell (.code yX6_setNodeCell cX6_setNodeCell 5 none) rm_X6_setNodeCell D cA shC ad zsC [.ref (ad 23), vI a1, vI a2, vI a3, vI a4] σ Q :=
  ct_V RX6 (by decide +kernel) rfl (Nat.le_of_ble_eq_true rfl) (fun p e s m args below meth c C hlocks hr => m_X6_setNodeCell_E C hlocks hr h)
abbrev rm_X6_lay : Room := { frames := 2, cells := 0, slots := 0, locals := 24 }
set_option maxRecDepth 100000 in
set_option maxHeartbeats 4000000 in
theorem m_X6_lay_E {p : Program} {l : Launch} {e : Env} {s : State} {m : MethodId} {args : Array Value} {below : List Frame} {meth : Method} {c : Code} {D : va_G} {cA : Nat → ClassId} {ad : Nat → Nat} (C : Cx p s m args c cX6_lay RX6 8 D cA shC ad zsC) (hlocks : meth.locks = false) (hr : meth.sig.returnType = none) {Q : St → Prop} {a1 a2 a3 a4 a5 a6 a7 : Int} {σ : St} (h : wp_X6_lay a1 a2 a3 a4 a5 a6 a7 Q σ) : G p l e rm_X6_lay s m args below meth c 0 0 8 D cA shC ad (QV D cA shC ad zsC below args s Q) σ [(0, .ref (ad 23)), (1, vI a1), (2, vI a2), (3, vI a3), (4, vI a4), (5, vI a5), (6, vI a6), (7, vI a7)] [] 0 := by
  unfold wp_X6_lay at h
  refine g_aload_n C 0 0 rfl rfl dX6_lay_0 ?_
  refine g_iload_n C 1 1 rfl rfl dX6_lay_1 ?_
  refine g_iload_n C 2 2 rfl rfl dX6_lay_2 ?_
  refine g_iconst C dX6_lay_3 ?_
  refine g_iload_n C 3 3 rfl rfl dX6_lay_4 ?_
  refine g_callVv C (m_X6_setNodeCell l D cA ad h) hv_X6_setNodeCell tw_X6_69 (o := 23) (ci := 6) (As := [vI a1, vI a2, vI 3, vI a3]) (st := []) rfl rfl rfl rfl ⟨Nat.le_of_ble_eq_true rfl, Nat.le_of_ble_eq_true rfl⟩ rfl rfl (Nat.le_of_ble_eq_true rfl) dX6_lay_5 (fun σ1 h => ?_)
  try dsimp only at h
  refine g_aload_n C 0 0 rfl rfl dX6_lay_8 ?_
  refine g_iload_n C 1 1 rfl rfl dX6_lay_9 ?_
  refine g_iload_n C 2 2 rfl rfl dX6_lay_10 ?_
  refine g_iconst C dX6_lay_11 ?_
  refine g_iload C 4 4 rfl dX6_lay_12 ?_
  refine g_callVv C (m_X6_setNodeCell l D cA ad h) hv_X6_setNodeCell tw_X6_69 (o := 23) (ci := 6) (As := [vI a1, vI a2, vI 4, vI a4]) (st := []) rfl rfl rfl rfl ⟨Nat.le_of_ble_eq_true rfl, Nat.le_of_ble_eq_true rfl⟩ rfl rfl (Nat.le_of_ble_eq_true rfl) dX6_lay_14 (fun σ2 h => ?_)
  try dsimp only at h
  refine g_aload_n C 0 0 rfl rfl dX6_lay_17 ?_
  refine g_iload_n C 1 1 rfl rfl dX6_lay_18 ?_
  refine g_iload_n C 2 2 rfl rfl dX6_lay_19 ?_
  refine g_iconst C dX6_lay_20 ?_
  refine g_iload C 5 5 rfl dX6_lay_21 ?_
  refine g_callVv C (m_X6_setNodeCell l D cA ad h) hv_X6_setNodeCell tw_X6_69 (o := 23) (ci := 6) (As := [vI a1, vI a2, vI 5, vI a5]) (st := []) rfl rfl rfl rfl ⟨Nat.le_of_ble_eq_true rfl, Nat.le_of_ble_eq_true rfl⟩ rfl rfl (Nat.le_of_ble_eq_true rfl) dX6_lay_23 (fun σ3 h => ?_)
  try dsimp only at h
  refine g_aload_n C 0 0 rfl rfl dX6_lay_26 ?_
  refine g_iload_n C 1 1 rfl rfl dX6_lay_27 ?_
  refine g_iload_n C 2 2 rfl rfl dX6_lay_28 ?_
  refine g_bipush C dX6_lay_29 (by decide) ?_
  refine g_iload C 6 6 rfl dX6_lay_31 ?_
  refine g_callVv C (m_X6_setNodeCell l D cA ad h) hv_X6_setNodeCell tw_X6_69 (o := 23) (ci := 6) (As := [vI a1, vI a2, vI 6, vI a6]) (st := []) rfl rfl rfl rfl ⟨Nat.le_of_ble_eq_true rfl, Nat.le_of_ble_eq_true rfl⟩ rfl rfl (Nat.le_of_ble_eq_true rfl) dX6_lay_33 (fun σ4 h => ?_)
  try dsimp only at h
  refine g_aload_n C 0 0 rfl rfl dX6_lay_36 ?_
  refine g_iload_n C 1 1 rfl rfl dX6_lay_37 ?_
  refine g_iload_n C 2 2 rfl rfl dX6_lay_38 ?_
  refine g_iconst C dX6_lay_39 ?_
  refine g_iload C 7 7 rfl dX6_lay_40 ?_
  refine g_callVv C (m_X6_setNodeCell l D cA ad h) hv_X6_setNodeCell tw_X6_69 (o := 23) (ci := 6) (As := [vI a1, vI a2, vI 1, vI a7]) (st := []) rfl rfl rfl rfl ⟨Nat.le_of_ble_eq_true rfl, Nat.le_of_ble_eq_true rfl⟩ rfl rfl (Nat.le_of_ble_eq_true rfl) dX6_lay_42 (fun σ5 h => ?_)
  try dsimp only at h
  exact g_vret C hlocks hr h dX6_lay_45
set_option maxRecDepth 100000 in
set_option maxHeartbeats 4000000 in
theorem m_X6_lay (l : Launch) (D : va_G) (cA : Nat → ClassId) (ad : Nat → Nat) {a1 a2 a3 a4 a5 a6 a7 : Int} {Q : St → Prop} {σ : St} (h : wp_X6_lay a1 a2 a3 a4 a5 a6 a7 Q σ) : CtV l yX6_lay (.code yX6_lay cX6_lay 8 none) rm_X6_lay D cA shC ad zsC [.ref (ad 23), vI a1, vI a2, vI a3, vI a4, vI a5, vI a6, vI a7] σ Q :=
  ct_V RX6 (by decide +kernel) rfl (Nat.le_of_ble_eq_true rfl) (fun p e s m args below meth c C hlocks hr => m_X6_lay_E C hlocks hr h)
abbrev rm_X6_startInitial : Room := { frames := 3, cells := 0, slots := 0, locals := 51 }
set_option maxRecDepth 100000 in
set_option maxHeartbeats 4000000 in
theorem m_X6_startInitial_B119 {p : Program} {l : Launch} {e : Env} {s : State} {m : MethodId} {args : Array Value} {below : List Frame} {meth : Method} {c : Code} {D : va_G} {cA : Nat → ClassId} {ad : Nat → Nat} (C : Cx p s m args c cX6_startInitial RX6 11 D cA shC ad zsC) (hlocks : meth.locks = false) (hr : meth.sig.returnType = (some .int)) {Q : Int → St → Prop} {K7 : Int → Int → Int → Int → Int → Int → Int → St → Prop} (hK7 : ∀ (x1 : Int) (x2 : Int) (x3 : Int) (x4 : Int) (x5 : Int) (x7 : Int) (x8 : Int) (σ : St), K7 x1 x2 x3 x4 x5 x7 x8 σ → G p l e rm_X6_startInitial s m args below meth c 0 0 11 D cA shC ad (QI D cA shC ad zsC below args s Q) σ [(0, .ref (ad 23)), (1, vI x1), (2, vI x2), (3, vI x3), (4, vI x4), (5, vI x5), (7, vI x7), (8, vI x8)] [] 7) {x1 x2 x3 x4 x5 x7 x8 : Int} {σ : St} (h : wp_X6_startInitial_B119 K7 x1 x2 x3 x4 x5 x7 x8 Q σ) : G p l e rm_X6_startInitial s m args below meth c 0 0 11 D cA shC ad (QI D cA shC ad zsC below args s Q) σ [(0, .ref (ad 23)), (1, vI x1), (2, vI x2), (3, vI x3), (4, vI x4), (5, vI x5), (7, vI x7), (8, vI x8)] [] 119 := by
  unfold wp_X6_startInitial_B119 at h
  refine g_iinc C 7 8 [(0, .ref (ad 23)), (1, vI x1), (2, vI x2), (3, vI x3), (4, vI x4), (5, vI x5), (7, vI x7)] rfl (by decide) rfl dX6_startInitial_119 (fun x_1 ex_1 => ?_)
  have h := h x_1 ex_1
  refine g_goto C 7 (by decide) dX6_startInitial_122 ?_
  exact g_pick [1, 2, 3, 4, 5, 6, 7, 0] rfl (hK7 _ _ _ _ _ _ _ _ h)
set_option maxRecDepth 100000 in
set_option maxHeartbeats 4000000 in
theorem m_X6_startInitial_L7 {p : Program} {l : Launch} {e : Env} {s : State} {m : MethodId} {args : Array Value} {below : List Frame} {meth : Method} {c : Code} {D : va_G} {cA : Nat → ClassId} {ad : Nat → Nat} (C : Cx p s m args c cX6_startInitial RX6 11 D cA shC ad zsC) (hlocks : meth.locks = false) (hr : meth.sig.returnType = (some .int)) {Q : Int → St → Prop} : ∀ (n : Nat) (x1 : Int) (x2 : Int) (x3 : Int) (x4 : Int) (x5 : Int) (x7 : Int) (x8 : Int) (σ : St), wp_X6_startInitial_L7 Q n x1 x2 x3 x4 x5 x7 x8 σ → G p l e rm_X6_startInitial s m args below meth c 0 0 11 D cA shC ad (QI D cA shC ad zsC below args s Q) σ [(0, .ref (ad 23)), (1, vI x1), (2, vI x2), (3, vI x3), (4, vI x4), (5, vI x5), (7, vI x7), (8, vI x8)] [] 7 := by
  intro n
  induction n with
  | zero => intro _ _ _ _ _ _ _ _ h; exact h.elim
  | succ n ih =>
    intro x1 x2 x3 x4 x5 x7 x8 σ h
    simp only [wp_X6_startInitial_L7] at h
    refine g_iload C 7 8 rfl dX6_startInitial_7 ?_
    refine g_aload_n C 0 0 rfl rfl dX6_startInitial_9 ?_
    refine g_get C iX6 (ci := 6) (o := 23) (v := .ref (ad 3)) rfl rfl 1 (by decide) rfl tw_X6_18 dX6_startInitial_10 ?_
    refine g_get C iX1 (ci := 1) (o := 3) (v := vI (σ 3 4)) rfl rfl 4 (by decide) rfl tw_X6_73 dX6_startInitial_13 ?_
    refine g_icmp_ge C rfl rfl 125 (by decide) dX6_startInitial_16 (fun hc => ?_) (fun hc => ?_)
    · have h := h.1 hc
      refine g_iconst C dX6_startInitial_125 ?_
      exact g_iret C hlocks hr h dX6_startInitial_126
    · have h := h.2 hc
      refine g_aload_n C 0 0 rfl rfl dX6_startInitial_19 ?_
      refine g_get C iX6 (ci := 6) (o := 23) (v := vI (σ 23 0)) rfl rfl 0 (by decide) rfl tw_X6_26 dX6_startInitial_20 ?_
      refine g_bipush C dX6_startInitial_23 (by decide) ?_
      refine g_icmp_ge C (y' := 8) rfl (by decide) 125 (by decide) dX6_startInitial_25 (fun hc => ?_) (fun hc => ?_)
      · have h := h.1 hc
        refine g_iconst C dX6_startInitial_125 ?_
        exact g_iret C hlocks hr h dX6_startInitial_126
      · have h := h.2 hc
        refine g_aload_n C 0 0 rfl rfl dX6_startInitial_28 ?_
        refine g_get C iX6 (ci := 6) (o := 23) (v := .ref (ad 3)) rfl rfl 1 (by decide) rfl tw_X6_18 dX6_startInitial_29 ?_
        refine g_iload C 7 8 rfl dX6_startInitial_32 ?_
        refine g_callIv C (m_X1_rootLabel l D cA ad h) hv_X1_rootLabel tw_X6_76 (o := 3) (ci := 1) (As := [vI x8]) (st := []) rfl rfl rfl rfl ⟨Nat.le_of_ble_eq_true rfl, Nat.le_of_ble_eq_true rfl⟩ rfl rfl (Nat.le_of_ble_eq_true rfl) dX6_startInitial_34 (fun r2 σ1 h => ?_)
        try dsimp only at h
        refine g_iload_n C 1 1 rfl rfl dX6_startInitial_37 ?_
        refine g_icmp_ne C rfl rfl 119 (by decide) dX6_startInitial_38 (fun hc => ?_) (fun hc => ?_)
        · have h := h.1 hc
          exact g_pick [0, 1, 2, 3, 4, 5, 6, 7] rfl (m_X6_startInitial_B119 C hlocks hr (fun _ _ _ _ _ _ _ _ h => ih _ _ _ _ _ _ _ _ h) h)
        · have h := h.2 hc
          refine g_aload_n C 0 0 rfl rfl dX6_startInitial_41 ?_
          refine g_get C iX6 (ci := 6) (o := 23) (v := .ref (ad 3)) rfl rfl 1 (by decide) rfl tw_X6_18 dX6_startInitial_42 ?_
          refine g_iload C 7 8 rfl dX6_startInitial_45 ?_
          refine g_callIv C (m_X1_isAuxiliary l D cA ad h) hv_X1_isAuxiliary tw_X6_80 (o := 3) (ci := 1) (As := [vI x8]) (st := []) rfl rfl rfl rfl ⟨Nat.le_of_ble_eq_true rfl, Nat.le_of_ble_eq_true rfl⟩ rfl rfl (Nat.le_of_ble_eq_true rfl) dX6_startInitial_47 (fun r4 σ3 h => ?_)
          try dsimp only at h
          refine g_if_eq C rfl 56 (by decide) dX6_startInitial_50 (fun hc => ?_) (fun hc => ?_)
          · have h := h.1 hc
            refine g_aload_n C 0 0 rfl rfl dX6_startInitial_56 ?_
            refine g_get C iX6 (ci := 6) (o := 23) (v := .ref (ad 17)) rfl rfl 2 (by decide) rfl tw_X6_22 dX6_startInitial_57 ?_
            refine g_iload C 7 8 rfl dX6_startInitial_60 ?_
            refine g_iconst C dX6_startInitial_62 ?_
            refine g_callIs C (m_X1_row l D cA ad h) hv_X1_row tw_X6_56 (As := [vI x8, vI 0]) (st := [.ref (ad 17)]) rfl rfl ⟨Nat.le_of_ble_eq_true rfl, Nat.le_of_ble_eq_true rfl⟩ rfl rfl (Nat.le_of_ble_eq_true rfl) dX6_startInitial_63 (fun r6 σ5 h => ?_)
            try dsimp only at h
            refine g_iload C 4 4 rfl dX6_startInitial_66 ?_
            refine g_iload C 5 5 rfl dX6_startInitial_68 ?_
            refine g_iconst C dX6_startInitial_70 ?_
            refine g_iconst C dX6_startInitial_71 ?_
            refine g_callIv C (m_X0_nodeWays l D cA ad h) hv_X0_nodeWays tw_X6_84 (o := 17) (ci := 0) (As := [vI r6, vI x4, vI x5, vI (-1), vI (-1)]) (st := []) rfl rfl rfl rfl ⟨Nat.le_of_ble_eq_true rfl, Nat.le_of_ble_eq_true rfl⟩ rfl rfl (Nat.le_of_ble_eq_true rfl) dX6_startInitial_72 (fun r8 σ7 h => ?_)
            try dsimp only at h
            refine g_istore C 9 [(0, .ref (ad 23)), (1, vI x1), (2, vI x2), (3, vI x3), (4, vI x4), (5, vI x5), (7, vI x7), (8, vI x8)] (by decide) rfl dX6_startInitial_75 ?_
            refine g_iload C 7 7 rfl dX6_startInitial_77 ?_
            refine g_iload C 0 9 rfl dX6_startInitial_79 ?_
            refine g_icmp_ge C rfl rfl 112 (by decide) dX6_startInitial_81 (fun hc => ?_) (fun hc => ?_)
            · have h := h.1 hc
              refine g_iload C 7 7 rfl dX6_startInitial_112 ?_
              refine g_iload C 0 9 rfl dX6_startInitial_114 ?_
              refine g_isub C dX6_startInitial_116 ?_
              refine g_name (fun x_9 ex_9 => ?_)
              have h := h x_9 ex_9
              refine g_istore C 7 [(9, vI r8), (0, .ref (ad 23)), (1, vI x1), (2, vI x2), (3, vI x3), (4, vI x4), (5, vI x5), (8, vI x8)] (by decide) rfl dX6_startInitial_117 ?_
              exact g_pick [2, 3, 4, 5, 6, 7, 0, 8] rfl (m_X6_startInitial_B119 C hlocks hr (fun _ _ _ _ _ _ _ _ h => ih _ _ _ _ _ _ _ _ h) h)
            · have h := h.2 hc
              refine g_aload_n C 1 0 rfl rfl dX6_startInitial_84 ?_
              refine g_iload C 8 8 rfl dX6_startInitial_85 ?_
              refine g_iload_n C 3 2 rfl rfl dX6_startInitial_87 ?_
              refine g_iload_n C 4 3 rfl rfl dX6_startInitial_88 ?_
              refine g_callIv C (m_X6_addUse l D cA ad h) hv_X6_addUse tw_X6_88 (o := 23) (ci := 6) (As := [vI x8, vI x2, vI x3]) (st := []) rfl rfl rfl rfl ⟨Nat.le_of_ble_eq_true rfl, Nat.le_of_ble_eq_true rfl⟩ rfl rfl (Nat.le_of_ble_eq_true rfl) dX6_startInitial_89 (fun r11 σ10 h => ?_)
              try dsimp only at h
              refine g_istore C 10 [(9, vI r8), (0, .ref (ad 23)), (1, vI x1), (2, vI x2), (3, vI x3), (4, vI x4), (5, vI x5), (7, vI x7), (8, vI x8)] (by decide) rfl dX6_startInitial_92 ?_
              refine g_aload_n C 2 0 rfl rfl dX6_startInitial_94 ?_
              refine g_iload C 0 10 rfl dX6_startInitial_95 ?_
              refine g_iconst C dX6_startInitial_97 ?_
              refine g_iload C 6 4 rfl dX6_startInitial_98 ?_
              refine g_iload C 7 5 rfl dX6_startInitial_100 ?_
              refine g_iconst C dX6_startInitial_102 ?_
              refine g_iconst C dX6_startInitial_103 ?_
              refine g_iload C 8 7 rfl dX6_startInitial_104 ?_
              refine g_callVv C (m_X6_lay l D cA ad h) hv_X6_lay tw_X6_91 (o := 23) (ci := 6) (As := [vI r11, vI 0, vI x4, vI x5, vI (-1), vI (-1), vI x7]) (st := []) rfl rfl rfl rfl ⟨Nat.le_of_ble_eq_true rfl, Nat.le_of_ble_eq_true rfl⟩ rfl rfl (Nat.le_of_ble_eq_true rfl) dX6_startInitial_106 (fun σ12 h => ?_)
              try dsimp only at h
              refine g_iload C 0 10 rfl dX6_startInitial_109 ?_
              exact g_iret C hlocks hr h dX6_startInitial_111
          · have h := h.2 hc
            refine g_goto C 119 (by decide) dX6_startInitial_53 ?_
            exact g_pick [0, 1, 2, 3, 4, 5, 6, 7] rfl (m_X6_startInitial_B119 C hlocks hr (fun _ _ _ _ _ _ _ _ h => ih _ _ _ _ _ _ _ _ h) h)
set_option maxRecDepth 100000 in
set_option maxHeartbeats 4000000 in
theorem m_X6_startInitial_E {p : Program} {l : Launch} {e : Env} {s : State} {m : MethodId} {args : Array Value} {below : List Frame} {meth : Method} {c : Code} {D : va_G} {cA : Nat → ClassId} {ad : Nat → Nat} (C : Cx p s m args c cX6_startInitial RX6 11 D cA shC ad zsC) (hlocks : meth.locks = false) (hr : meth.sig.returnType = (some .int)) {Q : Int → St → Prop} {a1 a2 a3 a4 a5 a6 : Int} {σ : St} (h : wp_X6_startInitial a1 a2 a3 a4 a5 a6 Q σ) : G p l e rm_X6_startInitial s m args below meth c 0 0 11 D cA shC ad (QI D cA shC ad zsC below args s Q) σ [(0, .ref (ad 23)), (1, vI a1), (2, vI a2), (3, vI a3), (4, vI a4), (5, vI a5), (6, vI a6)] [] 0 := by
  unfold wp_X6_startInitial at h
  refine g_iload C 6 6 rfl dX6_startInitial_0 ?_
  refine g_istore C 7 [(0, .ref (ad 23)), (1, vI a1), (2, vI a2), (3, vI a3), (4, vI a4), (5, vI a5), (6, vI a6)] (by decide) rfl dX6_startInitial_2 ?_
  refine g_iconst C dX6_startInitial_4 ?_
  refine g_istore C 8 [(7, vI a6), (0, .ref (ad 23)), (1, vI a1), (2, vI a2), (3, vI a3), (4, vI a4), (5, vI a5), (6, vI a6)] (by decide) rfl dX6_startInitial_5 ?_
  obtain ⟨nn, h⟩ := h
  exact g_pick [2, 3, 4, 5, 6, 7, 1, 0] rfl (m_X6_startInitial_L7 C hlocks hr nn _ _ _ _ _ _ _ _ h)
set_option maxRecDepth 100000 in
set_option maxHeartbeats 4000000 in
theorem m_X6_startInitial (l : Launch) (D : va_G) (cA : Nat → ClassId) (ad : Nat → Nat) {a1 a2 a3 a4 a5 a6 : Int} {Q : Int → St → Prop} {σ : St} (h : wp_X6_startInitial a1 a2 a3 a4 a5 a6 Q σ) : CtI l yX6_startInitial (.code yX6_startInitial cX6_startInitial 11 (some .int)) rm_X6_startInitial D cA shC ad zsC [.ref (ad 23), vI a1, vI a2, vI a3, vI a4, vI a5, vI a6] σ Q :=
  ct_I RX6 (by decide +kernel) rfl (Nat.le_of_ble_eq_true rfl) (fun p e s m args below meth c C hlocks hr => m_X6_startInitial_E C hlocks hr h)
abbrev rm_X6_useCell : Room := { frames := 1, cells := 0, slots := 0, locals := 0 }
set_option maxRecDepth 100000 in
set_option maxHeartbeats 4000000 in
theorem m_X6_useCell_E {p : Program} {l : Launch} {e : Env} {s : State} {m : MethodId} {args : Array Value} {below : List Frame} {meth : Method} {c : Code} {D : va_G} {cA : Nat → ClassId} {ad : Nat → Nat} (C : Cx p s m args c cX6_useCell RX6 3 D cA shC ad zsC) (hlocks : meth.locks = false) (hr : meth.sig.returnType = (some .int)) {Q : Int → St → Prop} {a1 a2 : Int} {σ : St} (h : wp_X6_useCell a1 a2 Q σ) : G p l e rm_X6_useCell s m args below meth c 0 0 3 D cA shC ad (QI D cA shC ad zsC below args s Q) σ [(0, .ref (ad 23)), (1, vI a1), (2, vI a2)] [] 0 := by
  unfold wp_X6_useCell at h
  refine g_aload_n C 0 0 rfl rfl dX6_useCell_0 ?_
  refine g_get C iX6 (ci := 6) (o := 23) (v := .ref (ad 24)) rfl rfl 3 (by decide) rfl tw_X6_11 dX6_useCell_1 ?_
  refine g_iload_n C 1 1 rfl rfl dX6_useCell_4 ?_
  refine g_bipush C dX6_useCell_5 (by decide) ?_
  refine g_imul C dX6_useCell_7 ?_
  refine g_iload_n C 2 2 rfl rfl dX6_useCell_8 ?_
  refine g_iadd C dX6_useCell_9 ?_
  obtain ⟨hi, h⟩ := h
  refine g_iald C (o := 24) (N := 56) rfl rfl hi rfl dX6_useCell_10 ?_
  exact g_iret C hlocks hr h dX6_useCell_11
set_option maxRecDepth 100000 in
set_option maxHeartbeats 4000000 in
theorem m_X6_useCell (l : Launch) (D : va_G) (cA : Nat → ClassId) (ad : Nat → Nat) {a1 a2 : Int} {Q : Int → St → Prop} {σ : St} (h : wp_X6_useCell a1 a2 Q σ) : CtI l yX6_useCell (.code yX6_useCell cX6_useCell 3 (some .int)) rm_X6_useCell D cA shC ad zsC [.ref (ad 23), vI a1, vI a2] σ Q :=
  ct_I RX6 (by decide +kernel) rfl (Nat.le_of_ble_eq_true rfl) (fun p e s m args below meth c C hlocks hr => m_X6_useCell_E C hlocks hr h)
abbrev rm_X6_nodeCell : Room := { frames := 1, cells := 0, slots := 0, locals := 0 }
set_option maxRecDepth 100000 in
set_option maxHeartbeats 4000000 in
theorem m_X6_nodeCell_E {p : Program} {l : Launch} {e : Env} {s : State} {m : MethodId} {args : Array Value} {below : List Frame} {meth : Method} {c : Code} {D : va_G} {cA : Nat → ClassId} {ad : Nat → Nat} (C : Cx p s m args c cX6_nodeCell RX6 4 D cA shC ad zsC) (hlocks : meth.locks = false) (hr : meth.sig.returnType = (some .int)) {Q : Int → St → Prop} {a1 a2 a3 : Int} {σ : St} (h : wp_X6_nodeCell a1 a2 a3 Q σ) : G p l e rm_X6_nodeCell s m args below meth c 0 0 4 D cA shC ad (QI D cA shC ad zsC below args s Q) σ [(0, .ref (ad 23)), (1, vI a1), (2, vI a2), (3, vI a3)] [] 0 := by
  unfold wp_X6_nodeCell at h
  refine g_aload_n C 0 0 rfl rfl dX6_nodeCell_0 ?_
  refine g_get C iX6 (ci := 6) (o := 23) (v := .ref (ad 25)) rfl rfl 4 (by decide) rfl tw_X6_15 dX6_nodeCell_1 ?_
  refine g_iload_n C 1 1 rfl rfl dX6_nodeCell_4 ?_
  refine g_bipush C dX6_nodeCell_5 (by decide) ?_
  refine g_imul C dX6_nodeCell_7 ?_
  refine g_iload_n C 2 2 rfl rfl dX6_nodeCell_8 ?_
  refine g_iadd C dX6_nodeCell_9 ?_
  refine g_bipush C dX6_nodeCell_10 (by decide) ?_
  refine g_imul C dX6_nodeCell_12 ?_
  refine g_iload_n C 3 3 rfl rfl dX6_nodeCell_13 ?_
  refine g_iadd C dX6_nodeCell_14 ?_
  obtain ⟨hi, h⟩ := h
  refine g_iald C (o := 25) (N := 672) rfl rfl hi rfl dX6_nodeCell_15 ?_
  exact g_iret C hlocks hr h dX6_nodeCell_16
set_option maxRecDepth 100000 in
set_option maxHeartbeats 4000000 in
theorem m_X6_nodeCell (l : Launch) (D : va_G) (cA : Nat → ClassId) (ad : Nat → Nat) {a1 a2 a3 : Int} {Q : Int → St → Prop} {σ : St} (h : wp_X6_nodeCell a1 a2 a3 Q σ) : CtI l yX6_nodeCell (.code yX6_nodeCell cX6_nodeCell 4 (some .int)) rm_X6_nodeCell D cA shC ad zsC [.ref (ad 23), vI a1, vI a2, vI a3] σ Q :=
  ct_I RX6 (by decide +kernel) rfl (Nat.le_of_ble_eq_true rfl) (fun p e s m args below meth c C hlocks hr => m_X6_nodeCell_E C hlocks hr h)
abbrev rm_X6_tryAuxiliary : Room := { frames := 3, cells := 0, slots := 0, locals := 51 }
set_option maxRecDepth 100000 in
set_option maxHeartbeats 4000000 in
theorem m_X6_tryAuxiliary_B205 {p : Program} {l : Launch} {e : Env} {s : State} {m : MethodId} {args : Array Value} {below : List Frame} {meth : Method} {c : Code} {D : va_G} {cA : Nat → ClassId} {ad : Nat → Nat} (C : Cx p s m args c cX6_tryAuxiliary RX6 18 D cA shC ad zsC) (hlocks : meth.locks = false) (hr : meth.sig.returnType = (some .int)) {Q : Int → St → Prop} {K65 : Int → Int → Int → Int → Int → Int → Int → Int → Int → Int → Int → St → Prop} (hK65 : ∀ (x1 : Int) (x2 : Int) (x3 : Int) (x4 : Int) (x5 : Int) (x6 : Int) (x7 : Int) (x8 : Int) (x9 : Int) (x10 : Int) (x11 : Int) (σ : St), K65 x1 x2 x3 x4 x5 x6 x7 x8 x9 x10 x11 σ → G p l e rm_X6_tryAuxiliary s m args below meth c 0 0 18 D cA shC ad (QI D cA shC ad zsC below args s Q) σ [(0, .ref (ad 23)), (1, vI x1), (2, vI x2), (3, vI x3), (4, vI x4), (5, vI x5), (6, vI x6), (7, vI x7), (8, vI x8), (9, vI x9), (10, vI x10), (11, vI x11)] [] 65) {K81 : Int → Int → Int → Int → Int → Int → Int → Int → Int → Int → Int → Int → St → Prop} (hK81 : ∀ (x1 : Int) (x2 : Int) (x3 : Int) (x4 : Int) (x5 : Int) (x6 : Int) (x7 : Int) (x8 : Int) (x9 : Int) (x10 : Int) (x11 : Int) (x12 : Int) (σ : St), K81 x1 x2 x3 x4 x5 x6 x7 x8 x9 x10 x11 x12 σ → G p l e rm_X6_tryAuxiliary s m args below meth c 0 0 18 D cA shC ad (QI D cA shC ad zsC below args s Q) σ [(0, .ref (ad 23)), (1, vI x1), (2, vI x2), (3, vI x3), (4, vI x4), (5, vI x5), (6, vI x6), (7, vI x7), (8, vI x8), (9, vI x9), (10, vI x10), (11, vI x11), (12, vI x12)] [] 81) {x1 x2 x3 x4 x5 x6 x7 x8 x9 x10 x11 x12 x16 : Int} {σ : St} (h : wp_X6_tryAuxiliary_B205 K65 K81 x1 x2 x3 x4 x5 x6 x7 x8 x9 x10 x11 x12 x16 Q σ) : G p l e rm_X6_tryAuxiliary s m args below meth c 0 0 18 D cA shC ad (QI D cA shC ad zsC below args s Q) σ [(0, .ref (ad 23)), (1, vI x1), (2, vI x2), (3, vI x3), (4, vI x4), (5, vI x5), (6, vI x6), (7, vI x7), (8, vI x8), (9, vI x9), (10, vI x10), (11, vI x11), (12, vI x12), (16, vI x16)] [] 205 := by
  unfold wp_X6_tryAuxiliary_B205 at h
  refine g_iload C 9 9 rfl dX6_tryAuxiliary_205 ?_
  refine g_iload C 13 16 rfl dX6_tryAuxiliary_207 ?_
  refine g_isub C dX6_tryAuxiliary_209 ?_
  refine g_name (fun x_1 ex_1 => ?_)
  have h := h x_1 ex_1
  refine g_istore C 9 [(0, .ref (ad 23)), (1, vI x1), (2, vI x2), (3, vI x3), (4, vI x4), (5, vI x5), (6, vI x6), (7, vI x7), (8, vI x8), (10, vI x10), (11, vI x11), (12, vI x12), (16, vI x16)] (by decide) rfl dX6_tryAuxiliary_210 ?_
  refine g_iinc C 12 12 [(9, vI x_1), (0, .ref (ad 23)), (1, vI x1), (2, vI x2), (3, vI x3), (4, vI x4), (5, vI x5), (6, vI x6), (7, vI x7), (8, vI x8), (10, vI x10), (11, vI x11), (16, vI x16)] rfl (by decide) rfl dX6_tryAuxiliary_212 (fun x_2 ex_2 => ?_)
  have h := h x_2 ex_2
  refine g_goto C 81 (by decide) dX6_tryAuxiliary_215 ?_
  exact g_pick [2, 3, 4, 5, 6, 7, 8, 9, 10, 1, 11, 12, 0] rfl (hK81 _ _ _ _ _ _ _ _ _ _ _ _ _ h)
set_option maxRecDepth 100000 in
set_option maxHeartbeats 4000000 in
theorem m_X6_tryAuxiliary_L81 {p : Program} {l : Launch} {e : Env} {s : State} {m : MethodId} {args : Array Value} {below : List Frame} {meth : Method} {c : Code} {D : va_G} {cA : Nat → ClassId} {ad : Nat → Nat} (C : Cx p s m args c cX6_tryAuxiliary RX6 18 D cA shC ad zsC) (hlocks : meth.locks = false) (hr : meth.sig.returnType = (some .int)) {Q : Int → St → Prop} {K65 : Int → Int → Int → Int → Int → Int → Int → Int → Int → Int → Int → St → Prop} (hK65 : ∀ (x1 : Int) (x2 : Int) (x3 : Int) (x4 : Int) (x5 : Int) (x6 : Int) (x7 : Int) (x8 : Int) (x9 : Int) (x10 : Int) (x11 : Int) (σ : St), K65 x1 x2 x3 x4 x5 x6 x7 x8 x9 x10 x11 σ → G p l e rm_X6_tryAuxiliary s m args below meth c 0 0 18 D cA shC ad (QI D cA shC ad zsC below args s Q) σ [(0, .ref (ad 23)), (1, vI x1), (2, vI x2), (3, vI x3), (4, vI x4), (5, vI x5), (6, vI x6), (7, vI x7), (8, vI x8), (9, vI x9), (10, vI x10), (11, vI x11)] [] 65) : ∀ (n : Nat) (x1 : Int) (x2 : Int) (x3 : Int) (x4 : Int) (x5 : Int) (x6 : Int) (x7 : Int) (x8 : Int) (x9 : Int) (x10 : Int) (x11 : Int) (x12 : Int) (σ : St), wp_X6_tryAuxiliary_L81 K65 Q n x1 x2 x3 x4 x5 x6 x7 x8 x9 x10 x11 x12 σ → G p l e rm_X6_tryAuxiliary s m args below meth c 0 0 18 D cA shC ad (QI D cA shC ad zsC below args s Q) σ [(0, .ref (ad 23)), (1, vI x1), (2, vI x2), (3, vI x3), (4, vI x4), (5, vI x5), (6, vI x6), (7, vI x7), (8, vI x8), (9, vI x9), (10, vI x10), (11, vI x11), (12, vI x12)] [] 81 := by
  intro n
  induction n with
  | zero => intro _ _ _ _ _ _ _ _ _ _ _ _ _ h; exact h.elim
  | succ n ih =>
    intro x1 x2 x3 x4 x5 x6 x7 x8 x9 x10 x11 x12 σ h
    simp only [wp_X6_tryAuxiliary_L81] at h
    refine g_iload C 12 12 rfl dX6_tryAuxiliary_81 ?_
    refine g_iload C 6 6 rfl dX6_tryAuxiliary_83 ?_
    refine g_icmp_gt C rfl rfl 218 (by decide) dX6_tryAuxiliary_85 (fun hc => ?_) (fun hc => ?_)
    · have h := h.1 hc
      refine g_iinc C 11 11 [(0, .ref (ad 23)), (1, vI x1), (2, vI x2), (3, vI x3), (4, vI x4), (5, vI x5), (6, vI x6), (7, vI x7), (8, vI x8), (9, vI x9), (10, vI x10), (12, vI x12)] rfl (by decide) rfl dX6_tryAuxiliary_218 (fun x_1 ex_1 => ?_)
      have h := h x_1 ex_1
      refine g_goto C 65 (by decide) dX6_tryAuxiliary_221 ?_
      exact g_pick [1, 2, 3, 4, 5, 6, 7, 8, 9, 10, 11, 0] rfl (hK65 _ _ _ _ _ _ _ _ _ _ _ _ h)
    · have h := h.2 hc
      refine g_aload_n C 0 0 rfl rfl dX6_tryAuxiliary_88 ?_
      refine g_get C iX6 (ci := 6) (o := 23) (v := .ref (ad 17)) rfl rfl 2 (by decide) rfl tw_X6_22 dX6_tryAuxiliary_89 ?_
      refine g_iload C 4 4 rfl dX6_tryAuxiliary_92 ?_
      refine g_iconst C dX6_tryAuxiliary_94 ?_
      refine g_callIs C (m_X1_row l D cA ad h) hv_X1_row tw_X6_56 (As := [vI x4, vI 0]) (st := [.ref (ad 17)]) rfl rfl ⟨Nat.le_of_ble_eq_true rfl, Nat.le_of_ble_eq_true rfl⟩ rfl rfl (Nat.le_of_ble_eq_true rfl) dX6_tryAuxiliary_95 (fun r3 σ2 h => ?_)
      try dsimp only at h
      refine g_iload C 5 5 rfl dX6_tryAuxiliary_98 ?_
      refine g_iload C 6 6 rfl dX6_tryAuxiliary_100 ?_
      refine g_iload C 11 11 rfl dX6_tryAuxiliary_102 ?_
      refine g_iload C 12 12 rfl dX6_tryAuxiliary_104 ?_
      refine g_callIv C (m_X0_nodeWays l D cA ad h) hv_X0_nodeWays tw_X6_84 (o := 17) (ci := 0) (As := [vI r3, vI x5, vI x6, vI x11, vI x12]) (st := []) rfl rfl rfl rfl ⟨Nat.le_of_ble_eq_true rfl, Nat.le_of_ble_eq_true rfl⟩ rfl rfl (Nat.le_of_ble_eq_true rfl) dX6_tryAuxiliary_106 (fun r5 σ4 h => ?_)
      try dsimp only at h
      refine g_i2l C rfl dX6_tryAuxiliary_109 ?_
      refine g_nameL (fun x_6 ex_6 => ?_)
      have h := h x_6 ex_6
      refine g_lstore C 13 [(0, .ref (ad 23)), (1, vI x1), (2, vI x2), (3, vI x3), (4, vI x4), (5, vI x5), (6, vI x6), (7, vI x7), (8, vI x8), (9, vI x9), (10, vI x10), (11, vI x11), (12, vI x12)] (by decide) rfl dX6_tryAuxiliary_110 ?_
      refine g_aload_n C 1 0 rfl rfl dX6_tryAuxiliary_112 ?_
      refine g_get C iX6 (ci := 6) (o := 23) (v := .ref (ad 17)) rfl rfl 2 (by decide) rfl tw_X6_22 dX6_tryAuxiliary_113 ?_
      refine g_iload_n C 4 3 rfl rfl dX6_tryAuxiliary_116 ?_
      refine g_iload C 12 11 rfl dX6_tryAuxiliary_117 ?_
      refine g_iload C 13 12 rfl dX6_tryAuxiliary_119 ?_
      refine g_iload C 8 7 rfl dX6_tryAuxiliary_121 ?_
      refine g_iload C 9 8 rfl dX6_tryAuxiliary_123 ?_
      refine g_callIv C (m_X0_partsWays l D cA ad h) hv_X0_partsWays tw_X6_95 (o := 17) (ci := 0) (As := [vI x3, vI x11, vI x12, vI x7, vI x8]) (st := []) rfl rfl rfl rfl ⟨Nat.le_of_ble_eq_true rfl, Nat.le_of_ble_eq_true rfl⟩ rfl rfl (Nat.le_of_ble_eq_true rfl) dX6_tryAuxiliary_125 (fun r8 σ7 h => ?_)
      try dsimp only at h
      refine g_istore C 15 [(13, vL x_6), (0, .ref (ad 23)), (1, vI x1), (2, vI x2), (3, vI x3), (4, vI x4), (5, vI x5), (6, vI x6), (7, vI x7), (8, vI x8), (9, vI x9), (10, vI x10), (11, vI x11), (12, vI x12)] (by decide) rfl dX6_tryAuxiliary_128 ?_
      refine g_lload C 1 13 rfl dX6_tryAuxiliary_130 ?_
      refine g_iload C 0 15 rfl dX6_tryAuxiliary_132 ?_
      refine g_i2l C rfl dX6_tryAuxiliary_134 ?_
      refine g_lmul C dX6_tryAuxiliary_135 ?_
      refine g_callIs C (m_X0_cut l D cA ad h) hv_X0_cut tw_X6_107 (As := [vL (x_6 * (w32 r8))]) (st := []) rfl rfl ⟨Nat.le_of_ble_eq_true rfl, Nat.le_of_ble_eq_true rfl⟩ rfl rfl (Nat.le_of_ble_eq_true rfl) dX6_tryAuxiliary_136 (fun r10 σ9 h => ?_)
      try dsimp only at h
      refine g_istore C 16 [(15, vI r8), (13, vL x_6), (0, .ref (ad 23)), (1, vI x1), (2, vI x2), (3, vI x3), (4, vI x4), (5, vI x5), (6, vI x6), (7, vI x7), (8, vI x8), (9, vI x9), (10, vI x10), (11, vI x11), (12, vI x12)] (by decide) rfl dX6_tryAuxiliary_139 ?_
      refine g_iload C 1 15 rfl dX6_tryAuxiliary_141 ?_
      refine g_if_le C rfl 205 (by decide) dX6_tryAuxiliary_143 (fun hc => ?_) (fun hc => ?_)
      · have h := h.1 hc
        exact g_pick [3, 4, 5, 6, 7, 8, 9, 10, 11, 12, 13, 14, 15, 0] rfl (m_X6_tryAuxiliary_B205 C hlocks hr hK65 (fun _ _ _ _ _ _ _ _ _ _ _ _ _ h => ih _ _ _ _ _ _ _ _ _ _ _ _ _ h) h)
      · have h := h.2 hc
        refine g_iload C 12 9 rfl dX6_tryAuxiliary_146 ?_
        refine g_iload C 0 16 rfl dX6_tryAuxiliary_148 ?_
        refine g_icmp_ge C rfl rfl 205 (by decide) dX6_tryAuxiliary_150 (fun hc => ?_) (fun hc => ?_)
        · have h := h.1 hc
          exact g_pick [3, 4, 5, 6, 7, 8, 9, 10, 11, 12, 13, 14, 15, 0] rfl (m_X6_tryAuxiliary_B205 C hlocks hr hK65 (fun _ _ _ _ _ _ _ _ _ _ _ _ _ h => ih _ _ _ _ _ _ _ _ _ _ _ _ _ h) h)
        · have h := h.2 hc
          refine g_aload_n C 3 0 rfl rfl dX6_tryAuxiliary_153 ?_
          refine g_iload C 7 4 rfl dX6_tryAuxiliary_154 ?_
          refine g_iload_n C 4 1 rfl rfl dX6_tryAuxiliary_156 ?_
          refine g_iload_n C 5 2 rfl rfl dX6_tryAuxiliary_157 ?_
          refine g_callIv C (m_X6_addUse l D cA ad h) hv_X6_addUse tw_X6_88 (o := 23) (ci := 6) (As := [vI x4, vI x1, vI x2]) (st := []) rfl rfl rfl rfl ⟨Nat.le_of_ble_eq_true rfl, Nat.le_of_ble_eq_true rfl⟩ rfl rfl (Nat.le_of_ble_eq_true rfl) dX6_tryAuxiliary_158 (fun r12 σ11 h => ?_)
          try dsimp only at h
          refine g_istore C 17 [(16, vI r10), (15, vI r8), (13, vL x_6), (0, .ref (ad 23)), (1, vI x1), (2, vI x2), (3, vI x3), (4, vI x4), (5, vI x5), (6, vI x6), (7, vI x7), (8, vI x8), (9, vI x9), (10, vI x10), (11, vI x11), (12, vI x12)] (by decide) rfl dX6_tryAuxiliary_161 ?_
          refine g_aload_n C 4 0 rfl rfl dX6_tryAuxiliary_163 ?_
          refine g_iload C 0 17 rfl dX6_tryAuxiliary_164 ?_
          refine g_iconst C dX6_tryAuxiliary_166 ?_
          refine g_iload C 9 5 rfl dX6_tryAuxiliary_167 ?_
          refine g_iload C 10 6 rfl dX6_tryAuxiliary_169 ?_
          refine g_iload C 15 11 rfl dX6_tryAuxiliary_171 ?_
          refine g_iload C 16 12 rfl dX6_tryAuxiliary_173 ?_
          refine g_iload C 13 9 rfl dX6_tryAuxiliary_175 ?_
          refine g_iload C 2 15 rfl dX6_tryAuxiliary_177 ?_
          obtain ⟨hi, h⟩ := h
          refine g_idiv C hi dX6_tryAuxiliary_179 ?_
          refine g_callVv C (m_X6_lay l D cA ad h) hv_X6_lay tw_X6_91 (o := 23) (ci := 6) (As := [vI r12, vI 0, vI x5, vI x6, vI x11, vI x12, vI (iDiv x9 r8)]) (st := []) rfl rfl rfl rfl ⟨Nat.le_of_ble_eq_true rfl, Nat.le_of_ble_eq_true rfl⟩ rfl rfl (Nat.le_of_ble_eq_true rfl) dX6_tryAuxiliary_180 (fun σ13 h => ?_)
          try dsimp only at h
          refine g_aload_n C 4 0 rfl rfl dX6_tryAuxiliary_183 ?_
          refine g_iload_n C 5 1 rfl rfl dX6_tryAuxiliary_184 ?_
          refine g_iload_n C 6 2 rfl rfl dX6_tryAuxiliary_185 ?_
          refine g_iload C 15 11 rfl dX6_tryAuxiliary_186 ?_
          refine g_iload C 16 12 rfl dX6_tryAuxiliary_188 ?_
          refine g_iload C 11 7 rfl dX6_tryAuxiliary_190 ?_
          refine g_iload C 12 8 rfl dX6_tryAuxiliary_192 ?_
          refine g_iload C 13 9 rfl dX6_tryAuxiliary_194 ?_
          refine g_iload C 2 15 rfl dX6_tryAuxiliary_196 ?_
          obtain ⟨hi, h⟩ := h
          refine g_irem C hi dX6_tryAuxiliary_198 ?_
          refine g_callVv C (m_X6_lay l D cA ad h) hv_X6_lay tw_X6_91 (o := 23) (ci := 6) (As := [vI x1, vI x2, vI x11, vI x12, vI x7, vI x8, vI (iRem x9 r8)]) (st := []) rfl rfl rfl rfl ⟨Nat.le_of_ble_eq_true rfl, Nat.le_of_ble_eq_true rfl⟩ rfl rfl (Nat.le_of_ble_eq_true rfl) dX6_tryAuxiliary_199 (fun σ14 h => ?_)
          try dsimp only at h
          refine g_iload C 0 17 rfl dX6_tryAuxiliary_202 ?_
          exact g_iret C hlocks hr h dX6_tryAuxiliary_204
set_option maxRecDepth 100000 in
set_option maxHeartbeats 4000000 in
theorem m_X6_tryAuxiliary_L65 {p : Program} {l : Launch} {e : Env} {s : State} {m : MethodId} {args : Array Value} {below : List Frame} {meth : Method} {c : Code} {D : va_G} {cA : Nat → ClassId} {ad : Nat → Nat} (C : Cx p s m args c cX6_tryAuxiliary RX6 18 D cA shC ad zsC) (hlocks : meth.locks = false) (hr : meth.sig.returnType = (some .int)) {Q : Int → St → Prop} : ∀ (n : Nat) (x1 : Int) (x2 : Int) (x3 : Int) (x4 : Int) (x5 : Int) (x6 : Int) (x7 : Int) (x8 : Int) (x9 : Int) (x10 : Int) (x11 : Int) (σ : St), wp_X6_tryAuxiliary_L65 Q n x1 x2 x3 x4 x5 x6 x7 x8 x9 x10 x11 σ → G p l e rm_X6_tryAuxiliary s m args below meth c 0 0 18 D cA shC ad (QI D cA shC ad zsC below args s Q) σ [(0, .ref (ad 23)), (1, vI x1), (2, vI x2), (3, vI x3), (4, vI x4), (5, vI x5), (6, vI x6), (7, vI x7), (8, vI x8), (9, vI x9), (10, vI x10), (11, vI x11)] [] 65 := by
  intro n
  induction n with
  | zero => intro _ _ _ _ _ _ _ _ _ _ _ _ h; exact h.elim
  | succ n ih =>
    intro x1 x2 x3 x4 x5 x6 x7 x8 x9 x10 x11 σ h
    simp only [wp_X6_tryAuxiliary_L65] at h
    refine g_iload C 11 11 rfl dX6_tryAuxiliary_65 ?_
    refine g_iload C 10 10 rfl dX6_tryAuxiliary_67 ?_
    refine g_icmp_gt C rfl rfl 224 (by decide) dX6_tryAuxiliary_69 (fun hc => ?_) (fun hc => ?_)
    · have h := h.1 hc
      refine g_aload_n C 0 0 rfl rfl dX6_tryAuxiliary_224 ?_
      refine g_iload_n C 1 1 rfl rfl dX6_tryAuxiliary_225 ?_
      refine g_iload_n C 2 2 rfl rfl dX6_tryAuxiliary_226 ?_
      refine g_iconst C dX6_tryAuxiliary_227 ?_
      refine g_iload C 9 9 rfl dX6_tryAuxiliary_228 ?_
      refine g_callVv C (m_X6_setNodeCell l D cA ad h) hv_X6_setNodeCell tw_X6_69 (o := 23) (ci := 6) (As := [vI x1, vI x2, vI 1, vI x9]) (st := []) rfl rfl rfl rfl ⟨Nat.le_of_ble_eq_true rfl, Nat.le_of_ble_eq_true rfl⟩ rfl rfl (Nat.le_of_ble_eq_true rfl) dX6_tryAuxiliary_230 (fun σ1 h => ?_)
      try dsimp only at h
      refine g_iconst C dX6_tryAuxiliary_233 ?_
      exact g_iret C hlocks hr h dX6_tryAuxiliary_234
    · have h := h.2 hc
      refine g_iload C 11 11 rfl dX6_tryAuxiliary_72 ?_
      refine g_iload C 8 8 rfl dX6_tryAuxiliary_74 ?_
      refine g_max C tw_X6_102 tw_maxS tw_maxI tw_maxC (Nat.le_of_ble_eq_true rfl) (Nat.le_of_ble_eq_true rfl) dX6_tryAuxiliary_76 ?_
      refine g_name (fun x_2 ex_2 => ?_)
      have h := h x_2 ex_2
      refine g_istore C 12 [(0, .ref (ad 23)), (1, vI x1), (2, vI x2), (3, vI x3), (4, vI x4), (5, vI x5), (6, vI x6), (7, vI x7), (8, vI x8), (9, vI x9), (10, vI x10), (11, vI x11)] (by decide) rfl dX6_tryAuxiliary_79 ?_
      obtain ⟨nn, h⟩ := h
      exact g_pick [1, 2, 3, 4, 5, 6, 7, 8, 9, 10, 11, 12, 0] rfl (m_X6_tryAuxiliary_L81 C hlocks hr (fun _ _ _ _ _ _ _ _ _ _ _ _ h => ih _ _ _ _ _ _ _ _ _ _ _ _ h) nn _ _ _ _ _ _ _ _ _ _ _ _ _ h)
set_option maxRecDepth 100000 in
set_option maxHeartbeats 4000000 in
theorem m_X6_tryAuxiliary_B59 {p : Program} {l : Launch} {e : Env} {s : State} {m : MethodId} {args : Array Value} {below : List Frame} {meth : Method} {c : Code} {D : va_G} {cA : Nat → ClassId} {ad : Nat → Nat} (C : Cx p s m args c cX6_tryAuxiliary RX6 18 D cA shC ad zsC) (hlocks : meth.locks = false) (hr : meth.sig.returnType = (some .int)) {Q : Int → St → Prop} {x1 x2 x3 x4 x5 x6 x7 x8 x9 y0 : Int} {σ : St} (h : wp_X6_tryAuxiliary_B59 x1 x2 x3 x4 x5 x6 x7 x8 x9 y0 Q σ) : G p l e rm_X6_tryAuxiliary s m args below meth c 0 0 18 D cA shC ad (QI D cA shC ad zsC below args s Q) σ [(0, .ref (ad 23)), (1, vI x1), (2, vI x2), (3, vI x3), (4, vI x4), (5, vI x5), (6, vI x6), (7, vI x7), (8, vI x8), (9, vI x9)] [vI y0] 59 := by
  unfold wp_X6_tryAuxiliary_B59 at h
  refine g_istore C 10 [(0, .ref (ad 23)), (1, vI x1), (2, vI x2), (3, vI x3), (4, vI x4), (5, vI x5), (6, vI x6), (7, vI x7), (8, vI x8), (9, vI x9)] (by decide) rfl dX6_tryAuxiliary_59 ?_
  refine g_iload C 6 5 rfl dX6_tryAuxiliary_61 ?_
  refine g_istore C 11 [(10, vI y0), (0, .ref (ad 23)), (1, vI x1), (2, vI x2), (3, vI x3), (4, vI x4), (5, vI x5), (6, vI x6), (7, vI x7), (8, vI x8), (9, vI x9)] (by decide) rfl dX6_tryAuxiliary_63 ?_
  obtain ⟨nn, h⟩ := h
  exact g_pick [2, 3, 4, 5, 6, 7, 8, 9, 10, 11, 1, 0] rfl (m_X6_tryAuxiliary_L65 C hlocks hr nn _ _ _ _ _ _ _ _ _ _ _ _ h)
set_option maxRecDepth 100000 in
set_option maxHeartbeats 4000000 in
theorem m_X6_tryAuxiliary_E {p : Program} {l : Launch} {e : Env} {s : State} {m : MethodId} {args : Array Value} {below : List Frame} {meth : Method} {c : Code} {D : va_G} {cA : Nat → ClassId} {ad : Nat → Nat} (C : Cx p s m args c cX6_tryAuxiliary RX6 18 D cA shC ad zsC) (hlocks : meth.locks = false) (hr : meth.sig.returnType = (some .int)) {Q : Int → St → Prop} {a1 a2 a3 a4 : Int} {σ : St} (h : wp_X6_tryAuxiliary a1 a2 a3 a4 Q σ) : G p l e rm_X6_tryAuxiliary s m args below meth c 0 0 18 D cA shC ad (QI D cA shC ad zsC below args s Q) σ [(0, .ref (ad 23)), (1, vI a1), (2, vI a2), (3, vI a3), (4, vI a4)] [] 0 := by
  unfold wp_X6_tryAuxiliary at h
  refine g_aload_n C 0 0 rfl rfl dX6_tryAuxiliary_0 ?_
  refine g_iload_n C 1 1 rfl rfl dX6_tryAuxiliary_1 ?_
  refine g_iload_n C 2 2 rfl rfl dX6_tryAuxiliary_2 ?_
  refine g_iconst C dX6_tryAuxiliary_3 ?_
  refine g_callIv C (m_X6_nodeCell l D cA ad h) hv_X6_nodeCell tw_X6_47 (o := 23) (ci := 6) (As := [vI a1, vI a2, vI 3]) (st := []) rfl rfl rfl rfl ⟨Nat.le_of_ble_eq_true rfl, Nat.le_of_ble_eq_true rfl⟩ rfl rfl (Nat.le_of_ble_eq_true rfl) dX6_tryAuxiliary_4 (fun r2 σ1 h => ?_)
  try dsimp only at h
  refine g_istore C 5 [(0, .ref (ad 23)), (1, vI a1), (2, vI a2), (3, vI a3), (4, vI a4)] (by decide) rfl dX6_tryAuxiliary_7 ?_
  refine g_aload_n C 1 0 rfl rfl dX6_tryAuxiliary_9 ?_
  refine g_iload_n C 2 1 rfl rfl dX6_tryAuxiliary_10 ?_
  refine g_iload_n C 3 2 rfl rfl dX6_tryAuxiliary_11 ?_
  refine g_iconst C dX6_tryAuxiliary_12 ?_
  refine g_callIv C (m_X6_nodeCell l D cA ad h) hv_X6_nodeCell tw_X6_47 (o := 23) (ci := 6) (As := [vI a1, vI a2, vI 4]) (st := []) rfl rfl rfl rfl ⟨Nat.le_of_ble_eq_true rfl, Nat.le_of_ble_eq_true rfl⟩ rfl rfl (Nat.le_of_ble_eq_true rfl) dX6_tryAuxiliary_13 (fun r4 σ3 h => ?_)
  try dsimp only at h
  refine g_istore C 6 [(5, vI r2), (0, .ref (ad 23)), (1, vI a1), (2, vI a2), (3, vI a3), (4, vI a4)] (by decide) rfl dX6_tryAuxiliary_16 ?_
  refine g_aload_n C 2 0 rfl rfl dX6_tryAuxiliary_18 ?_
  refine g_iload_n C 3 1 rfl rfl dX6_tryAuxiliary_19 ?_
  refine g_iload_n C 4 2 rfl rfl dX6_tryAuxiliary_20 ?_
  refine g_iconst C dX6_tryAuxiliary_21 ?_
  refine g_callIv C (m_X6_nodeCell l D cA ad h) hv_X6_nodeCell tw_X6_47 (o := 23) (ci := 6) (As := [vI a1, vI a2, vI 5]) (st := []) rfl rfl rfl rfl ⟨Nat.le_of_ble_eq_true rfl, Nat.le_of_ble_eq_true rfl⟩ rfl rfl (Nat.le_of_ble_eq_true rfl) dX6_tryAuxiliary_22 (fun r6 σ5 h => ?_)
  try dsimp only at h
  refine g_istore C 7 [(6, vI r4), (5, vI r2), (0, .ref (ad 23)), (1, vI a1), (2, vI a2), (3, vI a3), (4, vI a4)] (by decide) rfl dX6_tryAuxiliary_25 ?_
  refine g_aload_n C 3 0 rfl rfl dX6_tryAuxiliary_27 ?_
  refine g_iload_n C 4 1 rfl rfl dX6_tryAuxiliary_28 ?_
  refine g_iload_n C 5 2 rfl rfl dX6_tryAuxiliary_29 ?_
  refine g_bipush C dX6_tryAuxiliary_30 (by decide) ?_
  refine g_callIv C (m_X6_nodeCell l D cA ad h) hv_X6_nodeCell tw_X6_47 (o := 23) (ci := 6) (As := [vI a1, vI a2, vI 6]) (st := []) rfl rfl rfl rfl ⟨Nat.le_of_ble_eq_true rfl, Nat.le_of_ble_eq_true rfl⟩ rfl rfl (Nat.le_of_ble_eq_true rfl) dX6_tryAuxiliary_32 (fun r8 σ7 h => ?_)
  try dsimp only at h
  refine g_istore C 8 [(7, vI r6), (6, vI r4), (5, vI r2), (0, .ref (ad 23)), (1, vI a1), (2, vI a2), (3, vI a3), (4, vI a4)] (by decide) rfl dX6_tryAuxiliary_35 ?_
  refine g_aload_n C 4 0 rfl rfl dX6_tryAuxiliary_37 ?_
  refine g_iload_n C 5 1 rfl rfl dX6_tryAuxiliary_38 ?_
  refine g_iload_n C 6 2 rfl rfl dX6_tryAuxiliary_39 ?_
  refine g_iconst C dX6_tryAuxiliary_40 ?_
  refine g_callIv C (m_X6_nodeCell l D cA ad h) hv_X6_nodeCell tw_X6_47 (o := 23) (ci := 6) (As := [vI a1, vI a2, vI 1]) (st := []) rfl rfl rfl rfl ⟨Nat.le_of_ble_eq_true rfl, Nat.le_of_ble_eq_true rfl⟩ rfl rfl (Nat.le_of_ble_eq_true rfl) dX6_tryAuxiliary_41 (fun r10 σ9 h => ?_)
  try dsimp only at h
  refine g_istore C 9 [(8, vI r8), (7, vI r6), (6, vI r4), (5, vI r2), (0, .ref (ad 23)), (1, vI a1), (2, vI a2), (3, vI a3), (4, vI a4)] (by decide) rfl dX6_tryAuxiliary_44 ?_
  refine g_iload C 2 7 rfl dX6_tryAuxiliary_46 ?_
  refine g_iconst C dX6_tryAuxiliary_48 ?_
  refine g_icmp_ne C (y' := (-1)) rfl (by decide) 57 (by decide) dX6_tryAuxiliary_49 (fun hc => ?_) (fun hc => ?_)
  · have h := h.1 hc
    refine g_iload C 2 7 rfl dX6_tryAuxiliary_57 ?_
    exact g_pick [5, 6, 7, 8, 9, 4, 3, 2, 1, 0] rfl (m_X6_tryAuxiliary_B59 C hlocks hr h)
  · have h := h.2 hc
    refine g_iload C 3 6 rfl dX6_tryAuxiliary_52 ?_
    refine g_goto C 59 (by decide) dX6_tryAuxiliary_54 ?_
    exact g_pick [5, 6, 7, 8, 9, 4, 3, 2, 1, 0] rfl (m_X6_tryAuxiliary_B59 C hlocks hr h)
set_option maxRecDepth 100000 in
set_option maxHeartbeats 4000000 in
theorem m_X6_tryAuxiliary (l : Launch) (D : va_G) (cA : Nat → ClassId) (ad : Nat → Nat) {a1 a2 a3 a4 : Int} {Q : Int → St → Prop} {σ : St} (h : wp_X6_tryAuxiliary a1 a2 a3 a4 Q σ) : CtI l yX6_tryAuxiliary (.code yX6_tryAuxiliary cX6_tryAuxiliary 18 (some .int)) rm_X6_tryAuxiliary D cA shC ad zsC [.ref (ad 23), vI a1, vI a2, vI a3, vI a4] σ Q :=
  ct_I RX6 (by decide +kernel) rfl (Nat.le_of_ble_eq_true rfl) (fun p e s m args below meth c C hlocks hr => m_X6_tryAuxiliary_E C hlocks hr h)
abbrev rm_X6_startAuxiliary : Room := { frames := 4, cells := 0, slots := 0, locals := 88 }
set_option maxRecDepth 100000 in
set_option maxHeartbeats 4000000 in
theorem m_X6_startAuxiliary_B175 {p : Program} {l : Launch} {e : Env} {s : State} {m : MethodId} {args : Array Value} {below : List Frame} {meth : Method} {c : Code} {D : va_G} {cA : Nat → ClassId} {ad : Nat → Nat} (C : Cx p s m args c cX6_startAuxiliary RX6 9 D cA shC ad zsC) (hlocks : meth.locks = false) (hr : meth.sig.returnType = (some .int)) {Q : Int → St → Prop} {K104 : Int → Int → Int → Int → Int → St → Prop} (hK104 : ∀ (x1 : Int) (x2 : Int) (x3 : Int) (x7 : Int) (x8 : Int) (σ : St), K104 x1 x2 x3 x7 x8 σ → G p l e rm_X6_startAuxiliary s m args below meth c 0 0 9 D cA shC ad (QI D cA shC ad zsC below args s Q) σ [(0, .ref (ad 23)), (1, vI x1), (2, vI x2), (3, vI x3), (7, vI x7), (8, vI x8)] [] 104) {x1 x2 x3 x7 x8 : Int} {σ : St} (h : wp_X6_startAuxiliary_B175 K104 x1 x2 x3 x7 x8 Q σ) : G p l e rm_X6_startAuxiliary s m args below meth c 0 0 9 D cA shC ad (QI D cA shC ad zsC below args s Q) σ [(0, .ref (ad 23)), (1, vI x1), (2, vI x2), (3, vI x3), (7, vI x7), (8, vI x8)] [] 175 := by
  unfold wp_X6_startAuxiliary_B175 at h
  refine g_iinc C 5 8 [(0, .ref (ad 23)), (1, vI x1), (2, vI x2), (3, vI x3), (7, vI x7)] rfl (by decide) rfl dX6_startAuxiliary_175 (fun x_1 ex_1 => ?_)
  have h := h x_1 ex_1
  refine g_goto C 104 (by decide) dX6_startAuxiliary_178 ?_
  exact g_pick [1, 2, 3, 4, 5, 0] rfl (hK104 _ _ _ _ _ _ h)
set_option maxRecDepth 100000 in
set_option maxHeartbeats 4000000 in
theorem m_X6_startAuxiliary_L104 {p : Program} {l : Launch} {e : Env} {s : State} {m : MethodId} {args : Array Value} {below : List Frame} {meth : Method} {c : Code} {D : va_G} {cA : Nat → ClassId} {ad : Nat → Nat} (C : Cx p s m args c cX6_startAuxiliary RX6 9 D cA shC ad zsC) (hlocks : meth.locks = false) (hr : meth.sig.returnType = (some .int)) {Q : Int → St → Prop} : ∀ (n : Nat) (x1 : Int) (x2 : Int) (x3 : Int) (x7 : Int) (x8 : Int) (σ : St), wp_X6_startAuxiliary_L104 Q n x1 x2 x3 x7 x8 σ → G p l e rm_X6_startAuxiliary s m args below meth c 0 0 9 D cA shC ad (QI D cA shC ad zsC below args s Q) σ [(0, .ref (ad 23)), (1, vI x1), (2, vI x2), (3, vI x3), (7, vI x7), (8, vI x8)] [] 104 := by
  intro n
  induction n with
  | zero => intro _ _ _ _ _ _ h; exact h.elim
  | succ n ih =>
    intro x1 x2 x3 x7 x8 σ h
    simp only [wp_X6_startAuxiliary_L104] at h
    refine g_iload C 5 8 rfl dX6_startAuxiliary_104 ?_
    refine g_aload_n C 0 0 rfl rfl dX6_startAuxiliary_106 ?_
    refine g_get C iX6 (ci := 6) (o := 23) (v := .ref (ad 3)) rfl rfl 1 (by decide) rfl tw_X6_18 dX6_startAuxiliary_107 ?_
    refine g_get C iX1 (ci := 1) (o := 3) (v := vI (σ 3 4)) rfl rfl 4 (by decide) rfl tw_X6_73 dX6_startAuxiliary_110 ?_
    refine g_icmp_ge C rfl rfl 181 (by decide) dX6_startAuxiliary_113 (fun hc => ?_) (fun hc => ?_)
    · have h := h.1 hc
      refine g_iload C 4 7 rfl dX6_startAuxiliary_181 ?_
      exact g_iret C hlocks hr h dX6_startAuxiliary_183
    · have h := h.2 hc
      refine g_iload C 4 7 rfl dX6_startAuxiliary_116 ?_
      refine g_iconst C dX6_startAuxiliary_118 ?_
      refine g_icmp_ne C (y' := (-1)) rfl (by decide) 181 (by decide) dX6_startAuxiliary_119 (fun hc => ?_) (fun hc => ?_)
      · have h := h.1 hc
        refine g_iload C 4 7 rfl dX6_startAuxiliary_181 ?_
        exact g_iret C hlocks hr h dX6_startAuxiliary_183
      · have h := h.2 hc
        refine g_aload_n C 0 0 rfl rfl dX6_startAuxiliary_122 ?_
        refine g_get C iX6 (ci := 6) (o := 23) (v := .ref (ad 3)) rfl rfl 1 (by decide) rfl tw_X6_18 dX6_startAuxiliary_123 ?_
        refine g_iload C 5 8 rfl dX6_startAuxiliary_126 ?_
        refine g_callIv C (m_X1_rootLabel l D cA ad h) hv_X1_rootLabel tw_X6_76 (o := 3) (ci := 1) (As := [vI x8]) (st := []) rfl rfl rfl rfl ⟨Nat.le_of_ble_eq_true rfl, Nat.le_of_ble_eq_true rfl⟩ rfl rfl (Nat.le_of_ble_eq_true rfl) dX6_startAuxiliary_128 (fun r2 σ1 h => ?_)
        try dsimp only at h
        refine g_aload_n C 0 0 rfl rfl dX6_startAuxiliary_131 ?_
        refine g_get C iX6 (ci := 6) (o := 23) (v := .ref (ad 3)) rfl rfl 1 (by decide) rfl tw_X6_18 dX6_startAuxiliary_132 ?_
        refine g_iload_n C 3 3 rfl rfl dX6_startAuxiliary_135 ?_
        refine g_iconst C dX6_startAuxiliary_136 ?_
        refine g_callIv C (m_X1_cell l D cA ad h) hv_X1_cell tw_X6_59 (o := 3) (ci := 1) (As := [vI x3, vI 1]) (st := [vI r2]) rfl rfl rfl rfl ⟨Nat.le_of_ble_eq_true rfl, Nat.le_of_ble_eq_true rfl⟩ rfl rfl (Nat.le_of_ble_eq_true rfl) dX6_startAuxiliary_137 (fun r4 σ3 h => ?_)
        try dsimp only at h
        refine g_icmp_ne C rfl rfl 175 (by decide) dX6_startAuxiliary_140 (fun hc => ?_) (fun hc => ?_)
        · have h := h.1 hc
          exact g_pick [0, 1, 2, 3, 4, 5] rfl (m_X6_startAuxiliary_B175 C hlocks hr (fun _ _ _ _ _ _ h => ih _ _ _ _ _ _ h) h)
        · have h := h.2 hc
          refine g_aload_n C 0 0 rfl rfl dX6_startAuxiliary_143 ?_
          refine g_get C iX6 (ci := 6) (o := 23) (v := .ref (ad 3)) rfl rfl 1 (by decide) rfl tw_X6_18 dX6_startAuxiliary_144 ?_
          refine g_iload C 5 8 rfl dX6_startAuxiliary_147 ?_
          refine g_callIv C (m_X1_isAuxiliary l D cA ad h) hv_X1_isAuxiliary tw_X6_80 (o := 3) (ci := 1) (As := [vI x8]) (st := []) rfl rfl rfl rfl ⟨Nat.le_of_ble_eq_true rfl, Nat.le_of_ble_eq_true rfl⟩ rfl rfl (Nat.le_of_ble_eq_true rfl) dX6_startAuxiliary_149 (fun r6 σ5 h => ?_)
          try dsimp only at h
          refine g_if_eq C rfl 175 (by decide) dX6_startAuxiliary_152 (fun hc => ?_) (fun hc => ?_)
          · have h := h.1 hc
            exact g_pick [0, 1, 2, 3, 4, 5] rfl (m_X6_startAuxiliary_B175 C hlocks hr (fun _ _ _ _ _ _ h => ih _ _ _ _ _ _ h) h)
          · have h := h.2 hc
            refine g_aload_n C 0 0 rfl rfl dX6_startAuxiliary_155 ?_
            refine g_get C iX6 (ci := 6) (o := 23) (v := vI (σ5 23 0)) rfl rfl 0 (by decide) rfl tw_X6_26 dX6_startAuxiliary_156 ?_
            refine g_bipush C dX6_startAuxiliary_159 (by decide) ?_
            refine g_icmp_ge C (y' := 8) rfl (by decide) 175 (by decide) dX6_startAuxiliary_161 (fun hc => ?_) (fun hc => ?_)
            · have h := h.1 hc
              exact g_pick [0, 1, 2, 3, 4, 5] rfl (m_X6_startAuxiliary_B175 C hlocks hr (fun _ _ _ _ _ _ h => ih _ _ _ _ _ _ h) h)
            · have h := h.2 hc
              refine g_aload_n C 0 0 rfl rfl dX6_startAuxiliary_164 ?_
              refine g_iload_n C 1 1 rfl rfl dX6_startAuxiliary_165 ?_
              refine g_iload_n C 2 2 rfl rfl dX6_startAuxiliary_166 ?_
              refine g_iload_n C 3 3 rfl rfl dX6_startAuxiliary_167 ?_
              refine g_iload C 5 8 rfl dX6_startAuxiliary_168 ?_
              refine g_callIv C (m_X6_tryAuxiliary l D cA ad h) hv_X6_tryAuxiliary tw_X6_98 (o := 23) (ci := 6) (As := [vI x1, vI x2, vI x3, vI x8]) (st := []) rfl rfl rfl rfl ⟨Nat.le_of_ble_eq_true rfl, Nat.le_of_ble_eq_true rfl⟩ rfl rfl (Nat.le_of_ble_eq_true rfl) dX6_startAuxiliary_170 (fun r8 σ7 h => ?_)
              try dsimp only at h
              refine g_istore C 7 [(0, .ref (ad 23)), (1, vI x1), (2, vI x2), (3, vI x3), (8, vI x8)] (by decide) rfl dX6_startAuxiliary_173 ?_
              exact g_pick [1, 2, 3, 4, 0, 5] rfl (m_X6_startAuxiliary_B175 C hlocks hr (fun _ _ _ _ _ _ h => ih _ _ _ _ _ _ h) h)
set_option maxRecDepth 100000 in
set_option maxHeartbeats 4000000 in
theorem m_X6_startAuxiliary_B75 {p : Program} {l : Launch} {e : Env} {s : State} {m : MethodId} {args : Array Value} {below : List Frame} {meth : Method} {c : Code} {D : va_G} {cA : Nat → ClassId} {ad : Nat → Nat} (C : Cx p s m args c cX6_startAuxiliary RX6 9 D cA shC ad zsC) (hlocks : meth.locks = false) (hr : meth.sig.returnType = (some .int)) {Q : Int → St → Prop} {x1 x2 x3 x4 y0 : Int} {σ : St} (h : wp_X6_startAuxiliary_B75 x1 x2 x3 x4 y0 Q σ) : G p l e rm_X6_startAuxiliary s m args below meth c 0 0 9 D cA shC ad (QI D cA shC ad zsC below args s Q) σ [(0, .ref (ad 23)), (1, vI x1), (2, vI x2), (3, vI x3), (4, vI x4)] [vI y0] 75 := by
  unfold wp_X6_startAuxiliary_B75 at h
  refine g_istore C 6 [(0, .ref (ad 23)), (1, vI x1), (2, vI x2), (3, vI x3), (4, vI x4)] (by decide) rfl dX6_startAuxiliary_75 ?_
  refine g_iload C 5 4 rfl dX6_startAuxiliary_77 ?_
  refine g_iload C 0 6 rfl dX6_startAuxiliary_79 ?_
  refine g_icmp_ge C rfl rfl 86 (by decide) dX6_startAuxiliary_81 (fun hc => ?_) (fun hc => ?_)
  · have h := h.1 hc
    refine g_aload_n C 1 0 rfl rfl dX6_startAuxiliary_86 ?_
    refine g_iload_n C 2 1 rfl rfl dX6_startAuxiliary_87 ?_
    refine g_iload_n C 3 2 rfl rfl dX6_startAuxiliary_88 ?_
    refine g_iconst C dX6_startAuxiliary_89 ?_
    refine g_iload C 5 4 rfl dX6_startAuxiliary_90 ?_
    refine g_iload C 0 6 rfl dX6_startAuxiliary_92 ?_
    refine g_isub C dX6_startAuxiliary_94 ?_
    refine g_callVv C (m_X6_setNodeCell l D cA ad h) hv_X6_setNodeCell tw_X6_69 (o := 23) (ci := 6) (As := [vI x1, vI x2, vI 1, vI (x4 - y0)]) (st := []) rfl rfl rfl rfl ⟨Nat.le_of_ble_eq_true rfl, Nat.le_of_ble_eq_true rfl⟩ rfl rfl (Nat.le_of_ble_eq_true rfl) dX6_startAuxiliary_95 (fun σ1 h => ?_)
    try dsimp only at h
    refine g_iconst C dX6_startAuxiliary_98 ?_
    refine g_istore C 7 [(6, vI y0), (0, .ref (ad 23)), (1, vI x1), (2, vI x2), (3, vI x3), (4, vI x4)] (by decide) rfl dX6_startAuxiliary_99 ?_
    refine g_iconst C dX6_startAuxiliary_101 ?_
    refine g_istore C 8 [(7, vI (-1)), (6, vI y0), (0, .ref (ad 23)), (1, vI x1), (2, vI x2), (3, vI x3), (4, vI x4)] (by decide) rfl dX6_startAuxiliary_102 ?_
    obtain ⟨nn, h⟩ := h
    exact g_pick [3, 4, 5, 6, 1, 0] rfl (m_X6_startAuxiliary_L104 C hlocks hr nn _ _ _ _ _ _ h)
  · have h := h.2 hc
    refine g_iconst C dX6_startAuxiliary_84 ?_
    exact g_iret C hlocks hr h dX6_startAuxiliary_85
set_option maxRecDepth 100000 in
set_option maxHeartbeats 4000000 in
theorem m_X6_startAuxiliary_B27 {p : Program} {l : Launch} {e : Env} {s : State} {m : MethodId} {args : Array Value} {below : List Frame} {meth : Method} {c : Code} {D : va_G} {cA : Nat → ClassId} {ad : Nat → Nat} (C : Cx p s m args c cX6_startAuxiliary RX6 9 D cA shC ad zsC) (hlocks : meth.locks = false) (hr : meth.sig.returnType = (some .int)) {Q : Int → St → Prop} {x1 x2 x3 x4 y0 : Int} {σ : St} (h : wp_X6_startAuxiliary_B27 x1 x2 x3 x4 y0 Q σ) : G p l e rm_X6_startAuxiliary s m args below meth c 0 0 9 D cA shC ad (QI D cA shC ad zsC below args s Q) σ [(0, .ref (ad 23)), (1, vI x1), (2, vI x2), (3, vI x3), (4, vI x4)] [vI y0] 27 := by
  unfold wp_X6_startAuxiliary_B27 at h
  refine g_istore C 5 [(0, .ref (ad 23)), (1, vI x1), (2, vI x2), (3, vI x3), (4, vI x4)] (by decide) rfl dX6_startAuxiliary_27 ?_
  refine g_iload C 0 5 rfl dX6_startAuxiliary_29 ?_
  refine g_if_eq C rfl 74 (by decide) dX6_startAuxiliary_31 (fun hc => ?_) (fun hc => ?_)
  · have h := h.1 hc
    refine g_iconst C dX6_startAuxiliary_74 ?_
    exact g_pick [1, 2, 3, 4, 5] rfl (m_X6_startAuxiliary_B75 C hlocks hr h)
  · have h := h.2 hc
    refine g_aload_n C 1 0 rfl rfl dX6_startAuxiliary_34 ?_
    refine g_get C iX6 (ci := 6) (o := 23) (v := .ref (ad 17)) rfl rfl 2 (by decide) rfl tw_X6_22 dX6_startAuxiliary_35 ?_
    refine g_iload_n C 4 3 rfl rfl dX6_startAuxiliary_38 ?_
    refine g_aload_n C 1 0 rfl rfl dX6_startAuxiliary_39 ?_
    refine g_iload_n C 2 1 rfl rfl dX6_startAuxiliary_40 ?_
    refine g_iload_n C 3 2 rfl rfl dX6_startAuxiliary_41 ?_
    refine g_iconst C dX6_startAuxiliary_42 ?_
    refine g_callIv C (m_X6_nodeCell l D cA ad h) hv_X6_nodeCell tw_X6_47 (o := 23) (ci := 6) (As := [vI x1, vI x2, vI 3]) (st := [vI x3, .ref (ad 17)]) rfl rfl rfl rfl ⟨Nat.le_of_ble_eq_true rfl, Nat.le_of_ble_eq_true rfl⟩ rfl rfl (Nat.le_of_ble_eq_true rfl) dX6_startAuxiliary_43 (fun r2 σ1 h => ?_)
    try dsimp only at h
    refine g_aload_n C 1 0 rfl rfl dX6_startAuxiliary_46 ?_
    refine g_iload_n C 2 1 rfl rfl dX6_startAuxiliary_47 ?_
    refine g_iload_n C 3 2 rfl rfl dX6_startAuxiliary_48 ?_
    refine g_iconst C dX6_startAuxiliary_49 ?_
    refine g_callIv C (m_X6_nodeCell l D cA ad h) hv_X6_nodeCell tw_X6_47 (o := 23) (ci := 6) (As := [vI x1, vI x2, vI 4]) (st := [vI r2, vI x3, .ref (ad 17)]) rfl rfl rfl rfl ⟨Nat.le_of_ble_eq_true rfl, Nat.le_of_ble_eq_true rfl⟩ rfl rfl (Nat.le_of_ble_eq_true rfl) dX6_startAuxiliary_50 (fun r4 σ3 h => ?_)
    try dsimp only at h
    refine g_aload_n C 1 0 rfl rfl dX6_startAuxiliary_53 ?_
    refine g_iload_n C 2 1 rfl rfl dX6_startAuxiliary_54 ?_
    refine g_iload_n C 3 2 rfl rfl dX6_startAuxiliary_55 ?_
    refine g_iconst C dX6_startAuxiliary_56 ?_
    refine g_callIv C (m_X6_nodeCell l D cA ad h) hv_X6_nodeCell tw_X6_47 (o := 23) (ci := 6) (As := [vI x1, vI x2, vI 5]) (st := [vI r4, vI r2, vI x3, .ref (ad 17)]) rfl rfl rfl rfl ⟨Nat.le_of_ble_eq_true rfl, Nat.le_of_ble_eq_true rfl⟩ rfl rfl (Nat.le_of_ble_eq_true rfl) dX6_startAuxiliary_57 (fun r6 σ5 h => ?_)
    try dsimp only at h
    refine g_aload_n C 1 0 rfl rfl dX6_startAuxiliary_60 ?_
    refine g_iload_n C 2 1 rfl rfl dX6_startAuxiliary_61 ?_
    refine g_iload_n C 3 2 rfl rfl dX6_startAuxiliary_62 ?_
    refine g_bipush C dX6_startAuxiliary_63 (by decide) ?_
    refine g_callIv C (m_X6_nodeCell l D cA ad h) hv_X6_nodeCell tw_X6_47 (o := 23) (ci := 6) (As := [vI x1, vI x2, vI 6]) (st := [vI r6, vI r4, vI r2, vI x3, .ref (ad 17)]) rfl rfl rfl rfl ⟨Nat.le_of_ble_eq_true rfl, Nat.le_of_ble_eq_true rfl⟩ rfl rfl (Nat.le_of_ble_eq_true rfl) dX6_startAuxiliary_65 (fun r8 σ7 h => ?_)
    try dsimp only at h
    refine g_callIv C (m_X0_partsWays l D cA ad h) hv_X0_partsWays tw_X6_95 (o := 17) (ci := 0) (As := [vI x3, vI r2, vI r4, vI r6, vI r8]) (st := []) rfl rfl rfl rfl ⟨Nat.le_of_ble_eq_true rfl, Nat.le_of_ble_eq_true rfl⟩ rfl rfl (Nat.le_of_ble_eq_true rfl) dX6_startAuxiliary_68 (fun r10 σ9 h => ?_)
    try dsimp only at h
    refine g_goto C 75 (by decide) dX6_startAuxiliary_71 ?_
    exact g_pick [1, 2, 3, 4, 5] rfl (m_X6_startAuxiliary_B75 C hlocks hr h)
set_option maxRecDepth 100000 in
set_option maxHeartbeats 4000000 in
theorem m_X6_startAuxiliary_E {p : Program} {l : Launch} {e : Env} {s : State} {m : MethodId} {args : Array Value} {below : List Frame} {meth : Method} {c : Code} {D : va_G} {cA : Nat → ClassId} {ad : Nat → Nat} (C : Cx p s m args c cX6_startAuxiliary RX6 9 D cA shC ad zsC) (hlocks : meth.locks = false) (hr : meth.sig.returnType = (some .int)) {Q : Int → St → Prop} {a1 a2 a3 : Int} {σ : St} (h : wp_X6_startAuxiliary a1 a2 a3 Q σ) : G p l e rm_X6_startAuxiliary s m args below meth c 0 0 9 D cA shC ad (QI D cA shC ad zsC below args s Q) σ [(0, .ref (ad 23)), (1, vI a1), (2, vI a2), (3, vI a3)] [] 0 := by
  unfold wp_X6_startAuxiliary at h
  refine g_aload_n C 0 0 rfl rfl dX6_startAuxiliary_0 ?_
  refine g_iload_n C 1 1 rfl rfl dX6_startAuxiliary_1 ?_
  refine g_iload_n C 2 2 rfl rfl dX6_startAuxiliary_2 ?_
  refine g_iconst C dX6_startAuxiliary_3 ?_
  refine g_callIv C (m_X6_nodeCell l D cA ad h) hv_X6_nodeCell tw_X6_47 (o := 23) (ci := 6) (As := [vI a1, vI a2, vI 1]) (st := []) rfl rfl rfl rfl ⟨Nat.le_of_ble_eq_true rfl, Nat.le_of_ble_eq_true rfl⟩ rfl rfl (Nat.le_of_ble_eq_true rfl) dX6_startAuxiliary_4 (fun r2 σ1 h => ?_)
  try dsimp only at h
  refine g_istore C 4 [(0, .ref (ad 23)), (1, vI a1), (2, vI a2), (3, vI a3)] (by decide) rfl dX6_startAuxiliary_7 ?_
  refine g_aload_n C 1 0 rfl rfl dX6_startAuxiliary_9 ?_
  refine g_get C iX6 (ci := 6) (o := 23) (v := .ref (ad 3)) rfl rfl 1 (by decide) rfl tw_X6_18 dX6_startAuxiliary_10 ?_
  refine g_iload_n C 4 3 rfl rfl dX6_startAuxiliary_13 ?_
  refine g_iconst C dX6_startAuxiliary_14 ?_
  refine g_callIv C (m_X1_cell l D cA ad h) hv_X1_cell tw_X6_59 (o := 3) (ci := 1) (As := [vI a3, vI 4]) (st := []) rfl rfl rfl rfl ⟨Nat.le_of_ble_eq_true rfl, Nat.le_of_ble_eq_true rfl⟩ rfl rfl (Nat.le_of_ble_eq_true rfl) dX6_startAuxiliary_15 (fun r4 σ3 h => ?_)
  try dsimp only at h
  refine g_iconst C dX6_startAuxiliary_18 ?_
  refine g_icmp_eq C (y' := 1) rfl (by decide) 26 (by decide) dX6_startAuxiliary_19 (fun hc => ?_) (fun hc => ?_)
  · have h := h.1 hc
    refine g_iconst C dX6_startAuxiliary_26 ?_
    exact g_pick [1, 2, 3, 4, 0] rfl (m_X6_startAuxiliary_B27 C hlocks hr h)
  · have h := h.2 hc
    refine g_iconst C dX6_startAuxiliary_22 ?_
    refine g_goto C 27 (by decide) dX6_startAuxiliary_23 ?_
    exact g_pick [1, 2, 3, 4, 0] rfl (m_X6_startAuxiliary_B27 C hlocks hr h)
set_option maxRecDepth 100000 in
set_option maxHeartbeats 4000000 in
theorem m_X6_startAuxiliary (l : Launch) (D : va_G) (cA : Nat → ClassId) (ad : Nat → Nat) {a1 a2 a3 : Int} {Q : Int → St → Prop} {σ : St} (h : wp_X6_startAuxiliary a1 a2 a3 Q σ) : CtI l yX6_startAuxiliary (.code yX6_startAuxiliary cX6_startAuxiliary 9 (some .int)) rm_X6_startAuxiliary D cA shC ad zsC [.ref (ad 23), vI a1, vI a2, vI a3] σ Q :=
  ct_I RX6 (by decide +kernel) rfl (Nat.le_of_ble_eq_true rfl) (fun p e s m args below meth c C hlocks hr => m_X6_startAuxiliary_E C hlocks hr h)
abbrev rm_X6_splitOff : Room := { frames := 3, cells := 0, slots := 0, locals := 51 }
set_option maxRecDepth 100000 in
set_option maxHeartbeats 4000000 in
theorem m_X6_splitOff_B233 {p : Program} {l : Launch} {e : Env} {s : State} {m : MethodId} {args : Array Value} {below : List Frame} {meth : Method} {c : Code} {D : va_G} {cA : Nat → ClassId} {ad : Nat → Nat} (C : Cx p s m args c cX6_splitOff RX6 17 D cA shC ad zsC) (hlocks : meth.locks = false) (hr : meth.sig.returnType = (some .int)) {Q : Int → St → Prop} {x8 x9 x15 y1 y2 y3 y4 y5 y6 : Int} {σ : St} (h : wp_X6_splitOff_B233 x8 x9 x15 y1 y2 y3 y4 y5 y6 Q σ) : G p l e rm_X6_splitOff s m args below meth c 0 0 17 D cA shC ad (QI D cA shC ad zsC below args s Q) σ [(8, vI x8), (9, vI x9), (15, vI x15)] [vI y6, vI y5, vI y4, vI y3, vI y2, vI y1, .ref (ad 23)] 233 := by
  unfold wp_X6_splitOff_B233 at h
  refine g_iload C 0 8 rfl dX6_splitOff_233 ?_
  refine g_iload C 2 15 rfl dX6_splitOff_235 ?_
  obtain ⟨hi, h⟩ := h
  refine g_irem C hi dX6_splitOff_237 ?_
  refine g_callVv C (m_X6_lay l D cA ad h) hv_X6_lay tw_X6_91 (o := 23) (ci := 6) (As := [vI y1, vI y2, vI y3, vI y4, vI y5, vI y6, vI (iRem x8 x15)]) (st := []) rfl rfl rfl rfl ⟨Nat.le_of_ble_eq_true rfl, Nat.le_of_ble_eq_true rfl⟩ rfl rfl (Nat.le_of_ble_eq_true rfl) dX6_splitOff_238 (fun σ1 h => ?_)
  try dsimp only at h
  refine g_goto C 257 (by decide) dX6_splitOff_241 ?_
  refine g_iload C 1 9 rfl dX6_splitOff_257 ?_
  exact g_iret C hlocks hr h dX6_splitOff_259
set_option maxRecDepth 100000 in
set_option maxHeartbeats 4000000 in
theorem m_X6_splitOff_B222 {p : Program} {l : Launch} {e : Env} {s : State} {m : MethodId} {args : Array Value} {below : List Frame} {meth : Method} {c : Code} {D : va_G} {cA : Nat → ClassId} {ad : Nat → Nat} (C : Cx p s m args c cX6_splitOff RX6 17 D cA shC ad zsC) (hlocks : meth.locks = false) (hr : meth.sig.returnType = (some .int)) {Q : Int → St → Prop} {x7 x8 x9 x10 x15 y1 y2 y3 y4 y5 : Int} {σ : St} (h : wp_X6_splitOff_B222 x7 x8 x9 x10 x15 y1 y2 y3 y4 y5 Q σ) : G p l e rm_X6_splitOff s m args below meth c 0 0 17 D cA shC ad (QI D cA shC ad zsC below args s Q) σ [(7, vI x7), (8, vI x8), (9, vI x9), (10, vI x10), (15, vI x15)] [vI y5, vI y4, vI y3, vI y2, vI y1, .ref (ad 23)] 222 := by
  unfold wp_X6_splitOff_B222 at h
  refine g_iload C 3 10 rfl dX6_splitOff_222 ?_
  refine g_if_eq C rfl 231 (by decide) dX6_splitOff_224 (fun hc => ?_) (fun hc => ?_)
  · have h := h.1 hc
    refine g_iload C 0 7 rfl dX6_splitOff_231 ?_
    exact g_pick [1, 2, 4] rfl (m_X6_splitOff_B233 C hlocks hr h)
  · have h := h.2 hc
    refine g_iconst C dX6_splitOff_227 ?_
    refine g_goto C 233 (by decide) dX6_splitOff_228 ?_
    exact g_pick [1, 2, 4] rfl (m_X6_splitOff_B233 C hlocks hr h)
