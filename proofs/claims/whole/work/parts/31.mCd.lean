set_option maxRecDepth 100000 in
set_option maxHeartbeats 4000000 in
theorem m_X0_lay_L57 {p : Program} {l : Launch} {e : Env} {s : State} {m : MethodId} {args : Array Value} {below : List Frame} {meth : Method} {c : Code} {D : va_G} {cA : Nat → ClassId} {ad : Nat → Nat} (C : Cx p s m args c cX0_lay RX0 14 D cA shC ad zsC) (hlocks : meth.locks = false) (hr : meth.sig.returnType = none) {Q : St → Prop} : ∀ (n : Nat) (x1 : Int) (x2 : Int) (x3 : Int) (x5 : Int) (x6 : Int) (x7 : Int) (σ : St), wp_X0_lay_L57 Q n x1 x2 x3 x5 x6 x7 σ → G p l e rm_X0_lay s m args below meth c 0 0 14 D cA shC ad (QV D cA shC ad zsC below args s Q) σ [(0, .ref (ad 17)), (1, vI x1), (2, vI x2), (3, vI x3), (4, .ref (ad 20)), (5, vI x5), (6, vI x6), (7, vI x7)] [] 57 := by
  intro n
  induction n with
  | zero => intro _ _ _ _ _ _ _ h; exact h.elim
  | succ n ih =>
    intro x1 x2 x3 x5 x6 x7 σ h
    simp only [wp_X0_lay_L57] at h
    refine g_iload C 7 7 rfl dX0_lay_57 ?_
    refine g_iload_n C 2 2 rfl rfl dX0_lay_59 ?_
    refine g_iadd C dX0_lay_60 ?_
    refine g_aload_n C 0 0 rfl rfl dX0_lay_61 ?_
    refine g_get C iX0 (ci := 0) (o := 17) (v := vI (σ 17 0)) rfl rfl 0 (by decide) rfl tw_X0_73 dX0_lay_62 ?_
    refine g_icmp_gt C rfl rfl 243 (by decide) dX0_lay_65 (fun hc => ?_) (fun hc => ?_)
    · have h := h.1 hc
      exact g_vret C hlocks hr h dX0_lay_243
    · have h := h.2 hc
      refine g_iload C 6 6 rfl dX0_lay_68 ?_
      refine g_if_ne C rfl 80 (by decide) dX0_lay_70 (fun hc => ?_) (fun hc => ?_)
      · have h := h.1 hc
        refine g_aload_n C 0 0 rfl rfl dX0_lay_80 ?_
        refine g_get C iX0 (ci := 0) (o := 17) (v := vI (σ 17 0)) rfl rfl 0 (by decide) rfl tw_X0_73 dX0_lay_81 ?_
        exact g_pick [0, 1, 2, 3, 4, 5, 6, 7] rfl (m_X0_lay_B84 C hlocks hr (fun _ _ _ _ _ _ _ h => ih _ _ _ _ _ _ _ h) h)
      · have h := h.2 hc
        refine g_iload C 7 7 rfl dX0_lay_73 ?_
        refine g_iload_n C 2 2 rfl rfl dX0_lay_75 ?_
        refine g_iadd C dX0_lay_76 ?_
        refine g_goto C 84 (by decide) dX0_lay_77 ?_
        exact g_pick [0, 1, 2, 3, 4, 5, 6, 7] rfl (m_X0_lay_B84 C hlocks hr (fun _ _ _ _ _ _ _ h => ih _ _ _ _ _ _ _ h) h)
set_option maxRecDepth 100000 in
set_option maxHeartbeats 4000000 in
theorem m_X0_lay_B38 {p : Program} {l : Launch} {e : Env} {s : State} {m : MethodId} {args : Array Value} {below : List Frame} {meth : Method} {c : Code} {D : va_G} {cA : Nat → ClassId} {ad : Nat → Nat} (C : Cx p s m args c cX0_lay RX0 14 D cA shC ad zsC) (hlocks : meth.locks = false) (hr : meth.sig.returnType = none) {Q : St → Prop} {x1 x2 x3 y0 : Int} {σ : St} (h : wp_X0_lay_B38 x1 x2 x3 y0 Q σ) : G p l e rm_X0_lay s m args below meth c 0 0 14 D cA shC ad (QV D cA shC ad zsC below args s Q) σ [(0, .ref (ad 17)), (1, vI x1), (2, vI x2), (3, vI x3), (4, .ref (ad 20))] [vI y0] 38 := by
  unfold wp_X0_lay_B38 at h
  refine g_istore C 5 [(0, .ref (ad 17)), (1, vI x1), (2, vI x2), (3, vI x3), (4, .ref (ad 20))] (by decide) rfl dX0_lay_38 ?_
  refine g_aload_n C 1 0 rfl rfl dX0_lay_40 ?_
  refine g_get C iX0 (ci := 0) (o := 17) (v := .ref (ad 3)) rfl rfl 1 (by decide) rfl tw_X0_31 dX0_lay_41 ?_
  refine g_iload_n C 2 1 rfl rfl dX0_lay_44 ?_
  refine g_bipush C dX0_lay_45 (by decide) ?_
  refine g_iload_n C 4 3 rfl rfl dX0_lay_47 ?_
  refine g_iadd C dX0_lay_48 ?_
  refine g_callIv C (m_X1_cell l D cA ad h) hv_X1_cell tw_X0_48 (o := 3) (ci := 1) (As := [vI x1, vI (6 + x3)]) (st := []) rfl rfl rfl rfl ⟨Nat.le_of_ble_eq_true rfl, Nat.le_of_ble_eq_true rfl⟩ rfl rfl (Nat.le_of_ble_eq_true rfl) dX0_lay_49 (fun r2 σ1 h => ?_)
  try dsimp only at h
  refine g_istore C 6 [(5, vI y0), (0, .ref (ad 17)), (1, vI x1), (2, vI x2), (3, vI x3), (4, .ref (ad 20))] (by decide) rfl dX0_lay_52 ?_
  refine g_iconst C dX0_lay_54 ?_
  refine g_istore C 7 [(6, vI r2), (5, vI y0), (0, .ref (ad 17)), (1, vI x1), (2, vI x2), (3, vI x3), (4, .ref (ad 20))] (by decide) rfl dX0_lay_55 ?_
  obtain ⟨nn, h⟩ := h
  exact g_pick [3, 4, 5, 6, 7, 2, 1, 0] rfl (m_X0_lay_L57 C hlocks hr nn _ _ _ _ _ _ _ h)
set_option maxRecDepth 100000 in
set_option maxHeartbeats 4000000 in
theorem m_X0_lay_B15 {p : Program} {l : Launch} {e : Env} {s : State} {m : MethodId} {args : Array Value} {below : List Frame} {meth : Method} {c : Code} {D : va_G} {cA : Nat → ClassId} {ad : Nat → Nat} (C : Cx p s m args c cX0_lay RX0 14 D cA shC ad zsC) (hlocks : meth.locks = false) (hr : meth.sig.returnType = none) {Q : St → Prop} {x1 x2 x3 : Int} {σ : St} (h : wp_X0_lay_B15 x1 x2 x3 Q σ) : G p l e rm_X0_lay s m args below meth c 0 0 14 D cA shC ad (QV D cA shC ad zsC below args s Q) σ [(0, .ref (ad 17)), (1, vI x1), (2, vI x2), (3, vI x3)] [.ref (ad 20)] 15 := by
  unfold wp_X0_lay_B15 at h
  refine g_astore C 4 [(0, .ref (ad 17)), (1, vI x1), (2, vI x2), (3, vI x3)] (by decide) rfl dX0_lay_15 ?_
  refine g_iload_n C 3 2 rfl rfl dX0_lay_17 ?_
  refine g_aload_n C 1 0 rfl rfl dX0_lay_18 ?_
  refine g_get C iX0 (ci := 0) (o := 17) (v := .ref (ad 3)) rfl rfl 1 (by decide) rfl tw_X0_31 dX0_lay_19 ?_
  refine g_iload_n C 2 1 rfl rfl dX0_lay_22 ?_
  refine g_bipush C dX0_lay_23 (by decide) ?_
  refine g_iload_n C 4 3 rfl rfl dX0_lay_25 ?_
  refine g_iadd C dX0_lay_26 ?_
  refine g_callIv C (m_X1_cell l D cA ad h) hv_X1_cell tw_X0_48 (o := 3) (ci := 1) (As := [vI x1, vI (7 + x3)]) (st := [vI x2]) rfl rfl rfl rfl ⟨Nat.le_of_ble_eq_true rfl, Nat.le_of_ble_eq_true rfl⟩ rfl rfl (Nat.le_of_ble_eq_true rfl) dX0_lay_27 (fun r2 σ1 h => ?_)
  try dsimp only at h
  refine g_icmp_lt C rfl rfl 37 (by decide) dX0_lay_30 (fun hc => ?_) (fun hc => ?_)
  · have h := h.1 hc
    refine g_iconst C dX0_lay_37 ?_
    exact g_pick [1, 2, 3, 4, 0] rfl (m_X0_lay_B38 C hlocks hr h)
  · have h := h.2 hc
    refine g_iconst C dX0_lay_33 ?_
    refine g_goto C 38 (by decide) dX0_lay_34 ?_
    exact g_pick [1, 2, 3, 4, 0] rfl (m_X0_lay_B38 C hlocks hr h)
set_option maxRecDepth 100000 in
set_option maxHeartbeats 4000000 in
theorem m_X0_lay_B224_1 {p : Program} {l : Launch} {e : Env} {s : State} {m : MethodId} {args : Array Value} {below : List Frame} {meth : Method} {c : Code} {D : va_G} {cA : Nat → ClassId} {ad : Nat → Nat} (C : Cx p s m args c cX0_lay RX0 14 D cA shC ad zsC) (hlocks : meth.locks = false) (hr : meth.sig.returnType = none) {Q : St → Prop} {K57 : Int → Int → Int → Int → Int → Int → St → Prop} (hK57 : ∀ (x1 : Int) (x2 : Int) (x3 : Int) (x5 : Int) (x6 : Int) (x7 : Int) (σ : St), K57 x1 x2 x3 x5 x6 x7 σ → G p l e rm_X0_lay s m args below meth c 0 0 14 D cA shC ad (QV D cA shC ad zsC below args s Q) σ [(0, .ref (ad 17)), (1, vI x1), (2, vI x2), (3, vI x3), (4, .ref (ad 19)), (5, vI x5), (6, vI x6), (7, vI x7)] [] 57) {K95 : Int → Int → Int → Int → Int → Int → Int → Int → St → Prop} (hK95 : ∀ (x1 : Int) (x2 : Int) (x3 : Int) (x5 : Int) (x6 : Int) (x7 : Int) (x8 : Int) (x9 : Int) (σ : St), K95 x1 x2 x3 x5 x6 x7 x8 x9 σ → G p l e rm_X0_lay s m args below meth c 0 0 14 D cA shC ad (QV D cA shC ad zsC below args s Q) σ [(0, .ref (ad 17)), (1, vI x1), (2, vI x2), (3, vI x3), (4, .ref (ad 19)), (5, vI x5), (6, vI x6), (7, vI x7), (8, vI x8), (9, vI x9)] [] 95) {K122 : Int → Int → Int → Int → Int → Int → Int → Int → Int → Int → St → Prop} (hK122 : ∀ (x1 : Int) (x2 : Int) (x3 : Int) (x5 : Int) (x6 : Int) (x7 : Int) (x8 : Int) (x9 : Int) (x10 : Int) (x11 : Int) (σ : St), K122 x1 x2 x3 x5 x6 x7 x8 x9 x10 x11 σ → G p l e rm_X0_lay s m args below meth c 0 0 14 D cA shC ad (QV D cA shC ad zsC below args s Q) σ [(0, .ref (ad 17)), (1, vI x1), (2, vI x2), (3, vI x3), (4, .ref (ad 19)), (5, vI x5), (6, vI x6), (7, vI x7), (8, vI x8), (9, vI x9), (10, vI x10), (11, vI x11)] [] 122) {x1 x2 x3 x5 x6 x7 x8 x9 x10 x11 y1 y2 : Int} {σ : St} (h : wp_X0_lay_B224_1 K57 K95 K122 x1 x2 x3 x5 x6 x7 x8 x9 x10 x11 y1 y2 Q σ) : G p l e rm_X0_lay s m args below meth c 0 0 14 D cA shC ad (QV D cA shC ad zsC below args s Q) σ [(0, .ref (ad 17)), (1, vI x1), (2, vI x2), (3, vI x3), (4, .ref (ad 19)), (5, vI x5), (6, vI x6), (7, vI x7), (8, vI x8), (9, vI x9), (10, vI x10), (11, vI x11)] [vI y2, vI y1, .ref (ad 19)] 224 := by
  unfold wp_X0_lay_B224_1 at h
  obtain ⟨hi, h⟩ := h
  refine g_iast C (o := 19) (N := 63360) rfl rfl hi rfl dX0_lay_224 (fun σ1 eσ1 => ?_)
  have h := h σ1 eσ1
  refine g_iinc C 11 11 [(0, .ref (ad 17)), (1, vI x1), (2, vI x2), (3, vI x3), (4, .ref (ad 19)), (5, vI x5), (6, vI x6), (7, vI x7), (8, vI x8), (9, vI x9), (10, vI x10)] rfl (by decide) rfl dX0_lay_225 (fun x_2 ex_2 => ?_)
  have h := h x_2 ex_2
  refine g_goto C 122 (by decide) dX0_lay_228 ?_
  exact g_pick [1, 2, 3, 4, 5, 6, 7, 8, 9, 10, 11, 0] rfl (hK122 _ _ _ _ _ _ _ _ _ _ _ h)
set_option maxRecDepth 100000 in
set_option maxHeartbeats 4000000 in
theorem m_X0_lay_B161_1 {p : Program} {l : Launch} {e : Env} {s : State} {m : MethodId} {args : Array Value} {below : List Frame} {meth : Method} {c : Code} {D : va_G} {cA : Nat → ClassId} {ad : Nat → Nat} (C : Cx p s m args c cX0_lay RX0 14 D cA shC ad zsC) (hlocks : meth.locks = false) (hr : meth.sig.returnType = none) {Q : St → Prop} {K57 : Int → Int → Int → Int → Int → Int → St → Prop} (hK57 : ∀ (x1 : Int) (x2 : Int) (x3 : Int) (x5 : Int) (x6 : Int) (x7 : Int) (σ : St), K57 x1 x2 x3 x5 x6 x7 σ → G p l e rm_X0_lay s m args below meth c 0 0 14 D cA shC ad (QV D cA shC ad zsC below args s Q) σ [(0, .ref (ad 17)), (1, vI x1), (2, vI x2), (3, vI x3), (4, .ref (ad 19)), (5, vI x5), (6, vI x6), (7, vI x7)] [] 57) {K95 : Int → Int → Int → Int → Int → Int → Int → Int → St → Prop} (hK95 : ∀ (x1 : Int) (x2 : Int) (x3 : Int) (x5 : Int) (x6 : Int) (x7 : Int) (x8 : Int) (x9 : Int) (σ : St), K95 x1 x2 x3 x5 x6 x7 x8 x9 σ → G p l e rm_X0_lay s m args below meth c 0 0 14 D cA shC ad (QV D cA shC ad zsC below args s Q) σ [(0, .ref (ad 17)), (1, vI x1), (2, vI x2), (3, vI x3), (4, .ref (ad 19)), (5, vI x5), (6, vI x6), (7, vI x7), (8, vI x8), (9, vI x9)] [] 95) {K122 : Int → Int → Int → Int → Int → Int → Int → Int → Int → Int → St → Prop} (hK122 : ∀ (x1 : Int) (x2 : Int) (x3 : Int) (x5 : Int) (x6 : Int) (x7 : Int) (x8 : Int) (x9 : Int) (x10 : Int) (x11 : Int) (σ : St), K122 x1 x2 x3 x5 x6 x7 x8 x9 x10 x11 σ → G p l e rm_X0_lay s m args below meth c 0 0 14 D cA shC ad (QV D cA shC ad zsC below args s Q) σ [(0, .ref (ad 17)), (1, vI x1), (2, vI x2), (3, vI x3), (4, .ref (ad 19)), (5, vI x5), (6, vI x6), (7, vI x7), (8, vI x8), (9, vI x9), (10, vI x10), (11, vI x11)] [] 122) {x1 x2 x3 x5 x6 x7 x8 x9 x10 x11 x12 y0 : Int} {σ : St} (h : wp_X0_lay_B161_1 K57 K95 K122 x1 x2 x3 x5 x6 x7 x8 x9 x10 x11 x12 y0 Q σ) : G p l e rm_X0_lay s m args below meth c 0 0 14 D cA shC ad (QV D cA shC ad zsC below args s Q) σ [(0, .ref (ad 17)), (1, vI x1), (2, vI x2), (3, vI x3), (4, .ref (ad 19)), (5, vI x5), (6, vI x6), (7, vI x7), (8, vI x8), (9, vI x9), (10, vI x10), (11, vI x11), (12, vI x12)] [vI y0] 161 := by
  unfold wp_X0_lay_B161_1 at h
  refine g_istore C 13 [(0, .ref (ad 17)), (1, vI x1), (2, vI x2), (3, vI x3), (4, .ref (ad 19)), (5, vI x5), (6, vI x6), (7, vI x7), (8, vI x8), (9, vI x9), (10, vI x10), (11, vI x11), (12, vI x12)] (by decide) rfl dX0_lay_161 ?_
  refine g_aload C 5 4 rfl dX0_lay_163 ?_
  refine g_iload_n C 2 1 rfl rfl dX0_lay_165 ?_
  refine g_sipush C dX0_lay_166 (by decide) ?_
  refine g_imul C dX0_lay_169 ?_
  refine g_iload C 8 7 rfl dX0_lay_170 ?_
  refine g_iload C 10 9 rfl dX0_lay_172 ?_
  refine g_iload C 13 12 rfl dX0_lay_174 ?_
  refine g_iload C 0 13 rfl dX0_lay_176 ?_
  refine g_callIs C (m_X0_at l D cA ad h) hv_X0_at tw_X0_38 (As := [vI x7, vI x9, vI x12, vI y0]) (st := [vI (x1 * 330), .ref (ad 19)]) rfl rfl ⟨Nat.le_of_ble_eq_true rfl, Nat.le_of_ble_eq_true rfl⟩ rfl rfl (Nat.le_of_ble_eq_true rfl) dX0_lay_178 (fun r2 σ1 h => ?_)
  try dsimp only at h
  refine g_iadd C dX0_lay_181 ?_
  refine g_iload C 6 5 rfl dX0_lay_182 ?_
  refine g_if_ne C rfl 191 (by decide) dX0_lay_184 (fun hc => ?_) (fun hc => ?_)
  · have h := h.1 hc
    refine g_iload_n C 4 3 rfl rfl dX0_lay_191 ?_
    refine g_if_ne C rfl 211 (by decide) dX0_lay_192 (fun hc => ?_) (fun hc => ?_)
    · have h := h.1 hc
      refine g_aload_n C 1 0 rfl rfl dX0_lay_211 ?_
      refine g_iload_n C 2 1 rfl rfl dX0_lay_212 ?_
      refine g_iload C 8 7 rfl dX0_lay_213 ?_
      refine g_iload C 10 9 rfl dX0_lay_215 ?_
      refine g_iload C 13 12 rfl dX0_lay_217 ?_
      refine g_iload C 0 13 rfl dX0_lay_219 ?_
      refine g_callIv C (m_X0_reckonOnward l D cA ad h) hv_X0_reckonOnward tw_X0_124 (o := 17) (ci := 0) (As := [vI x1, vI x7, vI x9, vI x12, vI y0]) (st := [vI ((x1 * 330) + r2), .ref (ad 19)]) rfl rfl rfl rfl ⟨Nat.le_of_ble_eq_true rfl, Nat.le_of_ble_eq_true rfl⟩ rfl rfl (Nat.le_of_ble_eq_true rfl) dX0_lay_221 (fun r4 σ3 h => ?_)
      try dsimp only at h
      exact g_pick [1, 2, 3, 4, 5, 6, 7, 8, 9, 10, 11, 12] rfl (m_X0_lay_B224_1 C hlocks hr hK57 hK95 hK122 h)
    · have h := h.2 hc
      refine g_aload_n C 1 0 rfl rfl dX0_lay_195 ?_
      refine g_iload_n C 2 1 rfl rfl dX0_lay_196 ?_
      refine g_iload C 8 7 rfl dX0_lay_197 ?_
      refine g_iload C 10 9 rfl dX0_lay_199 ?_
      refine g_iload C 13 12 rfl dX0_lay_201 ?_
      refine g_iload C 0 13 rfl dX0_lay_203 ?_
      refine g_callIv C (m_X0_reckonNode l D cA ad h) hv_X0_reckonNode tw_X0_120 (o := 17) (ci := 0) (As := [vI x1, vI x7, vI x9, vI x12, vI y0]) (st := [vI ((x1 * 330) + r2), .ref (ad 19)]) rfl rfl rfl rfl ⟨Nat.le_of_ble_eq_true rfl, Nat.le_of_ble_eq_true rfl⟩ rfl rfl (Nat.le_of_ble_eq_true rfl) dX0_lay_205 (fun r6 σ5 h => ?_)
      try dsimp only at h
      refine g_goto C 224 (by decide) dX0_lay_208 ?_
      exact g_pick [1, 2, 3, 4, 5, 6, 7, 8, 9, 10, 11, 12] rfl (m_X0_lay_B224_1 C hlocks hr hK57 hK95 hK122 h)
  · have h := h.2 hc
    refine g_iconst C dX0_lay_187 ?_
    refine g_goto C 224 (by decide) dX0_lay_188 ?_
    exact g_pick [1, 2, 3, 4, 5, 6, 7, 8, 9, 10, 11, 12] rfl (m_X0_lay_B224_1 C hlocks hr hK57 hK95 hK122 h)
set_option maxRecDepth 100000 in
set_option maxHeartbeats 4000000 in
theorem m_X0_lay_B140_1 {p : Program} {l : Launch} {e : Env} {s : State} {m : MethodId} {args : Array Value} {below : List Frame} {meth : Method} {c : Code} {D : va_G} {cA : Nat → ClassId} {ad : Nat → Nat} (C : Cx p s m args c cX0_lay RX0 14 D cA shC ad zsC) (hlocks : meth.locks = false) (hr : meth.sig.returnType = none) {Q : St → Prop} {K57 : Int → Int → Int → Int → Int → Int → St → Prop} (hK57 : ∀ (x1 : Int) (x2 : Int) (x3 : Int) (x5 : Int) (x6 : Int) (x7 : Int) (σ : St), K57 x1 x2 x3 x5 x6 x7 σ → G p l e rm_X0_lay s m args below meth c 0 0 14 D cA shC ad (QV D cA shC ad zsC below args s Q) σ [(0, .ref (ad 17)), (1, vI x1), (2, vI x2), (3, vI x3), (4, .ref (ad 19)), (5, vI x5), (6, vI x6), (7, vI x7)] [] 57) {K95 : Int → Int → Int → Int → Int → Int → Int → Int → St → Prop} (hK95 : ∀ (x1 : Int) (x2 : Int) (x3 : Int) (x5 : Int) (x6 : Int) (x7 : Int) (x8 : Int) (x9 : Int) (σ : St), K95 x1 x2 x3 x5 x6 x7 x8 x9 σ → G p l e rm_X0_lay s m args below meth c 0 0 14 D cA shC ad (QV D cA shC ad zsC below args s Q) σ [(0, .ref (ad 17)), (1, vI x1), (2, vI x2), (3, vI x3), (4, .ref (ad 19)), (5, vI x5), (6, vI x6), (7, vI x7), (8, vI x8), (9, vI x9)] [] 95) {K122 : Int → Int → Int → Int → Int → Int → Int → Int → Int → Int → St → Prop} (hK122 : ∀ (x1 : Int) (x2 : Int) (x3 : Int) (x5 : Int) (x6 : Int) (x7 : Int) (x8 : Int) (x9 : Int) (x10 : Int) (x11 : Int) (σ : St), K122 x1 x2 x3 x5 x6 x7 x8 x9 x10 x11 σ → G p l e rm_X0_lay s m args below meth c 0 0 14 D cA shC ad (QV D cA shC ad zsC below args s Q) σ [(0, .ref (ad 17)), (1, vI x1), (2, vI x2), (3, vI x3), (4, .ref (ad 19)), (5, vI x5), (6, vI x6), (7, vI x7), (8, vI x8), (9, vI x9), (10, vI x10), (11, vI x11)] [] 122) {x1 x2 x3 x5 x6 x7 x8 x9 x10 x11 y0 : Int} {σ : St} (h : wp_X0_lay_B140_1 K57 K95 K122 x1 x2 x3 x5 x6 x7 x8 x9 x10 x11 y0 Q σ) : G p l e rm_X0_lay s m args below meth c 0 0 14 D cA shC ad (QV D cA shC ad zsC below args s Q) σ [(0, .ref (ad 17)), (1, vI x1), (2, vI x2), (3, vI x3), (4, .ref (ad 19)), (5, vI x5), (6, vI x6), (7, vI x7), (8, vI x8), (9, vI x9), (10, vI x10), (11, vI x11)] [vI y0] 140 := by
  unfold wp_X0_lay_B140_1 at h
  refine g_istore C 12 [(0, .ref (ad 17)), (1, vI x1), (2, vI x2), (3, vI x3), (4, .ref (ad 19)), (5, vI x5), (6, vI x6), (7, vI x7), (8, vI x8), (9, vI x9), (10, vI x10), (11, vI x11)] (by decide) rfl dX0_lay_140 ?_
  refine g_iload C 7 6 rfl dX0_lay_142 ?_
  refine g_if_ne C rfl 151 (by decide) dX0_lay_144 (fun hc => ?_) (fun hc => ?_)
  · have h := h.1 hc
    refine g_iload C 12 11 rfl dX0_lay_151 ?_
    refine g_iload C 10 9 rfl dX0_lay_153 ?_
    refine g_iadd C dX0_lay_155 ?_
    refine g_iload C 8 7 rfl dX0_lay_156 ?_
    refine g_isub C dX0_lay_158 ?_
    refine g_iload_n C 3 2 rfl rfl dX0_lay_159 ?_
    refine g_isub C dX0_lay_160 ?_
    exact g_pick [1, 2, 3, 4, 5, 6, 7, 8, 9, 10, 11, 12, 0] rfl (m_X0_lay_B161_1 C hlocks hr hK57 hK95 hK122 h)
  · have h := h.2 hc
    refine g_iconst C dX0_lay_147 ?_
    refine g_goto C 161 (by decide) dX0_lay_148 ?_
    exact g_pick [1, 2, 3, 4, 5, 6, 7, 8, 9, 10, 11, 12, 0] rfl (m_X0_lay_B161_1 C hlocks hr hK57 hK95 hK122 h)
set_option maxRecDepth 100000 in
set_option maxHeartbeats 4000000 in
theorem m_X0_lay_L122_1 {p : Program} {l : Launch} {e : Env} {s : State} {m : MethodId} {args : Array Value} {below : List Frame} {meth : Method} {c : Code} {D : va_G} {cA : Nat → ClassId} {ad : Nat → Nat} (C : Cx p s m args c cX0_lay RX0 14 D cA shC ad zsC) (hlocks : meth.locks = false) (hr : meth.sig.returnType = none) {Q : St → Prop} {K57 : Int → Int → Int → Int → Int → Int → St → Prop} (hK57 : ∀ (x1 : Int) (x2 : Int) (x3 : Int) (x5 : Int) (x6 : Int) (x7 : Int) (σ : St), K57 x1 x2 x3 x5 x6 x7 σ → G p l e rm_X0_lay s m args below meth c 0 0 14 D cA shC ad (QV D cA shC ad zsC below args s Q) σ [(0, .ref (ad 17)), (1, vI x1), (2, vI x2), (3, vI x3), (4, .ref (ad 19)), (5, vI x5), (6, vI x6), (7, vI x7)] [] 57) {K95 : Int → Int → Int → Int → Int → Int → Int → Int → St → Prop} (hK95 : ∀ (x1 : Int) (x2 : Int) (x3 : Int) (x5 : Int) (x6 : Int) (x7 : Int) (x8 : Int) (x9 : Int) (σ : St), K95 x1 x2 x3 x5 x6 x7 x8 x9 σ → G p l e rm_X0_lay s m args below meth c 0 0 14 D cA shC ad (QV D cA shC ad zsC below args s Q) σ [(0, .ref (ad 17)), (1, vI x1), (2, vI x2), (3, vI x3), (4, .ref (ad 19)), (5, vI x5), (6, vI x6), (7, vI x7), (8, vI x8), (9, vI x9)] [] 95) : ∀ (n : Nat) (x1 : Int) (x2 : Int) (x3 : Int) (x5 : Int) (x6 : Int) (x7 : Int) (x8 : Int) (x9 : Int) (x10 : Int) (x11 : Int) (σ : St), wp_X0_lay_L122_1 K57 K95 Q n x1 x2 x3 x5 x6 x7 x8 x9 x10 x11 σ → G p l e rm_X0_lay s m args below meth c 0 0 14 D cA shC ad (QV D cA shC ad zsC below args s Q) σ [(0, .ref (ad 17)), (1, vI x1), (2, vI x2), (3, vI x3), (4, .ref (ad 19)), (5, vI x5), (6, vI x6), (7, vI x7), (8, vI x8), (9, vI x9), (10, vI x10), (11, vI x11)] [] 122 := by
  intro n
  induction n with
  | zero => intro _ _ _ _ _ _ _ _ _ _ _ h; exact h.elim
  | succ n ih =>
    intro x1 x2 x3 x5 x6 x7 x8 x9 x10 x11 σ h
    simp only [wp_X0_lay_L122_1] at h
    refine g_iload C 11 11 rfl dX0_lay_122 ?_
    refine g_iload C 10 10 rfl dX0_lay_124 ?_
    refine g_icmp_gt C rfl rfl 231 (by decide) dX0_lay_126 (fun hc => ?_) (fun hc => ?_)
    · have h := h.1 hc
      refine g_iinc C 9 9 [(0, .ref (ad 17)), (1, vI x1), (2, vI x2), (3, vI x3), (4, .ref (ad 19)), (5, vI x5), (6, vI x6), (7, vI x7), (8, vI x8), (10, vI x10), (11, vI x11)] rfl (by decide) rfl dX0_lay_231 (fun x_1 ex_1 => ?_)
      have h := h x_1 ex_1
      refine g_goto C 95 (by decide) dX0_lay_234 ?_
      exact g_pick [1, 2, 3, 4, 5, 6, 7, 8, 9, 0] rfl (hK95 _ _ _ _ _ _ _ _ _ h)
    · have h := h.2 hc
      refine g_iload C 6 6 rfl dX0_lay_129 ?_
      refine g_if_ne C rfl 138 (by decide) dX0_lay_131 (fun hc => ?_) (fun hc => ?_)
      · have h := h.1 hc
        refine g_iload C 11 11 rfl dX0_lay_138 ?_
        exact g_pick [0, 1, 2, 3, 4, 5, 6, 7, 8, 9, 10, 11] rfl (m_X0_lay_B140_1 C hlocks hr hK57 hK95 (fun _ _ _ _ _ _ _ _ _ _ _ h => ih _ _ _ _ _ _ _ _ _ _ _ h) h)
      · have h := h.2 hc
        refine g_iconst C dX0_lay_134 ?_
        refine g_goto C 140 (by decide) dX0_lay_135 ?_
        exact g_pick [0, 1, 2, 3, 4, 5, 6, 7, 8, 9, 10, 11] rfl (m_X0_lay_B140_1 C hlocks hr hK57 hK95 (fun _ _ _ _ _ _ _ _ _ _ _ h => ih _ _ _ _ _ _ _ _ _ _ _ h) h)
set_option maxRecDepth 100000 in
set_option maxHeartbeats 4000000 in
theorem m_X0_lay_B116_1 {p : Program} {l : Launch} {e : Env} {s : State} {m : MethodId} {args : Array Value} {below : List Frame} {meth : Method} {c : Code} {D : va_G} {cA : Nat → ClassId} {ad : Nat → Nat} (C : Cx p s m args c cX0_lay RX0 14 D cA shC ad zsC) (hlocks : meth.locks = false) (hr : meth.sig.returnType = none) {Q : St → Prop} {K57 : Int → Int → Int → Int → Int → Int → St → Prop} (hK57 : ∀ (x1 : Int) (x2 : Int) (x3 : Int) (x5 : Int) (x6 : Int) (x7 : Int) (σ : St), K57 x1 x2 x3 x5 x6 x7 σ → G p l e rm_X0_lay s m args below meth c 0 0 14 D cA shC ad (QV D cA shC ad zsC below args s Q) σ [(0, .ref (ad 17)), (1, vI x1), (2, vI x2), (3, vI x3), (4, .ref (ad 19)), (5, vI x5), (6, vI x6), (7, vI x7)] [] 57) {K95 : Int → Int → Int → Int → Int → Int → Int → Int → St → Prop} (hK95 : ∀ (x1 : Int) (x2 : Int) (x3 : Int) (x5 : Int) (x6 : Int) (x7 : Int) (x8 : Int) (x9 : Int) (σ : St), K95 x1 x2 x3 x5 x6 x7 x8 x9 σ → G p l e rm_X0_lay s m args below meth c 0 0 14 D cA shC ad (QV D cA shC ad zsC below args s Q) σ [(0, .ref (ad 17)), (1, vI x1), (2, vI x2), (3, vI x3), (4, .ref (ad 19)), (5, vI x5), (6, vI x6), (7, vI x7), (8, vI x8), (9, vI x9)] [] 95) {x1 x2 x3 x5 x6 x7 x8 x9 y0 : Int} {σ : St} (h : wp_X0_lay_B116_1 K57 K95 x1 x2 x3 x5 x6 x7 x8 x9 y0 Q σ) : G p l e rm_X0_lay s m args below meth c 0 0 14 D cA shC ad (QV D cA shC ad zsC below args s Q) σ [(0, .ref (ad 17)), (1, vI x1), (2, vI x2), (3, vI x3), (4, .ref (ad 19)), (5, vI x5), (6, vI x6), (7, vI x7), (8, vI x8), (9, vI x9)] [vI y0] 116 := by
  unfold wp_X0_lay_B116_1 at h
  refine g_istore C 10 [(0, .ref (ad 17)), (1, vI x1), (2, vI x2), (3, vI x3), (4, .ref (ad 19)), (5, vI x5), (6, vI x6), (7, vI x7), (8, vI x8), (9, vI x9)] (by decide) rfl dX0_lay_116 ?_
  refine g_iload C 8 7 rfl dX0_lay_118 ?_
  refine g_istore C 11 [(10, vI y0), (0, .ref (ad 17)), (1, vI x1), (2, vI x2), (3, vI x3), (4, .ref (ad 19)), (5, vI x5), (6, vI x6), (7, vI x7), (8, vI x8), (9, vI x9)] (by decide) rfl dX0_lay_120 ?_
  obtain ⟨nn, h⟩ := h
  exact g_pick [2, 3, 4, 5, 6, 7, 8, 9, 10, 11, 1, 0] rfl (m_X0_lay_L122_1 C hlocks hr hK57 hK95 nn _ _ _ _ _ _ _ _ _ _ _ h)
set_option maxRecDepth 100000 in
set_option maxHeartbeats 4000000 in
theorem m_X0_lay_L95_1 {p : Program} {l : Launch} {e : Env} {s : State} {m : MethodId} {args : Array Value} {below : List Frame} {meth : Method} {c : Code} {D : va_G} {cA : Nat → ClassId} {ad : Nat → Nat} (C : Cx p s m args c cX0_lay RX0 14 D cA shC ad zsC) (hlocks : meth.locks = false) (hr : meth.sig.returnType = none) {Q : St → Prop} {K57 : Int → Int → Int → Int → Int → Int → St → Prop} (hK57 : ∀ (x1 : Int) (x2 : Int) (x3 : Int) (x5 : Int) (x6 : Int) (x7 : Int) (σ : St), K57 x1 x2 x3 x5 x6 x7 σ → G p l e rm_X0_lay s m args below meth c 0 0 14 D cA shC ad (QV D cA shC ad zsC below args s Q) σ [(0, .ref (ad 17)), (1, vI x1), (2, vI x2), (3, vI x3), (4, .ref (ad 19)), (5, vI x5), (6, vI x6), (7, vI x7)] [] 57) : ∀ (n : Nat) (x1 : Int) (x2 : Int) (x3 : Int) (x5 : Int) (x6 : Int) (x7 : Int) (x8 : Int) (x9 : Int) (σ : St), wp_X0_lay_L95_1 K57 Q n x1 x2 x3 x5 x6 x7 x8 x9 σ → G p l e rm_X0_lay s m args below meth c 0 0 14 D cA shC ad (QV D cA shC ad zsC below args s Q) σ [(0, .ref (ad 17)), (1, vI x1), (2, vI x2), (3, vI x3), (4, .ref (ad 19)), (5, vI x5), (6, vI x6), (7, vI x7), (8, vI x8), (9, vI x9)] [] 95 := by
  intro n
  induction n with
  | zero => intro _ _ _ _ _ _ _ _ _ h; exact h.elim
  | succ n ih =>
    intro x1 x2 x3 x5 x6 x7 x8 x9 σ h
    simp only [wp_X0_lay_L95_1] at h
    refine g_iload C 9 9 rfl dX0_lay_95 ?_
    refine g_iload C 8 8 rfl dX0_lay_97 ?_
    refine g_icmp_gt C rfl rfl 237 (by decide) dX0_lay_99 (fun hc => ?_) (fun hc => ?_)
    · have h := h.1 hc
      refine g_iinc C 7 7 [(0, .ref (ad 17)), (1, vI x1), (2, vI x2), (3, vI x3), (4, .ref (ad 19)), (5, vI x5), (6, vI x6), (8, vI x8), (9, vI x9)] rfl (by decide) rfl dX0_lay_237 (fun x_1 ex_1 => ?_)
      have h := h x_1 ex_1
      refine g_goto C 57 (by decide) dX0_lay_240 ?_
      exact g_pick [1, 2, 3, 4, 5, 6, 7, 0] rfl (hK57 _ _ _ _ _ _ _ h)
    · have h := h.2 hc
      refine g_iload C 6 6 rfl dX0_lay_102 ?_
      refine g_if_ne C rfl 112 (by decide) dX0_lay_104 (fun hc => ?_) (fun hc => ?_)
      · have h := h.1 hc
        refine g_iload C 7 7 rfl dX0_lay_112 ?_
        refine g_iload_n C 2 2 rfl rfl dX0_lay_114 ?_
        refine g_iadd C dX0_lay_115 ?_
        exact g_pick [0, 1, 2, 3, 4, 5, 6, 7, 8, 9] rfl (m_X0_lay_B116_1 C hlocks hr hK57 (fun _ _ _ _ _ _ _ _ _ h => ih _ _ _ _ _ _ _ _ _ h) h)
      · have h := h.2 hc
        refine g_iload C 7 7 rfl dX0_lay_107 ?_
        refine g_goto C 116 (by decide) dX0_lay_109 ?_
        exact g_pick [0, 1, 2, 3, 4, 5, 6, 7, 8, 9] rfl (m_X0_lay_B116_1 C hlocks hr hK57 (fun _ _ _ _ _ _ _ _ _ h => ih _ _ _ _ _ _ _ _ _ h) h)
set_option maxRecDepth 100000 in
set_option maxHeartbeats 4000000 in
theorem m_X0_lay_B84_1 {p : Program} {l : Launch} {e : Env} {s : State} {m : MethodId} {args : Array Value} {below : List Frame} {meth : Method} {c : Code} {D : va_G} {cA : Nat → ClassId} {ad : Nat → Nat} (C : Cx p s m args c cX0_lay RX0 14 D cA shC ad zsC) (hlocks : meth.locks = false) (hr : meth.sig.returnType = none) {Q : St → Prop} {K57 : Int → Int → Int → Int → Int → Int → St → Prop} (hK57 : ∀ (x1 : Int) (x2 : Int) (x3 : Int) (x5 : Int) (x6 : Int) (x7 : Int) (σ : St), K57 x1 x2 x3 x5 x6 x7 σ → G p l e rm_X0_lay s m args below meth c 0 0 14 D cA shC ad (QV D cA shC ad zsC below args s Q) σ [(0, .ref (ad 17)), (1, vI x1), (2, vI x2), (3, vI x3), (4, .ref (ad 19)), (5, vI x5), (6, vI x6), (7, vI x7)] [] 57) {x1 x2 x3 x5 x6 x7 y0 : Int} {σ : St} (h : wp_X0_lay_B84_1 K57 x1 x2 x3 x5 x6 x7 y0 Q σ) : G p l e rm_X0_lay s m args below meth c 0 0 14 D cA shC ad (QV D cA shC ad zsC below args s Q) σ [(0, .ref (ad 17)), (1, vI x1), (2, vI x2), (3, vI x3), (4, .ref (ad 19)), (5, vI x5), (6, vI x6), (7, vI x7)] [vI y0] 84 := by
  unfold wp_X0_lay_B84_1 at h
  refine g_istore C 8 [(0, .ref (ad 17)), (1, vI x1), (2, vI x2), (3, vI x3), (4, .ref (ad 19)), (5, vI x5), (6, vI x6), (7, vI x7)] (by decide) rfl dX0_lay_84 ?_
  refine g_iload C 8 7 rfl dX0_lay_86 ?_
  refine g_iload_n C 3 2 rfl rfl dX0_lay_88 ?_
  refine g_iadd C dX0_lay_89 ?_
  refine g_iload C 7 6 rfl dX0_lay_90 ?_
  refine g_iadd C dX0_lay_92 ?_
  refine g_name (fun x_1 ex_1 => ?_)
  have h := h x_1 ex_1
  refine g_istore C 9 [(8, vI y0), (0, .ref (ad 17)), (1, vI x1), (2, vI x2), (3, vI x3), (4, .ref (ad 19)), (5, vI x5), (6, vI x6), (7, vI x7)] (by decide) rfl dX0_lay_93 ?_
  obtain ⟨nn, h⟩ := h
  exact g_pick [2, 3, 4, 5, 6, 7, 8, 9, 1, 0] rfl (m_X0_lay_L95_1 C hlocks hr hK57 nn _ _ _ _ _ _ _ _ _ h)
set_option maxRecDepth 100000 in
set_option maxHeartbeats 4000000 in
theorem m_X0_lay_L57_1 {p : Program} {l : Launch} {e : Env} {s : State} {m : MethodId} {args : Array Value} {below : List Frame} {meth : Method} {c : Code} {D : va_G} {cA : Nat → ClassId} {ad : Nat → Nat} (C : Cx p s m args c cX0_lay RX0 14 D cA shC ad zsC) (hlocks : meth.locks = false) (hr : meth.sig.returnType = none) {Q : St → Prop} : ∀ (n : Nat) (x1 : Int) (x2 : Int) (x3 : Int) (x5 : Int) (x6 : Int) (x7 : Int) (σ : St), wp_X0_lay_L57_1 Q n x1 x2 x3 x5 x6 x7 σ → G p l e rm_X0_lay s m args below meth c 0 0 14 D cA shC ad (QV D cA shC ad zsC below args s Q) σ [(0, .ref (ad 17)), (1, vI x1), (2, vI x2), (3, vI x3), (4, .ref (ad 19)), (5, vI x5), (6, vI x6), (7, vI x7)] [] 57 := by
  intro n
  induction n with
  | zero => intro _ _ _ _ _ _ _ h; exact h.elim
  | succ n ih =>
    intro x1 x2 x3 x5 x6 x7 σ h
    simp only [wp_X0_lay_L57_1] at h
    refine g_iload C 7 7 rfl dX0_lay_57 ?_
    refine g_iload_n C 2 2 rfl rfl dX0_lay_59 ?_
    refine g_iadd C dX0_lay_60 ?_
    refine g_aload_n C 0 0 rfl rfl dX0_lay_61 ?_
    refine g_get C iX0 (ci := 0) (o := 17) (v := vI (σ 17 0)) rfl rfl 0 (by decide) rfl tw_X0_73 dX0_lay_62 ?_
    refine g_icmp_gt C rfl rfl 243 (by decide) dX0_lay_65 (fun hc => ?_) (fun hc => ?_)
    · have h := h.1 hc
      exact g_vret C hlocks hr h dX0_lay_243
    · have h := h.2 hc
      refine g_iload C 6 6 rfl dX0_lay_68 ?_
      refine g_if_ne C rfl 80 (by decide) dX0_lay_70 (fun hc => ?_) (fun hc => ?_)
      · have h := h.1 hc
        refine g_aload_n C 0 0 rfl rfl dX0_lay_80 ?_
        refine g_get C iX0 (ci := 0) (o := 17) (v := vI (σ 17 0)) rfl rfl 0 (by decide) rfl tw_X0_73 dX0_lay_81 ?_
        exact g_pick [0, 1, 2, 3, 4, 5, 6, 7] rfl (m_X0_lay_B84_1 C hlocks hr (fun _ _ _ _ _ _ _ h => ih _ _ _ _ _ _ _ h) h)
      · have h := h.2 hc
        refine g_iload C 7 7 rfl dX0_lay_73 ?_
        refine g_iload_n C 2 2 rfl rfl dX0_lay_75 ?_
        refine g_iadd C dX0_lay_76 ?_
        refine g_goto C 84 (by decide) dX0_lay_77 ?_
        exact g_pick [0, 1, 2, 3, 4, 5, 6, 7] rfl (m_X0_lay_B84_1 C hlocks hr (fun _ _ _ _ _ _ _ h => ih _ _ _ _ _ _ _ h) h)
set_option maxRecDepth 100000 in
set_option maxHeartbeats 4000000 in
theorem m_X0_lay_B38_1 {p : Program} {l : Launch} {e : Env} {s : State} {m : MethodId} {args : Array Value} {below : List Frame} {meth : Method} {c : Code} {D : va_G} {cA : Nat → ClassId} {ad : Nat → Nat} (C : Cx p s m args c cX0_lay RX0 14 D cA shC ad zsC) (hlocks : meth.locks = false) (hr : meth.sig.returnType = none) {Q : St → Prop} {x1 x2 x3 y0 : Int} {σ : St} (h : wp_X0_lay_B38_1 x1 x2 x3 y0 Q σ) : G p l e rm_X0_lay s m args below meth c 0 0 14 D cA shC ad (QV D cA shC ad zsC below args s Q) σ [(0, .ref (ad 17)), (1, vI x1), (2, vI x2), (3, vI x3), (4, .ref (ad 19))] [vI y0] 38 := by
  unfold wp_X0_lay_B38_1 at h
  refine g_istore C 5 [(0, .ref (ad 17)), (1, vI x1), (2, vI x2), (3, vI x3), (4, .ref (ad 19))] (by decide) rfl dX0_lay_38 ?_
  refine g_aload_n C 1 0 rfl rfl dX0_lay_40 ?_
  refine g_get C iX0 (ci := 0) (o := 17) (v := .ref (ad 3)) rfl rfl 1 (by decide) rfl tw_X0_31 dX0_lay_41 ?_
  refine g_iload_n C 2 1 rfl rfl dX0_lay_44 ?_
  refine g_bipush C dX0_lay_45 (by decide) ?_
  refine g_iload_n C 4 3 rfl rfl dX0_lay_47 ?_
  refine g_iadd C dX0_lay_48 ?_
  refine g_callIv C (m_X1_cell l D cA ad h) hv_X1_cell tw_X0_48 (o := 3) (ci := 1) (As := [vI x1, vI (6 + x3)]) (st := []) rfl rfl rfl rfl ⟨Nat.le_of_ble_eq_true rfl, Nat.le_of_ble_eq_true rfl⟩ rfl rfl (Nat.le_of_ble_eq_true rfl) dX0_lay_49 (fun r2 σ1 h => ?_)
  try dsimp only at h
  refine g_istore C 6 [(5, vI y0), (0, .ref (ad 17)), (1, vI x1), (2, vI x2), (3, vI x3), (4, .ref (ad 19))] (by decide) rfl dX0_lay_52 ?_
  refine g_iconst C dX0_lay_54 ?_
  refine g_istore C 7 [(6, vI r2), (5, vI y0), (0, .ref (ad 17)), (1, vI x1), (2, vI x2), (3, vI x3), (4, .ref (ad 19))] (by decide) rfl dX0_lay_55 ?_
  obtain ⟨nn, h⟩ := h
  exact g_pick [3, 4, 5, 6, 7, 2, 1, 0] rfl (m_X0_lay_L57_1 C hlocks hr nn _ _ _ _ _ _ _ h)
set_option maxRecDepth 100000 in
set_option maxHeartbeats 4000000 in
theorem m_X0_lay_B15_1 {p : Program} {l : Launch} {e : Env} {s : State} {m : MethodId} {args : Array Value} {below : List Frame} {meth : Method} {c : Code} {D : va_G} {cA : Nat → ClassId} {ad : Nat → Nat} (C : Cx p s m args c cX0_lay RX0 14 D cA shC ad zsC) (hlocks : meth.locks = false) (hr : meth.sig.returnType = none) {Q : St → Prop} {x1 x2 x3 : Int} {σ : St} (h : wp_X0_lay_B15_1 x1 x2 x3 Q σ) : G p l e rm_X0_lay s m args below meth c 0 0 14 D cA shC ad (QV D cA shC ad zsC below args s Q) σ [(0, .ref (ad 17)), (1, vI x1), (2, vI x2), (3, vI x3)] [.ref (ad 19)] 15 := by
  unfold wp_X0_lay_B15_1 at h
  refine g_astore C 4 [(0, .ref (ad 17)), (1, vI x1), (2, vI x2), (3, vI x3)] (by decide) rfl dX0_lay_15 ?_
  refine g_iload_n C 3 2 rfl rfl dX0_lay_17 ?_
  refine g_aload_n C 1 0 rfl rfl dX0_lay_18 ?_
  refine g_get C iX0 (ci := 0) (o := 17) (v := .ref (ad 3)) rfl rfl 1 (by decide) rfl tw_X0_31 dX0_lay_19 ?_
  refine g_iload_n C 2 1 rfl rfl dX0_lay_22 ?_
  refine g_bipush C dX0_lay_23 (by decide) ?_
  refine g_iload_n C 4 3 rfl rfl dX0_lay_25 ?_
  refine g_iadd C dX0_lay_26 ?_
  refine g_callIv C (m_X1_cell l D cA ad h) hv_X1_cell tw_X0_48 (o := 3) (ci := 1) (As := [vI x1, vI (7 + x3)]) (st := [vI x2]) rfl rfl rfl rfl ⟨Nat.le_of_ble_eq_true rfl, Nat.le_of_ble_eq_true rfl⟩ rfl rfl (Nat.le_of_ble_eq_true rfl) dX0_lay_27 (fun r2 σ1 h => ?_)
  try dsimp only at h
  refine g_icmp_lt C rfl rfl 37 (by decide) dX0_lay_30 (fun hc => ?_) (fun hc => ?_)
  · have h := h.1 hc
    refine g_iconst C dX0_lay_37 ?_
    exact g_pick [1, 2, 3, 4, 0] rfl (m_X0_lay_B38_1 C hlocks hr h)
  · have h := h.2 hc
    refine g_iconst C dX0_lay_33 ?_
    refine g_goto C 38 (by decide) dX0_lay_34 ?_
    exact g_pick [1, 2, 3, 4, 0] rfl (m_X0_lay_B38_1 C hlocks hr h)
set_option maxRecDepth 100000 in
set_option maxHeartbeats 4000000 in
theorem m_X0_lay_E {p : Program} {l : Launch} {e : Env} {s : State} {m : MethodId} {args : Array Value} {below : List Frame} {meth : Method} {c : Code} {D : va_G} {cA : Nat → ClassId} {ad : Nat → Nat} (C : Cx p s m args c cX0_lay RX0 14 D cA shC ad zsC) (hlocks : meth.locks = false) (hr : meth.sig.returnType = none) {Q : St → Prop} {a1 a2 a3 : Int} {σ : St} (h : wp_X0_lay a1 a2 a3 Q σ) : G p l e rm_X0_lay s m args below meth c 0 0 14 D cA shC ad (QV D cA shC ad zsC below args s Q) σ [(0, .ref (ad 17)), (1, vI a1), (2, vI a2), (3, vI a3)] [] 0 := by
  unfold wp_X0_lay at h
  refine g_iload_n C 3 3 rfl rfl dX0_lay_0 ?_
  refine g_if_ne C rfl 11 (by decide) dX0_lay_1 (fun hc => ?_) (fun hc => ?_)
  · have h := h.1 hc
    refine g_aload_n C 0 0 rfl rfl dX0_lay_11 ?_
    refine g_get C iX0 (ci := 0) (o := 17) (v := .ref (ad 20)) rfl rfl 4 (by decide) rfl tw_X0_19 dX0_lay_12 ?_
    exact g_pick [0, 1, 2, 3] rfl (m_X0_lay_B15 C hlocks hr h)
  · have h := h.2 hc
    refine g_aload_n C 0 0 rfl rfl dX0_lay_4 ?_
    refine g_get C iX0 (ci := 0) (o := 17) (v := .ref (ad 19)) rfl rfl 3 (by decide) rfl tw_X0_16 dX0_lay_5 ?_
    refine g_goto C 15 (by decide) dX0_lay_8 ?_
    exact g_pick [0, 1, 2, 3] rfl (m_X0_lay_B15_1 C hlocks hr h)
set_option maxRecDepth 100000 in
set_option maxHeartbeats 4000000 in
theorem m_X0_lay (l : Launch) (D : va_G) (cA : Nat → ClassId) (ad : Nat → Nat) {a1 a2 a3 : Int} {Q : St → Prop} {σ : St} (h : wp_X0_lay a1 a2 a3 Q σ) : CtV l yX0_lay (.code yX0_lay cX0_lay 14 none) rm_X0_lay D cA shC ad zsC [.ref (ad 17), vI a1, vI a2, vI a3] σ Q :=
  ct_V RX0 (by decide +kernel) rfl (Nat.le_of_ble_eq_true rfl) (fun p e s m args below meth c C hlocks hr => m_X0_lay_E C hlocks hr h)
abbrev rm_X0_layAll : Room := { frames := 6, cells := 0, slots := 0, locals := 141 }
set_option maxRecDepth 100000 in
set_option maxHeartbeats 4000000 in
theorem m_X0_layAll_B83 {p : Program} {l : Launch} {e : Env} {s : State} {m : MethodId} {args : Array Value} {below : List Frame} {meth : Method} {c : Code} {D : va_G} {cA : Nat → ClassId} {ad : Nat → Nat} (C : Cx p s m args c cX0_layAll RX0 6 D cA shC ad zsC) (hlocks : meth.locks = false) (hr : meth.sig.returnType = none) {Q : St → Prop} {K2 : Int → Int → Int → St → Prop} (hK2 : ∀ (x1 : Int) (x2 : Int) (x3 : Int) (σ : St), K2 x1 x2 x3 σ → G p l e rm_X0_layAll s m args below meth c 0 0 6 D cA shC ad (QV D cA shC ad zsC below args s Q) σ [(0, .ref (ad 17)), (1, vI x1), (2, vI x2), (3, vI x3)] [] 2) {K26 : Int → Int → Int → Int → St → Prop} (hK26 : ∀ (x1 : Int) (x2 : Int) (x3 : Int) (x4 : Int) (σ : St), K26 x1 x2 x3 x4 σ → G p l e rm_X0_layAll s m args below meth c 0 0 6 D cA shC ad (QV D cA shC ad zsC below args s Q) σ [(0, .ref (ad 17)), (1, vI x1), (2, vI x2), (3, vI x3), (4, vI x4)] [] 26) {x1 x2 x3 x4 : Int} {σ : St} (h : wp_X0_layAll_B83 K2 K26 x1 x2 x3 x4 Q σ) : G p l e rm_X0_layAll s m args below meth c 0 0 6 D cA shC ad (QV D cA shC ad zsC below args s Q) σ [(0, .ref (ad 17)), (1, vI x1), (2, vI x2), (3, vI x3), (4, vI x4)] [] 83 := by
  unfold wp_X0_layAll_B83 at h
  refine g_iinc C 4 4 [(0, .ref (ad 17)), (1, vI x1), (2, vI x2), (3, vI x3)] rfl (by decide) rfl dX0_layAll_83 (fun x_1 ex_1 => ?_)
  have h := h x_1 ex_1
  refine g_goto C 26 (by decide) dX0_layAll_86 ?_
  exact g_pick [1, 2, 3, 4, 0] rfl (hK26 _ _ _ _ _ h)
set_option maxRecDepth 100000 in
set_option maxHeartbeats 4000000 in
theorem m_X0_layAll_B61 {p : Program} {l : Launch} {e : Env} {s : State} {m : MethodId} {args : Array Value} {below : List Frame} {meth : Method} {c : Code} {D : va_G} {cA : Nat → ClassId} {ad : Nat → Nat} (C : Cx p s m args c cX0_layAll RX0 6 D cA shC ad zsC) (hlocks : meth.locks = false) (hr : meth.sig.returnType = none) {Q : St → Prop} {K2 : Int → Int → Int → St → Prop} (hK2 : ∀ (x1 : Int) (x2 : Int) (x3 : Int) (σ : St), K2 x1 x2 x3 σ → G p l e rm_X0_layAll s m args below meth c 0 0 6 D cA shC ad (QV D cA shC ad zsC below args s Q) σ [(0, .ref (ad 17)), (1, vI x1), (2, vI x2), (3, vI x3)] [] 2) {K26 : Int → Int → Int → Int → St → Prop} (hK26 : ∀ (x1 : Int) (x2 : Int) (x3 : Int) (x4 : Int) (σ : St), K26 x1 x2 x3 x4 σ → G p l e rm_X0_layAll s m args below meth c 0 0 6 D cA shC ad (QV D cA shC ad zsC below args s Q) σ [(0, .ref (ad 17)), (1, vI x1), (2, vI x2), (3, vI x3), (4, vI x4)] [] 26) {x1 x2 x3 x4 x5 : Int} {σ : St} (h : wp_X0_layAll_B61 K2 K26 x1 x2 x3 x4 x5 Q σ) : G p l e rm_X0_layAll s m args below meth c 0 0 6 D cA shC ad (QV D cA shC ad zsC below args s Q) σ [(0, .ref (ad 17)), (1, vI x1), (2, vI x2), (3, vI x3), (4, vI x4), (5, vI x5)] [] 61 := by
  unfold wp_X0_layAll_B61 at h
  refine g_aload_n C 0 0 rfl rfl dX0_layAll_61 ?_
  refine g_get C iX0 (ci := 0) (o := 17) (v := .ref (ad 3)) rfl rfl 1 (by decide) rfl tw_X0_31 dX0_layAll_62 ?_
  refine g_iload C 5 5 rfl dX0_layAll_65 ?_
  refine g_iconst C dX0_layAll_67 ?_
  refine g_callIv C (m_X1_hasWord l D cA ad h) hv_X1_hasWord tw_X0_112 (o := 3) (ci := 1) (As := [vI x5, vI 3]) (st := []) rfl rfl rfl rfl ⟨Nat.le_of_ble_eq_true rfl, Nat.le_of_ble_eq_true rfl⟩ rfl rfl (Nat.le_of_ble_eq_true rfl) dX0_layAll_68 (fun r2 σ1 h => ?_)
  try dsimp only at h
  refine g_iload_n C 2 2 rfl rfl dX0_layAll_71 ?_
  refine g_icmp_ne C rfl rfl 83 (by decide) dX0_layAll_72 (fun hc => ?_) (fun hc => ?_)
  · have h := h.1 hc
    exact g_pick [0, 1, 2, 3, 4] rfl (m_X0_layAll_B83 C hlocks hr hK2 hK26 h)
  · have h := h.2 hc
    refine g_aload_n C 0 0 rfl rfl dX0_layAll_75 ?_
    refine g_iload C 5 5 rfl dX0_layAll_76 ?_
    refine g_iload_n C 1 1 rfl rfl dX0_layAll_78 ?_
    refine g_iconst C dX0_layAll_79 ?_
    refine g_callVv C (m_X0_lay l D cA ad h) hv_X0_lay tw_X0_116 (o := 17) (ci := 0) (As := [vI x5, vI x1, vI 3]) (st := []) rfl rfl rfl rfl ⟨Nat.le_of_ble_eq_true rfl, Nat.le_of_ble_eq_true rfl⟩ rfl rfl (Nat.le_of_ble_eq_true rfl) dX0_layAll_80 (fun σ3 h => ?_)
    try dsimp only at h
    exact g_pick [0, 1, 2, 3, 4] rfl (m_X0_layAll_B83 C hlocks hr hK2 hK26 h)
set_option maxRecDepth 100000 in
set_option maxHeartbeats 4000000 in
theorem m_X0_layAll_L26 {p : Program} {l : Launch} {e : Env} {s : State} {m : MethodId} {args : Array Value} {below : List Frame} {meth : Method} {c : Code} {D : va_G} {cA : Nat → ClassId} {ad : Nat → Nat} (C : Cx p s m args c cX0_layAll RX0 6 D cA shC ad zsC) (hlocks : meth.locks = false) (hr : meth.sig.returnType = none) {Q : St → Prop} {K2 : Int → Int → Int → St → Prop} (hK2 : ∀ (x1 : Int) (x2 : Int) (x3 : Int) (σ : St), K2 x1 x2 x3 σ → G p l e rm_X0_layAll s m args below meth c 0 0 6 D cA shC ad (QV D cA shC ad zsC below args s Q) σ [(0, .ref (ad 17)), (1, vI x1), (2, vI x2), (3, vI x3)] [] 2) : ∀ (n : Nat) (x1 : Int) (x2 : Int) (x3 : Int) (x4 : Int) (σ : St), wp_X0_layAll_L26 K2 Q n x1 x2 x3 x4 σ → G p l e rm_X0_layAll s m args below meth c 0 0 6 D cA shC ad (QV D cA shC ad zsC below args s Q) σ [(0, .ref (ad 17)), (1, vI x1), (2, vI x2), (3, vI x3), (4, vI x4)] [] 26 := by
  intro n
  induction n with
  | zero => intro _ _ _ _ _ h; exact h.elim
  | succ n ih =>
    intro x1 x2 x3 x4 σ h
    simp only [wp_X0_layAll_L26] at h
    refine g_iload C 4 4 rfl dX0_layAll_26 ?_
    refine g_if_lt C rfl 89 (by decide) dX0_layAll_28 (fun hc => ?_) (fun hc => ?_)
    · have h := h.1 hc
      refine g_iinc C 3 3 [(0, .ref (ad 17)), (1, vI x1), (2, vI x2), (4, vI x4)] rfl (by decide) rfl dX0_layAll_89 (fun x_1 ex_1 => ?_)
      have h := h x_1 ex_1
      refine g_goto C 2 (by decide) dX0_layAll_92 ?_
      exact g_pick [1, 2, 3, 0] rfl (hK2 _ _ _ _ h)
    · have h := h.2 hc
      refine g_iload_n C 3 3 rfl rfl dX0_layAll_31 ?_
      refine g_iload C 4 4 rfl dX0_layAll_32 ?_
      refine g_callIs C (m_X1_row l D cA ad h) hv_X1_row tw_X0_109 (As := [vI x3, vI x4]) (st := []) rfl rfl ⟨Nat.le_of_ble_eq_true rfl, Nat.le_of_ble_eq_true rfl⟩ rfl rfl (Nat.le_of_ble_eq_true rfl) dX0_layAll_34 (fun r3 σ2 h => ?_)
      try dsimp only at h
      refine g_istore C 5 [(0, .ref (ad 17)), (1, vI x1), (2, vI x2), (3, vI x3), (4, vI x4)] (by decide) rfl dX0_layAll_37 ?_
      refine g_aload_n C 1 0 rfl rfl dX0_layAll_39 ?_
      refine g_get C iX0 (ci := 0) (o := 17) (v := .ref (ad 3)) rfl rfl 1 (by decide) rfl tw_X0_31 dX0_layAll_40 ?_
      refine g_iload C 0 5 rfl dX0_layAll_43 ?_
      refine g_iconst C dX0_layAll_45 ?_
      refine g_callIv C (m_X1_hasWord l D cA ad h) hv_X1_hasWord tw_X0_112 (o := 3) (ci := 1) (As := [vI r3, vI 0]) (st := []) rfl rfl rfl rfl ⟨Nat.le_of_ble_eq_true rfl, Nat.le_of_ble_eq_true rfl⟩ rfl rfl (Nat.le_of_ble_eq_true rfl) dX0_layAll_46 (fun r5 σ4 h => ?_)
      try dsimp only at h
      refine g_iload_n C 3 2 rfl rfl dX0_layAll_49 ?_
      refine g_icmp_ne C rfl rfl 61 (by decide) dX0_layAll_50 (fun hc => ?_) (fun hc => ?_)
      · have h := h.1 hc
        exact g_pick [1, 2, 3, 4, 5, 0] rfl (m_X0_layAll_B61 C hlocks hr hK2 (fun _ _ _ _ _ h => ih _ _ _ _ _ h) h)
      · have h := h.2 hc
        refine g_aload_n C 1 0 rfl rfl dX0_layAll_53 ?_
        refine g_iload C 0 5 rfl dX0_layAll_54 ?_
        refine g_iload_n C 2 1 rfl rfl dX0_layAll_56 ?_
        refine g_iconst C dX0_layAll_57 ?_
        refine g_callVv C (m_X0_lay l D cA ad h) hv_X0_lay tw_X0_116 (o := 17) (ci := 0) (As := [vI r3, vI x1, vI 0]) (st := []) rfl rfl rfl rfl ⟨Nat.le_of_ble_eq_true rfl, Nat.le_of_ble_eq_true rfl⟩ rfl rfl (Nat.le_of_ble_eq_true rfl) dX0_layAll_58 (fun σ6 h => ?_)
        try dsimp only at h
        exact g_pick [1, 2, 3, 4, 5, 0] rfl (m_X0_layAll_B61 C hlocks hr hK2 (fun _ _ _ _ _ h => ih _ _ _ _ _ h) h)
set_option maxRecDepth 100000 in
set_option maxHeartbeats 4000000 in
theorem m_X0_layAll_L2 {p : Program} {l : Launch} {e : Env} {s : State} {m : MethodId} {args : Array Value} {below : List Frame} {meth : Method} {c : Code} {D : va_G} {cA : Nat → ClassId} {ad : Nat → Nat} (C : Cx p s m args c cX0_layAll RX0 6 D cA shC ad zsC) (hlocks : meth.locks = false) (hr : meth.sig.returnType = none) {Q : St → Prop} : ∀ (n : Nat) (x1 : Int) (x2 : Int) (x3 : Int) (σ : St), wp_X0_layAll_L2 Q n x1 x2 x3 σ → G p l e rm_X0_layAll s m args below meth c 0 0 6 D cA shC ad (QV D cA shC ad zsC below args s Q) σ [(0, .ref (ad 17)), (1, vI x1), (2, vI x2), (3, vI x3)] [] 2 := by
  intro n
  induction n with
  | zero => intro _ _ _ _ h; exact h.elim
  | succ n ih =>
    intro x1 x2 x3 σ h
    simp only [wp_X0_layAll_L2] at h
    refine g_iload_n C 3 3 rfl rfl dX0_layAll_2 ?_
    refine g_aload_n C 0 0 rfl rfl dX0_layAll_3 ?_
    refine g_get C iX0 (ci := 0) (o := 17) (v := .ref (ad 3)) rfl rfl 1 (by decide) rfl tw_X0_31 dX0_layAll_4 ?_
    refine g_get C iX1 (ci := 1) (o := 3) (v := vI (σ 3 4)) rfl rfl 4 (by decide) rfl tw_X0_62 dX0_layAll_7 ?_
    refine g_icmp_ge C rfl rfl 95 (by decide) dX0_layAll_10 (fun hc => ?_) (fun hc => ?_)
    · have h := h.1 hc
      exact g_vret C hlocks hr h dX0_layAll_95
    · have h := h.2 hc
      refine g_aload_n C 0 0 rfl rfl dX0_layAll_13 ?_
      refine g_get C iX0 (ci := 0) (o := 17) (v := .ref (ad 3)) rfl rfl 1 (by decide) rfl tw_X0_31 dX0_layAll_14 ?_
      refine g_get C iX1 (ci := 1) (o := 3) (v := .ref (ad 10)) rfl rfl 2 (by decide) rfl tw_X0_106 dX0_layAll_17 ?_
      refine g_iload_n C 3 3 rfl rfl dX0_layAll_20 ?_
      obtain ⟨hi, h⟩ := h
      refine g_iald C (o := 10) (N := 17) rfl rfl hi rfl dX0_layAll_21 ?_
      refine g_iconst C dX0_layAll_22 ?_
      refine g_isub C dX0_layAll_23 ?_
      refine g_name (fun x_1 ex_1 => ?_)
      have h := h x_1 ex_1
      refine g_istore C 4 [(0, .ref (ad 17)), (1, vI x1), (2, vI x2), (3, vI x3)] (by decide) rfl dX0_layAll_24 ?_
      obtain ⟨nn, h⟩ := h
      exact g_pick [1, 2, 3, 4, 0] rfl (m_X0_layAll_L26 C hlocks hr (fun _ _ _ _ h => ih _ _ _ _ h) nn _ _ _ _ _ h)
set_option maxRecDepth 100000 in
set_option maxHeartbeats 4000000 in
theorem m_X0_layAll_E {p : Program} {l : Launch} {e : Env} {s : State} {m : MethodId} {args : Array Value} {below : List Frame} {meth : Method} {c : Code} {D : va_G} {cA : Nat → ClassId} {ad : Nat → Nat} (C : Cx p s m args c cX0_layAll RX0 6 D cA shC ad zsC) (hlocks : meth.locks = false) (hr : meth.sig.returnType = none) {Q : St → Prop} {a1 a2 : Int} {σ : St} (h : wp_X0_layAll a1 a2 Q σ) : G p l e rm_X0_layAll s m args below meth c 0 0 6 D cA shC ad (QV D cA shC ad zsC below args s Q) σ [(0, .ref (ad 17)), (1, vI a1), (2, vI a2)] [] 0 := by
  unfold wp_X0_layAll at h
  refine g_iconst C dX0_layAll_0 ?_
  refine g_istore_n C 3 [(0, .ref (ad 17)), (1, vI a1), (2, vI a2)] rfl (by decide) rfl dX0_layAll_1 ?_
  obtain ⟨nn, h⟩ := h
  exact g_pick [1, 2, 3, 0] rfl (m_X0_layAll_L2 C hlocks hr nn _ _ _ _ h)
set_option maxRecDepth 100000 in
set_option maxHeartbeats 4000000 in
theorem m_X0_layAll (l : Launch) (D : va_G) (cA : Nat → ClassId) (ad : Nat → Nat) {a1 a2 : Int} {Q : St → Prop} {σ : St} (h : wp_X0_layAll a1 a2 Q σ) : CtV l yX0_layAll (.code yX0_layAll cX0_layAll 6 none) rm_X0_layAll D cA shC ad zsC [.ref (ad 17), vI a1, vI a2] σ Q :=
  ct_V RX0 (by decide +kernel) rfl (Nat.le_of_ble_eq_true rfl) (fun p e s m args below meth c C hlocks hr => m_X0_layAll_E C hlocks hr h)
abbrev rm_X0_addAuxiliary : Room := { frames := 2, cells := 0, slots := 0, locals := 23 }
set_option maxRecDepth 100000 in
set_option maxHeartbeats 4000000 in
theorem m_X0_addAuxiliary_L20 {p : Program} {l : Launch} {e : Env} {s : State} {m : MethodId} {args : Array Value} {below : List Frame} {meth : Method} {c : Code} {D : va_G} {cA : Nat → ClassId} {ad : Nat → Nat} (C : Cx p s m args c cX0_addAuxiliary RX0 9 D cA shC ad zsC) (hlocks : meth.locks = false) (hr : meth.sig.returnType = none) {Q : St → Prop} {K8 : Int → Int → Int → Int → Int → St → Prop} (hK8 : ∀ (x1 : Int) (x2 : Int) (x3 : Int) (x4 : Int) (x5 : Int) (σ : St), K8 x1 x2 x3 x4 x5 σ → G p l e rm_X0_addAuxiliary s m args below meth c 0 0 9 D cA shC ad (QV D cA shC ad zsC below args s Q) σ [(0, .ref (ad 17)), (1, vI x1), (2, vI x2), (3, vI x3), (4, vI x4), (5, vI x5)] [] 8) : ∀ (n : Nat) (x1 : Int) (x2 : Int) (x3 : Int) (x4 : Int) (x5 : Int) (x6 : Int) (σ : St), wp_X0_addAuxiliary_L20 K8 Q n x1 x2 x3 x4 x5 x6 σ → G p l e rm_X0_addAuxiliary s m args below meth c 0 0 9 D cA shC ad (QV D cA shC ad zsC below args s Q) σ [(0, .ref (ad 17)), (1, vI x1), (2, vI x2), (3, vI x3), (4, vI x4), (5, vI x5), (6, vI x6)] [] 20 := by
  intro n
  induction n with
  | zero => intro _ _ _ _ _ _ _ h; exact h.elim
  | succ n ih =>
    intro x1 x2 x3 x4 x5 x6 σ h
    simp only [wp_X0_addAuxiliary_L20] at h
    refine g_iload C 6 6 rfl dX0_addAuxiliary_20 ?_
    refine g_iload_n C 3 3 rfl rfl dX0_addAuxiliary_22 ?_
    refine g_iload C 4 4 rfl dX0_addAuxiliary_23 ?_
    refine g_iadd C dX0_addAuxiliary_25 ?_
    refine g_icmp_gt C rfl rfl 98 (by decide) dX0_addAuxiliary_26 (fun hc => ?_) (fun hc => ?_)
    · have h := h.1 hc
      refine g_iinc C 5 5 [(0, .ref (ad 17)), (1, vI x1), (2, vI x2), (3, vI x3), (4, vI x4), (6, vI x6)] rfl (by decide) rfl dX0_addAuxiliary_98 (fun x_1 ex_1 => ?_)
      have h := h x_1 ex_1
      refine g_goto C 8 (by decide) dX0_addAuxiliary_101 ?_
      exact g_pick [1, 2, 3, 4, 5, 0] rfl (hK8 _ _ _ _ _ _ h)
    · have h := h.2 hc
      refine g_iload_n C 3 3 rfl rfl dX0_addAuxiliary_29 ?_
      refine g_iload C 5 5 rfl dX0_addAuxiliary_30 ?_
      refine g_iload C 6 6 rfl dX0_addAuxiliary_32 ?_
      refine g_iload C 6 6 rfl dX0_addAuxiliary_34 ?_
      refine g_iload C 5 5 rfl dX0_addAuxiliary_36 ?_
      refine g_iadd C dX0_addAuxiliary_38 ?_
      refine g_iload_n C 3 3 rfl rfl dX0_addAuxiliary_39 ?_
      refine g_isub C dX0_addAuxiliary_40 ?_
      refine g_iload C 4 4 rfl dX0_addAuxiliary_41 ?_
      refine g_isub C dX0_addAuxiliary_43 ?_
      refine g_callIs C (m_X0_at l D cA ad h) hv_X0_at tw_X0_38 (As := [vI x3, vI x5, vI x6, vI (((x6 + x5) - x3) - x4)]) (st := []) rfl rfl ⟨Nat.le_of_ble_eq_true rfl, Nat.le_of_ble_eq_true rfl⟩ rfl rfl (Nat.le_of_ble_eq_true rfl) dX0_addAuxiliary_44 (fun r3 σ2 h => ?_)
      try dsimp only at h
      refine g_istore C 7 [(0, .ref (ad 17)), (1, vI x1), (2, vI x2), (3, vI x3), (4, vI x4), (5, vI x5), (6, vI x6)] (by decide) rfl dX0_addAuxiliary_47 ?_
      refine g_iload_n C 3 2 rfl rfl dX0_addAuxiliary_49 ?_
      refine g_sipush C dX0_addAuxiliary_50 (by decide) ?_
      refine g_imul C dX0_addAuxiliary_53 ?_
      refine g_iload C 0 7 rfl dX0_addAuxiliary_54 ?_
      refine g_iadd C dX0_addAuxiliary_56 ?_
      refine g_name (fun x_4 ex_4 => ?_)
      have h := h x_4 ex_4
      refine g_istore C 8 [(7, vI r3), (0, .ref (ad 17)), (1, vI x1), (2, vI x2), (3, vI x3), (4, vI x4), (5, vI x5), (6, vI x6)] (by decide) rfl dX0_addAuxiliary_57 ?_
      refine g_aload_n C 2 0 rfl rfl dX0_addAuxiliary_59 ?_
      refine g_get C iX0 (ci := 0) (o := 17) (v := .ref (ad 22)) rfl rfl 6 (by decide) rfl tw_X0_25 dX0_addAuxiliary_60 ?_
      refine g_iload C 0 8 rfl dX0_addAuxiliary_63 ?_
      refine g_aload_n C 2 0 rfl rfl dX0_addAuxiliary_65 ?_
      refine g_get C iX0 (ci := 0) (o := 17) (v := .ref (ad 22)) rfl rfl 6 (by decide) rfl tw_X0_25 dX0_addAuxiliary_66 ?_
      refine g_iload C 0 8 rfl dX0_addAuxiliary_69 ?_
      obtain ⟨hi, h⟩ := h
      refine g_iald C (o := 22) (N := 5280) rfl rfl hi rfl dX0_addAuxiliary_71 ?_
      refine g_i2l C rfl dX0_addAuxiliary_72 ?_
      refine g_aload_n C 2 0 rfl rfl dX0_addAuxiliary_73 ?_
      refine g_get C iX0 (ci := 0) (o := 17) (v := .ref (ad 19)) rfl rfl 3 (by decide) rfl tw_X0_16 dX0_addAuxiliary_74 ?_
      refine g_iload_n C 3 1 rfl rfl dX0_addAuxiliary_77 ?_
      refine g_sipush C dX0_addAuxiliary_78 (by decide) ?_
      refine g_imul C dX0_addAuxiliary_81 ?_
      refine g_iload C 1 7 rfl dX0_addAuxiliary_82 ?_
      refine g_iadd C dX0_addAuxiliary_84 ?_
      obtain ⟨hi, h⟩ := h
      refine g_iald C (o := 19) (N := 63360) rfl rfl hi rfl dX0_addAuxiliary_85 ?_
      refine g_i2l C rfl dX0_addAuxiliary_86 ?_
      refine g_ladd C dX0_addAuxiliary_87 ?_
      refine g_callIs C (m_X0_cut l D cA ad h) hv_X0_cut tw_X0_148 (As := [vL ((w32 (σ2 22 (w32 x_4).toNat)) + (w32 (σ2 19 (w32 ((x1 * 330) + r3)).toNat)))]) (st := [vI x_4, .ref (ad 22)]) rfl rfl ⟨Nat.le_of_ble_eq_true rfl, Nat.le_of_ble_eq_true rfl⟩ rfl rfl (Nat.le_of_ble_eq_true rfl) dX0_addAuxiliary_88 (fun r6 σ5 h => ?_)
      try dsimp only at h
      obtain ⟨hi, h⟩ := h
      refine g_iast C (o := 22) (N := 5280) rfl rfl hi rfl dX0_addAuxiliary_91 (fun σ7 eσ7 => ?_)
      have h := h σ7 eσ7
      refine g_iinc C 8 6 [(8, vI x_4), (7, vI r3), (0, .ref (ad 17)), (1, vI x1), (2, vI x2), (3, vI x3), (4, vI x4), (5, vI x5)] rfl (by decide) rfl dX0_addAuxiliary_92 (fun x_8 ex_8 => ?_)
      have h := h x_8 ex_8
      refine g_goto C 20 (by decide) dX0_addAuxiliary_95 ?_
      exact g_pick [3, 4, 5, 6, 7, 8, 0] rfl (ih _ _ _ _ _ _ _ h)
set_option maxRecDepth 100000 in
set_option maxHeartbeats 4000000 in
theorem m_X0_addAuxiliary_L8 {p : Program} {l : Launch} {e : Env} {s : State} {m : MethodId} {args : Array Value} {below : List Frame} {meth : Method} {c : Code} {D : va_G} {cA : Nat → ClassId} {ad : Nat → Nat} (C : Cx p s m args c cX0_addAuxiliary RX0 9 D cA shC ad zsC) (hlocks : meth.locks = false) (hr : meth.sig.returnType = none) {Q : St → Prop} : ∀ (n : Nat) (x1 : Int) (x2 : Int) (x3 : Int) (x4 : Int) (x5 : Int) (σ : St), wp_X0_addAuxiliary_L8 Q n x1 x2 x3 x4 x5 σ → G p l e rm_X0_addAuxiliary s m args below meth c 0 0 9 D cA shC ad (QV D cA shC ad zsC below args s Q) σ [(0, .ref (ad 17)), (1, vI x1), (2, vI x2), (3, vI x3), (4, vI x4), (5, vI x5)] [] 8 := by
  intro n
  induction n with
  | zero => intro _ _ _ _ _ _ h; exact h.elim
  | succ n ih =>
    intro x1 x2 x3 x4 x5 σ h
    simp only [wp_X0_addAuxiliary_L8] at h
    refine g_iload C 5 5 rfl dX0_addAuxiliary_8 ?_
    refine g_aload_n C 0 0 rfl rfl dX0_addAuxiliary_10 ?_
    refine g_get C iX0 (ci := 0) (o := 17) (v := vI (σ 17 0)) rfl rfl 0 (by decide) rfl tw_X0_73 dX0_addAuxiliary_11 ?_
    refine g_icmp_gt C rfl rfl 104 (by decide) dX0_addAuxiliary_14 (fun hc => ?_) (fun hc => ?_)
    · have h := h.1 hc
      exact g_vret C hlocks hr h dX0_addAuxiliary_104
    · have h := h.2 hc
      refine g_iload_n C 3 3 rfl rfl dX0_addAuxiliary_17 ?_
      refine g_istore C 6 [(0, .ref (ad 17)), (1, vI x1), (2, vI x2), (3, vI x3), (4, vI x4), (5, vI x5)] (by decide) rfl dX0_addAuxiliary_18 ?_
      obtain ⟨nn, h⟩ := h
      exact g_pick [1, 2, 3, 4, 5, 6, 0] rfl (m_X0_addAuxiliary_L20 C hlocks hr (fun _ _ _ _ _ _ h => ih _ _ _ _ _ _ h) nn _ _ _ _ _ _ _ h)
set_option maxRecDepth 100000 in
set_option maxHeartbeats 4000000 in
theorem m_X0_addAuxiliary_E {p : Program} {l : Launch} {e : Env} {s : State} {m : MethodId} {args : Array Value} {below : List Frame} {meth : Method} {c : Code} {D : va_G} {cA : Nat → ClassId} {ad : Nat → Nat} (C : Cx p s m args c cX0_addAuxiliary RX0 9 D cA shC ad zsC) (hlocks : meth.locks = false) (hr : meth.sig.returnType = none) {Q : St → Prop} {a1 a2 a3 a4 : Int} {σ : St} (h : wp_X0_addAuxiliary a1 a2 a3 a4 Q σ) : G p l e rm_X0_addAuxiliary s m args below meth c 0 0 9 D cA shC ad (QV D cA shC ad zsC below args s Q) σ [(0, .ref (ad 17)), (1, vI a1), (2, vI a2), (3, vI a3), (4, vI a4)] [] 0 := by
  unfold wp_X0_addAuxiliary at h
  refine g_iload_n C 3 3 rfl rfl dX0_addAuxiliary_0 ?_
  refine g_iload C 4 4 rfl dX0_addAuxiliary_1 ?_
  refine g_iadd C dX0_addAuxiliary_3 ?_
  refine g_iconst C dX0_addAuxiliary_4 ?_
  refine g_iadd C dX0_addAuxiliary_5 ?_
  refine g_name (fun x_1 ex_1 => ?_)
  have h := h x_1 ex_1
  refine g_istore C 5 [(0, .ref (ad 17)), (1, vI a1), (2, vI a2), (3, vI a3), (4, vI a4)] (by decide) rfl dX0_addAuxiliary_6 ?_
  obtain ⟨nn, h⟩ := h
  exact g_pick [1, 2, 3, 4, 5, 0] rfl (m_X0_addAuxiliary_L8 C hlocks hr nn _ _ _ _ _ _ h)
set_option maxRecDepth 100000 in
set_option maxHeartbeats 4000000 in
theorem m_X0_addAuxiliary (l : Launch) (D : va_G) (cA : Nat → ClassId) (ad : Nat → Nat) {a1 a2 a3 a4 : Int} {Q : St → Prop} {σ : St} (h : wp_X0_addAuxiliary a1 a2 a3 a4 Q σ) : CtV l yX0_addAuxiliary (.code yX0_addAuxiliary cX0_addAuxiliary 9 none) rm_X0_addAuxiliary D cA shC ad zsC [.ref (ad 17), vI a1, vI a2, vI a3, vI a4] σ Q :=
  ct_V RX0 (by decide +kernel) rfl (Nat.le_of_ble_eq_true rfl) (fun p e s m args below meth c C hlocks hr => m_X0_addAuxiliary_E C hlocks hr h)
abbrev rm_X0_addTree : Room := { frames := 3, cells := 0, slots := 0, locals := 51 }
set_option maxRecDepth 100000 in
set_option maxHeartbeats 4000000 in
theorem m_X0_addTree_B110 {p : Program} {l : Launch} {e : Env} {s : State} {m : MethodId} {args : Array Value} {below : List Frame} {meth : Method} {c : Code} {D : va_G} {cA : Nat → ClassId} {ad : Nat → Nat} (C : Cx p s m args c cX0_addTree RX0 8 D cA shC ad zsC) (hlocks : meth.locks = false) (hr : meth.sig.returnType = none) {Q : St → Prop} {K19 : Int → Int → Int → Int → Int → St → Prop} (hK19 : ∀ (x1 : Int) (x2 : Int) (x3 : Int) (x4 : Int) (x5 : Int) (σ : St), K19 x1 x2 x3 x4 x5 σ → G p l e rm_X0_addTree s m args below meth c 0 0 8 D cA shC ad (QV D cA shC ad zsC below args s Q) σ [(0, .ref (ad 17)), (1, vI x1), (2, vI x2), (3, vI x3), (4, vI x4), (5, vI x5)] [] 19) {x1 x2 x3 x4 x5 : Int} {σ : St} (h : wp_X0_addTree_B110 K19 x1 x2 x3 x4 x5 Q σ) : G p l e rm_X0_addTree s m args below meth c 0 0 8 D cA shC ad (QV D cA shC ad zsC below args s Q) σ [(0, .ref (ad 17)), (1, vI x1), (2, vI x2), (3, vI x3), (4, vI x4), (5, vI x5)] [] 110 := by
  unfold wp_X0_addTree_B110 at h
  refine g_iinc C 5 5 [(0, .ref (ad 17)), (1, vI x1), (2, vI x2), (3, vI x3), (4, vI x4)] rfl (by decide) rfl dX0_addTree_110 (fun x_1 ex_1 => ?_)
  have h := h x_1 ex_1
  refine g_goto C 19 (by decide) dX0_addTree_113 ?_
  exact g_pick [1, 2, 3, 4, 5, 0] rfl (hK19 _ _ _ _ _ _ h)
set_option maxRecDepth 100000 in
set_option maxHeartbeats 4000000 in
theorem m_X0_addTree_L19 {p : Program} {l : Launch} {e : Env} {s : State} {m : MethodId} {args : Array Value} {below : List Frame} {meth : Method} {c : Code} {D : va_G} {cA : Nat → ClassId} {ad : Nat → Nat} (C : Cx p s m args c cX0_addTree RX0 8 D cA shC ad zsC) (hlocks : meth.locks = false) (hr : meth.sig.returnType = none) {Q : St → Prop} : ∀ (n : Nat) (x1 : Int) (x2 : Int) (x3 : Int) (x4 : Int) (x5 : Int) (σ : St), wp_X0_addTree_L19 Q n x1 x2 x3 x4 x5 σ → G p l e rm_X0_addTree s m args below meth c 0 0 8 D cA shC ad (QV D cA shC ad zsC below args s Q) σ [(0, .ref (ad 17)), (1, vI x1), (2, vI x2), (3, vI x3), (4, vI x4), (5, vI x5)] [] 19 := by
  intro n
  induction n with
  | zero => intro _ _ _ _ _ _ h; exact h.elim
  | succ n ih =>
    intro x1 x2 x3 x4 x5 σ h
    simp only [wp_X0_addTree_L19] at h
    refine g_iload C 5 5 rfl dX0_addTree_19 ?_
    refine g_iload_n C 2 2 rfl rfl dX0_addTree_21 ?_
    refine g_iadd C dX0_addTree_22 ?_
    refine g_aload_n C 0 0 rfl rfl dX0_addTree_23 ?_
    refine g_get C iX0 (ci := 0) (o := 17) (v := vI (σ 17 0)) rfl rfl 0 (by decide) rfl tw_X0_73 dX0_addTree_24 ?_
    refine g_icmp_gt C rfl rfl 116 (by decide) dX0_addTree_27 (fun hc => ?_) (fun hc => ?_)
    · have h := h.1 hc
      exact g_vret C hlocks hr h dX0_addTree_116
    · have h := h.2 hc
      refine g_aload_n C 0 0 rfl rfl dX0_addTree_30 ?_
      refine g_get C iX0 (ci := 0) (o := 17) (v := .ref (ad 3)) rfl rfl 1 (by decide) rfl tw_X0_31 dX0_addTree_31 ?_
      refine g_iload_n C 1 1 rfl rfl dX0_addTree_34 ?_
      refine g_callIv C (m_X1_isAuxiliary l D cA ad h) hv_X1_isAuxiliary tw_X0_66 (o := 3) (ci := 1) (As := [vI x1]) (st := []) rfl rfl rfl rfl ⟨Nat.le_of_ble_eq_true rfl, Nat.le_of_ble_eq_true rfl⟩ rfl rfl (Nat.le_of_ble_eq_true rfl) dX0_addTree_35 (fun r2 σ1 h => ?_)
      try dsimp only at h
      refine g_if_eq C rfl 54 (by decide) dX0_addTree_38 (fun hc => ?_) (fun hc => ?_)
      · have h := h.1 hc
        refine g_iload C 5 5 rfl dX0_addTree_54 ?_
        refine g_iload C 5 5 rfl dX0_addTree_56 ?_
        refine g_iload_n C 2 2 rfl rfl dX0_addTree_58 ?_
        refine g_iadd C dX0_addTree_59 ?_
        refine g_iconst C dX0_addTree_60 ?_
        refine g_iconst C dX0_addTree_61 ?_
        refine g_callIs C (m_X0_at l D cA ad h) hv_X0_at tw_X0_38 (As := [vI x5, vI (x5 + x2), vI (-1), vI (-1)]) (st := []) rfl rfl ⟨Nat.le_of_ble_eq_true rfl, Nat.le_of_ble_eq_true rfl⟩ rfl rfl (Nat.le_of_ble_eq_true rfl) dX0_addTree_62 (fun r4 σ3 h => ?_)
        try dsimp only at h
        refine g_istore C 6 [(0, .ref (ad 17)), (1, vI x1), (2, vI x2), (3, vI x3), (4, vI x4), (5, vI x5)] (by decide) rfl dX0_addTree_65 ?_
        refine g_iload C 5 4 rfl dX0_addTree_67 ?_
        refine g_bipush C dX0_addTree_69 (by decide) ?_
        refine g_imul C dX0_addTree_71 ?_
        refine g_iload C 0 6 rfl dX0_addTree_72 ?_
        refine g_iadd C dX0_addTree_74 ?_
        refine g_name (fun x_5 ex_5 => ?_)
        have h := h x_5 ex_5
        refine g_istore C 7 [(6, vI r4), (0, .ref (ad 17)), (1, vI x1), (2, vI x2), (3, vI x3), (4, vI x4), (5, vI x5)] (by decide) rfl dX0_addTree_75 ?_
        refine g_aload_n C 2 0 rfl rfl dX0_addTree_77 ?_
        refine g_get C iX0 (ci := 0) (o := 17) (v := .ref (ad 21)) rfl rfl 5 (by decide) rfl tw_X0_22 dX0_addTree_78 ?_
        refine g_iload C 0 7 rfl dX0_addTree_81 ?_
        refine g_aload_n C 2 0 rfl rfl dX0_addTree_83 ?_
        refine g_get C iX0 (ci := 0) (o := 17) (v := .ref (ad 21)) rfl rfl 5 (by decide) rfl tw_X0_22 dX0_addTree_84 ?_
        refine g_iload C 0 7 rfl dX0_addTree_87 ?_
        obtain ⟨hi, h⟩ := h
        refine g_iald C (o := 21) (N := 720) rfl rfl hi rfl dX0_addTree_89 ?_
        refine g_i2l C rfl dX0_addTree_90 ?_
        refine g_aload_n C 2 0 rfl rfl dX0_addTree_91 ?_
        refine g_get C iX0 (ci := 0) (o := 17) (v := .ref (ad 19)) rfl rfl 3 (by decide) rfl tw_X0_16 dX0_addTree_92 ?_
        refine g_iload_n C 5 3 rfl rfl dX0_addTree_95 ?_
        refine g_sipush C dX0_addTree_96 (by decide) ?_
        refine g_imul C dX0_addTree_99 ?_
        refine g_iload C 1 6 rfl dX0_addTree_100 ?_
        refine g_iadd C dX0_addTree_102 ?_
        obtain ⟨hi, h⟩ := h
        refine g_iald C (o := 19) (N := 63360) rfl rfl hi rfl dX0_addTree_103 ?_
        refine g_i2l C rfl dX0_addTree_104 ?_
        refine g_ladd C dX0_addTree_105 ?_
        refine g_callIs C (m_X0_cut l D cA ad h) hv_X0_cut tw_X0_148 (As := [vL ((w32 (σ3 21 (w32 x_5).toNat)) + (w32 (σ3 19 (w32 ((x3 * 330) + r4)).toNat)))]) (st := [vI x_5, .ref (ad 21)]) rfl rfl ⟨Nat.le_of_ble_eq_true rfl, Nat.le_of_ble_eq_true rfl⟩ rfl rfl (Nat.le_of_ble_eq_true rfl) dX0_addTree_106 (fun r7 σ6 h => ?_)
        try dsimp only at h
        obtain ⟨hi, h⟩ := h
        refine g_iast C (o := 21) (N := 720) rfl rfl hi rfl dX0_addTree_109 (fun σ8 eσ8 => ?_)
        have h := h σ8 eσ8
        exact g_pick [2, 3, 4, 5, 6, 7] rfl (m_X0_addTree_B110 C hlocks hr (fun _ _ _ _ _ _ h => ih _ _ _ _ _ _ h) h)
      · have h := h.2 hc
        refine g_aload_n C 0 0 rfl rfl dX0_addTree_41 ?_
        refine g_iload_n C 3 3 rfl rfl dX0_addTree_42 ?_
        refine g_iload C 4 4 rfl dX0_addTree_43 ?_
        refine g_iload C 5 5 rfl dX0_addTree_45 ?_
        refine g_iload_n C 2 2 rfl rfl dX0_addTree_47 ?_
        refine g_callVv C (m_X0_addAuxiliary l D cA ad h) hv_X0_addAuxiliary tw_X0_167 (o := 17) (ci := 0) (As := [vI x3, vI x4, vI x5, vI x2]) (st := []) rfl rfl rfl rfl ⟨Nat.le_of_ble_eq_true rfl, Nat.le_of_ble_eq_true rfl⟩ rfl rfl (Nat.le_of_ble_eq_true rfl) dX0_addTree_48 (fun σ9 h => ?_)
        try dsimp only at h
        refine g_goto C 110 (by decide) dX0_addTree_51 ?_
        exact g_pick [0, 1, 2, 3, 4, 5] rfl (m_X0_addTree_B110 C hlocks hr (fun _ _ _ _ _ _ h => ih _ _ _ _ _ _ h) h)
set_option maxRecDepth 100000 in
set_option maxHeartbeats 4000000 in
theorem m_X0_addTree_E {p : Program} {l : Launch} {e : Env} {s : State} {m : MethodId} {args : Array Value} {below : List Frame} {meth : Method} {c : Code} {D : va_G} {cA : Nat → ClassId} {ad : Nat → Nat} (C : Cx p s m args c cX0_addTree RX0 8 D cA shC ad zsC) (hlocks : meth.locks = false) (hr : meth.sig.returnType = none) {Q : St → Prop} {a1 a2 : Int} {σ : St} (h : wp_X0_addTree a1 a2 Q σ) : G p l e rm_X0_addTree s m args below meth c 0 0 8 D cA shC ad (QV D cA shC ad zsC below args s Q) σ [(0, .ref (ad 17)), (1, vI a1), (2, vI a2)] [] 0 := by
  unfold wp_X0_addTree at h
  refine g_iload_n C 1 1 rfl rfl dX0_addTree_0 ?_
  refine g_iconst C dX0_addTree_1 ?_
  refine g_callIs C (m_X1_row l D cA ad h) hv_X1_row tw_X0_109 (As := [vI a1, vI 0]) (st := []) rfl rfl ⟨Nat.le_of_ble_eq_true rfl, Nat.le_of_ble_eq_true rfl⟩ rfl rfl (Nat.le_of_ble_eq_true rfl) dX0_addTree_2 (fun r2 σ1 h => ?_)
  try dsimp only at h
  refine g_istore_n C 3 [(0, .ref (ad 17)), (1, vI a1), (2, vI a2)] rfl (by decide) rfl dX0_addTree_5 ?_
  refine g_aload_n C 1 0 rfl rfl dX0_addTree_6 ?_
  refine g_get C iX0 (ci := 0) (o := 17) (v := .ref (ad 3)) rfl rfl 1 (by decide) rfl tw_X0_31 dX0_addTree_7 ?_
  refine g_iload_n C 2 1 rfl rfl dX0_addTree_10 ?_
  refine g_callIv C (m_X1_rootLabel l D cA ad h) hv_X1_rootLabel tw_X0_69 (o := 3) (ci := 1) (As := [vI a1]) (st := []) rfl rfl rfl rfl ⟨Nat.le_of_ble_eq_true rfl, Nat.le_of_ble_eq_true rfl⟩ rfl rfl (Nat.le_of_ble_eq_true rfl) dX0_addTree_11 (fun r4 σ3 h => ?_)
  try dsimp only at h
  refine g_istore C 4 [(3, vI r2), (0, .ref (ad 17)), (1, vI a1), (2, vI a2)] (by decide) rfl dX0_addTree_14 ?_
  refine g_iconst C dX0_addTree_16 ?_
  refine g_istore C 5 [(4, vI r4), (3, vI r2), (0, .ref (ad 17)), (1, vI a1), (2, vI a2)] (by decide) rfl dX0_addTree_17 ?_
  obtain ⟨nn, h⟩ := h
  exact g_pick [3, 4, 5, 2, 1, 0] rfl (m_X0_addTree_L19 C hlocks hr nn _ _ _ _ _ _ h)
set_option maxRecDepth 100000 in
set_option maxHeartbeats 4000000 in
theorem m_X0_addTree (l : Launch) (D : va_G) (cA : Nat → ClassId) (ad : Nat → Nat) {a1 a2 : Int} {Q : St → Prop} {σ : St} (h : wp_X0_addTree a1 a2 Q σ) : CtV l yX0_addTree (.code yX0_addTree cX0_addTree 8 none) rm_X0_addTree D cA shC ad zsC [.ref (ad 17), vI a1, vI a2] σ Q :=
  ct_V RX0 (by decide +kernel) rfl (Nat.le_of_ble_eq_true rfl) (fun p e s m args below meth c C hlocks hr => m_X0_addTree_E C hlocks hr h)
abbrev rm_X0_fill : Room := { frames := 7, cells := 0, slots := 0, locals := 166 }
set_option maxRecDepth 100000 in
set_option maxHeartbeats 4000000 in
theorem m_X0_fill_B70 {p : Program} {l : Launch} {e : Env} {s : State} {m : MethodId} {args : Array Value} {below : List Frame} {meth : Method} {c : Code} {D : va_G} {cA : Nat → ClassId} {ad : Nat → Nat} (C : Cx p s m args c cX0_fill RX0 4 D cA shC ad zsC) (hlocks : meth.locks = false) (hr : meth.sig.returnType = none) {Q : St → Prop} {K31 : Int → St → Prop} (hK31 : ∀ (x2 : Int) (σ : St), K31 x2 σ → G p l e rm_X0_fill s m args below meth c 0 0 4 D cA shC ad (QV D cA shC ad zsC below args s Q) σ [(0, .ref (ad 17)), (2, vI x2)] [] 31) {x2 : Int} {σ : St} (h : wp_X0_fill_B70 K31 x2 Q σ) : G p l e rm_X0_fill s m args below meth c 0 0 4 D cA shC ad (QV D cA shC ad zsC below args s Q) σ [(0, .ref (ad 17)), (2, vI x2)] [] 70 := by
  unfold wp_X0_fill_B70 at h
  refine g_iinc C 1 2 [(0, .ref (ad 17))] rfl (by decide) rfl dX0_fill_70 (fun x_1 ex_1 => ?_)
  have h := h x_1 ex_1
  refine g_goto C 31 (by decide) dX0_fill_73 ?_
  exact g_pick [1, 0] rfl (hK31 _ _ h)
set_option maxRecDepth 100000 in
set_option maxHeartbeats 4000000 in
theorem m_X0_fill_L94 {p : Program} {l : Launch} {e : Env} {s : State} {m : MethodId} {args : Array Value} {below : List Frame} {meth : Method} {c : Code} {D : va_G} {cA : Nat → ClassId} {ad : Nat → Nat} (C : Cx p s m args c cX0_fill RX0 4 D cA shC ad zsC) (hlocks : meth.locks = false) (hr : meth.sig.returnType = none) {Q : St → Prop} {K78 : Int → St → Prop} (hK78 : ∀ (x2 : Int) (σ : St), K78 x2 σ → G p l e rm_X0_fill s m args below meth c 0 0 4 D cA shC ad (QV D cA shC ad zsC below args s Q) σ [(0, .ref (ad 17)), (2, vI x2)] [] 78) : ∀ (n : Nat) (x2 : Int) (x3 : Int) (σ : St), wp_X0_fill_L94 K78 Q n x2 x3 σ → G p l e rm_X0_fill s m args below meth c 0 0 4 D cA shC ad (QV D cA shC ad zsC below args s Q) σ [(0, .ref (ad 17)), (2, vI x2), (3, vI x3)] [] 94 := by
  intro n
  induction n with
  | zero => intro _ _ _ h; exact h.elim
  | succ n ih =>
    intro x2 x3 σ h
    simp only [wp_X0_fill_L94] at h
    refine g_iload_n C 2 3 rfl rfl dX0_fill_94 ?_
    refine g_aload_n C 0 0 rfl rfl dX0_fill_95 ?_
    refine g_get C iX0 (ci := 0) (o := 17) (v := .ref (ad 3)) rfl rfl 1 (by decide) rfl tw_X0_31 dX0_fill_96 ?_
    refine g_get C iX1 (ci := 1) (o := 3) (v := vI (σ 3 4)) rfl rfl 4 (by decide) rfl tw_X0_62 dX0_fill_99 ?_
    refine g_icmp_ge C rfl rfl 117 (by decide) dX0_fill_102 (fun hc => ?_) (fun hc => ?_)
    · have h := h.1 hc
      refine g_aload_n C 0 0 rfl rfl dX0_fill_117 ?_
      refine g_iload_n C 1 2 rfl rfl dX0_fill_118 ?_
      refine g_iconst C dX0_fill_119 ?_
      refine g_callVv C (m_X0_layAll l D cA ad h) hv_X0_layAll tw_X0_76 (o := 17) (ci := 0) (As := [vI x2, vI 0]) (st := []) rfl rfl rfl rfl ⟨Nat.le_of_ble_eq_true rfl, Nat.le_of_ble_eq_true rfl⟩ rfl rfl (Nat.le_of_ble_eq_true rfl) dX0_fill_120 (fun σ1 h => ?_)
      try dsimp only at h
      refine g_iinc C 1 2 [(0, .ref (ad 17)), (3, vI x3)] rfl (by decide) rfl dX0_fill_123 (fun x_2 ex_2 => ?_)
      have h := h x_2 ex_2
      refine g_goto C 78 (by decide) dX0_fill_126 ?_
      exact g_pick [1, 0] rfl (hK78 _ _ h)
    · have h := h.2 hc
      refine g_aload_n C 0 0 rfl rfl dX0_fill_105 ?_
      refine g_iload_n C 2 3 rfl rfl dX0_fill_106 ?_
      refine g_iload_n C 1 2 rfl rfl dX0_fill_107 ?_
      refine g_callVv C (m_X0_addTree l D cA ad h) hv_X0_addTree tw_X0_80 (o := 17) (ci := 0) (As := [vI x3, vI x2]) (st := []) rfl rfl rfl rfl ⟨Nat.le_of_ble_eq_true rfl, Nat.le_of_ble_eq_true rfl⟩ rfl rfl (Nat.le_of_ble_eq_true rfl) dX0_fill_108 (fun σ3 h => ?_)
      try dsimp only at h
      refine g_iinc C 2 3 [(0, .ref (ad 17)), (2, vI x2)] rfl (by decide) rfl dX0_fill_111 (fun x_4 ex_4 => ?_)
      have h := h x_4 ex_4
      refine g_goto C 94 (by decide) dX0_fill_114 ?_
      exact g_pick [1, 2, 0] rfl (ih _ _ _ h)
set_option maxRecDepth 100000 in
set_option maxHeartbeats 4000000 in
theorem m_X0_fill_L78 {p : Program} {l : Launch} {e : Env} {s : State} {m : MethodId} {args : Array Value} {below : List Frame} {meth : Method} {c : Code} {D : va_G} {cA : Nat → ClassId} {ad : Nat → Nat} (C : Cx p s m args c cX0_fill RX0 4 D cA shC ad zsC) (hlocks : meth.locks = false) (hr : meth.sig.returnType = none) {Q : St → Prop} : ∀ (n : Nat) (x2 : Int) (σ : St), wp_X0_fill_L78 Q n x2 σ → G p l e rm_X0_fill s m args below meth c 0 0 4 D cA shC ad (QV D cA shC ad zsC below args s Q) σ [(0, .ref (ad 17)), (2, vI x2)] [] 78 := by
  intro n
  induction n with
  | zero => intro _ _ h; exact h.elim
  | succ n ih =>
    intro x2 σ h
    simp only [wp_X0_fill_L78] at h
    refine g_iload_n C 1 2 rfl rfl dX0_fill_78 ?_
    refine g_aload_n C 0 0 rfl rfl dX0_fill_79 ?_
    refine g_get C iX0 (ci := 0) (o := 17) (v := vI (σ 17 0)) rfl rfl 0 (by decide) rfl tw_X0_73 dX0_fill_80 ?_
    refine g_icmp_gt C rfl rfl 129 (by decide) dX0_fill_83 (fun hc => ?_) (fun hc => ?_)
    · have h := h.1 hc
      exact g_vret C hlocks hr h dX0_fill_129
    · have h := h.2 hc
      refine g_aload_n C 0 0 rfl rfl dX0_fill_86 ?_
      refine g_iload_n C 1 2 rfl rfl dX0_fill_87 ?_
      refine g_iconst C dX0_fill_88 ?_
      refine g_callVv C (m_X0_layAll l D cA ad h) hv_X0_layAll tw_X0_76 (o := 17) (ci := 0) (As := [vI x2, vI 1]) (st := []) rfl rfl rfl rfl ⟨Nat.le_of_ble_eq_true rfl, Nat.le_of_ble_eq_true rfl⟩ rfl rfl (Nat.le_of_ble_eq_true rfl) dX0_fill_89 (fun σ1 h => ?_)
      try dsimp only at h
      refine g_iconst C dX0_fill_92 ?_
      refine g_istore_n C 3 [(0, .ref (ad 17)), (2, vI x2)] rfl (by decide) rfl dX0_fill_93 ?_
      obtain ⟨nn, h⟩ := h
      exact g_pick [1, 2, 0] rfl (m_X0_fill_L94 C hlocks hr (fun _ _ h => ih _ _ h) nn _ _ _ h)
set_option maxRecDepth 100000 in
set_option maxHeartbeats 4000000 in
theorem m_X0_fill_L31 {p : Program} {l : Launch} {e : Env} {s : State} {m : MethodId} {args : Array Value} {below : List Frame} {meth : Method} {c : Code} {D : va_G} {cA : Nat → ClassId} {ad : Nat → Nat} (C : Cx p s m args c cX0_fill RX0 4 D cA shC ad zsC) (hlocks : meth.locks = false) (hr : meth.sig.returnType = none) {Q : St → Prop} : ∀ (n : Nat) (x2 : Int) (σ : St), wp_X0_fill_L31 Q n x2 σ → G p l e rm_X0_fill s m args below meth c 0 0 4 D cA shC ad (QV D cA shC ad zsC below args s Q) σ [(0, .ref (ad 17)), (2, vI x2)] [] 31 := by
  intro n
  induction n with
  | zero => intro _ _ h; exact h.elim
  | succ n ih =>
    intro x2 σ h
    simp only [wp_X0_fill_L31] at h
    refine g_iload_n C 1 2 rfl rfl dX0_fill_31 ?_
    refine g_aload_n C 0 0 rfl rfl dX0_fill_32 ?_
    refine g_get C iX0 (ci := 0) (o := 17) (v := .ref (ad 3)) rfl rfl 1 (by decide) rfl tw_X0_31 dX0_fill_33 ?_
    refine g_get C iX1 (ci := 1) (o := 3) (v := vI (σ 3 4)) rfl rfl 4 (by decide) rfl tw_X0_62 dX0_fill_36 ?_
    refine g_icmp_ge C rfl rfl 76 (by decide) dX0_fill_39 (fun hc => ?_) (fun hc => ?_)
    · have h := h.1 hc
      refine g_iconst C dX0_fill_76 ?_
      refine g_istore_n C 2 [(0, .ref (ad 17))] rfl (by decide) rfl dX0_fill_77 ?_
      obtain ⟨nn, h⟩ := h
      exact g_pick [1, 0] rfl (m_X0_fill_L78 C hlocks hr nn _ _ h)
    · have h := h.2 hc
      refine g_aload_n C 0 0 rfl rfl dX0_fill_42 ?_
      refine g_get C iX0 (ci := 0) (o := 17) (v := .ref (ad 3)) rfl rfl 1 (by decide) rfl tw_X0_31 dX0_fill_43 ?_
      refine g_iload_n C 1 2 rfl rfl dX0_fill_46 ?_
      refine g_callIv C (m_X1_isAuxiliary l D cA ad h) hv_X1_isAuxiliary tw_X0_66 (o := 3) (ci := 1) (As := [vI x2]) (st := []) rfl rfl rfl rfl ⟨Nat.le_of_ble_eq_true rfl, Nat.le_of_ble_eq_true rfl⟩ rfl rfl (Nat.le_of_ble_eq_true rfl) dX0_fill_47 (fun r2 σ1 h => ?_)
      try dsimp only at h
      refine g_if_eq C rfl 70 (by decide) dX0_fill_50 (fun hc => ?_) (fun hc => ?_)
      · have h := h.1 hc
        exact g_pick [0, 1] rfl (m_X0_fill_B70 C hlocks hr (fun _ _ h => ih _ _ h) h)
      · have h := h.2 hc
        refine g_aload_n C 0 0 rfl rfl dX0_fill_53 ?_
        refine g_get C iX0 (ci := 0) (o := 17) (v := .ref (ad 29)) rfl rfl 7 (by decide) rfl tw_X0_28 dX0_fill_54 ?_
        refine g_aload_n C 0 0 rfl rfl dX0_fill_57 ?_
        refine g_get C iX0 (ci := 0) (o := 17) (v := .ref (ad 3)) rfl rfl 1 (by decide) rfl tw_X0_31 dX0_fill_58 ?_
        refine g_iload_n C 1 2 rfl rfl dX0_fill_61 ?_
        refine g_callIv C (m_X1_rootLabel l D cA ad h) hv_X1_rootLabel tw_X0_69 (o := 3) (ci := 1) (As := [vI x2]) (st := [.ref (ad 29)]) rfl rfl rfl rfl ⟨Nat.le_of_ble_eq_true rfl, Nat.le_of_ble_eq_true rfl⟩ rfl rfl (Nat.le_of_ble_eq_true rfl) dX0_fill_62 (fun r4 σ3 h => ?_)
        try dsimp only at h
        refine g_dup2 C rfl rfl dX0_fill_65 ?_
        obtain ⟨hi, h⟩ := h
        refine g_iald C (o := 29) (N := 16) rfl rfl hi rfl dX0_fill_66 ?_
        refine g_iconst C dX0_fill_67 ?_
        refine g_iadd C dX0_fill_68 ?_
        obtain ⟨hi, h⟩ := h
        refine g_iast C (o := 29) (N := 16) rfl rfl hi rfl dX0_fill_69 (fun σ5 eσ5 => ?_)
        have h := h σ5 eσ5
        exact g_pick [0, 1] rfl (m_X0_fill_B70 C hlocks hr (fun _ _ h => ih _ _ h) h)
set_option maxRecDepth 100000 in
set_option maxHeartbeats 4000000 in
theorem m_X0_fill_E {p : Program} {l : Launch} {e : Env} {s : State} {m : MethodId} {args : Array Value} {below : List Frame} {meth : Method} {c : Code} {D : va_G} {cA : Nat → ClassId} {ad : Nat → Nat} (C : Cx p s m args c cX0_fill RX0 4 D cA shC ad zsC) (hlocks : meth.locks = false) (hr : meth.sig.returnType = none) {Q : St → Prop} {σ : St} (h : wp_X0_fill Q σ) : G p l e rm_X0_fill s m args below meth c 0 0 4 D cA shC ad (QV D cA shC ad zsC below args s Q) σ [(0, .ref (ad 17)), (1, .ref (ad 14))] [] 0 := by
  unfold wp_X0_fill at h
  refine g_aload_n C 0 0 rfl rfl dX0_fill_0 ?_
  refine g_aload_n C 1 1 rfl rfl dX0_fill_1 ?_
  refine g_callVv C (m_X0_hear l D cA ad h) hv_X0_hear tw_X0_52 (o := 17) (ci := 0) (As := [.ref (ad 14)]) (st := []) rfl rfl rfl rfl ⟨Nat.le_of_ble_eq_true rfl, Nat.le_of_ble_eq_true rfl⟩ rfl rfl (Nat.le_of_ble_eq_true rfl) dX0_fill_2 (fun σ1 h => ?_)
  try dsimp only at h
  refine g_aload_n C 0 0 rfl rfl dX0_fill_5 ?_
  refine g_get C iX0 (ci := 0) (o := 17) (v := .ref (ad 21)) rfl rfl 5 (by decide) rfl tw_X0_22 dX0_fill_6 ?_
  refine g_iconst C dX0_fill_9 ?_
  refine g_callVs C (m_J7_fill_53178_21 l D cA ad h) hv_J7_fill_53178 tw_X0_56 (As := [.ref (ad 21), vI 0]) (st := []) rfl rfl ⟨Nat.le_of_ble_eq_true rfl, Nat.le_of_ble_eq_true rfl⟩ rfl rfl (Nat.le_of_ble_eq_true rfl) dX0_fill_10 (fun σ2 h => ?_)
  try dsimp only at h
  refine g_aload_n C 0 0 rfl rfl dX0_fill_13 ?_
  refine g_get C iX0 (ci := 0) (o := 17) (v := .ref (ad 22)) rfl rfl 6 (by decide) rfl tw_X0_25 dX0_fill_14 ?_
  refine g_iconst C dX0_fill_17 ?_
  refine g_callVs C (m_J7_fill_53178_22 l D cA ad h) hv_J7_fill_53178 tw_X0_56 (As := [.ref (ad 22), vI 0]) (st := []) rfl rfl ⟨Nat.le_of_ble_eq_true rfl, Nat.le_of_ble_eq_true rfl⟩ rfl rfl (Nat.le_of_ble_eq_true rfl) dX0_fill_18 (fun σ3 h => ?_)
  try dsimp only at h
  refine g_aload_n C 0 0 rfl rfl dX0_fill_21 ?_
  refine g_get C iX0 (ci := 0) (o := 17) (v := .ref (ad 29)) rfl rfl 7 (by decide) rfl tw_X0_28 dX0_fill_22 ?_
  refine g_iconst C dX0_fill_25 ?_
  refine g_callVs C (m_J7_fill_53178_29 l D cA ad h) hv_J7_fill_53178 tw_X0_56 (As := [.ref (ad 29), vI 0]) (st := []) rfl rfl ⟨Nat.le_of_ble_eq_true rfl, Nat.le_of_ble_eq_true rfl⟩ rfl rfl (Nat.le_of_ble_eq_true rfl) dX0_fill_26 (fun σ4 h => ?_)
  try dsimp only at h
  refine g_iconst C dX0_fill_29 ?_
  refine g_istore_n C 2 [(0, .ref (ad 17)), (1, .ref (ad 14))] rfl (by decide) rfl dX0_fill_30 ?_
  obtain ⟨nn, h⟩ := h
  exact g_pick [1, 0] rfl (m_X0_fill_L31 C hlocks hr nn _ _ h)
set_option maxRecDepth 100000 in
set_option maxHeartbeats 4000000 in
theorem m_X0_fill (l : Launch) (D : va_G) (cA : Nat → ClassId) (ad : Nat → Nat) {Q : St → Prop} {σ : St} (h : wp_X0_fill Q σ) : CtV l yX0_fill (.code yX0_fill cX0_fill 4 none) rm_X0_fill D cA shC ad zsC [.ref (ad 17), .ref (ad 14)] σ Q :=
  ct_V RX0 (by decide +kernel) rfl (Nat.le_of_ble_eq_true rfl) (fun p e s m args below meth c C hlocks hr => m_X0_fill_E C hlocks hr h)
abbrev rm_X8_read : Room := { frames := 8, cells := 0, slots := 0, locals := 189 }
set_option maxRecDepth 100000 in
set_option maxHeartbeats 4000000 in
theorem m_X8_read_B92 {p : Program} {l : Launch} {e : Env} {s : State} {m : MethodId} {args : Array Value} {below : List Frame} {meth : Method} {c : Code} {D : va_G} {cA : Nat → ClassId} {ad : Nat → Nat} (C : Cx p s m args c cX8_read RX8 2 D cA shC ad zsC) (hlocks : meth.locks = false) (hr : meth.sig.returnType = (some .int)) {Q : Int → St → Prop} {σ : St} (h : wp_X8_read_B92 Q σ) : G p l e rm_X8_read s m args below meth c 0 0 2 D cA shC ad (QI D cA shC ad zsC below args s Q) σ [(0, .ref (ad 0))] [] 92 := by
  unfold wp_X8_read_B92 at h
  refine g_aload_n C 0 0 rfl rfl dX8_read_92 ?_
  refine g_get C iX8 (ci := 8) (o := 0) (v := vI (σ 0 9)) rfl rfl 9 (by decide) rfl tw_X8_75 dX8_read_93 ?_
  exact g_iret C hlocks hr h dX8_read_96
set_option maxRecDepth 100000 in
set_option maxHeartbeats 4000000 in
theorem m_X8_read_E {p : Program} {l : Launch} {e : Env} {s : State} {m : MethodId} {args : Array Value} {below : List Frame} {meth : Method} {c : Code} {D : va_G} {cA : Nat → ClassId} {ad : Nat → Nat} (C : Cx p s m args c cX8_read RX8 2 D cA shC ad zsC) (hlocks : meth.locks = false) (hr : meth.sig.returnType = (some .int)) {Q : Int → St → Prop} {σ : St} (h : wp_X8_read Q σ) : G p l e rm_X8_read s m args below meth c 0 0 2 D cA shC ad (QI D cA shC ad zsC below args s Q) σ [(0, .ref (ad 0))] [] 0 := by
  unfold wp_X8_read at h
  refine g_aload_n C 0 0 rfl rfl dX8_read_0 ?_
  refine g_callVv C (m_X8_forgetReading l D cA ad h) hv_X8_forgetReading tw_X8_106 (o := 0) (ci := 8) (As := []) (st := []) rfl rfl rfl rfl ⟨Nat.le_of_ble_eq_true rfl, Nat.le_of_ble_eq_true rfl⟩ rfl rfl (Nat.le_of_ble_eq_true rfl) dX8_read_1 (fun σ1 h => ?_)
  try dsimp only at h
  refine g_aload_n C 0 0 rfl rfl dX8_read_4 ?_
  refine g_aload_n C 0 0 rfl rfl dX8_read_5 ?_
  refine g_callIv C (m_X8_parseLabel l D cA ad h) hv_X8_parseLabel tw_X8_127 (o := 0) (ci := 8) (As := []) (st := [.ref (ad 0)]) rfl rfl rfl rfl ⟨Nat.le_of_ble_eq_true rfl, Nat.le_of_ble_eq_true rfl⟩ rfl rfl (Nat.le_of_ble_eq_true rfl) dX8_read_6 (fun r3 σ2 h => ?_)
  try dsimp only at h
  refine g_put C iX8 (ci := 8) (o := 0) (z := r3) (ty := .int) rfl tyX8_ok nmX8 rfl 7 (by decide) rfl rfl tw_X8_68 rfl (by decide +kernel) rfl rfl dX8_read_9 (fun σ4 eσ4 => ?_)
  have h := h σ4 eσ4
  refine g_aload_n C 0 0 rfl rfl dX8_read_12 ?_
  refine g_get C iX8 (ci := 8) (o := 0) (v := .ref (ad 1)) rfl rfl 0 (by decide) rfl tw_X8_12 dX8_read_13 ?_
  refine g_get C iX4 (ci := 4) (o := 1) (v := vI (σ4 1 3)) rfl rfl 3 (by decide) rfl tw_X8_115 dX8_read_16 ?_
  refine g_name (fun x_5 ex_5 => ?_)
  have h := h x_5 ex_5
  refine g_istore_n C 1 [(0, .ref (ad 0))] rfl (by decide) rfl dX8_read_19 ?_
  refine g_aload_n C 1 0 rfl rfl dX8_read_20 ?_
  refine g_get C iX8 (ci := 8) (o := 0) (v := .ref (ad 1)) rfl rfl 0 (by decide) rfl tw_X8_12 dX8_read_21 ?_
  refine g_iconst C dX8_read_24 ?_
  refine g_put C iX4 (ci := 4) (o := 1) (z := 0) (ty := .int) rfl tyX4_ok nmX4 rfl 1 (by decide) rfl rfl tw_X8_78 rfl (by decide +kernel) rfl rfl dX8_read_25 (fun σ6 eσ6 => ?_)
  have h := h σ6 eσ6
  refine g_aload_n C 1 0 rfl rfl dX8_read_28 ?_
  refine g_get C iX8 (ci := 8) (o := 0) (v := vI (σ6 0 7)) rfl rfl 7 (by decide) rfl tw_X8_68 dX8_read_29 ?_
  refine g_if_eq C rfl 39 (by decide) dX8_read_32 (fun hc => ?_) (fun hc => ?_)
  · have h := h.1 hc
    refine g_aload_n C 1 0 rfl rfl dX8_read_39 ?_
    refine g_get C iX8 (ci := 8) (o := 0) (v := vI (σ6 0 8)) rfl rfl 8 (by decide) rfl tw_X8_72 dX8_read_40 ?_
    refine g_iconst C dX8_read_43 ?_
    refine g_icmp_ne C (y' := (-1)) rfl (by decide) 55 (by decide) dX8_read_44 (fun hc => ?_) (fun hc => ?_)
    · have h := h.1 hc
      refine g_aload_n C 1 0 rfl rfl dX8_read_55 ?_
      refine g_get C iX8 (ci := 8) (o := 0) (v := .ref (ad 17)) rfl rfl 4 (by decide) rfl tw_X8_46 dX8_read_56 ?_
      refine g_aload_n C 1 0 rfl rfl dX8_read_59 ?_
      refine g_get C iX8 (ci := 8) (o := 0) (v := .ref (ad 13)) rfl rfl 3 (by decide) rfl tw_X8_37 dX8_read_60 ?_
      refine g_get C iX3 (ci := 3) (o := 13) (v := .ref (ad 14)) rfl rfl 0 (by decide) rfl tw_X8_118 dX8_read_63 ?_
      refine g_callVv C (m_X0_fill l D cA ad h) hv_X0_fill tw_X8_130 (o := 17) (ci := 0) (As := [.ref (ad 14)]) (st := []) rfl rfl rfl rfl ⟨Nat.le_of_ble_eq_true rfl, Nat.le_of_ble_eq_true rfl⟩ rfl rfl (Nat.le_of_ble_eq_true rfl) dX8_read_66 (fun σ7 h => ?_)
      try dsimp only at h
      refine g_aload_n C 1 0 rfl rfl dX8_read_69 ?_
      refine g_aload_n C 1 0 rfl rfl dX8_read_70 ?_
      refine g_get C iX8 (ci := 8) (o := 0) (v := .ref (ad 17)) rfl rfl 4 (by decide) rfl tw_X8_46 dX8_read_71 ?_
      refine g_aload_n C 1 0 rfl rfl dX8_read_74 ?_
      refine g_get C iX8 (ci := 8) (o := 0) (v := vI (σ7 0 8)) rfl rfl 8 (by decide) rfl tw_X8_72 dX8_read_75 ?_
      refine g_iconst C dX8_read_78 ?_
      refine g_aload_n C 1 0 rfl rfl dX8_read_79 ?_
      refine g_get C iX8 (ci := 8) (o := 0) (v := .ref (ad 17)) rfl rfl 4 (by decide) rfl tw_X8_46 dX8_read_80 ?_
      refine g_get C iX0 (ci := 0) (o := 17) (v := vI (σ7 17 0)) rfl rfl 0 (by decide) rfl tw_X8_134 dX8_read_83 ?_
      refine g_callIv C (m_X0_initialWays l D cA ad h) hv_X0_initialWays tw_X8_135 (o := 17) (ci := 0) (As := [vI (σ7 0 8), vI 0, vI (σ7 17 0)]) (st := [.ref (ad 0)]) rfl rfl rfl rfl ⟨Nat.le_of_ble_eq_true rfl, Nat.le_of_ble_eq_true rfl⟩ rfl rfl (Nat.le_of_ble_eq_true rfl) dX8_read_86 (fun r9 σ8 h => ?_)
      try dsimp only at h
      refine g_put C iX8 (ci := 8) (o := 0) (z := r9) (ty := .int) rfl tyX8_ok nmX8 rfl 9 (by decide) rfl rfl tw_X8_75 rfl (by decide +kernel) rfl rfl dX8_read_89 (fun σ10 eσ10 => ?_)
      have h := h σ10 eσ10
      exact g_pick [1] rfl (m_X8_read_B92 C hlocks hr h)
    · have h := h.2 hc
      refine g_aload_n C 1 0 rfl rfl dX8_read_47 ?_
      refine g_iconst C dX8_read_48 ?_
      refine g_put C iX8 (ci := 8) (o := 0) (z := 0) (ty := .int) rfl tyX8_ok nmX8 rfl 9 (by decide) rfl rfl tw_X8_75 rfl (by decide +kernel) rfl rfl dX8_read_49 (fun σ11 eσ11 => ?_)
      have h := h σ11 eσ11
      refine g_goto C 92 (by decide) dX8_read_52 ?_
      exact g_pick [1] rfl (m_X8_read_B92 C hlocks hr h)
  · have h := h.2 hc
    refine g_iconst C dX8_read_35 ?_
    refine g_iload_n C 0 1 rfl rfl dX8_read_36 ?_
    refine g_isub C dX8_read_37 ?_
    exact g_iret C hlocks hr h dX8_read_38
set_option maxRecDepth 100000 in
set_option maxHeartbeats 4000000 in
theorem m_X8_read (l : Launch) (D : va_G) (cA : Nat → ClassId) (ad : Nat → Nat) {Q : Int → St → Prop} {σ : St} (h : wp_X8_read Q σ) : CtI l yX8_read (.code yX8_read cX8_read 2 (some .int)) rm_X8_read D cA shC ad zsC [.ref (ad 0)] σ Q :=
  ct_I RX8 (by decide +kernel) rfl (Nat.le_of_ble_eq_true rfl) (fun p e s m args below meth c C hlocks hr => m_X8_read_E C hlocks hr h)
abbrev rm_X6_addUse : Room := { frames := 1, cells := 0, slots := 0, locals := 0 }
set_option maxRecDepth 100000 in
set_option maxHeartbeats 4000000 in
theorem m_X6_addUse_E {p : Program} {l : Launch} {e : Env} {s : State} {m : MethodId} {args : Array Value} {below : List Frame} {meth : Method} {c : Code} {D : va_G} {cA : Nat → ClassId} {ad : Nat → Nat} (C : Cx p s m args c cX6_addUse RX6 5 D cA shC ad zsC) (hlocks : meth.locks = false) (hr : meth.sig.returnType = (some .int)) {Q : Int → St → Prop} {a1 a2 a3 : Int} {σ : St} (h : wp_X6_addUse a1 a2 a3 Q σ) : G p l e rm_X6_addUse s m args below meth c 0 0 5 D cA shC ad (QI D cA shC ad zsC below args s Q) σ [(0, .ref (ad 23)), (1, vI a1), (2, vI a2), (3, vI a3)] [] 0 := by
  unfold wp_X6_addUse at h
  refine g_aload_n C 0 0 rfl rfl dX6_addUse_0 ?_
  refine g_get C iX6 (ci := 6) (o := 23) (v := vI (σ 23 0)) rfl rfl 0 (by decide) rfl tw_X6_26 dX6_addUse_1 ?_
  refine g_name (fun x_1 ex_1 => ?_)
  have h := h x_1 ex_1
  refine g_istore C 4 [(0, .ref (ad 23)), (1, vI a1), (2, vI a2), (3, vI a3)] (by decide) rfl dX6_addUse_4 ?_
  refine g_aload_n C 1 0 rfl rfl dX6_addUse_6 ?_
  refine g_dup C rfl dX6_addUse_7 ?_
  refine g_get C iX6 (ci := 6) (o := 23) (v := vI (σ 23 0)) rfl rfl 0 (by decide) rfl tw_X6_26 dX6_addUse_8 ?_
  refine g_iconst C dX6_addUse_11 ?_
  refine g_iadd C dX6_addUse_12 ?_
  refine g_put C iX6 (ci := 6) (o := 23) (z := ((σ 23 0) + 1)) (ty := .int) rfl tyX6_ok nmX6 rfl 0 (by decide) rfl rfl tw_X6_26 rfl (by decide +kernel) rfl rfl dX6_addUse_13 (fun σ2 eσ2 => ?_)
  have h := h σ2 eσ2
  refine g_aload_n C 1 0 rfl rfl dX6_addUse_16 ?_
  refine g_get C iX6 (ci := 6) (o := 23) (v := .ref (ad 24)) rfl rfl 3 (by decide) rfl tw_X6_11 dX6_addUse_17 ?_
  refine g_iload C 0 4 rfl dX6_addUse_20 ?_
  refine g_bipush C dX6_addUse_22 (by decide) ?_
  refine g_imul C dX6_addUse_24 ?_
  refine g_iconst C dX6_addUse_25 ?_
  refine g_iadd C dX6_addUse_26 ?_
  refine g_iload_n C 2 1 rfl rfl dX6_addUse_27 ?_
  obtain ⟨hi, h⟩ := h
  refine g_iast C (o := 24) (N := 56) rfl rfl hi rfl dX6_addUse_28 (fun σ3 eσ3 => ?_)
  have h := h σ3 eσ3
  refine g_aload_n C 1 0 rfl rfl dX6_addUse_29 ?_
  refine g_get C iX6 (ci := 6) (o := 23) (v := .ref (ad 24)) rfl rfl 3 (by decide) rfl tw_X6_11 dX6_addUse_30 ?_
  refine g_iload C 0 4 rfl dX6_addUse_33 ?_
  refine g_bipush C dX6_addUse_35 (by decide) ?_
  refine g_imul C dX6_addUse_37 ?_
  refine g_iconst C dX6_addUse_38 ?_
  refine g_iadd C dX6_addUse_39 ?_
  refine g_iload_n C 3 2 rfl rfl dX6_addUse_40 ?_
  obtain ⟨hi, h⟩ := h
  refine g_iast C (o := 24) (N := 56) rfl rfl hi rfl dX6_addUse_41 (fun σ4 eσ4 => ?_)
  have h := h σ4 eσ4
  refine g_aload_n C 1 0 rfl rfl dX6_addUse_42 ?_
  refine g_get C iX6 (ci := 6) (o := 23) (v := .ref (ad 24)) rfl rfl 3 (by decide) rfl tw_X6_11 dX6_addUse_43 ?_
  refine g_iload C 0 4 rfl dX6_addUse_46 ?_
  refine g_bipush C dX6_addUse_48 (by decide) ?_
  refine g_imul C dX6_addUse_50 ?_
  refine g_iconst C dX6_addUse_51 ?_
  refine g_iadd C dX6_addUse_52 ?_
  refine g_iload_n C 4 3 rfl rfl dX6_addUse_53 ?_
  obtain ⟨hi, h⟩ := h
  refine g_iast C (o := 24) (N := 56) rfl rfl hi rfl dX6_addUse_54 (fun σ5 eσ5 => ?_)
  have h := h σ5 eσ5
  refine g_iload C 0 4 rfl dX6_addUse_55 ?_
  exact g_iret C hlocks hr h dX6_addUse_57
set_option maxRecDepth 100000 in
set_option maxHeartbeats 4000000 in
theorem m_X6_addUse (l : Launch) (D : va_G) (cA : Nat → ClassId) (ad : Nat → Nat) {a1 a2 a3 : Int} {Q : Int → St → Prop} {σ : St} (h : wp_X6_addUse a1 a2 a3 Q σ) : CtI l yX6_addUse (.code yX6_addUse cX6_addUse 5 (some .int)) rm_X6_addUse D cA shC ad zsC [.ref (ad 23), vI a1, vI a2, vI a3] σ Q :=
  ct_I RX6 (by decide +kernel) rfl (Nat.le_of_ble_eq_true rfl) (fun p e s m args below meth c C hlocks hr => m_X6_addUse_E C hlocks hr h)
abbrev rm_X6_setNodeCell : Room := { frames := 1, cells := 0, slots := 0, locals := 0 }
set_option maxRecDepth 100000 in
set_option maxHeartbeats 4000000 in
theorem m_X6_setNodeCell_E {p : Program} {l : Launch} {e : Env} {s : State} {m : MethodId} {args : Array Value} {below : List Frame} {meth : Method} {c : Code} {D : va_G} {cA : Nat → ClassId} {ad : Nat → Nat} (C : Cx p s m args c cX6_setNodeCell RX6 5 D cA shC ad zsC) (hlocks : meth.locks = false) (hr : meth.sig.returnType = none) {Q : St → Prop} {a1 a2 a3 a4 : Int} {σ : St} (h : wp_X6_setNodeCell a1 a2 a3 a4 Q σ) : G p l e rm_X6_setNodeCell s m args below meth c 0 0 5 D cA shC ad (QV D cA shC ad zsC below args s Q) σ [(0, .ref (ad 23)), (1, vI a1), (2, vI a2), (3, vI a3), (4, vI a4)] [] 0 := by
  unfold wp_X6_setNodeCell at h
  refine g_aload_n C 0 0 rfl rfl dX6_setNodeCell_0 ?_
  refine g_get C iX6 (ci := 6) (o := 23) (v := .ref (ad 25)) rfl rfl 4 (by decide) rfl tw_X6_15 dX6_setNodeCell_1 ?_
  refine g_iload_n C 1 1 rfl rfl dX6_setNodeCell_4 ?_
  refine g_bipush C dX6_setNodeCell_5 (by decide) ?_
  refine g_imul C dX6_setNodeCell_7 ?_
  refine g_iload_n C 2 2 rfl rfl dX6_setNodeCell_8 ?_
  refine g_iadd C dX6_setNodeCell_9 ?_
  refine g_bipush C dX6_setNodeCell_10 (by decide) ?_
  refine g_imul C dX6_setNodeCell_12 ?_
  refine g_iload_n C 3 3 rfl rfl dX6_setNodeCell_13 ?_
  refine g_iadd C dX6_setNodeCell_14 ?_
  refine g_iload C 4 4 rfl dX6_setNodeCell_15 ?_
  obtain ⟨hi, h⟩ := h
  refine g_iast C (o := 25) (N := 672) rfl rfl hi rfl dX6_setNodeCell_17 (fun σ1 eσ1 => ?_)
  have h := h σ1 eσ1
  exact g_vret C hlocks hr h dX6_setNodeCell_18
set_option maxRecDepth 100000 in
set_option maxHeartbeats 4000000 in
theorem m_X6_setNodeCell (l : Launch) (D : va_G) (cA : Nat → ClassId) (ad : Nat → Nat) {a1 a2 a3 a4 : Int} {Q : St → Prop} {σ : St} (h : wp_X6_setNodeCell a1 a2 a3 a4 Q σ) : CtV l yX6_setNodeCell (.code yX6_setNodeCell cX6_setNodeCell 5 none) rm_X6_setNodeCell D cA shC ad zsC [.ref (ad 23), vI a1, vI a2, vI a3, vI a4] σ Q :=
  ct_V RX6 (by decide +kernel) rfl (Nat.le_of_ble_eq_true rfl) (fun p e s m args below meth c C hlocks hr => m_X6_setNodeCell_E C hlocks hr h)
abbrev rm_X6_lay : Room := { frames := 2, cells := 0, slots := 0, locals := 24 }
set_option maxRecDepth 100000 in
set_option maxHeartbeats 4000000 in
theorem m_X6_lay_E {p : Program} {l : Launch} {e : Env} {s : State} {m : MethodId} {args : Array Value} {below : List Frame} {meth : Method} {c : Code} {D : va_G} {cA : Nat → ClassId} {ad : Nat → Nat} (C : Cx p s m args c cX6_lay RX6 8 D cA shC ad zsC) (hlocks : meth.locks = false) (hr : meth.sig.returnType = none) {Q : St → Prop} {a1 a2 a3 a4 a5 a6 a7 : Int} {σ : St} (h : wp_X6_lay a1 a2 a3 a4 a5 a6 a7 Q σ) : G p l e rm_X6_lay s m args below meth c 0 0 8 D cA shC ad (QV D cA shC ad zsC below args s Q) σ [(0, .ref (ad 23)), (1, vI a1), (2, vI a2), (3, vI a3), (4, vI a4), (5, vI a5), (6, vI a6), (7, vI a7)] [] 0 := by
  unfold wp_X6_lay at h
  refine g_aload_n C 0 0 rfl rfl dX6_lay_0 ?_
  refine g_iload_n C 1 1 rfl rfl dX6_lay_1 ?_
  refine g_iload_n C 2 2 rfl rfl dX6_lay_2 ?_
  refine g_iconst C dX6_lay_3 ?_
  refine g_iload_n C 3 3 rfl rfl dX6_lay_4 ?_
  refine g_callVv C (m_X6_setNodeCell l D cA ad h) hv_X6_setNodeCell tw_X6_69 (o := 23) (ci := 6) (As := [vI a1, vI a2, vI 3, vI a3]) (st := []) rfl rfl rfl rfl ⟨Nat.le_of_ble_eq_true rfl, Nat.le_of_ble_eq_true rfl⟩ rfl rfl (Nat.le_of_ble_eq_true rfl) dX6_lay_5 (fun σ1 h => ?_)
  try dsimp only at h
  refine g_aload_n C 0 0 rfl rfl dX6_lay_8 ?_
  refine g_iload_n C 1 1 rfl rfl dX6_lay_9 ?_
  refine g_iload_n C 2 2 rfl rfl dX6_lay_10 ?_
  refine g_iconst C dX6_lay_11 ?_
  refine g_iload C 4 4 rfl dX6_lay_12 ?_
  refine g_callVv C (m_X6_setNodeCell l D cA ad h) hv_X6_setNodeCell tw_X6_69 (o := 23) (ci := 6) (As := [vI a1, vI a2, vI 4, vI a4]) (st := []) rfl rfl rfl rfl ⟨Nat.le_of_ble_eq_true rfl, Nat.le_of_ble_eq_true rfl⟩ rfl rfl (Nat.le_of_ble_eq_true rfl) dX6_lay_14 (fun σ2 h => ?_)
  try dsimp only at h
  refine g_aload_n C 0 0 rfl rfl dX6_lay_17 ?_
  refine g_iload_n C 1 1 rfl rfl dX6_lay_18 ?_
  refine g_iload_n C 2 2 rfl rfl dX6_lay_19 ?_
  refine g_iconst C dX6_lay_20 ?_
  refine g_iload C 5 5 rfl dX6_lay_21 ?_
  refine g_callVv C (m_X6_setNodeCell l D cA ad h) hv_X6_setNodeCell tw_X6_69 (o := 23) (ci := 6) (As := [vI a1, vI a2, vI 5, vI a5]) (st := []) rfl rfl rfl rfl ⟨Nat.le_of_ble_eq_true rfl, Nat.le_of_ble_eq_true rfl⟩ rfl rfl (Nat.le_of_ble_eq_true rfl) dX6_lay_23 (fun σ3 h => ?_)
  try dsimp only at h
  refine g_aload_n C 0 0 rfl rfl dX6_lay_26 ?_
  refine g_iload_n C 1 1 rfl rfl dX6_lay_27 ?_
  refine g_iload_n C 2 2 rfl rfl dX6_lay_28 ?_
  refine g_bipush C dX6_lay_29 (by decide) ?_
  refine g_iload C 6 6 rfl dX6_lay_31 ?_
  refine g_callVv C (m_X6_setNodeCell l D cA ad h) hv_X6_setNodeCell tw_X6_69 (o := 23) (ci := 6) (As := [vI a1, vI a2, vI 6, vI a6]) (st := []) rfl rfl rfl rfl ⟨Nat.le_of_ble_eq_true rfl, Nat.le_of_ble_eq_true rfl⟩ rfl rfl (Nat.le_of_ble_eq_true rfl) dX6_lay_33 (fun σ4 h => ?_)
  try dsimp only at h
  refine g_aload_n C 0 0 rfl rfl dX6_lay_36 ?_
  refine g_iload_n C 1 1 rfl rfl dX6_lay_37 ?_
  refine g_iload_n C 2 2 rfl rfl dX6_lay_38 ?_
  refine g_iconst C dX6_lay_39 ?_
  refine g_iload C 7 7 rfl dX6_lay_40 ?_
  refine g_callVv C (m_X6_setNodeCell l D cA ad h) hv_X6_setNodeCell tw_X6_69 (o := 23) (ci := 6) (As := [vI a1, vI a2, vI 1, vI a7]) (st := []) rfl rfl rfl rfl ⟨Nat.le_of_ble_eq_true rfl, Nat.le_of_ble_eq_true rfl⟩ rfl rfl (Nat.le_of_ble_eq_true rfl) dX6_lay_42 (fun σ5 h => ?_)
  try dsimp only at h
  exact g_vret C hlocks hr h dX6_lay_45
set_option maxRecDepth 100000 in
set_option maxHeartbeats 4000000 in
theorem m_X6_lay (l : Launch) (D : va_G) (cA : Nat → ClassId) (ad : Nat → Nat) {a1 a2 a3 a4 a5 a6 a7 : Int} {Q : St → Prop} {σ : St} (h : wp_X6_lay a1 a2 a3 a4 a5 a6 a7 Q σ) : CtV l yX6_lay (.code yX6_lay cX6_lay 8 none) rm_X6_lay D cA shC ad zsC [.ref (ad 23), vI a1, vI a2, vI a3, vI a4, vI a5, vI a6, vI a7] σ Q :=
  ct_V RX6 (by decide +kernel) rfl (Nat.le_of_ble_eq_true rfl) (fun p e s m args below meth c C hlocks hr => m_X6_lay_E C hlocks hr h)
abbrev rm_X6_startInitial : Room := { frames := 3, cells := 0, slots := 0, locals := 51 }
set_option maxRecDepth 100000 in
set_option maxHeartbeats 4000000 in
theorem m_X6_startInitial_B119 {p : Program} {l : Launch} {e : Env} {s : State} {m : MethodId} {args : Array Value} {below : List Frame} {meth : Method} {c : Code} {D : va_G} {cA : Nat → ClassId} {ad : Nat → Nat} (C : Cx p s m args c cX6_startInitial RX6 11 D cA shC ad zsC) (hlocks : meth.locks = false) (hr : meth.sig.returnType = (some .int)) {Q : Int → St → Prop} {K7 : Int → Int → Int → Int → Int → Int → Int → St → Prop} (hK7 : ∀ (x1 : Int) (x2 : Int) (x3 : Int) (x4 : Int) (x5 : Int) (x7 : Int) (x8 : Int) (σ : St), K7 x1 x2 x3 x4 x5 x7 x8 σ → G p l e rm_X6_startInitial s m args below meth c 0 0 11 D cA shC ad (QI D cA shC ad zsC below args s Q) σ [(0, .ref (ad 23)), (1, vI x1), (2, vI x2), (3, vI x3), (4, vI x4), (5, vI x5), (7, vI x7), (8, vI x8)] [] 7) {x1 x2 x3 x4 x5 x7 x8 : Int} {σ : St} (h : wp_X6_startInitial_B119 K7 x1 x2 x3 x4 x5 x7 x8 Q σ) : G p l e rm_X6_startInitial s m args below meth c 0 0 11 D cA shC ad (QI D cA shC ad zsC below args s Q) σ [(0, .ref (ad 23)), (1, vI x1), (2, vI x2), (3, vI x3), (4, vI x4), (5, vI x5), (7, vI x7), (8, vI x8)] [] 119 := by
  unfold wp_X6_startInitial_B119 at h
  refine g_iinc C 7 8 [(0, .ref (ad 23)), (1, vI x1), (2, vI x2), (3, vI x3), (4, vI x4), (5, vI x5), (7, vI x7)] rfl (by decide) rfl dX6_startInitial_119 (fun x_1 ex_1 => ?_)
  have h := h x_1 ex_1
  refine g_goto C 7 (by decide) dX6_startInitial_122 ?_
  exact g_pick [1, 2, 3, 4, 5, 6, 7, 0] rfl (hK7 _ _ _ _ _ _ _ _ h)
set_option maxRecDepth 100000 in
set_option maxHeartbeats 4000000 in
theorem m_X6_startInitial_L7 {p : Program} {l : Launch} {e : Env} {s : State} {m : MethodId} {args : Array Value} {below : List Frame} {meth : Method} {c : Code} {D : va_G} {cA : Nat → ClassId} {ad : Nat → Nat} (C : Cx p s m args c cX6_startInitial RX6 11 D cA shC ad zsC) (hlocks : meth.locks = false) (hr : meth.sig.returnType = (some .int)) {Q : Int → St → Prop} : ∀ (n : Nat) (x1 : Int) (x2 : Int) (x3 : Int) (x4 : Int) (x5 : Int) (x7 : Int) (x8 : Int) (σ : St), wp_X6_startInitial_L7 Q n x1 x2 x3 x4 x5 x7 x8 σ → G p l e rm_X6_startInitial s m args below meth c 0 0 11 D cA shC ad (QI D cA shC ad zsC below args s Q) σ [(0, .ref (ad 23)), (1, vI x1), (2, vI x2), (3, vI x3), (4, vI x4), (5, vI x5), (7, vI x7), (8, vI x8)] [] 7 := by
  intro n
  induction n with
  | zero => intro _ _ _ _ _ _ _ _ h; exact h.elim
  | succ n ih =>
    intro x1 x2 x3 x4 x5 x7 x8 σ h
    simp only [wp_X6_startInitial_L7] at h
    refine g_iload C 7 8 rfl dX6_startInitial_7 ?_
    refine g_aload_n C 0 0 rfl rfl dX6_startInitial_9 ?_
    refine g_get C iX6 (ci := 6) (o := 23) (v := .ref (ad 3)) rfl rfl 1 (by decide) rfl tw_X6_18 dX6_startInitial_10 ?_
    refine g_get C iX1 (ci := 1) (o := 3) (v := vI (σ 3 4)) rfl rfl 4 (by decide) rfl tw_X6_73 dX6_startInitial_13 ?_
    refine g_icmp_ge C rfl rfl 125 (by decide) dX6_startInitial_16 (fun hc => ?_) (fun hc => ?_)
    · have h := h.1 hc
      refine g_iconst C dX6_startInitial_125 ?_
      exact g_iret C hlocks hr h dX6_startInitial_126
    · have h := h.2 hc
      refine g_aload_n C 0 0 rfl rfl dX6_startInitial_19 ?_
      refine g_get C iX6 (ci := 6) (o := 23) (v := vI (σ 23 0)) rfl rfl 0 (by decide) rfl tw_X6_26 dX6_startInitial_20 ?_
      refine g_bipush C dX6_startInitial_23 (by decide) ?_
      refine g_icmp_ge C (y' := 8) rfl (by decide) 125 (by decide) dX6_startInitial_25 (fun hc => ?_) (fun hc => ?_)
      · have h := h.1 hc
        refine g_iconst C dX6_startInitial_125 ?_
        exact g_iret C hlocks hr h dX6_startInitial_126
      · have h := h.2 hc
        refine g_aload_n C 0 0 rfl rfl dX6_startInitial_28 ?_
        refine g_get C iX6 (ci := 6) (o := 23) (v := .ref (ad 3)) rfl rfl 1 (by decide) rfl tw_X6_18 dX6_startInitial_29 ?_
        refine g_iload C 7 8 rfl dX6_startInitial_32 ?_
        refine g_callIv C (m_X1_rootLabel l D cA ad h) hv_X1_rootLabel tw_X6_76 (o := 3) (ci := 1) (As := [vI x8]) (st := []) rfl rfl rfl rfl ⟨Nat.le_of_ble_eq_true rfl, Nat.le_of_ble_eq_true rfl⟩ rfl rfl (Nat.le_of_ble_eq_true rfl) dX6_startInitial_34 (fun r2 σ1 h => ?_)
        try dsimp only at h
        refine g_iload_n C 1 1 rfl rfl dX6_startInitial_37 ?_
        refine g_icmp_ne C rfl rfl 119 (by decide) dX6_startInitial_38 (fun hc => ?_) (fun hc => ?_)
        · have h := h.1 hc
          exact g_pick [0, 1, 2, 3, 4, 5, 6, 7] rfl (m_X6_startInitial_B119 C hlocks hr (fun _ _ _ _ _ _ _ _ h => ih _ _ _ _ _ _ _ _ h) h)
        · have h := h.2 hc
          refine g_aload_n C 0 0 rfl rfl dX6_startInitial_41 ?_
          refine g_get C iX6 (ci := 6) (o := 23) (v := .ref (ad 3)) rfl rfl 1 (by decide) rfl tw_X6_18 dX6_startInitial_42 ?_
          refine g_iload C 7 8 rfl dX6_startInitial_45 ?_
          refine g_callIv C (m_X1_isAuxiliary l D cA ad h) hv_X1_isAuxiliary tw_X6_80 (o := 3) (ci := 1) (As := [vI x8]) (st := []) rfl rfl rfl rfl ⟨Nat.le_of_ble_eq_true rfl, Nat.le_of_ble_eq_true rfl⟩ rfl rfl (Nat.le_of_ble_eq_true rfl) dX6_startInitial_47 (fun r4 σ3 h => ?_)
          try dsimp only at h
          refine g_if_eq C rfl 56 (by decide) dX6_startInitial_50 (fun hc => ?_) (fun hc => ?_)
          · have h := h.1 hc
            refine g_aload_n C 0 0 rfl rfl dX6_startInitial_56 ?_
            refine g_get C iX6 (ci := 6) (o := 23) (v := .ref (ad 17)) rfl rfl 2 (by decide) rfl tw_X6_22 dX6_startInitial_57 ?_
            refine g_iload C 7 8 rfl dX6_startInitial_60 ?_
            refine g_iconst C dX6_startInitial_62 ?_
            refine g_callIs C (m_X1_row l D cA ad h) hv_X1_row tw_X6_56 (As := [vI x8, vI 0]) (st := [.ref (ad 17)]) rfl rfl ⟨Nat.le_of_ble_eq_true rfl, Nat.le_of_ble_eq_true rfl⟩ rfl rfl (Nat.le_of_ble_eq_true rfl) dX6_startInitial_63 (fun r6 σ5 h => ?_)
            try dsimp only at h
            refine g_iload C 4 4 rfl dX6_startInitial_66 ?_
            refine g_iload C 5 5 rfl dX6_startInitial_68 ?_
            refine g_iconst C dX6_startInitial_70 ?_
            refine g_iconst C dX6_startInitial_71 ?_
            refine g_callIv C (m_X0_nodeWays l D cA ad h) hv_X0_nodeWays tw_X6_84 (o := 17) (ci := 0) (As := [vI r6, vI x4, vI x5, vI (-1), vI (-1)]) (st := []) rfl rfl rfl rfl ⟨Nat.le_of_ble_eq_true rfl, Nat.le_of_ble_eq_true rfl⟩ rfl rfl (Nat.le_of_ble_eq_true rfl) dX6_startInitial_72 (fun r8 σ7 h => ?_)
            try dsimp only at h
            refine g_istore C 9 [(0, .ref (ad 23)), (1, vI x1), (2, vI x2), (3, vI x3), (4, vI x4), (5, vI x5), (7, vI x7), (8, vI x8)] (by decide) rfl dX6_startInitial_75 ?_
            refine g_iload C 7 7 rfl dX6_startInitial_77 ?_
            refine g_iload C 0 9 rfl dX6_startInitial_79 ?_
            refine g_icmp_ge C rfl rfl 112 (by decide) dX6_startInitial_81 (fun hc => ?_) (fun hc => ?_)
            · have h := h.1 hc
              refine g_iload C 7 7 rfl dX6_startInitial_112 ?_
              refine g_iload C 0 9 rfl dX6_startInitial_114 ?_
              refine g_isub C dX6_startInitial_116 ?_
              refine g_name (fun x_9 ex_9 => ?_)
              have h := h x_9 ex_9
              refine g_istore C 7 [(9, vI r8), (0, .ref (ad 23)), (1, vI x1), (2, vI x2), (3, vI x3), (4, vI x4), (5, vI x5), (8, vI x8)] (by decide) rfl dX6_startInitial_117 ?_
              exact g_pick [2, 3, 4, 5, 6, 7, 0, 8] rfl (m_X6_startInitial_B119 C hlocks hr (fun _ _ _ _ _ _ _ _ h => ih _ _ _ _ _ _ _ _ h) h)
            · have h := h.2 hc
              refine g_aload_n C 1 0 rfl rfl dX6_startInitial_84 ?_
              refine g_iload C 8 8 rfl dX6_startInitial_85 ?_
              refine g_iload_n C 3 2 rfl rfl dX6_startInitial_87 ?_
              refine g_iload_n C 4 3 rfl rfl dX6_startInitial_88 ?_
              refine g_callIv C (m_X6_addUse l D cA ad h) hv_X6_addUse tw_X6_88 (o := 23) (ci := 6) (As := [vI x8, vI x2, vI x3]) (st := []) rfl rfl rfl rfl ⟨Nat.le_of_ble_eq_true rfl, Nat.le_of_ble_eq_true rfl⟩ rfl rfl (Nat.le_of_ble_eq_true rfl) dX6_startInitial_89 (fun r11 σ10 h => ?_)
              try dsimp only at h
              refine g_istore C 10 [(9, vI r8), (0, .ref (ad 23)), (1, vI x1), (2, vI x2), (3, vI x3), (4, vI x4), (5, vI x5), (7, vI x7), (8, vI x8)] (by decide) rfl dX6_startInitial_92 ?_
              refine g_aload_n C 2 0 rfl rfl dX6_startInitial_94 ?_
              refine g_iload C 0 10 rfl dX6_startInitial_95 ?_
              refine g_iconst C dX6_startInitial_97 ?_
              refine g_iload C 6 4 rfl dX6_startInitial_98 ?_
              refine g_iload C 7 5 rfl dX6_startInitial_100 ?_
              refine g_iconst C dX6_startInitial_102 ?_
              refine g_iconst C dX6_startInitial_103 ?_
              refine g_iload C 8 7 rfl dX6_startInitial_104 ?_
              refine g_callVv C (m_X6_lay l D cA ad h) hv_X6_lay tw_X6_91 (o := 23) (ci := 6) (As := [vI r11, vI 0, vI x4, vI x5, vI (-1), vI (-1), vI x7]) (st := []) rfl rfl rfl rfl ⟨Nat.le_of_ble_eq_true rfl, Nat.le_of_ble_eq_true rfl⟩ rfl rfl (Nat.le_of_ble_eq_true rfl) dX6_startInitial_106 (fun σ12 h => ?_)
              try dsimp only at h
              refine g_iload C 0 10 rfl dX6_startInitial_109 ?_
              exact g_iret C hlocks hr h dX6_startInitial_111
          · have h := h.2 hc
            refine g_goto C 119 (by decide) dX6_startInitial_53 ?_
            exact g_pick [0, 1, 2, 3, 4, 5, 6, 7] rfl (m_X6_startInitial_B119 C hlocks hr (fun _ _ _ _ _ _ _ _ h => ih _ _ _ _ _ _ _ _ h) h)
set_option maxRecDepth 100000 in
set_option maxHeartbeats 4000000 in
theorem m_X6_startInitial_E {p : Program} {l : Launch} {e : Env} {s : State} {m : MethodId} {args : Array Value} {below : List Frame} {meth : Method} {c : Code} {D : va_G} {cA : Nat → ClassId} {ad : Nat → Nat} (C : Cx p s m args c cX6_startInitial RX6 11 D cA shC ad zsC) (hlocks : meth.locks = false) (hr : meth.sig.returnType = (some .int)) {Q : Int → St → Prop} {a1 a2 a3 a4 a5 a6 : Int} {σ : St} (h : wp_X6_startInitial a1 a2 a3 a4 a5 a6 Q σ) : G p l e rm_X6_startInitial s m args below meth c 0 0 11 D cA shC ad (QI D cA shC ad zsC below args s Q) σ [(0, .ref (ad 23)), (1, vI a1), (2, vI a2), (3, vI a3), (4, vI a4), (5, vI a5), (6, vI a6)] [] 0 := by
  unfold wp_X6_startInitial at h
  refine g_iload C 6 6 rfl dX6_startInitial_0 ?_
  refine g_istore C 7 [(0, .ref (ad 23)), (1, vI a1), (2, vI a2), (3, vI a3), (4, vI a4), (5, vI a5), (6, vI a6)] (by decide) rfl dX6_startInitial_2 ?_
  refine g_iconst C dX6_startInitial_4 ?_
  refine g_istore C 8 [(7, vI a6), (0, .ref (ad 23)), (1, vI a1), (2, vI a2), (3, vI a3), (4, vI a4), (5, vI a5), (6, vI a6)] (by decide) rfl dX6_startInitial_5 ?_
  obtain ⟨nn, h⟩ := h
  exact g_pick [2, 3, 4, 5, 6, 7, 1, 0] rfl (m_X6_startInitial_L7 C hlocks hr nn _ _ _ _ _ _ _ _ h)
set_option maxRecDepth 100000 in
set_option maxHeartbeats 4000000 in
theorem m_X6_startInitial (l : Launch) (D : va_G) (cA : Nat → ClassId) (ad : Nat → Nat) {a1 a2 a3 a4 a5 a6 : Int} {Q : Int → St → Prop} {σ : St} (h : wp_X6_startInitial a1 a2 a3 a4 a5 a6 Q σ) : CtI l yX6_startInitial (.code yX6_startInitial cX6_startInitial 11 (some .int)) rm_X6_startInitial D cA shC ad zsC [.ref (ad 23), vI a1, vI a2, vI a3, vI a4, vI a5, vI a6] σ Q :=
  ct_I RX6 (by decide +kernel) rfl (Nat.le_of_ble_eq_true rfl) (fun p e s m args below meth c C hlocks hr => m_X6_startInitial_E C hlocks hr h)
abbrev rm_X6_useCell : Room := { frames := 1, cells := 0, slots := 0, locals := 0 }
set_option maxRecDepth 100000 in
set_option maxHeartbeats 4000000 in
theorem m_X6_useCell_E {p : Program} {l : Launch} {e : Env} {s : State} {m : MethodId} {args : Array Value} {below : List Frame} {meth : Method} {c : Code} {D : va_G} {cA : Nat → ClassId} {ad : Nat → Nat} (C : Cx p s m args c cX6_useCell RX6 3 D cA shC ad zsC) (hlocks : meth.locks = false) (hr : meth.sig.returnType = (some .int)) {Q : Int → St → Prop} {a1 a2 : Int} {σ : St} (h : wp_X6_useCell a1 a2 Q σ) : G p l e rm_X6_useCell s m args below meth c 0 0 3 D cA shC ad (QI D cA shC ad zsC below args s Q) σ [(0, .ref (ad 23)), (1, vI a1), (2, vI a2)] [] 0 := by
  unfold wp_X6_useCell at h
  refine g_aload_n C 0 0 rfl rfl dX6_useCell_0 ?_
  refine g_get C iX6 (ci := 6) (o := 23) (v := .ref (ad 24)) rfl rfl 3 (by decide) rfl tw_X6_11 dX6_useCell_1 ?_
  refine g_iload_n C 1 1 rfl rfl dX6_useCell_4 ?_
  refine g_bipush C dX6_useCell_5 (by decide) ?_
  refine g_imul C dX6_useCell_7 ?_
  refine g_iload_n C 2 2 rfl rfl dX6_useCell_8 ?_
  refine g_iadd C dX6_useCell_9 ?_
  obtain ⟨hi, h⟩ := h
  refine g_iald C (o := 24) (N := 56) rfl rfl hi rfl dX6_useCell_10 ?_
  exact g_iret C hlocks hr h dX6_useCell_11
set_option maxRecDepth 100000 in
set_option maxHeartbeats 4000000 in
theorem m_X6_useCell (l : Launch) (D : va_G) (cA : Nat → ClassId) (ad : Nat → Nat) {a1 a2 : Int} {Q : Int → St → Prop} {σ : St} (h : wp_X6_useCell a1 a2 Q σ) : CtI l yX6_useCell (.code yX6_useCell cX6_useCell 3 (some .int)) rm_X6_useCell D cA shC ad zsC [.ref (ad 23), vI a1, vI a2] σ Q :=
  ct_I RX6 (by decide +kernel) rfl (Nat.le_of_ble_eq_true rfl) (fun p e s m args below meth c C hlocks hr => m_X6_useCell_E C hlocks hr h)
abbrev rm_X6_nodeCell : Room := { frames := 1, cells := 0, slots := 0, locals := 0 }
set_option maxRecDepth 100000 in
set_option maxHeartbeats 4000000 in
theorem m_X6_nodeCell_E {p : Program} {l : Launch} {e : Env} {s : State} {m : MethodId} {args : Array Value} {below : List Frame} {meth : Method} {c : Code} {D : va_G} {cA : Nat → ClassId} {ad : Nat → Nat} (C : Cx p s m args c cX6_nodeCell RX6 4 D cA shC ad zsC) (hlocks : meth.locks = false) (hr : meth.sig.returnType = (some .int)) {Q : Int → St → Prop} {a1 a2 a3 : Int} {σ : St} (h : wp_X6_nodeCell a1 a2 a3 Q σ) : G p l e rm_X6_nodeCell s m args below meth c 0 0 4 D cA shC ad (QI D cA shC ad zsC below args s Q) σ [(0, .ref (ad 23)), (1, vI a1), (2, vI a2), (3, vI a3)] [] 0 := by
  unfold wp_X6_nodeCell at h
  refine g_aload_n C 0 0 rfl rfl dX6_nodeCell_0 ?_
  refine g_get C iX6 (ci := 6) (o := 23) (v := .ref (ad 25)) rfl rfl 4 (by decide) rfl tw_X6_15 dX6_nodeCell_1 ?_
  refine g_iload_n C 1 1 rfl rfl dX6_nodeCell_4 ?_
  refine g_bipush C dX6_nodeCell_5 (by decide) ?_
  refine g_imul C dX6_nodeCell_7 ?_
  refine g_iload_n C 2 2 rfl rfl dX6_nodeCell_8 ?_
  refine g_iadd C dX6_nodeCell_9 ?_
  refine g_bipush C dX6_nodeCell_10 (by decide) ?_
  refine g_imul C dX6_nodeCell_12 ?_
  refine g_iload_n C 3 3 rfl rfl dX6_nodeCell_13 ?_
  refine g_iadd C dX6_nodeCell_14 ?_
  obtain ⟨hi, h⟩ := h
  refine g_iald C (o := 25) (N := 672) rfl rfl hi rfl dX6_nodeCell_15 ?_
  exact g_iret C hlocks hr h dX6_nodeCell_16
set_option maxRecDepth 100000 in
set_option maxHeartbeats 4000000 in
theorem m_X6_nodeCell (l : Launch) (D : va_G) (cA : Nat → ClassId) (ad : Nat → Nat) {a1 a2 a3 : Int} {Q : Int → St → Prop} {σ : St} (h : wp_X6_nodeCell a1 a2 a3 Q σ) : CtI l yX6_nodeCell (.code yX6_nodeCell cX6_nodeCell 4 (some .int)) rm_X6_nodeCell D cA shC ad zsC [.ref (ad 23), vI a1, vI a2, vI a3] σ Q :=
  ct_I RX6 (by decide +kernel) rfl (Nat.le_of_ble_eq_true rfl) (fun p e s m args below meth c C hlocks hr => m_X6_nodeCell_E C hlocks hr h)
abbrev rm_X6_tryAuxiliary : Room := { frames := 3, cells := 0, slots := 0, locals := 51 }
set_option maxRecDepth 100000 in
set_option maxHeartbeats 4000000 in
theorem m_X6_tryAuxiliary_B222 {p : Program} {l : Launch} {e : Env} {s : State} {m : MethodId} {args : Array Value} {below : List Frame} {meth : Method} {c : Code} {D : va_G} {cA : Nat → ClassId} {ad : Nat → Nat} (C : Cx p s m args c cX6_tryAuxiliary RX6 19 D cA shC ad zsC) (hlocks : meth.locks = false) (hr : meth.sig.returnType = (some .int)) {Q : Int → St → Prop} {K79 : Int → Int → Int → Int → Int → Int → Int → Int → Int → Int → Int → Int → St → Prop} (hK79 : ∀ (x1 : Int) (x2 : Int) (x3 : Int) (x4 : Int) (x5 : Int) (x6 : Int) (x7 : Int) (x8 : Int) (x9 : Int) (x10 : Int) (x11 : Int) (x12 : Int) (σ : St), K79 x1 x2 x3 x4 x5 x6 x7 x8 x9 x10 x11 x12 σ → G p l e rm_X6_tryAuxiliary s m args below meth c 0 0 19 D cA shC ad (QI D cA shC ad zsC below args s Q) σ [(0, .ref (ad 23)), (1, vI x1), (2, vI x2), (3, vI x3), (4, vI x4), (5, vI x5), (6, vI x6), (7, vI x7), (8, vI x8), (9, vI x9), (10, vI x10), (11, vI x11), (12, vI x12)] [] 79) {K98 : Int → Int → Int → Int → Int → Int → Int → Int → Int → Int → Int → Int → Int → St → Prop} (hK98 : ∀ (x1 : Int) (x2 : Int) (x3 : Int) (x4 : Int) (x5 : Int) (x6 : Int) (x7 : Int) (x8 : Int) (x9 : Int) (x10 : Int) (x11 : Int) (x12 : Int) (x13 : Int) (σ : St), K98 x1 x2 x3 x4 x5 x6 x7 x8 x9 x10 x11 x12 x13 σ → G p l e rm_X6_tryAuxiliary s m args below meth c 0 0 19 D cA shC ad (QI D cA shC ad zsC below args s Q) σ [(0, .ref (ad 23)), (1, vI x1), (2, vI x2), (3, vI x3), (4, vI x4), (5, vI x5), (6, vI x6), (7, vI x7), (8, vI x8), (9, vI x9), (10, vI x10), (11, vI x11), (12, vI x12), (13, vI x13)] [] 98) {x1 x2 x3 x4 x5 x6 x7 x8 x9 x10 x11 x12 x13 x17 : Int} {σ : St} (h : wp_X6_tryAuxiliary_B222 K79 K98 x1 x2 x3 x4 x5 x6 x7 x8 x9 x10 x11 x12 x13 x17 Q σ) : G p l e rm_X6_tryAuxiliary s m args below meth c 0 0 19 D cA shC ad (QI D cA shC ad zsC below args s Q) σ [(0, .ref (ad 23)), (1, vI x1), (2, vI x2), (3, vI x3), (4, vI x4), (5, vI x5), (6, vI x6), (7, vI x7), (8, vI x8), (9, vI x9), (10, vI x10), (11, vI x11), (12, vI x12), (13, vI x13), (17, vI x17)] [] 222 := by
  unfold wp_X6_tryAuxiliary_B222 at h
  refine g_iload C 9 9 rfl dX6_tryAuxiliary_222 ?_
  refine g_iload C 14 17 rfl dX6_tryAuxiliary_224 ?_
  refine g_isub C dX6_tryAuxiliary_226 ?_
  refine g_name (fun x_1 ex_1 => ?_)
  have h := h x_1 ex_1
  refine g_istore C 9 [(0, .ref (ad 23)), (1, vI x1), (2, vI x2), (3, vI x3), (4, vI x4), (5, vI x5), (6, vI x6), (7, vI x7), (8, vI x8), (10, vI x10), (11, vI x11), (12, vI x12), (13, vI x13), (17, vI x17)] (by decide) rfl dX6_tryAuxiliary_227 ?_
  refine g_iinc C 13 13 [(9, vI x_1), (0, .ref (ad 23)), (1, vI x1), (2, vI x2), (3, vI x3), (4, vI x4), (5, vI x5), (6, vI x6), (7, vI x7), (8, vI x8), (10, vI x10), (11, vI x11), (12, vI x12), (17, vI x17)] rfl (by decide) rfl dX6_tryAuxiliary_229 (fun x_2 ex_2 => ?_)
  have h := h x_2 ex_2
  refine g_goto C 98 (by decide) dX6_tryAuxiliary_232 ?_
  exact g_pick [2, 3, 4, 5, 6, 7, 8, 9, 10, 1, 11, 12, 13, 0] rfl (hK98 _ _ _ _ _ _ _ _ _ _ _ _ _ _ h)
set_option maxRecDepth 100000 in
set_option maxHeartbeats 4000000 in
theorem m_X6_tryAuxiliary_L98 {p : Program} {l : Launch} {e : Env} {s : State} {m : MethodId} {args : Array Value} {below : List Frame} {meth : Method} {c : Code} {D : va_G} {cA : Nat → ClassId} {ad : Nat → Nat} (C : Cx p s m args c cX6_tryAuxiliary RX6 19 D cA shC ad zsC) (hlocks : meth.locks = false) (hr : meth.sig.returnType = (some .int)) {Q : Int → St → Prop} {K79 : Int → Int → Int → Int → Int → Int → Int → Int → Int → Int → Int → Int → St → Prop} (hK79 : ∀ (x1 : Int) (x2 : Int) (x3 : Int) (x4 : Int) (x5 : Int) (x6 : Int) (x7 : Int) (x8 : Int) (x9 : Int) (x10 : Int) (x11 : Int) (x12 : Int) (σ : St), K79 x1 x2 x3 x4 x5 x6 x7 x8 x9 x10 x11 x12 σ → G p l e rm_X6_tryAuxiliary s m args below meth c 0 0 19 D cA shC ad (QI D cA shC ad zsC below args s Q) σ [(0, .ref (ad 23)), (1, vI x1), (2, vI x2), (3, vI x3), (4, vI x4), (5, vI x5), (6, vI x6), (7, vI x7), (8, vI x8), (9, vI x9), (10, vI x10), (11, vI x11), (12, vI x12)] [] 79) : ∀ (n : Nat) (x1 : Int) (x2 : Int) (x3 : Int) (x4 : Int) (x5 : Int) (x6 : Int) (x7 : Int) (x8 : Int) (x9 : Int) (x10 : Int) (x11 : Int) (x12 : Int) (x13 : Int) (σ : St), wp_X6_tryAuxiliary_L98 K79 Q n x1 x2 x3 x4 x5 x6 x7 x8 x9 x10 x11 x12 x13 σ → G p l e rm_X6_tryAuxiliary s m args below meth c 0 0 19 D cA shC ad (QI D cA shC ad zsC below args s Q) σ [(0, .ref (ad 23)), (1, vI x1), (2, vI x2), (3, vI x3), (4, vI x4), (5, vI x5), (6, vI x6), (7, vI x7), (8, vI x8), (9, vI x9), (10, vI x10), (11, vI x11), (12, vI x12), (13, vI x13)] [] 98 := by
  intro n
  induction n with
  | zero => intro _ _ _ _ _ _ _ _ _ _ _ _ _ _ h; exact h.elim
  | succ n ih =>
    intro x1 x2 x3 x4 x5 x6 x7 x8 x9 x10 x11 x12 x13 σ h
    simp only [wp_X6_tryAuxiliary_L98] at h
    refine g_iload C 13 13 rfl dX6_tryAuxiliary_98 ?_
    refine g_iload C 6 6 rfl dX6_tryAuxiliary_100 ?_
    refine g_icmp_gt C rfl rfl 235 (by decide) dX6_tryAuxiliary_102 (fun hc => ?_) (fun hc => ?_)
    · have h := h.1 hc
      refine g_iinc C 12 12 [(0, .ref (ad 23)), (1, vI x1), (2, vI x2), (3, vI x3), (4, vI x4), (5, vI x5), (6, vI x6), (7, vI x7), (8, vI x8), (9, vI x9), (10, vI x10), (11, vI x11), (13, vI x13)] rfl (by decide) rfl dX6_tryAuxiliary_235 (fun x_1 ex_1 => ?_)
      have h := h x_1 ex_1
      refine g_goto C 79 (by decide) dX6_tryAuxiliary_238 ?_
      exact g_pick [1, 2, 3, 4, 5, 6, 7, 8, 9, 10, 11, 12, 0] rfl (hK79 _ _ _ _ _ _ _ _ _ _ _ _ _ h)
    · have h := h.2 hc
      refine g_aload_n C 0 0 rfl rfl dX6_tryAuxiliary_105 ?_
      refine g_get C iX6 (ci := 6) (o := 23) (v := .ref (ad 17)) rfl rfl 2 (by decide) rfl tw_X6_22 dX6_tryAuxiliary_106 ?_
      refine g_iload C 4 4 rfl dX6_tryAuxiliary_109 ?_
      refine g_iconst C dX6_tryAuxiliary_111 ?_
      refine g_callIs C (m_X1_row l D cA ad h) hv_X1_row tw_X6_56 (As := [vI x4, vI 0]) (st := [.ref (ad 17)]) rfl rfl ⟨Nat.le_of_ble_eq_true rfl, Nat.le_of_ble_eq_true rfl⟩ rfl rfl (Nat.le_of_ble_eq_true rfl) dX6_tryAuxiliary_112 (fun r3 σ2 h => ?_)
      try dsimp only at h
      refine g_iload C 5 5 rfl dX6_tryAuxiliary_115 ?_
      refine g_iload C 6 6 rfl dX6_tryAuxiliary_117 ?_
      refine g_iload C 12 12 rfl dX6_tryAuxiliary_119 ?_
      refine g_iload C 13 13 rfl dX6_tryAuxiliary_121 ?_
      refine g_callIv C (m_X0_nodeWays l D cA ad h) hv_X0_nodeWays tw_X6_84 (o := 17) (ci := 0) (As := [vI r3, vI x5, vI x6, vI x12, vI x13]) (st := []) rfl rfl rfl rfl ⟨Nat.le_of_ble_eq_true rfl, Nat.le_of_ble_eq_true rfl⟩ rfl rfl (Nat.le_of_ble_eq_true rfl) dX6_tryAuxiliary_123 (fun r5 σ4 h => ?_)
      try dsimp only at h
      refine g_i2l C rfl dX6_tryAuxiliary_126 ?_
      refine g_nameL (fun x_6 ex_6 => ?_)
      have h := h x_6 ex_6
      refine g_lstore C 14 [(0, .ref (ad 23)), (1, vI x1), (2, vI x2), (3, vI x3), (4, vI x4), (5, vI x5), (6, vI x6), (7, vI x7), (8, vI x8), (9, vI x9), (10, vI x10), (11, vI x11), (12, vI x12), (13, vI x13)] (by decide) rfl dX6_tryAuxiliary_127 ?_
      refine g_aload_n C 1 0 rfl rfl dX6_tryAuxiliary_129 ?_
      refine g_get C iX6 (ci := 6) (o := 23) (v := .ref (ad 17)) rfl rfl 2 (by decide) rfl tw_X6_22 dX6_tryAuxiliary_130 ?_
      refine g_iload_n C 4 3 rfl rfl dX6_tryAuxiliary_133 ?_
      refine g_iload C 13 12 rfl dX6_tryAuxiliary_134 ?_
      refine g_iload C 14 13 rfl dX6_tryAuxiliary_136 ?_
      refine g_iload C 8 7 rfl dX6_tryAuxiliary_138 ?_
      refine g_iload C 9 8 rfl dX6_tryAuxiliary_140 ?_
      refine g_callIv C (m_X0_partsWays l D cA ad h) hv_X0_partsWays tw_X6_95 (o := 17) (ci := 0) (As := [vI x3, vI x12, vI x13, vI x7, vI x8]) (st := []) rfl rfl rfl rfl ⟨Nat.le_of_ble_eq_true rfl, Nat.le_of_ble_eq_true rfl⟩ rfl rfl (Nat.le_of_ble_eq_true rfl) dX6_tryAuxiliary_142 (fun r8 σ7 h => ?_)
      try dsimp only at h
      refine g_istore C 16 [(14, vL x_6), (0, .ref (ad 23)), (1, vI x1), (2, vI x2), (3, vI x3), (4, vI x4), (5, vI x5), (6, vI x6), (7, vI x7), (8, vI x8), (9, vI x9), (10, vI x10), (11, vI x11), (12, vI x12), (13, vI x13)] (by decide) rfl dX6_tryAuxiliary_145 ?_
      refine g_lload C 1 14 rfl dX6_tryAuxiliary_147 ?_
      refine g_iload C 0 16 rfl dX6_tryAuxiliary_149 ?_
      refine g_i2l C rfl dX6_tryAuxiliary_151 ?_
      refine g_lmul C dX6_tryAuxiliary_152 ?_
      refine g_callIs C (m_X0_cut l D cA ad h) hv_X0_cut tw_X6_113 (As := [vL (x_6 * (w32 r8))]) (st := []) rfl rfl ⟨Nat.le_of_ble_eq_true rfl, Nat.le_of_ble_eq_true rfl⟩ rfl rfl (Nat.le_of_ble_eq_true rfl) dX6_tryAuxiliary_153 (fun r10 σ9 h => ?_)
      try dsimp only at h
      refine g_istore C 17 [(16, vI r8), (14, vL x_6), (0, .ref (ad 23)), (1, vI x1), (2, vI x2), (3, vI x3), (4, vI x4), (5, vI x5), (6, vI x6), (7, vI x7), (8, vI x8), (9, vI x9), (10, vI x10), (11, vI x11), (12, vI x12), (13, vI x13)] (by decide) rfl dX6_tryAuxiliary_156 ?_
      refine g_iload C 1 16 rfl dX6_tryAuxiliary_158 ?_
      refine g_if_le C rfl 222 (by decide) dX6_tryAuxiliary_160 (fun hc => ?_) (fun hc => ?_)
      · have h := h.1 hc
        exact g_pick [3, 4, 5, 6, 7, 8, 9, 10, 11, 12, 13, 14, 15, 16, 0] rfl (m_X6_tryAuxiliary_B222 C hlocks hr hK79 (fun _ _ _ _ _ _ _ _ _ _ _ _ _ _ h => ih _ _ _ _ _ _ _ _ _ _ _ _ _ _ h) h)
      · have h := h.2 hc
        refine g_iload C 12 9 rfl dX6_tryAuxiliary_163 ?_
        refine g_iload C 0 17 rfl dX6_tryAuxiliary_165 ?_
        refine g_icmp_ge C rfl rfl 222 (by decide) dX6_tryAuxiliary_167 (fun hc => ?_) (fun hc => ?_)
        · have h := h.1 hc
          exact g_pick [3, 4, 5, 6, 7, 8, 9, 10, 11, 12, 13, 14, 15, 16, 0] rfl (m_X6_tryAuxiliary_B222 C hlocks hr hK79 (fun _ _ _ _ _ _ _ _ _ _ _ _ _ _ h => ih _ _ _ _ _ _ _ _ _ _ _ _ _ _ h) h)
        · have h := h.2 hc
          refine g_aload_n C 3 0 rfl rfl dX6_tryAuxiliary_170 ?_
          refine g_iload C 7 4 rfl dX6_tryAuxiliary_171 ?_
          refine g_iload_n C 4 1 rfl rfl dX6_tryAuxiliary_173 ?_
          refine g_iload_n C 5 2 rfl rfl dX6_tryAuxiliary_174 ?_
          refine g_callIv C (m_X6_addUse l D cA ad h) hv_X6_addUse tw_X6_88 (o := 23) (ci := 6) (As := [vI x4, vI x1, vI x2]) (st := []) rfl rfl rfl rfl ⟨Nat.le_of_ble_eq_true rfl, Nat.le_of_ble_eq_true rfl⟩ rfl rfl (Nat.le_of_ble_eq_true rfl) dX6_tryAuxiliary_175 (fun r12 σ11 h => ?_)
          try dsimp only at h
          refine g_istore C 18 [(17, vI r10), (16, vI r8), (14, vL x_6), (0, .ref (ad 23)), (1, vI x1), (2, vI x2), (3, vI x3), (4, vI x4), (5, vI x5), (6, vI x6), (7, vI x7), (8, vI x8), (9, vI x9), (10, vI x10), (11, vI x11), (12, vI x12), (13, vI x13)] (by decide) rfl dX6_tryAuxiliary_178 ?_
          refine g_aload_n C 4 0 rfl rfl dX6_tryAuxiliary_180 ?_
          refine g_iload C 0 18 rfl dX6_tryAuxiliary_181 ?_
          refine g_iconst C dX6_tryAuxiliary_183 ?_
          refine g_iload C 9 5 rfl dX6_tryAuxiliary_184 ?_
          refine g_iload C 10 6 rfl dX6_tryAuxiliary_186 ?_
          refine g_iload C 16 12 rfl dX6_tryAuxiliary_188 ?_
          refine g_iload C 17 13 rfl dX6_tryAuxiliary_190 ?_
          refine g_iload C 13 9 rfl dX6_tryAuxiliary_192 ?_
          refine g_iload C 2 16 rfl dX6_tryAuxiliary_194 ?_
          obtain ⟨hi, h⟩ := h
          refine g_idiv C hi dX6_tryAuxiliary_196 ?_
          refine g_callVv C (m_X6_lay l D cA ad h) hv_X6_lay tw_X6_91 (o := 23) (ci := 6) (As := [vI r12, vI 0, vI x5, vI x6, vI x12, vI x13, vI (iDiv x9 r8)]) (st := []) rfl rfl rfl rfl ⟨Nat.le_of_ble_eq_true rfl, Nat.le_of_ble_eq_true rfl⟩ rfl rfl (Nat.le_of_ble_eq_true rfl) dX6_tryAuxiliary_197 (fun σ13 h => ?_)
          try dsimp only at h
          refine g_aload_n C 4 0 rfl rfl dX6_tryAuxiliary_200 ?_
          refine g_iload_n C 5 1 rfl rfl dX6_tryAuxiliary_201 ?_
          refine g_iload_n C 6 2 rfl rfl dX6_tryAuxiliary_202 ?_
          refine g_iload C 16 12 rfl dX6_tryAuxiliary_203 ?_
          refine g_iload C 17 13 rfl dX6_tryAuxiliary_205 ?_
          refine g_iload C 11 7 rfl dX6_tryAuxiliary_207 ?_
          refine g_iload C 12 8 rfl dX6_tryAuxiliary_209 ?_
          refine g_iload C 13 9 rfl dX6_tryAuxiliary_211 ?_
          refine g_iload C 2 16 rfl dX6_tryAuxiliary_213 ?_
          obtain ⟨hi, h⟩ := h
          refine g_irem C hi dX6_tryAuxiliary_215 ?_
          refine g_callVv C (m_X6_lay l D cA ad h) hv_X6_lay tw_X6_91 (o := 23) (ci := 6) (As := [vI x1, vI x2, vI x12, vI x13, vI x7, vI x8, vI (iRem x9 r8)]) (st := []) rfl rfl rfl rfl ⟨Nat.le_of_ble_eq_true rfl, Nat.le_of_ble_eq_true rfl⟩ rfl rfl (Nat.le_of_ble_eq_true rfl) dX6_tryAuxiliary_216 (fun σ14 h => ?_)
          try dsimp only at h
          refine g_iload C 0 18 rfl dX6_tryAuxiliary_219 ?_
          exact g_iret C hlocks hr h dX6_tryAuxiliary_221
set_option maxRecDepth 100000 in
set_option maxHeartbeats 4000000 in
theorem m_X6_tryAuxiliary_L79 {p : Program} {l : Launch} {e : Env} {s : State} {m : MethodId} {args : Array Value} {below : List Frame} {meth : Method} {c : Code} {D : va_G} {cA : Nat → ClassId} {ad : Nat → Nat} (C : Cx p s m args c cX6_tryAuxiliary RX6 19 D cA shC ad zsC) (hlocks : meth.locks = false) (hr : meth.sig.returnType = (some .int)) {Q : Int → St → Prop} : ∀ (n : Nat) (x1 : Int) (x2 : Int) (x3 : Int) (x4 : Int) (x5 : Int) (x6 : Int) (x7 : Int) (x8 : Int) (x9 : Int) (x10 : Int) (x11 : Int) (x12 : Int) (σ : St), wp_X6_tryAuxiliary_L79 Q n x1 x2 x3 x4 x5 x6 x7 x8 x9 x10 x11 x12 σ → G p l e rm_X6_tryAuxiliary s m args below meth c 0 0 19 D cA shC ad (QI D cA shC ad zsC below args s Q) σ [(0, .ref (ad 23)), (1, vI x1), (2, vI x2), (3, vI x3), (4, vI x4), (5, vI x5), (6, vI x6), (7, vI x7), (8, vI x8), (9, vI x9), (10, vI x10), (11, vI x11), (12, vI x12)] [] 79 := by
  intro n
  induction n with
  | zero => intro _ _ _ _ _ _ _ _ _ _ _ _ _ h; exact h.elim
  | succ n ih =>
    intro x1 x2 x3 x4 x5 x6 x7 x8 x9 x10 x11 x12 σ h
    simp only [wp_X6_tryAuxiliary_L79] at h
    refine g_iload C 12 12 rfl dX6_tryAuxiliary_79 ?_
    refine g_iload C 11 11 rfl dX6_tryAuxiliary_81 ?_
    refine g_icmp_gt C rfl rfl 241 (by decide) dX6_tryAuxiliary_83 (fun hc => ?_) (fun hc => ?_)
    · have h := h.1 hc
      refine g_aload_n C 0 0 rfl rfl dX6_tryAuxiliary_241 ?_
      refine g_iload_n C 1 1 rfl rfl dX6_tryAuxiliary_242 ?_
      refine g_iload_n C 2 2 rfl rfl dX6_tryAuxiliary_243 ?_
      refine g_iconst C dX6_tryAuxiliary_244 ?_
      refine g_iload C 9 9 rfl dX6_tryAuxiliary_245 ?_
      refine g_callVv C (m_X6_setNodeCell l D cA ad h) hv_X6_setNodeCell tw_X6_69 (o := 23) (ci := 6) (As := [vI x1, vI x2, vI 1, vI x9]) (st := []) rfl rfl rfl rfl ⟨Nat.le_of_ble_eq_true rfl, Nat.le_of_ble_eq_true rfl⟩ rfl rfl (Nat.le_of_ble_eq_true rfl) dX6_tryAuxiliary_247 (fun σ1 h => ?_)
      try dsimp only at h
      refine g_iconst C dX6_tryAuxiliary_250 ?_
      exact g_iret C hlocks hr h dX6_tryAuxiliary_251
    · have h := h.2 hc
      refine g_iload C 12 12 rfl dX6_tryAuxiliary_86 ?_
      refine g_iload C 10 10 rfl dX6_tryAuxiliary_88 ?_
      refine g_iadd C dX6_tryAuxiliary_90 ?_
      refine g_iload C 8 8 rfl dX6_tryAuxiliary_91 ?_
      refine g_max C tw_X6_108 tw_maxS tw_maxI tw_maxC (Nat.le_of_ble_eq_true rfl) (Nat.le_of_ble_eq_true rfl) dX6_tryAuxiliary_93 ?_
      refine g_name (fun x_2 ex_2 => ?_)
      have h := h x_2 ex_2
      refine g_istore C 13 [(0, .ref (ad 23)), (1, vI x1), (2, vI x2), (3, vI x3), (4, vI x4), (5, vI x5), (6, vI x6), (7, vI x7), (8, vI x8), (9, vI x9), (10, vI x10), (11, vI x11), (12, vI x12)] (by decide) rfl dX6_tryAuxiliary_96 ?_
      obtain ⟨nn, h⟩ := h
      exact g_pick [1, 2, 3, 4, 5, 6, 7, 8, 9, 10, 11, 12, 13, 0] rfl (m_X6_tryAuxiliary_L98 C hlocks hr (fun _ _ _ _ _ _ _ _ _ _ _ _ _ h => ih _ _ _ _ _ _ _ _ _ _ _ _ _ h) nn _ _ _ _ _ _ _ _ _ _ _ _ _ _ h)
