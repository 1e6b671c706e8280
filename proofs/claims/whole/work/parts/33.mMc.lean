abbrev rm_X9_isFor : Room := { frames := 1, cells := 0, slots := 0, locals := 0 }
set_option maxRecDepth 100000 in
set_option maxHeartbeats 4000000 in
theorem m_X9_isFor_E {p : Program} {l : Launch} {e : Env} {s : State} {m : MethodId} {args : Array Value} {below : List Frame} {meth : Method} {c : Code} {D : va_G} {cA : Nat → ClassId} {ad : Nat → Nat} (C : Cx p s m args c cX9_isFor RX9 4 D cA shM ad zsM) (hlocks : meth.locks = false) (hr : meth.sig.returnType = (some .boolean)) {Q : Int → St → Prop} {a1 a2 a3 : Int} {σ : St} (h : wp_X9_isFor a1 a2 a3 Q σ) : G p l e rm_X9_isFor s m args below meth c 0 0 4 D cA shM ad (QI D cA shM ad zsM below args s Q) σ [(0, .ref (ad 0)), (1, vI a1), (2, vI a2), (3, vI a3)] [] 0 := by
  unfold wp_X9_isFor at h
  refine g_aload_n C 0 0 rfl rfl dX9_isFor_0 ?_
  refine g_get C iX9 (ci := 9) (o := 0) (v := .ref (ad 7)) rfl rfl 12 (by decide) rfl tw_X9_29 dX9_isFor_1 ?_
  refine g_bipush C dX9_isFor_4 (by decide) ?_
  refine g_iload_n C 1 1 rfl rfl dX9_isFor_6 ?_
  refine g_imul C dX9_isFor_7 ?_
  obtain ⟨hi, h⟩ := h
  refine g_iald C (o := 7) (N := 204) rfl rfl hi rfl dX9_isFor_8 ?_
  refine g_aload_n C 0 0 rfl rfl dX9_isFor_9 ?_
  refine g_get C iX9 (ci := 9) (o := 0) (v := .ref (ad 7)) rfl rfl 12 (by decide) rfl tw_X9_29 dX9_isFor_10 ?_
  refine g_iload_n C 2 2 rfl rfl dX9_isFor_13 ?_
  obtain ⟨hi, h⟩ := h
  refine g_iald C (o := 7) (N := 204) rfl rfl hi rfl dX9_isFor_14 ?_
  refine g_icmp_ne C rfl rfl 35 (by decide) dX9_isFor_15 (fun hc => ?_) (fun hc => ?_)
  · have h := h.1 hc
    refine g_iconst C dX9_isFor_35 ?_
    exact g_zret C hlocks hr (by decide) h dX9_isFor_36
  · have h := h.2 hc
    refine g_aload_n C 0 0 rfl rfl dX9_isFor_18 ?_
    refine g_get C iX9 (ci := 9) (o := 0) (v := .ref (ad 13)) rfl rfl 18 (by decide) rfl tw_X9_47 dX9_isFor_19 ?_
    refine g_bipush C dX9_isFor_22 (by decide) ?_
    refine g_iload_n C 1 1 rfl rfl dX9_isFor_24 ?_
    refine g_imul C dX9_isFor_25 ?_
    obtain ⟨hi, h⟩ := h
    refine g_zald C (o := 13) (N := 204) rfl rfl hi rfl dX9_isFor_26 ?_
    refine g_iload_n C 3 3 rfl rfl dX9_isFor_27 ?_
    refine g_icmp_ne C rfl rfl 35 (by decide) dX9_isFor_28 (fun hc => ?_) (fun hc => ?_)
    · have h := h.1 hc
      refine g_iconst C dX9_isFor_35 ?_
      exact g_zret C hlocks hr (by decide) h dX9_isFor_36
    · have h := h.2 hc
      refine g_iconst C dX9_isFor_31 ?_
      refine g_goto C 36 (by decide) dX9_isFor_32 ?_
      exact g_zret C hlocks hr (by decide) h dX9_isFor_36
set_option maxRecDepth 100000 in
set_option maxHeartbeats 4000000 in
theorem m_X9_isFor (l : Launch) (D : va_G) (cA : Nat → ClassId) (ad : Nat → Nat) {a1 a2 a3 : Int} {Q : Int → St → Prop} {σ : St} (h : wp_X9_isFor a1 a2 a3 Q σ) : CtI l yX9_isFor (.code yX9_isFor cX9_isFor 4 (some .boolean)) rm_X9_isFor D cA shM ad zsM [.ref (ad 0), vI a1, vI a2, vI a3] σ Q :=
  ct_I RX9 (by decide +kernel) rfl (Nat.le_of_ble_eq_true rfl) (fun p e s m args below meth c C hlocks hr => m_X9_isFor_E C hlocks hr h)
abbrev rm_X9_lie : Room := { frames := 2, cells := 0, slots := 0, locals := 23 }
set_option maxRecDepth 100000 in
set_option maxHeartbeats 4000000 in
theorem m_X9_lie_B38 {p : Program} {l : Launch} {e : Env} {s : State} {m : MethodId} {args : Array Value} {below : List Frame} {meth : Method} {c : Code} {D : va_G} {cA : Nat → ClassId} {ad : Nat → Nat} (C : Cx p s m args c cX9_lie RX9 6 D cA shM ad zsM) (hlocks : meth.locks = false) (hr : meth.sig.returnType = (some .long)) {Q : Int → St → Prop} {y1 y3 : Int} {σ : St} (h : wp_X9_lie_B38 y1 y3 Q σ) : G p l e rm_X9_lie s m args below meth c 0 0 6 D cA shM ad (QL D cA shM ad zsM below args s Q) σ [] [vI y3, .ref (ad 20), vI y1, .ref (ad 21)] 38 := by
  unfold wp_X9_lie_B38 at h
  obtain ⟨hi, h⟩ := h
  refine g_iald C (o := 20) (N := 6561) rfl rfl hi rfl dX9_lie_38 ?_
  refine g_iadd C dX9_lie_39 ?_
  obtain ⟨hi, h⟩ := h
  refine g_lald C (o := 21) (N := 95040) rfl rfl hi rfl dX9_lie_40 ?_
  exact g_lret C hlocks hr h dX9_lie_41
set_option maxRecDepth 100000 in
set_option maxHeartbeats 4000000 in
theorem m_X9_lie_E {p : Program} {l : Launch} {e : Env} {s : State} {m : MethodId} {args : Array Value} {below : List Frame} {meth : Method} {c : Code} {D : va_G} {cA : Nat → ClassId} {ad : Nat → Nat} (C : Cx p s m args c cX9_lie RX9 6 D cA shM ad zsM) (hlocks : meth.locks = false) (hr : meth.sig.returnType = (some .long)) {Q : Int → St → Prop} {a1 a2 a3 a4 a5 : Int} {σ : St} (h : wp_X9_lie a1 a2 a3 a4 a5 Q σ) : G p l e rm_X9_lie s m args below meth c 0 0 6 D cA shM ad (QL D cA shM ad zsM below args s Q) σ [(0, .ref (ad 0)), (1, vI a1), (2, vI a2), (3, vI a3), (4, vI a4), (5, vI a5)] [] 0 := by
  unfold wp_X9_lie at h
  refine g_aload_n C 0 0 rfl rfl dX9_lie_0 ?_
  refine g_get C iX9 (ci := 9) (o := 0) (v := .ref (ad 21)) rfl rfl 39 (by decide) rfl tw_X9_79 dX9_lie_1 ?_
  refine g_sipush C dX9_lie_4 (by decide) ?_
  refine g_iload_n C 1 1 rfl rfl dX9_lie_7 ?_
  refine g_imul C dX9_lie_8 ?_
  refine g_aload_n C 0 0 rfl rfl dX9_lie_9 ?_
  refine g_get C iX9 (ci := 9) (o := 0) (v := .ref (ad 20)) rfl rfl 38 (by decide) rfl tw_X9_75 dX9_lie_10 ?_
  refine g_iload_n C 3 3 rfl rfl dX9_lie_13 ?_
  refine g_iconst C dX9_lie_14 ?_
  refine g_icmp_ne C (y' := (-1)) rfl (by decide) 29 (by decide) dX9_lie_15 (fun hc => ?_) (fun hc => ?_)
  · have h := h.1 hc
    refine g_iload_n C 2 2 rfl rfl dX9_lie_29 ?_
    refine g_iload_n C 3 3 rfl rfl dX9_lie_30 ?_
    refine g_iload C 4 4 rfl dX9_lie_31 ?_
    refine g_iload C 5 5 rfl dX9_lie_33 ?_
    refine g_callIs C (m_X9_key l D cA ad h) hv_X9_key tw_X9_223 (As := [vI a2, vI a3, vI a4, vI a5]) (st := [.ref (ad 20), vI (495 * a1), .ref (ad 21)]) rfl rfl ⟨Nat.le_of_ble_eq_true rfl, Nat.le_of_ble_eq_true rfl⟩ rfl rfl (Nat.le_of_ble_eq_true rfl) dX9_lie_35 (fun r2 σ1 h => ?_)
    try dsimp only at h
    exact g_pick [] rfl (m_X9_lie_B38 C hlocks hr h)
  · have h := h.2 hc
    refine g_iload_n C 2 2 rfl rfl dX9_lie_18 ?_
    refine g_iload_n C 2 2 rfl rfl dX9_lie_19 ?_
    refine g_iload_n C 2 2 rfl rfl dX9_lie_20 ?_
    refine g_iload C 5 5 rfl dX9_lie_21 ?_
    refine g_callIs C (m_X9_key l D cA ad h) hv_X9_key tw_X9_223 (As := [vI a2, vI a2, vI a2, vI a5]) (st := [.ref (ad 20), vI (495 * a1), .ref (ad 21)]) rfl rfl ⟨Nat.le_of_ble_eq_true rfl, Nat.le_of_ble_eq_true rfl⟩ rfl rfl (Nat.le_of_ble_eq_true rfl) dX9_lie_23 (fun r4 σ3 h => ?_)
    try dsimp only at h
    refine g_goto C 38 (by decide) dX9_lie_26 ?_
    exact g_pick [] rfl (m_X9_lie_B38 C hlocks hr h)
set_option maxRecDepth 100000 in
set_option maxHeartbeats 4000000 in
theorem m_X9_lie (l : Launch) (D : va_G) (cA : Nat → ClassId) (ad : Nat → Nat) {a1 a2 a3 a4 a5 : Int} {Q : Int → St → Prop} {σ : St} (h : wp_X9_lie a1 a2 a3 a4 a5 Q σ) : CtL l yX9_lie (.code yX9_lie cX9_lie 6 (some .long)) rm_X9_lie D cA shM ad zsM [.ref (ad 0), vI a1, vI a2, vI a3, vI a4, vI a5] σ Q :=
  ct_L RX9 (by decide +kernel) rfl (Nat.le_of_ble_eq_true rfl) (fun p e s m args below meth c C hlocks hr => m_X9_lie_E C hlocks hr h)
abbrev rm_X9_least : Room := { frames := 1, cells := 0, slots := 0, locals := 0 }
set_option maxRecDepth 100000 in
set_option maxHeartbeats 4000000 in
theorem m_X9_least_E {p : Program} {l : Launch} {e : Env} {s : State} {m : MethodId} {args : Array Value} {below : List Frame} {meth : Method} {c : Code} {D : va_G} {cA : Nat → ClassId} {ad : Nat → Nat} (C : Cx p s m args c cX9_least RX9 2 D cA shM ad zsM) (hlocks : meth.locks = false) (hr : meth.sig.returnType = (some .long)) {Q : Int → St → Prop} {a0 : Int} {σ : St} (h : wp_X9_least a0 Q σ) : G p l e rm_X9_least s m args below meth c 0 0 2 D cA shM ad (QL D cA shM ad zsM below args s Q) σ [(0, vL a0)] [] 0 := by
  unfold wp_X9_least at h
  refine g_lload_n C 0 0 rfl rfl dX9_least_0 ?_
  refine g_ldc2 C (n := 1000000000) tw_X9_227 dX9_least_1 ?_
  refine g_lcmp C dX9_least_4 ?_
  refine g_if_le C rfl 14 (by decide) dX9_least_5 (fun hc => ?_) (fun hc => ?_)
  · have h := h.1 hc
    refine g_lload_n C 0 0 rfl rfl dX9_least_14 ?_
    exact g_lret C hlocks hr h dX9_least_15
  · have h := h.2 hc
    refine g_ldc2 C (n := 1000000000) tw_X9_227 dX9_least_8 ?_
    refine g_goto C 15 (by decide) dX9_least_11 ?_
    exact g_lret C hlocks hr h dX9_least_15
set_option maxRecDepth 100000 in
set_option maxHeartbeats 4000000 in
theorem m_X9_least (l : Launch) (D : va_G) (cA : Nat → ClassId) (ad : Nat → Nat) {a0 : Int} {Q : Int → St → Prop} {σ : St} (h : wp_X9_least a0 Q σ) : CtL l yX9_least (.code yX9_least cX9_least 2 (some .long)) rm_X9_least D cA shM ad zsM [vL a0] σ Q :=
  ct_L RX9 (by decide +kernel) rfl (Nat.le_of_ble_eq_true rfl) (fun p e s m args below meth c C hlocks hr => m_X9_least_E C hlocks hr h)
abbrev rm_X9_set : Room := { frames := 3, cells := 0, slots := 0, locals := 48 }
set_option maxRecDepth 100000 in
set_option maxHeartbeats 4000000 in
theorem m_X9_set_E {p : Program} {l : Launch} {e : Env} {s : State} {m : MethodId} {args : Array Value} {below : List Frame} {meth : Method} {c : Code} {D : va_G} {cA : Nat → ClassId} {ad : Nat → Nat} (C : Cx p s m args c cX9_set RX9 9 D cA shM ad zsM) (hlocks : meth.locks = false) (hr : meth.sig.returnType = (some .long)) {Q : Int → St → Prop} {a1 a2 a3 a4 a5 a6 a7 a8 : Int} {σ : St} (h : wp_X9_set a1 a2 a3 a4 a5 a6 a7 a8 Q σ) : G p l e rm_X9_set s m args below meth c 0 0 9 D cA shM ad (QL D cA shM ad zsM below args s Q) σ [(0, .ref (ad 0)), (1, vI a1), (2, vI a2), (3, vI a3), (4, vI a4), (5, vI a5), (6, vI a6), (7, vI a7), (8, vI a8)] [] 0 := by
  unfold wp_X9_set at h
  refine g_aload_n C 0 0 rfl rfl dX9_set_0 ?_
  refine g_bipush C dX9_set_1 (by decide) ?_
  refine g_iload_n C 2 2 rfl rfl dX9_set_3 ?_
  refine g_imul C dX9_set_4 ?_
  refine g_iload_n C 3 3 rfl rfl dX9_set_5 ?_
  refine g_iload C 4 4 rfl dX9_set_6 ?_
  refine g_iload C 5 5 rfl dX9_set_8 ?_
  refine g_iload C 6 6 rfl dX9_set_10 ?_
  refine g_callLv C (m_X9_lie l D cA ad h) hv_X9_lie tw_X9_229 (o := 0) (ci := 9) (As := [vI (12 * a2), vI a3, vI a4, vI a5, vI a6]) (st := []) rfl rfl rfl rfl ⟨Nat.le_of_ble_eq_true rfl, Nat.le_of_ble_eq_true rfl⟩ rfl rfl (Nat.le_of_ble_eq_true rfl) dX9_set_12 (fun r2 σ1 h => ?_)
  try dsimp only at h
  refine g_aload_n C 0 0 rfl rfl dX9_set_15 ?_
  refine g_aload_n C 0 0 rfl rfl dX9_set_16 ?_
  refine g_get C iX9 (ci := 9) (o := 0) (v := .ref (ad 12)) rfl rfl 17 (by decide) rfl tw_X9_44 dX9_set_17 ?_
  refine g_iload_n C 1 1 rfl rfl dX9_set_20 ?_
  obtain ⟨hi, h⟩ := h
  refine g_iald C (o := 12) (N := 204) rfl rfl hi rfl dX9_set_21 ?_
  refine g_iload C 4 4 rfl dX9_set_22 ?_
  refine g_iload C 7 7 rfl dX9_set_24 ?_
  refine g_iload C 8 8 rfl dX9_set_26 ?_
  refine g_iload C 5 5 rfl dX9_set_28 ?_
  refine g_callLv C (m_X9_run l D cA ad h) hv_X9_run tw_X9_233 (o := 0) (ci := 9) (As := [vI (σ1 12 (w32 a1).toNat), vI a4, vI a7, vI a8, vI a5]) (st := [vL r2]) rfl rfl rfl rfl ⟨Nat.le_of_ble_eq_true rfl, Nat.le_of_ble_eq_true rfl⟩ rfl rfl (Nat.le_of_ble_eq_true rfl) dX9_set_30 (fun r4 σ3 h => ?_)
  try dsimp only at h
  refine g_lmul C dX9_set_33 ?_
  refine g_callLs C (m_X9_least l D cA ad h) hv_X9_least tw_X9_236 (As := [vL (r2 * r4)]) (st := []) rfl rfl ⟨Nat.le_of_ble_eq_true rfl, Nat.le_of_ble_eq_true rfl⟩ rfl rfl (Nat.le_of_ble_eq_true rfl) dX9_set_34 (fun r6 σ5 h => ?_)
  try dsimp only at h
  exact g_lret C hlocks hr h dX9_set_37
set_option maxRecDepth 100000 in
set_option maxHeartbeats 4000000 in
theorem m_X9_set (l : Launch) (D : va_G) (cA : Nat → ClassId) (ad : Nat → Nat) {a1 a2 a3 a4 a5 a6 a7 a8 : Int} {Q : Int → St → Prop} {σ : St} (h : wp_X9_set a1 a2 a3 a4 a5 a6 a7 a8 Q σ) : CtL l yX9_set (.code yX9_set cX9_set 9 (some .long)) rm_X9_set D cA shM ad zsM [.ref (ad 0), vI a1, vI a2, vI a3, vI a4, vI a5, vI a6, vI a7, vI a8] σ Q :=
  ct_L RX9 (by decide +kernel) rfl (Nat.le_of_ble_eq_true rfl) (fun p e s m args below meth c C hlocks hr => m_X9_set_E C hlocks hr h)
abbrev rm_X9_reckonLie : Room := { frames := 4, cells := 0, slots := 0, locals := 76 }
set_option maxRecDepth 100000 in
set_option maxHeartbeats 4000000 in
theorem m_X9_reckonLie_B278 {p : Program} {l : Launch} {e : Env} {s : State} {m : MethodId} {args : Array Value} {below : List Frame} {meth : Method} {c : Code} {D : va_G} {cA : Nat → ClassId} {ad : Nat → Nat} (C : Cx p s m args c cX9_reckonLie RX9 11 D cA shM ad zsM) (hlocks : meth.locks = false) (hr : meth.sig.returnType = (some .long)) {Q : Int → St → Prop} {K168 : Int → Int → Int → Int → Int → Int → Int → St → Prop} (hK168 : ∀ (x1 : Int) (x2 : Int) (x3 : Int) (x4 : Int) (x5 : Int) (x6 : Int) (x8 : Int) (σ : St), K168 x1 x2 x3 x4 x5 x6 x8 σ → G p l e rm_X9_reckonLie s m args below meth c 0 0 11 D cA shM ad (QL D cA shM ad zsM below args s Q) σ [(0, .ref (ad 0)), (1, vI x1), (2, vI x2), (3, vI x3), (4, vI x4), (5, vI x5), (6, vL x6), (8, vI x8)] [] 168) {x1 x2 x3 x4 x5 x6 x8 : Int} {σ : St} (h : wp_X9_reckonLie_B278 K168 x1 x2 x3 x4 x5 x6 x8 Q σ) : G p l e rm_X9_reckonLie s m args below meth c 0 0 11 D cA shM ad (QL D cA shM ad zsM below args s Q) σ [(0, .ref (ad 0)), (1, vI x1), (2, vI x2), (3, vI x3), (4, vI x4), (5, vI x5), (6, vL x6), (8, vI x8)] [] 278 := by
  unfold wp_X9_reckonLie_B278 at h
  refine g_iinc C 7 8 [(0, .ref (ad 0)), (1, vI x1), (2, vI x2), (3, vI x3), (4, vI x4), (5, vI x5), (6, vL x6)] rfl (by decide) rfl dX9_reckonLie_278 (fun x_1 ex_1 => ?_)
  have h := h x_1 ex_1
  refine g_goto C 168 (by decide) dX9_reckonLie_281 ?_
  exact g_pick [1, 2, 3, 4, 5, 6, 7, 0] rfl (hK168 _ _ _ _ _ _ _ _ h)
set_option maxRecDepth 100000 in
set_option maxHeartbeats 4000000 in
theorem m_X9_reckonLie_L234 {p : Program} {l : Launch} {e : Env} {s : State} {m : MethodId} {args : Array Value} {below : List Frame} {meth : Method} {c : Code} {D : va_G} {cA : Nat → ClassId} {ad : Nat → Nat} (C : Cx p s m args c cX9_reckonLie RX9 11 D cA shM ad zsM) (hlocks : meth.locks = false) (hr : meth.sig.returnType = (some .long)) {Q : Int → St → Prop} {K168 : Int → Int → Int → Int → Int → Int → Int → St → Prop} (hK168 : ∀ (x1 : Int) (x2 : Int) (x3 : Int) (x4 : Int) (x5 : Int) (x6 : Int) (x8 : Int) (σ : St), K168 x1 x2 x3 x4 x5 x6 x8 σ → G p l e rm_X9_reckonLie s m args below meth c 0 0 11 D cA shM ad (QL D cA shM ad zsM below args s Q) σ [(0, .ref (ad 0)), (1, vI x1), (2, vI x2), (3, vI x3), (4, vI x4), (5, vI x5), (6, vL x6), (8, vI x8)] [] 168) {K204 : Int → Int → Int → Int → Int → Int → Int → Int → St → Prop} (hK204 : ∀ (x1 : Int) (x2 : Int) (x3 : Int) (x4 : Int) (x5 : Int) (x6 : Int) (x8 : Int) (x9 : Int) (σ : St), K204 x1 x2 x3 x4 x5 x6 x8 x9 σ → G p l e rm_X9_reckonLie s m args below meth c 0 0 11 D cA shM ad (QL D cA shM ad zsM below args s Q) σ [(0, .ref (ad 0)), (1, vI x1), (2, vI x2), (3, vI x3), (4, vI x4), (5, vI x5), (6, vL x6), (8, vI x8), (9, vI x9)] [] 204) : ∀ (n : Nat) (x1 : Int) (x2 : Int) (x3 : Int) (x4 : Int) (x5 : Int) (x6 : Int) (x8 : Int) (x9 : Int) (x10 : Int) (σ : St), wp_X9_reckonLie_L234 K168 K204 Q n x1 x2 x3 x4 x5 x6 x8 x9 x10 σ → G p l e rm_X9_reckonLie s m args below meth c 0 0 11 D cA shM ad (QL D cA shM ad zsM below args s Q) σ [(0, .ref (ad 0)), (1, vI x1), (2, vI x2), (3, vI x3), (4, vI x4), (5, vI x5), (6, vL x6), (8, vI x8), (9, vI x9), (10, vI x10)] [] 234 := by
  intro n
  induction n with
  | zero => intro _ _ _ _ _ _ _ _ _ _ h; exact h.elim
  | succ n ih =>
    intro x1 x2 x3 x4 x5 x6 x8 x9 x10 σ h
    simp only [wp_X9_reckonLie_L234] at h
    refine g_iload C 9 10 rfl dX9_reckonLie_234 ?_
    refine g_iload C 5 5 rfl dX9_reckonLie_236 ?_
    refine g_icmp_gt C rfl rfl 272 (by decide) dX9_reckonLie_238 (fun hc => ?_) (fun hc => ?_)
    · have h := h.1 hc
      refine g_iinc C 8 9 [(0, .ref (ad 0)), (1, vI x1), (2, vI x2), (3, vI x3), (4, vI x4), (5, vI x5), (6, vL x6), (8, vI x8), (10, vI x10)] rfl (by decide) rfl dX9_reckonLie_272 (fun x_1 ex_1 => ?_)
      have h := h x_1 ex_1
      refine g_goto C 204 (by decide) dX9_reckonLie_275 ?_
      exact g_pick [1, 2, 3, 4, 5, 6, 7, 8, 0] rfl (hK204 _ _ _ _ _ _ _ _ _ h)
    · have h := h.2 hc
      refine g_lload C 6 6 rfl dX9_reckonLie_241 ?_
      refine g_aload_n C 0 0 rfl rfl dX9_reckonLie_243 ?_
      refine g_iload_n C 1 1 rfl rfl dX9_reckonLie_244 ?_
      refine g_iload C 7 8 rfl dX9_reckonLie_245 ?_
      refine g_iload_n C 2 2 rfl rfl dX9_reckonLie_247 ?_
      refine g_iload C 8 9 rfl dX9_reckonLie_248 ?_
      refine g_iload C 9 10 rfl dX9_reckonLie_250 ?_
      refine g_iload C 5 5 rfl dX9_reckonLie_252 ?_
      refine g_iload_n C 3 3 rfl rfl dX9_reckonLie_254 ?_
      refine g_iload C 4 4 rfl dX9_reckonLie_255 ?_
      refine g_callLv C (m_X9_set l D cA ad h) hv_X9_set tw_X9_251 (o := 0) (ci := 9) (As := [vI x1, vI x8, vI x2, vI x9, vI x10, vI x5, vI x3, vI x4]) (st := [vL x6]) rfl rfl rfl rfl ⟨Nat.le_of_ble_eq_true rfl, Nat.le_of_ble_eq_true rfl⟩ rfl rfl (Nat.le_of_ble_eq_true rfl) dX9_reckonLie_257 (fun r3 σ2 h => ?_)
      try dsimp only at h
      refine g_ladd C dX9_reckonLie_260 ?_
      refine g_callLs C (m_X9_least l D cA ad h) hv_X9_least tw_X9_236 (As := [vL (x6 + r3)]) (st := []) rfl rfl ⟨Nat.le_of_ble_eq_true rfl, Nat.le_of_ble_eq_true rfl⟩ rfl rfl (Nat.le_of_ble_eq_true rfl) dX9_reckonLie_261 (fun r5 σ4 h => ?_)
      try dsimp only at h
      refine g_lstore C 6 [(0, .ref (ad 0)), (1, vI x1), (2, vI x2), (3, vI x3), (4, vI x4), (5, vI x5), (8, vI x8), (9, vI x9), (10, vI x10)] (by decide) rfl dX9_reckonLie_264 ?_
      refine g_iinc C 9 10 [(6, vL r5), (0, .ref (ad 0)), (1, vI x1), (2, vI x2), (3, vI x3), (4, vI x4), (5, vI x5), (8, vI x8), (9, vI x9)] rfl (by decide) rfl dX9_reckonLie_266 (fun x_6 ex_6 => ?_)
      have h := h x_6 ex_6
      refine g_goto C 234 (by decide) dX9_reckonLie_269 ?_
      exact g_pick [2, 3, 4, 5, 6, 7, 1, 8, 9, 0] rfl (ih _ _ _ _ _ _ _ _ _ _ h)
set_option maxRecDepth 100000 in
set_option maxHeartbeats 4000000 in
theorem m_X9_reckonLie_B232 {p : Program} {l : Launch} {e : Env} {s : State} {m : MethodId} {args : Array Value} {below : List Frame} {meth : Method} {c : Code} {D : va_G} {cA : Nat → ClassId} {ad : Nat → Nat} (C : Cx p s m args c cX9_reckonLie RX9 11 D cA shM ad zsM) (hlocks : meth.locks = false) (hr : meth.sig.returnType = (some .long)) {Q : Int → St → Prop} {K168 : Int → Int → Int → Int → Int → Int → Int → St → Prop} (hK168 : ∀ (x1 : Int) (x2 : Int) (x3 : Int) (x4 : Int) (x5 : Int) (x6 : Int) (x8 : Int) (σ : St), K168 x1 x2 x3 x4 x5 x6 x8 σ → G p l e rm_X9_reckonLie s m args below meth c 0 0 11 D cA shM ad (QL D cA shM ad zsM below args s Q) σ [(0, .ref (ad 0)), (1, vI x1), (2, vI x2), (3, vI x3), (4, vI x4), (5, vI x5), (6, vL x6), (8, vI x8)] [] 168) {K204 : Int → Int → Int → Int → Int → Int → Int → Int → St → Prop} (hK204 : ∀ (x1 : Int) (x2 : Int) (x3 : Int) (x4 : Int) (x5 : Int) (x6 : Int) (x8 : Int) (x9 : Int) (σ : St), K204 x1 x2 x3 x4 x5 x6 x8 x9 σ → G p l e rm_X9_reckonLie s m args below meth c 0 0 11 D cA shM ad (QL D cA shM ad zsM below args s Q) σ [(0, .ref (ad 0)), (1, vI x1), (2, vI x2), (3, vI x3), (4, vI x4), (5, vI x5), (6, vL x6), (8, vI x8), (9, vI x9)] [] 204) {x1 x2 x3 x4 x5 x6 x8 x9 y0 : Int} {σ : St} (h : wp_X9_reckonLie_B232 K168 K204 x1 x2 x3 x4 x5 x6 x8 x9 y0 Q σ) : G p l e rm_X9_reckonLie s m args below meth c 0 0 11 D cA shM ad (QL D cA shM ad zsM below args s Q) σ [(0, .ref (ad 0)), (1, vI x1), (2, vI x2), (3, vI x3), (4, vI x4), (5, vI x5), (6, vL x6), (8, vI x8), (9, vI x9)] [vI y0] 232 := by
  unfold wp_X9_reckonLie_B232 at h
  refine g_istore C 10 [(0, .ref (ad 0)), (1, vI x1), (2, vI x2), (3, vI x3), (4, vI x4), (5, vI x5), (6, vL x6), (8, vI x8), (9, vI x9)] (by decide) rfl dX9_reckonLie_232 ?_
  obtain ⟨nn, h⟩ := h
  exact g_pick [1, 2, 3, 4, 5, 6, 7, 8, 9, 0] rfl (m_X9_reckonLie_L234 C hlocks hr hK168 hK204 nn _ _ _ _ _ _ _ _ _ _ h)
set_option maxRecDepth 100000 in
set_option maxHeartbeats 4000000 in
theorem m_X9_reckonLie_B217 {p : Program} {l : Launch} {e : Env} {s : State} {m : MethodId} {args : Array Value} {below : List Frame} {meth : Method} {c : Code} {D : va_G} {cA : Nat → ClassId} {ad : Nat → Nat} (C : Cx p s m args c cX9_reckonLie RX9 11 D cA shM ad zsM) (hlocks : meth.locks = false) (hr : meth.sig.returnType = (some .long)) {Q : Int → St → Prop} {K168 : Int → Int → Int → Int → Int → Int → Int → St → Prop} (hK168 : ∀ (x1 : Int) (x2 : Int) (x3 : Int) (x4 : Int) (x5 : Int) (x6 : Int) (x8 : Int) (σ : St), K168 x1 x2 x3 x4 x5 x6 x8 σ → G p l e rm_X9_reckonLie s m args below meth c 0 0 11 D cA shM ad (QL D cA shM ad zsM below args s Q) σ [(0, .ref (ad 0)), (1, vI x1), (2, vI x2), (3, vI x3), (4, vI x4), (5, vI x5), (6, vL x6), (8, vI x8)] [] 168) {K204 : Int → Int → Int → Int → Int → Int → Int → Int → St → Prop} (hK204 : ∀ (x1 : Int) (x2 : Int) (x3 : Int) (x4 : Int) (x5 : Int) (x6 : Int) (x8 : Int) (x9 : Int) (σ : St), K204 x1 x2 x3 x4 x5 x6 x8 x9 σ → G p l e rm_X9_reckonLie s m args below meth c 0 0 11 D cA shM ad (QL D cA shM ad zsM below args s Q) σ [(0, .ref (ad 0)), (1, vI x1), (2, vI x2), (3, vI x3), (4, vI x4), (5, vI x5), (6, vL x6), (8, vI x8), (9, vI x9)] [] 204) {x1 x2 x3 x4 x5 x6 x8 x9 y0 y1 : Int} {σ : St} (h : wp_X9_reckonLie_B217 K168 K204 x1 x2 x3 x4 x5 x6 x8 x9 y0 y1 Q σ) : G p l e rm_X9_reckonLie s m args below meth c 0 0 11 D cA shM ad (QL D cA shM ad zsM below args s Q) σ [(0, .ref (ad 0)), (1, vI x1), (2, vI x2), (3, vI x3), (4, vI x4), (5, vI x5), (6, vL x6), (8, vI x8), (9, vI x9)] [vI y1, vI y0] 217 := by
  unfold wp_X9_reckonLie_B217 at h
  refine g_icmp_gt C rfl rfl 278 (by decide) dX9_reckonLie_217 (fun hc => ?_) (fun hc => ?_)
  · have h := h.1 hc
    exact g_pick [0, 1, 2, 3, 4, 5, 6, 7] rfl (m_X9_reckonLie_B278 C hlocks hr hK168 h)
  · have h := h.2 hc
    refine g_iload_n C 3 3 rfl rfl dX9_reckonLie_220 ?_
    refine g_iconst C dX9_reckonLie_221 ?_
    refine g_icmp_ne C (y' := (-1)) rfl (by decide) 230 (by decide) dX9_reckonLie_222 (fun hc => ?_) (fun hc => ?_)
    · have h := h.1 hc
      refine g_iload C 4 4 rfl dX9_reckonLie_230 ?_
      exact g_pick [0, 1, 2, 3, 4, 5, 6, 7, 8] rfl (m_X9_reckonLie_B232 C hlocks hr hK168 hK204 h)
    · have h := h.2 hc
      refine g_iload C 8 9 rfl dX9_reckonLie_225 ?_
      refine g_goto C 232 (by decide) dX9_reckonLie_227 ?_
      exact g_pick [0, 1, 2, 3, 4, 5, 6, 7, 8] rfl (m_X9_reckonLie_B232 C hlocks hr hK168 hK204 h)
set_option maxRecDepth 100000 in
set_option maxHeartbeats 4000000 in
theorem m_X9_reckonLie_L204 {p : Program} {l : Launch} {e : Env} {s : State} {m : MethodId} {args : Array Value} {below : List Frame} {meth : Method} {c : Code} {D : va_G} {cA : Nat → ClassId} {ad : Nat → Nat} (C : Cx p s m args c cX9_reckonLie RX9 11 D cA shM ad zsM) (hlocks : meth.locks = false) (hr : meth.sig.returnType = (some .long)) {Q : Int → St → Prop} {K168 : Int → Int → Int → Int → Int → Int → Int → St → Prop} (hK168 : ∀ (x1 : Int) (x2 : Int) (x3 : Int) (x4 : Int) (x5 : Int) (x6 : Int) (x8 : Int) (σ : St), K168 x1 x2 x3 x4 x5 x6 x8 σ → G p l e rm_X9_reckonLie s m args below meth c 0 0 11 D cA shM ad (QL D cA shM ad zsM below args s Q) σ [(0, .ref (ad 0)), (1, vI x1), (2, vI x2), (3, vI x3), (4, vI x4), (5, vI x5), (6, vL x6), (8, vI x8)] [] 168) : ∀ (n : Nat) (x1 : Int) (x2 : Int) (x3 : Int) (x4 : Int) (x5 : Int) (x6 : Int) (x8 : Int) (x9 : Int) (σ : St), wp_X9_reckonLie_L204 K168 Q n x1 x2 x3 x4 x5 x6 x8 x9 σ → G p l e rm_X9_reckonLie s m args below meth c 0 0 11 D cA shM ad (QL D cA shM ad zsM below args s Q) σ [(0, .ref (ad 0)), (1, vI x1), (2, vI x2), (3, vI x3), (4, vI x4), (5, vI x5), (6, vL x6), (8, vI x8), (9, vI x9)] [] 204 := by
  intro n
  induction n with
  | zero => intro _ _ _ _ _ _ _ _ _ h; exact h.elim
  | succ n ih =>
    intro x1 x2 x3 x4 x5 x6 x8 x9 σ h
    simp only [wp_X9_reckonLie_L204] at h
    refine g_iload C 8 9 rfl dX9_reckonLie_204 ?_
    refine g_iload_n C 3 3 rfl rfl dX9_reckonLie_206 ?_
    refine g_iconst C dX9_reckonLie_207 ?_
    refine g_icmp_ne C (y' := (-1)) rfl (by decide) 216 (by decide) dX9_reckonLie_208 (fun hc => ?_) (fun hc => ?_)
    · have h := h.1 hc
      refine g_iload_n C 3 3 rfl rfl dX9_reckonLie_216 ?_
      exact g_pick [0, 1, 2, 3, 4, 5, 6, 7, 8] rfl (m_X9_reckonLie_B217 C hlocks hr hK168 (fun _ _ _ _ _ _ _ _ _ h => ih _ _ _ _ _ _ _ _ _ h) h)
    · have h := h.2 hc
      refine g_iload C 5 5 rfl dX9_reckonLie_211 ?_
      refine g_goto C 217 (by decide) dX9_reckonLie_213 ?_
      exact g_pick [0, 1, 2, 3, 4, 5, 6, 7, 8] rfl (m_X9_reckonLie_B217 C hlocks hr hK168 (fun _ _ _ _ _ _ _ _ _ h => ih _ _ _ _ _ _ _ _ _ h) h)
set_option maxRecDepth 100000 in
set_option maxHeartbeats 4000000 in
theorem m_X9_reckonLie_L168 {p : Program} {l : Launch} {e : Env} {s : State} {m : MethodId} {args : Array Value} {below : List Frame} {meth : Method} {c : Code} {D : va_G} {cA : Nat → ClassId} {ad : Nat → Nat} (C : Cx p s m args c cX9_reckonLie RX9 11 D cA shM ad zsM) (hlocks : meth.locks = false) (hr : meth.sig.returnType = (some .long)) {Q : Int → St → Prop} : ∀ (n : Nat) (x1 : Int) (x2 : Int) (x3 : Int) (x4 : Int) (x5 : Int) (x6 : Int) (x8 : Int) (σ : St), wp_X9_reckonLie_L168 Q n x1 x2 x3 x4 x5 x6 x8 σ → G p l e rm_X9_reckonLie s m args below meth c 0 0 11 D cA shM ad (QL D cA shM ad zsM below args s Q) σ [(0, .ref (ad 0)), (1, vI x1), (2, vI x2), (3, vI x3), (4, vI x4), (5, vI x5), (6, vL x6), (8, vI x8)] [] 168 := by
  intro n
  induction n with
  | zero => intro _ _ _ _ _ _ _ _ h; exact h.elim
  | succ n ih =>
    intro x1 x2 x3 x4 x5 x6 x8 σ h
    simp only [wp_X9_reckonLie_L168] at h
    refine g_iload C 7 8 rfl dX9_reckonLie_168 ?_
    refine g_aload_n C 0 0 rfl rfl dX9_reckonLie_170 ?_
    refine g_get C iX9 (ci := 9) (o := 0) (v := vI (σ 0 23)) rfl rfl 23 (by decide) rfl tw_X9_154 dX9_reckonLie_171 ?_
    refine g_icmp_ge C rfl rfl 284 (by decide) dX9_reckonLie_174 (fun hc => ?_) (fun hc => ?_)
    · have h := h.1 hc
      refine g_lload C 6 6 rfl dX9_reckonLie_284 ?_
      exact g_lret C hlocks hr h dX9_reckonLie_286
    · have h := h.2 hc
      refine g_aload_n C 0 0 rfl rfl dX9_reckonLie_177 ?_
      refine g_get C iX9 (ci := 9) (o := 0) (v := .ref (ad 10)) rfl rfl 15 (by decide) rfl tw_X9_38 dX9_reckonLie_178 ?_
      refine g_iload_n C 1 1 rfl rfl dX9_reckonLie_181 ?_
      obtain ⟨hi, h⟩ := h
      refine g_iald C (o := 10) (N := 204) rfl rfl hi rfl dX9_reckonLie_182 ?_
      refine g_iconst C dX9_reckonLie_183 ?_
      refine g_icmp_eq C (y' := 2) rfl (by decide) 284 (by decide) dX9_reckonLie_184 (fun hc => ?_) (fun hc => ?_)
      · have h := h.1 hc
        refine g_lload C 6 6 rfl dX9_reckonLie_284 ?_
        exact g_lret C hlocks hr h dX9_reckonLie_286
      · have h := h.2 hc
        refine g_aload_n C 0 0 rfl rfl dX9_reckonLie_187 ?_
        refine g_iload C 7 8 rfl dX9_reckonLie_188 ?_
        refine g_iload_n C 1 1 rfl rfl dX9_reckonLie_190 ?_
        refine g_iconst C dX9_reckonLie_191 ?_
        refine g_callIv C (m_X9_isFor l D cA ad h) hv_X9_isFor tw_X9_247 (o := 0) (ci := 9) (As := [vI x8, vI x1, vI 1]) (st := []) rfl rfl rfl rfl ⟨Nat.le_of_ble_eq_true rfl, Nat.le_of_ble_eq_true rfl⟩ rfl rfl (Nat.le_of_ble_eq_true rfl) dX9_reckonLie_192 (fun r2 σ1 h => ?_)
        try dsimp only at h
        refine g_if_ne C rfl 201 (by decide) dX9_reckonLie_195 (fun hc => ?_) (fun hc => ?_)
        · have h := h.1 hc
          refine g_iload_n C 2 2 rfl rfl dX9_reckonLie_201 ?_
          refine g_istore C 9 [(0, .ref (ad 0)), (1, vI x1), (2, vI x2), (3, vI x3), (4, vI x4), (5, vI x5), (6, vL x6), (8, vI x8)] (by decide) rfl dX9_reckonLie_202 ?_
          obtain ⟨nn, h⟩ := h
          exact g_pick [1, 2, 3, 4, 5, 6, 7, 8, 0] rfl (m_X9_reckonLie_L204 C hlocks hr (fun _ _ _ _ _ _ _ _ h => ih _ _ _ _ _ _ _ _ h) nn _ _ _ _ _ _ _ _ _ h)
        · have h := h.2 hc
          refine g_goto C 278 (by decide) dX9_reckonLie_198 ?_
          exact g_pick [0, 1, 2, 3, 4, 5, 6, 7] rfl (m_X9_reckonLie_B278 C hlocks hr (fun _ _ _ _ _ _ _ _ h => ih _ _ _ _ _ _ _ _ h) h)
set_option maxRecDepth 100000 in
set_option maxHeartbeats 4000000 in
theorem m_X9_reckonLie_B163 {p : Program} {l : Launch} {e : Env} {s : State} {m : MethodId} {args : Array Value} {below : List Frame} {meth : Method} {c : Code} {D : va_G} {cA : Nat → ClassId} {ad : Nat → Nat} (C : Cx p s m args c cX9_reckonLie RX9 11 D cA shM ad zsM) (hlocks : meth.locks = false) (hr : meth.sig.returnType = (some .long)) {Q : Int → St → Prop} {x1 x2 x3 x4 x5 y0 : Int} {σ : St} (h : wp_X9_reckonLie_B163 x1 x2 x3 x4 x5 y0 Q σ) : G p l e rm_X9_reckonLie s m args below meth c 0 0 11 D cA shM ad (QL D cA shM ad zsM below args s Q) σ [(0, .ref (ad 0)), (1, vI x1), (2, vI x2), (3, vI x3), (4, vI x4), (5, vI x5)] [vL y0] 163 := by
  unfold wp_X9_reckonLie_B163 at h
  refine g_lstore C 6 [(0, .ref (ad 0)), (1, vI x1), (2, vI x2), (3, vI x3), (4, vI x4), (5, vI x5)] (by decide) rfl dX9_reckonLie_163 ?_
  refine g_iconst C dX9_reckonLie_165 ?_
  refine g_istore C 8 [(6, vL y0), (0, .ref (ad 0)), (1, vI x1), (2, vI x2), (3, vI x3), (4, vI x4), (5, vI x5)] (by decide) rfl dX9_reckonLie_166 ?_
  obtain ⟨nn, h⟩ := h
  exact g_pick [2, 3, 4, 5, 6, 7, 1, 0] rfl (m_X9_reckonLie_L168 C hlocks hr nn _ _ _ _ _ _ _ _ h)
set_option maxRecDepth 100000 in
set_option maxHeartbeats 4000000 in
theorem m_X9_reckonLie_B31 {p : Program} {l : Launch} {e : Env} {s : State} {m : MethodId} {args : Array Value} {below : List Frame} {meth : Method} {c : Code} {D : va_G} {cA : Nat → ClassId} {ad : Nat → Nat} (C : Cx p s m args c cX9_reckonLie RX9 11 D cA shM ad zsM) (hlocks : meth.locks = false) (hr : meth.sig.returnType = (some .long)) {Q : Int → St → Prop} {σ : St} (h : wp_X9_reckonLie_B31 Q σ) : G p l e rm_X9_reckonLie s m args below meth c 0 0 11 D cA shM ad (QL D cA shM ad zsM below args s Q) σ [] [] 31 := by
  unfold wp_X9_reckonLie_B31 at h
  refine g_lconst C 0 (by decide) dX9_reckonLie_31 ?_
  exact g_lret C hlocks hr h dX9_reckonLie_32
set_option maxRecDepth 100000 in
set_option maxHeartbeats 4000000 in
theorem m_X9_reckonLie_B59 {p : Program} {l : Launch} {e : Env} {s : State} {m : MethodId} {args : Array Value} {below : List Frame} {meth : Method} {c : Code} {D : va_G} {cA : Nat → ClassId} {ad : Nat → Nat} (C : Cx p s m args c cX9_reckonLie RX9 11 D cA shM ad zsM) (hlocks : meth.locks = false) (hr : meth.sig.returnType = (some .long)) {Q : Int → St → Prop} {σ : St} (h : wp_X9_reckonLie_B59 Q σ) : G p l e rm_X9_reckonLie s m args below meth c 0 0 11 D cA shM ad (QL D cA shM ad zsM below args s Q) σ [] [] 59 := by
  unfold wp_X9_reckonLie_B59 at h
  refine g_lconst C 0 (by decide) dX9_reckonLie_59 ?_
  exact g_lret C hlocks hr h dX9_reckonLie_60
set_option maxRecDepth 100000 in
set_option maxHeartbeats 4000000 in
theorem m_X9_reckonLie_B122 {p : Program} {l : Launch} {e : Env} {s : State} {m : MethodId} {args : Array Value} {below : List Frame} {meth : Method} {c : Code} {D : va_G} {cA : Nat → ClassId} {ad : Nat → Nat} (C : Cx p s m args c cX9_reckonLie RX9 11 D cA shM ad zsM) (hlocks : meth.locks = false) (hr : meth.sig.returnType = (some .long)) {Q : Int → St → Prop} {K77 : Int → Int → Int → Int → Int → St → Prop} (hK77 : ∀ (x1 : Int) (x2 : Int) (x5 : Int) (x6 : Int) (x8 : Int) (σ : St), K77 x1 x2 x5 x6 x8 σ → G p l e rm_X9_reckonLie s m args below meth c 0 0 11 D cA shM ad (QL D cA shM ad zsM below args s Q) σ [(0, .ref (ad 0)), (1, vI x1), (2, vI x2), (5, vI x5), (6, vL x6), (8, vI x8)] [] 77) {x1 x2 x5 x8 y0 : Int} {σ : St} (h : wp_X9_reckonLie_B122 K77 x1 x2 x5 x8 y0 Q σ) : G p l e rm_X9_reckonLie s m args below meth c 0 0 11 D cA shM ad (QL D cA shM ad zsM below args s Q) σ [(0, .ref (ad 0)), (1, vI x1), (2, vI x2), (5, vI x5), (8, vI x8)] [vL y0] 122 := by
  unfold wp_X9_reckonLie_B122 at h
  refine g_lstore C 6 [(0, .ref (ad 0)), (1, vI x1), (2, vI x2), (5, vI x5), (8, vI x8)] (by decide) rfl dX9_reckonLie_122 ?_
  refine g_iinc C 5 8 [(6, vL y0), (0, .ref (ad 0)), (1, vI x1), (2, vI x2), (5, vI x5)] rfl (by decide) rfl dX9_reckonLie_124 (fun x_1 ex_1 => ?_)
  have h := h x_1 ex_1
  refine g_goto C 77 (by decide) dX9_reckonLie_127 ?_
  exact g_pick [2, 3, 4, 5, 1, 0] rfl (hK77 _ _ _ _ _ _ h)
set_option maxRecDepth 100000 in
set_option maxHeartbeats 4000000 in
theorem m_X9_reckonLie_L77 {p : Program} {l : Launch} {e : Env} {s : State} {m : MethodId} {args : Array Value} {below : List Frame} {meth : Method} {c : Code} {D : va_G} {cA : Nat → ClassId} {ad : Nat → Nat} (C : Cx p s m args c cX9_reckonLie RX9 11 D cA shM ad zsM) (hlocks : meth.locks = false) (hr : meth.sig.returnType = (some .long)) {Q : Int → St → Prop} : ∀ (n : Nat) (x1 : Int) (x2 : Int) (x5 : Int) (x6 : Int) (x8 : Int) (σ : St), wp_X9_reckonLie_L77 Q n x1 x2 x5 x6 x8 σ → G p l e rm_X9_reckonLie s m args below meth c 0 0 11 D cA shM ad (QL D cA shM ad zsM below args s Q) σ [(0, .ref (ad 0)), (1, vI x1), (2, vI x2), (5, vI x5), (6, vL x6), (8, vI x8)] [] 77 := by
  intro n
  induction n with
  | zero => intro _ _ _ _ _ _ h; exact h.elim
  | succ n ih =>
    intro x1 x2 x5 x6 x8 σ h
    simp only [wp_X9_reckonLie_L77] at h
    refine g_iload C 5 8 rfl dX9_reckonLie_77 ?_
    refine g_aload_n C 0 0 rfl rfl dX9_reckonLie_79 ?_
    refine g_get C iX9 (ci := 9) (o := 0) (v := vI (σ 0 23)) rfl rfl 23 (by decide) rfl tw_X9_154 dX9_reckonLie_80 ?_
    refine g_icmp_ge C rfl rfl 130 (by decide) dX9_reckonLie_83 (fun hc => ?_) (fun hc => ?_)
    · have h := h.1 hc
      refine g_lload C 4 6 rfl dX9_reckonLie_130 ?_
      exact g_lret C hlocks hr h dX9_reckonLie_132
    · have h := h.2 hc
      refine g_aload_n C 0 0 rfl rfl dX9_reckonLie_86 ?_
      refine g_iload C 5 8 rfl dX9_reckonLie_87 ?_
      refine g_iload_n C 1 1 rfl rfl dX9_reckonLie_89 ?_
      refine g_iconst C dX9_reckonLie_90 ?_
      refine g_callIv C (m_X9_isFor l D cA ad h) hv_X9_isFor tw_X9_247 (o := 0) (ci := 9) (As := [vI x8, vI x1, vI 0]) (st := []) rfl rfl rfl rfl ⟨Nat.le_of_ble_eq_true rfl, Nat.le_of_ble_eq_true rfl⟩ rfl rfl (Nat.le_of_ble_eq_true rfl) dX9_reckonLie_91 (fun r2 σ1 h => ?_)
      try dsimp only at h
      refine g_if_eq C rfl 120 (by decide) dX9_reckonLie_94 (fun hc => ?_) (fun hc => ?_)
      · have h := h.1 hc
        refine g_lload C 4 6 rfl dX9_reckonLie_120 ?_
        exact g_pick [0, 1, 2, 3, 5] rfl (m_X9_reckonLie_B122 C hlocks hr (fun _ _ _ _ _ _ h => ih _ _ _ _ _ _ h) h)
      · have h := h.2 hc
        refine g_lload C 4 6 rfl dX9_reckonLie_97 ?_
        refine g_aload_n C 0 0 rfl rfl dX9_reckonLie_99 ?_
        refine g_bipush C dX9_reckonLie_100 (by decide) ?_
        refine g_iload C 5 8 rfl dX9_reckonLie_102 ?_
        refine g_imul C dX9_reckonLie_104 ?_
        refine g_iload_n C 2 2 rfl rfl dX9_reckonLie_105 ?_
        refine g_iconst C dX9_reckonLie_106 ?_
        refine g_iconst C dX9_reckonLie_107 ?_
        refine g_iload C 3 5 rfl dX9_reckonLie_108 ?_
        refine g_callLv C (m_X9_lie l D cA ad h) hv_X9_lie tw_X9_229 (o := 0) (ci := 9) (As := [vI (12 * x8), vI x2, vI (-1), vI (-1), vI x5]) (st := [vL x6]) rfl rfl rfl rfl ⟨Nat.le_of_ble_eq_true rfl, Nat.le_of_ble_eq_true rfl⟩ rfl rfl (Nat.le_of_ble_eq_true rfl) dX9_reckonLie_110 (fun r4 σ3 h => ?_)
        try dsimp only at h
        refine g_ladd C dX9_reckonLie_113 ?_
        refine g_callLs C (m_X9_least l D cA ad h) hv_X9_least tw_X9_236 (As := [vL (x6 + r4)]) (st := []) rfl rfl ⟨Nat.le_of_ble_eq_true rfl, Nat.le_of_ble_eq_true rfl⟩ rfl rfl (Nat.le_of_ble_eq_true rfl) dX9_reckonLie_114 (fun r6 σ5 h => ?_)
        try dsimp only at h
        refine g_goto C 122 (by decide) dX9_reckonLie_117 ?_
        exact g_pick [0, 1, 2, 3, 5] rfl (m_X9_reckonLie_B122 C hlocks hr (fun _ _ _ _ _ _ h => ih _ _ _ _ _ _ h) h)
set_option maxRecDepth 100000 in
set_option maxHeartbeats 4000000 in
theorem m_X9_reckonLie_E {p : Program} {l : Launch} {e : Env} {s : State} {m : MethodId} {args : Array Value} {below : List Frame} {meth : Method} {c : Code} {D : va_G} {cA : Nat → ClassId} {ad : Nat → Nat} (C : Cx p s m args c cX9_reckonLie RX9 11 D cA shM ad zsM) (hlocks : meth.locks = false) (hr : meth.sig.returnType = (some .long)) {Q : Int → St → Prop} {a1 a2 a3 a4 a5 : Int} {σ : St} (h : wp_X9_reckonLie a1 a2 a3 a4 a5 Q σ) : G p l e rm_X9_reckonLie s m args below meth c 0 0 11 D cA shM ad (QL D cA shM ad zsM below args s Q) σ [(0, .ref (ad 0)), (1, vI a1), (2, vI a2), (3, vI a3), (4, vI a4), (5, vI a5)] [] 0 := by
  unfold wp_X9_reckonLie at h
  refine g_aload_n C 0 0 rfl rfl dX9_reckonLie_0 ?_
  refine g_get C iX9 (ci := 9) (o := 0) (v := .ref (ad 6)) rfl rfl 11 (by decide) rfl tw_X9_26 dX9_reckonLie_1 ?_
  refine g_iload_n C 1 1 rfl rfl dX9_reckonLie_4 ?_
  obtain ⟨hi, h⟩ := h
  refine g_iald C (o := 6) (N := 204) rfl rfl hi rfl dX9_reckonLie_5 ?_
  refine g_iconst C dX9_reckonLie_6 ?_
  refine g_icmp_ne C (y' := 3) rfl (by decide) 33 (by decide) dX9_reckonLie_7 (fun hc => ?_) (fun hc => ?_)
  · have h := h.1 hc
    refine g_aload_n C 0 0 rfl rfl dX9_reckonLie_33 ?_
    refine g_get C iX9 (ci := 9) (o := 0) (v := .ref (ad 6)) rfl rfl 11 (by decide) rfl tw_X9_26 dX9_reckonLie_34 ?_
    refine g_iload_n C 1 1 rfl rfl dX9_reckonLie_37 ?_
    obtain ⟨hi, h⟩ := h
    refine g_iald C (o := 6) (N := 204) rfl rfl hi rfl dX9_reckonLie_38 ?_
    refine g_iconst C dX9_reckonLie_39 ?_
    refine g_icmp_ne C (y' := 2) rfl (by decide) 61 (by decide) dX9_reckonLie_40 (fun hc => ?_) (fun hc => ?_)
    · have h := h.1 hc
      refine g_lconst C 0 (by decide) dX9_reckonLie_61 ?_
      refine g_lstore C 6 [(0, .ref (ad 0)), (1, vI a1), (2, vI a2), (3, vI a3), (4, vI a4), (5, vI a5)] (by decide) rfl dX9_reckonLie_62 ?_
      refine g_aload_n C 1 0 rfl rfl dX9_reckonLie_64 ?_
      refine g_get C iX9 (ci := 9) (o := 0) (v := .ref (ad 6)) rfl rfl 11 (by decide) rfl tw_X9_26 dX9_reckonLie_65 ?_
      refine g_iload_n C 2 1 rfl rfl dX9_reckonLie_68 ?_
      obtain ⟨hi, h⟩ := h
      refine g_iald C (o := 6) (N := 204) rfl rfl hi rfl dX9_reckonLie_69 ?_
      refine g_iconst C dX9_reckonLie_70 ?_
      refine g_icmp_ne C (y' := 1) rfl (by decide) 133 (by decide) dX9_reckonLie_71 (fun hc => ?_) (fun hc => ?_)
      · have h := h.1 hc
        refine g_aload_n C 1 0 rfl rfl dX9_reckonLie_133 ?_
        refine g_get C iX9 (ci := 9) (o := 0) (v := .ref (ad 10)) rfl rfl 15 (by decide) rfl tw_X9_38 dX9_reckonLie_134 ?_
        refine g_iload_n C 2 1 rfl rfl dX9_reckonLie_137 ?_
        obtain ⟨hi, h⟩ := h
        refine g_iald C (o := 10) (N := 204) rfl rfl hi rfl dX9_reckonLie_138 ?_
        refine g_iconst C dX9_reckonLie_139 ?_
        refine g_icmp_ne C (y' := 1) rfl (by decide) 147 (by decide) dX9_reckonLie_140 (fun hc => ?_) (fun hc => ?_)
        · have h := h.1 hc
          refine g_aload_n C 1 0 rfl rfl dX9_reckonLie_147 ?_
          refine g_aload_n C 1 0 rfl rfl dX9_reckonLie_148 ?_
          refine g_get C iX9 (ci := 9) (o := 0) (v := .ref (ad 12)) rfl rfl 17 (by decide) rfl tw_X9_44 dX9_reckonLie_149 ?_
          refine g_iload_n C 2 1 rfl rfl dX9_reckonLie_152 ?_
          obtain ⟨hi, h⟩ := h
          refine g_iald C (o := 12) (N := 204) rfl rfl hi rfl dX9_reckonLie_153 ?_
          refine g_iload_n C 3 2 rfl rfl dX9_reckonLie_154 ?_
          refine g_iload_n C 4 3 rfl rfl dX9_reckonLie_155 ?_
          refine g_iload C 5 4 rfl dX9_reckonLie_156 ?_
          refine g_iload C 6 5 rfl dX9_reckonLie_158 ?_
          refine g_callLv C (m_X9_run l D cA ad h) hv_X9_run tw_X9_233 (o := 0) (ci := 9) (As := [vI (σ 12 (w32 a1).toNat), vI a2, vI a3, vI a4, vI a5]) (st := []) rfl rfl rfl rfl ⟨Nat.le_of_ble_eq_true rfl, Nat.le_of_ble_eq_true rfl⟩ rfl rfl (Nat.le_of_ble_eq_true rfl) dX9_reckonLie_160 (fun r2 σ1 h => ?_)
          try dsimp only at h
          exact g_pick [1, 2, 3, 4, 5, 6] rfl (m_X9_reckonLie_B163 C hlocks hr h)
        · have h := h.2 hc
          refine g_lconst C 0 (by decide) dX9_reckonLie_143 ?_
          refine g_goto C 163 (by decide) dX9_reckonLie_144 ?_
          exact g_pick [1, 2, 3, 4, 5, 6] rfl (m_X9_reckonLie_B163 C hlocks hr h)
      · have h := h.2 hc
        refine g_iconst C dX9_reckonLie_74 ?_
        refine g_istore C 8 [(6, vL 0), (0, .ref (ad 0)), (1, vI a1), (2, vI a2), (3, vI a3), (4, vI a4), (5, vI a5)] (by decide) rfl dX9_reckonLie_75 ?_
        obtain ⟨nn, h⟩ := h
        exact g_pick [2, 3, 4, 7, 1, 0] rfl (m_X9_reckonLie_L77 C hlocks hr nn _ _ _ _ _ _ h)
    · have h := h.2 hc
      refine g_iload_n C 3 3 rfl rfl dX9_reckonLie_43 ?_
      refine g_iload_n C 2 2 rfl rfl dX9_reckonLie_44 ?_
      refine g_icmp_ne C rfl rfl 59 (by decide) dX9_reckonLie_45 (fun hc => ?_) (fun hc => ?_)
      · have h := h.1 hc
        exact g_pick [] rfl (m_X9_reckonLie_B59 C hlocks hr h)
      · have h := h.2 hc
        refine g_iload C 4 4 rfl dX9_reckonLie_48 ?_
        refine g_iload C 5 5 rfl dX9_reckonLie_50 ?_
        refine g_icmp_ne C rfl rfl 59 (by decide) dX9_reckonLie_52 (fun hc => ?_) (fun hc => ?_)
        · have h := h.1 hc
          exact g_pick [] rfl (m_X9_reckonLie_B59 C hlocks hr h)
        · have h := h.2 hc
          refine g_lconst C 1 (by decide) dX9_reckonLie_55 ?_
          refine g_goto C 60 (by decide) dX9_reckonLie_56 ?_
          exact g_lret C hlocks hr h dX9_reckonLie_60
  · have h := h.2 hc
    refine g_iload C 5 5 rfl dX9_reckonLie_10 ?_
    refine g_iload_n C 2 2 rfl rfl dX9_reckonLie_12 ?_
    refine g_iconst C dX9_reckonLie_13 ?_
    refine g_iadd C dX9_reckonLie_14 ?_
    refine g_icmp_ne C rfl rfl 31 (by decide) dX9_reckonLie_15 (fun hc => ?_) (fun hc => ?_)
    · have h := h.1 hc
      exact g_pick [] rfl (m_X9_reckonLie_B31 C hlocks hr h)
    · have h := h.2 hc
      refine g_aload_n C 0 0 rfl rfl dX9_reckonLie_18 ?_
      refine g_iload_n C 1 1 rfl rfl dX9_reckonLie_19 ?_
      refine g_iload_n C 2 2 rfl rfl dX9_reckonLie_20 ?_
      refine g_callIv C (m_X9_isWord l D cA ad h) hv_X9_isWord tw_X9_244 (o := 0) (ci := 9) (As := [vI a1, vI a2]) (st := []) rfl rfl rfl rfl ⟨Nat.le_of_ble_eq_true rfl, Nat.le_of_ble_eq_true rfl⟩ rfl rfl (Nat.le_of_ble_eq_true rfl) dX9_reckonLie_21 (fun r4 σ3 h => ?_)
      try dsimp only at h
      refine g_if_eq C rfl 31 (by decide) dX9_reckonLie_24 (fun hc => ?_) (fun hc => ?_)
      · have h := h.1 hc
        exact g_pick [] rfl (m_X9_reckonLie_B31 C hlocks hr h)
      · have h := h.2 hc
        refine g_lconst C 1 (by decide) dX9_reckonLie_27 ?_
        refine g_goto C 32 (by decide) dX9_reckonLie_28 ?_
        exact g_lret C hlocks hr h dX9_reckonLie_32
set_option maxRecDepth 100000 in
set_option maxHeartbeats 4000000 in
theorem m_X9_reckonLie (l : Launch) (D : va_G) (cA : Nat → ClassId) (ad : Nat → Nat) {a1 a2 a3 a4 a5 : Int} {Q : Int → St → Prop} {σ : St} (h : wp_X9_reckonLie a1 a2 a3 a4 a5 Q σ) : CtL l yX9_reckonLie (.code yX9_reckonLie cX9_reckonLie 11 (some .long)) rm_X9_reckonLie D cA shM ad zsM [.ref (ad 0), vI a1, vI a2, vI a3, vI a4, vI a5] σ Q :=
  ct_L RX9 (by decide +kernel) rfl (Nat.le_of_ble_eq_true rfl) (fun p e s m args below meth c C hlocks hr => m_X9_reckonLie_E C hlocks hr h)
abbrev rm_X9_split : Room := { frames := 3, cells := 0, slots := 0, locals := 48 }
set_option maxRecDepth 100000 in
set_option maxHeartbeats 4000000 in
theorem m_X9_split_B36 {p : Program} {l : Launch} {e : Env} {s : State} {m : MethodId} {args : Array Value} {below : List Frame} {meth : Method} {c : Code} {D : va_G} {cA : Nat → ClassId} {ad : Nat → Nat} (C : Cx p s m args c cX9_split RX9 8 D cA shM ad zsM) (hlocks : meth.locks = false) (hr : meth.sig.returnType = (some .long)) {Q : Int → St → Prop} {σ : St} (h : wp_X9_split_B36 Q σ) : G p l e rm_X9_split s m args below meth c 0 0 8 D cA shM ad (QL D cA shM ad zsM below args s Q) σ [] [] 36 := by
  unfold wp_X9_split_B36 at h
  refine g_lconst C 0 (by decide) dX9_split_36 ?_
  exact g_lret C hlocks hr h dX9_split_37
set_option maxRecDepth 100000 in
set_option maxHeartbeats 4000000 in
theorem m_X9_split_B77 {p : Program} {l : Launch} {e : Env} {s : State} {m : MethodId} {args : Array Value} {below : List Frame} {meth : Method} {c : Code} {D : va_G} {cA : Nat → ClassId} {ad : Nat → Nat} (C : Cx p s m args c cX9_split RX9 8 D cA shM ad zsM) (hlocks : meth.locks = false) (hr : meth.sig.returnType = (some .long)) {Q : Int → St → Prop} {x5 x6 y0 y2 y3 y4 : Int} {σ : St} (h : wp_X9_split_B77 x5 x6 y0 y2 y3 y4 Q σ) : G p l e rm_X9_split s m args below meth c 0 0 8 D cA shM ad (QL D cA shM ad zsM below args s Q) σ [(5, vI x5), (6, vI x6)] [vI y4, vI y3, vI y2, .ref (ad 0), vL y0] 77 := by
  unfold wp_X9_split_B77 at h
  refine g_iload C 0 5 rfl dX9_split_77 ?_
  refine g_iload C 1 6 rfl dX9_split_79 ?_
  refine g_callLv C (m_X9_run l D cA ad h) hv_X9_run tw_X9_233 (o := 0) (ci := 9) (As := [vI y2, vI y3, vI y4, vI x5, vI x6]) (st := [vL y0]) rfl rfl rfl rfl ⟨Nat.le_of_ble_eq_true rfl, Nat.le_of_ble_eq_true rfl⟩ rfl rfl (Nat.le_of_ble_eq_true rfl) dX9_split_81 (fun r2 σ1 h => ?_)
  try dsimp only at h
  refine g_lmul C dX9_split_84 ?_
  refine g_callLs C (m_X9_least l D cA ad h) hv_X9_least tw_X9_236 (As := [vL (y0 * r2)]) (st := []) rfl rfl ⟨Nat.le_of_ble_eq_true rfl, Nat.le_of_ble_eq_true rfl⟩ rfl rfl (Nat.le_of_ble_eq_true rfl) dX9_split_85 (fun r4 σ3 h => ?_)
  try dsimp only at h
  exact g_lret C hlocks hr h dX9_split_88
set_option maxRecDepth 100000 in
set_option maxHeartbeats 4000000 in
theorem m_X9_split_B52 {p : Program} {l : Launch} {e : Env} {s : State} {m : MethodId} {args : Array Value} {below : List Frame} {meth : Method} {c : Code} {D : va_G} {cA : Nat → ClassId} {ad : Nat → Nat} (C : Cx p s m args c cX9_split RX9 8 D cA shM ad zsM) (hlocks : meth.locks = false) (hr : meth.sig.returnType = (some .long)) {Q : Int → St → Prop} {x1 x3 x4 x5 x6 x7 y1 y2 y3 : Int} {σ : St} (h : wp_X9_split_B52 x1 x3 x4 x5 x6 x7 y1 y2 y3 Q σ) : G p l e rm_X9_split s m args below meth c 0 0 8 D cA shM ad (QL D cA shM ad zsM below args s Q) σ [(0, .ref (ad 0)), (1, vI x1), (3, vI x3), (4, vI x4), (5, vI x5), (6, vI x6), (7, vI x7)] [vI y3, vI y2, vI y1, .ref (ad 0)] 52 := by
  unfold wp_X9_split_B52 at h
  refine g_iload C 4 5 rfl dX9_split_52 ?_
  refine g_iload_n C 2 3 rfl rfl dX9_split_54 ?_
  refine g_callLv C (m_X9_lie l D cA ad h) hv_X9_lie tw_X9_229 (o := 0) (ci := 9) (As := [vI y1, vI y2, vI y3, vI x5, vI x3]) (st := []) rfl rfl rfl rfl ⟨Nat.le_of_ble_eq_true rfl, Nat.le_of_ble_eq_true rfl⟩ rfl rfl (Nat.le_of_ble_eq_true rfl) dX9_split_55 (fun r2 σ1 h => ?_)
  try dsimp only at h
  refine g_aload_n C 0 0 rfl rfl dX9_split_58 ?_
  refine g_aload_n C 0 0 rfl rfl dX9_split_59 ?_
  refine g_get C iX9 (ci := 9) (o := 0) (v := .ref (ad 11)) rfl rfl 16 (by decide) rfl tw_X9_41 dX9_split_60 ?_
  refine g_iload_n C 1 1 rfl rfl dX9_split_63 ?_
  obtain ⟨hi, h⟩ := h
  refine g_iald C (o := 11) (N := 204) rfl rfl hi rfl dX9_split_64 ?_
  refine g_iload_n C 2 3 rfl rfl dX9_split_65 ?_
  refine g_iload C 6 7 rfl dX9_split_66 ?_
  refine g_if_eq C rfl 75 (by decide) dX9_split_68 (fun hc => ?_) (fun hc => ?_)
  · have h := h.1 hc
    refine g_iload C 3 4 rfl dX9_split_75 ?_
    exact g_pick [4, 5] rfl (m_X9_split_B77 C hlocks hr h)
  · have h := h.2 hc
    refine g_iconst C dX9_split_71 ?_
    refine g_goto C 77 (by decide) dX9_split_72 ?_
    exact g_pick [4, 5] rfl (m_X9_split_B77 C hlocks hr h)
set_option maxRecDepth 100000 in
set_option maxHeartbeats 4000000 in
theorem m_X9_split_B38 {p : Program} {l : Launch} {e : Env} {s : State} {m : MethodId} {args : Array Value} {below : List Frame} {meth : Method} {c : Code} {D : va_G} {cA : Nat → ClassId} {ad : Nat → Nat} (C : Cx p s m args c cX9_split RX9 8 D cA shM ad zsM) (hlocks : meth.locks = false) (hr : meth.sig.returnType = (some .long)) {Q : Int → St → Prop} {x1 x2 x3 x4 x5 x6 x7 : Int} {σ : St} (h : wp_X9_split_B38 x1 x2 x3 x4 x5 x6 x7 Q σ) : G p l e rm_X9_split s m args below meth c 0 0 8 D cA shM ad (QL D cA shM ad zsM below args s Q) σ [(0, .ref (ad 0)), (1, vI x1), (2, vI x2), (3, vI x3), (4, vI x4), (5, vI x5), (6, vI x6), (7, vI x7)] [] 38 := by
  unfold wp_X9_split_B38 at h
  refine g_aload_n C 0 0 rfl rfl dX9_split_38 ?_
  refine g_iload_n C 1 1 rfl rfl dX9_split_39 ?_
  refine g_iload_n C 2 2 rfl rfl dX9_split_40 ?_
  refine g_iload C 7 7 rfl dX9_split_41 ?_
  refine g_if_eq C rfl 51 (by decide) dX9_split_43 (fun hc => ?_) (fun hc => ?_)
  · have h := h.1 hc
    refine g_iconst C dX9_split_51 ?_
    exact g_pick [0, 1, 3, 4, 5, 6, 7] rfl (m_X9_split_B52 C hlocks hr h)
  · have h := h.2 hc
    refine g_iload C 4 4 rfl dX9_split_46 ?_
    refine g_goto C 52 (by decide) dX9_split_48 ?_
    exact g_pick [0, 1, 3, 4, 5, 6, 7] rfl (m_X9_split_B52 C hlocks hr h)
set_option maxRecDepth 100000 in
set_option maxHeartbeats 4000000 in
theorem m_X9_split_B19 {p : Program} {l : Launch} {e : Env} {s : State} {m : MethodId} {args : Array Value} {below : List Frame} {meth : Method} {c : Code} {D : va_G} {cA : Nat → ClassId} {ad : Nat → Nat} (C : Cx p s m args c cX9_split RX9 8 D cA shM ad zsM) (hlocks : meth.locks = false) (hr : meth.sig.returnType = (some .long)) {Q : Int → St → Prop} {x1 x2 x3 x4 x5 x6 x7 : Int} {σ : St} (h : wp_X9_split_B19 x1 x2 x3 x4 x5 x6 x7 Q σ) : G p l e rm_X9_split s m args below meth c 0 0 8 D cA shM ad (QL D cA shM ad zsM below args s Q) σ [(0, .ref (ad 0)), (1, vI x1), (2, vI x2), (3, vI x3), (4, vI x4), (5, vI x5), (6, vI x6), (7, vI x7)] [] 19 := by
  unfold wp_X9_split_B19 at h
  refine g_iload C 7 7 rfl dX9_split_19 ?_
  refine g_if_ne C rfl 38 (by decide) dX9_split_21 (fun hc => ?_) (fun hc => ?_)
  · have h := h.1 hc
    exact g_pick [0, 1, 2, 3, 4, 5, 6, 7] rfl (m_X9_split_B38 C hlocks hr h)
  · have h := h.2 hc
    refine g_iload C 4 4 rfl dX9_split_24 ?_
    refine g_iconst C dX9_split_26 ?_
    refine g_icmp_eq C (y' := (-1)) rfl (by decide) 38 (by decide) dX9_split_27 (fun hc => ?_) (fun hc => ?_)
    · have h := h.1 hc
      exact g_pick [0, 1, 2, 3, 4, 5, 6, 7] rfl (m_X9_split_B38 C hlocks hr h)
    · have h := h.2 hc
      refine g_iload C 4 4 rfl dX9_split_30 ?_
      refine g_iload_n C 3 3 rfl rfl dX9_split_32 ?_
      refine g_icmp_ge C rfl rfl 38 (by decide) dX9_split_33 (fun hc => ?_) (fun hc => ?_)
      · have h := h.1 hc
        exact g_pick [0, 1, 2, 3, 4, 5, 6, 7] rfl (m_X9_split_B38 C hlocks hr h)
      · have h := h.2 hc
        exact g_pick [] rfl (m_X9_split_B36 C hlocks hr h)
set_option maxRecDepth 100000 in
set_option maxHeartbeats 4000000 in
theorem m_X9_split_E {p : Program} {l : Launch} {e : Env} {s : State} {m : MethodId} {args : Array Value} {below : List Frame} {meth : Method} {c : Code} {D : va_G} {cA : Nat → ClassId} {ad : Nat → Nat} (C : Cx p s m args c cX9_split RX9 8 D cA shM ad zsM) (hlocks : meth.locks = false) (hr : meth.sig.returnType = (some .long)) {Q : Int → St → Prop} {a1 a2 a3 a4 a5 a6 : Int} {σ : St} (h : wp_X9_split a1 a2 a3 a4 a5 a6 Q σ) : G p l e rm_X9_split s m args below meth c 0 0 8 D cA shM ad (QL D cA shM ad zsM below args s Q) σ [(0, .ref (ad 0)), (1, vI a1), (2, vI a2), (3, vI a3), (4, vI a4), (5, vI a5), (6, vI a6)] [] 0 := by
  unfold wp_X9_split at h
  refine g_aload_n C 0 0 rfl rfl dX9_split_0 ?_
  refine g_get C iX9 (ci := 9) (o := 0) (v := .ref (ad 13)) rfl rfl 18 (by decide) rfl tw_X9_47 dX9_split_1 ?_
  refine g_iload_n C 1 1 rfl rfl dX9_split_4 ?_
  obtain ⟨hi, h⟩ := h
  refine g_zald C (o := 13) (N := 204) rfl rfl hi rfl dX9_split_5 ?_
  refine g_name (fun x_1 ex_1 => ?_)
  have h := h x_1 ex_1
  refine g_istore C 7 [(0, .ref (ad 0)), (1, vI a1), (2, vI a2), (3, vI a3), (4, vI a4), (5, vI a5), (6, vI a6)] (by decide) rfl dX9_split_6 ?_
  refine g_iload C 0 7 rfl dX9_split_8 ?_
  refine g_if_eq C rfl 19 (by decide) dX9_split_10 (fun hc => ?_) (fun hc => ?_)
  · have h := h.1 hc
    exact g_pick [1, 2, 3, 4, 5, 6, 7, 0] rfl (m_X9_split_B19 C hlocks hr h)
  · have h := h.2 hc
    refine g_iload C 6 5 rfl dX9_split_13 ?_
    refine g_iload_n C 4 3 rfl rfl dX9_split_15 ?_
    refine g_icmp_gt C rfl rfl 36 (by decide) dX9_split_16 (fun hc => ?_) (fun hc => ?_)
    · have h := h.1 hc
      exact g_pick [] rfl (m_X9_split_B36 C hlocks hr h)
    · have h := h.2 hc
      exact g_pick [1, 2, 3, 4, 5, 6, 7, 0] rfl (m_X9_split_B19 C hlocks hr h)
set_option maxRecDepth 100000 in
set_option maxHeartbeats 4000000 in
theorem m_X9_split (l : Launch) (D : va_G) (cA : Nat → ClassId) (ad : Nat → Nat) {a1 a2 a3 a4 a5 a6 : Int} {Q : Int → St → Prop} {σ : St} (h : wp_X9_split a1 a2 a3 a4 a5 a6 Q σ) : CtL l yX9_split (.code yX9_split cX9_split 8 (some .long)) rm_X9_split D cA shM ad zsM [.ref (ad 0), vI a1, vI a2, vI a3, vI a4, vI a5, vI a6] σ Q :=
  ct_L RX9 (by decide +kernel) rfl (Nat.le_of_ble_eq_true rfl) (fun p e s m args below meth c C hlocks hr => m_X9_split_E C hlocks hr h)
abbrev rm_X9_reckonRun : Room := { frames := 4, cells := 0, slots := 0, locals := 75 }
set_option maxRecDepth 100000 in
set_option maxHeartbeats 4000000 in
theorem m_X9_reckonRun_L28 {p : Program} {l : Launch} {e : Env} {s : State} {m : MethodId} {args : Array Value} {below : List Frame} {meth : Method} {c : Code} {D : va_G} {cA : Nat → ClassId} {ad : Nat → Nat} (C : Cx p s m args c cX9_reckonRun RX9 9 D cA shM ad zsM) (hlocks : meth.locks = false) (hr : meth.sig.returnType = (some .long)) {Q : Int → St → Prop} : ∀ (n : Nat) (x1 : Int) (x2 : Int) (x3 : Int) (x4 : Int) (x5 : Int) (x6 : Int) (x8 : Int) (σ : St), wp_X9_reckonRun_L28 Q n x1 x2 x3 x4 x5 x6 x8 σ → G p l e rm_X9_reckonRun s m args below meth c 0 0 9 D cA shM ad (QL D cA shM ad zsM below args s Q) σ [(0, .ref (ad 0)), (1, vI x1), (2, vI x2), (3, vI x3), (4, vI x4), (5, vI x5), (6, vL x6), (8, vI x8)] [] 28 := by
  intro n
  induction n with
  | zero => intro _ _ _ _ _ _ _ _ h; exact h.elim
  | succ n ih =>
    intro x1 x2 x3 x4 x5 x6 x8 σ h
    simp only [wp_X9_reckonRun_L28] at h
    refine g_iload C 7 8 rfl dX9_reckonRun_28 ?_
    refine g_iload C 5 5 rfl dX9_reckonRun_30 ?_
    refine g_icmp_gt C rfl rfl 62 (by decide) dX9_reckonRun_32 (fun hc => ?_) (fun hc => ?_)
    · have h := h.1 hc
      refine g_lload C 6 6 rfl dX9_reckonRun_62 ?_
      exact g_lret C hlocks hr h dX9_reckonRun_64
    · have h := h.2 hc
      refine g_lload C 6 6 rfl dX9_reckonRun_35 ?_
      refine g_aload_n C 0 0 rfl rfl dX9_reckonRun_37 ?_
      refine g_iload_n C 1 1 rfl rfl dX9_reckonRun_38 ?_
      refine g_iload_n C 2 2 rfl rfl dX9_reckonRun_39 ?_
      refine g_iload C 7 8 rfl dX9_reckonRun_40 ?_
      refine g_iload_n C 3 3 rfl rfl dX9_reckonRun_42 ?_
      refine g_iload C 4 4 rfl dX9_reckonRun_43 ?_
      refine g_iload C 5 5 rfl dX9_reckonRun_45 ?_
      refine g_callLv C (m_X9_split l D cA ad h) hv_X9_split tw_X9_240 (o := 0) (ci := 9) (As := [vI x1, vI x2, vI x8, vI x3, vI x4, vI x5]) (st := [vL x6]) rfl rfl rfl rfl ⟨Nat.le_of_ble_eq_true rfl, Nat.le_of_ble_eq_true rfl⟩ rfl rfl (Nat.le_of_ble_eq_true rfl) dX9_reckonRun_47 (fun r2 σ1 h => ?_)
      try dsimp only at h
      refine g_ladd C dX9_reckonRun_50 ?_
      refine g_callLs C (m_X9_least l D cA ad h) hv_X9_least tw_X9_236 (As := [vL (x6 + r2)]) (st := []) rfl rfl ⟨Nat.le_of_ble_eq_true rfl, Nat.le_of_ble_eq_true rfl⟩ rfl rfl (Nat.le_of_ble_eq_true rfl) dX9_reckonRun_51 (fun r4 σ3 h => ?_)
      try dsimp only at h
      refine g_lstore C 6 [(0, .ref (ad 0)), (1, vI x1), (2, vI x2), (3, vI x3), (4, vI x4), (5, vI x5), (8, vI x8)] (by decide) rfl dX9_reckonRun_54 ?_
      refine g_iinc C 7 8 [(6, vL r4), (0, .ref (ad 0)), (1, vI x1), (2, vI x2), (3, vI x3), (4, vI x4), (5, vI x5)] rfl (by decide) rfl dX9_reckonRun_56 (fun x_5 ex_5 => ?_)
      have h := h x_5 ex_5
      refine g_goto C 28 (by decide) dX9_reckonRun_59 ?_
      exact g_pick [2, 3, 4, 5, 6, 7, 1, 0] rfl (ih _ _ _ _ _ _ _ _ h)
set_option maxRecDepth 100000 in
set_option maxHeartbeats 4000000 in
theorem m_X9_reckonRun_E {p : Program} {l : Launch} {e : Env} {s : State} {m : MethodId} {args : Array Value} {below : List Frame} {meth : Method} {c : Code} {D : va_G} {cA : Nat → ClassId} {ad : Nat → Nat} (C : Cx p s m args c cX9_reckonRun RX9 9 D cA shM ad zsM) (hlocks : meth.locks = false) (hr : meth.sig.returnType = (some .long)) {Q : Int → St → Prop} {a1 a2 a3 a4 a5 : Int} {σ : St} (h : wp_X9_reckonRun a1 a2 a3 a4 a5 Q σ) : G p l e rm_X9_reckonRun s m args below meth c 0 0 9 D cA shM ad (QL D cA shM ad zsM below args s Q) σ [(0, .ref (ad 0)), (1, vI a1), (2, vI a2), (3, vI a3), (4, vI a4), (5, vI a5)] [] 0 := by
  unfold wp_X9_reckonRun at h
  refine g_aload_n C 0 0 rfl rfl dX9_reckonRun_0 ?_
  refine g_get C iX9 (ci := 9) (o := 0) (v := .ref (ad 11)) rfl rfl 16 (by decide) rfl tw_X9_41 dX9_reckonRun_1 ?_
  refine g_iload_n C 1 1 rfl rfl dX9_reckonRun_4 ?_
  obtain ⟨hi, h⟩ := h
  refine g_iald C (o := 11) (N := 204) rfl rfl hi rfl dX9_reckonRun_5 ?_
  refine g_iconst C dX9_reckonRun_6 ?_
  refine g_icmp_ne C (y' := (-1)) rfl (by decide) 22 (by decide) dX9_reckonRun_7 (fun hc => ?_) (fun hc => ?_)
  · have h := h.1 hc
    refine g_lconst C 0 (by decide) dX9_reckonRun_22 ?_
    refine g_lstore C 6 [(0, .ref (ad 0)), (1, vI a1), (2, vI a2), (3, vI a3), (4, vI a4), (5, vI a5)] (by decide) rfl dX9_reckonRun_23 ?_
    refine g_iload_n C 3 2 rfl rfl dX9_reckonRun_25 ?_
    refine g_istore C 8 [(6, vL 0), (0, .ref (ad 0)), (1, vI a1), (2, vI a2), (3, vI a3), (4, vI a4), (5, vI a5)] (by decide) rfl dX9_reckonRun_26 ?_
    obtain ⟨nn, h⟩ := h
    exact g_pick [2, 3, 4, 5, 6, 7, 1, 0] rfl (m_X9_reckonRun_L28 C hlocks hr nn _ _ _ _ _ _ _ _ h)
  · have h := h.2 hc
    refine g_aload_n C 0 0 rfl rfl dX9_reckonRun_10 ?_
    refine g_iload_n C 1 1 rfl rfl dX9_reckonRun_11 ?_
    refine g_iload_n C 2 2 rfl rfl dX9_reckonRun_12 ?_
    refine g_iload_n C 3 3 rfl rfl dX9_reckonRun_13 ?_
    refine g_iload C 4 4 rfl dX9_reckonRun_14 ?_
    refine g_iload C 5 5 rfl dX9_reckonRun_16 ?_
    refine g_callLv C (m_X9_lie l D cA ad h) hv_X9_lie tw_X9_229 (o := 0) (ci := 9) (As := [vI a1, vI a2, vI a3, vI a4, vI a5]) (st := []) rfl rfl rfl rfl ⟨Nat.le_of_ble_eq_true rfl, Nat.le_of_ble_eq_true rfl⟩ rfl rfl (Nat.le_of_ble_eq_true rfl) dX9_reckonRun_18 (fun r2 σ1 h => ?_)
    try dsimp only at h
    exact g_lret C hlocks hr h dX9_reckonRun_21
set_option maxRecDepth 100000 in
set_option maxHeartbeats 4000000 in
theorem m_X9_reckonRun (l : Launch) (D : va_G) (cA : Nat → ClassId) (ad : Nat → Nat) {a1 a2 a3 a4 a5 : Int} {Q : Int → St → Prop} {σ : St} (h : wp_X9_reckonRun a1 a2 a3 a4 a5 Q σ) : CtL l yX9_reckonRun (.code yX9_reckonRun cX9_reckonRun 9 (some .long)) rm_X9_reckonRun D cA shM ad zsM [.ref (ad 0), vI a1, vI a2, vI a3, vI a4, vI a5] σ Q :=
  ct_L RX9 (by decide +kernel) rfl (Nat.le_of_ble_eq_true rfl) (fun p e s m args below meth c C hlocks hr => m_X9_reckonRun_E C hlocks hr h)
abbrev rm_X9_put : Room := { frames := 5, cells := 0, slots := 0, locals := 106 }
set_option maxRecDepth 100000 in
set_option maxHeartbeats 4000000 in
theorem m_X9_put_B34 {p : Program} {l : Launch} {e : Env} {s : State} {m : MethodId} {args : Array Value} {below : List Frame} {meth : Method} {c : Code} {D : va_G} {cA : Nat → ClassId} {ad : Nat → Nat} (C : Cx p s m args c cX9_put RX9 8 D cA shM ad zsM) (hlocks : meth.locks = false) (hr : meth.sig.returnType = none) {Q : St → Prop} {x1 x2 x3 x4 x5 x6 y0 y2 : Int} {σ : St} (h : wp_X9_put_B34 x1 x2 x3 x4 x5 x6 y0 y2 Q σ) : G p l e rm_X9_put s m args below meth c 0 0 8 D cA shM ad (QV D cA shM ad zsM below args s Q) σ [(0, .ref (ad 0)), (1, vI x1), (2, vI x2), (3, vI x3), (4, vI x4), (5, vI x5), (6, vI x6)] [vI y2, .ref (ad 20), vI y0] 34 := by
  unfold wp_X9_put_B34 at h
  obtain ⟨hi, h⟩ := h
  refine g_iald C (o := 20) (N := 6561) rfl rfl hi rfl dX9_put_34 ?_
  refine g_iadd C dX9_put_35 ?_
  refine g_name (fun x_1 ex_1 => ?_)
  have h := h x_1 ex_1
  refine g_istore C 7 [(0, .ref (ad 0)), (1, vI x1), (2, vI x2), (3, vI x3), (4, vI x4), (5, vI x5), (6, vI x6)] (by decide) rfl dX9_put_36 ?_
  refine g_iload C 7 6 rfl dX9_put_38 ?_
  refine g_if_eq C rfl 64 (by decide) dX9_put_40 (fun hc => ?_) (fun hc => ?_)
  · have h := h.1 hc
    refine g_aload_n C 1 0 rfl rfl dX9_put_64 ?_
    refine g_get C iX9 (ci := 9) (o := 0) (v := .ref (ad 21)) rfl rfl 39 (by decide) rfl tw_X9_79 dX9_put_65 ?_
    refine g_iload C 0 7 rfl dX9_put_68 ?_
    refine g_aload_n C 1 0 rfl rfl dX9_put_70 ?_
    refine g_iload_n C 2 1 rfl rfl dX9_put_71 ?_
    refine g_iload_n C 3 2 rfl rfl dX9_put_72 ?_
    refine g_iload_n C 4 3 rfl rfl dX9_put_73 ?_
    refine g_iload C 5 4 rfl dX9_put_74 ?_
    refine g_iload C 6 5 rfl dX9_put_76 ?_
    refine g_callLv C (m_X9_reckonLie l D cA ad h) hv_X9_reckonLie tw_X9_266 (o := 0) (ci := 9) (As := [vI x1, vI x2, vI x3, vI x4, vI x5]) (st := [vI x_1, .ref (ad 21)]) rfl rfl rfl rfl ⟨Nat.le_of_ble_eq_true rfl, Nat.le_of_ble_eq_true rfl⟩ rfl rfl (Nat.le_of_ble_eq_true rfl) dX9_put_78 (fun r3 σ2 h => ?_)
    try dsimp only at h
    obtain ⟨hi, h⟩ := h
    refine g_last C (o := 21) (N := 95040) rfl rfl hi rfl dX9_put_81 (fun σ4 eσ4 => ?_)
    have h := h σ4 eσ4
    exact g_vret C hlocks hr h dX9_put_82
  · have h := h.2 hc
    refine g_aload_n C 1 0 rfl rfl dX9_put_43 ?_
    refine g_get C iX9 (ci := 9) (o := 0) (v := .ref (ad 22)) rfl rfl 40 (by decide) rfl tw_X9_83 dX9_put_44 ?_
    refine g_iload C 0 7 rfl dX9_put_47 ?_
    refine g_aload_n C 1 0 rfl rfl dX9_put_49 ?_
    refine g_iload_n C 2 1 rfl rfl dX9_put_50 ?_
    refine g_iload_n C 3 2 rfl rfl dX9_put_51 ?_
    refine g_iload_n C 4 3 rfl rfl dX9_put_52 ?_
    refine g_iload C 5 4 rfl dX9_put_53 ?_
    refine g_iload C 6 5 rfl dX9_put_55 ?_
    refine g_callLv C (m_X9_reckonRun l D cA ad h) hv_X9_reckonRun tw_X9_263 (o := 0) (ci := 9) (As := [vI x1, vI x2, vI x3, vI x4, vI x5]) (st := [vI x_1, .ref (ad 22)]) rfl rfl rfl rfl ⟨Nat.le_of_ble_eq_true rfl, Nat.le_of_ble_eq_true rfl⟩ rfl rfl (Nat.le_of_ble_eq_true rfl) dX9_put_57 (fun r6 σ5 h => ?_)
    try dsimp only at h
    obtain ⟨hi, h⟩ := h
    refine g_last C (o := 22) (N := 95040) rfl rfl hi rfl dX9_put_60 (fun σ7 eσ7 => ?_)
    have h := h σ7 eσ7
    refine g_goto C 82 (by decide) dX9_put_61 ?_
    exact g_vret C hlocks hr h dX9_put_82
set_option maxRecDepth 100000 in
set_option maxHeartbeats 4000000 in
theorem m_X9_put_E {p : Program} {l : Launch} {e : Env} {s : State} {m : MethodId} {args : Array Value} {below : List Frame} {meth : Method} {c : Code} {D : va_G} {cA : Nat → ClassId} {ad : Nat → Nat} (C : Cx p s m args c cX9_put RX9 8 D cA shM ad zsM) (hlocks : meth.locks = false) (hr : meth.sig.returnType = none) {Q : St → Prop} {a1 a2 a3 a4 a5 a6 : Int} {σ : St} (h : wp_X9_put a1 a2 a3 a4 a5 a6 Q σ) : G p l e rm_X9_put s m args below meth c 0 0 8 D cA shM ad (QV D cA shM ad zsM below args s Q) σ [(0, .ref (ad 0)), (1, vI a1), (2, vI a2), (3, vI a3), (4, vI a4), (5, vI a5), (6, vI a6)] [] 0 := by
  unfold wp_X9_put at h
  refine g_sipush C dX9_put_0 (by decide) ?_
  refine g_iload_n C 1 1 rfl rfl dX9_put_3 ?_
  refine g_imul C dX9_put_4 ?_
  refine g_aload_n C 0 0 rfl rfl dX9_put_5 ?_
  refine g_get C iX9 (ci := 9) (o := 0) (v := .ref (ad 20)) rfl rfl 38 (by decide) rfl tw_X9_75 dX9_put_6 ?_
  refine g_iload_n C 3 3 rfl rfl dX9_put_9 ?_
  refine g_iconst C dX9_put_10 ?_
  refine g_icmp_ne C (y' := (-1)) rfl (by decide) 25 (by decide) dX9_put_11 (fun hc => ?_) (fun hc => ?_)
  · have h := h.1 hc
    refine g_iload_n C 2 2 rfl rfl dX9_put_25 ?_
    refine g_iload_n C 3 3 rfl rfl dX9_put_26 ?_
    refine g_iload C 4 4 rfl dX9_put_27 ?_
    refine g_iload C 5 5 rfl dX9_put_29 ?_
    refine g_callIs C (m_X9_key l D cA ad h) hv_X9_key tw_X9_223 (As := [vI a2, vI a3, vI a4, vI a5]) (st := [.ref (ad 20), vI (495 * a1)]) rfl rfl ⟨Nat.le_of_ble_eq_true rfl, Nat.le_of_ble_eq_true rfl⟩ rfl rfl (Nat.le_of_ble_eq_true rfl) dX9_put_31 (fun r2 σ1 h => ?_)
    try dsimp only at h
    exact g_pick [0, 1, 2, 3, 4, 5, 6] rfl (m_X9_put_B34 C hlocks hr h)
  · have h := h.2 hc
    refine g_iload_n C 2 2 rfl rfl dX9_put_14 ?_
    refine g_iload_n C 2 2 rfl rfl dX9_put_15 ?_
    refine g_iload_n C 2 2 rfl rfl dX9_put_16 ?_
    refine g_iload C 5 5 rfl dX9_put_17 ?_
    refine g_callIs C (m_X9_key l D cA ad h) hv_X9_key tw_X9_223 (As := [vI a2, vI a2, vI a2, vI a5]) (st := [.ref (ad 20), vI (495 * a1)]) rfl rfl ⟨Nat.le_of_ble_eq_true rfl, Nat.le_of_ble_eq_true rfl⟩ rfl rfl (Nat.le_of_ble_eq_true rfl) dX9_put_19 (fun r4 σ3 h => ?_)
    try dsimp only at h
    refine g_goto C 34 (by decide) dX9_put_22 ?_
    exact g_pick [0, 1, 2, 3, 4, 5, 6] rfl (m_X9_put_B34 C hlocks hr h)
set_option maxRecDepth 100000 in
set_option maxHeartbeats 4000000 in
theorem m_X9_put (l : Launch) (D : va_G) (cA : Nat → ClassId) (ad : Nat → Nat) {a1 a2 a3 a4 a5 a6 : Int} {Q : St → Prop} {σ : St} (h : wp_X9_put a1 a2 a3 a4 a5 a6 Q σ) : CtV l yX9_put (.code yX9_put cX9_put 8 none) rm_X9_put D cA shM ad zsM [.ref (ad 0), vI a1, vI a2, vI a3, vI a4, vI a5, vI a6] σ Q :=
  ct_V RX9 (by decide +kernel) rfl (Nat.le_of_ble_eq_true rfl) (fun p e s m args below meth c C hlocks hr => m_X9_put_E C hlocks hr h)
abbrev rm_X9_fill : Room := { frames := 6, cells := 0, slots := 0, locals := 133 }
set_option maxRecDepth 100000 in
set_option maxHeartbeats 4000000 in
theorem m_X9_fill_B132 {p : Program} {l : Launch} {e : Env} {s : State} {m : MethodId} {args : Array Value} {below : List Frame} {meth : Method} {c : Code} {D : va_G} {cA : Nat → ClassId} {ad : Nat → Nat} (C : Cx p s m args c cX9_fill RX9 9 D cA shM ad zsM) (hlocks : meth.locks = false) (hr : meth.sig.returnType = none) {Q : St → Prop} {K24 : Int → Int → Int → Int → Int → St → Prop} (hK24 : ∀ (x1 : Int) (x2 : Int) (x3 : Int) (x4 : Int) (x5 : Int) (σ : St), K24 x1 x2 x3 x4 x5 σ → G p l e rm_X9_fill s m args below meth c 0 0 9 D cA shM ad (QV D cA shM ad zsM below args s Q) σ [(0, .ref (ad 0)), (1, vI x1), (2, vI x2), (3, vI x3), (4, vI x4), (5, vI x5)] [] 24) {K37 : Int → Int → Int → Int → Int → Int → St → Prop} (hK37 : ∀ (x1 : Int) (x2 : Int) (x3 : Int) (x4 : Int) (x5 : Int) (x6 : Int) (σ : St), K37 x1 x2 x3 x4 x5 x6 σ → G p l e rm_X9_fill s m args below meth c 0 0 9 D cA shM ad (QV D cA shM ad zsM below args s Q) σ [(0, .ref (ad 0)), (1, vI x1), (2, vI x2), (3, vI x3), (4, vI x4), (5, vI x5), (6, vI x6)] [] 37) {x1 x2 x3 x4 x5 x6 : Int} {σ : St} (h : wp_X9_fill_B132 K24 K37 x1 x2 x3 x4 x5 x6 Q σ) : G p l e rm_X9_fill s m args below meth c 0 0 9 D cA shM ad (QV D cA shM ad zsM below args s Q) σ [(0, .ref (ad 0)), (1, vI x1), (2, vI x2), (3, vI x3), (4, vI x4), (5, vI x5), (6, vI x6)] [] 132 := by
  unfold wp_X9_fill_B132 at h
  refine g_iinc C 6 6 [(0, .ref (ad 0)), (1, vI x1), (2, vI x2), (3, vI x3), (4, vI x4), (5, vI x5)] rfl (by decide) rfl dX9_fill_132 (fun x_1 ex_1 => ?_)
  have h := h x_1 ex_1
  refine g_goto C 37 (by decide) dX9_fill_135 ?_
  exact g_pick [1, 2, 3, 4, 5, 6, 0] rfl (hK37 _ _ _ _ _ _ _ h)
set_option maxRecDepth 100000 in
set_option maxHeartbeats 4000000 in
theorem m_X9_fill_B126 {p : Program} {l : Launch} {e : Env} {s : State} {m : MethodId} {args : Array Value} {below : List Frame} {meth : Method} {c : Code} {D : va_G} {cA : Nat → ClassId} {ad : Nat → Nat} (C : Cx p s m args c cX9_fill RX9 9 D cA shM ad zsM) (hlocks : meth.locks = false) (hr : meth.sig.returnType = none) {Q : St → Prop} {K24 : Int → Int → Int → Int → Int → St → Prop} (hK24 : ∀ (x1 : Int) (x2 : Int) (x3 : Int) (x4 : Int) (x5 : Int) (σ : St), K24 x1 x2 x3 x4 x5 σ → G p l e rm_X9_fill s m args below meth c 0 0 9 D cA shM ad (QV D cA shM ad zsM below args s Q) σ [(0, .ref (ad 0)), (1, vI x1), (2, vI x2), (3, vI x3), (4, vI x4), (5, vI x5)] [] 24) {K37 : Int → Int → Int → Int → Int → Int → St → Prop} (hK37 : ∀ (x1 : Int) (x2 : Int) (x3 : Int) (x4 : Int) (x5 : Int) (x6 : Int) (σ : St), K37 x1 x2 x3 x4 x5 x6 σ → G p l e rm_X9_fill s m args below meth c 0 0 9 D cA shM ad (QV D cA shM ad zsM below args s Q) σ [(0, .ref (ad 0)), (1, vI x1), (2, vI x2), (3, vI x3), (4, vI x4), (5, vI x5), (6, vI x6)] [] 37) {K79 : Int → Int → Int → Int → Int → Int → Int → St → Prop} (hK79 : ∀ (x1 : Int) (x2 : Int) (x3 : Int) (x4 : Int) (x5 : Int) (x6 : Int) (x7 : Int) (σ : St), K79 x1 x2 x3 x4 x5 x6 x7 σ → G p l e rm_X9_fill s m args below meth c 0 0 9 D cA shM ad (QV D cA shM ad zsM below args s Q) σ [(0, .ref (ad 0)), (1, vI x1), (2, vI x2), (3, vI x3), (4, vI x4), (5, vI x5), (6, vI x6), (7, vI x7)] [] 79) {x1 x2 x3 x4 x5 x6 x7 : Int} {σ : St} (h : wp_X9_fill_B126 K24 K37 K79 x1 x2 x3 x4 x5 x6 x7 Q σ) : G p l e rm_X9_fill s m args below meth c 0 0 9 D cA shM ad (QV D cA shM ad zsM below args s Q) σ [(0, .ref (ad 0)), (1, vI x1), (2, vI x2), (3, vI x3), (4, vI x4), (5, vI x5), (6, vI x6), (7, vI x7)] [] 126 := by
  unfold wp_X9_fill_B126 at h
  refine g_iinc C 7 7 [(0, .ref (ad 0)), (1, vI x1), (2, vI x2), (3, vI x3), (4, vI x4), (5, vI x5), (6, vI x6)] rfl (by decide) rfl dX9_fill_126 (fun x_1 ex_1 => ?_)
  have h := h x_1 ex_1
  refine g_goto C 79 (by decide) dX9_fill_129 ?_
  exact g_pick [1, 2, 3, 4, 5, 6, 7, 0] rfl (hK79 _ _ _ _ _ _ _ _ h)
set_option maxRecDepth 100000 in
set_option maxHeartbeats 4000000 in
theorem m_X9_fill_L79 {p : Program} {l : Launch} {e : Env} {s : State} {m : MethodId} {args : Array Value} {below : List Frame} {meth : Method} {c : Code} {D : va_G} {cA : Nat → ClassId} {ad : Nat → Nat} (C : Cx p s m args c cX9_fill RX9 9 D cA shM ad zsM) (hlocks : meth.locks = false) (hr : meth.sig.returnType = none) {Q : St → Prop} {K24 : Int → Int → Int → Int → Int → St → Prop} (hK24 : ∀ (x1 : Int) (x2 : Int) (x3 : Int) (x4 : Int) (x5 : Int) (σ : St), K24 x1 x2 x3 x4 x5 σ → G p l e rm_X9_fill s m args below meth c 0 0 9 D cA shM ad (QV D cA shM ad zsM below args s Q) σ [(0, .ref (ad 0)), (1, vI x1), (2, vI x2), (3, vI x3), (4, vI x4), (5, vI x5)] [] 24) {K37 : Int → Int → Int → Int → Int → Int → St → Prop} (hK37 : ∀ (x1 : Int) (x2 : Int) (x3 : Int) (x4 : Int) (x5 : Int) (x6 : Int) (σ : St), K37 x1 x2 x3 x4 x5 x6 σ → G p l e rm_X9_fill s m args below meth c 0 0 9 D cA shM ad (QV D cA shM ad zsM below args s Q) σ [(0, .ref (ad 0)), (1, vI x1), (2, vI x2), (3, vI x3), (4, vI x4), (5, vI x5), (6, vI x6)] [] 37) : ∀ (n : Nat) (x1 : Int) (x2 : Int) (x3 : Int) (x4 : Int) (x5 : Int) (x6 : Int) (x7 : Int) (σ : St), wp_X9_fill_L79 K24 K37 Q n x1 x2 x3 x4 x5 x6 x7 σ → G p l e rm_X9_fill s m args below meth c 0 0 9 D cA shM ad (QV D cA shM ad zsM below args s Q) σ [(0, .ref (ad 0)), (1, vI x1), (2, vI x2), (3, vI x3), (4, vI x4), (5, vI x5), (6, vI x6), (7, vI x7)] [] 79 := by
  intro n
  induction n with
  | zero => intro _ _ _ _ _ _ _ _ h; exact h.elim
  | succ n ih =>
    intro x1 x2 x3 x4 x5 x6 x7 σ h
    simp only [wp_X9_fill_L79] at h
    refine g_iload C 7 7 rfl dX9_fill_79 ?_
    refine g_iload C 6 6 rfl dX9_fill_81 ?_
    refine g_icmp_gt C rfl rfl 132 (by decide) dX9_fill_83 (fun hc => ?_) (fun hc => ?_)
    · have h := h.1 hc
      exact g_pick [0, 1, 2, 3, 4, 5, 6] rfl (m_X9_fill_B132 C hlocks hr hK24 hK37 h)
    · have h := h.2 hc
      refine g_iload C 7 7 rfl dX9_fill_86 ?_
      refine g_iload C 6 6 rfl dX9_fill_88 ?_
      refine g_iadd C dX9_fill_90 ?_
      refine g_iload C 5 5 rfl dX9_fill_91 ?_
      refine g_isub C dX9_fill_93 ?_
      refine g_iload_n C 2 2 rfl rfl dX9_fill_94 ?_
      refine g_isub C dX9_fill_95 ?_
      refine g_name (fun x_1 ex_1 => ?_)
      have h := h x_1 ex_1
      refine g_istore C 8 [(0, .ref (ad 0)), (1, vI x1), (2, vI x2), (3, vI x3), (4, vI x4), (5, vI x5), (6, vI x6), (7, vI x7)] (by decide) rfl dX9_fill_96 ?_
      refine g_iload C 0 8 rfl dX9_fill_98 ?_
      refine g_iload C 8 7 rfl dX9_fill_100 ?_
      refine g_icmp_lt C rfl rfl 126 (by decide) dX9_fill_102 (fun hc => ?_) (fun hc => ?_)
      · have h := h.1 hc
        exact g_pick [1, 2, 3, 4, 5, 6, 7, 8] rfl (m_X9_fill_B126 C hlocks hr hK24 hK37 (fun _ _ _ _ _ _ _ _ h => ih _ _ _ _ _ _ _ _ h) h)
      · have h := h.2 hc
        refine g_iload C 0 8 rfl dX9_fill_105 ?_
        refine g_iload C 7 6 rfl dX9_fill_107 ?_
        refine g_icmp_gt C rfl rfl 126 (by decide) dX9_fill_109 (fun hc => ?_) (fun hc => ?_)
        · have h := h.1 hc
          exact g_pick [1, 2, 3, 4, 5, 6, 7, 8] rfl (m_X9_fill_B126 C hlocks hr hK24 hK37 (fun _ _ _ _ _ _ _ _ h => ih _ _ _ _ _ _ _ _ h) h)
        · have h := h.2 hc
          refine g_aload_n C 1 0 rfl rfl dX9_fill_112 ?_
          refine g_iload_n C 2 1 rfl rfl dX9_fill_113 ?_
          refine g_iload C 6 5 rfl dX9_fill_114 ?_
          refine g_iload C 8 7 rfl dX9_fill_116 ?_
          refine g_iload C 0 8 rfl dX9_fill_118 ?_
          refine g_iload C 7 6 rfl dX9_fill_120 ?_
          refine g_iload_n C 4 3 rfl rfl dX9_fill_122 ?_
          refine g_callVv C (m_X9_put l D cA ad h) hv_X9_put tw_X9_259 (o := 0) (ci := 9) (As := [vI x1, vI x5, vI x7, vI x_1, vI x6, vI x3]) (st := []) rfl rfl rfl rfl ⟨Nat.le_of_ble_eq_true rfl, Nat.le_of_ble_eq_true rfl⟩ rfl rfl (Nat.le_of_ble_eq_true rfl) dX9_fill_123 (fun σ2 h => ?_)
          try dsimp only at h
          exact g_pick [1, 2, 3, 4, 5, 6, 7, 8] rfl (m_X9_fill_B126 C hlocks hr hK24 hK37 (fun _ _ _ _ _ _ _ _ h => ih _ _ _ _ _ _ _ _ h) h)
set_option maxRecDepth 100000 in
set_option maxHeartbeats 4000000 in
theorem m_X9_fill_L37 {p : Program} {l : Launch} {e : Env} {s : State} {m : MethodId} {args : Array Value} {below : List Frame} {meth : Method} {c : Code} {D : va_G} {cA : Nat → ClassId} {ad : Nat → Nat} (C : Cx p s m args c cX9_fill RX9 9 D cA shM ad zsM) (hlocks : meth.locks = false) (hr : meth.sig.returnType = none) {Q : St → Prop} {K24 : Int → Int → Int → Int → Int → St → Prop} (hK24 : ∀ (x1 : Int) (x2 : Int) (x3 : Int) (x4 : Int) (x5 : Int) (σ : St), K24 x1 x2 x3 x4 x5 σ → G p l e rm_X9_fill s m args below meth c 0 0 9 D cA shM ad (QV D cA shM ad zsM below args s Q) σ [(0, .ref (ad 0)), (1, vI x1), (2, vI x2), (3, vI x3), (4, vI x4), (5, vI x5)] [] 24) : ∀ (n : Nat) (x1 : Int) (x2 : Int) (x3 : Int) (x4 : Int) (x5 : Int) (x6 : Int) (σ : St), wp_X9_fill_L37 K24 Q n x1 x2 x3 x4 x5 x6 σ → G p l e rm_X9_fill s m args below meth c 0 0 9 D cA shM ad (QV D cA shM ad zsM below args s Q) σ [(0, .ref (ad 0)), (1, vI x1), (2, vI x2), (3, vI x3), (4, vI x4), (5, vI x5), (6, vI x6)] [] 37 := by
  intro n
  induction n with
  | zero => intro _ _ _ _ _ _ _ h; exact h.elim
  | succ n ih =>
    intro x1 x2 x3 x4 x5 x6 σ h
    simp only [wp_X9_fill_L37] at h
    refine g_iload C 6 6 rfl dX9_fill_37 ?_
    refine g_aload_n C 0 0 rfl rfl dX9_fill_39 ?_
    refine g_get C iX9 (ci := 9) (o := 0) (v := vI (σ 0 26)) rfl rfl 26 (by decide) rfl tw_X9_220 dX9_fill_40 ?_
    refine g_icmp_gt C rfl rfl 138 (by decide) dX9_fill_43 (fun hc => ?_) (fun hc => ?_)
    · have h := h.1 hc
      refine g_iinc C 5 5 [(0, .ref (ad 0)), (1, vI x1), (2, vI x2), (3, vI x3), (4, vI x4), (6, vI x6)] rfl (by decide) rfl dX9_fill_138 (fun x_1 ex_1 => ?_)
      have h := h x_1 ex_1
      refine g_goto C 24 (by decide) dX9_fill_141 ?_
      exact g_pick [1, 2, 3, 4, 5, 0] rfl (hK24 _ _ _ _ _ _ h)
    · have h := h.2 hc
      refine g_iload C 4 4 rfl dX9_fill_46 ?_
      refine g_if_ne C rfl 75 (by decide) dX9_fill_48 (fun hc => ?_) (fun hc => ?_)
      · have h := h.1 hc
        refine g_iload C 5 5 rfl dX9_fill_75 ?_
        refine g_istore C 7 [(0, .ref (ad 0)), (1, vI x1), (2, vI x2), (3, vI x3), (4, vI x4), (5, vI x5), (6, vI x6)] (by decide) rfl dX9_fill_77 ?_
        obtain ⟨nn, h⟩ := h
        exact g_pick [1, 2, 3, 4, 5, 6, 7, 0] rfl (m_X9_fill_L79 C hlocks hr hK24 (fun _ _ _ _ _ _ _ h => ih _ _ _ _ _ _ _ h) nn _ _ _ _ _ _ _ _ h)
      · have h := h.2 hc
        refine g_iload C 6 6 rfl dX9_fill_51 ?_
        refine g_iload C 5 5 rfl dX9_fill_53 ?_
        refine g_isub C dX9_fill_55 ?_
        refine g_iload_n C 2 2 rfl rfl dX9_fill_56 ?_
        refine g_icmp_ne C rfl rfl 132 (by decide) dX9_fill_57 (fun hc => ?_) (fun hc => ?_)
        · have h := h.1 hc
          exact g_pick [0, 1, 2, 3, 4, 5, 6] rfl (m_X9_fill_B132 C hlocks hr hK24 (fun _ _ _ _ _ _ _ h => ih _ _ _ _ _ _ _ h) h)
        · have h := h.2 hc
          refine g_aload_n C 0 0 rfl rfl dX9_fill_60 ?_
          refine g_iload_n C 1 1 rfl rfl dX9_fill_61 ?_
          refine g_iload C 5 5 rfl dX9_fill_62 ?_
          refine g_iconst C dX9_fill_64 ?_
          refine g_iconst C dX9_fill_65 ?_
          refine g_iload C 6 6 rfl dX9_fill_66 ?_
          refine g_iload_n C 3 3 rfl rfl dX9_fill_68 ?_
          refine g_callVv C (m_X9_put l D cA ad h) hv_X9_put tw_X9_259 (o := 0) (ci := 9) (As := [vI x1, vI x5, vI (-1), vI (-1), vI x6, vI x3]) (st := []) rfl rfl rfl rfl ⟨Nat.le_of_ble_eq_true rfl, Nat.le_of_ble_eq_true rfl⟩ rfl rfl (Nat.le_of_ble_eq_true rfl) dX9_fill_69 (fun σ2 h => ?_)
          try dsimp only at h
          refine g_goto C 132 (by decide) dX9_fill_72 ?_
          exact g_pick [0, 1, 2, 3, 4, 5, 6] rfl (m_X9_fill_B132 C hlocks hr hK24 (fun _ _ _ _ _ _ _ h => ih _ _ _ _ _ _ _ h) h)
set_option maxRecDepth 100000 in
set_option maxHeartbeats 4000000 in
theorem m_X9_fill_L24 {p : Program} {l : Launch} {e : Env} {s : State} {m : MethodId} {args : Array Value} {below : List Frame} {meth : Method} {c : Code} {D : va_G} {cA : Nat → ClassId} {ad : Nat → Nat} (C : Cx p s m args c cX9_fill RX9 9 D cA shM ad zsM) (hlocks : meth.locks = false) (hr : meth.sig.returnType = none) {Q : St → Prop} : ∀ (n : Nat) (x1 : Int) (x2 : Int) (x3 : Int) (x4 : Int) (x5 : Int) (σ : St), wp_X9_fill_L24 Q n x1 x2 x3 x4 x5 σ → G p l e rm_X9_fill s m args below meth c 0 0 9 D cA shM ad (QV D cA shM ad zsM below args s Q) σ [(0, .ref (ad 0)), (1, vI x1), (2, vI x2), (3, vI x3), (4, vI x4), (5, vI x5)] [] 24 := by
  intro n
  induction n with
  | zero => intro _ _ _ _ _ _ h; exact h.elim
  | succ n ih =>
    intro x1 x2 x3 x4 x5 σ h
    simp only [wp_X9_fill_L24] at h
    refine g_iload C 5 5 rfl dX9_fill_24 ?_
    refine g_aload_n C 0 0 rfl rfl dX9_fill_26 ?_
    refine g_get C iX9 (ci := 9) (o := 0) (v := vI (σ 0 26)) rfl rfl 26 (by decide) rfl tw_X9_220 dX9_fill_27 ?_
    refine g_icmp_gt C rfl rfl 144 (by decide) dX9_fill_30 (fun hc => ?_) (fun hc => ?_)
    · have h := h.1 hc
      exact g_vret C hlocks hr h dX9_fill_144
    · have h := h.2 hc
      refine g_iload C 5 5 rfl dX9_fill_33 ?_
      refine g_istore C 6 [(0, .ref (ad 0)), (1, vI x1), (2, vI x2), (3, vI x3), (4, vI x4), (5, vI x5)] (by decide) rfl dX9_fill_35 ?_
      obtain ⟨nn, h⟩ := h
      exact g_pick [1, 2, 3, 4, 5, 6, 0] rfl (m_X9_fill_L37 C hlocks hr (fun _ _ _ _ _ _ h => ih _ _ _ _ _ _ h) nn _ _ _ _ _ _ _ h)
set_option maxRecDepth 100000 in
set_option maxHeartbeats 4000000 in
theorem m_X9_fill_B19 {p : Program} {l : Launch} {e : Env} {s : State} {m : MethodId} {args : Array Value} {below : List Frame} {meth : Method} {c : Code} {D : va_G} {cA : Nat → ClassId} {ad : Nat → Nat} (C : Cx p s m args c cX9_fill RX9 9 D cA shM ad zsM) (hlocks : meth.locks = false) (hr : meth.sig.returnType = none) {Q : St → Prop} {x1 x2 x3 y0 : Int} {σ : St} (h : wp_X9_fill_B19 x1 x2 x3 y0 Q σ) : G p l e rm_X9_fill s m args below meth c 0 0 9 D cA shM ad (QV D cA shM ad zsM below args s Q) σ [(0, .ref (ad 0)), (1, vI x1), (2, vI x2), (3, vI x3)] [vI y0] 19 := by
  unfold wp_X9_fill_B19 at h
  refine g_istore C 4 [(0, .ref (ad 0)), (1, vI x1), (2, vI x2), (3, vI x3)] (by decide) rfl dX9_fill_19 ?_
  refine g_iconst C dX9_fill_21 ?_
  refine g_istore C 5 [(4, vI y0), (0, .ref (ad 0)), (1, vI x1), (2, vI x2), (3, vI x3)] (by decide) rfl dX9_fill_22 ?_
  obtain ⟨nn, h⟩ := h
  exact g_pick [2, 3, 4, 5, 1, 0] rfl (m_X9_fill_L24 C hlocks hr nn _ _ _ _ _ _ h)
set_option maxRecDepth 100000 in
set_option maxHeartbeats 4000000 in
theorem m_X9_fill_E {p : Program} {l : Launch} {e : Env} {s : State} {m : MethodId} {args : Array Value} {below : List Frame} {meth : Method} {c : Code} {D : va_G} {cA : Nat → ClassId} {ad : Nat → Nat} (C : Cx p s m args c cX9_fill RX9 9 D cA shM ad zsM) (hlocks : meth.locks = false) (hr : meth.sig.returnType = none) {Q : St → Prop} {a1 a2 a3 : Int} {σ : St} (h : wp_X9_fill a1 a2 a3 Q σ) : G p l e rm_X9_fill s m args below meth c 0 0 9 D cA shM ad (QV D cA shM ad zsM below args s Q) σ [(0, .ref (ad 0)), (1, vI a1), (2, vI a2), (3, vI a3)] [] 0 := by
  unfold wp_X9_fill at h
  refine g_iload_n C 3 3 rfl rfl dX9_fill_0 ?_
  refine g_if_eq C rfl 13 (by decide) dX9_fill_1 (fun hc => ?_) (fun hc => ?_)
  · have h := h.1 hc
    refine g_aload_n C 0 0 rfl rfl dX9_fill_13 ?_
    refine g_get C iX9 (ci := 9) (o := 0) (v := .ref (ad 13)) rfl rfl 18 (by decide) rfl tw_X9_47 dX9_fill_14 ?_
    refine g_iload_n C 1 1 rfl rfl dX9_fill_17 ?_
    obtain ⟨hi, h⟩ := h
    refine g_zald C (o := 13) (N := 204) rfl rfl hi rfl dX9_fill_18 ?_
    exact g_pick [0, 1, 2, 3] rfl (m_X9_fill_B19 C hlocks hr h)
  · have h := h.2 hc
    refine g_aload_n C 0 0 rfl rfl dX9_fill_4 ?_
    refine g_get C iX9 (ci := 9) (o := 0) (v := .ref (ad 15)) rfl rfl 20 (by decide) rfl tw_X9_54 dX9_fill_5 ?_
    refine g_iload_n C 1 1 rfl rfl dX9_fill_8 ?_
    obtain ⟨hi, h⟩ := h
    refine g_zald C (o := 15) (N := 204) rfl rfl hi rfl dX9_fill_9 ?_
    refine g_goto C 19 (by decide) dX9_fill_10 ?_
    exact g_pick [0, 1, 2, 3] rfl (m_X9_fill_B19 C hlocks hr h)
set_option maxRecDepth 100000 in
set_option maxHeartbeats 4000000 in
theorem m_X9_fill (l : Launch) (D : va_G) (cA : Nat → ClassId) (ad : Nat → Nat) {a1 a2 a3 : Int} {Q : St → Prop} {σ : St} (h : wp_X9_fill a1 a2 a3 Q σ) : CtV l yX9_fill (.code yX9_fill cX9_fill 9 none) rm_X9_fill D cA shM ad zsM [.ref (ad 0), vI a1, vI a2, vI a3] σ Q :=
  ct_V RX9 (by decide +kernel) rfl (Nat.le_of_ble_eq_true rfl) (fun p e s m args below meth c C hlocks hr => m_X9_fill_E C hlocks hr h)
abbrev rm_X9_reckon : Room := { frames := 7, cells := 0, slots := 0, locals := 161 }
set_option maxRecDepth 100000 in
set_option maxHeartbeats 4000000 in
theorem m_X9_reckon_B72 {p : Program} {l : Launch} {e : Env} {s : State} {m : MethodId} {args : Array Value} {below : List Frame} {meth : Method} {c : Code} {D : va_G} {cA : Nat → ClassId} {ad : Nat → Nat} (C : Cx p s m args c cX9_reckon RX9 6 D cA shM ad zsM) (hlocks : meth.locks = false) (hr : meth.sig.returnType = none) {Q : St → Prop} {K2 : Int → Int → Int → St → Prop} (hK2 : ∀ (x1 : Int) (x2 : Int) (x3 : Int) (σ : St), K2 x1 x2 x3 σ → G p l e rm_X9_reckon s m args below meth c 0 0 6 D cA shM ad (QV D cA shM ad zsM below args s Q) σ [(0, .ref (ad 0)), (1, vI x1), (2, vI x2), (3, vI x3)] [] 2) {K20 : Int → Int → Int → Int → St → Prop} (hK20 : ∀ (x1 : Int) (x2 : Int) (x3 : Int) (x4 : Int) (σ : St), K20 x1 x2 x3 x4 σ → G p l e rm_X9_reckon s m args below meth c 0 0 6 D cA shM ad (QV D cA shM ad zsM below args s Q) σ [(0, .ref (ad 0)), (1, vI x1), (2, vI x2), (3, vI x3), (4, vI x4)] [] 20) {x1 x2 x3 x4 : Int} {σ : St} (h : wp_X9_reckon_B72 K2 K20 x1 x2 x3 x4 Q σ) : G p l e rm_X9_reckon s m args below meth c 0 0 6 D cA shM ad (QV D cA shM ad zsM below args s Q) σ [(0, .ref (ad 0)), (1, vI x1), (2, vI x2), (3, vI x3), (4, vI x4)] [] 72 := by
  unfold wp_X9_reckon_B72 at h
  refine g_iinc C 4 4 [(0, .ref (ad 0)), (1, vI x1), (2, vI x2), (3, vI x3)] rfl (by decide) rfl dX9_reckon_72 (fun x_1 ex_1 => ?_)
  have h := h x_1 ex_1
  refine g_goto C 20 (by decide) dX9_reckon_75 ?_
  exact g_pick [1, 2, 3, 4, 0] rfl (hK20 _ _ _ _ _ h)
set_option maxRecDepth 100000 in
set_option maxHeartbeats 4000000 in
theorem m_X9_reckon_B53 {p : Program} {l : Launch} {e : Env} {s : State} {m : MethodId} {args : Array Value} {below : List Frame} {meth : Method} {c : Code} {D : va_G} {cA : Nat → ClassId} {ad : Nat → Nat} (C : Cx p s m args c cX9_reckon RX9 6 D cA shM ad zsM) (hlocks : meth.locks = false) (hr : meth.sig.returnType = none) {Q : St → Prop} {K2 : Int → Int → Int → St → Prop} (hK2 : ∀ (x1 : Int) (x2 : Int) (x3 : Int) (σ : St), K2 x1 x2 x3 σ → G p l e rm_X9_reckon s m args below meth c 0 0 6 D cA shM ad (QV D cA shM ad zsM below args s Q) σ [(0, .ref (ad 0)), (1, vI x1), (2, vI x2), (3, vI x3)] [] 2) {K20 : Int → Int → Int → Int → St → Prop} (hK20 : ∀ (x1 : Int) (x2 : Int) (x3 : Int) (x4 : Int) (σ : St), K20 x1 x2 x3 x4 σ → G p l e rm_X9_reckon s m args below meth c 0 0 6 D cA shM ad (QV D cA shM ad zsM below args s Q) σ [(0, .ref (ad 0)), (1, vI x1), (2, vI x2), (3, vI x3), (4, vI x4)] [] 20) {x1 x2 x3 x4 x5 : Int} {σ : St} (h : wp_X9_reckon_B53 K2 K20 x1 x2 x3 x4 x5 Q σ) : G p l e rm_X9_reckon s m args below meth c 0 0 6 D cA shM ad (QV D cA shM ad zsM below args s Q) σ [(0, .ref (ad 0)), (1, vI x1), (2, vI x2), (3, vI x3), (4, vI x4), (5, vI x5)] [] 53 := by
  unfold wp_X9_reckon_B53 at h
  refine g_aload_n C 0 0 rfl rfl dX9_reckon_53 ?_
  refine g_get C iX9 (ci := 9) (o := 0) (v := .ref (ad 16)) rfl rfl 21 (by decide) rfl tw_X9_57 dX9_reckon_54 ?_
  refine g_iload C 5 5 rfl dX9_reckon_57 ?_
  obtain ⟨hi, h⟩ := h
  refine g_zald C (o := 16) (N := 204) rfl rfl hi rfl dX9_reckon_59 ?_
  refine g_iload_n C 2 2 rfl rfl dX9_reckon_60 ?_
  refine g_icmp_ne C rfl rfl 72 (by decide) dX9_reckon_61 (fun hc => ?_) (fun hc => ?_)
  · have h := h.1 hc
    exact g_pick [0, 1, 2, 3, 4] rfl (m_X9_reckon_B72 C hlocks hr hK2 hK20 h)
  · have h := h.2 hc
    refine g_aload_n C 0 0 rfl rfl dX9_reckon_64 ?_
    refine g_iload C 5 5 rfl dX9_reckon_65 ?_
    refine g_iload_n C 1 1 rfl rfl dX9_reckon_67 ?_
    refine g_iconst C dX9_reckon_68 ?_
    refine g_callVv C (m_X9_fill l D cA ad h) hv_X9_fill tw_X9_255 (o := 0) (ci := 9) (As := [vI x5, vI x1, vI 1]) (st := []) rfl rfl rfl rfl ⟨Nat.le_of_ble_eq_true rfl, Nat.le_of_ble_eq_true rfl⟩ rfl rfl (Nat.le_of_ble_eq_true rfl) dX9_reckon_69 (fun σ1 h => ?_)
    try dsimp only at h
    exact g_pick [0, 1, 2, 3, 4] rfl (m_X9_reckon_B72 C hlocks hr hK2 hK20 h)
set_option maxRecDepth 100000 in
set_option maxHeartbeats 4000000 in
theorem m_X9_reckon_L20 {p : Program} {l : Launch} {e : Env} {s : State} {m : MethodId} {args : Array Value} {below : List Frame} {meth : Method} {c : Code} {D : va_G} {cA : Nat → ClassId} {ad : Nat → Nat} (C : Cx p s m args c cX9_reckon RX9 6 D cA shM ad zsM) (hlocks : meth.locks = false) (hr : meth.sig.returnType = none) {Q : St → Prop} {K2 : Int → Int → Int → St → Prop} (hK2 : ∀ (x1 : Int) (x2 : Int) (x3 : Int) (σ : St), K2 x1 x2 x3 σ → G p l e rm_X9_reckon s m args below meth c 0 0 6 D cA shM ad (QV D cA shM ad zsM below args s Q) σ [(0, .ref (ad 0)), (1, vI x1), (2, vI x2), (3, vI x3)] [] 2) : ∀ (n : Nat) (x1 : Int) (x2 : Int) (x3 : Int) (x4 : Int) (σ : St), wp_X9_reckon_L20 K2 Q n x1 x2 x3 x4 σ → G p l e rm_X9_reckon s m args below meth c 0 0 6 D cA shM ad (QV D cA shM ad zsM below args s Q) σ [(0, .ref (ad 0)), (1, vI x1), (2, vI x2), (3, vI x3), (4, vI x4)] [] 20 := by
  intro n
  induction n with
  | zero => intro _ _ _ _ _ h; exact h.elim
  | succ n ih =>
    intro x1 x2 x3 x4 σ h
    simp only [wp_X9_reckon_L20] at h
    refine g_iload C 4 4 rfl dX9_reckon_20 ?_
    refine g_if_lt C rfl 78 (by decide) dX9_reckon_22 (fun hc => ?_) (fun hc => ?_)
    · have h := h.1 hc
      refine g_iinc C 3 3 [(0, .ref (ad 0)), (1, vI x1), (2, vI x2), (4, vI x4)] rfl (by decide) rfl dX9_reckon_78 (fun x_1 ex_1 => ?_)
      have h := h x_1 ex_1
      refine g_goto C 2 (by decide) dX9_reckon_81 ?_
      exact g_pick [1, 2, 3, 0] rfl (hK2 _ _ _ _ h)
    · have h := h.2 hc
      refine g_bipush C dX9_reckon_25 (by decide) ?_
      refine g_iload_n C 3 3 rfl rfl dX9_reckon_27 ?_
      refine g_imul C dX9_reckon_28 ?_
      refine g_iload C 4 4 rfl dX9_reckon_29 ?_
      refine g_iadd C dX9_reckon_31 ?_
      refine g_name (fun x_2 ex_2 => ?_)
      have h := h x_2 ex_2
      refine g_istore C 5 [(0, .ref (ad 0)), (1, vI x1), (2, vI x2), (3, vI x3), (4, vI x4)] (by decide) rfl dX9_reckon_32 ?_
      refine g_aload_n C 1 0 rfl rfl dX9_reckon_34 ?_
      refine g_get C iX9 (ci := 9) (o := 0) (v := .ref (ad 14)) rfl rfl 19 (by decide) rfl tw_X9_51 dX9_reckon_35 ?_
      refine g_iload C 0 5 rfl dX9_reckon_38 ?_
      obtain ⟨hi, h⟩ := h
      refine g_zald C (o := 14) (N := 204) rfl rfl hi rfl dX9_reckon_40 ?_
      refine g_iload_n C 3 2 rfl rfl dX9_reckon_41 ?_
      refine g_icmp_ne C rfl rfl 53 (by decide) dX9_reckon_42 (fun hc => ?_) (fun hc => ?_)
      · have h := h.1 hc
        exact g_pick [1, 2, 3, 4, 5, 0] rfl (m_X9_reckon_B53 C hlocks hr hK2 (fun _ _ _ _ _ h => ih _ _ _ _ _ h) h)
      · have h := h.2 hc
        refine g_aload_n C 1 0 rfl rfl dX9_reckon_45 ?_
        refine g_iload C 0 5 rfl dX9_reckon_46 ?_
        refine g_iload_n C 2 1 rfl rfl dX9_reckon_48 ?_
        refine g_iconst C dX9_reckon_49 ?_
        refine g_callVv C (m_X9_fill l D cA ad h) hv_X9_fill tw_X9_255 (o := 0) (ci := 9) (As := [vI x_2, vI x1, vI 0]) (st := []) rfl rfl rfl rfl ⟨Nat.le_of_ble_eq_true rfl, Nat.le_of_ble_eq_true rfl⟩ rfl rfl (Nat.le_of_ble_eq_true rfl) dX9_reckon_50 (fun σ3 h => ?_)
        try dsimp only at h
        exact g_pick [1, 2, 3, 4, 5, 0] rfl (m_X9_reckon_B53 C hlocks hr hK2 (fun _ _ _ _ _ h => ih _ _ _ _ _ h) h)
set_option maxRecDepth 100000 in
set_option maxHeartbeats 4000000 in
theorem m_X9_reckon_L2 {p : Program} {l : Launch} {e : Env} {s : State} {m : MethodId} {args : Array Value} {below : List Frame} {meth : Method} {c : Code} {D : va_G} {cA : Nat → ClassId} {ad : Nat → Nat} (C : Cx p s m args c cX9_reckon RX9 6 D cA shM ad zsM) (hlocks : meth.locks = false) (hr : meth.sig.returnType = none) {Q : St → Prop} : ∀ (n : Nat) (x1 : Int) (x2 : Int) (x3 : Int) (σ : St), wp_X9_reckon_L2 Q n x1 x2 x3 σ → G p l e rm_X9_reckon s m args below meth c 0 0 6 D cA shM ad (QV D cA shM ad zsM below args s Q) σ [(0, .ref (ad 0)), (1, vI x1), (2, vI x2), (3, vI x3)] [] 2 := by
  intro n
  induction n with
  | zero => intro _ _ _ _ h; exact h.elim
  | succ n ih =>
    intro x1 x2 x3 σ h
    simp only [wp_X9_reckon_L2] at h
    refine g_iload_n C 3 3 rfl rfl dX9_reckon_2 ?_
    refine g_aload_n C 0 0 rfl rfl dX9_reckon_3 ?_
    refine g_get C iX9 (ci := 9) (o := 0) (v := vI (σ 0 23)) rfl rfl 23 (by decide) rfl tw_X9_154 dX9_reckon_4 ?_
    refine g_icmp_ge C rfl rfl 84 (by decide) dX9_reckon_7 (fun hc => ?_) (fun hc => ?_)
    · have h := h.1 hc
      exact g_vret C hlocks hr h dX9_reckon_84
    · have h := h.2 hc
      refine g_aload_n C 0 0 rfl rfl dX9_reckon_10 ?_
      refine g_get C iX9 (ci := 9) (o := 0) (v := .ref (ad 17)) rfl rfl 22 (by decide) rfl tw_X9_60 dX9_reckon_11 ?_
      refine g_iload_n C 3 3 rfl rfl dX9_reckon_14 ?_
      obtain ⟨hi, h⟩ := h
      refine g_iald C (o := 17) (N := 17) rfl rfl hi rfl dX9_reckon_15 ?_
      refine g_iconst C dX9_reckon_16 ?_
      refine g_isub C dX9_reckon_17 ?_
      refine g_name (fun x_1 ex_1 => ?_)
      have h := h x_1 ex_1
      refine g_istore C 4 [(0, .ref (ad 0)), (1, vI x1), (2, vI x2), (3, vI x3)] (by decide) rfl dX9_reckon_18 ?_
      obtain ⟨nn, h⟩ := h
      exact g_pick [1, 2, 3, 4, 0] rfl (m_X9_reckon_L20 C hlocks hr (fun _ _ _ _ h => ih _ _ _ _ h) nn _ _ _ _ _ h)
set_option maxRecDepth 100000 in
set_option maxHeartbeats 4000000 in
theorem m_X9_reckon_E {p : Program} {l : Launch} {e : Env} {s : State} {m : MethodId} {args : Array Value} {below : List Frame} {meth : Method} {c : Code} {D : va_G} {cA : Nat → ClassId} {ad : Nat → Nat} (C : Cx p s m args c cX9_reckon RX9 6 D cA shM ad zsM) (hlocks : meth.locks = false) (hr : meth.sig.returnType = none) {Q : St → Prop} {a1 a2 : Int} {σ : St} (h : wp_X9_reckon a1 a2 Q σ) : G p l e rm_X9_reckon s m args below meth c 0 0 6 D cA shM ad (QV D cA shM ad zsM below args s Q) σ [(0, .ref (ad 0)), (1, vI a1), (2, vI a2)] [] 0 := by
  unfold wp_X9_reckon at h
  refine g_iconst C dX9_reckon_0 ?_
  refine g_istore_n C 3 [(0, .ref (ad 0)), (1, vI a1), (2, vI a2)] rfl (by decide) rfl dX9_reckon_1 ?_
  obtain ⟨nn, h⟩ := h
  exact g_pick [1, 2, 3, 0] rfl (m_X9_reckon_L2 C hlocks hr nn _ _ _ _ h)
set_option maxRecDepth 100000 in
set_option maxHeartbeats 4000000 in
theorem m_X9_reckon (l : Launch) (D : va_G) (cA : Nat → ClassId) (ad : Nat → Nat) {a1 a2 : Int} {Q : St → Prop} {σ : St} (h : wp_X9_reckon a1 a2 Q σ) : CtV l yX9_reckon (.code yX9_reckon cX9_reckon 6 none) rm_X9_reckon D cA shM ad zsM [.ref (ad 0), vI a1, vI a2] σ Q :=
  ct_V RX9 (by decide +kernel) rfl (Nat.le_of_ble_eq_true rfl) (fun p e s m args below meth c C hlocks hr => m_X9_reckon_E C hlocks hr h)
abbrev rm_X9_isGoal : Room := { frames := 1, cells := 0, slots := 0, locals := 0 }
set_option maxRecDepth 100000 in
set_option maxHeartbeats 4000000 in
theorem m_X9_isGoal_E {p : Program} {l : Launch} {e : Env} {s : State} {m : MethodId} {args : Array Value} {below : List Frame} {meth : Method} {c : Code} {D : va_G} {cA : Nat → ClassId} {ad : Nat → Nat} (C : Cx p s m args c cX9_isGoal RX9 2 D cA shM ad zsM) (hlocks : meth.locks = false) (hr : meth.sig.returnType = (some .boolean)) {Q : Int → St → Prop} {a1 : Int} {σ : St} (h : wp_X9_isGoal a1 Q σ) : G p l e rm_X9_isGoal s m args below meth c 0 0 2 D cA shM ad (QI D cA shM ad zsM below args s Q) σ [(0, .ref (ad 0)), (1, vI a1)] [] 0 := by
  unfold wp_X9_isGoal at h
  refine g_aload_n C 0 0 rfl rfl dX9_isGoal_0 ?_
  refine g_get C iX9 (ci := 9) (o := 0) (v := .ref (ad 7)) rfl rfl 12 (by decide) rfl tw_X9_29 dX9_isGoal_1 ?_
  refine g_bipush C dX9_isGoal_4 (by decide) ?_
  refine g_iload_n C 1 1 rfl rfl dX9_isGoal_6 ?_
  refine g_imul C dX9_isGoal_7 ?_
  obtain ⟨hi, h⟩ := h
  refine g_iald C (o := 7) (N := 204) rfl rfl hi rfl dX9_isGoal_8 ?_
  refine g_aload_n C 0 0 rfl rfl dX9_isGoal_9 ?_
  refine g_get C iX9 (ci := 9) (o := 0) (v := vI (σ 0 37)) rfl rfl 37 (by decide) rfl tw_X9_269 dX9_isGoal_10 ?_
  refine g_icmp_ne C rfl rfl 32 (by decide) dX9_isGoal_13 (fun hc => ?_) (fun hc => ?_)
  · have h := h.1 hc
    refine g_iconst C dX9_isGoal_32 ?_
    exact g_zret C hlocks hr (by decide) h dX9_isGoal_33
  · have h := h.2 hc
    refine g_aload_n C 0 0 rfl rfl dX9_isGoal_16 ?_
    refine g_get C iX9 (ci := 9) (o := 0) (v := .ref (ad 13)) rfl rfl 18 (by decide) rfl tw_X9_47 dX9_isGoal_17 ?_
    refine g_bipush C dX9_isGoal_20 (by decide) ?_
    refine g_iload_n C 1 1 rfl rfl dX9_isGoal_22 ?_
    refine g_imul C dX9_isGoal_23 ?_
    obtain ⟨hi, h⟩ := h
    refine g_zald C (o := 13) (N := 204) rfl rfl hi rfl dX9_isGoal_24 ?_
    refine g_if_ne C rfl 32 (by decide) dX9_isGoal_25 (fun hc => ?_) (fun hc => ?_)
    · have h := h.1 hc
      refine g_iconst C dX9_isGoal_32 ?_
      exact g_zret C hlocks hr (by decide) h dX9_isGoal_33
    · have h := h.2 hc
      refine g_iconst C dX9_isGoal_28 ?_
      refine g_goto C 33 (by decide) dX9_isGoal_29 ?_
      exact g_zret C hlocks hr (by decide) h dX9_isGoal_33
set_option maxRecDepth 100000 in
set_option maxHeartbeats 4000000 in
theorem m_X9_isGoal (l : Launch) (D : va_G) (cA : Nat → ClassId) (ad : Nat → Nat) {a1 : Int} {Q : Int → St → Prop} {σ : St} (h : wp_X9_isGoal a1 Q σ) : CtI l yX9_isGoal (.code yX9_isGoal cX9_isGoal 2 (some .boolean)) rm_X9_isGoal D cA shM ad zsM [.ref (ad 0), vI a1] σ Q :=
  ct_I RX9 (by decide +kernel) rfl (Nat.le_of_ble_eq_true rfl) (fun p e s m args below meth c C hlocks hr => m_X9_isGoal_E C hlocks hr h)
abbrev rm_X9_read : Room := { frames := 8, cells := 0, slots := 0, locals := 186 }
set_option maxRecDepth 100000 in
set_option maxHeartbeats 4000000 in
theorem m_X9_read_B208 {p : Program} {l : Launch} {e : Env} {s : State} {m : MethodId} {args : Array Value} {below : List Frame} {meth : Method} {c : Code} {D : va_G} {cA : Nat → ClassId} {ad : Nat → Nat} (C : Cx p s m args c cX9_read RX9 3 D cA shM ad zsM) (hlocks : meth.locks = false) (hr : meth.sig.returnType = (some .int)) {Q : Int → St → Prop} {K161 : Int → St → Prop} (hK161 : ∀ (x2 : Int) (σ : St), K161 x2 σ → G p l e rm_X9_read s m args below meth c 0 0 3 D cA shM ad (QI D cA shM ad zsM below args s Q) σ [(0, .ref (ad 0)), (2, vI x2)] [] 161) {x2 y1 : Int} {σ : St} (h : wp_X9_read_B208 K161 x2 y1 Q σ) : G p l e rm_X9_read s m args below meth c 0 0 3 D cA shM ad (QI D cA shM ad zsM below args s Q) σ [(0, .ref (ad 0)), (2, vI x2)] [vL y1, .ref (ad 0)] 208 := by
  unfold wp_X9_read_B208 at h
  refine g_put C iX9 (ci := 9) (o := 0) (z := y1) (ty := .long) rfl tyX9_ok nmX9 rfl 36 (by decide) rfl rfl tw_X9_71 rfl (by decide +kernel) rfl rfl dX9_read_208 (fun σ1 eσ1 => ?_)
  have h := h σ1 eσ1
  refine g_iinc C 1 2 [(0, .ref (ad 0))] rfl (by decide) rfl dX9_read_211 (fun x_2 ex_2 => ?_)
  have h := h x_2 ex_2
  refine g_goto C 161 (by decide) dX9_read_214 ?_
  exact g_pick [1, 0] rfl (hK161 _ _ h)
set_option maxRecDepth 100000 in
set_option maxHeartbeats 4000000 in
theorem m_X9_read_L161 {p : Program} {l : Launch} {e : Env} {s : State} {m : MethodId} {args : Array Value} {below : List Frame} {meth : Method} {c : Code} {D : va_G} {cA : Nat → ClassId} {ad : Nat → Nat} (C : Cx p s m args c cX9_read RX9 3 D cA shM ad zsM) (hlocks : meth.locks = false) (hr : meth.sig.returnType = (some .int)) {Q : Int → St → Prop} : ∀ (n : Nat) (x2 : Int) (σ : St), wp_X9_read_L161 Q n x2 σ → G p l e rm_X9_read s m args below meth c 0 0 3 D cA shM ad (QI D cA shM ad zsM below args s Q) σ [(0, .ref (ad 0)), (2, vI x2)] [] 161 := by
  intro n
  induction n with
  | zero => intro _ _ h; exact h.elim
  | succ n ih =>
    intro x2 σ h
    simp only [wp_X9_read_L161] at h
    refine g_iload_n C 1 2 rfl rfl dX9_read_161 ?_
    refine g_aload_n C 0 0 rfl rfl dX9_read_162 ?_
    refine g_get C iX9 (ci := 9) (o := 0) (v := vI (σ 0 23)) rfl rfl 23 (by decide) rfl tw_X9_154 dX9_read_163 ?_
    refine g_icmp_ge C rfl rfl 217 (by decide) dX9_read_166 (fun hc => ?_) (fun hc => ?_)
    · have h := h.1 hc
      refine g_aload_n C 0 0 rfl rfl dX9_read_217 ?_
      refine g_iconst C dX9_read_218 ?_
      refine g_put C iX9 (ci := 9) (o := 0) (z := 1) (ty := .boolean) rfl tyX9_ok nmX9 rfl 35 (by decide) rfl rfl tw_X9_210 rfl (by decide +kernel) (nar_z (by decide)) (fit_z (by decide)) dX9_read_219 (fun σ1 eσ1 => ?_)
      have h := h σ1 eσ1
      refine g_aload_n C 0 0 rfl rfl dX9_read_222 ?_
      refine g_get C iX9 (ci := 9) (o := 0) (v := vL (σ1 0 36)) rfl rfl 36 (by decide) rfl tw_X9_71 dX9_read_223 ?_
      refine g_l2i C dX9_read_226 ?_
      exact g_iret C hlocks hr h dX9_read_227
    · have h := h.2 hc
      refine g_aload_n C 0 0 rfl rfl dX9_read_169 ?_
      refine g_aload_n C 0 0 rfl rfl dX9_read_170 ?_
      refine g_iload_n C 1 2 rfl rfl dX9_read_171 ?_
      refine g_callIv C (m_X9_isGoal l D cA ad h) hv_X9_isGoal tw_X9_279 (o := 0) (ci := 9) (As := [vI x2]) (st := [.ref (ad 0)]) rfl rfl rfl rfl ⟨Nat.le_of_ble_eq_true rfl, Nat.le_of_ble_eq_true rfl⟩ rfl rfl (Nat.le_of_ble_eq_true rfl) dX9_read_172 (fun r3 σ2 h => ?_)
      try dsimp only at h
      refine g_if_eq C rfl 204 (by decide) dX9_read_175 (fun hc => ?_) (fun hc => ?_)
      · have h := h.1 hc
        refine g_aload_n C 0 0 rfl rfl dX9_read_204 ?_
        refine g_get C iX9 (ci := 9) (o := 0) (v := vL (σ2 0 36)) rfl rfl 36 (by decide) rfl tw_X9_71 dX9_read_205 ?_
        exact g_pick [0, 1] rfl (m_X9_read_B208 C hlocks hr (fun _ _ h => ih _ _ h) h)
      · have h := h.2 hc
        refine g_aload_n C 0 0 rfl rfl dX9_read_178 ?_
        refine g_get C iX9 (ci := 9) (o := 0) (v := vL (σ2 0 36)) rfl rfl 36 (by decide) rfl tw_X9_71 dX9_read_179 ?_
        refine g_aload_n C 0 0 rfl rfl dX9_read_182 ?_
        refine g_bipush C dX9_read_183 (by decide) ?_
        refine g_iload_n C 1 2 rfl rfl dX9_read_185 ?_
        refine g_imul C dX9_read_186 ?_
        refine g_iconst C dX9_read_187 ?_
        refine g_iconst C dX9_read_188 ?_
        refine g_iconst C dX9_read_189 ?_
        refine g_aload_n C 0 0 rfl rfl dX9_read_190 ?_
        refine g_get C iX9 (ci := 9) (o := 0) (v := vI (σ2 0 26)) rfl rfl 26 (by decide) rfl tw_X9_220 dX9_read_191 ?_
        refine g_callLv C (m_X9_lie l D cA ad h) hv_X9_lie tw_X9_229 (o := 0) (ci := 9) (As := [vI (12 * x2), vI 0, vI (-1), vI (-1), vI (σ2 0 26)]) (st := [vL (σ2 0 36), .ref (ad 0)]) rfl rfl rfl rfl ⟨Nat.le_of_ble_eq_true rfl, Nat.le_of_ble_eq_true rfl⟩ rfl rfl (Nat.le_of_ble_eq_true rfl) dX9_read_194 (fun r5 σ4 h => ?_)
        try dsimp only at h
        refine g_ladd C dX9_read_197 ?_
        refine g_callLs C (m_X9_least l D cA ad h) hv_X9_least tw_X9_236 (As := [vL ((σ2 0 36) + r5)]) (st := [.ref (ad 0)]) rfl rfl ⟨Nat.le_of_ble_eq_true rfl, Nat.le_of_ble_eq_true rfl⟩ rfl rfl (Nat.le_of_ble_eq_true rfl) dX9_read_198 (fun r7 σ6 h => ?_)
        try dsimp only at h
        refine g_goto C 208 (by decide) dX9_read_201 ?_
        exact g_pick [0, 1] rfl (m_X9_read_B208 C hlocks hr (fun _ _ h => ih _ _ h) h)
set_option maxRecDepth 100000 in
set_option maxHeartbeats 4000000 in
theorem m_X9_read_L128 {p : Program} {l : Launch} {e : Env} {s : State} {m : MethodId} {args : Array Value} {below : List Frame} {meth : Method} {c : Code} {D : va_G} {cA : Nat → ClassId} {ad : Nat → Nat} (C : Cx p s m args c cX9_read RX9 3 D cA shM ad zsM) (hlocks : meth.locks = false) (hr : meth.sig.returnType = (some .int)) {Q : Int → St → Prop} : ∀ (n : Nat) (x2 : Int) (σ : St), wp_X9_read_L128 Q n x2 σ → G p l e rm_X9_read s m args below meth c 0 0 3 D cA shM ad (QI D cA shM ad zsM below args s Q) σ [(0, .ref (ad 0)), (2, vI x2)] [] 128 := by
  intro n
  induction n with
  | zero => intro _ _ h; exact h.elim
  | succ n ih =>
    intro x2 σ h
    simp only [wp_X9_read_L128] at h
    refine g_iload_n C 1 2 rfl rfl dX9_read_128 ?_
    refine g_aload_n C 0 0 rfl rfl dX9_read_129 ?_
    refine g_get C iX9 (ci := 9) (o := 0) (v := vI (σ 0 26)) rfl rfl 26 (by decide) rfl tw_X9_220 dX9_read_130 ?_
    refine g_icmp_gt C rfl rfl 154 (by decide) dX9_read_133 (fun hc => ?_) (fun hc => ?_)
    · have h := h.1 hc
      refine g_aload_n C 0 0 rfl rfl dX9_read_154 ?_
      refine g_lconst C 0 (by decide) dX9_read_155 ?_
      refine g_put C iX9 (ci := 9) (o := 0) (z := 0) (ty := .long) rfl tyX9_ok nmX9 rfl 36 (by decide) rfl rfl tw_X9_71 rfl (by decide +kernel) rfl rfl dX9_read_156 (fun σ1 eσ1 => ?_)
      have h := h σ1 eσ1
      refine g_iconst C dX9_read_159 ?_
      refine g_istore_n C 2 [(0, .ref (ad 0))] rfl (by decide) rfl dX9_read_160 ?_
      obtain ⟨nn, h⟩ := h
      exact g_pick [1, 0] rfl (m_X9_read_L161 C hlocks hr nn _ _ h)
    · have h := h.2 hc
      refine g_aload_n C 0 0 rfl rfl dX9_read_136 ?_
      refine g_iload_n C 1 2 rfl rfl dX9_read_137 ?_
      refine g_iconst C dX9_read_138 ?_
      refine g_callVv C (m_X9_reckon l D cA ad h) hv_X9_reckon tw_X9_275 (o := 0) (ci := 9) (As := [vI x2, vI 1]) (st := []) rfl rfl rfl rfl ⟨Nat.le_of_ble_eq_true rfl, Nat.le_of_ble_eq_true rfl⟩ rfl rfl (Nat.le_of_ble_eq_true rfl) dX9_read_139 (fun σ2 h => ?_)
      try dsimp only at h
      refine g_aload_n C 0 0 rfl rfl dX9_read_142 ?_
      refine g_iload_n C 1 2 rfl rfl dX9_read_143 ?_
      refine g_iconst C dX9_read_144 ?_
      refine g_callVv C (m_X9_reckon l D cA ad h) hv_X9_reckon tw_X9_275 (o := 0) (ci := 9) (As := [vI x2, vI 0]) (st := []) rfl rfl rfl rfl ⟨Nat.le_of_ble_eq_true rfl, Nat.le_of_ble_eq_true rfl⟩ rfl rfl (Nat.le_of_ble_eq_true rfl) dX9_read_145 (fun σ3 h => ?_)
      try dsimp only at h
      refine g_iinc C 1 2 [(0, .ref (ad 0))] rfl (by decide) rfl dX9_read_148 (fun x_4 ex_4 => ?_)
      have h := h x_4 ex_4
      refine g_goto C 128 (by decide) dX9_read_151 ?_
      exact g_pick [1, 0] rfl (ih _ _ h)
set_option maxRecDepth 100000 in
set_option maxHeartbeats 4000000 in
theorem m_X9_read_L100 {p : Program} {l : Launch} {e : Env} {s : State} {m : MethodId} {args : Array Value} {below : List Frame} {meth : Method} {c : Code} {D : va_G} {cA : Nat → ClassId} {ad : Nat → Nat} (C : Cx p s m args c cX9_read RX9 3 D cA shM ad zsM) (hlocks : meth.locks = false) (hr : meth.sig.returnType = (some .int)) {Q : Int → St → Prop} : ∀ (n : Nat) (x2 : Int) (σ : St), wp_X9_read_L100 Q n x2 σ → G p l e rm_X9_read s m args below meth c 0 0 3 D cA shM ad (QI D cA shM ad zsM below args s Q) σ [(0, .ref (ad 0)), (2, vI x2)] [] 100 := by
  intro n
  induction n with
  | zero => intro _ _ h; exact h.elim
  | succ n ih =>
    intro x2 σ h
    simp only [wp_X9_read_L100] at h
    refine g_iload_n C 1 2 rfl rfl dX9_read_100 ?_
    refine g_ldc C (n := 95040) tw_X9_78 dX9_read_101 ?_
    refine g_icmp_ge C (y' := 95040) rfl (by decide) 126 (by decide) dX9_read_103 (fun hc => ?_) (fun hc => ?_)
    · have h := h.1 hc
      refine g_iconst C dX9_read_126 ?_
      refine g_istore_n C 2 [(0, .ref (ad 0))] rfl (by decide) rfl dX9_read_127 ?_
      obtain ⟨nn, h⟩ := h
      exact g_pick [1, 0] rfl (m_X9_read_L128 C hlocks hr nn _ _ h)
    · have h := h.2 hc
      refine g_aload_n C 0 0 rfl rfl dX9_read_106 ?_
      refine g_get C iX9 (ci := 9) (o := 0) (v := .ref (ad 21)) rfl rfl 39 (by decide) rfl tw_X9_79 dX9_read_107 ?_
      refine g_iload_n C 1 2 rfl rfl dX9_read_110 ?_
      refine g_lconst C 0 (by decide) dX9_read_111 ?_
      obtain ⟨hi, h⟩ := h
      refine g_last C (o := 21) (N := 95040) rfl rfl hi rfl dX9_read_112 (fun σ1 eσ1 => ?_)
      have h := h σ1 eσ1
      refine g_aload_n C 0 0 rfl rfl dX9_read_113 ?_
      refine g_get C iX9 (ci := 9) (o := 0) (v := .ref (ad 22)) rfl rfl 40 (by decide) rfl tw_X9_83 dX9_read_114 ?_
      refine g_iload_n C 1 2 rfl rfl dX9_read_117 ?_
      refine g_lconst C 0 (by decide) dX9_read_118 ?_
      obtain ⟨hi, h⟩ := h
      refine g_last C (o := 22) (N := 95040) rfl rfl hi rfl dX9_read_119 (fun σ2 eσ2 => ?_)
      have h := h σ2 eσ2
      refine g_iinc C 1 2 [(0, .ref (ad 0))] rfl (by decide) rfl dX9_read_120 (fun x_3 ex_3 => ?_)
      have h := h x_3 ex_3
      refine g_goto C 100 (by decide) dX9_read_123 ?_
      exact g_pick [1, 0] rfl (ih _ _ h)
set_option maxRecDepth 100000 in
set_option maxHeartbeats 4000000 in
theorem m_X9_read_B77 {p : Program} {l : Launch} {e : Env} {s : State} {m : MethodId} {args : Array Value} {below : List Frame} {meth : Method} {c : Code} {D : va_G} {cA : Nat → ClassId} {ad : Nat → Nat} (C : Cx p s m args c cX9_read RX9 3 D cA shM ad zsM) (hlocks : meth.locks = false) (hr : meth.sig.returnType = (some .int)) {Q : Int → St → Prop} {y0 : Int} {σ : St} (h : wp_X9_read_B77 y0 Q σ) : G p l e rm_X9_read s m args below meth c 0 0 3 D cA shM ad (QI D cA shM ad zsM below args s Q) σ [(0, .ref (ad 0))] [vI y0] 77 := by
  unfold wp_X9_read_B77 at h
  refine g_istore_n C 1 [(0, .ref (ad 0))] rfl (by decide) rfl dX9_read_77 ?_
  refine g_aload_n C 1 0 rfl rfl dX9_read_78 ?_
  refine g_iconst C dX9_read_79 ?_
  refine g_put C iX9 (ci := 9) (o := 0) (z := 0) (ty := .int) rfl tyX9_ok nmX9 rfl 2 (by decide) rfl rfl tw_X9_111 rfl (by decide +kernel) rfl rfl dX9_read_80 (fun σ1 eσ1 => ?_)
  have h := h σ1 eσ1
  refine g_iload_n C 0 1 rfl rfl dX9_read_83 ?_
  refine g_if_ne C rfl 94 (by decide) dX9_read_84 (fun hc => ?_) (fun hc => ?_)
  · have h := h.1 hc
    refine g_aload_n C 1 0 rfl rfl dX9_read_94 ?_
    refine g_callVv C (m_X9_number l D cA ad h) hv_X9_number tw_X9_272 (o := 0) (ci := 9) (As := []) (st := []) rfl rfl rfl rfl ⟨Nat.le_of_ble_eq_true rfl, Nat.le_of_ble_eq_true rfl⟩ rfl rfl (Nat.le_of_ble_eq_true rfl) dX9_read_95 (fun σ2 h => ?_)
    try dsimp only at h
    refine g_iconst C dX9_read_98 ?_
    refine g_istore_n C 2 [(1, vI y0), (0, .ref (ad 0))] rfl (by decide) rfl dX9_read_99 ?_
    obtain ⟨nn, h⟩ := h
    exact g_pick [2, 0] rfl (m_X9_read_L100 C hlocks hr nn _ _ h)
  · have h := h.2 hc
    refine g_iconst C dX9_read_87 ?_
    refine g_aload_n C 1 0 rfl rfl dX9_read_88 ?_
    refine g_get C iX9 (ci := 9) (o := 0) (v := vI (σ1 0 4)) rfl rfl 4 (by decide) rfl tw_X9_117 dX9_read_89 ?_
    refine g_isub C dX9_read_92 ?_
    exact g_iret C hlocks hr h dX9_read_93
set_option maxRecDepth 100000 in
set_option maxHeartbeats 4000000 in
theorem m_X9_read_B72 {p : Program} {l : Launch} {e : Env} {s : State} {m : MethodId} {args : Array Value} {below : List Frame} {meth : Method} {c : Code} {D : va_G} {cA : Nat → ClassId} {ad : Nat → Nat} (C : Cx p s m args c cX9_read RX9 3 D cA shM ad zsM) (hlocks : meth.locks = false) (hr : meth.sig.returnType = (some .int)) {Q : Int → St → Prop} {σ : St} (h : wp_X9_read_B72 Q σ) : G p l e rm_X9_read s m args below meth c 0 0 3 D cA shM ad (QI D cA shM ad zsM below args s Q) σ [(0, .ref (ad 0))] [] 72 := by
  unfold wp_X9_read_B72 at h
  refine g_iconst C dX9_read_72 ?_
  refine g_goto C 77 (by decide) dX9_read_73 ?_
  exact g_pick [0] rfl (m_X9_read_B77 C hlocks hr h)
set_option maxRecDepth 100000 in
set_option maxHeartbeats 4000000 in
theorem m_X9_read_B76 {p : Program} {l : Launch} {e : Env} {s : State} {m : MethodId} {args : Array Value} {below : List Frame} {meth : Method} {c : Code} {D : va_G} {cA : Nat → ClassId} {ad : Nat → Nat} (C : Cx p s m args c cX9_read RX9 3 D cA shM ad zsM) (hlocks : meth.locks = false) (hr : meth.sig.returnType = (some .int)) {Q : Int → St → Prop} {σ : St} (h : wp_X9_read_B76 Q σ) : G p l e rm_X9_read s m args below meth c 0 0 3 D cA shM ad (QI D cA shM ad zsM below args s Q) σ [(0, .ref (ad 0))] [] 76 := by
  unfold wp_X9_read_B76 at h
  refine g_iconst C dX9_read_76 ?_
  exact g_pick [0] rfl (m_X9_read_B77 C hlocks hr h)
set_option maxRecDepth 100000 in
set_option maxHeartbeats 4000000 in
theorem m_X9_read_B44 {p : Program} {l : Launch} {e : Env} {s : State} {m : MethodId} {args : Array Value} {below : List Frame} {meth : Method} {c : Code} {D : va_G} {cA : Nat → ClassId} {ad : Nat → Nat} (C : Cx p s m args c cX9_read RX9 3 D cA shM ad zsM) (hlocks : meth.locks = false) (hr : meth.sig.returnType = (some .int)) {Q : Int → St → Prop} {x1 y1 : Int} {σ : St} (h : wp_X9_read_B44 x1 y1 Q σ) : G p l e rm_X9_read s m args below meth c 0 0 3 D cA shM ad (QI D cA shM ad zsM below args s Q) σ [(0, .ref (ad 0)), (1, vI x1)] [vI y1, .ref (ad 0)] 44 := by
  unfold wp_X9_read_B44 at h
  refine g_put C iX9 (ci := 9) (o := 0) (z := y1) (ty := .int) rfl tyX9_ok nmX9 rfl 37 (by decide) rfl rfl tw_X9_269 rfl (by decide +kernel) rfl rfl dX9_read_44 (fun σ1 eσ1 => ?_)
  have h := h σ1 eσ1
  refine g_iload_n C 1 1 rfl rfl dX9_read_47 ?_
  refine g_if_eq C rfl 76 (by decide) dX9_read_48 (fun hc => ?_) (fun hc => ?_)
  · have h := h.1 hc
    exact g_pick [0] rfl (m_X9_read_B76 C hlocks hr h)
  · have h := h.2 hc
    refine g_aload_n C 0 0 rfl rfl dX9_read_51 ?_
    refine g_callIv C (m_X9_next l D cA ad h) hv_X9_next tw_X9_144 (o := 0) (ci := 9) (As := []) (st := []) rfl rfl rfl rfl ⟨Nat.le_of_ble_eq_true rfl, Nat.le_of_ble_eq_true rfl⟩ rfl rfl (Nat.le_of_ble_eq_true rfl) dX9_read_52 (fun r3 σ2 h => ?_)
    try dsimp only at h
    refine g_if_eq C rfl 76 (by decide) dX9_read_55 (fun hc => ?_) (fun hc => ?_)
    · have h := h.1 hc
      exact g_pick [0] rfl (m_X9_read_B76 C hlocks hr h)
    · have h := h.2 hc
      refine g_aload_n C 0 0 rfl rfl dX9_read_58 ?_
      refine g_get C iX9 (ci := 9) (o := 0) (v := vI (σ2 0 27)) rfl rfl 27 (by decide) rfl tw_X9_130 dX9_read_59 ?_
      refine g_if_eq C rfl 72 (by decide) dX9_read_62 (fun hc => ?_) (fun hc => ?_)
      · have h := h.1 hc
        exact g_pick [0] rfl (m_X9_read_B72 C hlocks hr h)
      · have h := h.2 hc
        refine g_aload_n C 0 0 rfl rfl dX9_read_65 ?_
        refine g_callIv C (m_X9_cannot l D cA ad h) hv_X9_cannot tw_X9_189 (o := 0) (ci := 9) (As := []) (st := []) rfl rfl rfl rfl ⟨Nat.le_of_ble_eq_true rfl, Nat.le_of_ble_eq_true rfl⟩ rfl rfl (Nat.le_of_ble_eq_true rfl) dX9_read_66 (fun r5 σ4 h => ?_)
        try dsimp only at h
        refine g_if_eq C rfl 76 (by decide) dX9_read_69 (fun hc => ?_) (fun hc => ?_)
        · have h := h.1 hc
          exact g_pick [0] rfl (m_X9_read_B76 C hlocks hr h)
        · have h := h.2 hc
          exact g_pick [0] rfl (m_X9_read_B72 C hlocks hr h)
set_option maxRecDepth 100000 in
set_option maxHeartbeats 4000000 in
theorem m_X9_read_B31 {p : Program} {l : Launch} {e : Env} {s : State} {m : MethodId} {args : Array Value} {below : List Frame} {meth : Method} {c : Code} {D : va_G} {cA : Nat → ClassId} {ad : Nat → Nat} (C : Cx p s m args c cX9_read RX9 3 D cA shM ad zsM) (hlocks : meth.locks = false) (hr : meth.sig.returnType = (some .int)) {Q : Int → St → Prop} {x1 : Int} {σ : St} (h : wp_X9_read_B31 x1 Q σ) : G p l e rm_X9_read s m args below meth c 0 0 3 D cA shM ad (QI D cA shM ad zsM below args s Q) σ [(0, .ref (ad 0)), (1, vI x1)] [] 31 := by
  unfold wp_X9_read_B31 at h
  refine g_aload_n C 0 0 rfl rfl dX9_read_31 ?_
  refine g_iload_n C 1 1 rfl rfl dX9_read_32 ?_
  refine g_if_eq C rfl 43 (by decide) dX9_read_33 (fun hc => ?_) (fun hc => ?_)
  · have h := h.1 hc
    refine g_iconst C dX9_read_43 ?_
    exact g_pick [0, 1] rfl (m_X9_read_B44 C hlocks hr h)
  · have h := h.2 hc
    refine g_aload_n C 0 0 rfl rfl dX9_read_36 ?_
    refine g_callIv C (m_X9_label l D cA ad h) hv_X9_label tw_X9_164 (o := 0) (ci := 9) (As := []) (st := [.ref (ad 0)]) rfl rfl rfl rfl ⟨Nat.le_of_ble_eq_true rfl, Nat.le_of_ble_eq_true rfl⟩ rfl rfl (Nat.le_of_ble_eq_true rfl) dX9_read_37 (fun r2 σ1 h => ?_)
    try dsimp only at h
    refine g_goto C 44 (by decide) dX9_read_40 ?_
    exact g_pick [0, 1] rfl (m_X9_read_B44 C hlocks hr h)
set_option maxRecDepth 100000 in
set_option maxHeartbeats 4000000 in
theorem m_X9_read_E {p : Program} {l : Launch} {e : Env} {s : State} {m : MethodId} {args : Array Value} {below : List Frame} {meth : Method} {c : Code} {D : va_G} {cA : Nat → ClassId} {ad : Nat → Nat} (C : Cx p s m args c cX9_read RX9 3 D cA shM ad zsM) (hlocks : meth.locks = false) (hr : meth.sig.returnType = (some .int)) {Q : Int → St → Prop} {σ : St} (h : wp_X9_read Q σ) : G p l e rm_X9_read s m args below meth c 0 0 3 D cA shM ad (QI D cA shM ad zsM below args s Q) σ [(0, .ref (ad 0))] [] 0 := by
  unfold wp_X9_read at h
  refine g_aload_n C 0 0 rfl rfl dX9_read_0 ?_
  refine g_iconst C dX9_read_1 ?_
  refine g_put C iX9 (ci := 9) (o := 0) (z := 0) (ty := .int) rfl tyX9_ok nmX9 rfl 0 (by decide) rfl rfl tw_X9_107 rfl (by decide +kernel) rfl rfl dX9_read_2 (fun σ1 eσ1 => ?_)
  have h := h σ1 eσ1
  refine g_aload_n C 0 0 rfl rfl dX9_read_5 ?_
  refine g_callVv C (m_X9_forget l D cA ad h) hv_X9_forget tw_X9_207 (o := 0) (ci := 9) (As := []) (st := []) rfl rfl rfl rfl ⟨Nat.le_of_ble_eq_true rfl, Nat.le_of_ble_eq_true rfl⟩ rfl rfl (Nat.le_of_ble_eq_true rfl) dX9_read_6 (fun σ2 h => ?_)
  try dsimp only at h
  refine g_aload_n C 0 0 rfl rfl dX9_read_9 ?_
  refine g_callIv C (m_X9_starts l D cA ad h) hv_X9_starts tw_X9_195 (o := 0) (ci := 9) (As := []) (st := []) rfl rfl rfl rfl ⟨Nat.le_of_ble_eq_true rfl, Nat.le_of_ble_eq_true rfl⟩ rfl rfl (Nat.le_of_ble_eq_true rfl) dX9_read_10 (fun r4 σ3 h => ?_)
  try dsimp only at h
  refine g_istore_n C 1 [(0, .ref (ad 0))] rfl (by decide) rfl dX9_read_13 ?_
  refine g_iload_n C 0 1 rfl rfl dX9_read_14 ?_
  refine g_if_eq C rfl 31 (by decide) dX9_read_15 (fun hc => ?_) (fun hc => ?_)
  · have h := h.1 hc
    exact g_pick [1, 0] rfl (m_X9_read_B31 C hlocks hr h)
  · have h := h.2 hc
    refine g_aload_n C 1 0 rfl rfl dX9_read_18 ?_
    refine g_get C iX9 (ci := 9) (o := 0) (v := vI (σ3 0 27)) rfl rfl 27 (by decide) rfl tw_X9_130 dX9_read_19 ?_
    refine g_iconst C dX9_read_22 ?_
    refine g_icmp_eq C (y' := 1) rfl (by decide) 31 (by decide) dX9_read_23 (fun hc => ?_) (fun hc => ?_)
    · have h := h.1 hc
      exact g_pick [1, 0] rfl (m_X9_read_B31 C hlocks hr h)
    · have h := h.2 hc
      refine g_aload_n C 1 0 rfl rfl dX9_read_26 ?_
      refine g_callIv C (m_X9_cannot l D cA ad h) hv_X9_cannot tw_X9_189 (o := 0) (ci := 9) (As := []) (st := []) rfl rfl rfl rfl ⟨Nat.le_of_ble_eq_true rfl, Nat.le_of_ble_eq_true rfl⟩ rfl rfl (Nat.le_of_ble_eq_true rfl) dX9_read_27 (fun r6 σ5 h => ?_)
      try dsimp only at h
      refine g_istore_n C 1 [(0, .ref (ad 0))] rfl (by decide) rfl dX9_read_30 ?_
      exact g_pick [1, 0] rfl (m_X9_read_B31 C hlocks hr h)
set_option maxRecDepth 100000 in
set_option maxHeartbeats 4000000 in
theorem m_X9_read (l : Launch) (D : va_G) (cA : Nat → ClassId) (ad : Nat → Nat) {Q : Int → St → Prop} {σ : St} (h : wp_X9_read Q σ) : CtI l yX9_read (.code yX9_read cX9_read 3 (some .int)) rm_X9_read D cA shM ad zsM [.ref (ad 0)] σ Q :=
  ct_I RX9 (by decide +kernel) rfl (Nat.le_of_ble_eq_true rfl) (fun p e s m args below meth c C hlocks hr => m_X9_read_E C hlocks hr h)
abbrev rm_X9_job : Room := { frames := 1, cells := 0, slots := 0, locals := 0 }
set_option maxRecDepth 100000 in
set_option maxHeartbeats 4000000 in
theorem m_X9_job_B44 {p : Program} {l : Launch} {e : Env} {s : State} {m : MethodId} {args : Array Value} {below : List Frame} {meth : Method} {c : Code} {D : va_G} {cA : Nat → ClassId} {ad : Nat → Nat} (C : Cx p s m args c cX9_job RX9 11 D cA shM ad zsM) (hlocks : meth.locks = false) (hr : meth.sig.returnType = none) {Q : St → Prop} {x4 x5 x6 x7 x8 x10 y1 y2 : Int} {σ : St} (h : wp_X9_job_B44 x4 x5 x6 x7 x8 x10 y1 y2 Q σ) : G p l e rm_X9_job s m args below meth c 0 0 11 D cA shM ad (QV D cA shM ad zsM below args s Q) σ [(0, .ref (ad 0)), (4, vI x4), (5, vI x5), (6, vI x6), (7, vI x7), (8, vL x8), (10, vI x10)] [vI y2, vI y1, .ref (ad 27)] 44 := by
  unfold wp_X9_job_B44 at h
  obtain ⟨hi, h⟩ := h
  refine g_iast C (o := 27) (N := 1400) rfl rfl hi rfl dX9_job_44 (fun σ1 eσ1 => ?_)
  have h := h σ1 eσ1
  refine g_aload_n C 0 0 rfl rfl dX9_job_45 ?_
  refine g_get C iX9 (ci := 9) (o := 0) (v := .ref (ad 27)) rfl rfl 46 (by decide) rfl tw_X9_98 dX9_job_46 ?_
  refine g_iload C 6 10 rfl dX9_job_49 ?_
  refine g_iconst C dX9_job_51 ?_
  refine g_iadd C dX9_job_52 ?_
  refine g_iload C 1 4 rfl dX9_job_53 ?_
  obtain ⟨hi, h⟩ := h
  refine g_iast C (o := 27) (N := 1400) rfl rfl hi rfl dX9_job_55 (fun σ2 eσ2 => ?_)
  have h := h σ2 eσ2
  refine g_aload_n C 0 0 rfl rfl dX9_job_56 ?_
  refine g_get C iX9 (ci := 9) (o := 0) (v := .ref (ad 27)) rfl rfl 46 (by decide) rfl tw_X9_98 dX9_job_57 ?_
  refine g_iload C 6 10 rfl dX9_job_60 ?_
  refine g_iconst C dX9_job_62 ?_
  refine g_iadd C dX9_job_63 ?_
  refine g_iload C 2 5 rfl dX9_job_64 ?_
  obtain ⟨hi, h⟩ := h
  refine g_iast C (o := 27) (N := 1400) rfl rfl hi rfl dX9_job_66 (fun σ3 eσ3 => ?_)
  have h := h σ3 eσ3
  refine g_aload_n C 0 0 rfl rfl dX9_job_67 ?_
  refine g_get C iX9 (ci := 9) (o := 0) (v := .ref (ad 27)) rfl rfl 46 (by decide) rfl tw_X9_98 dX9_job_68 ?_
  refine g_iload C 6 10 rfl dX9_job_71 ?_
  refine g_iconst C dX9_job_73 ?_
  refine g_iadd C dX9_job_74 ?_
  refine g_iload C 3 6 rfl dX9_job_75 ?_
  obtain ⟨hi, h⟩ := h
  refine g_iast C (o := 27) (N := 1400) rfl rfl hi rfl dX9_job_77 (fun σ4 eσ4 => ?_)
  have h := h σ4 eσ4
  refine g_aload_n C 0 0 rfl rfl dX9_job_78 ?_
  refine g_get C iX9 (ci := 9) (o := 0) (v := .ref (ad 27)) rfl rfl 46 (by decide) rfl tw_X9_98 dX9_job_79 ?_
  refine g_iload C 6 10 rfl dX9_job_82 ?_
  refine g_bipush C dX9_job_84 (by decide) ?_
  refine g_iadd C dX9_job_86 ?_
  refine g_iload C 4 7 rfl dX9_job_87 ?_
  obtain ⟨hi, h⟩ := h
  refine g_iast C (o := 27) (N := 1400) rfl rfl hi rfl dX9_job_89 (fun σ5 eσ5 => ?_)
  have h := h σ5 eσ5
  refine g_aload_n C 0 0 rfl rfl dX9_job_90 ?_
  refine g_get C iX9 (ci := 9) (o := 0) (v := .ref (ad 28)) rfl rfl 47 (by decide) rfl tw_X9_101 dX9_job_91 ?_
  refine g_aload_n C 0 0 rfl rfl dX9_job_94 ?_
  refine g_get C iX9 (ci := 9) (o := 0) (v := vI (σ5 0 48)) rfl rfl 48 (by decide) rfl tw_X9_282 dX9_job_95 ?_
  refine g_lload C 5 8 rfl dX9_job_98 ?_
  obtain ⟨hi, h⟩ := h
  refine g_last C (o := 28) (N := 200) rfl rfl hi rfl dX9_job_100 (fun σ6 eσ6 => ?_)
  have h := h σ6 eσ6
  refine g_aload_n C 0 0 rfl rfl dX9_job_101 ?_
  refine g_dup C rfl dX9_job_102 ?_
  refine g_get C iX9 (ci := 9) (o := 0) (v := vI (σ6 0 48)) rfl rfl 48 (by decide) rfl tw_X9_282 dX9_job_103 ?_
  refine g_iconst C dX9_job_106 ?_
  refine g_iadd C dX9_job_107 ?_
  refine g_put C iX9 (ci := 9) (o := 0) (z := ((σ6 0 48) + 1)) (ty := .int) rfl tyX9_ok nmX9 rfl 48 (by decide) rfl rfl tw_X9_282 rfl (by decide +kernel) rfl rfl dX9_job_108 (fun σ7 eσ7 => ?_)
  have h := h σ7 eσ7
  exact g_vret C hlocks hr h dX9_job_111
set_option maxRecDepth 100000 in
set_option maxHeartbeats 4000000 in
theorem m_X9_job_E {p : Program} {l : Launch} {e : Env} {s : State} {m : MethodId} {args : Array Value} {below : List Frame} {meth : Method} {c : Code} {D : va_G} {cA : Nat → ClassId} {ad : Nat → Nat} (C : Cx p s m args c cX9_job RX9 11 D cA shM ad zsM) (hlocks : meth.locks = false) (hr : meth.sig.returnType = none) {Q : St → Prop} {a1 a2 a3 a4 a5 a6 a7 a8 : Int} {σ : St} (h : wp_X9_job a1 a2 a3 a4 a5 a6 a7 a8 Q σ) : G p l e rm_X9_job s m args below meth c 0 0 11 D cA shM ad (QV D cA shM ad zsM below args s Q) σ [(0, .ref (ad 0)), (1, vI a1), (2, vI a2), (3, vI a3), (4, vI a4), (5, vI a5), (6, vI a6), (7, vI a7), (8, vL a8)] [] 0 := by
  unfold wp_X9_job at h
  refine g_bipush C dX9_job_0 (by decide) ?_
  refine g_aload_n C 0 0 rfl rfl dX9_job_2 ?_
  refine g_get C iX9 (ci := 9) (o := 0) (v := vI (σ 0 48)) rfl rfl 48 (by decide) rfl tw_X9_282 dX9_job_3 ?_
  refine g_imul C dX9_job_6 ?_
  refine g_name (fun x_1 ex_1 => ?_)
  have h := h x_1 ex_1
  refine g_istore C 10 [(0, .ref (ad 0)), (1, vI a1), (2, vI a2), (3, vI a3), (4, vI a4), (5, vI a5), (6, vI a6), (7, vI a7), (8, vL a8)] (by decide) rfl dX9_job_7 ?_
  refine g_aload_n C 1 0 rfl rfl dX9_job_9 ?_
  refine g_get C iX9 (ci := 9) (o := 0) (v := .ref (ad 27)) rfl rfl 46 (by decide) rfl tw_X9_98 dX9_job_10 ?_
  refine g_iload C 0 10 rfl dX9_job_13 ?_
  refine g_iload_n C 2 1 rfl rfl dX9_job_15 ?_
  obtain ⟨hi, h⟩ := h
  refine g_iast C (o := 27) (N := 1400) rfl rfl hi rfl dX9_job_16 (fun σ2 eσ2 => ?_)
  have h := h σ2 eσ2
  refine g_aload_n C 1 0 rfl rfl dX9_job_17 ?_
  refine g_get C iX9 (ci := 9) (o := 0) (v := .ref (ad 27)) rfl rfl 46 (by decide) rfl tw_X9_98 dX9_job_18 ?_
  refine g_iload C 0 10 rfl dX9_job_21 ?_
  refine g_iconst C dX9_job_23 ?_
  refine g_iadd C dX9_job_24 ?_
  refine g_iload_n C 3 2 rfl rfl dX9_job_25 ?_
  obtain ⟨hi, h⟩ := h
  refine g_iast C (o := 27) (N := 1400) rfl rfl hi rfl dX9_job_26 (fun σ3 eσ3 => ?_)
  have h := h σ3 eσ3
  refine g_aload_n C 1 0 rfl rfl dX9_job_27 ?_
  refine g_get C iX9 (ci := 9) (o := 0) (v := .ref (ad 27)) rfl rfl 46 (by decide) rfl tw_X9_98 dX9_job_28 ?_
  refine g_iload C 0 10 rfl dX9_job_31 ?_
  refine g_iconst C dX9_job_33 ?_
  refine g_iadd C dX9_job_34 ?_
  refine g_iload_n C 4 3 rfl rfl dX9_job_35 ?_
  refine g_if_eq C rfl 43 (by decide) dX9_job_36 (fun hc => ?_) (fun hc => ?_)
  · have h := h.1 hc
    refine g_iconst C dX9_job_43 ?_
    exact g_pick [1, 5, 6, 7, 8, 9, 0] rfl (m_X9_job_B44 C hlocks hr h)
  · have h := h.2 hc
    refine g_iconst C dX9_job_39 ?_
    refine g_goto C 44 (by decide) dX9_job_40 ?_
    exact g_pick [1, 5, 6, 7, 8, 9, 0] rfl (m_X9_job_B44 C hlocks hr h)
