abbrev rm_X9_thrown : Room := { frames := 1, cells := 0, slots := 0, locals := 0 }
set_option maxRecDepth 100000 in
set_option maxHeartbeats 4000000 in
theorem m_X9_thrown_E {p : Program} {l : Launch} {e : Env} {s : State} {m : MethodId} {args : Array Value} {below : List Frame} {meth : Method} {c : Code} {D : va_G} {cA : Nat → ClassId} {ad : Nat → Nat} (C : Cx p s m args c cX9_thrown RX9 1 D cA shM ad zsM) (hlocks : meth.locks = false) (hr : meth.sig.returnType = (some .int)) {Q : Int → St → Prop} {σ : St} (h : wp_X9_thrown Q σ) : G p l e rm_X9_thrown s m args below meth c 0 0 1 D cA shM ad (QI D cA shM ad zsM below args s Q) σ [(0, .ref (ad 0))] [] 0 := by
  unfold wp_X9_thrown at h
  refine g_aload_n C 0 0 rfl rfl dX9_thrown_0 ?_
  refine g_get C iX9 (ci := 9) (o := 0) (v := vI (σ 0 0)) rfl rfl 0 (by decide) rfl tw_X9_107 dX9_thrown_1 ?_
  exact g_iret C hlocks hr h dX9_thrown_4
set_option maxRecDepth 100000 in
set_option maxHeartbeats 4000000 in
theorem m_X9_thrown (l : Launch) (D : va_G) (cA : Nat → ClassId) (ad : Nat → Nat) {Q : Int → St → Prop} {σ : St} (h : wp_X9_thrown Q σ) : CtI l yX9_thrown (.code yX9_thrown cX9_thrown 1 (some .int)) rm_X9_thrown D cA shM ad zsM [.ref (ad 0)] σ Q :=
  ct_I RX9 (by decide +kernel) rfl (Nat.le_of_ble_eq_true rfl) (fun p e s m args below meth c C hlocks hr => m_X9_thrown_E C hlocks hr h)
abbrev rm_X9_feed : Room := { frames := 1, cells := 0, slots := 0, locals := 0 }
set_option maxRecDepth 100000 in
set_option maxHeartbeats 4000000 in
theorem m_X9_feed_B87 {p : Program} {l : Launch} {e : Env} {s : State} {m : MethodId} {args : Array Value} {below : List Frame} {meth : Method} {c : Code} {D : va_G} {cA : Nat → ClassId} {ad : Nat → Nat} (C : Cx p s m args c cX9_feed RX9 8 D cA shM ad zsM) (hlocks : meth.locks = false) (hr : meth.sig.returnType = (some .int)) {Q : Int → St → Prop} {K34 : Int → Int → Int → Int → Int → Int → St → Prop} (hK34 : ∀ (x1 : Int) (x2 : Int) (x3 : Int) (x4 : Int) (x5 : Int) (x6 : Int) (σ : St), K34 x1 x2 x3 x4 x5 x6 σ → G p l e rm_X9_feed s m args below meth c 0 0 8 D cA shM ad (QI D cA shM ad zsM below args s Q) σ [(0, .ref (ad 0)), (1, vI x1), (2, vI x2), (3, vI x3), (4, vI x4), (5, vI x5), (6, vI x6)] [] 34) {x1 x2 x3 x4 x5 x6 y0 : Int} {σ : St} (h : wp_X9_feed_B87 K34 x1 x2 x3 x4 x5 x6 y0 Q σ) : G p l e rm_X9_feed s m args below meth c 0 0 8 D cA shM ad (QI D cA shM ad zsM below args s Q) σ [(0, .ref (ad 0)), (1, vI x1), (2, vI x2), (3, vI x3), (4, vI x4), (5, vI x5), (6, vI x6)] [vI y0] 87 := by
  unfold wp_X9_feed_B87 at h
  refine g_istore C 7 [(0, .ref (ad 0)), (1, vI x1), (2, vI x2), (3, vI x3), (4, vI x4), (5, vI x5), (6, vI x6)] (by decide) rfl dX9_feed_87 ?_
  refine g_aload_n C 1 0 rfl rfl dX9_feed_89 ?_
  refine g_get C iX9 (ci := 9) (o := 0) (v := .ref (ad 1)) rfl rfl 1 (by decide) rfl tw_X9_7 dX9_feed_90 ?_
  refine g_aload_n C 1 0 rfl rfl dX9_feed_93 ?_
  refine g_get C iX9 (ci := 9) (o := 0) (v := vI (σ 0 2)) rfl rfl 2 (by decide) rfl tw_X9_111 dX9_feed_94 ?_
  refine g_iload C 0 7 rfl dX9_feed_97 ?_
  refine g_bipush C dX9_feed_99 (by decide) ?_
  refine g_bipush C dX9_feed_101 (by decide) ?_
  refine g_iload C 7 6 rfl dX9_feed_103 ?_
  refine g_iconst C dX9_feed_105 ?_
  refine g_irem C (by decide) dX9_feed_106 ?_
  refine g_imul C dX9_feed_107 ?_
  refine g_isub C dX9_feed_108 ?_
  refine g_ishr C dX9_feed_109 ?_
  refine g_i2b C dX9_feed_110 ?_
  obtain ⟨hi, h⟩ := h
  refine g_bast C (o := 1) (N := 1000) rfl rfl hi rfl dX9_feed_111 (fun σ1 eσ1 => ?_)
  have h := h σ1 eσ1
  refine g_aload_n C 1 0 rfl rfl dX9_feed_112 ?_
  refine g_dup C rfl dX9_feed_113 ?_
  refine g_get C iX9 (ci := 9) (o := 0) (v := vI (σ1 0 2)) rfl rfl 2 (by decide) rfl tw_X9_111 dX9_feed_114 ?_
  refine g_iconst C dX9_feed_117 ?_
  refine g_iadd C dX9_feed_118 ?_
  refine g_put C iX9 (ci := 9) (o := 0) (z := ((σ1 0 2) + 1)) (ty := .int) rfl tyX9_ok nmX9 rfl 2 (by decide) rfl rfl tw_X9_111 rfl (by decide +kernel) rfl rfl dX9_feed_119 (fun σ2 eσ2 => ?_)
  have h := h σ2 eσ2
  refine g_iinc C 7 6 [(7, vI y0), (0, .ref (ad 0)), (1, vI x1), (2, vI x2), (3, vI x3), (4, vI x4), (5, vI x5)] rfl (by decide) rfl dX9_feed_122 (fun x_3 ex_3 => ?_)
  have h := h x_3 ex_3
  refine g_goto C 34 (by decide) dX9_feed_125 ?_
  exact g_pick [2, 3, 4, 5, 6, 7, 0] rfl (hK34 _ _ _ _ _ _ _ h)
set_option maxRecDepth 100000 in
set_option maxHeartbeats 4000000 in
theorem m_X9_feed_L34 {p : Program} {l : Launch} {e : Env} {s : State} {m : MethodId} {args : Array Value} {below : List Frame} {meth : Method} {c : Code} {D : va_G} {cA : Nat → ClassId} {ad : Nat → Nat} (C : Cx p s m args c cX9_feed RX9 8 D cA shM ad zsM) (hlocks : meth.locks = false) (hr : meth.sig.returnType = (some .int)) {Q : Int → St → Prop} : ∀ (n : Nat) (x1 : Int) (x2 : Int) (x3 : Int) (x4 : Int) (x5 : Int) (x6 : Int) (σ : St), wp_X9_feed_L34 Q n x1 x2 x3 x4 x5 x6 σ → G p l e rm_X9_feed s m args below meth c 0 0 8 D cA shM ad (QI D cA shM ad zsM below args s Q) σ [(0, .ref (ad 0)), (1, vI x1), (2, vI x2), (3, vI x3), (4, vI x4), (5, vI x5), (6, vI x6)] [] 34 := by
  intro n
  induction n with
  | zero => intro _ _ _ _ _ _ _ h; exact h.elim
  | succ n ih =>
    intro x1 x2 x3 x4 x5 x6 σ h
    simp only [wp_X9_feed_L34] at h
    refine g_iload C 6 6 rfl dX9_feed_34 ?_
    refine g_bipush C dX9_feed_36 (by decide) ?_
    refine g_icmp_ge C (y' := 20) rfl (by decide) 128 (by decide) dX9_feed_38 (fun hc => ?_) (fun hc => ?_)
    · have h := h.1 hc
      refine g_aload_n C 0 0 rfl rfl dX9_feed_128 ?_
      refine g_get C iX9 (ci := 9) (o := 0) (v := vI (σ 0 2)) rfl rfl 2 (by decide) rfl tw_X9_111 dX9_feed_129 ?_
      exact g_iret C hlocks hr h dX9_feed_132
    · have h := h.2 hc
      refine g_iload C 6 6 rfl dX9_feed_41 ?_
      refine g_iconst C dX9_feed_43 ?_
      refine g_icmp_ge C (y' := 4) rfl (by decide) 51 (by decide) dX9_feed_44 (fun hc => ?_) (fun hc => ?_)
      · have h := h.1 hc
        refine g_iload C 6 6 rfl dX9_feed_51 ?_
        refine g_bipush C dX9_feed_53 (by decide) ?_
        refine g_icmp_ge C (y' := 8) rfl (by decide) 62 (by decide) dX9_feed_55 (fun hc => ?_) (fun hc => ?_)
        · have h := h.1 hc
          refine g_iload C 6 6 rfl dX9_feed_62 ?_
          refine g_bipush C dX9_feed_64 (by decide) ?_
          refine g_icmp_ge C (y' := 12) rfl (by decide) 73 (by decide) dX9_feed_66 (fun hc => ?_) (fun hc => ?_)
          · have h := h.1 hc
            refine g_iload C 6 6 rfl dX9_feed_73 ?_
            refine g_bipush C dX9_feed_75 (by decide) ?_
            refine g_icmp_ge C (y' := 16) rfl (by decide) 85 (by decide) dX9_feed_77 (fun hc => ?_) (fun hc => ?_)
            · have h := h.1 hc
              refine g_iload C 5 5 rfl dX9_feed_85 ?_
              exact g_pick [0, 1, 2, 3, 4, 5, 6] rfl (m_X9_feed_B87 C hlocks hr (fun _ _ _ _ _ _ _ h => ih _ _ _ _ _ _ _ h) h)
            · have h := h.2 hc
              refine g_iload C 4 4 rfl dX9_feed_80 ?_
              refine g_goto C 87 (by decide) dX9_feed_82 ?_
              exact g_pick [0, 1, 2, 3, 4, 5, 6] rfl (m_X9_feed_B87 C hlocks hr (fun _ _ _ _ _ _ _ h => ih _ _ _ _ _ _ _ h) h)
          · have h := h.2 hc
            refine g_iload_n C 3 3 rfl rfl dX9_feed_69 ?_
            refine g_goto C 87 (by decide) dX9_feed_70 ?_
            exact g_pick [0, 1, 2, 3, 4, 5, 6] rfl (m_X9_feed_B87 C hlocks hr (fun _ _ _ _ _ _ _ h => ih _ _ _ _ _ _ _ h) h)
        · have h := h.2 hc
          refine g_iload_n C 2 2 rfl rfl dX9_feed_58 ?_
          refine g_goto C 87 (by decide) dX9_feed_59 ?_
          exact g_pick [0, 1, 2, 3, 4, 5, 6] rfl (m_X9_feed_B87 C hlocks hr (fun _ _ _ _ _ _ _ h => ih _ _ _ _ _ _ _ h) h)
      · have h := h.2 hc
        refine g_iload_n C 1 1 rfl rfl dX9_feed_47 ?_
        refine g_goto C 87 (by decide) dX9_feed_48 ?_
        exact g_pick [0, 1, 2, 3, 4, 5, 6] rfl (m_X9_feed_B87 C hlocks hr (fun _ _ _ _ _ _ _ h => ih _ _ _ _ _ _ _ h) h)
set_option maxRecDepth 100000 in
set_option maxHeartbeats 4000000 in
theorem m_X9_feed_B19 {p : Program} {l : Launch} {e : Env} {s : State} {m : MethodId} {args : Array Value} {below : List Frame} {meth : Method} {c : Code} {D : va_G} {cA : Nat → ClassId} {ad : Nat → Nat} (C : Cx p s m args c cX9_feed RX9 8 D cA shM ad zsM) (hlocks : meth.locks = false) (hr : meth.sig.returnType = (some .int)) {Q : Int → St → Prop} {x1 x2 x3 x4 x5 y1 : Int} {σ : St} (h : wp_X9_feed_B19 x1 x2 x3 x4 x5 y1 Q σ) : G p l e rm_X9_feed s m args below meth c 0 0 8 D cA shM ad (QI D cA shM ad zsM below args s Q) σ [(0, .ref (ad 0)), (1, vI x1), (2, vI x2), (3, vI x3), (4, vI x4), (5, vI x5)] [vI y1, .ref (ad 0)] 19 := by
  unfold wp_X9_feed_B19 at h
  refine g_put C iX9 (ci := 9) (o := 0) (z := y1) (ty := .int) rfl tyX9_ok nmX9 rfl 0 (by decide) rfl rfl tw_X9_107 rfl (by decide +kernel) rfl rfl dX9_feed_19 (fun σ1 eσ1 => ?_)
  have h := h σ1 eσ1
  refine g_aload_n C 0 0 rfl rfl dX9_feed_22 ?_
  refine g_get C iX9 (ci := 9) (o := 0) (v := vI (σ1 0 0)) rfl rfl 0 (by decide) rfl tw_X9_107 dX9_feed_23 ?_
  refine g_if_le C rfl 31 (by decide) dX9_feed_26 (fun hc => ?_) (fun hc => ?_)
  · have h := h.1 hc
    refine g_iconst C dX9_feed_31 ?_
    refine g_istore C 6 [(0, .ref (ad 0)), (1, vI x1), (2, vI x2), (3, vI x3), (4, vI x4), (5, vI x5)] (by decide) rfl dX9_feed_32 ?_
    obtain ⟨nn, h⟩ := h
    exact g_pick [1, 2, 3, 4, 5, 6, 0] rfl (m_X9_feed_L34 C hlocks hr nn _ _ _ _ _ _ _ h)
  · have h := h.2 hc
    refine g_iconst C dX9_feed_29 ?_
    exact g_iret C hlocks hr h dX9_feed_30
set_option maxRecDepth 100000 in
set_option maxHeartbeats 4000000 in
theorem m_X9_feed_E {p : Program} {l : Launch} {e : Env} {s : State} {m : MethodId} {args : Array Value} {below : List Frame} {meth : Method} {c : Code} {D : va_G} {cA : Nat → ClassId} {ad : Nat → Nat} (C : Cx p s m args c cX9_feed RX9 8 D cA shM ad zsM) (hlocks : meth.locks = false) (hr : meth.sig.returnType = (some .int)) {Q : Int → St → Prop} {a1 a2 a3 a4 a5 : Int} {σ : St} (h : wp_X9_feed a1 a2 a3 a4 a5 Q σ) : G p l e rm_X9_feed s m args below meth c 0 0 8 D cA shM ad (QI D cA shM ad zsM below args s Q) σ [(0, .ref (ad 0)), (1, vI a1), (2, vI a2), (3, vI a3), (4, vI a4), (5, vI a5)] [] 0 := by
  unfold wp_X9_feed at h
  refine g_aload_n C 0 0 rfl rfl dX9_feed_0 ?_
  refine g_aload_n C 0 0 rfl rfl dX9_feed_1 ?_
  refine g_get C iX9 (ci := 9) (o := 0) (v := vI (σ 0 2)) rfl rfl 2 (by decide) rfl tw_X9_111 dX9_feed_2 ?_
  refine g_bipush C dX9_feed_5 (by decide) ?_
  refine g_iadd C dX9_feed_7 ?_
  refine g_sipush C dX9_feed_8 (by decide) ?_
  refine g_icmp_le C (y' := 1000) rfl (by decide) 18 (by decide) dX9_feed_11 (fun hc => ?_) (fun hc => ?_)
  · have h := h.1 hc
    refine g_iconst C dX9_feed_18 ?_
    exact g_pick [0, 1, 2, 3, 4, 5] rfl (m_X9_feed_B19 C hlocks hr h)
  · have h := h.2 hc
    refine g_iconst C dX9_feed_14 ?_
    refine g_goto C 19 (by decide) dX9_feed_15 ?_
    exact g_pick [0, 1, 2, 3, 4, 5] rfl (m_X9_feed_B19 C hlocks hr h)
set_option maxRecDepth 100000 in
set_option maxHeartbeats 4000000 in
theorem m_X9_feed (l : Launch) (D : va_G) (cA : Nat → ClassId) (ad : Nat → Nat) {a1 a2 a3 a4 a5 : Int} {Q : Int → St → Prop} {σ : St} (h : wp_X9_feed a1 a2 a3 a4 a5 Q σ) : CtI l yX9_feed (.code yX9_feed cX9_feed 8 (some .int)) rm_X9_feed D cA shM ad zsM [.ref (ad 0), vI a1, vI a2, vI a3, vI a4, vI a5] σ Q :=
  ct_I RX9 (by decide +kernel) rfl (Nat.le_of_ble_eq_true rfl) (fun p e s m args below meth c C hlocks hr => m_X9_feed_E C hlocks hr h)
abbrev rm_X9_end : Room := { frames := 1, cells := 0, slots := 0, locals := 0 }
set_option maxRecDepth 100000 in
set_option maxHeartbeats 4000000 in
theorem m_X9_end_B37 {p : Program} {l : Launch} {e : Env} {s : State} {m : MethodId} {args : Array Value} {below : List Frame} {meth : Method} {c : Code} {D : va_G} {cA : Nat → ClassId} {ad : Nat → Nat} (C : Cx p s m args c cX9_end RX9 2 D cA shM ad zsM) (hlocks : meth.locks = false) (hr : meth.sig.returnType = none) {Q : St → Prop} {y1 : Int} {σ : St} (h : wp_X9_end_B37 y1 Q σ) : G p l e rm_X9_end s m args below meth c 0 0 2 D cA shM ad (QV D cA shM ad zsM below args s Q) σ [] [vI y1, .ref (ad 0)] 37 := by
  unfold wp_X9_end_B37 at h
  refine g_put C iX9 (ci := 9) (o := 0) (z := y1) (ty := .int) rfl tyX9_ok nmX9 rfl 2 (by decide) rfl rfl tw_X9_111 rfl (by decide +kernel) rfl rfl dX9_end_37 (fun σ1 eσ1 => ?_)
  have h := h σ1 eσ1
  exact g_vret C hlocks hr h dX9_end_40
set_option maxRecDepth 100000 in
set_option maxHeartbeats 4000000 in
theorem m_X9_end_B18 {p : Program} {l : Launch} {e : Env} {s : State} {m : MethodId} {args : Array Value} {below : List Frame} {meth : Method} {c : Code} {D : va_G} {cA : Nat → ClassId} {ad : Nat → Nat} (C : Cx p s m args c cX9_end RX9 2 D cA shM ad zsM) (hlocks : meth.locks = false) (hr : meth.sig.returnType = none) {Q : St → Prop} {x1 y1 : Int} {σ : St} (h : wp_X9_end_B18 x1 y1 Q σ) : G p l e rm_X9_end s m args below meth c 0 0 2 D cA shM ad (QV D cA shM ad zsM below args s Q) σ [(0, .ref (ad 0)), (1, vI x1)] [vI y1, .ref (ad 0)] 18 := by
  unfold wp_X9_end_B18 at h
  refine g_put C iX9 (ci := 9) (o := 0) (z := y1) (ty := .int) rfl tyX9_ok nmX9 rfl 0 (by decide) rfl rfl tw_X9_107 rfl (by decide +kernel) rfl rfl dX9_end_18 (fun σ1 eσ1 => ?_)
  have h := h σ1 eσ1
  refine g_aload_n C 0 0 rfl rfl dX9_end_21 ?_
  refine g_aload_n C 0 0 rfl rfl dX9_end_22 ?_
  refine g_get C iX9 (ci := 9) (o := 0) (v := vI (σ1 0 0)) rfl rfl 0 (by decide) rfl tw_X9_107 dX9_end_23 ?_
  refine g_if_ne C rfl 33 (by decide) dX9_end_26 (fun hc => ?_) (fun hc => ?_)
  · have h := h.1 hc
    refine g_aload_n C 0 0 rfl rfl dX9_end_33 ?_
    refine g_get C iX9 (ci := 9) (o := 0) (v := vI (σ1 0 2)) rfl rfl 2 (by decide) rfl tw_X9_111 dX9_end_34 ?_
    exact g_pick [] rfl (m_X9_end_B37 C hlocks hr h)
  · have h := h.2 hc
    refine g_iload_n C 1 1 rfl rfl dX9_end_29 ?_
    refine g_goto C 37 (by decide) dX9_end_30 ?_
    exact g_pick [] rfl (m_X9_end_B37 C hlocks hr h)
set_option maxRecDepth 100000 in
set_option maxHeartbeats 4000000 in
theorem m_X9_end_B13 {p : Program} {l : Launch} {e : Env} {s : State} {m : MethodId} {args : Array Value} {below : List Frame} {meth : Method} {c : Code} {D : va_G} {cA : Nat → ClassId} {ad : Nat → Nat} (C : Cx p s m args c cX9_end RX9 2 D cA shM ad zsM) (hlocks : meth.locks = false) (hr : meth.sig.returnType = none) {Q : St → Prop} {x1 : Int} {σ : St} (h : wp_X9_end_B13 x1 Q σ) : G p l e rm_X9_end s m args below meth c 0 0 2 D cA shM ad (QV D cA shM ad zsM below args s Q) σ [(0, .ref (ad 0)), (1, vI x1)] [.ref (ad 0)] 13 := by
  unfold wp_X9_end_B13 at h
  refine g_iconst C dX9_end_13 ?_
  refine g_goto C 18 (by decide) dX9_end_14 ?_
  exact g_pick [0, 1] rfl (m_X9_end_B18 C hlocks hr h)
set_option maxRecDepth 100000 in
set_option maxHeartbeats 4000000 in
theorem m_X9_end_E {p : Program} {l : Launch} {e : Env} {s : State} {m : MethodId} {args : Array Value} {below : List Frame} {meth : Method} {c : Code} {D : va_G} {cA : Nat → ClassId} {ad : Nat → Nat} (C : Cx p s m args c cX9_end RX9 2 D cA shM ad zsM) (hlocks : meth.locks = false) (hr : meth.sig.returnType = none) {Q : St → Prop} {a1 : Int} {σ : St} (h : wp_X9_end a1 Q σ) : G p l e rm_X9_end s m args below meth c 0 0 2 D cA shM ad (QV D cA shM ad zsM below args s Q) σ [(0, .ref (ad 0)), (1, vI a1)] [] 0 := by
  unfold wp_X9_end at h
  refine g_aload_n C 0 0 rfl rfl dX9_end_0 ?_
  refine g_iload_n C 1 1 rfl rfl dX9_end_1 ?_
  refine g_if_lt C rfl 13 (by decide) dX9_end_2 (fun hc => ?_) (fun hc => ?_)
  · have h := h.1 hc
    exact g_pick [0, 1] rfl (m_X9_end_B13 C hlocks hr h)
  · have h := h.2 hc
    refine g_iload_n C 1 1 rfl rfl dX9_end_5 ?_
    refine g_aload_n C 0 0 rfl rfl dX9_end_6 ?_
    refine g_get C iX9 (ci := 9) (o := 0) (v := vI (σ 0 2)) rfl rfl 2 (by decide) rfl tw_X9_111 dX9_end_7 ?_
    refine g_icmp_le C rfl rfl 17 (by decide) dX9_end_10 (fun hc => ?_) (fun hc => ?_)
    · have h := h.1 hc
      refine g_iconst C dX9_end_17 ?_
      exact g_pick [0, 1] rfl (m_X9_end_B18 C hlocks hr h)
    · have h := h.2 hc
      exact g_pick [0, 1] rfl (m_X9_end_B13 C hlocks hr h)
set_option maxRecDepth 100000 in
set_option maxHeartbeats 4000000 in
theorem m_X9_end (l : Launch) (D : va_G) (cA : Nat → ClassId) (ad : Nat → Nat) {a1 : Int} {Q : St → Prop} {σ : St} (h : wp_X9_end a1 Q σ) : CtV l yX9_end (.code yX9_end cX9_end 2 none) rm_X9_end D cA shM ad zsM [.ref (ad 0), vI a1] σ Q :=
  ct_V RX9 (by decide +kernel) rfl (Nat.le_of_ble_eq_true rfl) (fun p e s m args below meth c C hlocks hr => m_X9_end_E C hlocks hr h)
abbrev rm_X9_fault : Room := { frames := 1, cells := 0, slots := 0, locals := 0 }
set_option maxRecDepth 100000 in
set_option maxHeartbeats 4000000 in
theorem m_X9_fault_E {p : Program} {l : Launch} {e : Env} {s : State} {m : MethodId} {args : Array Value} {below : List Frame} {meth : Method} {c : Code} {D : va_G} {cA : Nat → ClassId} {ad : Nat → Nat} (C : Cx p s m args c cX9_fault RX9 1 D cA shM ad zsM) (hlocks : meth.locks = false) (hr : meth.sig.returnType = (some .int)) {Q : Int → St → Prop} {σ : St} (h : wp_X9_fault Q σ) : G p l e rm_X9_fault s m args below meth c 0 0 1 D cA shM ad (QI D cA shM ad zsM below args s Q) σ [(0, .ref (ad 0))] [] 0 := by
  unfold wp_X9_fault at h
  refine g_aload_n C 0 0 rfl rfl dX9_fault_0 ?_
  refine g_iconst C dX9_fault_1 ?_
  refine g_put C iX9 (ci := 9) (o := 0) (z := 0) (ty := .int) rfl tyX9_ok nmX9 rfl 0 (by decide) rfl rfl tw_X9_107 rfl (by decide +kernel) rfl rfl dX9_fault_2 (fun σ1 eσ1 => ?_)
  have h := h σ1 eσ1
  refine g_aload_n C 0 0 rfl rfl dX9_fault_5 ?_
  refine g_get C iX9 (ci := 9) (o := 0) (v := vI (σ1 0 3)) rfl rfl 3 (by decide) rfl tw_X9_114 dX9_fault_6 ?_
  exact g_iret C hlocks hr h dX9_fault_9
set_option maxRecDepth 100000 in
set_option maxHeartbeats 4000000 in
theorem m_X9_fault (l : Launch) (D : va_G) (cA : Nat → ClassId) (ad : Nat → Nat) {Q : Int → St → Prop} {σ : St} (h : wp_X9_fault Q σ) : CtI l yX9_fault (.code yX9_fault cX9_fault 1 (some .int)) rm_X9_fault D cA shM ad zsM [.ref (ad 0)] σ Q :=
  ct_I RX9 (by decide +kernel) rfl (Nat.le_of_ble_eq_true rfl) (fun p e s m args below meth c C hlocks hr => m_X9_fault_E C hlocks hr h)
abbrev rm_X9_at : Room := { frames := 1, cells := 0, slots := 0, locals := 0 }
set_option maxRecDepth 100000 in
set_option maxHeartbeats 4000000 in
theorem m_X9_at_E {p : Program} {l : Launch} {e : Env} {s : State} {m : MethodId} {args : Array Value} {below : List Frame} {meth : Method} {c : Code} {D : va_G} {cA : Nat → ClassId} {ad : Nat → Nat} (C : Cx p s m args c cX9_at RX9 2 D cA shM ad zsM) (hlocks : meth.locks = false) (hr : meth.sig.returnType = (some .int)) {Q : Int → St → Prop} {a1 : Int} {σ : St} (h : wp_X9_at a1 Q σ) : G p l e rm_X9_at s m args below meth c 0 0 2 D cA shM ad (QI D cA shM ad zsM below args s Q) σ [(0, .ref (ad 0)), (1, vI a1)] [] 0 := by
  unfold wp_X9_at at h
  refine g_iload_n C 1 1 rfl rfl dX9_at_0 ?_
  refine g_aload_n C 0 0 rfl rfl dX9_at_1 ?_
  refine g_get C iX9 (ci := 9) (o := 0) (v := vI (σ 0 2)) rfl rfl 2 (by decide) rfl tw_X9_111 dX9_at_2 ?_
  refine g_icmp_ge C rfl rfl 21 (by decide) dX9_at_5 (fun hc => ?_) (fun hc => ?_)
  · have h := h.1 hc
    refine g_iconst C dX9_at_21 ?_
    exact g_iret C hlocks hr h dX9_at_22
  · have h := h.2 hc
    refine g_aload_n C 0 0 rfl rfl dX9_at_8 ?_
    refine g_get C iX9 (ci := 9) (o := 0) (v := .ref (ad 1)) rfl rfl 1 (by decide) rfl tw_X9_7 dX9_at_9 ?_
    refine g_iload_n C 1 1 rfl rfl dX9_at_12 ?_
    obtain ⟨hi, h⟩ := h
    refine g_bald C (o := 1) (N := 1000) rfl rfl hi rfl dX9_at_13 ?_
    refine g_sipush C dX9_at_14 (by decide) ?_
    refine g_iand C dX9_at_17 ?_
    refine g_goto C 22 (by decide) dX9_at_18 ?_
    exact g_iret C hlocks hr h dX9_at_22
set_option maxRecDepth 100000 in
set_option maxHeartbeats 4000000 in
theorem m_X9_at (l : Launch) (D : va_G) (cA : Nat → ClassId) (ad : Nat → Nat) {a1 : Int} {Q : Int → St → Prop} {σ : St} (h : wp_X9_at a1 Q σ) : CtI l yX9_at (.code yX9_at cX9_at 2 (some .int)) rm_X9_at D cA shM ad zsM [.ref (ad 0), vI a1] σ Q :=
  ct_I RX9 (by decide +kernel) rfl (Nat.le_of_ble_eq_true rfl) (fun p e s m args below meth c C hlocks hr => m_X9_at_E C hlocks hr h)
abbrev rm_X9_isGreat : Room := { frames := 1, cells := 0, slots := 0, locals := 0 }
set_option maxRecDepth 100000 in
set_option maxHeartbeats 4000000 in
theorem m_X9_isGreat_E {p : Program} {l : Launch} {e : Env} {s : State} {m : MethodId} {args : Array Value} {below : List Frame} {meth : Method} {c : Code} {D : va_G} {cA : Nat → ClassId} {ad : Nat → Nat} (C : Cx p s m args c cX9_isGreat RX9 1 D cA shM ad zsM) (hlocks : meth.locks = false) (hr : meth.sig.returnType = (some .boolean)) {Q : Int → St → Prop} {a0 : Int} {σ : St} (h : wp_X9_isGreat a0 Q σ) : G p l e rm_X9_isGreat s m args below meth c 0 0 1 D cA shM ad (QI D cA shM ad zsM below args s Q) σ [(0, vI a0)] [] 0 := by
  unfold wp_X9_isGreat at h
  refine g_iload_n C 0 0 rfl rfl dX9_isGreat_0 ?_
  refine g_bipush C dX9_isGreat_1 (by decide) ?_
  refine g_icmp_lt C (y' := 65) rfl (by decide) 16 (by decide) dX9_isGreat_3 (fun hc => ?_) (fun hc => ?_)
  · have h := h.1 hc
    refine g_iconst C dX9_isGreat_16 ?_
    exact g_zret C hlocks hr (by decide) h dX9_isGreat_17
  · have h := h.2 hc
    refine g_iload_n C 0 0 rfl rfl dX9_isGreat_6 ?_
    refine g_bipush C dX9_isGreat_7 (by decide) ?_
    refine g_icmp_gt C (y' := 90) rfl (by decide) 16 (by decide) dX9_isGreat_9 (fun hc => ?_) (fun hc => ?_)
    · have h := h.1 hc
      refine g_iconst C dX9_isGreat_16 ?_
      exact g_zret C hlocks hr (by decide) h dX9_isGreat_17
    · have h := h.2 hc
      refine g_iconst C dX9_isGreat_12 ?_
      refine g_goto C 17 (by decide) dX9_isGreat_13 ?_
      exact g_zret C hlocks hr (by decide) h dX9_isGreat_17
set_option maxRecDepth 100000 in
set_option maxHeartbeats 4000000 in
theorem m_X9_isGreat (l : Launch) (D : va_G) (cA : Nat → ClassId) (ad : Nat → Nat) {a0 : Int} {Q : Int → St → Prop} {σ : St} (h : wp_X9_isGreat a0 Q σ) : CtI l yX9_isGreat (.code yX9_isGreat cX9_isGreat 1 (some .boolean)) rm_X9_isGreat D cA shM ad zsM [vI a0] σ Q :=
  ct_I RX9 (by decide +kernel) rfl (Nat.le_of_ble_eq_true rfl) (fun p e s m args below meth c C hlocks hr => m_X9_isGreat_E C hlocks hr h)
abbrev rm_X9_isSmall : Room := { frames := 1, cells := 0, slots := 0, locals := 0 }
set_option maxRecDepth 100000 in
set_option maxHeartbeats 4000000 in
theorem m_X9_isSmall_E {p : Program} {l : Launch} {e : Env} {s : State} {m : MethodId} {args : Array Value} {below : List Frame} {meth : Method} {c : Code} {D : va_G} {cA : Nat → ClassId} {ad : Nat → Nat} (C : Cx p s m args c cX9_isSmall RX9 1 D cA shM ad zsM) (hlocks : meth.locks = false) (hr : meth.sig.returnType = (some .boolean)) {Q : Int → St → Prop} {a0 : Int} {σ : St} (h : wp_X9_isSmall a0 Q σ) : G p l e rm_X9_isSmall s m args below meth c 0 0 1 D cA shM ad (QI D cA shM ad zsM below args s Q) σ [(0, vI a0)] [] 0 := by
  unfold wp_X9_isSmall at h
  refine g_iload_n C 0 0 rfl rfl dX9_isSmall_0 ?_
  refine g_bipush C dX9_isSmall_1 (by decide) ?_
  refine g_icmp_lt C (y' := 97) rfl (by decide) 16 (by decide) dX9_isSmall_3 (fun hc => ?_) (fun hc => ?_)
  · have h := h.1 hc
    refine g_iconst C dX9_isSmall_16 ?_
    exact g_zret C hlocks hr (by decide) h dX9_isSmall_17
  · have h := h.2 hc
    refine g_iload_n C 0 0 rfl rfl dX9_isSmall_6 ?_
    refine g_bipush C dX9_isSmall_7 (by decide) ?_
    refine g_icmp_gt C (y' := 122) rfl (by decide) 16 (by decide) dX9_isSmall_9 (fun hc => ?_) (fun hc => ?_)
    · have h := h.1 hc
      refine g_iconst C dX9_isSmall_16 ?_
      exact g_zret C hlocks hr (by decide) h dX9_isSmall_17
    · have h := h.2 hc
      refine g_iconst C dX9_isSmall_12 ?_
      refine g_goto C 17 (by decide) dX9_isSmall_13 ?_
      exact g_zret C hlocks hr (by decide) h dX9_isSmall_17
set_option maxRecDepth 100000 in
set_option maxHeartbeats 4000000 in
theorem m_X9_isSmall (l : Launch) (D : va_G) (cA : Nat → ClassId) (ad : Nat → Nat) {a0 : Int} {Q : Int → St → Prop} {σ : St} (h : wp_X9_isSmall a0 Q σ) : CtI l yX9_isSmall (.code yX9_isSmall cX9_isSmall 1 (some .boolean)) rm_X9_isSmall D cA shM ad zsM [vI a0] σ Q :=
  ct_I RX9 (by decide +kernel) rfl (Nat.le_of_ble_eq_true rfl) (fun p e s m args below meth c C hlocks hr => m_X9_isSmall_E C hlocks hr h)
abbrev rm_X9_flaw : Room := { frames := 1, cells := 0, slots := 0, locals := 0 }
set_option maxRecDepth 100000 in
set_option maxHeartbeats 4000000 in
theorem m_X9_flaw_E {p : Program} {l : Launch} {e : Env} {s : State} {m : MethodId} {args : Array Value} {below : List Frame} {meth : Method} {c : Code} {D : va_G} {cA : Nat → ClassId} {ad : Nat → Nat} (C : Cx p s m args c cX9_flaw RX9 3 D cA shM ad zsM) (hlocks : meth.locks = false) (hr : meth.sig.returnType = (some .boolean)) {Q : Int → St → Prop} {a1 a2 : Int} {σ : St} (h : wp_X9_flaw a1 a2 Q σ) : G p l e rm_X9_flaw s m args below meth c 0 0 3 D cA shM ad (QI D cA shM ad zsM below args s Q) σ [(0, .ref (ad 0)), (1, vI a1), (2, vI a2)] [] 0 := by
  unfold wp_X9_flaw at h
  refine g_aload_n C 0 0 rfl rfl dX9_flaw_0 ?_
  refine g_iload_n C 1 1 rfl rfl dX9_flaw_1 ?_
  refine g_put C iX9 (ci := 9) (o := 0) (z := a1) (ty := .int) rfl tyX9_ok nmX9 rfl 3 (by decide) rfl rfl tw_X9_114 rfl (by decide +kernel) rfl rfl dX9_flaw_2 (fun σ1 eσ1 => ?_)
  have h := h σ1 eσ1
  refine g_aload_n C 0 0 rfl rfl dX9_flaw_5 ?_
  refine g_iload_n C 2 2 rfl rfl dX9_flaw_6 ?_
  refine g_put C iX9 (ci := 9) (o := 0) (z := a2) (ty := .int) rfl tyX9_ok nmX9 rfl 4 (by decide) rfl rfl tw_X9_117 rfl (by decide +kernel) rfl rfl dX9_flaw_7 (fun σ2 eσ2 => ?_)
  have h := h σ2 eσ2
  refine g_iconst C dX9_flaw_10 ?_
  exact g_zret C hlocks hr (by decide) h dX9_flaw_11
set_option maxRecDepth 100000 in
set_option maxHeartbeats 4000000 in
theorem m_X9_flaw (l : Launch) (D : va_G) (cA : Nat → ClassId) (ad : Nat → Nat) {a1 a2 : Int} {Q : Int → St → Prop} {σ : St} (h : wp_X9_flaw a1 a2 Q σ) : CtI l yX9_flaw (.code yX9_flaw cX9_flaw 3 (some .boolean)) rm_X9_flaw D cA shM ad zsM [.ref (ad 0), vI a1, vI a2] σ Q :=
  ct_I RX9 (by decide +kernel) rfl (Nat.le_of_ble_eq_true rfl) (fun p e s m args below meth c C hlocks hr => m_X9_flaw_E C hlocks hr h)
abbrev rm_X9_next : Room := { frames := 2, cells := 0, slots := 0, locals := 22 }
set_option maxRecDepth 100000 in
set_option maxHeartbeats 4000000 in
theorem m_X9_next_B71 {p : Program} {l : Launch} {e : Env} {s : State} {m : MethodId} {args : Array Value} {below : List Frame} {meth : Method} {c : Code} {D : va_G} {cA : Nat → ClassId} {ad : Nat → Nat} (C : Cx p s m args c cX9_next RX9 2 D cA shM ad zsM) (hlocks : meth.locks = false) (hr : meth.sig.returnType = (some .boolean)) {Q : Int → St → Prop} {K8 : St → Prop} (hK8 : ∀ (σ : St), K8 σ → G p l e rm_X9_next s m args below meth c 0 0 2 D cA shM ad (QI D cA shM ad zsM below args s Q) σ [(0, .ref (ad 0))] [] 8) {σ : St} (h : wp_X9_next_B71 K8 Q σ) : G p l e rm_X9_next s m args below meth c 0 0 2 D cA shM ad (QI D cA shM ad zsM below args s Q) σ [(0, .ref (ad 0))] [] 71 := by
  unfold wp_X9_next_B71 at h
  refine g_aload_n C 0 0 rfl rfl dX9_next_71 ?_
  refine g_dup C rfl dX9_next_72 ?_
  refine g_get C iX9 (ci := 9) (o := 0) (v := vI (σ 0 28)) rfl rfl 28 (by decide) rfl tw_X9_123 dX9_next_73 ?_
  refine g_iconst C dX9_next_76 ?_
  refine g_iadd C dX9_next_77 ?_
  refine g_put C iX9 (ci := 9) (o := 0) (z := ((σ 0 28) + 1)) (ty := .int) rfl tyX9_ok nmX9 rfl 28 (by decide) rfl rfl tw_X9_123 rfl (by decide +kernel) rfl rfl dX9_next_78 (fun σ1 eσ1 => ?_)
  have h := h σ1 eσ1
  refine g_goto C 8 (by decide) dX9_next_81 ?_
  exact g_pick [0] rfl (hK8  _ h)
set_option maxRecDepth 100000 in
set_option maxHeartbeats 4000000 in
theorem m_X9_next_B350 {p : Program} {l : Launch} {e : Env} {s : State} {m : MethodId} {args : Array Value} {below : List Frame} {meth : Method} {c : Code} {D : va_G} {cA : Nat → ClassId} {ad : Nat → Nat} (C : Cx p s m args c cX9_next RX9 2 D cA shM ad zsM) (hlocks : meth.locks = false) (hr : meth.sig.returnType = (some .boolean)) {Q : Int → St → Prop} {σ : St} (h : wp_X9_next_B350 Q σ) : G p l e rm_X9_next s m args below meth c 0 0 2 D cA shM ad (QI D cA shM ad zsM below args s Q) σ [] [] 350 := by
  unfold wp_X9_next_B350 at h
  refine g_iconst C dX9_next_350 ?_
  refine g_goto C 355 (by decide) dX9_next_351 ?_
  exact g_zret C hlocks hr (by decide) h dX9_next_355
set_option maxRecDepth 100000 in
set_option maxHeartbeats 4000000 in
theorem m_X9_next_B176 {p : Program} {l : Launch} {e : Env} {s : State} {m : MethodId} {args : Array Value} {below : List Frame} {meth : Method} {c : Code} {D : va_G} {cA : Nat → ClassId} {ad : Nat → Nat} (C : Cx p s m args c cX9_next RX9 2 D cA shM ad zsM) (hlocks : meth.locks = false) (hr : meth.sig.returnType = (some .boolean)) {Q : Int → St → Prop} {K136 : St → Prop} (hK136 : ∀ (σ : St), K136 σ → G p l e rm_X9_next s m args below meth c 0 0 2 D cA shM ad (QI D cA shM ad zsM below args s Q) σ [(0, .ref (ad 0))] [] 136) {σ : St} (h : wp_X9_next_B176 K136 Q σ) : G p l e rm_X9_next s m args below meth c 0 0 2 D cA shM ad (QI D cA shM ad zsM below args s Q) σ [(0, .ref (ad 0))] [] 176 := by
  unfold wp_X9_next_B176 at h
  refine g_aload_n C 0 0 rfl rfl dX9_next_176 ?_
  refine g_dup C rfl dX9_next_177 ?_
  refine g_get C iX9 (ci := 9) (o := 0) (v := vI (σ 0 29)) rfl rfl 29 (by decide) rfl tw_X9_120 dX9_next_178 ?_
  refine g_iconst C dX9_next_181 ?_
  refine g_iadd C dX9_next_182 ?_
  refine g_put C iX9 (ci := 9) (o := 0) (z := ((σ 0 29) + 1)) (ty := .int) rfl tyX9_ok nmX9 rfl 29 (by decide) rfl rfl tw_X9_120 rfl (by decide +kernel) rfl rfl dX9_next_183 (fun σ1 eσ1 => ?_)
  have h := h σ1 eσ1
  refine g_goto C 136 (by decide) dX9_next_186 ?_
  exact g_pick [0] rfl (hK136  _ h)
set_option maxRecDepth 100000 in
set_option maxHeartbeats 4000000 in
theorem m_X9_next_B220 {p : Program} {l : Launch} {e : Env} {s : State} {m : MethodId} {args : Array Value} {below : List Frame} {meth : Method} {c : Code} {D : va_G} {cA : Nat → ClassId} {ad : Nat → Nat} (C : Cx p s m args c cX9_next RX9 2 D cA shM ad zsM) (hlocks : meth.locks = false) (hr : meth.sig.returnType = (some .boolean)) {Q : Int → St → Prop} {σ : St} (h : wp_X9_next_B220 Q σ) : G p l e rm_X9_next s m args below meth c 0 0 2 D cA shM ad (QI D cA shM ad zsM below args s Q) σ [] [] 220 := by
  unfold wp_X9_next_B220 at h
  refine g_iconst C dX9_next_220 ?_
  refine g_goto C 225 (by decide) dX9_next_221 ?_
  exact g_zret C hlocks hr (by decide) h dX9_next_225
set_option maxRecDepth 100000 in
set_option maxHeartbeats 4000000 in
theorem m_X9_next_B189 {p : Program} {l : Launch} {e : Env} {s : State} {m : MethodId} {args : Array Value} {below : List Frame} {meth : Method} {c : Code} {D : va_G} {cA : Nat → ClassId} {ad : Nat → Nat} (C : Cx p s m args c cX9_next RX9 2 D cA shM ad zsM) (hlocks : meth.locks = false) (hr : meth.sig.returnType = (some .boolean)) {Q : Int → St → Prop} {σ : St} (h : wp_X9_next_B189 Q σ) : G p l e rm_X9_next s m args below meth c 0 0 2 D cA shM ad (QI D cA shM ad zsM below args s Q) σ [(0, .ref (ad 0))] [] 189 := by
  unfold wp_X9_next_B189 at h
  refine g_aload_n C 0 0 rfl rfl dX9_next_189 ?_
  refine g_iconst C dX9_next_190 ?_
  refine g_put C iX9 (ci := 9) (o := 0) (z := 1) (ty := .int) rfl tyX9_ok nmX9 rfl 27 (by decide) rfl rfl tw_X9_130 rfl (by decide +kernel) rfl rfl dX9_next_191 (fun σ1 eσ1 => ?_)
  have h := h σ1 eσ1
  refine g_aload_n C 0 0 rfl rfl dX9_next_194 ?_
  refine g_get C iX9 (ci := 9) (o := 0) (v := vI (σ1 0 29)) rfl rfl 29 (by decide) rfl tw_X9_120 dX9_next_195 ?_
  refine g_aload_n C 0 0 rfl rfl dX9_next_198 ?_
  refine g_get C iX9 (ci := 9) (o := 0) (v := vI (σ1 0 28)) rfl rfl 28 (by decide) rfl tw_X9_123 dX9_next_199 ?_
  refine g_isub C dX9_next_202 ?_
  refine g_bipush C dX9_next_203 (by decide) ?_
  refine g_icmp_le C (y' := 8) rfl (by decide) 220 (by decide) dX9_next_205 (fun hc => ?_) (fun hc => ?_)
  · have h := h.1 hc
    exact g_pick [] rfl (m_X9_next_B220 C hlocks hr h)
  · have h := h.2 hc
    refine g_aload_n C 0 0 rfl rfl dX9_next_208 ?_
    refine g_iconst C dX9_next_209 ?_
    refine g_aload_n C 0 0 rfl rfl dX9_next_210 ?_
    refine g_get C iX9 (ci := 9) (o := 0) (v := vI (σ1 0 28)) rfl rfl 28 (by decide) rfl tw_X9_123 dX9_next_211 ?_
    refine g_callIv C (m_X9_flaw l D cA ad h) hv_X9_flaw tw_X9_137 (o := 0) (ci := 9) (As := [vI 1, vI (σ1 0 28)]) (st := []) rfl rfl rfl rfl ⟨Nat.le_of_ble_eq_true rfl, Nat.le_of_ble_eq_true rfl⟩ rfl rfl (Nat.le_of_ble_eq_true rfl) dX9_next_214 (fun r3 σ2 h => ?_)
    try dsimp only at h
    refine g_if_eq C rfl 224 (by decide) dX9_next_217 (fun hc => ?_) (fun hc => ?_)
    · have h := h.1 hc
      refine g_iconst C dX9_next_224 ?_
      exact g_zret C hlocks hr (by decide) h dX9_next_225
    · have h := h.2 hc
      exact g_pick [] rfl (m_X9_next_B220 C hlocks hr h)
set_option maxRecDepth 100000 in
set_option maxHeartbeats 4000000 in
theorem m_X9_next_L136 {p : Program} {l : Launch} {e : Env} {s : State} {m : MethodId} {args : Array Value} {below : List Frame} {meth : Method} {c : Code} {D : va_G} {cA : Nat → ClassId} {ad : Nat → Nat} (C : Cx p s m args c cX9_next RX9 2 D cA shM ad zsM) (hlocks : meth.locks = false) (hr : meth.sig.returnType = (some .boolean)) {Q : Int → St → Prop} : ∀ (n : Nat) (σ : St), wp_X9_next_L136 Q n σ → G p l e rm_X9_next s m args below meth c 0 0 2 D cA shM ad (QI D cA shM ad zsM below args s Q) σ [(0, .ref (ad 0))] [] 136 := by
  intro n
  induction n with
  | zero => intro _ h; exact h.elim
  | succ n ih =>
    intro σ h
    simp only [wp_X9_next_L136] at h
    refine g_aload_n C 0 0 rfl rfl dX9_next_136 ?_
    refine g_aload_n C 0 0 rfl rfl dX9_next_137 ?_
    refine g_get C iX9 (ci := 9) (o := 0) (v := vI (σ 0 29)) rfl rfl 29 (by decide) rfl tw_X9_120 dX9_next_138 ?_
    refine g_callIv C (m_X9_at l D cA ad h) hv_X9_at tw_X9_126 (o := 0) (ci := 9) (As := [vI (σ 0 29)]) (st := []) rfl rfl rfl rfl ⟨Nat.le_of_ble_eq_true rfl, Nat.le_of_ble_eq_true rfl⟩ rfl rfl (Nat.le_of_ble_eq_true rfl) dX9_next_141 (fun r2 σ1 h => ?_)
    try dsimp only at h
    refine g_callIs C (m_X9_isGreat l D cA ad h) hv_X9_isGreat tw_X9_133 (As := [vI r2]) (st := []) rfl rfl ⟨Nat.le_of_ble_eq_true rfl, Nat.le_of_ble_eq_true rfl⟩ rfl rfl (Nat.le_of_ble_eq_true rfl) dX9_next_144 (fun r4 σ3 h => ?_)
    try dsimp only at h
    refine g_if_ne C rfl 176 (by decide) dX9_next_147 (fun hc => ?_) (fun hc => ?_)
    · have h := h.1 hc
      exact g_pick [0] rfl (m_X9_next_B176 C hlocks hr (fun  _ h => ih  _ h) h)
    · have h := h.2 hc
      refine g_aload_n C 0 0 rfl rfl dX9_next_150 ?_
      refine g_aload_n C 0 0 rfl rfl dX9_next_151 ?_
      refine g_get C iX9 (ci := 9) (o := 0) (v := vI (σ3 0 29)) rfl rfl 29 (by decide) rfl tw_X9_120 dX9_next_152 ?_
      refine g_callIv C (m_X9_at l D cA ad h) hv_X9_at tw_X9_126 (o := 0) (ci := 9) (As := [vI (σ3 0 29)]) (st := []) rfl rfl rfl rfl ⟨Nat.le_of_ble_eq_true rfl, Nat.le_of_ble_eq_true rfl⟩ rfl rfl (Nat.le_of_ble_eq_true rfl) dX9_next_155 (fun r6 σ5 h => ?_)
      try dsimp only at h
      refine g_bipush C dX9_next_158 (by decide) ?_
      refine g_icmp_lt C (y' := 48) rfl (by decide) 189 (by decide) dX9_next_160 (fun hc => ?_) (fun hc => ?_)
      · have h := h.1 hc
        exact g_pick [0] rfl (m_X9_next_B189 C hlocks hr h)
      · have h := h.2 hc
        refine g_aload_n C 0 0 rfl rfl dX9_next_163 ?_
        refine g_aload_n C 0 0 rfl rfl dX9_next_164 ?_
        refine g_get C iX9 (ci := 9) (o := 0) (v := vI (σ5 0 29)) rfl rfl 29 (by decide) rfl tw_X9_120 dX9_next_165 ?_
        refine g_callIv C (m_X9_at l D cA ad h) hv_X9_at tw_X9_126 (o := 0) (ci := 9) (As := [vI (σ5 0 29)]) (st := []) rfl rfl rfl rfl ⟨Nat.le_of_ble_eq_true rfl, Nat.le_of_ble_eq_true rfl⟩ rfl rfl (Nat.le_of_ble_eq_true rfl) dX9_next_168 (fun r8 σ7 h => ?_)
        try dsimp only at h
        refine g_bipush C dX9_next_171 (by decide) ?_
        refine g_icmp_gt C (y' := 57) rfl (by decide) 189 (by decide) dX9_next_173 (fun hc => ?_) (fun hc => ?_)
        · have h := h.1 hc
          exact g_pick [0] rfl (m_X9_next_B189 C hlocks hr h)
        · have h := h.2 hc
          exact g_pick [0] rfl (m_X9_next_B176 C hlocks hr (fun  _ h => ih  _ h) h)
set_option maxRecDepth 100000 in
set_option maxHeartbeats 4000000 in
theorem m_X9_next_B291 {p : Program} {l : Launch} {e : Env} {s : State} {m : MethodId} {args : Array Value} {below : List Frame} {meth : Method} {c : Code} {D : va_G} {cA : Nat → ClassId} {ad : Nat → Nat} (C : Cx p s m args c cX9_next RX9 2 D cA shM ad zsM) (hlocks : meth.locks = false) (hr : meth.sig.returnType = (some .boolean)) {Q : Int → St → Prop} {σ : St} (h : wp_X9_next_B291 Q σ) : G p l e rm_X9_next s m args below meth c 0 0 2 D cA shM ad (QI D cA shM ad zsM below args s Q) σ [] [] 291 := by
  unfold wp_X9_next_B291 at h
  refine g_iconst C dX9_next_291 ?_
  refine g_goto C 296 (by decide) dX9_next_292 ?_
  exact g_zret C hlocks hr (by decide) h dX9_next_296
set_option maxRecDepth 100000 in
set_option maxHeartbeats 4000000 in
theorem m_X9_next_L233 {p : Program} {l : Launch} {e : Env} {s : State} {m : MethodId} {args : Array Value} {below : List Frame} {meth : Method} {c : Code} {D : va_G} {cA : Nat → ClassId} {ad : Nat → Nat} (C : Cx p s m args c cX9_next RX9 2 D cA shM ad zsM) (hlocks : meth.locks = false) (hr : meth.sig.returnType = (some .boolean)) {Q : Int → St → Prop} : ∀ (n : Nat) (σ : St), wp_X9_next_L233 Q n σ → G p l e rm_X9_next s m args below meth c 0 0 2 D cA shM ad (QI D cA shM ad zsM below args s Q) σ [(0, .ref (ad 0))] [] 233 := by
  intro n
  induction n with
  | zero => intro _ h; exact h.elim
  | succ n ih =>
    intro σ h
    simp only [wp_X9_next_L233] at h
    refine g_aload_n C 0 0 rfl rfl dX9_next_233 ?_
    refine g_aload_n C 0 0 rfl rfl dX9_next_234 ?_
    refine g_get C iX9 (ci := 9) (o := 0) (v := vI (σ 0 29)) rfl rfl 29 (by decide) rfl tw_X9_120 dX9_next_235 ?_
    refine g_callIv C (m_X9_at l D cA ad h) hv_X9_at tw_X9_126 (o := 0) (ci := 9) (As := [vI (σ 0 29)]) (st := []) rfl rfl rfl rfl ⟨Nat.le_of_ble_eq_true rfl, Nat.le_of_ble_eq_true rfl⟩ rfl rfl (Nat.le_of_ble_eq_true rfl) dX9_next_238 (fun r2 σ1 h => ?_)
    try dsimp only at h
    refine g_callIs C (m_X9_isSmall l D cA ad h) hv_X9_isSmall tw_X9_141 (As := [vI r2]) (st := []) rfl rfl ⟨Nat.le_of_ble_eq_true rfl, Nat.le_of_ble_eq_true rfl⟩ rfl rfl (Nat.le_of_ble_eq_true rfl) dX9_next_241 (fun r4 σ3 h => ?_)
    try dsimp only at h
    refine g_if_eq C rfl 260 (by decide) dX9_next_244 (fun hc => ?_) (fun hc => ?_)
    · have h := h.1 hc
      refine g_aload_n C 0 0 rfl rfl dX9_next_260 ?_
      refine g_iconst C dX9_next_261 ?_
      refine g_put C iX9 (ci := 9) (o := 0) (z := 2) (ty := .int) rfl tyX9_ok nmX9 rfl 27 (by decide) rfl rfl tw_X9_130 rfl (by decide +kernel) rfl rfl dX9_next_262 (fun σ5 eσ5 => ?_)
      have h := h σ5 eσ5
      refine g_aload_n C 0 0 rfl rfl dX9_next_265 ?_
      refine g_get C iX9 (ci := 9) (o := 0) (v := vI (σ5 0 29)) rfl rfl 29 (by decide) rfl tw_X9_120 dX9_next_266 ?_
      refine g_aload_n C 0 0 rfl rfl dX9_next_269 ?_
      refine g_get C iX9 (ci := 9) (o := 0) (v := vI (σ5 0 28)) rfl rfl 28 (by decide) rfl tw_X9_123 dX9_next_270 ?_
      refine g_isub C dX9_next_273 ?_
      refine g_bipush C dX9_next_274 (by decide) ?_
      refine g_icmp_le C (y' := 12) rfl (by decide) 291 (by decide) dX9_next_276 (fun hc => ?_) (fun hc => ?_)
      · have h := h.1 hc
        exact g_pick [] rfl (m_X9_next_B291 C hlocks hr h)
      · have h := h.2 hc
        refine g_aload_n C 0 0 rfl rfl dX9_next_279 ?_
        refine g_iconst C dX9_next_280 ?_
        refine g_aload_n C 0 0 rfl rfl dX9_next_281 ?_
        refine g_get C iX9 (ci := 9) (o := 0) (v := vI (σ5 0 28)) rfl rfl 28 (by decide) rfl tw_X9_123 dX9_next_282 ?_
        refine g_callIv C (m_X9_flaw l D cA ad h) hv_X9_flaw tw_X9_137 (o := 0) (ci := 9) (As := [vI 1, vI (σ5 0 28)]) (st := []) rfl rfl rfl rfl ⟨Nat.le_of_ble_eq_true rfl, Nat.le_of_ble_eq_true rfl⟩ rfl rfl (Nat.le_of_ble_eq_true rfl) dX9_next_285 (fun r7 σ6 h => ?_)
        try dsimp only at h
        refine g_if_eq C rfl 295 (by decide) dX9_next_288 (fun hc => ?_) (fun hc => ?_)
        · have h := h.1 hc
          refine g_iconst C dX9_next_295 ?_
          exact g_zret C hlocks hr (by decide) h dX9_next_296
        · have h := h.2 hc
          exact g_pick [] rfl (m_X9_next_B291 C hlocks hr h)
    · have h := h.2 hc
      refine g_aload_n C 0 0 rfl rfl dX9_next_247 ?_
      refine g_dup C rfl dX9_next_248 ?_
      refine g_get C iX9 (ci := 9) (o := 0) (v := vI (σ3 0 29)) rfl rfl 29 (by decide) rfl tw_X9_120 dX9_next_249 ?_
      refine g_iconst C dX9_next_252 ?_
      refine g_iadd C dX9_next_253 ?_
      refine g_put C iX9 (ci := 9) (o := 0) (z := ((σ3 0 29) + 1)) (ty := .int) rfl tyX9_ok nmX9 rfl 29 (by decide) rfl rfl tw_X9_120 rfl (by decide +kernel) rfl rfl dX9_next_254 (fun σ8 eσ8 => ?_)
      have h := h σ8 eσ8
      refine g_goto C 233 (by decide) dX9_next_257 ?_
      exact g_pick [0] rfl (ih  _ h)
set_option maxRecDepth 100000 in
set_option maxHeartbeats 4000000 in
theorem m_X9_next_B84 {p : Program} {l : Launch} {e : Env} {s : State} {m : MethodId} {args : Array Value} {below : List Frame} {meth : Method} {c : Code} {D : va_G} {cA : Nat → ClassId} {ad : Nat → Nat} (C : Cx p s m args c cX9_next RX9 2 D cA shM ad zsM) (hlocks : meth.locks = false) (hr : meth.sig.returnType = (some .boolean)) {Q : Int → St → Prop} {σ : St} (h : wp_X9_next_B84 Q σ) : G p l e rm_X9_next s m args below meth c 0 0 2 D cA shM ad (QI D cA shM ad zsM below args s Q) σ [(0, .ref (ad 0))] [] 84 := by
  unfold wp_X9_next_B84 at h
  refine g_aload_n C 0 0 rfl rfl dX9_next_84 ?_
  refine g_aload_n C 0 0 rfl rfl dX9_next_85 ?_
  refine g_get C iX9 (ci := 9) (o := 0) (v := vI (σ 0 28)) rfl rfl 28 (by decide) rfl tw_X9_123 dX9_next_86 ?_
  refine g_put C iX9 (ci := 9) (o := 0) (z := (σ 0 28)) (ty := .int) rfl tyX9_ok nmX9 rfl 29 (by decide) rfl rfl tw_X9_120 rfl (by decide +kernel) rfl rfl dX9_next_89 (fun σ1 eσ1 => ?_)
  have h := h σ1 eσ1
  refine g_aload_n C 0 0 rfl rfl dX9_next_92 ?_
  refine g_iconst C dX9_next_93 ?_
  refine g_put C iX9 (ci := 9) (o := 0) (z := 0) (ty := .int) rfl tyX9_ok nmX9 rfl 27 (by decide) rfl rfl tw_X9_130 rfl (by decide +kernel) rfl rfl dX9_next_94 (fun σ2 eσ2 => ?_)
  have h := h σ2 eσ2
  refine g_aload_n C 0 0 rfl rfl dX9_next_97 ?_
  refine g_get C iX9 (ci := 9) (o := 0) (v := vI (σ2 0 28)) rfl rfl 28 (by decide) rfl tw_X9_123 dX9_next_98 ?_
  refine g_aload_n C 0 0 rfl rfl dX9_next_101 ?_
  refine g_get C iX9 (ci := 9) (o := 0) (v := vI (σ2 0 2)) rfl rfl 2 (by decide) rfl tw_X9_111 dX9_next_102 ?_
  refine g_icmp_ne C rfl rfl 110 (by decide) dX9_next_105 (fun hc => ?_) (fun hc => ?_)
  · have h := h.1 hc
    refine g_aload_n C 0 0 rfl rfl dX9_next_110 ?_
    refine g_aload_n C 0 0 rfl rfl dX9_next_111 ?_
    refine g_get C iX9 (ci := 9) (o := 0) (v := vI (σ2 0 28)) rfl rfl 28 (by decide) rfl tw_X9_123 dX9_next_112 ?_
    refine g_callIv C (m_X9_at l D cA ad h) hv_X9_at tw_X9_126 (o := 0) (ci := 9) (As := [vI (σ2 0 28)]) (st := []) rfl rfl rfl rfl ⟨Nat.le_of_ble_eq_true rfl, Nat.le_of_ble_eq_true rfl⟩ rfl rfl (Nat.le_of_ble_eq_true rfl) dX9_next_115 (fun r4 σ3 h => ?_)
    try dsimp only at h
    refine g_istore_n C 1 [(0, .ref (ad 0))] rfl (by decide) rfl dX9_next_118 ?_
    refine g_aload_n C 1 0 rfl rfl dX9_next_119 ?_
    refine g_dup C rfl dX9_next_120 ?_
    refine g_get C iX9 (ci := 9) (o := 0) (v := vI (σ3 0 29)) rfl rfl 29 (by decide) rfl tw_X9_120 dX9_next_121 ?_
    refine g_iconst C dX9_next_124 ?_
    refine g_iadd C dX9_next_125 ?_
    refine g_put C iX9 (ci := 9) (o := 0) (z := ((σ3 0 29) + 1)) (ty := .int) rfl tyX9_ok nmX9 rfl 29 (by decide) rfl rfl tw_X9_120 rfl (by decide +kernel) rfl rfl dX9_next_126 (fun σ5 eσ5 => ?_)
    have h := h σ5 eσ5
    refine g_iload_n C 0 1 rfl rfl dX9_next_129 ?_
    refine g_callIs C (m_X9_isGreat l D cA ad h) hv_X9_isGreat tw_X9_133 (As := [vI r4]) (st := []) rfl rfl ⟨Nat.le_of_ble_eq_true rfl, Nat.le_of_ble_eq_true rfl⟩ rfl rfl (Nat.le_of_ble_eq_true rfl) dX9_next_130 (fun r7 σ6 h => ?_)
    try dsimp only at h
    refine g_if_eq C rfl 226 (by decide) dX9_next_133 (fun hc => ?_) (fun hc => ?_)
    · have h := h.1 hc
      refine g_iload_n C 0 1 rfl rfl dX9_next_226 ?_
      refine g_callIs C (m_X9_isSmall l D cA ad h) hv_X9_isSmall tw_X9_141 (As := [vI r4]) (st := []) rfl rfl ⟨Nat.le_of_ble_eq_true rfl, Nat.le_of_ble_eq_true rfl⟩ rfl rfl (Nat.le_of_ble_eq_true rfl) dX9_next_227 (fun r9 σ8 h => ?_)
      try dsimp only at h
      refine g_if_eq C rfl 297 (by decide) dX9_next_230 (fun hc => ?_) (fun hc => ?_)
      · have h := h.1 hc
        refine g_aload_n C 1 0 rfl rfl dX9_next_297 ?_
        refine g_iload_n C 0 1 rfl rfl dX9_next_298 ?_
        refine g_put C iX9 (ci := 9) (o := 0) (z := r4) (ty := .int) rfl tyX9_ok nmX9 rfl 27 (by decide) rfl rfl tw_X9_130 rfl (by decide +kernel) rfl rfl dX9_next_299 (fun σ10 eσ10 => ?_)
        have h := h σ10 eσ10
        refine g_iload_n C 0 1 rfl rfl dX9_next_302 ?_
        refine g_bipush C dX9_next_303 (by decide) ?_
        refine g_icmp_eq C (y' := 40) rfl (by decide) 350 (by decide) dX9_next_305 (fun hc => ?_) (fun hc => ?_)
        · have h := h.1 hc
          exact g_pick [] rfl (m_X9_next_B350 C hlocks hr h)
        · have h := h.2 hc
          refine g_iload_n C 0 1 rfl rfl dX9_next_308 ?_
          refine g_bipush C dX9_next_309 (by decide) ?_
          refine g_icmp_eq C (y' := 41) rfl (by decide) 350 (by decide) dX9_next_311 (fun hc => ?_) (fun hc => ?_)
          · have h := h.1 hc
            exact g_pick [] rfl (m_X9_next_B350 C hlocks hr h)
          · have h := h.2 hc
            refine g_iload_n C 0 1 rfl rfl dX9_next_314 ?_
            refine g_bipush C dX9_next_315 (by decide) ?_
            refine g_icmp_eq C (y' := 33) rfl (by decide) 350 (by decide) dX9_next_317 (fun hc => ?_) (fun hc => ?_)
            · have h := h.1 hc
              exact g_pick [] rfl (m_X9_next_B350 C hlocks hr h)
            · have h := h.2 hc
              refine g_iload_n C 0 1 rfl rfl dX9_next_320 ?_
              refine g_bipush C dX9_next_321 (by decide) ?_
              refine g_icmp_eq C (y' := 42) rfl (by decide) 350 (by decide) dX9_next_323 (fun hc => ?_) (fun hc => ?_)
              · have h := h.1 hc
                exact g_pick [] rfl (m_X9_next_B350 C hlocks hr h)
              · have h := h.2 hc
                refine g_iload_n C 0 1 rfl rfl dX9_next_326 ?_
                refine g_bipush C dX9_next_327 (by decide) ?_
                refine g_icmp_eq C (y' := 43) rfl (by decide) 350 (by decide) dX9_next_329 (fun hc => ?_) (fun hc => ?_)
                · have h := h.1 hc
                  exact g_pick [] rfl (m_X9_next_B350 C hlocks hr h)
                · have h := h.2 hc
                  refine g_iload_n C 0 1 rfl rfl dX9_next_332 ?_
                  refine g_bipush C dX9_next_333 (by decide) ?_
                  refine g_icmp_eq C (y' := 45) rfl (by decide) 350 (by decide) dX9_next_335 (fun hc => ?_) (fun hc => ?_)
                  · have h := h.1 hc
                    exact g_pick [] rfl (m_X9_next_B350 C hlocks hr h)
                  · have h := h.2 hc
                    refine g_aload_n C 1 0 rfl rfl dX9_next_338 ?_
                    refine g_iconst C dX9_next_339 ?_
                    refine g_aload_n C 1 0 rfl rfl dX9_next_340 ?_
                    refine g_get C iX9 (ci := 9) (o := 0) (v := vI (σ10 0 28)) rfl rfl 28 (by decide) rfl tw_X9_123 dX9_next_341 ?_
                    refine g_callIv C (m_X9_flaw l D cA ad h) hv_X9_flaw tw_X9_137 (o := 0) (ci := 9) (As := [vI 1, vI (σ10 0 28)]) (st := []) rfl rfl rfl rfl ⟨Nat.le_of_ble_eq_true rfl, Nat.le_of_ble_eq_true rfl⟩ rfl rfl (Nat.le_of_ble_eq_true rfl) dX9_next_344 (fun r12 σ11 h => ?_)
                    try dsimp only at h
                    refine g_if_eq C rfl 354 (by decide) dX9_next_347 (fun hc => ?_) (fun hc => ?_)
                    · have h := h.1 hc
                      refine g_iconst C dX9_next_354 ?_
                      exact g_zret C hlocks hr (by decide) h dX9_next_355
                    · have h := h.2 hc
                      exact g_pick [] rfl (m_X9_next_B350 C hlocks hr h)
      · have h := h.2 hc
        obtain ⟨nn, h⟩ := h
        exact g_pick [1] rfl (m_X9_next_L233 C hlocks hr nn _ h)
    · have h := h.2 hc
      obtain ⟨nn, h⟩ := h
      exact g_pick [1] rfl (m_X9_next_L136 C hlocks hr nn _ h)
  · have h := h.2 hc
    refine g_iconst C dX9_next_108 ?_
    exact g_zret C hlocks hr (by decide) h dX9_next_109
set_option maxRecDepth 100000 in
set_option maxHeartbeats 4000000 in
theorem m_X9_next_L8 {p : Program} {l : Launch} {e : Env} {s : State} {m : MethodId} {args : Array Value} {below : List Frame} {meth : Method} {c : Code} {D : va_G} {cA : Nat → ClassId} {ad : Nat → Nat} (C : Cx p s m args c cX9_next RX9 2 D cA shM ad zsM) (hlocks : meth.locks = false) (hr : meth.sig.returnType = (some .boolean)) {Q : Int → St → Prop} : ∀ (n : Nat) (σ : St), wp_X9_next_L8 Q n σ → G p l e rm_X9_next s m args below meth c 0 0 2 D cA shM ad (QI D cA shM ad zsM below args s Q) σ [(0, .ref (ad 0))] [] 8 := by
  intro n
  induction n with
  | zero => intro _ h; exact h.elim
  | succ n ih =>
    intro σ h
    simp only [wp_X9_next_L8] at h
    refine g_aload_n C 0 0 rfl rfl dX9_next_8 ?_
    refine g_get C iX9 (ci := 9) (o := 0) (v := vI (σ 0 28)) rfl rfl 28 (by decide) rfl tw_X9_123 dX9_next_9 ?_
    refine g_aload_n C 0 0 rfl rfl dX9_next_12 ?_
    refine g_get C iX9 (ci := 9) (o := 0) (v := vI (σ 0 2)) rfl rfl 2 (by decide) rfl tw_X9_111 dX9_next_13 ?_
    refine g_icmp_ge C rfl rfl 84 (by decide) dX9_next_16 (fun hc => ?_) (fun hc => ?_)
    · have h := h.1 hc
      exact g_pick [0] rfl (m_X9_next_B84 C hlocks hr h)
    · have h := h.2 hc
      refine g_aload_n C 0 0 rfl rfl dX9_next_19 ?_
      refine g_aload_n C 0 0 rfl rfl dX9_next_20 ?_
      refine g_get C iX9 (ci := 9) (o := 0) (v := vI (σ 0 28)) rfl rfl 28 (by decide) rfl tw_X9_123 dX9_next_21 ?_
      refine g_callIv C (m_X9_at l D cA ad h) hv_X9_at tw_X9_126 (o := 0) (ci := 9) (As := [vI (σ 0 28)]) (st := []) rfl rfl rfl rfl ⟨Nat.le_of_ble_eq_true rfl, Nat.le_of_ble_eq_true rfl⟩ rfl rfl (Nat.le_of_ble_eq_true rfl) dX9_next_24 (fun r2 σ1 h => ?_)
      try dsimp only at h
      refine g_bipush C dX9_next_27 (by decide) ?_
      refine g_icmp_eq C (y' := 9) rfl (by decide) 71 (by decide) dX9_next_29 (fun hc => ?_) (fun hc => ?_)
      · have h := h.1 hc
        exact g_pick [0] rfl (m_X9_next_B71 C hlocks hr (fun  _ h => ih  _ h) h)
      · have h := h.2 hc
        refine g_aload_n C 0 0 rfl rfl dX9_next_32 ?_
        refine g_aload_n C 0 0 rfl rfl dX9_next_33 ?_
        refine g_get C iX9 (ci := 9) (o := 0) (v := vI (σ1 0 28)) rfl rfl 28 (by decide) rfl tw_X9_123 dX9_next_34 ?_
        refine g_callIv C (m_X9_at l D cA ad h) hv_X9_at tw_X9_126 (o := 0) (ci := 9) (As := [vI (σ1 0 28)]) (st := []) rfl rfl rfl rfl ⟨Nat.le_of_ble_eq_true rfl, Nat.le_of_ble_eq_true rfl⟩ rfl rfl (Nat.le_of_ble_eq_true rfl) dX9_next_37 (fun r4 σ3 h => ?_)
        try dsimp only at h
        refine g_bipush C dX9_next_40 (by decide) ?_
        refine g_icmp_eq C (y' := 10) rfl (by decide) 71 (by decide) dX9_next_42 (fun hc => ?_) (fun hc => ?_)
        · have h := h.1 hc
          exact g_pick [0] rfl (m_X9_next_B71 C hlocks hr (fun  _ h => ih  _ h) h)
        · have h := h.2 hc
          refine g_aload_n C 0 0 rfl rfl dX9_next_45 ?_
          refine g_aload_n C 0 0 rfl rfl dX9_next_46 ?_
          refine g_get C iX9 (ci := 9) (o := 0) (v := vI (σ3 0 28)) rfl rfl 28 (by decide) rfl tw_X9_123 dX9_next_47 ?_
          refine g_callIv C (m_X9_at l D cA ad h) hv_X9_at tw_X9_126 (o := 0) (ci := 9) (As := [vI (σ3 0 28)]) (st := []) rfl rfl rfl rfl ⟨Nat.le_of_ble_eq_true rfl, Nat.le_of_ble_eq_true rfl⟩ rfl rfl (Nat.le_of_ble_eq_true rfl) dX9_next_50 (fun r6 σ5 h => ?_)
          try dsimp only at h
          refine g_bipush C dX9_next_53 (by decide) ?_
          refine g_icmp_eq C (y' := 13) rfl (by decide) 71 (by decide) dX9_next_55 (fun hc => ?_) (fun hc => ?_)
          · have h := h.1 hc
            exact g_pick [0] rfl (m_X9_next_B71 C hlocks hr (fun  _ h => ih  _ h) h)
          · have h := h.2 hc
            refine g_aload_n C 0 0 rfl rfl dX9_next_58 ?_
            refine g_aload_n C 0 0 rfl rfl dX9_next_59 ?_
            refine g_get C iX9 (ci := 9) (o := 0) (v := vI (σ5 0 28)) rfl rfl 28 (by decide) rfl tw_X9_123 dX9_next_60 ?_
            refine g_callIv C (m_X9_at l D cA ad h) hv_X9_at tw_X9_126 (o := 0) (ci := 9) (As := [vI (σ5 0 28)]) (st := []) rfl rfl rfl rfl ⟨Nat.le_of_ble_eq_true rfl, Nat.le_of_ble_eq_true rfl⟩ rfl rfl (Nat.le_of_ble_eq_true rfl) dX9_next_63 (fun r8 σ7 h => ?_)
            try dsimp only at h
            refine g_bipush C dX9_next_66 (by decide) ?_
            refine g_icmp_ne C (y' := 32) rfl (by decide) 84 (by decide) dX9_next_68 (fun hc => ?_) (fun hc => ?_)
            · have h := h.1 hc
              exact g_pick [0] rfl (m_X9_next_B84 C hlocks hr h)
            · have h := h.2 hc
              exact g_pick [0] rfl (m_X9_next_B71 C hlocks hr (fun  _ h => ih  _ h) h)
set_option maxRecDepth 100000 in
set_option maxHeartbeats 4000000 in
theorem m_X9_next_E {p : Program} {l : Launch} {e : Env} {s : State} {m : MethodId} {args : Array Value} {below : List Frame} {meth : Method} {c : Code} {D : va_G} {cA : Nat → ClassId} {ad : Nat → Nat} (C : Cx p s m args c cX9_next RX9 2 D cA shM ad zsM) (hlocks : meth.locks = false) (hr : meth.sig.returnType = (some .boolean)) {Q : Int → St → Prop} {σ : St} (h : wp_X9_next Q σ) : G p l e rm_X9_next s m args below meth c 0 0 2 D cA shM ad (QI D cA shM ad zsM below args s Q) σ [(0, .ref (ad 0))] [] 0 := by
  unfold wp_X9_next at h
  refine g_aload_n C 0 0 rfl rfl dX9_next_0 ?_
  refine g_aload_n C 0 0 rfl rfl dX9_next_1 ?_
  refine g_get C iX9 (ci := 9) (o := 0) (v := vI (σ 0 29)) rfl rfl 29 (by decide) rfl tw_X9_120 dX9_next_2 ?_
  refine g_put C iX9 (ci := 9) (o := 0) (z := (σ 0 29)) (ty := .int) rfl tyX9_ok nmX9 rfl 28 (by decide) rfl rfl tw_X9_123 rfl (by decide +kernel) rfl rfl dX9_next_5 (fun σ1 eσ1 => ?_)
  have h := h σ1 eσ1
  obtain ⟨nn, h⟩ := h
  exact g_pick [0] rfl (m_X9_next_L8 C hlocks hr nn _ h)
set_option maxRecDepth 100000 in
set_option maxHeartbeats 4000000 in
theorem m_X9_next (l : Launch) (D : va_G) (cA : Nat → ClassId) (ad : Nat → Nat) {Q : Int → St → Prop} {σ : St} (h : wp_X9_next Q σ) : CtI l yX9_next (.code yX9_next cX9_next 2 (some .boolean)) rm_X9_next D cA shM ad zsM [.ref (ad 0)] σ Q :=
  ct_I RX9 (by decide +kernel) rfl (Nat.le_of_ble_eq_true rfl) (fun p e s m args below meth c C hlocks hr => m_X9_next_E C hlocks hr h)
abbrev rm_X9_starts : Room := { frames := 3, cells := 0, slots := 0, locals := 43 }
set_option maxRecDepth 100000 in
set_option maxHeartbeats 4000000 in
theorem m_X9_starts_E {p : Program} {l : Launch} {e : Env} {s : State} {m : MethodId} {args : Array Value} {below : List Frame} {meth : Method} {c : Code} {D : va_G} {cA : Nat → ClassId} {ad : Nat → Nat} (C : Cx p s m args c cX9_starts RX9 1 D cA shM ad zsM) (hlocks : meth.locks = false) (hr : meth.sig.returnType = (some .boolean)) {Q : Int → St → Prop} {σ : St} (h : wp_X9_starts Q σ) : G p l e rm_X9_starts s m args below meth c 0 0 1 D cA shM ad (QI D cA shM ad zsM below args s Q) σ [(0, .ref (ad 0))] [] 0 := by
  unfold wp_X9_starts at h
  refine g_aload_n C 0 0 rfl rfl dX9_starts_0 ?_
  refine g_iconst C dX9_starts_1 ?_
  refine g_put C iX9 (ci := 9) (o := 0) (z := 0) (ty := .int) rfl tyX9_ok nmX9 rfl 3 (by decide) rfl rfl tw_X9_114 rfl (by decide +kernel) rfl rfl dX9_starts_2 (fun σ1 eσ1 => ?_)
  have h := h σ1 eσ1
  refine g_aload_n C 0 0 rfl rfl dX9_starts_5 ?_
  refine g_iconst C dX9_starts_6 ?_
  refine g_put C iX9 (ci := 9) (o := 0) (z := 0) (ty := .int) rfl tyX9_ok nmX9 rfl 4 (by decide) rfl rfl tw_X9_117 rfl (by decide +kernel) rfl rfl dX9_starts_7 (fun σ2 eσ2 => ?_)
  have h := h σ2 eσ2
  refine g_aload_n C 0 0 rfl rfl dX9_starts_10 ?_
  refine g_iconst C dX9_starts_11 ?_
  refine g_put C iX9 (ci := 9) (o := 0) (z := 0) (ty := .int) rfl tyX9_ok nmX9 rfl 29 (by decide) rfl rfl tw_X9_120 rfl (by decide +kernel) rfl rfl dX9_starts_12 (fun σ3 eσ3 => ?_)
  have h := h σ3 eσ3
  refine g_aload_n C 0 0 rfl rfl dX9_starts_15 ?_
  refine g_callIv C (m_X9_next l D cA ad h) hv_X9_next tw_X9_144 (o := 0) (ci := 9) (As := []) (st := []) rfl rfl rfl rfl ⟨Nat.le_of_ble_eq_true rfl, Nat.le_of_ble_eq_true rfl⟩ rfl rfl (Nat.le_of_ble_eq_true rfl) dX9_starts_16 (fun r5 σ4 h => ?_)
  try dsimp only at h
  exact g_zret C hlocks hr h.1 h.2 dX9_starts_19
set_option maxRecDepth 100000 in
set_option maxHeartbeats 4000000 in
theorem m_X9_starts (l : Launch) (D : va_G) (cA : Nat → ClassId) (ad : Nat → Nat) {Q : Int → St → Prop} {σ : St} (h : wp_X9_starts Q σ) : CtI l yX9_starts (.code yX9_starts cX9_starts 1 (some .boolean)) rm_X9_starts D cA shM ad zsM [.ref (ad 0)] σ Q :=
  ct_I RX9 (by decide +kernel) rfl (Nat.le_of_ble_eq_true rfl) (fun p e s m args below meth c C hlocks hr => m_X9_starts_E C hlocks hr h)
abbrev rm_X9_cannot : Room := { frames := 2, cells := 0, slots := 0, locals := 22 }
set_option maxRecDepth 100000 in
set_option maxHeartbeats 4000000 in
theorem m_X9_cannot_E {p : Program} {l : Launch} {e : Env} {s : State} {m : MethodId} {args : Array Value} {below : List Frame} {meth : Method} {c : Code} {D : va_G} {cA : Nat → ClassId} {ad : Nat → Nat} (C : Cx p s m args c cX9_cannot RX9 1 D cA shM ad zsM) (hlocks : meth.locks = false) (hr : meth.sig.returnType = (some .boolean)) {Q : Int → St → Prop} {σ : St} (h : wp_X9_cannot Q σ) : G p l e rm_X9_cannot s m args below meth c 0 0 1 D cA shM ad (QI D cA shM ad zsM below args s Q) σ [(0, .ref (ad 0))] [] 0 := by
  unfold wp_X9_cannot at h
  refine g_aload_n C 0 0 rfl rfl dX9_cannot_0 ?_
  refine g_iconst C dX9_cannot_1 ?_
  refine g_aload_n C 0 0 rfl rfl dX9_cannot_2 ?_
  refine g_get C iX9 (ci := 9) (o := 0) (v := vI (σ 0 28)) rfl rfl 28 (by decide) rfl tw_X9_123 dX9_cannot_3 ?_
  refine g_callIv C (m_X9_flaw l D cA ad h) hv_X9_flaw tw_X9_137 (o := 0) (ci := 9) (As := [vI 2, vI (σ 0 28)]) (st := []) rfl rfl rfl rfl ⟨Nat.le_of_ble_eq_true rfl, Nat.le_of_ble_eq_true rfl⟩ rfl rfl (Nat.le_of_ble_eq_true rfl) dX9_cannot_6 (fun r2 σ1 h => ?_)
  try dsimp only at h
  exact g_zret C hlocks hr h.1 h.2 dX9_cannot_9
set_option maxRecDepth 100000 in
set_option maxHeartbeats 4000000 in
theorem m_X9_cannot (l : Launch) (D : va_G) (cA : Nat → ClassId) (ad : Nat → Nat) {Q : Int → St → Prop} {σ : St} (h : wp_X9_cannot Q σ) : CtI l yX9_cannot (.code yX9_cannot cX9_cannot 1 (some .boolean)) rm_X9_cannot D cA shM ad zsM [.ref (ad 0)] σ Q :=
  ct_I RX9 (by decide +kernel) rfl (Nat.le_of_ble_eq_true rfl) (fun p e s m args below meth c C hlocks hr => m_X9_cannot_E C hlocks hr h)
abbrev rm_X9_here : Room := { frames := 1, cells := 0, slots := 0, locals := 0 }
set_option maxRecDepth 100000 in
set_option maxHeartbeats 4000000 in
theorem m_X9_here_E {p : Program} {l : Launch} {e : Env} {s : State} {m : MethodId} {args : Array Value} {below : List Frame} {meth : Method} {c : Code} {D : va_G} {cA : Nat → ClassId} {ad : Nat → Nat} (C : Cx p s m args c cX9_here RX9 2 D cA shM ad zsM) (hlocks : meth.locks = false) (hr : meth.sig.returnType = (some .int)) {Q : Int → St → Prop} {a1 : Int} {σ : St} (h : wp_X9_here a1 Q σ) : G p l e rm_X9_here s m args below meth c 0 0 2 D cA shM ad (QI D cA shM ad zsM below args s Q) σ [(0, .ref (ad 0)), (1, vI a1)] [] 0 := by
  unfold wp_X9_here at h
  refine g_bipush C dX9_here_0 (by decide) ?_
  refine g_aload_n C 0 0 rfl rfl dX9_here_2 ?_
  refine g_get C iX9 (ci := 9) (o := 0) (v := vI (σ 0 23)) rfl rfl 23 (by decide) rfl tw_X9_154 dX9_here_3 ?_
  refine g_imul C dX9_here_6 ?_
  refine g_iload_n C 1 1 rfl rfl dX9_here_7 ?_
  refine g_iadd C dX9_here_8 ?_
  exact g_iret C hlocks hr h dX9_here_9
set_option maxRecDepth 100000 in
set_option maxHeartbeats 4000000 in
theorem m_X9_here (l : Launch) (D : va_G) (cA : Nat → ClassId) (ad : Nat → Nat) {a1 : Int} {Q : Int → St → Prop} {σ : St} (h : wp_X9_here a1 Q σ) : CtI l yX9_here (.code yX9_here cX9_here 2 (some .int)) rm_X9_here D cA shM ad zsM [.ref (ad 0), vI a1] σ Q :=
  ct_I RX9 (by decide +kernel) rfl (Nat.le_of_ble_eq_true rfl) (fun p e s m args below meth c C hlocks hr => m_X9_here_E C hlocks hr h)
abbrev rm_X9_label : Room := { frames := 1, cells := 0, slots := 0, locals := 0 }
set_option maxRecDepth 100000 in
set_option maxHeartbeats 4000000 in
theorem m_X9_label_B83 {p : Program} {l : Launch} {e : Env} {s : State} {m : MethodId} {args : Array Value} {below : List Frame} {meth : Method} {c : Code} {D : va_G} {cA : Nat → ClassId} {ad : Nat → Nat} (C : Cx p s m args c cX9_label RX9 4 D cA shM ad zsM) (hlocks : meth.locks = false) (hr : meth.sig.returnType = (some .int)) {Q : Int → St → Prop} {K2 : Int → St → Prop} (hK2 : ∀ (x1 : Int) (σ : St), K2 x1 σ → G p l e rm_X9_label s m args below meth c 0 0 4 D cA shM ad (QI D cA shM ad zsM below args s Q) σ [(0, .ref (ad 0)), (1, vI x1)] [] 2) {K36 : Int → Int → Int → St → Prop} (hK36 : ∀ (x1 : Int) (x2 : Int) (x3 : Int) (σ : St), K36 x1 x2 x3 σ → G p l e rm_X9_label s m args below meth c 0 0 4 D cA shM ad (QI D cA shM ad zsM below args s Q) σ [(0, .ref (ad 0)), (1, vI x1), (2, vI x2), (3, vI x3)] [] 36) {x1 x3 y0 : Int} {σ : St} (h : wp_X9_label_B83 K2 K36 x1 x3 y0 Q σ) : G p l e rm_X9_label s m args below meth c 0 0 4 D cA shM ad (QI D cA shM ad zsM below args s Q) σ [(0, .ref (ad 0)), (1, vI x1), (3, vI x3)] [vI y0] 83 := by
  unfold wp_X9_label_B83 at h
  refine g_istore_n C 2 [(0, .ref (ad 0)), (1, vI x1), (3, vI x3)] rfl (by decide) rfl dX9_label_83 ?_
  refine g_iinc C 3 3 [(2, vI y0), (0, .ref (ad 0)), (1, vI x1)] rfl (by decide) rfl dX9_label_84 (fun x_1 ex_1 => ?_)
  have h := h x_1 ex_1
  refine g_goto C 36 (by decide) dX9_label_87 ?_
  exact g_pick [2, 3, 1, 0] rfl (hK36 _ _ _ _ h)
set_option maxRecDepth 100000 in
set_option maxHeartbeats 4000000 in
theorem m_X9_label_B90 {p : Program} {l : Launch} {e : Env} {s : State} {m : MethodId} {args : Array Value} {below : List Frame} {meth : Method} {c : Code} {D : va_G} {cA : Nat → ClassId} {ad : Nat → Nat} (C : Cx p s m args c cX9_label RX9 4 D cA shM ad zsM) (hlocks : meth.locks = false) (hr : meth.sig.returnType = (some .int)) {Q : Int → St → Prop} {K2 : Int → St → Prop} (hK2 : ∀ (x1 : Int) (σ : St), K2 x1 σ → G p l e rm_X9_label s m args below meth c 0 0 4 D cA shM ad (QI D cA shM ad zsM below args s Q) σ [(0, .ref (ad 0)), (1, vI x1)] [] 2) {x1 x2 : Int} {σ : St} (h : wp_X9_label_B90 K2 x1 x2 Q σ) : G p l e rm_X9_label s m args below meth c 0 0 4 D cA shM ad (QI D cA shM ad zsM below args s Q) σ [(0, .ref (ad 0)), (1, vI x1), (2, vI x2)] [] 90 := by
  unfold wp_X9_label_B90 at h
  refine g_iload_n C 2 2 rfl rfl dX9_label_90 ?_
  refine g_if_eq C rfl 96 (by decide) dX9_label_91 (fun hc => ?_) (fun hc => ?_)
  · have h := h.1 hc
    refine g_iinc C 1 1 [(0, .ref (ad 0)), (2, vI x2)] rfl (by decide) rfl dX9_label_96 (fun x_1 ex_1 => ?_)
    have h := h x_1 ex_1
    refine g_goto C 2 (by decide) dX9_label_99 ?_
    exact g_pick [1, 0] rfl (hK2 _ _ h)
  · have h := h.2 hc
    refine g_iload_n C 1 1 rfl rfl dX9_label_94 ?_
    exact g_iret C hlocks hr h dX9_label_95
set_option maxRecDepth 100000 in
set_option maxHeartbeats 4000000 in
theorem m_X9_label_L36 {p : Program} {l : Launch} {e : Env} {s : State} {m : MethodId} {args : Array Value} {below : List Frame} {meth : Method} {c : Code} {D : va_G} {cA : Nat → ClassId} {ad : Nat → Nat} (C : Cx p s m args c cX9_label RX9 4 D cA shM ad zsM) (hlocks : meth.locks = false) (hr : meth.sig.returnType = (some .int)) {Q : Int → St → Prop} {K2 : Int → St → Prop} (hK2 : ∀ (x1 : Int) (σ : St), K2 x1 σ → G p l e rm_X9_label s m args below meth c 0 0 4 D cA shM ad (QI D cA shM ad zsM below args s Q) σ [(0, .ref (ad 0)), (1, vI x1)] [] 2) : ∀ (n : Nat) (x1 : Int) (x2 : Int) (x3 : Int) (σ : St), wp_X9_label_L36 K2 Q n x1 x2 x3 σ → G p l e rm_X9_label s m args below meth c 0 0 4 D cA shM ad (QI D cA shM ad zsM below args s Q) σ [(0, .ref (ad 0)), (1, vI x1), (2, vI x2), (3, vI x3)] [] 36 := by
  intro n
  induction n with
  | zero => intro _ _ _ _ h; exact h.elim
  | succ n ih =>
    intro x1 x2 x3 σ h
    simp only [wp_X9_label_L36] at h
    refine g_iload_n C 3 3 rfl rfl dX9_label_36 ?_
    refine g_aload_n C 0 0 rfl rfl dX9_label_37 ?_
    refine g_get C iX9 (ci := 9) (o := 0) (v := vI (σ 0 29)) rfl rfl 29 (by decide) rfl tw_X9_120 dX9_label_38 ?_
    refine g_aload_n C 0 0 rfl rfl dX9_label_41 ?_
    refine g_get C iX9 (ci := 9) (o := 0) (v := vI (σ 0 28)) rfl rfl 28 (by decide) rfl tw_X9_123 dX9_label_42 ?_
    refine g_isub C dX9_label_45 ?_
    refine g_icmp_ge C rfl rfl 90 (by decide) dX9_label_46 (fun hc => ?_) (fun hc => ?_)
    · have h := h.1 hc
      exact g_pick [0, 1, 2] rfl (m_X9_label_B90 C hlocks hr hK2 h)
    · have h := h.2 hc
      refine g_iload_n C 2 2 rfl rfl dX9_label_49 ?_
      refine g_if_eq C rfl 90 (by decide) dX9_label_50 (fun hc => ?_) (fun hc => ?_)
      · have h := h.1 hc
        exact g_pick [0, 1, 2] rfl (m_X9_label_B90 C hlocks hr hK2 h)
      · have h := h.2 hc
        refine g_aload_n C 0 0 rfl rfl dX9_label_53 ?_
        refine g_get C iX9 (ci := 9) (o := 0) (v := .ref (ad 2)) rfl rfl 5 (by decide) rfl tw_X9_13 dX9_label_54 ?_
        refine g_bipush C dX9_label_57 (by decide) ?_
        refine g_iload_n C 1 1 rfl rfl dX9_label_59 ?_
        refine g_imul C dX9_label_60 ?_
        refine g_iload_n C 3 3 rfl rfl dX9_label_61 ?_
        refine g_iadd C dX9_label_62 ?_
        obtain ⟨hi, h⟩ := h
        refine g_bald C (o := 2) (N := 136) rfl rfl hi rfl dX9_label_63 ?_
        refine g_aload_n C 0 0 rfl rfl dX9_label_64 ?_
        refine g_get C iX9 (ci := 9) (o := 0) (v := .ref (ad 1)) rfl rfl 1 (by decide) rfl tw_X9_7 dX9_label_65 ?_
        refine g_aload_n C 0 0 rfl rfl dX9_label_68 ?_
        refine g_get C iX9 (ci := 9) (o := 0) (v := vI (σ 0 28)) rfl rfl 28 (by decide) rfl tw_X9_123 dX9_label_69 ?_
        refine g_iload_n C 3 3 rfl rfl dX9_label_72 ?_
        refine g_iadd C dX9_label_73 ?_
        obtain ⟨hi, h⟩ := h
        refine g_bald C (o := 1) (N := 1000) rfl rfl hi rfl dX9_label_74 ?_
        refine g_icmp_ne C rfl rfl 82 (by decide) dX9_label_75 (fun hc => ?_) (fun hc => ?_)
        · have h := h.1 hc
          refine g_iconst C dX9_label_82 ?_
          exact g_pick [0, 1, 3] rfl (m_X9_label_B83 C hlocks hr hK2 (fun _ _ _ _ h => ih _ _ _ _ h) h)
        · have h := h.2 hc
          refine g_iconst C dX9_label_78 ?_
          refine g_goto C 83 (by decide) dX9_label_79 ?_
          exact g_pick [0, 1, 3] rfl (m_X9_label_B83 C hlocks hr hK2 (fun _ _ _ _ h => ih _ _ _ _ h) h)
set_option maxRecDepth 100000 in
set_option maxHeartbeats 4000000 in
theorem m_X9_label_B33 {p : Program} {l : Launch} {e : Env} {s : State} {m : MethodId} {args : Array Value} {below : List Frame} {meth : Method} {c : Code} {D : va_G} {cA : Nat → ClassId} {ad : Nat → Nat} (C : Cx p s m args c cX9_label RX9 4 D cA shM ad zsM) (hlocks : meth.locks = false) (hr : meth.sig.returnType = (some .int)) {Q : Int → St → Prop} {K2 : Int → St → Prop} (hK2 : ∀ (x1 : Int) (σ : St), K2 x1 σ → G p l e rm_X9_label s m args below meth c 0 0 4 D cA shM ad (QI D cA shM ad zsM below args s Q) σ [(0, .ref (ad 0)), (1, vI x1)] [] 2) {x1 y0 : Int} {σ : St} (h : wp_X9_label_B33 K2 x1 y0 Q σ) : G p l e rm_X9_label s m args below meth c 0 0 4 D cA shM ad (QI D cA shM ad zsM below args s Q) σ [(0, .ref (ad 0)), (1, vI x1)] [vI y0] 33 := by
  unfold wp_X9_label_B33 at h
  refine g_istore_n C 2 [(0, .ref (ad 0)), (1, vI x1)] rfl (by decide) rfl dX9_label_33 ?_
  refine g_iconst C dX9_label_34 ?_
  refine g_istore_n C 3 [(2, vI y0), (0, .ref (ad 0)), (1, vI x1)] rfl (by decide) rfl dX9_label_35 ?_
  obtain ⟨nn, h⟩ := h
  exact g_pick [2, 3, 1, 0] rfl (m_X9_label_L36 C hlocks hr hK2 nn _ _ _ _ h)
set_option maxRecDepth 100000 in
set_option maxHeartbeats 4000000 in
theorem m_X9_label_L2 {p : Program} {l : Launch} {e : Env} {s : State} {m : MethodId} {args : Array Value} {below : List Frame} {meth : Method} {c : Code} {D : va_G} {cA : Nat → ClassId} {ad : Nat → Nat} (C : Cx p s m args c cX9_label RX9 4 D cA shM ad zsM) (hlocks : meth.locks = false) (hr : meth.sig.returnType = (some .int)) {Q : Int → St → Prop} : ∀ (n : Nat) (x1 : Int) (σ : St), wp_X9_label_L2 Q n x1 σ → G p l e rm_X9_label s m args below meth c 0 0 4 D cA shM ad (QI D cA shM ad zsM below args s Q) σ [(0, .ref (ad 0)), (1, vI x1)] [] 2 := by
  intro n
  induction n with
  | zero => intro _ _ h; exact h.elim
  | succ n ih =>
    intro x1 σ h
    simp only [wp_X9_label_L2] at h
    refine g_iload_n C 1 1 rfl rfl dX9_label_2 ?_
    refine g_aload_n C 0 0 rfl rfl dX9_label_3 ?_
    refine g_get C iX9 (ci := 9) (o := 0) (v := vI (σ 0 7)) rfl rfl 7 (by decide) rfl tw_X9_148 dX9_label_4 ?_
    refine g_icmp_ge C rfl rfl 102 (by decide) dX9_label_7 (fun hc => ?_) (fun hc => ?_)
    · have h := h.1 hc
      refine g_iconst C dX9_label_102 ?_
      exact g_iret C hlocks hr h dX9_label_103
    · have h := h.2 hc
      refine g_aload_n C 0 0 rfl rfl dX9_label_10 ?_
      refine g_get C iX9 (ci := 9) (o := 0) (v := .ref (ad 3)) rfl rfl 6 (by decide) rfl tw_X9_16 dX9_label_11 ?_
      refine g_iload_n C 1 1 rfl rfl dX9_label_14 ?_
      obtain ⟨hi, h⟩ := h
      refine g_iald C (o := 3) (N := 17) rfl rfl hi rfl dX9_label_15 ?_
      refine g_aload_n C 0 0 rfl rfl dX9_label_16 ?_
      refine g_get C iX9 (ci := 9) (o := 0) (v := vI (σ 0 29)) rfl rfl 29 (by decide) rfl tw_X9_120 dX9_label_17 ?_
      refine g_aload_n C 0 0 rfl rfl dX9_label_20 ?_
      refine g_get C iX9 (ci := 9) (o := 0) (v := vI (σ 0 28)) rfl rfl 28 (by decide) rfl tw_X9_123 dX9_label_21 ?_
      refine g_isub C dX9_label_24 ?_
      refine g_icmp_ne C rfl rfl 32 (by decide) dX9_label_25 (fun hc => ?_) (fun hc => ?_)
      · have h := h.1 hc
        refine g_iconst C dX9_label_32 ?_
        exact g_pick [0, 1] rfl (m_X9_label_B33 C hlocks hr (fun _ _ h => ih _ _ h) h)
      · have h := h.2 hc
        refine g_iconst C dX9_label_28 ?_
        refine g_goto C 33 (by decide) dX9_label_29 ?_
        exact g_pick [0, 1] rfl (m_X9_label_B33 C hlocks hr (fun _ _ h => ih _ _ h) h)
set_option maxRecDepth 100000 in
set_option maxHeartbeats 4000000 in
theorem m_X9_label_E {p : Program} {l : Launch} {e : Env} {s : State} {m : MethodId} {args : Array Value} {below : List Frame} {meth : Method} {c : Code} {D : va_G} {cA : Nat → ClassId} {ad : Nat → Nat} (C : Cx p s m args c cX9_label RX9 4 D cA shM ad zsM) (hlocks : meth.locks = false) (hr : meth.sig.returnType = (some .int)) {Q : Int → St → Prop} {σ : St} (h : wp_X9_label Q σ) : G p l e rm_X9_label s m args below meth c 0 0 4 D cA shM ad (QI D cA shM ad zsM below args s Q) σ [(0, .ref (ad 0))] [] 0 := by
  unfold wp_X9_label at h
  refine g_iconst C dX9_label_0 ?_
  refine g_istore_n C 1 [(0, .ref (ad 0))] rfl (by decide) rfl dX9_label_1 ?_
  obtain ⟨nn, h⟩ := h
  exact g_pick [1, 0] rfl (m_X9_label_L2 C hlocks hr nn _ _ h)
set_option maxRecDepth 100000 in
set_option maxHeartbeats 4000000 in
theorem m_X9_label (l : Launch) (D : va_G) (cA : Nat → ClassId) (ad : Nat → Nat) {Q : Int → St → Prop} {σ : St} (h : wp_X9_label Q σ) : CtI l yX9_label (.code yX9_label cX9_label 4 (some .int)) rm_X9_label D cA shM ad zsM [.ref (ad 0)] σ Q :=
  ct_I RX9 (by decide +kernel) rfl (Nat.le_of_ble_eq_true rfl) (fun p e s m args below meth c C hlocks hr => m_X9_label_E C hlocks hr h)
abbrev rm_X9_word : Room := { frames := 1, cells := 0, slots := 0, locals := 0 }
set_option maxRecDepth 100000 in
set_option maxHeartbeats 4000000 in
theorem m_X9_word_B83 {p : Program} {l : Launch} {e : Env} {s : State} {m : MethodId} {args : Array Value} {below : List Frame} {meth : Method} {c : Code} {D : va_G} {cA : Nat → ClassId} {ad : Nat → Nat} (C : Cx p s m args c cX9_word RX9 4 D cA shM ad zsM) (hlocks : meth.locks = false) (hr : meth.sig.returnType = (some .int)) {Q : Int → St → Prop} {K2 : Int → St → Prop} (hK2 : ∀ (x1 : Int) (σ : St), K2 x1 σ → G p l e rm_X9_word s m args below meth c 0 0 4 D cA shM ad (QI D cA shM ad zsM below args s Q) σ [(0, .ref (ad 0)), (1, vI x1)] [] 2) {K36 : Int → Int → Int → St → Prop} (hK36 : ∀ (x1 : Int) (x2 : Int) (x3 : Int) (σ : St), K36 x1 x2 x3 σ → G p l e rm_X9_word s m args below meth c 0 0 4 D cA shM ad (QI D cA shM ad zsM below args s Q) σ [(0, .ref (ad 0)), (1, vI x1), (2, vI x2), (3, vI x3)] [] 36) {x1 x3 y0 : Int} {σ : St} (h : wp_X9_word_B83 K2 K36 x1 x3 y0 Q σ) : G p l e rm_X9_word s m args below meth c 0 0 4 D cA shM ad (QI D cA shM ad zsM below args s Q) σ [(0, .ref (ad 0)), (1, vI x1), (3, vI x3)] [vI y0] 83 := by
  unfold wp_X9_word_B83 at h
  refine g_istore_n C 2 [(0, .ref (ad 0)), (1, vI x1), (3, vI x3)] rfl (by decide) rfl dX9_word_83 ?_
  refine g_iinc C 3 3 [(2, vI y0), (0, .ref (ad 0)), (1, vI x1)] rfl (by decide) rfl dX9_word_84 (fun x_1 ex_1 => ?_)
  have h := h x_1 ex_1
  refine g_goto C 36 (by decide) dX9_word_87 ?_
  exact g_pick [2, 3, 1, 0] rfl (hK36 _ _ _ _ h)
set_option maxRecDepth 100000 in
set_option maxHeartbeats 4000000 in
theorem m_X9_word_B90 {p : Program} {l : Launch} {e : Env} {s : State} {m : MethodId} {args : Array Value} {below : List Frame} {meth : Method} {c : Code} {D : va_G} {cA : Nat → ClassId} {ad : Nat → Nat} (C : Cx p s m args c cX9_word RX9 4 D cA shM ad zsM) (hlocks : meth.locks = false) (hr : meth.sig.returnType = (some .int)) {Q : Int → St → Prop} {K2 : Int → St → Prop} (hK2 : ∀ (x1 : Int) (σ : St), K2 x1 σ → G p l e rm_X9_word s m args below meth c 0 0 4 D cA shM ad (QI D cA shM ad zsM below args s Q) σ [(0, .ref (ad 0)), (1, vI x1)] [] 2) {x1 x2 : Int} {σ : St} (h : wp_X9_word_B90 K2 x1 x2 Q σ) : G p l e rm_X9_word s m args below meth c 0 0 4 D cA shM ad (QI D cA shM ad zsM below args s Q) σ [(0, .ref (ad 0)), (1, vI x1), (2, vI x2)] [] 90 := by
  unfold wp_X9_word_B90 at h
  refine g_iload_n C 2 2 rfl rfl dX9_word_90 ?_
  refine g_if_eq C rfl 96 (by decide) dX9_word_91 (fun hc => ?_) (fun hc => ?_)
  · have h := h.1 hc
    refine g_iinc C 1 1 [(0, .ref (ad 0)), (2, vI x2)] rfl (by decide) rfl dX9_word_96 (fun x_1 ex_1 => ?_)
    have h := h x_1 ex_1
    refine g_goto C 2 (by decide) dX9_word_99 ?_
    exact g_pick [1, 0] rfl (hK2 _ _ h)
  · have h := h.2 hc
    refine g_iload_n C 1 1 rfl rfl dX9_word_94 ?_
    exact g_iret C hlocks hr h dX9_word_95
set_option maxRecDepth 100000 in
set_option maxHeartbeats 4000000 in
theorem m_X9_word_L36 {p : Program} {l : Launch} {e : Env} {s : State} {m : MethodId} {args : Array Value} {below : List Frame} {meth : Method} {c : Code} {D : va_G} {cA : Nat → ClassId} {ad : Nat → Nat} (C : Cx p s m args c cX9_word RX9 4 D cA shM ad zsM) (hlocks : meth.locks = false) (hr : meth.sig.returnType = (some .int)) {Q : Int → St → Prop} {K2 : Int → St → Prop} (hK2 : ∀ (x1 : Int) (σ : St), K2 x1 σ → G p l e rm_X9_word s m args below meth c 0 0 4 D cA shM ad (QI D cA shM ad zsM below args s Q) σ [(0, .ref (ad 0)), (1, vI x1)] [] 2) : ∀ (n : Nat) (x1 : Int) (x2 : Int) (x3 : Int) (σ : St), wp_X9_word_L36 K2 Q n x1 x2 x3 σ → G p l e rm_X9_word s m args below meth c 0 0 4 D cA shM ad (QI D cA shM ad zsM below args s Q) σ [(0, .ref (ad 0)), (1, vI x1), (2, vI x2), (3, vI x3)] [] 36 := by
  intro n
  induction n with
  | zero => intro _ _ _ _ h; exact h.elim
  | succ n ih =>
    intro x1 x2 x3 σ h
    simp only [wp_X9_word_L36] at h
    refine g_iload_n C 3 3 rfl rfl dX9_word_36 ?_
    refine g_aload_n C 0 0 rfl rfl dX9_word_37 ?_
    refine g_get C iX9 (ci := 9) (o := 0) (v := vI (σ 0 29)) rfl rfl 29 (by decide) rfl tw_X9_120 dX9_word_38 ?_
    refine g_aload_n C 0 0 rfl rfl dX9_word_41 ?_
    refine g_get C iX9 (ci := 9) (o := 0) (v := vI (σ 0 28)) rfl rfl 28 (by decide) rfl tw_X9_123 dX9_word_42 ?_
    refine g_isub C dX9_word_45 ?_
    refine g_icmp_ge C rfl rfl 90 (by decide) dX9_word_46 (fun hc => ?_) (fun hc => ?_)
    · have h := h.1 hc
      exact g_pick [0, 1, 2] rfl (m_X9_word_B90 C hlocks hr hK2 h)
    · have h := h.2 hc
      refine g_iload_n C 2 2 rfl rfl dX9_word_49 ?_
      refine g_if_eq C rfl 90 (by decide) dX9_word_50 (fun hc => ?_) (fun hc => ?_)
      · have h := h.1 hc
        exact g_pick [0, 1, 2] rfl (m_X9_word_B90 C hlocks hr hK2 h)
      · have h := h.2 hc
        refine g_aload_n C 0 0 rfl rfl dX9_word_53 ?_
        refine g_get C iX9 (ci := 9) (o := 0) (v := .ref (ad 4)) rfl rfl 8 (by decide) rfl tw_X9_20 dX9_word_54 ?_
        refine g_bipush C dX9_word_57 (by decide) ?_
        refine g_iload_n C 1 1 rfl rfl dX9_word_59 ?_
        refine g_imul C dX9_word_60 ?_
        refine g_iload_n C 3 3 rfl rfl dX9_word_61 ?_
        refine g_iadd C dX9_word_62 ?_
        obtain ⟨hi, h⟩ := h
        refine g_bald C (o := 4) (N := 396) rfl rfl hi rfl dX9_word_63 ?_
        refine g_aload_n C 0 0 rfl rfl dX9_word_64 ?_
        refine g_get C iX9 (ci := 9) (o := 0) (v := .ref (ad 1)) rfl rfl 1 (by decide) rfl tw_X9_7 dX9_word_65 ?_
        refine g_aload_n C 0 0 rfl rfl dX9_word_68 ?_
        refine g_get C iX9 (ci := 9) (o := 0) (v := vI (σ 0 28)) rfl rfl 28 (by decide) rfl tw_X9_123 dX9_word_69 ?_
        refine g_iload_n C 3 3 rfl rfl dX9_word_72 ?_
        refine g_iadd C dX9_word_73 ?_
        obtain ⟨hi, h⟩ := h
        refine g_bald C (o := 1) (N := 1000) rfl rfl hi rfl dX9_word_74 ?_
        refine g_icmp_ne C rfl rfl 82 (by decide) dX9_word_75 (fun hc => ?_) (fun hc => ?_)
        · have h := h.1 hc
          refine g_iconst C dX9_word_82 ?_
          exact g_pick [0, 1, 3] rfl (m_X9_word_B83 C hlocks hr hK2 (fun _ _ _ _ h => ih _ _ _ _ h) h)
        · have h := h.2 hc
          refine g_iconst C dX9_word_78 ?_
          refine g_goto C 83 (by decide) dX9_word_79 ?_
          exact g_pick [0, 1, 3] rfl (m_X9_word_B83 C hlocks hr hK2 (fun _ _ _ _ h => ih _ _ _ _ h) h)
set_option maxRecDepth 100000 in
set_option maxHeartbeats 4000000 in
theorem m_X9_word_B33 {p : Program} {l : Launch} {e : Env} {s : State} {m : MethodId} {args : Array Value} {below : List Frame} {meth : Method} {c : Code} {D : va_G} {cA : Nat → ClassId} {ad : Nat → Nat} (C : Cx p s m args c cX9_word RX9 4 D cA shM ad zsM) (hlocks : meth.locks = false) (hr : meth.sig.returnType = (some .int)) {Q : Int → St → Prop} {K2 : Int → St → Prop} (hK2 : ∀ (x1 : Int) (σ : St), K2 x1 σ → G p l e rm_X9_word s m args below meth c 0 0 4 D cA shM ad (QI D cA shM ad zsM below args s Q) σ [(0, .ref (ad 0)), (1, vI x1)] [] 2) {x1 y0 : Int} {σ : St} (h : wp_X9_word_B33 K2 x1 y0 Q σ) : G p l e rm_X9_word s m args below meth c 0 0 4 D cA shM ad (QI D cA shM ad zsM below args s Q) σ [(0, .ref (ad 0)), (1, vI x1)] [vI y0] 33 := by
  unfold wp_X9_word_B33 at h
  refine g_istore_n C 2 [(0, .ref (ad 0)), (1, vI x1)] rfl (by decide) rfl dX9_word_33 ?_
  refine g_iconst C dX9_word_34 ?_
  refine g_istore_n C 3 [(2, vI y0), (0, .ref (ad 0)), (1, vI x1)] rfl (by decide) rfl dX9_word_35 ?_
  obtain ⟨nn, h⟩ := h
  exact g_pick [2, 3, 1, 0] rfl (m_X9_word_L36 C hlocks hr hK2 nn _ _ _ _ h)
set_option maxRecDepth 100000 in
set_option maxHeartbeats 4000000 in
theorem m_X9_word_L2 {p : Program} {l : Launch} {e : Env} {s : State} {m : MethodId} {args : Array Value} {below : List Frame} {meth : Method} {c : Code} {D : va_G} {cA : Nat → ClassId} {ad : Nat → Nat} (C : Cx p s m args c cX9_word RX9 4 D cA shM ad zsM) (hlocks : meth.locks = false) (hr : meth.sig.returnType = (some .int)) {Q : Int → St → Prop} : ∀ (n : Nat) (x1 : Int) (σ : St), wp_X9_word_L2 Q n x1 σ → G p l e rm_X9_word s m args below meth c 0 0 4 D cA shM ad (QI D cA shM ad zsM below args s Q) σ [(0, .ref (ad 0)), (1, vI x1)] [] 2 := by
  intro n
  induction n with
  | zero => intro _ _ h; exact h.elim
  | succ n ih =>
    intro x1 σ h
    simp only [wp_X9_word_L2] at h
    refine g_iload_n C 1 1 rfl rfl dX9_word_2 ?_
    refine g_aload_n C 0 0 rfl rfl dX9_word_3 ?_
    refine g_get C iX9 (ci := 9) (o := 0) (v := vI (σ 0 10)) rfl rfl 10 (by decide) rfl tw_X9_151 dX9_word_4 ?_
    refine g_icmp_ge C rfl rfl 102 (by decide) dX9_word_7 (fun hc => ?_) (fun hc => ?_)
    · have h := h.1 hc
      refine g_iconst C dX9_word_102 ?_
      exact g_iret C hlocks hr h dX9_word_103
    · have h := h.2 hc
      refine g_aload_n C 0 0 rfl rfl dX9_word_10 ?_
      refine g_get C iX9 (ci := 9) (o := 0) (v := .ref (ad 5)) rfl rfl 9 (by decide) rfl tw_X9_23 dX9_word_11 ?_
      refine g_iload_n C 1 1 rfl rfl dX9_word_14 ?_
      obtain ⟨hi, h⟩ := h
      refine g_iald C (o := 5) (N := 33) rfl rfl hi rfl dX9_word_15 ?_
      refine g_aload_n C 0 0 rfl rfl dX9_word_16 ?_
      refine g_get C iX9 (ci := 9) (o := 0) (v := vI (σ 0 29)) rfl rfl 29 (by decide) rfl tw_X9_120 dX9_word_17 ?_
      refine g_aload_n C 0 0 rfl rfl dX9_word_20 ?_
      refine g_get C iX9 (ci := 9) (o := 0) (v := vI (σ 0 28)) rfl rfl 28 (by decide) rfl tw_X9_123 dX9_word_21 ?_
      refine g_isub C dX9_word_24 ?_
      refine g_icmp_ne C rfl rfl 32 (by decide) dX9_word_25 (fun hc => ?_) (fun hc => ?_)
      · have h := h.1 hc
        refine g_iconst C dX9_word_32 ?_
        exact g_pick [0, 1] rfl (m_X9_word_B33 C hlocks hr (fun _ _ h => ih _ _ h) h)
      · have h := h.2 hc
        refine g_iconst C dX9_word_28 ?_
        refine g_goto C 33 (by decide) dX9_word_29 ?_
        exact g_pick [0, 1] rfl (m_X9_word_B33 C hlocks hr (fun _ _ h => ih _ _ h) h)
set_option maxRecDepth 100000 in
set_option maxHeartbeats 4000000 in
theorem m_X9_word_E {p : Program} {l : Launch} {e : Env} {s : State} {m : MethodId} {args : Array Value} {below : List Frame} {meth : Method} {c : Code} {D : va_G} {cA : Nat → ClassId} {ad : Nat → Nat} (C : Cx p s m args c cX9_word RX9 4 D cA shM ad zsM) (hlocks : meth.locks = false) (hr : meth.sig.returnType = (some .int)) {Q : Int → St → Prop} {σ : St} (h : wp_X9_word Q σ) : G p l e rm_X9_word s m args below meth c 0 0 4 D cA shM ad (QI D cA shM ad zsM below args s Q) σ [(0, .ref (ad 0))] [] 0 := by
  unfold wp_X9_word at h
  refine g_iconst C dX9_word_0 ?_
  refine g_istore_n C 1 [(0, .ref (ad 0))] rfl (by decide) rfl dX9_word_1 ?_
  obtain ⟨nn, h⟩ := h
  exact g_pick [1, 0] rfl (m_X9_word_L2 C hlocks hr nn _ _ h)
set_option maxRecDepth 100000 in
set_option maxHeartbeats 4000000 in
theorem m_X9_word (l : Launch) (D : va_G) (cA : Nat → ClassId) (ad : Nat → Nat) {Q : Int → St → Prop} {σ : St} (h : wp_X9_word Q σ) : CtI l yX9_word (.code yX9_word cX9_word 4 (some .int)) rm_X9_word D cA shM ad zsM [.ref (ad 0)] σ Q :=
  ct_I RX9 (by decide +kernel) rfl (Nat.le_of_ble_eq_true rfl) (fun p e s m args below meth c C hlocks hr => m_X9_word_E C hlocks hr h)
abbrev rm_X9_link : Room := { frames := 1, cells := 0, slots := 0, locals := 0 }
set_option maxRecDepth 100000 in
set_option maxHeartbeats 4000000 in
theorem m_X9_link_L35 {p : Program} {l : Launch} {e : Env} {s : State} {m : MethodId} {args : Array Value} {below : List Frame} {meth : Method} {c : Code} {D : va_G} {cA : Nat → ClassId} {ad : Nat → Nat} (C : Cx p s m args c cX9_link RX9 4 D cA shM ad zsM) (hlocks : meth.locks = false) (hr : meth.sig.returnType = none) {Q : St → Prop} : ∀ (n : Nat) (x1 : Int) (x3 : Int) (σ : St), wp_X9_link_L35 Q n x1 x3 σ → G p l e rm_X9_link s m args below meth c 0 0 4 D cA shM ad (QV D cA shM ad zsM below args s Q) σ [(0, .ref (ad 0)), (1, vI x1), (3, vI x3)] [] 35 := by
  intro n
  induction n with
  | zero => intro _ _ _ h; exact h.elim
  | succ n ih =>
    intro x1 x3 σ h
    simp only [wp_X9_link_L35] at h
    refine g_aload_n C 0 0 rfl rfl dX9_link_35 ?_
    refine g_get C iX9 (ci := 9) (o := 0) (v := .ref (ad 11)) rfl rfl 16 (by decide) rfl tw_X9_41 dX9_link_36 ?_
    refine g_iload_n C 2 3 rfl rfl dX9_link_39 ?_
    obtain ⟨hi, h⟩ := h
    refine g_iald C (o := 11) (N := 204) rfl rfl hi rfl dX9_link_40 ?_
    refine g_iconst C dX9_link_41 ?_
    refine g_icmp_eq C (y' := (-1)) rfl (by decide) 55 (by decide) dX9_link_42 (fun hc => ?_) (fun hc => ?_)
    · have h := h.1 hc
      refine g_aload_n C 0 0 rfl rfl dX9_link_55 ?_
      refine g_get C iX9 (ci := 9) (o := 0) (v := .ref (ad 11)) rfl rfl 16 (by decide) rfl tw_X9_41 dX9_link_56 ?_
      refine g_iload_n C 2 3 rfl rfl dX9_link_59 ?_
      refine g_iload_n C 1 1 rfl rfl dX9_link_60 ?_
      obtain ⟨hi, h⟩ := h
      refine g_iast C (o := 11) (N := 204) rfl rfl hi rfl dX9_link_61 (fun σ1 eσ1 => ?_)
      have h := h σ1 eσ1
      exact g_vret C hlocks hr h dX9_link_62
    · have h := h.2 hc
      refine g_aload_n C 0 0 rfl rfl dX9_link_45 ?_
      refine g_get C iX9 (ci := 9) (o := 0) (v := .ref (ad 11)) rfl rfl 16 (by decide) rfl tw_X9_41 dX9_link_46 ?_
      refine g_iload_n C 2 3 rfl rfl dX9_link_49 ?_
      obtain ⟨hi, h⟩ := h
      refine g_iald C (o := 11) (N := 204) rfl rfl hi rfl dX9_link_50 ?_
      refine g_name (fun x_2 ex_2 => ?_)
      have h := h x_2 ex_2
      refine g_istore_n C 3 [(0, .ref (ad 0)), (1, vI x1)] rfl (by decide) rfl dX9_link_51 ?_
      refine g_goto C 35 (by decide) dX9_link_52 ?_
      exact g_pick [1, 2, 0] rfl (ih _ _ _ h)
set_option maxRecDepth 100000 in
set_option maxHeartbeats 4000000 in
theorem m_X9_link_E {p : Program} {l : Launch} {e : Env} {s : State} {m : MethodId} {args : Array Value} {below : List Frame} {meth : Method} {c : Code} {D : va_G} {cA : Nat → ClassId} {ad : Nat → Nat} (C : Cx p s m args c cX9_link RX9 4 D cA shM ad zsM) (hlocks : meth.locks = false) (hr : meth.sig.returnType = none) {Q : St → Prop} {a1 a2 : Int} {σ : St} (h : wp_X9_link a1 a2 Q σ) : G p l e rm_X9_link s m args below meth c 0 0 4 D cA shM ad (QV D cA shM ad zsM below args s Q) σ [(0, .ref (ad 0)), (1, vI a1), (2, vI a2)] [] 0 := by
  unfold wp_X9_link at h
  refine g_aload_n C 0 0 rfl rfl dX9_link_0 ?_
  refine g_get C iX9 (ci := 9) (o := 0) (v := .ref (ad 9)) rfl rfl 14 (by decide) rfl tw_X9_35 dX9_link_1 ?_
  refine g_iload_n C 2 2 rfl rfl dX9_link_4 ?_
  refine g_dup2 C rfl rfl dX9_link_5 ?_
  obtain ⟨hi, h⟩ := h
  refine g_iald C (o := 9) (N := 204) rfl rfl hi rfl dX9_link_6 ?_
  refine g_iconst C dX9_link_7 ?_
  refine g_iadd C dX9_link_8 ?_
  obtain ⟨hi, h⟩ := h
  refine g_iast C (o := 9) (N := 204) rfl rfl hi rfl dX9_link_9 (fun σ1 eσ1 => ?_)
  have h := h σ1 eσ1
  refine g_aload_n C 0 0 rfl rfl dX9_link_10 ?_
  refine g_get C iX9 (ci := 9) (o := 0) (v := .ref (ad 12)) rfl rfl 17 (by decide) rfl tw_X9_44 dX9_link_11 ?_
  refine g_iload_n C 2 2 rfl rfl dX9_link_14 ?_
  obtain ⟨hi, h⟩ := h
  refine g_iald C (o := 12) (N := 204) rfl rfl hi rfl dX9_link_15 ?_
  refine g_iconst C dX9_link_16 ?_
  refine g_icmp_ne C (y' := (-1)) rfl (by decide) 28 (by decide) dX9_link_17 (fun hc => ?_) (fun hc => ?_)
  · have h := h.1 hc
    refine g_aload_n C 0 0 rfl rfl dX9_link_28 ?_
    refine g_get C iX9 (ci := 9) (o := 0) (v := .ref (ad 12)) rfl rfl 17 (by decide) rfl tw_X9_44 dX9_link_29 ?_
    refine g_iload_n C 2 2 rfl rfl dX9_link_32 ?_
    obtain ⟨hi, h⟩ := h
    refine g_iald C (o := 12) (N := 204) rfl rfl hi rfl dX9_link_33 ?_
    refine g_name (fun x_2 ex_2 => ?_)
    have h := h x_2 ex_2
    refine g_istore_n C 3 [(0, .ref (ad 0)), (1, vI a1), (2, vI a2)] rfl (by decide) rfl dX9_link_34 ?_
    obtain ⟨nn, h⟩ := h
    exact g_pick [1, 2, 0] rfl (m_X9_link_L35 C hlocks hr nn _ _ _ h)
  · have h := h.2 hc
    refine g_aload_n C 0 0 rfl rfl dX9_link_20 ?_
    refine g_get C iX9 (ci := 9) (o := 0) (v := .ref (ad 12)) rfl rfl 17 (by decide) rfl tw_X9_44 dX9_link_21 ?_
    refine g_iload_n C 2 2 rfl rfl dX9_link_24 ?_
    refine g_iload_n C 1 1 rfl rfl dX9_link_25 ?_
    obtain ⟨hi, h⟩ := h
    refine g_iast C (o := 12) (N := 204) rfl rfl hi rfl dX9_link_26 (fun σ3 eσ3 => ?_)
    have h := h σ3 eσ3
    exact g_vret C hlocks hr h dX9_link_27
set_option maxRecDepth 100000 in
set_option maxHeartbeats 4000000 in
theorem m_X9_link (l : Launch) (D : va_G) (cA : Nat → ClassId) (ad : Nat → Nat) {a1 a2 : Int} {Q : St → Prop} {σ : St} (h : wp_X9_link a1 a2 Q σ) : CtV l yX9_link (.code yX9_link cX9_link 4 none) rm_X9_link D cA shM ad zsM [.ref (ad 0), vI a1, vI a2] σ Q :=
  ct_V RX9 (by decide +kernel) rfl (Nat.le_of_ble_eq_true rfl) (fun p e s m args below meth c C hlocks hr => m_X9_link_E C hlocks hr h)
abbrev rm_X9_newNode : Room := { frames := 2, cells := 0, slots := 0, locals := 23 }
set_option maxRecDepth 100000 in
set_option maxHeartbeats 4000000 in
theorem m_X9_newNode_B79 {p : Program} {l : Launch} {e : Env} {s : State} {m : MethodId} {args : Array Value} {below : List Frame} {meth : Method} {c : Code} {D : va_G} {cA : Nat → ClassId} {ad : Nat → Nat} (C : Cx p s m args c cX9_newNode RX9 4 D cA shM ad zsM) (hlocks : meth.locks = false) (hr : meth.sig.returnType = (some .boolean)) {Q : Int → St → Prop} {σ : St} (h : wp_X9_newNode_B79 Q σ) : G p l e rm_X9_newNode s m args below meth c 0 0 4 D cA shM ad (QI D cA shM ad zsM below args s Q) σ [(0, .ref (ad 0))] [] 79 := by
  unfold wp_X9_newNode_B79 at h
  refine g_aload_n C 0 0 rfl rfl dX9_newNode_79 ?_
  refine g_iconst C dX9_newNode_80 ?_
  refine g_aload_n C 0 0 rfl rfl dX9_newNode_81 ?_
  refine g_get C iX9 (ci := 9) (o := 0) (v := vI (σ 0 28)) rfl rfl 28 (by decide) rfl tw_X9_123 dX9_newNode_82 ?_
  refine g_callIv C (m_X9_flaw l D cA ad h) hv_X9_flaw tw_X9_137 (o := 0) (ci := 9) (As := [vI 3, vI (σ 0 28)]) (st := []) rfl rfl rfl rfl ⟨Nat.le_of_ble_eq_true rfl, Nat.le_of_ble_eq_true rfl⟩ rfl rfl (Nat.le_of_ble_eq_true rfl) dX9_newNode_85 (fun r2 σ1 h => ?_)
  try dsimp only at h
  exact g_zret C hlocks hr h.1 h.2 dX9_newNode_88
set_option maxRecDepth 100000 in
set_option maxHeartbeats 4000000 in
theorem m_X9_newNode_B176 {p : Program} {l : Launch} {e : Env} {s : State} {m : MethodId} {args : Array Value} {below : List Frame} {meth : Method} {c : Code} {D : va_G} {cA : Nat → ClassId} {ad : Nat → Nat} (C : Cx p s m args c cX9_newNode RX9 4 D cA shM ad zsM) (hlocks : meth.locks = false) (hr : meth.sig.returnType = (some .boolean)) {Q : Int → St → Prop} {K112 : Int → Int → Int → St → Prop} (hK112 : ∀ (x1 : Int) (x2 : Int) (x3 : Int) (σ : St), K112 x1 x2 x3 σ → G p l e rm_X9_newNode s m args below meth c 0 0 4 D cA shM ad (QI D cA shM ad zsM below args s Q) σ [(0, .ref (ad 0)), (1, vI x1), (2, vI x2), (3, vI x3)] [] 112) {x1 x2 x3 : Int} {σ : St} (h : wp_X9_newNode_B176 K112 x1 x2 x3 Q σ) : G p l e rm_X9_newNode s m args below meth c 0 0 4 D cA shM ad (QI D cA shM ad zsM below args s Q) σ [(0, .ref (ad 0)), (1, vI x1), (2, vI x2), (3, vI x3)] [] 176 := by
  unfold wp_X9_newNode_B176 at h
  refine g_iinc C 3 3 [(0, .ref (ad 0)), (1, vI x1), (2, vI x2)] rfl (by decide) rfl dX9_newNode_176 (fun x_1 ex_1 => ?_)
  have h := h x_1 ex_1
  refine g_goto C 112 (by decide) dX9_newNode_179 ?_
  exact g_pick [1, 2, 3, 0] rfl (hK112 _ _ _ _ h)
set_option maxRecDepth 100000 in
set_option maxHeartbeats 4000000 in
theorem m_X9_newNode_B329 {p : Program} {l : Launch} {e : Env} {s : State} {m : MethodId} {args : Array Value} {below : List Frame} {meth : Method} {c : Code} {D : va_G} {cA : Nat → ClassId} {ad : Nat → Nat} (C : Cx p s m args c cX9_newNode RX9 4 D cA shM ad zsM) (hlocks : meth.locks = false) (hr : meth.sig.returnType = (some .boolean)) {Q : Int → St → Prop} {σ : St} (h : wp_X9_newNode_B329 Q σ) : G p l e rm_X9_newNode s m args below meth c 0 0 4 D cA shM ad (QI D cA shM ad zsM below args s Q) σ [(0, .ref (ad 0))] [] 329 := by
  unfold wp_X9_newNode_B329 at h
  refine g_aload_n C 0 0 rfl rfl dX9_newNode_329 ?_
  refine g_dup C rfl dX9_newNode_330 ?_
  refine g_get C iX9 (ci := 9) (o := 0) (v := vI (σ 0 30)) rfl rfl 30 (by decide) rfl tw_X9_157 dX9_newNode_331 ?_
  refine g_iconst C dX9_newNode_334 ?_
  refine g_iadd C dX9_newNode_335 ?_
  refine g_put C iX9 (ci := 9) (o := 0) (z := ((σ 0 30) + 1)) (ty := .int) rfl tyX9_ok nmX9 rfl 30 (by decide) rfl rfl tw_X9_157 rfl (by decide +kernel) rfl rfl dX9_newNode_336 (fun σ1 eσ1 => ?_)
  have h := h σ1 eσ1
  refine g_iconst C dX9_newNode_339 ?_
  exact g_zret C hlocks hr (by decide) h dX9_newNode_340
set_option maxRecDepth 100000 in
set_option maxHeartbeats 4000000 in
theorem m_X9_newNode_B262 {p : Program} {l : Launch} {e : Env} {s : State} {m : MethodId} {args : Array Value} {below : List Frame} {meth : Method} {c : Code} {D : va_G} {cA : Nat → ClassId} {ad : Nat → Nat} (C : Cx p s m args c cX9_newNode RX9 4 D cA shM ad zsM) (hlocks : meth.locks = false) (hr : meth.sig.returnType = (some .boolean)) {Q : Int → St → Prop} {x2 x3 y1 y2 : Int} {σ : St} (h : wp_X9_newNode_B262 x2 x3 y1 y2 Q σ) : G p l e rm_X9_newNode s m args below meth c 0 0 4 D cA shM ad (QI D cA shM ad zsM below args s Q) σ [(0, .ref (ad 0)), (2, vI x2), (3, vI x3)] [vI y2, vI y1, .ref (ad 6)] 262 := by
  unfold wp_X9_newNode_B262 at h
  obtain ⟨hi, h⟩ := h
  refine g_iast C (o := 6) (N := 204) rfl rfl hi rfl dX9_newNode_262 (fun σ1 eσ1 => ?_)
  have h := h σ1 eσ1
  refine g_aload_n C 0 0 rfl rfl dX9_newNode_263 ?_
  refine g_get C iX9 (ci := 9) (o := 0) (v := .ref (ad 7)) rfl rfl 12 (by decide) rfl tw_X9_29 dX9_newNode_264 ?_
  refine g_iload_n C 2 3 rfl rfl dX9_newNode_267 ?_
  refine g_iload_n C 1 2 rfl rfl dX9_newNode_268 ?_
  obtain ⟨hi, h⟩ := h
  refine g_iast C (o := 7) (N := 204) rfl rfl hi rfl dX9_newNode_269 (fun σ2 eσ2 => ?_)
  have h := h σ2 eσ2
  refine g_aload_n C 0 0 rfl rfl dX9_newNode_270 ?_
  refine g_get C iX9 (ci := 9) (o := 0) (v := .ref (ad 8)) rfl rfl 13 (by decide) rfl tw_X9_32 dX9_newNode_271 ?_
  refine g_iload_n C 2 3 rfl rfl dX9_newNode_274 ?_
  refine g_aload_n C 0 0 rfl rfl dX9_newNode_275 ?_
  refine g_get C iX9 (ci := 9) (o := 0) (v := vI (σ2 0 31)) rfl rfl 31 (by decide) rfl tw_X9_170 dX9_newNode_276 ?_
  obtain ⟨hi, h⟩ := h
  refine g_iast C (o := 8) (N := 204) rfl rfl hi rfl dX9_newNode_279 (fun σ3 eσ3 => ?_)
  have h := h σ3 eσ3
  refine g_aload_n C 0 0 rfl rfl dX9_newNode_280 ?_
  refine g_get C iX9 (ci := 9) (o := 0) (v := .ref (ad 9)) rfl rfl 14 (by decide) rfl tw_X9_35 dX9_newNode_281 ?_
  refine g_iload_n C 2 3 rfl rfl dX9_newNode_284 ?_
  refine g_iconst C dX9_newNode_285 ?_
  obtain ⟨hi, h⟩ := h
  refine g_iast C (o := 9) (N := 204) rfl rfl hi rfl dX9_newNode_286 (fun σ4 eσ4 => ?_)
  have h := h σ4 eσ4
  refine g_aload_n C 0 0 rfl rfl dX9_newNode_287 ?_
  refine g_get C iX9 (ci := 9) (o := 0) (v := .ref (ad 10)) rfl rfl 15 (by decide) rfl tw_X9_38 dX9_newNode_288 ?_
  refine g_iload_n C 2 3 rfl rfl dX9_newNode_291 ?_
  refine g_iconst C dX9_newNode_292 ?_
  obtain ⟨hi, h⟩ := h
  refine g_iast C (o := 10) (N := 204) rfl rfl hi rfl dX9_newNode_293 (fun σ5 eσ5 => ?_)
  have h := h σ5 eσ5
  refine g_aload_n C 0 0 rfl rfl dX9_newNode_294 ?_
  refine g_get C iX9 (ci := 9) (o := 0) (v := .ref (ad 11)) rfl rfl 16 (by decide) rfl tw_X9_41 dX9_newNode_295 ?_
  refine g_iload_n C 2 3 rfl rfl dX9_newNode_298 ?_
  refine g_iconst C dX9_newNode_299 ?_
  obtain ⟨hi, h⟩ := h
  refine g_iast C (o := 11) (N := 204) rfl rfl hi rfl dX9_newNode_300 (fun σ6 eσ6 => ?_)
  have h := h σ6 eσ6
  refine g_aload_n C 0 0 rfl rfl dX9_newNode_301 ?_
  refine g_get C iX9 (ci := 9) (o := 0) (v := .ref (ad 12)) rfl rfl 17 (by decide) rfl tw_X9_44 dX9_newNode_302 ?_
  refine g_iload_n C 2 3 rfl rfl dX9_newNode_305 ?_
  refine g_iconst C dX9_newNode_306 ?_
  obtain ⟨hi, h⟩ := h
  refine g_iast C (o := 12) (N := 204) rfl rfl hi rfl dX9_newNode_307 (fun σ7 eσ7 => ?_)
  have h := h σ7 eσ7
  refine g_aload_n C 0 0 rfl rfl dX9_newNode_308 ?_
  refine g_get C iX9 (ci := 9) (o := 0) (v := vI (σ7 0 31)) rfl rfl 31 (by decide) rfl tw_X9_170 dX9_newNode_309 ?_
  refine g_iconst C dX9_newNode_312 ?_
  refine g_icmp_eq C (y' := (-1)) rfl (by decide) 329 (by decide) dX9_newNode_313 (fun hc => ?_) (fun hc => ?_)
  · have h := h.1 hc
    exact g_pick [0] rfl (m_X9_newNode_B329 C hlocks hr h)
  · have h := h.2 hc
    refine g_aload_n C 0 0 rfl rfl dX9_newNode_316 ?_
    refine g_iload_n C 2 3 rfl rfl dX9_newNode_317 ?_
    refine g_aload_n C 0 0 rfl rfl dX9_newNode_318 ?_
    refine g_aload_n C 0 0 rfl rfl dX9_newNode_319 ?_
    refine g_get C iX9 (ci := 9) (o := 0) (v := vI (σ7 0 31)) rfl rfl 31 (by decide) rfl tw_X9_170 dX9_newNode_320 ?_
    refine g_callIv C (m_X9_here l D cA ad h) hv_X9_here tw_X9_167 (o := 0) (ci := 9) (As := [vI (σ7 0 31)]) (st := [vI x3, .ref (ad 0)]) rfl rfl rfl rfl ⟨Nat.le_of_ble_eq_true rfl, Nat.le_of_ble_eq_true rfl⟩ rfl rfl (Nat.le_of_ble_eq_true rfl) dX9_newNode_323 (fun r9 σ8 h => ?_)
    try dsimp only at h
    refine g_callVv C (m_X9_link l D cA ad h) hv_X9_link tw_X9_173 (o := 0) (ci := 9) (As := [vI x3, vI r9]) (st := []) rfl rfl rfl rfl ⟨Nat.le_of_ble_eq_true rfl, Nat.le_of_ble_eq_true rfl⟩ rfl rfl (Nat.le_of_ble_eq_true rfl) dX9_newNode_326 (fun σ10 h => ?_)
    try dsimp only at h
    exact g_pick [0] rfl (m_X9_newNode_B329 C hlocks hr h)
set_option maxRecDepth 100000 in
set_option maxHeartbeats 4000000 in
theorem m_X9_newNode_B239 {p : Program} {l : Launch} {e : Env} {s : State} {m : MethodId} {args : Array Value} {below : List Frame} {meth : Method} {c : Code} {D : va_G} {cA : Nat → ClassId} {ad : Nat → Nat} (C : Cx p s m args c cX9_newNode RX9 4 D cA shM ad zsM) (hlocks : meth.locks = false) (hr : meth.sig.returnType = (some .boolean)) {Q : Int → St → Prop} {x1 x2 : Int} {σ : St} (h : wp_X9_newNode_B239 x1 x2 Q σ) : G p l e rm_X9_newNode s m args below meth c 0 0 4 D cA shM ad (QI D cA shM ad zsM below args s Q) σ [(0, .ref (ad 0)), (1, vI x1), (2, vI x2)] [] 239 := by
  unfold wp_X9_newNode_B239 at h
  refine g_aload_n C 0 0 rfl rfl dX9_newNode_239 ?_
  refine g_aload_n C 0 0 rfl rfl dX9_newNode_240 ?_
  refine g_get C iX9 (ci := 9) (o := 0) (v := vI (σ 0 30)) rfl rfl 30 (by decide) rfl tw_X9_157 dX9_newNode_241 ?_
  refine g_callIv C (m_X9_here l D cA ad h) hv_X9_here tw_X9_167 (o := 0) (ci := 9) (As := [vI (σ 0 30)]) (st := []) rfl rfl rfl rfl ⟨Nat.le_of_ble_eq_true rfl, Nat.le_of_ble_eq_true rfl⟩ rfl rfl (Nat.le_of_ble_eq_true rfl) dX9_newNode_244 (fun r2 σ1 h => ?_)
  try dsimp only at h
  refine g_istore_n C 3 [(0, .ref (ad 0)), (1, vI x1), (2, vI x2)] rfl (by decide) rfl dX9_newNode_247 ?_
  refine g_aload_n C 1 0 rfl rfl dX9_newNode_248 ?_
  refine g_get C iX9 (ci := 9) (o := 0) (v := .ref (ad 6)) rfl rfl 11 (by decide) rfl tw_X9_26 dX9_newNode_249 ?_
  refine g_iload_n C 0 3 rfl rfl dX9_newNode_252 ?_
  refine g_iload_n C 2 1 rfl rfl dX9_newNode_253 ?_
  refine g_if_eq C rfl 261 (by decide) dX9_newNode_254 (fun hc => ?_) (fun hc => ?_)
  · have h := h.1 hc
    refine g_iconst C dX9_newNode_261 ?_
    exact g_pick [1, 3, 0] rfl (m_X9_newNode_B262 C hlocks hr h)
  · have h := h.2 hc
    refine g_iconst C dX9_newNode_257 ?_
    refine g_goto C 262 (by decide) dX9_newNode_258 ?_
    exact g_pick [1, 3, 0] rfl (m_X9_newNode_B262 C hlocks hr h)
set_option maxRecDepth 100000 in
set_option maxHeartbeats 4000000 in
theorem m_X9_newNode_L112 {p : Program} {l : Launch} {e : Env} {s : State} {m : MethodId} {args : Array Value} {below : List Frame} {meth : Method} {c : Code} {D : va_G} {cA : Nat → ClassId} {ad : Nat → Nat} (C : Cx p s m args c cX9_newNode RX9 4 D cA shM ad zsM) (hlocks : meth.locks = false) (hr : meth.sig.returnType = (some .boolean)) {Q : Int → St → Prop} : ∀ (n : Nat) (x1 : Int) (x2 : Int) (x3 : Int) (σ : St), wp_X9_newNode_L112 Q n x1 x2 x3 σ → G p l e rm_X9_newNode s m args below meth c 0 0 4 D cA shM ad (QI D cA shM ad zsM below args s Q) σ [(0, .ref (ad 0)), (1, vI x1), (2, vI x2), (3, vI x3)] [] 112 := by
  intro n
  induction n with
  | zero => intro _ _ _ _ h; exact h.elim
  | succ n ih =>
    intro x1 x2 x3 σ h
    simp only [wp_X9_newNode_L112] at h
    refine g_iload_n C 3 3 rfl rfl dX9_newNode_112 ?_
    refine g_aload_n C 0 0 rfl rfl dX9_newNode_113 ?_
    refine g_get C iX9 (ci := 9) (o := 0) (v := vI (σ 0 29)) rfl rfl 29 (by decide) rfl tw_X9_120 dX9_newNode_114 ?_
    refine g_aload_n C 0 0 rfl rfl dX9_newNode_117 ?_
    refine g_get C iX9 (ci := 9) (o := 0) (v := vI (σ 0 28)) rfl rfl 28 (by decide) rfl tw_X9_123 dX9_newNode_118 ?_
    refine g_isub C dX9_newNode_121 ?_
    refine g_icmp_ge C rfl rfl 182 (by decide) dX9_newNode_122 (fun hc => ?_) (fun hc => ?_)
    · have h := h.1 hc
      refine g_iload_n C 1 1 rfl rfl dX9_newNode_182 ?_
      refine g_if_eq C rfl 214 (by decide) dX9_newNode_183 (fun hc => ?_) (fun hc => ?_)
      · have h := h.1 hc
        refine g_aload_n C 0 0 rfl rfl dX9_newNode_214 ?_
        refine g_get C iX9 (ci := 9) (o := 0) (v := .ref (ad 3)) rfl rfl 6 (by decide) rfl tw_X9_16 dX9_newNode_215 ?_
        refine g_iload_n C 2 2 rfl rfl dX9_newNode_218 ?_
        refine g_aload_n C 0 0 rfl rfl dX9_newNode_219 ?_
        refine g_get C iX9 (ci := 9) (o := 0) (v := vI (σ 0 29)) rfl rfl 29 (by decide) rfl tw_X9_120 dX9_newNode_220 ?_
        refine g_aload_n C 0 0 rfl rfl dX9_newNode_223 ?_
        refine g_get C iX9 (ci := 9) (o := 0) (v := vI (σ 0 28)) rfl rfl 28 (by decide) rfl tw_X9_123 dX9_newNode_224 ?_
        refine g_isub C dX9_newNode_227 ?_
        obtain ⟨hi, h⟩ := h
        refine g_iast C (o := 3) (N := 17) rfl rfl hi rfl dX9_newNode_228 (fun σ1 eσ1 => ?_)
        have h := h σ1 eσ1
        refine g_aload_n C 0 0 rfl rfl dX9_newNode_229 ?_
        refine g_dup C rfl dX9_newNode_230 ?_
        refine g_get C iX9 (ci := 9) (o := 0) (v := vI (σ1 0 7)) rfl rfl 7 (by decide) rfl tw_X9_148 dX9_newNode_231 ?_
        refine g_iconst C dX9_newNode_234 ?_
        refine g_iadd C dX9_newNode_235 ?_
        refine g_put C iX9 (ci := 9) (o := 0) (z := ((σ1 0 7) + 1)) (ty := .int) rfl tyX9_ok nmX9 rfl 7 (by decide) rfl rfl tw_X9_148 rfl (by decide +kernel) rfl rfl dX9_newNode_236 (fun σ2 eσ2 => ?_)
        have h := h σ2 eσ2
        exact g_pick [0, 1, 2] rfl (m_X9_newNode_B239 C hlocks hr h)
      · have h := h.2 hc
        refine g_aload_n C 0 0 rfl rfl dX9_newNode_186 ?_
        refine g_get C iX9 (ci := 9) (o := 0) (v := .ref (ad 5)) rfl rfl 9 (by decide) rfl tw_X9_23 dX9_newNode_187 ?_
        refine g_iload_n C 2 2 rfl rfl dX9_newNode_190 ?_
        refine g_aload_n C 0 0 rfl rfl dX9_newNode_191 ?_
        refine g_get C iX9 (ci := 9) (o := 0) (v := vI (σ 0 29)) rfl rfl 29 (by decide) rfl tw_X9_120 dX9_newNode_192 ?_
        refine g_aload_n C 0 0 rfl rfl dX9_newNode_195 ?_
        refine g_get C iX9 (ci := 9) (o := 0) (v := vI (σ 0 28)) rfl rfl 28 (by decide) rfl tw_X9_123 dX9_newNode_196 ?_
        refine g_isub C dX9_newNode_199 ?_
        obtain ⟨hi, h⟩ := h
        refine g_iast C (o := 5) (N := 33) rfl rfl hi rfl dX9_newNode_200 (fun σ3 eσ3 => ?_)
        have h := h σ3 eσ3
        refine g_aload_n C 0 0 rfl rfl dX9_newNode_201 ?_
        refine g_dup C rfl dX9_newNode_202 ?_
        refine g_get C iX9 (ci := 9) (o := 0) (v := vI (σ3 0 10)) rfl rfl 10 (by decide) rfl tw_X9_151 dX9_newNode_203 ?_
        refine g_iconst C dX9_newNode_206 ?_
        refine g_iadd C dX9_newNode_207 ?_
        refine g_put C iX9 (ci := 9) (o := 0) (z := ((σ3 0 10) + 1)) (ty := .int) rfl tyX9_ok nmX9 rfl 10 (by decide) rfl rfl tw_X9_151 rfl (by decide +kernel) rfl rfl dX9_newNode_208 (fun σ4 eσ4 => ?_)
        have h := h σ4 eσ4
        refine g_goto C 239 (by decide) dX9_newNode_211 ?_
        exact g_pick [0, 1, 2] rfl (m_X9_newNode_B239 C hlocks hr h)
    · have h := h.2 hc
      refine g_iload_n C 1 1 rfl rfl dX9_newNode_125 ?_
      refine g_if_eq C rfl 154 (by decide) dX9_newNode_126 (fun hc => ?_) (fun hc => ?_)
      · have h := h.1 hc
        refine g_aload_n C 0 0 rfl rfl dX9_newNode_154 ?_
        refine g_get C iX9 (ci := 9) (o := 0) (v := .ref (ad 2)) rfl rfl 5 (by decide) rfl tw_X9_13 dX9_newNode_155 ?_
        refine g_bipush C dX9_newNode_158 (by decide) ?_
        refine g_iload_n C 2 2 rfl rfl dX9_newNode_160 ?_
        refine g_imul C dX9_newNode_161 ?_
        refine g_iload_n C 3 3 rfl rfl dX9_newNode_162 ?_
        refine g_iadd C dX9_newNode_163 ?_
        refine g_aload_n C 0 0 rfl rfl dX9_newNode_164 ?_
        refine g_get C iX9 (ci := 9) (o := 0) (v := .ref (ad 1)) rfl rfl 1 (by decide) rfl tw_X9_7 dX9_newNode_165 ?_
        refine g_aload_n C 0 0 rfl rfl dX9_newNode_168 ?_
        refine g_get C iX9 (ci := 9) (o := 0) (v := vI (σ 0 28)) rfl rfl 28 (by decide) rfl tw_X9_123 dX9_newNode_169 ?_
        refine g_iload_n C 3 3 rfl rfl dX9_newNode_172 ?_
        refine g_iadd C dX9_newNode_173 ?_
        obtain ⟨hi, h⟩ := h
        refine g_bald C (o := 1) (N := 1000) rfl rfl hi rfl dX9_newNode_174 ?_
        obtain ⟨hi, h⟩ := h
        refine g_bast C (o := 2) (N := 136) rfl rfl hi rfl dX9_newNode_175 (fun σ5 eσ5 => ?_)
        have h := h σ5 eσ5
        exact g_pick [0, 1, 2, 3] rfl (m_X9_newNode_B176 C hlocks hr (fun _ _ _ _ h => ih _ _ _ _ h) h)
      · have h := h.2 hc
        refine g_aload_n C 0 0 rfl rfl dX9_newNode_129 ?_
        refine g_get C iX9 (ci := 9) (o := 0) (v := .ref (ad 4)) rfl rfl 8 (by decide) rfl tw_X9_20 dX9_newNode_130 ?_
        refine g_bipush C dX9_newNode_133 (by decide) ?_
        refine g_iload_n C 2 2 rfl rfl dX9_newNode_135 ?_
        refine g_imul C dX9_newNode_136 ?_
        refine g_iload_n C 3 3 rfl rfl dX9_newNode_137 ?_
        refine g_iadd C dX9_newNode_138 ?_
        refine g_aload_n C 0 0 rfl rfl dX9_newNode_139 ?_
        refine g_get C iX9 (ci := 9) (o := 0) (v := .ref (ad 1)) rfl rfl 1 (by decide) rfl tw_X9_7 dX9_newNode_140 ?_
        refine g_aload_n C 0 0 rfl rfl dX9_newNode_143 ?_
        refine g_get C iX9 (ci := 9) (o := 0) (v := vI (σ 0 28)) rfl rfl 28 (by decide) rfl tw_X9_123 dX9_newNode_144 ?_
        refine g_iload_n C 3 3 rfl rfl dX9_newNode_147 ?_
        refine g_iadd C dX9_newNode_148 ?_
        obtain ⟨hi, h⟩ := h
        refine g_bald C (o := 1) (N := 1000) rfl rfl hi rfl dX9_newNode_149 ?_
        obtain ⟨hi, h⟩ := h
        refine g_bast C (o := 4) (N := 396) rfl rfl hi rfl dX9_newNode_150 (fun σ6 eσ6 => ?_)
        have h := h σ6 eσ6
        refine g_goto C 176 (by decide) dX9_newNode_151 ?_
        exact g_pick [0, 1, 2, 3] rfl (m_X9_newNode_B176 C hlocks hr (fun _ _ _ _ h => ih _ _ _ _ h) h)
set_option maxRecDepth 100000 in
set_option maxHeartbeats 4000000 in
theorem m_X9_newNode_B109 {p : Program} {l : Launch} {e : Env} {s : State} {m : MethodId} {args : Array Value} {below : List Frame} {meth : Method} {c : Code} {D : va_G} {cA : Nat → ClassId} {ad : Nat → Nat} (C : Cx p s m args c cX9_newNode RX9 4 D cA shM ad zsM) (hlocks : meth.locks = false) (hr : meth.sig.returnType = (some .boolean)) {Q : Int → St → Prop} {x1 y0 : Int} {σ : St} (h : wp_X9_newNode_B109 x1 y0 Q σ) : G p l e rm_X9_newNode s m args below meth c 0 0 4 D cA shM ad (QI D cA shM ad zsM below args s Q) σ [(0, .ref (ad 0)), (1, vI x1)] [vI y0] 109 := by
  unfold wp_X9_newNode_B109 at h
  refine g_istore_n C 2 [(0, .ref (ad 0)), (1, vI x1)] rfl (by decide) rfl dX9_newNode_109 ?_
  refine g_iconst C dX9_newNode_110 ?_
  refine g_istore_n C 3 [(2, vI y0), (0, .ref (ad 0)), (1, vI x1)] rfl (by decide) rfl dX9_newNode_111 ?_
  obtain ⟨nn, h⟩ := h
  exact g_pick [2, 3, 1, 0] rfl (m_X9_newNode_L112 C hlocks hr nn _ _ _ _ h)
set_option maxRecDepth 100000 in
set_option maxHeartbeats 4000000 in
theorem m_X9_newNode_B89 {p : Program} {l : Launch} {e : Env} {s : State} {m : MethodId} {args : Array Value} {below : List Frame} {meth : Method} {c : Code} {D : va_G} {cA : Nat → ClassId} {ad : Nat → Nat} (C : Cx p s m args c cX9_newNode RX9 4 D cA shM ad zsM) (hlocks : meth.locks = false) (hr : meth.sig.returnType = (some .boolean)) {Q : Int → St → Prop} {x1 x2 : Int} {σ : St} (h : wp_X9_newNode_B89 x1 x2 Q σ) : G p l e rm_X9_newNode s m args below meth c 0 0 4 D cA shM ad (QI D cA shM ad zsM below args s Q) σ [(0, .ref (ad 0)), (1, vI x1), (2, vI x2)] [] 89 := by
  unfold wp_X9_newNode_B89 at h
  refine g_iload_n C 2 2 rfl rfl dX9_newNode_89 ?_
  refine g_iconst C dX9_newNode_90 ?_
  refine g_icmp_ne C (y' := (-1)) rfl (by decide) 239 (by decide) dX9_newNode_91 (fun hc => ?_) (fun hc => ?_)
  · have h := h.1 hc
    exact g_pick [0, 1, 2] rfl (m_X9_newNode_B239 C hlocks hr h)
  · have h := h.2 hc
    refine g_iload_n C 1 1 rfl rfl dX9_newNode_94 ?_
    refine g_if_eq C rfl 105 (by decide) dX9_newNode_95 (fun hc => ?_) (fun hc => ?_)
    · have h := h.1 hc
      refine g_aload_n C 0 0 rfl rfl dX9_newNode_105 ?_
      refine g_get C iX9 (ci := 9) (o := 0) (v := vI (σ 0 7)) rfl rfl 7 (by decide) rfl tw_X9_148 dX9_newNode_106 ?_
      exact g_pick [0, 1] rfl (m_X9_newNode_B109 C hlocks hr h)
    · have h := h.2 hc
      refine g_aload_n C 0 0 rfl rfl dX9_newNode_98 ?_
      refine g_get C iX9 (ci := 9) (o := 0) (v := vI (σ 0 10)) rfl rfl 10 (by decide) rfl tw_X9_151 dX9_newNode_99 ?_
      refine g_goto C 109 (by decide) dX9_newNode_102 ?_
      exact g_pick [0, 1] rfl (m_X9_newNode_B109 C hlocks hr h)
set_option maxRecDepth 100000 in
set_option maxHeartbeats 4000000 in
theorem m_X9_newNode_B48 {p : Program} {l : Launch} {e : Env} {s : State} {m : MethodId} {args : Array Value} {below : List Frame} {meth : Method} {c : Code} {D : va_G} {cA : Nat → ClassId} {ad : Nat → Nat} (C : Cx p s m args c cX9_newNode RX9 4 D cA shM ad zsM) (hlocks : meth.locks = false) (hr : meth.sig.returnType = (some .boolean)) {Q : Int → St → Prop} {x1 y0 : Int} {σ : St} (h : wp_X9_newNode_B48 x1 y0 Q σ) : G p l e rm_X9_newNode s m args below meth c 0 0 4 D cA shM ad (QI D cA shM ad zsM below args s Q) σ [(0, .ref (ad 0)), (1, vI x1)] [vI y0] 48 := by
  unfold wp_X9_newNode_B48 at h
  refine g_istore_n C 2 [(0, .ref (ad 0)), (1, vI x1)] rfl (by decide) rfl dX9_newNode_48 ?_
  refine g_iload_n C 0 2 rfl rfl dX9_newNode_49 ?_
  refine g_iconst C dX9_newNode_50 ?_
  refine g_icmp_ne C (y' := (-1)) rfl (by decide) 89 (by decide) dX9_newNode_51 (fun hc => ?_) (fun hc => ?_)
  · have h := h.1 hc
    exact g_pick [1, 2, 0] rfl (m_X9_newNode_B89 C hlocks hr h)
  · have h := h.2 hc
    refine g_iload_n C 2 1 rfl rfl dX9_newNode_54 ?_
    refine g_if_eq C rfl 70 (by decide) dX9_newNode_55 (fun hc => ?_) (fun hc => ?_)
    · have h := h.1 hc
      refine g_aload_n C 1 0 rfl rfl dX9_newNode_70 ?_
      refine g_get C iX9 (ci := 9) (o := 0) (v := vI (σ 0 7)) rfl rfl 7 (by decide) rfl tw_X9_148 dX9_newNode_71 ?_
      refine g_bipush C dX9_newNode_74 (by decide) ?_
      refine g_icmp_ne C (y' := 16) rfl (by decide) 89 (by decide) dX9_newNode_76 (fun hc => ?_) (fun hc => ?_)
      · have h := h.1 hc
        exact g_pick [1, 2, 0] rfl (m_X9_newNode_B89 C hlocks hr h)
      · have h := h.2 hc
        exact g_pick [1] rfl (m_X9_newNode_B79 C hlocks hr h)
    · have h := h.2 hc
      refine g_aload_n C 1 0 rfl rfl dX9_newNode_58 ?_
      refine g_get C iX9 (ci := 9) (o := 0) (v := vI (σ 0 10)) rfl rfl 10 (by decide) rfl tw_X9_151 dX9_newNode_59 ?_
      refine g_bipush C dX9_newNode_62 (by decide) ?_
      refine g_icmp_ne C (y' := 32) rfl (by decide) 89 (by decide) dX9_newNode_64 (fun hc => ?_) (fun hc => ?_)
      · have h := h.1 hc
        exact g_pick [1, 2, 0] rfl (m_X9_newNode_B89 C hlocks hr h)
      · have h := h.2 hc
        refine g_goto C 79 (by decide) dX9_newNode_67 ?_
        exact g_pick [1] rfl (m_X9_newNode_B79 C hlocks hr h)
set_option maxRecDepth 100000 in
set_option maxHeartbeats 4000000 in
theorem m_X9_newNode_B32 {p : Program} {l : Launch} {e : Env} {s : State} {m : MethodId} {args : Array Value} {below : List Frame} {meth : Method} {c : Code} {D : va_G} {cA : Nat → ClassId} {ad : Nat → Nat} (C : Cx p s m args c cX9_newNode RX9 4 D cA shM ad zsM) (hlocks : meth.locks = false) (hr : meth.sig.returnType = (some .boolean)) {Q : Int → St → Prop} {y0 : Int} {σ : St} (h : wp_X9_newNode_B32 y0 Q σ) : G p l e rm_X9_newNode s m args below meth c 0 0 4 D cA shM ad (QI D cA shM ad zsM below args s Q) σ [(0, .ref (ad 0))] [vI y0] 32 := by
  unfold wp_X9_newNode_B32 at h
  refine g_istore_n C 1 [(0, .ref (ad 0))] rfl (by decide) rfl dX9_newNode_32 ?_
  refine g_iload_n C 0 1 rfl rfl dX9_newNode_33 ?_
  refine g_if_eq C rfl 44 (by decide) dX9_newNode_34 (fun hc => ?_) (fun hc => ?_)
  · have h := h.1 hc
    refine g_aload_n C 1 0 rfl rfl dX9_newNode_44 ?_
    refine g_callIv C (m_X9_label l D cA ad h) hv_X9_label tw_X9_164 (o := 0) (ci := 9) (As := []) (st := []) rfl rfl rfl rfl ⟨Nat.le_of_ble_eq_true rfl, Nat.le_of_ble_eq_true rfl⟩ rfl rfl (Nat.le_of_ble_eq_true rfl) dX9_newNode_45 (fun r2 σ1 h => ?_)
    try dsimp only at h
    exact g_pick [1, 0] rfl (m_X9_newNode_B48 C hlocks hr h)
  · have h := h.2 hc
    refine g_aload_n C 1 0 rfl rfl dX9_newNode_37 ?_
    refine g_callIv C (m_X9_word l D cA ad h) hv_X9_word tw_X9_160 (o := 0) (ci := 9) (As := []) (st := []) rfl rfl rfl rfl ⟨Nat.le_of_ble_eq_true rfl, Nat.le_of_ble_eq_true rfl⟩ rfl rfl (Nat.le_of_ble_eq_true rfl) dX9_newNode_38 (fun r4 σ3 h => ?_)
    try dsimp only at h
    refine g_goto C 48 (by decide) dX9_newNode_41 ?_
    exact g_pick [1, 0] rfl (m_X9_newNode_B48 C hlocks hr h)
set_option maxRecDepth 100000 in
set_option maxHeartbeats 4000000 in
theorem m_X9_newNode_E {p : Program} {l : Launch} {e : Env} {s : State} {m : MethodId} {args : Array Value} {below : List Frame} {meth : Method} {c : Code} {D : va_G} {cA : Nat → ClassId} {ad : Nat → Nat} (C : Cx p s m args c cX9_newNode RX9 4 D cA shM ad zsM) (hlocks : meth.locks = false) (hr : meth.sig.returnType = (some .boolean)) {Q : Int → St → Prop} {σ : St} (h : wp_X9_newNode Q σ) : G p l e rm_X9_newNode s m args below meth c 0 0 4 D cA shM ad (QI D cA shM ad zsM below args s Q) σ [(0, .ref (ad 0))] [] 0 := by
  unfold wp_X9_newNode at h
  refine g_aload_n C 0 0 rfl rfl dX9_newNode_0 ?_
  refine g_get C iX9 (ci := 9) (o := 0) (v := vI (σ 0 30)) rfl rfl 30 (by decide) rfl tw_X9_157 dX9_newNode_1 ?_
  refine g_bipush C dX9_newNode_4 (by decide) ?_
  refine g_icmp_ne C (y' := 12) rfl (by decide) 19 (by decide) dX9_newNode_6 (fun hc => ?_) (fun hc => ?_)
  · have h := h.1 hc
    refine g_aload_n C 0 0 rfl rfl dX9_newNode_19 ?_
    refine g_get C iX9 (ci := 9) (o := 0) (v := vI (σ 0 27)) rfl rfl 27 (by decide) rfl tw_X9_130 dX9_newNode_20 ?_
    refine g_iconst C dX9_newNode_23 ?_
    refine g_icmp_ne C (y' := 2) rfl (by decide) 31 (by decide) dX9_newNode_24 (fun hc => ?_) (fun hc => ?_)
    · have h := h.1 hc
      refine g_iconst C dX9_newNode_31 ?_
      exact g_pick [0] rfl (m_X9_newNode_B32 C hlocks hr h)
    · have h := h.2 hc
      refine g_iconst C dX9_newNode_27 ?_
      refine g_goto C 32 (by decide) dX9_newNode_28 ?_
      exact g_pick [0] rfl (m_X9_newNode_B32 C hlocks hr h)
  · have h := h.2 hc
    refine g_aload_n C 0 0 rfl rfl dX9_newNode_9 ?_
    refine g_iconst C dX9_newNode_10 ?_
    refine g_aload_n C 0 0 rfl rfl dX9_newNode_11 ?_
    refine g_get C iX9 (ci := 9) (o := 0) (v := vI (σ 0 28)) rfl rfl 28 (by decide) rfl tw_X9_123 dX9_newNode_12 ?_
    refine g_callIv C (m_X9_flaw l D cA ad h) hv_X9_flaw tw_X9_137 (o := 0) (ci := 9) (As := [vI 3, vI (σ 0 28)]) (st := []) rfl rfl rfl rfl ⟨Nat.le_of_ble_eq_true rfl, Nat.le_of_ble_eq_true rfl⟩ rfl rfl (Nat.le_of_ble_eq_true rfl) dX9_newNode_15 (fun r2 σ1 h => ?_)
    try dsimp only at h
    exact g_zret C hlocks hr h.1 h.2 dX9_newNode_18
set_option maxRecDepth 100000 in
set_option maxHeartbeats 4000000 in
theorem m_X9_newNode (l : Launch) (D : va_G) (cA : Nat → ClassId) (ad : Nat → Nat) {Q : Int → St → Prop} {σ : St} (h : wp_X9_newNode Q σ) : CtI l yX9_newNode (.code yX9_newNode cX9_newNode 4 (some .boolean)) rm_X9_newNode D cA shM ad zsM [.ref (ad 0)] σ Q :=
  ct_I RX9 (by decide +kernel) rfl (Nat.le_of_ble_eq_true rfl) (fun p e s m args below meth c C hlocks hr => m_X9_newNode_E C hlocks hr h)
abbrev rm_X9_labelled : Room := { frames := 3, cells := 0, slots := 0, locals := 46 }
set_option maxRecDepth 100000 in
set_option maxHeartbeats 4000000 in
theorem m_X9_labelled_B194 {p : Program} {l : Launch} {e : Env} {s : State} {m : MethodId} {args : Array Value} {below : List Frame} {meth : Method} {c : Code} {D : va_G} {cA : Nat → ClassId} {ad : Nat → Nat} (C : Cx p s m args c cX9_labelled RX9 3 D cA shM ad zsM) (hlocks : meth.locks = false) (hr : meth.sig.returnType = (some .boolean)) {Q : Int → St → Prop} {x2 : Int} {σ : St} (h : wp_X9_labelled_B194 x2 Q σ) : G p l e rm_X9_labelled s m args below meth c 0 0 3 D cA shM ad (QI D cA shM ad zsM below args s Q) σ [(0, .ref (ad 0)), (2, vI x2)] [] 194 := by
  unfold wp_X9_labelled_B194 at h
  refine g_aload_n C 0 0 rfl rfl dX9_labelled_194 ?_
  refine g_get C iX9 (ci := 9) (o := 0) (v := vI (σ 0 27)) rfl rfl 27 (by decide) rfl tw_X9_130 dX9_labelled_195 ?_
  refine g_bipush C dX9_labelled_198 (by decide) ?_
  refine g_icmp_eq C (y' := 40) rfl (by decide) 208 (by decide) dX9_labelled_200 (fun hc => ?_) (fun hc => ?_)
  · have h := h.1 hc
    refine g_aload_n C 0 0 rfl rfl dX9_labelled_208 ?_
    refine g_iload_n C 1 2 rfl rfl dX9_labelled_209 ?_
    refine g_put C iX9 (ci := 9) (o := 0) (z := x2) (ty := .int) rfl tyX9_ok nmX9 rfl 31 (by decide) rfl rfl tw_X9_170 rfl (by decide +kernel) rfl rfl dX9_labelled_210 (fun σ1 eσ1 => ?_)
    have h := h σ1 eσ1
    refine g_aload_n C 0 0 rfl rfl dX9_labelled_213 ?_
    refine g_callIv C (m_X9_next l D cA ad h) hv_X9_next tw_X9_144 (o := 0) (ci := 9) (As := []) (st := []) rfl rfl rfl rfl ⟨Nat.le_of_ble_eq_true rfl, Nat.le_of_ble_eq_true rfl⟩ rfl rfl (Nat.le_of_ble_eq_true rfl) dX9_labelled_214 (fun r3 σ2 h => ?_)
    try dsimp only at h
    exact g_zret C hlocks hr h.1 h.2 dX9_labelled_217
  · have h := h.2 hc
    refine g_aload_n C 0 0 rfl rfl dX9_labelled_203 ?_
    refine g_callIv C (m_X9_cannot l D cA ad h) hv_X9_cannot tw_X9_189 (o := 0) (ci := 9) (As := []) (st := []) rfl rfl rfl rfl ⟨Nat.le_of_ble_eq_true rfl, Nat.le_of_ble_eq_true rfl⟩ rfl rfl (Nat.le_of_ble_eq_true rfl) dX9_labelled_204 (fun r5 σ4 h => ?_)
    try dsimp only at h
    exact g_zret C hlocks hr h.1 h.2 dX9_labelled_207
set_option maxRecDepth 100000 in
set_option maxHeartbeats 4000000 in
theorem m_X9_labelled_B184 {p : Program} {l : Launch} {e : Env} {s : State} {m : MethodId} {args : Array Value} {below : List Frame} {meth : Method} {c : Code} {D : va_G} {cA : Nat → ClassId} {ad : Nat → Nat} (C : Cx p s m args c cX9_labelled RX9 3 D cA shM ad zsM) (hlocks : meth.locks = false) (hr : meth.sig.returnType = (some .boolean)) {Q : Int → St → Prop} {x2 y1 y2 : Int} {σ : St} (h : wp_X9_labelled_B184 x2 y1 y2 Q σ) : G p l e rm_X9_labelled s m args below meth c 0 0 3 D cA shM ad (QI D cA shM ad zsM below args s Q) σ [(0, .ref (ad 0)), (2, vI x2)] [vI y2, vI y1, .ref (ad 10)] 184 := by
  unfold wp_X9_labelled_B184 at h
  obtain ⟨hi, h⟩ := h
  refine g_iast C (o := 10) (N := 204) rfl rfl hi rfl dX9_labelled_184 (fun σ1 eσ1 => ?_)
  have h := h σ1 eσ1
  refine g_aload_n C 0 0 rfl rfl dX9_labelled_185 ?_
  refine g_callIv C (m_X9_next l D cA ad h) hv_X9_next tw_X9_144 (o := 0) (ci := 9) (As := []) (st := []) rfl rfl rfl rfl ⟨Nat.le_of_ble_eq_true rfl, Nat.le_of_ble_eq_true rfl⟩ rfl rfl (Nat.le_of_ble_eq_true rfl) dX9_labelled_186 (fun r3 σ2 h => ?_)
  try dsimp only at h
  refine g_if_ne C rfl 194 (by decide) dX9_labelled_189 (fun hc => ?_) (fun hc => ?_)
  · have h := h.1 hc
    exact g_pick [0, 1] rfl (m_X9_labelled_B194 C hlocks hr h)
  · have h := h.2 hc
    refine g_iconst C dX9_labelled_192 ?_
    exact g_zret C hlocks hr (by decide) h dX9_labelled_193
set_option maxRecDepth 100000 in
set_option maxHeartbeats 4000000 in
theorem m_X9_labelled_B161 {p : Program} {l : Launch} {e : Env} {s : State} {m : MethodId} {args : Array Value} {below : List Frame} {meth : Method} {c : Code} {D : va_G} {cA : Nat → ClassId} {ad : Nat → Nat} (C : Cx p s m args c cX9_labelled RX9 3 D cA shM ad zsM) (hlocks : meth.locks = false) (hr : meth.sig.returnType = (some .boolean)) {Q : Int → St → Prop} {x2 : Int} {σ : St} (h : wp_X9_labelled_B161 x2 Q σ) : G p l e rm_X9_labelled s m args below meth c 0 0 3 D cA shM ad (QI D cA shM ad zsM below args s Q) σ [(0, .ref (ad 0)), (2, vI x2)] [] 161 := by
  unfold wp_X9_labelled_B161 at h
  refine g_aload_n C 0 0 rfl rfl dX9_labelled_161 ?_
  refine g_get C iX9 (ci := 9) (o := 0) (v := .ref (ad 10)) rfl rfl 15 (by decide) rfl tw_X9_38 dX9_labelled_162 ?_
  refine g_aload_n C 0 0 rfl rfl dX9_labelled_165 ?_
  refine g_iload_n C 1 2 rfl rfl dX9_labelled_166 ?_
  refine g_callIv C (m_X9_here l D cA ad h) hv_X9_here tw_X9_167 (o := 0) (ci := 9) (As := [vI x2]) (st := [.ref (ad 10)]) rfl rfl rfl rfl ⟨Nat.le_of_ble_eq_true rfl, Nat.le_of_ble_eq_true rfl⟩ rfl rfl (Nat.le_of_ble_eq_true rfl) dX9_labelled_167 (fun r2 σ1 h => ?_)
  try dsimp only at h
  refine g_aload_n C 0 0 rfl rfl dX9_labelled_170 ?_
  refine g_get C iX9 (ci := 9) (o := 0) (v := vI (σ1 0 27)) rfl rfl 27 (by decide) rfl tw_X9_130 dX9_labelled_171 ?_
  refine g_bipush C dX9_labelled_174 (by decide) ?_
  refine g_icmp_ne C (y' := 43) rfl (by decide) 183 (by decide) dX9_labelled_176 (fun hc => ?_) (fun hc => ?_)
  · have h := h.1 hc
    refine g_iconst C dX9_labelled_183 ?_
    exact g_pick [0, 1] rfl (m_X9_labelled_B184 C hlocks hr h)
  · have h := h.2 hc
    refine g_iconst C dX9_labelled_179 ?_
    refine g_goto C 184 (by decide) dX9_labelled_180 ?_
    exact g_pick [0, 1] rfl (m_X9_labelled_B184 C hlocks hr h)
