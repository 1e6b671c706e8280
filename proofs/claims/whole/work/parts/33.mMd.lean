set_option maxRecDepth 100000 in
set_option maxHeartbeats 4000000 in
theorem m_X9_job (l : Launch) (D : va_G) (cA : Nat → ClassId) (ad : Nat → Nat) {a1 a2 a3 a4 a5 a6 a7 a8 : Int} {Q : St → Prop} {σ : St} (h : wp_X9_job a1 a2 a3 a4 a5 a6 a7 a8 Q σ) : CtV l yX9_job (.code yX9_job cX9_job 11 none) rm_X9_job D cA shM ad zsM [.ref (ad 0), vI a1, vI a2, vI a3, vI a4, vI a5, vI a6, vI a7, vL a8] σ Q :=
  ct_V RX9 (by decide +kernel) rfl (Nat.le_of_ble_eq_true rfl) (fun p e s m args below meth c C hlocks hr => m_X9_job_E C hlocks hr h)
abbrev rm_X9_takeTree : Room := { frames := 2, cells := 0, slots := 0, locals := 30 }
set_option maxRecDepth 100000 in
set_option maxHeartbeats 4000000 in
theorem m_X9_takeTree_B144 {p : Program} {l : Launch} {e : Env} {s : State} {m : MethodId} {args : Array Value} {below : List Frame} {meth : Method} {c : Code} {D : va_G} {cA : Nat → ClassId} {ad : Nat → Nat} (C : Cx p s m args c cX9_takeTree RX9 12 D cA shM ad zsM) (hlocks : meth.locks = false) (hr : meth.sig.returnType = none) {Q : St → Prop} {x1 x4 x5 x6 x7 x8 : Int} {σ : St} (h : wp_X9_takeTree_B144 x1 x4 x5 x6 x7 x8 Q σ) : G p l e rm_X9_takeTree s m args below meth c 0 0 12 D cA shM ad (QV D cA shM ad zsM below args s Q) σ [(0, .ref (ad 0)), (1, vI x1), (4, vI x4), (5, vI x5), (6, vI x6), (7, vI x7), (8, vL x8)] [] 144 := by
  unfold wp_X9_takeTree_B144 at h
  refine g_aload_n C 0 0 rfl rfl dX9_takeTree_144 ?_
  refine g_dup C rfl dX9_takeTree_145 ?_
  refine g_get C iX9 (ci := 9) (o := 0) (v := vI (σ 0 42)) rfl rfl 42 (by decide) rfl tw_X9_214 dX9_takeTree_146 ?_
  refine g_iconst C dX9_takeTree_149 ?_
  refine g_iadd C dX9_takeTree_150 ?_
  refine g_put C iX9 (ci := 9) (o := 0) (z := ((σ 0 42) + 1)) (ty := .int) rfl tyX9_ok nmX9 rfl 42 (by decide) rfl rfl tw_X9_214 rfl (by decide +kernel) rfl rfl dX9_takeTree_151 (fun σ1 eσ1 => ?_)
  have h := h σ1 eσ1
  refine g_aload_n C 0 0 rfl rfl dX9_takeTree_154 ?_
  refine g_aload_n C 0 0 rfl rfl dX9_takeTree_155 ?_
  refine g_get C iX9 (ci := 9) (o := 0) (v := vI (σ1 0 42)) rfl rfl 42 (by decide) rfl tw_X9_214 dX9_takeTree_156 ?_
  refine g_iconst C dX9_takeTree_159 ?_
  refine g_isub C dX9_takeTree_160 ?_
  refine g_bipush C dX9_takeTree_161 (by decide) ?_
  refine g_iload_n C 1 1 rfl rfl dX9_takeTree_163 ?_
  refine g_imul C dX9_takeTree_164 ?_
  refine g_iconst C dX9_takeTree_165 ?_
  refine g_iload C 2 4 rfl dX9_takeTree_166 ?_
  refine g_iload C 3 5 rfl dX9_takeTree_168 ?_
  refine g_iload C 4 6 rfl dX9_takeTree_170 ?_
  refine g_iload C 5 7 rfl dX9_takeTree_172 ?_
  refine g_lload C 6 8 rfl dX9_takeTree_174 ?_
  refine g_callVv C (m_X9_job l D cA ad h) hv_X9_job tw_X9_285 (o := 0) (ci := 9) (As := [vI ((σ1 0 42) - 1), vI (12 * x1), vI 0, vI x4, vI x5, vI x6, vI x7, vL x8]) (st := []) rfl rfl rfl rfl ⟨Nat.le_of_ble_eq_true rfl, Nat.le_of_ble_eq_true rfl⟩ rfl rfl (Nat.le_of_ble_eq_true rfl) dX9_takeTree_176 (fun σ2 h => ?_)
  try dsimp only at h
  exact g_vret C hlocks hr h dX9_takeTree_179
set_option maxRecDepth 100000 in
set_option maxHeartbeats 4000000 in
theorem m_X9_takeTree_L95 {p : Program} {l : Launch} {e : Env} {s : State} {m : MethodId} {args : Array Value} {below : List Frame} {meth : Method} {c : Code} {D : va_G} {cA : Nat → ClassId} {ad : Nat → Nat} (C : Cx p s m args c cX9_takeTree RX9 12 D cA shM ad zsM) (hlocks : meth.locks = false) (hr : meth.sig.returnType = none) {Q : St → Prop} : ∀ (n : Nat) (x1 : Int) (x2 : Int) (x3 : Int) (x4 : Int) (x5 : Int) (x6 : Int) (x7 : Int) (x8 : Int) (x11 : Int) (σ : St), wp_X9_takeTree_L95 Q n x1 x2 x3 x4 x5 x6 x7 x8 x11 σ → G p l e rm_X9_takeTree s m args below meth c 0 0 12 D cA shM ad (QV D cA shM ad zsM below args s Q) σ [(0, .ref (ad 0)), (1, vI x1), (2, vI x2), (3, vI x3), (4, vI x4), (5, vI x5), (6, vI x6), (7, vI x7), (8, vL x8), (11, vI x11)] [] 95 := by
  intro n
  induction n with
  | zero => intro _ _ _ _ _ _ _ _ _ _ h; exact h.elim
  | succ n ih =>
    intro x1 x2 x3 x4 x5 x6 x7 x8 x11 σ h
    simp only [wp_X9_takeTree_L95] at h
    refine g_iload C 9 11 rfl dX9_takeTree_95 ?_
    refine g_bipush C dX9_takeTree_97 (by decide) ?_
    refine g_icmp_ge C (y' := 12) rfl (by decide) 124 (by decide) dX9_takeTree_99 (fun hc => ?_) (fun hc => ?_)
    · have h := h.1 hc
      refine g_iload_n C 2 2 rfl rfl dX9_takeTree_124 ?_
      refine g_iconst C dX9_takeTree_125 ?_
      refine g_icmp_eq C (y' := (-1)) rfl (by decide) 144 (by decide) dX9_takeTree_126 (fun hc => ?_) (fun hc => ?_)
      · have h := h.1 hc
        exact g_pick [0, 1, 4, 5, 6, 7, 8] rfl (m_X9_takeTree_B144 C hlocks hr h)
      · have h := h.2 hc
        refine g_aload_n C 0 0 rfl rfl dX9_takeTree_129 ?_
        refine g_get C iX9 (ci := 9) (o := 0) (v := .ref (ad 26)) rfl rfl 45 (by decide) rfl tw_X9_95 dX9_takeTree_130 ?_
        refine g_bipush C dX9_takeTree_133 (by decide) ?_
        refine g_iload_n C 2 2 rfl rfl dX9_takeTree_135 ?_
        refine g_imul C dX9_takeTree_136 ?_
        refine g_iload_n C 3 3 rfl rfl dX9_takeTree_137 ?_
        refine g_iadd C dX9_takeTree_138 ?_
        refine g_aload_n C 0 0 rfl rfl dX9_takeTree_139 ?_
        refine g_get C iX9 (ci := 9) (o := 0) (v := vI (σ 0 42)) rfl rfl 42 (by decide) rfl tw_X9_214 dX9_takeTree_140 ?_
        obtain ⟨hi, h⟩ := h
        refine g_iast C (o := 26) (N := 120) rfl rfl hi rfl dX9_takeTree_143 (fun σ1 eσ1 => ?_)
        have h := h σ1 eσ1
        exact g_pick [0, 1, 4, 5, 6, 7, 8] rfl (m_X9_takeTree_B144 C hlocks hr h)
    · have h := h.2 hc
      refine g_aload_n C 0 0 rfl rfl dX9_takeTree_102 ?_
      refine g_get C iX9 (ci := 9) (o := 0) (v := .ref (ad 26)) rfl rfl 45 (by decide) rfl tw_X9_95 dX9_takeTree_103 ?_
      refine g_bipush C dX9_takeTree_106 (by decide) ?_
      refine g_aload_n C 0 0 rfl rfl dX9_takeTree_108 ?_
      refine g_get C iX9 (ci := 9) (o := 0) (v := vI (σ 0 42)) rfl rfl 42 (by decide) rfl tw_X9_214 dX9_takeTree_109 ?_
      refine g_imul C dX9_takeTree_112 ?_
      refine g_iload C 9 11 rfl dX9_takeTree_113 ?_
      refine g_iadd C dX9_takeTree_115 ?_
      refine g_iconst C dX9_takeTree_116 ?_
      obtain ⟨hi, h⟩ := h
      refine g_iast C (o := 26) (N := 120) rfl rfl hi rfl dX9_takeTree_117 (fun σ2 eσ2 => ?_)
      have h := h σ2 eσ2
      refine g_iinc C 9 11 [(0, .ref (ad 0)), (1, vI x1), (2, vI x2), (3, vI x3), (4, vI x4), (5, vI x5), (6, vI x6), (7, vI x7), (8, vL x8)] rfl (by decide) rfl dX9_takeTree_118 (fun x_3 ex_3 => ?_)
      have h := h x_3 ex_3
      refine g_goto C 95 (by decide) dX9_takeTree_121 ?_
      exact g_pick [1, 2, 3, 4, 5, 6, 7, 8, 9, 0] rfl (ih _ _ _ _ _ _ _ _ _ _ h)
set_option maxRecDepth 100000 in
set_option maxHeartbeats 4000000 in
theorem m_X9_takeTree_B91 {p : Program} {l : Launch} {e : Env} {s : State} {m : MethodId} {args : Array Value} {below : List Frame} {meth : Method} {c : Code} {D : va_G} {cA : Nat → ClassId} {ad : Nat → Nat} (C : Cx p s m args c cX9_takeTree RX9 12 D cA shM ad zsM) (hlocks : meth.locks = false) (hr : meth.sig.returnType = none) {Q : St → Prop} {x1 x2 x3 x4 x5 x6 x7 x8 y1 y2 : Int} {σ : St} (h : wp_X9_takeTree_B91 x1 x2 x3 x4 x5 x6 x7 x8 y1 y2 Q σ) : G p l e rm_X9_takeTree s m args below meth c 0 0 12 D cA shM ad (QV D cA shM ad zsM below args s Q) σ [(0, .ref (ad 0)), (1, vI x1), (2, vI x2), (3, vI x3), (4, vI x4), (5, vI x5), (6, vI x6), (7, vI x7), (8, vL x8)] [vI y2, vI y1, .ref (ad 23)] 91 := by
  unfold wp_X9_takeTree_B91 at h
  obtain ⟨hi, h⟩ := h
  refine g_iast C (o := 23) (N := 70) rfl rfl hi rfl dX9_takeTree_91 (fun σ1 eσ1 => ?_)
  have h := h σ1 eσ1
  refine g_iconst C dX9_takeTree_92 ?_
  refine g_istore C 11 [(0, .ref (ad 0)), (1, vI x1), (2, vI x2), (3, vI x3), (4, vI x4), (5, vI x5), (6, vI x6), (7, vI x7), (8, vL x8)] (by decide) rfl dX9_takeTree_93 ?_
  obtain ⟨nn, h⟩ := h
  exact g_pick [1, 2, 3, 4, 5, 6, 7, 8, 9, 0] rfl (m_X9_takeTree_L95 C hlocks hr nn _ _ _ _ _ _ _ _ _ _ h)
set_option maxRecDepth 100000 in
set_option maxHeartbeats 4000000 in
theorem m_X9_takeTree_E {p : Program} {l : Launch} {e : Env} {s : State} {m : MethodId} {args : Array Value} {below : List Frame} {meth : Method} {c : Code} {D : va_G} {cA : Nat → ClassId} {ad : Nat → Nat} (C : Cx p s m args c cX9_takeTree RX9 12 D cA shM ad zsM) (hlocks : meth.locks = false) (hr : meth.sig.returnType = none) {Q : St → Prop} {a1 a2 a3 a4 a5 a6 a7 a8 : Int} {σ : St} (h : wp_X9_takeTree a1 a2 a3 a4 a5 a6 a7 a8 Q σ) : G p l e rm_X9_takeTree s m args below meth c 0 0 12 D cA shM ad (QV D cA shM ad zsM below args s Q) σ [(0, .ref (ad 0)), (1, vI a1), (2, vI a2), (3, vI a3), (4, vI a4), (5, vI a5), (6, vI a6), (7, vI a7), (8, vL a8)] [] 0 := by
  unfold wp_X9_takeTree at h
  refine g_bipush C dX9_takeTree_0 (by decide) ?_
  refine g_aload_n C 0 0 rfl rfl dX9_takeTree_2 ?_
  refine g_get C iX9 (ci := 9) (o := 0) (v := vI (σ 0 42)) rfl rfl 42 (by decide) rfl tw_X9_214 dX9_takeTree_3 ?_
  refine g_imul C dX9_takeTree_6 ?_
  refine g_name (fun x_1 ex_1 => ?_)
  have h := h x_1 ex_1
  refine g_istore C 10 [(0, .ref (ad 0)), (1, vI a1), (2, vI a2), (3, vI a3), (4, vI a4), (5, vI a5), (6, vI a6), (7, vI a7), (8, vL a8)] (by decide) rfl dX9_takeTree_7 ?_
  refine g_aload_n C 1 0 rfl rfl dX9_takeTree_9 ?_
  refine g_get C iX9 (ci := 9) (o := 0) (v := .ref (ad 23)) rfl rfl 41 (by decide) rfl tw_X9_86 dX9_takeTree_10 ?_
  refine g_iload C 0 10 rfl dX9_takeTree_13 ?_
  refine g_iload_n C 2 1 rfl rfl dX9_takeTree_15 ?_
  obtain ⟨hi, h⟩ := h
  refine g_iast C (o := 23) (N := 70) rfl rfl hi rfl dX9_takeTree_16 (fun σ2 eσ2 => ?_)
  have h := h σ2 eσ2
  refine g_aload_n C 1 0 rfl rfl dX9_takeTree_17 ?_
  refine g_get C iX9 (ci := 9) (o := 0) (v := .ref (ad 23)) rfl rfl 41 (by decide) rfl tw_X9_86 dX9_takeTree_18 ?_
  refine g_iload C 0 10 rfl dX9_takeTree_21 ?_
  refine g_iconst C dX9_takeTree_23 ?_
  refine g_iadd C dX9_takeTree_24 ?_
  refine g_iload_n C 3 2 rfl rfl dX9_takeTree_25 ?_
  obtain ⟨hi, h⟩ := h
  refine g_iast C (o := 23) (N := 70) rfl rfl hi rfl dX9_takeTree_26 (fun σ3 eσ3 => ?_)
  have h := h σ3 eσ3
  refine g_aload_n C 1 0 rfl rfl dX9_takeTree_27 ?_
  refine g_get C iX9 (ci := 9) (o := 0) (v := .ref (ad 23)) rfl rfl 41 (by decide) rfl tw_X9_86 dX9_takeTree_28 ?_
  refine g_iload C 0 10 rfl dX9_takeTree_31 ?_
  refine g_iconst C dX9_takeTree_33 ?_
  refine g_iadd C dX9_takeTree_34 ?_
  refine g_iload_n C 4 3 rfl rfl dX9_takeTree_35 ?_
  obtain ⟨hi, h⟩ := h
  refine g_iast C (o := 23) (N := 70) rfl rfl hi rfl dX9_takeTree_36 (fun σ4 eσ4 => ?_)
  have h := h σ4 eσ4
  refine g_aload_n C 1 0 rfl rfl dX9_takeTree_37 ?_
  refine g_get C iX9 (ci := 9) (o := 0) (v := .ref (ad 23)) rfl rfl 41 (by decide) rfl tw_X9_86 dX9_takeTree_38 ?_
  refine g_iload C 0 10 rfl dX9_takeTree_41 ?_
  refine g_iconst C dX9_takeTree_43 ?_
  refine g_iadd C dX9_takeTree_44 ?_
  refine g_iload C 5 4 rfl dX9_takeTree_45 ?_
  obtain ⟨hi, h⟩ := h
  refine g_iast C (o := 23) (N := 70) rfl rfl hi rfl dX9_takeTree_47 (fun σ5 eσ5 => ?_)
  have h := h σ5 eσ5
  refine g_aload_n C 1 0 rfl rfl dX9_takeTree_48 ?_
  refine g_get C iX9 (ci := 9) (o := 0) (v := .ref (ad 23)) rfl rfl 41 (by decide) rfl tw_X9_86 dX9_takeTree_49 ?_
  refine g_iload C 0 10 rfl dX9_takeTree_52 ?_
  refine g_iconst C dX9_takeTree_54 ?_
  refine g_iadd C dX9_takeTree_55 ?_
  refine g_iload C 8 7 rfl dX9_takeTree_56 ?_
  obtain ⟨hi, h⟩ := h
  refine g_iast C (o := 23) (N := 70) rfl rfl hi rfl dX9_takeTree_58 (fun σ6 eσ6 => ?_)
  have h := h σ6 eσ6
  refine g_aload_n C 1 0 rfl rfl dX9_takeTree_59 ?_
  refine g_get C iX9 (ci := 9) (o := 0) (v := .ref (ad 23)) rfl rfl 41 (by decide) rfl tw_X9_86 dX9_takeTree_60 ?_
  refine g_iload C 0 10 rfl dX9_takeTree_63 ?_
  refine g_iconst C dX9_takeTree_65 ?_
  refine g_iadd C dX9_takeTree_66 ?_
  refine g_iload C 6 5 rfl dX9_takeTree_67 ?_
  obtain ⟨hi, h⟩ := h
  refine g_iast C (o := 23) (N := 70) rfl rfl hi rfl dX9_takeTree_69 (fun σ7 eσ7 => ?_)
  have h := h σ7 eσ7
  refine g_aload_n C 1 0 rfl rfl dX9_takeTree_70 ?_
  refine g_get C iX9 (ci := 9) (o := 0) (v := .ref (ad 23)) rfl rfl 41 (by decide) rfl tw_X9_86 dX9_takeTree_71 ?_
  refine g_iload C 0 10 rfl dX9_takeTree_74 ?_
  refine g_bipush C dX9_takeTree_76 (by decide) ?_
  refine g_iadd C dX9_takeTree_78 ?_
  refine g_iload C 6 5 rfl dX9_takeTree_79 ?_
  refine g_iconst C dX9_takeTree_81 ?_
  refine g_icmp_ne C (y' := (-1)) rfl (by decide) 89 (by decide) dX9_takeTree_82 (fun hc => ?_) (fun hc => ?_)
  · have h := h.1 hc
    refine g_iload C 7 6 rfl dX9_takeTree_89 ?_
    exact g_pick [1, 2, 3, 4, 5, 6, 7, 8, 9] rfl (m_X9_takeTree_B91 C hlocks hr h)
  · have h := h.2 hc
    refine g_iconst C dX9_takeTree_85 ?_
    refine g_goto C 91 (by decide) dX9_takeTree_86 ?_
    exact g_pick [1, 2, 3, 4, 5, 6, 7, 8, 9] rfl (m_X9_takeTree_B91 C hlocks hr h)
set_option maxRecDepth 100000 in
set_option maxHeartbeats 4000000 in
theorem m_X9_takeTree (l : Launch) (D : va_G) (cA : Nat → ClassId) (ad : Nat → Nat) {a1 a2 a3 a4 a5 a6 a7 a8 : Int} {Q : St → Prop} {σ : St} (h : wp_X9_takeTree a1 a2 a3 a4 a5 a6 a7 a8 Q σ) : CtV l yX9_takeTree (.code yX9_takeTree cX9_takeTree 12 none) rm_X9_takeTree D cA shM ad zsM [.ref (ad 0), vI a1, vI a2, vI a3, vI a4, vI a5, vI a6, vI a7, vL a8] σ Q :=
  ct_V RX9 (by decide +kernel) rfl (Nat.le_of_ble_eq_true rfl) (fun p e s m args below meth c C hlocks hr => m_X9_takeTree_E C hlocks hr h)
abbrev rm_X9_later : Room := { frames := 1, cells := 0, slots := 0, locals := 0 }
set_option maxRecDepth 100000 in
set_option maxHeartbeats 4000000 in
theorem m_X9_later_B43 {p : Program} {l : Launch} {e : Env} {s : State} {m : MethodId} {args : Array Value} {below : List Frame} {meth : Method} {c : Code} {D : va_G} {cA : Nat → ClassId} {ad : Nat → Nat} (C : Cx p s m args c cX9_later RX9 6 D cA shM ad zsM) (hlocks : meth.locks = false) (hr : meth.sig.returnType = none) {Q : St → Prop} {x4 x5 y1 y2 : Int} {σ : St} (h : wp_X9_later_B43 x4 x5 y1 y2 Q σ) : G p l e rm_X9_later s m args below meth c 0 0 6 D cA shM ad (QV D cA shM ad zsM below args s Q) σ [(0, .ref (ad 0)), (4, vI x4), (5, vI x5)] [vI y2, vI y1, .ref (ad 27)] 43 := by
  unfold wp_X9_later_B43 at h
  obtain ⟨hi, h⟩ := h
  refine g_iast C (o := 27) (N := 1400) rfl rfl hi rfl dX9_later_43 (fun σ1 eσ1 => ?_)
  have h := h σ1 eσ1
  refine g_aload_n C 0 0 rfl rfl dX9_later_44 ?_
  refine g_get C iX9 (ci := 9) (o := 0) (v := .ref (ad 27)) rfl rfl 46 (by decide) rfl tw_X9_98 dX9_later_45 ?_
  refine g_iload C 2 5 rfl dX9_later_48 ?_
  refine g_iconst C dX9_later_50 ?_
  refine g_iadd C dX9_later_51 ?_
  refine g_iload C 1 4 rfl dX9_later_52 ?_
  obtain ⟨hi, h⟩ := h
  refine g_iast C (o := 27) (N := 1400) rfl rfl hi rfl dX9_later_54 (fun σ2 eσ2 => ?_)
  have h := h σ2 eσ2
  refine g_aload_n C 0 0 rfl rfl dX9_later_55 ?_
  refine g_dup C rfl dX9_later_56 ?_
  refine g_get C iX9 (ci := 9) (o := 0) (v := vI (σ2 0 48)) rfl rfl 48 (by decide) rfl tw_X9_282 dX9_later_57 ?_
  refine g_iconst C dX9_later_60 ?_
  refine g_iadd C dX9_later_61 ?_
  refine g_put C iX9 (ci := 9) (o := 0) (z := ((σ2 0 48) + 1)) (ty := .int) rfl tyX9_ok nmX9 rfl 48 (by decide) rfl rfl tw_X9_282 rfl (by decide +kernel) rfl rfl dX9_later_62 (fun σ3 eσ3 => ?_)
  have h := h σ3 eσ3
  exact g_vret C hlocks hr h dX9_later_65
set_option maxRecDepth 100000 in
set_option maxHeartbeats 4000000 in
theorem m_X9_later_E {p : Program} {l : Launch} {e : Env} {s : State} {m : MethodId} {args : Array Value} {below : List Frame} {meth : Method} {c : Code} {D : va_G} {cA : Nat → ClassId} {ad : Nat → Nat} (C : Cx p s m args c cX9_later RX9 6 D cA shM ad zsM) (hlocks : meth.locks = false) (hr : meth.sig.returnType = none) {Q : St → Prop} {a1 a2 a3 a4 : Int} {σ : St} (h : wp_X9_later a1 a2 a3 a4 Q σ) : G p l e rm_X9_later s m args below meth c 0 0 6 D cA shM ad (QV D cA shM ad zsM below args s Q) σ [(0, .ref (ad 0)), (1, vI a1), (2, vI a2), (3, vI a3), (4, vI a4)] [] 0 := by
  unfold wp_X9_later at h
  refine g_iconst C dX9_later_0 ?_
  refine g_aload_n C 0 0 rfl rfl dX9_later_1 ?_
  refine g_get C iX9 (ci := 9) (o := 0) (v := vI (σ 0 48)) rfl rfl 48 (by decide) rfl tw_X9_282 dX9_later_2 ?_
  refine g_imul C dX9_later_5 ?_
  refine g_name (fun x_1 ex_1 => ?_)
  have h := h x_1 ex_1
  refine g_istore C 5 [(0, .ref (ad 0)), (1, vI a1), (2, vI a2), (3, vI a3), (4, vI a4)] (by decide) rfl dX9_later_6 ?_
  refine g_aload_n C 1 0 rfl rfl dX9_later_8 ?_
  refine g_get C iX9 (ci := 9) (o := 0) (v := .ref (ad 27)) rfl rfl 46 (by decide) rfl tw_X9_98 dX9_later_9 ?_
  refine g_iload C 0 5 rfl dX9_later_12 ?_
  refine g_iload_n C 2 1 rfl rfl dX9_later_14 ?_
  obtain ⟨hi, h⟩ := h
  refine g_iast C (o := 27) (N := 1400) rfl rfl hi rfl dX9_later_15 (fun σ2 eσ2 => ?_)
  have h := h σ2 eσ2
  refine g_aload_n C 1 0 rfl rfl dX9_later_16 ?_
  refine g_get C iX9 (ci := 9) (o := 0) (v := .ref (ad 27)) rfl rfl 46 (by decide) rfl tw_X9_98 dX9_later_17 ?_
  refine g_iload C 0 5 rfl dX9_later_20 ?_
  refine g_iconst C dX9_later_22 ?_
  refine g_iadd C dX9_later_23 ?_
  refine g_iload_n C 3 2 rfl rfl dX9_later_24 ?_
  obtain ⟨hi, h⟩ := h
  refine g_iast C (o := 27) (N := 1400) rfl rfl hi rfl dX9_later_25 (fun σ3 eσ3 => ?_)
  have h := h σ3 eσ3
  refine g_aload_n C 1 0 rfl rfl dX9_later_26 ?_
  refine g_get C iX9 (ci := 9) (o := 0) (v := .ref (ad 27)) rfl rfl 46 (by decide) rfl tw_X9_98 dX9_later_27 ?_
  refine g_iload C 0 5 rfl dX9_later_30 ?_
  refine g_iconst C dX9_later_32 ?_
  refine g_iadd C dX9_later_33 ?_
  refine g_iload_n C 4 3 rfl rfl dX9_later_34 ?_
  refine g_if_eq C rfl 42 (by decide) dX9_later_35 (fun hc => ?_) (fun hc => ?_)
  · have h := h.1 hc
    refine g_iconst C dX9_later_42 ?_
    exact g_pick [1, 5, 0] rfl (m_X9_later_B43 C hlocks hr h)
  · have h := h.2 hc
    refine g_iconst C dX9_later_38 ?_
    refine g_goto C 43 (by decide) dX9_later_39 ?_
    exact g_pick [1, 5, 0] rfl (m_X9_later_B43 C hlocks hr h)
set_option maxRecDepth 100000 in
set_option maxHeartbeats 4000000 in
theorem m_X9_later (l : Launch) (D : va_G) (cA : Nat → ClassId) (ad : Nat → Nat) {a1 a2 a3 a4 : Int} {Q : St → Prop} {σ : St} (h : wp_X9_later a1 a2 a3 a4 Q σ) : CtV l yX9_later (.code yX9_later cX9_later 6 none) rm_X9_later D cA shM ad zsM [.ref (ad 0), vI a1, vI a2, vI a3, vI a4] σ Q :=
  ct_V RX9 (by decide +kernel) rfl (Nat.le_of_ble_eq_true rfl) (fun p e s m args below meth c C hlocks hr => m_X9_later_E C hlocks hr h)
abbrev rm_X9_show : Room := { frames := 2, cells := 0, slots := 0, locals := 25 }
set_option maxRecDepth 100000 in
set_option maxHeartbeats 4000000 in
theorem m_X9_show_B165 {p : Program} {l : Launch} {e : Env} {s : State} {m : MethodId} {args : Array Value} {below : List Frame} {meth : Method} {c : Code} {D : va_G} {cA : Nat → ClassId} {ad : Nat → Nat} (C : Cx p s m args c cX9_show RX9 7 D cA shM ad zsM) (hlocks : meth.locks = false) (hr : meth.sig.returnType = none) {Q : St → Prop} {K121 : Int → Int → Int → St → Prop} (hK121 : ∀ (x1 : Int) (x2 : Int) (x6 : Int) (σ : St), K121 x1 x2 x6 σ → G p l e rm_X9_show s m args below meth c 0 0 7 D cA shM ad (QV D cA shM ad zsM below args s Q) σ [(0, .ref (ad 0)), (1, vI x1), (2, vI x2), (6, vI x6)] [] 121) {x1 x2 x6 : Int} {σ : St} (h : wp_X9_show_B165 K121 x1 x2 x6 Q σ) : G p l e rm_X9_show s m args below meth c 0 0 7 D cA shM ad (QV D cA shM ad zsM below args s Q) σ [(0, .ref (ad 0)), (1, vI x1), (2, vI x2), (6, vI x6)] [] 165 := by
  unfold wp_X9_show_B165 at h
  refine g_iinc C 3 6 [(0, .ref (ad 0)), (1, vI x1), (2, vI x2)] rfl (by decide) rfl dX9_show_165 (fun x_1 ex_1 => ?_)
  have h := h x_1 ex_1
  refine g_goto C 121 (by decide) dX9_show_168 ?_
  exact g_pick [1, 2, 3, 0] rfl (hK121 _ _ _ _ h)
set_option maxRecDepth 100000 in
set_option maxHeartbeats 4000000 in
theorem m_X9_show_L121 {p : Program} {l : Launch} {e : Env} {s : State} {m : MethodId} {args : Array Value} {below : List Frame} {meth : Method} {c : Code} {D : va_G} {cA : Nat → ClassId} {ad : Nat → Nat} (C : Cx p s m args c cX9_show RX9 7 D cA shM ad zsM) (hlocks : meth.locks = false) (hr : meth.sig.returnType = none) {Q : St → Prop} : ∀ (n : Nat) (x1 : Int) (x2 : Int) (x6 : Int) (σ : St), wp_X9_show_L121 Q n x1 x2 x6 σ → G p l e rm_X9_show s m args below meth c 0 0 7 D cA shM ad (QV D cA shM ad zsM below args s Q) σ [(0, .ref (ad 0)), (1, vI x1), (2, vI x2), (6, vI x6)] [] 121 := by
  intro n
  induction n with
  | zero => intro _ _ _ _ h; exact h.elim
  | succ n ih =>
    intro x1 x2 x6 σ h
    simp only [wp_X9_show_L121] at h
    refine g_iload C 3 6 rfl dX9_show_121 ?_
    refine g_iload_n C 2 2 rfl rfl dX9_show_123 ?_
    refine g_icmp_le C rfl rfl 171 (by decide) dX9_show_124 (fun hc => ?_) (fun hc => ?_)
    · have h := h.1 hc
      exact g_vret C hlocks hr h dX9_show_171
    · have h := h.2 hc
      refine g_aload_n C 0 0 rfl rfl dX9_show_127 ?_
      refine g_get C iX9 (ci := 9) (o := 0) (v := .ref (ad 8)) rfl rfl 13 (by decide) rfl tw_X9_32 dX9_show_128 ?_
      refine g_bipush C dX9_show_131 (by decide) ?_
      refine g_aload_n C 0 0 rfl rfl dX9_show_133 ?_
      refine g_get C iX9 (ci := 9) (o := 0) (v := .ref (ad 23)) rfl rfl 41 (by decide) rfl tw_X9_86 dX9_show_134 ?_
      refine g_bipush C dX9_show_137 (by decide) ?_
      refine g_iload_n C 1 1 rfl rfl dX9_show_139 ?_
      refine g_imul C dX9_show_140 ?_
      obtain ⟨hi, h⟩ := h
      refine g_iald C (o := 23) (N := 70) rfl rfl hi rfl dX9_show_141 ?_
      refine g_imul C dX9_show_142 ?_
      refine g_iload C 3 6 rfl dX9_show_143 ?_
      refine g_iadd C dX9_show_145 ?_
      obtain ⟨hi, h⟩ := h
      refine g_iald C (o := 8) (N := 204) rfl rfl hi rfl dX9_show_146 ?_
      refine g_iload_n C 2 2 rfl rfl dX9_show_147 ?_
      refine g_icmp_ne C rfl rfl 165 (by decide) dX9_show_148 (fun hc => ?_) (fun hc => ?_)
      · have h := h.1 hc
        exact g_pick [0, 1, 2, 3] rfl (m_X9_show_B165 C hlocks hr (fun _ _ _ _ h => ih _ _ _ _ h) h)
      · have h := h.2 hc
        refine g_aload_n C 0 0 rfl rfl dX9_show_151 ?_
        refine g_iload_n C 1 1 rfl rfl dX9_show_152 ?_
        refine g_iload C 3 6 rfl dX9_show_153 ?_
        refine g_iconst C dX9_show_155 ?_
        refine g_aload_n C 0 0 rfl rfl dX9_show_156 ?_
        refine g_get C iX9 (ci := 9) (o := 0) (v := vI (σ 0 50)) rfl rfl 50 (by decide) rfl tw_X9_217 dX9_show_157 ?_
        refine g_iconst C dX9_show_160 ?_
        refine g_isub C dX9_show_161 ?_
        refine g_callVv C (m_X9_later l D cA ad h) hv_X9_later tw_X9_303 (o := 0) (ci := 9) (As := [vI x1, vI x6, vI 0, vI ((σ 0 50) - 1)]) (st := []) rfl rfl rfl rfl ⟨Nat.le_of_ble_eq_true rfl, Nat.le_of_ble_eq_true rfl⟩ rfl rfl (Nat.le_of_ble_eq_true rfl) dX9_show_162 (fun σ1 h => ?_)
        try dsimp only at h
        exact g_pick [0, 1, 2, 3] rfl (m_X9_show_B165 C hlocks hr (fun _ _ _ _ h => ih _ _ _ _ h) h)
set_option maxRecDepth 100000 in
set_option maxHeartbeats 4000000 in
theorem m_X9_show_E {p : Program} {l : Launch} {e : Env} {s : State} {m : MethodId} {args : Array Value} {below : List Frame} {meth : Method} {c : Code} {D : va_G} {cA : Nat → ClassId} {ad : Nat → Nat} (C : Cx p s m args c cX9_show RX9 7 D cA shM ad zsM) (hlocks : meth.locks = false) (hr : meth.sig.returnType = none) {Q : St → Prop} {a1 a2 a3 a4 : Int} {σ : St} (h : wp_X9_show a1 a2 a3 a4 Q σ) : G p l e rm_X9_show s m args below meth c 0 0 7 D cA shM ad (QV D cA shM ad zsM below args s Q) σ [(0, .ref (ad 0)), (1, vI a1), (2, vI a2), (3, vI a3), (4, vI a4)] [] 0 := by
  unfold wp_X9_show at h
  refine g_bipush C dX9_show_0 (by decide) ?_
  refine g_aload_n C 0 0 rfl rfl dX9_show_2 ?_
  refine g_get C iX9 (ci := 9) (o := 0) (v := vI (σ 0 50)) rfl rfl 50 (by decide) rfl tw_X9_217 dX9_show_3 ?_
  refine g_imul C dX9_show_6 ?_
  refine g_name (fun x_1 ex_1 => ?_)
  have h := h x_1 ex_1
  refine g_istore C 5 [(0, .ref (ad 0)), (1, vI a1), (2, vI a2), (3, vI a3), (4, vI a4)] (by decide) rfl dX9_show_7 ?_
  refine g_aload_n C 1 0 rfl rfl dX9_show_9 ?_
  refine g_get C iX9 (ci := 9) (o := 0) (v := .ref (ad 29)) rfl rfl 49 (by decide) rfl tw_X9_104 dX9_show_10 ?_
  refine g_iload C 0 5 rfl dX9_show_13 ?_
  refine g_iload_n C 2 1 rfl rfl dX9_show_15 ?_
  obtain ⟨hi, h⟩ := h
  refine g_iast C (o := 29) (N := 720) rfl rfl hi rfl dX9_show_16 (fun σ2 eσ2 => ?_)
  have h := h σ2 eσ2
  refine g_aload_n C 1 0 rfl rfl dX9_show_17 ?_
  refine g_get C iX9 (ci := 9) (o := 0) (v := .ref (ad 29)) rfl rfl 49 (by decide) rfl tw_X9_104 dX9_show_18 ?_
  refine g_iload C 0 5 rfl dX9_show_21 ?_
  refine g_iconst C dX9_show_23 ?_
  refine g_iadd C dX9_show_24 ?_
  refine g_iload_n C 3 2 rfl rfl dX9_show_25 ?_
  obtain ⟨hi, h⟩ := h
  refine g_iast C (o := 29) (N := 720) rfl rfl hi rfl dX9_show_26 (fun σ3 eσ3 => ?_)
  have h := h σ3 eσ3
  refine g_aload_n C 1 0 rfl rfl dX9_show_27 ?_
  refine g_get C iX9 (ci := 9) (o := 0) (v := .ref (ad 29)) rfl rfl 49 (by decide) rfl tw_X9_104 dX9_show_28 ?_
  refine g_iload C 0 5 rfl dX9_show_31 ?_
  refine g_iconst C dX9_show_33 ?_
  refine g_iadd C dX9_show_34 ?_
  refine g_iload C 5 4 rfl dX9_show_35 ?_
  obtain ⟨hi, h⟩ := h
  refine g_iast C (o := 29) (N := 720) rfl rfl hi rfl dX9_show_37 (fun σ4 eσ4 => ?_)
  have h := h σ4 eσ4
  refine g_aload_n C 1 0 rfl rfl dX9_show_38 ?_
  refine g_get C iX9 (ci := 9) (o := 0) (v := .ref (ad 29)) rfl rfl 49 (by decide) rfl tw_X9_104 dX9_show_39 ?_
  refine g_iload C 0 5 rfl dX9_show_42 ?_
  refine g_iconst C dX9_show_44 ?_
  refine g_iadd C dX9_show_45 ?_
  refine g_aload_n C 1 0 rfl rfl dX9_show_46 ?_
  refine g_get C iX9 (ci := 9) (o := 0) (v := .ref (ad 24)) rfl rfl 43 (by decide) rfl tw_X9_89 dX9_show_47 ?_
  refine g_bipush C dX9_show_50 (by decide) ?_
  refine g_iload_n C 2 1 rfl rfl dX9_show_52 ?_
  refine g_imul C dX9_show_53 ?_
  refine g_iload_n C 3 2 rfl rfl dX9_show_54 ?_
  refine g_iadd C dX9_show_55 ?_
  obtain ⟨hi, h⟩ := h
  refine g_iald C (o := 24) (N := 120) rfl rfl hi rfl dX9_show_56 ?_
  obtain ⟨hi, h⟩ := h
  refine g_iast C (o := 29) (N := 720) rfl rfl hi rfl dX9_show_57 (fun σ5 eσ5 => ?_)
  have h := h σ5 eσ5
  refine g_aload_n C 1 0 rfl rfl dX9_show_58 ?_
  refine g_get C iX9 (ci := 9) (o := 0) (v := .ref (ad 29)) rfl rfl 49 (by decide) rfl tw_X9_104 dX9_show_59 ?_
  refine g_iload C 0 5 rfl dX9_show_62 ?_
  refine g_iconst C dX9_show_64 ?_
  refine g_iadd C dX9_show_65 ?_
  refine g_aload_n C 1 0 rfl rfl dX9_show_66 ?_
  refine g_get C iX9 (ci := 9) (o := 0) (v := .ref (ad 25)) rfl rfl 44 (by decide) rfl tw_X9_92 dX9_show_67 ?_
  refine g_bipush C dX9_show_70 (by decide) ?_
  refine g_iload_n C 2 1 rfl rfl dX9_show_72 ?_
  refine g_imul C dX9_show_73 ?_
  refine g_iload_n C 3 2 rfl rfl dX9_show_74 ?_
  refine g_iadd C dX9_show_75 ?_
  obtain ⟨hi, h⟩ := h
  refine g_iald C (o := 25) (N := 120) rfl rfl hi rfl dX9_show_76 ?_
  obtain ⟨hi, h⟩ := h
  refine g_iast C (o := 29) (N := 720) rfl rfl hi rfl dX9_show_77 (fun σ6 eσ6 => ?_)
  have h := h σ6 eσ6
  refine g_aload_n C 1 0 rfl rfl dX9_show_78 ?_
  refine g_get C iX9 (ci := 9) (o := 0) (v := .ref (ad 29)) rfl rfl 49 (by decide) rfl tw_X9_104 dX9_show_79 ?_
  refine g_iload C 0 5 rfl dX9_show_82 ?_
  refine g_iconst C dX9_show_84 ?_
  refine g_iadd C dX9_show_85 ?_
  refine g_aload_n C 1 0 rfl rfl dX9_show_86 ?_
  refine g_get C iX9 (ci := 9) (o := 0) (v := .ref (ad 9)) rfl rfl 14 (by decide) rfl tw_X9_35 dX9_show_87 ?_
  refine g_iload_n C 4 3 rfl rfl dX9_show_90 ?_
  obtain ⟨hi, h⟩ := h
  refine g_iald C (o := 9) (N := 204) rfl rfl hi rfl dX9_show_91 ?_
  obtain ⟨hi, h⟩ := h
  refine g_iast C (o := 29) (N := 720) rfl rfl hi rfl dX9_show_92 (fun σ7 eσ7 => ?_)
  have h := h σ7 eσ7
  refine g_aload_n C 1 0 rfl rfl dX9_show_93 ?_
  refine g_dup C rfl dX9_show_94 ?_
  refine g_get C iX9 (ci := 9) (o := 0) (v := vI (σ7 0 50)) rfl rfl 50 (by decide) rfl tw_X9_217 dX9_show_95 ?_
  refine g_iconst C dX9_show_98 ?_
  refine g_iadd C dX9_show_99 ?_
  refine g_put C iX9 (ci := 9) (o := 0) (z := ((σ7 0 50) + 1)) (ty := .int) rfl tyX9_ok nmX9 rfl 50 (by decide) rfl rfl tw_X9_217 rfl (by decide +kernel) rfl rfl dX9_show_100 (fun σ8 eσ8 => ?_)
  have h := h σ8 eσ8
  refine g_aload_n C 1 0 rfl rfl dX9_show_103 ?_
  refine g_get C iX9 (ci := 9) (o := 0) (v := .ref (ad 17)) rfl rfl 22 (by decide) rfl tw_X9_60 dX9_show_104 ?_
  refine g_aload_n C 1 0 rfl rfl dX9_show_107 ?_
  refine g_get C iX9 (ci := 9) (o := 0) (v := .ref (ad 23)) rfl rfl 41 (by decide) rfl tw_X9_86 dX9_show_108 ?_
  refine g_bipush C dX9_show_111 (by decide) ?_
  refine g_iload_n C 2 1 rfl rfl dX9_show_113 ?_
  refine g_imul C dX9_show_114 ?_
  obtain ⟨hi, h⟩ := h
  refine g_iald C (o := 23) (N := 70) rfl rfl hi rfl dX9_show_115 ?_
  obtain ⟨hi, h⟩ := h
  refine g_iald C (o := 17) (N := 17) rfl rfl hi rfl dX9_show_116 ?_
  refine g_iconst C dX9_show_117 ?_
  refine g_isub C dX9_show_118 ?_
  refine g_name (fun x_9 ex_9 => ?_)
  have h := h x_9 ex_9
  refine g_istore C 6 [(5, vI x_1), (0, .ref (ad 0)), (1, vI a1), (2, vI a2), (3, vI a3), (4, vI a4)] (by decide) rfl dX9_show_119 ?_
  obtain ⟨nn, h⟩ := h
  exact g_pick [2, 3, 4, 0] rfl (m_X9_show_L121 C hlocks hr nn _ _ _ _ h)
set_option maxRecDepth 100000 in
set_option maxHeartbeats 4000000 in
theorem m_X9_show (l : Launch) (D : va_G) (cA : Nat → ClassId) (ad : Nat → Nat) {a1 a2 a3 a4 : Int} {Q : St → Prop} {σ : St} (h : wp_X9_show a1 a2 a3 a4 Q σ) : CtV l yX9_show (.code yX9_show cX9_show 7 none) rm_X9_show D cA shM ad zsM [.ref (ad 0), vI a1, vI a2, vI a3, vI a4] σ Q :=
  ct_V RX9 (by decide +kernel) rfl (Nat.le_of_ble_eq_true rfl) (fun p e s m args below meth c C hlocks hr => m_X9_show_E C hlocks hr h)
abbrev rm_X9_build : Room := { frames := 3, cells := 0, slots := 0, locals := 51 }
set_option maxRecDepth 100000 in
set_option maxHeartbeats 4000000 in
theorem m_X9_build_B204 {p : Program} {l : Launch} {e : Env} {s : State} {m : MethodId} {args : Array Value} {below : List Frame} {meth : Method} {c : Code} {D : va_G} {cA : Nat → ClassId} {ad : Nat → Nat} (C : Cx p s m args c cX9_build RX9 7 D cA shM ad zsM) (hlocks : meth.locks = false) (hr : meth.sig.returnType = none) {Q : St → Prop} {K18 : St → Prop} (hK18 : ∀ (σ : St), K18 σ → G p l e rm_X9_build s m args below meth c 0 0 7 D cA shM ad (QV D cA shM ad zsM below args s Q) σ [(0, .ref (ad 0))] [] 18) {σ : St} (h : wp_X9_build_B204 K18 Q σ) : G p l e rm_X9_build s m args below meth c 0 0 7 D cA shM ad (QV D cA shM ad zsM below args s Q) σ [(0, .ref (ad 0))] [] 204 := by
  unfold wp_X9_build_B204 at h
  refine g_goto C 18 (by decide) dX9_build_204 ?_
  exact g_pick [0] rfl (hK18  _ h)
set_option maxRecDepth 100000 in
set_option maxHeartbeats 4000000 in
theorem m_X9_build_B194 {p : Program} {l : Launch} {e : Env} {s : State} {m : MethodId} {args : Array Value} {below : List Frame} {meth : Method} {c : Code} {D : va_G} {cA : Nat → ClassId} {ad : Nat → Nat} (C : Cx p s m args c cX9_build RX9 7 D cA shM ad zsM) (hlocks : meth.locks = false) (hr : meth.sig.returnType = none) {Q : St → Prop} {K18 : St → Prop} (hK18 : ∀ (σ : St), K18 σ → G p l e rm_X9_build s m args below meth c 0 0 7 D cA shM ad (QV D cA shM ad zsM below args s Q) σ [(0, .ref (ad 0))] [] 18) {x1 x2 x4 x5 : Int} {σ : St} (h : wp_X9_build_B194 K18 x1 x2 x4 x5 Q σ) : G p l e rm_X9_build s m args below meth c 0 0 7 D cA shM ad (QV D cA shM ad zsM below args s Q) σ [(0, .ref (ad 0)), (1, vI x1), (2, vI x2), (4, vI x4), (5, vI x5)] [] 194 := by
  unfold wp_X9_build_B194 at h
  refine g_aload_n C 0 0 rfl rfl dX9_build_194 ?_
  refine g_iload_n C 1 1 rfl rfl dX9_build_195 ?_
  refine g_iload_n C 2 2 rfl rfl dX9_build_196 ?_
  refine g_iload C 4 5 rfl dX9_build_197 ?_
  refine g_iload C 3 4 rfl dX9_build_199 ?_
  refine g_callVv C (m_X9_show l D cA ad h) hv_X9_show tw_X9_307 (o := 0) (ci := 9) (As := [vI x1, vI x2, vI x5, vI x4]) (st := []) rfl rfl rfl rfl ⟨Nat.le_of_ble_eq_true rfl, Nat.le_of_ble_eq_true rfl⟩ rfl rfl (Nat.le_of_ble_eq_true rfl) dX9_build_201 (fun σ1 h => ?_)
  try dsimp only at h
  exact g_pick [0] rfl (m_X9_build_B204 C hlocks hr hK18 h)
set_option maxRecDepth 100000 in
set_option maxHeartbeats 4000000 in
theorem m_X9_build_B83 {p : Program} {l : Launch} {e : Env} {s : State} {m : MethodId} {args : Array Value} {below : List Frame} {meth : Method} {c : Code} {D : va_G} {cA : Nat → ClassId} {ad : Nat → Nat} (C : Cx p s m args c cX9_build RX9 7 D cA shM ad zsM) (hlocks : meth.locks = false) (hr : meth.sig.returnType = none) {Q : St → Prop} {K18 : St → Prop} (hK18 : ∀ (σ : St), K18 σ → G p l e rm_X9_build s m args below meth c 0 0 7 D cA shM ad (QV D cA shM ad zsM below args s Q) σ [(0, .ref (ad 0))] [] 18) {x1 x2 y0 : Int} {σ : St} (h : wp_X9_build_B83 K18 x1 x2 y0 Q σ) : G p l e rm_X9_build s m args below meth c 0 0 7 D cA shM ad (QV D cA shM ad zsM below args s Q) σ [(0, .ref (ad 0)), (1, vI x1), (2, vI x2)] [vI y0] 83 := by
  unfold wp_X9_build_B83 at h
  refine g_istore_n C 3 [(0, .ref (ad 0)), (1, vI x1), (2, vI x2)] rfl (by decide) rfl dX9_build_83 ?_
  refine g_aload_n C 1 0 rfl rfl dX9_build_84 ?_
  refine g_get C iX9 (ci := 9) (o := 0) (v := .ref (ad 27)) rfl rfl 46 (by decide) rfl tw_X9_98 dX9_build_85 ?_
  refine g_iconst C dX9_build_88 ?_
  refine g_aload_n C 1 0 rfl rfl dX9_build_89 ?_
  refine g_get C iX9 (ci := 9) (o := 0) (v := vI (σ 0 48)) rfl rfl 48 (by decide) rfl tw_X9_282 dX9_build_90 ?_
  refine g_imul C dX9_build_93 ?_
  refine g_iconst C dX9_build_94 ?_
  refine g_iadd C dX9_build_95 ?_
  obtain ⟨hi, h⟩ := h
  refine g_iald C (o := 27) (N := 1400) rfl rfl hi rfl dX9_build_96 ?_
  refine g_name (fun x_1 ex_1 => ?_)
  have h := h x_1 ex_1
  refine g_istore C 4 [(3, vI y0), (0, .ref (ad 0)), (1, vI x1), (2, vI x2)] (by decide) rfl dX9_build_97 ?_
  refine g_bipush C dX9_build_99 (by decide) ?_
  refine g_aload_n C 2 0 rfl rfl dX9_build_101 ?_
  refine g_get C iX9 (ci := 9) (o := 0) (v := .ref (ad 23)) rfl rfl 41 (by decide) rfl tw_X9_86 dX9_build_102 ?_
  refine g_bipush C dX9_build_105 (by decide) ?_
  refine g_iload_n C 3 1 rfl rfl dX9_build_107 ?_
  refine g_imul C dX9_build_108 ?_
  obtain ⟨hi, h⟩ := h
  refine g_iald C (o := 23) (N := 70) rfl rfl hi rfl dX9_build_109 ?_
  refine g_imul C dX9_build_110 ?_
  refine g_iload_n C 4 2 rfl rfl dX9_build_111 ?_
  refine g_iadd C dX9_build_112 ?_
  refine g_name (fun x_2 ex_2 => ?_)
  have h := h x_2 ex_2
  refine g_istore C 5 [(4, vI x_1), (3, vI y0), (0, .ref (ad 0)), (1, vI x1), (2, vI x2)] (by decide) rfl dX9_build_113 ?_
  refine g_aload_n C 3 0 rfl rfl dX9_build_115 ?_
  refine g_get C iX9 (ci := 9) (o := 0) (v := .ref (ad 26)) rfl rfl 45 (by decide) rfl tw_X9_95 dX9_build_116 ?_
  refine g_bipush C dX9_build_119 (by decide) ?_
  refine g_iload_n C 4 1 rfl rfl dX9_build_121 ?_
  refine g_imul C dX9_build_122 ?_
  refine g_iload_n C 5 2 rfl rfl dX9_build_123 ?_
  refine g_iadd C dX9_build_124 ?_
  obtain ⟨hi, h⟩ := h
  refine g_iald C (o := 26) (N := 120) rfl rfl hi rfl dX9_build_125 ?_
  refine g_name (fun x_3 ex_3 => ?_)
  have h := h x_3 ex_3
  refine g_istore C 6 [(5, vI x_2), (4, vI x_1), (3, vI y0), (0, .ref (ad 0)), (1, vI x1), (2, vI x2)] (by decide) rfl dX9_build_126 ?_
  refine g_aload_n C 4 0 rfl rfl dX9_build_128 ?_
  refine g_get C iX9 (ci := 9) (o := 0) (v := .ref (ad 6)) rfl rfl 11 (by decide) rfl tw_X9_26 dX9_build_129 ?_
  refine g_iload C 1 5 rfl dX9_build_132 ?_
  obtain ⟨hi, h⟩ := h
  refine g_iald C (o := 6) (N := 204) rfl rfl hi rfl dX9_build_134 ?_
  refine g_iconst C dX9_build_135 ?_
  refine g_icmp_ne C (y' := 2) rfl (by decide) 171 (by decide) dX9_build_136 (fun hc => ?_) (fun hc => ?_)
  · have h := h.1 hc
    refine g_iload C 0 6 rfl dX9_build_171 ?_
    refine g_iconst C dX9_build_173 ?_
    refine g_icmp_eq C (y' := (-1)) rfl (by decide) 194 (by decide) dX9_build_174 (fun hc => ?_) (fun hc => ?_)
    · have h := h.1 hc
      exact g_pick [4, 5, 6, 2, 1] rfl (m_X9_build_B194 C hlocks hr hK18 h)
    · have h := h.2 hc
      refine g_iload_n C 3 3 rfl rfl dX9_build_177 ?_
      refine g_if_ne C rfl 194 (by decide) dX9_build_178 (fun hc => ?_) (fun hc => ?_)
      · have h := h.1 hc
        exact g_pick [4, 5, 6, 2, 1] rfl (m_X9_build_B194 C hlocks hr hK18 h)
      · have h := h.2 hc
        refine g_aload_n C 4 0 rfl rfl dX9_build_181 ?_
        refine g_iload C 0 6 rfl dX9_build_182 ?_
        refine g_iconst C dX9_build_184 ?_
        refine g_iconst C dX9_build_185 ?_
        refine g_iload C 2 4 rfl dX9_build_186 ?_
        refine g_callVv C (m_X9_later l D cA ad h) hv_X9_later tw_X9_303 (o := 0) (ci := 9) (As := [vI x_3, vI 0, vI 0, vI x_1]) (st := []) rfl rfl rfl rfl ⟨Nat.le_of_ble_eq_true rfl, Nat.le_of_ble_eq_true rfl⟩ rfl rfl (Nat.le_of_ble_eq_true rfl) dX9_build_188 (fun σ4 h => ?_)
        try dsimp only at h
        refine g_goto C 204 (by decide) dX9_build_191 ?_
        exact g_pick [4] rfl (m_X9_build_B204 C hlocks hr hK18 h)
  · have h := h.2 hc
    refine g_aload_n C 4 0 rfl rfl dX9_build_139 ?_
    refine g_aload_n C 4 0 rfl rfl dX9_build_140 ?_
    refine g_get C iX9 (ci := 9) (o := 0) (v := .ref (ad 23)) rfl rfl 41 (by decide) rfl tw_X9_86 dX9_build_141 ?_
    refine g_bipush C dX9_build_144 (by decide) ?_
    refine g_iload_n C 5 1 rfl rfl dX9_build_146 ?_
    refine g_imul C dX9_build_147 ?_
    refine g_iconst C dX9_build_148 ?_
    refine g_iadd C dX9_build_149 ?_
    obtain ⟨hi, h⟩ := h
    refine g_iald C (o := 23) (N := 70) rfl rfl hi rfl dX9_build_150 ?_
    refine g_aload_n C 4 0 rfl rfl dX9_build_151 ?_
    refine g_get C iX9 (ci := 9) (o := 0) (v := .ref (ad 23)) rfl rfl 41 (by decide) rfl tw_X9_86 dX9_build_152 ?_
    refine g_bipush C dX9_build_155 (by decide) ?_
    refine g_iload_n C 5 1 rfl rfl dX9_build_157 ?_
    refine g_imul C dX9_build_158 ?_
    refine g_iconst C dX9_build_159 ?_
    refine g_iadd C dX9_build_160 ?_
    obtain ⟨hi, h⟩ := h
    refine g_iald C (o := 23) (N := 70) rfl rfl hi rfl dX9_build_161 ?_
    refine g_iconst C dX9_build_162 ?_
    refine g_iload C 2 4 rfl dX9_build_163 ?_
    refine g_callVv C (m_X9_later l D cA ad h) hv_X9_later tw_X9_303 (o := 0) (ci := 9) (As := [vI (σ 23 (w32 ((7 * x1) + 1)).toNat), vI (σ 23 (w32 ((7 * x1) + 2)).toNat), vI 1, vI x_1]) (st := []) rfl rfl rfl rfl ⟨Nat.le_of_ble_eq_true rfl, Nat.le_of_ble_eq_true rfl⟩ rfl rfl (Nat.le_of_ble_eq_true rfl) dX9_build_165 (fun σ5 h => ?_)
    try dsimp only at h
    refine g_goto C 204 (by decide) dX9_build_168 ?_
    exact g_pick [4] rfl (m_X9_build_B204 C hlocks hr hK18 h)
set_option maxRecDepth 100000 in
set_option maxHeartbeats 4000000 in
theorem m_X9_build_L18 {p : Program} {l : Launch} {e : Env} {s : State} {m : MethodId} {args : Array Value} {below : List Frame} {meth : Method} {c : Code} {D : va_G} {cA : Nat → ClassId} {ad : Nat → Nat} (C : Cx p s m args c cX9_build RX9 7 D cA shM ad zsM) (hlocks : meth.locks = false) (hr : meth.sig.returnType = none) {Q : St → Prop} : ∀ (n : Nat) (σ : St), wp_X9_build_L18 Q n σ → G p l e rm_X9_build s m args below meth c 0 0 7 D cA shM ad (QV D cA shM ad zsM below args s Q) σ [(0, .ref (ad 0))] [] 18 := by
  intro n
  induction n with
  | zero => intro _ h; exact h.elim
  | succ n ih =>
    intro σ h
    simp only [wp_X9_build_L18] at h
    refine g_aload_n C 0 0 rfl rfl dX9_build_18 ?_
    refine g_get C iX9 (ci := 9) (o := 0) (v := vI (σ 0 48)) rfl rfl 48 (by decide) rfl tw_X9_282 dX9_build_19 ?_
    refine g_if_le C rfl 207 (by decide) dX9_build_22 (fun hc => ?_) (fun hc => ?_)
    · have h := h.1 hc
      exact g_vret C hlocks hr h dX9_build_207
    · have h := h.2 hc
      refine g_aload_n C 0 0 rfl rfl dX9_build_25 ?_
      refine g_dup C rfl dX9_build_26 ?_
      refine g_get C iX9 (ci := 9) (o := 0) (v := vI (σ 0 48)) rfl rfl 48 (by decide) rfl tw_X9_282 dX9_build_27 ?_
      refine g_iconst C dX9_build_30 ?_
      refine g_isub C dX9_build_31 ?_
      refine g_put C iX9 (ci := 9) (o := 0) (z := ((σ 0 48) - 1)) (ty := .int) rfl tyX9_ok nmX9 rfl 48 (by decide) rfl rfl tw_X9_282 rfl (by decide +kernel) rfl rfl dX9_build_32 (fun σ1 eσ1 => ?_)
      have h := h σ1 eσ1
      refine g_aload_n C 0 0 rfl rfl dX9_build_35 ?_
      refine g_get C iX9 (ci := 9) (o := 0) (v := .ref (ad 27)) rfl rfl 46 (by decide) rfl tw_X9_98 dX9_build_36 ?_
      refine g_iconst C dX9_build_39 ?_
      refine g_aload_n C 0 0 rfl rfl dX9_build_40 ?_
      refine g_get C iX9 (ci := 9) (o := 0) (v := vI (σ1 0 48)) rfl rfl 48 (by decide) rfl tw_X9_282 dX9_build_41 ?_
      refine g_imul C dX9_build_44 ?_
      obtain ⟨hi, h⟩ := h
      refine g_iald C (o := 27) (N := 1400) rfl rfl hi rfl dX9_build_45 ?_
      refine g_name (fun x_2 ex_2 => ?_)
      have h := h x_2 ex_2
      refine g_istore_n C 1 [(0, .ref (ad 0))] rfl (by decide) rfl dX9_build_46 ?_
      refine g_aload_n C 1 0 rfl rfl dX9_build_47 ?_
      refine g_get C iX9 (ci := 9) (o := 0) (v := .ref (ad 27)) rfl rfl 46 (by decide) rfl tw_X9_98 dX9_build_48 ?_
      refine g_iconst C dX9_build_51 ?_
      refine g_aload_n C 1 0 rfl rfl dX9_build_52 ?_
      refine g_get C iX9 (ci := 9) (o := 0) (v := vI (σ1 0 48)) rfl rfl 48 (by decide) rfl tw_X9_282 dX9_build_53 ?_
      refine g_imul C dX9_build_56 ?_
      refine g_iconst C dX9_build_57 ?_
      refine g_iadd C dX9_build_58 ?_
      obtain ⟨hi, h⟩ := h
      refine g_iald C (o := 27) (N := 1400) rfl rfl hi rfl dX9_build_59 ?_
      refine g_name (fun x_3 ex_3 => ?_)
      have h := h x_3 ex_3
      refine g_istore_n C 2 [(1, vI x_2), (0, .ref (ad 0))] rfl (by decide) rfl dX9_build_60 ?_
      refine g_aload_n C 2 0 rfl rfl dX9_build_61 ?_
      refine g_get C iX9 (ci := 9) (o := 0) (v := .ref (ad 27)) rfl rfl 46 (by decide) rfl tw_X9_98 dX9_build_62 ?_
      refine g_iconst C dX9_build_65 ?_
      refine g_aload_n C 2 0 rfl rfl dX9_build_66 ?_
      refine g_get C iX9 (ci := 9) (o := 0) (v := vI (σ1 0 48)) rfl rfl 48 (by decide) rfl tw_X9_282 dX9_build_67 ?_
      refine g_imul C dX9_build_70 ?_
      refine g_iconst C dX9_build_71 ?_
      refine g_iadd C dX9_build_72 ?_
      obtain ⟨hi, h⟩ := h
      refine g_iald C (o := 27) (N := 1400) rfl rfl hi rfl dX9_build_73 ?_
      refine g_iconst C dX9_build_74 ?_
      refine g_icmp_ne C (y' := 1) rfl (by decide) 82 (by decide) dX9_build_75 (fun hc => ?_) (fun hc => ?_)
      · have h := h.1 hc
        refine g_iconst C dX9_build_82 ?_
        exact g_pick [2, 1, 0] rfl (m_X9_build_B83 C hlocks hr (fun  _ h => ih  _ h) h)
      · have h := h.2 hc
        refine g_iconst C dX9_build_78 ?_
        refine g_goto C 83 (by decide) dX9_build_79 ?_
        exact g_pick [2, 1, 0] rfl (m_X9_build_B83 C hlocks hr (fun  _ h => ih  _ h) h)
set_option maxRecDepth 100000 in
set_option maxHeartbeats 4000000 in
theorem m_X9_build_E {p : Program} {l : Launch} {e : Env} {s : State} {m : MethodId} {args : Array Value} {below : List Frame} {meth : Method} {c : Code} {D : va_G} {cA : Nat → ClassId} {ad : Nat → Nat} (C : Cx p s m args c cX9_build RX9 7 D cA shM ad zsM) (hlocks : meth.locks = false) (hr : meth.sig.returnType = none) {Q : St → Prop} {σ : St} (h : wp_X9_build Q σ) : G p l e rm_X9_build s m args below meth c 0 0 7 D cA shM ad (QV D cA shM ad zsM below args s Q) σ [(0, .ref (ad 0))] [] 0 := by
  unfold wp_X9_build at h
  refine g_aload_n C 0 0 rfl rfl dX9_build_0 ?_
  refine g_iconst C dX9_build_1 ?_
  refine g_put C iX9 (ci := 9) (o := 0) (z := 0) (ty := .int) rfl tyX9_ok nmX9 rfl 50 (by decide) rfl rfl tw_X9_217 rfl (by decide +kernel) rfl rfl dX9_build_2 (fun σ1 eσ1 => ?_)
  have h := h σ1 eσ1
  refine g_aload_n C 0 0 rfl rfl dX9_build_5 ?_
  refine g_iconst C dX9_build_6 ?_
  refine g_put C iX9 (ci := 9) (o := 0) (z := 0) (ty := .int) rfl tyX9_ok nmX9 rfl 48 (by decide) rfl rfl tw_X9_282 rfl (by decide +kernel) rfl rfl dX9_build_7 (fun σ2 eσ2 => ?_)
  have h := h σ2 eσ2
  refine g_aload_n C 0 0 rfl rfl dX9_build_10 ?_
  refine g_iconst C dX9_build_11 ?_
  refine g_iconst C dX9_build_12 ?_
  refine g_iconst C dX9_build_13 ?_
  refine g_iconst C dX9_build_14 ?_
  refine g_callVv C (m_X9_later l D cA ad h) hv_X9_later tw_X9_303 (o := 0) (ci := 9) (As := [vI 0, vI 0, vI 0, vI (-1)]) (st := []) rfl rfl rfl rfl ⟨Nat.le_of_ble_eq_true rfl, Nat.le_of_ble_eq_true rfl⟩ rfl rfl (Nat.le_of_ble_eq_true rfl) dX9_build_15 (fun σ3 h => ?_)
  try dsimp only at h
  obtain ⟨nn, h⟩ := h
  exact g_pick [0] rfl (m_X9_build_L18 C hlocks hr nn _ h)
set_option maxRecDepth 100000 in
set_option maxHeartbeats 4000000 in
theorem m_X9_build (l : Launch) (D : va_G) (cA : Nat → ClassId) (ad : Nat → Nat) {Q : St → Prop} {σ : St} (h : wp_X9_build Q σ) : CtV l yX9_build (.code yX9_build cX9_build 7 none) rm_X9_build D cA shM ad zsM [.ref (ad 0)] σ Q :=
  ct_V RX9 (by decide +kernel) rfl (Nat.le_of_ble_eq_true rfl) (fun p e s m args below meth c C hlocks hr => m_X9_build_E C hlocks hr h)
abbrev rm_X9_lay : Room := { frames := 4, cells := 0, slots := 0, locals := 76 }
set_option maxRecDepth 100000 in
set_option maxHeartbeats 4000000 in
theorem m_X9_lay_L275 {p : Program} {l : Launch} {e : Env} {s : State} {m : MethodId} {args : Array Value} {below : List Frame} {meth : Method} {c : Code} {D : va_G} {cA : Nat → ClassId} {ad : Nat → Nat} (C : Cx p s m args c cX9_lay RX9 21 D cA shM ad zsM) (hlocks : meth.locks = false) (hr : meth.sig.returnType = none) {Q : St → Prop} {K219 : Int → Int → Int → Int → Int → Int → Int → Int → Int → St → Prop} (hK219 : ∀ (x1 : Int) (x2 : Int) (x3 : Int) (x4 : Int) (x5 : Int) (x6 : Int) (x9 : Int) (x10 : Int) (x14 : Int) (σ : St), K219 x1 x2 x3 x4 x5 x6 x9 x10 x14 σ → G p l e rm_X9_lay s m args below meth c 0 0 21 D cA shM ad (QV D cA shM ad zsM below args s Q) σ [(0, .ref (ad 0)), (1, vI x1), (2, vI x2), (3, vI x3), (4, vI x4), (5, vI x5), (6, vI x6), (9, vI x9), (10, vL x10), (14, vI x14)] [] 219) {K231 : Int → Int → Int → Int → Int → Int → Int → Int → Int → Int → St → Prop} (hK231 : ∀ (x1 : Int) (x2 : Int) (x3 : Int) (x4 : Int) (x5 : Int) (x6 : Int) (x9 : Int) (x10 : Int) (x14 : Int) (x15 : Int) (σ : St), K231 x1 x2 x3 x4 x5 x6 x9 x10 x14 x15 σ → G p l e rm_X9_lay s m args below meth c 0 0 21 D cA shM ad (QV D cA shM ad zsM below args s Q) σ [(0, .ref (ad 0)), (1, vI x1), (2, vI x2), (3, vI x3), (4, vI x4), (5, vI x5), (6, vI x6), (9, vI x9), (10, vL x10), (14, vI x14), (15, vI x15)] [] 231) : ∀ (n : Nat) (x1 : Int) (x2 : Int) (x3 : Int) (x4 : Int) (x5 : Int) (x6 : Int) (x9 : Int) (x10 : Int) (x14 : Int) (x15 : Int) (x16 : Int) (σ : St), wp_X9_lay_L275 K219 K231 Q n x1 x2 x3 x4 x5 x6 x9 x10 x14 x15 x16 σ → G p l e rm_X9_lay s m args below meth c 0 0 21 D cA shM ad (QV D cA shM ad zsM below args s Q) σ [(0, .ref (ad 0)), (1, vI x1), (2, vI x2), (3, vI x3), (4, vI x4), (5, vI x5), (6, vI x6), (9, vI x9), (10, vL x10), (14, vI x14), (15, vI x15), (16, vI x16)] [] 275 := by
  intro n
  induction n with
  | zero => intro _ _ _ _ _ _ _ _ _ _ _ _ h; exact h.elim
  | succ n ih =>
    intro x1 x2 x3 x4 x5 x6 x9 x10 x14 x15 x16 σ h
    simp only [wp_X9_lay_L275] at h
    refine g_iload C 11 16 rfl dX9_lay_275 ?_
    refine g_iload C 6 6 rfl dX9_lay_277 ?_
    refine g_icmp_gt C rfl rfl 410 (by decide) dX9_lay_279 (fun hc => ?_) (fun hc => ?_)
    · have h := h.1 hc
      refine g_iinc C 10 15 [(0, .ref (ad 0)), (1, vI x1), (2, vI x2), (3, vI x3), (4, vI x4), (5, vI x5), (6, vI x6), (9, vI x9), (10, vL x10), (14, vI x14), (16, vI x16)] rfl (by decide) rfl dX9_lay_410 (fun x_1 ex_1 => ?_)
      have h := h x_1 ex_1
      refine g_goto C 231 (by decide) dX9_lay_413 ?_
      exact g_pick [1, 2, 3, 4, 5, 6, 7, 8, 9, 10, 0] rfl (hK231 _ _ _ _ _ _ _ _ _ _ _ h)
    · have h := h.2 hc
      refine g_aload_n C 0 0 rfl rfl dX9_lay_282 ?_
      refine g_iload_n C 2 2 rfl rfl dX9_lay_283 ?_
      refine g_iload C 9 14 rfl dX9_lay_284 ?_
      refine g_iload_n C 3 3 rfl rfl dX9_lay_286 ?_
      refine g_iload C 10 15 rfl dX9_lay_287 ?_
      refine g_iload C 11 16 rfl dX9_lay_289 ?_
      refine g_iload C 6 6 rfl dX9_lay_291 ?_
      refine g_iload C 4 4 rfl dX9_lay_293 ?_
      refine g_iload C 5 5 rfl dX9_lay_295 ?_
      refine g_callLv C (m_X9_set l D cA ad h) hv_X9_set tw_X9_251 (o := 0) (ci := 9) (As := [vI x2, vI x14, vI x3, vI x15, vI x16, vI x6, vI x4, vI x5]) (st := []) rfl rfl rfl rfl ⟨Nat.le_of_ble_eq_true rfl, Nat.le_of_ble_eq_true rfl⟩ rfl rfl (Nat.le_of_ble_eq_true rfl) dX9_lay_297 (fun r3 σ2 h => ?_)
      try dsimp only at h
      refine g_lstore C 17 [(0, .ref (ad 0)), (1, vI x1), (2, vI x2), (3, vI x3), (4, vI x4), (5, vI x5), (6, vI x6), (9, vI x9), (10, vL x10), (14, vI x14), (15, vI x15), (16, vI x16)] (by decide) rfl dX9_lay_300 ?_
      refine g_lload C 9 10 rfl dX9_lay_302 ?_
      refine g_lload C 0 17 rfl dX9_lay_304 ?_
      refine g_lcmp C dX9_lay_306 ?_
      refine g_if_ge C rfl 397 (by decide) dX9_lay_307 (fun hc => ?_) (fun hc => ?_)
      · have h := h.1 hc
        refine g_lload C 9 10 rfl dX9_lay_397 ?_
        refine g_lload C 0 17 rfl dX9_lay_399 ?_
        refine g_lsub C dX9_lay_401 ?_
        refine g_nameL (fun x_4 ex_4 => ?_)
        have h := h x_4 ex_4
        refine g_lstore C 10 [(17, vL r3), (0, .ref (ad 0)), (1, vI x1), (2, vI x2), (3, vI x3), (4, vI x4), (5, vI x5), (6, vI x6), (9, vI x9), (14, vI x14), (15, vI x15), (16, vI x16)] (by decide) rfl dX9_lay_402 ?_
        refine g_iinc C 12 16 [(10, vL x_4), (17, vL r3), (0, .ref (ad 0)), (1, vI x1), (2, vI x2), (3, vI x3), (4, vI x4), (5, vI x5), (6, vI x6), (9, vI x9), (14, vI x14), (15, vI x15)] rfl (by decide) rfl dX9_lay_404 (fun x_5 ex_5 => ?_)
        have h := h x_5 ex_5
        refine g_goto C 275 (by decide) dX9_lay_407 ?_
        exact g_pick [3, 4, 5, 6, 7, 8, 9, 10, 1, 11, 12, 0] rfl (ih _ _ _ _ _ _ _ _ _ _ _ _ h)
      · have h := h.2 hc
        refine g_aload_n C 1 0 rfl rfl dX9_lay_310 ?_
        refine g_aload_n C 1 0 rfl rfl dX9_lay_311 ?_
        refine g_get C iX9 (ci := 9) (o := 0) (v := .ref (ad 12)) rfl rfl 17 (by decide) rfl tw_X9_44 dX9_lay_312 ?_
        refine g_iload_n C 3 2 rfl rfl dX9_lay_315 ?_
        obtain ⟨hi, h⟩ := h
        refine g_iald C (o := 12) (N := 204) rfl rfl hi rfl dX9_lay_316 ?_
        refine g_iload C 11 15 rfl dX9_lay_317 ?_
        refine g_iload C 5 4 rfl dX9_lay_319 ?_
        refine g_iload C 6 5 rfl dX9_lay_321 ?_
        refine g_iload C 12 16 rfl dX9_lay_323 ?_
        refine g_callLv C (m_X9_run l D cA ad h) hv_X9_run tw_X9_233 (o := 0) (ci := 9) (As := [vI (σ2 12 (w32 x2).toNat), vI x15, vI x4, vI x5, vI x16]) (st := []) rfl rfl rfl rfl ⟨Nat.le_of_ble_eq_true rfl, Nat.le_of_ble_eq_true rfl⟩ rfl rfl (Nat.le_of_ble_eq_true rfl) dX9_lay_325 (fun r7 σ6 h => ?_)
        try dsimp only at h
        refine g_lstore C 19 [(17, vL r3), (0, .ref (ad 0)), (1, vI x1), (2, vI x2), (3, vI x3), (4, vI x4), (5, vI x5), (6, vI x6), (9, vI x9), (10, vL x10), (14, vI x14), (15, vI x15), (16, vI x16)] (by decide) rfl dX9_lay_328 ?_
        refine g_aload_n C 2 0 rfl rfl dX9_lay_330 ?_
        refine g_get C iX9 (ci := 9) (o := 0) (v := .ref (ad 24)) rfl rfl 43 (by decide) rfl tw_X9_89 dX9_lay_331 ?_
        refine g_iload C 9 9 rfl dX9_lay_334 ?_
        refine g_iload C 12 15 rfl dX9_lay_336 ?_
        obtain ⟨hi, h⟩ := h
        refine g_iast C (o := 24) (N := 120) rfl rfl hi rfl dX9_lay_338 (fun σ8 eσ8 => ?_)
        have h := h σ8 eσ8
        refine g_aload_n C 2 0 rfl rfl dX9_lay_339 ?_
        refine g_get C iX9 (ci := 9) (o := 0) (v := .ref (ad 25)) rfl rfl 44 (by decide) rfl tw_X9_92 dX9_lay_340 ?_
        refine g_iload C 9 9 rfl dX9_lay_343 ?_
        refine g_iload C 13 16 rfl dX9_lay_345 ?_
        obtain ⟨hi, h⟩ := h
        refine g_iast C (o := 25) (N := 120) rfl rfl hi rfl dX9_lay_347 (fun σ9 eσ9 => ?_)
        have h := h σ9 eσ9
        refine g_aload_n C 2 0 rfl rfl dX9_lay_348 ?_
        refine g_iload_n C 3 1 rfl rfl dX9_lay_349 ?_
        refine g_aload_n C 2 0 rfl rfl dX9_lay_350 ?_
        refine g_get C iX9 (ci := 9) (o := 0) (v := .ref (ad 12)) rfl rfl 17 (by decide) rfl tw_X9_44 dX9_lay_351 ?_
        refine g_iload_n C 4 2 rfl rfl dX9_lay_354 ?_
        obtain ⟨hi, h⟩ := h
        refine g_iald C (o := 12) (N := 204) rfl rfl hi rfl dX9_lay_355 ?_
        refine g_iconst C dX9_lay_356 ?_
        refine g_iload C 12 15 rfl dX9_lay_357 ?_
        refine g_iload C 6 4 rfl dX9_lay_359 ?_
        refine g_iload C 7 5 rfl dX9_lay_361 ?_
        refine g_iload C 13 16 rfl dX9_lay_363 ?_
        refine g_lload C 10 10 rfl dX9_lay_365 ?_
        refine g_lload C 0 19 rfl dX9_lay_367 ?_
        obtain ⟨hi, h⟩ := h
        refine g_lrem C hi dX9_lay_369 ?_
        refine g_callVv C (m_X9_job l D cA ad h) hv_X9_job tw_X9_285 (o := 0) (ci := 9) (As := [vI x1, vI (σ9 12 (w32 x2).toNat), vI 1, vI x15, vI x4, vI x5, vI x16, vL (lRem x10 r7)]) (st := []) rfl rfl rfl rfl ⟨Nat.le_of_ble_eq_true rfl, Nat.le_of_ble_eq_true rfl⟩ rfl rfl (Nat.le_of_ble_eq_true rfl) dX9_lay_370 (fun σ10 h => ?_)
        try dsimp only at h
        refine g_aload_n C 2 0 rfl rfl dX9_lay_373 ?_
        refine g_iload C 11 14 rfl dX9_lay_374 ?_
        refine g_iload_n C 3 1 rfl rfl dX9_lay_376 ?_
        refine g_iload_n C 4 2 rfl rfl dX9_lay_377 ?_
        refine g_bipush C dX9_lay_378 (by decide) ?_
        refine g_irem C (by decide) dX9_lay_380 ?_
        refine g_iload_n C 5 3 rfl rfl dX9_lay_381 ?_
        refine g_iload C 12 15 rfl dX9_lay_382 ?_
        refine g_iload C 13 16 rfl dX9_lay_384 ?_
        refine g_iload C 8 6 rfl dX9_lay_386 ?_
        refine g_lload C 10 10 rfl dX9_lay_388 ?_
        refine g_lload C 0 19 rfl dX9_lay_390 ?_
        obtain ⟨hi, h⟩ := h
        refine g_ldiv C hi dX9_lay_392 ?_
        refine g_callVv C (m_X9_takeTree l D cA ad h) hv_X9_takeTree tw_X9_289 (o := 0) (ci := 9) (As := [vI x14, vI x1, vI (iRem x2 12), vI x3, vI x15, vI x16, vI x6, vL (lDiv x10 r7)]) (st := []) rfl rfl rfl rfl ⟨Nat.le_of_ble_eq_true rfl, Nat.le_of_ble_eq_true rfl⟩ rfl rfl (Nat.le_of_ble_eq_true rfl) dX9_lay_393 (fun σ11 h => ?_)
        try dsimp only at h
        exact g_vret C hlocks hr h dX9_lay_396
set_option maxRecDepth 100000 in
set_option maxHeartbeats 4000000 in
theorem m_X9_lay_B273 {p : Program} {l : Launch} {e : Env} {s : State} {m : MethodId} {args : Array Value} {below : List Frame} {meth : Method} {c : Code} {D : va_G} {cA : Nat → ClassId} {ad : Nat → Nat} (C : Cx p s m args c cX9_lay RX9 21 D cA shM ad zsM) (hlocks : meth.locks = false) (hr : meth.sig.returnType = none) {Q : St → Prop} {K219 : Int → Int → Int → Int → Int → Int → Int → Int → Int → St → Prop} (hK219 : ∀ (x1 : Int) (x2 : Int) (x3 : Int) (x4 : Int) (x5 : Int) (x6 : Int) (x9 : Int) (x10 : Int) (x14 : Int) (σ : St), K219 x1 x2 x3 x4 x5 x6 x9 x10 x14 σ → G p l e rm_X9_lay s m args below meth c 0 0 21 D cA shM ad (QV D cA shM ad zsM below args s Q) σ [(0, .ref (ad 0)), (1, vI x1), (2, vI x2), (3, vI x3), (4, vI x4), (5, vI x5), (6, vI x6), (9, vI x9), (10, vL x10), (14, vI x14)] [] 219) {K231 : Int → Int → Int → Int → Int → Int → Int → Int → Int → Int → St → Prop} (hK231 : ∀ (x1 : Int) (x2 : Int) (x3 : Int) (x4 : Int) (x5 : Int) (x6 : Int) (x9 : Int) (x10 : Int) (x14 : Int) (x15 : Int) (σ : St), K231 x1 x2 x3 x4 x5 x6 x9 x10 x14 x15 σ → G p l e rm_X9_lay s m args below meth c 0 0 21 D cA shM ad (QV D cA shM ad zsM below args s Q) σ [(0, .ref (ad 0)), (1, vI x1), (2, vI x2), (3, vI x3), (4, vI x4), (5, vI x5), (6, vI x6), (9, vI x9), (10, vL x10), (14, vI x14), (15, vI x15)] [] 231) {x1 x2 x3 x4 x5 x6 x9 x10 x14 x15 y0 : Int} {σ : St} (h : wp_X9_lay_B273 K219 K231 x1 x2 x3 x4 x5 x6 x9 x10 x14 x15 y0 Q σ) : G p l e rm_X9_lay s m args below meth c 0 0 21 D cA shM ad (QV D cA shM ad zsM below args s Q) σ [(0, .ref (ad 0)), (1, vI x1), (2, vI x2), (3, vI x3), (4, vI x4), (5, vI x5), (6, vI x6), (9, vI x9), (10, vL x10), (14, vI x14), (15, vI x15)] [vI y0] 273 := by
  unfold wp_X9_lay_B273 at h
  refine g_istore C 16 [(0, .ref (ad 0)), (1, vI x1), (2, vI x2), (3, vI x3), (4, vI x4), (5, vI x5), (6, vI x6), (9, vI x9), (10, vL x10), (14, vI x14), (15, vI x15)] (by decide) rfl dX9_lay_273 ?_
  obtain ⟨nn, h⟩ := h
  exact g_pick [1, 2, 3, 4, 5, 6, 7, 8, 9, 10, 11, 0] rfl (m_X9_lay_L275 C hlocks hr hK219 hK231 nn _ _ _ _ _ _ _ _ _ _ _ _ h)
set_option maxRecDepth 100000 in
set_option maxHeartbeats 4000000 in
theorem m_X9_lay_B416 {p : Program} {l : Launch} {e : Env} {s : State} {m : MethodId} {args : Array Value} {below : List Frame} {meth : Method} {c : Code} {D : va_G} {cA : Nat → ClassId} {ad : Nat → Nat} (C : Cx p s m args c cX9_lay RX9 21 D cA shM ad zsM) (hlocks : meth.locks = false) (hr : meth.sig.returnType = none) {Q : St → Prop} {K219 : Int → Int → Int → Int → Int → Int → Int → Int → Int → St → Prop} (hK219 : ∀ (x1 : Int) (x2 : Int) (x3 : Int) (x4 : Int) (x5 : Int) (x6 : Int) (x9 : Int) (x10 : Int) (x14 : Int) (σ : St), K219 x1 x2 x3 x4 x5 x6 x9 x10 x14 σ → G p l e rm_X9_lay s m args below meth c 0 0 21 D cA shM ad (QV D cA shM ad zsM below args s Q) σ [(0, .ref (ad 0)), (1, vI x1), (2, vI x2), (3, vI x3), (4, vI x4), (5, vI x5), (6, vI x6), (9, vI x9), (10, vL x10), (14, vI x14)] [] 219) {x1 x2 x3 x4 x5 x6 x9 x10 x14 : Int} {σ : St} (h : wp_X9_lay_B416 K219 x1 x2 x3 x4 x5 x6 x9 x10 x14 Q σ) : G p l e rm_X9_lay s m args below meth c 0 0 21 D cA shM ad (QV D cA shM ad zsM below args s Q) σ [(0, .ref (ad 0)), (1, vI x1), (2, vI x2), (3, vI x3), (4, vI x4), (5, vI x5), (6, vI x6), (9, vI x9), (10, vL x10), (14, vI x14)] [] 416 := by
  unfold wp_X9_lay_B416 at h
  refine g_iinc C 9 14 [(0, .ref (ad 0)), (1, vI x1), (2, vI x2), (3, vI x3), (4, vI x4), (5, vI x5), (6, vI x6), (9, vI x9), (10, vL x10)] rfl (by decide) rfl dX9_lay_416 (fun x_1 ex_1 => ?_)
  have h := h x_1 ex_1
  refine g_goto C 219 (by decide) dX9_lay_419 ?_
  exact g_pick [1, 2, 3, 4, 5, 6, 7, 8, 9, 0] rfl (hK219 _ _ _ _ _ _ _ _ _ _ h)
set_option maxRecDepth 100000 in
set_option maxHeartbeats 4000000 in
theorem m_X9_lay_B246 {p : Program} {l : Launch} {e : Env} {s : State} {m : MethodId} {args : Array Value} {below : List Frame} {meth : Method} {c : Code} {D : va_G} {cA : Nat → ClassId} {ad : Nat → Nat} (C : Cx p s m args c cX9_lay RX9 21 D cA shM ad zsM) (hlocks : meth.locks = false) (hr : meth.sig.returnType = none) {Q : St → Prop} {K219 : Int → Int → Int → Int → Int → Int → Int → Int → Int → St → Prop} (hK219 : ∀ (x1 : Int) (x2 : Int) (x3 : Int) (x4 : Int) (x5 : Int) (x6 : Int) (x9 : Int) (x10 : Int) (x14 : Int) (σ : St), K219 x1 x2 x3 x4 x5 x6 x9 x10 x14 σ → G p l e rm_X9_lay s m args below meth c 0 0 21 D cA shM ad (QV D cA shM ad zsM below args s Q) σ [(0, .ref (ad 0)), (1, vI x1), (2, vI x2), (3, vI x3), (4, vI x4), (5, vI x5), (6, vI x6), (9, vI x9), (10, vL x10), (14, vI x14)] [] 219) {K231 : Int → Int → Int → Int → Int → Int → Int → Int → Int → Int → St → Prop} (hK231 : ∀ (x1 : Int) (x2 : Int) (x3 : Int) (x4 : Int) (x5 : Int) (x6 : Int) (x9 : Int) (x10 : Int) (x14 : Int) (x15 : Int) (σ : St), K231 x1 x2 x3 x4 x5 x6 x9 x10 x14 x15 σ → G p l e rm_X9_lay s m args below meth c 0 0 21 D cA shM ad (QV D cA shM ad zsM below args s Q) σ [(0, .ref (ad 0)), (1, vI x1), (2, vI x2), (3, vI x3), (4, vI x4), (5, vI x5), (6, vI x6), (9, vI x9), (10, vL x10), (14, vI x14), (15, vI x15)] [] 231) {x1 x2 x3 x4 x5 x6 x9 x10 x14 x15 y0 y1 : Int} {σ : St} (h : wp_X9_lay_B246 K219 K231 x1 x2 x3 x4 x5 x6 x9 x10 x14 x15 y0 y1 Q σ) : G p l e rm_X9_lay s m args below meth c 0 0 21 D cA shM ad (QV D cA shM ad zsM below args s Q) σ [(0, .ref (ad 0)), (1, vI x1), (2, vI x2), (3, vI x3), (4, vI x4), (5, vI x5), (6, vI x6), (9, vI x9), (10, vL x10), (14, vI x14), (15, vI x15)] [vI y1, vI y0] 246 := by
  unfold wp_X9_lay_B246 at h
  refine g_icmp_gt C rfl rfl 416 (by decide) dX9_lay_246 (fun hc => ?_) (fun hc => ?_)
  · have h := h.1 hc
    exact g_pick [0, 1, 2, 3, 4, 5, 6, 7, 8, 9] rfl (m_X9_lay_B416 C hlocks hr hK219 h)
  · have h := h.2 hc
    refine g_aload_n C 0 0 rfl rfl dX9_lay_249 ?_
    refine g_iload C 9 14 rfl dX9_lay_250 ?_
    refine g_iload_n C 2 2 rfl rfl dX9_lay_252 ?_
    refine g_iconst C dX9_lay_253 ?_
    refine g_callIv C (m_X9_isFor l D cA ad h) hv_X9_isFor tw_X9_247 (o := 0) (ci := 9) (As := [vI x14, vI x2, vI 1]) (st := []) rfl rfl rfl rfl ⟨Nat.le_of_ble_eq_true rfl, Nat.le_of_ble_eq_true rfl⟩ rfl rfl (Nat.le_of_ble_eq_true rfl) dX9_lay_254 (fun r2 σ1 h => ?_)
    try dsimp only at h
    refine g_if_eq C rfl 416 (by decide) dX9_lay_257 (fun hc => ?_) (fun hc => ?_)
    · have h := h.1 hc
      exact g_pick [0, 1, 2, 3, 4, 5, 6, 7, 8, 9] rfl (m_X9_lay_B416 C hlocks hr hK219 h)
    · have h := h.2 hc
      refine g_iload C 4 4 rfl dX9_lay_260 ?_
      refine g_iconst C dX9_lay_262 ?_
      refine g_icmp_ne C (y' := (-1)) rfl (by decide) 271 (by decide) dX9_lay_263 (fun hc => ?_) (fun hc => ?_)
      · have h := h.1 hc
        refine g_iload C 5 5 rfl dX9_lay_271 ?_
        exact g_pick [0, 1, 2, 3, 4, 5, 6, 7, 8, 9, 10] rfl (m_X9_lay_B273 C hlocks hr hK219 hK231 h)
      · have h := h.2 hc
        refine g_iload C 10 15 rfl dX9_lay_266 ?_
        refine g_goto C 273 (by decide) dX9_lay_268 ?_
        exact g_pick [0, 1, 2, 3, 4, 5, 6, 7, 8, 9, 10] rfl (m_X9_lay_B273 C hlocks hr hK219 hK231 h)
set_option maxRecDepth 100000 in
set_option maxHeartbeats 4000000 in
theorem m_X9_lay_L231 {p : Program} {l : Launch} {e : Env} {s : State} {m : MethodId} {args : Array Value} {below : List Frame} {meth : Method} {c : Code} {D : va_G} {cA : Nat → ClassId} {ad : Nat → Nat} (C : Cx p s m args c cX9_lay RX9 21 D cA shM ad zsM) (hlocks : meth.locks = false) (hr : meth.sig.returnType = none) {Q : St → Prop} {K219 : Int → Int → Int → Int → Int → Int → Int → Int → Int → St → Prop} (hK219 : ∀ (x1 : Int) (x2 : Int) (x3 : Int) (x4 : Int) (x5 : Int) (x6 : Int) (x9 : Int) (x10 : Int) (x14 : Int) (σ : St), K219 x1 x2 x3 x4 x5 x6 x9 x10 x14 σ → G p l e rm_X9_lay s m args below meth c 0 0 21 D cA shM ad (QV D cA shM ad zsM below args s Q) σ [(0, .ref (ad 0)), (1, vI x1), (2, vI x2), (3, vI x3), (4, vI x4), (5, vI x5), (6, vI x6), (9, vI x9), (10, vL x10), (14, vI x14)] [] 219) : ∀ (n : Nat) (x1 : Int) (x2 : Int) (x3 : Int) (x4 : Int) (x5 : Int) (x6 : Int) (x9 : Int) (x10 : Int) (x14 : Int) (x15 : Int) (σ : St), wp_X9_lay_L231 K219 Q n x1 x2 x3 x4 x5 x6 x9 x10 x14 x15 σ → G p l e rm_X9_lay s m args below meth c 0 0 21 D cA shM ad (QV D cA shM ad zsM below args s Q) σ [(0, .ref (ad 0)), (1, vI x1), (2, vI x2), (3, vI x3), (4, vI x4), (5, vI x5), (6, vI x6), (9, vI x9), (10, vL x10), (14, vI x14), (15, vI x15)] [] 231 := by
  intro n
  induction n with
  | zero => intro _ _ _ _ _ _ _ _ _ _ _ h; exact h.elim
  | succ n ih =>
    intro x1 x2 x3 x4 x5 x6 x9 x10 x14 x15 σ h
    simp only [wp_X9_lay_L231] at h
    refine g_iload C 10 15 rfl dX9_lay_231 ?_
    refine g_iload C 4 4 rfl dX9_lay_233 ?_
    refine g_iconst C dX9_lay_235 ?_
    refine g_icmp_ne C (y' := (-1)) rfl (by decide) 244 (by decide) dX9_lay_236 (fun hc => ?_) (fun hc => ?_)
    · have h := h.1 hc
      refine g_iload C 4 4 rfl dX9_lay_244 ?_
      exact g_pick [0, 1, 2, 3, 4, 5, 6, 7, 8, 9, 10] rfl (m_X9_lay_B246 C hlocks hr hK219 (fun _ _ _ _ _ _ _ _ _ _ _ h => ih _ _ _ _ _ _ _ _ _ _ _ h) h)
    · have h := h.2 hc
      refine g_iload C 6 6 rfl dX9_lay_239 ?_
      refine g_goto C 246 (by decide) dX9_lay_241 ?_
      exact g_pick [0, 1, 2, 3, 4, 5, 6, 7, 8, 9, 10] rfl (m_X9_lay_B246 C hlocks hr hK219 (fun _ _ _ _ _ _ _ _ _ _ _ h => ih _ _ _ _ _ _ _ _ _ _ _ h) h)
set_option maxRecDepth 100000 in
set_option maxHeartbeats 4000000 in
theorem m_X9_lay_L219 {p : Program} {l : Launch} {e : Env} {s : State} {m : MethodId} {args : Array Value} {below : List Frame} {meth : Method} {c : Code} {D : va_G} {cA : Nat → ClassId} {ad : Nat → Nat} (C : Cx p s m args c cX9_lay RX9 21 D cA shM ad zsM) (hlocks : meth.locks = false) (hr : meth.sig.returnType = none) {Q : St → Prop} : ∀ (n : Nat) (x1 : Int) (x2 : Int) (x3 : Int) (x4 : Int) (x5 : Int) (x6 : Int) (x9 : Int) (x10 : Int) (x14 : Int) (σ : St), wp_X9_lay_L219 Q n x1 x2 x3 x4 x5 x6 x9 x10 x14 σ → G p l e rm_X9_lay s m args below meth c 0 0 21 D cA shM ad (QV D cA shM ad zsM below args s Q) σ [(0, .ref (ad 0)), (1, vI x1), (2, vI x2), (3, vI x3), (4, vI x4), (5, vI x5), (6, vI x6), (9, vI x9), (10, vL x10), (14, vI x14)] [] 219 := by
  intro n
  induction n with
  | zero => intro _ _ _ _ _ _ _ _ _ _ h; exact h.elim
  | succ n ih =>
    intro x1 x2 x3 x4 x5 x6 x9 x10 x14 σ h
    simp only [wp_X9_lay_L219] at h
    refine g_iload C 9 14 rfl dX9_lay_219 ?_
    refine g_aload_n C 0 0 rfl rfl dX9_lay_221 ?_
    refine g_get C iX9 (ci := 9) (o := 0) (v := vI (σ 0 23)) rfl rfl 23 (by decide) rfl tw_X9_154 dX9_lay_222 ?_
    refine g_icmp_ge C rfl rfl 422 (by decide) dX9_lay_225 (fun hc => ?_) (fun hc => ?_)
    · have h := h.1 hc
      exact g_vret C hlocks hr h dX9_lay_422
    · have h := h.2 hc
      refine g_iload_n C 3 3 rfl rfl dX9_lay_228 ?_
      refine g_istore C 15 [(0, .ref (ad 0)), (1, vI x1), (2, vI x2), (3, vI x3), (4, vI x4), (5, vI x5), (6, vI x6), (9, vI x9), (10, vL x10), (14, vI x14)] (by decide) rfl dX9_lay_229 ?_
      obtain ⟨nn, h⟩ := h
      exact g_pick [1, 2, 3, 4, 5, 6, 7, 8, 9, 10, 0] rfl (m_X9_lay_L231 C hlocks hr (fun _ _ _ _ _ _ _ _ _ _ h => ih _ _ _ _ _ _ _ _ _ _ h) nn _ _ _ _ _ _ _ _ _ _ _ h)
set_option maxRecDepth 100000 in
set_option maxHeartbeats 4000000 in
theorem m_X9_lay_B177 {p : Program} {l : Launch} {e : Env} {s : State} {m : MethodId} {args : Array Value} {below : List Frame} {meth : Method} {c : Code} {D : va_G} {cA : Nat → ClassId} {ad : Nat → Nat} (C : Cx p s m args c cX9_lay RX9 21 D cA shM ad zsM) (hlocks : meth.locks = false) (hr : meth.sig.returnType = none) {Q : St → Prop} {x1 x2 x3 x4 x5 x6 x9 x10 y0 : Int} {σ : St} (h : wp_X9_lay_B177 x1 x2 x3 x4 x5 x6 x9 x10 y0 Q σ) : G p l e rm_X9_lay s m args below meth c 0 0 21 D cA shM ad (QV D cA shM ad zsM below args s Q) σ [(0, .ref (ad 0)), (1, vI x1), (2, vI x2), (3, vI x3), (4, vI x4), (5, vI x5), (6, vI x6), (9, vI x9), (10, vL x10)] [vL y0] 177 := by
  unfold wp_X9_lay_B177 at h
  refine g_lstore C 12 [(0, .ref (ad 0)), (1, vI x1), (2, vI x2), (3, vI x3), (4, vI x4), (5, vI x5), (6, vI x6), (9, vI x9), (10, vL x10)] (by decide) rfl dX9_lay_177 ?_
  refine g_lload C 9 10 rfl dX9_lay_179 ?_
  refine g_lload C 0 12 rfl dX9_lay_181 ?_
  refine g_lcmp C dX9_lay_183 ?_
  refine g_if_ge C rfl 209 (by decide) dX9_lay_184 (fun hc => ?_) (fun hc => ?_)
  · have h := h.1 hc
    refine g_lload C 9 10 rfl dX9_lay_209 ?_
    refine g_lload C 0 12 rfl dX9_lay_211 ?_
    refine g_lsub C dX9_lay_213 ?_
    refine g_nameL (fun x_1 ex_1 => ?_)
    have h := h x_1 ex_1
    refine g_lstore C 10 [(12, vL y0), (0, .ref (ad 0)), (1, vI x1), (2, vI x2), (3, vI x3), (4, vI x4), (5, vI x5), (6, vI x6), (9, vI x9)] (by decide) rfl dX9_lay_214 ?_
    refine g_iconst C dX9_lay_216 ?_
    refine g_istore C 14 [(10, vL x_1), (12, vL y0), (0, .ref (ad 0)), (1, vI x1), (2, vI x2), (3, vI x3), (4, vI x4), (5, vI x5), (6, vI x6), (9, vI x9)] (by decide) rfl dX9_lay_217 ?_
    obtain ⟨nn, h⟩ := h
    exact g_pick [3, 4, 5, 6, 7, 8, 9, 10, 1, 0] rfl (m_X9_lay_L219 C hlocks hr nn _ _ _ _ _ _ _ _ _ _ h)
  · have h := h.2 hc
    refine g_aload_n C 1 0 rfl rfl dX9_lay_187 ?_
    refine g_iload_n C 2 1 rfl rfl dX9_lay_188 ?_
    refine g_aload_n C 1 0 rfl rfl dX9_lay_189 ?_
    refine g_get C iX9 (ci := 9) (o := 0) (v := .ref (ad 12)) rfl rfl 17 (by decide) rfl tw_X9_44 dX9_lay_190 ?_
    refine g_iload_n C 3 2 rfl rfl dX9_lay_193 ?_
    obtain ⟨hi, h⟩ := h
    refine g_iald C (o := 12) (N := 204) rfl rfl hi rfl dX9_lay_194 ?_
    refine g_iconst C dX9_lay_195 ?_
    refine g_iload_n C 4 3 rfl rfl dX9_lay_196 ?_
    refine g_iload C 5 4 rfl dX9_lay_197 ?_
    refine g_iload C 6 5 rfl dX9_lay_199 ?_
    refine g_iload C 7 6 rfl dX9_lay_201 ?_
    refine g_lload C 9 10 rfl dX9_lay_203 ?_
    refine g_callVv C (m_X9_job l D cA ad h) hv_X9_job tw_X9_285 (o := 0) (ci := 9) (As := [vI x1, vI (σ 12 (w32 x2).toNat), vI 1, vI x3, vI x4, vI x5, vI x6, vL x10]) (st := []) rfl rfl rfl rfl ⟨Nat.le_of_ble_eq_true rfl, Nat.le_of_ble_eq_true rfl⟩ rfl rfl (Nat.le_of_ble_eq_true rfl) dX9_lay_205 (fun σ2 h => ?_)
    try dsimp only at h
    exact g_vret C hlocks hr h dX9_lay_208
set_option maxRecDepth 100000 in
set_option maxHeartbeats 4000000 in
theorem m_X9_lay_B118 {p : Program} {l : Launch} {e : Env} {s : State} {m : MethodId} {args : Array Value} {below : List Frame} {meth : Method} {c : Code} {D : va_G} {cA : Nat → ClassId} {ad : Nat → Nat} (C : Cx p s m args c cX9_lay RX9 21 D cA shM ad zsM) (hlocks : meth.locks = false) (hr : meth.sig.returnType = none) {Q : St → Prop} {K56 : Int → Int → Int → Int → Int → Int → St → Prop} (hK56 : ∀ (x1 : Int) (x2 : Int) (x3 : Int) (x6 : Int) (x10 : Int) (x12 : Int) (σ : St), K56 x1 x2 x3 x6 x10 x12 σ → G p l e rm_X9_lay s m args below meth c 0 0 21 D cA shM ad (QV D cA shM ad zsM below args s Q) σ [(0, .ref (ad 0)), (1, vI x1), (2, vI x2), (3, vI x3), (6, vI x6), (10, vL x10), (12, vI x12)] [] 56) {x1 x2 x3 x6 x12 y0 y1 : Int} {σ : St} (h : wp_X9_lay_B118 K56 x1 x2 x3 x6 x12 y0 y1 Q σ) : G p l e rm_X9_lay s m args below meth c 0 0 21 D cA shM ad (QV D cA shM ad zsM below args s Q) σ [(0, .ref (ad 0)), (1, vI x1), (2, vI x2), (3, vI x3), (6, vI x6), (12, vI x12)] [vL y1, vL y0] 118 := by
  unfold wp_X9_lay_B118 at h
  refine g_lsub C dX9_lay_118 ?_
  refine g_nameL (fun x_1 ex_1 => ?_)
  have h := h x_1 ex_1
  refine g_lstore C 10 [(0, .ref (ad 0)), (1, vI x1), (2, vI x2), (3, vI x3), (6, vI x6), (12, vI x12)] (by decide) rfl dX9_lay_119 ?_
  refine g_iinc C 6 12 [(10, vL x_1), (0, .ref (ad 0)), (1, vI x1), (2, vI x2), (3, vI x3), (6, vI x6)] rfl (by decide) rfl dX9_lay_121 (fun x_2 ex_2 => ?_)
  have h := h x_2 ex_2
  refine g_goto C 56 (by decide) dX9_lay_124 ?_
  exact g_pick [2, 3, 4, 5, 6, 1, 0] rfl (hK56 _ _ _ _ _ _ _ h)
set_option maxRecDepth 100000 in
set_option maxHeartbeats 4000000 in
theorem m_X9_lay_B87 {p : Program} {l : Launch} {e : Env} {s : State} {m : MethodId} {args : Array Value} {below : List Frame} {meth : Method} {c : Code} {D : va_G} {cA : Nat → ClassId} {ad : Nat → Nat} (C : Cx p s m args c cX9_lay RX9 21 D cA shM ad zsM) (hlocks : meth.locks = false) (hr : meth.sig.returnType = none) {Q : St → Prop} {K56 : Int → Int → Int → Int → Int → Int → St → Prop} (hK56 : ∀ (x1 : Int) (x2 : Int) (x3 : Int) (x6 : Int) (x10 : Int) (x12 : Int) (σ : St), K56 x1 x2 x3 x6 x10 x12 σ → G p l e rm_X9_lay s m args below meth c 0 0 21 D cA shM ad (QV D cA shM ad zsM below args s Q) σ [(0, .ref (ad 0)), (1, vI x1), (2, vI x2), (3, vI x3), (6, vI x6), (10, vL x10), (12, vI x12)] [] 56) {x1 x2 x3 x6 x10 x12 : Int} {σ : St} (h : wp_X9_lay_B87 K56 x1 x2 x3 x6 x10 x12 Q σ) : G p l e rm_X9_lay s m args below meth c 0 0 21 D cA shM ad (QV D cA shM ad zsM below args s Q) σ [(0, .ref (ad 0)), (1, vI x1), (2, vI x2), (3, vI x3), (6, vI x6), (10, vL x10), (12, vI x12)] [] 87 := by
  unfold wp_X9_lay_B87 at h
  refine g_lload C 5 10 rfl dX9_lay_87 ?_
  refine g_aload_n C 0 0 rfl rfl dX9_lay_89 ?_
  refine g_iload C 6 12 rfl dX9_lay_90 ?_
  refine g_iload_n C 2 2 rfl rfl dX9_lay_92 ?_
  refine g_iconst C dX9_lay_93 ?_
  refine g_callIv C (m_X9_isFor l D cA ad h) hv_X9_isFor tw_X9_247 (o := 0) (ci := 9) (As := [vI x12, vI x2, vI 0]) (st := [vL x10]) rfl rfl rfl rfl ⟨Nat.le_of_ble_eq_true rfl, Nat.le_of_ble_eq_true rfl⟩ rfl rfl (Nat.le_of_ble_eq_true rfl) dX9_lay_94 (fun r2 σ1 h => ?_)
  try dsimp only at h
  refine g_if_eq C rfl 117 (by decide) dX9_lay_97 (fun hc => ?_) (fun hc => ?_)
  · have h := h.1 hc
    refine g_lconst C 0 (by decide) dX9_lay_117 ?_
    exact g_pick [0, 1, 2, 3, 4, 6] rfl (m_X9_lay_B118 C hlocks hr hK56 h)
  · have h := h.2 hc
    refine g_aload_n C 0 0 rfl rfl dX9_lay_100 ?_
    refine g_bipush C dX9_lay_101 (by decide) ?_
    refine g_iload C 6 12 rfl dX9_lay_103 ?_
    refine g_imul C dX9_lay_105 ?_
    refine g_iload_n C 3 3 rfl rfl dX9_lay_106 ?_
    refine g_iconst C dX9_lay_107 ?_
    refine g_iconst C dX9_lay_108 ?_
    refine g_iload C 4 6 rfl dX9_lay_109 ?_
    refine g_callLv C (m_X9_lie l D cA ad h) hv_X9_lie tw_X9_229 (o := 0) (ci := 9) (As := [vI (12 * x12), vI x3, vI (-1), vI (-1), vI x6]) (st := [vL x10]) rfl rfl rfl rfl ⟨Nat.le_of_ble_eq_true rfl, Nat.le_of_ble_eq_true rfl⟩ rfl rfl (Nat.le_of_ble_eq_true rfl) dX9_lay_111 (fun r4 σ3 h => ?_)
    try dsimp only at h
    refine g_goto C 118 (by decide) dX9_lay_114 ?_
    exact g_pick [0, 1, 2, 3, 4, 6] rfl (m_X9_lay_B118 C hlocks hr hK56 h)
set_option maxRecDepth 100000 in
set_option maxHeartbeats 4000000 in
theorem m_X9_lay_L56 {p : Program} {l : Launch} {e : Env} {s : State} {m : MethodId} {args : Array Value} {below : List Frame} {meth : Method} {c : Code} {D : va_G} {cA : Nat → ClassId} {ad : Nat → Nat} (C : Cx p s m args c cX9_lay RX9 21 D cA shM ad zsM) (hlocks : meth.locks = false) (hr : meth.sig.returnType = none) {Q : St → Prop} : ∀ (n : Nat) (x1 : Int) (x2 : Int) (x3 : Int) (x6 : Int) (x10 : Int) (x12 : Int) (σ : St), wp_X9_lay_L56 Q n x1 x2 x3 x6 x10 x12 σ → G p l e rm_X9_lay s m args below meth c 0 0 21 D cA shM ad (QV D cA shM ad zsM below args s Q) σ [(0, .ref (ad 0)), (1, vI x1), (2, vI x2), (3, vI x3), (6, vI x6), (10, vL x10), (12, vI x12)] [] 56 := by
  intro n
  induction n with
  | zero => intro _ _ _ _ _ _ _ h; exact h.elim
  | succ n ih =>
    intro x1 x2 x3 x6 x10 x12 σ h
    simp only [wp_X9_lay_L56] at h
    refine g_aload_n C 0 0 rfl rfl dX9_lay_56 ?_
    refine g_iload C 6 12 rfl dX9_lay_57 ?_
    refine g_iload_n C 2 2 rfl rfl dX9_lay_59 ?_
    refine g_iconst C dX9_lay_60 ?_
    refine g_callIv C (m_X9_isFor l D cA ad h) hv_X9_isFor tw_X9_247 (o := 0) (ci := 9) (As := [vI x12, vI x2, vI 0]) (st := []) rfl rfl rfl rfl ⟨Nat.le_of_ble_eq_true rfl, Nat.le_of_ble_eq_true rfl⟩ rfl rfl (Nat.le_of_ble_eq_true rfl) dX9_lay_61 (fun r2 σ1 h => ?_)
    try dsimp only at h
    refine g_if_eq C rfl 87 (by decide) dX9_lay_64 (fun hc => ?_) (fun hc => ?_)
    · have h := h.1 hc
      exact g_pick [0, 1, 2, 3, 4, 5, 6] rfl (m_X9_lay_B87 C hlocks hr (fun _ _ _ _ _ _ _ h => ih _ _ _ _ _ _ _ h) h)
    · have h := h.2 hc
      refine g_lload C 5 10 rfl dX9_lay_67 ?_
      refine g_aload_n C 0 0 rfl rfl dX9_lay_69 ?_
      refine g_bipush C dX9_lay_70 (by decide) ?_
      refine g_iload C 6 12 rfl dX9_lay_72 ?_
      refine g_imul C dX9_lay_74 ?_
      refine g_iload_n C 3 3 rfl rfl dX9_lay_75 ?_
      refine g_iconst C dX9_lay_76 ?_
      refine g_iconst C dX9_lay_77 ?_
      refine g_iload C 4 6 rfl dX9_lay_78 ?_
      refine g_callLv C (m_X9_lie l D cA ad h) hv_X9_lie tw_X9_229 (o := 0) (ci := 9) (As := [vI (12 * x12), vI x3, vI (-1), vI (-1), vI x6]) (st := [vL x10]) rfl rfl rfl rfl ⟨Nat.le_of_ble_eq_true rfl, Nat.le_of_ble_eq_true rfl⟩ rfl rfl (Nat.le_of_ble_eq_true rfl) dX9_lay_80 (fun r4 σ3 h => ?_)
      try dsimp only at h
      refine g_lcmp C dX9_lay_83 ?_
      refine g_if_lt C rfl 127 (by decide) dX9_lay_84 (fun hc => ?_) (fun hc => ?_)
      · have h := h.1 hc
        refine g_aload_n C 0 0 rfl rfl dX9_lay_127 ?_
        refine g_iload C 6 12 rfl dX9_lay_128 ?_
        refine g_iload_n C 1 1 rfl rfl dX9_lay_130 ?_
        refine g_iload_n C 2 2 rfl rfl dX9_lay_131 ?_
        refine g_bipush C dX9_lay_132 (by decide) ?_
        refine g_irem C (by decide) dX9_lay_134 ?_
        refine g_iload_n C 3 3 rfl rfl dX9_lay_135 ?_
        refine g_iconst C dX9_lay_136 ?_
        refine g_iconst C dX9_lay_137 ?_
        refine g_iload C 4 6 rfl dX9_lay_138 ?_
        refine g_lload C 5 10 rfl dX9_lay_140 ?_
        refine g_callVv C (m_X9_takeTree l D cA ad h) hv_X9_takeTree tw_X9_289 (o := 0) (ci := 9) (As := [vI x12, vI x1, vI (iRem x2 12), vI x3, vI (-1), vI (-1), vI x6, vL x10]) (st := []) rfl rfl rfl rfl ⟨Nat.le_of_ble_eq_true rfl, Nat.le_of_ble_eq_true rfl⟩ rfl rfl (Nat.le_of_ble_eq_true rfl) dX9_lay_142 (fun σ5 h => ?_)
        try dsimp only at h
        exact g_vret C hlocks hr h dX9_lay_145
      · have h := h.2 hc
        exact g_pick [0, 1, 2, 3, 4, 5, 6] rfl (m_X9_lay_B87 C hlocks hr (fun _ _ _ _ _ _ _ h => ih _ _ _ _ _ _ _ h) h)
set_option maxRecDepth 100000 in
set_option maxHeartbeats 4000000 in
theorem m_X9_lay_E {p : Program} {l : Launch} {e : Env} {s : State} {m : MethodId} {args : Array Value} {below : List Frame} {meth : Method} {c : Code} {D : va_G} {cA : Nat → ClassId} {ad : Nat → Nat} (C : Cx p s m args c cX9_lay RX9 21 D cA shM ad zsM) (hlocks : meth.locks = false) (hr : meth.sig.returnType = none) {Q : St → Prop} {a1 a2 a3 a4 a5 a6 a7 : Int} {σ : St} (h : wp_X9_lay a1 a2 a3 a4 a5 a6 a7 Q σ) : G p l e rm_X9_lay s m args below meth c 0 0 21 D cA shM ad (QV D cA shM ad zsM below args s Q) σ [(0, .ref (ad 0)), (1, vI a1), (2, vI a2), (3, vI a3), (4, vI a4), (5, vI a5), (6, vI a6), (7, vL a7)] [] 0 := by
  unfold wp_X9_lay at h
  refine g_bipush C dX9_lay_0 (by decide) ?_
  refine g_iload_n C 1 1 rfl rfl dX9_lay_2 ?_
  refine g_imul C dX9_lay_3 ?_
  refine g_iload_n C 2 2 rfl rfl dX9_lay_4 ?_
  refine g_bipush C dX9_lay_5 (by decide) ?_
  refine g_irem C (by decide) dX9_lay_7 ?_
  refine g_iadd C dX9_lay_8 ?_
  refine g_name (fun x_1 ex_1 => ?_)
  have h := h x_1 ex_1
  refine g_istore C 9 [(0, .ref (ad 0)), (1, vI a1), (2, vI a2), (3, vI a3), (4, vI a4), (5, vI a5), (6, vI a6), (7, vL a7)] (by decide) rfl dX9_lay_9 ?_
  refine g_aload_n C 1 0 rfl rfl dX9_lay_11 ?_
  refine g_get C iX9 (ci := 9) (o := 0) (v := .ref (ad 24)) rfl rfl 43 (by decide) rfl tw_X9_89 dX9_lay_12 ?_
  refine g_iload C 0 9 rfl dX9_lay_15 ?_
  refine g_iload_n C 4 3 rfl rfl dX9_lay_17 ?_
  obtain ⟨hi, h⟩ := h
  refine g_iast C (o := 24) (N := 120) rfl rfl hi rfl dX9_lay_18 (fun σ2 eσ2 => ?_)
  have h := h σ2 eσ2
  refine g_aload_n C 1 0 rfl rfl dX9_lay_19 ?_
  refine g_get C iX9 (ci := 9) (o := 0) (v := .ref (ad 25)) rfl rfl 44 (by decide) rfl tw_X9_92 dX9_lay_20 ?_
  refine g_iload C 0 9 rfl dX9_lay_23 ?_
  refine g_iload C 7 6 rfl dX9_lay_25 ?_
  obtain ⟨hi, h⟩ := h
  refine g_iast C (o := 25) (N := 120) rfl rfl hi rfl dX9_lay_27 (fun σ3 eσ3 => ?_)
  have h := h σ3 eσ3
  refine g_aload_n C 1 0 rfl rfl dX9_lay_28 ?_
  refine g_get C iX9 (ci := 9) (o := 0) (v := .ref (ad 6)) rfl rfl 11 (by decide) rfl tw_X9_26 dX9_lay_29 ?_
  refine g_iload_n C 3 2 rfl rfl dX9_lay_32 ?_
  obtain ⟨hi, h⟩ := h
  refine g_iald C (o := 6) (N := 204) rfl rfl hi rfl dX9_lay_33 ?_
  refine g_iconst C dX9_lay_34 ?_
  refine g_icmp_le C (y' := 1) rfl (by decide) 39 (by decide) dX9_lay_35 (fun hc => ?_) (fun hc => ?_)
  · have h := h.1 hc
    refine g_lload C 8 7 rfl dX9_lay_39 ?_
    refine g_lstore C 10 [(9, vI x_1), (0, .ref (ad 0)), (1, vI a1), (2, vI a2), (3, vI a3), (4, vI a4), (5, vI a5), (6, vI a6), (7, vL a7)] (by decide) rfl dX9_lay_41 ?_
    refine g_aload_n C 2 0 rfl rfl dX9_lay_43 ?_
    refine g_get C iX9 (ci := 9) (o := 0) (v := .ref (ad 6)) rfl rfl 11 (by decide) rfl tw_X9_26 dX9_lay_44 ?_
    refine g_iload_n C 4 2 rfl rfl dX9_lay_47 ?_
    obtain ⟨hi, h⟩ := h
    refine g_iald C (o := 6) (N := 204) rfl rfl hi rfl dX9_lay_48 ?_
    refine g_iconst C dX9_lay_49 ?_
    refine g_icmp_ne C (y' := 1) rfl (by decide) 146 (by decide) dX9_lay_50 (fun hc => ?_) (fun hc => ?_)
    · have h := h.1 hc
      refine g_aload_n C 2 0 rfl rfl dX9_lay_146 ?_
      refine g_get C iX9 (ci := 9) (o := 0) (v := .ref (ad 10)) rfl rfl 15 (by decide) rfl tw_X9_38 dX9_lay_147 ?_
      refine g_iload_n C 4 2 rfl rfl dX9_lay_150 ?_
      obtain ⟨hi, h⟩ := h
      refine g_iald C (o := 10) (N := 204) rfl rfl hi rfl dX9_lay_151 ?_
      refine g_iconst C dX9_lay_152 ?_
      refine g_icmp_ne C (y' := 1) rfl (by decide) 160 (by decide) dX9_lay_153 (fun hc => ?_) (fun hc => ?_)
      · have h := h.1 hc
        refine g_aload_n C 2 0 rfl rfl dX9_lay_160 ?_
        refine g_aload_n C 2 0 rfl rfl dX9_lay_161 ?_
        refine g_get C iX9 (ci := 9) (o := 0) (v := .ref (ad 12)) rfl rfl 17 (by decide) rfl tw_X9_44 dX9_lay_162 ?_
        refine g_iload_n C 4 2 rfl rfl dX9_lay_165 ?_
        obtain ⟨hi, h⟩ := h
        refine g_iald C (o := 12) (N := 204) rfl rfl hi rfl dX9_lay_166 ?_
        refine g_iload_n C 5 3 rfl rfl dX9_lay_167 ?_
        refine g_iload C 6 4 rfl dX9_lay_168 ?_
        refine g_iload C 7 5 rfl dX9_lay_170 ?_
        refine g_iload C 8 6 rfl dX9_lay_172 ?_
        refine g_callLv C (m_X9_run l D cA ad h) hv_X9_run tw_X9_233 (o := 0) (ci := 9) (As := [vI (σ3 12 (w32 a2).toNat), vI a3, vI a4, vI a5, vI a6]) (st := []) rfl rfl rfl rfl ⟨Nat.le_of_ble_eq_true rfl, Nat.le_of_ble_eq_true rfl⟩ rfl rfl (Nat.le_of_ble_eq_true rfl) dX9_lay_174 (fun r5 σ4 h => ?_)
        try dsimp only at h
        exact g_pick [2, 3, 4, 5, 6, 7, 8, 1, 0] rfl (m_X9_lay_B177 C hlocks hr h)
      · have h := h.2 hc
        refine g_lconst C 0 (by decide) dX9_lay_156 ?_
        refine g_goto C 177 (by decide) dX9_lay_157 ?_
        exact g_pick [2, 3, 4, 5, 6, 7, 8, 1, 0] rfl (m_X9_lay_B177 C hlocks hr h)
    · have h := h.2 hc
      refine g_iconst C dX9_lay_53 ?_
      refine g_istore C 12 [(10, vL a7), (9, vI x_1), (0, .ref (ad 0)), (1, vI a1), (2, vI a2), (3, vI a3), (4, vI a4), (5, vI a5), (6, vI a6), (7, vL a7)] (by decide) rfl dX9_lay_54 ?_
      obtain ⟨nn, h⟩ := h
      exact g_pick [3, 4, 5, 6, 9, 1, 0] rfl (m_X9_lay_L56 C hlocks hr nn _ _ _ _ _ _ _ h)
  · have h := h.2 hc
    exact g_vret C hlocks hr h dX9_lay_38
set_option maxRecDepth 100000 in
set_option maxHeartbeats 4000000 in
theorem m_X9_lay (l : Launch) (D : va_G) (cA : Nat → ClassId) (ad : Nat → Nat) {a1 a2 a3 a4 a5 a6 a7 : Int} {Q : St → Prop} {σ : St} (h : wp_X9_lay a1 a2 a3 a4 a5 a6 a7 Q σ) : CtV l yX9_lay (.code yX9_lay cX9_lay 21 none) rm_X9_lay D cA shM ad zsM [.ref (ad 0), vI a1, vI a2, vI a3, vI a4, vI a5, vI a6, vL a7] σ Q :=
  ct_V RX9 (by decide +kernel) rfl (Nat.le_of_ble_eq_true rfl) (fun p e s m args below meth c C hlocks hr => m_X9_lay_E C hlocks hr h)
abbrev rm_X9_layOn : Room := { frames := 4, cells := 0, slots := 0, locals := 75 }
set_option maxRecDepth 100000 in
set_option maxHeartbeats 4000000 in
theorem m_X9_layOn_B166 {p : Program} {l : Launch} {e : Env} {s : State} {m : MethodId} {args : Array Value} {below : List Frame} {meth : Method} {c : Code} {D : va_G} {cA : Nat → ClassId} {ad : Nat → Nat} (C : Cx p s m args c cX9_layOn RX9 15 D cA shM ad zsM) (hlocks : meth.locks = false) (hr : meth.sig.returnType = none) {Q : St → Prop} {x5 x9 x11 x13 y1 y2 y3 y4 y5 : Int} {σ : St} (h : wp_X9_layOn_B166 x5 x9 x11 x13 y1 y2 y3 y4 y5 Q σ) : G p l e rm_X9_layOn s m args below meth c 0 0 15 D cA shM ad (QV D cA shM ad zsM below args s Q) σ [(5, vI x5), (9, vL x9), (11, vI x11), (13, vL x13)] [vI y5, vI y4, vI y3, vI y2, vI y1, .ref (ad 0)] 166 := by
  unfold wp_X9_layOn_B166 at h
  refine g_iload C 0 5 rfl dX9_layOn_166 ?_
  refine g_iload C 2 11 rfl dX9_layOn_168 ?_
  refine g_lload C 1 9 rfl dX9_layOn_170 ?_
  refine g_lload C 3 13 rfl dX9_layOn_172 ?_
  obtain ⟨hi, h⟩ := h
  refine g_ldiv C hi dX9_layOn_174 ?_
  refine g_callVv C (m_X9_job l D cA ad h) hv_X9_job tw_X9_285 (o := 0) (ci := 9) (As := [vI y1, vI y2, vI y3, vI y4, vI y5, vI x5, vI x11, vL (lDiv x9 x13)]) (st := []) rfl rfl rfl rfl ⟨Nat.le_of_ble_eq_true rfl, Nat.le_of_ble_eq_true rfl⟩ rfl rfl (Nat.le_of_ble_eq_true rfl) dX9_layOn_175 (fun σ1 h => ?_)
  try dsimp only at h
  exact g_vret C hlocks hr h dX9_layOn_178
set_option maxRecDepth 100000 in
set_option maxHeartbeats 4000000 in
theorem m_X9_layOn_B138 {p : Program} {l : Launch} {e : Env} {s : State} {m : MethodId} {args : Array Value} {below : List Frame} {meth : Method} {c : Code} {D : va_G} {cA : Nat → ClassId} {ad : Nat → Nat} (C : Cx p s m args c cX9_layOn RX9 15 D cA shM ad zsM) (hlocks : meth.locks = false) (hr : meth.sig.returnType = none) {Q : St → Prop} {x1 x2 x3 x4 x5 x6 x9 x11 x12 x13 y1 y2 y3 y4 y5 : Int} {σ : St} (h : wp_X9_layOn_B138 x1 x2 x3 x4 x5 x6 x9 x11 x12 x13 y1 y2 y3 y4 y5 Q σ) : G p l e rm_X9_layOn s m args below meth c 0 0 15 D cA shM ad (QV D cA shM ad zsM below args s Q) σ [(0, .ref (ad 0)), (1, vI x1), (2, vI x2), (3, vI x3), (4, vI x4), (5, vI x5), (6, vI x6), (9, vL x9), (11, vI x11), (12, vI x12), (13, vL x13)] [vI y5, vI y4, vI y3, vI y2, vI y1, .ref (ad 0)] 138 := by
  unfold wp_X9_layOn_B138 at h
  refine g_iload C 5 5 rfl dX9_layOn_138 ?_
  refine g_iload C 6 6 rfl dX9_layOn_140 ?_
  refine g_lload C 7 9 rfl dX9_layOn_142 ?_
  refine g_lload C 10 13 rfl dX9_layOn_144 ?_
  obtain ⟨hi, h⟩ := h
  refine g_lrem C hi dX9_layOn_146 ?_
  refine g_callVv C (m_X9_job l D cA ad h) hv_X9_job tw_X9_285 (o := 0) (ci := 9) (As := [vI y1, vI y2, vI y3, vI y4, vI y5, vI x5, vI x6, vL (lRem x9 x13)]) (st := []) rfl rfl rfl rfl ⟨Nat.le_of_ble_eq_true rfl, Nat.le_of_ble_eq_true rfl⟩ rfl rfl (Nat.le_of_ble_eq_true rfl) dX9_layOn_147 (fun σ1 h => ?_)
  try dsimp only at h
  refine g_aload_n C 0 0 rfl rfl dX9_layOn_150 ?_
  refine g_iload_n C 1 1 rfl rfl dX9_layOn_151 ?_
  refine g_iload_n C 2 2 rfl rfl dX9_layOn_152 ?_
  refine g_iconst C dX9_layOn_153 ?_
  refine g_iload_n C 3 3 rfl rfl dX9_layOn_154 ?_
  refine g_iload C 9 12 rfl dX9_layOn_155 ?_
  refine g_if_eq C rfl 165 (by decide) dX9_layOn_157 (fun hc => ?_) (fun hc => ?_)
  · have h := h.1 hc
    refine g_iconst C dX9_layOn_165 ?_
    exact g_pick [5, 7, 8, 10] rfl (m_X9_layOn_B166 C hlocks hr h)
  · have h := h.2 hc
    refine g_iload C 4 4 rfl dX9_layOn_160 ?_
    refine g_goto C 166 (by decide) dX9_layOn_162 ?_
    exact g_pick [5, 7, 8, 10] rfl (m_X9_layOn_B166 C hlocks hr h)
set_option maxRecDepth 100000 in
set_option maxHeartbeats 4000000 in
theorem m_X9_layOn_B107 {p : Program} {l : Launch} {e : Env} {s : State} {m : MethodId} {args : Array Value} {below : List Frame} {meth : Method} {c : Code} {D : va_G} {cA : Nat → ClassId} {ad : Nat → Nat} (C : Cx p s m args c cX9_layOn RX9 15 D cA shM ad zsM) (hlocks : meth.locks = false) (hr : meth.sig.returnType = none) {Q : St → Prop} {x1 x2 x3 x4 x5 x6 x9 x11 x12 y1 y2 y3 : Int} {σ : St} (h : wp_X9_layOn_B107 x1 x2 x3 x4 x5 x6 x9 x11 x12 y1 y2 y3 Q σ) : G p l e rm_X9_layOn s m args below meth c 0 0 15 D cA shM ad (QV D cA shM ad zsM below args s Q) σ [(0, .ref (ad 0)), (1, vI x1), (2, vI x2), (3, vI x3), (4, vI x4), (5, vI x5), (6, vI x6), (9, vL x9), (11, vI x11), (12, vI x12)] [vI y3, vI y2, vI y1, .ref (ad 0)] 107 := by
  unfold wp_X9_layOn_B107 at h
  refine g_iload C 5 5 rfl dX9_layOn_107 ?_
  refine g_iload C 6 6 rfl dX9_layOn_109 ?_
  refine g_callLv C (m_X9_run l D cA ad h) hv_X9_run tw_X9_233 (o := 0) (ci := 9) (As := [vI y1, vI y2, vI y3, vI x5, vI x6]) (st := []) rfl rfl rfl rfl ⟨Nat.le_of_ble_eq_true rfl, Nat.le_of_ble_eq_true rfl⟩ rfl rfl (Nat.le_of_ble_eq_true rfl) dX9_layOn_111 (fun r2 σ1 h => ?_)
  try dsimp only at h
  refine g_lstore C 13 [(0, .ref (ad 0)), (1, vI x1), (2, vI x2), (3, vI x3), (4, vI x4), (5, vI x5), (6, vI x6), (9, vL x9), (11, vI x11), (12, vI x12)] (by decide) rfl dX9_layOn_114 ?_
  refine g_aload_n C 1 0 rfl rfl dX9_layOn_116 ?_
  refine g_iload_n C 2 1 rfl rfl dX9_layOn_117 ?_
  refine g_aload_n C 1 0 rfl rfl dX9_layOn_118 ?_
  refine g_get C iX9 (ci := 9) (o := 0) (v := .ref (ad 11)) rfl rfl 16 (by decide) rfl tw_X9_41 dX9_layOn_119 ?_
  refine g_iload_n C 3 2 rfl rfl dX9_layOn_122 ?_
  obtain ⟨hi, h⟩ := h
  refine g_iald C (o := 11) (N := 204) rfl rfl hi rfl dX9_layOn_123 ?_
  refine g_iconst C dX9_layOn_124 ?_
  refine g_iload C 9 11 rfl dX9_layOn_125 ?_
  refine g_iload C 10 12 rfl dX9_layOn_127 ?_
  refine g_if_eq C rfl 136 (by decide) dX9_layOn_129 (fun hc => ?_) (fun hc => ?_)
  · have h := h.1 hc
    refine g_iload C 5 4 rfl dX9_layOn_136 ?_
    exact g_pick [1, 2, 3, 4, 5, 6, 7, 8, 9, 10, 0] rfl (m_X9_layOn_B138 C hlocks hr h)
  · have h := h.2 hc
    refine g_iconst C dX9_layOn_132 ?_
    refine g_goto C 138 (by decide) dX9_layOn_133 ?_
    exact g_pick [1, 2, 3, 4, 5, 6, 7, 8, 9, 10, 0] rfl (m_X9_layOn_B138 C hlocks hr h)
set_option maxRecDepth 100000 in
set_option maxHeartbeats 4000000 in
theorem m_X9_layOn_L34 {p : Program} {l : Launch} {e : Env} {s : State} {m : MethodId} {args : Array Value} {below : List Frame} {meth : Method} {c : Code} {D : va_G} {cA : Nat → ClassId} {ad : Nat → Nat} (C : Cx p s m args c cX9_layOn RX9 15 D cA shM ad zsM) (hlocks : meth.locks = false) (hr : meth.sig.returnType = none) {Q : St → Prop} : ∀ (n : Nat) (x1 : Int) (x2 : Int) (x3 : Int) (x4 : Int) (x5 : Int) (x6 : Int) (x9 : Int) (x11 : Int) (σ : St), wp_X9_layOn_L34 Q n x1 x2 x3 x4 x5 x6 x9 x11 σ → G p l e rm_X9_layOn s m args below meth c 0 0 15 D cA shM ad (QV D cA shM ad zsM below args s Q) σ [(0, .ref (ad 0)), (1, vI x1), (2, vI x2), (3, vI x3), (4, vI x4), (5, vI x5), (6, vI x6), (9, vL x9), (11, vI x11)] [] 34 := by
  intro n
  induction n with
  | zero => intro _ _ _ _ _ _ _ _ _ h; exact h.elim
  | succ n ih =>
    intro x1 x2 x3 x4 x5 x6 x9 x11 σ h
    simp only [wp_X9_layOn_L34] at h
    refine g_lload C 7 9 rfl dX9_layOn_34 ?_
    refine g_aload_n C 0 0 rfl rfl dX9_layOn_36 ?_
    refine g_iload_n C 2 2 rfl rfl dX9_layOn_37 ?_
    refine g_iload_n C 3 3 rfl rfl dX9_layOn_38 ?_
    refine g_iload C 8 11 rfl dX9_layOn_39 ?_
    refine g_iload C 4 4 rfl dX9_layOn_41 ?_
    refine g_iload C 5 5 rfl dX9_layOn_43 ?_
    refine g_iload C 6 6 rfl dX9_layOn_45 ?_
    refine g_callLv C (m_X9_split l D cA ad h) hv_X9_split tw_X9_240 (o := 0) (ci := 9) (As := [vI x2, vI x3, vI x11, vI x4, vI x5, vI x6]) (st := [vL x9]) rfl rfl rfl rfl ⟨Nat.le_of_ble_eq_true rfl, Nat.le_of_ble_eq_true rfl⟩ rfl rfl (Nat.le_of_ble_eq_true rfl) dX9_layOn_47 (fun r2 σ1 h => ?_)
    try dsimp only at h
    refine g_lcmp C dX9_layOn_50 ?_
    refine g_if_lt C rfl 79 (by decide) dX9_layOn_51 (fun hc => ?_) (fun hc => ?_)
    · have h := h.1 hc
      refine g_aload_n C 0 0 rfl rfl dX9_layOn_79 ?_
      refine g_get C iX9 (ci := 9) (o := 0) (v := .ref (ad 13)) rfl rfl 18 (by decide) rfl tw_X9_47 dX9_layOn_80 ?_
      refine g_iload_n C 2 2 rfl rfl dX9_layOn_83 ?_
      obtain ⟨hi, h⟩ := h
      refine g_zald C (o := 13) (N := 204) rfl rfl hi rfl dX9_layOn_84 ?_
      refine g_name (fun x_3 ex_3 => ?_)
      have h := h x_3 ex_3
      refine g_istore C 12 [(0, .ref (ad 0)), (1, vI x1), (2, vI x2), (3, vI x3), (4, vI x4), (5, vI x5), (6, vI x6), (9, vL x9), (11, vI x11)] (by decide) rfl dX9_layOn_85 ?_
      refine g_aload_n C 1 0 rfl rfl dX9_layOn_87 ?_
      refine g_aload_n C 1 0 rfl rfl dX9_layOn_88 ?_
      refine g_get C iX9 (ci := 9) (o := 0) (v := .ref (ad 11)) rfl rfl 16 (by decide) rfl tw_X9_41 dX9_layOn_89 ?_
      refine g_iload_n C 3 2 rfl rfl dX9_layOn_92 ?_
      obtain ⟨hi, h⟩ := h
      refine g_iald C (o := 11) (N := 204) rfl rfl hi rfl dX9_layOn_93 ?_
      refine g_iload C 9 11 rfl dX9_layOn_94 ?_
      refine g_iload C 0 12 rfl dX9_layOn_96 ?_
      refine g_if_eq C rfl 105 (by decide) dX9_layOn_98 (fun hc => ?_) (fun hc => ?_)
      · have h := h.1 hc
        refine g_iload C 5 4 rfl dX9_layOn_105 ?_
        exact g_pick [1, 2, 3, 4, 5, 6, 7, 8, 9, 0] rfl (m_X9_layOn_B107 C hlocks hr h)
      · have h := h.2 hc
        refine g_iconst C dX9_layOn_101 ?_
        refine g_goto C 107 (by decide) dX9_layOn_102 ?_
        exact g_pick [1, 2, 3, 4, 5, 6, 7, 8, 9, 0] rfl (m_X9_layOn_B107 C hlocks hr h)
    · have h := h.2 hc
      refine g_lload C 7 9 rfl dX9_layOn_54 ?_
      refine g_aload_n C 0 0 rfl rfl dX9_layOn_56 ?_
      refine g_iload_n C 2 2 rfl rfl dX9_layOn_57 ?_
      refine g_iload_n C 3 3 rfl rfl dX9_layOn_58 ?_
      refine g_iload C 8 11 rfl dX9_layOn_59 ?_
      refine g_iload C 4 4 rfl dX9_layOn_61 ?_
      refine g_iload C 5 5 rfl dX9_layOn_63 ?_
      refine g_iload C 6 6 rfl dX9_layOn_65 ?_
      refine g_callLv C (m_X9_split l D cA ad h) hv_X9_split tw_X9_240 (o := 0) (ci := 9) (As := [vI x2, vI x3, vI x11, vI x4, vI x5, vI x6]) (st := [vL x9]) rfl rfl rfl rfl ⟨Nat.le_of_ble_eq_true rfl, Nat.le_of_ble_eq_true rfl⟩ rfl rfl (Nat.le_of_ble_eq_true rfl) dX9_layOn_67 (fun r5 σ4 h => ?_)
      try dsimp only at h
      refine g_lsub C dX9_layOn_70 ?_
      refine g_nameL (fun x_6 ex_6 => ?_)
      have h := h x_6 ex_6
      refine g_lstore C 9 [(0, .ref (ad 0)), (1, vI x1), (2, vI x2), (3, vI x3), (4, vI x4), (5, vI x5), (6, vI x6), (11, vI x11)] (by decide) rfl dX9_layOn_71 ?_
      refine g_iinc C 8 11 [(9, vL x_6), (0, .ref (ad 0)), (1, vI x1), (2, vI x2), (3, vI x3), (4, vI x4), (5, vI x5), (6, vI x6)] rfl (by decide) rfl dX9_layOn_73 (fun x_7 ex_7 => ?_)
      have h := h x_7 ex_7
      refine g_goto C 34 (by decide) dX9_layOn_76 ?_
      exact g_pick [2, 3, 4, 5, 6, 7, 8, 1, 0] rfl (ih _ _ _ _ _ _ _ _ _ h)
set_option maxRecDepth 100000 in
set_option maxHeartbeats 4000000 in
theorem m_X9_layOn_E {p : Program} {l : Launch} {e : Env} {s : State} {m : MethodId} {args : Array Value} {below : List Frame} {meth : Method} {c : Code} {D : va_G} {cA : Nat → ClassId} {ad : Nat → Nat} (C : Cx p s m args c cX9_layOn RX9 15 D cA shM ad zsM) (hlocks : meth.locks = false) (hr : meth.sig.returnType = none) {Q : St → Prop} {a1 a2 a3 a4 a5 a6 a7 : Int} {σ : St} (h : wp_X9_layOn a1 a2 a3 a4 a5 a6 a7 Q σ) : G p l e rm_X9_layOn s m args below meth c 0 0 15 D cA shM ad (QV D cA shM ad zsM below args s Q) σ [(0, .ref (ad 0)), (1, vI a1), (2, vI a2), (3, vI a3), (4, vI a4), (5, vI a5), (6, vI a6), (7, vL a7)] [] 0 := by
  unfold wp_X9_layOn at h
  refine g_aload_n C 0 0 rfl rfl dX9_layOn_0 ?_
  refine g_get C iX9 (ci := 9) (o := 0) (v := .ref (ad 11)) rfl rfl 16 (by decide) rfl tw_X9_41 dX9_layOn_1 ?_
  refine g_iload_n C 2 2 rfl rfl dX9_layOn_4 ?_
  obtain ⟨hi, h⟩ := h
  refine g_iald C (o := 11) (N := 204) rfl rfl hi rfl dX9_layOn_5 ?_
  refine g_iconst C dX9_layOn_6 ?_
  refine g_icmp_ne C (y' := (-1)) rfl (by decide) 27 (by decide) dX9_layOn_7 (fun hc => ?_) (fun hc => ?_)
  · have h := h.1 hc
    refine g_lload C 7 7 rfl dX9_layOn_27 ?_
    refine g_lstore C 9 [(0, .ref (ad 0)), (1, vI a1), (2, vI a2), (3, vI a3), (4, vI a4), (5, vI a5), (6, vI a6), (7, vL a7)] (by decide) rfl dX9_layOn_29 ?_
    refine g_iload_n C 4 3 rfl rfl dX9_layOn_31 ?_
    refine g_istore C 11 [(9, vL a7), (0, .ref (ad 0)), (1, vI a1), (2, vI a2), (3, vI a3), (4, vI a4), (5, vI a5), (6, vI a6), (7, vL a7)] (by decide) rfl dX9_layOn_32 ?_
    obtain ⟨nn, h⟩ := h
    exact g_pick [2, 3, 4, 5, 6, 7, 8, 1, 0] rfl (m_X9_layOn_L34 C hlocks hr nn _ _ _ _ _ _ _ _ _ h)
  · have h := h.2 hc
    refine g_aload_n C 0 0 rfl rfl dX9_layOn_10 ?_
    refine g_iload_n C 1 1 rfl rfl dX9_layOn_11 ?_
    refine g_iload_n C 2 2 rfl rfl dX9_layOn_12 ?_
    refine g_iconst C dX9_layOn_13 ?_
    refine g_iload_n C 3 3 rfl rfl dX9_layOn_14 ?_
    refine g_iload C 4 4 rfl dX9_layOn_15 ?_
    refine g_iload C 5 5 rfl dX9_layOn_17 ?_
    refine g_iload C 6 6 rfl dX9_layOn_19 ?_
    refine g_lload C 7 7 rfl dX9_layOn_21 ?_
    refine g_callVv C (m_X9_job l D cA ad h) hv_X9_job tw_X9_285 (o := 0) (ci := 9) (As := [vI a1, vI a2, vI 0, vI a3, vI a4, vI a5, vI a6, vL a7]) (st := []) rfl rfl rfl rfl ⟨Nat.le_of_ble_eq_true rfl, Nat.le_of_ble_eq_true rfl⟩ rfl rfl (Nat.le_of_ble_eq_true rfl) dX9_layOn_23 (fun σ1 h => ?_)
    try dsimp only at h
    exact g_vret C hlocks hr h dX9_layOn_26
set_option maxRecDepth 100000 in
set_option maxHeartbeats 4000000 in
theorem m_X9_layOn (l : Launch) (D : va_G) (cA : Nat → ClassId) (ad : Nat → Nat) {a1 a2 a3 a4 a5 a6 a7 : Int} {Q : St → Prop} {σ : St} (h : wp_X9_layOn a1 a2 a3 a4 a5 a6 a7 Q σ) : CtV l yX9_layOn (.code yX9_layOn cX9_layOn 15 none) rm_X9_layOn D cA shM ad zsM [.ref (ad 0), vI a1, vI a2, vI a3, vI a4, vI a5, vI a6, vL a7] σ Q :=
  ct_V RX9 (by decide +kernel) rfl (Nat.le_of_ble_eq_true rfl) (fun p e s m args below meth c C hlocks hr => m_X9_layOn_E C hlocks hr h)
abbrev rm_X9_choose : Room := { frames := 5, cells := 0, slots := 0, locals := 116 }
set_option maxRecDepth 100000 in
set_option maxHeartbeats 4000000 in
theorem m_X9_choose_B109 {p : Program} {l : Launch} {e : Env} {s : State} {m : MethodId} {args : Array Value} {below : List Frame} {meth : Method} {c : Code} {D : va_G} {cA : Nat → ClassId} {ad : Nat → Nat} (C : Cx p s m args c cX9_choose RX9 7 D cA shM ad zsM) (hlocks : meth.locks = false) (hr : meth.sig.returnType = (some .int)) {Q : Int → St → Prop} {K49 : Int → Int → St → Prop} (hK49 : ∀ (x2 : Int) (x4 : Int) (σ : St), K49 x2 x4 σ → G p l e rm_X9_choose s m args below meth c 0 0 7 D cA shM ad (QI D cA shM ad zsM below args s Q) σ [(0, .ref (ad 0)), (2, vL x2), (4, vI x4)] [] 49) {x4 y0 y1 : Int} {σ : St} (h : wp_X9_choose_B109 K49 x4 y0 y1 Q σ) : G p l e rm_X9_choose s m args below meth c 0 0 7 D cA shM ad (QI D cA shM ad zsM below args s Q) σ [(0, .ref (ad 0)), (4, vI x4)] [vL y1, vL y0] 109 := by
  unfold wp_X9_choose_B109 at h
  refine g_lsub C dX9_choose_109 ?_
  refine g_nameL (fun x_1 ex_1 => ?_)
  have h := h x_1 ex_1
  refine g_lstore_n C 2 [(0, .ref (ad 0)), (4, vI x4)] rfl (by decide) rfl dX9_choose_110 ?_
  refine g_iinc C 2 4 [(2, vL x_1), (0, .ref (ad 0))] rfl (by decide) rfl dX9_choose_111 (fun x_2 ex_2 => ?_)
  have h := h x_2 ex_2
  refine g_goto C 49 (by decide) dX9_choose_114 ?_
  exact g_pick [2, 1, 0] rfl (hK49 _ _ _ h)
set_option maxRecDepth 100000 in
set_option maxHeartbeats 4000000 in
theorem m_X9_choose_B79 {p : Program} {l : Launch} {e : Env} {s : State} {m : MethodId} {args : Array Value} {below : List Frame} {meth : Method} {c : Code} {D : va_G} {cA : Nat → ClassId} {ad : Nat → Nat} (C : Cx p s m args c cX9_choose RX9 7 D cA shM ad zsM) (hlocks : meth.locks = false) (hr : meth.sig.returnType = (some .int)) {Q : Int → St → Prop} {K49 : Int → Int → St → Prop} (hK49 : ∀ (x2 : Int) (x4 : Int) (σ : St), K49 x2 x4 σ → G p l e rm_X9_choose s m args below meth c 0 0 7 D cA shM ad (QI D cA shM ad zsM below args s Q) σ [(0, .ref (ad 0)), (2, vL x2), (4, vI x4)] [] 49) {x2 x4 : Int} {σ : St} (h : wp_X9_choose_B79 K49 x2 x4 Q σ) : G p l e rm_X9_choose s m args below meth c 0 0 7 D cA shM ad (QI D cA shM ad zsM below args s Q) σ [(0, .ref (ad 0)), (2, vL x2), (4, vI x4)] [] 79 := by
  unfold wp_X9_choose_B79 at h
  refine g_lload_n C 1 2 rfl rfl dX9_choose_79 ?_
  refine g_aload_n C 0 0 rfl rfl dX9_choose_80 ?_
  refine g_iload C 2 4 rfl dX9_choose_81 ?_
  refine g_callIv C (m_X9_isGoal l D cA ad h) hv_X9_isGoal tw_X9_279 (o := 0) (ci := 9) (As := [vI x4]) (st := [vL x2]) rfl rfl rfl rfl ⟨Nat.le_of_ble_eq_true rfl, Nat.le_of_ble_eq_true rfl⟩ rfl rfl (Nat.le_of_ble_eq_true rfl) dX9_choose_83 (fun r2 σ1 h => ?_)
  try dsimp only at h
  refine g_if_eq C rfl 108 (by decide) dX9_choose_86 (fun hc => ?_) (fun hc => ?_)
  · have h := h.1 hc
    refine g_lconst C 0 (by decide) dX9_choose_108 ?_
    exact g_pick [0, 2] rfl (m_X9_choose_B109 C hlocks hr hK49 h)
  · have h := h.2 hc
    refine g_aload_n C 0 0 rfl rfl dX9_choose_89 ?_
    refine g_bipush C dX9_choose_90 (by decide) ?_
    refine g_iload C 2 4 rfl dX9_choose_92 ?_
    refine g_imul C dX9_choose_94 ?_
    refine g_iconst C dX9_choose_95 ?_
    refine g_iconst C dX9_choose_96 ?_
    refine g_iconst C dX9_choose_97 ?_
    refine g_aload_n C 0 0 rfl rfl dX9_choose_98 ?_
    refine g_get C iX9 (ci := 9) (o := 0) (v := vI (σ1 0 26)) rfl rfl 26 (by decide) rfl tw_X9_220 dX9_choose_99 ?_
    refine g_callLv C (m_X9_lie l D cA ad h) hv_X9_lie tw_X9_229 (o := 0) (ci := 9) (As := [vI (12 * x4), vI 0, vI (-1), vI (-1), vI (σ1 0 26)]) (st := [vL x2]) rfl rfl rfl rfl ⟨Nat.le_of_ble_eq_true rfl, Nat.le_of_ble_eq_true rfl⟩ rfl rfl (Nat.le_of_ble_eq_true rfl) dX9_choose_102 (fun r4 σ3 h => ?_)
    try dsimp only at h
    refine g_goto C 109 (by decide) dX9_choose_105 ?_
    exact g_pick [0, 2] rfl (m_X9_choose_B109 C hlocks hr hK49 h)
set_option maxRecDepth 100000 in
set_option maxHeartbeats 4000000 in
theorem m_X9_choose_B329 {p : Program} {l : Launch} {e : Env} {s : State} {m : MethodId} {args : Array Value} {below : List Frame} {meth : Method} {c : Code} {D : va_G} {cA : Nat → ClassId} {ad : Nat → Nat} (C : Cx p s m args c cX9_choose RX9 7 D cA shM ad zsM) (hlocks : meth.locks = false) (hr : meth.sig.returnType = (some .int)) {Q : Int → St → Prop} {K143 : St → Prop} (hK143 : ∀ (σ : St), K143 σ → G p l e rm_X9_choose s m args below meth c 0 0 7 D cA shM ad (QI D cA shM ad zsM below args s Q) σ [(0, .ref (ad 0))] [] 143) {σ : St} (h : wp_X9_choose_B329 K143 Q σ) : G p l e rm_X9_choose s m args below meth c 0 0 7 D cA shM ad (QI D cA shM ad zsM below args s Q) σ [(0, .ref (ad 0))] [] 329 := by
  unfold wp_X9_choose_B329 at h
  refine g_goto C 143 (by decide) dX9_choose_329 ?_
  exact g_pick [0] rfl (hK143  _ h)
set_option maxRecDepth 100000 in
set_option maxHeartbeats 4000000 in
theorem m_X9_choose_B187 {p : Program} {l : Launch} {e : Env} {s : State} {m : MethodId} {args : Array Value} {below : List Frame} {meth : Method} {c : Code} {D : va_G} {cA : Nat → ClassId} {ad : Nat → Nat} (C : Cx p s m args c cX9_choose RX9 7 D cA shM ad zsM) (hlocks : meth.locks = false) (hr : meth.sig.returnType = (some .int)) {Q : Int → St → Prop} {K143 : St → Prop} (hK143 : ∀ (σ : St), K143 σ → G p l e rm_X9_choose s m args below meth c 0 0 7 D cA shM ad (QI D cA shM ad zsM below args s Q) σ [(0, .ref (ad 0))] [] 143) {x5 y0 : Int} {σ : St} (h : wp_X9_choose_B187 K143 x5 y0 Q σ) : G p l e rm_X9_choose s m args below meth c 0 0 7 D cA shM ad (QI D cA shM ad zsM below args s Q) σ [(0, .ref (ad 0)), (5, vI x5)] [vI y0] 187 := by
  unfold wp_X9_choose_B187 at h
  refine g_istore C 6 [(0, .ref (ad 0)), (5, vI x5)] (by decide) rfl dX9_choose_187 ?_
  refine g_iload C 0 6 rfl dX9_choose_189 ?_
  refine g_if_eq C rfl 263 (by decide) dX9_choose_191 (fun hc => ?_) (fun hc => ?_)
  · have h := h.1 hc
    refine g_aload_n C 1 0 rfl rfl dX9_choose_263 ?_
    refine g_aload_n C 1 0 rfl rfl dX9_choose_264 ?_
    refine g_get C iX9 (ci := 9) (o := 0) (v := .ref (ad 27)) rfl rfl 46 (by decide) rfl tw_X9_98 dX9_choose_265 ?_
    refine g_iload C 2 5 rfl dX9_choose_268 ?_
    obtain ⟨hi, h⟩ := h
    refine g_iald C (o := 27) (N := 1400) rfl rfl hi rfl dX9_choose_270 ?_
    refine g_aload_n C 1 0 rfl rfl dX9_choose_271 ?_
    refine g_get C iX9 (ci := 9) (o := 0) (v := .ref (ad 27)) rfl rfl 46 (by decide) rfl tw_X9_98 dX9_choose_272 ?_
    refine g_iload C 2 5 rfl dX9_choose_275 ?_
    refine g_iconst C dX9_choose_277 ?_
    refine g_iadd C dX9_choose_278 ?_
    obtain ⟨hi, h⟩ := h
    refine g_iald C (o := 27) (N := 1400) rfl rfl hi rfl dX9_choose_279 ?_
    refine g_aload_n C 1 0 rfl rfl dX9_choose_280 ?_
    refine g_get C iX9 (ci := 9) (o := 0) (v := .ref (ad 27)) rfl rfl 46 (by decide) rfl tw_X9_98 dX9_choose_281 ?_
    refine g_iload C 2 5 rfl dX9_choose_284 ?_
    refine g_iconst C dX9_choose_286 ?_
    refine g_iadd C dX9_choose_287 ?_
    obtain ⟨hi, h⟩ := h
    refine g_iald C (o := 27) (N := 1400) rfl rfl hi rfl dX9_choose_288 ?_
    refine g_aload_n C 1 0 rfl rfl dX9_choose_289 ?_
    refine g_get C iX9 (ci := 9) (o := 0) (v := .ref (ad 27)) rfl rfl 46 (by decide) rfl tw_X9_98 dX9_choose_290 ?_
    refine g_iload C 2 5 rfl dX9_choose_293 ?_
    refine g_iconst C dX9_choose_295 ?_
    refine g_iadd C dX9_choose_296 ?_
    obtain ⟨hi, h⟩ := h
    refine g_iald C (o := 27) (N := 1400) rfl rfl hi rfl dX9_choose_297 ?_
    refine g_aload_n C 1 0 rfl rfl dX9_choose_298 ?_
    refine g_get C iX9 (ci := 9) (o := 0) (v := .ref (ad 27)) rfl rfl 46 (by decide) rfl tw_X9_98 dX9_choose_299 ?_
    refine g_iload C 2 5 rfl dX9_choose_302 ?_
    refine g_iconst C dX9_choose_304 ?_
    refine g_iadd C dX9_choose_305 ?_
    obtain ⟨hi, h⟩ := h
    refine g_iald C (o := 27) (N := 1400) rfl rfl hi rfl dX9_choose_306 ?_
    refine g_aload_n C 1 0 rfl rfl dX9_choose_307 ?_
    refine g_get C iX9 (ci := 9) (o := 0) (v := .ref (ad 27)) rfl rfl 46 (by decide) rfl tw_X9_98 dX9_choose_308 ?_
    refine g_iload C 2 5 rfl dX9_choose_311 ?_
    refine g_bipush C dX9_choose_313 (by decide) ?_
    refine g_iadd C dX9_choose_315 ?_
    obtain ⟨hi, h⟩ := h
    refine g_iald C (o := 27) (N := 1400) rfl rfl hi rfl dX9_choose_316 ?_
    refine g_aload_n C 1 0 rfl rfl dX9_choose_317 ?_
    refine g_get C iX9 (ci := 9) (o := 0) (v := .ref (ad 28)) rfl rfl 47 (by decide) rfl tw_X9_101 dX9_choose_318 ?_
    refine g_aload_n C 1 0 rfl rfl dX9_choose_321 ?_
    refine g_get C iX9 (ci := 9) (o := 0) (v := vI (σ 0 48)) rfl rfl 48 (by decide) rfl tw_X9_282 dX9_choose_322 ?_
    obtain ⟨hi, h⟩ := h
    refine g_lald C (o := 28) (N := 200) rfl rfl hi rfl dX9_choose_325 ?_
    refine g_callVv C (m_X9_lay l D cA ad h) hv_X9_lay tw_X9_297 (o := 0) (ci := 9) (As := [vI (σ 27 (w32 x5).toNat), vI (σ 27 (w32 (x5 + 1)).toNat), vI (σ 27 (w32 (x5 + 3)).toNat), vI (σ 27 (w32 (x5 + 4)).toNat), vI (σ 27 (w32 (x5 + 5)).toNat), vI (σ 27 (w32 (x5 + 6)).toNat), vL (σ 28 (w32 (σ 0 48)).toNat)]) (st := []) rfl rfl rfl rfl ⟨Nat.le_of_ble_eq_true rfl, Nat.le_of_ble_eq_true rfl⟩ rfl rfl (Nat.le_of_ble_eq_true rfl) dX9_choose_326 (fun σ1 h => ?_)
    try dsimp only at h
    exact g_pick [1] rfl (m_X9_choose_B329 C hlocks hr hK143 h)
  · have h := h.2 hc
    refine g_aload_n C 1 0 rfl rfl dX9_choose_194 ?_
    refine g_aload_n C 1 0 rfl rfl dX9_choose_195 ?_
    refine g_get C iX9 (ci := 9) (o := 0) (v := .ref (ad 27)) rfl rfl 46 (by decide) rfl tw_X9_98 dX9_choose_196 ?_
    refine g_iload C 2 5 rfl dX9_choose_199 ?_
    obtain ⟨hi, h⟩ := h
    refine g_iald C (o := 27) (N := 1400) rfl rfl hi rfl dX9_choose_201 ?_
    refine g_aload_n C 1 0 rfl rfl dX9_choose_202 ?_
    refine g_get C iX9 (ci := 9) (o := 0) (v := .ref (ad 27)) rfl rfl 46 (by decide) rfl tw_X9_98 dX9_choose_203 ?_
    refine g_iload C 2 5 rfl dX9_choose_206 ?_
    refine g_iconst C dX9_choose_208 ?_
    refine g_iadd C dX9_choose_209 ?_
    obtain ⟨hi, h⟩ := h
    refine g_iald C (o := 27) (N := 1400) rfl rfl hi rfl dX9_choose_210 ?_
    refine g_aload_n C 1 0 rfl rfl dX9_choose_211 ?_
    refine g_get C iX9 (ci := 9) (o := 0) (v := .ref (ad 27)) rfl rfl 46 (by decide) rfl tw_X9_98 dX9_choose_212 ?_
    refine g_iload C 2 5 rfl dX9_choose_215 ?_
    refine g_iconst C dX9_choose_217 ?_
    refine g_iadd C dX9_choose_218 ?_
    obtain ⟨hi, h⟩ := h
    refine g_iald C (o := 27) (N := 1400) rfl rfl hi rfl dX9_choose_219 ?_
    refine g_aload_n C 1 0 rfl rfl dX9_choose_220 ?_
    refine g_get C iX9 (ci := 9) (o := 0) (v := .ref (ad 27)) rfl rfl 46 (by decide) rfl tw_X9_98 dX9_choose_221 ?_
    refine g_iload C 2 5 rfl dX9_choose_224 ?_
    refine g_iconst C dX9_choose_226 ?_
    refine g_iadd C dX9_choose_227 ?_
    obtain ⟨hi, h⟩ := h
    refine g_iald C (o := 27) (N := 1400) rfl rfl hi rfl dX9_choose_228 ?_
    refine g_aload_n C 1 0 rfl rfl dX9_choose_229 ?_
    refine g_get C iX9 (ci := 9) (o := 0) (v := .ref (ad 27)) rfl rfl 46 (by decide) rfl tw_X9_98 dX9_choose_230 ?_
    refine g_iload C 2 5 rfl dX9_choose_233 ?_
    refine g_iconst C dX9_choose_235 ?_
    refine g_iadd C dX9_choose_236 ?_
    obtain ⟨hi, h⟩ := h
    refine g_iald C (o := 27) (N := 1400) rfl rfl hi rfl dX9_choose_237 ?_
    refine g_aload_n C 1 0 rfl rfl dX9_choose_238 ?_
    refine g_get C iX9 (ci := 9) (o := 0) (v := .ref (ad 27)) rfl rfl 46 (by decide) rfl tw_X9_98 dX9_choose_239 ?_
    refine g_iload C 2 5 rfl dX9_choose_242 ?_
    refine g_bipush C dX9_choose_244 (by decide) ?_
    refine g_iadd C dX9_choose_246 ?_
    obtain ⟨hi, h⟩ := h
    refine g_iald C (o := 27) (N := 1400) rfl rfl hi rfl dX9_choose_247 ?_
    refine g_aload_n C 1 0 rfl rfl dX9_choose_248 ?_
    refine g_get C iX9 (ci := 9) (o := 0) (v := .ref (ad 28)) rfl rfl 47 (by decide) rfl tw_X9_101 dX9_choose_249 ?_
    refine g_aload_n C 1 0 rfl rfl dX9_choose_252 ?_
    refine g_get C iX9 (ci := 9) (o := 0) (v := vI (σ 0 48)) rfl rfl 48 (by decide) rfl tw_X9_282 dX9_choose_253 ?_
    obtain ⟨hi, h⟩ := h
    refine g_lald C (o := 28) (N := 200) rfl rfl hi rfl dX9_choose_256 ?_
    refine g_callVv C (m_X9_layOn l D cA ad h) hv_X9_layOn tw_X9_293 (o := 0) (ci := 9) (As := [vI (σ 27 (w32 x5).toNat), vI (σ 27 (w32 (x5 + 1)).toNat), vI (σ 27 (w32 (x5 + 3)).toNat), vI (σ 27 (w32 (x5 + 4)).toNat), vI (σ 27 (w32 (x5 + 5)).toNat), vI (σ 27 (w32 (x5 + 6)).toNat), vL (σ 28 (w32 (σ 0 48)).toNat)]) (st := []) rfl rfl rfl rfl ⟨Nat.le_of_ble_eq_true rfl, Nat.le_of_ble_eq_true rfl⟩ rfl rfl (Nat.le_of_ble_eq_true rfl) dX9_choose_257 (fun σ2 h => ?_)
    try dsimp only at h
    refine g_goto C 329 (by decide) dX9_choose_260 ?_
    exact g_pick [1] rfl (m_X9_choose_B329 C hlocks hr hK143 h)
set_option maxRecDepth 100000 in
set_option maxHeartbeats 4000000 in
theorem m_X9_choose_L143 {p : Program} {l : Launch} {e : Env} {s : State} {m : MethodId} {args : Array Value} {below : List Frame} {meth : Method} {c : Code} {D : va_G} {cA : Nat → ClassId} {ad : Nat → Nat} (C : Cx p s m args c cX9_choose RX9 7 D cA shM ad zsM) (hlocks : meth.locks = false) (hr : meth.sig.returnType = (some .int)) {Q : Int → St → Prop} : ∀ (n : Nat) (σ : St), wp_X9_choose_L143 Q n σ → G p l e rm_X9_choose s m args below meth c 0 0 7 D cA shM ad (QI D cA shM ad zsM below args s Q) σ [(0, .ref (ad 0))] [] 143 := by
  intro n
  induction n with
  | zero => intro _ h; exact h.elim
  | succ n ih =>
    intro σ h
    simp only [wp_X9_choose_L143] at h
    refine g_aload_n C 0 0 rfl rfl dX9_choose_143 ?_
    refine g_get C iX9 (ci := 9) (o := 0) (v := vI (σ 0 48)) rfl rfl 48 (by decide) rfl tw_X9_282 dX9_choose_144 ?_
    refine g_if_le C rfl 332 (by decide) dX9_choose_147 (fun hc => ?_) (fun hc => ?_)
    · have h := h.1 hc
      refine g_aload_n C 0 0 rfl rfl dX9_choose_332 ?_
      refine g_callVv C (m_X9_build l D cA ad h) hv_X9_build tw_X9_300 (o := 0) (ci := 9) (As := []) (st := []) rfl rfl rfl rfl ⟨Nat.le_of_ble_eq_true rfl, Nat.le_of_ble_eq_true rfl⟩ rfl rfl (Nat.le_of_ble_eq_true rfl) dX9_choose_333 (fun σ1 h => ?_)
      try dsimp only at h
      refine g_aload_n C 0 0 rfl rfl dX9_choose_336 ?_
      refine g_get C iX9 (ci := 9) (o := 0) (v := vI (σ1 0 42)) rfl rfl 42 (by decide) rfl tw_X9_214 dX9_choose_337 ?_
      exact g_iret C hlocks hr h dX9_choose_340
    · have h := h.2 hc
      refine g_aload_n C 0 0 rfl rfl dX9_choose_150 ?_
      refine g_dup C rfl dX9_choose_151 ?_
      refine g_get C iX9 (ci := 9) (o := 0) (v := vI (σ 0 48)) rfl rfl 48 (by decide) rfl tw_X9_282 dX9_choose_152 ?_
      refine g_iconst C dX9_choose_155 ?_
      refine g_isub C dX9_choose_156 ?_
      refine g_put C iX9 (ci := 9) (o := 0) (z := ((σ 0 48) - 1)) (ty := .int) rfl tyX9_ok nmX9 rfl 48 (by decide) rfl rfl tw_X9_282 rfl (by decide +kernel) rfl rfl dX9_choose_157 (fun σ2 eσ2 => ?_)
      have h := h σ2 eσ2
      refine g_bipush C dX9_choose_160 (by decide) ?_
      refine g_aload_n C 0 0 rfl rfl dX9_choose_162 ?_
      refine g_get C iX9 (ci := 9) (o := 0) (v := vI (σ2 0 48)) rfl rfl 48 (by decide) rfl tw_X9_282 dX9_choose_163 ?_
      refine g_imul C dX9_choose_166 ?_
      refine g_name (fun x_3 ex_3 => ?_)
      have h := h x_3 ex_3
      refine g_istore C 5 [(0, .ref (ad 0))] (by decide) rfl dX9_choose_167 ?_
      refine g_aload_n C 1 0 rfl rfl dX9_choose_169 ?_
      refine g_get C iX9 (ci := 9) (o := 0) (v := .ref (ad 27)) rfl rfl 46 (by decide) rfl tw_X9_98 dX9_choose_170 ?_
      refine g_iload C 0 5 rfl dX9_choose_173 ?_
      refine g_iconst C dX9_choose_175 ?_
      refine g_iadd C dX9_choose_176 ?_
      obtain ⟨hi, h⟩ := h
      refine g_iald C (o := 27) (N := 1400) rfl rfl hi rfl dX9_choose_177 ?_
      refine g_iconst C dX9_choose_178 ?_
      refine g_icmp_ne C (y' := 1) rfl (by decide) 186 (by decide) dX9_choose_179 (fun hc => ?_) (fun hc => ?_)
      · have h := h.1 hc
        refine g_iconst C dX9_choose_186 ?_
        exact g_pick [1, 0] rfl (m_X9_choose_B187 C hlocks hr (fun  _ h => ih  _ h) h)
      · have h := h.2 hc
        refine g_iconst C dX9_choose_182 ?_
        refine g_goto C 187 (by decide) dX9_choose_183 ?_
        exact g_pick [1, 0] rfl (m_X9_choose_B187 C hlocks hr (fun  _ h => ih  _ h) h)
set_option maxRecDepth 100000 in
set_option maxHeartbeats 4000000 in
theorem m_X9_choose_L49 {p : Program} {l : Launch} {e : Env} {s : State} {m : MethodId} {args : Array Value} {below : List Frame} {meth : Method} {c : Code} {D : va_G} {cA : Nat → ClassId} {ad : Nat → Nat} (C : Cx p s m args c cX9_choose RX9 7 D cA shM ad zsM) (hlocks : meth.locks = false) (hr : meth.sig.returnType = (some .int)) {Q : Int → St → Prop} : ∀ (n : Nat) (x2 : Int) (x4 : Int) (σ : St), wp_X9_choose_L49 Q n x2 x4 σ → G p l e rm_X9_choose s m args below meth c 0 0 7 D cA shM ad (QI D cA shM ad zsM below args s Q) σ [(0, .ref (ad 0)), (2, vL x2), (4, vI x4)] [] 49 := by
  intro n
  induction n with
  | zero => intro _ _ _ h; exact h.elim
  | succ n ih =>
    intro x2 x4 σ h
    simp only [wp_X9_choose_L49] at h
    refine g_aload_n C 0 0 rfl rfl dX9_choose_49 ?_
    refine g_iload C 2 4 rfl dX9_choose_50 ?_
    refine g_callIv C (m_X9_isGoal l D cA ad h) hv_X9_isGoal tw_X9_279 (o := 0) (ci := 9) (As := [vI x4]) (st := []) rfl rfl rfl rfl ⟨Nat.le_of_ble_eq_true rfl, Nat.le_of_ble_eq_true rfl⟩ rfl rfl (Nat.le_of_ble_eq_true rfl) dX9_choose_52 (fun r2 σ1 h => ?_)
    try dsimp only at h
    refine g_if_eq C rfl 79 (by decide) dX9_choose_55 (fun hc => ?_) (fun hc => ?_)
    · have h := h.1 hc
      exact g_pick [0, 1, 2] rfl (m_X9_choose_B79 C hlocks hr (fun _ _ _ h => ih _ _ _ h) h)
    · have h := h.2 hc
      refine g_lload_n C 1 2 rfl rfl dX9_choose_58 ?_
      refine g_aload_n C 0 0 rfl rfl dX9_choose_59 ?_
      refine g_bipush C dX9_choose_60 (by decide) ?_
      refine g_iload C 2 4 rfl dX9_choose_62 ?_
      refine g_imul C dX9_choose_64 ?_
      refine g_iconst C dX9_choose_65 ?_
      refine g_iconst C dX9_choose_66 ?_
      refine g_iconst C dX9_choose_67 ?_
      refine g_aload_n C 0 0 rfl rfl dX9_choose_68 ?_
      refine g_get C iX9 (ci := 9) (o := 0) (v := vI (σ1 0 26)) rfl rfl 26 (by decide) rfl tw_X9_220 dX9_choose_69 ?_
      refine g_callLv C (m_X9_lie l D cA ad h) hv_X9_lie tw_X9_229 (o := 0) (ci := 9) (As := [vI (12 * x4), vI 0, vI (-1), vI (-1), vI (σ1 0 26)]) (st := [vL x2]) rfl rfl rfl rfl ⟨Nat.le_of_ble_eq_true rfl, Nat.le_of_ble_eq_true rfl⟩ rfl rfl (Nat.le_of_ble_eq_true rfl) dX9_choose_72 (fun r4 σ3 h => ?_)
      try dsimp only at h
      refine g_lcmp C dX9_choose_75 ?_
      refine g_if_lt C rfl 117 (by decide) dX9_choose_76 (fun hc => ?_) (fun hc => ?_)
      · have h := h.1 hc
        refine g_aload_n C 0 0 rfl rfl dX9_choose_117 ?_
        refine g_iconst C dX9_choose_118 ?_
        refine g_put C iX9 (ci := 9) (o := 0) (z := 0) (ty := .int) rfl tyX9_ok nmX9 rfl 42 (by decide) rfl rfl tw_X9_214 rfl (by decide +kernel) rfl rfl dX9_choose_119 (fun σ5 eσ5 => ?_)
        have h := h σ5 eσ5
        refine g_aload_n C 0 0 rfl rfl dX9_choose_122 ?_
        refine g_iconst C dX9_choose_123 ?_
        refine g_put C iX9 (ci := 9) (o := 0) (z := 0) (ty := .int) rfl tyX9_ok nmX9 rfl 48 (by decide) rfl rfl tw_X9_282 rfl (by decide +kernel) rfl rfl dX9_choose_124 (fun σ6 eσ6 => ?_)
        have h := h σ6 eσ6
        refine g_aload_n C 0 0 rfl rfl dX9_choose_127 ?_
        refine g_iload C 2 4 rfl dX9_choose_128 ?_
        refine g_iconst C dX9_choose_130 ?_
        refine g_iconst C dX9_choose_131 ?_
        refine g_iconst C dX9_choose_132 ?_
        refine g_iconst C dX9_choose_133 ?_
        refine g_iconst C dX9_choose_134 ?_
        refine g_aload_n C 0 0 rfl rfl dX9_choose_135 ?_
        refine g_get C iX9 (ci := 9) (o := 0) (v := vI (σ6 0 26)) rfl rfl 26 (by decide) rfl tw_X9_220 dX9_choose_136 ?_
        refine g_lload_n C 1 2 rfl rfl dX9_choose_139 ?_
        refine g_callVv C (m_X9_takeTree l D cA ad h) hv_X9_takeTree tw_X9_289 (o := 0) (ci := 9) (As := [vI x4, vI (-1), vI (-1), vI 0, vI (-1), vI (-1), vI (σ6 0 26), vL x2]) (st := []) rfl rfl rfl rfl ⟨Nat.le_of_ble_eq_true rfl, Nat.le_of_ble_eq_true rfl⟩ rfl rfl (Nat.le_of_ble_eq_true rfl) dX9_choose_140 (fun σ7 h => ?_)
        try dsimp only at h
        obtain ⟨nn, h⟩ := h
        exact g_pick [0] rfl (m_X9_choose_L143 C hlocks hr nn _ h)
      · have h := h.2 hc
        exact g_pick [0, 1, 2] rfl (m_X9_choose_B79 C hlocks hr (fun _ _ _ h => ih _ _ _ h) h)
set_option maxRecDepth 100000 in
set_option maxHeartbeats 4000000 in
theorem m_X9_choose_B31 {p : Program} {l : Launch} {e : Env} {s : State} {m : MethodId} {args : Array Value} {below : List Frame} {meth : Method} {c : Code} {D : va_G} {cA : Nat → ClassId} {ad : Nat → Nat} (C : Cx p s m args c cX9_choose RX9 7 D cA shM ad zsM) (hlocks : meth.locks = false) (hr : meth.sig.returnType = (some .int)) {Q : Int → St → Prop} {x1 y1 : Int} {σ : St} (h : wp_X9_choose_B31 x1 y1 Q σ) : G p l e rm_X9_choose s m args below meth c 0 0 7 D cA shM ad (QI D cA shM ad zsM below args s Q) σ [(0, .ref (ad 0)), (1, vI x1)] [vI y1, .ref (ad 0)] 31 := by
  unfold wp_X9_choose_B31 at h
  refine g_put C iX9 (ci := 9) (o := 0) (z := y1) (ty := .int) rfl tyX9_ok nmX9 rfl 0 (by decide) rfl rfl tw_X9_107 rfl (by decide +kernel) rfl rfl dX9_choose_31 (fun σ1 eσ1 => ?_)
  have h := h σ1 eσ1
  refine g_aload_n C 0 0 rfl rfl dX9_choose_34 ?_
  refine g_get C iX9 (ci := 9) (o := 0) (v := vI (σ1 0 0)) rfl rfl 0 (by decide) rfl tw_X9_107 dX9_choose_35 ?_
  refine g_if_le C rfl 43 (by decide) dX9_choose_38 (fun hc => ?_) (fun hc => ?_)
  · have h := h.1 hc
    refine g_iload_n C 1 1 rfl rfl dX9_choose_43 ?_
    refine g_i2l C rfl dX9_choose_44 ?_
    refine g_nameL (fun x_2 ex_2 => ?_)
    have h := h x_2 ex_2
    refine g_lstore_n C 2 [(0, .ref (ad 0)), (1, vI x1)] rfl (by decide) rfl dX9_choose_45 ?_
    refine g_iconst C dX9_choose_46 ?_
    refine g_istore C 4 [(2, vL x_2), (0, .ref (ad 0)), (1, vI x1)] (by decide) rfl dX9_choose_47 ?_
    obtain ⟨nn, h⟩ := h
    exact g_pick [2, 1, 0] rfl (m_X9_choose_L49 C hlocks hr nn _ _ _ h)
  · have h := h.2 hc
    refine g_iconst C dX9_choose_41 ?_
    exact g_iret C hlocks hr h dX9_choose_42
set_option maxRecDepth 100000 in
set_option maxHeartbeats 4000000 in
theorem m_X9_choose_B26 {p : Program} {l : Launch} {e : Env} {s : State} {m : MethodId} {args : Array Value} {below : List Frame} {meth : Method} {c : Code} {D : va_G} {cA : Nat → ClassId} {ad : Nat → Nat} (C : Cx p s m args c cX9_choose RX9 7 D cA shM ad zsM) (hlocks : meth.locks = false) (hr : meth.sig.returnType = (some .int)) {Q : Int → St → Prop} {x1 : Int} {σ : St} (h : wp_X9_choose_B26 x1 Q σ) : G p l e rm_X9_choose s m args below meth c 0 0 7 D cA shM ad (QI D cA shM ad zsM below args s Q) σ [(0, .ref (ad 0)), (1, vI x1)] [.ref (ad 0)] 26 := by
  unfold wp_X9_choose_B26 at h
  refine g_iconst C dX9_choose_26 ?_
  refine g_goto C 31 (by decide) dX9_choose_27 ?_
  exact g_pick [0, 1] rfl (m_X9_choose_B31 C hlocks hr h)
set_option maxRecDepth 100000 in
set_option maxHeartbeats 4000000 in
theorem m_X9_choose_E {p : Program} {l : Launch} {e : Env} {s : State} {m : MethodId} {args : Array Value} {below : List Frame} {meth : Method} {c : Code} {D : va_G} {cA : Nat → ClassId} {ad : Nat → Nat} (C : Cx p s m args c cX9_choose RX9 7 D cA shM ad zsM) (hlocks : meth.locks = false) (hr : meth.sig.returnType = (some .int)) {Q : Int → St → Prop} {a1 : Int} {σ : St} (h : wp_X9_choose a1 Q σ) : G p l e rm_X9_choose s m args below meth c 0 0 7 D cA shM ad (QI D cA shM ad zsM below args s Q) σ [(0, .ref (ad 0)), (1, vI a1)] [] 0 := by
  unfold wp_X9_choose at h
  refine g_aload_n C 0 0 rfl rfl dX9_choose_0 ?_
  refine g_aload_n C 0 0 rfl rfl dX9_choose_1 ?_
  refine g_get C iX9 (ci := 9) (o := 0) (v := vI (σ 0 35)) rfl rfl 35 (by decide) rfl tw_X9_210 dX9_choose_2 ?_
  refine g_if_ne C rfl 12 (by decide) dX9_choose_5 (fun hc => ?_) (fun hc => ?_)
  · have h := h.1 hc
    refine g_iload_n C 1 1 rfl rfl dX9_choose_12 ?_
    refine g_if_lt C rfl 26 (by decide) dX9_choose_13 (fun hc => ?_) (fun hc => ?_)
    · have h := h.1 hc
      exact g_pick [0, 1] rfl (m_X9_choose_B26 C hlocks hr h)
    · have h := h.2 hc
      refine g_iload_n C 1 1 rfl rfl dX9_choose_16 ?_
      refine g_i2l C rfl dX9_choose_17 ?_
      refine g_aload_n C 0 0 rfl rfl dX9_choose_18 ?_
      refine g_get C iX9 (ci := 9) (o := 0) (v := vL (σ 0 36)) rfl rfl 36 (by decide) rfl tw_X9_71 dX9_choose_19 ?_
      refine g_lcmp C dX9_choose_22 ?_
      refine g_if_lt C rfl 30 (by decide) dX9_choose_23 (fun hc => ?_) (fun hc => ?_)
      · have h := h.1 hc
        refine g_iconst C dX9_choose_30 ?_
        exact g_pick [0, 1] rfl (m_X9_choose_B31 C hlocks hr h)
      · have h := h.2 hc
        exact g_pick [0, 1] rfl (m_X9_choose_B26 C hlocks hr h)
  · have h := h.2 hc
    refine g_iconst C dX9_choose_8 ?_
    refine g_goto C 31 (by decide) dX9_choose_9 ?_
    exact g_pick [0, 1] rfl (m_X9_choose_B31 C hlocks hr h)
set_option maxRecDepth 100000 in
set_option maxHeartbeats 4000000 in
theorem m_X9_choose (l : Launch) (D : va_G) (cA : Nat → ClassId) (ad : Nat → Nat) {a1 : Int} {Q : Int → St → Prop} {σ : St} (h : wp_X9_choose a1 Q σ) : CtI l yX9_choose (.code yX9_choose cX9_choose 7 (some .int)) rm_X9_choose D cA shM ad zsM [.ref (ad 0), vI a1] σ Q :=
  ct_I RX9 (by decide +kernel) rfl (Nat.le_of_ble_eq_true rfl) (fun p e s m args below meth c C hlocks hr => m_X9_choose_E C hlocks hr h)
