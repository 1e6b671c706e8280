/-! the law's own methods -/
theorem emb_of {sub pre post : List Sh} : Emb sub (pre ++ sub.map (shf pre.length) ++ post) pre.length := by
  refine ⟨by simp, fun o q hq => ?_⟩
  have ho : o < sub.length := (List.getElem?_eq_some_iff.mp hq).1
  rw [List.append_assoc, List.getElem?_append_right (by omega), Nat.add_sub_cancel_left, List.getElem?_append_left (by simpa using ho), List.getElem?_map, hq]
  rfl
def shA : List Sh := shC.map (shf 0) ++ shM.map (shf 30) ++ [(4, 1, [])]
theorem embC : Emb shC shA 0 := by
  have h := emb_of (sub := shC) (pre := []) (post := shM.map (shf 30) ++ [(4, 1, [])])
  have e : shA = [] ++ shC.map (shf 0) ++ (shM.map (shf 30) ++ [(4, 1, [])]) := by unfold shA; rw [List.append_assoc, List.nil_append]
  rw [e]
  exact h
theorem embM : Emb shM shA 30 := emb_of (sub := shM) (pre := shC.map (shf 0)) (post := [(4, 1, [])])
/-- what a method of the law's own answers, out of what the class's answers -/
def HQ (cd : Nat → Int) (σ : St) (Q : Nat → Int → St → Prop) (k' : Int) (σ' : St) : Prop := ∃ (k : Nat) (z : Int) (u : St), Q k z u ∧ k' = cd k ∧ (k = 0 ∨ cd k ≠ 0) ∧ (∀ o q, o < 30 → σ' o q = u o q) ∧ (∀ o q, 30 ≤ o → o < 60 → σ' o q = σ o q) ∧ (k = 0 → σ' 60 0 = w32 z)
theorem put_C {σ u : St} {o q : Nat} (h : o < 30) : put σ u 0 shC.length o q = u o q := by
  unfold put
  rw [if_pos ⟨Nat.zero_le _, by rw [Nat.zero_add]; exact h⟩, Nat.sub_zero]
theorem put_M {σ u : St} {o q : Nat} (h : 30 ≤ o) : put σ u 0 shC.length o q = σ o q := by
  unfold put
  rw [if_neg (fun z => by have : o < 0 + 30 := z.2; omega)]
theorem HQ_n {cd : Nat → Int} {σ σ1 u : St} {Q : Nat → Int → St → Prop} {z : Int} (hc : 0 = cd 0) (hq : Q 0 z u) (e : σ1 = su (put σ u 0 shC.length) 60 0 (w32 z)) : HQ cd σ Q 0 σ1 := by
  refine ⟨0, z, u, hq, hc, Or.inl rfl, fun o q h => ?_, fun o q h1 h2 => ?_, fun _ => by rw [e, su_at]⟩
  · rw [e, su_ko _ _ (fun z => by omega)]; exact put_C h
  · rw [e, su_ko _ _ (fun z => by omega)]; exact put_M h1
theorem HQ_t {cd : Nat → Int} {σ u : St} {Q : Nat → Int → St → Prop} {k : Nat} {k' : Int} (hk : k ≠ 0) (hc : k' = cd k) (hn : cd k ≠ 0) (hq : Q k 0 u) : HQ cd σ Q k' (put σ u 0 shC.length) := ⟨k, 0, u, hq, hc, Or.inr hn, fun _ _ h => put_C h, fun _ _ h1 _ => put_M h1, fun z => absurd z hk⟩
def HV (cd : Nat → Int) (σ : St) (Q : Nat → Int → St → Prop) (k' : Int) (σ' : St) : Prop := ∃ (k : Nat) (z : Int) (u : St), Q k z u ∧ k' = cd k ∧ (∀ o q, o < 30 → σ' o q = u o q) ∧ (∀ o q, 30 ≤ o → o < 60 → σ' o q = σ o q)
theorem HV_v {cd : Nat → Int} {σ u : St} {Q : Nat → Int → St → Prop} (hc : 0 = cd 0) (hq : Q 0 0 u) : HV cd σ Q 0 (put σ u 0 shC.length) := ⟨0, 0, u, hq, hc, fun _ _ h => put_C h, fun _ _ h1 _ => put_M h1⟩
theorem HV_t {cd : Nat → Int} {σ u : St} {Q : Nat → Int → St → Prop} {k : Nat} {k' : Int} (hk : k ≠ 0) (hc : k' = cd k) (hn : cd k ≠ 0) (hq : Q k 0 u) : HV cd σ Q k' (put σ u 0 shC.length) := ⟨k, 0, u, hq, hc, fun _ _ h => put_C h, fun _ _ h1 _ => put_M h1⟩
theorem tl_13 : Cond.classLink RL 13 (XE 1) ∈ TBL := (tbl_at 616 (by decide +kernel) (by decide +kernel))
theorem tl_19 : Cond.classLink RL 19 (XE 2) ∈ TBL := (tbl_at 697 (by decide +kernel) (by decide +kernel))
theorem tl_25 : Cond.classLink RL 25 (XE 3) ∈ TBL := (tbl_at 721 (by decide +kernel) (by decide +kernel))
theorem tl_27 : Cond.classLink RL 27 (XE 4) ∈ TBL := (tbl_at 722 (by decide +kernel) (by decide +kernel))
abbrev rm_L_feed : Room := { frames := 7, cells := 1, slots := 6, locals := 125 }
set_option maxRecDepth 100000 in
theorem hv_X8_feed : MV RX8 yX8_feed cX8_feed 6 (some .int) 5 := ⟨⟨(tbl_at 618 (by decide +kernel) (by decide +kernel)), (tbl_at 619 (by decide +kernel) (by decide +kernel))⟩, (tbl_at 1 (by decide +kernel) (by decide +kernel)), (tbl_at 620 rfl rfl), by decide, by decide, by decide +kernel⟩
theorem tl_m7 : Cond.methodLink RL 7 yX8_feed ∈ TBL := (tbl_at 617 (by decide +kernel) (by decide +kernel))
abbrev rm_L_end : Room := { frames := 7, cells := 1, slots := 6, locals := 121 }
set_option maxRecDepth 100000 in
theorem hv_X8_end : MV RX8 yX8_end cX8_end 2 none 1 := ⟨⟨(tbl_at 699 (by decide +kernel) (by decide +kernel)), (tbl_at 700 (by decide +kernel) (by decide +kernel))⟩, (tbl_at 1 (by decide +kernel) (by decide +kernel)), (tbl_at 701 rfl rfl), by decide, by decide, by decide +kernel⟩
theorem tl_m15 : Cond.methodLink RL 15 yX8_end ∈ TBL := (tbl_at 698 (by decide +kernel) (by decide +kernel))
abbrev rm_L_choose : Room := { frames := 18, cells := 1, slots := 6, locals := 447 }
set_option maxRecDepth 100000 in
theorem hv_X8_choose : MV RX8 yX8_choose cX8_choose 2 (some .int) 1 := ⟨⟨(tbl_at 724 (by decide +kernel) (by decide +kernel)), (tbl_at 725 (by decide +kernel) (by decide +kernel))⟩, (tbl_at 1 (by decide +kernel) (by decide +kernel)), (tbl_at 726 rfl rfl), by decide, by decide, by decide +kernel⟩
theorem tl_m21 : Cond.methodLink RL 21 yX8_choose ∈ TBL := (tbl_at 723 (by decide +kernel) (by decide +kernel))
abbrev rm_L_use : Room := { frames := 7, cells := 1, slots := 6, locals := 122 }
set_option maxRecDepth 100000 in
theorem hv_X8_use : MV RX8 yX8_use cX8_use 3 (some .int) 2 := ⟨⟨(tbl_at 846 (by decide +kernel) (by decide +kernel)), (tbl_at 847 (by decide +kernel) (by decide +kernel))⟩, (tbl_at 1 (by decide +kernel) (by decide +kernel)), (tbl_at 848 rfl rfl), by decide, by decide, by decide +kernel⟩
theorem tl_m29 : Cond.methodLink RL 29 yX8_use ∈ TBL := (tbl_at 845 (by decide +kernel) (by decide +kernel))
abbrev rm_L_whole : Room := { frames := 7, cells := 1, slots := 6, locals := 122 }
set_option maxRecDepth 100000 in
theorem hv_X8_whole : MV RX8 yX8_whole cX8_whole 3 (some .int) 2 := ⟨⟨(tbl_at 856 (by decide +kernel) (by decide +kernel)), (tbl_at 857 (by decide +kernel) (by decide +kernel))⟩, (tbl_at 1 (by decide +kernel) (by decide +kernel)), (tbl_at 858 rfl rfl), by decide, by decide, by decide +kernel⟩
theorem tl_m33 : Cond.methodLink RL 33 yX8_whole ∈ TBL := (tbl_at 855 (by decide +kernel) (by decide +kernel))
abbrev rm_L_node : Room := { frames := 7, cells := 1, slots := 6, locals := 123 }
set_option maxRecDepth 100000 in
theorem hv_X8_node : MV RX8 yX8_node cX8_node 4 (some .int) 3 := ⟨⟨(tbl_at 869 (by decide +kernel) (by decide +kernel)), (tbl_at 870 (by decide +kernel) (by decide +kernel))⟩, (tbl_at 1 (by decide +kernel) (by decide +kernel)), (tbl_at 871 rfl rfl), by decide, by decide, by decide +kernel⟩
theorem tl_m36 : Cond.methodLink RL 36 yX8_node ∈ TBL := (tbl_at 868 (by decide +kernel) (by decide +kernel))
abbrev rm_L_letter : Room := { frames := 7, cells := 1, slots := 6, locals := 124 }
set_option maxRecDepth 100000 in
theorem hv_X8_letter : MV RX8 yX8_letter cX8_letter 5 (some .int) 3 := ⟨⟨(tbl_at 880 (by decide +kernel) (by decide +kernel)), (tbl_at 881 (by decide +kernel) (by decide +kernel))⟩, (tbl_at 1 (by decide +kernel) (by decide +kernel)), (tbl_at 882 rfl rfl), by decide, by decide, by decide +kernel⟩
theorem tl_m40 : Cond.methodLink RL 40 yX8_letter ∈ TBL := (tbl_at 879 (by decide +kernel) (by decide +kernel))
abbrev rm_L_count : Room := { frames := 7, cells := 1, slots := 6, locals := 121 }
set_option maxRecDepth 100000 in
theorem hv_X8_count : MV RX8 yX8_count cX8_count 2 (some .int) 1 := ⟨⟨(tbl_at 889 (by decide +kernel) (by decide +kernel)), (tbl_at 890 (by decide +kernel) (by decide +kernel))⟩, (tbl_at 1 (by decide +kernel) (by decide +kernel)), (tbl_at 891 rfl rfl), by decide, by decide, by decide +kernel⟩
theorem tl_m44 : Cond.methodLink RL 44 yX8_count ∈ TBL := (tbl_at 888 (by decide +kernel) (by decide +kernel))
set_option maxRecDepth 100000 in
set_option maxHeartbeats 4000000 in
theorem m_L_feed_E {p : Program} {l : Launch} {e : Env} {s : State} {m : MethodId} {args : Array Value} {below : List Frame} {meth : Method} {c : Code} {D : va_G} {cA : Nat → ClassId} {ad : Nat → Nat} (hst : l.stackTraces = false) (C : Cx p s m args c cL_feed RL 8 D cA shA ad zsC) (TH : Th (A0 shA ad s.heap.size) s s.heap) (NK : Nk s) (ht : c.exceptionTable.toList = tableOf [(0, 16, 19, 13)]) (hlocks : meth.locks = false) (hr : meth.sig.returnType = (some .int)) {Q : Nat → Int → St → Prop} {a1 a2 a3 a4 a5 : Int} {σ : St} (h : wp_X8_feed a1 a2 a3 a4 a5 Q (fun o => σ (0 + o))) : G p l e rm_L_feed s m args below meth c 0 0 8 D cA shA ad (QH D cA shA ad zsC below args s (HQ cd1 σ Q)) σ [(0, .ref (ad 0)), (1, vI a1), (2, vI a2), (3, vI a3), (4, vI a4), (5, vI a5), (6, .ref (ad 60))] [] 0 := by
  refine g_aload C 6 6 rfl dL_feed_0 ?_
  refine g_iconst C dL_feed_2 ?_
  refine g_aload_n C 0 0 rfl rfl dL_feed_3 ?_
  refine g_iload_n C 1 1 rfl rfl dL_feed_4 ?_
  refine g_iload_n C 2 2 rfl rfl dL_feed_5 ?_
  refine g_iload_n C 3 3 rfl rfl dL_feed_6 ?_
  refine g_iload C 4 4 rfl dL_feed_7 ?_
  refine g_iload C 5 5 rfl dL_feed_9 ?_
  refine g_callX C TH (lift_X embC (fun _ h => h) (m_X8_feed l D cA (fun k => ad (0 + k)) hst h)) hv_X8_feed tl_m7 (o := 0) (ci := 8) (As := [vI a1, vI a2, vI a3, vI a4, vI a5]) (st := [vI 0, .ref (ad 60)]) rfl rfl rfl rfl ⟨Nat.le_of_ble_eq_true rfl, Nat.le_of_ble_eq_true rfl⟩ ⟨Nat.le_refl _, Nat.le_refl _⟩ rfl rfl (Nat.le_of_ble_eq_true rfl) dL_feed_11 (fun k => if k = 1 then 19 else 0) (fun k hk => ?_) (fun k hk σ1 hq q9 => ?_) (fun z σ1 hq => ?_)
  · cases List.mem_singleton.mp hk
    exact ⟨[], _, _, ht, (fun _ hz => nomatch hz), by decide, by decide, tl_13, rfl⟩
  · cases List.mem_singleton.mp hk
    obtain ⟨u, hq, e⟩ := hq
    subst e
    show G _ _ _ _ _ _ _ _ _ _ _ _ _ _ _ _ _ _ _ _ _ 19
    refine g_astore C 7 [(0, .ref (ad 0)), (1, vI a1), (2, vI a2), (3, vI a3), (4, vI a4), (5, vI a5), (6, .ref (ad 60))] (by decide) rfl dL_feed_19 ?_
    refine g_iconst C dL_feed_21 ?_
    exact g_iretH C hlocks hr (HQ_t (k := 1) (by decide) (by decide) (by decide) hq) dL_feed_22
  · obtain ⟨u, hq, e⟩ := hq
    subst e
    refine g_i2l C rfl dL_feed_14 ?_
    refine g_last C (o := 60) (n := 1) (N := 1) (j := 0) rfl rfl (by decide) (by decide) dL_feed_15 (fun σ2 e2 => ?_)
    refine g_goto C 23 (by decide) dL_feed_16 ?_
    refine g_iconst C dL_feed_23 ?_
    exact g_iretH C hlocks hr (HQ_n rfl hq e2) dL_feed_24
theorem m_L_feed (l : Launch) (hst : l.stackTraces = false) (D : va_G) (cA : Nat → ClassId) (ad : Nat → Nat) {a1 a2 a3 a4 a5 : Int} {Q : Nat → Int → St → Prop} {σ : St} (h : wp_X8_feed a1 a2 a3 a4 a5 Q (fun o => σ (0 + o))) : CtH l yL_feed (.codeWith yL_feed cL_feed 8 (some .int) [(0, 16, 19, 13)]) rm_L_feed D cA shA ad zsC [.ref (ad 0), vI a1, vI a2, vI a3, vI a4, vI a5, .ref (ad 60)] σ (HQ cd1 σ Q) := ct_H RL (by decide +kernel) rfl (Nat.le_of_ble_eq_true rfl) (fun p e s m args below meth c C TH NK ht hlocks hr => m_L_feed_E hst C TH NK ht hlocks hr h)
set_option maxRecDepth 100000 in
set_option maxHeartbeats 4000000 in
theorem m_L_end_E {p : Program} {l : Launch} {e : Env} {s : State} {m : MethodId} {args : Array Value} {below : List Frame} {meth : Method} {c : Code} {D : va_G} {cA : Nat → ClassId} {ad : Nat → Nat} (hst : l.stackTraces = false) (C : Cx p s m args c cL_end RL 3 D cA shA ad zsC) (TH : Th (A0 shA ad s.heap.size) s s.heap) (NK : Nk s) (ht : c.exceptionTable.toList = tableOf [(0, 5, 8, 19)]) (hlocks : meth.locks = false) (hr : meth.sig.returnType = (some .int)) {Q : Nat → Int → St → Prop} {a1 : Int} {σ : St} (h : wp_X8_end a1 Q (fun o => σ (0 + o))) : G p l e rm_L_end s m args below meth c 0 0 3 D cA shA ad (QH D cA shA ad zsC below args s (HV cd1 σ Q)) σ [(0, .ref (ad 0)), (1, vI a1)] [] 0 := by
  refine g_aload_n C 0 0 rfl rfl dL_end_0 ?_
  refine g_iload_n C 1 1 rfl rfl dL_end_1 ?_
  refine g_callY C TH (lift_Y embC (fun _ h => h) (m_X8_end l D cA (fun k => ad (0 + k)) hst h)) hv_X8_end tl_m15 (o := 0) (ci := 8) (As := [vI a1]) (st := []) rfl rfl rfl rfl ⟨Nat.le_of_ble_eq_true rfl, Nat.le_of_ble_eq_true rfl⟩ ⟨Nat.le_refl _, Nat.le_refl _⟩ rfl rfl (Nat.le_of_ble_eq_true rfl) dL_end_2 (fun k => if k = 2 then 8 else 0) (fun k hk => ?_) (fun k hk σ1 hq q9 => ?_) (fun σ1 hq => ?_)
  · cases List.mem_singleton.mp hk
    exact ⟨[], _, _, ht, (fun _ hz => nomatch hz), by decide, by decide, tl_19, rfl⟩
  · cases List.mem_singleton.mp hk
    obtain ⟨u, hq, e⟩ := hq
    subst e
    show G _ _ _ _ _ _ _ _ _ _ _ _ _ _ _ _ _ _ _ _ _ 8
    refine g_astore_n C 2 [(0, .ref (ad 0)), (1, vI a1)] rfl (by decide) rfl dL_end_8 ?_
    refine g_iconst C dL_end_9 ?_
    exact g_iretH C hlocks hr (HV_t (k := 2) (by decide) (by decide) (by decide) hq) dL_end_10
  · obtain ⟨u, hq, e⟩ := hq
    subst e
    refine g_goto C 11 (by decide) dL_end_5 ?_
    refine g_iconst C dL_end_11 ?_
    exact g_iretH C hlocks hr (HV_v rfl hq) dL_end_12
theorem m_L_end (l : Launch) (hst : l.stackTraces = false) (D : va_G) (cA : Nat → ClassId) (ad : Nat → Nat) {a1 : Int} {Q : Nat → Int → St → Prop} {σ : St} (h : wp_X8_end a1 Q (fun o => σ (0 + o))) : CtH l yL_end (.codeWith yL_end cL_end 3 (some .int) [(0, 5, 8, 19)]) rm_L_end D cA shA ad zsC [.ref (ad 0), vI a1] σ (HV cd1 σ Q) := ct_H RL (by decide +kernel) rfl (Nat.le_of_ble_eq_true rfl) (fun p e s m args below meth c C TH NK ht hlocks hr => m_L_end_E hst C TH NK ht hlocks hr h)
set_option maxRecDepth 100000 in
set_option maxHeartbeats 4000000 in
theorem m_L_choose_E {p : Program} {l : Launch} {e : Env} {s : State} {m : MethodId} {args : Array Value} {below : List Frame} {meth : Method} {c : Code} {D : va_G} {cA : Nat → ClassId} {ad : Nat → Nat} (hst : l.stackTraces = false) (C : Cx p s m args c cL_choose RL 4 D cA shA ad zsC) (TH : Th (A0 shA ad s.heap.size) s s.heap) (NK : Nk s) (ht : c.exceptionTable.toList = tableOf [(0, 9, 12, 25), (0, 9, 15, 27)]) (hlocks : meth.locks = false) (hr : meth.sig.returnType = (some .int)) {Q : Nat → Int → St → Prop} {a1 : Int} {σ : St} (h : wp_X8_choose a1 Q (fun o => σ (0 + o))) : G p l e rm_L_choose s m args below meth c 0 0 4 D cA shA ad (QH D cA shA ad zsC below args s (HQ cdC σ Q)) σ [(0, .ref (ad 0)), (1, vI a1), (2, .ref (ad 60))] [] 0 := by
  refine g_aload_n C 2 2 rfl rfl dL_choose_0 ?_
  refine g_iconst C dL_choose_1 ?_
  refine g_aload_n C 0 0 rfl rfl dL_choose_2 ?_
  refine g_iload_n C 1 1 rfl rfl dL_choose_3 ?_
  refine g_callX C TH (lift_X embC (fun _ h => h) (m_X8_choose l D cA (fun k => ad (0 + k)) hst h)) hv_X8_choose tl_m21 (o := 0) (ci := 8) (As := [vI a1]) (st := [vI 0, .ref (ad 60)]) rfl rfl rfl rfl ⟨Nat.le_of_ble_eq_true rfl, Nat.le_of_ble_eq_true rfl⟩ ⟨Nat.le_refl _, Nat.le_refl _⟩ rfl rfl (Nat.le_of_ble_eq_true rfl) dL_choose_4 (fun k => if k = 3 then 12 else if k = 4 then 15 else 0) (fun k hk => ?_) (fun k hk σ1 hq q9 => ?_) (fun z σ1 hq => ?_)
  · rcases List.mem_cons.mp hk with hk | hk
    · subst hk
      exact ⟨[], _, _, ht, (fun _ hz => nomatch hz), by decide, by decide, tl_25, rfl⟩
    · cases List.mem_singleton.mp hk
      exact ⟨[_], _, _, ht, (fun z hz => by
      cases List.mem_singleton.mp hz
      exact Or.inr ⟨by decide, XE 3, tl_25, NK.1⟩), by decide, by decide, tl_27, rfl⟩
  · rcases List.mem_cons.mp hk with hk | hk
    · subst hk
      obtain ⟨u, hq, e⟩ := hq
      subst e
      show G _ _ _ _ _ _ _ _ _ _ _ _ _ _ _ _ _ _ _ _ _ 12
      refine g_astore_n C 3 [(0, .ref (ad 0)), (1, vI a1), (2, .ref (ad 60))] rfl (by decide) rfl dL_choose_12 ?_
      refine g_iconst C dL_choose_13 ?_
      exact g_iretH C hlocks hr (HQ_t (k := 3) (by decide) (by decide) (by decide) hq) dL_choose_14
    · cases List.mem_singleton.mp hk
      obtain ⟨u, hq, e⟩ := hq
      subst e
      show G _ _ _ _ _ _ _ _ _ _ _ _ _ _ _ _ _ _ _ _ _ 15
      refine g_astore_n C 3 [(0, .ref (ad 0)), (1, vI a1), (2, .ref (ad 60))] rfl (by decide) rfl dL_choose_15 ?_
      refine g_iconst C dL_choose_16 ?_
      exact g_iretH C hlocks hr (HQ_t (k := 4) (by decide) (by decide) (by decide) hq) dL_choose_17
  · obtain ⟨u, hq, e⟩ := hq
    subst e
    refine g_i2l C rfl dL_choose_7 ?_
    refine g_last C (o := 60) (n := 1) (N := 1) (j := 0) rfl rfl (by decide) (by decide) dL_choose_8 (fun σ2 e2 => ?_)
    refine g_goto C 18 (by decide) dL_choose_9 ?_
    refine g_iconst C dL_choose_18 ?_
    exact g_iretH C hlocks hr (HQ_n rfl hq e2) dL_choose_19
theorem m_L_choose (l : Launch) (hst : l.stackTraces = false) (D : va_G) (cA : Nat → ClassId) (ad : Nat → Nat) {a1 : Int} {Q : Nat → Int → St → Prop} {σ : St} (h : wp_X8_choose a1 Q (fun o => σ (0 + o))) : CtH l yL_choose (.codeWith yL_choose cL_choose 4 (some .int) [(0, 9, 12, 25), (0, 9, 15, 27)]) rm_L_choose D cA shA ad zsC [.ref (ad 0), vI a1, .ref (ad 60)] σ (HQ cdC σ Q) := ct_H RL (by decide +kernel) rfl (Nat.le_of_ble_eq_true rfl) (fun p e s m args below meth c C TH NK ht hlocks hr => m_L_choose_E hst C TH NK ht hlocks hr h)
set_option maxRecDepth 100000 in
set_option maxHeartbeats 4000000 in
theorem m_L_use_E {p : Program} {l : Launch} {e : Env} {s : State} {m : MethodId} {args : Array Value} {below : List Frame} {meth : Method} {c : Code} {D : va_G} {cA : Nat → ClassId} {ad : Nat → Nat} (hst : l.stackTraces = false) (C : Cx p s m args c cL_use RL 5 D cA shA ad zsC) (TH : Th (A0 shA ad s.heap.size) s s.heap) (NK : Nk s) (ht : c.exceptionTable.toList = tableOf [(0, 10, 13, 27), (0, 10, 17, 19)]) (hlocks : meth.locks = false) (hr : meth.sig.returnType = (some .int)) {Q : Nat → Int → St → Prop} {a1 a2 : Int} {σ : St} (h : wp_X8_use a1 a2 Q (fun o => σ (0 + o))) : G p l e rm_L_use s m args below meth c 0 0 5 D cA shA ad (QH D cA shA ad zsC below args s (HQ cdU σ Q)) σ [(0, .ref (ad 0)), (1, vI a1), (2, vI a2), (3, .ref (ad 60))] [] 0 := by
  refine g_aload_n C 3 3 rfl rfl dL_use_0 ?_
  refine g_iconst C dL_use_1 ?_
  refine g_aload_n C 0 0 rfl rfl dL_use_2 ?_
  refine g_iload_n C 1 1 rfl rfl dL_use_3 ?_
  refine g_iload_n C 2 2 rfl rfl dL_use_4 ?_
  refine g_callX C TH (lift_X embC (fun _ h => h) (m_X8_use l D cA (fun k => ad (0 + k)) hst h)) hv_X8_use tl_m29 (o := 0) (ci := 8) (As := [vI a1, vI a2]) (st := [vI 0, .ref (ad 60)]) rfl rfl rfl rfl ⟨Nat.le_of_ble_eq_true rfl, Nat.le_of_ble_eq_true rfl⟩ ⟨Nat.le_refl _, Nat.le_refl _⟩ rfl rfl (Nat.le_of_ble_eq_true rfl) dL_use_5 (fun k => if k = 2 then 17 else if k = 4 then 13 else 0) (fun k hk => ?_) (fun k hk σ1 hq q9 => ?_) (fun z σ1 hq => ?_)
  · rcases List.mem_cons.mp hk with hk | hk
    · subst hk
      exact ⟨[_], _, _, ht, (fun z hz => by
      cases List.mem_singleton.mp hz
      exact Or.inr ⟨by decide, XE 4, tl_27, NK.2⟩), by decide, by decide, tl_19, rfl⟩
    · cases List.mem_singleton.mp hk
      exact ⟨[], _, _, ht, (fun _ hz => nomatch hz), by decide, by decide, tl_27, rfl⟩
  · rcases List.mem_cons.mp hk with hk | hk
    · subst hk
      obtain ⟨u, hq, e⟩ := hq
      subst e
      show G _ _ _ _ _ _ _ _ _ _ _ _ _ _ _ _ _ _ _ _ _ 17
      refine g_astore C 4 [(0, .ref (ad 0)), (1, vI a1), (2, vI a2), (3, .ref (ad 60))] (by decide) rfl dL_use_17 ?_
      refine g_iconst C dL_use_19 ?_
      exact g_iretH C hlocks hr (HQ_t (k := 2) (by decide) (by decide) (by decide) hq) dL_use_20
    · cases List.mem_singleton.mp hk
      obtain ⟨u, hq, e⟩ := hq
      subst e
      show G _ _ _ _ _ _ _ _ _ _ _ _ _ _ _ _ _ _ _ _ _ 13
      refine g_astore C 4 [(0, .ref (ad 0)), (1, vI a1), (2, vI a2), (3, .ref (ad 60))] (by decide) rfl dL_use_13 ?_
      refine g_iconst C dL_use_15 ?_
      exact g_iretH C hlocks hr (HQ_t (k := 4) (by decide) (by decide) (by decide) hq) dL_use_16
  · obtain ⟨u, hq, e⟩ := hq
    subst e
    refine g_i2l C rfl dL_use_8 ?_
    refine g_last C (o := 60) (n := 1) (N := 1) (j := 0) rfl rfl (by decide) (by decide) dL_use_9 (fun σ2 e2 => ?_)
    refine g_goto C 21 (by decide) dL_use_10 ?_
    refine g_iconst C dL_use_21 ?_
    exact g_iretH C hlocks hr (HQ_n rfl hq e2) dL_use_22
theorem m_L_use (l : Launch) (hst : l.stackTraces = false) (D : va_G) (cA : Nat → ClassId) (ad : Nat → Nat) {a1 a2 : Int} {Q : Nat → Int → St → Prop} {σ : St} (h : wp_X8_use a1 a2 Q (fun o => σ (0 + o))) : CtH l yL_use (.codeWith yL_use cL_use 5 (some .int) [(0, 10, 13, 27), (0, 10, 17, 19)]) rm_L_use D cA shA ad zsC [.ref (ad 0), vI a1, vI a2, .ref (ad 60)] σ (HQ cdU σ Q) := ct_H RL (by decide +kernel) rfl (Nat.le_of_ble_eq_true rfl) (fun p e s m args below meth c C TH NK ht hlocks hr => m_L_use_E hst C TH NK ht hlocks hr h)
set_option maxRecDepth 100000 in
set_option maxHeartbeats 4000000 in
theorem m_L_whole_E {p : Program} {l : Launch} {e : Env} {s : State} {m : MethodId} {args : Array Value} {below : List Frame} {meth : Method} {c : Code} {D : va_G} {cA : Nat → ClassId} {ad : Nat → Nat} (hst : l.stackTraces = false) (C : Cx p s m args c cL_whole RL 5 D cA shA ad zsC) (TH : Th (A0 shA ad s.heap.size) s s.heap) (NK : Nk s) (ht : c.exceptionTable.toList = tableOf [(0, 10, 13, 27), (0, 10, 17, 19)]) (hlocks : meth.locks = false) (hr : meth.sig.returnType = (some .int)) {Q : Nat → Int → St → Prop} {a1 a2 : Int} {σ : St} (h : wp_X8_whole a1 a2 Q (fun o => σ (0 + o))) : G p l e rm_L_whole s m args below meth c 0 0 5 D cA shA ad (QH D cA shA ad zsC below args s (HQ cdU σ Q)) σ [(0, .ref (ad 0)), (1, vI a1), (2, vI a2), (3, .ref (ad 60))] [] 0 := by
  refine g_aload_n C 3 3 rfl rfl dL_whole_0 ?_
  refine g_iconst C dL_whole_1 ?_
  refine g_aload_n C 0 0 rfl rfl dL_whole_2 ?_
  refine g_iload_n C 1 1 rfl rfl dL_whole_3 ?_
  refine g_iload_n C 2 2 rfl rfl dL_whole_4 ?_
  refine g_callX C TH (lift_X embC (fun _ h => h) (m_X8_whole l D cA (fun k => ad (0 + k)) hst h)) hv_X8_whole tl_m33 (o := 0) (ci := 8) (As := [vI a1, vI a2]) (st := [vI 0, .ref (ad 60)]) rfl rfl rfl rfl ⟨Nat.le_of_ble_eq_true rfl, Nat.le_of_ble_eq_true rfl⟩ ⟨Nat.le_refl _, Nat.le_refl _⟩ rfl rfl (Nat.le_of_ble_eq_true rfl) dL_whole_5 (fun k => if k = 2 then 17 else if k = 4 then 13 else 0) (fun k hk => ?_) (fun k hk σ1 hq q9 => ?_) (fun z σ1 hq => ?_)
  · rcases List.mem_cons.mp hk with hk | hk
    · subst hk
      exact ⟨[_], _, _, ht, (fun z hz => by
      cases List.mem_singleton.mp hz
      exact Or.inr ⟨by decide, XE 4, tl_27, NK.2⟩), by decide, by decide, tl_19, rfl⟩
    · cases List.mem_singleton.mp hk
      exact ⟨[], _, _, ht, (fun _ hz => nomatch hz), by decide, by decide, tl_27, rfl⟩
  · rcases List.mem_cons.mp hk with hk | hk
    · subst hk
      obtain ⟨u, hq, e⟩ := hq
      subst e
      show G _ _ _ _ _ _ _ _ _ _ _ _ _ _ _ _ _ _ _ _ _ 17
      refine g_astore C 4 [(0, .ref (ad 0)), (1, vI a1), (2, vI a2), (3, .ref (ad 60))] (by decide) rfl dL_whole_17 ?_
      refine g_iconst C dL_whole_19 ?_
      exact g_iretH C hlocks hr (HQ_t (k := 2) (by decide) (by decide) (by decide) hq) dL_whole_20
    · cases List.mem_singleton.mp hk
      obtain ⟨u, hq, e⟩ := hq
      subst e
      show G _ _ _ _ _ _ _ _ _ _ _ _ _ _ _ _ _ _ _ _ _ 13
      refine g_astore C 4 [(0, .ref (ad 0)), (1, vI a1), (2, vI a2), (3, .ref (ad 60))] (by decide) rfl dL_whole_13 ?_
      refine g_iconst C dL_whole_15 ?_
      exact g_iretH C hlocks hr (HQ_t (k := 4) (by decide) (by decide) (by decide) hq) dL_whole_16
  · obtain ⟨u, hq, e⟩ := hq
    subst e
    refine g_i2l C rfl dL_whole_8 ?_
    refine g_last C (o := 60) (n := 1) (N := 1) (j := 0) rfl rfl (by decide) (by decide) dL_whole_9 (fun σ2 e2 => ?_)
    refine g_goto C 21 (by decide) dL_whole_10 ?_
    refine g_iconst C dL_whole_21 ?_
    exact g_iretH C hlocks hr (HQ_n rfl hq e2) dL_whole_22
theorem m_L_whole (l : Launch) (hst : l.stackTraces = false) (D : va_G) (cA : Nat → ClassId) (ad : Nat → Nat) {a1 a2 : Int} {Q : Nat → Int → St → Prop} {σ : St} (h : wp_X8_whole a1 a2 Q (fun o => σ (0 + o))) : CtH l yL_whole (.codeWith yL_whole cL_whole 5 (some .int) [(0, 10, 13, 27), (0, 10, 17, 19)]) rm_L_whole D cA shA ad zsC [.ref (ad 0), vI a1, vI a2, .ref (ad 60)] σ (HQ cdU σ Q) := ct_H RL (by decide +kernel) rfl (Nat.le_of_ble_eq_true rfl) (fun p e s m args below meth c C TH NK ht hlocks hr => m_L_whole_E hst C TH NK ht hlocks hr h)
set_option maxRecDepth 100000 in
set_option maxHeartbeats 4000000 in
theorem m_L_node_E {p : Program} {l : Launch} {e : Env} {s : State} {m : MethodId} {args : Array Value} {below : List Frame} {meth : Method} {c : Code} {D : va_G} {cA : Nat → ClassId} {ad : Nat → Nat} (hst : l.stackTraces = false) (C : Cx p s m args c cL_node RL 6 D cA shA ad zsC) (TH : Th (A0 shA ad s.heap.size) s s.heap) (NK : Nk s) (ht : c.exceptionTable.toList = tableOf [(0, 12, 15, 27), (0, 12, 19, 19)]) (hlocks : meth.locks = false) (hr : meth.sig.returnType = (some .int)) {Q : Nat → Int → St → Prop} {a1 a2 a3 : Int} {σ : St} (h : wp_X8_node a1 a2 a3 Q (fun o => σ (0 + o))) : G p l e rm_L_node s m args below meth c 0 0 6 D cA shA ad (QH D cA shA ad zsC below args s (HQ cdU σ Q)) σ [(0, .ref (ad 0)), (1, vI a1), (2, vI a2), (3, vI a3), (4, .ref (ad 60))] [] 0 := by
  refine g_aload C 4 4 rfl dL_node_0 ?_
  refine g_iconst C dL_node_2 ?_
  refine g_aload_n C 0 0 rfl rfl dL_node_3 ?_
  refine g_iload_n C 1 1 rfl rfl dL_node_4 ?_
  refine g_iload_n C 2 2 rfl rfl dL_node_5 ?_
  refine g_iload_n C 3 3 rfl rfl dL_node_6 ?_
  refine g_callX C TH (lift_X embC (fun _ h => h) (m_X8_node l D cA (fun k => ad (0 + k)) hst h)) hv_X8_node tl_m36 (o := 0) (ci := 8) (As := [vI a1, vI a2, vI a3]) (st := [vI 0, .ref (ad 60)]) rfl rfl rfl rfl ⟨Nat.le_of_ble_eq_true rfl, Nat.le_of_ble_eq_true rfl⟩ ⟨Nat.le_refl _, Nat.le_refl _⟩ rfl rfl (Nat.le_of_ble_eq_true rfl) dL_node_7 (fun k => if k = 2 then 19 else if k = 4 then 15 else 0) (fun k hk => ?_) (fun k hk σ1 hq q9 => ?_) (fun z σ1 hq => ?_)
  · rcases List.mem_cons.mp hk with hk | hk
    · subst hk
      exact ⟨[_], _, _, ht, (fun z hz => by
      cases List.mem_singleton.mp hz
      exact Or.inr ⟨by decide, XE 4, tl_27, NK.2⟩), by decide, by decide, tl_19, rfl⟩
    · cases List.mem_singleton.mp hk
      exact ⟨[], _, _, ht, (fun _ hz => nomatch hz), by decide, by decide, tl_27, rfl⟩
  · rcases List.mem_cons.mp hk with hk | hk
    · subst hk
      obtain ⟨u, hq, e⟩ := hq
      subst e
      show G _ _ _ _ _ _ _ _ _ _ _ _ _ _ _ _ _ _ _ _ _ 19
      refine g_astore C 5 [(0, .ref (ad 0)), (1, vI a1), (2, vI a2), (3, vI a3), (4, .ref (ad 60))] (by decide) rfl dL_node_19 ?_
      refine g_iconst C dL_node_21 ?_
      exact g_iretH C hlocks hr (HQ_t (k := 2) (by decide) (by decide) (by decide) hq) dL_node_22
    · cases List.mem_singleton.mp hk
      obtain ⟨u, hq, e⟩ := hq
      subst e
      show G _ _ _ _ _ _ _ _ _ _ _ _ _ _ _ _ _ _ _ _ _ 15
      refine g_astore C 5 [(0, .ref (ad 0)), (1, vI a1), (2, vI a2), (3, vI a3), (4, .ref (ad 60))] (by decide) rfl dL_node_15 ?_
      refine g_iconst C dL_node_17 ?_
      exact g_iretH C hlocks hr (HQ_t (k := 4) (by decide) (by decide) (by decide) hq) dL_node_18
  · obtain ⟨u, hq, e⟩ := hq
    subst e
    refine g_i2l C rfl dL_node_10 ?_
    refine g_last C (o := 60) (n := 1) (N := 1) (j := 0) rfl rfl (by decide) (by decide) dL_node_11 (fun σ2 e2 => ?_)
    refine g_goto C 23 (by decide) dL_node_12 ?_
    refine g_iconst C dL_node_23 ?_
    exact g_iretH C hlocks hr (HQ_n rfl hq e2) dL_node_24
theorem m_L_node (l : Launch) (hst : l.stackTraces = false) (D : va_G) (cA : Nat → ClassId) (ad : Nat → Nat) {a1 a2 a3 : Int} {Q : Nat → Int → St → Prop} {σ : St} (h : wp_X8_node a1 a2 a3 Q (fun o => σ (0 + o))) : CtH l yL_node (.codeWith yL_node cL_node 6 (some .int) [(0, 12, 15, 27), (0, 12, 19, 19)]) rm_L_node D cA shA ad zsC [.ref (ad 0), vI a1, vI a2, vI a3, .ref (ad 60)] σ (HQ cdU σ Q) := ct_H RL (by decide +kernel) rfl (Nat.le_of_ble_eq_true rfl) (fun p e s m args below meth c C TH NK ht hlocks hr => m_L_node_E hst C TH NK ht hlocks hr h)
set_option maxRecDepth 100000 in
set_option maxHeartbeats 4000000 in
theorem m_L_letter_E {p : Program} {l : Launch} {e : Env} {s : State} {m : MethodId} {args : Array Value} {below : List Frame} {meth : Method} {c : Code} {D : va_G} {cA : Nat → ClassId} {ad : Nat → Nat} (hst : l.stackTraces = false) (C : Cx p s m args c cL_letter RL 6 D cA shA ad zsC) (TH : Th (A0 shA ad s.heap.size) s s.heap) (NK : Nk s) (ht : c.exceptionTable.toList = tableOf [(0, 12, 15, 27)]) (hlocks : meth.locks = false) (hr : meth.sig.returnType = (some .int)) {Q : Nat → Int → St → Prop} {a1 a2 a3 : Int} {σ : St} (h : wp_X8_letter a1 a2 a3 Q (fun o => σ (0 + o))) : G p l e rm_L_letter s m args below meth c 0 0 6 D cA shA ad (QH D cA shA ad zsC below args s (HQ cd1 σ Q)) σ [(0, .ref (ad 0)), (1, vI a1), (2, vI a2), (3, vI a3), (4, .ref (ad 60))] [] 0 := by
  refine g_aload C 4 4 rfl dL_letter_0 ?_
  refine g_iconst C dL_letter_2 ?_
  refine g_aload_n C 0 0 rfl rfl dL_letter_3 ?_
  refine g_iload_n C 1 1 rfl rfl dL_letter_4 ?_
  refine g_iload_n C 2 2 rfl rfl dL_letter_5 ?_
  refine g_iload_n C 3 3 rfl rfl dL_letter_6 ?_
  refine g_callX C TH (lift_X embC (fun _ h => h) (m_X8_letter l D cA (fun k => ad (0 + k)) hst h)) hv_X8_letter tl_m40 (o := 0) (ci := 8) (As := [vI a1, vI a2, vI a3]) (st := [vI 0, .ref (ad 60)]) rfl rfl rfl rfl ⟨Nat.le_of_ble_eq_true rfl, Nat.le_of_ble_eq_true rfl⟩ ⟨Nat.le_refl _, Nat.le_refl _⟩ rfl rfl (Nat.le_of_ble_eq_true rfl) dL_letter_7 (fun k => if k = 4 then 15 else 0) (fun k hk => ?_) (fun k hk σ1 hq q9 => ?_) (fun z σ1 hq => ?_)
  · cases List.mem_singleton.mp hk
    exact ⟨[], _, _, ht, (fun _ hz => nomatch hz), by decide, by decide, tl_27, rfl⟩
  · cases List.mem_singleton.mp hk
    obtain ⟨u, hq, e⟩ := hq
    subst e
    show G _ _ _ _ _ _ _ _ _ _ _ _ _ _ _ _ _ _ _ _ _ 15
    refine g_astore C 5 [(0, .ref (ad 0)), (1, vI a1), (2, vI a2), (3, vI a3), (4, .ref (ad 60))] (by decide) rfl dL_letter_15 ?_
    refine g_iconst C dL_letter_17 ?_
    exact g_iretH C hlocks hr (HQ_t (k := 4) (by decide) (by decide) (by decide) hq) dL_letter_18
  · obtain ⟨u, hq, e⟩ := hq
    subst e
    refine g_i2l C rfl dL_letter_10 ?_
    refine g_last C (o := 60) (n := 1) (N := 1) (j := 0) rfl rfl (by decide) (by decide) dL_letter_11 (fun σ2 e2 => ?_)
    refine g_goto C 19 (by decide) dL_letter_12 ?_
    refine g_iconst C dL_letter_19 ?_
    exact g_iretH C hlocks hr (HQ_n rfl hq e2) dL_letter_20
theorem m_L_letter (l : Launch) (hst : l.stackTraces = false) (D : va_G) (cA : Nat → ClassId) (ad : Nat → Nat) {a1 a2 a3 : Int} {Q : Nat → Int → St → Prop} {σ : St} (h : wp_X8_letter a1 a2 a3 Q (fun o => σ (0 + o))) : CtH l yL_letter (.codeWith yL_letter cL_letter 6 (some .int) [(0, 12, 15, 27)]) rm_L_letter D cA shA ad zsC [.ref (ad 0), vI a1, vI a2, vI a3, .ref (ad 60)] σ (HQ cd1 σ Q) := ct_H RL (by decide +kernel) rfl (Nat.le_of_ble_eq_true rfl) (fun p e s m args below meth c C TH NK ht hlocks hr => m_L_letter_E hst C TH NK ht hlocks hr h)
set_option maxRecDepth 100000 in
set_option maxHeartbeats 4000000 in
theorem m_L_count_E {p : Program} {l : Launch} {e : Env} {s : State} {m : MethodId} {args : Array Value} {below : List Frame} {meth : Method} {c : Code} {D : va_G} {cA : Nat → ClassId} {ad : Nat → Nat} (hst : l.stackTraces = false) (C : Cx p s m args c cL_count RL 4 D cA shA ad zsC) (TH : Th (A0 shA ad s.heap.size) s s.heap) (NK : Nk s) (ht : c.exceptionTable.toList = tableOf [(0, 9, 12, 19)]) (hlocks : meth.locks = false) (hr : meth.sig.returnType = (some .int)) {Q : Nat → Int → St → Prop} {a1 : Int} {σ : St} (h : wp_X8_count a1 Q (fun o => σ (0 + o))) : G p l e rm_L_count s m args below meth c 0 0 4 D cA shA ad (QH D cA shA ad zsC below args s (HQ cd1 σ Q)) σ [(0, .ref (ad 0)), (1, vI a1), (2, .ref (ad 60))] [] 0 := by
  refine g_aload_n C 2 2 rfl rfl dL_count_0 ?_
  refine g_iconst C dL_count_1 ?_
  refine g_aload_n C 0 0 rfl rfl dL_count_2 ?_
  refine g_iload_n C 1 1 rfl rfl dL_count_3 ?_
  refine g_callX C TH (lift_X embC (fun _ h => h) (m_X8_count l D cA (fun k => ad (0 + k)) hst h)) hv_X8_count tl_m44 (o := 0) (ci := 8) (As := [vI a1]) (st := [vI 0, .ref (ad 60)]) rfl rfl rfl rfl ⟨Nat.le_of_ble_eq_true rfl, Nat.le_of_ble_eq_true rfl⟩ ⟨Nat.le_refl _, Nat.le_refl _⟩ rfl rfl (Nat.le_of_ble_eq_true rfl) dL_count_4 (fun k => if k = 2 then 12 else 0) (fun k hk => ?_) (fun k hk σ1 hq q9 => ?_) (fun z σ1 hq => ?_)
  · cases List.mem_singleton.mp hk
    exact ⟨[], _, _, ht, (fun _ hz => nomatch hz), by decide, by decide, tl_19, rfl⟩
  · cases List.mem_singleton.mp hk
    obtain ⟨u, hq, e⟩ := hq
    subst e
    show G _ _ _ _ _ _ _ _ _ _ _ _ _ _ _ _ _ _ _ _ _ 12
    refine g_astore_n C 3 [(0, .ref (ad 0)), (1, vI a1), (2, .ref (ad 60))] rfl (by decide) rfl dL_count_12 ?_
    refine g_iconst C dL_count_13 ?_
    exact g_iretH C hlocks hr (HQ_t (k := 2) (by decide) (by decide) (by decide) hq) dL_count_14
  · obtain ⟨u, hq, e⟩ := hq
    subst e
    refine g_i2l C rfl dL_count_7 ?_
    refine g_last C (o := 60) (n := 1) (N := 1) (j := 0) rfl rfl (by decide) (by decide) dL_count_8 (fun σ2 e2 => ?_)
    refine g_goto C 15 (by decide) dL_count_9 ?_
    refine g_iconst C dL_count_15 ?_
    exact g_iretH C hlocks hr (HQ_n rfl hq e2) dL_count_16
theorem m_L_count (l : Launch) (hst : l.stackTraces = false) (D : va_G) (cA : Nat → ClassId) (ad : Nat → Nat) {a1 : Int} {Q : Nat → Int → St → Prop} {σ : St} (h : wp_X8_count a1 Q (fun o => σ (0 + o))) : CtH l yL_count (.codeWith yL_count cL_count 4 (some .int) [(0, 9, 12, 19)]) rm_L_count D cA shA ad zsC [.ref (ad 0), vI a1, .ref (ad 60)] σ (HQ cd1 σ Q) := ct_H RL (by decide +kernel) rfl (Nat.le_of_ble_eq_true rfl) (fun p e s m args below meth c C TH NK ht hlocks hr => m_L_count_E hst C TH NK ht hlocks hr h)
