abbrev cxL_parent (κ : sp_K) (x : sp_X) (mc ms : Nat) : Prop := sp_C κ x cL_parent 5 RL (some .int) (tableOf hhL_parent) "parent" (sp_rm 8 136 mc ms)
set_option maxRecDepth 100000 in
set_option maxHeartbeats 4000000 in
theorem bkL_parent_0 {κ : sp_K} {x : sp_X} {mc ms : Nat} {Rt : Option Value → sp_M → Prop} {Xt : String → sp_M → Prop} {μ : sp_M} {k n : Nat} {a0 : Nat} {v1 : Int32} {v2 : Int32} {a3 : Nat} (h : cxL_parent κ x mc ms) (hk : k ≤ mc ∧ n ≤ ms)
    (vc : (∃ mc_1 ms_2 : Nat, (k + mc_1 ≤ mc ∧ n + ms_2 ≤ ms) ∧ ∃ fs_6 : List Value, μ a0 = some (.inr (2, fs_6)) ∧ sp_m x.2.1 κ yE_parent wE_parent 7 113 mc_1 ms_2 [.ref a0, .int v1, .int v2] μ (fun v_4 μ_5 => ∃ v_9 : Int32, v_4 = some (.int v_9) ∧ (∃ (N_10 : Nat) (f_11 : Nat → Int64), μ_5 a3 = some (sp_la κ N_10 f_11) ∧ ∃ j_13 : Nat, 0 = nI j_13 ∧ j_13 < N_10 ∧ ∀ μ_16 : sp_M, μ_16 = va_up μ_5 a3 (some (sp_la κ N_10 (vp_updL f_11 j_13 (Int32.toInt64 v_9)))) → Rt (some (.int 0)) μ_16)) (fun E_17 μ_5 => ((E_17 = "java/util/NoSuchElementException" ∧ ∀ q_18 : Nat, Rt (some (.int 1)) μ_5) ∨ (E_17 = "java/lang/UnsupportedOperationException" ∧ ∀ q_19 : Nat, Rt (some (.int 2)) μ_5) ∨ (E_17 = "java/lang/IllegalStateException" ∧ ∀ q_20 : Nat, Rt (some (.int 3)) μ_5))))) : sp_w κ x (sp_F κ x Rt Xt mc ms) k n 0 [(0, .ref a0), (1, .int v1), (2, .int v2), (3, .ref a3)] [] μ := by
  refine sr_aload_n h dL_parent_0 rfl 3 rfl ?_
  refine sr_iconst (v := 0) h dL_parent_1 (by decide) ?_
  refine sr_aload_n h dL_parent_2 rfl 0 rfl ?_
  refine sr_iload_n h dL_parent_3 rfl 1 rfl ?_
  refine sr_iload_n h dL_parent_4 rfl 2 rfl ?_
  obtain ⟨mc_1, ms_2, hc_3, vc⟩ := vc
  obtain ⟨fs_6, ho_7, vc⟩ := vc
  refine sr_callV (y := yE_parent) (n0 := 2) (As := [.int v1, .int v2]) h (sp_gV kw_118 kw_119 kw_120 kw_34 kw_121) rfl (by decide +kernel) ⟨Nat.le_of_ble_eq_true rfl, Nat.le_of_ble_eq_true rfl⟩ (ci := 2) rfl dL_parent_5 rfl rfl (Nat.le_of_ble_eq_true rfl) hc_3 ho_7 vc (fun v_4 μ_5 vc' => ?_) (fun E_17 μ_5 vc' => ?_)
  · replace vc := vc'
    clear vc'
    obtain ⟨v_9, rfl, vc⟩ := vc
    refine sr_i2l h dL_parent_8 ?_
    obtain ⟨N_10, f_11, ho_12, vc⟩ := vc
    obtain ⟨j_13, hi_14, hj_15, vc⟩ := vc
    replace vc := vc _ rfl
    refine sr_last h dL_parent_9 ho_12 hi_14 hj_15 ?_
    refine sr_goto (tgt := 25) h dL_parent_10 (by decide) ?_
    refine sr_iconst (v := 0) h dL_parent_25 (by decide) ?_
    exact sr_iret h dL_parent_26 hc_3.1 hc_3.2 vc
  · replace vc := vc'
    clear vc'
    rcases vc with ⟨rfl, vc⟩ | ⟨rfl, vc⟩ | ⟨rfl, vc⟩
    · refine st_catch h [] ({ startPc := 0, endPc := 10, handlerPc := 13, catchType := 13 }) [{ startPc := 0, endPc := 10, handlerPc := 17, catchType := 15 }, { startPc := 0, endPc := 10, handlerPc := 21, catchType := 17 }] rfl (fun _ z => nomatch z) (by decide) (by decide) (name := "java/util/NoSuchElementException") kw_115 kt_131 (fun q_18 => ?_)
      replace vc := vc q_18
      refine sr_astore (lv' := [(0, .ref a0), (1, .int v1), (2, .int v2), (3, .ref a3), (4, .ref q_18)]) h dL_parent_13 (by decide) rfl ?_
      refine sr_iconst (v := 1) h dL_parent_15 (by decide) ?_
      exact sr_iret h dL_parent_16 hc_3.1 hc_3.2 vc
    · refine st_catch h [{ startPc := 0, endPc := 10, handlerPc := 13, catchType := 13 }] ({ startPc := 0, endPc := 10, handlerPc := 17, catchType := 15 }) [{ startPc := 0, endPc := 10, handlerPc := 21, catchType := 17 }] rfl (fun w hw => by simp only [List.mem_cons, List.not_mem_nil, or_false] at hw; subst hw; exact Or.inr ⟨by decide, "java/util/NoSuchElementException", kw_115, by decide +kernel⟩) (by decide) (by decide) (name := "java/lang/UnsupportedOperationException") kw_116 kt_211 (fun q_19 => ?_)
      replace vc := vc q_19
      refine sr_astore (lv' := [(0, .ref a0), (1, .int v1), (2, .int v2), (3, .ref a3), (4, .ref q_19)]) h dL_parent_17 (by decide) rfl ?_
      refine sr_iconst (v := 2) h dL_parent_19 (by decide) ?_
      exact sr_iret h dL_parent_20 hc_3.1 hc_3.2 vc
    · refine st_catch h [{ startPc := 0, endPc := 10, handlerPc := 13, catchType := 13 }, { startPc := 0, endPc := 10, handlerPc := 17, catchType := 15 }] ({ startPc := 0, endPc := 10, handlerPc := 21, catchType := 17 }) [] rfl (fun w hw => by simp only [List.mem_cons, List.not_mem_nil, or_false] at hw; rcases hw with rfl | rfl <;> first | exact Or.inr ⟨by decide, "java/util/NoSuchElementException", kw_115, by decide +kernel⟩ | exact Or.inr ⟨by decide, "java/lang/UnsupportedOperationException", kw_116, by decide +kernel⟩) (by decide) (by decide) (name := "java/lang/IllegalStateException") kw_117 kt_226 (fun q_20 => ?_)
      replace vc := vc q_20
      refine sr_astore (lv' := [(0, .ref a0), (1, .int v1), (2, .int v2), (3, .ref a3), (4, .ref q_20)]) h dL_parent_21 (by decide) rfl ?_
      refine sr_iconst (v := 3) h dL_parent_23 (by decide) ?_
      exact sr_iret h dL_parent_24 hc_3.1 hc_3.2 vc
theorem opL_parent {l : Launch} {κ : sp_K} {mc ms : Nat} {Rt : Option Value → sp_M → Prop} {Xt : String → sp_M → Prop} {μ : sp_M} {a0 : Nat} {v1 : Int32} {v2 : Int32} {a3 : Nat} (htr : l.stackTraces = false) (body : ∀ x : sp_X, x.2.1.stackTraces = false → cxL_parent κ x mc ms → sp_w κ x (sp_F κ x Rt Xt mc ms) 0 0 0 [(0, .ref a0), (1, .int v1), (2, .int v2), (3, .ref a3)] [] μ) : sp_m l κ yL_parent wL_parent 8 136 mc ms [.ref a0, .int v1, .int v2, .ref a3] μ Rt Xt :=
  sp_openH htr (by decide +kernel) rfl (Nat.le_of_ble_eq_true rfl) (by intro v hv; simp only [List.mem_cons, List.not_mem_nil, or_false] at hv; rcases hv with rfl | rfl | rfl | rfl <;> first | rfl | exact sp_c1o _) (fun x hx h => body x (by rw [hx]; exact htr) h)

abbrev cxL_add (κ : sp_K) (x : sp_X) (mc ms : Nat) : Prop := sp_C κ x cL_add 5 RL (some .int) (tableOf hhL_add) "add" (sp_rm 10 189 mc ms)
set_option maxRecDepth 100000 in
set_option maxHeartbeats 4000000 in
theorem bkL_add_0 {κ : sp_K} {x : sp_X} {mc ms : Nat} {Rt : Option Value → sp_M → Prop} {Xt : String → sp_M → Prop} {μ : sp_M} {k n : Nat} {a0 : Nat} {v1 : Int32} {v2 : Int32} {a3 : Nat} (h : cxL_add κ x mc ms) (hk : k ≤ mc ∧ n ≤ ms)
    (vc : (∃ mc_1 ms_2 : Nat, (k + mc_1 ≤ mc ∧ n + ms_2 ≤ ms) ∧ ∃ fs_6 : List Value, μ a0 = some (.inr (2, fs_6)) ∧ sp_m x.2.1 κ yE_add wE_add 9 164 mc_1 ms_2 [.ref a0, .int v1, .int v2] μ (fun v_4 μ_5 => ∃ v_9 : Int32, v_4 = some (.int v_9) ∧ (∃ (N_10 : Nat) (f_11 : Nat → Int64), μ_5 a3 = some (sp_la κ N_10 f_11) ∧ ∃ j_13 : Nat, 0 = nI j_13 ∧ j_13 < N_10 ∧ ∀ μ_16 : sp_M, μ_16 = va_up μ_5 a3 (some (sp_la κ N_10 (vp_updL f_11 j_13 (Int32.toInt64 v_9)))) → Rt (some (.int 0)) μ_16)) (fun E_17 μ_5 => ((E_17 = "java/lang/IllegalArgumentException" ∧ ∀ q_18 : Nat, Rt (some (.int 1)) μ_5) ∨ (E_17 = "java/lang/UnsupportedOperationException" ∧ ∀ q_19 : Nat, Rt (some (.int 2)) μ_5) ∨ (E_17 = "java/lang/IllegalStateException" ∧ ∀ q_20 : Nat, Rt (some (.int 3)) μ_5))))) : sp_w κ x (sp_F κ x Rt Xt mc ms) k n 0 [(0, .ref a0), (1, .int v1), (2, .int v2), (3, .ref a3)] [] μ := by
  refine sr_aload_n h dL_add_0 rfl 3 rfl ?_
  refine sr_iconst (v := 0) h dL_add_1 (by decide) ?_
  refine sr_aload_n h dL_add_2 rfl 0 rfl ?_
  refine sr_iload_n h dL_add_3 rfl 1 rfl ?_
  refine sr_iload_n h dL_add_4 rfl 2 rfl ?_
  obtain ⟨mc_1, ms_2, hc_3, vc⟩ := vc
  obtain ⟨fs_6, ho_7, vc⟩ := vc
  refine sr_callV (y := yE_add) (n0 := 2) (As := [.int v1, .int v2]) h (sp_gV kw_243 kw_244 kw_245 kw_34 kw_246) rfl (by decide +kernel) ⟨Nat.le_of_ble_eq_true rfl, Nat.le_of_ble_eq_true rfl⟩ (ci := 2) rfl dL_add_5 rfl rfl (Nat.le_of_ble_eq_true rfl) hc_3 ho_7 vc (fun v_4 μ_5 vc' => ?_) (fun E_17 μ_5 vc' => ?_)
  · replace vc := vc'
    clear vc'
    obtain ⟨v_9, rfl, vc⟩ := vc
    refine sr_i2l h dL_add_8 ?_
    obtain ⟨N_10, f_11, ho_12, vc⟩ := vc
    obtain ⟨j_13, hi_14, hj_15, vc⟩ := vc
    replace vc := vc _ rfl
    refine sr_last h dL_add_9 ho_12 hi_14 hj_15 ?_
    refine sr_goto (tgt := 25) h dL_add_10 (by decide) ?_
    refine sr_iconst (v := 0) h dL_add_25 (by decide) ?_
    exact sr_iret h dL_add_26 hc_3.1 hc_3.2 vc
  · replace vc := vc'
    clear vc'
    rcases vc with ⟨rfl, vc⟩ | ⟨rfl, vc⟩ | ⟨rfl, vc⟩
    · refine st_catch h [] ({ startPc := 0, endPc := 10, handlerPc := 13, catchType := 22 }) [{ startPc := 0, endPc := 10, handlerPc := 17, catchType := 15 }, { startPc := 0, endPc := 10, handlerPc := 21, catchType := 17 }] rfl (fun _ z => nomatch z) (by decide) (by decide) (name := "java/lang/IllegalArgumentException") kw_242 kt_249 (fun q_18 => ?_)
      replace vc := vc q_18
      refine sr_astore (lv' := [(0, .ref a0), (1, .int v1), (2, .int v2), (3, .ref a3), (4, .ref q_18)]) h dL_add_13 (by decide) rfl ?_
      refine sr_iconst (v := 1) h dL_add_15 (by decide) ?_
      exact sr_iret h dL_add_16 hc_3.1 hc_3.2 vc
    · refine st_catch h [{ startPc := 0, endPc := 10, handlerPc := 13, catchType := 22 }] ({ startPc := 0, endPc := 10, handlerPc := 17, catchType := 15 }) [{ startPc := 0, endPc := 10, handlerPc := 21, catchType := 17 }] rfl (fun w hw => by simp only [List.mem_cons, List.not_mem_nil, or_false] at hw; subst hw; exact Or.inr ⟨by decide, "java/lang/IllegalArgumentException", kw_242, by decide +kernel⟩) (by decide) (by decide) (name := "java/lang/UnsupportedOperationException") kw_116 kt_211 (fun q_19 => ?_)
      replace vc := vc q_19
      refine sr_astore (lv' := [(0, .ref a0), (1, .int v1), (2, .int v2), (3, .ref a3), (4, .ref q_19)]) h dL_add_17 (by decide) rfl ?_
      refine sr_iconst (v := 2) h dL_add_19 (by decide) ?_
      exact sr_iret h dL_add_20 hc_3.1 hc_3.2 vc
    · refine st_catch h [{ startPc := 0, endPc := 10, handlerPc := 13, catchType := 22 }, { startPc := 0, endPc := 10, handlerPc := 17, catchType := 15 }] ({ startPc := 0, endPc := 10, handlerPc := 21, catchType := 17 }) [] rfl (fun w hw => by simp only [List.mem_cons, List.not_mem_nil, or_false] at hw; rcases hw with rfl | rfl <;> first | exact Or.inr ⟨by decide, "java/lang/IllegalArgumentException", kw_242, by decide +kernel⟩ | exact Or.inr ⟨by decide, "java/lang/UnsupportedOperationException", kw_116, by decide +kernel⟩) (by decide) (by decide) (name := "java/lang/IllegalStateException") kw_117 kt_226 (fun q_20 => ?_)
      replace vc := vc q_20
      refine sr_astore (lv' := [(0, .ref a0), (1, .int v1), (2, .int v2), (3, .ref a3), (4, .ref q_20)]) h dL_add_21 (by decide) rfl ?_
      refine sr_iconst (v := 3) h dL_add_23 (by decide) ?_
      exact sr_iret h dL_add_24 hc_3.1 hc_3.2 vc
theorem opL_add {l : Launch} {κ : sp_K} {mc ms : Nat} {Rt : Option Value → sp_M → Prop} {Xt : String → sp_M → Prop} {μ : sp_M} {a0 : Nat} {v1 : Int32} {v2 : Int32} {a3 : Nat} (htr : l.stackTraces = false) (body : ∀ x : sp_X, x.2.1.stackTraces = false → cxL_add κ x mc ms → sp_w κ x (sp_F κ x Rt Xt mc ms) 0 0 0 [(0, .ref a0), (1, .int v1), (2, .int v2), (3, .ref a3)] [] μ) : sp_m l κ yL_add wL_add 10 189 mc ms [.ref a0, .int v1, .int v2, .ref a3] μ Rt Xt :=
  sp_openH htr (by decide +kernel) rfl (Nat.le_of_ble_eq_true rfl) (by intro v hv; simp only [List.mem_cons, List.not_mem_nil, or_false] at hv; rcases hv with rfl | rfl | rfl | rfl <;> first | rfl | exact sp_c1o _) (fun x hx h => body x (by rw [hx]; exact htr) h)

abbrev cxL_events (κ : sp_K) (x : sp_X) (mc ms : Nat) : Prop := sp_C κ x cL_events 4 RL (some .int) (tableOf hhL_events) "events" (sp_rm 7 111 mc ms)
set_option maxRecDepth 100000 in
set_option maxHeartbeats 4000000 in
theorem bkL_events_0 {κ : sp_K} {x : sp_X} {mc ms : Nat} {Rt : Option Value → sp_M → Prop} {Xt : String → sp_M → Prop} {μ : sp_M} {k n : Nat} {a0 : Nat} {v1 : Int32} {a2 : Nat} (h : cxL_events κ x mc ms) (hk : k ≤ mc ∧ n ≤ ms)
    (vc : (∃ mc_1 ms_2 : Nat, (k + mc_1 ≤ mc ∧ n + ms_2 ≤ ms) ∧ ∃ fs_6 : List Value, μ a0 = some (.inr (2, fs_6)) ∧ sp_m x.2.1 κ yE_events wE_events 6 90 mc_1 ms_2 [.ref a0, .int v1] μ (fun v_4 μ_5 => ∃ v_9 : Int32, v_4 = some (.int v_9) ∧ (∃ (N_10 : Nat) (f_11 : Nat → Int64), μ_5 a2 = some (sp_la κ N_10 f_11) ∧ ∃ j_13 : Nat, 0 = nI j_13 ∧ j_13 < N_10 ∧ ∀ μ_16 : sp_M, μ_16 = va_up μ_5 a2 (some (sp_la κ N_10 (vp_updL f_11 j_13 (Int32.toInt64 v_9)))) → Rt (some (.int 0)) μ_16)) (fun E_17 μ_5 => ((E_17 = "java/lang/IllegalArgumentException" ∧ ∀ q_18 : Nat, Rt (some (.int 1)) μ_5))))) : sp_w κ x (sp_F κ x Rt Xt mc ms) k n 0 [(0, .ref a0), (1, .int v1), (2, .ref a2)] [] μ := by
  refine sr_aload_n h dL_events_0 rfl 2 rfl ?_
  refine sr_iconst (v := 0) h dL_events_1 (by decide) ?_
  refine sr_aload_n h dL_events_2 rfl 0 rfl ?_
  refine sr_iload_n h dL_events_3 rfl 1 rfl ?_
  obtain ⟨mc_1, ms_2, hc_3, vc⟩ := vc
  obtain ⟨fs_6, ho_7, vc⟩ := vc
  refine sr_callV (y := yE_events) (n0 := 1) (As := [.int v1]) h (sp_gV kw_392 kw_393 kw_394 kw_34 kw_395) rfl (by decide +kernel) ⟨Nat.le_of_ble_eq_true rfl, Nat.le_of_ble_eq_true rfl⟩ (ci := 2) rfl dL_events_4 rfl rfl (Nat.le_of_ble_eq_true rfl) hc_3 ho_7 vc (fun v_4 μ_5 vc' => ?_) (fun E_17 μ_5 vc' => ?_)
  · replace vc := vc'
    clear vc'
    obtain ⟨v_9, rfl, vc⟩ := vc
    refine sr_i2l h dL_events_7 ?_
    obtain ⟨N_10, f_11, ho_12, vc⟩ := vc
    obtain ⟨j_13, hi_14, hj_15, vc⟩ := vc
    replace vc := vc _ rfl
    refine sr_last h dL_events_8 ho_12 hi_14 hj_15 ?_
    refine sr_goto (tgt := 15) h dL_events_9 (by decide) ?_
    refine sr_iconst (v := 0) h dL_events_15 (by decide) ?_
    exact sr_iret h dL_events_16 hc_3.1 hc_3.2 vc
  · replace vc := vc'
    clear vc'
    obtain ⟨rfl, vc⟩ := vc
    refine st_catch h [] ({ startPc := 0, endPc := 9, handlerPc := 12, catchType := 22 }) [] rfl (fun _ z => nomatch z) (by decide) (by decide) (name := "java/lang/IllegalArgumentException") kw_242 kt_249 (fun q_18 => ?_)
    replace vc := vc q_18
    refine sr_astore_n (lv' := [(0, .ref a0), (1, .int v1), (2, .ref a2), (3, .ref q_18)]) h dL_events_12 rfl (by decide) rfl ?_
    refine sr_iconst (v := 1) h dL_events_13 (by decide) ?_
    exact sr_iret h dL_events_14 hc_3.1 hc_3.2 vc
theorem opL_events {l : Launch} {κ : sp_K} {mc ms : Nat} {Rt : Option Value → sp_M → Prop} {Xt : String → sp_M → Prop} {μ : sp_M} {a0 : Nat} {v1 : Int32} {a2 : Nat} (htr : l.stackTraces = false) (body : ∀ x : sp_X, x.2.1.stackTraces = false → cxL_events κ x mc ms → sp_w κ x (sp_F κ x Rt Xt mc ms) 0 0 0 [(0, .ref a0), (1, .int v1), (2, .ref a2)] [] μ) : sp_m l κ yL_events wL_events 7 111 mc ms [.ref a0, .int v1, .ref a2] μ Rt Xt :=
  sp_openH htr (by decide +kernel) rfl (Nat.le_of_ble_eq_true rfl) (by intro v hv; simp only [List.mem_cons, List.not_mem_nil, or_false] at hv; rcases hv with rfl | rfl | rfl <;> first | rfl | exact sp_c1o _) (fun x hx h => body x (by rw [hx]; exact htr) h)

abbrev cxL_place (κ : sp_K) (x : sp_X) (mc ms : Nat) : Prop := sp_C κ x cL_place 5 RL (some .int) (tableOf hhL_place) "place" (sp_rm 8 135 mc ms)
set_option maxRecDepth 100000 in
set_option maxHeartbeats 4000000 in
theorem bkL_place_0 {κ : sp_K} {x : sp_X} {mc ms : Nat} {Rt : Option Value → sp_M → Prop} {Xt : String → sp_M → Prop} {μ : sp_M} {k n : Nat} {a0 : Nat} {v1 : Int32} {v2 : Int32} {a3 : Nat} (h : cxL_place κ x mc ms) (hk : k ≤ mc ∧ n ≤ ms)
    (vc : (∃ mc_1 ms_2 : Nat, (k + mc_1 ≤ mc ∧ n + ms_2 ≤ ms) ∧ ∃ fs_6 : List Value, μ a0 = some (.inr (2, fs_6)) ∧ sp_m x.2.1 κ yE_place wE_place 7 113 mc_1 ms_2 [.ref a0, .int v1, .int v2] μ (fun v_4 μ_5 => ∃ v_9 : Int32, v_4 = some (.int v_9) ∧ (∃ (N_10 : Nat) (f_11 : Nat → Int64), μ_5 a3 = some (sp_la κ N_10 f_11) ∧ ∃ j_13 : Nat, 0 = nI j_13 ∧ j_13 < N_10 ∧ ∀ μ_16 : sp_M, μ_16 = va_up μ_5 a3 (some (sp_la κ N_10 (vp_updL f_11 j_13 (Int32.toInt64 v_9)))) → Rt (some (.int 0)) μ_16)) (fun E_17 μ_5 => ((E_17 = "java/util/NoSuchElementException" ∧ ∀ q_18 : Nat, Rt (some (.int 1)) μ_5))))) : sp_w κ x (sp_F κ x Rt Xt mc ms) k n 0 [(0, .ref a0), (1, .int v1), (2, .int v2), (3, .ref a3)] [] μ := by
  refine sr_aload_n h dL_place_0 rfl 3 rfl ?_
  refine sr_iconst (v := 0) h dL_place_1 (by decide) ?_
  refine sr_aload_n h dL_place_2 rfl 0 rfl ?_
  refine sr_iload_n h dL_place_3 rfl 1 rfl ?_
  refine sr_iload_n h dL_place_4 rfl 2 rfl ?_
  obtain ⟨mc_1, ms_2, hc_3, vc⟩ := vc
  obtain ⟨fs_6, ho_7, vc⟩ := vc
  refine sr_callV (y := yE_place) (n0 := 2) (As := [.int v1, .int v2]) h (sp_gV kw_399 kw_400 kw_401 kw_34 kw_402) rfl (by decide +kernel) ⟨Nat.le_of_ble_eq_true rfl, Nat.le_of_ble_eq_true rfl⟩ (ci := 2) rfl dL_place_5 rfl rfl (Nat.le_of_ble_eq_true rfl) hc_3 ho_7 vc (fun v_4 μ_5 vc' => ?_) (fun E_17 μ_5 vc' => ?_)
  · replace vc := vc'
    clear vc'
    obtain ⟨v_9, rfl, vc⟩ := vc
    refine sr_i2l h dL_place_8 ?_
    obtain ⟨N_10, f_11, ho_12, vc⟩ := vc
    obtain ⟨j_13, hi_14, hj_15, vc⟩ := vc
    replace vc := vc _ rfl
    refine sr_last h dL_place_9 ho_12 hi_14 hj_15 ?_
    refine sr_goto (tgt := 17) h dL_place_10 (by decide) ?_
    refine sr_iconst (v := 0) h dL_place_17 (by decide) ?_
    exact sr_iret h dL_place_18 hc_3.1 hc_3.2 vc
  · replace vc := vc'
    clear vc'
    obtain ⟨rfl, vc⟩ := vc
    refine st_catch h [] ({ startPc := 0, endPc := 10, handlerPc := 13, catchType := 13 }) [] rfl (fun _ z => nomatch z) (by decide) (by decide) (name := "java/util/NoSuchElementException") kw_115 kt_131 (fun q_18 => ?_)
    replace vc := vc q_18
    refine sr_astore (lv' := [(0, .ref a0), (1, .int v1), (2, .int v2), (3, .ref a3), (4, .ref q_18)]) h dL_place_13 (by decide) rfl ?_
    refine sr_iconst (v := 1) h dL_place_15 (by decide) ?_
    exact sr_iret h dL_place_16 hc_3.1 hc_3.2 vc
theorem opL_place {l : Launch} {κ : sp_K} {mc ms : Nat} {Rt : Option Value → sp_M → Prop} {Xt : String → sp_M → Prop} {μ : sp_M} {a0 : Nat} {v1 : Int32} {v2 : Int32} {a3 : Nat} (htr : l.stackTraces = false) (body : ∀ x : sp_X, x.2.1.stackTraces = false → cxL_place κ x mc ms → sp_w κ x (sp_F κ x Rt Xt mc ms) 0 0 0 [(0, .ref a0), (1, .int v1), (2, .int v2), (3, .ref a3)] [] μ) : sp_m l κ yL_place wL_place 8 135 mc ms [.ref a0, .int v1, .int v2, .ref a3] μ Rt Xt :=
  sp_openH htr (by decide +kernel) rfl (Nat.le_of_ble_eq_true rfl) (by intro v hv; simp only [List.mem_cons, List.not_mem_nil, or_false] at hv; rcases hv with rfl | rfl | rfl | rfl <;> first | rfl | exact sp_c1o _) (fun x hx h => body x (by rw [hx]; exact htr) h)

abbrev cxL_id (κ : sp_K) (x : sp_X) (mc ms : Nat) : Prop := sp_C κ x cL_id 4 RL (some .int) (tableOf hhL_id) "id" (sp_rm 8 133 mc ms)
set_option maxRecDepth 100000 in
set_option maxHeartbeats 4000000 in
theorem bkL_id_0 {κ : sp_K} {x : sp_X} {mc ms : Nat} {Rt : Option Value → sp_M → Prop} {Xt : String → sp_M → Prop} {μ : sp_M} {k n : Nat} {a0 : Nat} {v1 : Int32} {a2 : Nat} (h : cxL_id κ x mc ms) (hk : k ≤ mc ∧ n ≤ ms)
    (vc : (∃ mc_1 ms_2 : Nat, (k + mc_1 ≤ mc ∧ n + ms_2 ≤ ms) ∧ ∃ fs_6 : List Value, μ a0 = some (.inr (2, fs_6)) ∧ sp_m x.2.1 κ yE_id wE_id 7 111 mc_1 ms_2 [.ref a0, .int v1] μ (fun v_4 μ_5 => ∃ v_9 : Int64, v_4 = some (.long v_9) ∧ (∃ (N_10 : Nat) (f_11 : Nat → Int64), μ_5 a2 = some (sp_la κ N_10 f_11) ∧ ∃ j_13 : Nat, 0 = nI j_13 ∧ j_13 < N_10 ∧ ∀ μ_16 : sp_M, μ_16 = va_up μ_5 a2 (some (sp_la κ N_10 (vp_updL f_11 j_13 v_9))) → Rt (some (.int 0)) μ_16)) (fun E_17 μ_5 => ((E_17 = "java/util/NoSuchElementException" ∧ ∀ q_18 : Nat, Rt (some (.int 1)) μ_5))))) : sp_w κ x (sp_F κ x Rt Xt mc ms) k n 0 [(0, .ref a0), (1, .int v1), (2, .ref a2)] [] μ := by
  refine sr_aload_n h dL_id_0 rfl 2 rfl ?_
  refine sr_iconst (v := 0) h dL_id_1 (by decide) ?_
  refine sr_aload_n h dL_id_2 rfl 0 rfl ?_
  refine sr_iload_n h dL_id_3 rfl 1 rfl ?_
  obtain ⟨mc_1, ms_2, hc_3, vc⟩ := vc
  obtain ⟨fs_6, ho_7, vc⟩ := vc
  refine sr_callV (y := yE_id) (n0 := 1) (As := [.int v1]) h (sp_gV kw_406 kw_407 kw_408 kw_34 kw_409) rfl (by decide +kernel) ⟨Nat.le_of_ble_eq_true rfl, Nat.le_of_ble_eq_true rfl⟩ (ci := 2) rfl dL_id_4 rfl rfl (Nat.le_of_ble_eq_true rfl) hc_3 ho_7 vc (fun v_4 μ_5 vc' => ?_) (fun E_17 μ_5 vc' => ?_)
  · replace vc := vc'
    clear vc'
    obtain ⟨v_9, rfl, vc⟩ := vc
    obtain ⟨N_10, f_11, ho_12, vc⟩ := vc
    obtain ⟨j_13, hi_14, hj_15, vc⟩ := vc
    replace vc := vc _ rfl
    refine sr_last h dL_id_7 ho_12 hi_14 hj_15 ?_
    refine sr_goto (tgt := 14) h dL_id_8 (by decide) ?_
    refine sr_iconst (v := 0) h dL_id_14 (by decide) ?_
    exact sr_iret h dL_id_15 hc_3.1 hc_3.2 vc
  · replace vc := vc'
    clear vc'
    obtain ⟨rfl, vc⟩ := vc
    refine st_catch h [] ({ startPc := 0, endPc := 8, handlerPc := 11, catchType := 13 }) [] rfl (fun _ z => nomatch z) (by decide) (by decide) (name := "java/util/NoSuchElementException") kw_115 kt_131 (fun q_18 => ?_)
    replace vc := vc q_18
    refine sr_astore_n (lv' := [(0, .ref a0), (1, .int v1), (2, .ref a2), (3, .ref q_18)]) h dL_id_11 rfl (by decide) rfl ?_
    refine sr_iconst (v := 1) h dL_id_12 (by decide) ?_
    exact sr_iret h dL_id_13 hc_3.1 hc_3.2 vc
theorem opL_id {l : Launch} {κ : sp_K} {mc ms : Nat} {Rt : Option Value → sp_M → Prop} {Xt : String → sp_M → Prop} {μ : sp_M} {a0 : Nat} {v1 : Int32} {a2 : Nat} (htr : l.stackTraces = false) (body : ∀ x : sp_X, x.2.1.stackTraces = false → cxL_id κ x mc ms → sp_w κ x (sp_F κ x Rt Xt mc ms) 0 0 0 [(0, .ref a0), (1, .int v1), (2, .ref a2)] [] μ) : sp_m l κ yL_id wL_id 8 133 mc ms [.ref a0, .int v1, .ref a2] μ Rt Xt :=
  sp_openH htr (by decide +kernel) rfl (Nat.le_of_ble_eq_true rfl) (by intro v hv; simp only [List.mem_cons, List.not_mem_nil, or_false] at hv; rcases hv with rfl | rfl | rfl <;> first | rfl | exact sp_c1o _) (fun x hx h => body x (by rw [hx]; exact htr) h)

abbrev cxL_parentOf (κ : sp_K) (x : sp_X) (mc ms : Nat) : Prop := sp_C κ x cL_parentOf 5 RL (some .int) (tableOf hhL_parentOf) "parentOf" (sp_rm 8 136 mc ms)
set_option maxRecDepth 100000 in
set_option maxHeartbeats 4000000 in
theorem bkL_parentOf_0 {κ : sp_K} {x : sp_X} {mc ms : Nat} {Rt : Option Value → sp_M → Prop} {Xt : String → sp_M → Prop} {μ : sp_M} {k n : Nat} {a0 : Nat} {v1 : Int32} {v2 : Int32} {a3 : Nat} (h : cxL_parentOf κ x mc ms) (hk : k ≤ mc ∧ n ≤ ms)
    (vc : (∃ mc_1 ms_2 : Nat, (k + mc_1 ≤ mc ∧ n + ms_2 ≤ ms) ∧ ∃ fs_6 : List Value, μ a0 = some (.inr (2, fs_6)) ∧ sp_m x.2.1 κ yE_parentOf wE_parentOf 7 111 mc_1 ms_2 [.ref a0, .int v1, .int v2] μ (fun v_4 μ_5 => ∃ v_9 : Int32, v_4 = some (.int v_9) ∧ (∃ (N_10 : Nat) (f_11 : Nat → Int64), μ_5 a3 = some (sp_la κ N_10 f_11) ∧ ∃ j_13 : Nat, 0 = nI j_13 ∧ j_13 < N_10 ∧ ∀ μ_16 : sp_M, μ_16 = va_up μ_5 a3 (some (sp_la κ N_10 (vp_updL f_11 j_13 (Int32.toInt64 v_9)))) → Rt (some (.int 0)) μ_16)) (fun E_17 μ_5 => ((E_17 = "java/util/NoSuchElementException" ∧ ∀ q_18 : Nat, Rt (some (.int 1)) μ_5))))) : sp_w κ x (sp_F κ x Rt Xt mc ms) k n 0 [(0, .ref a0), (1, .int v1), (2, .int v2), (3, .ref a3)] [] μ := by
  refine sr_aload_n h dL_parentOf_0 rfl 3 rfl ?_
  refine sr_iconst (v := 0) h dL_parentOf_1 (by decide) ?_
  refine sr_aload_n h dL_parentOf_2 rfl 0 rfl ?_
  refine sr_iload_n h dL_parentOf_3 rfl 1 rfl ?_
  refine sr_iload_n h dL_parentOf_4 rfl 2 rfl ?_
  obtain ⟨mc_1, ms_2, hc_3, vc⟩ := vc
  obtain ⟨fs_6, ho_7, vc⟩ := vc
  refine sr_callV (y := yE_parentOf) (n0 := 2) (As := [.int v1, .int v2]) h (sp_gV kw_413 kw_414 kw_415 kw_34 kw_416) rfl (by decide +kernel) ⟨Nat.le_of_ble_eq_true rfl, Nat.le_of_ble_eq_true rfl⟩ (ci := 2) rfl dL_parentOf_5 rfl rfl (Nat.le_of_ble_eq_true rfl) hc_3 ho_7 vc (fun v_4 μ_5 vc' => ?_) (fun E_17 μ_5 vc' => ?_)
  · replace vc := vc'
    clear vc'
    obtain ⟨v_9, rfl, vc⟩ := vc
    refine sr_i2l h dL_parentOf_8 ?_
    obtain ⟨N_10, f_11, ho_12, vc⟩ := vc
    obtain ⟨j_13, hi_14, hj_15, vc⟩ := vc
    replace vc := vc _ rfl
    refine sr_last h dL_parentOf_9 ho_12 hi_14 hj_15 ?_
    refine sr_goto (tgt := 17) h dL_parentOf_10 (by decide) ?_
    refine sr_iconst (v := 0) h dL_parentOf_17 (by decide) ?_
    exact sr_iret h dL_parentOf_18 hc_3.1 hc_3.2 vc
  · replace vc := vc'
    clear vc'
    obtain ⟨rfl, vc⟩ := vc
    refine st_catch h [] ({ startPc := 0, endPc := 10, handlerPc := 13, catchType := 13 }) [] rfl (fun _ z => nomatch z) (by decide) (by decide) (name := "java/util/NoSuchElementException") kw_115 kt_131 (fun q_18 => ?_)
    replace vc := vc q_18
    refine sr_astore (lv' := [(0, .ref a0), (1, .int v1), (2, .int v2), (3, .ref a3), (4, .ref q_18)]) h dL_parentOf_13 (by decide) rfl ?_
    refine sr_iconst (v := 1) h dL_parentOf_15 (by decide) ?_
    exact sr_iret h dL_parentOf_16 hc_3.1 hc_3.2 vc
theorem opL_parentOf {l : Launch} {κ : sp_K} {mc ms : Nat} {Rt : Option Value → sp_M → Prop} {Xt : String → sp_M → Prop} {μ : sp_M} {a0 : Nat} {v1 : Int32} {v2 : Int32} {a3 : Nat} (htr : l.stackTraces = false) (body : ∀ x : sp_X, x.2.1.stackTraces = false → cxL_parentOf κ x mc ms → sp_w κ x (sp_F κ x Rt Xt mc ms) 0 0 0 [(0, .ref a0), (1, .int v1), (2, .int v2), (3, .ref a3)] [] μ) : sp_m l κ yL_parentOf wL_parentOf 8 136 mc ms [.ref a0, .int v1, .int v2, .ref a3] μ Rt Xt :=
  sp_openH htr (by decide +kernel) rfl (Nat.le_of_ble_eq_true rfl) (by intro v hv; simp only [List.mem_cons, List.not_mem_nil, or_false] at hv; rcases hv with rfl | rfl | rfl | rfl <;> first | rfl | exact sp_c1o _) (fun x hx h => body x (by rw [hx]; exact htr) h)

abbrev cxL_related (κ : sp_K) (x : sp_X) (mc ms : Nat) : Prop := sp_C κ x cL_related 5 RL (some .int) (tableOf hhL_related) "related" (sp_rm 9 157 mc ms)
set_option maxRecDepth 100000 in
set_option maxHeartbeats 4000000 in
theorem bkL_related_0 {κ : sp_K} {x : sp_X} {mc ms : Nat} {Rt : Option Value → sp_M → Prop} {Xt : String → sp_M → Prop} {μ : sp_M} {k n : Nat} {a0 : Nat} {v1 : Int32} {v2 : Int32} {a3 : Nat} (h : cxL_related κ x mc ms) (hk : k ≤ mc ∧ n ≤ ms)
    (vc : (∃ mc_1 ms_2 : Nat, (k + mc_1 ≤ mc ∧ n + ms_2 ≤ ms) ∧ ∃ fs_6 : List Value, μ a0 = some (.inr (2, fs_6)) ∧ sp_m x.2.1 κ yE_related wE_related 8 135 mc_1 ms_2 [.ref a0, .int v1, .int v2] μ (fun v_4 μ_5 => ∃ v_9 : Int32, v_4 = some (.int v_9) ∧ (∃ (N_10 : Nat) (f_11 : Nat → Int64), μ_5 a3 = some (sp_la κ N_10 f_11) ∧ ∃ j_13 : Nat, 0 = nI j_13 ∧ j_13 < N_10 ∧ ∀ μ_16 : sp_M, μ_16 = va_up μ_5 a3 (some (sp_la κ N_10 (vp_updL f_11 j_13 (Int32.toInt64 v_9)))) → Rt (some (.int 0)) μ_16)) (fun E_17 μ_5 => ((E_17 = "java/util/NoSuchElementException" ∧ ∀ q_18 : Nat, Rt (some (.int 1)) μ_5))))) : sp_w κ x (sp_F κ x Rt Xt mc ms) k n 0 [(0, .ref a0), (1, .int v1), (2, .int v2), (3, .ref a3)] [] μ := by
  refine sr_aload_n h dL_related_0 rfl 3 rfl ?_
  refine sr_iconst (v := 0) h dL_related_1 (by decide) ?_
  refine sr_aload_n h dL_related_2 rfl 0 rfl ?_
  refine sr_iload_n h dL_related_3 rfl 1 rfl ?_
  refine sr_iload_n h dL_related_4 rfl 2 rfl ?_
  obtain ⟨mc_1, ms_2, hc_3, vc⟩ := vc
  obtain ⟨fs_6, ho_7, vc⟩ := vc
  refine sr_callV (y := yE_related) (n0 := 2) (As := [.int v1, .int v2]) h (sp_gV kw_420 kw_421 kw_422 kw_34 kw_423) rfl (by decide +kernel) ⟨Nat.le_of_ble_eq_true rfl, Nat.le_of_ble_eq_true rfl⟩ (ci := 2) rfl dL_related_5 rfl rfl (Nat.le_of_ble_eq_true rfl) hc_3 ho_7 vc (fun v_4 μ_5 vc' => ?_) (fun E_17 μ_5 vc' => ?_)
  · replace vc := vc'
    clear vc'
    obtain ⟨v_9, rfl, vc⟩ := vc
    refine sr_i2l h dL_related_8 ?_
    obtain ⟨N_10, f_11, ho_12, vc⟩ := vc
    obtain ⟨j_13, hi_14, hj_15, vc⟩ := vc
    replace vc := vc _ rfl
    refine sr_last h dL_related_9 ho_12 hi_14 hj_15 ?_
    refine sr_goto (tgt := 17) h dL_related_10 (by decide) ?_
    refine sr_iconst (v := 0) h dL_related_17 (by decide) ?_
    exact sr_iret h dL_related_18 hc_3.1 hc_3.2 vc
  · replace vc := vc'
    clear vc'
    obtain ⟨rfl, vc⟩ := vc
    refine st_catch h [] ({ startPc := 0, endPc := 10, handlerPc := 13, catchType := 13 }) [] rfl (fun _ z => nomatch z) (by decide) (by decide) (name := "java/util/NoSuchElementException") kw_115 kt_131 (fun q_18 => ?_)
    replace vc := vc q_18
    refine sr_astore (lv' := [(0, .ref a0), (1, .int v1), (2, .int v2), (3, .ref a3), (4, .ref q_18)]) h dL_related_13 (by decide) rfl ?_
    refine sr_iconst (v := 1) h dL_related_15 (by decide) ?_
    exact sr_iret h dL_related_16 hc_3.1 hc_3.2 vc
theorem opL_related {l : Launch} {κ : sp_K} {mc ms : Nat} {Rt : Option Value → sp_M → Prop} {Xt : String → sp_M → Prop} {μ : sp_M} {a0 : Nat} {v1 : Int32} {v2 : Int32} {a3 : Nat} (htr : l.stackTraces = false) (body : ∀ x : sp_X, x.2.1.stackTraces = false → cxL_related κ x mc ms → sp_w κ x (sp_F κ x Rt Xt mc ms) 0 0 0 [(0, .ref a0), (1, .int v1), (2, .int v2), (3, .ref a3)] [] μ) : sp_m l κ yL_related wL_related 9 157 mc ms [.ref a0, .int v1, .int v2, .ref a3] μ Rt Xt :=
  sp_openH htr (by decide +kernel) rfl (Nat.le_of_ble_eq_true rfl) (by intro v hv; simp only [List.mem_cons, List.not_mem_nil, or_false] at hv; rcases hv with rfl | rfl | rfl | rfl <;> first | rfl | exact sp_c1o _) (fun x hx h => body x (by rw [hx]; exact htr) h)

abbrev cxL_apart (κ : sp_K) (x : sp_X) (mc ms : Nat) : Prop := sp_C κ x cL_apart 5 RL (some .int) (tableOf hhL_apart) "apart" (sp_rm 8 137 mc ms)
set_option maxRecDepth 100000 in
set_option maxHeartbeats 4000000 in
theorem bkL_apart_0 {κ : sp_K} {x : sp_X} {mc ms : Nat} {Rt : Option Value → sp_M → Prop} {Xt : String → sp_M → Prop} {μ : sp_M} {k n : Nat} {a0 : Nat} {v1 : Int32} {v2 : Int32} {a3 : Nat} (h : cxL_apart κ x mc ms) (hk : k ≤ mc ∧ n ≤ ms)
    (vc : (∃ mc_1 ms_2 : Nat, (k + mc_1 ≤ mc ∧ n + ms_2 ≤ ms) ∧ ∃ fs_6 : List Value, μ a0 = some (.inr (2, fs_6)) ∧ sp_m x.2.1 κ yE_apart wE_apart 7 111 mc_1 ms_2 [.ref a0, .int v1, .int v2] μ (fun v_4 μ_5 => ∃ v_9 : Int32, v_4 = some (.int v_9) ∧ (∃ (N_10 : Nat) (f_11 : Nat → Int64), μ_5 a3 = some (sp_la κ N_10 f_11) ∧ ∃ j_13 : Nat, 0 = nI j_13 ∧ j_13 < N_10 ∧ ∀ μ_16 : sp_M, μ_16 = va_up μ_5 a3 (some (sp_la κ N_10 (vp_updL f_11 j_13 (Int32.toInt64 v_9)))) → Rt (some (.int 0)) μ_16)) (fun E_17 μ_5 => ((E_17 = "java/util/NoSuchElementException" ∧ ∀ q_18 : Nat, Rt (some (.int 1)) μ_5))))) : sp_w κ x (sp_F κ x Rt Xt mc ms) k n 0 [(0, .ref a0), (1, .int v1), (2, .int v2), (3, .ref a3)] [] μ := by
  refine sr_aload_n h dL_apart_0 rfl 3 rfl ?_
  refine sr_iconst (v := 0) h dL_apart_1 (by decide) ?_
  refine sr_aload_n h dL_apart_2 rfl 0 rfl ?_
  refine sr_iload_n h dL_apart_3 rfl 1 rfl ?_
  refine sr_iload_n h dL_apart_4 rfl 2 rfl ?_
  obtain ⟨mc_1, ms_2, hc_3, vc⟩ := vc
  obtain ⟨fs_6, ho_7, vc⟩ := vc
  refine sr_callV (y := yE_apart) (n0 := 2) (As := [.int v1, .int v2]) h (sp_gV kw_427 kw_428 kw_429 kw_34 kw_430) rfl (by decide +kernel) ⟨Nat.le_of_ble_eq_true rfl, Nat.le_of_ble_eq_true rfl⟩ (ci := 2) rfl dL_apart_5 rfl rfl (Nat.le_of_ble_eq_true rfl) hc_3 ho_7 vc (fun v_4 μ_5 vc' => ?_) (fun E_17 μ_5 vc' => ?_)
  · replace vc := vc'
    clear vc'
    obtain ⟨v_9, rfl, vc⟩ := vc
    refine sr_i2l h dL_apart_8 ?_
    obtain ⟨N_10, f_11, ho_12, vc⟩ := vc
    obtain ⟨j_13, hi_14, hj_15, vc⟩ := vc
    replace vc := vc _ rfl
    refine sr_last h dL_apart_9 ho_12 hi_14 hj_15 ?_
    refine sr_goto (tgt := 17) h dL_apart_10 (by decide) ?_
    refine sr_iconst (v := 0) h dL_apart_17 (by decide) ?_
    exact sr_iret h dL_apart_18 hc_3.1 hc_3.2 vc
  · replace vc := vc'
    clear vc'
    obtain ⟨rfl, vc⟩ := vc
    refine st_catch h [] ({ startPc := 0, endPc := 10, handlerPc := 13, catchType := 13 }) [] rfl (fun _ z => nomatch z) (by decide) (by decide) (name := "java/util/NoSuchElementException") kw_115 kt_131 (fun q_18 => ?_)
    replace vc := vc q_18
    refine sr_astore (lv' := [(0, .ref a0), (1, .int v1), (2, .int v2), (3, .ref a3), (4, .ref q_18)]) h dL_apart_13 (by decide) rfl ?_
    refine sr_iconst (v := 1) h dL_apart_15 (by decide) ?_
    exact sr_iret h dL_apart_16 hc_3.1 hc_3.2 vc
theorem opL_apart {l : Launch} {κ : sp_K} {mc ms : Nat} {Rt : Option Value → sp_M → Prop} {Xt : String → sp_M → Prop} {μ : sp_M} {a0 : Nat} {v1 : Int32} {v2 : Int32} {a3 : Nat} (htr : l.stackTraces = false) (body : ∀ x : sp_X, x.2.1.stackTraces = false → cxL_apart κ x mc ms → sp_w κ x (sp_F κ x Rt Xt mc ms) 0 0 0 [(0, .ref a0), (1, .int v1), (2, .int v2), (3, .ref a3)] [] μ) : sp_m l κ yL_apart wL_apart 8 137 mc ms [.ref a0, .int v1, .int v2, .ref a3] μ Rt Xt :=
  sp_openH htr (by decide +kernel) rfl (Nat.le_of_ble_eq_true rfl) (by intro v hv; simp only [List.mem_cons, List.not_mem_nil, or_false] at hv; rcases hv with rfl | rfl | rfl | rfl <;> first | rfl | exact sp_c1o _) (fun x hx h => body x (by rw [hx]; exact htr) h)

abbrev cxL_latest (κ : sp_K) (x : sp_X) (mc ms : Nat) : Prop := sp_C κ x cL_latest 6 RL (some .int) (tableOf hhL_latest) "latest" (sp_rm 8 142 mc ms)
set_option maxRecDepth 100000 in
set_option maxHeartbeats 4000000 in
theorem bkL_latest_0 {κ : sp_K} {x : sp_X} {mc ms : Nat} {Rt : Option Value → sp_M → Prop} {Xt : String → sp_M → Prop} {μ : sp_M} {k n : Nat} {a0 : Nat} {v1 : Int32} {v2 : Int32} {v3 : Int32} {a4 : Nat} (h : cxL_latest κ x mc ms) (hk : k ≤ mc ∧ n ≤ ms)
    (vc : (∃ mc_1 ms_2 : Nat, (k + mc_1 ≤ mc ∧ n + ms_2 ≤ ms) ∧ ∃ fs_6 : List Value, μ a0 = some (.inr (2, fs_6)) ∧ sp_m x.2.1 κ yE_latest wE_latest 7 111 mc_1 ms_2 [.ref a0, .int v1, .int v2, .int v3] μ (fun v_4 μ_5 => ∃ v_9 : Int32, v_4 = some (.int v_9) ∧ (∃ (N_10 : Nat) (f_11 : Nat → Int64), μ_5 a4 = some (sp_la κ N_10 f_11) ∧ ∃ j_13 : Nat, 0 = nI j_13 ∧ j_13 < N_10 ∧ ∀ μ_16 : sp_M, μ_16 = va_up μ_5 a4 (some (sp_la κ N_10 (vp_updL f_11 j_13 (Int32.toInt64 v_9)))) → Rt (some (.int 0)) μ_16)) (fun E_17 μ_5 => ((E_17 = "java/util/NoSuchElementException" ∧ ∀ q_18 : Nat, Rt (some (.int 1)) μ_5))))) : sp_w κ x (sp_F κ x Rt Xt mc ms) k n 0 [(0, .ref a0), (1, .int v1), (2, .int v2), (3, .int v3), (4, .ref a4)] [] μ := by
  refine sr_aload h dL_latest_0 4 rfl ?_
  refine sr_iconst (v := 0) h dL_latest_2 (by decide) ?_
  refine sr_aload_n h dL_latest_3 rfl 0 rfl ?_
  refine sr_iload_n h dL_latest_4 rfl 1 rfl ?_
  refine sr_iload_n h dL_latest_5 rfl 2 rfl ?_
  refine sr_iload_n h dL_latest_6 rfl 3 rfl ?_
  obtain ⟨mc_1, ms_2, hc_3, vc⟩ := vc
  obtain ⟨fs_6, ho_7, vc⟩ := vc
  refine sr_callV (y := yE_latest) (n0 := 3) (As := [.int v1, .int v2, .int v3]) h (sp_gV kw_434 kw_435 kw_436 kw_34 kw_437) rfl (by decide +kernel) ⟨Nat.le_of_ble_eq_true rfl, Nat.le_of_ble_eq_true rfl⟩ (ci := 2) rfl dL_latest_7 rfl rfl (Nat.le_of_ble_eq_true rfl) hc_3 ho_7 vc (fun v_4 μ_5 vc' => ?_) (fun E_17 μ_5 vc' => ?_)
  · replace vc := vc'
    clear vc'
    obtain ⟨v_9, rfl, vc⟩ := vc
    refine sr_i2l h dL_latest_10 ?_
    obtain ⟨N_10, f_11, ho_12, vc⟩ := vc
    obtain ⟨j_13, hi_14, hj_15, vc⟩ := vc
    replace vc := vc _ rfl
    refine sr_last h dL_latest_11 ho_12 hi_14 hj_15 ?_
    refine sr_goto (tgt := 19) h dL_latest_12 (by decide) ?_
    refine sr_iconst (v := 0) h dL_latest_19 (by decide) ?_
    exact sr_iret h dL_latest_20 hc_3.1 hc_3.2 vc
  · replace vc := vc'
    clear vc'
    obtain ⟨rfl, vc⟩ := vc
    refine st_catch h [] ({ startPc := 0, endPc := 12, handlerPc := 15, catchType := 13 }) [] rfl (fun _ z => nomatch z) (by decide) (by decide) (name := "java/util/NoSuchElementException") kw_115 kt_131 (fun q_18 => ?_)
    replace vc := vc q_18
    refine sr_astore (lv' := [(0, .ref a0), (1, .int v1), (2, .int v2), (3, .int v3), (4, .ref a4), (5, .ref q_18)]) h dL_latest_15 (by decide) rfl ?_
    refine sr_iconst (v := 1) h dL_latest_17 (by decide) ?_
    exact sr_iret h dL_latest_18 hc_3.1 hc_3.2 vc
theorem opL_latest {l : Launch} {κ : sp_K} {mc ms : Nat} {Rt : Option Value → sp_M → Prop} {Xt : String → sp_M → Prop} {μ : sp_M} {a0 : Nat} {v1 : Int32} {v2 : Int32} {v3 : Int32} {a4 : Nat} (htr : l.stackTraces = false) (body : ∀ x : sp_X, x.2.1.stackTraces = false → cxL_latest κ x mc ms → sp_w κ x (sp_F κ x Rt Xt mc ms) 0 0 0 [(0, .ref a0), (1, .int v1), (2, .int v2), (3, .int v3), (4, .ref a4)] [] μ) : sp_m l κ yL_latest wL_latest 8 142 mc ms [.ref a0, .int v1, .int v2, .int v3, .ref a4] μ Rt Xt :=
  sp_openH htr (by decide +kernel) rfl (Nat.le_of_ble_eq_true rfl) (by intro v hv; simp only [List.mem_cons, List.not_mem_nil, or_false] at hv; rcases hv with rfl | rfl | rfl | rfl | rfl <;> first | rfl | exact sp_c1o _) (fun x hx h => body x (by rw [hx]; exact htr) h)

abbrev cxL_head (κ : sp_K) (x : sp_X) (mc ms : Nat) : Prop := sp_C κ x cL_head 4 RL (some .int) (tableOf hhL_head) "head" (sp_rm 7 116 mc ms)
set_option maxRecDepth 100000 in
set_option maxHeartbeats 4000000 in
theorem bkL_head_0 {κ : sp_K} {x : sp_X} {mc ms : Nat} {Rt : Option Value → sp_M → Prop} {Xt : String → sp_M → Prop} {μ : sp_M} {k n : Nat} {a0 : Nat} {v1 : Int32} {a2 : Nat} (h : cxL_head κ x mc ms) (hk : k ≤ mc ∧ n ≤ ms)
    (vc : (∃ mc_1 ms_2 : Nat, (k + mc_1 ≤ mc ∧ n + ms_2 ≤ ms) ∧ ∃ fs_6 : List Value, μ a0 = some (.inr (2, fs_6)) ∧ sp_m x.2.1 κ yE_head wE_head 6 90 mc_1 ms_2 [.ref a0, .int v1] μ (fun v_4 μ_5 => ∃ v_9 : Int32, v_4 = some (.int v_9) ∧ (∃ (N_10 : Nat) (f_11 : Nat → Int64), μ_5 a2 = some (sp_la κ N_10 f_11) ∧ ∃ j_13 : Nat, 0 = nI j_13 ∧ j_13 < N_10 ∧ ∀ μ_16 : sp_M, μ_16 = va_up μ_5 a2 (some (sp_la κ N_10 (vp_updL f_11 j_13 (Int32.toInt64 v_9)))) → Rt (some (.int 0)) μ_16)) (fun E_17 μ_5 => ((E_17 = "java/util/NoSuchElementException" ∧ ∀ q_18 : Nat, Rt (some (.int 1)) μ_5))))) : sp_w κ x (sp_F κ x Rt Xt mc ms) k n 0 [(0, .ref a0), (1, .int v1), (2, .ref a2)] [] μ := by
  refine sr_aload_n h dL_head_0 rfl 2 rfl ?_
  refine sr_iconst (v := 0) h dL_head_1 (by decide) ?_
  refine sr_aload_n h dL_head_2 rfl 0 rfl ?_
  refine sr_iload_n h dL_head_3 rfl 1 rfl ?_
  obtain ⟨mc_1, ms_2, hc_3, vc⟩ := vc
  obtain ⟨fs_6, ho_7, vc⟩ := vc
  refine sr_callV (y := yE_head) (n0 := 1) (As := [.int v1]) h (sp_gV kw_441 kw_442 kw_443 kw_34 kw_444) rfl (by decide +kernel) ⟨Nat.le_of_ble_eq_true rfl, Nat.le_of_ble_eq_true rfl⟩ (ci := 2) rfl dL_head_4 rfl rfl (Nat.le_of_ble_eq_true rfl) hc_3 ho_7 vc (fun v_4 μ_5 vc' => ?_) (fun E_17 μ_5 vc' => ?_)
  · replace vc := vc'
    clear vc'
    obtain ⟨v_9, rfl, vc⟩ := vc
    refine sr_i2l h dL_head_7 ?_
    obtain ⟨N_10, f_11, ho_12, vc⟩ := vc
    obtain ⟨j_13, hi_14, hj_15, vc⟩ := vc
    replace vc := vc _ rfl
    refine sr_last h dL_head_8 ho_12 hi_14 hj_15 ?_
    refine sr_goto (tgt := 15) h dL_head_9 (by decide) ?_
    refine sr_iconst (v := 0) h dL_head_15 (by decide) ?_
    exact sr_iret h dL_head_16 hc_3.1 hc_3.2 vc
  · replace vc := vc'
    clear vc'
    obtain ⟨rfl, vc⟩ := vc
    refine st_catch h [] ({ startPc := 0, endPc := 9, handlerPc := 12, catchType := 13 }) [] rfl (fun _ z => nomatch z) (by decide) (by decide) (name := "java/util/NoSuchElementException") kw_115 kt_131 (fun q_18 => ?_)
    replace vc := vc q_18
    refine sr_astore_n (lv' := [(0, .ref a0), (1, .int v1), (2, .ref a2), (3, .ref q_18)]) h dL_head_12 rfl (by decide) rfl ?_
    refine sr_iconst (v := 1) h dL_head_13 (by decide) ?_
    exact sr_iret h dL_head_14 hc_3.1 hc_3.2 vc
theorem opL_head {l : Launch} {κ : sp_K} {mc ms : Nat} {Rt : Option Value → sp_M → Prop} {Xt : String → sp_M → Prop} {μ : sp_M} {a0 : Nat} {v1 : Int32} {a2 : Nat} (htr : l.stackTraces = false) (body : ∀ x : sp_X, x.2.1.stackTraces = false → cxL_head κ x mc ms → sp_w κ x (sp_F κ x Rt Xt mc ms) 0 0 0 [(0, .ref a0), (1, .int v1), (2, .ref a2)] [] μ) : sp_m l κ yL_head wL_head 7 116 mc ms [.ref a0, .int v1, .ref a2] μ Rt Xt :=
  sp_openH htr (by decide +kernel) rfl (Nat.le_of_ble_eq_true rfl) (by intro v hv; simp only [List.mem_cons, List.not_mem_nil, or_false] at hv; rcases hv with rfl | rfl | rfl <;> first | rfl | exact sp_c1o _) (fun x hx h => body x (by rw [hx]; exact htr) h)
