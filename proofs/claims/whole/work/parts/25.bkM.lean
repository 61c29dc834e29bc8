abbrev cxM_thrown (κ : sp_K) (x : sp_X) (mc ms : Nat) : Prop := sp_C κ x cM_thrown 1 RM (some .int) [] "thrown" (sp_rm 0 0 mc ms)
set_option maxRecDepth 100000 in
set_option maxHeartbeats 4000000 in
theorem bkM_thrown_0 {κ : sp_K} {x : sp_X} {mc ms : Nat} {Rt : Option Value → sp_M → Prop} {Xt : String → sp_M → Prop} {μ : sp_M} {k n : Nat} {a0 : Nat} (h : cxM_thrown κ x mc ms) (hk : k ≤ mc ∧ n ≤ ms)
    (vc : (∃ fs_1 : List Value, μ a0 = some (.inr (3, fs_1)) ∧ ∃ v_3 : Int32, fs_1[13]? = some (.int v_3) ∧ Rt (some (.int v_3)) μ)) : sp_w κ x (sp_F κ x Rt Xt mc ms) k n 0 [(0, .ref a0)] [] μ := by
  refine sr_aload_n h dM_thrown_0 rfl 0 rfl ?_
  obtain ⟨fs_1, ho_2, vc⟩ := vc
  obtain ⟨v_3, hv_4, vc⟩ := vc
  refine sr_get h inM rfl 13 (by decide) kw_467 dM_thrown_1 ho_2 hv_4 ?_
  exact sr_iret h dM_thrown_4 hk.1 hk.2 vc
theorem opM_thrown {l : Launch} {κ : sp_K} {mc ms : Nat} {Rt : Option Value → sp_M → Prop} {Xt : String → sp_M → Prop} {μ : sp_M} {a0 : Nat} (htr : l.stackTraces = false) (body : ∀ x : sp_X, x.2.1.stackTraces = false → cxM_thrown κ x mc ms → sp_w κ x (sp_F κ x Rt Xt mc ms) 0 0 0 [(0, .ref a0)] [] μ) : sp_m l κ yM_thrown wM_thrown 0 0 mc ms [.ref a0] μ Rt Xt :=
  sp_open htr (by decide +kernel) rfl (Nat.le_of_ble_eq_true rfl) (by intro v hv; simp only [List.mem_cons, List.not_mem_nil, or_false] at hv; subst hv; first | rfl | exact sp_c1o _) (fun x hx h => body x (by rw [hx]; exact htr) h)

abbrev cxM_parent (κ : sp_K) (x : sp_X) (mc ms : Nat) : Prop := sp_C κ x cM_parent 4 RM (some .int) (tableOf hhM_parent) "parent" (sp_rm 8 134 mc ms)
set_option maxRecDepth 100000 in
set_option maxHeartbeats 4000000 in
theorem bkM_parent_0 {κ : sp_K} {x : sp_X} {mc ms : Nat} {Rt : Option Value → sp_M → Prop} {Xt : String → sp_M → Prop} {μ : sp_M} {k n : Nat} {a0 : Nat} {v1 : Int32} {v2 : Int32} (h : cxM_parent κ x mc ms) (hk : k ≤ mc ∧ n ≤ ms)
    (vc : (∃ fs_1 : List Value, μ a0 = some (.inr (3, fs_1)) ∧ 13 < fs_1.length ∧ ∀ μ_3 : sp_M, μ_3 = va_up μ a0 (some (.inr (3, fs_1.set 13 (.int 0)))) → (∃ mc_5 ms_6 : Nat, (k + mc_5 ≤ mc ∧ n + ms_6 ≤ ms) ∧ ∃ fs_10 : List Value, μ_3 a0 = some (.inr (3, fs_10)) ∧ sp_m x.2.1 κ yM_parent0 wM_parent0 7 110 mc_5 ms_6 [.ref a0, .int v1, .int v2] μ_3 (fun v_8 μ_9 => ∃ v_13 : Int32, v_8 = some (.int v_13) ∧ Rt (some (.int v_13)) μ_9) (fun E_14 μ_9 => ((E_14 = "java/util/NoSuchElementException" ∧ ∀ q_15 : Nat, (∃ fs_16 : List Value, μ_9 a0 = some (.inr (3, fs_16)) ∧ 13 < fs_16.length ∧ ∀ μ_18 : sp_M, μ_18 = va_up μ_9 a0 (some (.inr (3, fs_16.set 13 (.int 1)))) → Rt (some (.int 0)) μ_18)) ∨ (E_14 = "java/lang/UnsupportedOperationException" ∧ ∀ q_20 : Nat, (∃ fs_21 : List Value, μ_9 a0 = some (.inr (3, fs_21)) ∧ 13 < fs_21.length ∧ ∀ μ_23 : sp_M, μ_23 = va_up μ_9 a0 (some (.inr (3, fs_21.set 13 (.int 2)))) → Rt (some (.int 0)) μ_23)) ∨ (E_14 = "java/lang/IllegalStateException" ∧ ∀ q_25 : Nat, (∃ fs_26 : List Value, μ_9 a0 = some (.inr (3, fs_26)) ∧ 13 < fs_26.length ∧ ∀ μ_28 : sp_M, μ_28 = va_up μ_9 a0 (some (.inr (3, fs_26.set 13 (.int 3)))) → Rt (some (.int 0)) μ_28))))))) : sp_w κ x (sp_F κ x Rt Xt mc ms) k n 0 [(0, .ref a0), (1, .int v1), (2, .int v2)] [] μ := by
  refine sr_aload_n h dM_parent_0 rfl 0 rfl ?_
  refine sr_iconst (v := 0) h dM_parent_1 (by decide) ?_
  obtain ⟨fs_1, ho_2, vc⟩ := vc
  obtain ⟨hl_4, vc⟩ := vc
  replace vc := vc _ rfl
  refine sr_put h inM tyM tyM_ok nmM rfl 13 (by decide) kw_467 rfl dM_parent_2 ho_2 rfl rfl hl_4 ?_
  refine sr_aload_n h dM_parent_5 rfl 0 rfl ?_
  refine sr_iload_n h dM_parent_6 rfl 1 rfl ?_
  refine sr_iload_n h dM_parent_7 rfl 2 rfl ?_
  obtain ⟨mc_5, ms_6, hc_7, vc⟩ := vc
  obtain ⟨fs_10, ho_11, vc⟩ := vc
  refine sr_callV (y := yM_parent0) (n0 := 2) (As := [.int v1, .int v2]) h (sp_gV kw_509 kw_511 kw_12 kw_35 kw_512) rfl (by decide +kernel) ⟨Nat.le_of_ble_eq_true rfl, Nat.le_of_ble_eq_true rfl⟩ (ci := 3) rfl dM_parent_8 rfl rfl (Nat.le_of_ble_eq_true rfl) hc_7 ho_11 vc (fun v_8 μ_9 vc' => ?_) (fun E_14 μ_9 vc' => ?_)
  · replace vc := vc'
    clear vc'
    obtain ⟨v_13, rfl, vc⟩ := vc
    exact sr_iret h dM_parent_11 hc_7.1 hc_7.2 vc
  · replace vc := vc'
    clear vc'
    rcases vc with ⟨rfl, vc⟩ | ⟨rfl, vc⟩ | ⟨rfl, vc⟩
    · refine st_catch h [] ({ startPc := 5, endPc := 11, handlerPc := 12, catchType := 44 }) [{ startPc := 5, endPc := 11, handlerPc := 21, catchType := 69 }, { startPc := 5, endPc := 11, handlerPc := 30, catchType := 72 }] rfl (fun _ z => nomatch z) (by decide) (by decide) (name := "java/util/NoSuchElementException") kw_506 kt_131 (fun q_15 => ?_)
      replace vc := vc q_15
      refine sr_astore_n (lv' := [(0, .ref a0), (1, .int v1), (2, .int v2), (3, .ref q_15)]) h dM_parent_12 rfl (by decide) rfl ?_
      refine sr_aload_n h dM_parent_13 rfl 0 rfl ?_
      refine sr_iconst (v := 1) h dM_parent_14 (by decide) ?_
      obtain ⟨fs_16, ho_17, vc⟩ := vc
      obtain ⟨hl_19, vc⟩ := vc
      replace vc := vc _ rfl
      refine sr_put h inM tyM tyM_ok nmM rfl 13 (by decide) kw_467 rfl dM_parent_15 ho_17 rfl rfl hl_19 ?_
      refine sr_goto (tgt := 36) h dM_parent_18 (by decide) ?_
      refine sr_iconst (v := 0) h dM_parent_36 (by decide) ?_
      exact sr_iret h dM_parent_37 hc_7.1 hc_7.2 vc
    · refine st_catch h [{ startPc := 5, endPc := 11, handlerPc := 12, catchType := 44 }] ({ startPc := 5, endPc := 11, handlerPc := 21, catchType := 69 }) [{ startPc := 5, endPc := 11, handlerPc := 30, catchType := 72 }] rfl (fun w hw => by simp only [List.mem_cons, List.not_mem_nil, or_false] at hw; subst hw; exact Or.inr ⟨by decide, "java/util/NoSuchElementException", kw_506, by decide +kernel⟩) (by decide) (by decide) (name := "java/lang/UnsupportedOperationException") kw_507 kt_211 (fun q_20 => ?_)
      replace vc := vc q_20
      refine sr_astore_n (lv' := [(0, .ref a0), (1, .int v1), (2, .int v2), (3, .ref q_20)]) h dM_parent_21 rfl (by decide) rfl ?_
      refine sr_aload_n h dM_parent_22 rfl 0 rfl ?_
      refine sr_iconst (v := 2) h dM_parent_23 (by decide) ?_
      obtain ⟨fs_21, ho_22, vc⟩ := vc
      obtain ⟨hl_24, vc⟩ := vc
      replace vc := vc _ rfl
      refine sr_put h inM tyM tyM_ok nmM rfl 13 (by decide) kw_467 rfl dM_parent_24 ho_22 rfl rfl hl_24 ?_
      refine sr_goto (tgt := 36) h dM_parent_27 (by decide) ?_
      refine sr_iconst (v := 0) h dM_parent_36 (by decide) ?_
      exact sr_iret h dM_parent_37 hc_7.1 hc_7.2 vc
    · refine st_catch h [{ startPc := 5, endPc := 11, handlerPc := 12, catchType := 44 }, { startPc := 5, endPc := 11, handlerPc := 21, catchType := 69 }] ({ startPc := 5, endPc := 11, handlerPc := 30, catchType := 72 }) [] rfl (fun w hw => by simp only [List.mem_cons, List.not_mem_nil, or_false] at hw; rcases hw with rfl | rfl <;> first | exact Or.inr ⟨by decide, "java/util/NoSuchElementException", kw_506, by decide +kernel⟩ | exact Or.inr ⟨by decide, "java/lang/UnsupportedOperationException", kw_507, by decide +kernel⟩) (by decide) (by decide) (name := "java/lang/IllegalStateException") kw_508 kt_226 (fun q_25 => ?_)
      replace vc := vc q_25
      refine sr_astore_n (lv' := [(0, .ref a0), (1, .int v1), (2, .int v2), (3, .ref q_25)]) h dM_parent_30 rfl (by decide) rfl ?_
      refine sr_aload_n h dM_parent_31 rfl 0 rfl ?_
      refine sr_iconst (v := 3) h dM_parent_32 (by decide) ?_
      obtain ⟨fs_26, ho_27, vc⟩ := vc
      obtain ⟨hl_29, vc⟩ := vc
      replace vc := vc _ rfl
      refine sr_put h inM tyM tyM_ok nmM rfl 13 (by decide) kw_467 rfl dM_parent_33 ho_27 rfl rfl hl_29 ?_
      refine sr_iconst (v := 0) h dM_parent_36 (by decide) ?_
      exact sr_iret h dM_parent_37 hc_7.1 hc_7.2 vc
theorem opM_parent {l : Launch} {κ : sp_K} {mc ms : Nat} {Rt : Option Value → sp_M → Prop} {Xt : String → sp_M → Prop} {μ : sp_M} {a0 : Nat} {v1 : Int32} {v2 : Int32} (htr : l.stackTraces = false) (body : ∀ x : sp_X, x.2.1.stackTraces = false → cxM_parent κ x mc ms → sp_w κ x (sp_F κ x Rt Xt mc ms) 0 0 0 [(0, .ref a0), (1, .int v1), (2, .int v2)] [] μ) : sp_m l κ yM_parent wM_parent 8 134 mc ms [.ref a0, .int v1, .int v2] μ Rt Xt :=
  sp_openH htr (by decide +kernel) rfl (Nat.le_of_ble_eq_true rfl) (by intro v hv; simp only [List.mem_cons, List.not_mem_nil, or_false] at hv; rcases hv with rfl | rfl | rfl <;> first | rfl | exact sp_c1o _) (fun x hx h => body x (by rw [hx]; exact htr) h)

abbrev cxM_parent0 (κ : sp_K) (x : sp_X) (mc ms : Nat) : Prop := sp_C κ x cM_parent0 5 RM (some .int) [] "parent0" (sp_rm 7 110 mc ms)
set_option maxRecDepth 100000 in
set_option maxHeartbeats 4000000 in
theorem bkM_parent0_0 {κ : sp_K} {x : sp_X} {mc ms : Nat} {Rt : Option Value → sp_M → Prop} {Xt : String → sp_M → Prop} {μ : sp_M} {k n : Nat} {a0 : Nat} {v1 : Int32} {v2 : Int32} (h : cxM_parent0 κ x mc ms) (hk : k ≤ mc ∧ n ≤ ms)
    (vc : (∃ mc_1 ms_2 : Nat, (k + mc_1 ≤ mc ∧ n + ms_2 ≤ ms) ∧ ∃ fs_6 : List Value, μ a0 = some (.inr (3, fs_6)) ∧ sp_m x.2.1 κ yM_find wM_find 1 22 mc_1 ms_2 [.ref a0, .int v1, .int v2] μ (fun v_4 μ_5 => ∃ v_9 : Int32, v_4 = some (.int v_9) ∧ ((v_9 < 0 → (∃ mc_10 ms_11 : Nat, ((k + mc_1) + mc_10 ≤ mc ∧ (n + ms_2) + ms_11 ≤ ms) ∧ sp_m x.2.1 κ yM_there wM_there 6 90 mc_10 ms_11 [.int 0] μ_5 (fun v_13 μ_14 => v_13 = none ∧ sp_w κ x (sp_F κ x Rt Xt mc ms) (k + mc_1 + mc_10) (n + ms_2 + ms_11) 22 [(0, .ref a0), (1, .int v1), (2, .int v2), (3, .int v_9), (4, .int 0)] [] μ_14) (fun E_16 μ_14 => Xt E_16 μ_14))) ∧ (¬ v_9 < 0 → (∃ mc_17 ms_18 : Nat, ((k + mc_1) + mc_17 ≤ mc ∧ (n + ms_2) + ms_18 ≤ ms) ∧ sp_m x.2.1 κ yM_there wM_there 6 90 mc_17 ms_18 [.int 1] μ_5 (fun v_20 μ_21 => v_20 = none ∧ sp_w κ x (sp_F κ x Rt Xt mc ms) (k + mc_1 + mc_17) (n + ms_2 + ms_18) 22 [(0, .ref a0), (1, .int v1), (2, .int v2), (3, .int v_9), (4, .int 0)] [] μ_21) (fun E_23 μ_21 => Xt E_23 μ_21))))) (fun E_25 μ_5 => Xt E_25 μ_5))) : sp_w κ x (sp_F κ x Rt Xt mc ms) k n 0 [(0, .ref a0), (1, .int v1), (2, .int v2)] [] μ := by
  refine sr_aload_n h dM_parent0_0 rfl 0 rfl ?_
  refine sr_iload_n h dM_parent0_1 rfl 1 rfl ?_
  refine sr_iload_n h dM_parent0_2 rfl 2 rfl ?_
  obtain ⟨mc_1, ms_2, hc_3, vc⟩ := vc
  obtain ⟨fs_6, ho_7, vc⟩ := vc
  refine sr_callV (y := yM_find) (n0 := 2) (As := [.int v1, .int v2]) h (sp_gV kw_513 kw_515 kw_13 kw_35 kw_516) rfl (by decide +kernel) ⟨Nat.le_of_ble_eq_true rfl, Nat.le_of_ble_eq_true rfl⟩ (ci := 3) rfl dM_parent0_3 rfl rfl (Nat.le_of_ble_eq_true rfl) hc_3 ho_7 vc (fun v_4 μ_5 vc' => ?_) (fun E_25 μ_5 vc' => ?_)
  · replace vc := vc'
    clear vc'
    obtain ⟨v_9, rfl, vc⟩ := vc
    refine sr_istore_n (lv' := [(0, .ref a0), (1, .int v1), (2, .int v2), (3, .int v_9)]) h dM_parent0_6 rfl (by decide) rfl ?_
    refine sr_iload_n h dM_parent0_7 rfl 3 rfl ?_
    refine sr_if_lt (tgt := 15) h dM_parent0_8 (by decide) (fun c_24 => ?_) (fun c_24 => ?_)
    · replace vc := vc.1 c_24
      refine sr_iconst (v := 0) h dM_parent0_15 (by decide) ?_
      obtain ⟨mc_10, ms_11, hc_12, vc⟩ := vc
      refine sr_callS (y := yM_there) (n0 := 1) (As := [.int 0]) (st := []) h (sp_gS kw_521 kw_522 kw_35 kw_523) rfl (by decide +kernel) ⟨Nat.le_of_ble_eq_true rfl, Nat.le_of_ble_eq_true rfl⟩ dM_parent0_16 rfl rfl (Nat.le_of_ble_eq_true rfl) hc_12 vc (fun v_13 μ_14 vc' => ?_) (fun E_16 μ_14 vc' => ?_)
      · replace vc := vc'
        clear vc'
        obtain ⟨rfl, vc⟩ := vc
        refine sr_iconst (v := 0) h dM_parent0_19 (by decide) ?_
        refine sr_istore (lv' := [(0, .ref a0), (1, .int v1), (2, .int v2), (3, .int v_9), (4, .int 0)]) h dM_parent0_20 (by decide) rfl ?_
        exact vc
      · replace vc := vc'
        clear vc'
        exact st_out h (fun _ z => nomatch z) hc_12.1 hc_12.2 vc
    · replace vc := vc.2 c_24
      refine sr_iconst (v := 1) h dM_parent0_11 (by decide) ?_
      refine sr_goto (tgt := 16) h dM_parent0_12 (by decide) ?_
      obtain ⟨mc_17, ms_18, hc_19, vc⟩ := vc
      refine sr_callS (y := yM_there) (n0 := 1) (As := [.int 1]) (st := []) h (sp_gS kw_521 kw_522 kw_35 kw_523) rfl (by decide +kernel) ⟨Nat.le_of_ble_eq_true rfl, Nat.le_of_ble_eq_true rfl⟩ dM_parent0_16 rfl rfl (Nat.le_of_ble_eq_true rfl) hc_19 vc (fun v_20 μ_21 vc' => ?_) (fun E_23 μ_21 vc' => ?_)
      · replace vc := vc'
        clear vc'
        obtain ⟨rfl, vc⟩ := vc
        refine sr_iconst (v := 0) h dM_parent0_19 (by decide) ?_
        refine sr_istore (lv' := [(0, .ref a0), (1, .int v1), (2, .int v2), (3, .int v_9), (4, .int 0)]) h dM_parent0_20 (by decide) rfl ?_
        exact vc
      · replace vc := vc'
        clear vc'
        exact st_out h (fun _ z => nomatch z) hc_19.1 hc_19.2 vc
  · replace vc := vc'
    clear vc'
    exact st_out h (fun _ z => nomatch z) hc_3.1 hc_3.2 vc
set_option maxRecDepth 100000 in
set_option maxHeartbeats 4000000 in
theorem bkM_parent0_22 {κ : sp_K} {x : sp_X} {mc ms : Nat} {Rt : Option Value → sp_M → Prop} {Xt : String → sp_M → Prop} {μ : sp_M} {k n : Nat} {a0 : Nat} {v1 : Int32} {v2 : Int32} {v3 : Int32} {v4 : Int32} (h : cxM_parent0 κ x mc ms) (hk : k ≤ mc ∧ n ≤ ms)
    (vc : (∃ fs_1 : List Value, μ a0 = some (.inr (3, fs_1)) ∧ ∃ v_3 : Int32, fs_1[11]? = some (.int v_3) ∧ ((v_3 ≤ v4 → (((¬ v_3 = 16 → (∃ r_5 : Option Nat, fs_1[10]? = some (va_rf r_5) ∧ ((∃ a_7 : Nat, r_5 = some a_7 ∧ ∃ (N_8 : Nat) (f_9 : Nat → Int32), μ a_7 = some (sp_ia κ N_8 f_9) ∧ ∃ j_11 : Nat, v_3 = nI j_11 ∧ j_11 < N_8 ∧ ∀ μ_14 : sp_M, μ_14 = va_up μ a_7 (some (sp_ia κ N_8 (upd f_9 j_11 v3))) → (∃ fs_15 : List Value, μ_14 a0 = some (.inr (3, fs_15)) ∧ ∃ v_17 : Int32, fs_15[11]? = some (.int v_17) ∧ (11 < fs_15.length ∧ ∀ μ_19 : sp_M, μ_19 = va_up μ_14 a0 (some (.inr (3, fs_15.set 11 (.int (v_17 + 1))))) → (∃ fs_21 : List Value, μ_19 a0 = some (.inr (3, fs_21)) ∧ ∃ v_23 : Int32, fs_21[11]? = some (.int v_23) ∧ Rt (some (.int v_23)) μ_19))))))) ∧ (v_3 = 16 → ((k + 1 ≤ mc ∧ n + 6 ≤ ms) ∧ Xt "java/lang/IllegalStateException" μ))))) ∧ (¬ v_3 ≤ v4 → (∃ r_27 : Option Nat, fs_1[10]? = some (va_rf r_27) ∧ (∃ a_29 : Nat, r_27 = some a_29 ∧ ∃ (N_30 : Nat) (f_31 : Nat → Int32), μ a_29 = some (sp_ia κ N_30 f_31) ∧ ∃ j_33 : Nat, v4 = nI j_33 ∧ j_33 < N_30 ∧ ((¬ (f_31 j_33) = v3 → sp_w κ x (sp_F κ x Rt Xt mc ms) k n 22 [(0, .ref a0), (1, .int v1), (2, .int v2), (3, .int v3), (4, .int (v4 + 1))] [] μ) ∧ ((f_31 j_33) = v3 → ((k + 1 ≤ mc ∧ n + 6 ≤ ms) ∧ Xt "java/lang/UnsupportedOperationException" μ))))))))) : sp_w κ x (sp_F κ x Rt Xt mc ms) k n 22 [(0, .ref a0), (1, .int v1), (2, .int v2), (3, .int v3), (4, .int v4)] [] μ := by
  refine sr_iload h dM_parent0_22 4 rfl ?_
  refine sr_aload_n h dM_parent0_24 rfl 0 rfl ?_
  obtain ⟨fs_1, ho_2, vc⟩ := vc
  obtain ⟨v_3, hv_4, vc⟩ := vc
  refine sr_get h inM rfl 11 (by decide) kw_465 dM_parent0_25 ho_2 hv_4 ?_
  refine sr_icmp_ge (tgt := 56) h dM_parent0_28 (by decide) (fun c_38 => ?_) (fun c_38 => ?_)
  · replace vc := vc.1 c_38
    refine sr_aload_n h dM_parent0_56 rfl 0 rfl ?_
    refine sr_get h inM rfl 11 (by decide) kw_465 dM_parent0_57 ho_2 hv_4 ?_
    refine sr_bipush (v := 16) h dM_parent0_60 (by decide) ?_
    refine sr_icmp_ne (tgt := 73) h dM_parent0_62 (by decide) (fun c_26 => ?_) (fun c_26 => ?_)
    · replace vc := vc.1 c_26
      refine sr_aload_n h dM_parent0_73 rfl 0 rfl ?_
      obtain ⟨r_5, hv_6, vc⟩ := vc
      refine sr_get h inM rfl 10 (by decide) kw_464 dM_parent0_74 ho_2 hv_6 ?_
      refine sr_aload_n h dM_parent0_77 rfl 0 rfl ?_
      refine sr_get h inM rfl 11 (by decide) kw_465 dM_parent0_78 ho_2 hv_4 ?_
      refine sr_iload_n h dM_parent0_81 rfl 3 rfl ?_
      obtain ⟨a_7, rfl, vc⟩ := vc
      obtain ⟨N_8, f_9, ho_10, vc⟩ := vc
      obtain ⟨j_11, hi_12, hj_13, vc⟩ := vc
      replace vc := vc _ rfl
      refine sr_iast h dM_parent0_82 ho_10 hi_12 hj_13 ?_
      refine sr_aload_n h dM_parent0_83 rfl 0 rfl ?_
      refine sr_dup h dM_parent0_84 (sp_c1r _) ?_
      obtain ⟨fs_15, ho_16, vc⟩ := vc
      obtain ⟨v_17, hv_18, vc⟩ := vc
      refine sr_get h inM rfl 11 (by decide) kw_465 dM_parent0_85 ho_16 hv_18 ?_
      refine sr_iconst (v := 1) h dM_parent0_88 (by decide) ?_
      refine sr_iadd h dM_parent0_89 ?_
      obtain ⟨hl_20, vc⟩ := vc
      replace vc := vc _ rfl
      refine sr_put h inM tyM tyM_ok nmM rfl 11 (by decide) kw_465 rfl dM_parent0_90 ho_16 rfl rfl hl_20 ?_
      refine sr_aload_n h dM_parent0_93 rfl 0 rfl ?_
      obtain ⟨fs_21, ho_22, vc⟩ := vc
      obtain ⟨v_23, hv_24, vc⟩ := vc
      refine sr_get h inM rfl 11 (by decide) kw_465 dM_parent0_94 ho_22 hv_24 ?_
      exact sr_iret h dM_parent0_97 hk.1 hk.2 vc
    · replace vc := vc.2 c_26
      obtain ⟨hc_25, vc⟩ := vc
      exact sr_throw0 (names := ["java/lang/RuntimeException", "java/lang/Exception"]) h (by decide +kernel) (by decide +kernel) kw_508 kw_41 ka_M_74 kg_M_74 dM_parent0_65 dM_parent0_68 dM_parent0_69 dM_parent0_72 (fun _ z => nomatch z) (Nat.le_of_ble_eq_true rfl) (Nat.le_of_ble_eq_true rfl) hc_25.1 hc_25.2 hc_25.1 hc_25.2 vc
  · replace vc := vc.2 c_38
    refine sr_aload_n h dM_parent0_31 rfl 0 rfl ?_
    obtain ⟨r_27, hv_28, vc⟩ := vc
    refine sr_get h inM rfl 10 (by decide) kw_464 dM_parent0_32 ho_2 hv_28 ?_
    refine sr_iload h dM_parent0_35 4 rfl ?_
    obtain ⟨a_29, rfl, vc⟩ := vc
    obtain ⟨N_30, f_31, ho_32, vc⟩ := vc
    obtain ⟨j_33, hi_34, hj_35, vc⟩ := vc
    refine sr_iald h dM_parent0_37 ho_32 hi_34 hj_35 ?_
    refine sr_iload_n h dM_parent0_38 rfl 3 rfl ?_
    refine sr_icmp_ne (tgt := 50) h dM_parent0_39 (by decide) (fun c_37 => ?_) (fun c_37 => ?_)
    · replace vc := vc.1 c_37
      refine sr_iinc (u := v4 + 1) (lv' := [(0, .ref a0), (1, .int v1), (2, .int v2), (3, .int v3), (4, .int (v4 + 1))]) h dM_parent0_50 4 rfl rfl (by decide) rfl ?_
      refine sr_goto (tgt := 22) h dM_parent0_53 (by decide) ?_
      exact vc
    · replace vc := vc.2 c_37
      obtain ⟨hc_36, vc⟩ := vc
      exact sr_throw0 (names := ["java/lang/RuntimeException", "java/lang/Exception"]) h (by decide +kernel) (by decide +kernel) kw_507 kw_40 ka_M_71 kg_M_71 dM_parent0_42 dM_parent0_45 dM_parent0_46 dM_parent0_49 (fun _ z => nomatch z) (Nat.le_of_ble_eq_true rfl) (Nat.le_of_ble_eq_true rfl) hc_36.1 hc_36.2 hc_36.1 hc_36.2 vc
theorem opM_parent0 {l : Launch} {κ : sp_K} {mc ms : Nat} {Rt : Option Value → sp_M → Prop} {Xt : String → sp_M → Prop} {μ : sp_M} {a0 : Nat} {v1 : Int32} {v2 : Int32} (htr : l.stackTraces = false) (body : ∀ x : sp_X, x.2.1.stackTraces = false → cxM_parent0 κ x mc ms → sp_w κ x (sp_F κ x Rt Xt mc ms) 0 0 0 [(0, .ref a0), (1, .int v1), (2, .int v2)] [] μ) : sp_m l κ yM_parent0 wM_parent0 7 110 mc ms [.ref a0, .int v1, .int v2] μ Rt Xt :=
  sp_open htr (by decide +kernel) rfl (Nat.le_of_ble_eq_true rfl) (by intro v hv; simp only [List.mem_cons, List.not_mem_nil, or_false] at hv; rcases hv with rfl | rfl | rfl <;> first | rfl | exact sp_c1o _) (fun x hx h => body x (by rw [hx]; exact htr) h)

abbrev cxM_find (κ : sp_K) (x : sp_X) (mc ms : Nat) : Prop := sp_C κ x cM_find 4 RM (some .int) [] "find" (sp_rm 1 22 mc ms)
set_option maxRecDepth 100000 in
set_option maxHeartbeats 4000000 in
theorem bkM_find_0 {κ : sp_K} {x : sp_X} {mc ms : Nat} {Rt : Option Value → sp_M → Prop} {Xt : String → sp_M → Prop} {μ : sp_M} {k n : Nat} {a0 : Nat} {v1 : Int32} {v2 : Int32} (h : cxM_find κ x mc ms) (hk : k ≤ mc ∧ n ≤ ms)
    (vc : (∃ mc_1 ms_2 : Nat, (k + mc_1 ≤ mc ∧ n + ms_2 ≤ ms) ∧ ∃ fs_6 : List Value, μ a0 = some (.inr (3, fs_6)) ∧ sp_m x.2.1 κ yM_slotOf wM_slotOf 0 0 mc_1 ms_2 [.ref a0, .int v1] μ (fun v_4 μ_5 => ∃ v_9 : Int32, v_4 = some (.int v_9) ∧ ((v_9 < 0 → Rt (some (.int (-1))) μ_5) ∧ (¬ v_9 < 0 → ((v2 < 0 → Rt (some (.int (-1))) μ_5) ∧ (¬ v2 < 0 → (∃ fs_10 : List Value, μ_5 a0 = some (.inr (3, fs_10)) ∧ ∃ r_12 : Option Nat, fs_10[1]? = some (va_rf r_12) ∧ (∃ a_14 : Nat, r_12 = some a_14 ∧ ∃ (N_15 : Nat) (f_16 : Nat → Int32), μ_5 a_14 = some (sp_ia κ N_15 f_16) ∧ ∃ j_18 : Nat, v_9 = nI j_18 ∧ j_18 < N_15 ∧ ((v2 < (f_16 j_18) → (∃ r_21 : Option Nat, fs_10[3]? = some (va_rf r_21) ∧ (∃ a_23 : Nat, r_21 = some a_23 ∧ ∃ (N_24 : Nat) (f_25 : Nat → Option Nat), μ_5 a_23 = some (sp_ra κ 5 N_24 f_25) ∧ ∃ j_27 : Nat, v_9 = nI j_27 ∧ j_27 < N_24 ∧ ∃ r_30 : Option Nat, f_25 j_27 = r_30 ∧ (∃ a_32 : Nat, r_30 = some a_32 ∧ ∃ (N_33 : Nat) (f_34 : Nat → Int32), μ_5 a_32 = some (sp_ia κ N_33 f_34) ∧ ∃ j_36 : Nat, v2 = nI j_36 ∧ j_36 < N_33 ∧ Rt (some (.int (f_34 j_36))) μ_5)))) ∧ (¬ v2 < (f_16 j_18) → Rt (some (.int (-1))) μ_5))))))))) (fun E_42 μ_5 => Xt E_42 μ_5))) : sp_w κ x (sp_F κ x Rt Xt mc ms) k n 0 [(0, .ref a0), (1, .int v1), (2, .int v2)] [] μ := by
  refine sr_aload_n h dM_find_0 rfl 0 rfl ?_
  refine sr_iload_n h dM_find_1 rfl 1 rfl ?_
  obtain ⟨mc_1, ms_2, hc_3, vc⟩ := vc
  obtain ⟨fs_6, ho_7, vc⟩ := vc
  refine sr_callV (y := yM_slotOf) (n0 := 1) (As := [.int v1]) h (sp_gV kw_517 kw_519 kw_14 kw_35 kw_520) rfl (by decide +kernel) ⟨Nat.le_of_ble_eq_true rfl, Nat.le_of_ble_eq_true rfl⟩ (ci := 3) rfl dM_find_2 rfl rfl (Nat.le_of_ble_eq_true rfl) hc_3 ho_7 vc (fun v_4 μ_5 vc' => ?_) (fun E_42 μ_5 vc' => ?_)
  · replace vc := vc'
    clear vc'
    obtain ⟨v_9, rfl, vc⟩ := vc
    refine sr_istore_n (lv' := [(0, .ref a0), (1, .int v1), (2, .int v2), (3, .int v_9)]) h dM_find_5 rfl (by decide) rfl ?_
    refine sr_iload_n h dM_find_6 rfl 3 rfl ?_
    refine sr_if_lt (tgt := 24) h dM_find_7 (by decide) (fun c_41 => ?_) (fun c_41 => ?_)
    · replace vc := vc.1 c_41
      refine sr_iconst (v := -1) h dM_find_24 (by decide) ?_
      exact sr_iret h dM_find_25 hc_3.1 hc_3.2 vc
    · replace vc := vc.2 c_41
      refine sr_iload_n h dM_find_10 rfl 2 rfl ?_
      refine sr_if_lt (tgt := 24) h dM_find_11 (by decide) (fun c_40 => ?_) (fun c_40 => ?_)
      · replace vc := vc.1 c_40
        refine sr_iconst (v := -1) h dM_find_24 (by decide) ?_
        exact sr_iret h dM_find_25 hc_3.1 hc_3.2 vc
      · replace vc := vc.2 c_40
        refine sr_iload_n h dM_find_14 rfl 2 rfl ?_
        refine sr_aload_n h dM_find_15 rfl 0 rfl ?_
        obtain ⟨fs_10, ho_11, vc⟩ := vc
        obtain ⟨r_12, hv_13, vc⟩ := vc
        refine sr_get h inM rfl 1 (by decide) kw_455 dM_find_16 ho_11 hv_13 ?_
        refine sr_iload_n h dM_find_19 rfl 3 rfl ?_
        obtain ⟨a_14, rfl, vc⟩ := vc
        obtain ⟨N_15, f_16, ho_17, vc⟩ := vc
        obtain ⟨j_18, hi_19, hj_20, vc⟩ := vc
        refine sr_iald h dM_find_20 ho_17 hi_19 hj_20 ?_
        refine sr_icmp_lt (tgt := 26) h dM_find_21 (by decide) (fun c_39 => ?_) (fun c_39 => ?_)
        · replace vc := vc.1 c_39
          refine sr_aload_n h dM_find_26 rfl 0 rfl ?_
          obtain ⟨r_21, hv_22, vc⟩ := vc
          refine sr_get h inM rfl 3 (by decide) kw_457 dM_find_27 ho_11 hv_22 ?_
          refine sr_iload_n h dM_find_30 rfl 3 rfl ?_
          obtain ⟨a_23, rfl, vc⟩ := vc
          obtain ⟨N_24, f_25, ho_26, vc⟩ := vc
          obtain ⟨j_27, hi_28, hj_29, vc⟩ := vc
          obtain ⟨r_30, hr_31, vc⟩ := vc
          refine sr_aaldA h dM_find_31 ho_26 hi_28 hj_29 hr_31 ?_
          refine sr_iload_n h dM_find_32 rfl 2 rfl ?_
          obtain ⟨a_32, rfl, vc⟩ := vc
          obtain ⟨N_33, f_34, ho_35, vc⟩ := vc
          obtain ⟨j_36, hi_37, hj_38, vc⟩ := vc
          refine sr_iald h dM_find_33 ho_35 hi_37 hj_38 ?_
          exact sr_iret h dM_find_34 hc_3.1 hc_3.2 vc
        · replace vc := vc.2 c_39
          refine sr_iconst (v := -1) h dM_find_24 (by decide) ?_
          exact sr_iret h dM_find_25 hc_3.1 hc_3.2 vc
  · replace vc := vc'
    clear vc'
    exact st_out h (fun _ z => nomatch z) hc_3.1 hc_3.2 vc
theorem opM_find {l : Launch} {κ : sp_K} {mc ms : Nat} {Rt : Option Value → sp_M → Prop} {Xt : String → sp_M → Prop} {μ : sp_M} {a0 : Nat} {v1 : Int32} {v2 : Int32} (htr : l.stackTraces = false) (body : ∀ x : sp_X, x.2.1.stackTraces = false → cxM_find κ x mc ms → sp_w κ x (sp_F κ x Rt Xt mc ms) 0 0 0 [(0, .ref a0), (1, .int v1), (2, .int v2)] [] μ) : sp_m l κ yM_find wM_find 1 22 mc ms [.ref a0, .int v1, .int v2] μ Rt Xt :=
  sp_open htr (by decide +kernel) rfl (Nat.le_of_ble_eq_true rfl) (by intro v hv; simp only [List.mem_cons, List.not_mem_nil, or_false] at hv; rcases hv with rfl | rfl | rfl <;> first | rfl | exact sp_c1o _) (fun x hx h => body x (by rw [hx]; exact htr) h)

abbrev cxM_slotOf (κ : sp_K) (x : sp_X) (mc ms : Nat) : Prop := sp_C κ x cM_slotOf 3 RM (some .int) [] "slotOf" (sp_rm 0 0 mc ms)
set_option maxRecDepth 100000 in
set_option maxHeartbeats 4000000 in
theorem bkM_slotOf_0 {κ : sp_K} {x : sp_X} {mc ms : Nat} {Rt : Option Value → sp_M → Prop} {Xt : String → sp_M → Prop} {μ : sp_M} {k n : Nat} {a0 : Nat} {v1 : Int32} (h : cxM_slotOf κ x mc ms) (hk : k ≤ mc ∧ n ≤ ms)
    (vc : sp_w κ x (sp_F κ x Rt Xt mc ms) k n 2 [(0, .ref a0), (1, .int v1), (2, .int 0)] [] μ) : sp_w κ x (sp_F κ x Rt Xt mc ms) k n 0 [(0, .ref a0), (1, .int v1)] [] μ := by
  refine sr_iconst (v := 0) h dM_slotOf_0 (by decide) ?_
  refine sr_istore_n (lv' := [(0, .ref a0), (1, .int v1), (2, .int 0)]) h dM_slotOf_1 rfl (by decide) rfl ?_
  exact vc
set_option maxRecDepth 100000 in
set_option maxHeartbeats 4000000 in
theorem bkM_slotOf_2 {κ : sp_K} {x : sp_X} {mc ms : Nat} {Rt : Option Value → sp_M → Prop} {Xt : String → sp_M → Prop} {μ : sp_M} {k n : Nat} {a0 : Nat} {v1 : Int32} {v2 : Int32} (h : cxM_slotOf κ x mc ms) (hk : k ≤ mc ∧ n ≤ ms)
    (vc : (∃ fs_1 : List Value, μ a0 = some (.inr (3, fs_1)) ∧ ∃ v_3 : Int32, fs_1[2]? = some (.int v_3) ∧ ((v_3 ≤ v2 → Rt (some (.int (-1))) μ) ∧ (¬ v_3 ≤ v2 → (∃ r_5 : Option Nat, fs_1[0]? = some (va_rf r_5) ∧ (∃ a_7 : Nat, r_5 = some a_7 ∧ ∃ (N_8 : Nat) (f_9 : Nat → Int32), μ a_7 = some (sp_ia κ N_8 f_9) ∧ ∃ j_11 : Nat, v2 = nI j_11 ∧ j_11 < N_8 ∧ ((¬ (f_9 j_11) = v1 → sp_w κ x (sp_F κ x Rt Xt mc ms) k n 2 [(0, .ref a0), (1, .int v1), (2, .int (v2 + 1))] [] μ) ∧ ((f_9 j_11) = v1 → Rt (some (.int v2)) μ)))))))) : sp_w κ x (sp_F κ x Rt Xt mc ms) k n 2 [(0, .ref a0), (1, .int v1), (2, .int v2)] [] μ := by
  refine sr_iload_n h dM_slotOf_2 rfl 2 rfl ?_
  refine sr_aload_n h dM_slotOf_3 rfl 0 rfl ?_
  obtain ⟨fs_1, ho_2, vc⟩ := vc
  obtain ⟨v_3, hv_4, vc⟩ := vc
  refine sr_get h inM rfl 2 (by decide) kw_456 dM_slotOf_4 ho_2 hv_4 ?_
  refine sr_icmp_ge (tgt := 28) h dM_slotOf_7 (by decide) (fun c_15 => ?_) (fun c_15 => ?_)
  · replace vc := vc.1 c_15
    refine sr_iconst (v := -1) h dM_slotOf_28 (by decide) ?_
    exact sr_iret h dM_slotOf_29 hk.1 hk.2 vc
  · replace vc := vc.2 c_15
    refine sr_aload_n h dM_slotOf_10 rfl 0 rfl ?_
    obtain ⟨r_5, hv_6, vc⟩ := vc
    refine sr_get h inM rfl 0 (by decide) kw_454 dM_slotOf_11 ho_2 hv_6 ?_
    refine sr_iload_n h dM_slotOf_14 rfl 2 rfl ?_
    obtain ⟨a_7, rfl, vc⟩ := vc
    obtain ⟨N_8, f_9, ho_10, vc⟩ := vc
    obtain ⟨j_11, hi_12, hj_13, vc⟩ := vc
    refine sr_iald h dM_slotOf_15 ho_10 hi_12 hj_13 ?_
    refine sr_iload_n h dM_slotOf_16 rfl 1 rfl ?_
    refine sr_icmp_ne (tgt := 22) h dM_slotOf_17 (by decide) (fun c_14 => ?_) (fun c_14 => ?_)
    · replace vc := vc.1 c_14
      refine sr_iinc (u := v2 + 1) (lv' := [(0, .ref a0), (1, .int v1), (2, .int (v2 + 1))]) h dM_slotOf_22 2 rfl rfl (by decide) rfl ?_
      refine sr_goto (tgt := 2) h dM_slotOf_25 (by decide) ?_
      exact vc
    · replace vc := vc.2 c_14
      refine sr_iload_n h dM_slotOf_20 rfl 2 rfl ?_
      exact sr_iret h dM_slotOf_21 hk.1 hk.2 vc
theorem opM_slotOf {l : Launch} {κ : sp_K} {mc ms : Nat} {Rt : Option Value → sp_M → Prop} {Xt : String → sp_M → Prop} {μ : sp_M} {a0 : Nat} {v1 : Int32} (htr : l.stackTraces = false) (body : ∀ x : sp_X, x.2.1.stackTraces = false → cxM_slotOf κ x mc ms → sp_w κ x (sp_F κ x Rt Xt mc ms) 0 0 0 [(0, .ref a0), (1, .int v1)] [] μ) : sp_m l κ yM_slotOf wM_slotOf 0 0 mc ms [.ref a0, .int v1] μ Rt Xt :=
  sp_open htr (by decide +kernel) rfl (Nat.le_of_ble_eq_true rfl) (by intro v hv; simp only [List.mem_cons, List.not_mem_nil, or_false] at hv; rcases hv with rfl | rfl <;> first | rfl | exact sp_c1o _) (fun x hx h => body x (by rw [hx]; exact htr) h)

abbrev cxM_there (κ : sp_K) (x : sp_X) (mc ms : Nat) : Prop := sp_C κ x cM_there 1 RM none [] "there" (sp_rm 6 90 mc ms)
set_option maxRecDepth 100000 in
set_option maxHeartbeats 4000000 in
theorem bkM_there_0 {κ : sp_K} {x : sp_X} {mc ms : Nat} {Rt : Option Value → sp_M → Prop} {Xt : String → sp_M → Prop} {μ : sp_M} {k n : Nat} {v0 : Int32} (h : cxM_there κ x mc ms) (hk : k ≤ mc ∧ n ≤ ms)
    (vc : ((¬ v0 = 0 → Rt none μ) ∧ (v0 = 0 → ((k + 1 ≤ mc ∧ n + 6 ≤ ms) ∧ Xt "java/util/NoSuchElementException" μ)))) : sp_w κ x (sp_F κ x Rt Xt mc ms) k n 0 [(0, .int v0)] [] μ := by
  refine sr_iload_n h dM_there_0 rfl 0 rfl ?_
  refine sr_if_ne (tgt := 12) h dM_there_1 (by decide) (fun c_2 => ?_) (fun c_2 => ?_)
  · replace vc := vc.1 c_2
    exact sr_vret h dM_there_12 hk.1 hk.2 vc
  · replace vc := vc.2 c_2
    obtain ⟨hc_1, vc⟩ := vc
    exact sr_throw0 (names := ["java/lang/RuntimeException", "java/lang/Exception"]) h (by decide +kernel) (by decide +kernel) kw_506 kw_39 ka_M_46 kg_M_46 dM_there_4 dM_there_7 dM_there_8 dM_there_11 (fun _ z => nomatch z) (Nat.le_of_ble_eq_true rfl) (Nat.le_of_ble_eq_true rfl) hc_1.1 hc_1.2 hc_1.1 hc_1.2 vc
theorem opM_there {l : Launch} {κ : sp_K} {mc ms : Nat} {Rt : Option Value → sp_M → Prop} {Xt : String → sp_M → Prop} {μ : sp_M} {v0 : Int32} (htr : l.stackTraces = false) (body : ∀ x : sp_X, x.2.1.stackTraces = false → cxM_there κ x mc ms → sp_w κ x (sp_F κ x Rt Xt mc ms) 0 0 0 [(0, .int v0)] [] μ) : sp_m l κ yM_there wM_there 6 90 mc ms [.int v0] μ Rt Xt :=
  sp_open htr (by decide +kernel) rfl (Nat.le_of_ble_eq_true rfl) (by intro v hv; simp only [List.mem_cons, List.not_mem_nil, or_false] at hv; subst hv; first | rfl | exact sp_c1o _) (fun x hx h => body x (by rw [hx]; exact htr) h)

abbrev cxM_heads (κ : sp_K) (x : sp_X) (mc ms : Nat) : Prop := sp_C κ x cM_heads 1 RM (some .int) [] "heads" (sp_rm 4 90 mc ms)
set_option maxRecDepth 100000 in
set_option maxHeartbeats 4000000 in
theorem bkM_heads_0 {κ : sp_K} {x : sp_X} {mc ms : Nat} {Rt : Option Value → sp_M → Prop} {Xt : String → sp_M → Prop} {μ : sp_M} {k n : Nat} {a0 : Nat} (h : cxM_heads κ x mc ms) (hk : k ≤ mc ∧ n ≤ ms)
    (vc : (∃ fs_1 : List Value, μ a0 = some (.inr (3, fs_1)) ∧ 13 < fs_1.length ∧ ∀ μ_3 : sp_M, μ_3 = va_up μ a0 (some (.inr (3, fs_1.set 13 (.int 0)))) → (∃ mc_5 ms_6 : Nat, (k + mc_5 ≤ mc ∧ n + ms_6 ≤ ms) ∧ ∃ fs_10 : List Value, μ_3 a0 = some (.inr (3, fs_10)) ∧ sp_m x.2.1 κ yM_heads0 wM_heads0 3 70 mc_5 ms_6 [.ref a0] μ_3 (fun v_8 μ_9 => ∃ v_13 : Int32, v_8 = some (.int v_13) ∧ Rt (some (.int v_13)) μ_9) (fun E_14 μ_9 => Xt E_14 μ_9)))) : sp_w κ x (sp_F κ x Rt Xt mc ms) k n 0 [(0, .ref a0)] [] μ := by
  refine sr_aload_n h dM_heads_0 rfl 0 rfl ?_
  refine sr_iconst (v := 0) h dM_heads_1 (by decide) ?_
  obtain ⟨fs_1, ho_2, vc⟩ := vc
  obtain ⟨hl_4, vc⟩ := vc
  replace vc := vc _ rfl
  refine sr_put h inM tyM tyM_ok nmM rfl 13 (by decide) kw_467 rfl dM_heads_2 ho_2 rfl rfl hl_4 ?_
  refine sr_aload_n h dM_heads_5 rfl 0 rfl ?_
  obtain ⟨mc_5, ms_6, hc_7, vc⟩ := vc
  obtain ⟨fs_10, ho_11, vc⟩ := vc
  refine sr_callV (y := yM_heads0) (n0 := 0) (As := []) h (sp_gV kw_531 kw_533 kw_15 kw_35 kw_534) rfl (by decide +kernel) ⟨Nat.le_of_ble_eq_true rfl, Nat.le_of_ble_eq_true rfl⟩ (ci := 3) rfl dM_heads_6 rfl rfl (Nat.le_of_ble_eq_true rfl) hc_7 ho_11 vc (fun v_8 μ_9 vc' => ?_) (fun E_14 μ_9 vc' => ?_)
  · replace vc := vc'
    clear vc'
    obtain ⟨v_13, rfl, vc⟩ := vc
    exact sr_iret h dM_heads_9 hc_7.1 hc_7.2 vc
  · replace vc := vc'
    clear vc'
    exact st_out h (fun _ z => nomatch z) hc_7.1 hc_7.2 vc
theorem opM_heads {l : Launch} {κ : sp_K} {mc ms : Nat} {Rt : Option Value → sp_M → Prop} {Xt : String → sp_M → Prop} {μ : sp_M} {a0 : Nat} (htr : l.stackTraces = false) (body : ∀ x : sp_X, x.2.1.stackTraces = false → cxM_heads κ x mc ms → sp_w κ x (sp_F κ x Rt Xt mc ms) 0 0 0 [(0, .ref a0)] [] μ) : sp_m l κ yM_heads wM_heads 4 90 mc ms [.ref a0] μ Rt Xt :=
  sp_open htr (by decide +kernel) rfl (Nat.le_of_ble_eq_true rfl) (by intro v hv; simp only [List.mem_cons, List.not_mem_nil, or_false] at hv; subst hv; first | rfl | exact sp_c1o _) (fun x hx h => body x (by rw [hx]; exact htr) h)

abbrev cxM_heads0 (κ : sp_K) (x : sp_X) (mc ms : Nat) : Prop := sp_C κ x cM_heads0 1 RM (some .int) [] "heads0" (sp_rm 3 70 mc ms)
set_option maxRecDepth 100000 in
set_option maxHeartbeats 4000000 in
theorem bkM_heads0_0 {κ : sp_K} {x : sp_X} {mc ms : Nat} {Rt : Option Value → sp_M → Prop} {Xt : String → sp_M → Prop} {μ : sp_M} {k n : Nat} {a0 : Nat} (h : cxM_heads0 κ x mc ms) (hk : k ≤ mc ∧ n ≤ ms)
    (vc : (∃ fs_1 : List Value, μ a0 = some (.inr (3, fs_1)) ∧ ∃ r_3 : Option Nat, fs_1[10]? = some (va_rf r_3) ∧ (∃ mc_5 ms_6 : Nat, (k + mc_5 ≤ mc ∧ n + ms_6 ≤ ms) ∧ sp_m x.2.1 κ yM_headsTo wM_headsTo 2 45 mc_5 ms_6 [.ref a0, va_rf r_3] μ (fun v_8 μ_9 => ∃ v_11 : Int32, v_8 = some (.int v_11) ∧ (∃ fs_12 : List Value, μ_9 a0 = some (.inr (3, fs_12)) ∧ 11 < fs_12.length ∧ ∀ μ_14 : sp_M, μ_14 = va_up μ_9 a0 (some (.inr (3, fs_12.set 11 (.int v_11)))) → (∃ fs_16 : List Value, μ_14 a0 = some (.inr (3, fs_16)) ∧ ∃ v_18 : Int32, fs_16[11]? = some (.int v_18) ∧ Rt (some (.int v_18)) μ_14))) (fun E_20 μ_9 => Xt E_20 μ_9)))) : sp_w κ x (sp_F κ x Rt Xt mc ms) k n 0 [(0, .ref a0)] [] μ := by
  refine sr_aload_n h dM_heads0_0 rfl 0 rfl ?_
  refine sr_aload_n h dM_heads0_1 rfl 0 rfl ?_
  refine sr_aload_n h dM_heads0_2 rfl 0 rfl ?_
  obtain ⟨fs_1, ho_2, vc⟩ := vc
  obtain ⟨r_3, hv_4, vc⟩ := vc
  refine sr_get h inM rfl 10 (by decide) kw_464 dM_heads0_3 ho_2 hv_4 ?_
  obtain ⟨mc_5, ms_6, hc_7, vc⟩ := vc
  refine sr_callV (y := yM_headsTo) (n0 := 1) (As := [va_rf r_3]) h (sp_gV kw_535 kw_537 kw_16 kw_35 kw_538) rfl (by decide +kernel) ⟨Nat.le_of_ble_eq_true rfl, Nat.le_of_ble_eq_true rfl⟩ (ci := 3) rfl dM_heads0_6 rfl rfl (Nat.le_of_ble_eq_true rfl) hc_7 ho_2 vc (fun v_8 μ_9 vc' => ?_) (fun E_20 μ_9 vc' => ?_)
  · replace vc := vc'
    clear vc'
    obtain ⟨v_11, rfl, vc⟩ := vc
    obtain ⟨fs_12, ho_13, vc⟩ := vc
    obtain ⟨hl_15, vc⟩ := vc
    replace vc := vc _ rfl
    refine sr_put h inM tyM tyM_ok nmM rfl 11 (by decide) kw_465 rfl dM_heads0_9 ho_13 rfl rfl hl_15 ?_
    refine sr_aload_n h dM_heads0_12 rfl 0 rfl ?_
    obtain ⟨fs_16, ho_17, vc⟩ := vc
    obtain ⟨v_18, hv_19, vc⟩ := vc
    refine sr_get h inM rfl 11 (by decide) kw_465 dM_heads0_13 ho_17 hv_19 ?_
    exact sr_iret h dM_heads0_16 hc_7.1 hc_7.2 vc
  · replace vc := vc'
    clear vc'
    exact st_out h (fun _ z => nomatch z) hc_7.1 hc_7.2 vc
theorem opM_heads0 {l : Launch} {κ : sp_K} {mc ms : Nat} {Rt : Option Value → sp_M → Prop} {Xt : String → sp_M → Prop} {μ : sp_M} {a0 : Nat} (htr : l.stackTraces = false) (body : ∀ x : sp_X, x.2.1.stackTraces = false → cxM_heads0 κ x mc ms → sp_w κ x (sp_F κ x Rt Xt mc ms) 0 0 0 [(0, .ref a0)] [] μ) : sp_m l κ yM_heads0 wM_heads0 3 70 mc ms [.ref a0] μ Rt Xt :=
  sp_open htr (by decide +kernel) rfl (Nat.le_of_ble_eq_true rfl) (by intro v hv; simp only [List.mem_cons, List.not_mem_nil, or_false] at hv; subst hv; first | rfl | exact sp_c1o _) (fun x hx h => body x (by rw [hx]; exact htr) h)

abbrev cxM_headsTo (κ : sp_K) (x : sp_X) (mc ms : Nat) : Prop := sp_C κ x cM_headsTo 6 RM (some .int) [] "headsTo" (sp_rm 2 45 mc ms)
set_option maxRecDepth 100000 in
set_option maxHeartbeats 4000000 in
theorem bkM_headsTo_0 {κ : sp_K} {x : sp_X} {mc ms : Nat} {Rt : Option Value → sp_M → Prop} {Xt : String → sp_M → Prop} {μ : sp_M} {k n : Nat} {a0 : Nat} {a1 : Nat} (h : cxM_headsTo κ x mc ms) (hk : k ≤ mc ∧ n ≤ ms)
    (vc : sp_w κ x (sp_F κ x Rt Xt mc ms) k n 4 [(0, .ref a0), (1, .ref a1), (2, .int 0), (3, .int 0)] [] μ) : sp_w κ x (sp_F κ x Rt Xt mc ms) k n 0 [(0, .ref a0), (1, .ref a1)] [] μ := by
  refine sr_iconst (v := 0) h dM_headsTo_0 (by decide) ?_
  refine sr_istore_n (lv' := [(0, .ref a0), (1, .ref a1), (2, .int 0)]) h dM_headsTo_1 rfl (by decide) rfl ?_
  refine sr_iconst (v := 0) h dM_headsTo_2 (by decide) ?_
  refine sr_istore_n (lv' := [(0, .ref a0), (1, .ref a1), (2, .int 0), (3, .int 0)]) h dM_headsTo_3 rfl (by decide) rfl ?_
  exact vc
set_option maxRecDepth 100000 in
set_option maxHeartbeats 4000000 in
theorem bkM_headsTo_4 {κ : sp_K} {x : sp_X} {mc ms : Nat} {Rt : Option Value → sp_M → Prop} {Xt : String → sp_M → Prop} {μ : sp_M} {k n : Nat} {a0 : Nat} {a1 : Nat} {v2 : Int32} {v3 : Int32} (h : cxM_headsTo κ x mc ms) (hk : k ≤ mc ∧ n ≤ ms)
    (vc : ((256 ≤ v3 → Rt (some (.int v2)) μ) ∧ (¬ 256 ≤ v3 → (∃ mc_1 ms_2 : Nat, (k + mc_1 ≤ mc ∧ n + ms_2 ≤ ms) ∧ ∃ fs_6 : List Value, μ a0 = some (.inr (3, fs_6)) ∧ sp_m x.2.1 κ yM_slotOf wM_slotOf 0 0 mc_1 ms_2 [.ref a0, .int v3] μ (fun v_4 μ_5 => ∃ v_9 : Int32, v_4 = some (.int v_9) ∧ ((0 ≤ v_9 → (∃ fs_10 : List Value, μ_5 a0 = some (.inr (3, fs_10)) ∧ ∃ r_12 : Option Nat, fs_10[1]? = some (va_rf r_12) ∧ (∃ a_14 : Nat, r_12 = some a_14 ∧ ∃ (N_15 : Nat) (f_16 : Nat → Int32), μ_5 a_14 = some (sp_ia κ N_15 f_16) ∧ ∃ j_18 : Nat, v_9 = nI j_18 ∧ j_18 < N_15 ∧ (∃ mc_21 ms_22 : Nat, ((k + mc_1) + mc_21 ≤ mc ∧ (n + ms_2) + ms_22 ≤ ms) ∧ sp_m x.2.1 κ yM_find wM_find 1 22 mc_21 ms_22 [.ref a0, .int v3, .int ((f_16 j_18) - 1)] μ_5 (fun v_24 μ_25 => ∃ v_27 : Int32, v_24 = some (.int v_27) ∧ (∃ mc_28 ms_29 : Nat, ((k + mc_1 + mc_21) + mc_28 ≤ mc ∧ (n + ms_2 + ms_22) + ms_29 ≤ ms) ∧ ∃ fs_33 : List Value, μ_25 a0 = some (.inr (3, fs_33)) ∧ sp_m x.2.1 κ yM_isHead wM_isHead 1 22 mc_28 ms_29 [.ref a0, .int v_27] μ_25 (fun v_31 μ_32 => ∃ v_36 : Int32, v_31 = some (.int v_36) ∧ ((¬ v_36 = 0 → (∃ (N_37 : Nat) (f_38 : Nat → Int32), μ_32 a1 = some (sp_ia κ N_37 f_38) ∧ ∃ j_40 : Nat, v2 = nI j_40 ∧ j_40 < N_37 ∧ ∀ μ_43 : sp_M, μ_43 = va_up μ_32 a1 (some (sp_ia κ N_37 (upd f_38 j_40 v_27))) → sp_w κ x (sp_F κ x Rt Xt mc ms) (k + mc_1 + mc_21 + mc_28) (n + ms_2 + ms_22 + ms_29) 4 [(0, .ref a0), (1, .ref a1), (2, .int (v2 + 1)), (3, .int (v3 + 1))] [] μ_43)) ∧ (v_36 = 0 → sp_w κ x (sp_F κ x Rt Xt mc ms) (k + mc_1 + mc_21 + mc_28) (n + ms_2 + ms_22 + ms_29) 4 [(0, .ref a0), (1, .ref a1), (2, .int v2), (3, .int (v3 + 1))] [] μ_32))) (fun E_45 μ_32 => Xt E_45 μ_32))) (fun E_46 μ_25 => Xt E_46 μ_25))))) ∧ (¬ 0 ≤ v_9 → sp_w κ x (sp_F κ x Rt Xt mc ms) (k + mc_1) (n + ms_2) 4 [(0, .ref a0), (1, .ref a1), (2, .int v2), (3, .int (v3 + 1))] [] μ_5))) (fun E_48 μ_5 => Xt E_48 μ_5))))) : sp_w κ x (sp_F κ x Rt Xt mc ms) k n 4 [(0, .ref a0), (1, .ref a1), (2, .int v2), (3, .int v3)] [] μ := by
  refine sr_iload_n h dM_headsTo_4 rfl 3 rfl ?_
  refine sr_sipush (v := 256) h dM_headsTo_5 (by decide) ?_
  refine sr_icmp_ge (tgt := 68) h dM_headsTo_8 (by decide) (fun c_49 => ?_) (fun c_49 => ?_)
  · replace vc := vc.1 c_49
    refine sr_iload_n h dM_headsTo_68 rfl 2 rfl ?_
    exact sr_iret h dM_headsTo_69 hk.1 hk.2 vc
  · replace vc := vc.2 c_49
    refine sr_aload_n h dM_headsTo_11 rfl 0 rfl ?_
    refine sr_iload_n h dM_headsTo_12 rfl 3 rfl ?_
    obtain ⟨mc_1, ms_2, hc_3, vc⟩ := vc
    obtain ⟨fs_6, ho_7, vc⟩ := vc
    refine sr_callV (y := yM_slotOf) (n0 := 1) (As := [.int v3]) h (sp_gV kw_517 kw_519 kw_14 kw_35 kw_520) rfl (by decide +kernel) ⟨Nat.le_of_ble_eq_true rfl, Nat.le_of_ble_eq_true rfl⟩ (ci := 3) rfl dM_headsTo_13 rfl rfl (Nat.le_of_ble_eq_true rfl) hc_3 ho_7 vc (fun v_4 μ_5 vc' => ?_) (fun E_48 μ_5 vc' => ?_)
    · replace vc := vc'
      clear vc'
      obtain ⟨v_9, rfl, vc⟩ := vc
      refine sr_istore (lv' := [(0, .ref a0), (1, .ref a1), (2, .int v2), (3, .int v3), (4, .int v_9)]) h dM_headsTo_16 (by decide) rfl ?_
      refine sr_iload h dM_headsTo_18 4 rfl ?_
      refine sr_if_ge (tgt := 26) h dM_headsTo_20 (by decide) (fun c_47 => ?_) (fun c_47 => ?_)
      · replace vc := vc.1 c_47
        refine sr_aload_n h dM_headsTo_26 rfl 0 rfl ?_
        refine sr_iload_n h dM_headsTo_27 rfl 3 rfl ?_
        refine sr_aload_n h dM_headsTo_28 rfl 0 rfl ?_
        obtain ⟨fs_10, ho_11, vc⟩ := vc
        obtain ⟨r_12, hv_13, vc⟩ := vc
        refine sr_get h inM rfl 1 (by decide) kw_455 dM_headsTo_29 ho_11 hv_13 ?_
        refine sr_iload h dM_headsTo_32 4 rfl ?_
        obtain ⟨a_14, rfl, vc⟩ := vc
        obtain ⟨N_15, f_16, ho_17, vc⟩ := vc
        obtain ⟨j_18, hi_19, hj_20, vc⟩ := vc
        refine sr_iald h dM_headsTo_34 ho_17 hi_19 hj_20 ?_
        refine sr_iconst (v := 1) h dM_headsTo_35 (by decide) ?_
        refine sr_isub h dM_headsTo_36 ?_
        obtain ⟨mc_21, ms_22, hc_23, vc⟩ := vc
        refine sr_callV (y := yM_find) (n0 := 2) (As := [.int v3, .int ((f_16 j_18) - 1)]) h (sp_gV kw_513 kw_515 kw_13 kw_35 kw_516) rfl (by decide +kernel) ⟨Nat.le_of_ble_eq_true rfl, Nat.le_of_ble_eq_true rfl⟩ (ci := 3) rfl dM_headsTo_37 rfl rfl (Nat.le_of_ble_eq_true rfl) hc_23 ho_11 vc (fun v_24 μ_25 vc' => ?_) (fun E_46 μ_25 vc' => ?_)
        · replace vc := vc'
          clear vc'
          obtain ⟨v_27, rfl, vc⟩ := vc
          refine sr_istore (lv' := [(0, .ref a0), (1, .ref a1), (2, .int v2), (3, .int v3), (4, .int v_9), (5, .int v_27)]) h dM_headsTo_40 (by decide) rfl ?_
          refine sr_aload_n h dM_headsTo_42 rfl 0 rfl ?_
          refine sr_iload h dM_headsTo_43 5 rfl ?_
          obtain ⟨mc_28, ms_29, hc_30, vc⟩ := vc
          obtain ⟨fs_33, ho_34, vc⟩ := vc
          refine sr_callV (y := yM_isHead) (n0 := 1) (As := [.int v_27]) h (sp_gV kw_539 kw_541 kw_17 kw_35 kw_542) rfl (by decide +kernel) ⟨Nat.le_of_ble_eq_true rfl, Nat.le_of_ble_eq_true rfl⟩ (ci := 3) rfl dM_headsTo_45 rfl rfl (Nat.le_of_ble_eq_true rfl) hc_30 ho_34 vc (fun v_31 μ_32 vc' => ?_) (fun E_45 μ_32 vc' => ?_)
          · replace vc := vc'
            clear vc'
            obtain ⟨v_36, rfl, vc⟩ := vc
            refine sr_if_ne (tgt := 54) h dM_headsTo_48 (by decide) (fun c_44 => ?_) (fun c_44 => ?_)
            · replace vc := vc.1 c_44
              refine sr_aload_n h dM_headsTo_54 rfl 1 rfl ?_
              refine sr_iload_n h dM_headsTo_55 rfl 2 rfl ?_
              refine sr_iload h dM_headsTo_56 5 rfl ?_
              obtain ⟨N_37, f_38, ho_39, vc⟩ := vc
              obtain ⟨j_40, hi_41, hj_42, vc⟩ := vc
              replace vc := vc _ rfl
              refine sr_iast h dM_headsTo_58 ho_39 hi_41 hj_42 ?_
              refine sr_iinc (u := v2 + 1) (lv' := [(0, .ref a0), (1, .ref a1), (2, .int (v2 + 1)), (3, .int v3), (4, .int v_9), (5, .int v_27)]) h dM_headsTo_59 2 rfl rfl (by decide) rfl ?_
              refine sr_iinc (u := v3 + 1) (lv' := [(0, .ref a0), (1, .ref a1), (2, .int (v2 + 1)), (3, .int (v3 + 1)), (4, .int v_9), (5, .int v_27)]) h dM_headsTo_62 3 rfl rfl (by decide) rfl ?_
              refine sr_goto (tgt := 4) h dM_headsTo_65 (by decide) ?_
              exact sr_sub (lv' := [(0, .ref a0), (1, .ref a1), (2, .int (v2 + 1)), (3, .int (v3 + 1))]) [0, 1, 2, 3] rfl vc
            · replace vc := vc.2 c_44
              refine sr_goto (tgt := 62) h dM_headsTo_51 (by decide) ?_
              refine sr_iinc (u := v3 + 1) (lv' := [(0, .ref a0), (1, .ref a1), (2, .int v2), (3, .int (v3 + 1)), (4, .int v_9), (5, .int v_27)]) h dM_headsTo_62 3 rfl rfl (by decide) rfl ?_
              refine sr_goto (tgt := 4) h dM_headsTo_65 (by decide) ?_
              exact sr_sub (lv' := [(0, .ref a0), (1, .ref a1), (2, .int v2), (3, .int (v3 + 1))]) [0, 1, 2, 3] rfl vc
          · replace vc := vc'
            clear vc'
            exact st_out h (fun _ z => nomatch z) hc_30.1 hc_30.2 vc
        · replace vc := vc'
          clear vc'
          exact st_out h (fun _ z => nomatch z) hc_23.1 hc_23.2 vc
      · replace vc := vc.2 c_47
        refine sr_goto (tgt := 62) h dM_headsTo_23 (by decide) ?_
        refine sr_iinc (u := v3 + 1) (lv' := [(0, .ref a0), (1, .ref a1), (2, .int v2), (3, .int (v3 + 1)), (4, .int v_9)]) h dM_headsTo_62 3 rfl rfl (by decide) rfl ?_
        refine sr_goto (tgt := 4) h dM_headsTo_65 (by decide) ?_
        exact sr_sub (lv' := [(0, .ref a0), (1, .ref a1), (2, .int v2), (3, .int (v3 + 1))]) [0, 1, 2, 3] rfl vc
    · replace vc := vc'
      clear vc'
      exact st_out h (fun _ z => nomatch z) hc_3.1 hc_3.2 vc
theorem opM_headsTo {l : Launch} {κ : sp_K} {mc ms : Nat} {Rt : Option Value → sp_M → Prop} {Xt : String → sp_M → Prop} {μ : sp_M} {a0 : Nat} {a1 : Nat} (htr : l.stackTraces = false) (body : ∀ x : sp_X, x.2.1.stackTraces = false → cxM_headsTo κ x mc ms → sp_w κ x (sp_F κ x Rt Xt mc ms) 0 0 0 [(0, .ref a0), (1, .ref a1)] [] μ) : sp_m l κ yM_headsTo wM_headsTo 2 45 mc ms [.ref a0, .ref a1] μ Rt Xt :=
  sp_open htr (by decide +kernel) rfl (Nat.le_of_ble_eq_true rfl) (by intro v hv; simp only [List.mem_cons, List.not_mem_nil, or_false] at hv; rcases hv with rfl | rfl <;> first | rfl | exact sp_c1o _) (fun x hx h => body x (by rw [hx]; exact htr) h)

abbrev cxM_isHead (κ : sp_K) (x : sp_X) (mc ms : Nat) : Prop := sp_C κ x cM_isHead 4 RM (some .boolean) [] "isHead" (sp_rm 1 22 mc ms)
set_option maxRecDepth 100000 in
set_option maxHeartbeats 4000000 in
theorem bkM_isHead_0 {κ : sp_K} {x : sp_X} {mc ms : Nat} {Rt : Option Value → sp_M → Prop} {Xt : String → sp_M → Prop} {μ : sp_M} {k n : Nat} {a0 : Nat} {v1 : Int32} (h : cxM_isHead κ x mc ms) (hk : k ≤ mc ∧ n ≤ ms)
    (vc : sp_w κ x (sp_F κ x Rt Xt mc ms) k n 2 [(0, .ref a0), (1, .int v1), (2, .int 0)] [] μ) : sp_w κ x (sp_F κ x Rt Xt mc ms) k n 0 [(0, .ref a0), (1, .int v1)] [] μ := by
  refine sr_iconst (v := 0) h dM_isHead_0 (by decide) ?_
  refine sr_istore_n (lv' := [(0, .ref a0), (1, .int v1), (2, .int 0)]) h dM_isHead_1 rfl (by decide) rfl ?_
  exact vc
set_option maxRecDepth 100000 in
set_option maxHeartbeats 4000000 in
theorem bkM_isHead_2 {κ : sp_K} {x : sp_X} {mc ms : Nat} {Rt : Option Value → sp_M → Prop} {Xt : String → sp_M → Prop} {μ : sp_M} {k n : Nat} {a0 : Nat} {v1 : Int32} {v2 : Int32} (h : cxM_isHead κ x mc ms) (hk : k ≤ mc ∧ n ≤ ms)
    (vc : (∃ fs_1 : List Value, μ a0 = some (.inr (3, fs_1)) ∧ ∃ v_3 : Int32, fs_1[2]? = some (.int v_3) ∧ ((v_3 ≤ v2 → Rt (some (.int 1)) μ) ∧ (¬ v_3 ≤ v2 → (∃ r_5 : Option Nat, fs_1[3]? = some (va_rf r_5) ∧ (∃ a_7 : Nat, r_5 = some a_7 ∧ ∃ (N_8 : Nat) (f_9 : Nat → Option Nat), μ a_7 = some (sp_ra κ 5 N_8 f_9) ∧ ∃ j_11 : Nat, v2 = nI j_11 ∧ j_11 < N_8 ∧ ∃ r_14 : Option Nat, f_9 j_11 = r_14 ∧ (∃ r_16 : Option Nat, fs_1[1]? = some (va_rf r_16) ∧ (∃ a_18 : Nat, r_16 = some a_18 ∧ ∃ (N_19 : Nat) (f_20 : Nat → Int32), μ a_18 = some (sp_ia κ N_19 f_20) ∧ ∃ j_22 : Nat, v2 = nI j_22 ∧ j_22 < N_19 ∧ (∃ a_25 : Nat, r_14 = some a_25 ∧ ∃ (N_26 : Nat) (f_27 : Nat → Int32), μ a_25 = some (sp_ia κ N_26 f_27) ∧ ∃ j_29 : Nat, (f_20 j_22) - 1 = nI j_29 ∧ j_29 < N_26 ∧ (((f_27 j_29) = v1 → sp_w κ x (sp_F κ x Rt Xt mc ms) k n 2 [(0, .ref a0), (1, .int v1), (2, .int (v2 + 1))] [] μ) ∧ (¬ (f_27 j_29) = v1 → (∃ mc_32 ms_33 : Nat, (k + mc_32 ≤ mc ∧ n + ms_33 ≤ ms) ∧ sp_m x.2.1 κ yM_isIn wM_isIn 0 0 mc_32 ms_33 [.ref a0, .int v1, .int (f_27 j_29)] μ (fun v_35 μ_36 => ∃ v_38 : Int32, v_35 = some (.int v_38) ∧ ((v_38 = 0 → sp_w κ x (sp_F κ x Rt Xt mc ms) (k + mc_32) (n + ms_33) 2 [(0, .ref a0), (1, .int v1), (2, .int (v2 + 1))] [] μ_36) ∧ (¬ v_38 = 0 → Rt (some (.int 0)) μ_36))) (fun E_40 μ_36 => Xt E_40 μ_36))))))))))))) : sp_w κ x (sp_F κ x Rt Xt mc ms) k n 2 [(0, .ref a0), (1, .int v1), (2, .int v2)] [] μ := by
  refine sr_iload_n h dM_isHead_2 rfl 2 rfl ?_
  refine sr_aload_n h dM_isHead_3 rfl 0 rfl ?_
  obtain ⟨fs_1, ho_2, vc⟩ := vc
  obtain ⟨v_3, hv_4, vc⟩ := vc
  refine sr_get h inM rfl 2 (by decide) kw_456 dM_isHead_4 ho_2 hv_4 ?_
  refine sr_icmp_ge (tgt := 48) h dM_isHead_7 (by decide) (fun c_42 => ?_) (fun c_42 => ?_)
  · replace vc := vc.1 c_42
    refine sr_iconst (v := 1) h dM_isHead_48 (by decide) ?_
    exact sr_zret h dM_isHead_49 rfl hk.1 hk.2 vc
  · replace vc := vc.2 c_42
    refine sr_aload_n h dM_isHead_10 rfl 0 rfl ?_
    obtain ⟨r_5, hv_6, vc⟩ := vc
    refine sr_get h inM rfl 3 (by decide) kw_457 dM_isHead_11 ho_2 hv_6 ?_
    refine sr_iload_n h dM_isHead_14 rfl 2 rfl ?_
    obtain ⟨a_7, rfl, vc⟩ := vc
    obtain ⟨N_8, f_9, ho_10, vc⟩ := vc
    obtain ⟨j_11, hi_12, hj_13, vc⟩ := vc
    obtain ⟨r_14, hr_15, vc⟩ := vc
    refine sr_aaldA h dM_isHead_15 ho_10 hi_12 hj_13 hr_15 ?_
    refine sr_aload_n h dM_isHead_16 rfl 0 rfl ?_
    obtain ⟨r_16, hv_17, vc⟩ := vc
    refine sr_get h inM rfl 1 (by decide) kw_455 dM_isHead_17 ho_2 hv_17 ?_
    refine sr_iload_n h dM_isHead_20 rfl 2 rfl ?_
    obtain ⟨a_18, rfl, vc⟩ := vc
    obtain ⟨N_19, f_20, ho_21, vc⟩ := vc
    obtain ⟨j_22, hi_23, hj_24, vc⟩ := vc
    refine sr_iald h dM_isHead_21 ho_21 hi_23 hj_24 ?_
    refine sr_iconst (v := 1) h dM_isHead_22 (by decide) ?_
    refine sr_isub h dM_isHead_23 ?_
    obtain ⟨a_25, rfl, vc⟩ := vc
    obtain ⟨N_26, f_27, ho_28, vc⟩ := vc
    obtain ⟨j_29, hi_30, hj_31, vc⟩ := vc
    refine sr_iald h dM_isHead_24 ho_28 hi_30 hj_31 ?_
    refine sr_istore_n (lv' := [(0, .ref a0), (1, .int v1), (2, .int v2), (3, .int (f_27 j_29))]) h dM_isHead_25 rfl (by decide) rfl ?_
    refine sr_iload_n h dM_isHead_26 rfl 3 rfl ?_
    refine sr_iload_n h dM_isHead_27 rfl 1 rfl ?_
    refine sr_icmp_eq (tgt := 42) h dM_isHead_28 (by decide) (fun c_41 => ?_) (fun c_41 => ?_)
    · replace vc := vc.1 c_41
      refine sr_iinc (u := v2 + 1) (lv' := [(0, .ref a0), (1, .int v1), (2, .int (v2 + 1)), (3, .int (f_27 j_29))]) h dM_isHead_42 2 rfl rfl (by decide) rfl ?_
      refine sr_goto (tgt := 2) h dM_isHead_45 (by decide) ?_
      exact sr_sub (lv' := [(0, .ref a0), (1, .int v1), (2, .int (v2 + 1))]) [0, 1, 2] rfl vc
    · replace vc := vc.2 c_41
      refine sr_aload_n h dM_isHead_31 rfl 0 rfl ?_
      refine sr_iload_n h dM_isHead_32 rfl 1 rfl ?_
      refine sr_iload_n h dM_isHead_33 rfl 3 rfl ?_
      obtain ⟨mc_32, ms_33, hc_34, vc⟩ := vc
      refine sr_callV (y := yM_isIn) (n0 := 2) (As := [.int v1, .int (f_27 j_29)]) h (sp_gV kw_543 kw_545 kw_18 kw_35 kw_546) rfl (by decide +kernel) ⟨Nat.le_of_ble_eq_true rfl, Nat.le_of_ble_eq_true rfl⟩ (ci := 3) rfl dM_isHead_34 rfl rfl (Nat.le_of_ble_eq_true rfl) hc_34 ho_2 vc (fun v_35 μ_36 vc' => ?_) (fun E_40 μ_36 vc' => ?_)
      · replace vc := vc'
        clear vc'
        obtain ⟨v_38, rfl, vc⟩ := vc
        refine sr_if_eq (tgt := 42) h dM_isHead_37 (by decide) (fun c_39 => ?_) (fun c_39 => ?_)
        · replace vc := vc.1 c_39
          refine sr_iinc (u := v2 + 1) (lv' := [(0, .ref a0), (1, .int v1), (2, .int (v2 + 1)), (3, .int (f_27 j_29))]) h dM_isHead_42 2 rfl rfl (by decide) rfl ?_
          refine sr_goto (tgt := 2) h dM_isHead_45 (by decide) ?_
          exact sr_sub (lv' := [(0, .ref a0), (1, .int v1), (2, .int (v2 + 1))]) [0, 1, 2] rfl vc
        · replace vc := vc.2 c_39
          refine sr_iconst (v := 0) h dM_isHead_40 (by decide) ?_
          exact sr_zret h dM_isHead_41 rfl hc_34.1 hc_34.2 vc
      · replace vc := vc'
        clear vc'
        exact st_out h (fun _ z => nomatch z) hc_34.1 hc_34.2 vc
theorem opM_isHead {l : Launch} {κ : sp_K} {mc ms : Nat} {Rt : Option Value → sp_M → Prop} {Xt : String → sp_M → Prop} {μ : sp_M} {a0 : Nat} {v1 : Int32} (htr : l.stackTraces = false) (body : ∀ x : sp_X, x.2.1.stackTraces = false → cxM_isHead κ x mc ms → sp_w κ x (sp_F κ x Rt Xt mc ms) 0 0 0 [(0, .ref a0), (1, .int v1)] [] μ) : sp_m l κ yM_isHead wM_isHead 1 22 mc ms [.ref a0, .int v1] μ Rt Xt :=
  sp_open htr (by decide +kernel) rfl (Nat.le_of_ble_eq_true rfl) (by intro v hv; simp only [List.mem_cons, List.not_mem_nil, or_false] at hv; rcases hv with rfl | rfl <;> first | rfl | exact sp_c1o _) (fun x hx h => body x (by rw [hx]; exact htr) h)

abbrev cxM_isIn (κ : sp_K) (x : sp_X) (mc ms : Nat) : Prop := sp_C κ x cM_isIn 3 RM (some .boolean) [] "isIn" (sp_rm 0 0 mc ms)
set_option maxRecDepth 100000 in
set_option maxHeartbeats 4000000 in
theorem bkM_isIn_0 {κ : sp_K} {x : sp_X} {mc ms : Nat} {Rt : Option Value → sp_M → Prop} {Xt : String → sp_M → Prop} {μ : sp_M} {k n : Nat} {a0 : Nat} {v1 : Int32} {v2 : Int32} (h : cxM_isIn κ x mc ms) (hk : k ≤ mc ∧ n ≤ ms)
    (vc : (∃ fs_1 : List Value, μ a0 = some (.inr (3, fs_1)) ∧ ∃ r_3 : Option Nat, fs_1[5]? = some (va_rf r_3) ∧ (∃ a_5 : Nat, r_3 = some a_5 ∧ ∃ (N_6 : Nat) (f_7 : Nat → Int32), μ a_5 = some (sp_sa κ N_6 f_7) ∧ ∃ j_9 : Nat, v1 = nI j_9 ∧ j_9 < N_6 ∧ (∃ r_12 : Option Nat, fs_1[8]? = some (va_rf r_12) ∧ (∃ r_14 : Option Nat, fs_1[4]? = some (va_rf r_14) ∧ (∃ a_16 : Nat, r_14 = some a_16 ∧ ∃ (N_17 : Nat) (f_18 : Nat → Int32), μ a_16 = some (sp_sa κ N_17 f_18) ∧ ∃ j_20 : Nat, v1 = nI j_20 ∧ j_20 < N_17 ∧ (∃ a_23 : Nat, r_12 = some a_23 ∧ ∃ (N_24 : Nat) (f_25 : Nat → Int32), μ a_23 = some (sp_sa κ N_24 f_25) ∧ ∃ j_27 : Nat, (16 * v2) + (f_18 j_20) = nI j_27 ∧ j_27 < N_24 ∧ (((f_25 j_27) ≤ (f_7 j_9) → Rt (some (.int 0)) μ) ∧ (¬ (f_25 j_27) ≤ (f_7 j_9) → Rt (some (.int 1)) μ))))))))) : sp_w κ x (sp_F κ x Rt Xt mc ms) k n 0 [(0, .ref a0), (1, .int v1), (2, .int v2)] [] μ := by
  refine sr_aload_n h dM_isIn_0 rfl 0 rfl ?_
  obtain ⟨fs_1, ho_2, vc⟩ := vc
  obtain ⟨r_3, hv_4, vc⟩ := vc
  refine sr_get h inM rfl 5 (by decide) kw_459 dM_isIn_1 ho_2 hv_4 ?_
  refine sr_iload_n h dM_isIn_4 rfl 1 rfl ?_
  obtain ⟨a_5, rfl, vc⟩ := vc
  obtain ⟨N_6, f_7, ho_8, vc⟩ := vc
  obtain ⟨j_9, hi_10, hj_11, vc⟩ := vc
  refine sr_sald h dM_isIn_5 ho_8 hi_10 hj_11 ?_
  refine sr_aload_n h dM_isIn_6 rfl 0 rfl ?_
  obtain ⟨r_12, hv_13, vc⟩ := vc
  refine sr_get h inM rfl 8 (by decide) kw_462 dM_isIn_7 ho_2 hv_13 ?_
  refine sr_bipush (v := 16) h dM_isIn_10 (by decide) ?_
  refine sr_iload_n h dM_isIn_12 rfl 2 rfl ?_
  refine sr_imul h dM_isIn_13 ?_
  refine sr_aload_n h dM_isIn_14 rfl 0 rfl ?_
  obtain ⟨r_14, hv_15, vc⟩ := vc
  refine sr_get h inM rfl 4 (by decide) kw_458 dM_isIn_15 ho_2 hv_15 ?_
  refine sr_iload_n h dM_isIn_18 rfl 1 rfl ?_
  obtain ⟨a_16, rfl, vc⟩ := vc
  obtain ⟨N_17, f_18, ho_19, vc⟩ := vc
  obtain ⟨j_20, hi_21, hj_22, vc⟩ := vc
  refine sr_sald h dM_isIn_19 ho_19 hi_21 hj_22 ?_
  refine sr_iadd h dM_isIn_20 ?_
  obtain ⟨a_23, rfl, vc⟩ := vc
  obtain ⟨N_24, f_25, ho_26, vc⟩ := vc
  obtain ⟨j_27, hi_28, hj_29, vc⟩ := vc
  refine sr_sald h dM_isIn_21 ho_26 hi_28 hj_29 ?_
  refine sr_icmp_ge (tgt := 29) h dM_isIn_22 (by decide) (fun c_30 => ?_) (fun c_30 => ?_)
  · replace vc := vc.1 c_30
    refine sr_iconst (v := 0) h dM_isIn_29 (by decide) ?_
    exact sr_zret h dM_isIn_30 rfl hk.1 hk.2 vc
  · replace vc := vc.2 c_30
    refine sr_iconst (v := 1) h dM_isIn_25 (by decide) ?_
    refine sr_goto (tgt := 30) h dM_isIn_26 (by decide) ?_
    exact sr_zret h dM_isIn_30 rfl hk.1 hk.2 vc
theorem opM_isIn {l : Launch} {κ : sp_K} {mc ms : Nat} {Rt : Option Value → sp_M → Prop} {Xt : String → sp_M → Prop} {μ : sp_M} {a0 : Nat} {v1 : Int32} {v2 : Int32} (htr : l.stackTraces = false) (body : ∀ x : sp_X, x.2.1.stackTraces = false → cxM_isIn κ x mc ms → sp_w κ x (sp_F κ x Rt Xt mc ms) 0 0 0 [(0, .ref a0), (1, .int v1), (2, .int v2)] [] μ) : sp_m l κ yM_isIn wM_isIn 0 0 mc ms [.ref a0, .int v1, .int v2] μ Rt Xt :=
  sp_open htr (by decide +kernel) rfl (Nat.le_of_ble_eq_true rfl) (by intro v hv; simp only [List.mem_cons, List.not_mem_nil, or_false] at hv; rcases hv with rfl | rfl | rfl <;> first | rfl | exact sp_c1o _) (fun x hx h => body x (by rw [hx]; exact htr) h)

abbrev cxM_add (κ : sp_K) (x : sp_X) (mc ms : Nat) : Prop := sp_C κ x cM_add 4 RM (some .int) (tableOf hhM_add) "add" (sp_rm 7 116 mc ms)
set_option maxRecDepth 100000 in
set_option maxHeartbeats 4000000 in
theorem bkM_add_0 {κ : sp_K} {x : sp_X} {mc ms : Nat} {Rt : Option Value → sp_M → Prop} {Xt : String → sp_M → Prop} {μ : sp_M} {k n : Nat} {a0 : Nat} {v1 : Int32} {v2 : Int32} (h : cxM_add κ x mc ms) (hk : k ≤ mc ∧ n ≤ ms)
    (vc : (∃ fs_1 : List Value, μ a0 = some (.inr (3, fs_1)) ∧ 13 < fs_1.length ∧ ∀ μ_3 : sp_M, μ_3 = va_up μ a0 (some (.inr (3, fs_1.set 13 (.int 0)))) → (∃ mc_5 ms_6 : Nat, (k + mc_5 ≤ mc ∧ n + ms_6 ≤ ms) ∧ ∃ fs_10 : List Value, μ_3 a0 = some (.inr (3, fs_10)) ∧ sp_m x.2.1 κ yM_add0 wM_add0 6 90 mc_5 ms_6 [.ref a0, .int v1, .int v2] μ_3 (fun v_8 μ_9 => ∃ v_13 : Int32, v_8 = some (.int v_13) ∧ Rt (some (.int v_13)) μ_9) (fun E_14 μ_9 => ((E_14 = "java/lang/IllegalArgumentException" ∧ ∀ q_15 : Nat, (∃ fs_16 : List Value, μ_9 a0 = some (.inr (3, fs_16)) ∧ 13 < fs_16.length ∧ ∀ μ_18 : sp_M, μ_18 = va_up μ_9 a0 (some (.inr (3, fs_16.set 13 (.int 1)))) → Rt (some (.int 0)) μ_18)) ∨ (E_14 = "java/lang/UnsupportedOperationException" ∧ ∀ q_20 : Nat, (∃ fs_21 : List Value, μ_9 a0 = some (.inr (3, fs_21)) ∧ 13 < fs_21.length ∧ ∀ μ_23 : sp_M, μ_23 = va_up μ_9 a0 (some (.inr (3, fs_21.set 13 (.int 2)))) → Rt (some (.int 0)) μ_23)) ∨ (E_14 = "java/lang/IllegalStateException" ∧ ∀ q_25 : Nat, (∃ fs_26 : List Value, μ_9 a0 = some (.inr (3, fs_26)) ∧ 13 < fs_26.length ∧ ∀ μ_28 : sp_M, μ_28 = va_up μ_9 a0 (some (.inr (3, fs_26.set 13 (.int 3)))) → Rt (some (.int 0)) μ_28))))))) : sp_w κ x (sp_F κ x Rt Xt mc ms) k n 0 [(0, .ref a0), (1, .int v1), (2, .int v2)] [] μ := by
  refine sr_aload_n h dM_add_0 rfl 0 rfl ?_
  refine sr_iconst (v := 0) h dM_add_1 (by decide) ?_
  obtain ⟨fs_1, ho_2, vc⟩ := vc
  obtain ⟨hl_4, vc⟩ := vc
  replace vc := vc _ rfl
  refine sr_put h inM tyM tyM_ok nmM rfl 13 (by decide) kw_467 rfl dM_add_2 ho_2 rfl rfl hl_4 ?_
  refine sr_aload_n h dM_add_5 rfl 0 rfl ?_
  refine sr_iload_n h dM_add_6 rfl 1 rfl ?_
  refine sr_iload_n h dM_add_7 rfl 2 rfl ?_
  obtain ⟨mc_5, ms_6, hc_7, vc⟩ := vc
  obtain ⟨fs_10, ho_11, vc⟩ := vc
  refine sr_callV (y := yM_add0) (n0 := 2) (As := [.int v1, .int v2]) h (sp_gV kw_552 kw_554 kw_19 kw_35 kw_555) rfl (by decide +kernel) ⟨Nat.le_of_ble_eq_true rfl, Nat.le_of_ble_eq_true rfl⟩ (ci := 3) rfl dM_add_8 rfl rfl (Nat.le_of_ble_eq_true rfl) hc_7 ho_11 vc (fun v_8 μ_9 vc' => ?_) (fun E_14 μ_9 vc' => ?_)
  · replace vc := vc'
    clear vc'
    obtain ⟨v_13, rfl, vc⟩ := vc
    exact sr_iret h dM_add_11 hc_7.1 hc_7.2 vc
  · replace vc := vc'
    clear vc'
    rcases vc with ⟨rfl, vc⟩ | ⟨rfl, vc⟩ | ⟨rfl, vc⟩
    · refine st_catch h [] ({ startPc := 5, endPc := 11, handlerPc := 12, catchType := 87 }) [{ startPc := 5, endPc := 11, handlerPc := 21, catchType := 69 }, { startPc := 5, endPc := 11, handlerPc := 30, catchType := 72 }] rfl (fun _ z => nomatch z) (by decide) (by decide) (name := "java/lang/IllegalArgumentException") kw_551 kt_249 (fun q_15 => ?_)
      replace vc := vc q_15
      refine sr_astore_n (lv' := [(0, .ref a0), (1, .int v1), (2, .int v2), (3, .ref q_15)]) h dM_add_12 rfl (by decide) rfl ?_
      refine sr_aload_n h dM_add_13 rfl 0 rfl ?_
      refine sr_iconst (v := 1) h dM_add_14 (by decide) ?_
      obtain ⟨fs_16, ho_17, vc⟩ := vc
      obtain ⟨hl_19, vc⟩ := vc
      replace vc := vc _ rfl
      refine sr_put h inM tyM tyM_ok nmM rfl 13 (by decide) kw_467 rfl dM_add_15 ho_17 rfl rfl hl_19 ?_
      refine sr_goto (tgt := 36) h dM_add_18 (by decide) ?_
      refine sr_iconst (v := 0) h dM_add_36 (by decide) ?_
      exact sr_iret h dM_add_37 hc_7.1 hc_7.2 vc
    · refine st_catch h [{ startPc := 5, endPc := 11, handlerPc := 12, catchType := 87 }] ({ startPc := 5, endPc := 11, handlerPc := 21, catchType := 69 }) [{ startPc := 5, endPc := 11, handlerPc := 30, catchType := 72 }] rfl (fun w hw => by simp only [List.mem_cons, List.not_mem_nil, or_false] at hw; subst hw; exact Or.inr ⟨by decide, "java/lang/IllegalArgumentException", kw_551, by decide +kernel⟩) (by decide) (by decide) (name := "java/lang/UnsupportedOperationException") kw_507 kt_211 (fun q_20 => ?_)
      replace vc := vc q_20
      refine sr_astore_n (lv' := [(0, .ref a0), (1, .int v1), (2, .int v2), (3, .ref q_20)]) h dM_add_21 rfl (by decide) rfl ?_
      refine sr_aload_n h dM_add_22 rfl 0 rfl ?_
      refine sr_iconst (v := 2) h dM_add_23 (by decide) ?_
      obtain ⟨fs_21, ho_22, vc⟩ := vc
      obtain ⟨hl_24, vc⟩ := vc
      replace vc := vc _ rfl
      refine sr_put h inM tyM tyM_ok nmM rfl 13 (by decide) kw_467 rfl dM_add_24 ho_22 rfl rfl hl_24 ?_
      refine sr_goto (tgt := 36) h dM_add_27 (by decide) ?_
      refine sr_iconst (v := 0) h dM_add_36 (by decide) ?_
      exact sr_iret h dM_add_37 hc_7.1 hc_7.2 vc
    · refine st_catch h [{ startPc := 5, endPc := 11, handlerPc := 12, catchType := 87 }, { startPc := 5, endPc := 11, handlerPc := 21, catchType := 69 }] ({ startPc := 5, endPc := 11, handlerPc := 30, catchType := 72 }) [] rfl (fun w hw => by simp only [List.mem_cons, List.not_mem_nil, or_false] at hw; rcases hw with rfl | rfl <;> first | exact Or.inr ⟨by decide, "java/lang/IllegalArgumentException", kw_551, by decide +kernel⟩ | exact Or.inr ⟨by decide, "java/lang/UnsupportedOperationException", kw_507, by decide +kernel⟩) (by decide) (by decide) (name := "java/lang/IllegalStateException") kw_508 kt_226 (fun q_25 => ?_)
      replace vc := vc q_25
      refine sr_astore_n (lv' := [(0, .ref a0), (1, .int v1), (2, .int v2), (3, .ref q_25)]) h dM_add_30 rfl (by decide) rfl ?_
      refine sr_aload_n h dM_add_31 rfl 0 rfl ?_
      refine sr_iconst (v := 3) h dM_add_32 (by decide) ?_
      obtain ⟨fs_26, ho_27, vc⟩ := vc
      obtain ⟨hl_29, vc⟩ := vc
      replace vc := vc _ rfl
      refine sr_put h inM tyM tyM_ok nmM rfl 13 (by decide) kw_467 rfl dM_add_33 ho_27 rfl rfl hl_29 ?_
      refine sr_iconst (v := 0) h dM_add_36 (by decide) ?_
      exact sr_iret h dM_add_37 hc_7.1 hc_7.2 vc
theorem opM_add {l : Launch} {κ : sp_K} {mc ms : Nat} {Rt : Option Value → sp_M → Prop} {Xt : String → sp_M → Prop} {μ : sp_M} {a0 : Nat} {v1 : Int32} {v2 : Int32} (htr : l.stackTraces = false) (body : ∀ x : sp_X, x.2.1.stackTraces = false → cxM_add κ x mc ms → sp_w κ x (sp_F κ x Rt Xt mc ms) 0 0 0 [(0, .ref a0), (1, .int v1), (2, .int v2)] [] μ) : sp_m l κ yM_add wM_add 7 116 mc ms [.ref a0, .int v1, .int v2] μ Rt Xt :=
  sp_openH htr (by decide +kernel) rfl (Nat.le_of_ble_eq_true rfl) (by intro v hv; simp only [List.mem_cons, List.not_mem_nil, or_false] at hv; rcases hv with rfl | rfl | rfl <;> first | rfl | exact sp_c1o _) (fun x hx h => body x (by rw [hx]; exact htr) h)

abbrev cxM_add0 (κ : sp_K) (x : sp_X) (mc ms : Nat) : Prop := sp_C κ x cM_add0 7 RM (some .int) [] "add0" (sp_rm 6 90 mc ms)
set_option maxRecDepth 100000 in
set_option maxHeartbeats 4000000 in
theorem bkM_add0_0 {κ : sp_K} {x : sp_X} {mc ms : Nat} {Rt : Option Value → sp_M → Prop} {Xt : String → sp_M → Prop} {μ : sp_M} {k n : Nat} {a0 : Nat} {v1 : Int32} {v2 : Int32} (h : cxM_add0 κ x mc ms) (hk : k ≤ mc ∧ n ≤ ms)
    (vc : ((v1 < 0 → ((k + 1 ≤ mc ∧ n + 6 ≤ ms) ∧ Xt "java/lang/IllegalArgumentException" μ)) ∧ (¬ v1 < 0 → ((255 < v1 → ((k + 1 ≤ mc ∧ n + 6 ≤ ms) ∧ Xt "java/lang/IllegalArgumentException" μ)) ∧ (¬ 255 < v1 → ((v2 < 1 → ((k + 1 ≤ mc ∧ n + 6 ≤ ms) ∧ Xt "java/lang/IllegalArgumentException" μ)) ∧ (¬ v2 < 1 → ((v2 ≤ 2000 → (∃ fs_4 : List Value, μ a0 = some (.inr (3, fs_4)) ∧ ∃ v_6 : Int32, fs_4[11]? = some (.int v_6) ∧ (∃ mc_8 ms_9 : Nat, (k + mc_8 ≤ mc ∧ n + ms_9 ≤ ms) ∧ sp_m x.2.1 κ yM_slotOf wM_slotOf 0 0 mc_8 ms_9 [.ref a0, .int v1] μ (fun v_11 μ_12 => ∃ v_14 : Int32, v_11 = some (.int v_14) ∧ (∃ fs_15 : List Value, μ_12 a0 = some (.inr (3, fs_15)) ∧ 11 < fs_15.length ∧ ∀ μ_17 : sp_M, μ_17 = va_up μ_12 a0 (some (.inr (3, fs_15.set 11 (.int 0)))) → sp_w κ x (sp_F κ x Rt Xt mc ms) (k + mc_8) (n + ms_9) 51 [(0, .ref a0), (1, .int v1), (2, .int v2), (3, .int v_6), (4, .int v_14), (5, .int 0)] [] μ_17)) (fun E_19 μ_12 => Xt E_19 μ_12)))) ∧ (¬ v2 ≤ 2000 → ((k + 1 ≤ mc ∧ n + 6 ≤ ms) ∧ Xt "java/lang/IllegalArgumentException" μ)))))))))) : sp_w κ x (sp_F κ x Rt Xt mc ms) k n 0 [(0, .ref a0), (1, .int v1), (2, .int v2)] [] μ := by
  refine sr_iload_n h dM_add0_0 rfl 1 rfl ?_
  refine sr_if_lt (tgt := 23) h dM_add0_1 (by decide) (fun c_24 => ?_) (fun c_24 => ?_)
  · replace vc := vc.1 c_24
    obtain ⟨hc_1, vc⟩ := vc
    exact sr_throw0 (names := ["java/lang/RuntimeException", "java/lang/Exception"]) h (by decide +kernel) (by decide +kernel) kw_551 kw_42 ka_M_89 kg_M_89 dM_add0_23 dM_add0_26 dM_add0_27 dM_add0_30 (fun _ z => nomatch z) (Nat.le_of_ble_eq_true rfl) (Nat.le_of_ble_eq_true rfl) hc_1.1 hc_1.2 hc_1.1 hc_1.2 vc
  · replace vc := vc.2 c_24
    refine sr_iload_n h dM_add0_4 rfl 1 rfl ?_
    refine sr_sipush (v := 255) h dM_add0_5 (by decide) ?_
    refine sr_icmp_gt (tgt := 23) h dM_add0_8 (by decide) (fun c_23 => ?_) (fun c_23 => ?_)
    · replace vc := vc.1 c_23
      obtain ⟨hc_2, vc⟩ := vc
      exact sr_throw0 (names := ["java/lang/RuntimeException", "java/lang/Exception"]) h (by decide +kernel) (by decide +kernel) kw_551 kw_42 ka_M_89 kg_M_89 dM_add0_23 dM_add0_26 dM_add0_27 dM_add0_30 (fun _ z => nomatch z) (Nat.le_of_ble_eq_true rfl) (Nat.le_of_ble_eq_true rfl) hc_2.1 hc_2.2 hc_2.1 hc_2.2 vc
    · replace vc := vc.2 c_23
      refine sr_iload_n h dM_add0_11 rfl 2 rfl ?_
      refine sr_iconst (v := 1) h dM_add0_12 (by decide) ?_
      refine sr_icmp_lt (tgt := 23) h dM_add0_13 (by decide) (fun c_22 => ?_) (fun c_22 => ?_)
      · replace vc := vc.1 c_22
        obtain ⟨hc_3, vc⟩ := vc
        exact sr_throw0 (names := ["java/lang/RuntimeException", "java/lang/Exception"]) h (by decide +kernel) (by decide +kernel) kw_551 kw_42 ka_M_89 kg_M_89 dM_add0_23 dM_add0_26 dM_add0_27 dM_add0_30 (fun _ z => nomatch z) (Nat.le_of_ble_eq_true rfl) (Nat.le_of_ble_eq_true rfl) hc_3.1 hc_3.2 hc_3.1 hc_3.2 vc
      · replace vc := vc.2 c_22
        refine sr_iload_n h dM_add0_16 rfl 2 rfl ?_
        refine sr_sipush (v := 2000) h dM_add0_17 (by decide) ?_
        refine sr_icmp_le (tgt := 31) h dM_add0_20 (by decide) (fun c_21 => ?_) (fun c_21 => ?_)
        · replace vc := vc.1 c_21
          refine sr_aload_n h dM_add0_31 rfl 0 rfl ?_
          obtain ⟨fs_4, ho_5, vc⟩ := vc
          obtain ⟨v_6, hv_7, vc⟩ := vc
          refine sr_get h inM rfl 11 (by decide) kw_465 dM_add0_32 ho_5 hv_7 ?_
          refine sr_istore_n (lv' := [(0, .ref a0), (1, .int v1), (2, .int v2), (3, .int v_6)]) h dM_add0_35 rfl (by decide) rfl ?_
          refine sr_aload_n h dM_add0_36 rfl 0 rfl ?_
          refine sr_iload_n h dM_add0_37 rfl 1 rfl ?_
          obtain ⟨mc_8, ms_9, hc_10, vc⟩ := vc
          refine sr_callV (y := yM_slotOf) (n0 := 1) (As := [.int v1]) h (sp_gV kw_517 kw_519 kw_14 kw_35 kw_520) rfl (by decide +kernel) ⟨Nat.le_of_ble_eq_true rfl, Nat.le_of_ble_eq_true rfl⟩ (ci := 3) rfl dM_add0_38 rfl rfl (Nat.le_of_ble_eq_true rfl) hc_10 ho_5 vc (fun v_11 μ_12 vc' => ?_) (fun E_19 μ_12 vc' => ?_)
          · replace vc := vc'
            clear vc'
            obtain ⟨v_14, rfl, vc⟩ := vc
            refine sr_istore (lv' := [(0, .ref a0), (1, .int v1), (2, .int v2), (3, .int v_6), (4, .int v_14)]) h dM_add0_41 (by decide) rfl ?_
            refine sr_aload_n h dM_add0_43 rfl 0 rfl ?_
            refine sr_iconst (v := 0) h dM_add0_44 (by decide) ?_
            obtain ⟨fs_15, ho_16, vc⟩ := vc
            obtain ⟨hl_18, vc⟩ := vc
            replace vc := vc _ rfl
            refine sr_put h inM tyM tyM_ok nmM rfl 11 (by decide) kw_465 rfl dM_add0_45 ho_16 rfl rfl hl_18 ?_
            refine sr_iconst (v := 0) h dM_add0_48 (by decide) ?_
            refine sr_istore (lv' := [(0, .ref a0), (1, .int v1), (2, .int v2), (3, .int v_6), (4, .int v_14), (5, .int 0)]) h dM_add0_49 (by decide) rfl ?_
            exact vc
          · replace vc := vc'
            clear vc'
            exact st_out h (fun _ z => nomatch z) hc_10.1 hc_10.2 vc
        · replace vc := vc.2 c_21
          obtain ⟨hc_20, vc⟩ := vc
          exact sr_throw0 (names := ["java/lang/RuntimeException", "java/lang/Exception"]) h (by decide +kernel) (by decide +kernel) kw_551 kw_42 ka_M_89 kg_M_89 dM_add0_23 dM_add0_26 dM_add0_27 dM_add0_30 (fun _ z => nomatch z) (Nat.le_of_ble_eq_true rfl) (Nat.le_of_ble_eq_true rfl) hc_20.1 hc_20.2 hc_20.1 hc_20.2 vc
set_option maxRecDepth 100000 in
set_option maxHeartbeats 4000000 in
theorem bkM_add0_51 {κ : sp_K} {x : sp_X} {mc ms : Nat} {Rt : Option Value → sp_M → Prop} {Xt : String → sp_M → Prop} {μ : sp_M} {k n : Nat} {a0 : Nat} {v1 : Int32} {v2 : Int32} {v3 : Int32} {v4 : Int32} {v5 : Int32} (h : cxM_add0 κ x mc ms) (hk : k ≤ mc ∧ n ≤ ms)
    (vc : ((v3 ≤ v5 → ((0 ≤ v4 → sp_w κ x (sp_F κ x Rt Xt mc ms) k n 129 [(0, .ref a0), (1, .int v1), (2, .int v2), (3, .int v3), (4, .int v4), (5, .int 0), (6, .int 0)] [] μ) ∧ (¬ 0 ≤ v4 → sp_w κ x (sp_F κ x Rt Xt mc ms) k n 129 [(0, .ref a0), (1, .int v1), (2, .int v2), (3, .int v3), (4, .int v4), (5, .int 1), (6, .int 0)] [] μ))) ∧ (¬ v3 ≤ v5 → sp_w κ x (sp_F κ x Rt Xt mc ms) k n 60 [(0, .ref a0), (1, .int v1), (2, .int v2), (3, .int v3), (4, .int v4), (5, .int v5), (6, .int 0)] [] μ))) : sp_w κ x (sp_F κ x Rt Xt mc ms) k n 51 [(0, .ref a0), (1, .int v1), (2, .int v2), (3, .int v3), (4, .int v4), (5, .int v5)] [] μ := by
  refine sr_iload h dM_add0_51 5 rfl ?_
  refine sr_iload_n h dM_add0_53 rfl 3 rfl ?_
  refine sr_icmp_ge (tgt := 114) h dM_add0_54 (by decide) (fun c_2 => ?_) (fun c_2 => ?_)
  · replace vc := vc.1 c_2
    refine sr_iload h dM_add0_114 4 rfl ?_
    refine sr_if_ge (tgt := 123) h dM_add0_116 (by decide) (fun c_1 => ?_) (fun c_1 => ?_)
    · replace vc := vc.1 c_1
      refine sr_iconst (v := 0) h dM_add0_123 (by decide) ?_
      refine sr_istore (lv' := [(0, .ref a0), (1, .int v1), (2, .int v2), (3, .int v3), (4, .int v4), (5, .int 0)]) h dM_add0_124 (by decide) rfl ?_
      refine sr_iconst (v := 0) h dM_add0_126 (by decide) ?_
      refine sr_istore (lv' := [(0, .ref a0), (1, .int v1), (2, .int v2), (3, .int v3), (4, .int v4), (5, .int 0), (6, .int 0)]) h dM_add0_127 (by decide) rfl ?_
      exact vc
    · replace vc := vc.2 c_1
      refine sr_iconst (v := 1) h dM_add0_119 (by decide) ?_
      refine sr_goto (tgt := 124) h dM_add0_120 (by decide) ?_
      refine sr_istore (lv' := [(0, .ref a0), (1, .int v1), (2, .int v2), (3, .int v3), (4, .int v4), (5, .int 1)]) h dM_add0_124 (by decide) rfl ?_
      refine sr_iconst (v := 0) h dM_add0_126 (by decide) ?_
      refine sr_istore (lv' := [(0, .ref a0), (1, .int v1), (2, .int v2), (3, .int v3), (4, .int v4), (5, .int 1), (6, .int 0)]) h dM_add0_127 (by decide) rfl ?_
      exact vc
  · replace vc := vc.2 c_2
    refine sr_iconst (v := 0) h dM_add0_57 (by decide) ?_
    refine sr_istore (lv' := [(0, .ref a0), (1, .int v1), (2, .int v2), (3, .int v3), (4, .int v4), (5, .int v5), (6, .int 0)]) h dM_add0_58 (by decide) rfl ?_
    exact vc
set_option maxRecDepth 100000 in
set_option maxHeartbeats 4000000 in
theorem bkM_add0_60 {κ : sp_K} {x : sp_X} {mc ms : Nat} {Rt : Option Value → sp_M → Prop} {Xt : String → sp_M → Prop} {μ : sp_M} {k n : Nat} {a0 : Nat} {v1 : Int32} {v2 : Int32} {v3 : Int32} {v4 : Int32} {v5 : Int32} {v6 : Int32} (h : cxM_add0 κ x mc ms) (hk : k ≤ mc ∧ n ≤ ms)
    (vc : ((v3 ≤ v6 → sp_w κ x (sp_F κ x Rt Xt mc ms) k n 51 [(0, .ref a0), (1, .int v1), (2, .int v2), (3, .int v3), (4, .int v4), (5, .int (v5 + 1))] [] μ) ∧ (¬ v3 ≤ v6 → ((v5 = v6 → sp_w κ x (sp_F κ x Rt Xt mc ms) k n 60 [(0, .ref a0), (1, .int v1), (2, .int v2), (3, .int v3), (4, .int v4), (5, .int v5), (6, .int (v6 + 1))] [] μ) ∧ (¬ v5 = v6 → (∃ fs_1 : List Value, μ a0 = some (.inr (3, fs_1)) ∧ ∃ r_3 : Option Nat, fs_1[10]? = some (va_rf r_3) ∧ (∃ a_5 : Nat, r_3 = some a_5 ∧ ∃ (N_6 : Nat) (f_7 : Nat → Int32), μ a_5 = some (sp_ia κ N_6 f_7) ∧ ∃ j_9 : Nat, v5 = nI j_9 ∧ j_9 < N_6 ∧ ((∃ j_12 : Nat, v6 = nI j_12 ∧ j_12 < N_6 ∧ (∃ mc_15 ms_16 : Nat, (k + mc_15 ≤ mc ∧ n + ms_16 ≤ ms) ∧ sp_m x.2.1 κ yM_isIn wM_isIn 0 0 mc_15 ms_16 [.ref a0, .int (f_7 j_9), .int (f_7 j_12)] μ (fun v_18 μ_19 => ∃ v_21 : Int32, v_18 = some (.int v_21) ∧ ((v_21 = 0 → sp_w κ x (sp_F κ x Rt Xt mc ms) (k + mc_15) (n + ms_16) 60 [(0, .ref a0), (1, .int v1), (2, .int v2), (3, .int v3), (4, .int v4), (5, .int v5), (6, .int (v6 + 1))] [] μ_19) ∧ (¬ v_21 = 0 → (((k + mc_15) + 1 ≤ mc ∧ (n + ms_16) + 6 ≤ ms) ∧ Xt "java/lang/UnsupportedOperationException" μ_19)))) (fun E_24 μ_19 => Xt E_24 μ_19))))))))))) : sp_w κ x (sp_F κ x Rt Xt mc ms) k n 60 [(0, .ref a0), (1, .int v1), (2, .int v2), (3, .int v3), (4, .int v4), (5, .int v5), (6, .int v6)] [] μ := by
  refine sr_iload h dM_add0_60 6 rfl ?_
  refine sr_iload_n h dM_add0_62 rfl 3 rfl ?_
  refine sr_icmp_ge (tgt := 108) h dM_add0_63 (by decide) (fun c_26 => ?_) (fun c_26 => ?_)
  · replace vc := vc.1 c_26
    refine sr_iinc (u := v5 + 1) (lv' := [(0, .ref a0), (1, .int v1), (2, .int v2), (3, .int v3), (4, .int v4), (5, .int (v5 + 1)), (6, .int v6)]) h dM_add0_108 5 rfl rfl (by decide) rfl ?_
    refine sr_goto (tgt := 51) h dM_add0_111 (by decide) ?_
    exact sr_sub (lv' := [(0, .ref a0), (1, .int v1), (2, .int v2), (3, .int v3), (4, .int v4), (5, .int (v5 + 1))]) [0, 1, 2, 3, 4, 5] rfl vc
  · replace vc := vc.2 c_26
    refine sr_iload h dM_add0_66 5 rfl ?_
    refine sr_iload h dM_add0_68 6 rfl ?_
    refine sr_icmp_eq (tgt := 102) h dM_add0_70 (by decide) (fun c_25 => ?_) (fun c_25 => ?_)
    · replace vc := vc.1 c_25
      refine sr_iinc (u := v6 + 1) (lv' := [(0, .ref a0), (1, .int v1), (2, .int v2), (3, .int v3), (4, .int v4), (5, .int v5), (6, .int (v6 + 1))]) h dM_add0_102 6 rfl rfl (by decide) rfl ?_
      refine sr_goto (tgt := 60) h dM_add0_105 (by decide) ?_
      exact vc
    · replace vc := vc.2 c_25
      refine sr_aload_n h dM_add0_73 rfl 0 rfl ?_
      refine sr_aload_n h dM_add0_74 rfl 0 rfl ?_
      obtain ⟨fs_1, ho_2, vc⟩ := vc
      obtain ⟨r_3, hv_4, vc⟩ := vc
      refine sr_get h inM rfl 10 (by decide) kw_464 dM_add0_75 ho_2 hv_4 ?_
      refine sr_iload h dM_add0_78 5 rfl ?_
      obtain ⟨a_5, rfl, vc⟩ := vc
      obtain ⟨N_6, f_7, ho_8, vc⟩ := vc
      obtain ⟨j_9, hi_10, hj_11, vc⟩ := vc
      refine sr_iald h dM_add0_80 ho_8 hi_10 hj_11 ?_
      refine sr_aload_n h dM_add0_81 rfl 0 rfl ?_
      refine sr_get h inM rfl 10 (by decide) kw_464 dM_add0_82 ho_2 hv_4 ?_
      refine sr_iload h dM_add0_85 6 rfl ?_
      obtain ⟨j_12, hi_13, hj_14, vc⟩ := vc
      refine sr_iald h dM_add0_87 ho_8 hi_13 hj_14 ?_
      obtain ⟨mc_15, ms_16, hc_17, vc⟩ := vc
      refine sr_callV (y := yM_isIn) (n0 := 2) (As := [.int (f_7 j_9), .int (f_7 j_12)]) h (sp_gV kw_543 kw_545 kw_18 kw_35 kw_546) rfl (by decide +kernel) ⟨Nat.le_of_ble_eq_true rfl, Nat.le_of_ble_eq_true rfl⟩ (ci := 3) rfl dM_add0_88 rfl rfl (Nat.le_of_ble_eq_true rfl) hc_17 ho_2 vc (fun v_18 μ_19 vc' => ?_) (fun E_24 μ_19 vc' => ?_)
      · replace vc := vc'
        clear vc'
        obtain ⟨v_21, rfl, vc⟩ := vc
        refine sr_if_eq (tgt := 102) h dM_add0_91 (by decide) (fun c_23 => ?_) (fun c_23 => ?_)
        · replace vc := vc.1 c_23
          refine sr_iinc (u := v6 + 1) (lv' := [(0, .ref a0), (1, .int v1), (2, .int v2), (3, .int v3), (4, .int v4), (5, .int v5), (6, .int (v6 + 1))]) h dM_add0_102 6 rfl rfl (by decide) rfl ?_
          refine sr_goto (tgt := 60) h dM_add0_105 (by decide) ?_
          exact vc
        · replace vc := vc.2 c_23
          obtain ⟨hc_22, vc⟩ := vc
          exact sr_throw0 (names := ["java/lang/RuntimeException", "java/lang/Exception"]) h (by decide +kernel) (by decide +kernel) kw_507 kw_40 ka_M_71 kg_M_71 dM_add0_94 dM_add0_97 dM_add0_98 dM_add0_101 (fun _ z => nomatch z) (Nat.le_of_ble_eq_true rfl) (Nat.le_of_ble_eq_true rfl) hc_22.1 hc_22.2 hc_22.1 hc_22.2 vc
      · replace vc := vc'
        clear vc'
        exact st_out h (fun _ z => nomatch z) hc_17.1 hc_17.2 vc
set_option maxRecDepth 100000 in
set_option maxHeartbeats 4000000 in
theorem bkM_add0_129 {κ : sp_K} {x : sp_X} {mc ms : Nat} {Rt : Option Value → sp_M → Prop} {Xt : String → sp_M → Prop} {μ : sp_M} {k n : Nat} {a0 : Nat} {v1 : Int32} {v2 : Int32} {v3 : Int32} {v4 : Int32} {v5 : Int32} {v6 : Int32} (h : cxM_add0 κ x mc ms) (hk : k ≤ mc ∧ n ≤ ms)
    (vc : ((v3 ≤ v6 → sp_w κ x (sp_F κ x Rt Xt mc ms) k n 184 [(0, .ref a0), (1, .int v1), (2, .int v2), (3, .int v3), (4, .int v4), (5, .int v5), (6, .int v6)] [] μ) ∧ (¬ v3 ≤ v6 → ((v4 < 0 → sp_w κ x (sp_F κ x Rt Xt mc ms) k n 184 [(0, .ref a0), (1, .int v1), (2, .int v2), (3, .int v3), (4, .int v4), (5, .int v5), (6, .int v6)] [] μ) ∧ (¬ v4 < 0 → (∃ fs_1 : List Value, μ a0 = some (.inr (3, fs_1)) ∧ ∃ r_3 : Option Nat, fs_1[8]? = some (va_rf r_3) ∧ (∃ r_5 : Option Nat, fs_1[10]? = some (va_rf r_5) ∧ (∃ a_7 : Nat, r_5 = some a_7 ∧ ∃ (N_8 : Nat) (f_9 : Nat → Int32), μ a_7 = some (sp_ia κ N_8 f_9) ∧ ∃ j_11 : Nat, v6 = nI j_11 ∧ j_11 < N_8 ∧ (∃ a_14 : Nat, r_3 = some a_14 ∧ ∃ (N_15 : Nat) (f_16 : Nat → Int32), μ a_14 = some (sp_sa κ N_15 f_16) ∧ ∃ j_18 : Nat, (16 * (f_9 j_11)) + v4 = nI j_18 ∧ j_18 < N_15 ∧ (∃ r_21 : Option Nat, fs_1[1]? = some (va_rf r_21) ∧ (∃ a_23 : Nat, r_21 = some a_23 ∧ ∃ (N_24 : Nat) (f_25 : Nat → Int32), μ a_23 = some (sp_ia κ N_24 f_25) ∧ ∃ j_27 : Nat, v4 = nI j_27 ∧ j_27 < N_24 ∧ ((¬ (f_16 j_18) = (f_25 j_27) → sp_w κ x (sp_F κ x Rt Xt mc ms) k n 129 [(0, .ref a0), (1, .int v1), (2, .int v2), (3, .int v3), (4, .int v4), (5, .int (v5 ||| 0)), (6, .int (v6 + 1))] [] μ) ∧ ((f_16 j_18) = (f_25 j_27) → sp_w κ x (sp_F κ x Rt Xt mc ms) k n 129 [(0, .ref a0), (1, .int v1), (2, .int v2), (3, .int v3), (4, .int v4), (5, .int (v5 ||| 1)), (6, .int (v6 + 1))] [] μ))))))))))))) : sp_w κ x (sp_F κ x Rt Xt mc ms) k n 129 [(0, .ref a0), (1, .int v1), (2, .int v2), (3, .int v3), (4, .int v4), (5, .int v5), (6, .int v6)] [] μ := by
  refine sr_iload h dM_add0_129 6 rfl ?_
  refine sr_iload_n h dM_add0_131 rfl 3 rfl ?_
  refine sr_icmp_ge (tgt := 184) h dM_add0_132 (by decide) (fun c_32 => ?_) (fun c_32 => ?_)
  · replace vc := vc.1 c_32
    exact vc
  · replace vc := vc.2 c_32
    refine sr_iload h dM_add0_135 4 rfl ?_
    refine sr_if_lt (tgt := 184) h dM_add0_137 (by decide) (fun c_31 => ?_) (fun c_31 => ?_)
    · replace vc := vc.1 c_31
      exact vc
    · replace vc := vc.2 c_31
      refine sr_iload h dM_add0_140 5 rfl ?_
      refine sr_aload_n h dM_add0_142 rfl 0 rfl ?_
      obtain ⟨fs_1, ho_2, vc⟩ := vc
      obtain ⟨r_3, hv_4, vc⟩ := vc
      refine sr_get h inM rfl 8 (by decide) kw_462 dM_add0_143 ho_2 hv_4 ?_
      refine sr_bipush (v := 16) h dM_add0_146 (by decide) ?_
      refine sr_aload_n h dM_add0_148 rfl 0 rfl ?_
      obtain ⟨r_5, hv_6, vc⟩ := vc
      refine sr_get h inM rfl 10 (by decide) kw_464 dM_add0_149 ho_2 hv_6 ?_
      refine sr_iload h dM_add0_152 6 rfl ?_
      obtain ⟨a_7, rfl, vc⟩ := vc
      obtain ⟨N_8, f_9, ho_10, vc⟩ := vc
      obtain ⟨j_11, hi_12, hj_13, vc⟩ := vc
      refine sr_iald h dM_add0_154 ho_10 hi_12 hj_13 ?_
      refine sr_imul h dM_add0_155 ?_
      refine sr_iload h dM_add0_156 4 rfl ?_
      refine sr_iadd h dM_add0_158 ?_
      obtain ⟨a_14, rfl, vc⟩ := vc
      obtain ⟨N_15, f_16, ho_17, vc⟩ := vc
      obtain ⟨j_18, hi_19, hj_20, vc⟩ := vc
      refine sr_sald h dM_add0_159 ho_17 hi_19 hj_20 ?_
      refine sr_aload_n h dM_add0_160 rfl 0 rfl ?_
      obtain ⟨r_21, hv_22, vc⟩ := vc
      refine sr_get h inM rfl 1 (by decide) kw_455 dM_add0_161 ho_2 hv_22 ?_
      refine sr_iload h dM_add0_164 4 rfl ?_
      obtain ⟨a_23, rfl, vc⟩ := vc
      obtain ⟨N_24, f_25, ho_26, vc⟩ := vc
      obtain ⟨j_27, hi_28, hj_29, vc⟩ := vc
      refine sr_iald h dM_add0_166 ho_26 hi_28 hj_29 ?_
      refine sr_icmp_ne (tgt := 174) h dM_add0_167 (by decide) (fun c_30 => ?_) (fun c_30 => ?_)
      · replace vc := vc.1 c_30
        refine sr_iconst (v := 0) h dM_add0_174 (by decide) ?_
        refine sr_ior h dM_add0_175 ?_
        refine sr_istore (lv' := [(0, .ref a0), (1, .int v1), (2, .int v2), (3, .int v3), (4, .int v4), (5, .int (v5 ||| 0)), (6, .int v6)]) h dM_add0_176 (by decide) rfl ?_
        refine sr_iinc (u := v6 + 1) (lv' := [(0, .ref a0), (1, .int v1), (2, .int v2), (3, .int v3), (4, .int v4), (5, .int (v5 ||| 0)), (6, .int (v6 + 1))]) h dM_add0_178 6 rfl rfl (by decide) rfl ?_
        refine sr_goto (tgt := 129) h dM_add0_181 (by decide) ?_
        exact vc
      · replace vc := vc.2 c_30
        refine sr_iconst (v := 1) h dM_add0_170 (by decide) ?_
        refine sr_goto (tgt := 175) h dM_add0_171 (by decide) ?_
        refine sr_ior h dM_add0_175 ?_
        refine sr_istore (lv' := [(0, .ref a0), (1, .int v1), (2, .int v2), (3, .int v3), (4, .int v4), (5, .int (v5 ||| 1)), (6, .int v6)]) h dM_add0_176 (by decide) rfl ?_
        refine sr_iinc (u := v6 + 1) (lv' := [(0, .ref a0), (1, .int v1), (2, .int v2), (3, .int v3), (4, .int v4), (5, .int (v5 ||| 1)), (6, .int (v6 + 1))]) h dM_add0_178 6 rfl rfl (by decide) rfl ?_
        refine sr_goto (tgt := 129) h dM_add0_181 (by decide) ?_
        exact vc
set_option maxRecDepth 100000 in
set_option maxHeartbeats 4000000 in
theorem bkM_add0_184 {κ : sp_K} {x : sp_X} {mc ms : Nat} {Rt : Option Value → sp_M → Prop} {Xt : String → sp_M → Prop} {μ : sp_M} {k n : Nat} {a0 : Nat} {v1 : Int32} {v2 : Int32} {v3 : Int32} {v4 : Int32} {v5 : Int32} {v6 : Int32} (h : cxM_add0 κ x mc ms) (hk : k ≤ mc ∧ n ≤ ms)
    (vc : ((¬ v5 = 0 → (∃ fs_1 : List Value, μ a0 = some (.inr (3, fs_1)) ∧ ∃ v_3 : Int32, fs_1[9]? = some (.int v_3) ∧ ((8192 < (v_3 + v2) → ((k + 1 ≤ mc ∧ n + 6 ≤ ms) ∧ Xt "java/lang/IllegalStateException" μ)) ∧ (¬ 8192 < (v_3 + v2) → ((0 ≤ v4 → sp_w κ x (sp_F κ x Rt Xt mc ms) k n 231 [(0, .ref a0), (1, .int v1), (2, .int v2), (3, .int v3), (4, .int v4), (5, .int v5), (6, .int v6)] [] μ) ∧ (¬ 0 ≤ v4 → (∃ v_6 : Int32, fs_1[2]? = some (.int v_6) ∧ ((¬ v_6 = 16 → sp_w κ x (sp_F κ x Rt Xt mc ms) k n 231 [(0, .ref a0), (1, .int v1), (2, .int v2), (3, .int v3), (4, .int v4), (5, .int v5), (6, .int v6)] [] μ) ∧ (v_6 = 16 → ((k + 1 ≤ mc ∧ n + 6 ≤ ms) ∧ Xt "java/lang/IllegalStateException" μ)))))))))) ∧ (v5 = 0 → ((k + 1 ≤ mc ∧ n + 6 ≤ ms) ∧ Xt "java/lang/UnsupportedOperationException" μ)))) : sp_w κ x (sp_F κ x Rt Xt mc ms) k n 184 [(0, .ref a0), (1, .int v1), (2, .int v2), (3, .int v3), (4, .int v4), (5, .int v5), (6, .int v6)] [] μ := by
  refine sr_iload h dM_add0_184 5 rfl ?_
  refine sr_if_ne (tgt := 197) h dM_add0_186 (by decide) (fun c_13 => ?_) (fun c_13 => ?_)
  · replace vc := vc.1 c_13
    refine sr_aload_n h dM_add0_197 rfl 0 rfl ?_
    obtain ⟨fs_1, ho_2, vc⟩ := vc
    obtain ⟨v_3, hv_4, vc⟩ := vc
    refine sr_get h inM rfl 9 (by decide) kw_463 dM_add0_198 ho_2 hv_4 ?_
    refine sr_iload_n h dM_add0_201 rfl 2 rfl ?_
    refine sr_iadd h dM_add0_202 ?_
    refine sr_sipush (v := 8192) h dM_add0_203 (by decide) ?_
    refine sr_icmp_gt (tgt := 223) h dM_add0_206 (by decide) (fun c_11 => ?_) (fun c_11 => ?_)
    · replace vc := vc.1 c_11
      obtain ⟨hc_5, vc⟩ := vc
      exact sr_throw0 (names := ["java/lang/RuntimeException", "java/lang/Exception"]) h (by decide +kernel) (by decide +kernel) kw_508 kw_41 ka_M_74 kg_M_74 dM_add0_223 dM_add0_226 dM_add0_227 dM_add0_230 (fun _ z => nomatch z) (Nat.le_of_ble_eq_true rfl) (Nat.le_of_ble_eq_true rfl) hc_5.1 hc_5.2 hc_5.1 hc_5.2 vc
    · replace vc := vc.2 c_11
      refine sr_iload h dM_add0_209 4 rfl ?_
      refine sr_if_ge (tgt := 231) h dM_add0_211 (by decide) (fun c_10 => ?_) (fun c_10 => ?_)
      · replace vc := vc.1 c_10
        exact vc
      · replace vc := vc.2 c_10
        refine sr_aload_n h dM_add0_214 rfl 0 rfl ?_
        obtain ⟨v_6, hv_7, vc⟩ := vc
        refine sr_get h inM rfl 2 (by decide) kw_456 dM_add0_215 ho_2 hv_7 ?_
        refine sr_bipush (v := 16) h dM_add0_218 (by decide) ?_
        refine sr_icmp_ne (tgt := 231) h dM_add0_220 (by decide) (fun c_9 => ?_) (fun c_9 => ?_)
        · replace vc := vc.1 c_9
          exact vc
        · replace vc := vc.2 c_9
          obtain ⟨hc_8, vc⟩ := vc
          exact sr_throw0 (names := ["java/lang/RuntimeException", "java/lang/Exception"]) h (by decide +kernel) (by decide +kernel) kw_508 kw_41 ka_M_74 kg_M_74 dM_add0_223 dM_add0_226 dM_add0_227 dM_add0_230 (fun _ z => nomatch z) (Nat.le_of_ble_eq_true rfl) (Nat.le_of_ble_eq_true rfl) hc_8.1 hc_8.2 hc_8.1 hc_8.2 vc
  · replace vc := vc.2 c_13
    obtain ⟨hc_12, vc⟩ := vc
    exact sr_throw0 (names := ["java/lang/RuntimeException", "java/lang/Exception"]) h (by decide +kernel) (by decide +kernel) kw_507 kw_40 ka_M_71 kg_M_71 dM_add0_189 dM_add0_192 dM_add0_193 dM_add0_196 (fun _ z => nomatch z) (Nat.le_of_ble_eq_true rfl) (Nat.le_of_ble_eq_true rfl) hc_12.1 hc_12.2 hc_12.1 hc_12.2 vc
set_option maxRecDepth 100000 in
set_option maxHeartbeats 4000000 in
theorem bkM_add0_231 {κ : sp_K} {x : sp_X} {mc ms : Nat} {Rt : Option Value → sp_M → Prop} {Xt : String → sp_M → Prop} {μ : sp_M} {k n : Nat} {a0 : Nat} {v1 : Int32} {v2 : Int32} {v3 : Int32} {v4 : Int32} {v5 : Int32} {v6 : Int32} (h : cxM_add0 κ x mc ms) (hk : k ≤ mc ∧ n ≤ ms)
    (vc : ((0 ≤ v4 → sp_w κ x (sp_F κ x Rt Xt mc ms) k n 263 [(0, .ref a0), (1, .int v1), (2, .int v2), (3, .int v3), (4, .int v4), (5, .int v5), (6, .int 0)] [] μ) ∧ (¬ 0 ≤ v4 → (∃ fs_1 : List Value, μ a0 = some (.inr (3, fs_1)) ∧ ∃ v_3 : Int32, fs_1[2]? = some (.int v_3) ∧ (∃ r_5 : Option Nat, fs_1[0]? = some (va_rf r_5) ∧ (∃ a_7 : Nat, r_5 = some a_7 ∧ ∃ (N_8 : Nat) (f_9 : Nat → Int32), μ a_7 = some (sp_ia κ N_8 f_9) ∧ ∃ j_11 : Nat, v_3 = nI j_11 ∧ j_11 < N_8 ∧ ∀ μ_14 : sp_M, μ_14 = va_up μ a_7 (some (sp_ia κ N_8 (upd f_9 j_11 v1))) → (∃ fs_15 : List Value, μ_14 a0 = some (.inr (3, fs_15)) ∧ ∃ v_17 : Int32, fs_15[2]? = some (.int v_17) ∧ (2 < fs_15.length ∧ ∀ μ_19 : sp_M, μ_19 = va_up μ_14 a0 (some (.inr (3, fs_15.set 2 (.int (v_17 + 1))))) → sp_w κ x (sp_F κ x Rt Xt mc ms) k n 263 [(0, .ref a0), (1, .int v1), (2, .int v2), (3, .int v3), (4, .int v_3), (5, .int v5), (6, .int 0)] [] μ_19)))))))) : sp_w κ x (sp_F κ x Rt Xt mc ms) k n 231 [(0, .ref a0), (1, .int v1), (2, .int v2), (3, .int v3), (4, .int v4), (5, .int v5), (6, .int v6)] [] μ := by
  refine sr_iload h dM_add0_231 4 rfl ?_
  refine sr_if_ge (tgt := 260) h dM_add0_233 (by decide) (fun c_21 => ?_) (fun c_21 => ?_)
  · replace vc := vc.1 c_21
    refine sr_iconst (v := 0) h dM_add0_260 (by decide) ?_
    refine sr_istore (lv' := [(0, .ref a0), (1, .int v1), (2, .int v2), (3, .int v3), (4, .int v4), (5, .int v5), (6, .int 0)]) h dM_add0_261 (by decide) rfl ?_
    exact vc
  · replace vc := vc.2 c_21
    refine sr_aload_n h dM_add0_236 rfl 0 rfl ?_
    obtain ⟨fs_1, ho_2, vc⟩ := vc
    obtain ⟨v_3, hv_4, vc⟩ := vc
    refine sr_get h inM rfl 2 (by decide) kw_456 dM_add0_237 ho_2 hv_4 ?_
    refine sr_istore (lv' := [(0, .ref a0), (1, .int v1), (2, .int v2), (3, .int v3), (4, .int v_3), (5, .int v5), (6, .int v6)]) h dM_add0_240 (by decide) rfl ?_
    refine sr_aload_n h dM_add0_242 rfl 0 rfl ?_
    obtain ⟨r_5, hv_6, vc⟩ := vc
    refine sr_get h inM rfl 0 (by decide) kw_454 dM_add0_243 ho_2 hv_6 ?_
    refine sr_iload h dM_add0_246 4 rfl ?_
    refine sr_iload_n h dM_add0_248 rfl 1 rfl ?_
    obtain ⟨a_7, rfl, vc⟩ := vc
    obtain ⟨N_8, f_9, ho_10, vc⟩ := vc
    obtain ⟨j_11, hi_12, hj_13, vc⟩ := vc
    replace vc := vc _ rfl
    refine sr_iast h dM_add0_249 ho_10 hi_12 hj_13 ?_
    refine sr_aload_n h dM_add0_250 rfl 0 rfl ?_
    refine sr_dup h dM_add0_251 (sp_c1r _) ?_
    obtain ⟨fs_15, ho_16, vc⟩ := vc
    obtain ⟨v_17, hv_18, vc⟩ := vc
    refine sr_get h inM rfl 2 (by decide) kw_456 dM_add0_252 ho_16 hv_18 ?_
    refine sr_iconst (v := 1) h dM_add0_255 (by decide) ?_
    refine sr_iadd h dM_add0_256 ?_
    obtain ⟨hl_20, vc⟩ := vc
    replace vc := vc _ rfl
    refine sr_put h inM tyM tyM_ok nmM rfl 2 (by decide) kw_456 rfl dM_add0_257 ho_16 rfl rfl hl_20 ?_
    refine sr_iconst (v := 0) h dM_add0_260 (by decide) ?_
    refine sr_istore (lv' := [(0, .ref a0), (1, .int v1), (2, .int v2), (3, .int v3), (4, .int v_3), (5, .int v5), (6, .int 0)]) h dM_add0_261 (by decide) rfl ?_
    exact vc
set_option maxRecDepth 100000 in
set_option maxHeartbeats 4000000 in
theorem bkM_add0_263 {κ : sp_K} {x : sp_X} {mc ms : Nat} {Rt : Option Value → sp_M → Prop} {Xt : String → sp_M → Prop} {μ : sp_M} {k n : Nat} {a0 : Nat} {v1 : Int32} {v2 : Int32} {v3 : Int32} {v4 : Int32} {v5 : Int32} {v6 : Int32} (h : cxM_add0 κ x mc ms) (hk : k ≤ mc ∧ n ≤ ms)
    (vc : ((v2 ≤ v6 → (∃ fs_1 : List Value, μ a0 = some (.inr (3, fs_1)) ∧ ∃ v_3 : Int32, fs_1[9]? = some (.int v_3) ∧ Rt (some (.int (v_3 - 1))) μ)) ∧ (¬ v2 ≤ v6 → ((¬ v6 = 0 → sp_w κ x (sp_F κ x Rt Xt mc ms) k n 282 [(0, .ref a0), (1, .int v1), (2, .int v2), (3, .int v3), (4, .int v4), (5, .int v5), (6, .int v6)] [.int 1, .int v4, .ref a0] μ) ∧ (v6 = 0 → sp_w κ x (sp_F κ x Rt Xt mc ms) k n 282 [(0, .ref a0), (1, .int v1), (2, .int v2), (3, .int v3), (4, .int v4), (5, .int v5), (6, .int v6)] [.int v3, .int v4, .ref a0] μ))))) : sp_w κ x (sp_F κ x Rt Xt mc ms) k n 263 [(0, .ref a0), (1, .int v1), (2, .int v2), (3, .int v3), (4, .int v4), (5, .int v5), (6, .int v6)] [] μ := by
  refine sr_iload h dM_add0_263 6 rfl ?_
  refine sr_iload_n h dM_add0_265 rfl 2 rfl ?_
  refine sr_icmp_ge (tgt := 301) h dM_add0_266 (by decide) (fun c_6 => ?_) (fun c_6 => ?_)
  · replace vc := vc.1 c_6
    refine sr_aload_n h dM_add0_301 rfl 0 rfl ?_
    obtain ⟨fs_1, ho_2, vc⟩ := vc
    obtain ⟨v_3, hv_4, vc⟩ := vc
    refine sr_get h inM rfl 9 (by decide) kw_463 dM_add0_302 ho_2 hv_4 ?_
    refine sr_iconst (v := 1) h dM_add0_305 (by decide) ?_
    refine sr_isub h dM_add0_306 ?_
    exact sr_iret h dM_add0_307 hk.1 hk.2 vc
  · replace vc := vc.2 c_6
    refine sr_aload_n h dM_add0_269 rfl 0 rfl ?_
    refine sr_iload h dM_add0_270 4 rfl ?_
    refine sr_iload h dM_add0_272 6 rfl ?_
    refine sr_if_ne (tgt := 281) h dM_add0_274 (by decide) (fun c_5 => ?_) (fun c_5 => ?_)
    · replace vc := vc.1 c_5
      refine sr_iconst (v := 1) h dM_add0_281 (by decide) ?_
      exact vc
    · replace vc := vc.2 c_5
      refine sr_iload_n h dM_add0_277 rfl 3 rfl ?_
      refine sr_goto (tgt := 282) h dM_add0_278 (by decide) ?_
      exact vc
set_option maxRecDepth 100000 in
set_option maxHeartbeats 4000000 in
theorem bkM_add0_282 {κ : sp_K} {x : sp_X} {mc ms : Nat} {Rt : Option Value → sp_M → Prop} {Xt : String → sp_M → Prop} {μ : sp_M} {k n : Nat} {a0 : Nat} {v1 : Int32} {v2 : Int32} {v3 : Int32} {v4 : Int32} {v5 : Int32} {v6 : Int32} {as0 : Nat} {vs1 : Int32} {vs2 : Int32} (h : cxM_add0 κ x mc ms) (hk : k ≤ mc ∧ n ≤ ms)
    (vc : ((¬ v6 = 0 → (∃ mc_1 ms_2 : Nat, (k + mc_1 ≤ mc ∧ n + ms_2 ≤ ms) ∧ ∃ fs_6 : List Value, μ as0 = some (.inr (3, fs_6)) ∧ sp_m x.2.1 κ yM_come wM_come 2 48 mc_1 ms_2 [.ref as0, .int vs1, .int vs2, .int 0] μ (fun v_4 μ_5 => v_4 = none ∧ sp_w κ x (sp_F κ x Rt Xt mc ms) (k + mc_1) (n + ms_2) 263 [(0, .ref a0), (1, .int v1), (2, .int v2), (3, .int v3), (4, .int v4), (5, .int v5), (6, .int (v6 + 1))] [] μ_5) (fun E_9 μ_5 => Xt E_9 μ_5))) ∧ (v6 = 0 → (∃ mc_10 ms_11 : Nat, (k + mc_10 ≤ mc ∧ n + ms_11 ≤ ms) ∧ ∃ fs_15 : List Value, μ as0 = some (.inr (3, fs_15)) ∧ sp_m x.2.1 κ yM_come wM_come 2 48 mc_10 ms_11 [.ref as0, .int vs1, .int vs2, .int 1] μ (fun v_13 μ_14 => v_13 = none ∧ sp_w κ x (sp_F κ x Rt Xt mc ms) (k + mc_10) (n + ms_11) 263 [(0, .ref a0), (1, .int v1), (2, .int v2), (3, .int v3), (4, .int v4), (5, .int v5), (6, .int (v6 + 1))] [] μ_14) (fun E_18 μ_14 => Xt E_18 μ_14))))) : sp_w κ x (sp_F κ x Rt Xt mc ms) k n 282 [(0, .ref a0), (1, .int v1), (2, .int v2), (3, .int v3), (4, .int v4), (5, .int v5), (6, .int v6)] [.int vs2, .int vs1, .ref as0] μ := by
  refine sr_iload h dM_add0_282 6 rfl ?_
  refine sr_if_ne (tgt := 291) h dM_add0_284 (by decide) (fun c_19 => ?_) (fun c_19 => ?_)
  · replace vc := vc.1 c_19
    refine sr_iconst (v := 0) h dM_add0_291 (by decide) ?_
    obtain ⟨mc_1, ms_2, hc_3, vc⟩ := vc
    obtain ⟨fs_6, ho_7, vc⟩ := vc
    refine sr_callV (y := yM_come) (n0 := 3) (As := [.int vs1, .int vs2, .int 0]) h (sp_gV kw_557 kw_559 kw_20 kw_35 kw_560) rfl (by decide +kernel) ⟨Nat.le_of_ble_eq_true rfl, Nat.le_of_ble_eq_true rfl⟩ (ci := 3) rfl dM_add0_292 rfl rfl (Nat.le_of_ble_eq_true rfl) hc_3 ho_7 vc (fun v_4 μ_5 vc' => ?_) (fun E_9 μ_5 vc' => ?_)
    · replace vc := vc'
      clear vc'
      obtain ⟨rfl, vc⟩ := vc
      refine sr_iinc (u := v6 + 1) (lv' := [(0, .ref a0), (1, .int v1), (2, .int v2), (3, .int v3), (4, .int v4), (5, .int v5), (6, .int (v6 + 1))]) h dM_add0_295 6 rfl rfl (by decide) rfl ?_
      refine sr_goto (tgt := 263) h dM_add0_298 (by decide) ?_
      exact vc
    · replace vc := vc'
      clear vc'
      exact st_out h (fun _ z => nomatch z) hc_3.1 hc_3.2 vc
  · replace vc := vc.2 c_19
    refine sr_iconst (v := 1) h dM_add0_287 (by decide) ?_
    refine sr_goto (tgt := 292) h dM_add0_288 (by decide) ?_
    obtain ⟨mc_10, ms_11, hc_12, vc⟩ := vc
    obtain ⟨fs_15, ho_16, vc⟩ := vc
    refine sr_callV (y := yM_come) (n0 := 3) (As := [.int vs1, .int vs2, .int 1]) h (sp_gV kw_557 kw_559 kw_20 kw_35 kw_560) rfl (by decide +kernel) ⟨Nat.le_of_ble_eq_true rfl, Nat.le_of_ble_eq_true rfl⟩ (ci := 3) rfl dM_add0_292 rfl rfl (Nat.le_of_ble_eq_true rfl) hc_12 ho_16 vc (fun v_13 μ_14 vc' => ?_) (fun E_18 μ_14 vc' => ?_)
    · replace vc := vc'
      clear vc'
      obtain ⟨rfl, vc⟩ := vc
      refine sr_iinc (u := v6 + 1) (lv' := [(0, .ref a0), (1, .int v1), (2, .int v2), (3, .int v3), (4, .int v4), (5, .int v5), (6, .int (v6 + 1))]) h dM_add0_295 6 rfl rfl (by decide) rfl ?_
      refine sr_goto (tgt := 263) h dM_add0_298 (by decide) ?_
      exact vc
    · replace vc := vc'
      clear vc'
      exact st_out h (fun _ z => nomatch z) hc_12.1 hc_12.2 vc
theorem opM_add0 {l : Launch} {κ : sp_K} {mc ms : Nat} {Rt : Option Value → sp_M → Prop} {Xt : String → sp_M → Prop} {μ : sp_M} {a0 : Nat} {v1 : Int32} {v2 : Int32} (htr : l.stackTraces = false) (body : ∀ x : sp_X, x.2.1.stackTraces = false → cxM_add0 κ x mc ms → sp_w κ x (sp_F κ x Rt Xt mc ms) 0 0 0 [(0, .ref a0), (1, .int v1), (2, .int v2)] [] μ) : sp_m l κ yM_add0 wM_add0 6 90 mc ms [.ref a0, .int v1, .int v2] μ Rt Xt :=
  sp_open htr (by decide +kernel) rfl (Nat.le_of_ble_eq_true rfl) (by intro v hv; simp only [List.mem_cons, List.not_mem_nil, or_false] at hv; rcases hv with rfl | rfl | rfl <;> first | rfl | exact sp_c1o _) (fun x hx h => body x (by rw [hx]; exact htr) h)

abbrev cxM_come (κ : sp_K) (x : sp_X) (mc ms : Nat) : Prop := sp_C κ x cM_come 9 RM none [] "come" (sp_rm 2 48 mc ms)
set_option maxRecDepth 100000 in
set_option maxHeartbeats 4000000 in
theorem bkM_come_0 {κ : sp_K} {x : sp_X} {mc ms : Nat} {Rt : Option Value → sp_M → Prop} {Xt : String → sp_M → Prop} {μ : sp_M} {k n : Nat} {a0 : Nat} {v1 : Int32} {v2 : Int32} {v3 : Int32} (h : cxM_come κ x mc ms) (hk : k ≤ mc ∧ n ≤ ms)
    (vc : (∃ fs_1 : List Value, μ a0 = some (.inr (3, fs_1)) ∧ ∃ v_3 : Int32, fs_1[9]? = some (.int v_3) ∧ (∃ r_5 : Option Nat, fs_1[4]? = some (va_rf r_5) ∧ (∃ a_7 : Nat, r_5 = some a_7 ∧ ∃ (N_8 : Nat) (f_9 : Nat → Int32), μ a_7 = some (sp_sa κ N_8 f_9) ∧ ∃ j_11 : Nat, v_3 = nI j_11 ∧ j_11 < N_8 ∧ ∀ μ_14 : sp_M, μ_14 = va_up μ a_7 (some (sp_sa κ N_8 (upd f_9 j_11 (vp_nar .short ((Int32.toInt16 v1).toInt32))))) → (∃ fs_15 : List Value, μ_14 a0 = some (.inr (3, fs_15)) ∧ ∃ r_17 : Option Nat, fs_15[5]? = some (va_rf r_17) ∧ (∃ r_19 : Option Nat, fs_15[1]? = some (va_rf r_19) ∧ (∃ a_21 : Nat, r_19 = some a_21 ∧ ∃ (N_22 : Nat) (f_23 : Nat → Int32), μ_14 a_21 = some (sp_ia κ N_22 f_23) ∧ ∃ j_25 : Nat, v1 = nI j_25 ∧ j_25 < N_22 ∧ (∃ a_28 : Nat, r_17 = some a_28 ∧ ∃ (N_29 : Nat) (f_30 : Nat → Int32), μ_14 a_28 = some (sp_sa κ N_29 f_30) ∧ ∃ j_32 : Nat, v_3 = nI j_32 ∧ j_32 < N_29 ∧ ∀ μ_35 : sp_M, μ_35 = va_up μ_14 a_28 (some (sp_sa κ N_29 (upd f_30 j_32 (vp_nar .short ((Int32.toInt16 (f_23 j_25)).toInt32))))) → (∃ fs_36 : List Value, μ_35 a0 = some (.inr (3, fs_36)) ∧ ∃ r_38 : Option Nat, fs_36[6]? = some (va_rf r_38) ∧ (∃ a_40 : Nat, r_38 = some a_40 ∧ ∃ (N_41 : Nat) (f_42 : Nat → Int32), μ_35 a_40 = some (sp_sa κ N_41 f_42) ∧ ∃ j_44 : Nat, v_3 = nI j_44 ∧ j_44 < N_41 ∧ ∀ μ_47 : sp_M, μ_47 = va_up μ_35 a_40 (some (sp_sa κ N_41 (upd f_42 j_44 (vp_nar .short ((Int32.toInt16 v2).toInt32))))) → sp_w κ x (sp_F κ x Rt Xt mc ms) k n 41 [(0, .ref a0), (1, .int v1), (2, .int v2), (3, .int v3), (4, .int v_3), (5, .int 0)] [] μ_47)))))))))) : sp_w κ x (sp_F κ x Rt Xt mc ms) k n 0 [(0, .ref a0), (1, .int v1), (2, .int v2), (3, .int v3)] [] μ := by
  refine sr_aload_n h dM_come_0 rfl 0 rfl ?_
  obtain ⟨fs_1, ho_2, vc⟩ := vc
  obtain ⟨v_3, hv_4, vc⟩ := vc
  refine sr_get h inM rfl 9 (by decide) kw_463 dM_come_1 ho_2 hv_4 ?_
  refine sr_istore (lv' := [(0, .ref a0), (1, .int v1), (2, .int v2), (3, .int v3), (4, .int v_3)]) h dM_come_4 (by decide) rfl ?_
  refine sr_aload_n h dM_come_6 rfl 0 rfl ?_
  obtain ⟨r_5, hv_6, vc⟩ := vc
  refine sr_get h inM rfl 4 (by decide) kw_458 dM_come_7 ho_2 hv_6 ?_
  refine sr_iload h dM_come_10 4 rfl ?_
  refine sr_iload_n h dM_come_12 rfl 1 rfl ?_
  refine sr_i2s h dM_come_13 ?_
  obtain ⟨a_7, rfl, vc⟩ := vc
  obtain ⟨N_8, f_9, ho_10, vc⟩ := vc
  obtain ⟨j_11, hi_12, hj_13, vc⟩ := vc
  replace vc := vc _ rfl
  refine sr_sast h dM_come_14 ho_10 hi_12 hj_13 ?_
  refine sr_aload_n h dM_come_15 rfl 0 rfl ?_
  obtain ⟨fs_15, ho_16, vc⟩ := vc
  obtain ⟨r_17, hv_18, vc⟩ := vc
  refine sr_get h inM rfl 5 (by decide) kw_459 dM_come_16 ho_16 hv_18 ?_
  refine sr_iload h dM_come_19 4 rfl ?_
  refine sr_aload_n h dM_come_21 rfl 0 rfl ?_
  obtain ⟨r_19, hv_20, vc⟩ := vc
  refine sr_get h inM rfl 1 (by decide) kw_455 dM_come_22 ho_16 hv_20 ?_
  refine sr_iload_n h dM_come_25 rfl 1 rfl ?_
  obtain ⟨a_21, rfl, vc⟩ := vc
  obtain ⟨N_22, f_23, ho_24, vc⟩ := vc
  obtain ⟨j_25, hi_26, hj_27, vc⟩ := vc
  refine sr_iald h dM_come_26 ho_24 hi_26 hj_27 ?_
  refine sr_i2s h dM_come_27 ?_
  obtain ⟨a_28, rfl, vc⟩ := vc
  obtain ⟨N_29, f_30, ho_31, vc⟩ := vc
  obtain ⟨j_32, hi_33, hj_34, vc⟩ := vc
  replace vc := vc _ rfl
  refine sr_sast h dM_come_28 ho_31 hi_33 hj_34 ?_
  refine sr_aload_n h dM_come_29 rfl 0 rfl ?_
  obtain ⟨fs_36, ho_37, vc⟩ := vc
  obtain ⟨r_38, hv_39, vc⟩ := vc
  refine sr_get h inM rfl 6 (by decide) kw_460 dM_come_30 ho_37 hv_39 ?_
  refine sr_iload h dM_come_33 4 rfl ?_
  refine sr_iload_n h dM_come_35 rfl 2 rfl ?_
  refine sr_i2s h dM_come_36 ?_
  obtain ⟨a_40, rfl, vc⟩ := vc
  obtain ⟨N_41, f_42, ho_43, vc⟩ := vc
  obtain ⟨j_44, hi_45, hj_46, vc⟩ := vc
  replace vc := vc _ rfl
  refine sr_sast h dM_come_37 ho_43 hi_45 hj_46 ?_
  refine sr_iconst (v := 0) h dM_come_38 (by decide) ?_
  refine sr_istore (lv' := [(0, .ref a0), (1, .int v1), (2, .int v2), (3, .int v3), (4, .int v_3), (5, .int 0)]) h dM_come_39 (by decide) rfl ?_
  exact vc
set_option maxRecDepth 100000 in
set_option maxHeartbeats 4000000 in
theorem bkM_come_41 {κ : sp_K} {x : sp_X} {mc ms : Nat} {Rt : Option Value → sp_M → Prop} {Xt : String → sp_M → Prop} {μ : sp_M} {k n : Nat} {a0 : Nat} {v1 : Int32} {v2 : Int32} {v3 : Int32} {v4 : Int32} {v5 : Int32} (h : cxM_come κ x mc ms) (hk : k ≤ mc ∧ n ≤ ms)
    (vc : ((16 ≤ v5 → sp_w κ x (sp_F κ x Rt Xt mc ms) k n 71 [(0, .ref a0), (1, .int v1), (2, .int v2), (3, .int v3), (4, .int v4), (5, .int 0)] [] μ) ∧ (¬ 16 ≤ v5 → (∃ fs_1 : List Value, μ a0 = some (.inr (3, fs_1)) ∧ ∃ r_3 : Option Nat, fs_1[8]? = some (va_rf r_3) ∧ (∃ a_5 : Nat, r_3 = some a_5 ∧ ∃ (N_6 : Nat) (f_7 : Nat → Int32), μ a_5 = some (sp_sa κ N_6 f_7) ∧ ∃ j_9 : Nat, (16 * v4) + v5 = nI j_9 ∧ j_9 < N_6 ∧ ∀ μ_12 : sp_M, μ_12 = va_up μ a_5 (some (sp_sa κ N_6 (upd f_7 j_9 (vp_nar .short 0)))) → sp_w κ x (sp_F κ x Rt Xt mc ms) k n 41 [(0, .ref a0), (1, .int v1), (2, .int v2), (3, .int v3), (4, .int v4), (5, .int (v5 + 1))] [] μ_12))))) : sp_w κ x (sp_F κ x Rt Xt mc ms) k n 41 [(0, .ref a0), (1, .int v1), (2, .int v2), (3, .int v3), (4, .int v4), (5, .int v5)] [] μ := by
  refine sr_iload h dM_come_41 5 rfl ?_
  refine sr_bipush (v := 16) h dM_come_43 (by decide) ?_
  refine sr_icmp_ge (tgt := 68) h dM_come_45 (by decide) (fun c_13 => ?_) (fun c_13 => ?_)
  · replace vc := vc.1 c_13
    refine sr_iconst (v := 0) h dM_come_68 (by decide) ?_
    refine sr_istore (lv' := [(0, .ref a0), (1, .int v1), (2, .int v2), (3, .int v3), (4, .int v4), (5, .int 0)]) h dM_come_69 (by decide) rfl ?_
    exact vc
  · replace vc := vc.2 c_13
    refine sr_aload_n h dM_come_48 rfl 0 rfl ?_
    obtain ⟨fs_1, ho_2, vc⟩ := vc
    obtain ⟨r_3, hv_4, vc⟩ := vc
    refine sr_get h inM rfl 8 (by decide) kw_462 dM_come_49 ho_2 hv_4 ?_
    refine sr_bipush (v := 16) h dM_come_52 (by decide) ?_
    refine sr_iload h dM_come_54 4 rfl ?_
    refine sr_imul h dM_come_56 ?_
    refine sr_iload h dM_come_57 5 rfl ?_
    refine sr_iadd h dM_come_59 ?_
    refine sr_iconst (v := 0) h dM_come_60 (by decide) ?_
    obtain ⟨a_5, rfl, vc⟩ := vc
    obtain ⟨N_6, f_7, ho_8, vc⟩ := vc
    obtain ⟨j_9, hi_10, hj_11, vc⟩ := vc
    replace vc := vc _ rfl
    refine sr_sast h dM_come_61 ho_8 hi_10 hj_11 ?_
    refine sr_iinc (u := v5 + 1) (lv' := [(0, .ref a0), (1, .int v1), (2, .int v2), (3, .int v3), (4, .int v4), (5, .int (v5 + 1))]) h dM_come_62 5 rfl rfl (by decide) rfl ?_
    refine sr_goto (tgt := 41) h dM_come_65 (by decide) ?_
    exact vc
set_option maxRecDepth 100000 in
set_option maxHeartbeats 4000000 in
theorem bkM_come_71 {κ : sp_K} {x : sp_X} {mc ms : Nat} {Rt : Option Value → sp_M → Prop} {Xt : String → sp_M → Prop} {μ : sp_M} {k n : Nat} {a0 : Nat} {v1 : Int32} {v2 : Int32} {v3 : Int32} {v4 : Int32} {v5 : Int32} (h : cxM_come κ x mc ms) (hk : k ≤ mc ∧ n ≤ ms)
    (vc : ((v2 ≤ v5 → (∃ fs_1 : List Value, μ a0 = some (.inr (3, fs_1)) ∧ ∃ r_3 : Option Nat, fs_1[1]? = some (va_rf r_3) ∧ (∃ a_5 : Nat, r_3 = some a_5 ∧ ∃ (N_6 : Nat) (f_7 : Nat → Int32), μ a_5 = some (sp_ia κ N_6 f_7) ∧ ∃ j_9 : Nat, v1 = nI j_9 ∧ j_9 < N_6 ∧ (∃ r_12 : Option Nat, fs_1[3]? = some (va_rf r_12) ∧ (∃ a_14 : Nat, r_12 = some a_14 ∧ ∃ (N_15 : Nat) (f_16 : Nat → Option Nat), μ a_14 = some (sp_ra κ 5 N_15 f_16) ∧ ∃ j_18 : Nat, v1 = nI j_18 ∧ j_18 < N_15 ∧ ∃ r_21 : Option Nat, f_16 j_18 = r_21 ∧ (∃ a_23 : Nat, r_21 = some a_23 ∧ ∃ (N_24 : Nat) (f_25 : Nat → Int32), μ a_23 = some (sp_ia κ N_24 f_25) ∧ ((¬ (f_7 j_9) = (nI N_24) → sp_w κ x (sp_F κ x Rt Xt mc ms) k n 292 [(0, .ref a0), (1, .int v1), (2, .int v2), (3, .int v3), (4, .int v4), (5, .int v5)] [] μ) ∧ ((f_7 j_9) = (nI N_24) → (((∃ j_27 : Nat, v1 = nI j_27 ∧ j_27 < N_15 ∧ ∃ r_30 : Option Nat, f_16 j_27 = r_30 ∧ ((∃ j_32 : Nat, v1 = nI j_32 ∧ j_32 < N_6 ∧ (∃ mc_35 ms_36 : Nat, (k + mc_35 ≤ mc ∧ n + ms_36 ≤ ms) ∧ sp_m x.2.1 κ yJ_copyOf wJ_copyOf 1 26 mc_35 ms_36 [va_rf r_30, .int (2 * (f_7 j_32))] μ (fun v_38 μ_39 => ∃ r_41 : Option Nat, v_38 = some (va_rf r_41) ∧ (∃ a_42 : Nat, r_41 = some a_42 ∧ ∃ (N_43 : Nat) (f_44 : Nat → Option Nat), μ_39 a_14 = some (sp_ra κ 5 N_43 f_44) ∧ ∃ (N_50 : Nat) (f_51 : Nat → Int32), μ_39 a_42 = some (sp_ia κ N_50 f_51) ∧ ∃ j_46 : Nat, v1 = nI j_46 ∧ j_46 < N_43 ∧ ∀ μ_49 : sp_M, μ_49 = va_up μ_39 a_14 (some (sp_ra κ 5 N_43 (va_up f_44 j_46 (some a_42)))) → sp_w κ x (sp_F κ x Rt Xt mc ms) (k + mc_35) (n + ms_36) 292 [(0, .ref a0), (1, .int v1), (2, .int v2), (3, .int v3), (4, .int v4), (5, .int v5)] [] μ_49)) (fun E_53 μ_39 => Xt E_53 μ_39))))))))))))))) ∧ (¬ v2 ≤ v5 → ((v3 = 0 → sp_w κ x (sp_F κ x Rt Xt mc ms) k n 101 [(0, .ref a0), (1, .int v1), (2, .int v2), (3, .int v3), (4, .int v4), (5, .int v5), (6, .int (v4 - 1)), (7, .int v5)] [] μ) ∧ (¬ v3 = 0 → (∃ fs_55 : List Value, μ a0 = some (.inr (3, fs_55)) ∧ ∃ r_57 : Option Nat, fs_55[10]? = some (va_rf r_57) ∧ (∃ a_59 : Nat, r_57 = some a_59 ∧ ∃ (N_60 : Nat) (f_61 : Nat → Int32), μ a_59 = some (sp_ia κ N_60 f_61) ∧ ∃ j_63 : Nat, v5 = nI j_63 ∧ j_63 < N_60 ∧ sp_w κ x (sp_F κ x Rt Xt mc ms) k n 101 [(0, .ref a0), (1, .int v1), (2, .int v2), (3, .int v3), (4, .int v4), (5, .int v5), (6, .int (f_61 j_63)), (7, .int v5)] [] μ))))))) : sp_w κ x (sp_F κ x Rt Xt mc ms) k n 71 [(0, .ref a0), (1, .int v1), (2, .int v2), (3, .int v3), (4, .int v4), (5, .int v5)] [] μ := by
  refine sr_iload h dM_come_71 5 rfl ?_
  refine sr_iload_n h dM_come_73 rfl 2 rfl ?_
  refine sr_icmp_ge (tgt := 253) h dM_come_74 (by decide) (fun c_67 => ?_) (fun c_67 => ?_)
  · replace vc := vc.1 c_67
    refine sr_aload_n h dM_come_253 rfl 0 rfl ?_
    obtain ⟨fs_1, ho_2, vc⟩ := vc
    obtain ⟨r_3, hv_4, vc⟩ := vc
    refine sr_get h inM rfl 1 (by decide) kw_455 dM_come_254 ho_2 hv_4 ?_
    refine sr_iload_n h dM_come_257 rfl 1 rfl ?_
    obtain ⟨a_5, rfl, vc⟩ := vc
    obtain ⟨N_6, f_7, ho_8, vc⟩ := vc
    obtain ⟨j_9, hi_10, hj_11, vc⟩ := vc
    refine sr_iald h dM_come_258 ho_8 hi_10 hj_11 ?_
    refine sr_aload_n h dM_come_259 rfl 0 rfl ?_
    obtain ⟨r_12, hv_13, vc⟩ := vc
    refine sr_get h inM rfl 3 (by decide) kw_457 dM_come_260 ho_2 hv_13 ?_
    refine sr_iload_n h dM_come_263 rfl 1 rfl ?_
    obtain ⟨a_14, rfl, vc⟩ := vc
    obtain ⟨N_15, f_16, ho_17, vc⟩ := vc
    obtain ⟨j_18, hi_19, hj_20, vc⟩ := vc
    obtain ⟨r_21, hr_22, vc⟩ := vc
    refine sr_aaldA h dM_come_264 ho_17 hi_19 hj_20 hr_22 ?_
    obtain ⟨a_23, rfl, vc⟩ := vc
    obtain ⟨N_24, f_25, ho_26, vc⟩ := vc
    refine sr_alen (t := 0) h dM_come_265 ho_26 rfl ?_
    refine sr_icmp_ne (tgt := 292) h dM_come_266 (by decide) (fun c_54 => ?_) (fun c_54 => ?_)
    · replace vc := vc.1 c_54
      exact vc
    · replace vc := vc.2 c_54
      refine sr_aload_n h dM_come_269 rfl 0 rfl ?_
      refine sr_get h inM rfl 3 (by decide) kw_457 dM_come_270 ho_2 hv_13 ?_
      refine sr_iload_n h dM_come_273 rfl 1 rfl ?_
      refine sr_aload_n h dM_come_274 rfl 0 rfl ?_
      refine sr_get h inM rfl 3 (by decide) kw_457 dM_come_275 ho_2 hv_13 ?_
      refine sr_iload_n h dM_come_278 rfl 1 rfl ?_
      obtain ⟨j_27, hi_28, hj_29, vc⟩ := vc
      obtain ⟨r_30, hr_31, vc⟩ := vc
      refine sr_aaldA h dM_come_279 ho_17 hi_28 hj_29 hr_31 ?_
      refine sr_iconst (v := 2) h dM_come_280 (by decide) ?_
      refine sr_aload_n h dM_come_281 rfl 0 rfl ?_
      refine sr_get h inM rfl 1 (by decide) kw_455 dM_come_282 ho_2 hv_4 ?_
      refine sr_iload_n h dM_come_285 rfl 1 rfl ?_
      obtain ⟨j_32, hi_33, hj_34, vc⟩ := vc
      refine sr_iald h dM_come_286 ho_8 hi_33 hj_34 ?_
      refine sr_imul h dM_come_287 ?_
      obtain ⟨mc_35, ms_36, hc_37, vc⟩ := vc
      refine sr_callS (y := yJ_copyOf) (n0 := 2) (As := [va_rf r_30, .int (2 * (f_7 j_32))]) (st := [.int v1, .ref a_14]) h (sp_gS kw_561 kw_267 kw_43 kw_268) rfl (by decide +kernel) ⟨Nat.le_of_ble_eq_true rfl, Nat.le_of_ble_eq_true rfl⟩ dM_come_288 rfl rfl (Nat.le_of_ble_eq_true rfl) hc_37 vc (fun v_38 μ_39 vc' => ?_) (fun E_53 μ_39 vc' => ?_)
      · replace vc := vc'
        clear vc'
        obtain ⟨r_41, rfl, vc⟩ := vc
        obtain ⟨a_42, rfl, vc⟩ := vc
        obtain ⟨N_43, f_44, ho_45, vc⟩ := vc
        obtain ⟨N_50, f_51, ho_52, vc⟩ := vc
        obtain ⟨j_46, hi_47, hj_48, vc⟩ := vc
        replace vc := vc _ rfl
        refine sr_aastA h dM_come_291 ho_45 hi_47 hj_48 ho_52 ?_
        exact vc
      · replace vc := vc'
        clear vc'
        exact st_out h (fun _ z => nomatch z) hc_37.1 hc_37.2 vc
  · replace vc := vc.2 c_67
    refine sr_iload_n h dM_come_77 rfl 3 rfl ?_
    refine sr_if_eq (tgt := 91) h dM_come_78 (by decide) (fun c_66 => ?_) (fun c_66 => ?_)
    · replace vc := vc.1 c_66
      refine sr_iload h dM_come_91 4 rfl ?_
      refine sr_iconst (v := 1) h dM_come_93 (by decide) ?_
      refine sr_isub h dM_come_94 ?_
      refine sr_istore (lv' := [(0, .ref a0), (1, .int v1), (2, .int v2), (3, .int v3), (4, .int v4), (5, .int v5), (6, .int (v4 - 1))]) h dM_come_95 (by decide) rfl ?_
      refine sr_iload h dM_come_97 5 rfl ?_
      refine sr_istore (lv' := [(0, .ref a0), (1, .int v1), (2, .int v2), (3, .int v3), (4, .int v4), (5, .int v5), (6, .int (v4 - 1)), (7, .int v5)]) h dM_come_99 (by decide) rfl ?_
      exact vc
    · replace vc := vc.2 c_66
      refine sr_aload_n h dM_come_81 rfl 0 rfl ?_
      obtain ⟨fs_55, ho_56, vc⟩ := vc
      obtain ⟨r_57, hv_58, vc⟩ := vc
      refine sr_get h inM rfl 10 (by decide) kw_464 dM_come_82 ho_56 hv_58 ?_
      refine sr_iload h dM_come_85 5 rfl ?_
      obtain ⟨a_59, rfl, vc⟩ := vc
      obtain ⟨N_60, f_61, ho_62, vc⟩ := vc
      obtain ⟨j_63, hi_64, hj_65, vc⟩ := vc
      refine sr_iald h dM_come_87 ho_62 hi_64 hj_65 ?_
      refine sr_goto (tgt := 95) h dM_come_88 (by decide) ?_
      refine sr_istore (lv' := [(0, .ref a0), (1, .int v1), (2, .int v2), (3, .int v3), (4, .int v4), (5, .int v5), (6, .int (f_61 j_63))]) h dM_come_95 (by decide) rfl ?_
      refine sr_iload h dM_come_97 5 rfl ?_
      refine sr_istore (lv' := [(0, .ref a0), (1, .int v1), (2, .int v2), (3, .int v3), (4, .int v4), (5, .int v5), (6, .int (f_61 j_63)), (7, .int v5)]) h dM_come_99 (by decide) rfl ?_
      exact vc
set_option maxRecDepth 100000 in
set_option maxHeartbeats 4000000 in
theorem bkM_come_101 {κ : sp_K} {x : sp_X} {mc ms : Nat} {Rt : Option Value → sp_M → Prop} {Xt : String → sp_M → Prop} {μ : sp_M} {k n : Nat} {a0 : Nat} {v1 : Int32} {v2 : Int32} {v3 : Int32} {v4 : Int32} {v5 : Int32} {v6 : Int32} {v7 : Int32} (h : cxM_come κ x mc ms) (hk : k ≤ mc ∧ n ≤ ms)
    (vc : ((v7 ≤ 0 → sp_w κ x (sp_F κ x Rt Xt mc ms) k n 160 [(0, .ref a0), (1, .int v1), (2, .int v2), (3, .int v3), (4, .int v4), (5, .int v5), (6, .int v6), (7, .int v7)] [] μ) ∧ (¬ v7 ≤ 0 → (∃ fs_1 : List Value, μ a0 = some (.inr (3, fs_1)) ∧ ∃ r_3 : Option Nat, fs_1[7]? = some (va_rf r_3) ∧ (∃ a_5 : Nat, r_3 = some a_5 ∧ ∃ (N_6 : Nat) (f_7 : Nat → Int32), μ a_5 = some (sp_sa κ N_6 f_7) ∧ ∃ j_9 : Nat, ((16 * v4) + v7) - 1 = nI j_9 ∧ j_9 < N_6 ∧ (((f_7 j_9) ≤ v6 → sp_w κ x (sp_F κ x Rt Xt mc ms) k n 160 [(0, .ref a0), (1, .int v1), (2, .int v2), (3, .int v3), (4, .int v4), (5, .int v5), (6, .int v6), (7, .int v7)] [] μ) ∧ (¬ (f_7 j_9) ≤ v6 → (((∃ j_12 : Nat, ((16 * v4) + v7) - 1 = nI j_12 ∧ j_12 < N_6 ∧ (∃ j_15 : Nat, (16 * v4) + v7 = nI j_15 ∧ j_15 < N_6 ∧ ∀ μ_18 : sp_M, μ_18 = va_up μ a_5 (some (sp_sa κ N_6 (upd f_7 j_15 (vp_nar .short (f_7 j_12))))) → sp_w κ x (sp_F κ x Rt Xt mc ms) k n 101 [(0, .ref a0), (1, .int v1), (2, .int v2), (3, .int v3), (4, .int v4), (5, .int v5), (6, .int v6), (7, .int (v7 + (-1)))] [] μ_18))))))))))) : sp_w κ x (sp_F κ x Rt Xt mc ms) k n 101 [(0, .ref a0), (1, .int v1), (2, .int v2), (3, .int v3), (4, .int v4), (5, .int v5), (6, .int v6), (7, .int v7)] [] μ := by
  refine sr_iload h dM_come_101 7 rfl ?_
  refine sr_if_le (tgt := 160) h dM_come_103 (by decide) (fun c_20 => ?_) (fun c_20 => ?_)
  · replace vc := vc.1 c_20
    exact vc
  · replace vc := vc.2 c_20
    refine sr_aload_n h dM_come_106 rfl 0 rfl ?_
    obtain ⟨fs_1, ho_2, vc⟩ := vc
    obtain ⟨r_3, hv_4, vc⟩ := vc
    refine sr_get h inM rfl 7 (by decide) kw_461 dM_come_107 ho_2 hv_4 ?_
    refine sr_bipush (v := 16) h dM_come_110 (by decide) ?_
    refine sr_iload h dM_come_112 4 rfl ?_
    refine sr_imul h dM_come_114 ?_
    refine sr_iload h dM_come_115 7 rfl ?_
    refine sr_iadd h dM_come_117 ?_
    refine sr_iconst (v := 1) h dM_come_118 (by decide) ?_
    refine sr_isub h dM_come_119 ?_
    obtain ⟨a_5, rfl, vc⟩ := vc
    obtain ⟨N_6, f_7, ho_8, vc⟩ := vc
    obtain ⟨j_9, hi_10, hj_11, vc⟩ := vc
    refine sr_sald h dM_come_120 ho_8 hi_10 hj_11 ?_
    refine sr_iload h dM_come_121 6 rfl ?_
    refine sr_icmp_le (tgt := 160) h dM_come_123 (by decide) (fun c_19 => ?_) (fun c_19 => ?_)
    · replace vc := vc.1 c_19
      exact vc
    · replace vc := vc.2 c_19
      refine sr_aload_n h dM_come_126 rfl 0 rfl ?_
      refine sr_get h inM rfl 7 (by decide) kw_461 dM_come_127 ho_2 hv_4 ?_
      refine sr_bipush (v := 16) h dM_come_130 (by decide) ?_
      refine sr_iload h dM_come_132 4 rfl ?_
      refine sr_imul h dM_come_134 ?_
      refine sr_iload h dM_come_135 7 rfl ?_
      refine sr_iadd h dM_come_137 ?_
      refine sr_aload_n h dM_come_138 rfl 0 rfl ?_
      refine sr_get h inM rfl 7 (by decide) kw_461 dM_come_139 ho_2 hv_4 ?_
      refine sr_bipush (v := 16) h dM_come_142 (by decide) ?_
      refine sr_iload h dM_come_144 4 rfl ?_
      refine sr_imul h dM_come_146 ?_
      refine sr_iload h dM_come_147 7 rfl ?_
      refine sr_iadd h dM_come_149 ?_
      refine sr_iconst (v := 1) h dM_come_150 (by decide) ?_
      refine sr_isub h dM_come_151 ?_
      obtain ⟨j_12, hi_13, hj_14, vc⟩ := vc
      refine sr_sald h dM_come_152 ho_8 hi_13 hj_14 ?_
      obtain ⟨j_15, hi_16, hj_17, vc⟩ := vc
      replace vc := vc _ rfl
      refine sr_sast h dM_come_153 ho_8 hi_16 hj_17 ?_
      refine sr_iinc (u := v7 + (-1)) (lv' := [(0, .ref a0), (1, .int v1), (2, .int v2), (3, .int v3), (4, .int v4), (5, .int v5), (6, .int v6), (7, .int (v7 + (-1)))]) h dM_come_154 7 rfl rfl (by decide) rfl ?_
      refine sr_goto (tgt := 101) h dM_come_157 (by decide) ?_
      exact vc
set_option maxRecDepth 100000 in
set_option maxHeartbeats 4000000 in
theorem bkM_come_160 {κ : sp_K} {x : sp_X} {mc ms : Nat} {Rt : Option Value → sp_M → Prop} {Xt : String → sp_M → Prop} {μ : sp_M} {k n : Nat} {a0 : Nat} {v1 : Int32} {v2 : Int32} {v3 : Int32} {v4 : Int32} {v5 : Int32} {v6 : Int32} {v7 : Int32} (h : cxM_come κ x mc ms) (hk : k ≤ mc ∧ n ≤ ms)
    (vc : (∃ fs_1 : List Value, μ a0 = some (.inr (3, fs_1)) ∧ ∃ r_3 : Option Nat, fs_1[7]? = some (va_rf r_3) ∧ (∃ a_5 : Nat, r_3 = some a_5 ∧ ∃ (N_6 : Nat) (f_7 : Nat → Int32), μ a_5 = some (sp_sa κ N_6 f_7) ∧ ∃ j_9 : Nat, (16 * v4) + v7 = nI j_9 ∧ j_9 < N_6 ∧ ∀ μ_12 : sp_M, μ_12 = va_up μ a_5 (some (sp_sa κ N_6 (upd f_7 j_9 (vp_nar .short ((Int32.toInt16 v6).toInt32))))) → sp_w κ x (sp_F κ x Rt Xt mc ms) k n 179 [(0, .ref a0), (1, .int v1), (2, .int v2), (3, .int v3), (4, .int v4), (5, .int v5), (6, .int v6), (7, .int v7), (8, .int 0)] [] μ_12))) : sp_w κ x (sp_F κ x Rt Xt mc ms) k n 160 [(0, .ref a0), (1, .int v1), (2, .int v2), (3, .int v3), (4, .int v4), (5, .int v5), (6, .int v6), (7, .int v7)] [] μ := by
  refine sr_aload_n h dM_come_160 rfl 0 rfl ?_
  obtain ⟨fs_1, ho_2, vc⟩ := vc
  obtain ⟨r_3, hv_4, vc⟩ := vc
  refine sr_get h inM rfl 7 (by decide) kw_461 dM_come_161 ho_2 hv_4 ?_
  refine sr_bipush (v := 16) h dM_come_164 (by decide) ?_
  refine sr_iload h dM_come_166 4 rfl ?_
  refine sr_imul h dM_come_168 ?_
  refine sr_iload h dM_come_169 7 rfl ?_
  refine sr_iadd h dM_come_171 ?_
  refine sr_iload h dM_come_172 6 rfl ?_
  refine sr_i2s h dM_come_174 ?_
  obtain ⟨a_5, rfl, vc⟩ := vc
  obtain ⟨N_6, f_7, ho_8, vc⟩ := vc
  obtain ⟨j_9, hi_10, hj_11, vc⟩ := vc
  replace vc := vc _ rfl
  refine sr_sast h dM_come_175 ho_8 hi_10 hj_11 ?_
  refine sr_iconst (v := 0) h dM_come_176 (by decide) ?_
  refine sr_istore (lv' := [(0, .ref a0), (1, .int v1), (2, .int v2), (3, .int v3), (4, .int v4), (5, .int v5), (6, .int v6), (7, .int v7), (8, .int 0)]) h dM_come_177 (by decide) rfl ?_
  exact vc
set_option maxRecDepth 100000 in
set_option maxHeartbeats 4000000 in
theorem bkM_come_179 {κ : sp_K} {x : sp_X} {mc ms : Nat} {Rt : Option Value → sp_M → Prop} {Xt : String → sp_M → Prop} {μ : sp_M} {k n : Nat} {a0 : Nat} {v1 : Int32} {v2 : Int32} {v3 : Int32} {v4 : Int32} {v5 : Int32} {v6 : Int32} {v7 : Int32} {v8 : Int32} (h : cxM_come κ x mc ms) (hk : k ≤ mc ∧ n ≤ ms)
    (vc : ((16 ≤ v8 → sp_w κ x (sp_F κ x Rt Xt mc ms) k n 71 [(0, .ref a0), (1, .int v1), (2, .int v2), (3, .int v3), (4, .int v4), (5, .int (v5 + 1))] [] μ) ∧ (¬ 16 ≤ v8 → (∃ fs_1 : List Value, μ a0 = some (.inr (3, fs_1)) ∧ ∃ r_3 : Option Nat, fs_1[8]? = some (va_rf r_3) ∧ (∃ a_5 : Nat, r_3 = some a_5 ∧ ∃ (N_6 : Nat) (f_7 : Nat → Int32), μ a_5 = some (sp_sa κ N_6 f_7) ∧ ∃ j_9 : Nat, (16 * v6) + v8 = nI j_9 ∧ j_9 < N_6 ∧ ((∃ j_12 : Nat, (16 * v4) + v8 = nI j_12 ∧ j_12 < N_6 ∧ (((f_7 j_9) ≤ (f_7 j_12) → sp_w κ x (sp_F κ x Rt Xt mc ms) k n 179 [(0, .ref a0), (1, .int v1), (2, .int v2), (3, .int v3), (4, .int v4), (5, .int v5), (6, .int v6), (7, .int v7), (8, .int (v8 + 1))] [] μ) ∧ (¬ (f_7 j_9) ≤ (f_7 j_12) → (((∃ j_15 : Nat, (16 * v6) + v8 = nI j_15 ∧ j_15 < N_6 ∧ (∃ j_18 : Nat, (16 * v4) + v8 = nI j_18 ∧ j_18 < N_6 ∧ ∀ μ_21 : sp_M, μ_21 = va_up μ a_5 (some (sp_sa κ N_6 (upd f_7 j_18 (vp_nar .short (f_7 j_15))))) → sp_w κ x (sp_F κ x Rt Xt mc ms) k n 179 [(0, .ref a0), (1, .int v1), (2, .int v2), (3, .int v3), (4, .int v4), (5, .int v5), (6, .int v6), (7, .int v7), (8, .int (v8 + 1))] [] μ_21))))))))))))) : sp_w κ x (sp_F κ x Rt Xt mc ms) k n 179 [(0, .ref a0), (1, .int v1), (2, .int v2), (3, .int v3), (4, .int v4), (5, .int v5), (6, .int v6), (7, .int v7), (8, .int v8)] [] μ := by
  refine sr_iload h dM_come_179 8 rfl ?_
  refine sr_bipush (v := 16) h dM_come_181 (by decide) ?_
  refine sr_icmp_ge (tgt := 247) h dM_come_183 (by decide) (fun c_23 => ?_) (fun c_23 => ?_)
  · replace vc := vc.1 c_23
    refine sr_iinc (u := v5 + 1) (lv' := [(0, .ref a0), (1, .int v1), (2, .int v2), (3, .int v3), (4, .int v4), (5, .int (v5 + 1)), (6, .int v6), (7, .int v7), (8, .int v8)]) h dM_come_247 5 rfl rfl (by decide) rfl ?_
    refine sr_goto (tgt := 71) h dM_come_250 (by decide) ?_
    exact sr_sub (lv' := [(0, .ref a0), (1, .int v1), (2, .int v2), (3, .int v3), (4, .int v4), (5, .int (v5 + 1))]) [0, 1, 2, 3, 4, 5] rfl vc
  · replace vc := vc.2 c_23
    refine sr_aload_n h dM_come_186 rfl 0 rfl ?_
    obtain ⟨fs_1, ho_2, vc⟩ := vc
    obtain ⟨r_3, hv_4, vc⟩ := vc
    refine sr_get h inM rfl 8 (by decide) kw_462 dM_come_187 ho_2 hv_4 ?_
    refine sr_bipush (v := 16) h dM_come_190 (by decide) ?_
    refine sr_iload h dM_come_192 6 rfl ?_
    refine sr_imul h dM_come_194 ?_
    refine sr_iload h dM_come_195 8 rfl ?_
    refine sr_iadd h dM_come_197 ?_
    obtain ⟨a_5, rfl, vc⟩ := vc
    obtain ⟨N_6, f_7, ho_8, vc⟩ := vc
    obtain ⟨j_9, hi_10, hj_11, vc⟩ := vc
    refine sr_sald h dM_come_198 ho_8 hi_10 hj_11 ?_
    refine sr_aload_n h dM_come_199 rfl 0 rfl ?_
    refine sr_get h inM rfl 8 (by decide) kw_462 dM_come_200 ho_2 hv_4 ?_
    refine sr_bipush (v := 16) h dM_come_203 (by decide) ?_
    refine sr_iload h dM_come_205 4 rfl ?_
    refine sr_imul h dM_come_207 ?_
    refine sr_iload h dM_come_208 8 rfl ?_
    refine sr_iadd h dM_come_210 ?_
    obtain ⟨j_12, hi_13, hj_14, vc⟩ := vc
    refine sr_sald h dM_come_211 ho_8 hi_13 hj_14 ?_
    refine sr_icmp_le (tgt := 241) h dM_come_212 (by decide) (fun c_22 => ?_) (fun c_22 => ?_)
    · replace vc := vc.1 c_22
      refine sr_iinc (u := v8 + 1) (lv' := [(0, .ref a0), (1, .int v1), (2, .int v2), (3, .int v3), (4, .int v4), (5, .int v5), (6, .int v6), (7, .int v7), (8, .int (v8 + 1))]) h dM_come_241 8 rfl rfl (by decide) rfl ?_
      refine sr_goto (tgt := 179) h dM_come_244 (by decide) ?_
      exact vc
    · replace vc := vc.2 c_22
      refine sr_aload_n h dM_come_215 rfl 0 rfl ?_
      refine sr_get h inM rfl 8 (by decide) kw_462 dM_come_216 ho_2 hv_4 ?_
      refine sr_bipush (v := 16) h dM_come_219 (by decide) ?_
      refine sr_iload h dM_come_221 4 rfl ?_
      refine sr_imul h dM_come_223 ?_
      refine sr_iload h dM_come_224 8 rfl ?_
      refine sr_iadd h dM_come_226 ?_
      refine sr_aload_n h dM_come_227 rfl 0 rfl ?_
      refine sr_get h inM rfl 8 (by decide) kw_462 dM_come_228 ho_2 hv_4 ?_
      refine sr_bipush (v := 16) h dM_come_231 (by decide) ?_
      refine sr_iload h dM_come_233 6 rfl ?_
      refine sr_imul h dM_come_235 ?_
      refine sr_iload h dM_come_236 8 rfl ?_
      refine sr_iadd h dM_come_238 ?_
      obtain ⟨j_15, hi_16, hj_17, vc⟩ := vc
      refine sr_sald h dM_come_239 ho_8 hi_16 hj_17 ?_
      obtain ⟨j_18, hi_19, hj_20, vc⟩ := vc
      replace vc := vc _ rfl
      refine sr_sast h dM_come_240 ho_8 hi_19 hj_20 ?_
      refine sr_iinc (u := v8 + 1) (lv' := [(0, .ref a0), (1, .int v1), (2, .int v2), (3, .int v3), (4, .int v4), (5, .int v5), (6, .int v6), (7, .int v7), (8, .int (v8 + 1))]) h dM_come_241 8 rfl rfl (by decide) rfl ?_
      refine sr_goto (tgt := 179) h dM_come_244 (by decide) ?_
      exact vc
set_option maxRecDepth 100000 in
set_option maxHeartbeats 4000000 in
theorem bkM_come_292 {κ : sp_K} {x : sp_X} {mc ms : Nat} {Rt : Option Value → sp_M → Prop} {Xt : String → sp_M → Prop} {μ : sp_M} {k n : Nat} {a0 : Nat} {v1 : Int32} {v2 : Int32} {v3 : Int32} {v4 : Int32} {v5 : Int32} (h : cxM_come κ x mc ms) (hk : k ≤ mc ∧ n ≤ ms)
    (vc : (∃ fs_1 : List Value, μ a0 = some (.inr (3, fs_1)) ∧ ∃ r_3 : Option Nat, fs_1[3]? = some (va_rf r_3) ∧ (∃ a_5 : Nat, r_3 = some a_5 ∧ ∃ (N_6 : Nat) (f_7 : Nat → Option Nat), μ a_5 = some (sp_ra κ 5 N_6 f_7) ∧ ∃ j_9 : Nat, v1 = nI j_9 ∧ j_9 < N_6 ∧ ∃ r_12 : Option Nat, f_7 j_9 = r_12 ∧ (∃ r_14 : Option Nat, fs_1[1]? = some (va_rf r_14) ∧ (∃ a_16 : Nat, r_14 = some a_16 ∧ ∃ (N_17 : Nat) (f_18 : Nat → Int32), μ a_16 = some (sp_ia κ N_17 f_18) ∧ ∃ j_20 : Nat, v1 = nI j_20 ∧ j_20 < N_17 ∧ (∃ a_23 : Nat, r_12 = some a_23 ∧ ∃ (N_24 : Nat) (f_25 : Nat → Int32), μ a_23 = some (sp_ia κ N_24 f_25) ∧ ∃ j_27 : Nat, f_18 j_20 = nI j_27 ∧ j_27 < N_24 ∧ ∀ μ_30 : sp_M, μ_30 = va_up μ a_23 (some (sp_ia κ N_24 (upd f_25 j_27 v4))) → (∃ fs_31 : List Value, μ_30 a0 = some (.inr (3, fs_31)) ∧ ∃ r_33 : Option Nat, fs_31[1]? = some (va_rf r_33) ∧ (∃ a_35 : Nat, r_33 = some a_35 ∧ ∃ (N_36 : Nat) (f_37 : Nat → Int32), μ_30 a_35 = some (sp_ia κ N_36 f_37) ∧ ∃ j_39 : Nat, v1 = nI j_39 ∧ j_39 < N_36 ∧ (∃ j_42 : Nat, v1 = nI j_42 ∧ j_42 < N_36 ∧ ∀ μ_45 : sp_M, μ_45 = va_up μ_30 a_35 (some (sp_ia κ N_36 (upd f_37 j_42 ((f_37 j_39) + 1)))) → (∃ fs_46 : List Value, μ_45 a0 = some (.inr (3, fs_46)) ∧ ∃ r_48 : Option Nat, fs_46[8]? = some (va_rf r_48) ∧ (∃ r_50 : Option Nat, fs_46[1]? = some (va_rf r_50) ∧ (∃ a_52 : Nat, r_50 = some a_52 ∧ ∃ (N_53 : Nat) (f_54 : Nat → Int32), μ_45 a_52 = some (sp_ia κ N_53 f_54) ∧ ∃ j_56 : Nat, v1 = nI j_56 ∧ j_56 < N_53 ∧ (∃ a_59 : Nat, r_48 = some a_59 ∧ ∃ (N_60 : Nat) (f_61 : Nat → Int32), μ_45 a_59 = some (sp_sa κ N_60 f_61) ∧ ∃ j_63 : Nat, (16 * v4) + v1 = nI j_63 ∧ j_63 < N_60 ∧ ∀ μ_66 : sp_M, μ_66 = va_up μ_45 a_59 (some (sp_sa κ N_60 (upd f_61 j_63 (vp_nar .short ((Int32.toInt16 (f_54 j_56)).toInt32))))) → (∃ fs_67 : List Value, μ_66 a0 = some (.inr (3, fs_67)) ∧ ∃ v_69 : Int32, fs_67[9]? = some (.int v_69) ∧ (9 < fs_67.length ∧ ∀ μ_71 : sp_M, μ_71 = va_up μ_66 a0 (some (.inr (3, fs_67.set 9 (.int (v_69 + 1))))) → Rt none μ_71))))))))))))))) : sp_w κ x (sp_F κ x Rt Xt mc ms) k n 292 [(0, .ref a0), (1, .int v1), (2, .int v2), (3, .int v3), (4, .int v4), (5, .int v5)] [] μ := by
  refine sr_aload_n h dM_come_292 rfl 0 rfl ?_
  obtain ⟨fs_1, ho_2, vc⟩ := vc
  obtain ⟨r_3, hv_4, vc⟩ := vc
  refine sr_get h inM rfl 3 (by decide) kw_457 dM_come_293 ho_2 hv_4 ?_
  refine sr_iload_n h dM_come_296 rfl 1 rfl ?_
  obtain ⟨a_5, rfl, vc⟩ := vc
  obtain ⟨N_6, f_7, ho_8, vc⟩ := vc
  obtain ⟨j_9, hi_10, hj_11, vc⟩ := vc
  obtain ⟨r_12, hr_13, vc⟩ := vc
  refine sr_aaldA h dM_come_297 ho_8 hi_10 hj_11 hr_13 ?_
  refine sr_aload_n h dM_come_298 rfl 0 rfl ?_
  obtain ⟨r_14, hv_15, vc⟩ := vc
  refine sr_get h inM rfl 1 (by decide) kw_455 dM_come_299 ho_2 hv_15 ?_
  refine sr_iload_n h dM_come_302 rfl 1 rfl ?_
  obtain ⟨a_16, rfl, vc⟩ := vc
  obtain ⟨N_17, f_18, ho_19, vc⟩ := vc
  obtain ⟨j_20, hi_21, hj_22, vc⟩ := vc
  refine sr_iald h dM_come_303 ho_19 hi_21 hj_22 ?_
  refine sr_iload h dM_come_304 4 rfl ?_
  obtain ⟨a_23, rfl, vc⟩ := vc
  obtain ⟨N_24, f_25, ho_26, vc⟩ := vc
  obtain ⟨j_27, hi_28, hj_29, vc⟩ := vc
  replace vc := vc _ rfl
  refine sr_iast h dM_come_306 ho_26 hi_28 hj_29 ?_
  refine sr_aload_n h dM_come_307 rfl 0 rfl ?_
  obtain ⟨fs_31, ho_32, vc⟩ := vc
  obtain ⟨r_33, hv_34, vc⟩ := vc
  refine sr_get h inM rfl 1 (by decide) kw_455 dM_come_308 ho_32 hv_34 ?_
  refine sr_iload_n h dM_come_311 rfl 1 rfl ?_
  refine sr_dup2 h dM_come_312 (sp_c1i _) (sp_c1o _) ?_
  obtain ⟨a_35, rfl, vc⟩ := vc
  obtain ⟨N_36, f_37, ho_38, vc⟩ := vc
  obtain ⟨j_39, hi_40, hj_41, vc⟩ := vc
  refine sr_iald h dM_come_313 ho_38 hi_40 hj_41 ?_
  refine sr_iconst (v := 1) h dM_come_314 (by decide) ?_
  refine sr_iadd h dM_come_315 ?_
  obtain ⟨j_42, hi_43, hj_44, vc⟩ := vc
  replace vc := vc _ rfl
  refine sr_iast h dM_come_316 ho_38 hi_43 hj_44 ?_
  refine sr_aload_n h dM_come_317 rfl 0 rfl ?_
  obtain ⟨fs_46, ho_47, vc⟩ := vc
  obtain ⟨r_48, hv_49, vc⟩ := vc
  refine sr_get h inM rfl 8 (by decide) kw_462 dM_come_318 ho_47 hv_49 ?_
  refine sr_bipush (v := 16) h dM_come_321 (by decide) ?_
  refine sr_iload h dM_come_323 4 rfl ?_
  refine sr_imul h dM_come_325 ?_
  refine sr_iload_n h dM_come_326 rfl 1 rfl ?_
  refine sr_iadd h dM_come_327 ?_
  refine sr_aload_n h dM_come_328 rfl 0 rfl ?_
  obtain ⟨r_50, hv_51, vc⟩ := vc
  refine sr_get h inM rfl 1 (by decide) kw_455 dM_come_329 ho_47 hv_51 ?_
  refine sr_iload_n h dM_come_332 rfl 1 rfl ?_
  obtain ⟨a_52, rfl, vc⟩ := vc
  obtain ⟨N_53, f_54, ho_55, vc⟩ := vc
  obtain ⟨j_56, hi_57, hj_58, vc⟩ := vc
  refine sr_iald h dM_come_333 ho_55 hi_57 hj_58 ?_
  refine sr_i2s h dM_come_334 ?_
  obtain ⟨a_59, rfl, vc⟩ := vc
  obtain ⟨N_60, f_61, ho_62, vc⟩ := vc
  obtain ⟨j_63, hi_64, hj_65, vc⟩ := vc
  replace vc := vc _ rfl
  refine sr_sast h dM_come_335 ho_62 hi_64 hj_65 ?_
  refine sr_aload_n h dM_come_336 rfl 0 rfl ?_
  refine sr_dup h dM_come_337 (sp_c1r _) ?_
  obtain ⟨fs_67, ho_68, vc⟩ := vc
  obtain ⟨v_69, hv_70, vc⟩ := vc
  refine sr_get h inM rfl 9 (by decide) kw_463 dM_come_338 ho_68 hv_70 ?_
  refine sr_iconst (v := 1) h dM_come_341 (by decide) ?_
  refine sr_iadd h dM_come_342 ?_
  obtain ⟨hl_72, vc⟩ := vc
  replace vc := vc _ rfl
  refine sr_put h inM tyM tyM_ok nmM rfl 9 (by decide) kw_463 rfl dM_come_343 ho_68 rfl rfl hl_72 ?_
  exact sr_vret h dM_come_346 hk.1 hk.2 vc
theorem opM_come {l : Launch} {κ : sp_K} {mc ms : Nat} {Rt : Option Value → sp_M → Prop} {Xt : String → sp_M → Prop} {μ : sp_M} {a0 : Nat} {v1 : Int32} {v2 : Int32} {v3 : Int32} (htr : l.stackTraces = false) (body : ∀ x : sp_X, x.2.1.stackTraces = false → cxM_come κ x mc ms → sp_w κ x (sp_F κ x Rt Xt mc ms) 0 0 0 [(0, .ref a0), (1, .int v1), (2, .int v2), (3, .int v3)] [] μ) : sp_m l κ yM_come wM_come 2 48 mc ms [.ref a0, .int v1, .int v2, .int v3] μ Rt Xt :=
  sp_open htr (by decide +kernel) rfl (Nat.le_of_ble_eq_true rfl) (by intro v hv; simp only [List.mem_cons, List.not_mem_nil, or_false] at hv; rcases hv with rfl | rfl | rfl | rfl <;> first | rfl | exact sp_c1o _) (fun x hx h => body x (by rw [hx]; exact htr) h)

abbrev cxM_events (κ : sp_K) (x : sp_X) (mc ms : Nat) : Prop := sp_C κ x cM_events 3 RM (some .int) (tableOf hhM_events) "events" (sp_rm 7 112 mc ms)
set_option maxRecDepth 100000 in
set_option maxHeartbeats 4000000 in
theorem bkM_events_0 {κ : sp_K} {x : sp_X} {mc ms : Nat} {Rt : Option Value → sp_M → Prop} {Xt : String → sp_M → Prop} {μ : sp_M} {k n : Nat} {a0 : Nat} {v1 : Int32} (h : cxM_events κ x mc ms) (hk : k ≤ mc ∧ n ≤ ms)
    (vc : (∃ fs_1 : List Value, μ a0 = some (.inr (3, fs_1)) ∧ 13 < fs_1.length ∧ ∀ μ_3 : sp_M, μ_3 = va_up μ a0 (some (.inr (3, fs_1.set 13 (.int 0)))) → (∃ mc_5 ms_6 : Nat, (k + mc_5 ≤ mc ∧ n + ms_6 ≤ ms) ∧ ∃ fs_10 : List Value, μ_3 a0 = some (.inr (3, fs_10)) ∧ sp_m x.2.1 κ yM_events0 wM_events0 6 90 mc_5 ms_6 [.ref a0, .int v1] μ_3 (fun v_8 μ_9 => ∃ v_13 : Int32, v_8 = some (.int v_13) ∧ Rt (some (.int v_13)) μ_9) (fun E_14 μ_9 => ((E_14 = "java/lang/IllegalArgumentException" ∧ ∀ q_15 : Nat, (∃ fs_16 : List Value, μ_9 a0 = some (.inr (3, fs_16)) ∧ 13 < fs_16.length ∧ ∀ μ_18 : sp_M, μ_18 = va_up μ_9 a0 (some (.inr (3, fs_16.set 13 (.int 1)))) → Rt (some (.int 0)) μ_18))))))) : sp_w κ x (sp_F κ x Rt Xt mc ms) k n 0 [(0, .ref a0), (1, .int v1)] [] μ := by
  refine sr_aload_n h dM_events_0 rfl 0 rfl ?_
  refine sr_iconst (v := 0) h dM_events_1 (by decide) ?_
  obtain ⟨fs_1, ho_2, vc⟩ := vc
  obtain ⟨hl_4, vc⟩ := vc
  replace vc := vc _ rfl
  refine sr_put h inM tyM tyM_ok nmM rfl 13 (by decide) kw_467 rfl dM_events_2 ho_2 rfl rfl hl_4 ?_
  refine sr_aload_n h dM_events_5 rfl 0 rfl ?_
  refine sr_iload_n h dM_events_6 rfl 1 rfl ?_
  obtain ⟨mc_5, ms_6, hc_7, vc⟩ := vc
  obtain ⟨fs_10, ho_11, vc⟩ := vc
  refine sr_callV (y := yM_events0) (n0 := 1) (As := [.int v1]) h (sp_gV kw_566 kw_568 kw_21 kw_35 kw_569) rfl (by decide +kernel) ⟨Nat.le_of_ble_eq_true rfl, Nat.le_of_ble_eq_true rfl⟩ (ci := 3) rfl dM_events_7 rfl rfl (Nat.le_of_ble_eq_true rfl) hc_7 ho_11 vc (fun v_8 μ_9 vc' => ?_) (fun E_14 μ_9 vc' => ?_)
  · replace vc := vc'
    clear vc'
    obtain ⟨v_13, rfl, vc⟩ := vc
    exact sr_iret h dM_events_10 hc_7.1 hc_7.2 vc
  · replace vc := vc'
    clear vc'
    obtain ⟨rfl, vc⟩ := vc
    refine st_catch h [] ({ startPc := 5, endPc := 10, handlerPc := 11, catchType := 87 }) [] rfl (fun _ z => nomatch z) (by decide) (by decide) (name := "java/lang/IllegalArgumentException") kw_551 kt_249 (fun q_15 => ?_)
    replace vc := vc q_15
    refine sr_astore_n (lv' := [(0, .ref a0), (1, .int v1), (2, .ref q_15)]) h dM_events_11 rfl (by decide) rfl ?_
    refine sr_aload_n h dM_events_12 rfl 0 rfl ?_
    refine sr_iconst (v := 1) h dM_events_13 (by decide) ?_
    obtain ⟨fs_16, ho_17, vc⟩ := vc
    obtain ⟨hl_19, vc⟩ := vc
    replace vc := vc _ rfl
    refine sr_put h inM tyM tyM_ok nmM rfl 13 (by decide) kw_467 rfl dM_events_14 ho_17 rfl rfl hl_19 ?_
    refine sr_iconst (v := 0) h dM_events_17 (by decide) ?_
    exact sr_iret h dM_events_18 hc_7.1 hc_7.2 vc
theorem opM_events {l : Launch} {κ : sp_K} {mc ms : Nat} {Rt : Option Value → sp_M → Prop} {Xt : String → sp_M → Prop} {μ : sp_M} {a0 : Nat} {v1 : Int32} (htr : l.stackTraces = false) (body : ∀ x : sp_X, x.2.1.stackTraces = false → cxM_events κ x mc ms → sp_w κ x (sp_F κ x Rt Xt mc ms) 0 0 0 [(0, .ref a0), (1, .int v1)] [] μ) : sp_m l κ yM_events wM_events 7 112 mc ms [.ref a0, .int v1] μ Rt Xt :=
  sp_openH htr (by decide +kernel) rfl (Nat.le_of_ble_eq_true rfl) (by intro v hv; simp only [List.mem_cons, List.not_mem_nil, or_false] at hv; rcases hv with rfl | rfl <;> first | rfl | exact sp_c1o _) (fun x hx h => body x (by rw [hx]; exact htr) h)

abbrev cxM_events0 (κ : sp_K) (x : sp_X) (mc ms : Nat) : Prop := sp_C κ x cM_events0 3 RM (some .int) [] "events0" (sp_rm 6 90 mc ms)
set_option maxRecDepth 100000 in
set_option maxHeartbeats 4000000 in
theorem bkM_events0_0 {κ : sp_K} {x : sp_X} {mc ms : Nat} {Rt : Option Value → sp_M → Prop} {Xt : String → sp_M → Prop} {μ : sp_M} {k n : Nat} {a0 : Nat} {v1 : Int32} (h : cxM_events0 κ x mc ms) (hk : k ≤ mc ∧ n ≤ ms)
    (vc : ((v1 < (-1) → ((k + 1 ≤ mc ∧ n + 6 ≤ ms) ∧ Xt "java/lang/IllegalArgumentException" μ)) ∧ (¬ v1 < (-1) → ((v1 ≤ 255 → (∃ mc_2 ms_3 : Nat, (k + mc_2 ≤ mc ∧ n + ms_3 ≤ ms) ∧ ∃ fs_7 : List Value, μ a0 = some (.inr (3, fs_7)) ∧ sp_m x.2.1 κ yM_slotOf wM_slotOf 0 0 mc_2 ms_3 [.ref a0, .int v1] μ (fun v_5 μ_6 => ∃ v_10 : Int32, v_5 = some (.int v_10) ∧ ((0 ≤ v1 → ((0 ≤ v_10 → (∃ fs_11 : List Value, μ_6 a0 = some (.inr (3, fs_11)) ∧ ∃ r_13 : Option Nat, fs_11[1]? = some (va_rf r_13) ∧ (∃ a_15 : Nat, r_13 = some a_15 ∧ ∃ (N_16 : Nat) (f_17 : Nat → Int32), μ_6 a_15 = some (sp_ia κ N_16 f_17) ∧ ∃ j_19 : Nat, v_10 = nI j_19 ∧ j_19 < N_16 ∧ Rt (some (.int (f_17 j_19))) μ_6))) ∧ (¬ 0 ≤ v_10 → Rt (some (.int 0)) μ_6))) ∧ (¬ 0 ≤ v1 → (∃ fs_23 : List Value, μ_6 a0 = some (.inr (3, fs_23)) ∧ ∃ v_25 : Int32, fs_23[9]? = some (.int v_25) ∧ Rt (some (.int v_25)) μ_6)))) (fun E_28 μ_6 => Xt E_28 μ_6))) ∧ (¬ v1 ≤ 255 → ((k + 1 ≤ mc ∧ n + 6 ≤ ms) ∧ Xt "java/lang/IllegalArgumentException" μ)))))) : sp_w κ x (sp_F κ x Rt Xt mc ms) k n 0 [(0, .ref a0), (1, .int v1)] [] μ := by
  refine sr_iload_n h dM_events0_0 rfl 1 rfl ?_
  refine sr_iconst (v := -1) h dM_events0_1 (by decide) ?_
  refine sr_icmp_lt (tgt := 12) h dM_events0_2 (by decide) (fun c_31 => ?_) (fun c_31 => ?_)
  · replace vc := vc.1 c_31
    obtain ⟨hc_1, vc⟩ := vc
    exact sr_throw0 (names := ["java/lang/RuntimeException", "java/lang/Exception"]) h (by decide +kernel) (by decide +kernel) kw_551 kw_42 ka_M_89 kg_M_89 dM_events0_12 dM_events0_15 dM_events0_16 dM_events0_19 (fun _ z => nomatch z) (Nat.le_of_ble_eq_true rfl) (Nat.le_of_ble_eq_true rfl) hc_1.1 hc_1.2 hc_1.1 hc_1.2 vc
  · replace vc := vc.2 c_31
    refine sr_iload_n h dM_events0_5 rfl 1 rfl ?_
    refine sr_sipush (v := 255) h dM_events0_6 (by decide) ?_
    refine sr_icmp_le (tgt := 20) h dM_events0_9 (by decide) (fun c_30 => ?_) (fun c_30 => ?_)
    · replace vc := vc.1 c_30
      refine sr_aload_n h dM_events0_20 rfl 0 rfl ?_
      refine sr_iload_n h dM_events0_21 rfl 1 rfl ?_
      obtain ⟨mc_2, ms_3, hc_4, vc⟩ := vc
      obtain ⟨fs_7, ho_8, vc⟩ := vc
      refine sr_callV (y := yM_slotOf) (n0 := 1) (As := [.int v1]) h (sp_gV kw_517 kw_519 kw_14 kw_35 kw_520) rfl (by decide +kernel) ⟨Nat.le_of_ble_eq_true rfl, Nat.le_of_ble_eq_true rfl⟩ (ci := 3) rfl dM_events0_22 rfl rfl (Nat.le_of_ble_eq_true rfl) hc_4 ho_8 vc (fun v_5 μ_6 vc' => ?_) (fun E_28 μ_6 vc' => ?_)
      · replace vc := vc'
        clear vc'
        obtain ⟨v_10, rfl, vc⟩ := vc
        refine sr_istore_n (lv' := [(0, .ref a0), (1, .int v1), (2, .int v_10)]) h dM_events0_25 rfl (by decide) rfl ?_
        refine sr_iload_n h dM_events0_26 rfl 1 rfl ?_
        refine sr_if_ge (tgt := 37) h dM_events0_27 (by decide) (fun c_27 => ?_) (fun c_27 => ?_)
        · replace vc := vc.1 c_27
          refine sr_iload_n h dM_events0_37 rfl 2 rfl ?_
          refine sr_if_ge (tgt := 45) h dM_events0_38 (by decide) (fun c_22 => ?_) (fun c_22 => ?_)
          · replace vc := vc.1 c_22
            refine sr_aload_n h dM_events0_45 rfl 0 rfl ?_
            obtain ⟨fs_11, ho_12, vc⟩ := vc
            obtain ⟨r_13, hv_14, vc⟩ := vc
            refine sr_get h inM rfl 1 (by decide) kw_455 dM_events0_46 ho_12 hv_14 ?_
            refine sr_iload_n h dM_events0_49 rfl 2 rfl ?_
            obtain ⟨a_15, rfl, vc⟩ := vc
            obtain ⟨N_16, f_17, ho_18, vc⟩ := vc
            obtain ⟨j_19, hi_20, hj_21, vc⟩ := vc
            refine sr_iald h dM_events0_50 ho_18 hi_20 hj_21 ?_
            exact sr_iret h dM_events0_51 hc_4.1 hc_4.2 vc
          · replace vc := vc.2 c_22
            refine sr_iconst (v := 0) h dM_events0_41 (by decide) ?_
            refine sr_goto (tgt := 51) h dM_events0_42 (by decide) ?_
            exact sr_iret h dM_events0_51 hc_4.1 hc_4.2 vc
        · replace vc := vc.2 c_27
          refine sr_aload_n h dM_events0_30 rfl 0 rfl ?_
          obtain ⟨fs_23, ho_24, vc⟩ := vc
          obtain ⟨v_25, hv_26, vc⟩ := vc
          refine sr_get h inM rfl 9 (by decide) kw_463 dM_events0_31 ho_24 hv_26 ?_
          refine sr_goto (tgt := 51) h dM_events0_34 (by decide) ?_
          exact sr_iret h dM_events0_51 hc_4.1 hc_4.2 vc
      · replace vc := vc'
        clear vc'
        exact st_out h (fun _ z => nomatch z) hc_4.1 hc_4.2 vc
    · replace vc := vc.2 c_30
      obtain ⟨hc_29, vc⟩ := vc
      exact sr_throw0 (names := ["java/lang/RuntimeException", "java/lang/Exception"]) h (by decide +kernel) (by decide +kernel) kw_551 kw_42 ka_M_89 kg_M_89 dM_events0_12 dM_events0_15 dM_events0_16 dM_events0_19 (fun _ z => nomatch z) (Nat.le_of_ble_eq_true rfl) (Nat.le_of_ble_eq_true rfl) hc_29.1 hc_29.2 hc_29.1 hc_29.2 vc
theorem opM_events0 {l : Launch} {κ : sp_K} {mc ms : Nat} {Rt : Option Value → sp_M → Prop} {Xt : String → sp_M → Prop} {μ : sp_M} {a0 : Nat} {v1 : Int32} (htr : l.stackTraces = false) (body : ∀ x : sp_X, x.2.1.stackTraces = false → cxM_events0 κ x mc ms → sp_w κ x (sp_F κ x Rt Xt mc ms) 0 0 0 [(0, .ref a0), (1, .int v1)] [] μ) : sp_m l κ yM_events0 wM_events0 6 90 mc ms [.ref a0, .int v1] μ Rt Xt :=
  sp_open htr (by decide +kernel) rfl (Nat.le_of_ble_eq_true rfl) (by intro v hv; simp only [List.mem_cons, List.not_mem_nil, or_false] at hv; rcases hv with rfl | rfl <;> first | rfl | exact sp_c1o _) (fun x hx h => body x (by rw [hx]; exact htr) h)

abbrev cxM_place (κ : sp_K) (x : sp_X) (mc ms : Nat) : Prop := sp_C κ x cM_place 4 RM (some .int) (tableOf hhM_place) "place" (sp_rm 8 133 mc ms)
set_option maxRecDepth 100000 in
set_option maxHeartbeats 4000000 in
theorem bkM_place_0 {κ : sp_K} {x : sp_X} {mc ms : Nat} {Rt : Option Value → sp_M → Prop} {Xt : String → sp_M → Prop} {μ : sp_M} {k n : Nat} {a0 : Nat} {v1 : Int32} {v2 : Int32} (h : cxM_place κ x mc ms) (hk : k ≤ mc ∧ n ≤ ms)
    (vc : (∃ fs_1 : List Value, μ a0 = some (.inr (3, fs_1)) ∧ 13 < fs_1.length ∧ ∀ μ_3 : sp_M, μ_3 = va_up μ a0 (some (.inr (3, fs_1.set 13 (.int 0)))) → (∃ mc_5 ms_6 : Nat, (k + mc_5 ≤ mc ∧ n + ms_6 ≤ ms) ∧ ∃ fs_10 : List Value, μ_3 a0 = some (.inr (3, fs_10)) ∧ sp_m x.2.1 κ yM_place0 wM_place0 7 110 mc_5 ms_6 [.ref a0, .int v1, .int v2] μ_3 (fun v_8 μ_9 => ∃ v_13 : Int32, v_8 = some (.int v_13) ∧ Rt (some (.int v_13)) μ_9) (fun E_14 μ_9 => ((E_14 = "java/util/NoSuchElementException" ∧ ∀ q_15 : Nat, (∃ fs_16 : List Value, μ_9 a0 = some (.inr (3, fs_16)) ∧ 13 < fs_16.length ∧ ∀ μ_18 : sp_M, μ_18 = va_up μ_9 a0 (some (.inr (3, fs_16.set 13 (.int 1)))) → Rt (some (.int 0)) μ_18))))))) : sp_w κ x (sp_F κ x Rt Xt mc ms) k n 0 [(0, .ref a0), (1, .int v1), (2, .int v2)] [] μ := by
  refine sr_aload_n h dM_place_0 rfl 0 rfl ?_
  refine sr_iconst (v := 0) h dM_place_1 (by decide) ?_
  obtain ⟨fs_1, ho_2, vc⟩ := vc
  obtain ⟨hl_4, vc⟩ := vc
  replace vc := vc _ rfl
  refine sr_put h inM tyM tyM_ok nmM rfl 13 (by decide) kw_467 rfl dM_place_2 ho_2 rfl rfl hl_4 ?_
  refine sr_aload_n h dM_place_5 rfl 0 rfl ?_
  refine sr_iload_n h dM_place_6 rfl 1 rfl ?_
  refine sr_iload_n h dM_place_7 rfl 2 rfl ?_
  obtain ⟨mc_5, ms_6, hc_7, vc⟩ := vc
  obtain ⟨fs_10, ho_11, vc⟩ := vc
  refine sr_callV (y := yM_place0) (n0 := 2) (As := [.int v1, .int v2]) h (sp_gV kw_574 kw_576 kw_22 kw_35 kw_577) rfl (by decide +kernel) ⟨Nat.le_of_ble_eq_true rfl, Nat.le_of_ble_eq_true rfl⟩ (ci := 3) rfl dM_place_8 rfl rfl (Nat.le_of_ble_eq_true rfl) hc_7 ho_11 vc (fun v_8 μ_9 vc' => ?_) (fun E_14 μ_9 vc' => ?_)
  · replace vc := vc'
    clear vc'
    obtain ⟨v_13, rfl, vc⟩ := vc
    exact sr_iret h dM_place_11 hc_7.1 hc_7.2 vc
  · replace vc := vc'
    clear vc'
    obtain ⟨rfl, vc⟩ := vc
    refine st_catch h [] ({ startPc := 5, endPc := 11, handlerPc := 12, catchType := 44 }) [] rfl (fun _ z => nomatch z) (by decide) (by decide) (name := "java/util/NoSuchElementException") kw_506 kt_131 (fun q_15 => ?_)
    replace vc := vc q_15
    refine sr_astore_n (lv' := [(0, .ref a0), (1, .int v1), (2, .int v2), (3, .ref q_15)]) h dM_place_12 rfl (by decide) rfl ?_
    refine sr_aload_n h dM_place_13 rfl 0 rfl ?_
    refine sr_iconst (v := 1) h dM_place_14 (by decide) ?_
    obtain ⟨fs_16, ho_17, vc⟩ := vc
    obtain ⟨hl_19, vc⟩ := vc
    replace vc := vc _ rfl
    refine sr_put h inM tyM tyM_ok nmM rfl 13 (by decide) kw_467 rfl dM_place_15 ho_17 rfl rfl hl_19 ?_
    refine sr_iconst (v := 0) h dM_place_18 (by decide) ?_
    exact sr_iret h dM_place_19 hc_7.1 hc_7.2 vc
theorem opM_place {l : Launch} {κ : sp_K} {mc ms : Nat} {Rt : Option Value → sp_M → Prop} {Xt : String → sp_M → Prop} {μ : sp_M} {a0 : Nat} {v1 : Int32} {v2 : Int32} (htr : l.stackTraces = false) (body : ∀ x : sp_X, x.2.1.stackTraces = false → cxM_place κ x mc ms → sp_w κ x (sp_F κ x Rt Xt mc ms) 0 0 0 [(0, .ref a0), (1, .int v1), (2, .int v2)] [] μ) : sp_m l κ yM_place wM_place 8 133 mc ms [.ref a0, .int v1, .int v2] μ Rt Xt :=
  sp_openH htr (by decide +kernel) rfl (Nat.le_of_ble_eq_true rfl) (by intro v hv; simp only [List.mem_cons, List.not_mem_nil, or_false] at hv; rcases hv with rfl | rfl | rfl <;> first | rfl | exact sp_c1o _) (fun x hx h => body x (by rw [hx]; exact htr) h)

abbrev cxM_place0 (κ : sp_K) (x : sp_X) (mc ms : Nat) : Prop := sp_C κ x cM_place0 4 RM (some .int) [] "place0" (sp_rm 7 110 mc ms)
set_option maxRecDepth 100000 in
set_option maxHeartbeats 4000000 in
theorem bkM_place0_0 {κ : sp_K} {x : sp_X} {mc ms : Nat} {Rt : Option Value → sp_M → Prop} {Xt : String → sp_M → Prop} {μ : sp_M} {k n : Nat} {a0 : Nat} {v1 : Int32} {v2 : Int32} (h : cxM_place0 κ x mc ms) (hk : k ≤ mc ∧ n ≤ ms)
    (vc : (∃ mc_1 ms_2 : Nat, (k + mc_1 ≤ mc ∧ n + ms_2 ≤ ms) ∧ ∃ fs_6 : List Value, μ a0 = some (.inr (3, fs_6)) ∧ sp_m x.2.1 κ yM_find wM_find 1 22 mc_1 ms_2 [.ref a0, .int v1, .int v2] μ (fun v_4 μ_5 => ∃ v_9 : Int32, v_4 = some (.int v_9) ∧ ((v_9 < 0 → (∃ mc_10 ms_11 : Nat, ((k + mc_1) + mc_10 ≤ mc ∧ (n + ms_2) + ms_11 ≤ ms) ∧ sp_m x.2.1 κ yM_there wM_there 6 90 mc_10 ms_11 [.int 0] μ_5 (fun v_13 μ_14 => v_13 = none ∧ Rt (some (.int v_9)) μ_14) (fun E_16 μ_14 => Xt E_16 μ_14))) ∧ (¬ v_9 < 0 → (∃ mc_17 ms_18 : Nat, ((k + mc_1) + mc_17 ≤ mc ∧ (n + ms_2) + ms_18 ≤ ms) ∧ sp_m x.2.1 κ yM_there wM_there 6 90 mc_17 ms_18 [.int 1] μ_5 (fun v_20 μ_21 => v_20 = none ∧ Rt (some (.int v_9)) μ_21) (fun E_23 μ_21 => Xt E_23 μ_21))))) (fun E_25 μ_5 => Xt E_25 μ_5))) : sp_w κ x (sp_F κ x Rt Xt mc ms) k n 0 [(0, .ref a0), (1, .int v1), (2, .int v2)] [] μ := by
  refine sr_aload_n h dM_place0_0 rfl 0 rfl ?_
  refine sr_iload_n h dM_place0_1 rfl 1 rfl ?_
  refine sr_iload_n h dM_place0_2 rfl 2 rfl ?_
  obtain ⟨mc_1, ms_2, hc_3, vc⟩ := vc
  obtain ⟨fs_6, ho_7, vc⟩ := vc
  refine sr_callV (y := yM_find) (n0 := 2) (As := [.int v1, .int v2]) h (sp_gV kw_513 kw_515 kw_13 kw_35 kw_516) rfl (by decide +kernel) ⟨Nat.le_of_ble_eq_true rfl, Nat.le_of_ble_eq_true rfl⟩ (ci := 3) rfl dM_place0_3 rfl rfl (Nat.le_of_ble_eq_true rfl) hc_3 ho_7 vc (fun v_4 μ_5 vc' => ?_) (fun E_25 μ_5 vc' => ?_)
  · replace vc := vc'
    clear vc'
    obtain ⟨v_9, rfl, vc⟩ := vc
    refine sr_istore_n (lv' := [(0, .ref a0), (1, .int v1), (2, .int v2), (3, .int v_9)]) h dM_place0_6 rfl (by decide) rfl ?_
    refine sr_iload_n h dM_place0_7 rfl 3 rfl ?_
    refine sr_if_lt (tgt := 15) h dM_place0_8 (by decide) (fun c_24 => ?_) (fun c_24 => ?_)
    · replace vc := vc.1 c_24
      refine sr_iconst (v := 0) h dM_place0_15 (by decide) ?_
      obtain ⟨mc_10, ms_11, hc_12, vc⟩ := vc
      refine sr_callS (y := yM_there) (n0 := 1) (As := [.int 0]) (st := []) h (sp_gS kw_521 kw_522 kw_35 kw_523) rfl (by decide +kernel) ⟨Nat.le_of_ble_eq_true rfl, Nat.le_of_ble_eq_true rfl⟩ dM_place0_16 rfl rfl (Nat.le_of_ble_eq_true rfl) hc_12 vc (fun v_13 μ_14 vc' => ?_) (fun E_16 μ_14 vc' => ?_)
      · replace vc := vc'
        clear vc'
        obtain ⟨rfl, vc⟩ := vc
        refine sr_iload_n h dM_place0_19 rfl 3 rfl ?_
        exact sr_iret h dM_place0_20 hc_12.1 hc_12.2 vc
      · replace vc := vc'
        clear vc'
        exact st_out h (fun _ z => nomatch z) hc_12.1 hc_12.2 vc
    · replace vc := vc.2 c_24
      refine sr_iconst (v := 1) h dM_place0_11 (by decide) ?_
      refine sr_goto (tgt := 16) h dM_place0_12 (by decide) ?_
      obtain ⟨mc_17, ms_18, hc_19, vc⟩ := vc
      refine sr_callS (y := yM_there) (n0 := 1) (As := [.int 1]) (st := []) h (sp_gS kw_521 kw_522 kw_35 kw_523) rfl (by decide +kernel) ⟨Nat.le_of_ble_eq_true rfl, Nat.le_of_ble_eq_true rfl⟩ dM_place0_16 rfl rfl (Nat.le_of_ble_eq_true rfl) hc_19 vc (fun v_20 μ_21 vc' => ?_) (fun E_23 μ_21 vc' => ?_)
      · replace vc := vc'
        clear vc'
        obtain ⟨rfl, vc⟩ := vc
        refine sr_iload_n h dM_place0_19 rfl 3 rfl ?_
        exact sr_iret h dM_place0_20 hc_19.1 hc_19.2 vc
      · replace vc := vc'
        clear vc'
        exact st_out h (fun _ z => nomatch z) hc_19.1 hc_19.2 vc
  · replace vc := vc'
    clear vc'
    exact st_out h (fun _ z => nomatch z) hc_3.1 hc_3.2 vc
theorem opM_place0 {l : Launch} {κ : sp_K} {mc ms : Nat} {Rt : Option Value → sp_M → Prop} {Xt : String → sp_M → Prop} {μ : sp_M} {a0 : Nat} {v1 : Int32} {v2 : Int32} (htr : l.stackTraces = false) (body : ∀ x : sp_X, x.2.1.stackTraces = false → cxM_place0 κ x mc ms → sp_w κ x (sp_F κ x Rt Xt mc ms) 0 0 0 [(0, .ref a0), (1, .int v1), (2, .int v2)] [] μ) : sp_m l κ yM_place0 wM_place0 7 110 mc ms [.ref a0, .int v1, .int v2] μ Rt Xt :=
  sp_open htr (by decide +kernel) rfl (Nat.le_of_ble_eq_true rfl) (by intro v hv; simp only [List.mem_cons, List.not_mem_nil, or_false] at hv; rcases hv with rfl | rfl | rfl <;> first | rfl | exact sp_c1o _) (fun x hx h => body x (by rw [hx]; exact htr) h)

abbrev cxM_id (κ : sp_K) (x : sp_X) (mc ms : Nat) : Prop := sp_C κ x cM_id 3 RM (some .long) (tableOf hhM_id) "id" (sp_rm 8 131 mc ms)
set_option maxRecDepth 100000 in
set_option maxHeartbeats 4000000 in
theorem bkM_id_0 {κ : sp_K} {x : sp_X} {mc ms : Nat} {Rt : Option Value → sp_M → Prop} {Xt : String → sp_M → Prop} {μ : sp_M} {k n : Nat} {a0 : Nat} {v1 : Int32} (h : cxM_id κ x mc ms) (hk : k ≤ mc ∧ n ≤ ms)
    (vc : (∃ fs_1 : List Value, μ a0 = some (.inr (3, fs_1)) ∧ 13 < fs_1.length ∧ ∀ μ_3 : sp_M, μ_3 = va_up μ a0 (some (.inr (3, fs_1.set 13 (.int 0)))) → (∃ mc_5 ms_6 : Nat, (k + mc_5 ≤ mc ∧ n + ms_6 ≤ ms) ∧ ∃ fs_10 : List Value, μ_3 a0 = some (.inr (3, fs_10)) ∧ sp_m x.2.1 κ yM_id0 wM_id0 7 110 mc_5 ms_6 [.ref a0, .int v1] μ_3 (fun v_8 μ_9 => ∃ v_13 : Int64, v_8 = some (.long v_13) ∧ Rt (some (.long v_13)) μ_9) (fun E_14 μ_9 => ((E_14 = "java/util/NoSuchElementException" ∧ ∀ q_15 : Nat, (∃ fs_16 : List Value, μ_9 a0 = some (.inr (3, fs_16)) ∧ 13 < fs_16.length ∧ ∀ μ_18 : sp_M, μ_18 = va_up μ_9 a0 (some (.inr (3, fs_16.set 13 (.int 1)))) → Rt (some (.long 0)) μ_18))))))) : sp_w κ x (sp_F κ x Rt Xt mc ms) k n 0 [(0, .ref a0), (1, .int v1)] [] μ := by
  refine sr_aload_n h dM_id_0 rfl 0 rfl ?_
  refine sr_iconst (v := 0) h dM_id_1 (by decide) ?_
  obtain ⟨fs_1, ho_2, vc⟩ := vc
  obtain ⟨hl_4, vc⟩ := vc
  replace vc := vc _ rfl
  refine sr_put h inM tyM tyM_ok nmM rfl 13 (by decide) kw_467 rfl dM_id_2 ho_2 rfl rfl hl_4 ?_
  refine sr_aload_n h dM_id_5 rfl 0 rfl ?_
  refine sr_iload_n h dM_id_6 rfl 1 rfl ?_
  obtain ⟨mc_5, ms_6, hc_7, vc⟩ := vc
  obtain ⟨fs_10, ho_11, vc⟩ := vc
  refine sr_callV (y := yM_id0) (n0 := 1) (As := [.int v1]) h (sp_gV kw_582 kw_584 kw_23 kw_35 kw_585) rfl (by decide +kernel) ⟨Nat.le_of_ble_eq_true rfl, Nat.le_of_ble_eq_true rfl⟩ (ci := 3) rfl dM_id_7 rfl rfl (Nat.le_of_ble_eq_true rfl) hc_7 ho_11 vc (fun v_8 μ_9 vc' => ?_) (fun E_14 μ_9 vc' => ?_)
  · replace vc := vc'
    clear vc'
    obtain ⟨v_13, rfl, vc⟩ := vc
    exact sr_lret h dM_id_10 hc_7.1 hc_7.2 vc
  · replace vc := vc'
    clear vc'
    obtain ⟨rfl, vc⟩ := vc
    refine st_catch h [] ({ startPc := 5, endPc := 10, handlerPc := 11, catchType := 44 }) [] rfl (fun _ z => nomatch z) (by decide) (by decide) (name := "java/util/NoSuchElementException") kw_506 kt_131 (fun q_15 => ?_)
    replace vc := vc q_15
    refine sr_astore_n (lv' := [(0, .ref a0), (1, .int v1), (2, .ref q_15)]) h dM_id_11 rfl (by decide) rfl ?_
    refine sr_aload_n h dM_id_12 rfl 0 rfl ?_
    refine sr_iconst (v := 1) h dM_id_13 (by decide) ?_
    obtain ⟨fs_16, ho_17, vc⟩ := vc
    obtain ⟨hl_19, vc⟩ := vc
    replace vc := vc _ rfl
    refine sr_put h inM tyM tyM_ok nmM rfl 13 (by decide) kw_467 rfl dM_id_14 ho_17 rfl rfl hl_19 ?_
    refine sr_lconst (v := 0) h dM_id_17 (by decide) ?_
    exact sr_lret h dM_id_18 hc_7.1 hc_7.2 vc
theorem opM_id {l : Launch} {κ : sp_K} {mc ms : Nat} {Rt : Option Value → sp_M → Prop} {Xt : String → sp_M → Prop} {μ : sp_M} {a0 : Nat} {v1 : Int32} (htr : l.stackTraces = false) (body : ∀ x : sp_X, x.2.1.stackTraces = false → cxM_id κ x mc ms → sp_w κ x (sp_F κ x Rt Xt mc ms) 0 0 0 [(0, .ref a0), (1, .int v1)] [] μ) : sp_m l κ yM_id wM_id 8 131 mc ms [.ref a0, .int v1] μ Rt Xt :=
  sp_openH htr (by decide +kernel) rfl (Nat.le_of_ble_eq_true rfl) (by intro v hv; simp only [List.mem_cons, List.not_mem_nil, or_false] at hv; rcases hv with rfl | rfl <;> first | rfl | exact sp_c1o _) (fun x hx h => body x (by rw [hx]; exact htr) h)

abbrev cxM_id0 (κ : sp_K) (x : sp_X) (mc ms : Nat) : Prop := sp_C κ x cM_id0 2 RM (some .long) [] "id0" (sp_rm 7 110 mc ms)
set_option maxRecDepth 100000 in
set_option maxHeartbeats 4000000 in
theorem bkM_id0_0 {κ : sp_K} {x : sp_X} {mc ms : Nat} {Rt : Option Value → sp_M → Prop} {Xt : String → sp_M → Prop} {μ : sp_M} {k n : Nat} {a0 : Nat} {v1 : Int32} (h : cxM_id0 κ x mc ms) (hk : k ≤ mc ∧ n ≤ ms)
    (vc : (∃ mc_1 ms_2 : Nat, (k + mc_1 ≤ mc ∧ n + ms_2 ≤ ms) ∧ ∃ fs_6 : List Value, μ a0 = some (.inr (3, fs_6)) ∧ sp_m x.2.1 κ yM_isPlace wM_isPlace 0 0 mc_1 ms_2 [.ref a0, .int v1] μ (fun v_4 μ_5 => ∃ v_9 : Int32, v_4 = some (.int v_9) ∧ (∃ mc_10 ms_11 : Nat, ((k + mc_1) + mc_10 ≤ mc ∧ (n + ms_2) + ms_11 ≤ ms) ∧ sp_m x.2.1 κ yM_there wM_there 6 90 mc_10 ms_11 [.int v_9] μ_5 (fun v_13 μ_14 => v_13 = none ∧ (∃ fs_16 : List Value, μ_14 a0 = some (.inr (3, fs_16)) ∧ ∃ r_18 : Option Nat, fs_16[0]? = some (va_rf r_18) ∧ (∃ r_20 : Option Nat, fs_16[4]? = some (va_rf r_20) ∧ (∃ a_22 : Nat, r_20 = some a_22 ∧ ∃ (N_23 : Nat) (f_24 : Nat → Int32), μ_14 a_22 = some (sp_sa κ N_23 f_24) ∧ ∃ j_26 : Nat, v1 = nI j_26 ∧ j_26 < N_23 ∧ (∃ a_29 : Nat, r_18 = some a_29 ∧ ∃ (N_30 : Nat) (f_31 : Nat → Int32), μ_14 a_29 = some (sp_ia κ N_30 f_31) ∧ ∃ j_33 : Nat, f_24 j_26 = nI j_33 ∧ j_33 < N_30 ∧ (∃ r_36 : Option Nat, fs_16[5]? = some (va_rf r_36) ∧ (∃ a_38 : Nat, r_36 = some a_38 ∧ ∃ (N_39 : Nat) (f_40 : Nat → Int32), μ_14 a_38 = some (sp_sa κ N_39 f_40) ∧ ∃ j_42 : Nat, v1 = nI j_42 ∧ j_42 < N_39 ∧ Rt (some (.long ((4294967296 * (Int32.toInt64 (f_31 j_33))) + (Int32.toInt64 (f_40 j_42))))) μ_14))))))) (fun E_45 μ_14 => Xt E_45 μ_14))) (fun E_46 μ_5 => Xt E_46 μ_5))) : sp_w κ x (sp_F κ x Rt Xt mc ms) k n 0 [(0, .ref a0), (1, .int v1)] [] μ := by
  refine sr_aload_n h dM_id0_0 rfl 0 rfl ?_
  refine sr_iload_n h dM_id0_1 rfl 1 rfl ?_
  obtain ⟨mc_1, ms_2, hc_3, vc⟩ := vc
  obtain ⟨fs_6, ho_7, vc⟩ := vc
  refine sr_callV (y := yM_isPlace) (n0 := 1) (As := [.int v1]) h (sp_gV kw_586 kw_588 kw_24 kw_35 kw_589) rfl (by decide +kernel) ⟨Nat.le_of_ble_eq_true rfl, Nat.le_of_ble_eq_true rfl⟩ (ci := 3) rfl dM_id0_2 rfl rfl (Nat.le_of_ble_eq_true rfl) hc_3 ho_7 vc (fun v_4 μ_5 vc' => ?_) (fun E_46 μ_5 vc' => ?_)
  · replace vc := vc'
    clear vc'
    obtain ⟨v_9, rfl, vc⟩ := vc
    obtain ⟨mc_10, ms_11, hc_12, vc⟩ := vc
    refine sr_callS (y := yM_there) (n0 := 1) (As := [.int v_9]) (st := []) h (sp_gS kw_521 kw_522 kw_35 kw_523) rfl (by decide +kernel) ⟨Nat.le_of_ble_eq_true rfl, Nat.le_of_ble_eq_true rfl⟩ dM_id0_5 rfl rfl (Nat.le_of_ble_eq_true rfl) hc_12 vc (fun v_13 μ_14 vc' => ?_) (fun E_45 μ_14 vc' => ?_)
    · replace vc := vc'
      clear vc'
      obtain ⟨rfl, vc⟩ := vc
      refine sr_ldc2 (v := 4294967296) h dM_id0_8 kw_590 ?_
      refine sr_aload_n h dM_id0_11 rfl 0 rfl ?_
      obtain ⟨fs_16, ho_17, vc⟩ := vc
      obtain ⟨r_18, hv_19, vc⟩ := vc
      refine sr_get h inM rfl 0 (by decide) kw_454 dM_id0_12 ho_17 hv_19 ?_
      refine sr_aload_n h dM_id0_15 rfl 0 rfl ?_
      obtain ⟨r_20, hv_21, vc⟩ := vc
      refine sr_get h inM rfl 4 (by decide) kw_458 dM_id0_16 ho_17 hv_21 ?_
      refine sr_iload_n h dM_id0_19 rfl 1 rfl ?_
      obtain ⟨a_22, rfl, vc⟩ := vc
      obtain ⟨N_23, f_24, ho_25, vc⟩ := vc
      obtain ⟨j_26, hi_27, hj_28, vc⟩ := vc
      refine sr_sald h dM_id0_20 ho_25 hi_27 hj_28 ?_
      obtain ⟨a_29, rfl, vc⟩ := vc
      obtain ⟨N_30, f_31, ho_32, vc⟩ := vc
      obtain ⟨j_33, hi_34, hj_35, vc⟩ := vc
      refine sr_iald h dM_id0_21 ho_32 hi_34 hj_35 ?_
      refine sr_i2l h dM_id0_22 ?_
      refine sr_lmul h dM_id0_23 ?_
      refine sr_aload_n h dM_id0_24 rfl 0 rfl ?_
      obtain ⟨r_36, hv_37, vc⟩ := vc
      refine sr_get h inM rfl 5 (by decide) kw_459 dM_id0_25 ho_17 hv_37 ?_
      refine sr_iload_n h dM_id0_28 rfl 1 rfl ?_
      obtain ⟨a_38, rfl, vc⟩ := vc
      obtain ⟨N_39, f_40, ho_41, vc⟩ := vc
      obtain ⟨j_42, hi_43, hj_44, vc⟩ := vc
      refine sr_sald h dM_id0_29 ho_41 hi_43 hj_44 ?_
      refine sr_i2l h dM_id0_30 ?_
      refine sr_ladd h dM_id0_31 ?_
      exact sr_lret h dM_id0_32 hc_12.1 hc_12.2 vc
    · replace vc := vc'
      clear vc'
      exact st_out h (fun _ z => nomatch z) hc_12.1 hc_12.2 vc
  · replace vc := vc'
    clear vc'
    exact st_out h (fun _ z => nomatch z) hc_3.1 hc_3.2 vc
theorem opM_id0 {l : Launch} {κ : sp_K} {mc ms : Nat} {Rt : Option Value → sp_M → Prop} {Xt : String → sp_M → Prop} {μ : sp_M} {a0 : Nat} {v1 : Int32} (htr : l.stackTraces = false) (body : ∀ x : sp_X, x.2.1.stackTraces = false → cxM_id0 κ x mc ms → sp_w κ x (sp_F κ x Rt Xt mc ms) 0 0 0 [(0, .ref a0), (1, .int v1)] [] μ) : sp_m l κ yM_id0 wM_id0 7 110 mc ms [.ref a0, .int v1] μ Rt Xt :=
  sp_open htr (by decide +kernel) rfl (Nat.le_of_ble_eq_true rfl) (by intro v hv; simp only [List.mem_cons, List.not_mem_nil, or_false] at hv; rcases hv with rfl | rfl <;> first | rfl | exact sp_c1o _) (fun x hx h => body x (by rw [hx]; exact htr) h)

abbrev cxM_isPlace (κ : sp_K) (x : sp_X) (mc ms : Nat) : Prop := sp_C κ x cM_isPlace 2 RM (some .boolean) [] "isPlace" (sp_rm 0 0 mc ms)
set_option maxRecDepth 100000 in
set_option maxHeartbeats 4000000 in
theorem bkM_isPlace_0 {κ : sp_K} {x : sp_X} {mc ms : Nat} {Rt : Option Value → sp_M → Prop} {Xt : String → sp_M → Prop} {μ : sp_M} {k n : Nat} {a0 : Nat} {v1 : Int32} (h : cxM_isPlace κ x mc ms) (hk : k ≤ mc ∧ n ≤ ms)
    (vc : ((v1 < 0 → Rt (some (.int 0)) μ) ∧ (¬ v1 < 0 → (∃ fs_1 : List Value, μ a0 = some (.inr (3, fs_1)) ∧ ∃ v_3 : Int32, fs_1[9]? = some (.int v_3) ∧ ((v_3 ≤ v1 → Rt (some (.int 0)) μ) ∧ (¬ v_3 ≤ v1 → Rt (some (.int 1)) μ)))))) : sp_w κ x (sp_F κ x Rt Xt mc ms) k n 0 [(0, .ref a0), (1, .int v1)] [] μ := by
  refine sr_iload_n h dM_isPlace_0 rfl 1 rfl ?_
  refine sr_if_lt (tgt := 16) h dM_isPlace_1 (by decide) (fun c_6 => ?_) (fun c_6 => ?_)
  · replace vc := vc.1 c_6
    refine sr_iconst (v := 0) h dM_isPlace_16 (by decide) ?_
    exact sr_zret h dM_isPlace_17 rfl hk.1 hk.2 vc
  · replace vc := vc.2 c_6
    refine sr_iload_n h dM_isPlace_4 rfl 1 rfl ?_
    refine sr_aload_n h dM_isPlace_5 rfl 0 rfl ?_
    obtain ⟨fs_1, ho_2, vc⟩ := vc
    obtain ⟨v_3, hv_4, vc⟩ := vc
    refine sr_get h inM rfl 9 (by decide) kw_463 dM_isPlace_6 ho_2 hv_4 ?_
    refine sr_icmp_ge (tgt := 16) h dM_isPlace_9 (by decide) (fun c_5 => ?_) (fun c_5 => ?_)
    · replace vc := vc.1 c_5
      refine sr_iconst (v := 0) h dM_isPlace_16 (by decide) ?_
      exact sr_zret h dM_isPlace_17 rfl hk.1 hk.2 vc
    · replace vc := vc.2 c_5
      refine sr_iconst (v := 1) h dM_isPlace_12 (by decide) ?_
      refine sr_goto (tgt := 17) h dM_isPlace_13 (by decide) ?_
      exact sr_zret h dM_isPlace_17 rfl hk.1 hk.2 vc
theorem opM_isPlace {l : Launch} {κ : sp_K} {mc ms : Nat} {Rt : Option Value → sp_M → Prop} {Xt : String → sp_M → Prop} {μ : sp_M} {a0 : Nat} {v1 : Int32} (htr : l.stackTraces = false) (body : ∀ x : sp_X, x.2.1.stackTraces = false → cxM_isPlace κ x mc ms → sp_w κ x (sp_F κ x Rt Xt mc ms) 0 0 0 [(0, .ref a0), (1, .int v1)] [] μ) : sp_m l κ yM_isPlace wM_isPlace 0 0 mc ms [.ref a0, .int v1] μ Rt Xt :=
  sp_open htr (by decide +kernel) rfl (Nat.le_of_ble_eq_true rfl) (by intro v hv; simp only [List.mem_cons, List.not_mem_nil, or_false] at hv; rcases hv with rfl | rfl <;> first | rfl | exact sp_c1o _) (fun x hx h => body x (by rw [hx]; exact htr) h)

abbrev cxM_parentOf (κ : sp_K) (x : sp_X) (mc ms : Nat) : Prop := sp_C κ x cM_parentOf 4 RM (some .int) (tableOf hhM_parentOf) "parentOf" (sp_rm 8 132 mc ms)
set_option maxRecDepth 100000 in
set_option maxHeartbeats 4000000 in
theorem bkM_parentOf_0 {κ : sp_K} {x : sp_X} {mc ms : Nat} {Rt : Option Value → sp_M → Prop} {Xt : String → sp_M → Prop} {μ : sp_M} {k n : Nat} {a0 : Nat} {v1 : Int32} {v2 : Int32} (h : cxM_parentOf κ x mc ms) (hk : k ≤ mc ∧ n ≤ ms)
    (vc : (∃ fs_1 : List Value, μ a0 = some (.inr (3, fs_1)) ∧ 13 < fs_1.length ∧ ∀ μ_3 : sp_M, μ_3 = va_up μ a0 (some (.inr (3, fs_1.set 13 (.int 0)))) → (∃ mc_5 ms_6 : Nat, (k + mc_5 ≤ mc ∧ n + ms_6 ≤ ms) ∧ ∃ fs_10 : List Value, μ_3 a0 = some (.inr (3, fs_10)) ∧ sp_m x.2.1 κ yM_parentOf0 wM_parentOf0 7 110 mc_5 ms_6 [.ref a0, .int v1, .int v2] μ_3 (fun v_8 μ_9 => ∃ v_13 : Int32, v_8 = some (.int v_13) ∧ Rt (some (.int v_13)) μ_9) (fun E_14 μ_9 => ((E_14 = "java/util/NoSuchElementException" ∧ ∀ q_15 : Nat, (∃ fs_16 : List Value, μ_9 a0 = some (.inr (3, fs_16)) ∧ 13 < fs_16.length ∧ ∀ μ_18 : sp_M, μ_18 = va_up μ_9 a0 (some (.inr (3, fs_16.set 13 (.int 1)))) → Rt (some (.int 0)) μ_18))))))) : sp_w κ x (sp_F κ x Rt Xt mc ms) k n 0 [(0, .ref a0), (1, .int v1), (2, .int v2)] [] μ := by
  refine sr_aload_n h dM_parentOf_0 rfl 0 rfl ?_
  refine sr_iconst (v := 0) h dM_parentOf_1 (by decide) ?_
  obtain ⟨fs_1, ho_2, vc⟩ := vc
  obtain ⟨hl_4, vc⟩ := vc
  replace vc := vc _ rfl
  refine sr_put h inM tyM tyM_ok nmM rfl 13 (by decide) kw_467 rfl dM_parentOf_2 ho_2 rfl rfl hl_4 ?_
  refine sr_aload_n h dM_parentOf_5 rfl 0 rfl ?_
  refine sr_iload_n h dM_parentOf_6 rfl 1 rfl ?_
  refine sr_iload_n h dM_parentOf_7 rfl 2 rfl ?_
  obtain ⟨mc_5, ms_6, hc_7, vc⟩ := vc
  obtain ⟨fs_10, ho_11, vc⟩ := vc
  refine sr_callV (y := yM_parentOf0) (n0 := 2) (As := [.int v1, .int v2]) h (sp_gV kw_595 kw_597 kw_25 kw_35 kw_598) rfl (by decide +kernel) ⟨Nat.le_of_ble_eq_true rfl, Nat.le_of_ble_eq_true rfl⟩ (ci := 3) rfl dM_parentOf_8 rfl rfl (Nat.le_of_ble_eq_true rfl) hc_7 ho_11 vc (fun v_8 μ_9 vc' => ?_) (fun E_14 μ_9 vc' => ?_)
  · replace vc := vc'
    clear vc'
    obtain ⟨v_13, rfl, vc⟩ := vc
    exact sr_iret h dM_parentOf_11 hc_7.1 hc_7.2 vc
  · replace vc := vc'
    clear vc'
    obtain ⟨rfl, vc⟩ := vc
    refine st_catch h [] ({ startPc := 5, endPc := 11, handlerPc := 12, catchType := 44 }) [] rfl (fun _ z => nomatch z) (by decide) (by decide) (name := "java/util/NoSuchElementException") kw_506 kt_131 (fun q_15 => ?_)
    replace vc := vc q_15
    refine sr_astore_n (lv' := [(0, .ref a0), (1, .int v1), (2, .int v2), (3, .ref q_15)]) h dM_parentOf_12 rfl (by decide) rfl ?_
    refine sr_aload_n h dM_parentOf_13 rfl 0 rfl ?_
    refine sr_iconst (v := 1) h dM_parentOf_14 (by decide) ?_
    obtain ⟨fs_16, ho_17, vc⟩ := vc
    obtain ⟨hl_19, vc⟩ := vc
    replace vc := vc _ rfl
    refine sr_put h inM tyM tyM_ok nmM rfl 13 (by decide) kw_467 rfl dM_parentOf_15 ho_17 rfl rfl hl_19 ?_
    refine sr_iconst (v := 0) h dM_parentOf_18 (by decide) ?_
    exact sr_iret h dM_parentOf_19 hc_7.1 hc_7.2 vc
theorem opM_parentOf {l : Launch} {κ : sp_K} {mc ms : Nat} {Rt : Option Value → sp_M → Prop} {Xt : String → sp_M → Prop} {μ : sp_M} {a0 : Nat} {v1 : Int32} {v2 : Int32} (htr : l.stackTraces = false) (body : ∀ x : sp_X, x.2.1.stackTraces = false → cxM_parentOf κ x mc ms → sp_w κ x (sp_F κ x Rt Xt mc ms) 0 0 0 [(0, .ref a0), (1, .int v1), (2, .int v2)] [] μ) : sp_m l κ yM_parentOf wM_parentOf 8 132 mc ms [.ref a0, .int v1, .int v2] μ Rt Xt :=
  sp_openH htr (by decide +kernel) rfl (Nat.le_of_ble_eq_true rfl) (by intro v hv; simp only [List.mem_cons, List.not_mem_nil, or_false] at hv; rcases hv with rfl | rfl | rfl <;> first | rfl | exact sp_c1o _) (fun x hx h => body x (by rw [hx]; exact htr) h)

abbrev cxM_parentOf0 (κ : sp_K) (x : sp_X) (mc ms : Nat) : Prop := sp_C κ x cM_parentOf0 3 RM (some .int) [] "parentOf0" (sp_rm 7 110 mc ms)
set_option maxRecDepth 100000 in
set_option maxHeartbeats 4000000 in
theorem bkM_parentOf0_0 {κ : sp_K} {x : sp_X} {mc ms : Nat} {Rt : Option Value → sp_M → Prop} {Xt : String → sp_M → Prop} {μ : sp_M} {k n : Nat} {a0 : Nat} {v1 : Int32} {v2 : Int32} (h : cxM_parentOf0 κ x mc ms) (hk : k ≤ mc ∧ n ≤ ms)
    (vc : (∃ mc_1 ms_2 : Nat, (k + mc_1 ≤ mc ∧ n + ms_2 ≤ ms) ∧ ∃ fs_6 : List Value, μ a0 = some (.inr (3, fs_6)) ∧ sp_m x.2.1 κ yM_isPlace wM_isPlace 0 0 mc_1 ms_2 [.ref a0, .int v1] μ (fun v_4 μ_5 => ∃ v_9 : Int32, v_4 = some (.int v_9) ∧ (∃ mc_10 ms_11 : Nat, ((k + mc_1) + mc_10 ≤ mc ∧ (n + ms_2) + ms_11 ≤ ms) ∧ sp_m x.2.1 κ yM_there wM_there 6 90 mc_10 ms_11 [.int v_9] μ_5 (fun v_13 μ_14 => v_13 = none ∧ ((v2 < (-1) → sp_w κ x (sp_F κ x Rt Xt mc ms) (k + mc_1 + mc_10) (n + ms_2 + ms_11) 27 [(0, .ref a0), (1, .int v1), (2, .int v2)] [] μ_14) ∧ (¬ v2 < (-1) → (∃ fs_16 : List Value, μ_14 a0 = some (.inr (3, fs_16)) ∧ ∃ r_18 : Option Nat, fs_16[6]? = some (va_rf r_18) ∧ (∃ a_20 : Nat, r_18 = some a_20 ∧ ∃ (N_21 : Nat) (f_22 : Nat → Int32), μ_14 a_20 = some (sp_sa κ N_21 f_22) ∧ ∃ j_24 : Nat, v1 = nI j_24 ∧ j_24 < N_21 ∧ (((f_22 j_24) ≤ v2 → sp_w κ x (sp_F κ x Rt Xt mc ms) (k + mc_1 + mc_10) (n + ms_2 + ms_11) 27 [(0, .ref a0), (1, .int v1), (2, .int v2)] [] μ_14) ∧ (¬ (f_22 j_24) ≤ v2 → sp_w κ x (sp_F κ x Rt Xt mc ms) (k + mc_1 + mc_10) (n + ms_2 + ms_11) 28 [(0, .ref a0), (1, .int v1), (2, .int v2)] [.int 1] μ_14))))))) (fun E_29 μ_14 => Xt E_29 μ_14))) (fun E_30 μ_5 => Xt E_30 μ_5))) : sp_w κ x (sp_F κ x Rt Xt mc ms) k n 0 [(0, .ref a0), (1, .int v1), (2, .int v2)] [] μ := by
  refine sr_aload_n h dM_parentOf0_0 rfl 0 rfl ?_
  refine sr_iload_n h dM_parentOf0_1 rfl 1 rfl ?_
  obtain ⟨mc_1, ms_2, hc_3, vc⟩ := vc
  obtain ⟨fs_6, ho_7, vc⟩ := vc
  refine sr_callV (y := yM_isPlace) (n0 := 1) (As := [.int v1]) h (sp_gV kw_586 kw_588 kw_24 kw_35 kw_589) rfl (by decide +kernel) ⟨Nat.le_of_ble_eq_true rfl, Nat.le_of_ble_eq_true rfl⟩ (ci := 3) rfl dM_parentOf0_2 rfl rfl (Nat.le_of_ble_eq_true rfl) hc_3 ho_7 vc (fun v_4 μ_5 vc' => ?_) (fun E_30 μ_5 vc' => ?_)
  · replace vc := vc'
    clear vc'
    obtain ⟨v_9, rfl, vc⟩ := vc
    obtain ⟨mc_10, ms_11, hc_12, vc⟩ := vc
    refine sr_callS (y := yM_there) (n0 := 1) (As := [.int v_9]) (st := []) h (sp_gS kw_521 kw_522 kw_35 kw_523) rfl (by decide +kernel) ⟨Nat.le_of_ble_eq_true rfl, Nat.le_of_ble_eq_true rfl⟩ dM_parentOf0_5 rfl rfl (Nat.le_of_ble_eq_true rfl) hc_12 vc (fun v_13 μ_14 vc' => ?_) (fun E_29 μ_14 vc' => ?_)
    · replace vc := vc'
      clear vc'
      obtain ⟨rfl, vc⟩ := vc
      refine sr_iload_n h dM_parentOf0_8 rfl 2 rfl ?_
      refine sr_iconst (v := -1) h dM_parentOf0_9 (by decide) ?_
      refine sr_icmp_lt (tgt := 27) h dM_parentOf0_10 (by decide) (fun c_28 => ?_) (fun c_28 => ?_)
      · replace vc := vc.1 c_28
        exact vc
      · replace vc := vc.2 c_28
        refine sr_iload_n h dM_parentOf0_13 rfl 2 rfl ?_
        refine sr_aload_n h dM_parentOf0_14 rfl 0 rfl ?_
        obtain ⟨fs_16, ho_17, vc⟩ := vc
        obtain ⟨r_18, hv_19, vc⟩ := vc
        refine sr_get h inM rfl 6 (by decide) kw_460 dM_parentOf0_15 ho_17 hv_19 ?_
        refine sr_iload_n h dM_parentOf0_18 rfl 1 rfl ?_
        obtain ⟨a_20, rfl, vc⟩ := vc
        obtain ⟨N_21, f_22, ho_23, vc⟩ := vc
        obtain ⟨j_24, hi_25, hj_26, vc⟩ := vc
        refine sr_sald h dM_parentOf0_19 ho_23 hi_25 hj_26 ?_
        refine sr_icmp_ge (tgt := 27) h dM_parentOf0_20 (by decide) (fun c_27 => ?_) (fun c_27 => ?_)
        · replace vc := vc.1 c_27
          exact vc
        · replace vc := vc.2 c_27
          refine sr_iconst (v := 1) h dM_parentOf0_23 (by decide) ?_
          refine sr_goto (tgt := 28) h dM_parentOf0_24 (by decide) ?_
          exact vc
    · replace vc := vc'
      clear vc'
      exact st_out h (fun _ z => nomatch z) hc_12.1 hc_12.2 vc
  · replace vc := vc'
    clear vc'
    exact st_out h (fun _ z => nomatch z) hc_3.1 hc_3.2 vc
set_option maxRecDepth 100000 in
set_option maxHeartbeats 4000000 in
theorem bkM_parentOf0_27 {κ : sp_K} {x : sp_X} {mc ms : Nat} {Rt : Option Value → sp_M → Prop} {Xt : String → sp_M → Prop} {μ : sp_M} {k n : Nat} {a0 : Nat} {v1 : Int32} {v2 : Int32} (h : cxM_parentOf0 κ x mc ms) (hk : k ≤ mc ∧ n ≤ ms)
    (vc : sp_w κ x (sp_F κ x Rt Xt mc ms) k n 28 [(0, .ref a0), (1, .int v1), (2, .int v2)] [.int 0] μ) : sp_w κ x (sp_F κ x Rt Xt mc ms) k n 27 [(0, .ref a0), (1, .int v1), (2, .int v2)] [] μ := by
  refine sr_iconst (v := 0) h dM_parentOf0_27 (by decide) ?_
  exact vc
set_option maxRecDepth 100000 in
set_option maxHeartbeats 4000000 in
theorem bkM_parentOf0_28 {κ : sp_K} {x : sp_X} {mc ms : Nat} {Rt : Option Value → sp_M → Prop} {Xt : String → sp_M → Prop} {μ : sp_M} {k n : Nat} {a0 : Nat} {v1 : Int32} {v2 : Int32} {vs0 : Int32} (h : cxM_parentOf0 κ x mc ms) (hk : k ≤ mc ∧ n ≤ ms)
    (vc : (∃ mc_1 ms_2 : Nat, (k + mc_1 ≤ mc ∧ n + ms_2 ≤ ms) ∧ sp_m x.2.1 κ yM_there wM_there 6 90 mc_1 ms_2 [.int vs0] μ (fun v_4 μ_5 => v_4 = none ∧ ((0 ≤ v2 → (∃ fs_7 : List Value, μ_5 a0 = some (.inr (3, fs_7)) ∧ ∃ r_9 : Option Nat, fs_7[7]? = some (va_rf r_9) ∧ (∃ a_11 : Nat, r_9 = some a_11 ∧ ∃ (N_12 : Nat) (f_13 : Nat → Int32), μ_5 a_11 = some (sp_sa κ N_12 f_13) ∧ ∃ j_15 : Nat, (16 * v1) + v2 = nI j_15 ∧ j_15 < N_12 ∧ Rt (some (.int (f_13 j_15))) μ_5))) ∧ (¬ 0 ≤ v2 → (∃ fs_18 : List Value, μ_5 a0 = some (.inr (3, fs_18)) ∧ ∃ r_20 : Option Nat, fs_18[6]? = some (va_rf r_20) ∧ (∃ a_22 : Nat, r_20 = some a_22 ∧ ∃ (N_23 : Nat) (f_24 : Nat → Int32), μ_5 a_22 = some (sp_sa κ N_23 f_24) ∧ ∃ j_26 : Nat, v1 = nI j_26 ∧ j_26 < N_23 ∧ Rt (some (.int (f_24 j_26))) μ_5))))) (fun E_30 μ_5 => Xt E_30 μ_5))) : sp_w κ x (sp_F κ x Rt Xt mc ms) k n 28 [(0, .ref a0), (1, .int v1), (2, .int v2)] [.int vs0] μ := by
  obtain ⟨mc_1, ms_2, hc_3, vc⟩ := vc
  refine sr_callS (y := yM_there) (n0 := 1) (As := [.int vs0]) (st := []) h (sp_gS kw_521 kw_522 kw_35 kw_523) rfl (by decide +kernel) ⟨Nat.le_of_ble_eq_true rfl, Nat.le_of_ble_eq_true rfl⟩ dM_parentOf0_28 rfl rfl (Nat.le_of_ble_eq_true rfl) hc_3 vc (fun v_4 μ_5 vc' => ?_) (fun E_30 μ_5 vc' => ?_)
  · replace vc := vc'
    clear vc'
    obtain ⟨rfl, vc⟩ := vc
    refine sr_iload_n h dM_parentOf0_31 rfl 2 rfl ?_
    refine sr_if_ge (tgt := 44) h dM_parentOf0_32 (by decide) (fun c_29 => ?_) (fun c_29 => ?_)
    · replace vc := vc.1 c_29
      refine sr_aload_n h dM_parentOf0_44 rfl 0 rfl ?_
      obtain ⟨fs_7, ho_8, vc⟩ := vc
      obtain ⟨r_9, hv_10, vc⟩ := vc
      refine sr_get h inM rfl 7 (by decide) kw_461 dM_parentOf0_45 ho_8 hv_10 ?_
      refine sr_bipush (v := 16) h dM_parentOf0_48 (by decide) ?_
      refine sr_iload_n h dM_parentOf0_50 rfl 1 rfl ?_
      refine sr_imul h dM_parentOf0_51 ?_
      refine sr_iload_n h dM_parentOf0_52 rfl 2 rfl ?_
      refine sr_iadd h dM_parentOf0_53 ?_
      obtain ⟨a_11, rfl, vc⟩ := vc
      obtain ⟨N_12, f_13, ho_14, vc⟩ := vc
      obtain ⟨j_15, hi_16, hj_17, vc⟩ := vc
      refine sr_sald h dM_parentOf0_54 ho_14 hi_16 hj_17 ?_
      exact sr_iret h dM_parentOf0_55 hc_3.1 hc_3.2 vc
    · replace vc := vc.2 c_29
      refine sr_aload_n h dM_parentOf0_35 rfl 0 rfl ?_
      obtain ⟨fs_18, ho_19, vc⟩ := vc
      obtain ⟨r_20, hv_21, vc⟩ := vc
      refine sr_get h inM rfl 6 (by decide) kw_460 dM_parentOf0_36 ho_19 hv_21 ?_
      refine sr_iload_n h dM_parentOf0_39 rfl 1 rfl ?_
      obtain ⟨a_22, rfl, vc⟩ := vc
      obtain ⟨N_23, f_24, ho_25, vc⟩ := vc
      obtain ⟨j_26, hi_27, hj_28, vc⟩ := vc
      refine sr_sald h dM_parentOf0_40 ho_25 hi_27 hj_28 ?_
      refine sr_goto (tgt := 55) h dM_parentOf0_41 (by decide) ?_
      exact sr_iret h dM_parentOf0_55 hc_3.1 hc_3.2 vc
  · replace vc := vc'
    clear vc'
    exact st_out h (fun _ z => nomatch z) hc_3.1 hc_3.2 vc
theorem opM_parentOf0 {l : Launch} {κ : sp_K} {mc ms : Nat} {Rt : Option Value → sp_M → Prop} {Xt : String → sp_M → Prop} {μ : sp_M} {a0 : Nat} {v1 : Int32} {v2 : Int32} (htr : l.stackTraces = false) (body : ∀ x : sp_X, x.2.1.stackTraces = false → cxM_parentOf0 κ x mc ms → sp_w κ x (sp_F κ x Rt Xt mc ms) 0 0 0 [(0, .ref a0), (1, .int v1), (2, .int v2)] [] μ) : sp_m l κ yM_parentOf0 wM_parentOf0 7 110 mc ms [.ref a0, .int v1, .int v2] μ Rt Xt :=
  sp_open htr (by decide +kernel) rfl (Nat.le_of_ble_eq_true rfl) (by intro v hv; simp only [List.mem_cons, List.not_mem_nil, or_false] at hv; rcases hv with rfl | rfl | rfl <;> first | rfl | exact sp_c1o _) (fun x hx h => body x (by rw [hx]; exact htr) h)

abbrev cxM_related (κ : sp_K) (x : sp_X) (mc ms : Nat) : Prop := sp_C κ x cM_related 4 RM (some .int) (tableOf hhM_related) "related" (sp_rm 8 132 mc ms)
set_option maxRecDepth 100000 in
set_option maxHeartbeats 4000000 in
theorem bkM_related_0 {κ : sp_K} {x : sp_X} {mc ms : Nat} {Rt : Option Value → sp_M → Prop} {Xt : String → sp_M → Prop} {μ : sp_M} {k n : Nat} {a0 : Nat} {v1 : Int32} {v2 : Int32} (h : cxM_related κ x mc ms) (hk : k ≤ mc ∧ n ≤ ms)
    (vc : (∃ fs_1 : List Value, μ a0 = some (.inr (3, fs_1)) ∧ 13 < fs_1.length ∧ ∀ μ_3 : sp_M, μ_3 = va_up μ a0 (some (.inr (3, fs_1.set 13 (.int 0)))) → (∃ mc_5 ms_6 : Nat, (k + mc_5 ≤ mc ∧ n + ms_6 ≤ ms) ∧ ∃ fs_10 : List Value, μ_3 a0 = some (.inr (3, fs_10)) ∧ sp_m x.2.1 κ yM_related0 wM_related0 7 110 mc_5 ms_6 [.ref a0, .int v1, .int v2] μ_3 (fun v_8 μ_9 => ∃ v_13 : Int32, v_8 = some (.int v_13) ∧ Rt (some (.int v_13)) μ_9) (fun E_14 μ_9 => ((E_14 = "java/util/NoSuchElementException" ∧ ∀ q_15 : Nat, (∃ fs_16 : List Value, μ_9 a0 = some (.inr (3, fs_16)) ∧ 13 < fs_16.length ∧ ∀ μ_18 : sp_M, μ_18 = va_up μ_9 a0 (some (.inr (3, fs_16.set 13 (.int 1)))) → Rt (some (.int 0)) μ_18))))))) : sp_w κ x (sp_F κ x Rt Xt mc ms) k n 0 [(0, .ref a0), (1, .int v1), (2, .int v2)] [] μ := by
  refine sr_aload_n h dM_related_0 rfl 0 rfl ?_
  refine sr_iconst (v := 0) h dM_related_1 (by decide) ?_
  obtain ⟨fs_1, ho_2, vc⟩ := vc
  obtain ⟨hl_4, vc⟩ := vc
  replace vc := vc _ rfl
  refine sr_put h inM tyM tyM_ok nmM rfl 13 (by decide) kw_467 rfl dM_related_2 ho_2 rfl rfl hl_4 ?_
  refine sr_aload_n h dM_related_5 rfl 0 rfl ?_
  refine sr_iload_n h dM_related_6 rfl 1 rfl ?_
  refine sr_iload_n h dM_related_7 rfl 2 rfl ?_
  obtain ⟨mc_5, ms_6, hc_7, vc⟩ := vc
  obtain ⟨fs_10, ho_11, vc⟩ := vc
  refine sr_callV (y := yM_related0) (n0 := 2) (As := [.int v1, .int v2]) h (sp_gV kw_603 kw_605 kw_26 kw_35 kw_606) rfl (by decide +kernel) ⟨Nat.le_of_ble_eq_true rfl, Nat.le_of_ble_eq_true rfl⟩ (ci := 3) rfl dM_related_8 rfl rfl (Nat.le_of_ble_eq_true rfl) hc_7 ho_11 vc (fun v_8 μ_9 vc' => ?_) (fun E_14 μ_9 vc' => ?_)
  · replace vc := vc'
    clear vc'
    obtain ⟨v_13, rfl, vc⟩ := vc
    exact sr_iret h dM_related_11 hc_7.1 hc_7.2 vc
  · replace vc := vc'
    clear vc'
    obtain ⟨rfl, vc⟩ := vc
    refine st_catch h [] ({ startPc := 5, endPc := 11, handlerPc := 12, catchType := 44 }) [] rfl (fun _ z => nomatch z) (by decide) (by decide) (name := "java/util/NoSuchElementException") kw_506 kt_131 (fun q_15 => ?_)
    replace vc := vc q_15
    refine sr_astore_n (lv' := [(0, .ref a0), (1, .int v1), (2, .int v2), (3, .ref q_15)]) h dM_related_12 rfl (by decide) rfl ?_
    refine sr_aload_n h dM_related_13 rfl 0 rfl ?_
    refine sr_iconst (v := 1) h dM_related_14 (by decide) ?_
    obtain ⟨fs_16, ho_17, vc⟩ := vc
    obtain ⟨hl_19, vc⟩ := vc
    replace vc := vc _ rfl
    refine sr_put h inM tyM tyM_ok nmM rfl 13 (by decide) kw_467 rfl dM_related_15 ho_17 rfl rfl hl_19 ?_
    refine sr_iconst (v := 0) h dM_related_18 (by decide) ?_
    exact sr_iret h dM_related_19 hc_7.1 hc_7.2 vc
theorem opM_related {l : Launch} {κ : sp_K} {mc ms : Nat} {Rt : Option Value → sp_M → Prop} {Xt : String → sp_M → Prop} {μ : sp_M} {a0 : Nat} {v1 : Int32} {v2 : Int32} (htr : l.stackTraces = false) (body : ∀ x : sp_X, x.2.1.stackTraces = false → cxM_related κ x mc ms → sp_w κ x (sp_F κ x Rt Xt mc ms) 0 0 0 [(0, .ref a0), (1, .int v1), (2, .int v2)] [] μ) : sp_m l κ yM_related wM_related 8 132 mc ms [.ref a0, .int v1, .int v2] μ Rt Xt :=
  sp_openH htr (by decide +kernel) rfl (Nat.le_of_ble_eq_true rfl) (by intro v hv; simp only [List.mem_cons, List.not_mem_nil, or_false] at hv; rcases hv with rfl | rfl | rfl <;> first | rfl | exact sp_c1o _) (fun x hx h => body x (by rw [hx]; exact htr) h)

abbrev cxM_related0 (κ : sp_K) (x : sp_X) (mc ms : Nat) : Prop := sp_C κ x cM_related0 3 RM (some .int) [] "related0" (sp_rm 7 110 mc ms)
set_option maxRecDepth 100000 in
set_option maxHeartbeats 4000000 in
theorem bkM_related0_0 {κ : sp_K} {x : sp_X} {mc ms : Nat} {Rt : Option Value → sp_M → Prop} {Xt : String → sp_M → Prop} {μ : sp_M} {k n : Nat} {a0 : Nat} {v1 : Int32} {v2 : Int32} (h : cxM_related0 κ x mc ms) (hk : k ≤ mc ∧ n ≤ ms)
    (vc : (∃ mc_1 ms_2 : Nat, (k + mc_1 ≤ mc ∧ n + ms_2 ≤ ms) ∧ ∃ fs_6 : List Value, μ a0 = some (.inr (3, fs_6)) ∧ sp_m x.2.1 κ yM_isPlace wM_isPlace 0 0 mc_1 ms_2 [.ref a0, .int v1] μ (fun v_4 μ_5 => ∃ v_9 : Int32, v_4 = some (.int v_9) ∧ ((v_9 = 0 → sp_w κ x (sp_F κ x Rt Xt mc ms) (k + mc_1) (n + ms_2) 20 [(0, .ref a0), (1, .int v1), (2, .int v2)] [] μ_5) ∧ (¬ v_9 = 0 → (∃ mc_10 ms_11 : Nat, ((k + mc_1) + mc_10 ≤ mc ∧ (n + ms_2) + ms_11 ≤ ms) ∧ ∃ fs_15 : List Value, μ_5 a0 = some (.inr (3, fs_15)) ∧ sp_m x.2.1 κ yM_isPlace wM_isPlace 0 0 mc_10 ms_11 [.ref a0, .int v2] μ_5 (fun v_13 μ_14 => ∃ v_18 : Int32, v_13 = some (.int v_18) ∧ ((v_18 = 0 → sp_w κ x (sp_F κ x Rt Xt mc ms) (k + mc_1 + mc_10) (n + ms_2 + ms_11) 20 [(0, .ref a0), (1, .int v1), (2, .int v2)] [] μ_14) ∧ (¬ v_18 = 0 → sp_w κ x (sp_F κ x Rt Xt mc ms) (k + mc_1 + mc_10) (n + ms_2 + ms_11) 21 [(0, .ref a0), (1, .int v1), (2, .int v2)] [.int 1] μ_14))) (fun E_20 μ_14 => Xt E_20 μ_14))))) (fun E_22 μ_5 => Xt E_22 μ_5))) : sp_w κ x (sp_F κ x Rt Xt mc ms) k n 0 [(0, .ref a0), (1, .int v1), (2, .int v2)] [] μ := by
  refine sr_aload_n h dM_related0_0 rfl 0 rfl ?_
  refine sr_iload_n h dM_related0_1 rfl 1 rfl ?_
  obtain ⟨mc_1, ms_2, hc_3, vc⟩ := vc
  obtain ⟨fs_6, ho_7, vc⟩ := vc
  refine sr_callV (y := yM_isPlace) (n0 := 1) (As := [.int v1]) h (sp_gV kw_586 kw_588 kw_24 kw_35 kw_589) rfl (by decide +kernel) ⟨Nat.le_of_ble_eq_true rfl, Nat.le_of_ble_eq_true rfl⟩ (ci := 3) rfl dM_related0_2 rfl rfl (Nat.le_of_ble_eq_true rfl) hc_3 ho_7 vc (fun v_4 μ_5 vc' => ?_) (fun E_22 μ_5 vc' => ?_)
  · replace vc := vc'
    clear vc'
    obtain ⟨v_9, rfl, vc⟩ := vc
    refine sr_if_eq (tgt := 20) h dM_related0_5 (by decide) (fun c_21 => ?_) (fun c_21 => ?_)
    · replace vc := vc.1 c_21
      exact vc
    · replace vc := vc.2 c_21
      refine sr_aload_n h dM_related0_8 rfl 0 rfl ?_
      refine sr_iload_n h dM_related0_9 rfl 2 rfl ?_
      obtain ⟨mc_10, ms_11, hc_12, vc⟩ := vc
      obtain ⟨fs_15, ho_16, vc⟩ := vc
      refine sr_callV (y := yM_isPlace) (n0 := 1) (As := [.int v2]) h (sp_gV kw_586 kw_588 kw_24 kw_35 kw_589) rfl (by decide +kernel) ⟨Nat.le_of_ble_eq_true rfl, Nat.le_of_ble_eq_true rfl⟩ (ci := 3) rfl dM_related0_10 rfl rfl (Nat.le_of_ble_eq_true rfl) hc_12 ho_16 vc (fun v_13 μ_14 vc' => ?_) (fun E_20 μ_14 vc' => ?_)
      · replace vc := vc'
        clear vc'
        obtain ⟨v_18, rfl, vc⟩ := vc
        refine sr_if_eq (tgt := 20) h dM_related0_13 (by decide) (fun c_19 => ?_) (fun c_19 => ?_)
        · replace vc := vc.1 c_19
          exact vc
        · replace vc := vc.2 c_19
          refine sr_iconst (v := 1) h dM_related0_16 (by decide) ?_
          refine sr_goto (tgt := 21) h dM_related0_17 (by decide) ?_
          exact vc
      · replace vc := vc'
        clear vc'
        exact st_out h (fun _ z => nomatch z) hc_12.1 hc_12.2 vc
  · replace vc := vc'
    clear vc'
    exact st_out h (fun _ z => nomatch z) hc_3.1 hc_3.2 vc
set_option maxRecDepth 100000 in
set_option maxHeartbeats 4000000 in
theorem bkM_related0_20 {κ : sp_K} {x : sp_X} {mc ms : Nat} {Rt : Option Value → sp_M → Prop} {Xt : String → sp_M → Prop} {μ : sp_M} {k n : Nat} {a0 : Nat} {v1 : Int32} {v2 : Int32} (h : cxM_related0 κ x mc ms) (hk : k ≤ mc ∧ n ≤ ms)
    (vc : sp_w κ x (sp_F κ x Rt Xt mc ms) k n 21 [(0, .ref a0), (1, .int v1), (2, .int v2)] [.int 0] μ) : sp_w κ x (sp_F κ x Rt Xt mc ms) k n 20 [(0, .ref a0), (1, .int v1), (2, .int v2)] [] μ := by
  refine sr_iconst (v := 0) h dM_related0_20 (by decide) ?_
  exact vc
set_option maxRecDepth 100000 in
set_option maxHeartbeats 4000000 in
theorem bkM_related0_21 {κ : sp_K} {x : sp_X} {mc ms : Nat} {Rt : Option Value → sp_M → Prop} {Xt : String → sp_M → Prop} {μ : sp_M} {k n : Nat} {a0 : Nat} {v1 : Int32} {v2 : Int32} {vs0 : Int32} (h : cxM_related0 κ x mc ms) (hk : k ≤ mc ∧ n ≤ ms)
    (vc : (∃ mc_1 ms_2 : Nat, (k + mc_1 ≤ mc ∧ n + ms_2 ≤ ms) ∧ sp_m x.2.1 κ yM_there wM_there 6 90 mc_1 ms_2 [.int vs0] μ (fun v_4 μ_5 => v_4 = none ∧ ((¬ v1 = v2 → (∃ mc_7 ms_8 : Nat, ((k + mc_1) + mc_7 ≤ mc ∧ (n + ms_2) + ms_8 ≤ ms) ∧ ∃ fs_12 : List Value, μ_5 a0 = some (.inr (3, fs_12)) ∧ sp_m x.2.1 κ yM_isIn wM_isIn 0 0 mc_7 ms_8 [.ref a0, .int v1, .int v2] μ_5 (fun v_10 μ_11 => ∃ v_15 : Int32, v_10 = some (.int v_15) ∧ ((v_15 = 0 → (∃ mc_16 ms_17 : Nat, ((k + mc_1 + mc_7) + mc_16 ≤ mc ∧ (n + ms_2 + ms_8) + ms_17 ≤ ms) ∧ ∃ fs_21 : List Value, μ_11 a0 = some (.inr (3, fs_21)) ∧ sp_m x.2.1 κ yM_isIn wM_isIn 0 0 mc_16 ms_17 [.ref a0, .int v2, .int v1] μ_11 (fun v_19 μ_20 => ∃ v_24 : Int32, v_19 = some (.int v_24) ∧ ((v_24 = 0 → Rt (some (.int 3)) μ_20) ∧ (¬ v_24 = 0 → Rt (some (.int 2)) μ_20))) (fun E_26 μ_20 => Xt E_26 μ_20))) ∧ (¬ v_15 = 0 → Rt (some (.int 1)) μ_11))) (fun E_28 μ_11 => Xt E_28 μ_11))) ∧ (v1 = v2 → Rt (some (.int 0)) μ_5))) (fun E_30 μ_5 => Xt E_30 μ_5))) : sp_w κ x (sp_F κ x Rt Xt mc ms) k n 21 [(0, .ref a0), (1, .int v1), (2, .int v2)] [.int vs0] μ := by
  obtain ⟨mc_1, ms_2, hc_3, vc⟩ := vc
  refine sr_callS (y := yM_there) (n0 := 1) (As := [.int vs0]) (st := []) h (sp_gS kw_521 kw_522 kw_35 kw_523) rfl (by decide +kernel) ⟨Nat.le_of_ble_eq_true rfl, Nat.le_of_ble_eq_true rfl⟩ dM_related0_21 rfl rfl (Nat.le_of_ble_eq_true rfl) hc_3 vc (fun v_4 μ_5 vc' => ?_) (fun E_30 μ_5 vc' => ?_)
  · replace vc := vc'
    clear vc'
    obtain ⟨rfl, vc⟩ := vc
    refine sr_iload_n h dM_related0_24 rfl 1 rfl ?_
    refine sr_iload_n h dM_related0_25 rfl 2 rfl ?_
    refine sr_icmp_ne (tgt := 33) h dM_related0_26 (by decide) (fun c_29 => ?_) (fun c_29 => ?_)
    · replace vc := vc.1 c_29
      refine sr_aload_n h dM_related0_33 rfl 0 rfl ?_
      refine sr_iload_n h dM_related0_34 rfl 1 rfl ?_
      refine sr_iload_n h dM_related0_35 rfl 2 rfl ?_
      obtain ⟨mc_7, ms_8, hc_9, vc⟩ := vc
      obtain ⟨fs_12, ho_13, vc⟩ := vc
      refine sr_callV (y := yM_isIn) (n0 := 2) (As := [.int v1, .int v2]) h (sp_gV kw_543 kw_545 kw_18 kw_35 kw_546) rfl (by decide +kernel) ⟨Nat.le_of_ble_eq_true rfl, Nat.le_of_ble_eq_true rfl⟩ (ci := 3) rfl dM_related0_36 rfl rfl (Nat.le_of_ble_eq_true rfl) hc_9 ho_13 vc (fun v_10 μ_11 vc' => ?_) (fun E_28 μ_11 vc' => ?_)
      · replace vc := vc'
        clear vc'
        obtain ⟨v_15, rfl, vc⟩ := vc
        refine sr_if_eq (tgt := 46) h dM_related0_39 (by decide) (fun c_27 => ?_) (fun c_27 => ?_)
        · replace vc := vc.1 c_27
          refine sr_aload_n h dM_related0_46 rfl 0 rfl ?_
          refine sr_iload_n h dM_related0_47 rfl 2 rfl ?_
          refine sr_iload_n h dM_related0_48 rfl 1 rfl ?_
          obtain ⟨mc_16, ms_17, hc_18, vc⟩ := vc
          obtain ⟨fs_21, ho_22, vc⟩ := vc
          refine sr_callV (y := yM_isIn) (n0 := 2) (As := [.int v2, .int v1]) h (sp_gV kw_543 kw_545 kw_18 kw_35 kw_546) rfl (by decide +kernel) ⟨Nat.le_of_ble_eq_true rfl, Nat.le_of_ble_eq_true rfl⟩ (ci := 3) rfl dM_related0_49 rfl rfl (Nat.le_of_ble_eq_true rfl) hc_18 ho_22 vc (fun v_19 μ_20 vc' => ?_) (fun E_26 μ_20 vc' => ?_)
          · replace vc := vc'
            clear vc'
            obtain ⟨v_24, rfl, vc⟩ := vc
            refine sr_if_eq (tgt := 59) h dM_related0_52 (by decide) (fun c_25 => ?_) (fun c_25 => ?_)
            · replace vc := vc.1 c_25
              refine sr_iconst (v := 3) h dM_related0_59 (by decide) ?_
              exact sr_iret h dM_related0_60 hc_18.1 hc_18.2 vc
            · replace vc := vc.2 c_25
              refine sr_iconst (v := 2) h dM_related0_55 (by decide) ?_
              refine sr_goto (tgt := 60) h dM_related0_56 (by decide) ?_
              exact sr_iret h dM_related0_60 hc_18.1 hc_18.2 vc
          · replace vc := vc'
            clear vc'
            exact st_out h (fun _ z => nomatch z) hc_18.1 hc_18.2 vc
        · replace vc := vc.2 c_27
          refine sr_iconst (v := 1) h dM_related0_42 (by decide) ?_
          refine sr_goto (tgt := 60) h dM_related0_43 (by decide) ?_
          exact sr_iret h dM_related0_60 hc_9.1 hc_9.2 vc
      · replace vc := vc'
        clear vc'
        exact st_out h (fun _ z => nomatch z) hc_9.1 hc_9.2 vc
    · replace vc := vc.2 c_29
      refine sr_iconst (v := 0) h dM_related0_29 (by decide) ?_
      refine sr_goto (tgt := 60) h dM_related0_30 (by decide) ?_
      exact sr_iret h dM_related0_60 hc_3.1 hc_3.2 vc
  · replace vc := vc'
    clear vc'
    exact st_out h (fun _ z => nomatch z) hc_3.1 hc_3.2 vc
theorem opM_related0 {l : Launch} {κ : sp_K} {mc ms : Nat} {Rt : Option Value → sp_M → Prop} {Xt : String → sp_M → Prop} {μ : sp_M} {a0 : Nat} {v1 : Int32} {v2 : Int32} (htr : l.stackTraces = false) (body : ∀ x : sp_X, x.2.1.stackTraces = false → cxM_related0 κ x mc ms → sp_w κ x (sp_F κ x Rt Xt mc ms) 0 0 0 [(0, .ref a0), (1, .int v1), (2, .int v2)] [] μ) : sp_m l κ yM_related0 wM_related0 7 110 mc ms [.ref a0, .int v1, .int v2] μ Rt Xt :=
  sp_open htr (by decide +kernel) rfl (Nat.le_of_ble_eq_true rfl) (by intro v hv; simp only [List.mem_cons, List.not_mem_nil, or_false] at hv; rcases hv with rfl | rfl | rfl <;> first | rfl | exact sp_c1o _) (fun x hx h => body x (by rw [hx]; exact htr) h)

abbrev cxM_apart (κ : sp_K) (x : sp_X) (mc ms : Nat) : Prop := sp_C κ x cM_apart 4 RM (some .int) (tableOf hhM_apart) "apart" (sp_rm 8 134 mc ms)
set_option maxRecDepth 100000 in
set_option maxHeartbeats 4000000 in
theorem bkM_apart_0 {κ : sp_K} {x : sp_X} {mc ms : Nat} {Rt : Option Value → sp_M → Prop} {Xt : String → sp_M → Prop} {μ : sp_M} {k n : Nat} {a0 : Nat} {v1 : Int32} {v2 : Int32} (h : cxM_apart κ x mc ms) (hk : k ≤ mc ∧ n ≤ ms)
    (vc : (∃ fs_1 : List Value, μ a0 = some (.inr (3, fs_1)) ∧ 13 < fs_1.length ∧ ∀ μ_3 : sp_M, μ_3 = va_up μ a0 (some (.inr (3, fs_1.set 13 (.int 0)))) → (∃ mc_5 ms_6 : Nat, (k + mc_5 ≤ mc ∧ n + ms_6 ≤ ms) ∧ ∃ fs_10 : List Value, μ_3 a0 = some (.inr (3, fs_10)) ∧ sp_m x.2.1 κ yM_apart0 wM_apart0 7 110 mc_5 ms_6 [.ref a0, .int v1, .int v2] μ_3 (fun v_8 μ_9 => ∃ v_13 : Int32, v_8 = some (.int v_13) ∧ Rt (some (.int v_13)) μ_9) (fun E_14 μ_9 => ((E_14 = "java/util/NoSuchElementException" ∧ ∀ q_15 : Nat, (∃ fs_16 : List Value, μ_9 a0 = some (.inr (3, fs_16)) ∧ 13 < fs_16.length ∧ ∀ μ_18 : sp_M, μ_18 = va_up μ_9 a0 (some (.inr (3, fs_16.set 13 (.int 1)))) → Rt (some (.int 0)) μ_18))))))) : sp_w κ x (sp_F κ x Rt Xt mc ms) k n 0 [(0, .ref a0), (1, .int v1), (2, .int v2)] [] μ := by
  refine sr_aload_n h dM_apart_0 rfl 0 rfl ?_
  refine sr_iconst (v := 0) h dM_apart_1 (by decide) ?_
  obtain ⟨fs_1, ho_2, vc⟩ := vc
  obtain ⟨hl_4, vc⟩ := vc
  replace vc := vc _ rfl
  refine sr_put h inM tyM tyM_ok nmM rfl 13 (by decide) kw_467 rfl dM_apart_2 ho_2 rfl rfl hl_4 ?_
  refine sr_aload_n h dM_apart_5 rfl 0 rfl ?_
  refine sr_iload_n h dM_apart_6 rfl 1 rfl ?_
  refine sr_iload_n h dM_apart_7 rfl 2 rfl ?_
  obtain ⟨mc_5, ms_6, hc_7, vc⟩ := vc
  obtain ⟨fs_10, ho_11, vc⟩ := vc
  refine sr_callV (y := yM_apart0) (n0 := 2) (As := [.int v1, .int v2]) h (sp_gV kw_611 kw_613 kw_27 kw_35 kw_614) rfl (by decide +kernel) ⟨Nat.le_of_ble_eq_true rfl, Nat.le_of_ble_eq_true rfl⟩ (ci := 3) rfl dM_apart_8 rfl rfl (Nat.le_of_ble_eq_true rfl) hc_7 ho_11 vc (fun v_8 μ_9 vc' => ?_) (fun E_14 μ_9 vc' => ?_)
  · replace vc := vc'
    clear vc'
    obtain ⟨v_13, rfl, vc⟩ := vc
    exact sr_iret h dM_apart_11 hc_7.1 hc_7.2 vc
  · replace vc := vc'
    clear vc'
    obtain ⟨rfl, vc⟩ := vc
    refine st_catch h [] ({ startPc := 5, endPc := 11, handlerPc := 12, catchType := 44 }) [] rfl (fun _ z => nomatch z) (by decide) (by decide) (name := "java/util/NoSuchElementException") kw_506 kt_131 (fun q_15 => ?_)
    replace vc := vc q_15
    refine sr_astore_n (lv' := [(0, .ref a0), (1, .int v1), (2, .int v2), (3, .ref q_15)]) h dM_apart_12 rfl (by decide) rfl ?_
    refine sr_aload_n h dM_apart_13 rfl 0 rfl ?_
    refine sr_iconst (v := 1) h dM_apart_14 (by decide) ?_
    obtain ⟨fs_16, ho_17, vc⟩ := vc
    obtain ⟨hl_19, vc⟩ := vc
    replace vc := vc _ rfl
    refine sr_put h inM tyM tyM_ok nmM rfl 13 (by decide) kw_467 rfl dM_apart_15 ho_17 rfl rfl hl_19 ?_
    refine sr_iconst (v := 0) h dM_apart_18 (by decide) ?_
    exact sr_iret h dM_apart_19 hc_7.1 hc_7.2 vc
theorem opM_apart {l : Launch} {κ : sp_K} {mc ms : Nat} {Rt : Option Value → sp_M → Prop} {Xt : String → sp_M → Prop} {μ : sp_M} {a0 : Nat} {v1 : Int32} {v2 : Int32} (htr : l.stackTraces = false) (body : ∀ x : sp_X, x.2.1.stackTraces = false → cxM_apart κ x mc ms → sp_w κ x (sp_F κ x Rt Xt mc ms) 0 0 0 [(0, .ref a0), (1, .int v1), (2, .int v2)] [] μ) : sp_m l κ yM_apart wM_apart 8 134 mc ms [.ref a0, .int v1, .int v2] μ Rt Xt :=
  sp_openH htr (by decide +kernel) rfl (Nat.le_of_ble_eq_true rfl) (by intro v hv; simp only [List.mem_cons, List.not_mem_nil, or_false] at hv; rcases hv with rfl | rfl | rfl <;> first | rfl | exact sp_c1o _) (fun x hx h => body x (by rw [hx]; exact htr) h)

abbrev cxM_apart0 (κ : sp_K) (x : sp_X) (mc ms : Nat) : Prop := sp_C κ x cM_apart0 5 RM (some .int) [] "apart0" (sp_rm 7 110 mc ms)
set_option maxRecDepth 100000 in
set_option maxHeartbeats 4000000 in
theorem bkM_apart0_0 {κ : sp_K} {x : sp_X} {mc ms : Nat} {Rt : Option Value → sp_M → Prop} {Xt : String → sp_M → Prop} {μ : sp_M} {k n : Nat} {a0 : Nat} {v1 : Int32} {v2 : Int32} (h : cxM_apart0 κ x mc ms) (hk : k ≤ mc ∧ n ≤ ms)
    (vc : (∃ mc_1 ms_2 : Nat, (k + mc_1 ≤ mc ∧ n + ms_2 ≤ ms) ∧ ∃ fs_6 : List Value, μ a0 = some (.inr (3, fs_6)) ∧ sp_m x.2.1 κ yM_isPlace wM_isPlace 0 0 mc_1 ms_2 [.ref a0, .int v1] μ (fun v_4 μ_5 => ∃ v_9 : Int32, v_4 = some (.int v_9) ∧ ((v_9 = 0 → (∃ mc_10 ms_11 : Nat, ((k + mc_1) + mc_10 ≤ mc ∧ (n + ms_2) + ms_11 ≤ ms) ∧ sp_m x.2.1 κ yM_there wM_there 6 90 mc_10 ms_11 [.int 0] μ_5 (fun v_13 μ_14 => v_13 = none ∧ sp_w κ x (sp_F κ x Rt Xt mc ms) (k + mc_1 + mc_10) (n + ms_2 + ms_11) 29 [(0, .ref a0), (1, .int v1), (2, .int v2), (3, .int 0), (4, .int 0)] [] μ_14) (fun E_16 μ_14 => Xt E_16 μ_14))) ∧ (¬ v_9 = 0 → (∃ mc_17 ms_18 : Nat, ((k + mc_1) + mc_17 ≤ mc ∧ (n + ms_2) + ms_18 ≤ ms) ∧ ∃ fs_22 : List Value, μ_5 a0 = some (.inr (3, fs_22)) ∧ sp_m x.2.1 κ yM_isPlace wM_isPlace 0 0 mc_17 ms_18 [.ref a0, .int v2] μ_5 (fun v_20 μ_21 => ∃ v_25 : Int32, v_20 = some (.int v_25) ∧ ((v_25 = 0 → (∃ mc_26 ms_27 : Nat, ((k + mc_1 + mc_17) + mc_26 ≤ mc ∧ (n + ms_2 + ms_18) + ms_27 ≤ ms) ∧ sp_m x.2.1 κ yM_there wM_there 6 90 mc_26 ms_27 [.int 0] μ_21 (fun v_29 μ_30 => v_29 = none ∧ sp_w κ x (sp_F κ x Rt Xt mc ms) (k + mc_1 + mc_17 + mc_26) (n + ms_2 + ms_18 + ms_27) 29 [(0, .ref a0), (1, .int v1), (2, .int v2), (3, .int 0), (4, .int 0)] [] μ_30) (fun E_32 μ_30 => Xt E_32 μ_30))) ∧ (¬ v_25 = 0 → (∃ mc_33 ms_34 : Nat, ((k + mc_1 + mc_17) + mc_33 ≤ mc ∧ (n + ms_2 + ms_18) + ms_34 ≤ ms) ∧ sp_m x.2.1 κ yM_there wM_there 6 90 mc_33 ms_34 [.int 1] μ_21 (fun v_36 μ_37 => v_36 = none ∧ sp_w κ x (sp_F κ x Rt Xt mc ms) (k + mc_1 + mc_17 + mc_33) (n + ms_2 + ms_18 + ms_34) 29 [(0, .ref a0), (1, .int v1), (2, .int v2), (3, .int 0), (4, .int 0)] [] μ_37) (fun E_39 μ_37 => Xt E_39 μ_37))))) (fun E_41 μ_21 => Xt E_41 μ_21))))) (fun E_43 μ_5 => Xt E_43 μ_5))) : sp_w κ x (sp_F κ x Rt Xt mc ms) k n 0 [(0, .ref a0), (1, .int v1), (2, .int v2)] [] μ := by
  refine sr_aload_n h dM_apart0_0 rfl 0 rfl ?_
  refine sr_iload_n h dM_apart0_1 rfl 1 rfl ?_
  obtain ⟨mc_1, ms_2, hc_3, vc⟩ := vc
  obtain ⟨fs_6, ho_7, vc⟩ := vc
  refine sr_callV (y := yM_isPlace) (n0 := 1) (As := [.int v1]) h (sp_gV kw_586 kw_588 kw_24 kw_35 kw_589) rfl (by decide +kernel) ⟨Nat.le_of_ble_eq_true rfl, Nat.le_of_ble_eq_true rfl⟩ (ci := 3) rfl dM_apart0_2 rfl rfl (Nat.le_of_ble_eq_true rfl) hc_3 ho_7 vc (fun v_4 μ_5 vc' => ?_) (fun E_43 μ_5 vc' => ?_)
  · replace vc := vc'
    clear vc'
    obtain ⟨v_9, rfl, vc⟩ := vc
    refine sr_if_eq (tgt := 20) h dM_apart0_5 (by decide) (fun c_42 => ?_) (fun c_42 => ?_)
    · replace vc := vc.1 c_42
      refine sr_iconst (v := 0) h dM_apart0_20 (by decide) ?_
      obtain ⟨mc_10, ms_11, hc_12, vc⟩ := vc
      refine sr_callS (y := yM_there) (n0 := 1) (As := [.int 0]) (st := []) h (sp_gS kw_521 kw_522 kw_35 kw_523) rfl (by decide +kernel) ⟨Nat.le_of_ble_eq_true rfl, Nat.le_of_ble_eq_true rfl⟩ dM_apart0_21 rfl rfl (Nat.le_of_ble_eq_true rfl) hc_12 vc (fun v_13 μ_14 vc' => ?_) (fun E_16 μ_14 vc' => ?_)
      · replace vc := vc'
        clear vc'
        obtain ⟨rfl, vc⟩ := vc
        refine sr_iconst (v := 0) h dM_apart0_24 (by decide) ?_
        refine sr_istore_n (lv' := [(0, .ref a0), (1, .int v1), (2, .int v2), (3, .int 0)]) h dM_apart0_25 rfl (by decide) rfl ?_
        refine sr_iconst (v := 0) h dM_apart0_26 (by decide) ?_
        refine sr_istore (lv' := [(0, .ref a0), (1, .int v1), (2, .int v2), (3, .int 0), (4, .int 0)]) h dM_apart0_27 (by decide) rfl ?_
        exact vc
      · replace vc := vc'
        clear vc'
        exact st_out h (fun _ z => nomatch z) hc_12.1 hc_12.2 vc
    · replace vc := vc.2 c_42
      refine sr_aload_n h dM_apart0_8 rfl 0 rfl ?_
      refine sr_iload_n h dM_apart0_9 rfl 2 rfl ?_
      obtain ⟨mc_17, ms_18, hc_19, vc⟩ := vc
      obtain ⟨fs_22, ho_23, vc⟩ := vc
      refine sr_callV (y := yM_isPlace) (n0 := 1) (As := [.int v2]) h (sp_gV kw_586 kw_588 kw_24 kw_35 kw_589) rfl (by decide +kernel) ⟨Nat.le_of_ble_eq_true rfl, Nat.le_of_ble_eq_true rfl⟩ (ci := 3) rfl dM_apart0_10 rfl rfl (Nat.le_of_ble_eq_true rfl) hc_19 ho_23 vc (fun v_20 μ_21 vc' => ?_) (fun E_41 μ_21 vc' => ?_)
      · replace vc := vc'
        clear vc'
        obtain ⟨v_25, rfl, vc⟩ := vc
        refine sr_if_eq (tgt := 20) h dM_apart0_13 (by decide) (fun c_40 => ?_) (fun c_40 => ?_)
        · replace vc := vc.1 c_40
          refine sr_iconst (v := 0) h dM_apart0_20 (by decide) ?_
          obtain ⟨mc_26, ms_27, hc_28, vc⟩ := vc
          refine sr_callS (y := yM_there) (n0 := 1) (As := [.int 0]) (st := []) h (sp_gS kw_521 kw_522 kw_35 kw_523) rfl (by decide +kernel) ⟨Nat.le_of_ble_eq_true rfl, Nat.le_of_ble_eq_true rfl⟩ dM_apart0_21 rfl rfl (Nat.le_of_ble_eq_true rfl) hc_28 vc (fun v_29 μ_30 vc' => ?_) (fun E_32 μ_30 vc' => ?_)
          · replace vc := vc'
            clear vc'
            obtain ⟨rfl, vc⟩ := vc
            refine sr_iconst (v := 0) h dM_apart0_24 (by decide) ?_
            refine sr_istore_n (lv' := [(0, .ref a0), (1, .int v1), (2, .int v2), (3, .int 0)]) h dM_apart0_25 rfl (by decide) rfl ?_
            refine sr_iconst (v := 0) h dM_apart0_26 (by decide) ?_
            refine sr_istore (lv' := [(0, .ref a0), (1, .int v1), (2, .int v2), (3, .int 0), (4, .int 0)]) h dM_apart0_27 (by decide) rfl ?_
            exact vc
          · replace vc := vc'
            clear vc'
            exact st_out h (fun _ z => nomatch z) hc_28.1 hc_28.2 vc
        · replace vc := vc.2 c_40
          refine sr_iconst (v := 1) h dM_apart0_16 (by decide) ?_
          refine sr_goto (tgt := 21) h dM_apart0_17 (by decide) ?_
          obtain ⟨mc_33, ms_34, hc_35, vc⟩ := vc
          refine sr_callS (y := yM_there) (n0 := 1) (As := [.int 1]) (st := []) h (sp_gS kw_521 kw_522 kw_35 kw_523) rfl (by decide +kernel) ⟨Nat.le_of_ble_eq_true rfl, Nat.le_of_ble_eq_true rfl⟩ dM_apart0_21 rfl rfl (Nat.le_of_ble_eq_true rfl) hc_35 vc (fun v_36 μ_37 vc' => ?_) (fun E_39 μ_37 vc' => ?_)
          · replace vc := vc'
            clear vc'
            obtain ⟨rfl, vc⟩ := vc
            refine sr_iconst (v := 0) h dM_apart0_24 (by decide) ?_
            refine sr_istore_n (lv' := [(0, .ref a0), (1, .int v1), (2, .int v2), (3, .int 0)]) h dM_apart0_25 rfl (by decide) rfl ?_
            refine sr_iconst (v := 0) h dM_apart0_26 (by decide) ?_
            refine sr_istore (lv' := [(0, .ref a0), (1, .int v1), (2, .int v2), (3, .int 0), (4, .int 0)]) h dM_apart0_27 (by decide) rfl ?_
            exact vc
          · replace vc := vc'
            clear vc'
            exact st_out h (fun _ z => nomatch z) hc_35.1 hc_35.2 vc
      · replace vc := vc'
        clear vc'
        exact st_out h (fun _ z => nomatch z) hc_19.1 hc_19.2 vc
  · replace vc := vc'
    clear vc'
    exact st_out h (fun _ z => nomatch z) hc_3.1 hc_3.2 vc
set_option maxRecDepth 100000 in
set_option maxHeartbeats 4000000 in
theorem bkM_apart0_29 {κ : sp_K} {x : sp_X} {mc ms : Nat} {Rt : Option Value → sp_M → Prop} {Xt : String → sp_M → Prop} {μ : sp_M} {k n : Nat} {a0 : Nat} {v1 : Int32} {v2 : Int32} {v3 : Int32} {v4 : Int32} (h : cxM_apart0 κ x mc ms) (hk : k ≤ mc ∧ n ≤ ms)
    (vc : ((v1 < v4 → Rt (some (.int v3)) μ) ∧ (¬ v1 < v4 → (∃ mc_1 ms_2 : Nat, (k + mc_1 ≤ mc ∧ n + ms_2 ≤ ms) ∧ ∃ fs_6 : List Value, μ a0 = some (.inr (3, fs_6)) ∧ sp_m x.2.1 κ yM_isIn wM_isIn 0 0 mc_1 ms_2 [.ref a0, .int v4, .int v1] μ (fun v_4 μ_5 => ∃ v_9 : Int32, v_4 = some (.int v_9) ∧ ((v_9 = 0 → sp_w κ x (sp_F κ x Rt Xt mc ms) (k + mc_1) (n + ms_2) 29 [(0, .ref a0), (1, .int v1), (2, .int v2), (3, .int v3), (4, .int (v4 + 1))] [] μ_5) ∧ (¬ v_9 = 0 → (∃ mc_10 ms_11 : Nat, ((k + mc_1) + mc_10 ≤ mc ∧ (n + ms_2) + ms_11 ≤ ms) ∧ ∃ fs_15 : List Value, μ_5 a0 = some (.inr (3, fs_15)) ∧ sp_m x.2.1 κ yM_isIn wM_isIn 0 0 mc_10 ms_11 [.ref a0, .int v4, .int v2] μ_5 (fun v_13 μ_14 => ∃ v_18 : Int32, v_13 = some (.int v_18) ∧ ((¬ v_18 = 0 → sp_w κ x (sp_F κ x Rt Xt mc ms) (k + mc_1 + mc_10) (n + ms_2 + ms_11) 29 [(0, .ref a0), (1, .int v1), (2, .int v2), (3, .int v3), (4, .int (v4 + 1))] [] μ_14) ∧ (v_18 = 0 → sp_w κ x (sp_F κ x Rt Xt mc ms) (k + mc_1 + mc_10) (n + ms_2 + ms_11) 29 [(0, .ref a0), (1, .int v1), (2, .int v2), (3, .int (v3 + 1)), (4, .int (v4 + 1))] [] μ_14))) (fun E_20 μ_14 => Xt E_20 μ_14))))) (fun E_22 μ_5 => Xt E_22 μ_5))))) : sp_w κ x (sp_F κ x Rt Xt mc ms) k n 29 [(0, .ref a0), (1, .int v1), (2, .int v2), (3, .int v3), (4, .int v4)] [] μ := by
  refine sr_iload h dM_apart0_29 4 rfl ?_
  refine sr_iload_n h dM_apart0_31 rfl 1 rfl ?_
  refine sr_icmp_gt (tgt := 64) h dM_apart0_32 (by decide) (fun c_23 => ?_) (fun c_23 => ?_)
  · replace vc := vc.1 c_23
    refine sr_iload_n h dM_apart0_64 rfl 3 rfl ?_
    exact sr_iret h dM_apart0_65 hk.1 hk.2 vc
  · replace vc := vc.2 c_23
    refine sr_aload_n h dM_apart0_35 rfl 0 rfl ?_
    refine sr_iload h dM_apart0_36 4 rfl ?_
    refine sr_iload_n h dM_apart0_38 rfl 1 rfl ?_
    obtain ⟨mc_1, ms_2, hc_3, vc⟩ := vc
    obtain ⟨fs_6, ho_7, vc⟩ := vc
    refine sr_callV (y := yM_isIn) (n0 := 2) (As := [.int v4, .int v1]) h (sp_gV kw_543 kw_545 kw_18 kw_35 kw_546) rfl (by decide +kernel) ⟨Nat.le_of_ble_eq_true rfl, Nat.le_of_ble_eq_true rfl⟩ (ci := 3) rfl dM_apart0_39 rfl rfl (Nat.le_of_ble_eq_true rfl) hc_3 ho_7 vc (fun v_4 μ_5 vc' => ?_) (fun E_22 μ_5 vc' => ?_)
    · replace vc := vc'
      clear vc'
      obtain ⟨v_9, rfl, vc⟩ := vc
      refine sr_if_eq (tgt := 58) h dM_apart0_42 (by decide) (fun c_21 => ?_) (fun c_21 => ?_)
      · replace vc := vc.1 c_21
        refine sr_iinc (u := v4 + 1) (lv' := [(0, .ref a0), (1, .int v1), (2, .int v2), (3, .int v3), (4, .int (v4 + 1))]) h dM_apart0_58 4 rfl rfl (by decide) rfl ?_
        refine sr_goto (tgt := 29) h dM_apart0_61 (by decide) ?_
        exact vc
      · replace vc := vc.2 c_21
        refine sr_aload_n h dM_apart0_45 rfl 0 rfl ?_
        refine sr_iload h dM_apart0_46 4 rfl ?_
        refine sr_iload_n h dM_apart0_48 rfl 2 rfl ?_
        obtain ⟨mc_10, ms_11, hc_12, vc⟩ := vc
        obtain ⟨fs_15, ho_16, vc⟩ := vc
        refine sr_callV (y := yM_isIn) (n0 := 2) (As := [.int v4, .int v2]) h (sp_gV kw_543 kw_545 kw_18 kw_35 kw_546) rfl (by decide +kernel) ⟨Nat.le_of_ble_eq_true rfl, Nat.le_of_ble_eq_true rfl⟩ (ci := 3) rfl dM_apart0_49 rfl rfl (Nat.le_of_ble_eq_true rfl) hc_12 ho_16 vc (fun v_13 μ_14 vc' => ?_) (fun E_20 μ_14 vc' => ?_)
        · replace vc := vc'
          clear vc'
          obtain ⟨v_18, rfl, vc⟩ := vc
          refine sr_if_ne (tgt := 58) h dM_apart0_52 (by decide) (fun c_19 => ?_) (fun c_19 => ?_)
          · replace vc := vc.1 c_19
            refine sr_iinc (u := v4 + 1) (lv' := [(0, .ref a0), (1, .int v1), (2, .int v2), (3, .int v3), (4, .int (v4 + 1))]) h dM_apart0_58 4 rfl rfl (by decide) rfl ?_
            refine sr_goto (tgt := 29) h dM_apart0_61 (by decide) ?_
            exact vc
          · replace vc := vc.2 c_19
            refine sr_iinc (u := v3 + 1) (lv' := [(0, .ref a0), (1, .int v1), (2, .int v2), (3, .int (v3 + 1)), (4, .int v4)]) h dM_apart0_55 3 rfl rfl (by decide) rfl ?_
            refine sr_iinc (u := v4 + 1) (lv' := [(0, .ref a0), (1, .int v1), (2, .int v2), (3, .int (v3 + 1)), (4, .int (v4 + 1))]) h dM_apart0_58 4 rfl rfl (by decide) rfl ?_
            refine sr_goto (tgt := 29) h dM_apart0_61 (by decide) ?_
            exact vc
        · replace vc := vc'
          clear vc'
          exact st_out h (fun _ z => nomatch z) hc_12.1 hc_12.2 vc
    · replace vc := vc'
      clear vc'
      exact st_out h (fun _ z => nomatch z) hc_3.1 hc_3.2 vc
theorem opM_apart0 {l : Launch} {κ : sp_K} {mc ms : Nat} {Rt : Option Value → sp_M → Prop} {Xt : String → sp_M → Prop} {μ : sp_M} {a0 : Nat} {v1 : Int32} {v2 : Int32} (htr : l.stackTraces = false) (body : ∀ x : sp_X, x.2.1.stackTraces = false → cxM_apart0 κ x mc ms → sp_w κ x (sp_F κ x Rt Xt mc ms) 0 0 0 [(0, .ref a0), (1, .int v1), (2, .int v2)] [] μ) : sp_m l κ yM_apart0 wM_apart0 7 110 mc ms [.ref a0, .int v1, .int v2] μ Rt Xt :=
  sp_open htr (by decide +kernel) rfl (Nat.le_of_ble_eq_true rfl) (by intro v hv; simp only [List.mem_cons, List.not_mem_nil, or_false] at hv; rcases hv with rfl | rfl | rfl <;> first | rfl | exact sp_c1o _) (fun x hx h => body x (by rw [hx]; exact htr) h)

abbrev cxM_latest (κ : sp_K) (x : sp_X) (mc ms : Nat) : Prop := sp_C κ x cM_latest 5 RM (some .int) (tableOf hhM_latest) "latest" (sp_rm 8 134 mc ms)
set_option maxRecDepth 100000 in
set_option maxHeartbeats 4000000 in
theorem bkM_latest_0 {κ : sp_K} {x : sp_X} {mc ms : Nat} {Rt : Option Value → sp_M → Prop} {Xt : String → sp_M → Prop} {μ : sp_M} {k n : Nat} {a0 : Nat} {v1 : Int32} {v2 : Int32} {v3 : Int32} (h : cxM_latest κ x mc ms) (hk : k ≤ mc ∧ n ≤ ms)
    (vc : (∃ fs_1 : List Value, μ a0 = some (.inr (3, fs_1)) ∧ 13 < fs_1.length ∧ ∀ μ_3 : sp_M, μ_3 = va_up μ a0 (some (.inr (3, fs_1.set 13 (.int 0)))) → (∃ mc_5 ms_6 : Nat, (k + mc_5 ≤ mc ∧ n + ms_6 ≤ ms) ∧ ∃ fs_10 : List Value, μ_3 a0 = some (.inr (3, fs_10)) ∧ sp_m x.2.1 κ yM_latest0 wM_latest0 7 110 mc_5 ms_6 [.ref a0, .int v1, .int v2, .int v3] μ_3 (fun v_8 μ_9 => ∃ v_13 : Int32, v_8 = some (.int v_13) ∧ Rt (some (.int v_13)) μ_9) (fun E_14 μ_9 => ((E_14 = "java/util/NoSuchElementException" ∧ ∀ q_15 : Nat, (∃ fs_16 : List Value, μ_9 a0 = some (.inr (3, fs_16)) ∧ 13 < fs_16.length ∧ ∀ μ_18 : sp_M, μ_18 = va_up μ_9 a0 (some (.inr (3, fs_16.set 13 (.int 1)))) → Rt (some (.int 0)) μ_18))))))) : sp_w κ x (sp_F κ x Rt Xt mc ms) k n 0 [(0, .ref a0), (1, .int v1), (2, .int v2), (3, .int v3)] [] μ := by
  refine sr_aload_n h dM_latest_0 rfl 0 rfl ?_
  refine sr_iconst (v := 0) h dM_latest_1 (by decide) ?_
  obtain ⟨fs_1, ho_2, vc⟩ := vc
  obtain ⟨hl_4, vc⟩ := vc
  replace vc := vc _ rfl
  refine sr_put h inM tyM tyM_ok nmM rfl 13 (by decide) kw_467 rfl dM_latest_2 ho_2 rfl rfl hl_4 ?_
  refine sr_aload_n h dM_latest_5 rfl 0 rfl ?_
  refine sr_iload_n h dM_latest_6 rfl 1 rfl ?_
  refine sr_iload_n h dM_latest_7 rfl 2 rfl ?_
  refine sr_iload_n h dM_latest_8 rfl 3 rfl ?_
  obtain ⟨mc_5, ms_6, hc_7, vc⟩ := vc
  obtain ⟨fs_10, ho_11, vc⟩ := vc
  refine sr_callV (y := yM_latest0) (n0 := 3) (As := [.int v1, .int v2, .int v3]) h (sp_gV kw_619 kw_621 kw_28 kw_35 kw_622) rfl (by decide +kernel) ⟨Nat.le_of_ble_eq_true rfl, Nat.le_of_ble_eq_true rfl⟩ (ci := 3) rfl dM_latest_9 rfl rfl (Nat.le_of_ble_eq_true rfl) hc_7 ho_11 vc (fun v_8 μ_9 vc' => ?_) (fun E_14 μ_9 vc' => ?_)
  · replace vc := vc'
    clear vc'
    obtain ⟨v_13, rfl, vc⟩ := vc
    exact sr_iret h dM_latest_12 hc_7.1 hc_7.2 vc
  · replace vc := vc'
    clear vc'
    obtain ⟨rfl, vc⟩ := vc
    refine st_catch h [] ({ startPc := 5, endPc := 12, handlerPc := 13, catchType := 44 }) [] rfl (fun _ z => nomatch z) (by decide) (by decide) (name := "java/util/NoSuchElementException") kw_506 kt_131 (fun q_15 => ?_)
    replace vc := vc q_15
    refine sr_astore (lv' := [(0, .ref a0), (1, .int v1), (2, .int v2), (3, .int v3), (4, .ref q_15)]) h dM_latest_13 (by decide) rfl ?_
    refine sr_aload_n h dM_latest_15 rfl 0 rfl ?_
    refine sr_iconst (v := 1) h dM_latest_16 (by decide) ?_
    obtain ⟨fs_16, ho_17, vc⟩ := vc
    obtain ⟨hl_19, vc⟩ := vc
    replace vc := vc _ rfl
    refine sr_put h inM tyM tyM_ok nmM rfl 13 (by decide) kw_467 rfl dM_latest_17 ho_17 rfl rfl hl_19 ?_
    refine sr_iconst (v := 0) h dM_latest_20 (by decide) ?_
    exact sr_iret h dM_latest_21 hc_7.1 hc_7.2 vc
theorem opM_latest {l : Launch} {κ : sp_K} {mc ms : Nat} {Rt : Option Value → sp_M → Prop} {Xt : String → sp_M → Prop} {μ : sp_M} {a0 : Nat} {v1 : Int32} {v2 : Int32} {v3 : Int32} (htr : l.stackTraces = false) (body : ∀ x : sp_X, x.2.1.stackTraces = false → cxM_latest κ x mc ms → sp_w κ x (sp_F κ x Rt Xt mc ms) 0 0 0 [(0, .ref a0), (1, .int v1), (2, .int v2), (3, .int v3)] [] μ) : sp_m l κ yM_latest wM_latest 8 134 mc ms [.ref a0, .int v1, .int v2, .int v3] μ Rt Xt :=
  sp_openH htr (by decide +kernel) rfl (Nat.le_of_ble_eq_true rfl) (by intro v hv; simp only [List.mem_cons, List.not_mem_nil, or_false] at hv; rcases hv with rfl | rfl | rfl | rfl <;> first | rfl | exact sp_c1o _) (fun x hx h => body x (by rw [hx]; exact htr) h)

abbrev cxM_latest0 (κ : sp_K) (x : sp_X) (mc ms : Nat) : Prop := sp_C κ x cM_latest0 5 RM (some .int) [] "latest0" (sp_rm 7 110 mc ms)
set_option maxRecDepth 100000 in
set_option maxHeartbeats 4000000 in
theorem bkM_latest0_0 {κ : sp_K} {x : sp_X} {mc ms : Nat} {Rt : Option Value → sp_M → Prop} {Xt : String → sp_M → Prop} {μ : sp_M} {k n : Nat} {a0 : Nat} {v1 : Int32} {v2 : Int32} {v3 : Int32} (h : cxM_latest0 κ x mc ms) (hk : k ≤ mc ∧ n ≤ ms)
    (vc : (∃ mc_1 ms_2 : Nat, (k + mc_1 ≤ mc ∧ n + ms_2 ≤ ms) ∧ ∃ fs_6 : List Value, μ a0 = some (.inr (3, fs_6)) ∧ sp_m x.2.1 κ yM_isPlace wM_isPlace 0 0 mc_1 ms_2 [.ref a0, .int v1] μ (fun v_4 μ_5 => ∃ v_9 : Int32, v_4 = some (.int v_9) ∧ ((v_9 = 0 → sp_w κ x (sp_F κ x Rt Xt mc ms) (k + mc_1) (n + ms_2) 20 [(0, .ref a0), (1, .int v1), (2, .int v2), (3, .int v3)] [] μ_5) ∧ (¬ v_9 = 0 → (∃ mc_10 ms_11 : Nat, ((k + mc_1) + mc_10 ≤ mc ∧ (n + ms_2) + ms_11 ≤ ms) ∧ ∃ fs_15 : List Value, μ_5 a0 = some (.inr (3, fs_15)) ∧ sp_m x.2.1 κ yM_isPlace wM_isPlace 0 0 mc_10 ms_11 [.ref a0, .int v2] μ_5 (fun v_13 μ_14 => ∃ v_18 : Int32, v_13 = some (.int v_18) ∧ ((v_18 = 0 → sp_w κ x (sp_F κ x Rt Xt mc ms) (k + mc_1 + mc_10) (n + ms_2 + ms_11) 20 [(0, .ref a0), (1, .int v1), (2, .int v2), (3, .int v3)] [] μ_14) ∧ (¬ v_18 = 0 → sp_w κ x (sp_F κ x Rt Xt mc ms) (k + mc_1 + mc_10) (n + ms_2 + ms_11) 21 [(0, .ref a0), (1, .int v1), (2, .int v2), (3, .int v3)] [.int 1] μ_14))) (fun E_20 μ_14 => Xt E_20 μ_14))))) (fun E_22 μ_5 => Xt E_22 μ_5))) : sp_w κ x (sp_F κ x Rt Xt mc ms) k n 0 [(0, .ref a0), (1, .int v1), (2, .int v2), (3, .int v3)] [] μ := by
  refine sr_aload_n h dM_latest0_0 rfl 0 rfl ?_
  refine sr_iload_n h dM_latest0_1 rfl 1 rfl ?_
  obtain ⟨mc_1, ms_2, hc_3, vc⟩ := vc
  obtain ⟨fs_6, ho_7, vc⟩ := vc
  refine sr_callV (y := yM_isPlace) (n0 := 1) (As := [.int v1]) h (sp_gV kw_586 kw_588 kw_24 kw_35 kw_589) rfl (by decide +kernel) ⟨Nat.le_of_ble_eq_true rfl, Nat.le_of_ble_eq_true rfl⟩ (ci := 3) rfl dM_latest0_2 rfl rfl (Nat.le_of_ble_eq_true rfl) hc_3 ho_7 vc (fun v_4 μ_5 vc' => ?_) (fun E_22 μ_5 vc' => ?_)
  · replace vc := vc'
    clear vc'
    obtain ⟨v_9, rfl, vc⟩ := vc
    refine sr_if_eq (tgt := 20) h dM_latest0_5 (by decide) (fun c_21 => ?_) (fun c_21 => ?_)
    · replace vc := vc.1 c_21
      exact vc
    · replace vc := vc.2 c_21
      refine sr_aload_n h dM_latest0_8 rfl 0 rfl ?_
      refine sr_iload_n h dM_latest0_9 rfl 2 rfl ?_
      obtain ⟨mc_10, ms_11, hc_12, vc⟩ := vc
      obtain ⟨fs_15, ho_16, vc⟩ := vc
      refine sr_callV (y := yM_isPlace) (n0 := 1) (As := [.int v2]) h (sp_gV kw_586 kw_588 kw_24 kw_35 kw_589) rfl (by decide +kernel) ⟨Nat.le_of_ble_eq_true rfl, Nat.le_of_ble_eq_true rfl⟩ (ci := 3) rfl dM_latest0_10 rfl rfl (Nat.le_of_ble_eq_true rfl) hc_12 ho_16 vc (fun v_13 μ_14 vc' => ?_) (fun E_20 μ_14 vc' => ?_)
      · replace vc := vc'
        clear vc'
        obtain ⟨v_18, rfl, vc⟩ := vc
        refine sr_if_eq (tgt := 20) h dM_latest0_13 (by decide) (fun c_19 => ?_) (fun c_19 => ?_)
        · replace vc := vc.1 c_19
          exact vc
        · replace vc := vc.2 c_19
          refine sr_iconst (v := 1) h dM_latest0_16 (by decide) ?_
          refine sr_goto (tgt := 21) h dM_latest0_17 (by decide) ?_
          exact vc
      · replace vc := vc'
        clear vc'
        exact st_out h (fun _ z => nomatch z) hc_12.1 hc_12.2 vc
  · replace vc := vc'
    clear vc'
    exact st_out h (fun _ z => nomatch z) hc_3.1 hc_3.2 vc
set_option maxRecDepth 100000 in
set_option maxHeartbeats 4000000 in
theorem bkM_latest0_20 {κ : sp_K} {x : sp_X} {mc ms : Nat} {Rt : Option Value → sp_M → Prop} {Xt : String → sp_M → Prop} {μ : sp_M} {k n : Nat} {a0 : Nat} {v1 : Int32} {v2 : Int32} {v3 : Int32} (h : cxM_latest0 κ x mc ms) (hk : k ≤ mc ∧ n ≤ ms)
    (vc : sp_w κ x (sp_F κ x Rt Xt mc ms) k n 21 [(0, .ref a0), (1, .int v1), (2, .int v2), (3, .int v3)] [.int 0] μ) : sp_w κ x (sp_F κ x Rt Xt mc ms) k n 20 [(0, .ref a0), (1, .int v1), (2, .int v2), (3, .int v3)] [] μ := by
  refine sr_iconst (v := 0) h dM_latest0_20 (by decide) ?_
  exact vc
set_option maxRecDepth 100000 in
set_option maxHeartbeats 4000000 in
theorem bkM_latest0_21 {κ : sp_K} {x : sp_X} {mc ms : Nat} {Rt : Option Value → sp_M → Prop} {Xt : String → sp_M → Prop} {μ : sp_M} {k n : Nat} {a0 : Nat} {v1 : Int32} {v2 : Int32} {v3 : Int32} {vs0 : Int32} (h : cxM_latest0 κ x mc ms) (hk : k ≤ mc ∧ n ≤ ms)
    (vc : (∃ mc_1 ms_2 : Nat, (k + mc_1 ≤ mc ∧ n + ms_2 ≤ ms) ∧ sp_m x.2.1 κ yM_there wM_there 6 90 mc_1 ms_2 [.int vs0] μ (fun v_4 μ_5 => v_4 = none ∧ ((v3 ≤ v1 → sp_w κ x (sp_F κ x Rt Xt mc ms) (k + mc_1) (n + ms_2) 42 [(0, .ref a0), (1, .int v1), (2, .int v2), (3, .int v3), (4, .int ((if v3 < 0 then 0 else v3) - 1))] [] μ_5) ∧ (¬ v3 ≤ v1 → sp_w κ x (sp_F κ x Rt Xt mc ms) (k + mc_1) (n + ms_2) 42 [(0, .ref a0), (1, .int v1), (2, .int v2), (3, .int v3), (4, .int v1)] [] μ_5))) (fun E_8 μ_5 => Xt E_8 μ_5))) : sp_w κ x (sp_F κ x Rt Xt mc ms) k n 21 [(0, .ref a0), (1, .int v1), (2, .int v2), (3, .int v3)] [.int vs0] μ := by
  obtain ⟨mc_1, ms_2, hc_3, vc⟩ := vc
  refine sr_callS (y := yM_there) (n0 := 1) (As := [.int vs0]) (st := []) h (sp_gS kw_521 kw_522 kw_35 kw_523) rfl (by decide +kernel) ⟨Nat.le_of_ble_eq_true rfl, Nat.le_of_ble_eq_true rfl⟩ dM_latest0_21 rfl rfl (Nat.le_of_ble_eq_true rfl) hc_3 vc (fun v_4 μ_5 vc' => ?_) (fun E_8 μ_5 vc' => ?_)
  · replace vc := vc'
    clear vc'
    obtain ⟨rfl, vc⟩ := vc
    refine sr_iload_n h dM_latest0_24 rfl 1 rfl ?_
    refine sr_iload_n h dM_latest0_25 rfl 3 rfl ?_
    refine sr_icmp_ge (tgt := 33) h dM_latest0_26 (by decide) (fun c_7 => ?_) (fun c_7 => ?_)
    · replace vc := vc.1 c_7
      refine sr_iload_n h dM_latest0_33 rfl 3 rfl ?_
      refine sr_iconst (v := 0) h dM_latest0_34 (by decide) ?_
      refine sr_mmax h kw_623 kw_110 kw_44 kw_mmax dM_latest0_35 (Nat.le_of_ble_eq_true rfl) (Nat.le_of_ble_eq_true rfl) hc_3.1 hc_3.2 ?_
      refine sr_iconst (v := 1) h dM_latest0_38 (by decide) ?_
      refine sr_isub h dM_latest0_39 ?_
      refine sr_istore (lv' := [(0, .ref a0), (1, .int v1), (2, .int v2), (3, .int v3), (4, .int ((if v3 < 0 then 0 else v3) - 1))]) h dM_latest0_40 (by decide) rfl ?_
      exact vc
    · replace vc := vc.2 c_7
      refine sr_iload_n h dM_latest0_29 rfl 1 rfl ?_
      refine sr_goto (tgt := 40) h dM_latest0_30 (by decide) ?_
      refine sr_istore (lv' := [(0, .ref a0), (1, .int v1), (2, .int v2), (3, .int v3), (4, .int v1)]) h dM_latest0_40 (by decide) rfl ?_
      exact vc
  · replace vc := vc'
    clear vc'
    exact st_out h (fun _ z => nomatch z) hc_3.1 hc_3.2 vc
set_option maxRecDepth 100000 in
set_option maxHeartbeats 4000000 in
theorem bkM_latest0_42 {κ : sp_K} {x : sp_X} {mc ms : Nat} {Rt : Option Value → sp_M → Prop} {Xt : String → sp_M → Prop} {μ : sp_M} {k n : Nat} {a0 : Nat} {v1 : Int32} {v2 : Int32} {v3 : Int32} {v4 : Int32} (h : cxM_latest0 κ x mc ms) (hk : k ≤ mc ∧ n ≤ ms)
    (vc : ((v4 < 0 → Rt (some (.int (-1))) μ) ∧ (¬ v4 < 0 → (∃ mc_1 ms_2 : Nat, (k + mc_1 ≤ mc ∧ n + ms_2 ≤ ms) ∧ ∃ fs_6 : List Value, μ a0 = some (.inr (3, fs_6)) ∧ sp_m x.2.1 κ yM_isIn wM_isIn 0 0 mc_1 ms_2 [.ref a0, .int v4, .int v1] μ (fun v_4 μ_5 => ∃ v_9 : Int32, v_4 = some (.int v_9) ∧ ((v_9 = 0 → sp_w κ x (sp_F κ x Rt Xt mc ms) (k + mc_1) (n + ms_2) 42 [(0, .ref a0), (1, .int v1), (2, .int v2), (3, .int v3), (4, .int (v4 + (-1)))] [] μ_5) ∧ (¬ v_9 = 0 → (∃ mc_10 ms_11 : Nat, ((k + mc_1) + mc_10 ≤ mc ∧ (n + ms_2) + ms_11 ≤ ms) ∧ ∃ fs_15 : List Value, μ_5 a0 = some (.inr (3, fs_15)) ∧ sp_m x.2.1 κ yM_isIn wM_isIn 0 0 mc_10 ms_11 [.ref a0, .int v4, .int v2] μ_5 (fun v_13 μ_14 => ∃ v_18 : Int32, v_13 = some (.int v_18) ∧ ((¬ v_18 = 0 → sp_w κ x (sp_F κ x Rt Xt mc ms) (k + mc_1 + mc_10) (n + ms_2 + ms_11) 42 [(0, .ref a0), (1, .int v1), (2, .int v2), (3, .int v3), (4, .int (v4 + (-1)))] [] μ_14) ∧ (v_18 = 0 → Rt (some (.int v4)) μ_14))) (fun E_20 μ_14 => Xt E_20 μ_14))))) (fun E_22 μ_5 => Xt E_22 μ_5))))) : sp_w κ x (sp_F κ x Rt Xt mc ms) k n 42 [(0, .ref a0), (1, .int v1), (2, .int v2), (3, .int v3), (4, .int v4)] [] μ := by
  refine sr_iload h dM_latest0_42 4 rfl ?_
  refine sr_if_lt (tgt := 76) h dM_latest0_44 (by decide) (fun c_23 => ?_) (fun c_23 => ?_)
  · replace vc := vc.1 c_23
    refine sr_iconst (v := -1) h dM_latest0_76 (by decide) ?_
    exact sr_iret h dM_latest0_77 hk.1 hk.2 vc
  · replace vc := vc.2 c_23
    refine sr_aload_n h dM_latest0_47 rfl 0 rfl ?_
    refine sr_iload h dM_latest0_48 4 rfl ?_
    refine sr_iload_n h dM_latest0_50 rfl 1 rfl ?_
    obtain ⟨mc_1, ms_2, hc_3, vc⟩ := vc
    obtain ⟨fs_6, ho_7, vc⟩ := vc
    refine sr_callV (y := yM_isIn) (n0 := 2) (As := [.int v4, .int v1]) h (sp_gV kw_543 kw_545 kw_18 kw_35 kw_546) rfl (by decide +kernel) ⟨Nat.le_of_ble_eq_true rfl, Nat.le_of_ble_eq_true rfl⟩ (ci := 3) rfl dM_latest0_51 rfl rfl (Nat.le_of_ble_eq_true rfl) hc_3 ho_7 vc (fun v_4 μ_5 vc' => ?_) (fun E_22 μ_5 vc' => ?_)
    · replace vc := vc'
      clear vc'
      obtain ⟨v_9, rfl, vc⟩ := vc
      refine sr_if_eq (tgt := 70) h dM_latest0_54 (by decide) (fun c_21 => ?_) (fun c_21 => ?_)
      · replace vc := vc.1 c_21
        refine sr_iinc (u := v4 + (-1)) (lv' := [(0, .ref a0), (1, .int v1), (2, .int v2), (3, .int v3), (4, .int (v4 + (-1)))]) h dM_latest0_70 4 rfl rfl (by decide) rfl ?_
        refine sr_goto (tgt := 42) h dM_latest0_73 (by decide) ?_
        exact vc
      · replace vc := vc.2 c_21
        refine sr_aload_n h dM_latest0_57 rfl 0 rfl ?_
        refine sr_iload h dM_latest0_58 4 rfl ?_
        refine sr_iload_n h dM_latest0_60 rfl 2 rfl ?_
        obtain ⟨mc_10, ms_11, hc_12, vc⟩ := vc
        obtain ⟨fs_15, ho_16, vc⟩ := vc
        refine sr_callV (y := yM_isIn) (n0 := 2) (As := [.int v4, .int v2]) h (sp_gV kw_543 kw_545 kw_18 kw_35 kw_546) rfl (by decide +kernel) ⟨Nat.le_of_ble_eq_true rfl, Nat.le_of_ble_eq_true rfl⟩ (ci := 3) rfl dM_latest0_61 rfl rfl (Nat.le_of_ble_eq_true rfl) hc_12 ho_16 vc (fun v_13 μ_14 vc' => ?_) (fun E_20 μ_14 vc' => ?_)
        · replace vc := vc'
          clear vc'
          obtain ⟨v_18, rfl, vc⟩ := vc
          refine sr_if_ne (tgt := 70) h dM_latest0_64 (by decide) (fun c_19 => ?_) (fun c_19 => ?_)
          · replace vc := vc.1 c_19
            refine sr_iinc (u := v4 + (-1)) (lv' := [(0, .ref a0), (1, .int v1), (2, .int v2), (3, .int v3), (4, .int (v4 + (-1)))]) h dM_latest0_70 4 rfl rfl (by decide) rfl ?_
            refine sr_goto (tgt := 42) h dM_latest0_73 (by decide) ?_
            exact vc
          · replace vc := vc.2 c_19
            refine sr_iload h dM_latest0_67 4 rfl ?_
            exact sr_iret h dM_latest0_69 hc_12.1 hc_12.2 vc
        · replace vc := vc'
          clear vc'
          exact st_out h (fun _ z => nomatch z) hc_12.1 hc_12.2 vc
    · replace vc := vc'
      clear vc'
      exact st_out h (fun _ z => nomatch z) hc_3.1 hc_3.2 vc
theorem opM_latest0 {l : Launch} {κ : sp_K} {mc ms : Nat} {Rt : Option Value → sp_M → Prop} {Xt : String → sp_M → Prop} {μ : sp_M} {a0 : Nat} {v1 : Int32} {v2 : Int32} {v3 : Int32} (htr : l.stackTraces = false) (body : ∀ x : sp_X, x.2.1.stackTraces = false → cxM_latest0 κ x mc ms → sp_w κ x (sp_F κ x Rt Xt mc ms) 0 0 0 [(0, .ref a0), (1, .int v1), (2, .int v2), (3, .int v3)] [] μ) : sp_m l κ yM_latest0 wM_latest0 7 110 mc ms [.ref a0, .int v1, .int v2, .int v3] μ Rt Xt :=
  sp_open htr (by decide +kernel) rfl (Nat.le_of_ble_eq_true rfl) (by intro v hv; simp only [List.mem_cons, List.not_mem_nil, or_false] at hv; rcases hv with rfl | rfl | rfl | rfl <;> first | rfl | exact sp_c1o _) (fun x hx h => body x (by rw [hx]; exact htr) h)

abbrev cxM_head (κ : sp_K) (x : sp_X) (mc ms : Nat) : Prop := sp_C κ x cM_head 3 RM (some .int) (tableOf hhM_head) "head" (sp_rm 8 132 mc ms)
set_option maxRecDepth 100000 in
set_option maxHeartbeats 4000000 in
theorem bkM_head_0 {κ : sp_K} {x : sp_X} {mc ms : Nat} {Rt : Option Value → sp_M → Prop} {Xt : String → sp_M → Prop} {μ : sp_M} {k n : Nat} {a0 : Nat} {v1 : Int32} (h : cxM_head κ x mc ms) (hk : k ≤ mc ∧ n ≤ ms)
    (vc : (∃ fs_1 : List Value, μ a0 = some (.inr (3, fs_1)) ∧ 13 < fs_1.length ∧ ∀ μ_3 : sp_M, μ_3 = va_up μ a0 (some (.inr (3, fs_1.set 13 (.int 0)))) → (∃ mc_5 ms_6 : Nat, (k + mc_5 ≤ mc ∧ n + ms_6 ≤ ms) ∧ ∃ fs_10 : List Value, μ_3 a0 = some (.inr (3, fs_10)) ∧ sp_m x.2.1 κ yM_head0 wM_head0 7 110 mc_5 ms_6 [.ref a0, .int v1] μ_3 (fun v_8 μ_9 => ∃ v_13 : Int32, v_8 = some (.int v_13) ∧ Rt (some (.int v_13)) μ_9) (fun E_14 μ_9 => ((E_14 = "java/util/NoSuchElementException" ∧ ∀ q_15 : Nat, (∃ fs_16 : List Value, μ_9 a0 = some (.inr (3, fs_16)) ∧ 13 < fs_16.length ∧ ∀ μ_18 : sp_M, μ_18 = va_up μ_9 a0 (some (.inr (3, fs_16.set 13 (.int 1)))) → Rt (some (.int 0)) μ_18))))))) : sp_w κ x (sp_F κ x Rt Xt mc ms) k n 0 [(0, .ref a0), (1, .int v1)] [] μ := by
  refine sr_aload_n h dM_head_0 rfl 0 rfl ?_
  refine sr_iconst (v := 0) h dM_head_1 (by decide) ?_
  obtain ⟨fs_1, ho_2, vc⟩ := vc
  obtain ⟨hl_4, vc⟩ := vc
  replace vc := vc _ rfl
  refine sr_put h inM tyM tyM_ok nmM rfl 13 (by decide) kw_467 rfl dM_head_2 ho_2 rfl rfl hl_4 ?_
  refine sr_aload_n h dM_head_5 rfl 0 rfl ?_
  refine sr_iload_n h dM_head_6 rfl 1 rfl ?_
  obtain ⟨mc_5, ms_6, hc_7, vc⟩ := vc
  obtain ⟨fs_10, ho_11, vc⟩ := vc
  refine sr_callV (y := yM_head0) (n0 := 1) (As := [.int v1]) h (sp_gV kw_628 kw_630 kw_29 kw_35 kw_631) rfl (by decide +kernel) ⟨Nat.le_of_ble_eq_true rfl, Nat.le_of_ble_eq_true rfl⟩ (ci := 3) rfl dM_head_7 rfl rfl (Nat.le_of_ble_eq_true rfl) hc_7 ho_11 vc (fun v_8 μ_9 vc' => ?_) (fun E_14 μ_9 vc' => ?_)
  · replace vc := vc'
    clear vc'
    obtain ⟨v_13, rfl, vc⟩ := vc
    exact sr_iret h dM_head_10 hc_7.1 hc_7.2 vc
  · replace vc := vc'
    clear vc'
    obtain ⟨rfl, vc⟩ := vc
    refine st_catch h [] ({ startPc := 5, endPc := 10, handlerPc := 11, catchType := 44 }) [] rfl (fun _ z => nomatch z) (by decide) (by decide) (name := "java/util/NoSuchElementException") kw_506 kt_131 (fun q_15 => ?_)
    replace vc := vc q_15
    refine sr_astore_n (lv' := [(0, .ref a0), (1, .int v1), (2, .ref q_15)]) h dM_head_11 rfl (by decide) rfl ?_
    refine sr_aload_n h dM_head_12 rfl 0 rfl ?_
    refine sr_iconst (v := 1) h dM_head_13 (by decide) ?_
    obtain ⟨fs_16, ho_17, vc⟩ := vc
    obtain ⟨hl_19, vc⟩ := vc
    replace vc := vc _ rfl
    refine sr_put h inM tyM tyM_ok nmM rfl 13 (by decide) kw_467 rfl dM_head_14 ho_17 rfl rfl hl_19 ?_
    refine sr_iconst (v := 0) h dM_head_17 (by decide) ?_
    exact sr_iret h dM_head_18 hc_7.1 hc_7.2 vc
theorem opM_head {l : Launch} {κ : sp_K} {mc ms : Nat} {Rt : Option Value → sp_M → Prop} {Xt : String → sp_M → Prop} {μ : sp_M} {a0 : Nat} {v1 : Int32} (htr : l.stackTraces = false) (body : ∀ x : sp_X, x.2.1.stackTraces = false → cxM_head κ x mc ms → sp_w κ x (sp_F κ x Rt Xt mc ms) 0 0 0 [(0, .ref a0), (1, .int v1)] [] μ) : sp_m l κ yM_head wM_head 8 132 mc ms [.ref a0, .int v1] μ Rt Xt :=
  sp_openH htr (by decide +kernel) rfl (Nat.le_of_ble_eq_true rfl) (by intro v hv; simp only [List.mem_cons, List.not_mem_nil, or_false] at hv; rcases hv with rfl | rfl <;> first | rfl | exact sp_c1o _) (fun x hx h => body x (by rw [hx]; exact htr) h)

abbrev cxM_head0 (κ : sp_K) (x : sp_X) (mc ms : Nat) : Prop := sp_C κ x cM_head0 3 RM (some .int) [] "head0" (sp_rm 7 110 mc ms)
set_option maxRecDepth 100000 in
set_option maxHeartbeats 4000000 in
theorem bkM_head0_0 {κ : sp_K} {x : sp_X} {mc ms : Nat} {Rt : Option Value → sp_M → Prop} {Xt : String → sp_M → Prop} {μ : sp_M} {k n : Nat} {a0 : Nat} {v1 : Int32} (h : cxM_head0 κ x mc ms) (hk : k ≤ mc ∧ n ≤ ms)
    (vc : (∃ fs_1 : List Value, μ a0 = some (.inr (3, fs_1)) ∧ ∃ r_3 : Option Nat, fs_1[12]? = some (va_rf r_3) ∧ (∃ mc_5 ms_6 : Nat, (k + mc_5 ≤ mc ∧ n + ms_6 ≤ ms) ∧ sp_m x.2.1 κ yM_headsTo wM_headsTo 2 45 mc_5 ms_6 [.ref a0, va_rf r_3] μ (fun v_8 μ_9 => ∃ v_11 : Int32, v_8 = some (.int v_11) ∧ ((v1 < 0 → sp_w κ x (sp_F κ x Rt Xt mc ms) (k + mc_5) (n + ms_6) 22 [(0, .ref a0), (1, .int v1), (2, .int v_11)] [] μ_9) ∧ (¬ v1 < 0 → ((v_11 ≤ v1 → sp_w κ x (sp_F κ x Rt Xt mc ms) (k + mc_5) (n + ms_6) 22 [(0, .ref a0), (1, .int v1), (2, .int v_11)] [] μ_9) ∧ (¬ v_11 ≤ v1 → (∃ mc_12 ms_13 : Nat, ((k + mc_5) + mc_12 ≤ mc ∧ (n + ms_6) + ms_13 ≤ ms) ∧ sp_m x.2.1 κ yM_there wM_there 6 90 mc_12 ms_13 [.int 1] μ_9 (fun v_15 μ_16 => v_15 = none ∧ (∃ fs_18 : List Value, μ_16 a0 = some (.inr (3, fs_18)) ∧ ∃ r_20 : Option Nat, fs_18[12]? = some (va_rf r_20) ∧ (∃ a_22 : Nat, r_20 = some a_22 ∧ ∃ (N_23 : Nat) (f_24 : Nat → Int32), μ_16 a_22 = some (sp_ia κ N_23 f_24) ∧ ∃ j_26 : Nat, v1 = nI j_26 ∧ j_26 < N_23 ∧ Rt (some (.int (f_24 j_26))) μ_16))) (fun E_29 μ_16 => Xt E_29 μ_16))))))) (fun E_32 μ_9 => Xt E_32 μ_9)))) : sp_w κ x (sp_F κ x Rt Xt mc ms) k n 0 [(0, .ref a0), (1, .int v1)] [] μ := by
  refine sr_aload_n h dM_head0_0 rfl 0 rfl ?_
  refine sr_aload_n h dM_head0_1 rfl 0 rfl ?_
  obtain ⟨fs_1, ho_2, vc⟩ := vc
  obtain ⟨r_3, hv_4, vc⟩ := vc
  refine sr_get h inM rfl 12 (by decide) kw_466 dM_head0_2 ho_2 hv_4 ?_
  obtain ⟨mc_5, ms_6, hc_7, vc⟩ := vc
  refine sr_callV (y := yM_headsTo) (n0 := 1) (As := [va_rf r_3]) h (sp_gV kw_535 kw_537 kw_16 kw_35 kw_538) rfl (by decide +kernel) ⟨Nat.le_of_ble_eq_true rfl, Nat.le_of_ble_eq_true rfl⟩ (ci := 3) rfl dM_head0_5 rfl rfl (Nat.le_of_ble_eq_true rfl) hc_7 ho_2 vc (fun v_8 μ_9 vc' => ?_) (fun E_32 μ_9 vc' => ?_)
  · replace vc := vc'
    clear vc'
    obtain ⟨v_11, rfl, vc⟩ := vc
    refine sr_istore_n (lv' := [(0, .ref a0), (1, .int v1), (2, .int v_11)]) h dM_head0_8 rfl (by decide) rfl ?_
    refine sr_iload_n h dM_head0_9 rfl 1 rfl ?_
    refine sr_if_lt (tgt := 22) h dM_head0_10 (by decide) (fun c_31 => ?_) (fun c_31 => ?_)
    · replace vc := vc.1 c_31
      exact vc
    · replace vc := vc.2 c_31
      refine sr_iload_n h dM_head0_13 rfl 1 rfl ?_
      refine sr_iload_n h dM_head0_14 rfl 2 rfl ?_
      refine sr_icmp_ge (tgt := 22) h dM_head0_15 (by decide) (fun c_30 => ?_) (fun c_30 => ?_)
      · replace vc := vc.1 c_30
        exact vc
      · replace vc := vc.2 c_30
        refine sr_iconst (v := 1) h dM_head0_18 (by decide) ?_
        refine sr_goto (tgt := 23) h dM_head0_19 (by decide) ?_
        obtain ⟨mc_12, ms_13, hc_14, vc⟩ := vc
        refine sr_callS (y := yM_there) (n0 := 1) (As := [.int 1]) (st := []) h (sp_gS kw_521 kw_522 kw_35 kw_523) rfl (by decide +kernel) ⟨Nat.le_of_ble_eq_true rfl, Nat.le_of_ble_eq_true rfl⟩ dM_head0_23 rfl rfl (Nat.le_of_ble_eq_true rfl) hc_14 vc (fun v_15 μ_16 vc' => ?_) (fun E_29 μ_16 vc' => ?_)
        · replace vc := vc'
          clear vc'
          obtain ⟨rfl, vc⟩ := vc
          refine sr_aload_n h dM_head0_26 rfl 0 rfl ?_
          obtain ⟨fs_18, ho_19, vc⟩ := vc
          obtain ⟨r_20, hv_21, vc⟩ := vc
          refine sr_get h inM rfl 12 (by decide) kw_466 dM_head0_27 ho_19 hv_21 ?_
          refine sr_iload_n h dM_head0_30 rfl 1 rfl ?_
          obtain ⟨a_22, rfl, vc⟩ := vc
          obtain ⟨N_23, f_24, ho_25, vc⟩ := vc
          obtain ⟨j_26, hi_27, hj_28, vc⟩ := vc
          refine sr_iald h dM_head0_31 ho_25 hi_27 hj_28 ?_
          exact sr_iret h dM_head0_32 hc_14.1 hc_14.2 vc
        · replace vc := vc'
          clear vc'
          exact st_out h (fun _ z => nomatch z) hc_14.1 hc_14.2 vc
  · replace vc := vc'
    clear vc'
    exact st_out h (fun _ z => nomatch z) hc_7.1 hc_7.2 vc
set_option maxRecDepth 100000 in
set_option maxHeartbeats 4000000 in
theorem bkM_head0_22 {κ : sp_K} {x : sp_X} {mc ms : Nat} {Rt : Option Value → sp_M → Prop} {Xt : String → sp_M → Prop} {μ : sp_M} {k n : Nat} {a0 : Nat} {v1 : Int32} {v2 : Int32} (h : cxM_head0 κ x mc ms) (hk : k ≤ mc ∧ n ≤ ms)
    (vc : (∃ mc_1 ms_2 : Nat, (k + mc_1 ≤ mc ∧ n + ms_2 ≤ ms) ∧ sp_m x.2.1 κ yM_there wM_there 6 90 mc_1 ms_2 [.int 0] μ (fun v_4 μ_5 => v_4 = none ∧ (∃ fs_7 : List Value, μ_5 a0 = some (.inr (3, fs_7)) ∧ ∃ r_9 : Option Nat, fs_7[12]? = some (va_rf r_9) ∧ (∃ a_11 : Nat, r_9 = some a_11 ∧ ∃ (N_12 : Nat) (f_13 : Nat → Int32), μ_5 a_11 = some (sp_ia κ N_12 f_13) ∧ ∃ j_15 : Nat, v1 = nI j_15 ∧ j_15 < N_12 ∧ Rt (some (.int (f_13 j_15))) μ_5))) (fun E_18 μ_5 => Xt E_18 μ_5))) : sp_w κ x (sp_F κ x Rt Xt mc ms) k n 22 [(0, .ref a0), (1, .int v1), (2, .int v2)] [] μ := by
  refine sr_iconst (v := 0) h dM_head0_22 (by decide) ?_
  obtain ⟨mc_1, ms_2, hc_3, vc⟩ := vc
  refine sr_callS (y := yM_there) (n0 := 1) (As := [.int 0]) (st := []) h (sp_gS kw_521 kw_522 kw_35 kw_523) rfl (by decide +kernel) ⟨Nat.le_of_ble_eq_true rfl, Nat.le_of_ble_eq_true rfl⟩ dM_head0_23 rfl rfl (Nat.le_of_ble_eq_true rfl) hc_3 vc (fun v_4 μ_5 vc' => ?_) (fun E_18 μ_5 vc' => ?_)
  · replace vc := vc'
    clear vc'
    obtain ⟨rfl, vc⟩ := vc
    refine sr_aload_n h dM_head0_26 rfl 0 rfl ?_
    obtain ⟨fs_7, ho_8, vc⟩ := vc
    obtain ⟨r_9, hv_10, vc⟩ := vc
    refine sr_get h inM rfl 12 (by decide) kw_466 dM_head0_27 ho_8 hv_10 ?_
    refine sr_iload_n h dM_head0_30 rfl 1 rfl ?_
    obtain ⟨a_11, rfl, vc⟩ := vc
    obtain ⟨N_12, f_13, ho_14, vc⟩ := vc
    obtain ⟨j_15, hi_16, hj_17, vc⟩ := vc
    refine sr_iald h dM_head0_31 ho_14 hi_16 hj_17 ?_
    exact sr_iret h dM_head0_32 hc_3.1 hc_3.2 vc
  · replace vc := vc'
    clear vc'
    exact st_out h (fun _ z => nomatch z) hc_3.1 hc_3.2 vc
theorem opM_head0 {l : Launch} {κ : sp_K} {mc ms : Nat} {Rt : Option Value → sp_M → Prop} {Xt : String → sp_M → Prop} {μ : sp_M} {a0 : Nat} {v1 : Int32} (htr : l.stackTraces = false) (body : ∀ x : sp_X, x.2.1.stackTraces = false → cxM_head0 κ x mc ms → sp_w κ x (sp_F κ x Rt Xt mc ms) 0 0 0 [(0, .ref a0), (1, .int v1)] [] μ) : sp_m l κ yM_head0 wM_head0 7 110 mc ms [.ref a0, .int v1] μ Rt Xt :=
  sp_open htr (by decide +kernel) rfl (Nat.le_of_ble_eq_true rfl) (by intro v hv; simp only [List.mem_cons, List.not_mem_nil, or_false] at hv; rcases hv with rfl | rfl <;> first | rfl | exact sp_c1o _) (fun x hx h => body x (by rw [hx]; exact htr) h)

abbrev cxM_critical (κ : sp_K) (x : sp_X) (mc ms : Nat) : Prop := sp_C κ x cM_critical 1 RM (some .int) [] "critical" (sp_rm 3 67 mc ms)
set_option maxRecDepth 100000 in
set_option maxHeartbeats 4000000 in
theorem bkM_critical_0 {κ : sp_K} {x : sp_X} {mc ms : Nat} {Rt : Option Value → sp_M → Prop} {Xt : String → sp_M → Prop} {μ : sp_M} {k n : Nat} {a0 : Nat} (h : cxM_critical κ x mc ms) (hk : k ≤ mc ∧ n ≤ ms)
    (vc : (∃ fs_1 : List Value, μ a0 = some (.inr (3, fs_1)) ∧ 13 < fs_1.length ∧ ∀ μ_3 : sp_M, μ_3 = va_up μ a0 (some (.inr (3, fs_1.set 13 (.int 0)))) → (∃ mc_5 ms_6 : Nat, (k + mc_5 ≤ mc ∧ n + ms_6 ≤ ms) ∧ ∃ fs_10 : List Value, μ_3 a0 = some (.inr (3, fs_10)) ∧ sp_m x.2.1 κ yM_critical0 wM_critical0 2 45 mc_5 ms_6 [.ref a0] μ_3 (fun v_8 μ_9 => ∃ v_13 : Int32, v_8 = some (.int v_13) ∧ Rt (some (.int v_13)) μ_9) (fun E_14 μ_9 => Xt E_14 μ_9)))) : sp_w κ x (sp_F κ x Rt Xt mc ms) k n 0 [(0, .ref a0)] [] μ := by
  refine sr_aload_n h dM_critical_0 rfl 0 rfl ?_
  refine sr_iconst (v := 0) h dM_critical_1 (by decide) ?_
  obtain ⟨fs_1, ho_2, vc⟩ := vc
  obtain ⟨hl_4, vc⟩ := vc
  replace vc := vc _ rfl
  refine sr_put h inM tyM tyM_ok nmM rfl 13 (by decide) kw_467 rfl dM_critical_2 ho_2 rfl rfl hl_4 ?_
  refine sr_aload_n h dM_critical_5 rfl 0 rfl ?_
  obtain ⟨mc_5, ms_6, hc_7, vc⟩ := vc
  obtain ⟨fs_10, ho_11, vc⟩ := vc
  refine sr_callV (y := yM_critical0) (n0 := 0) (As := []) h (sp_gV kw_636 kw_638 kw_30 kw_35 kw_639) rfl (by decide +kernel) ⟨Nat.le_of_ble_eq_true rfl, Nat.le_of_ble_eq_true rfl⟩ (ci := 3) rfl dM_critical_6 rfl rfl (Nat.le_of_ble_eq_true rfl) hc_7 ho_11 vc (fun v_8 μ_9 vc' => ?_) (fun E_14 μ_9 vc' => ?_)
  · replace vc := vc'
    clear vc'
    obtain ⟨v_13, rfl, vc⟩ := vc
    exact sr_iret h dM_critical_9 hc_7.1 hc_7.2 vc
  · replace vc := vc'
    clear vc'
    exact st_out h (fun _ z => nomatch z) hc_7.1 hc_7.2 vc
theorem opM_critical {l : Launch} {κ : sp_K} {mc ms : Nat} {Rt : Option Value → sp_M → Prop} {Xt : String → sp_M → Prop} {μ : sp_M} {a0 : Nat} (htr : l.stackTraces = false) (body : ∀ x : sp_X, x.2.1.stackTraces = false → cxM_critical κ x mc ms → sp_w κ x (sp_F κ x Rt Xt mc ms) 0 0 0 [(0, .ref a0)] [] μ) : sp_m l κ yM_critical wM_critical 3 67 mc ms [.ref a0] μ Rt Xt :=
  sp_open htr (by decide +kernel) rfl (Nat.le_of_ble_eq_true rfl) (by intro v hv; simp only [List.mem_cons, List.not_mem_nil, or_false] at hv; subst hv; first | rfl | exact sp_c1o _) (fun x hx h => body x (by rw [hx]; exact htr) h)

abbrev cxM_critical0 (κ : sp_K) (x : sp_X) (mc ms : Nat) : Prop := sp_C κ x cM_critical0 3 RM (some .int) [] "critical0" (sp_rm 2 45 mc ms)
set_option maxRecDepth 100000 in
set_option maxHeartbeats 4000000 in
theorem bkM_critical0_0 {κ : sp_K} {x : sp_X} {mc ms : Nat} {Rt : Option Value → sp_M → Prop} {Xt : String → sp_M → Prop} {μ : sp_M} {k n : Nat} {a0 : Nat} (h : cxM_critical0 κ x mc ms) (hk : k ≤ mc ∧ n ≤ ms)
    (vc : sp_w κ x (sp_F κ x Rt Xt mc ms) k n 4 [(0, .ref a0), (1, .int 0), (2, .int 0)] [] μ) : sp_w κ x (sp_F κ x Rt Xt mc ms) k n 0 [(0, .ref a0)] [] μ := by
  refine sr_iconst (v := 0) h dM_critical0_0 (by decide) ?_
  refine sr_istore_n (lv' := [(0, .ref a0), (1, .int 0)]) h dM_critical0_1 rfl (by decide) rfl ?_
  refine sr_iconst (v := 0) h dM_critical0_2 (by decide) ?_
  refine sr_istore_n (lv' := [(0, .ref a0), (1, .int 0), (2, .int 0)]) h dM_critical0_3 rfl (by decide) rfl ?_
  exact vc
set_option maxRecDepth 100000 in
set_option maxHeartbeats 4000000 in
theorem bkM_critical0_4 {κ : sp_K} {x : sp_X} {mc ms : Nat} {Rt : Option Value → sp_M → Prop} {Xt : String → sp_M → Prop} {μ : sp_M} {k n : Nat} {a0 : Nat} {v1 : Int32} {v2 : Int32} (h : cxM_critical0 κ x mc ms) (hk : k ≤ mc ∧ n ≤ ms)
    (vc : (∃ fs_1 : List Value, μ a0 = some (.inr (3, fs_1)) ∧ ∃ v_3 : Int32, fs_1[9]? = some (.int v_3) ∧ ((v_3 ≤ v2 → Rt (some (.int v1)) μ) ∧ (¬ v_3 ≤ v2 → (∃ mc_5 ms_6 : Nat, (k + mc_5 ≤ mc ∧ n + ms_6 ≤ ms) ∧ sp_m x.2.1 κ yM_isCritical wM_isCritical 1 22 mc_5 ms_6 [.ref a0, .int v2] μ (fun v_8 μ_9 => ∃ v_11 : Int32, v_8 = some (.int v_11) ∧ ((v_11 = 0 → sp_w κ x (sp_F κ x Rt Xt mc ms) (k + mc_5) (n + ms_6) 4 [(0, .ref a0), (1, .int v1), (2, .int (v2 + 1))] [] μ_9) ∧ (¬ v_11 = 0 → sp_w κ x (sp_F κ x Rt Xt mc ms) (k + mc_5) (n + ms_6) 4 [(0, .ref a0), (1, .int (v1 + 1)), (2, .int (v2 + 1))] [] μ_9))) (fun E_13 μ_9 => Xt E_13 μ_9)))))) : sp_w κ x (sp_F κ x Rt Xt mc ms) k n 4 [(0, .ref a0), (1, .int v1), (2, .int v2)] [] μ := by
  refine sr_iload_n h dM_critical0_4 rfl 2 rfl ?_
  refine sr_aload_n h dM_critical0_5 rfl 0 rfl ?_
  obtain ⟨fs_1, ho_2, vc⟩ := vc
  obtain ⟨v_3, hv_4, vc⟩ := vc
  refine sr_get h inM rfl 9 (by decide) kw_463 dM_critical0_6 ho_2 hv_4 ?_
  refine sr_icmp_ge (tgt := 29) h dM_critical0_9 (by decide) (fun c_14 => ?_) (fun c_14 => ?_)
  · replace vc := vc.1 c_14
    refine sr_iload_n h dM_critical0_29 rfl 1 rfl ?_
    exact sr_iret h dM_critical0_30 hk.1 hk.2 vc
  · replace vc := vc.2 c_14
    refine sr_aload_n h dM_critical0_12 rfl 0 rfl ?_
    refine sr_iload_n h dM_critical0_13 rfl 2 rfl ?_
    obtain ⟨mc_5, ms_6, hc_7, vc⟩ := vc
    refine sr_callV (y := yM_isCritical) (n0 := 1) (As := [.int v2]) h (sp_gV kw_640 kw_642 kw_31 kw_35 kw_643) rfl (by decide +kernel) ⟨Nat.le_of_ble_eq_true rfl, Nat.le_of_ble_eq_true rfl⟩ (ci := 3) rfl dM_critical0_14 rfl rfl (Nat.le_of_ble_eq_true rfl) hc_7 ho_2 vc (fun v_8 μ_9 vc' => ?_) (fun E_13 μ_9 vc' => ?_)
    · replace vc := vc'
      clear vc'
      obtain ⟨v_11, rfl, vc⟩ := vc
      refine sr_if_eq (tgt := 23) h dM_critical0_17 (by decide) (fun c_12 => ?_) (fun c_12 => ?_)
      · replace vc := vc.1 c_12
        refine sr_iinc (u := v2 + 1) (lv' := [(0, .ref a0), (1, .int v1), (2, .int (v2 + 1))]) h dM_critical0_23 2 rfl rfl (by decide) rfl ?_
        refine sr_goto (tgt := 4) h dM_critical0_26 (by decide) ?_
        exact vc
      · replace vc := vc.2 c_12
        refine sr_iinc (u := v1 + 1) (lv' := [(0, .ref a0), (1, .int (v1 + 1)), (2, .int v2)]) h dM_critical0_20 1 rfl rfl (by decide) rfl ?_
        refine sr_iinc (u := v2 + 1) (lv' := [(0, .ref a0), (1, .int (v1 + 1)), (2, .int (v2 + 1))]) h dM_critical0_23 2 rfl rfl (by decide) rfl ?_
        refine sr_goto (tgt := 4) h dM_critical0_26 (by decide) ?_
        exact vc
    · replace vc := vc'
      clear vc'
      exact st_out h (fun _ z => nomatch z) hc_7.1 hc_7.2 vc
theorem opM_critical0 {l : Launch} {κ : sp_K} {mc ms : Nat} {Rt : Option Value → sp_M → Prop} {Xt : String → sp_M → Prop} {μ : sp_M} {a0 : Nat} (htr : l.stackTraces = false) (body : ∀ x : sp_X, x.2.1.stackTraces = false → cxM_critical0 κ x mc ms → sp_w κ x (sp_F κ x Rt Xt mc ms) 0 0 0 [(0, .ref a0)] [] μ) : sp_m l κ yM_critical0 wM_critical0 2 45 mc ms [.ref a0] μ Rt Xt :=
  sp_open htr (by decide +kernel) rfl (Nat.le_of_ble_eq_true rfl) (by intro v hv; simp only [List.mem_cons, List.not_mem_nil, or_false] at hv; subst hv; first | rfl | exact sp_c1o _) (fun x hx h => body x (by rw [hx]; exact htr) h)

abbrev cxM_isCritical (κ : sp_K) (x : sp_X) (mc ms : Nat) : Prop := sp_C κ x cM_isCritical 4 RM (some .boolean) [] "isCritical" (sp_rm 1 22 mc ms)
set_option maxRecDepth 100000 in
set_option maxHeartbeats 4000000 in
theorem bkM_isCritical_0 {κ : sp_K} {x : sp_X} {mc ms : Nat} {Rt : Option Value → sp_M → Prop} {Xt : String → sp_M → Prop} {μ : sp_M} {k n : Nat} {a0 : Nat} {v1 : Int32} (h : cxM_isCritical κ x mc ms) (hk : k ≤ mc ∧ n ≤ ms)
    (vc : sp_w κ x (sp_F κ x Rt Xt mc ms) k n 2 [(0, .ref a0), (1, .int v1), (2, .int 0)] [] μ) : sp_w κ x (sp_F κ x Rt Xt mc ms) k n 0 [(0, .ref a0), (1, .int v1)] [] μ := by
  refine sr_iconst (v := 0) h dM_isCritical_0 (by decide) ?_
  refine sr_istore_n (lv' := [(0, .ref a0), (1, .int v1), (2, .int 0)]) h dM_isCritical_1 rfl (by decide) rfl ?_
  exact vc
set_option maxRecDepth 100000 in
set_option maxHeartbeats 4000000 in
theorem bkM_isCritical_2 {κ : sp_K} {x : sp_X} {mc ms : Nat} {Rt : Option Value → sp_M → Prop} {Xt : String → sp_M → Prop} {μ : sp_M} {k n : Nat} {a0 : Nat} {v1 : Int32} {v2 : Int32} (h : cxM_isCritical κ x mc ms) (hk : k ≤ mc ∧ n ≤ ms)
    (vc : (∃ fs_1 : List Value, μ a0 = some (.inr (3, fs_1)) ∧ ∃ v_3 : Int32, fs_1[2]? = some (.int v_3) ∧ ((v_3 ≤ v2 → Rt (some (.int 1)) μ) ∧ (¬ v_3 ≤ v2 → (∃ r_5 : Option Nat, fs_1[8]? = some (va_rf r_5) ∧ (∃ a_7 : Nat, r_5 = some a_7 ∧ ∃ (N_8 : Nat) (f_9 : Nat → Int32), μ a_7 = some (sp_sa κ N_8 f_9) ∧ ∃ j_11 : Nat, (16 * v1) + v2 = nI j_11 ∧ j_11 < N_8 ∧ (∃ r_14 : Option Nat, fs_1[1]? = some (va_rf r_14) ∧ (∃ a_16 : Nat, r_14 = some a_16 ∧ ∃ (N_17 : Nat) (f_18 : Nat → Int32), μ a_16 = some (sp_ia κ N_17 f_18) ∧ ∃ j_20 : Nat, v2 = nI j_20 ∧ j_20 < N_17 ∧ (((f_18 j_20) ≤ (f_9 j_11) → sp_w κ x (sp_F κ x Rt Xt mc ms) k n 2 [(0, .ref a0), (1, .int v1), (2, .int (v2 + 1))] [] μ) ∧ (¬ (f_18 j_20) ≤ (f_9 j_11) → (∃ r_23 : Option Nat, fs_1[3]? = some (va_rf r_23) ∧ (∃ a_25 : Nat, r_23 = some a_25 ∧ ∃ (N_26 : Nat) (f_27 : Nat → Option Nat), μ a_25 = some (sp_ra κ 5 N_26 f_27) ∧ ∃ j_29 : Nat, v2 = nI j_29 ∧ j_29 < N_26 ∧ ∃ r_32 : Option Nat, f_27 j_29 = r_32 ∧ (∃ a_34 : Nat, r_32 = some a_34 ∧ ∃ (N_35 : Nat) (f_36 : Nat → Int32), μ a_34 = some (sp_ia κ N_35 f_36) ∧ ∃ j_38 : Nat, f_9 j_11 = nI j_38 ∧ j_38 < N_35 ∧ (∃ mc_41 ms_42 : Nat, (k + mc_41 ≤ mc ∧ n + ms_42 ≤ ms) ∧ sp_m x.2.1 κ yM_isIn wM_isIn 0 0 mc_41 ms_42 [.ref a0, .int v1, .int (f_36 j_38)] μ (fun v_44 μ_45 => ∃ v_47 : Int32, v_44 = some (.int v_47) ∧ ((¬ v_47 = 0 → sp_w κ x (sp_F κ x Rt Xt mc ms) (k + mc_41) (n + ms_42) 2 [(0, .ref a0), (1, .int v1), (2, .int (v2 + 1))] [] μ_45) ∧ (v_47 = 0 → Rt (some (.int 0)) μ_45))) (fun E_49 μ_45 => Xt E_49 μ_45))))))))))))))) : sp_w κ x (sp_F κ x Rt Xt mc ms) k n 2 [(0, .ref a0), (1, .int v1), (2, .int v2)] [] μ := by
  refine sr_iload_n h dM_isCritical_2 rfl 2 rfl ?_
  refine sr_aload_n h dM_isCritical_3 rfl 0 rfl ?_
  obtain ⟨fs_1, ho_2, vc⟩ := vc
  obtain ⟨v_3, hv_4, vc⟩ := vc
  refine sr_get h inM rfl 2 (by decide) kw_456 dM_isCritical_4 ho_2 hv_4 ?_
  refine sr_icmp_ge (tgt := 56) h dM_isCritical_7 (by decide) (fun c_51 => ?_) (fun c_51 => ?_)
  · replace vc := vc.1 c_51
    refine sr_iconst (v := 1) h dM_isCritical_56 (by decide) ?_
    exact sr_zret h dM_isCritical_57 rfl hk.1 hk.2 vc
  · replace vc := vc.2 c_51
    refine sr_aload_n h dM_isCritical_10 rfl 0 rfl ?_
    obtain ⟨r_5, hv_6, vc⟩ := vc
    refine sr_get h inM rfl 8 (by decide) kw_462 dM_isCritical_11 ho_2 hv_6 ?_
    refine sr_bipush (v := 16) h dM_isCritical_14 (by decide) ?_
    refine sr_iload_n h dM_isCritical_16 rfl 1 rfl ?_
    refine sr_imul h dM_isCritical_17 ?_
    refine sr_iload_n h dM_isCritical_18 rfl 2 rfl ?_
    refine sr_iadd h dM_isCritical_19 ?_
    obtain ⟨a_7, rfl, vc⟩ := vc
    obtain ⟨N_8, f_9, ho_10, vc⟩ := vc
    obtain ⟨j_11, hi_12, hj_13, vc⟩ := vc
    refine sr_sald h dM_isCritical_20 ho_10 hi_12 hj_13 ?_
    refine sr_istore_n (lv' := [(0, .ref a0), (1, .int v1), (2, .int v2), (3, .int (f_9 j_11))]) h dM_isCritical_21 rfl (by decide) rfl ?_
    refine sr_iload_n h dM_isCritical_22 rfl 3 rfl ?_
    refine sr_aload_n h dM_isCritical_23 rfl 0 rfl ?_
    obtain ⟨r_14, hv_15, vc⟩ := vc
    refine sr_get h inM rfl 1 (by decide) kw_455 dM_isCritical_24 ho_2 hv_15 ?_
    refine sr_iload_n h dM_isCritical_27 rfl 2 rfl ?_
    obtain ⟨a_16, rfl, vc⟩ := vc
    obtain ⟨N_17, f_18, ho_19, vc⟩ := vc
    obtain ⟨j_20, hi_21, hj_22, vc⟩ := vc
    refine sr_iald h dM_isCritical_28 ho_19 hi_21 hj_22 ?_
    refine sr_icmp_ge (tgt := 50) h dM_isCritical_29 (by decide) (fun c_50 => ?_) (fun c_50 => ?_)
    · replace vc := vc.1 c_50
      refine sr_iinc (u := v2 + 1) (lv' := [(0, .ref a0), (1, .int v1), (2, .int (v2 + 1)), (3, .int (f_9 j_11))]) h dM_isCritical_50 2 rfl rfl (by decide) rfl ?_
      refine sr_goto (tgt := 2) h dM_isCritical_53 (by decide) ?_
      exact sr_sub (lv' := [(0, .ref a0), (1, .int v1), (2, .int (v2 + 1))]) [0, 1, 2] rfl vc
    · replace vc := vc.2 c_50
      refine sr_aload_n h dM_isCritical_32 rfl 0 rfl ?_
      refine sr_iload_n h dM_isCritical_33 rfl 1 rfl ?_
      refine sr_aload_n h dM_isCritical_34 rfl 0 rfl ?_
      obtain ⟨r_23, hv_24, vc⟩ := vc
      refine sr_get h inM rfl 3 (by decide) kw_457 dM_isCritical_35 ho_2 hv_24 ?_
      refine sr_iload_n h dM_isCritical_38 rfl 2 rfl ?_
      obtain ⟨a_25, rfl, vc⟩ := vc
      obtain ⟨N_26, f_27, ho_28, vc⟩ := vc
      obtain ⟨j_29, hi_30, hj_31, vc⟩ := vc
      obtain ⟨r_32, hr_33, vc⟩ := vc
      refine sr_aaldA h dM_isCritical_39 ho_28 hi_30 hj_31 hr_33 ?_
      refine sr_iload_n h dM_isCritical_40 rfl 3 rfl ?_
      obtain ⟨a_34, rfl, vc⟩ := vc
      obtain ⟨N_35, f_36, ho_37, vc⟩ := vc
      obtain ⟨j_38, hi_39, hj_40, vc⟩ := vc
      refine sr_iald h dM_isCritical_41 ho_37 hi_39 hj_40 ?_
      obtain ⟨mc_41, ms_42, hc_43, vc⟩ := vc
      refine sr_callV (y := yM_isIn) (n0 := 2) (As := [.int v1, .int (f_36 j_38)]) h (sp_gV kw_543 kw_545 kw_18 kw_35 kw_546) rfl (by decide +kernel) ⟨Nat.le_of_ble_eq_true rfl, Nat.le_of_ble_eq_true rfl⟩ (ci := 3) rfl dM_isCritical_42 rfl rfl (Nat.le_of_ble_eq_true rfl) hc_43 ho_2 vc (fun v_44 μ_45 vc' => ?_) (fun E_49 μ_45 vc' => ?_)
      · replace vc := vc'
        clear vc'
        obtain ⟨v_47, rfl, vc⟩ := vc
        refine sr_if_ne (tgt := 50) h dM_isCritical_45 (by decide) (fun c_48 => ?_) (fun c_48 => ?_)
        · replace vc := vc.1 c_48
          refine sr_iinc (u := v2 + 1) (lv' := [(0, .ref a0), (1, .int v1), (2, .int (v2 + 1)), (3, .int (f_9 j_11))]) h dM_isCritical_50 2 rfl rfl (by decide) rfl ?_
          refine sr_goto (tgt := 2) h dM_isCritical_53 (by decide) ?_
          exact sr_sub (lv' := [(0, .ref a0), (1, .int v1), (2, .int (v2 + 1))]) [0, 1, 2] rfl vc
        · replace vc := vc.2 c_48
          refine sr_iconst (v := 0) h dM_isCritical_48 (by decide) ?_
          exact sr_zret h dM_isCritical_49 rfl hc_43.1 hc_43.2 vc
      · replace vc := vc'
        clear vc'
        exact st_out h (fun _ z => nomatch z) hc_43.1 hc_43.2 vc
theorem opM_isCritical {l : Launch} {κ : sp_K} {mc ms : Nat} {Rt : Option Value → sp_M → Prop} {Xt : String → sp_M → Prop} {μ : sp_M} {a0 : Nat} {v1 : Int32} (htr : l.stackTraces = false) (body : ∀ x : sp_X, x.2.1.stackTraces = false → cxM_isCritical κ x mc ms → sp_w κ x (sp_F κ x Rt Xt mc ms) 0 0 0 [(0, .ref a0), (1, .int v1)] [] μ) : sp_m l κ yM_isCritical wM_isCritical 1 22 mc ms [.ref a0, .int v1] μ Rt Xt :=
  sp_open htr (by decide +kernel) rfl (Nat.le_of_ble_eq_true rfl) (by intro v hv; simp only [List.mem_cons, List.not_mem_nil, or_false] at hv; rcases hv with rfl | rfl <;> first | rfl | exact sp_c1o _) (fun x hx h => body x (by rw [hx]; exact htr) h)

abbrev cxM_base (κ : sp_K) (x : sp_X) (mc ms : Nat) : Prop := sp_C κ x cM_base 2 RM (some .int) [] "base" (sp_rm 3 67 mc ms)
set_option maxRecDepth 100000 in
set_option maxHeartbeats 4000000 in
theorem bkM_base_0 {κ : sp_K} {x : sp_X} {mc ms : Nat} {Rt : Option Value → sp_M → Prop} {Xt : String → sp_M → Prop} {μ : sp_M} {k n : Nat} {a0 : Nat} {v1 : Int32} (h : cxM_base κ x mc ms) (hk : k ≤ mc ∧ n ≤ ms)
    (vc : (∃ fs_1 : List Value, μ a0 = some (.inr (3, fs_1)) ∧ 13 < fs_1.length ∧ ∀ μ_3 : sp_M, μ_3 = va_up μ a0 (some (.inr (3, fs_1.set 13 (.int 0)))) → (∃ mc_5 ms_6 : Nat, (k + mc_5 ≤ mc ∧ n + ms_6 ≤ ms) ∧ ∃ fs_10 : List Value, μ_3 a0 = some (.inr (3, fs_10)) ∧ sp_m x.2.1 κ yM_base0 wM_base0 2 45 mc_5 ms_6 [.ref a0, .int v1] μ_3 (fun v_8 μ_9 => ∃ v_13 : Int32, v_8 = some (.int v_13) ∧ Rt (some (.int v_13)) μ_9) (fun E_14 μ_9 => Xt E_14 μ_9)))) : sp_w κ x (sp_F κ x Rt Xt mc ms) k n 0 [(0, .ref a0), (1, .int v1)] [] μ := by
  refine sr_aload_n h dM_base_0 rfl 0 rfl ?_
  refine sr_iconst (v := 0) h dM_base_1 (by decide) ?_
  obtain ⟨fs_1, ho_2, vc⟩ := vc
  obtain ⟨hl_4, vc⟩ := vc
  replace vc := vc _ rfl
  refine sr_put h inM tyM tyM_ok nmM rfl 13 (by decide) kw_467 rfl dM_base_2 ho_2 rfl rfl hl_4 ?_
  refine sr_aload_n h dM_base_5 rfl 0 rfl ?_
  refine sr_iload_n h dM_base_6 rfl 1 rfl ?_
  obtain ⟨mc_5, ms_6, hc_7, vc⟩ := vc
  obtain ⟨fs_10, ho_11, vc⟩ := vc
  refine sr_callV (y := yM_base0) (n0 := 1) (As := [.int v1]) h (sp_gV kw_648 kw_650 kw_32 kw_35 kw_651) rfl (by decide +kernel) ⟨Nat.le_of_ble_eq_true rfl, Nat.le_of_ble_eq_true rfl⟩ (ci := 3) rfl dM_base_7 rfl rfl (Nat.le_of_ble_eq_true rfl) hc_7 ho_11 vc (fun v_8 μ_9 vc' => ?_) (fun E_14 μ_9 vc' => ?_)
  · replace vc := vc'
    clear vc'
    obtain ⟨v_13, rfl, vc⟩ := vc
    exact sr_iret h dM_base_10 hc_7.1 hc_7.2 vc
  · replace vc := vc'
    clear vc'
    exact st_out h (fun _ z => nomatch z) hc_7.1 hc_7.2 vc
theorem opM_base {l : Launch} {κ : sp_K} {mc ms : Nat} {Rt : Option Value → sp_M → Prop} {Xt : String → sp_M → Prop} {μ : sp_M} {a0 : Nat} {v1 : Int32} (htr : l.stackTraces = false) (body : ∀ x : sp_X, x.2.1.stackTraces = false → cxM_base κ x mc ms → sp_w κ x (sp_F κ x Rt Xt mc ms) 0 0 0 [(0, .ref a0), (1, .int v1)] [] μ) : sp_m l κ yM_base wM_base 3 67 mc ms [.ref a0, .int v1] μ Rt Xt :=
  sp_open htr (by decide +kernel) rfl (Nat.le_of_ble_eq_true rfl) (by intro v hv; simp only [List.mem_cons, List.not_mem_nil, or_false] at hv; rcases hv with rfl | rfl <;> first | rfl | exact sp_c1o _) (fun x hx h => body x (by rw [hx]; exact htr) h)

abbrev cxM_base0 (κ : sp_K) (x : sp_X) (mc ms : Nat) : Prop := sp_C κ x cM_base0 3 RM (some .int) [] "base0" (sp_rm 2 45 mc ms)
set_option maxRecDepth 100000 in
set_option maxHeartbeats 4000000 in
theorem bkM_base0_0 {κ : sp_K} {x : sp_X} {mc ms : Nat} {Rt : Option Value → sp_M → Prop} {Xt : String → sp_M → Prop} {μ : sp_M} {k n : Nat} {a0 : Nat} {v1 : Int32} (h : cxM_base0 κ x mc ms) (hk : k ≤ mc ∧ n ≤ ms)
    (vc : (∃ fs_1 : List Value, μ a0 = some (.inr (3, fs_1)) ∧ ∃ v_3 : Int32, fs_1[9]? = some (.int v_3) ∧ ((v_3 ≤ v1 → (sp_w κ x (sp_F κ x Rt Xt mc ms) k n 25 [(0, .ref a0), (1, .int v1), (2, .int (v_3 - 1))] [] μ)) ∧ (¬ v_3 ≤ v1 → sp_w κ x (sp_F κ x Rt Xt mc ms) k n 25 [(0, .ref a0), (1, .int v1), (2, .int ((if v1 < 0 then 0 else v1) - 1))] [] μ)))) : sp_w κ x (sp_F κ x Rt Xt mc ms) k n 0 [(0, .ref a0), (1, .int v1)] [] μ := by
  refine sr_iload_n h dM_base0_0 rfl 1 rfl ?_
  refine sr_aload_n h dM_base0_1 rfl 0 rfl ?_
  obtain ⟨fs_1, ho_2, vc⟩ := vc
  obtain ⟨v_3, hv_4, vc⟩ := vc
  refine sr_get h inM rfl 9 (by decide) kw_463 dM_base0_2 ho_2 hv_4 ?_
  refine sr_icmp_ge (tgt := 18) h dM_base0_5 (by decide) (fun c_5 => ?_) (fun c_5 => ?_)
  · replace vc := vc.1 c_5
    refine sr_aload_n h dM_base0_18 rfl 0 rfl ?_
    refine sr_get h inM rfl 9 (by decide) kw_463 dM_base0_19 ho_2 hv_4 ?_
    refine sr_iconst (v := 1) h dM_base0_22 (by decide) ?_
    refine sr_isub h dM_base0_23 ?_
    refine sr_istore_n (lv' := [(0, .ref a0), (1, .int v1), (2, .int (v_3 - 1))]) h dM_base0_24 rfl (by decide) rfl ?_
    exact vc
  · replace vc := vc.2 c_5
    refine sr_iload_n h dM_base0_8 rfl 1 rfl ?_
    refine sr_iconst (v := 0) h dM_base0_9 (by decide) ?_
    refine sr_mmax h kw_623 kw_110 kw_44 kw_mmax dM_base0_10 (Nat.le_of_ble_eq_true rfl) (Nat.le_of_ble_eq_true rfl) hk.1 hk.2 ?_
    refine sr_iconst (v := 1) h dM_base0_13 (by decide) ?_
    refine sr_isub h dM_base0_14 ?_
    refine sr_goto (tgt := 24) h dM_base0_15 (by decide) ?_
    refine sr_istore_n (lv' := [(0, .ref a0), (1, .int v1), (2, .int ((if v1 < 0 then 0 else v1) - 1))]) h dM_base0_24 rfl (by decide) rfl ?_
    exact vc
set_option maxRecDepth 100000 in
set_option maxHeartbeats 4000000 in
theorem bkM_base0_25 {κ : sp_K} {x : sp_X} {mc ms : Nat} {Rt : Option Value → sp_M → Prop} {Xt : String → sp_M → Prop} {μ : sp_M} {k n : Nat} {a0 : Nat} {v1 : Int32} {v2 : Int32} (h : cxM_base0 κ x mc ms) (hk : k ≤ mc ∧ n ≤ ms)
    (vc : ((v2 < 0 → Rt (some (.int (-1))) μ) ∧ (¬ v2 < 0 → (∃ mc_1 ms_2 : Nat, (k + mc_1 ≤ mc ∧ n + ms_2 ≤ ms) ∧ ∃ fs_6 : List Value, μ a0 = some (.inr (3, fs_6)) ∧ sp_m x.2.1 κ yM_isCritical wM_isCritical 1 22 mc_1 ms_2 [.ref a0, .int v2] μ (fun v_4 μ_5 => ∃ v_9 : Int32, v_4 = some (.int v_9) ∧ ((v_9 = 0 → sp_w κ x (sp_F κ x Rt Xt mc ms) (k + mc_1) (n + ms_2) 25 [(0, .ref a0), (1, .int v1), (2, .int (v2 + (-1)))] [] μ_5) ∧ (¬ v_9 = 0 → Rt (some (.int v2)) μ_5))) (fun E_11 μ_5 => Xt E_11 μ_5))))) : sp_w κ x (sp_F κ x Rt Xt mc ms) k n 25 [(0, .ref a0), (1, .int v1), (2, .int v2)] [] μ := by
  refine sr_iload_n h dM_base0_25 rfl 2 rfl ?_
  refine sr_if_lt (tgt := 45) h dM_base0_26 (by decide) (fun c_12 => ?_) (fun c_12 => ?_)
  · replace vc := vc.1 c_12
    refine sr_iconst (v := -1) h dM_base0_45 (by decide) ?_
    exact sr_iret h dM_base0_46 hk.1 hk.2 vc
  · replace vc := vc.2 c_12
    refine sr_aload_n h dM_base0_29 rfl 0 rfl ?_
    refine sr_iload_n h dM_base0_30 rfl 2 rfl ?_
    obtain ⟨mc_1, ms_2, hc_3, vc⟩ := vc
    obtain ⟨fs_6, ho_7, vc⟩ := vc
    refine sr_callV (y := yM_isCritical) (n0 := 1) (As := [.int v2]) h (sp_gV kw_640 kw_642 kw_31 kw_35 kw_643) rfl (by decide +kernel) ⟨Nat.le_of_ble_eq_true rfl, Nat.le_of_ble_eq_true rfl⟩ (ci := 3) rfl dM_base0_31 rfl rfl (Nat.le_of_ble_eq_true rfl) hc_3 ho_7 vc (fun v_4 μ_5 vc' => ?_) (fun E_11 μ_5 vc' => ?_)
    · replace vc := vc'
      clear vc'
      obtain ⟨v_9, rfl, vc⟩ := vc
      refine sr_if_eq (tgt := 39) h dM_base0_34 (by decide) (fun c_10 => ?_) (fun c_10 => ?_)
      · replace vc := vc.1 c_10
        refine sr_iinc (u := v2 + (-1)) (lv' := [(0, .ref a0), (1, .int v1), (2, .int (v2 + (-1)))]) h dM_base0_39 2 rfl rfl (by decide) rfl ?_
        refine sr_goto (tgt := 25) h dM_base0_42 (by decide) ?_
        exact vc
      · replace vc := vc.2 c_10
        refine sr_iload_n h dM_base0_37 rfl 2 rfl ?_
        exact sr_iret h dM_base0_38 hc_3.1 hc_3.2 vc
    · replace vc := vc'
      clear vc'
      exact st_out h (fun _ z => nomatch z) hc_3.1 hc_3.2 vc
theorem opM_base0 {l : Launch} {κ : sp_K} {mc ms : Nat} {Rt : Option Value → sp_M → Prop} {Xt : String → sp_M → Prop} {μ : sp_M} {a0 : Nat} {v1 : Int32} (htr : l.stackTraces = false) (body : ∀ x : sp_X, x.2.1.stackTraces = false → cxM_base0 κ x mc ms → sp_w κ x (sp_F κ x Rt Xt mc ms) 0 0 0 [(0, .ref a0), (1, .int v1)] [] μ) : sp_m l κ yM_base0 wM_base0 2 45 mc ms [.ref a0, .int v1] μ Rt Xt :=
  sp_open htr (by decide +kernel) rfl (Nat.le_of_ble_eq_true rfl) (by intro v hv; simp only [List.mem_cons, List.not_mem_nil, or_false] at hv; rcases hv with rfl | rfl <;> first | rfl | exact sp_c1o _) (fun x hx h => body x (by rw [hx]; exact htr) h)
