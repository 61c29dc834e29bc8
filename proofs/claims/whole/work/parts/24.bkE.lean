abbrev cxE_init (κ : sp_K) (x : sp_X) (mc ms : Nat) : Prop := sp_C κ x cE_init 1 RE none [] "<init>" (sp_rm 1 22 mc ms)
set_option maxRecDepth 100000 in
set_option maxHeartbeats 4000000 in
theorem bkE_init_0 {κ : sp_K} {x : sp_X} {mc ms : Nat} {Rt : Option Value → sp_M → Prop} {Xt : String → sp_M → Prop} {μ : sp_M} {k n : Nat} {a0 : Nat} (h : cxE_init κ x mc ms) (hk : k ≤ mc ∧ n ≤ ms)
    (vc : (∃ N_1 : Nat, 256 = nI N_1 ∧ N_1 ≤ 1000000 ∧ (k + 1 ≤ mc ∧ n + N_1 ≤ ms) ∧ ∀ q_5 : Nat, μ q_5 = none → ∀ μ_7 : sp_M, μ_7 = va_up μ q_5 (some (sp_ra κ 3 N_1 (fun _ => none))) → (∃ fs_8 : List Value, μ_7 a0 = some (.inr (2, fs_8)) ∧ 0 < fs_8.length ∧ ∀ μ_10 : sp_M, μ_10 = va_up μ_7 a0 (some (.inr (2, fs_8.set 0 (.ref q_5)))) → (∃ fs_12 : List Value, μ_10 a0 = some (.inr (2, fs_12)) ∧ 1 < fs_12.length ∧ ∀ μ_14 : sp_M, μ_14 = va_up μ_10 a0 (some (.inr (2, fs_12.set 1 (.int 0)))) → (∃ N_16 : Nat, 8192 = nI N_16 ∧ N_16 ≤ 1000000 ∧ ((k + 1) + 1 ≤ mc ∧ (n + N_1) + N_16 ≤ ms) ∧ ∀ q_20 : Nat, μ_14 q_20 = none → ∀ μ_22 : sp_M, μ_22 = va_up μ_14 q_20 (some (sp_ra κ 4 N_16 (fun _ => none))) → (∃ fs_23 : List Value, μ_22 a0 = some (.inr (2, fs_23)) ∧ 2 < fs_23.length ∧ ∀ μ_25 : sp_M, μ_25 = va_up μ_22 a0 (some (.inr (2, fs_23.set 2 (.ref q_20)))) → (∃ fs_27 : List Value, μ_25 a0 = some (.inr (2, fs_27)) ∧ 3 < fs_27.length ∧ ∀ μ_29 : sp_M, μ_29 = va_up μ_25 a0 (some (.inr (2, fs_27.set 3 (.int 0)))) → (∃ fs_31 : List Value, μ_29 a0 = some (.inr (2, fs_31)) ∧ 4 < fs_31.length ∧ ∀ μ_33 : sp_M, μ_33 = va_up μ_29 a0 (some (.inr (2, fs_31.set 4 (.null)))) → (∃ N_35 : Nat, 16 = nI N_35 ∧ N_35 ≤ 1000000 ∧ ((k + 1 + 1) + 1 ≤ mc ∧ (n + N_1 + N_16) + N_35 ≤ ms) ∧ ∀ q_39 : Nat, μ_33 q_39 = none → ∀ μ_41 : sp_M, μ_41 = va_up μ_33 q_39 (some (sp_ia κ N_35 (fun _ => 0))) → (∃ fs_42 : List Value, μ_41 a0 = some (.inr (2, fs_42)) ∧ 5 < fs_42.length ∧ ∀ μ_44 : sp_M, μ_44 = va_up μ_41 a0 (some (.inr (2, fs_42.set 5 (.ref q_39)))) → (∃ fs_46 : List Value, μ_44 a0 = some (.inr (2, fs_46)) ∧ 6 < fs_46.length ∧ ∀ μ_48 : sp_M, μ_48 = va_up μ_44 a0 (some (.inr (2, fs_46.set 6 (.int 0)))) → Rt none μ_48))))))))))) : sp_w κ x (sp_F κ x Rt Xt mc ms) k n 0 [(0, .ref a0)] [] μ := by
  refine sr_aload_n h dE_init_0 rfl 0 rfl ?_
  refine sr_objInit h kw_53 kw_54 kw_oi dE_init_1 (Nat.le_of_ble_eq_true rfl) (Nat.le_of_ble_eq_true rfl) ?_
  refine sr_aload_n h dE_init_4 rfl 0 rfl ?_
  refine sr_sipush (v := 256) h dE_init_5 (by decide) ?_
  obtain ⟨N_1, hi_2, hN_3, hc_4, vc⟩ := vc
  refine sr_newq (t := 3) h kw_56 (Or.inl ⟨rfl, rfl⟩) dE_init_8 hi_2 hN_3 hc_4.1 hc_4.2 (fun q_5 hz_6 => ?_)
  replace vc := vc q_5 hz_6 _ rfl
  obtain ⟨fs_8, ho_9, vc⟩ := vc
  obtain ⟨hl_11, vc⟩ := vc
  replace vc := vc _ rfl
  refine sr_putF h rfl inE tyE tyE_ok nmE rfl 0 (by decide) kw_60 rfl rfl dE_init_11 ho_9 rfl rfl hl_11 ?_
  refine sr_aload_n h dE_init_14 rfl 0 rfl ?_
  refine sr_iconst (v := 0) h dE_init_15 (by decide) ?_
  obtain ⟨fs_12, ho_13, vc⟩ := vc
  obtain ⟨hl_15, vc⟩ := vc
  replace vc := vc _ rfl
  refine sr_put h inE tyE tyE_ok nmE rfl 1 (by decide) kw_61 rfl dE_init_16 ho_13 rfl rfl hl_15 ?_
  refine sr_aload_n h dE_init_19 rfl 0 rfl ?_
  refine sr_sipush (v := 8192) h dE_init_20 (by decide) ?_
  obtain ⟨N_16, hi_17, hN_18, hc_19, vc⟩ := vc
  refine sr_newq (t := 4) h kw_58 (Or.inr ⟨rfl, rfl⟩) dE_init_23 hi_17 hN_18 hc_19.1 hc_19.2 (fun q_20 hz_21 => ?_)
  replace vc := vc q_20 hz_21 _ rfl
  obtain ⟨fs_23, ho_24, vc⟩ := vc
  obtain ⟨hl_26, vc⟩ := vc
  replace vc := vc _ rfl
  refine sr_putF h rfl inE tyE tyE_ok nmE rfl 2 (by decide) kw_62 rfl rfl dE_init_26 ho_24 rfl rfl hl_26 ?_
  refine sr_aload_n h dE_init_29 rfl 0 rfl ?_
  refine sr_iconst (v := 0) h dE_init_30 (by decide) ?_
  obtain ⟨fs_27, ho_28, vc⟩ := vc
  obtain ⟨hl_30, vc⟩ := vc
  replace vc := vc _ rfl
  refine sr_put h inE tyE tyE_ok nmE rfl 3 (by decide) kw_63 rfl dE_init_31 ho_28 rfl rfl hl_30 ?_
  refine sr_aload_n h dE_init_34 rfl 0 rfl ?_
  refine sr_null h dE_init_35 ?_
  obtain ⟨fs_31, ho_32, vc⟩ := vc
  obtain ⟨hl_34, vc⟩ := vc
  replace vc := vc _ rfl
  refine sr_put h inE tyE tyE_ok nmE rfl 4 (by decide) kw_64 rfl dE_init_36 ho_32 rfl rfl hl_34 ?_
  refine sr_aload_n h dE_init_39 rfl 0 rfl ?_
  refine sr_bipush (v := 16) h dE_init_40 (by decide) ?_
  obtain ⟨N_35, hi_36, hN_37, hc_38, vc⟩ := vc
  refine sr_newa (atype := .int) (ty := .int) (t := 0) (N := N_35) (y := (N_35, .inl fun _ => 0)) h rfl (fun _ z => nomatch z) kw_82 rfl dE_init_42 (fun _ => rfl) rfl hi_36 (by omega) (by show N_35 * 4 ≤ _; omega) hc_38.1 hc_38.2 (fun q_39 hz_40 => ?_)
  replace vc := vc q_39 hz_40 _ rfl
  obtain ⟨fs_42, ho_43, vc⟩ := vc
  obtain ⟨hl_45, vc⟩ := vc
  replace vc := vc _ rfl
  refine sr_putF h rfl inE tyE tyE_ok nmE rfl 5 (by decide) kw_65 rfl rfl dE_init_44 ho_43 rfl rfl hl_45 ?_
  refine sr_aload_n h dE_init_47 rfl 0 rfl ?_
  refine sr_iconst (v := 0) h dE_init_48 (by decide) ?_
  obtain ⟨fs_46, ho_47, vc⟩ := vc
  obtain ⟨hl_49, vc⟩ := vc
  replace vc := vc _ rfl
  refine sr_put h inE tyE tyE_ok nmE rfl 6 (by decide) kw_66 rfl dE_init_49 ho_47 rfl rfl hl_49 ?_
  exact sr_vret h dE_init_52 hc_38.1 hc_38.2 vc
theorem opE_init {l : Launch} {κ : sp_K} {mc ms : Nat} {Rt : Option Value → sp_M → Prop} {Xt : String → sp_M → Prop} {μ : sp_M} {a0 : Nat} (htr : l.stackTraces = false) (body : ∀ x : sp_X, x.2.1.stackTraces = false → cxE_init κ x mc ms → sp_w κ x (sp_F κ x Rt Xt mc ms) 0 0 0 [(0, .ref a0)] [] μ) : sp_m l κ yE_init wE_init 1 22 mc ms [.ref a0] μ Rt Xt :=
  sp_open htr (by decide +kernel) rfl (Nat.le_of_ble_eq_true rfl) (by intro v hv; simp only [List.mem_cons, List.not_mem_nil, or_false] at hv; subst hv; first | rfl | exact sp_c1o _) (fun x hx h => body x (by rw [hx]; exact htr) h)

abbrev cxE_heads (κ : sp_K) (x : sp_X) (mc ms : Nat) : Prop := sp_C κ x cE_heads 5 RE (some .int) [] "heads" (sp_rm 1 22 mc ms)
set_option maxRecDepth 100000 in
set_option maxHeartbeats 4000000 in
theorem bkE_heads_0 {κ : sp_K} {x : sp_X} {mc ms : Nat} {Rt : Option Value → sp_M → Prop} {Xt : String → sp_M → Prop} {μ : sp_M} {k n : Nat} {a0 : Nat} (h : cxE_heads κ x mc ms) (hk : k ≤ mc ∧ n ≤ ms)
    (vc : (∃ fs_1 : List Value, μ a0 = some (.inr (2, fs_1)) ∧ 6 < fs_1.length ∧ ∀ μ_3 : sp_M, μ_3 = va_up μ a0 (some (.inr (2, fs_1.set 6 (.int 0)))) → (∃ fs_5 : List Value, μ_3 a0 = some (.inr (2, fs_5)) ∧ ∃ r_7 : Option Nat, fs_5[0]? = some (va_rf r_7) ∧ (∃ a_9 : Nat, r_7 = some a_9 ∧ ∃ (N_10 : Nat) (f_11 : Nat → Option Nat), μ_3 a_9 = some (sp_ra κ 3 N_10 f_11) ∧ sp_w κ x (sp_F κ x Rt Xt mc ms) k n 15 [(0, .ref a0), (1, .ref a_9), (2, .int (nI N_10)), (3, .int 0)] [] μ_3)))) : sp_w κ x (sp_F κ x Rt Xt mc ms) k n 0 [(0, .ref a0)] [] μ := by
  refine sr_aload_n h dE_heads_0 rfl 0 rfl ?_
  refine sr_iconst (v := 0) h dE_heads_1 (by decide) ?_
  obtain ⟨fs_1, ho_2, vc⟩ := vc
  obtain ⟨hl_4, vc⟩ := vc
  replace vc := vc _ rfl
  refine sr_put h inE tyE tyE_ok nmE rfl 6 (by decide) kw_66 rfl dE_heads_2 ho_2 rfl rfl hl_4 ?_
  refine sr_aload_n h dE_heads_5 rfl 0 rfl ?_
  obtain ⟨fs_5, ho_6, vc⟩ := vc
  obtain ⟨r_7, hv_8, vc⟩ := vc
  refine sr_get h inE rfl 0 (by decide) kw_60 dE_heads_6 ho_6 hv_8 ?_
  refine sr_astoreO_n (lv' := [(0, .ref a0), (1, va_rf r_7)]) h dE_heads_9 rfl (by decide) rfl ?_
  refine sr_aloadO_n h dE_heads_10 rfl 1 rfl ?_
  obtain ⟨a_9, rfl, vc⟩ := vc
  obtain ⟨N_10, f_11, ho_12, vc⟩ := vc
  refine sr_alen (t := 3) h dE_heads_11 ho_12 rfl ?_
  refine sr_istore_n (lv' := [(0, .ref a0), (1, .ref a_9), (2, .int (nI N_10))]) h dE_heads_12 rfl (by decide) rfl ?_
  refine sr_iconst (v := 0) h dE_heads_13 (by decide) ?_
  refine sr_istore_n (lv' := [(0, .ref a0), (1, .ref a_9), (2, .int (nI N_10)), (3, .int 0)]) h dE_heads_14 rfl (by decide) rfl ?_
  exact vc
set_option maxRecDepth 100000 in
set_option maxHeartbeats 4000000 in
theorem bkE_heads_15 {κ : sp_K} {x : sp_X} {mc ms : Nat} {Rt : Option Value → sp_M → Prop} {Xt : String → sp_M → Prop} {μ : sp_M} {k n : Nat} {a0 : Nat} {a1 : Nat} {v2 : Int32} {v3 : Int32} (h : cxE_heads κ x mc ms) (hk : k ≤ mc ∧ n ≤ ms)
    (vc : ((v2 ≤ v3 → (∃ fs_1 : List Value, μ a0 = some (.inr (2, fs_1)) ∧ ∃ v_3 : Int32, fs_1[6]? = some (.int v_3) ∧ Rt (some (.int v_3)) μ)) ∧ (¬ v2 ≤ v3 → (∃ (N_5 : Nat) (f_6 : Nat → Option Nat), μ a1 = some (sp_ra κ 3 N_5 f_6) ∧ ∃ j_8 : Nat, v3 = nI j_8 ∧ j_8 < N_5 ∧ ∃ r_11 : Option Nat, f_6 j_8 = r_11 ∧ ((r_11 = none → sp_w κ x (sp_F κ x Rt Xt mc ms) k n 15 [(0, .ref a0), (1, .ref a1), (2, .int v2), (3, .int (v3 + 1))] [] μ) ∧ (∀ a_13 : Nat, r_11 = some a_13 → (∃ fs_14 : List Value, μ a_13 = some (.inr (0, fs_14)) ∧ ∃ v_16 : Int32, fs_14[4]? = some (.int v_16) ∧ ((v_16 = 0 → sp_w κ x (sp_F κ x Rt Xt mc ms) k n 15 [(0, .ref a0), (1, .ref a1), (2, .int v2), (3, .int (v3 + 1))] [] μ) ∧ (¬ v_16 = 0 → (∃ v_18 : Int32, fs_14[3]? = some (.int v_18) ∧ (∃ mc_20 ms_21 : Nat, (k + mc_20 ≤ mc ∧ n + ms_21 ≤ ms) ∧ ∃ fs_25 : List Value, μ a0 = some (.inr (2, fs_25)) ∧ sp_m x.2.1 κ yE_putOnList wE_putOnList 0 0 mc_20 ms_21 [.ref a0, .int v_18] μ (fun v_23 μ_24 => v_23 = none ∧ sp_w κ x (sp_F κ x Rt Xt mc ms) (k + mc_20) (n + ms_21) 15 [(0, .ref a0), (1, .ref a1), (2, .int v2), (3, .int (v3 + 1))] [] μ_24) (fun E_28 μ_24 => Xt E_28 μ_24)))))))))))) : sp_w κ x (sp_F κ x Rt Xt mc ms) k n 15 [(0, .ref a0), (1, .ref a1), (2, .int v2), (3, .int v3)] [] μ := by
  refine sr_iload_n h dE_heads_15 rfl 3 rfl ?_
  refine sr_iload_n h dE_heads_16 rfl 2 rfl ?_
  refine sr_icmp_ge (tgt := 53) h dE_heads_17 (by decide) (fun c_30 => ?_) (fun c_30 => ?_)
  · replace vc := vc.1 c_30
    refine sr_aload_n h dE_heads_53 rfl 0 rfl ?_
    obtain ⟨fs_1, ho_2, vc⟩ := vc
    obtain ⟨v_3, hv_4, vc⟩ := vc
    refine sr_get h inE rfl 6 (by decide) kw_66 dE_heads_54 ho_2 hv_4 ?_
    exact sr_iret h dE_heads_57 hk.1 hk.2 vc
  · replace vc := vc.2 c_30
    refine sr_aload_n h dE_heads_20 rfl 1 rfl ?_
    refine sr_iload_n h dE_heads_21 rfl 3 rfl ?_
    obtain ⟨N_5, f_6, ho_7, vc⟩ := vc
    obtain ⟨j_8, hi_9, hj_10, vc⟩ := vc
    obtain ⟨r_11, hr_12, vc⟩ := vc
    refine sr_aald h dE_heads_22 rfl ho_7 hi_9 hj_10 hr_12 ?_
    refine sr_astoreO (lv' := [(0, .ref a0), (1, .ref a1), (2, .int v2), (3, .int v3), (4, va_rf r_11)]) h dE_heads_23 (by decide) rfl ?_
    refine sr_aloadO h dE_heads_25 4 rfl ?_
    rcases r_11 with _ | a_13
    · replace vc := vc.1 rfl
      refine sr_ifnull_n (tgt := 47) h dE_heads_27 (by decide) ?_
      refine sr_iinc (u := v3 + 1) (lv' := [(0, .ref a0), (1, .ref a1), (2, .int v2), (3, .int (v3 + 1)), (4, .null)]) h dE_heads_47 3 rfl rfl (by decide) rfl ?_
      refine sr_goto (tgt := 15) h dE_heads_50 (by decide) ?_
      exact sr_sub (lv' := [(0, .ref a0), (1, .ref a1), (2, .int v2), (3, .int (v3 + 1))]) [0, 1, 2, 3] rfl vc
    · replace vc := vc.2 a_13 rfl
      refine sr_ifnull_s h dE_heads_27 ?_
      refine sr_aload h dE_heads_30 4 rfl ?_
      obtain ⟨fs_14, ho_15, vc⟩ := vc
      obtain ⟨v_16, hv_17, vc⟩ := vc
      refine sr_get h inA rfl 4 (by decide) kw_325 dE_heads_32 ho_15 hv_17 ?_
      refine sr_if_eq (tgt := 47) h dE_heads_35 (by decide) (fun c_29 => ?_) (fun c_29 => ?_)
      · replace vc := vc.1 c_29
        refine sr_iinc (u := v3 + 1) (lv' := [(0, .ref a0), (1, .ref a1), (2, .int v2), (3, .int (v3 + 1)), (4, .ref a_13)]) h dE_heads_47 3 rfl rfl (by decide) rfl ?_
        refine sr_goto (tgt := 15) h dE_heads_50 (by decide) ?_
        exact sr_sub (lv' := [(0, .ref a0), (1, .ref a1), (2, .int v2), (3, .int (v3 + 1))]) [0, 1, 2, 3] rfl vc
      · replace vc := vc.2 c_29
        refine sr_aload_n h dE_heads_38 rfl 0 rfl ?_
        refine sr_aload h dE_heads_39 4 rfl ?_
        obtain ⟨v_18, hv_19, vc⟩ := vc
        refine sr_get h inA rfl 3 (by decide) kw_323 dE_heads_41 ho_15 hv_19 ?_
        obtain ⟨mc_20, ms_21, hc_22, vc⟩ := vc
        obtain ⟨fs_25, ho_26, vc⟩ := vc
        refine sr_callV (y := yE_putOnList) (n0 := 1) (As := [.int v_18]) h (sp_gV kw_87 kw_89 kw_0 kw_34 kw_90) rfl (by decide +kernel) ⟨Nat.le_of_ble_eq_true rfl, Nat.le_of_ble_eq_true rfl⟩ (ci := 2) rfl dE_heads_44 rfl rfl (Nat.le_of_ble_eq_true rfl) hc_22 ho_26 vc (fun v_23 μ_24 vc' => ?_) (fun E_28 μ_24 vc' => ?_)
        · replace vc := vc'
          clear vc'
          obtain ⟨rfl, vc⟩ := vc
          refine sr_iinc (u := v3 + 1) (lv' := [(0, .ref a0), (1, .ref a1), (2, .int v2), (3, .int (v3 + 1)), (4, .ref a_13)]) h dE_heads_47 3 rfl rfl (by decide) rfl ?_
          refine sr_goto (tgt := 15) h dE_heads_50 (by decide) ?_
          exact sr_sub (lv' := [(0, .ref a0), (1, .ref a1), (2, .int v2), (3, .int (v3 + 1))]) [0, 1, 2, 3] rfl vc
        · replace vc := vc'
          clear vc'
          exact st_out h (fun _ z => nomatch z) hc_22.1 hc_22.2 vc
theorem opE_heads {l : Launch} {κ : sp_K} {mc ms : Nat} {Rt : Option Value → sp_M → Prop} {Xt : String → sp_M → Prop} {μ : sp_M} {a0 : Nat} (htr : l.stackTraces = false) (body : ∀ x : sp_X, x.2.1.stackTraces = false → cxE_heads κ x mc ms → sp_w κ x (sp_F κ x Rt Xt mc ms) 0 0 0 [(0, .ref a0)] [] μ) : sp_m l κ yE_heads wE_heads 1 22 mc ms [.ref a0] μ Rt Xt :=
  sp_open htr (by decide +kernel) rfl (Nat.le_of_ble_eq_true rfl) (by intro v hv; simp only [List.mem_cons, List.not_mem_nil, or_false] at hv; subst hv; first | rfl | exact sp_c1o _) (fun x hx h => body x (by rw [hx]; exact htr) h)

abbrev cxE_putOnList (κ : sp_K) (x : sp_X) (mc ms : Nat) : Prop := sp_C κ x cE_putOnList 3 RE none [] "putOnList" (sp_rm 0 0 mc ms)
set_option maxRecDepth 100000 in
set_option maxHeartbeats 4000000 in
theorem bkE_putOnList_0 {κ : sp_K} {x : sp_X} {mc ms : Nat} {Rt : Option Value → sp_M → Prop} {Xt : String → sp_M → Prop} {μ : sp_M} {k n : Nat} {a0 : Nat} {v1 : Int32} (h : cxE_putOnList κ x mc ms) (hk : k ≤ mc ∧ n ≤ ms)
    (vc : (∃ fs_1 : List Value, μ a0 = some (.inr (2, fs_1)) ∧ ∃ v_3 : Int32, fs_1[6]? = some (.int v_3) ∧ ((v_3 < 16 → (sp_w κ x (sp_F κ x Rt Xt mc ms) k n 15 [(0, .ref a0), (1, .int v1), (2, .int v_3)] [] μ)) ∧ (¬ v_3 < 16 → Rt none μ)))) : sp_w κ x (sp_F κ x Rt Xt mc ms) k n 0 [(0, .ref a0), (1, .int v1)] [] μ := by
  refine sr_aload_n h dE_putOnList_0 rfl 0 rfl ?_
  obtain ⟨fs_1, ho_2, vc⟩ := vc
  obtain ⟨v_3, hv_4, vc⟩ := vc
  refine sr_get h inE rfl 6 (by decide) kw_66 dE_putOnList_1 ho_2 hv_4 ?_
  refine sr_bipush (v := 16) h dE_putOnList_4 (by decide) ?_
  refine sr_icmp_lt (tgt := 10) h dE_putOnList_6 (by decide) (fun c_5 => ?_) (fun c_5 => ?_)
  · replace vc := vc.1 c_5
    refine sr_aload_n h dE_putOnList_10 rfl 0 rfl ?_
    refine sr_get h inE rfl 6 (by decide) kw_66 dE_putOnList_11 ho_2 hv_4 ?_
    refine sr_istore_n (lv' := [(0, .ref a0), (1, .int v1), (2, .int v_3)]) h dE_putOnList_14 rfl (by decide) rfl ?_
    exact vc
  · replace vc := vc.2 c_5
    exact sr_vret h dE_putOnList_9 hk.1 hk.2 vc
set_option maxRecDepth 100000 in
set_option maxHeartbeats 4000000 in
theorem bkE_putOnList_15 {κ : sp_K} {x : sp_X} {mc ms : Nat} {Rt : Option Value → sp_M → Prop} {Xt : String → sp_M → Prop} {μ : sp_M} {k n : Nat} {a0 : Nat} {v1 : Int32} {v2 : Int32} (h : cxE_putOnList κ x mc ms) (hk : k ≤ mc ∧ n ≤ ms)
    (vc : ((v2 ≤ 0 → sp_w κ x (sp_F κ x Rt Xt mc ms) k n 51 [(0, .ref a0), (1, .int v1), (2, .int v2)] [] μ) ∧ (¬ v2 ≤ 0 → (∃ fs_1 : List Value, μ a0 = some (.inr (2, fs_1)) ∧ ∃ r_3 : Option Nat, fs_1[5]? = some (va_rf r_3) ∧ (∃ a_5 : Nat, r_3 = some a_5 ∧ ∃ (N_6 : Nat) (f_7 : Nat → Int32), μ a_5 = some (sp_ia κ N_6 f_7) ∧ ∃ j_9 : Nat, v2 - 1 = nI j_9 ∧ j_9 < N_6 ∧ (((f_7 j_9) ≤ v1 → sp_w κ x (sp_F κ x Rt Xt mc ms) k n 51 [(0, .ref a0), (1, .int v1), (2, .int v2)] [] μ) ∧ (¬ (f_7 j_9) ≤ v1 → (((∃ j_12 : Nat, v2 - 1 = nI j_12 ∧ j_12 < N_6 ∧ (∃ j_15 : Nat, v2 = nI j_15 ∧ j_15 < N_6 ∧ ∀ μ_18 : sp_M, μ_18 = va_up μ a_5 (some (sp_ia κ N_6 (upd f_7 j_15 (f_7 j_12)))) → sp_w κ x (sp_F κ x Rt Xt mc ms) k n 15 [(0, .ref a0), (1, .int v1), (2, .int (v2 + (-1)))] [] μ_18))))))))))) : sp_w κ x (sp_F κ x Rt Xt mc ms) k n 15 [(0, .ref a0), (1, .int v1), (2, .int v2)] [] μ := by
  refine sr_iload_n h dE_putOnList_15 rfl 2 rfl ?_
  refine sr_if_le (tgt := 51) h dE_putOnList_16 (by decide) (fun c_20 => ?_) (fun c_20 => ?_)
  · replace vc := vc.1 c_20
    exact vc
  · replace vc := vc.2 c_20
    refine sr_aload_n h dE_putOnList_19 rfl 0 rfl ?_
    obtain ⟨fs_1, ho_2, vc⟩ := vc
    obtain ⟨r_3, hv_4, vc⟩ := vc
    refine sr_get h inE rfl 5 (by decide) kw_65 dE_putOnList_20 ho_2 hv_4 ?_
    refine sr_iload_n h dE_putOnList_23 rfl 2 rfl ?_
    refine sr_iconst (v := 1) h dE_putOnList_24 (by decide) ?_
    refine sr_isub h dE_putOnList_25 ?_
    obtain ⟨a_5, rfl, vc⟩ := vc
    obtain ⟨N_6, f_7, ho_8, vc⟩ := vc
    obtain ⟨j_9, hi_10, hj_11, vc⟩ := vc
    refine sr_iald h dE_putOnList_26 ho_8 hi_10 hj_11 ?_
    refine sr_iload_n h dE_putOnList_27 rfl 1 rfl ?_
    refine sr_icmp_le (tgt := 51) h dE_putOnList_28 (by decide) (fun c_19 => ?_) (fun c_19 => ?_)
    · replace vc := vc.1 c_19
      exact vc
    · replace vc := vc.2 c_19
      refine sr_aload_n h dE_putOnList_31 rfl 0 rfl ?_
      refine sr_get h inE rfl 5 (by decide) kw_65 dE_putOnList_32 ho_2 hv_4 ?_
      refine sr_iload_n h dE_putOnList_35 rfl 2 rfl ?_
      refine sr_aload_n h dE_putOnList_36 rfl 0 rfl ?_
      refine sr_get h inE rfl 5 (by decide) kw_65 dE_putOnList_37 ho_2 hv_4 ?_
      refine sr_iload_n h dE_putOnList_40 rfl 2 rfl ?_
      refine sr_iconst (v := 1) h dE_putOnList_41 (by decide) ?_
      refine sr_isub h dE_putOnList_42 ?_
      obtain ⟨j_12, hi_13, hj_14, vc⟩ := vc
      refine sr_iald h dE_putOnList_43 ho_8 hi_13 hj_14 ?_
      obtain ⟨j_15, hi_16, hj_17, vc⟩ := vc
      replace vc := vc _ rfl
      refine sr_iast h dE_putOnList_44 ho_8 hi_16 hj_17 ?_
      refine sr_iinc (u := v2 + (-1)) (lv' := [(0, .ref a0), (1, .int v1), (2, .int (v2 + (-1)))]) h dE_putOnList_45 2 rfl rfl (by decide) rfl ?_
      refine sr_goto (tgt := 15) h dE_putOnList_48 (by decide) ?_
      exact vc
set_option maxRecDepth 100000 in
set_option maxHeartbeats 4000000 in
theorem bkE_putOnList_51 {κ : sp_K} {x : sp_X} {mc ms : Nat} {Rt : Option Value → sp_M → Prop} {Xt : String → sp_M → Prop} {μ : sp_M} {k n : Nat} {a0 : Nat} {v1 : Int32} {v2 : Int32} (h : cxE_putOnList κ x mc ms) (hk : k ≤ mc ∧ n ≤ ms)
    (vc : (∃ fs_1 : List Value, μ a0 = some (.inr (2, fs_1)) ∧ ∃ r_3 : Option Nat, fs_1[5]? = some (va_rf r_3) ∧ (∃ a_5 : Nat, r_3 = some a_5 ∧ ∃ (N_6 : Nat) (f_7 : Nat → Int32), μ a_5 = some (sp_ia κ N_6 f_7) ∧ ∃ j_9 : Nat, v2 = nI j_9 ∧ j_9 < N_6 ∧ ∀ μ_12 : sp_M, μ_12 = va_up μ a_5 (some (sp_ia κ N_6 (upd f_7 j_9 v1))) → (∃ fs_13 : List Value, μ_12 a0 = some (.inr (2, fs_13)) ∧ ∃ v_15 : Int32, fs_13[6]? = some (.int v_15) ∧ (6 < fs_13.length ∧ ∀ μ_17 : sp_M, μ_17 = va_up μ_12 a0 (some (.inr (2, fs_13.set 6 (.int (v_15 + 1))))) → Rt none μ_17))))) : sp_w κ x (sp_F κ x Rt Xt mc ms) k n 51 [(0, .ref a0), (1, .int v1), (2, .int v2)] [] μ := by
  refine sr_aload_n h dE_putOnList_51 rfl 0 rfl ?_
  obtain ⟨fs_1, ho_2, vc⟩ := vc
  obtain ⟨r_3, hv_4, vc⟩ := vc
  refine sr_get h inE rfl 5 (by decide) kw_65 dE_putOnList_52 ho_2 hv_4 ?_
  refine sr_iload_n h dE_putOnList_55 rfl 2 rfl ?_
  refine sr_iload_n h dE_putOnList_56 rfl 1 rfl ?_
  obtain ⟨a_5, rfl, vc⟩ := vc
  obtain ⟨N_6, f_7, ho_8, vc⟩ := vc
  obtain ⟨j_9, hi_10, hj_11, vc⟩ := vc
  replace vc := vc _ rfl
  refine sr_iast h dE_putOnList_57 ho_8 hi_10 hj_11 ?_
  refine sr_aload_n h dE_putOnList_58 rfl 0 rfl ?_
  refine sr_dup h dE_putOnList_59 (sp_c1r _) ?_
  obtain ⟨fs_13, ho_14, vc⟩ := vc
  obtain ⟨v_15, hv_16, vc⟩ := vc
  refine sr_get h inE rfl 6 (by decide) kw_66 dE_putOnList_60 ho_14 hv_16 ?_
  refine sr_iconst (v := 1) h dE_putOnList_63 (by decide) ?_
  refine sr_iadd h dE_putOnList_64 ?_
  obtain ⟨hl_18, vc⟩ := vc
  replace vc := vc _ rfl
  refine sr_put h inE tyE tyE_ok nmE rfl 6 (by decide) kw_66 rfl dE_putOnList_65 ho_14 rfl rfl hl_18 ?_
  exact sr_vret h dE_putOnList_68 hk.1 hk.2 vc
theorem opE_putOnList {l : Launch} {κ : sp_K} {mc ms : Nat} {Rt : Option Value → sp_M → Prop} {Xt : String → sp_M → Prop} {μ : sp_M} {a0 : Nat} {v1 : Int32} (htr : l.stackTraces = false) (body : ∀ x : sp_X, x.2.1.stackTraces = false → cxE_putOnList κ x mc ms → sp_w κ x (sp_F κ x Rt Xt mc ms) 0 0 0 [(0, .ref a0), (1, .int v1)] [] μ) : sp_m l κ yE_putOnList wE_putOnList 0 0 mc ms [.ref a0, .int v1] μ Rt Xt :=
  sp_open htr (by decide +kernel) rfl (Nat.le_of_ble_eq_true rfl) (by intro v hv; simp only [List.mem_cons, List.not_mem_nil, or_false] at hv; rcases hv with rfl | rfl <;> first | rfl | exact sp_c1o _) (fun x hx h => body x (by rw [hx]; exact htr) h)

abbrev cxE_critical (κ : sp_K) (x : sp_X) (mc ms : Nat) : Prop := sp_C κ x cE_critical 5 RE (some .int) [] "critical" (sp_rm 1 22 mc ms)
set_option maxRecDepth 100000 in
set_option maxHeartbeats 4000000 in
theorem bkE_critical_0 {κ : sp_K} {x : sp_X} {mc ms : Nat} {Rt : Option Value → sp_M → Prop} {Xt : String → sp_M → Prop} {μ : sp_M} {k n : Nat} {a0 : Nat} (h : cxE_critical κ x mc ms) (hk : k ≤ mc ∧ n ≤ ms)
    (vc : (∃ fs_1 : List Value, μ a0 = some (.inr (2, fs_1)) ∧ ∃ v_3 : Int32, fs_1[3]? = some (.int v_3) ∧ (∃ r_5 : Option Nat, fs_1[4]? = some (va_rf r_5) ∧ sp_w κ x (sp_F κ x Rt Xt mc ms) k n 12 [(0, .ref a0), (1, .int 0), (2, .int v_3), (3, va_rf r_5)] [] μ))) : sp_w κ x (sp_F κ x Rt Xt mc ms) k n 0 [(0, .ref a0)] [] μ := by
  refine sr_iconst (v := 0) h dE_critical_0 (by decide) ?_
  refine sr_istore_n (lv' := [(0, .ref a0), (1, .int 0)]) h dE_critical_1 rfl (by decide) rfl ?_
  refine sr_aload_n h dE_critical_2 rfl 0 rfl ?_
  obtain ⟨fs_1, ho_2, vc⟩ := vc
  obtain ⟨v_3, hv_4, vc⟩ := vc
  refine sr_get h inE rfl 3 (by decide) kw_63 dE_critical_3 ho_2 hv_4 ?_
  refine sr_istore_n (lv' := [(0, .ref a0), (1, .int 0), (2, .int v_3)]) h dE_critical_6 rfl (by decide) rfl ?_
  refine sr_aload_n h dE_critical_7 rfl 0 rfl ?_
  obtain ⟨r_5, hv_6, vc⟩ := vc
  refine sr_get h inE rfl 4 (by decide) kw_64 dE_critical_8 ho_2 hv_6 ?_
  refine sr_astoreO_n (lv' := [(0, .ref a0), (1, .int 0), (2, .int v_3), (3, va_rf r_5)]) h dE_critical_11 rfl (by decide) rfl ?_
  exact vc
set_option maxRecDepth 100000 in
set_option maxHeartbeats 4000000 in
theorem bkE_critical_12 {κ : sp_K} {x : sp_X} {mc ms : Nat} {Rt : Option Value → sp_M → Prop} {Xt : String → sp_M → Prop} {μ : sp_M} {k n : Nat} {a0 : Nat} {v1 : Int32} {v2 : Int32} {r3 : Option Nat} (h : cxE_critical κ x mc ms) (hk : k ≤ mc ∧ n ≤ ms)
    (vc : ((r3 = none → Rt (some (.int v1)) μ) ∧ (∀ a_1 : Nat, r3 = some a_1 → (∃ fs_2 : List Value, μ a_1 = some (.inr (1, fs_2)) ∧ ∃ v_4 : Int32, fs_2[2]? = some (.int v_4) ∧ (∃ v_6 : Int32, fs_2[6]? = some (.int v_6) ∧ ((v_6 = 0 → sp_w κ x (sp_F κ x Rt Xt mc ms) k n 54 [(0, .ref a0), (1, .int v1), (2, .int v2), (3, .ref a_1), (4, .int (if v_4 < v2 then v_4 else v2))] [] μ) ∧ (¬ v_6 = 0 → (∃ v_8 : Int32, fs_2[1]? = some (.int v_8) ∧ (((if v_4 < v2 then v_4 else v2) < v_8 → sp_w κ x (sp_F κ x Rt Xt mc ms) k n 54 [(0, .ref a0), (1, .int v1), (2, .int v2), (3, .ref a_1), (4, .int (if v_4 < v2 then v_4 else v2))] [] μ) ∧ (¬ (if v_4 < v2 then v_4 else v2) < v_8 → (sp_w κ x (sp_F κ x Rt Xt mc ms) k n 54 [(0, .ref a0), (1, .int (v1 + (((if v_4 < v2 then v_4 else v2) - v_8) + 1))), (2, .int v2), (3, .ref a_1), (4, .int (if v_4 < v2 then v_4 else v2))] [] μ))))))))))) : sp_w κ x (sp_F κ x Rt Xt mc ms) k n 12 [(0, .ref a0), (1, .int v1), (2, .int v2), (3, va_rf r3)] [] μ := by
  refine sr_aloadO_n h dE_critical_12 rfl 3 rfl ?_
  rcases r3 with _ | a_1
  · replace vc := vc.1 rfl
    refine sr_ifnull_n (tgt := 71) h dE_critical_13 (by decide) ?_
    refine sr_iload_n h dE_critical_71 rfl 1 rfl ?_
    exact sr_iret h dE_critical_72 hk.1 hk.2 vc
  · replace vc := vc.2 a_1 rfl
    refine sr_ifnull_s h dE_critical_13 ?_
    refine sr_iload_n h dE_critical_16 rfl 2 rfl ?_
    refine sr_aload_n h dE_critical_17 rfl 3 rfl ?_
    obtain ⟨fs_2, ho_3, vc⟩ := vc
    obtain ⟨v_4, hv_5, vc⟩ := vc
    refine sr_get h inS rfl 2 (by decide) kw_359 dE_critical_18 ho_3 hv_5 ?_
    refine sr_mmin h kw_95 kw_96 kw_44 kw_mmin dE_critical_21 (Nat.le_of_ble_eq_true rfl) (Nat.le_of_ble_eq_true rfl) hk.1 hk.2 ?_
    refine sr_istore (lv' := [(0, .ref a0), (1, .int v1), (2, .int v2), (3, .ref a_1), (4, .int (if v_4 < v2 then v_4 else v2))]) h dE_critical_24 (by decide) rfl ?_
    refine sr_aload_n h dE_critical_26 rfl 3 rfl ?_
    obtain ⟨v_6, hv_7, vc⟩ := vc
    refine sr_get h inS rfl 6 (by decide) kw_365 dE_critical_27 ho_3 hv_7 ?_
    refine sr_if_eq (tgt := 54) h dE_critical_30 (by decide) (fun c_11 => ?_) (fun c_11 => ?_)
    · replace vc := vc.1 c_11
      exact vc
    · replace vc := vc.2 c_11
      refine sr_iload h dE_critical_33 4 rfl ?_
      refine sr_aload_n h dE_critical_35 rfl 3 rfl ?_
      obtain ⟨v_8, hv_9, vc⟩ := vc
      refine sr_get h inS rfl 1 (by decide) kw_357 dE_critical_36 ho_3 hv_9 ?_
      refine sr_icmp_lt (tgt := 54) h dE_critical_39 (by decide) (fun c_10 => ?_) (fun c_10 => ?_)
      · replace vc := vc.1 c_10
        exact vc
      · replace vc := vc.2 c_10
        refine sr_iload_n h dE_critical_42 rfl 1 rfl ?_
        refine sr_iload h dE_critical_43 4 rfl ?_
        refine sr_aload_n h dE_critical_45 rfl 3 rfl ?_
        refine sr_get h inS rfl 1 (by decide) kw_357 dE_critical_46 ho_3 hv_9 ?_
        refine sr_isub h dE_critical_49 ?_
        refine sr_iconst (v := 1) h dE_critical_50 (by decide) ?_
        refine sr_iadd h dE_critical_51 ?_
        refine sr_iadd h dE_critical_52 ?_
        refine sr_istore_n (lv' := [(0, .ref a0), (1, .int (v1 + (((if v_4 < v2 then v_4 else v2) - v_8) + 1))), (2, .int v2), (3, .ref a_1), (4, .int (if v_4 < v2 then v_4 else v2))]) h dE_critical_53 rfl (by decide) rfl ?_
        exact vc
set_option maxRecDepth 100000 in
set_option maxHeartbeats 4000000 in
theorem bkE_critical_54 {κ : sp_K} {x : sp_X} {mc ms : Nat} {Rt : Option Value → sp_M → Prop} {Xt : String → sp_M → Prop} {μ : sp_M} {k n : Nat} {a0 : Nat} {v1 : Int32} {v2 : Int32} {a3 : Nat} {v4 : Int32} (h : cxE_critical κ x mc ms) (hk : k ≤ mc ∧ n ≤ ms)
    (vc : (∃ mc_1 ms_2 : Nat, (k + mc_1 ≤ mc ∧ n + ms_2 ≤ ms) ∧ ∃ fs_6 : List Value, μ a3 = some (.inr (1, fs_6)) ∧ sp_m x.2.1 κ yS_newestParent wS_newestParent 0 0 mc_1 ms_2 [.ref a3] μ (fun v_4 μ_5 => ∃ v_9 : Int32, v_4 = some (.int v_9) ∧ (∃ fs_10 : List Value, μ_5 a3 = some (.inr (1, fs_10)) ∧ ∃ r_12 : Option Nat, fs_10[7]? = some (va_rf r_12) ∧ sp_w κ x (sp_F κ x Rt Xt mc ms) (k + mc_1) (n + ms_2) 12 [(0, .ref a0), (1, .int v1), (2, .int (if v_9 < v2 then v_9 else v2)), (3, va_rf r_12)] [] μ_5)) (fun E_14 μ_5 => Xt E_14 μ_5))) : sp_w κ x (sp_F κ x Rt Xt mc ms) k n 54 [(0, .ref a0), (1, .int v1), (2, .int v2), (3, .ref a3), (4, .int v4)] [] μ := by
  refine sr_iload_n h dE_critical_54 rfl 2 rfl ?_
  refine sr_aload_n h dE_critical_55 rfl 3 rfl ?_
  obtain ⟨mc_1, ms_2, hc_3, vc⟩ := vc
  obtain ⟨fs_6, ho_7, vc⟩ := vc
  refine sr_callV (y := yS_newestParent) (n0 := 0) (As := []) h (sp_gV kw_98 kw_99 kw_100 kw_47 kw_101) rfl (by decide +kernel) ⟨Nat.le_of_ble_eq_true rfl, Nat.le_of_ble_eq_true rfl⟩ (ci := 1) rfl dE_critical_56 rfl rfl (Nat.le_of_ble_eq_true rfl) hc_3 ho_7 vc (fun v_4 μ_5 vc' => ?_) (fun E_14 μ_5 vc' => ?_)
  · replace vc := vc'
    clear vc'
    obtain ⟨v_9, rfl, vc⟩ := vc
    refine sr_mmin h kw_95 kw_96 kw_44 kw_mmin dE_critical_59 (Nat.le_of_ble_eq_true rfl) (Nat.le_of_ble_eq_true rfl) hc_3.1 hc_3.2 ?_
    refine sr_istore_n (lv' := [(0, .ref a0), (1, .int v1), (2, .int (if v_9 < v2 then v_9 else v2)), (3, .ref a3), (4, .int v4)]) h dE_critical_62 rfl (by decide) rfl ?_
    refine sr_aload_n h dE_critical_63 rfl 3 rfl ?_
    obtain ⟨fs_10, ho_11, vc⟩ := vc
    obtain ⟨r_12, hv_13, vc⟩ := vc
    refine sr_get h inS rfl 7 (by decide) kw_367 dE_critical_64 ho_11 hv_13 ?_
    refine sr_astoreO_n (lv' := [(0, .ref a0), (1, .int v1), (2, .int (if v_9 < v2 then v_9 else v2)), (3, va_rf r_12), (4, .int v4)]) h dE_critical_67 rfl (by decide) rfl ?_
    refine sr_goto (tgt := 12) h dE_critical_68 (by decide) ?_
    exact sr_sub (lv' := [(0, .ref a0), (1, .int v1), (2, .int (if v_9 < v2 then v_9 else v2)), (3, va_rf r_12)]) [0, 1, 2, 3] rfl vc
  · replace vc := vc'
    clear vc'
    exact st_out h (fun _ z => nomatch z) hc_3.1 hc_3.2 vc
theorem opE_critical {l : Launch} {κ : sp_K} {mc ms : Nat} {Rt : Option Value → sp_M → Prop} {Xt : String → sp_M → Prop} {μ : sp_M} {a0 : Nat} (htr : l.stackTraces = false) (body : ∀ x : sp_X, x.2.1.stackTraces = false → cxE_critical κ x mc ms → sp_w κ x (sp_F κ x Rt Xt mc ms) 0 0 0 [(0, .ref a0)] [] μ) : sp_m l κ yE_critical wE_critical 1 22 mc ms [.ref a0] μ Rt Xt :=
  sp_open htr (by decide +kernel) rfl (Nat.le_of_ble_eq_true rfl) (by intro v hv; simp only [List.mem_cons, List.not_mem_nil, or_false] at hv; subst hv; first | rfl | exact sp_c1o _) (fun x hx h => body x (by rw [hx]; exact htr) h)

abbrev cxE_base (κ : sp_K) (x : sp_X) (mc ms : Nat) : Prop := sp_C κ x cE_base 5 RE (some .int) [] "base" (sp_rm 2 42 mc ms)
set_option maxRecDepth 100000 in
set_option maxHeartbeats 4000000 in
theorem bkE_base_0 {κ : sp_K} {x : sp_X} {mc ms : Nat} {Rt : Option Value → sp_M → Prop} {Xt : String → sp_M → Prop} {μ : sp_M} {k n : Nat} {a0 : Nat} {v1 : Int32} (h : cxE_base κ x mc ms) (hk : k ≤ mc ∧ n ≤ ms)
    (vc : (∃ mc_1 ms_2 : Nat, (k + mc_1 ≤ mc ∧ n + ms_2 ≤ ms) ∧ sp_m x.2.1 κ yE_highestBelow wE_highestBelow 1 22 mc_1 ms_2 [.int v1] μ (fun v_4 μ_5 => ∃ v_7 : Int32, v_4 = some (.int v_7) ∧ (∃ fs_8 : List Value, μ_5 a0 = some (.inr (2, fs_8)) ∧ ∃ r_10 : Option Nat, fs_8[4]? = some (va_rf r_10) ∧ sp_w κ x (sp_F κ x Rt Xt mc ms) (k + mc_1) (n + ms_2) 10 [(0, .ref a0), (1, .int v1), (2, .int v_7), (3, va_rf r_10)] [] μ_5)) (fun E_12 μ_5 => Xt E_12 μ_5))) : sp_w κ x (sp_F κ x Rt Xt mc ms) k n 0 [(0, .ref a0), (1, .int v1)] [] μ := by
  refine sr_iload_n h dE_base_0 rfl 1 rfl ?_
  obtain ⟨mc_1, ms_2, hc_3, vc⟩ := vc
  refine sr_callS (y := yE_highestBelow) (n0 := 1) (As := [.int v1]) (st := []) h (sp_gS kw_106 kw_107 kw_34 kw_108) rfl (by decide +kernel) ⟨Nat.le_of_ble_eq_true rfl, Nat.le_of_ble_eq_true rfl⟩ dE_base_1 rfl rfl (Nat.le_of_ble_eq_true rfl) hc_3 vc (fun v_4 μ_5 vc' => ?_) (fun E_12 μ_5 vc' => ?_)
  · replace vc := vc'
    clear vc'
    obtain ⟨v_7, rfl, vc⟩ := vc
    refine sr_istore_n (lv' := [(0, .ref a0), (1, .int v1), (2, .int v_7)]) h dE_base_4 rfl (by decide) rfl ?_
    refine sr_aload_n h dE_base_5 rfl 0 rfl ?_
    obtain ⟨fs_8, ho_9, vc⟩ := vc
    obtain ⟨r_10, hv_11, vc⟩ := vc
    refine sr_get h inE rfl 4 (by decide) kw_64 dE_base_6 ho_9 hv_11 ?_
    refine sr_astoreO_n (lv' := [(0, .ref a0), (1, .int v1), (2, .int v_7), (3, va_rf r_10)]) h dE_base_9 rfl (by decide) rfl ?_
    exact vc
  · replace vc := vc'
    clear vc'
    exact st_out h (fun _ z => nomatch z) hc_3.1 hc_3.2 vc
set_option maxRecDepth 100000 in
set_option maxHeartbeats 4000000 in
theorem bkE_base_10 {κ : sp_K} {x : sp_X} {mc ms : Nat} {Rt : Option Value → sp_M → Prop} {Xt : String → sp_M → Prop} {μ : sp_M} {k n : Nat} {a0 : Nat} {v1 : Int32} {v2 : Int32} {r3 : Option Nat} (h : cxE_base κ x mc ms) (hk : k ≤ mc ∧ n ≤ ms)
    (vc : ((r3 = none → Rt (some (.int (-1))) μ) ∧ (∀ a_1 : Nat, r3 = some a_1 → (∃ fs_2 : List Value, μ a_1 = some (.inr (1, fs_2)) ∧ ∃ v_4 : Int32, fs_2[2]? = some (.int v_4) ∧ (∃ v_6 : Int32, fs_2[6]? = some (.int v_6) ∧ ((v_6 = 0 → sp_w κ x (sp_F κ x Rt Xt mc ms) k n 43 [(0, .ref a0), (1, .int v1), (2, .int v2), (3, .ref a_1), (4, .int (if v_4 < v2 then v_4 else v2))] [] μ) ∧ (¬ v_6 = 0 → (∃ v_8 : Int32, fs_2[1]? = some (.int v_8) ∧ (((if v_4 < v2 then v_4 else v2) < v_8 → sp_w κ x (sp_F κ x Rt Xt mc ms) k n 43 [(0, .ref a0), (1, .int v1), (2, .int v2), (3, .ref a_1), (4, .int (if v_4 < v2 then v_4 else v2))] [] μ) ∧ (¬ (if v_4 < v2 then v_4 else v2) < v_8 → Rt (some (.int (if v_4 < v2 then v_4 else v2))) μ)))))))))) : sp_w κ x (sp_F κ x Rt Xt mc ms) k n 10 [(0, .ref a0), (1, .int v1), (2, .int v2), (3, va_rf r3)] [] μ := by
  refine sr_aloadO_n h dE_base_10 rfl 3 rfl ?_
  rcases r3 with _ | a_1
  · replace vc := vc.1 rfl
    refine sr_ifnull_n (tgt := 60) h dE_base_11 (by decide) ?_
    refine sr_iconst (v := -1) h dE_base_60 (by decide) ?_
    exact sr_iret h dE_base_61 hk.1 hk.2 vc
  · replace vc := vc.2 a_1 rfl
    refine sr_ifnull_s h dE_base_11 ?_
    refine sr_iload_n h dE_base_14 rfl 2 rfl ?_
    refine sr_aload_n h dE_base_15 rfl 3 rfl ?_
    obtain ⟨fs_2, ho_3, vc⟩ := vc
    obtain ⟨v_4, hv_5, vc⟩ := vc
    refine sr_get h inS rfl 2 (by decide) kw_359 dE_base_16 ho_3 hv_5 ?_
    refine sr_mmin h kw_95 kw_96 kw_44 kw_mmin dE_base_19 (Nat.le_of_ble_eq_true rfl) (Nat.le_of_ble_eq_true rfl) hk.1 hk.2 ?_
    refine sr_istore (lv' := [(0, .ref a0), (1, .int v1), (2, .int v2), (3, .ref a_1), (4, .int (if v_4 < v2 then v_4 else v2))]) h dE_base_22 (by decide) rfl ?_
    refine sr_aload_n h dE_base_24 rfl 3 rfl ?_
    obtain ⟨v_6, hv_7, vc⟩ := vc
    refine sr_get h inS rfl 6 (by decide) kw_365 dE_base_25 ho_3 hv_7 ?_
    refine sr_if_eq (tgt := 43) h dE_base_28 (by decide) (fun c_11 => ?_) (fun c_11 => ?_)
    · replace vc := vc.1 c_11
      exact vc
    · replace vc := vc.2 c_11
      refine sr_iload h dE_base_31 4 rfl ?_
      refine sr_aload_n h dE_base_33 rfl 3 rfl ?_
      obtain ⟨v_8, hv_9, vc⟩ := vc
      refine sr_get h inS rfl 1 (by decide) kw_357 dE_base_34 ho_3 hv_9 ?_
      refine sr_icmp_lt (tgt := 43) h dE_base_37 (by decide) (fun c_10 => ?_) (fun c_10 => ?_)
      · replace vc := vc.1 c_10
        exact vc
      · replace vc := vc.2 c_10
        refine sr_iload h dE_base_40 4 rfl ?_
        exact sr_iret h dE_base_42 hk.1 hk.2 vc
set_option maxRecDepth 100000 in
set_option maxHeartbeats 4000000 in
theorem bkE_base_43 {κ : sp_K} {x : sp_X} {mc ms : Nat} {Rt : Option Value → sp_M → Prop} {Xt : String → sp_M → Prop} {μ : sp_M} {k n : Nat} {a0 : Nat} {v1 : Int32} {v2 : Int32} {a3 : Nat} {v4 : Int32} (h : cxE_base κ x mc ms) (hk : k ≤ mc ∧ n ≤ ms)
    (vc : (∃ mc_1 ms_2 : Nat, (k + mc_1 ≤ mc ∧ n + ms_2 ≤ ms) ∧ ∃ fs_6 : List Value, μ a3 = some (.inr (1, fs_6)) ∧ sp_m x.2.1 κ yS_newestParent wS_newestParent 0 0 mc_1 ms_2 [.ref a3] μ (fun v_4 μ_5 => ∃ v_9 : Int32, v_4 = some (.int v_9) ∧ (∃ fs_10 : List Value, μ_5 a3 = some (.inr (1, fs_10)) ∧ ∃ r_12 : Option Nat, fs_10[7]? = some (va_rf r_12) ∧ sp_w κ x (sp_F κ x Rt Xt mc ms) (k + mc_1) (n + ms_2) 10 [(0, .ref a0), (1, .int v1), (2, .int (if v_9 < v2 then v_9 else v2)), (3, va_rf r_12)] [] μ_5)) (fun E_14 μ_5 => Xt E_14 μ_5))) : sp_w κ x (sp_F κ x Rt Xt mc ms) k n 43 [(0, .ref a0), (1, .int v1), (2, .int v2), (3, .ref a3), (4, .int v4)] [] μ := by
  refine sr_iload_n h dE_base_43 rfl 2 rfl ?_
  refine sr_aload_n h dE_base_44 rfl 3 rfl ?_
  obtain ⟨mc_1, ms_2, hc_3, vc⟩ := vc
  obtain ⟨fs_6, ho_7, vc⟩ := vc
  refine sr_callV (y := yS_newestParent) (n0 := 0) (As := []) h (sp_gV kw_98 kw_99 kw_100 kw_47 kw_101) rfl (by decide +kernel) ⟨Nat.le_of_ble_eq_true rfl, Nat.le_of_ble_eq_true rfl⟩ (ci := 1) rfl dE_base_45 rfl rfl (Nat.le_of_ble_eq_true rfl) hc_3 ho_7 vc (fun v_4 μ_5 vc' => ?_) (fun E_14 μ_5 vc' => ?_)
  · replace vc := vc'
    clear vc'
    obtain ⟨v_9, rfl, vc⟩ := vc
    refine sr_mmin h kw_95 kw_96 kw_44 kw_mmin dE_base_48 (Nat.le_of_ble_eq_true rfl) (Nat.le_of_ble_eq_true rfl) hc_3.1 hc_3.2 ?_
    refine sr_istore_n (lv' := [(0, .ref a0), (1, .int v1), (2, .int (if v_9 < v2 then v_9 else v2)), (3, .ref a3), (4, .int v4)]) h dE_base_51 rfl (by decide) rfl ?_
    refine sr_aload_n h dE_base_52 rfl 3 rfl ?_
    obtain ⟨fs_10, ho_11, vc⟩ := vc
    obtain ⟨r_12, hv_13, vc⟩ := vc
    refine sr_get h inS rfl 7 (by decide) kw_367 dE_base_53 ho_11 hv_13 ?_
    refine sr_astoreO_n (lv' := [(0, .ref a0), (1, .int v1), (2, .int (if v_9 < v2 then v_9 else v2)), (3, va_rf r_12), (4, .int v4)]) h dE_base_56 rfl (by decide) rfl ?_
    refine sr_goto (tgt := 10) h dE_base_57 (by decide) ?_
    exact sr_sub (lv' := [(0, .ref a0), (1, .int v1), (2, .int (if v_9 < v2 then v_9 else v2)), (3, va_rf r_12)]) [0, 1, 2, 3] rfl vc
  · replace vc := vc'
    clear vc'
    exact st_out h (fun _ z => nomatch z) hc_3.1 hc_3.2 vc
theorem opE_base {l : Launch} {κ : sp_K} {mc ms : Nat} {Rt : Option Value → sp_M → Prop} {Xt : String → sp_M → Prop} {μ : sp_M} {a0 : Nat} {v1 : Int32} (htr : l.stackTraces = false) (body : ∀ x : sp_X, x.2.1.stackTraces = false → cxE_base κ x mc ms → sp_w κ x (sp_F κ x Rt Xt mc ms) 0 0 0 [(0, .ref a0), (1, .int v1)] [] μ) : sp_m l κ yE_base wE_base 2 42 mc ms [.ref a0, .int v1] μ Rt Xt :=
  sp_open htr (by decide +kernel) rfl (Nat.le_of_ble_eq_true rfl) (by intro v hv; simp only [List.mem_cons, List.not_mem_nil, or_false] at hv; rcases hv with rfl | rfl <;> first | rfl | exact sp_c1o _) (fun x hx h => body x (by rw [hx]; exact htr) h)

abbrev cxE_highestBelow (κ : sp_K) (x : sp_X) (mc ms : Nat) : Prop := sp_C κ x cE_highestBelow 1 RE (some .int) [] "highestBelow" (sp_rm 1 22 mc ms)
set_option maxRecDepth 100000 in
set_option maxHeartbeats 4000000 in
theorem bkE_highestBelow_0 {κ : sp_K} {x : sp_X} {mc ms : Nat} {Rt : Option Value → sp_M → Prop} {Xt : String → sp_M → Prop} {μ : sp_M} {k n : Nat} {v0 : Int32} (h : cxE_highestBelow κ x mc ms) (hk : k ≤ mc ∧ n ≤ ms)
    (vc : Rt (some (.int ((if v0 < 0 then 0 else v0) - 1))) μ) : sp_w κ x (sp_F κ x Rt Xt mc ms) k n 0 [(0, .int v0)] [] μ := by
  refine sr_iload_n h dE_highestBelow_0 rfl 0 rfl ?_
  refine sr_iconst (v := 0) h dE_highestBelow_1 (by decide) ?_
  refine sr_mmax h kw_109 kw_110 kw_44 kw_mmax dE_highestBelow_2 (Nat.le_of_ble_eq_true rfl) (Nat.le_of_ble_eq_true rfl) hk.1 hk.2 ?_
  refine sr_iconst (v := 1) h dE_highestBelow_5 (by decide) ?_
  refine sr_isub h dE_highestBelow_6 ?_
  exact sr_iret h dE_highestBelow_7 hk.1 hk.2 vc
theorem opE_highestBelow {l : Launch} {κ : sp_K} {mc ms : Nat} {Rt : Option Value → sp_M → Prop} {Xt : String → sp_M → Prop} {μ : sp_M} {v0 : Int32} (htr : l.stackTraces = false) (body : ∀ x : sp_X, x.2.1.stackTraces = false → cxE_highestBelow κ x mc ms → sp_w κ x (sp_F κ x Rt Xt mc ms) 0 0 0 [(0, .int v0)] [] μ) : sp_m l κ yE_highestBelow wE_highestBelow 1 22 mc ms [.int v0] μ Rt Xt :=
  sp_open htr (by decide +kernel) rfl (Nat.le_of_ble_eq_true rfl) (by intro v hv; simp only [List.mem_cons, List.not_mem_nil, or_false] at hv; subst hv; first | rfl | exact sp_c1o _) (fun x hx h => body x (by rw [hx]; exact htr) h)

abbrev cxE_parent (κ : sp_K) (x : sp_X) (mc ms : Nat) : Prop := sp_C κ x cE_parent 4 RE (some .int) [] "parent" (sp_rm 7 113 mc ms)
set_option maxRecDepth 100000 in
set_option maxHeartbeats 4000000 in
theorem bkE_parent_0 {κ : sp_K} {x : sp_X} {mc ms : Nat} {Rt : Option Value → sp_M → Prop} {Xt : String → sp_M → Prop} {μ : sp_M} {k n : Nat} {a0 : Nat} {v1 : Int32} {v2 : Int32} (h : cxE_parent κ x mc ms) (hk : k ≤ mc ∧ n ≤ ms)
    (vc : (∃ mc_1 ms_2 : Nat, (k + mc_1 ≤ mc ∧ n + ms_2 ≤ ms) ∧ ∃ fs_6 : List Value, μ a0 = some (.inr (2, fs_6)) ∧ sp_m x.2.1 κ yE_find wE_find 6 90 mc_1 ms_2 [.ref a0, .int v1, .int v2] μ (fun v_4 μ_5 => ∃ v_9 : Int32, v_4 = some (.int v_9) ∧ (∃ mc_10 ms_11 : Nat, ((k + mc_1) + mc_10 ≤ mc ∧ (n + ms_2) + ms_11 ≤ ms) ∧ ∃ fs_15 : List Value, μ_5 a0 = some (.inr (2, fs_15)) ∧ sp_m x.2.1 κ yE_isListed wE_isListed 0 0 mc_10 ms_11 [.ref a0, .int v_9] μ_5 (fun v_13 μ_14 => ∃ v_18 : Int32, v_13 = some (.int v_18) ∧ ((v_18 = 0 → (∃ fs_19 : List Value, μ_14 a0 = some (.inr (2, fs_19)) ∧ ∃ v_21 : Int32, fs_19[6]? = some (.int v_21) ∧ ((v_21 < 16 → (∃ mc_23 ms_24 : Nat, ((k + mc_1 + mc_10) + mc_23 ≤ mc ∧ (n + ms_2 + ms_11) + ms_24 ≤ ms) ∧ sp_m x.2.1 κ yE_putOnList wE_putOnList 0 0 mc_23 ms_24 [.ref a0, .int v_9] μ_14 (fun v_26 μ_27 => v_26 = none ∧ (∃ fs_29 : List Value, μ_27 a0 = some (.inr (2, fs_29)) ∧ ∃ v_31 : Int32, fs_29[6]? = some (.int v_31) ∧ Rt (some (.int v_31)) μ_27)) (fun E_33 μ_27 => Xt E_33 μ_27))) ∧ (¬ v_21 < 16 → (((k + mc_1 + mc_10) + 1 ≤ mc ∧ (n + ms_2 + ms_11) + 6 ≤ ms) ∧ Xt "java/lang/IllegalStateException" μ_14))))) ∧ (¬ v_18 = 0 → (((k + mc_1 + mc_10) + 1 ≤ mc ∧ (n + ms_2 + ms_11) + 6 ≤ ms) ∧ Xt "java/lang/UnsupportedOperationException" μ_14)))) (fun E_38 μ_14 => Xt E_38 μ_14))) (fun E_39 μ_5 => Xt E_39 μ_5))) : sp_w κ x (sp_F κ x Rt Xt mc ms) k n 0 [(0, .ref a0), (1, .int v1), (2, .int v2)] [] μ := by
  refine sr_aload_n h dE_parent_0 rfl 0 rfl ?_
  refine sr_iload_n h dE_parent_1 rfl 1 rfl ?_
  refine sr_iload_n h dE_parent_2 rfl 2 rfl ?_
  obtain ⟨mc_1, ms_2, hc_3, vc⟩ := vc
  obtain ⟨fs_6, ho_7, vc⟩ := vc
  refine sr_callV (y := yE_find) (n0 := 2) (As := [.int v1, .int v2]) h (sp_gV kw_122 kw_124 kw_1 kw_34 kw_125) rfl (by decide +kernel) ⟨Nat.le_of_ble_eq_true rfl, Nat.le_of_ble_eq_true rfl⟩ (ci := 2) rfl dE_parent_3 rfl rfl (Nat.le_of_ble_eq_true rfl) hc_3 ho_7 vc (fun v_4 μ_5 vc' => ?_) (fun E_39 μ_5 vc' => ?_)
  · replace vc := vc'
    clear vc'
    obtain ⟨v_9, rfl, vc⟩ := vc
    refine sr_istore_n (lv' := [(0, .ref a0), (1, .int v1), (2, .int v2), (3, .int v_9)]) h dE_parent_6 rfl (by decide) rfl ?_
    refine sr_aload_n h dE_parent_7 rfl 0 rfl ?_
    refine sr_iload_n h dE_parent_8 rfl 3 rfl ?_
    obtain ⟨mc_10, ms_11, hc_12, vc⟩ := vc
    obtain ⟨fs_15, ho_16, vc⟩ := vc
    refine sr_callV (y := yE_isListed) (n0 := 1) (As := [.int v_9]) h (sp_gV kw_205 kw_207 kw_3 kw_34 kw_208) rfl (by decide +kernel) ⟨Nat.le_of_ble_eq_true rfl, Nat.le_of_ble_eq_true rfl⟩ (ci := 2) rfl dE_parent_9 rfl rfl (Nat.le_of_ble_eq_true rfl) hc_12 ho_16 vc (fun v_13 μ_14 vc' => ?_) (fun E_38 μ_14 vc' => ?_)
    · replace vc := vc'
      clear vc'
      obtain ⟨v_18, rfl, vc⟩ := vc
      refine sr_if_eq (tgt := 23) h dE_parent_12 (by decide) (fun c_37 => ?_) (fun c_37 => ?_)
      · replace vc := vc.1 c_37
        refine sr_aload_n h dE_parent_23 rfl 0 rfl ?_
        obtain ⟨fs_19, ho_20, vc⟩ := vc
        obtain ⟨v_21, hv_22, vc⟩ := vc
        refine sr_get h inE rfl 6 (by decide) kw_66 dE_parent_24 ho_20 hv_22 ?_
        refine sr_bipush (v := 16) h dE_parent_27 (by decide) ?_
        refine sr_icmp_lt (tgt := 40) h dE_parent_29 (by decide) (fun c_35 => ?_) (fun c_35 => ?_)
        · replace vc := vc.1 c_35
          refine sr_aload_n h dE_parent_40 rfl 0 rfl ?_
          refine sr_iload_n h dE_parent_41 rfl 3 rfl ?_
          obtain ⟨mc_23, ms_24, hc_25, vc⟩ := vc
          refine sr_callV (y := yE_putOnList) (n0 := 1) (As := [.int v_9]) h (sp_gV kw_87 kw_89 kw_0 kw_34 kw_90) rfl (by decide +kernel) ⟨Nat.le_of_ble_eq_true rfl, Nat.le_of_ble_eq_true rfl⟩ (ci := 2) rfl dE_parent_42 rfl rfl (Nat.le_of_ble_eq_true rfl) hc_25 ho_20 vc (fun v_26 μ_27 vc' => ?_) (fun E_33 μ_27 vc' => ?_)
          · replace vc := vc'
            clear vc'
            obtain ⟨rfl, vc⟩ := vc
            refine sr_aload_n h dE_parent_45 rfl 0 rfl ?_
            obtain ⟨fs_29, ho_30, vc⟩ := vc
            obtain ⟨v_31, hv_32, vc⟩ := vc
            refine sr_get h inE rfl 6 (by decide) kw_66 dE_parent_46 ho_30 hv_32 ?_
            exact sr_iret h dE_parent_49 hc_25.1 hc_25.2 vc
          · replace vc := vc'
            clear vc'
            exact st_out h (fun _ z => nomatch z) hc_25.1 hc_25.2 vc
        · replace vc := vc.2 c_35
          obtain ⟨hc_34, vc⟩ := vc
          exact sr_throw0 (names := ["java/lang/RuntimeException", "java/lang/Exception"]) h (by decide +kernel) (by decide +kernel) kw_224 kw_41 ka_E_52 kg_E_52 dE_parent_32 dE_parent_35 dE_parent_36 dE_parent_39 (fun _ z => nomatch z) (Nat.le_of_ble_eq_true rfl) (Nat.le_of_ble_eq_true rfl) hc_34.1 hc_34.2 hc_34.1 hc_34.2 vc
      · replace vc := vc.2 c_37
        obtain ⟨hc_36, vc⟩ := vc
        exact sr_throw0 (names := ["java/lang/RuntimeException", "java/lang/Exception"]) h (by decide +kernel) (by decide +kernel) kw_209 kw_40 ka_E_49 kg_E_49 dE_parent_15 dE_parent_18 dE_parent_19 dE_parent_22 (fun _ z => nomatch z) (Nat.le_of_ble_eq_true rfl) (Nat.le_of_ble_eq_true rfl) hc_36.1 hc_36.2 hc_36.1 hc_36.2 vc
    · replace vc := vc'
      clear vc'
      exact st_out h (fun _ z => nomatch z) hc_12.1 hc_12.2 vc
  · replace vc := vc'
    clear vc'
    exact st_out h (fun _ z => nomatch z) hc_3.1 hc_3.2 vc
theorem opE_parent {l : Launch} {κ : sp_K} {mc ms : Nat} {Rt : Option Value → sp_M → Prop} {Xt : String → sp_M → Prop} {μ : sp_M} {a0 : Nat} {v1 : Int32} {v2 : Int32} (htr : l.stackTraces = false) (body : ∀ x : sp_X, x.2.1.stackTraces = false → cxE_parent κ x mc ms → sp_w κ x (sp_F κ x Rt Xt mc ms) 0 0 0 [(0, .ref a0), (1, .int v1), (2, .int v2)] [] μ) : sp_m l κ yE_parent wE_parent 7 113 mc ms [.ref a0, .int v1, .int v2] μ Rt Xt :=
  sp_open htr (by decide +kernel) rfl (Nat.le_of_ble_eq_true rfl) (by intro v hv; simp only [List.mem_cons, List.not_mem_nil, or_false] at hv; rcases hv with rfl | rfl | rfl <;> first | rfl | exact sp_c1o _) (fun x hx h => body x (by rw [hx]; exact htr) h)

abbrev cxE_find (κ : sp_K) (x : sp_X) (mc ms : Nat) : Prop := sp_C κ x cE_find 4 RE (some .int) [] "find" (sp_rm 6 90 mc ms)
set_option maxRecDepth 100000 in
set_option maxHeartbeats 4000000 in
theorem bkE_find_0 {κ : sp_K} {x : sp_X} {mc ms : Nat} {Rt : Option Value → sp_M → Prop} {Xt : String → sp_M → Prop} {μ : sp_M} {k n : Nat} {a0 : Nat} {v1 : Int32} {v2 : Int32} (h : cxE_find κ x mc ms) (hk : k ≤ mc ∧ n ≤ ms)
    (vc : (∃ mc_1 ms_2 : Nat, (k + mc_1 ≤ mc ∧ n + ms_2 ≤ ms) ∧ sp_m x.2.1 κ yE_isAgentName wE_isAgentName 0 0 mc_1 ms_2 [.int v1] μ (fun v_4 μ_5 => ∃ v_7 : Int32, v_4 = some (.int v_7) ∧ ((v_7 = 0 → (((k + mc_1) + 1 ≤ mc ∧ (n + ms_2) + 6 ≤ ms) ∧ Xt "java/util/NoSuchElementException" μ_5)) ∧ (¬ v_7 = 0 → (∃ fs_9 : List Value, μ_5 a0 = some (.inr (2, fs_9)) ∧ ∃ r_11 : Option Nat, fs_9[0]? = some (va_rf r_11) ∧ (∃ a_13 : Nat, r_11 = some a_13 ∧ ∃ (N_14 : Nat) (f_15 : Nat → Option Nat), μ_5 a_13 = some (sp_ra κ 3 N_14 f_15) ∧ ∃ j_17 : Nat, v1 = nI j_17 ∧ j_17 < N_14 ∧ ∃ r_20 : Option Nat, f_15 j_17 = r_20 ∧ ((r_20 = none → (((k + mc_1) + 1 ≤ mc ∧ (n + ms_2) + 6 ≤ ms) ∧ Xt "java/util/NoSuchElementException" μ_5)) ∧ (∀ a_22 : Nat, r_20 = some a_22 → ((∃ j_24 : Nat, v1 = nI j_24 ∧ j_24 < N_14 ∧ ∃ r_27 : Option Nat, f_15 j_24 = r_27 ∧ (∃ a_29 : Nat, r_27 = some a_29 ∧ ∃ fs_30 : List Value, μ_5 a_29 = some (.inr (0, fs_30)) ∧ ∃ r_32 : Option Nat, fs_30[5]? = some (va_rf r_32) ∧ sp_w κ x (sp_F κ x Rt Xt mc ms) (k + mc_1) (n + ms_2) 34 [(0, .ref a0), (1, .int v1), (2, .int v2), (3, va_rf r_32)] [] μ_5)))))))))) (fun E_35 μ_5 => Xt E_35 μ_5))) : sp_w κ x (sp_F κ x Rt Xt mc ms) k n 0 [(0, .ref a0), (1, .int v1), (2, .int v2)] [] μ := by
  refine sr_iload_n h dE_find_0 rfl 1 rfl ?_
  obtain ⟨mc_1, ms_2, hc_3, vc⟩ := vc
  refine sr_callS (y := yE_isAgentName) (n0 := 1) (As := [.int v1]) (st := []) h (sp_gS kw_126 kw_127 kw_34 kw_128) rfl (by decide +kernel) ⟨Nat.le_of_ble_eq_true rfl, Nat.le_of_ble_eq_true rfl⟩ dE_find_1 rfl rfl (Nat.le_of_ble_eq_true rfl) hc_3 vc (fun v_4 μ_5 vc' => ?_) (fun E_35 μ_5 vc' => ?_)
  · replace vc := vc'
    clear vc'
    obtain ⟨v_7, rfl, vc⟩ := vc
    refine sr_if_eq (tgt := 16) h dE_find_4 (by decide) (fun c_34 => ?_) (fun c_34 => ?_)
    · replace vc := vc.1 c_34
      obtain ⟨hc_8, vc⟩ := vc
      exact sr_throw0 (names := ["java/lang/RuntimeException", "java/lang/Exception"]) h (by decide +kernel) (by decide +kernel) kw_129 kw_39 ka_E_123 kg_E_123 dE_find_16 dE_find_19 dE_find_20 dE_find_23 (fun _ z => nomatch z) (Nat.le_of_ble_eq_true rfl) (Nat.le_of_ble_eq_true rfl) hc_8.1 hc_8.2 hc_8.1 hc_8.2 vc
    · replace vc := vc.2 c_34
      refine sr_aload_n h dE_find_7 rfl 0 rfl ?_
      obtain ⟨fs_9, ho_10, vc⟩ := vc
      obtain ⟨r_11, hv_12, vc⟩ := vc
      refine sr_get h inE rfl 0 (by decide) kw_60 dE_find_8 ho_10 hv_12 ?_
      refine sr_iload_n h dE_find_11 rfl 1 rfl ?_
      obtain ⟨a_13, rfl, vc⟩ := vc
      obtain ⟨N_14, f_15, ho_16, vc⟩ := vc
      obtain ⟨j_17, hi_18, hj_19, vc⟩ := vc
      obtain ⟨r_20, hr_21, vc⟩ := vc
      refine sr_aald h dE_find_12 rfl ho_16 hi_18 hj_19 hr_21 ?_
      rcases r_20 with _ | a_22
      · replace vc := vc.1 rfl
        refine sr_ifnonnull_n h dE_find_13 ?_
        obtain ⟨hc_23, vc⟩ := vc
        exact sr_throw0 (names := ["java/lang/RuntimeException", "java/lang/Exception"]) h (by decide +kernel) (by decide +kernel) kw_129 kw_39 ka_E_123 kg_E_123 dE_find_16 dE_find_19 dE_find_20 dE_find_23 (fun _ z => nomatch z) (Nat.le_of_ble_eq_true rfl) (Nat.le_of_ble_eq_true rfl) hc_23.1 hc_23.2 hc_23.1 hc_23.2 vc
      · replace vc := vc.2 a_22 rfl
        refine sr_ifnonnull_s (tgt := 24) h dE_find_13 (by decide) ?_
        refine sr_aload_n h dE_find_24 rfl 0 rfl ?_
        refine sr_get h inE rfl 0 (by decide) kw_60 dE_find_25 ho_10 hv_12 ?_
        refine sr_iload_n h dE_find_28 rfl 1 rfl ?_
        obtain ⟨j_24, hi_25, hj_26, vc⟩ := vc
        obtain ⟨r_27, hr_28, vc⟩ := vc
        refine sr_aald h dE_find_29 rfl ho_16 hi_25 hj_26 hr_28 ?_
        obtain ⟨a_29, rfl, vc⟩ := vc
        obtain ⟨fs_30, ho_31, vc⟩ := vc
        obtain ⟨r_32, hv_33, vc⟩ := vc
        refine sr_get h inA rfl 5 (by decide) kw_328 dE_find_30 ho_31 hv_33 ?_
        refine sr_astoreO_n (lv' := [(0, .ref a0), (1, .int v1), (2, .int v2), (3, va_rf r_32)]) h dE_find_33 rfl (by decide) rfl ?_
        exact vc
  · replace vc := vc'
    clear vc'
    exact st_out h (fun _ z => nomatch z) hc_3.1 hc_3.2 vc
set_option maxRecDepth 100000 in
set_option maxHeartbeats 4000000 in
theorem bkE_find_34 {κ : sp_K} {x : sp_X} {mc ms : Nat} {Rt : Option Value → sp_M → Prop} {Xt : String → sp_M → Prop} {μ : sp_M} {k n : Nat} {a0 : Nat} {v1 : Int32} {v2 : Int32} {r3 : Option Nat} (h : cxE_find κ x mc ms) (hk : k ≤ mc ∧ n ≤ ms)
    (vc : ((r3 = none → ((k + 1 ≤ mc ∧ n + 6 ≤ ms) ∧ Xt "java/util/NoSuchElementException" μ)) ∧ (∀ a_1 : Nat, r3 = some a_1 → (∃ mc_3 ms_4 : Nat, (k + mc_3 ≤ mc ∧ n + ms_4 ≤ ms) ∧ ∃ fs_8 : List Value, μ a_1 = some (.inr (1, fs_8)) ∧ sp_m x.2.1 κ yS_hasNumber wS_hasNumber 1 21 mc_3 ms_4 [.ref a_1, .int v2] μ (fun v_6 μ_7 => ∃ v_11 : Int32, v_6 = some (.int v_11) ∧ ((v_11 = 0 → (∃ fs_12 : List Value, μ_7 a_1 = some (.inr (1, fs_12)) ∧ ∃ r_14 : Option Nat, fs_12[8]? = some (va_rf r_14) ∧ sp_w κ x (sp_F κ x Rt Xt mc ms) (k + mc_3) (n + ms_4) 34 [(0, .ref a0), (1, .int v1), (2, .int v2), (3, va_rf r_14)] [] μ_7)) ∧ (¬ v_11 = 0 → (∃ mc_16 ms_17 : Nat, ((k + mc_3) + mc_16 ≤ mc ∧ (n + ms_4) + ms_17 ≤ ms) ∧ ∃ fs_21 : List Value, μ_7 a_1 = some (.inr (1, fs_21)) ∧ sp_m x.2.1 κ yS_placeOfNumber wS_placeOfNumber 0 0 mc_16 ms_17 [.ref a_1, .int v2] μ_7 (fun v_19 μ_20 => ∃ v_24 : Int32, v_19 = some (.int v_24) ∧ Rt (some (.int v_24)) μ_20) (fun E_25 μ_20 => Xt E_25 μ_20))))) (fun E_27 μ_7 => Xt E_27 μ_7))))) : sp_w κ x (sp_F κ x Rt Xt mc ms) k n 34 [(0, .ref a0), (1, .int v1), (2, .int v2), (3, va_rf r3)] [] μ := by
  refine sr_aloadO_n h dE_find_34 rfl 3 rfl ?_
  rcases r3 with _ | a_1
  · replace vc := vc.1 rfl
    refine sr_ifnull_n (tgt := 60) h dE_find_35 (by decide) ?_
    obtain ⟨hc_2, vc⟩ := vc
    exact sr_throw0 (names := ["java/lang/RuntimeException", "java/lang/Exception"]) h (by decide +kernel) (by decide +kernel) kw_129 kw_39 ka_E_123 kg_E_123 dE_find_60 dE_find_63 dE_find_64 dE_find_67 (fun _ z => nomatch z) (Nat.le_of_ble_eq_true rfl) (Nat.le_of_ble_eq_true rfl) hc_2.1 hc_2.2 hc_2.1 hc_2.2 vc
  · replace vc := vc.2 a_1 rfl
    refine sr_ifnull_s h dE_find_35 ?_
    refine sr_aload_n h dE_find_38 rfl 3 rfl ?_
    refine sr_iload_n h dE_find_39 rfl 2 rfl ?_
    obtain ⟨mc_3, ms_4, hc_5, vc⟩ := vc
    obtain ⟨fs_8, ho_9, vc⟩ := vc
    refine sr_callV (y := yS_hasNumber) (n0 := 1) (As := [.int v2]) h (sp_gV kw_193 kw_194 kw_195 kw_47 kw_196) rfl (by decide +kernel) ⟨Nat.le_of_ble_eq_true rfl, Nat.le_of_ble_eq_true rfl⟩ (ci := 1) rfl dE_find_40 rfl rfl (Nat.le_of_ble_eq_true rfl) hc_5 ho_9 vc (fun v_6 μ_7 vc' => ?_) (fun E_27 μ_7 vc' => ?_)
    · replace vc := vc'
      clear vc'
      obtain ⟨v_11, rfl, vc⟩ := vc
      refine sr_if_eq (tgt := 52) h dE_find_43 (by decide) (fun c_26 => ?_) (fun c_26 => ?_)
      · replace vc := vc.1 c_26
        refine sr_aload_n h dE_find_52 rfl 3 rfl ?_
        obtain ⟨fs_12, ho_13, vc⟩ := vc
        obtain ⟨r_14, hv_15, vc⟩ := vc
        refine sr_get h inS rfl 8 (by decide) kw_369 dE_find_53 ho_13 hv_15 ?_
        refine sr_astoreO_n (lv' := [(0, .ref a0), (1, .int v1), (2, .int v2), (3, va_rf r_14)]) h dE_find_56 rfl (by decide) rfl ?_
        refine sr_goto (tgt := 34) h dE_find_57 (by decide) ?_
        exact vc
      · replace vc := vc.2 c_26
        refine sr_aload_n h dE_find_46 rfl 3 rfl ?_
        refine sr_iload_n h dE_find_47 rfl 2 rfl ?_
        obtain ⟨mc_16, ms_17, hc_18, vc⟩ := vc
        obtain ⟨fs_21, ho_22, vc⟩ := vc
        refine sr_callV (y := yS_placeOfNumber) (n0 := 1) (As := [.int v2]) h (sp_gV kw_201 kw_202 kw_203 kw_47 kw_204) rfl (by decide +kernel) ⟨Nat.le_of_ble_eq_true rfl, Nat.le_of_ble_eq_true rfl⟩ (ci := 1) rfl dE_find_48 rfl rfl (Nat.le_of_ble_eq_true rfl) hc_18 ho_22 vc (fun v_19 μ_20 vc' => ?_) (fun E_25 μ_20 vc' => ?_)
        · replace vc := vc'
          clear vc'
          obtain ⟨v_24, rfl, vc⟩ := vc
          exact sr_iret h dE_find_51 hc_18.1 hc_18.2 vc
        · replace vc := vc'
          clear vc'
          exact st_out h (fun _ z => nomatch z) hc_18.1 hc_18.2 vc
    · replace vc := vc'
      clear vc'
      exact st_out h (fun _ z => nomatch z) hc_5.1 hc_5.2 vc
theorem opE_find {l : Launch} {κ : sp_K} {mc ms : Nat} {Rt : Option Value → sp_M → Prop} {Xt : String → sp_M → Prop} {μ : sp_M} {a0 : Nat} {v1 : Int32} {v2 : Int32} (htr : l.stackTraces = false) (body : ∀ x : sp_X, x.2.1.stackTraces = false → cxE_find κ x mc ms → sp_w κ x (sp_F κ x Rt Xt mc ms) 0 0 0 [(0, .ref a0), (1, .int v1), (2, .int v2)] [] μ) : sp_m l κ yE_find wE_find 6 90 mc ms [.ref a0, .int v1, .int v2] μ Rt Xt :=
  sp_open htr (by decide +kernel) rfl (Nat.le_of_ble_eq_true rfl) (by intro v hv; simp only [List.mem_cons, List.not_mem_nil, or_false] at hv; rcases hv with rfl | rfl | rfl <;> first | rfl | exact sp_c1o _) (fun x hx h => body x (by rw [hx]; exact htr) h)

abbrev cxE_isAgentName (κ : sp_K) (x : sp_X) (mc ms : Nat) : Prop := sp_C κ x cE_isAgentName 1 RE (some .boolean) [] "isAgentName" (sp_rm 0 0 mc ms)
set_option maxRecDepth 100000 in
set_option maxHeartbeats 4000000 in
theorem bkE_isAgentName_0 {κ : sp_K} {x : sp_X} {mc ms : Nat} {Rt : Option Value → sp_M → Prop} {Xt : String → sp_M → Prop} {μ : sp_M} {k n : Nat} {v0 : Int32} (h : cxE_isAgentName κ x mc ms) (hk : k ≤ mc ∧ n ≤ ms)
    (vc : ((v0 < 0 → Rt (some (.int 0)) μ) ∧ (¬ v0 < 0 → ((256 ≤ v0 → Rt (some (.int 0)) μ) ∧ (¬ 256 ≤ v0 → Rt (some (.int 1)) μ))))) : sp_w κ x (sp_F κ x Rt Xt mc ms) k n 0 [(0, .int v0)] [] μ := by
  refine sr_iload_n h dE_isAgentName_0 rfl 0 rfl ?_
  refine sr_if_lt (tgt := 15) h dE_isAgentName_1 (by decide) (fun c_2 => ?_) (fun c_2 => ?_)
  · replace vc := vc.1 c_2
    refine sr_iconst (v := 0) h dE_isAgentName_15 (by decide) ?_
    exact sr_zret h dE_isAgentName_16 rfl hk.1 hk.2 vc
  · replace vc := vc.2 c_2
    refine sr_iload_n h dE_isAgentName_4 rfl 0 rfl ?_
    refine sr_sipush (v := 256) h dE_isAgentName_5 (by decide) ?_
    refine sr_icmp_ge (tgt := 15) h dE_isAgentName_8 (by decide) (fun c_1 => ?_) (fun c_1 => ?_)
    · replace vc := vc.1 c_1
      refine sr_iconst (v := 0) h dE_isAgentName_15 (by decide) ?_
      exact sr_zret h dE_isAgentName_16 rfl hk.1 hk.2 vc
    · replace vc := vc.2 c_1
      refine sr_iconst (v := 1) h dE_isAgentName_11 (by decide) ?_
      refine sr_goto (tgt := 16) h dE_isAgentName_12 (by decide) ?_
      exact sr_zret h dE_isAgentName_16 rfl hk.1 hk.2 vc
theorem opE_isAgentName {l : Launch} {κ : sp_K} {mc ms : Nat} {Rt : Option Value → sp_M → Prop} {Xt : String → sp_M → Prop} {μ : sp_M} {v0 : Int32} (htr : l.stackTraces = false) (body : ∀ x : sp_X, x.2.1.stackTraces = false → cxE_isAgentName κ x mc ms → sp_w κ x (sp_F κ x Rt Xt mc ms) 0 0 0 [(0, .int v0)] [] μ) : sp_m l κ yE_isAgentName wE_isAgentName 0 0 mc ms [.int v0] μ Rt Xt :=
  sp_open htr (by decide +kernel) rfl (Nat.le_of_ble_eq_true rfl) (by intro v hv; simp only [List.mem_cons, List.not_mem_nil, or_false] at hv; subst hv; first | rfl | exact sp_c1o _) (fun x hx h => body x (by rw [hx]; exact htr) h)

abbrev cxE_isListed (κ : sp_K) (x : sp_X) (mc ms : Nat) : Prop := sp_C κ x cE_isListed 3 RE (some .boolean) [] "isListed" (sp_rm 0 0 mc ms)
set_option maxRecDepth 100000 in
set_option maxHeartbeats 4000000 in
theorem bkE_isListed_0 {κ : sp_K} {x : sp_X} {mc ms : Nat} {Rt : Option Value → sp_M → Prop} {Xt : String → sp_M → Prop} {μ : sp_M} {k n : Nat} {a0 : Nat} {v1 : Int32} (h : cxE_isListed κ x mc ms) (hk : k ≤ mc ∧ n ≤ ms)
    (vc : sp_w κ x (sp_F κ x Rt Xt mc ms) k n 2 [(0, .ref a0), (1, .int v1), (2, .int 0)] [] μ) : sp_w κ x (sp_F κ x Rt Xt mc ms) k n 0 [(0, .ref a0), (1, .int v1)] [] μ := by
  refine sr_iconst (v := 0) h dE_isListed_0 (by decide) ?_
  refine sr_istore_n (lv' := [(0, .ref a0), (1, .int v1), (2, .int 0)]) h dE_isListed_1 rfl (by decide) rfl ?_
  exact vc
set_option maxRecDepth 100000 in
set_option maxHeartbeats 4000000 in
theorem bkE_isListed_2 {κ : sp_K} {x : sp_X} {mc ms : Nat} {Rt : Option Value → sp_M → Prop} {Xt : String → sp_M → Prop} {μ : sp_M} {k n : Nat} {a0 : Nat} {v1 : Int32} {v2 : Int32} (h : cxE_isListed κ x mc ms) (hk : k ≤ mc ∧ n ≤ ms)
    (vc : (∃ fs_1 : List Value, μ a0 = some (.inr (2, fs_1)) ∧ ∃ v_3 : Int32, fs_1[6]? = some (.int v_3) ∧ ((v_3 ≤ v2 → Rt (some (.int 0)) μ) ∧ (¬ v_3 ≤ v2 → (∃ r_5 : Option Nat, fs_1[5]? = some (va_rf r_5) ∧ (∃ a_7 : Nat, r_5 = some a_7 ∧ ∃ (N_8 : Nat) (f_9 : Nat → Int32), μ a_7 = some (sp_ia κ N_8 f_9) ∧ ∃ j_11 : Nat, v2 = nI j_11 ∧ j_11 < N_8 ∧ ((¬ (f_9 j_11) = v1 → sp_w κ x (sp_F κ x Rt Xt mc ms) k n 2 [(0, .ref a0), (1, .int v1), (2, .int (v2 + 1))] [] μ) ∧ ((f_9 j_11) = v1 → Rt (some (.int 1)) μ)))))))) : sp_w κ x (sp_F κ x Rt Xt mc ms) k n 2 [(0, .ref a0), (1, .int v1), (2, .int v2)] [] μ := by
  refine sr_iload_n h dE_isListed_2 rfl 2 rfl ?_
  refine sr_aload_n h dE_isListed_3 rfl 0 rfl ?_
  obtain ⟨fs_1, ho_2, vc⟩ := vc
  obtain ⟨v_3, hv_4, vc⟩ := vc
  refine sr_get h inE rfl 6 (by decide) kw_66 dE_isListed_4 ho_2 hv_4 ?_
  refine sr_icmp_ge (tgt := 28) h dE_isListed_7 (by decide) (fun c_15 => ?_) (fun c_15 => ?_)
  · replace vc := vc.1 c_15
    refine sr_iconst (v := 0) h dE_isListed_28 (by decide) ?_
    exact sr_zret h dE_isListed_29 rfl hk.1 hk.2 vc
  · replace vc := vc.2 c_15
    refine sr_aload_n h dE_isListed_10 rfl 0 rfl ?_
    obtain ⟨r_5, hv_6, vc⟩ := vc
    refine sr_get h inE rfl 5 (by decide) kw_65 dE_isListed_11 ho_2 hv_6 ?_
    refine sr_iload_n h dE_isListed_14 rfl 2 rfl ?_
    obtain ⟨a_7, rfl, vc⟩ := vc
    obtain ⟨N_8, f_9, ho_10, vc⟩ := vc
    obtain ⟨j_11, hi_12, hj_13, vc⟩ := vc
    refine sr_iald h dE_isListed_15 ho_10 hi_12 hj_13 ?_
    refine sr_iload_n h dE_isListed_16 rfl 1 rfl ?_
    refine sr_icmp_ne (tgt := 22) h dE_isListed_17 (by decide) (fun c_14 => ?_) (fun c_14 => ?_)
    · replace vc := vc.1 c_14
      refine sr_iinc (u := v2 + 1) (lv' := [(0, .ref a0), (1, .int v1), (2, .int (v2 + 1))]) h dE_isListed_22 2 rfl rfl (by decide) rfl ?_
      refine sr_goto (tgt := 2) h dE_isListed_25 (by decide) ?_
      exact vc
    · replace vc := vc.2 c_14
      refine sr_iconst (v := 1) h dE_isListed_20 (by decide) ?_
      exact sr_zret h dE_isListed_21 rfl hk.1 hk.2 vc
theorem opE_isListed {l : Launch} {κ : sp_K} {mc ms : Nat} {Rt : Option Value → sp_M → Prop} {Xt : String → sp_M → Prop} {μ : sp_M} {a0 : Nat} {v1 : Int32} (htr : l.stackTraces = false) (body : ∀ x : sp_X, x.2.1.stackTraces = false → cxE_isListed κ x mc ms → sp_w κ x (sp_F κ x Rt Xt mc ms) 0 0 0 [(0, .ref a0), (1, .int v1)] [] μ) : sp_m l κ yE_isListed wE_isListed 0 0 mc ms [.ref a0, .int v1] μ Rt Xt :=
  sp_open htr (by decide +kernel) rfl (Nat.le_of_ble_eq_true rfl) (by intro v hv; simp only [List.mem_cons, List.not_mem_nil, or_false] at hv; rcases hv with rfl | rfl <;> first | rfl | exact sp_c1o _) (fun x hx h => body x (by rw [hx]; exact htr) h)

abbrev cxE_add (κ : sp_K) (x : sp_X) (mc ms : Nat) : Prop := sp_C κ x cE_add 6 RE (some .int) [] "add" (sp_rm 9 164 mc ms)
set_option maxRecDepth 100000 in
set_option maxHeartbeats 4000000 in
theorem bkE_add_0 {κ : sp_K} {x : sp_X} {mc ms : Nat} {Rt : Option Value → sp_M → Prop} {Xt : String → sp_M → Prop} {μ : sp_M} {k n : Nat} {a0 : Nat} {v1 : Int32} {v2 : Int32} (h : cxE_add κ x mc ms) (hk : k ≤ mc ∧ n ≤ ms)
    (vc : (∃ mc_1 ms_2 : Nat, (k + mc_1 ≤ mc ∧ n + ms_2 ≤ ms) ∧ sp_m x.2.1 κ yE_isAgentName wE_isAgentName 0 0 mc_1 ms_2 [.int v1] μ (fun v_4 μ_5 => ∃ v_7 : Int32, v_4 = some (.int v_7) ∧ ((v_7 = 0 → (((k + mc_1) + 1 ≤ mc ∧ (n + ms_2) + 6 ≤ ms) ∧ Xt "java/lang/IllegalArgumentException" μ_5)) ∧ (¬ v_7 = 0 → ((v2 < 1 → (((k + mc_1) + 1 ≤ mc ∧ (n + ms_2) + 6 ≤ ms) ∧ Xt "java/lang/IllegalArgumentException" μ_5)) ∧ (¬ v2 < 1 → ((v2 ≤ 2000 → (∃ mc_10 ms_11 : Nat, ((k + mc_1) + mc_10 ≤ mc ∧ (n + ms_2) + ms_11 ≤ ms) ∧ ∃ fs_15 : List Value, μ_5 a0 = some (.inr (2, fs_15)) ∧ sp_m x.2.1 κ yE_takeList wE_takeList 2 48 mc_10 ms_11 [.ref a0] μ_5 (fun v_13 μ_14 => ∃ r_18 : Option Nat, v_13 = some (va_rf r_18) ∧ (∃ mc_19 ms_20 : Nat, ((k + mc_1 + mc_10) + mc_19 ≤ mc ∧ (n + ms_2 + ms_11) + ms_20 ≤ ms) ∧ ∃ fs_24 : List Value, μ_14 a0 = some (.inr (2, fs_24)) ∧ sp_m x.2.1 κ yE_seenFrom wE_seenFrom 7 111 mc_19 ms_20 [.ref a0, va_rf r_18] μ_14 (fun v_22 μ_23 => ∃ r_27 : Option Nat, v_22 = some (va_rf r_27) ∧ (∃ fs_28 : List Value, μ_23 a0 = some (.inr (2, fs_28)) ∧ ∃ r_30 : Option Nat, fs_28[0]? = some (va_rf r_30) ∧ (∃ a_32 : Nat, r_30 = some a_32 ∧ ∃ (N_33 : Nat) (f_34 : Nat → Option Nat), μ_23 a_32 = some (sp_ra κ 3 N_33 f_34) ∧ ∃ j_36 : Nat, v1 = nI j_36 ∧ j_36 < N_33 ∧ ∃ r_39 : Option Nat, f_34 j_36 = r_39 ∧ (∃ mc_41 ms_42 : Nat, ((k + mc_1 + mc_10 + mc_19) + mc_41 ≤ mc ∧ (n + ms_2 + ms_11 + ms_20) + ms_42 ≤ ms) ∧ sp_m x.2.1 κ yE_holdsAncestor wE_holdsAncestor 8 135 mc_41 ms_42 [.ref a0, va_rf r_18] μ_23 (fun v_44 μ_45 => ∃ v_47 : Int32, v_44 = some (.int v_47) ∧ ((¬ v_47 = 0 → (((k + mc_1 + mc_10 + mc_19 + mc_41) + 1 ≤ mc ∧ (n + ms_2 + ms_11 + ms_20 + ms_42) + 6 ≤ ms) ∧ Xt "java/lang/UnsupportedOperationException" μ_45)) ∧ (v_47 = 0 → ((r_39 = none → sp_w κ x (sp_F κ x Rt Xt mc ms) (k + mc_1 + mc_10 + mc_19 + mc_41) (n + ms_2 + ms_11 + ms_20 + ms_42) 84 [(0, .ref a0), (1, .int v1), (2, .int v2), (3, va_rf r_18), (4, va_rf r_27), (5, .null)] [] μ_45) ∧ (∀ a_49 : Nat, r_39 = some a_49 → (∃ fs_50 : List Value, μ_45 a_49 = some (.inr (0, fs_50)) ∧ ∃ v_52 : Int32, fs_50[1]? = some (.int v_52) ∧ (∃ a_54 : Nat, r_27 = some a_54 ∧ ∃ (N_55 : Nat) (f_56 : Nat → Int32), μ_45 a_54 = some (sp_ia κ N_55 f_56) ∧ ∃ j_58 : Nat, v_52 = nI j_58 ∧ j_58 < N_55 ∧ (∃ v_61 : Int32, fs_50[2]? = some (.int v_61) ∧ ((v_61 ≤ (f_56 j_58) → sp_w κ x (sp_F κ x Rt Xt mc ms) (k + mc_1 + mc_10 + mc_19 + mc_41) (n + ms_2 + ms_11 + ms_20 + ms_42) 84 [(0, .ref a0), (1, .int v1), (2, .int v2), (3, va_rf r_18), (4, .ref a_54), (5, .ref a_49)] [] μ_45) ∧ (¬ v_61 ≤ (f_56 j_58) → (((k + mc_1 + mc_10 + mc_19 + mc_41) + 1 ≤ mc ∧ (n + ms_2 + ms_11 + ms_20 + ms_42) + 6 ≤ ms) ∧ Xt "java/lang/UnsupportedOperationException" μ_45))))))))))) (fun E_66 μ_45 => Xt E_66 μ_45))))) (fun E_67 μ_23 => Xt E_67 μ_23))) (fun E_68 μ_14 => Xt E_68 μ_14))) ∧ (¬ v2 ≤ 2000 → (((k + mc_1) + 1 ≤ mc ∧ (n + ms_2) + 6 ≤ ms) ∧ Xt "java/lang/IllegalArgumentException" μ_5)))))))) (fun E_73 μ_5 => Xt E_73 μ_5))) : sp_w κ x (sp_F κ x Rt Xt mc ms) k n 0 [(0, .ref a0), (1, .int v1), (2, .int v2)] [] μ := by
  refine sr_iload_n h dE_add_0 rfl 1 rfl ?_
  obtain ⟨mc_1, ms_2, hc_3, vc⟩ := vc
  refine sr_callS (y := yE_isAgentName) (n0 := 1) (As := [.int v1]) (st := []) h (sp_gS kw_126 kw_127 kw_34 kw_128) rfl (by decide +kernel) ⟨Nat.le_of_ble_eq_true rfl, Nat.le_of_ble_eq_true rfl⟩ dE_add_1 rfl rfl (Nat.le_of_ble_eq_true rfl) hc_3 vc (fun v_4 μ_5 vc' => ?_) (fun E_73 μ_5 vc' => ?_)
  · replace vc := vc'
    clear vc'
    obtain ⟨v_7, rfl, vc⟩ := vc
    refine sr_if_eq (tgt := 19) h dE_add_4 (by decide) (fun c_72 => ?_) (fun c_72 => ?_)
    · replace vc := vc.1 c_72
      obtain ⟨hc_8, vc⟩ := vc
      exact sr_throw0 (names := ["java/lang/RuntimeException", "java/lang/Exception"]) h (by decide +kernel) (by decide +kernel) kw_247 kw_42 ka_E_69 kg_E_69 dE_add_19 dE_add_22 dE_add_23 dE_add_26 (fun _ z => nomatch z) (Nat.le_of_ble_eq_true rfl) (Nat.le_of_ble_eq_true rfl) hc_8.1 hc_8.2 hc_8.1 hc_8.2 vc
    · replace vc := vc.2 c_72
      refine sr_iload_n h dE_add_7 rfl 2 rfl ?_
      refine sr_iconst (v := 1) h dE_add_8 (by decide) ?_
      refine sr_icmp_lt (tgt := 19) h dE_add_9 (by decide) (fun c_71 => ?_) (fun c_71 => ?_)
      · replace vc := vc.1 c_71
        obtain ⟨hc_9, vc⟩ := vc
        exact sr_throw0 (names := ["java/lang/RuntimeException", "java/lang/Exception"]) h (by decide +kernel) (by decide +kernel) kw_247 kw_42 ka_E_69 kg_E_69 dE_add_19 dE_add_22 dE_add_23 dE_add_26 (fun _ z => nomatch z) (Nat.le_of_ble_eq_true rfl) (Nat.le_of_ble_eq_true rfl) hc_9.1 hc_9.2 hc_9.1 hc_9.2 vc
      · replace vc := vc.2 c_71
        refine sr_iload_n h dE_add_12 rfl 2 rfl ?_
        refine sr_sipush (v := 2000) h dE_add_13 (by decide) ?_
        refine sr_icmp_le (tgt := 27) h dE_add_16 (by decide) (fun c_70 => ?_) (fun c_70 => ?_)
        · replace vc := vc.1 c_70
          refine sr_aload_n h dE_add_27 rfl 0 rfl ?_
          obtain ⟨mc_10, ms_11, hc_12, vc⟩ := vc
          obtain ⟨fs_15, ho_16, vc⟩ := vc
          refine sr_callV (y := yE_takeList) (n0 := 0) (As := []) h (sp_gV kw_262 kw_264 kw_4 kw_34 kw_265) rfl (by decide +kernel) ⟨Nat.le_of_ble_eq_true rfl, Nat.le_of_ble_eq_true rfl⟩ (ci := 2) rfl dE_add_28 rfl rfl (Nat.le_of_ble_eq_true rfl) hc_12 ho_16 vc (fun v_13 μ_14 vc' => ?_) (fun E_68 μ_14 vc' => ?_)
          · replace vc := vc'
            clear vc'
            obtain ⟨r_18, rfl, vc⟩ := vc
            refine sr_astoreO_n (lv' := [(0, .ref a0), (1, .int v1), (2, .int v2), (3, va_rf r_18)]) h dE_add_31 rfl (by decide) rfl ?_
            refine sr_aload_n h dE_add_32 rfl 0 rfl ?_
            refine sr_aloadO_n h dE_add_33 rfl 3 rfl ?_
            obtain ⟨mc_19, ms_20, hc_21, vc⟩ := vc
            obtain ⟨fs_24, ho_25, vc⟩ := vc
            refine sr_callV (y := yE_seenFrom) (n0 := 1) (As := [va_rf r_18]) h (sp_gV kw_280 kw_282 kw_5 kw_34 kw_283) rfl (by decide +kernel) ⟨Nat.le_of_ble_eq_true rfl, Nat.le_of_ble_eq_true rfl⟩ (ci := 2) rfl dE_add_34 rfl rfl (Nat.le_of_ble_eq_true rfl) hc_21 ho_25 vc (fun v_22 μ_23 vc' => ?_) (fun E_67 μ_23 vc' => ?_)
            · replace vc := vc'
              clear vc'
              obtain ⟨r_27, rfl, vc⟩ := vc
              refine sr_astoreO (lv' := [(0, .ref a0), (1, .int v1), (2, .int v2), (3, va_rf r_18), (4, va_rf r_27)]) h dE_add_37 (by decide) rfl ?_
              refine sr_aload_n h dE_add_39 rfl 0 rfl ?_
              obtain ⟨fs_28, ho_29, vc⟩ := vc
              obtain ⟨r_30, hv_31, vc⟩ := vc
              refine sr_get h inE rfl 0 (by decide) kw_60 dE_add_40 ho_29 hv_31 ?_
              refine sr_iload_n h dE_add_43 rfl 1 rfl ?_
              obtain ⟨a_32, rfl, vc⟩ := vc
              obtain ⟨N_33, f_34, ho_35, vc⟩ := vc
              obtain ⟨j_36, hi_37, hj_38, vc⟩ := vc
              obtain ⟨r_39, hr_40, vc⟩ := vc
              refine sr_aald h dE_add_44 rfl ho_35 hi_37 hj_38 hr_40 ?_
              refine sr_astoreO (lv' := [(0, .ref a0), (1, .int v1), (2, .int v2), (3, va_rf r_18), (4, va_rf r_27), (5, va_rf r_39)]) h dE_add_45 (by decide) rfl ?_
              refine sr_aload_n h dE_add_47 rfl 0 rfl ?_
              refine sr_aloadO_n h dE_add_48 rfl 3 rfl ?_
              obtain ⟨mc_41, ms_42, hc_43, vc⟩ := vc
              refine sr_callV (y := yE_holdsAncestor) (n0 := 1) (As := [va_rf r_18]) h (sp_gV kw_292 kw_294 kw_7 kw_34 kw_295) rfl (by decide +kernel) ⟨Nat.le_of_ble_eq_true rfl, Nat.le_of_ble_eq_true rfl⟩ (ci := 2) rfl dE_add_49 rfl rfl (Nat.le_of_ble_eq_true rfl) hc_43 ho_29 vc (fun v_44 μ_45 vc' => ?_) (fun E_66 μ_45 vc' => ?_)
              · replace vc := vc'
                clear vc'
                obtain ⟨v_47, rfl, vc⟩ := vc
                refine sr_if_ne (tgt := 76) h dE_add_52 (by decide) (fun c_65 => ?_) (fun c_65 => ?_)
                · replace vc := vc.1 c_65
                  obtain ⟨hc_48, vc⟩ := vc
                  exact sr_throw0 (names := ["java/lang/RuntimeException", "java/lang/Exception"]) h (by decide +kernel) (by decide +kernel) kw_209 kw_40 ka_E_49 kg_E_49 dE_add_76 dE_add_79 dE_add_80 dE_add_83 (fun _ z => nomatch z) (Nat.le_of_ble_eq_true rfl) (Nat.le_of_ble_eq_true rfl) hc_48.1 hc_48.2 hc_48.1 hc_48.2 vc
                · replace vc := vc.2 c_65
                  refine sr_aloadO h dE_add_55 5 rfl ?_
                  rcases r_39 with _ | a_49
                  · replace vc := vc.1 rfl
                    refine sr_ifnull_n (tgt := 84) h dE_add_57 (by decide) ?_
                    exact vc
                  · replace vc := vc.2 a_49 rfl
                    refine sr_ifnull_s h dE_add_57 ?_
                    refine sr_aloadO h dE_add_60 4 rfl ?_
                    refine sr_aload h dE_add_62 5 rfl ?_
                    obtain ⟨fs_50, ho_51, vc⟩ := vc
                    obtain ⟨v_52, hv_53, vc⟩ := vc
                    refine sr_get h inA rfl 1 (by decide) kw_317 dE_add_64 ho_51 hv_53 ?_
                    obtain ⟨a_54, rfl, vc⟩ := vc
                    obtain ⟨N_55, f_56, ho_57, vc⟩ := vc
                    obtain ⟨j_58, hi_59, hj_60, vc⟩ := vc
                    refine sr_iald h dE_add_67 ho_57 hi_59 hj_60 ?_
                    refine sr_aload h dE_add_68 5 rfl ?_
                    obtain ⟨v_61, hv_62, vc⟩ := vc
                    refine sr_get h inA rfl 2 (by decide) kw_321 dE_add_70 ho_51 hv_62 ?_
                    refine sr_icmp_ge (tgt := 84) h dE_add_73 (by decide) (fun c_64 => ?_) (fun c_64 => ?_)
                    · replace vc := vc.1 c_64
                      exact vc
                    · replace vc := vc.2 c_64
                      obtain ⟨hc_63, vc⟩ := vc
                      exact sr_throw0 (names := ["java/lang/RuntimeException", "java/lang/Exception"]) h (by decide +kernel) (by decide +kernel) kw_209 kw_40 ka_E_49 kg_E_49 dE_add_76 dE_add_79 dE_add_80 dE_add_83 (fun _ z => nomatch z) (Nat.le_of_ble_eq_true rfl) (Nat.le_of_ble_eq_true rfl) hc_63.1 hc_63.2 hc_63.1 hc_63.2 vc
              · replace vc := vc'
                clear vc'
                exact st_out h (fun _ z => nomatch z) hc_43.1 hc_43.2 vc
            · replace vc := vc'
              clear vc'
              exact st_out h (fun _ z => nomatch z) hc_21.1 hc_21.2 vc
          · replace vc := vc'
            clear vc'
            exact st_out h (fun _ z => nomatch z) hc_12.1 hc_12.2 vc
        · replace vc := vc.2 c_70
          obtain ⟨hc_69, vc⟩ := vc
          exact sr_throw0 (names := ["java/lang/RuntimeException", "java/lang/Exception"]) h (by decide +kernel) (by decide +kernel) kw_247 kw_42 ka_E_69 kg_E_69 dE_add_19 dE_add_22 dE_add_23 dE_add_26 (fun _ z => nomatch z) (Nat.le_of_ble_eq_true rfl) (Nat.le_of_ble_eq_true rfl) hc_69.1 hc_69.2 hc_69.1 hc_69.2 vc
  · replace vc := vc'
    clear vc'
    exact st_out h (fun _ z => nomatch z) hc_3.1 hc_3.2 vc
set_option maxRecDepth 100000 in
set_option maxHeartbeats 4000000 in
theorem bkE_add_84 {κ : sp_K} {x : sp_X} {mc ms : Nat} {Rt : Option Value → sp_M → Prop} {Xt : String → sp_M → Prop} {μ : sp_M} {k n : Nat} {a0 : Nat} {v1 : Int32} {v2 : Int32} {r3 : Option Nat} {r4 : Option Nat} {r5 : Option Nat} (h : cxE_add κ x mc ms) (hk : k ≤ mc ∧ n ≤ ms)
    (vc : (∃ fs_1 : List Value, μ a0 = some (.inr (2, fs_1)) ∧ ∃ v_3 : Int32, fs_1[3]? = some (.int v_3) ∧ ((8192 < (v_3 + v2) → ((k + 1 ≤ mc ∧ n + 6 ≤ ms) ∧ Xt "java/lang/IllegalStateException" μ)) ∧ (¬ 8192 < (v_3 + v2) → ((r5 = none → (∃ v_7 : Int32, fs_1[1]? = some (.int v_7) ∧ ((v_7 < 16 → sp_w κ x (sp_F κ x Rt Xt mc ms) k n 118 [(0, .ref a0), (1, .int v1), (2, .int v2), (3, va_rf r3), (4, va_rf r4), (5, .null)] [] μ) ∧ (¬ v_7 < 16 → ((k + 1 ≤ mc ∧ n + 6 ≤ ms) ∧ Xt "java/lang/IllegalStateException" μ))))) ∧ (∀ a_6 : Nat, r5 = some a_6 → sp_w κ x (sp_F κ x Rt Xt mc ms) k n 118 [(0, .ref a0), (1, .int v1), (2, .int v2), (3, va_rf r3), (4, va_rf r4), (5, .ref a_6)] [] μ)))))) : sp_w κ x (sp_F κ x Rt Xt mc ms) k n 84 [(0, .ref a0), (1, .int v1), (2, .int v2), (3, va_rf r3), (4, va_rf r4), (5, va_rf r5)] [] μ := by
  refine sr_aload_n h dE_add_84 rfl 0 rfl ?_
  obtain ⟨fs_1, ho_2, vc⟩ := vc
  obtain ⟨v_3, hv_4, vc⟩ := vc
  refine sr_get h inE rfl 3 (by decide) kw_63 dE_add_85 ho_2 hv_4 ?_
  refine sr_iload_n h dE_add_88 rfl 2 rfl ?_
  refine sr_iadd h dE_add_89 ?_
  refine sr_sipush (v := 8192) h dE_add_90 (by decide) ?_
  refine sr_icmp_gt (tgt := 110) h dE_add_93 (by decide) (fun c_11 => ?_) (fun c_11 => ?_)
  · replace vc := vc.1 c_11
    obtain ⟨hc_5, vc⟩ := vc
    exact sr_throw0 (names := ["java/lang/RuntimeException", "java/lang/Exception"]) h (by decide +kernel) (by decide +kernel) kw_224 kw_41 ka_E_52 kg_E_52 dE_add_110 dE_add_113 dE_add_114 dE_add_117 (fun _ z => nomatch z) (Nat.le_of_ble_eq_true rfl) (Nat.le_of_ble_eq_true rfl) hc_5.1 hc_5.2 hc_5.1 hc_5.2 vc
  · replace vc := vc.2 c_11
    refine sr_aloadO h dE_add_96 5 rfl ?_
    rcases r5 with _ | a_6
    · replace vc := vc.1 rfl
      refine sr_ifnonnull_n h dE_add_98 ?_
      refine sr_aload_n h dE_add_101 rfl 0 rfl ?_
      obtain ⟨v_7, hv_8, vc⟩ := vc
      refine sr_get h inE rfl 1 (by decide) kw_61 dE_add_102 ho_2 hv_8 ?_
      refine sr_bipush (v := 16) h dE_add_105 (by decide) ?_
      refine sr_icmp_lt (tgt := 118) h dE_add_107 (by decide) (fun c_10 => ?_) (fun c_10 => ?_)
      · replace vc := vc.1 c_10
        exact vc
      · replace vc := vc.2 c_10
        obtain ⟨hc_9, vc⟩ := vc
        exact sr_throw0 (names := ["java/lang/RuntimeException", "java/lang/Exception"]) h (by decide +kernel) (by decide +kernel) kw_224 kw_41 ka_E_52 kg_E_52 dE_add_110 dE_add_113 dE_add_114 dE_add_117 (fun _ z => nomatch z) (Nat.le_of_ble_eq_true rfl) (Nat.le_of_ble_eq_true rfl) hc_9.1 hc_9.2 hc_9.1 hc_9.2 vc
    · replace vc := vc.2 a_6 rfl
      refine sr_ifnonnull_s (tgt := 118) h dE_add_98 (by decide) ?_
      exact vc
set_option maxRecDepth 100000 in
set_option maxHeartbeats 4000000 in
theorem bkE_add_118 {κ : sp_K} {x : sp_X} {mc ms : Nat} {Rt : Option Value → sp_M → Prop} {Xt : String → sp_M → Prop} {μ : sp_M} {k n : Nat} {a0 : Nat} {v1 : Int32} {v2 : Int32} {r3 : Option Nat} {r4 : Option Nat} {r5 : Option Nat} (h : cxE_add κ x mc ms) (hk : k ≤ mc ∧ n ≤ ms)
    (vc : (∃ mc_1 ms_2 : Nat, (k + mc_1 ≤ mc ∧ n + ms_2 ≤ ms) ∧ ∃ fs_6 : List Value, μ a0 = some (.inr (2, fs_6)) ∧ sp_m x.2.1 κ yE_endHeads wE_endHeads 7 111 mc_1 ms_2 [.ref a0, va_rf r3] μ (fun v_4 μ_5 => v_4 = none ∧ ((r5 = none → (∃ mc_10 ms_11 : Nat, ((k + mc_1) + mc_10 ≤ mc ∧ (n + ms_2) + ms_11 ≤ ms) ∧ ∃ fs_15 : List Value, μ_5 a0 = some (.inr (2, fs_15)) ∧ sp_m x.2.1 κ yE_newAgent wE_newAgent 2 44 mc_10 ms_11 [.ref a0, .int v1] μ_5 (fun v_13 μ_14 => ∃ r_18 : Option Nat, v_13 = some (va_rf r_18) ∧ sp_w κ x (sp_F κ x Rt Xt mc ms) (k + mc_1 + mc_10) (n + ms_2 + ms_11) 139 [(0, .ref a0), (1, .int v1), (2, .int v2), (3, va_rf r3), (4, va_rf r4), (5, .null)] [va_rf r_18, .ref a0] μ_14) (fun E_19 μ_14 => Xt E_19 μ_14))) ∧ (∀ a_9 : Nat, r5 = some a_9 → sp_w κ x (sp_F κ x Rt Xt mc ms) (k + mc_1) (n + ms_2) 139 [(0, .ref a0), (1, .int v1), (2, .int v2), (3, va_rf r3), (4, va_rf r4), (5, .ref a_9)] [.ref a_9, .ref a0] μ_5))) (fun E_20 μ_5 => Xt E_20 μ_5))) : sp_w κ x (sp_F κ x Rt Xt mc ms) k n 118 [(0, .ref a0), (1, .int v1), (2, .int v2), (3, va_rf r3), (4, va_rf r4), (5, va_rf r5)] [] μ := by
  refine sr_aload_n h dE_add_118 rfl 0 rfl ?_
  refine sr_aloadO_n h dE_add_119 rfl 3 rfl ?_
  obtain ⟨mc_1, ms_2, hc_3, vc⟩ := vc
  obtain ⟨fs_6, ho_7, vc⟩ := vc
  refine sr_callV (y := yE_endHeads) (n0 := 1) (As := [va_rf r3]) h (sp_gV kw_301 kw_303 kw_9 kw_34 kw_304) rfl (by decide +kernel) ⟨Nat.le_of_ble_eq_true rfl, Nat.le_of_ble_eq_true rfl⟩ (ci := 2) rfl dE_add_120 rfl rfl (Nat.le_of_ble_eq_true rfl) hc_3 ho_7 vc (fun v_4 μ_5 vc' => ?_) (fun E_20 μ_5 vc' => ?_)
  · replace vc := vc'
    clear vc'
    obtain ⟨rfl, vc⟩ := vc
    refine sr_aload_n h dE_add_123 rfl 0 rfl ?_
    refine sr_aloadO h dE_add_124 5 rfl ?_
    rcases r5 with _ | a_9
    · replace vc := vc.1 rfl
      refine sr_ifnonnull_n h dE_add_126 ?_
      refine sr_aload_n h dE_add_129 rfl 0 rfl ?_
      refine sr_iload_n h dE_add_130 rfl 1 rfl ?_
      obtain ⟨mc_10, ms_11, hc_12, vc⟩ := vc
      obtain ⟨fs_15, ho_16, vc⟩ := vc
      refine sr_callV (y := yE_newAgent) (n0 := 1) (As := [.int v1]) h (sp_gV kw_305 kw_307 kw_10 kw_34 kw_308) rfl (by decide +kernel) ⟨Nat.le_of_ble_eq_true rfl, Nat.le_of_ble_eq_true rfl⟩ (ci := 2) rfl dE_add_131 rfl rfl (Nat.le_of_ble_eq_true rfl) hc_12 ho_16 vc (fun v_13 μ_14 vc' => ?_) (fun E_19 μ_14 vc' => ?_)
      · replace vc := vc'
        clear vc'
        obtain ⟨r_18, rfl, vc⟩ := vc
        refine sr_goto (tgt := 139) h dE_add_134 (by decide) ?_
        exact vc
      · replace vc := vc'
        clear vc'
        exact st_out h (fun _ z => nomatch z) hc_12.1 hc_12.2 vc
    · replace vc := vc.2 a_9 rfl
      refine sr_ifnonnull_s (tgt := 137) h dE_add_126 (by decide) ?_
      refine sr_aload h dE_add_137 5 rfl ?_
      exact vc
  · replace vc := vc'
    clear vc'
    exact st_out h (fun _ z => nomatch z) hc_3.1 hc_3.2 vc
set_option maxRecDepth 100000 in
set_option maxHeartbeats 4000000 in
theorem bkE_add_139 {κ : sp_K} {x : sp_X} {mc ms : Nat} {Rt : Option Value → sp_M → Prop} {Xt : String → sp_M → Prop} {μ : sp_M} {k n : Nat} {a0 : Nat} {v1 : Int32} {v2 : Int32} {r3 : Option Nat} {r4 : Option Nat} {r5 : Option Nat} {as0 : Nat} {rs1 : Option Nat} (h : cxE_add κ x mc ms) (hk : k ≤ mc ∧ n ≤ ms)
    (vc : (∃ mc_1 ms_2 : Nat, (k + mc_1 ≤ mc ∧ n + ms_2 ≤ ms) ∧ ∃ fs_6 : List Value, μ as0 = some (.inr (2, fs_6)) ∧ sp_m x.2.1 κ yE_append wE_append 2 51 mc_1 ms_2 [.ref as0, va_rf rs1, .int v2, va_rf r3, va_rf r4] μ (fun v_4 μ_5 => v_4 = none ∧ (∃ fs_9 : List Value, μ_5 a0 = some (.inr (2, fs_9)) ∧ ∃ v_11 : Int32, fs_9[3]? = some (.int v_11) ∧ Rt (some (.int (v_11 - 1))) μ_5)) (fun E_13 μ_5 => Xt E_13 μ_5))) : sp_w κ x (sp_F κ x Rt Xt mc ms) k n 139 [(0, .ref a0), (1, .int v1), (2, .int v2), (3, va_rf r3), (4, va_rf r4), (5, va_rf r5)] [va_rf rs1, .ref as0] μ := by
  refine sr_iload_n h dE_add_139 rfl 2 rfl ?_
  refine sr_aloadO_n h dE_add_140 rfl 3 rfl ?_
  refine sr_aloadO h dE_add_141 4 rfl ?_
  obtain ⟨mc_1, ms_2, hc_3, vc⟩ := vc
  obtain ⟨fs_6, ho_7, vc⟩ := vc
  refine sr_callV (y := yE_append) (n0 := 4) (As := [va_rf rs1, .int v2, va_rf r3, va_rf r4]) h (sp_gV kw_342 kw_344 kw_11 kw_34 kw_345) rfl (by decide +kernel) ⟨Nat.le_of_ble_eq_true rfl, Nat.le_of_ble_eq_true rfl⟩ (ci := 2) rfl dE_add_143 rfl rfl (Nat.le_of_ble_eq_true rfl) hc_3 ho_7 vc (fun v_4 μ_5 vc' => ?_) (fun E_13 μ_5 vc' => ?_)
  · replace vc := vc'
    clear vc'
    obtain ⟨rfl, vc⟩ := vc
    refine sr_aload_n h dE_add_146 rfl 0 rfl ?_
    obtain ⟨fs_9, ho_10, vc⟩ := vc
    obtain ⟨v_11, hv_12, vc⟩ := vc
    refine sr_get h inE rfl 3 (by decide) kw_63 dE_add_147 ho_10 hv_12 ?_
    refine sr_iconst (v := 1) h dE_add_150 (by decide) ?_
    refine sr_isub h dE_add_151 ?_
    exact sr_iret h dE_add_152 hc_3.1 hc_3.2 vc
  · replace vc := vc'
    clear vc'
    exact st_out h (fun _ z => nomatch z) hc_3.1 hc_3.2 vc
theorem opE_add {l : Launch} {κ : sp_K} {mc ms : Nat} {Rt : Option Value → sp_M → Prop} {Xt : String → sp_M → Prop} {μ : sp_M} {a0 : Nat} {v1 : Int32} {v2 : Int32} (htr : l.stackTraces = false) (body : ∀ x : sp_X, x.2.1.stackTraces = false → cxE_add κ x mc ms → sp_w κ x (sp_F κ x Rt Xt mc ms) 0 0 0 [(0, .ref a0), (1, .int v1), (2, .int v2)] [] μ) : sp_m l κ yE_add wE_add 9 164 mc ms [.ref a0, .int v1, .int v2] μ Rt Xt :=
  sp_open htr (by decide +kernel) rfl (Nat.le_of_ble_eq_true rfl) (by intro v hv; simp only [List.mem_cons, List.not_mem_nil, or_false] at hv; rcases hv with rfl | rfl | rfl <;> first | rfl | exact sp_c1o _) (fun x hx h => body x (by rw [hx]; exact htr) h)

abbrev cxE_takeList (κ : sp_K) (x : sp_X) (mc ms : Nat) : Prop := sp_C κ x cE_takeList 2 RE (some (.array .int)) [] "takeList" (sp_rm 2 48 mc ms)
set_option maxRecDepth 100000 in
set_option maxHeartbeats 4000000 in
theorem bkE_takeList_0 {κ : sp_K} {x : sp_X} {mc ms : Nat} {Rt : Option Value → sp_M → Prop} {Xt : String → sp_M → Prop} {μ : sp_M} {k n : Nat} {a0 : Nat} (h : cxE_takeList κ x mc ms) (hk : k ≤ mc ∧ n ≤ ms)
    (vc : (∃ fs_1 : List Value, μ a0 = some (.inr (2, fs_1)) ∧ ∃ r_3 : Option Nat, fs_1[5]? = some (va_rf r_3) ∧ (∃ v_5 : Int32, fs_1[6]? = some (.int v_5) ∧ (∃ mc_7 ms_8 : Nat, (k + mc_7 ≤ mc ∧ n + ms_8 ≤ ms) ∧ sp_m x.2.1 κ yJ_copyOf wJ_copyOf 1 26 mc_7 ms_8 [va_rf r_3, .int v_5] μ (fun v_10 μ_11 => ∃ r_13 : Option Nat, v_10 = some (va_rf r_13) ∧ (∃ fs_14 : List Value, μ_11 a0 = some (.inr (2, fs_14)) ∧ 6 < fs_14.length ∧ ∀ μ_16 : sp_M, μ_16 = va_up μ_11 a0 (some (.inr (2, fs_14.set 6 (.int 0)))) → Rt (some (va_rf r_13)) μ_16)) (fun E_18 μ_11 => Xt E_18 μ_11))))) : sp_w κ x (sp_F κ x Rt Xt mc ms) k n 0 [(0, .ref a0)] [] μ := by
  refine sr_aload_n h dE_takeList_0 rfl 0 rfl ?_
  obtain ⟨fs_1, ho_2, vc⟩ := vc
  obtain ⟨r_3, hv_4, vc⟩ := vc
  refine sr_get h inE rfl 5 (by decide) kw_65 dE_takeList_1 ho_2 hv_4 ?_
  refine sr_aload_n h dE_takeList_4 rfl 0 rfl ?_
  obtain ⟨v_5, hv_6, vc⟩ := vc
  refine sr_get h inE rfl 6 (by decide) kw_66 dE_takeList_5 ho_2 hv_6 ?_
  obtain ⟨mc_7, ms_8, hc_9, vc⟩ := vc
  refine sr_callS (y := yJ_copyOf) (n0 := 2) (As := [va_rf r_3, .int v_5]) (st := []) h (sp_gS kw_266 kw_267 kw_43 kw_268) rfl (by decide +kernel) ⟨Nat.le_of_ble_eq_true rfl, Nat.le_of_ble_eq_true rfl⟩ dE_takeList_8 rfl rfl (Nat.le_of_ble_eq_true rfl) hc_9 vc (fun v_10 μ_11 vc' => ?_) (fun E_18 μ_11 vc' => ?_)
  · replace vc := vc'
    clear vc'
    obtain ⟨r_13, rfl, vc⟩ := vc
    refine sr_astoreO_n (lv' := [(0, .ref a0), (1, va_rf r_13)]) h dE_takeList_11 rfl (by decide) rfl ?_
    refine sr_aload_n h dE_takeList_12 rfl 0 rfl ?_
    refine sr_iconst (v := 0) h dE_takeList_13 (by decide) ?_
    obtain ⟨fs_14, ho_15, vc⟩ := vc
    obtain ⟨hl_17, vc⟩ := vc
    replace vc := vc _ rfl
    refine sr_put h inE tyE tyE_ok nmE rfl 6 (by decide) kw_66 rfl dE_takeList_14 ho_15 rfl rfl hl_17 ?_
    refine sr_aloadO_n h dE_takeList_17 rfl 1 rfl ?_
    exact sr_aret (r := r_13) h (Or.inr ⟨_, rfl⟩) dE_takeList_18 hc_9.1 hc_9.2 vc
  · replace vc := vc'
    clear vc'
    exact st_out h (fun _ z => nomatch z) hc_9.1 hc_9.2 vc
theorem opE_takeList {l : Launch} {κ : sp_K} {mc ms : Nat} {Rt : Option Value → sp_M → Prop} {Xt : String → sp_M → Prop} {μ : sp_M} {a0 : Nat} (htr : l.stackTraces = false) (body : ∀ x : sp_X, x.2.1.stackTraces = false → cxE_takeList κ x mc ms → sp_w κ x (sp_F κ x Rt Xt mc ms) 0 0 0 [(0, .ref a0)] [] μ) : sp_m l κ yE_takeList wE_takeList 2 48 mc ms [.ref a0] μ Rt Xt :=
  sp_open htr (by decide +kernel) rfl (Nat.le_of_ble_eq_true rfl) (by intro v hv; simp only [List.mem_cons, List.not_mem_nil, or_false] at hv; subst hv; first | rfl | exact sp_c1o _) (fun x hx h => body x (by rw [hx]; exact htr) h)

abbrev cxE_seenFrom (κ : sp_K) (x : sp_X) (mc ms : Nat) : Prop := sp_C κ x cE_seenFrom 9 RE (some (.array .int)) [] "seenFrom" (sp_rm 7 111 mc ms)
set_option maxRecDepth 100000 in
set_option maxHeartbeats 4000000 in
theorem bkE_seenFrom_0 {κ : sp_K} {x : sp_X} {mc ms : Nat} {Rt : Option Value → sp_M → Prop} {Xt : String → sp_M → Prop} {μ : sp_M} {k n : Nat} {a0 : Nat} {a1 : Nat} (h : cxE_seenFrom κ x mc ms) (hk : k ≤ mc ∧ n ≤ ms)
    (vc : (∃ N_1 : Nat, 16 = nI N_1 ∧ N_1 ≤ 1000000 ∧ (k + 1 ≤ mc ∧ n + N_1 ≤ ms) ∧ ∀ q_5 : Nat, μ q_5 = none → ∀ μ_7 : sp_M, μ_7 = va_up μ q_5 (some (sp_ia κ N_1 (fun _ => 0))) → (∃ (N_8 : Nat) (f_9 : Nat → Int32), μ_7 a1 = some (sp_ia κ N_8 f_9) ∧ sp_w κ x (sp_F κ x Rt Xt mc ms) (k + 1) (n + N_1) 14 [(0, .ref a0), (1, .ref a1), (2, .ref q_5), (3, .ref a1), (4, .int (nI N_8)), (5, .int 0)] [] μ_7))) : sp_w κ x (sp_F κ x Rt Xt mc ms) k n 0 [(0, .ref a0), (1, .ref a1)] [] μ := by
  refine sr_bipush (v := 16) h dE_seenFrom_0 (by decide) ?_
  obtain ⟨N_1, hi_2, hN_3, hc_4, vc⟩ := vc
  refine sr_newa (atype := .int) (ty := .int) (t := 0) (N := N_1) (y := (N_1, .inl fun _ => 0)) h rfl (fun _ z => nomatch z) kw_82 rfl dE_seenFrom_2 (fun _ => rfl) rfl hi_2 (by omega) (by show N_1 * 4 ≤ _; omega) hc_4.1 hc_4.2 (fun q_5 hz_6 => ?_)
  replace vc := vc q_5 hz_6 _ rfl
  refine sr_astore_n (lv' := [(0, .ref a0), (1, .ref a1), (2, .ref q_5)]) h dE_seenFrom_4 rfl (by decide) rfl ?_
  refine sr_aload_n h dE_seenFrom_5 rfl 1 rfl ?_
  refine sr_astore_n (lv' := [(0, .ref a0), (1, .ref a1), (2, .ref q_5), (3, .ref a1)]) h dE_seenFrom_6 rfl (by decide) rfl ?_
  refine sr_aload_n h dE_seenFrom_7 rfl 3 rfl ?_
  obtain ⟨N_8, f_9, ho_10, vc⟩ := vc
  refine sr_alen (t := 0) h dE_seenFrom_8 ho_10 rfl ?_
  refine sr_istore (lv' := [(0, .ref a0), (1, .ref a1), (2, .ref q_5), (3, .ref a1), (4, .int (nI N_8))]) h dE_seenFrom_9 (by decide) rfl ?_
  refine sr_iconst (v := 0) h dE_seenFrom_11 (by decide) ?_
  refine sr_istore (lv' := [(0, .ref a0), (1, .ref a1), (2, .ref q_5), (3, .ref a1), (4, .int (nI N_8)), (5, .int 0)]) h dE_seenFrom_12 (by decide) rfl ?_
  exact vc
set_option maxRecDepth 100000 in
set_option maxHeartbeats 4000000 in
theorem bkE_seenFrom_14 {κ : sp_K} {x : sp_X} {mc ms : Nat} {Rt : Option Value → sp_M → Prop} {Xt : String → sp_M → Prop} {μ : sp_M} {k n : Nat} {a0 : Nat} {a1 : Nat} {a2 : Nat} {a3 : Nat} {v4 : Int32} {v5 : Int32} (h : cxE_seenFrom κ x mc ms) (hk : k ≤ mc ∧ n ≤ ms)
    (vc : ((v4 ≤ v5 → Rt (some (.ref a2)) μ) ∧ (¬ v4 ≤ v5 → (∃ (N_1 : Nat) (f_2 : Nat → Int32), μ a3 = some (sp_ia κ N_1 f_2) ∧ ∃ j_4 : Nat, v5 = nI j_4 ∧ j_4 < N_1 ∧ (∃ mc_7 ms_8 : Nat, (k + mc_7 ≤ mc ∧ n + ms_8 ≤ ms) ∧ ∃ fs_12 : List Value, μ a0 = some (.inr (2, fs_12)) ∧ sp_m x.2.1 κ yE_spanOf wE_spanOf 6 90 mc_7 ms_8 [.ref a0, .int (f_2 j_4)] μ (fun v_10 μ_11 => ∃ r_15 : Option Nat, v_10 = some (va_rf r_15) ∧ sp_w κ x (sp_F κ x Rt Xt mc ms) (k + mc_7) (n + ms_8) 38 [(0, .ref a0), (1, .ref a1), (2, .ref a2), (3, .ref a3), (4, .int v4), (5, .int v5), (6, .int (f_2 j_4)), (7, va_rf r_15), (8, .int 0)] [] μ_11) (fun E_16 μ_11 => Xt E_16 μ_11)))))) : sp_w κ x (sp_F κ x Rt Xt mc ms) k n 14 [(0, .ref a0), (1, .ref a1), (2, .ref a2), (3, .ref a3), (4, .int v4), (5, .int v5)] [] μ := by
  refine sr_iload h dE_seenFrom_14 5 rfl ?_
  refine sr_iload h dE_seenFrom_16 4 rfl ?_
  refine sr_icmp_ge (tgt := 77) h dE_seenFrom_18 (by decide) (fun c_17 => ?_) (fun c_17 => ?_)
  · replace vc := vc.1 c_17
    refine sr_aload_n h dE_seenFrom_77 rfl 2 rfl ?_
    exact sr_aret (r := some a2) h (Or.inr ⟨_, rfl⟩) dE_seenFrom_78 hk.1 hk.2 vc
  · replace vc := vc.2 c_17
    refine sr_aload_n h dE_seenFrom_21 rfl 3 rfl ?_
    refine sr_iload h dE_seenFrom_22 5 rfl ?_
    obtain ⟨N_1, f_2, ho_3, vc⟩ := vc
    obtain ⟨j_4, hi_5, hj_6, vc⟩ := vc
    refine sr_iald h dE_seenFrom_24 ho_3 hi_5 hj_6 ?_
    refine sr_istore (lv' := [(0, .ref a0), (1, .ref a1), (2, .ref a2), (3, .ref a3), (4, .int v4), (5, .int v5), (6, .int (f_2 j_4))]) h dE_seenFrom_25 (by decide) rfl ?_
    refine sr_aload_n h dE_seenFrom_27 rfl 0 rfl ?_
    refine sr_iload h dE_seenFrom_28 6 rfl ?_
    obtain ⟨mc_7, ms_8, hc_9, vc⟩ := vc
    obtain ⟨fs_12, ho_13, vc⟩ := vc
    refine sr_callV (y := yE_spanOf) (n0 := 1) (As := [.int (f_2 j_4)]) h (sp_gV kw_284 kw_286 kw_6 kw_34 kw_287) rfl (by decide +kernel) ⟨Nat.le_of_ble_eq_true rfl, Nat.le_of_ble_eq_true rfl⟩ (ci := 2) rfl dE_seenFrom_30 rfl rfl (Nat.le_of_ble_eq_true rfl) hc_9 ho_13 vc (fun v_10 μ_11 vc' => ?_) (fun E_16 μ_11 vc' => ?_)
    · replace vc := vc'
      clear vc'
      obtain ⟨r_15, rfl, vc⟩ := vc
      refine sr_astoreO (lv' := [(0, .ref a0), (1, .ref a1), (2, .ref a2), (3, .ref a3), (4, .int v4), (5, .int v5), (6, .int (f_2 j_4)), (7, va_rf r_15)]) h dE_seenFrom_33 (by decide) rfl ?_
      refine sr_iconst (v := 0) h dE_seenFrom_35 (by decide) ?_
      refine sr_istore (lv' := [(0, .ref a0), (1, .ref a1), (2, .ref a2), (3, .ref a3), (4, .int v4), (5, .int v5), (6, .int (f_2 j_4)), (7, va_rf r_15), (8, .int 0)]) h dE_seenFrom_36 (by decide) rfl ?_
      exact vc
    · replace vc := vc'
      clear vc'
      exact st_out h (fun _ z => nomatch z) hc_9.1 hc_9.2 vc
set_option maxRecDepth 100000 in
set_option maxHeartbeats 4000000 in
theorem bkE_seenFrom_38 {κ : sp_K} {x : sp_X} {mc ms : Nat} {Rt : Option Value → sp_M → Prop} {Xt : String → sp_M → Prop} {μ : sp_M} {k n : Nat} {a0 : Nat} {a1 : Nat} {a2 : Nat} {a3 : Nat} {v4 : Int32} {v5 : Int32} {v6 : Int32} {r7 : Option Nat} {v8 : Int32} (h : cxE_seenFrom κ x mc ms) (hk : k ≤ mc ∧ n ≤ ms)
    (vc : ((16 ≤ v8 → sp_w κ x (sp_F κ x Rt Xt mc ms) k n 14 [(0, .ref a0), (1, .ref a1), (2, .ref a2), (3, .ref a3), (4, .int v4), (5, .int (v5 + 1))] [] μ) ∧ (¬ 16 ≤ v8 → (∃ (N_1 : Nat) (f_2 : Nat → Int32), μ a2 = some (sp_ia κ N_1 f_2) ∧ ∃ j_4 : Nat, v8 = nI j_4 ∧ j_4 < N_1 ∧ (∃ a_12 : Nat, r7 = some a_12 ∧ ∃ mc_7 ms_8 : Nat, (k + mc_7 ≤ mc ∧ n + ms_8 ≤ ms) ∧ ∃ fs_13 : List Value, μ a_12 = some (.inr (1, fs_13)) ∧ sp_m x.2.1 κ yS_seenAt wS_seenAt 1 21 mc_7 ms_8 [.ref a_12, .int v6, .int v8] μ (fun v_10 μ_11 => ∃ v_16 : Int32, v_10 = some (.int v_16) ∧ (∃ (N_17 : Nat) (f_18 : Nat → Int32), μ_11 a2 = some (sp_ia κ N_17 f_18) ∧ ∃ j_20 : Nat, v8 = nI j_20 ∧ j_20 < N_17 ∧ ∀ μ_23 : sp_M, μ_23 = va_up μ_11 a2 (some (sp_ia κ N_17 (upd f_18 j_20 (if (f_2 j_4) < v_16 then v_16 else (f_2 j_4))))) → sp_w κ x (sp_F κ x Rt Xt mc ms) (k + mc_7) (n + ms_8) 38 [(0, .ref a0), (1, .ref a1), (2, .ref a2), (3, .ref a3), (4, .int v4), (5, .int v5), (6, .int v6), (7, .ref a_12), (8, .int (v8 + 1))] [] μ_23)) (fun E_24 μ_11 => Xt E_24 μ_11)))))) : sp_w κ x (sp_F κ x Rt Xt mc ms) k n 38 [(0, .ref a0), (1, .ref a1), (2, .ref a2), (3, .ref a3), (4, .int v4), (5, .int v5), (6, .int v6), (7, va_rf r7), (8, .int v8)] [] μ := by
  refine sr_iload h dE_seenFrom_38 8 rfl ?_
  refine sr_bipush (v := 16) h dE_seenFrom_40 (by decide) ?_
  refine sr_icmp_ge (tgt := 71) h dE_seenFrom_42 (by decide) (fun c_25 => ?_) (fun c_25 => ?_)
  · replace vc := vc.1 c_25
    refine sr_iinc (u := v5 + 1) (lv' := [(0, .ref a0), (1, .ref a1), (2, .ref a2), (3, .ref a3), (4, .int v4), (5, .int (v5 + 1)), (6, .int v6), (7, va_rf r7), (8, .int v8)]) h dE_seenFrom_71 5 rfl rfl (by decide) rfl ?_
    refine sr_goto (tgt := 14) h dE_seenFrom_74 (by decide) ?_
    exact sr_sub (lv' := [(0, .ref a0), (1, .ref a1), (2, .ref a2), (3, .ref a3), (4, .int v4), (5, .int (v5 + 1))]) [0, 1, 2, 3, 4, 5] rfl vc
  · replace vc := vc.2 c_25
    refine sr_aload_n h dE_seenFrom_45 rfl 2 rfl ?_
    refine sr_iload h dE_seenFrom_46 8 rfl ?_
    refine sr_aload_n h dE_seenFrom_48 rfl 2 rfl ?_
    refine sr_iload h dE_seenFrom_49 8 rfl ?_
    obtain ⟨N_1, f_2, ho_3, vc⟩ := vc
    obtain ⟨j_4, hi_5, hj_6, vc⟩ := vc
    refine sr_iald h dE_seenFrom_51 ho_3 hi_5 hj_6 ?_
    refine sr_aloadO h dE_seenFrom_52 7 rfl ?_
    refine sr_iload h dE_seenFrom_54 6 rfl ?_
    refine sr_iload h dE_seenFrom_56 8 rfl ?_
    obtain ⟨a_12, rfl, vc⟩ := vc
    obtain ⟨mc_7, ms_8, hc_9, vc⟩ := vc
    obtain ⟨fs_13, ho_14, vc⟩ := vc
    refine sr_callV (y := yS_seenAt) (n0 := 2) (As := [.int v6, .int v8]) h (sp_gV kw_288 kw_289 kw_290 kw_47 kw_291) rfl (by decide +kernel) ⟨Nat.le_of_ble_eq_true rfl, Nat.le_of_ble_eq_true rfl⟩ (ci := 1) rfl dE_seenFrom_58 rfl rfl (Nat.le_of_ble_eq_true rfl) hc_9 ho_14 vc (fun v_10 μ_11 vc' => ?_) (fun E_24 μ_11 vc' => ?_)
    · replace vc := vc'
      clear vc'
      obtain ⟨v_16, rfl, vc⟩ := vc
      refine sr_mmax h kw_109 kw_110 kw_44 kw_mmax dE_seenFrom_61 (Nat.le_of_ble_eq_true rfl) (Nat.le_of_ble_eq_true rfl) hc_9.1 hc_9.2 ?_
      obtain ⟨N_17, f_18, ho_19, vc⟩ := vc
      obtain ⟨j_20, hi_21, hj_22, vc⟩ := vc
      replace vc := vc _ rfl
      refine sr_iast h dE_seenFrom_64 ho_19 hi_21 hj_22 ?_
      refine sr_iinc (u := v8 + 1) (lv' := [(0, .ref a0), (1, .ref a1), (2, .ref a2), (3, .ref a3), (4, .int v4), (5, .int v5), (6, .int v6), (7, .ref a_12), (8, .int (v8 + 1))]) h dE_seenFrom_65 8 rfl rfl (by decide) rfl ?_
      refine sr_goto (tgt := 38) h dE_seenFrom_68 (by decide) ?_
      exact vc
    · replace vc := vc'
      clear vc'
      exact st_out h (fun _ z => nomatch z) hc_9.1 hc_9.2 vc
theorem opE_seenFrom {l : Launch} {κ : sp_K} {mc ms : Nat} {Rt : Option Value → sp_M → Prop} {Xt : String → sp_M → Prop} {μ : sp_M} {a0 : Nat} {a1 : Nat} (htr : l.stackTraces = false) (body : ∀ x : sp_X, x.2.1.stackTraces = false → cxE_seenFrom κ x mc ms → sp_w κ x (sp_F κ x Rt Xt mc ms) 0 0 0 [(0, .ref a0), (1, .ref a1)] [] μ) : sp_m l κ yE_seenFrom wE_seenFrom 7 111 mc ms [.ref a0, .ref a1] μ Rt Xt :=
  sp_open htr (by decide +kernel) rfl (Nat.le_of_ble_eq_true rfl) (by intro v hv; simp only [List.mem_cons, List.not_mem_nil, or_false] at hv; rcases hv with rfl | rfl <;> first | rfl | exact sp_c1o _) (fun x hx h => body x (by rw [hx]; exact htr) h)

abbrev cxE_spanOf (κ : sp_K) (x : sp_X) (mc ms : Nat) : Prop := sp_C κ x cE_spanOf 2 RE (some (.object "EventSpans$Span")) [] "spanOf" (sp_rm 6 90 mc ms)
set_option maxRecDepth 100000 in
set_option maxHeartbeats 4000000 in
theorem bkE_spanOf_0 {κ : sp_K} {x : sp_X} {mc ms : Nat} {Rt : Option Value → sp_M → Prop} {Xt : String → sp_M → Prop} {μ : sp_M} {k n : Nat} {a0 : Nat} {v1 : Int32} (h : cxE_spanOf κ x mc ms) (hk : k ≤ mc ∧ n ≤ ms)
    (vc : ((v1 < 0 → ((k + 1 ≤ mc ∧ n + 6 ≤ ms) ∧ Xt "java/util/NoSuchElementException" μ)) ∧ (¬ v1 < 0 → ((8192 ≤ v1 → ((k + 1 ≤ mc ∧ n + 6 ≤ ms) ∧ Xt "java/util/NoSuchElementException" μ)) ∧ (¬ 8192 ≤ v1 → (∃ fs_3 : List Value, μ a0 = some (.inr (2, fs_3)) ∧ ∃ r_5 : Option Nat, fs_3[2]? = some (va_rf r_5) ∧ (∃ a_7 : Nat, r_5 = some a_7 ∧ ∃ (N_8 : Nat) (f_9 : Nat → Option Nat), μ a_7 = some (sp_ra κ 4 N_8 f_9) ∧ ∃ j_11 : Nat, v1 = nI j_11 ∧ j_11 < N_8 ∧ ∃ r_14 : Option Nat, f_9 j_11 = r_14 ∧ ((r_14 = none → ((k + 1 ≤ mc ∧ n + 6 ≤ ms) ∧ Xt "java/util/NoSuchElementException" μ)) ∧ (∀ a_16 : Nat, r_14 = some a_16 → ((∃ j_18 : Nat, v1 = nI j_18 ∧ j_18 < N_8 ∧ ∃ r_21 : Option Nat, f_9 j_18 = r_21 ∧ Rt (some (va_rf r_21)) μ))))))))))) : sp_w κ x (sp_F κ x Rt Xt mc ms) k n 0 [(0, .ref a0), (1, .int v1)] [] μ := by
  refine sr_iload_n h dE_spanOf_0 rfl 1 rfl ?_
  refine sr_if_lt (tgt := 20) h dE_spanOf_1 (by decide) (fun c_24 => ?_) (fun c_24 => ?_)
  · replace vc := vc.1 c_24
    obtain ⟨hc_1, vc⟩ := vc
    exact sr_throw0 (names := ["java/lang/RuntimeException", "java/lang/Exception"]) h (by decide +kernel) (by decide +kernel) kw_129 kw_39 ka_E_123 kg_E_123 dE_spanOf_20 dE_spanOf_23 dE_spanOf_24 dE_spanOf_27 (fun _ z => nomatch z) (Nat.le_of_ble_eq_true rfl) (Nat.le_of_ble_eq_true rfl) hc_1.1 hc_1.2 hc_1.1 hc_1.2 vc
  · replace vc := vc.2 c_24
    refine sr_iload_n h dE_spanOf_4 rfl 1 rfl ?_
    refine sr_sipush (v := 8192) h dE_spanOf_5 (by decide) ?_
    refine sr_icmp_ge (tgt := 20) h dE_spanOf_8 (by decide) (fun c_23 => ?_) (fun c_23 => ?_)
    · replace vc := vc.1 c_23
      obtain ⟨hc_2, vc⟩ := vc
      exact sr_throw0 (names := ["java/lang/RuntimeException", "java/lang/Exception"]) h (by decide +kernel) (by decide +kernel) kw_129 kw_39 ka_E_123 kg_E_123 dE_spanOf_20 dE_spanOf_23 dE_spanOf_24 dE_spanOf_27 (fun _ z => nomatch z) (Nat.le_of_ble_eq_true rfl) (Nat.le_of_ble_eq_true rfl) hc_2.1 hc_2.2 hc_2.1 hc_2.2 vc
    · replace vc := vc.2 c_23
      refine sr_aload_n h dE_spanOf_11 rfl 0 rfl ?_
      obtain ⟨fs_3, ho_4, vc⟩ := vc
      obtain ⟨r_5, hv_6, vc⟩ := vc
      refine sr_get h inE rfl 2 (by decide) kw_62 dE_spanOf_12 ho_4 hv_6 ?_
      refine sr_iload_n h dE_spanOf_15 rfl 1 rfl ?_
      obtain ⟨a_7, rfl, vc⟩ := vc
      obtain ⟨N_8, f_9, ho_10, vc⟩ := vc
      obtain ⟨j_11, hi_12, hj_13, vc⟩ := vc
      obtain ⟨r_14, hr_15, vc⟩ := vc
      refine sr_aald h dE_spanOf_16 rfl ho_10 hi_12 hj_13 hr_15 ?_
      rcases r_14 with _ | a_16
      · replace vc := vc.1 rfl
        refine sr_ifnonnull_n h dE_spanOf_17 ?_
        obtain ⟨hc_17, vc⟩ := vc
        exact sr_throw0 (names := ["java/lang/RuntimeException", "java/lang/Exception"]) h (by decide +kernel) (by decide +kernel) kw_129 kw_39 ka_E_123 kg_E_123 dE_spanOf_20 dE_spanOf_23 dE_spanOf_24 dE_spanOf_27 (fun _ z => nomatch z) (Nat.le_of_ble_eq_true rfl) (Nat.le_of_ble_eq_true rfl) hc_17.1 hc_17.2 hc_17.1 hc_17.2 vc
      · replace vc := vc.2 a_16 rfl
        refine sr_ifnonnull_s (tgt := 28) h dE_spanOf_17 (by decide) ?_
        refine sr_aload_n h dE_spanOf_28 rfl 0 rfl ?_
        refine sr_get h inE rfl 2 (by decide) kw_62 dE_spanOf_29 ho_4 hv_6 ?_
        refine sr_iload_n h dE_spanOf_32 rfl 1 rfl ?_
        obtain ⟨j_18, hi_19, hj_20, vc⟩ := vc
        obtain ⟨r_21, hr_22, vc⟩ := vc
        refine sr_aald h dE_spanOf_33 rfl ho_10 hi_19 hj_20 hr_22 ?_
        exact sr_aret (r := r_21) h (Or.inl ⟨_, rfl⟩) dE_spanOf_34 hk.1 hk.2 vc
theorem opE_spanOf {l : Launch} {κ : sp_K} {mc ms : Nat} {Rt : Option Value → sp_M → Prop} {Xt : String → sp_M → Prop} {μ : sp_M} {a0 : Nat} {v1 : Int32} (htr : l.stackTraces = false) (body : ∀ x : sp_X, x.2.1.stackTraces = false → cxE_spanOf κ x mc ms → sp_w κ x (sp_F κ x Rt Xt mc ms) 0 0 0 [(0, .ref a0), (1, .int v1)] [] μ) : sp_m l κ yE_spanOf wE_spanOf 6 90 mc ms [.ref a0, .int v1] μ Rt Xt :=
  sp_open htr (by decide +kernel) rfl (Nat.le_of_ble_eq_true rfl) (by intro v hv; simp only [List.mem_cons, List.not_mem_nil, or_false] at hv; rcases hv with rfl | rfl <;> first | rfl | exact sp_c1o _) (fun x hx h => body x (by rw [hx]; exact htr) h)

abbrev cxE_holdsAncestor (κ : sp_K) (x : sp_X) (mc ms : Nat) : Prop := sp_C κ x cE_holdsAncestor 10 RE (some .boolean) [] "holdsAncestor" (sp_rm 8 135 mc ms)
set_option maxRecDepth 100000 in
set_option maxHeartbeats 4000000 in
theorem bkE_holdsAncestor_0 {κ : sp_K} {x : sp_X} {mc ms : Nat} {Rt : Option Value → sp_M → Prop} {Xt : String → sp_M → Prop} {μ : sp_M} {k n : Nat} {a0 : Nat} {a1 : Nat} (h : cxE_holdsAncestor κ x mc ms) (hk : k ≤ mc ∧ n ≤ ms)
    (vc : (∃ (N_1 : Nat) (f_2 : Nat → Int32), μ a1 = some (sp_ia κ N_1 f_2) ∧ sp_w κ x (sp_F κ x Rt Xt mc ms) k n 8 [(0, .ref a0), (1, .ref a1), (2, .ref a1), (3, .int (nI N_1)), (4, .int 0)] [] μ)) : sp_w κ x (sp_F κ x Rt Xt mc ms) k n 0 [(0, .ref a0), (1, .ref a1)] [] μ := by
  refine sr_aload_n h dE_holdsAncestor_0 rfl 1 rfl ?_
  refine sr_astore_n (lv' := [(0, .ref a0), (1, .ref a1), (2, .ref a1)]) h dE_holdsAncestor_1 rfl (by decide) rfl ?_
  refine sr_aload_n h dE_holdsAncestor_2 rfl 2 rfl ?_
  obtain ⟨N_1, f_2, ho_3, vc⟩ := vc
  refine sr_alen (t := 0) h dE_holdsAncestor_3 ho_3 rfl ?_
  refine sr_istore_n (lv' := [(0, .ref a0), (1, .ref a1), (2, .ref a1), (3, .int (nI N_1))]) h dE_holdsAncestor_4 rfl (by decide) rfl ?_
  refine sr_iconst (v := 0) h dE_holdsAncestor_5 (by decide) ?_
  refine sr_istore (lv' := [(0, .ref a0), (1, .ref a1), (2, .ref a1), (3, .int (nI N_1)), (4, .int 0)]) h dE_holdsAncestor_6 (by decide) rfl ?_
  exact vc
set_option maxRecDepth 100000 in
set_option maxHeartbeats 4000000 in
theorem bkE_holdsAncestor_8 {κ : sp_K} {x : sp_X} {mc ms : Nat} {Rt : Option Value → sp_M → Prop} {Xt : String → sp_M → Prop} {μ : sp_M} {k n : Nat} {a0 : Nat} {a1 : Nat} {a2 : Nat} {v3 : Int32} {v4 : Int32} (h : cxE_holdsAncestor κ x mc ms) (hk : k ≤ mc ∧ n ≤ ms)
    (vc : ((v3 ≤ v4 → Rt (some (.int 0)) μ) ∧ (¬ v3 ≤ v4 → (∃ (N_1 : Nat) (f_2 : Nat → Int32), μ a2 = some (sp_ia κ N_1 f_2) ∧ ∃ j_4 : Nat, v4 = nI j_4 ∧ j_4 < N_1 ∧ (∃ (N_7 : Nat) (f_8 : Nat → Int32), μ a1 = some (sp_ia κ N_7 f_8) ∧ sp_w κ x (sp_F κ x Rt Xt mc ms) k n 31 [(0, .ref a0), (1, .ref a1), (2, .ref a2), (3, .int v3), (4, .int v4), (5, .int (f_2 j_4)), (6, .ref a1), (7, .int (nI N_7)), (8, .int 0)] [] μ))))) : sp_w κ x (sp_F κ x Rt Xt mc ms) k n 8 [(0, .ref a0), (1, .ref a1), (2, .ref a2), (3, .int v3), (4, .int v4)] [] μ := by
  refine sr_iload h dE_holdsAncestor_8 4 rfl ?_
  refine sr_iload_n h dE_holdsAncestor_10 rfl 3 rfl ?_
  refine sr_icmp_ge (tgt := 70) h dE_holdsAncestor_11 (by decide) (fun c_10 => ?_) (fun c_10 => ?_)
  · replace vc := vc.1 c_10
    refine sr_iconst (v := 0) h dE_holdsAncestor_70 (by decide) ?_
    exact sr_zret h dE_holdsAncestor_71 rfl hk.1 hk.2 vc
  · replace vc := vc.2 c_10
    refine sr_aload_n h dE_holdsAncestor_14 rfl 2 rfl ?_
    refine sr_iload h dE_holdsAncestor_15 4 rfl ?_
    obtain ⟨N_1, f_2, ho_3, vc⟩ := vc
    obtain ⟨j_4, hi_5, hj_6, vc⟩ := vc
    refine sr_iald h dE_holdsAncestor_17 ho_3 hi_5 hj_6 ?_
    refine sr_istore (lv' := [(0, .ref a0), (1, .ref a1), (2, .ref a2), (3, .int v3), (4, .int v4), (5, .int (f_2 j_4))]) h dE_holdsAncestor_18 (by decide) rfl ?_
    refine sr_aload_n h dE_holdsAncestor_20 rfl 1 rfl ?_
    refine sr_astore (lv' := [(0, .ref a0), (1, .ref a1), (2, .ref a2), (3, .int v3), (4, .int v4), (5, .int (f_2 j_4)), (6, .ref a1)]) h dE_holdsAncestor_21 (by decide) rfl ?_
    refine sr_aload h dE_holdsAncestor_23 6 rfl ?_
    obtain ⟨N_7, f_8, ho_9, vc⟩ := vc
    refine sr_alen (t := 0) h dE_holdsAncestor_25 ho_9 rfl ?_
    refine sr_istore (lv' := [(0, .ref a0), (1, .ref a1), (2, .ref a2), (3, .int v3), (4, .int v4), (5, .int (f_2 j_4)), (6, .ref a1), (7, .int (nI N_7))]) h dE_holdsAncestor_26 (by decide) rfl ?_
    refine sr_iconst (v := 0) h dE_holdsAncestor_28 (by decide) ?_
    refine sr_istore (lv' := [(0, .ref a0), (1, .ref a1), (2, .ref a2), (3, .int v3), (4, .int v4), (5, .int (f_2 j_4)), (6, .ref a1), (7, .int (nI N_7)), (8, .int 0)]) h dE_holdsAncestor_29 (by decide) rfl ?_
    exact vc
set_option maxRecDepth 100000 in
set_option maxHeartbeats 4000000 in
theorem bkE_holdsAncestor_31 {κ : sp_K} {x : sp_X} {mc ms : Nat} {Rt : Option Value → sp_M → Prop} {Xt : String → sp_M → Prop} {μ : sp_M} {k n : Nat} {a0 : Nat} {a1 : Nat} {a2 : Nat} {v3 : Int32} {v4 : Int32} {v5 : Int32} {a6 : Nat} {v7 : Int32} {v8 : Int32} (h : cxE_holdsAncestor κ x mc ms) (hk : k ≤ mc ∧ n ≤ ms)
    (vc : ((v7 ≤ v8 → sp_w κ x (sp_F κ x Rt Xt mc ms) k n 8 [(0, .ref a0), (1, .ref a1), (2, .ref a2), (3, .int v3), (4, .int (v4 + 1))] [] μ) ∧ (¬ v7 ≤ v8 → (∃ (N_1 : Nat) (f_2 : Nat → Int32), μ a6 = some (sp_ia κ N_1 f_2) ∧ ∃ j_4 : Nat, v8 = nI j_4 ∧ j_4 < N_1 ∧ (∃ mc_7 ms_8 : Nat, (k + mc_7 ≤ mc ∧ n + ms_8 ≤ ms) ∧ ∃ fs_12 : List Value, μ a0 = some (.inr (2, fs_12)) ∧ sp_m x.2.1 κ yE_isAncestor wE_isAncestor 7 111 mc_7 ms_8 [.ref a0, .int v5, .int (f_2 j_4)] μ (fun v_10 μ_11 => ∃ v_15 : Int32, v_10 = some (.int v_15) ∧ ((v_15 = 0 → sp_w κ x (sp_F κ x Rt Xt mc ms) (k + mc_7) (n + ms_8) 31 [(0, .ref a0), (1, .ref a1), (2, .ref a2), (3, .int v3), (4, .int v4), (5, .int v5), (6, .ref a6), (7, .int v7), (8, .int (v8 + 1))] [] μ_11) ∧ (¬ v_15 = 0 → Rt (some (.int 1)) μ_11))) (fun E_17 μ_11 => Xt E_17 μ_11)))))) : sp_w κ x (sp_F κ x Rt Xt mc ms) k n 31 [(0, .ref a0), (1, .ref a1), (2, .ref a2), (3, .int v3), (4, .int v4), (5, .int v5), (6, .ref a6), (7, .int v7), (8, .int v8)] [] μ := by
  refine sr_iload h dE_holdsAncestor_31 8 rfl ?_
  refine sr_iload h dE_holdsAncestor_33 7 rfl ?_
  refine sr_icmp_ge (tgt := 64) h dE_holdsAncestor_35 (by decide) (fun c_18 => ?_) (fun c_18 => ?_)
  · replace vc := vc.1 c_18
    refine sr_iinc (u := v4 + 1) (lv' := [(0, .ref a0), (1, .ref a1), (2, .ref a2), (3, .int v3), (4, .int (v4 + 1)), (5, .int v5), (6, .ref a6), (7, .int v7), (8, .int v8)]) h dE_holdsAncestor_64 4 rfl rfl (by decide) rfl ?_
    refine sr_goto (tgt := 8) h dE_holdsAncestor_67 (by decide) ?_
    exact sr_sub (lv' := [(0, .ref a0), (1, .ref a1), (2, .ref a2), (3, .int v3), (4, .int (v4 + 1))]) [0, 1, 2, 3, 4] rfl vc
  · replace vc := vc.2 c_18
    refine sr_aload h dE_holdsAncestor_38 6 rfl ?_
    refine sr_iload h dE_holdsAncestor_40 8 rfl ?_
    obtain ⟨N_1, f_2, ho_3, vc⟩ := vc
    obtain ⟨j_4, hi_5, hj_6, vc⟩ := vc
    refine sr_iald h dE_holdsAncestor_42 ho_3 hi_5 hj_6 ?_
    refine sr_istore (lv' := [(0, .ref a0), (1, .ref a1), (2, .ref a2), (3, .int v3), (4, .int v4), (5, .int v5), (6, .ref a6), (7, .int v7), (8, .int v8), (9, .int (f_2 j_4))]) h dE_holdsAncestor_43 (by decide) rfl ?_
    refine sr_aload_n h dE_holdsAncestor_45 rfl 0 rfl ?_
    refine sr_iload h dE_holdsAncestor_46 5 rfl ?_
    refine sr_iload h dE_holdsAncestor_48 9 rfl ?_
    obtain ⟨mc_7, ms_8, hc_9, vc⟩ := vc
    obtain ⟨fs_12, ho_13, vc⟩ := vc
    refine sr_callV (y := yE_isAncestor) (n0 := 2) (As := [.int v5, .int (f_2 j_4)]) h (sp_gV kw_296 kw_298 kw_8 kw_34 kw_299) rfl (by decide +kernel) ⟨Nat.le_of_ble_eq_true rfl, Nat.le_of_ble_eq_true rfl⟩ (ci := 2) rfl dE_holdsAncestor_50 rfl rfl (Nat.le_of_ble_eq_true rfl) hc_9 ho_13 vc (fun v_10 μ_11 vc' => ?_) (fun E_17 μ_11 vc' => ?_)
    · replace vc := vc'
      clear vc'
      obtain ⟨v_15, rfl, vc⟩ := vc
      refine sr_if_eq (tgt := 58) h dE_holdsAncestor_53 (by decide) (fun c_16 => ?_) (fun c_16 => ?_)
      · replace vc := vc.1 c_16
        refine sr_iinc (u := v8 + 1) (lv' := [(0, .ref a0), (1, .ref a1), (2, .ref a2), (3, .int v3), (4, .int v4), (5, .int v5), (6, .ref a6), (7, .int v7), (8, .int (v8 + 1)), (9, .int (f_2 j_4))]) h dE_holdsAncestor_58 8 rfl rfl (by decide) rfl ?_
        refine sr_goto (tgt := 31) h dE_holdsAncestor_61 (by decide) ?_
        exact sr_sub (lv' := [(0, .ref a0), (1, .ref a1), (2, .ref a2), (3, .int v3), (4, .int v4), (5, .int v5), (6, .ref a6), (7, .int v7), (8, .int (v8 + 1))]) [0, 1, 2, 3, 4, 5, 6, 7, 8] rfl vc
      · replace vc := vc.2 c_16
        refine sr_iconst (v := 1) h dE_holdsAncestor_56 (by decide) ?_
        exact sr_zret h dE_holdsAncestor_57 rfl hc_9.1 hc_9.2 vc
    · replace vc := vc'
      clear vc'
      exact st_out h (fun _ z => nomatch z) hc_9.1 hc_9.2 vc
theorem opE_holdsAncestor {l : Launch} {κ : sp_K} {mc ms : Nat} {Rt : Option Value → sp_M → Prop} {Xt : String → sp_M → Prop} {μ : sp_M} {a0 : Nat} {a1 : Nat} (htr : l.stackTraces = false) (body : ∀ x : sp_X, x.2.1.stackTraces = false → cxE_holdsAncestor κ x mc ms → sp_w κ x (sp_F κ x Rt Xt mc ms) 0 0 0 [(0, .ref a0), (1, .ref a1)] [] μ) : sp_m l κ yE_holdsAncestor wE_holdsAncestor 8 135 mc ms [.ref a0, .ref a1] μ Rt Xt :=
  sp_open htr (by decide +kernel) rfl (Nat.le_of_ble_eq_true rfl) (by intro v hv; simp only [List.mem_cons, List.not_mem_nil, or_false] at hv; rcases hv with rfl | rfl <;> first | rfl | exact sp_c1o _) (fun x hx h => body x (by rw [hx]; exact htr) h)

abbrev cxE_isAncestor (κ : sp_K) (x : sp_X) (mc ms : Nat) : Prop := sp_C κ x cE_isAncestor 5 RE (some .boolean) [] "isAncestor" (sp_rm 7 111 mc ms)
set_option maxRecDepth 100000 in
set_option maxHeartbeats 4000000 in
theorem bkE_isAncestor_0 {κ : sp_K} {x : sp_X} {mc ms : Nat} {Rt : Option Value → sp_M → Prop} {Xt : String → sp_M → Prop} {μ : sp_M} {k n : Nat} {a0 : Nat} {v1 : Int32} {v2 : Int32} (h : cxE_isAncestor κ x mc ms) (hk : k ≤ mc ∧ n ≤ ms)
    (vc : (∃ mc_1 ms_2 : Nat, (k + mc_1 ≤ mc ∧ n + ms_2 ≤ ms) ∧ ∃ fs_6 : List Value, μ a0 = some (.inr (2, fs_6)) ∧ sp_m x.2.1 κ yE_spanOf wE_spanOf 6 90 mc_1 ms_2 [.ref a0, .int v1] μ (fun v_4 μ_5 => ∃ r_9 : Option Nat, v_4 = some (va_rf r_9) ∧ (∃ mc_10 ms_11 : Nat, ((k + mc_1) + mc_10 ≤ mc ∧ (n + ms_2) + ms_11 ≤ ms) ∧ ∃ fs_15 : List Value, μ_5 a0 = some (.inr (2, fs_15)) ∧ sp_m x.2.1 κ yE_spanOf wE_spanOf 6 90 mc_10 ms_11 [.ref a0, .int v2] μ_5 (fun v_13 μ_14 => ∃ r_18 : Option Nat, v_13 = some (va_rf r_18) ∧ ((v1 = v2 → Rt (some (.int 0)) μ_14) ∧ (¬ v1 = v2 → (∃ a_19 : Nat, r_9 = some a_19 ∧ ∃ fs_20 : List Value, μ_14 a_19 = some (.inr (1, fs_20)) ∧ ∃ r_22 : Option Nat, fs_20[0]? = some (va_rf r_22) ∧ (∃ a_24 : Nat, r_22 = some a_24 ∧ ∃ fs_25 : List Value, μ_14 a_24 = some (.inr (0, fs_25)) ∧ ∃ v_27 : Int32, fs_25[1]? = some (.int v_27) ∧ (∃ a_34 : Nat, r_18 = some a_34 ∧ ∃ mc_29 ms_30 : Nat, ((k + mc_1 + mc_10) + mc_29 ≤ mc ∧ (n + ms_2 + ms_11) + ms_30 ≤ ms) ∧ ∃ fs_35 : List Value, μ_14 a_34 = some (.inr (1, fs_35)) ∧ sp_m x.2.1 κ yS_seenAt wS_seenAt 1 21 mc_29 ms_30 [.ref a_34, .int v2, .int v_27] μ_14 (fun v_32 μ_33 => ∃ v_38 : Int32, v_32 = some (.int v_38) ∧ (∃ mc_39 ms_40 : Nat, ((k + mc_1 + mc_10 + mc_29) + mc_39 ≤ mc ∧ (n + ms_2 + ms_11 + ms_30) + ms_40 ≤ ms) ∧ ∃ fs_44 : List Value, μ_33 a_19 = some (.inr (1, fs_44)) ∧ sp_m x.2.1 κ yS_numberAt wS_numberAt 0 0 mc_39 ms_40 [.ref a_19, .int v1] μ_33 (fun v_42 μ_43 => ∃ v_47 : Int32, v_42 = some (.int v_47) ∧ ((v_38 ≤ v_47 → Rt (some (.int 0)) μ_43) ∧ (¬ v_38 ≤ v_47 → Rt (some (.int 1)) μ_43))) (fun E_49 μ_43 => Xt E_49 μ_43))) (fun E_50 μ_33 => Xt E_50 μ_33))))))) (fun E_52 μ_14 => Xt E_52 μ_14))) (fun E_53 μ_5 => Xt E_53 μ_5))) : sp_w κ x (sp_F κ x Rt Xt mc ms) k n 0 [(0, .ref a0), (1, .int v1), (2, .int v2)] [] μ := by
  refine sr_aload_n h dE_isAncestor_0 rfl 0 rfl ?_
  refine sr_iload_n h dE_isAncestor_1 rfl 1 rfl ?_
  obtain ⟨mc_1, ms_2, hc_3, vc⟩ := vc
  obtain ⟨fs_6, ho_7, vc⟩ := vc
  refine sr_callV (y := yE_spanOf) (n0 := 1) (As := [.int v1]) h (sp_gV kw_284 kw_286 kw_6 kw_34 kw_287) rfl (by decide +kernel) ⟨Nat.le_of_ble_eq_true rfl, Nat.le_of_ble_eq_true rfl⟩ (ci := 2) rfl dE_isAncestor_2 rfl rfl (Nat.le_of_ble_eq_true rfl) hc_3 ho_7 vc (fun v_4 μ_5 vc' => ?_) (fun E_53 μ_5 vc' => ?_)
  · replace vc := vc'
    clear vc'
    obtain ⟨r_9, rfl, vc⟩ := vc
    refine sr_astoreO_n (lv' := [(0, .ref a0), (1, .int v1), (2, .int v2), (3, va_rf r_9)]) h dE_isAncestor_5 rfl (by decide) rfl ?_
    refine sr_aload_n h dE_isAncestor_6 rfl 0 rfl ?_
    refine sr_iload_n h dE_isAncestor_7 rfl 2 rfl ?_
    obtain ⟨mc_10, ms_11, hc_12, vc⟩ := vc
    obtain ⟨fs_15, ho_16, vc⟩ := vc
    refine sr_callV (y := yE_spanOf) (n0 := 1) (As := [.int v2]) h (sp_gV kw_284 kw_286 kw_6 kw_34 kw_287) rfl (by decide +kernel) ⟨Nat.le_of_ble_eq_true rfl, Nat.le_of_ble_eq_true rfl⟩ (ci := 2) rfl dE_isAncestor_8 rfl rfl (Nat.le_of_ble_eq_true rfl) hc_12 ho_16 vc (fun v_13 μ_14 vc' => ?_) (fun E_52 μ_14 vc' => ?_)
    · replace vc := vc'
      clear vc'
      obtain ⟨r_18, rfl, vc⟩ := vc
      refine sr_astoreO (lv' := [(0, .ref a0), (1, .int v1), (2, .int v2), (3, va_rf r_9), (4, va_rf r_18)]) h dE_isAncestor_11 (by decide) rfl ?_
      refine sr_iload_n h dE_isAncestor_13 rfl 1 rfl ?_
      refine sr_iload_n h dE_isAncestor_14 rfl 2 rfl ?_
      refine sr_icmp_eq (tgt := 43) h dE_isAncestor_15 (by decide) (fun c_51 => ?_) (fun c_51 => ?_)
      · replace vc := vc.1 c_51
        refine sr_iconst (v := 0) h dE_isAncestor_43 (by decide) ?_
        exact sr_zret h dE_isAncestor_44 rfl hc_12.1 hc_12.2 vc
      · replace vc := vc.2 c_51
        refine sr_aloadO h dE_isAncestor_18 4 rfl ?_
        refine sr_iload_n h dE_isAncestor_20 rfl 2 rfl ?_
        refine sr_aloadO_n h dE_isAncestor_21 rfl 3 rfl ?_
        obtain ⟨a_19, rfl, vc⟩ := vc
        obtain ⟨fs_20, ho_21, vc⟩ := vc
        obtain ⟨r_22, hv_23, vc⟩ := vc
        refine sr_get h inS rfl 0 (by decide) kw_355 dE_isAncestor_22 ho_21 hv_23 ?_
        obtain ⟨a_24, rfl, vc⟩ := vc
        obtain ⟨fs_25, ho_26, vc⟩ := vc
        obtain ⟨v_27, hv_28, vc⟩ := vc
        refine sr_get h inA rfl 1 (by decide) kw_317 dE_isAncestor_25 ho_26 hv_28 ?_
        obtain ⟨a_34, rfl, vc⟩ := vc
        obtain ⟨mc_29, ms_30, hc_31, vc⟩ := vc
        obtain ⟨fs_35, ho_36, vc⟩ := vc
        refine sr_callV (y := yS_seenAt) (n0 := 2) (As := [.int v2, .int v_27]) h (sp_gV kw_288 kw_289 kw_290 kw_47 kw_291) rfl (by decide +kernel) ⟨Nat.le_of_ble_eq_true rfl, Nat.le_of_ble_eq_true rfl⟩ (ci := 1) rfl dE_isAncestor_28 rfl rfl (Nat.le_of_ble_eq_true rfl) hc_31 ho_36 vc (fun v_32 μ_33 vc' => ?_) (fun E_50 μ_33 vc' => ?_)
        · replace vc := vc'
          clear vc'
          obtain ⟨v_38, rfl, vc⟩ := vc
          refine sr_aload_n h dE_isAncestor_31 rfl 3 rfl ?_
          refine sr_iload_n h dE_isAncestor_32 rfl 1 rfl ?_
          obtain ⟨mc_39, ms_40, hc_41, vc⟩ := vc
          obtain ⟨fs_44, ho_45, vc⟩ := vc
          refine sr_callV (y := yS_numberAt) (n0 := 1) (As := [.int v1]) h (sp_gV kw_300 kw_198 kw_199 kw_47 kw_200) rfl (by decide +kernel) ⟨Nat.le_of_ble_eq_true rfl, Nat.le_of_ble_eq_true rfl⟩ (ci := 1) rfl dE_isAncestor_33 rfl rfl (Nat.le_of_ble_eq_true rfl) hc_41 ho_45 vc (fun v_42 μ_43 vc' => ?_) (fun E_49 μ_43 vc' => ?_)
          · replace vc := vc'
            clear vc'
            obtain ⟨v_47, rfl, vc⟩ := vc
            refine sr_icmp_le (tgt := 43) h dE_isAncestor_36 (by decide) (fun c_48 => ?_) (fun c_48 => ?_)
            · replace vc := vc.1 c_48
              refine sr_iconst (v := 0) h dE_isAncestor_43 (by decide) ?_
              exact sr_zret h dE_isAncestor_44 rfl hc_41.1 hc_41.2 vc
            · replace vc := vc.2 c_48
              refine sr_iconst (v := 1) h dE_isAncestor_39 (by decide) ?_
              refine sr_goto (tgt := 44) h dE_isAncestor_40 (by decide) ?_
              exact sr_zret h dE_isAncestor_44 rfl hc_41.1 hc_41.2 vc
          · replace vc := vc'
            clear vc'
            exact st_out h (fun _ z => nomatch z) hc_41.1 hc_41.2 vc
        · replace vc := vc'
          clear vc'
          exact st_out h (fun _ z => nomatch z) hc_31.1 hc_31.2 vc
    · replace vc := vc'
      clear vc'
      exact st_out h (fun _ z => nomatch z) hc_12.1 hc_12.2 vc
  · replace vc := vc'
    clear vc'
    exact st_out h (fun _ z => nomatch z) hc_3.1 hc_3.2 vc
theorem opE_isAncestor {l : Launch} {κ : sp_K} {mc ms : Nat} {Rt : Option Value → sp_M → Prop} {Xt : String → sp_M → Prop} {μ : sp_M} {a0 : Nat} {v1 : Int32} {v2 : Int32} (htr : l.stackTraces = false) (body : ∀ x : sp_X, x.2.1.stackTraces = false → cxE_isAncestor κ x mc ms → sp_w κ x (sp_F κ x Rt Xt mc ms) 0 0 0 [(0, .ref a0), (1, .int v1), (2, .int v2)] [] μ) : sp_m l κ yE_isAncestor wE_isAncestor 7 111 mc ms [.ref a0, .int v1, .int v2] μ Rt Xt :=
  sp_open htr (by decide +kernel) rfl (Nat.le_of_ble_eq_true rfl) (by intro v hv; simp only [List.mem_cons, List.not_mem_nil, or_false] at hv; rcases hv with rfl | rfl | rfl <;> first | rfl | exact sp_c1o _) (fun x hx h => body x (by rw [hx]; exact htr) h)

abbrev cxE_endHeads (κ : sp_K) (x : sp_X) (mc ms : Nat) : Prop := sp_C κ x cE_endHeads 7 RE none [] "endHeads" (sp_rm 7 111 mc ms)
set_option maxRecDepth 100000 in
set_option maxHeartbeats 4000000 in
theorem bkE_endHeads_0 {κ : sp_K} {x : sp_X} {mc ms : Nat} {Rt : Option Value → sp_M → Prop} {Xt : String → sp_M → Prop} {μ : sp_M} {k n : Nat} {a0 : Nat} {a1 : Nat} (h : cxE_endHeads κ x mc ms) (hk : k ≤ mc ∧ n ≤ ms)
    (vc : (∃ (N_1 : Nat) (f_2 : Nat → Int32), μ a1 = some (sp_ia κ N_1 f_2) ∧ sp_w κ x (sp_F κ x Rt Xt mc ms) k n 8 [(0, .ref a0), (1, .ref a1), (2, .ref a1), (3, .int (nI N_1)), (4, .int 0)] [] μ)) : sp_w κ x (sp_F κ x Rt Xt mc ms) k n 0 [(0, .ref a0), (1, .ref a1)] [] μ := by
  refine sr_aload_n h dE_endHeads_0 rfl 1 rfl ?_
  refine sr_astore_n (lv' := [(0, .ref a0), (1, .ref a1), (2, .ref a1)]) h dE_endHeads_1 rfl (by decide) rfl ?_
  refine sr_aload_n h dE_endHeads_2 rfl 2 rfl ?_
  obtain ⟨N_1, f_2, ho_3, vc⟩ := vc
  refine sr_alen (t := 0) h dE_endHeads_3 ho_3 rfl ?_
  refine sr_istore_n (lv' := [(0, .ref a0), (1, .ref a1), (2, .ref a1), (3, .int (nI N_1))]) h dE_endHeads_4 rfl (by decide) rfl ?_
  refine sr_iconst (v := 0) h dE_endHeads_5 (by decide) ?_
  refine sr_istore (lv' := [(0, .ref a0), (1, .ref a1), (2, .ref a1), (3, .int (nI N_1)), (4, .int 0)]) h dE_endHeads_6 (by decide) rfl ?_
  exact vc
set_option maxRecDepth 100000 in
set_option maxHeartbeats 4000000 in
theorem bkE_endHeads_8 {κ : sp_K} {x : sp_X} {mc ms : Nat} {Rt : Option Value → sp_M → Prop} {Xt : String → sp_M → Prop} {μ : sp_M} {k n : Nat} {a0 : Nat} {a1 : Nat} {a2 : Nat} {v3 : Int32} {v4 : Int32} (h : cxE_endHeads κ x mc ms) (hk : k ≤ mc ∧ n ≤ ms)
    (vc : ((v3 ≤ v4 → Rt none μ) ∧ (¬ v3 ≤ v4 → (∃ (N_1 : Nat) (f_2 : Nat → Int32), μ a2 = some (sp_ia κ N_1 f_2) ∧ ∃ j_4 : Nat, v4 = nI j_4 ∧ j_4 < N_1 ∧ (∃ mc_7 ms_8 : Nat, (k + mc_7 ≤ mc ∧ n + ms_8 ≤ ms) ∧ ∃ fs_12 : List Value, μ a0 = some (.inr (2, fs_12)) ∧ sp_m x.2.1 κ yE_spanOf wE_spanOf 6 90 mc_7 ms_8 [.ref a0, .int (f_2 j_4)] μ (fun v_10 μ_11 => ∃ r_15 : Option Nat, v_10 = some (va_rf r_15) ∧ (∃ a_16 : Nat, r_15 = some a_16 ∧ ∃ fs_17 : List Value, μ_11 a_16 = some (.inr (1, fs_17)) ∧ ∃ r_19 : Option Nat, fs_17[0]? = some (va_rf r_19) ∧ (∃ a_21 : Nat, r_19 = some a_21 ∧ ∃ fs_22 : List Value, μ_11 a_21 = some (.inr (0, fs_22)) ∧ ∃ v_24 : Int32, fs_22[3]? = some (.int v_24) ∧ ((¬ v_24 = (f_2 j_4) → sp_w κ x (sp_F κ x Rt Xt mc ms) (k + mc_7) (n + ms_8) 8 [(0, .ref a0), (1, .ref a1), (2, .ref a2), (3, .int v3), (4, .int (v4 + 1))] [] μ_11) ∧ (v_24 = (f_2 j_4) → (4 < fs_22.length ∧ (narrow (tyA 4) (.int 0) = (.int 0) ∧ fits (tyA 4) (.int 0) = true) ∧ ∀ μ_26 : sp_M, μ_26 = va_up μ_11 a_21 (some (.inr (0, fs_22.set 4 (.int 0)))) → sp_w κ x (sp_F κ x Rt Xt mc ms) (k + mc_7) (n + ms_8) 8 [(0, .ref a0), (1, .ref a1), (2, .ref a2), (3, .int v3), (4, .int (v4 + 1))] [] μ_26)))))) (fun E_30 μ_11 => Xt E_30 μ_11)))))) : sp_w κ x (sp_F κ x Rt Xt mc ms) k n 8 [(0, .ref a0), (1, .ref a1), (2, .ref a2), (3, .int v3), (4, .int v4)] [] μ := by
  refine sr_iload h dE_endHeads_8 4 rfl ?_
  refine sr_iload_n h dE_endHeads_10 rfl 3 rfl ?_
  refine sr_icmp_ge (tgt := 53) h dE_endHeads_11 (by decide) (fun c_31 => ?_) (fun c_31 => ?_)
  · replace vc := vc.1 c_31
    exact sr_vret h dE_endHeads_53 hk.1 hk.2 vc
  · replace vc := vc.2 c_31
    refine sr_aload_n h dE_endHeads_14 rfl 2 rfl ?_
    refine sr_iload h dE_endHeads_15 4 rfl ?_
    obtain ⟨N_1, f_2, ho_3, vc⟩ := vc
    obtain ⟨j_4, hi_5, hj_6, vc⟩ := vc
    refine sr_iald h dE_endHeads_17 ho_3 hi_5 hj_6 ?_
    refine sr_istore (lv' := [(0, .ref a0), (1, .ref a1), (2, .ref a2), (3, .int v3), (4, .int v4), (5, .int (f_2 j_4))]) h dE_endHeads_18 (by decide) rfl ?_
    refine sr_aload_n h dE_endHeads_20 rfl 0 rfl ?_
    refine sr_iload h dE_endHeads_21 5 rfl ?_
    obtain ⟨mc_7, ms_8, hc_9, vc⟩ := vc
    obtain ⟨fs_12, ho_13, vc⟩ := vc
    refine sr_callV (y := yE_spanOf) (n0 := 1) (As := [.int (f_2 j_4)]) h (sp_gV kw_284 kw_286 kw_6 kw_34 kw_287) rfl (by decide +kernel) ⟨Nat.le_of_ble_eq_true rfl, Nat.le_of_ble_eq_true rfl⟩ (ci := 2) rfl dE_endHeads_23 rfl rfl (Nat.le_of_ble_eq_true rfl) hc_9 ho_13 vc (fun v_10 μ_11 vc' => ?_) (fun E_30 μ_11 vc' => ?_)
    · replace vc := vc'
      clear vc'
      obtain ⟨r_15, rfl, vc⟩ := vc
      obtain ⟨a_16, rfl, vc⟩ := vc
      obtain ⟨fs_17, ho_18, vc⟩ := vc
      obtain ⟨r_19, hv_20, vc⟩ := vc
      refine sr_get h inS rfl 0 (by decide) kw_355 dE_endHeads_26 ho_18 hv_20 ?_
      refine sr_astoreO (lv' := [(0, .ref a0), (1, .ref a1), (2, .ref a2), (3, .int v3), (4, .int v4), (5, .int (f_2 j_4)), (6, va_rf r_19)]) h dE_endHeads_29 (by decide) rfl ?_
      refine sr_aloadO h dE_endHeads_31 6 rfl ?_
      obtain ⟨a_21, rfl, vc⟩ := vc
      obtain ⟨fs_22, ho_23, vc⟩ := vc
      obtain ⟨v_24, hv_25, vc⟩ := vc
      refine sr_get h inA rfl 3 (by decide) kw_323 dE_endHeads_33 ho_23 hv_25 ?_
      refine sr_iload h dE_endHeads_36 5 rfl ?_
      refine sr_icmp_ne (tgt := 47) h dE_endHeads_38 (by decide) (fun c_29 => ?_) (fun c_29 => ?_)
      · replace vc := vc.1 c_29
        refine sr_iinc (u := v4 + 1) (lv' := [(0, .ref a0), (1, .ref a1), (2, .ref a2), (3, .int v3), (4, .int (v4 + 1)), (5, .int (f_2 j_4)), (6, .ref a_21)]) h dE_endHeads_47 4 rfl rfl (by decide) rfl ?_
        refine sr_goto (tgt := 8) h dE_endHeads_50 (by decide) ?_
        exact sr_sub (lv' := [(0, .ref a0), (1, .ref a1), (2, .ref a2), (3, .int v3), (4, .int (v4 + 1))]) [0, 1, 2, 3, 4] rfl vc
      · replace vc := vc.2 c_29
        refine sr_aload h dE_endHeads_41 6 rfl ?_
        refine sr_iconst (v := 0) h dE_endHeads_43 (by decide) ?_
        obtain ⟨hl_27, hn_28, vc⟩ := vc
        replace vc := vc _ rfl
        refine sr_put h inA tyA tyA_ok nmA rfl 4 (by decide) kw_325 rfl dE_endHeads_44 ho_23 hn_28.1 hn_28.2 hl_27 ?_
        refine sr_iinc (u := v4 + 1) (lv' := [(0, .ref a0), (1, .ref a1), (2, .ref a2), (3, .int v3), (4, .int (v4 + 1)), (5, .int (f_2 j_4)), (6, .ref a_21)]) h dE_endHeads_47 4 rfl rfl (by decide) rfl ?_
        refine sr_goto (tgt := 8) h dE_endHeads_50 (by decide) ?_
        exact sr_sub (lv' := [(0, .ref a0), (1, .ref a1), (2, .ref a2), (3, .int v3), (4, .int (v4 + 1))]) [0, 1, 2, 3, 4] rfl vc
    · replace vc := vc'
      clear vc'
      exact st_out h (fun _ z => nomatch z) hc_9.1 hc_9.2 vc
theorem opE_endHeads {l : Launch} {κ : sp_K} {mc ms : Nat} {Rt : Option Value → sp_M → Prop} {Xt : String → sp_M → Prop} {μ : sp_M} {a0 : Nat} {a1 : Nat} (htr : l.stackTraces = false) (body : ∀ x : sp_X, x.2.1.stackTraces = false → cxE_endHeads κ x mc ms → sp_w κ x (sp_F κ x Rt Xt mc ms) 0 0 0 [(0, .ref a0), (1, .ref a1)] [] μ) : sp_m l κ yE_endHeads wE_endHeads 7 111 mc ms [.ref a0, .ref a1] μ Rt Xt :=
  sp_open htr (by decide +kernel) rfl (Nat.le_of_ble_eq_true rfl) (by intro v hv; simp only [List.mem_cons, List.not_mem_nil, or_false] at hv; rcases hv with rfl | rfl <;> first | rfl | exact sp_c1o _) (fun x hx h => body x (by rw [hx]; exact htr) h)

abbrev cxE_newAgent (κ : sp_K) (x : sp_X) (mc ms : Nat) : Prop := sp_C κ x cE_newAgent 3 RE (some (.object "EventSpans$Agent")) [] "newAgent" (sp_rm 2 44 mc ms)
set_option maxRecDepth 100000 in
set_option maxHeartbeats 4000000 in
theorem bkE_newAgent_0 {κ : sp_K} {x : sp_X} {mc ms : Nat} {Rt : Option Value → sp_M → Prop} {Xt : String → sp_M → Prop} {μ : sp_M} {k n : Nat} {a0 : Nat} {v1 : Int32} (h : cxE_newAgent κ x mc ms) (hk : k ≤ mc ∧ n ≤ ms)
    (vc : ((k + 1 ≤ mc ∧ n + 6 ≤ ms) ∧ ∀ q_1 : Nat, μ q_1 = none → ∀ μ_3 : sp_M, μ_3 = va_up μ q_1 (some (.inr (0, [.int 0, .int 0, .int 0, .int 0, .int 0, .null]))) → (∃ fs_5 : List Value, μ_3 a0 = some (.inr (2, fs_5)) ∧ ∃ v_7 : Int32, fs_5[1]? = some (.int v_7) ∧ (∃ mc_9 ms_10 : Nat, ((k + 1) + mc_9 ≤ mc ∧ (n + 6) + ms_10 ≤ ms) ∧ sp_m x.2.1 κ yA_init wA_init 1 22 mc_9 ms_10 [.ref q_1, .int v1, .int v_7] μ_3 (fun v_12 μ_13 => v_12 = none ∧ (∃ fs_15 : List Value, μ_13 a0 = some (.inr (2, fs_15)) ∧ ∃ r_17 : Option Nat, fs_15[0]? = some (va_rf r_17) ∧ (∃ a_19 : Nat, r_17 = some a_19 ∧ ∃ (N_20 : Nat) (f_21 : Nat → Option Nat), μ_13 a_19 = some (sp_ra κ 3 N_20 f_21) ∧ ∃ fs_27 : List Value, μ_13 q_1 = some (.inr (0, fs_27)) ∧ ∃ j_23 : Nat, v1 = nI j_23 ∧ j_23 < N_20 ∧ ∀ μ_26 : sp_M, μ_26 = va_up μ_13 a_19 (some (sp_ra κ 3 N_20 (va_up f_21 j_23 (some q_1)))) → (∃ fs_29 : List Value, μ_26 a0 = some (.inr (2, fs_29)) ∧ ∃ v_31 : Int32, fs_29[1]? = some (.int v_31) ∧ (1 < fs_29.length ∧ ∀ μ_33 : sp_M, μ_33 = va_up μ_26 a0 (some (.inr (2, fs_29.set 1 (.int (v_31 + 1))))) → Rt (some (.ref q_1)) μ_33))))) (fun E_35 μ_13 => False))))) : sp_w κ x (sp_F κ x Rt Xt mc ms) k n 0 [(0, .ref a0), (1, .int v1)] [] μ := by
  obtain ⟨hc_4, vc⟩ := vc
  refine sr_new (ci := 0) (fs := [.int 0, .int 0, .int 0, .int 0, .int 0, .null]) h inA tyA tyA_ok rfl kw_56 kw_309 kw_46 (fun j hj => by rcases (show j = 0 ∨ j = 1 ∨ j = 2 ∨ j = 3 ∨ j = 4 ∨ j = 5 by omega) with rfl | rfl | rfl | rfl | rfl | rfl <;> rfl) dE_newAgent_0 hc_4.1 hc_4.2 (fun q_1 hz_2 => ?_)
  replace vc := vc q_1 hz_2 _ rfl
  refine sr_dup h dE_newAgent_3 (sp_c1r _) ?_
  refine sr_iload_n h dE_newAgent_4 rfl 1 rfl ?_
  refine sr_aload_n h dE_newAgent_5 rfl 0 rfl ?_
  obtain ⟨fs_5, ho_6, vc⟩ := vc
  obtain ⟨v_7, hv_8, vc⟩ := vc
  refine sr_get h inE rfl 1 (by decide) kw_61 dE_newAgent_6 ho_6 hv_8 ?_
  obtain ⟨mc_9, ms_10, hc_11, vc⟩ := vc
  refine sr_callI (y := yA_init) (n0 := 2) (As := [.int v1, .int v_7]) h (sp_gI kw_312) rfl rfl kw_46 kw_310 kw_311 (by decide +kernel) ⟨Nat.le_of_ble_eq_true rfl, Nat.le_of_ble_eq_true rfl⟩ dE_newAgent_9 rfl rfl (Nat.le_of_ble_eq_true rfl) hc_11 vc (fun v_12 μ_13 vc' => ?_)
  replace vc := vc'
  clear vc'
  obtain ⟨rfl, vc⟩ := vc
  refine sr_astore_n (lv' := [(0, .ref a0), (1, .int v1), (2, .ref q_1)]) h dE_newAgent_12 rfl (by decide) rfl ?_
  refine sr_aload_n h dE_newAgent_13 rfl 0 rfl ?_
  obtain ⟨fs_15, ho_16, vc⟩ := vc
  obtain ⟨r_17, hv_18, vc⟩ := vc
  refine sr_get h inE rfl 0 (by decide) kw_60 dE_newAgent_14 ho_16 hv_18 ?_
  refine sr_iload_n h dE_newAgent_17 rfl 1 rfl ?_
  refine sr_aload_n h dE_newAgent_18 rfl 2 rfl ?_
  obtain ⟨a_19, rfl, vc⟩ := vc
  obtain ⟨N_20, f_21, ho_22, vc⟩ := vc
  obtain ⟨fs_27, ho_28, vc⟩ := vc
  obtain ⟨j_23, hi_24, hj_25, vc⟩ := vc
  replace vc := vc _ rfl
  refine sr_aast h dE_newAgent_19 rfl (ci := 0) rfl ho_22 hi_24 hj_25 ho_28 ?_
  refine sr_aload_n h dE_newAgent_20 rfl 0 rfl ?_
  refine sr_dup h dE_newAgent_21 (sp_c1r _) ?_
  obtain ⟨fs_29, ho_30, vc⟩ := vc
  obtain ⟨v_31, hv_32, vc⟩ := vc
  refine sr_get h inE rfl 1 (by decide) kw_61 dE_newAgent_22 ho_30 hv_32 ?_
  refine sr_iconst (v := 1) h dE_newAgent_25 (by decide) ?_
  refine sr_iadd h dE_newAgent_26 ?_
  obtain ⟨hl_34, vc⟩ := vc
  replace vc := vc _ rfl
  refine sr_put h inE tyE tyE_ok nmE rfl 1 (by decide) kw_61 rfl dE_newAgent_27 ho_30 rfl rfl hl_34 ?_
  refine sr_aload_n h dE_newAgent_30 rfl 2 rfl ?_
  exact sr_aret (r := some q_1) h (Or.inl ⟨_, rfl⟩) dE_newAgent_31 hc_11.1 hc_11.2 vc
theorem opE_newAgent {l : Launch} {κ : sp_K} {mc ms : Nat} {Rt : Option Value → sp_M → Prop} {Xt : String → sp_M → Prop} {μ : sp_M} {a0 : Nat} {v1 : Int32} (htr : l.stackTraces = false) (body : ∀ x : sp_X, x.2.1.stackTraces = false → cxE_newAgent κ x mc ms → sp_w κ x (sp_F κ x Rt Xt mc ms) 0 0 0 [(0, .ref a0), (1, .int v1)] [] μ) : sp_m l κ yE_newAgent wE_newAgent 2 44 mc ms [.ref a0, .int v1] μ Rt Xt :=
  sp_open htr (by decide +kernel) rfl (Nat.le_of_ble_eq_true rfl) (by intro v hv; simp only [List.mem_cons, List.not_mem_nil, or_false] at hv; rcases hv with rfl | rfl <;> first | rfl | exact sp_c1o _) (fun x hx h => body x (by rw [hx]; exact htr) h)

abbrev cxE_append (κ : sp_K) (x : sp_X) (mc ms : Nat) : Prop := sp_C κ x cE_append 7 RE none [] "append" (sp_rm 2 51 mc ms)
set_option maxRecDepth 100000 in
set_option maxHeartbeats 4000000 in
theorem bkE_append_0 {κ : sp_K} {x : sp_X} {mc ms : Nat} {Rt : Option Value → sp_M → Prop} {Xt : String → sp_M → Prop} {μ : sp_M} {k n : Nat} {a0 : Nat} {a1 : Nat} {v2 : Int32} {a3 : Nat} {a4 : Nat} (h : cxE_append κ x mc ms) (hk : k ≤ mc ∧ n ≤ ms)
    (vc : (∃ fs_1 : List Value, μ a1 = some (.inr (0, fs_1)) ∧ ∃ v_3 : Int32, fs_1[1]? = some (.int v_3) ∧ (∃ v_5 : Int32, fs_1[2]? = some (.int v_5) ∧ (∃ (N_7 : Nat) (f_8 : Nat → Int32), μ a4 = some (sp_ia κ N_7 f_8) ∧ ∃ j_10 : Nat, v_3 = nI j_10 ∧ j_10 < N_7 ∧ ∀ μ_13 : sp_M, μ_13 = va_up μ a4 (some (sp_ia κ N_7 (upd f_8 j_10 (v_5 + 1)))) → ((k + 1 ≤ mc ∧ n + 9 ≤ ms) ∧ ∀ q_14 : Nat, μ_13 q_14 = none → ∀ μ_16 : sp_M, μ_16 = va_up μ_13 q_14 (some (.inr (1, [.null, .int 0, .int 0, .int 0, .null, .null, .int 0, .null, .null]))) → (∃ fs_18 : List Value, μ_16 a0 = some (.inr (2, fs_18)) ∧ ∃ v_20 : Int32, fs_18[3]? = some (.int v_20) ∧ (∃ r_22 : Option Nat, fs_18[4]? = some (va_rf r_22) ∧ (∃ mc_24 ms_25 : Nat, ((k + 1) + mc_24 ≤ mc ∧ (n + 9) + ms_25 ≤ ms) ∧ sp_m x.2.1 κ yS_init wS_init 1 25 mc_24 ms_25 [.ref q_14, .ref a1, .int v_20, .int v2, .ref a3, .ref a4, va_rf r_22] μ_16 (fun v_27 μ_28 => v_27 = none ∧ (∃ fs_30 : List Value, μ_28 q_14 = some (.inr (1, fs_30)) ∧ ∃ v_32 : Int32, fs_30[1]? = some (.int v_32) ∧ sp_w κ x (sp_F κ x Rt Xt mc ms) (k + 1 + mc_24) (n + 9 + ms_25) 42 [(0, .ref a0), (1, .ref a1), (2, .int v2), (3, .ref a3), (4, .ref a4), (5, .ref q_14), (6, .int v_32)] [] μ_28)) (fun E_34 μ_28 => False))))))))) : sp_w κ x (sp_F κ x Rt Xt mc ms) k n 0 [(0, .ref a0), (1, .ref a1), (2, .int v2), (3, .ref a3), (4, .ref a4)] [] μ := by
  refine sr_aload h dE_append_0 4 rfl ?_
  refine sr_aload_n h dE_append_2 rfl 1 rfl ?_
  obtain ⟨fs_1, ho_2, vc⟩ := vc
  obtain ⟨v_3, hv_4, vc⟩ := vc
  refine sr_get h inA rfl 1 (by decide) kw_317 dE_append_3 ho_2 hv_4 ?_
  refine sr_aload_n h dE_append_6 rfl 1 rfl ?_
  obtain ⟨v_5, hv_6, vc⟩ := vc
  refine sr_get h inA rfl 2 (by decide) kw_321 dE_append_7 ho_2 hv_6 ?_
  refine sr_iconst (v := 1) h dE_append_10 (by decide) ?_
  refine sr_iadd h dE_append_11 ?_
  obtain ⟨N_7, f_8, ho_9, vc⟩ := vc
  obtain ⟨j_10, hi_11, hj_12, vc⟩ := vc
  replace vc := vc _ rfl
  refine sr_iast h dE_append_12 ho_9 hi_11 hj_12 ?_
  obtain ⟨hc_17, vc⟩ := vc
  refine sr_new (ci := 1) (fs := [.null, .int 0, .int 0, .int 0, .null, .null, .int 0, .null, .null]) h inS tyS tyS_ok rfl kw_58 kw_346 kw_47 (fun j hj => by rcases (show j = 0 ∨ j = 1 ∨ j = 2 ∨ j = 3 ∨ j = 4 ∨ j = 5 ∨ j = 6 ∨ j = 7 ∨ j = 8 by omega) with rfl | rfl | rfl | rfl | rfl | rfl | rfl | rfl | rfl <;> rfl) dE_append_13 hc_17.1 hc_17.2 (fun q_14 hz_15 => ?_)
  replace vc := vc q_14 hz_15 _ rfl
  refine sr_dup h dE_append_16 (sp_c1r _) ?_
  refine sr_aload_n h dE_append_17 rfl 1 rfl ?_
  refine sr_aload_n h dE_append_18 rfl 0 rfl ?_
  obtain ⟨fs_18, ho_19, vc⟩ := vc
  obtain ⟨v_20, hv_21, vc⟩ := vc
  refine sr_get h inE rfl 3 (by decide) kw_63 dE_append_19 ho_19 hv_21 ?_
  refine sr_iload_n h dE_append_22 rfl 2 rfl ?_
  refine sr_aload_n h dE_append_23 rfl 3 rfl ?_
  refine sr_aload h dE_append_24 4 rfl ?_
  refine sr_aload_n h dE_append_26 rfl 0 rfl ?_
  obtain ⟨r_22, hv_23, vc⟩ := vc
  refine sr_get h inE rfl 4 (by decide) kw_64 dE_append_27 ho_19 hv_23 ?_
  obtain ⟨mc_24, ms_25, hc_26, vc⟩ := vc
  refine sr_callI (y := yS_init) (n0 := 6) (As := [.ref a1, .int v_20, .int v2, .ref a3, .ref a4, va_rf r_22]) h (sp_gI kw_349) rfl rfl kw_47 kw_347 kw_348 (by decide +kernel) ⟨Nat.le_of_ble_eq_true rfl, Nat.le_of_ble_eq_true rfl⟩ dE_append_30 rfl rfl (Nat.le_of_ble_eq_true rfl) hc_26 vc (fun v_27 μ_28 vc' => ?_)
  replace vc := vc'
  clear vc'
  obtain ⟨rfl, vc⟩ := vc
  refine sr_astore (lv' := [(0, .ref a0), (1, .ref a1), (2, .int v2), (3, .ref a3), (4, .ref a4), (5, .ref q_14)]) h dE_append_33 (by decide) rfl ?_
  refine sr_aload h dE_append_35 5 rfl ?_
  obtain ⟨fs_30, ho_31, vc⟩ := vc
  obtain ⟨v_32, hv_33, vc⟩ := vc
  refine sr_get h inS rfl 1 (by decide) kw_357 dE_append_37 ho_31 hv_33 ?_
  refine sr_istore (lv' := [(0, .ref a0), (1, .ref a1), (2, .int v2), (3, .ref a3), (4, .ref a4), (5, .ref q_14), (6, .int v_32)]) h dE_append_40 (by decide) rfl ?_
  exact vc
set_option maxRecDepth 100000 in
set_option maxHeartbeats 4000000 in
theorem bkE_append_42 {κ : sp_K} {x : sp_X} {mc ms : Nat} {Rt : Option Value → sp_M → Prop} {Xt : String → sp_M → Prop} {μ : sp_M} {k n : Nat} {a0 : Nat} {a1 : Nat} {v2 : Int32} {a3 : Nat} {a4 : Nat} {a5 : Nat} {v6 : Int32} (h : cxE_append κ x mc ms) (hk : k ≤ mc ∧ n ≤ ms)
    (vc : (∃ fs_1 : List Value, μ a5 = some (.inr (1, fs_1)) ∧ ∃ v_3 : Int32, fs_1[2]? = some (.int v_3) ∧ ((v_3 < v6 → (∃ fs_5 : List Value, μ a1 = some (.inr (0, fs_5)) ∧ ∃ v_7 : Int32, fs_5[2]? = some (.int v_7) ∧ (2 < fs_5.length ∧ ∀ μ_9 : sp_M, μ_9 = va_up μ a1 (some (.inr (0, fs_5.set 2 (.int (v_7 + v2))))) → (∃ fs_11 : List Value, μ_9 a5 = some (.inr (1, fs_11)) ∧ ∃ v_13 : Int32, fs_11[2]? = some (.int v_13) ∧ (∃ fs_15 : List Value, μ_9 a1 = some (.inr (0, fs_15)) ∧ 3 < fs_15.length ∧ ∀ μ_17 : sp_M, μ_17 = va_up μ_9 a1 (some (.inr (0, fs_15.set 3 (.int v_13)))) → (∃ fs_19 : List Value, μ_17 a1 = some (.inr (0, fs_19)) ∧ 4 < fs_19.length ∧ (narrow (tyA 4) (.int 1) = (.int 1) ∧ fits (tyA 4) (.int 1) = true) ∧ ∀ μ_21 : sp_M, μ_21 = va_up μ_17 a1 (some (.inr (0, fs_19.set 4 (.int 1)))) → (∃ fs_24 : List Value, μ_21 a1 = some (.inr (0, fs_24)) ∧ 5 < fs_24.length ∧ ∀ μ_26 : sp_M, μ_26 = va_up μ_21 a1 (some (.inr (0, fs_24.set 5 (.ref a5)))) → (∃ fs_28 : List Value, μ_26 a0 = some (.inr (2, fs_28)) ∧ ∃ v_30 : Int32, fs_28[3]? = some (.int v_30) ∧ (3 < fs_28.length ∧ ∀ μ_32 : sp_M, μ_32 = va_up μ_26 a0 (some (.inr (2, fs_28.set 3 (.int (v_30 + v2))))) → (∃ fs_34 : List Value, μ_32 a0 = some (.inr (2, fs_34)) ∧ 4 < fs_34.length ∧ ∀ μ_36 : sp_M, μ_36 = va_up μ_32 a0 (some (.inr (2, fs_34.set 4 (.ref a5)))) → Rt none μ_36)))))))))) ∧ (¬ v_3 < v6 → (∃ fs_38 : List Value, μ a0 = some (.inr (2, fs_38)) ∧ ∃ r_40 : Option Nat, fs_38[2]? = some (va_rf r_40) ∧ (∃ a_42 : Nat, r_40 = some a_42 ∧ ∃ (N_43 : Nat) (f_44 : Nat → Option Nat), μ a_42 = some (sp_ra κ 4 N_43 f_44) ∧ ∃ j_46 : Nat, v6 = nI j_46 ∧ j_46 < N_43 ∧ ∀ μ_49 : sp_M, μ_49 = va_up μ a_42 (some (sp_ra κ 4 N_43 (va_up f_44 j_46 (some a5)))) → sp_w κ x (sp_F κ x Rt Xt mc ms) k n 42 [(0, .ref a0), (1, .ref a1), (2, .int v2), (3, .ref a3), (4, .ref a4), (5, .ref a5), (6, .int (v6 + 1))] [] μ_49)))))) : sp_w κ x (sp_F κ x Rt Xt mc ms) k n 42 [(0, .ref a0), (1, .ref a1), (2, .int v2), (3, .ref a3), (4, .ref a4), (5, .ref a5), (6, .int v6)] [] μ := by
  refine sr_iload h dE_append_42 6 rfl ?_
  refine sr_aload h dE_append_44 5 rfl ?_
  obtain ⟨fs_1, ho_2, vc⟩ := vc
  obtain ⟨v_3, hv_4, vc⟩ := vc
  refine sr_get h inS rfl 2 (by decide) kw_359 dE_append_46 ho_2 hv_4 ?_
  refine sr_icmp_gt (tgt := 67) h dE_append_49 (by decide) (fun c_50 => ?_) (fun c_50 => ?_)
  · replace vc := vc.1 c_50
    refine sr_aload_n h dE_append_67 rfl 1 rfl ?_
    refine sr_dup h dE_append_68 (sp_c1r _) ?_
    obtain ⟨fs_5, ho_6, vc⟩ := vc
    obtain ⟨v_7, hv_8, vc⟩ := vc
    refine sr_get h inA rfl 2 (by decide) kw_321 dE_append_69 ho_6 hv_8 ?_
    refine sr_iload_n h dE_append_72 rfl 2 rfl ?_
    refine sr_iadd h dE_append_73 ?_
    obtain ⟨hl_10, vc⟩ := vc
    replace vc := vc _ rfl
    refine sr_put h inA tyA tyA_ok nmA rfl 2 (by decide) kw_321 rfl dE_append_74 ho_6 rfl rfl hl_10 ?_
    refine sr_aload_n h dE_append_77 rfl 1 rfl ?_
    refine sr_aload h dE_append_78 5 rfl ?_
    obtain ⟨fs_11, ho_12, vc⟩ := vc
    obtain ⟨v_13, hv_14, vc⟩ := vc
    refine sr_get h inS rfl 2 (by decide) kw_359 dE_append_80 ho_12 hv_14 ?_
    obtain ⟨fs_15, ho_16, vc⟩ := vc
    obtain ⟨hl_18, vc⟩ := vc
    replace vc := vc _ rfl
    refine sr_put h inA tyA tyA_ok nmA rfl 3 (by decide) kw_323 rfl dE_append_83 ho_16 rfl rfl hl_18 ?_
    refine sr_aload_n h dE_append_86 rfl 1 rfl ?_
    refine sr_iconst (v := 1) h dE_append_87 (by decide) ?_
    obtain ⟨fs_19, ho_20, vc⟩ := vc
    obtain ⟨hl_22, hn_23, vc⟩ := vc
    replace vc := vc _ rfl
    refine sr_put h inA tyA tyA_ok nmA rfl 4 (by decide) kw_325 rfl dE_append_88 ho_20 hn_23.1 hn_23.2 hl_22 ?_
    refine sr_aload_n h dE_append_91 rfl 1 rfl ?_
    refine sr_aload h dE_append_92 5 rfl ?_
    obtain ⟨fs_24, ho_25, vc⟩ := vc
    obtain ⟨hl_27, vc⟩ := vc
    replace vc := vc _ rfl
    refine sr_put h inA tyA tyA_ok nmA rfl 5 (by decide) kw_328 rfl dE_append_94 ho_25 rfl rfl hl_27 ?_
    refine sr_aload_n h dE_append_97 rfl 0 rfl ?_
    refine sr_dup h dE_append_98 (sp_c1r _) ?_
    obtain ⟨fs_28, ho_29, vc⟩ := vc
    obtain ⟨v_30, hv_31, vc⟩ := vc
    refine sr_get h inE rfl 3 (by decide) kw_63 dE_append_99 ho_29 hv_31 ?_
    refine sr_iload_n h dE_append_102 rfl 2 rfl ?_
    refine sr_iadd h dE_append_103 ?_
    obtain ⟨hl_33, vc⟩ := vc
    replace vc := vc _ rfl
    refine sr_put h inE tyE tyE_ok nmE rfl 3 (by decide) kw_63 rfl dE_append_104 ho_29 rfl rfl hl_33 ?_
    refine sr_aload_n h dE_append_107 rfl 0 rfl ?_
    refine sr_aload h dE_append_108 5 rfl ?_
    obtain ⟨fs_34, ho_35, vc⟩ := vc
    obtain ⟨hl_37, vc⟩ := vc
    replace vc := vc _ rfl
    refine sr_put h inE tyE tyE_ok nmE rfl 4 (by decide) kw_64 rfl dE_append_110 ho_35 rfl rfl hl_37 ?_
    exact sr_vret h dE_append_113 hk.1 hk.2 vc
  · replace vc := vc.2 c_50
    refine sr_aload_n h dE_append_52 rfl 0 rfl ?_
    obtain ⟨fs_38, ho_39, vc⟩ := vc
    obtain ⟨r_40, hv_41, vc⟩ := vc
    refine sr_get h inE rfl 2 (by decide) kw_62 dE_append_53 ho_39 hv_41 ?_
    refine sr_iload h dE_append_56 6 rfl ?_
    refine sr_aload h dE_append_58 5 rfl ?_
    obtain ⟨a_42, rfl, vc⟩ := vc
    obtain ⟨N_43, f_44, ho_45, vc⟩ := vc
    obtain ⟨j_46, hi_47, hj_48, vc⟩ := vc
    replace vc := vc _ rfl
    refine sr_aast h dE_append_60 rfl (ci := 1) rfl ho_45 hi_47 hj_48 ho_2 ?_
    refine sr_iinc (u := v6 + 1) (lv' := [(0, .ref a0), (1, .ref a1), (2, .int v2), (3, .ref a3), (4, .ref a4), (5, .ref a5), (6, .int (v6 + 1))]) h dE_append_61 6 rfl rfl (by decide) rfl ?_
    refine sr_goto (tgt := 42) h dE_append_64 (by decide) ?_
    exact vc
theorem opE_append {l : Launch} {κ : sp_K} {mc ms : Nat} {Rt : Option Value → sp_M → Prop} {Xt : String → sp_M → Prop} {μ : sp_M} {a0 : Nat} {a1 : Nat} {v2 : Int32} {a3 : Nat} {a4 : Nat} (htr : l.stackTraces = false) (body : ∀ x : sp_X, x.2.1.stackTraces = false → cxE_append κ x mc ms → sp_w κ x (sp_F κ x Rt Xt mc ms) 0 0 0 [(0, .ref a0), (1, .ref a1), (2, .int v2), (3, .ref a3), (4, .ref a4)] [] μ) : sp_m l κ yE_append wE_append 2 51 mc ms [.ref a0, .ref a1, .int v2, .ref a3, .ref a4] μ Rt Xt :=
  sp_open htr (by decide +kernel) rfl (Nat.le_of_ble_eq_true rfl) (by intro v hv; simp only [List.mem_cons, List.not_mem_nil, or_false] at hv; rcases hv with rfl | rfl | rfl | rfl | rfl <;> first | rfl | exact sp_c1o _) (fun x hx h => body x (by rw [hx]; exact htr) h)

abbrev cxE_events (κ : sp_K) (x : sp_X) (mc ms : Nat) : Prop := sp_C κ x cE_events 2 RE (some .int) [] "events" (sp_rm 6 90 mc ms)
set_option maxRecDepth 100000 in
set_option maxHeartbeats 4000000 in
theorem bkE_events_0 {κ : sp_K} {x : sp_X} {mc ms : Nat} {Rt : Option Value → sp_M → Prop} {Xt : String → sp_M → Prop} {μ : sp_M} {k n : Nat} {a0 : Nat} {v1 : Int32} (h : cxE_events κ x mc ms) (hk : k ≤ mc ∧ n ≤ ms)
    (vc : ((¬ v1 = (-1) → (∃ mc_1 ms_2 : Nat, (k + mc_1 ≤ mc ∧ n + ms_2 ≤ ms) ∧ sp_m x.2.1 κ yE_isAgentName wE_isAgentName 0 0 mc_1 ms_2 [.int v1] μ (fun v_4 μ_5 => ∃ v_7 : Int32, v_4 = some (.int v_7) ∧ ((¬ v_7 = 0 → (∃ fs_8 : List Value, μ_5 a0 = some (.inr (2, fs_8)) ∧ ∃ r_10 : Option Nat, fs_8[0]? = some (va_rf r_10) ∧ (∃ a_12 : Nat, r_10 = some a_12 ∧ ∃ (N_13 : Nat) (f_14 : Nat → Option Nat), μ_5 a_12 = some (sp_ra κ 3 N_13 f_14) ∧ ∃ j_16 : Nat, v1 = nI j_16 ∧ j_16 < N_13 ∧ ∃ r_19 : Option Nat, f_14 j_16 = r_19 ∧ ((r_19 = none → Rt (some (.int 0)) μ_5) ∧ (∀ a_21 : Nat, r_19 = some a_21 → ((∃ j_22 : Nat, v1 = nI j_22 ∧ j_22 < N_13 ∧ ∃ r_25 : Option Nat, f_14 j_22 = r_25 ∧ (∃ a_27 : Nat, r_25 = some a_27 ∧ ∃ fs_28 : List Value, μ_5 a_27 = some (.inr (0, fs_28)) ∧ ∃ v_30 : Int32, fs_28[2]? = some (.int v_30) ∧ Rt (some (.int v_30)) μ_5)))))))) ∧ (v_7 = 0 → (((k + mc_1) + 1 ≤ mc ∧ (n + ms_2) + 6 ≤ ms) ∧ Xt "java/lang/IllegalArgumentException" μ_5)))) (fun E_34 μ_5 => Xt E_34 μ_5))) ∧ (v1 = (-1) → (∃ fs_35 : List Value, μ a0 = some (.inr (2, fs_35)) ∧ ∃ v_37 : Int32, fs_35[3]? = some (.int v_37) ∧ Rt (some (.int v_37)) μ)))) : sp_w κ x (sp_F κ x Rt Xt mc ms) k n 0 [(0, .ref a0), (1, .int v1)] [] μ := by
  refine sr_iload_n h dE_events_0 rfl 1 rfl ?_
  refine sr_iconst (v := -1) h dE_events_1 (by decide) ?_
  refine sr_icmp_ne (tgt := 10) h dE_events_2 (by decide) (fun c_39 => ?_) (fun c_39 => ?_)
  · replace vc := vc.1 c_39
    refine sr_iload_n h dE_events_10 rfl 1 rfl ?_
    obtain ⟨mc_1, ms_2, hc_3, vc⟩ := vc
    refine sr_callS (y := yE_isAgentName) (n0 := 1) (As := [.int v1]) (st := []) h (sp_gS kw_126 kw_127 kw_34 kw_128) rfl (by decide +kernel) ⟨Nat.le_of_ble_eq_true rfl, Nat.le_of_ble_eq_true rfl⟩ dE_events_11 rfl rfl (Nat.le_of_ble_eq_true rfl) hc_3 vc (fun v_4 μ_5 vc' => ?_) (fun E_34 μ_5 vc' => ?_)
    · replace vc := vc'
      clear vc'
      obtain ⟨v_7, rfl, vc⟩ := vc
      refine sr_if_ne (tgt := 25) h dE_events_14 (by decide) (fun c_33 => ?_) (fun c_33 => ?_)
      · replace vc := vc.1 c_33
        refine sr_aload_n h dE_events_25 rfl 0 rfl ?_
        obtain ⟨fs_8, ho_9, vc⟩ := vc
        obtain ⟨r_10, hv_11, vc⟩ := vc
        refine sr_get h inE rfl 0 (by decide) kw_60 dE_events_26 ho_9 hv_11 ?_
        refine sr_iload_n h dE_events_29 rfl 1 rfl ?_
        obtain ⟨a_12, rfl, vc⟩ := vc
        obtain ⟨N_13, f_14, ho_15, vc⟩ := vc
        obtain ⟨j_16, hi_17, hj_18, vc⟩ := vc
        obtain ⟨r_19, hr_20, vc⟩ := vc
        refine sr_aald h dE_events_30 rfl ho_15 hi_17 hj_18 hr_20 ?_
        rcases r_19 with _ | a_21
        · replace vc := vc.1 rfl
          refine sr_ifnonnull_n h dE_events_31 ?_
          refine sr_iconst (v := 0) h dE_events_34 (by decide) ?_
          refine sr_goto (tgt := 47) h dE_events_35 (by decide) ?_
          exact sr_iret h dE_events_47 hc_3.1 hc_3.2 vc
        · replace vc := vc.2 a_21 rfl
          refine sr_ifnonnull_s (tgt := 38) h dE_events_31 (by decide) ?_
          refine sr_aload_n h dE_events_38 rfl 0 rfl ?_
          refine sr_get h inE rfl 0 (by decide) kw_60 dE_events_39 ho_9 hv_11 ?_
          refine sr_iload_n h dE_events_42 rfl 1 rfl ?_
          obtain ⟨j_22, hi_23, hj_24, vc⟩ := vc
          obtain ⟨r_25, hr_26, vc⟩ := vc
          refine sr_aald h dE_events_43 rfl ho_15 hi_23 hj_24 hr_26 ?_
          obtain ⟨a_27, rfl, vc⟩ := vc
          obtain ⟨fs_28, ho_29, vc⟩ := vc
          obtain ⟨v_30, hv_31, vc⟩ := vc
          refine sr_get h inA rfl 2 (by decide) kw_321 dE_events_44 ho_29 hv_31 ?_
          exact sr_iret h dE_events_47 hc_3.1 hc_3.2 vc
      · replace vc := vc.2 c_33
        obtain ⟨hc_32, vc⟩ := vc
        exact sr_throw0 (names := ["java/lang/RuntimeException", "java/lang/Exception"]) h (by decide +kernel) (by decide +kernel) kw_247 kw_42 ka_E_69 kg_E_69 dE_events_17 dE_events_20 dE_events_21 dE_events_24 (fun _ z => nomatch z) (Nat.le_of_ble_eq_true rfl) (Nat.le_of_ble_eq_true rfl) hc_32.1 hc_32.2 hc_32.1 hc_32.2 vc
    · replace vc := vc'
      clear vc'
      exact st_out h (fun _ z => nomatch z) hc_3.1 hc_3.2 vc
  · replace vc := vc.2 c_39
    refine sr_aload_n h dE_events_5 rfl 0 rfl ?_
    obtain ⟨fs_35, ho_36, vc⟩ := vc
    obtain ⟨v_37, hv_38, vc⟩ := vc
    refine sr_get h inE rfl 3 (by decide) kw_63 dE_events_6 ho_36 hv_38 ?_
    exact sr_iret h dE_events_9 hk.1 hk.2 vc
theorem opE_events {l : Launch} {κ : sp_K} {mc ms : Nat} {Rt : Option Value → sp_M → Prop} {Xt : String → sp_M → Prop} {μ : sp_M} {a0 : Nat} {v1 : Int32} (htr : l.stackTraces = false) (body : ∀ x : sp_X, x.2.1.stackTraces = false → cxE_events κ x mc ms → sp_w κ x (sp_F κ x Rt Xt mc ms) 0 0 0 [(0, .ref a0), (1, .int v1)] [] μ) : sp_m l κ yE_events wE_events 6 90 mc ms [.ref a0, .int v1] μ Rt Xt :=
  sp_open htr (by decide +kernel) rfl (Nat.le_of_ble_eq_true rfl) (by intro v hv; simp only [List.mem_cons, List.not_mem_nil, or_false] at hv; rcases hv with rfl | rfl <;> first | rfl | exact sp_c1o _) (fun x hx h => body x (by rw [hx]; exact htr) h)

abbrev cxE_place (κ : sp_K) (x : sp_X) (mc ms : Nat) : Prop := sp_C κ x cE_place 3 RE (some .int) [] "place" (sp_rm 7 113 mc ms)
set_option maxRecDepth 100000 in
set_option maxHeartbeats 4000000 in
theorem bkE_place_0 {κ : sp_K} {x : sp_X} {mc ms : Nat} {Rt : Option Value → sp_M → Prop} {Xt : String → sp_M → Prop} {μ : sp_M} {k n : Nat} {a0 : Nat} {v1 : Int32} {v2 : Int32} (h : cxE_place κ x mc ms) (hk : k ≤ mc ∧ n ≤ ms)
    (vc : (∃ mc_1 ms_2 : Nat, (k + mc_1 ≤ mc ∧ n + ms_2 ≤ ms) ∧ ∃ fs_6 : List Value, μ a0 = some (.inr (2, fs_6)) ∧ sp_m x.2.1 κ yE_find wE_find 6 90 mc_1 ms_2 [.ref a0, .int v1, .int v2] μ (fun v_4 μ_5 => ∃ v_9 : Int32, v_4 = some (.int v_9) ∧ Rt (some (.int v_9)) μ_5) (fun E_10 μ_5 => Xt E_10 μ_5))) : sp_w κ x (sp_F κ x Rt Xt mc ms) k n 0 [(0, .ref a0), (1, .int v1), (2, .int v2)] [] μ := by
  refine sr_aload_n h dE_place_0 rfl 0 rfl ?_
  refine sr_iload_n h dE_place_1 rfl 1 rfl ?_
  refine sr_iload_n h dE_place_2 rfl 2 rfl ?_
  obtain ⟨mc_1, ms_2, hc_3, vc⟩ := vc
  obtain ⟨fs_6, ho_7, vc⟩ := vc
  refine sr_callV (y := yE_find) (n0 := 2) (As := [.int v1, .int v2]) h (sp_gV kw_122 kw_124 kw_1 kw_34 kw_125) rfl (by decide +kernel) ⟨Nat.le_of_ble_eq_true rfl, Nat.le_of_ble_eq_true rfl⟩ (ci := 2) rfl dE_place_3 rfl rfl (Nat.le_of_ble_eq_true rfl) hc_3 ho_7 vc (fun v_4 μ_5 vc' => ?_) (fun E_10 μ_5 vc' => ?_)
  · replace vc := vc'
    clear vc'
    obtain ⟨v_9, rfl, vc⟩ := vc
    exact sr_iret h dE_place_6 hc_3.1 hc_3.2 vc
  · replace vc := vc'
    clear vc'
    exact st_out h (fun _ z => nomatch z) hc_3.1 hc_3.2 vc
theorem opE_place {l : Launch} {κ : sp_K} {mc ms : Nat} {Rt : Option Value → sp_M → Prop} {Xt : String → sp_M → Prop} {μ : sp_M} {a0 : Nat} {v1 : Int32} {v2 : Int32} (htr : l.stackTraces = false) (body : ∀ x : sp_X, x.2.1.stackTraces = false → cxE_place κ x mc ms → sp_w κ x (sp_F κ x Rt Xt mc ms) 0 0 0 [(0, .ref a0), (1, .int v1), (2, .int v2)] [] μ) : sp_m l κ yE_place wE_place 7 113 mc ms [.ref a0, .int v1, .int v2] μ Rt Xt :=
  sp_open htr (by decide +kernel) rfl (Nat.le_of_ble_eq_true rfl) (by intro v hv; simp only [List.mem_cons, List.not_mem_nil, or_false] at hv; rcases hv with rfl | rfl | rfl <;> first | rfl | exact sp_c1o _) (fun x hx h => body x (by rw [hx]; exact htr) h)

abbrev cxE_id (κ : sp_K) (x : sp_X) (mc ms : Nat) : Prop := sp_C κ x cE_id 3 RE (some .long) [] "id" (sp_rm 7 111 mc ms)
set_option maxRecDepth 100000 in
set_option maxHeartbeats 4000000 in
theorem bkE_id_0 {κ : sp_K} {x : sp_X} {mc ms : Nat} {Rt : Option Value → sp_M → Prop} {Xt : String → sp_M → Prop} {μ : sp_M} {k n : Nat} {a0 : Nat} {v1 : Int32} (h : cxE_id κ x mc ms) (hk : k ≤ mc ∧ n ≤ ms)
    (vc : (∃ mc_1 ms_2 : Nat, (k + mc_1 ≤ mc ∧ n + ms_2 ≤ ms) ∧ ∃ fs_6 : List Value, μ a0 = some (.inr (2, fs_6)) ∧ sp_m x.2.1 κ yE_spanOf wE_spanOf 6 90 mc_1 ms_2 [.ref a0, .int v1] μ (fun v_4 μ_5 => ∃ r_9 : Option Nat, v_4 = some (va_rf r_9) ∧ (∃ a_10 : Nat, r_9 = some a_10 ∧ ∃ fs_11 : List Value, μ_5 a_10 = some (.inr (1, fs_11)) ∧ ∃ r_13 : Option Nat, fs_11[0]? = some (va_rf r_13) ∧ (∃ a_15 : Nat, r_13 = some a_15 ∧ ∃ fs_16 : List Value, μ_5 a_15 = some (.inr (0, fs_16)) ∧ ∃ v_18 : Int32, fs_16[0]? = some (.int v_18) ∧ (∃ mc_20 ms_21 : Nat, ((k + mc_1) + mc_20 ≤ mc ∧ (n + ms_2) + ms_21 ≤ ms) ∧ sp_m x.2.1 κ yS_numberAt wS_numberAt 0 0 mc_20 ms_21 [.ref a_10, .int v1] μ_5 (fun v_23 μ_24 => ∃ v_26 : Int32, v_23 = some (.int v_26) ∧ Rt (some (.long (((Int32.toInt64 v_18) <<< (Int32.toInt64 32 &&& 63)) + (Int32.toInt64 v_26)))) μ_24) (fun E_27 μ_24 => Xt E_27 μ_24))))) (fun E_28 μ_5 => Xt E_28 μ_5))) : sp_w κ x (sp_F κ x Rt Xt mc ms) k n 0 [(0, .ref a0), (1, .int v1)] [] μ := by
  refine sr_aload_n h dE_id_0 rfl 0 rfl ?_
  refine sr_iload_n h dE_id_1 rfl 1 rfl ?_
  obtain ⟨mc_1, ms_2, hc_3, vc⟩ := vc
  obtain ⟨fs_6, ho_7, vc⟩ := vc
  refine sr_callV (y := yE_spanOf) (n0 := 1) (As := [.int v1]) h (sp_gV kw_284 kw_286 kw_6 kw_34 kw_287) rfl (by decide +kernel) ⟨Nat.le_of_ble_eq_true rfl, Nat.le_of_ble_eq_true rfl⟩ (ci := 2) rfl dE_id_2 rfl rfl (Nat.le_of_ble_eq_true rfl) hc_3 ho_7 vc (fun v_4 μ_5 vc' => ?_) (fun E_28 μ_5 vc' => ?_)
  · replace vc := vc'
    clear vc'
    obtain ⟨r_9, rfl, vc⟩ := vc
    refine sr_astoreO_n (lv' := [(0, .ref a0), (1, .int v1), (2, va_rf r_9)]) h dE_id_5 rfl (by decide) rfl ?_
    refine sr_aloadO_n h dE_id_6 rfl 2 rfl ?_
    obtain ⟨a_10, rfl, vc⟩ := vc
    obtain ⟨fs_11, ho_12, vc⟩ := vc
    obtain ⟨r_13, hv_14, vc⟩ := vc
    refine sr_get h inS rfl 0 (by decide) kw_355 dE_id_7 ho_12 hv_14 ?_
    obtain ⟨a_15, rfl, vc⟩ := vc
    obtain ⟨fs_16, ho_17, vc⟩ := vc
    obtain ⟨v_18, hv_19, vc⟩ := vc
    refine sr_get h inA rfl 0 (by decide) kw_315 dE_id_10 ho_17 hv_19 ?_
    refine sr_i2l h dE_id_13 ?_
    refine sr_bipush (v := 32) h dE_id_14 (by decide) ?_
    refine sr_lshl h dE_id_16 ?_
    refine sr_aload_n h dE_id_17 rfl 2 rfl ?_
    refine sr_iload_n h dE_id_18 rfl 1 rfl ?_
    obtain ⟨mc_20, ms_21, hc_22, vc⟩ := vc
    refine sr_callV (y := yS_numberAt) (n0 := 1) (As := [.int v1]) h (sp_gV kw_300 kw_198 kw_199 kw_47 kw_200) rfl (by decide +kernel) ⟨Nat.le_of_ble_eq_true rfl, Nat.le_of_ble_eq_true rfl⟩ (ci := 1) rfl dE_id_19 rfl rfl (Nat.le_of_ble_eq_true rfl) hc_22 ho_12 vc (fun v_23 μ_24 vc' => ?_) (fun E_27 μ_24 vc' => ?_)
    · replace vc := vc'
      clear vc'
      obtain ⟨v_26, rfl, vc⟩ := vc
      refine sr_i2l h dE_id_22 ?_
      refine sr_ladd h dE_id_23 ?_
      exact sr_lret h dE_id_24 hc_22.1 hc_22.2 vc
    · replace vc := vc'
      clear vc'
      exact st_out h (fun _ z => nomatch z) hc_22.1 hc_22.2 vc
  · replace vc := vc'
    clear vc'
    exact st_out h (fun _ z => nomatch z) hc_3.1 hc_3.2 vc
theorem opE_id {l : Launch} {κ : sp_K} {mc ms : Nat} {Rt : Option Value → sp_M → Prop} {Xt : String → sp_M → Prop} {μ : sp_M} {a0 : Nat} {v1 : Int32} (htr : l.stackTraces = false) (body : ∀ x : sp_X, x.2.1.stackTraces = false → cxE_id κ x mc ms → sp_w κ x (sp_F κ x Rt Xt mc ms) 0 0 0 [(0, .ref a0), (1, .int v1)] [] μ) : sp_m l κ yE_id wE_id 7 111 mc ms [.ref a0, .int v1] μ Rt Xt :=
  sp_open htr (by decide +kernel) rfl (Nat.le_of_ble_eq_true rfl) (by intro v hv; simp only [List.mem_cons, List.not_mem_nil, or_false] at hv; rcases hv with rfl | rfl <;> first | rfl | exact sp_c1o _) (fun x hx h => body x (by rw [hx]; exact htr) h)

abbrev cxE_parentOf (κ : sp_K) (x : sp_X) (mc ms : Nat) : Prop := sp_C κ x cE_parentOf 6 RE (some .int) [] "parentOf" (sp_rm 7 111 mc ms)
set_option maxRecDepth 100000 in
set_option maxHeartbeats 4000000 in
theorem bkE_parentOf_0 {κ : sp_K} {x : sp_X} {mc ms : Nat} {Rt : Option Value → sp_M → Prop} {Xt : String → sp_M → Prop} {μ : sp_M} {k n : Nat} {a0 : Nat} {v1 : Int32} {v2 : Int32} (h : cxE_parentOf κ x mc ms) (hk : k ≤ mc ∧ n ≤ ms)
    (vc : (∃ mc_1 ms_2 : Nat, (k + mc_1 ≤ mc ∧ n + ms_2 ≤ ms) ∧ ∃ fs_6 : List Value, μ a0 = some (.inr (2, fs_6)) ∧ sp_m x.2.1 κ yE_spanOf wE_spanOf 6 90 mc_1 ms_2 [.ref a0, .int v1] μ (fun v_4 μ_5 => ∃ r_9 : Option Nat, v_4 = some (va_rf r_9) ∧ (∃ a_10 : Nat, r_9 = some a_10 ∧ ∃ fs_11 : List Value, μ_5 a_10 = some (.inr (1, fs_11)) ∧ ∃ v_13 : Int32, fs_11[1]? = some (.int v_13) ∧ ((¬ v1 = v_13 → sp_w κ x (sp_F κ x Rt Xt mc ms) (k + mc_1) (n + ms_2) 19 [(0, .ref a0), (1, .int v1), (2, .int v2), (3, .ref a_10)] [.int 0] μ_5) ∧ (v1 = v_13 → sp_w κ x (sp_F κ x Rt Xt mc ms) (k + mc_1) (n + ms_2) 19 [(0, .ref a0), (1, .int v1), (2, .int v2), (3, .ref a_10)] [.int 1] μ_5)))) (fun E_16 μ_5 => Xt E_16 μ_5))) : sp_w κ x (sp_F κ x Rt Xt mc ms) k n 0 [(0, .ref a0), (1, .int v1), (2, .int v2)] [] μ := by
  refine sr_aload_n h dE_parentOf_0 rfl 0 rfl ?_
  refine sr_iload_n h dE_parentOf_1 rfl 1 rfl ?_
  obtain ⟨mc_1, ms_2, hc_3, vc⟩ := vc
  obtain ⟨fs_6, ho_7, vc⟩ := vc
  refine sr_callV (y := yE_spanOf) (n0 := 1) (As := [.int v1]) h (sp_gV kw_284 kw_286 kw_6 kw_34 kw_287) rfl (by decide +kernel) ⟨Nat.le_of_ble_eq_true rfl, Nat.le_of_ble_eq_true rfl⟩ (ci := 2) rfl dE_parentOf_2 rfl rfl (Nat.le_of_ble_eq_true rfl) hc_3 ho_7 vc (fun v_4 μ_5 vc' => ?_) (fun E_16 μ_5 vc' => ?_)
  · replace vc := vc'
    clear vc'
    obtain ⟨r_9, rfl, vc⟩ := vc
    refine sr_astoreO_n (lv' := [(0, .ref a0), (1, .int v1), (2, .int v2), (3, va_rf r_9)]) h dE_parentOf_5 rfl (by decide) rfl ?_
    refine sr_iload_n h dE_parentOf_6 rfl 1 rfl ?_
    refine sr_aloadO_n h dE_parentOf_7 rfl 3 rfl ?_
    obtain ⟨a_10, rfl, vc⟩ := vc
    obtain ⟨fs_11, ho_12, vc⟩ := vc
    obtain ⟨v_13, hv_14, vc⟩ := vc
    refine sr_get h inS rfl 1 (by decide) kw_357 dE_parentOf_8 ho_12 hv_14 ?_
    refine sr_icmp_ne (tgt := 18) h dE_parentOf_11 (by decide) (fun c_15 => ?_) (fun c_15 => ?_)
    · replace vc := vc.1 c_15
      refine sr_iconst (v := 0) h dE_parentOf_18 (by decide) ?_
      exact vc
    · replace vc := vc.2 c_15
      refine sr_iconst (v := 1) h dE_parentOf_14 (by decide) ?_
      refine sr_goto (tgt := 19) h dE_parentOf_15 (by decide) ?_
      exact vc
  · replace vc := vc'
    clear vc'
    exact st_out h (fun _ z => nomatch z) hc_3.1 hc_3.2 vc
set_option maxRecDepth 100000 in
set_option maxHeartbeats 4000000 in
theorem bkE_parentOf_19 {κ : sp_K} {x : sp_X} {mc ms : Nat} {Rt : Option Value → sp_M → Prop} {Xt : String → sp_M → Prop} {μ : sp_M} {k n : Nat} {a0 : Nat} {v1 : Int32} {v2 : Int32} {a3 : Nat} {vs0 : Int32} (h : cxE_parentOf κ x mc ms) (hk : k ≤ mc ∧ n ≤ ms)
    (vc : ((vs0 = 0 → sp_w κ x (sp_F κ x Rt Xt mc ms) k n 35 [(0, .ref a0), (1, .int v1), (2, .int v2), (3, .ref a3), (4, .int vs0)] [.int 1] μ) ∧ (¬ vs0 = 0 → (∃ fs_1 : List Value, μ a3 = some (.inr (1, fs_1)) ∧ ∃ r_3 : Option Nat, fs_1[4]? = some (va_rf r_3) ∧ (∃ a_5 : Nat, r_3 = some a_5 ∧ ∃ (N_6 : Nat) (f_7 : Nat → Int32), μ a_5 = some (sp_ia κ N_6 f_7) ∧ sp_w κ x (sp_F κ x Rt Xt mc ms) k n 35 [(0, .ref a0), (1, .int v1), (2, .int v2), (3, .ref a3), (4, .int vs0)] [.int (nI N_6)] μ))))) : sp_w κ x (sp_F κ x Rt Xt mc ms) k n 19 [(0, .ref a0), (1, .int v1), (2, .int v2), (3, .ref a3)] [.int vs0] μ := by
  refine sr_istore (lv' := [(0, .ref a0), (1, .int v1), (2, .int v2), (3, .ref a3), (4, .int vs0)]) h dE_parentOf_19 (by decide) rfl ?_
  refine sr_iload h dE_parentOf_21 4 rfl ?_
  refine sr_if_eq (tgt := 34) h dE_parentOf_23 (by decide) (fun c_9 => ?_) (fun c_9 => ?_)
  · replace vc := vc.1 c_9
    refine sr_iconst (v := 1) h dE_parentOf_34 (by decide) ?_
    exact vc
  · replace vc := vc.2 c_9
    refine sr_aload_n h dE_parentOf_26 rfl 3 rfl ?_
    obtain ⟨fs_1, ho_2, vc⟩ := vc
    obtain ⟨r_3, hv_4, vc⟩ := vc
    refine sr_get h inS rfl 4 (by decide) kw_362 dE_parentOf_27 ho_2 hv_4 ?_
    obtain ⟨a_5, rfl, vc⟩ := vc
    obtain ⟨N_6, f_7, ho_8, vc⟩ := vc
    refine sr_alen (t := 0) h dE_parentOf_30 ho_8 rfl ?_
    refine sr_goto (tgt := 35) h dE_parentOf_31 (by decide) ?_
    exact vc
set_option maxRecDepth 100000 in
set_option maxHeartbeats 4000000 in
theorem bkE_parentOf_35 {κ : sp_K} {x : sp_X} {mc ms : Nat} {Rt : Option Value → sp_M → Prop} {Xt : String → sp_M → Prop} {μ : sp_M} {k n : Nat} {a0 : Nat} {v1 : Int32} {v2 : Int32} {a3 : Nat} {v4 : Int32} {vs0 : Int32} (h : cxE_parentOf κ x mc ms) (hk : k ≤ mc ∧ n ≤ ms)
    (vc : ((¬ v2 = (-1) → ((v2 < 0 → ((k + 1 ≤ mc ∧ n + 6 ≤ ms) ∧ Xt "java/util/NoSuchElementException" μ)) ∧ (¬ v2 < 0 → ((v2 < vs0 → ((v4 = 0 → Rt (some (.int (v1 - 1))) μ) ∧ (¬ v4 = 0 → (∃ fs_2 : List Value, μ a3 = some (.inr (1, fs_2)) ∧ ∃ r_4 : Option Nat, fs_2[4]? = some (va_rf r_4) ∧ (∃ a_6 : Nat, r_4 = some a_6 ∧ ∃ (N_7 : Nat) (f_8 : Nat → Int32), μ a_6 = some (sp_ia κ N_7 f_8) ∧ ∃ j_10 : Nat, v2 = nI j_10 ∧ j_10 < N_7 ∧ Rt (some (.int (f_8 j_10))) μ))))) ∧ (¬ v2 < vs0 → ((k + 1 ≤ mc ∧ n + 6 ≤ ms) ∧ Xt "java/util/NoSuchElementException" μ)))))) ∧ (v2 = (-1) → Rt (some (.int vs0)) μ))) : sp_w κ x (sp_F κ x Rt Xt mc ms) k n 35 [(0, .ref a0), (1, .int v1), (2, .int v2), (3, .ref a3), (4, .int v4)] [.int vs0] μ := by
  refine sr_istore (lv' := [(0, .ref a0), (1, .int v1), (2, .int v2), (3, .ref a3), (4, .int v4), (5, .int vs0)]) h dE_parentOf_35 (by decide) rfl ?_
  refine sr_iload_n h dE_parentOf_37 rfl 2 rfl ?_
  refine sr_iconst (v := -1) h dE_parentOf_38 (by decide) ?_
  refine sr_icmp_ne (tgt := 45) h dE_parentOf_39 (by decide) (fun c_17 => ?_) (fun c_17 => ?_)
  · replace vc := vc.1 c_17
    refine sr_iload_n h dE_parentOf_45 rfl 2 rfl ?_
    refine sr_if_lt (tgt := 55) h dE_parentOf_46 (by decide) (fun c_16 => ?_) (fun c_16 => ?_)
    · replace vc := vc.1 c_16
      obtain ⟨hc_1, vc⟩ := vc
      exact sr_throw0 (names := ["java/lang/RuntimeException", "java/lang/Exception"]) h (by decide +kernel) (by decide +kernel) kw_129 kw_39 ka_E_123 kg_E_123 dE_parentOf_55 dE_parentOf_58 dE_parentOf_59 dE_parentOf_62 (fun _ z => nomatch z) (Nat.le_of_ble_eq_true rfl) (Nat.le_of_ble_eq_true rfl) hc_1.1 hc_1.2 hc_1.1 hc_1.2 vc
    · replace vc := vc.2 c_16
      refine sr_iload_n h dE_parentOf_49 rfl 2 rfl ?_
      refine sr_iload h dE_parentOf_50 5 rfl ?_
      refine sr_icmp_lt (tgt := 63) h dE_parentOf_52 (by decide) (fun c_15 => ?_) (fun c_15 => ?_)
      · replace vc := vc.1 c_15
        refine sr_iload h dE_parentOf_63 4 rfl ?_
        refine sr_if_eq (tgt := 77) h dE_parentOf_65 (by decide) (fun c_13 => ?_) (fun c_13 => ?_)
        · replace vc := vc.1 c_13
          refine sr_iload_n h dE_parentOf_77 rfl 1 rfl ?_
          refine sr_iconst (v := 1) h dE_parentOf_78 (by decide) ?_
          refine sr_isub h dE_parentOf_79 ?_
          exact sr_iret h dE_parentOf_80 hk.1 hk.2 vc
        · replace vc := vc.2 c_13
          refine sr_aload_n h dE_parentOf_68 rfl 3 rfl ?_
          obtain ⟨fs_2, ho_3, vc⟩ := vc
          obtain ⟨r_4, hv_5, vc⟩ := vc
          refine sr_get h inS rfl 4 (by decide) kw_362 dE_parentOf_69 ho_3 hv_5 ?_
          refine sr_iload_n h dE_parentOf_72 rfl 2 rfl ?_
          obtain ⟨a_6, rfl, vc⟩ := vc
          obtain ⟨N_7, f_8, ho_9, vc⟩ := vc
          obtain ⟨j_10, hi_11, hj_12, vc⟩ := vc
          refine sr_iald h dE_parentOf_73 ho_9 hi_11 hj_12 ?_
          refine sr_goto (tgt := 80) h dE_parentOf_74 (by decide) ?_
          exact sr_iret h dE_parentOf_80 hk.1 hk.2 vc
      · replace vc := vc.2 c_15
        obtain ⟨hc_14, vc⟩ := vc
        exact sr_throw0 (names := ["java/lang/RuntimeException", "java/lang/Exception"]) h (by decide +kernel) (by decide +kernel) kw_129 kw_39 ka_E_123 kg_E_123 dE_parentOf_55 dE_parentOf_58 dE_parentOf_59 dE_parentOf_62 (fun _ z => nomatch z) (Nat.le_of_ble_eq_true rfl) (Nat.le_of_ble_eq_true rfl) hc_14.1 hc_14.2 hc_14.1 hc_14.2 vc
  · replace vc := vc.2 c_17
    refine sr_iload h dE_parentOf_42 5 rfl ?_
    exact sr_iret h dE_parentOf_44 hk.1 hk.2 vc
theorem opE_parentOf {l : Launch} {κ : sp_K} {mc ms : Nat} {Rt : Option Value → sp_M → Prop} {Xt : String → sp_M → Prop} {μ : sp_M} {a0 : Nat} {v1 : Int32} {v2 : Int32} (htr : l.stackTraces = false) (body : ∀ x : sp_X, x.2.1.stackTraces = false → cxE_parentOf κ x mc ms → sp_w κ x (sp_F κ x Rt Xt mc ms) 0 0 0 [(0, .ref a0), (1, .int v1), (2, .int v2)] [] μ) : sp_m l κ yE_parentOf wE_parentOf 7 111 mc ms [.ref a0, .int v1, .int v2] μ Rt Xt :=
  sp_open htr (by decide +kernel) rfl (Nat.le_of_ble_eq_true rfl) (by intro v hv; simp only [List.mem_cons, List.not_mem_nil, or_false] at hv; rcases hv with rfl | rfl | rfl <;> first | rfl | exact sp_c1o _) (fun x hx h => body x (by rw [hx]; exact htr) h)

abbrev cxE_related (κ : sp_K) (x : sp_X) (mc ms : Nat) : Prop := sp_C κ x cE_related 3 RE (some .int) [] "related" (sp_rm 8 135 mc ms)
set_option maxRecDepth 100000 in
set_option maxHeartbeats 4000000 in
theorem bkE_related_0 {κ : sp_K} {x : sp_X} {mc ms : Nat} {Rt : Option Value → sp_M → Prop} {Xt : String → sp_M → Prop} {μ : sp_M} {k n : Nat} {a0 : Nat} {v1 : Int32} {v2 : Int32} (h : cxE_related κ x mc ms) (hk : k ≤ mc ∧ n ≤ ms)
    (vc : (∃ mc_1 ms_2 : Nat, (k + mc_1 ≤ mc ∧ n + ms_2 ≤ ms) ∧ ∃ fs_6 : List Value, μ a0 = some (.inr (2, fs_6)) ∧ sp_m x.2.1 κ yE_isAncestor wE_isAncestor 7 111 mc_1 ms_2 [.ref a0, .int v1, .int v2] μ (fun v_4 μ_5 => ∃ v_9 : Int32, v_4 = some (.int v_9) ∧ ((v_9 = 0 → (∃ mc_10 ms_11 : Nat, ((k + mc_1) + mc_10 ≤ mc ∧ (n + ms_2) + ms_11 ≤ ms) ∧ ∃ fs_15 : List Value, μ_5 a0 = some (.inr (2, fs_15)) ∧ sp_m x.2.1 κ yE_isAncestor wE_isAncestor 7 111 mc_10 ms_11 [.ref a0, .int v2, .int v1] μ_5 (fun v_13 μ_14 => ∃ v_18 : Int32, v_13 = some (.int v_18) ∧ ((v_18 = 0 → ((¬ v1 = v2 → Rt (some (.int 3)) μ_14) ∧ (v1 = v2 → Rt (some (.int 0)) μ_14))) ∧ (¬ v_18 = 0 → Rt (some (.int 2)) μ_14))) (fun E_21 μ_14 => Xt E_21 μ_14))) ∧ (¬ v_9 = 0 → Rt (some (.int 1)) μ_5))) (fun E_23 μ_5 => Xt E_23 μ_5))) : sp_w κ x (sp_F κ x Rt Xt mc ms) k n 0 [(0, .ref a0), (1, .int v1), (2, .int v2)] [] μ := by
  refine sr_aload_n h dE_related_0 rfl 0 rfl ?_
  refine sr_iload_n h dE_related_1 rfl 1 rfl ?_
  refine sr_iload_n h dE_related_2 rfl 2 rfl ?_
  obtain ⟨mc_1, ms_2, hc_3, vc⟩ := vc
  obtain ⟨fs_6, ho_7, vc⟩ := vc
  refine sr_callV (y := yE_isAncestor) (n0 := 2) (As := [.int v1, .int v2]) h (sp_gV kw_296 kw_298 kw_8 kw_34 kw_299) rfl (by decide +kernel) ⟨Nat.le_of_ble_eq_true rfl, Nat.le_of_ble_eq_true rfl⟩ (ci := 2) rfl dE_related_3 rfl rfl (Nat.le_of_ble_eq_true rfl) hc_3 ho_7 vc (fun v_4 μ_5 vc' => ?_) (fun E_23 μ_5 vc' => ?_)
  · replace vc := vc'
    clear vc'
    obtain ⟨v_9, rfl, vc⟩ := vc
    refine sr_if_eq (tgt := 11) h dE_related_6 (by decide) (fun c_22 => ?_) (fun c_22 => ?_)
    · replace vc := vc.1 c_22
      refine sr_aload_n h dE_related_11 rfl 0 rfl ?_
      refine sr_iload_n h dE_related_12 rfl 2 rfl ?_
      refine sr_iload_n h dE_related_13 rfl 1 rfl ?_
      obtain ⟨mc_10, ms_11, hc_12, vc⟩ := vc
      obtain ⟨fs_15, ho_16, vc⟩ := vc
      refine sr_callV (y := yE_isAncestor) (n0 := 2) (As := [.int v2, .int v1]) h (sp_gV kw_296 kw_298 kw_8 kw_34 kw_299) rfl (by decide +kernel) ⟨Nat.le_of_ble_eq_true rfl, Nat.le_of_ble_eq_true rfl⟩ (ci := 2) rfl dE_related_14 rfl rfl (Nat.le_of_ble_eq_true rfl) hc_12 ho_16 vc (fun v_13 μ_14 vc' => ?_) (fun E_21 μ_14 vc' => ?_)
      · replace vc := vc'
        clear vc'
        obtain ⟨v_18, rfl, vc⟩ := vc
        refine sr_if_eq (tgt := 22) h dE_related_17 (by decide) (fun c_20 => ?_) (fun c_20 => ?_)
        · replace vc := vc.1 c_20
          refine sr_iload_n h dE_related_22 rfl 1 rfl ?_
          refine sr_iload_n h dE_related_23 rfl 2 rfl ?_
          refine sr_icmp_ne (tgt := 31) h dE_related_24 (by decide) (fun c_19 => ?_) (fun c_19 => ?_)
          · replace vc := vc.1 c_19
            refine sr_iconst (v := 3) h dE_related_31 (by decide) ?_
            exact sr_iret h dE_related_32 hc_12.1 hc_12.2 vc
          · replace vc := vc.2 c_19
            refine sr_iconst (v := 0) h dE_related_27 (by decide) ?_
            refine sr_goto (tgt := 32) h dE_related_28 (by decide) ?_
            exact sr_iret h dE_related_32 hc_12.1 hc_12.2 vc
        · replace vc := vc.2 c_20
          refine sr_iconst (v := 2) h dE_related_20 (by decide) ?_
          exact sr_iret h dE_related_21 hc_12.1 hc_12.2 vc
      · replace vc := vc'
        clear vc'
        exact st_out h (fun _ z => nomatch z) hc_12.1 hc_12.2 vc
    · replace vc := vc.2 c_22
      refine sr_iconst (v := 1) h dE_related_9 (by decide) ?_
      exact sr_iret h dE_related_10 hc_3.1 hc_3.2 vc
  · replace vc := vc'
    clear vc'
    exact st_out h (fun _ z => nomatch z) hc_3.1 hc_3.2 vc
theorem opE_related {l : Launch} {κ : sp_K} {mc ms : Nat} {Rt : Option Value → sp_M → Prop} {Xt : String → sp_M → Prop} {μ : sp_M} {a0 : Nat} {v1 : Int32} {v2 : Int32} (htr : l.stackTraces = false) (body : ∀ x : sp_X, x.2.1.stackTraces = false → cxE_related κ x mc ms → sp_w κ x (sp_F κ x Rt Xt mc ms) 0 0 0 [(0, .ref a0), (1, .int v1), (2, .int v2)] [] μ) : sp_m l κ yE_related wE_related 8 135 mc ms [.ref a0, .int v1, .int v2] μ Rt Xt :=
  sp_open htr (by decide +kernel) rfl (Nat.le_of_ble_eq_true rfl) (by intro v hv; simp only [List.mem_cons, List.not_mem_nil, or_false] at hv; rcases hv with rfl | rfl | rfl <;> first | rfl | exact sp_c1o _) (fun x hx h => body x (by rw [hx]; exact htr) h)

abbrev cxE_apart (κ : sp_K) (x : sp_X) (mc ms : Nat) : Prop := sp_C κ x cE_apart 7 RE (some .int) [] "apart" (sp_rm 7 111 mc ms)
set_option maxRecDepth 100000 in
set_option maxHeartbeats 4000000 in
theorem bkE_apart_0 {κ : sp_K} {x : sp_X} {mc ms : Nat} {Rt : Option Value → sp_M → Prop} {Xt : String → sp_M → Prop} {μ : sp_M} {k n : Nat} {a0 : Nat} {v1 : Int32} {v2 : Int32} (h : cxE_apart κ x mc ms) (hk : k ≤ mc ∧ n ≤ ms)
    (vc : (∃ mc_1 ms_2 : Nat, (k + mc_1 ≤ mc ∧ n + ms_2 ≤ ms) ∧ ∃ fs_6 : List Value, μ a0 = some (.inr (2, fs_6)) ∧ sp_m x.2.1 κ yE_spanOf wE_spanOf 6 90 mc_1 ms_2 [.ref a0, .int v1] μ (fun v_4 μ_5 => ∃ r_9 : Option Nat, v_4 = some (va_rf r_9) ∧ (∃ mc_10 ms_11 : Nat, ((k + mc_1) + mc_10 ≤ mc ∧ (n + ms_2) + ms_11 ≤ ms) ∧ ∃ fs_15 : List Value, μ_5 a0 = some (.inr (2, fs_15)) ∧ sp_m x.2.1 κ yE_spanOf wE_spanOf 6 90 mc_10 ms_11 [.ref a0, .int v2] μ_5 (fun v_13 μ_14 => ∃ r_18 : Option Nat, v_13 = some (va_rf r_18) ∧ sp_w κ x (sp_F κ x Rt Xt mc ms) (k + mc_1 + mc_10) (n + ms_2 + ms_11) 19 [(0, .ref a0), (1, .int v1), (2, .int v2), (3, va_rf r_9), (4, va_rf r_18), (5, .int 0), (6, .int 0)] [] μ_14) (fun E_19 μ_14 => Xt E_19 μ_14))) (fun E_20 μ_5 => Xt E_20 μ_5))) : sp_w κ x (sp_F κ x Rt Xt mc ms) k n 0 [(0, .ref a0), (1, .int v1), (2, .int v2)] [] μ := by
  refine sr_aload_n h dE_apart_0 rfl 0 rfl ?_
  refine sr_iload_n h dE_apart_1 rfl 1 rfl ?_
  obtain ⟨mc_1, ms_2, hc_3, vc⟩ := vc
  obtain ⟨fs_6, ho_7, vc⟩ := vc
  refine sr_callV (y := yE_spanOf) (n0 := 1) (As := [.int v1]) h (sp_gV kw_284 kw_286 kw_6 kw_34 kw_287) rfl (by decide +kernel) ⟨Nat.le_of_ble_eq_true rfl, Nat.le_of_ble_eq_true rfl⟩ (ci := 2) rfl dE_apart_2 rfl rfl (Nat.le_of_ble_eq_true rfl) hc_3 ho_7 vc (fun v_4 μ_5 vc' => ?_) (fun E_20 μ_5 vc' => ?_)
  · replace vc := vc'
    clear vc'
    obtain ⟨r_9, rfl, vc⟩ := vc
    refine sr_astoreO_n (lv' := [(0, .ref a0), (1, .int v1), (2, .int v2), (3, va_rf r_9)]) h dE_apart_5 rfl (by decide) rfl ?_
    refine sr_aload_n h dE_apart_6 rfl 0 rfl ?_
    refine sr_iload_n h dE_apart_7 rfl 2 rfl ?_
    obtain ⟨mc_10, ms_11, hc_12, vc⟩ := vc
    obtain ⟨fs_15, ho_16, vc⟩ := vc
    refine sr_callV (y := yE_spanOf) (n0 := 1) (As := [.int v2]) h (sp_gV kw_284 kw_286 kw_6 kw_34 kw_287) rfl (by decide +kernel) ⟨Nat.le_of_ble_eq_true rfl, Nat.le_of_ble_eq_true rfl⟩ (ci := 2) rfl dE_apart_8 rfl rfl (Nat.le_of_ble_eq_true rfl) hc_12 ho_16 vc (fun v_13 μ_14 vc' => ?_) (fun E_19 μ_14 vc' => ?_)
    · replace vc := vc'
      clear vc'
      obtain ⟨r_18, rfl, vc⟩ := vc
      refine sr_astoreO (lv' := [(0, .ref a0), (1, .int v1), (2, .int v2), (3, va_rf r_9), (4, va_rf r_18)]) h dE_apart_11 (by decide) rfl ?_
      refine sr_iconst (v := 0) h dE_apart_13 (by decide) ?_
      refine sr_istore (lv' := [(0, .ref a0), (1, .int v1), (2, .int v2), (3, va_rf r_9), (4, va_rf r_18), (5, .int 0)]) h dE_apart_14 (by decide) rfl ?_
      refine sr_iconst (v := 0) h dE_apart_16 (by decide) ?_
      refine sr_istore (lv' := [(0, .ref a0), (1, .int v1), (2, .int v2), (3, va_rf r_9), (4, va_rf r_18), (5, .int 0), (6, .int 0)]) h dE_apart_17 (by decide) rfl ?_
      exact vc
    · replace vc := vc'
      clear vc'
      exact st_out h (fun _ z => nomatch z) hc_12.1 hc_12.2 vc
  · replace vc := vc'
    clear vc'
    exact st_out h (fun _ z => nomatch z) hc_3.1 hc_3.2 vc
set_option maxRecDepth 100000 in
set_option maxHeartbeats 4000000 in
theorem bkE_apart_19 {κ : sp_K} {x : sp_X} {mc ms : Nat} {Rt : Option Value → sp_M → Prop} {Xt : String → sp_M → Prop} {μ : sp_M} {k n : Nat} {a0 : Nat} {v1 : Int32} {v2 : Int32} {r3 : Option Nat} {r4 : Option Nat} {v5 : Int32} {v6 : Int32} (h : cxE_apart κ x mc ms) (hk : k ≤ mc ∧ n ≤ ms)
    (vc : ((16 ≤ v6 → Rt (some (.int v5)) μ) ∧ (¬ 16 ≤ v6 → (∃ a_6 : Nat, r3 = some a_6 ∧ ∃ mc_1 ms_2 : Nat, (k + mc_1 ≤ mc ∧ n + ms_2 ≤ ms) ∧ ∃ fs_7 : List Value, μ a_6 = some (.inr (1, fs_7)) ∧ sp_m x.2.1 κ yS_seenAt wS_seenAt 1 21 mc_1 ms_2 [.ref a_6, .int v1, .int v6] μ (fun v_4 μ_5 => ∃ v_10 : Int32, v_4 = some (.int v_10) ∧ (∃ a_16 : Nat, r4 = some a_16 ∧ ∃ mc_11 ms_12 : Nat, ((k + mc_1) + mc_11 ≤ mc ∧ (n + ms_2) + ms_12 ≤ ms) ∧ ∃ fs_17 : List Value, μ_5 a_16 = some (.inr (1, fs_17)) ∧ sp_m x.2.1 κ yS_seenAt wS_seenAt 1 21 mc_11 ms_12 [.ref a_16, .int v2, .int v6] μ_5 (fun v_14 μ_15 => ∃ v_20 : Int32, v_14 = some (.int v_20) ∧ sp_w κ x (sp_F κ x Rt Xt mc ms) (k + mc_1 + mc_11) (n + ms_2 + ms_12) 19 [(0, .ref a0), (1, .int v1), (2, .int v2), (3, .ref a_6), (4, .ref a_16), (5, .int (v5 + (if 0 < (v_10 - v_20) then (v_10 - v_20) else 0))), (6, .int (v6 + 1))] [] μ_15) (fun E_21 μ_15 => Xt E_21 μ_15))) (fun E_22 μ_5 => Xt E_22 μ_5))))) : sp_w κ x (sp_F κ x Rt Xt mc ms) k n 19 [(0, .ref a0), (1, .int v1), (2, .int v2), (3, va_rf r3), (4, va_rf r4), (5, .int v5), (6, .int v6)] [] μ := by
  refine sr_iload h dE_apart_19 6 rfl ?_
  refine sr_bipush (v := 16) h dE_apart_21 (by decide) ?_
  refine sr_icmp_ge (tgt := 57) h dE_apart_23 (by decide) (fun c_23 => ?_) (fun c_23 => ?_)
  · replace vc := vc.1 c_23
    refine sr_iload h dE_apart_57 5 rfl ?_
    exact sr_iret h dE_apart_59 hk.1 hk.2 vc
  · replace vc := vc.2 c_23
    refine sr_iload h dE_apart_26 5 rfl ?_
    refine sr_iconst (v := 0) h dE_apart_28 (by decide) ?_
    refine sr_aloadO_n h dE_apart_29 rfl 3 rfl ?_
    refine sr_iload_n h dE_apart_30 rfl 1 rfl ?_
    refine sr_iload h dE_apart_31 6 rfl ?_
    obtain ⟨a_6, rfl, vc⟩ := vc
    obtain ⟨mc_1, ms_2, hc_3, vc⟩ := vc
    obtain ⟨fs_7, ho_8, vc⟩ := vc
    refine sr_callV (y := yS_seenAt) (n0 := 2) (As := [.int v1, .int v6]) h (sp_gV kw_288 kw_289 kw_290 kw_47 kw_291) rfl (by decide +kernel) ⟨Nat.le_of_ble_eq_true rfl, Nat.le_of_ble_eq_true rfl⟩ (ci := 1) rfl dE_apart_33 rfl rfl (Nat.le_of_ble_eq_true rfl) hc_3 ho_8 vc (fun v_4 μ_5 vc' => ?_) (fun E_22 μ_5 vc' => ?_)
    · replace vc := vc'
      clear vc'
      obtain ⟨v_10, rfl, vc⟩ := vc
      refine sr_aloadO h dE_apart_36 4 rfl ?_
      refine sr_iload_n h dE_apart_38 rfl 2 rfl ?_
      refine sr_iload h dE_apart_39 6 rfl ?_
      obtain ⟨a_16, rfl, vc⟩ := vc
      obtain ⟨mc_11, ms_12, hc_13, vc⟩ := vc
      obtain ⟨fs_17, ho_18, vc⟩ := vc
      refine sr_callV (y := yS_seenAt) (n0 := 2) (As := [.int v2, .int v6]) h (sp_gV kw_288 kw_289 kw_290 kw_47 kw_291) rfl (by decide +kernel) ⟨Nat.le_of_ble_eq_true rfl, Nat.le_of_ble_eq_true rfl⟩ (ci := 1) rfl dE_apart_41 rfl rfl (Nat.le_of_ble_eq_true rfl) hc_13 ho_18 vc (fun v_14 μ_15 vc' => ?_) (fun E_21 μ_15 vc' => ?_)
      · replace vc := vc'
        clear vc'
        obtain ⟨v_20, rfl, vc⟩ := vc
        refine sr_isub h dE_apart_44 ?_
        refine sr_mmax h kw_109 kw_110 kw_44 kw_mmax dE_apart_45 (Nat.le_of_ble_eq_true rfl) (Nat.le_of_ble_eq_true rfl) hc_13.1 hc_13.2 ?_
        refine sr_iadd h dE_apart_48 ?_
        refine sr_istore (lv' := [(0, .ref a0), (1, .int v1), (2, .int v2), (3, .ref a_6), (4, .ref a_16), (5, .int (v5 + (if 0 < (v_10 - v_20) then (v_10 - v_20) else 0))), (6, .int v6)]) h dE_apart_49 (by decide) rfl ?_
        refine sr_iinc (u := v6 + 1) (lv' := [(0, .ref a0), (1, .int v1), (2, .int v2), (3, .ref a_6), (4, .ref a_16), (5, .int (v5 + (if 0 < (v_10 - v_20) then (v_10 - v_20) else 0))), (6, .int (v6 + 1))]) h dE_apart_51 6 rfl rfl (by decide) rfl ?_
        refine sr_goto (tgt := 19) h dE_apart_54 (by decide) ?_
        exact vc
      · replace vc := vc'
        clear vc'
        exact st_out h (fun _ z => nomatch z) hc_13.1 hc_13.2 vc
    · replace vc := vc'
      clear vc'
      exact st_out h (fun _ z => nomatch z) hc_3.1 hc_3.2 vc
theorem opE_apart {l : Launch} {κ : sp_K} {mc ms : Nat} {Rt : Option Value → sp_M → Prop} {Xt : String → sp_M → Prop} {μ : sp_M} {a0 : Nat} {v1 : Int32} {v2 : Int32} (htr : l.stackTraces = false) (body : ∀ x : sp_X, x.2.1.stackTraces = false → cxE_apart κ x mc ms → sp_w κ x (sp_F κ x Rt Xt mc ms) 0 0 0 [(0, .ref a0), (1, .int v1), (2, .int v2)] [] μ) : sp_m l κ yE_apart wE_apart 7 111 mc ms [.ref a0, .int v1, .int v2] μ Rt Xt :=
  sp_open htr (by decide +kernel) rfl (Nat.le_of_ble_eq_true rfl) (by intro v hv; simp only [List.mem_cons, List.not_mem_nil, or_false] at hv; rcases hv with rfl | rfl | rfl <;> first | rfl | exact sp_c1o _) (fun x hx h => body x (by rw [hx]; exact htr) h)

abbrev cxE_latest (κ : sp_K) (x : sp_X) (mc ms : Nat) : Prop := sp_C κ x cE_latest 12 RE (some .int) [] "latest" (sp_rm 7 111 mc ms)
set_option maxRecDepth 100000 in
set_option maxHeartbeats 4000000 in
theorem bkE_latest_0 {κ : sp_K} {x : sp_X} {mc ms : Nat} {Rt : Option Value → sp_M → Prop} {Xt : String → sp_M → Prop} {μ : sp_M} {k n : Nat} {a0 : Nat} {v1 : Int32} {v2 : Int32} {v3 : Int32} (h : cxE_latest κ x mc ms) (hk : k ≤ mc ∧ n ≤ ms)
    (vc : (∃ mc_1 ms_2 : Nat, (k + mc_1 ≤ mc ∧ n + ms_2 ≤ ms) ∧ ∃ fs_6 : List Value, μ a0 = some (.inr (2, fs_6)) ∧ sp_m x.2.1 κ yE_spanOf wE_spanOf 6 90 mc_1 ms_2 [.ref a0, .int v1] μ (fun v_4 μ_5 => ∃ r_9 : Option Nat, v_4 = some (va_rf r_9) ∧ (∃ mc_10 ms_11 : Nat, ((k + mc_1) + mc_10 ≤ mc ∧ (n + ms_2) + ms_11 ≤ ms) ∧ ∃ fs_15 : List Value, μ_5 a0 = some (.inr (2, fs_15)) ∧ sp_m x.2.1 κ yE_spanOf wE_spanOf 6 90 mc_10 ms_11 [.ref a0, .int v2] μ_5 (fun v_13 μ_14 => ∃ r_18 : Option Nat, v_13 = some (va_rf r_18) ∧ (∃ mc_19 ms_20 : Nat, ((k + mc_1 + mc_10) + mc_19 ≤ mc ∧ (n + ms_2 + ms_11) + ms_20 ≤ ms) ∧ sp_m x.2.1 κ yE_highestBelow wE_highestBelow 1 22 mc_19 ms_20 [.int v3] μ_14 (fun v_22 μ_23 => ∃ v_25 : Int32, v_22 = some (.int v_25) ∧ (∃ fs_26 : List Value, μ_23 a0 = some (.inr (2, fs_26)) ∧ ∃ r_28 : Option Nat, fs_26[4]? = some (va_rf r_28) ∧ sp_w κ x (sp_F κ x Rt Xt mc ms) (k + mc_1 + mc_10 + mc_19) (n + ms_2 + ms_11 + ms_20) 26 [(0, .ref a0), (1, .int v1), (2, .int v2), (3, .int v3), (4, va_rf r_9), (5, va_rf r_18), (6, .int v_25), (7, va_rf r_28)] [] μ_23)) (fun E_30 μ_23 => Xt E_30 μ_23))) (fun E_31 μ_14 => Xt E_31 μ_14))) (fun E_32 μ_5 => Xt E_32 μ_5))) : sp_w κ x (sp_F κ x Rt Xt mc ms) k n 0 [(0, .ref a0), (1, .int v1), (2, .int v2), (3, .int v3)] [] μ := by
  refine sr_aload_n h dE_latest_0 rfl 0 rfl ?_
  refine sr_iload_n h dE_latest_1 rfl 1 rfl ?_
  obtain ⟨mc_1, ms_2, hc_3, vc⟩ := vc
  obtain ⟨fs_6, ho_7, vc⟩ := vc
  refine sr_callV (y := yE_spanOf) (n0 := 1) (As := [.int v1]) h (sp_gV kw_284 kw_286 kw_6 kw_34 kw_287) rfl (by decide +kernel) ⟨Nat.le_of_ble_eq_true rfl, Nat.le_of_ble_eq_true rfl⟩ (ci := 2) rfl dE_latest_2 rfl rfl (Nat.le_of_ble_eq_true rfl) hc_3 ho_7 vc (fun v_4 μ_5 vc' => ?_) (fun E_32 μ_5 vc' => ?_)
  · replace vc := vc'
    clear vc'
    obtain ⟨r_9, rfl, vc⟩ := vc
    refine sr_astoreO (lv' := [(0, .ref a0), (1, .int v1), (2, .int v2), (3, .int v3), (4, va_rf r_9)]) h dE_latest_5 (by decide) rfl ?_
    refine sr_aload_n h dE_latest_7 rfl 0 rfl ?_
    refine sr_iload_n h dE_latest_8 rfl 2 rfl ?_
    obtain ⟨mc_10, ms_11, hc_12, vc⟩ := vc
    obtain ⟨fs_15, ho_16, vc⟩ := vc
    refine sr_callV (y := yE_spanOf) (n0 := 1) (As := [.int v2]) h (sp_gV kw_284 kw_286 kw_6 kw_34 kw_287) rfl (by decide +kernel) ⟨Nat.le_of_ble_eq_true rfl, Nat.le_of_ble_eq_true rfl⟩ (ci := 2) rfl dE_latest_9 rfl rfl (Nat.le_of_ble_eq_true rfl) hc_12 ho_16 vc (fun v_13 μ_14 vc' => ?_) (fun E_31 μ_14 vc' => ?_)
    · replace vc := vc'
      clear vc'
      obtain ⟨r_18, rfl, vc⟩ := vc
      refine sr_astoreO (lv' := [(0, .ref a0), (1, .int v1), (2, .int v2), (3, .int v3), (4, va_rf r_9), (5, va_rf r_18)]) h dE_latest_12 (by decide) rfl ?_
      refine sr_iload_n h dE_latest_14 rfl 3 rfl ?_
      obtain ⟨mc_19, ms_20, hc_21, vc⟩ := vc
      refine sr_callS (y := yE_highestBelow) (n0 := 1) (As := [.int v3]) (st := []) h (sp_gS kw_106 kw_107 kw_34 kw_108) rfl (by decide +kernel) ⟨Nat.le_of_ble_eq_true rfl, Nat.le_of_ble_eq_true rfl⟩ dE_latest_15 rfl rfl (Nat.le_of_ble_eq_true rfl) hc_21 vc (fun v_22 μ_23 vc' => ?_) (fun E_30 μ_23 vc' => ?_)
      · replace vc := vc'
        clear vc'
        obtain ⟨v_25, rfl, vc⟩ := vc
        refine sr_istore (lv' := [(0, .ref a0), (1, .int v1), (2, .int v2), (3, .int v3), (4, va_rf r_9), (5, va_rf r_18), (6, .int v_25)]) h dE_latest_18 (by decide) rfl ?_
        refine sr_aload_n h dE_latest_20 rfl 0 rfl ?_
        obtain ⟨fs_26, ho_27, vc⟩ := vc
        obtain ⟨r_28, hv_29, vc⟩ := vc
        refine sr_get h inE rfl 4 (by decide) kw_64 dE_latest_21 ho_27 hv_29 ?_
        refine sr_astoreO (lv' := [(0, .ref a0), (1, .int v1), (2, .int v2), (3, .int v3), (4, va_rf r_9), (5, va_rf r_18), (6, .int v_25), (7, va_rf r_28)]) h dE_latest_24 (by decide) rfl ?_
        exact vc
      · replace vc := vc'
        clear vc'
        exact st_out h (fun _ z => nomatch z) hc_21.1 hc_21.2 vc
    · replace vc := vc'
      clear vc'
      exact st_out h (fun _ z => nomatch z) hc_12.1 hc_12.2 vc
  · replace vc := vc'
    clear vc'
    exact st_out h (fun _ z => nomatch z) hc_3.1 hc_3.2 vc
set_option maxRecDepth 100000 in
set_option maxHeartbeats 4000000 in
theorem bkE_latest_26 {κ : sp_K} {x : sp_X} {mc ms : Nat} {Rt : Option Value → sp_M → Prop} {Xt : String → sp_M → Prop} {μ : sp_M} {k n : Nat} {a0 : Nat} {v1 : Int32} {v2 : Int32} {v3 : Int32} {r4 : Option Nat} {r5 : Option Nat} {v6 : Int32} {r7 : Option Nat} (h : cxE_latest κ x mc ms) (hk : k ≤ mc ∧ n ≤ ms)
    (vc : ((r7 = none → Rt (some (.int (-1))) μ) ∧ (∀ a_1 : Nat, r7 = some a_1 → (∃ fs_2 : List Value, μ a_1 = some (.inr (1, fs_2)) ∧ ∃ r_4 : Option Nat, fs_2[0]? = some (va_rf r_4) ∧ (∃ a_6 : Nat, r_4 = some a_6 ∧ ∃ fs_7 : List Value, μ a_6 = some (.inr (0, fs_7)) ∧ ∃ v_9 : Int32, fs_7[1]? = some (.int v_9) ∧ (∃ a_16 : Nat, r4 = some a_16 ∧ ∃ mc_11 ms_12 : Nat, (k + mc_11 ≤ mc ∧ n + ms_12 ≤ ms) ∧ ∃ fs_17 : List Value, μ a_16 = some (.inr (1, fs_17)) ∧ sp_m x.2.1 κ yS_seenAt wS_seenAt 1 21 mc_11 ms_12 [.ref a_16, .int v1, .int v_9] μ (fun v_14 μ_15 => ∃ v_20 : Int32, v_14 = some (.int v_20) ∧ (∃ mc_21 ms_22 : Nat, ((k + mc_11) + mc_21 ≤ mc ∧ (n + ms_12) + ms_22 ≤ ms) ∧ ∃ fs_26 : List Value, μ_15 a_1 = some (.inr (1, fs_26)) ∧ sp_m x.2.1 κ yS_placeOfNumber wS_placeOfNumber 0 0 mc_21 ms_22 [.ref a_1, .int (v_20 - 1)] μ_15 (fun v_24 μ_25 => ∃ v_29 : Int32, v_24 = some (.int v_29) ∧ (∃ a_35 : Nat, r5 = some a_35 ∧ ∃ mc_30 ms_31 : Nat, ((k + mc_11 + mc_21) + mc_30 ≤ mc ∧ (n + ms_12 + ms_22) + ms_31 ≤ ms) ∧ ∃ fs_36 : List Value, μ_25 a_35 = some (.inr (1, fs_36)) ∧ sp_m x.2.1 κ yS_seenAt wS_seenAt 1 21 mc_30 ms_31 [.ref a_35, .int v2, .int v_9] μ_25 (fun v_33 μ_34 => ∃ v_39 : Int32, v_33 = some (.int v_39) ∧ (∃ mc_40 ms_41 : Nat, ((k + mc_11 + mc_21 + mc_30) + mc_40 ≤ mc ∧ (n + ms_12 + ms_22 + ms_31) + ms_41 ≤ ms) ∧ ∃ fs_45 : List Value, μ_34 a_1 = some (.inr (1, fs_45)) ∧ sp_m x.2.1 κ yS_placeOfNumber wS_placeOfNumber 0 0 mc_40 ms_41 [.ref a_1, .int v_39] μ_34 (fun v_43 μ_44 => ∃ v_48 : Int32, v_43 = some (.int v_48) ∧ (∃ fs_49 : List Value, μ_44 a_1 = some (.inr (1, fs_49)) ∧ ∃ v_51 : Int32, fs_49[2]? = some (.int v_51) ∧ (∃ v_53 : Int32, fs_49[1]? = some (.int v_53) ∧ (((if (if v_29 < v_51 then v_29 else v_51) < v6 then (if v_29 < v_51 then v_29 else v_51) else v6) < (if v_53 < v_48 then v_48 else v_53) → (∃ r_55 : Option Nat, fs_49[7]? = some (va_rf r_55) ∧ sp_w κ x (sp_F κ x Rt Xt mc ms) (k + mc_11 + mc_21 + mc_30 + mc_40) (n + ms_12 + ms_22 + ms_31 + ms_41) 26 [(0, .ref a0), (1, .int v1), (2, .int v2), (3, .int v3), (4, .ref a_16), (5, .ref a_35), (6, .int v6), (7, va_rf r_55)] [] μ_44)) ∧ (¬ (if (if v_29 < v_51 then v_29 else v_51) < v6 then (if v_29 < v_51 then v_29 else v_51) else v6) < (if v_53 < v_48 then v_48 else v_53) → Rt (some (.int (if (if v_29 < v_51 then v_29 else v_51) < v6 then (if v_29 < v_51 then v_29 else v_51) else v6))) μ_44))))) (fun E_58 μ_44 => Xt E_58 μ_44))) (fun E_59 μ_34 => Xt E_59 μ_34))) (fun E_60 μ_25 => Xt E_60 μ_25))) (fun E_61 μ_15 => Xt E_61 μ_15))))))) : sp_w κ x (sp_F κ x Rt Xt mc ms) k n 26 [(0, .ref a0), (1, .int v1), (2, .int v2), (3, .int v3), (4, va_rf r4), (5, va_rf r5), (6, .int v6), (7, va_rf r7)] [] μ := by
  refine sr_aloadO h dE_latest_26 7 rfl ?_
  rcases r7 with _ | a_1
  · replace vc := vc.1 rfl
    refine sr_ifnull_n (tgt := 118) h dE_latest_28 (by decide) ?_
    refine sr_iconst (v := -1) h dE_latest_118 (by decide) ?_
    exact sr_iret h dE_latest_119 hk.1 hk.2 vc
  · replace vc := vc.2 a_1 rfl
    refine sr_ifnull_s h dE_latest_28 ?_
    refine sr_aload h dE_latest_31 7 rfl ?_
    obtain ⟨fs_2, ho_3, vc⟩ := vc
    obtain ⟨r_4, hv_5, vc⟩ := vc
    refine sr_get h inS rfl 0 (by decide) kw_355 dE_latest_33 ho_3 hv_5 ?_
    obtain ⟨a_6, rfl, vc⟩ := vc
    obtain ⟨fs_7, ho_8, vc⟩ := vc
    obtain ⟨v_9, hv_10, vc⟩ := vc
    refine sr_get h inA rfl 1 (by decide) kw_317 dE_latest_36 ho_8 hv_10 ?_
    refine sr_istore (lv' := [(0, .ref a0), (1, .int v1), (2, .int v2), (3, .int v3), (4, va_rf r4), (5, va_rf r5), (6, .int v6), (7, .ref a_1), (8, .int v_9)]) h dE_latest_39 (by decide) rfl ?_
    refine sr_aload h dE_latest_41 7 rfl ?_
    refine sr_aloadO h dE_latest_43 4 rfl ?_
    refine sr_iload_n h dE_latest_45 rfl 1 rfl ?_
    refine sr_iload h dE_latest_46 8 rfl ?_
    obtain ⟨a_16, rfl, vc⟩ := vc
    obtain ⟨mc_11, ms_12, hc_13, vc⟩ := vc
    obtain ⟨fs_17, ho_18, vc⟩ := vc
    refine sr_callV (y := yS_seenAt) (n0 := 2) (As := [.int v1, .int v_9]) h (sp_gV kw_288 kw_289 kw_290 kw_47 kw_291) rfl (by decide +kernel) ⟨Nat.le_of_ble_eq_true rfl, Nat.le_of_ble_eq_true rfl⟩ (ci := 1) rfl dE_latest_48 rfl rfl (Nat.le_of_ble_eq_true rfl) hc_13 ho_18 vc (fun v_14 μ_15 vc' => ?_) (fun E_61 μ_15 vc' => ?_)
    · replace vc := vc'
      clear vc'
      obtain ⟨v_20, rfl, vc⟩ := vc
      refine sr_iconst (v := 1) h dE_latest_51 (by decide) ?_
      refine sr_isub h dE_latest_52 ?_
      obtain ⟨mc_21, ms_22, hc_23, vc⟩ := vc
      obtain ⟨fs_26, ho_27, vc⟩ := vc
      refine sr_callV (y := yS_placeOfNumber) (n0 := 1) (As := [.int (v_20 - 1)]) h (sp_gV kw_201 kw_202 kw_203 kw_47 kw_204) rfl (by decide +kernel) ⟨Nat.le_of_ble_eq_true rfl, Nat.le_of_ble_eq_true rfl⟩ (ci := 1) rfl dE_latest_53 rfl rfl (Nat.le_of_ble_eq_true rfl) hc_23 ho_27 vc (fun v_24 μ_25 vc' => ?_) (fun E_60 μ_25 vc' => ?_)
      · replace vc := vc'
        clear vc'
        obtain ⟨v_29, rfl, vc⟩ := vc
        refine sr_istore (lv' := [(0, .ref a0), (1, .int v1), (2, .int v2), (3, .int v3), (4, .ref a_16), (5, va_rf r5), (6, .int v6), (7, .ref a_1), (8, .int v_9), (9, .int v_29)]) h dE_latest_56 (by decide) rfl ?_
        refine sr_aload h dE_latest_58 7 rfl ?_
        refine sr_aloadO h dE_latest_60 5 rfl ?_
        refine sr_iload_n h dE_latest_62 rfl 2 rfl ?_
        refine sr_iload h dE_latest_63 8 rfl ?_
        obtain ⟨a_35, rfl, vc⟩ := vc
        obtain ⟨mc_30, ms_31, hc_32, vc⟩ := vc
        obtain ⟨fs_36, ho_37, vc⟩ := vc
        refine sr_callV (y := yS_seenAt) (n0 := 2) (As := [.int v2, .int v_9]) h (sp_gV kw_288 kw_289 kw_290 kw_47 kw_291) rfl (by decide +kernel) ⟨Nat.le_of_ble_eq_true rfl, Nat.le_of_ble_eq_true rfl⟩ (ci := 1) rfl dE_latest_65 rfl rfl (Nat.le_of_ble_eq_true rfl) hc_32 ho_37 vc (fun v_33 μ_34 vc' => ?_) (fun E_59 μ_34 vc' => ?_)
        · replace vc := vc'
          clear vc'
          obtain ⟨v_39, rfl, vc⟩ := vc
          obtain ⟨mc_40, ms_41, hc_42, vc⟩ := vc
          obtain ⟨fs_45, ho_46, vc⟩ := vc
          refine sr_callV (y := yS_placeOfNumber) (n0 := 1) (As := [.int v_39]) h (sp_gV kw_201 kw_202 kw_203 kw_47 kw_204) rfl (by decide +kernel) ⟨Nat.le_of_ble_eq_true rfl, Nat.le_of_ble_eq_true rfl⟩ (ci := 1) rfl dE_latest_68 rfl rfl (Nat.le_of_ble_eq_true rfl) hc_42 ho_46 vc (fun v_43 μ_44 vc' => ?_) (fun E_58 μ_44 vc' => ?_)
          · replace vc := vc'
            clear vc'
            obtain ⟨v_48, rfl, vc⟩ := vc
            refine sr_istore (lv' := [(0, .ref a0), (1, .int v1), (2, .int v2), (3, .int v3), (4, .ref a_16), (5, .ref a_35), (6, .int v6), (7, .ref a_1), (8, .int v_9), (9, .int v_29), (10, .int v_48)]) h dE_latest_71 (by decide) rfl ?_
            refine sr_iload h dE_latest_73 6 rfl ?_
            refine sr_aload h dE_latest_75 7 rfl ?_
            obtain ⟨fs_49, ho_50, vc⟩ := vc
            obtain ⟨v_51, hv_52, vc⟩ := vc
            refine sr_get h inS rfl 2 (by decide) kw_359 dE_latest_77 ho_50 hv_52 ?_
            refine sr_iload h dE_latest_80 9 rfl ?_
            refine sr_mmin h kw_95 kw_96 kw_44 kw_mmin dE_latest_82 (Nat.le_of_ble_eq_true rfl) (Nat.le_of_ble_eq_true rfl) hc_42.1 hc_42.2 ?_
            refine sr_mmin h kw_95 kw_96 kw_44 kw_mmin dE_latest_85 (Nat.le_of_ble_eq_true rfl) (Nat.le_of_ble_eq_true rfl) hc_42.1 hc_42.2 ?_
            refine sr_istore (lv' := [(0, .ref a0), (1, .int v1), (2, .int v2), (3, .int v3), (4, .ref a_16), (5, .ref a_35), (6, .int v6), (7, .ref a_1), (8, .int v_9), (9, .int v_29), (10, .int v_48), (11, .int (if (if v_29 < v_51 then v_29 else v_51) < v6 then (if v_29 < v_51 then v_29 else v_51) else v6))]) h dE_latest_88 (by decide) rfl ?_
            refine sr_iload h dE_latest_90 11 rfl ?_
            refine sr_aload h dE_latest_92 7 rfl ?_
            obtain ⟨v_53, hv_54, vc⟩ := vc
            refine sr_get h inS rfl 1 (by decide) kw_357 dE_latest_94 ho_50 hv_54 ?_
            refine sr_iload h dE_latest_97 10 rfl ?_
            refine sr_mmax h kw_109 kw_110 kw_44 kw_mmax dE_latest_99 (Nat.le_of_ble_eq_true rfl) (Nat.le_of_ble_eq_true rfl) hc_42.1 hc_42.2 ?_
            refine sr_icmp_lt (tgt := 108) h dE_latest_102 (by decide) (fun c_57 => ?_) (fun c_57 => ?_)
            · replace vc := vc.1 c_57
              refine sr_aload h dE_latest_108 7 rfl ?_
              obtain ⟨r_55, hv_56, vc⟩ := vc
              refine sr_get h inS rfl 7 (by decide) kw_367 dE_latest_110 ho_50 hv_56 ?_
              refine sr_astoreO (lv' := [(0, .ref a0), (1, .int v1), (2, .int v2), (3, .int v3), (4, .ref a_16), (5, .ref a_35), (6, .int v6), (7, va_rf r_55), (8, .int v_9), (9, .int v_29), (10, .int v_48), (11, .int (if (if v_29 < v_51 then v_29 else v_51) < v6 then (if v_29 < v_51 then v_29 else v_51) else v6))]) h dE_latest_113 (by decide) rfl ?_
              refine sr_goto (tgt := 26) h dE_latest_115 (by decide) ?_
              exact sr_sub (lv' := [(0, .ref a0), (1, .int v1), (2, .int v2), (3, .int v3), (4, .ref a_16), (5, .ref a_35), (6, .int v6), (7, va_rf r_55)]) [0, 1, 2, 3, 4, 5, 6, 7] rfl vc
            · replace vc := vc.2 c_57
              refine sr_iload h dE_latest_105 11 rfl ?_
              exact sr_iret h dE_latest_107 hc_42.1 hc_42.2 vc
          · replace vc := vc'
            clear vc'
            exact st_out h (fun _ z => nomatch z) hc_42.1 hc_42.2 vc
        · replace vc := vc'
          clear vc'
          exact st_out h (fun _ z => nomatch z) hc_32.1 hc_32.2 vc
      · replace vc := vc'
        clear vc'
        exact st_out h (fun _ z => nomatch z) hc_23.1 hc_23.2 vc
    · replace vc := vc'
      clear vc'
      exact st_out h (fun _ z => nomatch z) hc_13.1 hc_13.2 vc
theorem opE_latest {l : Launch} {κ : sp_K} {mc ms : Nat} {Rt : Option Value → sp_M → Prop} {Xt : String → sp_M → Prop} {μ : sp_M} {a0 : Nat} {v1 : Int32} {v2 : Int32} {v3 : Int32} (htr : l.stackTraces = false) (body : ∀ x : sp_X, x.2.1.stackTraces = false → cxE_latest κ x mc ms → sp_w κ x (sp_F κ x Rt Xt mc ms) 0 0 0 [(0, .ref a0), (1, .int v1), (2, .int v2), (3, .int v3)] [] μ) : sp_m l κ yE_latest wE_latest 7 111 mc ms [.ref a0, .int v1, .int v2, .int v3] μ Rt Xt :=
  sp_open htr (by decide +kernel) rfl (Nat.le_of_ble_eq_true rfl) (by intro v hv; simp only [List.mem_cons, List.not_mem_nil, or_false] at hv; rcases hv with rfl | rfl | rfl | rfl <;> first | rfl | exact sp_c1o _) (fun x hx h => body x (by rw [hx]; exact htr) h)

abbrev cxE_head (κ : sp_K) (x : sp_X) (mc ms : Nat) : Prop := sp_C κ x cE_head 7 RE (some .int) [] "head" (sp_rm 6 90 mc ms)
set_option maxRecDepth 100000 in
set_option maxHeartbeats 4000000 in
theorem bkE_head_0 {κ : sp_K} {x : sp_X} {mc ms : Nat} {Rt : Option Value → sp_M → Prop} {Xt : String → sp_M → Prop} {μ : sp_M} {k n : Nat} {a0 : Nat} {v1 : Int32} (h : cxE_head κ x mc ms) (hk : k ≤ mc ∧ n ≤ ms)
    (vc : (∃ fs_1 : List Value, μ a0 = some (.inr (2, fs_1)) ∧ ∃ r_3 : Option Nat, fs_1[0]? = some (va_rf r_3) ∧ (∃ a_5 : Nat, r_3 = some a_5 ∧ ∃ (N_6 : Nat) (f_7 : Nat → Option Nat), μ a_5 = some (sp_ra κ 3 N_6 f_7) ∧ sp_w κ x (sp_F κ x Rt Xt mc ms) k n 14 [(0, .ref a0), (1, .int v1), (2, .int 0), (3, .ref a_5), (4, .int (nI N_6)), (5, .int 0)] [] μ))) : sp_w κ x (sp_F κ x Rt Xt mc ms) k n 0 [(0, .ref a0), (1, .int v1)] [] μ := by
  refine sr_iconst (v := 0) h dE_head_0 (by decide) ?_
  refine sr_istore_n (lv' := [(0, .ref a0), (1, .int v1), (2, .int 0)]) h dE_head_1 rfl (by decide) rfl ?_
  refine sr_aload_n h dE_head_2 rfl 0 rfl ?_
  obtain ⟨fs_1, ho_2, vc⟩ := vc
  obtain ⟨r_3, hv_4, vc⟩ := vc
  refine sr_get h inE rfl 0 (by decide) kw_60 dE_head_3 ho_2 hv_4 ?_
  refine sr_astoreO_n (lv' := [(0, .ref a0), (1, .int v1), (2, .int 0), (3, va_rf r_3)]) h dE_head_6 rfl (by decide) rfl ?_
  refine sr_aloadO_n h dE_head_7 rfl 3 rfl ?_
  obtain ⟨a_5, rfl, vc⟩ := vc
  obtain ⟨N_6, f_7, ho_8, vc⟩ := vc
  refine sr_alen (t := 3) h dE_head_8 ho_8 rfl ?_
  refine sr_istore (lv' := [(0, .ref a0), (1, .int v1), (2, .int 0), (3, .ref a_5), (4, .int (nI N_6))]) h dE_head_9 (by decide) rfl ?_
  refine sr_iconst (v := 0) h dE_head_11 (by decide) ?_
  refine sr_istore (lv' := [(0, .ref a0), (1, .int v1), (2, .int 0), (3, .ref a_5), (4, .int (nI N_6)), (5, .int 0)]) h dE_head_12 (by decide) rfl ?_
  exact vc
set_option maxRecDepth 100000 in
set_option maxHeartbeats 4000000 in
theorem bkE_head_14 {κ : sp_K} {x : sp_X} {mc ms : Nat} {Rt : Option Value → sp_M → Prop} {Xt : String → sp_M → Prop} {μ : sp_M} {k n : Nat} {a0 : Nat} {v1 : Int32} {v2 : Int32} {a3 : Nat} {v4 : Int32} {v5 : Int32} (h : cxE_head κ x mc ms) (hk : k ≤ mc ∧ n ≤ ms)
    (vc : ((v4 ≤ v5 → ((k + 1 ≤ mc ∧ n + 6 ≤ ms) ∧ Xt "java/util/NoSuchElementException" μ)) ∧ (¬ v4 ≤ v5 → (∃ (N_2 : Nat) (f_3 : Nat → Option Nat), μ a3 = some (sp_ra κ 3 N_2 f_3) ∧ ∃ j_5 : Nat, v5 = nI j_5 ∧ j_5 < N_2 ∧ ∃ r_8 : Option Nat, f_3 j_5 = r_8 ∧ ((r_8 = none → sp_w κ x (sp_F κ x Rt Xt mc ms) k n 14 [(0, .ref a0), (1, .int v1), (2, .int v2), (3, .ref a3), (4, .int v4), (5, .int (v5 + 1))] [] μ) ∧ (∀ a_10 : Nat, r_8 = some a_10 → (∃ fs_11 : List Value, μ a_10 = some (.inr (0, fs_11)) ∧ ∃ v_13 : Int32, fs_11[4]? = some (.int v_13) ∧ ((v_13 = 0 → sp_w κ x (sp_F κ x Rt Xt mc ms) k n 14 [(0, .ref a0), (1, .int v1), (2, .int v2), (3, .ref a3), (4, .int v4), (5, .int (v5 + 1))] [] μ) ∧ (¬ v_13 = 0 → ((¬ v2 = v1 → sp_w κ x (sp_F κ x Rt Xt mc ms) k n 14 [(0, .ref a0), (1, .int v1), (2, .int (v2 + 1)), (3, .ref a3), (4, .int v4), (5, .int (v5 + 1))] [] μ) ∧ (v2 = v1 → (∃ v_15 : Int32, fs_11[3]? = some (.int v_15) ∧ Rt (some (.int v_15)) μ)))))))))))) : sp_w κ x (sp_F κ x Rt Xt mc ms) k n 14 [(0, .ref a0), (1, .int v1), (2, .int v2), (3, .ref a3), (4, .int v4), (5, .int v5)] [] μ := by
  refine sr_iload h dE_head_14 5 rfl ?_
  refine sr_iload h dE_head_16 4 rfl ?_
  refine sr_icmp_ge (tgt := 60) h dE_head_18 (by decide) (fun c_19 => ?_) (fun c_19 => ?_)
  · replace vc := vc.1 c_19
    obtain ⟨hc_1, vc⟩ := vc
    exact sr_throw0 (names := ["java/lang/RuntimeException", "java/lang/Exception"]) h (by decide +kernel) (by decide +kernel) kw_129 kw_39 ka_E_123 kg_E_123 dE_head_60 dE_head_63 dE_head_64 dE_head_67 (fun _ z => nomatch z) (Nat.le_of_ble_eq_true rfl) (Nat.le_of_ble_eq_true rfl) hc_1.1 hc_1.2 hc_1.1 hc_1.2 vc
  · replace vc := vc.2 c_19
    refine sr_aload_n h dE_head_21 rfl 3 rfl ?_
    refine sr_iload h dE_head_22 5 rfl ?_
    obtain ⟨N_2, f_3, ho_4, vc⟩ := vc
    obtain ⟨j_5, hi_6, hj_7, vc⟩ := vc
    obtain ⟨r_8, hr_9, vc⟩ := vc
    refine sr_aald h dE_head_24 rfl ho_4 hi_6 hj_7 hr_9 ?_
    refine sr_astoreO (lv' := [(0, .ref a0), (1, .int v1), (2, .int v2), (3, .ref a3), (4, .int v4), (5, .int v5), (6, va_rf r_8)]) h dE_head_25 (by decide) rfl ?_
    refine sr_aloadO h dE_head_27 6 rfl ?_
    rcases r_8 with _ | a_10
    · replace vc := vc.1 rfl
      refine sr_ifnull_n (tgt := 54) h dE_head_29 (by decide) ?_
      refine sr_iinc (u := v5 + 1) (lv' := [(0, .ref a0), (1, .int v1), (2, .int v2), (3, .ref a3), (4, .int v4), (5, .int (v5 + 1)), (6, .null)]) h dE_head_54 5 rfl rfl (by decide) rfl ?_
      refine sr_goto (tgt := 14) h dE_head_57 (by decide) ?_
      exact sr_sub (lv' := [(0, .ref a0), (1, .int v1), (2, .int v2), (3, .ref a3), (4, .int v4), (5, .int (v5 + 1))]) [0, 1, 2, 3, 4, 5] rfl vc
    · replace vc := vc.2 a_10 rfl
      refine sr_ifnull_s h dE_head_29 ?_
      refine sr_aload h dE_head_32 6 rfl ?_
      obtain ⟨fs_11, ho_12, vc⟩ := vc
      obtain ⟨v_13, hv_14, vc⟩ := vc
      refine sr_get h inA rfl 4 (by decide) kw_325 dE_head_34 ho_12 hv_14 ?_
      refine sr_if_eq (tgt := 54) h dE_head_37 (by decide) (fun c_18 => ?_) (fun c_18 => ?_)
      · replace vc := vc.1 c_18
        refine sr_iinc (u := v5 + 1) (lv' := [(0, .ref a0), (1, .int v1), (2, .int v2), (3, .ref a3), (4, .int v4), (5, .int (v5 + 1)), (6, .ref a_10)]) h dE_head_54 5 rfl rfl (by decide) rfl ?_
        refine sr_goto (tgt := 14) h dE_head_57 (by decide) ?_
        exact sr_sub (lv' := [(0, .ref a0), (1, .int v1), (2, .int v2), (3, .ref a3), (4, .int v4), (5, .int (v5 + 1))]) [0, 1, 2, 3, 4, 5] rfl vc
      · replace vc := vc.2 c_18
        refine sr_iload_n h dE_head_40 rfl 2 rfl ?_
        refine sr_iload_n h dE_head_41 rfl 1 rfl ?_
        refine sr_icmp_ne (tgt := 51) h dE_head_42 (by decide) (fun c_17 => ?_) (fun c_17 => ?_)
        · replace vc := vc.1 c_17
          refine sr_iinc (u := v2 + 1) (lv' := [(0, .ref a0), (1, .int v1), (2, .int (v2 + 1)), (3, .ref a3), (4, .int v4), (5, .int v5), (6, .ref a_10)]) h dE_head_51 2 rfl rfl (by decide) rfl ?_
          refine sr_iinc (u := v5 + 1) (lv' := [(0, .ref a0), (1, .int v1), (2, .int (v2 + 1)), (3, .ref a3), (4, .int v4), (5, .int (v5 + 1)), (6, .ref a_10)]) h dE_head_54 5 rfl rfl (by decide) rfl ?_
          refine sr_goto (tgt := 14) h dE_head_57 (by decide) ?_
          exact sr_sub (lv' := [(0, .ref a0), (1, .int v1), (2, .int (v2 + 1)), (3, .ref a3), (4, .int v4), (5, .int (v5 + 1))]) [0, 1, 2, 3, 4, 5] rfl vc
        · replace vc := vc.2 c_17
          refine sr_aload h dE_head_45 6 rfl ?_
          obtain ⟨v_15, hv_16, vc⟩ := vc
          refine sr_get h inA rfl 3 (by decide) kw_323 dE_head_47 ho_12 hv_16 ?_
          exact sr_iret h dE_head_50 hk.1 hk.2 vc
theorem opE_head {l : Launch} {κ : sp_K} {mc ms : Nat} {Rt : Option Value → sp_M → Prop} {Xt : String → sp_M → Prop} {μ : sp_M} {a0 : Nat} {v1 : Int32} (htr : l.stackTraces = false) (body : ∀ x : sp_X, x.2.1.stackTraces = false → cxE_head κ x mc ms → sp_w κ x (sp_F κ x Rt Xt mc ms) 0 0 0 [(0, .ref a0), (1, .int v1)] [] μ) : sp_m l κ yE_head wE_head 6 90 mc ms [.ref a0, .int v1] μ Rt Xt :=
  sp_open htr (by decide +kernel) rfl (Nat.le_of_ble_eq_true rfl) (by intro v hv; simp only [List.mem_cons, List.not_mem_nil, or_false] at hv; rcases hv with rfl | rfl <;> first | rfl | exact sp_c1o _) (fun x hx h => body x (by rw [hx]; exact htr) h)
