abbrev cxS_newestParent (κ : sp_K) (x : sp_X) (mc ms : Nat) : Prop := sp_C κ x cS_newestParent 1 RS (some .int) [] "newestParent" (sp_rm 0 0 mc ms)
set_option maxRecDepth 100000 in
set_option maxHeartbeats 4000000 in
theorem bkS_newestParent_0 {κ : sp_K} {x : sp_X} {mc ms : Nat} {Rt : Option Value → sp_M → Prop} {Xt : String → sp_M → Prop} {μ : sp_M} {k n : Nat} {a0 : Nat} (h : cxS_newestParent κ x mc ms) (hk : k ≤ mc ∧ n ≤ ms)
    (vc : (∃ fs1 : List Value, μ a0 = some (.inr (1, fs1)) ∧ ∃ r3 : Option Nat, fs1[4]? = some (va_rf r3) ∧ (∃ a5 : Nat, r3 = some a5 ∧ ∃ (N6 : Nat) (f7 : Nat → Int32), μ a5 = some (sp_ia κ N6 f7) ∧ ((¬ (nI N6) = 0 → ((((∃ j9 : Nat, (nI N6) - 1 = nI j9 ∧ j9 < N6 ∧ Rt (some (.int (f7 j9))) μ))))) ∧ ((nI N6) = 0 → Rt (some (.int (-1))) μ))))) : sp_w κ x (sp_F κ x Rt Xt mc ms) k n 0 [(0, .ref a0)] [] μ := by
  refine sr_aload_n h dS_newestParent_0 rfl 0 rfl ?_
  obtain ⟨fs1, ho2, vc⟩ := vc
  obtain ⟨r3, hv4, vc⟩ := vc
  refine sr_get h inS rfl 4 (by decide) kw_361 dS_newestParent_1 ho2 hv4 ?_
  obtain ⟨a5, rfl, vc⟩ := vc
  obtain ⟨N6, f7, ho8, vc⟩ := vc
  refine sr_alen (t := 0) h dS_newestParent_4 ho8 rfl ?_
  refine sr_if_ne (tgt := 12) h dS_newestParent_5 (by decide) (fun c12 => ?_) (fun c12 => ?_)
  · have vc := vc.1 c12
    refine sr_aload_n h dS_newestParent_12 rfl 0 rfl ?_
    refine sr_get h inS rfl 4 (by decide) kw_361 dS_newestParent_13 ho2 hv4 ?_
    refine sr_aload_n h dS_newestParent_16 rfl 0 rfl ?_
    refine sr_get h inS rfl 4 (by decide) kw_361 dS_newestParent_17 ho2 hv4 ?_
    refine sr_alen (t := 0) h dS_newestParent_20 ho8 rfl ?_
    refine sr_iconst (v := 1) h dS_newestParent_21 (by decide) ?_
    refine sr_isub h dS_newestParent_22 ?_
    obtain ⟨j9, hi10, hj11, vc⟩ := vc
    refine sr_iald h dS_newestParent_23 ho8 hi10 hj11 ?_
    exact sr_iret h dS_newestParent_24 hk.1 hk.2 vc
  · have vc := vc.2 c12
    refine sr_iconst (v := -1) h dS_newestParent_8 (by decide) ?_
    refine sr_goto (tgt := 24) h dS_newestParent_9 (by decide) ?_
    exact sr_iret h dS_newestParent_24 hk.1 hk.2 vc

abbrev cxS_hasNumber (κ : sp_K) (x : sp_X) (mc ms : Nat) : Prop := sp_C κ x cS_hasNumber 2 RS (some .boolean) [] "hasNumber" (sp_rm 1 21 mc ms)
set_option maxRecDepth 100000 in
set_option maxHeartbeats 4000000 in
theorem bkS_hasNumber_0 {κ : sp_K} {x : sp_X} {mc ms : Nat} {Rt : Option Value → sp_M → Prop} {Xt : String → sp_M → Prop} {μ : sp_M} {k n : Nat} {a0 : Nat} {v1 : Int32} (h : cxS_hasNumber κ x mc ms) (hk : k ≤ mc ∧ n ≤ ms)
    (vc : (∃ fs1 : List Value, μ a0 = some (.inr (1, fs1)) ∧ ∃ v3 : Int32, fs1[3]? = some (.int v3) ∧ ((v1 < v3 → Rt (some (.int 0)) μ) ∧ (¬ v1 < v3 → (∃ v5 : Int32, fs1[2]? = some (.int v5) ∧ (∃ mc7 ms8 : Nat, (k + mc7 ≤ mc ∧ n + ms8 ≤ ms) ∧ sp_m x.2.1 κ yS_numberAt wS_numberAt 0 0 mc7 ms8 [.ref a0, .int v5] μ (fun v10 μ11 => ∃ v13 : Int32, v10 = some (.int v13) ∧ ((v13 < v1 → Rt (some (.int 0)) μ11) ∧ (¬ v13 < v1 → Rt (some (.int 1)) μ11))) (fun E15 μ11 => Xt E15 μ11))))))) : sp_w κ x (sp_F κ x Rt Xt mc ms) k n 0 [(0, .ref a0), (1, .int v1)] [] μ := by
  refine sr_iload_n h dS_hasNumber_0 rfl 1 rfl ?_
  refine sr_aload_n h dS_hasNumber_1 rfl 0 rfl ?_
  obtain ⟨fs1, ho2, vc⟩ := vc
  obtain ⟨v3, hv4, vc⟩ := vc
  refine sr_get h inS rfl 3 (by decide) kw_360 dS_hasNumber_2 ho2 hv4 ?_
  refine sr_icmp_lt (tgt := 24) h dS_hasNumber_5 (by decide) (fun c16 => ?_) (fun c16 => ?_)
  · have vc := vc.1 c16
    refine sr_iconst (v := 0) h dS_hasNumber_24 (by decide) ?_
    exact sr_zret h dS_hasNumber_25 rfl hk.1 hk.2 vc
  · have vc := vc.2 c16
    refine sr_iload_n h dS_hasNumber_8 rfl 1 rfl ?_
    refine sr_aload_n h dS_hasNumber_9 rfl 0 rfl ?_
    refine sr_aload_n h dS_hasNumber_10 rfl 0 rfl ?_
    obtain ⟨v5, hv6, vc⟩ := vc
    refine sr_get h inS rfl 2 (by decide) kw_358 dS_hasNumber_11 ho2 hv6 ?_
    obtain ⟨mc7, ms8, hc9, vc⟩ := vc
    refine sr_callV (y := yS_numberAt) (n0 := 1) (As := [.int v5]) h (sp_gV kw_197 kw_198 kw_199 kw_47 kw_200) rfl (by decide +kernel) ⟨Nat.le_of_ble_eq_true rfl, Nat.le_of_ble_eq_true rfl⟩ (ci := 1) rfl dS_hasNumber_14 rfl rfl (Nat.le_of_ble_eq_true rfl) hc9 ho2 vc (fun v10 μ11 vc => ?_) (fun E15 μ11 vc => ?_)
    · obtain ⟨v13, rfl, vc⟩ := vc
      refine sr_icmp_gt (tgt := 24) h dS_hasNumber_17 (by decide) (fun c14 => ?_) (fun c14 => ?_)
      · have vc := vc.1 c14
        refine sr_iconst (v := 0) h dS_hasNumber_24 (by decide) ?_
        exact sr_zret h dS_hasNumber_25 rfl hc9.1 hc9.2 vc
      · have vc := vc.2 c14
        refine sr_iconst (v := 1) h dS_hasNumber_20 (by decide) ?_
        refine sr_goto (tgt := 25) h dS_hasNumber_21 (by decide) ?_
        exact sr_zret h dS_hasNumber_25 rfl hc9.1 hc9.2 vc
    · exact st_out h (fun _ z => nomatch z) hc9.1 hc9.2 vc

abbrev cxS_numberAt (κ : sp_K) (x : sp_X) (mc ms : Nat) : Prop := sp_C κ x cS_numberAt 2 RS (some .int) [] "numberAt" (sp_rm 0 0 mc ms)
set_option maxRecDepth 100000 in
set_option maxHeartbeats 4000000 in
theorem bkS_numberAt_0 {κ : sp_K} {x : sp_X} {mc ms : Nat} {Rt : Option Value → sp_M → Prop} {Xt : String → sp_M → Prop} {μ : sp_M} {k n : Nat} {a0 : Nat} {v1 : Int32} (h : cxS_numberAt κ x mc ms) (hk : k ≤ mc ∧ n ≤ ms)
    (vc : (∃ fs1 : List Value, μ a0 = some (.inr (1, fs1)) ∧ ∃ v3 : Int32, fs1[3]? = some (.int v3) ∧ (∃ v5 : Int32, fs1[1]? = some (.int v5) ∧ Rt (some (.int ((v3 + v1) - v5))) μ))) : sp_w κ x (sp_F κ x Rt Xt mc ms) k n 0 [(0, .ref a0), (1, .int v1)] [] μ := by
  refine sr_aload_n h dS_numberAt_0 rfl 0 rfl ?_
  obtain ⟨fs1, ho2, vc⟩ := vc
  obtain ⟨v3, hv4, vc⟩ := vc
  refine sr_get h inS rfl 3 (by decide) kw_360 dS_numberAt_1 ho2 hv4 ?_
  refine sr_iload_n h dS_numberAt_4 rfl 1 rfl ?_
  refine sr_iadd h dS_numberAt_5 ?_
  refine sr_aload_n h dS_numberAt_6 rfl 0 rfl ?_
  obtain ⟨v5, hv6, vc⟩ := vc
  refine sr_get h inS rfl 1 (by decide) kw_356 dS_numberAt_7 ho2 hv6 ?_
  refine sr_isub h dS_numberAt_10 ?_
  exact sr_iret h dS_numberAt_11 hk.1 hk.2 vc

abbrev cxS_placeOfNumber (κ : sp_K) (x : sp_X) (mc ms : Nat) : Prop := sp_C κ x cS_placeOfNumber 2 RS (some .int) [] "placeOfNumber" (sp_rm 0 0 mc ms)
set_option maxRecDepth 100000 in
set_option maxHeartbeats 4000000 in
theorem bkS_placeOfNumber_0 {κ : sp_K} {x : sp_X} {mc ms : Nat} {Rt : Option Value → sp_M → Prop} {Xt : String → sp_M → Prop} {μ : sp_M} {k n : Nat} {a0 : Nat} {v1 : Int32} (h : cxS_placeOfNumber κ x mc ms) (hk : k ≤ mc ∧ n ≤ ms)
    (vc : (∃ fs1 : List Value, μ a0 = some (.inr (1, fs1)) ∧ ∃ v3 : Int32, fs1[1]? = some (.int v3) ∧ (∃ v5 : Int32, fs1[3]? = some (.int v5) ∧ Rt (some (.int ((v3 + v1) - v5))) μ))) : sp_w κ x (sp_F κ x Rt Xt mc ms) k n 0 [(0, .ref a0), (1, .int v1)] [] μ := by
  refine sr_aload_n h dS_placeOfNumber_0 rfl 0 rfl ?_
  obtain ⟨fs1, ho2, vc⟩ := vc
  obtain ⟨v3, hv4, vc⟩ := vc
  refine sr_get h inS rfl 1 (by decide) kw_356 dS_placeOfNumber_1 ho2 hv4 ?_
  refine sr_iload_n h dS_placeOfNumber_4 rfl 1 rfl ?_
  refine sr_iadd h dS_placeOfNumber_5 ?_
  refine sr_aload_n h dS_placeOfNumber_6 rfl 0 rfl ?_
  obtain ⟨v5, hv6, vc⟩ := vc
  refine sr_get h inS rfl 3 (by decide) kw_360 dS_placeOfNumber_7 ho2 hv6 ?_
  refine sr_isub h dS_placeOfNumber_10 ?_
  exact sr_iret h dS_placeOfNumber_11 hk.1 hk.2 vc

abbrev cxS_seenAt (κ : sp_K) (x : sp_X) (mc ms : Nat) : Prop := sp_C κ x cS_seenAt 3 RS (some .int) [] "seenAt" (sp_rm 1 21 mc ms)
set_option maxRecDepth 100000 in
set_option maxHeartbeats 4000000 in
theorem bkS_seenAt_0 {κ : sp_K} {x : sp_X} {mc ms : Nat} {Rt : Option Value → sp_M → Prop} {Xt : String → sp_M → Prop} {μ : sp_M} {k n : Nat} {a0 : Nat} {v1 : Int32} {v2 : Int32} (h : cxS_seenAt κ x mc ms) (hk : k ≤ mc ∧ n ≤ ms)
    (vc : (∃ fs1 : List Value, μ a0 = some (.inr (1, fs1)) ∧ ∃ r3 : Option Nat, fs1[0]? = some (va_rf r3) ∧ (∃ a5 : Nat, r3 = some a5 ∧ ∃ fs6 : List Value, μ a5 = some (.inr (0, fs6)) ∧ ∃ v8 : Int32, fs6[1]? = some (.int v8) ∧ ((¬ v2 = v8 → (∃ r10 : Option Nat, fs1[5]? = some (va_rf r10) ∧ (∃ a12 : Nat, r10 = some a12 ∧ ∃ (N13 : Nat) (f14 : Nat → Int32), μ a12 = some (sp_ia κ N13 f14) ∧ ∃ j16 : Nat, v2 = nI j16 ∧ j16 < N13 ∧ Rt (some (.int (f14 j16))) μ))) ∧ (v2 = v8 → (∃ mc19 ms20 : Nat, (k + mc19 ≤ mc ∧ n + ms20 ≤ ms) ∧ sp_m x.2.1 κ yS_numberAt wS_numberAt 0 0 mc19 ms20 [.ref a0, .int v1] μ (fun v22 μ23 => ∃ v25 : Int32, v22 = some (.int v25) ∧ Rt (some (.int (v25 + 1))) μ23) (fun E26 μ23 => Xt E26 μ23))))))) : sp_w κ x (sp_F κ x Rt Xt mc ms) k n 0 [(0, .ref a0), (1, .int v1), (2, .int v2)] [] μ := by
  refine sr_iload_n h dS_seenAt_0 rfl 2 rfl ?_
  refine sr_aload_n h dS_seenAt_1 rfl 0 rfl ?_
  obtain ⟨fs1, ho2, vc⟩ := vc
  obtain ⟨r3, hv4, vc⟩ := vc
  refine sr_get h inS rfl 0 (by decide) kw_354 dS_seenAt_2 ho2 hv4 ?_
  obtain ⟨a5, rfl, vc⟩ := vc
  obtain ⟨fs6, ho7, vc⟩ := vc
  obtain ⟨v8, hv9, vc⟩ := vc
  refine sr_get h inA rfl 1 (by decide) kw_318 dS_seenAt_5 ho7 hv9 ?_
  refine sr_icmp_ne (tgt := 21) h dS_seenAt_8 (by decide) (fun c27 => ?_) (fun c27 => ?_)
  · have vc := vc.1 c27
    refine sr_aload_n h dS_seenAt_21 rfl 0 rfl ?_
    obtain ⟨r10, hv11, vc⟩ := vc
    refine sr_get h inS rfl 5 (by decide) kw_363 dS_seenAt_22 ho2 hv11 ?_
    refine sr_iload_n h dS_seenAt_25 rfl 2 rfl ?_
    obtain ⟨a12, rfl, vc⟩ := vc
    obtain ⟨N13, f14, ho15, vc⟩ := vc
    obtain ⟨j16, hi17, hj18, vc⟩ := vc
    refine sr_iald h dS_seenAt_26 ho15 hi17 hj18 ?_
    exact sr_iret h dS_seenAt_27 hk.1 hk.2 vc
  · have vc := vc.2 c27
    refine sr_aload_n h dS_seenAt_11 rfl 0 rfl ?_
    refine sr_iload_n h dS_seenAt_12 rfl 1 rfl ?_
    obtain ⟨mc19, ms20, hc21, vc⟩ := vc
    refine sr_callV (y := yS_numberAt) (n0 := 1) (As := [.int v1]) h (sp_gV kw_197 kw_198 kw_199 kw_47 kw_200) rfl (by decide +kernel) ⟨Nat.le_of_ble_eq_true rfl, Nat.le_of_ble_eq_true rfl⟩ (ci := 1) rfl dS_seenAt_13 rfl rfl (Nat.le_of_ble_eq_true rfl) hc21 ho2 vc (fun v22 μ23 vc => ?_) (fun E26 μ23 vc => ?_)
    · obtain ⟨v25, rfl, vc⟩ := vc
      refine sr_iconst (v := 1) h dS_seenAt_16 (by decide) ?_
      refine sr_iadd h dS_seenAt_17 ?_
      refine sr_goto (tgt := 27) h dS_seenAt_18 (by decide) ?_
      exact sr_iret h dS_seenAt_27 hc21.1 hc21.2 vc
    · exact st_out h (fun _ z => nomatch z) hc21.1 hc21.2 vc

abbrev cxA_init (κ : sp_K) (x : sp_X) (mc ms : Nat) : Prop := sp_C κ x cA_init 3 RA none [] "<init>" (sp_rm 1 22 mc ms)
set_option maxRecDepth 100000 in
set_option maxHeartbeats 4000000 in
theorem bkA_init_0 {κ : sp_K} {x : sp_X} {mc ms : Nat} {Rt : Option Value → sp_M → Prop} {Xt : String → sp_M → Prop} {μ : sp_M} {k n : Nat} {a0 : Nat} {v1 : Int32} {v2 : Int32} (h : cxA_init κ x mc ms) (hk : k ≤ mc ∧ n ≤ ms)
    (vc : (∃ fs1 : List Value, μ a0 = some (.inr (0, fs1)) ∧ 2 < fs1.length ∧ ∀ μ3 : sp_M, μ3 = va_up μ a0 (some (.inr (0, fs1.set 2 (.int 0)))) → (∃ fs5 : List Value, μ3 a0 = some (.inr (0, fs5)) ∧ 3 < fs5.length ∧ ∀ μ7 : sp_M, μ7 = va_up μ3 a0 (some (.inr (0, fs5.set 3 (.int (-1))))) → (∃ fs9 : List Value, μ7 a0 = some (.inr (0, fs9)) ∧ 4 < fs9.length ∧ (narrow (tyA 4) (.int 0) = (.int 0) ∧ fits (tyA 4) (.int 0) = true) ∧ ∀ μ11 : sp_M, μ11 = va_up μ7 a0 (some (.inr (0, fs9.set 4 (.int 0)))) → (∃ fs14 : List Value, μ11 a0 = some (.inr (0, fs14)) ∧ 5 < fs14.length ∧ ∀ μ16 : sp_M, μ16 = va_up μ11 a0 (some (.inr (0, fs14.set 5 (.null)))) → (∃ fs18 : List Value, μ16 a0 = some (.inr (0, fs18)) ∧ 0 < fs18.length ∧ ∀ μ20 : sp_M, μ20 = va_up μ16 a0 (some (.inr (0, fs18.set 0 (.int v1)))) → (∃ fs22 : List Value, μ20 a0 = some (.inr (0, fs22)) ∧ 1 < fs22.length ∧ ∀ μ24 : sp_M, μ24 = va_up μ20 a0 (some (.inr (0, fs22.set 1 (.int v2)))) → Rt none μ24))))))) : sp_w κ x (sp_F κ x Rt Xt mc ms) k n 0 [(0, .ref a0), (1, .int v1), (2, .int v2)] [] μ := by
  refine sr_aload_n h dA_init_0 rfl 0 rfl ?_
  refine sr_objInit h kw_313 kw_54 kw_oi dA_init_1 (Nat.le_of_ble_eq_true rfl) (Nat.le_of_ble_eq_true rfl) ?_
  refine sr_aload_n h dA_init_4 rfl 0 rfl ?_
  refine sr_iconst (v := 0) h dA_init_5 (by decide) ?_
  obtain ⟨fs1, ho2, vc⟩ := vc
  obtain ⟨hl4, vc⟩ := vc
  have vc := vc _ rfl
  refine sr_put h inA tyA tyA_ok nmA rfl 2 (by decide) kw_319 rfl dA_init_6 ho2 rfl rfl hl4 ?_
  refine sr_aload_n h dA_init_9 rfl 0 rfl ?_
  refine sr_iconst (v := -1) h dA_init_10 (by decide) ?_
  obtain ⟨fs5, ho6, vc⟩ := vc
  obtain ⟨hl8, vc⟩ := vc
  have vc := vc _ rfl
  refine sr_put h inA tyA tyA_ok nmA rfl 3 (by decide) kw_322 rfl dA_init_11 ho6 rfl rfl hl8 ?_
  refine sr_aload_n h dA_init_14 rfl 0 rfl ?_
  refine sr_iconst (v := 0) h dA_init_15 (by decide) ?_
  obtain ⟨fs9, ho10, vc⟩ := vc
  obtain ⟨hl12, hn13, vc⟩ := vc
  have vc := vc _ rfl
  refine sr_put h inA tyA tyA_ok nmA rfl 4 (by decide) kw_324 rfl dA_init_16 ho10 hn13.1 hn13.2 hl12 ?_
  refine sr_aload_n h dA_init_19 rfl 0 rfl ?_
  refine sr_null h dA_init_20 ?_
  obtain ⟨fs14, ho15, vc⟩ := vc
  obtain ⟨hl17, vc⟩ := vc
  have vc := vc _ rfl
  refine sr_put h inA tyA tyA_ok nmA rfl 5 (by decide) kw_326 rfl dA_init_21 ho15 rfl rfl hl17 ?_
  refine sr_aload_n h dA_init_24 rfl 0 rfl ?_
  refine sr_iload_n h dA_init_25 rfl 1 rfl ?_
  obtain ⟨fs18, ho19, vc⟩ := vc
  obtain ⟨hl21, vc⟩ := vc
  have vc := vc _ rfl
  refine sr_putF h rfl inA tyA tyA_ok nmA rfl 0 (by decide) kw_314 rfl rfl dA_init_26 ho19 rfl rfl hl21 ?_
  refine sr_aload_n h dA_init_29 rfl 0 rfl ?_
  refine sr_iload_n h dA_init_30 rfl 2 rfl ?_
  obtain ⟨fs22, ho23, vc⟩ := vc
  obtain ⟨hl25, vc⟩ := vc
  have vc := vc _ rfl
  refine sr_putF h rfl inA tyA tyA_ok nmA rfl 1 (by decide) kw_316 rfl rfl dA_init_31 ho23 rfl rfl hl25 ?_
  exact sr_vret h dA_init_34 hk.1 hk.2 vc

abbrev cxS_init (κ : sp_K) (x : sp_X) (mc ms : Nat) : Prop := sp_C κ x cS_init 7 RS none [] "<init>" (sp_rm 1 25 mc ms)
set_option maxRecDepth 100000 in
set_option maxHeartbeats 4000000 in
theorem bkS_init_0 {κ : sp_K} {x : sp_X} {mc ms : Nat} {Rt : Option Value → sp_M → Prop} {Xt : String → sp_M → Prop} {μ : sp_M} {k n : Nat} {a0 : Nat} {a1 : Nat} {v2 : Int32} {v3 : Int32} {a4 : Nat} {a5 : Nat} {a6 : Nat} (h : cxS_init κ x mc ms) (hk : k ≤ mc ∧ n ≤ ms)
    (vc : (∃ fs1 : List Value, μ a0 = some (.inr (1, fs1)) ∧ 0 < fs1.length ∧ ∀ μ3 : sp_M, μ3 = va_up μ a0 (some (.inr (1, fs1.set 0 (.ref a1)))) → (∃ fs5 : List Value, μ3 a0 = some (.inr (1, fs5)) ∧ 1 < fs5.length ∧ ∀ μ7 : sp_M, μ7 = va_up μ3 a0 (some (.inr (1, fs5.set 1 (.int v2)))) → (∃ fs9 : List Value, μ7 a0 = some (.inr (1, fs9)) ∧ 2 < fs9.length ∧ ∀ μ11 : sp_M, μ11 = va_up μ7 a0 (some (.inr (1, fs9.set 2 (.int ((v2 + v3) - 1))))) → (∃ fs13 : List Value, μ11 a1 = some (.inr (0, fs13)) ∧ ∃ v15 : Int32, fs13[2]? = some (.int v15) ∧ (∃ fs17 : List Value, μ11 a0 = some (.inr (1, fs17)) ∧ 3 < fs17.length ∧ ∀ μ19 : sp_M, μ19 = va_up μ11 a0 (some (.inr (1, fs17.set 3 (.int v15)))) → (∃ fs21 : List Value, μ19 a0 = some (.inr (1, fs21)) ∧ 4 < fs21.length ∧ ∀ μ23 : sp_M, μ23 = va_up μ19 a0 (some (.inr (1, fs21.set 4 (.ref a4)))) → (∃ fs25 : List Value, μ23 a0 = some (.inr (1, fs25)) ∧ 5 < fs25.length ∧ ∀ μ27 : sp_M, μ27 = va_up μ23 a0 (some (.inr (1, fs25.set 5 (.ref a5)))) → (∃ mc29 ms30 : Nat, (k + mc29 ≤ mc ∧ n + ms30 ≤ ms) ∧ sp_m x.2.1 κ yS_sum wS_sum 0 0 mc29 ms30 [.ref a5] μ27 (fun v32 μ33 => ∃ v35 : Int32, v32 = some (.int v35) ∧ ((¬ v35 = (v2 + 1) → sp_w κ x (sp_F κ x Rt Xt mc ms) (k + mc29) (n + ms30) 60 [(0, .ref a0), (1, .ref a1), (2, .int v2), (3, .int v3), (4, .ref a4), (5, .ref a5), (6, .ref a6)] [.int 0, .ref a0] μ33) ∧ (v35 = (v2 + 1) → sp_w κ x (sp_F κ x Rt Xt mc ms) (k + mc29) (n + ms30) 60 [(0, .ref a0), (1, .ref a1), (2, .int v2), (3, .int v3), (4, .ref a4), (5, .ref a5), (6, .ref a6)] [.int 1, .ref a0] μ33))) (fun E37 μ33 => Xt E37 μ33)))))))))) : sp_w κ x (sp_F κ x Rt Xt mc ms) k n 0 [(0, .ref a0), (1, .ref a1), (2, .int v2), (3, .int v3), (4, .ref a4), (5, .ref a5), (6, .ref a6)] [] μ := by
  refine sr_aload_n h dS_init_0 rfl 0 rfl ?_
  refine sr_objInit h kw_350 kw_54 kw_oi dS_init_1 (Nat.le_of_ble_eq_true rfl) (Nat.le_of_ble_eq_true rfl) ?_
  refine sr_aload_n h dS_init_4 rfl 0 rfl ?_
  refine sr_aload_n h dS_init_5 rfl 1 rfl ?_
  obtain ⟨fs1, ho2, vc⟩ := vc
  obtain ⟨hl4, vc⟩ := vc
  have vc := vc _ rfl
  refine sr_putF h rfl inS tyS tyS_ok nmS rfl 0 (by decide) kw_354 rfl rfl dS_init_6 ho2 rfl rfl hl4 ?_
  refine sr_aload_n h dS_init_9 rfl 0 rfl ?_
  refine sr_iload_n h dS_init_10 rfl 2 rfl ?_
  obtain ⟨fs5, ho6, vc⟩ := vc
  obtain ⟨hl8, vc⟩ := vc
  have vc := vc _ rfl
  refine sr_putF h rfl inS tyS tyS_ok nmS rfl 1 (by decide) kw_356 rfl rfl dS_init_11 ho6 rfl rfl hl8 ?_
  refine sr_aload_n h dS_init_14 rfl 0 rfl ?_
  refine sr_iload_n h dS_init_15 rfl 2 rfl ?_
  refine sr_iload_n h dS_init_16 rfl 3 rfl ?_
  refine sr_iadd h dS_init_17 ?_
  refine sr_iconst (v := 1) h dS_init_18 (by decide) ?_
  refine sr_isub h dS_init_19 ?_
  obtain ⟨fs9, ho10, vc⟩ := vc
  obtain ⟨hl12, vc⟩ := vc
  have vc := vc _ rfl
  refine sr_putF h rfl inS tyS tyS_ok nmS rfl 2 (by decide) kw_358 rfl rfl dS_init_20 ho10 rfl rfl hl12 ?_
  refine sr_aload_n h dS_init_23 rfl 0 rfl ?_
  refine sr_aload_n h dS_init_24 rfl 1 rfl ?_
  obtain ⟨fs13, ho14, vc⟩ := vc
  obtain ⟨v15, hv16, vc⟩ := vc
  refine sr_get h inA rfl 2 (by decide) kw_320 dS_init_25 ho14 hv16 ?_
  obtain ⟨fs17, ho18, vc⟩ := vc
  obtain ⟨hl20, vc⟩ := vc
  have vc := vc _ rfl
  refine sr_putF h rfl inS tyS tyS_ok nmS rfl 3 (by decide) kw_360 rfl rfl dS_init_28 ho18 rfl rfl hl20 ?_
  refine sr_aload_n h dS_init_31 rfl 0 rfl ?_
  refine sr_aload h dS_init_32 4 rfl ?_
  obtain ⟨fs21, ho22, vc⟩ := vc
  obtain ⟨hl24, vc⟩ := vc
  have vc := vc _ rfl
  refine sr_putF h rfl inS tyS tyS_ok nmS rfl 4 (by decide) kw_361 rfl rfl dS_init_34 ho22 rfl rfl hl24 ?_
  refine sr_aload_n h dS_init_37 rfl 0 rfl ?_
  refine sr_aload h dS_init_38 5 rfl ?_
  obtain ⟨fs25, ho26, vc⟩ := vc
  obtain ⟨hl28, vc⟩ := vc
  have vc := vc _ rfl
  refine sr_putF h rfl inS tyS tyS_ok nmS rfl 5 (by decide) kw_363 rfl rfl dS_init_40 ho26 rfl rfl hl28 ?_
  refine sr_aload_n h dS_init_43 rfl 0 rfl ?_
  refine sr_aload h dS_init_44 5 rfl ?_
  obtain ⟨mc29, ms30, hc31, vc⟩ := vc
  refine sr_callS (y := yS_sum) (n0 := 1) (As := [.ref a5]) (st := [.ref a0]) h (sp_gS kw_351 kw_352 kw_47 kw_353) rfl (by decide +kernel) ⟨Nat.le_of_ble_eq_true rfl, Nat.le_of_ble_eq_true rfl⟩ dS_init_46 rfl rfl (Nat.le_of_ble_eq_true rfl) hc31 vc (fun v32 μ33 vc => ?_) (fun E37 μ33 vc => ?_)
  · obtain ⟨v35, rfl, vc⟩ := vc
    refine sr_iload_n h dS_init_49 rfl 2 rfl ?_
    refine sr_iconst (v := 1) h dS_init_50 (by decide) ?_
    refine sr_iadd h dS_init_51 ?_
    refine sr_icmp_ne (tgt := 59) h dS_init_52 (by decide) (fun c36 => ?_) (fun c36 => ?_)
    · have vc := vc.1 c36
      refine sr_iconst (v := 0) h dS_init_59 (by decide) ?_
      exact vc
    · have vc := vc.2 c36
      refine sr_iconst (v := 1) h dS_init_55 (by decide) ?_
      refine sr_goto (tgt := 60) h dS_init_56 (by decide) ?_
      exact vc
  · exact st_out h (fun _ z => nomatch z) hc31.1 hc31.2 vc
set_option maxRecDepth 100000 in
set_option maxHeartbeats 4000000 in
theorem bkS_init_60 {κ : sp_K} {x : sp_X} {mc ms : Nat} {Rt : Option Value → sp_M → Prop} {Xt : String → sp_M → Prop} {μ : sp_M} {k n : Nat} {a0 : Nat} {a1 : Nat} {v2 : Int32} {v3 : Int32} {a4 : Nat} {a5 : Nat} {a6 : Nat} {as0 : Nat} {vs1 : Int32} (h : cxS_init κ x mc ms) (hk : k ≤ mc ∧ n ≤ ms)
    (vc : (∃ fs1 : List Value, μ as0 = some (.inr (1, fs1)) ∧ 6 < fs1.length ∧ (narrow (tyS 6) (.int vs1) = (.int vs1) ∧ fits (tyS 6) (.int vs1) = true) ∧ ∀ μ3 : sp_M, μ3 = va_up μ as0 (some (.inr (1, fs1.set 6 (.int vs1)))) → (∃ fs6 : List Value, μ3 a0 = some (.inr (1, fs6)) ∧ 7 < fs6.length ∧ ∀ μ8 : sp_M, μ8 = va_up μ3 a0 (some (.inr (1, fs6.set 7 (.ref a6)))) → (∃ fs10 : List Value, μ8 a1 = some (.inr (0, fs10)) ∧ ∃ r12 : Option Nat, fs10[5]? = some (va_rf r12) ∧ (∃ fs14 : List Value, μ8 a0 = some (.inr (1, fs14)) ∧ 8 < fs14.length ∧ ∀ μ16 : sp_M, μ16 = va_up μ8 a0 (some (.inr (1, fs14.set 8 (va_rf r12)))) → Rt none μ16))))) : sp_w κ x (sp_F κ x Rt Xt mc ms) k n 60 [(0, .ref a0), (1, .ref a1), (2, .int v2), (3, .int v3), (4, .ref a4), (5, .ref a5), (6, .ref a6)] [.int vs1, .ref as0] μ := by
  obtain ⟨fs1, ho2, vc⟩ := vc
  obtain ⟨hl4, hn5, vc⟩ := vc
  have vc := vc _ rfl
  refine sr_putF h rfl inS tyS tyS_ok nmS rfl 6 (by decide) kw_364 rfl rfl dS_init_60 ho2 hn5.1 hn5.2 hl4 ?_
  refine sr_aload_n h dS_init_63 rfl 0 rfl ?_
  refine sr_aload h dS_init_64 6 rfl ?_
  obtain ⟨fs6, ho7, vc⟩ := vc
  obtain ⟨hl9, vc⟩ := vc
  have vc := vc _ rfl
  refine sr_putF h rfl inS tyS tyS_ok nmS rfl 7 (by decide) kw_366 rfl rfl dS_init_66 ho7 rfl rfl hl9 ?_
  refine sr_aload_n h dS_init_69 rfl 0 rfl ?_
  refine sr_aload_n h dS_init_70 rfl 1 rfl ?_
  obtain ⟨fs10, ho11, vc⟩ := vc
  obtain ⟨r12, hv13, vc⟩ := vc
  refine sr_get h inA rfl 5 (by decide) kw_327 dS_init_71 ho11 hv13 ?_
  obtain ⟨fs14, ho15, vc⟩ := vc
  obtain ⟨hl17, vc⟩ := vc
  have vc := vc _ rfl
  refine sr_putF h rfl inS tyS tyS_ok nmS rfl 8 (by decide) kw_368 rfl rfl dS_init_74 ho15 (by cases r12 <;> rfl) (by cases r12 <;> rfl) hl17 ?_
  exact sr_vret h dS_init_77 hk.1 hk.2 vc

abbrev cxS_sum (κ : sp_K) (x : sp_X) (mc ms : Nat) : Prop := sp_C κ x cS_sum 6 RS (some .int) [] "sum" (sp_rm 0 0 mc ms)
set_option maxRecDepth 100000 in
set_option maxHeartbeats 4000000 in
theorem bkS_sum_0 {κ : sp_K} {x : sp_X} {mc ms : Nat} {Rt : Option Value → sp_M → Prop} {Xt : String → sp_M → Prop} {μ : sp_M} {k n : Nat} {a0 : Nat} (h : cxS_sum κ x mc ms) (hk : k ≤ mc ∧ n ≤ ms)
    (vc : (∃ (N1 : Nat) (f2 : Nat → Int32), μ a0 = some (sp_ia κ N1 f2) ∧ sp_w κ x (sp_F κ x Rt Xt mc ms) k n 10 [(0, .ref a0), (1, .int 0), (2, .ref a0), (3, .int (nI N1)), (4, .int 0)] [] μ)) : sp_w κ x (sp_F κ x Rt Xt mc ms) k n 0 [(0, .ref a0)] [] μ := by
  refine sr_iconst (v := 0) h dS_sum_0 (by decide) ?_
  refine sr_istore_n (lv' := [(0, .ref a0), (1, .int 0)]) h dS_sum_1 rfl (by decide) rfl ?_
  refine sr_aload_n h dS_sum_2 rfl 0 rfl ?_
  refine sr_astore_n (lv' := [(0, .ref a0), (1, .int 0), (2, .ref a0)]) h dS_sum_3 rfl (by decide) rfl ?_
  refine sr_aload_n h dS_sum_4 rfl 2 rfl ?_
  obtain ⟨N1, f2, ho3, vc⟩ := vc
  refine sr_alen (t := 0) h dS_sum_5 ho3 rfl ?_
  refine sr_istore_n (lv' := [(0, .ref a0), (1, .int 0), (2, .ref a0), (3, .int (nI N1))]) h dS_sum_6 rfl (by decide) rfl ?_
  refine sr_iconst (v := 0) h dS_sum_7 (by decide) ?_
  refine sr_istore (lv' := [(0, .ref a0), (1, .int 0), (2, .ref a0), (3, .int (nI N1)), (4, .int 0)]) h dS_sum_8 (by decide) rfl ?_
  exact vc
set_option maxRecDepth 100000 in
set_option maxHeartbeats 4000000 in
theorem bkS_sum_10 {κ : sp_K} {x : sp_X} {mc ms : Nat} {Rt : Option Value → sp_M → Prop} {Xt : String → sp_M → Prop} {μ : sp_M} {k n : Nat} {a0 : Nat} {v1 : Int32} {a2 : Nat} {v3 : Int32} {v4 : Int32} (h : cxS_sum κ x mc ms) (hk : k ≤ mc ∧ n ≤ ms)
    (vc : ((v3 ≤ v4 → Rt (some (.int v1)) μ) ∧ (¬ v3 ≤ v4 → (∃ (N1 : Nat) (f2 : Nat → Int32), μ a2 = some (sp_ia κ N1 f2) ∧ ∃ j4 : Nat, v4 = nI j4 ∧ j4 < N1 ∧ sp_w κ x (sp_F κ x Rt Xt mc ms) k n 10 [(0, .ref a0), (1, .int (v1 + (f2 j4))), (2, .ref a2), (3, .int v3), (4, .int (v4 + 1))] [] μ)))) : sp_w κ x (sp_F κ x Rt Xt mc ms) k n 10 [(0, .ref a0), (1, .int v1), (2, .ref a2), (3, .int v3), (4, .int v4)] [] μ := by
  refine sr_iload h dS_sum_10 4 rfl ?_
  refine sr_iload_n h dS_sum_12 rfl 3 rfl ?_
  refine sr_icmp_ge (tgt := 33) h dS_sum_13 (by decide) (fun c7 => ?_) (fun c7 => ?_)
  · have vc := vc.1 c7
    refine sr_iload_n h dS_sum_33 rfl 1 rfl ?_
    exact sr_iret h dS_sum_34 hk.1 hk.2 vc
  · have vc := vc.2 c7
    refine sr_aload_n h dS_sum_16 rfl 2 rfl ?_
    refine sr_iload h dS_sum_17 4 rfl ?_
    obtain ⟨N1, f2, ho3, vc⟩ := vc
    obtain ⟨j4, hi5, hj6, vc⟩ := vc
    refine sr_iald h dS_sum_19 ho3 hi5 hj6 ?_
    refine sr_istore (lv' := [(0, .ref a0), (1, .int v1), (2, .ref a2), (3, .int v3), (4, .int v4), (5, .int (f2 j4))]) h dS_sum_20 (by decide) rfl ?_
    refine sr_iload_n h dS_sum_22 rfl 1 rfl ?_
    refine sr_iload h dS_sum_23 5 rfl ?_
    refine sr_iadd h dS_sum_25 ?_
    refine sr_istore_n (lv' := [(0, .ref a0), (1, .int (v1 + (f2 j4))), (2, .ref a2), (3, .int v3), (4, .int v4), (5, .int (f2 j4))]) h dS_sum_26 rfl (by decide) rfl ?_
    refine sr_iinc (u := v4 + 1) (lv' := [(0, .ref a0), (1, .int (v1 + (f2 j4))), (2, .ref a2), (3, .int v3), (4, .int (v4 + 1)), (5, .int (f2 j4))]) h dS_sum_27 4 rfl rfl (by decide) rfl ?_
    refine sr_goto (tgt := 10) h dS_sum_30 (by decide) ?_
    exact sr_sub (lv' := [(0, .ref a0), (1, .int (v1 + (f2 j4))), (2, .ref a2), (3, .int v3), (4, .int (v4 + 1))]) [0, 1, 2, 3, 4] rfl vc
