abbrev cxS_newestParent (κ : sp_K) (x : sp_X) (mc ms : Nat) : Prop := sp_C κ x cS_newestParent 1 RS (some .int) [] "newestParent" (sp_rm 0 0 mc ms)
set_option maxRecDepth 100000 in
set_option maxHeartbeats 4000000 in
theorem bkS_newestParent_0 {κ : sp_K} {x : sp_X} {mc ms : Nat} {Rt : Option Value → sp_M → Prop} {Xt : String → sp_M → Prop} {μ : sp_M} {k n : Nat} {a0 : Nat} (h : cxS_newestParent κ x mc ms) (hk : k ≤ mc ∧ n ≤ ms)
    (vc : (∃ fs_1 : List Value, μ a0 = some (.inr (1, fs_1)) ∧ ∃ r_3 : Option Nat, fs_1[4]? = some (va_rf r_3) ∧ (∃ a_5 : Nat, r_3 = some a_5 ∧ ∃ (N_6 : Nat) (f_7 : Nat → Int32), μ a_5 = some (sp_ia κ N_6 f_7) ∧ ((¬ (nI N_6) = 0 → ((((∃ j_9 : Nat, (nI N_6) - 1 = nI j_9 ∧ j_9 < N_6 ∧ Rt (some (.int (f_7 j_9))) μ))))) ∧ ((nI N_6) = 0 → Rt (some (.int (-1))) μ))))) : sp_w κ x (sp_F κ x Rt Xt mc ms) k n 0 [(0, .ref a0)] [] μ := by
  refine sr_aload_n h dS_newestParent_0 rfl 0 rfl ?_
  obtain ⟨fs_1, ho_2, vc⟩ := vc
  obtain ⟨r_3, hv_4, vc⟩ := vc
  refine sr_get h inS rfl 4 (by decide) kw_361 dS_newestParent_1 ho_2 hv_4 ?_
  obtain ⟨a_5, rfl, vc⟩ := vc
  obtain ⟨N_6, f_7, ho_8, vc⟩ := vc
  refine sr_alen (t := 0) h dS_newestParent_4 ho_8 rfl ?_
  refine sr_if_ne (tgt := 12) h dS_newestParent_5 (by decide) (fun c_12 => ?_) (fun c_12 => ?_)
  · replace vc := vc.1 c_12
    refine sr_aload_n h dS_newestParent_12 rfl 0 rfl ?_
    refine sr_get h inS rfl 4 (by decide) kw_361 dS_newestParent_13 ho_2 hv_4 ?_
    refine sr_aload_n h dS_newestParent_16 rfl 0 rfl ?_
    refine sr_get h inS rfl 4 (by decide) kw_361 dS_newestParent_17 ho_2 hv_4 ?_
    refine sr_alen (t := 0) h dS_newestParent_20 ho_8 rfl ?_
    refine sr_iconst (v := 1) h dS_newestParent_21 (by decide) ?_
    refine sr_isub h dS_newestParent_22 ?_
    obtain ⟨j_9, hi_10, hj_11, vc⟩ := vc
    refine sr_iald h dS_newestParent_23 ho_8 hi_10 hj_11 ?_
    exact sr_iret h dS_newestParent_24 hk.1 hk.2 vc
  · replace vc := vc.2 c_12
    refine sr_iconst (v := -1) h dS_newestParent_8 (by decide) ?_
    refine sr_goto (tgt := 24) h dS_newestParent_9 (by decide) ?_
    exact sr_iret h dS_newestParent_24 hk.1 hk.2 vc
theorem opS_newestParent {l : Launch} {κ : sp_K} {mc ms : Nat} {Rt : Option Value → sp_M → Prop} {Xt : String → sp_M → Prop} {μ : sp_M} {a0 : Nat} (htr : l.stackTraces = false) (body : ∀ x : sp_X, x.2.1.stackTraces = false → cxS_newestParent κ x mc ms → sp_w κ x (sp_F κ x Rt Xt mc ms) 0 0 0 [(0, .ref a0)] [] μ) : sp_m l κ yS_newestParent wS_newestParent 0 0 mc ms [.ref a0] μ Rt Xt :=
  sp_open htr (by decide +kernel) rfl (Nat.le_of_ble_eq_true rfl) (by intro v hv; simp only [List.mem_cons, List.not_mem_nil, or_false] at hv; subst hv; first | rfl | exact sp_c1o _) (fun x hx h => body x (by rw [hx]; exact htr) h)

abbrev cxS_hasNumber (κ : sp_K) (x : sp_X) (mc ms : Nat) : Prop := sp_C κ x cS_hasNumber 2 RS (some .boolean) [] "hasNumber" (sp_rm 1 21 mc ms)
set_option maxRecDepth 100000 in
set_option maxHeartbeats 4000000 in
theorem bkS_hasNumber_0 {κ : sp_K} {x : sp_X} {mc ms : Nat} {Rt : Option Value → sp_M → Prop} {Xt : String → sp_M → Prop} {μ : sp_M} {k n : Nat} {a0 : Nat} {v1 : Int32} (h : cxS_hasNumber κ x mc ms) (hk : k ≤ mc ∧ n ≤ ms)
    (vc : (∃ fs_1 : List Value, μ a0 = some (.inr (1, fs_1)) ∧ ∃ v_3 : Int32, fs_1[3]? = some (.int v_3) ∧ ((v1 < v_3 → Rt (some (.int 0)) μ) ∧ (¬ v1 < v_3 → (∃ v_5 : Int32, fs_1[2]? = some (.int v_5) ∧ (∃ mc_7 ms_8 : Nat, (k + mc_7 ≤ mc ∧ n + ms_8 ≤ ms) ∧ sp_m x.2.1 κ yS_numberAt wS_numberAt 0 0 mc_7 ms_8 [.ref a0, .int v_5] μ (fun v_10 μ_11 => ∃ v_13 : Int32, v_10 = some (.int v_13) ∧ ((v_13 < v1 → Rt (some (.int 0)) μ_11) ∧ (¬ v_13 < v1 → Rt (some (.int 1)) μ_11))) (fun E_15 μ_11 => Xt E_15 μ_11))))))) : sp_w κ x (sp_F κ x Rt Xt mc ms) k n 0 [(0, .ref a0), (1, .int v1)] [] μ := by
  refine sr_iload_n h dS_hasNumber_0 rfl 1 rfl ?_
  refine sr_aload_n h dS_hasNumber_1 rfl 0 rfl ?_
  obtain ⟨fs_1, ho_2, vc⟩ := vc
  obtain ⟨v_3, hv_4, vc⟩ := vc
  refine sr_get h inS rfl 3 (by decide) kw_360 dS_hasNumber_2 ho_2 hv_4 ?_
  refine sr_icmp_lt (tgt := 24) h dS_hasNumber_5 (by decide) (fun c_16 => ?_) (fun c_16 => ?_)
  · replace vc := vc.1 c_16
    refine sr_iconst (v := 0) h dS_hasNumber_24 (by decide) ?_
    exact sr_zret h dS_hasNumber_25 rfl hk.1 hk.2 vc
  · replace vc := vc.2 c_16
    refine sr_iload_n h dS_hasNumber_8 rfl 1 rfl ?_
    refine sr_aload_n h dS_hasNumber_9 rfl 0 rfl ?_
    refine sr_aload_n h dS_hasNumber_10 rfl 0 rfl ?_
    obtain ⟨v_5, hv_6, vc⟩ := vc
    refine sr_get h inS rfl 2 (by decide) kw_358 dS_hasNumber_11 ho_2 hv_6 ?_
    obtain ⟨mc_7, ms_8, hc_9, vc⟩ := vc
    refine sr_callV (y := yS_numberAt) (n0 := 1) (As := [.int v_5]) h (sp_gV kw_197 kw_198 kw_199 kw_47 kw_200) rfl (by decide +kernel) ⟨Nat.le_of_ble_eq_true rfl, Nat.le_of_ble_eq_true rfl⟩ (ci := 1) rfl dS_hasNumber_14 rfl rfl (Nat.le_of_ble_eq_true rfl) hc_9 ho_2 vc (fun v_10 μ_11 vc' => ?_) (fun E_15 μ_11 vc' => ?_)
    · replace vc := vc'
      clear vc'
      obtain ⟨v_13, rfl, vc⟩ := vc
      refine sr_icmp_gt (tgt := 24) h dS_hasNumber_17 (by decide) (fun c_14 => ?_) (fun c_14 => ?_)
      · replace vc := vc.1 c_14
        refine sr_iconst (v := 0) h dS_hasNumber_24 (by decide) ?_
        exact sr_zret h dS_hasNumber_25 rfl hc_9.1 hc_9.2 vc
      · replace vc := vc.2 c_14
        refine sr_iconst (v := 1) h dS_hasNumber_20 (by decide) ?_
        refine sr_goto (tgt := 25) h dS_hasNumber_21 (by decide) ?_
        exact sr_zret h dS_hasNumber_25 rfl hc_9.1 hc_9.2 vc
    · replace vc := vc'
      clear vc'
      exact st_out h (fun _ z => nomatch z) hc_9.1 hc_9.2 vc
theorem opS_hasNumber {l : Launch} {κ : sp_K} {mc ms : Nat} {Rt : Option Value → sp_M → Prop} {Xt : String → sp_M → Prop} {μ : sp_M} {a0 : Nat} {v1 : Int32} (htr : l.stackTraces = false) (body : ∀ x : sp_X, x.2.1.stackTraces = false → cxS_hasNumber κ x mc ms → sp_w κ x (sp_F κ x Rt Xt mc ms) 0 0 0 [(0, .ref a0), (1, .int v1)] [] μ) : sp_m l κ yS_hasNumber wS_hasNumber 1 21 mc ms [.ref a0, .int v1] μ Rt Xt :=
  sp_open htr (by decide +kernel) rfl (Nat.le_of_ble_eq_true rfl) (by intro v hv; simp only [List.mem_cons, List.not_mem_nil, or_false] at hv; rcases hv with rfl | rfl <;> first | rfl | exact sp_c1o _) (fun x hx h => body x (by rw [hx]; exact htr) h)

abbrev cxS_numberAt (κ : sp_K) (x : sp_X) (mc ms : Nat) : Prop := sp_C κ x cS_numberAt 2 RS (some .int) [] "numberAt" (sp_rm 0 0 mc ms)
set_option maxRecDepth 100000 in
set_option maxHeartbeats 4000000 in
theorem bkS_numberAt_0 {κ : sp_K} {x : sp_X} {mc ms : Nat} {Rt : Option Value → sp_M → Prop} {Xt : String → sp_M → Prop} {μ : sp_M} {k n : Nat} {a0 : Nat} {v1 : Int32} (h : cxS_numberAt κ x mc ms) (hk : k ≤ mc ∧ n ≤ ms)
    (vc : (∃ fs_1 : List Value, μ a0 = some (.inr (1, fs_1)) ∧ ∃ v_3 : Int32, fs_1[3]? = some (.int v_3) ∧ (∃ v_5 : Int32, fs_1[1]? = some (.int v_5) ∧ Rt (some (.int ((v_3 + v1) - v_5))) μ))) : sp_w κ x (sp_F κ x Rt Xt mc ms) k n 0 [(0, .ref a0), (1, .int v1)] [] μ := by
  refine sr_aload_n h dS_numberAt_0 rfl 0 rfl ?_
  obtain ⟨fs_1, ho_2, vc⟩ := vc
  obtain ⟨v_3, hv_4, vc⟩ := vc
  refine sr_get h inS rfl 3 (by decide) kw_360 dS_numberAt_1 ho_2 hv_4 ?_
  refine sr_iload_n h dS_numberAt_4 rfl 1 rfl ?_
  refine sr_iadd h dS_numberAt_5 ?_
  refine sr_aload_n h dS_numberAt_6 rfl 0 rfl ?_
  obtain ⟨v_5, hv_6, vc⟩ := vc
  refine sr_get h inS rfl 1 (by decide) kw_356 dS_numberAt_7 ho_2 hv_6 ?_
  refine sr_isub h dS_numberAt_10 ?_
  exact sr_iret h dS_numberAt_11 hk.1 hk.2 vc
theorem opS_numberAt {l : Launch} {κ : sp_K} {mc ms : Nat} {Rt : Option Value → sp_M → Prop} {Xt : String → sp_M → Prop} {μ : sp_M} {a0 : Nat} {v1 : Int32} (htr : l.stackTraces = false) (body : ∀ x : sp_X, x.2.1.stackTraces = false → cxS_numberAt κ x mc ms → sp_w κ x (sp_F κ x Rt Xt mc ms) 0 0 0 [(0, .ref a0), (1, .int v1)] [] μ) : sp_m l κ yS_numberAt wS_numberAt 0 0 mc ms [.ref a0, .int v1] μ Rt Xt :=
  sp_open htr (by decide +kernel) rfl (Nat.le_of_ble_eq_true rfl) (by intro v hv; simp only [List.mem_cons, List.not_mem_nil, or_false] at hv; rcases hv with rfl | rfl <;> first | rfl | exact sp_c1o _) (fun x hx h => body x (by rw [hx]; exact htr) h)

abbrev cxS_placeOfNumber (κ : sp_K) (x : sp_X) (mc ms : Nat) : Prop := sp_C κ x cS_placeOfNumber 2 RS (some .int) [] "placeOfNumber" (sp_rm 0 0 mc ms)
set_option maxRecDepth 100000 in
set_option maxHeartbeats 4000000 in
theorem bkS_placeOfNumber_0 {κ : sp_K} {x : sp_X} {mc ms : Nat} {Rt : Option Value → sp_M → Prop} {Xt : String → sp_M → Prop} {μ : sp_M} {k n : Nat} {a0 : Nat} {v1 : Int32} (h : cxS_placeOfNumber κ x mc ms) (hk : k ≤ mc ∧ n ≤ ms)
    (vc : (∃ fs_1 : List Value, μ a0 = some (.inr (1, fs_1)) ∧ ∃ v_3 : Int32, fs_1[1]? = some (.int v_3) ∧ (∃ v_5 : Int32, fs_1[3]? = some (.int v_5) ∧ Rt (some (.int ((v_3 + v1) - v_5))) μ))) : sp_w κ x (sp_F κ x Rt Xt mc ms) k n 0 [(0, .ref a0), (1, .int v1)] [] μ := by
  refine sr_aload_n h dS_placeOfNumber_0 rfl 0 rfl ?_
  obtain ⟨fs_1, ho_2, vc⟩ := vc
  obtain ⟨v_3, hv_4, vc⟩ := vc
  refine sr_get h inS rfl 1 (by decide) kw_356 dS_placeOfNumber_1 ho_2 hv_4 ?_
  refine sr_iload_n h dS_placeOfNumber_4 rfl 1 rfl ?_
  refine sr_iadd h dS_placeOfNumber_5 ?_
  refine sr_aload_n h dS_placeOfNumber_6 rfl 0 rfl ?_
  obtain ⟨v_5, hv_6, vc⟩ := vc
  refine sr_get h inS rfl 3 (by decide) kw_360 dS_placeOfNumber_7 ho_2 hv_6 ?_
  refine sr_isub h dS_placeOfNumber_10 ?_
  exact sr_iret h dS_placeOfNumber_11 hk.1 hk.2 vc
theorem opS_placeOfNumber {l : Launch} {κ : sp_K} {mc ms : Nat} {Rt : Option Value → sp_M → Prop} {Xt : String → sp_M → Prop} {μ : sp_M} {a0 : Nat} {v1 : Int32} (htr : l.stackTraces = false) (body : ∀ x : sp_X, x.2.1.stackTraces = false → cxS_placeOfNumber κ x mc ms → sp_w κ x (sp_F κ x Rt Xt mc ms) 0 0 0 [(0, .ref a0), (1, .int v1)] [] μ) : sp_m l κ yS_placeOfNumber wS_placeOfNumber 0 0 mc ms [.ref a0, .int v1] μ Rt Xt :=
  sp_open htr (by decide +kernel) rfl (Nat.le_of_ble_eq_true rfl) (by intro v hv; simp only [List.mem_cons, List.not_mem_nil, or_false] at hv; rcases hv with rfl | rfl <;> first | rfl | exact sp_c1o _) (fun x hx h => body x (by rw [hx]; exact htr) h)

abbrev cxS_seenAt (κ : sp_K) (x : sp_X) (mc ms : Nat) : Prop := sp_C κ x cS_seenAt 3 RS (some .int) [] "seenAt" (sp_rm 1 21 mc ms)
set_option maxRecDepth 100000 in
set_option maxHeartbeats 4000000 in
theorem bkS_seenAt_0 {κ : sp_K} {x : sp_X} {mc ms : Nat} {Rt : Option Value → sp_M → Prop} {Xt : String → sp_M → Prop} {μ : sp_M} {k n : Nat} {a0 : Nat} {v1 : Int32} {v2 : Int32} (h : cxS_seenAt κ x mc ms) (hk : k ≤ mc ∧ n ≤ ms)
    (vc : (∃ fs_1 : List Value, μ a0 = some (.inr (1, fs_1)) ∧ ∃ r_3 : Option Nat, fs_1[0]? = some (va_rf r_3) ∧ (∃ a_5 : Nat, r_3 = some a_5 ∧ ∃ fs_6 : List Value, μ a_5 = some (.inr (0, fs_6)) ∧ ∃ v_8 : Int32, fs_6[1]? = some (.int v_8) ∧ ((¬ v2 = v_8 → (∃ r_10 : Option Nat, fs_1[5]? = some (va_rf r_10) ∧ (∃ a_12 : Nat, r_10 = some a_12 ∧ ∃ (N_13 : Nat) (f_14 : Nat → Int32), μ a_12 = some (sp_ia κ N_13 f_14) ∧ ∃ j_16 : Nat, v2 = nI j_16 ∧ j_16 < N_13 ∧ Rt (some (.int (f_14 j_16))) μ))) ∧ (v2 = v_8 → (∃ mc_19 ms_20 : Nat, (k + mc_19 ≤ mc ∧ n + ms_20 ≤ ms) ∧ sp_m x.2.1 κ yS_numberAt wS_numberAt 0 0 mc_19 ms_20 [.ref a0, .int v1] μ (fun v_22 μ_23 => ∃ v_25 : Int32, v_22 = some (.int v_25) ∧ Rt (some (.int (v_25 + 1))) μ_23) (fun E_26 μ_23 => Xt E_26 μ_23))))))) : sp_w κ x (sp_F κ x Rt Xt mc ms) k n 0 [(0, .ref a0), (1, .int v1), (2, .int v2)] [] μ := by
  refine sr_iload_n h dS_seenAt_0 rfl 2 rfl ?_
  refine sr_aload_n h dS_seenAt_1 rfl 0 rfl ?_
  obtain ⟨fs_1, ho_2, vc⟩ := vc
  obtain ⟨r_3, hv_4, vc⟩ := vc
  refine sr_get h inS rfl 0 (by decide) kw_354 dS_seenAt_2 ho_2 hv_4 ?_
  obtain ⟨a_5, rfl, vc⟩ := vc
  obtain ⟨fs_6, ho_7, vc⟩ := vc
  obtain ⟨v_8, hv_9, vc⟩ := vc
  refine sr_get h inA rfl 1 (by decide) kw_318 dS_seenAt_5 ho_7 hv_9 ?_
  refine sr_icmp_ne (tgt := 21) h dS_seenAt_8 (by decide) (fun c_27 => ?_) (fun c_27 => ?_)
  · replace vc := vc.1 c_27
    refine sr_aload_n h dS_seenAt_21 rfl 0 rfl ?_
    obtain ⟨r_10, hv_11, vc⟩ := vc
    refine sr_get h inS rfl 5 (by decide) kw_363 dS_seenAt_22 ho_2 hv_11 ?_
    refine sr_iload_n h dS_seenAt_25 rfl 2 rfl ?_
    obtain ⟨a_12, rfl, vc⟩ := vc
    obtain ⟨N_13, f_14, ho_15, vc⟩ := vc
    obtain ⟨j_16, hi_17, hj_18, vc⟩ := vc
    refine sr_iald h dS_seenAt_26 ho_15 hi_17 hj_18 ?_
    exact sr_iret h dS_seenAt_27 hk.1 hk.2 vc
  · replace vc := vc.2 c_27
    refine sr_aload_n h dS_seenAt_11 rfl 0 rfl ?_
    refine sr_iload_n h dS_seenAt_12 rfl 1 rfl ?_
    obtain ⟨mc_19, ms_20, hc_21, vc⟩ := vc
    refine sr_callV (y := yS_numberAt) (n0 := 1) (As := [.int v1]) h (sp_gV kw_197 kw_198 kw_199 kw_47 kw_200) rfl (by decide +kernel) ⟨Nat.le_of_ble_eq_true rfl, Nat.le_of_ble_eq_true rfl⟩ (ci := 1) rfl dS_seenAt_13 rfl rfl (Nat.le_of_ble_eq_true rfl) hc_21 ho_2 vc (fun v_22 μ_23 vc' => ?_) (fun E_26 μ_23 vc' => ?_)
    · replace vc := vc'
      clear vc'
      obtain ⟨v_25, rfl, vc⟩ := vc
      refine sr_iconst (v := 1) h dS_seenAt_16 (by decide) ?_
      refine sr_iadd h dS_seenAt_17 ?_
      refine sr_goto (tgt := 27) h dS_seenAt_18 (by decide) ?_
      exact sr_iret h dS_seenAt_27 hc_21.1 hc_21.2 vc
    · replace vc := vc'
      clear vc'
      exact st_out h (fun _ z => nomatch z) hc_21.1 hc_21.2 vc
theorem opS_seenAt {l : Launch} {κ : sp_K} {mc ms : Nat} {Rt : Option Value → sp_M → Prop} {Xt : String → sp_M → Prop} {μ : sp_M} {a0 : Nat} {v1 : Int32} {v2 : Int32} (htr : l.stackTraces = false) (body : ∀ x : sp_X, x.2.1.stackTraces = false → cxS_seenAt κ x mc ms → sp_w κ x (sp_F κ x Rt Xt mc ms) 0 0 0 [(0, .ref a0), (1, .int v1), (2, .int v2)] [] μ) : sp_m l κ yS_seenAt wS_seenAt 1 21 mc ms [.ref a0, .int v1, .int v2] μ Rt Xt :=
  sp_open htr (by decide +kernel) rfl (Nat.le_of_ble_eq_true rfl) (by intro v hv; simp only [List.mem_cons, List.not_mem_nil, or_false] at hv; rcases hv with rfl | rfl | rfl <;> first | rfl | exact sp_c1o _) (fun x hx h => body x (by rw [hx]; exact htr) h)

abbrev cxA_init (κ : sp_K) (x : sp_X) (mc ms : Nat) : Prop := sp_C κ x cA_init 3 RA none [] "<init>" (sp_rm 1 22 mc ms)
set_option maxRecDepth 100000 in
set_option maxHeartbeats 4000000 in
theorem bkA_init_0 {κ : sp_K} {x : sp_X} {mc ms : Nat} {Rt : Option Value → sp_M → Prop} {Xt : String → sp_M → Prop} {μ : sp_M} {k n : Nat} {a0 : Nat} {v1 : Int32} {v2 : Int32} (h : cxA_init κ x mc ms) (hk : k ≤ mc ∧ n ≤ ms)
    (vc : (∃ fs_1 : List Value, μ a0 = some (.inr (0, fs_1)) ∧ 2 < fs_1.length ∧ ∀ μ_3 : sp_M, μ_3 = va_up μ a0 (some (.inr (0, fs_1.set 2 (.int 0)))) → (∃ fs_5 : List Value, μ_3 a0 = some (.inr (0, fs_5)) ∧ 3 < fs_5.length ∧ ∀ μ_7 : sp_M, μ_7 = va_up μ_3 a0 (some (.inr (0, fs_5.set 3 (.int (-1))))) → (∃ fs_9 : List Value, μ_7 a0 = some (.inr (0, fs_9)) ∧ 4 < fs_9.length ∧ (narrow (tyA 4) (.int 0) = (.int 0) ∧ fits (tyA 4) (.int 0) = true) ∧ ∀ μ_11 : sp_M, μ_11 = va_up μ_7 a0 (some (.inr (0, fs_9.set 4 (.int 0)))) → (∃ fs_14 : List Value, μ_11 a0 = some (.inr (0, fs_14)) ∧ 5 < fs_14.length ∧ ∀ μ_16 : sp_M, μ_16 = va_up μ_11 a0 (some (.inr (0, fs_14.set 5 (.null)))) → (∃ fs_18 : List Value, μ_16 a0 = some (.inr (0, fs_18)) ∧ 0 < fs_18.length ∧ ∀ μ_20 : sp_M, μ_20 = va_up μ_16 a0 (some (.inr (0, fs_18.set 0 (.int v1)))) → (∃ fs_22 : List Value, μ_20 a0 = some (.inr (0, fs_22)) ∧ 1 < fs_22.length ∧ ∀ μ_24 : sp_M, μ_24 = va_up μ_20 a0 (some (.inr (0, fs_22.set 1 (.int v2)))) → Rt none μ_24))))))) : sp_w κ x (sp_F κ x Rt Xt mc ms) k n 0 [(0, .ref a0), (1, .int v1), (2, .int v2)] [] μ := by
  refine sr_aload_n h dA_init_0 rfl 0 rfl ?_
  refine sr_objInit h kw_313 kw_54 kw_oi dA_init_1 (Nat.le_of_ble_eq_true rfl) (Nat.le_of_ble_eq_true rfl) ?_
  refine sr_aload_n h dA_init_4 rfl 0 rfl ?_
  refine sr_iconst (v := 0) h dA_init_5 (by decide) ?_
  obtain ⟨fs_1, ho_2, vc⟩ := vc
  obtain ⟨hl_4, vc⟩ := vc
  replace vc := vc _ rfl
  refine sr_put h inA tyA tyA_ok nmA rfl 2 (by decide) kw_319 rfl dA_init_6 ho_2 rfl rfl hl_4 ?_
  refine sr_aload_n h dA_init_9 rfl 0 rfl ?_
  refine sr_iconst (v := -1) h dA_init_10 (by decide) ?_
  obtain ⟨fs_5, ho_6, vc⟩ := vc
  obtain ⟨hl_8, vc⟩ := vc
  replace vc := vc _ rfl
  refine sr_put h inA tyA tyA_ok nmA rfl 3 (by decide) kw_322 rfl dA_init_11 ho_6 rfl rfl hl_8 ?_
  refine sr_aload_n h dA_init_14 rfl 0 rfl ?_
  refine sr_iconst (v := 0) h dA_init_15 (by decide) ?_
  obtain ⟨fs_9, ho_10, vc⟩ := vc
  obtain ⟨hl_12, hn_13, vc⟩ := vc
  replace vc := vc _ rfl
  refine sr_put h inA tyA tyA_ok nmA rfl 4 (by decide) kw_324 rfl dA_init_16 ho_10 hn_13.1 hn_13.2 hl_12 ?_
  refine sr_aload_n h dA_init_19 rfl 0 rfl ?_
  refine sr_null h dA_init_20 ?_
  obtain ⟨fs_14, ho_15, vc⟩ := vc
  obtain ⟨hl_17, vc⟩ := vc
  replace vc := vc _ rfl
  refine sr_put h inA tyA tyA_ok nmA rfl 5 (by decide) kw_326 rfl dA_init_21 ho_15 rfl rfl hl_17 ?_
  refine sr_aload_n h dA_init_24 rfl 0 rfl ?_
  refine sr_iload_n h dA_init_25 rfl 1 rfl ?_
  obtain ⟨fs_18, ho_19, vc⟩ := vc
  obtain ⟨hl_21, vc⟩ := vc
  replace vc := vc _ rfl
  refine sr_putF h rfl inA tyA tyA_ok nmA rfl 0 (by decide) kw_314 rfl rfl dA_init_26 ho_19 rfl rfl hl_21 ?_
  refine sr_aload_n h dA_init_29 rfl 0 rfl ?_
  refine sr_iload_n h dA_init_30 rfl 2 rfl ?_
  obtain ⟨fs_22, ho_23, vc⟩ := vc
  obtain ⟨hl_25, vc⟩ := vc
  replace vc := vc _ rfl
  refine sr_putF h rfl inA tyA tyA_ok nmA rfl 1 (by decide) kw_316 rfl rfl dA_init_31 ho_23 rfl rfl hl_25 ?_
  exact sr_vret h dA_init_34 hk.1 hk.2 vc
theorem opA_init {l : Launch} {κ : sp_K} {mc ms : Nat} {Rt : Option Value → sp_M → Prop} {Xt : String → sp_M → Prop} {μ : sp_M} {a0 : Nat} {v1 : Int32} {v2 : Int32} (htr : l.stackTraces = false) (body : ∀ x : sp_X, x.2.1.stackTraces = false → cxA_init κ x mc ms → sp_w κ x (sp_F κ x Rt Xt mc ms) 0 0 0 [(0, .ref a0), (1, .int v1), (2, .int v2)] [] μ) : sp_m l κ yA_init wA_init 1 22 mc ms [.ref a0, .int v1, .int v2] μ Rt Xt :=
  sp_open htr (by decide +kernel) rfl (Nat.le_of_ble_eq_true rfl) (by intro v hv; simp only [List.mem_cons, List.not_mem_nil, or_false] at hv; rcases hv with rfl | rfl | rfl <;> first | rfl | exact sp_c1o _) (fun x hx h => body x (by rw [hx]; exact htr) h)

abbrev cxS_init (κ : sp_K) (x : sp_X) (mc ms : Nat) : Prop := sp_C κ x cS_init 7 RS none [] "<init>" (sp_rm 1 25 mc ms)
set_option maxRecDepth 100000 in
set_option maxHeartbeats 4000000 in
theorem bkS_init_0 {κ : sp_K} {x : sp_X} {mc ms : Nat} {Rt : Option Value → sp_M → Prop} {Xt : String → sp_M → Prop} {μ : sp_M} {k n : Nat} {a0 : Nat} {a1 : Nat} {v2 : Int32} {v3 : Int32} {a4 : Nat} {a5 : Nat} {r6 : Option Nat} (h : cxS_init κ x mc ms) (hk : k ≤ mc ∧ n ≤ ms)
    (vc : (∃ fs_1 : List Value, μ a0 = some (.inr (1, fs_1)) ∧ 0 < fs_1.length ∧ ∀ μ_3 : sp_M, μ_3 = va_up μ a0 (some (.inr (1, fs_1.set 0 (.ref a1)))) → (∃ fs_5 : List Value, μ_3 a0 = some (.inr (1, fs_5)) ∧ 1 < fs_5.length ∧ ∀ μ_7 : sp_M, μ_7 = va_up μ_3 a0 (some (.inr (1, fs_5.set 1 (.int v2)))) → (∃ fs_9 : List Value, μ_7 a0 = some (.inr (1, fs_9)) ∧ 2 < fs_9.length ∧ ∀ μ_11 : sp_M, μ_11 = va_up μ_7 a0 (some (.inr (1, fs_9.set 2 (.int ((v2 + v3) - 1))))) → (∃ fs_13 : List Value, μ_11 a1 = some (.inr (0, fs_13)) ∧ ∃ v_15 : Int32, fs_13[2]? = some (.int v_15) ∧ (∃ fs_17 : List Value, μ_11 a0 = some (.inr (1, fs_17)) ∧ 3 < fs_17.length ∧ ∀ μ_19 : sp_M, μ_19 = va_up μ_11 a0 (some (.inr (1, fs_17.set 3 (.int v_15)))) → (∃ fs_21 : List Value, μ_19 a0 = some (.inr (1, fs_21)) ∧ 4 < fs_21.length ∧ ∀ μ_23 : sp_M, μ_23 = va_up μ_19 a0 (some (.inr (1, fs_21.set 4 (.ref a4)))) → (∃ fs_25 : List Value, μ_23 a0 = some (.inr (1, fs_25)) ∧ 5 < fs_25.length ∧ ∀ μ_27 : sp_M, μ_27 = va_up μ_23 a0 (some (.inr (1, fs_25.set 5 (.ref a5)))) → (∃ mc_29 ms_30 : Nat, (k + mc_29 ≤ mc ∧ n + ms_30 ≤ ms) ∧ sp_m x.2.1 κ yS_sum wS_sum 0 0 mc_29 ms_30 [.ref a5] μ_27 (fun v_32 μ_33 => ∃ v_35 : Int32, v_32 = some (.int v_35) ∧ ((¬ v_35 = (v2 + 1) → sp_w κ x (sp_F κ x Rt Xt mc ms) (k + mc_29) (n + ms_30) 60 [(0, .ref a0), (1, .ref a1), (2, .int v2), (3, .int v3), (4, .ref a4), (5, .ref a5), (6, va_rf r6)] [.int 0, .ref a0] μ_33) ∧ (v_35 = (v2 + 1) → sp_w κ x (sp_F κ x Rt Xt mc ms) (k + mc_29) (n + ms_30) 60 [(0, .ref a0), (1, .ref a1), (2, .int v2), (3, .int v3), (4, .ref a4), (5, .ref a5), (6, va_rf r6)] [.int 1, .ref a0] μ_33))) (fun E_37 μ_33 => Xt E_37 μ_33)))))))))) : sp_w κ x (sp_F κ x Rt Xt mc ms) k n 0 [(0, .ref a0), (1, .ref a1), (2, .int v2), (3, .int v3), (4, .ref a4), (5, .ref a5), (6, va_rf r6)] [] μ := by
  refine sr_aload_n h dS_init_0 rfl 0 rfl ?_
  refine sr_objInit h kw_350 kw_54 kw_oi dS_init_1 (Nat.le_of_ble_eq_true rfl) (Nat.le_of_ble_eq_true rfl) ?_
  refine sr_aload_n h dS_init_4 rfl 0 rfl ?_
  refine sr_aload_n h dS_init_5 rfl 1 rfl ?_
  obtain ⟨fs_1, ho_2, vc⟩ := vc
  obtain ⟨hl_4, vc⟩ := vc
  replace vc := vc _ rfl
  refine sr_putF h rfl inS tyS tyS_ok nmS rfl 0 (by decide) kw_354 rfl rfl dS_init_6 ho_2 rfl rfl hl_4 ?_
  refine sr_aload_n h dS_init_9 rfl 0 rfl ?_
  refine sr_iload_n h dS_init_10 rfl 2 rfl ?_
  obtain ⟨fs_5, ho_6, vc⟩ := vc
  obtain ⟨hl_8, vc⟩ := vc
  replace vc := vc _ rfl
  refine sr_putF h rfl inS tyS tyS_ok nmS rfl 1 (by decide) kw_356 rfl rfl dS_init_11 ho_6 rfl rfl hl_8 ?_
  refine sr_aload_n h dS_init_14 rfl 0 rfl ?_
  refine sr_iload_n h dS_init_15 rfl 2 rfl ?_
  refine sr_iload_n h dS_init_16 rfl 3 rfl ?_
  refine sr_iadd h dS_init_17 ?_
  refine sr_iconst (v := 1) h dS_init_18 (by decide) ?_
  refine sr_isub h dS_init_19 ?_
  obtain ⟨fs_9, ho_10, vc⟩ := vc
  obtain ⟨hl_12, vc⟩ := vc
  replace vc := vc _ rfl
  refine sr_putF h rfl inS tyS tyS_ok nmS rfl 2 (by decide) kw_358 rfl rfl dS_init_20 ho_10 rfl rfl hl_12 ?_
  refine sr_aload_n h dS_init_23 rfl 0 rfl ?_
  refine sr_aload_n h dS_init_24 rfl 1 rfl ?_
  obtain ⟨fs_13, ho_14, vc⟩ := vc
  obtain ⟨v_15, hv_16, vc⟩ := vc
  refine sr_get h inA rfl 2 (by decide) kw_320 dS_init_25 ho_14 hv_16 ?_
  obtain ⟨fs_17, ho_18, vc⟩ := vc
  obtain ⟨hl_20, vc⟩ := vc
  replace vc := vc _ rfl
  refine sr_putF h rfl inS tyS tyS_ok nmS rfl 3 (by decide) kw_360 rfl rfl dS_init_28 ho_18 rfl rfl hl_20 ?_
  refine sr_aload_n h dS_init_31 rfl 0 rfl ?_
  refine sr_aload h dS_init_32 4 rfl ?_
  obtain ⟨fs_21, ho_22, vc⟩ := vc
  obtain ⟨hl_24, vc⟩ := vc
  replace vc := vc _ rfl
  refine sr_putF h rfl inS tyS tyS_ok nmS rfl 4 (by decide) kw_361 rfl rfl dS_init_34 ho_22 rfl rfl hl_24 ?_
  refine sr_aload_n h dS_init_37 rfl 0 rfl ?_
  refine sr_aload h dS_init_38 5 rfl ?_
  obtain ⟨fs_25, ho_26, vc⟩ := vc
  obtain ⟨hl_28, vc⟩ := vc
  replace vc := vc _ rfl
  refine sr_putF h rfl inS tyS tyS_ok nmS rfl 5 (by decide) kw_363 rfl rfl dS_init_40 ho_26 rfl rfl hl_28 ?_
  refine sr_aload_n h dS_init_43 rfl 0 rfl ?_
  refine sr_aload h dS_init_44 5 rfl ?_
  obtain ⟨mc_29, ms_30, hc_31, vc⟩ := vc
  refine sr_callS (y := yS_sum) (n0 := 1) (As := [.ref a5]) (st := [.ref a0]) h (sp_gS kw_351 kw_352 kw_47 kw_353) rfl (by decide +kernel) ⟨Nat.le_of_ble_eq_true rfl, Nat.le_of_ble_eq_true rfl⟩ dS_init_46 rfl rfl (Nat.le_of_ble_eq_true rfl) hc_31 vc (fun v_32 μ_33 vc' => ?_) (fun E_37 μ_33 vc' => ?_)
  · replace vc := vc'
    clear vc'
    obtain ⟨v_35, rfl, vc⟩ := vc
    refine sr_iload_n h dS_init_49 rfl 2 rfl ?_
    refine sr_iconst (v := 1) h dS_init_50 (by decide) ?_
    refine sr_iadd h dS_init_51 ?_
    refine sr_icmp_ne (tgt := 59) h dS_init_52 (by decide) (fun c_36 => ?_) (fun c_36 => ?_)
    · replace vc := vc.1 c_36
      refine sr_iconst (v := 0) h dS_init_59 (by decide) ?_
      exact vc
    · replace vc := vc.2 c_36
      refine sr_iconst (v := 1) h dS_init_55 (by decide) ?_
      refine sr_goto (tgt := 60) h dS_init_56 (by decide) ?_
      exact vc
  · replace vc := vc'
    clear vc'
    exact st_out h (fun _ z => nomatch z) hc_31.1 hc_31.2 vc
set_option maxRecDepth 100000 in
set_option maxHeartbeats 4000000 in
theorem bkS_init_60 {κ : sp_K} {x : sp_X} {mc ms : Nat} {Rt : Option Value → sp_M → Prop} {Xt : String → sp_M → Prop} {μ : sp_M} {k n : Nat} {a0 : Nat} {a1 : Nat} {v2 : Int32} {v3 : Int32} {a4 : Nat} {a5 : Nat} {r6 : Option Nat} {as0 : Nat} {vs1 : Int32} (h : cxS_init κ x mc ms) (hk : k ≤ mc ∧ n ≤ ms)
    (vc : (∃ fs_1 : List Value, μ as0 = some (.inr (1, fs_1)) ∧ 6 < fs_1.length ∧ (narrow (tyS 6) (.int vs1) = (.int vs1) ∧ fits (tyS 6) (.int vs1) = true) ∧ ∀ μ_3 : sp_M, μ_3 = va_up μ as0 (some (.inr (1, fs_1.set 6 (.int vs1)))) → (∃ fs_6 : List Value, μ_3 a0 = some (.inr (1, fs_6)) ∧ 7 < fs_6.length ∧ ∀ μ_8 : sp_M, μ_8 = va_up μ_3 a0 (some (.inr (1, fs_6.set 7 (va_rf r6)))) → (∃ fs_10 : List Value, μ_8 a1 = some (.inr (0, fs_10)) ∧ ∃ r_12 : Option Nat, fs_10[5]? = some (va_rf r_12) ∧ (∃ fs_14 : List Value, μ_8 a0 = some (.inr (1, fs_14)) ∧ 8 < fs_14.length ∧ ∀ μ_16 : sp_M, μ_16 = va_up μ_8 a0 (some (.inr (1, fs_14.set 8 (va_rf r_12)))) → Rt none μ_16))))) : sp_w κ x (sp_F κ x Rt Xt mc ms) k n 60 [(0, .ref a0), (1, .ref a1), (2, .int v2), (3, .int v3), (4, .ref a4), (5, .ref a5), (6, va_rf r6)] [.int vs1, .ref as0] μ := by
  obtain ⟨fs_1, ho_2, vc⟩ := vc
  obtain ⟨hl_4, hn_5, vc⟩ := vc
  replace vc := vc _ rfl
  refine sr_putF h rfl inS tyS tyS_ok nmS rfl 6 (by decide) kw_364 rfl rfl dS_init_60 ho_2 hn_5.1 hn_5.2 hl_4 ?_
  refine sr_aload_n h dS_init_63 rfl 0 rfl ?_
  refine sr_aloadO h dS_init_64 6 rfl ?_
  obtain ⟨fs_6, ho_7, vc⟩ := vc
  obtain ⟨hl_9, vc⟩ := vc
  replace vc := vc _ rfl
  refine sr_putF h rfl inS tyS tyS_ok nmS rfl 7 (by decide) kw_366 rfl rfl dS_init_66 ho_7 (by cases r6 <;> rfl) (by cases r6 <;> rfl) hl_9 ?_
  refine sr_aload_n h dS_init_69 rfl 0 rfl ?_
  refine sr_aload_n h dS_init_70 rfl 1 rfl ?_
  obtain ⟨fs_10, ho_11, vc⟩ := vc
  obtain ⟨r_12, hv_13, vc⟩ := vc
  refine sr_get h inA rfl 5 (by decide) kw_327 dS_init_71 ho_11 hv_13 ?_
  obtain ⟨fs_14, ho_15, vc⟩ := vc
  obtain ⟨hl_17, vc⟩ := vc
  replace vc := vc _ rfl
  refine sr_putF h rfl inS tyS tyS_ok nmS rfl 8 (by decide) kw_368 rfl rfl dS_init_74 ho_15 (by cases r_12 <;> rfl) (by cases r_12 <;> rfl) hl_17 ?_
  exact sr_vret h dS_init_77 hk.1 hk.2 vc
theorem opS_init {l : Launch} {κ : sp_K} {mc ms : Nat} {Rt : Option Value → sp_M → Prop} {Xt : String → sp_M → Prop} {μ : sp_M} {a0 : Nat} {a1 : Nat} {v2 : Int32} {v3 : Int32} {a4 : Nat} {a5 : Nat} {r6 : Option Nat} (htr : l.stackTraces = false) (body : ∀ x : sp_X, x.2.1.stackTraces = false → cxS_init κ x mc ms → sp_w κ x (sp_F κ x Rt Xt mc ms) 0 0 0 [(0, .ref a0), (1, .ref a1), (2, .int v2), (3, .int v3), (4, .ref a4), (5, .ref a5), (6, va_rf r6)] [] μ) : sp_m l κ yS_init wS_init 1 25 mc ms [.ref a0, .ref a1, .int v2, .int v3, .ref a4, .ref a5, va_rf r6] μ Rt Xt :=
  sp_open htr (by decide +kernel) rfl (by cases r6 <;> exact Nat.le_of_ble_eq_true rfl) (by intro v hv; simp only [List.mem_cons, List.not_mem_nil, or_false] at hv; rcases hv with rfl | rfl | rfl | rfl | rfl | rfl | rfl <;> first | rfl | exact sp_c1o _) (fun x hx h => body x (by rw [hx]; exact htr) h)

abbrev cxS_sum (κ : sp_K) (x : sp_X) (mc ms : Nat) : Prop := sp_C κ x cS_sum 6 RS (some .int) [] "sum" (sp_rm 0 0 mc ms)
set_option maxRecDepth 100000 in
set_option maxHeartbeats 4000000 in
theorem bkS_sum_0 {κ : sp_K} {x : sp_X} {mc ms : Nat} {Rt : Option Value → sp_M → Prop} {Xt : String → sp_M → Prop} {μ : sp_M} {k n : Nat} {a0 : Nat} (h : cxS_sum κ x mc ms) (hk : k ≤ mc ∧ n ≤ ms)
    (vc : (∃ (N_1 : Nat) (f_2 : Nat → Int32), μ a0 = some (sp_ia κ N_1 f_2) ∧ sp_w κ x (sp_F κ x Rt Xt mc ms) k n 10 [(0, .ref a0), (1, .int 0), (2, .ref a0), (3, .int (nI N_1)), (4, .int 0)] [] μ)) : sp_w κ x (sp_F κ x Rt Xt mc ms) k n 0 [(0, .ref a0)] [] μ := by
  refine sr_iconst (v := 0) h dS_sum_0 (by decide) ?_
  refine sr_istore_n (lv' := [(0, .ref a0), (1, .int 0)]) h dS_sum_1 rfl (by decide) rfl ?_
  refine sr_aload_n h dS_sum_2 rfl 0 rfl ?_
  refine sr_astore_n (lv' := [(0, .ref a0), (1, .int 0), (2, .ref a0)]) h dS_sum_3 rfl (by decide) rfl ?_
  refine sr_aload_n h dS_sum_4 rfl 2 rfl ?_
  obtain ⟨N_1, f_2, ho_3, vc⟩ := vc
  refine sr_alen (t := 0) h dS_sum_5 ho_3 rfl ?_
  refine sr_istore_n (lv' := [(0, .ref a0), (1, .int 0), (2, .ref a0), (3, .int (nI N_1))]) h dS_sum_6 rfl (by decide) rfl ?_
  refine sr_iconst (v := 0) h dS_sum_7 (by decide) ?_
  refine sr_istore (lv' := [(0, .ref a0), (1, .int 0), (2, .ref a0), (3, .int (nI N_1)), (4, .int 0)]) h dS_sum_8 (by decide) rfl ?_
  exact vc
set_option maxRecDepth 100000 in
set_option maxHeartbeats 4000000 in
theorem bkS_sum_10 {κ : sp_K} {x : sp_X} {mc ms : Nat} {Rt : Option Value → sp_M → Prop} {Xt : String → sp_M → Prop} {μ : sp_M} {k n : Nat} {a0 : Nat} {v1 : Int32} {a2 : Nat} {v3 : Int32} {v4 : Int32} (h : cxS_sum κ x mc ms) (hk : k ≤ mc ∧ n ≤ ms)
    (vc : ((v3 ≤ v4 → Rt (some (.int v1)) μ) ∧ (¬ v3 ≤ v4 → (∃ (N_1 : Nat) (f_2 : Nat → Int32), μ a2 = some (sp_ia κ N_1 f_2) ∧ ∃ j_4 : Nat, v4 = nI j_4 ∧ j_4 < N_1 ∧ sp_w κ x (sp_F κ x Rt Xt mc ms) k n 10 [(0, .ref a0), (1, .int (v1 + (f_2 j_4))), (2, .ref a2), (3, .int v3), (4, .int (v4 + 1))] [] μ)))) : sp_w κ x (sp_F κ x Rt Xt mc ms) k n 10 [(0, .ref a0), (1, .int v1), (2, .ref a2), (3, .int v3), (4, .int v4)] [] μ := by
  refine sr_iload h dS_sum_10 4 rfl ?_
  refine sr_iload_n h dS_sum_12 rfl 3 rfl ?_
  refine sr_icmp_ge (tgt := 33) h dS_sum_13 (by decide) (fun c_7 => ?_) (fun c_7 => ?_)
  · replace vc := vc.1 c_7
    refine sr_iload_n h dS_sum_33 rfl 1 rfl ?_
    exact sr_iret h dS_sum_34 hk.1 hk.2 vc
  · replace vc := vc.2 c_7
    refine sr_aload_n h dS_sum_16 rfl 2 rfl ?_
    refine sr_iload h dS_sum_17 4 rfl ?_
    obtain ⟨N_1, f_2, ho_3, vc⟩ := vc
    obtain ⟨j_4, hi_5, hj_6, vc⟩ := vc
    refine sr_iald h dS_sum_19 ho_3 hi_5 hj_6 ?_
    refine sr_istore (lv' := [(0, .ref a0), (1, .int v1), (2, .ref a2), (3, .int v3), (4, .int v4), (5, .int (f_2 j_4))]) h dS_sum_20 (by decide) rfl ?_
    refine sr_iload_n h dS_sum_22 rfl 1 rfl ?_
    refine sr_iload h dS_sum_23 5 rfl ?_
    refine sr_iadd h dS_sum_25 ?_
    refine sr_istore_n (lv' := [(0, .ref a0), (1, .int (v1 + (f_2 j_4))), (2, .ref a2), (3, .int v3), (4, .int v4), (5, .int (f_2 j_4))]) h dS_sum_26 rfl (by decide) rfl ?_
    refine sr_iinc (u := v4 + 1) (lv' := [(0, .ref a0), (1, .int (v1 + (f_2 j_4))), (2, .ref a2), (3, .int v3), (4, .int (v4 + 1)), (5, .int (f_2 j_4))]) h dS_sum_27 4 rfl rfl (by decide) rfl ?_
    refine sr_goto (tgt := 10) h dS_sum_30 (by decide) ?_
    exact sr_sub (lv' := [(0, .ref a0), (1, .int (v1 + (f_2 j_4))), (2, .ref a2), (3, .int v3), (4, .int (v4 + 1))]) [0, 1, 2, 3, 4] rfl vc
theorem opS_sum {l : Launch} {κ : sp_K} {mc ms : Nat} {Rt : Option Value → sp_M → Prop} {Xt : String → sp_M → Prop} {μ : sp_M} {a0 : Nat} (htr : l.stackTraces = false) (body : ∀ x : sp_X, x.2.1.stackTraces = false → cxS_sum κ x mc ms → sp_w κ x (sp_F κ x Rt Xt mc ms) 0 0 0 [(0, .ref a0)] [] μ) : sp_m l κ yS_sum wS_sum 0 0 mc ms [.ref a0] μ Rt Xt :=
  sp_open htr (by decide +kernel) rfl (Nat.le_of_ble_eq_true rfl) (by intro v hv; simp only [List.mem_cons, List.not_mem_nil, or_false] at hv; subst hv; first | rfl | exact sp_c1o _) (fun x hx h => body x (by rw [hx]; exact htr) h)
