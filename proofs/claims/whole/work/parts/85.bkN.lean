/-! blocks of M_init, their words (laid by wip/whole/gen2.py) -/
theorem kw_450 : (Jvm.Cond.methodLink "EventSpansModel" (1 : Nat) ({ cls := "java/lang/Object", name := "<init>", desc := "()V" } : Jvm.MethodName)) ∈ sp_wa := sp_in (i := 450) (by decide +kernel) (by decide +kernel)
theorem kw_451 : (Jvm.Cond.classLink "EventSpansModel" (16 : Nat) "[[I") ∈ sp_wa := sp_in (i := 451) (by decide +kernel) (by decide +kernel)
theorem kw_453 : (Jvm.Cond.constant "EventSpansModel" (31 : Nat) (131072 : Int32)) ∈ sp_wa := sp_in (i := 453) (by decide +kernel) (by decide +kernel)
theorem kw_497 : (Jvm.Cond.arrayClass Jvm.ClassFile.FieldType.short) ∈ sp_wa := sp_in (i := 497) (by decide +kernel) (by decide +kernel)
abbrev cxM_init (κ : sp_K) (x : sp_X) (mc ms : Nat) : Prop := sp_C κ x cM_init 1 RM none [] "<init>" (sp_rm 1 22 mc ms)
set_option maxRecDepth 100000 in
set_option maxHeartbeats 4000000 in
theorem bkM_init_0 {κ : sp_K} {x : sp_X} {mc ms : Nat} {Rt : Option Value → sp_M → Prop} {Xt : String → sp_M → Prop} {μ : sp_M} {k n : Nat} {a0 : Nat} (h : cxM_init κ x mc ms) (hk : k ≤ mc ∧ n ≤ ms)
    (vc : (∃ N_1 : Nat, 16 = nI N_1 ∧ N_1 ≤ 1000000 ∧ (k + 1 ≤ mc ∧ n + N_1 ≤ ms) ∧ ∀ q_5 : Nat, μ q_5 = none → ∀ μ_7 : sp_M, μ_7 = va_up μ q_5 (some (sp_ia κ N_1 (fun _ => 0))) → (∃ fs_8 : List Value, μ_7 a0 = some (.inr (3, fs_8)) ∧ 0 < fs_8.length ∧ ∀ μ_10 : sp_M, μ_10 = va_up μ_7 a0 (some (.inr (3, fs_8.set 0 (.ref q_5)))) → (∃ N_12 : Nat, 16 = nI N_12 ∧ N_12 ≤ 1000000 ∧ ((k + 1) + 1 ≤ mc ∧ (n + N_1) + N_12 ≤ ms) ∧ ∀ q_16 : Nat, μ_10 q_16 = none → ∀ μ_18 : sp_M, μ_18 = va_up μ_10 q_16 (some (sp_ia κ N_12 (fun _ => 0))) → (∃ fs_19 : List Value, μ_18 a0 = some (.inr (3, fs_19)) ∧ 1 < fs_19.length ∧ ∀ μ_21 : sp_M, μ_21 = va_up μ_18 a0 (some (.inr (3, fs_19.set 1 (.ref q_16)))) → (∃ N_23 N_24 : Nat, 16 = nI N_23 ∧ 8 = nI N_24 ∧ N_23 ≤ 1000 ∧ N_24 ≤ 1000 ∧ ((k + 1 + 1) + 1 + N_23 ≤ mc ∧ (n + N_1 + N_12) + N_23 + N_23 * N_24 ≤ ms) ∧ ∀ q_30 : Nat, (∀ z, q_30 ≤ z → μ_21 z = none) → ∀ f_32 : Nat → Option Nat, (∀ t, t < N_23 → f_32 t = some (q_30 + 1 + t)) → ∀ μ_34 : sp_M, μ_34 = sm_rows κ N_24 q_30 (va_up μ_21 q_30 (some (sp_ra κ 5 N_23 f_32))) N_23 → (∃ fs_35 : List Value, μ_34 a0 = some (.inr (3, fs_35)) ∧ 3 < fs_35.length ∧ ∀ μ_37 : sp_M, μ_37 = va_up μ_34 a0 (some (.inr (3, fs_35.set 3 (.ref q_30)))) → (∃ N_39 : Nat, 8192 = nI N_39 ∧ N_39 ≤ 1000000 ∧ ((k + 1 + 1 + 1 + N_23) + 1 ≤ mc ∧ (n + N_1 + N_12 + N_23 + N_23 * N_24) + N_39 ≤ ms) ∧ ∀ q_43 : Nat, μ_37 q_43 = none → ∀ μ_45 : sp_M, μ_45 = va_up μ_37 q_43 (some (sp_sa κ N_39 (fun _ => 0))) → (∃ fs_46 : List Value, μ_45 a0 = some (.inr (3, fs_46)) ∧ 4 < fs_46.length ∧ ∀ μ_48 : sp_M, μ_48 = va_up μ_45 a0 (some (.inr (3, fs_46.set 4 (.ref q_43)))) → (∃ N_50 : Nat, 8192 = nI N_50 ∧ N_50 ≤ 1000000 ∧ ((k + 1 + 1 + 1 + N_23 + 1) + 1 ≤ mc ∧ (n + N_1 + N_12 + N_23 + N_23 * N_24 + N_39) + N_50 ≤ ms) ∧ ∀ q_54 : Nat, μ_48 q_54 = none → ∀ μ_56 : sp_M, μ_56 = va_up μ_48 q_54 (some (sp_sa κ N_50 (fun _ => 0))) → (∃ fs_57 : List Value, μ_56 a0 = some (.inr (3, fs_57)) ∧ 5 < fs_57.length ∧ ∀ μ_59 : sp_M, μ_59 = va_up μ_56 a0 (some (.inr (3, fs_57.set 5 (.ref q_54)))) → (∃ N_61 : Nat, 8192 = nI N_61 ∧ N_61 ≤ 1000000 ∧ ((k + 1 + 1 + 1 + N_23 + 1 + 1) + 1 ≤ mc ∧ (n + N_1 + N_12 + N_23 + N_23 * N_24 + N_39 + N_50) + N_61 ≤ ms) ∧ ∀ q_65 : Nat, μ_59 q_65 = none → ∀ μ_67 : sp_M, μ_67 = va_up μ_59 q_65 (some (sp_sa κ N_61 (fun _ => 0))) → (∃ fs_68 : List Value, μ_67 a0 = some (.inr (3, fs_68)) ∧ 6 < fs_68.length ∧ ∀ μ_70 : sp_M, μ_70 = va_up μ_67 a0 (some (.inr (3, fs_68.set 6 (.ref q_65)))) → (∃ N_72 : Nat, 131072 = nI N_72 ∧ N_72 ≤ 1000000 ∧ ((k + 1 + 1 + 1 + N_23 + 1 + 1 + 1) + 1 ≤ mc ∧ (n + N_1 + N_12 + N_23 + N_23 * N_24 + N_39 + N_50 + N_61) + N_72 ≤ ms) ∧ ∀ q_76 : Nat, μ_70 q_76 = none → ∀ μ_78 : sp_M, μ_78 = va_up μ_70 q_76 (some (sp_sa κ N_72 (fun _ => 0))) → (∃ fs_79 : List Value, μ_78 a0 = some (.inr (3, fs_79)) ∧ 7 < fs_79.length ∧ ∀ μ_81 : sp_M, μ_81 = va_up μ_78 a0 (some (.inr (3, fs_79.set 7 (.ref q_76)))) → (∃ N_83 : Nat, 131072 = nI N_83 ∧ N_83 ≤ 1000000 ∧ ((k + 1 + 1 + 1 + N_23 + 1 + 1 + 1 + 1) + 1 ≤ mc ∧ (n + N_1 + N_12 + N_23 + N_23 * N_24 + N_39 + N_50 + N_61 + N_72) + N_83 ≤ ms) ∧ ∀ q_87 : Nat, μ_81 q_87 = none → ∀ μ_89 : sp_M, μ_89 = va_up μ_81 q_87 (some (sp_sa κ N_83 (fun _ => 0))) → (∃ fs_90 : List Value, μ_89 a0 = some (.inr (3, fs_90)) ∧ 8 < fs_90.length ∧ ∀ μ_92 : sp_M, μ_92 = va_up μ_89 a0 (some (.inr (3, fs_90.set 8 (.ref q_87)))) → (∃ N_94 : Nat, 16 = nI N_94 ∧ N_94 ≤ 1000000 ∧ ((k + 1 + 1 + 1 + N_23 + 1 + 1 + 1 + 1 + 1) + 1 ≤ mc ∧ (n + N_1 + N_12 + N_23 + N_23 * N_24 + N_39 + N_50 + N_61 + N_72 + N_83) + N_94 ≤ ms) ∧ ∀ q_98 : Nat, μ_92 q_98 = none → ∀ μ_100 : sp_M, μ_100 = va_up μ_92 q_98 (some (sp_ia κ N_94 (fun _ => 0))) → (∃ fs_101 : List Value, μ_100 a0 = some (.inr (3, fs_101)) ∧ 10 < fs_101.length ∧ ∀ μ_103 : sp_M, μ_103 = va_up μ_100 a0 (some (.inr (3, fs_101.set 10 (.ref q_98)))) → (∃ N_105 : Nat, 16 = nI N_105 ∧ N_105 ≤ 1000000 ∧ ((k + 1 + 1 + 1 + N_23 + 1 + 1 + 1 + 1 + 1 + 1) + 1 ≤ mc ∧ (n + N_1 + N_12 + N_23 + N_23 * N_24 + N_39 + N_50 + N_61 + N_72 + N_83 + N_94) + N_105 ≤ ms) ∧ ∀ q_109 : Nat, μ_103 q_109 = none → ∀ μ_111 : sp_M, μ_111 = va_up μ_103 q_109 (some (sp_ia κ N_105 (fun _ => 0))) → (∃ fs_112 : List Value, μ_111 a0 = some (.inr (3, fs_112)) ∧ 12 < fs_112.length ∧ ∀ μ_114 : sp_M, μ_114 = va_up μ_111 a0 (some (.inr (3, fs_112.set 12 (.ref q_109)))) → Rt none μ_114))))))))))))))))))))) : sp_w κ x (sp_F κ x Rt Xt mc ms) k n 0 [(0, .ref a0)] [] μ := by
  refine sr_aload_n h dM_init_0 rfl 0 rfl ?_
  refine sr_objInit h kw_450 kw_54 kw_oi dM_init_1 (Nat.le_of_ble_eq_true rfl) (Nat.le_of_ble_eq_true rfl) ?_
  refine sr_aload_n h dM_init_4 rfl 0 rfl ?_
  refine sr_bipush (v := 16) h dM_init_5 (by decide) ?_
  obtain ⟨N_1, hi_2, hN_3, hc_4, vc⟩ := vc
  refine sr_newa (atype := .int) (ty := .int) (t := 0) (N := N_1) (y := (N_1, .inl fun _ => 0)) h rfl (fun _ z => nomatch z) kw_82 rfl dM_init_7 (fun _ => rfl) rfl hi_2 (by omega) (by show N_1 * 4 ≤ _; omega) hc_4.1 hc_4.2 (fun q_5 hz_6 => ?_)
  replace vc := vc q_5 hz_6 _ rfl
  obtain ⟨fs_8, ho_9, vc⟩ := vc
  obtain ⟨hl_11, vc⟩ := vc
  replace vc := vc _ rfl
  refine sr_putF h rfl inM tyM tyM_ok nmM rfl 0 (by decide) kw_454 rfl rfl dM_init_9 ho_9 rfl rfl hl_11 ?_
  refine sr_aload_n h dM_init_12 rfl 0 rfl ?_
  refine sr_bipush (v := 16) h dM_init_13 (by decide) ?_
  obtain ⟨N_12, hi_13, hN_14, hc_15, vc⟩ := vc
  refine sr_newa (atype := .int) (ty := .int) (t := 0) (N := N_12) (y := (N_12, .inl fun _ => 0)) h rfl (fun _ z => nomatch z) kw_82 rfl dM_init_15 (fun _ => rfl) rfl hi_13 (by omega) (by show N_12 * 4 ≤ _; omega) hc_15.1 hc_15.2 (fun q_16 hz_17 => ?_)
  replace vc := vc q_16 hz_17 _ rfl
  obtain ⟨fs_19, ho_20, vc⟩ := vc
  obtain ⟨hl_22, vc⟩ := vc
  replace vc := vc _ rfl
  refine sr_putF h rfl inM tyM tyM_ok nmM rfl 1 (by decide) kw_455 rfl rfl dM_init_17 ho_20 rfl rfl hl_22 ?_
  refine sr_aload_n h dM_init_20 rfl 0 rfl ?_
  refine sr_bipush (v := 16) h dM_init_21 (by decide) ?_
  refine sr_bipush (v := 8) h dM_init_23 (by decide) ?_
  obtain ⟨N_23, N_24, hi_25, hi_26, hN_27, hN_28, hc_29, vc⟩ := vc
  refine sr_mna h kw_451 kw_82 dM_init_25 hi_25 hi_26 hN_27 hN_28 (by show _ ≤ mc; omega) (by show _ ≤ ms; omega) (fun q_30 hz_31 f_32 hf_33 => ?_)
  replace vc := vc q_30 hz_31 f_32 hf_33 _ rfl
  obtain ⟨fs_35, ho_36, vc⟩ := vc
  obtain ⟨hl_38, vc⟩ := vc
  replace vc := vc _ rfl
  refine sr_putF h rfl inM tyM tyM_ok nmM rfl 3 (by decide) kw_457 rfl rfl dM_init_29 ho_36 rfl rfl hl_38 ?_
  refine sr_aload_n h dM_init_32 rfl 0 rfl ?_
  refine sr_sipush (v := 8192) h dM_init_33 (by decide) ?_
  obtain ⟨N_39, hi_40, hN_41, hc_42, vc⟩ := vc
  refine sr_newa (atype := .short) (ty := .short) (t := 1) (N := N_39) (y := (N_39, .inl fun _ => 0)) h rfl (fun _ z => nomatch z) kw_497 rfl dM_init_36 (fun _ => rfl) rfl hi_40 (by omega) (by show N_39 * 2 ≤ _; omega) hc_42.1 hc_42.2 (fun q_43 hz_44 => ?_)
  replace vc := vc q_43 hz_44 _ rfl
  obtain ⟨fs_46, ho_47, vc⟩ := vc
  obtain ⟨hl_49, vc⟩ := vc
  replace vc := vc _ rfl
  refine sr_putF h rfl inM tyM tyM_ok nmM rfl 4 (by decide) kw_458 rfl rfl dM_init_38 ho_47 rfl rfl hl_49 ?_
  refine sr_aload_n h dM_init_41 rfl 0 rfl ?_
  refine sr_sipush (v := 8192) h dM_init_42 (by decide) ?_
  obtain ⟨N_50, hi_51, hN_52, hc_53, vc⟩ := vc
  refine sr_newa (atype := .short) (ty := .short) (t := 1) (N := N_50) (y := (N_50, .inl fun _ => 0)) h rfl (fun _ z => nomatch z) kw_497 rfl dM_init_45 (fun _ => rfl) rfl hi_51 (by omega) (by show N_50 * 2 ≤ _; omega) hc_53.1 hc_53.2 (fun q_54 hz_55 => ?_)
  replace vc := vc q_54 hz_55 _ rfl
  obtain ⟨fs_57, ho_58, vc⟩ := vc
  obtain ⟨hl_60, vc⟩ := vc
  replace vc := vc _ rfl
  refine sr_putF h rfl inM tyM tyM_ok nmM rfl 5 (by decide) kw_459 rfl rfl dM_init_47 ho_58 rfl rfl hl_60 ?_
  refine sr_aload_n h dM_init_50 rfl 0 rfl ?_
  refine sr_sipush (v := 8192) h dM_init_51 (by decide) ?_
  obtain ⟨N_61, hi_62, hN_63, hc_64, vc⟩ := vc
  refine sr_newa (atype := .short) (ty := .short) (t := 1) (N := N_61) (y := (N_61, .inl fun _ => 0)) h rfl (fun _ z => nomatch z) kw_497 rfl dM_init_54 (fun _ => rfl) rfl hi_62 (by omega) (by show N_61 * 2 ≤ _; omega) hc_64.1 hc_64.2 (fun q_65 hz_66 => ?_)
  replace vc := vc q_65 hz_66 _ rfl
  obtain ⟨fs_68, ho_69, vc⟩ := vc
  obtain ⟨hl_71, vc⟩ := vc
  replace vc := vc _ rfl
  refine sr_putF h rfl inM tyM tyM_ok nmM rfl 6 (by decide) kw_460 rfl rfl dM_init_56 ho_69 rfl rfl hl_71 ?_
  refine sr_aload_n h dM_init_59 rfl 0 rfl ?_
  refine sr_ldc (v := 131072) h dM_init_60 kw_453 ?_
  obtain ⟨N_72, hi_73, hN_74, hc_75, vc⟩ := vc
  refine sr_newa (atype := .short) (ty := .short) (t := 1) (N := N_72) (y := (N_72, .inl fun _ => 0)) h rfl (fun _ z => nomatch z) kw_497 rfl dM_init_62 (fun _ => rfl) rfl hi_73 (by omega) (by show N_72 * 2 ≤ _; omega) hc_75.1 hc_75.2 (fun q_76 hz_77 => ?_)
  replace vc := vc q_76 hz_77 _ rfl
  obtain ⟨fs_79, ho_80, vc⟩ := vc
  obtain ⟨hl_82, vc⟩ := vc
  replace vc := vc _ rfl
  refine sr_putF h rfl inM tyM tyM_ok nmM rfl 7 (by decide) kw_461 rfl rfl dM_init_64 ho_80 rfl rfl hl_82 ?_
  refine sr_aload_n h dM_init_67 rfl 0 rfl ?_
  refine sr_ldc (v := 131072) h dM_init_68 kw_453 ?_
  obtain ⟨N_83, hi_84, hN_85, hc_86, vc⟩ := vc
  refine sr_newa (atype := .short) (ty := .short) (t := 1) (N := N_83) (y := (N_83, .inl fun _ => 0)) h rfl (fun _ z => nomatch z) kw_497 rfl dM_init_70 (fun _ => rfl) rfl hi_84 (by omega) (by show N_83 * 2 ≤ _; omega) hc_86.1 hc_86.2 (fun q_87 hz_88 => ?_)
  replace vc := vc q_87 hz_88 _ rfl
  obtain ⟨fs_90, ho_91, vc⟩ := vc
  obtain ⟨hl_93, vc⟩ := vc
  replace vc := vc _ rfl
  refine sr_putF h rfl inM tyM tyM_ok nmM rfl 8 (by decide) kw_462 rfl rfl dM_init_72 ho_91 rfl rfl hl_93 ?_
  refine sr_aload_n h dM_init_75 rfl 0 rfl ?_
  refine sr_bipush (v := 16) h dM_init_76 (by decide) ?_
  obtain ⟨N_94, hi_95, hN_96, hc_97, vc⟩ := vc
  refine sr_newa (atype := .int) (ty := .int) (t := 0) (N := N_94) (y := (N_94, .inl fun _ => 0)) h rfl (fun _ z => nomatch z) kw_82 rfl dM_init_78 (fun _ => rfl) rfl hi_95 (by omega) (by show N_94 * 4 ≤ _; omega) hc_97.1 hc_97.2 (fun q_98 hz_99 => ?_)
  replace vc := vc q_98 hz_99 _ rfl
  obtain ⟨fs_101, ho_102, vc⟩ := vc
  obtain ⟨hl_104, vc⟩ := vc
  replace vc := vc _ rfl
  refine sr_putF h rfl inM tyM tyM_ok nmM rfl 10 (by decide) kw_464 rfl rfl dM_init_80 ho_102 rfl rfl hl_104 ?_
  refine sr_aload_n h dM_init_83 rfl 0 rfl ?_
  refine sr_bipush (v := 16) h dM_init_84 (by decide) ?_
  obtain ⟨N_105, hi_106, hN_107, hc_108, vc⟩ := vc
  refine sr_newa (atype := .int) (ty := .int) (t := 0) (N := N_105) (y := (N_105, .inl fun _ => 0)) h rfl (fun _ z => nomatch z) kw_82 rfl dM_init_86 (fun _ => rfl) rfl hi_106 (by omega) (by show N_105 * 4 ≤ _; omega) hc_108.1 hc_108.2 (fun q_109 hz_110 => ?_)
  replace vc := vc q_109 hz_110 _ rfl
  obtain ⟨fs_112, ho_113, vc⟩ := vc
  obtain ⟨hl_115, vc⟩ := vc
  replace vc := vc _ rfl
  refine sr_putF h rfl inM tyM tyM_ok nmM rfl 12 (by decide) kw_466 rfl rfl dM_init_88 ho_113 rfl rfl hl_115 ?_
  exact sr_vret h dM_init_91 hc_108.1 hc_108.2 vc
theorem opM_init {l : Launch} {κ : sp_K} {mc ms : Nat} {Rt : Option Value → sp_M → Prop} {Xt : String → sp_M → Prop} {μ : sp_M} {a0 : Nat} (htr : l.stackTraces = false) (body : ∀ x : sp_X, x.2.1.stackTraces = false → cxM_init κ x mc ms → sp_w κ x (sp_F κ x Rt Xt mc ms) 0 0 0 [(0, .ref a0)] [] μ) : sp_m l κ yM_init wM_init 1 22 mc ms [.ref a0] μ Rt Xt :=
  sp_open htr (by decide +kernel) rfl (Nat.le_of_ble_eq_true rfl) (by intro v hv; simp only [List.mem_cons, List.not_mem_nil, or_false] at hv; subst hv; first | rfl | exact sp_c1o _) (fun x hx h => body x (by rw [hx]; exact htr) h)
