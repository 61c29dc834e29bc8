/-! java.util.Arrays.copyOf(int[], int) -/
theorem dJ_copyOf_0 : decode cJ_copyOf 0 = .ok (.iload_n 1, 1) := by decide +kernel
theorem dJ_copyOf_1 : decode cJ_copyOf 1 = .ok (.aload_n 0, 1) := by decide +kernel
theorem dJ_copyOf_2 : decode cJ_copyOf 2 = .ok (.arraylength, 1) := by decide +kernel
theorem dJ_copyOf_3 : decode cJ_copyOf 3 = .ok (.if_icmp .ne 11, 3) := by decide +kernel
theorem dJ_copyOf_6 : decode cJ_copyOf 6 = .ok (.aload_n 0, 1) := by decide +kernel
theorem dJ_copyOf_7 : decode cJ_copyOf 7 = .ok (.invokevirtual 316, 3) := by decide +kernel
theorem dJ_copyOf_10 : decode cJ_copyOf 10 = .ok (.checkcast 317, 3) := by decide +kernel
theorem dJ_copyOf_13 : decode cJ_copyOf 13 = .ok (.areturn, 1) := by decide +kernel
theorem dJ_copyOf_14 : decode cJ_copyOf 14 = .ok (.iload_n 1, 1) := by decide +kernel
theorem dJ_copyOf_15 : decode cJ_copyOf 15 = .ok (.newarray .int, 2) := by decide +kernel
theorem dJ_copyOf_17 : decode cJ_copyOf 17 = .ok (.astore_n 2, 1) := by decide +kernel
theorem dJ_copyOf_18 : decode cJ_copyOf 18 = .ok (.aload_n 0, 1) := by decide +kernel
theorem dJ_copyOf_19 : decode cJ_copyOf 19 = .ok (.iconst 0, 1) := by decide +kernel
theorem dJ_copyOf_20 : decode cJ_copyOf 20 = .ok (.aload_n 2, 1) := by decide +kernel
theorem dJ_copyOf_21 : decode cJ_copyOf 21 = .ok (.iconst 0, 1) := by decide +kernel
theorem dJ_copyOf_22 : decode cJ_copyOf 22 = .ok (.aload_n 0, 1) := by decide +kernel
theorem dJ_copyOf_23 : decode cJ_copyOf 23 = .ok (.arraylength, 1) := by decide +kernel
theorem dJ_copyOf_24 : decode cJ_copyOf 24 = .ok (.iload_n 1, 1) := by decide +kernel
theorem dJ_copyOf_25 : decode cJ_copyOf 25 = .ok (.invokestatic 304, 3) := by decide +kernel
theorem dJ_copyOf_28 : decode cJ_copyOf 28 = .ok (.invokestatic 150, 3) := by decide +kernel
theorem dJ_copyOf_31 : decode cJ_copyOf 31 = .ok (.aload_n 2, 1) := by decide +kernel
theorem dJ_copyOf_32 : decode cJ_copyOf 32 = .ok (.areturn, 1) := by decide +kernel
theorem kj_269 : Cond.methodLink RJ 316 ⟨"[I", "clone", "()Ljava/lang/Object;"⟩ ∈ sp_wa := sp_in (i := 269) (by decide +kernel) (by decide +kernel)
theorem kj_270 : Cond.sameMethod "[I" "java/lang/Object" "clone" "()Ljava/lang/Object;" ∈ sp_wa := sp_in (i := 270) (by decide +kernel) (by decide +kernel)
theorem kj_271 : Cond.native ⟨"java/lang/Object", "clone", "()Ljava/lang/Object;"⟩ ∈ sp_wa := sp_in (i := 271) (by decide +kernel) (by decide +kernel)
theorem kj_272 : Cond.instanceMethod ⟨"java/lang/Object", "clone", "()Ljava/lang/Object;"⟩ ∈ sp_wa := sp_in (i := 272) (by decide +kernel) (by decide +kernel)
theorem kj_273 : Cond.selects "[I" ⟨"[I", "clone", "()Ljava/lang/Object;"⟩ ⟨"java/lang/Object", "clone", "()Ljava/lang/Object;"⟩ ∈ sp_wa := sp_in (i := 273) (by decide +kernel) (by decide +kernel)
theorem kj_274 : Cond.castable "[I" "java/lang/Cloneable" ∈ sp_tw := sp_int (i := 274) (by decide +kernel) (by decide +kernel)
theorem kj_275 : Cond.classLink RJ 317 "[I" ∈ sp_wa := sp_in (i := 275) (by decide +kernel) (by decide +kernel)
theorem kj_276 : Cond.methodLink RJ 304 Lib.Math.min.name ∈ sp_wa := sp_in (i := 276) (by decide +kernel) (by decide +kernel)
theorem kj_277 : Cond.methodLink RJ 150 arraycopyName ∈ sp_wa := sp_in (i := 277) (by decide +kernel) (by decide +kernel)
theorem kj_278 : Cond.static arraycopyName ∈ sp_wa := sp_in (i := 278) (by decide +kernel) (by decide +kernel)
theorem kj_279 : Cond.native arraycopyName ∈ sp_wa := sp_in (i := 279) (by decide +kernel) (by decide +kernel)
theorem kj_sys : Cond.initialized "java/lang/System" ∈ sp_wa := by decide +kernel
theorem kj_math : Cond.initialized "java/lang/Math" ∈ sp_wa := by decide +kernel
theorem kj_mins : Cond.static Lib.Math.min.name ∈ sp_wa := by decide +kernel
theorem kj_arr : Cond.arrayClass .int ∈ sp_wa := sp_in (i := 82) (by decide +kernel) (by decide +kernel)
section
variable {κ : sp_K} {x : sp_X} {Q : State → Prop} {k n pc nL : Nat} {lv : List (Nat × Value)} {st : List Value} {μ : sp_M} {cc : ByteArray} {own : String} {ret : Option FieldType} {tb : List ExceptionTableEntry} {nm : String} {rm : Room}
theorem sr_copyi (h : sp_C κ x cc nL own ret tb nm rm) {ix : Nat} (k1 : Cond.methodLink own ix arraycopyName ∈ sp_wa) (d : decode cc pc = .ok (.invokestatic ix, 3)) (hf1 : 1 ≤ rm.frames) (hf2 : (st.map fun v => v.category).sum + (nativeFrameWords "java/lang/System" "arraycopy" 5 + 11) ≤ rm.locals) {a0 a n0 n1 : Nat} {f f1 : Nat → Int32} (ho0 : μ a0 = some (sp_ia κ n0 f)) (ho : μ a = some (sp_ia κ n1 f1)) {c0 : Nat} {v : Int32} (hv : v = nI c0) (h4' : c0 ≤ n0) (h5' : c0 ≤ n1) (kk : sp_w κ x Q k n (pc + 3) lv st (va_up μ a (some (sp_ia κ n1 (va_cpy f f1 0 0 c0))))) : sp_w κ x Q k n pc lv (.int v :: .int 0 :: .ref a :: .int 0 :: .ref a0 :: st) μ := by
  subst hv
  obtain ⟨p, l, e, R, s, m, args, below, meth, c⟩ := x
  obtain ⟨⟨hx, hb, hml, hown, hts⟩, hU, hN, hlk, hr, htb, hnm, hR, htr⟩ := h
  intro H locs ls hH hS hl hc
  obtain ⟨h1, h2, LP, h3, h4, h5⟩ := hH
  subst hR
  obtain ⟨q0, hq0⟩ := sp_at h3 ho0
  obtain ⟨q1, hq1⟩ := sp_at h3 ho
  have hb3 : n1 < 2 ^ 31 := h2 a _ _ ho
  have hcl : (nI c0).toNatClampNeg = c0 := nI_clamp (by omega)
  have hz : (0 : Int32).toNatClampNeg = 0 := by decide
  refine va_copyi hx hb hl.1.symm hown (hts _ k1) (hts _ kj_279) (hts _ kj_278) (hts _ kj_sys) hU.1 h4 h5 hS q0 q1 0 0 hq0 hq1 rfl rfl rfl (by decide) (by decide) (nI_pos (by omega)) (by rw [hcl, hz]; omega) (by rw [hcl, hz]; omega) (fun i hi => rfl) hf1 hf2 d (fun H1 locs1 hP1 hD1 hS1 => ?_)
  rw [hcl, hz] at hP1 hD1
  exact kk H1 locs1 ls (sp_put (H := H) hN hS1 h2 h3 ho hq1 h5 hP1 hD1 (fun ca y z => by cases z; exact hb3)) hS1 hl hc
theorem sr_clone (h : sp_C κ x cc nL RJ ret tb nm rm) (d : decode cc pc = .ok (.invokevirtual 316, 3)) (hf1 : 1 ≤ rm.frames) (hf2 : (st.map fun v => v.category).sum + 14 ≤ rm.locals) {a N : Nat} {f : Nat → Int32} (ho : μ a = some (sp_ia κ N f)) (hcells : k + 1 ≤ rm.cells) (hslots : n + N ≤ rm.slots) (kk : ∀ q : Nat, μ q = none → sp_w κ x Q (k + 1) (n + N) (pc + 3) lv (.ref q :: st) (va_up μ q (some (sp_ia κ N f)))) : sp_w κ x Q k n pc lv (.ref a :: st) μ := by
  obtain ⟨p, l, e, R, s, m, args, below, meth, c⟩ := x
  obtain ⟨⟨hx, hb, hml, hown, hts⟩, hU, hN, hlk, hr, htb, hnm, hR, htr⟩ := h
  intro H locs ls hH hS hl hc
  obtain ⟨h1, h2, LP, h3, h4, h5⟩ := hH
  subst hR
  obtain ⟨q0, hq0⟩ := sp_at h3 ho
  have hb3 : N < 2 ^ 31 := h2 a _ _ ho
  have hnmI : s.vm.findClass "[I" = some (κ.2.2 0) := (hU.1.2 0 _ rfl).2
  refine va_clone hx hb hl.1.symm hown (hts _ kj_269) (hts _ kj_270) (hts _ kj_271) (hts _ kj_272) (hts _ kj_273) (hU.2.2.2.1 _ kj_274) hU.1 h4 h5 hS (fun q hq => Nat.le_trans hN hq) q0 0 hq0 rfl hnmI (fun i v hv => ?_) hf1 hf2 hcells hslots d (fun q H1 hK1 hP1 hD1 hS1 => ?_)
  · by_cases hi : i < N
    · rw [show (vp_cell (κ.2.2 0) (N, Sum.inl f)).slots[i]? = some (.int (f i)) from by show (arrV _ _ _).slots[i]? = _; rw [arrV_read _ _ hi]] at hv
      cases hv
      rfl
    · have hsz : (vp_cell (κ.2.2 0) (N, Sum.inl f)).slots.size = N := by show (arrV _ _ _).slots.size = _; rw [arrV_size]
      rw [Array.getElem?_eq_none (by omega)] at hv
      cases hv
  · obtain ⟨hz, hH1⟩ := sp_push hN hS1 h2 h3 hP1 hD1 (fun ca y' z => by cases z; exact hb3)
    exact kk q hz H1 locs ls hH1 hS1 hl hc
theorem sr_castI (h : sp_C κ x cc nL RJ ret tb nm rm) (d : decode cc pc = .ok (.checkcast 317, 3)) {a N : Nat} {f : Nat → Int32} (ho : μ a = some (sp_ia κ N f)) (kk : sp_w κ x Q k n (pc + 3) lv (.ref a :: st) μ) : sp_w κ x Q k n pc lv (.ref a :: st) μ := by
  obtain ⟨p, l, e, R, s, m, args, below, meth, c⟩ := x
  obtain ⟨⟨hx, hb, hml, hown, hts⟩, hU, hN, hlk, hr, htb, hnm, hR, htr⟩ := h
  intro H locs ls hH hS hl hc
  have kk' := kk H locs ls hH hS hl hc
  obtain ⟨h1, h2, LP, h3, h4, h5⟩ := hH
  obtain ⟨q0, hq0⟩ := sp_at h3 ho
  exact va_castA hx hb hown (hts _ kj_275) h4 q0 hq0 ((hU.1.2 0 _ rfl).2) d kk'
end
set_option maxRecDepth 100000 in
set_option maxHeartbeats 4000000 in
/-- a new row of m ints: those of the old as far as they go, then zeros -/
theorem ct_copyOf {l : Launch} {κ : sp_K} {μ : sp_M} {mc ms a N M : Nat} {f : Nat → Int32} {Rt : Option Value → sp_M → Prop} {Xt : String → sp_M → Prop} (htr : l.stackTraces = false) (ho : μ a = some (sp_ia κ N f)) (hN : N < 2 ^ 31) (hM : M ≤ 1000000) (hr : 1 ≤ mc ∧ M ≤ ms) (hR : ∀ (q : Nat) (f' : Nat → Int32), μ q = none → (∀ j, j < M → f' j = if j < N then f j else 0) → Rt (some (va_rf (some q))) (va_up μ q (some (sp_ia κ M f')))) : sp_m l κ yJ_copyOf wJ_copyOf 1 26 mc ms [.ref a, .int (nI M)] μ Rt Xt := by
  refine sp_open htr (by decide +kernel) rfl (Nat.le_of_ble_eq_true rfl) (by intro v hv; simp only [List.mem_cons, List.not_mem_nil, or_false] at hv; rcases hv with rfl | rfl <;> rfl) (fun x hxl h => ?_)
  have h : sp_C κ x cJ_copyOf 3 RJ (some (.array .int)) [] "copyOf" (sp_rm 1 26 mc ms) := h
  show sp_w κ x (sp_F κ x Rt Xt mc ms) 0 0 0 [(0, .ref a), (1, .int (nI M))] [] μ
  have hr0 : 0 + 1 ≤ mc ∧ 0 + M ≤ ms := by omega
  refine sr_iload_n h dJ_copyOf_0 rfl 1 rfl ?_
  refine sr_aload_n h dJ_copyOf_1 rfl 0 rfl ?_
  refine sr_alen (t := 0) h dJ_copyOf_2 ho rfl ?_
  refine sr_icmp_ne (tgt := 14) h dJ_copyOf_3 (by decide) (fun c => ?_) (fun c => ?_)
  · refine sr_iload_n h dJ_copyOf_14 rfl 1 rfl ?_
    refine sr_newa (atype := .int) (ty := .int) (t := 0) (N := M) (y := (M, .inl fun _ => 0)) h rfl (fun _ z => nomatch z) kj_arr rfl dJ_copyOf_15 (fun _ => rfl) rfl rfl (by omega) (by show M * 4 ≤ _; omega) hr0.1 hr0.2 (fun q hz => ?_)
    have hqa : a ≠ q := fun e => by rw [e, hz] at ho; cases ho
    refine sr_astore_n (lv' := [(0, .ref a), (1, .int (nI M)), (2, .ref q)]) h dJ_copyOf_17 rfl (by decide) rfl ?_
    refine sr_aload_n h dJ_copyOf_18 rfl 0 rfl ?_
    refine sr_iconst (v := 0) h dJ_copyOf_19 (by decide) ?_
    refine sr_aload_n h dJ_copyOf_20 rfl 2 rfl ?_
    refine sr_iconst (v := 0) h dJ_copyOf_21 (by decide) ?_
    refine sr_aload_n h dJ_copyOf_22 rfl 0 rfl ?_
    have ho' : va_up μ q (some (sp_ia κ M (fun _ => 0))) a = some (sp_ia κ N f) := by rw [va_up_ne _ _ hqa]; exact ho
    refine sr_alen (t := 0) h dJ_copyOf_23 ho' rfl ?_
    refine sr_iload_n h dJ_copyOf_24 rfl 1 rfl ?_
    refine sr_mmin h kj_276 kj_mins kj_math kw_mmin dJ_copyOf_25 (Nat.le_of_ble_eq_true rfl) (Nat.le_of_ble_eq_true rfl) hr0.1 hr0.2 ?_
    have hmin : (if nI M < nI N then nI M else nI N) = nI (min N M) := by
      by_cases q1 : M < N
      · rw [if_pos (nI_lt q1 hN), Nat.min_eq_right (by omega)]
      · rw [if_neg (nI_nlt (by omega) (by omega)), Nat.min_eq_left (by omega)]
    refine sr_copyi h kj_277 dJ_copyOf_28 (Nat.le_of_ble_eq_true rfl) (Nat.le_of_ble_eq_true rfl) ho' (va_up_self _ _ _) hmin (by omega) (by omega) ?_
    refine sr_aload_n h dJ_copyOf_31 rfl 2 rfl ?_
    have hfin := hR q (va_cpy f (fun _ => 0) 0 0 (min N M)) hz (fun j hj => ?_)
    · rw [show va_up (va_up μ q (some (sp_ia κ M (fun _ => 0)))) q (some (sp_ia κ M (va_cpy f (fun _ => 0) 0 0 (min N M)))) = va_up μ q (some (sp_ia κ M (va_cpy f (fun _ => 0) 0 0 (min N M)))) from bx_uu _ _ _ _]
      exact sr_aret (r := some q) h (Or.inr ⟨_, rfl⟩) dJ_copyOf_32 hr0.1 hr0.2 hfin
    · by_cases q1 : j < N
      · rw [if_pos q1, pk_cpy_in (by omega) (by omega)]
        congr 1
        omega
      · rw [if_neg q1, pk_cpy_out (Or.inr (by omega))]
  · have hNM : N = M := (nI_eq hN (by omega)).mp c.symm
    subst hNM
    refine sr_aload_n h dJ_copyOf_6 rfl 0 rfl ?_
    refine sr_clone h dJ_copyOf_7 (Nat.le_of_ble_eq_true rfl) (Nat.le_of_ble_eq_true rfl) ho hr0.1 hr0.2 (fun q hz => ?_)
    refine sr_castI h dJ_copyOf_10 (va_up_self _ _ _) ?_
    exact sr_aret (r := some q) h (Or.inr ⟨_, rfl⟩) dJ_copyOf_13 hr0.1 hr0.2 (hR q f hz (fun j hj => by rw [if_pos hj]))
