section
theorem sp_call {p : Program} {l : Launch} {e : Env} {R : Room} {s : State} {m : MethodId} {args : Array Value} {below : List Frame} {meth : Method} {c : Code} {H : Heap} {locs : List Loc} {k n mc ms pc : Nat} {ls : Array Slot} {st0 rest : List Value} {a : Array Value} {κ : sp_K} {Rt : Option Value → sp_M → Prop} {Xt : String → sp_M → Prop} {Q : State → Prop} {lv : List (Nat × Value)}
    (hr : vx_Run p l e R s m args below meth c H locs k n mc ms (F0 m pc ls st0) rest (sp_Q κ Rt a) (sp_XC κ Xt) (sp_A κ)) (hS : va_S (sp_A κ) s.heap H locs) (hl : lv_has ls c.maxLocals lv) (hc : ∀ q ∈ lv, q.2.category = 1)
    (kk : ∀ (v : Option Value) (μ : sp_M), Rt v μ → sp_w κ (p, l, e, R, s, m, args, below, meth, c) Q (k + mc) (n + ms) (pc + 3) lv (v.toList ++ rest) μ)
    (kx : ∀ (E : String) (μ : sp_M), Xt E μ → sp_t κ (p, l, e, R, s, m, args, below, meth, c) Q (k + mc) (n + ms) pc lv rest E μ) : W p l e R s m args below meth c H locs k n Q (F0 m pc ls st0) := by
  intro T hT X
  rcases hr T hT X with ⟨v, st₀, t, T', L, h0, X', hL, e1, e2, ⟨⟨v', μ', hv, hp, hH⟩, hF⟩, st⟩ | ⟨q, st₀, t, T', L, E, ce, h0, X', hL, e1, e2, ⟨⟨μ', hp, hH⟩, hF⟩, hce, hcv, hcl, st⟩
  · cases hv
    obtain ⟨k1, k2, k3⟩ := vx_keep h0 e1 hS (fun _ _ z => z) (fun _ z => z) hL hF
    obtain ⟨t2, a1, b1⟩ := kk v μ' hp T'.heap (locs ++ L) ls (by rw [e1]; exact hH) k3 hl hc T' rfl X'
    exact ⟨t2, st t2 a1, b1⟩
  · obtain ⟨k1, k2, k3⟩ := vx_keep h0 e1 hS (fun _ _ z => z) (fun _ z => z) hL hF
    obtain ⟨t2, a1, b1⟩ := kx E μ' hp T'.heap (locs ++ L) ls q ce (by rw [e1]; exact hH) k3 hl hc (by rw [e1]; exact hce) hcv hcl T' rfl X'
    exact ⟨t2, st.trans a1, b1⟩
theorem sp_blind {κ : sp_K} {μ : sp_M} {as : List Value} : FrameBlind (va_Pc as (fun U => sp_H κ μ U.heap ∧ sp_U κ U)) := fun a U g mk q => ⟨q.1, q.2.1, sp_U.moved (u := U) (U := U.calling g mk a) (Vm.Alike.refl U.vm) (fun _ _ _ => rfl) q.2.2⟩
theorem sp_preS {κ : sp_K} {μ : sp_M} {s : State} {H : Heap} {locs : List Loc} {as : List Value} (hU : sp_U κ s) (hS : va_S (sp_A κ) s.heap H locs) (hH : sp_H κ μ H) : PreS s H (va_Pc as (fun U => sp_H κ μ U.heap ∧ sp_U κ U)) as :=
  ⟨sp_blind, fun U hU' hW => ⟨rfl, by rw [hU']; exact hH, sp_U.moved hW.alike (by rw [hU']; exact hS.2.1) hU⟩⟩
theorem sp_preV {κ : sp_K} {μ : sp_M} {s : State} {H : Heap} {locs : List Loc} {as : List Value} {b ci : Nat} {fs : List Value} {rC : vw_C} (hU : sp_U κ s) (hS : va_S (sp_A κ) s.heap H locs) (hH : sp_H κ μ H) (ho : μ b = some (.inr (ci, fs))) (hc0 : sp_cl[ci]? = some rC) : PreV s H rC.1 b (va_Pc (.ref b :: as) (fun U => sp_H κ μ U.heap ∧ sp_U κ U)) as := by
  refine ⟨sp_blind, ?_, fun U hU' hW => ⟨rfl, by rw [hU']; exact hH, sp_U.moved hW.alike (by rw [hU']; exact hS.2.1) hU⟩⟩
  obtain ⟨h1, h2, LP, h3, h4, h5⟩ := hH
  obtain ⟨q0, hq0⟩ := sp_at h3 ho
  exact va_recv hU.1 h4 hc0 hq0
/-- a contract that never throws, for a constructor's call -/
theorem sp_noX {l : Launch} {κ : sp_K} {y : MethodName} {cw : Cond} {f lo mc ms : Nat} {as : List Value} {μ : sp_M} {Rt : Option Value → sp_M → Prop} {Xt : String → sp_M → Prop} (h : sp_m l κ y cw f lo mc ms as μ Rt Xt) (hX : ∀ E μ, ¬ Xt E μ) : Met l y (cw :: sp_wa) (sp_rm f lo mc ms) (va_Pc as (fun U => sp_H κ μ U.heap ∧ sp_U κ U)) (sp_Q κ Rt) mc ms (sp_A κ) := by
  intro p e ha hc hk s m args below hf happ hP hK
  obtain ⟨n, o, h1, h2, h3, h4⟩ := h p e ha hc hk s m args below hf happ hP hK
  refine ⟨n, o, h1, h2, h3, ?_⟩
  rcases h4 with h5 | ⟨q, -, E, ce, L, ⟨⟨μ', hx, -⟩, -⟩, -⟩
  · exact h5
  · exact absurd hx (hX E μ')
theorem sp_ofRun {p : Program} {l : Launch} {e : Env} {R : Room} {s : State} {m : MethodId} {args : Array Value} {below : List Frame} {meth : Method} {c : Code} {H : Heap} {locs : List Loc} {k n mc ms : Nat} {g : JFrame} {rest : List Value} {Qa : State → Outcome → State → Prop} {XC : String → State → State → Prop} {free : Addr → Prop}
    (h : va_Run p l e R s m args below meth c H locs k n mc ms g rest Qa free) : vx_Run p l e R s m args below meth c H locs k n mc ms g rest Qa XC free := fun T hT X => Or.inl (h T hT X)
end
section
variable {κ : sp_K} {x : sp_X} {Q : State → Prop} {k n pc nL : Nat} {lv : List (Nat × Value)} {st : List Value} {μ : sp_M} {cc : ByteArray} {own : String} {ret : Option FieldType} {tb : List ExceptionTableEntry} {nm : String} {rm : Room}
variable {y : MethodName} {bytes : ByteArray} {maxL ix n0 mc' ms' f' lo' : Nat} {ret' : Option FieldType} {cw : Cond} {As stk : List Value} {Rt : Option Value → sp_M → Prop} {Xt : String → sp_M → Prop} {hh : List (Nat × Nat × Nat × Nat)}
theorem sr_callV (h : sp_C κ x cc nL own ret tb nm rm) {ci : Nat} {rC : vw_C} (hg : GoodIn sp_wa (wsV own ix rC.1 y (cw :: sp_wa))) (hw : cw = Cond.code y bytes maxL ret') (hd : y.cls = rC.1 ∧ y.cls ≠ "java/lang/invoke/MethodHandle" ∧ y.cls ≠ "java/lang/invoke/VarHandle" ∧ (parseMethodDescriptor y.desc).map (fun d => d.parameters.length) = some n0) (hroom : f' + 1 ≤ rm.frames ∧ 8 + (maxL + 11) + lo' ≤ rm.locals) (hc0 : sp_cl[ci]? = some rC) (d : decode cc pc = .ok (.invokevirtual ix, 3)) (hlen : As.length = n0) {b : Nat} (hst : stk = As.reverse ++ .ref b :: st) (hcat : (st.map fun v => v.category).sum ≤ 8) (hcells : k + mc' ≤ rm.cells ∧ n + ms' ≤ rm.slots) {fs : List Value} (ho : μ b = some (.inr (ci, fs))) (hM : sp_m x.2.1 κ y cw f' lo' mc' ms' (.ref b :: As) μ Rt Xt)
    (kk : ∀ (v : Option Value) (μ' : sp_M), Rt v μ' → sp_w κ x Q (k + mc') (n + ms') (pc + 3) lv (v.toList ++ st) μ') (kx : ∀ (E : String) (μ' : sp_M), Xt E μ' → sp_t κ x Q (k + mc') (n + ms') pc lv st E μ') : sp_w κ x Q k n pc lv stk μ := by
  subst hst
  obtain ⟨p, l, e, R, s, m, args, below, meth, c⟩ := x
  obtain ⟨⟨hx, hb, hml, hown, hts⟩, hU, hN, hlk, hr, htb, hnm, hR, htr⟩ := h
  intro H locs ls hH hS hl hc
  subst hR
  exact sp_call (vx_runV (As := As) (rest := st) ⟨hx, hb, hml, hown, hts⟩ hM (cwV n0 hts hg (by rw [hw]) rfl rfl hd hroom) (sp_preV hU hS hH ho hc0) rfl hlen (hml ▸ hl.1) rfl (lv_room hcat) d hcells) hS hl hc kk kx
theorem sr_callVH (h : sp_C κ x cc nL own ret tb nm rm) {ci : Nat} {rC : vw_C} (hg : GoodIn sp_wa (wsV own ix rC.1 y (cw :: sp_wa))) (hw : cw = Cond.codeWith y bytes maxL ret' hh) (hd : y.cls = rC.1 ∧ y.cls ≠ "java/lang/invoke/MethodHandle" ∧ y.cls ≠ "java/lang/invoke/VarHandle" ∧ (parseMethodDescriptor y.desc).map (fun d => d.parameters.length) = some n0) (hroom : f' + 1 ≤ rm.frames ∧ 8 + (maxL + 11) + lo' ≤ rm.locals) (hc0 : sp_cl[ci]? = some rC) (d : decode cc pc = .ok (.invokevirtual ix, 3)) (hlen : As.length = n0) {b : Nat} (hst : stk = As.reverse ++ .ref b :: st) (hcat : (st.map fun v => v.category).sum ≤ 8) (hcells : k + mc' ≤ rm.cells ∧ n + ms' ≤ rm.slots) {fs : List Value} (ho : μ b = some (.inr (ci, fs))) (hM : sp_m x.2.1 κ y cw f' lo' mc' ms' (.ref b :: As) μ Rt Xt)
    (kk : ∀ (v : Option Value) (μ' : sp_M), Rt v μ' → sp_w κ x Q (k + mc') (n + ms') (pc + 3) lv (v.toList ++ st) μ') (kx : ∀ (E : String) (μ' : sp_M), Xt E μ' → sp_t κ x Q (k + mc') (n + ms') pc lv st E μ') : sp_w κ x Q k n pc lv stk μ := by
  subst hst
  obtain ⟨p, l, e, R, s, m, args, below, meth, c⟩ := x
  obtain ⟨⟨hx, hb, hml, hown, hts⟩, hU, hN, hlk, hr, htb, hnm, hR, htr⟩ := h
  intro H locs ls hH hS hl hc
  subst hR
  exact sp_call (vx_runVX (As := As) (rest := st) ⟨hx, hb, hml, hown, hts⟩ hM (vx_cwVW n0 hts hg (by rw [hw]) rfl rfl hd hroom) (sp_preV hU hS hH ho hc0) rfl hlen (hml ▸ hl.1) rfl (lv_room hcat) d hcells) hS hl hc kk kx
theorem sr_callS (h : sp_C κ x cc nL own ret tb nm rm) (hg : GoodIn sp_wa (va_wsS own ix y (cw :: sp_wa))) (hw : cw = Cond.code y bytes maxL ret') (hd : y.cls ≠ "java/lang/invoke/MethodHandle" ∧ y.cls ≠ "java/lang/invoke/VarHandle" ∧ (parseMethodDescriptor y.desc).map (fun d => d.parameters.length) = some n0) (hroom : f' + 1 ≤ rm.frames ∧ 8 + (maxL + 11) + lo' ≤ rm.locals) (d : decode cc pc = .ok (.invokestatic ix, 3)) (hlen : As.length = n0) (hst : stk = As.reverse ++ st) (hcat : (st.map fun v => v.category).sum ≤ 8) (hcells : k + mc' ≤ rm.cells ∧ n + ms' ≤ rm.slots) (hM : sp_m x.2.1 κ y cw f' lo' mc' ms' As μ Rt Xt)
    (kk : ∀ (v : Option Value) (μ' : sp_M), Rt v μ' → sp_w κ x Q (k + mc') (n + ms') (pc + 3) lv (v.toList ++ st) μ') (kx : ∀ (E : String) (μ' : sp_M), Xt E μ' → sp_t κ x Q (k + mc') (n + ms') pc lv st E μ') : sp_w κ x Q k n pc lv stk μ := by
  subst hst
  obtain ⟨p, l, e, R, s, m, args, below, meth, c⟩ := x
  obtain ⟨⟨hx, hb, hml, hown, hts⟩, hU, hN, hlk, hr, htb, hnm, hR, htr⟩ := h
  intro H locs ls hH hS hl hc
  subst hR
  exact sp_call (vx_runS (As := As) (rest := st) ⟨hx, hb, hml, hown, hts⟩ hM (va_cwS n0 hts hg (by rw [hw]) rfl rfl hd hroom) (sp_preS hU hS hH) rfl hlen (hml ▸ hl.1) rfl (lv_room hcat) d hcells) hS hl hc kk kx
theorem sr_callSH (h : sp_C κ x cc nL own ret tb nm rm) (hg : GoodIn sp_wa (va_wsS own ix y (cw :: sp_wa))) (hw : cw = Cond.codeWith y bytes maxL ret' hh) (hd : y.cls ≠ "java/lang/invoke/MethodHandle" ∧ y.cls ≠ "java/lang/invoke/VarHandle" ∧ (parseMethodDescriptor y.desc).map (fun d => d.parameters.length) = some n0) (hroom : f' + 1 ≤ rm.frames ∧ 8 + (maxL + 11) + lo' ≤ rm.locals) (d : decode cc pc = .ok (.invokestatic ix, 3)) (hlen : As.length = n0) (hst : stk = As.reverse ++ st) (hcat : (st.map fun v => v.category).sum ≤ 8) (hcells : k + mc' ≤ rm.cells ∧ n + ms' ≤ rm.slots) (hM : sp_m x.2.1 κ y cw f' lo' mc' ms' As μ Rt Xt)
    (kk : ∀ (v : Option Value) (μ' : sp_M), Rt v μ' → sp_w κ x Q (k + mc') (n + ms') (pc + 3) lv (v.toList ++ st) μ') (kx : ∀ (E : String) (μ' : sp_M), Xt E μ' → sp_t κ x Q (k + mc') (n + ms') pc lv st E μ') : sp_w κ x Q k n pc lv stk μ := by
  subst hst
  obtain ⟨p, l, e, R, s, m, args, below, meth, c⟩ := x
  obtain ⟨⟨hx, hb, hml, hown, hts⟩, hU, hN, hlk, hr, htb, hnm, hR, htr⟩ := h
  intro H locs ls hH hS hl hc
  subst hR
  exact sp_call (vx_runSX (As := As) (rest := st) ⟨hx, hb, hml, hown, hts⟩ hM (vx_cwSW n0 hts hg (by rw [hw]) rfl rfl hd hroom) (sp_preS hU hS hH) rfl hlen (hml ▸ hl.1) rfl (lv_room hcat) d hcells) hS hl hc kk kx
theorem sr_callI (h : sp_C κ x cc nL own ret tb nm rm) (hg : GoodIn sp_wa (cw :: sp_wa)) (hw : cw = Cond.code y bytes maxL none) (hy1 : y.name = "<init>") (hl1 : Cond.initialized y.cls ∈ sp_wa) (hl2 : Cond.methodLink own ix y ∈ sp_wa) (hl3 : Cond.instanceMethod y ∈ sp_wa) (hd : y.cls ≠ "java/lang/invoke/MethodHandle" ∧ y.cls ≠ "java/lang/invoke/VarHandle" ∧ (parseMethodDescriptor y.desc).map (fun d => d.parameters.length) = some n0) (hroom : f' + 1 ≤ rm.frames ∧ 8 + (maxL + 11) + lo' ≤ rm.locals) (d : decode cc pc = .ok (.invokespecial ix, 3)) (hlen : As.length = n0) {b : Nat} (hst : stk = As.reverse ++ .ref b :: st) (hcat : (st.map fun v => v.category).sum ≤ 8) (hcells : k + mc' ≤ rm.cells ∧ n + ms' ≤ rm.slots) (hM : sp_m x.2.1 κ y cw f' lo' mc' ms' (.ref b :: As) μ Rt (fun _ _ => False))
    (kk : ∀ (v : Option Value) (μ' : sp_M), Rt v μ' → sp_w κ x Q (k + mc') (n + ms') (pc + 3) lv (v.toList ++ st) μ') : sp_w κ x Q k n pc lv stk μ := by
  subst hst
  obtain ⟨p, l, e, R, s, m, args, below, meth, c⟩ := x
  obtain ⟨⟨hx, hb, hml, hown, hts⟩, hU, hN, hlk, hr, htb, hnm, hR, htr⟩ := h
  intro H locs ls hH hS hl hc
  subst hR
  exact sp_call (Xt := fun _ _ => False) (sp_ofRun (va_runI (As := As) (rest := st) ⟨hx, hb, hml, hown, hts⟩ (sp_noX hM (fun _ _ z => z)) (cwI n0 hts hg (by rw [hw]) rfl rfl (hts _ hl1) (hts _ hl2) (hts _ hl3) hy1 hd hroom) (sp_preS hU hS hH) rfl hlen (hml ▸ hl.1) rfl (lv_room hcat) d hcells)) hS hl hc kk (fun E μ' z => z.elim)
end
theorem sp_args_aux : ∀ (as : List Value) (i : Nat), (∀ v ∈ as, v.category = 1) → ∀ q ∈ lv_args i as, q.2.category = 1
  | [], i, _, q, hq => by simp [lv_args] at hq
  | v :: r, i, h, q, hq => by
    simp only [lv_args, List.mem_cons] at hq
    rcases hq with hq | hq
    · subst hq; exact h v List.mem_cons_self
    · exact sp_args_aux r _ (fun z hz => h z (List.mem_cons_of_mem _ hz)) q hq
theorem sp_args {as : List Value} (h : ∀ v ∈ as, v.category = 1) : ∀ q ∈ lv_args 0 as, q.2.category = 1 := sp_args_aux as 0 h
section
variable {κ : sp_K} {x : sp_X} {Q : State → Prop} {k n pc nL : Nat} {lv : List (Nat × Value)} {st : List Value} {μ : sp_M} {cc : ByteArray} {own : String} {ret : Option FieldType} {tb : List ExceptionTableEntry} {nm : String} {rm : Room}
variable {Rt : Option Value → sp_M → Prop} {Xt : String → sp_M → Prop} {mc ms : Nat}
theorem sr_iret (h : sp_C κ x cc nL own (some .int) tb nm rm) (d : decode cc pc = .ok (.ireturn, 1)) {v : Int32} (h1 : k ≤ mc) (h2 : n ≤ ms) (hq : Rt (some (.int v)) μ) : sp_w κ x (sp_F κ x Rt Xt mc ms) k n pc lv [.int v] μ := by
  obtain ⟨p, l, e, R, s, m, args, below, meth, c⟩ := x
  obtain ⟨⟨hx, hb, hml, hown, hts⟩, hU, hN, hlk, hr, htb, hnm, hR, htr⟩ := h
  intro H locs ls hH hS hl hc
  refine W.widen h1 h2 (vx_ret ?_)
  exact W.iret hx hb hr (fun t ht hW => ⟨⟨_, μ, rfl, hq, by rw [ht]; exact hH⟩, hS.F ht⟩) hS.2.2 d hlk
theorem sr_zret (h : sp_C κ x cc nL own (some .boolean) tb nm rm) (d : decode cc pc = .ok (.ireturn, 1)) {v : Int32} (hv : narrow .boolean (.int v) = .int v) (h1 : k ≤ mc) (h2 : n ≤ ms) (hq : Rt (some (.int v)) μ) : sp_w κ x (sp_F κ x Rt Xt mc ms) k n pc lv [.int v] μ := by
  obtain ⟨p, l, e, R, s, m, args, below, meth, c⟩ := x
  obtain ⟨⟨hx, hb, hml, hown, hts⟩, hU, hN, hlk, hr, htb, hnm, hR, htr⟩ := h
  intro H locs ls hH hS hl hc
  refine W.widen h1 h2 (vx_ret ?_)
  exact W.zret hx hb hr hv (fun t ht hW => ⟨⟨_, μ, rfl, hq, by rw [ht]; exact hH⟩, hS.F ht⟩) hS.2.2 d hlk
theorem sr_lret (h : sp_C κ x cc nL own (some .long) tb nm rm) (d : decode cc pc = .ok (.lreturn, 1)) {v : Int64} (h1 : k ≤ mc) (h2 : n ≤ ms) (hq : Rt (some (.long v)) μ) : sp_w κ x (sp_F κ x Rt Xt mc ms) k n pc lv [.long v] μ := by
  obtain ⟨p, l, e, R, s, m, args, below, meth, c⟩ := x
  obtain ⟨⟨hx, hb, hml, hown, hts⟩, hU, hN, hlk, hr, htb, hnm, hR, htr⟩ := h
  intro H locs ls hH hS hl hc
  refine W.widen h1 h2 (vx_ret ?_)
  exact W.lret hx hb hr (fun t ht hW => ⟨⟨_, μ, rfl, hq, by rw [ht]; exact hH⟩, hS.F ht⟩) hS.2.2 d hlk
theorem sr_vret (h : sp_C κ x cc nL own none tb nm rm) (d : decode cc pc = .ok (.return_, 1)) (h1 : k ≤ mc) (h2 : n ≤ ms) (hq : Rt none μ) : sp_w κ x (sp_F κ x Rt Xt mc ms) k n pc lv [] μ := by
  obtain ⟨p, l, e, R, s, m, args, below, meth, c⟩ := x
  obtain ⟨⟨hx, hb, hml, hown, hts⟩, hU, hN, hlk, hr, htb, hnm, hR, htr⟩ := h
  intro H locs ls hH hS hl hc
  refine W.widen h1 h2 (vx_ret ?_)
  exact W.vret hx hb hr (fun t ht hW => ⟨⟨_, μ, rfl, hq, by rw [ht]; exact hH⟩, hS.F ht⟩) hS.2.2 d hlk
theorem sr_aret {rt : FieldType} (h : sp_C κ x cc nL own (some rt) tb nm rm) (hrt : (∃ n, rt = .object n) ∨ ∃ t, rt = .array t) (d : decode cc pc = .ok (.areturn, 1)) {r : Option Nat} (h1 : k ≤ mc) (h2 : n ≤ ms) (hq : Rt (some (va_rf r)) μ) : sp_w κ x (sp_F κ x Rt Xt mc ms) k n pc lv [va_rf r] μ := by
  obtain ⟨p, l, e, R, s, m, args, below, meth, c⟩ := x
  obtain ⟨⟨hx, hb, hml, hown, hts⟩, hU, hN, hlk, hr, htb, hnm, hR, htr⟩ := h
  intro H locs ls hH hS hl hc
  refine W.widen h1 h2 (vx_ret ?_)
  exact W.aret hx hb hr hrt (by cases r with | none => exact Or.inl rfl | some a => exact Or.inr ⟨a, rfl⟩) (fun t ht hW => ⟨⟨_, μ, rfl, hq, by rw [ht]; exact hH⟩, hS.F ht⟩) hS.2.2 d hlk
/-- 'throw new E()' that leaves the method -/
theorem sr_throw0 (h : sp_C κ x cc nL own ret tb nm rm) {cls : String} {names : List String} {ik ic : Nat} (hcls : Bundle.fit cls = true) (hnames : ∀ n ∈ names, Bundle.fit n = true) (hk0 : Cond.classLink own ik cls ∈ sp_wa) (hini : Cond.initialized cls ∈ sp_wa) (hat : ∀ w ∈ vx_at0 own ic cls names, w ∈ sp_wa ∨ w ∈ sp_tw) (hgood : ∀ w ∈ Cond.classLink own ik cls :: Cond.initialized cls :: vx_at0 own ic cls names, vx_ot w = true)
    (d0 : decode cc pc = .ok (.new ik, 3)) (d3 : decode cc (pc + 3) = .ok (.dup, 1)) (d4 : decode cc (pc + 4) = .ok (.invokespecial ic, 3)) (d7 : decode cc (pc + 7) = .ok (.athrow, 1)) (hout : ∀ z ∈ tb, covers z (pc + 7) = false)
    (hf : names.length + 3 < rm.frames) (hlo : (st.map fun v => v.category).sum + (13 * (names.length + 1) + 42) ≤ rm.locals) (hcells : k + 1 ≤ rm.cells) (hslots : n + 6 ≤ rm.slots) (h1 : k + 1 ≤ mc) (h2 : n + 6 ≤ ms) (hq : Xt cls μ) : sp_w κ x (sp_F κ x Rt Xt mc ms) k n pc lv st μ := by
  obtain ⟨p, l, e, R, s, m, args, below, meth, c⟩ := x
  obtain ⟨⟨hx, hb, hml, hown, hts⟩, hU, hN, hlk, hr, htb, hnm, hR, htr⟩ := h
  intro H locs ls hH hS hl hc
  subst hR
  exact vx_throw0 hx hb htr hown hcls hnames (hts _ hk0) (hts _ hini) (fun w hw => (hat w hw).elim (hts w) (fun g => sp_fw_any (List.mem_filter.mp g).2 (hU.2.2.2.1 w g))) hgood hU.2.1 hU.2.2.1 hS hl.1 d0 d3 d4 d7 (by rw [htb]; exact hout) hf hlo hcells hslots hlk
    (fun t ht hz hk => ⟨⟨μ, hq, hH.kept hz hk⟩, Nat.le_trans hS.1 hz, fun q g1 g2 => (hk q (Nat.lt_of_lt_of_le g1 hS.1)).trans (hS.2.1 q g1 g2)⟩) hS.2.2 h1 h2
/-- a callee's exception that leaves the method -/
theorem st_out (h : sp_C κ x cc nL own ret tb nm rm) (hout : ∀ z ∈ tb, covers z pc = false) {E : String} (h1 : k ≤ mc) (h2 : n ≤ ms) (hq : Xt E μ) : sp_t κ x (sp_F κ x Rt Xt mc ms) k n pc lv st E μ := by
  obtain ⟨p, l, e, R, s, m, args, below, meth, c⟩ := x
  obtain ⟨⟨hx, hb, hml, hown, hts⟩, hU, hN, hlk, hr, htb, hnm, hR, htr⟩ := h
  intro H locs ls q ce hH hS hl hc hce hcv hcl
  exact vx_out (by rw [htb]; exact hout) hlk hce hcv hcl (fun t ht hW => ⟨⟨μ, hq, by rw [ht]; exact hH⟩, hS.F ht⟩) hS.2.2 h1 h2
/-- a callee's exception that is caught here -/
theorem st_catch (h : sp_C κ x cc nL own ret tb nm rm) {E : String} (pre : List ExceptionTableEntry) (z : ExceptionTableEntry) (suf : List ExceptionTableEntry) (hsp : tb = pre ++ z :: suf) (hpass : ∀ w ∈ pre, covers w pc = false ∨ (w.catchType ≠ 0 ∧ ∃ nm : String, Cond.classLink own w.catchType nm ∈ sp_wa ∧ (E, nm) ∈ sp_nc)) (hcov : covers z pc = true) (h0 : z.catchType ≠ 0) {name : String} (hlink : Cond.classLink own z.catchType name ∈ sp_wa) (hcast : Cond.castable E name ∈ sp_tw)
    (kk : ∀ q : Nat, sp_w κ x Q k n z.handlerPc lv [.ref q] μ) : sp_t κ x Q k n pc lv st E μ := by
  obtain ⟨p, l, e, R, s, m, args, below, meth, c⟩ := x
  obtain ⟨⟨hx, hb, hml, hown, hts⟩, hU, hN, hlk, hr, htb, hnm, hR, htr⟩ := h
  intro H locs ls q ce hH hS hl hc hce hcv hcl
  exact vx_catch hown pre z suf (htb.trans hsp) (fun w hw => (hpass w hw).imp id (fun g => ⟨g.1, g.2.choose, hts _ g.2.choose_spec.1, hU.2.2.2.2.1 _ g.2.choose_spec.2⟩)) hcov h0 (hts _ hlink) (sp_fw_any (List.mem_filter.mp hcast).2 (hU.2.2.2.1 _ hcast)) hce hcv hcl (kk q H locs ls hH hS hl hc)
/-- the opening of a contract -/
theorem sp_open {l : Launch} {y : MethodName} {cw : Cond} {f lo : Nat} {as : List Value} {maxL : Nat} (htr : l.stackTraces = false) (hy : plainName y.cls = true) (hw : cw = Cond.code y cc maxL ret) (hsz : (lg_sl as).length ≤ maxL) (hcat : ∀ v ∈ as, v.category = 1)
    (body : ∀ x : sp_X, x.2.1 = l → sp_C κ x cc maxL y.cls ret [] y.name (sp_rm f lo mc ms) → sp_w κ x (sp_F κ x Rt Xt mc ms) 0 0 0 (lv_args 0 as) [] μ) : sp_m l κ y cw f lo mc ms as μ Rt Xt := by
  refine vx_ofW (cc := cc) (maxL := maxL) (ret := ret) hy (by rw [hw]) ?_
  intro p e s m args below meth c s₁ B hml htb hv
  obtain ⟨rfl, hH, hU⟩ := hv
  have key := body (p, l, e, sp_rm f lo mc ms, s, m, as.toArray, below, meth, c) rfl ⟨⟨B.exec, B.bytes, hml, findClass_of_methodNamed B.named, fun w hw' => atoms_spec (ws := cw :: sp_wa) B.pre w (List.mem_cons_of_mem _ hw')⟩, hU, hH.1, B.notSynchronized, B.returns, List.eq_nil_iff_forall_not_mem.mpr (fun z hz => htb z hz), (name_of_methodNamed B.named B.method).1, rfl, htr⟩
  rw [lg_entry_eq]
  exact key s.heap [] _ hH va_S.rf (by rw [hml]; exact lv_entry as hsz) (sp_args hcat)
theorem sp_openH {l : Launch} {y : MethodName} {cw : Cond} {f lo : Nat} {as : List Value} {maxL : Nat} {hh : List (Nat × Nat × Nat × Nat)} (htr : l.stackTraces = false) (hy : plainName y.cls = true) (hw : cw = Cond.codeWith y cc maxL ret hh) (hsz : (lg_sl as).length ≤ maxL) (hcat : ∀ v ∈ as, v.category = 1)
    (body : ∀ x : sp_X, x.2.1 = l → sp_C κ x cc maxL y.cls ret (tableOf hh) y.name (sp_rm f lo mc ms) → sp_w κ x (sp_F κ x Rt Xt mc ms) 0 0 0 (lv_args 0 as) [] μ) : sp_m l κ y cw f lo mc ms as μ Rt Xt := by
  refine vx_ofWH (cc := cc) (maxL := maxL) (ret := ret) (hh := hh) hy (by rw [hw]) ?_
  intro p e s m args below meth c s₁ B hml hv
  obtain ⟨rfl, hH, hU⟩ := hv
  have hts := atoms_spec (ws := cw :: sp_wa) B.pre
  have key := body (p, l, e, sp_rm f lo mc ms, s, m, as.toArray, below, meth, c) rfl ⟨⟨B.exec, B.bytes, hml, findClass_of_methodNamed B.named, fun w hw' => hts w (List.mem_cons_of_mem _ hw')⟩, hU, hH.1, B.notSynchronized, B.returns, vx_table (x := y) B (by rw [← hw]; exact hts _ List.mem_cons_self), (name_of_methodNamed B.named B.method).1, rfl, htr⟩
  rw [lg_entry_eq]
  exact key s.heap [] _ hH va_S.rf (by rw [hml]; exact lv_entry as hsz) (sp_args hcat)
end
