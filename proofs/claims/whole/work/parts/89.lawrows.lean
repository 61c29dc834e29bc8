/-! rows for the law: the script, the switch, a long local (laid by wip/whole/rows3.py) -/
/-- the script: an old array -/
def sp_S (κ : sp_K) (x : sp_X) (b L : Nat) (xs : Nat → Int32) : Prop :=
  match x with
  | (_, _, _, _, s, _, _, _, _, _) => va_X b L xs s s.heap ∧ b < s.heap.size ∧ b < κ.2.1
/-- as sp_w, with a long in the locals 6 and 7 -/
def sp_v (w : Int64) (κ : sp_K) (x : sp_X) (Q : State → Prop) (k n pc : Nat) (lv : List (Nat × Value)) (st : List Value) (μ : sp_M) : Prop :=
  match x with
  | (p, l, e, R, s, m, args, below, meth, c) => ∀ (H : Heap) (locs : List Loc) (ls : Array Slot), sp_H κ μ H → va_S (sp_A κ) s.heap H locs → lv_has ls c.maxLocals lv → (∀ q ∈ lv, q.2.category = 1) → ls[6]? = some (.val (.long w)) → W p l e R s m args below meth c H locs k n Q (F0 m pc ls st)
section
variable {κ : sp_K} {x : sp_X} {Q : State → Prop} {k n pc nL : Nat} {lv : List (Nat × Value)} {st : List Value} {μ : sp_M} {cc : ByteArray} {own : String} {ret : Option FieldType} {tb : List ExceptionTableEntry} {nm : String} {rm : Room}
theorem sr_sld (h : sp_C κ x cc nL own ret tb nm rm) {b L j : Nat} {xs : Nat → Int32} {i : Int32} (hS0 : sp_S κ x b L xs) (hL : L < 2 ^ 31) (d : decode cc pc = .ok (.iaload, 1)) (hi : i = nI j) (hj : j < L) (kk : sp_w κ x Q k n (pc + 1) lv (.int (xs j) :: st) μ) : sp_w κ x Q k n pc lv (.int i :: .ref b :: st) μ := by
  subst hi
  obtain ⟨p, l, e, R, s, m, args, below, meth, c⟩ := x
  obtain ⟨⟨hx, hb, hml, hown, hts⟩, hU, hN, hlk, hr, htb, hnm, hR, htr⟩ := h
  intro H locs ls hH hS hl hc
  have kk' := kk H locs ls hH hS hl hc
  rw [← nI_clamp (Nat.lt_trans hj hL)] at kk'
  exact va_sld hx hb hS0.1 hS0.2.1 (Nat.not_le.mpr hS0.2.2) hS (vp_in_nI hj hL) d kk'
theorem sr_slen (h : sp_C κ x cc nL own ret tb nm rm) {b L : Nat} {xs : Nat → Int32} (hS0 : sp_S κ x b L xs) (d : decode cc pc = .ok (.arraylength, 1)) (kk : sp_w κ x Q k n (pc + 1) lv (.int (nI L) :: st) μ) : sp_w κ x Q k n pc lv (.ref b :: st) μ := by
  obtain ⟨p, l, e, R, s, m, args, below, meth, c⟩ := x
  obtain ⟨⟨hx, hb, hml, hown, hts⟩, hU, hN, hlk, hr, htb, hnm, hR, htr⟩ := h
  intro H locs ls hH hS hl hc
  exact va_slen hx hb hS0.1 hS0.2.1 (Nat.not_le.mpr hS0.2.2) hS d (kk H locs ls hH hS hl hc)
theorem sr_tabOut (h : sp_C κ x cc nL own ret tb nm rm) {dflt lo hi : Int} {offs : Array Int} {len tgt : Nat} {v : Int32} (d : decode cc pc = .ok (.tableswitch dflt lo hi offs, len)) (hv : v.toInt < lo ∨ hi < v.toInt) (ht : (pc : Int) + dflt = (tgt : Int)) (kk : sp_w κ x Q k n tgt lv st μ) : sp_w κ x Q k n pc lv (.int v :: st) μ := by
  obtain ⟨p, l, e, R, s, m, args, below, meth, c⟩ := x
  obtain ⟨⟨hx, hb, hml, hown, hts⟩, hU, hN, hlk, hr, htb, hnm, hR, htr⟩ := h
  intro H locs ls hH hS hl hc
  exact lv_tableOut hx hb d hv ht (kk H locs ls hH hS hl hc)
theorem sr_tabIn (h : sp_C κ x cc nL own ret tb nm rm) {dflt lo hi off : Int} {offs : Array Int} {len tgt : Nat} {v : Int32} (d : decode cc pc = .ok (.tableswitch dflt lo hi offs, len)) (h1 : ¬ v.toInt < lo) (h2 : ¬ hi < v.toInt) (ho : offs[(v.toInt - lo).toNat]? = some off) (ht : (pc : Int) + off = (tgt : Int)) (kk : sp_w κ x Q k n tgt lv st μ) : sp_w κ x Q k n pc lv (.int v :: st) μ := by
  obtain ⟨p, l, e, R, s, m, args, below, meth, c⟩ := x
  obtain ⟨⟨hx, hb, hml, hown, hts⟩, hU, hN, hlk, hr, htb, hnm, hR, htr⟩ := h
  intro H locs ls hH hS hl hc
  exact lv_tableIn hx hb d h1 h2 ho ht (kk H locs ls hH hS hl hc)
theorem sr_lstore6 (h : sp_C κ x cc nL own ret tb nm rm) {w : Int64} (d : decode cc pc = .ok (.lstore 6, 2)) (hn : 7 < nL) (hlv : ∀ q ∈ lv, q.1 < 6) (kk : sp_v w κ x Q k n (pc + 2) lv st μ) : sp_w κ x Q k n pc lv (.long w :: st) μ := by
  obtain ⟨p, l, e, R, s, m, args, below, meth, c⟩ := x
  obtain ⟨⟨hx, hb, hml, hown, hts⟩, hU, hN, hlk, hr, htb, hnm, hR, htr⟩ := h
  intro H locs ls hH hS hl hc
  have hf : lv.filter (fun q => !(q.1 == 6) && (!(q.1 == 6 + 1) && !(q.1 + 1 == 6 && q.2.category == 2))) = lv := by
    refine List.filter_eq_self.mpr (fun q hq => ?_)
    have h1 := hlv q hq
    have h2 := hc q hq
    have a1 : (q.1 == 6) = false := by rw [beq_eq_false_iff_ne]; omega
    have a2 : (q.1 == 6 + 1) = false := by rw [beq_eq_false_iff_ne]; omega
    rw [a1, a2, h2]
    simp
  refine lv_lstore hx hb d (hml ▸ hl) hn rfl (fun ls' hl' => ?_)
  rw [hf] at hl'
  exact kk H locs ls' hH hS (hml ▸ ⟨hl'.1, hl'.2.1, fun q hq => hl'.2.2 q (List.mem_cons_of_mem _ hq)⟩) hc (hl'.2.2 (6, .long w) List.mem_cons_self)
variable {w : Int64}
theorem sw_lload6 (h : sp_C κ x cc nL own ret tb nm rm) (d : decode cc pc = .ok (.lload 6, 2)) (kk : sp_v w κ x Q k n (pc + 2) lv (.long w :: st) μ) : sp_v w κ x Q k n pc lv st μ := by
  obtain ⟨p, l, e, R, s, m, args, below, meth, c⟩ := x
  obtain ⟨⟨hx, hb, hml, hown, hts⟩, hU, hN, hlk, hr, htb, hnm, hR, htr⟩ := h
  intro H locs ls hH hS hl hc hw0
  exact lv_lload hx hb d hw0 (kk H locs ls hH hS hl hc hw0)
theorem sw_drop (kk : sp_w κ x Q k n pc lv st μ) : sp_v w κ x Q k n pc lv st μ := by
  obtain ⟨p, l, e, R, s, m, args, below, meth, c⟩ := x
  intro H locs ls hH hS hl hc _
  exact kk H locs ls hH hS hl hc
theorem sw_aload_n (h : sp_C κ x cc nL own ret tb nm rm) {i : Fin 4} {ix : Nat} {v : Nat} (d : decode cc pc = .ok (.aload_n i, 1)) (hi : (i : Nat) = ix) (j : Nat) (hv : lv[j]? = some (ix, .ref v)) (kk : sp_v w κ x Q k n (pc + 1) lv (.ref v :: st) μ) : sp_v w κ x Q k n pc lv (st) μ := by
  obtain ⟨p, l, e, R, s, m, args, below, meth, c⟩ := x
  obtain ⟨⟨hx, hb, hml, hown, hts⟩, hU, hN, hlk, hr, htb, hnm, hR, htr⟩ := h
  intro H locs ls hH hS hl hc hw0
  exact lv_aload_n hx hb d hi (lv_at hl j hv) (kk H locs ls hH hS hl hc hw0)
theorem sw_iload (h : sp_C κ x cc nL own ret tb nm rm) {ix : Nat} {v : Int32} (d : decode cc pc = .ok (.iload ix, 2)) (j : Nat) (hv : lv[j]? = some (ix, .int v)) (kk : sp_v w κ x Q k n (pc + 2) lv (.int v :: st) μ) : sp_v w κ x Q k n pc lv (st) μ := by
  obtain ⟨p, l, e, R, s, m, args, below, meth, c⟩ := x
  obtain ⟨⟨hx, hb, hml, hown, hts⟩, hU, hN, hlk, hr, htb, hnm, hR, htr⟩ := h
  intro H locs ls hH hS hl hc hw0
  exact lv_iload hx hb d (lv_at hl j hv) (kk H locs ls hH hS hl hc hw0)
theorem sw_iconst (h : sp_C κ x cc nL own ret tb nm rm) {a : Int} {v : Int32} (d : decode cc pc = .ok (.iconst a, 1)) (hv : Int32.ofInt a = v) (kk : sp_v w κ x Q k n (pc + 1) lv (.int v :: st) μ) : sp_v w κ x Q k n pc lv (st) μ := by
  obtain ⟨p, l, e, R, s, m, args, below, meth, c⟩ := x
  obtain ⟨⟨hx, hb, hml, hown, hts⟩, hU, hN, hlk, hr, htb, hnm, hR, htr⟩ := h
  intro H locs ls hH hS hl hc hw0
  exact lv_iconst hx hb d hv (kk H locs ls hH hS hl hc hw0)
theorem sw_icmp_eq (h : sp_C κ x cc nL own ret tb nm rm) {a b : Int32} {off : Int} {tgt : Nat} (d : decode cc pc = .ok (.if_icmp .eq off, 3)) (ht : (pc : Int) + off = (tgt : Int)) (kt : a = b → sp_v w κ x Q k n tgt lv st μ) (kf : ¬ a = b → sp_v w κ x Q k n (pc + 3) lv st μ) : sp_v w κ x Q k n pc lv (.int b :: .int a :: st) μ := by
  obtain ⟨p, l, e, R, s, m, args, below, meth, c⟩ := x
  obtain ⟨⟨hx, hb, hml, hown, hts⟩, hU, hN, hlk, hr, htb, hnm, hR, htr⟩ := h
  intro H locs ls hH hS hl hc hw0
  exact lv_icmp_eq hx hb d ht (fun z => kt z H locs ls hH hS hl hc hw0) (fun z => kf z H locs ls hH hS hl hc hw0)
theorem sw_if_ne (h : sp_C κ x cc nL own ret tb nm rm) {a : Int32} {off : Int} {tgt : Nat} (d : decode cc pc = .ok (.ifCond .ne off, 3)) (ht : (pc : Int) + off = (tgt : Int)) (kt : ¬ a = 0 → sp_v w κ x Q k n tgt lv st μ) (kf : a = 0 → sp_v w κ x Q k n (pc + 3) lv st μ) : sp_v w κ x Q k n pc lv (.int a :: st) μ := by
  obtain ⟨p, l, e, R, s, m, args, below, meth, c⟩ := x
  obtain ⟨⟨hx, hb, hml, hown, hts⟩, hU, hN, hlk, hr, htb, hnm, hR, htr⟩ := h
  intro H locs ls hH hS hl hc hw0
  exact lv_if_ne hx hb d ht (fun z => kt z H locs ls hH hS hl hc hw0) (fun z => kf z H locs ls hH hS hl hc hw0)
theorem sw_if_eq (h : sp_C κ x cc nL own ret tb nm rm) {a : Int32} {off : Int} {tgt : Nat} (d : decode cc pc = .ok (.ifCond .eq off, 3)) (ht : (pc : Int) + off = (tgt : Int)) (kt : a = 0 → sp_v w κ x Q k n tgt lv st μ) (kf : ¬ a = 0 → sp_v w κ x Q k n (pc + 3) lv st μ) : sp_v w κ x Q k n pc lv (.int a :: st) μ := by
  obtain ⟨p, l, e, R, s, m, args, below, meth, c⟩ := x
  obtain ⟨⟨hx, hb, hml, hown, hts⟩, hU, hN, hlk, hr, htb, hnm, hR, htr⟩ := h
  intro H locs ls hH hS hl hc hw0
  exact lv_if_eq hx hb d ht (fun z => kt z H locs ls hH hS hl hc hw0) (fun z => kf z H locs ls hH hS hl hc hw0)
theorem sw_lald (h : sp_C κ x cc nL own ret tb nm rm) (d : decode cc pc = .ok (.laload, 1)) {a N j : Nat} {f : Nat → Int64} {i : Int32} (ho : μ a = some (sp_la κ N f)) (hi : i = nI j) (hj : j < N) (kk : sp_v w κ x Q k n (pc + 1) lv (.long (f j) :: st) μ) : sp_v w κ x Q k n pc lv (.int i :: .ref a :: st) μ := by
  subst hi
  obtain ⟨p, l, e, R, s, m, args, below, meth, c⟩ := x
  obtain ⟨⟨hx, hb, hml, hown, hts⟩, hU, hN, hlk, hr, htb, hnm, hR, htr⟩ := h
  intro H locs ls hH hS hl hc hw0
  have kk' := kk H locs ls hH hS hl hc hw0
  obtain ⟨h1, h2, LP, h3, h4, h5⟩ := hH
  obtain ⟨q0, hq0⟩ := sp_at h3 ho
  have hb3 : N < 2 ^ 31 := h2 a _ _ ho
  rw [← nI_clamp (Nat.lt_trans hj hb3)] at kk'
  exact va_lald hx hb hU.1 h4 q0 2 hq0 rfl (vp_in_nI hj hb3) d kk'
theorem sw_lcmp (h : sp_C κ x cc nL own ret tb nm rm) {a b : Int64} (d : decode cc pc = .ok (.lcmp, 1)) (kk : sp_v w κ x Q k n (pc + 1) lv (.int (lg_cmp a b) :: st) μ) : sp_v w κ x Q k n pc lv (.long b :: .long a :: st) μ := by
  obtain ⟨p, l, e, R, s, m, args, below, meth, c⟩ := x
  obtain ⟨⟨hx, hb, hml, hown, hts⟩, hU, hN, hlk, hr, htb, hnm, hR, htr⟩ := h
  intro H locs ls hH hS hl hc hw0
  exact W.lcmp hx hb d (kk H locs ls hH hS hl hc hw0)
theorem sw_goto (h : sp_C κ x cc nL own ret tb nm rm) {off : Int} {tgt : Nat} (d : decode cc pc = .ok (.goto off, 3)) (ht : (pc : Int) + off = (tgt : Int)) (kk : sp_v w κ x Q k n tgt lv st μ) : sp_v w κ x Q k n pc lv st μ := by
  obtain ⟨p, l, e, R, s, m, args, below, meth, c⟩ := x
  obtain ⟨⟨hx, hb, hml, hown, hts⟩, hU, hN, hlk, hr, htb, hnm, hR, htr⟩ := h
  intro H locs ls hH hS hl hc hw0
  exact lv_goto hx hb d ht (kk H locs ls hH hS hl hc hw0)
end
section
theorem sp_callv {p : Program} {l : Launch} {e : Env} {R : Room} {s : State} {m : MethodId} {args : Array Value} {below : List Frame} {meth : Method} {c : Code} {H : Heap} {locs : List Loc} {k n mc ms pc : Nat} {ls : Array Slot} {st0 rest : List Value} {a : Array Value} {κ : sp_K} {Rt : Option Value → sp_M → Prop} {Xt : String → sp_M → Prop} {Q : State → Prop} {lv : List (Nat × Value)} {w : Int64} (hw0 : ls[6]? = some (.val (.long w)))
    (hr : vx_Run p l e R s m args below meth c H locs k n mc ms (F0 m pc ls st0) rest (sp_Q κ Rt a) (sp_XC κ Xt) (sp_A κ)) (hS : va_S (sp_A κ) s.heap H locs) (hl : lv_has ls c.maxLocals lv) (hc : ∀ q ∈ lv, q.2.category = 1)
    (kk : ∀ (v : Option Value) (μ : sp_M), Rt v μ → sp_v w κ (p, l, e, R, s, m, args, below, meth, c) Q (k + mc) (n + ms) (pc + 3) lv (v.toList ++ rest) μ)
    (kx : ∀ (E : String) (μ : sp_M), Xt E μ → sp_t κ (p, l, e, R, s, m, args, below, meth, c) Q (k + mc) (n + ms) pc lv rest E μ) : W p l e R s m args below meth c H locs k n Q (F0 m pc ls st0) := by
  intro T hT X
  rcases hr T hT X with ⟨v, st₀, t, T', L, h0, X', hL, e1, e2, ⟨⟨v', μ', hv, hp, hH⟩, hF⟩, st⟩ | ⟨q, st₀, t, T', L, E, ce, h0, X', hL, e1, e2, ⟨⟨μ', hp, hH⟩, hF⟩, hce, hcv, hcl, st⟩
  · cases hv
    obtain ⟨k1, k2, k3⟩ := vx_keep h0 e1 hS (fun _ _ z => z) (fun _ z => z) hL hF
    obtain ⟨t2, a1, b1⟩ := kk v μ' hp T'.heap (locs ++ L) ls (by rw [e1]; exact hH) k3 hl hc hw0 T' rfl X'
    exact ⟨t2, st t2 a1, b1⟩
  · obtain ⟨k1, k2, k3⟩ := vx_keep h0 e1 hS (fun _ _ z => z) (fun _ z => z) hL hF
    obtain ⟨t2, a1, b1⟩ := kx E μ' hp T'.heap (locs ++ L) ls q ce (by rw [e1]; exact hH) k3 hl hc (by rw [e1]; exact hce) hcv hcl T' rfl X'
    exact ⟨t2, st.trans a1, b1⟩
variable {κ : sp_K} {x : sp_X} {Q : State → Prop} {k n pc nL : Nat} {lv : List (Nat × Value)} {st : List Value} {μ : sp_M} {cc : ByteArray} {own : String} {ret : Option FieldType} {tb : List ExceptionTableEntry} {nm : String} {rm : Room}
variable {y : MethodName} {bytes : ByteArray} {maxL ix n0 mc' ms' f' lo' : Nat} {ret' : Option FieldType} {cw : Cond} {As stk : List Value} {Rt : Option Value → sp_M → Prop} {Xt : String → sp_M → Prop} {hh : List (Nat × Nat × Nat × Nat)}
variable {w : Int64}
theorem sw_callV (h : sp_C κ x cc nL own ret tb nm rm) {ci : Nat} {rC : vw_C} (hg : GoodIn sp_wa (wsV own ix rC.1 y (cw :: sp_wa))) (hw : cw = Cond.code y bytes maxL ret') (hd : y.cls = rC.1 ∧ y.cls ≠ "java/lang/invoke/MethodHandle" ∧ y.cls ≠ "java/lang/invoke/VarHandle" ∧ (parseMethodDescriptor y.desc).map (fun d => d.parameters.length) = some n0) (hroom : f' + 1 ≤ rm.frames ∧ 8 + (maxL + 11) + lo' ≤ rm.locals) (hc0 : sp_cl[ci]? = some rC) (d : decode cc pc = .ok (.invokevirtual ix, 3)) (hlen : As.length = n0) {b : Nat} (hst : stk = As.reverse ++ .ref b :: st) (hcat : (st.map fun v => v.category).sum ≤ 8) (hcells : k + mc' ≤ rm.cells ∧ n + ms' ≤ rm.slots) {fs : List Value} (ho : μ b = some (.inr (ci, fs))) (hM : sp_m x.2.1 κ y cw f' lo' mc' ms' (.ref b :: As) μ Rt Xt)
    (kk : ∀ (v : Option Value) (μ' : sp_M), Rt v μ' → sp_v w κ x Q (k + mc') (n + ms') (pc + 3) lv (v.toList ++ st) μ') (kx : ∀ (E : String) (μ' : sp_M), Xt E μ' → sp_t κ x Q (k + mc') (n + ms') pc lv st E μ') : sp_v w κ x Q k n pc lv stk μ := by
  subst hst
  obtain ⟨p, l, e, R, s, m, args, below, meth, c⟩ := x
  obtain ⟨⟨hx, hb, hml, hown, hts⟩, hU, hN, hlk, hr, htb, hnm, hR, htr⟩ := h
  intro H locs ls hH hS hl hc hw0
  subst hR
  exact sp_callv hw0 (vx_runV (As := As) (rest := st) ⟨hx, hb, hml, hown, hts⟩ hM (cwV n0 hts hg (by rw [hw]) rfl rfl hd hroom) (sp_preV hU hS hH ho hc0) rfl hlen (hml ▸ hl.1) rfl (lv_room hcat) d hcells) hS hl hc kk kx
end
section
variable {κ : sp_K} {x : sp_X} {Q : State → Prop} {k n pc nL : Nat} {lv : List (Nat × Value)} {st : List Value} {μ : sp_M} {cc : ByteArray} {own : String} {ret : Option FieldType} {tb : List ExceptionTableEntry} {nm : String} {rm : Room}
variable {Rt : Option Value → sp_M → Prop} {Xt : String → sp_M → Prop} {mc ms : Nat}
variable {w : Int64}
theorem sw_zret (h : sp_C κ x cc nL own (some .boolean) tb nm rm) (d : decode cc pc = .ok (.ireturn, 1)) {v : Int32} (hv : narrow .boolean (.int v) = .int v) (h1 : k ≤ mc) (h2 : n ≤ ms) (hq : Rt (some (.int v)) μ) : sp_v w κ x (sp_F κ x Rt Xt mc ms) k n pc lv [.int v] μ := by
  obtain ⟨p, l, e, R, s, m, args, below, meth, c⟩ := x
  obtain ⟨⟨hx, hb, hml, hown, hts⟩, hU, hN, hlk, hr, htb, hnm, hR, htr⟩ := h
  intro H locs ls hH hS hl hc hw0
  refine W.widen h1 h2 (vx_ret ?_)
  exact W.zret hx hb hr hv (fun t ht hW => ⟨⟨_, μ, rfl, hq, by rw [ht]; exact hH⟩, hS.F ht⟩) hS.2.2 d hlk
end
