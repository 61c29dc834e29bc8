/-! The picture of the memory: at an address a cell, or nothing that we speak of. -/
abbrev sp_M : Type := Nat → Option va_E
/-- the numbers of the classes' objects, the first address that may be written, the array classes -/
abbrev sp_K : Type := va_G × Nat × (Nat → ClassId)
abbrev sp_X : Type := Program × Launch × Env × Room × State × MethodId × Array Value × List Frame × Method × Code
abbrev sp_A (κ : sp_K) : Nat → Prop := fun q => κ.2.1 ≤ q
def sp_c (μ : sp_M) (q : Nat) : va_E := (μ q).getD (.inr (0, []))
abbrev sp_ia (κ : sp_K) (n : Nat) (f : Nat → Int32) : va_E := .inl (κ.2.2 0, n, .inl f)
abbrev sp_sa (κ : sp_K) (n : Nat) (f : Nat → Int32) : va_E := .inl (κ.2.2 1, n, .inl f)
abbrev sp_la (κ : sp_K) (n : Nat) (f : Nat → Int64) : va_E := .inl (κ.2.2 2, n, .inr (.inl f))
abbrev sp_ra (κ : sp_K) (t : Nat) (n : Nat) (f : Nat → Option Nat) : va_E := .inl (κ.2.2 t, n, .inr (.inr (.inr (.inr f))))
abbrev sp_o (ci : Nat) (fs : List Value) : va_E := .inr (ci, fs)
def sp_B (μ : sp_M) : Prop := ∀ (q : Nat) (ca : ClassId) (y : vp_A), μ q = some (.inl (ca, y)) → y.1 < 2 ^ 31
def sp_H (κ : sp_K) (μ : sp_M) (H : Heap) : Prop := κ.2.1 ≤ H.size ∧ sp_B μ ∧ ∃ LP : List Nat, (∀ q, q ∈ LP ↔ (μ q).isSome = true) ∧ va_P κ.1 sp_cl (va_pl LP (sp_c μ)) H ∧ va_D (sp_A κ) (va_pl LP (sp_c μ))
def sp_tys (κ : sp_K) : List (ClassId × FieldType) := [(κ.2.2 0, .int), (κ.2.2 1, .short), (κ.2.2 2, .long), (κ.2.2 3, .object RA), (κ.2.2 4, .object RS), (κ.2.2 5, .array .int)]
/-- what a state holds beside the picture: the classes' numbers, the two statics of Throwable, words of the tables that go by facts -/
def sp_U (κ : sp_K) (U : State) : Prop := va_K κ.1 sp_cl (sp_tys κ) U ∧ vx_Zq Bundle.tN "UNASSIGNED_STACK" Bundle.steD (sp_A κ) U U.heap ∧ vx_Zq Bundle.tN "SUPPRESSED_SENTINEL" Bundle.listD (sp_A κ) U U.heap ∧ (∀ w ∈ sp_tw, w.before #[] U = true) ∧ (∀ q ∈ sp_nc, va_Nc q.1 q.2 U) ∧ va_AO RA U ∧ va_AO RS U ∧ (Cond.arrayOver (.array .int)).before #[] U = true
/-- a method's own frame: machine, code, words, room -/
def sp_C (κ : sp_K) (x : sp_X) (cc : ByteArray) (nL : Nat) (own : String) (ret : Option FieldType) (tb : List ExceptionTableEntry) (nm : String) (rm : Room) : Prop :=
  match x with
  | (p, l, _, R, s, m, args, _, meth, c) => CallFix p m c cc nL s args sp_wa own ∧ sp_U κ s ∧ κ.2.1 ≤ s.heap.size ∧ meth.locks = false ∧ meth.sig.returnType = ret ∧ c.exceptionTable.toList = tb ∧ meth.name = nm ∧ R = rm ∧ l.stackTraces = false
/-- the machine at pc with these locals and this stack, the memory as pictured, comes to Q -/
def sp_w (κ : sp_K) (x : sp_X) (Q : State → Prop) (k n pc : Nat) (lv : List (Nat × Value)) (st : List Value) (μ : sp_M) : Prop :=
  match x with
  | (p, l, e, R, s, m, args, below, meth, c) => ∀ (H : Heap) (locs : List Loc) (ls : Array Slot), sp_H κ μ H → va_S (sp_A κ) s.heap H locs → lv_has ls c.maxLocals lv → (∀ q ∈ lv, q.2.category = 1) → W p l e R s m args below meth c H locs k n Q (F0 m pc ls st)
/-- the same with an exception of class E thrown over the frame -/
def sp_t (κ : sp_K) (x : sp_X) (Q : State → Prop) (k n pc : Nat) (lv : List (Nat × Value)) (st : List Value) (E : String) (μ : sp_M) : Prop :=
  match x with
  | (p, l, e, R, s, m, args, below, meth, c) => ∀ (H : Heap) (locs : List Loc) (ls : Array Slot) (q : Addr) (ce : Cell), sp_H κ μ H → va_S (sp_A κ) s.heap H locs → lv_has ls c.maxLocals lv → (∀ q ∈ lv, q.2.category = 1) → H[q]? = some ce → ce.vm = .none → s.vm.findClass E = some ce.cls → vx_W p l e R s m args below meth c H locs k n Q (F0 m pc ls st) q
def sp_Q (κ : sp_K) (Rt : Option Value → sp_M → Prop) : Array Value → State → Outcome → State → Prop := fun _ st oc t => (∃ (v : Option Value) (μ : sp_M), oc = .returned v ∧ Rt v μ ∧ sp_H κ μ t.heap) ∧ va_F (sp_A κ) st t
def sp_XC (κ : sp_K) (Xt : String → sp_M → Prop) : String → State → State → Prop := fun E st t => (∃ μ : sp_M, Xt E μ ∧ sp_H κ μ t.heap) ∧ va_F (sp_A κ) st t
/-- what a body owes at its end -/
def sp_F (κ : sp_K) (x : sp_X) (Rt : Option Value → sp_M → Prop) (Xt : String → sp_M → Prop) (mc ms : Nat) : State → Prop :=
  match x with
  | (_, _, _, _, s, _, args, below, _, _) => vx_MQ below (sp_Q κ Rt) (sp_XC κ Xt) args s mc ms (sp_A κ)
abbrev sp_rm (f lo mc ms : Nat) : Room := { frames := f, cells := mc, slots := ms, locals := lo }
/-- a method's contract: from the memory μ it returns with Rt or throws with Xt; at most mc cells of ms slots are new -/
def sp_m (l : Launch) (κ : sp_K) (y : MethodName) (cw : Cond) (f lo mc ms : Nat) (as : List Value) (μ : sp_M) (Rt : Option Value → sp_M → Prop) (Xt : String → sp_M → Prop) : Prop :=
  vx_Met l y (cw :: sp_wa) (sp_rm f lo mc ms) (va_Pc as (fun U => sp_H κ μ U.heap ∧ sp_U κ U)) (sp_Q κ Rt) (sp_XC κ Xt) mc ms (sp_A κ)
theorem sp_at {μ : sp_M} {LP : List Nat} {a : Nat} {e : va_E} (hL : ∀ q, q ∈ LP ↔ (μ q).isSome = true) (ha : μ a = some e) : ∃ q0 : Nat, (va_pl LP (sp_c μ))[q0]? = some (a, e) := by
  have hm : a ∈ LP := (hL a).2 (by rw [ha]; rfl)
  obtain ⟨k, hk⟩ := va_pl_get (X := []) (f := sp_c μ) hm
  rw [List.nil_append] at hk
  refine ⟨k, ?_⟩
  rw [hk]
  simp [sp_c, ha]
theorem sp_cup {μ : sp_M} {a : Nat} {e : va_E} : sp_c (va_up μ a (some e)) = va_up (sp_c μ) a e := by
  funext q
  by_cases h : q = a
  · subst h; simp [sp_c, va_up]
  · simp [sp_c, va_up, h]
theorem sp_Bup {μ : sp_M} {a : Nat} {e : va_E} (h : sp_B μ) (he : ∀ (ca : ClassId) (y : vp_A), e = .inl (ca, y) → y.1 < 2 ^ 31) : sp_B (va_up μ a (some e)) := by
  intro q ca y hq
  by_cases h1 : q = a
  · subst h1
    rw [va_up_self] at hq
    exact he ca y (Option.some.inj hq)
  · rw [va_up_ne _ _ h1] at hq
    exact h q ca y hq
theorem sp_put {κ : sp_K} {μ : sp_M} {H0 H H1 : Heap} {locs1 : List Loc} {LP : List Nat} {a q0 : Nat} {e e' : va_E} (hN : κ.2.1 ≤ H0.size) (hS : va_S (sp_A κ) H0 H1 locs1) (hB : sp_B μ) (hL : ∀ q, q ∈ LP ↔ (μ q).isSome = true) (ha : μ a = some e) (hq : (va_pl LP (sp_c μ))[q0]? = some (a, e)) (hD : va_D (sp_A κ) (va_pl LP (sp_c μ)))
    (hP1 : va_P κ.1 sp_cl ((va_pl LP (sp_c μ)).set q0 (a, e')) H1) (hD1 : va_D (sp_A κ) ((va_pl LP (sp_c μ)).set q0 (a, e'))) (he : ∀ (ca : ClassId) (y : vp_A), e' = .inl (ca, y) → y.1 < 2 ^ 31) : sp_H κ (va_up μ a (some e')) H1 := by
  have hm : a ∈ LP := (hL a).2 (by rw [ha]; rfl)
  have hset : (va_pl LP (sp_c μ)).set q0 (a, e') = va_pl LP (sp_c (va_up μ a (some e'))) := by
    rw [sp_cup]
    have := va_pl_set (X := []) (f := sp_c μ) (k := q0) (e := e') hD hm (by rw [List.nil_append, hq]; simp [sp_c, ha])
    rw [List.nil_append, List.nil_append] at this
    exact this
  refine ⟨Nat.le_trans hN hS.1, sp_Bup hB he, LP, fun q => ?_, by rw [← hset]; exact hP1, by rw [← hset]; exact hD1⟩
  by_cases h : q = a
  · subst h
    rw [va_up_self]
    exact ⟨fun _ => rfl, fun _ => hm⟩
  · rw [va_up_ne _ _ h]
    exact hL q
theorem sp_push {κ : sp_K} {μ : sp_M} {H0 H1 : Heap} {locs1 : List Loc} {LP : List Nat} {a : Nat} {e : va_E} (hN : κ.2.1 ≤ H0.size) (hS : va_S (sp_A κ) H0 H1 locs1) (hB : sp_B μ) (hL : ∀ q, q ∈ LP ↔ (μ q).isSome = true)
    (hP1 : va_P κ.1 sp_cl (va_pl LP (sp_c μ) ++ [(a, e)]) H1) (hD1 : va_D (sp_A κ) (va_pl LP (sp_c μ) ++ [(a, e)])) (he : ∀ (ca : ClassId) (y : vp_A), e = .inl (ca, y) → y.1 < 2 ^ 31) : μ a = none ∧ sp_H κ (va_up μ a (some e)) H1 := by
  have hm : a ∉ LP := by
    intro h
    obtain ⟨k, hk⟩ := va_pl_get (X := []) (f := sp_c μ) h
    rw [List.nil_append] at hk
    have hlt := (List.getElem?_eq_some_iff.mp hk).1
    have h1 : (va_pl LP (sp_c μ) ++ [(a, e)])[k]? = some (a, sp_c μ a) := by rw [List.getElem?_append_left hlt]; exact hk
    have h2 : (va_pl LP (sp_c μ) ++ [(a, e)])[(va_pl LP (sp_c μ)).length]? = some (a, e) := by rw [List.getElem?_append_right (Nat.le_refl _), Nat.sub_self]; rfl
    have := hD1.1 k _ _ _ h1 h2 rfl
    omega
  have hz : μ a = none := by
    cases h : μ a with
    | none => rfl
    | some z => exact absurd ((hL a).2 (by rw [h]; rfl)) hm
  have hset : va_pl LP (sp_c μ) ++ [(a, e)] = va_pl (LP ++ [a]) (sp_c (va_up μ a (some e))) := by
    rw [sp_cup]
    exact va_pl_push hm
  refine ⟨hz, Nat.le_trans hN hS.1, sp_Bup hB he, LP ++ [a], fun q => ?_, by rw [← hset]; exact hP1, by rw [← hset]; exact hD1⟩
  rw [List.mem_append, List.mem_singleton]
  by_cases h : q = a
  · subst h
    rw [va_up_self]
    exact ⟨fun _ => rfl, fun _ => Or.inr rfl⟩
  · rw [va_up_ne _ _ h]
    exact ⟨fun h1 => h1.elim (hL q).1 (fun h2 => absurd h2 h), fun h1 => Or.inl ((hL q).2 h1)⟩
theorem sp_H.kept {κ : sp_K} {μ : sp_M} {H H1 : Heap} (h : sp_H κ μ H) (hz : H.size ≤ H1.size) (hk : ∀ q : Nat, q < H.size → H1[q]? = H[q]?) : sp_H κ μ H1 := by
  obtain ⟨h1, h2, LP, h3, h4, h5⟩ := h
  exact ⟨Nat.le_trans h1 hz, h2, LP, h3, fun i q hq => (h4 i q hq).kept (hk q.1 (h4 i q hq).lt), h5⟩
theorem sp_fw_moved {w : Cond} {u U : State} (hw : sp_fw w = true) (hvm : u.vm.Alike U.vm) (h : w.before #[] u = true) : w.before #[] U = true := by
  have tr : ∀ {c : Cond}, c.onTables = true → c.before #[] (u.setVm U.vm) = true → c.before #[] U = true := by
    intro c hc h
    have e := Cond.onTables_vm (A := #[]) (A' := #[]) (U := u) (U' := U) U.vm c hc
    have hU : U.setVm U.vm = U := rfl
    rw [hU] at e
    rw [← e]
    exact h
  cases w <;> first | (simp [sp_fw] at hw; done) | exact tr rfl (by rw [Cond.castable_setVm hvm]; exact h) | exact tr rfl (by rw [Cond.declares_setVm hvm]; exact h)
theorem sp_fw_any {w : Cond} {A : Array Value} {U : State} (hw : sp_fw w = true) (h : w.before #[] U = true) : w.before A U = true := by
  cases w <;> first | (simp [sp_fw] at hw; done) | exact va_any rfl h
theorem sp_U.moved {κ : sp_K} {u U : State} (hvm : u.vm.Alike U.vm) (hk : ∀ q : Nat, q < u.heap.size → ¬ sp_A κ q → U.heap[q]? = u.heap[q]?) (h : sp_U κ u) : sp_U κ U :=
  ⟨va_K.moved hvm h.1, vx_Zq.moved hvm (h.2.1.kept hk), vx_Zq.moved hvm (h.2.2.1.kept hk), fun w hw => sp_fw_moved (List.mem_filter.mp hw).2 hvm (h.2.2.2.1 w hw), fun q hq => (h.2.2.2.2.1 q hq).moved hvm, h.2.2.2.2.2.1.moved hvm, h.2.2.2.2.2.2.1.moved hvm, over_moved hvm h.2.2.2.2.2.2.2⟩
/-- a value of one word -/
theorem sp_c1i (v : Int32) : (Value.int v).category = 1 := rfl
theorem sp_c1r (v : Nat) : (Value.ref v).category = 1 := rfl
theorem sp_c1n : (Value.null).category = 1 := rfl
theorem sp_c1o (v : Option Nat) : (va_rf v).category = 1 := by cases v <;> rfl
/-- locals by rising number -/
def sp_ins (i : Nat) (v : Value) : List (Nat × Value) → List (Nat × Value)
  | [] => [(i, v)]
  | q :: r => if i < q.1 then (i, v) :: q :: r else q :: sp_ins i v r
def sp_del (i : Nat) : List (Nat × Value) → List (Nat × Value)
  | [] => []
  | q :: r => if q.1 = i then sp_del i r else q :: sp_del i r
def sp_st (lv : List (Nat × Value)) (i : Nat) (v : Value) : List (Nat × Value) := sp_ins i v (sp_del i lv)
theorem sp_ins_mem {i : Nat} {v : Value} : ∀ {l : List (Nat × Value)} {q : Nat × Value}, q ∈ sp_ins i v l → q = (i, v) ∨ q ∈ l
  | [], q, h => by simp [sp_ins] at h; exact Or.inl h
  | z :: r, q, h => by
    unfold sp_ins at h
    by_cases hz : i < z.1
    · rw [if_pos hz] at h
      rcases List.mem_cons.mp h with h1 | h1
      · exact Or.inl h1
      · exact Or.inr h1
    · rw [if_neg hz] at h
      rcases List.mem_cons.mp h with h1 | h1
      · exact Or.inr (h1 ▸ List.mem_cons_self)
      · rcases sp_ins_mem h1 with h2 | h2
        · exact Or.inl h2
        · exact Or.inr (List.mem_cons_of_mem _ h2)
theorem sp_del_mem {i : Nat} : ∀ {l : List (Nat × Value)} {q : Nat × Value}, q ∈ sp_del i l → q ∈ l ∧ q.1 ≠ i
  | [], q, h => by simp [sp_del] at h
  | z :: r, q, h => by
    unfold sp_del at h
    by_cases hz : z.1 = i
    · rw [if_pos hz] at h
      exact ⟨List.mem_cons_of_mem _ (sp_del_mem h).1, (sp_del_mem h).2⟩
    · rw [if_neg hz] at h
      rcases List.mem_cons.mp h with h1 | h1
      · subst h1
        exact ⟨List.mem_cons_self, hz⟩
      · exact ⟨List.mem_cons_of_mem _ (sp_del_mem h1).1, (sp_del_mem h1).2⟩
theorem sp_st_mem {lv : List (Nat × Value)} {i : Nat} {v : Value} {q : Nat × Value} (h : q ∈ sp_st lv i v) : q = (i, v) ∨ (q ∈ lv ∧ q.1 ≠ i) := by
  rcases sp_ins_mem h with h1 | h1
  · exact Or.inl h1
  · exact Or.inr (sp_del_mem h1)
theorem sp_st_c {lv : List (Nat × Value)} {i : Nat} {v : Value} (hv : v.category = 1) (hc : ∀ q ∈ lv, q.2.category = 1) : ∀ q ∈ sp_st lv i v, q.2.category = 1 := by
  intro q hq
  rcases sp_st_mem hq with h | h
  · subst h; exact hv
  · exact hc q h.1
theorem sp_st_has {ls : Array Slot} {nL : Nat} {lv : List (Nat × Value)} {i : Nat} {v : Value} (hc : ∀ q ∈ lv, q.2.category = 1) (h : lv_has ls nL ((i, v) :: lv.filter (fun q => !(q.1 == i) && !(q.1 + 1 == i && q.2.category == 2)))) : lv_has ls nL (sp_st lv i v) := by
  refine ⟨h.1, h.2.1, fun q hq => h.2.2 q ?_⟩
  rcases sp_st_mem hq with h1 | ⟨h1, h2⟩
  · exact h1 ▸ List.mem_cons_self
  · refine List.mem_cons_of_mem _ (List.mem_filter.mpr ⟨h1, ?_⟩)
    have := hc q h1
    simp [h2, this]
section
variable {κ : sp_K} {x : sp_X} {Q : State → Prop} {k n pc nL : Nat} {lv : List (Nat × Value)} {st : List Value} {μ : sp_M} {cc : ByteArray} {own : String} {ret : Option FieldType} {tb : List ExceptionTableEntry} {nm : String} {rm : Room}
theorem sr_iadd (h : sp_C κ x cc nL own ret tb nm rm) {a b : Int32} (d : decode cc pc = .ok (.iadd, 1)) (kk : sp_w κ x Q k n (pc + 1) lv (.int (a + b) :: st) μ) : sp_w κ x Q k n pc lv (.int b :: .int a :: st) μ := by
  obtain ⟨p, l, e, R, s, m, args, below, meth, c⟩ := x
  obtain ⟨⟨hx, hb, hml, hown, hts⟩, hU, hN, hlk, hr, htb, hnm, hR, htr⟩ := h
  intro H locs ls hH hS hl hc
  exact lv_iadd hx hb d (kk H locs ls hH hS hl hc)
theorem sr_isub (h : sp_C κ x cc nL own ret tb nm rm) {a b : Int32} (d : decode cc pc = .ok (.isub, 1)) (kk : sp_w κ x Q k n (pc + 1) lv (.int (a - b) :: st) μ) : sp_w κ x Q k n pc lv (.int b :: .int a :: st) μ := by
  obtain ⟨p, l, e, R, s, m, args, below, meth, c⟩ := x
  obtain ⟨⟨hx, hb, hml, hown, hts⟩, hU, hN, hlk, hr, htb, hnm, hR, htr⟩ := h
  intro H locs ls hH hS hl hc
  exact lv_isub hx hb d (kk H locs ls hH hS hl hc)
theorem sr_imul (h : sp_C κ x cc nL own ret tb nm rm) {a b : Int32} (d : decode cc pc = .ok (.imul, 1)) (kk : sp_w κ x Q k n (pc + 1) lv (.int (a * b) :: st) μ) : sp_w κ x Q k n pc lv (.int b :: .int a :: st) μ := by
  obtain ⟨p, l, e, R, s, m, args, below, meth, c⟩ := x
  obtain ⟨⟨hx, hb, hml, hown, hts⟩, hU, hN, hlk, hr, htb, hnm, hR, htr⟩ := h
  intro H locs ls hH hS hl hc
  exact lv_imul hx hb d (kk H locs ls hH hS hl hc)
theorem sr_iand (h : sp_C κ x cc nL own ret tb nm rm) {a b : Int32} (d : decode cc pc = .ok (.iand, 1)) (kk : sp_w κ x Q k n (pc + 1) lv (.int (a &&& b) :: st) μ) : sp_w κ x Q k n pc lv (.int b :: .int a :: st) μ := by
  obtain ⟨p, l, e, R, s, m, args, below, meth, c⟩ := x
  obtain ⟨⟨hx, hb, hml, hown, hts⟩, hU, hN, hlk, hr, htb, hnm, hR, htr⟩ := h
  intro H locs ls hH hS hl hc
  exact lv_iand hx hb d (kk H locs ls hH hS hl hc)
theorem sr_ior (h : sp_C κ x cc nL own ret tb nm rm) {a b : Int32} (d : decode cc pc = .ok (.ior, 1)) (kk : sp_w κ x Q k n (pc + 1) lv (.int (a ||| b) :: st) μ) : sp_w κ x Q k n pc lv (.int b :: .int a :: st) μ := by
  obtain ⟨p, l, e, R, s, m, args, below, meth, c⟩ := x
  obtain ⟨⟨hx, hb, hml, hown, hts⟩, hU, hN, hlk, hr, htb, hnm, hR, htr⟩ := h
  intro H locs ls hH hS hl hc
  exact lv_ior hx hb d (kk H locs ls hH hS hl hc)
theorem sr_ladd (h : sp_C κ x cc nL own ret tb nm rm) {a b : Int64} (d : decode cc pc = .ok (.ladd, 1)) (kk : sp_w κ x Q k n (pc + 1) lv (.long (a + b) :: st) μ) : sp_w κ x Q k n pc lv (.long b :: .long a :: st) μ := by
  obtain ⟨p, l, e, R, s, m, args, below, meth, c⟩ := x
  obtain ⟨⟨hx, hb, hml, hown, hts⟩, hU, hN, hlk, hr, htb, hnm, hR, htr⟩ := h
  intro H locs ls hH hS hl hc
  exact lv_ladd hx hb d (kk H locs ls hH hS hl hc)
theorem sr_lmul (h : sp_C κ x cc nL own ret tb nm rm) {a b : Int64} (d : decode cc pc = .ok (.lmul, 1)) (kk : sp_w κ x Q k n (pc + 1) lv (.long (a * b) :: st) μ) : sp_w κ x Q k n pc lv (.long b :: .long a :: st) μ := by
  obtain ⟨p, l, e, R, s, m, args, below, meth, c⟩ := x
  obtain ⟨⟨hx, hb, hml, hown, hts⟩, hU, hN, hlk, hr, htb, hnm, hR, htr⟩ := h
  intro H locs ls hH hS hl hc
  exact lv_lmul hx hb d (kk H locs ls hH hS hl hc)
theorem sr_lshl (h : sp_C κ x cc nL own ret tb nm rm) {a : Int64} {b : Int32} (d : decode cc pc = .ok (.lshl, 1)) (kk : sp_w κ x Q k n (pc + 1) lv (.long (a <<< (b.toInt64 &&& 63)) :: st) μ) : sp_w κ x Q k n pc lv (.int b :: .long a :: st) μ := by
  obtain ⟨p, l, e, R, s, m, args, below, meth, c⟩ := x
  obtain ⟨⟨hx, hb, hml, hown, hts⟩, hU, hN, hlk, hr, htb, hnm, hR, htr⟩ := h
  intro H locs ls hH hS hl hc
  exact lv_lshl hx hb d rfl (kk H locs ls hH hS hl hc)
theorem sr_i2l (h : sp_C κ x cc nL own ret tb nm rm) {a : Int32} (d : decode cc pc = .ok (.i2l, 1)) (kk : sp_w κ x Q k n (pc + 1) lv (.long a.toInt64 :: st) μ) : sp_w κ x Q k n pc lv (.int a :: st) μ := by
  obtain ⟨p, l, e, R, s, m, args, below, meth, c⟩ := x
  obtain ⟨⟨hx, hb, hml, hown, hts⟩, hU, hN, hlk, hr, htb, hnm, hR, htr⟩ := h
  intro H locs ls hH hS hl hc
  exact lv_i2l hx hb d rfl (kk H locs ls hH hS hl hc)
theorem sr_i2s (h : sp_C κ x cc nL own ret tb nm rm) {a : Int32} (d : decode cc pc = .ok (.i2s, 1)) (kk : sp_w κ x Q k n (pc + 1) lv (.int a.toInt16.toInt32 :: st) μ) : sp_w κ x Q k n pc lv (.int a :: st) μ := by
  obtain ⟨p, l, e, R, s, m, args, below, meth, c⟩ := x
  obtain ⟨⟨hx, hb, hml, hown, hts⟩, hU, hN, hlk, hr, htb, hnm, hR, htr⟩ := h
  intro H locs ls hH hS hl hc
  exact lv_i2s hx hb d rfl (kk H locs ls hH hS hl hc)
theorem sr_lcmp (h : sp_C κ x cc nL own ret tb nm rm) {a b : Int64} (d : decode cc pc = .ok (.lcmp, 1)) (kk : sp_w κ x Q k n (pc + 1) lv (.int (lg_cmp a b) :: st) μ) : sp_w κ x Q k n pc lv (.long b :: .long a :: st) μ := by
  obtain ⟨p, l, e, R, s, m, args, below, meth, c⟩ := x
  obtain ⟨⟨hx, hb, hml, hown, hts⟩, hU, hN, hlk, hr, htb, hnm, hR, htr⟩ := h
  intro H locs ls hH hS hl hc
  exact W.lcmp hx hb d (kk H locs ls hH hS hl hc)
theorem sr_iconst (h : sp_C κ x cc nL own ret tb nm rm) {a : Int} {v : Int32} (d : decode cc pc = .ok (.iconst a, 1)) (hv : Int32.ofInt a = v) (kk : sp_w κ x Q k n (pc + 1) lv (.int v :: st) μ) : sp_w κ x Q k n pc lv (st) μ := by
  obtain ⟨p, l, e, R, s, m, args, below, meth, c⟩ := x
  obtain ⟨⟨hx, hb, hml, hown, hts⟩, hU, hN, hlk, hr, htb, hnm, hR, htr⟩ := h
  intro H locs ls hH hS hl hc
  exact lv_iconst hx hb d hv (kk H locs ls hH hS hl hc)
theorem sr_bipush (h : sp_C κ x cc nL own ret tb nm rm) {a : Int} {v : Int32} (d : decode cc pc = .ok (.bipush a, 2)) (hv : (Int8.ofInt a).toInt32 = v) (kk : sp_w κ x Q k n (pc + 2) lv (.int v :: st) μ) : sp_w κ x Q k n pc lv (st) μ := by
  obtain ⟨p, l, e, R, s, m, args, below, meth, c⟩ := x
  obtain ⟨⟨hx, hb, hml, hown, hts⟩, hU, hN, hlk, hr, htb, hnm, hR, htr⟩ := h
  intro H locs ls hH hS hl hc
  exact lv_bipush hx hb d hv (kk H locs ls hH hS hl hc)
theorem sr_sipush (h : sp_C κ x cc nL own ret tb nm rm) {a : Int} {v : Int32} (d : decode cc pc = .ok (.sipush a, 3)) (hv : (Int16.ofInt a).toInt32 = v) (kk : sp_w κ x Q k n (pc + 3) lv (.int v :: st) μ) : sp_w κ x Q k n pc lv (st) μ := by
  obtain ⟨p, l, e, R, s, m, args, below, meth, c⟩ := x
  obtain ⟨⟨hx, hb, hml, hown, hts⟩, hU, hN, hlk, hr, htb, hnm, hR, htr⟩ := h
  intro H locs ls hH hS hl hc
  exact lv_sipush hx hb d hv (kk H locs ls hH hS hl hc)
theorem sr_lconst (h : sp_C κ x cc nL own ret tb nm rm) {a : Fin 2} {v : Int64} (d : decode cc pc = .ok (.lconst a, 1)) (hv : Int64.ofNat (a : Nat) = v) (kk : sp_w κ x Q k n (pc + 1) lv (.long v :: st) μ) : sp_w κ x Q k n pc lv (st) μ := by
  obtain ⟨p, l, e, R, s, m, args, below, meth, c⟩ := x
  obtain ⟨⟨hx, hb, hml, hown, hts⟩, hU, hN, hlk, hr, htb, hnm, hR, htr⟩ := h
  intro H locs ls hH hS hl hc
  exact lv_lconst hx hb d hv (kk H locs ls hH hS hl hc)
theorem sr_null (h : sp_C κ x cc nL own ret tb nm rm)  (d : decode cc pc = .ok (.aconst_null, 1)) (kk : sp_w κ x Q k n (pc + 1) lv (.null :: st) μ) : sp_w κ x Q k n pc lv (st) μ := by
  obtain ⟨p, l, e, R, s, m, args, below, meth, c⟩ := x
  obtain ⟨⟨hx, hb, hml, hown, hts⟩, hU, hN, hlk, hr, htb, hnm, hR, htr⟩ := h
  intro H locs ls hH hS hl hc
  exact lv_null hx hb d (kk H locs ls hH hS hl hc)
theorem sr_ldc (h : sp_C κ x cc nL own ret tb nm rm) {ix : Nat} {v : Int32} (d : decode cc pc = .ok (.ldc ix, 2)) (hw : Jvm.Cond.constant own ix v ∈ sp_wa) (kk : sp_w κ x Q k n (pc + 2) lv (.int v :: st) μ) : sp_w κ x Q k n pc lv (st) μ := by
  obtain ⟨p, l, e, R, s, m, args, below, meth, c⟩ := x
  obtain ⟨⟨hx, hb, hml, hown, hts⟩, hU, hN, hlk, hr, htb, hnm, hR, htr⟩ := h
  intro H locs ls hH hS hl hc
  exact lv_ldc hx hb hown (hts _ hw) d (kk H locs ls hH hS hl hc)
theorem sr_ldc2 (h : sp_C κ x cc nL own ret tb nm rm) {ix : Nat} {v : Int64} (d : decode cc pc = .ok (.ldc2_w ix, 3)) (hw : Jvm.Cond.constantLong own ix v ∈ sp_wa) (kk : sp_w κ x Q k n (pc + 3) lv (.long v :: st) μ) : sp_w κ x Q k n pc lv (st) μ := by
  obtain ⟨p, l, e, R, s, m, args, below, meth, c⟩ := x
  obtain ⟨⟨hx, hb, hml, hown, hts⟩, hU, hN, hlk, hr, htb, hnm, hR, htr⟩ := h
  intro H locs ls hH hS hl hc
  exact lv_ldc2 hx hb hown (hts _ hw) d (kk H locs ls hH hS hl hc)
theorem sr_dup (h : sp_C κ x cc nL own ret tb nm rm) {v : Value} (d : decode cc pc = .ok (.dup, 1)) (hv : v.category = 1) (kk : sp_w κ x Q k n (pc + 1) lv (v :: v :: st) μ) : sp_w κ x Q k n pc lv (v :: st) μ := by
  obtain ⟨p, l, e, R, s, m, args, below, meth, c⟩ := x
  obtain ⟨⟨hx, hb, hml, hown, hts⟩, hU, hN, hlk, hr, htb, hnm, hR, htr⟩ := h
  intro H locs ls hH hS hl hc
  exact lv_dup hx hb d hv (kk H locs ls hH hS hl hc)
theorem sr_pop (h : sp_C κ x cc nL own ret tb nm rm) {v : Value} (d : decode cc pc = .ok (.pop, 1)) (hv : v.category = 1) (kk : sp_w κ x Q k n (pc + 1) lv (st) μ) : sp_w κ x Q k n pc lv (v :: st) μ := by
  obtain ⟨p, l, e, R, s, m, args, below, meth, c⟩ := x
  obtain ⟨⟨hx, hb, hml, hown, hts⟩, hU, hN, hlk, hr, htb, hnm, hR, htr⟩ := h
  intro H locs ls hH hS hl hc
  exact lv_pop hx hb d hv (kk H locs ls hH hS hl hc)
theorem sr_dup_x1 (h : sp_C κ x cc nL own ret tb nm rm) {v v2 : Value} (d : decode cc pc = .ok (.dup_x1, 1)) (hv : v.category = 1) (hv2 : v2.category = 1) (kk : sp_w κ x Q k n (pc + 1) lv (v :: v2 :: v :: st) μ) : sp_w κ x Q k n pc lv (v :: v2 :: st) μ := by
  obtain ⟨p, l, e, R, s, m, args, below, meth, c⟩ := x
  obtain ⟨⟨hx, hb, hml, hown, hts⟩, hU, hN, hlk, hr, htb, hnm, hR, htr⟩ := h
  intro H locs ls hH hS hl hc
  exact lv_dup_x1 hx hb d hv hv2 (kk H locs ls hH hS hl hc)
theorem sr_dup_x2 (h : sp_C κ x cc nL own ret tb nm rm) {v v2 v3 : Value} (d : decode cc pc = .ok (.dup_x2, 1)) (hv : v.category = 1) (hv2 : v2.category = 1) (hv3 : v3.category = 1) (kk : sp_w κ x Q k n (pc + 1) lv (v :: v2 :: v3 :: v :: st) μ) : sp_w κ x Q k n pc lv (v :: v2 :: v3 :: st) μ := by
  obtain ⟨p, l, e, R, s, m, args, below, meth, c⟩ := x
  obtain ⟨⟨hx, hb, hml, hown, hts⟩, hU, hN, hlk, hr, htb, hnm, hR, htr⟩ := h
  intro H locs ls hH hS hl hc
  exact lv_dup_x2 hx hb d hv hv2 hv3 (kk H locs ls hH hS hl hc)
theorem sr_dup2 (h : sp_C κ x cc nL own ret tb nm rm) {v v2 : Value} (d : decode cc pc = .ok (.dup2, 1)) (hv : v.category = 1) (hv2 : v2.category = 1) (kk : sp_w κ x Q k n (pc + 1) lv (v :: v2 :: v :: v2 :: st) μ) : sp_w κ x Q k n pc lv (v :: v2 :: st) μ := by
  obtain ⟨p, l, e, R, s, m, args, below, meth, c⟩ := x
  obtain ⟨⟨hx, hb, hml, hown, hts⟩, hU, hN, hlk, hr, htb, hnm, hR, htr⟩ := h
  intro H locs ls hH hS hl hc
  exact lv_dup2_11 hx hb d hv hv2 (kk H locs ls hH hS hl hc)
theorem sr_iload_n (h : sp_C κ x cc nL own ret tb nm rm) {i : Fin 4} {ix : Nat} {v : Int32} (d : decode cc pc = .ok (.iload_n i, 1)) (hi : (i : Nat) = ix) (j : Nat) (hv : lv[j]? = some (ix, .int v)) (kk : sp_w κ x Q k n (pc + 1) lv (.int v :: st) μ) : sp_w κ x Q k n pc lv (st) μ := by
  obtain ⟨p, l, e, R, s, m, args, below, meth, c⟩ := x
  obtain ⟨⟨hx, hb, hml, hown, hts⟩, hU, hN, hlk, hr, htb, hnm, hR, htr⟩ := h
  intro H locs ls hH hS hl hc
  exact lv_iload_n hx hb d hi (lv_at hl j hv) (kk H locs ls hH hS hl hc)
theorem sr_iload (h : sp_C κ x cc nL own ret tb nm rm) {ix : Nat} {v : Int32} (d : decode cc pc = .ok (.iload ix, 2)) (j : Nat) (hv : lv[j]? = some (ix, .int v)) (kk : sp_w κ x Q k n (pc + 2) lv (.int v :: st) μ) : sp_w κ x Q k n pc lv (st) μ := by
  obtain ⟨p, l, e, R, s, m, args, below, meth, c⟩ := x
  obtain ⟨⟨hx, hb, hml, hown, hts⟩, hU, hN, hlk, hr, htb, hnm, hR, htr⟩ := h
  intro H locs ls hH hS hl hc
  exact lv_iload hx hb d (lv_at hl j hv) (kk H locs ls hH hS hl hc)
theorem sr_aload_n (h : sp_C κ x cc nL own ret tb nm rm) {i : Fin 4} {ix : Nat} {v : Nat} (d : decode cc pc = .ok (.aload_n i, 1)) (hi : (i : Nat) = ix) (j : Nat) (hv : lv[j]? = some (ix, .ref v)) (kk : sp_w κ x Q k n (pc + 1) lv (.ref v :: st) μ) : sp_w κ x Q k n pc lv (st) μ := by
  obtain ⟨p, l, e, R, s, m, args, below, meth, c⟩ := x
  obtain ⟨⟨hx, hb, hml, hown, hts⟩, hU, hN, hlk, hr, htb, hnm, hR, htr⟩ := h
  intro H locs ls hH hS hl hc
  exact lv_aload_n hx hb d hi (lv_at hl j hv) (kk H locs ls hH hS hl hc)
theorem sr_aload (h : sp_C κ x cc nL own ret tb nm rm) {ix : Nat} {v : Nat} (d : decode cc pc = .ok (.aload ix, 2)) (j : Nat) (hv : lv[j]? = some (ix, .ref v)) (kk : sp_w κ x Q k n (pc + 2) lv (.ref v :: st) μ) : sp_w κ x Q k n pc lv (st) μ := by
  obtain ⟨p, l, e, R, s, m, args, below, meth, c⟩ := x
  obtain ⟨⟨hx, hb, hml, hown, hts⟩, hU, hN, hlk, hr, htb, hnm, hR, htr⟩ := h
  intro H locs ls hH hS hl hc
  exact lv_aload hx hb d (lv_at hl j hv) (kk H locs ls hH hS hl hc)
theorem sr_aloadN_n (h : sp_C κ x cc nL own ret tb nm rm) {i : Fin 4} {ix : Nat}  (d : decode cc pc = .ok (.aload_n i, 1)) (hi : (i : Nat) = ix) (j : Nat) (hv : lv[j]? = some (ix, .null)) (kk : sp_w κ x Q k n (pc + 1) lv (.null :: st) μ) : sp_w κ x Q k n pc lv (st) μ := by
  obtain ⟨p, l, e, R, s, m, args, below, meth, c⟩ := x
  obtain ⟨⟨hx, hb, hml, hown, hts⟩, hU, hN, hlk, hr, htb, hnm, hR, htr⟩ := h
  intro H locs ls hH hS hl hc
  exact lv_aload_nN hx hb d hi (lv_at hl j hv) (kk H locs ls hH hS hl hc)
theorem sr_aloadN (h : sp_C κ x cc nL own ret tb nm rm) {ix : Nat}  (d : decode cc pc = .ok (.aload ix, 2)) (j : Nat) (hv : lv[j]? = some (ix, .null)) (kk : sp_w κ x Q k n (pc + 2) lv (.null :: st) μ) : sp_w κ x Q k n pc lv (st) μ := by
  obtain ⟨p, l, e, R, s, m, args, below, meth, c⟩ := x
  obtain ⟨⟨hx, hb, hml, hown, hts⟩, hU, hN, hlk, hr, htb, hnm, hR, htr⟩ := h
  intro H locs ls hH hS hl hc
  exact lv_aloadN hx hb d (lv_at hl j hv) (kk H locs ls hH hS hl hc)
theorem sr_aloadO_n (h : sp_C κ x cc nL own ret tb nm rm) {i : Fin 4} {ix : Nat} {r : Option Nat} (d : decode cc pc = .ok (.aload_n i, 1)) (hi : (i : Nat) = ix) (j : Nat) (hv : lv[j]? = some (ix, va_rf r)) (kk : sp_w κ x Q k n (pc + 1) lv (va_rf r :: st) μ) : sp_w κ x Q k n pc lv st μ := by
  cases r with
  | none => exact sr_aloadN_n h d hi j hv kk
  | some a => exact sr_aload_n h d hi j hv kk
theorem sr_aloadO (h : sp_C κ x cc nL own ret tb nm rm) {ix : Nat} {r : Option Nat} (d : decode cc pc = .ok (.aload ix, 2)) (j : Nat) (hv : lv[j]? = some (ix, va_rf r)) (kk : sp_w κ x Q k n (pc + 2) lv (va_rf r :: st) μ) : sp_w κ x Q k n pc lv st μ := by
  cases r with
  | none => exact sr_aloadN h d j hv kk
  | some a => exact sr_aload h d j hv kk
theorem sr_istore_n (h : sp_C κ x cc nL own ret tb nm rm) {i : Fin 4} {ix : Nat} {v : Int32} (d : decode cc pc = .ok (.istore_n i, 1)) (hi : (i : Nat) = ix) (hn : ix < nL) {lv' : List (Nat × Value)} (e' : sp_st lv ix (.int v) = lv') (kk : sp_w κ x Q k n (pc + 1) lv' st μ) : sp_w κ x Q k n pc lv (.int v :: st) μ := by
  subst e'
  obtain ⟨p, l, e, R, s, m, args, below, meth, c⟩ := x
  obtain ⟨⟨hx, hb, hml, hown, hts⟩, hU, hN, hlk, hr, htb, hnm, hR, htr⟩ := h
  intro H locs ls hH hS hl hc
  exact lv_istore_n hx hb d hi (hml ▸ hl) hn rfl (fun ls' hl' => kk H locs ls' hH hS (hml ▸ sp_st_has hc hl') (sp_st_c (sp_c1i _) hc))
theorem sr_istore (h : sp_C κ x cc nL own ret tb nm rm) {ix : Nat} {v : Int32} (d : decode cc pc = .ok (.istore ix, 2)) (hn : ix < nL) {lv' : List (Nat × Value)} (e' : sp_st lv ix (.int v) = lv') (kk : sp_w κ x Q k n (pc + 2) lv' st μ) : sp_w κ x Q k n pc lv (.int v :: st) μ := by
  subst e'
  obtain ⟨p, l, e, R, s, m, args, below, meth, c⟩ := x
  obtain ⟨⟨hx, hb, hml, hown, hts⟩, hU, hN, hlk, hr, htb, hnm, hR, htr⟩ := h
  intro H locs ls hH hS hl hc
  exact lv_istore hx hb d (hml ▸ hl) hn rfl (fun ls' hl' => kk H locs ls' hH hS (hml ▸ sp_st_has hc hl') (sp_st_c (sp_c1i _) hc))
theorem sr_astore_n (h : sp_C κ x cc nL own ret tb nm rm) {i : Fin 4} {ix : Nat} {v : Nat} (d : decode cc pc = .ok (.astore_n i, 1)) (hi : (i : Nat) = ix) (hn : ix < nL) {lv' : List (Nat × Value)} (e' : sp_st lv ix (.ref v) = lv') (kk : sp_w κ x Q k n (pc + 1) lv' st μ) : sp_w κ x Q k n pc lv (.ref v :: st) μ := by
  subst e'
  obtain ⟨p, l, e, R, s, m, args, below, meth, c⟩ := x
  obtain ⟨⟨hx, hb, hml, hown, hts⟩, hU, hN, hlk, hr, htb, hnm, hR, htr⟩ := h
  intro H locs ls hH hS hl hc
  exact lv_astore_n hx hb d hi (hml ▸ hl) hn rfl (fun ls' hl' => kk H locs ls' hH hS (hml ▸ sp_st_has hc hl') (sp_st_c (sp_c1r _) hc))
theorem sr_astore (h : sp_C κ x cc nL own ret tb nm rm) {ix : Nat} {v : Nat} (d : decode cc pc = .ok (.astore ix, 2)) (hn : ix < nL) {lv' : List (Nat × Value)} (e' : sp_st lv ix (.ref v) = lv') (kk : sp_w κ x Q k n (pc + 2) lv' st μ) : sp_w κ x Q k n pc lv (.ref v :: st) μ := by
  subst e'
  obtain ⟨p, l, e, R, s, m, args, below, meth, c⟩ := x
  obtain ⟨⟨hx, hb, hml, hown, hts⟩, hU, hN, hlk, hr, htb, hnm, hR, htr⟩ := h
  intro H locs ls hH hS hl hc
  exact lv_astore hx hb d (hml ▸ hl) hn rfl (fun ls' hl' => kk H locs ls' hH hS (hml ▸ sp_st_has hc hl') (sp_st_c (sp_c1r _) hc))
theorem sr_astoreN_n (h : sp_C κ x cc nL own ret tb nm rm) {i : Fin 4} {ix : Nat} (d : decode cc pc = .ok (.astore_n i, 1)) (hi : (i : Nat) = ix) (hn : ix < nL) {lv' : List (Nat × Value)} (e' : sp_st lv ix (.null) = lv') (kk : sp_w κ x Q k n (pc + 1) lv' st μ) : sp_w κ x Q k n pc lv (.null :: st) μ := by
  subst e'
  obtain ⟨p, l, e, R, s, m, args, below, meth, c⟩ := x
  obtain ⟨⟨hx, hb, hml, hown, hts⟩, hU, hN, hlk, hr, htb, hnm, hR, htr⟩ := h
  intro H locs ls hH hS hl hc
  exact lv_astore_nN hx hb d hi (hml ▸ hl) hn rfl (fun ls' hl' => kk H locs ls' hH hS (hml ▸ sp_st_has hc hl') (sp_st_c sp_c1n hc))
theorem sr_astoreN (h : sp_C κ x cc nL own ret tb nm rm) {ix : Nat} (d : decode cc pc = .ok (.astore ix, 2)) (hn : ix < nL) {lv' : List (Nat × Value)} (e' : sp_st lv ix (.null) = lv') (kk : sp_w κ x Q k n (pc + 2) lv' st μ) : sp_w κ x Q k n pc lv (.null :: st) μ := by
  subst e'
  obtain ⟨p, l, e, R, s, m, args, below, meth, c⟩ := x
  obtain ⟨⟨hx, hb, hml, hown, hts⟩, hU, hN, hlk, hr, htb, hnm, hR, htr⟩ := h
  intro H locs ls hH hS hl hc
  exact lv_astoreN hx hb d (hml ▸ hl) hn rfl (fun ls' hl' => kk H locs ls' hH hS (hml ▸ sp_st_has hc hl') (sp_st_c sp_c1n hc))
theorem sr_astoreO_n (h : sp_C κ x cc nL own ret tb nm rm) {i : Fin 4} {ix : Nat} {r : Option Nat} (d : decode cc pc = .ok (.astore_n i, 1)) (hi : (i : Nat) = ix) (hn : ix < nL) {lv' : List (Nat × Value)} (e' : sp_st lv ix (va_rf r) = lv') (kk : sp_w κ x Q k n (pc + 1) lv' st μ) : sp_w κ x Q k n pc lv (va_rf r :: st) μ := by
  cases r with
  | none => exact sr_astoreN_n h d hi hn e' kk
  | some a => exact sr_astore_n h d hi hn e' kk
theorem sr_astoreO (h : sp_C κ x cc nL own ret tb nm rm) {ix : Nat} {r : Option Nat} (d : decode cc pc = .ok (.astore ix, 2)) (hn : ix < nL) {lv' : List (Nat × Value)} (e' : sp_st lv ix (va_rf r) = lv') (kk : sp_w κ x Q k n (pc + 2) lv' st μ) : sp_w κ x Q k n pc lv (va_rf r :: st) μ := by
  cases r with
  | none => exact sr_astoreN h d hn e' kk
  | some a => exact sr_astore h d hn e' kk
theorem sr_iinc (h : sp_C κ x cc nL own ret tb nm rm) {ix : Nat} {a : Int} {v u : Int32} (d : decode cc pc = .ok (.iinc ix a, 3)) (j : Nat) (hv : lv[j]? = some (ix, .int v)) (hu : v + Int32.ofInt a = u) (hn : ix < nL) {lv' : List (Nat × Value)} (e' : sp_st lv ix (.int u) = lv') (kk : sp_w κ x Q k n (pc + 3) lv' st μ) : sp_w κ x Q k n pc lv st μ := by
  subst e'
  obtain ⟨p, l, e, R, s, m, args, below, meth, c⟩ := x
  obtain ⟨⟨hx, hb, hml, hown, hts⟩, hU, hN, hlk, hr, htb, hnm, hR, htr⟩ := h
  intro H locs ls hH hS hl hc
  exact lv_iinc hx hb d (hml ▸ hl) hv hu hn rfl (fun ls' hl' => kk H locs ls' hH hS (hml ▸ sp_st_has hc hl') (sp_st_c (sp_c1i _) hc))
theorem sr_if_eq (h : sp_C κ x cc nL own ret tb nm rm) {a : Int32} {off : Int} {tgt : Nat} (d : decode cc pc = .ok (.ifCond .eq off, 3)) (ht : (pc : Int) + off = (tgt : Int)) (kt : a = 0 → sp_w κ x Q k n tgt lv st μ) (kf : ¬ a = 0 → sp_w κ x Q k n (pc + 3) lv st μ) : sp_w κ x Q k n pc lv (.int a :: st) μ := by
  obtain ⟨p, l, e, R, s, m, args, below, meth, c⟩ := x
  obtain ⟨⟨hx, hb, hml, hown, hts⟩, hU, hN, hlk, hr, htb, hnm, hR, htr⟩ := h
  intro H locs ls hH hS hl hc
  exact lv_if_eq hx hb d ht (fun z => kt z H locs ls hH hS hl hc) (fun z => kf z H locs ls hH hS hl hc)
theorem sr_if_ne (h : sp_C κ x cc nL own ret tb nm rm) {a : Int32} {off : Int} {tgt : Nat} (d : decode cc pc = .ok (.ifCond .ne off, 3)) (ht : (pc : Int) + off = (tgt : Int)) (kt : ¬ a = 0 → sp_w κ x Q k n tgt lv st μ) (kf : a = 0 → sp_w κ x Q k n (pc + 3) lv st μ) : sp_w κ x Q k n pc lv (.int a :: st) μ := by
  obtain ⟨p, l, e, R, s, m, args, below, meth, c⟩ := x
  obtain ⟨⟨hx, hb, hml, hown, hts⟩, hU, hN, hlk, hr, htb, hnm, hR, htr⟩ := h
  intro H locs ls hH hS hl hc
  exact lv_if_ne hx hb d ht (fun z => kt z H locs ls hH hS hl hc) (fun z => kf z H locs ls hH hS hl hc)
theorem sr_if_lt (h : sp_C κ x cc nL own ret tb nm rm) {a : Int32} {off : Int} {tgt : Nat} (d : decode cc pc = .ok (.ifCond .lt off, 3)) (ht : (pc : Int) + off = (tgt : Int)) (kt : a < 0 → sp_w κ x Q k n tgt lv st μ) (kf : ¬ a < 0 → sp_w κ x Q k n (pc + 3) lv st μ) : sp_w κ x Q k n pc lv (.int a :: st) μ := by
  obtain ⟨p, l, e, R, s, m, args, below, meth, c⟩ := x
  obtain ⟨⟨hx, hb, hml, hown, hts⟩, hU, hN, hlk, hr, htb, hnm, hR, htr⟩ := h
  intro H locs ls hH hS hl hc
  exact lv_if_lt hx hb d ht (fun z => kt z H locs ls hH hS hl hc) (fun z => kf z H locs ls hH hS hl hc)
theorem sr_if_ge (h : sp_C κ x cc nL own ret tb nm rm) {a : Int32} {off : Int} {tgt : Nat} (d : decode cc pc = .ok (.ifCond .ge off, 3)) (ht : (pc : Int) + off = (tgt : Int)) (kt : 0 ≤ a → sp_w κ x Q k n tgt lv st μ) (kf : ¬ 0 ≤ a → sp_w κ x Q k n (pc + 3) lv st μ) : sp_w κ x Q k n pc lv (.int a :: st) μ := by
  obtain ⟨p, l, e, R, s, m, args, below, meth, c⟩ := x
  obtain ⟨⟨hx, hb, hml, hown, hts⟩, hU, hN, hlk, hr, htb, hnm, hR, htr⟩ := h
  intro H locs ls hH hS hl hc
  exact lv_if_ge hx hb d ht (fun z => kt z H locs ls hH hS hl hc) (fun z => kf z H locs ls hH hS hl hc)
theorem sr_if_gt (h : sp_C κ x cc nL own ret tb nm rm) {a : Int32} {off : Int} {tgt : Nat} (d : decode cc pc = .ok (.ifCond .gt off, 3)) (ht : (pc : Int) + off = (tgt : Int)) (kt : 0 < a → sp_w κ x Q k n tgt lv st μ) (kf : ¬ 0 < a → sp_w κ x Q k n (pc + 3) lv st μ) : sp_w κ x Q k n pc lv (.int a :: st) μ := by
  obtain ⟨p, l, e, R, s, m, args, below, meth, c⟩ := x
  obtain ⟨⟨hx, hb, hml, hown, hts⟩, hU, hN, hlk, hr, htb, hnm, hR, htr⟩ := h
  intro H locs ls hH hS hl hc
  exact lv_if_gt hx hb d ht (fun z => kt z H locs ls hH hS hl hc) (fun z => kf z H locs ls hH hS hl hc)
theorem sr_if_le (h : sp_C κ x cc nL own ret tb nm rm) {a : Int32} {off : Int} {tgt : Nat} (d : decode cc pc = .ok (.ifCond .le off, 3)) (ht : (pc : Int) + off = (tgt : Int)) (kt : a ≤ 0 → sp_w κ x Q k n tgt lv st μ) (kf : ¬ a ≤ 0 → sp_w κ x Q k n (pc + 3) lv st μ) : sp_w κ x Q k n pc lv (.int a :: st) μ := by
  obtain ⟨p, l, e, R, s, m, args, below, meth, c⟩ := x
  obtain ⟨⟨hx, hb, hml, hown, hts⟩, hU, hN, hlk, hr, htb, hnm, hR, htr⟩ := h
  intro H locs ls hH hS hl hc
  exact lv_if_le hx hb d ht (fun z => kt z H locs ls hH hS hl hc) (fun z => kf z H locs ls hH hS hl hc)
theorem sr_icmp_eq (h : sp_C κ x cc nL own ret tb nm rm) {a b : Int32} {off : Int} {tgt : Nat} (d : decode cc pc = .ok (.if_icmp .eq off, 3)) (ht : (pc : Int) + off = (tgt : Int)) (kt : a = b → sp_w κ x Q k n tgt lv st μ) (kf : ¬ a = b → sp_w κ x Q k n (pc + 3) lv st μ) : sp_w κ x Q k n pc lv (.int b :: .int a :: st) μ := by
  obtain ⟨p, l, e, R, s, m, args, below, meth, c⟩ := x
  obtain ⟨⟨hx, hb, hml, hown, hts⟩, hU, hN, hlk, hr, htb, hnm, hR, htr⟩ := h
  intro H locs ls hH hS hl hc
  exact lv_icmp_eq hx hb d ht (fun z => kt z H locs ls hH hS hl hc) (fun z => kf z H locs ls hH hS hl hc)
theorem sr_icmp_ne (h : sp_C κ x cc nL own ret tb nm rm) {a b : Int32} {off : Int} {tgt : Nat} (d : decode cc pc = .ok (.if_icmp .ne off, 3)) (ht : (pc : Int) + off = (tgt : Int)) (kt : ¬ a = b → sp_w κ x Q k n tgt lv st μ) (kf : a = b → sp_w κ x Q k n (pc + 3) lv st μ) : sp_w κ x Q k n pc lv (.int b :: .int a :: st) μ := by
  obtain ⟨p, l, e, R, s, m, args, below, meth, c⟩ := x
  obtain ⟨⟨hx, hb, hml, hown, hts⟩, hU, hN, hlk, hr, htb, hnm, hR, htr⟩ := h
  intro H locs ls hH hS hl hc
  exact lv_icmp_ne hx hb d ht (fun z => kt z H locs ls hH hS hl hc) (fun z => kf z H locs ls hH hS hl hc)
theorem sr_icmp_lt (h : sp_C κ x cc nL own ret tb nm rm) {a b : Int32} {off : Int} {tgt : Nat} (d : decode cc pc = .ok (.if_icmp .lt off, 3)) (ht : (pc : Int) + off = (tgt : Int)) (kt : a < b → sp_w κ x Q k n tgt lv st μ) (kf : ¬ a < b → sp_w κ x Q k n (pc + 3) lv st μ) : sp_w κ x Q k n pc lv (.int b :: .int a :: st) μ := by
  obtain ⟨p, l, e, R, s, m, args, below, meth, c⟩ := x
  obtain ⟨⟨hx, hb, hml, hown, hts⟩, hU, hN, hlk, hr, htb, hnm, hR, htr⟩ := h
  intro H locs ls hH hS hl hc
  exact lv_icmp_lt hx hb d ht (fun z => kt z H locs ls hH hS hl hc) (fun z => kf z H locs ls hH hS hl hc)
theorem sr_icmp_ge (h : sp_C κ x cc nL own ret tb nm rm) {a b : Int32} {off : Int} {tgt : Nat} (d : decode cc pc = .ok (.if_icmp .ge off, 3)) (ht : (pc : Int) + off = (tgt : Int)) (kt : b ≤ a → sp_w κ x Q k n tgt lv st μ) (kf : ¬ b ≤ a → sp_w κ x Q k n (pc + 3) lv st μ) : sp_w κ x Q k n pc lv (.int b :: .int a :: st) μ := by
  obtain ⟨p, l, e, R, s, m, args, below, meth, c⟩ := x
  obtain ⟨⟨hx, hb, hml, hown, hts⟩, hU, hN, hlk, hr, htb, hnm, hR, htr⟩ := h
  intro H locs ls hH hS hl hc
  exact lv_icmp_ge hx hb d ht (fun z => kt z H locs ls hH hS hl hc) (fun z => kf z H locs ls hH hS hl hc)
theorem sr_icmp_gt (h : sp_C κ x cc nL own ret tb nm rm) {a b : Int32} {off : Int} {tgt : Nat} (d : decode cc pc = .ok (.if_icmp .gt off, 3)) (ht : (pc : Int) + off = (tgt : Int)) (kt : b < a → sp_w κ x Q k n tgt lv st μ) (kf : ¬ b < a → sp_w κ x Q k n (pc + 3) lv st μ) : sp_w κ x Q k n pc lv (.int b :: .int a :: st) μ := by
  obtain ⟨p, l, e, R, s, m, args, below, meth, c⟩ := x
  obtain ⟨⟨hx, hb, hml, hown, hts⟩, hU, hN, hlk, hr, htb, hnm, hR, htr⟩ := h
  intro H locs ls hH hS hl hc
  exact lv_icmp_gt hx hb d ht (fun z => kt z H locs ls hH hS hl hc) (fun z => kf z H locs ls hH hS hl hc)
theorem sr_icmp_le (h : sp_C κ x cc nL own ret tb nm rm) {a b : Int32} {off : Int} {tgt : Nat} (d : decode cc pc = .ok (.if_icmp .le off, 3)) (ht : (pc : Int) + off = (tgt : Int)) (kt : a ≤ b → sp_w κ x Q k n tgt lv st μ) (kf : ¬ a ≤ b → sp_w κ x Q k n (pc + 3) lv st μ) : sp_w κ x Q k n pc lv (.int b :: .int a :: st) μ := by
  obtain ⟨p, l, e, R, s, m, args, below, meth, c⟩ := x
  obtain ⟨⟨hx, hb, hml, hown, hts⟩, hU, hN, hlk, hr, htb, hnm, hR, htr⟩ := h
  intro H locs ls hH hS hl hc
  exact lv_icmp_le hx hb d ht (fun z => kt z H locs ls hH hS hl hc) (fun z => kf z H locs ls hH hS hl hc)
theorem sr_goto (h : sp_C κ x cc nL own ret tb nm rm) {off : Int} {tgt : Nat} (d : decode cc pc = .ok (.goto off, 3)) (ht : (pc : Int) + off = (tgt : Int)) (kk : sp_w κ x Q k n tgt lv st μ) : sp_w κ x Q k n pc lv st μ := by
  obtain ⟨p, l, e, R, s, m, args, below, meth, c⟩ := x
  obtain ⟨⟨hx, hb, hml, hown, hts⟩, hU, hN, hlk, hr, htb, hnm, hR, htr⟩ := h
  intro H locs ls hH hS hl hc
  exact lv_goto hx hb d ht (kk H locs ls hH hS hl hc)
theorem sr_ifnull_s (h : sp_C κ x cc nL own ret tb nm rm) {a : Nat} {off : Int} (d : decode cc pc = .ok (.ifnull off, 3)) (kk : sp_w κ x Q k n (pc + 3) lv st μ) : sp_w κ x Q k n pc lv (va_rf (some a) :: st) μ := by
  obtain ⟨p, l, e, R, s, m, args, below, meth, c⟩ := x
  obtain ⟨⟨hx, hb, hml, hown, hts⟩, hU, hN, hlk, hr, htb, hnm, hR, htr⟩ := h
  intro H locs ls hH hS hl hc
  exact lv_ifnull hx hb d (kk H locs ls hH hS hl hc)
theorem sr_ifnull_n (h : sp_C κ x cc nL own ret tb nm rm) {off : Int} {tgt : Nat} (d : decode cc pc = .ok (.ifnull off, 3)) (ht : (pc : Int) + off = (tgt : Int)) (kk : sp_w κ x Q k n tgt lv st μ) : sp_w κ x Q k n pc lv (va_rf none :: st) μ := by
  obtain ⟨p, l, e, R, s, m, args, below, meth, c⟩ := x
  obtain ⟨⟨hx, hb, hml, hown, hts⟩, hU, hN, hlk, hr, htb, hnm, hR, htr⟩ := h
  intro H locs ls hH hS hl hc
  exact lv_ifnullN hx hb d ht (kk H locs ls hH hS hl hc)
theorem sr_ifnonnull_s (h : sp_C κ x cc nL own ret tb nm rm) {a : Nat} {off : Int} {tgt : Nat} (d : decode cc pc = .ok (.ifnonnull off, 3)) (ht : (pc : Int) + off = (tgt : Int)) (kk : sp_w κ x Q k n tgt lv st μ) : sp_w κ x Q k n pc lv (va_rf (some a) :: st) μ := by
  obtain ⟨p, l, e, R, s, m, args, below, meth, c⟩ := x
  obtain ⟨⟨hx, hb, hml, hown, hts⟩, hU, hN, hlk, hr, htb, hnm, hR, htr⟩ := h
  intro H locs ls hH hS hl hc
  exact lv_ifnonnull hx hb d ht (kk H locs ls hH hS hl hc)
theorem sr_ifnonnull_n (h : sp_C κ x cc nL own ret tb nm rm) {off : Int} (d : decode cc pc = .ok (.ifnonnull off, 3)) (kk : sp_w κ x Q k n (pc + 3) lv st μ) : sp_w κ x Q k n pc lv (va_rf none :: st) μ := by
  obtain ⟨p, l, e, R, s, m, args, below, meth, c⟩ := x
  obtain ⟨⟨hx, hb, hml, hown, hts⟩, hU, hN, hlk, hr, htb, hnm, hR, htr⟩ := h
  intro H locs ls hH hS hl hc
  exact lv_ifnonnullN hx hb d (kk H locs ls hH hS hl hc)
/-- fewer locals -/
theorem sr_sub (ks : List Nat) {lv' : List (Nat × Value)} (e' : lv_pick lv ks = lv') (kk : sp_w κ x Q k n pc lv' st μ) : sp_w κ x Q k n pc lv st μ := by
  obtain ⟨p, l, e, R, s, m, args, below, meth, c⟩ := x
  intro H locs ls hH hS hl hc
  refine kk H locs ls hH hS (lv_sub hl ks e') (fun q hq => ?_)
  rw [← e'] at hq
  obtain ⟨i, -, hi⟩ := List.mem_filterMap.mp hq
  exact hc q (List.mem_of_getElem? hi)
theorem sr_widen {k' n' : Nat} (h1 : k ≤ k') (h2 : n ≤ n') (kk : sp_w κ x Q k' n' pc lv st μ) : sp_w κ x Q k n pc lv st μ := by
  obtain ⟨p, l, e, R, s, m, args, below, meth, c⟩ := x
  intro H locs ls hH hS hl hc
  exact W.widen h1 h2 (kk H locs ls hH hS hl hc)
theorem sr_get (h : sp_C κ x cc nL own ret tb nm rm) {C : String} {T : u_T} {N ci ix : Nat} (hin : ∀ w ∈ u_ws C T N, w ∈ sp_wa) (hc0 : sp_cl[ci]? = some (C, T, N)) (fk : Nat) (hk : fk < N) (hlink : Cond.fieldLink own ix (T fk).1 (T fk).2.1 (T fk).2.2.1 ∈ sp_wa) (d : decode cc pc = .ok (.getfield ix, 3)) {a : Nat} {fs : List Value} (ho : μ a = some (.inr (ci, fs))) {v : Value} (hv : fs[fk]? = some v) (kk : sp_w κ x Q k n (pc + 3) lv (v :: st) μ) : sp_w κ x Q k n pc lv (.ref a :: st) μ := by
  obtain ⟨p, l, e, R, s, m, args, below, meth, c⟩ := x
  obtain ⟨⟨hx, hb, hml, hown, hts⟩, hU, hN, hlk, hr, htb, hnm, hR, htr⟩ := h
  intro H locs ls hH hS hl hc
  have kk' := kk H locs ls hH hS hl hc
  obtain ⟨h1, h2, LP, h3, h4, h5⟩ := hH
  obtain ⟨q0, hq0⟩ := sp_at h3 ho
  exact va_get hx hb hts hin hown hU.1 h4 q0 hq0 hc0 fk hk (hts _ hlink) (fun _ h9 => h9) hv d kk'
theorem sr_put (h : sp_C κ x cc nL own ret tb nm rm) {C : String} {T : u_T} {N ci ix : Nat} (hin : ∀ w ∈ u_ws C T N, w ∈ sp_wa) (ty0 : Nat → FieldType) (hty : ∀ k, k < N → parseFieldDescriptor (T k).2.2.1 = some (ty0 k)) (hnn : ∀ a, a < N → ∀ b, b < N → a ≠ b → (T a).2.1 ≠ (T b).2.1) (hc0 : sp_cl[ci]? = some (C, T, N)) (fk : Nat) (hk : fk < N) (hlink : Cond.fieldLink own ix (T fk).1 (T fk).2.1 (T fk).2.2.1 ∈ sp_wa) (hfin : (T fk).2.2.2 = false) (d : decode cc pc = .ok (.putfield ix, 3)) {a : Nat} {fs : List Value} (ho : μ a = some (.inr (ci, fs))) {v : Value} (hn : narrow (ty0 fk) v = v) (hfit : fits (ty0 fk) v = true) (hfl : fk < fs.length) (kk : sp_w κ x Q k n (pc + 3) lv st (va_up μ a (some (.inr (ci, fs.set fk v))))) : sp_w κ x Q k n pc lv (v :: .ref a :: st) μ := by
  obtain ⟨p, l, e, R, s, m, args, below, meth, c⟩ := x
  obtain ⟨⟨hx, hb, hml, hown, hts⟩, hU, hN, hlk, hr, htb, hnm, hR, htr⟩ := h
  intro H locs ls hH hS hl hc
  obtain ⟨h1, h2, LP, h3, h4, h5⟩ := hH
  obtain ⟨q0, hq0⟩ := sp_at h3 ho
  exact va_put hx hb hts hin ty0 hty hnn hown hU.1 h4 h5 hS q0 hq0 hc0 fk hk (hts _ hlink) (fun _ h9 => h9) hfin (hty fk hk) hn hfit hfl d (fun H1 locs1 hP1 hD1 hS1 => kk H1 locs1 ls (sp_put (H := H) hN hS1 h2 h3 ho hq0 h5 hP1 hD1 (fun ca y z => by cases z)) hS1 hl hc)
theorem sr_putF (h : sp_C κ x cc nL own ret tb nm rm) (hini : nm = "<init>") {C : String} {T : u_T} {N ci ix : Nat} (hin : ∀ w ∈ u_ws C T N, w ∈ sp_wa) (ty0 : Nat → FieldType) (hty : ∀ k, k < N → parseFieldDescriptor (T k).2.2.1 = some (ty0 k)) (hnn : ∀ a, a < N → ∀ b, b < N → a ≠ b → (T a).2.1 ≠ (T b).2.1) (hc0 : sp_cl[ci]? = some (C, T, N)) (fk : Nat) (hk : fk < N) (hlink : Cond.fieldLink own ix (T fk).1 (T fk).2.1 (T fk).2.2.1 ∈ sp_wa) (hfin : (T fk).2.2.2 = true) (hde : (T fk).1 = own) (d : decode cc pc = .ok (.putfield ix, 3)) {a : Nat} {fs : List Value} (ho : μ a = some (.inr (ci, fs))) {v : Value} (hn : narrow (ty0 fk) v = v) (hfit : fits (ty0 fk) v = true) (hfl : fk < fs.length) (kk : sp_w κ x Q k n (pc + 3) lv st (va_up μ a (some (.inr (ci, fs.set fk v))))) : sp_w κ x Q k n pc lv (v :: .ref a :: st) μ := by
  obtain ⟨p, l, e, R, s, m, args, below, meth, c⟩ := x
  obtain ⟨⟨hx, hb, hml, hown, hts⟩, hU, hN, hlk, hr, htb, hnm, hR, htr⟩ := h
  intro H locs ls hH hS hl hc
  obtain ⟨h1, h2, LP, h3, h4, h5⟩ := hH
  obtain ⟨q0, hq0⟩ := sp_at h3 ho
  exact va_putF hx hb hts hin ty0 hty hnn hown hU.1 h4 h5 hS q0 hq0 hc0 fk hk (hts _ hlink) (fun _ h9 => h9) hfin (hnm.trans hini) hde (hty fk hk) hn hfit hfl d (fun H1 locs1 hP1 hD1 hS1 => kk H1 locs1 ls (sp_put (H := H) hN hS1 h2 h3 ho hq0 h5 hP1 hD1 (fun ca y z => by cases z)) hS1 hl hc)
theorem sr_iald (h : sp_C κ x cc nL own ret tb nm rm) (d : decode cc pc = .ok (.iaload, 1)) {a N j : Nat} {f : Nat → Int32} {i : Int32} (ho : μ a = some (sp_ia κ N f)) (hi : i = nI j) (hj : j < N) (kk : sp_w κ x Q k n (pc + 1) lv (.int (f j) :: st) μ) : sp_w κ x Q k n pc lv (.int i :: .ref a :: st) μ := by
  subst hi
  obtain ⟨p, l, e, R, s, m, args, below, meth, c⟩ := x
  obtain ⟨⟨hx, hb, hml, hown, hts⟩, hU, hN, hlk, hr, htb, hnm, hR, htr⟩ := h
  intro H locs ls hH hS hl hc
  have kk' := kk H locs ls hH hS hl hc
  obtain ⟨h1, h2, LP, h3, h4, h5⟩ := hH
  obtain ⟨q0, hq0⟩ := sp_at h3 ho
  have hb3 : N < 2 ^ 31 := h2 a _ _ ho
  rw [← nI_clamp (Nat.lt_trans hj hb3)] at kk'
  exact va_iald hx hb hU.1 h4 q0 0 hq0 rfl (vp_in_nI hj hb3) d kk'
theorem sr_sald (h : sp_C κ x cc nL own ret tb nm rm) (d : decode cc pc = .ok (.saload, 1)) {a N j : Nat} {f : Nat → Int32} {i : Int32} (ho : μ a = some (sp_sa κ N f)) (hi : i = nI j) (hj : j < N) (kk : sp_w κ x Q k n (pc + 1) lv (.int (f j) :: st) μ) : sp_w κ x Q k n pc lv (.int i :: .ref a :: st) μ := by
  subst hi
  obtain ⟨p, l, e, R, s, m, args, below, meth, c⟩ := x
  obtain ⟨⟨hx, hb, hml, hown, hts⟩, hU, hN, hlk, hr, htb, hnm, hR, htr⟩ := h
  intro H locs ls hH hS hl hc
  have kk' := kk H locs ls hH hS hl hc
  obtain ⟨h1, h2, LP, h3, h4, h5⟩ := hH
  obtain ⟨q0, hq0⟩ := sp_at h3 ho
  have hb3 : N < 2 ^ 31 := h2 a _ _ ho
  rw [← nI_clamp (Nat.lt_trans hj hb3)] at kk'
  exact va_sald hx hb hU.1 h4 q0 1 hq0 rfl (vp_in_nI hj hb3) d kk'
theorem sr_lald (h : sp_C κ x cc nL own ret tb nm rm) (d : decode cc pc = .ok (.laload, 1)) {a N j : Nat} {f : Nat → Int64} {i : Int32} (ho : μ a = some (sp_la κ N f)) (hi : i = nI j) (hj : j < N) (kk : sp_w κ x Q k n (pc + 1) lv (.long (f j) :: st) μ) : sp_w κ x Q k n pc lv (.int i :: .ref a :: st) μ := by
  subst hi
  obtain ⟨p, l, e, R, s, m, args, below, meth, c⟩ := x
  obtain ⟨⟨hx, hb, hml, hown, hts⟩, hU, hN, hlk, hr, htb, hnm, hR, htr⟩ := h
  intro H locs ls hH hS hl hc
  have kk' := kk H locs ls hH hS hl hc
  obtain ⟨h1, h2, LP, h3, h4, h5⟩ := hH
  obtain ⟨q0, hq0⟩ := sp_at h3 ho
  have hb3 : N < 2 ^ 31 := h2 a _ _ ho
  rw [← nI_clamp (Nat.lt_trans hj hb3)] at kk'
  exact va_lald hx hb hU.1 h4 q0 2 hq0 rfl (vp_in_nI hj hb3) d kk'
theorem sr_iast (h : sp_C κ x cc nL own ret tb nm rm) (d : decode cc pc = .ok (.iastore, 1)) {a N j : Nat} {f : Nat → Int32} {i : Int32} {v : Int32} (ho : μ a = some (sp_ia κ N f)) (hi : i = nI j) (hj : j < N) (kk : sp_w κ x Q k n (pc + 1) lv st (va_up μ a (some (sp_ia κ N (upd f j v))))) : sp_w κ x Q k n pc lv (.int v :: .int i :: .ref a :: st) μ := by
  subst hi
  obtain ⟨p, l, e, R, s, m, args, below, meth, c⟩ := x
  obtain ⟨⟨hx, hb, hml, hown, hts⟩, hU, hN, hlk, hr, htb, hnm, hR, htr⟩ := h
  intro H locs ls hH hS hl hc
  obtain ⟨h1, h2, LP, h3, h4, h5⟩ := hH
  obtain ⟨q0, hq0⟩ := sp_at h3 ho
  have hb3 : N < 2 ^ 31 := h2 a _ _ ho
  have hcl : (nI j).toNatClampNeg = j := nI_clamp (Nat.lt_trans hj hb3)
  refine va_iast hx hb hU.1 h4 h5 hS q0 0 hq0 rfl (vp_in_nI hj hb3) d (fun H1 locs1 hP1 hD1 hS1 => ?_)
  rw [hcl] at hP1 hD1
  exact kk H1 locs1 ls (sp_put (H := H) hN hS1 h2 h3 ho hq0 h5 hP1 hD1 (fun ca y z => by cases z; exact hb3)) hS1 hl hc
theorem sr_sast (h : sp_C κ x cc nL own ret tb nm rm) (d : decode cc pc = .ok (.sastore, 1)) {a N j : Nat} {f : Nat → Int32} {i : Int32} {v : Int32} (ho : μ a = some (sp_sa κ N f)) (hi : i = nI j) (hj : j < N) (kk : sp_w κ x Q k n (pc + 1) lv st (va_up μ a (some (sp_sa κ N (upd f j (vp_nar .short v)))))) : sp_w κ x Q k n pc lv (.int v :: .int i :: .ref a :: st) μ := by
  subst hi
  obtain ⟨p, l, e, R, s, m, args, below, meth, c⟩ := x
  obtain ⟨⟨hx, hb, hml, hown, hts⟩, hU, hN, hlk, hr, htb, hnm, hR, htr⟩ := h
  intro H locs ls hH hS hl hc
  obtain ⟨h1, h2, LP, h3, h4, h5⟩ := hH
  obtain ⟨q0, hq0⟩ := sp_at h3 ho
  have hb3 : N < 2 ^ 31 := h2 a _ _ ho
  have hcl : (nI j).toNatClampNeg = j := nI_clamp (Nat.lt_trans hj hb3)
  refine va_sast hx hb hU.1 h4 h5 hS q0 1 hq0 rfl (vp_in_nI hj hb3) d (fun H1 locs1 hP1 hD1 hS1 => ?_)
  rw [hcl] at hP1 hD1
  exact kk H1 locs1 ls (sp_put (H := H) hN hS1 h2 h3 ho hq0 h5 hP1 hD1 (fun ca y z => by cases z; exact hb3)) hS1 hl hc
theorem sr_last (h : sp_C κ x cc nL own ret tb nm rm) (d : decode cc pc = .ok (.lastore, 1)) {a N j : Nat} {f : Nat → Int64} {i : Int32} {v : Int64} (ho : μ a = some (sp_la κ N f)) (hi : i = nI j) (hj : j < N) (kk : sp_w κ x Q k n (pc + 1) lv st (va_up μ a (some (sp_la κ N (vp_updL f j v))))) : sp_w κ x Q k n pc lv (.long v :: .int i :: .ref a :: st) μ := by
  subst hi
  obtain ⟨p, l, e, R, s, m, args, below, meth, c⟩ := x
  obtain ⟨⟨hx, hb, hml, hown, hts⟩, hU, hN, hlk, hr, htb, hnm, hR, htr⟩ := h
  intro H locs ls hH hS hl hc
  obtain ⟨h1, h2, LP, h3, h4, h5⟩ := hH
  obtain ⟨q0, hq0⟩ := sp_at h3 ho
  have hb3 : N < 2 ^ 31 := h2 a _ _ ho
  have hcl : (nI j).toNatClampNeg = j := nI_clamp (Nat.lt_trans hj hb3)
  refine va_last hx hb hU.1 h4 h5 hS q0 2 hq0 rfl (vp_in_nI hj hb3) d (fun H1 locs1 hP1 hD1 hS1 => ?_)
  rw [hcl] at hP1 hD1
  exact kk H1 locs1 ls (sp_put (H := H) hN hS1 h2 h3 ho hq0 h5 hP1 hD1 (fun ca y z => by cases z; exact hb3)) hS1 hl hc
theorem sr_alen (h : sp_C κ x cc nL own ret tb nm rm) (d : decode cc pc = .ok (.arraylength, 1)) {a t : Nat} {y : vp_A} {ty : FieldType} (ho : μ a = some (.inl (κ.2.2 t, y))) (hty : (sp_tys κ)[t]? = some (κ.2.2 t, ty)) (kk : sp_w κ x Q k n (pc + 1) lv (.int (nI y.1) :: st) μ) : sp_w κ x Q k n pc lv (.ref a :: st) μ := by
  obtain ⟨p, l, e, R, s, m, args, below, meth, c⟩ := x
  obtain ⟨⟨hx, hb, hml, hown, hts⟩, hU, hN, hlk, hr, htb, hnm, hR, htr⟩ := h
  intro H locs ls hH hS hl hc
  have kk' := kk H locs ls hH hS hl hc
  obtain ⟨h1, h2, LP, h3, h4, h5⟩ := hH
  obtain ⟨q0, hq0⟩ := sp_at h3 ho
  exact va_alen hx hb hU.1 h4 q0 t hq0 hty rfl d kk'
theorem sr_newa (h : sp_C κ x cc nL own ret tb nm rm) {atype : ArrayType} {ty : FieldType} {t : Nat} (hty : newarray.typeOf atype = ty) (hno : ∀ C, ty ≠ .object C) (harr : Cond.arrayClass (newarray.typeOf atype) ∈ sp_wa) (htt : (sp_tys κ)[t]? = some (κ.2.2 t, ty)) (d : decode cc pc = .ok (.newarray atype, 2)) {N : Nat} {y : vp_A} {i : Int32} (ha : ∀ cA : ClassId, vp_cell cA y = arrV cA N (fun _ => defaultValue ty)) (hyN : y.1 = N) (hi : i = nI N) (hN2 : N < 2 ^ 31) (hbytes : N * componentBytes ty ≤ 536870912) (hcells : k + 1 ≤ rm.cells) (hslots : n + N ≤ rm.slots)
    (kk : ∀ q : Nat, μ q = none → sp_w κ x Q (k + 1) (n + N) (pc + 2) lv (.ref q :: st) (va_up μ q (some (.inl (κ.2.2 t, y))))) : sp_w κ x Q k n pc lv (.int i :: st) μ := by
  subst hi
  obtain ⟨p, l, e, R, s, m, args, below, meth, c⟩ := x
  obtain ⟨⟨hx, hb, hml, hown, hts⟩, hU, hN, hlk, hr, htb, hnm, hR, htr⟩ := h
  intro H locs ls hH hS hl hc
  obtain ⟨h1, h2, LP, h3, h4, h5⟩ := hH
  subst hR
  refine va_newa hx hb (hts _ harr) hty hU.1 h4 h5 hS (fun q hq => Nat.le_trans hN hq) ha (nI_pos hN2) (nI_clamp hN2) hbytes hcells hslots d (fun q cA H1 hK1 hP1 hD1 hS1 => ?_)
  have e1 : cA = κ.2.2 t := by
    have g1 := (hK1.2 (sp_tys κ).length (cA, ty) (by rw [List.getElem?_append_right (Nat.le_refl _), Nat.sub_self]; rfl)).2
    have g2 := (hU.1.2 t _ htt).2
    cases ty with
    | object C => exact absurd rfl (hno C)
    | _ => exact Option.some.inj (Eq.trans (Eq.symm g1) g2)
  subst e1
  obtain ⟨hz, hH1⟩ := sp_push hN hS1 h2 h3 hP1 hD1 (fun ca y' z => by cases z; rw [hyN]; exact hN2)
  exact kk q hz H1 locs ls hH1 hS1 hl hc
theorem sr_new (h : sp_C κ x cc nL own ret tb nm rm) {C : String} {T : u_T} {N ci ix : Nat} (hin : ∀ w ∈ u_ws C T N, w ∈ sp_wa) (ty0 : Nat → FieldType) (hty : ∀ k, k < N → parseFieldDescriptor (T k).2.2.1 = some (ty0 k)) (hc0 : sp_cl[ci]? = some (C, T, N)) (hcl : Cond.classLink own ix C ∈ sp_wa) (hins : Cond.instantiable C N ∈ sp_wa) (hini : Cond.initialized C ∈ sp_wa) {fs : List Value} (hfs : ∀ j, j < N → defaultValue (ty0 j) = vp_V fs j) (d : decode cc pc = .ok (.new ix, 3)) (hcells : k + 1 ≤ rm.cells) (hslots : n + N ≤ rm.slots)
    (kk : ∀ q : Nat, μ q = none → sp_w κ x Q (k + 1) (n + N) (pc + 3) lv (.ref q :: st) (va_up μ q (some (.inr (ci, fs))))) : sp_w κ x Q k n pc lv st μ := by
  obtain ⟨p, l, e, R, s, m, args, below, meth, c⟩ := x
  obtain ⟨⟨hx, hb, hml, hown, hts⟩, hU, hN, hlk, hr, htb, hnm, hR, htr⟩ := h
  intro H locs ls hH hS hl hc
  obtain ⟨h1, h2, LP, h3, h4, h5⟩ := hH
  subst hR
  refine va_new hx hb hts hin ty0 hty hown (hts _ hcl) (hts _ hins) (hts _ hini) hU.1 h4 h5 hS (fun q hq => Nat.le_trans hN hq) hc0 hfs hcells hslots d (fun q H1 hP1 hD1 hS1 => ?_)
  obtain ⟨hz, hH1⟩ := sp_push hN hS1 h2 h3 hP1 hD1 (fun ca y' z => by cases z)
  exact kk q hz H1 locs ls hH1 hS1 hl hc
theorem sr_objInit (h : sp_C κ x cc nL own ret tb nm rm) {ix : Nat} (hl1 : Cond.methodLink own ix Lib.objectInit ∈ sp_wa) (hl2 : Cond.instanceMethod Lib.objectInit ∈ sp_wa) (hl3 : Cond.code Lib.objectInit ⟨#[0xb1]⟩ 1 none ∈ sp_wa) (d : decode cc pc = .ok (.invokespecial ix, 3)) (hf1 : 1 ≤ rm.frames) (hf2 : (st.map fun v => v.category).sum + 12 ≤ rm.locals) {a : Nat} (kk : sp_w κ x Q k n (pc + 3) lv st μ) : sp_w κ x Q k n pc lv (.ref a :: st) μ := by
  obtain ⟨p, l, e, R, s, m, args, below, meth, c⟩ := x
  obtain ⟨⟨hx, hb, hml, hown, hts⟩, hU, hN, hlk, hr, htb, hnm, hR, htr⟩ := h
  intro H locs ls hH hS hl hc
  subst hR
  refine W.objInit hx hb hown (hts _ hl1) (hts _ hl2) (hts _ hl3) rfl hl.1 rfl d hf1 (by show 2 * 0 + _ + 12 ≤ _; omega) ?_
  exact kk H locs ls hH hS hl hc
theorem sr_mmax (h : sp_C κ x cc nL own ret tb nm rm) {ix : Nat} (hl1 : Cond.methodLink own ix Lib.Math.max.name ∈ sp_wa) (hl2 : Cond.static Lib.Math.max.name ∈ sp_wa) (hl3 : Cond.initialized "java/lang/Math" ∈ sp_wa) (hl4 : Cond.code Lib.Math.max.name Lib.Math.max.code 2 (some .int) ∈ sp_wa) (d : decode cc pc = .ok (.invokestatic ix, 3)) (hf1 : 1 ≤ rm.frames) (hf2 : (st.map fun v => v.category).sum + 13 ≤ rm.locals) (hk1 : k ≤ rm.cells) (hk2 : n ≤ rm.slots) {a b : Int32} (kk : sp_w κ x Q k n (pc + 3) lv (.int (if a < b then b else a) :: st) μ) : sp_w κ x Q k n pc lv (.int b :: .int a :: st) μ := by
  obtain ⟨p, l, e, R, s, m, args, below, meth, c⟩ := x
  obtain ⟨⟨hx, hb, hml, hown, hts⟩, hU, hN, hlk, hr, htb, hnm, hR, htr⟩ := h
  intro H locs ls hH hS hl hc
  subst hR
  exact va_mmax hx hb hl.1.symm hown (hts _ hl1) (hts _ hl2) (hts _ hl3) (hts _ hl4) hf1 hf2 hk1 hk2 d (kk H locs ls hH hS hl hc)
theorem sr_mmin (h : sp_C κ x cc nL own ret tb nm rm) {ix : Nat} (hl1 : Cond.methodLink own ix Lib.Math.min.name ∈ sp_wa) (hl2 : Cond.static Lib.Math.min.name ∈ sp_wa) (hl3 : Cond.initialized "java/lang/Math" ∈ sp_wa) (hl4 : Cond.code Lib.Math.min.name Lib.Math.min.code 2 (some .int) ∈ sp_wa) (d : decode cc pc = .ok (.invokestatic ix, 3)) (hf1 : 1 ≤ rm.frames) (hf2 : (st.map fun v => v.category).sum + 13 ≤ rm.locals) (hk1 : k ≤ rm.cells) (hk2 : n ≤ rm.slots) {a b : Int32} (kk : sp_w κ x Q k n (pc + 3) lv (.int (if b < a then b else a) :: st) μ) : sp_w κ x Q k n pc lv (.int b :: .int a :: st) μ := by
  obtain ⟨p, l, e, R, s, m, args, below, meth, c⟩ := x
  obtain ⟨⟨hx, hb, hml, hown, hts⟩, hU, hN, hlk, hr, htb, hnm, hR, htr⟩ := h
  intro H locs ls hH hS hl hc
  subst hR
  exact va_mmin hx hb hl.1.symm hown (hts _ hl1) (hts _ hl2) (hts _ hl3) (hts _ hl4) hf1 hf2 hk1 hk2 d (kk H locs ls hH hS hl hc)
theorem sr_aald (h : sp_C κ x cc nL own ret tb nm rm) (d : decode cc pc = .ok (.aaload, 1)) {a N j t : Nat} {C : String} (hty : (sp_tys κ)[t]? = some (κ.2.2 t, .object C)) {f : Nat → Option Nat} {i : Int32} (ho : μ a = some (sp_ra κ t N f)) (hi : i = nI j) (hj : j < N) {r : Option Nat} (hr0 : f j = r) (kk : sp_w κ x Q k n (pc + 1) lv (va_rf r :: st) μ) : sp_w κ x Q k n pc lv (.int i :: .ref a :: st) μ := by
  subst hi
  subst hr0
  obtain ⟨p, l, e, R, s, m, args, below, meth, c⟩ := x
  obtain ⟨⟨hx, hb, hml, hown, hts⟩, hU, hN, hlk, hr, htb, hnm, hR, htr⟩ := h
  intro H locs ls hH hS hl hc
  have kk' := kk H locs ls hH hS hl hc
  obtain ⟨h1, h2, LP, h3, h4, h5⟩ := hH
  obtain ⟨q0, hq0⟩ := sp_at h3 ho
  have hb3 : N < 2 ^ 31 := h2 a _ _ ho
  rw [← nI_clamp (Nat.lt_trans hj hb3)] at kk'
  exact va_aldq hx hb hU.1 h4 q0 t hq0 hty (vp_in_nI hj hb3) d kk'
theorem sr_aast (h : sp_C κ x cc nL own ret tb nm rm) (d : decode cc pc = .ok (.aastore, 1)) {a N j t ci v : Nat} {rC : vw_C} (hty : (sp_tys κ)[t]? = some (κ.2.2 t, .object rC.1)) (hc0 : sp_cl[ci]? = some rC) {f : Nat → Option Nat} {i : Int32} {vs : List Value} (ho : μ a = some (sp_ra κ t N f)) (hi : i = nI j) (hj : j < N) (hv : μ v = some (.inr (ci, vs))) (kk : sp_w κ x Q k n (pc + 1) lv st (va_up μ a (some (sp_ra κ t N (va_up f j (some v)))))) : sp_w κ x Q k n pc lv (.ref v :: .int i :: .ref a :: st) μ := by
  subst hi
  obtain ⟨p, l, e, R, s, m, args, below, meth, c⟩ := x
  obtain ⟨⟨hx, hb, hml, hown, hts⟩, hU, hN, hlk, hr, htb, hnm, hR, htr⟩ := h
  intro H locs ls hH hS hl hc
  obtain ⟨h1, h2, LP, h3, h4, h5⟩ := hH
  obtain ⟨q0, hq0⟩ := sp_at h3 ho
  obtain ⟨qk, hqk⟩ := sp_at h3 hv
  have hb3 : N < 2 ^ 31 := h2 a _ _ ho
  have hcl : (nI j).toNatClampNeg = j := nI_clamp (Nat.lt_trans hj hb3)
  refine va_astq hx hb hU.1 h4 h5 hS q0 t qk ci hq0 hty hqk hc0 (vp_in_nI hj hb3) d (fun H1 locs1 hP1 hD1 hS1 => ?_)
  rw [hcl] at hP1 hD1
  exact kk H1 locs1 ls (sp_put (H := H) hN hS1 h2 h3 ho hq0 h5 hP1 hD1 (fun ca y z => by cases z; exact hb3)) hS1 hl hc
end
