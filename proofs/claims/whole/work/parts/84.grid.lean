/-! an array of arrays is made -/
section
variable {p : Program} {l : Launch} {e : Env} {R : Room} {s : State} {m : MethodId} {args : Array Value} {below : List Frame} {meth : Method} {c : Code} {H : Heap} {locs : List Loc} {cells slots : Nat} {Q : State → Prop}
theorem W.mna {cc : ByteArray} (hexec : p.tables.exec = Jvm.exec) (hb : c.code = cc) {own : String} {index : Nat} {ty : FieldType} (hown : s.vm.findClass own = some m.cls) (hclink : (Cond.classLink own index ("[" ++ (FieldType.array ty).toString)).before args s = true) (hover : (Cond.arrayOver (.array ty)).before args s = true) (harr : (Cond.arrayClass ty).before args s = true)
    {g : JFrame} (hg : g.method = m) (hdg : decode cc g.pc = .ok (.multianewarray index 2, 4)) {n k : Int32} {rest : List Value} (hstack : g.stack = .int k :: .int n :: rest) (hn : ¬ n < 0) (hk : ¬ k < 0) (hb1 : n.toNatClampNeg * 4 ≤ 536870912) (hb2 : k.toNatClampNeg * componentBytes ty ≤ 536870912) (hb3 : k.toNatClampNeg ≤ 536870912)
    (hdf : fits ty (defaultValue ty) = true) (hdd : (defaultValue ty).isDefault = true) (hcells : cells + (1 + n.toNatClampNeg) ≤ R.cells) (hslots : slots + (n.toNatClampNeg + n.toNatClampNeg * k.toNatClampNeg) ≤ R.slots)
    (kk : ∀ (cA comp : ClassId) (H1 : Heap), s.vm.findClass ("[" ++ (FieldType.array ty).toString) = some cA → s.vm.findClass (FieldType.array ty).toString = some comp → H1.size = H.size + 1 + n.toNatClampNeg → (∀ a : Nat, a < H.size → H1[a]? = H[a]?) → H1[H.size]? = some (Jvm.Free.Multi.outerC cA n.toNatClampNeg H.size n.toNatClampNeg) → (∀ j, j < n.toNatClampNeg → H1[H.size + 1 + j]? = some (Jvm.Free.Multi.innerC comp k.toNatClampNeg (defaultValue ty))) →
      W p l e R s m args below meth c H1 locs (cells + 1 + n.toNatClampNeg) (slots + n.toNatClampNeg + n.toNatClampNeg * k.toNatClampNeg) Q { g with pc := g.pc + 4, stack := .ref H.size :: rest }) : W p l e R s m args below meth c H locs cells slots Q g := by
  intro T hT X
  subst hT; subst hb
  obtain ⟨vm₁, cA, comp, hW, hfA, hfC, -, -, X1, st⟩ := X.multianewarray2F hexec hown hclink hover harr hg hdg hstack hn hk hb1 hb2 hb3 hdf hdd hcells hslots
  obtain ⟨f1, f2, f3, f4⟩ := Jvm.Free.Multi.fill_facts (T.setVm vm₁) cA comp n.toNatClampNeg k.toNatClampNeg (defaultValue ty) n.toNatClampNeg
  obtain ⟨t, a1, b1⟩ := kk cA comp _ hfA hfC f1 (fun a ha => Jvm.Free.Multi.fill_old (T.setVm vm₁) cA comp n.toNatClampNeg k.toNatClampNeg (defaultValue ty) (a := a) ha n.toNatClampNeg) f2 (fun j hj => Jvm.Free.Multi.fill_inner (T.setVm vm₁) cA comp n.toNatClampNeg k.toNatClampNeg (defaultValue ty) n.toNatClampNeg j hj) _ rfl X1
  exact ⟨t, st t a1, b1⟩
end
/-- one cell more is pictured -/
theorem sp_see {κ : sp_K} {μ : sp_M} {H : Heap} {a : Nat} {e : va_E} (hH : sp_H κ μ H) (hz : μ a = none) (ha : κ.2.1 ≤ a) (hat : va_at κ.1 sp_cl (a, e) H) (he : ∀ (ca : ClassId) (y : vp_A), e = .inl (ca, y) → y.1 < 2 ^ 31) : sp_H κ (va_up μ a (some e)) H := by
  obtain ⟨h1, h2, LP, h3, h4, h5⟩ := hH
  have hm : a ∉ LP := fun q => by
    have := (h3 a).1 q
    rw [hz] at this
    cases this
  have hset : va_pl LP (sp_c μ) ++ [(a, e)] = va_pl (LP ++ [a]) (sp_c (va_up μ a (some e))) := by
    rw [sp_cup]
    exact va_pl_push hm
  have hne : ∀ (k : Nat) (q : Nat × va_E), (va_pl LP (sp_c μ))[k]? = some q → q.1 ≠ a := by
    intro k q hk e'
    have hq := List.mem_of_getElem? hk
    obtain ⟨b, hb, rfl⟩ := List.mem_map.mp hq
    exact hm (by rw [← e']; exact hb)
  refine ⟨h1, sp_Bup h2 he, LP ++ [a], fun q => ?_, ?_, ?_⟩
  · rw [List.mem_append, List.mem_singleton]
    by_cases h : q = a
    · subst h
      rw [va_up_self]
      simp
    · rw [va_up_ne _ _ h, ← h3 q]
      simp [h]
  · rw [← hset]
    refine h4.app (fun k q hk => ?_)
    have hq := List.mem_of_getElem? hk
    rw [List.mem_singleton] at hq
    rw [hq]
    exact hat
  · rw [← hset]
    have key : ∀ (k : Nat) (q : Nat × va_E), (va_pl LP (sp_c μ) ++ [(a, e)])[k]? = some q → ((va_pl LP (sp_c μ))[k]? = some q ∧ q.1 ≠ a) ∨ (k = (va_pl LP (sp_c μ)).length ∧ q.1 = a) := by
      intro k q hk
      by_cases hl : k < (va_pl LP (sp_c μ)).length
      · rw [List.getElem?_append_left hl] at hk
        exact Or.inl ⟨hk, hne k q hk⟩
      · rw [List.getElem?_append_right (by omega)] at hk
        have hz' : k - (va_pl LP (sp_c μ)).length < 1 := (List.getElem?_eq_some_iff.mp hk).1
        rw [show k - (va_pl LP (sp_c μ)).length = 0 by omega] at hk
        cases hk
        exact Or.inr ⟨by omega, rfl⟩
    refine ⟨fun i j p q hi hj e' => ?_, fun k q hk => ?_⟩
    · rcases key i p hi with ⟨a1, a2⟩ | ⟨a1, a2⟩ <;> rcases key j q hj with ⟨b1, b2⟩ | ⟨b1, b2⟩
      · exact h5.1 i j p q a1 b1 e'
      · exact absurd (e'.trans b2) a2
      · exact absurd (e'.symm.trans a2) b2
      · omega
    · rcases key k q hk with ⟨a1, -⟩ | ⟨-, a2⟩
      · exact h5.2 k q a1
      · rw [a2]; exact ha
theorem arrV_same {cI : ClassId} {N : Nat} {f f' : Nat → Value} (h : ∀ t, t < N → f t = f' t) : arrV cI N f = arrV cI N f' := by
  unfold arrV
  have e : (fun j : Fin N => f j.val) = fun j : Fin N => f' j.val := funext fun j => h j.val j.isLt
  rw [e]
theorem outerC_arrV (cA : ClassId) (N h0 : Nat) : ∀ i, Jvm.Free.Multi.outerC cA N h0 i = arrV cA N (fun t => if t < i then .ref (h0 + 1 + t) else .null)
  | 0 => by
    show ({ cls := cA, slots := Array.replicate N .null, vm := .none } : Cell) = _
    rw [arrV_new]
    exact arrV_same (fun t _ => (if_neg (Nat.not_lt_zero _)).symm)
  | i + 1 => by
    show (Jvm.Free.Multi.outerC cA N h0 i).setSlot i (.ref (h0 + 1 + i)) = _
    rw [outerC_arrV cA N h0 i, arrV_store]
    refine arrV_same (fun t _ => ?_)
    unfold updV
    by_cases q : t = i
    · rw [if_pos q, if_pos (by omega), q]
    · rw [if_neg q]
      show (if t < i then Value.ref (h0 + 1 + t) else Value.null) = _
      by_cases q2 : t < i
      · rw [if_pos q2, if_pos (by omega)]
      · rw [if_neg q2, if_neg (by omega)]
/-- rows of zeros behind q -/
def sm_rows (κ : sp_K) (M q : Nat) (μ : sp_M) : Nat → sp_M
  | 0 => μ
  | j + 1 => va_up (sm_rows κ M q μ j) (q + 1 + j) (some (sp_ia κ M (fun _ => 0)))
theorem sm_rows_old {κ : sp_K} {M q : Nat} {μ : sp_M} {z : Nat} : ∀ j, (z ≤ q ∨ q + j < z) → sm_rows κ M q μ j z = μ z
  | 0, _ => rfl
  | j + 1, h => (va_up_ne _ _ (by omega)).trans (sm_rows_old j (by omega))
theorem sm_rows_at {κ : sp_K} {M q i : Nat} {μ : sp_M} : ∀ j, i < j → sm_rows κ M q μ j (q + 1 + i) = some (sp_ia κ M (fun _ => 0))
  | 0, h => absurd h (Nat.not_lt_zero _)
  | j + 1, h => by
    by_cases e : i = j
    · subst e; exact va_up_self _ _ _
    · exact (va_up_ne _ _ (by omega)).trans (sm_rows_at j (by omega))
theorem sp_H.grew {κ : sp_K} {μ : sp_M} {H H1 : Heap} (hH : sp_H κ μ H) (hs : H.size ≤ H1.size) (ho : ∀ a : Nat, a < H.size → H1[a]? = H[a]?) : sp_H κ μ H1 := by
  obtain ⟨h1, h2, LP, h3, h4, h5⟩ := hH
  exact ⟨Nat.le_trans h1 hs, h2, LP, h3, h4.kept (fun k q hk => ho q.1 (h4 k q hk).lt), h5⟩
theorem sp_H.none {κ : sp_K} {μ : sp_M} {H : Heap} (hH : sp_H κ μ H) {a : Nat} (ha : H.size ≤ a) : μ a = none := by
  obtain ⟨h1, h2, LP, h3, h4, h5⟩ := hH
  cases hz : μ a with
  | none => rfl
  | some z =>
    have hm : a ∈ LP := (h3 a).2 (by rw [hz]; rfl)
    obtain ⟨k, hk⟩ := va_pl_get (X := []) (f := sp_c μ) hm
    rw [List.nil_append] at hk
    have := (h4 k _ hk).lt
    exact absurd this (by show ¬ a < H.size; omega)
section
variable {κ : sp_K} {x : sp_X} {Q : State → Prop} {k n pc nL : Nat} {lv : List (Nat × Value)} {st : List Value} {μ : sp_M} {cc : ByteArray} {own : String} {ret : Option FieldType} {tb : List ExceptionTableEntry} {nm : String} {rm : Room}
theorem sr_mna (h : sp_C κ x cc nL own ret tb nm rm) {ix N M : Nat} {i j : Int32} (hcl : Cond.classLink own ix "[[I" ∈ sp_wa) (harr : Cond.arrayClass .int ∈ sp_wa) (d : decode cc pc = .ok (.multianewarray ix 2, 4)) (hi : i = nI N) (hj : j = nI M) (hN2 : N ≤ 1000) (hM2 : M ≤ 1000) (hcells : k + (1 + N) ≤ rm.cells) (hslots : n + (N + N * M) ≤ rm.slots)
    (kk : ∀ q : Nat, (∀ z, q ≤ z → μ z = none) → ∀ f : Nat → Option Nat, (∀ t, t < N → f t = some (q + 1 + t)) → sp_w κ x Q (k + 1 + N) (n + N + N * M) (pc + 4) lv (.ref q :: st) (sm_rows κ M q (va_up μ q (some (sp_ra κ 5 N f))) N)) : sp_w κ x Q k n pc lv (.int j :: .int i :: st) μ := by
  subst hi hj
  obtain ⟨p, l, e, R, s, m, args, below, meth, c⟩ := x
  obtain ⟨⟨hx, hb, hml, hown, hts⟩, hU, hN, hlk, hr, htb, hnm, hR, htr⟩ := h
  intro H locs ls hH hS hl hc
  subst hR
  have eN : (nI N).toNatClampNeg = N := nI_clamp (by omega)
  have eM : (nI M).toNatClampNeg = M := nI_clamp (by omega)
  refine W.mna (ty := .int) hx hb hown (hts _ hcl) hU.2.2.2.2.2.2.2 (hts _ harr) rfl d rfl (nI_pos (by omega)) (nI_pos (by omega)) (by rw [eN]; omega) (by rw [eM]; show M * 4 ≤ _; omega) (by rw [eM]; omega) rfl rfl (by rw [eN]; exact hcells) (by rw [eN, eM]; exact hslots) (fun cA comp H1 fA fC z1 o1 a1 r1 => ?_)
  rw [eN, eM] at *
  have e5 : κ.2.2 5 = cA := Option.some.inj (Eq.trans (Eq.symm ((hU.1.2 5 _ rfl).2 : s.vm.findClass ("[" ++ (FieldType.array .int).toString) = some (κ.2.2 5))) fA)
  have e0 : κ.2.2 0 = comp := Option.some.inj (Eq.trans (Eq.symm ((hU.1.2 0 _ rfl).2 : s.vm.findClass ("[" ++ FieldType.int.toString) = some (κ.2.2 0))) fC)
  have hz : ∀ z, H.size ≤ z → μ z = none := fun z hz => hH.none hz
  have hN1 : κ.2.1 ≤ H.size := hH.1
  have hH1 : sp_H κ μ H1 := hH.grew (by omega) o1
  have hou : vp_cell (κ.2.2 5) (N, .inr (.inr (.inr (.inr (fun t => some (H.size + 1 + t)))))) = Jvm.Free.Multi.outerC cA N H.size N := by
    rw [vp_cell_q, e5, outerC_arrV]
    exact arrV_same (fun t ht => (if_pos ht).symm)
  have hH2 : sp_H κ (va_up μ H.size (some (sp_ra κ 5 N (fun t => some (H.size + 1 + t))))) H1 := by
    refine sp_see hH1 (hz _ (Nat.le_refl _)) hN1 ?_ (fun ca y z => by cases z; show N < 2 ^ 31; omega)
    show H1[H.size]? = some (vp_cell _ _)
    rw [hou]
    exact a1
  have hH3 : ∀ j, j ≤ N → sp_H κ (sm_rows κ M H.size (va_up μ H.size (some (sp_ra κ 5 N (fun t => some (H.size + 1 + t))))) j) H1 := by
    intro j
    induction j with
    | zero => intro _; exact hH2
    | succ j ih =>
      intro hj
      refine sp_see (ih (by omega)) ?_ (by omega) ?_ (fun ca y z => by cases z; show M < 2 ^ 31; omega)
      · rw [sm_rows_old j (by omega), va_up_ne _ _ (by omega)]
        exact hz _ (by omega)
      · show H1[H.size + 1 + j]? = some (vp_cell _ _)
        rw [r1 j (by omega), vp_cell_i, e0]
        show some ({ cls := comp, slots := Array.replicate M (.int 0), vm := .none } : Cell) = _
        rw [arrV_new]
  exact kk H.size hz _ (fun t _ => rfl) H1 locs ls (hH3 N (Nat.le_refl _)) ⟨Nat.le_trans hS.1 (by omega), fun q h1 h2 => (o1 q (Nat.lt_of_lt_of_le h1 hS.1)).trans (hS.2.1 q h1 h2), hS.2.2⟩ hl hc
end
