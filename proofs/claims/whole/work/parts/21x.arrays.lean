/-! arrays of references: new ones; arrays of arrays -/
section
variable {κ : sp_K} {x : sp_X} {Q : State → Prop} {k n pc nL : Nat} {lv : List (Nat × Value)} {st : List Value} {μ : sp_M} {cc : ByteArray} {own : String} {ret : Option FieldType} {tb : List ExceptionTableEntry} {nm : String} {rm : Room}
theorem sr_aaldA (h : sp_C κ x cc nL own ret tb nm rm) (d : decode cc pc = .ok (.aaload, 1)) {a N j : Nat} {f : Nat → Option Nat} {i : Int32} (ho : μ a = some (sp_ra κ 5 N f)) (hi : i = nI j) (hj : j < N) {r : Option Nat} (hr0 : f j = r) (kk : sp_w κ x Q k n (pc + 1) lv (va_rf r :: st) μ) : sp_w κ x Q k n pc lv (.int i :: .ref a :: st) μ := by
  subst hi
  subst hr0
  obtain ⟨p, l, e, R, s, m, args, below, meth, c⟩ := x
  obtain ⟨⟨hx, hb, hml, hown, hts⟩, hU, hN, hlk, hr, htb, hnm, hR, htr⟩ := h
  intro H locs ls hH hS hl hc
  have kk' := kk H locs ls hH hS hl hc
  obtain ⟨h1, h2, LP, h3, h4, h5⟩ := hH
  obtain ⟨q0, hq0⟩ := sp_at h3 ho
  have hb3 : N < 2 ^ 31 := h2 a _ _ ho
  have hcl : (nI j).toNatClampNeg = j := nI_clamp (Nat.lt_trans hj hb3)
  exact W.aald (v := va_rf (f j)) (ty := .array .int) hx hb (h4 q0 _ hq0) ((hU.1.2 5 _ rfl).1 N (fun j => va_rf (f j))) rfl (fun q => by cases q) (by show ¬ (nI j < 0 ∨ (arrV _ _ _).slots.size ≤ _); rw [arrV_size]; exact vp_in_nI hj hb3) (by show (arrV _ _ _).slots[_]? = _; rw [hcl, arrV_read _ _ hj]) rfl rfl d kk'
theorem sr_newq (h : sp_C κ x cc nL own ret tb nm rm) {C : String} {ix t : Nat} (hcl : Cond.classLink own ix C ∈ sp_wa) (hC : C = RA ∧ t = 3 ∨ C = RS ∧ t = 4) (d : decode cc pc = .ok (.anewarray ix, 3)) {N : Nat} {i : Int32} (hi : i = nI N) (hN2 : N ≤ 1000000) (hcells : k + 1 ≤ rm.cells) (hslots : n + N ≤ rm.slots)
    (kk : ∀ q : Nat, μ q = none → sp_w κ x Q (k + 1) (n + N) (pc + 3) lv (.ref q :: st) (va_up μ q (some (sp_ra κ t N (fun _ => none))))) : sp_w κ x Q k n pc lv (.int i :: st) μ := by
  subst hi
  obtain ⟨p, l, e, R, s, m, args, below, meth, c⟩ := x
  obtain ⟨⟨hx, hb, hml, hown, hts⟩, hU, hN, hlk, hr, htb, hnm, hR, htr⟩ := h
  intro H locs ls hH hS hl hc
  obtain ⟨h1, h2, LP, h3, h4, h5⟩ := hH
  subst hR
  have hover : va_AO C s := by
    rcases hC with ⟨rfl, -⟩ | ⟨rfl, -⟩
    · exact hU.2.2.2.2.2.1
    · exact hU.2.2.2.2.2.2.1
  have htt : (sp_tys κ)[t]? = some (κ.2.2 t, .object C) := by
    rcases hC with ⟨rfl, rfl⟩ | ⟨rfl, rfl⟩ <;> rfl
  refine va_newq hx hb hown (hts _ hcl) hover hU.1 h4 h5 hS (fun q hq => Nat.le_trans hN hq) (nI_pos (by omega)) (nI_clamp (by omega)) (by omega) hcells hslots d (fun q cA H1 hK1 hP1 hD1 hS1 => ?_)
  have e1 : cA = κ.2.2 t := by
    obtain ⟨-, -, -, -, -, g1⟩ := (hK1.2 (sp_tys κ).length (cA, .object C) (by rw [List.getElem?_append_right (Nat.le_refl _), Nat.sub_self]; rfl)).2
    obtain ⟨-, -, -, -, -, g2⟩ := (hU.1.2 t _ htt).2
    exact Option.some.inj (Eq.trans (Eq.symm g1) g2)
  subst e1
  obtain ⟨hz, hH1⟩ := sp_push hN hS1 h2 h3 hP1 hD1 (fun ca y' z => by cases z; show N < 2 ^ 31; omega)
  exact kk q hz H1 locs ls hH1 hS1 hl hc
theorem sr_aastA (h : sp_C κ x cc nL own ret tb nm rm) (d : decode cc pc = .ok (.aastore, 1)) {a N j v M : Nat} {f : Nat → Option Nat} {fv : Nat → Int32} {i : Int32} (ho : μ a = some (sp_ra κ 5 N f)) (hi : i = nI j) (hj : j < N) (hv : μ v = some (sp_ia κ M fv)) (kk : sp_w κ x Q k n (pc + 1) lv st (va_up μ a (some (sp_ra κ 5 N (va_up f j (some v)))))) : sp_w κ x Q k n pc lv (.ref v :: .int i :: .ref a :: st) μ := by
  subst hi
  obtain ⟨p, l, e, R, s, m, args, below, meth, c⟩ := x
  obtain ⟨⟨hx, hb, hml, hown, hts⟩, hU, hN, hlk, hr, htb, hnm, hR, htr⟩ := h
  intro H locs ls hH hS hl hc
  obtain ⟨h1, h2, LP, h3, h4, h5⟩ := hH
  obtain ⟨q0, hq0⟩ := sp_at h3 ho
  obtain ⟨qk, hqk⟩ := sp_at h3 hv
  have hb3 : N < 2 ^ 31 := h2 a _ _ ho
  have hcl : (nI j).toNatClampNeg = j := nI_clamp (Nat.lt_trans hj hb3)
  have g1 : H[v]? = some (vp_cell (κ.2.2 0) (M, .inl fv)) := h4 qk _ hqk
  obtain ⟨comp, cA2, kA, k3, -, k1, k2, k4⟩ := arrayOverA_spec hU.2.2.2.2.2.2.2
  have e5 : κ.2.2 5 = cA2 := Option.some.inj (Eq.trans (Eq.symm ((hU.1.2 5 _ rfl).2 : s.vm.findClass ("[" ++ (FieldType.array .int).toString) = some (κ.2.2 5))) k4)
  have e0 : κ.2.2 0 = comp := Option.some.inj (Eq.trans (Eq.symm ((hU.1.2 0 _ rfl).2 : s.vm.findClass ("[" ++ FieldType.int.toString) = some (κ.2.2 0))) k3)
  obtain ⟨kE, hkE, -⟩ := Vm.findClass_spec k3
  have hc5 : (vp_cell (κ.2.2 5) (N, .inr (.inr (.inr (.inr f))))).cls = cA2 := e5
  have hc0 : (vp_cell (κ.2.2 0) (M, .inl fv)).cls = comp := e0
  refine W.aast hx hb (h4 q0 _ hq0) (fun q h => by cases h) (fun h => by cases h) (by rw [hc5]; exact k1) k2 rfl hkE ⟨nI_pos (Nat.lt_trans hj hb3), by show _ < (arrV _ _ _).slots.size; rw [arrV_size, hcl]; exact hj⟩ g1 (fun q h => by cases h) (by rw [hc0]; exact hkE) (by rw [hc0]; exact va_asg _ _) rfl rfl d fun H1 e z oq => ?_
  have hP1 := h4.set h5 hq0 (e := .inl (κ.2.2 5, N, .inr (.inr (.inr (.inr (va_up f j (some v))))))) (H1 := H1) (by
    show H1[a]? = some (vp_cell _ _)
    rw [e, hcl]
    rw [vp_cell_q, vp_cell_q, arrV_store]
    congr 2
    funext q
    by_cases hq : q = j
    · subst hq
      simp [updV, va_up, va_rf]
    · simp [updV, va_up, hq]) oq
  have hS1 := hS.put (k := (nI j).toNatClampNeg) z oq (h5.2 q0 _ hq0)
  exact kk H1 _ ls (sp_put (H := H) hN hS1 h2 h3 ho hq0 h5 hP1 (h5.set hq0) (fun ca y z => by cases z; exact hb3)) hS1 hl hc
end
