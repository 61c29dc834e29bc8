/-! the reference's faces, but add -/
def md_K (κ : sp_K) (g : sg_G) (Y : md_Y) (m : List Nat) (μ : sp_M) (Rt : Option Value → sp_M → Prop) (t : Int32) (r : Value) : Prop := ∀ μ', md_T κ g Y m t μ' → md_fa Y μ Y μ' → Rt (some r) μ'
section
variable {l : Launch} {κ : sp_K} {g : sg_G} {Y : md_Y} {m : List Nat} {c : Nat} {th : Int32} {μ : sp_M} {mc ms : Nat} {Rt : Option Value → sp_M → Prop} {Xt : String → sp_M → Prop}
theorem md_T.s13 (h : md_T κ g Y m th μ) (t : Int32) {μ' : sp_M} (e : μ' = va_up μ (ya Y 0) (some (md_obj g Y m.length t))) : md_T κ g Y m t μ' := by
  subst e
  obtain ⟨h1, h2, h3, h4, f, h5, h6⟩ := h
  exact ⟨h1.thr t, h2, h3, h4, f, (va_up_ne _ _ (h1.ne (i := 9) (j := 0) (by omega) (by omega) (by omega))).trans h5, h6⟩
theorem md_fa.s0 {μ3 μ4 : sp_M} (h : md_fa Y μ Y μ3) {z : Option va_E} (e : μ4 = va_up μ3 (ya Y 0) z) : md_fa Y μ Y μ4 := by
  subst e
  exact h.up (by omega)
theorem n1314 : 13 < 14 := by decide
theorem md_R.setc (h : md_R κ g Y c th μ) {c' : Nat} (hc : c' ≤ 16) {μ' : sp_M} (e : μ' = va_up μ (ya Y 0) (some (md_obj g Y c' th))) : md_R κ g Y c' th μ' := by
  subst e
  exact ⟨⟨h.1.1, h.1.2.1, hc, h.1.2.2.2⟩, va_up_self _ _ _, h.2.2.cong (fun i h1 hi => va_up_ne _ _ (h.ne hi (by omega) (by omega)))⟩
theorem fm_events (htr : l.stackTraces = false) (h : md_T κ g Y m th μ) (hr : 1 ≤ mc ∧ 6 ≤ ms) {v : Int32} (hm : v = -1 → md_K κ g Y m μ Rt 0 (.int (nI (gE g)))) (hs : ∀ s, s < gA g → v = nI (gM g s) → md_K κ g Y m μ Rt 0 (.int (nI (gC g s)))) (h0 : ∀ a, a < 256 → v = nI a → (∀ s, s < gA g → gM g s ≠ a) → md_K κ g Y m μ Rt 0 (.int 0)) (hX : v ≠ -1 → (∀ a, a < 256 → v ≠ nI a) → md_K κ g Y m μ Rt 1 (.int 0)) : sp_m l κ yM_events wM_events 7 112 mc ms [.ref (ya Y 0), .int v] μ Rt Xt := by
  refine opM_events htr (fun x hx hh => bkM_events_0 hh z2 ⟨_, h.1.o, n1314, fun μ3 e3 => ?_⟩)
  have h3 := h.s13 0 e3
  have f3 := md_fa.rfl.s0 e3
  exact ⟨1, 6, by omega, _, h3.1.o, cm_events0 hx h3.1 (fun q => ⟨_, rfl, hm q μ3 h3 f3⟩) (fun s q1 q2 => ⟨_, rfl, hs s q1 q2 μ3 h3 f3⟩) (fun a q1 q2 q3 => ⟨_, rfl, h0 a q1 q2 q3 μ3 h3 f3⟩) (fun q1 q2 => ⟨⟨Nat.le_refl _, Nat.le_refl _⟩, rfl, fun _ => ⟨_, h3.1.o, n1314, fun μ4 e4 => hX q1 q2 μ4 (h3.s13 1 e4) (f3.s0 e4)⟩⟩)⟩
theorem fm_place (htr : l.stackTraces = false) (h : md_T κ g Y m th μ) (hr : 1 ≤ mc ∧ 6 ≤ ms) {v1 v2 : Int32} (hok : ∀ s k, s < gA g → k < gC g s → v1 = nI (gM g s) → v2 = nI k → md_K κ g Y m μ Rt 0 (.int (nI (gT g s k)))) (hbad : (∀ s k, s < gA g → k < gC g s → v1 = nI (gM g s) → v2 ≠ nI k) → md_K κ g Y m μ Rt 1 (.int 0)) : sp_m l κ yM_place wM_place 8 133 mc ms [.ref (ya Y 0), .int v1, .int v2] μ Rt Xt := by
  refine opM_place htr (fun x hx hh => bkM_place_0 hh z2 ⟨_, h.1.o, n1314, fun μ3 e3 => ?_⟩)
  have h3 := h.s13 0 e3
  have f3 := md_fa.rfl.s0 e3
  exact ⟨1, 6, by omega, _, h3.1.o, cm_place0 hx h3.1 (fun s k q1 q2 q3 q4 => ⟨_, rfl, hok s k q1 q2 q3 q4 μ3 h3 f3⟩) (fun q1 => ⟨⟨Nat.le_refl _, Nat.le_refl _⟩, rfl, fun _ => ⟨_, h3.1.o, n1314, fun μ4 e4 => hbad q1 μ4 (h3.s13 1 e4) (f3.s0 e4)⟩⟩)⟩
theorem fm_id (htr : l.stackTraces = false) (h : md_T κ g Y m th μ) (hr : 1 ≤ mc ∧ 6 ≤ ms) {v : Int32} (hok : ∀ e, e < gE g → v = nI e → md_K κ g Y m μ Rt 0 (.long (4294967296 * (nI (gM g (gS g e))).toInt64 + (nI (gN g e)).toInt64))) (hbad : (∀ e, e < gE g → v ≠ nI e) → md_K κ g Y m μ Rt 1 (.long 0)) : sp_m l κ yM_id wM_id 8 131 mc ms [.ref (ya Y 0), .int v] μ Rt Xt := by
  refine opM_id htr (fun x hx hh => bkM_id_0 hh z2 ⟨_, h.1.o, n1314, fun μ3 e3 => ?_⟩)
  have h3 := h.s13 0 e3
  have f3 := md_fa.rfl.s0 e3
  refine ⟨1, 6, by omega, _, h3.1.o, ?_⟩
  by_cases q : ∃ e, e < gE g ∧ v = nI e
  · obtain ⟨e, he, rfl⟩ := q
    exact cm_id0 hx h3.1 he ⟨_, rfl, hok e he rfl μ3 h3 f3⟩
  · have q1 : ∀ e, e < gE g → v ≠ nI e := fun e he z => q ⟨e, he, z⟩
    exact cm_id0_bad hx h3.1 q1 ⟨Nat.le_refl _, Nat.le_refl _⟩ ⟨rfl, fun _ => ⟨_, h3.1.o, n1314, fun μ4 e4 => hbad q1 μ4 (h3.s13 1 e4) (f3.s0 e4)⟩⟩
theorem fm_parentOf (htr : l.stackTraces = false) (h : md_T κ g Y m th μ) (hr : 1 ≤ mc ∧ 6 ≤ ms) {v v2 : Int32} (hm : ∀ e, e < gE g → v = nI e → v2 = -1 → md_K κ g Y m μ Rt 0 (.int (nI (gR g e).length))) (hok : ∀ e j, e < gE g → v = nI e → j < (gR g e).length → v2 = nI j → md_K κ g Y m μ Rt 0 (.int (nI ((gR g e).getD j 0)))) (hbad : (∀ e, e < gE g → v = nI e → v2 ≠ -1 ∧ ∀ j, j < (gR g e).length → v2 ≠ nI j) → md_K κ g Y m μ Rt 1 (.int 0)) : sp_m l κ yM_parentOf wM_parentOf 8 132 mc ms [.ref (ya Y 0), .int v, .int v2] μ Rt Xt := by
  have hE := h.1.I.e
  refine opM_parentOf htr (fun x hx hh => bkM_parentOf_0 hh z2 ⟨_, h.1.o, n1314, fun μ3 e3 => ?_⟩)
  have h3 := h.s13 0 e3
  have f3 := md_fa.rfl.s0 e3
  refine ⟨1, 6, by omega, _, h3.1.o, ?_⟩
  by_cases q : ∃ e, e < gE g ∧ v = nI e
  · obtain ⟨e, he, rfl⟩ := q
    refine cm_parentOf0 hx h3.1 he (fun q1 => ⟨_, rfl, hm e he rfl q1 μ3 h3 f3⟩) (fun j q1 q2 => ⟨_, rfl, hok e j he rfl q1 q2 μ3 h3 f3⟩) (fun q1 q2 => ⟨⟨Nat.le_refl _, Nat.le_refl _⟩, rfl, fun _ => ⟨_, h3.1.o, n1314, fun μ4 e4 => hbad (fun e' he' z => ?_) μ4 (h3.s13 1 e4) (f3.s0 e4)⟩⟩)
    have : e = e' := (nI_eq (by omega) (by omega)).mp z
    subst this
    exact ⟨q1, q2⟩
  · have q1 : ∀ e, e < gE g → v ≠ nI e := fun e he z => q ⟨e, he, z⟩
    exact cm_parentOf0_bad hx h3.1 q1 ⟨Nat.le_refl _, Nat.le_refl _⟩ ⟨rfl, fun _ => ⟨_, h3.1.o, n1314, fun μ4 e4 => hbad (fun e he z => absurd z (q1 e he)) μ4 (h3.s13 1 e4) (f3.s0 e4)⟩⟩
theorem md_two {v1 v2 : Int32} : (∃ e1 e2, e1 < gE g ∧ e2 < gE g ∧ v1 = nI e1 ∧ v2 = nI e2) ∨ ((∀ e, e < gE g → v1 ≠ nI e) ∨ ∀ e, e < gE g → v2 ≠ nI e) := by
  by_cases p1 : ∃ e, e < gE g ∧ v1 = nI e
  · by_cases p2 : ∃ e, e < gE g ∧ v2 = nI e
    · obtain ⟨e1, a1, b1⟩ := p1
      obtain ⟨e2, a2, b2⟩ := p2
      exact Or.inl ⟨e1, e2, a1, a2, b1, b2⟩
    · exact Or.inr (Or.inr (fun e he z => p2 ⟨e, he, z⟩))
  · exact Or.inr (Or.inl (fun e he z => p1 ⟨e, he, z⟩))
theorem fm_related (htr : l.stackTraces = false) (h : md_T κ g Y m th μ) (hr : 1 ≤ mc ∧ 6 ≤ ms) {v1 v2 : Int32} (hok : ∀ e1 e2, e1 < gE g → e2 < gE g → v1 = nI e1 → v2 = nI e2 → md_K κ g Y m μ Rt 0 (.int (nI (sg_rel g e1 e2)))) (hbad : ((∀ e, e < gE g → v1 ≠ nI e) ∨ ∀ e, e < gE g → v2 ≠ nI e) → md_K κ g Y m μ Rt 1 (.int 0)) : sp_m l κ yM_related wM_related 8 132 mc ms [.ref (ya Y 0), .int v1, .int v2] μ Rt Xt := by
  refine opM_related htr (fun x hx hh => bkM_related_0 hh z2 ⟨_, h.1.o, n1314, fun μ3 e3 => ?_⟩)
  have h3 := h.s13 0 e3
  have f3 := md_fa.rfl.s0 e3
  refine ⟨1, 6, by omega, _, h3.1.o, ?_⟩
  rcases md_two (g := g) (v1 := v1) (v2 := v2) with ⟨e1, e2, a1, a2, rfl, rfl⟩ | q1
  · exact cm_related0 hx h3.1 a1 a2 ⟨_, rfl, hok e1 e2 a1 a2 rfl rfl μ3 h3 f3⟩
  · exact cm_related0_bad hx h3.1 q1 ⟨Nat.le_refl _, Nat.le_refl _⟩ ⟨rfl, fun _ => ⟨_, h3.1.o, n1314, fun μ4 e4 => hbad q1 μ4 (h3.s13 1 e4) (f3.s0 e4)⟩⟩
theorem fm_apart (htr : l.stackTraces = false) (h : md_T κ g Y m th μ) (hr : 1 ≤ mc ∧ 6 ≤ ms) {v1 v2 : Int32} (hok : ∀ e1 e2, e1 < gE g → e2 < gE g → v1 = nI e1 → v2 = nI e2 → md_K κ g Y m μ Rt 0 (.int (nI (sg_sum (fun s => gP g e1 s - gP g e2 s) 16)))) (hbad : ((∀ e, e < gE g → v1 ≠ nI e) ∨ ∀ e, e < gE g → v2 ≠ nI e) → md_K κ g Y m μ Rt 1 (.int 0)) : sp_m l κ yM_apart wM_apart 8 134 mc ms [.ref (ya Y 0), .int v1, .int v2] μ Rt Xt := by
  refine opM_apart htr (fun x hx hh => bkM_apart_0 hh z2 ⟨_, h.1.o, n1314, fun μ3 e3 => ?_⟩)
  have h3 := h.s13 0 e3
  have f3 := md_fa.rfl.s0 e3
  refine ⟨1, 6, by omega, _, h3.1.o, ?_⟩
  rcases md_two (g := g) (v1 := v1) (v2 := v2) with ⟨e1, e2, a1, a2, rfl, rfl⟩ | q1
  · exact cm_apart0 hx h3.1 a1 a2 ⟨_, rfl, hok e1 e2 a1 a2 rfl rfl μ3 h3 f3⟩
  · exact cm_apart0_bad hx h3.1 q1 ⟨Nat.le_refl _, Nat.le_refl _⟩ ⟨rfl, fun _ => ⟨_, h3.1.o, n1314, fun μ4 e4 => hbad q1 μ4 (h3.s13 1 e4) (f3.s0 e4)⟩⟩
theorem fm_latest (htr : l.stackTraces = false) (h : md_T κ g Y m th μ) (hr : 1 ≤ mc ∧ 6 ≤ ms) {v1 v2 v3 : Int32} (hok : ∀ e1 e2 r, e1 < gE g → e2 < gE g → v1 = nI e1 → v2 = nI e2 → sg_gr (sg_la g e1 e2) (sg_lim v3) r → md_K κ g Y m μ Rt 0 (.int r)) (hbad : ((∀ e, e < gE g → v1 ≠ nI e) ∨ ∀ e, e < gE g → v2 ≠ nI e) → md_K κ g Y m μ Rt 1 (.int 0)) : sp_m l κ yM_latest wM_latest 8 134 mc ms [.ref (ya Y 0), .int v1, .int v2, .int v3] μ Rt Xt := by
  refine opM_latest htr (fun x hx hh => bkM_latest_0 hh z2 ⟨_, h.1.o, n1314, fun μ3 e3 => ?_⟩)
  have h3 := h.s13 0 e3
  have f3 := md_fa.rfl.s0 e3
  refine ⟨1, 6, by omega, _, h3.1.o, ?_⟩
  rcases md_two (g := g) (v1 := v1) (v2 := v2) with ⟨e1, e2, a1, a2, rfl, rfl⟩ | q1
  · exact cm_latest0 hx h3.1 a1 a2 (fun r q => ⟨_, rfl, hok e1 e2 r a1 a2 rfl rfl q μ3 h3 f3⟩)
  · exact cm_latest0_bad hx h3.1 q1 ⟨Nat.le_refl _, Nat.le_refl _⟩ ⟨rfl, fun _ => ⟨_, h3.1.o, n1314, fun μ4 e4 => hbad q1 μ4 (h3.s13 1 e4) (f3.s0 e4)⟩⟩
theorem fm_critical (htr : l.stackTraces = false) (h : md_T κ g Y m th μ) (hR : md_K κ g Y m μ Rt 0 (.int (nI (sg_ct (sg_cb g) (gE g))))) : sp_m l κ yM_critical wM_critical 3 67 mc ms [.ref (ya Y 0)] μ Rt Xt := by
  refine opM_critical htr (fun x hx hh => bkM_critical_0 hh z2 ⟨_, h.1.o, n1314, fun μ3 e3 => ?_⟩)
  have h3 := h.s13 0 e3
  have f3 := md_fa.rfl.s0 e3
  exact ⟨0, 0, z2, _, h3.1.o, cm_critical0 hx h3.1 ⟨_, rfl, hR μ3 h3 f3⟩⟩
theorem fm_base (htr : l.stackTraces = false) (h : md_T κ g Y m th μ) {v : Int32} (hR : ∀ r, sg_gr (fun e => e < gE g ∧ sg_crit g e) (sg_lim v) r → md_K κ g Y m μ Rt 0 (.int r)) : sp_m l κ yM_base wM_base 3 67 mc ms [.ref (ya Y 0), .int v] μ Rt Xt := by
  refine opM_base htr (fun x hx hh => bkM_base_0 hh z2 ⟨_, h.1.o, n1314, fun μ3 e3 => ?_⟩)
  have h3 := h.s13 0 e3
  have f3 := md_fa.rfl.s0 e3
  exact ⟨0, 0, z2, _, h3.1.o, cm_base0 hx h3.1 (fun r q => ⟨_, rfl, hR r q μ3 h3 f3⟩)⟩
/-- heads -/
theorem sg_hl_nd (h : sg_I g) (hC : md_c g) : ∀ a, (sg_hl g a).Nodup
  | 0 => List.nodup_nil
  | a + 1 => by
    have ih := sg_hl_nd h hC a
    by_cases q : ∃ s, s < gA g ∧ gM g s = a
    · obtain ⟨s, hs, rfl⟩ := q
      by_cases hd : sg_hd g s
      · rw [sg_hl_yes h hs hd]
        refine List.nodup_append.mpr ⟨ih, by simp, fun x hx y hy => ?_⟩
        have hy' : y = sg_lt g s := by simpa using hy
        rw [hy']
        obtain ⟨t, h1, h2, -, h4⟩ := sg_hl_mem h hx
        intro e
        have e1 := sg_lt_S h hs (hC s hs)
        have e2 := sg_lt_S h h1 (hC t h1)
        rw [← e, h4, e2] at e1
        rw [e1] at h2
        omega
      · rw [sg_hl_no h hs hd]
        exact ih
    · rw [sg_hl_none (fun s hs z => q ⟨s, hs, z⟩)]
      exact ih
theorem md_fa.q {i : Nat} (hi : i < 27) {μ3 μ' : sp_M} (h : md_fa Y μ Y μ3) (hq : ∀ q, q ≠ ya Y i → μ' q = μ3 q) : md_fa Y μ Y μ' :=
  ⟨fun z e hz hn => (hq z (fun q => hn ⟨i, hi, q⟩)).trans (h.1 z e hz hn), h.2⟩
theorem fm_heads (htr : l.stackTraces = false) (h : md_T κ g Y m th μ) (hR : ∀ μ', md_T κ g Y (sg_hl g 256) 0 μ' → md_fa Y μ Y μ' → Rt (some (.int (nI (sg_hl g 256).length))) μ') : sp_m l κ yM_heads wM_heads 4 90 mc ms [.ref (ya Y 0)] μ Rt Xt := by
  refine opM_heads htr (fun x hx hh => bkM_heads_0 hh z2 ⟨_, h.1.o, n1314, fun μ3 e3 => ?_⟩)
  have h3 := h.s13 0 e3
  have f3 := md_fa.rfl.s0 e3
  refine ⟨0, 0, z2, _, h3.1.o, opM_heads0 hx (fun x hx hh => bkM_heads0_0 hh z2 ⟨_, h3.1.o, some (ya Y 9), rfl, 0, 0, z2, cm_headsTo hx h3.1 h3.2.1 (Or.inl rfl) (fun μ4 f hq hf hv => ⟨_, rfl, _, (h3.1.row (Or.inl rfl) hq hf).o, (by decide : 11 < 14), fun μ5 e5 => ?_⟩)⟩)⟩
  have h4 := h3.1.row (Or.inl rfl) hq hf
  have h5 : md_R κ g Y (sg_hl g 256).length 0 μ5 := h4.setc (sg_hl_16 h.1.I 256) e5
  refine ⟨_, h5.o, _, rfl, _, rfl, hR μ5 ⟨h5, h.2.1, fun e he => ?_, sg_hl_nd h.1.I h.2.1 256, f, ?_, hv⟩ ((f3.q (i := 9) (by omega) hq).s0 e5)⟩
  · obtain ⟨s, hs, -, -, rfl⟩ := sg_hl_mem h.1.I he
    exact sg_lt_E h.1.I hs (h.2.1 s hs)
  · rw [e5]
    exact (va_up_ne _ _ (h.1.ne (i := 9) (j := 0) (by omega) (by omega) (by omega))).trans hf
theorem md_fa.trans {Y2 Y3 : md_Y} {μ2 μ3 : sp_M} (h : md_fa Y μ Y2 μ2) (h' : md_fa Y2 μ2 Y3 μ3) (hs : ∀ z, md_own Y2 z → md_own Y z ∨ μ z = none) : md_fa Y μ Y3 μ3 := by
  refine ⟨fun z e hz hn => h'.1 z e (h.1 z e hz hn) (fun q => ?_), fun z hz => ?_⟩
  · rcases hs z q with q1 | q1
    · exact hn q1
    · rw [hz] at q1; cases q1
  · rcases h'.2 z hz with q | q
    · exact hs z q
    · rcases Classical.em (md_own Y z) with q1 | q1
      · exact Or.inl q1
      · refine Or.inr ?_
        cases e : μ z with
        | none => rfl
        | some w => rw [h.1 z w e q1] at q; cases q
theorem cm_head0 (htr : l.stackTraces = false) (h : md_T κ g Y m th μ) (hr : 1 ≤ mc ∧ 6 ≤ ms) {v : Int32} (hok : ∀ j, j < (sg_hl g 256).length → v = nI j → md_K κ g Y m μ Rt th (.int (nI ((sg_hl g 256).getD j 0)))) (hbad : (∀ j, j < (sg_hl g 256).length → v ≠ nI j) → ∀ μ', md_T κ g Y m th μ' → md_fa Y μ Y μ' → Xt xNo μ') : sp_m l κ yM_head0 wM_head0 7 110 mc ms [.ref (ya Y 0), .int v] μ Rt Xt := by
  have hl16 := sg_hl_16 h.1.I 256
  refine opM_head0 htr (fun x hx hh => bkM_head0_0 hh z2 ⟨_, h.1.o, some (ya Y 10), rfl, 0, 0, z2, cm_headsTo hx h.1 h.2.1 (Or.inr rfl) (fun μ4 f hq hf hv => ⟨_, rfl, ?_⟩)⟩)
  have h4 : md_T κ g Y m th μ4 := by
    refine ⟨h.1.row (Or.inr rfl) hq hf, h.2.1, h.2.2.1, h.2.2.2.1, ?_⟩
    obtain ⟨f', q1, q2⟩ := h.2.2.2.2
    exact ⟨f', (hq _ (h.1.ne (i := 9) (j := 10) (by omega) (by omega) (by omega))).trans q1, q2⟩
  have f4 : md_fa Y μ Y μ4 := md_fa.rfl.q (i := 10) (by omega) hq
  have out : (∀ j, j < (sg_hl g 256).length → v ≠ nI j) → sp_w κ x (sp_F κ x Rt Xt mc ms) 0 0 22 [(0, .ref (ya Y 0)), (1, .int v), (2, .int (nI (sg_hl g 256).length))] [] μ4 := fun hno => bkM_head0_22 hh z2 ⟨1, 6, by omega, cm_there0 hx ⟨Nat.le_refl _, Nat.le_refl _⟩ (hbad hno μ4 h4 f4)⟩
  refine ⟨fun cc => out (fun j hj q => ?_), fun cc => ⟨fun c2 => out (fun j hj q => ?_), fun c2 => ?_⟩⟩
  · rw [q] at cc
    exact nI_pos (by omega) cc
  · rw [q] at c2
    exact nI_ge hj (by omega) c2
  · obtain ⟨j, hj31, rfl⟩ := nI_of cc
    have hj : j < (sg_hl g 256).length := Nat.lt_of_not_le (fun q => c2 (nI_le q hj31))
    refine ⟨0, 0, z2, cm_there1 hx ⟨rfl, _, h4.1.o, some (ya Y 10), rfl, _, rfl, _, _, hf, j, rfl, by omega, ?_⟩⟩
    rw [hv j hj]
    exact hok j hj rfl μ4 h4 f4
theorem fm_head (htr : l.stackTraces = false) (h : md_T κ g Y m th μ) (hr : 1 ≤ mc ∧ 6 ≤ ms) {v : Int32} (hok : ∀ j, j < (sg_hl g 256).length → v = nI j → md_K κ g Y m μ Rt 0 (.int (nI ((sg_hl g 256).getD j 0)))) (hbad : (∀ j, j < (sg_hl g 256).length → v ≠ nI j) → md_K κ g Y m μ Rt 1 (.int 0)) : sp_m l κ yM_head wM_head 8 132 mc ms [.ref (ya Y 0), .int v] μ Rt Xt := by
  refine opM_head htr (fun x hx hh => bkM_head_0 hh z2 ⟨_, h.1.o, n1314, fun μ3 e3 => ?_⟩)
  have h3 := h.s13 0 e3
  have f3 := md_fa.rfl.s0 e3
  exact ⟨1, 6, by omega, _, h3.1.o, cm_head0 hx h3 ⟨Nat.le_refl _, Nat.le_refl _⟩ (fun j q1 q2 μ4 h4 f4 => ⟨_, rfl, hok j q1 q2 μ4 h4 (f3.trans f4 f3.2)⟩) (fun q1 μ4 h4 f4 => ⟨rfl, fun _ => ⟨_, h4.1.o, n1314, fun μ5 e5 => hbad q1 μ5 (h4.s13 1 e5) ((f3.trans f4 f3.2).s0 e5)⟩⟩)⟩
/-- parent -/
theorem lm_parent {x : sp_X} {k n : Nat} {v1 v2 : Int32} (hh : cxM_parent0 κ x mc ms) (hk : k + 1 ≤ mc ∧ n + 6 ≤ ms) (h : md_T κ g Y m th μ) {e : Nat} (he : e < gE g)
    (hok : e ∉ m → m.length < 16 → ∀ μ', md_T κ g Y (m ++ [e]) th μ' → md_fa Y μ Y μ' → Rt (some (.int (nI (m.length + 1)))) μ')
    (hUO : e ∈ m → Xt xUO μ) (hIS : e ∉ m → m.length = 16 → Xt xIS μ) :
    ∀ (d j : Nat), m.length = j + d → (∀ i, i < j → m.getD i 0 ≠ e) → sp_w κ x (sp_F κ x Rt Xt mc ms) k n 22 [(0, .ref (ya Y 0)), (1, .int v1), (2, .int v2), (3, .int (nI e)), (4, .int (nI j))] [] μ := by
  have hE := h.1.I.e
  have hl := h.1.l16
  have hk' : k ≤ mc ∧ n ≤ ms := ⟨by omega, by omega⟩
  obtain ⟨f, hf, hv⟩ := h.2.2.2.2
  have hmem : ∀ j, j < m.length → m.getD j 0 ∈ m := fun j hj => by
    have e1 : m.getD j 0 = m[j] := by simp [List.getD, hj]
    rw [e1]
    exact List.getElem_mem _
  intro d
  induction d with
  | zero =>
    intro j hd hno
    have ej : j = m.length := by omega
    subst ej
    have hn : e ∉ m := fun q => by
      obtain ⟨i, hi, q2⟩ := List.getElem_of_mem q
      exact hno i hi (by simp [List.getD, hi, q2])
    refine bkM_parent0_22 hh hk' ⟨_, h.1.o, _, rfl, fun _ => ⟨fun cc => ⟨some (ya Y 9), rfl, _, rfl, _, _, hf, _, rfl, ?_, fun μ3 e3 => ?_⟩, fun cc => ⟨hk, hIS hn ((nI_eq (b := 16) (by omega) (by omega)).mp cc)⟩⟩, fun cc => absurd (Int32.le_refl _) cc⟩
    · rcases Nat.lt_or_ge m.length 16 with q | q
      · exact q
      · exact absurd (by rw [show m.length = 16 by omega]; rfl) cc
    · have hlt : m.length < 16 := by
        rcases Nat.lt_or_ge m.length 16 with q | q
        · exact q
        · exact absurd (by rw [show m.length = 16 by omega]; rfl) cc
      have hq3 : ∀ q, q ≠ ya Y 9 → μ3 q = μ q := fun q hq => by rw [e3]; exact va_up_ne _ _ hq
      have hf3 : μ3 (ya Y 9) = some (sp_ia κ 16 (upd f m.length (nI e))) := by rw [e3]; exact va_up_self _ _ _
      have h3 := h.1.row (Or.inl rfl) hq3 hf3
      refine ⟨_, h3.o, _, rfl, (by decide : 11 < 14), fun μ4 e4 => ?_⟩
      have hlen : (m ++ [e]).length = m.length + 1 := by simp
      rw [nI_1] at e4
      have h4 : md_R κ g Y (m.length + 1) th μ4 := h3.setc (by omega) e4
      refine ⟨_, h4.o, _, rfl, hok hn hlt μ4 ⟨?_, h.2.1, fun z hz => ?_, ?_, upd f m.length (nI e), ?_, fun j hj => ?_⟩ ((md_fa.rfl.q (i := 9) (by omega) hq3).s0 e4)⟩
      · rw [hlen]; exact h4
      · rcases List.mem_append.mp hz with q | q
        · exact h.2.2.1 z q
        · have : z = e := by simpa using q
          rw [this]; exact he
      · refine List.nodup_append.mpr ⟨h.2.2.2.1, by simp, fun z hz y hy => ?_⟩
        have : y = e := by simpa using hy
        rw [this]
        exact fun q => hn (q ▸ hz)
      · rw [e4]
        exact (va_up_ne _ _ (h.1.ne (i := 9) (j := 0) (by omega) (by omega) (by omega))).trans hf3
      · rw [hlen] at hj
        rcases Nat.lt_or_ge j m.length with q | q
        · rw [sl_app1 q, pk_un (by omega)]
          exact hv j q
        · have : j = m.length := by omega
          subst this
          rw [sl_app2, pk_us]
  | succ d ih =>
    intro j hd hno
    refine bkM_parent0_22 hh hk' ⟨_, h.1.o, _, rfl, fun cc => absurd cc (nI_ge (by omega) (by omega)), fun _ => ⟨some (ya Y 9), rfl, _, rfl, _, _, hf, j, rfl, by omega, fun cc => ?_, fun cc => ⟨hk, hUO ?_⟩⟩⟩
    · rw [nI_1]
      rw [hv j (by omega)] at cc
      refine ih (j + 1) (by omega) (fun i hi q => ?_)
      rcases Nat.lt_or_ge i j with q1 | q1
      · exact hno i q1 q
      · have : i = j := by omega
        subst this
        exact cc (by rw [q])
    · rw [hv j (by omega)] at cc
      have hm := hmem j (by omega)
      have h1 := h.2.2.1 _ hm
      have : m.getD j 0 = e := (nI_eq (by omega) (by omega)).mp cc
      rw [← this]; exact hm
theorem cm_parent0 (htr : l.stackTraces = false) (h : md_T κ g Y m th μ) (hr : 1 ≤ mc ∧ 6 ≤ ms) {v1 v2 : Int32}
    (hok : ∀ s k, s < gA g → k < gC g s → v1 = nI (gM g s) → v2 = nI k → gT g s k ∉ m → m.length < 16 → ∀ μ', md_T κ g Y (m ++ [gT g s k]) th μ' → md_fa Y μ Y μ' → Rt (some (.int (nI (m.length + 1)))) μ')
    (hNo : (∀ s k, s < gA g → k < gC g s → v1 = nI (gM g s) → v2 ≠ nI k) → Xt xNo μ)
    (hUO : ∀ s k, s < gA g → k < gC g s → v1 = nI (gM g s) → v2 = nI k → gT g s k ∈ m → Xt xUO μ)
    (hIS : ∀ s k, s < gA g → k < gC g s → v1 = nI (gM g s) → v2 = nI k → gT g s k ∉ m → m.length = 16 → Xt xIS μ) : sp_m l κ yM_parent0 wM_parent0 7 110 mc ms [.ref (ya Y 0), .int v1, .int v2] μ Rt Xt := by
  have hE := h.1.I.e
  refine opM_parent0 htr (fun x hx hh => bkM_parent0_0 hh z2 ⟨0, 0, z2, _, h.1.o, cm_find hx h.1 (fun s k hs hk e1 e2 => ⟨_, rfl, fun cc => absurd cc (nI_pos (by have := h.1.I.t hs hk; omega)), fun _ => ⟨0, 0, z2, cm_there1 hx ⟨rfl, ?_⟩⟩⟩) (fun hno => ⟨_, rfl, fun _ => ⟨1, 6, by omega, cm_there0 hx ⟨Nat.le_refl _, Nat.le_refl _⟩ (hNo hno)⟩, fun cc => absurd (by decide) cc⟩)⟩)
  exact lm_parent hh ⟨by omega, by omega⟩ h (h.1.I.t hs hk) (fun q1 q2 => hok s k hs hk e1 e2 q1 q2) (hUO s k hs hk e1 e2) (hIS s k hs hk e1 e2) m.length 0 (by omega) (fun i q => absurd q (Nat.not_lt_zero _))
theorem fm_parent (htr : l.stackTraces = false) (h : md_T κ g Y m th μ) (hr : 1 ≤ mc ∧ 6 ≤ ms) {v1 v2 : Int32}
    (hok : ∀ s k, s < gA g → k < gC g s → v1 = nI (gM g s) → v2 = nI k → gT g s k ∉ m → m.length < 16 → ∀ μ', md_T κ g Y (m ++ [gT g s k]) 0 μ' → md_fa Y μ Y μ' → Rt (some (.int (nI (m.length + 1)))) μ')
    (hNo : (∀ s k, s < gA g → k < gC g s → v1 = nI (gM g s) → v2 ≠ nI k) → md_K κ g Y m μ Rt 1 (.int 0))
    (hUO : ∀ s k, s < gA g → k < gC g s → v1 = nI (gM g s) → v2 = nI k → gT g s k ∈ m → md_K κ g Y m μ Rt 2 (.int 0))
    (hIS : ∀ s k, s < gA g → k < gC g s → v1 = nI (gM g s) → v2 = nI k → gT g s k ∉ m → m.length = 16 → md_K κ g Y m μ Rt 3 (.int 0)) : sp_m l κ yM_parent wM_parent 8 134 mc ms [.ref (ya Y 0), .int v1, .int v2] μ Rt Xt := by
  refine opM_parent htr (fun x hx hh => bkM_parent_0 hh z2 ⟨_, h.1.o, n1314, fun μ3 e3 => ?_⟩)
  have h3 := h.s13 0 e3
  have f3 := md_fa.rfl.s0 e3
  exact ⟨1, 6, by omega, _, h3.1.o, cm_parent0 hx h3 ⟨Nat.le_refl _, Nat.le_refl _⟩ (fun s k q1 q2 q3 q4 q5 q6 μ4 h4 f4 => ⟨_, rfl, hok s k q1 q2 q3 q4 q5 q6 μ4 h4 (f3.trans f4 f3.2)⟩)
    (fun q1 => Or.inl ⟨rfl, fun _ => ⟨_, h3.1.o, n1314, fun μ5 e5 => hNo q1 μ5 (h3.s13 1 e5) (f3.s0 e5)⟩⟩)
    (fun s k q1 q2 q3 q4 q5 => Or.inr (Or.inl ⟨rfl, fun _ => ⟨_, h3.1.o, n1314, fun μ5 e5 => hUO s k q1 q2 q3 q4 q5 μ5 (h3.s13 2 e5) (f3.s0 e5)⟩⟩))
    (fun s k q1 q2 q3 q4 q5 q6 => Or.inr (Or.inr ⟨rfl, fun _ => ⟨_, h3.1.o, n1314, fun μ5 e5 => hIS s k q1 q2 q3 q4 q5 q6 μ5 (h3.s13 3 e5) (f3.s0 e5)⟩⟩))⟩
end
