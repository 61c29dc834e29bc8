/-! the class's writers: heads, takeList -/
section
variable {l : Launch} {κ : sp_K} {g : sg_G} {X : sc_X} {L L' : List Nat} {μ μ' : sp_M} {mc ms : Nat} {Rt : Option Value → sp_M → Prop} {Xt : String → sp_M → Prop}
theorem sg_hl_mem (h : sg_I g) {e : Nat} : ∀ {a : Nat}, e ∈ sg_hl g a → ∃ s, s < gA g ∧ gM g s < a ∧ sg_hd g s ∧ e = sg_lt g s
  | 0, he => by simp [sg_hl] at he
  | a + 1, he => by
    by_cases q : ∃ s, s < gA g ∧ gM g s = a
    · obtain ⟨s, hs, rfl⟩ := q
      by_cases hd : sg_hd g s
      · rw [sg_hl_yes h hs hd] at he
        rcases List.mem_append.mp he with q | q
        · obtain ⟨t, h1, h2, h3⟩ := sg_hl_mem h q
          exact ⟨t, h1, by omega, h3⟩
        · exact ⟨s, hs, by omega, hd, by simpa using q⟩
      · rw [sg_hl_no h hs hd] at he
        obtain ⟨t, h1, h2, h3⟩ := sg_hl_mem h he
        exact ⟨t, h1, by omega, h3⟩
    · rw [sg_hl_none (fun s hs z => q ⟨s, hs, z⟩)] at he
      obtain ⟨t, h1, h2, h3⟩ := sg_hl_mem h he
      exact ⟨t, h1, by omega, h3⟩
theorem sg_hl_ct (h : sg_I g) : ∀ (a : Nat), (sg_hl g a).length ≤ sg_ct (fun s => decide (gM g s < a)) (gA g)
  | 0 => by simp [sg_hl]
  | a + 1 => by
    have ih := sg_hl_ct h a
    by_cases q : ∃ s, s < gA g ∧ gM g s = a
    · obtain ⟨s, hs, rfl⟩ := q
      have e1 : sg_ct (fun t => decide (gM g t < gM g s + 1)) (gA g) = sg_ct (fun t => decide (gM g t < gM g s)) (gA g) + 1 := by
        refine sg_ct_one hs (fun k hk hne => ?_) (by simp) (by simp)
        have : gM g k ≠ gM g s := fun z => hne (h.nm hk hs z)
        simp only [decide_eq_decide]
        omega
      rw [e1]
      by_cases hd : sg_hd g s
      · rw [sg_hl_yes h hs hd, List.length_append]
        simp only [List.length_cons, List.length_nil]
        omega
      · rw [sg_hl_no h hs hd]
        omega
    · have q' : ∀ s, s < gA g → gM g s ≠ a := fun s hs z => q ⟨s, hs, z⟩
      rw [sg_hl_none q']
      have e1 : sg_ct (fun t => decide (gM g t < a + 1)) (gA g) = sg_ct (fun t => decide (gM g t < a)) (gA g) := by
        refine sg_ct_congr (fun k hk => ?_)
        have := q' k hk
        simp only [decide_eq_decide]
        omega
      rw [e1]
      exact ih
theorem sg_hl_lt (h : sg_I g) {s : Nat} (hs : s < gA g) : (sg_hl g (gM g s)).length < 16 := by
  have h1 := sg_hl_ct h (gM g s)
  have h2 := sg_ct_le (P := fun t => decide (gM g t < gM g s)) (gA g)
  have h3 := h.a
  rcases Nat.lt_or_ge (sg_hl g (gM g s)).length 16 with q | q
  · exact q
  · have h4 : sg_ct (fun t => decide (gM g t < gM g s)) (gA g) = gA g := by omega
    have := sg_ct_full.mp h4 s hs
    simp at this
theorem sg_hl_16 (h : sg_I g) (a : Nat) : (sg_hl g a).length ≤ 16 := by
  have h1 := sg_hl_ct h a
  have h2 := sg_ct_le (P := fun t => decide (gM g t < a)) (gA g)
  have h3 := h.a
  omega
theorem sc_fr.trans {μ1 μ2 μ3 : sp_M} (h : sc_fr X μ1 μ2) (h' : sc_fr X μ2 μ3) : sc_fr X μ1 μ3 := fun q q1 q2 => (h' q q1 q2).trans (h q q1 q2)
theorem lp_heads {x : sp_X} {k n : Nat} (hx : x.2.1.stackTraces = false) (hh : cxE_heads κ x mc ms) (hk : k ≤ mc ∧ n ≤ ms) (hc0 : ∀ s, s < gA g → 0 < gC g s) (hR : ∀ μ', sc_T κ g X (sg_sort [] (sg_hl g 256)) μ' → sc_fr X μ μ' → Rt (some (.int (nI (sg_hl g 256).length))) μ') :
    ∀ (d a : Nat) (μ1 : sp_M), 256 = a + d → sc_T κ g X (sg_sort [] (sg_hl g a)) μ1 → sc_fr X μ μ1 → sp_w κ x (sp_F κ x Rt Xt mc ms) k n 15 [(0, .ref (xh X)), (1, .ref (xg X)), (2, .int (nI 256)), (3, .int (nI a))] [] μ1 := by
  intro d
  induction d with
  | zero =>
    intro a μ1 ha hT hfr
    have : a = 256 := by omega
    subst this
    refine bkE_heads_15 hh hk ⟨fun _ => ⟨_, hT.1.o, _, rfl, ?_⟩, fun c => absurd (Int32.le_refl _) c⟩
    have := hR μ1 hT hfr
    rw [sg_sort_len]
    simpa using this
  | succ d ih =>
    intro a μ1 ha hT hfr
    obtain ⟨f, hf, hfv, hfn⟩ := hT.1.og
    refine bkE_heads_15 hh hk ⟨fun c => absurd c (nI_ge (by omega) (by omega)), fun c => ⟨_, _, hf, a, rfl, by omega, ?_⟩⟩
    by_cases q : ∃ s, s < gA g ∧ gM g s = a
    · obtain ⟨s, hs, rfl⟩ := q
      refine ⟨_, hfv s hs, fun z => (nomatch z), fun a' za => ?_⟩
      cases za
      refine ⟨_, hT.1.oa hs, _, rfl, fun c2 => ?_, fun c2 => ⟨_, rfl, 0, 0, hk, _, hT.1.o, ?_⟩⟩
      · have hd : ¬ sg_hd g s := by
          rcases hT.1.b hs with ⟨q1, -⟩ | ⟨-, q2⟩
          · rw [q1] at c2; exact absurd c2 (by decide)
          · exact q2
        have e := sg_hl_no hT.1.I hs hd
        rw [nI_1]
        exact ih _ μ1 (by omega) (by rw [e]; exact hT) hfr
      · have hd : sg_hd g s := by
          rcases hT.1.b hs with ⟨-, q2⟩ | ⟨q1, -⟩
          · exact q2
          · exact absurd q1 c2
        have e := sg_hl_yes hT.1.I hs hd
        have hlt : (sg_sort [] (sg_hl g (gM g s))).length < 16 := by
          rw [sg_sort_len]
          have := sg_hl_lt hT.1.I hs
          simpa using this
        refine ct_putOnList hx hT (sg_lt_E hT.1.I hs (hc0 s hs)) (fun hin => ?_) hlt (fun μ2 hT2 hfr2 => ⟨rfl, ?_⟩)
        · rcases sg_sort_mem.mp hin with q | q
          · simp at q
          · obtain ⟨t, h1, h2, -, h4⟩ := sg_hl_mem hT.1.I q
            have e1 := sg_lt_S hT.1.I hs (hc0 s hs)
            have e2 := sg_lt_S hT.1.I h1 (hc0 t h1)
            rw [h4, e2] at e1
            rw [e1] at h2
            omega
        · rw [nI_1]
          refine ih _ μ2 (by omega) ?_ (hfr.trans hfr2)
          rw [e, sg_sort_app]
          exact hT2
    · have q' : ∀ s, s < gA g → gM g s ≠ a := fun s hs z => q ⟨s, hs, z⟩
      have e := sg_hl_none (g := g) q'
      refine ⟨none, hfn a (by omega) q', fun _ => ?_, fun _ z => nomatch z⟩
      rw [nI_1]
      exact ih _ μ1 (by omega) (by rw [e]; exact hT) hfr
/-- the list is empty now -/
theorem sc_clear (h : sc_T κ g X L μ) (hq : ∀ q, (μ q).isSome = true → q ≠ xh X → μ' q = μ q) (ho : μ' (xh X) = some (sc_obj g X [])) : sc_T κ g X [] μ' := by
  have hne := h.2.hl
  refine h.clear ?_
  obtain ⟨ρ, r1, r2, r3, r4, r5, r6⟩ := h.2
  obtain ⟨h1, h2, h3, h4, h5, h6, h7, h8⟩ := h.1.2
  have kp : ∀ {a : Nat} {r : Nat × Nat} {e : va_E}, ρ a = r → r ≠ (1, 0) → μ a = some e → μ' a = some e := fun ha n1 he => by rw [hq _ (by rw [he]; rfl) (ro_ne ha r1 n1)]; exact he
  refine ⟨ho, ?_, ?_, ?_, fun s hs => kp (r5 s hs) (by simp) (h5 s hs), fun i hi => kp (r6 i hi).1 (by simp) (h6 i hi), fun i hi => ?_, fun i hi => ?_⟩
  · obtain ⟨f, hf, hf2⟩ := h2; exact ⟨f, kp r2 (by decide) hf, hf2⟩
  · obtain ⟨f, hf, hf2⟩ := h3; exact ⟨f, kp r3 (by decide) hf, hf2⟩
  · obtain ⟨f, hf, hf2⟩ := h4; exact ⟨f, kp r4 (by decide) hf, fun j hj => by simp at hj⟩
  · obtain ⟨f, hf, hf2⟩ := h7 i hi; exact ⟨f, kp (r6 i hi).2.1 (by simp) hf, hf2⟩
  · obtain ⟨f, hf, hf2⟩ := h8 i hi; exact ⟨f, kp (r6 i hi).2.2 (by simp) hf, hf2⟩
theorem ct_heads (htr : l.stackTraces = false) (h : sc_T κ g X L μ) (hR : ∀ μ', sc_T κ g X (sg_sort [] (sg_hl g 256)) μ' → sc_fr X μ μ' → Rt (some (.int (nI (sg_hl g 256).length))) μ') : sp_m l κ yE_heads wE_heads 1 22 mc ms [.ref (xh X)] μ Rt Xt := by
  obtain ⟨f, hf, hfv, hfn⟩ := h.1.og
  have hgh : xg X ≠ xh X := by
    obtain ⟨ρ, r1, r2, -⟩ := h.2
    exact ro_ne r2 r1 (by decide)
  refine opE_heads htr (fun x hx hh => bkE_heads_0 hh z2 ⟨_, h.1.o, Nat.le_of_ble_eq_true rfl, fun μ1 e1 => ?_⟩)
  subst e1
  refine ⟨_, va_up_self _ _ _, some (xg X), rfl, _, rfl, _, _, (va_up_ne _ _ hgh).trans hf, ?_⟩
  have hT : sc_T κ g X (sg_sort [] (sg_hl g 0)) (va_up μ (xh X) (some (sc_obj g X []))) := by
    refine sc_clear h (fun q _ q1 => va_up_ne _ _ q1) (va_up_self _ _ _)
  exact lp_heads hx hh z2 (fun s hs => h.1.c0 hs) hR 256 0 _ rfl hT (fun q q1 q2 => va_up_ne _ _ q1)
theorem ct_takeList (htr : l.stackTraces = false) (h : sc_T κ g X L μ) (hr : 1 ≤ mc ∧ L.length ≤ ms) (hR : ∀ (q : Nat) (f : Nat → Int32) (μ' : sp_M), μ q = none → (∀ j, j < L.length → f j = nI (L.getD j 0)) → μ' q = some (sp_ia κ L.length f) → (∀ z, z ≠ q → z ≠ xh X → μ' z = μ z) → sc_T κ g X [] μ' → Rt (some (va_rf (some q))) μ') : sp_m l κ yE_takeList wE_takeList 2 48 mc ms [.ref (xh X)] μ Rt Xt := by
  obtain ⟨f, hf, hfv⟩ := h.1.ol
  have h16 := h.1.l.1
  refine opE_takeList htr (fun x hx hh => bkE_takeList_0 hh z2 ⟨_, h.1.o, some (xl X), rfl, _, rfl, mc, ms, by omega, ct_copyOf hx hf (by omega) (by omega) hr (fun q f' hz hf' => ⟨_, rfl, ?_⟩)⟩)
  have hqh : xh X ≠ q := fun e => by have := h.1.o; rw [e, hz] at this; cases this
  refine ⟨_, (va_up_ne _ _ hqh).trans h.1.o, Nat.le_of_ble_eq_true rfl, fun μ1 e1 => ?_⟩
  subst e1
  refine hR q f' _ hz (fun j hj => ?_) ?_ (fun z z1 z2 => ?_) (sc_clear h (fun z z1 z2 => ?_) (va_up_self _ _ _))
  · rw [hf' j hj, if_pos (by omega)]
    exact hfv j hj
  · rw [va_up_ne _ _ (Ne.symm hqh), va_up_self]
  · rw [va_up_ne _ _ z2, va_up_ne _ _ z1]
  · rw [va_up_ne _ _ z2, va_up_ne]
    intro e
    rw [e, hz] at z1
    cases z1
end
