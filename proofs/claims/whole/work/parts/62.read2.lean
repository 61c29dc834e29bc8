/-! the class's readers: places, agents, ancestors -/
section
variable {l : Launch} {κ : sp_K} {g : sg_G} {X : sc_X} {L : List Nat} {μ : sp_M} {mc ms : Nat} {Rt : Option Value → sp_M → Prop} {Xt : String → sp_M → Prop}
abbrev xNo : String := "java/util/NoSuchElementException"
theorem z2 {a b : Nat} : 0 ≤ a ∧ 0 ≤ b := ⟨Nat.zero_le _, Nat.zero_le _⟩
theorem ct_isAgentName (htr : l.stackTraces = false) {v : Int32} (h1 : ∀ a, a < 256 → v = nI a → Rt (some (.int 1)) μ) (h0 : (∀ a, a < 256 → v ≠ nI a) → Rt (some (.int 0)) μ) : sp_m l κ yE_isAgentName wE_isAgentName 0 0 mc ms [.int v] μ Rt Xt := by
  refine opE_isAgentName htr (fun x hx hh => bkE_isAgentName_0 hh z2 ⟨fun c => h0 (fun a ha e => ?_), fun c => ⟨fun c2 => h0 (fun a ha e => ?_), fun c2 => ?_⟩⟩)
  · subst e
    exact nI_pos (by omega) c
  · subst e
    exact nI_ge (b := 256) ha (by omega) c2
  · rcases pk_ix v (n := 256) (by omega) with q | q | ⟨j, hj, q⟩
    · exact absurd q c
    · exact absurd q c2
    · exact h1 j hj q
theorem ct_highestBelow (htr : l.stackTraces = false) {v : Int32} (hR : Rt (some (.int ((if v < 0 then 0 else v) - 1))) μ) : sp_m l κ yE_highestBelow wE_highestBelow 1 22 mc ms [.int v] μ Rt Xt :=
  opE_highestBelow htr (fun x hx hh => bkE_highestBelow_0 hh z2 hR)
theorem sc_place (h : sc_R κ g X L μ) (v : Int32) : (∃ e i, e < gE g ∧ i < xm X ∧ xf X i ≤ e ∧ e < xf X (i + 1) ∧ v = nI e) ∨ ∀ e, e < gE g → v ≠ nI e := by
  by_cases q : ∃ e, e < gE g ∧ v = nI e
  · obtain ⟨e, he, hv⟩ := q
    obtain ⟨i, hi, h1, h2⟩ := h.S.span he
    exact Or.inl ⟨e, i, he, hi, h1, h2, hv⟩
  · exact Or.inr (fun e he hv => q ⟨e, he, hv⟩)
theorem ct_spanOf (htr : l.stackTraces = false) (h : sc_R κ g X L μ) {i e : Nat} (hi : i < xm X) (h1 : xf X i ≤ e) (h2 : e < xf X (i + 1)) (hR : Rt (some (va_rf (some (xs X i)))) μ) : sp_m l κ yE_spanOf wE_spanOf 6 90 mc ms [.ref (xh X), .int (nI e)] μ Rt Xt := by
  obtain ⟨q1, q2, q3, q4⟩ := sc_last h hi
  obtain ⟨f, hf, hfv, hfn⟩ := h.op
  have he : e < 8192 := by omega
  refine opE_spanOf htr (fun x hx hh => bkE_spanOf_0 hh z2 ⟨fun c => absurd c (nI_pos (by omega)), fun c => ⟨fun c2 => absurd c2 (nI_ge (b := 8192) he (by omega)), fun c2 => ⟨_, h.o, some (xp X), rfl, _, rfl, _, _, hf, e, rfl, he, _, hfv i hi e h1 h2, fun z => (nomatch z), fun a ha => ⟨e, rfl, he, _, hfv i hi e h1 h2, hR⟩⟩⟩⟩)
theorem ct_spanOf_bad (htr : l.stackTraces = false) (h : sc_R κ g X L μ) {v : Int32} (hv : ∀ e, e < gE g → v ≠ nI e) (hr : 1 ≤ mc ∧ 6 ≤ ms) (hX : Xt xNo μ) : sp_m l κ yE_spanOf wE_spanOf 6 90 mc ms [.ref (xh X), .int v] μ Rt Xt := by
  obtain ⟨f, hf, hfv, hfn⟩ := h.op
  have hr' : 0 + 1 ≤ mc ∧ 0 + 6 ≤ ms := by omega
  refine opE_spanOf htr (fun x hx hh => bkE_spanOf_0 hh z2 ⟨fun c => ⟨hr', hX⟩, fun c => ⟨fun c2 => ⟨hr', hX⟩, fun c2 => ?_⟩⟩)
  rcases pk_ix v (n := 8192) (by omega) with q | q | ⟨j, hj, rfl⟩
  · exact absurd q c
  · exact absurd q c2
  · have hn : f j = none := hfn j (Nat.le_of_not_lt fun q => hv j q rfl) hj
    exact ⟨_, h.o, some (xp X), rfl, _, rfl, _, _, hf, j, rfl, hj, none, hn, fun _ => ⟨hr', hX⟩, fun a ha => nomatch ha⟩
/-- find's loop, from the agent's span i down -/
theorem lp_find {x : sp_X} {k n : Nat} {v1 v2 : Int32} (hx : x.2.1.stackTraces = false) (hh : cxE_find κ x mc ms) (hk : k ≤ mc ∧ n ≤ ms) (h : sc_R κ g X L μ) {s : Nat} (hs : s < gA g)
    (hok : ∀ e, e < gE g → gS g e = s → v2 = nI (gN g e) → Rt (some (.int (nI e))) μ) :
    ∀ (d i : Nat), i < d → i < xm X → gS g (xf X i) = s → ((∀ e, e < xf X (i + 1) → gS g e = s → v2 ≠ nI (gN g e)) → (k + 1 ≤ mc ∧ n + 6 ≤ ms) ∧ Xt xNo μ) → sp_w κ x (sp_F κ x Rt Xt mc ms) k n 34 [(0, .ref (xh X)), (1, .int v1), (2, .int v2), (3, va_rf (some (xs X i)))] [] μ := by
  intro d
  induction d with
  | zero => intro i hi; omega
  | succ d ih =>
    intro i hid hi his hbad
    obtain ⟨q1, q2, q3, q4⟩ := sc_last h hi
    have hn1 := h.S.n hi q1 q2
    refine bkE_find_34 hh hk ⟨fun z => (nomatch z), fun a ha => ?_⟩
    cases ha
    refine ⟨0, 0, hk, _, h.os hi, ct_hasNumber hx h hi (fun n' e hn' hb1 hb2 => ?_) (fun hno => ?_)⟩
    · refine ⟨_, rfl, fun c => absurd c (by decide), fun _ => ⟨0, 0, hk, _, h.os hi, ct_placeOfNumber_raw hx (h.os hi) ⟨_, rfl, ?_⟩⟩⟩
      have he1 : xf X i ≤ xf X i + (n' - gN g (xf X i)) := by omega
      have he2 : xf X i + (n' - gN g (xf X i)) < xf X (i + 1) := by omega
      have hne := h.S.n hi he1 he2
      rw [e, sn_asub (d := xf X i + (n' - gN g (xf X i))) (by omega)]
      refine hok _ (by omega) (by rw [h.S.s hi he1 he2]; exact his) ?_
      rw [e, hne]
      congr 1
      omega
    · have hmine : ∀ e, xf X i ≤ e → e < xf X (i + 1) → v2 ≠ nI (gN g e) := by
        intro e h1 h2 hv
        have hne := h.S.n hi h1 h2
        have := h.I.nle (e := e) (by omega)
        exact hno _ hv (by omega) (by omega)
      refine ⟨_, rfl, fun _ => ?_, fun c => absurd rfl c⟩
      cases hv : xv X i with
      | none =>
        refine ⟨_, h.os hi, none, by show some (va_rf ((xv X i).map (xs X))) = _; rw [hv]; rfl, ?_⟩
        refine bkE_find_34 hh hk ⟨fun _ => hbad (fun e h1 h2 => ?_), fun a ha => nomatch ha⟩
        by_cases hin : xf X i ≤ e
        · exact hmine e hin h1
        · obtain ⟨j, hj, h3, h4⟩ := h.S.span (f := e) (by omega)
          have hji : j < i := by
            rcases Nat.lt_or_ge j i with q | q
            · exact q
            · have := sg_mono h.S.2.2.1 q (Nat.le_of_lt hj)
              omega
          obtain ⟨k', hk', -⟩ := h.v2 hi hji (by rw [his, ← h2, h.S.s hj h3 h4])
          rw [hv] at hk'
          exact nomatch hk'
      | some j =>
        obtain ⟨hji, hjs⟩ := h.v1 hi hv
        refine ⟨_, h.os hi, some (xs X j), by show some (va_rf ((xv X i).map (xs X))) = _; rw [hv]; rfl, ?_⟩
        refine ih j (by omega) (by omega) (by rw [hjs]; exact his) (fun hno2 => hbad (fun e h1 h2 => ?_))
        by_cases hin : xf X i ≤ e
        · exact hmine e hin h1
        · by_cases hlo : e < xf X (j + 1)
          · exact hno2 e hlo h2
          · obtain ⟨j', hj', h3, h4⟩ := h.S.span (f := e) (by omega)
            have hji' : j' < i := by
              rcases Nat.lt_or_ge j' i with q | q
              · exact q
              · have := sg_mono h.S.2.2.1 q (Nat.le_of_lt hj')
                omega
            obtain ⟨k', hk', hjk⟩ := h.v2 hi hji' (by rw [his, ← h2, h.S.s hj' h3 h4])
            rw [hv] at hk'
            cases hk'
            have := sg_mono h.S.2.2.1 (i := j' + 1) (j := j + 1) (by omega) (by omega)
            omega
theorem ct_find (htr : l.stackTraces = false) (h : sc_R κ g X L μ) {v1 v2 : Int32} (hok : ∀ s k, s < gA g → k < gC g s → v1 = nI (gM g s) → v2 = nI k → Rt (some (.int (nI (gT g s k)))) μ) (hbad : (∀ s k, s < gA g → k < gC g s → v1 = nI (gM g s) → v2 ≠ nI k) → (1 ≤ mc ∧ 6 ≤ ms) ∧ Xt xNo μ) : sp_m l κ yE_find wE_find 6 90 mc ms [.ref (xh X), .int v1, .int v2] μ Rt Xt := by
  have hb2 : (∀ s k, s < gA g → k < gC g s → v1 = nI (gM g s) → v2 ≠ nI k) → (0 + 0 + 1 ≤ mc ∧ 0 + 0 + 6 ≤ ms) ∧ Xt xNo μ := fun q => ⟨by have := (hbad q).1; omega, (hbad q).2⟩
  obtain ⟨f, hf, hfv, hfn⟩ := h.og
  refine opE_find htr (fun x hx hh => bkE_find_0 hh z2 ⟨0, 0, z2, ct_isAgentName hx (fun a ha e => ?_) (fun hno => ?_)⟩)
  · refine ⟨_, rfl, fun c => absurd c (by decide), fun _ => ⟨_, h.o, some (xg X), rfl, _, rfl, _, _, hf, a, e, ha, ?_⟩⟩
    by_cases q : ∃ s, s < gA g ∧ gM g s = a
    · obtain ⟨s, hs, rfl⟩ := q
      refine ⟨_, hfv s hs, fun z => (nomatch z), fun a' ha' => ⟨_, e, ha, _, hfv s hs, _, rfl, _, h.oa hs, some (xs X (xn X s)), rfl, ?_⟩⟩
      obtain ⟨w1, w2, w3⟩ := h.nw hs
      refine lp_find hx hh z2 h hs (fun e' he' hes hv => ?_) (xn X s + 1) (xn X s) (by omega) w1 w2 (fun hno => hb2 (fun s' k' hs' hk' hv1 hv2 => ?_))
      · have hn := h.I.n he'
        have := h.I.tn he'
        rw [hes] at hn this
        have r := hok s (gN g e') hs hn e hv
        rw [this] at r
        exact r
      · have hss : s' = s := by
          refine h.I.nm hs' hs ?_
          have b1 := h.I.nl hs'
          have b2 := h.I.nl hs
          exact (nI_eq (by omega) (by omega)).mp (hv1.symm.trans e)
        subst hss
        have ht := h.I.t hs' hk'
        have hts := h.I.ts hs' hk'
        have htk := h.I.tk hs' hk'
        refine hno (gT g s' k') ?_ hts (by rw [htk]; exact hv2)
        obtain ⟨j, hj, h3, h4⟩ := h.S.span ht
        rcases Nat.lt_or_ge (xn X s') j with q | q
        · exact absurd (by rw [← h.S.s hj h3 h4]; exact hts) (w3 j q hj)
        · have := sg_mono h.S.2.2.1 (i := j + 1) (j := xn X s' + 1) (by omega) (by omega)
          omega
    · have hn : f a = none := hfn a ha (fun s hs z => q ⟨s, hs, z⟩)
      refine ⟨none, hn, fun _ => hb2 (fun s k hs hk hv1 hv2 => q ⟨s, hs, ?_⟩), fun _ z => nomatch z⟩
      have b1 := h.I.nl hs
      exact (nI_eq (by omega) (by omega)).mp (hv1.symm.trans e)
  · refine ⟨_, rfl, fun _ => hb2 (fun s k hs hk hv1 hv2 => hno _ (h.I.nl hs) hv1), fun c => absurd rfl c⟩
theorem ct_isAncestor (htr : l.stackTraces = false) (h : sc_R κ g X L μ) {e1 e2 : Nat} (he1 : e1 < gE g) (he2 : e2 < gE g) (h1 : e1 ≠ e2 → sg_in g e1 e2 → Rt (some (.int 1)) μ) (h0 : ¬ (e1 ≠ e2 ∧ sg_in g e1 e2) → Rt (some (.int 0)) μ) : sp_m l κ yE_isAncestor wE_isAncestor 7 111 mc ms [.ref (xh X), .int (nI e1), .int (nI e2)] μ Rt Xt := by
  obtain ⟨i1, hi1, a1, a2⟩ := h.S.span he1
  obtain ⟨i2, hi2, b1, b2⟩ := h.S.span he2
  have hE := h.I.e
  have hsl := h.I.s (h.S.lt hi1)
  have h16 := h.I.a
  have hn1 := h.I.nle he1
  have hp2 := h.I.ple (x := gS g e1) he2
  refine opE_isAncestor htr (fun x hx hh => bkE_isAncestor_0 hh z2 ⟨0, 0, z2, _, h.o, ct_spanOf hx h hi1 a1 a2 ⟨_, rfl, 0, 0, z2, _, h.o, ct_spanOf hx h hi2 b1 b2 ⟨_, rfl, fun c => ?_, fun c => ?_⟩⟩⟩)
  · exact h0 (fun q => q.1 ((nI_eq (by omega) (by omega)).mp c))
  · have hne : e1 ≠ e2 := fun q => c (by rw [q])
    refine ⟨_, rfl, _, h.os hi1, some (xa X (gS g (xf X i1))), rfl, _, rfl, _, h.oa hsl, _, rfl, _, rfl, 0, 0, z2, _, h.os hi2, ct_seenAt hx h hi2 b1 b2 (by omega) ⟨_, rfl, 0, 0, z2, _, h.os hi1, ct_numberAt hx h hi1 a1 a2 ⟨_, rfl, fun c2 => ?_, fun c2 => ?_⟩⟩⟩
    · rw [← h.S.s hi1 a1 a2, nI_leI (by omega) (by omega)] at c2
      refine h0 (fun q => ?_)
      have q2 : gN g e1 < gP g e2 (gS g e1) := q.2
      omega
    · rw [← h.S.s hi1 a1 a2, nI_leI (by omega) (by omega)] at c2
      refine h1 hne ?_
      show gN g e1 < gP g e2 (gS g e1)
      omega
theorem ct_isAncestor_bad (htr : l.stackTraces = false) (h : sc_R κ g X L μ) {v1 v2 : Int32} (hv : (∀ e, e < gE g → v1 ≠ nI e) ∨ ∀ e, e < gE g → v2 ≠ nI e) (hr : 1 ≤ mc ∧ 6 ≤ ms) (hX : Xt xNo μ) : sp_m l κ yE_isAncestor wE_isAncestor 7 111 mc ms [.ref (xh X), .int v1, .int v2] μ Rt Xt := by
  refine opE_isAncestor htr (fun x hx hh => bkE_isAncestor_0 hh z2 ?_)
  rcases sc_place h v1 with ⟨e, i, he, hi, a1, a2, rfl⟩ | hb
  · have hv2 : ∀ e, e < gE g → v2 ≠ nI e := hv.resolve_left (fun q => q e he rfl)
    exact ⟨0, 0, z2, _, h.o, ct_spanOf hx h hi a1 a2 ⟨_, rfl, 1, 6, by omega, _, h.o, ct_spanOf_bad hx h hv2 ⟨Nat.le_refl _, Nat.le_refl _⟩ hX⟩⟩
  · exact ⟨1, 6, by omega, _, h.o, ct_spanOf_bad hx h hb ⟨Nat.le_refl _, Nat.le_refl _⟩ hX⟩
end
