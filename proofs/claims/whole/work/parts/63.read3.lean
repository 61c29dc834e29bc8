/-! the class's readers: the list, related, place, events, id, parentOf -/
section
variable {l : Launch} {κ : sp_K} {g : sg_G} {X : sc_X} {L : List Nat} {μ : sp_M} {mc ms : Nat} {Rt : Option Value → sp_M → Prop} {Xt : String → sp_M → Prop}
abbrev xIA : String := "java/lang/IllegalArgumentException"
abbrev xUO : String := "java/lang/UnsupportedOperationException"
abbrev xIS : String := "java/lang/IllegalStateException"
theorem sg_getD_mem {l : List Nat} {j : Nat} (h : j < l.length) : l.getD j 0 ∈ l := by
  have e : l.getD j 0 = l[j] := by simp [List.getD, h]
  rw [e]
  exact List.getElem_mem _
theorem sg_mem_getD {l : List Nat} {e : Nat} (h : e ∈ l) : ∃ j, j < l.length ∧ l.getD j 0 = e := by
  obtain ⟨j, hj, rfl⟩ := List.getElem_of_mem h
  exact ⟨j, hj, by simp [List.getD, hj]⟩
theorem lp_isListed {x : sp_X} {k n : Nat} {v : Int32} (hh : cxE_isListed κ x mc ms) (hk : k ≤ mc ∧ n ≤ ms) (h : sc_R κ g X L μ)
    (h1 : ∀ e, e ∈ L → v = nI e → Rt (some (.int 1)) μ) (h0 : (∀ e, e ∈ L → v ≠ nI e) → Rt (some (.int 0)) μ) :
    ∀ (d j : Nat), L.length = j + d → (∀ i, i < j → v ≠ nI (L.getD i 0)) → sp_w κ x (sp_F κ x Rt Xt mc ms) k n 2 [(0, .ref (xh X)), (1, .int v), (2, .int (nI j))] [] μ := by
  have h16 := h.l.1
  obtain ⟨f, hf, hfv⟩ := h.ol
  intro d
  induction d with
  | zero =>
    intro j hj hno
    refine bkE_isListed_2 hh hk ⟨_, h.o, _, rfl, fun c => h0 (fun e he hv => ?_), fun c => absurd (nI_le (by omega) (by omega)) c⟩
    obtain ⟨i, hi, rfl⟩ := sg_mem_getD he
    exact hno i (by omega) hv
  | succ d ih =>
    intro j hj hno
    refine bkE_isListed_2 hh hk ⟨_, h.o, _, rfl, fun c => absurd c (nI_ge (by omega) (by omega)), fun c => ⟨some (xl X), rfl, _, rfl, _, _, hf, j, rfl, by omega, fun c2 => ?_, fun c2 => ?_⟩⟩
    · rw [nI_1]
      refine ih (j + 1) (by omega) (fun i hi hv => ?_)
      by_cases hij : i = j
      · subst hij
        rw [hfv i (by omega)] at c2
        exact c2 hv.symm
      · exact hno i (by omega) hv
    · rw [hfv j (by omega)] at c2
      exact h1 _ (sg_getD_mem (by omega)) c2.symm
theorem ct_isListed (htr : l.stackTraces = false) (h : sc_R κ g X L μ) {v : Int32} (h1 : ∀ e, e ∈ L → v = nI e → Rt (some (.int 1)) μ) (h0 : (∀ e, e ∈ L → v ≠ nI e) → Rt (some (.int 0)) μ) : sp_m l κ yE_isListed wE_isListed 0 0 mc ms [.ref (xh X), .int v] μ Rt Xt :=
  opE_isListed htr (fun x hx hh => bkE_isListed_0 hh z2 (lp_isListed hh z2 h h1 h0 L.length 0 (by omega) (fun i hi => by omega)))
/-- how two events are related -/
def sg_rel (g : sg_G) (e f : Nat) : Nat := if e = f then 0 else if gN g e < gP g f (gS g e) then 1 else if gN g f < gP g e (gS g f) then 2 else 3
theorem ct_related (htr : l.stackTraces = false) (h : sc_R κ g X L μ) {e1 e2 : Nat} (he1 : e1 < gE g) (he2 : e2 < gE g) (hR : Rt (some (.int (nI (sg_rel g e1 e2)))) μ) : sp_m l κ yE_related wE_related 8 135 mc ms [.ref (xh X), .int (nI e1), .int (nI e2)] μ Rt Xt := by
  have hE := h.I.e
  refine opE_related htr (fun x hx hh => bkE_related_0 hh z2 ⟨0, 0, z2, _, h.o, ct_isAncestor hx h he1 he2 (fun hne hin => ⟨_, rfl, fun c => absurd c (by decide), fun _ => ?_⟩) (fun hn1 => ⟨_, rfl, fun _ => ⟨0, 0, z2, _, h.o, ct_isAncestor hx h he2 he1 (fun hne hin => ⟨_, rfl, fun c => absurd c (by decide), fun _ => ?_⟩) (fun hn2 => ⟨_, rfl, fun _ => ⟨fun c => ?_, fun c => ?_⟩, fun c => absurd rfl c⟩)⟩, fun c => absurd rfl c⟩)⟩)
  · have e : sg_rel g e1 e2 = 1 := by
      unfold sg_rel
      rw [if_neg hne, if_pos (show gN g e1 < gP g e2 (gS g e1) from hin)]
    rw [e] at hR
    exact hR
  · have e : sg_rel g e1 e2 = 2 := by
      unfold sg_rel
      rw [if_neg (Ne.symm hne), if_neg (show ¬ gN g e1 < gP g e2 (gS g e1) from fun q => hn1 ⟨Ne.symm hne, q⟩), if_pos (show gN g e2 < gP g e1 (gS g e2) from hin)]
    rw [e] at hR
    exact hR
  · have hne : e1 ≠ e2 := fun q => c (by rw [q])
    have e : sg_rel g e1 e2 = 3 := by
      unfold sg_rel
      rw [if_neg hne, if_neg (show ¬ gN g e1 < gP g e2 (gS g e1) from fun q => hn1 ⟨hne, q⟩), if_neg (show ¬ gN g e2 < gP g e1 (gS g e2) from fun q => hn2 ⟨Ne.symm hne, q⟩)]
    rw [e] at hR
    exact hR
  · have hne : e1 = e2 := (nI_eq (by omega) (by omega)).mp c
    have e : sg_rel g e1 e2 = 0 := by
      unfold sg_rel
      rw [if_pos hne]
    rw [e] at hR
    exact hR
theorem ct_related_bad (htr : l.stackTraces = false) (h : sc_R κ g X L μ) {v1 v2 : Int32} (hv : (∀ e, e < gE g → v1 ≠ nI e) ∨ ∀ e, e < gE g → v2 ≠ nI e) (hr : 1 ≤ mc ∧ 6 ≤ ms) (hX : Xt xNo μ) : sp_m l κ yE_related wE_related 8 135 mc ms [.ref (xh X), .int v1, .int v2] μ Rt Xt :=
  opE_related htr (fun x hx hh => bkE_related_0 hh z2 ⟨1, 6, by omega, _, h.o, ct_isAncestor_bad hx h hv ⟨Nat.le_refl _, Nat.le_refl _⟩ hX⟩)
theorem ct_place (htr : l.stackTraces = false) (h : sc_R κ g X L μ) {v1 v2 : Int32} (hok : ∀ s k, s < gA g → k < gC g s → v1 = nI (gM g s) → v2 = nI k → Rt (some (.int (nI (gT g s k)))) μ) (hbad : (∀ s k, s < gA g → k < gC g s → v1 = nI (gM g s) → v2 ≠ nI k) → (1 ≤ mc ∧ 6 ≤ ms) ∧ Xt xNo μ) : sp_m l κ yE_place wE_place 7 113 mc ms [.ref (xh X), .int v1, .int v2] μ Rt Xt :=
  opE_place htr (fun x hx hh => bkE_place_0 hh z2 ⟨mc, ms, by omega, _, h.o, ct_find hx h (fun s k hs hk e1 e2 => ⟨_, rfl, hok s k hs hk e1 e2⟩) hbad⟩)
theorem ct_events (htr : l.stackTraces = false) (h : sc_R κ g X L μ) {v : Int32} (hm : v = -1 → Rt (some (.int (nI (gE g)))) μ) (hs : ∀ s, s < gA g → v = nI (gM g s) → Rt (some (.int (nI (gC g s)))) μ) (h0 : ∀ a, a < 256 → v = nI a → (∀ s, s < gA g → gM g s ≠ a) → Rt (some (.int 0)) μ) (hX : v ≠ -1 → (∀ a, a < 256 → v ≠ nI a) → (1 ≤ mc ∧ 6 ≤ ms) ∧ Xt xIA μ) : sp_m l κ yE_events wE_events 6 90 mc ms [.ref (xh X), .int v] μ Rt Xt := by
  obtain ⟨f, hf, hfv, hfn⟩ := h.og
  refine opE_events htr (fun x hx hh => bkE_events_0 hh z2 ⟨fun c => ⟨0, 0, z2, ct_isAgentName hx (fun a ha e => ⟨_, rfl, fun _ => ⟨_, h.o, some (xg X), rfl, _, rfl, _, _, hf, a, e, ha, ?_⟩, fun c => absurd c (by decide)⟩) (fun hno => ⟨_, rfl, fun c => absurd rfl c, fun _ => ?_⟩)⟩, fun c => ⟨_, h.o, _, rfl, hm c⟩⟩)
  · by_cases q : ∃ s, s < gA g ∧ gM g s = a
    · obtain ⟨s, hs', rfl⟩ := q
      exact ⟨_, hfv s hs', fun z => (nomatch z), fun a' ha' => ⟨_, e, ha, _, hfv s hs', _, rfl, _, h.oa hs', _, rfl, hs s hs' e⟩⟩
    · have q' : ∀ s, s < gA g → gM g s ≠ a := fun s hs z => q ⟨s, hs, z⟩
      exact ⟨none, hfn a ha q', fun _ => h0 a ha e q', fun _ z => nomatch z⟩
  · obtain ⟨r1, r2⟩ := hX c hno
    exact ⟨by omega, r2⟩
theorem ct_id (htr : l.stackTraces = false) (h : sc_R κ g X L μ) {e : Nat} (he : e < gE g) (hR : Rt (some (.long ((nI (gM g (gS g e))).toInt64 <<< ((32 : Int32).toInt64 &&& 63) + (nI (gN g e)).toInt64))) μ) : sp_m l κ yE_id wE_id 7 111 mc ms [.ref (xh X), .int (nI e)] μ Rt Xt := by
  obtain ⟨i, hi, a1, a2⟩ := h.S.span he
  have hsl := h.I.s (h.S.lt hi)
  refine opE_id htr (fun x hx hh => bkE_id_0 hh z2 ⟨0, 0, z2, _, h.o, ct_spanOf hx h hi a1 a2 ⟨_, rfl, _, rfl, _, h.os hi, some (xa X (gS g (xf X i))), rfl, _, rfl, _, h.oa hsl, _, rfl, 0, 0, z2, ct_numberAt hx h hi a1 a2 ⟨_, rfl, ?_⟩⟩⟩)
  rw [← h.S.s hi a1 a2]
  exact hR
theorem ct_id_bad (htr : l.stackTraces = false) (h : sc_R κ g X L μ) {v : Int32} (hv : ∀ e, e < gE g → v ≠ nI e) (hr : 1 ≤ mc ∧ 6 ≤ ms) (hX : Xt xNo μ) : sp_m l κ yE_id wE_id 7 111 mc ms [.ref (xh X), .int v] μ Rt Xt :=
  opE_id htr (fun x hx hh => bkE_id_0 hh z2 ⟨1, 6, by omega, _, h.o, ct_spanOf_bad hx h hv ⟨Nat.le_refl _, Nat.le_refl _⟩ hX⟩)
/-- parentOf's end: isFirst and count are known -/
theorem lp_parentOf {x : sp_X} {k n : Nat} {e i : Nat} {v2 : Int32} (hh : cxE_parentOf κ x mc ms) (hk : k ≤ mc ∧ n ≤ ms) (h : sc_R κ g X L μ) (he : e < gE g) (hi : i < xm X) (a1 : xf X i ≤ e) (a2 : e < xf X (i + 1))
    (hm : v2 = -1 → Rt (some (.int (nI (gR g e).length))) μ) (hok : ∀ j, j < (gR g e).length → v2 = nI j → Rt (some (.int (nI ((gR g e).getD j 0)))) μ) (hbad : v2 ≠ -1 → (∀ j, j < (gR g e).length → v2 ≠ nI j) → (k + 1 ≤ mc ∧ n + 6 ≤ ms) ∧ Xt xNo μ) (w : Int32) (hw : (w = 1 ∧ e = xf X i) ∨ (w = 0 ∧ e ≠ xf X i)) :
    sp_w κ x (sp_F κ x Rt Xt mc ms) k n 19 [(0, .ref (xh X)), (1, .int (nI e)), (2, .int v2), (3, .ref (xs X i))] [.int w] μ := by
  have hlen := h.I.rle he
  have hE := h.I.e
  have key : ∀ (c : Int32), c = nI (gR g e).length → sp_w κ x (sp_F κ x Rt Xt mc ms) k n 35 [(0, .ref (xh X)), (1, .int (nI e)), (2, .int v2), (3, .ref (xs X i)), (4, .int w)] [.int c] μ := by
    intro c hc
    subst hc
    have nb : ∀ j, v2 = nI j → j < (gR g e).length → v2 ≠ -1 := by
      intro j hj hjl hq
      rw [hj] at hq
      exact nI_pos (n := j) (by omega) (by rw [hq]; decide)
    refine bkE_parentOf_35 hh hk ⟨fun c1 => ⟨fun c2 => ?_, fun c2 => ⟨fun c3 => ?_, fun c3 => ?_⟩⟩, fun c1 => hm c1⟩
    · refine hbad c1 (fun j hj hq => ?_)
      rw [hq] at c2
      exact nI_pos (by omega) c2
    · obtain ⟨j, hj31, rfl⟩ := nI_of c2
      rw [nI_ltI hj31 (by omega)] at c3
      refine ⟨fun c4 => ?_, fun c4 => ?_⟩
      · rcases hw with ⟨w1, -⟩ | ⟨-, hne⟩
        · rw [w1] at c4; exact absurd c4 (by decide)
        · have hr := (h.S.2.2.2 i hi e (by omega) a2).2.2.2
          have r := hok j c3 rfl
          rw [hr] at r c3
          have hj0 : j = 0 := by simp at c3; omega
          subst hj0
          have e1 : nI e - 1 = nI (e - 1) := by
            have := nI_pred (e - 1)
            rw [show e - 1 + 1 = e by omega] at this
            exact this
          rw [e1]
          exact r
      · rcases hw with ⟨-, heq⟩ | ⟨w1, -⟩
        · obtain ⟨f, hf, hfv⟩ := h.oq hi
          have r := hok j c3 rfl
          rw [heq] at r c3
          refine ⟨_, h.os hi, some (xq X i), rfl, _, rfl, _, _, hf, j, rfl, c3, ?_⟩
          rw [hfv j c3]
          exact r
        · exact absurd w1 c4
    · refine hbad c1 (fun j hj hq => c3 ?_)
      rw [hq]
      exact nI_lt hj (by omega)
  refine bkE_parentOf_19 hh hk ⟨fun c => key 1 ?_, fun c => ?_⟩
  · rcases hw with ⟨w1, -⟩ | ⟨-, hne⟩
    · rw [w1] at c; exact absurd c (by decide)
    · have hr := (h.S.2.2.2 i hi e (by omega) a2).2.2.2
      rw [hr]
      rfl
  · rcases hw with ⟨-, heq⟩ | ⟨w1, -⟩
    · obtain ⟨f, hf, hfv⟩ := h.oq hi
      exact ⟨_, h.os hi, some (xq X i), rfl, _, rfl, _, _, hf, key _ (by rw [heq])⟩
    · exact absurd w1 c
theorem ct_parentOf (htr : l.stackTraces = false) (h : sc_R κ g X L μ) {e : Nat} {v2 : Int32} (he : e < gE g) (hm : v2 = -1 → Rt (some (.int (nI (gR g e).length))) μ) (hok : ∀ j, j < (gR g e).length → v2 = nI j → Rt (some (.int (nI ((gR g e).getD j 0)))) μ) (hbad : v2 ≠ -1 → (∀ j, j < (gR g e).length → v2 ≠ nI j) → (1 ≤ mc ∧ 6 ≤ ms) ∧ Xt xNo μ) : sp_m l κ yE_parentOf wE_parentOf 7 111 mc ms [.ref (xh X), .int (nI e), .int v2] μ Rt Xt := by
  obtain ⟨i, hi, a1, a2⟩ := h.S.span he
  have hE := h.I.e
  have hF := h.S.lt hi
  have hb : v2 ≠ -1 → (∀ j, j < (gR g e).length → v2 ≠ nI j) → (0 + 0 + 1 ≤ mc ∧ 0 + 0 + 6 ≤ ms) ∧ Xt xNo μ := fun q1 q2 => ⟨by have := (hbad q1 q2).1; omega, (hbad q1 q2).2⟩
  refine opE_parentOf htr (fun x hx hh => bkE_parentOf_0 hh z2 ⟨0, 0, z2, _, h.o, ct_spanOf hx h hi a1 a2 ⟨_, rfl, _, rfl, _, h.os hi, _, rfl, fun c => ?_, fun c => ?_⟩⟩)
  · exact lp_parentOf hh z2 h he hi a1 a2 hm hok hb 0 (Or.inr ⟨rfl, fun q => c (by rw [q])⟩)
  · exact lp_parentOf hh z2 h he hi a1 a2 hm hok hb 1 (Or.inl ⟨rfl, (nI_eq (by omega) (by omega)).mp c⟩)
theorem ct_parentOf_bad (htr : l.stackTraces = false) (h : sc_R κ g X L μ) {v v2 : Int32} (hv : ∀ e, e < gE g → v ≠ nI e) (hr : 1 ≤ mc ∧ 6 ≤ ms) (hX : Xt xNo μ) : sp_m l κ yE_parentOf wE_parentOf 7 111 mc ms [.ref (xh X), .int v, .int v2] μ Rt Xt :=
  opE_parentOf htr (fun x hx hh => bkE_parentOf_0 hh z2 ⟨1, 6, by omega, _, h.o, ct_spanOf_bad hx h hv ⟨Nat.le_refl _, Nat.le_refl _⟩ hX⟩)
end
