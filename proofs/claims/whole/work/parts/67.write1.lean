/-! the class's writers: the list -/
section
theorem sp_upsame {μ : sp_M} {a : Nat} {e : va_E} (h : μ a = some e) : va_up μ a (some e) = μ := by
  funext q
  by_cases hq : q = a
  · subst hq; rw [va_up_self, h]
  · rw [va_up_ne _ _ hq]
theorem sp_upup {μ : sp_M} {a : Nat} {e e' : Option va_E} : va_up (va_up μ a e) a e' = va_up μ a e' := by
  funext q
  by_cases hq : q = a
  · subst hq; rw [va_up_self, va_up_self]
  · rw [va_up_ne _ _ hq, va_up_ne _ _ hq, va_up_ne _ _ hq]
theorem sg_ins_get {e : Nat} : ∀ {l : List Nat} {p : Nat}, p ≤ l.length → (∀ j, j < p → ¬ e < l.getD j 0) → (p < l.length → e < l.getD p 0) → ∀ j, (sg_ins e l).getD j 0 = if j < p then l.getD j 0 else if j = p then e else l.getD (j - 1) 0
  | [], p, hp, _, _, j => by
    have : p = 0 := by simpa using hp
    subst this
    unfold sg_ins
    cases j with
    | zero => simp
    | succ j => simp
  | q :: r, 0, _, _, h2, j => by
    have h3 : e < q := by simpa using h2 (by simp)
    unfold sg_ins
    rw [if_pos h3]
    cases j with
    | zero => simp
    | succ j => simp
  | q :: r, p + 1, hp, h1, h2, j => by
    have h3 : ¬ e < q := by simpa using h1 0 (by omega)
    unfold sg_ins
    rw [if_neg h3]
    cases j with
    | zero => simp
    | succ j =>
      have ih := sg_ins_get (e := e) (l := r) (p := p) (by simpa using hp) (fun j hj => by simpa using h1 (j + 1) (by omega)) (fun hl => by simpa using h2 (by simpa using hl)) j
      simp only [List.getD_cons_succ]
      rw [ih]
      by_cases q1 : j < p
      · rw [if_pos q1, if_pos (show j + 1 < p + 1 by omega)]
      · rw [if_neg q1, if_neg (show ¬ j + 1 < p + 1 by omega)]
        by_cases q2 : j = p
        · rw [if_pos q2, if_pos (show j + 1 = p + 1 by omega)]
        · rw [if_neg q2, if_neg (show ¬ j + 1 = p + 1 by omega)]
          have : j + 1 - 1 = (j - 1) + 1 := by omega
          rw [this, List.getD_cons_succ]
/-- the class's cells are apart: each address has a role of its own -/
def sc_D (g : sg_G) (X : sc_X) : Prop := ∃ ρ : Nat → Nat × Nat, ρ (xh X) = (1, 0) ∧ ρ (xg X) = (2, 0) ∧ ρ (xp X) = (3, 0) ∧ ρ (xl X) = (4, 0) ∧ (∀ s, s < gA g → ρ (xa X s) = (5, s)) ∧ (∀ i, i < xm X → ρ (xs X i) = (6, i) ∧ ρ (xq X i) = (7, i) ∧ ρ (xe X i) = (8, i))
/-- the class's own cells -/
def sc_own (g : sg_G) (X : sc_X) (q : Nat) : Prop := q = xh X ∨ q = xg X ∨ q = xp X ∨ q = xl X ∨ (∃ s, s < gA g ∧ q = xa X s) ∨ (∃ i, i < xm X ∧ (q = xs X i ∨ q = xq X i ∨ q = xe X i))
def sc_T (κ : sp_K) (g : sg_G) (X : sc_X) (L : List Nat) (μ : sp_M) : Prop := sc_R κ g X L μ ∧ sc_D g X
def sc_fr (X : sc_X) (μ μ' : sp_M) : Prop := ∀ q, q ≠ xh X → q ≠ xl X → μ' q = μ q
variable {l : Launch} {κ : sp_K} {g : sg_G} {X : sc_X} {L L' : List Nat} {μ μ' : sp_M} {mc ms : Nat} {Rt : Option Value → sp_M → Prop} {Xt : String → sp_M → Prop}
theorem ro_ne {ρ : Nat → Nat × Nat} {a b : Nat} {r r' : Nat × Nat} (h : ρ a = r) (h' : ρ b = r') (hn : r ≠ r') : a ≠ b := fun q => hn (by rw [← h, ← h', q])
theorem sc_D.hl (h : sc_D g X) : xh X ≠ xl X := by
  obtain ⟨ρ, h1, h2, h3, h4, h5, h6⟩ := h
  exact ro_ne h1 h4 (by decide)
/-- the list alone has changed -/
theorem sc_M.keep (hD : sc_D g X) (h : sc_M κ g X L μ) (hq : sc_fr X μ μ') (ho : μ' (xh X) = some (sc_obj g X L')) (hl : ∃ f, μ' (xl X) = some (sp_ia κ 16 f) ∧ ∀ j, j < L'.length → f j = nI (L'.getD j 0)) : sc_M κ g X L' μ' := by
  obtain ⟨ρ, r1, r2, r3, r4, r5, r6⟩ := hD
  obtain ⟨h1, h2, h3, h4, h5, h6, h7, h8⟩ := h
  have kp : ∀ {a : Nat} {r : Nat × Nat}, ρ a = r → r ≠ (1, 0) → r ≠ (4, 0) → μ' a = μ a := fun ha n1 n2 => hq _ (ro_ne ha r1 n1) (ro_ne ha r4 n2)
  refine ⟨ho, ?_, ?_, hl, fun s hs => ?_, fun i hi => ?_, fun i hi => ?_, fun i hi => ?_⟩
  · rw [kp r2 (by decide) (by decide)]; exact h2
  · rw [kp r3 (by decide) (by decide)]; exact h3
  · rw [kp (r5 s hs) (by simp) (by simp)]; exact h5 s hs
  · rw [kp (r6 i hi).1 (by simp) (by simp)]; exact h6 i hi
  · rw [kp (r6 i hi).2.1 (by simp) (by simp)]; exact h7 i hi
  · rw [kp (r6 i hi).2.2 (by simp) (by simp)]; exact h8 i hi
theorem lp_put {x : sp_X} {k n : Nat} {e : Nat} (hh : cxE_putOnList κ x mc ms) (hk : k ≤ mc ∧ n ≤ ms) (h : sc_T κ g X L μ) (he : e < gE g) (hlt : L.length < 16) (hR : ∀ μ', sc_M κ g X (sg_ins e L) μ' → sc_fr X μ μ' → Rt none μ') :
    ∀ (p : Nat) (f : Nat → Int32), p ≤ L.length → (∀ j, j < p → f j = nI (L.getD j 0)) → (∀ j, p ≤ j → j < L.length → f (j + 1) = nI (L.getD j 0) ∧ e < L.getD j 0) → sp_w κ x (sp_F κ x Rt Xt mc ms) k n 15 [(0, .ref (xh X)), (1, .int (nI e)), (2, .int (nI p))] [] (va_up μ (xl X) (some (sp_ia κ 16 f))) := by
  have hne := h.2.hl
  have hE := h.1.I.e
  have hLE := h.1.l.2.2
  have ob : ∀ e', va_up μ (xl X) (some e') (xh X) = some (sc_obj g X L) := fun e' => by rw [va_up_ne _ _ hne]; exact h.1.o
  intro p
  have fin : ∀ (p : Nat) (f : Nat → Int32), p ≤ L.length → (∀ j, j < p → f j = nI (L.getD j 0)) → (∀ j, p ≤ j → j < L.length → f (j + 1) = nI (L.getD j 0) ∧ e < L.getD j 0) → (0 < p → ¬ e < L.getD (p - 1) 0) → sp_w κ x (sp_F κ x Rt Xt mc ms) k n 51 [(0, .ref (xh X)), (1, .int (nI e)), (2, .int (nI p))] [] (va_up μ (xl X) (some (sp_ia κ 16 f))) := by
    intro p f hp h1 h2 h3
    refine bkE_putOnList_51 hh hk ⟨_, ob _, some (xl X), rfl, _, rfl, _, _, va_up_self _ _ _, p, rfl, by omega, fun μ1 e1 => ?_⟩
    subst e1
    refine ⟨_, (va_up_ne _ _ hne).trans (ob _), _, rfl, Nat.le_of_ble_eq_true rfl, fun μ2 e2 => ?_⟩
    subst e2
    have hlen : (sg_ins e L).length = L.length + 1 := sg_ins_len
    have hbelow : ∀ j, j < p → ¬ e < L.getD j 0 := by
      intro j hj
      have h3' := h3 (by omega)
      by_cases q : j = p - 1
      · rw [q]; exact h3'
      · have hs := h.1.l.2.1
        have e1 : L.getD j 0 = L[j]'(by omega) := by simp [List.getD, show j < L.length by omega]
        have e2 : L.getD (p - 1) 0 = L[p - 1]'(by omega) := by simp [List.getD, show p - 1 < L.length by omega]
        have := List.pairwise_iff_getElem.mp hs j (p - 1) (by omega) (by omega) (by omega)
        rw [e1]
        rw [e2] at h3'
        omega
    have hget := sg_ins_get (e := e) (l := L) (p := p) hp hbelow (fun hl => (h2 p (Nat.le_refl _) hl).2)
    refine hR _ (sc_M.keep h.2 h.1.2 (fun q q1 q2 => ?_) ?_ ⟨upd f p (nI e), ?_, fun j hj => ?_⟩) (fun q q1 q2 => ?_)
    · rw [va_up_ne _ _ q1, va_up_ne _ _ q2, va_up_ne _ _ q2]
    · rw [va_up_self]
      show some (Sum.inr (2, [Value.ref (xg X), .int (nI (gA g)), .ref (xp X), .int (nI (gE g)), va_rf (if xm X = 0 then none else some (xs X (xm X - 1))), .ref (xl X), .int (nI L.length + 1)])) = _
      rw [nI_1, ← hlen]
    · rw [va_up_ne _ _ (Ne.symm hne), va_up_self]
    · rw [hget j]
      rw [hlen] at hj
      by_cases q1 : j < p
      · rw [if_pos q1, pk_un (by omega)]
        exact h1 j q1
      · rw [if_neg q1]
        by_cases q2 : j = p
        · rw [if_pos q2, q2, pk_us]
        · rw [if_neg q2, pk_un q2]
          have := (h2 (j - 1) (by omega) (by omega)).1
          rw [show j - 1 + 1 = j by omega] at this
          exact this
    · rw [va_up_ne _ _ q1, va_up_ne _ _ q2, va_up_ne _ _ q2]
  induction p with
  | zero =>
    intro f hp h1 h2
    exact bkE_putOnList_15 hh hk ⟨fun _ => fin 0 f hp h1 h2 (fun q => by omega), fun c => absurd (Int32.le_refl _) c⟩
  | succ p ih =>
    intro f hp h1 h2
    have hlp : L.getD p 0 < gE g := hLE _ (sg_getD_mem (by omega))
    refine bkE_putOnList_15 hh hk ⟨fun c => absurd c (nI_ge (a := 0) (by omega) (by omega)), fun c => ⟨_, ob _, some (xl X), rfl, _, rfl, _, _, va_up_self _ _ _, p, nI_pred p, by omega, fun c2 => ?_, fun c2 => ⟨p, nI_pred p, by omega, p + 1, rfl, by omega, fun μ1 e1 => ?_⟩⟩⟩
    · rw [h1 p (by omega), nI_leI (by omega) (by omega)] at c2
      exact fin (p + 1) f hp h1 h2 (fun _ => by simpa using c2)
    · rw [h1 p (by omega), nI_leI (by omega) (by omega)] at c2
      subst e1
      rw [sp_upup, pk_m1]
      refine ih _ (by omega) (fun j hj => ?_) (fun j q1 q2 => ?_)
      · rw [pk_un (by omega)]; exact h1 j (by omega)
      · by_cases q : j = p
        · subst q
          rw [pk_us]
          exact ⟨h1 j (by omega), by omega⟩
        · rw [pk_un (by omega)]
          exact h2 j (by omega) q2
theorem sc_T.ins (h : sc_T κ g X L μ) {e : Nat} (he : e < gE g) (hn : e ∉ L) (hlt : L.length < 16) (hM : sc_M κ g X (sg_ins e L) μ') : sc_T κ g X (sg_ins e L) μ' := by
  obtain ⟨⟨⟨v1, v2, v3, v4, v5, v6, v7, v8, v9, v10⟩, hM0⟩, hD⟩ := h
  refine ⟨⟨⟨v1, v2, v3, v4, v5, v6, v7, by rw [sg_ins_len]; omega, sg_ins_sort v9 hn, fun q hq => ?_⟩, hM⟩, hD⟩
  rcases sg_ins_mem.mp hq with rfl | q1
  · exact he
  · exact v10 q q1
theorem ct_putOnList (htr : l.stackTraces = false) (h : sc_T κ g X L μ) {e : Nat} (he : e < gE g) (hn : e ∉ L) (hlt : L.length < 16) (hR : ∀ μ', sc_T κ g X (sg_ins e L) μ' → sc_fr X μ μ' → Rt none μ') : sp_m l κ yE_putOnList wE_putOnList 0 0 mc ms [.ref (xh X), .int (nI e)] μ Rt Xt := by
  obtain ⟨f, hf, hfv⟩ := h.1.ol
  refine opE_putOnList htr (fun x hx hh => bkE_putOnList_0 hh z2 ⟨_, h.1.o, _, rfl, fun c => ?_, fun c => absurd (nI_lt (b := 16) hlt (by omega)) c⟩)
  have key := lp_put (Xt := Xt) hh z2 h he hlt (fun μ' hM hfr => hR μ' (h.ins he hn hlt hM) hfr) L.length f (Nat.le_refl _) hfv (fun j q1 q2 => by omega)
  rw [sp_upsame hf] at key
  exact key
theorem sc_T.clear (h : sc_T κ g X L μ) (hM : sc_M κ g X [] μ') : sc_T κ g X [] μ' := by
  obtain ⟨⟨⟨v1, v2, v3, v4, v5, v6, v7, v8, v9, v10⟩, hM0⟩, hD⟩ := h
  exact ⟨⟨⟨v1, v2, v3, v4, v5, v6, v7, by simp, List.Pairwise.nil, fun q hq => by simp at hq⟩, hM⟩, hD⟩
theorem ct_parent (htr : l.stackTraces = false) (h : sc_T κ g X L μ) {v1 v2 : Int32}
    (hok : ∀ s k μ', s < gA g → k < gC g s → v1 = nI (gM g s) → v2 = nI k → gT g s k ∉ L → L.length < 16 → sc_T κ g X (sg_ins (gT g s k) L) μ' → sc_fr X μ μ' → Rt (some (.int (nI (L.length + 1)))) μ')
    (hX : ∀ E, ((∀ s k, s < gA g → k < gC g s → v1 = nI (gM g s) → v2 ≠ nI k) ∧ E = xNo) ∨ (∃ s k, s < gA g ∧ k < gC g s ∧ v1 = nI (gM g s) ∧ v2 = nI k ∧ ((gT g s k ∈ L ∧ E = xUO) ∨ (gT g s k ∉ L ∧ ¬ L.length < 16 ∧ E = xIS))) → (1 ≤ mc ∧ 6 ≤ ms) ∧ Xt E μ) : sp_m l κ yE_parent wE_parent 7 113 mc ms [.ref (xh X), .int v1, .int v2] μ Rt Xt := by
  have hE := h.1.I.e
  have hLE := h.1.l.2.2
  refine opE_parent htr (fun x hx hh => bkE_parent_0 hh z2 ?_)
  by_cases hf : ∃ s k, s < gA g ∧ k < gC g s ∧ v1 = nI (gM g s) ∧ v2 = nI k
  · refine ⟨0, 0, z2, _, h.1.o, ct_find hx h.1 (fun s k hs hk e1 e2 => ⟨_, rfl, 0, 0, z2, _, h.1.o, ?_⟩) (fun hno => ?_)⟩
    · have ht := h.1.I.t hs hk
      refine ct_isListed hx h.1 (fun e hin hv => ⟨_, rfl, fun c => absurd c (by decide), fun _ => ?_⟩) (fun hno => ⟨_, rfl, fun _ => ⟨_, h.1.o, _, rfl, fun c => ⟨0, 0, z2, ?_⟩, fun c => ?_⟩, fun c => absurd rfl c⟩)
      · have : gT g s k = e := (nI_eq (by omega) (by have := hLE e hin; omega)).mp hv
        obtain ⟨r1, r2⟩ := hX xUO (Or.inr ⟨s, k, hs, hk, e1, e2, Or.inl ⟨by rw [this]; exact hin, rfl⟩⟩)
        exact ⟨by omega, r2⟩
      · have hn : gT g s k ∉ L := fun q => hno _ q rfl
        have hlt : L.length < 16 := (nI_ltI (b := 16) (by have := h.1.l.1; omega) (by omega)).mp c
        refine ct_putOnList hx h ht hn hlt (fun μ' hT hfr => ⟨rfl, _, hT.1.o, _, rfl, ?_⟩)
        rw [sg_ins_len]
        exact hok s k μ' hs hk e1 e2 hn hlt hT hfr
      · have hn : gT g s k ∉ L := fun q => hno _ q rfl
        obtain ⟨r1, r2⟩ := hX xIS (Or.inr ⟨s, k, hs, hk, e1, e2, Or.inr ⟨hn, fun q => c (nI_lt (b := 16) q (by omega)), rfl⟩⟩)
        exact ⟨by omega, r2⟩
    · obtain ⟨s, k, hs, hk, e1, e2⟩ := hf
      exact absurd e2 (hno s k hs hk e1)
  · have hno : ∀ s k, s < gA g → k < gC g s → v1 = nI (gM g s) → v2 ≠ nI k := fun s k hs hk e1 e2 => hf ⟨s, k, hs, hk, e1, e2⟩
    obtain ⟨r1, r2⟩ := hX xNo (Or.inl ⟨hno, rfl⟩)
    exact ⟨1, 6, by omega, _, h.1.o, ct_find hx h.1 (fun s k hs hk e1 e2 => absurd e2 (hno s k hs hk e1)) (fun _ => ⟨⟨Nat.le_refl _, Nat.le_refl _⟩, r2⟩)⟩
end
