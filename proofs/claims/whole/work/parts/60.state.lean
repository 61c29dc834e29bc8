/-! what the class holds: its addresses, its spans -/
/-- object, agents, spans, listed; agents' objects, spans' objects, their parents' and seen rows; how many spans, their first places; an agent's newest span, its flag; a span's elder one of the same agent -/
abbrev sc_X : Type := Nat × Nat × Nat × Nat × (Nat → Nat) × (Nat → Nat) × (Nat → Nat) × (Nat → Nat) × Nat × (Nat → Nat) × (Nat → Nat) × (Nat → Int32) × (Nat → Option Nat)
def xh (X : sc_X) : Nat := X.1
def xg (X : sc_X) : Nat := X.2.1
def xp (X : sc_X) : Nat := X.2.2.1
def xl (X : sc_X) : Nat := X.2.2.2.1
def xa (X : sc_X) : Nat → Nat := X.2.2.2.2.1
def xs (X : sc_X) : Nat → Nat := X.2.2.2.2.2.1
def xq (X : sc_X) : Nat → Nat := X.2.2.2.2.2.2.1
def xe (X : sc_X) : Nat → Nat := X.2.2.2.2.2.2.2.1
def xm (X : sc_X) : Nat := X.2.2.2.2.2.2.2.2.1
def xf (X : sc_X) : Nat → Nat := X.2.2.2.2.2.2.2.2.2.1
def xn (X : sc_X) : Nat → Nat := X.2.2.2.2.2.2.2.2.2.2.1
def xb (X : sc_X) : Nat → Int32 := X.2.2.2.2.2.2.2.2.2.2.2.1
def xv (X : sc_X) : Nat → Option Nat := X.2.2.2.2.2.2.2.2.2.2.2.2
abbrev sc_obj (g : sg_G) (X : sc_X) (L : List Nat) : va_E := .inr (2, [.ref (xg X), .int (nI (gA g)), .ref (xp X), .int (nI (gE g)), va_rf (if xm X = 0 then none else some (xs X (xm X - 1))), .ref (xl X), .int (nI L.length)])
abbrev sc_ag (g : sg_G) (X : sc_X) (s : Nat) : va_E := .inr (0, [.int (nI (gM g s)), .int (nI s), .int (nI (gC g s)), .int (nI (sg_lt g s)), .int (xb X s), va_rf (some (xs X (xn X s)))])
abbrev sc_sp (g : sg_G) (X : sc_X) (i : Nat) : va_E := .inr (1, [.ref (xa X (gS g (xf X i))), .int (nI (xf X i)), .int (nI (xf X (i + 1) - 1)), .int (nI (gN g (xf X i))), .ref (xq X i), .ref (xe X i), .int (if sg_sum (gP g (xf X i)) 16 = xf X i + 1 then 1 else 0), va_rf (if i = 0 then none else some (xs X (i - 1))), va_rf ((xv X i).map (xs X))])
/-- the memory's part: the class's cells as g and X have them -/
def sc_M (κ : sp_K) (g : sg_G) (X : sc_X) (L : List Nat) (μ : sp_M) : Prop :=
  μ (xh X) = some (sc_obj g X L) ∧
  (∃ f, μ (xg X) = some (sp_ra κ 3 256 f) ∧ (∀ s, s < gA g → f (gM g s) = some (xa X s)) ∧ ∀ a, a < 256 → (∀ s, s < gA g → gM g s ≠ a) → f a = none) ∧
  (∃ f, μ (xp X) = some (sp_ra κ 4 8192 f) ∧ (∀ i, i < xm X → ∀ e, xf X i ≤ e → e < xf X (i + 1) → f e = some (xs X i)) ∧ ∀ e, gE g ≤ e → e < 8192 → f e = none) ∧
  (∃ f, μ (xl X) = some (sp_ia κ 16 f) ∧ ∀ j, j < L.length → f j = nI (L.getD j 0)) ∧
  (∀ s, s < gA g → μ (xa X s) = some (sc_ag g X s)) ∧
  (∀ i, i < xm X → μ (xs X i) = some (sc_sp g X i)) ∧
  (∀ i, i < xm X → ∃ f, μ (xq X i) = some (sp_ia κ (gR g (xf X i)).length f) ∧ ∀ k, k < (gR g (xf X i)).length → f k = nI ((gR g (xf X i)).getD k 0)) ∧
  (∀ i, i < xm X → ∃ f, μ (xe X i) = some (sp_ia κ 16 f) ∧ ∀ x, x < 16 → f x = nI (gP g (xf X i) x))
/-- the value's part -/
def sc_V (g : sg_G) (X : sc_X) (L : List Nat) : Prop :=
  sg_I g ∧ sg_S g (xm X) (xf X) ∧ (∀ s, s < gA g → 0 < gC g s) ∧
  (∀ s, s < gA g → xn X s < xm X ∧ gS g (xf X (xn X s)) = s ∧ ∀ i, xn X s < i → i < xm X → gS g (xf X i) ≠ s) ∧
  (∀ i, i < xm X → ∀ j, xv X i = some j → j < i ∧ gS g (xf X j) = gS g (xf X i)) ∧
  (∀ i, i < xm X → ∀ j, j < i → gS g (xf X j) = gS g (xf X i) → ∃ k, xv X i = some k ∧ j ≤ k) ∧
  (∀ s, s < gA g → (xb X s = 1 ∧ sg_hd g s) ∨ (xb X s = 0 ∧ ¬ sg_hd g s)) ∧
  L.length ≤ 16 ∧ L.Pairwise (· < ·) ∧ ∀ e ∈ L, e < gE g
def sc_R (κ : sp_K) (g : sg_G) (X : sc_X) (L : List Nat) (μ : sp_M) : Prop := sc_V g X L ∧ sc_M κ g X L μ
section
variable {κ : sp_K} {g : sg_G} {X : sc_X} {L : List Nat} {μ : sp_M}
theorem sc_R.I (h : sc_R κ g X L μ) : sg_I g := h.1.1
theorem sc_R.S (h : sc_R κ g X L μ) : sg_S g (xm X) (xf X) := h.1.2.1
theorem sc_R.c0 (h : sc_R κ g X L μ) {s : Nat} (hs : s < gA g) : 0 < gC g s := h.1.2.2.1 s hs
theorem sc_R.nw (h : sc_R κ g X L μ) {s : Nat} (hs : s < gA g) : xn X s < xm X ∧ gS g (xf X (xn X s)) = s ∧ ∀ i, xn X s < i → i < xm X → gS g (xf X i) ≠ s := h.1.2.2.2.1 s hs
theorem sc_R.v1 (h : sc_R κ g X L μ) {i j : Nat} (hi : i < xm X) (hj : xv X i = some j) : j < i ∧ gS g (xf X j) = gS g (xf X i) := h.1.2.2.2.2.1 i hi j hj
theorem sc_R.v2 (h : sc_R κ g X L μ) {i j : Nat} (hi : i < xm X) (hj : j < i) (hs : gS g (xf X j) = gS g (xf X i)) : ∃ k, xv X i = some k ∧ j ≤ k := h.1.2.2.2.2.2.1 i hi j hj hs
theorem sc_R.b (h : sc_R κ g X L μ) {s : Nat} (hs : s < gA g) : (xb X s = 1 ∧ sg_hd g s) ∨ (xb X s = 0 ∧ ¬ sg_hd g s) := h.1.2.2.2.2.2.2.1 s hs
theorem sc_R.l (h : sc_R κ g X L μ) : L.length ≤ 16 ∧ L.Pairwise (· < ·) ∧ ∀ e ∈ L, e < gE g := h.1.2.2.2.2.2.2.2
theorem sc_R.o (h : sc_R κ g X L μ) : μ (xh X) = some (sc_obj g X L) := h.2.1
theorem sc_R.og (h : sc_R κ g X L μ) : ∃ f, μ (xg X) = some (sp_ra κ 3 256 f) ∧ (∀ s, s < gA g → f (gM g s) = some (xa X s)) ∧ ∀ a, a < 256 → (∀ s, s < gA g → gM g s ≠ a) → f a = none := h.2.2.1
theorem sc_R.op (h : sc_R κ g X L μ) : ∃ f, μ (xp X) = some (sp_ra κ 4 8192 f) ∧ (∀ i, i < xm X → ∀ e, xf X i ≤ e → e < xf X (i + 1) → f e = some (xs X i)) ∧ ∀ e, gE g ≤ e → e < 8192 → f e = none := h.2.2.2.1
theorem sc_R.ol (h : sc_R κ g X L μ) : ∃ f, μ (xl X) = some (sp_ia κ 16 f) ∧ ∀ j, j < L.length → f j = nI (L.getD j 0) := h.2.2.2.2.1
theorem sc_R.oa (h : sc_R κ g X L μ) {s : Nat} (hs : s < gA g) : μ (xa X s) = some (sc_ag g X s) := h.2.2.2.2.2.1 s hs
theorem sc_R.os (h : sc_R κ g X L μ) {i : Nat} (hi : i < xm X) : μ (xs X i) = some (sc_sp g X i) := h.2.2.2.2.2.2.1 i hi
theorem sc_R.oq (h : sc_R κ g X L μ) {i : Nat} (hi : i < xm X) : ∃ f, μ (xq X i) = some (sp_ia κ (gR g (xf X i)).length f) ∧ ∀ k, k < (gR g (xf X i)).length → f k = nI ((gR g (xf X i)).getD k 0) := h.2.2.2.2.2.2.2.1 i hi
theorem sc_R.oe (h : sc_R κ g X L μ) {i : Nat} (hi : i < xm X) : ∃ f, μ (xe X i) = some (sp_ia κ 16 f) ∧ ∀ x, x < 16 → f x = nI (gP g (xf X i) x) := h.2.2.2.2.2.2.2.2 i hi
/-- bounds -/
theorem sg_I.cle (h : sg_I g) {s : Nat} (hs : s < gA g) : gC g s ≤ 8192 := by
  have he := h.e
  rcases Nat.lt_or_ge 8192 (gC g s) with h1 | h1
  · -- the places of a slot rise, so the k-th is at least k
    have key : ∀ k, k < gC g s → k ≤ gT g s k := by
      intro k
      induction k with
      | zero => intro _; exact Nat.zero_le _
      | succ k ih =>
        intro hk
        have := ih (by omega)
        have := h.up hs (show k < k + 1 by omega) hk
        omega
    have h2 := key 8192 h1
    have h3 := h.t hs h1
    omega
  · exact h1
theorem sg_I.nle (h : sg_I g) {e : Nat} (he : e < gE g) : gN g e < 8192 := by
  have := h.n he
  have := h.cle (h.s he)
  omega
theorem sg_I.ple (h : sg_I g) {e x : Nat} (he : e < gE g) : gP g e x ≤ 8192 := by
  rcases Nat.lt_or_ge x (gA g) with h1 | h1
  · exact Nat.le_trans (h.pc he h1) (h.cle h1)
  · rw [h.p0 he h1]; omega
theorem sg_len {b : Nat} : ∀ (l : List Nat) (a : Nat), l.Pairwise (· < ·) → (∀ x ∈ l, a ≤ x ∧ x < b) → l.length ≤ b - a
  | [], _, _, _ => Nat.zero_le _
  | x :: r, a, hp, hb => by
    rw [List.pairwise_cons] at hp
    have h3 := hb x List.mem_cons_self
    have h4 := sg_len r (x + 1) hp.2 (fun y hy => ⟨hp.1 y hy, (hb y (List.mem_cons_of_mem _ hy)).2⟩)
    simp only [List.length_cons]
    omega
theorem sg_last {l : List Nat} (hp : l.Pairwise (· < ·)) (h0 : 0 < l.length) : l.getD (l.length - 1) 0 ∈ l ∧ ∀ q ∈ l, q ≤ l.getD (l.length - 1) 0 := by
  have hlt : l.length - 1 < l.length := by omega
  have e : l.getD (l.length - 1) 0 = l[l.length - 1] := by simp [List.getD, hlt]
  rw [e]
  refine ⟨List.getElem_mem _, fun q hq => ?_⟩
  obtain ⟨i, hi, rfl⟩ := List.getElem_of_mem hq
  by_cases h1 : i = l.length - 1
  · subst h1; exact Nat.le_refl _
  · exact Nat.le_of_lt (List.pairwise_iff_getElem.mp hp i (l.length - 1) hi hlt (by omega))
theorem sg_I.rle (h : sg_I g) {e : Nat} (he : e < gE g) : (gR g e).length ≤ 8192 := by
  have h1 := sg_len (b := e) (gR g e) 0 (h.ps he) (fun x hx => ⟨Nat.zero_le _, h.pl he hx⟩)
  have := h.e
  omega
end
