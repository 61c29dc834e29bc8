section
/-! The value that both sides hold: events by their places, agents by their slots. -/
/-- events, agents, slot, number, past, parents, names, counts, places -/
abbrev sg_G : Type := Nat × Nat × (Nat → Nat) × (Nat → Nat) × (Nat → Nat → Nat) × (Nat → List Nat) × (Nat → Nat) × (Nat → Nat) × (Nat → Nat → Nat)
def gE (g : sg_G) : Nat := g.1
def gA (g : sg_G) : Nat := g.2.1
def gS (g : sg_G) : Nat → Nat := g.2.2.1
def gN (g : sg_G) : Nat → Nat := g.2.2.2.1
def gP (g : sg_G) : Nat → Nat → Nat := g.2.2.2.2.1
def gR (g : sg_G) : Nat → List Nat := g.2.2.2.2.2.1
def gM (g : sg_G) : Nat → Nat := g.2.2.2.2.2.2.1
def gC (g : sg_G) : Nat → Nat := g.2.2.2.2.2.2.2.1
def gT (g : sg_G) : Nat → Nat → Nat := g.2.2.2.2.2.2.2.2
/-- e is in the history of f (or is f) -/
def sg_in (g : sg_G) (e f : Nat) : Prop := gN g e < gP g f (gS g e)
theorem sg_in_dec (g : sg_G) (e f : Nat) : sg_in g e f ∨ ¬ sg_in g e f := Classical.em _
def sg_I (g : sg_G) : Prop :=
  (gA g ≤ 16 ∧ gE g ≤ 8192) ∧
  (∀ e, e < gE g → gS g e < gA g ∧ gN g e < gC g (gS g e) ∧ gT g (gS g e) (gN g e) = e) ∧
  (∀ s k, s < gA g → k < gC g s → gT g s k < gE g ∧ gS g (gT g s k) = s ∧ gN g (gT g s k) = k) ∧
  (∀ s k k', s < gA g → k < k' → k' < gC g s → gT g s k < gT g s k') ∧
  (∀ e, e < gE g → gP g e (gS g e) = gN g e + 1) ∧
  (∀ e x, e < gE g → (x < gA g → gP g e x ≤ gC g x) ∧ (gA g ≤ x → gP g e x = 0) ∧ ∀ k, k < gP g e x → gT g x k ≤ e) ∧
  (∀ e f, e < gE g → f < gE g → sg_in g e f → ∀ x, gP g e x ≤ gP g f x) ∧
  (∀ s t, s < gA g → t < gA g → gM g s = gM g t → s = t) ∧ (∀ s, s < gA g → gM g s < 256) ∧
  (∀ e, e < gE g → (gR g e).Pairwise (· < ·) ∧ (∀ p ∈ gR g e, p < e) ∧ (∀ p ∈ gR g e, ∀ x, gP g p x ≤ gP g e x) ∧ (∀ x, x ≠ gS g e → 0 < gP g e x → ∃ p ∈ gR g e, gP g p x = gP g e x) ∧ (0 < gN g e → ∃ p ∈ gR g e, gP g p (gS g e) = gN g e))
section
variable {g : sg_G}
theorem sg_I.a (h : sg_I g) : gA g ≤ 16 := h.1.1
theorem sg_I.e (h : sg_I g) : gE g ≤ 8192 := h.1.2
theorem sg_I.s (h : sg_I g) {e : Nat} (he : e < gE g) : gS g e < gA g := (h.2.1 e he).1
theorem sg_I.n (h : sg_I g) {e : Nat} (he : e < gE g) : gN g e < gC g (gS g e) := (h.2.1 e he).2.1
theorem sg_I.tn (h : sg_I g) {e : Nat} (he : e < gE g) : gT g (gS g e) (gN g e) = e := (h.2.1 e he).2.2
theorem sg_I.t (h : sg_I g) {s k : Nat} (hs : s < gA g) (hk : k < gC g s) : gT g s k < gE g := (h.2.2.1 s k hs hk).1
theorem sg_I.ts (h : sg_I g) {s k : Nat} (hs : s < gA g) (hk : k < gC g s) : gS g (gT g s k) = s := (h.2.2.1 s k hs hk).2.1
theorem sg_I.tk (h : sg_I g) {s k : Nat} (hs : s < gA g) (hk : k < gC g s) : gN g (gT g s k) = k := (h.2.2.1 s k hs hk).2.2
theorem sg_I.up (h : sg_I g) {s k k' : Nat} (hs : s < gA g) (hk : k < k') (hk' : k' < gC g s) : gT g s k < gT g s k' := h.2.2.2.1 s k k' hs hk hk'
theorem sg_I.own (h : sg_I g) {e : Nat} (he : e < gE g) : gP g e (gS g e) = gN g e + 1 := h.2.2.2.2.1 e he
theorem sg_I.pc (h : sg_I g) {e x : Nat} (he : e < gE g) (hx : x < gA g) : gP g e x ≤ gC g x := (h.2.2.2.2.2.1 e x he).1 hx
theorem sg_I.p0 (h : sg_I g) {e x : Nat} (he : e < gE g) (hx : gA g ≤ x) : gP g e x = 0 := (h.2.2.2.2.2.1 e x he).2.1 hx
theorem sg_I.pt (h : sg_I g) {e x k : Nat} (he : e < gE g) (hk : k < gP g e x) : gT g x k ≤ e := (h.2.2.2.2.2.1 e x he).2.2 k hk
theorem sg_I.tr (h : sg_I g) {e f : Nat} (he : e < gE g) (hf : f < gE g) (hi : sg_in g e f) (x : Nat) : gP g e x ≤ gP g f x := h.2.2.2.2.2.2.1 e f he hf hi x
theorem sg_I.nm (h : sg_I g) {s t : Nat} (hs : s < gA g) (ht : t < gA g) (he : gM g s = gM g t) : s = t := h.2.2.2.2.2.2.2.1 s t hs ht he
theorem sg_I.nl (h : sg_I g) {s : Nat} (hs : s < gA g) : gM g s < 256 := h.2.2.2.2.2.2.2.2.1 s hs
theorem sg_I.ps (h : sg_I g) {e : Nat} (he : e < gE g) : (gR g e).Pairwise (· < ·) := (h.2.2.2.2.2.2.2.2.2 e he).1
theorem sg_I.pl (h : sg_I g) {e p : Nat} (he : e < gE g) (hp : p ∈ gR g e) : p < e := (h.2.2.2.2.2.2.2.2.2 e he).2.1 p hp
theorem sg_I.pp (h : sg_I g) {e p : Nat} (he : e < gE g) (hp : p ∈ gR g e) (x : Nat) : gP g p x ≤ gP g e x := (h.2.2.2.2.2.2.2.2.2 e he).2.2.1 p hp x
theorem sg_I.px (h : sg_I g) {e x : Nat} (he : e < gE g) (hx : x ≠ gS g e) (h0 : 0 < gP g e x) : ∃ p ∈ gR g e, gP g p x = gP g e x := (h.2.2.2.2.2.2.2.2.2 e he).2.2.2.1 x hx h0
theorem sg_I.pn (h : sg_I g) {e : Nat} (he : e < gE g) (h0 : 0 < gN g e) : ∃ p ∈ gR g e, gP g p (gS g e) = gN g e := (h.2.2.2.2.2.2.2.2.2 e he).2.2.2.2 h0
theorem sg_le (h : sg_I g) {e f : Nat} (he : e < gE g) (hf : f < gE g) (hi : sg_in g e f) : e ≤ f := by
  have := h.pt hf hi
  rw [h.tn he] at this
  exact this
theorem sg_self (h : sg_I g) {e : Nat} (he : e < gE g) : sg_in g e e := by
  unfold sg_in
  rw [h.own he]
  omega
theorem sg_trans (h : sg_I g) {e f d : Nat} (hf : f < gE g) (hd : d < gE g) (h1 : sg_in g e f) (h2 : sg_in g f d) : sg_in g e d :=
  Nat.lt_of_lt_of_le h1 (h.tr hf hd h2 _)
theorem sg_same (h : sg_I g) {e f : Nat} (hf : f < gE g) (hs : gS g e = gS g f) : sg_in g e f ↔ gN g e ≤ gN g f := by
  unfold sg_in
  rw [hs, h.own hf]
  omega
theorem sg_rise (h : sg_I g) {e f : Nat} (he : e < gE g) (hf : f < gE g) (hs : gS g e = gS g f) : gN g e ≤ gN g f ↔ e ≤ f := by
  have h1 := h.tn he
  have h2 := h.tn hf
  constructor
  · intro h3
    rcases Nat.lt_or_ge (gN g e) (gN g f) with h4 | h4
    · have := h.up (h.s hf) h4 (h.n hf)
      rw [h2, ← hs, h1] at this
      omega
    · have h5 : gN g e = gN g f := by omega
      rw [hs, h5, h2] at h1
      omega
  · intro h3
    rcases Nat.lt_or_ge (gN g f) (gN g e) with h4 | h4
    · have := h.up (h.s he) h4 (h.n he)
      rw [h1, hs, h2] at this
      omega
    · exact h4
/-- an event's parents are in its history -/
theorem sg_par (h : sg_I g) {e p : Nat} (he : e < gE g) (hp : p ∈ gR g e) : sg_in g p e := by
  have hpe := h.pl he hp
  have := h.pp he hp (gS g p)
  have h2 := h.own (e := p) (by omega)
  unfold sg_in
  omega
/-- what is in the history of f, but f itself, is in that of a parent -/
theorem sg_via (h : sg_I g) {e f : Nat} (he : e < gE g) (hf : f < gE g) (hi : sg_in g e f) (hne : e ≠ f) : ∃ p ∈ gR g f, sg_in g e p := by
  by_cases hs : gS g e = gS g f
  · have h1 := (sg_same h hf hs).1 hi
    have h2 : gN g e ≠ gN g f := by
      intro h3
      have h4 := h.tn he
      rw [hs, h3, h.tn hf] at h4
      exact hne h4.symm
    obtain ⟨p, hp, hv⟩ := h.pn hf (by omega)
    refine ⟨p, hp, ?_⟩
    unfold sg_in
    rw [hs, hv]
    omega
  · have h0 : gN g e < gP g f (gS g e) := hi
    obtain ⟨p, hp, hv⟩ := h.px hf (x := gS g e) hs (by omega)
    refine ⟨p, hp, ?_⟩
    unfold sg_in
    rw [hv]
    exact h0
end
/-! the greatest of the pasts of a list of places -/
def sg_mx (g : sg_G) (x : Nat) : List Nat → Nat
  | [] => 0
  | p :: r => max (gP g p x) (sg_mx g x r)
theorem sg_mx_ge {g : sg_G} {x p : Nat} : ∀ {l : List Nat}, p ∈ l → gP g p x ≤ sg_mx g x l
  | q :: r, h => by
    rcases List.mem_cons.mp h with h1 | h1
    · subst h1; exact Nat.le_max_left _ _
    · exact Nat.le_trans (sg_mx_ge h1) (Nat.le_max_right _ _)
theorem sg_mx_at {g : sg_G} {x : Nat} : ∀ {l : List Nat}, 0 < sg_mx g x l → ∃ p ∈ l, gP g p x = sg_mx g x l
  | [], h => by simp [sg_mx] at h
  | q :: r, h => by
    by_cases h1 : sg_mx g x r ≤ gP g q x
    · exact ⟨q, List.mem_cons_self, by simp [sg_mx, Nat.max_eq_left h1]⟩
    · have h2 : sg_mx g x (q :: r) = sg_mx g x r := by simp only [sg_mx]; exact Nat.max_eq_right (by omega)
      rw [h2] at h ⊢
      obtain ⟨p, hp, hv⟩ := sg_mx_at h
      exact ⟨p, List.mem_cons_of_mem _ hp, hv⟩
theorem sg_mx_le {g : sg_G} {x b : Nat} : ∀ {l : List Nat}, (∀ p ∈ l, gP g p x ≤ b) → sg_mx g x l ≤ b
  | [], _ => Nat.zero_le _
  | q :: r, h => Nat.max_le.mpr ⟨h q List.mem_cons_self, sg_mx_le fun p hp => h p (List.mem_cons_of_mem _ hp)⟩
theorem sg_mx_mem {g : sg_G} {x : Nat} {l l' : List Nat} (h : ∀ p, p ∈ l ↔ p ∈ l') : sg_mx g x l = sg_mx g x l' :=
  Nat.le_antisymm (sg_mx_le fun _ hp => sg_mx_ge ((h _).1 hp)) (sg_mx_le fun _ hp => sg_mx_ge ((h _).2 hp))
theorem sg_mx_app {g : sg_G} {x p : Nat} : ∀ {l : List Nat}, sg_mx g x (l ++ [p]) = max (sg_mx g x l) (gP g p x)
  | [] => by simp [sg_mx]
  | q :: r => by simp only [List.cons_append, sg_mx, sg_mx_app (l := r)]; omega
/-- one more event of slot s with the parents ps -/
def sg_come (g : sg_G) (s : Nat) (ps : List Nat) : sg_G :=
  (gE g + 1, gA g, va_up (gS g) (gE g) s, va_up (gN g) (gE g) (gC g s), va_up (gP g) (gE g) (fun x => if x = s then gC g s + 1 else sg_mx g x ps), va_up (gR g) (gE g) ps, gM g, va_up (gC g) s (gC g s + 1), va_up (gT g) s (va_up (gT g s) (gC g s) (gE g)))
/-- one more agent -/
def sg_reg (g : sg_G) (a : Nat) : sg_G :=
  (gE g, gA g + 1, gS g, gN g, gP g, gR g, va_up (gM g) (gA g) a, va_up (gC g) (gA g) 0, gT g)
section
variable {g : sg_G}
theorem sg_reg_I (h : sg_I g) {a : Nat} (hA : gA g < 16) (ha : a < 256) (hn : ∀ s, s < gA g → gM g s ≠ a) : sg_I (sg_reg g a) := by
  refine ⟨⟨hA, h.e⟩, ?_, ?_, ?_, ?_, ?_, ?_, ?_, ?_, ?_⟩
  · intro e he
    have hs := h.s he
    have he' : e < gE g := he
    refine ⟨Nat.lt_succ_of_lt hs, ?_, h.tn he'⟩
    show gN g e < va_up (gC g) (gA g) 0 (gS g e)
    rw [va_up_ne _ _ (by omega)]
    exact h.n he'
  · intro s k hs hk
    have hk' : k < va_up (gC g) (gA g) 0 s := hk
    have hs' : s < gA g + 1 := hs
    by_cases h1 : s = gA g
    · subst h1; rw [va_up_self] at hk'; omega
    · rw [va_up_ne _ _ h1] at hk'
      exact h.2.2.1 s k (by omega) hk'
  · intro s k k' hs hk hk'
    have hk1 : k' < va_up (gC g) (gA g) 0 s := hk'
    have hs' : s < gA g + 1 := hs
    by_cases h1 : s = gA g
    · subst h1; rw [va_up_self] at hk1; omega
    · rw [va_up_ne _ _ h1] at hk1
      exact h.up (by omega) hk hk1
  · exact h.2.2.2.2.1
  · intro e x he
    refine ⟨fun hx => ?_, fun hx => h.p0 he (by have : gA g + 1 ≤ x := hx; omega), fun k hk => h.pt he hk⟩
    show gP g e x ≤ va_up (gC g) (gA g) 0 x
    have hx' : x < gA g + 1 := hx
    by_cases h1 : x = gA g
    · subst h1; rw [va_up_self, h.p0 he (Nat.le_refl _)]; exact Nat.le_refl _
    · rw [va_up_ne _ _ h1]; exact h.pc he (by omega)
  · exact h.2.2.2.2.2.2.1
  · intro s t hs ht he
    have hs' : s < gA g + 1 := hs
    have ht' : t < gA g + 1 := ht
    have he' : va_up (gM g) (gA g) a s = va_up (gM g) (gA g) a t := he
    by_cases h1 : s = gA g <;> by_cases h2 : t = gA g
    · omega
    · subst h1; rw [va_up_self, va_up_ne _ _ h2] at he'; exact absurd he'.symm (hn t (by omega))
    · subst h2; rw [va_up_self, va_up_ne _ _ h1] at he'; exact absurd he' (hn s (by omega))
    · rw [va_up_ne _ _ h1, va_up_ne _ _ h2] at he'; exact h.nm (by omega) (by omega) he'
  · intro s hs
    have hs' : s < gA g + 1 := hs
    show va_up (gM g) (gA g) a s < 256
    by_cases h1 : s = gA g
    · subst h1; rw [va_up_self]; exact ha
    · rw [va_up_ne _ _ h1]; exact h.nl (by omega)
  · exact h.2.2.2.2.2.2.2.2.2
theorem sg_come_I (h : sg_I g) {s : Nat} {ps : List Nat} (hs : s < gA g) (hE : gE g < 8192) (hp : ps.Pairwise (· < ·)) (hl : ∀ p ∈ ps, p < gE g) (hg : 0 < gC g s → ∃ p ∈ ps, gP g p s = gC g s) : sg_I (sg_come g s ps) := by
  have mxle : ∀ x, x < gA g → sg_mx g x ps ≤ gC g x := fun x hx => sg_mx_le fun p hp => h.pc (hl p hp) hx
  have eN : ∀ e, e < gE g → e ≠ gE g := fun e he => by omega
  -- the words of the new value
  have nS : ∀ e, gS (sg_come g s ps) e = if e = gE g then s else gS g e := fun e => rfl
  have nN : ∀ e, gN (sg_come g s ps) e = if e = gE g then gC g s else gN g e := fun e => rfl
  have nP : ∀ e x, gP (sg_come g s ps) e x = if e = gE g then (if x = s then gC g s + 1 else sg_mx g x ps) else gP g e x := fun e x => by
    show va_up (gP g) (gE g) _ e x = _
    unfold va_up
    split <;> rfl
  have nR : ∀ e, gR (sg_come g s ps) e = if e = gE g then ps else gR g e := fun e => rfl
  have nC : ∀ x, gC (sg_come g s ps) x = if x = s then gC g s + 1 else gC g x := fun e => rfl
  have nT : ∀ x k, gT (sg_come g s ps) x k = if x = s ∧ k = gC g s then gE g else gT g x k := fun x k => by
    show va_up (gT g) s _ x k = _
    unfold va_up
    by_cases h1 : x = s
    · subst h1; by_cases h2 : k = gC g x <;> simp [h2]
    · simp [h1]
  have nE : gE (sg_come g s ps) = gE g + 1 := rfl
  have nA : gA (sg_come g s ps) = gA g := rfl
  refine ⟨⟨h.a, hE⟩, ?_, ?_, ?_, ?_, ?_, ?_, h.2.2.2.2.2.2.2.1, h.2.2.2.2.2.2.2.2.1, ?_⟩
  · intro e he
    rw [nE] at he
    rw [nS, nN, nA, nC]
    by_cases h1 : e = gE g
    · simp only [h1, if_true, nT]
      exact ⟨hs, by omega, by simp⟩
    · have he' : e < gE g := by omega
      have h2 := h.n he'
      simp only [h1, if_false, nT]
      refine ⟨h.s he', ?_, ?_⟩
      · split
        · rename_i h3; rw [h3] at h2; omega
        · exact h2
      · rw [if_neg]
        · exact h.tn he'
        · rintro ⟨h3, h4⟩
          rw [h3] at h2
          omega
  · intro x k hx hk
    rw [nA] at hx
    rw [nC] at hk
    rw [nT, nE]
    by_cases h1 : x = s ∧ k = gC g s
    · rw [if_pos h1, nS, nN, if_pos rfl, if_pos rfl]
      exact ⟨Nat.lt_succ_self _, h1.1.symm, h1.2.symm⟩
    · have hk' : k < gC g x := by
        by_cases h2 : x = s
        · rw [if_pos h2] at hk
          have h3 : k ≠ gC g s := fun q => h1 ⟨h2, q⟩
          rw [h2]; omega
        · rw [if_neg h2] at hk; exact hk
      have ht := h.t hx hk'
      rw [if_neg h1, nS, nN, if_neg (by omega), if_neg (by omega)]
      exact ⟨by omega, h.ts hx hk', h.tk hx hk'⟩
  · intro x k k' hx hk hk'
    rw [nA] at hx
    rw [nC] at hk'
    rw [nT, nT]
    by_cases h1 : x = s
    · subst h1
      rw [if_pos rfl] at hk'
      rw [if_neg (by omega)]
      by_cases h2 : k' = gC g x
      · rw [if_pos ⟨rfl, h2⟩]; exact h.t hx (by omega)
      · rw [if_neg (by omega)]; exact h.up hx hk (by omega)
    · rw [if_neg h1] at hk'
      rw [if_neg (by omega), if_neg (by omega)]
      exact h.up hx hk hk'
  · intro e he
    rw [nE] at he
    rw [nS, nN, nP]
    by_cases h1 : e = gE g
    · simp [h1]
    · simp only [h1, if_false]; exact h.own (by omega)
  · intro e x he
    rw [nE] at he
    rw [nP, nC, nA]
    by_cases h1 : e = gE g
    · simp only [h1, if_true]
      refine ⟨fun hx => ?_, fun hx => ?_, fun k hk => ?_⟩
      · split
        · exact Nat.le_refl _
        · exact mxle x hx
      · rw [if_neg (by omega)]
        exact Nat.le_antisymm (sg_mx_le fun p hp => by rw [h.p0 (hl p hp) hx]; exact Nat.le_refl _) (Nat.zero_le _)
      · rw [nT]
        by_cases h2 : x = s
        · subst h2
          rw [if_pos rfl] at hk
          by_cases h3 : k = gC g x
          · rw [if_pos ⟨rfl, h3⟩]; exact Nat.le_refl _
          · rw [if_neg (by omega)]; exact Nat.le_of_lt (h.t hs (by omega))
        · rw [if_neg h2] at hk
          rw [if_neg (by omega)]
          obtain ⟨p, hp, hv⟩ := sg_mx_at (g := g) (x := x) (l := ps) (by omega)
          rw [← hv] at hk
          have := h.pt (hl p hp) hk
          have := hl p hp
          omega
    · have he' : e < gE g := by omega
      simp only [h1, if_false]
      refine ⟨fun hx => ?_, fun hx => h.p0 he' hx, fun k hk => ?_⟩
      · have := h.pc he' hx
        split
        · rename_i h2; subst h2; omega
        · exact this
      · rw [nT, if_neg]
        · exact h.pt he' hk
        · rintro ⟨h2, h3⟩
          subst h2
          have := h.pc he' hs
          omega
  · intro e f he hf hi x
    rw [nE] at he hf
    have hi' : gN (sg_come g s ps) e < gP (sg_come g s ps) f (gS (sg_come g s ps) e) := hi
    rw [nN, nS, nP] at hi'
    rw [nP, nP]
    by_cases h1 : e = gE g <;> by_cases h2 : f = gE g
    · subst h1; subst h2; exact Nat.le_refl _
    · simp only [h1, h2, if_true, if_false] at hi'
      have := h.pc (e := f) (by omega) hs
      omega
    · have he' : e < gE g := by omega
      simp only [h1, h2, if_true, if_false] at hi' ⊢
      have key : ∃ p ∈ ps, sg_in g e p := by
        by_cases h3 : gS g e = s
        · have h4 := h.n he'
          rw [h3] at h4
          obtain ⟨p, hp, hv⟩ := hg (by omega)
          refine ⟨p, hp, ?_⟩
          unfold sg_in
          rw [h3, hv]
          exact h4
        · rw [if_neg h3] at hi'
          obtain ⟨p, hp, hv⟩ := sg_mx_at (g := g) (x := gS g e) (l := ps) (by omega)
          refine ⟨p, hp, ?_⟩
          unfold sg_in
          rw [hv]
          exact hi'
      obtain ⟨p, hp, hv⟩ := key
      have h5 := h.tr he' (hl p hp) hv x
      split
      · rename_i h6
        subst h6
        have := h.pc he' hs
        omega
      · exact Nat.le_trans h5 (sg_mx_ge hp)
    · simp only [h1, h2, if_false] at hi' ⊢
      exact h.tr (by omega) (by omega) hi' x
  · intro e he
    rw [nE] at he
    rw [nR, nN, nS]
    by_cases h1 : e = gE g
    · simp only [h1, if_true]
      refine ⟨hp, hl, fun p hp x => ?_, fun x hx h0 => ?_, fun h0 => ?_⟩
      · have hpl := hl p hp
        rw [nP, nP, if_neg (by omega), if_pos rfl]
        split
        · rename_i h2; subst h2; have := h.pc hpl hs; omega
        · exact sg_mx_ge hp
      · rw [nP, if_pos rfl, if_neg hx] at h0
        obtain ⟨p, hp, hv⟩ := sg_mx_at h0
        have := hl p hp
        refine ⟨p, hp, ?_⟩
        rw [nP, nP, if_neg (by omega), if_pos rfl, if_neg hx]
        exact hv
      · obtain ⟨p, hp, hv⟩ := hg h0
        have := hl p hp
        refine ⟨p, hp, ?_⟩
        rw [nP, if_neg (by omega)]
        exact hv
    · have he' : e < gE g := by omega
      simp only [h1, if_false]
      refine ⟨h.ps he', fun p hp => h.pl he' hp, fun p hp x => ?_, fun x hx h0 => ?_, fun h0 => ?_⟩
      · have := h.pl he' hp
        rw [nP, nP, if_neg (by omega), if_neg h1]
        exact h.pp he' hp x
      · rw [nP, if_neg h1] at h0
        obtain ⟨p, hp, hv⟩ := h.px he' hx h0
        have := h.pl he' hp
        refine ⟨p, hp, ?_⟩
        rw [nP, nP, if_neg (by omega), if_neg h1]
        exact hv
      · obtain ⟨p, hp, hv⟩ := h.pn he' h0
        have := h.pl he' hp
        refine ⟨p, hp, ?_⟩
        rw [nP, if_neg (by omega)]
        exact hv
end
end
section
/-! counting -/
def sg_ct (P : Nat → Bool) : Nat → Nat
  | 0 => 0
  | n + 1 => sg_ct P n + (if P n = true then 1 else 0)
def sg_sum (f : Nat → Nat) : Nat → Nat
  | 0 => 0
  | n + 1 => sg_sum f n + f n
theorem sg_ct_congr {P Q : Nat → Bool} : ∀ {n : Nat}, (∀ k, k < n → P k = Q k) → sg_ct P n = sg_ct Q n
  | 0, _ => rfl
  | n + 1, h => by
    simp only [sg_ct]
    rw [sg_ct_congr (fun k hk => h k (by omega)), h n (by omega)]
theorem sg_ct_one {P Q : Nat → Bool} {j : Nat} : ∀ {n : Nat}, j < n → (∀ k, k < n → k ≠ j → P k = Q k) → P j = false → Q j = true → sg_ct Q n = sg_ct P n + 1
  | 0, h, _, _, _ => by omega
  | n + 1, h, hk, hp, hq => by
    simp only [sg_ct]
    by_cases h1 : j = n
    · subst h1
      rw [sg_ct_congr (P := Q) (Q := P) (fun k hk' => (hk k (by omega) (by omega)).symm), hp, hq]
      simp
    · rw [sg_ct_one (P := P) (Q := Q) (j := j) (by omega) (fun k h2 h3 => hk k (by omega) h3) hp hq, hk n (by omega) (by omega)]
      omega
theorem sg_ct_le {P : Nat → Bool} : ∀ (n : Nat), sg_ct P n ≤ n
  | 0 => Nat.le_refl _
  | n + 1 => by
    have := sg_ct_le (P := P) n
    simp only [sg_ct]
    split <;> omega
theorem sg_ct_full {P : Nat → Bool} : ∀ {n : Nat}, sg_ct P n = n ↔ ∀ k, k < n → P k = true
  | 0 => ⟨fun _ k hk => by omega, fun _ => rfl⟩
  | n + 1 => by
    have h1 := sg_ct_le (P := P) n
    have h2 := sg_ct_full (P := P) (n := n)
    simp only [sg_ct]
    constructor
    · intro h k hk
      by_cases h3 : P n = true
      · rw [if_pos h3] at h
        by_cases h4 : k = n
        · subst h4; exact h3
        · exact h2.1 (by omega) k (by omega)
      · rw [if_neg h3] at h
        omega
    · intro h
      rw [if_pos (h n (by omega)), h2.2 (fun k hk => h k (by omega))]
theorem sg_ct_from (lo : Nat) : ∀ (n : Nat), sg_ct (fun k => decide (lo ≤ k)) n = n - lo
  | 0 => by simp [sg_ct]
  | n + 1 => by
    simp only [sg_ct, sg_ct_from lo n]
    by_cases h : lo ≤ n
    · rw [if_pos (by simpa using h)]; omega
    · rw [if_neg (by simpa using h)]; omega
theorem sg_sum_congr {f f' : Nat → Nat} : ∀ {n : Nat}, (∀ k, k < n → f k = f' k) → sg_sum f n = sg_sum f' n
  | 0, _ => rfl
  | n + 1, h => by
    simp only [sg_sum]
    rw [sg_sum_congr (fun k hk => h k (by omega)), h n (by omega)]
theorem sg_sum_one {f f' : Nat → Nat} {j : Nat} : ∀ {n : Nat}, j < n → (∀ k, k < n → k ≠ j → f k = f' k) → f' j = f j + 1 → sg_sum f' n = sg_sum f n + 1
  | 0, h, _, _ => by omega
  | n + 1, h, hk, hj => by
    simp only [sg_sum]
    by_cases h1 : j = n
    · subst h1
      rw [sg_sum_congr (f := f') (f' := f) (fun k hk' => (hk k (by omega) (by omega)).symm), hj]
      omega
    · rw [sg_sum_one (f := f) (f' := f') (j := j) (by omega) (fun k h2 h3 => hk k (by omega) h3) hj, hk n (by omega) (by omega)]
      omega
theorem sg_sum_ext {f : Nat → Nat} {m : Nat} : ∀ (d : Nat), (∀ x, m ≤ x → f x = 0) → sg_sum f (m + d) = sg_sum f m
  | 0, _ => rfl
  | d + 1, h => by
    show sg_sum f (m + d) + f (m + d) = _
    rw [sg_sum_ext d h, h (m + d) (by omega)]
    rfl
theorem sg_sum_le {f f' : Nat → Nat} : ∀ {n : Nat}, (∀ k, k < n → f k ≤ f' k) → sg_sum f n ≤ sg_sum f' n
  | 0, _ => Nat.le_refl _
  | n + 1, h => by
    simp only [sg_sum]
    have h1 := sg_sum_le (f := f) (f' := f') (n := n) (fun k hk => h k (by omega))
    have h2 := h n (by omega)
    omega
section
variable {g : sg_G}
/-- the events below m whose numbers lie from lo to hi, slot by slot -/
theorem sg_count (h : sg_I g) (lo hi : Nat → Nat) (hh : ∀ x, x < gA g → hi x ≤ gC g x) : ∀ (m : Nat), m ≤ gE g →
    sg_ct (fun e => decide (lo (gS g e) ≤ gN g e) && decide (gN g e < hi (gS g e))) m = sg_sum (fun x => sg_ct (fun k => decide (lo x ≤ k) && decide (gT g x k < m)) (hi x)) (gA g)
  | 0, _ => by
    have h0 : ∀ (x n : Nat), sg_ct (fun k => decide (lo x ≤ k) && decide (gT g x k < 0)) n = 0 := by
      intro x n
      induction n with
      | zero => rfl
      | succ n ih =>
        show sg_ct _ n + _ = 0
        rw [ih]
        simp
    have h1 : ∀ n : Nat, sg_sum (fun x => sg_ct (fun k => decide (lo x ≤ k) && decide (gT g x k < 0)) (hi x)) n = 0 := by
      intro n
      induction n with
      | zero => rfl
      | succ n ih =>
        show sg_sum _ n + sg_ct _ (hi n) = 0
        rw [ih, h0]
    rw [h1]
    rfl
  | m + 1, hm => by
    have ih := sg_count h lo hi hh m (by omega)
    have hs := h.s (e := m) (by omega)
    have hn := h.n (e := m) (by omega)
    have ht := h.tn (e := m) (by omega)
    show sg_ct _ m + _ = _
    rw [ih]
    by_cases hc : lo (gS g m) ≤ gN g m ∧ gN g m < hi (gS g m)
    · rw [if_pos (by simpa using hc)]
      refine (sg_sum_one hs (fun x hx hne => sg_ct_congr fun k hk => ?_) ?_).symm
      · have hkc : k < gC g x := Nat.lt_of_lt_of_le hk (hh x hx)
        have h1 : gT g x k ≠ m := by
          intro h2
          apply hne
          rw [← h2]
          exact (h.ts hx hkc).symm
        congr 1
        simp only [decide_eq_decide]
        omega
      · refine sg_ct_one (j := gN g m) hc.2 (fun k hk hne => ?_) ?_ ?_
        · have hkc : k < gC g (gS g m) := Nat.lt_of_lt_of_le hk (hh _ hs)
          have h1 : gT g (gS g m) k ≠ m := by
            intro h2
            apply hne
            rw [← h2]
            rw [h2]
            have := h.tk hs hkc
            rw [h2] at this
            exact this.symm
          congr 1
          simp only [decide_eq_decide]
          omega
        · rw [ht]; simp
        · rw [ht]; simpa using hc.1
    · rw [if_neg (by simpa using hc)]
      refine sg_sum_congr fun x hx => sg_ct_congr fun k hk => ?_
      have hkc : k < gC g x := Nat.lt_of_lt_of_le hk (hh x hx)
      by_cases h1 : gT g x k = m
      · have h2 := h.ts hx hkc
        have h3 := h.tk hx hkc
        rw [h1] at h2 h3
        rw [h2, h3] at hc
        have h4 : ¬ lo x ≤ k := fun q => hc ⟨q, hk⟩
        simp [h4]
      · congr 1
        simp only [decide_eq_decide]
        omega
theorem sg_apart (h : sg_I g) {p : Nat} (lo : Nat → Nat) (hp : p < gE g) :
    sg_ct (fun e => decide (lo (gS g e) ≤ gN g e) && decide (gN g e < gP g p (gS g e))) (p + 1) = sg_sum (fun x => gP g p x - lo x) 16 := by
  rw [sg_count h lo (gP g p) (fun x hx => h.pc hp hx) (p + 1) (by omega)]
  have h1 := h.a
  have h2 : sg_sum (fun x => gP g p x - lo x) 16 = sg_sum (fun x => gP g p x - lo x) (gA g) := by
    have := sg_sum_ext (f := fun x => gP g p x - lo x) (m := gA g) (16 - gA g) (fun x hx => by show gP g p x - lo x = 0; rw [h.p0 hp hx]; omega)
    rw [← this]
    congr 1
    omega
  rw [h2]
  refine sg_sum_congr fun x hx => ?_
  rw [← sg_ct_from (lo x) (gP g p x)]
  refine sg_ct_congr fun k hk => ?_
  have := h.pt hp hk
  have h3 : gT g x k < p + 1 := by omega
  simp [h3]
/-- all below are in the history iff the counts say so -/
theorem sg_sees (h : sg_I g) {p : Nat} (hp : p < gE g) : sg_sum (gP g p) 16 = p + 1 ↔ ∀ f, f ≤ p → sg_in g f p := by
  have h1 := sg_apart h (fun _ => 0) hp
  have h2 : sg_sum (fun x => gP g p x - 0) 16 = sg_sum (gP g p) 16 := sg_sum_congr fun _ _ => rfl
  rw [h2] at h1
  rw [← h1, sg_ct_full]
  constructor
  · intro h3 f hf
    have := h3 f (by omega)
    unfold sg_in
    simpa using this
  · intro h3 f hf
    have : gN g f < gP g p (gS g f) := h3 f (by omega)
    simp [this]
/-! critical events -/
def sg_crit (g : sg_G) (e : Nat) : Prop := ∀ s, s < gA g → gP g e s < gC g s → sg_in g e (gT g s (gP g e s))
theorem sg_crit_iff (h : sg_I g) {e : Nat} (he : e < gE g) : sg_crit g e ↔ (∀ f, f < e → sg_in g f e) ∧ (∀ f, e < f → f < gE g → sg_in g e f) := by
  constructor
  · intro hc
    have key : ∀ f, f < gE g → ¬ sg_in g f e → e ≤ f ∧ sg_in g e f := by
      intro f hf hni
      have hs := h.s hf
      have hn := h.n hf
      have h1 : gP g e (gS g f) ≤ gN g f := Nat.le_of_not_lt hni
      have h2 : gP g e (gS g f) < gC g (gS g f) := by omega
      have h3 := hc _ hs h2
      have hk := h.t hs h2
      have h4 : sg_in g (gT g (gS g f) (gP g e (gS g f))) f := by
        rw [sg_same h hf (h.ts hs h2), h.tk hs h2]
        exact h1
      have h5 := sg_trans h hk hf h3 h4
      exact ⟨sg_le h he hf h5, h5⟩
    constructor
    · intro f hf
      rcases sg_in_dec g f e with h1 | h1
      · exact h1
      · have := (key f (by omega) h1).1
        omega
    · intro f h1 h2
      rcases sg_in_dec g f e with h3 | h3
      · have := sg_le h h2 he h3
        omega
      · exact (key f h2 h3).2
  · intro ⟨h1, h2⟩ s hs hk
    have ht := h.t hs hk
    have hni : ¬ sg_in g (gT g s (gP g e s)) e := by
      intro h3
      have h4 : gN g (gT g s (gP g e s)) < gP g e (gS g (gT g s (gP g e s))) := h3
      rw [h.ts hs hk, h.tk hs hk] at h4
      omega
    rcases Nat.lt_trichotomy (gT g s (gP g e s)) e with h3 | h3 | h3
    · exact absurd (h1 _ h3) hni
    · rw [h3] at hni
      exact absurd (sg_self h he) hni
    · exact h2 _ h3 ht
/-! spans: m of them, the i-th from the place fs i up to that before fs (i + 1) -/
def sg_S (g : sg_G) (m : Nat) (fs : Nat → Nat) : Prop :=
  fs m = gE g ∧ fs 0 = 0 ∧ (∀ i, i < m → fs i < fs (i + 1)) ∧
  ∀ i, i < m → ∀ e, fs i < e → e < fs (i + 1) → gS g e = gS g (fs i) ∧ gN g e = gN g (fs i) + (e - fs i) ∧ (∀ x, x ≠ gS g (fs i) → gP g e x = gP g (fs i) x) ∧ gR g e = [e - 1]
theorem sg_mono {m : Nat} {fs : Nat → Nat} (hm : ∀ i, i < m → fs i < fs (i + 1)) : ∀ {i j : Nat}, i ≤ j → j ≤ m → fs i ≤ fs j := by
  intro i j hij
  induction j with
  | zero => intro _; have : i = 0 := by omega
            subst this; exact Nat.le_refl _
  | succ j ih =>
    intro hj
    by_cases h1 : i = j + 1
    · subst h1; exact Nat.le_refl _
    · have := ih (by omega) (by omega)
      have := hm j (by omega)
      omega
theorem sg_span_of {fs : Nat → Nat} (h0 : fs 0 = 0) : ∀ (j : Nat), ∀ f, f < fs j → ∃ i, i < j ∧ fs i ≤ f ∧ f < fs (i + 1)
  | 0, f, hf => by omega
  | j + 1, f, hf => by
    by_cases h1 : f < fs j
    · obtain ⟨i, h2, h3, h4⟩ := sg_span_of h0 j f h1
      exact ⟨i, by omega, h3, h4⟩
    · exact ⟨j, by omega, by omega, hf⟩
theorem sg_S.span {m : Nat} {fs : Nat → Nat} (hS : sg_S g m fs) {f : Nat} (hf : f < gE g) : ∃ i, i < m ∧ fs i ≤ f ∧ f < fs (i + 1) :=
  sg_span_of hS.2.1 m f (by rw [hS.1]; exact hf)
theorem sg_S.lt {m : Nat} {fs : Nat → Nat} (hS : sg_S g m fs) {i : Nat} (hi : i < m) : fs i < gE g := by
  have h1 := hS.2.2.1 i hi
  have h2 := sg_mono hS.2.2.1 (i := i + 1) (j := m) hi (Nat.le_refl _)
  rw [hS.1] at h2
  omega
theorem sg_S.le {m : Nat} {fs : Nat → Nat} (hS : sg_S g m fs) {i : Nat} (hi : i ≤ m) : fs i ≤ gE g := by
  have h2 := sg_mono hS.2.2.1 hi (Nat.le_refl _)
  rw [hS.1] at h2
  exact h2
/-- slot and number in a span -/
theorem sg_S.s {m : Nat} {fs : Nat → Nat} (hS : sg_S g m fs) {i e : Nat} (hi : i < m) (h1 : fs i ≤ e) (h2 : e < fs (i + 1)) : gS g e = gS g (fs i) := by
  by_cases h3 : e = fs i
  · rw [h3]
  · exact (hS.2.2.2 i hi e (by omega) h2).1
theorem sg_S.n {m : Nat} {fs : Nat → Nat} (hS : sg_S g m fs) {i e : Nat} (hi : i < m) (h1 : fs i ≤ e) (h2 : e < fs (i + 1)) : gN g e = gN g (fs i) + (e - fs i) := by
  by_cases h3 : e = fs i
  · rw [h3]; omega
  · exact (hS.2.2.2 i hi e (by omega) h2).2.1
theorem sg_S.p {m : Nat} {fs : Nat → Nat} (hS : sg_S g m fs) {i e x : Nat} (hi : i < m) (h1 : fs i ≤ e) (h2 : e < fs (i + 1)) (hx : x ≠ gS g (fs i)) : gP g e x = gP g (fs i) x := by
  by_cases h3 : e = fs i
  · rw [h3]
  · exact (hS.2.2.2 i hi e (by omega) h2).2.2.1 x hx
theorem sg_above (h : sg_I g) {m : Nat} {fs : Nat → Nat} (hS : sg_S g m fs) {i e : Nat} (hi : i < m) (h1 : fs i ≤ e) (h2 : e < fs (i + 1)) :
    (∀ f, e < f → f < gE g → sg_in g e f) ↔ ∀ j, i < j → j < m → ∃ p ∈ gR g (fs j), e ≤ p := by
  have heE : e < gE g := by
    have := hS.le (i := i + 1) hi
    omega
  constructor
  · intro hf j hij hj
    have h3 : fs (i + 1) ≤ fs j := sg_mono hS.2.2.1 hij (Nat.le_of_lt hj)
    have h4 := hS.lt hj
    obtain ⟨p, hp, hv⟩ := sg_via h heE h4 (hf (fs j) (by omega) h4) (by omega)
    have h5 := h.pl h4 hp
    exact ⟨p, hp, sg_le h heE (by omega) hv⟩
  · intro hj f
    induction f using Nat.strongRecOn with
    | ind f ih =>
      intro hef hfE
      obtain ⟨j, hjm, h3, h4⟩ := hS.span hfE
      by_cases hij : j ≤ i
      · have hji : j = i := by
          rcases Nat.lt_or_ge j i with q | q
          · have := sg_mono hS.2.2.1 (i := j + 1) (j := i) q (Nat.le_of_lt hi)
            omega
          · omega
        subst hji
        have hs : gS g e = gS g f := by rw [hS.s hi h1 h2, hS.s hi h3 h4]
        rw [sg_same h hfE hs, hS.n hi h1 h2, hS.n hi h3 h4]
        omega
      · have hij' : i < j := by omega
        have h5 : fs (i + 1) ≤ fs j := sg_mono hS.2.2.1 hij' (Nat.le_of_lt hjm)
        by_cases h6 : f = fs j
        · obtain ⟨p, hp, hep⟩ := hj j hij' hjm
          rw [← h6] at hp
          have h7 := h.pl hfE hp
          have h8 := sg_par h hfE hp
          by_cases h9 : p = e
          · rw [h9] at h8; exact h8
          · exact sg_trans h (by omega) hfE (ih p h7 (by omega) (by omega)) h8
        · have hf1 : f - 1 < gE g := by omega
          have h7 := ih (f - 1) (by omega) (by omega) hf1
          refine sg_trans h hf1 hfE h7 ?_
          have hs : gS g (f - 1) = gS g f := by rw [hS.s hjm (e := f - 1) (by omega) (by omega), hS.s hjm h3 h4]
          rw [sg_same h hfE hs, hS.n hjm (e := f - 1) (by omega) (by omega), hS.n hjm h3 h4]
          omega
theorem sg_below (h : sg_I g) {m : Nat} {fs : Nat → Nat} (hS : sg_S g m fs) {i e : Nat} (hi : i < m) (h1 : fs i ≤ e) (h2 : e < fs (i + 1)) :
    (∀ f, f < e → sg_in g f e) ↔ ∀ f, f ≤ fs i → sg_in g f (fs i) := by
  have heE : e < gE g := by
    have := hS.le (i := i + 1) hi
    omega
  have hiE := hS.lt hi
  have hse := hS.s hi h1 h2
  have hne := hS.n hi h1 h2
  constructor
  · intro hf f hfi
    by_cases h3 : f = fs i
    · rw [h3]; exact sg_self h hiE
    · have h4 : gN g f < gP g e (gS g f) := hf f (by omega)
      by_cases h5 : gS g f = gS g (fs i)
      · rw [sg_same h hiE h5, sg_rise h (by omega) hiE h5]
        exact hfi
      · rw [hS.p hi h1 h2 h5] at h4
        exact h4
  · intro hf f hfe
    by_cases h3 : f ≤ fs i
    · refine sg_trans h hiE heE (hf f h3) ?_
      rw [sg_same h heE hse.symm, hne]
      omega
    · have h4 : gS g f = gS g e := by rw [hse, hS.s hi (by omega) (by omega)]
      rw [sg_same h heE h4, sg_rise h (by omega) heE h4]
      omega
/-- critical: its span sees all before, and each later span has a parent that isn't below -/
theorem sg_crit_span (h : sg_I g) {m : Nat} {fs : Nat → Nat} (hS : sg_S g m fs) {i e : Nat} (hi : i < m) (h1 : fs i ≤ e) (h2 : e < fs (i + 1)) :
    sg_crit g e ↔ sg_sum (gP g (fs i)) 16 = fs i + 1 ∧ ∀ j, i < j → j < m → ∃ p ∈ gR g (fs j), e ≤ p := by
  have heE : e < gE g := by
    have := hS.le (i := i + 1) hi
    omega
  rw [sg_crit_iff h heE, sg_above h hS hi h1 h2, sg_below h hS hi h1 h2, sg_sees h (hS.lt hi)]
end
end
section
/-! the k + 1 events of one add -/
def sg_ad (g : sg_G) (s : Nat) (ps : List Nat) : Nat → sg_G
  | 0 => sg_come g s ps
  | k + 1 => sg_come (sg_ad g s ps k) s [gE (sg_ad g s ps k) - 1]
section
variable {g : sg_G} {s : Nat} {ps : List Nat}
theorem sg_come_S (e : Nat) : gS (sg_come g s ps) e = if e = gE g then s else gS g e := rfl
theorem sg_come_N (e : Nat) : gN (sg_come g s ps) e = if e = gE g then gC g s else gN g e := rfl
theorem sg_come_P (e x : Nat) : gP (sg_come g s ps) e x = if e = gE g then (if x = s then gC g s + 1 else sg_mx g x ps) else gP g e x := by
  show va_up (gP g) (gE g) _ e x = _
  unfold va_up
  split <;> rfl
theorem sg_come_R (e : Nat) : gR (sg_come g s ps) e = if e = gE g then ps else gR g e := rfl
theorem sg_come_C (x : Nat) : gC (sg_come g s ps) x = if x = s then gC g s + 1 else gC g x := rfl
theorem sg_come_T (x k : Nat) : gT (sg_come g s ps) x k = if x = s ∧ k = gC g s then gE g else gT g x k := by
  show va_up (gT g) s _ x k = _
  unfold va_up
  by_cases h1 : x = s
  · subst h1; by_cases h2 : k = gC g x <;> simp [h2]
  · simp [h1]
theorem sg_ad_E : ∀ k, gE (sg_ad g s ps k) = gE g + k + 1
  | 0 => rfl
  | k + 1 => by show gE (sg_ad g s ps k) + 1 = _; rw [sg_ad_E k]; omega
theorem sg_ad_A : ∀ k, gA (sg_ad g s ps k) = gA g
  | 0 => rfl
  | k + 1 => sg_ad_A k
theorem sg_ad_M : ∀ k, gM (sg_ad g s ps k) = gM g
  | 0 => rfl
  | k + 1 => sg_ad_M k
theorem sg_ad_C : ∀ k x, gC (sg_ad g s ps k) x = if x = s then gC g s + k + 1 else gC g x
  | 0, x => rfl
  | k + 1, x => by
    show gC (sg_come _ s _) x = _
    rw [sg_come_C, sg_ad_C k, sg_ad_C k, if_pos rfl]
    by_cases h : x = s <;> simp [h]
    omega
theorem sg_ad_S : ∀ k e, gS (sg_ad g s ps k) e = if gE g ≤ e ∧ e ≤ gE g + k then s else gS g e
  | 0, e => by
    show gS (sg_come _ s _) e = _
    rw [sg_come_S]
    by_cases h : e = gE g
    · rw [if_pos h, if_pos (by omega)]
    · rw [if_neg h, if_neg (by omega)]
  | k + 1, e => by
    show gS (sg_come _ s _) e = _
    rw [sg_come_S, sg_ad_S k, sg_ad_E k]
    by_cases h : e = gE g + k + 1
    · rw [if_pos h, if_pos (by omega)]
    · rw [if_neg h]
      by_cases h2 : gE g ≤ e ∧ e ≤ gE g + k
      · rw [if_pos h2, if_pos (by omega)]
      · rw [if_neg h2, if_neg (by omega)]
theorem sg_ad_N : ∀ k e, gN (sg_ad g s ps k) e = if gE g ≤ e ∧ e ≤ gE g + k then gC g s + (e - gE g) else gN g e
  | 0, e => by
    show gN (sg_come _ s _) e = _
    rw [sg_come_N]
    by_cases h : e = gE g
    · rw [if_pos h, if_pos (by omega)]; omega
    · rw [if_neg h, if_neg (by omega)]
  | k + 1, e => by
    show gN (sg_come _ s _) e = _
    rw [sg_come_N, sg_ad_N k, sg_ad_E k, sg_ad_C k, if_pos rfl]
    by_cases h : e = gE g + k + 1
    · rw [if_pos h, if_pos (by omega)]; omega
    · rw [if_neg h]
      by_cases h2 : gE g ≤ e ∧ e ≤ gE g + k
      · rw [if_pos h2, if_pos (by omega)]
      · rw [if_neg h2, if_neg (by omega)]
theorem sg_ad_P : ∀ k e x, gP (sg_ad g s ps k) e x = if gE g ≤ e ∧ e ≤ gE g + k then (if x = s then gC g s + (e - gE g) + 1 else sg_mx g x ps) else gP g e x
  | 0, e, x => by
    show gP (sg_come _ s _) e x = _
    rw [sg_come_P]
    by_cases h : e = gE g
    · rw [if_pos h, if_pos (show gE g ≤ e ∧ e ≤ gE g + 0 by omega)]
      by_cases h1 : x = s
      · rw [if_pos h1, if_pos h1]; omega
      · rw [if_neg h1, if_neg h1]
    · rw [if_neg h, if_neg (show ¬ (gE g ≤ e ∧ e ≤ gE g + 0) by omega)]
  | k + 1, e, x => by
    show gP (sg_come _ s _) e x = _
    rw [sg_come_P, sg_ad_P k, sg_ad_E k, sg_ad_C k, if_pos (show s = s from rfl)]
    by_cases h : e = gE g + k + 1
    · rw [if_pos h, if_pos (show gE g ≤ e ∧ e ≤ gE g + (k + 1) by omega)]
      by_cases h1 : x = s
      · rw [if_pos h1, if_pos h1]; omega
      · rw [if_neg h1, if_neg h1]
        show max (gP (sg_ad g s ps k) (gE g + k + 1 - 1) x) 0 = _
        rw [sg_ad_P k, if_pos (show gE g ≤ gE g + k + 1 - 1 ∧ gE g + k + 1 - 1 ≤ gE g + k by omega), if_neg h1]
        omega
    · rw [if_neg h]
      by_cases h2 : gE g ≤ e ∧ e ≤ gE g + k
      · rw [if_pos h2, if_pos (show gE g ≤ e ∧ e ≤ gE g + (k + 1) by omega)]
      · rw [if_neg h2, if_neg (show ¬ (gE g ≤ e ∧ e ≤ gE g + (k + 1)) by omega)]
theorem sg_ad_R : ∀ k e, gR (sg_ad g s ps k) e = if e = gE g then ps else if gE g < e ∧ e ≤ gE g + k then [e - 1] else gR g e
  | 0, e => by
    show gR (sg_come _ s _) e = _
    rw [sg_come_R]
    by_cases h : e = gE g
    · rw [if_pos h, if_pos h]
    · rw [if_neg h, if_neg h, if_neg (by omega)]
  | k + 1, e => by
    show gR (sg_come _ s _) e = _
    rw [sg_come_R, sg_ad_R k, sg_ad_E k]
    by_cases h : e = gE g + k + 1
    · rw [if_pos h, if_neg (by omega), if_pos (by omega), h]
    · rw [if_neg h]
      by_cases h1 : e = gE g
      · rw [if_pos h1, if_pos h1]
      · rw [if_neg h1, if_neg h1]
        by_cases h2 : gE g < e ∧ e ≤ gE g + k
        · rw [if_pos h2, if_pos (by omega)]
        · rw [if_neg h2, if_neg (by omega)]
theorem sg_ad_T : ∀ k x j, gT (sg_ad g s ps k) x j = if x = s ∧ gC g s ≤ j ∧ j ≤ gC g s + k then gE g + (j - gC g s) else gT g x j
  | 0, x, j => by
    show gT (sg_come _ s _) x j = _
    rw [sg_come_T]
    by_cases h : x = s ∧ j = gC g s
    · rw [if_pos h, if_pos (by omega)]; omega
    · rw [if_neg h, if_neg (by omega)]
  | k + 1, x, j => by
    show gT (sg_come _ s _) x j = _
    rw [sg_come_T, sg_ad_T k, sg_ad_E k, sg_ad_C k, if_pos rfl]
    by_cases h : x = s ∧ j = gC g s + k + 1
    · rw [if_pos h, if_pos (by omega)]; omega
    · rw [if_neg h]
      by_cases h2 : x = s ∧ gC g s ≤ j ∧ j ≤ gC g s + k
      · rw [if_pos h2, if_pos (by omega)]
      · rw [if_neg h2, if_neg (by omega)]
theorem sg_ad_P1 {k e x : Nat} (he : gE g ≤ e ∧ e ≤ gE g + k) (hx : x ≠ s) : gP (sg_ad g s ps k) e x = sg_mx g x ps := by
  rw [sg_ad_P, if_pos he, if_neg hx]
theorem sg_ad_Ps {k e : Nat} (he : gE g ≤ e ∧ e ≤ gE g + k) : gP (sg_ad g s ps k) e s = gC g s + (e - gE g) + 1 := by
  rw [sg_ad_P, if_pos he, if_pos rfl]
theorem sg_ad_P0 {k e x : Nat} (he : e < gE g) : gP (sg_ad g s ps k) e x = gP g e x := by
  rw [sg_ad_P, if_neg (show ¬ (gE g ≤ e ∧ e ≤ gE g + k) by omega)]
theorem sg_ad_S0 {k e : Nat} (he : e < gE g) : gS (sg_ad g s ps k) e = gS g e := by
  rw [sg_ad_S, if_neg (show ¬ (gE g ≤ e ∧ e ≤ gE g + k) by omega)]
theorem sg_ad_N0 {k e : Nat} (he : e < gE g) : gN (sg_ad g s ps k) e = gN g e := by
  rw [sg_ad_N, if_neg (show ¬ (gE g ≤ e ∧ e ≤ gE g + k) by omega)]
theorem sg_ad_S1 {k e : Nat} (he : gE g ≤ e ∧ e ≤ gE g + k) : gS (sg_ad g s ps k) e = s := by
  rw [sg_ad_S, if_pos he]
theorem sg_ad_N1 {k e : Nat} (he : gE g ≤ e ∧ e ≤ gE g + k) : gN (sg_ad g s ps k) e = gC g s + (e - gE g) := by
  rw [sg_ad_N, if_pos he]
theorem sg_ad_I (h : sg_I g) (hs : s < gA g) (hp : ps.Pairwise (· < ·)) (hl : ∀ p ∈ ps, p < gE g) (hg : 0 < gC g s → ∃ p ∈ ps, gP g p s = gC g s) : ∀ k, gE g + k < 8192 → sg_I (sg_ad g s ps k)
  | 0, hk => sg_come_I h hs hk hp hl hg
  | k + 1, hk => by
    have ih := sg_ad_I h hs hp hl hg k (by omega)
    refine sg_come_I ih (by rw [sg_ad_A]; exact hs) (by rw [sg_ad_E]; omega) (List.pairwise_singleton _ _) (fun p hp => ?_) (fun _ => ⟨_, List.mem_singleton.mpr rfl, ?_⟩)
    · rw [List.mem_singleton.mp hp, sg_ad_E]; omega
    · rw [sg_ad_P, sg_ad_E, sg_ad_C, if_pos (show gE g ≤ gE g + k + 1 - 1 ∧ gE g + k + 1 - 1 ≤ gE g + k by omega), if_pos (show s = s from rfl), if_pos (show s = s from rfl)]
      omega
/-- the spans behind an add -/
theorem sg_ad_Sp {m : Nat} {fs : Nat → Nat} (hS : sg_S g m fs) (k : Nat) : sg_S (sg_ad g s ps k) (m + 1) (va_up fs (m + 1) (gE g + k + 1)) := by
  have old : ∀ i, i ≤ m → va_up fs (m + 1) (gE g + k + 1) i = fs i := fun i hi => va_up_ne _ _ (by omega)
  refine ⟨by rw [va_up_self, sg_ad_E], by rw [old 0 (by omega)]; exact hS.2.1, fun i hi => ?_, fun i hi e h1 h2 => ?_⟩
  · by_cases h1 : i = m
    · subst h1
      rw [va_up_self, old i (Nat.le_refl _), hS.1]
      omega
    · rw [old i (by omega), old (i + 1) (by omega)]
      exact hS.2.2.1 i (by omega)
  · by_cases h3 : i = m
    · subst h3
      rw [va_up_self] at h2
      rw [old i (Nat.le_refl _), hS.1] at h1
      rw [old i (Nat.le_refl _), hS.1, sg_ad_S, sg_ad_S, sg_ad_N, sg_ad_N, sg_ad_R, if_pos (by omega), if_pos (by omega), if_pos (by omega), if_pos (by omega), if_neg (by omega), if_pos (by omega)]
      refine ⟨rfl, by omega, fun x hx => ?_, rfl⟩
      rw [sg_ad_P1 (by omega) hx, sg_ad_P1 (by omega) hx]
    · have hi' : i < m := by omega
      rw [old i (by omega)] at h1
      rw [old (i + 1) (by omega)] at h2
      rw [old i (by omega)]
      have hle := hS.le (i := i + 1) hi'
      obtain ⟨a1, a2, a3, a4⟩ := hS.2.2.2 i hi' e h1 h2
      rw [sg_ad_S, sg_ad_S, sg_ad_N, sg_ad_N, sg_ad_R, if_neg (by omega), if_neg (by omega), if_neg (by omega), if_neg (by omega), if_neg (by omega), if_neg (by omega)]
      refine ⟨a1, a2, fun x hx => ?_, a4⟩
      rw [sg_ad_P0 (by omega), sg_ad_P0 (by omega)]
      exact a3 x hx
end
/-! heads -/
def sg_lt (g : sg_G) (s : Nat) : Nat := gT g s (gC g s - 1)
def sg_hd (g : sg_G) (t : Nat) : Prop := ∀ u, u < gA g → 0 < gC g u → sg_lt g u ≠ sg_lt g t → ¬ sg_in g (sg_lt g t) (sg_lt g u)
section
variable {g : sg_G} {s : Nat} {ps : List Nat}
theorem sg_lt_E (h : sg_I g) {t : Nat} (ht : t < gA g) (hc : 0 < gC g t) : sg_lt g t < gE g := h.t ht (by omega)
theorem sg_lt_S (h : sg_I g) {t : Nat} (ht : t < gA g) (hc : 0 < gC g t) : gS g (sg_lt g t) = t := h.ts ht (by omega)
theorem sg_lt_N (h : sg_I g) {t : Nat} (ht : t < gA g) (hc : 0 < gC g t) : gN g (sg_lt g t) = gC g t - 1 := h.tk ht (by omega)
/-- an event is in the history of its agent's latest -/
theorem sg_in_lt (h : sg_I g) {e : Nat} (he : e < gE g) : sg_in g e (sg_lt g (gS g e)) := by
  have hs := h.s he
  have hn := h.n he
  have hl := sg_lt_E h hs (by omega)
  rw [sg_same h hl (sg_lt_S h hs (by omega)).symm, sg_lt_N h hs (by omega)]
  omega
theorem sg_hd_ad (h : sg_I g) (hs : s < gA g) (hp : ps.Pairwise (· < ·)) (hl : ∀ p ∈ ps, p < gE g) (hg : 0 < gC g s → ∃ p ∈ ps, gP g p s = gC g s) (k : Nat) (hk : gE g + k < 8192) {t : Nat} (ht : t < gA g) (hct : t ≠ s → 0 < gC g t) :
    sg_hd (sg_ad g s ps k) t ↔ t = s ∨ (sg_hd g t ∧ sg_lt g t ∉ ps) := by
  have I' := sg_ad_I h hs hp hl hg k hk
  have ltS : sg_lt (sg_ad g s ps k) s = gE g + k := by
    unfold sg_lt
    rw [sg_ad_C, if_pos rfl, sg_ad_T, if_pos (by omega)]
    omega
  have ltO : ∀ u, u ≠ s → sg_lt (sg_ad g s ps k) u = sg_lt g u := fun u hu => by
    unfold sg_lt
    rw [sg_ad_C, if_neg hu, sg_ad_T, if_neg (by omega)]
  have cO : ∀ u, u ≠ s → gC (sg_ad g s ps k) u = gC g u := fun u hu => by rw [sg_ad_C, if_neg hu]
  have cS : gC (sg_ad g s ps k) s = gC g s + k + 1 := by rw [sg_ad_C, if_pos rfl]
  -- the new latest is in nobody else's history; the old ones as they were
  have inOld : ∀ e f, e < gE g → f < gE g → (sg_in (sg_ad g s ps k) e f ↔ sg_in g e f) := by
    intro e f he hf
    unfold sg_in
    rw [sg_ad_N0 he, sg_ad_S0 he, sg_ad_P0 hf]
  have inNew : ∀ e, e < gE g → gS g e ≠ s → (sg_in (sg_ad g s ps k) e (gE g + k) ↔ ∃ p ∈ ps, sg_in g e p) := by
    intro e he hes
    unfold sg_in
    rw [sg_ad_N0 he, sg_ad_S0 he, sg_ad_P1 (by omega) hes]
    constructor
    · intro h1
      obtain ⟨p, hp, hv⟩ := sg_mx_at (g := g) (x := gS g e) (l := ps) (by omega)
      exact ⟨p, hp, by rw [hv]; exact h1⟩
    · rintro ⟨p, hp, hv⟩
      exact Nat.lt_of_lt_of_le hv (sg_mx_ge hp)
  by_cases hts : t = s
  · subst hts
    refine ⟨fun _ => Or.inl rfl, fun _ u hu hcu hne hin => ?_⟩
    have hu' : u < gA g := by rw [sg_ad_A] at hu; exact hu
    have h1 := sg_lt_E I' hu hcu
    have h2 := sg_lt_E I' (t := t) (by rw [sg_ad_A]; exact hs) (by rw [cS]; omega)
    have h3 := sg_le I' h2 h1 hin
    rw [sg_ad_E] at h1
    rw [ltS] at h3 hne
    omega
  · have hct' := hct hts
    have hte := sg_lt_E h ht hct'
    have htS := sg_lt_S h ht hct'
    have htN := sg_lt_N h ht hct'
    constructor
    · intro hh
      refine Or.inr ⟨?_, ?_⟩
      · intro u hu hcu hne hin
        by_cases hus : u = s
        · subst hus
          obtain ⟨p, hp, hv⟩ := hg hcu
          have hpE := hl p hp
          have h1 : sg_in g (sg_lt g u) p := by
            unfold sg_in
            rw [sg_lt_S h hu hcu, hv, sg_lt_N h hu hcu]
            omega
          have h2 := sg_trans h (sg_lt_E h hu hcu) hpE hin h1
          refine hh u (by rw [sg_ad_A]; exact hu) (by rw [cS]; omega) (by rw [ltS, ltO t hts]; omega) ?_
          rw [ltS, ltO t hts]
          exact (inNew _ hte (by rw [htS]; exact hts)).2 ⟨p, hp, h2⟩
        · refine hh u (by rw [sg_ad_A]; exact hu) (by rw [cO u hus]; exact hcu) (by rw [ltO u hus, ltO t hts]; exact hne) ?_
          rw [ltO u hus, ltO t hts]
          exact (inOld _ _ hte (sg_lt_E h hu hcu)).2 hin
      · intro hmem
        refine hh s (by rw [sg_ad_A]; exact hs) (by rw [cS]; omega) (by rw [ltS, ltO t hts]; omega) ?_
        rw [ltS, ltO t hts]
        exact (inNew _ hte (by rw [htS]; exact hts)).2 ⟨_, hmem, sg_self h hte⟩
    · rintro (h1 | ⟨h1, h2⟩)
      · exact absurd h1 hts
      · intro u hu hcu hne hin
        have hu' : u < gA g := by rw [sg_ad_A] at hu; exact hu
        by_cases hus : u = s
        · subst hus
          rw [ltS, ltO t hts] at hin
          obtain ⟨p, hp, hv⟩ := (inNew _ hte (by rw [htS]; exact hts)).1 hin
          have hpE := hl p hp
          have hpS := h.s hpE
          have hpC : 0 < gC g (gS g p) := by have := h.n hpE; omega
          by_cases h3 : gS g p = t
          · have h4 := sg_le h hte hpE hv
            have h5 := sg_le h hpE (sg_lt_E h hpS hpC) (sg_in_lt h hpE)
            rw [h3] at h5
            have h6 : p = sg_lt g t := by omega
            exact h2 (h6 ▸ hp)
          · refine h1 (gS g p) hpS hpC ?_ (sg_trans h hpE (sg_lt_E h hpS hpC) hv (sg_in_lt h hpE))
            intro h4
            have h5 := sg_lt_S h hpS hpC
            rw [h4, htS] at h5
            exact h3 h5.symm
        · rw [ltO u hus, ltO t hts] at hin hne
          rw [cO u hus] at hcu
          exact h1 u hu' hcu hne ((inOld _ _ hte (sg_lt_E h hu' hcu)).1 hin)
end
/-! the list: insertion, as both sides do it -/
def sg_ins (p : Nat) : List Nat → List Nat
  | [] => [p]
  | q :: r => if p < q then p :: q :: r else q :: sg_ins p r
theorem sg_ins_mem {p x : Nat} : ∀ {l : List Nat}, x ∈ sg_ins p l ↔ x = p ∨ x ∈ l
  | [] => by simp [sg_ins]
  | q :: r => by
    unfold sg_ins
    split
    · simp
    · simp only [List.mem_cons, sg_ins_mem (l := r)]
      constructor
      · rintro (h | h | h)
        · exact Or.inr (Or.inl h)
        · exact Or.inl h
        · exact Or.inr (Or.inr h)
      · rintro (h | h | h)
        · exact Or.inr (Or.inl h)
        · exact Or.inl h
        · exact Or.inr (Or.inr h)
theorem sg_ins_len {p : Nat} : ∀ {l : List Nat}, (sg_ins p l).length = l.length + 1
  | [] => rfl
  | q :: r => by
    unfold sg_ins
    split
    · rfl
    · simp only [List.length_cons, sg_ins_len (l := r)]
theorem sg_ins_sort {p : Nat} : ∀ {l : List Nat}, l.Pairwise (· < ·) → p ∉ l → (sg_ins p l).Pairwise (· < ·)
  | [], _, _ => by simp [sg_ins]
  | q :: r, h, hp => by
    rw [List.pairwise_cons] at h
    have hpq : p ≠ q := fun z => hp (z ▸ List.mem_cons_self)
    have hpr : p ∉ r := fun z => hp (List.mem_cons_of_mem _ z)
    unfold sg_ins
    split
    · rename_i h1
      rw [List.pairwise_cons, List.pairwise_cons]
      refine ⟨fun x hx => ?_, h⟩
      rcases List.mem_cons.mp hx with h2 | h2
      · omega
      · have := h.1 x h2; omega
    · rename_i h1
      rw [List.pairwise_cons]
      refine ⟨fun x hx => ?_, sg_ins_sort h.2 hpr⟩
      rcases sg_ins_mem.mp hx with h2 | h2
      · omega
      · exact h.1 x h2
/-- the list as the reference has it, laid by rising places -/
def sg_sort : List Nat → List Nat → List Nat
  | acc, [] => acc
  | acc, p :: r => sg_sort (sg_ins p acc) r
theorem sg_sort_app {p : Nat} : ∀ {l acc : List Nat}, sg_sort acc (l ++ [p]) = sg_ins p (sg_sort acc l)
  | [], _ => rfl
  | q :: r, acc => sg_sort_app (l := r) (acc := sg_ins q acc)
theorem sg_sort_mem {x : Nat} : ∀ {l acc : List Nat}, x ∈ sg_sort acc l ↔ x ∈ acc ∨ x ∈ l
  | [], acc => by simp [sg_sort]
  | q :: r, acc => by
    show x ∈ sg_sort (sg_ins q acc) r ↔ _
    rw [sg_sort_mem (l := r), sg_ins_mem, List.mem_cons]
    constructor
    · rintro ((h | h) | h)
      · exact Or.inr (Or.inl h)
      · exact Or.inl h
      · exact Or.inr (Or.inr h)
    · rintro (h | h | h)
      · exact Or.inl (Or.inr h)
      · exact Or.inl (Or.inl h)
      · exact Or.inr h
theorem sg_sort_len : ∀ {l acc : List Nat}, (sg_sort acc l).length = acc.length + l.length
  | [], acc => by simp [sg_sort]
  | q :: r, acc => by
    show (sg_sort (sg_ins q acc) r).length = _
    rw [sg_sort_len (l := r), sg_ins_len, List.length_cons]
    omega
theorem sg_sort_sort : ∀ {l acc : List Nat}, acc.Pairwise (· < ·) → l.Nodup → (∀ x ∈ l, x ∉ acc) → (sg_sort acc l).Pairwise (· < ·)
  | [], acc, h, _, _ => h
  | q :: r, acc, h, hn, hd => by
    rw [List.nodup_cons] at hn
    show (sg_sort (sg_ins q acc) r).Pairwise (· < ·)
    refine sg_sort_sort (l := r) (acc := sg_ins q acc) (sg_ins_sort h (hd q List.mem_cons_self)) hn.2 (fun x hx hm => ?_)
    rcases sg_ins_mem.mp hm with h1 | h1
    · exact hn.1 (h1 ▸ hx)
    · exact hd x (List.mem_cons_of_mem _ hx) h1
end
