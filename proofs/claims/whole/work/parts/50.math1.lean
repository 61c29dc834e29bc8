/-! The value that both sides hold: events by their places, agents by their slots. -/
/-- events, agents, slot, number, past, parents, names, counts, places -/
abbrev sg_G : Type := Nat × Nat × (Nat → Nat) × (Nat → Nat) × (Nat → Nat → Nat) × (Nat → List Nat) × (Nat → Nat) × (Nat → Nat) × (Nat → Nat → Nat)
def gE (g : sg_G) : Nat := g.1
def gA (g : sg_G) : Nat := g.2.1
def gS (g : sg_G) : Nat → Nat := g.2.2.1
def gN (g : sg_G) : Nat → Nat := g.2.2.2.1
def gP (g : sg_G) : Nat → Nat → Nat := g.2.2.2.2.1
def gR (g : sg_G) : Nat → List Nat := g.2.2.2.2.2.1
def gM (g : sg_G) : Nat → Nat := g.2.2.2.2.2.2.1
def gC (g : sg_G) : Nat → Nat := g.2.2.2.2.2.2.2.1
def gT (g : sg_G) : Nat → Nat → Nat := g.2.2.2.2.2.2.2.2
/-- e is in the history of f (or is f) -/
def sg_in (g : sg_G) (e f : Nat) : Prop := gN g e < gP g f (gS g e)
theorem sg_in_dec (g : sg_G) (e f : Nat) : sg_in g e f ∨ ¬ sg_in g e f := Classical.em _
def sg_I (g : sg_G) : Prop :=
  (gA g ≤ 16 ∧ gE g ≤ 8192) ∧
  (∀ e, e < gE g → gS g e < gA g ∧ gN g e < gC g (gS g e) ∧ gT g (gS g e) (gN g e) = e) ∧
  (∀ s k, s < gA g → k < gC g s → gT g s k < gE g ∧ gS g (gT g s k) = s ∧ gN g (gT g s k) = k) ∧
  (∀ s k k', s < gA g → k < k' → k' < gC g s → gT g s k < gT g s k') ∧
  (∀ e, e < gE g → gP g e (gS g e) = gN g e + 1) ∧
  (∀ e x, e < gE g → (x < gA g → gP g e x ≤ gC g x) ∧ (gA g ≤ x → gP g e x = 0) ∧ ∀ k, k < gP g e x → gT g x k ≤ e) ∧
  (∀ e f, e < gE g → f < gE g → sg_in g e f → ∀ x, gP g e x ≤ gP g f x) ∧
  (∀ s t, s < gA g → t < gA g → gM g s = gM g t → s = t) ∧ (∀ s, s < gA g → gM g s < 256) ∧
  (∀ e, e < gE g → (gR g e).Pairwise (· < ·) ∧ (∀ p ∈ gR g e, p < e) ∧ (∀ p ∈ gR g e, ∀ x, gP g p x ≤ gP g e x) ∧ (∀ x, x ≠ gS g e → 0 < gP g e x → ∃ p ∈ gR g e, gP g p x = gP g e x) ∧ (0 < gN g e → ∃ p ∈ gR g e, gP g p (gS g e) = gN g e))
section
variable {g : sg_G}
theorem sg_I.a (h : sg_I g) : gA g ≤ 16 := h.1.1
theorem sg_I.e (h : sg_I g) : gE g ≤ 8192 := h.1.2
theorem sg_I.s (h : sg_I g) {e : Nat} (he : e < gE g) : gS g e < gA g := (h.2.1 e he).1
theorem sg_I.n (h : sg_I g) {e : Nat} (he : e < gE g) : gN g e < gC g (gS g e) := (h.2.1 e he).2.1
theorem sg_I.tn (h : sg_I g) {e : Nat} (he : e < gE g) : gT g (gS g e) (gN g e) = e := (h.2.1 e he).2.2
theorem sg_I.t (h : sg_I g) {s k : Nat} (hs : s < gA g) (hk : k < gC g s) : gT g s k < gE g := (h.2.2.1 s k hs hk).1
theorem sg_I.ts (h : sg_I g) {s k : Nat} (hs : s < gA g) (hk : k < gC g s) : gS g (gT g s k) = s := (h.2.2.1 s k hs hk).2.1
theorem sg_I.tk (h : sg_I g) {s k : Nat} (hs : s < gA g) (hk : k < gC g s) : gN g (gT g s k) = k := (h.2.2.1 s k hs hk).2.2
theorem sg_I.up (h : sg_I g) {s k k' : Nat} (hs : s < gA g) (hk : k < k') (hk' : k' < gC g s) : gT g s k < gT g s k' := h.2.2.2.1 s k k' hs hk hk'
theorem sg_I.own (h : sg_I g) {e : Nat} (he : e < gE g) : gP g e (gS g e) = gN g e + 1 := h.2.2.2.2.1 e he
theorem sg_I.pc (h : sg_I g) {e x : Nat} (he : e < gE g) (hx : x < gA g) : gP g e x ≤ gC g x := (h.2.2.2.2.2.1 e x he).1 hx
theorem sg_I.p0 (h : sg_I g) {e x : Nat} (he : e < gE g) (hx : gA g ≤ x) : gP g e x = 0 := (h.2.2.2.2.2.1 e x he).2.1 hx
theorem sg_I.pt (h : sg_I g) {e x k : Nat} (he : e < gE g) (hk : k < gP g e x) : gT g x k ≤ e := (h.2.2.2.2.2.1 e x he).2.2 k hk
theorem sg_I.tr (h : sg_I g) {e f : Nat} (he : e < gE g) (hf : f < gE g) (hi : sg_in g e f) (x : Nat) : gP g e x ≤ gP g f x := h.2.2.2.2.2.2.1 e f he hf hi x
theorem sg_I.nm (h : sg_I g) {s t : Nat} (hs : s < gA g) (ht : t < gA g) (he : gM g s = gM g t) : s = t := h.2.2.2.2.2.2.2.1 s t hs ht he
theorem sg_I.nl (h : sg_I g) {s : Nat} (hs : s < gA g) : gM g s < 256 := h.2.2.2.2.2.2.2.2.1 s hs
theorem sg_I.ps (h : sg_I g) {e : Nat} (he : e < gE g) : (gR g e).Pairwise (· < ·) := (h.2.2.2.2.2.2.2.2.2 e he).1
theorem sg_I.pl (h : sg_I g) {e p : Nat} (he : e < gE g) (hp : p ∈ gR g e) : p < e := (h.2.2.2.2.2.2.2.2.2 e he).2.1 p hp
theorem sg_I.pp (h : sg_I g) {e p : Nat} (he : e < gE g) (hp : p ∈ gR g e) (x : Nat) : gP g p x ≤ gP g e x := (h.2.2.2.2.2.2.2.2.2 e he).2.2.1 p hp x
theorem sg_I.px (h : sg_I g) {e x : Nat} (he : e < gE g) (hx : x ≠ gS g e) (h0 : 0 < gP g e x) : ∃ p ∈ gR g e, gP g p x = gP g e x := (h.2.2.2.2.2.2.2.2.2 e he).2.2.2.1 x hx h0
theorem sg_I.pn (h : sg_I g) {e : Nat} (he : e < gE g) (h0 : 0 < gN g e) : ∃ p ∈ gR g e, gP g p (gS g e) = gN g e := (h.2.2.2.2.2.2.2.2.2 e he).2.2.2.2 h0
theorem sg_le (h : sg_I g) {e f : Nat} (he : e < gE g) (hf : f < gE g) (hi : sg_in g e f) : e ≤ f := by
  have := h.pt hf hi
  rw [h.tn he] at this
  exact this
theorem sg_self (h : sg_I g) {e : Nat} (he : e < gE g) : sg_in g e e := by
  unfold sg_in
  rw [h.own he]
  omega
theorem sg_trans (h : sg_I g) {e f d : Nat} (hf : f < gE g) (hd : d < gE g) (h1 : sg_in g e f) (h2 : sg_in g f d) : sg_in g e d :=
  Nat.lt_of_lt_of_le h1 (h.tr hf hd h2 _)
theorem sg_same (h : sg_I g) {e f : Nat} (hf : f < gE g) (hs : gS g e = gS g f) : sg_in g e f ↔ gN g e ≤ gN g f := by
  unfold sg_in
  rw [hs, h.own hf]
  omega
theorem sg_rise (h : sg_I g) {e f : Nat} (he : e < gE g) (hf : f < gE g) (hs : gS g e = gS g f) : gN g e ≤ gN g f ↔ e ≤ f := by
  have h1 := h.tn he
  have h2 := h.tn hf
  constructor
  · intro h3
    rcases Nat.lt_or_ge (gN g e) (gN g f) with h4 | h4
    · have := h.up (h.s hf) h4 (h.n hf)
      rw [h2, ← hs, h1] at this
      omega
    · have h5 : gN g e = gN g f := by omega
      rw [hs, h5, h2] at h1
      omega
  · intro h3
    rcases Nat.lt_or_ge (gN g f) (gN g e) with h4 | h4
    · have := h.up (h.s he) h4 (h.n he)
      rw [h1, hs, h2] at this
      omega
    · exact h4
/-- an event's parents are in its history -/
theorem sg_par (h : sg_I g) {e p : Nat} (he : e < gE g) (hp : p ∈ gR g e) : sg_in g p e := by
  have hpe := h.pl he hp
  have := h.pp he hp (gS g p)
  have h2 := h.own (e := p) (by omega)
  unfold sg_in
  omega
/-- what is in the history of f, but f itself, is in that of a parent -/
theorem sg_via (h : sg_I g) {e f : Nat} (he : e < gE g) (hf : f < gE g) (hi : sg_in g e f) (hne : e ≠ f) : ∃ p ∈ gR g f, sg_in g e p := by
  by_cases hs : gS g e = gS g f
  · have h1 := (sg_same h hf hs).1 hi
    have h2 : gN g e ≠ gN g f := by
      intro h3
      have h4 := h.tn he
      rw [hs, h3, h.tn hf] at h4
      exact hne h4.symm
    obtain ⟨p, hp, hv⟩ := h.pn hf (by omega)
    refine ⟨p, hp, ?_⟩
    unfold sg_in
    rw [hs, hv]
    omega
  · have h0 : gN g e < gP g f (gS g e) := hi
    obtain ⟨p, hp, hv⟩ := h.px hf (x := gS g e) hs (by omega)
    refine ⟨p, hp, ?_⟩
    unfold sg_in
    rw [hv]
    exact h0
end
/-! the greatest of the pasts of a list of places -/
def sg_mx (g : sg_G) (x : Nat) : List Nat → Nat
  | [] => 0
  | p :: r => max (gP g p x) (sg_mx g x r)
theorem sg_mx_ge {g : sg_G} {x p : Nat} : ∀ {l : List Nat}, p ∈ l → gP g p x ≤ sg_mx g x l
  | q :: r, h => by
    rcases List.mem_cons.mp h with h1 | h1
    · subst h1; exact Nat.le_max_left _ _
    · exact Nat.le_trans (sg_mx_ge h1) (Nat.le_max_right _ _)
theorem sg_mx_at {g : sg_G} {x : Nat} : ∀ {l : List Nat}, 0 < sg_mx g x l → ∃ p ∈ l, gP g p x = sg_mx g x l
  | [], h => by simp [sg_mx] at h
  | q :: r, h => by
    by_cases h1 : sg_mx g x r ≤ gP g q x
    · exact ⟨q, List.mem_cons_self, by simp [sg_mx, Nat.max_eq_left h1]⟩
    · have h2 : sg_mx g x (q :: r) = sg_mx g x r := by simp only [sg_mx]; exact Nat.max_eq_right (by omega)
      rw [h2] at h ⊢
      obtain ⟨p, hp, hv⟩ := sg_mx_at h
      exact ⟨p, List.mem_cons_of_mem _ hp, hv⟩
theorem sg_mx_le {g : sg_G} {x b : Nat} : ∀ {l : List Nat}, (∀ p ∈ l, gP g p x ≤ b) → sg_mx g x l ≤ b
  | [], _ => Nat.zero_le _
  | q :: r, h => Nat.max_le.mpr ⟨h q List.mem_cons_self, sg_mx_le fun p hp => h p (List.mem_cons_of_mem _ hp)⟩
theorem sg_mx_mem {g : sg_G} {x : Nat} {l l' : List Nat} (h : ∀ p, p ∈ l ↔ p ∈ l') : sg_mx g x l = sg_mx g x l' :=
  Nat.le_antisymm (sg_mx_le fun _ hp => sg_mx_ge ((h _).1 hp)) (sg_mx_le fun _ hp => sg_mx_ge ((h _).2 hp))
theorem sg_mx_app {g : sg_G} {x p : Nat} : ∀ {l : List Nat}, sg_mx g x (l ++ [p]) = max (sg_mx g x l) (gP g p x)
  | [] => by simp [sg_mx]
  | q :: r => by simp only [List.cons_append, sg_mx, sg_mx_app (l := r)]; omega
/-- one more event of slot s with the parents ps -/
def sg_come (g : sg_G) (s : Nat) (ps : List Nat) : sg_G :=
  (gE g + 1, gA g, va_up (gS g) (gE g) s, va_up (gN g) (gE g) (gC g s), va_up (gP g) (gE g) (fun x => if x = s then gC g s + 1 else sg_mx g x ps), va_up (gR g) (gE g) ps, gM g, va_up (gC g) s (gC g s + 1), va_up (gT g) s (va_up (gT g s) (gC g s) (gE g)))
/-- one more agent -/
def sg_reg (g : sg_G) (a : Nat) : sg_G :=
  (gE g, gA g + 1, gS g, gN g, gP g, gR g, va_up (gM g) (gA g) a, va_up (gC g) (gA g) 0, gT g)
section
variable {g : sg_G}
theorem sg_reg_I (h : sg_I g) {a : Nat} (hA : gA g < 16) (ha : a < 256) (hn : ∀ s, s < gA g → gM g s ≠ a) : sg_I (sg_reg g a) := by
  refine ⟨⟨hA, h.e⟩, ?_, ?_, ?_, ?_, ?_, ?_, ?_, ?_, ?_⟩
  · intro e he
    have hs := h.s he
    have he' : e < gE g := he
    refine ⟨Nat.lt_succ_of_lt hs, ?_, h.tn he'⟩
    show gN g e < va_up (gC g) (gA g) 0 (gS g e)
    rw [va_up_ne _ _ (by omega)]
    exact h.n he'
  · intro s k hs hk
    have hk' : k < va_up (gC g) (gA g) 0 s := hk
    have hs' : s < gA g + 1 := hs
    by_cases h1 : s = gA g
    · subst h1; rw [va_up_self] at hk'; omega
    · rw [va_up_ne _ _ h1] at hk'
      exact h.2.2.1 s k (by omega) hk'
  · intro s k k' hs hk hk'
    have hk1 : k' < va_up (gC g) (gA g) 0 s := hk'
    have hs' : s < gA g + 1 := hs
    by_cases h1 : s = gA g
    · subst h1; rw [va_up_self] at hk1; omega
    · rw [va_up_ne _ _ h1] at hk1
      exact h.up (by omega) hk hk1
  · exact h.2.2.2.2.1
  · intro e x he
    refine ⟨fun hx => ?_, fun hx => h.p0 he (by have : gA g + 1 ≤ x := hx; omega), fun k hk => h.pt he hk⟩
    show gP g e x ≤ va_up (gC g) (gA g) 0 x
    have hx' : x < gA g + 1 := hx
    by_cases h1 : x = gA g
    · subst h1; rw [va_up_self, h.p0 he (Nat.le_refl _)]; exact Nat.le_refl _
    · rw [va_up_ne _ _ h1]; exact h.pc he (by omega)
  · exact h.2.2.2.2.2.2.1
  · intro s t hs ht he
    have hs' : s < gA g + 1 := hs
    have ht' : t < gA g + 1 := ht
    have he' : va_up (gM g) (gA g) a s = va_up (gM g) (gA g) a t := he
    by_cases h1 : s = gA g <;> by_cases h2 : t = gA g
    · omega
    · subst h1; rw [va_up_self, va_up_ne _ _ h2] at he'; exact absurd he'.symm (hn t (by omega))
    · subst h2; rw [va_up_self, va_up_ne _ _ h1] at he'; exact absurd he' (hn s (by omega))
    · rw [va_up_ne _ _ h1, va_up_ne _ _ h2] at he'; exact h.nm (by omega) (by omega) he'
  · intro s hs
    have hs' : s < gA g + 1 := hs
    show va_up (gM g) (gA g) a s < 256
    by_cases h1 : s = gA g
    · subst h1; rw [va_up_self]; exact ha
    · rw [va_up_ne _ _ h1]; exact h.nl (by omega)
  · exact h.2.2.2.2.2.2.2.2.2
theorem sg_come_I (h : sg_I g) {s : Nat} {ps : List Nat} (hs : s < gA g) (hE : gE g < 8192) (hp : ps.Pairwise (· < ·)) (hl : ∀ p ∈ ps, p < gE g) (hg : 0 < gC g s → ∃ p ∈ ps, gP g p s = gC g s) : sg_I (sg_come g s ps) := by
  have mxle : ∀ x, x < gA g → sg_mx g x ps ≤ gC g x := fun x hx => sg_mx_le fun p hp => h.pc (hl p hp) hx
  have eN : ∀ e, e < gE g → e ≠ gE g := fun e he => by omega
  -- the words of the new value
  have nS : ∀ e, gS (sg_come g s ps) e = if e = gE g then s else gS g e := fun e => rfl
  have nN : ∀ e, gN (sg_come g s ps) e = if e = gE g then gC g s else gN g e := fun e => rfl
  have nP : ∀ e x, gP (sg_come g s ps) e x = if e = gE g then (if x = s then gC g s + 1 else sg_mx g x ps) else gP g e x := fun e x => by
    show va_up (gP g) (gE g) _ e x = _
    unfold va_up
    split <;> rfl
  have nR : ∀ e, gR (sg_come g s ps) e = if e = gE g then ps else gR g e := fun e => rfl
  have nC : ∀ x, gC (sg_come g s ps) x = if x = s then gC g s + 1 else gC g x := fun e => rfl
  have nT : ∀ x k, gT (sg_come g s ps) x k = if x = s ∧ k = gC g s then gE g else gT g x k := fun x k => by
    show va_up (gT g) s _ x k = _
    unfold va_up
    by_cases h1 : x = s
    · subst h1; by_cases h2 : k = gC g x <;> simp [h2]
    · simp [h1]
  have nE : gE (sg_come g s ps) = gE g + 1 := rfl
  have nA : gA (sg_come g s ps) = gA g := rfl
  refine ⟨⟨h.a, hE⟩, ?_, ?_, ?_, ?_, ?_, ?_, h.2.2.2.2.2.2.2.1, h.2.2.2.2.2.2.2.2.1, ?_⟩
  · intro e he
    rw [nE] at he
    rw [nS, nN, nA, nC]
    by_cases h1 : e = gE g
    · simp only [h1, if_true, nT]
      exact ⟨hs, by omega, by simp⟩
    · have he' : e < gE g := by omega
      have h2 := h.n he'
      simp only [h1, if_false, nT]
      refine ⟨h.s he', ?_, ?_⟩
      · split
        · rename_i h3; rw [h3] at h2; omega
        · exact h2
      · rw [if_neg]
        · exact h.tn he'
        · rintro ⟨h3, h4⟩
          rw [h3] at h2
          omega
  · intro x k hx hk
    rw [nA] at hx
    rw [nC] at hk
    rw [nT, nE]
    by_cases h1 : x = s ∧ k = gC g s
    · rw [if_pos h1, nS, nN, if_pos rfl, if_pos rfl]
      exact ⟨Nat.lt_succ_self _, h1.1.symm, h1.2.symm⟩
    · have hk' : k < gC g x := by
        by_cases h2 : x = s
        · rw [if_pos h2] at hk
          have h3 : k ≠ gC g s := fun q => h1 ⟨h2, q⟩
          rw [h2]; omega
        · rw [if_neg h2] at hk; exact hk
      have ht := h.t hx hk'
      rw [if_neg h1, nS, nN, if_neg (by omega), if_neg (by omega)]
      exact ⟨by omega, h.ts hx hk', h.tk hx hk'⟩
  · intro x k k' hx hk hk'
    rw [nA] at hx
    rw [nC] at hk'
    rw [nT, nT]
    by_cases h1 : x = s
    · subst h1
      rw [if_pos rfl] at hk'
      rw [if_neg (by omega)]
      by_cases h2 : k' = gC g x
      · rw [if_pos ⟨rfl, h2⟩]; exact h.t hx (by omega)
      · rw [if_neg (by omega)]; exact h.up hx hk (by omega)
    · rw [if_neg h1] at hk'
      rw [if_neg (by omega), if_neg (by omega)]
      exact h.up hx hk hk'
  · intro e he
    rw [nE] at he
    rw [nS, nN, nP]
    by_cases h1 : e = gE g
    · simp [h1]
    · simp only [h1, if_false]; exact h.own (by omega)
  · intro e x he
    rw [nE] at he
    rw [nP, nC, nA]
    by_cases h1 : e = gE g
    · simp only [h1, if_true]
      refine ⟨fun hx => ?_, fun hx => ?_, fun k hk => ?_⟩
      · split
        · exact Nat.le_refl _
        · exact mxle x hx
      · rw [if_neg (by omega)]
        exact Nat.le_antisymm (sg_mx_le fun p hp => by rw [h.p0 (hl p hp) hx]; exact Nat.le_refl _) (Nat.zero_le _)
      · rw [nT]
        by_cases h2 : x = s
        · subst h2
          rw [if_pos rfl] at hk
          by_cases h3 : k = gC g x
          · rw [if_pos ⟨rfl, h3⟩]; exact Nat.le_refl _
          · rw [if_neg (by omega)]; exact Nat.le_of_lt (h.t hs (by omega))
        · rw [if_neg h2] at hk
          rw [if_neg (by omega)]
          obtain ⟨p, hp, hv⟩ := sg_mx_at (g := g) (x := x) (l := ps) (by omega)
          rw [← hv] at hk
          have := h.pt (hl p hp) hk
          have := hl p hp
          omega
    · have he' : e < gE g := by omega
      simp only [h1, if_false]
      refine ⟨fun hx => ?_, fun hx => h.p0 he' hx, fun k hk => ?_⟩
      · have := h.pc he' hx
        split
        · rename_i h2; subst h2; omega
        · exact this
      · rw [nT, if_neg]
        · exact h.pt he' hk
        · rintro ⟨h2, h3⟩
          subst h2
          have := h.pc he' hs
          omega
  · intro e f he hf hi x
    rw [nE] at he hf
    have hi' : gN (sg_come g s ps) e < gP (sg_come g s ps) f (gS (sg_come g s ps) e) := hi
    rw [nN, nS, nP] at hi'
    rw [nP, nP]
    by_cases h1 : e = gE g <;> by_cases h2 : f = gE g
    · subst h1; subst h2; exact Nat.le_refl _
    · simp only [h1, h2, if_true, if_false] at hi'
      have := h.pc (e := f) (by omega) hs
      omega
    · have he' : e < gE g := by omega
      simp only [h1, h2, if_true, if_false] at hi' ⊢
      have key : ∃ p ∈ ps, sg_in g e p := by
        by_cases h3 : gS g e = s
        · have h4 := h.n he'
          rw [h3] at h4
          obtain ⟨p, hp, hv⟩ := hg (by omega)
          refine ⟨p, hp, ?_⟩
          unfold sg_in
          rw [h3, hv]
          exact h4
        · rw [if_neg h3] at hi'
          obtain ⟨p, hp, hv⟩ := sg_mx_at (g := g) (x := gS g e) (l := ps) (by omega)
          refine ⟨p, hp, ?_⟩
          unfold sg_in
          rw [hv]
          exact hi'
      obtain ⟨p, hp, hv⟩ := key
      have h5 := h.tr he' (hl p hp) hv x
      split
      · rename_i h6
        subst h6
        have := h.pc he' hs
        omega
      · exact Nat.le_trans h5 (sg_mx_ge hp)
    · simp only [h1, h2, if_false] at hi' ⊢
      exact h.tr (by omega) (by omega) hi' x
  · intro e he
    rw [nE] at he
    rw [nR, nN, nS]
    by_cases h1 : e = gE g
    · simp only [h1, if_true]
      refine ⟨hp, hl, fun p hp x => ?_, fun x hx h0 => ?_, fun h0 => ?_⟩
      · have hpl := hl p hp
        rw [nP, nP, if_neg (by omega), if_pos rfl]
        split
        · rename_i h2; subst h2; have := h.pc hpl hs; omega
        · exact sg_mx_ge hp
      · rw [nP, if_pos rfl, if_neg hx] at h0
        obtain ⟨p, hp, hv⟩ := sg_mx_at h0
        have := hl p hp
        refine ⟨p, hp, ?_⟩
        rw [nP, nP, if_neg (by omega), if_pos rfl, if_neg hx]
        exact hv
      · obtain ⟨p, hp, hv⟩ := hg h0
        have := hl p hp
        refine ⟨p, hp, ?_⟩
        rw [nP, if_neg (by omega)]
        exact hv
    · have he' : e < gE g := by omega
      simp only [h1, if_false]
      refine ⟨h.ps he', fun p hp => h.pl he' hp, fun p hp x => ?_, fun x hx h0 => ?_, fun h0 => ?_⟩
      · have := h.pl he' hp
        rw [nP, nP, if_neg (by omega), if_neg h1]
        exact h.pp he' hp x
      · rw [nP, if_neg h1] at h0
        obtain ⟨p, hp, hv⟩ := h.px he' hx h0
        have := h.pl he' hp
        refine ⟨p, hp, ?_⟩
        rw [nP, nP, if_neg (by omega), if_neg h1]
        exact hv
      · obtain ⟨p, hp, hv⟩ := h.pn he' h0
        have := h.pl he' hp
        refine ⟨p, hp, ?_⟩
        rw [nP, if_neg (by omega)]
        exact hv
end
