/-! counting -/
def sg_ct (P : Nat → Bool) : Nat → Nat
  | 0 => 0
  | n + 1 => sg_ct P n + (if P n = true then 1 else 0)
def sg_sum (f : Nat → Nat) : Nat → Nat
  | 0 => 0
  | n + 1 => sg_sum f n + f n
theorem sg_ct_congr {P Q : Nat → Bool} : ∀ {n : Nat}, (∀ k, k < n → P k = Q k) → sg_ct P n = sg_ct Q n
  | 0, _ => rfl
  | n + 1, h => by
    simp only [sg_ct]
    rw [sg_ct_congr (fun k hk => h k (by omega)), h n (by omega)]
theorem sg_ct_one {P Q : Nat → Bool} {j : Nat} : ∀ {n : Nat}, j < n → (∀ k, k < n → k ≠ j → P k = Q k) → P j = false → Q j = true → sg_ct Q n = sg_ct P n + 1
  | 0, h, _, _, _ => by omega
  | n + 1, h, hk, hp, hq => by
    simp only [sg_ct]
    by_cases h1 : j = n
    · subst h1
      rw [sg_ct_congr (P := Q) (Q := P) (fun k hk' => (hk k (by omega) (by omega)).symm), hp, hq]
      simp
    · rw [sg_ct_one (P := P) (Q := Q) (j := j) (by omega) (fun k h2 h3 => hk k (by omega) h3) hp hq, hk n (by omega) (by omega)]
      omega
theorem sg_ct_le {P : Nat → Bool} : ∀ (n : Nat), sg_ct P n ≤ n
  | 0 => Nat.le_refl _
  | n + 1 => by
    have := sg_ct_le (P := P) n
    simp only [sg_ct]
    split <;> omega
theorem sg_ct_full {P : Nat → Bool} : ∀ {n : Nat}, sg_ct P n = n ↔ ∀ k, k < n → P k = true
  | 0 => ⟨fun _ k hk => by omega, fun _ => rfl⟩
  | n + 1 => by
    have h1 := sg_ct_le (P := P) n
    have h2 := sg_ct_full (P := P) (n := n)
    simp only [sg_ct]
    constructor
    · intro h k hk
      by_cases h3 : P n = true
      · rw [if_pos h3] at h
        by_cases h4 : k = n
        · subst h4; exact h3
        · exact h2.1 (by omega) k (by omega)
      · rw [if_neg h3] at h
        omega
    · intro h
      rw [if_pos (h n (by omega)), h2.2 (fun k hk => h k (by omega))]
theorem sg_ct_from (lo : Nat) : ∀ (n : Nat), sg_ct (fun k => decide (lo ≤ k)) n = n - lo
  | 0 => by simp [sg_ct]
  | n + 1 => by
    simp only [sg_ct, sg_ct_from lo n]
    by_cases h : lo ≤ n
    · rw [if_pos (by simpa using h)]; omega
    · rw [if_neg (by simpa using h)]; omega
theorem sg_sum_congr {f f' : Nat → Nat} : ∀ {n : Nat}, (∀ k, k < n → f k = f' k) → sg_sum f n = sg_sum f' n
  | 0, _ => rfl
  | n + 1, h => by
    simp only [sg_sum]
    rw [sg_sum_congr (fun k hk => h k (by omega)), h n (by omega)]
theorem sg_sum_one {f f' : Nat → Nat} {j : Nat} : ∀ {n : Nat}, j < n → (∀ k, k < n → k ≠ j → f k = f' k) → f' j = f j + 1 → sg_sum f' n = sg_sum f n + 1
  | 0, h, _, _ => by omega
  | n + 1, h, hk, hj => by
    simp only [sg_sum]
    by_cases h1 : j = n
    · subst h1
      rw [sg_sum_congr (f := f') (f' := f) (fun k hk' => (hk k (by omega) (by omega)).symm), hj]
      omega
    · rw [sg_sum_one (f := f) (f' := f') (j := j) (by omega) (fun k h2 h3 => hk k (by omega) h3) hj, hk n (by omega) (by omega)]
      omega
theorem sg_sum_ext {f : Nat → Nat} {m : Nat} : ∀ (d : Nat), (∀ x, m ≤ x → f x = 0) → sg_sum f (m + d) = sg_sum f m
  | 0, _ => rfl
  | d + 1, h => by
    show sg_sum f (m + d) + f (m + d) = _
    rw [sg_sum_ext d h, h (m + d) (by omega)]
    rfl
theorem sg_sum_le {f f' : Nat → Nat} : ∀ {n : Nat}, (∀ k, k < n → f k ≤ f' k) → sg_sum f n ≤ sg_sum f' n
  | 0, _ => Nat.le_refl _
  | n + 1, h => by
    simp only [sg_sum]
    have h1 := sg_sum_le (f := f) (f' := f') (n := n) (fun k hk => h k (by omega))
    have h2 := h n (by omega)
    omega
section
variable {g : sg_G}
/-- the events below m whose numbers lie from lo to hi, slot by slot -/
theorem sg_count (h : sg_I g) (lo hi : Nat → Nat) (hh : ∀ x, x < gA g → hi x ≤ gC g x) : ∀ (m : Nat), m ≤ gE g →
    sg_ct (fun e => decide (lo (gS g e) ≤ gN g e) && decide (gN g e < hi (gS g e))) m = sg_sum (fun x => sg_ct (fun k => decide (lo x ≤ k) && decide (gT g x k < m)) (hi x)) (gA g)
  | 0, _ => by
    have h0 : ∀ (x n : Nat), sg_ct (fun k => decide (lo x ≤ k) && decide (gT g x k < 0)) n = 0 := by
      intro x n
      induction n with
      | zero => rfl
      | succ n ih =>
        show sg_ct _ n + _ = 0
        rw [ih]
        simp
    have h1 : ∀ n : Nat, sg_sum (fun x => sg_ct (fun k => decide (lo x ≤ k) && decide (gT g x k < 0)) (hi x)) n = 0 := by
      intro n
      induction n with
      | zero => rfl
      | succ n ih =>
        show sg_sum _ n + sg_ct _ (hi n) = 0
        rw [ih, h0]
    rw [h1]
    rfl
  | m + 1, hm => by
    have ih := sg_count h lo hi hh m (by omega)
    have hs := h.s (e := m) (by omega)
    have hn := h.n (e := m) (by omega)
    have ht := h.tn (e := m) (by omega)
    show sg_ct _ m + _ = _
    rw [ih]
    by_cases hc : lo (gS g m) ≤ gN g m ∧ gN g m < hi (gS g m)
    · rw [if_pos (by simpa using hc)]
      refine (sg_sum_one hs (fun x hx hne => sg_ct_congr fun k hk => ?_) ?_).symm
      · have hkc : k < gC g x := Nat.lt_of_lt_of_le hk (hh x hx)
        have h1 : gT g x k ≠ m := by
          intro h2
          apply hne
          rw [← h2]
          exact (h.ts hx hkc).symm
        congr 1
        simp only [decide_eq_decide]
        omega
      · refine sg_ct_one (j := gN g m) hc.2 (fun k hk hne => ?_) ?_ ?_
        · have hkc : k < gC g (gS g m) := Nat.lt_of_lt_of_le hk (hh _ hs)
          have h1 : gT g (gS g m) k ≠ m := by
            intro h2
            apply hne
            rw [← h2]
            rw [h2]
            have := h.tk hs hkc
            rw [h2] at this
            exact this.symm
          congr 1
          simp only [decide_eq_decide]
          omega
        · rw [ht]; simp
        · rw [ht]; simpa using hc.1
    · rw [if_neg (by simpa using hc)]
      refine sg_sum_congr fun x hx => sg_ct_congr fun k hk => ?_
      have hkc : k < gC g x := Nat.lt_of_lt_of_le hk (hh x hx)
      by_cases h1 : gT g x k = m
      · have h2 := h.ts hx hkc
        have h3 := h.tk hx hkc
        rw [h1] at h2 h3
        rw [h2, h3] at hc
        have h4 : ¬ lo x ≤ k := fun q => hc ⟨q, hk⟩
        simp [h4]
      · congr 1
        simp only [decide_eq_decide]
        omega
theorem sg_apart (h : sg_I g) {p : Nat} (lo : Nat → Nat) (hp : p < gE g) :
    sg_ct (fun e => decide (lo (gS g e) ≤ gN g e) && decide (gN g e < gP g p (gS g e))) (p + 1) = sg_sum (fun x => gP g p x - lo x) 16 := by
  rw [sg_count h lo (gP g p) (fun x hx => h.pc hp hx) (p + 1) (by omega)]
  have h1 := h.a
  have h2 : sg_sum (fun x => gP g p x - lo x) 16 = sg_sum (fun x => gP g p x - lo x) (gA g) := by
    have := sg_sum_ext (f := fun x => gP g p x - lo x) (m := gA g) (16 - gA g) (fun x hx => by show gP g p x - lo x = 0; rw [h.p0 hp hx]; omega)
    rw [← this]
    congr 1
    omega
  rw [h2]
  refine sg_sum_congr fun x hx => ?_
  rw [← sg_ct_from (lo x) (gP g p x)]
  refine sg_ct_congr fun k hk => ?_
  have := h.pt hp hk
  have h3 : gT g x k < p + 1 := by omega
  simp [h3]
/-- all below are in the history iff the counts say so -/
theorem sg_sees (h : sg_I g) {p : Nat} (hp : p < gE g) : sg_sum (gP g p) 16 = p + 1 ↔ ∀ f, f ≤ p → sg_in g f p := by
  have h1 := sg_apart h (fun _ => 0) hp
  have h2 : sg_sum (fun x => gP g p x - 0) 16 = sg_sum (gP g p) 16 := sg_sum_congr fun _ _ => rfl
  rw [h2] at h1
  rw [← h1, sg_ct_full]
  constructor
  · intro h3 f hf
    have := h3 f (by omega)
    unfold sg_in
    simpa using this
  · intro h3 f hf
    have : gN g f < gP g p (gS g f) := h3 f (by omega)
    simp [this]
/-! critical events -/
def sg_crit (g : sg_G) (e : Nat) : Prop := ∀ s, s < gA g → gP g e s < gC g s → sg_in g e (gT g s (gP g e s))
theorem sg_crit_iff (h : sg_I g) {e : Nat} (he : e < gE g) : sg_crit g e ↔ (∀ f, f < e → sg_in g f e) ∧ (∀ f, e < f → f < gE g → sg_in g e f) := by
  constructor
  · intro hc
    have key : ∀ f, f < gE g → ¬ sg_in g f e → e ≤ f ∧ sg_in g e f := by
      intro f hf hni
      have hs := h.s hf
      have hn := h.n hf
      have h1 : gP g e (gS g f) ≤ gN g f := Nat.le_of_not_lt hni
      have h2 : gP g e (gS g f) < gC g (gS g f) := by omega
      have h3 := hc _ hs h2
      have hk := h.t hs h2
      have h4 : sg_in g (gT g (gS g f) (gP g e (gS g f))) f := by
        rw [sg_same h hf (h.ts hs h2), h.tk hs h2]
        exact h1
      have h5 := sg_trans h hk hf h3 h4
      exact ⟨sg_le h he hf h5, h5⟩
    constructor
    · intro f hf
      rcases sg_in_dec g f e with h1 | h1
      · exact h1
      · have := (key f (by omega) h1).1
        omega
    · intro f h1 h2
      rcases sg_in_dec g f e with h3 | h3
      · have := sg_le h h2 he h3
        omega
      · exact (key f h2 h3).2
  · intro ⟨h1, h2⟩ s hs hk
    have ht := h.t hs hk
    have hni : ¬ sg_in g (gT g s (gP g e s)) e := by
      intro h3
      have h4 : gN g (gT g s (gP g e s)) < gP g e (gS g (gT g s (gP g e s))) := h3
      rw [h.ts hs hk, h.tk hs hk] at h4
      omega
    rcases Nat.lt_trichotomy (gT g s (gP g e s)) e with h3 | h3 | h3
    · exact absurd (h1 _ h3) hni
    · rw [h3] at hni
      exact absurd (sg_self h he) hni
    · exact h2 _ h3 ht
/-! spans: m of them, the i-th from the place fs i up to that before fs (i + 1) -/
def sg_S (g : sg_G) (m : Nat) (fs : Nat → Nat) : Prop :=
  fs m = gE g ∧ fs 0 = 0 ∧ (∀ i, i < m → fs i < fs (i + 1)) ∧
  ∀ i, i < m → ∀ e, fs i < e → e < fs (i + 1) → gS g e = gS g (fs i) ∧ gN g e = gN g (fs i) + (e - fs i) ∧ (∀ x, x ≠ gS g (fs i) → gP g e x = gP g (fs i) x) ∧ gR g e = [e - 1]
theorem sg_mono {m : Nat} {fs : Nat → Nat} (hm : ∀ i, i < m → fs i < fs (i + 1)) : ∀ {i j : Nat}, i ≤ j → j ≤ m → fs i ≤ fs j := by
  intro i j hij
  induction j with
  | zero => intro _; have : i = 0 := by omega
            subst this; exact Nat.le_refl _
  | succ j ih =>
    intro hj
    by_cases h1 : i = j + 1
    · subst h1; exact Nat.le_refl _
    · have := ih (by omega) (by omega)
      have := hm j (by omega)
      omega
theorem sg_span_of {fs : Nat → Nat} (h0 : fs 0 = 0) : ∀ (j : Nat), ∀ f, f < fs j → ∃ i, i < j ∧ fs i ≤ f ∧ f < fs (i + 1)
  | 0, f, hf => by omega
  | j + 1, f, hf => by
    by_cases h1 : f < fs j
    · obtain ⟨i, h2, h3, h4⟩ := sg_span_of h0 j f h1
      exact ⟨i, by omega, h3, h4⟩
    · exact ⟨j, by omega, by omega, hf⟩
theorem sg_S.span {m : Nat} {fs : Nat → Nat} (hS : sg_S g m fs) {f : Nat} (hf : f < gE g) : ∃ i, i < m ∧ fs i ≤ f ∧ f < fs (i + 1) :=
  sg_span_of hS.2.1 m f (by rw [hS.1]; exact hf)
theorem sg_S.lt {m : Nat} {fs : Nat → Nat} (hS : sg_S g m fs) {i : Nat} (hi : i < m) : fs i < gE g := by
  have h1 := hS.2.2.1 i hi
  have h2 := sg_mono hS.2.2.1 (i := i + 1) (j := m) hi (Nat.le_refl _)
  rw [hS.1] at h2
  omega
theorem sg_S.le {m : Nat} {fs : Nat → Nat} (hS : sg_S g m fs) {i : Nat} (hi : i ≤ m) : fs i ≤ gE g := by
  have h2 := sg_mono hS.2.2.1 hi (Nat.le_refl _)
  rw [hS.1] at h2
  exact h2
/-- slot and number in a span -/
theorem sg_S.s {m : Nat} {fs : Nat → Nat} (hS : sg_S g m fs) {i e : Nat} (hi : i < m) (h1 : fs i ≤ e) (h2 : e < fs (i + 1)) : gS g e = gS g (fs i) := by
  by_cases h3 : e = fs i
  · rw [h3]
  · exact (hS.2.2.2 i hi e (by omega) h2).1
theorem sg_S.n {m : Nat} {fs : Nat → Nat} (hS : sg_S g m fs) {i e : Nat} (hi : i < m) (h1 : fs i ≤ e) (h2 : e < fs (i + 1)) : gN g e = gN g (fs i) + (e - fs i) := by
  by_cases h3 : e = fs i
  · rw [h3]; omega
  · exact (hS.2.2.2 i hi e (by omega) h2).2.1
theorem sg_S.p {m : Nat} {fs : Nat → Nat} (hS : sg_S g m fs) {i e x : Nat} (hi : i < m) (h1 : fs i ≤ e) (h2 : e < fs (i + 1)) (hx : x ≠ gS g (fs i)) : gP g e x = gP g (fs i) x := by
  by_cases h3 : e = fs i
  · rw [h3]
  · exact (hS.2.2.2 i hi e (by omega) h2).2.2.1 x hx
theorem sg_above (h : sg_I g) {m : Nat} {fs : Nat → Nat} (hS : sg_S g m fs) {i e : Nat} (hi : i < m) (h1 : fs i ≤ e) (h2 : e < fs (i + 1)) :
    (∀ f, e < f → f < gE g → sg_in g e f) ↔ ∀ j, i < j → j < m → ∃ p ∈ gR g (fs j), e ≤ p := by
  have heE : e < gE g := by
    have := hS.le (i := i + 1) hi
    omega
  constructor
  · intro hf j hij hj
    have h3 : fs (i + 1) ≤ fs j := sg_mono hS.2.2.1 hij (Nat.le_of_lt hj)
    have h4 := hS.lt hj
    obtain ⟨p, hp, hv⟩ := sg_via h heE h4 (hf (fs j) (by omega) h4) (by omega)
    have h5 := h.pl h4 hp
    exact ⟨p, hp, sg_le h heE (by omega) hv⟩
  · intro hj f
    induction f using Nat.strongRecOn with
    | ind f ih =>
      intro hef hfE
      obtain ⟨j, hjm, h3, h4⟩ := hS.span hfE
      by_cases hij : j ≤ i
      · have hji : j = i := by
          rcases Nat.lt_or_ge j i with q | q
          · have := sg_mono hS.2.2.1 (i := j + 1) (j := i) q (Nat.le_of_lt hi)
            omega
          · omega
        subst hji
        have hs : gS g e = gS g f := by rw [hS.s hi h1 h2, hS.s hi h3 h4]
        rw [sg_same h hfE hs, hS.n hi h1 h2, hS.n hi h3 h4]
        omega
      · have hij' : i < j := by omega
        have h5 : fs (i + 1) ≤ fs j := sg_mono hS.2.2.1 hij' (Nat.le_of_lt hjm)
        by_cases h6 : f = fs j
        · obtain ⟨p, hp, hep⟩ := hj j hij' hjm
          rw [← h6] at hp
          have h7 := h.pl hfE hp
          have h8 := sg_par h hfE hp
          by_cases h9 : p = e
          · rw [h9] at h8; exact h8
          · exact sg_trans h (by omega) hfE (ih p h7 (by omega) (by omega)) h8
        · have hf1 : f - 1 < gE g := by omega
          have h7 := ih (f - 1) (by omega) (by omega) hf1
          refine sg_trans h hf1 hfE h7 ?_
          have hs : gS g (f - 1) = gS g f := by rw [hS.s hjm (e := f - 1) (by omega) (by omega), hS.s hjm h3 h4]
          rw [sg_same h hfE hs, hS.n hjm (e := f - 1) (by omega) (by omega), hS.n hjm h3 h4]
          omega
theorem sg_below (h : sg_I g) {m : Nat} {fs : Nat → Nat} (hS : sg_S g m fs) {i e : Nat} (hi : i < m) (h1 : fs i ≤ e) (h2 : e < fs (i + 1)) :
    (∀ f, f < e → sg_in g f e) ↔ ∀ f, f ≤ fs i → sg_in g f (fs i) := by
  have heE : e < gE g := by
    have := hS.le (i := i + 1) hi
    omega
  have hiE := hS.lt hi
  have hse := hS.s hi h1 h2
  have hne := hS.n hi h1 h2
  constructor
  · intro hf f hfi
    by_cases h3 : f = fs i
    · rw [h3]; exact sg_self h hiE
    · have h4 : gN g f < gP g e (gS g f) := hf f (by omega)
      by_cases h5 : gS g f = gS g (fs i)
      · rw [sg_same h hiE h5, sg_rise h (by omega) hiE h5]
        exact hfi
      · rw [hS.p hi h1 h2 h5] at h4
        exact h4
  · intro hf f hfe
    by_cases h3 : f ≤ fs i
    · refine sg_trans h hiE heE (hf f h3) ?_
      rw [sg_same h heE hse.symm, hne]
      omega
    · have h4 : gS g f = gS g e := by rw [hse, hS.s hi (by omega) (by omega)]
      rw [sg_same h heE h4, sg_rise h (by omega) heE h4]
      omega
/-- critical: its span sees all before, and each later span has a parent that isn't below -/
theorem sg_crit_span (h : sg_I g) {m : Nat} {fs : Nat → Nat} (hS : sg_S g m fs) {i e : Nat} (hi : i < m) (h1 : fs i ≤ e) (h2 : e < fs (i + 1)) :
    sg_crit g e ↔ sg_sum (gP g (fs i)) 16 = fs i + 1 ∧ ∀ j, i < j → j < m → ∃ p ∈ gR g (fs j), e ≤ p := by
  have heE : e < gE g := by
    have := hS.le (i := i + 1) hi
    omega
  rw [sg_crit_iff h heE, sg_above h hS hi h1 h2, sg_below h hS hi h1 h2, sg_sees h (hS.lt hi)]
end
