/-! the k + 1 events of one add -/
def sg_ad (g : sg_G) (s : Nat) (ps : List Nat) : Nat → sg_G
  | 0 => sg_come g s ps
  | k + 1 => sg_come (sg_ad g s ps k) s [gE (sg_ad g s ps k) - 1]
section
variable {g : sg_G} {s : Nat} {ps : List Nat}
theorem sg_come_S (e : Nat) : gS (sg_come g s ps) e = if e = gE g then s else gS g e := rfl
theorem sg_come_N (e : Nat) : gN (sg_come g s ps) e = if e = gE g then gC g s else gN g e := rfl
theorem sg_come_P (e x : Nat) : gP (sg_come g s ps) e x = if e = gE g then (if x = s then gC g s + 1 else sg_mx g x ps) else gP g e x := by
  show va_up (gP g) (gE g) _ e x = _
  unfold va_up
  split <;> rfl
theorem sg_come_R (e : Nat) : gR (sg_come g s ps) e = if e = gE g then ps else gR g e := rfl
theorem sg_come_C (x : Nat) : gC (sg_come g s ps) x = if x = s then gC g s + 1 else gC g x := rfl
theorem sg_come_T (x k : Nat) : gT (sg_come g s ps) x k = if x = s ∧ k = gC g s then gE g else gT g x k := by
  show va_up (gT g) s _ x k = _
  unfold va_up
  by_cases h1 : x = s
  · subst h1; by_cases h2 : k = gC g x <;> simp [h2]
  · simp [h1]
theorem sg_ad_E : ∀ k, gE (sg_ad g s ps k) = gE g + k + 1
  | 0 => rfl
  | k + 1 => by show gE (sg_ad g s ps k) + 1 = _; rw [sg_ad_E k]; omega
theorem sg_ad_A : ∀ k, gA (sg_ad g s ps k) = gA g
  | 0 => rfl
  | k + 1 => sg_ad_A k
theorem sg_ad_M : ∀ k, gM (sg_ad g s ps k) = gM g
  | 0 => rfl
  | k + 1 => sg_ad_M k
theorem sg_ad_C : ∀ k x, gC (sg_ad g s ps k) x = if x = s then gC g s + k + 1 else gC g x
  | 0, x => rfl
  | k + 1, x => by
    show gC (sg_come _ s _) x = _
    rw [sg_come_C, sg_ad_C k, sg_ad_C k, if_pos rfl]
    by_cases h : x = s <;> simp [h]
    omega
theorem sg_ad_S : ∀ k e, gS (sg_ad g s ps k) e = if gE g ≤ e ∧ e ≤ gE g + k then s else gS g e
  | 0, e => by
    show gS (sg_come _ s _) e = _
    rw [sg_come_S]
    by_cases h : e = gE g
    · rw [if_pos h, if_pos (by omega)]
    · rw [if_neg h, if_neg (by omega)]
  | k + 1, e => by
    show gS (sg_come _ s _) e = _
    rw [sg_come_S, sg_ad_S k, sg_ad_E k]
    by_cases h : e = gE g + k + 1
    · rw [if_pos h, if_pos (by omega)]
    · rw [if_neg h]
      by_cases h2 : gE g ≤ e ∧ e ≤ gE g + k
      · rw [if_pos h2, if_pos (by omega)]
      · rw [if_neg h2, if_neg (by omega)]
theorem sg_ad_N : ∀ k e, gN (sg_ad g s ps k) e = if gE g ≤ e ∧ e ≤ gE g + k then gC g s + (e - gE g) else gN g e
  | 0, e => by
    show gN (sg_come _ s _) e = _
    rw [sg_come_N]
    by_cases h : e = gE g
    · rw [if_pos h, if_pos (by omega)]; omega
    · rw [if_neg h, if_neg (by omega)]
  | k + 1, e => by
    show gN (sg_come _ s _) e = _
    rw [sg_come_N, sg_ad_N k, sg_ad_E k, sg_ad_C k, if_pos rfl]
    by_cases h : e = gE g + k + 1
    · rw [if_pos h, if_pos (by omega)]; omega
    · rw [if_neg h]
      by_cases h2 : gE g ≤ e ∧ e ≤ gE g + k
      · rw [if_pos h2, if_pos (by omega)]
      · rw [if_neg h2, if_neg (by omega)]
theorem sg_ad_P : ∀ k e x, gP (sg_ad g s ps k) e x = if gE g ≤ e ∧ e ≤ gE g + k then (if x = s then gC g s + (e - gE g) + 1 else sg_mx g x ps) else gP g e x
  | 0, e, x => by
    show gP (sg_come _ s _) e x = _
    rw [sg_come_P]
    by_cases h : e = gE g
    · rw [if_pos h, if_pos (show gE g ≤ e ∧ e ≤ gE g + 0 by omega)]
      by_cases h1 : x = s
      · rw [if_pos h1, if_pos h1]; omega
      · rw [if_neg h1, if_neg h1]
    · rw [if_neg h, if_neg (show ¬ (gE g ≤ e ∧ e ≤ gE g + 0) by omega)]
  | k + 1, e, x => by
    show gP (sg_come _ s _) e x = _
    rw [sg_come_P, sg_ad_P k, sg_ad_E k, sg_ad_C k, if_pos (show s = s from rfl)]
    by_cases h : e = gE g + k + 1
    · rw [if_pos h, if_pos (show gE g ≤ e ∧ e ≤ gE g + (k + 1) by omega)]
      by_cases h1 : x = s
      · rw [if_pos h1, if_pos h1]; omega
      · rw [if_neg h1, if_neg h1]
        show max (gP (sg_ad g s ps k) (gE g + k + 1 - 1) x) 0 = _
        rw [sg_ad_P k, if_pos (show gE g ≤ gE g + k + 1 - 1 ∧ gE g + k + 1 - 1 ≤ gE g + k by omega), if_neg h1]
        omega
    · rw [if_neg h]
      by_cases h2 : gE g ≤ e ∧ e ≤ gE g + k
      · rw [if_pos h2, if_pos (show gE g ≤ e ∧ e ≤ gE g + (k + 1) by omega)]
      · rw [if_neg h2, if_neg (show ¬ (gE g ≤ e ∧ e ≤ gE g + (k + 1)) by omega)]
theorem sg_ad_R : ∀ k e, gR (sg_ad g s ps k) e = if e = gE g then ps else if gE g < e ∧ e ≤ gE g + k then [e - 1] else gR g e
  | 0, e => by
    show gR (sg_come _ s _) e = _
    rw [sg_come_R]
    by_cases h : e = gE g
    · rw [if_pos h, if_pos h]
    · rw [if_neg h, if_neg h, if_neg (by omega)]
  | k + 1, e => by
    show gR (sg_come _ s _) e = _
    rw [sg_come_R, sg_ad_R k, sg_ad_E k]
    by_cases h : e = gE g + k + 1
    · rw [if_pos h, if_neg (by omega), if_pos (by omega), h]
    · rw [if_neg h]
      by_cases h1 : e = gE g
      · rw [if_pos h1, if_pos h1]
      · rw [if_neg h1, if_neg h1]
        by_cases h2 : gE g < e ∧ e ≤ gE g + k
        · rw [if_pos h2, if_pos (by omega)]
        · rw [if_neg h2, if_neg (by omega)]
theorem sg_ad_T : ∀ k x j, gT (sg_ad g s ps k) x j = if x = s ∧ gC g s ≤ j ∧ j ≤ gC g s + k then gE g + (j - gC g s) else gT g x j
  | 0, x, j => by
    show gT (sg_come _ s _) x j = _
    rw [sg_come_T]
    by_cases h : x = s ∧ j = gC g s
    · rw [if_pos h, if_pos (by omega)]; omega
    · rw [if_neg h, if_neg (by omega)]
  | k + 1, x, j => by
    show gT (sg_come _ s _) x j = _
    rw [sg_come_T, sg_ad_T k, sg_ad_E k, sg_ad_C k, if_pos rfl]
    by_cases h : x = s ∧ j = gC g s + k + 1
    · rw [if_pos h, if_pos (by omega)]; omega
    · rw [if_neg h]
      by_cases h2 : x = s ∧ gC g s ≤ j ∧ j ≤ gC g s + k
      · rw [if_pos h2, if_pos (by omega)]
      · rw [if_neg h2, if_neg (by omega)]
theorem sg_ad_P1 {k e x : Nat} (he : gE g ≤ e ∧ e ≤ gE g + k) (hx : x ≠ s) : gP (sg_ad g s ps k) e x = sg_mx g x ps := by
  rw [sg_ad_P, if_pos he, if_neg hx]
theorem sg_ad_Ps {k e : Nat} (he : gE g ≤ e ∧ e ≤ gE g + k) : gP (sg_ad g s ps k) e s = gC g s + (e - gE g) + 1 := by
  rw [sg_ad_P, if_pos he, if_pos rfl]
theorem sg_ad_P0 {k e x : Nat} (he : e < gE g) : gP (sg_ad g s ps k) e x = gP g e x := by
  rw [sg_ad_P, if_neg (show ¬ (gE g ≤ e ∧ e ≤ gE g + k) by omega)]
theorem sg_ad_S0 {k e : Nat} (he : e < gE g) : gS (sg_ad g s ps k) e = gS g e := by
  rw [sg_ad_S, if_neg (show ¬ (gE g ≤ e ∧ e ≤ gE g + k) by omega)]
theorem sg_ad_N0 {k e : Nat} (he : e < gE g) : gN (sg_ad g s ps k) e = gN g e := by
  rw [sg_ad_N, if_neg (show ¬ (gE g ≤ e ∧ e ≤ gE g + k) by omega)]
theorem sg_ad_S1 {k e : Nat} (he : gE g ≤ e ∧ e ≤ gE g + k) : gS (sg_ad g s ps k) e = s := by
  rw [sg_ad_S, if_pos he]
theorem sg_ad_N1 {k e : Nat} (he : gE g ≤ e ∧ e ≤ gE g + k) : gN (sg_ad g s ps k) e = gC g s + (e - gE g) := by
  rw [sg_ad_N, if_pos he]
theorem sg_ad_I (h : sg_I g) (hs : s < gA g) (hp : ps.Pairwise (· < ·)) (hl : ∀ p ∈ ps, p < gE g) (hg : 0 < gC g s → ∃ p ∈ ps, gP g p s = gC g s) : ∀ k, gE g + k < 8192 → sg_I (sg_ad g s ps k)
  | 0, hk => sg_come_I h hs hk hp hl hg
  | k + 1, hk => by
    have ih := sg_ad_I h hs hp hl hg k (by omega)
    refine sg_come_I ih (by rw [sg_ad_A]; exact hs) (by rw [sg_ad_E]; omega) (List.pairwise_singleton _ _) (fun p hp => ?_) (fun _ => ⟨_, List.mem_singleton.mpr rfl, ?_⟩)
    · rw [List.mem_singleton.mp hp, sg_ad_E]; omega
    · rw [sg_ad_P, sg_ad_E, sg_ad_C, if_pos (show gE g ≤ gE g + k + 1 - 1 ∧ gE g + k + 1 - 1 ≤ gE g + k by omega), if_pos (show s = s from rfl), if_pos (show s = s from rfl)]
      omega
/-- the spans behind an add -/
theorem sg_ad_Sp {m : Nat} {fs : Nat → Nat} (hS : sg_S g m fs) (k : Nat) : sg_S (sg_ad g s ps k) (m + 1) (va_up fs (m + 1) (gE g + k + 1)) := by
  have old : ∀ i, i ≤ m → va_up fs (m + 1) (gE g + k + 1) i = fs i := fun i hi => va_up_ne _ _ (by omega)
  refine ⟨by rw [va_up_self, sg_ad_E], by rw [old 0 (by omega)]; exact hS.2.1, fun i hi => ?_, fun i hi e h1 h2 => ?_⟩
  · by_cases h1 : i = m
    · subst h1
      rw [va_up_self, old i (Nat.le_refl _), hS.1]
      omega
    · rw [old i (by omega), old (i + 1) (by omega)]
      exact hS.2.2.1 i (by omega)
  · by_cases h3 : i = m
    · subst h3
      rw [va_up_self] at h2
      rw [old i (Nat.le_refl _), hS.1] at h1
      rw [old i (Nat.le_refl _), hS.1, sg_ad_S, sg_ad_S, sg_ad_N, sg_ad_N, sg_ad_R, if_pos (by omega), if_pos (by omega), if_pos (by omega), if_pos (by omega), if_neg (by omega), if_pos (by omega)]
      refine ⟨rfl, by omega, fun x hx => ?_, rfl⟩
      rw [sg_ad_P1 (by omega) hx, sg_ad_P1 (by omega) hx]
    · have hi' : i < m := by omega
      rw [old i (by omega)] at h1
      rw [old (i + 1) (by omega)] at h2
      rw [old i (by omega)]
      have hle := hS.le (i := i + 1) hi'
      obtain ⟨a1, a2, a3, a4⟩ := hS.2.2.2 i hi' e h1 h2
      rw [sg_ad_S, sg_ad_S, sg_ad_N, sg_ad_N, sg_ad_R, if_neg (by omega), if_neg (by omega), if_neg (by omega), if_neg (by omega), if_neg (by omega), if_neg (by omega)]
      refine ⟨a1, a2, fun x hx => ?_, a4⟩
      rw [sg_ad_P0 (by omega), sg_ad_P0 (by omega)]
      exact a3 x hx
end
/-! heads -/
def sg_lt (g : sg_G) (s : Nat) : Nat := gT g s (gC g s - 1)
def sg_hd (g : sg_G) (t : Nat) : Prop := ∀ u, u < gA g → 0 < gC g u → sg_lt g u ≠ sg_lt g t → ¬ sg_in g (sg_lt g t) (sg_lt g u)
section
variable {g : sg_G} {s : Nat} {ps : List Nat}
theorem sg_lt_E (h : sg_I g) {t : Nat} (ht : t < gA g) (hc : 0 < gC g t) : sg_lt g t < gE g := h.t ht (by omega)
theorem sg_lt_S (h : sg_I g) {t : Nat} (ht : t < gA g) (hc : 0 < gC g t) : gS g (sg_lt g t) = t := h.ts ht (by omega)
theorem sg_lt_N (h : sg_I g) {t : Nat} (ht : t < gA g) (hc : 0 < gC g t) : gN g (sg_lt g t) = gC g t - 1 := h.tk ht (by omega)
/-- an event is in the history of its agent's latest -/
theorem sg_in_lt (h : sg_I g) {e : Nat} (he : e < gE g) : sg_in g e (sg_lt g (gS g e)) := by
  have hs := h.s he
  have hn := h.n he
  have hl := sg_lt_E h hs (by omega)
  rw [sg_same h hl (sg_lt_S h hs (by omega)).symm, sg_lt_N h hs (by omega)]
  omega
theorem sg_hd_ad (h : sg_I g) (hs : s < gA g) (hp : ps.Pairwise (· < ·)) (hl : ∀ p ∈ ps, p < gE g) (hg : 0 < gC g s → ∃ p ∈ ps, gP g p s = gC g s) (k : Nat) (hk : gE g + k < 8192) {t : Nat} (ht : t < gA g) (hct : t ≠ s → 0 < gC g t) :
    sg_hd (sg_ad g s ps k) t ↔ t = s ∨ (sg_hd g t ∧ sg_lt g t ∉ ps) := by
  have I' := sg_ad_I h hs hp hl hg k hk
  have ltS : sg_lt (sg_ad g s ps k) s = gE g + k := by
    unfold sg_lt
    rw [sg_ad_C, if_pos rfl, sg_ad_T, if_pos (by omega)]
    omega
  have ltO : ∀ u, u ≠ s → sg_lt (sg_ad g s ps k) u = sg_lt g u := fun u hu => by
    unfold sg_lt
    rw [sg_ad_C, if_neg hu, sg_ad_T, if_neg (by omega)]
  have cO : ∀ u, u ≠ s → gC (sg_ad g s ps k) u = gC g u := fun u hu => by rw [sg_ad_C, if_neg hu]
  have cS : gC (sg_ad g s ps k) s = gC g s + k + 1 := by rw [sg_ad_C, if_pos rfl]
  -- the new latest is in nobody else's history; the old ones as they were
  have inOld : ∀ e f, e < gE g → f < gE g → (sg_in (sg_ad g s ps k) e f ↔ sg_in g e f) := by
    intro e f he hf
    unfold sg_in
    rw [sg_ad_N0 he, sg_ad_S0 he, sg_ad_P0 hf]
  have inNew : ∀ e, e < gE g → gS g e ≠ s → (sg_in (sg_ad g s ps k) e (gE g + k) ↔ ∃ p ∈ ps, sg_in g e p) := by
    intro e he hes
    unfold sg_in
    rw [sg_ad_N0 he, sg_ad_S0 he, sg_ad_P1 (by omega) hes]
    constructor
    · intro h1
      obtain ⟨p, hp, hv⟩ := sg_mx_at (g := g) (x := gS g e) (l := ps) (by omega)
      exact ⟨p, hp, by rw [hv]; exact h1⟩
    · rintro ⟨p, hp, hv⟩
      exact Nat.lt_of_lt_of_le hv (sg_mx_ge hp)
  by_cases hts : t = s
  · subst hts
    refine ⟨fun _ => Or.inl rfl, fun _ u hu hcu hne hin => ?_⟩
    have hu' : u < gA g := by rw [sg_ad_A] at hu; exact hu
    have h1 := sg_lt_E I' hu hcu
    have h2 := sg_lt_E I' (t := t) (by rw [sg_ad_A]; exact hs) (by rw [cS]; omega)
    have h3 := sg_le I' h2 h1 hin
    rw [sg_ad_E] at h1
    rw [ltS] at h3 hne
    omega
  · have hct' := hct hts
    have hte := sg_lt_E h ht hct'
    have htS := sg_lt_S h ht hct'
    have htN := sg_lt_N h ht hct'
    constructor
    · intro hh
      refine Or.inr ⟨?_, ?_⟩
      · intro u hu hcu hne hin
        by_cases hus : u = s
        · subst hus
          obtain ⟨p, hp, hv⟩ := hg hcu
          have hpE := hl p hp
          have h1 : sg_in g (sg_lt g u) p := by
            unfold sg_in
            rw [sg_lt_S h hu hcu, hv, sg_lt_N h hu hcu]
            omega
          have h2 := sg_trans h (sg_lt_E h hu hcu) hpE hin h1
          refine hh u (by rw [sg_ad_A]; exact hu) (by rw [cS]; omega) (by rw [ltS, ltO t hts]; omega) ?_
          rw [ltS, ltO t hts]
          exact (inNew _ hte (by rw [htS]; exact hts)).2 ⟨p, hp, h2⟩
        · refine hh u (by rw [sg_ad_A]; exact hu) (by rw [cO u hus]; exact hcu) (by rw [ltO u hus, ltO t hts]; exact hne) ?_
          rw [ltO u hus, ltO t hts]
          exact (inOld _ _ hte (sg_lt_E h hu hcu)).2 hin
      · intro hmem
        refine hh s (by rw [sg_ad_A]; exact hs) (by rw [cS]; omega) (by rw [ltS, ltO t hts]; omega) ?_
        rw [ltS, ltO t hts]
        exact (inNew _ hte (by rw [htS]; exact hts)).2 ⟨_, hmem, sg_self h hte⟩
    · rintro (h1 | ⟨h1, h2⟩)
      · exact absurd h1 hts
      · intro u hu hcu hne hin
        have hu' : u < gA g := by rw [sg_ad_A] at hu; exact hu
        by_cases hus : u = s
        · subst hus
          rw [ltS, ltO t hts] at hin
          obtain ⟨p, hp, hv⟩ := (inNew _ hte (by rw [htS]; exact hts)).1 hin
          have hpE := hl p hp
          have hpS := h.s hpE
          have hpC : 0 < gC g (gS g p) := by have := h.n hpE; omega
          by_cases h3 : gS g p = t
          · have h4 := sg_le h hte hpE hv
            have h5 := sg_le h hpE (sg_lt_E h hpS hpC) (sg_in_lt h hpE)
            rw [h3] at h5
            have h6 : p = sg_lt g t := by omega
            exact h2 (h6 ▸ hp)
          · refine h1 (gS g p) hpS hpC ?_ (sg_trans h hpE (sg_lt_E h hpS hpC) hv (sg_in_lt h hpE))
            intro h4
            have h5 := sg_lt_S h hpS hpC
            rw [h4, htS] at h5
            exact h3 h5.symm
        · rw [ltO u hus, ltO t hts] at hin hne
          rw [cO u hus] at hcu
          exact h1 u hu' hcu hne ((inOld _ _ hte (sg_lt_E h hu' hcu)).1 hin)
end
/-! the list: insertion, as both sides do it -/
def sg_ins (p : Nat) : List Nat → List Nat
  | [] => [p]
  | q :: r => if p < q then p :: q :: r else q :: sg_ins p r
theorem sg_ins_mem {p x : Nat} : ∀ {l : List Nat}, x ∈ sg_ins p l ↔ x = p ∨ x ∈ l
  | [] => by simp [sg_ins]
  | q :: r => by
    unfold sg_ins
    split
    · simp
    · simp only [List.mem_cons, sg_ins_mem (l := r)]
      constructor
      · rintro (h | h | h)
        · exact Or.inr (Or.inl h)
        · exact Or.inl h
        · exact Or.inr (Or.inr h)
      · rintro (h | h | h)
        · exact Or.inr (Or.inl h)
        · exact Or.inl h
        · exact Or.inr (Or.inr h)
theorem sg_ins_len {p : Nat} : ∀ {l : List Nat}, (sg_ins p l).length = l.length + 1
  | [] => rfl
  | q :: r => by
    unfold sg_ins
    split
    · rfl
    · simp only [List.length_cons, sg_ins_len (l := r)]
theorem sg_ins_sort {p : Nat} : ∀ {l : List Nat}, l.Pairwise (· < ·) → p ∉ l → (sg_ins p l).Pairwise (· < ·)
  | [], _, _ => by simp [sg_ins]
  | q :: r, h, hp => by
    rw [List.pairwise_cons] at h
    have hpq : p ≠ q := fun z => hp (z ▸ List.mem_cons_self)
    have hpr : p ∉ r := fun z => hp (List.mem_cons_of_mem _ z)
    unfold sg_ins
    split
    · rename_i h1
      rw [List.pairwise_cons, List.pairwise_cons]
      refine ⟨fun x hx => ?_, h⟩
      rcases List.mem_cons.mp hx with h2 | h2
      · omega
      · have := h.1 x h2; omega
    · rename_i h1
      rw [List.pairwise_cons]
      refine ⟨fun x hx => ?_, sg_ins_sort h.2 hpr⟩
      rcases sg_ins_mem.mp hx with h2 | h2
      · omega
      · exact h.1 x h2
/-- the list as the reference has it, laid by rising places -/
def sg_sort : List Nat → List Nat → List Nat
  | acc, [] => acc
  | acc, p :: r => sg_sort (sg_ins p acc) r
theorem sg_sort_app {p : Nat} : ∀ {l acc : List Nat}, sg_sort acc (l ++ [p]) = sg_ins p (sg_sort acc l)
  | [], _ => rfl
  | q :: r, acc => sg_sort_app (l := r) (acc := sg_ins q acc)
theorem sg_sort_mem {x : Nat} : ∀ {l acc : List Nat}, x ∈ sg_sort acc l ↔ x ∈ acc ∨ x ∈ l
  | [], acc => by simp [sg_sort]
  | q :: r, acc => by
    show x ∈ sg_sort (sg_ins q acc) r ↔ _
    rw [sg_sort_mem (l := r), sg_ins_mem, List.mem_cons]
    constructor
    · rintro ((h | h) | h)
      · exact Or.inr (Or.inl h)
      · exact Or.inl h
      · exact Or.inr (Or.inr h)
    · rintro (h | h | h)
      · exact Or.inl (Or.inr h)
      · exact Or.inl (Or.inl h)
      · exact Or.inr h
theorem sg_sort_len : ∀ {l acc : List Nat}, (sg_sort acc l).length = acc.length + l.length
  | [], acc => by simp [sg_sort]
  | q :: r, acc => by
    show (sg_sort (sg_ins q acc) r).length = _
    rw [sg_sort_len (l := r), sg_ins_len, List.length_cons]
    omega
theorem sg_sort_sort : ∀ {l acc : List Nat}, acc.Pairwise (· < ·) → l.Nodup → (∀ x ∈ l, x ∉ acc) → (sg_sort acc l).Pairwise (· < ·)
  | [], acc, h, _, _ => h
  | q :: r, acc, h, hn, hd => by
    rw [List.nodup_cons] at hn
    show (sg_sort (sg_ins q acc) r).Pairwise (· < ·)
    refine sg_sort_sort (l := r) (acc := sg_ins q acc) (sg_ins_sort h (hd q List.mem_cons_self)) hn.2 (fun x hx hm => ?_)
    rcases sg_ins_mem.mp hm with h1 | h1
    · exact hn.1 (h1 ▸ hx)
    · exact hd x (List.mem_cons_of_mem _ hx) h1
