/-! the class's readers: critical, base, latest -/
section
theorem sn_pt {b : Nat} (h : b < 2 ^ 31) : (nI b - 1).toInt = (b : Int) - 1 := by
  cases b with
  | zero => decide
  | succ b =>
    rw [nI_pred, nI_toInt (by omega)]
    omega
theorem sn_plt {a b : Nat} (ha : a < 2 ^ 31) (hb : b < 2 ^ 31) : nI a - 1 < nI b - 1 ↔ a < b := by
  rw [Int32.lt_iff_toInt_lt, sn_pt ha, sn_pt hb]
  omega
theorem sn_pmin {a b : Nat} (ha : a < 2 ^ 31) (hb : b < 2 ^ 31) : (if nI a - 1 < nI b - 1 then nI a - 1 else nI b - 1) = nI (min a b) - 1 := by
  by_cases h : a < b
  · rw [if_pos ((sn_plt ha hb).2 h), Nat.min_eq_left (by omega)]
  · rw [if_neg (fun q => h ((sn_plt ha hb).1 q)), Nat.min_eq_right (by omega)]
theorem sn_p1 (a : Nat) : nI a = nI (a + 1) - 1 := (nI_pred a).symm
theorem sg_ct_seg {P : Nat → Bool} {a T : Nat} : ∀ (d : Nat), (∀ e, a ≤ e → e < a + d → (P e = true ↔ e < T)) → sg_ct P (a + d) = sg_ct P a + (min T (a + d) - a)
  | 0, _ => by
    have : min T (a + 0) - a = 0 := by omega
    rw [this]
    rfl
  | d + 1, h => by
    have ih := sg_ct_seg d (fun e h1 h2 => h e h1 (by omega))
    have hd := h (a + d) (by omega) (by omega)
    show sg_ct P (a + d) + (if P (a + d) = true then 1 else 0) = _
    rw [ih]
    by_cases q : a + d < T
    · rw [if_pos (hd.2 q)]; omega
    · rw [if_neg (fun z => q (hd.1 z))]; omega
noncomputable def sg_cb (g : sg_G) (e : Nat) : Bool := @decide (sg_crit g e) (Classical.propDecidable _)
theorem sg_cb_iff {g : sg_G} {e : Nat} : sg_cb g e = true ↔ sg_crit g e := by
  unfold sg_cb
  exact @decide_eq_true_iff _ (Classical.propDecidable _)
variable {l : Launch} {κ : sp_K} {g : sg_G} {X : sc_X} {L : List Nat} {μ : sp_M} {mc ms : Nat} {Rt : Option Value → sp_M → Prop} {Xt : String → sp_M → Prop}
/-- what is still above: e is below M iff each span from t on has a parent that isn't below e -/
def sc_ab (g : sg_G) (X : sc_X) (t M b : Nat) : Prop := ∀ e, e < xf X t → (e < M ↔ e < b ∧ ∀ j, t ≤ j → j < xm X → ∃ p ∈ gR g (xf X j), e ≤ p)
theorem sc_ab_step {M b t P : Nat} (h : sc_R κ g X L μ) (ht : t < xm X) (ha : sc_ab g X (t + 1) M b) (hP : ∀ e, e < P ↔ ∃ p ∈ gR g (xf X t), e ≤ p) : sc_ab g X t (min P M) b := by
  intro e he
  have h1 := h.S.2.2.1 t ht
  have h2 := ha e (by omega)
  have h3 := hP e
  rw [Nat.lt_min, h2, h3]
  constructor
  · rintro ⟨q1, q2, q3⟩
    refine ⟨q2, fun j h1 h2 => ?_⟩
    by_cases q : j = t
    · rw [q]; exact q1
    · exact q3 j (by omega) h2
  · rintro ⟨q1, q2⟩
    exact ⟨q2 t (Nat.le_refl _) ht, q1, fun j h1 h2 => q2 j (by omega) h2⟩
/-- the newest parent, as a number -/
theorem ct_newestP (htr : l.stackTraces = false) (h : sc_R κ g X L μ) {i : Nat} (hi : i < xm X) (hR : ∀ P, P ≤ 8192 → (∀ e, e < P ↔ ∃ p ∈ gR g (xf X i), e ≤ p) → Rt (some (.int (nI P - 1))) μ) : sp_m l κ yS_newestParent wS_newestParent 0 0 mc ms [.ref (xs X i)] μ Rt Xt := by
  refine ct_newestParent htr h hi (fun h0 => ?_) (fun p hp hmax => ?_)
  · refine hR 0 (by omega) (fun e => ?_)
    rw [h0]
    simp
  · have h1 := h.I.pl (h.S.lt hi) hp
    have h2 := h.S.lt hi
    have h3 := h.I.e
    have r := hR (p + 1) (by omega) (fun e => ⟨fun q => ⟨p, hp, by omega⟩, fun ⟨q, hq, hle⟩ => by have := hmax q hq; omega⟩)
    rw [← sn_p1] at r
    exact r
theorem sc_flag (h : sc_R κ g X L μ) {i e M b : Nat} (hi : i < xm X) (ha : sc_ab g X (i + 1) M b) (h1 : xf X i ≤ e) (h2 : e < xf X (i + 1)) : (sg_crit g e ∧ e < b) ↔ sg_sum (gP g (xf X i)) 16 = xf X i + 1 ∧ e < M := by
  rw [sg_crit_span h.I h.S hi h1 h2, ha e h2]
  constructor
  · rintro ⟨⟨q1, q2⟩, q3⟩; exact ⟨q1, q3, q2⟩
  · rintro ⟨q1, q2, q3⟩; exact ⟨⟨q1, q3⟩, q2⟩
abbrev sc_pt (X : sc_X) (t : Nat) : Option Nat := if t = 0 then none else some (xs X (t - 1))
theorem lp_critical {x : sp_X} {k n : Nat} (hx : x.2.1.stackTraces = false) (hh : cxE_critical κ x mc ms) (hk : k ≤ mc ∧ n ≤ ms) (h : sc_R κ g X L μ) (hR : Rt (some (.int (nI (sg_ct (sg_cb g) (gE g))))) μ) :
    ∀ (t M c : Nat), t ≤ xm X → M ≤ 8193 → sc_ab g X t M 8192 → c + sg_ct (sg_cb g) (xf X t) = sg_ct (sg_cb g) (gE g) → sp_w κ x (sp_F κ x Rt Xt mc ms) k n 12 [(0, .ref (xh X)), (1, .int (nI c)), (2, .int (nI M - 1)), (3, va_rf (sc_pt X t))] [] μ := by
  intro t
  induction t with
  | zero =>
    intro M c ht hM ha hc
    rw [h.S.2.1] at hc
    have hc' : c = sg_ct (sg_cb g) (gE g) := hc
    rw [hc']
    exact bkE_critical_12 hh hk ⟨fun _ => hR, fun a z => nomatch z⟩
  | succ t ih =>
    intro M c ht hM ha hc
    have hi : t < xm X := by omega
    obtain ⟨q1, q2, q3, q4⟩ := sc_last h hi
    have go : ∀ (c' : Nat) (w : Int32), c' + sg_ct (sg_cb g) (xf X t) = sg_ct (sg_cb g) (gE g) → sp_w κ x (sp_F κ x Rt Xt mc ms) k n 54 [(0, .ref (xh X)), (1, .int (nI c')), (2, .int (nI M - 1)), (3, .ref (xs X t)), (4, .int w)] [] μ := by
      intro c' w hc'
      refine bkE_critical_54 hh hk ⟨0, 0, hk, _, h.os hi, ct_newestP hx h hi (fun P hP hPv => ⟨_, rfl, _, h.os hi, sc_pt X t, rfl, ?_⟩)⟩
      rw [sn_pmin (by omega) (by omega)]
      exact ih (min P M) c' (by omega) (by omega) (sc_ab_step h hi ha hPv) hc'
    have hseg : sg_ct (sg_cb g) (xf X (t + 1)) = sg_ct (sg_cb g) (xf X t) + (min (if sg_sum (gP g (xf X t)) 16 = xf X t + 1 then M else 0) (xf X (t + 1)) - xf X t) := by
      have e1 : xf X (t + 1) = xf X t + (xf X (t + 1) - xf X t) := by omega
      rw [e1]
      refine sg_ct_seg _ (fun e h1 h2 => ?_)
      rw [← e1] at h2
      have hfl := sc_flag h hi ha h1 h2
      have hb : e < 8192 := by omega
      rw [sg_cb_iff]
      by_cases q : sg_sum (gP g (xf X t)) 16 = xf X t + 1
      · rw [if_pos q]
        exact ⟨fun z => (hfl.1 ⟨z, hb⟩).2, fun z => (hfl.2 ⟨q, z⟩).1⟩
      · rw [if_neg q]
        exact ⟨fun z => absurd (hfl.1 ⟨z, hb⟩).1 q, fun z => by omega⟩
    have etop : (if nI (xf X (t + 1) - 1) < nI M - 1 then nI (xf X (t + 1) - 1) else nI M - 1) = nI (min (xf X (t + 1)) M) - 1 := by
      have e1 : nI (xf X (t + 1) - 1) = nI (xf X (t + 1)) - 1 := by
        rw [sn_p1 (xf X (t + 1) - 1), show xf X (t + 1) - 1 + 1 = xf X (t + 1) by omega]
      rw [e1, sn_pmin (by omega) (by omega)]
    refine bkE_critical_12 hh hk ⟨fun z => (nomatch z), fun a za => ?_⟩
    have za' : some (xs X t) = some a := za
    cases za'
    refine ⟨_, h.os hi, _, rfl, _, rfl, fun c1 => ?_, fun c1 => ⟨_, rfl, fun c2 => ?_, fun c2 => ?_⟩⟩
    · refine go c _ ?_
      have q : ¬ sg_sum (gP g (xf X t)) 16 = xf X t + 1 := by
        intro q
        rw [if_pos q] at c1
        exact absurd c1 (by decide)
      rw [hseg, if_neg q] at hc
      omega
    · refine go c _ ?_
      rw [etop, sn_p1 (xf X t), sn_plt (by omega) (by omega)] at c2
      rw [hseg] at hc
      have : min (if sg_sum (gP g (xf X t)) 16 = xf X t + 1 then M else 0) (xf X (t + 1)) - xf X t = 0 := by
        split <;> omega
      omega
    · have q : sg_sum (gP g (xf X t)) 16 = xf X t + 1 := by
        by_cases q : sg_sum (gP g (xf X t)) 16 = xf X t + 1
        · exact q
        · rw [if_neg q] at c1; exact absurd rfl c1
      rw [etop] at c2 ⊢
      rw [sn_p1 (xf X t), sn_plt (by omega) (by omega)] at c2
      rw [hseg, if_pos q] at hc
      have e2 : nI c + (nI (min (xf X (t + 1)) M) - 1 - nI (xf X t) + 1) = nI (c + (min (xf X (t + 1)) M - xf X t)) := by
        have e3 : nI (min (xf X (t + 1)) M) - 1 = nI (min (xf X (t + 1)) M - 1) := by
          rw [sn_p1 (min (xf X (t + 1)) M - 1), show min (xf X (t + 1)) M - 1 + 1 = min (xf X (t + 1)) M by omega]
        rw [e3, pk_sub (by omega), nI_1, nI_add]
        congr 1
        omega
      rw [e2]
      exact go _ _ (by omega)
theorem ct_critical (htr : l.stackTraces = false) (h : sc_R κ g X L μ) (hR : Rt (some (.int (nI (sg_ct (sg_cb g) (gE g))))) μ) : sp_m l κ yE_critical wE_critical 1 22 mc ms [.ref (xh X)] μ Rt Xt := by
  have hE := h.I.e
  refine opE_critical htr (fun x hx hh => bkE_critical_0 hh z2 ⟨_, h.o, _, rfl, sc_pt X (xm X), rfl, ?_⟩)
  rw [sn_p1 (gE g)]
  refine lp_critical hx hh z2 h hR (xm X) (gE g + 1) 0 (Nat.le_refl _) (by omega) (fun e he => ?_) (by rw [h.S.1]; omega)
  rw [h.S.1] at he
  exact ⟨fun _ => ⟨by omega, fun j h1 h2 => by omega⟩, fun _ => by omega⟩
theorem lp_base {x : sp_X} {k n : Nat} {v : Int32} {b : Nat} (hb : b < 2 ^ 31) (hx : x.2.1.stackTraces = false) (hh : cxE_base κ x mc ms) (hk : k ≤ mc ∧ n ≤ ms) (h : sc_R κ g X L μ) (hR : ∀ r, sg_gr (fun e => e < gE g ∧ sg_crit g e) b r → Rt (some (.int r)) μ) :
    ∀ (t M : Nat), t ≤ xm X → M ≤ b → sc_ab g X t M b → (∀ e, xf X t ≤ e → e < gE g → e < b → ¬ sg_crit g e) → sp_w κ x (sp_F κ x Rt Xt mc ms) k n 10 [(0, .ref (xh X)), (1, .int v), (2, .int (nI M - 1)), (3, va_rf (sc_pt X t))] [] μ := by
  intro t
  induction t with
  | zero =>
    intro M ht hM ha hno
    refine bkE_base_10 hh hk ⟨fun _ => hR _ (Or.inr ⟨rfl, fun f hf q => ?_⟩), fun a z => nomatch z⟩
    exact hno f (by rw [h.S.2.1]; omega) q.1 hf q.2
  | succ t ih =>
    intro M ht hM ha hno
    have hi : t < xm X := by omega
    obtain ⟨q1, q2, q3, q4⟩ := sc_last h hi
    have go : ∀ (w : Int32), (∀ e, xf X t ≤ e → e < xf X (t + 1) → ¬ (sg_crit g e ∧ e < b)) → sp_w κ x (sp_F κ x Rt Xt mc ms) k n 43 [(0, .ref (xh X)), (1, .int v), (2, .int (nI M - 1)), (3, .ref (xs X t)), (4, .int w)] [] μ := by
      intro w hw
      refine bkE_base_43 hh hk ⟨0, 0, hk, _, h.os hi, ct_newestP hx h hi (fun P hP hPv => ⟨_, rfl, _, h.os hi, sc_pt X t, rfl, ?_⟩)⟩
      rw [sn_pmin (by omega) (by omega)]
      refine ih (min P M) (by omega) (by omega) (sc_ab_step h hi ha hPv) (fun e h1 h2 h3 h4 => ?_)
      by_cases q : e < xf X (t + 1)
      · exact hw e h1 q ⟨h4, h3⟩
      · exact hno e (by omega) h2 h3 h4
    have etop : (if nI (xf X (t + 1) - 1) < nI M - 1 then nI (xf X (t + 1) - 1) else nI M - 1) = nI (min (xf X (t + 1)) M) - 1 := by
      have e1 : nI (xf X (t + 1) - 1) = nI (xf X (t + 1)) - 1 := by
        rw [sn_p1 (xf X (t + 1) - 1), show xf X (t + 1) - 1 + 1 = xf X (t + 1) by omega]
      rw [e1, sn_pmin (by omega) (by omega)]
    refine bkE_base_10 hh hk ⟨fun z => (nomatch z), fun a za => ?_⟩
    have za' : some (xs X t) = some a := za
    cases za'
    refine ⟨_, h.os hi, _, rfl, _, rfl, fun c1 => ?_, fun c1 => ⟨_, rfl, fun c2 => ?_, fun c2 => ?_⟩⟩
    · refine go _ (fun e h1 h2 hq => ?_)
      have q := ((sc_flag h hi ha h1 h2).1 hq).1
      rw [if_pos q] at c1
      exact absurd c1 (by decide)
    · refine go _ (fun e h1 h2 hq => ?_)
      have q := ((sc_flag h hi ha h1 h2).1 hq).2
      rw [etop, sn_p1 (xf X t), sn_plt (by omega) (by omega)] at c2
      omega
    · have q : sg_sum (gP g (xf X t)) 16 = xf X t + 1 := by
        by_cases q : sg_sum (gP g (xf X t)) 16 = xf X t + 1
        · exact q
        · rw [if_neg q] at c1; exact absurd rfl c1
      rw [etop] at c2 ⊢
      rw [sn_p1 (xf X t), sn_plt (by omega) (by omega)] at c2
      have e3 : nI (min (xf X (t + 1)) M) - 1 = nI (min (xf X (t + 1)) M - 1) := by
        rw [sn_p1 (min (xf X (t + 1)) M - 1), show min (xf X (t + 1)) M - 1 + 1 = min (xf X (t + 1)) M by omega]
      rw [e3]
      have hfl := sc_flag h hi ha (e := min (xf X (t + 1)) M - 1) (by omega) (by omega)
      obtain ⟨g1, g2⟩ := hfl.2 ⟨q, by omega⟩
      refine hR _ (Or.inl ⟨_, g2, ⟨by omega, g1⟩, rfl, fun f h1 h2 hf => ?_⟩)
      by_cases q5 : f < xf X (t + 1)
      · have := ((sc_flag h hi ha (e := f) (by omega) q5).1 ⟨hf.2, h2⟩).2
        omega
      · exact hno f (by omega) hf.1 h2 hf.2
theorem ct_base (htr : l.stackTraces = false) (h : sc_R κ g X L μ) {v : Int32} (hR : ∀ r, sg_gr (fun e => e < gE g ∧ sg_crit g e) (sg_lim v) r → Rt (some (.int r)) μ) : sp_m l κ yE_base wE_base 2 42 mc ms [.ref (xh X), .int v] μ Rt Xt := by
  refine opE_base htr (fun x hx hh => bkE_base_0 hh z2 ⟨0, 0, z2, ct_highestBelow hx ⟨_, rfl, _, h.o, sc_pt X (xm X), rfl, ?_⟩⟩)
  rw [sg_lim_hb]
  refine lp_base (sg_lim_lt v) hx hh z2 h hR (xm X) (sg_lim v) (Nat.le_refl _) (Nat.le_refl _) (fun e he => ⟨fun q => ⟨q, fun j h1 h2 => by omega⟩, fun q => q.1⟩) (fun e h1 h2 => ?_)
  rw [h.S.1] at h1
  omega
end
