/-! the class's readers: apart, latest, critical, base -/
section
variable {l : Launch} {κ : sp_K} {g : sg_G} {X : sc_X} {L : List Nat} {μ : sp_M} {mc ms : Nat} {Rt : Option Value → sp_M → Prop} {Xt : String → sp_M → Prop}
theorem sn_max0 {a b : Nat} (ha : a ≤ 8192) (hb : b ≤ 8192) : (if (0 : Int32) < nI a - nI b then nI a - nI b else 0) = nI (a - b) := by
  rcases Nat.lt_or_ge b a with h | h
  · rw [pk_sub (by omega), if_pos]
    exact nI_lt (a := 0) (by omega) (by omega)
  · rw [if_neg]
    · rw [Nat.sub_eq_zero_of_le h]; rfl
    · rcases Nat.lt_or_ge a b with h1 | h1
      · have := pk_sneg (a := a) (b := b) (by omega) h1
        intro h2
        exact absurd (Int32.lt_trans this h2) (Int32.lt_irrefl)
      · have : a = b := by omega
        subst this
        rw [pk_sub (Nat.le_refl _), Nat.sub_self]
        decide
theorem lp_apart {x : sp_X} {k n : Nat} (hx : x.2.1.stackTraces = false) (hh : cxE_apart κ x mc ms) (hk : k ≤ mc ∧ n ≤ ms) (h : sc_R κ g X L μ) {e1 e2 i1 i2 : Nat} (hi1 : i1 < xm X) (a1 : xf X i1 ≤ e1) (a2 : e1 < xf X (i1 + 1)) (hi2 : i2 < xm X) (b1 : xf X i2 ≤ e2) (b2 : e2 < xf X (i2 + 1)) (hR : Rt (some (.int (nI (sg_sum (fun s => gP g e1 s - gP g e2 s) 16)))) μ) :
    ∀ (d s : Nat), 16 = s + d → sp_w κ x (sp_F κ x Rt Xt mc ms) k n 19 [(0, .ref (xh X)), (1, .int (nI e1)), (2, .int (nI e2)), (3, va_rf (some (xs X i1))), (4, va_rf (some (xs X i2))), (5, .int (nI (sg_sum (fun s => gP g e1 s - gP g e2 s) s))), (6, .int (nI s))] [] μ := by
  have hE1 : e1 < gE g := by have := sc_last h hi1; omega
  have hE2 : e2 < gE g := by have := sc_last h hi2; omega
  intro d
  induction d with
  | zero =>
    intro s hs
    have : s = 16 := by omega
    subst this
    exact bkE_apart_19 hh hk ⟨fun _ => hR, fun c => absurd (by decide) c⟩
  | succ d ih =>
    intro s hs
    refine bkE_apart_19 hh hk ⟨fun c => absurd c (nI_ge (b := 16) (by omega) (by omega)), fun c => ⟨_, rfl, 0, 0, hk, _, h.os hi1, ct_seenAt hx h hi1 a1 a2 (by omega) ⟨_, rfl, _, rfl, 0, 0, hk, _, h.os hi2, ct_seenAt hx h hi2 b1 b2 (by omega) ⟨_, rfl, ?_⟩⟩⟩⟩
    rw [sn_max0 (h.I.ple hE1) (h.I.ple hE2), nI_add, nI_1]
    exact ih (s + 1) (by omega)
theorem ct_apart (htr : l.stackTraces = false) (h : sc_R κ g X L μ) {e1 e2 : Nat} (he1 : e1 < gE g) (he2 : e2 < gE g) (hR : Rt (some (.int (nI (sg_sum (fun s => gP g e1 s - gP g e2 s) 16)))) μ) : sp_m l κ yE_apart wE_apart 7 111 mc ms [.ref (xh X), .int (nI e1), .int (nI e2)] μ Rt Xt := by
  obtain ⟨i1, hi1, a1, a2⟩ := h.S.span he1
  obtain ⟨i2, hi2, b1, b2⟩ := h.S.span he2
  exact opE_apart htr (fun x hx hh => bkE_apart_0 hh z2 ⟨0, 0, z2, _, h.o, ct_spanOf hx h hi1 a1 a2 ⟨_, rfl, 0, 0, z2, _, h.o, ct_spanOf hx h hi2 b1 b2 ⟨_, rfl, lp_apart hx hh z2 h hi1 a1 a2 hi2 b1 b2 hR 16 0 rfl⟩⟩⟩)
theorem ct_apart_bad (htr : l.stackTraces = false) (h : sc_R κ g X L μ) {v1 v2 : Int32} (hv : (∀ e, e < gE g → v1 ≠ nI e) ∨ ∀ e, e < gE g → v2 ≠ nI e) (hr : 1 ≤ mc ∧ 6 ≤ ms) (hX : Xt xNo μ) : sp_m l κ yE_apart wE_apart 7 111 mc ms [.ref (xh X), .int v1, .int v2] μ Rt Xt := by
  refine opE_apart htr (fun x hx hh => bkE_apart_0 hh z2 ?_)
  rcases sc_place h v1 with ⟨e, i, he, hi, a1, a2, rfl⟩ | hb
  · have hv2 : ∀ e, e < gE g → v2 ≠ nI e := hv.resolve_left (fun q => q e he rfl)
    exact ⟨0, 0, z2, _, h.o, ct_spanOf hx h hi a1 a2 ⟨_, rfl, 1, 6, by omega, _, h.o, ct_spanOf_bad hx h hv2 ⟨Nat.le_refl _, Nat.le_refl _⟩ hX⟩⟩
  · exact ⟨1, 6, by omega, _, h.o, ct_spanOf_bad hx h hb ⟨Nat.le_refl _, Nat.le_refl _⟩ hX⟩
/-- the greatest below b with P, or -1 -/
def sg_gr (P : Nat → Prop) (b : Nat) (r : Int32) : Prop := (∃ e, e < b ∧ P e ∧ r = nI e ∧ ∀ f, e < f → f < b → ¬ P f) ∨ (r = -1 ∧ ∀ f, f < b → ¬ P f)
theorem sg_gr_one {P : Nat → Prop} {b : Nat} {r r' : Int32} (h : sg_gr P b r) (h' : sg_gr P b r') : r = r' := by
  rcases h with ⟨e, h1, h2, rfl, h3⟩ | ⟨rfl, h3⟩ <;> rcases h' with ⟨e', h1', h2', rfl, h3'⟩ | ⟨rfl, h3'⟩
  · rcases Nat.lt_trichotomy e e' with q | q | q
    · exact absurd h2' (h3 e' q h1')
    · rw [q]
    · exact absurd h2 (h3' e q h1)
  · exact absurd h2 (h3' e h1)
  · exact absurd h2' (h3 e' h1')
  · rfl
/-- a limit, as a number -/
def sg_lim (v : Int32) : Nat := v.toNatClampNeg
theorem sg_lim_lt (v : Int32) : sg_lim v < 2 ^ 31 := by
  unfold sg_lim
  rcases Int32.lt_or_le v 0 with h | h
  · have : v.toNatClampNeg = 0 := by
      have h1 := Int32.lt_iff_toInt_lt.mp h
      have h2 : (0 : Int32).toInt = 0 := rfl
      show v.toInt.toNat = 0
      omega
    rw [this]; decide
  · obtain ⟨j, hj, rfl⟩ := nI_of (x := v) (Int32.not_lt.mpr h)
    rw [nI_clamp hj]
    exact hj
theorem sg_lim_hb (v : Int32) : (if v < 0 then 0 else v) = nI (sg_lim v) := by
  unfold sg_lim
  by_cases h : v < 0
  · rw [if_pos h]
    have : v.toNatClampNeg = 0 := by
      have h1 := Int32.lt_iff_toInt_lt.mp h
      have h2 : (0 : Int32).toInt = 0 := rfl
      show v.toInt.toNat = 0
      omega
    rw [this]
    rfl
  · rw [if_neg h]
    obtain ⟨j, hj, rfl⟩ := nI_of h
    rw [nI_clamp hj]
/-- integers as the machine has them -/
theorem sn_toInt {v : Int32} {z : Int} (h : v.toInt = z) {w : Int32} (h' : w.toInt = z) : v = w := Int32.toInt_inj.mp (h.trans h'.symm)
end
