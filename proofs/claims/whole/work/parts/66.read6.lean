/-! the class's readers: latest, head -/
section
theorem sn_iadd {x y : Int32} (h1 : -2147483648 ≤ x.toInt + y.toInt) (h2 : x.toInt + y.toInt < 2147483648) : (x + y).toInt = x.toInt + y.toInt := by
  rw [Int32.toInt_add]
  exact Int.bmod_eq_of_le (by omega) (by omega)
theorem sn_isub {x y : Int32} (h1 : -2147483648 ≤ x.toInt - y.toInt) (h2 : x.toInt - y.toInt < 2147483648) : (x - y).toInt = x.toInt - y.toInt := by
  rw [Int32.toInt_sub]
  exact Int.bmod_eq_of_le (by omega) (by omega)
theorem sn_imin (x y : Int32) : (if x < y then x else y).toInt = min x.toInt y.toInt := by
  by_cases h : x < y
  · rw [if_pos h]
    have := Int32.lt_iff_toInt_lt.mp h
    omega
  · rw [if_neg h]
    have : ¬ x.toInt < y.toInt := fun q => h (Int32.lt_iff_toInt_lt.mpr q)
    omega
theorem sn_imax (x y : Int32) : (if x < y then y else x).toInt = max x.toInt y.toInt := by
  by_cases h : x < y
  · rw [if_pos h]
    have := Int32.lt_iff_toInt_lt.mp h
    omega
  · rw [if_neg h]
    have : ¬ x.toInt < y.toInt := fun q => h (Int32.lt_iff_toInt_lt.mpr q)
    omega
variable {l : Launch} {κ : sp_K} {g : sg_G} {X : sc_X} {L : List Nat} {μ : sp_M} {mc ms : Nat} {Rt : Option Value → sp_M → Prop} {Xt : String → sp_M → Prop}
/-- what latest looks for -/
def sg_la (g : sg_G) (p o : Nat) (e : Nat) : Prop := e < gE g ∧ sg_in g e p ∧ ¬ sg_in g e o
theorem lp_latest {x : sp_X} {k n : Nat} {v3 : Int32} {b : Nat} (hb : b < 2 ^ 31) (hx : x.2.1.stackTraces = false) (hh : cxE_latest κ x mc ms) (hk : k ≤ mc ∧ n ≤ ms) (h : sc_R κ g X L μ) {p o ip io : Nat} (hip : ip < xm X) (a1 : xf X ip ≤ p) (a2 : p < xf X (ip + 1)) (hio : io < xm X) (b1 : xf X io ≤ o) (b2 : o < xf X (io + 1)) (hR : ∀ r, sg_gr (sg_la g p o) b r → Rt (some (.int r)) μ) :
    ∀ (t : Nat), t ≤ xm X → (∀ e, xf X t ≤ e → e < b → ¬ sg_la g p o e) → sp_w κ x (sp_F κ x Rt Xt mc ms) k n 26 [(0, .ref (xh X)), (1, .int (nI p)), (2, .int (nI o)), (3, .int v3), (4, va_rf (some (xs X ip))), (5, va_rf (some (xs X io))), (6, .int (nI b - 1)), (7, va_rf (sc_pt X t))] [] μ := by
  have hEp : p < gE g := by have := sc_last h hip; omega
  have hEo : o < gE g := by have := sc_last h hio; omega
  have h16 := h.I.a
  intro t
  induction t with
  | zero =>
    intro ht hno
    refine bkE_latest_26 hh hk ⟨fun _ => hR _ (Or.inr ⟨rfl, fun f hf q => ?_⟩), fun a z => nomatch z⟩
    exact hno f (by rw [h.S.2.1]; omega) hf q
  | succ t ih =>
    intro ht hno
    have hi : t < xm X := by omega
    obtain ⟨q1, q2, q3, q4⟩ := sc_last h hi
    have hFE := h.S.lt hi
    have hsl := h.I.s hFE
    have hPp := h.I.ple (x := gS g (xf X t)) hEp
    have hPo := h.I.ple (x := gS g (xf X t)) hEo
    have hfn := h.I.nle hFE
    -- the two bounds as integers
    have i1 : (nI (xf X t)).toInt = (xf X t : Int) := nI_toInt (by omega)
    have i2 : (nI (gN g (xf X t))).toInt = (gN g (xf X t) : Int) := nI_toInt (by omega)
    have i3 : (nI (xf X (t + 1) - 1)).toInt = (xf X (t + 1) : Int) - 1 := by rw [nI_toInt (by omega)]; omega
    have i4 : (nI (gP g p (gS g (xf X t))) - 1).toInt = (gP g p (gS g (xf X t)) : Int) - 1 := sn_pt (by omega)
    have i5 : (nI (gP g o (gS g (xf X t)))).toInt = (gP g o (gS g (xf X t)) : Int) := nI_toInt (by omega)
    have i6 : (nI b - 1).toInt = (b : Int) - 1 := sn_pt hb
    have z1 : (nI (xf X t) + (nI (gP g p (gS g (xf X t))) - 1) - nI (gN g (xf X t))).toInt = (xf X t : Int) + (gP g p (gS g (xf X t)) - 1) - gN g (xf X t) := by
      rw [sn_isub, sn_iadd, i1, i2, i4] <;> (try rw [sn_iadd]) <;> rw [i1, i4] <;> (try rw [i2]) <;> omega
    have z2' : (nI (xf X t) + nI (gP g o (gS g (xf X t))) - nI (gN g (xf X t))).toInt = (xf X t : Int) + gP g o (gS g (xf X t)) - gN g (xf X t) := by
      rw [sn_isub, sn_iadd, i1, i2, i5] <;> (try rw [sn_iadd]) <;> rw [i1, i5] <;> (try rw [i2]) <;> omega
    have inp : ∀ e, xf X t ≤ e → e < xf X (t + 1) → (sg_in g e p ↔ (e : Int) ≤ (xf X t : Int) + (gP g p (gS g (xf X t)) - 1) - gN g (xf X t)) := by
      intro e h1 h2
      unfold sg_in
      rw [h.S.s hi h1 h2, h.S.n hi h1 h2]
      omega
    have ino : ∀ e, xf X t ≤ e → e < xf X (t + 1) → (sg_in g e o ↔ (e : Int) < (xf X t : Int) + gP g o (gS g (xf X t)) - gN g (xf X t)) := by
      intro e h1 h2
      unfold sg_in
      rw [h.S.s hi h1 h2, h.S.n hi h1 h2]
      omega
    refine bkE_latest_26 hh hk ⟨fun z => (nomatch z), fun a za => ?_⟩
    have za' : some (xs X t) = some a := za
    cases za'
    refine ⟨_, h.os hi, some (xa X (gS g (xf X t))), rfl, _, rfl, _, h.oa hsl, _, rfl, _, rfl, 0, 0, hk, _, h.os hip, ct_seenAt hx h hip a1 a2 (by omega) ⟨_, rfl, 0, 0, hk, _, h.os hi, ct_placeOfNumber_raw hx (h.os hi) ⟨_, rfl, _, rfl, 0, 0, hk, _, h.os hio, ct_seenAt hx h hio b1 b2 (by omega) ⟨_, rfl, 0, 0, hk, _, h.os hi, ct_placeOfNumber_raw hx (h.os hi) ⟨_, rfl, _, h.os hi, _, rfl, _, rfl, fun c => ?_, fun c => ?_⟩⟩⟩⟩⟩
    · refine ⟨sc_pt X t, rfl, ih (by omega) (fun e h1 h2 hP => ?_)⟩
      by_cases hin : e < xf X (t + 1)
      · have c' := Int32.lt_iff_toInt_lt.mp c
        rw [sn_imin, sn_imin, sn_imax, z1, z2', i1, i3, i6] at c'
        have p1 := (inp e h1 hin).1 hP.2.1
        have p2 : ¬ ((e : Int) < (xf X t : Int) + gP g o (gS g (xf X t)) - gN g (xf X t)) := fun q => hP.2.2 ((ino e h1 hin).2 q)
        omega
      · exact hno e (by omega) h2 hP
    · have c' : ¬ _ := fun q => c (Int32.lt_iff_toInt_lt.mpr q)
      rw [sn_imin, sn_imin, sn_imax, z1, z2', i1, i3, i6] at c'
      obtain ⟨e, he⟩ : ∃ e : Nat, (e : Int) = min (min ((xf X t : Int) + (gP g p (gS g (xf X t)) - 1) - gN g (xf X t)) ((xf X (t + 1) : Int) - 1)) ((b : Int) - 1) := ⟨(min (min ((xf X t : Int) + (gP g p (gS g (xf X t)) - 1) - gN g (xf X t)) ((xf X (t + 1) : Int) - 1)) ((b : Int) - 1)).toNat, by omega⟩
      have h1 : xf X t ≤ e := by omega
      have h2 : e < xf X (t + 1) := by omega
      refine hR _ (Or.inl ⟨e, by omega, ⟨by omega, (inp e h1 h2).2 (by omega), fun q => ?_⟩, ?_, fun f hf1 hf2 hP => ?_⟩)
      · have := (ino e h1 h2).1 q
        omega
      · refine Int32.toInt_inj.mp ?_
        rw [sn_imin, sn_imin, z1, i3, i6, nI_toInt (by omega)]
        omega
      · by_cases hin : f < xf X (t + 1)
        · have p1 := (inp f (by omega) hin).1 hP.2.1
          omega
        · exact hno f (by omega) hf2 hP
theorem ct_latest (htr : l.stackTraces = false) (h : sc_R κ g X L μ) {e1 e2 : Nat} {v : Int32} (he1 : e1 < gE g) (he2 : e2 < gE g) (hR : ∀ r, sg_gr (sg_la g e1 e2) (sg_lim v) r → Rt (some (.int r)) μ) : sp_m l κ yE_latest wE_latest 7 111 mc ms [.ref (xh X), .int (nI e1), .int (nI e2), .int v] μ Rt Xt := by
  obtain ⟨i1, hi1, a1, a2⟩ := h.S.span he1
  obtain ⟨i2, hi2, b1, b2⟩ := h.S.span he2
  refine opE_latest htr (fun x hx hh => bkE_latest_0 hh z2 ⟨0, 0, z2, _, h.o, ct_spanOf hx h hi1 a1 a2 ⟨_, rfl, 0, 0, z2, _, h.o, ct_spanOf hx h hi2 b1 b2 ⟨_, rfl, 0, 0, z2, ct_highestBelow hx ⟨_, rfl, _, h.o, sc_pt X (xm X), rfl, ?_⟩⟩⟩⟩)
  rw [sg_lim_hb]
  refine lp_latest (sg_lim_lt v) hx hh z2 h hi1 a1 a2 hi2 b1 b2 hR (xm X) (Nat.le_refl _) (fun e h1 h2 hP => ?_)
  rw [h.S.1] at h1
  have := hP.1
  omega
theorem ct_latest_bad (htr : l.stackTraces = false) (h : sc_R κ g X L μ) {v1 v2 v3 : Int32} (hv : (∀ e, e < gE g → v1 ≠ nI e) ∨ ∀ e, e < gE g → v2 ≠ nI e) (hr : 1 ≤ mc ∧ 6 ≤ ms) (hX : Xt xNo μ) : sp_m l κ yE_latest wE_latest 7 111 mc ms [.ref (xh X), .int v1, .int v2, .int v3] μ Rt Xt := by
  refine opE_latest htr (fun x hx hh => bkE_latest_0 hh z2 ?_)
  rcases sc_place h v1 with ⟨e, i, he, hi, a1, a2, rfl⟩ | hb
  · have hv2 : ∀ e, e < gE g → v2 ≠ nI e := hv.resolve_left (fun q => q e he rfl)
    exact ⟨0, 0, z2, _, h.o, ct_spanOf hx h hi a1 a2 ⟨_, rfl, 1, 6, by omega, _, h.o, ct_spanOf_bad hx h hv2 ⟨Nat.le_refl _, Nat.le_refl _⟩ hX⟩⟩
  · exact ⟨1, 6, by omega, _, h.o, ct_spanOf_bad hx h hb ⟨Nat.le_refl _, Nat.le_refl _⟩ hX⟩
/-! the heads, by rising names -/
/-- the slot of a name -/
def sg_slot (g : sg_G) (a : Nat) : Nat → Option Nat
  | 0 => none
  | k + 1 => if gM g k = a then some k else sg_slot g a k
theorem sg_slot_some (h : sg_I g) {a s : Nat} (hs : s < gA g) (ha : gM g s = a) : ∀ k, s < k → k ≤ gA g → sg_slot g a k = some s
  | 0, hk, _ => by omega
  | k + 1, hk, hk2 => by
    unfold sg_slot
    by_cases q : gM g k = a
    · rw [if_pos q]
      rw [h.nm (s := k) (t := s) (by omega) hs (by rw [q, ha])]
    · rw [if_neg q]
      exact sg_slot_some h hs ha k (by
        rcases Nat.lt_or_ge s k with z | z
        · exact z
        · have : s = k := by omega
          subst this
          exact absurd ha q) (by omega)
theorem sg_slot_none {a : Nat} : ∀ k, (∀ s, s < k → gM g s ≠ a) → sg_slot g a k = none
  | 0, _ => rfl
  | k + 1, h => by
    unfold sg_slot
    rw [if_neg (h k (by omega))]
    exact sg_slot_none k (fun s hs => h s (by omega))
noncomputable def sg_hb (g : sg_G) (s : Nat) : Bool := @decide (sg_hd g s) (Classical.propDecidable _)
theorem sg_hb_iff {s : Nat} : sg_hb g s = true ↔ sg_hd g s := by
  unfold sg_hb
  exact @decide_eq_true_iff _ (Classical.propDecidable _)
/-- the heads of the agents whose names are below n -/
noncomputable def sg_hl (g : sg_G) : Nat → List Nat
  | 0 => []
  | a + 1 => sg_hl g a ++ (match sg_slot g a (gA g) with
    | none => []
    | some s => if sg_hb g s = true then [sg_lt g s] else [])
theorem sg_hl_none {a : Nat} (h : ∀ s, s < gA g → gM g s ≠ a) : sg_hl g (a + 1) = sg_hl g a := by
  show sg_hl g a ++ _ = _
  rw [sg_slot_none _ h]
  simp
theorem sg_hl_yes (h : sg_I g) {s : Nat} (hs : s < gA g) (hd : sg_hd g s) : sg_hl g (gM g s + 1) = sg_hl g (gM g s) ++ [sg_lt g s] := by
  show sg_hl g (gM g s) ++ _ = _
  rw [sg_slot_some h hs rfl _ hs (Nat.le_refl _)]
  simp [sg_hb_iff.mpr hd]
theorem sg_hl_no (h : sg_I g) {s : Nat} (hs : s < gA g) (hd : ¬ sg_hd g s) : sg_hl g (gM g s + 1) = sg_hl g (gM g s) := by
  show sg_hl g (gM g s) ++ _ = _
  rw [sg_slot_some h hs rfl _ hs (Nat.le_refl _)]
  have : ¬ sg_hb g s = true := fun q => hd (sg_hb_iff.mp q)
  simp [this]
theorem sg_hl_len : ∀ a, (sg_hl g a).length ≤ a
  | 0 => Nat.le_refl _
  | a + 1 => by
    have := sg_hl_len a
    show (sg_hl g a ++ _).length ≤ a + 1
    rw [List.length_append]
    split
    · simp; omega
    · split <;> simp <;> omega
theorem sg_hl_mono : ∀ {a b : Nat}, a ≤ b → ∃ r, sg_hl g b = sg_hl g a ++ r := by
  intro a b hab
  induction b with
  | zero =>
    have : a = 0 := by omega
    subst this
    exact ⟨[], by simp⟩
  | succ b ih =>
    by_cases q : a = b + 1
    · subst q; exact ⟨[], by simp⟩
    · obtain ⟨r, hr⟩ := ih (by omega)
      refine ⟨r ++ (match sg_slot g b (gA g) with | none => [] | some s => if sg_hb g s = true then [sg_lt g s] else []), ?_⟩
      show sg_hl g b ++ _ = _
      rw [hr, List.append_assoc]
theorem lp_head {x : sp_X} {k n : Nat} {v : Int32} (hh : cxE_head κ x mc ms) (hk : k ≤ mc ∧ n ≤ ms) (h : sc_R κ g X L μ) (hok : ∀ j, j < (sg_hl g 256).length → v = nI j → Rt (some (.int (nI ((sg_hl g 256).getD j 0)))) μ) (hbad : (∀ j, j < (sg_hl g 256).length → v ≠ nI j) → (k + 1 ≤ mc ∧ n + 6 ≤ ms) ∧ Xt xNo μ) :
    ∀ (d a : Nat), 256 = a + d → (∀ j, j < (sg_hl g a).length → v ≠ nI j) → sp_w κ x (sp_F κ x Rt Xt mc ms) k n 14 [(0, .ref (xh X)), (1, .int v), (2, .int (nI (sg_hl g a).length)), (3, .ref (xg X)), (4, .int (nI 256)), (5, .int (nI a))] [] μ := by
  obtain ⟨f, hf, hfv, hfn⟩ := h.og
  intro d
  induction d with
  | zero =>
    intro a ha hno
    have : a = 256 := by omega
    subst this
    exact bkE_head_14 hh hk ⟨fun _ => hbad hno, fun c => absurd (Int32.le_refl _) c⟩
  | succ d ih =>
    intro a ha hno
    have hlen := sg_hl_len (g := g) a
    refine bkE_head_14 hh hk ⟨fun c => absurd c (nI_ge (by omega) (by omega)), fun c => ⟨_, _, hf, a, rfl, by omega, ?_⟩⟩
    by_cases q : ∃ s, s < gA g ∧ gM g s = a
    · obtain ⟨s, hs, rfl⟩ := q
      refine ⟨_, hfv s hs, fun z => (nomatch z), fun a' za => ?_⟩
      cases za
      refine ⟨_, h.oa hs, _, rfl, fun c2 => ?_, fun c2 => ?_⟩
      · have hd : ¬ sg_hd g s := by
          rcases h.b hs with ⟨q1, -⟩ | ⟨-, q2⟩
          · rw [q1] at c2; exact absurd c2 (by decide)
          · exact q2
        have e := sg_hl_no h.I hs hd
        rw [nI_1, ← e]
        exact ih _ (by omega) (by rw [e]; exact hno)
      · have hd : sg_hd g s := by
          rcases h.b hs with ⟨-, q2⟩ | ⟨q1, -⟩
          · exact q2
          · exact absurd q1 c2
        have e := sg_hl_yes h.I hs hd
        refine ⟨fun c3 => ?_, fun c3 => ?_⟩
        · have e2 : nI (sg_hl g (gM g s)).length + 1 = nI (sg_hl g (gM g s + 1)).length := by
            rw [nI_1, e, List.length_append]; rfl
          rw [e2, nI_1]
          refine ih _ (by omega) (fun j hj hv => ?_)
          rw [e, List.length_append] at hj
          by_cases z : j < (sg_hl g (gM g s)).length
          · exact hno j z hv
          · have : j = (sg_hl g (gM g s)).length := by simp at hj; omega
            subst this
            exact c3 hv.symm
        · refine ⟨_, rfl, ?_⟩
          obtain ⟨r, hr⟩ := sg_hl_mono (g := g) (a := gM g s + 1) (b := 256) (by omega)
          rw [e] at hr
          have r1 := hok (sg_hl g (gM g s)).length (by rw [hr]; simp) c3.symm
          rw [hr] at r1
          have e3 : (sg_hl g (gM g s) ++ [sg_lt g s] ++ r).getD (sg_hl g (gM g s)).length 0 = sg_lt g s := by
            simp [List.getD]
          rw [e3] at r1
          exact r1
    · have q' : ∀ s, s < gA g → gM g s ≠ a := fun s hs z => q ⟨s, hs, z⟩
      have e := sg_hl_none (g := g) q'
      refine ⟨none, hfn a (by omega) q', fun _ => ?_, fun _ z => nomatch z⟩
      rw [nI_1, ← e]
      exact ih _ (by omega) (by rw [e]; exact hno)
theorem ct_head (htr : l.stackTraces = false) (h : sc_R κ g X L μ) {v : Int32} (hok : ∀ j, j < (sg_hl g 256).length → v = nI j → Rt (some (.int (nI ((sg_hl g 256).getD j 0)))) μ) (hbad : (∀ j, j < (sg_hl g 256).length → v ≠ nI j) → (1 ≤ mc ∧ 6 ≤ ms) ∧ Xt xNo μ) : sp_m l κ yE_head wE_head 6 90 mc ms [.ref (xh X), .int v] μ Rt Xt := by
  obtain ⟨f, hf, hfv, hfn⟩ := h.og
  refine opE_head htr (fun x hx hh => bkE_head_0 hh z2 ⟨_, h.o, some (xg X), rfl, _, rfl, _, _, hf, ?_⟩)
  exact lp_head hh z2 h hok (fun q => ⟨by have := (hbad q).1; omega, (hbad q).2⟩) 256 0 rfl (fun j hj => by exact absurd hj (by simp [sg_hl]))
end
