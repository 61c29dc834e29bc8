/-! the class's readers: spans -/
section
variable {l : Launch} {κ : sp_K} {g : sg_G} {X : sc_X} {L : List Nat} {μ : sp_M} {mc ms : Nat} {Rt : Option Value → sp_M → Prop} {Xt : String → sp_M → Prop}
/-- sums and differences of small numbers -/
theorem sn_asub {a b c d : Nat} (h : a + b = c + d) : nI a + nI b - nI c = nI d := by
  rw [nI_add, h, pk_sub (by omega)]
  congr 1
  omega
theorem ct_numberAt_raw {a : Nat} {v fv nv : Int32} {a1 : Nat} {lv : Int32} {a2 a3 : Nat} {sv : Int32} {r1 r2 : Option Nat} (htr : l.stackTraces = false) (ho : μ a = some (.inr (1, [.ref a1, .int fv, .int lv, .int nv, .ref a2, .ref a3, .int sv, va_rf r1, va_rf r2]))) (hR : Rt (some (.int (nv + v - fv))) μ) : sp_m l κ yS_numberAt wS_numberAt 0 0 mc ms [.ref a, .int v] μ Rt Xt :=
  opS_numberAt htr (fun x hx h => bkS_numberAt_0 h ⟨Nat.zero_le _, Nat.zero_le _⟩ ⟨_, ho, _, rfl, _, rfl, hR⟩)
theorem ct_numberAt (htr : l.stackTraces = false) (h : sc_R κ g X L μ) {i e : Nat} (hi : i < xm X) (h1 : xf X i ≤ e) (h2 : e < xf X (i + 1)) (hR : Rt (some (.int (nI (gN g e)))) μ) : sp_m l κ yS_numberAt wS_numberAt 0 0 mc ms [.ref (xs X i), .int (nI e)] μ Rt Xt := by
  refine ct_numberAt_raw htr (h.os hi) ?_
  rw [sn_asub (d := gN g e) (by rw [h.S.n hi h1 h2]; omega)]
  exact hR
theorem ct_placeOfNumber_raw {a : Nat} {v fv nv : Int32} {a1 : Nat} {lv : Int32} {a2 a3 : Nat} {sv : Int32} {r1 r2 : Option Nat} (htr : l.stackTraces = false) (ho : μ a = some (.inr (1, [.ref a1, .int fv, .int lv, .int nv, .ref a2, .ref a3, .int sv, va_rf r1, va_rf r2]))) (hR : Rt (some (.int (fv + v - nv))) μ) : sp_m l κ yS_placeOfNumber wS_placeOfNumber 0 0 mc ms [.ref a, .int v] μ Rt Xt :=
  opS_placeOfNumber htr (fun x hx h => bkS_placeOfNumber_0 h ⟨Nat.zero_le _, Nat.zero_le _⟩ ⟨_, ho, _, rfl, _, rfl, hR⟩)
/-- the number of a span's last event -/
theorem sc_last (h : sc_R κ g X L μ) {i : Nat} (hi : i < xm X) : xf X i ≤ xf X (i + 1) - 1 ∧ xf X (i + 1) - 1 < xf X (i + 1) ∧ xf X (i + 1) ≤ 8192 ∧ xf X (i + 1) ≤ gE g := by
  have h1 := h.S.2.2.1 i hi
  have h2 := h.S.le (i := i + 1) hi
  have h3 := h.I.e
  omega
theorem ct_hasNumber (htr : l.stackTraces = false) (h : sc_R κ g X L μ) {i : Nat} (hi : i < xm X) {v : Int32} (h1 : ∀ n, v = nI n → n < 2 ^ 31 → gN g (xf X i) ≤ n → n ≤ gN g (xf X (i + 1) - 1) → Rt (some (.int 1)) μ) (h0 : (∀ n, v = nI n → n < 2 ^ 31 → ¬ (gN g (xf X i) ≤ n ∧ n ≤ gN g (xf X (i + 1) - 1))) → Rt (some (.int 0)) μ) : sp_m l κ yS_hasNumber wS_hasNumber 1 21 mc ms [.ref (xs X i), .int v] μ Rt Xt := by
  obtain ⟨q1, q2, q3, q4⟩ := sc_last h hi
  have b1 := h.I.nle (e := xf X i) (by omega)
  have b2 := h.I.nle (e := xf X (i + 1) - 1) (by omega)
  refine opS_hasNumber htr (fun x hx hh => bkS_hasNumber_0 hh ⟨Nat.zero_le _, Nat.zero_le _⟩ ⟨_, h.os hi, _, rfl, fun c => ?_, fun c => ⟨_, rfl, 0, 0, ⟨Nat.zero_le _, Nat.zero_le _⟩, ?_⟩⟩)
  · refine h0 (fun n e hn hb => ?_)
    subst e
    rw [nI_ltI hn (by omega)] at c
    omega
  · refine ct_numberAt hx h hi q1 q2 ⟨_, rfl, fun c2 => ?_, fun c2 => ?_⟩
    · refine h0 (fun n e hn hb => ?_)
      subst e
      rw [nI_ltI (by omega) hn] at c2
      omega
    · have hv0 : ¬ v < 0 := by
        intro hv
        apply c
        refine Int32.lt_iff_toInt_lt.mpr ?_
        have := Int32.lt_iff_toInt_lt.mp hv
        rw [nI_toInt (by omega)]
        have : (0 : Int32).toInt = 0 := rfl
        omega
      obtain ⟨n, hn, rfl⟩ := nI_of hv0
      rw [nI_ltI hn (by omega)] at c
      rw [nI_ltI (by omega) hn] at c2
      exact h1 n rfl hn (by omega) (by omega)
theorem ct_seenAt (htr : l.stackTraces = false) (h : sc_R κ g X L μ) {i e s : Nat} (hi : i < xm X) (h1 : xf X i ≤ e) (h2 : e < xf X (i + 1)) (hs : s < 16) (hR : Rt (some (.int (nI (gP g e s)))) μ) : sp_m l κ yS_seenAt wS_seenAt 1 21 mc ms [.ref (xs X i), .int (nI e), .int (nI s)] μ Rt Xt := by
  obtain ⟨q1, q2, q3, q4⟩ := sc_last h hi
  have hE : e < gE g := by omega
  have hsl := h.I.s (e := xf X i) (by omega)
  have h16 := h.I.a
  obtain ⟨f, hf, hfv⟩ := h.oe hi
  refine opS_seenAt htr (fun x hx hh => bkS_seenAt_0 hh ⟨Nat.zero_le _, Nat.zero_le _⟩ ⟨_, h.os hi, some (xa X (gS g (xf X i))), rfl, _, rfl, _, h.oa hsl, _, rfl, fun c => ?_, fun c => ?_⟩)
  · have hne : s ≠ gS g (xf X i) := fun q => c (by rw [q])
    refine ⟨some (xe X i), rfl, _, rfl, _, _, hf, s, rfl, hs, ?_⟩
    rw [hfv s hs, ← h.S.p hi h1 h2 hne]
    exact hR
  · have heq : s = gS g (xf X i) := (nI_eq (by omega) (by omega)).mp c
    refine ⟨0, 0, ⟨Nat.zero_le _, Nat.zero_le _⟩, ct_numberAt hx h hi h1 h2 ⟨_, rfl, ?_⟩⟩
    have h3 := h.I.own hE
    rw [h.S.s hi h1 h2, ← heq] at h3
    rw [nI_1, ← h3]
    exact hR
theorem ct_newestParent (htr : l.stackTraces = false) (h : sc_R κ g X L μ) {i : Nat} (hi : i < xm X) (h0 : gR g (xf X i) = [] → Rt (some (.int (-1))) μ) (h1 : ∀ p, p ∈ gR g (xf X i) → (∀ q ∈ gR g (xf X i), q ≤ p) → Rt (some (.int (nI p))) μ) : sp_m l κ yS_newestParent wS_newestParent 0 0 mc ms [.ref (xs X i)] μ Rt Xt := by
  obtain ⟨q1, q2, q3, q4⟩ := sc_last h hi
  have hE : xf X i < gE g := h.S.lt hi
  have hlen := h.I.rle hE
  obtain ⟨f, hf, hfv⟩ := h.oq hi
  refine opS_newestParent htr (fun x hx hh => bkS_newestParent_0 hh ⟨Nat.zero_le _, Nat.zero_le _⟩ ⟨_, h.os hi, some (xq X i), rfl, _, rfl, _, _, hf, fun c => ?_, fun c => ?_⟩)
  · have h0' : 0 < (gR g (xf X i)).length := by
      rcases Nat.eq_zero_or_pos (gR g (xf X i)).length with q | q
      · exact absurd (by rw [q]; rfl) c
      · exact q
    obtain ⟨m1, m2⟩ := sg_last (h.I.ps hE) h0'
    refine ⟨(gR g (xf X i)).length - 1, ?_, by omega, ?_⟩
    · have e1 : nI (gR g (xf X i)).length = nI ((gR g (xf X i)).length - 1 + 1) := by congr 1; omega
      rw [e1]
      exact nI_pred _
    · rw [hfv _ (by omega)]
      exact h1 _ m1 m2
  · refine h0 (List.eq_nil_of_length_eq_zero ?_)
    exact (nI_eq (by omega) (by omega)).mp (show nI _ = nI 0 from c)
end
