/-! what the reference holds: its addresses by role, the lengths of its rows -/
abbrev md_Y : Type := (Nat → Nat) × (Nat → Nat)
def ya (Y : md_Y) : Nat → Nat := Y.1
def yn (Y : md_Y) : Nat → Nat := Y.2
abbrev md_obj (g : sg_G) (Y : md_Y) (c : Nat) (th : Int32) : va_E := .inr (3, [.ref (ya Y 1), .ref (ya Y 2), .int (nI (gA g)), .ref (ya Y 3), .ref (ya Y 4), .ref (ya Y 5), .ref (ya Y 6), .ref (ya Y 7), .ref (ya Y 8), .int (nI (gE g)), .ref (ya Y 9), .int (nI c), .ref (ya Y 10), .int th])
/-- the arrays' part -/
def md_A (κ : sp_K) (g : sg_G) (Y : md_Y) (μ : sp_M) : Prop :=
  (∃ f, μ (ya Y 1) = some (sp_ia κ 16 f) ∧ ∀ s, s < gA g → f s = nI (gM g s)) ∧
  (∃ f, μ (ya Y 2) = some (sp_ia κ 16 f) ∧ (∀ s, s < gA g → f s = nI (gC g s)) ∧ ∀ s, gA g ≤ s → s < 16 → f s = 0) ∧
  (∃ f, μ (ya Y 3) = some (sp_ra κ 5 16 f) ∧ ∀ s, s < 16 → f s = some (ya Y (11 + s))) ∧
  (∃ f, μ (ya Y 4) = some (sp_sa κ 8192 f) ∧ ∀ e, e < gE g → f e = nI (gS g e)) ∧
  (∃ f, μ (ya Y 5) = some (sp_sa κ 8192 f) ∧ ∀ e, e < gE g → f e = nI (gN g e)) ∧
  (∃ f, μ (ya Y 6) = some (sp_sa κ 8192 f) ∧ ∀ e, e < gE g → f e = nI (gR g e).length) ∧
  (∃ f, μ (ya Y 7) = some (sp_sa κ 131072 f) ∧ ∀ e, e < gE g → ∀ k, k < (gR g e).length → f (16 * e + k) = nI ((gR g e).getD k 0)) ∧
  (∃ f, μ (ya Y 8) = some (sp_sa κ 131072 f) ∧ ∀ e, e < gE g → ∀ x, x < 16 → f (16 * e + x) = nI (gP g e x)) ∧
  (∃ f, μ (ya Y 9) = some (sp_ia κ 16 f)) ∧
  (∃ f, μ (ya Y 10) = some (sp_ia κ 16 f)) ∧
  (∀ s, s < 16 → ∃ f, μ (ya Y (11 + s)) = some (sp_ia κ (yn Y s) f) ∧ (s < gA g → ∀ k, k < gC g s → f k = nI (gT g s k)))
/-- the value's part -/
def md_V (g : sg_G) (Y : md_Y) (c : Nat) : Prop :=
  sg_I g ∧ (∀ e, e < gE g → (gR g e).length ≤ 16) ∧ c ≤ 16 ∧ (∀ s, s < gA g → gC g s ≤ yn Y s) ∧ (∀ s, s < 16 → 8 ≤ yn Y s ∧ yn Y s ≤ 16384) ∧ ∀ i j, i < 27 → j < 27 → ya Y i = ya Y j → i = j
def md_R (κ : sp_K) (g : sg_G) (Y : md_Y) (c : Nat) (th : Int32) (μ : sp_M) : Prop := md_V g Y c ∧ μ (ya Y 0) = some (md_obj g Y c th) ∧ md_A κ g Y μ
def md_c (g : sg_G) : Prop := ∀ s, s < gA g → 0 < gC g s
/-- between two calls -/
def md_T (κ : sp_K) (g : sg_G) (Y : md_Y) (m : List Nat) (th : Int32) (μ : sp_M) : Prop := md_R κ g Y m.length th μ ∧ md_c g ∧ (∀ e ∈ m, e < gE g) ∧ m.Nodup ∧ ∃ f, μ (ya Y 9) = some (sp_ia κ 16 f) ∧ ∀ j, j < m.length → f j = nI (m.getD j 0)
def md_own (Y : md_Y) (q : Nat) : Prop := ∃ i, i < 27 ∧ q = ya Y i
def md_fa (Y : md_Y) (μ : sp_M) (Y' : md_Y) (μ' : sp_M) : Prop := (∀ z e, μ z = some e → ¬ md_own Y z → μ' z = some e) ∧ ∀ z, md_own Y' z → md_own Y z ∨ μ z = none
section
variable {κ : sp_K} {g : sg_G} {Y : md_Y} {c : Nat} {th : Int32} {μ : sp_M}
theorem md_R.I (h : md_R κ g Y c th μ) : sg_I g := h.1.1
theorem md_R.r16 (h : md_R κ g Y c th μ) {e : Nat} (he : e < gE g) : (gR g e).length ≤ 16 := h.1.2.1 e he
theorem md_R.l16 (h : md_R κ g Y c th μ) : c ≤ 16 := h.1.2.2.1
theorem md_R.cn (h : md_R κ g Y c th μ) {s : Nat} (hs : s < gA g) : gC g s ≤ yn Y s := h.1.2.2.2.1 s hs
theorem md_R.nb (h : md_R κ g Y c th μ) {s : Nat} (hs : s < 16) : 8 ≤ yn Y s ∧ yn Y s ≤ 16384 := h.1.2.2.2.2.1 s hs
theorem md_R.ne (h : md_R κ g Y c th μ) {i j : Nat} (hi : i < 27) (hj : j < 27) (hij : i ≠ j) : ya Y i ≠ ya Y j := fun q => hij (h.1.2.2.2.2.2 i j hi hj q)
theorem md_R.o (h : md_R κ g Y c th μ) : μ (ya Y 0) = some (md_obj g Y c th) := h.2.1
theorem md_R.a1 (h : md_R κ g Y c th μ) : ∃ f, μ (ya Y 1) = some (sp_ia κ 16 f) ∧ ∀ s, s < gA g → f s = nI (gM g s) := h.2.2.1
theorem md_R.a2 (h : md_R κ g Y c th μ) : ∃ f, μ (ya Y 2) = some (sp_ia κ 16 f) ∧ (∀ s, s < gA g → f s = nI (gC g s)) ∧ ∀ s, gA g ≤ s → s < 16 → f s = 0 := h.2.2.2.1
theorem md_R.a3 (h : md_R κ g Y c th μ) : ∃ f, μ (ya Y 3) = some (sp_ra κ 5 16 f) ∧ ∀ s, s < 16 → f s = some (ya Y (11 + s)) := h.2.2.2.2.1
theorem md_R.a4 (h : md_R κ g Y c th μ) : ∃ f, μ (ya Y 4) = some (sp_sa κ 8192 f) ∧ ∀ e, e < gE g → f e = nI (gS g e) := h.2.2.2.2.2.1
theorem md_R.a5 (h : md_R κ g Y c th μ) : ∃ f, μ (ya Y 5) = some (sp_sa κ 8192 f) ∧ ∀ e, e < gE g → f e = nI (gN g e) := h.2.2.2.2.2.2.1
theorem md_R.a6 (h : md_R κ g Y c th μ) : ∃ f, μ (ya Y 6) = some (sp_sa κ 8192 f) ∧ ∀ e, e < gE g → f e = nI (gR g e).length := h.2.2.2.2.2.2.2.1
theorem md_R.a7 (h : md_R κ g Y c th μ) : ∃ f, μ (ya Y 7) = some (sp_sa κ 131072 f) ∧ ∀ e, e < gE g → ∀ k, k < (gR g e).length → f (16 * e + k) = nI ((gR g e).getD k 0) := h.2.2.2.2.2.2.2.2.1
theorem md_R.a8 (h : md_R κ g Y c th μ) : ∃ f, μ (ya Y 8) = some (sp_sa κ 131072 f) ∧ ∀ e, e < gE g → ∀ x, x < 16 → f (16 * e + x) = nI (gP g e x) := h.2.2.2.2.2.2.2.2.2.1
theorem md_R.a9 (h : md_R κ g Y c th μ) : ∃ f, μ (ya Y 9) = some (sp_ia κ 16 f) := h.2.2.2.2.2.2.2.2.2.2.1
theorem md_R.a10 (h : md_R κ g Y c th μ) : ∃ f, μ (ya Y 10) = some (sp_ia κ 16 f) := h.2.2.2.2.2.2.2.2.2.2.2.1
theorem md_R.a11 (h : md_R κ g Y c th μ) {s : Nat} (hs : s < 16) : ∃ f, μ (ya Y (11 + s)) = some (sp_ia κ (yn Y s) f) ∧ (s < gA g → ∀ k, k < gC g s → f k = nI (gT g s k)) := h.2.2.2.2.2.2.2.2.2.2.2.2 s hs
/-- the arrays hang on their own cells alone -/
theorem md_A.cong (h : md_A κ g Y μ) {μ' : sp_M} (hq : ∀ i, 1 ≤ i → i < 27 → μ' (ya Y i) = μ (ya Y i)) : md_A κ g Y μ' := by
  obtain ⟨⟨f1, h1⟩, ⟨f2, h2⟩, ⟨f3, h3⟩, ⟨f4, h4⟩, ⟨f5, h5⟩, ⟨f6, h6⟩, ⟨f7, h7⟩, ⟨f8, h8⟩, ⟨f9, h9⟩, ⟨f10, h10⟩, h11⟩ := h
  refine ⟨⟨f1, (hq 1 (by omega) (by omega)).trans h1.1, h1.2⟩, ⟨f2, (hq 2 (by omega) (by omega)).trans h2.1, h2.2⟩, ⟨f3, (hq 3 (by omega) (by omega)).trans h3.1, h3.2⟩, ⟨f4, (hq 4 (by omega) (by omega)).trans h4.1, h4.2⟩, ⟨f5, (hq 5 (by omega) (by omega)).trans h5.1, h5.2⟩, ⟨f6, (hq 6 (by omega) (by omega)).trans h6.1, h6.2⟩, ⟨f7, (hq 7 (by omega) (by omega)).trans h7.1, h7.2⟩, ⟨f8, (hq 8 (by omega) (by omega)).trans h8.1, h8.2⟩, ⟨f9, (hq 9 (by omega) (by omega)).trans h9⟩, ⟨f10, (hq 10 (by omega) (by omega)).trans h10⟩, fun s hs => ?_⟩
  obtain ⟨f, hf, hv⟩ := h11 s hs
  exact ⟨f, (hq (11 + s) (by omega) (by omega)).trans hf, hv⟩
theorem md_R.cong (h : md_R κ g Y c th μ) {μ' : sp_M} (hq : ∀ i, i < 27 → μ' (ya Y i) = μ (ya Y i)) : md_R κ g Y c th μ' :=
  ⟨h.1, (hq 0 (by omega)).trans h.2.1, h.2.2.cong (fun i _ hi => hq i hi)⟩
/-- what was thrown -/
theorem md_R.thr (h : md_R κ g Y c th μ) (th' : Int32) : md_R κ g Y c th' (va_up μ (ya Y 0) (some (md_obj g Y c th'))) :=
  ⟨h.1, va_up_self _ _ _, h.2.2.cong (fun i h1 hi => va_up_ne _ _ (h.ne hi (by omega) (by omega)))⟩
theorem md_fa.rfl : md_fa Y μ Y μ := ⟨fun _ _ h _ => h, fun _ h => Or.inl h⟩
theorem md_fa.up {μ' : sp_M} (h : md_fa Y μ Y μ') {i : Nat} (hi : i < 27) {e : Option va_E} : md_fa Y μ Y (va_up μ' (ya Y i) e) :=
  ⟨fun z e' hz hn => (va_up_ne _ _ (fun q => hn ⟨i, hi, q⟩)).trans (h.1 z e' hz hn), h.2⟩
theorem md_R.iss (h : md_R κ g Y c th μ) {q : Nat} (ho : md_own Y q) : (μ q).isSome = true := by
  obtain ⟨i, hi, rfl⟩ := ho
  rcases Nat.lt_or_ge i 11 with h1 | h1
  · obtain ⟨f1, k1, -⟩ := h.a1
    obtain ⟨f2, k2, -⟩ := h.a2
    obtain ⟨f3, k3, -⟩ := h.a3
    obtain ⟨f4, k4, -⟩ := h.a4
    obtain ⟨f5, k5, -⟩ := h.a5
    obtain ⟨f6, k6, -⟩ := h.a6
    obtain ⟨f7, k7, -⟩ := h.a7
    obtain ⟨f8, k8, -⟩ := h.a8
    obtain ⟨f9, k9⟩ := h.a9
    obtain ⟨f10, k10⟩ := h.a10
    have k0 := h.o
    match i, h1 with
    | 0, _ => rw [k0]; rfl
    | 1, _ => rw [k1]; rfl
    | 2, _ => rw [k2]; rfl
    | 3, _ => rw [k3]; rfl
    | 4, _ => rw [k4]; rfl
    | 5, _ => rw [k5]; rfl
    | 6, _ => rw [k6]; rfl
    | 7, _ => rw [k7]; rfl
    | 8, _ => rw [k8]; rfl
    | 9, _ => rw [k9]; rfl
    | 10, _ => rw [k10]; rfl
  · obtain ⟨f, k, -⟩ := h.a11 (s := i - 11) (by omega)
    have e : 11 + (i - 11) = i := by omega
    rw [e] at k
    rw [k]; rfl
end
/-! its readers -/
section
variable {l : Launch} {κ : sp_K} {g : sg_G} {Y : md_Y} {c : Nat} {th : Int32} {μ : sp_M} {mc ms : Nat} {Rt : Option Value → sp_M → Prop} {Xt : String → sp_M → Prop}
theorem cm_thrown (htr : l.stackTraces = false) (h : md_R κ g Y c th μ) (hR : Rt (some (.int th)) μ) : sp_m l κ yM_thrown wM_thrown 0 0 mc ms [.ref (ya Y 0)] μ Rt Xt :=
  opM_thrown htr (fun _ _ hh => bkM_thrown_0 hh z2 ⟨_, h.o, _, rfl, hR⟩)
theorem cm_there1 (htr : l.stackTraces = false) (hR : Rt none μ) : sp_m l κ yM_there wM_there 6 90 mc ms [.int 1] μ Rt Xt :=
  opM_there htr (fun _ _ hh => bkM_there_0 hh z2 ⟨fun _ => hR, fun c => absurd c (by decide)⟩)
theorem cm_there0 (htr : l.stackTraces = false) (hr : 1 ≤ mc ∧ 6 ≤ ms) (hX : Xt xNo μ) : sp_m l κ yM_there wM_there 6 90 mc ms [.int 0] μ Rt Xt :=
  opM_there htr (fun _ _ hh => bkM_there_0 hh z2 ⟨fun c => absurd rfl c, fun _ => ⟨by omega, hX⟩⟩)
theorem lm_slotOf {x : sp_X} {k n : Nat} (hh : cxM_slotOf κ x mc ms) (hk : k ≤ mc ∧ n ≤ ms) (h : md_R κ g Y c th μ) {v : Int32} (hs : ∀ s, s < gA g → v = nI (gM g s) → Rt (some (.int (nI s))) μ) (hn : (∀ s, s < gA g → v ≠ nI (gM g s)) → Rt (some (.int (-1))) μ) :
    ∀ (d s : Nat), gA g = s + d → (∀ t, t < s → v ≠ nI (gM g t)) → sp_w κ x (sp_F κ x Rt Xt mc ms) k n 2 [(0, .ref (ya Y 0)), (1, .int v), (2, .int (nI s))] [] μ := by
  have h16 := h.I.a
  obtain ⟨f, hf, hv⟩ := h.a1
  intro d
  induction d with
  | zero =>
    intro s e ht
    exact bkM_slotOf_2 hh hk ⟨_, h.o, _, rfl, fun _ => hn (fun t hh => ht t (by omega)), fun c => absurd (nI_le (by omega) (by omega)) c⟩
  | succ d ih =>
    intro s e ht
    refine bkM_slotOf_2 hh hk ⟨_, h.o, _, rfl, fun c => absurd c (nI_ge (by omega) (by omega)), fun _ => ⟨some (ya Y 1), rfl, _, rfl, _, _, hf, s, rfl, by omega, fun c => ?_, fun c => ?_⟩⟩
    · rw [nI_1]
      refine ih (s + 1) (by omega) (fun t hlt => ?_)
      rcases Nat.lt_or_ge t s with q | q
      · exact ht t q
      · have : t = s := by omega
        subst this
        exact fun q => c ((hv t (by omega)).trans q.symm)
    · exact hs s (by omega) (c.symm.trans (hv s (by omega)))
theorem cm_slotOf (htr : l.stackTraces = false) (h : md_R κ g Y c th μ) {v : Int32} (hs : ∀ s, s < gA g → v = nI (gM g s) → Rt (some (.int (nI s))) μ) (hn : (∀ s, s < gA g → v ≠ nI (gM g s)) → Rt (some (.int (-1))) μ) : sp_m l κ yM_slotOf wM_slotOf 0 0 mc ms [.ref (ya Y 0), .int v] μ Rt Xt :=
  opM_slotOf htr (fun _ _ hh => bkM_slotOf_0 hh z2 (lm_slotOf hh z2 h hs hn (gA g) 0 (by omega) (fun _ q => absurd q (Nat.not_lt_zero _))))
theorem cm_find (htr : l.stackTraces = false) (h : md_R κ g Y c th μ) {v1 v2 : Int32} (hok : ∀ s k, s < gA g → k < gC g s → v1 = nI (gM g s) → v2 = nI k → Rt (some (.int (nI (gT g s k)))) μ) (hbad : (∀ s k, s < gA g → k < gC g s → v1 = nI (gM g s) → v2 ≠ nI k) → Rt (some (.int (-1))) μ) : sp_m l κ yM_find wM_find 1 22 mc ms [.ref (ya Y 0), .int v1, .int v2] μ Rt Xt := by
  have h16 := h.I.a
  obtain ⟨f2, hf2, hv2, -⟩ := h.a2
  obtain ⟨f3, hf3, hv3⟩ := h.a3
  refine opM_find htr (fun x hx hh => bkM_find_0 hh z2 ⟨0, 0, z2, _, h.o, cm_slotOf hx h (fun s hs e1 => ⟨_, rfl, fun c => absurd c (nI_pos (by omega)), fun _ => ⟨fun c => hbad (fun s' k' hs' hk' _ e2 => ?_), fun c => ⟨_, h.o, some (ya Y 2), rfl, _, rfl, _, _, hf2, s, rfl, by omega, fun c2 => ?_, fun c2 => hbad (fun s' k' hs' hk' e3 e2 => ?_)⟩⟩⟩) (fun hno => ⟨_, rfl, fun _ => hbad (fun s k hs _ e _ => hno s hs e), fun c => absurd (by decide) c⟩)⟩)
  · have := h.I.cle hs'
    rw [e2] at c
    exact nI_pos (by omega) c
  · have hc := h.I.cle hs
    rw [hv2 s hs] at c2
    obtain ⟨k, hk31, rfl⟩ := nI_of c
    have hk : k < gC g s := (nI_ltI hk31 (by omega)).mp c2
    obtain ⟨fr, hfr, hvr⟩ := h.a11 (s := s) (by omega)
    refine ⟨some (ya Y 3), rfl, _, rfl, _, _, hf3, s, rfl, by omega, _, hv3 s (by omega), _, rfl, _, _, hfr, k, rfl, Nat.lt_of_lt_of_le hk (h.cn hs), ?_⟩
    rw [hvr hs k hk]
    exact hok s k hs hk e1 rfl
  · have hl1 := h.I.nl hs
    have hl2 := h.I.nl hs'
    have hc := h.I.cle hs
    have : s' = s := h.I.nm hs' hs ((nI_eq (by omega) (by omega)).mp (e3.symm.trans e1))
    subst this
    apply c2
    rw [e2, hv2 s' hs]
    exact nI_lt hk' (by omega)
theorem cm_isIn (htr : l.stackTraces = false) (h : md_R κ g Y c th μ) {e f : Nat} (he : e < gE g) (hf : f < gE g) (h1 : sg_in g e f → Rt (some (.int 1)) μ) (h0 : ¬ sg_in g e f → Rt (some (.int 0)) μ) : sp_m l κ yM_isIn wM_isIn 0 0 mc ms [.ref (ya Y 0), .int (nI e), .int (nI f)] μ Rt Xt := by
  have hE := h.I.e
  have h16 := h.I.a
  have hs := h.I.s he
  have b1 := h.I.nle he
  have b2 := h.I.ple (x := gS g e) hf
  obtain ⟨f4, k4, v4⟩ := h.a4
  obtain ⟨f5, k5, v5⟩ := h.a5
  obtain ⟨f8, k8, v8⟩ := h.a8
  have ei : 16 * nI f + f4 e = nI (16 * f + gS g e) := by
    rw [v4 e he, ← nI_add, ← pk_mul]
    rfl
  refine opM_isIn htr (fun x hx hh => bkM_isIn_0 hh z2 ⟨_, h.o, some (ya Y 5), rfl, _, rfl, _, _, k5, e, rfl, by omega, some (ya Y 8), rfl, some (ya Y 4), rfl, _, rfl, _, _, k4, e, rfl, by omega, _, rfl, _, _, k8, _, ei, by omega, ?_⟩)
  rw [v8 f hf _ (by omega), v5 e he]
  refine ⟨fun c => h0 (fun q => ?_), fun c => h1 ?_⟩
  · exact nI_ge (show gN g e < gP g f (gS g e) from q) (by omega) c
  · show gN g e < gP g f (gS g e)
    exact Nat.lt_of_not_le (fun q => c (nI_le q (by omega)))
theorem cm_isPlace (htr : l.stackTraces = false) (h : md_R κ g Y c th μ) {v : Int32} (h1 : ∀ e, e < gE g → v = nI e → Rt (some (.int 1)) μ) (h0 : (∀ e, e < gE g → v ≠ nI e) → Rt (some (.int 0)) μ) : sp_m l κ yM_isPlace wM_isPlace 0 0 mc ms [.ref (ya Y 0), .int v] μ Rt Xt := by
  have hE := h.I.e
  refine opM_isPlace htr (fun x hx hh => bkM_isPlace_0 hh z2 ⟨fun c => h0 (fun e he q => ?_), fun c => ⟨_, h.o, _, rfl, fun c2 => h0 (fun e he q => ?_), fun c2 => ?_⟩⟩)
  · rw [q] at c; exact nI_pos (by omega) c
  · rw [q] at c2; exact nI_ge he (by omega) c2
  · obtain ⟨e, he31, rfl⟩ := nI_of c
    exact h1 e (Nat.lt_of_not_le (fun q => c2 (nI_le q he31))) rfl
theorem cm_isPlaceY (htr : l.stackTraces = false) (h : md_R κ g Y c th μ) {e : Nat} (he : e < gE g) (h1 : Rt (some (.int 1)) μ) : sp_m l κ yM_isPlace wM_isPlace 0 0 mc ms [.ref (ya Y 0), .int (nI e)] μ Rt Xt :=
  cm_isPlace htr h (fun _ _ _ => h1) (fun q => absurd rfl (q e he))
theorem cm_isPlaceN (htr : l.stackTraces = false) (h : md_R κ g Y c th μ) {v : Int32} (hv : ∀ e, e < gE g → v ≠ nI e) (h0 : Rt (some (.int 0)) μ) : sp_m l κ yM_isPlace wM_isPlace 0 0 mc ms [.ref (ya Y 0), .int v] μ Rt Xt :=
  cm_isPlace htr h (fun e he q => absurd q (hv e he)) (fun _ => h0)
theorem lm_isHead {x : sp_X} {k n : Nat} (hx : x.2.1.stackTraces = false) (hh : cxM_isHead κ x mc ms) (hk : k ≤ mc ∧ n ≤ ms) (h : md_R κ g Y c th μ) (hC : md_c g) {e : Nat} (he : e < gE g) (h1 : (∀ u, u < gA g → sg_lt g u ≠ e → ¬ sg_in g e (sg_lt g u)) → Rt (some (.int 1)) μ) (h0 : ¬ (∀ u, u < gA g → sg_lt g u ≠ e → ¬ sg_in g e (sg_lt g u)) → Rt (some (.int 0)) μ) :
    ∀ (d s : Nat), gA g = s + d → (∀ u, u < s → sg_lt g u ≠ e → ¬ sg_in g e (sg_lt g u)) → sp_w κ x (sp_F κ x Rt Xt mc ms) k n 2 [(0, .ref (ya Y 0)), (1, .int (nI e)), (2, .int (nI s))] [] μ := by
  have hE := h.I.e
  have h16 := h.I.a
  obtain ⟨f2, hf2, hv2, -⟩ := h.a2
  obtain ⟨f3, hf3, hv3⟩ := h.a3
  intro d
  induction d with
  | zero =>
    intro s e1 ht
    exact bkM_isHead_2 hh hk ⟨_, h.o, _, rfl, fun _ => h1 (fun t hh => ht t (by omega)), fun c => absurd (nI_le (by omega) (by omega)) c⟩
  | succ d ih =>
    intro s e1 ht
    have hs : s < gA g := by omega
    have hc := h.I.cle hs
    have hc0 := hC s hs
    have hle := sg_lt_E h.I hs hc0
    obtain ⟨fr, hfr, hvr⟩ := h.a11 (s := s) (by omega)
    have ec : f2 s - 1 = nI (gC g s - 1) := by
      rw [hv2 s hs]
      exact pk_sub (b := 1) hc0
    have el : fr (gC g s - 1) = nI (sg_lt g s) := hvr hs _ (by omega)
    have hcn := h.cn hs
    refine bkM_isHead_2 hh hk ⟨_, h.o, _, rfl, fun c => absurd c (nI_ge (by omega) (by omega)), fun _ => ⟨some (ya Y 3), rfl, _, rfl, _, _, hf3, s, rfl, by omega, _, hv3 s (by omega), some (ya Y 2), rfl, _, rfl, _, _, hf2, s, rfl, by omega, _, rfl, _, _, hfr, _, ec, by omega, ?_⟩⟩
    rw [el, nI_1]
    have nxt : (sg_lt g s ≠ e → ¬ sg_in g e (sg_lt g s)) → ∀ u, u < s + 1 → sg_lt g u ≠ e → ¬ sg_in g e (sg_lt g u) := fun q u hu => by
      rcases Nat.lt_or_ge u s with q1 | q1
      · exact ht u q1
      · have : u = s := by omega
        rw [this]
        exact q
    refine ⟨fun c => ih (s + 1) (by omega) (nxt (fun q => absurd ((nI_eq (by omega) (by omega)).mp c) q)), fun c => ⟨0, 0, hk, cm_isIn hx h he hle (fun q => ⟨_, rfl, fun c => absurd c (by decide), fun _ => h0 (fun z => z s hs (fun q2 => c (by rw [q2])) q)⟩) (fun q => ⟨_, rfl, fun _ => ih (s + 1) (by omega) (nxt (fun _ => q)), fun c => absurd rfl c⟩)⟩⟩
theorem cm_isHead (htr : l.stackTraces = false) (h : md_R κ g Y c th μ) (hC : md_c g) {e : Nat} (he : e < gE g) (h1 : (∀ u, u < gA g → sg_lt g u ≠ e → ¬ sg_in g e (sg_lt g u)) → Rt (some (.int 1)) μ) (h0 : ¬ (∀ u, u < gA g → sg_lt g u ≠ e → ¬ sg_in g e (sg_lt g u)) → Rt (some (.int 0)) μ) : sp_m l κ yM_isHead wM_isHead 1 22 mc ms [.ref (ya Y 0), .int (nI e)] μ Rt Xt :=
  opM_isHead htr (fun _ hx hh => bkM_isHead_0 hh z2 (lm_isHead hx hh z2 h hC he h1 h0 (gA g) 0 (by omega) (fun _ q => absurd q (Nat.not_lt_zero _))))
theorem lm_isCritical {x : sp_X} {k n : Nat} (hx : x.2.1.stackTraces = false) (hh : cxM_isCritical κ x mc ms) (hk : k ≤ mc ∧ n ≤ ms) (h : md_R κ g Y c th μ) {e : Nat} (he : e < gE g) (h1 : sg_crit g e → Rt (some (.int 1)) μ) (h0 : ¬ sg_crit g e → Rt (some (.int 0)) μ) :
    ∀ (d s : Nat), gA g = s + d → (∀ u, u < s → gP g e u < gC g u → sg_in g e (gT g u (gP g e u))) → sp_w κ x (sp_F κ x Rt Xt mc ms) k n 2 [(0, .ref (ya Y 0)), (1, .int (nI e)), (2, .int (nI s))] [] μ := by
  have hE := h.I.e
  have h16 := h.I.a
  obtain ⟨f2, hf2, hv2, -⟩ := h.a2
  obtain ⟨f3, hf3, hv3⟩ := h.a3
  obtain ⟨f8, k8, v8⟩ := h.a8
  intro d
  induction d with
  | zero =>
    intro s e1 ht
    exact bkM_isCritical_2 hh hk ⟨_, h.o, _, rfl, fun _ => h1 (fun t hh => ht t (by omega)), fun c => absurd (nI_le (by omega) (by omega)) c⟩
  | succ d ih =>
    intro s e1 ht
    have hs : s < gA g := by omega
    have hc := h.I.cle hs
    have hp := h.I.ple (x := s) he
    obtain ⟨fr, hfr, hvr⟩ := h.a11 (s := s) (by omega)
    have hcn := h.cn hs
    have ei : 16 * nI e + nI s = nI (16 * e + s) := by
      rw [← nI_add, ← pk_mul]
      rfl
    have ep : f8 (16 * e + s) = nI (gP g e s) := v8 e he s (by omega)
    have nxt : (gP g e s < gC g s → sg_in g e (gT g s (gP g e s))) → ∀ u, u < s + 1 → gP g e u < gC g u → sg_in g e (gT g u (gP g e u)) := fun q u hu => by
      rcases Nat.lt_or_ge u s with q1 | q1
      · exact ht u q1
      · have : u = s := by omega
        rw [this]
        exact q
    refine bkM_isCritical_2 hh hk ⟨_, h.o, _, rfl, fun c => absurd c (nI_ge (by omega) (by omega)), fun _ => ⟨some (ya Y 8), rfl, _, rfl, _, _, k8, _, ei, by omega, some (ya Y 2), rfl, _, rfl, _, _, hf2, s, rfl, by omega, fun c => ?_, fun c => ?_⟩⟩
    · rw [ep, hv2 s hs] at c
      rw [nI_1]
      exact ih (s + 1) (by omega) (nxt (fun q => absurd ((nI_leI (by omega) (by omega)).mp c) (by omega)))
    · rw [ep, hv2 s hs] at c
      have hlt : gP g e s < gC g s := Nat.lt_of_not_le (fun q => c (nI_le q (by omega)))
      refine ⟨some (ya Y 3), rfl, _, rfl, _, _, hf3, s, rfl, by omega, _, hv3 s (by omega), _, rfl, _, _, hfr, _, ep, by omega, ?_⟩
      rw [hvr hs _ hlt, nI_1]
      exact ⟨0, 0, hk, cm_isIn hx h he (h.I.t hs hlt) (fun q => ⟨_, rfl, fun _ => ih (s + 1) (by omega) (nxt (fun _ => q)), fun c => absurd c (by decide)⟩) (fun q => ⟨_, rfl, fun c => absurd rfl c, fun _ => h0 (fun z => q (z s hs hlt))⟩)⟩
theorem cm_isCritical (htr : l.stackTraces = false) (h : md_R κ g Y c th μ) {e : Nat} (he : e < gE g) (h1 : sg_crit g e → Rt (some (.int 1)) μ) (h0 : ¬ sg_crit g e → Rt (some (.int 0)) μ) : sp_m l κ yM_isCritical wM_isCritical 1 22 mc ms [.ref (ya Y 0), .int (nI e)] μ Rt Xt :=
  opM_isCritical htr (fun _ hx hh => bkM_isCritical_0 hh z2 (lm_isCritical hx hh z2 h he h1 h0 (gA g) 0 (by omega) (fun _ q => absurd q (Nat.not_lt_zero _))))
end
