/-! the reference's readers behind their faces -/
section
variable {l : Launch} {κ : sp_K} {g : sg_G} {Y : md_Y} {c : Nat} {th : Int32} {μ : sp_M} {mc ms : Nat} {Rt : Option Value → sp_M → Prop} {Xt : String → sp_M → Prop}
theorem sl_app1 {r : List Nat} {p j : Nat} (h : j < r.length) : (r ++ [p]).getD j 0 = r.getD j 0 := by
  simp [List.getD, List.getElem?_append_left h]
theorem sl_app2 {r : List Nat} {p : Nat} : (r ++ [p]).getD r.length 0 = p := by
  simp [List.getD]
theorem si_16 (e x : Nat) : 16 * nI e + nI x = nI (16 * e + x) := by
  rw [← nI_add, ← pk_mul]
  rfl
/-- a row of heads is written -/
theorem md_R.row (h : md_R κ g Y c th μ) {i : Nat} (hi : i = 9 ∨ i = 10) {μ' : sp_M} (hq : ∀ q, q ≠ ya Y i → μ' q = μ q) {f : Nat → Int32} (hf : μ' (ya Y i) = some (sp_ia κ 16 f)) : md_R κ g Y c th μ' := by
  have nn : ∀ j, j < 27 → j ≠ i → μ' (ya Y j) = μ (ya Y j) := fun j hj hji => hq _ (h.ne hj (by omega) hji)
  obtain ⟨hV, ho, h1, h2, h3, h4, h5, h6, h7, h8, h9, h10, h11⟩ := h
  refine ⟨hV, ?_, ?_, ?_, ?_, ?_, ?_, ?_, ?_, ?_, ?_, ?_, fun s hs => ?_⟩
  · rw [nn 0 (by omega) (by omega)]; exact ho
  · rw [nn 1 (by omega) (by omega)]; exact h1
  · rw [nn 2 (by omega) (by omega)]; exact h2
  · rw [nn 3 (by omega) (by omega)]; exact h3
  · rw [nn 4 (by omega) (by omega)]; exact h4
  · rw [nn 5 (by omega) (by omega)]; exact h5
  · rw [nn 6 (by omega) (by omega)]; exact h6
  · rw [nn 7 (by omega) (by omega)]; exact h7
  · rw [nn 8 (by omega) (by omega)]; exact h8
  · rcases hi with rfl | rfl
    · exact ⟨_, hf⟩
    · rw [nn 9 (by omega) (by omega)]; exact h9
  · rcases hi with rfl | rfl
    · rw [nn 10 (by omega) (by omega)]; exact h10
    · exact ⟨_, hf⟩
  · rw [nn (11 + s) (by omega) (by omega)]; exact h11 s hs
theorem lm_headsTo {x : sp_X} {k n : Nat} (hx : x.2.1.stackTraces = false) (hh : cxM_headsTo κ x mc ms) (hk : k ≤ mc ∧ n ≤ ms) (h : md_R κ g Y c th μ) (hC : md_c g) {i : Nat} (hi : i = 9 ∨ i = 10) (hR : ∀ μ' f, (∀ q, q ≠ ya Y i → μ' q = μ q) → μ' (ya Y i) = some (sp_ia κ 16 f) → (∀ j, j < (sg_hl g 256).length → f j = nI ((sg_hl g 256).getD j 0)) → Rt (some (.int (nI (sg_hl g 256).length))) μ') :
    ∀ (d a : Nat) (μt : sp_M) (f : Nat → Int32), 256 = a + d → (∀ q, q ≠ ya Y i → μt q = μ q) → μt (ya Y i) = some (sp_ia κ 16 f) → (∀ j, j < (sg_hl g a).length → f j = nI ((sg_hl g a).getD j 0)) → sp_w κ x (sp_F κ x Rt Xt mc ms) k n 4 [(0, .ref (ya Y 0)), (1, .ref (ya Y i)), (2, .int (nI (sg_hl g a).length)), (3, .int (nI a))] [] μt := by
  have hE := h.I.e
  have h16 := h.I.a
  intro d
  induction d with
  | zero =>
    intro a μt f e hq hf hv
    have : a = 256 := by omega
    subst this
    exact bkM_headsTo_4 hh hk ⟨fun _ => hR μt f hq hf hv, fun c => absurd (by decide) c⟩
  | succ d ih =>
    intro a μt f e hq hf hv
    have ht : md_R κ g Y c th μt := h.row hi hq hf
    obtain ⟨f2, hf2, hv2, -⟩ := ht.a2
    refine bkM_headsTo_4 hh hk ⟨fun c => absurd c (nI_ge (b := 256) (by omega) (by omega)), fun _ => ⟨0, 0, hk, _, ht.o, cm_slotOf hx ht (fun s hs e1 => ⟨_, rfl, fun _ => ⟨_, ht.o, some (ya Y 2), rfl, _, rfl, _, _, hf2, s, rfl, by omega, 0, 0, hk, ?_⟩, fun c => absurd (nI_pos' (by omega)) c⟩) (fun hno => ⟨_, rfl, fun c => absurd c (by decide), fun _ => ?_⟩)⟩⟩
    · have hl1 := h.I.nl hs
      have ea : a = gM g s := (nI_eq (by omega) (by omega)).mp e1
      subst ea
      have hc := h.I.cle hs
      have hc0 := hC s hs
      have e2 : f2 s - 1 = nI (gC g s - 1) := by
        rw [hv2 s hs]
        exact pk_sub (b := 1) hc0
      have hlt := sg_lt_E h.I hs hc0
      refine cm_find hx ht (fun s' k' hs' hk' e3 e4 => ⟨_, rfl, 0, 0, hk, _, ht.o, ?_⟩) (fun hno => absurd e2 (hno s _ hs (by omega) rfl))
      have hl2 := h.I.nl hs'
      have es : s' = s := h.I.nm hs' hs ((nI_eq (by omega) (by omega)).mp e3.symm)
      subst es
      have ek : k' = gC g s' - 1 := (nI_eq (by omega) (by omega)).mp (e4.symm.trans e2)
      subst ek
      have hdd : (∀ u, u < gA g → sg_lt g u ≠ sg_lt g s' → ¬ sg_in g (sg_lt g s') (sg_lt g u)) ↔ sg_hd g s' := ⟨fun q u hu _ => q u hu, fun q u hu => q u hu (hC u hu)⟩
      refine cm_isHead hx ht hC hlt (fun hd => ⟨_, rfl, fun _ => ⟨_, _, hf, _, rfl, sg_hl_lt h.I hs, fun μ4 e4 => ?_⟩, fun c => absurd c (by decide)⟩) (fun hd => ⟨_, rfl, fun c => absurd rfl c, fun _ => ?_⟩)
      · have el := sg_hl_yes h.I hs (hdd.mp hd)
        rw [nI_1, nI_1]
        have elen : (sg_hl g (gM g s')).length + 1 = (sg_hl g (gM g s' + 1)).length := by rw [el, List.length_append]; rfl
        rw [elen]
        subst e4
        refine ih (gM g s' + 1) _ (upd f (sg_hl g (gM g s')).length (nI (sg_lt g s'))) (by omega) (fun q hne => (va_up_ne _ _ hne).trans (hq q hne)) (va_up_self _ _ _) (fun j hj => ?_)
        rw [el]
        rcases Nat.lt_or_ge j (sg_hl g (gM g s')).length with q | q
        · rw [sl_app1 q, pk_un (by omega)]
          exact hv j q
        · have : j = (sg_hl g (gM g s')).length := by omega
          subst this
          rw [sl_app2, pk_us]
      · rw [nI_1]
        have el := sg_hl_no h.I hs (fun q => hd (hdd.mpr q))
        rw [← el]
        exact ih (gM g s' + 1) μt f (by omega) hq hf (by rw [el]; exact hv)
    · rw [nI_1]
      have el := sg_hl_none (g := g) (a := a) (fun s hs q => hno s hs (by rw [q]))
      rw [← el]
      exact ih (a + 1) μt f (by omega) hq hf (by rw [el]; exact hv)
theorem cm_headsTo (htr : l.stackTraces = false) (h : md_R κ g Y c th μ) (hC : md_c g) {i : Nat} (hi : i = 9 ∨ i = 10) (hR : ∀ μ' f, (∀ q, q ≠ ya Y i → μ' q = μ q) → μ' (ya Y i) = some (sp_ia κ 16 f) → (∀ j, j < (sg_hl g 256).length → f j = nI ((sg_hl g 256).getD j 0)) → Rt (some (.int (nI (sg_hl g 256).length))) μ') : sp_m l κ yM_headsTo wM_headsTo 2 45 mc ms [.ref (ya Y 0), .ref (ya Y i)] μ Rt Xt := by
  have hf : ∃ f, μ (ya Y i) = some (sp_ia κ 16 f) := by
    rcases hi with rfl | rfl
    · exact h.a9
    · exact h.a10
  obtain ⟨f, hf⟩ := hf
  exact opM_headsTo htr (fun _ hx hh => bkM_headsTo_0 hh z2 (lm_headsTo hx hh z2 h hC hi hR 256 0 μ f (by omega) (fun _ _ => rfl) hf (fun j q => absurd q (Nat.not_lt_zero _))))
theorem cm_events0 (htr : l.stackTraces = false) (h : md_R κ g Y c th μ) {v : Int32} (hm : v = -1 → Rt (some (.int (nI (gE g)))) μ) (hs : ∀ s, s < gA g → v = nI (gM g s) → Rt (some (.int (nI (gC g s)))) μ) (h0 : ∀ a, a < 256 → v = nI a → (∀ s, s < gA g → gM g s ≠ a) → Rt (some (.int 0)) μ) (hX : v ≠ -1 → (∀ a, a < 256 → v ≠ nI a) → (1 ≤ mc ∧ 6 ≤ ms) ∧ Xt xIA μ) : sp_m l κ yM_events0 wM_events0 6 90 mc ms [.ref (ya Y 0), .int v] μ Rt Xt := by
  have h16 := h.I.a
  obtain ⟨f2, hf2, hv2, -⟩ := h.a2
  refine opM_events0 htr (fun x hx hh => bkM_events0_0 hh z2 ⟨fun c => ?_, fun c => ⟨fun c2 => ⟨0, 0, z2, _, h.o, ?_⟩, fun c2 => ?_⟩⟩)
  · obtain ⟨r1, r2⟩ := hX (fun q => by rw [q] at c; exact absurd c (by decide)) (fun a ha q => by
      rw [q] at c
      exact nI_pos (n := a) (by omega) (Int32.lt_trans c (by decide)))
    exact ⟨by omega, r2⟩
  · by_cases hv0 : v < 0
    · have hv1 : v = -1 := by
        refine Int32.toInt_inj.mp ?_
        have q1 := Int32.lt_iff_toInt_lt.mp hv0
        have q2 : ¬ v.toInt < (-1 : Int32).toInt := fun z => c (Int32.lt_iff_toInt_lt.mpr z)
        have q3 : (0 : Int32).toInt = 0 := rfl
        have q4 : (-1 : Int32).toInt = -1 := by decide
        omega
      exact cm_slotOf hx h (fun s hs' e => ⟨_, rfl, fun c => absurd hv0 (Int32.not_lt.mpr c), fun _ => ⟨_, h.o, _, rfl, hm hv1⟩⟩) (fun hno => ⟨_, rfl, fun c => absurd hv0 (Int32.not_lt.mpr c), fun _ => ⟨_, h.o, _, rfl, hm hv1⟩⟩)
    · obtain ⟨a, ha31, rfl⟩ := nI_of hv0
      have ha : a ≤ 255 := (nI_leI (b := 255) ha31 (by omega)).mp c2
      refine cm_slotOf hx h (fun s hs' e => ⟨_, rfl, fun _ => ⟨fun _ => ⟨_, h.o, some (ya Y 2), rfl, _, rfl, _, _, hf2, s, rfl, by omega, ?_⟩, fun c => absurd (nI_pos' (by omega)) c⟩, fun c => absurd (nI_pos' (by omega)) c⟩) (fun hno => ⟨_, rfl, fun _ => ⟨fun c => absurd c (by decide), fun _ => h0 a (by omega) rfl (fun s hs' q => hno s hs' (by rw [q]))⟩, fun c => absurd (nI_pos' (by omega)) c⟩)
      rw [hv2 s hs']
      exact hs s hs' e
  · obtain ⟨r1, r2⟩ := hX (fun q => by rw [q] at c2; exact c2 (by decide)) (fun a ha q => by
      rw [q] at c2
      exact c2 (nI_le (b := 255) (by omega) (by omega)))
    exact ⟨by omega, r2⟩
theorem cm_place0 (htr : l.stackTraces = false) (h : md_R κ g Y c th μ) {v1 v2 : Int32} (hok : ∀ s k, s < gA g → k < gC g s → v1 = nI (gM g s) → v2 = nI k → Rt (some (.int (nI (gT g s k)))) μ) (hbad : (∀ s k, s < gA g → k < gC g s → v1 = nI (gM g s) → v2 ≠ nI k) → (1 ≤ mc ∧ 6 ≤ ms) ∧ Xt xNo μ) : sp_m l κ yM_place0 wM_place0 7 110 mc ms [.ref (ya Y 0), .int v1, .int v2] μ Rt Xt := by
  have hE := h.I.e
  refine opM_place0 htr (fun x hx hh => bkM_place0_0 hh z2 ⟨0, 0, z2, _, h.o, cm_find hx h (fun s k hs hk e1 e2 => ⟨_, rfl, fun c => absurd c (nI_pos (by have := h.I.t hs hk; omega)), fun _ => ⟨0, 0, z2, cm_there1 hx ⟨rfl, hok s k hs hk e1 e2⟩⟩⟩) (fun hno => ⟨_, rfl, fun _ => ?_, fun c => absurd (by decide) c⟩)⟩)
  obtain ⟨r1, r2⟩ := hbad hno
  exact ⟨1, 6, by omega, cm_there0 hx ⟨Nat.le_refl _, Nat.le_refl _⟩ r2⟩
theorem cm_id0 (htr : l.stackTraces = false) (h : md_R κ g Y c th μ) {e : Nat} (he : e < gE g) (hR : Rt (some (.long (4294967296 * (nI (gM g (gS g e))).toInt64 + (nI (gN g e)).toInt64))) μ) : sp_m l κ yM_id0 wM_id0 7 110 mc ms [.ref (ya Y 0), .int (nI e)] μ Rt Xt := by
  have hE := h.I.e
  have h16 := h.I.a
  have hs := h.I.s he
  obtain ⟨f1, k1, v1⟩ := h.a1
  obtain ⟨f4, k4, v4⟩ := h.a4
  obtain ⟨f5, k5, v5⟩ := h.a5
  refine opM_id0 htr (fun x hx hh => bkM_id0_0 hh z2 ⟨0, 0, z2, _, h.o, cm_isPlaceY hx h he ⟨_, rfl, 0, 0, z2, cm_there1 hx ⟨rfl, _, h.o, some (ya Y 1), rfl, some (ya Y 4), rfl, _, rfl, _, _, k4, e, rfl, by omega, _, rfl, _, _, k1, _, v4 e he, by omega, some (ya Y 5), rfl, _, rfl, _, _, k5, e, rfl, by omega, ?_⟩⟩⟩)
  rw [v1 _ hs, v5 e he]
  exact hR
theorem cm_id0_bad (htr : l.stackTraces = false) (h : md_R κ g Y c th μ) {v : Int32} (hv : ∀ e, e < gE g → v ≠ nI e) (hr : 1 ≤ mc ∧ 6 ≤ ms) (hX : Xt xNo μ) : sp_m l κ yM_id0 wM_id0 7 110 mc ms [.ref (ya Y 0), .int v] μ Rt Xt :=
  opM_id0 htr (fun _ hx hh => bkM_id0_0 hh z2 ⟨0, 0, z2, _, h.o, cm_isPlaceN hx h hv ⟨_, rfl, 1, 6, by omega, cm_there0 hx ⟨Nat.le_refl _, Nat.le_refl _⟩ hX⟩⟩)
theorem cm_parentOf0 (htr : l.stackTraces = false) (h : md_R κ g Y c th μ) {e : Nat} {v2 : Int32} (he : e < gE g) (hm : v2 = -1 → Rt (some (.int (nI (gR g e).length))) μ) (hok : ∀ j, j < (gR g e).length → v2 = nI j → Rt (some (.int (nI ((gR g e).getD j 0)))) μ) (hbad : v2 ≠ -1 → (∀ j, j < (gR g e).length → v2 ≠ nI j) → (1 ≤ mc ∧ 6 ≤ ms) ∧ Xt xNo μ) : sp_m l κ yM_parentOf0 wM_parentOf0 7 110 mc ms [.ref (ya Y 0), .int (nI e), .int v2] μ Rt Xt := by
  have hE := h.I.e
  have hr := h.r16 he
  obtain ⟨f6, k6, v6⟩ := h.a6
  obtain ⟨f7, k7, v7⟩ := h.a7
  refine opM_parentOf0 htr (fun x hx hh => bkM_parentOf0_0 hh z2 ⟨0, 0, z2, _, h.o, cm_isPlaceY hx h he ⟨_, rfl, 0, 0, z2, cm_there1 hx ⟨rfl, fun c => ?_, fun c => ⟨_, h.o, some (ya Y 6), rfl, _, rfl, _, _, k6, e, rfl, by omega, fun c2 => ?_, fun c2 => ?_⟩⟩⟩⟩)
  · obtain ⟨r1, r2⟩ := hbad (fun q => by rw [q] at c; exact absurd c (by decide)) (fun j hj q => by
      rw [q] at c
      exact nI_pos (n := j) (by omega) (Int32.lt_trans c (by decide)))
    exact bkM_parentOf0_27 hh z2 (bkM_parentOf0_28 hh z2 ⟨1, 6, by omega, cm_there0 hx ⟨Nat.le_refl _, Nat.le_refl _⟩ r2⟩)
  · rw [v6 e he] at c2
    obtain ⟨r1, r2⟩ := hbad (fun q => by
        rw [q] at c2
        exact absurd (Int32.le_trans (nI_pos' (n := (gR g e).length) (by omega)) c2) (by decide)) (fun j hj q => by
      rw [q] at c2
      exact nI_ge hj (by omega) c2)
    exact bkM_parentOf0_27 hh z2 (bkM_parentOf0_28 hh z2 ⟨1, 6, by omega, cm_there0 hx ⟨Nat.le_refl _, Nat.le_refl _⟩ r2⟩)
  · rw [v6 e he] at c2
    refine bkM_parentOf0_28 hh z2 ⟨0, 0, z2, cm_there1 hx ⟨rfl, fun c3 => ?_, fun c3 => ⟨_, h.o, some (ya Y 6), rfl, _, rfl, _, _, k6, e, rfl, by omega, ?_⟩⟩⟩
    · obtain ⟨j, hj31, rfl⟩ := nI_of (x := v2) (Int32.not_lt.mpr c3)
      have hj : j < (gR g e).length := Nat.lt_of_not_le (fun q => c2 (nI_le q hj31))
      refine ⟨_, h.o, some (ya Y 7), rfl, _, rfl, _, _, k7, _, si_16 e j, by omega, ?_⟩
      rw [v7 e he j hj]
      exact hok j hj rfl
    · rw [v6 e he]
      refine hm (Int32.toInt_inj.mp ?_)
      have q1 : ¬ (0 : Int32).toInt ≤ v2.toInt := fun z => c3 (Int32.le_iff_toInt_le.mpr z)
      have q2 : ¬ v2.toInt < (-1 : Int32).toInt := fun z => c (Int32.lt_iff_toInt_lt.mpr z)
      have q3 : (0 : Int32).toInt = 0 := rfl
      have q4 : (-1 : Int32).toInt = -1 := by decide
      omega
theorem cm_parentOf0_bad (htr : l.stackTraces = false) (h : md_R κ g Y c th μ) {v v2 : Int32} (hv : ∀ e, e < gE g → v ≠ nI e) (hr : 1 ≤ mc ∧ 6 ≤ ms) (hX : Xt xNo μ) : sp_m l κ yM_parentOf0 wM_parentOf0 7 110 mc ms [.ref (ya Y 0), .int v, .int v2] μ Rt Xt :=
  opM_parentOf0 htr (fun _ hx hh => bkM_parentOf0_0 hh z2 ⟨0, 0, z2, _, h.o, cm_isPlaceN hx h hv ⟨_, rfl, 1, 6, by omega, cm_there0 hx ⟨Nat.le_refl _, Nat.le_refl _⟩ hX⟩⟩)
theorem cm_related0 (htr : l.stackTraces = false) (h : md_R κ g Y c th μ) {e1 e2 : Nat} (he1 : e1 < gE g) (he2 : e2 < gE g) (hR : Rt (some (.int (nI (sg_rel g e1 e2)))) μ) : sp_m l κ yM_related0 wM_related0 7 110 mc ms [.ref (ya Y 0), .int (nI e1), .int (nI e2)] μ Rt Xt := by
  have hE := h.I.e
  refine opM_related0 htr (fun x hx hh => bkM_related0_0 hh z2 ⟨0, 0, z2, _, h.o, cm_isPlaceY hx h he1 ⟨_, rfl, fun c => absurd c (by decide), fun _ => ⟨0, 0, z2, _, h.o, cm_isPlaceY hx h he2 ⟨_, rfl, fun c => absurd c (by decide), fun _ => bkM_related0_21 hh z2 ⟨0, 0, z2, cm_there1 hx ⟨rfl, fun c => ⟨0, 0, z2, _, h.o, ?_⟩, fun c => ?_⟩⟩⟩⟩⟩⟩)
  · have hne : e1 ≠ e2 := fun q => c (by rw [q])
    unfold sg_rel at hR
    rw [if_neg hne] at hR
    refine cm_isIn hx h he1 he2 (fun q => ⟨_, rfl, fun c => absurd c (by decide), fun _ => ?_⟩) (fun q => ⟨_, rfl, fun _ => ⟨0, 0, z2, _, h.o, cm_isIn hx h he2 he1 (fun q2 => ⟨_, rfl, fun c => absurd c (by decide), fun _ => ?_⟩) (fun q2 => ⟨_, rfl, fun _ => ?_, fun c => absurd rfl c⟩)⟩, fun c => absurd rfl c⟩)
    · rw [if_pos (show gN g e1 < gP g e2 (gS g e1) from q)] at hR
      exact hR
    · rw [if_neg (show ¬ gN g e1 < gP g e2 (gS g e1) from q), if_pos (show gN g e2 < gP g e1 (gS g e2) from q2)] at hR
      exact hR
    · rw [if_neg (show ¬ gN g e1 < gP g e2 (gS g e1) from q), if_neg (show ¬ gN g e2 < gP g e1 (gS g e2) from q2)] at hR
      exact hR
  · have heq : e1 = e2 := (nI_eq (by omega) (by omega)).mp c
    unfold sg_rel at hR
    rw [if_pos heq] at hR
    exact hR
theorem cm_related0_bad (htr : l.stackTraces = false) (h : md_R κ g Y c th μ) {v1 v2 : Int32} (hv : (∀ e, e < gE g → v1 ≠ nI e) ∨ ∀ e, e < gE g → v2 ≠ nI e) (hr : 1 ≤ mc ∧ 6 ≤ ms) (hX : Xt xNo μ) : sp_m l κ yM_related0 wM_related0 7 110 mc ms [.ref (ya Y 0), .int v1, .int v2] μ Rt Xt := by
  refine opM_related0 htr (fun x hx hh => bkM_related0_0 hh z2 ⟨0, 0, z2, _, h.o, ?_⟩)
  have out : sp_w κ x (sp_F κ x Rt Xt mc ms) 0 0 20 [(0, .ref (ya Y 0)), (1, .int v1), (2, .int v2)] [] μ := bkM_related0_20 hh z2 (bkM_related0_21 hh z2 ⟨1, 6, by omega, cm_there0 hx ⟨Nat.le_refl _, Nat.le_refl _⟩ hX⟩)
  exact cm_isPlace hx h (fun e he q => ⟨_, rfl, fun c => absurd c (by decide), fun _ => ⟨0, 0, z2, _, h.o, cm_isPlaceN hx h (hv.resolve_left (fun z => z e he q)) ⟨_, rfl, fun _ => out, fun c => absurd rfl c⟩⟩⟩) (fun _ => ⟨_, rfl, fun _ => out, fun c => absurd rfl c⟩)
/-- apart -/
def sg_ab (g : sg_G) (p o e : Nat) : Bool := decide (gP g o (gS g e) ≤ gN g e) && decide (gN g e < gP g p (gS g e))
theorem sg_ab_t {g : sg_G} {p o e : Nat} : sg_ab g p o e = true ↔ sg_in g e p ∧ ¬ sg_in g e o := by
  unfold sg_ab sg_in
  rw [Bool.and_eq_true, decide_eq_true_eq, decide_eq_true_eq]
  omega
theorem lm_apart {x : sp_X} {k n : Nat} (hx : x.2.1.stackTraces = false) (hh : cxM_apart0 κ x mc ms) (hk : k ≤ mc ∧ n ≤ ms) (h : md_R κ g Y c th μ) {p o : Nat} (hp : p < gE g) (ho : o < gE g) (hR : Rt (some (.int (nI (sg_ct (sg_ab g p o) (p + 1))))) μ) :
    ∀ (d e : Nat), p + 1 = e + d → sp_w κ x (sp_F κ x Rt Xt mc ms) k n 29 [(0, .ref (ya Y 0)), (1, .int (nI p)), (2, .int (nI o)), (3, .int (nI (sg_ct (sg_ab g p o) e))), (4, .int (nI e))] [] μ := by
  have hE := h.I.e
  intro d
  induction d with
  | zero =>
    intro e hd
    have : e = p + 1 := by omega
    subst this
    exact bkM_apart0_29 hh hk ⟨fun _ => hR, fun c => absurd (nI_lt (by omega) (by omega)) c⟩
  | succ d ih =>
    intro e hd
    have he : e < gE g := by omega
    have no : ¬ (sg_in g e p ∧ ¬ sg_in g e o) → sg_ct (sg_ab g p o) (e + 1) = sg_ct (sg_ab g p o) e := fun q => by
      show sg_ct (sg_ab g p o) e + _ = _
      rw [if_neg (fun z => q (sg_ab_t.mp z))]
      rfl
    have yes : (sg_in g e p ∧ ¬ sg_in g e o) → sg_ct (sg_ab g p o) (e + 1) = sg_ct (sg_ab g p o) e + 1 := fun q => by
      show sg_ct (sg_ab g p o) e + _ = _
      rw [if_pos (sg_ab_t.mpr q)]
    have nx := ih (e + 1) (by omega)
    refine bkM_apart0_29 hh hk ⟨fun c => absurd c (nI_nlt (by omega) (by omega)), fun _ => ⟨0, 0, hk, _, h.o, cm_isIn hx h he hp (fun q => ⟨_, rfl, fun c => absurd c (by decide), fun _ => ⟨0, 0, hk, _, h.o, cm_isIn hx h he ho (fun q2 => ⟨_, rfl, fun _ => ?_, fun c => absurd c (by decide)⟩) (fun q2 => ⟨_, rfl, fun c => absurd rfl c, fun _ => ?_⟩)⟩⟩) (fun q => ⟨_, rfl, fun _ => ?_, fun c => absurd rfl c⟩)⟩⟩
    · rw [no (fun z => z.2 q2)] at nx
      rw [nI_1]
      exact nx
    · rw [yes ⟨q, q2⟩] at nx
      rw [nI_1, nI_1]
      exact nx
    · rw [no (fun z => q z.1)] at nx
      rw [nI_1]
      exact nx
theorem cm_apart0 (htr : l.stackTraces = false) (h : md_R κ g Y c th μ) {e1 e2 : Nat} (he1 : e1 < gE g) (he2 : e2 < gE g) (hR : Rt (some (.int (nI (sg_sum (fun s => gP g e1 s - gP g e2 s) 16)))) μ) : sp_m l κ yM_apart0 wM_apart0 7 110 mc ms [.ref (ya Y 0), .int (nI e1), .int (nI e2)] μ Rt Xt := by
  have hE := h.I.e
  rw [← sg_apart h.I (gP g e2) he1] at hR
  exact opM_apart0 htr (fun x hx hh => bkM_apart0_0 hh z2 ⟨0, 0, z2, _, h.o, cm_isPlaceY hx h he1 ⟨_, rfl, fun c => absurd c (by decide), fun _ => ⟨0, 0, z2, _, h.o, cm_isPlaceY hx h he2 ⟨_, rfl, fun c => absurd c (by decide), fun _ => ⟨0, 0, z2, cm_there1 hx ⟨rfl, lm_apart hx hh z2 h he1 he2 hR (e1 + 1) 0 (by omega)⟩⟩⟩⟩⟩⟩)
theorem cm_apart0_bad (htr : l.stackTraces = false) (h : md_R κ g Y c th μ) {v1 v2 : Int32} (hv : (∀ e, e < gE g → v1 ≠ nI e) ∨ ∀ e, e < gE g → v2 ≠ nI e) (hr : 1 ≤ mc ∧ 6 ≤ ms) (hX : Xt xNo μ) : sp_m l κ yM_apart0 wM_apart0 7 110 mc ms [.ref (ya Y 0), .int v1, .int v2] μ Rt Xt :=
  opM_apart0 htr (fun x hx hh => bkM_apart0_0 hh z2 ⟨0, 0, z2, _, h.o, cm_isPlace hx h (fun e he q => ⟨_, rfl, fun c => absurd c (by decide), fun _ => ⟨0, 0, z2, _, h.o, cm_isPlaceN hx h (hv.resolve_left (fun z => z e he q)) ⟨_, rfl, fun _ => ⟨1, 6, by omega, cm_there0 hx ⟨Nat.le_refl _, Nat.le_refl _⟩ hX⟩, fun c => absurd rfl c⟩⟩⟩) (fun _ => ⟨_, rfl, fun _ => ⟨1, 6, by omega, cm_there0 hx ⟨Nat.le_refl _, Nat.le_refl _⟩ hX⟩, fun c => absurd rfl c⟩)⟩)
/-- latest -/
theorem sn_m1 (b : Nat) : nI b + (-1) = nI b - 1 := by
  rw [Int32.sub_eq_add_neg]
theorem lm_latest {x : sp_X} {k n : Nat} {v3 : Int32} {lim : Nat} (hx : x.2.1.stackTraces = false) (hh : cxM_latest0 κ x mc ms) (hk : k ≤ mc ∧ n ≤ ms) (h : md_R κ g Y c th μ) {p o : Nat} (hp : p < gE g) (ho : o < gE g) (hR : ∀ r, sg_gr (sg_la g p o) lim r → Rt (some (.int r)) μ) :
    ∀ (b : Nat), b ≤ gE g → b ≤ lim → (∀ f, b ≤ f → f < lim → ¬ sg_la g p o f) → sp_w κ x (sp_F κ x Rt Xt mc ms) k n 42 [(0, .ref (ya Y 0)), (1, .int (nI p)), (2, .int (nI o)), (3, .int v3), (4, .int (nI b - 1))] [] μ := by
  have hE := h.I.e
  intro b
  induction b with
  | zero =>
    intro _ _ hf
    exact bkM_latest0_42 hh hk ⟨fun _ => hR _ (Or.inr ⟨rfl, fun f hf2 => hf f (Nat.zero_le _) hf2⟩), fun c => absurd (by decide) c⟩
  | succ b ih =>
    intro hb hl hf
    rw [nI_pred]
    have nx : ¬ sg_la g p o b → sp_w κ x (sp_F κ x Rt Xt mc ms) k n 42 [(0, .ref (ya Y 0)), (1, .int (nI p)), (2, .int (nI o)), (3, .int v3), (4, .int (nI b - 1))] [] μ := fun q => ih (by omega) (by omega) (fun f h1 h2 => by
      rcases Nat.lt_or_ge b f with q1 | q1
      · exact hf f (by omega) h2
      · have : f = b := by omega
        rw [this]; exact q)
    refine bkM_latest0_42 hh hk ⟨fun c => absurd c (nI_pos (by omega)), fun _ => ⟨0, 0, hk, _, h.o, cm_isIn hx h (by omega) hp (fun q => ⟨_, rfl, fun c => absurd c (by decide), fun _ => ⟨0, 0, hk, _, h.o, cm_isIn hx h (by omega) ho (fun q2 => ⟨_, rfl, fun _ => ?_, fun c => absurd c (by decide)⟩) (fun q2 => ⟨_, rfl, fun c => absurd rfl c, fun _ => ?_⟩)⟩⟩) (fun q => ⟨_, rfl, fun _ => ?_, fun c => absurd rfl c⟩)⟩⟩
    · rw [sn_m1]
      exact nx (fun z => z.2.2 q2)
    · exact hR _ (Or.inl ⟨b, by omega, ⟨by omega, q, q2⟩, rfl, fun f h1 h2 => hf f (by omega) h2⟩)
    · rw [sn_m1]
      exact nx (fun z => q z.2.1)
theorem sg_lim_le {v : Int32} {p : Nat} (hp : p < 2 ^ 31) (h : v ≤ nI p) : sg_lim v ≤ p := by
  by_cases hv : v < 0
  · unfold sg_lim
    have h1 := Int32.lt_iff_toInt_lt.mp hv
    have h2 : (0 : Int32).toInt = 0 := rfl
    show v.toInt.toNat ≤ p
    omega
  · obtain ⟨j, hj, rfl⟩ := nI_of hv
    unfold sg_lim
    rw [nI_clamp hj]
    exact (nI_leI hj hp).mp h
theorem sg_lim_gt {v : Int32} {p : Nat} (hp : p < 2 ^ 31) (h : ¬ v ≤ nI p) : p < sg_lim v := by
  have h0 : ¬ v < 0 := fun q => h (Int32.le_of_lt (Int32.lt_of_lt_of_le q (nI_pos' hp)))
  obtain ⟨j, hj, rfl⟩ := nI_of h0
  unfold sg_lim
  rw [nI_clamp hj]
  exact Nat.lt_of_not_le (fun q => h (nI_le q hp))
theorem cm_latest0 (htr : l.stackTraces = false) (h : md_R κ g Y c th μ) {e1 e2 : Nat} {v : Int32} (he1 : e1 < gE g) (he2 : e2 < gE g) (hR : ∀ r, sg_gr (sg_la g e1 e2) (sg_lim v) r → Rt (some (.int r)) μ) : sp_m l κ yM_latest0 wM_latest0 7 110 mc ms [.ref (ya Y 0), .int (nI e1), .int (nI e2), .int v] μ Rt Xt := by
  have hE := h.I.e
  refine opM_latest0 htr (fun x hx hh => bkM_latest0_0 hh z2 ⟨0, 0, z2, _, h.o, cm_isPlaceY hx h he1 ⟨_, rfl, fun c => absurd c (by decide), fun _ => ⟨0, 0, z2, _, h.o, cm_isPlaceY hx h he2 ⟨_, rfl, fun c => absurd c (by decide), fun _ => bkM_latest0_21 hh z2 ⟨0, 0, z2, cm_there1 hx ⟨rfl, fun c => ?_, fun c => ?_⟩⟩⟩⟩⟩⟩)
  · have := sg_lim_le (p := e1) (by omega) c
    rw [sg_lim_hb]
    exact lm_latest hx hh z2 h he1 he2 hR (sg_lim v) (by omega) (Nat.le_refl _) (fun f h1 h2 => by omega)
  · have := sg_lim_gt (p := e1) (by omega) c
    have key := lm_latest (Xt := Xt) (v3 := v) hx hh z2 h he1 he2 hR (e1 + 1) (by omega) (by omega) (fun f h1 h2 hla => by
      have := sg_le h.I hla.1 he1 hla.2.1
      omega)
    rw [nI_pred] at key
    exact key
theorem cm_latest0_bad (htr : l.stackTraces = false) (h : md_R κ g Y c th μ) {v1 v2 v3 : Int32} (hv : (∀ e, e < gE g → v1 ≠ nI e) ∨ ∀ e, e < gE g → v2 ≠ nI e) (hr : 1 ≤ mc ∧ 6 ≤ ms) (hX : Xt xNo μ) : sp_m l κ yM_latest0 wM_latest0 7 110 mc ms [.ref (ya Y 0), .int v1, .int v2, .int v3] μ Rt Xt := by
  refine opM_latest0 htr (fun x hx hh => bkM_latest0_0 hh z2 ⟨0, 0, z2, _, h.o, ?_⟩)
  have out : sp_w κ x (sp_F κ x Rt Xt mc ms) 0 0 20 [(0, .ref (ya Y 0)), (1, .int v1), (2, .int v2), (3, .int v3)] [] μ := bkM_latest0_20 hh z2 (bkM_latest0_21 hh z2 ⟨1, 6, by omega, cm_there0 hx ⟨Nat.le_refl _, Nat.le_refl _⟩ hX⟩)
  exact cm_isPlace hx h (fun e he q => ⟨_, rfl, fun c => absurd c (by decide), fun _ => ⟨0, 0, z2, _, h.o, cm_isPlaceN hx h (hv.resolve_left (fun z => z e he q)) ⟨_, rfl, fun _ => out, fun c => absurd rfl c⟩⟩⟩) (fun _ => ⟨_, rfl, fun _ => out, fun c => absurd rfl c⟩)
/-- critical, base -/
theorem lm_critical {x : sp_X} {k n : Nat} (hx : x.2.1.stackTraces = false) (hh : cxM_critical0 κ x mc ms) (hk : k ≤ mc ∧ n ≤ ms) (h : md_R κ g Y c th μ) (hR : Rt (some (.int (nI (sg_ct (sg_cb g) (gE g))))) μ) :
    ∀ (d e : Nat), gE g = e + d → sp_w κ x (sp_F κ x Rt Xt mc ms) k n 4 [(0, .ref (ya Y 0)), (1, .int (nI (sg_ct (sg_cb g) e))), (2, .int (nI e))] [] μ := by
  have hE := h.I.e
  intro d
  induction d with
  | zero =>
    intro e hd
    have : e = gE g := by omega
    subst this
    exact bkM_critical0_4 hh hk ⟨_, h.o, _, rfl, fun _ => hR, fun c => absurd (Int32.le_refl _) c⟩
  | succ d ih =>
    intro e hd
    have nx := ih (e + 1) (by omega)
    refine bkM_critical0_4 hh hk ⟨_, h.o, _, rfl, fun c => absurd c (nI_ge (by omega) (by omega)), fun _ => ⟨0, 0, hk, cm_isCritical hx h (by omega) (fun q => ⟨_, rfl, fun c => absurd c (by decide), fun _ => ?_⟩) (fun q => ⟨_, rfl, fun _ => ?_, fun c => absurd rfl c⟩)⟩⟩
    · have e1 : sg_ct (sg_cb g) (e + 1) = sg_ct (sg_cb g) e + 1 := by
        show sg_ct (sg_cb g) e + _ = _
        rw [if_pos (sg_cb_iff.mpr q)]
      rw [e1] at nx
      rw [nI_1, nI_1]
      exact nx
    · have e1 : sg_ct (sg_cb g) (e + 1) = sg_ct (sg_cb g) e := by
        show sg_ct (sg_cb g) e + _ = _
        rw [if_neg (fun z => q (sg_cb_iff.mp z))]
        rfl
      rw [e1] at nx
      rw [nI_1]
      exact nx
theorem cm_critical0 (htr : l.stackTraces = false) (h : md_R κ g Y c th μ) (hR : Rt (some (.int (nI (sg_ct (sg_cb g) (gE g))))) μ) : sp_m l κ yM_critical0 wM_critical0 2 45 mc ms [.ref (ya Y 0)] μ Rt Xt :=
  opM_critical0 htr (fun _ hx hh => bkM_critical0_0 hh z2 (lm_critical hx hh z2 h hR (gE g) 0 (by omega)))
theorem lm_base {x : sp_X} {k n : Nat} {v1 : Int32} {lim : Nat} (hx : x.2.1.stackTraces = false) (hh : cxM_base0 κ x mc ms) (hk : k ≤ mc ∧ n ≤ ms) (h : md_R κ g Y c th μ) (hR : ∀ r, sg_gr (fun e => e < gE g ∧ sg_crit g e) lim r → Rt (some (.int r)) μ) :
    ∀ (b : Nat), b ≤ gE g → b ≤ lim → (∀ f, b ≤ f → f < lim → ¬ (f < gE g ∧ sg_crit g f)) → sp_w κ x (sp_F κ x Rt Xt mc ms) k n 25 [(0, .ref (ya Y 0)), (1, .int v1), (2, .int (nI b - 1))] [] μ := by
  have hE := h.I.e
  intro b
  induction b with
  | zero =>
    intro _ _ hf
    exact bkM_base0_25 hh hk ⟨fun _ => hR _ (Or.inr ⟨rfl, fun f hf2 => hf f (Nat.zero_le _) hf2⟩), fun c => absurd (by decide) c⟩
  | succ b ih =>
    intro hb hl hf
    rw [nI_pred]
    refine bkM_base0_25 hh hk ⟨fun c => absurd c (nI_pos (by omega)), fun _ => ⟨0, 0, hk, _, h.o, cm_isCritical hx h (by omega) (fun q => ⟨_, rfl, fun c => absurd c (by decide), fun _ => ?_⟩) (fun q => ⟨_, rfl, fun _ => ?_, fun c => absurd rfl c⟩)⟩⟩
    · exact hR _ (Or.inl ⟨b, by omega, ⟨by omega, q⟩, rfl, fun f h1 h2 => hf f (by omega) h2⟩)
    · rw [sn_m1]
      refine ih (by omega) (by omega) (fun f h1 h2 => ?_)
      rcases Nat.lt_or_ge b f with q1 | q1
      · exact hf f (by omega) h2
      · have : f = b := by omega
        rw [this]; exact fun z => q z.2
theorem cm_base0 (htr : l.stackTraces = false) (h : md_R κ g Y c th μ) {v : Int32} (hR : ∀ r, sg_gr (fun e => e < gE g ∧ sg_crit g e) (sg_lim v) r → Rt (some (.int r)) μ) : sp_m l κ yM_base0 wM_base0 2 45 mc ms [.ref (ya Y 0), .int v] μ Rt Xt := by
  have hE := h.I.e
  refine opM_base0 htr (fun x hx hh => bkM_base0_0 hh z2 ⟨_, h.o, _, rfl, fun c => ?_, fun c => ?_⟩)
  · have hv0 : ¬ v < 0 := fun q => absurd (Int32.lt_of_le_of_lt (Int32.le_trans (nI_pos' (n := gE g) (by omega)) c) q) (Int32.lt_irrefl)
    obtain ⟨j, hj, rfl⟩ := nI_of hv0
    have hle : gE g ≤ j := (nI_leI (by omega) hj).mp c
    have hl : sg_lim (nI j) = j := nI_clamp hj
    exact lm_base hx hh z2 h hR (gE g) (Nat.le_refl _) (by omega) (fun f h1 h2 q => by omega)
  · have hlt : sg_lim v ≤ gE g := sg_lim_le (by omega) (Int32.le_of_lt (Int32.not_le.mp c))
    rw [sg_lim_hb]
    exact lm_base hx hh z2 h hR (sg_lim v) hlt (Nat.le_refl _) (fun f h1 h2 => by omega)
end
