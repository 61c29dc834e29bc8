/-! class and reference side by side; the law's small methods -/
def lw_H (κ : sp_K) (g : sg_G) (X : sc_X) (L : List Nat) (g2 : sg_G) (Y : md_Y) (m : List Nat) (th : Int32) (o : Nat) (μ : sp_M) : Prop :=
  sc_T κ g X L μ ∧ md_T κ g2 Y m th μ ∧ (∃ f, μ o = some (sp_la κ 1 f)) ∧ (∀ q, sc_own g X q → ¬ md_own Y q) ∧ ¬ sc_own g X o ∧ ¬ md_own Y o
def lw_K (κ : sp_K) (g : sg_G) (X : sc_X) (L : List Nat) (g2 : sg_G) (Y : md_Y) (m : List Nat) (th : Int32) (o : Nat) (Rt : Option Value → sp_M → Prop) (r : Int64) : Prop :=
  ∀ μ' f, lw_H κ g X L g2 Y m th o μ' → μ' o = some (sp_la κ 1 f) → f 0 = r → Rt (some (.int 0)) μ'
section
variable {l : Launch} {κ : sp_K} {g g' g2 g2' : sg_G} {X X' : sc_X} {L L' : List Nat} {Y Y' : md_Y} {m m' : List Nat} {th th' : Int32} {o : Nat} {μ μ' : sp_M} {mc ms : Nat} {Rt : Option Value → sp_M → Prop} {Xt : String → sp_M → Prop}
theorem sc_T.iss (h : sc_T κ g X L μ) {q : Nat} (ho : sc_own g X q) : (μ q).isSome = true := by
  rcases ho with rfl | rfl | rfl | rfl | ⟨s, hs, rfl⟩ | ⟨i, hi, rfl | rfl | rfl⟩
  · rw [h.1.o]; rfl
  · obtain ⟨f, hf, -⟩ := h.1.og; rw [hf]; rfl
  · obtain ⟨f, hf, -⟩ := h.1.op; rw [hf]; rfl
  · obtain ⟨f, hf, -⟩ := h.1.ol; rw [hf]; rfl
  · rw [h.1.oa hs]; rfl
  · rw [h.1.os hi]; rfl
  · obtain ⟨f, hf, -⟩ := h.1.oq hi; rw [hf]; rfl
  · obtain ⟨f, hf, -⟩ := h.1.oe hi; rw [hf]; rfl
theorem sc_T.cong (h : sc_T κ g X L μ) (hq : ∀ q, sc_own g X q → μ' q = μ q) : sc_T κ g X L μ' := by
  obtain ⟨⟨hV, h1, h2, h3, h4, h5, h6, h7, h8⟩, hD⟩ := h
  refine ⟨⟨hV, ?_, ?_, ?_, ?_, fun s hs => ?_, fun i hi => ?_, fun i hi => ?_, fun i hi => ?_⟩, hD⟩
  · rw [hq _ (Or.inl rfl)]; exact h1
  · rw [hq _ (Or.inr (Or.inl rfl))]; exact h2
  · rw [hq _ (Or.inr (Or.inr (Or.inl rfl)))]; exact h3
  · rw [hq _ (Or.inr (Or.inr (Or.inr (Or.inl rfl))))]; exact h4
  · rw [hq _ (Or.inr (Or.inr (Or.inr (Or.inr (Or.inl ⟨s, hs, rfl⟩)))))]; exact h5 s hs
  · rw [hq _ (Or.inr (Or.inr (Or.inr (Or.inr (Or.inr ⟨i, hi, Or.inl rfl⟩)))))]; exact h6 i hi
  · rw [hq _ (Or.inr (Or.inr (Or.inr (Or.inr (Or.inr ⟨i, hi, Or.inr (Or.inl rfl)⟩)))))]; exact h7 i hi
  · rw [hq _ (Or.inr (Or.inr (Or.inr (Or.inr (Or.inr ⟨i, hi, Or.inr (Or.inr rfl)⟩)))))]; exact h8 i hi
theorem md_T.cong (h : md_T κ g Y m th μ) (hq : ∀ q, md_own Y q → μ' q = μ q) : md_T κ g Y m th μ' := by
  obtain ⟨h1, h2, h3, h4, f, h5, h6⟩ := h
  exact ⟨h1.cong (fun i hi => hq _ ⟨i, hi, rfl⟩), h2, h3, h4, f, (hq _ ⟨9, by omega, rfl⟩).trans h5, h6⟩
theorem sc_fr.fa (h : sc_fr X μ μ') : sc_fa g X μ g X μ' := ⟨fun z e hz hn => (h z (fun q => hn (Or.inl q)) (fun q => hn (Or.inr (Or.inr (Or.inr (Or.inl q)))))).trans hz, fun z hz => Or.inl hz⟩
theorem sp_keep {q : Nat} (hs : (μ q).isSome = true) (hk : ∀ e, μ q = some e → μ' q = some e) : μ' q = μ q := by
  cases e : μ q with
  | none => rw [e] at hs; cases hs
  | some w => exact hk w e
theorem lw_H.cls (h : lw_H κ g X L g2 Y m th o μ) (hT : sc_T κ g' X' L' μ') (hf : sc_fa g X μ g' X' μ') : lw_H κ g' X' L' g2 Y m th o μ' := by
  obtain ⟨h1, h2, ⟨f, h3⟩, h4, h5, h6⟩ := h
  refine ⟨hT, h2.cong (fun q hq => ?_), ⟨f, hf.1 o _ h3 h5⟩, fun q hq hm => ?_, fun q => ?_, h6⟩
  · exact sp_keep (h2.1.iss hq) (fun e he => hf.1 q e he (fun z => h4 q z hq))
  · rcases hf.2 q hq with z | z
    · exact h4 q z hm
    · have := h2.1.iss hm
      rw [z] at this; cases this
  · rcases hf.2 o q with z | z
    · exact h5 z
    · rw [h3] at z; cases z
theorem lw_H.mod (h : lw_H κ g X L g2 Y m th o μ) (hT : md_T κ g2' Y' m' th' μ') (hf : md_fa Y μ Y' μ') : lw_H κ g X L g2' Y' m' th' o μ' := by
  obtain ⟨h1, h2, ⟨f, h3⟩, h4, h5, h6⟩ := h
  refine ⟨h1.cong (fun q hq => ?_), hT, ⟨f, hf.1 o _ h3 h6⟩, fun q hq hm => ?_, h5, fun q => ?_⟩
  · exact sp_keep (h1.iss hq) (fun e he => hf.1 q e he (h4 q hq))
  · rcases hf.2 q hm with z | z
    · exact h4 q hq z
    · have := h1.iss hq
      rw [z] at this; cases this
  · rcases hf.2 o q with z | z
    · exact h6 z
    · rw [h3] at z; cases z
theorem lw_H.put (h : lw_H κ g X L g2 Y m th o μ) {r : Int64} (k : lw_K κ g X L g2 Y m th o Rt r) : ∃ (N : Nat) (f : Nat → Int64), μ o = some (sp_la κ N f) ∧ ∃ j : Nat, (0 : Int32) = nI j ∧ j < N ∧ ∀ μ' : sp_M, μ' = va_up μ o (some (sp_la κ N (vp_updL f j r))) → Rt (some (.int 0)) μ' := by
  obtain ⟨h1, h2, ⟨f, h3⟩, h4, h5, h6⟩ := h
  refine ⟨1, f, h3, 0, rfl, by omega, fun μ' e => k μ' (vp_updL f 0 r) ⟨h1.cong (fun q hq => ?_), h2.cong (fun q hq => ?_), ⟨vp_updL f 0 r, ?_⟩, h4, h5, h6⟩ (by rw [e, va_up_self]) pk_uLs⟩
  · rw [e]; exact va_up_ne _ _ (fun z => h5 (z ▸ hq))
  · rw [e]; exact va_up_ne _ _ (fun z => h6 (z ▸ hq))
  · rw [e, va_up_self]
/-- the ten -/
theorem cl_events (htr : l.stackTraces = false) (h : lw_H κ g X L g2 Y m th o μ) (hr : 1 ≤ mc ∧ 6 ≤ ms) {v : Int32} (hm : v = -1 → lw_K κ g X L g2 Y m th o Rt (nI (gE g)).toInt64) (hs : ∀ s, s < gA g → v = nI (gM g s) → lw_K κ g X L g2 Y m th o Rt (nI (gC g s)).toInt64) (h0 : ∀ a, a < 256 → v = nI a → (∀ s, s < gA g → gM g s ≠ a) → lw_K κ g X L g2 Y m th o Rt (0 : Int32).toInt64) (hX : v ≠ -1 → (∀ a, a < 256 → v ≠ nI a) → Rt (some (.int 1)) μ) : sp_m l κ yL_events wL_events 7 111 mc ms [.ref (xh X), .int v, .ref o] μ Rt Xt :=
  opL_events htr (fun _ hx hh => bkL_events_0 hh z2 ⟨mc, ms, by omega, _, h.1.1.o, ct_events hx h.1.1 (fun q => ⟨_, rfl, h.put (hm q)⟩) (fun s q1 q2 => ⟨_, rfl, h.put (hs s q1 q2)⟩) (fun a q1 q2 q3 => ⟨_, rfl, h.put (h0 a q1 q2 q3)⟩) (fun q1 q2 => ⟨hr, rfl, fun _ => hX q1 q2⟩)⟩)
theorem cl_place (htr : l.stackTraces = false) (h : lw_H κ g X L g2 Y m th o μ) (hr : 1 ≤ mc ∧ 6 ≤ ms) {v1 v2 : Int32} (hok : ∀ s k, s < gA g → k < gC g s → v1 = nI (gM g s) → v2 = nI k → lw_K κ g X L g2 Y m th o Rt (nI (gT g s k)).toInt64) (hbad : (∀ s k, s < gA g → k < gC g s → v1 = nI (gM g s) → v2 ≠ nI k) → Rt (some (.int 1)) μ) : sp_m l κ yL_place wL_place 8 135 mc ms [.ref (xh X), .int v1, .int v2, .ref o] μ Rt Xt :=
  opL_place htr (fun _ hx hh => bkL_place_0 hh z2 ⟨mc, ms, by omega, _, h.1.1.o, ct_place hx h.1.1 (fun s k q1 q2 q3 q4 => ⟨_, rfl, h.put (hok s k q1 q2 q3 q4)⟩) (fun q => ⟨hr, rfl, fun _ => hbad q⟩)⟩)
theorem cl_id (htr : l.stackTraces = false) (h : lw_H κ g X L g2 Y m th o μ) (hr : 1 ≤ mc ∧ 6 ≤ ms) {v : Int32} (hok : ∀ e, e < gE g → v = nI e → lw_K κ g X L g2 Y m th o Rt ((nI (gM g (gS g e))).toInt64 <<< ((32 : Int32).toInt64 &&& 63) + (nI (gN g e)).toInt64)) (hbad : (∀ e, e < gE g → v ≠ nI e) → Rt (some (.int 1)) μ) : sp_m l κ yL_id wL_id 8 133 mc ms [.ref (xh X), .int v, .ref o] μ Rt Xt := by
  refine opL_id htr (fun x hx hh => bkL_id_0 hh z2 ⟨mc, ms, by omega, _, h.1.1.o, ?_⟩)
  by_cases q : ∃ e, e < gE g ∧ v = nI e
  · obtain ⟨e, he, rfl⟩ := q
    exact ct_id hx h.1.1 he ⟨_, rfl, h.put (hok e he rfl)⟩
  · have q1 : ∀ e, e < gE g → v ≠ nI e := fun e he z => q ⟨e, he, z⟩
    exact ct_id_bad hx h.1.1 q1 hr ⟨rfl, fun _ => hbad q1⟩
theorem cl_parentOf (htr : l.stackTraces = false) (h : lw_H κ g X L g2 Y m th o μ) (hr : 1 ≤ mc ∧ 6 ≤ ms) {v v2 : Int32} (hm : ∀ e, e < gE g → v = nI e → v2 = -1 → lw_K κ g X L g2 Y m th o Rt (nI (gR g e).length).toInt64) (hok : ∀ e j, e < gE g → v = nI e → j < (gR g e).length → v2 = nI j → lw_K κ g X L g2 Y m th o Rt (nI ((gR g e).getD j 0)).toInt64) (hbad : (∀ e, e < gE g → v = nI e → v2 ≠ -1 ∧ ∀ j, j < (gR g e).length → v2 ≠ nI j) → Rt (some (.int 1)) μ) : sp_m l κ yL_parentOf wL_parentOf 8 136 mc ms [.ref (xh X), .int v, .int v2, .ref o] μ Rt Xt := by
  have hE := h.1.1.I.e
  refine opL_parentOf htr (fun x hx hh => bkL_parentOf_0 hh z2 ⟨mc, ms, by omega, _, h.1.1.o, ?_⟩)
  by_cases q : ∃ e, e < gE g ∧ v = nI e
  · obtain ⟨e, he, rfl⟩ := q
    refine ct_parentOf hx h.1.1 he (fun q1 => ⟨_, rfl, h.put (hm e he rfl q1)⟩) (fun j q1 q2 => ⟨_, rfl, h.put (hok e j he rfl q1 q2)⟩) (fun q1 q2 => ⟨hr, rfl, fun _ => hbad (fun e' he' z => ?_)⟩)
    have : e = e' := (nI_eq (by omega) (by omega)).mp z
    subst this
    exact ⟨q1, q2⟩
  · have q1 : ∀ e, e < gE g → v ≠ nI e := fun e he z => q ⟨e, he, z⟩
    exact ct_parentOf_bad hx h.1.1 q1 hr ⟨rfl, fun _ => hbad (fun e he z => absurd z (q1 e he))⟩
theorem cl_related (htr : l.stackTraces = false) (h : lw_H κ g X L g2 Y m th o μ) (hr : 1 ≤ mc ∧ 6 ≤ ms) {v1 v2 : Int32} (hok : ∀ e1 e2, e1 < gE g → e2 < gE g → v1 = nI e1 → v2 = nI e2 → lw_K κ g X L g2 Y m th o Rt (nI (sg_rel g e1 e2)).toInt64) (hbad : ((∀ e, e < gE g → v1 ≠ nI e) ∨ ∀ e, e < gE g → v2 ≠ nI e) → Rt (some (.int 1)) μ) : sp_m l κ yL_related wL_related 9 157 mc ms [.ref (xh X), .int v1, .int v2, .ref o] μ Rt Xt := by
  refine opL_related htr (fun x hx hh => bkL_related_0 hh z2 ⟨mc, ms, by omega, _, h.1.1.o, ?_⟩)
  rcases md_two (g := g) (v1 := v1) (v2 := v2) with ⟨e1, e2, a1, a2, rfl, rfl⟩ | q1
  · exact ct_related hx h.1.1 a1 a2 ⟨_, rfl, h.put (hok e1 e2 a1 a2 rfl rfl)⟩
  · exact ct_related_bad hx h.1.1 q1 hr ⟨rfl, fun _ => hbad q1⟩
theorem cl_apart (htr : l.stackTraces = false) (h : lw_H κ g X L g2 Y m th o μ) (hr : 1 ≤ mc ∧ 6 ≤ ms) {v1 v2 : Int32} (hok : ∀ e1 e2, e1 < gE g → e2 < gE g → v1 = nI e1 → v2 = nI e2 → lw_K κ g X L g2 Y m th o Rt (nI (sg_sum (fun s => gP g e1 s - gP g e2 s) 16)).toInt64) (hbad : ((∀ e, e < gE g → v1 ≠ nI e) ∨ ∀ e, e < gE g → v2 ≠ nI e) → Rt (some (.int 1)) μ) : sp_m l κ yL_apart wL_apart 8 137 mc ms [.ref (xh X), .int v1, .int v2, .ref o] μ Rt Xt := by
  refine opL_apart htr (fun x hx hh => bkL_apart_0 hh z2 ⟨mc, ms, by omega, _, h.1.1.o, ?_⟩)
  rcases md_two (g := g) (v1 := v1) (v2 := v2) with ⟨e1, e2, a1, a2, rfl, rfl⟩ | q1
  · exact ct_apart hx h.1.1 a1 a2 ⟨_, rfl, h.put (hok e1 e2 a1 a2 rfl rfl)⟩
  · exact ct_apart_bad hx h.1.1 q1 hr ⟨rfl, fun _ => hbad q1⟩
theorem cl_latest (htr : l.stackTraces = false) (h : lw_H κ g X L g2 Y m th o μ) (hr : 1 ≤ mc ∧ 6 ≤ ms) {v1 v2 v3 : Int32} (hok : ∀ e1 e2 r, e1 < gE g → e2 < gE g → v1 = nI e1 → v2 = nI e2 → sg_gr (sg_la g e1 e2) (sg_lim v3) r → lw_K κ g X L g2 Y m th o Rt r.toInt64) (hbad : ((∀ e, e < gE g → v1 ≠ nI e) ∨ ∀ e, e < gE g → v2 ≠ nI e) → Rt (some (.int 1)) μ) : sp_m l κ yL_latest wL_latest 8 142 mc ms [.ref (xh X), .int v1, .int v2, .int v3, .ref o] μ Rt Xt := by
  refine opL_latest htr (fun x hx hh => bkL_latest_0 hh z2 ⟨mc, ms, by omega, _, h.1.1.o, ?_⟩)
  rcases md_two (g := g) (v1 := v1) (v2 := v2) with ⟨e1, e2, a1, a2, rfl, rfl⟩ | q1
  · exact ct_latest hx h.1.1 a1 a2 (fun r q => ⟨_, rfl, h.put (hok e1 e2 r a1 a2 rfl rfl q)⟩)
  · exact ct_latest_bad hx h.1.1 q1 hr ⟨rfl, fun _ => hbad q1⟩
theorem cl_head (htr : l.stackTraces = false) (h : lw_H κ g X L g2 Y m th o μ) (hr : 1 ≤ mc ∧ 6 ≤ ms) {v : Int32} (hok : ∀ j, j < (sg_hl g 256).length → v = nI j → lw_K κ g X L g2 Y m th o Rt (nI ((sg_hl g 256).getD j 0)).toInt64) (hbad : (∀ j, j < (sg_hl g 256).length → v ≠ nI j) → Rt (some (.int 1)) μ) : sp_m l κ yL_head wL_head 7 116 mc ms [.ref (xh X), .int v, .ref o] μ Rt Xt :=
  opL_head htr (fun _ hx hh => bkL_head_0 hh z2 ⟨mc, ms, by omega, _, h.1.1.o, ct_head hx h.1.1 (fun j q1 q2 => ⟨_, rfl, h.put (hok j q1 q2)⟩) (fun q => ⟨hr, rfl, fun _ => hbad q⟩)⟩)
theorem cl_parent (htr : l.stackTraces = false) (h : lw_H κ g X L g2 Y m th o μ) (hr : 1 ≤ mc ∧ 6 ≤ ms) {v1 v2 : Int32}
    (hok : ∀ s k, s < gA g → k < gC g s → v1 = nI (gM g s) → v2 = nI k → gT g s k ∉ L → L.length < 16 → lw_K κ g X (sg_ins (gT g s k) L) g2 Y m th o Rt (nI (L.length + 1)).toInt64)
    (hNo : (∀ s k, s < gA g → k < gC g s → v1 = nI (gM g s) → v2 ≠ nI k) → Rt (some (.int 1)) μ)
    (hUO : ∀ s k, s < gA g → k < gC g s → v1 = nI (gM g s) → v2 = nI k → gT g s k ∈ L → Rt (some (.int 2)) μ)
    (hIS : ∀ s k, s < gA g → k < gC g s → v1 = nI (gM g s) → v2 = nI k → gT g s k ∉ L → ¬ L.length < 16 → Rt (some (.int 3)) μ) : sp_m l κ yL_parent wL_parent 8 136 mc ms [.ref (xh X), .int v1, .int v2, .ref o] μ Rt Xt := by
  refine opL_parent htr (fun x hx hh => bkL_parent_0 hh z2 ⟨mc, ms, by omega, _, h.1.1.o, ct_parent hx h.1 (fun s k μ' q1 q2 q3 q4 q5 q6 hT hfr => ⟨_, rfl, (h.cls hT hfr.fa).put (hok s k q1 q2 q3 q4 q5 q6)⟩) (fun E hE => ⟨hr, ?_⟩)⟩)
  rcases hE with ⟨q, rfl⟩ | ⟨s, k, q1, q2, q3, q4, ⟨q5, rfl⟩ | ⟨q5, q6, rfl⟩⟩
  · exact Or.inl ⟨rfl, fun _ => hNo q⟩
  · exact Or.inr (Or.inl ⟨rfl, fun _ => hUO s k q1 q2 q3 q4 q5⟩)
  · exact Or.inr (Or.inr ⟨rfl, fun _ => hIS s k q1 q2 q3 q4 q5 q6⟩)
theorem cl_add (htr : l.stackTraces = false) (h : lw_H κ g X L g2 Y m th o μ) (hr : 4 ≤ mc ∧ 47 ≤ ms) {v1 v2 : Int32}
    (hIA : ((∀ a, a < 256 → v1 ≠ nI a) ∨ (∀ n, 1 ≤ n → n ≤ 2000 → v2 ≠ nI n)) → Rt (some (.int 1)) μ)
    (hUO : ∀ a n μ', a < 256 → v1 = nI a → 1 ≤ n → n ≤ 2000 → v2 = nI n → ad_UO g L a → lw_H κ g X [] g2 Y m th o μ' → Rt (some (.int 2)) μ')
    (hIS : ∀ a n μ', a < 256 → v1 = nI a → 1 ≤ n → n ≤ 2000 → v2 = nI n → ¬ ad_UO g L a → ad_IS g a n → lw_H κ g X [] g2 Y m th o μ' → Rt (some (.int 3)) μ')
    (hok : ∀ a n X', a < 256 → v1 = nI a → 1 ≤ n → n ≤ 2000 → v2 = nI n → ¬ ad_UO g L a → ¬ ad_IS g a n → xh X' = xh X → lw_K κ (sg_ad (sg_nxt g a).1 (sg_nxt g a).2 L (n - 1)) X' [] g2 Y m th o Rt (nI (gE g + n - 1)).toInt64) :
    sp_m l κ yL_add wL_add 10 189 mc ms [.ref (xh X), .int v1, .int v2, .ref o] μ Rt Xt :=
  opL_add htr (fun _ hx hh => bkL_add_0 hh z2 ⟨mc, ms, by omega, _, h.1.1.o, ct_add hx h.1 hr (fun q => Or.inl ⟨rfl, fun _ => hIA q⟩) (fun a n μ' q1 q2 q3 q4 q5 q6 hT hf => Or.inr (Or.inl ⟨rfl, fun _ => hUO a n μ' q1 q2 q3 q4 q5 q6 (h.cls hT hf)⟩)) (fun a n μ' q1 q2 q3 q4 q5 q6 q7 hT hf => Or.inr (Or.inr ⟨rfl, fun _ => hIS a n μ' q1 q2 q3 q4 q5 q6 q7 (h.cls hT hf)⟩)) (fun a n X' μ' q1 q2 q3 q4 q5 q6 q7 hT hf q8 => ⟨_, rfl, (h.cls hT hf).put (hok a n X' q1 q2 q3 q4 q5 q6 q7 q8)⟩)⟩)
end
