/-! add, in the reference: the contract -/
/-- the rooms that an add that is taken wants -/
def ad_sl (g : sg_G) (a : Nat) : Nat := (sg_nxt g a).2
section
variable {l : Launch} {κ : sp_K} {g : sg_G} {Y : md_Y} {m : List Nat} {c : Nat} {th : Int32} {μ μ' : sp_M} {mc ms : Nat} {Rt : Option Value → sp_M → Prop} {Xt : String → sp_M → Prop} {s : Nat}
theorem sl_ne (hnd : m.Nodup) {i j : Nat} (hi : i < m.length) (hj : j < m.length) (hij : i ≠ j) : m.getD i 0 ≠ m.getD j 0 := by
  have e1 : m.getD i 0 = m[i] := by simp [List.getD, hi]
  have e2 : m.getD j 0 = m[j] := by simp [List.getD, hj]
  rw [e1, e2]
  intro q
  rcases Nat.lt_or_gt_of_ne hij with z | z
  · exact List.pairwise_iff_getElem.mp hnd i j hi hj z q
  · exact List.pairwise_iff_getElem.mp hnd j i hj hi z q.symm
theorem sl_ix {e : Nat} (h : e ∈ m) : ∃ i, i < m.length ∧ m.getD i 0 = e := by
  obtain ⟨i, hi, q⟩ := List.getElem_of_mem h
  exact ⟨i, hi, by simp [List.getD, hi, q]⟩
theorem lm_addP {x : sp_X} {v1 v2 v4 : Int32} {fl : Nat → Int32} {i : Nat} (hx : x.2.1.stackTraces = false) (hh : cxM_add0 κ x mc ms) (hr : 1 ≤ mc ∧ 6 ≤ ms) (h : md_R κ g Y 0 th μ) (hml : m.length ≤ 16) (hmE : ∀ e ∈ m, e < gE g) (hfl : μ (ya Y 9) = some (sp_ia κ 16 fl)) (hvl : ∀ i, i < m.length → fl i = nI (m.getD i 0)) (hi : i < m.length)
    (hn : (∀ j, j < m.length → i ≠ j → ¬ sg_in g (m.getD i 0) (m.getD j 0)) → sp_w κ x (sp_F κ x Rt Xt mc ms) 0 0 51 [(0, .ref (ya Y 0)), (1, .int v1), (2, .int v2), (3, .int (nI m.length)), (4, .int v4), (5, .int (nI i + 1))] [] μ) (hUO : (∃ j, j < m.length ∧ i ≠ j ∧ sg_in g (m.getD i 0) (m.getD j 0)) → Xt xUO μ) :
    ∀ (d j : Nat), m.length = j + d → (∀ j', j' < j → i ≠ j' → ¬ sg_in g (m.getD i 0) (m.getD j' 0)) → sp_w κ x (sp_F κ x Rt Xt mc ms) 0 0 60 [(0, .ref (ya Y 0)), (1, .int v1), (2, .int v2), (3, .int (nI m.length)), (4, .int v4), (5, .int (nI i)), (6, .int (nI j))] [] μ := by
  intro d
  induction d with
  | zero =>
    intro j hd hj
    have ej : j = m.length := by omega
    subst ej
    exact bkM_add0_60 hh z2 ⟨fun _ => hn hj, fun cc => absurd (Int32.le_refl _) cc⟩
  | succ d ih =>
    intro j hd hj
    have nx : (i ≠ j → ¬ sg_in g (m.getD i 0) (m.getD j 0)) → sp_w κ x (sp_F κ x Rt Xt mc ms) 0 0 60 [(0, .ref (ya Y 0)), (1, .int v1), (2, .int v2), (3, .int (nI m.length)), (4, .int v4), (5, .int (nI i)), (6, .int (nI j + 1))] [] μ := fun q => by
      rw [nI_1]
      refine ih (j + 1) (by omega) (fun j' hj' => ?_)
      by_cases q1 : j' = j
      · rw [q1]; exact q
      · exact hj j' (by omega)
    refine bkM_add0_60 hh z2 ⟨fun cc => absurd cc (nI_ge (by omega) (by omega)), fun _ => ⟨fun cc => nx (fun q => absurd ((nI_eq (by omega) (by omega)).mp cc) q), fun cc => ⟨_, h.o, some (ya Y 9), rfl, _, rfl, _, _, hfl, i, rfl, by omega, j, rfl, by omega, 0, 0, z2, ?_⟩⟩⟩
    have hij : i ≠ j := fun q => cc (by rw [q])
    rw [hvl i hi, hvl j (by omega)]
    exact cm_isIn hx h (hmE _ (sg_getD_mem hi)) (hmE _ (sg_getD_mem (by omega))) (fun q => ⟨_, rfl, fun cc => absurd cc (by decide), fun _ => ⟨by omega, hUO ⟨j, by omega, hij, q⟩⟩⟩) (fun q => ⟨_, rfl, fun _ => nx (fun _ => q), fun cc => absurd rfl cc⟩)
theorem lm_addO {x : sp_X} {v1 v2 v4 : Int32} {fl : Nat → Int32} (hx : x.2.1.stackTraces = false) (hh : cxM_add0 κ x mc ms) (hr : 1 ≤ mc ∧ 6 ≤ ms) (h : md_R κ g Y 0 th μ) (hml : m.length ≤ 16) (hmE : ∀ e ∈ m, e < gE g) (hnd : m.Nodup) (hfl : μ (ya Y 9) = some (sp_ia κ 16 fl)) (hvl : ∀ i, i < m.length → fl i = nI (m.getD i 0))
    (hn : (¬ ∃ e1 e2, e1 ∈ m ∧ e2 ∈ m ∧ e1 ≠ e2 ∧ sg_in g e1 e2) → ∀ v5 : Int32, (0 ≤ v4 → v5 = 0) → (¬ 0 ≤ v4 → v5 = 1) → sp_w κ x (sp_F κ x Rt Xt mc ms) 0 0 129 [(0, .ref (ya Y 0)), (1, .int v1), (2, .int v2), (3, .int (nI m.length)), (4, .int v4), (5, .int v5), (6, .int 0)] [] μ) (hUO : (∃ e1 e2, e1 ∈ m ∧ e2 ∈ m ∧ e1 ≠ e2 ∧ sg_in g e1 e2) → Xt xUO μ) :
    ∀ (d i : Nat), m.length = i + d → (∀ i', i' < i → ∀ j, j < m.length → i' ≠ j → ¬ sg_in g (m.getD i' 0) (m.getD j 0)) → sp_w κ x (sp_F κ x Rt Xt mc ms) 0 0 51 [(0, .ref (ya Y 0)), (1, .int v1), (2, .int v2), (3, .int (nI m.length)), (4, .int v4), (5, .int (nI i))] [] μ := by
  intro d
  induction d with
  | zero =>
    intro i hd hi
    have ei : i = m.length := by omega
    subst ei
    have hno : ¬ ∃ e1 e2, e1 ∈ m ∧ e2 ∈ m ∧ e1 ≠ e2 ∧ sg_in g e1 e2 := by
      rintro ⟨e1, e2, h1, h2, h3, h4⟩
      obtain ⟨i1, a1, rfl⟩ := sl_ix h1
      obtain ⟨i2, a2, rfl⟩ := sl_ix h2
      exact hi i1 a1 i2 a2 (fun q => h3 (by rw [q])) h4
    exact bkM_add0_51 hh z2 ⟨fun _ => ⟨fun cc => hn hno 0 (fun _ => rfl) (fun z => absurd cc z), fun cc => hn hno 1 (fun z => absurd z cc) (fun _ => rfl)⟩, fun cc => absurd (Int32.le_refl _) cc⟩
  | succ d ih =>
    intro i hd hi
    refine bkM_add0_51 hh z2 ⟨fun cc => absurd cc (nI_ge (by omega) (by omega)), fun _ => ?_⟩
    refine lm_addP hx hh hr h hml hmE hfl hvl (by omega) (fun q => ?_) (fun q => ?_) m.length 0 (by omega) (fun j' q => absurd q (Nat.not_lt_zero _))
    · rw [nI_1]
      refine ih (i + 1) (by omega) (fun i' hi' => ?_)
      by_cases q1 : i' = i
      · rw [q1]; exact q
      · exact hi i' (by omega)
    · obtain ⟨j, q1, q2, q3⟩ := q
      exact hUO ⟨_, _, sg_getD_mem (by omega), sg_getD_mem q1, sl_ne hnd (by omega) q1 q2, q3⟩
/-- is one of the parents the agent's newest -/
theorem lm_addG {x : sp_X} {v1 v2 : Int32} {fl : Nat → Int32} (hh : cxM_add0 κ x mc ms) (h : md_R κ g Y 0 th μ) (hs : s < gA g) (hml : m.length ≤ 16) (hmE : ∀ e ∈ m, e < gE g) (hfl : μ (ya Y 9) = some (sp_ia κ 16 fl)) (hvl : ∀ i, i < m.length → fl i = nI (m.getD i 0))
    (hR : ∀ v5 v6 : Int32, (v5 = 1 ∧ ∃ p ∈ m, gP g p s = gC g s) ∨ (v5 = 0 ∧ ∀ p ∈ m, gP g p s ≠ gC g s) → sp_w κ x (sp_F κ x Rt Xt mc ms) 0 0 184 [(0, .ref (ya Y 0)), (1, .int v1), (2, .int v2), (3, .int (nI m.length)), (4, .int (nI s)), (5, .int v5), (6, .int v6)] [] μ) :
    ∀ (d i : Nat) (v5 : Int32), m.length = i + d → (v5 = 1 ∧ ∃ p ∈ m, gP g p s = gC g s) ∨ (v5 = 0 ∧ ∀ i', i' < i → gP g (m.getD i' 0) s ≠ gC g s) → sp_w κ x (sp_F κ x Rt Xt mc ms) 0 0 129 [(0, .ref (ya Y 0)), (1, .int v1), (2, .int v2), (3, .int (nI m.length)), (4, .int (nI s)), (5, .int v5), (6, .int (nI i))] [] μ := by
  have h16 := h.I.a
  have hE := h.I.e
  have hc := h.I.cle hs
  obtain ⟨f2, k2, w2, -⟩ := h.a2
  obtain ⟨f8, k8, w8⟩ := h.a8
  intro d
  induction d with
  | zero =>
    intro i v5 hd hv
    have ei : i = m.length := by omega
    subst ei
    refine bkM_add0_129 hh z2 ⟨fun _ => hR v5 _ (hv.elim Or.inl (fun q => Or.inr ⟨q.1, fun p hp => ?_⟩)), fun cc => absurd (Int32.le_refl _) cc⟩
    obtain ⟨j, hj, rfl⟩ := sl_ix hp
    exact q.2 j hj
  | succ d ih =>
    intro i v5 hd hv
    have hin := sg_getD_mem (l := m) (j := i) (by omega)
    have hpE := hmE _ hin
    have hp := h.I.ple (x := s) hpE
    have ei : 16 * fl i + nI s = nI (16 * m.getD i 0 + s) := by
      rw [hvl i (by omega)]
      exact si_16 _ _
    refine bkM_add0_129 hh z2 ⟨fun cc => absurd cc (nI_ge (by omega) (by omega)), fun _ => ⟨fun cc => absurd cc (nI_pos (by omega)), fun _ => ⟨_, h.o, some (ya Y 8), rfl, some (ya Y 9), rfl, _, rfl, _, _, hfl, i, rfl, by omega, _, rfl, _, _, k8, _, ei, by omega, some (ya Y 2), rfl, _, rfl, _, _, k2, s, rfl, by omega, ?_⟩⟩⟩
    rw [w8 _ hpE s (by omega), w2 s hs, nI_1]
    refine ⟨fun cc => ?_, fun cc => ?_⟩
    · have hne : gP g (m.getD i 0) s ≠ gC g s := fun q => cc (by rw [q])
      have e0 : v5 ||| 0 = v5 := by
        rcases hv with ⟨rfl, -⟩ | ⟨rfl, -⟩ <;> decide
      rw [e0]
      refine ih (i + 1) v5 (by omega) (hv.elim Or.inl (fun q => Or.inr ⟨q.1, fun i' hi' => ?_⟩))
      by_cases q1 : i' = i
      · rw [q1]; exact hne
      · exact q.2 i' (by omega)
    · have he : gP g (m.getD i 0) s = gC g s := (nI_eq (by omega) (by omega)).mp cc
      have e1 : v5 ||| 1 = 1 := by
        rcases hv with ⟨rfl, -⟩ | ⟨rfl, -⟩ <;> decide
      rw [e1]
      exact ih (i + 1) 1 (by omega) (Or.inl ⟨rfl, _, hin, he⟩)
theorem md_gd (h : sg_I g) (hC : md_c g) (hs : s < gA g) (hmE : ∀ e ∈ m, e < gE g) : (∃ p ∈ m, gP g p s = gC g s) ↔ ¬ sg_mx g s m < gC g s := by
  have hc := hC s hs
  constructor
  · rintro ⟨p, hp, e⟩
    have := sg_mx_ge (g := g) (x := s) hp
    omega
  · intro q
    obtain ⟨p, hp, e⟩ := sg_mx_at (g := g) (x := s) (l := m) (by omega)
    have := h.pc (hmE p hp) hs
    exact ⟨p, hp, by omega⟩
theorem ad_UO_sort {a : Nat} : ad_UO g (sg_sort [] m) a ↔ ad_UO g m a := by
  have hsm : ∀ e, e ∈ sg_sort [] m ↔ e ∈ m := fun e => ⟨fun q => (sg_sort_mem.mp q).elim (fun z => by simp at z) id, fun q => sg_sort_mem.mpr (Or.inr q)⟩
  unfold ad_UO
  simp only [hsm]
  constructor
  · rintro (q | ⟨s, h1, h2, h3⟩)
    · exact Or.inl q
    · rw [sg_mx_mem hsm] at h3; exact Or.inr ⟨s, h1, h2, h3⟩
  · rintro (q | ⟨s, h1, h2, h3⟩)
    · exact Or.inl q
    · rw [← sg_mx_mem hsm] at h3; exact Or.inr ⟨s, h1, h2, h3⟩
theorem cm_add0 (htr : l.stackTraces = false) (h : md_T κ g Y m th μ) {v1 v2 : Int32} (hr : 1 ≤ mc ∧ 6 ≤ ms)
    (hr2 : ∀ a n, a < 256 → v1 = nI a → 1 ≤ n → n ≤ 2000 → v2 = nI n → ¬ ad_UO g m a → ¬ ad_IS g a n → n ≤ mc ∧ 2 * (md_nk (yn Y (sg_nxt g a).2) (gC (sg_nxt g a).1 (sg_nxt g a).2) n - yn Y (sg_nxt g a).2) ≤ ms)
    (hIA : ((∀ a, a < 256 → v1 ≠ nI a) ∨ (∀ n, 1 ≤ n → n ≤ 2000 → v2 ≠ nI n)) → Xt xIA μ)
    (hUO : ∀ a n μ', a < 256 → v1 = nI a → 1 ≤ n → n ≤ 2000 → v2 = nI n → ad_UO g m a → md_T κ g Y [] th μ' → md_fa Y μ Y μ' → Xt xUO μ')
    (hIS : ∀ a n μ', a < 256 → v1 = nI a → 1 ≤ n → n ≤ 2000 → v2 = nI n → ¬ ad_UO g m a → ad_IS g a n → md_T κ g Y [] th μ' → md_fa Y μ Y μ' → Xt xIS μ')
    (hok : ∀ a n Y' μ', a < 256 → v1 = nI a → 1 ≤ n → n ≤ 2000 → v2 = nI n → ¬ ad_UO g m a → ¬ ad_IS g a n → md_T κ (sg_ad (sg_nxt g a).1 (sg_nxt g a).2 (sg_sort [] m) (n - 1)) Y' [] th μ' → md_fa Y μ Y' μ' → ya Y' 0 = ya Y 0 → yn Y' = va_up (yn Y) (sg_nxt g a).2 (md_nk (yn Y (sg_nxt g a).2) (gC (sg_nxt g a).1 (sg_nxt g a).2) n) → Rt (some (.int (nI (gE g + n - 1)))) μ') :
    sp_m l κ yM_add0 wM_add0 6 90 mc ms [.ref (ya Y 0), .int v1, .int v2] μ Rt Xt := by
  have hE := h.1.I.e
  have h16 := h.1.I.a
  have hI := h.1.I
  have hlen := h.1.l16
  obtain ⟨hC, hmE, hnd, fl, hfl, hvl⟩ := h.2
  refine opM_add0 htr (fun x hx hh => bkM_add0_0 hh z2 ⟨fun cc => ⟨by omega, hIA (Or.inl (fun a ha q => ?_))⟩, fun cc => ⟨fun c2 => ⟨by omega, hIA (Or.inl (fun a ha q => ?_))⟩, fun c2 => ⟨fun c3 => ⟨by omega, hIA (Or.inr (fun n n1 n2 q => ?_))⟩, fun c3 => ⟨fun c4 => ?_, fun c4 => ⟨by omega, hIA (Or.inr (fun n n1 n2 q => ?_))⟩⟩⟩⟩⟩)
  · rw [q] at cc; exact nI_pos (by omega) cc
  · rw [q] at c2; exact nI_nlt (a := 255) (b := a) (by omega) (by omega) c2
  · rw [q] at c3; exact nI_nlt (b := 1) n1 (by omega) c3
  · obtain ⟨a, ha31, rfl⟩ := nI_of cc
    have ha : a < 256 := by
      rcases Nat.lt_or_ge a 256 with q | q
      · exact q
      · exact absurd (nI_lt (a := 255) (by omega) ha31) c2
    obtain ⟨n, hn31, rfl⟩ := nI_of (x := v2) (fun q => c3 (Int32.lt_trans q (by decide)))
    have n1 : 1 ≤ n := by
      rcases Nat.lt_or_ge n 1 with q | q
      · exact absurd (nI_lt (b := 1) q (by omega)) c3
      · exact q
    have n2 : n ≤ 2000 := (nI_leI (b := 2000) hn31 (by omega)).mp c4
    -- the state behind `listed = 0`
    have st : ∀ μ2, μ2 = va_up μ (ya Y 0) (some (md_obj g Y 0 th)) → md_T κ g Y [] th μ2 ∧ md_fa Y μ Y μ2 ∧ μ2 (ya Y 9) = some (sp_ia κ 16 fl) := by
      intro μ2 e2
      have hR2 : md_R κ g Y 0 th μ2 := h.1.setc (by omega) e2
      have h9 : μ2 (ya Y 9) = some (sp_ia κ 16 fl) := by
        rw [e2]
        exact (va_up_ne _ _ (h.1.ne (i := 9) (j := 0) (by omega) (by omega) (by omega))).trans hfl
      exact ⟨⟨hR2, hC, fun e he => by simp at he, List.nodup_nil, fl, h9, fun j hj => by simp at hj⟩, md_fa.rfl.s0 e2, h9⟩
    have uo : ∀ μ2, md_T κ g Y [] th μ2 → md_fa Y μ Y μ2 → ad_UO g m a → Xt xUO μ2 := fun μ2 q1 q2 q3 => hUO a n μ2 ha rfl n1 n2 rfl q3 q1 q2
    have is : ∀ μ2, md_T κ g Y [] th μ2 → md_fa Y μ Y μ2 → ¬ ad_UO g m a → ad_IS g a n → Xt xIS μ2 := fun μ2 q1 q2 q3 q4 => hIS a n μ2 ha rfl n1 n2 rfl q3 q4 q1 q2
    refine ⟨_, h.1.o, _, rfl, 0, 0, z2, cm_slotOf hx h.1 (fun s hs e => ⟨_, rfl, _, h.1.o, (by decide : 11 < 14), fun μ2 e2 => ?_⟩) (fun hno => ⟨_, rfl, _, h.1.o, (by decide : 11 < 14), fun μ2 e2 => ?_⟩)⟩
    · -- a known agent
      obtain ⟨hT2, hf2, h9⟩ := st μ2 e2
      have hl1 := hI.nl hs
      have ea : gM g s = a := (nI_eq (by omega) (by omega)).mp e.symm
      have enx := sg_nxt_old hI hs ea
      refine lm_addO hx hh hr hT2.1 hlen hmE hnd h9 hvl (fun hnp v5 hv5 _ => ?_) (fun q => uo μ2 hT2 hf2 (Or.inl q)) m.length 0 (by omega) (fun i' q => absurd q (Nat.not_lt_zero _))
      rw [hv5 (nI_pos' (by omega))]
      refine lm_addG hh hT2.1 hs hlen hmE h9 hvl (fun v5 v6 hv => bkM_add0_184 hh z2 ⟨fun cc => ⟨_, hT2.1.o, _, rfl, ?_⟩, fun cc => ?_⟩) m.length 0 0 (by omega) (Or.inr ⟨rfl, fun i' q => absurd q (Nat.not_lt_zero _)⟩)
      · have hgd : ∃ p ∈ m, gP g p s = gC g s := by
          rcases hv with ⟨-, q⟩ | ⟨q, -⟩
          · exact q
          · exact absurd q cc
        have hnu : ¬ ad_UO g m a := by
          rintro (q | ⟨t, ht, hta, q⟩)
          · exact hnp q
          · have : t = s := hI.nm ht hs (hta.trans ea.symm)
            subst this
            exact (md_gd hI hC ht hmE).mp hgd q
        rw [nI_add]
        refine ⟨fun c5 => ⟨by omega, is μ2 hT2 hf2 hnu (Or.inl ((nI_ltI (a := 8192) (by omega) (by omega)).mp c5))⟩, fun c5 => ⟨fun _ => bkM_add0_231 hh z2 ⟨fun _ => ?_, fun c6 => absurd (nI_pos' (by omega)) c6⟩, fun c6 => absurd (nI_pos' (by omega)) c6⟩⟩
        have hn8 : ¬ 8192 < gE g + n := fun q => c5 (nI_lt (a := 8192) q (by omega))
        have hni : ¬ ad_IS g a n := by
          rintro (q | ⟨q, -⟩)
          · exact hn8 q
          · exact q s hs ea
        have rr := hr2 a n ha rfl n1 n2 rfl hnu hni
        rw [enx] at rr
        have rr : n ≤ mc ∧ 2 * (md_nk (yn Y s) (gC g s) n - yn Y s) ≤ ms := rr
        refine lm_addL (k0 := 0) (n0 := 0) hx hh ⟨by omega, by omega⟩ hs (by omega) hlen hmE hnd (fun _ => hgd) h9 hvl (fun Y' μ' q1 q2 q3 q4 => ?_) n 0 _ _ Y μ2 (by omega) rfl (by show 0 = 0 + 2 * (yn Y s - yn Y s); omega) hT2.1 ?_ (fun _ _ => rfl) md_fa.rfl rfl
        · have eE : nI (gE g + n) - 1 = nI (gE g + n - 1) := pk_sub (b := 1) (by omega)
          rw [eE]
          have q1' : md_R κ (sg_ad g s (sg_sort [] m) (n - 1)) Y' 0 th μ' := by
            have : md_G g s (sg_sort [] m) n = sg_ad g s (sg_sort [] m) (n - 1) := if_neg (by omega)
            rw [← this]; exact q1
          refine hok a n Y' μ' ha rfl n1 n2 rfl hnu hni ?_ (hf2.trans q4 hf2.2) (q3 0 (by omega)) (by rw [enx]; exact q2)
          rw [enx]
          obtain ⟨f9, k9⟩ := q1'.a9
          refine ⟨q1', fun t ht => ?_, fun e he => by simp at he, List.nodup_nil, f9, k9, fun j hj => by simp at hj⟩
          rw [sg_ad_C]
          split
          · omega
          · exact hC t (by rw [sg_ad_A] at ht; exact ht)
        · funext t
          show yn Y t = va_up (yn Y) s (yn Y s) t
          by_cases q : t = s
          · rw [q, va_up_self]
          · rw [va_up_ne _ _ q]
      · refine ⟨by omega, uo μ2 hT2 hf2 (Or.inr ⟨s, hs, ea, ?_⟩)⟩
        rcases hv with ⟨q, -⟩ | ⟨-, q⟩
        · rw [q] at cc; exact absurd cc (by decide)
        · have hnn : ¬ ∃ p ∈ m, gP g p s = gC g s := fun ⟨p, hp, z⟩ => q p hp z
          exact Classical.byContradiction (fun z => hnn ((md_gd hI hC hs hmE).mpr z))
    · -- a new agent
      obtain ⟨hT2, hf2, h9⟩ := st μ2 e2
      have hno' : ∀ s, s < gA g → gM g s ≠ a := fun s hs q => hno s hs (by rw [q])
      have enx := sg_nxt_new (g := g) hno'
      refine lm_addO hx hh hr hT2.1 hlen hmE hnd h9 hvl (fun hnp v5 _ hv5 => ?_) (fun q => uo μ2 hT2 hf2 (Or.inl q)) m.length 0 (by omega) (fun i' q => absurd q (Nat.not_lt_zero _))
      rw [hv5 (by decide)]
      have hnu : ¬ ad_UO g m a := by
        rintro (q | ⟨t, ht, hta, q⟩)
        · exact hnp q
        · exact hno' t ht hta
      have go : sp_w κ x (sp_F κ x Rt Xt mc ms) 0 0 184 [(0, .ref (ya Y 0)), (1, .int (nI a)), (2, .int (nI n)), (3, .int (nI m.length)), (4, .int (-1)), (5, .int 1), (6, .int 0)] [] μ2 := by
        refine bkM_add0_184 hh z2 ⟨fun _ => ⟨_, hT2.1.o, _, rfl, ?_⟩, fun cc => absurd cc (by decide)⟩
        rw [nI_add]
        refine ⟨fun c5 => ⟨by omega, is μ2 hT2 hf2 hnu (Or.inl ((nI_ltI (a := 8192) (by omega) (by omega)).mp c5))⟩, fun c5 => ⟨fun c6 => absurd c6 (by decide), fun _ => ⟨_, rfl, fun c6 => bkM_add0_231 hh z2 ⟨fun c7 => absurd c7 (by decide), fun _ => ?_⟩, fun c6 => ⟨by omega, is μ2 hT2 hf2 hnu (Or.inr ⟨hno', ?_⟩)⟩⟩⟩⟩
        · have hn8 : ¬ 8192 < gE g + n := fun q => c5 (nI_lt (a := 8192) q (by omega))
          have hA : gA g < 16 := by
            rcases Nat.lt_or_ge (gA g) 16 with q | q
            · exact q
            · exact absurd (by rw [show gA g = 16 by omega]; rfl) c6
          have hni : ¬ ad_IS g a n := by
            rintro (q | ⟨-, q⟩)
            · exact hn8 q
            · omega
          have rr := hr2 a n ha rfl n1 n2 rfl hnu hni
          rw [enx] at rr
          have rr : n ≤ mc ∧ 2 * (md_nk (yn Y (gA g)) (gC (sg_reg g a) (gA g)) n - yn Y (gA g)) ≤ ms := rr
          obtain ⟨f1, k1, w1⟩ := hT2.1.a1
          refine ⟨_, hT2.1.o, _, rfl, some (ya Y 1), rfl, _, rfl, _, _, k1, gA g, rfl, hA, fun μ3 e3 => ?_⟩
          have a3 : ∀ i, i < 27 → i ≠ 1 → μ3 (ya Y i) = μ2 (ya Y i) := fun i hi hne => by rw [e3]; exact va_up_ne _ _ (h.1.ne hi (by omega) hne)
          refine ⟨_, (a3 0 (by omega) (by omega)).trans hT2.1.o, _, rfl, (by decide : 2 < 14), fun μ4 e4 => ?_⟩
          rw [nI_1] at e4
          have a4 : ∀ i, i < 27 → i ≠ 0 → μ4 (ya Y i) = μ3 (ya Y i) := fun i hi hne => by rw [e4]; exact va_up_ne _ _ (h.1.ne hi (by omega) hne)
          have hG : md_R κ (sg_reg g a) Y 0 th μ4 := md_reg hT2.1 hA ha hno' k1 (by rw [a4 1 (by omega) (by omega), e3, va_up_self]) (by rw [e4, va_up_self]; rfl) (fun i hi n0 n1 => (a4 i hi n0).trans (a3 i hi n1))
          have f4 : md_fa Y μ Y μ4 := by
            refine md_fa.s0 (μ3 := μ3) ?_ e4
            rw [e3]
            exact hf2.up (by omega)
          have e0 : gC (sg_reg g a) (gA g) = 0 := va_up_self _ _ _
          have h94 : μ4 (ya Y 9) = some (sp_ia κ 16 fl) := by rw [a4 9 (by omega) (by omega), a3 9 (by omega) (by omega)]; exact h9
          refine lm_addL (g := sg_reg g a) (s := gA g) (k0 := 0) (n0 := 0) hx hh ⟨by omega, by omega⟩ (Nat.lt_succ_self _) (by show gE g + n ≤ 8192; omega) hlen hmE hnd (fun z => by rw [e0] at z; omega) h94 hvl (fun Y' μ' q1 q2 q3 q4 => ?_) n 0 _ _ Y μ4 (by omega) rfl (by show 0 = 0 + 2 * (yn Y (gA g) - yn Y (gA g)); omega) hG ?_ (fun _ _ => rfl) md_fa.rfl rfl
          · have eE : nI (gE g + n) - 1 = nI (gE g + n - 1) := pk_sub (b := 1) (by omega)
            have eE2 : gE (sg_reg g a) = gE g := rfl
            rw [eE2, eE]
            have q1' : md_R κ (sg_ad (sg_reg g a) (gA g) (sg_sort [] m) (n - 1)) Y' 0 th μ' := by
              have : md_G (sg_reg g a) (gA g) (sg_sort [] m) n = sg_ad (sg_reg g a) (gA g) (sg_sort [] m) (n - 1) := if_neg (by omega)
              rw [← this]; exact q1
            refine hok a n Y' μ' ha rfl n1 n2 rfl hnu hni ?_ (f4.trans q4 f4.2) (q3 0 (by omega)) (by rw [enx]; exact q2)
            rw [enx]
            obtain ⟨f9, k9⟩ := q1'.a9
            refine ⟨q1', fun t ht => ?_, fun e he => by simp at he, List.nodup_nil, f9, k9, fun j hj => by simp at hj⟩
            show 0 < gC (sg_ad (sg_reg g a) (gA g) (sg_sort [] m) (n - 1)) t
            rw [sg_ad_C]
            split
            · omega
            · rename_i q
              show 0 < va_up (gC g) (gA g) 0 t
              rw [va_up_ne _ _ q]
              refine hC t ?_
              have ht' : t < gA g + 1 := by
                have q0 : gA (sg_ad (sg_reg g a) (gA g) (sg_sort [] m) (n - 1)) = gA g + 1 := sg_ad_A _
                have q2 : t < gA (sg_ad (sg_reg g a) (gA g) (sg_sort [] m) (n - 1)) := ht
                omega
              omega
          · funext t
            show yn Y t = va_up (yn Y) (gA g) (yn Y (gA g)) t
            by_cases q : t = gA g
            · rw [q, va_up_self]
            · rw [va_up_ne _ _ q]
        · have := (nI_eq (a := gA g) (b := 16) (by omega) (by omega)).mp c6
          omega
      refine bkM_add0_129 hh z2 ⟨fun _ => go, fun _ => ⟨fun _ => go, fun c7 => absurd (by decide) c7⟩⟩
  · rw [q] at c4; exact c4 (nI_le (b := 2000) n2 (by omega))
theorem fm_add (htr : l.stackTraces = false) (h : md_T κ g Y m th μ) {v1 v2 : Int32} (hr : 1 ≤ mc ∧ 6 ≤ ms)
    (hr2 : ∀ a n, a < 256 → v1 = nI a → 1 ≤ n → n ≤ 2000 → v2 = nI n → ¬ ad_UO g m a → ¬ ad_IS g a n → n ≤ mc ∧ 2 * (md_nk (yn Y (sg_nxt g a).2) (gC (sg_nxt g a).1 (sg_nxt g a).2) n - yn Y (sg_nxt g a).2) ≤ ms)
    (hIA : ((∀ a, a < 256 → v1 ≠ nI a) ∨ (∀ n, 1 ≤ n → n ≤ 2000 → v2 ≠ nI n)) → md_K κ g Y m μ Rt 1 (.int 0))
    (hUO : ∀ a n, a < 256 → v1 = nI a → 1 ≤ n → n ≤ 2000 → v2 = nI n → ad_UO g m a → md_K κ g Y [] μ Rt 2 (.int 0))
    (hIS : ∀ a n, a < 256 → v1 = nI a → 1 ≤ n → n ≤ 2000 → v2 = nI n → ¬ ad_UO g m a → ad_IS g a n → md_K κ g Y [] μ Rt 3 (.int 0))
    (hok : ∀ a n Y' μ', a < 256 → v1 = nI a → 1 ≤ n → n ≤ 2000 → v2 = nI n → ¬ ad_UO g m a → ¬ ad_IS g a n → md_T κ (sg_ad (sg_nxt g a).1 (sg_nxt g a).2 (sg_sort [] m) (n - 1)) Y' [] 0 μ' → md_fa Y μ Y' μ' → ya Y' 0 = ya Y 0 → yn Y' = va_up (yn Y) (sg_nxt g a).2 (md_nk (yn Y (sg_nxt g a).2) (gC (sg_nxt g a).1 (sg_nxt g a).2) n) → Rt (some (.int (nI (gE g + n - 1)))) μ') :
    sp_m l κ yM_add wM_add 7 116 mc ms [.ref (ya Y 0), .int v1, .int v2] μ Rt Xt := by
  refine opM_add htr (fun x hx hh => bkM_add_0 hh z2 ⟨_, h.1.o, n1314, fun μ3 e3 => ?_⟩)
  have h3 := h.s13 0 e3
  have f3 := md_fa.rfl.s0 e3
  exact ⟨mc, ms, by omega, _, h3.1.o, cm_add0 hx h3 hr hr2
    (fun q1 => Or.inl ⟨rfl, fun _ => ⟨_, h3.1.o, n1314, fun μ5 e5 => hIA q1 μ5 (h3.s13 1 e5) (f3.s0 e5)⟩⟩)
    (fun a n μ4 q1 q2 q3 q4 q5 q6 h4 f4 => Or.inr (Or.inl ⟨rfl, fun _ => ⟨_, h4.1.o, n1314, fun μ5 e5 => hUO a n q1 q2 q3 q4 q5 q6 μ5 (h4.s13 2 e5) ((f3.trans f4 f3.2).s0 e5)⟩⟩))
    (fun a n μ4 q1 q2 q3 q4 q5 q6 q7 h4 f4 => Or.inr (Or.inr ⟨rfl, fun _ => ⟨_, h4.1.o, n1314, fun μ5 e5 => hIS a n q1 q2 q3 q4 q5 q6 q7 μ5 (h4.s13 3 e5) ((f3.trans f4 f3.2).s0 e5)⟩⟩))
    (fun a n Y' μ4 q1 q2 q3 q4 q5 q6 q7 h4 f4 q8 q9 => ⟨_, rfl, hok a n Y' μ4 q1 q2 q3 q4 q5 q6 q7 h4 (f3.trans f4 f3.2) q8 q9⟩)⟩
end
