/-! the law's cases: heads, critical, base, parent, add -/
section
variable {κ : sp_K} {x : sp_X} {g : sg_G} {X : sc_X} {Y : md_Y} {m : List Nat} {th : Int32} {o b L j k n : Nat} {xs : Nat → Int32} {μ : sp_M} {mc ms : Nat} {Rt : Option Value → sp_M → Prop} {Xt : String → sp_M → Prop}
theorem cs_heads (hx : x.2.1.stackTraces = false) (hh : cxL_law κ x mc ms) (hS0 : sp_S κ x b L xs) (hL0 : L < 2 ^ 31) (hk : k + 2100 ≤ mc ∧ n + 40000 ≤ ms) (h : lw_H κ g X (sg_sort [] m) g Y m th o μ) (nx : lw_N κ x (sp_F κ x Rt Xt mc ms) b (xh X) (ya Y 0) o j k n g Y) : sp_w κ x (sp_F κ x Rt Xt mc ms) k n 172 [(0, .ref b), (1, .ref (xh X)), (2, .ref (ya Y 0)), (3, .ref o), (4, .int (nI (4 * j)))] [] μ := by
  refine bkL_law_172 hh hS0 hL0 ⟨by omega, by omega⟩ ⟨0, 0, ⟨by omega, by omega⟩, _, h.1.1.o, ct_heads hx h.1 (fun μ1 hT hfr => ⟨_, rfl, 0, 0, ⟨by omega, by omega⟩, _, (h.cls hT hfr.fa).2.1.1.o, fm_heads hx (h.cls hT hfr.fa).2.1 (fun μ2 hT2 hfa => ⟨_, rfl, fun _ => ?_, fun c => absurd rfl c⟩)⟩)⟩
  exact nx _ _ _ _ _ _ _ _ ((h.cls hT hfr.fa).mod hT2 hfa) rfl rfl (by omega) (by omega)
theorem cs_critical (hx : x.2.1.stackTraces = false) (hh : cxL_law κ x mc ms) (hS0 : sp_S κ x b L xs) (hL0 : L < 2 ^ 31) (hk : k + 2100 ≤ mc ∧ n + 40000 ≤ ms) (h : lw_H κ g X (sg_sort [] m) g Y m th o μ) (nx : lw_N κ x (sp_F κ x Rt Xt mc ms) b (xh X) (ya Y 0) o j k n g Y) : sp_w κ x (sp_F κ x Rt Xt mc ms) k n 772 [(0, .ref b), (1, .ref (xh X)), (2, .ref (ya Y 0)), (3, .ref o), (4, .int (nI (4 * j)))] [] μ := by
  refine bkL_law_772 hh hS0 hL0 ⟨by omega, by omega⟩ ⟨0, 0, ⟨by omega, by omega⟩, _, h.1.1.o, ct_critical hx h.1.1 ⟨_, rfl, 0, 0, ⟨by omega, by omega⟩, _, h.2.1.1.o, fm_critical hx h.2.1 (fun μ2 hT2 hfa => ⟨_, rfl, fun _ => ?_, fun c => absurd rfl c⟩)⟩⟩
  exact nx _ _ _ _ _ _ _ _ (h.mod hT2 hfa) rfl rfl (by omega) (by omega)
theorem cs_base (hx : x.2.1.stackTraces = false) (hh : cxL_law κ x mc ms) (hS0 : sp_S κ x b L xs) (hL0 : L < 2 ^ 31) (hj : 4 * j + 3 < L) (hk : k + 2100 ≤ mc ∧ n + 40000 ≤ ms) (h : lw_H κ g X (sg_sort [] m) g Y m th o μ) (nx : lw_N κ x (sp_F κ x Rt Xt mc ms) b (xh X) (ya Y 0) o j k n g Y) : sp_w κ x (sp_F κ x Rt Xt mc ms) k n 785 [(0, .ref b), (1, .ref (xh X)), (2, .ref (ya Y 0)), (3, .ref o), (4, .int (nI (4 * j)))] [] μ := by
  refine bkL_law_785 hh hS0 hL0 ⟨by omega, by omega⟩ ⟨_, nI_1 _, by omega, 0, 0, ⟨by omega, by omega⟩, _, h.1.1.o, ct_base hx h.1.1 (fun r hr => ⟨_, rfl, _, nI_1 _, by omega, 0, 0, ⟨by omega, by omega⟩, _, h.2.1.1.o, fm_base hx h.2.1 (fun r' hr' μ2 hT2 hfa => ⟨_, rfl, fun _ => ?_, fun c => absurd (sg_gr_one hr hr') c⟩)⟩)⟩
  exact nx _ _ _ _ _ _ _ _ (h.mod hT2 hfa) rfl rfl (by omega) (by omega)
theorem cs_parent (hx : x.2.1.stackTraces = false) (hh : cxL_law κ x mc ms) (hS0 : sp_S κ x b L xs) (hL0 : L < 2 ^ 31) (hj : 4 * j + 3 < L) (hk : k + 2100 ≤ mc ∧ n + 40000 ≤ ms) (h : lw_H κ g X (sg_sort [] m) g Y m th o μ) (nx : lw_N κ x (sp_F κ x Rt Xt mc ms) b (xh X) (ya Y 0) o j k n g Y) : sp_w κ x (sp_F κ x Rt Xt mc ms) k n 104 [(0, .ref b), (1, .ref (xh X)), (2, .ref (ya Y 0)), (3, .ref o), (4, .int (nI (4 * j)))] [] μ := by
  have hI := h.1.1.I
  have hlen : (sg_sort [] m).length = m.length := sg_sort_len0
  refine bkL_law_104 hh hS0 hL0 ⟨by omega, by omega⟩ ⟨_, nI_1 _, by omega, _, ix2 j, by omega, 1, 6, ⟨by omega, by omega⟩, cl_parent hx h ⟨Nat.le_refl _, Nat.le_refl _⟩ (fun s i q1 q2 q3 q4 q5 q6 μ1 f hH hf h0 => ⟨_, rfl, _, nI_1 _, by omega, _, ix2 j, by omega, 1, 6, ⟨by omega, by omega⟩, _, hH.2.1.1.o, ?_⟩) (fun hno => ⟨_, rfl, _, nI_1 _, by omega, _, ix2 j, by omega, 1, 6, ⟨by omega, by omega⟩, _, h.2.1.1.o, ?_⟩) (fun s i q1 q2 q3 q4 q5 => ⟨_, rfl, _, nI_1 _, by omega, _, ix2 j, by omega, 1, 6, ⟨by omega, by omega⟩, _, h.2.1.1.o, ?_⟩) (fun s i q1 q2 q3 q4 q5 q6 => ⟨_, rfl, _, nI_1 _, by omega, _, ix2 j, by omega, 1, 6, ⟨by omega, by omega⟩, _, h.2.1.1.o, ?_⟩)⟩
  · rw [sg_sort_mem0] at q5
    refine fm_parent hx hH.2.1 ⟨Nat.le_refl _, Nat.le_refl _⟩ (fun s' i' p1 p2 p3 p4 p5 p6 μ2 hT hfa => ⟨_, rfl, ?_⟩) (fun hno => absurd q4 (hno s i q1 q2 q3)) (fun s' i' p1 p2 p3 p4 p5 => absurd ((lw_pl hI q1 q3 q4 p1 p3 p4 q2 p2) ▸ p5) q5) (fun s' i' p1 p2 p3 p4 p5 p6 => absurd q6 (by omega))
    have ee := lw_pl hI q1 q3 q4 p1 p3 p4 q2 p2
    have hM := hH.mod hT hfa
    rw [ee, sg_ins_sort_app] at hM
    exact lw_tail hx hM ⟨by omega, by omega⟩ rfl (fun _ => ⟨f, hfa.1 o _ hf hH.2.2.2.2.2, by rw [h0, hlen]⟩) (nx _ _ _ _ _ _ _ _ hM rfl rfl (by omega) (by omega))
  · exact fm_parent hx h.2.1 ⟨Nat.le_refl _, Nat.le_refl _⟩ (fun s' i' p1 p2 p3 p4 => absurd p4 (hno s' i' p1 p2 p3)) (fun _ μ2 hT hfa => ⟨_, rfl, lw_tail hx (h.mod hT hfa) ⟨by omega, by omega⟩ rfl (fun z => absurd z (by decide)) (nx _ _ _ _ _ _ _ _ (h.mod hT hfa) rfl rfl (by omega) (by omega))⟩) (fun s' i' p1 p2 p3 p4 => absurd p4 (hno s' i' p1 p2 p3)) (fun s' i' p1 p2 p3 p4 => absurd p4 (hno s' i' p1 p2 p3))
  · rw [sg_sort_mem0] at q5
    exact fm_parent hx h.2.1 ⟨Nat.le_refl _, Nat.le_refl _⟩ (fun s' i' p1 p2 p3 p4 p5 => absurd ((lw_pl hI q1 q3 q4 p1 p3 p4 q2 p2) ▸ q5) p5) (fun hno => absurd q4 (hno s i q1 q2 q3)) (fun s' i' p1 p2 p3 p4 p5 μ2 hT hfa => ⟨_, rfl, lw_tail hx (h.mod hT hfa) ⟨by omega, by omega⟩ rfl (fun z => absurd z (by decide)) (nx _ _ _ _ _ _ _ _ (h.mod hT hfa) rfl rfl (by omega) (by omega))⟩) (fun s' i' p1 p2 p3 p4 p5 => absurd ((lw_pl hI q1 q3 q4 p1 p3 p4 q2 p2) ▸ q5) p5)
  · rw [sg_sort_mem0] at q5
    exact fm_parent hx h.2.1 ⟨Nat.le_refl _, Nat.le_refl _⟩ (fun s' i' p1 p2 p3 p4 p5 p6 => absurd p6 (by omega)) (fun hno => absurd q4 (hno s i q1 q2 q3)) (fun s' i' p1 p2 p3 p4 p5 => absurd ((lw_pl hI q1 q3 q4 p1 p3 p4 q2 p2) ▸ p5) q5) (fun s' i' p1 p2 p3 p4 p5 p6 μ2 hT hfa => ⟨_, rfl, lw_tail hx (h.mod hT hfa) ⟨by omega, by omega⟩ rfl (fun z => absurd z (by decide)) (nx _ _ _ _ _ _ _ _ (h.mod hT hfa) rfl rfl (by omega) (by omega))⟩)
/-- the rows' lengths -/
theorem md_nk_16 {N C : Nat} (hN : N ≤ 16384) : ∀ k, C + k ≤ 8192 → md_nk N C k ≤ 16384
  | 0, _ => hN
  | k + 1, h => by
    have ih := md_nk_16 (C := C) hN k (by omega)
    show md_n1 (md_nk N C k) (C + k) ≤ 16384
    unfold md_n1
    split <;> omega
theorem sum_up {f : Nat → Nat} {s v : Nat} (hv : f s ≤ v) : ∀ N, s < N → sg_sum (va_up f s v) N = sg_sum f N + (v - f s)
  | 0, h => absurd h (Nat.not_lt_zero _)
  | N + 1, h => by
    show sg_sum (va_up f s v) N + va_up f s v N = sg_sum f N + f N + (v - f s)
    by_cases q : s = N
    · subst q
      rw [va_up_self]
      have : sg_sum (va_up f s v) s = sg_sum f s := sg_sum_congr (fun t ht => va_up_ne _ _ (by omega))
      rw [this]
      omega
    · rw [sum_up hv N (by omega), va_up_ne _ _ (by omega)]
      omega
theorem sg_nxt_s (hI : sg_I g) {a n : Nat} (hni : ¬ ad_IS g a n) : (sg_nxt g a).2 < 16 ∧ gC (sg_nxt g a).1 (sg_nxt g a).2 + n ≤ 8192 ∧ gE (sg_nxt g a).1 = gE g := by
  have h16 := hI.a
  have hn : ¬ 8192 < gE g + n := fun q => hni (Or.inl q)
  by_cases q : ∃ s, s < gA g ∧ gM g s = a
  · obtain ⟨s, hs, ha⟩ := q
    rw [sg_nxt_old hI hs ha]
    refine ⟨by show s < 16; omega, ?_, rfl⟩
    show gC g s + n ≤ 8192
    have key : ∀ k, k < gC g s → k ≤ gT g s k := by
      intro k
      induction k with
      | zero => intro _; exact Nat.zero_le _
      | succ k ih =>
        intro hk
        have := ih (by omega)
        have := hI.up hs (show k < k + 1 by omega) hk
        omega
    rcases Nat.eq_zero_or_pos (gC g s) with z | z
    · omega
    · have h1 := key (gC g s - 1) (by omega)
      have h2 := hI.t hs (show gC g s - 1 < gC g s by omega)
      omega
  · have q' : ∀ s, s < gA g → gM g s ≠ a := fun s hs z => q ⟨s, hs, z⟩
    have hA : gA g < 16 := by
      rcases Nat.lt_or_ge (gA g) 16 with z | z
      · exact z
      · exact absurd (Or.inr ⟨q', z⟩) hni
    rw [sg_nxt_new q']
    refine ⟨hA, ?_, rfl⟩
    show va_up (gC g) (gA g) 0 (gA g) + n ≤ 8192
    rw [va_up_self]
    omega
end
