/-! the law's case add -/
section
variable {κ : sp_K} {x : sp_X} {g : sg_G} {X : sc_X} {Y : md_Y} {m : List Nat} {th : Int32} {o b L j k n : Nat} {xs : Nat → Int32} {μ : sp_M} {mc ms : Nat} {Rt : Option Value → sp_M → Prop} {Xt : String → sp_M → Prop}
theorem lw_an {v : Int32} {a a' : Nat} (q1 : a ≤ 2000) (q2 : v = nI a) (p1 : a' ≤ 2000) (p2 : v = nI a') : a = a' := (nI_eq (by omega) (by omega)).mp (q2.symm.trans p2)
theorem cs_add (hx : x.2.1.stackTraces = false) (hh : cxL_law κ x mc ms) (hS0 : sp_S κ x b L xs) (hL0 : L < 2 ^ 31) (hj : 4 * j + 3 < L) (hk : k + 2100 ≤ mc ∧ n + 40000 ≤ ms) (h : lw_H κ g X (sg_sort [] m) g Y m th o μ) (nx : lw_N κ x (sp_F κ x Rt Xt mc ms) b (xh X) (ya Y 0) o j k n g Y) : sp_w κ x (sp_F κ x Rt Xt mc ms) k n 185 [(0, .ref b), (1, .ref (xh X)), (2, .ref (ya Y 0)), (3, .ref o), (4, .int (nI (4 * j)))] [] μ := by
  have hI := h.1.1.I
  refine bkL_law_185 hh hS0 hL0 ⟨by omega, by omega⟩ ⟨_, nI_1 _, by omega, _, ix2 j, by omega, 4, 47, ⟨by omega, by omega⟩, cl_add hx h ⟨Nat.le_refl _, Nat.le_refl _⟩ (fun q => ⟨_, rfl, _, nI_1 _, by omega, _, ix2 j, by omega, 1, 6, ⟨by omega, by omega⟩, _, h.2.1.1.o, ?_⟩) (fun a i μ1 q1 q2 q3 q4 q5 q6 hH => ⟨_, rfl, _, nI_1 _, by omega, _, ix2 j, by omega, 1, 6, ⟨by omega, by omega⟩, _, hH.2.1.1.o, ?_⟩) (fun a i μ1 q1 q2 q3 q4 q5 q6 q7 hH => ⟨_, rfl, _, nI_1 _, by omega, _, ix2 j, by omega, 1, 6, ⟨by omega, by omega⟩, _, hH.2.1.1.o, ?_⟩) (fun a i X' q1 q2 q3 q4 q5 q6 q7 q8 μ1 f hH hf h0 => ⟨_, rfl, _, nI_1 _, by omega, _, ix2 j, by omega, i + 1, 6 + 2 * (md_nk (yn Y (sg_nxt g a).2) (gC (sg_nxt g a).1 (sg_nxt g a).2) i - yn Y (sg_nxt g a).2), ?_, _, hH.2.1.1.o, ?_⟩)⟩
  · -- the words are bad
    refine fm_add hx h.2.1 ⟨Nat.le_refl _, Nat.le_refl _⟩ (fun a' i' p1 p2 p3 p4 p5 => ?_) (fun _ μ2 hT hfa => ⟨_, rfl, lw_tail hx (h.mod hT hfa) ⟨by omega, by omega⟩ rfl (fun z => absurd z (by decide)) (nx _ _ _ _ _ _ _ _ (h.mod hT hfa) rfl rfl (by omega) (by omega))⟩) (fun a' i' p1 p2 p3 p4 p5 => ?_) (fun a' i' p1 p2 p3 p4 p5 => ?_) (fun a' i' Y' μ' p1 p2 p3 p4 p5 => ?_)
    all_goals exact (q.elim (fun z => z a' p1 p2) (fun z => z i' p3 p4 p5)).elim
  · -- refused for its parents
    rw [ad_UO_sort] at q6
    refine fm_add hx hH.2.1 ⟨Nat.le_refl _, Nat.le_refl _⟩ (fun a' i' p1 p2 p3 p4 p5 p6 => ?_) (fun q => ?_) (fun a' i' p1 p2 p3 p4 p5 p6 μ2 hT hfa => ⟨_, rfl, ?_⟩) (fun a' i' p1 p2 p3 p4 p5 p6 => ?_) (fun a' i' Y' μ' p1 p2 p3 p4 p5 p6 => ?_)
    · have e := lw_an (by omega) q2 (by omega) p2
      subst e
      exact absurd q6 p6
    · exact (q.elim (fun z => z a q1 q2) (fun z => z i q3 q4 q5)).elim
    · have hM : lw_H κ g X (sg_sort [] []) g Y [] _ o μ2 := hH.mod hT hfa
      exact lw_tail hx hM ⟨by omega, by omega⟩ rfl (fun z => absurd z (by decide)) (nx _ _ _ _ _ _ _ _ hM rfl rfl (by omega) (by omega))
    · have e := lw_an (by omega) q2 (by omega) p2
      subst e
      exact absurd q6 p6
    · have e := lw_an (by omega) q2 (by omega) p2
      subst e
      exact absurd q6 p6
  · -- refused for want of room
    rw [ad_UO_sort] at q6
    refine fm_add hx hH.2.1 ⟨Nat.le_refl _, Nat.le_refl _⟩ (fun a' i' p1 p2 p3 p4 p5 p6 p7 => ?_) (fun q => ?_) (fun a' i' p1 p2 p3 p4 p5 p6 => ?_) (fun a' i' p1 p2 p3 p4 p5 p6 p7 μ2 hT hfa => ⟨_, rfl, ?_⟩) (fun a' i' Y' μ' p1 p2 p3 p4 p5 p6 p7 => ?_)
    · have e := lw_an (by omega) q2 (by omega) p2
      have e' := lw_an (by omega) q5 (by omega) p5
      subst e e'
      exact absurd q7 p7
    · exact (q.elim (fun z => z a q1 q2) (fun z => z i q3 q4 q5)).elim
    · have e := lw_an (by omega) q2 (by omega) p2
      subst e
      exact absurd p6 q6
    · have hM : lw_H κ g X (sg_sort [] []) g Y [] _ o μ2 := hH.mod hT hfa
      exact lw_tail hx hM ⟨by omega, by omega⟩ rfl (fun z => absurd z (by decide)) (nx _ _ _ _ _ _ _ _ hM rfl rfl (by omega) (by omega))
    · have e := lw_an (by omega) q2 (by omega) p2
      have e' := lw_an (by omega) q5 (by omega) p5
      subst e e'
      exact absurd q7 p7
  · have z1 := sg_nxt_s hI q7
    have z3 := h.2.1.1.nb z1.1
    have z2 := md_nk_16 z3.2 i z1.2.1
    exact ⟨by omega, by omega⟩
  · -- taken
    have z1 := sg_nxt_s hI q7
    have z3 := h.2.1.1.nb z1.1
    have z2 := md_nk_16 z3.2 i z1.2.1
    have z4 := md_nk_le (yn Y (sg_nxt g a).2) (gC (sg_nxt g a).1 (sg_nxt g a).2) i
    rw [ad_UO_sort] at q6
    refine fm_add hx hH.2.1 ⟨by omega, by omega⟩ (fun a' i' p1 p2 p3 p4 p5 p6 p7 => ?_) (fun q => ?_) (fun a' i' p1 p2 p3 p4 p5 p6 => ?_) (fun a' i' p1 p2 p3 p4 p5 p6 p7 => ?_) (fun a' i' Y' μ2 p1 p2 p3 p4 p5 p6 p7 hT hfa p8 p9 => ⟨_, rfl, ?_⟩)
    · have e := lw_an (by omega) q2 (by omega) p2
      have e' := lw_an (by omega) q5 (by omega) p5
      subst e e'
      omega
    · exact (q.elim (fun z => z a q1 q2) (fun z => z i q3 q4 q5)).elim
    · have e := lw_an (by omega) q2 (by omega) p2
      subst e
      exact absurd p6 q6
    · have e := lw_an (by omega) q2 (by omega) p2
      have e' := lw_an (by omega) q5 (by omega) p5
      subst e e'
      exact absurd p7 q7
    · have e := lw_an (by omega) q2 (by omega) p2
      have e' := lw_an (by omega) q5 (by omega) p5
      subst e e'
      have hM : lw_H κ (sg_ad (sg_nxt g a).1 (sg_nxt g a).2 (sg_sort [] m) (i - 1)) X' (sg_sort [] []) (sg_ad (sg_nxt g a).1 (sg_nxt g a).2 (sg_sort [] m) (i - 1)) Y' [] 0 o μ2 := hH.mod hT hfa
      have hsum := sum_up (f := yn Y) z4 16 z1.1
      rw [← p9] at hsum
      have hEE : gE (sg_ad (sg_nxt g a).1 (sg_nxt g a).2 (sg_sort [] m) (i - 1)) = gE g + i := by
        rw [sg_ad_E, z1.2.2]
        omega
      have key := lw_tail (r := (nI (gE g + i - 1)).toInt64) hx hM (k := k + 4 + (i + 1)) (n := n + 47 + (6 + 2 * (md_nk (yn Y (sg_nxt g a).2) (gC (sg_nxt g a).1 (sg_nxt g a).2) i - yn Y (sg_nxt g a).2))) ⟨by omega, by omega⟩ rfl (fun _ => ⟨f, hfa.1 o _ hf hH.2.2.2.2.2, h0⟩) (nx _ _ _ _ _ _ _ _ hM q8 p8 (by omega) (by omega))
      rw [p8] at key
      exact key
end
