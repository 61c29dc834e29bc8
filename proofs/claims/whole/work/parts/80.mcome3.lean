/-! one event comes, in the reference: the contract -/
section
variable {l : Launch} {κ : sp_K} {g : sg_G} {Y : md_Y} {c : Nat} {th : Int32} {μ μ' : sp_M} {mc ms : Nat} {Rt : Option Value → sp_M → Prop} {Xt : String → sp_M → Prop} {s : Nat} {ps : List Nat}
theorem md_N.cong {Y' : md_Y} (h : md_N κ g Y s ps μ) (hq : ∀ i, 4 ≤ i → i ≤ 8 → μ' (ya Y' i) = μ (ya Y i)) : md_N κ g Y' s ps μ' := by
  obtain ⟨h4, h5, h6, h7, h8⟩ := h
  refine ⟨?_, ?_, ?_, ?_, ?_⟩
  · rw [hq 4 (by omega) (by omega)]; exact h4
  · rw [hq 5 (by omega) (by omega)]; exact h5
  · rw [hq 6 (by omega) (by omega)]; exact h6
  · rw [hq 7 (by omega) (by omega)]; exact h7
  · rw [hq 8 (by omega) (by omega)]; exact h8
theorem lm_comeY {x : sp_X} {n0 : Nat} {v3 : Int32} {ml : List Nat} {μt : sp_M} (hx : x.2.1.stackTraces = false) (hh : cxM_come κ x mc ms) (h : md_R κ g Y c th μt) (hN : md_N κ g Y s (sg_sort [] ml) μt) (hs : s < gA g) (hE : gE g < 8192) (hml : ml.length ≤ 16) (hI' : sg_I (sg_come g s (sg_sort [] ml))) (hr : 1 ≤ mc ∧ 2 * (md_n1 (yn Y s) (gC g s) - yn Y s) ≤ ms)
    (hR : ∀ Y' μ', md_R κ (sg_come g s (sg_sort [] ml)) Y' c th μ' → yn Y' = va_up (yn Y) s (md_n1 (yn Y s) (gC g s)) → (∀ i, i < 11 → ya Y' i = ya Y i) → md_fa Y μt Y' μ' → μ' (ya Y 9) = μt (ya Y 9) → Rt none μ') :
    sp_w κ x (sp_F κ x Rt Xt mc ms) 0 0 71 [(0, .ref (ya Y 0)), (1, .int (nI s)), (2, .int (nI n0)), (3, .int v3), (4, .int (nI (gE g))), (5, .int (nI n0))] [] μt := by
  have h16 := h.I.a
  have hC2 : gC g s < 8192 := by
    have hc := h.I.cle hs
    rcases Nat.lt_or_ge (gC g s) 8192 with q | q
    · exact q
    · -- the places of a slot rise
      have key : ∀ k, k < gC g s → k ≤ gT g s k := by
        intro k
        induction k with
        | zero => intro _; exact Nat.zero_le _
        | succ k ih =>
          intro hk
          have := ih (by omega)
          have := h.I.up hs (show k < k + 1 by omega) hk
          omega
      have h2 := key 8191 (by omega)
      have h3 := h.I.t hs (show 8191 < gC g s by omega)
      omega
  have hps : (sg_sort [] ml).length ≤ 16 := by rw [sg_sort_len]; simpa using hml
  have nb := h.nb (s := s) (by omega)
  have hcn := h.cn hs
  obtain ⟨f2, k2, v2', -⟩ := h.a2
  obtain ⟨f3, k3, v3'⟩ := h.a3
  obtain ⟨fr, kr, vr⟩ := h.a11 (s := s) (by omega)
  refine bkM_come_71 hh z2 ⟨fun _ => ⟨_, h.o, some (ya Y 2), rfl, _, rfl, _, _, k2, s, rfl, by omega, some (ya Y 3), rfl, _, rfl, _, _, k3, s, rfl, by omega, _, v3' s (by omega), _, rfl, _, _, kr, fun cc => ?_, fun cc => ⟨s, rfl, by omega, _, v3' s (by omega), s, rfl, by omega, 1, 2 * gC g s, ?_, ?_⟩⟩, fun cc => absurd (Int32.le_refl _) cc⟩
  · rw [v2' s hs] at cc
    have hne : gC g s ≠ yn Y s := fun q => cc (by rw [q])
    have en : va_up (yn Y) s (md_n1 (yn Y s) (gC g s)) = yn Y := by
      unfold md_n1
      rw [if_neg (fun q => hne q.symm)]
      funext t
      by_cases q : t = s
      · rw [q, va_up_self]
      · rw [va_up_ne _ _ q]
    exact lm_comeZ hh z2 h hN hs hE (by omega) hC2 hps hI' (fun μ' hR' hq h9 => hR Y μ' hR' en.symm (fun _ _ => rfl) ⟨fun z e hz hn => (hq z hn).trans hz, fun z hz => Or.inl hz⟩ h9)
  · rw [v2' s hs] at cc
    have he : gC g s = yn Y s := (nI_eq (by omega) (by omega)).mp cc
    unfold md_n1 at hr
    rw [if_pos he.symm] at hr
    omega
  · rw [v2' s hs] at cc
    have he : gC g s = yn Y s := (nI_eq (by omega) (by omega)).mp cc
    have e2 : 2 * f2 s = nI (2 * gC g s) := by
      rw [v2' s hs]
      exact pk_mul 2 _
    rw [e2]
    refine ct_copyOf hx kr (by omega) (by omega) ⟨Nat.le_refl _, Nat.le_refl _⟩ (fun q f' hz hf' => ⟨_, rfl, q, rfl, _, _, (sp_new_ext hz _ _ k3), _, _, va_up_self _ _ _, s, rfl, by omega, fun μ9 e9 => ?_⟩)
    have hqn : ∀ i, i < 27 → ya Y i ≠ q := fun i hi e => by
      have := h.iss ⟨i, hi, rfl⟩
      rw [e, hz] at this
      cases this
    have m3 : μ9 (ya Y 3) = some (sp_ra κ 5 16 (va_up f3 s (some q))) := by rw [e9, va_up_self]
    have mr : μ9 q = some (sp_ia κ (2 * gC g s) f') := by rw [e9, va_up_ne _ _ (fun z => hqn 3 (by omega) z.symm), va_up_self]
    have mq : ∀ z, z ≠ ya Y 3 → z ≠ q → μ9 z = μt z := fun z z1 z2 => by rw [e9, va_up_ne _ _ z1, va_up_ne _ _ z2]
    have hG := md_grow h (by omega) k3 v3' kr hz (M := 2 * gC g s) ⟨by omega, by omega⟩ (fun j hj => by rw [hf' j (by omega), if_pos hj]) m3 mr mq
    have yA : ∀ i, i ≠ 11 + s → ya (va_up (ya Y) (11 + s) q, va_up (yn Y) s (2 * gC g s)) i = ya Y i := fun i hi => va_up_ne _ _ hi
    have yB : ya (va_up (ya Y) (11 + s) q, va_up (yn Y) s (2 * gC g s)) (11 + s) = q := va_up_self _ _ _
    have yC : yn (va_up (ya Y) (11 + s) q, va_up (yn Y) s (2 * gC g s)) s = 2 * gC g s := va_up_self _ _ _
    have hN9 : md_N κ g (va_up (ya Y) (11 + s) q, va_up (yn Y) s (2 * gC g s)) s (sg_sort [] ml) μ9 := hN.cong (fun i i1 i2 => by
      rw [yA i (by omega)]
      exact mq _ (h.ne (by omega) (by omega) (by omega)) (hqn i (by omega)))
    have key := lm_comeZ (Rt := Rt) (Xt := Xt) (k := 0 + 1) (n := 0 + 2 * gC g s) (v2 := nI n0) (v3 := v3) (v5 := nI n0) hh ⟨by omega, by unfold md_n1 at hr; rw [if_pos he.symm] at hr; omega⟩ hG hN9 hs hE (by rw [yC]; omega) hC2 hps hI' (fun μ' hR' hq h9 => hR _ μ' hR' ?_ (fun i hi => yA i (by omega)) ⟨fun z e hz' hn => ?_, fun z hz' => ?_⟩ ?_)
    · rw [yA 0 (by omega)] at key
      exact key
    · show va_up (yn Y) s (2 * gC g s) = _
      unfold md_n1
      rw [if_pos he.symm]
    · have z1 : z ≠ q := fun e' => by rw [e', hz] at hz'; cases hz'
      have z2 : ¬ md_own (va_up (ya Y) (11 + s) q, va_up (yn Y) s (2 * gC g s)) z := by
        rintro ⟨i, hi, e'⟩
        by_cases qi : i = 11 + s
        · rw [qi, yB] at e'; exact z1 e'
        · rw [yA i qi] at e'; exact hn ⟨i, hi, e'⟩
      rw [hq z z2, mq z (fun e' => hn ⟨3, by omega, e'⟩) z1]
      exact hz'
    · obtain ⟨i, hi, e'⟩ := hz'
      by_cases qi : i = 11 + s
      · rw [qi, yB] at e'; rw [e']; exact Or.inr hz
      · rw [yA i qi] at e'; exact Or.inl ⟨i, hi, e'⟩
    · rw [yA 9 (by omega)] at h9
      rw [h9]
      exact mq _ (h.ne (by omega) (by omega) (by omega)) (hqn 9 (by omega))
theorem cm_come (htr : l.stackTraces = false) (h : md_R κ g Y c th μ) {ml : List Nat} {v3 : Int32} (hs : s < gA g) (hE : gE g < 8192) (hml : ml.length ≤ 16) (hmE : ∀ e ∈ ml, e < gE g) (hnd : ml.Nodup) (hg : 0 < gC g s → ∃ p ∈ ml, gP g p s = gC g s)
    (hP0 : v3 = 0 → ∀ i, i < ml.length → nI (gE g) - 1 = nI (ml.getD i 0)) (hP1 : v3 ≠ 0 → ∃ fl, μ (ya Y 9) = some (sp_ia κ 16 fl) ∧ ∀ i, i < ml.length → fl i = nI (ml.getD i 0)) (hr : 1 ≤ mc ∧ 2 * (md_n1 (yn Y s) (gC g s) - yn Y s) ≤ ms)
    (hR : ∀ Y' μ', md_R κ (sg_come g s (sg_sort [] ml)) Y' c th μ' → yn Y' = va_up (yn Y) s (md_n1 (yn Y s) (gC g s)) → (∀ i, i < 11 → ya Y' i = ya Y i) → md_fa Y μ Y' μ' → μ' (ya Y 9) = μ (ya Y 9) → Rt none μ') :
    sp_m l κ yM_come wM_come 2 48 mc ms [.ref (ya Y 0), .int (nI s), .int (nI ml.length), .int v3] μ Rt Xt := by
  have h16 := h.I.a
  have hc := h.I.cle hs
  have nn : ∀ i j, i < 27 → j < 27 → i ≠ j → ya Y i ≠ ya Y j := fun i j hi hj hij => h.ne hi hj hij
  have hss : (sg_sort [] ml).Pairwise (· < ·) := sg_sort_sort List.Pairwise.nil hnd (fun _ _ => by simp)
  have hsm : ∀ e, e ∈ sg_sort [] ml ↔ e ∈ ml := fun e => ⟨fun q => (sg_sort_mem.mp q).elim (fun z => by simp at z) id, fun q => sg_sort_mem.mpr (Or.inr q)⟩
  have hsl : (sg_sort [] ml).length = ml.length := by rw [sg_sort_len]; simp
  have hI' : sg_I (sg_come g s (sg_sort [] ml)) := sg_come_I h.I hs hE hss (fun p hp => hmE p ((hsm p).mp hp)) (fun h0 => by
    obtain ⟨p, hp, e⟩ := hg h0
    exact ⟨p, (hsm p).mpr hp, e⟩)
  obtain ⟨f2, k2, v2', -⟩ := h.a2
  obtain ⟨f4, k4, v4⟩ := h.a4
  obtain ⟨f5, k5, v5⟩ := h.a5
  obtain ⟨f6, k6, v6⟩ := h.a6
  obtain ⟨f7, k7, v7⟩ := h.a7
  obtain ⟨f8, k8, v8⟩ := h.a8
  refine opM_come htr (fun x hx hh => bkM_come_0 hh z2 ⟨_, h.o, _, rfl, some (ya Y 4), rfl, _, rfl, _, _, k4, gE g, rfl, hE, fun μ1 e1 => ?_⟩)
  have a1 : ∀ i, i < 27 → i ≠ 4 → μ1 (ya Y i) = μ (ya Y i) := fun i hi hne => by rw [e1]; exact va_up_ne _ _ (nn i 4 hi (by omega) hne)
  refine ⟨_, (a1 0 (by omega) (by omega)).trans h.o, some (ya Y 5), rfl, some (ya Y 2), rfl, _, rfl, _, _, (a1 2 (by omega) (by omega)).trans k2, s, rfl, by omega, _, rfl, _, _, (a1 5 (by omega) (by omega)).trans k5, gE g, rfl, hE, fun μ2 e2 => ?_⟩
  have a2 : ∀ i, i < 27 → i ≠ 5 → μ2 (ya Y i) = μ1 (ya Y i) := fun i hi hne => by rw [e2]; exact va_up_ne _ _ (nn i 5 hi (by omega) hne)
  refine ⟨_, (a2 0 (by omega) (by omega)).trans ((a1 0 (by omega) (by omega)).trans h.o), some (ya Y 6), rfl, _, rfl, _, _, (a2 6 (by omega) (by omega)).trans ((a1 6 (by omega) (by omega)).trans k6), gE g, rfl, hE, fun μ3 e3 => ?_⟩
  have a3 : ∀ i, i < 27 → i ≠ 6 → μ3 (ya Y i) = μ2 (ya Y i) := fun i hi hne => by rw [e3]; exact va_up_ne _ _ (nn i 6 hi (by omega) hne)
  rw [sn_sh2 (by omega)] at e1 e3
  rw [v2' s hs, sn_sh2 (by omega)] at e2
  have b4 : μ3 (ya Y 4) = some (sp_sa κ 8192 (upd f4 (gE g) (nI s))) := by rw [a3 4 (by omega) (by omega), a2 4 (by omega) (by omega), e1, va_up_self]
  have b5 : μ3 (ya Y 5) = some (sp_sa κ 8192 (upd f5 (gE g) (nI (gC g s)))) := by rw [a3 5 (by omega) (by omega), e2, va_up_self]
  have b6 : μ3 (ya Y 6) = some (sp_sa κ 8192 (upd f6 (gE g) (nI ml.length))) := by rw [e3, va_up_self]
  have bq : ∀ i, i < 27 → i ≠ 4 → i ≠ 5 → i ≠ 6 → μ3 (ya Y i) = μ (ya Y i) := fun i hi n4 n5 n6 => by rw [a3 i hi n6, a2 i hi n5, a1 i hi n4]
  have bn : ∀ q, ¬ md_own Y q → μ3 q = μ q := fun q hq => by
    have nq : ∀ i, i < 27 → q ≠ ya Y i := fun i hi z => hq ⟨i, hi, z⟩
    rw [e3, va_up_ne _ _ (nq 6 (by omega)), e2, va_up_ne _ _ (nq 5 (by omega)), e1, va_up_ne _ _ (nq 4 (by omega))]
  have o3 : μ3 (ya Y 0) = some (md_obj g Y c th) := (bq 0 (by omega) (by omega) (by omega) (by omega)).trans h.o
  refine lm_comeA (fP := f7) (f8 := f8) hh z2 h.j hE o3 (fun fQ1 μ4 hC4 q1 q2 => ?_) 16 0 f8 μ3 rfl ⟨(bq 7 (by omega) (by omega) (by omega) (by omega)).trans k7, (bq 8 (by omega) (by omega) (by omega) (by omega)).trans k8, fun _ _ _ => rfl⟩ (fun z q => absurd q (Nat.not_lt_zero _)) (fun _ _ => rfl)
  refine lm_comeB (f7 := f7) (f8 := f8) hh z2 h.j hE o3 h.I hml hmE hnd v8 hP0 (fun z => ?_) (fun fP fQ μt hC p1 p2 p3 p4 => ?_) ml.length 0 f7 fQ1 μ4 (by omega) hC4 (fun j q => absurd q (Nat.not_lt_zero _)) (fun _ _ => rfl) (fun y hy => (q1 y hy)) q2
  · obtain ⟨fl, hf, hv⟩ := hP1 z
    exact ⟨fl, (bq 9 (by omega) (by omega) (by omega) (by omega)).trans hf, hv⟩
  · have ct : ∀ i, i < 27 → i ≠ 7 → i ≠ 8 → μt (ya Y i) = μ3 (ya Y i) := fun i hi n7 n8 => hC.at h.j hi n7 n8
    have hT : md_R κ g Y c th μt := h.five (fun i hi hh => (ct i hi (by omega) (by omega)).trans (bq i hi (by omega) (by omega) (by omega)))
      ((ct 4 (by omega) (by omega) (by omega)).trans b4) (fun e he => by rw [pk_un (by omega)]; exact v4 e he)
      ((ct 5 (by omega) (by omega) (by omega)).trans b5) (fun e he => by rw [pk_un (by omega)]; exact v5 e he)
      ((ct 6 (by omega) (by omega) (by omega)).trans b6) (fun e he => by rw [pk_un (by omega)]; exact v6 e he)
      hC.1 (fun e he k hk => by have := h.r16 he; rw [p2 _ (by omega)]; exact v7 e he k hk)
      hC.2.1 (fun e he y hy => by rw [p4 _ (by omega)]; exact v8 e he y hy)
    have hN : md_N κ g Y s (sg_sort [] ml) μt := ⟨⟨_, (ct 4 (by omega) (by omega) (by omega)).trans b4, pk_us⟩, ⟨_, (ct 5 (by omega) (by omega) (by omega)).trans b5, pk_us⟩, ⟨_, (ct 6 (by omega) (by omega) (by omega)).trans b6, by rw [pk_us, hsl]⟩, ⟨_, hC.1, fun k hk => p1 k (by omega)⟩, ⟨_, hC.2.1, fun y hy => by rw [p3 y hy, sg_mx_mem hsm]⟩⟩
    have ctn : ∀ q, ¬ md_own Y q → μt q = μ q := fun q hq => (hC.2.2 q (fun z => hq ⟨7, by omega, z⟩) (fun z => hq ⟨8, by omega, z⟩)).trans (bn q hq)
    refine lm_comeY hx hh hT hN hs hE hml hI' hr (fun Y' μ' hR' hy1 hy2 hfa h9 => hR Y' μ' hR' hy1 hy2 ⟨fun z e hz hn => hfa.1 z e ((ctn z hn).trans hz) hn, fun z hz => ?_⟩ ?_)
    · rcases hfa.2 z hz with q | q
      · exact Or.inl q
      · rcases Classical.em (md_own Y z) with q1 | q1
        · exact Or.inl q1
        · exact Or.inr ((ctn z q1).symm.trans q)
    · rw [h9, ct 9 (by omega) (by omega) (by omega)]
      exact bq 9 (by omega) (by omega) (by omega) (by omega)
end
