/-! one event comes, in the reference -/
/-- what was written for the event that comes -/
def md_N (κ : sp_K) (g : sg_G) (Y : md_Y) (s : Nat) (ps : List Nat) (μ : sp_M) : Prop :=
  (∃ f, μ (ya Y 4) = some (sp_sa κ 8192 f) ∧ f (gE g) = nI s) ∧
  (∃ f, μ (ya Y 5) = some (sp_sa κ 8192 f) ∧ f (gE g) = nI (gC g s)) ∧
  (∃ f, μ (ya Y 6) = some (sp_sa κ 8192 f) ∧ f (gE g) = nI ps.length) ∧
  (∃ f, μ (ya Y 7) = some (sp_sa κ 131072 f) ∧ ∀ k, k < ps.length → f (16 * gE g + k) = nI (ps.getD k 0)) ∧
  (∃ f, μ (ya Y 8) = some (sp_sa κ 131072 f) ∧ ∀ y, y < 16 → f (16 * gE g + y) = nI (sg_mx g y ps))
/-- a row's length when one more comes -/
def md_n1 (N C : Nat) : Nat := if N = C then 2 * C else N
section
variable {l : Launch} {κ : sp_K} {g : sg_G} {Y : md_Y} {c : Nat} {th : Int32} {μ μ' : sp_M} {mc ms : Nat} {Rt : Option Value → sp_M → Prop} {Xt : String → sp_M → Prop} {s : Nat} {ps : List Nat}
theorem md_R.j (h : md_R κ g Y c th μ) : md_j Y := h.1.2.2.2.2.2
theorem ia_inj {n : Nat} {f f' : Nat → Int32} (h : (some (sp_ia κ n f) : Option va_E) = some (sp_ia κ n f')) : f = f' := by
  injection h with h
  injection h with h
  injection h with _ h
  injection h with _ h
  injection h
theorem sa_inj {n : Nat} {f f' : Nat → Int32} (h : (some (sp_sa κ n f) : Option va_E) = some (sp_sa κ n f')) : f = f' := by
  injection h with h
  injection h with h
  injection h with _ h
  injection h with _ h
  injection h
/-- the last four writes -/
theorem md_fin (h : md_R κ g Y c th μ) (hN : md_N κ g Y s ps μ) (hs : s < gA g) (hE : gE g < 8192) (hC : gC g s < yn Y s) (hps : ps.length ≤ 16) (hI' : sg_I (sg_come g s ps))
    {f2 fr f8 : Nat → Int32} (k2 : μ (ya Y 2) = some (sp_ia κ 16 f2)) (kr : μ (ya Y (11 + s)) = some (sp_ia κ (yn Y s) fr)) (k8 : μ (ya Y 8) = some (sp_sa κ 131072 f8))
    (m0 : μ' (ya Y 0) = some (md_obj (sg_come g s ps) Y c th)) (m2 : μ' (ya Y 2) = some (sp_ia κ 16 (upd f2 s (nI (gC g s + 1))))) (mr : μ' (ya Y (11 + s)) = some (sp_ia κ (yn Y s) (upd fr (gC g s) (nI (gE g))))) (m8 : μ' (ya Y 8) = some (sp_sa κ 131072 (upd f8 (16 * gE g + s) (nI (gC g s + 1)))))
    (mq : ∀ i, i < 27 → i ≠ 0 → i ≠ 2 → i ≠ 8 → i ≠ 11 + s → μ' (ya Y i) = μ (ya Y i)) : md_R κ (sg_come g s ps) Y c th μ' := by
  have h16 := h.I.a
  obtain ⟨⟨g4, n4, w4⟩, ⟨g5, n5, w5⟩, ⟨g6, n6, w6⟩, ⟨g7, n7, w7⟩, ⟨g8, n8, w8⟩⟩ := hN
  obtain ⟨f2', k2', v2, v2z⟩ := h.a2
  obtain rfl := ia_inj (k2'.symm.trans k2)
  obtain ⟨f8', k8', v8⟩ := h.a8
  obtain rfl := sa_inj (k8'.symm.trans k8)
  obtain rfl := sa_inj (n8.symm.trans k8)
  obtain ⟨fr', kr', vr⟩ := h.a11 (s := s) (by omega)
  obtain rfl := ia_inj (kr'.symm.trans kr)
  obtain ⟨f4, k4, v4⟩ := h.a4
  obtain rfl := sa_inj (n4.symm.trans k4)
  obtain ⟨f5, k5, v5⟩ := h.a5
  obtain rfl := sa_inj (n5.symm.trans k5)
  obtain ⟨f6, k6, v6⟩ := h.a6
  obtain rfl := sa_inj (n6.symm.trans k6)
  obtain ⟨f7, k7, v7⟩ := h.a7
  obtain rfl := sa_inj (n7.symm.trans k7)
  have eA : gA (sg_come g s ps) = gA g := rfl
  have eE : gE (sg_come g s ps) = gE g + 1 := rfl
  have eM : gM (sg_come g s ps) = gM g := rfl
  refine ⟨⟨hI', fun e he => ?_, h.l16, fun t ht => ?_, fun t ht => h.nb ht, h.j⟩, m0, ?_, ⟨_, m2, fun t ht => ?_, fun t ht ht2 => ?_⟩, ?_, ⟨g4, ?_, fun e he => ?_⟩, ⟨g5, ?_, fun e he => ?_⟩, ⟨g6, ?_, fun e he => ?_⟩, ⟨g7, ?_, fun e he k hk => ?_⟩, ⟨_, m8, fun e he y hy => ?_⟩, ?_, ?_, fun t ht => ?_⟩
  · rw [sg_come_R]
    split
    · exact hps
    · exact h.r16 (by omega)
  · rw [sg_come_C]
    split
    · rename_i q; rw [q]; omega
    · exact h.cn ht
  · rw [mq 1 (by omega) (by omega) (by omega) (by omega) (by omega)]; exact h.a1
  · rw [sg_come_C]
    by_cases q : t = s
    · rw [if_pos q, q, pk_us]
    · rw [if_neg q, pk_un q]; exact v2 t ht
  · rw [eA] at ht
    rw [pk_un (by omega)]
    exact v2z t ht ht2
  · rw [mq 3 (by omega) (by omega) (by omega) (by omega) (by omega)]; exact h.a3
  · rw [mq 4 (by omega) (by omega) (by omega) (by omega) (by omega)]; exact k4
  · rw [sg_come_S]
    by_cases q : e = gE g
    · rw [if_pos q, q]; exact w4
    · rw [if_neg q]; exact v4 e (by omega)
  · rw [mq 5 (by omega) (by omega) (by omega) (by omega) (by omega)]; exact k5
  · rw [sg_come_N]
    by_cases q : e = gE g
    · rw [if_pos q, q]; exact w5
    · rw [if_neg q]; exact v5 e (by omega)
  · rw [mq 6 (by omega) (by omega) (by omega) (by omega) (by omega)]; exact k6
  · rw [sg_come_R]
    by_cases q : e = gE g
    · rw [if_pos q, q]; exact w6
    · rw [if_neg q]; exact v6 e (by omega)
  · rw [mq 7 (by omega) (by omega) (by omega) (by omega) (by omega)]; exact k7
  · rw [sg_come_R] at hk ⊢
    by_cases q : e = gE g
    · rw [if_pos q] at hk ⊢
      rw [q]; exact w7 k hk
    · rw [if_neg q] at hk ⊢
      exact v7 e (by omega) k hk
  · rw [sg_come_P]
    by_cases q : e = gE g
    · rw [if_pos q]
      by_cases q2 : y = s
      · rw [if_pos q2, q, q2, pk_us]
      · rw [if_neg q2, q, pk_un (by omega)]
        exact w8 y hy
    · rw [if_neg q, pk_un (by omega)]
      exact v8 e (by omega) y hy
  · rw [mq 9 (by omega) (by omega) (by omega) (by omega) (by omega)]; exact h.a9
  · rw [mq 10 (by omega) (by omega) (by omega) (by omega) (by omega)]; exact h.a10
  · by_cases q : t = s
    · subst q
      refine ⟨_, mr, fun _ k hk => ?_⟩
      rw [sg_come_C, if_pos rfl] at hk
      rw [sg_come_T]
      by_cases q2 : k = gC g t
      · rw [if_pos ⟨rfl, q2⟩, q2, pk_us]
      · rw [if_neg (fun z => q2 z.2), pk_un q2]
        exact vr hs k (by omega)
    · rw [mq (11 + t) (by omega) (by omega) (by omega) (by omega) (by omega)]
      obtain ⟨f, hf, hv⟩ := h.a11 ht
      refine ⟨f, hf, fun ht2 k hk => ?_⟩
      rw [sg_come_C, if_neg q] at hk
      rw [sg_come_T, if_neg (fun z => q z.1)]
      exact hv ht2 k hk
theorem lm_comeZ {x : sp_X} {k n : Nat} {v2 v3 v5 : Int32} (hh : cxM_come κ x mc ms) (hk : k ≤ mc ∧ n ≤ ms) (h : md_R κ g Y c th μ) (hN : md_N κ g Y s ps μ) (hs : s < gA g) (hE : gE g < 8192) (hC : gC g s < yn Y s) (hC2 : gC g s < 8192) (hps : ps.length ≤ 16) (hI' : sg_I (sg_come g s ps))
    (hR : ∀ μ', md_R κ (sg_come g s ps) Y c th μ' → (∀ q, ¬ md_own Y q → μ' q = μ q) → μ' (ya Y 9) = μ (ya Y 9) → Rt none μ') :
    sp_w κ x (sp_F κ x Rt Xt mc ms) k n 292 [(0, .ref (ya Y 0)), (1, .int (nI s)), (2, .int v2), (3, .int v3), (4, .int (nI (gE g))), (5, .int v5)] [] μ := by
  have h16 := h.I.a
  have nn : ∀ i j, i < 27 → j < 27 → i ≠ j → ya Y i ≠ ya Y j := fun i j hi hj hij => h.ne hi hj hij
  obtain ⟨f2, k2, v2', -⟩ := h.a2
  obtain ⟨f3, k3, v3'⟩ := h.a3
  obtain ⟨f8, k8, v8⟩ := h.a8
  obtain ⟨fr, kr, vr⟩ := h.a11 (s := s) (by omega)
  refine bkM_come_292 hh hk ⟨_, h.o, some (ya Y 3), rfl, _, rfl, _, _, k3, s, rfl, by omega, _, v3' s (by omega), some (ya Y 2), rfl, _, rfl, _, _, k2, s, rfl, by omega, _, rfl, _, _, kr, _, v2' s hs, hC, fun μ1 e1 => ?_⟩
  have a1 : ∀ i, i < 27 → i ≠ 11 + s → μ1 (ya Y i) = μ (ya Y i) := fun i hi hne => by rw [e1]; exact va_up_ne _ _ (nn i (11 + s) hi (by omega) hne)
  refine ⟨_, (a1 0 (by omega) (by omega)).trans h.o, some (ya Y 2), rfl, _, rfl, _, _, (a1 2 (by omega) (by omega)).trans k2, s, rfl, by omega, s, rfl, by omega, fun μ2 e2 => ?_⟩
  have a2 : ∀ i, i < 27 → i ≠ 2 → μ2 (ya Y i) = μ1 (ya Y i) := fun i hi hne => by rw [e2]; exact va_up_ne _ _ (nn i 2 hi (by omega) hne)
  have b2 : μ2 (ya Y 2) = some (sp_ia κ 16 (upd f2 s (nI (gC g s + 1)))) := by
    rw [e2, va_up_self, v2' s hs, nI_1]
  have eu : upd f2 s (nI (gC g s + 1)) s = nI (gC g s + 1) := pk_us
  refine ⟨_, (a2 0 (by omega) (by omega)).trans ((a1 0 (by omega) (by omega)).trans h.o), some (ya Y 8), rfl, some (ya Y 2), rfl, _, rfl, _, _, b2, s, rfl, by omega, _, rfl, _, _, (a2 8 (by omega) (by omega)).trans ((a1 8 (by omega) (by omega)).trans k8), _, si_16 (gE g) s, by omega, fun μ3 e3 => ?_⟩
  rw [eu, sn_sh2 (by omega)] at e3
  have a3 : ∀ i, i < 27 → i ≠ 8 → μ3 (ya Y i) = μ2 (ya Y i) := fun i hi hne => by rw [e3]; exact va_up_ne _ _ (nn i 8 hi (by omega) hne)
  refine ⟨_, (a3 0 (by omega) (by omega)).trans ((a2 0 (by omega) (by omega)).trans ((a1 0 (by omega) (by omega)).trans h.o)), _, rfl, (by decide : 9 < 14), fun μ4 e4 => ?_⟩
  rw [nI_1] at e4
  have a4 : ∀ i, i < 27 → i ≠ 0 → μ4 (ya Y i) = μ3 (ya Y i) := fun i hi hne => by rw [e4]; exact va_up_ne _ _ (nn i 0 hi (by omega) hne)
  refine hR μ4 (md_fin h hN hs hE hC hps hI' k2 kr k8 ?_ ?_ ?_ ?_ (fun i hi n0 n2 n8 nr => ?_)) (fun q hq => ?_) ?_
  · rw [e4, va_up_self]; rfl
  · rw [a4 2 (by omega) (by omega), a3 2 (by omega) (by omega)]; exact b2
  · rw [a4 (11 + s) (by omega) (by omega), a3 (11 + s) (by omega) (by omega), a2 (11 + s) (by omega) (by omega), e1, va_up_self]
  · rw [a4 8 (by omega) (by omega), e3, va_up_self]
  · rw [a4 i hi n0, a3 i hi n8, a2 i hi n2, a1 i hi nr]
  · have nq : ∀ i, i < 27 → q ≠ ya Y i := fun i hi z => hq ⟨i, hi, z⟩
    rw [e4, va_up_ne _ _ (nq 0 (by omega)), e3, va_up_ne _ _ (nq 8 (by omega)), e2, va_up_ne _ _ (nq 2 (by omega)), e1, va_up_ne _ _ (nq (11 + s) (by omega))]
  · rw [a4 9 (by omega) (by omega), a3 9 (by omega) (by omega), a2 9 (by omega) (by omega), a1 9 (by omega) (by omega)]
/-- the five rows of the events, their used parts as they were -/
theorem md_R.five (h : md_R κ g Y c th μ) (mq : ∀ i, i < 27 → (i < 4 ∨ 8 < i) → μ' (ya Y i) = μ (ya Y i)) {f4 f5 f6 f7 f8 : Nat → Int32}
    (k4 : μ' (ya Y 4) = some (sp_sa κ 8192 f4)) (v4 : ∀ e, e < gE g → f4 e = nI (gS g e)) (k5 : μ' (ya Y 5) = some (sp_sa κ 8192 f5)) (v5 : ∀ e, e < gE g → f5 e = nI (gN g e)) (k6 : μ' (ya Y 6) = some (sp_sa κ 8192 f6)) (v6 : ∀ e, e < gE g → f6 e = nI (gR g e).length)
    (k7 : μ' (ya Y 7) = some (sp_sa κ 131072 f7)) (v7 : ∀ e, e < gE g → ∀ k, k < (gR g e).length → f7 (16 * e + k) = nI ((gR g e).getD k 0)) (k8 : μ' (ya Y 8) = some (sp_sa κ 131072 f8)) (v8 : ∀ e, e < gE g → ∀ x, x < 16 → f8 (16 * e + x) = nI (gP g e x)) : md_R κ g Y c th μ' := by
  refine ⟨h.1, ?_, ?_, ?_, ?_, ⟨_, k4, v4⟩, ⟨_, k5, v5⟩, ⟨_, k6, v6⟩, ⟨_, k7, v7⟩, ⟨_, k8, v8⟩, ?_, ?_, fun s hs => ?_⟩
  · rw [mq 0 (by omega) (by omega)]; exact h.o
  · rw [mq 1 (by omega) (by omega)]; exact h.a1
  · rw [mq 2 (by omega) (by omega)]; exact h.a2
  · rw [mq 3 (by omega) (by omega)]; exact h.a3
  · rw [mq 9 (by omega) (by omega)]; exact h.a9
  · rw [mq 10 (by omega) (by omega)]; exact h.a10
  · rw [mq (11 + s) (by omega) (by omega)]; exact h.a11 hs
/-- a row is doubled -/
theorem md_grow (h : md_R κ g Y c th μ) (hs : s < 16) {q M : Nat} {f3 : Nat → Option Nat} {fr f' : Nat → Int32} (k3 : μ (ya Y 3) = some (sp_ra κ 5 16 f3)) (v3 : ∀ t, t < 16 → f3 t = some (ya Y (11 + t))) (kr : μ (ya Y (11 + s)) = some (sp_ia κ (yn Y s) fr)) (hz : μ q = none) (hM : yn Y s ≤ M ∧ M ≤ 16384) (hf : ∀ j, j < yn Y s → f' j = fr j)
    (m3 : μ' (ya Y 3) = some (sp_ra κ 5 16 (va_up f3 s (some q)))) (mr : μ' q = some (sp_ia κ M f')) (mq : ∀ z, z ≠ ya Y 3 → z ≠ q → μ' z = μ z) :
    md_R κ g (va_up (ya Y) (11 + s) q, va_up (yn Y) s M) c th μ' := by
  have hqn : ∀ i, i < 27 → ya Y i ≠ q := fun i hi e => by
    have := h.iss ⟨i, hi, rfl⟩
    rw [e, hz] at this
    cases this
  have nn : ∀ i j, i < 27 → j < 27 → i ≠ j → ya Y i ≠ ya Y j := fun i j hi hj hij => h.ne hi hj hij
  have yA : ∀ i, i ≠ 11 + s → ya (va_up (ya Y) (11 + s) q, va_up (yn Y) s M) i = ya Y i := fun i hi => va_up_ne _ _ hi
  have yB : ya (va_up (ya Y) (11 + s) q, va_up (yn Y) s M) (11 + s) = q := va_up_self _ _ _
  have mi : ∀ i, i < 27 → i ≠ 3 → i ≠ 11 + s → μ' (ya (va_up (ya Y) (11 + s) q, va_up (yn Y) s M) i) = μ (ya Y i) := fun i hi h3 hr => by
    rw [yA i hr]
    exact mq _ (nn i 3 hi (by omega) h3) (hqn i hi)
  have nb := h.nb hs
  refine ⟨⟨h.I, h.1.2.1, h.l16, fun t ht => ?_, fun t ht => ?_, fun i j hi hj e => ?_⟩, ?_, ?_, ?_, ⟨va_up f3 s (some q), ?_, fun t ht => ?_⟩, ?_, ?_, ?_, ?_, ?_, ?_, ?_, fun t ht => ?_⟩
  · show gC g t ≤ va_up (yn Y) s M t
    by_cases q1 : t = s
    · subst q1
      rw [va_up_self]
      have := h.cn ht
      omega
    · rw [va_up_ne _ _ q1]; exact h.cn ht
  · show 8 ≤ va_up (yn Y) s M t ∧ va_up (yn Y) s M t ≤ 16384
    by_cases q1 : t = s
    · subst q1
      rw [va_up_self]
      omega
    · rw [va_up_ne _ _ q1]; exact h.nb ht
  · by_cases q1 : i = 11 + s
    · by_cases q2 : j = 11 + s
      · omega
      · rw [q1, yB, yA j q2] at e
        exact absurd e.symm (hqn j hj)
    · by_cases q2 : j = 11 + s
      · rw [q2, yB, yA i q1] at e
        exact absurd e (hqn i hi)
      · rw [yA i q1, yA j q2] at e
        exact h.j i j hi hj e
  · rw [mi 0 (by omega) (by omega) (by omega), h.o]
    show some (md_obj g Y c th) = some (md_obj g (va_up (ya Y) (11 + s) q, va_up (yn Y) s M) c th)
    unfold md_obj
    rw [yA 1 (by omega), yA 2 (by omega), yA 3 (by omega), yA 4 (by omega), yA 5 (by omega), yA 6 (by omega), yA 7 (by omega), yA 8 (by omega), yA 9 (by omega), yA 10 (by omega)]
  · rw [mi 1 (by omega) (by omega) (by omega)]; exact h.a1
  · rw [mi 2 (by omega) (by omega) (by omega)]; exact h.a2
  · rw [yA 3 (by omega)]; exact m3
  · by_cases q1 : t = s
    · rw [q1, va_up_self, yB]
    · rw [va_up_ne _ _ q1, yA _ (by omega)]; exact v3 t ht
  · rw [mi 4 (by omega) (by omega) (by omega)]; exact h.a4
  · rw [mi 5 (by omega) (by omega) (by omega)]; exact h.a5
  · rw [mi 6 (by omega) (by omega) (by omega)]; exact h.a6
  · rw [mi 7 (by omega) (by omega) (by omega)]; exact h.a7
  · rw [mi 8 (by omega) (by omega) (by omega)]; exact h.a8
  · rw [mi 9 (by omega) (by omega) (by omega)]; exact h.a9
  · rw [mi 10 (by omega) (by omega) (by omega)]; exact h.a10
  · by_cases q1 : t = s
    · subst q1
      rw [yB]
      show ∃ f, μ' q = some (sp_ia κ (va_up (yn Y) t M t) f) ∧ _
      rw [va_up_self]
      refine ⟨f', mr, fun ht2 k hk => ?_⟩
      obtain ⟨fr', kr', vr⟩ := h.a11 ht
      obtain rfl := ia_inj (kr'.symm.trans kr)
      rw [hf k (Nat.lt_of_lt_of_le hk (h.cn ht2))]
      exact vr ht2 k hk
    · rw [mi (11 + t) (by omega) (by omega) (by omega)]
      show ∃ f, μ (ya Y (11 + t)) = some (sp_ia κ (va_up (yn Y) s M t) f) ∧ _
      rw [va_up_ne _ _ q1]
      exact h.a11 ht
end
