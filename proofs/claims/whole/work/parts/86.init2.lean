/-! the reference's constructor -/
def mi (ρ : Nat → Nat) (D : Nat → Prop) (e : Nat → va_E) (fs : List Value) (μ0 μ : sp_M) : Prop :=
  D 0 ∧ μ (ρ 0) = some (.inr (3, fs)) ∧ (∀ i j, D i → D j → ρ i = ρ j → i = j) ∧ (∀ i, D i → i ≠ 0 → μ (ρ i) = some (e i) ∧ μ0 (ρ i) = none) ∧ ∀ z, (∀ i, D i → z ≠ ρ i) → μ z = μ0 z
section
variable {κ : sp_K} {ρ : Nat → Nat} {D : Nat → Prop} {e : Nat → va_E} {fs : List Value} {μ0 μ μ' : sp_M}
theorem mi.ne (h : mi ρ D e fs μ0 μ) {q i : Nat} (hz : μ q = none) (hi : D i) : ρ i ≠ q := by
  intro e'
  by_cases h0 : i = 0
  · subst h0
    have := h.2.1
    rw [e', hz] at this
    cases this
  · have := (h.2.2.2.1 i hi h0).1
    rw [e', hz] at this
    cases this
theorem mi.new (h : mi ρ D e fs μ0 μ) {r q : Nat} {e0 : va_E} (hr : ¬ D r) (hz : μ q = none) (e1 : μ' = va_up μ q (some e0)) : mi (va_up ρ r q) (fun i => D i ∨ i = r) (va_up e r e0) fs μ0 μ' := by
  have nr : ∀ i, D i → i ≠ r := fun i hi q => hr (q ▸ hi)
  have nq : ∀ i, D i → ρ i ≠ q := fun i hi => h.ne hz hi
  have r0 : r ≠ 0 := fun q => hr (q ▸ h.1)
  have hz0 : μ0 q = none := (h.2.2.2.2 q (fun i hi => Ne.symm (nq i hi))).symm.trans hz
  subst e1
  refine ⟨Or.inl h.1, ?_, ?_, ?_, ?_⟩
  · rw [va_up_ne _ _ (Ne.symm r0), va_up_ne _ _ (nq 0 h.1)]
    exact h.2.1
  · intro i j hi hj e'
    rcases hi with hi | hi <;> rcases hj with hj | hj
    · rw [va_up_ne _ _ (nr i hi), va_up_ne _ _ (nr j hj)] at e'
      exact h.2.2.1 i j hi hj e'
    · rw [hj, va_up_ne _ _ (nr i hi), va_up_self] at e'
      exact absurd e' (nq i hi)
    · rw [hi, va_up_ne _ _ (nr j hj), va_up_self] at e'
      exact absurd e'.symm (nq j hj)
    · rw [hi, hj]
  · intro i hi h0
    rcases hi with hi | hi
    · rw [va_up_ne _ _ (nr i hi), va_up_ne _ _ (nr i hi), va_up_ne _ _ (nq i hi)]
      exact h.2.2.2.1 i hi h0
    · rw [hi, va_up_self, va_up_self, va_up_self]
      exact ⟨rfl, hz0⟩
  · intro z hz'
    have n1 : z ≠ q := fun e' => hz' r (Or.inr rfl) (by rw [va_up_self]; exact e')
    rw [va_up_ne _ _ n1]
    refine h.2.2.2.2 z (fun i hi => ?_)
    have := hz' i (Or.inl hi)
    rw [va_up_ne _ _ (nr i hi)] at this
    exact this
theorem mi.put (h : mi ρ D e fs μ0 μ) {fs' : List Value} (e1 : μ' = va_up μ (ρ 0) (some (.inr (3, fs')))) : mi ρ D e fs' μ0 μ' := by
  subst e1
  refine ⟨h.1, va_up_self _ _ _, h.2.2.1, fun i hi h0 => ?_, fun z hz => ?_⟩
  · rw [va_up_ne _ _ (fun q => h0 (h.2.2.1 i 0 hi h.1 q))]
    exact h.2.2.2.1 i hi h0
  · rw [va_up_ne _ _ (hz 0 h.1)]
    exact h.2.2.2.2 z hz
theorem mi.rows (h : mi ρ D e fs μ0 μ) {q M N : Nat} (hz : ∀ z, q < z → μ z = none) (hD : ∀ j, j < N → ¬ D (11 + j)) : ∀ j, j ≤ N → ∃ ρ' e', mi ρ' (fun i => D i ∨ (11 ≤ i ∧ i < 11 + j)) e' fs μ0 (sm_rows κ M q μ j) ∧ (∀ i, i < 11 → ρ' i = ρ i ∧ e' i = e i) ∧ ∀ t, t < j → ρ' (11 + t) = q + 1 + t ∧ e' (11 + t) = sp_ia κ M (fun _ => 0) := by
  intro j
  induction j with
  | zero =>
    intro _
    refine ⟨ρ, e, ?_, fun i _ => ⟨rfl, rfl⟩, fun t ht => absurd ht (Nat.not_lt_zero _)⟩
    obtain ⟨h1, h2, h3, h4, h5⟩ := h
    refine ⟨Or.inl h1, h2, fun i j hi hj => h3 i j (hi.elim id (fun q => by omega)) (hj.elim id (fun q => by omega)), fun i hi => h4 i (hi.elim id (fun q => by omega)), fun z hz => h5 z (fun i hi => hz i (Or.inl hi))⟩
  | succ j ih =>
    intro hj
    obtain ⟨ρ', e', h', g1, g2⟩ := ih (by omega)
    have hn := h'.new (r := 11 + j) (q := q + 1 + j) (e0 := sp_ia κ M (fun _ => 0)) (μ' := sm_rows κ M q μ (j + 1)) (by
      rintro (q1 | q1)
      · exact hD j (by omega) q1
      · omega) (by rw [sm_rows_old j (by omega)]; exact hz _ (by omega)) rfl
    refine ⟨va_up ρ' (11 + j) (q + 1 + j), va_up e' (11 + j) (sp_ia κ M (fun _ => 0)), ?_, fun i hi => ?_, fun t ht => ?_⟩
    · obtain ⟨h1, h2, h3, h4, h5⟩ := hn
      have cv : ∀ i, (D i ∨ 11 ≤ i ∧ i < 11 + (j + 1)) ↔ ((D i ∨ 11 ≤ i ∧ i < 11 + j) ∨ i = 11 + j) := fun i => by
        constructor
        · rintro (q | q)
          · exact Or.inl (Or.inl q)
          · by_cases q2 : i = 11 + j
            · exact Or.inr q2
            · exact Or.inl (Or.inr (by omega))
        · rintro ((q | q) | q)
          · exact Or.inl q
          · exact Or.inr (by omega)
          · exact Or.inr (by omega)
      exact ⟨(cv 0).mpr h1, h2, fun i j hi hj => h3 i j ((cv i).mp hi) ((cv j).mp hj), fun i hi => h4 i ((cv i).mp hi), fun z hz => h5 z (fun i hi => hz i ((cv i).mpr hi))⟩
    · rw [va_up_ne _ _ (by omega), va_up_ne _ _ (by omega)]
      exact g1 i hi
    · by_cases q1 : t = j
      · subst q1
        rw [va_up_self, va_up_self]
        exact ⟨rfl, rfl⟩
      · rw [va_up_ne _ _ (by omega), va_up_ne _ _ (by omega)]
        exact g2 t (by omega)
end
section
variable {l : Launch} {κ : sp_K} {μ : sp_M} {mc ms : Nat} {Rt : Option Value → sp_M → Prop} {Xt : String → sp_M → Prop}
theorem cm_init (htr : l.stackTraces = false) {a : Nat} (ho : μ a = some (.inr (3, [.null, .null, .int 0, .null, .null, .null, .null, .null, .null, .int 0, .null, .int 0, .null, .int 0]))) (hr : 26 ≤ mc ∧ 286928 ≤ ms)
    (hR : ∀ Y μ', md_T κ sg_0 Y [] 0 μ' → ya Y 0 = a → (∀ t, yn Y t = 8) → (∀ z, ¬ md_own Y z → μ' z = μ z) → (∀ z, md_own Y z → z = a ∨ μ z = none) → Rt none μ') : sp_m l κ yM_init wM_init 1 22 mc ms [.ref a] μ Rt Xt := by
  have i0 : mi (fun _ => a) (fun i => i = 0) (fun _ => .inr (0, [])) [.null, .null, .int 0, .null, .null, .null, .null, .null, .null, .int 0, .null, .int 0, .null, .int 0] μ μ :=
    ⟨rfl, ho, fun i j hi hj _ => hi.trans hj.symm, fun i hi h0 => absurd hi h0, fun _ _ => rfl⟩
  refine opM_init htr (fun x hx hh => bkM_init_0 hh z2 ⟨16, rfl, by omega, by omega, fun q1 z1 μ1 e1 => ?_⟩)
  have i1 := i0.new (r := 1) (by omega) z1 e1
  refine ⟨_, i1.2.1, (by decide : 0 < 14), fun μ2 e2 => ?_⟩
  have i2 := i1.put e2
  refine ⟨16, rfl, by omega, by omega, fun q2 z2' μ3 e3 => ?_⟩
  have i3 := i2.new (r := 2) (by omega) z2' e3
  refine ⟨_, i3.2.1, (by decide : 1 < 14), fun μ4 e4 => ?_⟩
  have i4 := i3.put e4
  refine ⟨16, 8, rfl, rfl, by omega, by omega, by omega, fun q3 z3 f3 hf3 μ5 e5 => ?_⟩
  have i5 := i4.new (r := 3) (e0 := sp_ra κ 5 16 f3) (by omega) (z3 q3 (Nat.le_refl _)) rfl
  obtain ⟨ρ, ee, i6, g1, g2⟩ := i5.rows (κ := κ) (q := q3) (M := 8) (N := 16) (fun z hz => by rw [va_up_ne _ _ (by omega)]; exact z3 z (by omega)) (fun j hj => by omega) 16 (Nat.le_refl _)
  rw [← e5] at i6
  have r0 : ρ 0 = a := (g1 0 (by omega)).1
  have r1 : ρ 1 = q1 := (g1 1 (by omega)).1
  have r2 : ρ 2 = q2 := (g1 2 (by omega)).1
  have r3 : ρ 3 = q3 := (g1 3 (by omega)).1
  have t1 : ee 1 = sp_ia κ 16 (fun _ => 0) := (g1 1 (by omega)).2
  have t2 : ee 2 = sp_ia κ 16 (fun _ => 0) := (g1 2 (by omega)).2
  have t3 : ee 3 = sp_ra κ 5 16 f3 := (g1 3 (by omega)).2
  have w6 := i6.2.1
  rw [r0] at w6
  refine ⟨_, w6, (by decide : 3 < 14), fun μ6 e6 => ?_⟩
  have i7 := i6.put (μ' := μ6) (by rw [r0]; exact e6)
  refine ⟨8192, rfl, by omega, by omega, fun q4 z4 μ7 e7 => ?_⟩
  have i8 := i7.new (r := 4) (by omega) z4 e7
  have w8 := i8.2.1
  rw [show va_up ρ 4 q4 0 = a from r0] at w8
  refine ⟨_, w8, (by decide : 4 < 14), fun μ8 e8 => ?_⟩
  have i9 := i8.put (μ' := μ8) (by rw [show va_up ρ 4 q4 0 = a from r0]; exact e8)
  refine ⟨8192, rfl, by omega, by omega, fun q5 z5 μ9 e9 => ?_⟩
  have i10 := i9.new (r := 5) (by omega) z5 e9
  have w10 := i10.2.1
  rw [show va_up (va_up ρ 4 q4) 5 q5 0 = a from r0] at w10
  refine ⟨_, w10, (by decide : 5 < 14), fun μ10 e10 => ?_⟩
  have i11 := i10.put (μ' := μ10) (by rw [show va_up (va_up ρ 4 q4) 5 q5 0 = a from r0]; exact e10)
  refine ⟨8192, rfl, by omega, by omega, fun q6 z6 μ11 e11 => ?_⟩
  have i12 := i11.new (r := 6) (by omega) z6 e11
  have w12 := i12.2.1
  rw [show va_up (va_up (va_up ρ 4 q4) 5 q5) 6 q6 0 = a from r0] at w12
  refine ⟨_, w12, (by decide : 6 < 14), fun μ12 e12 => ?_⟩
  have i13 := i12.put (μ' := μ12) (by rw [show va_up (va_up (va_up ρ 4 q4) 5 q5) 6 q6 0 = a from r0]; exact e12)
  refine ⟨131072, rfl, by omega, by omega, fun q7 z7 μ13 e13 => ?_⟩
  have i14 := i13.new (r := 7) (by omega) z7 e13
  have w14 := i14.2.1
  rw [show va_up (va_up (va_up (va_up ρ 4 q4) 5 q5) 6 q6) 7 q7 0 = a from r0] at w14
  refine ⟨_, w14, (by decide : 7 < 14), fun μ14 e14 => ?_⟩
  have i15 := i14.put (μ' := μ14) (by rw [show va_up (va_up (va_up (va_up ρ 4 q4) 5 q5) 6 q6) 7 q7 0 = a from r0]; exact e14)
  refine ⟨131072, rfl, by omega, by omega, fun q8 z8 μ15 e15 => ?_⟩
  have i16 := i15.new (r := 8) (by omega) z8 e15
  have w16 := i16.2.1
  rw [show va_up (va_up (va_up (va_up (va_up ρ 4 q4) 5 q5) 6 q6) 7 q7) 8 q8 0 = a from r0] at w16
  refine ⟨_, w16, (by decide : 8 < 14), fun μ16 e16 => ?_⟩
  have i17 := i16.put (μ' := μ16) (by rw [show va_up (va_up (va_up (va_up (va_up ρ 4 q4) 5 q5) 6 q6) 7 q7) 8 q8 0 = a from r0]; exact e16)
  refine ⟨16, rfl, by omega, by omega, fun q9 z9 μ17 e17 => ?_⟩
  have i18 := i17.new (r := 9) (by omega) z9 e17
  have w18 := i18.2.1
  rw [show va_up (va_up (va_up (va_up (va_up (va_up ρ 4 q4) 5 q5) 6 q6) 7 q7) 8 q8) 9 q9 0 = a from r0] at w18
  refine ⟨_, w18, (by decide : 10 < 14), fun μ18 e18 => ?_⟩
  have i19 := i18.put (μ' := μ18) (by rw [show va_up (va_up (va_up (va_up (va_up (va_up ρ 4 q4) 5 q5) 6 q6) 7 q7) 8 q8) 9 q9 0 = a from r0]; exact e18)
  refine ⟨16, rfl, by omega, by omega, fun q10 z10 μ19 e19 => ?_⟩
  have i20 := i19.new (r := 10) (by omega) z10 e19
  have w20 := i20.2.1
  rw [show va_up (va_up (va_up (va_up (va_up (va_up (va_up ρ 4 q4) 5 q5) 6 q6) 7 q7) 8 q8) 9 q9) 10 q10 0 = a from r0] at w20
  refine ⟨_, w20, (by decide : 12 < 14), fun μ20 e20 => ?_⟩
  have i21 := i20.put (μ' := μ20) (by rw [show va_up (va_up (va_up (va_up (va_up (va_up (va_up ρ 4 q4) 5 q5) 6 q6) 7 q7) 8 q8) 9 q9) 10 q10 0 = a from r0]; exact e20)
  obtain ⟨-, m1, m2, m3, m4⟩ := i21
  have dd : ∀ i, i < 27 → ((((((((((((i = 0 ∨ i = 1) ∨ i = 2) ∨ i = 3) ∨ 11 ≤ i ∧ i < 11 + 16) ∨ i = 4) ∨ i = 5) ∨ i = 6) ∨ i = 7) ∨ i = 8) ∨ i = 9) ∨ i = 10)) := fun i hi => by omega
  have ge : ∀ i, i < 27 → i ≠ 0 → _ := fun i hi h0 => (m3 i (dd i hi) h0).1
  refine hR (va_up (va_up (va_up (va_up (va_up (va_up (va_up ρ 4 q4) 5 q5) 6 q6) 7 q7) 8 q8) 9 q9) 10 q10, fun _ => 8) μ20 ⟨⟨⟨sg_0_I, fun e he => absurd he (Nat.not_lt_zero _), by simp, fun s hs => absurd hs (Nat.not_lt_zero _), fun s hs => ⟨Nat.le_refl _, by show 8 ≤ 16384; omega⟩, fun i j hi hj => m2 i j (dd i hi) (dd j hj)⟩, ?_, ?_⟩, fun s hs => absurd hs (Nat.not_lt_zero _), fun e he => by simp at he, List.nodup_nil, fun _ => 0, ?_, fun j hj => by simp at hj⟩ r0 (fun _ => rfl) (fun z hz => m4 z (fun i hi => fun q => hz ⟨i, by omega, q⟩)) (fun z hz => ?_)
  · refine m1.trans ?_
    show some (Sum.inr (3, [Value.ref q1, .ref q2, .int 0, .ref q3, .ref q4, .ref q5, .ref q6, .ref q7, .ref q8, .int 0, .ref q9, .int 0, .ref q10, .int 0])) = some (Sum.inr (3, [Value.ref (ρ 1), .ref (ρ 2), .int 0, .ref (ρ 3), .ref q4, .ref q5, .ref q6, .ref q7, .ref q8, .int 0, .ref q9, .int 0, .ref q10, .int 0]))
    rw [r1, r2, r3]
  · refine ⟨⟨fun _ => 0, ?_, fun s hs => absurd hs (Nat.not_lt_zero _)⟩, ⟨fun _ => 0, ?_, fun s hs => absurd hs (Nat.not_lt_zero _), fun _ _ _ => rfl⟩, ⟨f3, ?_, fun s hs => ?_⟩, ⟨_, ge 4 (by omega) (by omega), fun e he => absurd he (Nat.not_lt_zero _)⟩, ⟨_, ge 5 (by omega) (by omega), fun e he => absurd he (Nat.not_lt_zero _)⟩, ⟨_, ge 6 (by omega) (by omega), fun e he => absurd he (Nat.not_lt_zero _)⟩, ⟨_, ge 7 (by omega) (by omega), fun e he => absurd he (Nat.not_lt_zero _)⟩, ⟨_, ge 8 (by omega) (by omega), fun e he => absurd he (Nat.not_lt_zero _)⟩, ⟨_, ge 9 (by omega) (by omega)⟩, ⟨_, ge 10 (by omega) (by omega)⟩, fun s hs => ⟨fun _ => 0, ?_, fun h => absurd h (Nat.not_lt_zero _)⟩⟩
    · refine (ge 1 (by omega) (by omega)).trans ?_
      show some (ee 1) = _
      rw [t1]
    · refine (ge 2 (by omega) (by omega)).trans ?_
      show some (ee 2) = _
      rw [t2]
    · refine (ge 3 (by omega) (by omega)).trans ?_
      show some (ee 3) = _
      rw [t3]
    · rw [hf3 s hs]
      congr 1
      have e11 : ∀ (v : Nat → Nat) (k q : Nat), k < 11 → va_up v k q (11 + s) = v (11 + s) := fun v k q hk => va_up_ne _ _ (by omega)
      show q3 + 1 + s = va_up (va_up (va_up (va_up (va_up (va_up (va_up ρ 4 q4) 5 q5) 6 q6) 7 q7) 8 q8) 9 q9) 10 q10 (11 + s)
      rw [e11 _ 10 _ (by omega), e11 _ 9 _ (by omega), e11 _ 8 _ (by omega), e11 _ 7 _ (by omega), e11 _ 6 _ (by omega), e11 _ 5 _ (by omega), e11 _ 4 _ (by omega)]
      exact (g2 s hs).1.symm
    · refine (ge (11 + s) (by omega) (by omega)).trans ?_
      have e11 : ∀ (v : Nat → va_E) (k : Nat) (q : va_E), k < 11 → va_up v k q (11 + s) = v (11 + s) := fun v k q hk => va_up_ne _ _ (by omega)
      rw [e11 _ 10 _ (by omega), e11 _ 9 _ (by omega), e11 _ 8 _ (by omega), e11 _ 7 _ (by omega), e11 _ 6 _ (by omega), e11 _ 5 _ (by omega), e11 _ 4 _ (by omega)]
      rw [(g2 s hs).2]
      rfl
  · exact ge 9 (by omega) (by omega)
  · obtain ⟨i, hi, rfl⟩ := hz
    by_cases h0 : i = 0
    · subst h0; exact Or.inl r0
    · exact Or.inr (m3 i (dd i hi) h0).2
end
