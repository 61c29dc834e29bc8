/-! the class's constructor -/
/-- no event, no agent -/
def sg_0 : sg_G := (0, 0, fun _ => 0, fun _ => 0, fun _ _ => 0, fun _ => [], fun _ => 0, fun _ => 0, fun _ _ => 0)
theorem sg_0_I : sg_I sg_0 := by
  have eE : gE sg_0 = 0 := rfl
  have eA : gA sg_0 = 0 := rfl
  refine ⟨⟨by decide, by decide⟩, ?_, ?_, ?_, ?_, ?_, ?_, ?_, ?_, ?_⟩ <;> (intros; simp only [eE, eA] at *; omega)
section
variable {l : Launch} {κ : sp_K} {μ : sp_M} {mc ms : Nat} {Rt : Option Value → sp_M → Prop} {Xt : String → sp_M → Prop}
def sc_X0 (a q1 q2 q3 : Nat) : sc_X := (a, q1, q2, q3, fun _ => 0, fun _ => 0, fun _ => 0, fun _ => 0, 0, fun _ => 0, fun _ => 0, fun _ => 0, fun _ => none)
theorem sc_V0 (a q1 q2 q3 : Nat) : sc_V sg_0 (sc_X0 a q1 q2 q3) [] := by
  have eE : gE sg_0 = 0 := rfl
  have eA : gA sg_0 = 0 := rfl
  have em : xm (sc_X0 a q1 q2 q3) = 0 := rfl
  refine ⟨sg_0_I, ⟨rfl, rfl, ?_, ?_⟩, ?_, ?_, ?_, ?_, ?_, by simp, List.Pairwise.nil, fun e he => by simp at he⟩
  · intro i hi; rw [em] at hi; omega
  · intro i hi; rw [em] at hi; omega
  · intro s hs; rw [eA] at hs; omega
  · intro s hs; rw [eA] at hs; omega
  · intro i hi; rw [em] at hi; omega
  · intro i hi; rw [em] at hi; omega
  · intro s hs; rw [eA] at hs; omega
theorem ct_E_init (htr : l.stackTraces = false) {a : Nat} {w0 w1 w2 w3 w4 w5 w6 : Value} (ho : μ a = some (.inr (2, [w0, w1, w2, w3, w4, w5, w6]))) (hr : 3 ≤ mc ∧ 8464 ≤ ms)
    (hR : ∀ X μ', sc_T κ sg_0 X [] μ' → xh X = a → (∀ z, z ≠ a → ¬ sc_own sg_0 X z → μ' z = μ z) → (∀ z, sc_own sg_0 X z → z = a ∨ μ z = none) → Rt none μ') : sp_m l κ yE_init wE_init 1 22 mc ms [.ref a] μ Rt Xt := by
  refine opE_init htr (fun x hx hh => bkE_init_0 hh z2 ⟨256, rfl, by omega, by omega, fun q1 z1 μ1 e1 => ?_⟩)
  have n1 : a ≠ q1 := fun e => by rw [e, z1] at ho; cases ho
  have o1 : μ1 a = some (.inr (2, [w0, w1, w2, w3, w4, w5, w6])) := by rw [e1, va_up_ne _ _ n1]; exact ho
  refine ⟨_, o1, (by decide : 0 < 7), fun μ2 e2 => ?_⟩
  have o2 : μ2 a = some (.inr (2, [.ref q1, w1, w2, w3, w4, w5, w6])) := by rw [e2, va_up_self]; rfl
  refine ⟨_, o2, (by decide : 1 < 7), fun μ3 e3 => ?_⟩
  have o3 : μ3 a = some (.inr (2, [.ref q1, .int 0, w2, w3, w4, w5, w6])) := by rw [e3, va_up_self]; rfl
  refine ⟨8192, rfl, by omega, by omega, fun q2 zz2 μ4 e4 => ?_⟩
  have n2 : a ≠ q2 := fun e => by rw [e, zz2] at o3; cases o3
  have n12 : q1 ≠ q2 := fun e => by
    rw [← e, e3, va_up_ne _ _ (Ne.symm n1), e2, va_up_ne _ _ (Ne.symm n1), e1, va_up_self] at zz2
    cases zz2
  have y2 : μ q2 = none := by
    rw [e3, va_up_ne _ _ (Ne.symm n2), e2, va_up_ne _ _ (Ne.symm n2), e1, va_up_ne _ _ (Ne.symm n12)] at zz2
    exact zz2
  have o4 : μ4 a = some (.inr (2, [.ref q1, .int 0, w2, w3, w4, w5, w6])) := by rw [e4, va_up_ne _ _ n2]; exact o3
  refine ⟨_, o4, (by decide : 2 < 7), fun μ5 e5 => ?_⟩
  have o5 : μ5 a = some (.inr (2, [.ref q1, .int 0, .ref q2, w3, w4, w5, w6])) := by rw [e5, va_up_self]; rfl
  refine ⟨_, o5, (by decide : 3 < 7), fun μ6 e6 => ?_⟩
  have o6 : μ6 a = some (.inr (2, [.ref q1, .int 0, .ref q2, .int 0, w4, w5, w6])) := by rw [e6, va_up_self]; rfl
  refine ⟨_, o6, (by decide : 4 < 7), fun μ7 e7 => ?_⟩
  have o7 : μ7 a = some (.inr (2, [.ref q1, .int 0, .ref q2, .int 0, .null, w5, w6])) := by rw [e7, va_up_self]; rfl
  refine ⟨16, rfl, by omega, by omega, fun q3 zz3 μ8 e8 => ?_⟩
  have n3 : a ≠ q3 := fun e => by rw [e, zz3] at o7; cases o7
  have m7 : ∀ z, z ≠ a → μ7 z = μ4 z := fun z hz => by rw [e7, va_up_ne _ _ hz, e6, va_up_ne _ _ hz, e5, va_up_ne _ _ hz]
  have m4 : ∀ z, z ≠ a → z ≠ q2 → z ≠ q1 → μ4 z = μ z := fun z hz h2 h1 => by rw [e4, va_up_ne _ _ h2, e3, va_up_ne _ _ hz, e2, va_up_ne _ _ hz, e1, va_up_ne _ _ h1]
  have k1 : μ4 q1 = some (sp_ra κ 3 256 (fun _ => none)) := by rw [e4, va_up_ne _ _ n12, e3, va_up_ne _ _ (Ne.symm n1), e2, va_up_ne _ _ (Ne.symm n1), e1, va_up_self]
  have k2 : μ4 q2 = some (sp_ra κ 4 8192 (fun _ => none)) := by rw [e4, va_up_self]
  have n13 : q1 ≠ q3 := fun e => by rw [← e, m7 q1 (Ne.symm n1), k1] at zz3; cases zz3
  have n23 : q2 ≠ q3 := fun e => by rw [← e, m7 q2 (Ne.symm n2), k2] at zz3; cases zz3
  have y3 : μ q3 = none := by
    rw [m7 q3 (Ne.symm n3), m4 q3 (Ne.symm n3) (Ne.symm n23) (Ne.symm n13)] at zz3
    exact zz3
  have o8 : μ8 a = some (.inr (2, [.ref q1, .int 0, .ref q2, .int 0, .null, w5, w6])) := by rw [e8, va_up_ne _ _ n3]; exact o7
  refine ⟨_, o8, (by decide : 5 < 7), fun μ9 e9 => ?_⟩
  have o9 : μ9 a = some (.inr (2, [.ref q1, .int 0, .ref q2, .int 0, .null, .ref q3, w6])) := by rw [e9, va_up_self]; rfl
  refine ⟨_, o9, (by decide : 6 < 7), fun μ10 e10 => ?_⟩
  have o10 : μ10 a = some (.inr (2, [.ref q1, .int 0, .ref q2, .int 0, .null, .ref q3, .int 0])) := by rw [e10, va_up_self]; rfl
  have m10 : ∀ z, z ≠ a → z ≠ q3 → μ10 z = μ4 z := fun z hz h3 => by rw [e10, va_up_ne _ _ hz, e9, va_up_ne _ _ hz, e8, va_up_ne _ _ h3, m7 z hz]
  have k3 : μ10 q3 = some (sp_ia κ 16 (fun _ => 0)) := by rw [e10, va_up_ne _ _ (Ne.symm n3), e9, va_up_ne _ _ (Ne.symm n3), e8, va_up_self]
  have k1' : μ10 q1 = some (sp_ra κ 3 256 (fun _ => none)) := (m10 q1 (Ne.symm n1) n13).trans k1
  have k2' : μ10 q2 = some (sp_ra κ 4 8192 (fun _ => none)) := (m10 q2 (Ne.symm n2) n23).trans k2
  refine hR (sc_X0 a q1 q2 q3) μ10 ⟨⟨sc_V0 a q1 q2 q3, o10, ⟨_, k1', fun s hs => absurd hs (Nat.not_lt_zero _), fun _ _ _ => rfl⟩, ⟨_, k2', fun i hi => absurd hi (Nat.not_lt_zero _), fun _ _ _ => rfl⟩, ⟨_, k3, fun j hj => by simp at hj⟩, fun s hs => absurd hs (Nat.not_lt_zero _), fun i hi => absurd hi (Nat.not_lt_zero _), fun i hi => absurd hi (Nat.not_lt_zero _), fun i hi => absurd hi (Nat.not_lt_zero _)⟩, ?_⟩ rfl (fun z h1 h2 => ?_) (fun z hz => ?_)
  · refine ⟨fun z => if z = a then (1, 0) else if z = q1 then (2, 0) else if z = q2 then (3, 0) else (4, 0), if_pos rfl, ?_, ?_, ?_, fun s hs => absurd hs (Nat.not_lt_zero _), fun i hi => absurd hi (Nat.not_lt_zero _)⟩
    · show (if q1 = a then (1, 0) else if q1 = q1 then (2, 0) else if q1 = q2 then (3, 0) else (4, 0)) = _
      rw [if_neg (Ne.symm n1), if_pos rfl]
    · show (if q2 = a then (1, 0) else if q2 = q1 then (2, 0) else if q2 = q2 then (3, 0) else (4, 0)) = _
      rw [if_neg (Ne.symm n2), if_neg (Ne.symm n12), if_pos rfl]
    · show (if q3 = a then (1, 0) else if q3 = q1 then (2, 0) else if q3 = q2 then (3, 0) else (4, 0)) = _
      rw [if_neg (Ne.symm n3), if_neg (Ne.symm n13), if_neg (Ne.symm n23)]
  · have h3 : z ≠ q1 := fun e => h2 (Or.inr (Or.inl e))
    have h4 : z ≠ q2 := fun e => h2 (Or.inr (Or.inr (Or.inl e)))
    have h5 : z ≠ q3 := fun e => h2 (Or.inr (Or.inr (Or.inr (Or.inl e))))
    rw [m10 z h1 h5, m4 z h1 h4 h3]
  · rcases hz with e | e | e | e | ⟨s, hs, -⟩ | ⟨i, hi, -⟩
    · exact Or.inl e
    · exact Or.inr (by rw [e]; exact z1)
    · exact Or.inr (by rw [e]; exact y2)
    · exact Or.inr (by rw [e]; exact y3)
    · exact absurd hs (Nat.not_lt_zero _)
    · exact absurd hi (Nat.not_lt_zero _)
end
