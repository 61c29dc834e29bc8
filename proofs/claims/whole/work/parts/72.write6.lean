/-! what append leaves is the next state -/
/-- the addresses behind an append -/
def ap_X (X : sc_X) (s k E q a1 a2 : Nat) (pv : Option Nat) : sc_X := (xh X, xg X, xp X, xl X, xa X, va_up (xs X) (xm X) q, va_up (xq X) (xm X) a1, va_up (xe X) (xm X) a2, xm X + 1, va_up (xf X) (xm X + 1) (E + k + 1), va_up (xn X) s (xm X), va_up (xb X) s 1, va_up (xv X) (xm X) pv)
section
variable {κ : sp_K} {g : sg_G} {X : sc_X} {P : List Nat} {μ : sp_M} {s k q a1 a2 : Nat} {pv : Option Nat}
theorem ap_xf {i : Nat} (hi : i ≤ xm X) : xf (ap_X X s k (gE g) q a1 a2 pv) i = xf X i := va_up_ne _ _ (by omega)
theorem ap_xf1 : xf (ap_X X s k (gE g) q a1 a2 pv) (xm X + 1) = gE g + k + 1 := va_up_self _ _ _
theorem ap_xs {i : Nat} (hi : i < xm X) : xs (ap_X X s k (gE g) q a1 a2 pv) i = xs X i := va_up_ne _ _ (by omega)
theorem ap_xs1 : xs (ap_X X s k (gE g) q a1 a2 pv) (xm X) = q := va_up_self _ _ _
/-- the value's part -/
theorem ap_V (hI : sg_I g) (hS : sg_S g (xm X) (xf X)) (hs : s < gA g) (hE : gE g + k < 8192) (hPs : P.Pairwise (· < ·)) (hPl : ∀ p ∈ P, p < gE g) (hg : 0 < gC g s → ∃ p ∈ P, gP g p s = gC g s)
    (hc : ∀ t, t < gA g → t ≠ s → 0 < gC g t) (hn : ∀ t, t < gA g → t ≠ s → xn X t < xm X ∧ gS g (xf X (xn X t)) = t ∧ ∀ i, xn X t < i → i < xm X → gS g (xf X i) ≠ t)
    (hp1 : ∀ j, pv = some j → j < xm X ∧ gS g (xf X j) = s) (hp2 : ∀ i, i < xm X → gS g (xf X i) = s → ∃ j, pv = some j ∧ i ≤ j)
    (hv1 : ∀ i, i < xm X → ∀ j, xv X i = some j → j < i ∧ gS g (xf X j) = gS g (xf X i)) (hv2 : ∀ i, i < xm X → ∀ j, j < i → gS g (xf X j) = gS g (xf X i) → ∃ k, xv X i = some k ∧ j ≤ k)
    (hb : ∀ t, t < gA g → t ≠ s → (xb X t = 1 ∧ (sg_hd g t ∧ sg_lt g t ∉ P)) ∨ (xb X t = 0 ∧ ¬ (sg_hd g t ∧ sg_lt g t ∉ P))) : sc_V (sg_ad g s P k) (ap_X X s k (gE g) q a1 a2 pv) [] := by
  have hm : xf X (xm X) = gE g := hS.1
  have Sn : gS (sg_ad g s P k) (xf (ap_X X s k (gE g) q a1 a2 pv) (xm X)) = s := by rw [ap_xf (Nat.le_refl _), hm]; exact sg_ad_S1 (by omega)
  have So : ∀ i, i < xm X → gS (sg_ad g s P k) (xf (ap_X X s k (gE g) q a1 a2 pv) i) = gS g (xf X i) := fun i hi => by rw [ap_xf (by omega)]; exact sg_ad_S0 (hS.lt hi)
  have xvO : ∀ i, i < xm X → xv (ap_X X s k (gE g) q a1 a2 pv) i = xv X i := fun i hi => va_up_ne _ _ (by omega)
  have xvN : xv (ap_X X s k (gE g) q a1 a2 pv) (xm X) = pv := va_up_self _ _ _
  refine ⟨sg_ad_I hI hs hPs hPl hg k hE, sg_ad_Sp hS k, fun t ht => ?_, fun t ht => ?_, fun i hi j hj => ?_, fun i hi j hj hsj => ?_, fun t ht => ?_, by simp, List.Pairwise.nil, fun e he => by simp at he⟩
  · rw [sg_ad_A] at ht
    rw [sg_ad_C]
    by_cases q1 : t = s
    · rw [if_pos q1]; omega
    · rw [if_neg q1]; exact hc t ht q1
  · rw [sg_ad_A] at ht
    show va_up (xn X) s (xm X) t < xm X + 1 ∧ gS _ (xf _ (va_up (xn X) s (xm X) t)) = t ∧ ∀ i, va_up (xn X) s (xm X) t < i → i < xm X + 1 → _
    by_cases q1 : t = s
    · subst q1
      rw [va_up_self]
      exact ⟨by omega, Sn, fun i h1 h2 => by omega⟩
    · rw [va_up_ne _ _ q1]
      obtain ⟨w1, w2, w3⟩ := hn t ht q1
      refine ⟨by omega, by rw [So _ w1]; exact w2, fun i h1 h2 => ?_⟩
      by_cases q2 : i = xm X
      · rw [q2, Sn]; exact Ne.symm q1
      · rw [So i (by omega)]; exact w3 i h1 (by omega)
  · have hi' : i < xm X + 1 := hi
    by_cases q1 : i = xm X
    · subst q1
      rw [xvN] at hj
      obtain ⟨w1, w2⟩ := hp1 j hj
      exact ⟨w1, by rw [Sn, So j w1]; exact w2⟩
    · rw [xvO i (by omega)] at hj
      obtain ⟨w1, w2⟩ := hv1 i (by omega) j hj
      exact ⟨w1, by rw [So i (by omega), So j (by omega)]; exact w2⟩
  · have hi' : i < xm X + 1 := hi
    by_cases q1 : i = xm X
    · subst q1
      rw [xvN]
      rw [Sn, So j hj] at hsj
      exact hp2 j hj hsj
    · rw [xvO i (by omega)]
      rw [So i (by omega), So j (by omega)] at hsj
      exact hv2 i (by omega) j hj hsj
  · rw [sg_ad_A] at ht
    have hd := sg_hd_ad hI hs hPs hPl hg k hE (t := t) ht (fun q1 => hc t ht q1)
    show (va_up (xb X) s 1 t = 1 ∧ _) ∨ (va_up (xb X) s 1 t = 0 ∧ _)
    by_cases q1 : t = s
    · rw [q1, va_up_self]
      rw [q1] at hd
      exact Or.inl ⟨rfl, hd.2 (Or.inl rfl)⟩
    · rw [va_up_ne _ _ q1]
      rcases hb t ht q1 with ⟨w1, w2⟩ | ⟨w1, w2⟩
      · exact Or.inl ⟨w1, hd.2 (Or.inr w2)⟩
      · exact Or.inr ⟨w1, fun z => w2 ((hd.1 z).resolve_left q1)⟩
/-- the roles -/
theorem ap_D (hD : sc_D g X) (hq : ∀ z, sc_own g X z → z ≠ q ∧ z ≠ a1 ∧ z ≠ a2) (h12 : a1 ≠ a2) (hq1 : q ≠ a1) (hq2 : q ≠ a2) : sc_D (sg_ad g s P k) (ap_X X s k (gE g) q a1 a2 pv) := by
  obtain ⟨ρ, r1, r2, r3, r4, r5, r6⟩ := hD
  refine ⟨fun z => if z = q then (6, xm X) else if z = a1 then (7, xm X) else if z = a2 then (8, xm X) else ρ z, ?_⟩
  have kp : ∀ {z : Nat} {r : Nat × Nat}, sc_own g X z → ρ z = r → (if z = q then (6, xm X) else if z = a1 then (7, xm X) else if z = a2 then (8, xm X) else ρ z) = r := by
    intro z r ho hr
    obtain ⟨w1, w2, w3⟩ := hq z ho
    rw [if_neg w1, if_neg w2, if_neg w3]
    exact hr
  refine ⟨kp (Or.inl rfl) r1, kp (Or.inr (Or.inl rfl)) r2, kp (Or.inr (Or.inr (Or.inl rfl))) r3, kp (Or.inr (Or.inr (Or.inr (Or.inl rfl)))) r4, fun t ht => ?_, fun i hi => ?_⟩
  · rw [sg_ad_A] at ht
    exact kp (Or.inr (Or.inr (Or.inr (Or.inr (Or.inl ⟨t, ht, rfl⟩))))) (r5 t ht)
  · have hi' : i < xm X + 1 := hi
    have e1 : xs (ap_X X s k (gE g) q a1 a2 pv) i = va_up (xs X) (xm X) q i := rfl
    have e2 : xq (ap_X X s k (gE g) q a1 a2 pv) i = va_up (xq X) (xm X) a1 i := rfl
    have e3 : xe (ap_X X s k (gE g) q a1 a2 pv) i = va_up (xe X) (xm X) a2 i := rfl
    rw [e1, e2, e3]
    by_cases q1 : i = xm X
    · subst q1
      rw [va_up_self, va_up_self, va_up_self]
      refine ⟨if_pos rfl, ?_, ?_⟩
      · show (if a1 = q then (6, xm X) else if a1 = a1 then (7, xm X) else if a1 = a2 then (8, xm X) else ρ a1) = _
        rw [if_neg (Ne.symm hq1), if_pos rfl]
      · show (if a2 = q then (6, xm X) else if a2 = a1 then (7, xm X) else if a2 = a2 then (8, xm X) else ρ a2) = _
        rw [if_neg (Ne.symm hq2), if_neg (Ne.symm h12), if_pos rfl]
    · rw [va_up_ne _ _ q1, va_up_ne _ _ q1, va_up_ne _ _ q1]
      have hlt : i < xm X := by omega
      obtain ⟨w1, w2, w3⟩ := r6 i hlt
      exact ⟨kp (Or.inr (Or.inr (Or.inr (Or.inr (Or.inr ⟨i, hlt, Or.inl rfl⟩))))) w1, kp (Or.inr (Or.inr (Or.inr (Or.inr (Or.inr ⟨i, hlt, Or.inr (Or.inl rfl)⟩))))) w2, kp (Or.inr (Or.inr (Or.inr (Or.inr (Or.inr ⟨i, hlt, Or.inr (Or.inr rfl)⟩))))) w3⟩
/-- the memory's part -/
theorem ap_M (hI : sg_I g) (hS : sg_S g (xm X) (xf X)) (hs : s < gA g) (hE : gE g + k < 8192) (hPs : P.Pairwise (· < ·)) (hPl : ∀ p ∈ P, p < gE g) (hg : 0 < gC g s → ∃ p ∈ P, gP g p s = gC g s)
    (hn : ∀ t, t < gA g → t ≠ s → xn X t < xm X) (hp1 : ∀ j, pv = some j → j < xm X) (hv1 : ∀ i, i < xm X → ∀ j, xv X i = some j → j < i)
    {f' fsp : Nat → Option Nat} {fP fse : Nat → Int32}
    (hog : ∃ f, μ (xg X) = some (sp_ra κ 3 256 f) ∧ (∀ s, s < gA g → f (gM g s) = some (xa X s)) ∧ ∀ a, a < 256 → (∀ s, s < gA g → gM g s ≠ a) → f a = none)
    (hfs1 : ∀ i, i < xm X → ∀ e, xf X i ≤ e → e < xf X (i + 1) → fsp e = some (xs X i)) (hfs2 : ∀ e, gE g ≤ e → e < 8192 → fsp e = none)
    (hol : ∃ f, μ (xl X) = some (sp_ia κ 16 f)) (hoa : ∀ t, t < gA g → t ≠ s → μ (xa X t) = some (sc_ag g X t)) (hos : ∀ i, i < xm X → μ (xs X i) = some (sc_sp g X i))
    (hoq : ∀ i, i < xm X → ∃ f, μ (xq X i) = some (sp_ia κ (gR g (xf X i)).length f) ∧ ∀ k, k < (gR g (xf X i)).length → f k = nI ((gR g (xf X i)).getD k 0)) (hoe : ∀ i, i < xm X → ∃ f, μ (xe X i) = some (sp_ia κ 16 f) ∧ ∀ x, x < 16 → f x = nI (gP g (xf X i) x))
    (ha1 : μ a1 = some (sp_ia κ P.length fP)) (hfP : ∀ j, j < P.length → fP j = nI (P.getD j 0)) (hfse : ∀ x, x < 16 → fse x = nI (sg_mx g x P))
    (hD : sc_D g X) (hown : ∀ z, sc_own g X z → z ≠ q ∧ z ≠ a1 ∧ z ≠ a2) (h12 : a1 ≠ a2) (hq1 : q ≠ a1) (hq2 : q ≠ a2) (hf' : ∀ e, f' e = if gE g ≤ e ∧ e < gE g + (k + 1) then some q else fsp e) :
    sc_M κ (sg_ad g s P k) (ap_X X s k (gE g) q a1 a2 pv) [] (ap_mem κ μ (xh X) (xa X s) a1 a2 (xp X) (xg X) q (gE g) (k + 1) (gC g s) s (nI (gM g s)) (nI (gA g)) (nI 0) (.ref (xl X)) fse f' (sc_pt X (xm X)) (pv.map (xs X))) := by
  have hm : xf X (xm X) = gE g := hS.1
  have I' := sg_ad_I hI hs hPs hPl hg k hE
  have h16 := hI.a
  obtain ⟨ρ, r1, r2, r3, r4, r5, r6⟩ := hD
  have o1 : sc_own g X (xh X) := Or.inl rfl
  have o2 : sc_own g X (xg X) := Or.inr (Or.inl rfl)
  have o3 : sc_own g X (xp X) := Or.inr (Or.inr (Or.inl rfl))
  have o4 : sc_own g X (xl X) := Or.inr (Or.inr (Or.inr (Or.inl rfl)))
  have o5 : ∀ t, t < gA g → sc_own g X (xa X t) := fun t ht => Or.inr (Or.inr (Or.inr (Or.inr (Or.inl ⟨t, ht, rfl⟩))))
  have o6 : ∀ i, i < xm X → sc_own g X (xs X i) ∧ sc_own g X (xq X i) ∧ sc_own g X (xe X i) := fun i hi => ⟨Or.inr (Or.inr (Or.inr (Or.inr (Or.inr ⟨i, hi, Or.inl rfl⟩)))), Or.inr (Or.inr (Or.inr (Or.inr (Or.inr ⟨i, hi, Or.inr (Or.inl rfl)⟩)))), Or.inr (Or.inr (Or.inr (Or.inr (Or.inr ⟨i, hi, Or.inr (Or.inr rfl)⟩))))⟩
  generalize hμ : ap_mem κ μ (xh X) (xa X s) a1 a2 (xp X) (xg X) q (gE g) (k + 1) (gC g s) s (nI (gM g s)) (nI (gA g)) (nI 0) (.ref (xl X)) fse f' (sc_pt X (xm X)) (pv.map (xs X)) = μ2
  -- what the new memory holds
  have kp0 : ∀ z, z ≠ xh X → z ≠ xa X s → z ≠ xp X → z ≠ q → z ≠ a2 → μ2 z = μ z := by
    intro z z1 z2 z3 z4 z5
    rw [← hμ]
    show va_up (va_up (va_up (va_up (va_up μ a2 _) q _) (xp X) _) (xa X s) _) (xh X) _ z = μ z
    rw [va_up_ne _ _ z1, va_up_ne _ _ z2, va_up_ne _ _ z3, va_up_ne _ _ z4, va_up_ne _ _ z5]
  have kp : ∀ {z : Nat} {r : Nat × Nat} {e : va_E}, sc_own g X z → ρ z = r → r ≠ (1, 0) → r ≠ (3, 0) → r ≠ (5, s) → μ z = some e → μ2 z = some e := by
    intro z r e ho hr n1 n3 n5 he
    obtain ⟨w1, w2, w3⟩ := hown z ho
    rw [kp0 z (ro_ne hr r1 n1) (ro_ne hr (r5 s hs) n5) (ro_ne hr r3 n3) w1 w3]
    exact he
  have mh : μ2 (xh X) = some (ap_obj q (xg X) (xp X) (gE g) (k + 1) (nI (gA g)) (.ref (xl X)) (nI 0)) := by rw [← hμ]; exact va_up_self _ _ _
  have ma : μ2 (xa X s) = some (ap_ag q (gE g) (k + 1) (gC g s) s (nI (gM g s))) := by
    rw [← hμ]
    exact (va_up_ne _ _ (ro_ne (r5 s hs) r1 (by simp))).trans (va_up_self _ _ _)
  have mp : μ2 (xp X) = some (sp_ra κ 4 8192 f') := by
    rw [← hμ]
    exact (va_up_ne _ _ (ro_ne r3 r1 (by decide))).trans ((va_up_ne _ _ (ro_ne r3 (r5 s hs) (by simp))).trans (va_up_self _ _ _))
  have mq : μ2 q = some (ap_span (xa X s) a1 a2 (gE g) (k + 1) (gC g s) s fse (sc_pt X (xm X)) (pv.map (xs X))) := by
    rw [← hμ]
    exact (va_up_ne _ _ (Ne.symm (hown _ o1).1)).trans ((va_up_ne _ _ (Ne.symm (hown _ (o5 s hs)).1)).trans ((va_up_ne _ _ (Ne.symm (hown _ o3).1)).trans (va_up_self _ _ _)))
  have m2 : μ2 a2 = some (sp_ia κ 16 (ap_seen fse s (gC g s))) := by
    rw [← hμ]
    exact (va_up_ne _ _ (Ne.symm (hown _ o1).2.2)).trans ((va_up_ne _ _ (Ne.symm (hown _ (o5 s hs)).2.2)).trans ((va_up_ne _ _ (Ne.symm (hown _ o3).2.2)).trans ((va_up_ne _ _ (Ne.symm hq2)).trans (va_up_self _ _ _))))
  have m1 : μ2 a1 = some (sp_ia κ P.length fP) := by
    rw [kp0 a1 (Ne.symm (hown _ o1).2.1) (Ne.symm (hown _ (o5 s hs)).2.1) (Ne.symm (hown _ o3).2.1) (Ne.symm hq1) h12]
    exact ha1
  have seen : ∀ x, x < 16 → ap_seen fse s (gC g s) x = nI (gP (sg_ad g s P k) (gE g) x) := by
    intro x hx
    by_cases q1 : x = s
    · subst q1
      rw [sg_ad_Ps (by omega), Nat.sub_self]
      exact pk_us
    · rw [sg_ad_P1 (by omega) q1]
      exact (pk_un q1).trans (hfse x hx)
  have xf' : ∀ i, i ≤ xm X → xf (ap_X X s k (gE g) q a1 a2 pv) i = xf X i := fun i hi => ap_xf hi
  have xs' : ∀ i, i < xm X → xs (ap_X X s k (gE g) q a1 a2 pv) i = xs X i := fun i hi => ap_xs hi
  refine ⟨?_, ?_, ⟨f', mp, fun i hi e h1 h2 => ?_, fun e h1 h2 => ?_⟩, ?_, fun t ht => ?_, fun i hi => ?_, fun i hi => ?_, fun i hi => ?_⟩
  · -- the object
    show μ2 (xh X) = some (.inr (2, [.ref (xg X), .int (nI (gA (sg_ad g s P k))), .ref (xp X), .int (nI (gE (sg_ad g s P k))), va_rf (if xm X + 1 = 0 then none else some (va_up (xs X) (xm X) q (xm X + 1 - 1))), .ref (xl X), .int (nI 0)]))
    rw [sg_ad_A, sg_ad_E, if_neg (by omega), show xm X + 1 - 1 = xm X by omega, va_up_self]
    exact mh
  · obtain ⟨f, hf, hf2, hf3⟩ := hog
    refine ⟨f, kp o2 r2 (by decide) (by decide) (by simp) hf, fun t ht => ?_, fun a ha hno => ?_⟩
    · rw [sg_ad_A] at ht
      rw [sg_ad_M]
      exact hf2 t ht
    · rw [sg_ad_M, sg_ad_A] at hno
      exact hf3 a ha hno
  · have hi' : i < xm X + 1 := hi
    rw [hf' e]
    by_cases q1 : i = xm X
    · subst q1
      rw [ap_xf1] at h2
      rw [xf' _ (Nat.le_refl _), hm] at h1
      rw [if_pos (by omega), ap_xs1]
    · have hlt : i < xm X := by omega
      rw [xf' _ (by omega)] at h1 h2
      have := hS.le (i := i + 1) hlt
      rw [if_neg (by omega), xs' i hlt]
      exact hfs1 i hlt e h1 h2
  · rw [sg_ad_E] at h1
    rw [hf' e, if_neg (by omega)]
    exact hfs2 e (by omega) h2
  · obtain ⟨f, hf⟩ := hol
    exact ⟨f, kp o4 r4 (by decide) (by decide) (by simp) hf, fun j hj => by simp at hj⟩
  · rw [sg_ad_A] at ht
    by_cases q1 : t = s
    · subst q1
      have e1 : sg_lt (sg_ad g t P k) t = gE g + (k + 1) - 1 := by
        unfold sg_lt
        rw [sg_ad_C, if_pos rfl, sg_ad_T, if_pos (by omega)]
        omega
      show μ2 (xa X t) = some (.inr (0, [.int (nI (gM (sg_ad g t P k) t)), .int (nI t), .int (nI (gC (sg_ad g t P k) t)), .int (nI (sg_lt (sg_ad g t P k) t)), .int (va_up (xb X) t 1 t), va_rf (some (va_up (xs X) (xm X) q (va_up (xn X) t (xm X) t)))]))
      rw [e1, sg_ad_M, sg_ad_C, if_pos rfl, va_up_self, va_up_self, va_up_self]
      exact ma
    · have e1 : sg_lt (sg_ad g s P k) t = sg_lt g t := by
        unfold sg_lt
        rw [sg_ad_C, if_neg q1, sg_ad_T, if_neg (by omega)]
      show μ2 (xa X t) = some (.inr (0, [.int (nI (gM (sg_ad g s P k) t)), .int (nI t), .int (nI (gC (sg_ad g s P k) t)), .int (nI (sg_lt (sg_ad g s P k) t)), .int (va_up (xb X) s 1 t), va_rf (some (va_up (xs X) (xm X) q (va_up (xn X) s (xm X) t)))]))
      have hx := hn t ht q1
      rw [e1, sg_ad_M, sg_ad_C, if_neg q1, va_up_ne _ _ q1, va_up_ne (xn X) _ q1, va_up_ne _ _ (show xn X t ≠ xm X by omega)]
      exact kp (o5 t ht) (r5 t ht) (by simp) (by simp) (by simp; exact q1) (hoa t ht q1)
  · have hi' : i < xm X + 1 := hi
    by_cases q1 : i = xm X
    · subst q1
      have e1 : xs (ap_X X s k (gE g) q a1 a2 pv) (xm X) = q := ap_xs1
      rw [e1]
      show μ2 q = some (.inr (1, [.ref (xa X (gS (sg_ad g s P k) (xf (ap_X X s k (gE g) q a1 a2 pv) (xm X)))), .int (nI (xf (ap_X X s k (gE g) q a1 a2 pv) (xm X))), .int (nI (xf (ap_X X s k (gE g) q a1 a2 pv) (xm X + 1) - 1)), .int (nI (gN (sg_ad g s P k) (xf (ap_X X s k (gE g) q a1 a2 pv) (xm X)))), .ref (va_up (xq X) (xm X) a1 (xm X)), .ref (va_up (xe X) (xm X) a2 (xm X)), .int (if sg_sum (gP (sg_ad g s P k) (xf (ap_X X s k (gE g) q a1 a2 pv) (xm X))) 16 = xf (ap_X X s k (gE g) q a1 a2 pv) (xm X) + 1 then 1 else 0), va_rf (if xm X = 0 then none else some (va_up (xs X) (xm X) q (xm X - 1))), va_rf ((va_up (xv X) (xm X) pv (xm X)).map (va_up (xs X) (xm X) q))]))
      rw [ap_xf (Nat.le_refl _), ap_xf1, hm, va_up_self, va_up_self, va_up_self, sg_ad_S1 (by omega), sg_ad_N1 (by omega), Nat.sub_self]
      have e2 : (if xm X = 0 then none else some (va_up (xs X) (xm X) q (xm X - 1))) = sc_pt X (xm X) := by
        by_cases z : xm X = 0
        · rw [if_pos z]; show none = if xm X = 0 then none else _; rw [if_pos z]
        · rw [if_neg z, va_up_ne _ _ (by omega)]; show _ = if xm X = 0 then none else _; rw [if_neg z]
      have e3 : pv.map (va_up (xs X) (xm X) q) = pv.map (xs X) := by
        cases hpv : pv with
        | none => rfl
        | some j =>
          have := hp1 j hpv
          show some _ = some _
          rw [va_up_ne _ _ (by omega)]
      have hsum : sg_sum (gP (sg_ad g s P k) (gE g)) 16 ≤ sg_sum (fun _ => 8193) 16 := sg_sum_le fun x _ => by
        have := I'.ple (e := gE g) (x := x) (by rw [sg_ad_E]; omega)
        omega
      have hsum2 : sg_sum (fun _ => 8193) 16 = 131088 := by decide
      have e4 : (if sn_sum (ap_seen fse s (gC g s)) 16 = nI (gE g) + 1 then (1 : Int32) else 0) = if sg_sum (gP (sg_ad g s P k) (gE g)) 16 = gE g + 1 then 1 else 0 := by
        rw [sn_sum_nI seen, nI_1]
        by_cases z : sg_sum (gP (sg_ad g s P k) (gE g)) 16 = gE g + 1
        · rw [if_pos z, if_pos (by rw [z])]
        · rw [if_neg z, if_neg (fun w => z ((nI_eq (by omega) (by omega)).mp w))]
      rw [e2, e3, ← e4]
      exact mq
    · have hlt : i < xm X := by omega
      have hx := hS.lt hlt
      rw [xs' i hlt]
      show μ2 (xs X i) = some (.inr (1, [.ref (xa X (gS (sg_ad g s P k) (xf (ap_X X s k (gE g) q a1 a2 pv) i))), .int (nI (xf (ap_X X s k (gE g) q a1 a2 pv) i)), .int (nI (xf (ap_X X s k (gE g) q a1 a2 pv) (i + 1) - 1)), .int (nI (gN (sg_ad g s P k) (xf (ap_X X s k (gE g) q a1 a2 pv) i))), .ref (va_up (xq X) (xm X) a1 i), .ref (va_up (xe X) (xm X) a2 i), .int (if sg_sum (gP (sg_ad g s P k) (xf (ap_X X s k (gE g) q a1 a2 pv) i)) 16 = xf (ap_X X s k (gE g) q a1 a2 pv) i + 1 then 1 else 0), va_rf (if i = 0 then none else some (va_up (xs X) (xm X) q (i - 1))), va_rf ((va_up (xv X) (xm X) pv i).map (va_up (xs X) (xm X) q))]))
      rw [xf' i (by omega), xf' (i + 1) (by omega), sg_ad_S0 hx, sg_ad_N0 hx, va_up_ne _ _ q1, va_up_ne _ _ q1, va_up_ne (xv X) _ q1]
      have e2 : (if i = 0 then none else some (va_up (xs X) (xm X) q (i - 1))) = if i = 0 then none else some (xs X (i - 1)) := by
        by_cases z : i = 0
        · rw [if_pos z, if_pos z]
        · rw [if_neg z, if_neg z, va_up_ne _ _ (by omega)]
      have e3 : (xv X i).map (va_up (xs X) (xm X) q) = (xv X i).map (xs X) := by
        cases hxv : xv X i with
        | none => rfl
        | some j =>
          have := hv1 i hlt j hxv
          show some _ = some _
          rw [va_up_ne _ _ (by omega)]
      have e4 : sg_sum (gP (sg_ad g s P k) (xf X i)) 16 = sg_sum (gP g (xf X i)) 16 := sg_sum_congr fun x _ => sg_ad_P0 hx
      rw [e2, e3, e4]
      exact kp (o6 i hlt).1 (r6 i hlt).1 (by simp) (by simp) (by simp) (hos i hlt)
  · have hi' : i < xm X + 1 := hi
    by_cases q1 : i = xm X
    · subst q1
      refine ⟨fP, ?_, fun j hj => ?_⟩
      · show μ2 (va_up (xq X) (xm X) a1 (xm X)) = _
        rw [va_up_self, ap_xf (Nat.le_refl _), hm, sg_ad_R, if_pos rfl]
        exact m1
      · rw [ap_xf (Nat.le_refl _), hm, sg_ad_R, if_pos rfl] at hj ⊢
        exact hfP j hj
    · have hlt : i < xm X := by omega
      have hx := hS.lt hlt
      obtain ⟨f, hf, hf2⟩ := hoq i hlt
      have e1 : gR (sg_ad g s P k) (xf (ap_X X s k (gE g) q a1 a2 pv) i) = gR g (xf X i) := by
        rw [xf' i (by omega), sg_ad_R, if_neg (by omega), if_neg (by omega)]
      refine ⟨f, ?_, fun j hj => ?_⟩
      · show μ2 (va_up (xq X) (xm X) a1 i) = _
        rw [va_up_ne _ _ q1, e1]
        exact kp (o6 i hlt).2.1 (r6 i hlt).2.1 (by simp) (by simp) (by simp) hf
      · rw [e1] at hj ⊢
        exact hf2 j hj
  · have hi' : i < xm X + 1 := hi
    by_cases q1 : i = xm X
    · subst q1
      refine ⟨ap_seen fse s (gC g s), ?_, fun x hx => ?_⟩
      · show μ2 (va_up (xe X) (xm X) a2 (xm X)) = _
        rw [va_up_self]
        exact m2
      · rw [ap_xf (Nat.le_refl _), hm]
        exact seen x hx
    · have hlt : i < xm X := by omega
      have hx := hS.lt hlt
      obtain ⟨f, hf, hf2⟩ := hoe i hlt
      refine ⟨f, ?_, fun x hx' => ?_⟩
      · show μ2 (va_up (xe X) (xm X) a2 i) = _
        rw [va_up_ne _ _ q1]
        exact kp (o6 i hlt).2.2 (r6 i hlt).2.2 (by simp) (by simp) (by simp) hf
      · rw [xf' i (by omega), sg_ad_P0 hx]
        exact hf2 x hx'
end
