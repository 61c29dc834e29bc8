/-! the class's writers: what add asks of the list that it has taken -/
section
variable {l : Launch} {κ : sp_K} {g : sg_G} {X : sc_X} {L P : List Nat} {μ μ' : sp_M} {mc ms : Nat} {Rt : Option Value → sp_M → Prop} {Xt : String → sp_M → Prop}
theorem sc_R.ext (h : sc_R κ g X L μ) (hq : ∀ z e, μ z = some e → μ' z = some e) : sc_R κ g X L μ' := by
  obtain ⟨hV, h1, h2, h3, h4, h5, h6, h7, h8⟩ := h
  refine ⟨hV, hq _ _ h1, ?_, ?_, ?_, fun s hs => hq _ _ (h5 s hs), fun i hi => hq _ _ (h6 i hi), fun i hi => ?_, fun i hi => ?_⟩
  · obtain ⟨f, hf, hf2⟩ := h2; exact ⟨f, hq _ _ hf, hf2⟩
  · obtain ⟨f, hf, hf2⟩ := h3; exact ⟨f, hq _ _ hf, hf2⟩
  · obtain ⟨f, hf, hf2⟩ := h4; exact ⟨f, hq _ _ hf, hf2⟩
  · obtain ⟨f, hf, hf2⟩ := h7 i hi; exact ⟨f, hq _ _ hf, hf2⟩
  · obtain ⟨f, hf, hf2⟩ := h8 i hi; exact ⟨f, hq _ _ hf, hf2⟩
theorem sp_new_ext {q : Nat} {e0 : va_E} (hz : μ q = none) : ∀ z e, μ z = some e → va_up μ q (some e0) z = some e := by
  intro z e h
  rw [va_up_ne]
  · exact h
  · intro q1
    rw [q1, hz] at h
    cases h
theorem sg_take_succ {l : List Nat} {j : Nat} (h : j < l.length) : l.take (j + 1) = l.take j ++ [l.getD j 0] := by
  have e : l.getD j 0 = l[j] := by simp [List.getD, h]
  rw [e, List.take_succ_eq_append_getElem h]
theorem sn_max {a b : Nat} (ha : a < 2 ^ 31) (hb : b < 2 ^ 31) : (if nI a < nI b then nI b else nI a) = nI (max a b) := by
  by_cases h : a < b
  · rw [if_pos (nI_lt h hb), Nat.max_eq_right (by omega)]
  · rw [if_neg (nI_nlt (by omega) ha), Nat.max_eq_left (by omega)]
theorem sg_mx_8192 (h : sg_I g) {x : Nat} (hP : ∀ e ∈ P, e < gE g) : sg_mx g x P ≤ 8192 := sg_mx_le fun p hp => h.ple (hP p hp)
/-- seenFrom's inner loop -/
theorem lp_seen2 {x : sp_X} {k n q a1 e i : Nat} {v4 v5 : Int32} {l0 : List Nat} (hx : x.2.1.stackTraces = false) (hh : cxE_seenFrom κ x mc ms) (hk : k ≤ mc ∧ n ≤ ms) (h : sc_R κ g X L μ) (hz : μ q = none) (hi : i < xm X) (b1 : xf X i ≤ e) (b2 : e < xf X (i + 1)) (hl0 : ∀ e ∈ l0, e < gE g)
    (hgo : ∀ f : Nat → Int32, (∀ s, s < 16 → f s = nI (sg_mx g s (l0 ++ [e]))) → sp_w κ x (sp_F κ x Rt Xt mc ms) k n 14 [(0, .ref (xh X)), (1, .ref a1), (2, .ref q), (3, .ref a1), (4, .int v4), (5, .int (v5 + 1))] [] (va_up μ q (some (sp_ia κ 16 f)))) :
    ∀ (d s : Nat) (f : Nat → Int32), 16 = s + d → (∀ t, t < 16 → f t = if t < s then nI (sg_mx g t (l0 ++ [e])) else nI (sg_mx g t l0)) → sp_w κ x (sp_F κ x Rt Xt mc ms) k n 38 [(0, .ref (xh X)), (1, .ref a1), (2, .ref q), (3, .ref a1), (4, .int v4), (5, .int v5), (6, .int (nI e)), (7, va_rf (some (xs X i))), (8, .int (nI s))] [] (va_up μ q (some (sp_ia κ 16 f))) := by
  have hE : e < gE g := by have := sc_last h hi; omega
  intro d
  induction d with
  | zero =>
    intro s f hs hf
    have : s = 16 := by omega
    subst this
    exact bkE_seenFrom_38 hh hk ⟨fun _ => hgo f (fun t ht => by rw [hf t ht, if_pos ht]), fun c => absurd (by decide) c⟩
  | succ d ih =>
    intro s f hs hf
    have h' : sc_R κ g X L (va_up μ q (some (sp_ia κ 16 f))) := h.ext (sp_new_ext hz)
    refine bkE_seenFrom_38 hh hk ⟨fun c => absurd c (nI_ge (b := 16) (by omega) (by omega)), fun c => ⟨_, _, va_up_self _ _ _, s, rfl, by omega, _, rfl, 0, 0, hk, _, h'.os hi, ct_seenAt hx h' hi b1 b2 (by omega) ⟨_, rfl, _, _, va_up_self _ _ _, s, rfl, by omega, fun μ1 e1 => ?_⟩⟩⟩
    subst e1
    rw [sp_upup, nI_1]
    have m1 := sg_mx_8192 (x := s) h.I hl0
    have m2 := h.I.ple (x := s) hE
    have e2 : (if f s < nI (gP g e s) then nI (gP g e s) else f s) = nI (sg_mx g s (l0 ++ [e])) := by
      rw [hf s (by omega), if_neg (show ¬ s < s by omega), sn_max (by omega) (by omega), sg_mx_app]
    rw [e2]
    refine ih (s + 1) _ (by omega) (fun t ht => ?_)
    by_cases q1 : t = s
    · subst q1
      rw [pk_us, if_pos (by omega)]
    · rw [pk_un q1, hf t ht]
      by_cases q2 : t < s
      · rw [if_pos q2, if_pos (by omega)]
      · rw [if_neg q2, if_neg (by omega)]
theorem lp_seen1 {x : sp_X} {k n q a1 : Nat} {fP : Nat → Int32} (hx : x.2.1.stackTraces = false) (hh : cxE_seenFrom κ x mc ms) (hk : k ≤ mc ∧ n ≤ ms) (h : sc_R κ g X L μ) (hz : μ q = none) (ha : μ a1 = some (sp_ia κ P.length fP)) (hfP : ∀ j, j < P.length → fP j = nI (P.getD j 0)) (hP : ∀ e ∈ P, e < gE g) (hlen : P.length ≤ 16)
    (hR : ∀ f : Nat → Int32, (∀ s, s < 16 → f s = nI (sg_mx g s P)) → Rt (some (.ref q)) (va_up μ q (some (sp_ia κ 16 f)))) :
    ∀ (d j : Nat) (f : Nat → Int32), P.length = j + d → (∀ t, t < 16 → f t = nI (sg_mx g t (P.take j))) → sp_w κ x (sp_F κ x Rt Xt mc ms) k n 14 [(0, .ref (xh X)), (1, .ref a1), (2, .ref q), (3, .ref a1), (4, .int (nI P.length)), (5, .int (nI j))] [] (va_up μ q (some (sp_ia κ 16 f))) := by
  intro d
  induction d with
  | zero =>
    intro j f hj hf
    refine bkE_seenFrom_14 hh hk ⟨fun _ => hR f (fun s hs => ?_), fun c => absurd (nI_le (by omega) (by omega)) c⟩
    rw [hf s hs, List.take_of_length_le (by omega)]
  | succ d ih =>
    intro j f hj hf
    have h' : sc_R κ g X L (va_up μ q (some (sp_ia κ 16 f))) := h.ext (sp_new_ext hz)
    have he := hP _ (sg_getD_mem (l := P) (j := j) (by omega))
    obtain ⟨i, hi, b1, b2⟩ := h.S.span he
    refine bkE_seenFrom_14 hh hk ⟨fun c => absurd c (nI_ge (by omega) (by omega)), fun c => ⟨_, _, sp_new_ext hz _ _ ha, j, rfl, by omega, 0, 0, hk, _, h'.o, ?_⟩⟩
    rw [hfP j (by omega)]
    refine ct_spanOf hx h' hi b1 b2 ⟨_, rfl, ?_⟩
    refine lp_seen2 (l0 := P.take j) hx hh hk h hz hi b1 b2 (fun e he' => hP e (List.mem_of_mem_take he')) (fun f' hf' => ?_) 16 0 f rfl (fun t ht => by rw [hf t ht, if_neg (by omega)])
    rw [nI_1]
    refine ih (j + 1) f' (by omega) (fun t ht => ?_)
    rw [hf' t ht, sg_take_succ (by omega)]
theorem ct_seenFrom (htr : l.stackTraces = false) (h : sc_R κ g X L μ) {a1 : Nat} {fP : Nat → Int32} (ha : μ a1 = some (sp_ia κ P.length fP)) (hfP : ∀ j, j < P.length → fP j = nI (P.getD j 0)) (hP : ∀ e ∈ P, e < gE g) (hlen : P.length ≤ 16) (hr : 1 ≤ mc ∧ 16 ≤ ms) (hR : ∀ (q : Nat) (f : Nat → Int32), μ q = none → (∀ s, s < 16 → f s = nI (sg_mx g s P)) → Rt (some (va_rf (some q))) (va_up μ q (some (sp_ia κ 16 f)))) : sp_m l κ yE_seenFrom wE_seenFrom 7 111 mc ms [.ref (xh X), .ref a1] μ Rt Xt := by
  refine opE_seenFrom htr (fun x hx hh => bkE_seenFrom_0 hh z2 ⟨16, rfl, by omega, by omega, fun q hz μ1 e1 => ?_⟩)
  subst e1
  exact ⟨_, _, sp_new_ext hz _ _ ha, lp_seen1 hx hh (by omega) h hz ha hfP hP hlen (fun f hf => hR q f hz hf) P.length 0 (fun _ => 0) (by omega) (fun t ht => rfl)⟩
/-- holdsAncestor -/
theorem lp_holds2 {x : sp_X} {k n a1 e1 : Nat} {v3 v4 : Int32} {fP : Nat → Int32} (hx : x.2.1.stackTraces = false) (hh : cxE_holdsAncestor κ x mc ms) (hk : k ≤ mc ∧ n ≤ ms) (h : sc_R κ g X L μ) (ha : μ a1 = some (sp_ia κ P.length fP)) (hfP : ∀ j, j < P.length → fP j = nI (P.getD j 0)) (hP : ∀ e ∈ P, e < gE g) (hlen : P.length ≤ 16) (he1 : e1 ∈ P)
    (h1 : ∀ e2, e2 ∈ P → e1 ≠ e2 → sg_in g e1 e2 → Rt (some (.int 1)) μ)
    (hgo : (∀ e2, e2 ∈ P → ¬ (e1 ≠ e2 ∧ sg_in g e1 e2)) → sp_w κ x (sp_F κ x Rt Xt mc ms) k n 8 [(0, .ref (xh X)), (1, .ref a1), (2, .ref a1), (3, .int v3), (4, .int (v4 + 1))] [] μ) :
    ∀ (d j : Nat), P.length = j + d → (∀ t, t < j → ¬ (e1 ≠ P.getD t 0 ∧ sg_in g e1 (P.getD t 0))) → sp_w κ x (sp_F κ x Rt Xt mc ms) k n 31 [(0, .ref (xh X)), (1, .ref a1), (2, .ref a1), (3, .int v3), (4, .int v4), (5, .int (nI e1)), (6, .ref a1), (7, .int (nI P.length)), (8, .int (nI j))] [] μ := by
  intro d
  induction d with
  | zero =>
    intro j hj hno
    refine bkE_holdsAncestor_31 hh hk ⟨fun _ => hgo (fun e2 he2 => ?_), fun c => absurd (nI_le (by omega) (by omega)) c⟩
    obtain ⟨t, ht, rfl⟩ := sg_mem_getD he2
    exact hno t (by omega)
  | succ d ih =>
    intro j hj hno
    have he2 : P.getD j 0 ∈ P := sg_getD_mem (by omega)
    refine bkE_holdsAncestor_31 hh hk ⟨fun c => absurd c (nI_ge (by omega) (by omega)), fun c => ⟨_, _, ha, j, rfl, by omega, 0, 0, hk, _, h.o, ?_⟩⟩
    rw [hfP j (by omega)]
    refine ct_isAncestor hx h (hP _ he1) (hP _ he2) (fun hne hin => ⟨_, rfl, fun c => absurd c (by decide), fun _ => h1 _ he2 hne hin⟩) (fun hn => ⟨_, rfl, fun _ => ?_, fun c => absurd rfl c⟩)
    rw [nI_1]
    refine ih (j + 1) (by omega) (fun t ht => ?_)
    by_cases q : t = j
    · subst q; exact hn
    · exact hno t (by omega)
theorem lp_holds1 {x : sp_X} {k n a1 : Nat} {fP : Nat → Int32} (hx : x.2.1.stackTraces = false) (hh : cxE_holdsAncestor κ x mc ms) (hk : k ≤ mc ∧ n ≤ ms) (h : sc_R κ g X L μ) (ha : μ a1 = some (sp_ia κ P.length fP)) (hfP : ∀ j, j < P.length → fP j = nI (P.getD j 0)) (hP : ∀ e ∈ P, e < gE g) (hlen : P.length ≤ 16)
    (h1 : ∀ e1 e2, e1 ∈ P → e2 ∈ P → e1 ≠ e2 → sg_in g e1 e2 → Rt (some (.int 1)) μ) (h0 : (∀ e1 e2, e1 ∈ P → e2 ∈ P → ¬ (e1 ≠ e2 ∧ sg_in g e1 e2)) → Rt (some (.int 0)) μ) :
    ∀ (d j : Nat), P.length = j + d → (∀ t, t < j → ∀ e2, e2 ∈ P → ¬ (P.getD t 0 ≠ e2 ∧ sg_in g (P.getD t 0) e2)) → sp_w κ x (sp_F κ x Rt Xt mc ms) k n 8 [(0, .ref (xh X)), (1, .ref a1), (2, .ref a1), (3, .int (nI P.length)), (4, .int (nI j))] [] μ := by
  intro d
  induction d with
  | zero =>
    intro j hj hno
    refine bkE_holdsAncestor_8 hh hk ⟨fun _ => h0 (fun e1 e2 he1 he2 => ?_), fun c => absurd (nI_le (by omega) (by omega)) c⟩
    obtain ⟨t, ht, rfl⟩ := sg_mem_getD he1
    exact hno t (by omega) e2 he2
  | succ d ih =>
    intro j hj hno
    have he1 : P.getD j 0 ∈ P := sg_getD_mem (by omega)
    refine bkE_holdsAncestor_8 hh hk ⟨fun c => absurd c (nI_ge (by omega) (by omega)), fun c => ⟨_, _, ha, j, rfl, by omega, _, _, ha, ?_⟩⟩
    rw [hfP j (by omega)]
    refine lp_holds2 hx hh hk h ha hfP hP hlen he1 (fun e2 he2 => h1 _ e2 he1 he2) (fun hn => ?_) P.length 0 (by omega) (fun t ht => by omega)
    rw [nI_1]
    refine ih (j + 1) (by omega) (fun t ht e2 he2 => ?_)
    by_cases q : t = j
    · subst q; exact hn e2 he2
    · exact hno t (by omega) e2 he2
theorem ct_holdsAncestor (htr : l.stackTraces = false) (h : sc_R κ g X L μ) {a1 : Nat} {fP : Nat → Int32} (ha : μ a1 = some (sp_ia κ P.length fP)) (hfP : ∀ j, j < P.length → fP j = nI (P.getD j 0)) (hP : ∀ e ∈ P, e < gE g) (hlen : P.length ≤ 16) (h1 : ∀ e1 e2, e1 ∈ P → e2 ∈ P → e1 ≠ e2 → sg_in g e1 e2 → Rt (some (.int 1)) μ) (h0 : (∀ e1 e2, e1 ∈ P → e2 ∈ P → ¬ (e1 ≠ e2 ∧ sg_in g e1 e2)) → Rt (some (.int 0)) μ) : sp_m l κ yE_holdsAncestor wE_holdsAncestor 8 135 mc ms [.ref (xh X), .ref a1] μ Rt Xt :=
  opE_holdsAncestor htr (fun x hx hh => bkE_holdsAncestor_0 hh z2 ⟨_, _, ha, lp_holds1 hx hh z2 h ha hfP hP hlen h1 h0 P.length 0 (by omega) (fun t ht => by omega)⟩)
end
