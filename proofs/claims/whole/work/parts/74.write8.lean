/-! add, whole -/
def ad_UO (g : sg_G) (L : List Nat) (a : Nat) : Prop := (∃ e1 e2, e1 ∈ L ∧ e2 ∈ L ∧ e1 ≠ e2 ∧ sg_in g e1 e2) ∨ ∃ s, s < gA g ∧ gM g s = a ∧ sg_mx g s L < gC g s
def ad_IS (g : sg_G) (a n : Nat) : Prop := 8192 < gE g + n ∨ ((∀ s, s < gA g → gM g s ≠ a) ∧ 16 ≤ gA g)
section
variable {l : Launch} {κ : sp_K} {g : sg_G} {X : sc_X} {L P : List Nat} {μ : sp_M} {mc ms : Nat} {Rt : Option Value → sp_M → Prop} {Xt : String → sp_M → Prop}
theorem sg_nxt_old (h : sg_I g) {s a : Nat} (hs : s < gA g) (ha : gM g s = a) : sg_nxt g a = (g, s) := by
  unfold sg_nxt
  rw [sg_slot_some h hs ha _ hs (Nat.le_refl _)]
theorem sg_nxt_new {a : Nat} (ha : ∀ s, s < gA g → gM g s ≠ a) : sg_nxt g a = (sg_reg g a, gA g) := by
  unfold sg_nxt
  rw [sg_slot_none _ ha]
theorem sg_mx_reg {a x : Nat} : ∀ {l : List Nat}, sg_mx (sg_reg g a) x l = sg_mx g x l
  | [] => rfl
  | p :: r => by
    show max (gP g p x) (sg_mx (sg_reg g a) x r) = max (gP g p x) (sg_mx g x r)
    rw [sg_mx_reg]
theorem sc_N_some {s : Nat} {pv : Option Nat} (h : sc_N κ g X s pv μ) {z : Nat} (ho : sc_own g X z) : (μ z).isSome = true := by
  obtain ⟨h1, ⟨f2, h2, -⟩, ⟨f3, h3, -⟩, ⟨f4, h4⟩, h5, ⟨x3, x4, h9⟩, h6, h7, h8⟩ := h
  rcases ho with rfl | rfl | rfl | rfl | ⟨t, ht, rfl⟩ | ⟨i, hi, rfl | rfl | rfl⟩
  · rw [h1]; rfl
  · rw [h2]; rfl
  · rw [h3]; rfl
  · rw [h4]; rfl
  · by_cases q : t = s
    · rw [q, h9]; rfl
    · rw [h5 t ht q]; rfl
  · rw [h6 i hi]; rfl
  · obtain ⟨f, hf, -⟩ := h7 i hi; rw [hf]; rfl
  · obtain ⟨f, hf, -⟩ := h8 i hi; rw [hf]; rfl
theorem ct_add (htr : l.stackTraces = false) (h : sc_T κ g X L μ) {v1 v2 : Int32} (hr : 4 ≤ mc ∧ 47 ≤ ms)
    (hIA : ((∀ a, a < 256 → v1 ≠ nI a) ∨ (∀ n, 1 ≤ n → n ≤ 2000 → v2 ≠ nI n)) → Xt xIA μ)
    (hUO : ∀ a n μ', a < 256 → v1 = nI a → 1 ≤ n → n ≤ 2000 → v2 = nI n → ad_UO g L a → sc_T κ g X [] μ' → sc_fa g X μ g X μ' → Xt xUO μ')
    (hIS : ∀ a n μ', a < 256 → v1 = nI a → 1 ≤ n → n ≤ 2000 → v2 = nI n → ¬ ad_UO g L a → ad_IS g a n → sc_T κ g X [] μ' → sc_fa g X μ g X μ' → Xt xIS μ')
    (hok : ∀ a n X' μ', a < 256 → v1 = nI a → 1 ≤ n → n ≤ 2000 → v2 = nI n → ¬ ad_UO g L a → ¬ ad_IS g a n → sc_T κ (sg_ad (sg_nxt g a).1 (sg_nxt g a).2 L (n - 1)) X' [] μ' → sc_fa g X μ (sg_ad (sg_nxt g a).1 (sg_nxt g a).2 L (n - 1)) X' μ' → xh X' = xh X → Rt (some (.int (nI (gE g + n - 1)))) μ') :
    sp_m l κ yE_add wE_add 9 164 mc ms [.ref (xh X), .int v1, .int v2] μ Rt Xt := by
  obtain ⟨hlen, hsort, hLE⟩ := h.1.l
  have hI := h.1.I
  have hE := hI.e
  have h16 := hI.a
  refine opE_add htr (fun x hx hh => bkE_add_0 hh z2 ⟨0, 0, z2, ct_isAgentName hx (fun a ha ea => ⟨_, rfl, fun c => absurd c (by decide), fun _ => ⟨fun c => ?_, fun c => ⟨fun c2 => ?_, fun c2 => ?_⟩⟩⟩) (fun hno => ⟨_, rfl, fun _ => ⟨by omega, hIA (Or.inl hno)⟩, fun c => absurd rfl c⟩)⟩)
  · refine ⟨by omega, hIA (Or.inr (fun n n1 n2 e => ?_))⟩
    rw [e] at c
    exact nI_nlt (b := 1) n1 (by omega) c
  · -- the words are good
    obtain ⟨n, hn31, rfl⟩ := nI_of (x := v2) (fun q => c (Int32.lt_trans q (by decide)))
    have n1 : 1 ≤ n := by
      rcases Nat.lt_or_ge n 1 with q | q
      · exact absurd (nI_lt (b := 1) q (by omega)) c
      · exact q
    have n2 : n ≤ 2000 := (nI_leI hn31 (by omega)).mp (show nI n ≤ nI 2000 from c2)
    refine ⟨1, 16, by omega, _, h.1.o, ct_takeList hx h ⟨Nat.le_refl _, hlen⟩ (fun q1 fP μ1 hz1 hfP hq1 hfr1 hT1 => ⟨_, rfl, 1, 16, by omega, _, hT1.1.o, ct_seenFrom hx hT1.1 hq1 hfP hLE hlen ⟨Nat.le_refl _, Nat.le_refl _⟩ (fun q2 fse hz2 hfse => ⟨_, rfl, ?_⟩)⟩)⟩
    -- the memory behind the two
    have hT2 : sc_T κ g X [] (va_up μ1 q2 (some (sp_ia κ 16 fse))) := ⟨hT1.1.ext (sp_new_ext hz2), hT1.2⟩
    have hm1 : va_up μ1 q2 (some (sp_ia κ 16 fse)) q1 = some (sp_ia κ L.length fP) := sp_new_ext hz2 _ _ hq1
    have hm2 : va_up μ1 q2 (some (sp_ia κ 16 fse)) q2 = some (sp_ia κ 16 fse) := va_up_self _ _ _
    have h12 : q1 ≠ q2 := fun e => by rw [e, hz2] at hq1; cases hq1
    have keep : ∀ z e, μ z = some e → ¬ sc_own g X z → va_up μ1 q2 (some (sp_ia κ 16 fse)) z = some e := by
      intro z e he hno
      have w1 : z ≠ q1 := fun e' => by rw [e', hz1] at he; cases he
      have w2 : z ≠ xh X := fun e' => hno (Or.inl e')
      exact sp_new_ext hz2 _ _ (by rw [hfr1 z w1 w2]; exact he)
    have hfa : sc_fa g X μ g X (va_up μ1 q2 (some (sp_ia κ 16 fse))) := ⟨keep, fun z ho => Or.inl ho⟩
    have own0 : ∀ z, sc_own g X z → z ≠ q1 ∧ z ≠ q2 := by
      intro z ho
      refine ⟨fun e => ?_, fun e => ?_⟩
      · obtain ⟨e', he'⟩ := sc_own_some h.1.2 ho
        rw [e, hz1] at he'; cases he'
      · obtain ⟨e', he'⟩ := sc_own_some hT1.1.2 ho
        rw [e, hz2] at he'; cases he'
    have hz2' : μ q2 = none := by
      have w2 : q2 ≠ xh X := fun e => by have := (own0 (xh X) (Or.inl rfl)).2; exact this e.symm
      rw [← hfr1 q2 (Ne.symm h12) w2]
      exact hz2
    generalize hμ2 : va_up μ1 q2 (some (sp_ia κ 16 fse)) = μ2 at hT2 hm1 hm2 keep hfa
    obtain ⟨fg, hfg, hfg1, hfg2⟩ := hT2.1.og
    have uo : ad_UO g L a → Xt xUO μ2 := fun q => hUO a n μ2 ha ea n1 n2 rfl q hT2 hfa
    have is : ¬ ad_UO g L a → ad_IS g a n → Xt xIS μ2 := fun q q' => hIS a n μ2 ha ea n1 n2 rfl q q' hT2 hfa
    have hk1 : (0 + 0 + 1 + 1 + 0 ≤ mc ∧ 0 + 0 + 16 + 16 + 0 ≤ ms) := by omega
    -- the end: heads end, the agent, the span
    have s118 : ∀ r5 : Option Nat, ¬ ad_UO g L a → ¬ ad_IS g a n → ((r5 = none ∧ ∀ s, s < gA g → gM g s ≠ a) ∨ ∃ s, s < gA g ∧ gM g s = a ∧ r5 = some (xa X s)) → sp_w κ x (sp_F κ x Rt Xt mc ms) (0 + 0 + 1 + 1 + 0) (0 + 0 + 16 + 16 + 0) 118 [(0, .ref (xh X)), (1, .int v1), (2, .int (nI n)), (3, va_rf (some q1)), (4, va_rf (some q2)), (5, va_rf r5)] [] μ2 := by
      intro r5 hnu hni hr5
      have hn8 : gE g + n ≤ 8192 := Nat.le_of_not_lt fun q => hni (Or.inl q)
      have en : n = n - 1 + 1 := by omega
      refine bkE_add_118 hh hk1 ⟨0, 0, hk1, _, hT2.1.o, ct_endHeads hx hT2.1.1 hT2.1.2 hT2.2 hm1 (fun s hs => Ne.symm (own0 _ (Or.inr (Or.inr (Or.inr (Or.inr (Or.inl ⟨s, hs, rfl⟩)))))).1) hfP hLE hlen (fun b μ3 hb hM3 hfr3 => ⟨rfl, fun e5 => ?_, fun a9 e5 => ?_⟩)⟩
      · -- a new agent
        have hno : ∀ s, s < gA g → gM g s ≠ a := by
          rcases hr5 with ⟨-, q⟩ | ⟨s, -, -, q⟩
          · exact q
          · rw [e5] at q; exact nomatch q
        have hA16 : gA g < 16 := Nat.lt_of_not_le fun q => hni (Or.inr ⟨hno, q⟩)
        have hgx : ∀ s, s < gA g → xg X ≠ xa X s := fun s hs => by
          obtain ⟨ρ, r1, r2, r3, r4, r5', r6⟩ := h.2
          exact ro_ne r2 (r5' s hs) (by simp)
        have hfg3 : μ3 (xg X) = some (sp_ra κ 3 256 fg) := (hfr3 _ hgx).trans hfg
        have hhg : xh X ≠ xg X := by
          obtain ⟨ρ, r1, r2, -⟩ := h.2
          exact ro_ne r1 r2 (by decide)
        rw [ea]
        refine ⟨1, 6, by omega, _, hM3.1, ct_newAgent hx hM3.1 hfg3 hhg ha ⟨Nat.le_refl _, Nat.le_refl _⟩ (fun qa hza => ⟨some qa, rfl, ?_⟩)⟩
        obtain ⟨aNV, aN, aD⟩ := ad_new hT2 hA16 ha hno hb hM3 hza hfg3 hfg1 hfg2
        have hmq : ∀ z, (∀ s, s < gA g → z ≠ xa X s) → ∀ e, μ2 z = some e → z ≠ xh X → z ≠ xg X → va_up (va_up (va_up μ3 qa (some (.inr (0, [.int (nI a), .int (nI (gA g)), .int 0, .int (-1), .int 0, .null])))) (xg X) (some (sp_ra κ 3 256 (va_up fg a (some qa))))) (xh X) (some (sc_obj (sg_reg g a) (sc_xa (sc_xb X b) (gA g) qa) [])) z = some e := by
          intro z hz e he w1 w2
          have w3 : μ3 z = some e := (hfr3 z hz).trans he
          have w4 : z ≠ qa := fun e' => by rw [e', hza] at w3; cases w3
          exact (va_up_ne _ _ w1).trans ((va_up_ne _ _ w2).trans ((va_up_ne _ _ w4).trans w3))
        have ownA : ∀ z, sc_own (sg_reg g a) (sc_xa (sc_xb X b) (gA g) qa) z → sc_own g X z ∨ z = qa := by
          intro z ho
          rcases ho with e1 | e1 | e1 | e1 | ⟨t, ht, e1⟩ | ⟨i, hi, e1⟩
          · exact Or.inl (Or.inl e1)
          · exact Or.inl (Or.inr (Or.inl e1))
          · exact Or.inl (Or.inr (Or.inr (Or.inl e1)))
          · exact Or.inl (Or.inr (Or.inr (Or.inr (Or.inl e1))))
          · have ht' : t < gA g + 1 := ht
            have e1' : z = va_up (xa X) (gA g) qa t := e1
            by_cases q : t = gA g
            · rw [q, va_up_self] at e1'; exact Or.inr e1'
            · rw [va_up_ne _ _ q] at e1'
              exact Or.inl (Or.inr (Or.inr (Or.inr (Or.inr (Or.inl ⟨t, by omega, e1'⟩)))))
          · exact Or.inl (Or.inr (Or.inr (Or.inr (Or.inr (Or.inr ⟨i, hi, e1⟩)))))
        have x1 : ∀ s, s < gA g → q1 ≠ xa X s := fun s hs => Ne.symm (own0 _ (Or.inr (Or.inr (Or.inr (Or.inr (Or.inl ⟨s, hs, rfl⟩)))))).1
        have x2 : ∀ s, s < gA g → q2 ≠ xa X s := fun s hs => Ne.symm (own0 _ (Or.inr (Or.inr (Or.inr (Or.inr (Or.inl ⟨s, hs, rfl⟩)))))).2
        have hq1m := hmq q1 x1 _ hm1 (Ne.symm (own0 _ (Or.inl rfl)).1) (Ne.symm (own0 _ (Or.inr (Or.inl rfl))).1)
        have hq2m := hmq q2 x2 _ hm2 (Ne.symm (own0 _ (Or.inl rfl)).2) (Ne.symm (own0 _ (Or.inr (Or.inl rfl))).2)
        have hqa1 : qa ≠ q1 := fun e => by have w := (hfr3 q1 x1).trans hm1; rw [← e, hza] at w; cases w
        have hqa2 : qa ≠ q2 := fun e => by have w := (hfr3 q2 x2).trans hm2; rw [← e, hza] at w; cases w
        have hqaμ : μ qa = none := by
          cases hc : μ qa with
          | none => rfl
          | some e =>
            by_cases hown : sc_own g X qa
            · obtain ⟨e', he'⟩ := sc_own_some (X := sc_xb X b) hM3 (z := qa) hown
              rw [hza] at he'; cases he'
            · have w := keep qa e hc hown
              have w2 := hfr3 qa (fun s hs e' => hown (Or.inr (Or.inr (Or.inr (Or.inr (Or.inl ⟨s, hs, e'⟩))))))
              rw [hza] at w2
              rw [w] at w2
              cases w2
        have fin := ad_fin (X := sc_xa (sc_xb X b) (gA g) qa) (g := sg_reg g a) (s := gA g) (k := n - 1) (a1 := q1) (a2 := q2) (v1 := nI a) (r5 := none) (pv := none) (P := L) (Rt := Rt) (Xt := Xt) (kc := 0 + 0 + 1 + 1 + 0 + 0 + 1) (kn := 0 + 0 + 16 + 16 + 0 + 0 + 6) hx hh (by omega) aNV aN aD (by show gE g + (n - 1) < 8192; omega) hsort hLE
          (fun q => by have q' : 0 < va_up (gC g) (gA g) 0 (gA g) := q; rw [va_up_self] at q'; omega) hq1m hfP hq2m (fun y hy => by rw [sg_mx_reg]; exact hfse y hy)
          (fun z ho => (ownA z ho).elim (fun o => own0 z o) (fun e => by rw [e]; exact ⟨hqa1, hqa2⟩)) (fun z ho => sc_N_some aN ho) h12
          (fun X' μ' hT' hk' ho' hxh => by
            have r := hok a n X' μ' ha ea n1 n2 rfl hnu hni (by rw [sg_nxt_new hno]; exact hT') ⟨fun z e he hno' => ?_, fun z ho => ?_⟩ hxh
            · have e7 : gE g + n - 1 = gE g + (n - 1) := by omega
              rw [e7] at r
              exact r
            · have w1 := keep z e he hno'
              have w0 : ∀ s, s < gA g → z ≠ xa X s := fun s hs e' => hno' (Or.inr (Or.inr (Or.inr (Or.inr (Or.inl ⟨s, hs, e'⟩)))))
              have w2 := hmq z w0 e w1 (fun e' => hno' (Or.inl e')) (fun e' => hno' (Or.inr (Or.inl e')))
              refine hk' z e w2 (fun o => ?_) (fun e' => by rw [e', hz2'] at he; cases he)
              rcases ownA z o with o1 | o1
              · exact hno' o1
              · rw [o1, hqaμ] at he; cases he
            · rw [sg_nxt_new hno] at ho
              rcases ho' z ho with o1 | o1 | o1 | o1
              · rcases ownA z o1 with o2 | o2
                · exact Or.inl o2
                · exact Or.inr (by rw [o2]; exact hqaμ)
              · cases hc : μ z with
                | none => exact Or.inr rfl
                | some e =>
                  by_cases hown : sc_own g X z
                  · exact Or.inl hown
                  · have w1 := keep z e hc hown
                    have w0 : ∀ s, s < gA g → z ≠ xa X s := fun s hs e' => hown (Or.inr (Or.inr (Or.inr (Or.inr (Or.inl ⟨s, hs, e'⟩)))))
                    have w2 := hmq z w0 e w1 (fun e' => hown (Or.inl e')) (fun e' => hown (Or.inr (Or.inl e')))
                    rw [w2] at o1; cases o1
              · exact Or.inr (by rw [o1]; exact hz1)
              · exact Or.inr (by rw [o1]; exact hz2'))
        rw [← en] at fin
        have e9 : xa (sc_xa (sc_xb X b) (gA g) qa) (gA g) = qa := va_up_self _ _ _
        rw [e9] at fin
        have e10 : nI (gA g) + 1 = nI (gA g + 1) := nI_1 _
        rw [e10]
        exact fin
      · -- an agent that is there
        obtain ⟨s, hs, hsa, hrs⟩ : ∃ s, s < gA g ∧ gM g s = a ∧ r5 = some (xa X s) := by
          rcases hr5 with ⟨q, -⟩ | q
          · rw [e5] at q; exact nomatch q
          · exact q
        have ea9 : a9 = xa X s := by
          rw [hrs] at e5
          exact (Option.some.inj e5).symm
        obtain ⟨aNV, aN⟩ := ad_old hT2 hs hb hM3
        have hgood : 0 < gC g s → ∃ p ∈ L, gP g p s = gC g s := by
          intro h0
          have q1' : ¬ sg_mx g s L < gC g s := fun q => hnu (Or.inr ⟨s, hs, hsa, q⟩)
          have q2' : sg_mx g s L ≤ gC g s := sg_mx_le fun p hp => hI.pc (hLE p hp) hs
          obtain ⟨p, hp, hv⟩ := sg_mx_at (g := g) (x := s) (l := L) (by omega)
          exact ⟨p, hp, by omega⟩
        have x1 : ∀ s, s < gA g → q1 ≠ xa X s := fun s hs => Ne.symm (own0 _ (Or.inr (Or.inr (Or.inr (Or.inr (Or.inl ⟨s, hs, rfl⟩)))))).1
        have x2 : ∀ s, s < gA g → q2 ≠ xa X s := fun s hs => Ne.symm (own0 _ (Or.inr (Or.inr (Or.inr (Or.inr (Or.inl ⟨s, hs, rfl⟩)))))).2
        have fin := ad_fin (X := sc_xb X b) (g := g) (s := s) (k := n - 1) (a1 := q1) (a2 := q2) (v1 := v1) (r5 := some a9) (pv := some (xn X s)) (P := L) (Rt := Rt) (Xt := Xt) (kc := 0 + 0 + 1 + 1 + 0 + 0) (kn := 0 + 0 + 16 + 16 + 0 + 0) hx hh (by omega) aNV aN h.2 (by omega) hsort hLE hgood ((hfr3 q1 x1).trans hm1) hfP ((hfr3 q2 x2).trans hm2) hfse own0 (fun z ho => sc_N_some aN ho) h12
          (fun X' μ' hT' hk' ho' hxh => by
            have r := hok a n X' μ' ha ea n1 n2 rfl hnu hni (by rw [sg_nxt_old hI hs hsa]; exact hT') ⟨fun z e he hno' => ?_, fun z ho => ?_⟩ hxh
            · have e7 : gE g + n - 1 = gE g + (n - 1) := by omega
              rw [e7] at r
              exact r
            · have w1 := keep z e he hno'
              have w0 : ∀ s, s < gA g → z ≠ xa X s := fun s hs e' => hno' (Or.inr (Or.inr (Or.inr (Or.inr (Or.inl ⟨s, hs, e'⟩)))))
              exact hk' z e ((hfr3 z w0).trans w1) hno' (fun e' => by rw [e', hz2'] at he; cases he)
            · rw [sg_nxt_old hI hs hsa] at ho
              rcases ho' z ho with o1 | o1 | o1 | o1
              · exact Or.inl o1
              · cases hc : μ z with
                | none => exact Or.inr rfl
                | some e =>
                  by_cases hown : sc_own g X z
                  · exact Or.inl hown
                  · have w1 := keep z e hc hown
                    have w0 : ∀ s, s < gA g → z ≠ xa X s := fun s hs e' => hown (Or.inr (Or.inr (Or.inr (Or.inr (Or.inl ⟨s, hs, e'⟩)))))
                    rw [(hfr3 z w0).trans w1] at o1; cases o1
              · exact Or.inr (by rw [o1]; exact hz1)
              · exact Or.inr (by rw [o1]; exact hz2'))
        rw [← en] at fin
        rw [ea9] at fin ⊢
        exact fin
    have s84 : ∀ r5 : Option Nat, ¬ ad_UO g L a → ((r5 = none ∧ ∀ s, s < gA g → gM g s ≠ a) ∨ ∃ s, s < gA g ∧ gM g s = a ∧ r5 = some (xa X s)) → sp_w κ x (sp_F κ x Rt Xt mc ms) (0 + 0 + 1 + 1 + 0) (0 + 0 + 16 + 16 + 0) 84 [(0, .ref (xh X)), (1, .int v1), (2, .int (nI n)), (3, va_rf (some q1)), (4, va_rf (some q2)), (5, va_rf r5)] [] μ2 := by
      intro r5 hnu hr5
      refine bkE_add_84 hh hk1 ⟨_, hT2.1.o, _, rfl, fun c3 => ?_, fun c3 => ?_⟩
      · rw [nI_add] at c3
        have : 8192 < gE g + n := (nI_ltI (a := 8192) (by omega) (by omega)).mp c3
        exact ⟨by omega, is hnu (Or.inl this)⟩
      · rw [nI_add] at c3
        have hn8 : ¬ 8192 < gE g + n := fun q => c3 (nI_lt (a := 8192) q (by omega))
        refine ⟨fun e5 => ⟨_, rfl, fun c4 => ?_, fun c4 => ?_⟩, fun a6 e5 => ?_⟩
        · have hA16 : gA g < 16 := (nI_ltI (b := 16) (by omega) (by omega)).mp c4
          exact s118 none hnu (fun q => q.elim hn8 (fun z => by omega)) (by rw [e5] at hr5; exact hr5)
        · have hA16 : 16 ≤ gA g := Nat.le_of_not_lt fun q => c4 (nI_lt (b := 16) q (by omega))
          have hno : ∀ s, s < gA g → gM g s ≠ a := by
            rcases hr5 with ⟨-, q⟩ | ⟨s, -, -, q⟩
            · exact q
            · rw [e5] at q; exact nomatch q
          exact ⟨by omega, is hnu (Or.inr ⟨hno, hA16⟩)⟩
        · have hni : ¬ ad_IS g a n := by
            rintro (q | ⟨q, -⟩)
            · exact hn8 q
            · rcases hr5 with ⟨z, -⟩ | ⟨s, hs, hsa, -⟩
              · rw [e5] at z; exact nomatch z
              · exact q s hs hsa
          exact s118 (some a6) hnu hni (by rw [e5] at hr5; exact hr5)
    -- who makes it
    refine ⟨_, hT2.1.o, some (xg X), rfl, _, rfl, _, _, hfg, a, ea, ha, ?_⟩
    by_cases q : ∃ s, s < gA g ∧ gM g s = a
    · obtain ⟨s, hs, hsa⟩ := q
      refine ⟨some (xa X s), by rw [← hsa]; exact hfg1 s hs, 0, 0, by omega, ct_holdsAncestor hx hT2.1 hm1 hfP hLE hlen (fun e1 e2 h1 h2 hne hin => ⟨_, rfl, fun _ => ⟨by omega, uo (Or.inl ⟨e1, e2, h1, h2, hne, hin⟩)⟩, fun c => absurd c (by decide)⟩) (fun hna => ⟨_, rfl, fun c => absurd rfl c, fun _ => ⟨fun z => (nomatch z), fun a49 z49 => ?_⟩⟩)⟩
      cases z49
      refine ⟨_, hT2.1.oa hs, _, rfl, _, rfl, _, _, hm2, s, rfl, by omega, _, rfl, fun c3 => ?_, fun c3 => ?_⟩
      · rw [hfse s (by omega)] at c3
        have m1 := sg_mx_8192 (x := s) hI hLE
        have m2 := hI.cle hs
        rw [nI_leI (by omega) (by omega)] at c3
        refine s84 (some (xa X s)) (fun hu => ?_) (Or.inr ⟨s, hs, hsa, rfl⟩)
        rcases hu with ⟨e1, e2, h1, h2, h3, h4⟩ | ⟨t, ht, hta, h5⟩
        · exact hna e1 e2 h1 h2 ⟨h3, h4⟩
        · have : t = s := hI.nm ht hs (by rw [hta, hsa])
          subst this
          omega
      · rw [hfse s (by omega)] at c3
        have m1 := sg_mx_8192 (x := s) hI hLE
        have m2 := hI.cle hs
        rw [nI_leI (by omega) (by omega)] at c3
        exact ⟨by omega, uo (Or.inr ⟨s, hs, hsa, by omega⟩)⟩
    · have hno : ∀ s, s < gA g → gM g s ≠ a := fun s hs z => q ⟨s, hs, z⟩
      refine ⟨none, hfg2 a ha hno, 0, 0, by omega, ct_holdsAncestor hx hT2.1 hm1 hfP hLE hlen (fun e1 e2 h1 h2 hne hin => ⟨_, rfl, fun _ => ⟨by omega, uo (Or.inl ⟨e1, e2, h1, h2, hne, hin⟩)⟩, fun c => absurd c (by decide)⟩) (fun hna => ⟨_, rfl, fun c => absurd rfl c, fun _ => ⟨fun _ => ?_, fun _ z => nomatch z⟩⟩)⟩
      refine s84 none (fun hu => ?_) (Or.inl ⟨rfl, hno⟩)
      rcases hu with ⟨e1, e2, h1, h2, h3, h4⟩ | ⟨t, ht, hta, h5⟩
      · exact hna e1 e2 h1 h2 ⟨h3, h4⟩
      · exact hno t ht hta
  · refine ⟨by omega, hIA (Or.inr (fun n n1 n2 e => c2 ?_))⟩
    rw [e]
    exact nI_le (b := 2000) n2 (by omega)
end
