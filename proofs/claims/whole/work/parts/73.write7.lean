/-! add -/
/-- the memory as append finds it: agent s may be new -/
def sc_N (κ : sp_K) (g : sg_G) (X : sc_X) (s : Nat) (pv : Option Nat) (μ : sp_M) : Prop :=
  μ (xh X) = some (sc_obj g X []) ∧
  (∃ f, μ (xg X) = some (sp_ra κ 3 256 f) ∧ (∀ s, s < gA g → f (gM g s) = some (xa X s)) ∧ ∀ a, a < 256 → (∀ s, s < gA g → gM g s ≠ a) → f a = none) ∧
  (∃ f, μ (xp X) = some (sp_ra κ 4 8192 f) ∧ (∀ i, i < xm X → ∀ e, xf X i ≤ e → e < xf X (i + 1) → f e = some (xs X i)) ∧ ∀ e, gE g ≤ e → e < 8192 → f e = none) ∧
  (∃ f, μ (xl X) = some (sp_ia κ 16 f)) ∧
  (∀ t, t < gA g → t ≠ s → μ (xa X t) = some (sc_ag g X t)) ∧
  (∃ x3 x4, μ (xa X s) = some (.inr (0, [.int (nI (gM g s)), .int (nI s), .int (nI (gC g s)), .int x3, .int x4, va_rf (pv.map (xs X))]))) ∧
  (∀ i, i < xm X → μ (xs X i) = some (sc_sp g X i)) ∧
  (∀ i, i < xm X → ∃ f, μ (xq X i) = some (sp_ia κ (gR g (xf X i)).length f) ∧ ∀ k, k < (gR g (xf X i)).length → f k = nI ((gR g (xf X i)).getD k 0)) ∧
  (∀ i, i < xm X → ∃ f, μ (xe X i) = some (sp_ia κ 16 f) ∧ ∀ x, x < 16 → f x = nI (gP g (xf X i) x))
def sc_NV (g : sg_G) (X : sc_X) (s : Nat) (pv : Option Nat) (P : List Nat) : Prop :=
  sg_I g ∧ sg_S g (xm X) (xf X) ∧ s < gA g ∧ (∀ t, t < gA g → t ≠ s → 0 < gC g t) ∧
  (∀ t, t < gA g → t ≠ s → xn X t < xm X ∧ gS g (xf X (xn X t)) = t ∧ ∀ i, xn X t < i → i < xm X → gS g (xf X i) ≠ t) ∧
  (∀ j, pv = some j → j < xm X ∧ gS g (xf X j) = s) ∧ (∀ i, i < xm X → gS g (xf X i) = s → ∃ j, pv = some j ∧ i ≤ j) ∧
  (∀ i, i < xm X → ∀ j, xv X i = some j → j < i ∧ gS g (xf X j) = gS g (xf X i)) ∧ (∀ i, i < xm X → ∀ j, j < i → gS g (xf X j) = gS g (xf X i) → ∃ k, xv X i = some k ∧ j ≤ k) ∧
  (∀ t, t < gA g → t ≠ s → (xb X t = 1 ∧ (sg_hd g t ∧ sg_lt g t ∉ P)) ∨ (xb X t = 0 ∧ ¬ (sg_hd g t ∧ sg_lt g t ∉ P)))
/-- what add leaves of the cells that aren't the class's -/
def sc_fa (g : sg_G) (X : sc_X) (μ : sp_M) (g' : sg_G) (X' : sc_X) (μ' : sp_M) : Prop := (∀ z e, μ z = some e → ¬ sc_own g X z → μ' z = some e) ∧ ∀ z, sc_own g' X' z → sc_own g X z ∨ μ z = none
/-- the value with the agent a, and its slot -/
def sg_nxt (g : sg_G) (a : Nat) : sg_G × Nat := match sg_slot g a (gA g) with
  | some s => (g, s)
  | none => (sg_reg g a, gA g)
section
variable {l : Launch} {κ : sp_K} {g : sg_G} {X : sc_X} {L P : List Nat} {μ : sp_M} {mc ms : Nat} {Rt : Option Value → sp_M → Prop} {Xt : String → sp_M → Prop}
theorem ad_fin {x : sp_X} {kc kn s k a1 a2 : Nat} {v1 : Int32} {r5 : Option Nat} {pv : Option Nat} {fP fse : Nat → Int32} (hx : x.2.1.stackTraces = false) (hh : cxE_add κ x mc ms) (hk : kc + 1 ≤ mc ∧ kn + 9 ≤ ms)
    (hNV : sc_NV g X s pv P) (hN : sc_N κ g X s pv μ) (hD : sc_D g X) (hE : gE g + k < 8192) (hPs : P.Pairwise (· < ·)) (hPl : ∀ p ∈ P, p < gE g) (hg : 0 < gC g s → ∃ p ∈ P, gP g p s = gC g s)
    (ha1 : μ a1 = some (sp_ia κ P.length fP)) (hfP : ∀ j, j < P.length → fP j = nI (P.getD j 0)) (ha2 : μ a2 = some (sp_ia κ 16 fse)) (hfse : ∀ x, x < 16 → fse x = nI (sg_mx g x P)) (hown : ∀ z, sc_own g X z → z ≠ a1 ∧ z ≠ a2) (hownS : ∀ z, sc_own g X z → (μ z).isSome = true) (h12 : a1 ≠ a2)
    (hR : ∀ (X' : sc_X) (μ' : sp_M), sc_T κ (sg_ad g s P k) X' [] μ' → (∀ z e, μ z = some e → ¬ sc_own g X z → z ≠ a2 → μ' z = some e) → (∀ z, sc_own (sg_ad g s P k) X' z → sc_own g X z ∨ μ z = none ∨ z = a1 ∨ z = a2) → xh X' = xh X → Rt (some (.int (nI (gE g + k)))) μ') :
    sp_w κ x (sp_F κ x Rt Xt mc ms) kc kn 139 [(0, .ref (xh X)), (1, .int v1), (2, .int (nI (k + 1))), (3, va_rf (some a1)), (4, va_rf (some a2)), (5, va_rf r5)] [va_rf (some (xa X s)), .ref (xh X)] μ := by
  obtain ⟨hI, hS, hs, hc, hn, hp1, hp2, hv1, hv2, hb⟩ := hNV
  obtain ⟨no, nog, ⟨fsp, nop, hfs1, hfs2⟩, nol, noa, ⟨x3, x4, nas⟩, nos, noq, noe⟩ := hN
  have h16 := hI.a
  refine bkE_add_139 hh ⟨by omega, by omega⟩ ⟨1, 9, hk, _, no, ct_append hx no nas nop ha2 (by omega) (by omega) (by omega) ⟨Nat.le_refl _, Nat.le_refl _⟩ (fun q f' hz hf' => ⟨rfl, _, va_up_self _ _ _, _, rfl, ?_⟩)⟩
  have hq1 : q ≠ a1 := fun e => by rw [e, ha1] at hz; cases hz
  have hq2 : q ≠ a2 := fun e => by rw [e, ha2] at hz; cases hz
  have hown' : ∀ z, sc_own g X z → z ≠ q ∧ z ≠ a1 ∧ z ≠ a2 := fun z ho => ⟨(fun e => by have := hownS z ho; rw [e, hz] at this; cases this), hown z ho⟩
  have hT : sc_T κ (sg_ad g s P k) (ap_X X s k (gE g) q a1 a2 pv) [] (ap_mem κ μ (xh X) (xa X s) a1 a2 (xp X) (xg X) q (gE g) (k + 1) (gC g s) s (nI (gM g s)) (nI (gA g)) (nI 0) (.ref (xl X)) fse f' (sc_pt X (xm X)) (pv.map (xs X))) :=
    ⟨⟨ap_V hI hS hs hE hPs hPl hg hc hn hp1 hp2 hv1 hv2 hb, ap_M hI hS hs hE hPs hPl hg (fun t ht q1 => (hn t ht q1).1) (fun j hj => (hp1 j hj).1) (fun i hi j hj => (hv1 i hi j hj).1) nog hfs1 hfs2 nol noa nos noq noe ha1 hfP hfse hD hown' h12 hq1 hq2 hf'⟩, ap_D hD hown' h12 hq1 hq2⟩
  have e1 : nI (gE g + (k + 1)) - 1 = nI (gE g + k) := by
    rw [sn_p1 (gE g + k)]
    rfl
  rw [e1]
  refine hR _ _ hT (fun z e he hno z2 => ?_) (fun z ho => ?_) rfl
  · have w1 : z ≠ xh X := fun e => hno (Or.inl e)
    have w2 : z ≠ xa X s := fun e => hno (Or.inr (Or.inr (Or.inr (Or.inr (Or.inl ⟨s, hs, e⟩)))))
    have w3 : z ≠ xp X := fun e => hno (Or.inr (Or.inr (Or.inl e)))
    have w4 : z ≠ q := fun e => by rw [e, hz] at he; cases he
    exact (va_up_ne _ _ w1).trans ((va_up_ne _ _ w2).trans ((va_up_ne _ _ w3).trans ((va_up_ne _ _ w4).trans ((va_up_ne _ _ z2).trans he))))
  · rcases ho with h1 | h1 | h1 | h1 | ⟨t, ht, h1⟩ | ⟨i, hi, h1⟩
    · exact Or.inl (Or.inl h1)
    · exact Or.inl (Or.inr (Or.inl h1))
    · exact Or.inl (Or.inr (Or.inr (Or.inl h1)))
    · exact Or.inl (Or.inr (Or.inr (Or.inr (Or.inl h1))))
    · rw [sg_ad_A] at ht
      exact Or.inl (Or.inr (Or.inr (Or.inr (Or.inr (Or.inl ⟨t, ht, h1⟩)))))
    · have hi' : i < xm X + 1 := hi
      have h1' : z = va_up (xs X) (xm X) q i ∨ z = va_up (xq X) (xm X) a1 i ∨ z = va_up (xe X) (xm X) a2 i := h1
      by_cases q1 : i = xm X
      · rw [q1, va_up_self, va_up_self, va_up_self] at h1'
        rcases h1' with h2 | h2 | h2
        · exact Or.inr (Or.inl (by rw [h2]; exact hz))
        · exact Or.inr (Or.inr (Or.inl h2))
        · exact Or.inr (Or.inr (Or.inr h2))
      · rw [va_up_ne _ _ q1, va_up_ne _ _ q1, va_up_ne _ _ q1] at h1'
        exact Or.inl (Or.inr (Or.inr (Or.inr (Or.inr (Or.inr ⟨i, by omega, h1'⟩)))))
theorem sc_own_some (h : sc_M κ g X L μ) {z : Nat} (ho : sc_own g X z) : ∃ e, μ z = some e := by
  obtain ⟨h1, ⟨f2, h2, -⟩, ⟨f3, h3, -⟩, ⟨f4, h4, -⟩, h5, h6, h7, h8⟩ := h
  rcases ho with rfl | rfl | rfl | rfl | ⟨t, ht, rfl⟩ | ⟨i, hi, rfl | rfl | rfl⟩
  · exact ⟨_, h1⟩
  · exact ⟨_, h2⟩
  · exact ⟨_, h3⟩
  · exact ⟨_, h4⟩
  · exact ⟨_, h5 t ht⟩
  · exact ⟨_, h6 i hi⟩
  · obtain ⟨f, hf, -⟩ := h7 i hi; exact ⟨_, hf⟩
  · obtain ⟨f, hf, -⟩ := h8 i hi; exact ⟨_, hf⟩
/-- an agent that is there: the state that append finds -/
theorem ad_old (hT : sc_T κ g X [] μ) {s : Nat} (hs : s < gA g) {b : Nat → Int32} {μ3 : sp_M} (hb : ∀ s, s < gA g → b s = if sg_lt g s ∈ P then 0 else xb X s) (hM : sc_M κ g (sc_xb X b) [] μ3) :
    sc_NV g (sc_xb X b) s (some (xn X s)) P ∧ sc_N κ g (sc_xb X b) s (some (xn X s)) μ3 := by
  obtain ⟨⟨⟨v1, v2, v3, v4, v5, v6, v7, v8⟩, hM0⟩, hD⟩ := hT
  obtain ⟨h1, h2, h3, ⟨f4, h4, -⟩, h5, h6, h7, h8⟩ := hM
  obtain ⟨w1, w2, w3⟩ := v4 s hs
  refine ⟨⟨v1, v2, hs, fun t ht _ => v3 t ht, fun t ht _ => v4 t ht, fun j hj => ?_, fun i hi his => ⟨_, rfl, ?_⟩, v5, v6, fun t ht _ => ?_⟩, h1, h2, h3, ⟨f4, h4⟩, fun t ht _ => h5 t ht, ⟨_, _, h5 s hs⟩, h6, h7, h8⟩
  · cases hj
    exact ⟨w1, w2⟩
  · rcases Nat.lt_or_ge (xn X s) i with q | q
    · exact absurd his (w3 i q hi)
    · exact q
  · show (b t = 1 ∧ _) ∨ (b t = 0 ∧ _)
    rw [hb t ht]
    by_cases q : sg_lt g t ∈ P
    · rw [if_pos q]
      exact Or.inr ⟨rfl, fun z => z.2 q⟩
    · rw [if_neg q]
      rcases v7 t ht with ⟨q1, q2⟩ | ⟨q1, q2⟩
      · exact Or.inl ⟨q1, q2, q⟩
      · exact Or.inr ⟨q1, fun z => q2 z.1⟩
/-- X with a new agent's object -/
def sc_xa (X : sc_X) (A qa : Nat) : sc_X := (xh X, xg X, xp X, xl X, va_up (xa X) A qa, xs X, xq X, xe X, xm X, xf X, xn X, xb X, xv X)
theorem sg_reg_hd (h : sg_I g) {a t : Nat} (ht : t < gA g) (hc : ∀ u, u < gA g → 0 < gC g u) : sg_hd (sg_reg g a) t ↔ sg_hd g t := by
  have lt : ∀ u, u < gA g → sg_lt (sg_reg g a) u = sg_lt g u := fun u hu => by
    show gT g u (va_up (gC g) (gA g) 0 u - 1) = _
    rw [va_up_ne _ _ (by omega)]
    rfl
  constructor
  · intro hh u hu hcu hne hin
    refine hh u (by show u < gA g + 1; omega) ?_ (by rw [lt u hu, lt t ht]; exact hne) (by rw [lt u hu, lt t ht]; exact hin)
    show 0 < va_up (gC g) (gA g) 0 u
    rw [va_up_ne _ _ (by omega)]
    exact hcu
  · intro hh u hu hcu hne hin
    have hu' : u < gA g + 1 := hu
    have hcu' : 0 < va_up (gC g) (gA g) 0 u := hcu
    by_cases q : u = gA g
    · rw [q, va_up_self] at hcu'; omega
    · rw [lt u (by omega), lt t ht] at hne hin
      exact hh u (by omega) (hc u (by omega)) hne hin
theorem ad_new (hT : sc_T κ g X [] μ) {a qa : Nat} (hA : gA g < 16) (ha : a < 256) (hno : ∀ s, s < gA g → gM g s ≠ a) {b : Nat → Int32} {μ3 : sp_M} {f : Nat → Option Nat} (hb : ∀ s, s < gA g → b s = if sg_lt g s ∈ P then 0 else xb X s) (hM : sc_M κ g (sc_xb X b) [] μ3) (hz : μ3 qa = none) (hf : μ3 (xg X) = some (sp_ra κ 3 256 f)) (hfv : ∀ s, s < gA g → f (gM g s) = some (xa X s)) (hfn : ∀ a, a < 256 → (∀ s, s < gA g → gM g s ≠ a) → f a = none) :
    sc_NV (sg_reg g a) (sc_xa (sc_xb X b) (gA g) qa) (gA g) none P ∧ sc_N κ (sg_reg g a) (sc_xa (sc_xb X b) (gA g) qa) (gA g) none (va_up (va_up (va_up μ3 qa (some (.inr (0, [.int (nI a), .int (nI (gA g)), .int 0, .int (-1), .int 0, .null])))) (xg X) (some (sp_ra κ 3 256 (va_up f a (some qa))))) (xh X) (some (sc_obj (sg_reg g a) (sc_xa (sc_xb X b) (gA g) qa) []))) ∧ sc_D (sg_reg g a) (sc_xa (sc_xb X b) (gA g) qa) := by
  obtain ⟨⟨⟨v1, v2, v3, v4, v5, v6, v7, v8⟩, hM0⟩, hD⟩ := hT
  have hsome : ∀ z, sc_own g X z → z ≠ qa := by
    intro z ho e
    obtain ⟨e', he'⟩ := sc_own_some (X := sc_xb X b) hM (z := z) ho
    rw [e, hz] at he'
    cases he'
  obtain ⟨h1, h2, h3, ⟨f4, h4, -⟩, h5, h6, h7, h8⟩ := hM
  have hI := sg_reg_I v1 hA ha hno
  obtain ⟨ρ, r1, r2, r3, r4, r5, r6⟩ := hD
  have kp : ∀ {z : Nat} {r : Nat × Nat} {e : va_E}, sc_own g X z → ρ z = r → r ≠ (1, 0) → r ≠ (2, 0) → μ3 z = some e → va_up (va_up (va_up μ3 qa (some (.inr (0, [.int (nI a), .int (nI (gA g)), .int 0, .int (-1), .int 0, .null])))) (xg X) (some (sp_ra κ 3 256 (va_up f a (some qa))))) (xh X) (some (sc_obj (sg_reg g a) (sc_xa (sc_xb X b) (gA g) qa) [])) z = some e := by
    intro z r e ho hr n1 n2 he
    exact (va_up_ne _ _ (ro_ne hr r1 n1)).trans ((va_up_ne _ _ (ro_ne hr r2 n2)).trans ((va_up_ne _ _ (hsome z ho)).trans he))
  have o3 : sc_own g X (xp X) := Or.inr (Or.inr (Or.inl rfl))
  have o4 : sc_own g X (xl X) := Or.inr (Or.inr (Or.inr (Or.inl rfl)))
  have o5 : ∀ t, t < gA g → sc_own g X (xa X t) := fun t ht => Or.inr (Or.inr (Or.inr (Or.inr (Or.inl ⟨t, ht, rfl⟩))))
  have o6 : ∀ i, i < xm X → sc_own g X (xs X i) ∧ sc_own g X (xq X i) ∧ sc_own g X (xe X i) := fun i hi => ⟨Or.inr (Or.inr (Or.inr (Or.inr (Or.inr ⟨i, hi, Or.inl rfl⟩)))), Or.inr (Or.inr (Or.inr (Or.inr (Or.inr ⟨i, hi, Or.inr (Or.inl rfl)⟩)))), Or.inr (Or.inr (Or.inr (Or.inr (Or.inr ⟨i, hi, Or.inr (Or.inr rfl)⟩))))⟩
  have ltE : ∀ u, u < gA g → sg_lt (sg_reg g a) u = sg_lt g u := fun u hu => by
    show gT g u (va_up (gC g) (gA g) 0 u - 1) = _
    rw [va_up_ne _ _ (by omega)]
    rfl
  have xaO : ∀ t, t < gA g → xa (sc_xa (sc_xb X b) (gA g) qa) t = xa X t := fun t ht => va_up_ne _ _ (by omega)
  have xaN : xa (sc_xa (sc_xb X b) (gA g) qa) (gA g) = qa := va_up_self _ _ _
  have hqh : qa ≠ xh X := Ne.symm (hsome _ (Or.inl rfl))
  have hqg : qa ≠ xg X := Ne.symm (hsome _ (Or.inr (Or.inl rfl)))
  refine ⟨⟨hI, v2, Nat.lt_succ_self _, fun t ht q => ?_, fun t ht q => ?_, fun j hj => (nomatch hj), fun i hi his => ?_, v5, v6, fun t ht q => ?_⟩, ⟨va_up_self _ _ _, ⟨va_up f a (some qa), ?_, fun t ht => ?_, fun c hc hn => ?_⟩, ?_, ⟨f4, kp o4 r4 (by decide) (by decide) h4⟩, fun t ht q => ?_, ⟨-1, 0, ?_⟩, fun i hi => ?_, fun i hi => ?_, fun i hi => ?_⟩, ⟨fun z => if z = qa then (5, gA g) else ρ z, ?_⟩⟩
  · have ht' : t < gA g + 1 := ht
    show 0 < va_up (gC g) (gA g) 0 t
    rw [va_up_ne _ _ q]
    exact v3 t (by omega)
  · have ht' : t < gA g + 1 := ht
    exact v4 t (by omega)
  · have hsl := v1.s (v2.lt hi)
    have his' : gS g (xf X i) = gA g := his
    omega
  · have ht' : t < gA g + 1 := ht
    have ht2 : t < gA g := by omega
    rw [sg_reg_hd v1 ht2 v3, ltE t ht2]
    show (b t = 1 ∧ _) ∨ (b t = 0 ∧ _)
    rw [hb t ht2]
    by_cases q2 : sg_lt g t ∈ P
    · rw [if_pos q2]
      exact Or.inr ⟨rfl, fun z => z.2 q2⟩
    · rw [if_neg q2]
      rcases v7 t ht2 with ⟨q3, q4⟩ | ⟨q3, q4⟩
      · exact Or.inl ⟨q3, q4, q2⟩
      · exact Or.inr ⟨q3, fun z => q4 z.1⟩
  · exact (va_up_ne _ _ (ro_ne r2 r1 (by decide))).trans (va_up_self _ _ _)
  · have ht' : t < gA g + 1 := ht
    show va_up f a (some qa) (va_up (gM g) (gA g) a t) = some (va_up (xa X) (gA g) qa t)
    by_cases q : t = gA g
    · rw [q, va_up_self, va_up_self, va_up_self]
    · rw [va_up_ne (gM g) _ q, va_up_ne _ _ (hno t (by omega)), va_up_ne _ _ q]
      exact hfv t (by omega)
  · have hca : c ≠ a := fun e => hn (gA g) (Nat.lt_succ_self _) (by show va_up (gM g) (gA g) a (gA g) = c; rw [va_up_self, e])
    rw [va_up_ne _ _ hca]
    refine hfn c hc (fun t ht e => hn t (Nat.lt_succ_of_lt ht) ?_)
    show va_up (gM g) (gA g) a t = c
    rw [va_up_ne _ _ (by omega)]
    exact e
  · obtain ⟨f3, h3a, h3b, h3c⟩ := h3
    exact ⟨f3, kp o3 r3 (by decide) (by decide) h3a, h3b, h3c⟩
  · have ht' : t < gA g + 1 := ht
    have ht2 : t < gA g := by omega
    rw [xaO t ht2]
    show _ = some (Sum.inr (0, [Value.int (nI (va_up (gM g) (gA g) a t)), .int (nI t), .int (nI (va_up (gC g) (gA g) 0 t)), .int (nI (sg_lt (sg_reg g a) t)), .int (b t), va_rf (some (xs X (xn X t)))]))
    rw [va_up_ne (gM g) _ q, va_up_ne (gC g) _ q, ltE t ht2]
    exact kp (o5 t ht2) (r5 t ht2) (by simp) (by simp) (h5 t ht2)
  · rw [xaN]
    show _ = some (Sum.inr (0, [Value.int (nI (va_up (gM g) (gA g) a (gA g))), .int (nI (gA g)), .int (nI (va_up (gC g) (gA g) 0 (gA g))), .int (-1), .int 0, .null]))
    rw [va_up_self (gM g), va_up_self (gC g)]
    exact (va_up_ne _ _ hqh).trans ((va_up_ne _ _ hqg).trans (va_up_self _ _ _))
  · have hsl := v1.s (v2.lt hi)
    have e1 : sc_sp (sg_reg g a) (sc_xa (sc_xb X b) (gA g) qa) i = sc_sp g X i := by
      show Sum.inr (1, [Value.ref (va_up (xa X) (gA g) qa (gS g (xf X i))), _, _, _, _, _, _, _, _]) = _
      rw [va_up_ne _ _ (by omega)]
      rfl
    rw [e1]
    exact kp (o6 i hi).1 (r6 i hi).1 (by simp) (by simp) (h6 i hi)
  · obtain ⟨f7, h7a, h7b⟩ := h7 i hi
    exact ⟨f7, kp (o6 i hi).2.1 (r6 i hi).2.1 (by simp) (by simp) h7a, h7b⟩
  · obtain ⟨f8, h8a, h8b⟩ := h8 i hi
    exact ⟨f8, kp (o6 i hi).2.2 (r6 i hi).2.2 (by simp) (by simp) h8a, h8b⟩
  · have kq : ∀ {z : Nat} {r : Nat × Nat}, sc_own g X z → ρ z = r → (if z = qa then (5, gA g) else ρ z) = r := fun ho hr => by rw [if_neg (hsome _ ho)]; exact hr
    refine ⟨kq (Or.inl rfl) r1, kq (Or.inr (Or.inl rfl)) r2, kq o3 r3, kq o4 r4, fun t ht => ?_, fun i hi => ⟨kq (o6 i hi).1 (r6 i hi).1, kq (o6 i hi).2.1 (r6 i hi).2.1, kq (o6 i hi).2.2 (r6 i hi).2.2⟩⟩
    have ht' : t < gA g + 1 := ht
    by_cases q : t = gA g
    · rw [q, xaN]
      exact if_pos rfl
    · rw [xaO t (by omega)]
      exact kq (o5 t (by omega)) (r5 t (by omega))
end
