/-! add, in the reference: the loops -/
/-- a row's length when k more have come -/
def md_nk (N C : Nat) : Nat → Nat
  | 0 => N
  | k + 1 => md_n1 (md_nk N C k) (C + k)
theorem md_n1_le (N C : Nat) : N ≤ md_n1 N C := by
  unfold md_n1
  split <;> omega
theorem md_nk_le (N C : Nat) : ∀ k, N ≤ md_nk N C k
  | 0 => Nat.le_refl _
  | k + 1 => Nat.le_trans (md_nk_le N C k) (md_n1_le _ _)
theorem md_nk_up (N C : Nat) {k : Nat} : ∀ d, md_nk N C k ≤ md_nk N C (k + d)
  | 0 => Nat.le_refl _
  | d + 1 => Nat.le_trans (md_nk_up N C d) (md_n1_le _ _)
/-- the state when k have come -/
def md_G (g : sg_G) (s : Nat) (L : List Nat) (k : Nat) : sg_G := if k = 0 then g else sg_ad g s L (k - 1)
section
variable {l : Launch} {κ : sp_K} {g : sg_G} {Y : md_Y} {m : List Nat} {c : Nat} {th : Int32} {μ μ' : sp_M} {mc ms : Nat} {Rt : Option Value → sp_M → Prop} {Xt : String → sp_M → Prop} {s : Nat}
theorem md_G_0 {L : List Nat} : md_G g s L 0 = g := rfl
theorem md_G_s {L : List Nat} {k : Nat} : md_G g s L (k + 1) = sg_ad g s L k := rfl
theorem md_G_E {L : List Nat} (k : Nat) : gE (md_G g s L k) = gE g + k := by
  cases k with
  | zero => rfl
  | succ k => rw [md_G_s, sg_ad_E]; omega
theorem md_G_A {L : List Nat} (k : Nat) : gA (md_G g s L k) = gA g := by
  cases k with
  | zero => rfl
  | succ k => rw [md_G_s, sg_ad_A]
theorem md_G_C {L : List Nat} (k : Nat) : gC (md_G g s L k) s = gC g s + k := by
  cases k with
  | zero => rfl
  | succ k => rw [md_G_s, sg_ad_C, if_pos rfl]; omega
theorem cm_come' (htr : l.stackTraces = false) (h : md_R κ g Y c th μ) {a0 : Nat} (ha0 : a0 = ya Y 0) {ml : List Nat} {v2 v3 : Int32} (hv2 : v2 = nI ml.length) (hs : s < gA g) (hE : gE g < 8192) (hml : ml.length ≤ 16) (hmE : ∀ e ∈ ml, e < gE g) (hnd : ml.Nodup) (hg : 0 < gC g s → ∃ p ∈ ml, gP g p s = gC g s)
    (hP0 : v3 = 0 → ∀ i, i < ml.length → nI (gE g) - 1 = nI (ml.getD i 0)) (hP1 : v3 ≠ 0 → ∃ fl, μ (ya Y 9) = some (sp_ia κ 16 fl) ∧ ∀ i, i < ml.length → fl i = nI (ml.getD i 0)) (hr : 1 ≤ mc ∧ 2 * (md_n1 (yn Y s) (gC g s) - yn Y s) ≤ ms)
    (hR : ∀ Y' μ', md_R κ (sg_come g s (sg_sort [] ml)) Y' c th μ' → yn Y' = va_up (yn Y) s (md_n1 (yn Y s) (gC g s)) → (∀ i, i < 11 → ya Y' i = ya Y i) → md_fa Y μ Y' μ' → μ' (ya Y 9) = μ (ya Y 9) → Rt none μ') :
    sp_m l κ yM_come wM_come 2 48 mc ms [.ref a0, .int (nI s), .int v2, .int v3] μ Rt Xt := by
  subst ha0 hv2
  exact cm_come htr h hs hE hml hmE hnd hg hP0 hP1 hr hR
theorem lm_addL {x : sp_X} {k0 n0 n : Nat} {v1 v5 : Int32} {fl : Nat → Int32} (hx : x.2.1.stackTraces = false) (hh : cxM_add0 κ x mc ms) (hk : k0 + n ≤ mc ∧ n0 + 2 * (md_nk (yn Y s) (gC g s) n - yn Y s) ≤ ms) (hs : s < gA g) (hE : gE g + n ≤ 8192) (hml : m.length ≤ 16) (hmE : ∀ e ∈ m, e < gE g) (hnd : m.Nodup) (hg : 0 < gC g s → ∃ p ∈ m, gP g p s = gC g s) (hfl : μ (ya Y 9) = some (sp_ia κ 16 fl)) (hvl : ∀ i, i < m.length → fl i = nI (m.getD i 0))
    (hR : ∀ Y' μ', md_R κ (md_G g s (sg_sort [] m) n) Y' 0 th μ' → yn Y' = va_up (yn Y) s (md_nk (yn Y s) (gC g s) n) → (∀ i, i < 11 → ya Y' i = ya Y i) → md_fa Y μ Y' μ' → Rt (some (.int (nI (gE g + n) - 1))) μ') :
    ∀ (d k kc ks : Nat) (Yt : md_Y) (μt : sp_M), n = k + d → kc = k0 + k → ks = n0 + 2 * (md_nk (yn Y s) (gC g s) k - yn Y s) → md_R κ (md_G g s (sg_sort [] m) k) Yt 0 th μt → yn Yt = va_up (yn Y) s (md_nk (yn Y s) (gC g s) k) → (∀ i, i < 11 → ya Yt i = ya Y i) → md_fa Y μ Yt μt → μt (ya Y 9) = μ (ya Y 9) →
      sp_w κ x (sp_F κ x Rt Xt mc ms) kc ks 263 [(0, .ref (ya Y 0)), (1, .int v1), (2, .int (nI n)), (3, .int (nI m.length)), (4, .int (nI s)), (5, .int v5), (6, .int (nI k))] [] μt := by
  intro d
  induction d with
  | zero =>
    intro k kc ks Yt μt hd e1 e2 hT hy1 hy2 hfa h9
    have ek : k = n := by omega
    subst ek
    have o : μt (ya Y 0) = some (md_obj (md_G g s (sg_sort [] m) k) Yt 0 th) := by rw [← hy2 0 (by omega)]; exact hT.o
    have hkk : kc ≤ mc ∧ ks ≤ ms := by omega
    refine bkM_add0_263 hh hkk ⟨fun _ => ⟨_, o, _, rfl, ?_⟩, fun cc => absurd (Int32.le_refl _) cc⟩
    rw [md_G_E]
    exact hR Yt μt hT hy1 hy2 hfa
  | succ d ih =>
    intro k kc ks Yt μt hd e1 e2 hT hy1 hy2 hfa h9
    have o : μt (ya Y 0) = some (md_obj (md_G g s (sg_sort [] m) k) Yt 0 th) := by rw [← hy2 0 (by omega)]; exact hT.o
    have u1 := md_nk_up (yn Y s) (gC g s) (k := k + 1) d
    have u2 := md_n1_le (md_nk (yn Y s) (gC g s) k) (gC g s + k)
    have u3 := md_nk_le (yn Y s) (gC g s) k
    have u4 : md_nk (yn Y s) (gC g s) (k + 1) = md_n1 (md_nk (yn Y s) (gC g s) k) (gC g s + k) := rfl
    rw [show k + 1 + d = n by omega] at u1
    have hkk : kc ≤ mc ∧ ks ≤ ms := by omega
    have eyn : yn Yt s = md_nk (yn Y s) (gC g s) k := by rw [hy1, va_up_self]
    have eC := md_G_C (g := g) (s := s) (L := sg_sort [] m) k
    have eE := md_G_E (g := g) (s := s) (L := sg_sort [] m) k
    have eA := md_G_A (g := g) (s := s) (L := sg_sort [] m) k
    have room : kc + 1 ≤ mc ∧ ks + 2 * (md_n1 (yn Yt s) (gC (md_G g s (sg_sort [] m) k) s) - yn Yt s) ≤ ms := by
      rw [eyn, eC]
      omega
    have nxt : ∀ Y' μ', md_R κ (md_G g s (sg_sort [] m) (k + 1)) Y' 0 th μ' → yn Y' = va_up (yn Yt) s (md_n1 (yn Yt s) (gC (md_G g s (sg_sort [] m) k) s)) → (∀ i, i < 11 → ya Y' i = ya Yt i) → md_fa Yt μt Y' μ' → μ' (ya Yt 9) = μt (ya Yt 9) → sp_w κ x (sp_F κ x Rt Xt mc ms) (kc + 1) (ks + 2 * (md_n1 (yn Yt s) (gC (md_G g s (sg_sort [] m) k) s) - yn Yt s)) 263 [(0, .ref (ya Y 0)), (1, .int v1), (2, .int (nI n)), (3, .int (nI m.length)), (4, .int (nI s)), (5, .int v5), (6, .int (nI k + 1))] [] μ' := by
      intro Y' μ' q1 q2 q3 q4 q5
      rw [nI_1]
      refine ih (k + 1) _ _ Y' μ' (by omega) (by omega) ?_ q1 ?_ (fun i hi => (q3 i hi).trans (hy2 i hi)) (hfa.trans q4 hfa.2) ?_
      · rw [eyn, eC, e2, u4]
        omega
      · rw [q2, eyn, eC, hy1]
        funext t
        by_cases q : t = s
        · rw [q, va_up_self, va_up_self]; rfl
        · rw [va_up_ne _ _ q, va_up_ne _ _ q, va_up_ne _ _ q]
      · rw [← hy2 9 (by omega), q5, hy2 9 (by omega)]
        exact h9
    by_cases hk0 : k = 0
    · subst hk0
      refine bkM_add0_263 hh hkk ⟨fun cc => absurd cc (nI_ge (by omega) (by omega)), fun _ => ⟨fun cc => absurd rfl cc, fun _ => bkM_add0_282 hh hkk ⟨fun cc => absurd rfl cc, fun _ => ⟨1, _, room, _, o, ?_⟩⟩⟩⟩
      refine cm_come' hx hT (hy2 0 (by omega)).symm (ml := m) rfl hs (by omega) hml hmE hnd hg (fun z => absurd z (by decide)) (fun _ => ⟨fl, ?_, hvl⟩) ⟨Nat.le_refl _, Nat.le_refl _⟩ (fun Y' μ' q1 q2 q3 q4 q5 => ⟨rfl, nxt Y' μ' q1 q2 q3 q4 q5⟩)
      rw [hy2 9 (by omega), h9]
      exact hfl
    · obtain ⟨k', rfl⟩ : ∃ k', k = k' + 1 := ⟨k - 1, by omega⟩
      have hnz : ¬ nI (k' + 1) = 0 := nI_ne0 (by omega) (by omega)
      refine bkM_add0_263 hh hkk ⟨fun cc => absurd cc (nI_ge (by omega) (by omega)), fun _ => ⟨fun _ => bkM_add0_282 hh hkk ⟨fun _ => ⟨1, _, room, _, o, ?_⟩, fun cc => absurd cc hnz⟩, fun cc => absurd cc hnz⟩⟩
      refine cm_come' hx hT (hy2 0 (by omega)).symm (ml := [gE (md_G g s (sg_sort [] m) (k' + 1)) - 1]) rfl (by omega) (by omega) (by simp) (fun e he => ?_) (by simp) (fun _ => ⟨_, List.mem_singleton.mpr rfl, ?_⟩) (fun _ i hi => ?_) (fun z => absurd rfl z) ⟨Nat.le_refl _, Nat.le_refl _⟩ (fun Y' μ' q1 q2 q3 q4 q5 => ⟨rfl, nxt Y' μ' q1 q2 q3 q4 q5⟩)
      · have : e = gE (md_G g s (sg_sort [] m) (k' + 1)) - 1 := by simpa using he
        omega
      · rw [eE, eC, md_G_s, sg_ad_Ps ⟨by omega, by omega⟩]
        omega
      · have hi0 : i = 0 := by simpa using hi
        subst hi0
        rw [eE]
        show nI (gE g + (k' + 1)) - 1 = nI (gE g + (k' + 1) - 1)
        exact pk_sub (b := 1) (by omega)
/-- one more agent -/
theorem md_reg (h : md_R κ g Y c th μ) {a : Nat} (hA : gA g < 16) (ha : a < 256) (hn : ∀ s, s < gA g → gM g s ≠ a) {f1 : Nat → Int32} (k1 : μ (ya Y 1) = some (sp_ia κ 16 f1)) (m1 : μ' (ya Y 1) = some (sp_ia κ 16 (upd f1 (gA g) (nI a)))) (m0 : μ' (ya Y 0) = some (md_obj (sg_reg g a) Y c th)) (mq : ∀ i, i < 27 → i ≠ 0 → i ≠ 1 → μ' (ya Y i) = μ (ya Y i)) : md_R κ (sg_reg g a) Y c th μ' := by
  have eC : ∀ t, gC (sg_reg g a) t = va_up (gC g) (gA g) 0 t := fun _ => rfl
  have eM : ∀ t, gM (sg_reg g a) t = va_up (gM g) (gA g) a t := fun _ => rfl
  have eA : gA (sg_reg g a) = gA g + 1 := rfl
  obtain ⟨f1', k1', v1⟩ := h.a1
  obtain rfl := ia_inj (k1'.symm.trans k1)
  obtain ⟨f2, k2, v2, v2z⟩ := h.a2
  refine ⟨⟨sg_reg_I h.I hA ha hn, fun e he => h.r16 he, h.l16, fun t ht => ?_, fun t ht => h.nb ht, h.j⟩, m0, ⟨_, m1, fun t ht => ?_⟩, ⟨f2, (mq 2 (by omega) (by omega) (by omega)).trans k2, fun t ht => ?_, fun t ht => v2z t (by rw [eA] at ht; omega)⟩, ?_, ?_, ?_, ?_, ?_, ?_, ?_, ?_, fun t ht => ?_⟩
  · rw [eC]
    by_cases q : t = gA g
    · rw [q, va_up_self]; exact Nat.zero_le _
    · rw [va_up_ne _ _ q]; exact h.cn (by rw [eA] at ht; omega)
  · rw [eM]
    by_cases q : t = gA g
    · rw [q, va_up_self, pk_us]
    · rw [va_up_ne _ _ q, pk_un q]; exact v1 t (by rw [eA] at ht; omega)
  · rw [eC]
    by_cases q : t = gA g
    · rw [q, va_up_self]; exact v2z _ (Nat.le_refl _) hA
    · rw [va_up_ne _ _ q]; exact v2 t (by rw [eA] at ht; omega)
  · rw [mq 3 (by omega) (by omega) (by omega)]; exact h.a3
  · rw [mq 4 (by omega) (by omega) (by omega)]; exact h.a4
  · rw [mq 5 (by omega) (by omega) (by omega)]; exact h.a5
  · rw [mq 6 (by omega) (by omega) (by omega)]; exact h.a6
  · rw [mq 7 (by omega) (by omega) (by omega)]; exact h.a7
  · rw [mq 8 (by omega) (by omega) (by omega)]; exact h.a8
  · rw [mq 9 (by omega) (by omega) (by omega)]; exact h.a9
  · rw [mq 10 (by omega) (by omega) (by omega)]; exact h.a10
  · rw [mq (11 + t) (by omega) (by omega) (by omega)]
    obtain ⟨f, hf, hv⟩ := h.a11 ht
    refine ⟨f, hf, fun ht2 k hk => ?_⟩
    rw [eC] at hk
    by_cases q : t = gA g
    · rw [q, va_up_self] at hk; exact absurd hk (Nat.not_lt_zero _)
    · rw [va_up_ne _ _ q] at hk
      exact hv (by rw [eA] at ht2; omega) k hk
end
