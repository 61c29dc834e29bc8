/-! one event comes, in the reference: its loops -/
def md_C (κ : sp_K) (Y : md_Y) (μ0 : sp_M) (fP fQ : Nat → Int32) (μ : sp_M) : Prop := μ (ya Y 7) = some (sp_sa κ 131072 fP) ∧ μ (ya Y 8) = some (sp_sa κ 131072 fQ) ∧ ∀ q, q ≠ ya Y 7 → q ≠ ya Y 8 → μ q = μ0 q
def md_j (Y : md_Y) : Prop := ∀ i j, i < 27 → j < 27 → ya Y i = ya Y j → i = j
section
variable {l : Launch} {κ : sp_K} {g : sg_G} {Y : md_Y} {c : Nat} {th : Int32} {μ μ0 : sp_M} {mc ms : Nat} {Rt : Option Value → sp_M → Prop} {Xt : String → sp_M → Prop} {fP fQ : Nat → Int32}
theorem sn_sh {n : Nat} (h : n < 32768) : vp_nar .short (nI n) = nI n := by
  rw [vp_nar_short]
  refine Int32.toInt_inj.mp ?_
  rw [Int16.toInt_toInt32, Int32.toInt_toInt16, nI_toInt (by omega)]
  rw [Int.bmod_def]
  split <;> omega
theorem sn_sh2 {n : Nat} (h : n < 32768) : vp_nar .short ((nI n).toInt16.toInt32) = nI n := by
  have := sn_sh h
  rw [vp_nar_short] at this
  rw [this]
  exact sn_sh h
theorem md_j.ne (h : md_j Y) {i j : Nat} (hi : i < 27) (hj : j < 27) (hij : i ≠ j) : ya Y i ≠ ya Y j := fun q => hij (h i j hi hj q)
theorem md_C.p (hj : md_j Y) (h : md_C κ Y μ0 fP fQ μ) {f : Nat → Int32} {μ' : sp_M} (e : μ' = va_up μ (ya Y 7) (some (sp_sa κ 131072 f))) : md_C κ Y μ0 f fQ μ' := by
  subst e
  exact ⟨va_up_self _ _ _, (va_up_ne _ _ (hj.ne (by omega) (by omega) (by omega))).trans h.2.1, fun q h1 h2 => (va_up_ne _ _ h1).trans (h.2.2 q h1 h2)⟩
theorem md_C.q (hj : md_j Y) (h : md_C κ Y μ0 fP fQ μ) {f : Nat → Int32} {μ' : sp_M} (e : μ' = va_up μ (ya Y 8) (some (sp_sa κ 131072 f))) : md_C κ Y μ0 fP f μ' := by
  subst e
  exact ⟨(va_up_ne _ _ (hj.ne (by omega) (by omega) (by omega))).trans h.1, va_up_self _ _ _, fun q h1 h2 => (va_up_ne _ _ h2).trans (h.2.2 q h1 h2)⟩
theorem md_C.at {i : Nat} (hj : md_j Y) (h : md_C κ Y μ0 fP fQ μ) (hi : i < 27) (h7 : i ≠ 7) (h8 : i ≠ 8) : μ (ya Y i) = μ0 (ya Y i) := h.2.2 _ (hj.ne hi (by omega) h7) (hj.ne hi (by omega) h8)
/-- the past is cleared -/
theorem lm_comeA {x : sp_X} {k n E : Nat} {v1 v2 v3 : Int32} {f8 : Nat → Int32} (hh : cxM_come κ x mc ms) (hk : k ≤ mc ∧ n ≤ ms) (hj : md_j Y) (hE : E < 8192) (ho : μ0 (ya Y 0) = some (md_obj g Y c th))
    (hR : ∀ fQ' μ', md_C κ Y μ0 fP fQ' μ' → (∀ y, y < 16 → fQ' (16 * E + y) = 0) → (∀ j, j < 16 * E → fQ' j = f8 j) → sp_w κ x (sp_F κ x Rt Xt mc ms) k n 71 [(0, .ref (ya Y 0)), (1, .int v1), (2, .int v2), (3, .int v3), (4, .int (nI E)), (5, .int 0)] [] μ') :
    ∀ (d y : Nat) (fQ : Nat → Int32) (μt : sp_M), 16 = y + d → md_C κ Y μ0 fP fQ μt → (∀ z, z < y → fQ (16 * E + z) = 0) → (∀ j, j < 16 * E → fQ j = f8 j) → sp_w κ x (sp_F κ x Rt Xt mc ms) k n 41 [(0, .ref (ya Y 0)), (1, .int v1), (2, .int v2), (3, .int v3), (4, .int (nI E)), (5, .int (nI y))] [] μt := by
  intro d
  induction d with
  | zero =>
    intro y fQ μt hd hC h1 h2
    have : y = 16 := by omega
    subst this
    exact bkM_come_41 hh hk ⟨fun _ => hR fQ μt hC h1 h2, fun cc => absurd (by decide) cc⟩
  | succ d ih =>
    intro y fQ μt hd hC h1 h2
    refine bkM_come_41 hh hk ⟨fun cc => absurd cc (nI_ge (b := 16) (by omega) (by omega)), fun _ => ⟨_, (hC.at hj (by omega) (by omega) (by omega)).trans ho, some (ya Y 8), rfl, _, rfl, _, _, hC.2.1, _, si_16 E y, by omega, fun μ1 e1 => ?_⟩⟩
    rw [nI_1]
    refine ih (y + 1) _ μ1 (by omega) (hC.q hj e1) (fun z hz => ?_) (fun j hj => ?_)
    · by_cases q : z = y
      · subst q
        rw [pk_us]
        exact sn_sh (n := 0) (by omega)
      · rw [pk_un (by omega)]
        exact h1 z (by omega)
    · rw [pk_un (by omega)]
      exact h2 j hj
/-- a parent's past is taken in -/
theorem lm_comeD {x : sp_X} {k n E p : Nat} {v1 v2 v3 v5 v7 : Int32} {a b : Nat → Nat} {f8 : Nat → Int32} (hh : cxM_come κ x mc ms) (hk : k ≤ mc ∧ n ≤ ms) (hj : md_j Y) (hE : E < 8192) (hp : p < E) (ho : μ0 (ya Y 0) = some (md_obj g Y c th)) (ha : ∀ y, a y ≤ 8192) (hb : ∀ y, b y ≤ 8192) (hfb : ∀ y, y < 16 → f8 (16 * p + y) = nI (b y))
    (hR : ∀ fQ' μ', md_C κ Y μ0 fP fQ' μ' → (∀ y, y < 16 → fQ' (16 * E + y) = nI (max (a y) (b y))) → (∀ j, j < 16 * E → fQ' j = f8 j) → sp_w κ x (sp_F κ x Rt Xt mc ms) k n 71 [(0, .ref (ya Y 0)), (1, .int v1), (2, .int v2), (3, .int v3), (4, .int (nI E)), (5, .int (v5 + 1))] [] μ') :
    ∀ (d y : Nat) (fQ : Nat → Int32) (μt : sp_M), 16 = y + d → md_C κ Y μ0 fP fQ μt → (∀ z, z < y → fQ (16 * E + z) = nI (max (a z) (b z))) → (∀ z, y ≤ z → z < 16 → fQ (16 * E + z) = nI (a z)) → (∀ j, j < 16 * E → fQ j = f8 j) → sp_w κ x (sp_F κ x Rt Xt mc ms) k n 179 [(0, .ref (ya Y 0)), (1, .int v1), (2, .int v2), (3, .int v3), (4, .int (nI E)), (5, .int v5), (6, .int (nI p)), (7, .int v7), (8, .int (nI y))] [] μt := by
  intro d
  induction d with
  | zero =>
    intro y fQ μt hd hC h1 h2 h3
    have : y = 16 := by omega
    subst this
    exact bkM_come_179 hh hk ⟨fun _ => hR fQ μt hC h1 h3, fun cc => absurd (by decide) cc⟩
  | succ d ih =>
    intro y fQ μt hd hC h1 h2 h3
    have hay := ha y
    have hby := hb y
    have ep : fQ (16 * p + y) = nI (b y) := (h3 _ (by omega)).trans (hfb y (by omega))
    have ee : fQ (16 * E + y) = nI (a y) := h2 y (Nat.le_refl _) (by omega)
    refine bkM_come_179 hh hk ⟨fun cc => absurd cc (nI_ge (b := 16) (by omega) (by omega)), fun _ => ⟨_, (hC.at hj (by omega) (by omega) (by omega)).trans ho, some (ya Y 8), rfl, _, rfl, _, _, hC.2.1, _, si_16 p y, by omega, _, si_16 E y, by omega, fun cc => ?_, fun cc => ⟨_, si_16 p y, by omega, _, si_16 E y, by omega, fun μ1 e1 => ?_⟩⟩⟩
    · rw [ep, ee] at cc
      have hle : b y ≤ a y := (nI_leI (by omega) (by omega)).mp cc
      rw [nI_1]
      refine ih (y + 1) fQ μt (by omega) hC (fun z hz => ?_) (fun z hz => h2 z (by omega)) h3
      by_cases q : z = y
      · subst q
        rw [ee]
        congr 1
        omega
      · exact h1 z (by omega)
    · rw [ep, ee] at cc
      have hlt : a y < b y := Nat.lt_of_not_le (fun q => cc (nI_le q (by omega)))
      rw [nI_1]
      rw [ep, sn_sh (by omega)] at e1
      refine ih (y + 1) _ μ1 (by omega) (hC.q hj e1) (fun z hz => ?_) (fun z hz hz2 => ?_) (fun j hj => ?_)
      · by_cases q : z = y
        · subst q
          rw [pk_us]
          congr 1
          omega
        · rw [pk_un (by omega)]
          exact h1 z (by omega)
      · rw [pk_un (by omega)]
        exact h2 z (by omega) hz2
      · rw [pk_un (by omega)]
        exact h3 j hj
/-- a parent is laid in -/
theorem lm_comeC {x : sp_X} {k n E p : Nat} {v1 v2 v3 v5 : Int32} {r : List Nat} {f7 : Nat → Int32} (hh : cxM_come κ x mc ms) (hk : k ≤ mc ∧ n ≤ ms) (hj : md_j Y) (hE : E < 8192) (hp : p < E) (ho : μ0 (ya Y 0) = some (md_obj g Y c th)) (hr : r.length < 16) (hs : r.Pairwise (· < ·)) (hrE : ∀ e ∈ r, e < E)
    (hR : ∀ fP' μ' v7, md_C κ Y μ0 fP' fQ μ' → (∀ j, j < (sg_ins p r).length → fP' (16 * E + j) = nI ((sg_ins p r).getD j 0)) → (∀ j, j < 16 * E → fP' j = f7 j) → sp_w κ x (sp_F κ x Rt Xt mc ms) k n 179 [(0, .ref (ya Y 0)), (1, .int v1), (2, .int v2), (3, .int v3), (4, .int (nI E)), (5, .int v5), (6, .int (nI p)), (7, .int v7), (8, .int 0)] [] μ') :
    ∀ (t : Nat) (fP : Nat → Int32) (μt : sp_M), t ≤ r.length → md_C κ Y μ0 fP fQ μt → (∀ j, j < t → fP (16 * E + j) = nI (r.getD j 0)) → (∀ j, t ≤ j → j < r.length → fP (16 * E + (j + 1)) = nI (r.getD j 0) ∧ p < r.getD j 0) → (∀ j, j < 16 * E → fP j = f7 j) → sp_w κ x (sp_F κ x Rt Xt mc ms) k n 101 [(0, .ref (ya Y 0)), (1, .int v1), (2, .int v2), (3, .int v3), (4, .int (nI E)), (5, .int v5), (6, .int (nI p)), (7, .int (nI t))] [] μt := by
  have fin : ∀ (t : Nat) (fP : Nat → Int32) (μt : sp_M), t ≤ r.length → md_C κ Y μ0 fP fQ μt → (∀ j, j < t → fP (16 * E + j) = nI (r.getD j 0)) → (∀ j, t ≤ j → j < r.length → fP (16 * E + (j + 1)) = nI (r.getD j 0) ∧ p < r.getD j 0) → (∀ j, j < 16 * E → fP j = f7 j) → (0 < t → ¬ p < r.getD (t - 1) 0) → sp_w κ x (sp_F κ x Rt Xt mc ms) k n 160 [(0, .ref (ya Y 0)), (1, .int v1), (2, .int v2), (3, .int v3), (4, .int (nI E)), (5, .int v5), (6, .int (nI p)), (7, .int (nI t))] [] μt := by
    intro t fP μt ht hC h1 h2 h3 h4
    have hbelow : ∀ j, j < t → ¬ p < r.getD j 0 := by
      intro j hj
      have h4' := h4 (by omega)
      by_cases q : j = t - 1
      · rw [q]; exact h4'
      · have e1 : r.getD j 0 = r[j]'(by omega) := by simp [List.getD, show j < r.length by omega]
        have e2 : r.getD (t - 1) 0 = r[t - 1]'(by omega) := by simp [List.getD, show t - 1 < r.length by omega]
        have := List.pairwise_iff_getElem.mp hs j (t - 1) (by omega) (by omega) (by omega)
        rw [e1]
        rw [e2] at h4'
        omega
    have hget := sg_ins_get (e := p) (l := r) (p := t) ht hbelow (fun hl => (h2 t (Nat.le_refl _) hl).2)
    refine bkM_come_160 hh hk ⟨_, (hC.at hj (by omega) (by omega) (by omega)).trans ho, some (ya Y 7), rfl, _, rfl, _, _, hC.1, _, si_16 E t, by omega, fun μ1 e1 => ?_⟩
    rw [sn_sh2 (by omega)] at e1
    refine hR _ μ1 _ (hC.p hj e1) (fun j hj => ?_) (fun j hj => ?_)
    · rw [hget j]
      rw [sg_ins_len] at hj
      by_cases q1 : j < t
      · rw [if_pos q1, pk_un (by omega)]
        exact h1 j q1
      · rw [if_neg q1]
        by_cases q2 : j = t
        · rw [if_pos q2, q2, pk_us]
        · rw [if_neg q2, pk_un (by omega)]
          have := (h2 (j - 1) (by omega) (by omega)).1
          rw [show j - 1 + 1 = j by omega] at this
          exact this
    · rw [pk_un (by omega)]
      exact h3 j hj
  intro t
  induction t with
  | zero =>
    intro fP μt ht hC h1 h2 h3
    exact bkM_come_101 hh hk ⟨fun _ => fin 0 fP μt ht hC h1 h2 h3 (fun q => by omega), fun cc => absurd (Int32.le_refl _) cc⟩
  | succ t ih =>
    intro fP μt ht hC h1 h2 h3
    have hlp : r.getD t 0 < E := hrE _ (sg_getD_mem (by omega))
    have ei : 16 * nI E + nI (t + 1) - 1 = nI (16 * E + t) := by
      rw [si_16]
      exact nI_pred _
    have ev := h1 t (by omega)
    refine bkM_come_101 hh hk ⟨fun cc => absurd cc (nI_ge (a := 0) (by omega) (by omega)), fun _ => ⟨_, (hC.at hj (by omega) (by omega) (by omega)).trans ho, some (ya Y 7), rfl, _, rfl, _, _, hC.1, _, ei, by omega, fun cc => ?_, fun cc => ⟨_, ei, by omega, _, si_16 E (t + 1), by omega, fun μ1 e1 => ?_⟩⟩⟩
    · rw [ev, nI_leI (by omega) (by omega)] at cc
      exact fin (t + 1) fP μt ht hC h1 h2 h3 (fun _ => by simpa using cc)
    · rw [ev, nI_leI (by omega) (by omega)] at cc
      rw [ev, sn_sh (by omega)] at e1
      rw [pk_m1]
      refine ih _ μ1 (by omega) (hC.p hj e1) (fun j hj => ?_) (fun j q1 q2 => ?_) (fun j hj => ?_)
      · rw [pk_un (by omega)]; exact h1 j (by omega)
      · by_cases q : j = t
        · subst q
          rw [pk_us]
          exact ⟨rfl, by omega⟩
        · rw [pk_un (by omega)]
          exact h2 j (by omega) q2
      · rw [pk_un (by omega)]
        exact h3 j hj
/-- all parents -/
theorem lm_comeB {x : sp_X} {k n : Nat} {v1 v3 : Int32} {ml : List Nat} {f7 f8 : Nat → Int32} (hh : cxM_come κ x mc ms) (hk : k ≤ mc ∧ n ≤ ms) (hj : md_j Y) (hE : gE g < 8192) (ho : μ0 (ya Y 0) = some (md_obj g Y c th)) (hI : sg_I g) (hml : ml.length ≤ 16) (hmE : ∀ e ∈ ml, e < gE g) (hnd : ml.Nodup)
    (hv8 : ∀ e, e < gE g → ∀ y, y < 16 → f8 (16 * e + y) = nI (gP g e y))
    (hP0 : v3 = 0 → ∀ i, i < ml.length → nI (gE g) - 1 = nI (ml.getD i 0)) (hP1 : v3 ≠ 0 → ∃ fl, μ0 (ya Y 9) = some (sp_ia κ 16 fl) ∧ ∀ i, i < ml.length → fl i = nI (ml.getD i 0))
    (hR : ∀ fP' fQ' μ', md_C κ Y μ0 fP' fQ' μ' → (∀ j, j < ml.length → fP' (16 * gE g + j) = nI ((sg_sort [] ml).getD j 0)) → (∀ j, j < 16 * gE g → fP' j = f7 j) → (∀ y, y < 16 → fQ' (16 * gE g + y) = nI (sg_mx g y ml)) → (∀ j, j < 16 * gE g → fQ' j = f8 j) → sp_w κ x (sp_F κ x Rt Xt mc ms) k n 71 [(0, .ref (ya Y 0)), (1, .int v1), (2, .int (nI ml.length)), (3, .int v3), (4, .int (nI (gE g))), (5, .int (nI ml.length))] [] μ') :
    ∀ (d i : Nat) (fP fQ : Nat → Int32) (μt : sp_M), ml.length = i + d → md_C κ Y μ0 fP fQ μt → (∀ j, j < i → fP (16 * gE g + j) = nI ((sg_sort [] (ml.take i)).getD j 0)) → (∀ j, j < 16 * gE g → fP j = f7 j) → (∀ y, y < 16 → fQ (16 * gE g + y) = nI (sg_mx g y (ml.take i))) → (∀ j, j < 16 * gE g → fQ j = f8 j) → sp_w κ x (sp_F κ x Rt Xt mc ms) k n 71 [(0, .ref (ya Y 0)), (1, .int v1), (2, .int (nI ml.length)), (3, .int v3), (4, .int (nI (gE g))), (5, .int (nI i))] [] μt := by
  intro d
  induction d with
  | zero =>
    intro i fP fQ μt hd hC h1 h2 h3 h4
    have ei : i = ml.length := by omega
    subst ei
    rw [List.take_length] at h1 h3
    exact hR fP fQ μt hC h1 h2 h3 h4
  | succ d ih =>
    intro i fP fQ μt hd hC h1 h2 h3 h4
    have hin : ml.getD i 0 ∈ ml := sg_getD_mem (by omega)
    have hpE := hmE _ hin
    have htake : ml.take (i + 1) = ml.take i ++ [ml.getD i 0] := by
      rw [List.take_add_one]
      congr 1
      simp [List.getD, show i < ml.length by omega]
    have hlen : (ml.take i).length = i := by rw [List.length_take]; omega
    have hnd' : (ml.take (i + 1)).Nodup := hnd.sublist (List.take_sublist _ _)
    have hsub : ∀ e ∈ ml.take i, e ∈ ml := fun e he => List.mem_of_mem_take he
    have hss : (sg_sort [] (ml.take i)).Pairwise (· < ·) := sg_sort_sort List.Pairwise.nil (hnd.sublist (List.take_sublist _ _)) (fun _ _ => by simp)
    have hsl : (sg_sort [] (ml.take i)).length = i := by rw [sg_sort_len, hlen]; simp
    have hmx : ∀ y, sg_mx g y (ml.take i) ≤ 8192 := fun y => sg_mx_le (fun e he => hI.ple (hmE e (hsub e he)))
    have go : sp_w κ x (sp_F κ x Rt Xt mc ms) k n 101 [(0, .ref (ya Y 0)), (1, .int v1), (2, .int (nI ml.length)), (3, .int v3), (4, .int (nI (gE g))), (5, .int (nI i)), (6, .int (nI (ml.getD i 0))), (7, .int (nI i))] [] μt := by
      refine lm_comeC (r := sg_sort [] (ml.take i)) (f7 := f7) hh hk hj hE hpE ho (by omega) hss (fun e he => ?_) (fun fP' μ1 v7 hC1 p1 p2 => ?_) i fP μt (by omega) hC h1 (fun j q1 q2 => by omega) h2
      · rcases sg_sort_mem.mp he with q | q
        · simp at q
        · exact hmE e (hsub e q)
      · refine lm_comeD (a := fun y => sg_mx g y (ml.take i)) (b := fun y => gP g (ml.getD i 0) y) (f8 := f8) hh hk hj hE hpE ho hmx (fun y => hI.ple hpE) (fun y hy => hv8 _ hpE y hy) (fun fQ' μ2 hC2 q1 q2 => ?_) 16 0 fQ μ1 (by omega) hC1 (fun z q => absurd q (Nat.not_lt_zero _)) (fun z _ hz => h3 z hz) h4
        rw [nI_1]
        refine ih (i + 1) fP' fQ' μ2 (by omega) hC2 (fun j hj => ?_) p2 (fun y hy => ?_) q2
        · rw [htake, sg_sort_app]
          refine p1 j ?_
          rw [sg_ins_len, hsl]
          omega
        · rw [htake, sg_mx_app]
          exact q1 y hy
    refine bkM_come_71 hh hk ⟨fun cc => absurd cc (nI_ge (by omega) (by omega)), fun _ => ⟨fun cc => ?_, fun cc => ?_⟩⟩
    · rw [hP0 cc i (by omega)]
      exact go
    · obtain ⟨fl, hfl, hvl⟩ := hP1 cc
      refine ⟨_, (hC.at hj (by omega) (by omega) (by omega)).trans ho, some (ya Y 9), rfl, _, rfl, _, _, (hC.at hj (by omega) (by omega) (by omega)).trans hfl, i, rfl, by omega, ?_⟩
      rw [hvl i (by omega)]
      exact go
end
