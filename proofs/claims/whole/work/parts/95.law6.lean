/-! the law's loop, its beginning -/
section
variable {κ : sp_K} {x : sp_X} {b L : Nat} {xs : Nat → Int32} {mc ms : Nat} {Rt : Option Value → sp_M → Prop} {Xt : String → sp_M → Prop}
theorem md_sum {κ : sp_K} {g : sg_G} {Y : md_Y} {c : Nat} {th : Int32} {μ : sp_M} (h : md_R κ g Y c th μ) : sg_sum (yn Y) 16 ≤ 262144 :=
  Nat.le_trans (sg_sum_le (f' := fun _ => 16384) (fun t ht => (h.nb ht).2)) (Nat.le_of_ble_eq_true rfl)
theorem lw_cmp {i : Nat} (hL : L ≤ 2048) (hi : i ≤ 2048) (c : ¬ nI L - 4 < nI i) : i + 3 < L := by
  have h1 : (nI L - 4).toInt = (L : Int) - 4 := pk_sub_toInt (a := L) (b := 4) (by omega) (by omega)
  have h2 : (nI i).toInt = (i : Int) := nI_toInt (by omega)
  have h3 : ¬ (nI L - 4).toInt < (nI i).toInt := fun z => c (Int32.lt_iff_toInt_lt.mpr z)
  omega
theorem lw_loop (hx : x.2.1.stackTraces = false) (hh : cxL_law κ x mc ms) (hS0 : sp_S κ x b L xs) (hL : L ≤ 2048) (hmc : 30000 ≤ mc) (hms : 2000000 ≤ ms) {a1 a2 o : Nat} (hR : ∀ μ, Rt (some (.int 1)) μ) :
    ∀ (d j k n : Nat) (g : sg_G) (X : sc_X) (Y : md_Y) (m : List Nat) (th : Int32) (μ : sp_M), 512 = j + d → k ≤ 40 + 20 * j + gE g → n ≤ 300000 + 300 * j + 2 * sg_sum (yn Y) 16 → lw_H κ g X (sg_sort [] m) g Y m th o μ → xh X = a1 → ya Y 0 = a2 →
      sp_w κ x (sp_F κ x Rt Xt mc ms) k n 23 [(0, .ref b), (1, .ref a1), (2, .ref a2), (3, .ref o), (4, .int (nI (4 * j)))] [] μ := by
  have hL0 : L < 2 ^ 31 := by omega
  intro d
  induction d with
  | zero =>
    intro j k n g X Y m th μ hd h1 h2 h hX hY
    have hE := h.1.1.I.e
    have hsm := md_sum h.2.1.1
    have hkk : k ≤ mc ∧ n ≤ ms := ⟨by omega, by omega⟩
    refine bkL_law_23 hh hS0 hL0 hkk ⟨fun _ => hR μ, fun c => ?_⟩
    have := lw_cmp hL (by omega) c
    omega
  | succ d ih =>
    intro j k n g X Y m th μ hd h1 h2 h hX hY
    have hE := h.1.1.I.e
    have hsm := md_sum h.2.1.1
    have hkk : k ≤ mc ∧ n ≤ ms := ⟨by omega, by omega⟩
    have hk2 : k + 2100 ≤ mc ∧ n + 40000 ≤ ms := ⟨by omega, by omega⟩
    subst hX hY
    have e4 : nI (4 * j) + 4 = nI (4 * (j + 1)) := by
      have := nI_add (4 * j) 4
      rw [show 4 * j + 4 = 4 * (j + 1) by omega] at this
      exact this
    have nx : lw_N κ x (sp_F κ x Rt Xt mc ms) b (xh X) (ya Y 0) o j k n g Y := by
      intro g' X' Y' m' t' μ' k' n' hH hX' hY' r1 r2
      have hE' := hH.1.1.I.e
      have hsm' := md_sum hH.2.1.1
      refine bkL_law_810 hh hS0 hL0 ⟨by omega, by omega⟩ ?_
      rw [e4]
      exact ih (j + 1) k' n' g' X' Y' m' t' μ' (by omega) (by omega) (by omega) hH hX' hY'
    refine bkL_law_23 hh hS0 hL0 hkk ⟨fun _ => hR μ, fun c => ?_⟩
    have hj := lw_cmp hL (by omega) c
    exact ⟨_, rfl, by omega, fun _ => nx g X Y m th μ k n h rfl rfl (by omega) (by omega),
      fun _ => cs_parent hx hh hS0 hL0 hj hk2 h nx, fun _ => cs_heads hx hh hS0 hL0 hk2 h nx, fun _ => cs_add hx hh hS0 hL0 hj hk2 h nx,
      fun _ => cs_events hx hh hS0 hL0 hj hk2 h nx, fun _ => cs_place hx hh hS0 hL0 hj hk2 h nx, fun _ => cs_id hx hh hS0 hL0 hj hk2 h nx,
      fun _ => cs_parentOf hx hh hS0 hL0 hj hk2 h nx, fun _ => cs_related hx hh hS0 hL0 hj hk2 h nx, fun _ => cs_apart hx hh hS0 hL0 hj hk2 h nx,
      fun _ => cs_latest hx hh hS0 hL0 hj hk2 h nx, fun _ => cs_head hx hh hS0 hL0 hj hk2 h nx, fun _ => cs_critical hx hh hS0 hL0 hk2 h nx, fun _ => cs_base hx hh hS0 hL0 hj hk2 h nx⟩
theorem lw_begin (hx : x.2.1.stackTraces = false) (hh : cxL_law κ x mc ms) (hS0 : sp_S κ x b L xs) (hL : L ≤ 2048) (hmc : 30000 ≤ mc) (hms : 2000000 ≤ ms) (hR : ∀ μ, Rt (some (.int 1)) μ) : sp_w κ x (sp_F κ x Rt Xt mc ms) 0 0 0 [(0, .ref b)] [] (fun _ => none) := by
  have hL0 : L < 2 ^ 31 := by omega
  refine bkL_law_0 hh hS0 hL0 z2 ⟨⟨by omega, by omega⟩, fun q1 z1 μ1 e1 => ⟨3, 8464, ⟨by omega, by omega⟩, ct_E_init hx ((congrFun e1 q1).trans (va_up_self _ _ _)) ⟨Nat.le_refl _, Nat.le_refl _⟩ (fun X μ2 hT hX g1 g2 => ⟨rfl, ⟨by omega, by omega⟩, fun q2 z2' μ3 e3 => ⟨26, 286928, ⟨by omega, by omega⟩, cm_init hx ((congrFun e3 q2).trans (va_up_self _ _ _)) ⟨Nat.le_refl _, Nat.le_refl _⟩ (fun Y μ4 hM hY yn8 g3 g4 => ⟨rfl, 1, rfl, by omega, ⟨by omega, by omega⟩, fun q3 z3 μ5 e5 => ?_⟩)⟩⟩)⟩⟩
  have n2 : ∀ q, sc_own sg_0 X q → q ≠ q2 := fun q hq e => by
    have := hT.iss hq
    rw [e, z2'] at this; cases this
  have hT3 : sc_T κ sg_0 X [] μ3 := hT.cong (fun q hq => by rw [e3]; exact va_up_ne _ _ (n2 q hq))
  have hdis : ∀ q, sc_own sg_0 X q → ¬ md_own Y q := fun q hq hm => by
    rcases g4 q hm with z | z
    · exact n2 q hq z
    · have := hT3.iss hq
      rw [z] at this; cases this
  have hT4 : sc_T κ sg_0 X [] μ4 := hT3.cong (fun q hq => g3 q (hdis q hq))
  have o1 : ¬ sc_own sg_0 X q3 := fun hq => by
    have := hT4.iss hq
    rw [z3] at this; cases this
  have o2 : ¬ md_own Y q3 := fun hq => by
    have := hM.1.iss hq
    rw [z3] at this; cases this
  have hH : lw_H κ sg_0 X (sg_sort [] []) sg_0 Y [] 0 q3 μ5 := by
    refine ⟨hT4.cong (fun q hq => ?_), hM.cong (fun q hq => ?_), ⟨fun _ => 0, by rw [e5, va_up_self]⟩, hdis, o1, o2⟩
    · rw [e5]; exact va_up_ne _ _ (fun z => o1 (z ▸ hq))
    · rw [e5]; exact va_up_ne _ _ (fun z => o2 (z ▸ hq))
  exact lw_loop hx hh hS0 hL hmc hms hR 512 0 _ _ sg_0 X Y [] 0 μ5 (by omega) (by omega) (by omega) hH hX hY
end
