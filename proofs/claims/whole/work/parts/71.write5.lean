/-! the class's writers: append, over raw cells -/
section
variable {l : Launch} {κ : sp_K} {μ : sp_M} {mc ms : Nat} {Rt : Option Value → sp_M → Prop} {Xt : String → sp_M → Prop}
abbrev ap_seen (fse : Nat → Int32) (s c : Nat) : Nat → Int32 := upd fse s (nI (c + 1))
abbrev ap_span (aa a3 a4 E n c s : Nat) (fse : Nat → Int32) (nw ns : Option Nat) : va_E := .inr (1, [.ref aa, .int (nI E), .int (nI (E + n - 1)), .int (nI c), .ref a3, .ref a4, .int (if sn_sum (ap_seen fse s c) 16 = nI E + 1 then 1 else 0), va_rf nw, va_rf ns])
abbrev ap_ag (q E n c s : Nat) (x0 : Int32) : va_E := .inr (0, [.int x0, .int (nI s), .int (nI (c + n)), .int (nI (E + n - 1)), .int 1, .ref q])
abbrev ap_obj (q g0 p0 E n : Nat) (cA : Int32) (v5 : Value) (v6 : Int32) : va_E := .inr (2, [.ref g0, .int cA, .ref p0, .int (nI (E + n)), .ref q, v5, .int v6])
abbrev ap_mem (κ : sp_K) (μ : sp_M) (h0 aa a3 a4 p0 g0 q E n c s : Nat) (x0 cA v6 : Int32) (v5 : Value) (fse : Nat → Int32) (f' : Nat → Option Nat) (nw ns : Option Nat) : sp_M :=
  va_up (va_up (va_up (va_up (va_up μ a4 (some (sp_ia κ 16 (ap_seen fse s c)))) q (some (ap_span aa a3 a4 E n c s fse nw ns))) p0 (some (sp_ra κ 4 8192 f'))) aa (some (ap_ag q E n c s x0))) h0 (some (ap_obj q g0 p0 E n cA v5 v6))
set_option maxHeartbeats 2000000 in
theorem lp_append {x : sp_X} {k n0 h0 aa a3 a4 p0 g0 q E n c s : Nat} {x0 x3 x4 cA v6 : Int32} {v5 : Value} {fse : Nat → Int32} {fsp : Nat → Option Nat} {nw ns : Option Nat} (hh : cxE_append κ x mc ms) (hk : k ≤ mc ∧ n0 ≤ ms)
    (ho : μ h0 = some (.inr (2, [.ref g0, .int cA, .ref p0, .int (nI E), va_rf nw, v5, .int v6]))) (hag : μ aa = some (.inr (0, [.int x0, .int (nI s), .int (nI c), .int x3, .int x4, va_rf ns]))) (hsp : μ p0 = some (sp_ra κ 4 8192 fsp)) (hq : μ q = some (ap_span aa a3 a4 E n c s fse nw ns)) (hn : 1 ≤ n) (hE : E + n ≤ 8192)
    (hR : ∀ f' : Nat → Option Nat, (∀ e, f' e = if E ≤ e ∧ e < E + n then some q else fsp e) → Rt none (va_up (va_up (va_up μ p0 (some (sp_ra κ 4 8192 f'))) aa (some (ap_ag q E n c s x0))) h0 (some (ap_obj q g0 p0 E n cA v5 v6)))) :
    ∀ (d e : Nat) (f : Nat → Option Nat), E + n = e + d → E ≤ e → (∀ z, f z = if E ≤ z ∧ z < e then some q else fsp z) → sp_w κ x (sp_F κ x Rt Xt mc ms) k n0 42 [(0, .ref h0), (1, .ref aa), (2, .int (nI n)), (3, .ref a3), (4, .ref a4), (5, .ref q), (6, .int (nI e))] [] (va_up μ p0 (some (sp_ra κ 4 8192 f))) := by
  have n1 : h0 ≠ aa := fun e => by rw [e, hag] at ho; cases ho
  have n2 : h0 ≠ p0 := fun e => by rw [e, hsp] at ho; cases ho
  have n3 : aa ≠ p0 := fun e => by rw [e, hsp] at hag; cases hag
  have n4 : q ≠ p0 := fun e => by rw [e, hsp] at hq; cases hq
  have n5 : q ≠ aa := fun e => by rw [e, hag] at hq; cases hq
  have n6 : q ≠ h0 := fun e => by rw [e, ho] at hq; cases hq
  intro d
  induction d with
  | zero =>
    intro e f he hle hf
    refine bkE_append_42 hh hk ⟨_, (va_up_ne _ _ n4).trans hq, _, rfl, fun _ => ?_, fun c => absurd (nI_lt (by omega) (by omega)) c⟩
    refine ⟨_, (va_up_ne _ _ n3).trans hag, _, rfl, Nat.le_of_ble_eq_true rfl, fun μ1 e1 => ?_⟩
    subst e1
    refine ⟨_, (va_up_ne _ _ n5).trans ((va_up_ne _ _ n4).trans hq), _, rfl, _, va_up_self _ _ _, Nat.le_of_ble_eq_true rfl, fun μ1 e1 => ?_⟩
    subst e1
    refine ⟨_, va_up_self _ _ _, Nat.le_of_ble_eq_true rfl, ⟨rfl, rfl⟩, fun μ1 e1 => ?_⟩
    subst e1
    refine ⟨_, va_up_self _ _ _, Nat.le_of_ble_eq_true rfl, fun μ1 e1 => ?_⟩
    subst e1
    rw [sp_upup, sp_upup, sp_upup]
    refine ⟨_, (va_up_ne _ _ n1).trans ((va_up_ne _ _ n2).trans ho), _, rfl, Nat.le_of_ble_eq_true rfl, fun μ1 e1 => ?_⟩
    subst e1
    refine ⟨_, va_up_self _ _ _, Nat.le_of_ble_eq_true rfl, fun μ1 e1 => ?_⟩
    subst e1
    rw [sp_upup]
    have r := hR f (fun z => by rw [hf z, he]; rfl)
    have e2 : nI c + nI n = nI (c + n) := nI_add _ _
    have e3 : nI E + nI n = nI (E + n) := nI_add _ _
    rw [e2, e3]
    exact r
  | succ d ih =>
    intro e f he hle hf
    refine bkE_append_42 hh hk ⟨_, (va_up_ne _ _ n4).trans hq, _, rfl, fun c => absurd c (nI_nlt (by omega) (by omega)), fun _ => ⟨_, (va_up_ne _ _ n2).trans ho, some p0, rfl, _, rfl, _, _, va_up_self _ _ _, e, rfl, by omega, fun μ1 e1 => ?_⟩⟩
    subst e1
    rw [sp_upup, nI_1]
    refine ih (e + 1) _ (by omega) (by omega) (fun z => ?_)
    by_cases q1 : z = e
    · subst q1
      rw [va_up_self, if_pos (by omega)]
    · rw [va_up_ne _ _ q1, hf z]
      by_cases q2 : E ≤ z ∧ z < e
      · rw [if_pos q2, if_pos (by omega)]
      · rw [if_neg q2, if_neg (by omega)]
theorem ct_append (htr : l.stackTraces = false) {h0 aa a3 a4 p0 g0 E n c s : Nat} {x0 x3 x4 cA v6 : Int32} {v5 : Value} {fse : Nat → Int32} {fsp : Nat → Option Nat} {nw ns : Option Nat}
    (ho : μ h0 = some (.inr (2, [.ref g0, .int cA, .ref p0, .int (nI E), va_rf nw, v5, .int v6]))) (hag : μ aa = some (.inr (0, [.int x0, .int (nI s), .int (nI c), .int x3, .int x4, va_rf ns]))) (hsp : μ p0 = some (sp_ra κ 4 8192 fsp)) (hse : μ a4 = some (sp_ia κ 16 fse)) (hs : s < 16) (hn : 1 ≤ n) (hE : E + n ≤ 8192) (hr : 1 ≤ mc ∧ 9 ≤ ms)
    (hR : ∀ (q : Nat) (f' : Nat → Option Nat), μ q = none → (∀ e, f' e = if E ≤ e ∧ e < E + n then some q else fsp e) → Rt none (ap_mem κ μ h0 aa a3 a4 p0 g0 q E n c s x0 cA v6 v5 fse f' nw ns)) : sp_m l κ yE_append wE_append 2 51 mc ms [.ref h0, .ref aa, .int (nI n), .ref a3, .ref a4] μ Rt Xt := by
  have m1 : h0 ≠ a4 := fun e => by rw [e, hse] at ho; cases ho
  have m2 : aa ≠ a4 := fun e => by rw [e, hse] at hag; cases hag
  have m3 : p0 ≠ a4 := fun e => by
    rw [e, hse] at hsp
    have h8 := congrArg (fun z => z.2.1) (Sum.inl.inj (Option.some.inj hsp))
    exact absurd h8 (show ¬ (16 = 8192) by decide)
  refine opE_append htr (fun x hx hh => bkE_append_0 hh z2 ⟨_, hag, _, rfl, _, rfl, _, _, hse, s, rfl, hs, fun μ1 e1 => ⟨by omega, fun q hz μ2 e2 => ?_⟩⟩)
  subst e1
  subst e2
  have q4 : q ≠ a4 := fun e => by rw [e, va_up_self] at hz; cases hz
  have hz' : μ q = none := by rw [va_up_ne _ _ q4] at hz; exact hz
  have q1 : h0 ≠ q := fun e => by rw [e, hz'] at ho; cases ho
  have q2 : aa ≠ q := fun e => by rw [e, hz'] at hag; cases hag
  have q3 : p0 ≠ q := fun e => by rw [e, hz'] at hsp; cases hsp
  refine ⟨_, (va_up_ne _ _ q1).trans ((va_up_ne _ _ m1).trans ho), _, rfl, nw, rfl, 0, 0, by omega, ct_Sinit hx (va_up_self _ _ _) ((va_up_ne _ _ q2).trans ((va_up_ne _ _ m2).trans hag)) ((va_up_ne _ _ (Ne.symm q4)).trans (va_up_self _ _ _)) (by omega) ⟨rfl, ?_⟩⟩
  rw [sp_upup]
  have e5 : nI E + nI n - 1 = nI (E + n - 1) := by
    rw [nI_add, sn_p1 (E + n - 1), show E + n - 1 + 1 = E + n by omega]
  rw [e5, nI_1]
  refine ⟨_, va_up_self _ _ _, _, rfl, ?_⟩
  have key := lp_append (μ := va_up (va_up μ a4 (some (sp_ia κ 16 (ap_seen fse s c)))) q (some (ap_span aa a3 a4 E n c s fse nw ns))) (Rt := Rt) (Xt := Xt) (mc := mc) (ms := ms) (k := 0 + 1 + 0) (n0 := 0 + 9 + 0) (x := x) (aa := aa) (a3 := a3) (a4 := a4) (p0 := p0) (q := q) hh (by omega)
    ((va_up_ne _ _ q1).trans ((va_up_ne _ _ m1).trans ho)) ((va_up_ne _ _ q2).trans ((va_up_ne _ _ m2).trans hag)) ((va_up_ne _ _ q3).trans ((va_up_ne _ _ m3).trans hsp)) (va_up_self _ _ _) hn hE (fun f' hf' => hR q f' hz' hf') n E fsp rfl (Nat.le_refl _) (fun z => by rw [if_neg (by omega)])
  rw [sp_upsame ((va_up_ne _ _ q3).trans ((va_up_ne _ _ m3).trans hsp))] at key
  exact key
end
