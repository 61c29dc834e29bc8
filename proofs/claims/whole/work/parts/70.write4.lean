/-! the class's writers: endHeads, newAgent, append, over raw cells -/
section
variable {l : Launch} {κ : sp_K} {g : sg_G} {X : sc_X} {L P : List Nat} {μ μ' : sp_M} {mc ms : Nat} {Rt : Option Value → sp_M → Prop} {Xt : String → sp_M → Prop}
/-- X with other flags -/
def sc_xb (X : sc_X) (b : Nat → Int32) : sc_X := (xh X, xg X, xp X, xl X, xa X, xs X, xq X, xe X, xm X, xf X, xn X, b, xv X)
theorem ct_spanOf_raw (htr : l.stackTraces = false) {h0 p0 e a : Nat} {fs : List Value} {f : Nat → Option Nat} (ho : μ h0 = some (.inr (2, fs))) (hfs : fs[2]? = some (va_rf (some p0))) (hf : μ p0 = some (sp_ra κ 4 8192 f)) (he : e < 8192) (hv : f e = some a) (hR : Rt (some (va_rf (some a))) μ) : sp_m l κ yE_spanOf wE_spanOf 6 90 mc ms [.ref h0, .int (nI e)] μ Rt Xt :=
  opE_spanOf htr (fun x hx hh => bkE_spanOf_0 hh z2 ⟨fun c => absurd c (nI_pos (by omega)), fun c => ⟨fun c2 => absurd c2 (nI_ge (b := 8192) he (by omega)), fun c2 => ⟨_, ho, some p0, hfs, _, rfl, _, _, hf, e, rfl, he, _, hv, fun z => (nomatch z), fun a ha => ⟨e, rfl, he, _, hv, hR⟩⟩⟩⟩)
/-- one agent's object has changed -/
theorem sc_M.flag (hD : sc_D g X) {b b' : Nat → Int32} {s : Nat} (hs : s < gA g) (h : sc_M κ g (sc_xb X b) L μ) (hb : ∀ t, t ≠ s → b' t = b t) : sc_M κ g (sc_xb X b') L (va_up μ (xa X s) (some (sc_ag g (sc_xb X b') s))) := by
  obtain ⟨ρ, r1, r2, r3, r4, r5, r6⟩ := hD
  obtain ⟨h1, h2, h3, h4, h5, h6, h7, h8⟩ := h
  have kp : ∀ {a : Nat} {r : Nat × Nat} {e : va_E}, ρ a = r → r ≠ (5, s) → μ a = some e → va_up μ (xa X s) (some (sc_ag g (sc_xb X b') s)) a = some e := fun ha n1 he => by rw [va_up_ne _ _ (ro_ne ha (r5 s hs) n1)]; exact he
  refine ⟨kp r1 (by simp) h1, ?_, ?_, ?_, fun t ht => ?_, fun i hi => kp (r6 i hi).1 (by simp) (h6 i hi), fun i hi => ?_, fun i hi => ?_⟩
  · obtain ⟨f, hf, hf2⟩ := h2; exact ⟨f, kp r2 (by simp) hf, hf2⟩
  · obtain ⟨f, hf, hf2⟩ := h3; exact ⟨f, kp r3 (by simp) hf, hf2⟩
  · obtain ⟨f, hf, hf2⟩ := h4; exact ⟨f, kp r4 (by simp) hf, hf2⟩
  · by_cases q : t = s
    · subst q; exact va_up_self _ _ _
    · have e1 : sc_ag g (sc_xb X b') t = sc_ag g (sc_xb X b) t := by
        show Sum.inr (0, [Value.int (nI (gM g t)), .int (nI t), .int (nI (gC g t)), .int (nI (sg_lt g t)), .int (b' t), va_rf (some (xs X (xn X t)))]) = _
        rw [hb t q]
        rfl
      rw [e1]
      exact kp (r5 t ht) (by simp; exact q) (h5 t ht)
  · obtain ⟨f, hf, hf2⟩ := h7 i hi; exact ⟨f, kp (r6 i hi).2.1 (by simp) hf, hf2⟩
  · obtain ⟨f, hf, hf2⟩ := h8 i hi; exact ⟨f, kp (r6 i hi).2.2 (by simp) hf, hf2⟩
theorem lp_endHeads {x : sp_X} {k n a1 : Nat} {fP : Nat → Int32} (hx : x.2.1.stackTraces = false) (hh : cxE_endHeads κ x mc ms) (hk : k ≤ mc ∧ n ≤ ms) (hV : sc_V g X L) (hD : sc_D g X) (ha : μ a1 = some (sp_ia κ P.length fP)) (haN : ∀ s, s < gA g → a1 ≠ xa X s) (hfP : ∀ j, j < P.length → fP j = nI (P.getD j 0)) (hP : ∀ e ∈ P, e < gE g) (hlen : P.length ≤ 16)
    (hR : ∀ (b : Nat → Int32) (μ' : sp_M), (∀ s, s < gA g → b s = if sg_lt g s ∈ P then 0 else xb X s) → sc_M κ g (sc_xb X b) L μ' → (∀ z, (∀ s, s < gA g → z ≠ xa X s) → μ' z = μ z) → Rt none μ') :
    ∀ (d j : Nat) (b : Nat → Int32) (μ1 : sp_M), P.length = j + d → (∀ s, s < gA g → b s = if sg_lt g s ∈ P.take j then 0 else xb X s) → sc_M κ g (sc_xb X b) L μ1 → (∀ z, (∀ s, s < gA g → z ≠ xa X s) → μ1 z = μ z) → sp_w κ x (sp_F κ x Rt Xt mc ms) k n 8 [(0, .ref (xh X)), (1, .ref a1), (2, .ref a1), (3, .int (nI P.length)), (4, .int (nI j))] [] μ1 := by
  obtain ⟨hI, hS, hc0, hrest⟩ := hV
  have hE := hI.e
  intro d
  induction d with
  | zero =>
    intro j b μ1 hj hb hM hfr
    refine bkE_endHeads_8 hh hk ⟨fun _ => hR b μ1 (fun s hs => ?_) hM hfr, fun c => absurd (nI_le (by omega) (by omega)) c⟩
    rw [hb s hs, List.take_of_length_le (by omega)]
  | succ d ih =>
    intro j b μ1 hj hb hM hfr
    have he := hP _ (sg_getD_mem (l := P) (j := j) (by omega))
    obtain ⟨i, hi, b1, b2⟩ := hS.span he
    have hsl := hI.s (hS.lt hi)
    have hse := hS.s hi b1 b2
    have hlt := sg_lt_E hI hsl (hc0 _ hsl)
    obtain ⟨fp, hfp, hfp2, hfp3⟩ := hM.2.2.1
    refine bkE_endHeads_8 hh hk ⟨fun c => absurd c (nI_ge (by omega) (by omega)), fun c => ⟨_, _, (hfr a1 haN).trans ha, j, rfl, by omega, 0, 0, hk, _, hM.1, ?_⟩⟩
    rw [hfP j (by omega)]
    refine ct_spanOf_raw hx hM.1 rfl hfp (by omega) (hfp2 i hi _ b1 b2) ⟨_, rfl, _, rfl, _, hM.2.2.2.2.2.1 i hi, some (xa X (gS g (xf X i))), rfl, _, rfl, _, hM.2.2.2.2.1 _ hsl, _, rfl, fun c2 => ?_, fun c2 => ?_⟩
    · rw [nI_1]
      refine ih (j + 1) b μ1 (by omega) (fun s hs => ?_) hM hfr
      rw [hb s hs, sg_take_succ (by omega)]
      by_cases q : sg_lt g s ∈ P.take j
      · rw [if_pos q, if_pos (List.mem_append_left _ q)]
      · rw [if_neg q, if_neg]
        intro q2
        rcases List.mem_append.mp q2 with q3 | q3
        · exact q q3
        · have q4 : sg_lt g s = P.getD j 0 := by simpa using q3
          have e1 := sg_lt_S hI hs (hc0 s hs)
          rw [q4, hse] at e1
          apply c2
          rw [e1, q4]
    · have q4 : sg_lt g (gS g (xf X i)) = P.getD j 0 := (nI_eq (by omega) (by omega)).mp c2
      refine ⟨Nat.le_of_ble_eq_true rfl, ⟨rfl, rfl⟩, fun μ2 e2 => ?_⟩
      subst e2
      rw [nI_1]
      refine ih (j + 1) (va_up b (gS g (xf X i)) 0) _ (by omega) (fun s hs => ?_) ?_ (fun z hz => ?_)
      · rw [sg_take_succ (by omega)]
        by_cases q : s = gS g (xf X i)
        · subst q
          rw [va_up_self, if_pos]
          exact List.mem_append_right _ (by rw [q4]; simp)
        · rw [va_up_ne _ _ q, hb s hs]
          by_cases q2 : sg_lt g s ∈ P.take j
          · rw [if_pos q2, if_pos (List.mem_append_left _ q2)]
          · rw [if_neg q2, if_neg]
            intro q3
            rcases List.mem_append.mp q3 with q5 | q5
            · exact q2 q5
            · have q6 : sg_lt g s = P.getD j 0 := by simpa using q5
              have e1 := sg_lt_S hI hs (hc0 s hs)
              rw [q6, hse] at e1
              exact q e1.symm
      · have := sc_M.flag hD hsl hM (b' := va_up b (gS g (xf X i)) 0) (fun t ht => va_up_ne _ _ ht)
        rw [show sc_ag g (sc_xb X (va_up b (gS g (xf X i)) 0)) (gS g (xf X i)) = Sum.inr (0, [Value.int (nI (gM g (gS g (xf X i)))), .int (nI (gS g (xf X i))), .int (nI (gC g (gS g (xf X i)))), .int (nI (sg_lt g (gS g (xf X i)))), .int 0, va_rf (some (xs X (xn X (gS g (xf X i)))))]) from by
          show Sum.inr (0, [Value.int _, .int _, .int _, .int _, .int (va_up b (gS g (xf X i)) 0 (gS g (xf X i))), _]) = _
          rw [va_up_self]
          rfl] at this
        exact this
      · rw [va_up_ne _ _ (hz _ hsl)]
        exact hfr z hz
theorem ct_endHeads (htr : l.stackTraces = false) (hV : sc_V g X L) (hM : sc_M κ g X L μ) (hD : sc_D g X) {a1 : Nat} {fP : Nat → Int32} (ha : μ a1 = some (sp_ia κ P.length fP)) (haN : ∀ s, s < gA g → a1 ≠ xa X s) (hfP : ∀ j, j < P.length → fP j = nI (P.getD j 0)) (hP : ∀ e ∈ P, e < gE g) (hlen : P.length ≤ 16)
    (hR : ∀ (b : Nat → Int32) (μ' : sp_M), (∀ s, s < gA g → b s = if sg_lt g s ∈ P then 0 else xb X s) → sc_M κ g (sc_xb X b) L μ' → (∀ z, (∀ s, s < gA g → z ≠ xa X s) → μ' z = μ z) → Rt none μ') : sp_m l κ yE_endHeads wE_endHeads 7 111 mc ms [.ref (xh X), .ref a1] μ Rt Xt :=
  opE_endHeads htr (fun x hx hh => bkE_endHeads_0 hh z2 ⟨_, _, ha, lp_endHeads hx hh z2 hV hD ha haN hfP hP hlen hR P.length 0 (xb X) μ (by omega) (fun s hs => by simp) hM (fun z _ => rfl)⟩)
theorem ct_Ainit (htr : l.stackTraces = false) {q : Nat} {v1 v2 : Int32} (ho : μ q = some (.inr (0, [.int 0, .int 0, .int 0, .int 0, .int 0, .null]))) (hR : Rt none (va_up μ q (some (.inr (0, [.int v1, .int v2, .int 0, .int (-1), .int 0, .null]))))) : sp_m l κ yA_init wA_init 1 22 mc ms [.ref q, .int v1, .int v2] μ Rt (fun _ _ => False) := by
  refine opA_init htr (fun x hx hh => bkA_init_0 hh z2 ⟨_, ho, Nat.le_of_ble_eq_true rfl, fun μ1 e1 => ?_⟩)
  subst e1
  refine ⟨_, va_up_self _ _ _, Nat.le_of_ble_eq_true rfl, fun μ1 e1 => ?_⟩
  subst e1
  refine ⟨_, va_up_self _ _ _, Nat.le_of_ble_eq_true rfl, ⟨rfl, rfl⟩, fun μ1 e1 => ?_⟩
  subst e1
  refine ⟨_, va_up_self _ _ _, Nat.le_of_ble_eq_true rfl, fun μ1 e1 => ?_⟩
  subst e1
  refine ⟨_, va_up_self _ _ _, Nat.le_of_ble_eq_true rfl, fun μ1 e1 => ?_⟩
  subst e1
  refine ⟨_, va_up_self _ _ _, Nat.le_of_ble_eq_true rfl, fun μ1 e1 => ?_⟩
  subst e1
  simp only [sp_upup]
  exact hR
theorem ct_newAgent (htr : l.stackTraces = false) {h0 g0 a : Nat} {c : Int32} {v2 : Value} {v3 : Int32} {v4 v5 : Value} {v6 : Int32} {f : Nat → Option Nat} (ho : μ h0 = some (.inr (2, [.ref g0, .int c, v2, .int v3, v4, v5, .int v6]))) (hf : μ g0 = some (sp_ra κ 3 256 f)) (hne : h0 ≠ g0) (ha : a < 256) (hr : 1 ≤ mc ∧ 6 ≤ ms)
    (hR : ∀ q, μ q = none → Rt (some (.ref q)) (va_up (va_up (va_up μ q (some (.inr (0, [.int (nI a), .int c, .int 0, .int (-1), .int 0, .null])))) g0 (some (sp_ra κ 3 256 (va_up f a (some q))))) h0 (some (.inr (2, [.ref g0, .int (c + 1), v2, .int v3, v4, v5, .int v6]))))) : sp_m l κ yE_newAgent wE_newAgent 2 44 mc ms [.ref h0, .int (nI a)] μ Rt Xt := by
  refine opE_newAgent htr (fun x hx hh => bkE_newAgent_0 hh z2 ⟨by omega, fun q hz μ1 e1 => ?_⟩)
  subst e1
  have hqh : h0 ≠ q := fun e => by rw [e, hz] at ho; cases ho
  have hqg : g0 ≠ q := fun e => by rw [e, hz] at hf; cases hf
  refine ⟨_, (va_up_ne _ _ hqh).trans ho, _, rfl, 0, 0, by omega, ct_Ainit hx (va_up_self _ _ _) ⟨rfl, ?_⟩⟩
  rw [sp_upup]
  refine ⟨_, (va_up_ne _ _ hqh).trans ho, some g0, rfl, _, rfl, _, _, (va_up_ne _ _ hqg).trans hf, _, va_up_self _ _ _, a, rfl, ha, fun μ1 e1 => ?_⟩
  subst e1
  refine ⟨_, (va_up_ne _ _ hne).trans ((va_up_ne _ _ hqh).trans ho), _, rfl, Nat.le_of_ble_eq_true rfl, fun μ1 e1 => ?_⟩
  subst e1
  exact hR q hz
/-- the sum of a row -/
def sn_sum (f : Nat → Int32) : Nat → Int32
  | 0 => 0
  | k + 1 => sn_sum f k + f k
theorem sn_sum_nI {f : Nat → Int32} {v : Nat → Nat} : ∀ {k : Nat}, (∀ x, x < k → f x = nI (v x)) → sn_sum f k = nI (sg_sum v k)
  | 0, _ => rfl
  | k + 1, h => by
    show sn_sum f k + f k = nI (sg_sum v k + v k)
    rw [sn_sum_nI (fun x hx => h x (by omega)), h k (by omega), nI_add]
theorem lp_sum {x : sp_X} {k n a N : Nat} {f : Nat → Int32} (hh : cxS_sum κ x mc ms) (hk : k ≤ mc ∧ n ≤ ms) (ha : μ a = some (sp_ia κ N f)) (hN : N < 2 ^ 31) (hR : Rt (some (.int (sn_sum f N))) μ) :
    ∀ (d j : Nat), N = j + d → sp_w κ x (sp_F κ x Rt Xt mc ms) k n 10 [(0, .ref a), (1, .int (sn_sum f j)), (2, .ref a), (3, .int (nI N)), (4, .int (nI j))] [] μ := by
  intro d
  induction d with
  | zero =>
    intro j hj
    have : j = N := by omega
    subst this
    exact bkS_sum_10 hh hk ⟨fun _ => hR, fun c => absurd (Int32.le_refl _) c⟩
  | succ d ih =>
    intro j hj
    refine bkS_sum_10 hh hk ⟨fun c => absurd c (nI_ge (by omega) (by omega)), fun c => ⟨_, _, ha, j, rfl, by omega, ?_⟩⟩
    rw [nI_1]
    exact ih (j + 1) (by omega)
theorem ct_sum (htr : l.stackTraces = false) {a N : Nat} {f : Nat → Int32} (ha : μ a = some (sp_ia κ N f)) (hN : N < 2 ^ 31) (hR : Rt (some (.int (sn_sum f N))) μ) : sp_m l κ yS_sum wS_sum 0 0 mc ms [.ref a] μ Rt Xt :=
  opS_sum htr (fun x hx hh => bkS_sum_0 hh z2 ⟨_, _, ha, lp_sum hh z2 ha hN hR N 0 (by omega)⟩)
theorem ct_Sinit (htr : l.stackTraces = false) {q aa a4 a5 N : Nat} {r6 ns : Option Nat} {v2 v3 : Int32} {x0 x1 c x3 x4 : Int32} {f : Nat → Int32} (ho : μ q = some (.inr (1, [.null, .int 0, .int 0, .int 0, .null, .null, .int 0, .null, .null]))) (hag : μ aa = some (.inr (0, [.int x0, .int x1, .int c, .int x3, .int x4, va_rf ns]))) (hse : μ a5 = some (sp_ia κ N f)) (hN : N < 2 ^ 31)
    (hR : Rt none (va_up μ q (some (.inr (1, [.ref aa, .int v2, .int (v2 + v3 - 1), .int c, .ref a4, .ref a5, .int (if sn_sum f N = v2 + 1 then 1 else 0), va_rf r6, va_rf ns]))))) : sp_m l κ yS_init wS_init 1 25 mc ms [.ref q, .ref aa, .int v2, .int v3, .ref a4, .ref a5, va_rf r6] μ Rt (fun _ _ => False) := by
  have hqa : aa ≠ q := fun e => by rw [e, ho] at hag; cases hag
  have hqs : a5 ≠ q := fun e => by rw [e, ho] at hse; cases hse
  refine opS_init htr (fun x hx hh => bkS_init_0 hh z2 ⟨_, ho, Nat.le_of_ble_eq_true rfl, fun μ1 e1 => ?_⟩)
  subst e1
  refine ⟨_, va_up_self _ _ _, Nat.le_of_ble_eq_true rfl, fun μ1 e1 => ?_⟩
  subst e1
  refine ⟨_, va_up_self _ _ _, Nat.le_of_ble_eq_true rfl, fun μ1 e1 => ?_⟩
  subst e1
  simp only [sp_upup]
  refine ⟨_, (va_up_ne _ _ hqa).trans hag, _, rfl, _, va_up_self _ _ _, Nat.le_of_ble_eq_true rfl, fun μ1 e1 => ?_⟩
  subst e1
  refine ⟨_, va_up_self _ _ _, Nat.le_of_ble_eq_true rfl, fun μ1 e1 => ?_⟩
  subst e1
  refine ⟨_, va_up_self _ _ _, Nat.le_of_ble_eq_true rfl, fun μ1 e1 => ?_⟩
  subst e1
  simp only [sp_upup]
  have fin : ∀ w : Int32, w = (if sn_sum f N = v2 + 1 then 1 else 0) → sp_w κ x (sp_F κ x Rt (fun _ _ => False) mc ms) (0 + 0) (0 + 0) 60 [(0, .ref q), (1, .ref aa), (2, .int v2), (3, .int v3), (4, .ref a4), (5, .ref a5), (6, va_rf r6)] [.int w, .ref q] (va_up μ q (some (.inr (1, [.ref aa, .int v2, .int (v2 + v3 - 1), .int c, .ref a4, .ref a5, .int 0, .null, .null])))) := by
    intro w hw
    have hn : narrow (tyS 6) (.int w) = .int w ∧ fits (tyS 6) (.int w) = true := by
      rw [hw]
      split <;> exact ⟨rfl, rfl⟩
    refine bkS_init_60 hh z2 ⟨_, va_up_self _ _ _, Nat.le_of_ble_eq_true rfl, hn, fun μ1 e1 => ?_⟩
    subst e1
    refine ⟨_, va_up_self _ _ _, Nat.le_of_ble_eq_true rfl, fun μ1 e1 => ?_⟩
    subst e1
    simp only [sp_upup]
    refine ⟨_, (va_up_ne _ _ hqa).trans hag, ns, rfl, _, va_up_self _ _ _, Nat.le_of_ble_eq_true rfl, fun μ1 e1 => ?_⟩
    subst e1
    rw [hw]
    exact hR
  refine ⟨0, 0, z2, ct_sum hx ((va_up_ne _ _ hqs).trans hse) hN ⟨_, rfl, fun c => ?_, fun c => ?_⟩⟩
  · exact fin 0 (by rw [if_neg c])
  · exact fin 1 (by rw [if_pos c])
end
