/-! what holds at the law's entry -/
section
variable {s : State} {b : Nat}
theorem lw_U (hts : ∀ w ∈ lw_tbl, w.before #[Value.ref b] s = true) (hg : (Jvm.Cond.and given_1 narrow_1).before #[Value.ref b] s = true) : ∃ κ : sp_K, κ.2.1 = s.heap.size ∧ sp_U κ s := by
  have wa : ∀ w ∈ sp_wa, w.before #[Value.ref b] s = true := fun w hw => hts w (List.mem_filter.mp hw).1
  have hs := flat_of_before _ hg
  obtain ⟨c0, i0, k0⟩ := u_known (C := RA) (T := TA) (N := 6) (n := 6) wa inA (hts _ (List.mem_of_getElem? (i := 309) (by decide +kernel)))
  obtain ⟨c1, i1, k1⟩ := u_known (C := RS) (T := TS) (N := 9) (n := 9) wa inS (hts _ (List.mem_of_getElem? (i := 346) (by decide +kernel)))
  obtain ⟨c2, i2, k2⟩ := u_known (C := RE) (T := TE) (N := 7) (n := 7) wa inE (hts _ (List.mem_of_getElem? (i := 49) (by decide +kernel)))
  obtain ⟨c3, i3, k3⟩ := u_known (C := RM) (T := TM) (N := 14) (n := 14) wa inM (hts _ (List.mem_of_getElem? (i := 446) (by decide +kernel)))
  have w0 : (Cond.arrayClass .int).before #[Value.ref b] s = true := hts _ (List.mem_of_getElem? (i := 82) (by decide +kernel))
  have w1 : (Cond.arrayClass .short).before #[Value.ref b] s = true := hts _ (List.mem_of_getElem? (i := 497) (by decide +kernel))
  have w2 : (Cond.arrayClass .long).before #[Value.ref b] s = true := hts _ (List.mem_of_getElem? (i := 652) (by decide +kernel))
  have w3 : (Cond.arrayOver (.object RA)).before #[Value.ref b] s = true := hts _ (List.mem_of_getElem? (i := 57) (by decide +kernel))
  have w4 : (Cond.arrayOver (.object RS)).before #[Value.ref b] s = true := hts _ (List.mem_of_getElem? (i := 59) (by decide +kernel))
  have w5 : (Cond.arrayOver (.array .int)).before #[Value.ref b] s = true := hts _ (List.mem_of_getElem? (i := 452) (by decide +kernel))
  obtain ⟨d0, a0, p0, x0, y0, t0⟩ := Cond.arrayClass_spec w0
  obtain ⟨d1, a1, p1, x1, y1, t1⟩ := Cond.arrayClass_spec w1
  obtain ⟨d2, a2, p2, x2, y2, t2⟩ := Cond.arrayClass_spec w2
  obtain ⟨p3, d3, a3, u3, -, y3, t3, x3⟩ := Cond.arrayOver_spec w3
  obtain ⟨p4, d4, a4, u4, -, y4, t4, x4⟩ := Cond.arrayOver_spec w4
  obtain ⟨p5, d5, a5, u5, -, y5, t5, x5⟩ := arrayOverA_spec w5
  refine ⟨((fun c => match c with | 0 => c0 | 1 => c1 | 2 => c2 | _ => c3, fun c => match c with | 0 => i0 | 1 => i1 | 2 => i2 | _ => i3), s.heap.size, fun t => match t with | 0 => d0 | 1 => d1 | 2 => d2 | 3 => d3 | 4 => d4 | _ => d5), rfl, ⟨fun c q hq => ?_, fun c q hq => ?_⟩, ?_, ?_, fun w hw => ?_, fun q hq => ?_, w3, w4, w5⟩
  · match c, hq with
    | 0, hq => cases hq; exact k0
    | 1, hq => cases hq; exact k1
    | 2, hq => cases hq; exact k2
    | 3, hq => cases hq; exact k3
    | c + 4, hq => cases hq
  · match c, hq with
    | 0, hq => cases hq; exact ⟨fun N z => ⟨(fun k h => by cases h), a0, y0, p0, t0⟩, x0⟩
    | 1, hq => cases hq; exact ⟨fun N z => ⟨(fun k h => by cases h), a1, y1, p1, t1⟩, x1⟩
    | 2, hq => cases hq; exact ⟨fun N z => ⟨(fun k h => by cases h), a2, y2, p2, t2⟩, x2⟩
    | 3, hq => cases hq; exact ⟨fun N z => ⟨(fun k h => by cases h), a3, y3, p3, t3⟩, a3, p3, y3, t3, u3, x3⟩
    | 4, hq => cases hq; exact ⟨fun N z => ⟨(fun k h => by cases h), a4, y4, p4, t4⟩, a4, p4, y4, t4, u4, x4⟩
    | 5, hq => cases hq; exact ⟨fun N z => ⟨(fun k h => by cases h), a5, y5, p5, t5⟩, x5⟩
    | c + 6, hq => cases hq
  · exact vx_Zqof (args := #[Value.ref b]) (hts _ (List.mem_of_getElem? (i := 156) (by decide +kernel))) (hts _ (List.mem_of_getElem? (i := 36) (by decide +kernel))) (hs _ (by decide +kernel)) (fun a ha z => absurd ha (Nat.not_lt.mpr z))
  · exact vx_Zqof (args := #[Value.ref b]) (hts _ (List.mem_of_getElem? (i := 158) (by decide +kernel))) (hts _ (List.mem_of_getElem? (i := 36) (by decide +kernel))) (hs _ (by decide +kernel)) (fun a ha z => absurd ha (Nat.not_lt.mpr z))
  · obtain ⟨h1, h2⟩ := List.mem_filter.mp hw
    cases w <;> first | exact hts _ h1 | cases h2
  · have hn : ∀ q ∈ sp_nc, Cond.not (.castable q.1 q.2) ∈ flatC (Jvm.Cond.and given_1 narrow_1) := by decide +kernel
    exact va_Nc.of (hs _ (hn q hq))
end
