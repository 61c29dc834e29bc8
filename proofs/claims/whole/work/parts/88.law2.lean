/-! both sides answer alike -/
theorem id_same (a : Nat) (h : a < 256) (y : Int64) : (nI a).toInt64 <<< ((32 : Int32).toInt64 &&& 63) + y = 4294967296 * (nI a).toInt64 + y := by
  have key : ∀ a : Fin 256, (nI a.val).toInt64 <<< ((32 : Int32).toInt64 &&& 63) = 4294967296 * (nI a.val).toInt64 := by decide +kernel
  rw [key ⟨a, h⟩]
theorem sg_ins_sort_app {p : Nat} {m : List Nat} : sg_ins p (sg_sort [] m) = sg_sort [] (m ++ [p]) := (sg_sort_app).symm
theorem sg_sort_mem0 {e : Nat} {m : List Nat} : e ∈ sg_sort [] m ↔ e ∈ m := ⟨fun q => (sg_sort_mem.mp q).elim (fun z => by simp at z) id, fun q => sg_sort_mem.mpr (Or.inr q)⟩
theorem sg_sort_len0 {m : List Nat} : (sg_sort [] m).length = m.length := by rw [sg_sort_len]; simp
