theorem wq_inst_X0 : Cond.instantiable RX0 4 ∈ lw_tbl := List.mem_of_getElem? (i := 152) (by decide +kernel)
theorem wq_inst_X1 : Cond.instantiable RX1 5 ∈ lw_tbl := List.mem_of_getElem? (i := 92) (by decide +kernel)
theorem wq_inst_X2 : Cond.instantiable RX2 2 ∈ lw_tbl := List.mem_of_getElem? (i := 193) (by decide +kernel)
theorem wq_inst_X3 : Cond.instantiable RX3 2 ∈ lw_tbl := List.mem_of_getElem? (i := 56) (by decide +kernel)
theorem wq_inst_X4 : Cond.instantiable RX4 6 ∈ lw_tbl := List.mem_of_getElem? (i := 119) (by decide +kernel)
theorem wq_inst_X5 : Cond.instantiable RX5 2 ∈ lw_tbl := List.mem_of_getElem? (i := 76) (by decide +kernel)
theorem wq_inst_X7 : Cond.instantiable RX7 4 ∈ lw_tbl := List.mem_of_getElem? (i := 173) (by decide +kernel)
theorem wq_inst_X9 : Cond.instantiable RX9 11 ∈ lw_tbl := List.mem_of_getElem? (i := 48) (by decide +kernel)
theorem wq_inst_X10 : Cond.instantiable RX10 31 ∈ lw_tbl := List.mem_of_getElem? (i := 651) (by decide +kernel)
theorem wq_init_X9 : Cond.initialized RX9 ∈ lw_tbl := List.mem_of_getElem? (i := 33) (by decide +kernel)
theorem wq_init_X10 : Cond.initialized RX10 ∈ lw_tbl := List.mem_of_getElem? (i := 43) (by decide +kernel)
theorem wq_cl7 : Cond.classLink RL 7 RX9 ∈ lw_tbl := List.mem_of_getElem? (i := 47) (by decide +kernel)
theorem wq_cl10 : Cond.classLink RL 10 RX10 ∈ lw_tbl := List.mem_of_getElem? (i := 650) (by decide +kernel)
theorem wq_ml9 : Cond.methodLink RL 9 yX9_init ∈ lw_tbl := List.mem_of_getElem? (i := 49) (by decide +kernel)
theorem wq_ml12 : Cond.methodLink RL 12 yX10_init ∈ lw_tbl := List.mem_of_getElem? (i := 652) (by decide +kernel)
theorem wq_im9 : Cond.instanceMethod yX9_init ∈ lw_tbl := List.mem_of_getElem? (i := 50) (by decide +kernel)
theorem wq_im12 : Cond.instanceMethod yX10_init ∈ lw_tbl := List.mem_of_getElem? (i := 653) (by decide +kernel)
theorem wq_ac_int : Cond.arrayClass .int ∈ lw_tbl := List.mem_of_getElem? (i := 74) (by decide +kernel)
theorem wq_ac_long : Cond.arrayClass .long ∈ lw_tbl := List.mem_of_getElem? (i := 171) (by decide +kernel)
theorem wq_ac_boolean : Cond.arrayClass .boolean ∈ lw_tbl := List.mem_of_getElem? (i := 248) (by decide +kernel)
theorem wq_ao : Cond.arrayOver (.array .int) ∈ lw_tbl := List.mem_of_getElem? (i := 199) (by decide +kernel)
theorem wq_ls : Cond.laysStatic "TrueOnceWeek" "CASES_WITH_FACT" "[I" ∈ lw_tbl := List.mem_of_getElem? (i := 370) (by decide +kernel)
set_option maxRecDepth 20000 in
theorem wq_nF : nestF.map (fun q => some (Cond.fieldLinkNest q.1 q.2.1 q.2.2.1 q.2.2.2.1 q.2.2.2.2 "TrueOnceWeek")) = [65, 66, 68, 84, 98, 100, 102, 104, 105, 125, 126, 128, 130, 132, 134, 136, 137, 161, 182].map (fun i => lw_tbl[i]?) := by decide +kernel
set_option maxRecDepth 20000 in
theorem wq_nM : nestM.map (fun q => some (Cond.methodLinkNest q.1 q.2.1 q.2.2 "TrueOnceWeek")) = [77, 93, 120, 153, 174, 194, 420, 427, 428, 431, 507, 553, 554, 572, 624].map (fun i => lw_tbl[i]?) := by decide +kernel
theorem wq_pick {α : Type} {xs : List α} {f : α → Cond} {ps : List Nat} (h : xs.map (fun q => some (f q)) = ps.map (fun i => lw_tbl[i]?)) (q : α) (hq : q ∈ xs) : f q ∈ lw_tbl := by
  have h1 : some (f q) ∈ xs.map (fun q => some (f q)) := List.mem_map.mpr ⟨q, hq, rfl⟩
  rw [h] at h1
  obtain ⟨i, -, hi⟩ := List.mem_map.mp h1
  exact List.mem_of_getElem? hi
