/-! CALLS: what the tables say of them. -/
/-- how a method is called: 0 virtual, 1 static, 2 constructor, 3 static with handlers, 4 the law -/
def ag_mk_l : List Nat := [0, 0, 0, 2, 0, 0, 0, 0, 0, 0, 0, 0, 0, 0, 0, 0, 0, 0, 0, 2, 0, 0, 0, 0, 0, 0, 0, 0, 0, 0, 0, 2, 0, 0, 0, 0, 0, 0, 0, 0, 0, 0, 2, 0, 0, 0, 0, 0, 0, 0, 0, 0, 0, 2, 0, 0, 0, 0, 2, 0, 0, 0, 0, 0, 0, 0, 0, 0, 0, 0, 0, 0, 0, 0, 0, 0, 0, 0, 0, 0, 0, 0, 0, 0, 0, 0, 0, 0, 0, 0, 0, 0, 0, 1, 1, 1, 1, 2, 0, 0, 0, 1, 1, 0, 0, 0, 0, 0, 0, 0, 0, 0, 0, 0, 0, 0, 0, 0, 0, 0, 0, 0, 0, 0, 0, 0, 0, 0, 0, 0, 0, 0, 0, 0, 0, 0, 0, 0, 0, 0, 0, 0, 0, 0, 0, 0, 0, 0, 0, 0, 0, 0, 0, 0, 0, 0, 0, 0, 0, 0, 0, 0, 0, 0, 0, 0, 0, 3, 3, 3, 3, 3, 3, 3, 3, 3, 3, 3, 3, 3, 3, 3, 3, 3, 3, 3, 3, 3, 3, 4]
def ag_mk (y : Nat) : Nat := ag_mk_l.getD y 4
def ag_np_l : List Nat := [0, 0, 0, 0, 1, 0, 1, 1, 1, 1, 1, 1, 0, 2, 3, 1, 2, 3, 0, 1, 1, 3, 1, 0, 2, 2, 1, 1, 1, 2, 1, 0, 1, 1, 0, 2, 3, 2, 0, 1, 2, 2, 0, 1, 0, 1, 1, 1, 3, 2, 1, 1, 3, 0, 2, 1, 1, 1, 0, 2, 2, 1, 1, 3, 2, 1, 2, 0, 1, 1, 3, 1, 1, 2, 0, 2, 2, 1, 0, 1, 1, 0, 1, 1, 0, 1, 2, 2, 1, 1, 0, 1, 1, 1, 2, 3, 2, 0, 0, 1, 1, 3, 1, 1, 1, 1, 2, 1, 4, 2, 1, 2, 2, 1, 1, 0, 0, 1, 1, 1, 1, 2, 3, 1, 3, 3, 2, 3, 3, 3, 1, 2, 2, 0, 0, 1, 1, 2, 1, 1, 1, 2, 2, 1, 1, 3, 1, 1, 2, 0, 2, 2, 2, 1, 0, 0, 1, 1, 1, 1, 1, 0, 0, 1, 1, 1, 0, 4, 4, 3, 3, 5, 4, 3, 4, 3, 3, 5, 3, 3, 4, 2, 4, 4, 3, 3, 3, 3, 3, 1]
def ag_np (y : Nat) : Nat := ag_np_l.getD y 0
def ag_hh_l : List (List (Nat × Nat × Nat × Nat)) := [[], [], [], [], [], [], [], [], [], [], [], [], [], [], [], [], [], [], [], [], [], [], [], [], [], [], [], [], [], [], [], [], [], [], [], [], [], [], [], [], [], [], [], [], [], [], [], [], [], [], [], [], [], [], [], [], [], [], [], [], [], [], [], [], [], [], [], [], [], [], [], [], [], [], [], [], [], [], [], [], [], [], [], [], [], [], [], [], [], [], [], [], [], [], [], [], [], [], [], [], [], [], [], [], [], [], [], [], [], [], [], [], [], [], [], [], [], [], [], [], [], [], [], [], [], [], [], [], [], [], [], [], [], [], [], [], [], [], [], [], [], [], [], [], [], [], [], [], [], [], [], [], [], [], [], [], [], [], [], [], [], [], [], [], [], [], [], [(0, 10, 13, 13), (0, 10, 17, 15), (0, 10, 21, 17)], [(0, 10, 13, 13), (0, 10, 17, 15)], [(0, 9, 12, 13)], [(0, 9, 12, 15)], [(0, 12, 15, 15), (0, 12, 19, 13), (0, 12, 23, 17)], [(0, 10, 13, 13), (0, 10, 17, 15), (0, 10, 21, 17)], [(0, 9, 12, 13), (0, 9, 15, 17)], [(0, 10, 13, 13), (0, 10, 17, 15)], [(0, 16, 19, 13)], [(0, 9, 12, 15), (0, 9, 15, 17)], [(0, 12, 15, 13), (0, 12, 19, 15), (0, 12, 23, 17)], [(0, 9, 12, 15)], [(0, 9, 12, 15), (0, 9, 15, 17)], [(0, 10, 13, 13), (0, 10, 17, 15), (0, 10, 21, 17)], [(0, 8, 11, 17)], [(0, 10, 13, 13), (0, 10, 17, 15)], [(0, 10, 13, 13), (0, 10, 17, 15), (0, 10, 21, 17)], [(0, 9, 12, 13)], [(0, 16, 19, 13)], [(0, 9, 12, 13)], [(0, 9, 12, 13)], [(0, 9, 12, 13)], []]
def ag_hh (y : Nat) : List (Nat × Nat × Nat × Nat) := ag_hh_l.getD y []
/-- the word that says a method's code -/
def ag_cw (y : Nat) : Cond := if ag_mk y = 3 then Cond.codeWith (ag_ny y) (ag_by y) (ag_mx y) (ag_rt y) (ag_hh y) else Cond.code (ag_ny y) (ag_by y) (ag_mx y) (ag_rt y)
def ag_MW (y : Nat) : Prop := ag_cw y ∈ lw_tbl ∧ goodWord (ag_cw y) = true ∧ Cond.initialized (ag_ny y).cls ∈ lw_tbl ∧ plainName (ag_ny y).cls = true ∧ ((ag_ny y).cls ≠ "java/lang/invoke/MethodHandle" ∧ (ag_ny y).cls ≠ "java/lang/invoke/VarHandle") ∧ (parseMethodDescriptor (ag_ny y).desc).map (fun d => d.parameters.length) = some (ag_np y) ∧ ag_mx y ≤ 41 ∧
  (ag_mk y = 0 → Cond.instanceMethod (ag_ny y) ∈ lw_tbl ∧ Cond.selects (ag_ny y).cls (ag_ny y) (ag_ny y) ∈ lw_tbl) ∧ (ag_mk y = 1 ∨ ag_mk y = 3 → Cond.static (ag_ny y) ∈ lw_tbl) ∧ (ag_mk y = 2 → Cond.instanceMethod (ag_ny y) ∈ lw_tbl ∧ (ag_ny y).name = "<init>" ∧ ag_rt y = none)
theorem ag_mw_3 : ag_MW 3 := ⟨List.mem_of_getElem? (i := 139) (by decide +kernel), rfl, List.mem_of_getElem? (i := 57) (by decide +kernel), by decide +kernel, ⟨by decide +kernel, by decide +kernel⟩, by decide +kernel, by decide, fun h => absurd h (by decide), fun h => absurd h (by decide), fun _ => ⟨List.mem_of_getElem? (i := 138) (by decide +kernel), rfl, rfl⟩⟩
theorem ag_mw_4 : ag_MW 4 := ⟨List.mem_of_getElem? (i := 295) (by decide +kernel), rfl, List.mem_of_getElem? (i := 57) (by decide +kernel), by decide +kernel, ⟨by decide +kernel, by decide +kernel⟩, by decide +kernel, by decide, fun _ => ⟨List.mem_of_getElem? (i := 293) (by decide +kernel), List.mem_of_getElem? (i := 294) (by decide +kernel)⟩, fun h => absurd h (by decide), fun h => absurd h (by decide)⟩
theorem ag_mw_5 : ag_MW 5 := ⟨List.mem_of_getElem? (i := 339) (by decide +kernel), rfl, List.mem_of_getElem? (i := 57) (by decide +kernel), by decide +kernel, ⟨by decide +kernel, by decide +kernel⟩, by decide +kernel, by decide, fun _ => ⟨List.mem_of_getElem? (i := 337) (by decide +kernel), List.mem_of_getElem? (i := 338) (by decide +kernel)⟩, fun h => absurd h (by decide), fun h => absurd h (by decide)⟩
theorem ag_mw_6 : ag_MW 6 := ⟨List.mem_of_getElem? (i := 602) (by decide +kernel), rfl, List.mem_of_getElem? (i := 57) (by decide +kernel), by decide +kernel, ⟨by decide +kernel, by decide +kernel⟩, by decide +kernel, by decide, fun _ => ⟨List.mem_of_getElem? (i := 600) (by decide +kernel), List.mem_of_getElem? (i := 601) (by decide +kernel)⟩, fun h => absurd h (by decide), fun h => absurd h (by decide)⟩
theorem ag_mw_7 : ag_MW 7 := ⟨List.mem_of_getElem? (i := 436) (by decide +kernel), rfl, List.mem_of_getElem? (i := 57) (by decide +kernel), by decide +kernel, ⟨by decide +kernel, by decide +kernel⟩, by decide +kernel, by decide, fun _ => ⟨List.mem_of_getElem? (i := 434) (by decide +kernel), List.mem_of_getElem? (i := 435) (by decide +kernel)⟩, fun h => absurd h (by decide), fun h => absurd h (by decide)⟩
theorem ag_mw_8 : ag_MW 8 := ⟨List.mem_of_getElem? (i := 343) (by decide +kernel), rfl, List.mem_of_getElem? (i := 57) (by decide +kernel), by decide +kernel, ⟨by decide +kernel, by decide +kernel⟩, by decide +kernel, by decide, fun _ => ⟨List.mem_of_getElem? (i := 341) (by decide +kernel), List.mem_of_getElem? (i := 342) (by decide +kernel)⟩, fun h => absurd h (by decide), fun h => absurd h (by decide)⟩
theorem ag_mw_9 : ag_MW 9 := ⟨List.mem_of_getElem? (i := 328) (by decide +kernel), rfl, List.mem_of_getElem? (i := 57) (by decide +kernel), by decide +kernel, ⟨by decide +kernel, by decide +kernel⟩, by decide +kernel, by decide, fun _ => ⟨List.mem_of_getElem? (i := 326) (by decide +kernel), List.mem_of_getElem? (i := 327) (by decide +kernel)⟩, fun h => absurd h (by decide), fun h => absurd h (by decide)⟩
theorem ag_mw_10 : ag_MW 10 := ⟨List.mem_of_getElem? (i := 386) (by decide +kernel), rfl, List.mem_of_getElem? (i := 57) (by decide +kernel), by decide +kernel, ⟨by decide +kernel, by decide +kernel⟩, by decide +kernel, by decide, fun _ => ⟨List.mem_of_getElem? (i := 384) (by decide +kernel), List.mem_of_getElem? (i := 385) (by decide +kernel)⟩, fun h => absurd h (by decide), fun h => absurd h (by decide)⟩
theorem ag_mw_11 : ag_MW 11 := ⟨List.mem_of_getElem? (i := 440) (by decide +kernel), rfl, List.mem_of_getElem? (i := 57) (by decide +kernel), by decide +kernel, ⟨by decide +kernel, by decide +kernel⟩, by decide +kernel, by decide, fun _ => ⟨List.mem_of_getElem? (i := 438) (by decide +kernel), List.mem_of_getElem? (i := 439) (by decide +kernel)⟩, fun h => absurd h (by decide), fun h => absurd h (by decide)⟩
theorem ag_mw_12 : ag_MW 12 := ⟨List.mem_of_getElem? (i := 278) (by decide +kernel), rfl, List.mem_of_getElem? (i := 57) (by decide +kernel), by decide +kernel, ⟨by decide +kernel, by decide +kernel⟩, by decide +kernel, by decide, fun _ => ⟨List.mem_of_getElem? (i := 276) (by decide +kernel), List.mem_of_getElem? (i := 277) (by decide +kernel)⟩, fun h => absurd h (by decide), fun h => absurd h (by decide)⟩
theorem ag_mw_13 : ag_MW 13 := ⟨List.mem_of_getElem? (i := 332) (by decide +kernel), rfl, List.mem_of_getElem? (i := 57) (by decide +kernel), by decide +kernel, ⟨by decide +kernel, by decide +kernel⟩, by decide +kernel, by decide, fun _ => ⟨List.mem_of_getElem? (i := 330) (by decide +kernel), List.mem_of_getElem? (i := 331) (by decide +kernel)⟩, fun h => absurd h (by decide), fun h => absurd h (by decide)⟩
theorem ag_mw_14 : ag_MW 14 := ⟨List.mem_of_getElem? (i := 390) (by decide +kernel), rfl, List.mem_of_getElem? (i := 57) (by decide +kernel), by decide +kernel, ⟨by decide +kernel, by decide +kernel⟩, by decide +kernel, by decide, fun _ => ⟨List.mem_of_getElem? (i := 388) (by decide +kernel), List.mem_of_getElem? (i := 389) (by decide +kernel)⟩, fun h => absurd h (by decide), fun h => absurd h (by decide)⟩
theorem ag_mw_15 : ag_MW 15 := ⟨List.mem_of_getElem? (i := 367) (by decide +kernel), rfl, List.mem_of_getElem? (i := 57) (by decide +kernel), by decide +kernel, ⟨by decide +kernel, by decide +kernel⟩, by decide +kernel, by decide, fun _ => ⟨List.mem_of_getElem? (i := 365) (by decide +kernel), List.mem_of_getElem? (i := 366) (by decide +kernel)⟩, fun h => absurd h (by decide), fun h => absurd h (by decide)⟩
theorem ag_mw_16 : ag_MW 16 := ⟨List.mem_of_getElem? (i := 377) (by decide +kernel), rfl, List.mem_of_getElem? (i := 57) (by decide +kernel), by decide +kernel, ⟨by decide +kernel, by decide +kernel⟩, by decide +kernel, by decide, fun _ => ⟨List.mem_of_getElem? (i := 375) (by decide +kernel), List.mem_of_getElem? (i := 376) (by decide +kernel)⟩, fun h => absurd h (by decide), fun h => absurd h (by decide)⟩
theorem ag_mw_17 : ag_MW 17 := ⟨List.mem_of_getElem? (i := 381) (by decide +kernel), rfl, List.mem_of_getElem? (i := 57) (by decide +kernel), by decide +kernel, ⟨by decide +kernel, by decide +kernel⟩, by decide +kernel, by decide, fun _ => ⟨List.mem_of_getElem? (i := 380) (by decide +kernel), List.mem_of_getElem? (i := 3) (by decide +kernel)⟩, fun h => absurd h (by decide), fun h => absurd h (by decide)⟩
theorem ag_mw_18 : ag_MW 18 := ⟨List.mem_of_getElem? (i := 373) (by decide +kernel), rfl, List.mem_of_getElem? (i := 57) (by decide +kernel), by decide +kernel, ⟨by decide +kernel, by decide +kernel⟩, by decide +kernel, by decide, fun _ => ⟨List.mem_of_getElem? (i := 372) (by decide +kernel), List.mem_of_getElem? (i := 2) (by decide +kernel)⟩, fun h => absurd h (by decide), fun h => absurd h (by decide)⟩
theorem ag_mw_19 : ag_MW 19 := ⟨List.mem_of_getElem? (i := 133) (by decide +kernel), rfl, List.mem_of_getElem? (i := 56) (by decide +kernel), by decide +kernel, ⟨by decide +kernel, by decide +kernel⟩, by decide +kernel, by decide, fun h => absurd h (by decide), fun h => absurd h (by decide), fun _ => ⟨List.mem_of_getElem? (i := 132) (by decide +kernel), rfl, rfl⟩⟩
theorem ag_mw_20 : ag_MW 20 := ⟨List.mem_of_getElem? (i := 291) (by decide +kernel), rfl, List.mem_of_getElem? (i := 56) (by decide +kernel), by decide +kernel, ⟨by decide +kernel, by decide +kernel⟩, by decide +kernel, by decide, fun _ => ⟨List.mem_of_getElem? (i := 289) (by decide +kernel), List.mem_of_getElem? (i := 290) (by decide +kernel)⟩, fun h => absurd h (by decide), fun h => absurd h (by decide)⟩
theorem ag_mw_21 : ag_MW 21 := ⟨List.mem_of_getElem? (i := 324) (by decide +kernel), rfl, List.mem_of_getElem? (i := 56) (by decide +kernel), by decide +kernel, ⟨by decide +kernel, by decide +kernel⟩, by decide +kernel, by decide, fun _ => ⟨List.mem_of_getElem? (i := 322) (by decide +kernel), List.mem_of_getElem? (i := 323) (by decide +kernel)⟩, fun h => absurd h (by decide), fun h => absurd h (by decide)⟩
theorem ag_mw_22 : ag_MW 22 := ⟨List.mem_of_getElem? (i := 320) (by decide +kernel), rfl, List.mem_of_getElem? (i := 56) (by decide +kernel), by decide +kernel, ⟨by decide +kernel, by decide +kernel⟩, by decide +kernel, by decide, fun _ => ⟨List.mem_of_getElem? (i := 318) (by decide +kernel), List.mem_of_getElem? (i := 319) (by decide +kernel)⟩, fun h => absurd h (by decide), fun h => absurd h (by decide)⟩
theorem ag_mw_23 : ag_MW 23 := ⟨List.mem_of_getElem? (i := 258) (by decide +kernel), rfl, List.mem_of_getElem? (i := 56) (by decide +kernel), by decide +kernel, ⟨by decide +kernel, by decide +kernel⟩, by decide +kernel, by decide, fun _ => ⟨List.mem_of_getElem? (i := 256) (by decide +kernel), List.mem_of_getElem? (i := 257) (by decide +kernel)⟩, fun h => absurd h (by decide), fun h => absurd h (by decide)⟩
theorem ag_mw_24 : ag_MW 24 := ⟨List.mem_of_getElem? (i := 265) (by decide +kernel), rfl, List.mem_of_getElem? (i := 56) (by decide +kernel), by decide +kernel, ⟨by decide +kernel, by decide +kernel⟩, by decide +kernel, by decide, fun _ => ⟨List.mem_of_getElem? (i := 264) (by decide +kernel), List.mem_of_getElem? (i := 0) (by decide +kernel)⟩, fun h => absurd h (by decide), fun h => absurd h (by decide)⟩
theorem ag_mw_25 : ag_MW 25 := ⟨List.mem_of_getElem? (i := 312) (by decide +kernel), rfl, List.mem_of_getElem? (i := 56) (by decide +kernel), by decide +kernel, ⟨by decide +kernel, by decide +kernel⟩, by decide +kernel, by decide, fun _ => ⟨List.mem_of_getElem? (i := 310) (by decide +kernel), List.mem_of_getElem? (i := 311) (by decide +kernel)⟩, fun h => absurd h (by decide), fun h => absurd h (by decide)⟩
theorem ag_mw_26 : ag_MW 26 := ⟨List.mem_of_getElem? (i := 307) (by decide +kernel), rfl, List.mem_of_getElem? (i := 56) (by decide +kernel), by decide +kernel, ⟨by decide +kernel, by decide +kernel⟩, by decide +kernel, by decide, fun _ => ⟨List.mem_of_getElem? (i := 305) (by decide +kernel), List.mem_of_getElem? (i := 306) (by decide +kernel)⟩, fun h => absurd h (by decide), fun h => absurd h (by decide)⟩
theorem ag_mw_27 : ag_MW 27 := ⟨List.mem_of_getElem? (i := 363) (by decide +kernel), rfl, List.mem_of_getElem? (i := 56) (by decide +kernel), by decide +kernel, ⟨by decide +kernel, by decide +kernel⟩, by decide +kernel, by decide, fun _ => ⟨List.mem_of_getElem? (i := 361) (by decide +kernel), List.mem_of_getElem? (i := 362) (by decide +kernel)⟩, fun h => absurd h (by decide), fun h => absurd h (by decide)⟩
theorem ag_mw_28 : ag_MW 28 := ⟨List.mem_of_getElem? (i := 396) (by decide +kernel), rfl, List.mem_of_getElem? (i := 56) (by decide +kernel), by decide +kernel, ⟨by decide +kernel, by decide +kernel⟩, by decide +kernel, by decide, fun _ => ⟨List.mem_of_getElem? (i := 394) (by decide +kernel), List.mem_of_getElem? (i := 395) (by decide +kernel)⟩, fun h => absurd h (by decide), fun h => absurd h (by decide)⟩
theorem ag_mw_29 : ag_MW 29 := ⟨List.mem_of_getElem? (i := 400) (by decide +kernel), rfl, List.mem_of_getElem? (i := 56) (by decide +kernel), by decide +kernel, ⟨by decide +kernel, by decide +kernel⟩, by decide +kernel, by decide, fun _ => ⟨List.mem_of_getElem? (i := 399) (by decide +kernel), List.mem_of_getElem? (i := 4) (by decide +kernel)⟩, fun h => absurd h (by decide), fun h => absurd h (by decide)⟩
theorem ag_mw_30 : ag_MW 30 := ⟨List.mem_of_getElem? (i := 404) (by decide +kernel), rfl, List.mem_of_getElem? (i := 56) (by decide +kernel), by decide +kernel, ⟨by decide +kernel, by decide +kernel⟩, by decide +kernel, by decide, fun _ => ⟨List.mem_of_getElem? (i := 403) (by decide +kernel), List.mem_of_getElem? (i := 5) (by decide +kernel)⟩, fun h => absurd h (by decide), fun h => absurd h (by decide)⟩
theorem ag_mw_31 : ag_MW 31 := ⟨List.mem_of_getElem? (i := 80) (by decide +kernel), rfl, List.mem_of_getElem? (i := 54) (by decide +kernel), by decide +kernel, ⟨by decide +kernel, by decide +kernel⟩, by decide +kernel, by decide, fun h => absurd h (by decide), fun h => absurd h (by decide), fun _ => ⟨List.mem_of_getElem? (i := 79) (by decide +kernel), rfl, rfl⟩⟩
theorem ag_mw_32 : ag_MW 32 := ⟨List.mem_of_getElem? (i := 705) (by decide +kernel), rfl, List.mem_of_getElem? (i := 54) (by decide +kernel), by decide +kernel, ⟨by decide +kernel, by decide +kernel⟩, by decide +kernel, by decide, fun _ => ⟨List.mem_of_getElem? (i := 703) (by decide +kernel), List.mem_of_getElem? (i := 704) (by decide +kernel)⟩, fun h => absurd h (by decide), fun h => absurd h (by decide)⟩
theorem ag_mw_33 : ag_MW 33 := ⟨List.mem_of_getElem? (i := 693) (by decide +kernel), rfl, List.mem_of_getElem? (i := 54) (by decide +kernel), by decide +kernel, ⟨by decide +kernel, by decide +kernel⟩, by decide +kernel, by decide, fun _ => ⟨List.mem_of_getElem? (i := 691) (by decide +kernel), List.mem_of_getElem? (i := 692) (by decide +kernel)⟩, fun h => absurd h (by decide), fun h => absurd h (by decide)⟩
theorem ag_mw_34 : ag_MW 34 := ⟨List.mem_of_getElem? (i := 418) (by decide +kernel), rfl, List.mem_of_getElem? (i := 54) (by decide +kernel), by decide +kernel, ⟨by decide +kernel, by decide +kernel⟩, by decide +kernel, by decide, fun _ => ⟨List.mem_of_getElem? (i := 416) (by decide +kernel), List.mem_of_getElem? (i := 417) (by decide +kernel)⟩, fun h => absurd h (by decide), fun h => absurd h (by decide)⟩
theorem ag_mw_35 : ag_MW 35 := ⟨List.mem_of_getElem? (i := 359) (by decide +kernel), rfl, List.mem_of_getElem? (i := 54) (by decide +kernel), by decide +kernel, ⟨by decide +kernel, by decide +kernel⟩, by decide +kernel, by decide, fun _ => ⟨List.mem_of_getElem? (i := 357) (by decide +kernel), List.mem_of_getElem? (i := 358) (by decide +kernel)⟩, fun h => absurd h (by decide), fun h => absurd h (by decide)⟩
theorem ag_mw_36 : ag_MW 36 := ⟨List.mem_of_getElem? (i := 711) (by decide +kernel), rfl, List.mem_of_getElem? (i := 54) (by decide +kernel), by decide +kernel, ⟨by decide +kernel, by decide +kernel⟩, by decide +kernel, by decide, fun _ => ⟨List.mem_of_getElem? (i := 709) (by decide +kernel), List.mem_of_getElem? (i := 710) (by decide +kernel)⟩, fun h => absurd h (by decide), fun h => absurd h (by decide)⟩
theorem ag_mw_37 : ag_MW 37 := ⟨List.mem_of_getElem? (i := 354) (by decide +kernel), rfl, List.mem_of_getElem? (i := 54) (by decide +kernel), by decide +kernel, ⟨by decide +kernel, by decide +kernel⟩, by decide +kernel, by decide, fun _ => ⟨List.mem_of_getElem? (i := 352) (by decide +kernel), List.mem_of_getElem? (i := 353) (by decide +kernel)⟩, fun h => absurd h (by decide), fun h => absurd h (by decide)⟩
theorem ag_mw_38 : ag_MW 38 := ⟨List.mem_of_getElem? (i := 464) (by decide +kernel), rfl, List.mem_of_getElem? (i := 54) (by decide +kernel), by decide +kernel, ⟨by decide +kernel, by decide +kernel⟩, by decide +kernel, by decide, fun _ => ⟨List.mem_of_getElem? (i := 462) (by decide +kernel), List.mem_of_getElem? (i := 463) (by decide +kernel)⟩, fun h => absurd h (by decide), fun h => absurd h (by decide)⟩
theorem ag_mw_39 : ag_MW 39 := ⟨List.mem_of_getElem? (i := 732) (by decide +kernel), rfl, List.mem_of_getElem? (i := 54) (by decide +kernel), by decide +kernel, ⟨by decide +kernel, by decide +kernel⟩, by decide +kernel, by decide, fun _ => ⟨List.mem_of_getElem? (i := 730) (by decide +kernel), List.mem_of_getElem? (i := 731) (by decide +kernel)⟩, fun h => absurd h (by decide), fun h => absurd h (by decide)⟩
theorem ag_mw_40 : ag_MW 40 := ⟨List.mem_of_getElem? (i := 746) (by decide +kernel), rfl, List.mem_of_getElem? (i := 54) (by decide +kernel), by decide +kernel, ⟨by decide +kernel, by decide +kernel⟩, by decide +kernel, by decide, fun _ => ⟨List.mem_of_getElem? (i := 744) (by decide +kernel), List.mem_of_getElem? (i := 745) (by decide +kernel)⟩, fun h => absurd h (by decide), fun h => absurd h (by decide)⟩
theorem ag_mw_41 : ag_MW 41 := ⟨List.mem_of_getElem? (i := 751) (by decide +kernel), rfl, List.mem_of_getElem? (i := 54) (by decide +kernel), by decide +kernel, ⟨by decide +kernel, by decide +kernel⟩, by decide +kernel, by decide, fun _ => ⟨List.mem_of_getElem? (i := 749) (by decide +kernel), List.mem_of_getElem? (i := 750) (by decide +kernel)⟩, fun h => absurd h (by decide), fun h => absurd h (by decide)⟩
theorem ag_mw_42 : ag_MW 42 := ⟨List.mem_of_getElem? (i := 191) (by decide +kernel), rfl, List.mem_of_getElem? (i := 58) (by decide +kernel), by decide +kernel, ⟨by decide +kernel, by decide +kernel⟩, by decide +kernel, by decide, fun h => absurd h (by decide), fun h => absurd h (by decide), fun _ => ⟨List.mem_of_getElem? (i := 190) (by decide +kernel), rfl, rfl⟩⟩
theorem ag_mw_43 : ag_MW 43 := ⟨List.mem_of_getElem? (i := 302) (by decide +kernel), rfl, List.mem_of_getElem? (i := 58) (by decide +kernel), by decide +kernel, ⟨by decide +kernel, by decide +kernel⟩, by decide +kernel, by decide, fun _ => ⟨List.mem_of_getElem? (i := 300) (by decide +kernel), List.mem_of_getElem? (i := 301) (by decide +kernel)⟩, fun h => absurd h (by decide), fun h => absurd h (by decide)⟩
theorem ag_mw_44 : ag_MW 44 := ⟨List.mem_of_getElem? (i := 632) (by decide +kernel), rfl, List.mem_of_getElem? (i := 58) (by decide +kernel), by decide +kernel, ⟨by decide +kernel, by decide +kernel⟩, by decide +kernel, by decide, fun _ => ⟨List.mem_of_getElem? (i := 630) (by decide +kernel), List.mem_of_getElem? (i := 631) (by decide +kernel)⟩, fun h => absurd h (by decide), fun h => absurd h (by decide)⟩
theorem ag_mw_45 : ag_MW 45 := ⟨List.mem_of_getElem? (i := 649) (by decide +kernel), rfl, List.mem_of_getElem? (i := 58) (by decide +kernel), by decide +kernel, ⟨by decide +kernel, by decide +kernel⟩, by decide +kernel, by decide, fun _ => ⟨List.mem_of_getElem? (i := 647) (by decide +kernel), List.mem_of_getElem? (i := 648) (by decide +kernel)⟩, fun h => absurd h (by decide), fun h => absurd h (by decide)⟩
theorem ag_mw_46 : ag_MW 46 := ⟨List.mem_of_getElem? (i := 316) (by decide +kernel), rfl, List.mem_of_getElem? (i := 58) (by decide +kernel), by decide +kernel, ⟨by decide +kernel, by decide +kernel⟩, by decide +kernel, by decide, fun _ => ⟨List.mem_of_getElem? (i := 314) (by decide +kernel), List.mem_of_getElem? (i := 315) (by decide +kernel)⟩, fun h => absurd h (by decide), fun h => absurd h (by decide)⟩
theorem ag_mw_47 : ag_MW 47 := ⟨List.mem_of_getElem? (i := 655) (by decide +kernel), rfl, List.mem_of_getElem? (i := 58) (by decide +kernel), by decide +kernel, ⟨by decide +kernel, by decide +kernel⟩, by decide +kernel, by decide, fun _ => ⟨List.mem_of_getElem? (i := 653) (by decide +kernel), List.mem_of_getElem? (i := 654) (by decide +kernel)⟩, fun h => absurd h (by decide), fun h => absurd h (by decide)⟩
theorem ag_mw_48 : ag_MW 48 := ⟨List.mem_of_getElem? (i := 638) (by decide +kernel), rfl, List.mem_of_getElem? (i := 58) (by decide +kernel), by decide +kernel, ⟨by decide +kernel, by decide +kernel⟩, by decide +kernel, by decide, fun _ => ⟨List.mem_of_getElem? (i := 636) (by decide +kernel), List.mem_of_getElem? (i := 637) (by decide +kernel)⟩, fun h => absurd h (by decide), fun h => absurd h (by decide)⟩
theorem ag_mw_49 : ag_MW 49 := ⟨List.mem_of_getElem? (i := 449) (by decide +kernel), rfl, List.mem_of_getElem? (i := 58) (by decide +kernel), by decide +kernel, ⟨by decide +kernel, by decide +kernel⟩, by decide +kernel, by decide, fun _ => ⟨List.mem_of_getElem? (i := 447) (by decide +kernel), List.mem_of_getElem? (i := 448) (by decide +kernel)⟩, fun h => absurd h (by decide), fun h => absurd h (by decide)⟩
theorem ag_mw_50 : ag_MW 50 := ⟨List.mem_of_getElem? (i := 427) (by decide +kernel), rfl, List.mem_of_getElem? (i := 58) (by decide +kernel), by decide +kernel, ⟨by decide +kernel, by decide +kernel⟩, by decide +kernel, by decide, fun _ => ⟨List.mem_of_getElem? (i := 425) (by decide +kernel), List.mem_of_getElem? (i := 426) (by decide +kernel)⟩, fun h => absurd h (by decide), fun h => absurd h (by decide)⟩
theorem ag_mw_51 : ag_MW 51 := ⟨List.mem_of_getElem? (i := 269) (by decide +kernel), rfl, List.mem_of_getElem? (i := 58) (by decide +kernel), by decide +kernel, ⟨by decide +kernel, by decide +kernel⟩, by decide +kernel, by decide, fun _ => ⟨List.mem_of_getElem? (i := 267) (by decide +kernel), List.mem_of_getElem? (i := 268) (by decide +kernel)⟩, fun h => absurd h (by decide), fun h => absurd h (by decide)⟩
theorem ag_mw_52 : ag_MW 52 := ⟨List.mem_of_getElem? (i := 347) (by decide +kernel), rfl, List.mem_of_getElem? (i := 58) (by decide +kernel), by decide +kernel, ⟨by decide +kernel, by decide +kernel⟩, by decide +kernel, by decide, fun _ => ⟨List.mem_of_getElem? (i := 345) (by decide +kernel), List.mem_of_getElem? (i := 346) (by decide +kernel)⟩, fun h => absurd h (by decide), fun h => absurd h (by decide)⟩
theorem ag_mw_53 : ag_MW 53 := ⟨List.mem_of_getElem? (i := 115) (by decide +kernel), rfl, List.mem_of_getElem? (i := 55) (by decide +kernel), by decide +kernel, ⟨by decide +kernel, by decide +kernel⟩, by decide +kernel, by decide, fun h => absurd h (by decide), fun h => absurd h (by decide), fun _ => ⟨List.mem_of_getElem? (i := 114) (by decide +kernel), rfl, rfl⟩⟩
theorem ag_mw_54 : ag_MW 54 := ⟨List.mem_of_getElem? (i := 787) (by decide +kernel), rfl, List.mem_of_getElem? (i := 55) (by decide +kernel), by decide +kernel, ⟨by decide +kernel, by decide +kernel⟩, by decide +kernel, by decide, fun _ => ⟨List.mem_of_getElem? (i := 785) (by decide +kernel), List.mem_of_getElem? (i := 786) (by decide +kernel)⟩, fun h => absurd h (by decide), fun h => absurd h (by decide)⟩
theorem ag_mw_55 : ag_MW 55 := ⟨List.mem_of_getElem? (i := 422) (by decide +kernel), rfl, List.mem_of_getElem? (i := 55) (by decide +kernel), by decide +kernel, ⟨by decide +kernel, by decide +kernel⟩, by decide +kernel, by decide, fun _ => ⟨List.mem_of_getElem? (i := 420) (by decide +kernel), List.mem_of_getElem? (i := 421) (by decide +kernel)⟩, fun h => absurd h (by decide), fun h => absurd h (by decide)⟩
theorem ag_mw_56 : ag_MW 56 := ⟨List.mem_of_getElem? (i := 445) (by decide +kernel), rfl, List.mem_of_getElem? (i := 55) (by decide +kernel), by decide +kernel, ⟨by decide +kernel, by decide +kernel⟩, by decide +kernel, by decide, fun _ => ⟨List.mem_of_getElem? (i := 443) (by decide +kernel), List.mem_of_getElem? (i := 444) (by decide +kernel)⟩, fun h => absurd h (by decide), fun h => absurd h (by decide)⟩
theorem ag_mw_57 : ag_MW 57 := ⟨List.mem_of_getElem? (i := 764) (by decide +kernel), rfl, List.mem_of_getElem? (i := 55) (by decide +kernel), by decide +kernel, ⟨by decide +kernel, by decide +kernel⟩, by decide +kernel, by decide, fun _ => ⟨List.mem_of_getElem? (i := 762) (by decide +kernel), List.mem_of_getElem? (i := 763) (by decide +kernel)⟩, fun h => absurd h (by decide), fun h => absurd h (by decide)⟩
theorem ag_mw_58 : ag_MW 58 := ⟨List.mem_of_getElem? (i := 72) (by decide +kernel), rfl, List.mem_of_getElem? (i := 53) (by decide +kernel), by decide +kernel, ⟨by decide +kernel, by decide +kernel⟩, by decide +kernel, by decide, fun h => absurd h (by decide), fun h => absurd h (by decide), fun _ => ⟨List.mem_of_getElem? (i := 71) (by decide +kernel), rfl, rfl⟩⟩
theorem ag_mw_59 : ag_MW 59 := ⟨List.mem_of_getElem? (i := 484) (by decide +kernel), rfl, List.mem_of_getElem? (i := 53) (by decide +kernel), by decide +kernel, ⟨by decide +kernel, by decide +kernel⟩, by decide +kernel, by decide, fun _ => ⟨List.mem_of_getElem? (i := 482) (by decide +kernel), List.mem_of_getElem? (i := 483) (by decide +kernel)⟩, fun h => absurd h (by decide), fun h => absurd h (by decide)⟩
theorem ag_mw_60 : ag_MW 60 := ⟨List.mem_of_getElem? (i := 598) (by decide +kernel), rfl, List.mem_of_getElem? (i := 53) (by decide +kernel), by decide +kernel, ⟨by decide +kernel, by decide +kernel⟩, by decide +kernel, by decide, fun _ => ⟨List.mem_of_getElem? (i := 596) (by decide +kernel), List.mem_of_getElem? (i := 597) (by decide +kernel)⟩, fun h => absurd h (by decide), fun h => absurd h (by decide)⟩
theorem ag_mw_61 : ag_MW 61 := ⟨List.mem_of_getElem? (i := 611) (by decide +kernel), rfl, List.mem_of_getElem? (i := 53) (by decide +kernel), by decide +kernel, ⟨by decide +kernel, by decide +kernel⟩, by decide +kernel, by decide, fun _ => ⟨List.mem_of_getElem? (i := 609) (by decide +kernel), List.mem_of_getElem? (i := 610) (by decide +kernel)⟩, fun h => absurd h (by decide), fun h => absurd h (by decide)⟩
theorem ag_mw_62 : ag_MW 62 := ⟨List.mem_of_getElem? (i := 619) (by decide +kernel), rfl, List.mem_of_getElem? (i := 53) (by decide +kernel), by decide +kernel, ⟨by decide +kernel, by decide +kernel⟩, by decide +kernel, by decide, fun _ => ⟨List.mem_of_getElem? (i := 617) (by decide +kernel), List.mem_of_getElem? (i := 618) (by decide +kernel)⟩, fun h => absurd h (by decide), fun h => absurd h (by decide)⟩
theorem ag_mw_63 : ag_MW 63 := ⟨List.mem_of_getElem? (i := 627) (by decide +kernel), rfl, List.mem_of_getElem? (i := 53) (by decide +kernel), by decide +kernel, ⟨by decide +kernel, by decide +kernel⟩, by decide +kernel, by decide, fun _ => ⟨List.mem_of_getElem? (i := 625) (by decide +kernel), List.mem_of_getElem? (i := 626) (by decide +kernel)⟩, fun h => absurd h (by decide), fun h => absurd h (by decide)⟩
theorem ag_mw_64 : ag_MW 64 := ⟨List.mem_of_getElem? (i := 645) (by decide +kernel), rfl, List.mem_of_getElem? (i := 53) (by decide +kernel), by decide +kernel, ⟨by decide +kernel, by decide +kernel⟩, by decide +kernel, by decide, fun _ => ⟨List.mem_of_getElem? (i := 643) (by decide +kernel), List.mem_of_getElem? (i := 644) (by decide +kernel)⟩, fun h => absurd h (by decide), fun h => absurd h (by decide)⟩
theorem ag_mw_65 : ag_MW 65 := ⟨List.mem_of_getElem? (i := 663) (by decide +kernel), rfl, List.mem_of_getElem? (i := 53) (by decide +kernel), by decide +kernel, ⟨by decide +kernel, by decide +kernel⟩, by decide +kernel, by decide, fun _ => ⟨List.mem_of_getElem? (i := 661) (by decide +kernel), List.mem_of_getElem? (i := 662) (by decide +kernel)⟩, fun h => absurd h (by decide), fun h => absurd h (by decide)⟩
theorem ag_mw_66 : ag_MW 66 := ⟨List.mem_of_getElem? (i := 672) (by decide +kernel), rfl, List.mem_of_getElem? (i := 53) (by decide +kernel), by decide +kernel, ⟨by decide +kernel, by decide +kernel⟩, by decide +kernel, by decide, fun _ => ⟨List.mem_of_getElem? (i := 670) (by decide +kernel), List.mem_of_getElem? (i := 671) (by decide +kernel)⟩, fun h => absurd h (by decide), fun h => absurd h (by decide)⟩
theorem ag_mw_67 : ag_MW 67 := ⟨List.mem_of_getElem? (i := 254) (by decide +kernel), rfl, List.mem_of_getElem? (i := 53) (by decide +kernel), by decide +kernel, ⟨by decide +kernel, by decide +kernel⟩, by decide +kernel, by decide, fun _ => ⟨List.mem_of_getElem? (i := 252) (by decide +kernel), List.mem_of_getElem? (i := 253) (by decide +kernel)⟩, fun h => absurd h (by decide), fun h => absurd h (by decide)⟩
theorem ag_mw_68 : ag_MW 68 := ⟨List.mem_of_getElem? (i := 680) (by decide +kernel), rfl, List.mem_of_getElem? (i := 53) (by decide +kernel), by decide +kernel, ⟨by decide +kernel, by decide +kernel⟩, by decide +kernel, by decide, fun _ => ⟨List.mem_of_getElem? (i := 678) (by decide +kernel), List.mem_of_getElem? (i := 679) (by decide +kernel)⟩, fun h => absurd h (by decide), fun h => absurd h (by decide)⟩
theorem ag_mw_69 : ag_MW 69 := ⟨List.mem_of_getElem? (i := 687) (by decide +kernel), rfl, List.mem_of_getElem? (i := 53) (by decide +kernel), by decide +kernel, ⟨by decide +kernel, by decide +kernel⟩, by decide +kernel, by decide, fun _ => ⟨List.mem_of_getElem? (i := 685) (by decide +kernel), List.mem_of_getElem? (i := 686) (by decide +kernel)⟩, fun h => absurd h (by decide), fun h => absurd h (by decide)⟩
theorem ag_mw_70 : ag_MW 70 := ⟨List.mem_of_getElem? (i := 701) (by decide +kernel), rfl, List.mem_of_getElem? (i := 53) (by decide +kernel), by decide +kernel, ⟨by decide +kernel, by decide +kernel⟩, by decide +kernel, by decide, fun _ => ⟨List.mem_of_getElem? (i := 699) (by decide +kernel), List.mem_of_getElem? (i := 700) (by decide +kernel)⟩, fun h => absurd h (by decide), fun h => absurd h (by decide)⟩
theorem ag_mw_71 : ag_MW 71 := ⟨List.mem_of_getElem? (i := 718) (by decide +kernel), rfl, List.mem_of_getElem? (i := 53) (by decide +kernel), by decide +kernel, ⟨by decide +kernel, by decide +kernel⟩, by decide +kernel, by decide, fun _ => ⟨List.mem_of_getElem? (i := 716) (by decide +kernel), List.mem_of_getElem? (i := 717) (by decide +kernel)⟩, fun h => absurd h (by decide), fun h => absurd h (by decide)⟩
theorem ag_mw_72 : ag_MW 72 := ⟨List.mem_of_getElem? (i := 726) (by decide +kernel), rfl, List.mem_of_getElem? (i := 53) (by decide +kernel), by decide +kernel, ⟨by decide +kernel, by decide +kernel⟩, by decide +kernel, by decide, fun _ => ⟨List.mem_of_getElem? (i := 724) (by decide +kernel), List.mem_of_getElem? (i := 725) (by decide +kernel)⟩, fun h => absurd h (by decide), fun h => absurd h (by decide)⟩
theorem ag_mw_73 : ag_MW 73 := ⟨List.mem_of_getElem? (i := 740) (by decide +kernel), rfl, List.mem_of_getElem? (i := 53) (by decide +kernel), by decide +kernel, ⟨by decide +kernel, by decide +kernel⟩, by decide +kernel, by decide, fun _ => ⟨List.mem_of_getElem? (i := 738) (by decide +kernel), List.mem_of_getElem? (i := 739) (by decide +kernel)⟩, fun h => absurd h (by decide), fun h => absurd h (by decide)⟩
theorem ag_mw_74 : ag_MW 74 := ⟨List.mem_of_getElem? (i := 758) (by decide +kernel), rfl, List.mem_of_getElem? (i := 53) (by decide +kernel), by decide +kernel, ⟨by decide +kernel, by decide +kernel⟩, by decide +kernel, by decide, fun _ => ⟨List.mem_of_getElem? (i := 756) (by decide +kernel), List.mem_of_getElem? (i := 757) (by decide +kernel)⟩, fun h => absurd h (by decide), fun h => absurd h (by decide)⟩
theorem ag_mw_75 : ag_MW 75 := ⟨List.mem_of_getElem? (i := 773) (by decide +kernel), rfl, List.mem_of_getElem? (i := 53) (by decide +kernel), by decide +kernel, ⟨by decide +kernel, by decide +kernel⟩, by decide +kernel, by decide, fun _ => ⟨List.mem_of_getElem? (i := 771) (by decide +kernel), List.mem_of_getElem? (i := 772) (by decide +kernel)⟩, fun h => absurd h (by decide), fun h => absurd h (by decide)⟩
theorem ag_mw_76 : ag_MW 76 := ⟨List.mem_of_getElem? (i := 781) (by decide +kernel), rfl, List.mem_of_getElem? (i := 53) (by decide +kernel), by decide +kernel, ⟨by decide +kernel, by decide +kernel⟩, by decide +kernel, by decide, fun _ => ⟨List.mem_of_getElem? (i := 779) (by decide +kernel), List.mem_of_getElem? (i := 780) (by decide +kernel)⟩, fun h => absurd h (by decide), fun h => absurd h (by decide)⟩
theorem ag_mw_77 : ag_MW 77 := ⟨List.mem_of_getElem? (i := 794) (by decide +kernel), rfl, List.mem_of_getElem? (i := 53) (by decide +kernel), by decide +kernel, ⟨by decide +kernel, by decide +kernel⟩, by decide +kernel, by decide, fun _ => ⟨List.mem_of_getElem? (i := 792) (by decide +kernel), List.mem_of_getElem? (i := 793) (by decide +kernel)⟩, fun h => absurd h (by decide), fun h => absurd h (by decide)⟩
theorem ag_mw_78 : ag_MW 78 := ⟨List.mem_of_getElem? (i := 274) (by decide +kernel), rfl, List.mem_of_getElem? (i := 53) (by decide +kernel), by decide +kernel, ⟨by decide +kernel, by decide +kernel⟩, by decide +kernel, by decide, fun _ => ⟨List.mem_of_getElem? (i := 272) (by decide +kernel), List.mem_of_getElem? (i := 273) (by decide +kernel)⟩, fun h => absurd h (by decide), fun h => absurd h (by decide)⟩
theorem ag_mw_79 : ag_MW 79 := ⟨List.mem_of_getElem? (i := 802) (by decide +kernel), rfl, List.mem_of_getElem? (i := 53) (by decide +kernel), by decide +kernel, ⟨by decide +kernel, by decide +kernel⟩, by decide +kernel, by decide, fun _ => ⟨List.mem_of_getElem? (i := 800) (by decide +kernel), List.mem_of_getElem? (i := 801) (by decide +kernel)⟩, fun h => absurd h (by decide), fun h => absurd h (by decide)⟩
theorem ag_mw_80 : ag_MW 80 := ⟨List.mem_of_getElem? (i := 810) (by decide +kernel), rfl, List.mem_of_getElem? (i := 53) (by decide +kernel), by decide +kernel, ⟨by decide +kernel, by decide +kernel⟩, by decide +kernel, by decide, fun _ => ⟨List.mem_of_getElem? (i := 808) (by decide +kernel), List.mem_of_getElem? (i := 809) (by decide +kernel)⟩, fun h => absurd h (by decide), fun h => absurd h (by decide)⟩
theorem ag_mw_81 : ag_MW 81 := ⟨List.mem_of_getElem? (i := 283) (by decide +kernel), rfl, List.mem_of_getElem? (i := 53) (by decide +kernel), by decide +kernel, ⟨by decide +kernel, by decide +kernel⟩, by decide +kernel, by decide, fun _ => ⟨List.mem_of_getElem? (i := 281) (by decide +kernel), List.mem_of_getElem? (i := 282) (by decide +kernel)⟩, fun h => absurd h (by decide), fun h => absurd h (by decide)⟩
theorem ag_mw_82 : ag_MW 82 := ⟨List.mem_of_getElem? (i := 817) (by decide +kernel), rfl, List.mem_of_getElem? (i := 53) (by decide +kernel), by decide +kernel, ⟨by decide +kernel, by decide +kernel⟩, by decide +kernel, by decide, fun _ => ⟨List.mem_of_getElem? (i := 815) (by decide +kernel), List.mem_of_getElem? (i := 816) (by decide +kernel)⟩, fun h => absurd h (by decide), fun h => absurd h (by decide)⟩
theorem ag_mw_83 : ag_MW 83 := ⟨List.mem_of_getElem? (i := 824) (by decide +kernel), rfl, List.mem_of_getElem? (i := 53) (by decide +kernel), by decide +kernel, ⟨by decide +kernel, by decide +kernel⟩, by decide +kernel, by decide, fun _ => ⟨List.mem_of_getElem? (i := 822) (by decide +kernel), List.mem_of_getElem? (i := 823) (by decide +kernel)⟩, fun h => absurd h (by decide), fun h => absurd h (by decide)⟩
theorem ag_mw_84 : ag_MW 84 := ⟨List.mem_of_getElem? (i := 408) (by decide +kernel), rfl, List.mem_of_getElem? (i := 53) (by decide +kernel), by decide +kernel, ⟨by decide +kernel, by decide +kernel⟩, by decide +kernel, by decide, fun _ => ⟨List.mem_of_getElem? (i := 406) (by decide +kernel), List.mem_of_getElem? (i := 407) (by decide +kernel)⟩, fun h => absurd h (by decide), fun h => absurd h (by decide)⟩
theorem ag_mw_85 : ag_MW 85 := ⟨List.mem_of_getElem? (i := 414) (by decide +kernel), rfl, List.mem_of_getElem? (i := 53) (by decide +kernel), by decide +kernel, ⟨by decide +kernel, by decide +kernel⟩, by decide +kernel, by decide, fun _ => ⟨List.mem_of_getElem? (i := 413) (by decide +kernel), List.mem_of_getElem? (i := 6) (by decide +kernel)⟩, fun h => absurd h (by decide), fun h => absurd h (by decide)⟩
theorem ag_mw_86 : ag_MW 86 := ⟨List.mem_of_getElem? (i := 432) (by decide +kernel), rfl, List.mem_of_getElem? (i := 53) (by decide +kernel), by decide +kernel, ⟨by decide +kernel, by decide +kernel⟩, by decide +kernel, by decide, fun _ => ⟨List.mem_of_getElem? (i := 431) (by decide +kernel), List.mem_of_getElem? (i := 7) (by decide +kernel)⟩, fun h => absurd h (by decide), fun h => absurd h (by decide)⟩
theorem ag_mw_87 : ag_MW 87 := ⟨List.mem_of_getElem? (i := 460) (by decide +kernel), rfl, List.mem_of_getElem? (i := 53) (by decide +kernel), by decide +kernel, ⟨by decide +kernel, by decide +kernel⟩, by decide +kernel, by decide, fun _ => ⟨List.mem_of_getElem? (i := 459) (by decide +kernel), List.mem_of_getElem? (i := 9) (by decide +kernel)⟩, fun h => absurd h (by decide), fun h => absurd h (by decide)⟩
theorem ag_mw_88 : ag_MW 88 := ⟨List.mem_of_getElem? (i := 468) (by decide +kernel), rfl, List.mem_of_getElem? (i := 53) (by decide +kernel), by decide +kernel, ⟨by decide +kernel, by decide +kernel⟩, by decide +kernel, by decide, fun _ => ⟨List.mem_of_getElem? (i := 467) (by decide +kernel), List.mem_of_getElem? (i := 10) (by decide +kernel)⟩, fun h => absurd h (by decide), fun h => absurd h (by decide)⟩
theorem ag_mw_89 : ag_MW 89 := ⟨List.mem_of_getElem? (i := 453) (by decide +kernel), rfl, List.mem_of_getElem? (i := 53) (by decide +kernel), by decide +kernel, ⟨by decide +kernel, by decide +kernel⟩, by decide +kernel, by decide, fun _ => ⟨List.mem_of_getElem? (i := 452) (by decide +kernel), List.mem_of_getElem? (i := 8) (by decide +kernel)⟩, fun h => absurd h (by decide), fun h => absurd h (by decide)⟩
theorem ag_mw_90 : ag_MW 90 := ⟨List.mem_of_getElem? (i := 287) (by decide +kernel), rfl, List.mem_of_getElem? (i := 53) (by decide +kernel), by decide +kernel, ⟨by decide +kernel, by decide +kernel⟩, by decide +kernel, by decide, fun _ => ⟨List.mem_of_getElem? (i := 286) (by decide +kernel), List.mem_of_getElem? (i := 1) (by decide +kernel)⟩, fun h => absurd h (by decide), fun h => absurd h (by decide)⟩
theorem ag_mw_91 : ag_MW 91 := ⟨List.mem_of_getElem? (i := 473) (by decide +kernel), rfl, List.mem_of_getElem? (i := 53) (by decide +kernel), by decide +kernel, ⟨by decide +kernel, by decide +kernel⟩, by decide +kernel, by decide, fun _ => ⟨List.mem_of_getElem? (i := 472) (by decide +kernel), List.mem_of_getElem? (i := 11) (by decide +kernel)⟩, fun h => absurd h (by decide), fun h => absurd h (by decide)⟩
theorem ag_mw_92 : ag_MW 92 := ⟨List.mem_of_getElem? (i := 828) (by decide +kernel), rfl, List.mem_of_getElem? (i := 53) (by decide +kernel), by decide +kernel, ⟨by decide +kernel, by decide +kernel⟩, by decide +kernel, by decide, fun _ => ⟨List.mem_of_getElem? (i := 827) (by decide +kernel), List.mem_of_getElem? (i := 13) (by decide +kernel)⟩, fun h => absurd h (by decide), fun h => absurd h (by decide)⟩
theorem ag_mw_93 : ag_MW 93 := ⟨List.mem_of_getElem? (i := 555) (by decide +kernel), rfl, List.mem_of_getElem? (i := 53) (by decide +kernel), by decide +kernel, ⟨by decide +kernel, by decide +kernel⟩, by decide +kernel, by decide, fun h => absurd h (by decide), fun _ => List.mem_of_getElem? (i := 554) (by decide +kernel), fun h => absurd h (by decide)⟩
theorem ag_mw_94 : ag_MW 94 := ⟨List.mem_of_getElem? (i := 261) (by decide +kernel), rfl, List.mem_of_getElem? (i := 53) (by decide +kernel), by decide +kernel, ⟨by decide +kernel, by decide +kernel⟩, by decide +kernel, by decide, fun h => absurd h (by decide), fun _ => List.mem_of_getElem? (i := 260) (by decide +kernel), fun h => absurd h (by decide)⟩
theorem ag_mw_95 : ag_MW 95 := ⟨List.mem_of_getElem? (i := 350) (by decide +kernel), rfl, List.mem_of_getElem? (i := 53) (by decide +kernel), by decide +kernel, ⟨by decide +kernel, by decide +kernel⟩, by decide +kernel, by decide, fun h => absurd h (by decide), fun _ => List.mem_of_getElem? (i := 349) (by decide +kernel), fun h => absurd h (by decide)⟩
theorem ag_mw_96 : ag_MW 96 := ⟨List.mem_of_getElem? (i := 298) (by decide +kernel), rfl, List.mem_of_getElem? (i := 53) (by decide +kernel), by decide +kernel, ⟨by decide +kernel, by decide +kernel⟩, by decide +kernel, by decide, fun h => absurd h (by decide), fun _ => List.mem_of_getElem? (i := 297) (by decide +kernel), fun h => absurd h (by decide)⟩
theorem ag_mw_97 : ag_MW 97 := ⟨List.mem_of_getElem? (i := 834) (by decide +kernel), rfl, List.mem_of_getElem? (i := 59) (by decide +kernel), by decide +kernel, ⟨by decide +kernel, by decide +kernel⟩, by decide +kernel, by decide, fun h => absurd h (by decide), fun h => absurd h (by decide), fun _ => ⟨List.mem_of_getElem? (i := 833) (by decide +kernel), rfl, rfl⟩⟩
theorem ag_mw_98 : ag_MW 98 := ⟨List.mem_of_getElem? (i := 915) (by decide +kernel), rfl, List.mem_of_getElem? (i := 59) (by decide +kernel), by decide +kernel, ⟨by decide +kernel, by decide +kernel⟩, by decide +kernel, by decide, fun _ => ⟨List.mem_of_getElem? (i := 913) (by decide +kernel), List.mem_of_getElem? (i := 914) (by decide +kernel)⟩, fun h => absurd h (by decide), fun h => absurd h (by decide)⟩
theorem ag_mw_99 : ag_MW 99 := ⟨List.mem_of_getElem? (i := 934) (by decide +kernel), rfl, List.mem_of_getElem? (i := 59) (by decide +kernel), by decide +kernel, ⟨by decide +kernel, by decide +kernel⟩, by decide +kernel, by decide, fun _ => ⟨List.mem_of_getElem? (i := 933) (by decide +kernel), List.mem_of_getElem? (i := 16) (by decide +kernel)⟩, fun h => absurd h (by decide), fun h => absurd h (by decide)⟩
theorem ag_mw_100 : ag_MW 100 := ⟨List.mem_of_getElem? (i := 1042) (by decide +kernel), rfl, List.mem_of_getElem? (i := 59) (by decide +kernel), by decide +kernel, ⟨by decide +kernel, by decide +kernel⟩, by decide +kernel, by decide, fun _ => ⟨List.mem_of_getElem? (i := 1041) (by decide +kernel), List.mem_of_getElem? (i := 34) (by decide +kernel)⟩, fun h => absurd h (by decide), fun h => absurd h (by decide)⟩
theorem ag_mw_101 : ag_MW 101 := ⟨List.mem_of_getElem? (i := 926) (by decide +kernel), rfl, List.mem_of_getElem? (i := 59) (by decide +kernel), by decide +kernel, ⟨by decide +kernel, by decide +kernel⟩, by decide +kernel, by decide, fun h => absurd h (by decide), fun _ => List.mem_of_getElem? (i := 925) (by decide +kernel), fun h => absurd h (by decide)⟩
theorem ag_mw_102 : ag_MW 102 := ⟨List.mem_of_getElem? (i := 1151) (by decide +kernel), rfl, List.mem_of_getElem? (i := 59) (by decide +kernel), by decide +kernel, ⟨by decide +kernel, by decide +kernel⟩, by decide +kernel, by decide, fun h => absurd h (by decide), fun _ => List.mem_of_getElem? (i := 1150) (by decide +kernel), fun h => absurd h (by decide)⟩
theorem ag_mw_103 : ag_MW 103 := ⟨List.mem_of_getElem? (i := 930) (by decide +kernel), rfl, List.mem_of_getElem? (i := 59) (by decide +kernel), by decide +kernel, ⟨by decide +kernel, by decide +kernel⟩, by decide +kernel, by decide, fun _ => ⟨List.mem_of_getElem? (i := 929) (by decide +kernel), List.mem_of_getElem? (i := 15) (by decide +kernel)⟩, fun h => absurd h (by decide), fun h => absurd h (by decide)⟩
theorem ag_mw_104 : ag_MW 104 := ⟨List.mem_of_getElem? (i := 923) (by decide +kernel), rfl, List.mem_of_getElem? (i := 59) (by decide +kernel), by decide +kernel, ⟨by decide +kernel, by decide +kernel⟩, by decide +kernel, by decide, fun _ => ⟨List.mem_of_getElem? (i := 922) (by decide +kernel), List.mem_of_getElem? (i := 14) (by decide +kernel)⟩, fun h => absurd h (by decide), fun h => absurd h (by decide)⟩
theorem ag_mw_105 : ag_MW 105 := ⟨List.mem_of_getElem? (i := 938) (by decide +kernel), rfl, List.mem_of_getElem? (i := 59) (by decide +kernel), by decide +kernel, ⟨by decide +kernel, by decide +kernel⟩, by decide +kernel, by decide, fun _ => ⟨List.mem_of_getElem? (i := 937) (by decide +kernel), List.mem_of_getElem? (i := 17) (by decide +kernel)⟩, fun h => absurd h (by decide), fun h => absurd h (by decide)⟩
theorem ag_mw_106 : ag_MW 106 := ⟨List.mem_of_getElem? (i := 946) (by decide +kernel), rfl, List.mem_of_getElem? (i := 59) (by decide +kernel), by decide +kernel, ⟨by decide +kernel, by decide +kernel⟩, by decide +kernel, by decide, fun _ => ⟨List.mem_of_getElem? (i := 945) (by decide +kernel), List.mem_of_getElem? (i := 19) (by decide +kernel)⟩, fun h => absurd h (by decide), fun h => absurd h (by decide)⟩
theorem ag_mw_107 : ag_MW 107 := ⟨List.mem_of_getElem? (i := 1102) (by decide +kernel), rfl, List.mem_of_getElem? (i := 59) (by decide +kernel), by decide +kernel, ⟨by decide +kernel, by decide +kernel⟩, by decide +kernel, by decide, fun _ => ⟨List.mem_of_getElem? (i := 1101) (by decide +kernel), List.mem_of_getElem? (i := 42) (by decide +kernel)⟩, fun h => absurd h (by decide), fun h => absurd h (by decide)⟩
theorem ag_mw_108 : ag_MW 108 := ⟨List.mem_of_getElem? (i := 942) (by decide +kernel), rfl, List.mem_of_getElem? (i := 59) (by decide +kernel), by decide +kernel, ⟨by decide +kernel, by decide +kernel⟩, by decide +kernel, by decide, fun _ => ⟨List.mem_of_getElem? (i := 941) (by decide +kernel), List.mem_of_getElem? (i := 18) (by decide +kernel)⟩, fun h => absurd h (by decide), fun h => absurd h (by decide)⟩
theorem ag_mw_109 : ag_MW 109 := ⟨List.mem_of_getElem? (i := 919) (by decide +kernel), rfl, List.mem_of_getElem? (i := 59) (by decide +kernel), by decide +kernel, ⟨by decide +kernel, by decide +kernel⟩, by decide +kernel, by decide, fun _ => ⟨List.mem_of_getElem? (i := 917) (by decide +kernel), List.mem_of_getElem? (i := 918) (by decide +kernel)⟩, fun h => absurd h (by decide), fun h => absurd h (by decide)⟩
theorem ag_mw_110 : ag_MW 110 := ⟨List.mem_of_getElem? (i := 961) (by decide +kernel), rfl, List.mem_of_getElem? (i := 59) (by decide +kernel), by decide +kernel, ⟨by decide +kernel, by decide +kernel⟩, by decide +kernel, by decide, fun _ => ⟨List.mem_of_getElem? (i := 960) (by decide +kernel), List.mem_of_getElem? (i := 21) (by decide +kernel)⟩, fun h => absurd h (by decide), fun h => absurd h (by decide)⟩
theorem ag_mw_111 : ag_MW 111 := ⟨List.mem_of_getElem? (i := 957) (by decide +kernel), rfl, List.mem_of_getElem? (i := 59) (by decide +kernel), by decide +kernel, ⟨by decide +kernel, by decide +kernel⟩, by decide +kernel, by decide, fun _ => ⟨List.mem_of_getElem? (i := 956) (by decide +kernel), List.mem_of_getElem? (i := 20) (by decide +kernel)⟩, fun h => absurd h (by decide), fun h => absurd h (by decide)⟩
theorem ag_mw_112 : ag_MW 112 := ⟨List.mem_of_getElem? (i := 953) (by decide +kernel), rfl, List.mem_of_getElem? (i := 59) (by decide +kernel), by decide +kernel, ⟨by decide +kernel, by decide +kernel⟩, by decide +kernel, by decide, fun _ => ⟨List.mem_of_getElem? (i := 951) (by decide +kernel), List.mem_of_getElem? (i := 952) (by decide +kernel)⟩, fun h => absurd h (by decide), fun h => absurd h (by decide)⟩
theorem ag_mw_113 : ag_MW 113 := ⟨List.mem_of_getElem? (i := 965) (by decide +kernel), rfl, List.mem_of_getElem? (i := 59) (by decide +kernel), by decide +kernel, ⟨by decide +kernel, by decide +kernel⟩, by decide +kernel, by decide, fun _ => ⟨List.mem_of_getElem? (i := 963) (by decide +kernel), List.mem_of_getElem? (i := 964) (by decide +kernel)⟩, fun h => absurd h (by decide), fun h => absurd h (by decide)⟩
theorem ag_mw_114 : ag_MW 114 := ⟨List.mem_of_getElem? (i := 985) (by decide +kernel), rfl, List.mem_of_getElem? (i := 59) (by decide +kernel), by decide +kernel, ⟨by decide +kernel, by decide +kernel⟩, by decide +kernel, by decide, fun _ => ⟨List.mem_of_getElem? (i := 984) (by decide +kernel), List.mem_of_getElem? (i := 25) (by decide +kernel)⟩, fun h => absurd h (by decide), fun h => absurd h (by decide)⟩
theorem ag_mw_115 : ag_MW 115 := ⟨List.mem_of_getElem? (i := 977) (by decide +kernel), rfl, List.mem_of_getElem? (i := 59) (by decide +kernel), by decide +kernel, ⟨by decide +kernel, by decide +kernel⟩, by decide +kernel, by decide, fun _ => ⟨List.mem_of_getElem? (i := 976) (by decide +kernel), List.mem_of_getElem? (i := 23) (by decide +kernel)⟩, fun h => absurd h (by decide), fun h => absurd h (by decide)⟩
theorem ag_mw_116 : ag_MW 116 := ⟨List.mem_of_getElem? (i := 981) (by decide +kernel), rfl, List.mem_of_getElem? (i := 59) (by decide +kernel), by decide +kernel, ⟨by decide +kernel, by decide +kernel⟩, by decide +kernel, by decide, fun _ => ⟨List.mem_of_getElem? (i := 980) (by decide +kernel), List.mem_of_getElem? (i := 24) (by decide +kernel)⟩, fun h => absurd h (by decide), fun h => absurd h (by decide)⟩
theorem ag_mw_117 : ag_MW 117 := ⟨List.mem_of_getElem? (i := 973) (by decide +kernel), rfl, List.mem_of_getElem? (i := 59) (by decide +kernel), by decide +kernel, ⟨by decide +kernel, by decide +kernel⟩, by decide +kernel, by decide, fun _ => ⟨List.mem_of_getElem? (i := 972) (by decide +kernel), List.mem_of_getElem? (i := 22) (by decide +kernel)⟩, fun h => absurd h (by decide), fun h => absurd h (by decide)⟩
theorem ag_mw_118 : ag_MW 118 := ⟨List.mem_of_getElem? (i := 969) (by decide +kernel), rfl, List.mem_of_getElem? (i := 59) (by decide +kernel), by decide +kernel, ⟨by decide +kernel, by decide +kernel⟩, by decide +kernel, by decide, fun _ => ⟨List.mem_of_getElem? (i := 967) (by decide +kernel), List.mem_of_getElem? (i := 968) (by decide +kernel)⟩, fun h => absurd h (by decide), fun h => absurd h (by decide)⟩
theorem ag_mw_119 : ag_MW 119 := ⟨List.mem_of_getElem? (i := 1010) (by decide +kernel), rfl, List.mem_of_getElem? (i := 59) (by decide +kernel), by decide +kernel, ⟨by decide +kernel, by decide +kernel⟩, by decide +kernel, by decide, fun _ => ⟨List.mem_of_getElem? (i := 1009) (by decide +kernel), List.mem_of_getElem? (i := 29) (by decide +kernel)⟩, fun h => absurd h (by decide), fun h => absurd h (by decide)⟩
theorem ag_mw_120 : ag_MW 120 := ⟨List.mem_of_getElem? (i := 1014) (by decide +kernel), rfl, List.mem_of_getElem? (i := 59) (by decide +kernel), by decide +kernel, ⟨by decide +kernel, by decide +kernel⟩, by decide +kernel, by decide, fun _ => ⟨List.mem_of_getElem? (i := 1013) (by decide +kernel), List.mem_of_getElem? (i := 30) (by decide +kernel)⟩, fun h => absurd h (by decide), fun h => absurd h (by decide)⟩
theorem ag_mw_121 : ag_MW 121 := ⟨List.mem_of_getElem? (i := 997) (by decide +kernel), rfl, List.mem_of_getElem? (i := 59) (by decide +kernel), by decide +kernel, ⟨by decide +kernel, by decide +kernel⟩, by decide +kernel, by decide, fun _ => ⟨List.mem_of_getElem? (i := 996) (by decide +kernel), List.mem_of_getElem? (i := 27) (by decide +kernel)⟩, fun h => absurd h (by decide), fun h => absurd h (by decide)⟩
theorem ag_mw_122 : ag_MW 122 := ⟨List.mem_of_getElem? (i := 993) (by decide +kernel), rfl, List.mem_of_getElem? (i := 59) (by decide +kernel), by decide +kernel, ⟨by decide +kernel, by decide +kernel⟩, by decide +kernel, by decide, fun _ => ⟨List.mem_of_getElem? (i := 992) (by decide +kernel), List.mem_of_getElem? (i := 26) (by decide +kernel)⟩, fun h => absurd h (by decide), fun h => absurd h (by decide)⟩
theorem ag_mw_123 : ag_MW 123 := ⟨List.mem_of_getElem? (i := 1050) (by decide +kernel), rfl, List.mem_of_getElem? (i := 59) (by decide +kernel), by decide +kernel, ⟨by decide +kernel, by decide +kernel⟩, by decide +kernel, by decide, fun _ => ⟨List.mem_of_getElem? (i := 1049) (by decide +kernel), List.mem_of_getElem? (i := 35) (by decide +kernel)⟩, fun h => absurd h (by decide), fun h => absurd h (by decide)⟩
theorem ag_mw_124 : ag_MW 124 := ⟨List.mem_of_getElem? (i := 1002) (by decide +kernel), rfl, List.mem_of_getElem? (i := 59) (by decide +kernel), by decide +kernel, ⟨by decide +kernel, by decide +kernel⟩, by decide +kernel, by decide, fun _ => ⟨List.mem_of_getElem? (i := 1001) (by decide +kernel), List.mem_of_getElem? (i := 28) (by decide +kernel)⟩, fun h => absurd h (by decide), fun h => absurd h (by decide)⟩
theorem ag_mw_125 : ag_MW 125 := ⟨List.mem_of_getElem? (i := 989) (by decide +kernel), rfl, List.mem_of_getElem? (i := 59) (by decide +kernel), by decide +kernel, ⟨by decide +kernel, by decide +kernel⟩, by decide +kernel, by decide, fun _ => ⟨List.mem_of_getElem? (i := 987) (by decide +kernel), List.mem_of_getElem? (i := 988) (by decide +kernel)⟩, fun h => absurd h (by decide), fun h => absurd h (by decide)⟩
theorem ag_mw_126 : ag_MW 126 := ⟨List.mem_of_getElem? (i := 1006) (by decide +kernel), rfl, List.mem_of_getElem? (i := 59) (by decide +kernel), by decide +kernel, ⟨by decide +kernel, by decide +kernel⟩, by decide +kernel, by decide, fun _ => ⟨List.mem_of_getElem? (i := 1004) (by decide +kernel), List.mem_of_getElem? (i := 1005) (by decide +kernel)⟩, fun h => absurd h (by decide), fun h => absurd h (by decide)⟩
theorem ag_mw_127 : ag_MW 127 := ⟨List.mem_of_getElem? (i := 1022) (by decide +kernel), rfl, List.mem_of_getElem? (i := 59) (by decide +kernel), by decide +kernel, ⟨by decide +kernel, by decide +kernel⟩, by decide +kernel, by decide, fun _ => ⟨List.mem_of_getElem? (i := 1021) (by decide +kernel), List.mem_of_getElem? (i := 31) (by decide +kernel)⟩, fun h => absurd h (by decide), fun h => absurd h (by decide)⟩
theorem ag_mw_128 : ag_MW 128 := ⟨List.mem_of_getElem? (i := 1022) (by decide +kernel), rfl, List.mem_of_getElem? (i := 59) (by decide +kernel), by decide +kernel, ⟨by decide +kernel, by decide +kernel⟩, by decide +kernel, by decide, fun _ => ⟨List.mem_of_getElem? (i := 1021) (by decide +kernel), List.mem_of_getElem? (i := 31) (by decide +kernel)⟩, fun h => absurd h (by decide), fun h => absurd h (by decide)⟩
theorem ag_mw_129 : ag_MW 129 := ⟨List.mem_of_getElem? (i := 1022) (by decide +kernel), rfl, List.mem_of_getElem? (i := 59) (by decide +kernel), by decide +kernel, ⟨by decide +kernel, by decide +kernel⟩, by decide +kernel, by decide, fun _ => ⟨List.mem_of_getElem? (i := 1021) (by decide +kernel), List.mem_of_getElem? (i := 31) (by decide +kernel)⟩, fun h => absurd h (by decide), fun h => absurd h (by decide)⟩
theorem ag_mw_130 : ag_MW 130 := ⟨List.mem_of_getElem? (i := 1018) (by decide +kernel), rfl, List.mem_of_getElem? (i := 59) (by decide +kernel), by decide +kernel, ⟨by decide +kernel, by decide +kernel⟩, by decide +kernel, by decide, fun _ => ⟨List.mem_of_getElem? (i := 1016) (by decide +kernel), List.mem_of_getElem? (i := 1017) (by decide +kernel)⟩, fun h => absurd h (by decide), fun h => absurd h (by decide)⟩
theorem ag_mw_131 : ag_MW 131 := ⟨List.mem_of_getElem? (i := 1030) (by decide +kernel), rfl, List.mem_of_getElem? (i := 59) (by decide +kernel), by decide +kernel, ⟨by decide +kernel, by decide +kernel⟩, by decide +kernel, by decide, fun _ => ⟨List.mem_of_getElem? (i := 1029) (by decide +kernel), List.mem_of_getElem? (i := 32) (by decide +kernel)⟩, fun h => absurd h (by decide), fun h => absurd h (by decide)⟩
theorem ag_mw_132 : ag_MW 132 := ⟨List.mem_of_getElem? (i := 1026) (by decide +kernel), rfl, List.mem_of_getElem? (i := 59) (by decide +kernel), by decide +kernel, ⟨by decide +kernel, by decide +kernel⟩, by decide +kernel, by decide, fun _ => ⟨List.mem_of_getElem? (i := 1024) (by decide +kernel), List.mem_of_getElem? (i := 1025) (by decide +kernel)⟩, fun h => absurd h (by decide), fun h => absurd h (by decide)⟩
theorem ag_mw_133 : ag_MW 133 := ⟨List.mem_of_getElem? (i := 1038) (by decide +kernel), rfl, List.mem_of_getElem? (i := 59) (by decide +kernel), by decide +kernel, ⟨by decide +kernel, by decide +kernel⟩, by decide +kernel, by decide, fun _ => ⟨List.mem_of_getElem? (i := 1037) (by decide +kernel), List.mem_of_getElem? (i := 33) (by decide +kernel)⟩, fun h => absurd h (by decide), fun h => absurd h (by decide)⟩
theorem ag_mw_134 : ag_MW 134 := ⟨List.mem_of_getElem? (i := 1034) (by decide +kernel), rfl, List.mem_of_getElem? (i := 59) (by decide +kernel), by decide +kernel, ⟨by decide +kernel, by decide +kernel⟩, by decide +kernel, by decide, fun _ => ⟨List.mem_of_getElem? (i := 1032) (by decide +kernel), List.mem_of_getElem? (i := 1033) (by decide +kernel)⟩, fun h => absurd h (by decide), fun h => absurd h (by decide)⟩
theorem ag_mw_135 : ag_MW 135 := ⟨List.mem_of_getElem? (i := 1046) (by decide +kernel), rfl, List.mem_of_getElem? (i := 59) (by decide +kernel), by decide +kernel, ⟨by decide +kernel, by decide +kernel⟩, by decide +kernel, by decide, fun _ => ⟨List.mem_of_getElem? (i := 1044) (by decide +kernel), List.mem_of_getElem? (i := 1045) (by decide +kernel)⟩, fun h => absurd h (by decide), fun h => absurd h (by decide)⟩
theorem ag_mw_136 : ag_MW 136 := ⟨List.mem_of_getElem? (i := 1098) (by decide +kernel), rfl, List.mem_of_getElem? (i := 59) (by decide +kernel), by decide +kernel, ⟨by decide +kernel, by decide +kernel⟩, by decide +kernel, by decide, fun _ => ⟨List.mem_of_getElem? (i := 1097) (by decide +kernel), List.mem_of_getElem? (i := 41) (by decide +kernel)⟩, fun h => absurd h (by decide), fun h => absurd h (by decide)⟩
theorem ag_mw_137 : ag_MW 137 := ⟨List.mem_of_getElem? (i := 1106) (by decide +kernel), rfl, List.mem_of_getElem? (i := 59) (by decide +kernel), by decide +kernel, ⟨by decide +kernel, by decide +kernel⟩, by decide +kernel, by decide, fun _ => ⟨List.mem_of_getElem? (i := 1105) (by decide +kernel), List.mem_of_getElem? (i := 43) (by decide +kernel)⟩, fun h => absurd h (by decide), fun h => absurd h (by decide)⟩
theorem ag_mw_138 : ag_MW 138 := ⟨List.mem_of_getElem? (i := 1110) (by decide +kernel), rfl, List.mem_of_getElem? (i := 59) (by decide +kernel), by decide +kernel, ⟨by decide +kernel, by decide +kernel⟩, by decide +kernel, by decide, fun _ => ⟨List.mem_of_getElem? (i := 1109) (by decide +kernel), List.mem_of_getElem? (i := 44) (by decide +kernel)⟩, fun h => absurd h (by decide), fun h => absurd h (by decide)⟩
theorem ag_mw_139 : ag_MW 139 := ⟨List.mem_of_getElem? (i := 1094) (by decide +kernel), rfl, List.mem_of_getElem? (i := 59) (by decide +kernel), by decide +kernel, ⟨by decide +kernel, by decide +kernel⟩, by decide +kernel, by decide, fun _ => ⟨List.mem_of_getElem? (i := 1093) (by decide +kernel), List.mem_of_getElem? (i := 40) (by decide +kernel)⟩, fun h => absurd h (by decide), fun h => absurd h (by decide)⟩
theorem ag_mw_140 : ag_MW 140 := ⟨List.mem_of_getElem? (i := 1090) (by decide +kernel), rfl, List.mem_of_getElem? (i := 59) (by decide +kernel), by decide +kernel, ⟨by decide +kernel, by decide +kernel⟩, by decide +kernel, by decide, fun _ => ⟨List.mem_of_getElem? (i := 1089) (by decide +kernel), List.mem_of_getElem? (i := 39) (by decide +kernel)⟩, fun h => absurd h (by decide), fun h => absurd h (by decide)⟩
theorem ag_mw_141 : ag_MW 141 := ⟨List.mem_of_getElem? (i := 1086) (by decide +kernel), rfl, List.mem_of_getElem? (i := 59) (by decide +kernel), by decide +kernel, ⟨by decide +kernel, by decide +kernel⟩, by decide +kernel, by decide, fun _ => ⟨List.mem_of_getElem? (i := 1085) (by decide +kernel), List.mem_of_getElem? (i := 38) (by decide +kernel)⟩, fun h => absurd h (by decide), fun h => absurd h (by decide)⟩
theorem ag_mw_142 : ag_MW 142 := ⟨List.mem_of_getElem? (i := 1082) (by decide +kernel), rfl, List.mem_of_getElem? (i := 59) (by decide +kernel), by decide +kernel, ⟨by decide +kernel, by decide +kernel⟩, by decide +kernel, by decide, fun _ => ⟨List.mem_of_getElem? (i := 1081) (by decide +kernel), List.mem_of_getElem? (i := 37) (by decide +kernel)⟩, fun h => absurd h (by decide), fun h => absurd h (by decide)⟩
theorem ag_mw_143 : ag_MW 143 := ⟨List.mem_of_getElem? (i := 1054) (by decide +kernel), rfl, List.mem_of_getElem? (i := 59) (by decide +kernel), by decide +kernel, ⟨by decide +kernel, by decide +kernel⟩, by decide +kernel, by decide, fun _ => ⟨List.mem_of_getElem? (i := 1052) (by decide +kernel), List.mem_of_getElem? (i := 1053) (by decide +kernel)⟩, fun h => absurd h (by decide), fun h => absurd h (by decide)⟩
theorem ag_mw_144 : ag_MW 144 := ⟨List.mem_of_getElem? (i := 1062) (by decide +kernel), rfl, List.mem_of_getElem? (i := 59) (by decide +kernel), by decide +kernel, ⟨by decide +kernel, by decide +kernel⟩, by decide +kernel, by decide, fun _ => ⟨List.mem_of_getElem? (i := 1061) (by decide +kernel), List.mem_of_getElem? (i := 36) (by decide +kernel)⟩, fun h => absurd h (by decide), fun h => absurd h (by decide)⟩
theorem ag_mw_145 : ag_MW 145 := ⟨List.mem_of_getElem? (i := 1058) (by decide +kernel), rfl, List.mem_of_getElem? (i := 59) (by decide +kernel), by decide +kernel, ⟨by decide +kernel, by decide +kernel⟩, by decide +kernel, by decide, fun _ => ⟨List.mem_of_getElem? (i := 1056) (by decide +kernel), List.mem_of_getElem? (i := 1057) (by decide +kernel)⟩, fun h => absurd h (by decide), fun h => absurd h (by decide)⟩
theorem ag_mw_146 : ag_MW 146 := ⟨List.mem_of_getElem? (i := 1066) (by decide +kernel), rfl, List.mem_of_getElem? (i := 59) (by decide +kernel), by decide +kernel, ⟨by decide +kernel, by decide +kernel⟩, by decide +kernel, by decide, fun _ => ⟨List.mem_of_getElem? (i := 1064) (by decide +kernel), List.mem_of_getElem? (i := 1065) (by decide +kernel)⟩, fun h => absurd h (by decide), fun h => absurd h (by decide)⟩
theorem ag_mw_147 : ag_MW 147 := ⟨List.mem_of_getElem? (i := 1070) (by decide +kernel), rfl, List.mem_of_getElem? (i := 59) (by decide +kernel), by decide +kernel, ⟨by decide +kernel, by decide +kernel⟩, by decide +kernel, by decide, fun _ => ⟨List.mem_of_getElem? (i := 1068) (by decide +kernel), List.mem_of_getElem? (i := 1069) (by decide +kernel)⟩, fun h => absurd h (by decide), fun h => absurd h (by decide)⟩
theorem ag_mw_148 : ag_MW 148 := ⟨List.mem_of_getElem? (i := 1074) (by decide +kernel), rfl, List.mem_of_getElem? (i := 59) (by decide +kernel), by decide +kernel, ⟨by decide +kernel, by decide +kernel⟩, by decide +kernel, by decide, fun _ => ⟨List.mem_of_getElem? (i := 1072) (by decide +kernel), List.mem_of_getElem? (i := 1073) (by decide +kernel)⟩, fun h => absurd h (by decide), fun h => absurd h (by decide)⟩
theorem ag_mw_149 : ag_MW 149 := ⟨List.mem_of_getElem? (i := 1078) (by decide +kernel), rfl, List.mem_of_getElem? (i := 59) (by decide +kernel), by decide +kernel, ⟨by decide +kernel, by decide +kernel⟩, by decide +kernel, by decide, fun _ => ⟨List.mem_of_getElem? (i := 1076) (by decide +kernel), List.mem_of_getElem? (i := 1077) (by decide +kernel)⟩, fun h => absurd h (by decide), fun h => absurd h (by decide)⟩
theorem ag_mw_150 : ag_MW 150 := ⟨List.mem_of_getElem? (i := 1118) (by decide +kernel), rfl, List.mem_of_getElem? (i := 59) (by decide +kernel), by decide +kernel, ⟨by decide +kernel, by decide +kernel⟩, by decide +kernel, by decide, fun _ => ⟨List.mem_of_getElem? (i := 1117) (by decide +kernel), List.mem_of_getElem? (i := 45) (by decide +kernel)⟩, fun h => absurd h (by decide), fun h => absurd h (by decide)⟩
theorem ag_mw_151 : ag_MW 151 := ⟨List.mem_of_getElem? (i := 1114) (by decide +kernel), rfl, List.mem_of_getElem? (i := 59) (by decide +kernel), by decide +kernel, ⟨by decide +kernel, by decide +kernel⟩, by decide +kernel, by decide, fun _ => ⟨List.mem_of_getElem? (i := 1112) (by decide +kernel), List.mem_of_getElem? (i := 1113) (by decide +kernel)⟩, fun h => absurd h (by decide), fun h => absurd h (by decide)⟩
theorem ag_mw_152 : ag_MW 152 := ⟨List.mem_of_getElem? (i := 1122) (by decide +kernel), rfl, List.mem_of_getElem? (i := 59) (by decide +kernel), by decide +kernel, ⟨by decide +kernel, by decide +kernel⟩, by decide +kernel, by decide, fun _ => ⟨List.mem_of_getElem? (i := 1120) (by decide +kernel), List.mem_of_getElem? (i := 1121) (by decide +kernel)⟩, fun h => absurd h (by decide), fun h => absurd h (by decide)⟩
theorem ag_mw_153 : ag_MW 153 := ⟨List.mem_of_getElem? (i := 1126) (by decide +kernel), rfl, List.mem_of_getElem? (i := 59) (by decide +kernel), by decide +kernel, ⟨by decide +kernel, by decide +kernel⟩, by decide +kernel, by decide, fun _ => ⟨List.mem_of_getElem? (i := 1124) (by decide +kernel), List.mem_of_getElem? (i := 1125) (by decide +kernel)⟩, fun h => absurd h (by decide), fun h => absurd h (by decide)⟩
theorem ag_mw_154 : ag_MW 154 := ⟨List.mem_of_getElem? (i := 1130) (by decide +kernel), rfl, List.mem_of_getElem? (i := 59) (by decide +kernel), by decide +kernel, ⟨by decide +kernel, by decide +kernel⟩, by decide +kernel, by decide, fun _ => ⟨List.mem_of_getElem? (i := 1128) (by decide +kernel), List.mem_of_getElem? (i := 1129) (by decide +kernel)⟩, fun h => absurd h (by decide), fun h => absurd h (by decide)⟩
theorem ag_mw_155 : ag_MW 155 := ⟨List.mem_of_getElem? (i := 1146) (by decide +kernel), rfl, List.mem_of_getElem? (i := 59) (by decide +kernel), by decide +kernel, ⟨by decide +kernel, by decide +kernel⟩, by decide +kernel, by decide, fun _ => ⟨List.mem_of_getElem? (i := 1145) (by decide +kernel), List.mem_of_getElem? (i := 47) (by decide +kernel)⟩, fun h => absurd h (by decide), fun h => absurd h (by decide)⟩
theorem ag_mw_156 : ag_MW 156 := ⟨List.mem_of_getElem? (i := 1155) (by decide +kernel), rfl, List.mem_of_getElem? (i := 59) (by decide +kernel), by decide +kernel, ⟨by decide +kernel, by decide +kernel⟩, by decide +kernel, by decide, fun _ => ⟨List.mem_of_getElem? (i := 1154) (by decide +kernel), List.mem_of_getElem? (i := 48) (by decide +kernel)⟩, fun h => absurd h (by decide), fun h => absurd h (by decide)⟩
theorem ag_mw_157 : ag_MW 157 := ⟨List.mem_of_getElem? (i := 1134) (by decide +kernel), rfl, List.mem_of_getElem? (i := 59) (by decide +kernel), by decide +kernel, ⟨by decide +kernel, by decide +kernel⟩, by decide +kernel, by decide, fun _ => ⟨List.mem_of_getElem? (i := 1132) (by decide +kernel), List.mem_of_getElem? (i := 1133) (by decide +kernel)⟩, fun h => absurd h (by decide), fun h => absurd h (by decide)⟩
theorem ag_mw_158 : ag_MW 158 := ⟨List.mem_of_getElem? (i := 1142) (by decide +kernel), rfl, List.mem_of_getElem? (i := 59) (by decide +kernel), by decide +kernel, ⟨by decide +kernel, by decide +kernel⟩, by decide +kernel, by decide, fun _ => ⟨List.mem_of_getElem? (i := 1141) (by decide +kernel), List.mem_of_getElem? (i := 46) (by decide +kernel)⟩, fun h => absurd h (by decide), fun h => absurd h (by decide)⟩
theorem ag_mw_159 : ag_MW 159 := ⟨List.mem_of_getElem? (i := 1138) (by decide +kernel), rfl, List.mem_of_getElem? (i := 59) (by decide +kernel), by decide +kernel, ⟨by decide +kernel, by decide +kernel⟩, by decide +kernel, by decide, fun _ => ⟨List.mem_of_getElem? (i := 1136) (by decide +kernel), List.mem_of_getElem? (i := 1137) (by decide +kernel)⟩, fun h => absurd h (by decide), fun h => absurd h (by decide)⟩
theorem ag_mw_160 : ag_MW 160 := ⟨List.mem_of_getElem? (i := 1167) (by decide +kernel), rfl, List.mem_of_getElem? (i := 59) (by decide +kernel), by decide +kernel, ⟨by decide +kernel, by decide +kernel⟩, by decide +kernel, by decide, fun _ => ⟨List.mem_of_getElem? (i := 1166) (by decide +kernel), List.mem_of_getElem? (i := 50) (by decide +kernel)⟩, fun h => absurd h (by decide), fun h => absurd h (by decide)⟩
theorem ag_mw_161 : ag_MW 161 := ⟨List.mem_of_getElem? (i := 1163) (by decide +kernel), rfl, List.mem_of_getElem? (i := 59) (by decide +kernel), by decide +kernel, ⟨by decide +kernel, by decide +kernel⟩, by decide +kernel, by decide, fun _ => ⟨List.mem_of_getElem? (i := 1162) (by decide +kernel), List.mem_of_getElem? (i := 49) (by decide +kernel)⟩, fun h => absurd h (by decide), fun h => absurd h (by decide)⟩
theorem ag_mw_162 : ag_MW 162 := ⟨List.mem_of_getElem? (i := 1159) (by decide +kernel), rfl, List.mem_of_getElem? (i := 59) (by decide +kernel), by decide +kernel, ⟨by decide +kernel, by decide +kernel⟩, by decide +kernel, by decide, fun _ => ⟨List.mem_of_getElem? (i := 1157) (by decide +kernel), List.mem_of_getElem? (i := 1158) (by decide +kernel)⟩, fun h => absurd h (by decide), fun h => absurd h (by decide)⟩
theorem ag_mw_163 : ag_MW 163 := ⟨List.mem_of_getElem? (i := 1175) (by decide +kernel), rfl, List.mem_of_getElem? (i := 59) (by decide +kernel), by decide +kernel, ⟨by decide +kernel, by decide +kernel⟩, by decide +kernel, by decide, fun _ => ⟨List.mem_of_getElem? (i := 1174) (by decide +kernel), List.mem_of_getElem? (i := 51) (by decide +kernel)⟩, fun h => absurd h (by decide), fun h => absurd h (by decide)⟩
theorem ag_mw_164 : ag_MW 164 := ⟨List.mem_of_getElem? (i := 1171) (by decide +kernel), rfl, List.mem_of_getElem? (i := 59) (by decide +kernel), by decide +kernel, ⟨by decide +kernel, by decide +kernel⟩, by decide +kernel, by decide, fun _ => ⟨List.mem_of_getElem? (i := 1169) (by decide +kernel), List.mem_of_getElem? (i := 1170) (by decide +kernel)⟩, fun h => absurd h (by decide), fun h => absurd h (by decide)⟩
theorem ag_mw_165 : ag_MW 165 := ⟨List.mem_of_getElem? (i := 1179) (by decide +kernel), rfl, List.mem_of_getElem? (i := 59) (by decide +kernel), by decide +kernel, ⟨by decide +kernel, by decide +kernel⟩, by decide +kernel, by decide, fun _ => ⟨List.mem_of_getElem? (i := 1177) (by decide +kernel), List.mem_of_getElem? (i := 1178) (by decide +kernel)⟩, fun h => absurd h (by decide), fun h => absurd h (by decide)⟩
theorem ag_mw_166 : ag_MW 166 := ⟨List.mem_of_getElem? (i := 1183) (by decide +kernel), rfl, List.mem_of_getElem? (i := 59) (by decide +kernel), by decide +kernel, ⟨by decide +kernel, by decide +kernel⟩, by decide +kernel, by decide, fun _ => ⟨List.mem_of_getElem? (i := 1181) (by decide +kernel), List.mem_of_getElem? (i := 1182) (by decide +kernel)⟩, fun h => absurd h (by decide), fun h => absurd h (by decide)⟩
theorem ag_mw_167 : ag_MW 167 := ⟨List.mem_of_getElem? (i := 477) (by decide +kernel), rfl, List.mem_of_getElem? (i := 52) (by decide +kernel), by decide +kernel, ⟨by decide +kernel, by decide +kernel⟩, by decide +kernel, by decide, fun h => absurd h (by decide), fun _ => List.mem_of_getElem? (i := 476) (by decide +kernel), fun h => absurd h (by decide)⟩
theorem ag_mw_168 : ag_MW 168 := ⟨List.mem_of_getElem? (i := 594) (by decide +kernel), rfl, List.mem_of_getElem? (i := 52) (by decide +kernel), by decide +kernel, ⟨by decide +kernel, by decide +kernel⟩, by decide +kernel, by decide, fun h => absurd h (by decide), fun _ => List.mem_of_getElem? (i := 593) (by decide +kernel), fun h => absurd h (by decide)⟩
theorem ag_mw_169 : ag_MW 169 := ⟨List.mem_of_getElem? (i := 607) (by decide +kernel), rfl, List.mem_of_getElem? (i := 52) (by decide +kernel), by decide +kernel, ⟨by decide +kernel, by decide +kernel⟩, by decide +kernel, by decide, fun h => absurd h (by decide), fun _ => List.mem_of_getElem? (i := 606) (by decide +kernel), fun h => absurd h (by decide)⟩
theorem ag_mw_170 : ag_MW 170 := ⟨List.mem_of_getElem? (i := 615) (by decide +kernel), rfl, List.mem_of_getElem? (i := 52) (by decide +kernel), by decide +kernel, ⟨by decide +kernel, by decide +kernel⟩, by decide +kernel, by decide, fun h => absurd h (by decide), fun _ => List.mem_of_getElem? (i := 614) (by decide +kernel), fun h => absurd h (by decide)⟩
theorem ag_mw_171 : ag_MW 171 := ⟨List.mem_of_getElem? (i := 623) (by decide +kernel), rfl, List.mem_of_getElem? (i := 52) (by decide +kernel), by decide +kernel, ⟨by decide +kernel, by decide +kernel⟩, by decide +kernel, by decide, fun h => absurd h (by decide), fun _ => List.mem_of_getElem? (i := 622) (by decide +kernel), fun h => absurd h (by decide)⟩
theorem ag_mw_172 : ag_MW 172 := ⟨List.mem_of_getElem? (i := 641) (by decide +kernel), rfl, List.mem_of_getElem? (i := 52) (by decide +kernel), by decide +kernel, ⟨by decide +kernel, by decide +kernel⟩, by decide +kernel, by decide, fun h => absurd h (by decide), fun _ => List.mem_of_getElem? (i := 640) (by decide +kernel), fun h => absurd h (by decide)⟩
theorem ag_mw_173 : ag_MW 173 := ⟨List.mem_of_getElem? (i := 659) (by decide +kernel), rfl, List.mem_of_getElem? (i := 52) (by decide +kernel), by decide +kernel, ⟨by decide +kernel, by decide +kernel⟩, by decide +kernel, by decide, fun h => absurd h (by decide), fun _ => List.mem_of_getElem? (i := 658) (by decide +kernel), fun h => absurd h (by decide)⟩
theorem ag_mw_174 : ag_MW 174 := ⟨List.mem_of_getElem? (i := 668) (by decide +kernel), rfl, List.mem_of_getElem? (i := 52) (by decide +kernel), by decide +kernel, ⟨by decide +kernel, by decide +kernel⟩, by decide +kernel, by decide, fun h => absurd h (by decide), fun _ => List.mem_of_getElem? (i := 667) (by decide +kernel), fun h => absurd h (by decide)⟩
theorem ag_mw_175 : ag_MW 175 := ⟨List.mem_of_getElem? (i := 676) (by decide +kernel), rfl, List.mem_of_getElem? (i := 52) (by decide +kernel), by decide +kernel, ⟨by decide +kernel, by decide +kernel⟩, by decide +kernel, by decide, fun h => absurd h (by decide), fun _ => List.mem_of_getElem? (i := 675) (by decide +kernel), fun h => absurd h (by decide)⟩
theorem ag_mw_176 : ag_MW 176 := ⟨List.mem_of_getElem? (i := 683) (by decide +kernel), rfl, List.mem_of_getElem? (i := 52) (by decide +kernel), by decide +kernel, ⟨by decide +kernel, by decide +kernel⟩, by decide +kernel, by decide, fun h => absurd h (by decide), fun _ => List.mem_of_getElem? (i := 682) (by decide +kernel), fun h => absurd h (by decide)⟩
theorem ag_mw_177 : ag_MW 177 := ⟨List.mem_of_getElem? (i := 697) (by decide +kernel), rfl, List.mem_of_getElem? (i := 52) (by decide +kernel), by decide +kernel, ⟨by decide +kernel, by decide +kernel⟩, by decide +kernel, by decide, fun h => absurd h (by decide), fun _ => List.mem_of_getElem? (i := 696) (by decide +kernel), fun h => absurd h (by decide)⟩
theorem ag_mw_178 : ag_MW 178 := ⟨List.mem_of_getElem? (i := 714) (by decide +kernel), rfl, List.mem_of_getElem? (i := 52) (by decide +kernel), by decide +kernel, ⟨by decide +kernel, by decide +kernel⟩, by decide +kernel, by decide, fun h => absurd h (by decide), fun _ => List.mem_of_getElem? (i := 713) (by decide +kernel), fun h => absurd h (by decide)⟩
theorem ag_mw_179 : ag_MW 179 := ⟨List.mem_of_getElem? (i := 722) (by decide +kernel), rfl, List.mem_of_getElem? (i := 52) (by decide +kernel), by decide +kernel, ⟨by decide +kernel, by decide +kernel⟩, by decide +kernel, by decide, fun h => absurd h (by decide), fun _ => List.mem_of_getElem? (i := 721) (by decide +kernel), fun h => absurd h (by decide)⟩
theorem ag_mw_180 : ag_MW 180 := ⟨List.mem_of_getElem? (i := 736) (by decide +kernel), rfl, List.mem_of_getElem? (i := 52) (by decide +kernel), by decide +kernel, ⟨by decide +kernel, by decide +kernel⟩, by decide +kernel, by decide, fun h => absurd h (by decide), fun _ => List.mem_of_getElem? (i := 735) (by decide +kernel), fun h => absurd h (by decide)⟩
theorem ag_mw_181 : ag_MW 181 := ⟨List.mem_of_getElem? (i := 754) (by decide +kernel), rfl, List.mem_of_getElem? (i := 52) (by decide +kernel), by decide +kernel, ⟨by decide +kernel, by decide +kernel⟩, by decide +kernel, by decide, fun h => absurd h (by decide), fun _ => List.mem_of_getElem? (i := 753) (by decide +kernel), fun h => absurd h (by decide)⟩
theorem ag_mw_182 : ag_MW 182 := ⟨List.mem_of_getElem? (i := 769) (by decide +kernel), rfl, List.mem_of_getElem? (i := 52) (by decide +kernel), by decide +kernel, ⟨by decide +kernel, by decide +kernel⟩, by decide +kernel, by decide, fun h => absurd h (by decide), fun _ => List.mem_of_getElem? (i := 768) (by decide +kernel), fun h => absurd h (by decide)⟩
theorem ag_mw_183 : ag_MW 183 := ⟨List.mem_of_getElem? (i := 777) (by decide +kernel), rfl, List.mem_of_getElem? (i := 52) (by decide +kernel), by decide +kernel, ⟨by decide +kernel, by decide +kernel⟩, by decide +kernel, by decide, fun h => absurd h (by decide), fun _ => List.mem_of_getElem? (i := 776) (by decide +kernel), fun h => absurd h (by decide)⟩
theorem ag_mw_184 : ag_MW 184 := ⟨List.mem_of_getElem? (i := 790) (by decide +kernel), rfl, List.mem_of_getElem? (i := 52) (by decide +kernel), by decide +kernel, ⟨by decide +kernel, by decide +kernel⟩, by decide +kernel, by decide, fun h => absurd h (by decide), fun _ => List.mem_of_getElem? (i := 789) (by decide +kernel), fun h => absurd h (by decide)⟩
theorem ag_mw_185 : ag_MW 185 := ⟨List.mem_of_getElem? (i := 798) (by decide +kernel), rfl, List.mem_of_getElem? (i := 52) (by decide +kernel), by decide +kernel, ⟨by decide +kernel, by decide +kernel⟩, by decide +kernel, by decide, fun h => absurd h (by decide), fun _ => List.mem_of_getElem? (i := 797) (by decide +kernel), fun h => absurd h (by decide)⟩
theorem ag_mw_186 : ag_MW 186 := ⟨List.mem_of_getElem? (i := 806) (by decide +kernel), rfl, List.mem_of_getElem? (i := 52) (by decide +kernel), by decide +kernel, ⟨by decide +kernel, by decide +kernel⟩, by decide +kernel, by decide, fun h => absurd h (by decide), fun _ => List.mem_of_getElem? (i := 805) (by decide +kernel), fun h => absurd h (by decide)⟩
theorem ag_mw_187 : ag_MW 187 := ⟨List.mem_of_getElem? (i := 813) (by decide +kernel), rfl, List.mem_of_getElem? (i := 52) (by decide +kernel), by decide +kernel, ⟨by decide +kernel, by decide +kernel⟩, by decide +kernel, by decide, fun h => absurd h (by decide), fun _ => List.mem_of_getElem? (i := 812) (by decide +kernel), fun h => absurd h (by decide)⟩
theorem ag_mw_188 : ag_MW 188 := ⟨List.mem_of_getElem? (i := 820) (by decide +kernel), rfl, List.mem_of_getElem? (i := 52) (by decide +kernel), by decide +kernel, ⟨by decide +kernel, by decide +kernel⟩, by decide +kernel, by decide, fun h => absurd h (by decide), fun _ => List.mem_of_getElem? (i := 819) (by decide +kernel), fun h => absurd h (by decide)⟩
def ag_MW3 (y : Nat) : Prop := 3 ≤ y → y < 189 → ag_MW y
theorem ag_mw_go3_g0 (k : Nat) (h : k < 20) : ag_MW3 (0 + k) := by
  match k, h with
  | 0, _ => exact (fun h _ => absurd h (by decide))
  | 1, _ => exact (fun h _ => absurd h (by decide))
  | 2, _ => exact (fun h _ => absurd h (by decide))
  | 3, _ => exact (fun _ _ => ag_mw_3)
  | 4, _ => exact (fun _ _ => ag_mw_4)
  | 5, _ => exact (fun _ _ => ag_mw_5)
  | 6, _ => exact (fun _ _ => ag_mw_6)
  | 7, _ => exact (fun _ _ => ag_mw_7)
  | 8, _ => exact (fun _ _ => ag_mw_8)
  | 9, _ => exact (fun _ _ => ag_mw_9)
  | 10, _ => exact (fun _ _ => ag_mw_10)
  | 11, _ => exact (fun _ _ => ag_mw_11)
  | 12, _ => exact (fun _ _ => ag_mw_12)
  | 13, _ => exact (fun _ _ => ag_mw_13)
  | 14, _ => exact (fun _ _ => ag_mw_14)
  | 15, _ => exact (fun _ _ => ag_mw_15)
  | 16, _ => exact (fun _ _ => ag_mw_16)
  | 17, _ => exact (fun _ _ => ag_mw_17)
  | 18, _ => exact (fun _ _ => ag_mw_18)
  | 19, _ => exact (fun _ _ => ag_mw_19)
  | n + 20, h => exact absurd h (by omega)
theorem ag_mw_go3_g20 (k : Nat) (h : k < 20) : ag_MW3 (20 + k) := by
  match k, h with
  | 0, _ => exact (fun _ _ => ag_mw_20)
  | 1, _ => exact (fun _ _ => ag_mw_21)
  | 2, _ => exact (fun _ _ => ag_mw_22)
  | 3, _ => exact (fun _ _ => ag_mw_23)
  | 4, _ => exact (fun _ _ => ag_mw_24)
  | 5, _ => exact (fun _ _ => ag_mw_25)
  | 6, _ => exact (fun _ _ => ag_mw_26)
  | 7, _ => exact (fun _ _ => ag_mw_27)
  | 8, _ => exact (fun _ _ => ag_mw_28)
  | 9, _ => exact (fun _ _ => ag_mw_29)
  | 10, _ => exact (fun _ _ => ag_mw_30)
  | 11, _ => exact (fun _ _ => ag_mw_31)
  | 12, _ => exact (fun _ _ => ag_mw_32)
  | 13, _ => exact (fun _ _ => ag_mw_33)
  | 14, _ => exact (fun _ _ => ag_mw_34)
  | 15, _ => exact (fun _ _ => ag_mw_35)
  | 16, _ => exact (fun _ _ => ag_mw_36)
  | 17, _ => exact (fun _ _ => ag_mw_37)
  | 18, _ => exact (fun _ _ => ag_mw_38)
  | 19, _ => exact (fun _ _ => ag_mw_39)
  | n + 20, h => exact absurd h (by omega)
theorem ag_mw_go3_g40 (k : Nat) (h : k < 20) : ag_MW3 (40 + k) := by
  match k, h with
  | 0, _ => exact (fun _ _ => ag_mw_40)
  | 1, _ => exact (fun _ _ => ag_mw_41)
  | 2, _ => exact (fun _ _ => ag_mw_42)
  | 3, _ => exact (fun _ _ => ag_mw_43)
  | 4, _ => exact (fun _ _ => ag_mw_44)
  | 5, _ => exact (fun _ _ => ag_mw_45)
  | 6, _ => exact (fun _ _ => ag_mw_46)
  | 7, _ => exact (fun _ _ => ag_mw_47)
  | 8, _ => exact (fun _ _ => ag_mw_48)
  | 9, _ => exact (fun _ _ => ag_mw_49)
  | 10, _ => exact (fun _ _ => ag_mw_50)
  | 11, _ => exact (fun _ _ => ag_mw_51)
  | 12, _ => exact (fun _ _ => ag_mw_52)
  | 13, _ => exact (fun _ _ => ag_mw_53)
  | 14, _ => exact (fun _ _ => ag_mw_54)
  | 15, _ => exact (fun _ _ => ag_mw_55)
  | 16, _ => exact (fun _ _ => ag_mw_56)
  | 17, _ => exact (fun _ _ => ag_mw_57)
  | 18, _ => exact (fun _ _ => ag_mw_58)
  | 19, _ => exact (fun _ _ => ag_mw_59)
  | n + 20, h => exact absurd h (by omega)
theorem ag_mw_go3_g60 (k : Nat) (h : k < 20) : ag_MW3 (60 + k) := by
  match k, h with
  | 0, _ => exact (fun _ _ => ag_mw_60)
  | 1, _ => exact (fun _ _ => ag_mw_61)
  | 2, _ => exact (fun _ _ => ag_mw_62)
  | 3, _ => exact (fun _ _ => ag_mw_63)
  | 4, _ => exact (fun _ _ => ag_mw_64)
  | 5, _ => exact (fun _ _ => ag_mw_65)
  | 6, _ => exact (fun _ _ => ag_mw_66)
  | 7, _ => exact (fun _ _ => ag_mw_67)
  | 8, _ => exact (fun _ _ => ag_mw_68)
  | 9, _ => exact (fun _ _ => ag_mw_69)
  | 10, _ => exact (fun _ _ => ag_mw_70)
  | 11, _ => exact (fun _ _ => ag_mw_71)
  | 12, _ => exact (fun _ _ => ag_mw_72)
  | 13, _ => exact (fun _ _ => ag_mw_73)
  | 14, _ => exact (fun _ _ => ag_mw_74)
  | 15, _ => exact (fun _ _ => ag_mw_75)
  | 16, _ => exact (fun _ _ => ag_mw_76)
  | 17, _ => exact (fun _ _ => ag_mw_77)
  | 18, _ => exact (fun _ _ => ag_mw_78)
  | 19, _ => exact (fun _ _ => ag_mw_79)
  | n + 20, h => exact absurd h (by omega)
theorem ag_mw_go3_g80 (k : Nat) (h : k < 20) : ag_MW3 (80 + k) := by
  match k, h with
  | 0, _ => exact (fun _ _ => ag_mw_80)
  | 1, _ => exact (fun _ _ => ag_mw_81)
  | 2, _ => exact (fun _ _ => ag_mw_82)
  | 3, _ => exact (fun _ _ => ag_mw_83)
  | 4, _ => exact (fun _ _ => ag_mw_84)
  | 5, _ => exact (fun _ _ => ag_mw_85)
  | 6, _ => exact (fun _ _ => ag_mw_86)
  | 7, _ => exact (fun _ _ => ag_mw_87)
  | 8, _ => exact (fun _ _ => ag_mw_88)
  | 9, _ => exact (fun _ _ => ag_mw_89)
  | 10, _ => exact (fun _ _ => ag_mw_90)
  | 11, _ => exact (fun _ _ => ag_mw_91)
  | 12, _ => exact (fun _ _ => ag_mw_92)
  | 13, _ => exact (fun _ _ => ag_mw_93)
  | 14, _ => exact (fun _ _ => ag_mw_94)
  | 15, _ => exact (fun _ _ => ag_mw_95)
  | 16, _ => exact (fun _ _ => ag_mw_96)
  | 17, _ => exact (fun _ _ => ag_mw_97)
  | 18, _ => exact (fun _ _ => ag_mw_98)
  | 19, _ => exact (fun _ _ => ag_mw_99)
  | n + 20, h => exact absurd h (by omega)
theorem ag_mw_go3_g100 (k : Nat) (h : k < 20) : ag_MW3 (100 + k) := by
  match k, h with
  | 0, _ => exact (fun _ _ => ag_mw_100)
  | 1, _ => exact (fun _ _ => ag_mw_101)
  | 2, _ => exact (fun _ _ => ag_mw_102)
  | 3, _ => exact (fun _ _ => ag_mw_103)
  | 4, _ => exact (fun _ _ => ag_mw_104)
  | 5, _ => exact (fun _ _ => ag_mw_105)
  | 6, _ => exact (fun _ _ => ag_mw_106)
  | 7, _ => exact (fun _ _ => ag_mw_107)
  | 8, _ => exact (fun _ _ => ag_mw_108)
  | 9, _ => exact (fun _ _ => ag_mw_109)
  | 10, _ => exact (fun _ _ => ag_mw_110)
  | 11, _ => exact (fun _ _ => ag_mw_111)
  | 12, _ => exact (fun _ _ => ag_mw_112)
  | 13, _ => exact (fun _ _ => ag_mw_113)
  | 14, _ => exact (fun _ _ => ag_mw_114)
  | 15, _ => exact (fun _ _ => ag_mw_115)
  | 16, _ => exact (fun _ _ => ag_mw_116)
  | 17, _ => exact (fun _ _ => ag_mw_117)
  | 18, _ => exact (fun _ _ => ag_mw_118)
  | 19, _ => exact (fun _ _ => ag_mw_119)
  | n + 20, h => exact absurd h (by omega)
theorem ag_mw_go3_g120 (k : Nat) (h : k < 20) : ag_MW3 (120 + k) := by
  match k, h with
  | 0, _ => exact (fun _ _ => ag_mw_120)
  | 1, _ => exact (fun _ _ => ag_mw_121)
  | 2, _ => exact (fun _ _ => ag_mw_122)
  | 3, _ => exact (fun _ _ => ag_mw_123)
  | 4, _ => exact (fun _ _ => ag_mw_124)
  | 5, _ => exact (fun _ _ => ag_mw_125)
  | 6, _ => exact (fun _ _ => ag_mw_126)
  | 7, _ => exact (fun _ _ => ag_mw_127)
  | 8, _ => exact (fun _ _ => ag_mw_128)
  | 9, _ => exact (fun _ _ => ag_mw_129)
  | 10, _ => exact (fun _ _ => ag_mw_130)
  | 11, _ => exact (fun _ _ => ag_mw_131)
  | 12, _ => exact (fun _ _ => ag_mw_132)
  | 13, _ => exact (fun _ _ => ag_mw_133)
  | 14, _ => exact (fun _ _ => ag_mw_134)
  | 15, _ => exact (fun _ _ => ag_mw_135)
  | 16, _ => exact (fun _ _ => ag_mw_136)
  | 17, _ => exact (fun _ _ => ag_mw_137)
  | 18, _ => exact (fun _ _ => ag_mw_138)
  | 19, _ => exact (fun _ _ => ag_mw_139)
  | n + 20, h => exact absurd h (by omega)
theorem ag_mw_go3_g140 (k : Nat) (h : k < 20) : ag_MW3 (140 + k) := by
  match k, h with
  | 0, _ => exact (fun _ _ => ag_mw_140)
  | 1, _ => exact (fun _ _ => ag_mw_141)
  | 2, _ => exact (fun _ _ => ag_mw_142)
  | 3, _ => exact (fun _ _ => ag_mw_143)
  | 4, _ => exact (fun _ _ => ag_mw_144)
  | 5, _ => exact (fun _ _ => ag_mw_145)
  | 6, _ => exact (fun _ _ => ag_mw_146)
  | 7, _ => exact (fun _ _ => ag_mw_147)
  | 8, _ => exact (fun _ _ => ag_mw_148)
  | 9, _ => exact (fun _ _ => ag_mw_149)
  | 10, _ => exact (fun _ _ => ag_mw_150)
  | 11, _ => exact (fun _ _ => ag_mw_151)
  | 12, _ => exact (fun _ _ => ag_mw_152)
  | 13, _ => exact (fun _ _ => ag_mw_153)
  | 14, _ => exact (fun _ _ => ag_mw_154)
  | 15, _ => exact (fun _ _ => ag_mw_155)
  | 16, _ => exact (fun _ _ => ag_mw_156)
  | 17, _ => exact (fun _ _ => ag_mw_157)
  | 18, _ => exact (fun _ _ => ag_mw_158)
  | 19, _ => exact (fun _ _ => ag_mw_159)
  | n + 20, h => exact absurd h (by omega)
theorem ag_mw_go3_g160 (k : Nat) (h : k < 20) : ag_MW3 (160 + k) := by
  match k, h with
  | 0, _ => exact (fun _ _ => ag_mw_160)
  | 1, _ => exact (fun _ _ => ag_mw_161)
  | 2, _ => exact (fun _ _ => ag_mw_162)
  | 3, _ => exact (fun _ _ => ag_mw_163)
  | 4, _ => exact (fun _ _ => ag_mw_164)
  | 5, _ => exact (fun _ _ => ag_mw_165)
  | 6, _ => exact (fun _ _ => ag_mw_166)
  | 7, _ => exact (fun _ _ => ag_mw_167)
  | 8, _ => exact (fun _ _ => ag_mw_168)
  | 9, _ => exact (fun _ _ => ag_mw_169)
  | 10, _ => exact (fun _ _ => ag_mw_170)
  | 11, _ => exact (fun _ _ => ag_mw_171)
  | 12, _ => exact (fun _ _ => ag_mw_172)
  | 13, _ => exact (fun _ _ => ag_mw_173)
  | 14, _ => exact (fun _ _ => ag_mw_174)
  | 15, _ => exact (fun _ _ => ag_mw_175)
  | 16, _ => exact (fun _ _ => ag_mw_176)
  | 17, _ => exact (fun _ _ => ag_mw_177)
  | 18, _ => exact (fun _ _ => ag_mw_178)
  | 19, _ => exact (fun _ _ => ag_mw_179)
  | n + 20, h => exact absurd h (by omega)
theorem ag_mw_go3_g180 (k : Nat) (h : k < 9) : ag_MW3 (180 + k) := by
  match k, h with
  | 0, _ => exact (fun _ _ => ag_mw_180)
  | 1, _ => exact (fun _ _ => ag_mw_181)
  | 2, _ => exact (fun _ _ => ag_mw_182)
  | 3, _ => exact (fun _ _ => ag_mw_183)
  | 4, _ => exact (fun _ _ => ag_mw_184)
  | 5, _ => exact (fun _ _ => ag_mw_185)
  | 6, _ => exact (fun _ _ => ag_mw_186)
  | 7, _ => exact (fun _ _ => ag_mw_187)
  | 8, _ => exact (fun _ _ => ag_mw_188)
  | n + 9, h => exact absurd h (by omega)
theorem ag_mw_go3 (y : Nat) : ag_MW3 y := by
  rcases Nat.lt_or_ge y 20 with h20 | h20
  · have hy : y = 0 + (y - 0) := by omega
    rw [hy]
    exact ag_mw_go3_g0 (y - 0) (by omega)
  rcases Nat.lt_or_ge y 40 with h40 | h40
  · have hy : y = 20 + (y - 20) := by omega
    rw [hy]
    exact ag_mw_go3_g20 (y - 20) (by omega)
  rcases Nat.lt_or_ge y 60 with h60 | h60
  · have hy : y = 40 + (y - 40) := by omega
    rw [hy]
    exact ag_mw_go3_g40 (y - 40) (by omega)
  rcases Nat.lt_or_ge y 80 with h80 | h80
  · have hy : y = 60 + (y - 60) := by omega
    rw [hy]
    exact ag_mw_go3_g60 (y - 60) (by omega)
  rcases Nat.lt_or_ge y 100 with h100 | h100
  · have hy : y = 80 + (y - 80) := by omega
    rw [hy]
    exact ag_mw_go3_g80 (y - 80) (by omega)
  rcases Nat.lt_or_ge y 120 with h120 | h120
  · have hy : y = 100 + (y - 100) := by omega
    rw [hy]
    exact ag_mw_go3_g100 (y - 100) (by omega)
  rcases Nat.lt_or_ge y 140 with h140 | h140
  · have hy : y = 120 + (y - 120) := by omega
    rw [hy]
    exact ag_mw_go3_g120 (y - 120) (by omega)
  rcases Nat.lt_or_ge y 160 with h160 | h160
  · have hy : y = 140 + (y - 140) := by omega
    rw [hy]
    exact ag_mw_go3_g140 (y - 140) (by omega)
  rcases Nat.lt_or_ge y 180 with h180 | h180
  · have hy : y = 160 + (y - 160) := by omega
    rw [hy]
    exact ag_mw_go3_g160 (y - 160) (by omega)
  rcases Nat.lt_or_ge y 189 with h189 | h189
  · have hy : y = 180 + (y - 180) := by omega
    rw [hy]
    exact ag_mw_go3_g180 (y - 180) (by omega)
  exact (fun _ h => absurd h (by omega))
theorem ag_mw_go (q : Nat) (h1 : 3 ≤ q) (h2 : q < 189) : ag_MW q := ag_mw_go3 q h1 h2
/-- an entry of a pool that is a method, as method y calls it -/
def ag_CW (y idx y' n kd : Nat) : Prop := match kd with
  | 5 => y' = 0 ∧ Cond.methodLink (ag_on (ag_ow y)) idx objectInit ∈ lw_tbl
  | 6 => y' = 1 ∧ Cond.methodLink (ag_on (ag_ow y)) idx Lib.Math.max.name ∈ lw_tbl
  | 7 => y' = 2 ∧ Cond.methodLink (ag_on (ag_ow y)) idx arraycopyName ∈ lw_tbl
  | 0 => 3 ≤ y' ∧ y' < 189 ∧ ag_rk y' < ag_rk y ∧ n = ag_np y' + 1 ∧ ag_mk y' = 0 ∧ Cond.methodLink (ag_on (ag_ow y)) idx (ag_ny y') ∈ lw_tbl
  | 1 => 3 ≤ y' ∧ y' < 189 ∧ ag_rk y' < ag_rk y ∧ n = ag_np y' ∧ ag_mk y' = 1 ∧ ag_mk y ≠ 3 ∧ (ag_ny y').cls = ag_on (ag_ow y) ∧ Cond.methodLink (ag_on (ag_ow y)) idx (ag_ny y') ∈ lw_tbl
  | 8 => 3 ≤ y' ∧ y' < 189 ∧ ag_rk y' < ag_rk y ∧ n = ag_np y' ∧ ag_mk y' = 3 ∧ ag_mk y ≠ 3 ∧ Cond.methodLink (ag_on (ag_ow y)) idx (ag_ny y') ∈ lw_tbl
  | 2 => 3 ≤ y' ∧ y' < 189 ∧ ag_rk y' < ag_rk y ∧ n = ag_np y' ∧ ag_mk y' = 1 ∧ ag_mk y ≠ 3 ∧ Cond.methodLinkNest (ag_on (ag_ow y)) idx (ag_ny y') "AgendumOffice" ∈ lw_tbl
  | 3 => 3 ≤ y' ∧ y' < 189 ∧ ag_rk y' < ag_rk y ∧ n = ag_np y' + 1 ∧ ag_mk y' = 2 ∧ ag_mk y ≠ 3 ∧ Cond.methodLink (ag_on (ag_ow y)) idx (ag_ny y') ∈ lw_tbl
  | 4 => 3 ≤ y' ∧ y' < 189 ∧ ag_rk y' < ag_rk y ∧ n = ag_np y' + 1 ∧ ag_mk y' = 2 ∧ ag_mk y ≠ 3 ∧ Cond.methodLinkNest (ag_on (ag_ow y)) idx (ag_ny y') "AgendumOffice" ∈ lw_tbl
  | _ => False
theorem ag_lk_0_3_0 : Cond.methodLink (ag_on 0) 3 objectInit ∈ lw_tbl := List.mem_of_getElem? (i := 140) (by decide +kernel)
theorem ag_lk_0_36_96 : Cond.methodLinkNest (ag_on 0) 36 (ag_ny 96) "AgendumOffice" ∈ lw_tbl := List.mem_of_getElem? (i := 296) (by decide +kernel)
theorem ag_lk_0_47_94 : Cond.methodLinkNest (ag_on 0) 47 (ag_ny 94) "AgendumOffice" ∈ lw_tbl := List.mem_of_getElem? (i := 279) (by decide +kernel)
theorem ag_lk_0_51_9 : Cond.methodLink (ag_on 0) 51 (ag_ny 9) ∈ lw_tbl := List.mem_of_getElem? (i := 368) (by decide +kernel)
theorem ag_lk_0_55_7 : Cond.methodLink (ag_on 0) 55 (ag_ny 7) ∈ lw_tbl := List.mem_of_getElem? (i := 441) (by decide +kernel)
theorem ag_lk_0_59_1 : Cond.methodLink (ag_on 0) 59 Lib.Math.max.name ∈ lw_tbl := List.mem_of_getElem? (i := 333) (by decide +kernel)
theorem ag_lk_0_65_5 : Cond.methodLink (ag_on 0) 65 (ag_ny 5) ∈ lw_tbl := List.mem_of_getElem? (i := 391) (by decide +kernel)
theorem ag_lk_0_69_95 : Cond.methodLinkNest (ag_on 0) 69 (ag_ny 95) "AgendumOffice" ∈ lw_tbl := List.mem_of_getElem? (i := 369) (by decide +kernel)
theorem ag_lk_0_73_8 : Cond.methodLink (ag_on 0) 73 (ag_ny 8) ∈ lw_tbl := List.mem_of_getElem? (i := 392) (by decide +kernel)
theorem ag_lk_0_76_18 : Cond.methodLink (ag_on 0) 76 (ag_ny 18) ∈ lw_tbl := List.mem_of_getElem? (i := 370) (by decide +kernel)
theorem ag_lk_0_79_17 : Cond.methodLink (ag_on 0) 79 (ag_ny 17) ∈ lw_tbl := List.mem_of_getElem? (i := 378) (by decide +kernel)
theorem ag_lk_1_3_0 : Cond.methodLink (ag_on 1) 3 objectInit ∈ lw_tbl := List.mem_of_getElem? (i := 134) (by decide +kernel)
theorem ag_lk_1_11_3 : Cond.methodLinkNest (ag_on 1) 11 (ag_ny 3) "AgendumOffice" ∈ lw_tbl := List.mem_of_getElem? (i := 137) (by decide +kernel)
theorem ag_lk_1_20_42 : Cond.methodLinkNest (ag_on 1) 20 (ag_ny 42) "AgendumOffice" ∈ lw_tbl := List.mem_of_getElem? (i := 189) (by decide +kernel)
theorem ag_lk_1_29_4 : Cond.methodLink (ag_on 1) 29 (ag_ny 4) ∈ lw_tbl := List.mem_of_getElem? (i := 292) (by decide +kernel)
theorem ag_lk_1_33_43 : Cond.methodLink (ag_on 1) 33 (ag_ny 43) ∈ lw_tbl := List.mem_of_getElem? (i := 299) (by decide +kernel)
theorem ag_lk_1_40_94 : Cond.methodLinkNest (ag_on 1) 40 (ag_ny 94) "AgendumOffice" ∈ lw_tbl := List.mem_of_getElem? (i := 259) (by decide +kernel)
theorem ag_lk_1_44_9 : Cond.methodLink (ag_on 1) 44 (ag_ny 9) ∈ lw_tbl := List.mem_of_getElem? (i := 325) (by decide +kernel)
theorem ag_lk_1_51_13 : Cond.methodLink (ag_on 1) 51 (ag_ny 13) ∈ lw_tbl := List.mem_of_getElem? (i := 329) (by decide +kernel)
theorem ag_lk_1_55_5 : Cond.methodLink (ag_on 1) 55 (ag_ny 5) ∈ lw_tbl := List.mem_of_getElem? (i := 336) (by decide +kernel)
theorem ag_lk_1_59_8 : Cond.methodLink (ag_on 1) 59 (ag_ny 8) ∈ lw_tbl := List.mem_of_getElem? (i := 340) (by decide +kernel)
theorem ag_lk_1_62_46 : Cond.methodLink (ag_on 1) 62 (ag_ny 46) ∈ lw_tbl := List.mem_of_getElem? (i := 313) (by decide +kernel)
theorem ag_lk_1_75_21 : Cond.methodLink (ag_on 1) 75 (ag_ny 21) ∈ lw_tbl := List.mem_of_getElem? (i := 321) (by decide +kernel)
theorem ag_lk_1_86_24 : Cond.methodLink (ag_on 1) 86 (ag_ny 24) ∈ lw_tbl := List.mem_of_getElem? (i := 262) (by decide +kernel)
theorem ag_lk_1_90_51 : Cond.methodLink (ag_on 1) 90 (ag_ny 51) ∈ lw_tbl := List.mem_of_getElem? (i := 266) (by decide +kernel)
theorem ag_lk_1_93_22 : Cond.methodLink (ag_on 1) 93 (ag_ny 22) ∈ lw_tbl := List.mem_of_getElem? (i := 317) (by decide +kernel)
theorem ag_lk_1_96_52 : Cond.methodLink (ag_on 1) 96 (ag_ny 52) ∈ lw_tbl := List.mem_of_getElem? (i := 344) (by decide +kernel)
theorem ag_lk_1_100_37 : Cond.methodLink (ag_on 1) 100 (ag_ny 37) ∈ lw_tbl := List.mem_of_getElem? (i := 351) (by decide +kernel)
theorem ag_lk_1_105_27 : Cond.methodLink (ag_on 1) 105 (ag_ny 27) ∈ lw_tbl := List.mem_of_getElem? (i := 360) (by decide +kernel)
theorem ag_lk_1_109_28 : Cond.methodLink (ag_on 1) 109 (ag_ny 28) ∈ lw_tbl := List.mem_of_getElem? (i := 393) (by decide +kernel)
theorem ag_lk_1_112_23 : Cond.methodLink (ag_on 1) 112 (ag_ny 23) ∈ lw_tbl := List.mem_of_getElem? (i := 308) (by decide +kernel)
theorem ag_lk_1_116_25 : Cond.methodLink (ag_on 1) 116 (ag_ny 25) ∈ lw_tbl := List.mem_of_getElem? (i := 309) (by decide +kernel)
theorem ag_lk_1_120_15 : Cond.methodLink (ag_on 1) 120 (ag_ny 15) ∈ lw_tbl := List.mem_of_getElem? (i := 364) (by decide +kernel)
theorem ag_lk_1_123_16 : Cond.methodLink (ag_on 1) 123 (ag_ny 16) ∈ lw_tbl := List.mem_of_getElem? (i := 374) (by decide +kernel)
theorem ag_lk_1_129_95 : Cond.methodLinkNest (ag_on 1) 129 (ag_ny 95) "AgendumOffice" ∈ lw_tbl := List.mem_of_getElem? (i := 382) (by decide +kernel)
theorem ag_lk_1_133_10 : Cond.methodLink (ag_on 1) 133 (ag_ny 10) ∈ lw_tbl := List.mem_of_getElem? (i := 383) (by decide +kernel)
theorem ag_lk_1_139_14 : Cond.methodLink (ag_on 1) 139 (ag_ny 14) ∈ lw_tbl := List.mem_of_getElem? (i := 387) (by decide +kernel)
theorem ag_lk_1_152_29 : Cond.methodLink (ag_on 1) 152 (ag_ny 29) ∈ lw_tbl := List.mem_of_getElem? (i := 397) (by decide +kernel)
theorem ag_lk_1_155_30 : Cond.methodLink (ag_on 1) 155 (ag_ny 30) ∈ lw_tbl := List.mem_of_getElem? (i := 401) (by decide +kernel)
theorem ag_lk_2_3_0 : Cond.methodLink (ag_on 2) 3 objectInit ∈ lw_tbl := List.mem_of_getElem? (i := 81) (by decide +kernel)
theorem ag_lk_2_31_95 : Cond.methodLinkNest (ag_on 2) 31 (ag_ny 95) "AgendumOffice" ∈ lw_tbl := List.mem_of_getElem? (i := 694) (by decide +kernel)
theorem ag_lk_2_35_94 : Cond.methodLinkNest (ag_on 2) 35 (ag_ny 94) "AgendumOffice" ∈ lw_tbl := List.mem_of_getElem? (i := 355) (by decide +kernel)
theorem ag_lk_2_39_35 : Cond.methodLink (ag_on 2) 39 (ag_ny 35) ∈ lw_tbl := List.mem_of_getElem? (i := 356) (by decide +kernel)
theorem ag_lk_2_46_34 : Cond.methodLink (ag_on 2) 46 (ag_ny 34) ∈ lw_tbl := List.mem_of_getElem? (i := 733) (by decide +kernel)
theorem ag_lk_3_3_0 : Cond.methodLink (ag_on 3) 3 objectInit ∈ lw_tbl := List.mem_of_getElem? (i := 192) (by decide +kernel)
theorem ag_lk_3_30_96 : Cond.methodLinkNest (ag_on 3) 30 (ag_ny 96) "AgendumOffice" ∈ lw_tbl := List.mem_of_getElem? (i := 303) (by decide +kernel)
theorem ag_lk_3_38_94 : Cond.methodLinkNest (ag_on 3) 38 (ag_ny 94) "AgendumOffice" ∈ lw_tbl := List.mem_of_getElem? (i := 270) (by decide +kernel)
theorem ag_lk_3_42_95 : Cond.methodLinkNest (ag_on 3) 42 (ag_ny 95) "AgendumOffice" ∈ lw_tbl := List.mem_of_getElem? (i := 348) (by decide +kernel)
theorem ag_lk_4_3_0 : Cond.methodLink (ag_on 4) 3 objectInit ∈ lw_tbl := List.mem_of_getElem? (i := 116) (by decide +kernel)
theorem ag_lk_4_22_95 : Cond.methodLinkNest (ag_on 4) 22 (ag_ny 95) "AgendumOffice" ∈ lw_tbl := List.mem_of_getElem? (i := 766) (by decide +kernel)
theorem ag_lk_4_26_94 : Cond.methodLinkNest (ag_on 4) 26 (ag_ny 94) "AgendumOffice" ∈ lw_tbl := List.mem_of_getElem? (i := 423) (by decide +kernel)
theorem ag_lk_4_30_7 : Cond.methodLink (ag_on 4) 30 (ag_ny 7) ∈ lw_tbl := List.mem_of_getElem? (i := 765) (by decide +kernel)
theorem ag_lk_5_1_0 : Cond.methodLink (ag_on 5) 1 objectInit ∈ lw_tbl := List.mem_of_getElem? (i := 73) (by decide +kernel)
theorem ag_lk_5_9_31 : Cond.methodLinkNest (ag_on 5) 9 (ag_ny 31) "AgendumOffice" ∈ lw_tbl := List.mem_of_getElem? (i := 78) (by decide +kernel)
theorem ag_lk_5_18_53 : Cond.methodLinkNest (ag_on 5) 18 (ag_ny 53) "AgendumOffice" ∈ lw_tbl := List.mem_of_getElem? (i := 113) (by decide +kernel)
theorem ag_lk_5_25_19 : Cond.methodLink (ag_on 5) 25 (ag_ny 19) ∈ lw_tbl := List.mem_of_getElem? (i := 131) (by decide +kernel)
theorem ag_lk_5_43_7 : Cond.methodLink (ag_on 5) 43 (ag_ny 7) ∈ lw_tbl := List.mem_of_getElem? (i := 433) (by decide +kernel)
theorem ag_lk_5_56_93 : Cond.methodLink (ag_on 5) 56 (ag_ny 93) ∈ lw_tbl := List.mem_of_getElem? (i := 553) (by decide +kernel)
theorem ag_lk_5_64_5 : Cond.methodLink (ag_on 5) 64 (ag_ny 5) ∈ lw_tbl := List.mem_of_getElem? (i := 572) (by decide +kernel)
theorem ag_lk_5_68_8 : Cond.methodLink (ag_on 5) 68 (ag_ny 8) ∈ lw_tbl := List.mem_of_getElem? (i := 573) (by decide +kernel)
theorem ag_lk_5_90_9 : Cond.methodLink (ag_on 5) 90 (ag_ny 9) ∈ lw_tbl := List.mem_of_getElem? (i := 590) (by decide +kernel)
theorem ag_lk_5_93_14 : Cond.methodLink (ag_on 5) 93 (ag_ny 14) ∈ lw_tbl := List.mem_of_getElem? (i := 591) (by decide +kernel)
theorem ag_lk_5_97_6 : Cond.methodLink (ag_on 5) 97 (ag_ny 6) ∈ lw_tbl := List.mem_of_getElem? (i := 599) (by decide +kernel)
theorem ag_lk_5_104_86 : Cond.methodLink (ag_on 5) 104 (ag_ny 86) ∈ lw_tbl := List.mem_of_getElem? (i := 429) (by decide +kernel)
theorem ag_lk_5_113_94 : Cond.methodLink (ag_on 5) 113 (ag_ny 94) ∈ lw_tbl := List.mem_of_getElem? (i := 428) (by decide +kernel)
theorem ag_lk_5_119_85 : Cond.methodLink (ag_on 5) 119 (ag_ny 85) ∈ lw_tbl := List.mem_of_getElem? (i := 411) (by decide +kernel)
theorem ag_lk_5_124_44 : Cond.methodLink (ag_on 5) 124 (ag_ny 44) ∈ lw_tbl := List.mem_of_getElem? (i := 629) (by decide +kernel)
theorem ag_lk_5_125_21 : Cond.methodLink (ag_on 5) 125 (ag_ny 21) ∈ lw_tbl := List.mem_of_getElem? (i := 633) (by decide +kernel)
theorem ag_lk_5_131_48 : Cond.methodLink (ag_on 5) 131 (ag_ny 48) ∈ lw_tbl := List.mem_of_getElem? (i := 635) (by decide +kernel)
theorem ag_lk_5_134_45 : Cond.methodLink (ag_on 5) 134 (ag_ny 45) ∈ lw_tbl := List.mem_of_getElem? (i := 646) (by decide +kernel)
theorem ag_lk_5_137_46 : Cond.methodLink (ag_on 5) 137 (ag_ny 46) ∈ lw_tbl := List.mem_of_getElem? (i := 651) (by decide +kernel)
theorem ag_lk_5_140_47 : Cond.methodLink (ag_on 5) 140 (ag_ny 47) ∈ lw_tbl := List.mem_of_getElem? (i := 652) (by decide +kernel)
theorem ag_lk_5_147_50 : Cond.methodLink (ag_on 5) 147 (ag_ny 50) ∈ lw_tbl := List.mem_of_getElem? (i := 424) (by decide +kernel)
theorem ag_lk_5_150_52 : Cond.methodLink (ag_on 5) 150 (ag_ny 52) ∈ lw_tbl := List.mem_of_getElem? (i := 665) (by decide +kernel)
theorem ag_lk_5_156_49 : Cond.methodLink (ag_on 5) 156 (ag_ny 49) ∈ lw_tbl := List.mem_of_getElem? (i := 446) (by decide +kernel)
theorem ag_lk_5_159_23 : Cond.methodLink (ag_on 5) 159 (ag_ny 23) ∈ lw_tbl := List.mem_of_getElem? (i := 255) (by decide +kernel)
theorem ag_lk_5_163_22 : Cond.methodLink (ag_on 5) 163 (ag_ny 22) ∈ lw_tbl := List.mem_of_getElem? (i := 454) (by decide +kernel)
theorem ag_lk_5_173_33 : Cond.methodLink (ag_on 5) 173 (ag_ny 33) ∈ lw_tbl := List.mem_of_getElem? (i := 690) (by decide +kernel)
theorem ag_lk_5_175_32 : Cond.methodLink (ag_on 5) 175 (ag_ny 32) ∈ lw_tbl := List.mem_of_getElem? (i := 702) (by decide +kernel)
theorem ag_lk_5_180_36 : Cond.methodLink (ag_on 5) 180 (ag_ny 36) ∈ lw_tbl := List.mem_of_getElem? (i := 708) (by decide +kernel)
theorem ag_lk_5_192_38 : Cond.methodLink (ag_on 5) 192 (ag_ny 38) ∈ lw_tbl := List.mem_of_getElem? (i := 461) (by decide +kernel)
theorem ag_lk_5_198_39 : Cond.methodLink (ag_on 5) 198 (ag_ny 39) ∈ lw_tbl := List.mem_of_getElem? (i := 729) (by decide +kernel)
theorem ag_lk_5_206_40 : Cond.methodLink (ag_on 5) 206 (ag_ny 40) ∈ lw_tbl := List.mem_of_getElem? (i := 743) (by decide +kernel)
theorem ag_lk_5_212_41 : Cond.methodLink (ag_on 5) 212 (ag_ny 41) ∈ lw_tbl := List.mem_of_getElem? (i := 748) (by decide +kernel)
theorem ag_lk_5_217_25 : Cond.methodLink (ag_on 5) 217 (ag_ny 25) ∈ lw_tbl := List.mem_of_getElem? (i := 760) (by decide +kernel)
theorem ag_lk_5_221_57 : Cond.methodLink (ag_on 5) 221 (ag_ny 57) ∈ lw_tbl := List.mem_of_getElem? (i := 761) (by decide +kernel)
theorem ag_lk_5_230_87 : Cond.methodLink (ag_on 5) 230 (ag_ny 87) ∈ lw_tbl := List.mem_of_getElem? (i := 457) (by decide +kernel)
theorem ag_lk_5_238_54 : Cond.methodLink (ag_on 5) 238 (ag_ny 54) ∈ lw_tbl := List.mem_of_getElem? (i := 784) (by decide +kernel)
theorem ag_lk_5_245_12 : Cond.methodLink (ag_on 5) 245 (ag_ny 12) ∈ lw_tbl := List.mem_of_getElem? (i := 275) (by decide +kernel)
theorem ag_lk_5_248_37 : Cond.methodLink (ag_on 5) 248 (ag_ny 37) ∈ lw_tbl := List.mem_of_getElem? (i := 803) (by decide +kernel)
theorem ag_lk_5_251_89 : Cond.methodLink (ag_on 5) 251 (ag_ny 89) ∈ lw_tbl := List.mem_of_getElem? (i := 450) (by decide +kernel)
theorem ag_lk_5_254_90 : Cond.methodLink (ag_on 5) 254 (ag_ny 90) ∈ lw_tbl := List.mem_of_getElem? (i := 284) (by decide +kernel)
theorem ag_lk_5_257_91 : Cond.methodLink (ag_on 5) 257 (ag_ny 91) ∈ lw_tbl := List.mem_of_getElem? (i := 470) (by decide +kernel)
theorem ag_lk_5_260_92 : Cond.methodLink (ag_on 5) 260 (ag_ny 92) ∈ lw_tbl := List.mem_of_getElem? (i := 825) (by decide +kernel)
theorem ag_lk_5_272_34 : Cond.methodLink (ag_on 5) 272 (ag_ny 34) ∈ lw_tbl := List.mem_of_getElem? (i := 415) (by decide +kernel)
theorem ag_lk_5_275_55 : Cond.methodLink (ag_on 5) 275 (ag_ny 55) ∈ lw_tbl := List.mem_of_getElem? (i := 419) (by decide +kernel)
theorem ag_lk_5_290_11 : Cond.methodLink (ag_on 5) 290 (ag_ny 11) ∈ lw_tbl := List.mem_of_getElem? (i := 437) (by decide +kernel)
theorem ag_lk_5_296_56 : Cond.methodLink (ag_on 5) 296 (ag_ny 56) ∈ lw_tbl := List.mem_of_getElem? (i := 442) (by decide +kernel)
theorem ag_lk_5_308_88 : Cond.methodLink (ag_on 5) 308 (ag_ny 88) ∈ lw_tbl := List.mem_of_getElem? (i := 465) (by decide +kernel)
theorem ag_lk_5_311_35 : Cond.methodLink (ag_on 5) 311 (ag_ny 35) ∈ lw_tbl := List.mem_of_getElem? (i := 469) (by decide +kernel)
theorem ag_lk_5_314_20 : Cond.methodLink (ag_on 5) 314 (ag_ny 20) ∈ lw_tbl := List.mem_of_getElem? (i := 288) (by decide +kernel)
theorem ag_lk_5_318_27 : Cond.methodLink (ag_on 5) 318 (ag_ny 27) ∈ lw_tbl := List.mem_of_getElem? (i := 455) (by decide +kernel)
theorem ag_lk_5_321_28 : Cond.methodLink (ag_on 5) 321 (ag_ny 28) ∈ lw_tbl := List.mem_of_getElem? (i := 456) (by decide +kernel)
theorem ag_lk_5_324_26 : Cond.methodLink (ag_on 5) 324 (ag_ny 26) ∈ lw_tbl := List.mem_of_getElem? (i := 304) (by decide +kernel)
theorem ag_lk_5_327_96 : Cond.methodLink (ag_on 5) 327 (ag_ny 96) ∈ lw_tbl := List.mem_of_getElem? (i := 474) (by decide +kernel)
theorem ag_lk_6_1_0 : Cond.methodLink (ag_on 6) 1 objectInit ∈ lw_tbl := List.mem_of_getElem? (i := 835) (by decide +kernel)
theorem ag_lk_6_68_2 : Cond.methodLink (ag_on 6) 68 arraycopyName ∈ lw_tbl := List.mem_of_getElem? (i := 947) (by decide +kernel)
theorem ag_lk_6_80_101 : Cond.methodLink (ag_on 6) 80 (ag_ny 101) ∈ lw_tbl := List.mem_of_getElem? (i := 924) (by decide +kernel)
theorem ag_lk_6_84_103 : Cond.methodLink (ag_on 6) 84 (ag_ny 103) ∈ lw_tbl := List.mem_of_getElem? (i := 927) (by decide +kernel)
theorem ag_lk_6_88_105 : Cond.methodLink (ag_on 6) 88 (ag_ny 105) ∈ lw_tbl := List.mem_of_getElem? (i := 935) (by decide +kernel)
theorem ag_lk_6_91_106 : Cond.methodLink (ag_on 6) 91 (ag_ny 106) ∈ lw_tbl := List.mem_of_getElem? (i := 943) (by decide +kernel)
theorem ag_lk_6_95_104 : Cond.methodLink (ag_on 6) 95 (ag_ny 104) ∈ lw_tbl := List.mem_of_getElem? (i := 920) (by decide +kernel)
theorem ag_lk_6_99_99 : Cond.methodLink (ag_on 6) 99 (ag_ny 99) ∈ lw_tbl := List.mem_of_getElem? (i := 931) (by decide +kernel)
theorem ag_lk_6_105_108 : Cond.methodLink (ag_on 6) 105 (ag_ny 108) ∈ lw_tbl := List.mem_of_getElem? (i := 939) (by decide +kernel)
theorem ag_lk_6_112_110 : Cond.methodLink (ag_on 6) 112 (ag_ny 110) ∈ lw_tbl := List.mem_of_getElem? (i := 958) (by decide +kernel)
theorem ag_lk_6_115_111 : Cond.methodLink (ag_on 6) 115 (ag_ny 111) ∈ lw_tbl := List.mem_of_getElem? (i := 954) (by decide +kernel)
theorem ag_lk_6_122_115 : Cond.methodLink (ag_on 6) 122 (ag_ny 115) ∈ lw_tbl := List.mem_of_getElem? (i := 974) (by decide +kernel)
theorem ag_lk_6_126_116 : Cond.methodLink (ag_on 6) 126 (ag_ny 116) ∈ lw_tbl := List.mem_of_getElem? (i := 978) (by decide +kernel)
theorem ag_lk_6_129_114 : Cond.methodLink (ag_on 6) 129 (ag_ny 114) ∈ lw_tbl := List.mem_of_getElem? (i := 982) (by decide +kernel)
theorem ag_lk_6_132_117 : Cond.methodLink (ag_on 6) 132 (ag_ny 117) ∈ lw_tbl := List.mem_of_getElem? (i := 970) (by decide +kernel)
theorem ag_lk_6_135_1 : Cond.methodLink (ag_on 6) 135 Lib.Math.max.name ∈ lw_tbl := List.mem_of_getElem? (i := 998) (by decide +kernel)
theorem ag_lk_6_140_121 : Cond.methodLink (ag_on 6) 140 (ag_ny 121) ∈ lw_tbl := List.mem_of_getElem? (i := 994) (by decide +kernel)
theorem ag_lk_6_144_120 : Cond.methodLink (ag_on 6) 144 (ag_ny 120) ∈ lw_tbl := List.mem_of_getElem? (i := 1011) (by decide +kernel)
theorem ag_lk_6_147_122 : Cond.methodLink (ag_on 6) 147 (ag_ny 122) ∈ lw_tbl := List.mem_of_getElem? (i := 990) (by decide +kernel)
theorem ag_lk_6_150_124 : Cond.methodLink (ag_on 6) 150 (ag_ny 124) ∈ lw_tbl := List.mem_of_getElem? (i := 999) (by decide +kernel)
theorem ag_lk_6_154_119 : Cond.methodLink (ag_on 6) 154 (ag_ny 119) ∈ lw_tbl := List.mem_of_getElem? (i := 1007) (by decide +kernel)
theorem ag_lk_6_157_128 : Cond.methodLink (ag_on 6) 157 (ag_ny 128) ∈ lw_tbl := List.mem_of_getElem? (i := 1019) (by decide +kernel)
theorem ag_lk_6_157_129 : Cond.methodLink (ag_on 6) 157 (ag_ny 129) ∈ lw_tbl := List.mem_of_getElem? (i := 1019) (by decide +kernel)
theorem ag_lk_6_157_127 : Cond.methodLink (ag_on 6) 157 (ag_ny 127) ∈ lw_tbl := List.mem_of_getElem? (i := 1019) (by decide +kernel)
theorem ag_lk_6_160_131 : Cond.methodLink (ag_on 6) 160 (ag_ny 131) ∈ lw_tbl := List.mem_of_getElem? (i := 1027) (by decide +kernel)
theorem ag_lk_6_163_133 : Cond.methodLink (ag_on 6) 163 (ag_ny 133) ∈ lw_tbl := List.mem_of_getElem? (i := 1035) (by decide +kernel)
theorem ag_lk_6_166_100 : Cond.methodLink (ag_on 6) 166 (ag_ny 100) ∈ lw_tbl := List.mem_of_getElem? (i := 1039) (by decide +kernel)
theorem ag_lk_6_169_123 : Cond.methodLink (ag_on 6) 169 (ag_ny 123) ∈ lw_tbl := List.mem_of_getElem? (i := 1047) (by decide +kernel)
theorem ag_lk_6_171_107 : Cond.methodLink (ag_on 6) 171 (ag_ny 107) ∈ lw_tbl := List.mem_of_getElem? (i := 1099) (by decide +kernel)
theorem ag_lk_6_175_136 : Cond.methodLink (ag_on 6) 175 (ag_ny 136) ∈ lw_tbl := List.mem_of_getElem? (i := 1095) (by decide +kernel)
theorem ag_lk_6_179_137 : Cond.methodLink (ag_on 6) 179 (ag_ny 137) ∈ lw_tbl := List.mem_of_getElem? (i := 1103) (by decide +kernel)
theorem ag_lk_6_183_138 : Cond.methodLink (ag_on 6) 183 (ag_ny 138) ∈ lw_tbl := List.mem_of_getElem? (i := 1107) (by decide +kernel)
theorem ag_lk_6_186_139 : Cond.methodLink (ag_on 6) 186 (ag_ny 139) ∈ lw_tbl := List.mem_of_getElem? (i := 1091) (by decide +kernel)
theorem ag_lk_6_192_141 : Cond.methodLink (ag_on 6) 192 (ag_ny 141) ∈ lw_tbl := List.mem_of_getElem? (i := 1083) (by decide +kernel)
theorem ag_lk_6_195_140 : Cond.methodLink (ag_on 6) 195 (ag_ny 140) ∈ lw_tbl := List.mem_of_getElem? (i := 1087) (by decide +kernel)
theorem ag_lk_6_198_144 : Cond.methodLink (ag_on 6) 198 (ag_ny 144) ∈ lw_tbl := List.mem_of_getElem? (i := 1059) (by decide +kernel)
theorem ag_lk_6_201_142 : Cond.methodLink (ag_on 6) 201 (ag_ny 142) ∈ lw_tbl := List.mem_of_getElem? (i := 1079) (by decide +kernel)
theorem ag_lk_6_204_150 : Cond.methodLink (ag_on 6) 204 (ag_ny 150) ∈ lw_tbl := List.mem_of_getElem? (i := 1115) (by decide +kernel)
theorem ag_lk_6_208_102 : Cond.methodLink (ag_on 6) 208 (ag_ny 102) ∈ lw_tbl := List.mem_of_getElem? (i := 1149) (by decide +kernel)
theorem ag_lk_6_212_155 : Cond.methodLink (ag_on 6) 212 (ag_ny 155) ∈ lw_tbl := List.mem_of_getElem? (i := 1143) (by decide +kernel)
theorem ag_lk_6_216_156 : Cond.methodLink (ag_on 6) 216 (ag_ny 156) ∈ lw_tbl := List.mem_of_getElem? (i := 1152) (by decide +kernel)
theorem ag_lk_6_220_158 : Cond.methodLink (ag_on 6) 220 (ag_ny 158) ∈ lw_tbl := List.mem_of_getElem? (i := 1139) (by decide +kernel)
theorem ag_lk_6_223_160 : Cond.methodLink (ag_on 6) 223 (ag_ny 160) ∈ lw_tbl := List.mem_of_getElem? (i := 1164) (by decide +kernel)
theorem ag_lk_6_226_161 : Cond.methodLink (ag_on 6) 226 (ag_ny 161) ∈ lw_tbl := List.mem_of_getElem? (i := 1160) (by decide +kernel)
theorem ag_lk_6_229_163 : Cond.methodLink (ag_on 6) 229 (ag_ny 163) ∈ lw_tbl := List.mem_of_getElem? (i := 1172) (by decide +kernel)
theorem ag_lk_7_7_59 : Cond.methodLink (ag_on 7) 7 (ag_ny 59) ∈ lw_tbl := List.mem_of_getElem? (i := 481) (by decide +kernel)
theorem ag_lk_7_19_60 : Cond.methodLink (ag_on 7) 19 (ag_ny 60) ∈ lw_tbl := List.mem_of_getElem? (i := 595) (by decide +kernel)
theorem ag_lk_7_22_61 : Cond.methodLink (ag_on 7) 22 (ag_ny 61) ∈ lw_tbl := List.mem_of_getElem? (i := 608) (by decide +kernel)
theorem ag_lk_7_26_62 : Cond.methodLink (ag_on 7) 26 (ag_ny 62) ∈ lw_tbl := List.mem_of_getElem? (i := 616) (by decide +kernel)
theorem ag_lk_7_29_63 : Cond.methodLink (ag_on 7) 29 (ag_ny 63) ∈ lw_tbl := List.mem_of_getElem? (i := 624) (by decide +kernel)
theorem ag_lk_7_33_64 : Cond.methodLink (ag_on 7) 33 (ag_ny 64) ∈ lw_tbl := List.mem_of_getElem? (i := 642) (by decide +kernel)
theorem ag_lk_7_36_65 : Cond.methodLink (ag_on 7) 36 (ag_ny 65) ∈ lw_tbl := List.mem_of_getElem? (i := 660) (by decide +kernel)
theorem ag_lk_7_39_66 : Cond.methodLink (ag_on 7) 39 (ag_ny 66) ∈ lw_tbl := List.mem_of_getElem? (i := 669) (by decide +kernel)
theorem ag_lk_7_42_68 : Cond.methodLink (ag_on 7) 42 (ag_ny 68) ∈ lw_tbl := List.mem_of_getElem? (i := 677) (by decide +kernel)
theorem ag_lk_7_46_69 : Cond.methodLink (ag_on 7) 46 (ag_ny 69) ∈ lw_tbl := List.mem_of_getElem? (i := 684) (by decide +kernel)
theorem ag_lk_7_49_70 : Cond.methodLink (ag_on 7) 49 (ag_ny 70) ∈ lw_tbl := List.mem_of_getElem? (i := 698) (by decide +kernel)
theorem ag_lk_7_52_71 : Cond.methodLink (ag_on 7) 52 (ag_ny 71) ∈ lw_tbl := List.mem_of_getElem? (i := 715) (by decide +kernel)
theorem ag_lk_7_55_72 : Cond.methodLink (ag_on 7) 55 (ag_ny 72) ∈ lw_tbl := List.mem_of_getElem? (i := 723) (by decide +kernel)
theorem ag_lk_7_58_73 : Cond.methodLink (ag_on 7) 58 (ag_ny 73) ∈ lw_tbl := List.mem_of_getElem? (i := 737) (by decide +kernel)
theorem ag_lk_7_61_74 : Cond.methodLink (ag_on 7) 61 (ag_ny 74) ∈ lw_tbl := List.mem_of_getElem? (i := 755) (by decide +kernel)
theorem ag_lk_7_65_75 : Cond.methodLink (ag_on 7) 65 (ag_ny 75) ∈ lw_tbl := List.mem_of_getElem? (i := 770) (by decide +kernel)
theorem ag_lk_7_68_76 : Cond.methodLink (ag_on 7) 68 (ag_ny 76) ∈ lw_tbl := List.mem_of_getElem? (i := 778) (by decide +kernel)
theorem ag_lk_7_71_77 : Cond.methodLink (ag_on 7) 71 (ag_ny 77) ∈ lw_tbl := List.mem_of_getElem? (i := 791) (by decide +kernel)
theorem ag_lk_7_74_79 : Cond.methodLink (ag_on 7) 74 (ag_ny 79) ∈ lw_tbl := List.mem_of_getElem? (i := 799) (by decide +kernel)
theorem ag_lk_7_77_80 : Cond.methodLink (ag_on 7) 77 (ag_ny 80) ∈ lw_tbl := List.mem_of_getElem? (i := 807) (by decide +kernel)
theorem ag_lk_7_80_82 : Cond.methodLink (ag_on 7) 80 (ag_ny 82) ∈ lw_tbl := List.mem_of_getElem? (i := 814) (by decide +kernel)
theorem ag_lk_7_83_83 : Cond.methodLink (ag_on 7) 83 (ag_ny 83) ∈ lw_tbl := List.mem_of_getElem? (i := 821) (by decide +kernel)
theorem ag_lk_7_86_58 : Cond.methodLink (ag_on 7) 86 (ag_ny 58) ∈ lw_tbl := List.mem_of_getElem? (i := 70) (by decide +kernel)
theorem ag_lk_7_89_97 : Cond.methodLink (ag_on 7) 89 (ag_ny 97) ∈ lw_tbl := List.mem_of_getElem? (i := 832) (by decide +kernel)
theorem ag_lk_7_90_167 : Cond.methodLink (ag_on 7) 90 (ag_ny 167) ∈ lw_tbl := List.mem_of_getElem? (i := 475) (by decide +kernel)
theorem ag_lk_7_95_109 : Cond.methodLink (ag_on 7) 95 (ag_ny 109) ∈ lw_tbl := List.mem_of_getElem? (i := 916) (by decide +kernel)
theorem ag_lk_7_96_98 : Cond.methodLink (ag_on 7) 96 (ag_ny 98) ∈ lw_tbl := List.mem_of_getElem? (i := 912) (by decide +kernel)
theorem ag_lk_7_99_168 : Cond.methodLink (ag_on 7) 99 (ag_ny 168) ∈ lw_tbl := List.mem_of_getElem? (i := 592) (by decide +kernel)
theorem ag_lk_7_101_112 : Cond.methodLink (ag_on 7) 101 (ag_ny 112) ∈ lw_tbl := List.mem_of_getElem? (i := 950) (by decide +kernel)
theorem ag_lk_7_102_169 : Cond.methodLink (ag_on 7) 102 (ag_ny 169) ∈ lw_tbl := List.mem_of_getElem? (i := 605) (by decide +kernel)
theorem ag_lk_7_105_113 : Cond.methodLink (ag_on 7) 105 (ag_ny 113) ∈ lw_tbl := List.mem_of_getElem? (i := 962) (by decide +kernel)
theorem ag_lk_7_106_170 : Cond.methodLink (ag_on 7) 106 (ag_ny 170) ∈ lw_tbl := List.mem_of_getElem? (i := 613) (by decide +kernel)
theorem ag_lk_7_108_118 : Cond.methodLink (ag_on 7) 108 (ag_ny 118) ∈ lw_tbl := List.mem_of_getElem? (i := 966) (by decide +kernel)
theorem ag_lk_7_109_171 : Cond.methodLink (ag_on 7) 109 (ag_ny 171) ∈ lw_tbl := List.mem_of_getElem? (i := 621) (by decide +kernel)
theorem ag_lk_7_112_125 : Cond.methodLink (ag_on 7) 112 (ag_ny 125) ∈ lw_tbl := List.mem_of_getElem? (i := 986) (by decide +kernel)
theorem ag_lk_7_113_172 : Cond.methodLink (ag_on 7) 113 (ag_ny 172) ∈ lw_tbl := List.mem_of_getElem? (i := 639) (by decide +kernel)
theorem ag_lk_7_115_126 : Cond.methodLink (ag_on 7) 115 (ag_ny 126) ∈ lw_tbl := List.mem_of_getElem? (i := 1003) (by decide +kernel)
theorem ag_lk_7_116_173 : Cond.methodLink (ag_on 7) 116 (ag_ny 173) ∈ lw_tbl := List.mem_of_getElem? (i := 657) (by decide +kernel)
theorem ag_lk_7_118_130 : Cond.methodLink (ag_on 7) 118 (ag_ny 130) ∈ lw_tbl := List.mem_of_getElem? (i := 1015) (by decide +kernel)
theorem ag_lk_7_119_174 : Cond.methodLink (ag_on 7) 119 (ag_ny 174) ∈ lw_tbl := List.mem_of_getElem? (i := 666) (by decide +kernel)
theorem ag_lk_7_121_132 : Cond.methodLink (ag_on 7) 121 (ag_ny 132) ∈ lw_tbl := List.mem_of_getElem? (i := 1023) (by decide +kernel)
theorem ag_lk_7_122_67 : Cond.methodLink (ag_on 7) 122 (ag_ny 67) ∈ lw_tbl := List.mem_of_getElem? (i := 251) (by decide +kernel)
theorem ag_lk_7_125_134 : Cond.methodLink (ag_on 7) 125 (ag_ny 134) ∈ lw_tbl := List.mem_of_getElem? (i := 1031) (by decide +kernel)
theorem ag_lk_7_126_175 : Cond.methodLink (ag_on 7) 126 (ag_ny 175) ∈ lw_tbl := List.mem_of_getElem? (i := 674) (by decide +kernel)
theorem ag_lk_7_128_135 : Cond.methodLink (ag_on 7) 128 (ag_ny 135) ∈ lw_tbl := List.mem_of_getElem? (i := 1043) (by decide +kernel)
theorem ag_lk_7_129_176 : Cond.methodLink (ag_on 7) 129 (ag_ny 176) ∈ lw_tbl := List.mem_of_getElem? (i := 681) (by decide +kernel)
theorem ag_lk_7_131_143 : Cond.methodLink (ag_on 7) 131 (ag_ny 143) ∈ lw_tbl := List.mem_of_getElem? (i := 1051) (by decide +kernel)
theorem ag_lk_7_132_177 : Cond.methodLink (ag_on 7) 132 (ag_ny 177) ∈ lw_tbl := List.mem_of_getElem? (i := 695) (by decide +kernel)
theorem ag_lk_7_134_145 : Cond.methodLink (ag_on 7) 134 (ag_ny 145) ∈ lw_tbl := List.mem_of_getElem? (i := 1055) (by decide +kernel)
theorem ag_lk_7_135_178 : Cond.methodLink (ag_on 7) 135 (ag_ny 178) ∈ lw_tbl := List.mem_of_getElem? (i := 712) (by decide +kernel)
theorem ag_lk_7_137_146 : Cond.methodLink (ag_on 7) 137 (ag_ny 146) ∈ lw_tbl := List.mem_of_getElem? (i := 1063) (by decide +kernel)
theorem ag_lk_7_138_179 : Cond.methodLink (ag_on 7) 138 (ag_ny 179) ∈ lw_tbl := List.mem_of_getElem? (i := 720) (by decide +kernel)
theorem ag_lk_7_140_147 : Cond.methodLink (ag_on 7) 140 (ag_ny 147) ∈ lw_tbl := List.mem_of_getElem? (i := 1067) (by decide +kernel)
theorem ag_lk_7_141_180 : Cond.methodLink (ag_on 7) 141 (ag_ny 180) ∈ lw_tbl := List.mem_of_getElem? (i := 734) (by decide +kernel)
theorem ag_lk_7_143_148 : Cond.methodLink (ag_on 7) 143 (ag_ny 148) ∈ lw_tbl := List.mem_of_getElem? (i := 1071) (by decide +kernel)
theorem ag_lk_7_144_181 : Cond.methodLink (ag_on 7) 144 (ag_ny 181) ∈ lw_tbl := List.mem_of_getElem? (i := 752) (by decide +kernel)
theorem ag_lk_7_147_149 : Cond.methodLink (ag_on 7) 147 (ag_ny 149) ∈ lw_tbl := List.mem_of_getElem? (i := 1075) (by decide +kernel)
theorem ag_lk_7_148_182 : Cond.methodLink (ag_on 7) 148 (ag_ny 182) ∈ lw_tbl := List.mem_of_getElem? (i := 767) (by decide +kernel)
theorem ag_lk_7_150_151 : Cond.methodLink (ag_on 7) 150 (ag_ny 151) ∈ lw_tbl := List.mem_of_getElem? (i := 1111) (by decide +kernel)
theorem ag_lk_7_151_183 : Cond.methodLink (ag_on 7) 151 (ag_ny 183) ∈ lw_tbl := List.mem_of_getElem? (i := 775) (by decide +kernel)
theorem ag_lk_7_153_152 : Cond.methodLink (ag_on 7) 153 (ag_ny 152) ∈ lw_tbl := List.mem_of_getElem? (i := 1119) (by decide +kernel)
theorem ag_lk_7_154_184 : Cond.methodLink (ag_on 7) 154 (ag_ny 184) ∈ lw_tbl := List.mem_of_getElem? (i := 788) (by decide +kernel)
theorem ag_lk_7_156_153 : Cond.methodLink (ag_on 7) 156 (ag_ny 153) ∈ lw_tbl := List.mem_of_getElem? (i := 1123) (by decide +kernel)
theorem ag_lk_7_157_78 : Cond.methodLink (ag_on 7) 157 (ag_ny 78) ∈ lw_tbl := List.mem_of_getElem? (i := 271) (by decide +kernel)
theorem ag_lk_7_161_154 : Cond.methodLink (ag_on 7) 161 (ag_ny 154) ∈ lw_tbl := List.mem_of_getElem? (i := 1127) (by decide +kernel)
theorem ag_lk_7_162_185 : Cond.methodLink (ag_on 7) 162 (ag_ny 185) ∈ lw_tbl := List.mem_of_getElem? (i := 796) (by decide +kernel)
theorem ag_lk_7_164_157 : Cond.methodLink (ag_on 7) 164 (ag_ny 157) ∈ lw_tbl := List.mem_of_getElem? (i := 1131) (by decide +kernel)
theorem ag_lk_7_165_186 : Cond.methodLink (ag_on 7) 165 (ag_ny 186) ∈ lw_tbl := List.mem_of_getElem? (i := 804) (by decide +kernel)
theorem ag_lk_7_167_159 : Cond.methodLink (ag_on 7) 167 (ag_ny 159) ∈ lw_tbl := List.mem_of_getElem? (i := 1135) (by decide +kernel)
theorem ag_lk_7_168_81 : Cond.methodLink (ag_on 7) 168 (ag_ny 81) ∈ lw_tbl := List.mem_of_getElem? (i := 280) (by decide +kernel)
theorem ag_lk_7_171_162 : Cond.methodLink (ag_on 7) 171 (ag_ny 162) ∈ lw_tbl := List.mem_of_getElem? (i := 1156) (by decide +kernel)
theorem ag_lk_7_172_187 : Cond.methodLink (ag_on 7) 172 (ag_ny 187) ∈ lw_tbl := List.mem_of_getElem? (i := 811) (by decide +kernel)
theorem ag_lk_7_174_164 : Cond.methodLink (ag_on 7) 174 (ag_ny 164) ∈ lw_tbl := List.mem_of_getElem? (i := 1168) (by decide +kernel)
theorem ag_lk_7_175_188 : Cond.methodLink (ag_on 7) 175 (ag_ny 188) ∈ lw_tbl := List.mem_of_getElem? (i := 818) (by decide +kernel)
theorem ag_lk_7_177_165 : Cond.methodLink (ag_on 7) 177 (ag_ny 165) ∈ lw_tbl := List.mem_of_getElem? (i := 1176) (by decide +kernel)
theorem ag_lk_7_178_84 : Cond.methodLink (ag_on 7) 178 (ag_ny 84) ∈ lw_tbl := List.mem_of_getElem? (i := 405) (by decide +kernel)
theorem ag_lk_7_182_166 : Cond.methodLink (ag_on 7) 182 (ag_ny 166) ∈ lw_tbl := List.mem_of_getElem? (i := 1180) (by decide +kernel)
theorem ag_cws_3 : ∀ q ∈ ag_ml_l.getD 3 [], ag_CW 3 q.1 q.2.1 q.2.2.1 q.2.2.2 := List.forall_mem_cons.mpr ⟨(show ag_CW 3 3 0 1 5 from ⟨rfl, ag_lk_0_3_0⟩), fun _ h => absurd h List.not_mem_nil⟩
theorem ag_cws_4 : ∀ q ∈ ag_ml_l.getD 4 [], ag_CW 4 q.1 q.2.1 q.2.2.1 q.2.2.2 := List.forall_mem_cons.mpr ⟨(show ag_CW 4 36 96 2 2 from ⟨by decide, by decide, by decide, rfl, rfl, by decide, ag_lk_0_36_96⟩), fun _ h => absurd h List.not_mem_nil⟩
theorem ag_cws_5 : ∀ q ∈ ag_ml_l.getD 5 [], ag_CW 5 q.1 q.2.1 q.2.2.1 q.2.2.2 := fun _ h => absurd h List.not_mem_nil
theorem ag_cws_6 : ∀ q ∈ ag_ml_l.getD 6 [], ag_CW 6 q.1 q.2.1 q.2.2.1 q.2.2.2 := fun _ h => absurd h List.not_mem_nil
theorem ag_cws_7 : ∀ q ∈ ag_ml_l.getD 7 [], ag_CW 7 q.1 q.2.1 q.2.2.1 q.2.2.2 := List.forall_mem_cons.mpr ⟨(show ag_CW 7 47 94 2 2 from ⟨by decide, by decide, by decide, rfl, rfl, by decide, ag_lk_0_47_94⟩), fun _ h => absurd h List.not_mem_nil⟩
theorem ag_cws_8 : ∀ q ∈ ag_ml_l.getD 8 [], ag_CW 8 q.1 q.2.1 q.2.2.1 q.2.2.2 := List.forall_mem_cons.mpr ⟨(show ag_CW 8 47 94 2 2 from ⟨by decide, by decide, by decide, rfl, rfl, by decide, ag_lk_0_47_94⟩), fun _ h => absurd h List.not_mem_nil⟩
theorem ag_cws_9 : ∀ q ∈ ag_ml_l.getD 9 [], ag_CW 9 q.1 q.2.1 q.2.2.1 q.2.2.2 := List.forall_mem_cons.mpr ⟨(show ag_CW 9 47 94 2 2 from ⟨by decide, by decide, by decide, rfl, rfl, by decide, ag_lk_0_47_94⟩), fun _ h => absurd h List.not_mem_nil⟩
theorem ag_cws_10 : ∀ q ∈ ag_ml_l.getD 10 [], ag_CW 10 q.1 q.2.1 q.2.2.1 q.2.2.2 := List.forall_mem_cons.mpr ⟨(show ag_CW 10 47 94 2 2 from ⟨by decide, by decide, by decide, rfl, rfl, by decide, ag_lk_0_47_94⟩), List.forall_mem_cons.mpr ⟨(show ag_CW 10 51 9 2 0 from ⟨by decide, by decide, by decide, rfl, rfl, ag_lk_0_51_9⟩), fun _ h => absurd h List.not_mem_nil⟩⟩
theorem ag_cws_11 : ∀ q ∈ ag_ml_l.getD 11 [], ag_CW 11 q.1 q.2.1 q.2.2.1 q.2.2.2 := List.forall_mem_cons.mpr ⟨(show ag_CW 11 47 94 2 2 from ⟨by decide, by decide, by decide, rfl, rfl, by decide, ag_lk_0_47_94⟩), List.forall_mem_cons.mpr ⟨(show ag_CW 11 51 9 2 0 from ⟨by decide, by decide, by decide, rfl, rfl, ag_lk_0_51_9⟩), List.forall_mem_cons.mpr ⟨(show ag_CW 11 55 7 2 0 from ⟨by decide, by decide, by decide, rfl, rfl, ag_lk_0_55_7⟩), fun _ h => absurd h List.not_mem_nil⟩⟩⟩
theorem ag_cws_12 : ∀ q ∈ ag_ml_l.getD 12 [], ag_CW 12 q.1 q.2.1 q.2.2.1 q.2.2.2 := List.forall_mem_cons.mpr ⟨(show ag_CW 12 47 94 2 2 from ⟨by decide, by decide, by decide, rfl, rfl, by decide, ag_lk_0_47_94⟩), fun _ h => absurd h List.not_mem_nil⟩
theorem ag_cws_13 : ∀ q ∈ ag_ml_l.getD 13 [], ag_CW 13 q.1 q.2.1 q.2.2.1 q.2.2.2 := List.forall_mem_cons.mpr ⟨(show ag_CW 13 47 94 2 2 from ⟨by decide, by decide, by decide, rfl, rfl, by decide, ag_lk_0_47_94⟩), List.forall_mem_cons.mpr ⟨(show ag_CW 13 59 1 2 6 from ⟨rfl, ag_lk_0_59_1⟩), fun _ h => absurd h List.not_mem_nil⟩⟩
theorem ag_cws_14 : ∀ q ∈ ag_ml_l.getD 14 [], ag_CW 14 q.1 q.2.1 q.2.2.1 q.2.2.2 := List.forall_mem_cons.mpr ⟨(show ag_CW 14 47 94 2 2 from ⟨by decide, by decide, by decide, rfl, rfl, by decide, ag_lk_0_47_94⟩), List.forall_mem_cons.mpr ⟨(show ag_CW 14 65 5 1 0 from ⟨by decide, by decide, by decide, rfl, rfl, ag_lk_0_65_5⟩), List.forall_mem_cons.mpr ⟨(show ag_CW 14 69 95 3 2 from ⟨by decide, by decide, by decide, rfl, rfl, by decide, ag_lk_0_69_95⟩), List.forall_mem_cons.mpr ⟨(show ag_CW 14 73 8 2 0 from ⟨by decide, by decide, by decide, rfl, rfl, ag_lk_0_73_8⟩), List.forall_mem_cons.mpr ⟨(show ag_CW 14 76 18 1 0 from ⟨by decide, by decide, by decide, rfl, rfl, ag_lk_0_76_18⟩), fun _ h => absurd h List.not_mem_nil⟩⟩⟩⟩⟩
theorem ag_cws_15 : ∀ q ∈ ag_ml_l.getD 15 [], ag_CW 15 q.1 q.2.1 q.2.2.1 q.2.2.2 := List.forall_mem_cons.mpr ⟨(show ag_CW 15 47 94 2 2 from ⟨by decide, by decide, by decide, rfl, rfl, by decide, ag_lk_0_47_94⟩), List.forall_mem_cons.mpr ⟨(show ag_CW 15 51 9 2 0 from ⟨by decide, by decide, by decide, rfl, rfl, ag_lk_0_51_9⟩), List.forall_mem_cons.mpr ⟨(show ag_CW 15 69 95 3 2 from ⟨by decide, by decide, by decide, rfl, rfl, by decide, ag_lk_0_69_95⟩), List.forall_mem_cons.mpr ⟨(show ag_CW 15 76 18 1 0 from ⟨by decide, by decide, by decide, rfl, rfl, ag_lk_0_76_18⟩), fun _ h => absurd h List.not_mem_nil⟩⟩⟩⟩
theorem ag_cws_16 : ∀ q ∈ ag_ml_l.getD 16 [], ag_CW 16 q.1 q.2.1 q.2.2.1 q.2.2.2 := List.forall_mem_cons.mpr ⟨(show ag_CW 16 47 94 2 2 from ⟨by decide, by decide, by decide, rfl, rfl, by decide, ag_lk_0_47_94⟩), List.forall_mem_cons.mpr ⟨(show ag_CW 16 51 9 2 0 from ⟨by decide, by decide, by decide, rfl, rfl, ag_lk_0_51_9⟩), List.forall_mem_cons.mpr ⟨(show ag_CW 16 69 95 3 2 from ⟨by decide, by decide, by decide, rfl, rfl, by decide, ag_lk_0_69_95⟩), List.forall_mem_cons.mpr ⟨(show ag_CW 16 76 18 1 0 from ⟨by decide, by decide, by decide, rfl, rfl, ag_lk_0_76_18⟩), List.forall_mem_cons.mpr ⟨(show ag_CW 16 79 17 4 0 from ⟨by decide, by decide, by decide, rfl, rfl, ag_lk_0_79_17⟩), fun _ h => absurd h List.not_mem_nil⟩⟩⟩⟩⟩
theorem ag_cws_17 : ∀ q ∈ ag_ml_l.getD 17 [], ag_CW 17 q.1 q.2.1 q.2.2.1 q.2.2.2 := List.forall_mem_cons.mpr ⟨(show ag_CW 17 36 96 2 2 from ⟨by decide, by decide, by decide, rfl, rfl, by decide, ag_lk_0_36_96⟩), List.forall_mem_cons.mpr ⟨(show ag_CW 17 47 94 2 2 from ⟨by decide, by decide, by decide, rfl, rfl, by decide, ag_lk_0_47_94⟩), List.forall_mem_cons.mpr ⟨(show ag_CW 17 69 95 3 2 from ⟨by decide, by decide, by decide, rfl, rfl, by decide, ag_lk_0_69_95⟩), fun _ h => absurd h List.not_mem_nil⟩⟩⟩
theorem ag_cws_18 : ∀ q ∈ ag_ml_l.getD 18 [], ag_CW 18 q.1 q.2.1 q.2.2.1 q.2.2.2 := List.forall_mem_cons.mpr ⟨(show ag_CW 18 47 94 2 2 from ⟨by decide, by decide, by decide, rfl, rfl, by decide, ag_lk_0_47_94⟩), List.forall_mem_cons.mpr ⟨(show ag_CW 18 69 95 3 2 from ⟨by decide, by decide, by decide, rfl, rfl, by decide, ag_lk_0_69_95⟩), fun _ h => absurd h List.not_mem_nil⟩⟩
theorem ag_cws_19 : ∀ q ∈ ag_ml_l.getD 19 [], ag_CW 19 q.1 q.2.1 q.2.2.1 q.2.2.2 := List.forall_mem_cons.mpr ⟨(show ag_CW 19 3 0 1 5 from ⟨rfl, ag_lk_1_3_0⟩), List.forall_mem_cons.mpr ⟨(show ag_CW 19 11 3 1 4 from ⟨by decide, by decide, by decide, rfl, rfl, by decide, ag_lk_1_11_3⟩), List.forall_mem_cons.mpr ⟨(show ag_CW 19 20 42 1 4 from ⟨by decide, by decide, by decide, rfl, rfl, by decide, ag_lk_1_20_42⟩), fun _ h => absurd h List.not_mem_nil⟩⟩⟩
theorem ag_cws_20 : ∀ q ∈ ag_ml_l.getD 20 [], ag_CW 20 q.1 q.2.1 q.2.2.1 q.2.2.2 := List.forall_mem_cons.mpr ⟨(show ag_CW 20 29 4 2 0 from ⟨by decide, by decide, by decide, rfl, rfl, ag_lk_1_29_4⟩), List.forall_mem_cons.mpr ⟨(show ag_CW 20 33 43 2 0 from ⟨by decide, by decide, by decide, rfl, rfl, ag_lk_1_33_43⟩), fun _ h => absurd h List.not_mem_nil⟩⟩
theorem ag_cws_21 : ∀ q ∈ ag_ml_l.getD 21 [], ag_CW 21 q.1 q.2.1 q.2.2.1 q.2.2.2 := List.forall_mem_cons.mpr ⟨(show ag_CW 21 40 94 2 2 from ⟨by decide, by decide, by decide, rfl, rfl, by decide, ag_lk_1_40_94⟩), List.forall_mem_cons.mpr ⟨(show ag_CW 21 44 9 2 0 from ⟨by decide, by decide, by decide, rfl, rfl, ag_lk_1_44_9⟩), List.forall_mem_cons.mpr ⟨(show ag_CW 21 51 13 3 0 from ⟨by decide, by decide, by decide, rfl, rfl, ag_lk_1_51_13⟩), List.forall_mem_cons.mpr ⟨(show ag_CW 21 55 5 1 0 from ⟨by decide, by decide, by decide, rfl, rfl, ag_lk_1_55_5⟩), List.forall_mem_cons.mpr ⟨(show ag_CW 21 59 8 2 0 from ⟨by decide, by decide, by decide, rfl, rfl, ag_lk_1_59_8⟩), fun _ h => absurd h List.not_mem_nil⟩⟩⟩⟩⟩
theorem ag_cws_22 : ∀ q ∈ ag_ml_l.getD 22 [], ag_CW 22 q.1 q.2.1 q.2.2.1 q.2.2.2 := List.forall_mem_cons.mpr ⟨(show ag_CW 22 40 94 2 2 from ⟨by decide, by decide, by decide, rfl, rfl, by decide, ag_lk_1_40_94⟩), List.forall_mem_cons.mpr ⟨(show ag_CW 22 62 46 2 0 from ⟨by decide, by decide, by decide, rfl, rfl, ag_lk_1_62_46⟩), List.forall_mem_cons.mpr ⟨(show ag_CW 22 75 21 4 0 from ⟨by decide, by decide, by decide, rfl, rfl, ag_lk_1_75_21⟩), fun _ h => absurd h List.not_mem_nil⟩⟩⟩
theorem ag_cws_23 : ∀ q ∈ ag_ml_l.getD 23 [], ag_CW 23 q.1 q.2.1 q.2.2.1 q.2.2.2 := List.forall_mem_cons.mpr ⟨(show ag_CW 23 40 94 2 2 from ⟨by decide, by decide, by decide, rfl, rfl, by decide, ag_lk_1_40_94⟩), List.forall_mem_cons.mpr ⟨(show ag_CW 23 86 24 3 0 from ⟨by decide, by decide, by decide, rfl, rfl, ag_lk_1_86_24⟩), List.forall_mem_cons.mpr ⟨(show ag_CW 23 90 51 2 0 from ⟨by decide, by decide, by decide, rfl, rfl, ag_lk_1_90_51⟩), fun _ h => absurd h List.not_mem_nil⟩⟩⟩
theorem ag_cws_24 : ∀ q ∈ ag_ml_l.getD 24 [], ag_CW 24 q.1 q.2.1 q.2.2.1 q.2.2.2 := List.forall_mem_cons.mpr ⟨(show ag_CW 24 40 94 2 2 from ⟨by decide, by decide, by decide, rfl, rfl, by decide, ag_lk_1_40_94⟩), fun _ h => absurd h List.not_mem_nil⟩
theorem ag_cws_25 : ∀ q ∈ ag_ml_l.getD 25 [], ag_CW 25 q.1 q.2.1 q.2.2.1 q.2.2.2 := List.forall_mem_cons.mpr ⟨(show ag_CW 25 62 46 2 0 from ⟨by decide, by decide, by decide, rfl, rfl, ag_lk_1_62_46⟩), List.forall_mem_cons.mpr ⟨(show ag_CW 25 93 22 2 0 from ⟨by decide, by decide, by decide, rfl, rfl, ag_lk_1_93_22⟩), List.forall_mem_cons.mpr ⟨(show ag_CW 25 96 52 4 0 from ⟨by decide, by decide, by decide, rfl, rfl, ag_lk_1_96_52⟩), List.forall_mem_cons.mpr ⟨(show ag_CW 25 100 37 3 0 from ⟨by decide, by decide, by decide, rfl, rfl, ag_lk_1_100_37⟩), List.forall_mem_cons.mpr ⟨(show ag_CW 25 105 27 2 0 from ⟨by decide, by decide, by decide, rfl, rfl, ag_lk_1_105_27⟩), List.forall_mem_cons.mpr ⟨(show ag_CW 25 109 28 2 0 from ⟨by decide, by decide, by decide, rfl, rfl, ag_lk_1_109_28⟩), fun _ h => absurd h List.not_mem_nil⟩⟩⟩⟩⟩⟩
theorem ag_cws_26 : ∀ q ∈ ag_ml_l.getD 26 [], ag_CW 26 q.1 q.2.1 q.2.2.1 q.2.2.2 := List.forall_mem_cons.mpr ⟨(show ag_CW 26 112 23 1 0 from ⟨by decide, by decide, by decide, rfl, rfl, ag_lk_1_112_23⟩), List.forall_mem_cons.mpr ⟨(show ag_CW 26 116 25 3 0 from ⟨by decide, by decide, by decide, rfl, rfl, ag_lk_1_116_25⟩), fun _ h => absurd h List.not_mem_nil⟩⟩
theorem ag_cws_27 : ∀ q ∈ ag_ml_l.getD 27 [], ag_CW 27 q.1 q.2.1 q.2.2.1 q.2.2.2 := List.forall_mem_cons.mpr ⟨(show ag_CW 27 40 94 2 2 from ⟨by decide, by decide, by decide, rfl, rfl, by decide, ag_lk_1_40_94⟩), List.forall_mem_cons.mpr ⟨(show ag_CW 27 44 9 2 0 from ⟨by decide, by decide, by decide, rfl, rfl, ag_lk_1_44_9⟩), List.forall_mem_cons.mpr ⟨(show ag_CW 27 120 15 2 0 from ⟨by decide, by decide, by decide, rfl, rfl, ag_lk_1_120_15⟩), List.forall_mem_cons.mpr ⟨(show ag_CW 27 123 16 3 0 from ⟨by decide, by decide, by decide, rfl, rfl, ag_lk_1_123_16⟩), List.forall_mem_cons.mpr ⟨(show ag_CW 27 129 95 3 2 from ⟨by decide, by decide, by decide, rfl, rfl, by decide, ag_lk_1_129_95⟩), List.forall_mem_cons.mpr ⟨(show ag_CW 27 133 10 2 0 from ⟨by decide, by decide, by decide, rfl, rfl, ag_lk_1_133_10⟩), List.forall_mem_cons.mpr ⟨(show ag_CW 27 139 14 4 0 from ⟨by decide, by decide, by decide, rfl, rfl, ag_lk_1_139_14⟩), fun _ h => absurd h List.not_mem_nil⟩⟩⟩⟩⟩⟩⟩
theorem ag_cws_28 : ∀ q ∈ ag_ml_l.getD 28 [], ag_CW 28 q.1 q.2.1 q.2.2.1 q.2.2.2 := List.forall_mem_cons.mpr ⟨(show ag_CW 28 96 52 4 0 from ⟨by decide, by decide, by decide, rfl, rfl, ag_lk_1_96_52⟩), List.forall_mem_cons.mpr ⟨(show ag_CW 28 152 29 3 0 from ⟨by decide, by decide, by decide, rfl, rfl, ag_lk_1_152_29⟩), fun _ h => absurd h List.not_mem_nil⟩⟩
theorem ag_cws_29 : ∀ q ∈ ag_ml_l.getD 29 [], ag_CW 29 q.1 q.2.1 q.2.2.1 q.2.2.2 := List.forall_mem_cons.mpr ⟨(show ag_CW 29 40 94 2 2 from ⟨by decide, by decide, by decide, rfl, rfl, by decide, ag_lk_1_40_94⟩), List.forall_mem_cons.mpr ⟨(show ag_CW 29 155 30 2 0 from ⟨by decide, by decide, by decide, rfl, rfl, ag_lk_1_155_30⟩), fun _ h => absurd h List.not_mem_nil⟩⟩
theorem ag_cws_30 : ∀ q ∈ ag_ml_l.getD 30 [], ag_CW 30 q.1 q.2.1 q.2.2.1 q.2.2.2 := List.forall_mem_cons.mpr ⟨(show ag_CW 30 40 94 2 2 from ⟨by decide, by decide, by decide, rfl, rfl, by decide, ag_lk_1_40_94⟩), fun _ h => absurd h List.not_mem_nil⟩
theorem ag_cws_31 : ∀ q ∈ ag_ml_l.getD 31 [], ag_CW 31 q.1 q.2.1 q.2.2.1 q.2.2.2 := List.forall_mem_cons.mpr ⟨(show ag_CW 31 3 0 1 5 from ⟨rfl, ag_lk_2_3_0⟩), fun _ h => absurd h List.not_mem_nil⟩
theorem ag_cws_32 : ∀ q ∈ ag_ml_l.getD 32 [], ag_CW 32 q.1 q.2.1 q.2.2.1 q.2.2.2 := fun _ h => absurd h List.not_mem_nil
theorem ag_cws_33 : ∀ q ∈ ag_ml_l.getD 33 [], ag_CW 33 q.1 q.2.1 q.2.2.1 q.2.2.2 := List.forall_mem_cons.mpr ⟨(show ag_CW 33 31 95 3 2 from ⟨by decide, by decide, by decide, rfl, rfl, by decide, ag_lk_2_31_95⟩), fun _ h => absurd h List.not_mem_nil⟩
theorem ag_cws_34 : ∀ q ∈ ag_ml_l.getD 34 [], ag_CW 34 q.1 q.2.1 q.2.2.1 q.2.2.2 := List.forall_mem_cons.mpr ⟨(show ag_CW 34 35 94 2 2 from ⟨by decide, by decide, by decide, rfl, rfl, by decide, ag_lk_2_35_94⟩), fun _ h => absurd h List.not_mem_nil⟩
theorem ag_cws_35 : ∀ q ∈ ag_ml_l.getD 35 [], ag_CW 35 q.1 q.2.1 q.2.2.1 q.2.2.2 := List.forall_mem_cons.mpr ⟨(show ag_CW 35 35 94 2 2 from ⟨by decide, by decide, by decide, rfl, rfl, by decide, ag_lk_2_35_94⟩), fun _ h => absurd h List.not_mem_nil⟩
theorem ag_cws_36 : ∀ q ∈ ag_ml_l.getD 36 [], ag_CW 36 q.1 q.2.1 q.2.2.1 q.2.2.2 := List.forall_mem_cons.mpr ⟨(show ag_CW 36 31 95 3 2 from ⟨by decide, by decide, by decide, rfl, rfl, by decide, ag_lk_2_31_95⟩), List.forall_mem_cons.mpr ⟨(show ag_CW 36 35 94 2 2 from ⟨by decide, by decide, by decide, rfl, rfl, by decide, ag_lk_2_35_94⟩), fun _ h => absurd h List.not_mem_nil⟩⟩
theorem ag_cws_37 : ∀ q ∈ ag_ml_l.getD 37 [], ag_CW 37 q.1 q.2.1 q.2.2.1 q.2.2.2 := List.forall_mem_cons.mpr ⟨(show ag_CW 37 35 94 2 2 from ⟨by decide, by decide, by decide, rfl, rfl, by decide, ag_lk_2_35_94⟩), List.forall_mem_cons.mpr ⟨(show ag_CW 37 39 35 3 0 from ⟨by decide, by decide, by decide, rfl, rfl, ag_lk_2_39_35⟩), fun _ h => absurd h List.not_mem_nil⟩⟩
theorem ag_cws_38 : ∀ q ∈ ag_ml_l.getD 38 [], ag_CW 38 q.1 q.2.1 q.2.2.1 q.2.2.2 := fun _ h => absurd h List.not_mem_nil
theorem ag_cws_39 : ∀ q ∈ ag_ml_l.getD 39 [], ag_CW 39 q.1 q.2.1 q.2.2.1 q.2.2.2 := List.forall_mem_cons.mpr ⟨(show ag_CW 39 31 95 3 2 from ⟨by decide, by decide, by decide, rfl, rfl, by decide, ag_lk_2_31_95⟩), List.forall_mem_cons.mpr ⟨(show ag_CW 39 35 94 2 2 from ⟨by decide, by decide, by decide, rfl, rfl, by decide, ag_lk_2_35_94⟩), List.forall_mem_cons.mpr ⟨(show ag_CW 39 46 34 1 0 from ⟨by decide, by decide, by decide, rfl, rfl, ag_lk_2_46_34⟩), fun _ h => absurd h List.not_mem_nil⟩⟩⟩
theorem ag_cws_40 : ∀ q ∈ ag_ml_l.getD 40 [], ag_CW 40 q.1 q.2.1 q.2.2.1 q.2.2.2 := List.forall_mem_cons.mpr ⟨(show ag_CW 40 35 94 2 2 from ⟨by decide, by decide, by decide, rfl, rfl, by decide, ag_lk_2_35_94⟩), fun _ h => absurd h List.not_mem_nil⟩
theorem ag_cws_41 : ∀ q ∈ ag_ml_l.getD 41 [], ag_CW 41 q.1 q.2.1 q.2.2.1 q.2.2.2 := List.forall_mem_cons.mpr ⟨(show ag_CW 41 31 95 3 2 from ⟨by decide, by decide, by decide, rfl, rfl, by decide, ag_lk_2_31_95⟩), List.forall_mem_cons.mpr ⟨(show ag_CW 41 35 94 2 2 from ⟨by decide, by decide, by decide, rfl, rfl, by decide, ag_lk_2_35_94⟩), fun _ h => absurd h List.not_mem_nil⟩⟩
theorem ag_cws_42 : ∀ q ∈ ag_ml_l.getD 42 [], ag_CW 42 q.1 q.2.1 q.2.2.1 q.2.2.2 := List.forall_mem_cons.mpr ⟨(show ag_CW 42 3 0 1 5 from ⟨rfl, ag_lk_3_3_0⟩), fun _ h => absurd h List.not_mem_nil⟩
theorem ag_cws_43 : ∀ q ∈ ag_ml_l.getD 43 [], ag_CW 43 q.1 q.2.1 q.2.2.1 q.2.2.2 := List.forall_mem_cons.mpr ⟨(show ag_CW 43 30 96 2 2 from ⟨by decide, by decide, by decide, rfl, rfl, by decide, ag_lk_3_30_96⟩), fun _ h => absurd h List.not_mem_nil⟩
theorem ag_cws_44 : ∀ q ∈ ag_ml_l.getD 44 [], ag_CW 44 q.1 q.2.1 q.2.2.1 q.2.2.2 := fun _ h => absurd h List.not_mem_nil
theorem ag_cws_45 : ∀ q ∈ ag_ml_l.getD 45 [], ag_CW 45 q.1 q.2.1 q.2.2.1 q.2.2.2 := fun _ h => absurd h List.not_mem_nil
theorem ag_cws_46 : ∀ q ∈ ag_ml_l.getD 46 [], ag_CW 46 q.1 q.2.1 q.2.2.1 q.2.2.2 := List.forall_mem_cons.mpr ⟨(show ag_CW 46 38 94 2 2 from ⟨by decide, by decide, by decide, rfl, rfl, by decide, ag_lk_3_38_94⟩), fun _ h => absurd h List.not_mem_nil⟩
theorem ag_cws_47 : ∀ q ∈ ag_ml_l.getD 47 [], ag_CW 47 q.1 q.2.1 q.2.2.1 q.2.2.2 := List.forall_mem_cons.mpr ⟨(show ag_CW 47 38 94 2 2 from ⟨by decide, by decide, by decide, rfl, rfl, by decide, ag_lk_3_38_94⟩), fun _ h => absurd h List.not_mem_nil⟩
theorem ag_cws_48 : ∀ q ∈ ag_ml_l.getD 48 [], ag_CW 48 q.1 q.2.1 q.2.2.1 q.2.2.2 := List.forall_mem_cons.mpr ⟨(show ag_CW 48 42 95 3 2 from ⟨by decide, by decide, by decide, rfl, rfl, by decide, ag_lk_3_42_95⟩), fun _ h => absurd h List.not_mem_nil⟩
theorem ag_cws_49 : ∀ q ∈ ag_ml_l.getD 49 [], ag_CW 49 q.1 q.2.1 q.2.2.1 q.2.2.2 := List.forall_mem_cons.mpr ⟨(show ag_CW 49 38 94 2 2 from ⟨by decide, by decide, by decide, rfl, rfl, by decide, ag_lk_3_38_94⟩), fun _ h => absurd h List.not_mem_nil⟩
theorem ag_cws_50 : ∀ q ∈ ag_ml_l.getD 50 [], ag_CW 50 q.1 q.2.1 q.2.2.1 q.2.2.2 := List.forall_mem_cons.mpr ⟨(show ag_CW 50 38 94 2 2 from ⟨by decide, by decide, by decide, rfl, rfl, by decide, ag_lk_3_38_94⟩), fun _ h => absurd h List.not_mem_nil⟩
theorem ag_cws_51 : ∀ q ∈ ag_ml_l.getD 51 [], ag_CW 51 q.1 q.2.1 q.2.2.1 q.2.2.2 := List.forall_mem_cons.mpr ⟨(show ag_CW 51 38 94 2 2 from ⟨by decide, by decide, by decide, rfl, rfl, by decide, ag_lk_3_38_94⟩), fun _ h => absurd h List.not_mem_nil⟩
theorem ag_cws_52 : ∀ q ∈ ag_ml_l.getD 52 [], ag_CW 52 q.1 q.2.1 q.2.2.1 q.2.2.2 := List.forall_mem_cons.mpr ⟨(show ag_CW 52 38 94 2 2 from ⟨by decide, by decide, by decide, rfl, rfl, by decide, ag_lk_3_38_94⟩), List.forall_mem_cons.mpr ⟨(show ag_CW 52 42 95 3 2 from ⟨by decide, by decide, by decide, rfl, rfl, by decide, ag_lk_3_42_95⟩), fun _ h => absurd h List.not_mem_nil⟩⟩
theorem ag_cws_53 : ∀ q ∈ ag_ml_l.getD 53 [], ag_CW 53 q.1 q.2.1 q.2.2.1 q.2.2.2 := List.forall_mem_cons.mpr ⟨(show ag_CW 53 3 0 1 5 from ⟨rfl, ag_lk_4_3_0⟩), fun _ h => absurd h List.not_mem_nil⟩
theorem ag_cws_54 : ∀ q ∈ ag_ml_l.getD 54 [], ag_CW 54 q.1 q.2.1 q.2.2.1 q.2.2.2 := List.forall_mem_cons.mpr ⟨(show ag_CW 54 22 95 3 2 from ⟨by decide, by decide, by decide, rfl, rfl, by decide, ag_lk_4_22_95⟩), fun _ h => absurd h List.not_mem_nil⟩
theorem ag_cws_55 : ∀ q ∈ ag_ml_l.getD 55 [], ag_CW 55 q.1 q.2.1 q.2.2.1 q.2.2.2 := List.forall_mem_cons.mpr ⟨(show ag_CW 55 26 94 2 2 from ⟨by decide, by decide, by decide, rfl, rfl, by decide, ag_lk_4_26_94⟩), fun _ h => absurd h List.not_mem_nil⟩
theorem ag_cws_56 : ∀ q ∈ ag_ml_l.getD 56 [], ag_CW 56 q.1 q.2.1 q.2.2.1 q.2.2.2 := List.forall_mem_cons.mpr ⟨(show ag_CW 56 26 94 2 2 from ⟨by decide, by decide, by decide, rfl, rfl, by decide, ag_lk_4_26_94⟩), fun _ h => absurd h List.not_mem_nil⟩
theorem ag_cws_57 : ∀ q ∈ ag_ml_l.getD 57 [], ag_CW 57 q.1 q.2.1 q.2.2.1 q.2.2.2 := List.forall_mem_cons.mpr ⟨(show ag_CW 57 22 95 3 2 from ⟨by decide, by decide, by decide, rfl, rfl, by decide, ag_lk_4_22_95⟩), List.forall_mem_cons.mpr ⟨(show ag_CW 57 26 94 2 2 from ⟨by decide, by decide, by decide, rfl, rfl, by decide, ag_lk_4_26_94⟩), List.forall_mem_cons.mpr ⟨(show ag_CW 57 30 7 2 0 from ⟨by decide, by decide, by decide, rfl, rfl, ag_lk_4_30_7⟩), fun _ h => absurd h List.not_mem_nil⟩⟩⟩
theorem ag_cws_58 : ∀ q ∈ ag_ml_l.getD 58 [], ag_CW 58 q.1 q.2.1 q.2.2.1 q.2.2.2 := List.forall_mem_cons.mpr ⟨(show ag_CW 58 1 0 1 5 from ⟨rfl, ag_lk_5_1_0⟩), List.forall_mem_cons.mpr ⟨(show ag_CW 58 9 31 1 4 from ⟨by decide, by decide, by decide, rfl, rfl, by decide, ag_lk_5_9_31⟩), List.forall_mem_cons.mpr ⟨(show ag_CW 58 18 53 1 4 from ⟨by decide, by decide, by decide, rfl, rfl, by decide, ag_lk_5_18_53⟩), List.forall_mem_cons.mpr ⟨(show ag_CW 58 25 19 2 3 from ⟨by decide, by decide, by decide, rfl, rfl, by decide, ag_lk_5_25_19⟩), fun _ h => absurd h List.not_mem_nil⟩⟩⟩⟩
theorem ag_cws_59 : ∀ q ∈ ag_ml_l.getD 59 [], ag_CW 59 q.1 q.2.1 q.2.2.1 q.2.2.2 := List.forall_mem_cons.mpr ⟨(show ag_CW 59 43 7 2 0 from ⟨by decide, by decide, by decide, rfl, rfl, ag_lk_5_43_7⟩), List.forall_mem_cons.mpr ⟨(show ag_CW 59 56 93 1 1 from ⟨by decide, by decide, by decide, rfl, rfl, by decide, rfl, ag_lk_5_56_93⟩), List.forall_mem_cons.mpr ⟨(show ag_CW 59 64 5 1 0 from ⟨by decide, by decide, by decide, rfl, rfl, ag_lk_5_64_5⟩), List.forall_mem_cons.mpr ⟨(show ag_CW 59 68 8 2 0 from ⟨by decide, by decide, by decide, rfl, rfl, ag_lk_5_68_8⟩), List.forall_mem_cons.mpr ⟨(show ag_CW 59 90 9 2 0 from ⟨by decide, by decide, by decide, rfl, rfl, ag_lk_5_90_9⟩), List.forall_mem_cons.mpr ⟨(show ag_CW 59 93 14 4 0 from ⟨by decide, by decide, by decide, rfl, rfl, ag_lk_5_93_14⟩), fun _ h => absurd h List.not_mem_nil⟩⟩⟩⟩⟩⟩
theorem ag_cws_60 : ∀ q ∈ ag_ml_l.getD 60 [], ag_CW 60 q.1 q.2.1 q.2.2.1 q.2.2.2 := List.forall_mem_cons.mpr ⟨(show ag_CW 60 97 6 2 0 from ⟨by decide, by decide, by decide, rfl, rfl, ag_lk_5_97_6⟩), List.forall_mem_cons.mpr ⟨(show ag_CW 60 104 86 3 0 from ⟨by decide, by decide, by decide, rfl, rfl, ag_lk_5_104_86⟩), fun _ h => absurd h List.not_mem_nil⟩⟩
theorem ag_cws_61 : ∀ q ∈ ag_ml_l.getD 61 [], ag_CW 61 q.1 q.2.1 q.2.2.1 q.2.2.2 := List.forall_mem_cons.mpr ⟨(show ag_CW 61 113 94 2 1 from ⟨by decide, by decide, by decide, rfl, rfl, by decide, rfl, ag_lk_5_113_94⟩), fun _ h => absurd h List.not_mem_nil⟩
theorem ag_cws_62 : ∀ q ∈ ag_ml_l.getD 62 [], ag_CW 62 q.1 q.2.1 q.2.2.1 q.2.2.2 := List.forall_mem_cons.mpr ⟨(show ag_CW 62 119 85 2 0 from ⟨by decide, by decide, by decide, rfl, rfl, ag_lk_5_119_85⟩), fun _ h => absurd h List.not_mem_nil⟩
theorem ag_cws_63 : ∀ q ∈ ag_ml_l.getD 63 [], ag_CW 63 q.1 q.2.1 q.2.2.1 q.2.2.2 := List.forall_mem_cons.mpr ⟨(show ag_CW 63 43 7 2 0 from ⟨by decide, by decide, by decide, rfl, rfl, ag_lk_5_43_7⟩), List.forall_mem_cons.mpr ⟨(show ag_CW 63 56 93 1 1 from ⟨by decide, by decide, by decide, rfl, rfl, by decide, rfl, ag_lk_5_56_93⟩), List.forall_mem_cons.mpr ⟨(show ag_CW 63 124 44 1 0 from ⟨by decide, by decide, by decide, rfl, rfl, ag_lk_5_124_44⟩), List.forall_mem_cons.mpr ⟨(show ag_CW 63 125 21 4 0 from ⟨by decide, by decide, by decide, rfl, rfl, ag_lk_5_125_21⟩), List.forall_mem_cons.mpr ⟨(show ag_CW 63 131 48 4 0 from ⟨by decide, by decide, by decide, rfl, rfl, ag_lk_5_131_48⟩), fun _ h => absurd h List.not_mem_nil⟩⟩⟩⟩⟩
theorem ag_cws_64 : ∀ q ∈ ag_ml_l.getD 64 [], ag_CW 64 q.1 q.2.1 q.2.2.1 q.2.2.2 := List.forall_mem_cons.mpr ⟨(show ag_CW 64 56 93 1 1 from ⟨by decide, by decide, by decide, rfl, rfl, by decide, rfl, ag_lk_5_56_93⟩), List.forall_mem_cons.mpr ⟨(show ag_CW 64 124 44 1 0 from ⟨by decide, by decide, by decide, rfl, rfl, ag_lk_5_124_44⟩), List.forall_mem_cons.mpr ⟨(show ag_CW 64 131 48 4 0 from ⟨by decide, by decide, by decide, rfl, rfl, ag_lk_5_131_48⟩), List.forall_mem_cons.mpr ⟨(show ag_CW 64 134 45 2 0 from ⟨by decide, by decide, by decide, rfl, rfl, ag_lk_5_134_45⟩), List.forall_mem_cons.mpr ⟨(show ag_CW 64 137 46 2 0 from ⟨by decide, by decide, by decide, rfl, rfl, ag_lk_5_137_46⟩), List.forall_mem_cons.mpr ⟨(show ag_CW 64 140 47 2 0 from ⟨by decide, by decide, by decide, rfl, rfl, ag_lk_5_140_47⟩), fun _ h => absurd h List.not_mem_nil⟩⟩⟩⟩⟩⟩
theorem ag_cws_65 : ∀ q ∈ ag_ml_l.getD 65 [], ag_CW 65 q.1 q.2.1 q.2.2.1 q.2.2.2 := List.forall_mem_cons.mpr ⟨(show ag_CW 65 134 45 2 0 from ⟨by decide, by decide, by decide, rfl, rfl, ag_lk_5_134_45⟩), List.forall_mem_cons.mpr ⟨(show ag_CW 65 137 46 2 0 from ⟨by decide, by decide, by decide, rfl, rfl, ag_lk_5_137_46⟩), List.forall_mem_cons.mpr ⟨(show ag_CW 65 147 50 2 0 from ⟨by decide, by decide, by decide, rfl, rfl, ag_lk_5_147_50⟩), List.forall_mem_cons.mpr ⟨(show ag_CW 65 150 52 4 0 from ⟨by decide, by decide, by decide, rfl, rfl, ag_lk_5_150_52⟩), fun _ h => absurd h List.not_mem_nil⟩⟩⟩⟩
theorem ag_cws_66 : ∀ q ∈ ag_ml_l.getD 66 [], ag_CW 66 q.1 q.2.1 q.2.2.1 q.2.2.2 := List.forall_mem_cons.mpr ⟨(show ag_CW 66 134 45 2 0 from ⟨by decide, by decide, by decide, rfl, rfl, ag_lk_5_134_45⟩), List.forall_mem_cons.mpr ⟨(show ag_CW 66 156 49 3 0 from ⟨by decide, by decide, by decide, rfl, rfl, ag_lk_5_156_49⟩), fun _ h => absurd h List.not_mem_nil⟩⟩
theorem ag_cws_67 : ∀ q ∈ ag_ml_l.getD 67 [], ag_CW 67 q.1 q.2.1 q.2.2.1 q.2.2.2 := List.forall_mem_cons.mpr ⟨(show ag_CW 67 159 23 1 0 from ⟨by decide, by decide, by decide, rfl, rfl, ag_lk_5_159_23⟩), fun _ h => absurd h List.not_mem_nil⟩
theorem ag_cws_68 : ∀ q ∈ ag_ml_l.getD 68 [], ag_CW 68 q.1 q.2.1 q.2.2.1 q.2.2.2 := List.forall_mem_cons.mpr ⟨(show ag_CW 68 134 45 2 0 from ⟨by decide, by decide, by decide, rfl, rfl, ag_lk_5_134_45⟩), List.forall_mem_cons.mpr ⟨(show ag_CW 68 163 22 2 0 from ⟨by decide, by decide, by decide, rfl, rfl, ag_lk_5_163_22⟩), fun _ h => absurd h List.not_mem_nil⟩⟩
theorem ag_cws_69 : ∀ q ∈ ag_ml_l.getD 69 [], ag_CW 69 q.1 q.2.1 q.2.2.1 q.2.2.2 := List.forall_mem_cons.mpr ⟨(show ag_CW 69 173 33 2 0 from ⟨by decide, by decide, by decide, rfl, rfl, ag_lk_5_173_33⟩), fun _ h => absurd h List.not_mem_nil⟩
theorem ag_cws_70 : ∀ q ∈ ag_ml_l.getD 70 [], ag_CW 70 q.1 q.2.1 q.2.2.1 q.2.2.2 := List.forall_mem_cons.mpr ⟨(show ag_CW 70 134 45 2 0 from ⟨by decide, by decide, by decide, rfl, rfl, ag_lk_5_134_45⟩), List.forall_mem_cons.mpr ⟨(show ag_CW 70 137 46 2 0 from ⟨by decide, by decide, by decide, rfl, rfl, ag_lk_5_137_46⟩), List.forall_mem_cons.mpr ⟨(show ag_CW 70 175 32 2 0 from ⟨by decide, by decide, by decide, rfl, rfl, ag_lk_5_175_32⟩), List.forall_mem_cons.mpr ⟨(show ag_CW 70 180 36 4 0 from ⟨by decide, by decide, by decide, rfl, rfl, ag_lk_5_180_36⟩), fun _ h => absurd h List.not_mem_nil⟩⟩⟩⟩
theorem ag_cws_71 : ∀ q ∈ ag_ml_l.getD 71 [], ag_CW 71 q.1 q.2.1 q.2.2.1 q.2.2.2 := fun _ h => absurd h List.not_mem_nil
theorem ag_cws_72 : ∀ q ∈ ag_ml_l.getD 72 [], ag_CW 72 q.1 q.2.1 q.2.2.1 q.2.2.2 := List.forall_mem_cons.mpr ⟨(show ag_CW 72 192 38 1 0 from ⟨by decide, by decide, by decide, rfl, rfl, ag_lk_5_192_38⟩), List.forall_mem_cons.mpr ⟨(show ag_CW 72 198 39 2 0 from ⟨by decide, by decide, by decide, rfl, rfl, ag_lk_5_198_39⟩), fun _ h => absurd h List.not_mem_nil⟩⟩
theorem ag_cws_73 : ∀ q ∈ ag_ml_l.getD 73 [], ag_CW 73 q.1 q.2.1 q.2.2.1 q.2.2.2 := List.forall_mem_cons.mpr ⟨(show ag_CW 73 159 23 1 0 from ⟨by decide, by decide, by decide, rfl, rfl, ag_lk_5_159_23⟩), List.forall_mem_cons.mpr ⟨(show ag_CW 73 175 32 2 0 from ⟨by decide, by decide, by decide, rfl, rfl, ag_lk_5_175_32⟩), List.forall_mem_cons.mpr ⟨(show ag_CW 73 192 38 1 0 from ⟨by decide, by decide, by decide, rfl, rfl, ag_lk_5_192_38⟩), List.forall_mem_cons.mpr ⟨(show ag_CW 73 206 40 3 0 from ⟨by decide, by decide, by decide, rfl, rfl, ag_lk_5_206_40⟩), List.forall_mem_cons.mpr ⟨(show ag_CW 73 212 41 3 0 from ⟨by decide, by decide, by decide, rfl, rfl, ag_lk_5_212_41⟩), fun _ h => absurd h List.not_mem_nil⟩⟩⟩⟩⟩
theorem ag_cws_74 : ∀ q ∈ ag_ml_l.getD 74 [], ag_CW 74 q.1 q.2.1 q.2.2.1 q.2.2.2 := List.forall_mem_cons.mpr ⟨(show ag_CW 74 113 94 2 1 from ⟨by decide, by decide, by decide, rfl, rfl, by decide, rfl, ag_lk_5_113_94⟩), List.forall_mem_cons.mpr ⟨(show ag_CW 74 159 23 1 0 from ⟨by decide, by decide, by decide, rfl, rfl, ag_lk_5_159_23⟩), List.forall_mem_cons.mpr ⟨(show ag_CW 74 192 38 1 0 from ⟨by decide, by decide, by decide, rfl, rfl, ag_lk_5_192_38⟩), List.forall_mem_cons.mpr ⟨(show ag_CW 74 217 25 3 0 from ⟨by decide, by decide, by decide, rfl, rfl, ag_lk_5_217_25⟩), List.forall_mem_cons.mpr ⟨(show ag_CW 74 221 57 2 0 from ⟨by decide, by decide, by decide, rfl, rfl, ag_lk_5_221_57⟩), fun _ h => absurd h List.not_mem_nil⟩⟩⟩⟩⟩
theorem ag_cws_75 : ∀ q ∈ ag_ml_l.getD 75 [], ag_CW 75 q.1 q.2.1 q.2.2.1 q.2.2.2 := List.forall_mem_cons.mpr ⟨(show ag_CW 75 175 32 2 0 from ⟨by decide, by decide, by decide, rfl, rfl, ag_lk_5_175_32⟩), List.forall_mem_cons.mpr ⟨(show ag_CW 75 230 87 3 0 from ⟨by decide, by decide, by decide, rfl, rfl, ag_lk_5_230_87⟩), fun _ h => absurd h List.not_mem_nil⟩⟩
theorem ag_cws_76 : ∀ q ∈ ag_ml_l.getD 76 [], ag_CW 76 q.1 q.2.1 q.2.2.1 q.2.2.2 := List.forall_mem_cons.mpr ⟨(show ag_CW 76 43 7 2 0 from ⟨by decide, by decide, by decide, rfl, rfl, ag_lk_5_43_7⟩), List.forall_mem_cons.mpr ⟨(show ag_CW 76 238 54 3 0 from ⟨by decide, by decide, by decide, rfl, rfl, ag_lk_5_238_54⟩), fun _ h => absurd h List.not_mem_nil⟩⟩
theorem ag_cws_77 : ∀ q ∈ ag_ml_l.getD 77 [], ag_CW 77 q.1 q.2.1 q.2.2.1 q.2.2.2 := List.forall_mem_cons.mpr ⟨(show ag_CW 77 113 94 2 1 from ⟨by decide, by decide, by decide, rfl, rfl, by decide, rfl, ag_lk_5_113_94⟩), fun _ h => absurd h List.not_mem_nil⟩
theorem ag_cws_78 : ∀ q ∈ ag_ml_l.getD 78 [], ag_CW 78 q.1 q.2.1 q.2.2.1 q.2.2.2 := List.forall_mem_cons.mpr ⟨(show ag_CW 78 245 12 1 0 from ⟨by decide, by decide, by decide, rfl, rfl, ag_lk_5_245_12⟩), fun _ h => absurd h List.not_mem_nil⟩
theorem ag_cws_79 : ∀ q ∈ ag_ml_l.getD 79 [], ag_CW 79 q.1 q.2.1 q.2.2.1 q.2.2.2 := List.forall_mem_cons.mpr ⟨(show ag_CW 79 134 45 2 0 from ⟨by decide, by decide, by decide, rfl, rfl, ag_lk_5_134_45⟩), List.forall_mem_cons.mpr ⟨(show ag_CW 79 248 37 3 0 from ⟨by decide, by decide, by decide, rfl, rfl, ag_lk_5_248_37⟩), fun _ h => absurd h List.not_mem_nil⟩⟩
theorem ag_cws_80 : ∀ q ∈ ag_ml_l.getD 80 [], ag_CW 80 q.1 q.2.1 q.2.2.1 q.2.2.2 := List.forall_mem_cons.mpr ⟨(show ag_CW 80 134 45 2 0 from ⟨by decide, by decide, by decide, rfl, rfl, ag_lk_5_134_45⟩), List.forall_mem_cons.mpr ⟨(show ag_CW 80 251 89 2 0 from ⟨by decide, by decide, by decide, rfl, rfl, ag_lk_5_251_89⟩), fun _ h => absurd h List.not_mem_nil⟩⟩
theorem ag_cws_81 : ∀ q ∈ ag_ml_l.getD 81 [], ag_CW 81 q.1 q.2.1 q.2.2.1 q.2.2.2 := List.forall_mem_cons.mpr ⟨(show ag_CW 81 254 90 1 0 from ⟨by decide, by decide, by decide, rfl, rfl, ag_lk_5_254_90⟩), fun _ h => absurd h List.not_mem_nil⟩
theorem ag_cws_82 : ∀ q ∈ ag_ml_l.getD 82 [], ag_CW 82 q.1 q.2.1 q.2.2.1 q.2.2.2 := List.forall_mem_cons.mpr ⟨(show ag_CW 82 175 32 2 0 from ⟨by decide, by decide, by decide, rfl, rfl, ag_lk_5_175_32⟩), List.forall_mem_cons.mpr ⟨(show ag_CW 82 257 91 2 0 from ⟨by decide, by decide, by decide, rfl, rfl, ag_lk_5_257_91⟩), fun _ h => absurd h List.not_mem_nil⟩⟩
theorem ag_cws_83 : ∀ q ∈ ag_ml_l.getD 83 [], ag_CW 83 q.1 q.2.1 q.2.2.1 q.2.2.2 := List.forall_mem_cons.mpr ⟨(show ag_CW 83 260 92 2 0 from ⟨by decide, by decide, by decide, rfl, rfl, ag_lk_5_260_92⟩), fun _ h => absurd h List.not_mem_nil⟩
theorem ag_cws_84 : ∀ q ∈ ag_ml_l.getD 84 [], ag_CW 84 q.1 q.2.1 q.2.2.1 q.2.2.2 := List.forall_mem_cons.mpr ⟨(show ag_CW 84 104 86 3 0 from ⟨by decide, by decide, by decide, rfl, rfl, ag_lk_5_104_86⟩), List.forall_mem_cons.mpr ⟨(show ag_CW 84 113 94 2 1 from ⟨by decide, by decide, by decide, rfl, rfl, by decide, rfl, ag_lk_5_113_94⟩), List.forall_mem_cons.mpr ⟨(show ag_CW 84 119 85 2 0 from ⟨by decide, by decide, by decide, rfl, rfl, ag_lk_5_119_85⟩), List.forall_mem_cons.mpr ⟨(show ag_CW 84 156 49 3 0 from ⟨by decide, by decide, by decide, rfl, rfl, ag_lk_5_156_49⟩), List.forall_mem_cons.mpr ⟨(show ag_CW 84 159 23 1 0 from ⟨by decide, by decide, by decide, rfl, rfl, ag_lk_5_159_23⟩), List.forall_mem_cons.mpr ⟨(show ag_CW 84 230 87 3 0 from ⟨by decide, by decide, by decide, rfl, rfl, ag_lk_5_230_87⟩), List.forall_mem_cons.mpr ⟨(show ag_CW 84 251 89 2 0 from ⟨by decide, by decide, by decide, rfl, rfl, ag_lk_5_251_89⟩), List.forall_mem_cons.mpr ⟨(show ag_CW 84 254 90 1 0 from ⟨by decide, by decide, by decide, rfl, rfl, ag_lk_5_254_90⟩), List.forall_mem_cons.mpr ⟨(show ag_CW 84 257 91 2 0 from ⟨by decide, by decide, by decide, rfl, rfl, ag_lk_5_257_91⟩), fun _ h => absurd h List.not_mem_nil⟩⟩⟩⟩⟩⟩⟩⟩⟩
theorem ag_cws_85 : ∀ q ∈ ag_ml_l.getD 85 [], ag_CW 85 q.1 q.2.1 q.2.2.1 q.2.2.2 := List.forall_mem_cons.mpr ⟨(show ag_CW 85 147 50 2 0 from ⟨by decide, by decide, by decide, rfl, rfl, ag_lk_5_147_50⟩), List.forall_mem_cons.mpr ⟨(show ag_CW 85 272 34 1 0 from ⟨by decide, by decide, by decide, rfl, rfl, ag_lk_5_272_34⟩), List.forall_mem_cons.mpr ⟨(show ag_CW 85 275 55 2 0 from ⟨by decide, by decide, by decide, rfl, rfl, ag_lk_5_275_55⟩), fun _ h => absurd h List.not_mem_nil⟩⟩⟩
theorem ag_cws_86 : ∀ q ∈ ag_ml_l.getD 86 [], ag_CW 86 q.1 q.2.1 q.2.2.1 q.2.2.2 := List.forall_mem_cons.mpr ⟨(show ag_CW 86 43 7 2 0 from ⟨by decide, by decide, by decide, rfl, rfl, ag_lk_5_43_7⟩), List.forall_mem_cons.mpr ⟨(show ag_CW 86 113 94 2 1 from ⟨by decide, by decide, by decide, rfl, rfl, by decide, rfl, ag_lk_5_113_94⟩), List.forall_mem_cons.mpr ⟨(show ag_CW 86 290 11 2 0 from ⟨by decide, by decide, by decide, rfl, rfl, ag_lk_5_290_11⟩), List.forall_mem_cons.mpr ⟨(show ag_CW 86 296 56 2 0 from ⟨by decide, by decide, by decide, rfl, rfl, ag_lk_5_296_56⟩), fun _ h => absurd h List.not_mem_nil⟩⟩⟩⟩
theorem ag_cws_87 : ∀ q ∈ ag_ml_l.getD 87 [], ag_CW 87 q.1 q.2.1 q.2.2.1 q.2.2.2 := List.forall_mem_cons.mpr ⟨(show ag_CW 87 113 94 2 1 from ⟨by decide, by decide, by decide, rfl, rfl, by decide, rfl, ag_lk_5_113_94⟩), List.forall_mem_cons.mpr ⟨(show ag_CW 87 192 38 1 0 from ⟨by decide, by decide, by decide, rfl, rfl, ag_lk_5_192_38⟩), List.forall_mem_cons.mpr ⟨(show ag_CW 87 308 88 2 0 from ⟨by decide, by decide, by decide, rfl, rfl, ag_lk_5_308_88⟩), fun _ h => absurd h List.not_mem_nil⟩⟩⟩
theorem ag_cws_88 : ∀ q ∈ ag_ml_l.getD 88 [], ag_CW 88 q.1 q.2.1 q.2.2.1 q.2.2.2 := List.forall_mem_cons.mpr ⟨(show ag_CW 88 113 94 2 1 from ⟨by decide, by decide, by decide, rfl, rfl, by decide, rfl, ag_lk_5_113_94⟩), List.forall_mem_cons.mpr ⟨(show ag_CW 88 311 35 3 0 from ⟨by decide, by decide, by decide, rfl, rfl, ag_lk_5_311_35⟩), fun _ h => absurd h List.not_mem_nil⟩⟩
theorem ag_cws_89 : ∀ q ∈ ag_ml_l.getD 89 [], ag_CW 89 q.1 q.2.1 q.2.2.1 q.2.2.2 := List.forall_mem_cons.mpr ⟨(show ag_CW 89 147 50 2 0 from ⟨by decide, by decide, by decide, rfl, rfl, ag_lk_5_147_50⟩), List.forall_mem_cons.mpr ⟨(show ag_CW 89 163 22 2 0 from ⟨by decide, by decide, by decide, rfl, rfl, ag_lk_5_163_22⟩), List.forall_mem_cons.mpr ⟨(show ag_CW 89 314 20 2 0 from ⟨by decide, by decide, by decide, rfl, rfl, ag_lk_5_314_20⟩), List.forall_mem_cons.mpr ⟨(show ag_CW 89 318 27 2 0 from ⟨by decide, by decide, by decide, rfl, rfl, ag_lk_5_318_27⟩), List.forall_mem_cons.mpr ⟨(show ag_CW 89 321 28 2 0 from ⟨by decide, by decide, by decide, rfl, rfl, ag_lk_5_321_28⟩), fun _ h => absurd h List.not_mem_nil⟩⟩⟩⟩⟩
theorem ag_cws_90 : ∀ q ∈ ag_ml_l.getD 90 [], ag_CW 90 q.1 q.2.1 q.2.2.1 q.2.2.2 := List.forall_mem_cons.mpr ⟨(show ag_CW 90 314 20 2 0 from ⟨by decide, by decide, by decide, rfl, rfl, ag_lk_5_314_20⟩), List.forall_mem_cons.mpr ⟨(show ag_CW 90 324 26 2 0 from ⟨by decide, by decide, by decide, rfl, rfl, ag_lk_5_324_26⟩), fun _ h => absurd h List.not_mem_nil⟩⟩
theorem ag_cws_91 : ∀ q ∈ ag_ml_l.getD 91 [], ag_CW 91 q.1 q.2.1 q.2.2.1 q.2.2.2 := List.forall_mem_cons.mpr ⟨(show ag_CW 91 113 94 2 1 from ⟨by decide, by decide, by decide, rfl, rfl, by decide, rfl, ag_lk_5_113_94⟩), List.forall_mem_cons.mpr ⟨(show ag_CW 91 314 20 2 0 from ⟨by decide, by decide, by decide, rfl, rfl, ag_lk_5_314_20⟩), List.forall_mem_cons.mpr ⟨(show ag_CW 91 324 26 2 0 from ⟨by decide, by decide, by decide, rfl, rfl, ag_lk_5_324_26⟩), List.forall_mem_cons.mpr ⟨(show ag_CW 91 327 96 2 1 from ⟨by decide, by decide, by decide, rfl, rfl, by decide, rfl, ag_lk_5_327_96⟩), fun _ h => absurd h List.not_mem_nil⟩⟩⟩⟩
theorem ag_cws_92 : ∀ q ∈ ag_ml_l.getD 92 [], ag_CW 92 q.1 q.2.1 q.2.2.1 q.2.2.2 := List.forall_mem_cons.mpr ⟨(show ag_CW 92 159 23 1 0 from ⟨by decide, by decide, by decide, rfl, rfl, ag_lk_5_159_23⟩), List.forall_mem_cons.mpr ⟨(show ag_CW 92 217 25 3 0 from ⟨by decide, by decide, by decide, rfl, rfl, ag_lk_5_217_25⟩), List.forall_mem_cons.mpr ⟨(show ag_CW 92 314 20 2 0 from ⟨by decide, by decide, by decide, rfl, rfl, ag_lk_5_314_20⟩), fun _ h => absurd h List.not_mem_nil⟩⟩⟩
theorem ag_cws_93 : ∀ q ∈ ag_ml_l.getD 93 [], ag_CW 93 q.1 q.2.1 q.2.2.1 q.2.2.2 := fun _ h => absurd h List.not_mem_nil
theorem ag_cws_94 : ∀ q ∈ ag_ml_l.getD 94 [], ag_CW 94 q.1 q.2.1 q.2.2.1 q.2.2.2 := fun _ h => absurd h List.not_mem_nil
theorem ag_cws_95 : ∀ q ∈ ag_ml_l.getD 95 [], ag_CW 95 q.1 q.2.1 q.2.2.1 q.2.2.2 := fun _ h => absurd h List.not_mem_nil
theorem ag_cws_96 : ∀ q ∈ ag_ml_l.getD 96 [], ag_CW 96 q.1 q.2.1 q.2.2.1 q.2.2.2 := fun _ h => absurd h List.not_mem_nil
theorem ag_cws_97 : ∀ q ∈ ag_ml_l.getD 97 [], ag_CW 97 q.1 q.2.1 q.2.2.1 q.2.2.2 := List.forall_mem_cons.mpr ⟨(show ag_CW 97 1 0 1 5 from ⟨rfl, ag_lk_6_1_0⟩), fun _ h => absurd h List.not_mem_nil⟩
theorem ag_cws_98 : ∀ q ∈ ag_ml_l.getD 98 [], ag_CW 98 q.1 q.2.1 q.2.2.1 q.2.2.2 := fun _ h => absurd h List.not_mem_nil
theorem ag_cws_99 : ∀ q ∈ ag_ml_l.getD 99 [], ag_CW 99 q.1 q.2.1 q.2.2.1 q.2.2.2 := fun _ h => absurd h List.not_mem_nil
theorem ag_cws_100 : ∀ q ∈ ag_ml_l.getD 100 [], ag_CW 100 q.1 q.2.1 q.2.2.1 q.2.2.2 := fun _ h => absurd h List.not_mem_nil
theorem ag_cws_101 : ∀ q ∈ ag_ml_l.getD 101 [], ag_CW 101 q.1 q.2.1 q.2.2.1 q.2.2.2 := fun _ h => absurd h List.not_mem_nil
theorem ag_cws_102 : ∀ q ∈ ag_ml_l.getD 102 [], ag_CW 102 q.1 q.2.1 q.2.2.1 q.2.2.2 := List.forall_mem_cons.mpr ⟨(show ag_CW 102 68 2 5 7 from ⟨rfl, ag_lk_6_68_2⟩), fun _ h => absurd h List.not_mem_nil⟩
theorem ag_cws_103 : ∀ q ∈ ag_ml_l.getD 103 [], ag_CW 103 q.1 q.2.1 q.2.2.1 q.2.2.2 := fun _ h => absurd h List.not_mem_nil
theorem ag_cws_104 : ∀ q ∈ ag_ml_l.getD 104 [], ag_CW 104 q.1 q.2.1 q.2.2.1 q.2.2.2 := List.forall_mem_cons.mpr ⟨(show ag_CW 104 80 101 3 1 from ⟨by decide, by decide, by decide, rfl, rfl, by decide, rfl, ag_lk_6_80_101⟩), List.forall_mem_cons.mpr ⟨(show ag_CW 104 84 103 2 0 from ⟨by decide, by decide, by decide, rfl, rfl, ag_lk_6_84_103⟩), fun _ h => absurd h List.not_mem_nil⟩⟩
theorem ag_cws_105 : ∀ q ∈ ag_ml_l.getD 105 [], ag_CW 105 q.1 q.2.1 q.2.2.1 q.2.2.2 := fun _ h => absurd h List.not_mem_nil
theorem ag_cws_106 : ∀ q ∈ ag_ml_l.getD 106 [], ag_CW 106 q.1 q.2.1 q.2.2.1 q.2.2.2 := List.forall_mem_cons.mpr ⟨(show ag_CW 106 68 2 5 7 from ⟨rfl, ag_lk_6_68_2⟩), fun _ h => absurd h List.not_mem_nil⟩
theorem ag_cws_107 : ∀ q ∈ ag_ml_l.getD 107 [], ag_CW 107 q.1 q.2.1 q.2.2.1 q.2.2.2 := List.forall_mem_cons.mpr ⟨(show ag_CW 107 68 2 5 7 from ⟨rfl, ag_lk_6_68_2⟩), List.forall_mem_cons.mpr ⟨(show ag_CW 107 88 105 2 0 from ⟨by decide, by decide, by decide, rfl, rfl, ag_lk_6_88_105⟩), fun _ h => absurd h List.not_mem_nil⟩⟩
theorem ag_cws_108 : ∀ q ∈ ag_ml_l.getD 108 [], ag_CW 108 q.1 q.2.1 q.2.2.1 q.2.2.2 := List.forall_mem_cons.mpr ⟨(show ag_CW 108 91 106 3 0 from ⟨by decide, by decide, by decide, rfl, rfl, ag_lk_6_91_106⟩), fun _ h => absurd h List.not_mem_nil⟩
theorem ag_cws_109 : ∀ q ∈ ag_ml_l.getD 109 [], ag_CW 109 q.1 q.2.1 q.2.2.1 q.2.2.2 := List.forall_mem_cons.mpr ⟨(show ag_CW 109 80 101 3 1 from ⟨by decide, by decide, by decide, rfl, rfl, by decide, rfl, ag_lk_6_80_101⟩), List.forall_mem_cons.mpr ⟨(show ag_CW 109 84 103 2 0 from ⟨by decide, by decide, by decide, rfl, rfl, ag_lk_6_84_103⟩), List.forall_mem_cons.mpr ⟨(show ag_CW 109 88 105 2 0 from ⟨by decide, by decide, by decide, rfl, rfl, ag_lk_6_88_105⟩), List.forall_mem_cons.mpr ⟨(show ag_CW 109 95 104 2 0 from ⟨by decide, by decide, by decide, rfl, rfl, ag_lk_6_95_104⟩), List.forall_mem_cons.mpr ⟨(show ag_CW 109 99 99 2 0 from ⟨by decide, by decide, by decide, rfl, rfl, ag_lk_6_99_99⟩), List.forall_mem_cons.mpr ⟨(show ag_CW 109 105 108 5 0 from ⟨by decide, by decide, by decide, rfl, rfl, ag_lk_6_105_108⟩), fun _ h => absurd h List.not_mem_nil⟩⟩⟩⟩⟩⟩
theorem ag_cws_110 : ∀ q ∈ ag_ml_l.getD 110 [], ag_CW 110 q.1 q.2.1 q.2.2.1 q.2.2.2 := fun _ h => absurd h List.not_mem_nil
theorem ag_cws_111 : ∀ q ∈ ag_ml_l.getD 111 [], ag_CW 111 q.1 q.2.1 q.2.2.1 q.2.2.2 := List.forall_mem_cons.mpr ⟨(show ag_CW 111 84 103 2 0 from ⟨by decide, by decide, by decide, rfl, rfl, ag_lk_6_84_103⟩), List.forall_mem_cons.mpr ⟨(show ag_CW 111 88 105 2 0 from ⟨by decide, by decide, by decide, rfl, rfl, ag_lk_6_88_105⟩), List.forall_mem_cons.mpr ⟨(show ag_CW 111 112 110 2 0 from ⟨by decide, by decide, by decide, rfl, rfl, ag_lk_6_112_110⟩), fun _ h => absurd h List.not_mem_nil⟩⟩⟩
theorem ag_cws_112 : ∀ q ∈ ag_ml_l.getD 112 [], ag_CW 112 q.1 q.2.1 q.2.2.1 q.2.2.2 := List.forall_mem_cons.mpr ⟨(show ag_CW 112 80 101 3 1 from ⟨by decide, by decide, by decide, rfl, rfl, by decide, rfl, ag_lk_6_80_101⟩), List.forall_mem_cons.mpr ⟨(show ag_CW 112 99 99 2 0 from ⟨by decide, by decide, by decide, rfl, rfl, ag_lk_6_99_99⟩), List.forall_mem_cons.mpr ⟨(show ag_CW 112 115 111 3 0 from ⟨by decide, by decide, by decide, rfl, rfl, ag_lk_6_115_111⟩), fun _ h => absurd h List.not_mem_nil⟩⟩⟩
theorem ag_cws_113 : ∀ q ∈ ag_ml_l.getD 113 [], ag_CW 113 q.1 q.2.1 q.2.2.1 q.2.2.2 := List.forall_mem_cons.mpr ⟨(show ag_CW 113 80 101 3 1 from ⟨by decide, by decide, by decide, rfl, rfl, by decide, rfl, ag_lk_6_80_101⟩), List.forall_mem_cons.mpr ⟨(show ag_CW 113 99 99 2 0 from ⟨by decide, by decide, by decide, rfl, rfl, ag_lk_6_99_99⟩), fun _ h => absurd h List.not_mem_nil⟩⟩
theorem ag_cws_114 : ∀ q ∈ ag_ml_l.getD 114 [], ag_CW 114 q.1 q.2.1 q.2.2.1 q.2.2.2 := fun _ h => absurd h List.not_mem_nil
theorem ag_cws_115 : ∀ q ∈ ag_ml_l.getD 115 [], ag_CW 115 q.1 q.2.1 q.2.2.1 q.2.2.2 := fun _ h => absurd h List.not_mem_nil
theorem ag_cws_116 : ∀ q ∈ ag_ml_l.getD 116 [], ag_CW 116 q.1 q.2.1 q.2.2.1 q.2.2.2 := fun _ h => absurd h List.not_mem_nil
theorem ag_cws_117 : ∀ q ∈ ag_ml_l.getD 117 [], ag_CW 117 q.1 q.2.1 q.2.2.1 q.2.2.2 := List.forall_mem_cons.mpr ⟨(show ag_CW 117 122 115 1 0 from ⟨by decide, by decide, by decide, rfl, rfl, ag_lk_6_122_115⟩), List.forall_mem_cons.mpr ⟨(show ag_CW 117 126 116 1 0 from ⟨by decide, by decide, by decide, rfl, rfl, ag_lk_6_126_116⟩), List.forall_mem_cons.mpr ⟨(show ag_CW 117 129 114 2 0 from ⟨by decide, by decide, by decide, rfl, rfl, ag_lk_6_129_114⟩), fun _ h => absurd h List.not_mem_nil⟩⟩⟩
theorem ag_cws_118 : ∀ q ∈ ag_ml_l.getD 118 [], ag_CW 118 q.1 q.2.1 q.2.2.1 q.2.2.2 := List.forall_mem_cons.mpr ⟨(show ag_CW 118 80 101 3 1 from ⟨by decide, by decide, by decide, rfl, rfl, by decide, rfl, ag_lk_6_80_101⟩), List.forall_mem_cons.mpr ⟨(show ag_CW 118 99 99 2 0 from ⟨by decide, by decide, by decide, rfl, rfl, ag_lk_6_99_99⟩), List.forall_mem_cons.mpr ⟨(show ag_CW 118 132 117 2 0 from ⟨by decide, by decide, by decide, rfl, rfl, ag_lk_6_132_117⟩), fun _ h => absurd h List.not_mem_nil⟩⟩⟩
theorem ag_cws_119 : ∀ q ∈ ag_ml_l.getD 119 [], ag_CW 119 q.1 q.2.1 q.2.2.1 q.2.2.2 := List.forall_mem_cons.mpr ⟨(show ag_CW 119 80 101 3 1 from ⟨by decide, by decide, by decide, rfl, rfl, by decide, rfl, ag_lk_6_80_101⟩), fun _ h => absurd h List.not_mem_nil⟩
theorem ag_cws_120 : ∀ q ∈ ag_ml_l.getD 120 [], ag_CW 120 q.1 q.2.1 q.2.2.1 q.2.2.2 := fun _ h => absurd h List.not_mem_nil
theorem ag_cws_121 : ∀ q ∈ ag_ml_l.getD 121 [], ag_CW 121 q.1 q.2.1 q.2.2.1 q.2.2.2 := List.forall_mem_cons.mpr ⟨(show ag_CW 121 80 101 3 1 from ⟨by decide, by decide, by decide, rfl, rfl, by decide, rfl, ag_lk_6_80_101⟩), List.forall_mem_cons.mpr ⟨(show ag_CW 121 84 103 2 0 from ⟨by decide, by decide, by decide, rfl, rfl, ag_lk_6_84_103⟩), List.forall_mem_cons.mpr ⟨(show ag_CW 121 88 105 2 0 from ⟨by decide, by decide, by decide, rfl, rfl, ag_lk_6_88_105⟩), List.forall_mem_cons.mpr ⟨(show ag_CW 121 135 1 2 6 from ⟨rfl, ag_lk_6_135_1⟩), fun _ h => absurd h List.not_mem_nil⟩⟩⟩⟩
theorem ag_cws_122 : ∀ q ∈ ag_ml_l.getD 122 [], ag_CW 122 q.1 q.2.1 q.2.2.1 q.2.2.2 := List.forall_mem_cons.mpr ⟨(show ag_CW 122 140 121 3 0 from ⟨by decide, by decide, by decide, rfl, rfl, ag_lk_6_140_121⟩), fun _ h => absurd h List.not_mem_nil⟩
theorem ag_cws_123 : ∀ q ∈ ag_ml_l.getD 123 [], ag_CW 123 q.1 q.2.1 q.2.2.1 q.2.2.2 := List.forall_mem_cons.mpr ⟨(show ag_CW 123 144 120 2 0 from ⟨by decide, by decide, by decide, rfl, rfl, ag_lk_6_144_120⟩), List.forall_mem_cons.mpr ⟨(show ag_CW 123 147 122 4 0 from ⟨by decide, by decide, by decide, rfl, rfl, ag_lk_6_147_122⟩), fun _ h => absurd h List.not_mem_nil⟩⟩
theorem ag_cws_124 : ∀ q ∈ ag_ml_l.getD 124 [], ag_CW 124 q.1 q.2.1 q.2.2.1 q.2.2.2 := fun _ h => absurd h List.not_mem_nil
theorem ag_cws_125 : ∀ q ∈ ag_ml_l.getD 125 [], ag_CW 125 q.1 q.2.1 q.2.2.1 q.2.2.2 := List.forall_mem_cons.mpr ⟨(show ag_CW 125 80 101 3 1 from ⟨by decide, by decide, by decide, rfl, rfl, by decide, rfl, ag_lk_6_80_101⟩), List.forall_mem_cons.mpr ⟨(show ag_CW 125 95 104 2 0 from ⟨by decide, by decide, by decide, rfl, rfl, ag_lk_6_95_104⟩), List.forall_mem_cons.mpr ⟨(show ag_CW 125 99 99 2 0 from ⟨by decide, by decide, by decide, rfl, rfl, ag_lk_6_99_99⟩), List.forall_mem_cons.mpr ⟨(show ag_CW 125 147 122 4 0 from ⟨by decide, by decide, by decide, rfl, rfl, ag_lk_6_147_122⟩), List.forall_mem_cons.mpr ⟨(show ag_CW 125 150 124 4 0 from ⟨by decide, by decide, by decide, rfl, rfl, ag_lk_6_150_124⟩), fun _ h => absurd h List.not_mem_nil⟩⟩⟩⟩⟩
theorem ag_cws_126 : ∀ q ∈ ag_ml_l.getD 126 [], ag_CW 126 q.1 q.2.1 q.2.2.1 q.2.2.2 := List.forall_mem_cons.mpr ⟨(show ag_CW 126 80 101 3 1 from ⟨by decide, by decide, by decide, rfl, rfl, by decide, rfl, ag_lk_6_80_101⟩), List.forall_mem_cons.mpr ⟨(show ag_CW 126 99 99 2 0 from ⟨by decide, by decide, by decide, rfl, rfl, ag_lk_6_99_99⟩), List.forall_mem_cons.mpr ⟨(show ag_CW 126 144 120 2 0 from ⟨by decide, by decide, by decide, rfl, rfl, ag_lk_6_144_120⟩), List.forall_mem_cons.mpr ⟨(show ag_CW 126 150 124 4 0 from ⟨by decide, by decide, by decide, rfl, rfl, ag_lk_6_150_124⟩), List.forall_mem_cons.mpr ⟨(show ag_CW 126 154 119 2 0 from ⟨by decide, by decide, by decide, rfl, rfl, ag_lk_6_154_119⟩), fun _ h => absurd h List.not_mem_nil⟩⟩⟩⟩⟩
theorem ag_cws_127 : ∀ q ∈ ag_ml_l.getD 127 [], ag_CW 127 q.1 q.2.1 q.2.2.1 q.2.2.2 := List.forall_mem_cons.mpr ⟨(show ag_CW 127 144 120 2 0 from ⟨by decide, by decide, by decide, rfl, rfl, ag_lk_6_144_120⟩), List.forall_mem_cons.mpr ⟨(show ag_CW 127 157 128 4 0 from ⟨by decide, by decide, by decide, rfl, rfl, ag_lk_6_157_128⟩), fun _ h => absurd h List.not_mem_nil⟩⟩
theorem ag_cws_128 : ∀ q ∈ ag_ml_l.getD 128 [], ag_CW 128 q.1 q.2.1 q.2.2.1 q.2.2.2 := List.forall_mem_cons.mpr ⟨(show ag_CW 128 144 120 2 0 from ⟨by decide, by decide, by decide, rfl, rfl, ag_lk_6_144_120⟩), List.forall_mem_cons.mpr ⟨(show ag_CW 128 157 129 4 0 from ⟨by decide, by decide, by decide, rfl, rfl, ag_lk_6_157_129⟩), fun _ h => absurd h List.not_mem_nil⟩⟩
theorem ag_cws_129 : ∀ q ∈ ag_ml_l.getD 129 [], ag_CW 129 q.1 q.2.1 q.2.2.1 q.2.2.2 := List.forall_mem_cons.mpr ⟨(show ag_CW 129 144 120 2 0 from ⟨by decide, by decide, by decide, rfl, rfl, ag_lk_6_144_120⟩), fun _ h => absurd h List.not_mem_nil⟩
theorem ag_cws_130 : ∀ q ∈ ag_ml_l.getD 130 [], ag_CW 130 q.1 q.2.1 q.2.2.1 q.2.2.2 := List.forall_mem_cons.mpr ⟨(show ag_CW 130 99 99 2 0 from ⟨by decide, by decide, by decide, rfl, rfl, ag_lk_6_99_99⟩), List.forall_mem_cons.mpr ⟨(show ag_CW 130 144 120 2 0 from ⟨by decide, by decide, by decide, rfl, rfl, ag_lk_6_144_120⟩), List.forall_mem_cons.mpr ⟨(show ag_CW 130 154 119 2 0 from ⟨by decide, by decide, by decide, rfl, rfl, ag_lk_6_154_119⟩), List.forall_mem_cons.mpr ⟨(show ag_CW 130 157 127 4 0 from ⟨by decide, by decide, by decide, rfl, rfl, ag_lk_6_157_127⟩), fun _ h => absurd h List.not_mem_nil⟩⟩⟩⟩
theorem ag_cws_131 : ∀ q ∈ ag_ml_l.getD 131 [], ag_CW 131 q.1 q.2.1 q.2.2.1 q.2.2.2 := fun _ h => absurd h List.not_mem_nil
theorem ag_cws_132 : ∀ q ∈ ag_ml_l.getD 132 [], ag_CW 132 q.1 q.2.1 q.2.2.1 q.2.2.2 := List.forall_mem_cons.mpr ⟨(show ag_CW 132 80 101 3 1 from ⟨by decide, by decide, by decide, rfl, rfl, by decide, rfl, ag_lk_6_80_101⟩), List.forall_mem_cons.mpr ⟨(show ag_CW 132 99 99 2 0 from ⟨by decide, by decide, by decide, rfl, rfl, ag_lk_6_99_99⟩), List.forall_mem_cons.mpr ⟨(show ag_CW 132 154 119 2 0 from ⟨by decide, by decide, by decide, rfl, rfl, ag_lk_6_154_119⟩), List.forall_mem_cons.mpr ⟨(show ag_CW 132 160 131 3 0 from ⟨by decide, by decide, by decide, rfl, rfl, ag_lk_6_160_131⟩), fun _ h => absurd h List.not_mem_nil⟩⟩⟩⟩
theorem ag_cws_133 : ∀ q ∈ ag_ml_l.getD 133 [], ag_CW 133 q.1 q.2.1 q.2.2.1 q.2.2.2 := List.forall_mem_cons.mpr ⟨(show ag_CW 133 84 103 2 0 from ⟨by decide, by decide, by decide, rfl, rfl, ag_lk_6_84_103⟩), List.forall_mem_cons.mpr ⟨(show ag_CW 133 144 120 2 0 from ⟨by decide, by decide, by decide, rfl, rfl, ag_lk_6_144_120⟩), fun _ h => absurd h List.not_mem_nil⟩⟩
theorem ag_cws_134 : ∀ q ∈ ag_ml_l.getD 134 [], ag_CW 134 q.1 q.2.1 q.2.2.1 q.2.2.2 := List.forall_mem_cons.mpr ⟨(show ag_CW 134 163 133 1 0 from ⟨by decide, by decide, by decide, rfl, rfl, ag_lk_6_163_133⟩), List.forall_mem_cons.mpr ⟨(show ag_CW 134 166 100 2 0 from ⟨by decide, by decide, by decide, rfl, rfl, ag_lk_6_166_100⟩), fun _ h => absurd h List.not_mem_nil⟩⟩
theorem ag_cws_135 : ∀ q ∈ ag_ml_l.getD 135 [], ag_CW 135 q.1 q.2.1 q.2.2.1 q.2.2.2 := List.forall_mem_cons.mpr ⟨(show ag_CW 135 154 119 2 0 from ⟨by decide, by decide, by decide, rfl, rfl, ag_lk_6_154_119⟩), List.forall_mem_cons.mpr ⟨(show ag_CW 135 169 123 2 0 from ⟨by decide, by decide, by decide, rfl, rfl, ag_lk_6_169_123⟩), fun _ h => absurd h List.not_mem_nil⟩⟩
theorem ag_cws_136 : ∀ q ∈ ag_ml_l.getD 136 [], ag_CW 136 q.1 q.2.1 q.2.2.1 q.2.2.2 := List.forall_mem_cons.mpr ⟨(show ag_CW 136 84 103 2 0 from ⟨by decide, by decide, by decide, rfl, rfl, ag_lk_6_84_103⟩), List.forall_mem_cons.mpr ⟨(show ag_CW 136 171 107 2 0 from ⟨by decide, by decide, by decide, rfl, rfl, ag_lk_6_171_107⟩), fun _ h => absurd h List.not_mem_nil⟩⟩
theorem ag_cws_137 : ∀ q ∈ ag_ml_l.getD 137 [], ag_CW 137 q.1 q.2.1 q.2.2.1 q.2.2.2 := List.forall_mem_cons.mpr ⟨(show ag_CW 137 84 103 2 0 from ⟨by decide, by decide, by decide, rfl, rfl, ag_lk_6_84_103⟩), List.forall_mem_cons.mpr ⟨(show ag_CW 137 88 105 2 0 from ⟨by decide, by decide, by decide, rfl, rfl, ag_lk_6_88_105⟩), List.forall_mem_cons.mpr ⟨(show ag_CW 137 91 106 3 0 from ⟨by decide, by decide, by decide, rfl, rfl, ag_lk_6_91_106⟩), List.forall_mem_cons.mpr ⟨(show ag_CW 137 171 107 2 0 from ⟨by decide, by decide, by decide, rfl, rfl, ag_lk_6_171_107⟩), fun _ h => absurd h List.not_mem_nil⟩⟩⟩⟩
theorem ag_cws_138 : ∀ q ∈ ag_ml_l.getD 138 [], ag_CW 138 q.1 q.2.1 q.2.2.1 q.2.2.2 := List.forall_mem_cons.mpr ⟨(show ag_CW 138 84 103 2 0 from ⟨by decide, by decide, by decide, rfl, rfl, ag_lk_6_84_103⟩), List.forall_mem_cons.mpr ⟨(show ag_CW 138 88 105 2 0 from ⟨by decide, by decide, by decide, rfl, rfl, ag_lk_6_88_105⟩), List.forall_mem_cons.mpr ⟨(show ag_CW 138 105 108 5 0 from ⟨by decide, by decide, by decide, rfl, rfl, ag_lk_6_105_108⟩), fun _ h => absurd h List.not_mem_nil⟩⟩⟩
theorem ag_cws_139 : ∀ q ∈ ag_ml_l.getD 139 [], ag_CW 139 q.1 q.2.1 q.2.2.1 q.2.2.2 := List.forall_mem_cons.mpr ⟨(show ag_CW 139 84 103 2 0 from ⟨by decide, by decide, by decide, rfl, rfl, ag_lk_6_84_103⟩), List.forall_mem_cons.mpr ⟨(show ag_CW 139 88 105 2 0 from ⟨by decide, by decide, by decide, rfl, rfl, ag_lk_6_88_105⟩), List.forall_mem_cons.mpr ⟨(show ag_CW 139 105 108 5 0 from ⟨by decide, by decide, by decide, rfl, rfl, ag_lk_6_105_108⟩), List.forall_mem_cons.mpr ⟨(show ag_CW 139 175 136 2 0 from ⟨by decide, by decide, by decide, rfl, rfl, ag_lk_6_175_136⟩), List.forall_mem_cons.mpr ⟨(show ag_CW 139 179 137 3 0 from ⟨by decide, by decide, by decide, rfl, rfl, ag_lk_6_179_137⟩), List.forall_mem_cons.mpr ⟨(show ag_CW 139 183 138 2 0 from ⟨by decide, by decide, by decide, rfl, rfl, ag_lk_6_183_138⟩), fun _ h => absurd h List.not_mem_nil⟩⟩⟩⟩⟩⟩
theorem ag_cws_140 : ∀ q ∈ ag_ml_l.getD 140 [], ag_CW 140 q.1 q.2.1 q.2.2.1 q.2.2.2 := List.forall_mem_cons.mpr ⟨(show ag_CW 140 80 101 3 1 from ⟨by decide, by decide, by decide, rfl, rfl, by decide, rfl, ag_lk_6_80_101⟩), List.forall_mem_cons.mpr ⟨(show ag_CW 140 84 103 2 0 from ⟨by decide, by decide, by decide, rfl, rfl, ag_lk_6_84_103⟩), List.forall_mem_cons.mpr ⟨(show ag_CW 140 144 120 2 0 from ⟨by decide, by decide, by decide, rfl, rfl, ag_lk_6_144_120⟩), List.forall_mem_cons.mpr ⟨(show ag_CW 140 157 127 4 0 from ⟨by decide, by decide, by decide, rfl, rfl, ag_lk_6_157_127⟩), List.forall_mem_cons.mpr ⟨(show ag_CW 140 186 139 2 0 from ⟨by decide, by decide, by decide, rfl, rfl, ag_lk_6_186_139⟩), fun _ h => absurd h List.not_mem_nil⟩⟩⟩⟩⟩
theorem ag_cws_141 : ∀ q ∈ ag_ml_l.getD 141 [], ag_CW 141 q.1 q.2.1 q.2.2.1 q.2.2.2 := List.forall_mem_cons.mpr ⟨(show ag_CW 141 122 115 1 0 from ⟨by decide, by decide, by decide, rfl, rfl, ag_lk_6_122_115⟩), fun _ h => absurd h List.not_mem_nil⟩
theorem ag_cws_142 : ∀ q ∈ ag_ml_l.getD 142 [], ag_CW 142 q.1 q.2.1 q.2.2.1 q.2.2.2 := List.forall_mem_cons.mpr ⟨(show ag_CW 142 157 127 4 0 from ⟨by decide, by decide, by decide, rfl, rfl, ag_lk_6_157_127⟩), List.forall_mem_cons.mpr ⟨(show ag_CW 142 169 123 2 0 from ⟨by decide, by decide, by decide, rfl, rfl, ag_lk_6_169_123⟩), List.forall_mem_cons.mpr ⟨(show ag_CW 142 192 141 3 0 from ⟨by decide, by decide, by decide, rfl, rfl, ag_lk_6_192_141⟩), List.forall_mem_cons.mpr ⟨(show ag_CW 142 195 140 2 0 from ⟨by decide, by decide, by decide, rfl, rfl, ag_lk_6_195_140⟩), fun _ h => absurd h List.not_mem_nil⟩⟩⟩⟩
theorem ag_cws_143 : ∀ q ∈ ag_ml_l.getD 143 [], ag_CW 143 q.1 q.2.1 q.2.2.1 q.2.2.2 := List.forall_mem_cons.mpr ⟨(show ag_CW 143 80 101 3 1 from ⟨by decide, by decide, by decide, rfl, rfl, by decide, rfl, ag_lk_6_80_101⟩), List.forall_mem_cons.mpr ⟨(show ag_CW 143 99 99 2 0 from ⟨by decide, by decide, by decide, rfl, rfl, ag_lk_6_99_99⟩), fun _ h => absurd h List.not_mem_nil⟩⟩
theorem ag_cws_144 : ∀ q ∈ ag_ml_l.getD 144 [], ag_CW 144 q.1 q.2.1 q.2.2.1 q.2.2.2 := List.forall_mem_cons.mpr ⟨(show ag_CW 144 80 101 3 1 from ⟨by decide, by decide, by decide, rfl, rfl, by decide, rfl, ag_lk_6_80_101⟩), fun _ h => absurd h List.not_mem_nil⟩
theorem ag_cws_145 : ∀ q ∈ ag_ml_l.getD 145 [], ag_CW 145 q.1 q.2.1 q.2.2.1 q.2.2.2 := List.forall_mem_cons.mpr ⟨(show ag_CW 145 80 101 3 1 from ⟨by decide, by decide, by decide, rfl, rfl, by decide, rfl, ag_lk_6_80_101⟩), List.forall_mem_cons.mpr ⟨(show ag_CW 145 99 99 2 0 from ⟨by decide, by decide, by decide, rfl, rfl, ag_lk_6_99_99⟩), List.forall_mem_cons.mpr ⟨(show ag_CW 145 144 120 2 0 from ⟨by decide, by decide, by decide, rfl, rfl, ag_lk_6_144_120⟩), List.forall_mem_cons.mpr ⟨(show ag_CW 145 154 119 2 0 from ⟨by decide, by decide, by decide, rfl, rfl, ag_lk_6_154_119⟩), List.forall_mem_cons.mpr ⟨(show ag_CW 145 198 144 2 0 from ⟨by decide, by decide, by decide, rfl, rfl, ag_lk_6_198_144⟩), fun _ h => absurd h List.not_mem_nil⟩⟩⟩⟩⟩
theorem ag_cws_146 : ∀ q ∈ ag_ml_l.getD 146 [], ag_CW 146 q.1 q.2.1 q.2.2.1 q.2.2.2 := List.forall_mem_cons.mpr ⟨(show ag_CW 146 80 101 3 1 from ⟨by decide, by decide, by decide, rfl, rfl, by decide, rfl, ag_lk_6_80_101⟩), List.forall_mem_cons.mpr ⟨(show ag_CW 146 99 99 2 0 from ⟨by decide, by decide, by decide, rfl, rfl, ag_lk_6_99_99⟩), fun _ h => absurd h List.not_mem_nil⟩⟩
theorem ag_cws_147 : ∀ q ∈ ag_ml_l.getD 147 [], ag_CW 147 q.1 q.2.1 q.2.2.1 q.2.2.2 := List.forall_mem_cons.mpr ⟨(show ag_CW 147 80 101 3 1 from ⟨by decide, by decide, by decide, rfl, rfl, by decide, rfl, ag_lk_6_80_101⟩), List.forall_mem_cons.mpr ⟨(show ag_CW 147 99 99 2 0 from ⟨by decide, by decide, by decide, rfl, rfl, ag_lk_6_99_99⟩), List.forall_mem_cons.mpr ⟨(show ag_CW 147 122 115 1 0 from ⟨by decide, by decide, by decide, rfl, rfl, ag_lk_6_122_115⟩), List.forall_mem_cons.mpr ⟨(show ag_CW 147 135 1 2 6 from ⟨rfl, ag_lk_6_135_1⟩), fun _ h => absurd h List.not_mem_nil⟩⟩⟩⟩
theorem ag_cws_148 : ∀ q ∈ ag_ml_l.getD 148 [], ag_CW 148 q.1 q.2.1 q.2.2.1 q.2.2.2 := List.forall_mem_cons.mpr ⟨(show ag_CW 148 99 99 2 0 from ⟨by decide, by decide, by decide, rfl, rfl, ag_lk_6_99_99⟩), List.forall_mem_cons.mpr ⟨(show ag_CW 148 163 133 1 0 from ⟨by decide, by decide, by decide, rfl, rfl, ag_lk_6_163_133⟩), List.forall_mem_cons.mpr ⟨(show ag_CW 148 198 144 2 0 from ⟨by decide, by decide, by decide, rfl, rfl, ag_lk_6_198_144⟩), fun _ h => absurd h List.not_mem_nil⟩⟩⟩
theorem ag_cws_149 : ∀ q ∈ ag_ml_l.getD 149 [], ag_CW 149 q.1 q.2.1 q.2.2.1 q.2.2.2 := List.forall_mem_cons.mpr ⟨(show ag_CW 149 99 99 2 0 from ⟨by decide, by decide, by decide, rfl, rfl, ag_lk_6_99_99⟩), List.forall_mem_cons.mpr ⟨(show ag_CW 149 163 133 1 0 from ⟨by decide, by decide, by decide, rfl, rfl, ag_lk_6_163_133⟩), List.forall_mem_cons.mpr ⟨(show ag_CW 149 201 142 3 0 from ⟨by decide, by decide, by decide, rfl, rfl, ag_lk_6_201_142⟩), fun _ h => absurd h List.not_mem_nil⟩⟩⟩
theorem ag_cws_150 : ∀ q ∈ ag_ml_l.getD 150 [], ag_CW 150 q.1 q.2.1 q.2.2.1 q.2.2.2 := fun _ h => absurd h List.not_mem_nil
theorem ag_cws_151 : ∀ q ∈ ag_ml_l.getD 151 [], ag_CW 151 q.1 q.2.1 q.2.2.1 q.2.2.2 := List.forall_mem_cons.mpr ⟨(show ag_CW 151 80 101 3 1 from ⟨by decide, by decide, by decide, rfl, rfl, by decide, rfl, ag_lk_6_80_101⟩), List.forall_mem_cons.mpr ⟨(show ag_CW 151 99 99 2 0 from ⟨by decide, by decide, by decide, rfl, rfl, ag_lk_6_99_99⟩), List.forall_mem_cons.mpr ⟨(show ag_CW 151 198 144 2 0 from ⟨by decide, by decide, by decide, rfl, rfl, ag_lk_6_198_144⟩), List.forall_mem_cons.mpr ⟨(show ag_CW 151 204 150 3 0 from ⟨by decide, by decide, by decide, rfl, rfl, ag_lk_6_204_150⟩), fun _ h => absurd h List.not_mem_nil⟩⟩⟩⟩
theorem ag_cws_152 : ∀ q ∈ ag_ml_l.getD 152 [], ag_CW 152 q.1 q.2.1 q.2.2.1 q.2.2.2 := List.forall_mem_cons.mpr ⟨(show ag_CW 152 80 101 3 1 from ⟨by decide, by decide, by decide, rfl, rfl, by decide, rfl, ag_lk_6_80_101⟩), List.forall_mem_cons.mpr ⟨(show ag_CW 152 95 104 2 0 from ⟨by decide, by decide, by decide, rfl, rfl, ag_lk_6_95_104⟩), List.forall_mem_cons.mpr ⟨(show ag_CW 152 99 99 2 0 from ⟨by decide, by decide, by decide, rfl, rfl, ag_lk_6_99_99⟩), fun _ h => absurd h List.not_mem_nil⟩⟩⟩
theorem ag_cws_153 : ∀ q ∈ ag_ml_l.getD 153 [], ag_CW 153 q.1 q.2.1 q.2.2.1 q.2.2.2 := List.forall_mem_cons.mpr ⟨(show ag_CW 153 80 101 3 1 from ⟨by decide, by decide, by decide, rfl, rfl, by decide, rfl, ag_lk_6_80_101⟩), List.forall_mem_cons.mpr ⟨(show ag_CW 153 99 99 2 0 from ⟨by decide, by decide, by decide, rfl, rfl, ag_lk_6_99_99⟩), fun _ h => absurd h List.not_mem_nil⟩⟩
theorem ag_cws_154 : ∀ q ∈ ag_ml_l.getD 154 [], ag_CW 154 q.1 q.2.1 q.2.2.1 q.2.2.2 := fun _ h => absurd h List.not_mem_nil
theorem ag_cws_155 : ∀ q ∈ ag_ml_l.getD 155 [], ag_CW 155 q.1 q.2.1 q.2.2.1 q.2.2.2 := List.forall_mem_cons.mpr ⟨(show ag_CW 155 208 102 1 1 from ⟨by decide, by decide, by decide, rfl, rfl, by decide, rfl, ag_lk_6_208_102⟩), fun _ h => absurd h List.not_mem_nil⟩
theorem ag_cws_156 : ∀ q ∈ ag_ml_l.getD 156 [], ag_CW 156 q.1 q.2.1 q.2.2.1 q.2.2.2 := fun _ h => absurd h List.not_mem_nil
theorem ag_cws_157 : ∀ q ∈ ag_ml_l.getD 157 [], ag_CW 157 q.1 q.2.1 q.2.2.1 q.2.2.2 := List.forall_mem_cons.mpr ⟨(show ag_CW 157 154 119 2 0 from ⟨by decide, by decide, by decide, rfl, rfl, ag_lk_6_154_119⟩), List.forall_mem_cons.mpr ⟨(show ag_CW 157 192 141 3 0 from ⟨by decide, by decide, by decide, rfl, rfl, ag_lk_6_192_141⟩), fun _ h => absurd h List.not_mem_nil⟩⟩
theorem ag_cws_158 : ∀ q ∈ ag_ml_l.getD 158 [], ag_CW 158 q.1 q.2.1 q.2.2.1 q.2.2.2 := List.forall_mem_cons.mpr ⟨(show ag_CW 158 169 123 2 0 from ⟨by decide, by decide, by decide, rfl, rfl, ag_lk_6_169_123⟩), List.forall_mem_cons.mpr ⟨(show ag_CW 158 195 140 2 0 from ⟨by decide, by decide, by decide, rfl, rfl, ag_lk_6_195_140⟩), List.forall_mem_cons.mpr ⟨(show ag_CW 158 212 155 1 0 from ⟨by decide, by decide, by decide, rfl, rfl, ag_lk_6_212_155⟩), List.forall_mem_cons.mpr ⟨(show ag_CW 158 216 156 2 0 from ⟨by decide, by decide, by decide, rfl, rfl, ag_lk_6_216_156⟩), fun _ h => absurd h List.not_mem_nil⟩⟩⟩⟩
theorem ag_cws_159 : ∀ q ∈ ag_ml_l.getD 159 [], ag_CW 159 q.1 q.2.1 q.2.2.1 q.2.2.2 := List.forall_mem_cons.mpr ⟨(show ag_CW 159 99 99 2 0 from ⟨by decide, by decide, by decide, rfl, rfl, ag_lk_6_99_99⟩), List.forall_mem_cons.mpr ⟨(show ag_CW 159 154 119 2 0 from ⟨by decide, by decide, by decide, rfl, rfl, ag_lk_6_154_119⟩), List.forall_mem_cons.mpr ⟨(show ag_CW 159 220 158 2 0 from ⟨by decide, by decide, by decide, rfl, rfl, ag_lk_6_220_158⟩), fun _ h => absurd h List.not_mem_nil⟩⟩⟩
theorem ag_cws_160 : ∀ q ∈ ag_ml_l.getD 160 [], ag_CW 160 q.1 q.2.1 q.2.2.1 q.2.2.2 := List.forall_mem_cons.mpr ⟨(show ag_CW 160 68 2 5 7 from ⟨rfl, ag_lk_6_68_2⟩), List.forall_mem_cons.mpr ⟨(show ag_CW 160 163 133 1 0 from ⟨by decide, by decide, by decide, rfl, rfl, ag_lk_6_163_133⟩), List.forall_mem_cons.mpr ⟨(show ag_CW 160 201 142 3 0 from ⟨by decide, by decide, by decide, rfl, rfl, ag_lk_6_201_142⟩), fun _ h => absurd h List.not_mem_nil⟩⟩⟩
theorem ag_cws_161 : ∀ q ∈ ag_ml_l.getD 161 [], ag_CW 161 q.1 q.2.1 q.2.2.1 q.2.2.2 := List.forall_mem_cons.mpr ⟨(show ag_CW 161 212 155 1 0 from ⟨by decide, by decide, by decide, rfl, rfl, ag_lk_6_212_155⟩), List.forall_mem_cons.mpr ⟨(show ag_CW 161 216 156 2 0 from ⟨by decide, by decide, by decide, rfl, rfl, ag_lk_6_216_156⟩), List.forall_mem_cons.mpr ⟨(show ag_CW 161 223 160 2 0 from ⟨by decide, by decide, by decide, rfl, rfl, ag_lk_6_223_160⟩), fun _ h => absurd h List.not_mem_nil⟩⟩⟩
theorem ag_cws_162 : ∀ q ∈ ag_ml_l.getD 162 [], ag_CW 162 q.1 q.2.1 q.2.2.1 q.2.2.2 := List.forall_mem_cons.mpr ⟨(show ag_CW 162 166 100 2 0 from ⟨by decide, by decide, by decide, rfl, rfl, ag_lk_6_166_100⟩), List.forall_mem_cons.mpr ⟨(show ag_CW 162 226 161 1 0 from ⟨by decide, by decide, by decide, rfl, rfl, ag_lk_6_226_161⟩), fun _ h => absurd h List.not_mem_nil⟩⟩
theorem ag_cws_163 : ∀ q ∈ ag_ml_l.getD 163 [], ag_CW 163 q.1 q.2.1 q.2.2.1 q.2.2.2 := List.forall_mem_cons.mpr ⟨(show ag_CW 163 212 155 1 0 from ⟨by decide, by decide, by decide, rfl, rfl, ag_lk_6_212_155⟩), List.forall_mem_cons.mpr ⟨(show ag_CW 163 216 156 2 0 from ⟨by decide, by decide, by decide, rfl, rfl, ag_lk_6_216_156⟩), List.forall_mem_cons.mpr ⟨(show ag_CW 163 223 160 2 0 from ⟨by decide, by decide, by decide, rfl, rfl, ag_lk_6_223_160⟩), fun _ h => absurd h List.not_mem_nil⟩⟩⟩
theorem ag_cws_164 : ∀ q ∈ ag_ml_l.getD 164 [], ag_CW 164 q.1 q.2.1 q.2.2.1 q.2.2.2 := List.forall_mem_cons.mpr ⟨(show ag_CW 164 99 99 2 0 from ⟨by decide, by decide, by decide, rfl, rfl, ag_lk_6_99_99⟩), List.forall_mem_cons.mpr ⟨(show ag_CW 164 198 144 2 0 from ⟨by decide, by decide, by decide, rfl, rfl, ag_lk_6_198_144⟩), List.forall_mem_cons.mpr ⟨(show ag_CW 164 229 163 2 0 from ⟨by decide, by decide, by decide, rfl, rfl, ag_lk_6_229_163⟩), fun _ h => absurd h List.not_mem_nil⟩⟩⟩
theorem ag_cws_165 : ∀ q ∈ ag_ml_l.getD 165 [], ag_CW 165 q.1 q.2.1 q.2.2.1 q.2.2.2 := List.forall_mem_cons.mpr ⟨(show ag_CW 165 80 101 3 1 from ⟨by decide, by decide, by decide, rfl, rfl, by decide, rfl, ag_lk_6_80_101⟩), List.forall_mem_cons.mpr ⟨(show ag_CW 165 99 99 2 0 from ⟨by decide, by decide, by decide, rfl, rfl, ag_lk_6_99_99⟩), List.forall_mem_cons.mpr ⟨(show ag_CW 165 212 155 1 0 from ⟨by decide, by decide, by decide, rfl, rfl, ag_lk_6_212_155⟩), List.forall_mem_cons.mpr ⟨(show ag_CW 165 216 156 2 0 from ⟨by decide, by decide, by decide, rfl, rfl, ag_lk_6_216_156⟩), List.forall_mem_cons.mpr ⟨(show ag_CW 165 223 160 2 0 from ⟨by decide, by decide, by decide, rfl, rfl, ag_lk_6_223_160⟩), fun _ h => absurd h List.not_mem_nil⟩⟩⟩⟩⟩
theorem ag_cws_166 : ∀ q ∈ ag_ml_l.getD 166 [], ag_CW 166 q.1 q.2.1 q.2.2.1 q.2.2.2 := List.forall_mem_cons.mpr ⟨(show ag_CW 166 115 111 3 0 from ⟨by decide, by decide, by decide, rfl, rfl, ag_lk_6_115_111⟩), List.forall_mem_cons.mpr ⟨(show ag_CW 166 132 117 2 0 from ⟨by decide, by decide, by decide, rfl, rfl, ag_lk_6_132_117⟩), List.forall_mem_cons.mpr ⟨(show ag_CW 166 160 131 3 0 from ⟨by decide, by decide, by decide, rfl, rfl, ag_lk_6_160_131⟩), List.forall_mem_cons.mpr ⟨(show ag_CW 166 163 133 1 0 from ⟨by decide, by decide, by decide, rfl, rfl, ag_lk_6_163_133⟩), List.forall_mem_cons.mpr ⟨(show ag_CW 166 204 150 3 0 from ⟨by decide, by decide, by decide, rfl, rfl, ag_lk_6_204_150⟩), List.forall_mem_cons.mpr ⟨(show ag_CW 166 220 158 2 0 from ⟨by decide, by decide, by decide, rfl, rfl, ag_lk_6_220_158⟩), List.forall_mem_cons.mpr ⟨(show ag_CW 166 226 161 1 0 from ⟨by decide, by decide, by decide, rfl, rfl, ag_lk_6_226_161⟩), List.forall_mem_cons.mpr ⟨(show ag_CW 166 229 163 2 0 from ⟨by decide, by decide, by decide, rfl, rfl, ag_lk_6_229_163⟩), fun _ h => absurd h List.not_mem_nil⟩⟩⟩⟩⟩⟩⟩⟩
theorem ag_cws_167 : ∀ q ∈ ag_ml_l.getD 167 [], ag_CW 167 q.1 q.2.1 q.2.2.1 q.2.2.2 := List.forall_mem_cons.mpr ⟨(show ag_CW 167 7 59 3 0 from ⟨by decide, by decide, by decide, rfl, rfl, ag_lk_7_7_59⟩), fun _ h => absurd h List.not_mem_nil⟩
theorem ag_cws_168 : ∀ q ∈ ag_ml_l.getD 168 [], ag_CW 168 q.1 q.2.1 q.2.2.1 q.2.2.2 := List.forall_mem_cons.mpr ⟨(show ag_CW 168 19 60 3 0 from ⟨by decide, by decide, by decide, rfl, rfl, ag_lk_7_19_60⟩), fun _ h => absurd h List.not_mem_nil⟩
theorem ag_cws_169 : ∀ q ∈ ag_ml_l.getD 169 [], ag_CW 169 q.1 q.2.1 q.2.2.1 q.2.2.2 := List.forall_mem_cons.mpr ⟨(show ag_CW 169 22 61 2 0 from ⟨by decide, by decide, by decide, rfl, rfl, ag_lk_7_22_61⟩), fun _ h => absurd h List.not_mem_nil⟩
theorem ag_cws_170 : ∀ q ∈ ag_ml_l.getD 170 [], ag_CW 170 q.1 q.2.1 q.2.2.1 q.2.2.2 := List.forall_mem_cons.mpr ⟨(show ag_CW 170 26 62 2 0 from ⟨by decide, by decide, by decide, rfl, rfl, ag_lk_7_26_62⟩), fun _ h => absurd h List.not_mem_nil⟩
theorem ag_cws_171 : ∀ q ∈ ag_ml_l.getD 171 [], ag_CW 171 q.1 q.2.1 q.2.2.1 q.2.2.2 := List.forall_mem_cons.mpr ⟨(show ag_CW 171 29 63 4 0 from ⟨by decide, by decide, by decide, rfl, rfl, ag_lk_7_29_63⟩), fun _ h => absurd h List.not_mem_nil⟩
theorem ag_cws_172 : ∀ q ∈ ag_ml_l.getD 172 [], ag_CW 172 q.1 q.2.1 q.2.2.1 q.2.2.2 := List.forall_mem_cons.mpr ⟨(show ag_CW 172 33 64 3 0 from ⟨by decide, by decide, by decide, rfl, rfl, ag_lk_7_33_64⟩), fun _ h => absurd h List.not_mem_nil⟩
theorem ag_cws_173 : ∀ q ∈ ag_ml_l.getD 173 [], ag_CW 173 q.1 q.2.1 q.2.2.1 q.2.2.2 := List.forall_mem_cons.mpr ⟨(show ag_CW 173 36 65 2 0 from ⟨by decide, by decide, by decide, rfl, rfl, ag_lk_7_36_65⟩), fun _ h => absurd h List.not_mem_nil⟩
theorem ag_cws_174 : ∀ q ∈ ag_ml_l.getD 174 [], ag_CW 174 q.1 q.2.1 q.2.2.1 q.2.2.2 := List.forall_mem_cons.mpr ⟨(show ag_CW 174 39 66 3 0 from ⟨by decide, by decide, by decide, rfl, rfl, ag_lk_7_39_66⟩), fun _ h => absurd h List.not_mem_nil⟩
theorem ag_cws_175 : ∀ q ∈ ag_ml_l.getD 175 [], ag_CW 175 q.1 q.2.1 q.2.2.1 q.2.2.2 := List.forall_mem_cons.mpr ⟨(show ag_CW 175 42 68 2 0 from ⟨by decide, by decide, by decide, rfl, rfl, ag_lk_7_42_68⟩), fun _ h => absurd h List.not_mem_nil⟩
theorem ag_cws_176 : ∀ q ∈ ag_ml_l.getD 176 [], ag_CW 176 q.1 q.2.1 q.2.2.1 q.2.2.2 := List.forall_mem_cons.mpr ⟨(show ag_CW 176 46 69 2 0 from ⟨by decide, by decide, by decide, rfl, rfl, ag_lk_7_46_69⟩), fun _ h => absurd h List.not_mem_nil⟩
theorem ag_cws_177 : ∀ q ∈ ag_ml_l.getD 177 [], ag_CW 177 q.1 q.2.1 q.2.2.1 q.2.2.2 := List.forall_mem_cons.mpr ⟨(show ag_CW 177 49 70 4 0 from ⟨by decide, by decide, by decide, rfl, rfl, ag_lk_7_49_70⟩), fun _ h => absurd h List.not_mem_nil⟩
theorem ag_cws_178 : ∀ q ∈ ag_ml_l.getD 178 [], ag_CW 178 q.1 q.2.1 q.2.2.1 q.2.2.2 := List.forall_mem_cons.mpr ⟨(show ag_CW 178 52 71 2 0 from ⟨by decide, by decide, by decide, rfl, rfl, ag_lk_7_52_71⟩), fun _ h => absurd h List.not_mem_nil⟩
theorem ag_cws_179 : ∀ q ∈ ag_ml_l.getD 179 [], ag_CW 179 q.1 q.2.1 q.2.2.1 q.2.2.2 := List.forall_mem_cons.mpr ⟨(show ag_CW 179 55 72 2 0 from ⟨by decide, by decide, by decide, rfl, rfl, ag_lk_7_55_72⟩), fun _ h => absurd h List.not_mem_nil⟩
theorem ag_cws_180 : ∀ q ∈ ag_ml_l.getD 180 [], ag_CW 180 q.1 q.2.1 q.2.2.1 q.2.2.2 := List.forall_mem_cons.mpr ⟨(show ag_CW 180 58 73 3 0 from ⟨by decide, by decide, by decide, rfl, rfl, ag_lk_7_58_73⟩), fun _ h => absurd h List.not_mem_nil⟩
theorem ag_cws_181 : ∀ q ∈ ag_ml_l.getD 181 [], ag_CW 181 q.1 q.2.1 q.2.2.1 q.2.2.2 := List.forall_mem_cons.mpr ⟨(show ag_CW 181 61 74 1 0 from ⟨by decide, by decide, by decide, rfl, rfl, ag_lk_7_61_74⟩), fun _ h => absurd h List.not_mem_nil⟩
theorem ag_cws_182 : ∀ q ∈ ag_ml_l.getD 182 [], ag_CW 182 q.1 q.2.1 q.2.2.1 q.2.2.2 := List.forall_mem_cons.mpr ⟨(show ag_CW 182 65 75 3 0 from ⟨by decide, by decide, by decide, rfl, rfl, ag_lk_7_65_75⟩), fun _ h => absurd h List.not_mem_nil⟩
theorem ag_cws_183 : ∀ q ∈ ag_ml_l.getD 183 [], ag_CW 183 q.1 q.2.1 q.2.2.1 q.2.2.2 := List.forall_mem_cons.mpr ⟨(show ag_CW 183 68 76 3 0 from ⟨by decide, by decide, by decide, rfl, rfl, ag_lk_7_68_76⟩), fun _ h => absurd h List.not_mem_nil⟩
theorem ag_cws_184 : ∀ q ∈ ag_ml_l.getD 184 [], ag_CW 184 q.1 q.2.1 q.2.2.1 q.2.2.2 := List.forall_mem_cons.mpr ⟨(show ag_CW 184 71 77 2 0 from ⟨by decide, by decide, by decide, rfl, rfl, ag_lk_7_71_77⟩), fun _ h => absurd h List.not_mem_nil⟩
theorem ag_cws_185 : ∀ q ∈ ag_ml_l.getD 185 [], ag_CW 185 q.1 q.2.1 q.2.2.1 q.2.2.2 := List.forall_mem_cons.mpr ⟨(show ag_CW 185 74 79 2 0 from ⟨by decide, by decide, by decide, rfl, rfl, ag_lk_7_74_79⟩), fun _ h => absurd h List.not_mem_nil⟩
theorem ag_cws_186 : ∀ q ∈ ag_ml_l.getD 186 [], ag_CW 186 q.1 q.2.1 q.2.2.1 q.2.2.2 := List.forall_mem_cons.mpr ⟨(show ag_CW 186 77 80 2 0 from ⟨by decide, by decide, by decide, rfl, rfl, ag_lk_7_77_80⟩), fun _ h => absurd h List.not_mem_nil⟩
theorem ag_cws_187 : ∀ q ∈ ag_ml_l.getD 187 [], ag_CW 187 q.1 q.2.1 q.2.2.1 q.2.2.2 := List.forall_mem_cons.mpr ⟨(show ag_CW 187 80 82 2 0 from ⟨by decide, by decide, by decide, rfl, rfl, ag_lk_7_80_82⟩), fun _ h => absurd h List.not_mem_nil⟩
theorem ag_cws_188 : ∀ q ∈ ag_ml_l.getD 188 [], ag_CW 188 q.1 q.2.1 q.2.2.1 q.2.2.2 := List.forall_mem_cons.mpr ⟨(show ag_CW 188 83 83 2 0 from ⟨by decide, by decide, by decide, rfl, rfl, ag_lk_7_83_83⟩), fun _ h => absurd h List.not_mem_nil⟩
theorem ag_cws_189 : ∀ q ∈ ag_ml_l.getD 189 [], ag_CW 189 q.1 q.2.1 q.2.2.1 q.2.2.2 := List.forall_mem_cons.mpr ⟨(show ag_CW 189 86 58 1 3 from ⟨by decide, by decide, by decide, rfl, rfl, by decide, ag_lk_7_86_58⟩), List.forall_mem_cons.mpr ⟨(show ag_CW 189 89 97 1 3 from ⟨by decide, by decide, by decide, rfl, rfl, by decide, ag_lk_7_89_97⟩), List.forall_mem_cons.mpr ⟨(show ag_CW 189 90 167 4 8 from ⟨by decide, by decide, by decide, rfl, rfl, by decide, ag_lk_7_90_167⟩), List.forall_mem_cons.mpr ⟨(show ag_CW 189 95 109 3 0 from ⟨by decide, by decide, by decide, rfl, rfl, ag_lk_7_95_109⟩), List.forall_mem_cons.mpr ⟨(show ag_CW 189 96 98 1 0 from ⟨by decide, by decide, by decide, rfl, rfl, ag_lk_7_96_98⟩), List.forall_mem_cons.mpr ⟨(show ag_CW 189 99 168 4 8 from ⟨by decide, by decide, by decide, rfl, rfl, by decide, ag_lk_7_99_168⟩), List.forall_mem_cons.mpr ⟨(show ag_CW 189 101 112 3 0 from ⟨by decide, by decide, by decide, rfl, rfl, ag_lk_7_101_112⟩), List.forall_mem_cons.mpr ⟨(show ag_CW 189 102 169 3 8 from ⟨by decide, by decide, by decide, rfl, rfl, by decide, ag_lk_7_102_169⟩), List.forall_mem_cons.mpr ⟨(show ag_CW 189 105 113 2 0 from ⟨by decide, by decide, by decide, rfl, rfl, ag_lk_7_105_113⟩), List.forall_mem_cons.mpr ⟨(show ag_CW 189 106 170 3 8 from ⟨by decide, by decide, by decide, rfl, rfl, by decide, ag_lk_7_106_170⟩), List.forall_mem_cons.mpr ⟨(show ag_CW 189 108 118 2 0 from ⟨by decide, by decide, by decide, rfl, rfl, ag_lk_7_108_118⟩), List.forall_mem_cons.mpr ⟨(show ag_CW 189 109 171 5 8 from ⟨by decide, by decide, by decide, rfl, rfl, by decide, ag_lk_7_109_171⟩), List.forall_mem_cons.mpr ⟨(show ag_CW 189 112 125 4 0 from ⟨by decide, by decide, by decide, rfl, rfl, ag_lk_7_112_125⟩), List.forall_mem_cons.mpr ⟨(show ag_CW 189 113 172 4 8 from ⟨by decide, by decide, by decide, rfl, rfl, by decide, ag_lk_7_113_172⟩), List.forall_mem_cons.mpr ⟨(show ag_CW 189 115 126 3 0 from ⟨by decide, by decide, by decide, rfl, rfl, ag_lk_7_115_126⟩), List.forall_mem_cons.mpr ⟨(show ag_CW 189 116 173 3 8 from ⟨by decide, by decide, by decide, rfl, rfl, by decide, ag_lk_7_116_173⟩), List.forall_mem_cons.mpr ⟨(show ag_CW 189 118 130 2 0 from ⟨by decide, by decide, by decide, rfl, rfl, ag_lk_7_118_130⟩), List.forall_mem_cons.mpr ⟨(show ag_CW 189 119 174 4 8 from ⟨by decide, by decide, by decide, rfl, rfl, by decide, ag_lk_7_119_174⟩), List.forall_mem_cons.mpr ⟨(show ag_CW 189 121 132 3 0 from ⟨by decide, by decide, by decide, rfl, rfl, ag_lk_7_121_132⟩), List.forall_mem_cons.mpr ⟨(show ag_CW 189 122 67 1 0 from ⟨by decide, by decide, by decide, rfl, rfl, ag_lk_7_122_67⟩), List.forall_mem_cons.mpr ⟨(show ag_CW 189 125 134 1 0 from ⟨by decide, by decide, by decide, rfl, rfl, ag_lk_7_125_134⟩), List.forall_mem_cons.mpr ⟨(show ag_CW 189 126 175 3 8 from ⟨by decide, by decide, by decide, rfl, rfl, by decide, ag_lk_7_126_175⟩), List.forall_mem_cons.mpr ⟨(show ag_CW 189 128 135 2 0 from ⟨by decide, by decide, by decide, rfl, rfl, ag_lk_7_128_135⟩), List.forall_mem_cons.mpr ⟨(show ag_CW 189 129 176 3 8 from ⟨by decide, by decide, by decide, rfl, rfl, by decide, ag_lk_7_129_176⟩), List.forall_mem_cons.mpr ⟨(show ag_CW 189 131 143 2 0 from ⟨by decide, by decide, by decide, rfl, rfl, ag_lk_7_131_143⟩), List.forall_mem_cons.mpr ⟨(show ag_CW 189 132 177 5 8 from ⟨by decide, by decide, by decide, rfl, rfl, by decide, ag_lk_7_132_177⟩), List.forall_mem_cons.mpr ⟨(show ag_CW 189 134 145 4 0 from ⟨by decide, by decide, by decide, rfl, rfl, ag_lk_7_134_145⟩), List.forall_mem_cons.mpr ⟨(show ag_CW 189 135 178 3 8 from ⟨by decide, by decide, by decide, rfl, rfl, by decide, ag_lk_7_135_178⟩), List.forall_mem_cons.mpr ⟨(show ag_CW 189 137 146 2 0 from ⟨by decide, by decide, by decide, rfl, rfl, ag_lk_7_137_146⟩), List.forall_mem_cons.mpr ⟨(show ag_CW 189 138 179 3 8 from ⟨by decide, by decide, by decide, rfl, rfl, by decide, ag_lk_7_138_179⟩), List.forall_mem_cons.mpr ⟨(show ag_CW 189 140 147 2 0 from ⟨by decide, by decide, by decide, rfl, rfl, ag_lk_7_140_147⟩), List.forall_mem_cons.mpr ⟨(show ag_CW 189 141 180 4 8 from ⟨by decide, by decide, by decide, rfl, rfl, by decide, ag_lk_7_141_180⟩), List.forall_mem_cons.mpr ⟨(show ag_CW 189 143 148 3 0 from ⟨by decide, by decide, by decide, rfl, rfl, ag_lk_7_143_148⟩), List.forall_mem_cons.mpr ⟨(show ag_CW 189 144 181 2 8 from ⟨by decide, by decide, by decide, rfl, rfl, by decide, ag_lk_7_144_181⟩), List.forall_mem_cons.mpr ⟨(show ag_CW 189 147 149 1 0 from ⟨by decide, by decide, by decide, rfl, rfl, ag_lk_7_147_149⟩), List.forall_mem_cons.mpr ⟨(show ag_CW 189 148 182 4 8 from ⟨by decide, by decide, by decide, rfl, rfl, by decide, ag_lk_7_148_182⟩), List.forall_mem_cons.mpr ⟨(show ag_CW 189 150 151 3 0 from ⟨by decide, by decide, by decide, rfl, rfl, ag_lk_7_150_151⟩), List.forall_mem_cons.mpr ⟨(show ag_CW 189 151 183 4 8 from ⟨by decide, by decide, by decide, rfl, rfl, by decide, ag_lk_7_151_183⟩), List.forall_mem_cons.mpr ⟨(show ag_CW 189 153 152 3 0 from ⟨by decide, by decide, by decide, rfl, rfl, ag_lk_7_153_152⟩), List.forall_mem_cons.mpr ⟨(show ag_CW 189 154 184 3 8 from ⟨by decide, by decide, by decide, rfl, rfl, by decide, ag_lk_7_154_184⟩), List.forall_mem_cons.mpr ⟨(show ag_CW 189 156 153 2 0 from ⟨by decide, by decide, by decide, rfl, rfl, ag_lk_7_156_153⟩), List.forall_mem_cons.mpr ⟨(show ag_CW 189 157 78 1 0 from ⟨by decide, by decide, by decide, rfl, rfl, ag_lk_7_157_78⟩), List.forall_mem_cons.mpr ⟨(show ag_CW 189 161 154 1 0 from ⟨by decide, by decide, by decide, rfl, rfl, ag_lk_7_161_154⟩), List.forall_mem_cons.mpr ⟨(show ag_CW 189 162 185 3 8 from ⟨by decide, by decide, by decide, rfl, rfl, by decide, ag_lk_7_162_185⟩), List.forall_mem_cons.mpr ⟨(show ag_CW 189 164 157 2 0 from ⟨by decide, by decide, by decide, rfl, rfl, ag_lk_7_164_157⟩), List.forall_mem_cons.mpr ⟨(show ag_CW 189 165 186 3 8 from ⟨by decide, by decide, by decide, rfl, rfl, by decide, ag_lk_7_165_186⟩), List.forall_mem_cons.mpr ⟨(show ag_CW 189 167 159 2 0 from ⟨by decide, by decide, by decide, rfl, rfl, ag_lk_7_167_159⟩), List.forall_mem_cons.mpr ⟨(show ag_CW 189 168 81 1 0 from ⟨by decide, by decide, by decide, rfl, rfl, ag_lk_7_168_81⟩), List.forall_mem_cons.mpr ⟨(show ag_CW 189 171 162 1 0 from ⟨by decide, by decide, by decide, rfl, rfl, ag_lk_7_171_162⟩), List.forall_mem_cons.mpr ⟨(show ag_CW 189 172 187 3 8 from ⟨by decide, by decide, by decide, rfl, rfl, by decide, ag_lk_7_172_187⟩), List.forall_mem_cons.mpr ⟨(show ag_CW 189 174 164 2 0 from ⟨by decide, by decide, by decide, rfl, rfl, ag_lk_7_174_164⟩), List.forall_mem_cons.mpr ⟨(show ag_CW 189 175 188 3 8 from ⟨by decide, by decide, by decide, rfl, rfl, by decide, ag_lk_7_175_188⟩), List.forall_mem_cons.mpr ⟨(show ag_CW 189 177 165 2 0 from ⟨by decide, by decide, by decide, rfl, rfl, ag_lk_7_177_165⟩), List.forall_mem_cons.mpr ⟨(show ag_CW 189 178 84 1 0 from ⟨by decide, by decide, by decide, rfl, rfl, ag_lk_7_178_84⟩), List.forall_mem_cons.mpr ⟨(show ag_CW 189 182 166 1 0 from ⟨by decide, by decide, by decide, rfl, rfl, ag_lk_7_182_166⟩), fun _ h => absurd h List.not_mem_nil⟩⟩⟩⟩⟩⟩⟩⟩⟩⟩⟩⟩⟩⟩⟩⟩⟩⟩⟩⟩⟩⟩⟩⟩⟩⟩⟩⟩⟩⟩⟩⟩⟩⟩⟩⟩⟩⟩⟩⟩⟩⟩⟩⟩⟩⟩⟩⟩⟩⟩⟩⟩⟩⟩⟩
theorem ag_cw_go_g0 (k : Nat) (h : k < 20) : ∀ q ∈ ag_ml_l.getD (0 + k) [], ag_CW (0 + k) q.1 q.2.1 q.2.2.1 q.2.2.2 := by
  match k, h with
  | 0, _ => exact (fun q h => absurd h List.not_mem_nil)
  | 1, _ => exact (fun q h => absurd h List.not_mem_nil)
  | 2, _ => exact (fun q h => absurd h List.not_mem_nil)
  | 3, _ => exact ag_cws_3
  | 4, _ => exact ag_cws_4
  | 5, _ => exact ag_cws_5
  | 6, _ => exact ag_cws_6
  | 7, _ => exact ag_cws_7
  | 8, _ => exact ag_cws_8
  | 9, _ => exact ag_cws_9
  | 10, _ => exact ag_cws_10
  | 11, _ => exact ag_cws_11
  | 12, _ => exact ag_cws_12
  | 13, _ => exact ag_cws_13
  | 14, _ => exact ag_cws_14
  | 15, _ => exact ag_cws_15
  | 16, _ => exact ag_cws_16
  | 17, _ => exact ag_cws_17
  | 18, _ => exact ag_cws_18
  | 19, _ => exact ag_cws_19
  | n + 20, h => exact absurd h (by omega)
theorem ag_cw_go_g20 (k : Nat) (h : k < 20) : ∀ q ∈ ag_ml_l.getD (20 + k) [], ag_CW (20 + k) q.1 q.2.1 q.2.2.1 q.2.2.2 := by
  match k, h with
  | 0, _ => exact ag_cws_20
  | 1, _ => exact ag_cws_21
  | 2, _ => exact ag_cws_22
  | 3, _ => exact ag_cws_23
  | 4, _ => exact ag_cws_24
  | 5, _ => exact ag_cws_25
  | 6, _ => exact ag_cws_26
  | 7, _ => exact ag_cws_27
  | 8, _ => exact ag_cws_28
  | 9, _ => exact ag_cws_29
  | 10, _ => exact ag_cws_30
  | 11, _ => exact ag_cws_31
  | 12, _ => exact ag_cws_32
  | 13, _ => exact ag_cws_33
  | 14, _ => exact ag_cws_34
  | 15, _ => exact ag_cws_35
  | 16, _ => exact ag_cws_36
  | 17, _ => exact ag_cws_37
  | 18, _ => exact ag_cws_38
  | 19, _ => exact ag_cws_39
  | n + 20, h => exact absurd h (by omega)
theorem ag_cw_go_g40 (k : Nat) (h : k < 20) : ∀ q ∈ ag_ml_l.getD (40 + k) [], ag_CW (40 + k) q.1 q.2.1 q.2.2.1 q.2.2.2 := by
  match k, h with
  | 0, _ => exact ag_cws_40
  | 1, _ => exact ag_cws_41
  | 2, _ => exact ag_cws_42
  | 3, _ => exact ag_cws_43
  | 4, _ => exact ag_cws_44
  | 5, _ => exact ag_cws_45
  | 6, _ => exact ag_cws_46
  | 7, _ => exact ag_cws_47
  | 8, _ => exact ag_cws_48
  | 9, _ => exact ag_cws_49
  | 10, _ => exact ag_cws_50
  | 11, _ => exact ag_cws_51
  | 12, _ => exact ag_cws_52
  | 13, _ => exact ag_cws_53
  | 14, _ => exact ag_cws_54
  | 15, _ => exact ag_cws_55
  | 16, _ => exact ag_cws_56
  | 17, _ => exact ag_cws_57
  | 18, _ => exact ag_cws_58
  | 19, _ => exact ag_cws_59
  | n + 20, h => exact absurd h (by omega)
theorem ag_cw_go_g60 (k : Nat) (h : k < 20) : ∀ q ∈ ag_ml_l.getD (60 + k) [], ag_CW (60 + k) q.1 q.2.1 q.2.2.1 q.2.2.2 := by
  match k, h with
  | 0, _ => exact ag_cws_60
  | 1, _ => exact ag_cws_61
  | 2, _ => exact ag_cws_62
  | 3, _ => exact ag_cws_63
  | 4, _ => exact ag_cws_64
  | 5, _ => exact ag_cws_65
  | 6, _ => exact ag_cws_66
  | 7, _ => exact ag_cws_67
  | 8, _ => exact ag_cws_68
  | 9, _ => exact ag_cws_69
  | 10, _ => exact ag_cws_70
  | 11, _ => exact ag_cws_71
  | 12, _ => exact ag_cws_72
  | 13, _ => exact ag_cws_73
  | 14, _ => exact ag_cws_74
  | 15, _ => exact ag_cws_75
  | 16, _ => exact ag_cws_76
  | 17, _ => exact ag_cws_77
  | 18, _ => exact ag_cws_78
  | 19, _ => exact ag_cws_79
  | n + 20, h => exact absurd h (by omega)
theorem ag_cw_go_g80 (k : Nat) (h : k < 20) : ∀ q ∈ ag_ml_l.getD (80 + k) [], ag_CW (80 + k) q.1 q.2.1 q.2.2.1 q.2.2.2 := by
  match k, h with
  | 0, _ => exact ag_cws_80
  | 1, _ => exact ag_cws_81
  | 2, _ => exact ag_cws_82
  | 3, _ => exact ag_cws_83
  | 4, _ => exact ag_cws_84
  | 5, _ => exact ag_cws_85
  | 6, _ => exact ag_cws_86
  | 7, _ => exact ag_cws_87
  | 8, _ => exact ag_cws_88
  | 9, _ => exact ag_cws_89
  | 10, _ => exact ag_cws_90
  | 11, _ => exact ag_cws_91
  | 12, _ => exact ag_cws_92
  | 13, _ => exact ag_cws_93
  | 14, _ => exact ag_cws_94
  | 15, _ => exact ag_cws_95
  | 16, _ => exact ag_cws_96
  | 17, _ => exact ag_cws_97
  | 18, _ => exact ag_cws_98
  | 19, _ => exact ag_cws_99
  | n + 20, h => exact absurd h (by omega)
theorem ag_cw_go_g100 (k : Nat) (h : k < 20) : ∀ q ∈ ag_ml_l.getD (100 + k) [], ag_CW (100 + k) q.1 q.2.1 q.2.2.1 q.2.2.2 := by
  match k, h with
  | 0, _ => exact ag_cws_100
  | 1, _ => exact ag_cws_101
  | 2, _ => exact ag_cws_102
  | 3, _ => exact ag_cws_103
  | 4, _ => exact ag_cws_104
  | 5, _ => exact ag_cws_105
  | 6, _ => exact ag_cws_106
  | 7, _ => exact ag_cws_107
  | 8, _ => exact ag_cws_108
  | 9, _ => exact ag_cws_109
  | 10, _ => exact ag_cws_110
  | 11, _ => exact ag_cws_111
  | 12, _ => exact ag_cws_112
  | 13, _ => exact ag_cws_113
  | 14, _ => exact ag_cws_114
  | 15, _ => exact ag_cws_115
  | 16, _ => exact ag_cws_116
  | 17, _ => exact ag_cws_117
  | 18, _ => exact ag_cws_118
  | 19, _ => exact ag_cws_119
  | n + 20, h => exact absurd h (by omega)
theorem ag_cw_go_g120 (k : Nat) (h : k < 20) : ∀ q ∈ ag_ml_l.getD (120 + k) [], ag_CW (120 + k) q.1 q.2.1 q.2.2.1 q.2.2.2 := by
  match k, h with
  | 0, _ => exact ag_cws_120
  | 1, _ => exact ag_cws_121
  | 2, _ => exact ag_cws_122
  | 3, _ => exact ag_cws_123
  | 4, _ => exact ag_cws_124
  | 5, _ => exact ag_cws_125
  | 6, _ => exact ag_cws_126
  | 7, _ => exact ag_cws_127
  | 8, _ => exact ag_cws_128
  | 9, _ => exact ag_cws_129
  | 10, _ => exact ag_cws_130
  | 11, _ => exact ag_cws_131
  | 12, _ => exact ag_cws_132
  | 13, _ => exact ag_cws_133
  | 14, _ => exact ag_cws_134
  | 15, _ => exact ag_cws_135
  | 16, _ => exact ag_cws_136
  | 17, _ => exact ag_cws_137
  | 18, _ => exact ag_cws_138
  | 19, _ => exact ag_cws_139
  | n + 20, h => exact absurd h (by omega)
theorem ag_cw_go_g140 (k : Nat) (h : k < 20) : ∀ q ∈ ag_ml_l.getD (140 + k) [], ag_CW (140 + k) q.1 q.2.1 q.2.2.1 q.2.2.2 := by
  match k, h with
  | 0, _ => exact ag_cws_140
  | 1, _ => exact ag_cws_141
  | 2, _ => exact ag_cws_142
  | 3, _ => exact ag_cws_143
  | 4, _ => exact ag_cws_144
  | 5, _ => exact ag_cws_145
  | 6, _ => exact ag_cws_146
  | 7, _ => exact ag_cws_147
  | 8, _ => exact ag_cws_148
  | 9, _ => exact ag_cws_149
  | 10, _ => exact ag_cws_150
  | 11, _ => exact ag_cws_151
  | 12, _ => exact ag_cws_152
  | 13, _ => exact ag_cws_153
  | 14, _ => exact ag_cws_154
  | 15, _ => exact ag_cws_155
  | 16, _ => exact ag_cws_156
  | 17, _ => exact ag_cws_157
  | 18, _ => exact ag_cws_158
  | 19, _ => exact ag_cws_159
  | n + 20, h => exact absurd h (by omega)
theorem ag_cw_go_g160 (k : Nat) (h : k < 20) : ∀ q ∈ ag_ml_l.getD (160 + k) [], ag_CW (160 + k) q.1 q.2.1 q.2.2.1 q.2.2.2 := by
  match k, h with
  | 0, _ => exact ag_cws_160
  | 1, _ => exact ag_cws_161
  | 2, _ => exact ag_cws_162
  | 3, _ => exact ag_cws_163
  | 4, _ => exact ag_cws_164
  | 5, _ => exact ag_cws_165
  | 6, _ => exact ag_cws_166
  | 7, _ => exact ag_cws_167
  | 8, _ => exact ag_cws_168
  | 9, _ => exact ag_cws_169
  | 10, _ => exact ag_cws_170
  | 11, _ => exact ag_cws_171
  | 12, _ => exact ag_cws_172
  | 13, _ => exact ag_cws_173
  | 14, _ => exact ag_cws_174
  | 15, _ => exact ag_cws_175
  | 16, _ => exact ag_cws_176
  | 17, _ => exact ag_cws_177
  | 18, _ => exact ag_cws_178
  | 19, _ => exact ag_cws_179
  | n + 20, h => exact absurd h (by omega)
theorem ag_cw_go_g180 (k : Nat) (h : k < 10) : ∀ q ∈ ag_ml_l.getD (180 + k) [], ag_CW (180 + k) q.1 q.2.1 q.2.2.1 q.2.2.2 := by
  match k, h with
  | 0, _ => exact ag_cws_180
  | 1, _ => exact ag_cws_181
  | 2, _ => exact ag_cws_182
  | 3, _ => exact ag_cws_183
  | 4, _ => exact ag_cws_184
  | 5, _ => exact ag_cws_185
  | 6, _ => exact ag_cws_186
  | 7, _ => exact ag_cws_187
  | 8, _ => exact ag_cws_188
  | 9, _ => exact ag_cws_189
  | n + 10, h => exact absurd h (by omega)
theorem ag_cw_go (y : Nat) : ∀ q ∈ ag_ml_l.getD y [], ag_CW y q.1 q.2.1 q.2.2.1 q.2.2.2 := by
  rcases Nat.lt_or_ge y 20 with h20 | h20
  · have hy : y = 0 + (y - 0) := by omega
    rw [hy]
    exact ag_cw_go_g0 (y - 0) (by omega)
  rcases Nat.lt_or_ge y 40 with h40 | h40
  · have hy : y = 20 + (y - 20) := by omega
    rw [hy]
    exact ag_cw_go_g20 (y - 20) (by omega)
  rcases Nat.lt_or_ge y 60 with h60 | h60
  · have hy : y = 40 + (y - 40) := by omega
    rw [hy]
    exact ag_cw_go_g40 (y - 40) (by omega)
  rcases Nat.lt_or_ge y 80 with h80 | h80
  · have hy : y = 60 + (y - 60) := by omega
    rw [hy]
    exact ag_cw_go_g60 (y - 60) (by omega)
  rcases Nat.lt_or_ge y 100 with h100 | h100
  · have hy : y = 80 + (y - 80) := by omega
    rw [hy]
    exact ag_cw_go_g80 (y - 80) (by omega)
  rcases Nat.lt_or_ge y 120 with h120 | h120
  · have hy : y = 100 + (y - 100) := by omega
    rw [hy]
    exact ag_cw_go_g100 (y - 100) (by omega)
  rcases Nat.lt_or_ge y 140 with h140 | h140
  · have hy : y = 120 + (y - 120) := by omega
    rw [hy]
    exact ag_cw_go_g120 (y - 120) (by omega)
  rcases Nat.lt_or_ge y 160 with h160 | h160
  · have hy : y = 140 + (y - 140) := by omega
    rw [hy]
    exact ag_cw_go_g140 (y - 140) (by omega)
  rcases Nat.lt_or_ge y 180 with h180 | h180
  · have hy : y = 160 + (y - 160) := by omega
    rw [hy]
    exact ag_cw_go_g160 (y - 160) (by omega)
  rcases Nat.lt_or_ge y 190 with h190 | h190
  · have hy : y = 180 + (y - 180) := by omega
    rw [hy]
    exact ag_cw_go_g180 (y - 180) (by omega)
  exact (fun q h => by rw [List.getD_eq_getElem?_getD, List.getElem?_eq_none (by show 190 ≤ y; omega)] at h; exact absurd h List.not_mem_nil)
theorem ag_cwf {y idx y' n kd : Nat} (h : ag_ml y idx = some (y', (n, kd))) : ag_CW y idx y' n kd := by
  unfold ag_ml at h
  cases hf : (ag_ml_l.getD y []).find? (fun q => q.1 == idx) with
  | none => rw [hf] at h; cases h
  | some q =>
    rw [hf] at h
    have hm := List.mem_of_find?_eq_some hf
    have he := List.find?_some hf
    simp only [beq_iff_eq] at he
    have hq : q.2 = (y', (n, kd)) := Option.some.inj h
    have key := ag_cw_go y q hm
    rw [he, hq] at key
    exact key
