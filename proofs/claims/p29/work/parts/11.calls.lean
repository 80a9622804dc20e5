/-! CALLS: what the tables say of them. -/
/-- how a method is called: 0 virtual, 1 static, 2 constructor, 3 static with handlers, 4 the law, 5 virtual with handlers -/
def ag_mk_l : List Nat := [0, 0, 0, 2, 0, 0, 0, 0, 0, 0, 0, 0, 0, 0, 0, 0, 0, 0, 0, 2, 0, 0, 0, 0, 0, 0, 0, 0, 0, 0, 0, 2, 0, 0, 0, 0, 0, 0, 0, 0, 0, 0, 2, 0, 0, 0, 0, 0, 0, 0, 0, 0, 0, 2, 0, 0, 0, 0, 2, 0, 0, 0, 0, 0, 0, 0, 0, 0, 0, 0, 0, 0, 0, 0, 0, 0, 0, 0, 0, 0, 0, 0, 0, 0, 0, 0, 0, 0, 0, 0, 0, 1, 1, 1, 1, 2, 0, 1, 1, 1, 0, 0, 0, 0, 0, 0, 0, 0, 0, 5, 0, 0, 5, 5, 0, 0, 5, 0, 0, 0, 0, 0, 0, 0, 0, 0, 0, 5, 5, 0, 0, 0, 1, 1, 1, 3, 4]
def ag_mk (y : Nat) : Nat := ag_mk_l.getD y 4
def ag_np_l : List Nat := [0, 0, 0, 0, 1, 0, 1, 1, 1, 1, 1, 1, 0, 2, 3, 1, 2, 3, 0, 1, 1, 3, 1, 0, 2, 2, 1, 1, 1, 2, 1, 0, 1, 1, 0, 2, 3, 2, 0, 1, 2, 2, 0, 1, 0, 1, 1, 1, 3, 2, 1, 1, 3, 0, 2, 1, 1, 1, 0, 2, 2, 1, 3, 2, 1, 2, 0, 1, 1, 3, 1, 1, 2, 0, 2, 2, 0, 1, 1, 0, 1, 1, 0, 1, 2, 2, 1, 1, 0, 1, 1, 1, 2, 3, 2, 2, 1, 3, 2, 2, 1, 1, 1, 1, 1, 0, 1, 4, 1, 0, 2, 3, 0, 0, 3, 3, 0, 0, 1, 1, 2, 1, 2, 0, 0, 0, 0, 0, 0, 0, 0, 0, 2, 2, 3, 2, 1]
def ag_np (y : Nat) : Nat := ag_np_l.getD y 0
def ag_hh_l : List (List (Nat × Nat × Nat × Nat)) := [[], [], [], [], [], [], [], [], [], [], [], [], [], [], [], [], [], [], [], [], [], [], [], [], [], [], [], [], [], [], [], [], [], [], [], [], [], [], [], [], [], [], [], [], [], [], [], [], [], [], [], [], [], [], [], [], [], [], [], [], [], [], [], [], [], [], [], [], [], [], [], [], [], [], [], [], [], [], [], [], [], [], [], [], [], [], [], [], [], [], [], [], [], [], [], [], [], [], [], [], [], [], [], [], [], [], [], [], [], [(77, 120, 121, 112)], [], [], [(98, 197, 198, 112)], [(78, 167, 168, 112)], [], [], [(37, 66, 67, 112)], [], [], [], [], [], [], [], [], [], [], [(63, 124, 125, 112)], [(23, 36, 71, 112), (37, 70, 71, 112)], [], [], [], [], [], [], [(0, 13, 14, 114)], []]
def ag_hh (y : Nat) : List (Nat × Nat × Nat × Nat) := ag_hh_l.getD y []
/-- the word that says a method's code -/
def ag_hx (y : Nat) : Prop := ag_mk y = 3 ∨ ag_mk y = 5
def ag_cw (y : Nat) : Cond := if ag_mk y = 3 ∨ ag_mk y = 5 then Cond.codeWith (ag_ny y) (ag_by y) (ag_mx y) (ag_rt y) (ag_hh y) else Cond.code (ag_ny y) (ag_by y) (ag_mx y) (ag_rt y)
def ag_MW (y : Nat) : Prop := ag_cw y ∈ lw_tbl ∧ goodWord (ag_cw y) = true ∧ Cond.initialized (ag_ny y).cls ∈ lw_tbl ∧ plainName (ag_ny y).cls = true ∧ ((ag_ny y).cls ≠ "java/lang/invoke/MethodHandle" ∧ (ag_ny y).cls ≠ "java/lang/invoke/VarHandle") ∧ (parseMethodDescriptor (ag_ny y).desc).map (fun d => d.parameters.length) = some (ag_np y) ∧ ag_mx y ≤ 41 ∧
  (ag_mk y = 0 ∨ ag_mk y = 5 → Cond.instanceMethod (ag_ny y) ∈ lw_tbl ∧ Cond.selects (ag_ny y).cls (ag_ny y) (ag_ny y) ∈ lw_tbl) ∧ (ag_mk y = 1 ∨ ag_mk y = 3 → Cond.static (ag_ny y) ∈ lw_tbl) ∧ (ag_mk y = 2 → Cond.instanceMethod (ag_ny y) ∈ lw_tbl ∧ (ag_ny y).name = "<init>" ∧ ag_rt y = none)
theorem ag_mw_3 : ag_MW 3 := ⟨List.mem_of_getElem? (i := 501) (by decide +kernel), rfl, List.mem_of_getElem? (i := 22) (by decide +kernel), by decide +kernel, ⟨by decide +kernel, by decide +kernel⟩, by decide +kernel, by decide, fun h => absurd h (by decide), fun h => absurd h (by decide), fun _ => ⟨List.mem_of_getElem? (i := 500) (by decide +kernel), rfl, rfl⟩⟩
theorem ag_mw_4 : ag_MW 4 := ⟨List.mem_of_getElem? (i := 334) (by decide +kernel), rfl, List.mem_of_getElem? (i := 22) (by decide +kernel), by decide +kernel, ⟨by decide +kernel, by decide +kernel⟩, by decide +kernel, by decide, fun _ => ⟨List.mem_of_getElem? (i := 332) (by decide +kernel), List.mem_of_getElem? (i := 333) (by decide +kernel)⟩, fun h => absurd h (by decide), fun h => absurd h (by decide)⟩
theorem ag_mw_5 : ag_MW 5 := ⟨List.mem_of_getElem? (i := 236) (by decide +kernel), rfl, List.mem_of_getElem? (i := 22) (by decide +kernel), by decide +kernel, ⟨by decide +kernel, by decide +kernel⟩, by decide +kernel, by decide, fun _ => ⟨List.mem_of_getElem? (i := 234) (by decide +kernel), List.mem_of_getElem? (i := 235) (by decide +kernel)⟩, fun h => absurd h (by decide), fun h => absurd h (by decide)⟩
theorem ag_mw_6 : ag_MW 6 := ⟨List.mem_of_getElem? (i := 40) (by decide +kernel), rfl, List.mem_of_getElem? (i := 22) (by decide +kernel), by decide +kernel, ⟨by decide +kernel, by decide +kernel⟩, by decide +kernel, by decide, fun _ => ⟨List.mem_of_getElem? (i := 38) (by decide +kernel), List.mem_of_getElem? (i := 39) (by decide +kernel)⟩, fun h => absurd h (by decide), fun h => absurd h (by decide)⟩
theorem ag_mw_7 : ag_MW 7 := ⟨List.mem_of_getElem? (i := 138) (by decide +kernel), rfl, List.mem_of_getElem? (i := 22) (by decide +kernel), by decide +kernel, ⟨by decide +kernel, by decide +kernel⟩, by decide +kernel, by decide, fun _ => ⟨List.mem_of_getElem? (i := 136) (by decide +kernel), List.mem_of_getElem? (i := 137) (by decide +kernel)⟩, fun h => absurd h (by decide), fun h => absurd h (by decide)⟩
theorem ag_mw_8 : ag_MW 8 := ⟨List.mem_of_getElem? (i := 240) (by decide +kernel), rfl, List.mem_of_getElem? (i := 22) (by decide +kernel), by decide +kernel, ⟨by decide +kernel, by decide +kernel⟩, by decide +kernel, by decide, fun _ => ⟨List.mem_of_getElem? (i := 238) (by decide +kernel), List.mem_of_getElem? (i := 239) (by decide +kernel)⟩, fun h => absurd h (by decide), fun h => absurd h (by decide)⟩
theorem ag_mw_9 : ag_MW 9 := ⟨List.mem_of_getElem? (i := 148) (by decide +kernel), rfl, List.mem_of_getElem? (i := 22) (by decide +kernel), by decide +kernel, ⟨by decide +kernel, by decide +kernel⟩, by decide +kernel, by decide, fun _ => ⟨List.mem_of_getElem? (i := 146) (by decide +kernel), List.mem_of_getElem? (i := 147) (by decide +kernel)⟩, fun h => absurd h (by decide), fun h => absurd h (by decide)⟩
theorem ag_mw_10 : ag_MW 10 := ⟨List.mem_of_getElem? (i := 369) (by decide +kernel), rfl, List.mem_of_getElem? (i := 22) (by decide +kernel), by decide +kernel, ⟨by decide +kernel, by decide +kernel⟩, by decide +kernel, by decide, fun _ => ⟨List.mem_of_getElem? (i := 367) (by decide +kernel), List.mem_of_getElem? (i := 368) (by decide +kernel)⟩, fun h => absurd h (by decide), fun h => absurd h (by decide)⟩
theorem ag_mw_11 : ag_MW 11 := ⟨List.mem_of_getElem? (i := 143) (by decide +kernel), rfl, List.mem_of_getElem? (i := 22) (by decide +kernel), by decide +kernel, ⟨by decide +kernel, by decide +kernel⟩, by decide +kernel, by decide, fun _ => ⟨List.mem_of_getElem? (i := 141) (by decide +kernel), List.mem_of_getElem? (i := 142) (by decide +kernel)⟩, fun h => absurd h (by decide), fun h => absurd h (by decide)⟩
theorem ag_mw_12 : ag_MW 12 := ⟨List.mem_of_getElem? (i := 309) (by decide +kernel), rfl, List.mem_of_getElem? (i := 22) (by decide +kernel), by decide +kernel, ⟨by decide +kernel, by decide +kernel⟩, by decide +kernel, by decide, fun _ => ⟨List.mem_of_getElem? (i := 307) (by decide +kernel), List.mem_of_getElem? (i := 308) (by decide +kernel)⟩, fun h => absurd h (by decide), fun h => absurd h (by decide)⟩
theorem ag_mw_13 : ag_MW 13 := ⟨List.mem_of_getElem? (i := 229) (by decide +kernel), rfl, List.mem_of_getElem? (i := 22) (by decide +kernel), by decide +kernel, ⟨by decide +kernel, by decide +kernel⟩, by decide +kernel, by decide, fun _ => ⟨List.mem_of_getElem? (i := 227) (by decide +kernel), List.mem_of_getElem? (i := 228) (by decide +kernel)⟩, fun h => absurd h (by decide), fun h => absurd h (by decide)⟩
theorem ag_mw_14 : ag_MW 14 := ⟨List.mem_of_getElem? (i := 373) (by decide +kernel), rfl, List.mem_of_getElem? (i := 22) (by decide +kernel), by decide +kernel, ⟨by decide +kernel, by decide +kernel⟩, by decide +kernel, by decide, fun _ => ⟨List.mem_of_getElem? (i := 371) (by decide +kernel), List.mem_of_getElem? (i := 372) (by decide +kernel)⟩, fun h => absurd h (by decide), fun h => absurd h (by decide)⟩
theorem ag_mw_15 : ag_MW 15 := ⟨List.mem_of_getElem? (i := 350) (by decide +kernel), rfl, List.mem_of_getElem? (i := 22) (by decide +kernel), by decide +kernel, ⟨by decide +kernel, by decide +kernel⟩, by decide +kernel, by decide, fun _ => ⟨List.mem_of_getElem? (i := 348) (by decide +kernel), List.mem_of_getElem? (i := 349) (by decide +kernel)⟩, fun h => absurd h (by decide), fun h => absurd h (by decide)⟩
theorem ag_mw_16 : ag_MW 16 := ⟨List.mem_of_getElem? (i := 360) (by decide +kernel), rfl, List.mem_of_getElem? (i := 22) (by decide +kernel), by decide +kernel, ⟨by decide +kernel, by decide +kernel⟩, by decide +kernel, by decide, fun _ => ⟨List.mem_of_getElem? (i := 358) (by decide +kernel), List.mem_of_getElem? (i := 359) (by decide +kernel)⟩, fun h => absurd h (by decide), fun h => absurd h (by decide)⟩
theorem ag_mw_17 : ag_MW 17 := ⟨List.mem_of_getElem? (i := 364) (by decide +kernel), rfl, List.mem_of_getElem? (i := 22) (by decide +kernel), by decide +kernel, ⟨by decide +kernel, by decide +kernel⟩, by decide +kernel, by decide, fun _ => ⟨List.mem_of_getElem? (i := 363) (by decide +kernel), List.mem_of_getElem? (i := 8) (by decide +kernel)⟩, fun h => absurd h (by decide), fun h => absurd h (by decide)⟩
theorem ag_mw_18 : ag_MW 18 := ⟨List.mem_of_getElem? (i := 356) (by decide +kernel), rfl, List.mem_of_getElem? (i := 22) (by decide +kernel), by decide +kernel, ⟨by decide +kernel, by decide +kernel⟩, by decide +kernel, by decide, fun _ => ⟨List.mem_of_getElem? (i := 354) (by decide +kernel), List.mem_of_getElem? (i := 7) (by decide +kernel)⟩, fun h => absurd h (by decide), fun h => absurd h (by decide)⟩
theorem ag_mw_19 : ag_MW 19 := ⟨List.mem_of_getElem? (i := 496) (by decide +kernel), rfl, List.mem_of_getElem? (i := 21) (by decide +kernel), by decide +kernel, ⟨by decide +kernel, by decide +kernel⟩, by decide +kernel, by decide, fun h => absurd h (by decide), fun h => absurd h (by decide), fun _ => ⟨List.mem_of_getElem? (i := 495) (by decide +kernel), rfl, rfl⟩⟩
theorem ag_mw_20 : ag_MW 20 := ⟨List.mem_of_getElem? (i := 330) (by decide +kernel), rfl, List.mem_of_getElem? (i := 21) (by decide +kernel), by decide +kernel, ⟨by decide +kernel, by decide +kernel⟩, by decide +kernel, by decide, fun _ => ⟨List.mem_of_getElem? (i := 328) (by decide +kernel), List.mem_of_getElem? (i := 329) (by decide +kernel)⟩, fun h => absurd h (by decide), fun h => absurd h (by decide)⟩
theorem ag_mw_21 : ag_MW 21 := ⟨List.mem_of_getElem? (i := 224) (by decide +kernel), rfl, List.mem_of_getElem? (i := 21) (by decide +kernel), by decide +kernel, ⟨by decide +kernel, by decide +kernel⟩, by decide +kernel, by decide, fun _ => ⟨List.mem_of_getElem? (i := 222) (by decide +kernel), List.mem_of_getElem? (i := 223) (by decide +kernel)⟩, fun h => absurd h (by decide), fun h => absurd h (by decide)⟩
theorem ag_mw_22 : ag_MW 22 := ⟨List.mem_of_getElem? (i := 216) (by decide +kernel), rfl, List.mem_of_getElem? (i := 21) (by decide +kernel), by decide +kernel, ⟨by decide +kernel, by decide +kernel⟩, by decide +kernel, by decide, fun _ => ⟨List.mem_of_getElem? (i := 214) (by decide +kernel), List.mem_of_getElem? (i := 215) (by decide +kernel)⟩, fun h => absurd h (by decide), fun h => absurd h (by decide)⟩
theorem ag_mw_23 : ag_MW 23 := ⟨List.mem_of_getElem? (i := 198) (by decide +kernel), rfl, List.mem_of_getElem? (i := 21) (by decide +kernel), by decide +kernel, ⟨by decide +kernel, by decide +kernel⟩, by decide +kernel, by decide, fun _ => ⟨List.mem_of_getElem? (i := 196) (by decide +kernel), List.mem_of_getElem? (i := 197) (by decide +kernel)⟩, fun h => absurd h (by decide), fun h => absurd h (by decide)⟩
theorem ag_mw_24 : ag_MW 24 := ⟨List.mem_of_getElem? (i := 204) (by decide +kernel), rfl, List.mem_of_getElem? (i := 21) (by decide +kernel), by decide +kernel, ⟨by decide +kernel, by decide +kernel⟩, by decide +kernel, by decide, fun _ => ⟨List.mem_of_getElem? (i := 202) (by decide +kernel), List.mem_of_getElem? (i := 3) (by decide +kernel)⟩, fun h => absurd h (by decide), fun h => absurd h (by decide)⟩
theorem ag_mw_25 : ag_MW 25 := ⟨List.mem_of_getElem? (i := 409) (by decide +kernel), rfl, List.mem_of_getElem? (i := 21) (by decide +kernel), by decide +kernel, ⟨by decide +kernel, by decide +kernel⟩, by decide +kernel, by decide, fun _ => ⟨List.mem_of_getElem? (i := 407) (by decide +kernel), List.mem_of_getElem? (i := 408) (by decide +kernel)⟩, fun h => absurd h (by decide), fun h => absurd h (by decide)⟩
theorem ag_mw_26 : ag_MW 26 := ⟨List.mem_of_getElem? (i := 404) (by decide +kernel), rfl, List.mem_of_getElem? (i := 21) (by decide +kernel), by decide +kernel, ⟨by decide +kernel, by decide +kernel⟩, by decide +kernel, by decide, fun _ => ⟨List.mem_of_getElem? (i := 402) (by decide +kernel), List.mem_of_getElem? (i := 403) (by decide +kernel)⟩, fun h => absurd h (by decide), fun h => absurd h (by decide)⟩
theorem ag_mw_27 : ag_MW 27 := ⟨List.mem_of_getElem? (i := 346) (by decide +kernel), rfl, List.mem_of_getElem? (i := 21) (by decide +kernel), by decide +kernel, ⟨by decide +kernel, by decide +kernel⟩, by decide +kernel, by decide, fun _ => ⟨List.mem_of_getElem? (i := 344) (by decide +kernel), List.mem_of_getElem? (i := 345) (by decide +kernel)⟩, fun h => absurd h (by decide), fun h => absurd h (by decide)⟩
theorem ag_mw_28 : ag_MW 28 := ⟨List.mem_of_getElem? (i := 379) (by decide +kernel), rfl, List.mem_of_getElem? (i := 21) (by decide +kernel), by decide +kernel, ⟨by decide +kernel, by decide +kernel⟩, by decide +kernel, by decide, fun _ => ⟨List.mem_of_getElem? (i := 377) (by decide +kernel), List.mem_of_getElem? (i := 378) (by decide +kernel)⟩, fun h => absurd h (by decide), fun h => absurd h (by decide)⟩
theorem ag_mw_29 : ag_MW 29 := ⟨List.mem_of_getElem? (i := 388) (by decide +kernel), rfl, List.mem_of_getElem? (i := 21) (by decide +kernel), by decide +kernel, ⟨by decide +kernel, by decide +kernel⟩, by decide +kernel, by decide, fun _ => ⟨List.mem_of_getElem? (i := 387) (by decide +kernel), List.mem_of_getElem? (i := 9) (by decide +kernel)⟩, fun h => absurd h (by decide), fun h => absurd h (by decide)⟩
theorem ag_mw_30 : ag_MW 30 := ⟨List.mem_of_getElem? (i := 392) (by decide +kernel), rfl, List.mem_of_getElem? (i := 21) (by decide +kernel), by decide +kernel, ⟨by decide +kernel, by decide +kernel⟩, by decide +kernel, by decide, fun _ => ⟨List.mem_of_getElem? (i := 391) (by decide +kernel), List.mem_of_getElem? (i := 10) (by decide +kernel)⟩, fun h => absurd h (by decide), fun h => absurd h (by decide)⟩
theorem ag_mw_31 : ag_MW 31 := ⟨List.mem_of_getElem? (i := 444) (by decide +kernel), rfl, List.mem_of_getElem? (i := 19) (by decide +kernel), by decide +kernel, ⟨by decide +kernel, by decide +kernel⟩, by decide +kernel, by decide, fun h => absurd h (by decide), fun h => absurd h (by decide), fun _ => ⟨List.mem_of_getElem? (i := 443) (by decide +kernel), rfl, rfl⟩⟩
theorem ag_mw_32 : ag_MW 32 := ⟨List.mem_of_getElem? (i := 248) (by decide +kernel), rfl, List.mem_of_getElem? (i := 19) (by decide +kernel), by decide +kernel, ⟨by decide +kernel, by decide +kernel⟩, by decide +kernel, by decide, fun _ => ⟨List.mem_of_getElem? (i := 246) (by decide +kernel), List.mem_of_getElem? (i := 247) (by decide +kernel)⟩, fun h => absurd h (by decide), fun h => absurd h (by decide)⟩
theorem ag_mw_33 : ag_MW 33 := ⟨List.mem_of_getElem? (i := 815) (by decide +kernel), rfl, List.mem_of_getElem? (i := 19) (by decide +kernel), by decide +kernel, ⟨by decide +kernel, by decide +kernel⟩, by decide +kernel, by decide, fun _ => ⟨List.mem_of_getElem? (i := 813) (by decide +kernel), List.mem_of_getElem? (i := 814) (by decide +kernel)⟩, fun h => absurd h (by decide), fun h => absurd h (by decide)⟩
theorem ag_mw_34 : ag_MW 34 := ⟨List.mem_of_getElem? (i := 166) (by decide +kernel), rfl, List.mem_of_getElem? (i := 19) (by decide +kernel), by decide +kernel, ⟨by decide +kernel, by decide +kernel⟩, by decide +kernel, by decide, fun _ => ⟨List.mem_of_getElem? (i := 164) (by decide +kernel), List.mem_of_getElem? (i := 165) (by decide +kernel)⟩, fun h => absurd h (by decide), fun h => absurd h (by decide)⟩
theorem ag_mw_35 : ag_MW 35 := ⟨List.mem_of_getElem? (i := 301) (by decide +kernel), rfl, List.mem_of_getElem? (i := 19) (by decide +kernel), by decide +kernel, ⟨by decide +kernel, by decide +kernel⟩, by decide +kernel, by decide, fun _ => ⟨List.mem_of_getElem? (i := 299) (by decide +kernel), List.mem_of_getElem? (i := 300) (by decide +kernel)⟩, fun h => absurd h (by decide), fun h => absurd h (by decide)⟩
theorem ag_mw_36 : ag_MW 36 := ⟨List.mem_of_getElem? (i := 271) (by decide +kernel), rfl, List.mem_of_getElem? (i := 19) (by decide +kernel), by decide +kernel, ⟨by decide +kernel, by decide +kernel⟩, by decide +kernel, by decide, fun _ => ⟨List.mem_of_getElem? (i := 269) (by decide +kernel), List.mem_of_getElem? (i := 270) (by decide +kernel)⟩, fun h => absurd h (by decide), fun h => absurd h (by decide)⟩
theorem ag_mw_37 : ag_MW 37 := ⟨List.mem_of_getElem? (i := 317) (by decide +kernel), rfl, List.mem_of_getElem? (i := 19) (by decide +kernel), by decide +kernel, ⟨by decide +kernel, by decide +kernel⟩, by decide +kernel, by decide, fun _ => ⟨List.mem_of_getElem? (i := 315) (by decide +kernel), List.mem_of_getElem? (i := 316) (by decide +kernel)⟩, fun h => absurd h (by decide), fun h => absurd h (by decide)⟩
theorem ag_mw_38 : ag_MW 38 := ⟨List.mem_of_getElem? (i := 293) (by decide +kernel), rfl, List.mem_of_getElem? (i := 19) (by decide +kernel), by decide +kernel, ⟨by decide +kernel, by decide +kernel⟩, by decide +kernel, by decide, fun _ => ⟨List.mem_of_getElem? (i := 291) (by decide +kernel), List.mem_of_getElem? (i := 292) (by decide +kernel)⟩, fun h => absurd h (by decide), fun h => absurd h (by decide)⟩
theorem ag_mw_39 : ag_MW 39 := ⟨List.mem_of_getElem? (i := 693) (by decide +kernel), rfl, List.mem_of_getElem? (i := 19) (by decide +kernel), by decide +kernel, ⟨by decide +kernel, by decide +kernel⟩, by decide +kernel, by decide, fun _ => ⟨List.mem_of_getElem? (i := 691) (by decide +kernel), List.mem_of_getElem? (i := 692) (by decide +kernel)⟩, fun h => absurd h (by decide), fun h => absurd h (by decide)⟩
theorem ag_mw_40 : ag_MW 40 := ⟨List.mem_of_getElem? (i := 893) (by decide +kernel), rfl, List.mem_of_getElem? (i := 19) (by decide +kernel), by decide +kernel, ⟨by decide +kernel, by decide +kernel⟩, by decide +kernel, by decide, fun _ => ⟨List.mem_of_getElem? (i := 891) (by decide +kernel), List.mem_of_getElem? (i := 892) (by decide +kernel)⟩, fun h => absurd h (by decide), fun h => absurd h (by decide)⟩
theorem ag_mw_41 : ag_MW 41 := ⟨List.mem_of_getElem? (i := 898) (by decide +kernel), rfl, List.mem_of_getElem? (i := 19) (by decide +kernel), by decide +kernel, ⟨by decide +kernel, by decide +kernel⟩, by decide +kernel, by decide, fun _ => ⟨List.mem_of_getElem? (i := 896) (by decide +kernel), List.mem_of_getElem? (i := 897) (by decide +kernel)⟩, fun h => absurd h (by decide), fun h => absurd h (by decide)⟩
theorem ag_mw_42 : ag_MW 42 := ⟨List.mem_of_getElem? (i := 553) (by decide +kernel), rfl, List.mem_of_getElem? (i := 23) (by decide +kernel), by decide +kernel, ⟨by decide +kernel, by decide +kernel⟩, by decide +kernel, by decide, fun h => absurd h (by decide), fun h => absurd h (by decide), fun _ => ⟨List.mem_of_getElem? (i := 552) (by decide +kernel), rfl, rfl⟩⟩
theorem ag_mw_43 : ag_MW 43 := ⟨List.mem_of_getElem? (i := 341) (by decide +kernel), rfl, List.mem_of_getElem? (i := 23) (by decide +kernel), by decide +kernel, ⟨by decide +kernel, by decide +kernel⟩, by decide +kernel, by decide, fun _ => ⟨List.mem_of_getElem? (i := 339) (by decide +kernel), List.mem_of_getElem? (i := 340) (by decide +kernel)⟩, fun h => absurd h (by decide), fun h => absurd h (by decide)⟩
theorem ag_mw_44 : ag_MW 44 := ⟨List.mem_of_getElem? (i := 842) (by decide +kernel), rfl, List.mem_of_getElem? (i := 23) (by decide +kernel), by decide +kernel, ⟨by decide +kernel, by decide +kernel⟩, by decide +kernel, by decide, fun _ => ⟨List.mem_of_getElem? (i := 840) (by decide +kernel), List.mem_of_getElem? (i := 841) (by decide +kernel)⟩, fun h => absurd h (by decide), fun h => absurd h (by decide)⟩
theorem ag_mw_45 : ag_MW 45 := ⟨List.mem_of_getElem? (i := 184) (by decide +kernel), rfl, List.mem_of_getElem? (i := 23) (by decide +kernel), by decide +kernel, ⟨by decide +kernel, by decide +kernel⟩, by decide +kernel, by decide, fun _ => ⟨List.mem_of_getElem? (i := 182) (by decide +kernel), List.mem_of_getElem? (i := 183) (by decide +kernel)⟩, fun h => absurd h (by decide), fun h => absurd h (by decide)⟩
theorem ag_mw_46 : ag_MW 46 := ⟨List.mem_of_getElem? (i := 220) (by decide +kernel), rfl, List.mem_of_getElem? (i := 23) (by decide +kernel), by decide +kernel, ⟨by decide +kernel, by decide +kernel⟩, by decide +kernel, by decide, fun _ => ⟨List.mem_of_getElem? (i := 218) (by decide +kernel), List.mem_of_getElem? (i := 219) (by decide +kernel)⟩, fun h => absurd h (by decide), fun h => absurd h (by decide)⟩
theorem ag_mw_47 : ag_MW 47 := ⟨List.mem_of_getElem? (i := 865) (by decide +kernel), rfl, List.mem_of_getElem? (i := 23) (by decide +kernel), by decide +kernel, ⟨by decide +kernel, by decide +kernel⟩, by decide +kernel, by decide, fun _ => ⟨List.mem_of_getElem? (i := 863) (by decide +kernel), List.mem_of_getElem? (i := 864) (by decide +kernel)⟩, fun h => absurd h (by decide), fun h => absurd h (by decide)⟩
theorem ag_mw_48 : ag_MW 48 := ⟨List.mem_of_getElem? (i := 848) (by decide +kernel), rfl, List.mem_of_getElem? (i := 23) (by decide +kernel), by decide +kernel, ⟨by decide +kernel, by decide +kernel⟩, by decide +kernel, by decide, fun _ => ⟨List.mem_of_getElem? (i := 846) (by decide +kernel), List.mem_of_getElem? (i := 847) (by decide +kernel)⟩, fun h => absurd h (by decide), fun h => absurd h (by decide)⟩
theorem ag_mw_49 : ag_MW 49 := ⟨List.mem_of_getElem? (i := 190) (by decide +kernel), rfl, List.mem_of_getElem? (i := 23) (by decide +kernel), by decide +kernel, ⟨by decide +kernel, by decide +kernel⟩, by decide +kernel, by decide, fun _ => ⟨List.mem_of_getElem? (i := 188) (by decide +kernel), List.mem_of_getElem? (i := 189) (by decide +kernel)⟩, fun h => absurd h (by decide), fun h => absurd h (by decide)⟩
theorem ag_mw_50 : ag_MW 50 := ⟨List.mem_of_getElem? (i := 175) (by decide +kernel), rfl, List.mem_of_getElem? (i := 23) (by decide +kernel), by decide +kernel, ⟨by decide +kernel, by decide +kernel⟩, by decide +kernel, by decide, fun _ => ⟨List.mem_of_getElem? (i := 173) (by decide +kernel), List.mem_of_getElem? (i := 174) (by decide +kernel)⟩, fun h => absurd h (by decide), fun h => absurd h (by decide)⟩
theorem ag_mw_51 : ag_MW 51 := ⟨List.mem_of_getElem? (i := 208) (by decide +kernel), rfl, List.mem_of_getElem? (i := 23) (by decide +kernel), by decide +kernel, ⟨by decide +kernel, by decide +kernel⟩, by decide +kernel, by decide, fun _ => ⟨List.mem_of_getElem? (i := 206) (by decide +kernel), List.mem_of_getElem? (i := 207) (by decide +kernel)⟩, fun h => absurd h (by decide), fun h => absurd h (by decide)⟩
theorem ag_mw_52 : ag_MW 52 := ⟨List.mem_of_getElem? (i := 383) (by decide +kernel), rfl, List.mem_of_getElem? (i := 23) (by decide +kernel), by decide +kernel, ⟨by decide +kernel, by decide +kernel⟩, by decide +kernel, by decide, fun _ => ⟨List.mem_of_getElem? (i := 381) (by decide +kernel), List.mem_of_getElem? (i := 382) (by decide +kernel)⟩, fun h => absurd h (by decide), fun h => absurd h (by decide)⟩
theorem ag_mw_53 : ag_MW 53 := ⟨List.mem_of_getElem? (i := 479) (by decide +kernel), rfl, List.mem_of_getElem? (i := 20) (by decide +kernel), by decide +kernel, ⟨by decide +kernel, by decide +kernel⟩, by decide +kernel, by decide, fun h => absurd h (by decide), fun h => absurd h (by decide), fun _ => ⟨List.mem_of_getElem? (i := 478) (by decide +kernel), rfl, rfl⟩⟩
theorem ag_mw_54 : ag_MW 54 := ⟨List.mem_of_getElem? (i := 829) (by decide +kernel), rfl, List.mem_of_getElem? (i := 20) (by decide +kernel), by decide +kernel, ⟨by decide +kernel, by decide +kernel⟩, by decide +kernel, by decide, fun _ => ⟨List.mem_of_getElem? (i := 827) (by decide +kernel), List.mem_of_getElem? (i := 828) (by decide +kernel)⟩, fun h => absurd h (by decide), fun h => absurd h (by decide)⟩
theorem ag_mw_55 : ag_MW 55 := ⟨List.mem_of_getElem? (i := 171) (by decide +kernel), rfl, List.mem_of_getElem? (i := 20) (by decide +kernel), by decide +kernel, ⟨by decide +kernel, by decide +kernel⟩, by decide +kernel, by decide, fun _ => ⟨List.mem_of_getElem? (i := 169) (by decide +kernel), List.mem_of_getElem? (i := 170) (by decide +kernel)⟩, fun h => absurd h (by decide), fun h => absurd h (by decide)⟩
theorem ag_mw_56 : ag_MW 56 := ⟨List.mem_of_getElem? (i := 152) (by decide +kernel), rfl, List.mem_of_getElem? (i := 20) (by decide +kernel), by decide +kernel, ⟨by decide +kernel, by decide +kernel⟩, by decide +kernel, by decide, fun _ => ⟨List.mem_of_getElem? (i := 150) (by decide +kernel), List.mem_of_getElem? (i := 151) (by decide +kernel)⟩, fun h => absurd h (by decide), fun h => absurd h (by decide)⟩
theorem ag_mw_57 : ag_MW 57 := ⟨List.mem_of_getElem? (i := 727) (by decide +kernel), rfl, List.mem_of_getElem? (i := 20) (by decide +kernel), by decide +kernel, ⟨by decide +kernel, by decide +kernel⟩, by decide +kernel, by decide, fun _ => ⟨List.mem_of_getElem? (i := 725) (by decide +kernel), List.mem_of_getElem? (i := 726) (by decide +kernel)⟩, fun h => absurd h (by decide), fun h => absurd h (by decide)⟩
theorem ag_mw_58 : ag_MW 58 := ⟨List.mem_of_getElem? (i := 438) (by decide +kernel), rfl, List.mem_of_getElem? (i := 18) (by decide +kernel), by decide +kernel, ⟨by decide +kernel, by decide +kernel⟩, by decide +kernel, by decide, fun h => absurd h (by decide), fun h => absurd h (by decide), fun _ => ⟨List.mem_of_getElem? (i := 437) (by decide +kernel), rfl, rfl⟩⟩
theorem ag_mw_59 : ag_MW 59 := ⟨List.mem_of_getElem? (i := 791) (by decide +kernel), rfl, List.mem_of_getElem? (i := 18) (by decide +kernel), by decide +kernel, ⟨by decide +kernel, by decide +kernel⟩, by decide +kernel, by decide, fun _ => ⟨List.mem_of_getElem? (i := 789) (by decide +kernel), List.mem_of_getElem? (i := 790) (by decide +kernel)⟩, fun h => absurd h (by decide), fun h => absurd h (by decide)⟩
theorem ag_mw_60 : ag_MW 60 := ⟨List.mem_of_getElem? (i := 36) (by decide +kernel), rfl, List.mem_of_getElem? (i := 18) (by decide +kernel), by decide +kernel, ⟨by decide +kernel, by decide +kernel⟩, by decide +kernel, by decide, fun _ => ⟨List.mem_of_getElem? (i := 34) (by decide +kernel), List.mem_of_getElem? (i := 35) (by decide +kernel)⟩, fun h => absurd h (by decide), fun h => absurd h (by decide)⟩
theorem ag_mw_61 : ag_MW 61 := ⟨List.mem_of_getElem? (i := 157) (by decide +kernel), rfl, List.mem_of_getElem? (i := 18) (by decide +kernel), by decide +kernel, ⟨by decide +kernel, by decide +kernel⟩, by decide +kernel, by decide, fun _ => ⟨List.mem_of_getElem? (i := 155) (by decide +kernel), List.mem_of_getElem? (i := 156) (by decide +kernel)⟩, fun h => absurd h (by decide), fun h => absurd h (by decide)⟩
theorem ag_mw_62 : ag_MW 62 := ⟨List.mem_of_getElem? (i := 837) (by decide +kernel), rfl, List.mem_of_getElem? (i := 18) (by decide +kernel), by decide +kernel, ⟨by decide +kernel, by decide +kernel⟩, by decide +kernel, by decide, fun _ => ⟨List.mem_of_getElem? (i := 835) (by decide +kernel), List.mem_of_getElem? (i := 836) (by decide +kernel)⟩, fun h => absurd h (by decide), fun h => absurd h (by decide)⟩
theorem ag_mw_63 : ag_MW 63 := ⟨List.mem_of_getElem? (i := 861) (by decide +kernel), rfl, List.mem_of_getElem? (i := 18) (by decide +kernel), by decide +kernel, ⟨by decide +kernel, by decide +kernel⟩, by decide +kernel, by decide, fun _ => ⟨List.mem_of_getElem? (i := 859) (by decide +kernel), List.mem_of_getElem? (i := 860) (by decide +kernel)⟩, fun h => absurd h (by decide), fun h => absurd h (by decide)⟩
theorem ag_mw_64 : ag_MW 64 := ⟨List.mem_of_getElem? (i := 879) (by decide +kernel), rfl, List.mem_of_getElem? (i := 18) (by decide +kernel), by decide +kernel, ⟨by decide +kernel, by decide +kernel⟩, by decide +kernel, by decide, fun _ => ⟨List.mem_of_getElem? (i := 877) (by decide +kernel), List.mem_of_getElem? (i := 878) (by decide +kernel)⟩, fun h => absurd h (by decide), fun h => absurd h (by decide)⟩
theorem ag_mw_65 : ag_MW 65 := ⟨List.mem_of_getElem? (i := 180) (by decide +kernel), rfl, List.mem_of_getElem? (i := 18) (by decide +kernel), by decide +kernel, ⟨by decide +kernel, by decide +kernel⟩, by decide +kernel, by decide, fun _ => ⟨List.mem_of_getElem? (i := 178) (by decide +kernel), List.mem_of_getElem? (i := 179) (by decide +kernel)⟩, fun h => absurd h (by decide), fun h => absurd h (by decide)⟩
theorem ag_mw_66 : ag_MW 66 := ⟨List.mem_of_getElem? (i := 194) (by decide +kernel), rfl, List.mem_of_getElem? (i := 18) (by decide +kernel), by decide +kernel, ⟨by decide +kernel, by decide +kernel⟩, by decide +kernel, by decide, fun _ => ⟨List.mem_of_getElem? (i := 192) (by decide +kernel), List.mem_of_getElem? (i := 193) (by decide +kernel)⟩, fun h => absurd h (by decide), fun h => absurd h (by decide)⟩
theorem ag_mw_67 : ag_MW 67 := ⟨List.mem_of_getElem? (i := 212) (by decide +kernel), rfl, List.mem_of_getElem? (i := 18) (by decide +kernel), by decide +kernel, ⟨by decide +kernel, by decide +kernel⟩, by decide +kernel, by decide, fun _ => ⟨List.mem_of_getElem? (i := 210) (by decide +kernel), List.mem_of_getElem? (i := 211) (by decide +kernel)⟩, fun h => absurd h (by decide), fun h => absurd h (by decide)⟩
theorem ag_mw_68 : ag_MW 68 := ⟨List.mem_of_getElem? (i := 809) (by decide +kernel), rfl, List.mem_of_getElem? (i := 18) (by decide +kernel), by decide +kernel, ⟨by decide +kernel, by decide +kernel⟩, by decide +kernel, by decide, fun _ => ⟨List.mem_of_getElem? (i := 807) (by decide +kernel), List.mem_of_getElem? (i := 808) (by decide +kernel)⟩, fun h => absurd h (by decide), fun h => absurd h (by decide)⟩
theorem ag_mw_69 : ag_MW 69 := ⟨List.mem_of_getElem? (i := 244) (by decide +kernel), rfl, List.mem_of_getElem? (i := 18) (by decide +kernel), by decide +kernel, ⟨by decide +kernel, by decide +kernel⟩, by decide +kernel, by decide, fun _ => ⟨List.mem_of_getElem? (i := 242) (by decide +kernel), List.mem_of_getElem? (i := 243) (by decide +kernel)⟩, fun h => absurd h (by decide), fun h => absurd h (by decide)⟩
theorem ag_mw_70 : ag_MW 70 := ⟨List.mem_of_getElem? (i := 278) (by decide +kernel), rfl, List.mem_of_getElem? (i := 18) (by decide +kernel), by decide +kernel, ⟨by decide +kernel, by decide +kernel⟩, by decide +kernel, by decide, fun _ => ⟨List.mem_of_getElem? (i := 276) (by decide +kernel), List.mem_of_getElem? (i := 277) (by decide +kernel)⟩, fun h => absurd h (by decide), fun h => absurd h (by decide)⟩
theorem ag_mw_71 : ag_MW 71 := ⟨List.mem_of_getElem? (i := 687) (by decide +kernel), rfl, List.mem_of_getElem? (i := 18) (by decide +kernel), by decide +kernel, ⟨by decide +kernel, by decide +kernel⟩, by decide +kernel, by decide, fun _ => ⟨List.mem_of_getElem? (i := 685) (by decide +kernel), List.mem_of_getElem? (i := 686) (by decide +kernel)⟩, fun h => absurd h (by decide), fun h => absurd h (by decide)⟩
theorem ag_mw_72 : ag_MW 72 := ⟨List.mem_of_getElem? (i := 888) (by decide +kernel), rfl, List.mem_of_getElem? (i := 18) (by decide +kernel), by decide +kernel, ⟨by decide +kernel, by decide +kernel⟩, by decide +kernel, by decide, fun _ => ⟨List.mem_of_getElem? (i := 886) (by decide +kernel), List.mem_of_getElem? (i := 887) (by decide +kernel)⟩, fun h => absurd h (by decide), fun h => absurd h (by decide)⟩
theorem ag_mw_73 : ag_MW 73 := ⟨List.mem_of_getElem? (i := 721) (by decide +kernel), rfl, List.mem_of_getElem? (i := 18) (by decide +kernel), by decide +kernel, ⟨by decide +kernel, by decide +kernel⟩, by decide +kernel, by decide, fun _ => ⟨List.mem_of_getElem? (i := 719) (by decide +kernel), List.mem_of_getElem? (i := 720) (by decide +kernel)⟩, fun h => absurd h (by decide), fun h => absurd h (by decide)⟩
theorem ag_mw_74 : ag_MW 74 := ⟨List.mem_of_getElem? (i := 283) (by decide +kernel), rfl, List.mem_of_getElem? (i := 18) (by decide +kernel), by decide +kernel, ⟨by decide +kernel, by decide +kernel⟩, by decide +kernel, by decide, fun _ => ⟨List.mem_of_getElem? (i := 281) (by decide +kernel), List.mem_of_getElem? (i := 282) (by decide +kernel)⟩, fun h => absurd h (by decide), fun h => absurd h (by decide)⟩
theorem ag_mw_75 : ag_MW 75 := ⟨List.mem_of_getElem? (i := 823) (by decide +kernel), rfl, List.mem_of_getElem? (i := 18) (by decide +kernel), by decide +kernel, ⟨by decide +kernel, by decide +kernel⟩, by decide +kernel, by decide, fun _ => ⟨List.mem_of_getElem? (i := 821) (by decide +kernel), List.mem_of_getElem? (i := 822) (by decide +kernel)⟩, fun h => absurd h (by decide), fun h => absurd h (by decide)⟩
theorem ag_mw_76 : ag_MW 76 := ⟨List.mem_of_getElem? (i := 305) (by decide +kernel), rfl, List.mem_of_getElem? (i := 18) (by decide +kernel), by decide +kernel, ⟨by decide +kernel, by decide +kernel⟩, by decide +kernel, by decide, fun _ => ⟨List.mem_of_getElem? (i := 303) (by decide +kernel), List.mem_of_getElem? (i := 304) (by decide +kernel)⟩, fun h => absurd h (by decide), fun h => absurd h (by decide)⟩
theorem ag_mw_77 : ag_MW 77 := ⟨List.mem_of_getElem? (i := 313) (by decide +kernel), rfl, List.mem_of_getElem? (i := 18) (by decide +kernel), by decide +kernel, ⟨by decide +kernel, by decide +kernel⟩, by decide +kernel, by decide, fun _ => ⟨List.mem_of_getElem? (i := 311) (by decide +kernel), List.mem_of_getElem? (i := 312) (by decide +kernel)⟩, fun h => absurd h (by decide), fun h => absurd h (by decide)⟩
theorem ag_mw_78 : ag_MW 78 := ⟨List.mem_of_getElem? (i := 322) (by decide +kernel), rfl, List.mem_of_getElem? (i := 18) (by decide +kernel), by decide +kernel, ⟨by decide +kernel, by decide +kernel⟩, by decide +kernel, by decide, fun _ => ⟨List.mem_of_getElem? (i := 320) (by decide +kernel), List.mem_of_getElem? (i := 321) (by decide +kernel)⟩, fun h => absurd h (by decide), fun h => absurd h (by decide)⟩
theorem ag_mw_79 : ag_MW 79 := ⟨List.mem_of_getElem? (i := 396) (by decide +kernel), rfl, List.mem_of_getElem? (i := 18) (by decide +kernel), by decide +kernel, ⟨by decide +kernel, by decide +kernel⟩, by decide +kernel, by decide, fun _ => ⟨List.mem_of_getElem? (i := 394) (by decide +kernel), List.mem_of_getElem? (i := 395) (by decide +kernel)⟩, fun h => absurd h (by decide), fun h => absurd h (by decide)⟩
theorem ag_mw_80 : ag_MW 80 := ⟨List.mem_of_getElem? (i := 417) (by decide +kernel), rfl, List.mem_of_getElem? (i := 18) (by decide +kernel), by decide +kernel, ⟨by decide +kernel, by decide +kernel⟩, by decide +kernel, by decide, fun _ => ⟨List.mem_of_getElem? (i := 415) (by decide +kernel), List.mem_of_getElem? (i := 416) (by decide +kernel)⟩, fun h => absurd h (by decide), fun h => absurd h (by decide)⟩
theorem ag_mw_81 : ag_MW 81 := ⟨List.mem_of_getElem? (i := 910) (by decide +kernel), rfl, List.mem_of_getElem? (i := 18) (by decide +kernel), by decide +kernel, ⟨by decide +kernel, by decide +kernel⟩, by decide +kernel, by decide, fun _ => ⟨List.mem_of_getElem? (i := 908) (by decide +kernel), List.mem_of_getElem? (i := 909) (by decide +kernel)⟩, fun h => absurd h (by decide), fun h => absurd h (by decide)⟩
theorem ag_mw_82 : ag_MW 82 := ⟨List.mem_of_getElem? (i := 426) (by decide +kernel), rfl, List.mem_of_getElem? (i := 18) (by decide +kernel), by decide +kernel, ⟨by decide +kernel, by decide +kernel⟩, by decide +kernel, by decide, fun _ => ⟨List.mem_of_getElem? (i := 424) (by decide +kernel), List.mem_of_getElem? (i := 425) (by decide +kernel)⟩, fun h => absurd h (by decide), fun h => absurd h (by decide)⟩
theorem ag_mw_83 : ag_MW 83 := ⟨List.mem_of_getElem? (i := 162) (by decide +kernel), rfl, List.mem_of_getElem? (i := 18) (by decide +kernel), by decide +kernel, ⟨by decide +kernel, by decide +kernel⟩, by decide +kernel, by decide, fun _ => ⟨List.mem_of_getElem? (i := 161) (by decide +kernel), List.mem_of_getElem? (i := 2) (by decide +kernel)⟩, fun h => absurd h (by decide), fun h => absurd h (by decide)⟩
theorem ag_mw_84 : ag_MW 84 := ⟨List.mem_of_getElem? (i := 131) (by decide +kernel), rfl, List.mem_of_getElem? (i := 18) (by decide +kernel), by decide +kernel, ⟨by decide +kernel, by decide +kernel⟩, by decide +kernel, by decide, fun _ => ⟨List.mem_of_getElem? (i := 129) (by decide +kernel), List.mem_of_getElem? (i := 1) (by decide +kernel)⟩, fun h => absurd h (by decide), fun h => absurd h (by decide)⟩
theorem ag_mw_85 : ag_MW 85 := ⟨List.mem_of_getElem? (i := 289) (by decide +kernel), rfl, List.mem_of_getElem? (i := 18) (by decide +kernel), by decide +kernel, ⟨by decide +kernel, by decide +kernel⟩, by decide +kernel, by decide, fun _ => ⟨List.mem_of_getElem? (i := 288) (by decide +kernel), List.mem_of_getElem? (i := 4) (by decide +kernel)⟩, fun h => absurd h (by decide), fun h => absurd h (by decide)⟩
theorem ag_mw_86 : ag_MW 86 := ⟨List.mem_of_getElem? (i := 297) (by decide +kernel), rfl, List.mem_of_getElem? (i := 18) (by decide +kernel), by decide +kernel, ⟨by decide +kernel, by decide +kernel⟩, by decide +kernel, by decide, fun _ => ⟨List.mem_of_getElem? (i := 296) (by decide +kernel), List.mem_of_getElem? (i := 5) (by decide +kernel)⟩, fun h => absurd h (by decide), fun h => absurd h (by decide)⟩
theorem ag_mw_87 : ag_MW 87 := ⟨List.mem_of_getElem? (i := 326) (by decide +kernel), rfl, List.mem_of_getElem? (i := 18) (by decide +kernel), by decide +kernel, ⟨by decide +kernel, by decide +kernel⟩, by decide +kernel, by decide, fun _ => ⟨List.mem_of_getElem? (i := 325) (by decide +kernel), List.mem_of_getElem? (i := 6) (by decide +kernel)⟩, fun h => absurd h (by decide), fun h => absurd h (by decide)⟩
theorem ag_mw_88 : ag_MW 88 := ⟨List.mem_of_getElem? (i := 400) (by decide +kernel), rfl, List.mem_of_getElem? (i := 18) (by decide +kernel), by decide +kernel, ⟨by decide +kernel, by decide +kernel⟩, by decide +kernel, by decide, fun _ => ⟨List.mem_of_getElem? (i := 399) (by decide +kernel), List.mem_of_getElem? (i := 11) (by decide +kernel)⟩, fun h => absurd h (by decide), fun h => absurd h (by decide)⟩
theorem ag_mw_89 : ag_MW 89 := ⟨List.mem_of_getElem? (i := 421) (by decide +kernel), rfl, List.mem_of_getElem? (i := 18) (by decide +kernel), by decide +kernel, ⟨by decide +kernel, by decide +kernel⟩, by decide +kernel, by decide, fun _ => ⟨List.mem_of_getElem? (i := 420) (by decide +kernel), List.mem_of_getElem? (i := 12) (by decide +kernel)⟩, fun h => absurd h (by decide), fun h => absurd h (by decide)⟩
theorem ag_mw_90 : ag_MW 90 := ⟨List.mem_of_getElem? (i := 914) (by decide +kernel), rfl, List.mem_of_getElem? (i := 18) (by decide +kernel), by decide +kernel, ⟨by decide +kernel, by decide +kernel⟩, by decide +kernel, by decide, fun _ => ⟨List.mem_of_getElem? (i := 913) (by decide +kernel), List.mem_of_getElem? (i := 15) (by decide +kernel)⟩, fun h => absurd h (by decide), fun h => absurd h (by decide)⟩
theorem ag_mw_91 : ag_MW 91 := ⟨List.mem_of_getElem? (i := 795) (by decide +kernel), rfl, List.mem_of_getElem? (i := 18) (by decide +kernel), by decide +kernel, ⟨by decide +kernel, by decide +kernel⟩, by decide +kernel, by decide, fun h => absurd h (by decide), fun _ => List.mem_of_getElem? (i := 794) (by decide +kernel), fun h => absurd h (by decide)⟩
theorem ag_mw_92 : ag_MW 92 := ⟨List.mem_of_getElem? (i := 134) (by decide +kernel), rfl, List.mem_of_getElem? (i := 18) (by decide +kernel), by decide +kernel, ⟨by decide +kernel, by decide +kernel⟩, by decide +kernel, by decide, fun h => absurd h (by decide), fun _ => List.mem_of_getElem? (i := 133) (by decide +kernel), fun h => absurd h (by decide)⟩
theorem ag_mw_93 : ag_MW 93 := ⟨List.mem_of_getElem? (i := 274) (by decide +kernel), rfl, List.mem_of_getElem? (i := 18) (by decide +kernel), by decide +kernel, ⟨by decide +kernel, by decide +kernel⟩, by decide +kernel, by decide, fun h => absurd h (by decide), fun _ => List.mem_of_getElem? (i := 273) (by decide +kernel), fun h => absurd h (by decide)⟩
theorem ag_mw_94 : ag_MW 94 := ⟨List.mem_of_getElem? (i := 337) (by decide +kernel), rfl, List.mem_of_getElem? (i := 18) (by decide +kernel), by decide +kernel, ⟨by decide +kernel, by decide +kernel⟩, by decide +kernel, by decide, fun h => absurd h (by decide), fun _ => List.mem_of_getElem? (i := 336) (by decide +kernel), fun h => absurd h (by decide)⟩
theorem ag_mw_95 : ag_MW 95 := ⟨List.mem_of_getElem? (i := 433) (by decide +kernel), rfl, List.mem_of_getElem? (i := 17) (by decide +kernel), by decide +kernel, ⟨by decide +kernel, by decide +kernel⟩, by decide +kernel, by decide, fun h => absurd h (by decide), fun h => absurd h (by decide), fun _ => ⟨List.mem_of_getElem? (i := 432) (by decide +kernel), rfl, rfl⟩⟩
theorem ag_mw_96 : ag_MW 96 := ⟨List.mem_of_getElem? (i := 673) (by decide +kernel), rfl, List.mem_of_getElem? (i := 17) (by decide +kernel), by decide +kernel, ⟨by decide +kernel, by decide +kernel⟩, by decide +kernel, by decide, fun _ => ⟨List.mem_of_getElem? (i := 671) (by decide +kernel), List.mem_of_getElem? (i := 672) (by decide +kernel)⟩, fun h => absurd h (by decide), fun h => absurd h (by decide)⟩
theorem ag_mw_97 : ag_MW 97 := ⟨List.mem_of_getElem? (i := 714) (by decide +kernel), rfl, List.mem_of_getElem? (i := 17) (by decide +kernel), by decide +kernel, ⟨by decide +kernel, by decide +kernel⟩, by decide +kernel, by decide, fun h => absurd h (by decide), fun _ => List.mem_of_getElem? (i := 713) (by decide +kernel), fun h => absurd h (by decide)⟩
theorem ag_mw_98 : ag_MW 98 := ⟨List.mem_of_getElem? (i := 775) (by decide +kernel), rfl, List.mem_of_getElem? (i := 17) (by decide +kernel), by decide +kernel, ⟨by decide +kernel, by decide +kernel⟩, by decide +kernel, by decide, fun h => absurd h (by decide), fun _ => List.mem_of_getElem? (i := 774) (by decide +kernel), fun h => absurd h (by decide)⟩
theorem ag_mw_99 : ag_MW 99 := ⟨List.mem_of_getElem? (i := 768) (by decide +kernel), rfl, List.mem_of_getElem? (i := 17) (by decide +kernel), by decide +kernel, ⟨by decide +kernel, by decide +kernel⟩, by decide +kernel, by decide, fun h => absurd h (by decide), fun _ => List.mem_of_getElem? (i := 767) (by decide +kernel), fun h => absurd h (by decide)⟩
theorem ag_mw_100 : ag_MW 100 := ⟨List.mem_of_getElem? (i := 711) (by decide +kernel), rfl, List.mem_of_getElem? (i := 17) (by decide +kernel), by decide +kernel, ⟨by decide +kernel, by decide +kernel⟩, by decide +kernel, by decide, fun _ => ⟨List.mem_of_getElem? (i := 709) (by decide +kernel), List.mem_of_getElem? (i := 710) (by decide +kernel)⟩, fun h => absurd h (by decide), fun h => absurd h (by decide)⟩
theorem ag_mw_101 : ag_MW 101 := ⟨List.mem_of_getElem? (i := 711) (by decide +kernel), rfl, List.mem_of_getElem? (i := 17) (by decide +kernel), by decide +kernel, ⟨by decide +kernel, by decide +kernel⟩, by decide +kernel, by decide, fun _ => ⟨List.mem_of_getElem? (i := 709) (by decide +kernel), List.mem_of_getElem? (i := 710) (by decide +kernel)⟩, fun h => absurd h (by decide), fun h => absurd h (by decide)⟩
theorem ag_mw_102 : ag_MW 102 := ⟨List.mem_of_getElem? (i := 711) (by decide +kernel), rfl, List.mem_of_getElem? (i := 17) (by decide +kernel), by decide +kernel, ⟨by decide +kernel, by decide +kernel⟩, by decide +kernel, by decide, fun _ => ⟨List.mem_of_getElem? (i := 709) (by decide +kernel), List.mem_of_getElem? (i := 710) (by decide +kernel)⟩, fun h => absurd h (by decide), fun h => absurd h (by decide)⟩
theorem ag_mw_103 : ag_MW 103 := ⟨List.mem_of_getElem? (i := 711) (by decide +kernel), rfl, List.mem_of_getElem? (i := 17) (by decide +kernel), by decide +kernel, ⟨by decide +kernel, by decide +kernel⟩, by decide +kernel, by decide, fun _ => ⟨List.mem_of_getElem? (i := 709) (by decide +kernel), List.mem_of_getElem? (i := 710) (by decide +kernel)⟩, fun h => absurd h (by decide), fun h => absurd h (by decide)⟩
theorem ag_mw_104 : ag_MW 104 := ⟨List.mem_of_getElem? (i := 711) (by decide +kernel), rfl, List.mem_of_getElem? (i := 17) (by decide +kernel), by decide +kernel, ⟨by decide +kernel, by decide +kernel⟩, by decide +kernel, by decide, fun _ => ⟨List.mem_of_getElem? (i := 709) (by decide +kernel), List.mem_of_getElem? (i := 710) (by decide +kernel)⟩, fun h => absurd h (by decide), fun h => absurd h (by decide)⟩
theorem ag_mw_105 : ag_MW 105 := ⟨List.mem_of_getElem? (i := 707) (by decide +kernel), rfl, List.mem_of_getElem? (i := 17) (by decide +kernel), by decide +kernel, ⟨by decide +kernel, by decide +kernel⟩, by decide +kernel, by decide, fun _ => ⟨List.mem_of_getElem? (i := 705) (by decide +kernel), List.mem_of_getElem? (i := 706) (by decide +kernel)⟩, fun h => absurd h (by decide), fun h => absurd h (by decide)⟩
theorem ag_mw_106 : ag_MW 106 := ⟨List.mem_of_getElem? (i := 765) (by decide +kernel), rfl, List.mem_of_getElem? (i := 17) (by decide +kernel), by decide +kernel, ⟨by decide +kernel, by decide +kernel⟩, by decide +kernel, by decide, fun _ => ⟨List.mem_of_getElem? (i := 764) (by decide +kernel), List.mem_of_getElem? (i := 13) (by decide +kernel)⟩, fun h => absurd h (by decide), fun h => absurd h (by decide)⟩
theorem ag_mw_107 : ag_MW 107 := ⟨List.mem_of_getElem? (i := 772) (by decide +kernel), rfl, List.mem_of_getElem? (i := 17) (by decide +kernel), by decide +kernel, ⟨by decide +kernel, by decide +kernel⟩, by decide +kernel, by decide, fun _ => ⟨List.mem_of_getElem? (i := 770) (by decide +kernel), List.mem_of_getElem? (i := 771) (by decide +kernel)⟩, fun h => absurd h (by decide), fun h => absurd h (by decide)⟩
theorem ag_mw_108 : ag_MW 108 := ⟨List.mem_of_getElem? (i := 779) (by decide +kernel), rfl, List.mem_of_getElem? (i := 17) (by decide +kernel), by decide +kernel, ⟨by decide +kernel, by decide +kernel⟩, by decide +kernel, by decide, fun _ => ⟨List.mem_of_getElem? (i := 778) (by decide +kernel), List.mem_of_getElem? (i := 14) (by decide +kernel)⟩, fun h => absurd h (by decide), fun h => absurd h (by decide)⟩
theorem ag_mw_109 : ag_MW 109 := ⟨List.mem_of_getElem? (i := 787) (by decide +kernel), rfl, List.mem_of_getElem? (i := 17) (by decide +kernel), by decide +kernel, ⟨by decide +kernel, by decide +kernel⟩, by decide +kernel, by decide, fun _ => ⟨List.mem_of_getElem? (i := 785) (by decide +kernel), List.mem_of_getElem? (i := 786) (by decide +kernel)⟩, fun h => absurd h (by decide), fun h => absurd h (by decide)⟩
theorem ag_mw_110 : ag_MW 110 := ⟨List.mem_of_getElem? (i := 745) (by decide +kernel), rfl, List.mem_of_getElem? (i := 17) (by decide +kernel), by decide +kernel, ⟨by decide +kernel, by decide +kernel⟩, by decide +kernel, by decide, fun _ => ⟨List.mem_of_getElem? (i := 743) (by decide +kernel), List.mem_of_getElem? (i := 744) (by decide +kernel)⟩, fun h => absurd h (by decide), fun h => absurd h (by decide)⟩
theorem ag_mw_111 : ag_MW 111 := ⟨List.mem_of_getElem? (i := 741) (by decide +kernel), rfl, List.mem_of_getElem? (i := 17) (by decide +kernel), by decide +kernel, ⟨by decide +kernel, by decide +kernel⟩, by decide +kernel, by decide, fun _ => ⟨List.mem_of_getElem? (i := 739) (by decide +kernel), List.mem_of_getElem? (i := 740) (by decide +kernel)⟩, fun h => absurd h (by decide), fun h => absurd h (by decide)⟩
theorem ag_mw_112 : ag_MW 112 := ⟨List.mem_of_getElem? (i := 833) (by decide +kernel), rfl, List.mem_of_getElem? (i := 17) (by decide +kernel), by decide +kernel, ⟨by decide +kernel, by decide +kernel⟩, by decide +kernel, by decide, fun _ => ⟨List.mem_of_getElem? (i := 831) (by decide +kernel), List.mem_of_getElem? (i := 832) (by decide +kernel)⟩, fun h => absurd h (by decide), fun h => absurd h (by decide)⟩
theorem ag_mw_113 : ag_MW 113 := ⟨List.mem_of_getElem? (i := 857) (by decide +kernel), rfl, List.mem_of_getElem? (i := 17) (by decide +kernel), by decide +kernel, ⟨by decide +kernel, by decide +kernel⟩, by decide +kernel, by decide, fun _ => ⟨List.mem_of_getElem? (i := 855) (by decide +kernel), List.mem_of_getElem? (i := 856) (by decide +kernel)⟩, fun h => absurd h (by decide), fun h => absurd h (by decide)⟩
theorem ag_mw_114 : ag_MW 114 := ⟨List.mem_of_getElem? (i := 749) (by decide +kernel), rfl, List.mem_of_getElem? (i := 17) (by decide +kernel), by decide +kernel, ⟨by decide +kernel, by decide +kernel⟩, by decide +kernel, by decide, fun _ => ⟨List.mem_of_getElem? (i := 747) (by decide +kernel), List.mem_of_getElem? (i := 748) (by decide +kernel)⟩, fun h => absurd h (by decide), fun h => absurd h (by decide)⟩
theorem ag_mw_115 : ag_MW 115 := ⟨List.mem_of_getElem? (i := 749) (by decide +kernel), rfl, List.mem_of_getElem? (i := 17) (by decide +kernel), by decide +kernel, ⟨by decide +kernel, by decide +kernel⟩, by decide +kernel, by decide, fun _ => ⟨List.mem_of_getElem? (i := 747) (by decide +kernel), List.mem_of_getElem? (i := 748) (by decide +kernel)⟩, fun h => absurd h (by decide), fun h => absurd h (by decide)⟩
theorem ag_mw_116 : ag_MW 116 := ⟨List.mem_of_getElem? (i := 875) (by decide +kernel), rfl, List.mem_of_getElem? (i := 17) (by decide +kernel), by decide +kernel, ⟨by decide +kernel, by decide +kernel⟩, by decide +kernel, by decide, fun _ => ⟨List.mem_of_getElem? (i := 873) (by decide +kernel), List.mem_of_getElem? (i := 874) (by decide +kernel)⟩, fun h => absurd h (by decide), fun h => absurd h (by decide)⟩
theorem ag_mw_117 : ag_MW 117 := ⟨List.mem_of_getElem? (i := 703) (by decide +kernel), rfl, List.mem_of_getElem? (i := 17) (by decide +kernel), by decide +kernel, ⟨by decide +kernel, by decide +kernel⟩, by decide +kernel, by decide, fun _ => ⟨List.mem_of_getElem? (i := 701) (by decide +kernel), List.mem_of_getElem? (i := 702) (by decide +kernel)⟩, fun h => absurd h (by decide), fun h => absurd h (by decide)⟩
theorem ag_mw_118 : ag_MW 118 := ⟨List.mem_of_getElem? (i := 761) (by decide +kernel), rfl, List.mem_of_getElem? (i := 17) (by decide +kernel), by decide +kernel, ⟨by decide +kernel, by decide +kernel⟩, by decide +kernel, by decide, fun _ => ⟨List.mem_of_getElem? (i := 759) (by decide +kernel), List.mem_of_getElem? (i := 760) (by decide +kernel)⟩, fun h => absurd h (by decide), fun h => absurd h (by decide)⟩
theorem ag_mw_119 : ag_MW 119 := ⟨List.mem_of_getElem? (i := 757) (by decide +kernel), rfl, List.mem_of_getElem? (i := 17) (by decide +kernel), by decide +kernel, ⟨by decide +kernel, by decide +kernel⟩, by decide +kernel, by decide, fun _ => ⟨List.mem_of_getElem? (i := 755) (by decide +kernel), List.mem_of_getElem? (i := 756) (by decide +kernel)⟩, fun h => absurd h (by decide), fun h => absurd h (by decide)⟩
theorem ag_mw_120 : ag_MW 120 := ⟨List.mem_of_getElem? (i := 753) (by decide +kernel), rfl, List.mem_of_getElem? (i := 17) (by decide +kernel), by decide +kernel, ⟨by decide +kernel, by decide +kernel⟩, by decide +kernel, by decide, fun _ => ⟨List.mem_of_getElem? (i := 751) (by decide +kernel), List.mem_of_getElem? (i := 752) (by decide +kernel)⟩, fun h => absurd h (by decide), fun h => absurd h (by decide)⟩
theorem ag_mw_121 : ag_MW 121 := ⟨List.mem_of_getElem? (i := 737) (by decide +kernel), rfl, List.mem_of_getElem? (i := 17) (by decide +kernel), by decide +kernel, ⟨by decide +kernel, by decide +kernel⟩, by decide +kernel, by decide, fun _ => ⟨List.mem_of_getElem? (i := 735) (by decide +kernel), List.mem_of_getElem? (i := 736) (by decide +kernel)⟩, fun h => absurd h (by decide), fun h => absurd h (by decide)⟩
theorem ag_mw_122 : ag_MW 122 := ⟨List.mem_of_getElem? (i := 733) (by decide +kernel), rfl, List.mem_of_getElem? (i := 17) (by decide +kernel), by decide +kernel, ⟨by decide +kernel, by decide +kernel⟩, by decide +kernel, by decide, fun _ => ⟨List.mem_of_getElem? (i := 731) (by decide +kernel), List.mem_of_getElem? (i := 732) (by decide +kernel)⟩, fun h => absurd h (by decide), fun h => absurd h (by decide)⟩
theorem ag_mw_123 : ag_MW 123 := ⟨List.mem_of_getElem? (i := 805) (by decide +kernel), rfl, List.mem_of_getElem? (i := 17) (by decide +kernel), by decide +kernel, ⟨by decide +kernel, by decide +kernel⟩, by decide +kernel, by decide, fun _ => ⟨List.mem_of_getElem? (i := 803) (by decide +kernel), List.mem_of_getElem? (i := 804) (by decide +kernel)⟩, fun h => absurd h (by decide), fun h => absurd h (by decide)⟩
theorem ag_mw_124 : ag_MW 124 := ⟨List.mem_of_getElem? (i := 852) (by decide +kernel), rfl, List.mem_of_getElem? (i := 17) (by decide +kernel), by decide +kernel, ⟨by decide +kernel, by decide +kernel⟩, by decide +kernel, by decide, fun _ => ⟨List.mem_of_getElem? (i := 850) (by decide +kernel), List.mem_of_getElem? (i := 851) (by decide +kernel)⟩, fun h => absurd h (by decide), fun h => absurd h (by decide)⟩
theorem ag_mw_125 : ag_MW 125 := ⟨List.mem_of_getElem? (i := 665) (by decide +kernel), rfl, List.mem_of_getElem? (i := 17) (by decide +kernel), by decide +kernel, ⟨by decide +kernel, by decide +kernel⟩, by decide +kernel, by decide, fun _ => ⟨List.mem_of_getElem? (i := 663) (by decide +kernel), List.mem_of_getElem? (i := 664) (by decide +kernel)⟩, fun h => absurd h (by decide), fun h => absurd h (by decide)⟩
theorem ag_mw_126 : ag_MW 126 := ⟨List.mem_of_getElem? (i := 669) (by decide +kernel), rfl, List.mem_of_getElem? (i := 17) (by decide +kernel), by decide +kernel, ⟨by decide +kernel, by decide +kernel⟩, by decide +kernel, by decide, fun _ => ⟨List.mem_of_getElem? (i := 667) (by decide +kernel), List.mem_of_getElem? (i := 668) (by decide +kernel)⟩, fun h => absurd h (by decide), fun h => absurd h (by decide)⟩
theorem ag_mw_127 : ag_MW 127 := ⟨List.mem_of_getElem? (i := 884) (by decide +kernel), rfl, List.mem_of_getElem? (i := 17) (by decide +kernel), by decide +kernel, ⟨by decide +kernel, by decide +kernel⟩, by decide +kernel, by decide, fun _ => ⟨List.mem_of_getElem? (i := 882) (by decide +kernel), List.mem_of_getElem? (i := 883) (by decide +kernel)⟩, fun h => absurd h (by decide), fun h => absurd h (by decide)⟩
theorem ag_mw_128 : ag_MW 128 := ⟨List.mem_of_getElem? (i := 698) (by decide +kernel), rfl, List.mem_of_getElem? (i := 17) (by decide +kernel), by decide +kernel, ⟨by decide +kernel, by decide +kernel⟩, by decide +kernel, by decide, fun _ => ⟨List.mem_of_getElem? (i := 696) (by decide +kernel), List.mem_of_getElem? (i := 697) (by decide +kernel)⟩, fun h => absurd h (by decide), fun h => absurd h (by decide)⟩
theorem ag_mw_129 : ag_MW 129 := ⟨List.mem_of_getElem? (i := 819) (by decide +kernel), rfl, List.mem_of_getElem? (i := 17) (by decide +kernel), by decide +kernel, ⟨by decide +kernel, by decide +kernel⟩, by decide +kernel, by decide, fun _ => ⟨List.mem_of_getElem? (i := 817) (by decide +kernel), List.mem_of_getElem? (i := 818) (by decide +kernel)⟩, fun h => absurd h (by decide), fun h => absurd h (by decide)⟩
theorem ag_mw_130 : ag_MW 130 := ⟨List.mem_of_getElem? (i := 783) (by decide +kernel), rfl, List.mem_of_getElem? (i := 17) (by decide +kernel), by decide +kernel, ⟨by decide +kernel, by decide +kernel⟩, by decide +kernel, by decide, fun _ => ⟨List.mem_of_getElem? (i := 781) (by decide +kernel), List.mem_of_getElem? (i := 782) (by decide +kernel)⟩, fun h => absurd h (by decide), fun h => absurd h (by decide)⟩
theorem ag_mw_131 : ag_MW 131 := ⟨List.mem_of_getElem? (i := 871) (by decide +kernel), rfl, List.mem_of_getElem? (i := 17) (by decide +kernel), by decide +kernel, ⟨by decide +kernel, by decide +kernel⟩, by decide +kernel, by decide, fun _ => ⟨List.mem_of_getElem? (i := 869) (by decide +kernel), List.mem_of_getElem? (i := 870) (by decide +kernel)⟩, fun h => absurd h (by decide), fun h => absurd h (by decide)⟩
theorem ag_mw_132 : ag_MW 132 := ⟨List.mem_of_getElem? (i := 680) (by decide +kernel), rfl, List.mem_of_getElem? (i := 16) (by decide +kernel), by decide +kernel, ⟨by decide +kernel, by decide +kernel⟩, by decide +kernel, by decide, fun h => absurd h (by decide), fun _ => List.mem_of_getElem? (i := 679) (by decide +kernel), fun h => absurd h (by decide)⟩
theorem ag_mw_133 : ag_MW 133 := ⟨List.mem_of_getElem? (i := 676) (by decide +kernel), rfl, List.mem_of_getElem? (i := 16) (by decide +kernel), by decide +kernel, ⟨by decide +kernel, by decide +kernel⟩, by decide +kernel, by decide, fun h => absurd h (by decide), fun _ => List.mem_of_getElem? (i := 675) (by decide +kernel), fun h => absurd h (by decide)⟩
theorem ag_mw_134 : ag_MW 134 := ⟨List.mem_of_getElem? (i := 902) (by decide +kernel), rfl, List.mem_of_getElem? (i := 16) (by decide +kernel), by decide +kernel, ⟨by decide +kernel, by decide +kernel⟩, by decide +kernel, by decide, fun h => absurd h (by decide), fun _ => List.mem_of_getElem? (i := 901) (by decide +kernel), fun h => absurd h (by decide)⟩
theorem ag_mw_135 : ag_MW 135 := ⟨List.mem_of_getElem? (i := 905) (by decide +kernel), rfl, List.mem_of_getElem? (i := 16) (by decide +kernel), by decide +kernel, ⟨by decide +kernel, by decide +kernel⟩, by decide +kernel, by decide, fun h => absurd h (by decide), fun _ => List.mem_of_getElem? (i := 904) (by decide +kernel), fun h => absurd h (by decide)⟩
def ag_MW3 (y : Nat) : Prop := 3 ≤ y → y < 136 → ag_MW y
theorem ag_mw_go3_g0 (k : Nat) (h : k < 20) : ag_MW3 (0 + k) := by
  match k, h with
  | 0, _ => exact (fun h _ => absurd h (by decide))
  | 1, _ => exact (fun h _ => absurd h (by decide))
  | 2, _ => exact (fun h _ => absurd h (by decide))
  | 3, _ => exact (fun _ _ => ag_mw_3)
  | 4, _ => exact (fun _ _ => ag_mw_4)
  | 5, _ => exact (fun _ _ => ag_mw_5)
  | 6, _ => exact (fun _ _ => ag_mw_6)
  | 7, _ => exact (fun _ _ => ag_mw_7)
  | 8, _ => exact (fun _ _ => ag_mw_8)
  | 9, _ => exact (fun _ _ => ag_mw_9)
  | 10, _ => exact (fun _ _ => ag_mw_10)
  | 11, _ => exact (fun _ _ => ag_mw_11)
  | 12, _ => exact (fun _ _ => ag_mw_12)
  | 13, _ => exact (fun _ _ => ag_mw_13)
  | 14, _ => exact (fun _ _ => ag_mw_14)
  | 15, _ => exact (fun _ _ => ag_mw_15)
  | 16, _ => exact (fun _ _ => ag_mw_16)
  | 17, _ => exact (fun _ _ => ag_mw_17)
  | 18, _ => exact (fun _ _ => ag_mw_18)
  | 19, _ => exact (fun _ _ => ag_mw_19)
  | n + 20, h => exact absurd h (by omega)
theorem ag_mw_go3_g20 (k : Nat) (h : k < 20) : ag_MW3 (20 + k) := by
  match k, h with
  | 0, _ => exact (fun _ _ => ag_mw_20)
  | 1, _ => exact (fun _ _ => ag_mw_21)
  | 2, _ => exact (fun _ _ => ag_mw_22)
  | 3, _ => exact (fun _ _ => ag_mw_23)
  | 4, _ => exact (fun _ _ => ag_mw_24)
  | 5, _ => exact (fun _ _ => ag_mw_25)
  | 6, _ => exact (fun _ _ => ag_mw_26)
  | 7, _ => exact (fun _ _ => ag_mw_27)
  | 8, _ => exact (fun _ _ => ag_mw_28)
  | 9, _ => exact (fun _ _ => ag_mw_29)
  | 10, _ => exact (fun _ _ => ag_mw_30)
  | 11, _ => exact (fun _ _ => ag_mw_31)
  | 12, _ => exact (fun _ _ => ag_mw_32)
  | 13, _ => exact (fun _ _ => ag_mw_33)
  | 14, _ => exact (fun _ _ => ag_mw_34)
  | 15, _ => exact (fun _ _ => ag_mw_35)
  | 16, _ => exact (fun _ _ => ag_mw_36)
  | 17, _ => exact (fun _ _ => ag_mw_37)
  | 18, _ => exact (fun _ _ => ag_mw_38)
  | 19, _ => exact (fun _ _ => ag_mw_39)
  | n + 20, h => exact absurd h (by omega)
theorem ag_mw_go3_g40 (k : Nat) (h : k < 20) : ag_MW3 (40 + k) := by
  match k, h with
  | 0, _ => exact (fun _ _ => ag_mw_40)
  | 1, _ => exact (fun _ _ => ag_mw_41)
  | 2, _ => exact (fun _ _ => ag_mw_42)
  | 3, _ => exact (fun _ _ => ag_mw_43)
  | 4, _ => exact (fun _ _ => ag_mw_44)
  | 5, _ => exact (fun _ _ => ag_mw_45)
  | 6, _ => exact (fun _ _ => ag_mw_46)
  | 7, _ => exact (fun _ _ => ag_mw_47)
  | 8, _ => exact (fun _ _ => ag_mw_48)
  | 9, _ => exact (fun _ _ => ag_mw_49)
  | 10, _ => exact (fun _ _ => ag_mw_50)
  | 11, _ => exact (fun _ _ => ag_mw_51)
  | 12, _ => exact (fun _ _ => ag_mw_52)
  | 13, _ => exact (fun _ _ => ag_mw_53)
  | 14, _ => exact (fun _ _ => ag_mw_54)
  | 15, _ => exact (fun _ _ => ag_mw_55)
  | 16, _ => exact (fun _ _ => ag_mw_56)
  | 17, _ => exact (fun _ _ => ag_mw_57)
  | 18, _ => exact (fun _ _ => ag_mw_58)
  | 19, _ => exact (fun _ _ => ag_mw_59)
  | n + 20, h => exact absurd h (by omega)
theorem ag_mw_go3_g60 (k : Nat) (h : k < 20) : ag_MW3 (60 + k) := by
  match k, h with
  | 0, _ => exact (fun _ _ => ag_mw_60)
  | 1, _ => exact (fun _ _ => ag_mw_61)
  | 2, _ => exact (fun _ _ => ag_mw_62)
  | 3, _ => exact (fun _ _ => ag_mw_63)
  | 4, _ => exact (fun _ _ => ag_mw_64)
  | 5, _ => exact (fun _ _ => ag_mw_65)
  | 6, _ => exact (fun _ _ => ag_mw_66)
  | 7, _ => exact (fun _ _ => ag_mw_67)
  | 8, _ => exact (fun _ _ => ag_mw_68)
  | 9, _ => exact (fun _ _ => ag_mw_69)
  | 10, _ => exact (fun _ _ => ag_mw_70)
  | 11, _ => exact (fun _ _ => ag_mw_71)
  | 12, _ => exact (fun _ _ => ag_mw_72)
  | 13, _ => exact (fun _ _ => ag_mw_73)
  | 14, _ => exact (fun _ _ => ag_mw_74)
  | 15, _ => exact (fun _ _ => ag_mw_75)
  | 16, _ => exact (fun _ _ => ag_mw_76)
  | 17, _ => exact (fun _ _ => ag_mw_77)
  | 18, _ => exact (fun _ _ => ag_mw_78)
  | 19, _ => exact (fun _ _ => ag_mw_79)
  | n + 20, h => exact absurd h (by omega)
theorem ag_mw_go3_g80 (k : Nat) (h : k < 20) : ag_MW3 (80 + k) := by
  match k, h with
  | 0, _ => exact (fun _ _ => ag_mw_80)
  | 1, _ => exact (fun _ _ => ag_mw_81)
  | 2, _ => exact (fun _ _ => ag_mw_82)
  | 3, _ => exact (fun _ _ => ag_mw_83)
  | 4, _ => exact (fun _ _ => ag_mw_84)
  | 5, _ => exact (fun _ _ => ag_mw_85)
  | 6, _ => exact (fun _ _ => ag_mw_86)
  | 7, _ => exact (fun _ _ => ag_mw_87)
  | 8, _ => exact (fun _ _ => ag_mw_88)
  | 9, _ => exact (fun _ _ => ag_mw_89)
  | 10, _ => exact (fun _ _ => ag_mw_90)
  | 11, _ => exact (fun _ _ => ag_mw_91)
  | 12, _ => exact (fun _ _ => ag_mw_92)
  | 13, _ => exact (fun _ _ => ag_mw_93)
  | 14, _ => exact (fun _ _ => ag_mw_94)
  | 15, _ => exact (fun _ _ => ag_mw_95)
  | 16, _ => exact (fun _ _ => ag_mw_96)
  | 17, _ => exact (fun _ _ => ag_mw_97)
  | 18, _ => exact (fun _ _ => ag_mw_98)
  | 19, _ => exact (fun _ _ => ag_mw_99)
  | n + 20, h => exact absurd h (by omega)
theorem ag_mw_go3_g100 (k : Nat) (h : k < 20) : ag_MW3 (100 + k) := by
  match k, h with
  | 0, _ => exact (fun _ _ => ag_mw_100)
  | 1, _ => exact (fun _ _ => ag_mw_101)
  | 2, _ => exact (fun _ _ => ag_mw_102)
  | 3, _ => exact (fun _ _ => ag_mw_103)
  | 4, _ => exact (fun _ _ => ag_mw_104)
  | 5, _ => exact (fun _ _ => ag_mw_105)
  | 6, _ => exact (fun _ _ => ag_mw_106)
  | 7, _ => exact (fun _ _ => ag_mw_107)
  | 8, _ => exact (fun _ _ => ag_mw_108)
  | 9, _ => exact (fun _ _ => ag_mw_109)
  | 10, _ => exact (fun _ _ => ag_mw_110)
  | 11, _ => exact (fun _ _ => ag_mw_111)
  | 12, _ => exact (fun _ _ => ag_mw_112)
  | 13, _ => exact (fun _ _ => ag_mw_113)
  | 14, _ => exact (fun _ _ => ag_mw_114)
  | 15, _ => exact (fun _ _ => ag_mw_115)
  | 16, _ => exact (fun _ _ => ag_mw_116)
  | 17, _ => exact (fun _ _ => ag_mw_117)
  | 18, _ => exact (fun _ _ => ag_mw_118)
  | 19, _ => exact (fun _ _ => ag_mw_119)
  | n + 20, h => exact absurd h (by omega)
theorem ag_mw_go3_g120 (k : Nat) (h : k < 16) : ag_MW3 (120 + k) := by
  match k, h with
  | 0, _ => exact (fun _ _ => ag_mw_120)
  | 1, _ => exact (fun _ _ => ag_mw_121)
  | 2, _ => exact (fun _ _ => ag_mw_122)
  | 3, _ => exact (fun _ _ => ag_mw_123)
  | 4, _ => exact (fun _ _ => ag_mw_124)
  | 5, _ => exact (fun _ _ => ag_mw_125)
  | 6, _ => exact (fun _ _ => ag_mw_126)
  | 7, _ => exact (fun _ _ => ag_mw_127)
  | 8, _ => exact (fun _ _ => ag_mw_128)
  | 9, _ => exact (fun _ _ => ag_mw_129)
  | 10, _ => exact (fun _ _ => ag_mw_130)
  | 11, _ => exact (fun _ _ => ag_mw_131)
  | 12, _ => exact (fun _ _ => ag_mw_132)
  | 13, _ => exact (fun _ _ => ag_mw_133)
  | 14, _ => exact (fun _ _ => ag_mw_134)
  | 15, _ => exact (fun _ _ => ag_mw_135)
  | n + 16, h => exact absurd h (by omega)
theorem ag_mw_go3 (y : Nat) : ag_MW3 y := by
  rcases Nat.lt_or_ge y 20 with h20 | h20
  · have hy : y = 0 + (y - 0) := by omega
    rw [hy]
    exact ag_mw_go3_g0 (y - 0) (by omega)
  rcases Nat.lt_or_ge y 40 with h40 | h40
  · have hy : y = 20 + (y - 20) := by omega
    rw [hy]
    exact ag_mw_go3_g20 (y - 20) (by omega)
  rcases Nat.lt_or_ge y 60 with h60 | h60
  · have hy : y = 40 + (y - 40) := by omega
    rw [hy]
    exact ag_mw_go3_g40 (y - 40) (by omega)
  rcases Nat.lt_or_ge y 80 with h80 | h80
  · have hy : y = 60 + (y - 60) := by omega
    rw [hy]
    exact ag_mw_go3_g60 (y - 60) (by omega)
  rcases Nat.lt_or_ge y 100 with h100 | h100
  · have hy : y = 80 + (y - 80) := by omega
    rw [hy]
    exact ag_mw_go3_g80 (y - 80) (by omega)
  rcases Nat.lt_or_ge y 120 with h120 | h120
  · have hy : y = 100 + (y - 100) := by omega
    rw [hy]
    exact ag_mw_go3_g100 (y - 100) (by omega)
  rcases Nat.lt_or_ge y 136 with h136 | h136
  · have hy : y = 120 + (y - 120) := by omega
    rw [hy]
    exact ag_mw_go3_g120 (y - 120) (by omega)
  exact (fun _ h => absurd h (by omega))
theorem ag_mw_go (q : Nat) (h1 : 3 ≤ q) (h2 : q < 136) : ag_MW q := ag_mw_go3 q h1 h2
/-- an entry of a pool that is a method, as method y calls it -/
def ag_CW (y idx y' n kd : Nat) : Prop := match kd with
  | 5 => y' = 0 ∧ Cond.methodLink (ag_on (ag_ow y)) idx objectInit ∈ lw_tbl
  | 6 => y' = 1 ∧ n = 2 ∧ Cond.methodLink (ag_on (ag_ow y)) idx Lib.Math.max.name ∈ lw_tbl
  | 7 => y' = 2 ∧ Cond.methodLink (ag_on (ag_ow y)) idx arraycopyName ∈ lw_tbl
  | 10 => y' = 1 ∧ n = 1 ∧ Cond.methodLink (ag_on (ag_ow y)) idx Jvm.Free.Fl.Abs.absDN ∈ lw_tbl
  | 0 => 3 ≤ y' ∧ y' < 136 ∧ ag_rk y' < ag_rk y ∧ n = ag_np y' + 1 ∧ ag_mk y' = 0 ∧ Cond.methodLink (ag_on (ag_ow y)) idx (ag_ny y') ∈ lw_tbl
  | 9 => 3 ≤ y' ∧ y' < 136 ∧ ag_rk y' < ag_rk y ∧ n = ag_np y' + 1 ∧ ag_mk y' = 5 ∧ Cond.methodLink (ag_on (ag_ow y)) idx (ag_ny y') ∈ lw_tbl
  | 1 => 3 ≤ y' ∧ y' < 136 ∧ ag_rk y' < ag_rk y ∧ n = ag_np y' ∧ ag_mk y' = 1 ∧ (ag_ny y').cls = ag_on (ag_ow y) ∧ Cond.methodLink (ag_on (ag_ow y)) idx (ag_ny y') ∈ lw_tbl
  | 8 => 3 ≤ y' ∧ y' < 136 ∧ ag_rk y' < ag_rk y ∧ n = ag_np y' ∧ ag_mk y' = 3 ∧ Cond.methodLink (ag_on (ag_ow y)) idx (ag_ny y') ∈ lw_tbl
  | 2 => 3 ≤ y' ∧ y' < 136 ∧ ag_rk y' < ag_rk y ∧ n = ag_np y' ∧ ag_mk y' = 1 ∧ ¬ ag_hx y ∧ Cond.methodLinkNest (ag_on (ag_ow y)) idx (ag_ny y') (ag_host (ag_ow y)) ∈ lw_tbl
  | 3 => 3 ≤ y' ∧ y' < 136 ∧ ag_rk y' < ag_rk y ∧ n = ag_np y' + 1 ∧ ag_mk y' = 2 ∧ ¬ ag_hx y ∧ Cond.methodLink (ag_on (ag_ow y)) idx (ag_ny y') ∈ lw_tbl
  | 4 => 3 ≤ y' ∧ y' < 136 ∧ ag_rk y' < ag_rk y ∧ n = ag_np y' + 1 ∧ ag_mk y' = 2 ∧ ¬ ag_hx y ∧ Cond.methodLinkNest (ag_on (ag_ow y)) idx (ag_ny y') (ag_host (ag_ow y)) ∈ lw_tbl
  | _ => False
theorem ag_lk_0_3_0 : Cond.methodLink (ag_on 0) 3 objectInit ∈ lw_tbl := List.mem_of_getElem? (i := 502) (by decide +kernel)
theorem ag_lk_0_36_94 : Cond.methodLinkNest (ag_on 0) 36 (ag_ny 94) (ag_host 0) ∈ lw_tbl := List.mem_of_getElem? (i := 335) (by decide +kernel)
theorem ag_lk_0_47_92 : Cond.methodLinkNest (ag_on 0) 47 (ag_ny 92) (ag_host 0) ∈ lw_tbl := List.mem_of_getElem? (i := 139) (by decide +kernel)
theorem ag_lk_0_51_9 : Cond.methodLink (ag_on 0) 51 (ag_ny 9) ∈ lw_tbl := List.mem_of_getElem? (i := 145) (by decide +kernel)
theorem ag_lk_0_55_7 : Cond.methodLink (ag_on 0) 55 (ag_ny 7) ∈ lw_tbl := List.mem_of_getElem? (i := 144) (by decide +kernel)
theorem ag_lk_0_59_1 : Cond.methodLink (ag_on 0) 59 Lib.Math.max.name ∈ lw_tbl := List.mem_of_getElem? (i := 230) (by decide +kernel)
theorem ag_lk_0_65_5 : Cond.methodLink (ag_on 0) 65 (ag_ny 5) ∈ lw_tbl := List.mem_of_getElem? (i := 374) (by decide +kernel)
theorem ag_lk_0_69_93 : Cond.methodLinkNest (ag_on 0) 69 (ag_ny 93) (ag_host 0) ∈ lw_tbl := List.mem_of_getElem? (i := 351) (by decide +kernel)
theorem ag_lk_0_73_8 : Cond.methodLink (ag_on 0) 73 (ag_ny 8) ∈ lw_tbl := List.mem_of_getElem? (i := 375) (by decide +kernel)
theorem ag_lk_0_76_18 : Cond.methodLink (ag_on 0) 76 (ag_ny 18) ∈ lw_tbl := List.mem_of_getElem? (i := 352) (by decide +kernel)
theorem ag_lk_0_79_17 : Cond.methodLink (ag_on 0) 79 (ag_ny 17) ∈ lw_tbl := List.mem_of_getElem? (i := 361) (by decide +kernel)
theorem ag_lk_1_3_0 : Cond.methodLink (ag_on 1) 3 objectInit ∈ lw_tbl := List.mem_of_getElem? (i := 497) (by decide +kernel)
theorem ag_lk_1_11_3 : Cond.methodLinkNest (ag_on 1) 11 (ag_ny 3) (ag_host 1) ∈ lw_tbl := List.mem_of_getElem? (i := 499) (by decide +kernel)
theorem ag_lk_1_20_42 : Cond.methodLinkNest (ag_on 1) 20 (ag_ny 42) (ag_host 1) ∈ lw_tbl := List.mem_of_getElem? (i := 551) (by decide +kernel)
theorem ag_lk_1_29_4 : Cond.methodLink (ag_on 1) 29 (ag_ny 4) ∈ lw_tbl := List.mem_of_getElem? (i := 331) (by decide +kernel)
theorem ag_lk_1_33_43 : Cond.methodLink (ag_on 1) 33 (ag_ny 43) ∈ lw_tbl := List.mem_of_getElem? (i := 338) (by decide +kernel)
theorem ag_lk_1_40_92 : Cond.methodLinkNest (ag_on 1) 40 (ag_ny 92) (ag_host 1) ∈ lw_tbl := List.mem_of_getElem? (i := 199) (by decide +kernel)
theorem ag_lk_1_44_9 : Cond.methodLink (ag_on 1) 44 (ag_ny 9) ∈ lw_tbl := List.mem_of_getElem? (i := 225) (by decide +kernel)
theorem ag_lk_1_51_13 : Cond.methodLink (ag_on 1) 51 (ag_ny 13) ∈ lw_tbl := List.mem_of_getElem? (i := 226) (by decide +kernel)
theorem ag_lk_1_55_5 : Cond.methodLink (ag_on 1) 55 (ag_ny 5) ∈ lw_tbl := List.mem_of_getElem? (i := 233) (by decide +kernel)
theorem ag_lk_1_59_8 : Cond.methodLink (ag_on 1) 59 (ag_ny 8) ∈ lw_tbl := List.mem_of_getElem? (i := 237) (by decide +kernel)
theorem ag_lk_1_62_46 : Cond.methodLink (ag_on 1) 62 (ag_ny 46) ∈ lw_tbl := List.mem_of_getElem? (i := 217) (by decide +kernel)
theorem ag_lk_1_75_21 : Cond.methodLink (ag_on 1) 75 (ag_ny 21) ∈ lw_tbl := List.mem_of_getElem? (i := 221) (by decide +kernel)
theorem ag_lk_1_86_24 : Cond.methodLink (ag_on 1) 86 (ag_ny 24) ∈ lw_tbl := List.mem_of_getElem? (i := 200) (by decide +kernel)
theorem ag_lk_1_90_51 : Cond.methodLink (ag_on 1) 90 (ag_ny 51) ∈ lw_tbl := List.mem_of_getElem? (i := 205) (by decide +kernel)
theorem ag_lk_1_93_22 : Cond.methodLink (ag_on 1) 93 (ag_ny 22) ∈ lw_tbl := List.mem_of_getElem? (i := 410) (by decide +kernel)
theorem ag_lk_1_96_52 : Cond.methodLink (ag_on 1) 96 (ag_ny 52) ∈ lw_tbl := List.mem_of_getElem? (i := 380) (by decide +kernel)
theorem ag_lk_1_100_37 : Cond.methodLink (ag_on 1) 100 (ag_ny 37) ∈ lw_tbl := List.mem_of_getElem? (i := 411) (by decide +kernel)
theorem ag_lk_1_105_27 : Cond.methodLink (ag_on 1) 105 (ag_ny 27) ∈ lw_tbl := List.mem_of_getElem? (i := 412) (by decide +kernel)
theorem ag_lk_1_109_28 : Cond.methodLink (ag_on 1) 109 (ag_ny 28) ∈ lw_tbl := List.mem_of_getElem? (i := 413) (by decide +kernel)
theorem ag_lk_1_112_23 : Cond.methodLink (ag_on 1) 112 (ag_ny 23) ∈ lw_tbl := List.mem_of_getElem? (i := 405) (by decide +kernel)
theorem ag_lk_1_116_25 : Cond.methodLink (ag_on 1) 116 (ag_ny 25) ∈ lw_tbl := List.mem_of_getElem? (i := 406) (by decide +kernel)
theorem ag_lk_1_120_15 : Cond.methodLink (ag_on 1) 120 (ag_ny 15) ∈ lw_tbl := List.mem_of_getElem? (i := 347) (by decide +kernel)
theorem ag_lk_1_123_16 : Cond.methodLink (ag_on 1) 123 (ag_ny 16) ∈ lw_tbl := List.mem_of_getElem? (i := 357) (by decide +kernel)
theorem ag_lk_1_129_93 : Cond.methodLinkNest (ag_on 1) 129 (ag_ny 93) (ag_host 1) ∈ lw_tbl := List.mem_of_getElem? (i := 365) (by decide +kernel)
theorem ag_lk_1_133_10 : Cond.methodLink (ag_on 1) 133 (ag_ny 10) ∈ lw_tbl := List.mem_of_getElem? (i := 366) (by decide +kernel)
theorem ag_lk_1_139_14 : Cond.methodLink (ag_on 1) 139 (ag_ny 14) ∈ lw_tbl := List.mem_of_getElem? (i := 370) (by decide +kernel)
theorem ag_lk_1_152_29 : Cond.methodLink (ag_on 1) 152 (ag_ny 29) ∈ lw_tbl := List.mem_of_getElem? (i := 385) (by decide +kernel)
theorem ag_lk_1_155_30 : Cond.methodLink (ag_on 1) 155 (ag_ny 30) ∈ lw_tbl := List.mem_of_getElem? (i := 389) (by decide +kernel)
theorem ag_lk_2_3_0 : Cond.methodLink (ag_on 2) 3 objectInit ∈ lw_tbl := List.mem_of_getElem? (i := 445) (by decide +kernel)
theorem ag_lk_2_31_93 : Cond.methodLinkNest (ag_on 2) 31 (ag_ny 93) (ag_host 2) ∈ lw_tbl := List.mem_of_getElem? (i := 272) (by decide +kernel)
theorem ag_lk_2_35_92 : Cond.methodLinkNest (ag_on 2) 35 (ag_ny 92) (ag_host 2) ∈ lw_tbl := List.mem_of_getElem? (i := 167) (by decide +kernel)
theorem ag_lk_2_39_35 : Cond.methodLink (ag_on 2) 39 (ag_ny 35) ∈ lw_tbl := List.mem_of_getElem? (i := 318) (by decide +kernel)
theorem ag_lk_2_46_34 : Cond.methodLink (ag_on 2) 46 (ag_ny 34) ∈ lw_tbl := List.mem_of_getElem? (i := 694) (by decide +kernel)
theorem ag_lk_3_3_0 : Cond.methodLink (ag_on 3) 3 objectInit ∈ lw_tbl := List.mem_of_getElem? (i := 554) (by decide +kernel)
theorem ag_lk_3_30_94 : Cond.methodLinkNest (ag_on 3) 30 (ag_ny 94) (ag_host 3) ∈ lw_tbl := List.mem_of_getElem? (i := 342) (by decide +kernel)
theorem ag_lk_3_38_92 : Cond.methodLinkNest (ag_on 3) 38 (ag_ny 92) (ag_host 3) ∈ lw_tbl := List.mem_of_getElem? (i := 176) (by decide +kernel)
theorem ag_lk_3_42_93 : Cond.methodLinkNest (ag_on 3) 42 (ag_ny 93) (ag_host 3) ∈ lw_tbl := List.mem_of_getElem? (i := 384) (by decide +kernel)
theorem ag_lk_4_3_0 : Cond.methodLink (ag_on 4) 3 objectInit ∈ lw_tbl := List.mem_of_getElem? (i := 480) (by decide +kernel)
theorem ag_lk_4_22_93 : Cond.methodLinkNest (ag_on 4) 22 (ag_ny 93) (ag_host 4) ∈ lw_tbl := List.mem_of_getElem? (i := 729) (by decide +kernel)
theorem ag_lk_4_26_92 : Cond.methodLinkNest (ag_on 4) 26 (ag_ny 92) (ag_host 4) ∈ lw_tbl := List.mem_of_getElem? (i := 153) (by decide +kernel)
theorem ag_lk_4_30_7 : Cond.methodLink (ag_on 4) 30 (ag_ny 7) ∈ lw_tbl := List.mem_of_getElem? (i := 728) (by decide +kernel)
theorem ag_lk_5_1_0 : Cond.methodLink (ag_on 5) 1 objectInit ∈ lw_tbl := List.mem_of_getElem? (i := 439) (by decide +kernel)
theorem ag_lk_5_9_31 : Cond.methodLinkNest (ag_on 5) 9 (ag_ny 31) (ag_host 5) ∈ lw_tbl := List.mem_of_getElem? (i := 442) (by decide +kernel)
theorem ag_lk_5_18_53 : Cond.methodLinkNest (ag_on 5) 18 (ag_ny 53) (ag_host 5) ∈ lw_tbl := List.mem_of_getElem? (i := 477) (by decide +kernel)
theorem ag_lk_5_25_19 : Cond.methodLink (ag_on 5) 25 (ag_ny 19) ∈ lw_tbl := List.mem_of_getElem? (i := 494) (by decide +kernel)
theorem ag_lk_5_43_7 : Cond.methodLink (ag_on 5) 43 (ag_ny 7) ∈ lw_tbl := List.mem_of_getElem? (i := 135) (by decide +kernel)
theorem ag_lk_5_56_91 : Cond.methodLink (ag_on 5) 56 (ag_ny 91) ∈ lw_tbl := List.mem_of_getElem? (i := 793) (by decide +kernel)
theorem ag_lk_5_64_5 : Cond.methodLink (ag_on 5) 64 (ag_ny 5) ∈ lw_tbl := List.mem_of_getElem? (i := 797) (by decide +kernel)
theorem ag_lk_5_68_8 : Cond.methodLink (ag_on 5) 68 (ag_ny 8) ∈ lw_tbl := List.mem_of_getElem? (i := 798) (by decide +kernel)
theorem ag_lk_5_90_9 : Cond.methodLink (ag_on 5) 90 (ag_ny 9) ∈ lw_tbl := List.mem_of_getElem? (i := 800) (by decide +kernel)
theorem ag_lk_5_93_14 : Cond.methodLink (ag_on 5) 93 (ag_ny 14) ∈ lw_tbl := List.mem_of_getElem? (i := 801) (by decide +kernel)
theorem ag_lk_5_97_6 : Cond.methodLink (ag_on 5) 97 (ag_ny 6) ∈ lw_tbl := List.mem_of_getElem? (i := 37) (by decide +kernel)
theorem ag_lk_5_104_84 : Cond.methodLink (ag_on 5) 104 (ag_ny 84) ∈ lw_tbl := List.mem_of_getElem? (i := 127) (by decide +kernel)
theorem ag_lk_5_119_83 : Cond.methodLink (ag_on 5) 119 (ag_ny 83) ∈ lw_tbl := List.mem_of_getElem? (i := 159) (by decide +kernel)
theorem ag_lk_5_124_44 : Cond.methodLink (ag_on 5) 124 (ag_ny 44) ∈ lw_tbl := List.mem_of_getElem? (i := 839) (by decide +kernel)
theorem ag_lk_5_125_21 : Cond.methodLink (ag_on 5) 125 (ag_ny 21) ∈ lw_tbl := List.mem_of_getElem? (i := 843) (by decide +kernel)
theorem ag_lk_5_131_48 : Cond.methodLink (ag_on 5) 131 (ag_ny 48) ∈ lw_tbl := List.mem_of_getElem? (i := 845) (by decide +kernel)
theorem ag_lk_5_134_45 : Cond.methodLink (ag_on 5) 134 (ag_ny 45) ∈ lw_tbl := List.mem_of_getElem? (i := 181) (by decide +kernel)
theorem ag_lk_5_137_46 : Cond.methodLink (ag_on 5) 137 (ag_ny 46) ∈ lw_tbl := List.mem_of_getElem? (i := 251) (by decide +kernel)
theorem ag_lk_5_140_47 : Cond.methodLink (ag_on 5) 140 (ag_ny 47) ∈ lw_tbl := List.mem_of_getElem? (i := 862) (by decide +kernel)
theorem ag_lk_5_147_50 : Cond.methodLink (ag_on 5) 147 (ag_ny 50) ∈ lw_tbl := List.mem_of_getElem? (i := 172) (by decide +kernel)
theorem ag_lk_5_150_52 : Cond.methodLink (ag_on 5) 150 (ag_ny 52) ∈ lw_tbl := List.mem_of_getElem? (i := 880) (by decide +kernel)
theorem ag_lk_5_156_49 : Cond.methodLink (ag_on 5) 156 (ag_ny 49) ∈ lw_tbl := List.mem_of_getElem? (i := 187) (by decide +kernel)
theorem ag_lk_5_159_23 : Cond.methodLink (ag_on 5) 159 (ag_ny 23) ∈ lw_tbl := List.mem_of_getElem? (i := 195) (by decide +kernel)
theorem ag_lk_5_163_22 : Cond.methodLink (ag_on 5) 163 (ag_ny 22) ∈ lw_tbl := List.mem_of_getElem? (i := 213) (by decide +kernel)
theorem ag_lk_5_173_33 : Cond.methodLink (ag_on 5) 173 (ag_ny 33) ∈ lw_tbl := List.mem_of_getElem? (i := 812) (by decide +kernel)
theorem ag_lk_5_175_32 : Cond.methodLink (ag_on 5) 175 (ag_ny 32) ∈ lw_tbl := List.mem_of_getElem? (i := 245) (by decide +kernel)
theorem ag_lk_5_180_36 : Cond.methodLink (ag_on 5) 180 (ag_ny 36) ∈ lw_tbl := List.mem_of_getElem? (i := 268) (by decide +kernel)
theorem ag_lk_5_192_38 : Cond.methodLink (ag_on 5) 192 (ag_ny 38) ∈ lw_tbl := List.mem_of_getElem? (i := 290) (by decide +kernel)
theorem ag_lk_5_198_39 : Cond.methodLink (ag_on 5) 198 (ag_ny 39) ∈ lw_tbl := List.mem_of_getElem? (i := 690) (by decide +kernel)
theorem ag_lk_5_206_40 : Cond.methodLink (ag_on 5) 206 (ag_ny 40) ∈ lw_tbl := List.mem_of_getElem? (i := 890) (by decide +kernel)
theorem ag_lk_5_212_41 : Cond.methodLink (ag_on 5) 212 (ag_ny 41) ∈ lw_tbl := List.mem_of_getElem? (i := 895) (by decide +kernel)
theorem ag_lk_5_217_25 : Cond.methodLink (ag_on 5) 217 (ag_ny 25) ∈ lw_tbl := List.mem_of_getElem? (i := 723) (by decide +kernel)
theorem ag_lk_5_221_57 : Cond.methodLink (ag_on 5) 221 (ag_ny 57) ∈ lw_tbl := List.mem_of_getElem? (i := 724) (by decide +kernel)
theorem ag_lk_5_113_92 : Cond.methodLink (ag_on 5) 113 (ag_ny 92) ∈ lw_tbl := List.mem_of_getElem? (i := 132) (by decide +kernel)
theorem ag_lk_5_230_85 : Cond.methodLink (ag_on 5) 230 (ag_ny 85) ∈ lw_tbl := List.mem_of_getElem? (i := 286) (by decide +kernel)
theorem ag_lk_5_238_54 : Cond.methodLink (ag_on 5) 238 (ag_ny 54) ∈ lw_tbl := List.mem_of_getElem? (i := 826) (by decide +kernel)
theorem ag_lk_5_245_12 : Cond.methodLink (ag_on 5) 245 (ag_ny 12) ∈ lw_tbl := List.mem_of_getElem? (i := 306) (by decide +kernel)
theorem ag_lk_5_248_37 : Cond.methodLink (ag_on 5) 248 (ag_ny 37) ∈ lw_tbl := List.mem_of_getElem? (i := 314) (by decide +kernel)
theorem ag_lk_5_251_87 : Cond.methodLink (ag_on 5) 251 (ag_ny 87) ∈ lw_tbl := List.mem_of_getElem? (i := 323) (by decide +kernel)
theorem ag_lk_5_254_88 : Cond.methodLink (ag_on 5) 254 (ag_ny 88) ∈ lw_tbl := List.mem_of_getElem? (i := 397) (by decide +kernel)
theorem ag_lk_5_257_89 : Cond.methodLink (ag_on 5) 257 (ag_ny 89) ∈ lw_tbl := List.mem_of_getElem? (i := 418) (by decide +kernel)
theorem ag_lk_5_260_90 : Cond.methodLink (ag_on 5) 260 (ag_ny 90) ∈ lw_tbl := List.mem_of_getElem? (i := 911) (by decide +kernel)
theorem ag_lk_5_272_34 : Cond.methodLink (ag_on 5) 272 (ag_ny 34) ∈ lw_tbl := List.mem_of_getElem? (i := 163) (by decide +kernel)
theorem ag_lk_5_275_55 : Cond.methodLink (ag_on 5) 275 (ag_ny 55) ∈ lw_tbl := List.mem_of_getElem? (i := 168) (by decide +kernel)
theorem ag_lk_5_290_11 : Cond.methodLink (ag_on 5) 290 (ag_ny 11) ∈ lw_tbl := List.mem_of_getElem? (i := 140) (by decide +kernel)
theorem ag_lk_5_296_56 : Cond.methodLink (ag_on 5) 296 (ag_ny 56) ∈ lw_tbl := List.mem_of_getElem? (i := 149) (by decide +kernel)
theorem ag_lk_5_308_86 : Cond.methodLink (ag_on 5) 308 (ag_ny 86) ∈ lw_tbl := List.mem_of_getElem? (i := 294) (by decide +kernel)
theorem ag_lk_5_311_35 : Cond.methodLink (ag_on 5) 311 (ag_ny 35) ∈ lw_tbl := List.mem_of_getElem? (i := 298) (by decide +kernel)
theorem ag_lk_5_314_20 : Cond.methodLink (ag_on 5) 314 (ag_ny 20) ∈ lw_tbl := List.mem_of_getElem? (i := 327) (by decide +kernel)
theorem ag_lk_5_318_27 : Cond.methodLink (ag_on 5) 318 (ag_ny 27) ∈ lw_tbl := List.mem_of_getElem? (i := 343) (by decide +kernel)
theorem ag_lk_5_321_28 : Cond.methodLink (ag_on 5) 321 (ag_ny 28) ∈ lw_tbl := List.mem_of_getElem? (i := 376) (by decide +kernel)
theorem ag_lk_5_324_26 : Cond.methodLink (ag_on 5) 324 (ag_ny 26) ∈ lw_tbl := List.mem_of_getElem? (i := 401) (by decide +kernel)
theorem ag_lk_5_327_94 : Cond.methodLink (ag_on 5) 327 (ag_ny 94) ∈ lw_tbl := List.mem_of_getElem? (i := 422) (by decide +kernel)
theorem ag_lk_6_1_0 : Cond.methodLink (ag_on 6) 1 objectInit ∈ lw_tbl := List.mem_of_getElem? (i := 434) (by decide +kernel)
theorem ag_lk_6_9_58 : Cond.methodLink (ag_on 6) 9 (ag_ny 58) ∈ lw_tbl := List.mem_of_getElem? (i := 436) (by decide +kernel)
theorem ag_lk_6_57_133 : Cond.methodLinkNest (ag_on 6) 57 (ag_ny 133) (ag_host 6) ∈ lw_tbl := List.mem_of_getElem? (i := 674) (by decide +kernel)
theorem ag_lk_6_63_132 : Cond.methodLinkNest (ag_on 6) 63 (ag_ny 132) (ag_host 6) ∈ lw_tbl := List.mem_of_getElem? (i := 678) (by decide +kernel)
theorem ag_lk_6_67_2 : Cond.methodLink (ag_on 6) 67 arraycopyName ∈ lw_tbl := List.mem_of_getElem? (i := 715) (by decide +kernel)
theorem ag_lk_6_83_97 : Cond.methodLink (ag_on 6) 83 (ag_ny 97) ∈ lw_tbl := List.mem_of_getElem? (i := 712) (by decide +kernel)
theorem ag_lk_6_87_101 : Cond.methodLink (ag_on 6) 87 (ag_ny 101) ∈ lw_tbl := List.mem_of_getElem? (i := 708) (by decide +kernel)
theorem ag_lk_6_87_102 : Cond.methodLink (ag_on 6) 87 (ag_ny 102) ∈ lw_tbl := List.mem_of_getElem? (i := 708) (by decide +kernel)
theorem ag_lk_6_87_103 : Cond.methodLink (ag_on 6) 87 (ag_ny 103) ∈ lw_tbl := List.mem_of_getElem? (i := 708) (by decide +kernel)
theorem ag_lk_6_87_104 : Cond.methodLink (ag_on 6) 87 (ag_ny 104) ∈ lw_tbl := List.mem_of_getElem? (i := 708) (by decide +kernel)
theorem ag_lk_6_87_100 : Cond.methodLink (ag_on 6) 87 (ag_ny 100) ∈ lw_tbl := List.mem_of_getElem? (i := 708) (by decide +kernel)
theorem ag_lk_6_91_98 : Cond.methodLink (ag_on 6) 91 (ag_ny 98) ∈ lw_tbl := List.mem_of_getElem? (i := 773) (by decide +kernel)
theorem ag_lk_6_95_106 : Cond.methodLink (ag_on 6) 95 (ag_ny 106) ∈ lw_tbl := List.mem_of_getElem? (i := 762) (by decide +kernel)
theorem ag_lk_6_99_99 : Cond.methodLink (ag_on 6) 99 (ag_ny 99) ∈ lw_tbl := List.mem_of_getElem? (i := 766) (by decide +kernel)
theorem ag_lk_6_102_96 : Cond.methodLink (ag_on 6) 102 (ag_ny 96) ∈ lw_tbl := List.mem_of_getElem? (i := 670) (by decide +kernel)
theorem ag_lk_6_105_59 : Cond.methodLink (ag_on 6) 105 (ag_ny 59) ∈ lw_tbl := List.mem_of_getElem? (i := 788) (by decide +kernel)
theorem ag_lk_6_108_107 : Cond.methodLink (ag_on 6) 108 (ag_ny 107) ∈ lw_tbl := List.mem_of_getElem? (i := 769) (by decide +kernel)
theorem ag_lk_6_114_110 : Cond.methodLink (ag_on 6) 114 (ag_ny 110) ∈ lw_tbl := List.mem_of_getElem? (i := 742) (by decide +kernel)
theorem ag_lk_6_118_1 : Cond.methodLink (ag_on 6) 118 Lib.Math.max.name ∈ lw_tbl := List.mem_of_getElem? (i := 682) (by decide +kernel)
theorem ag_lk_6_123_111 : Cond.methodLink (ag_on 6) 123 (ag_ny 111) ∈ lw_tbl := List.mem_of_getElem? (i := 738) (by decide +kernel)
theorem ag_lk_6_127_62 : Cond.methodLink (ag_on 6) 127 (ag_ny 62) ∈ lw_tbl := List.mem_of_getElem? (i := 834) (by decide +kernel)
theorem ag_lk_6_131_63 : Cond.methodLink (ag_on 6) 131 (ag_ny 63) ∈ lw_tbl := List.mem_of_getElem? (i := 858) (by decide +kernel)
theorem ag_lk_6_134_115 : Cond.methodLink (ag_on 6) 134 (ag_ny 115) ∈ lw_tbl := List.mem_of_getElem? (i := 746) (by decide +kernel)
theorem ag_lk_6_137_64 : Cond.methodLink (ag_on 6) 137 (ag_ny 64) ∈ lw_tbl := List.mem_of_getElem? (i := 876) (by decide +kernel)
theorem ag_lk_6_134_114 : Cond.methodLink (ag_on 6) 134 (ag_ny 114) ∈ lw_tbl := List.mem_of_getElem? (i := 746) (by decide +kernel)
theorem ag_lk_6_140_105 : Cond.methodLink (ag_on 6) 140 (ag_ny 105) ∈ lw_tbl := List.mem_of_getElem? (i := 704) (by decide +kernel)
theorem ag_lk_6_144_108 : Cond.methodLink (ag_on 6) 144 (ag_ny 108) ∈ lw_tbl := List.mem_of_getElem? (i := 776) (by decide +kernel)
theorem ag_lk_6_148_118 : Cond.methodLink (ag_on 6) 148 (ag_ny 118) ∈ lw_tbl := List.mem_of_getElem? (i := 758) (by decide +kernel)
theorem ag_lk_6_151_121 : Cond.methodLink (ag_on 6) 151 (ag_ny 121) ∈ lw_tbl := List.mem_of_getElem? (i := 734) (by decide +kernel)
theorem ag_lk_6_154_120 : Cond.methodLink (ag_on 6) 154 (ag_ny 120) ∈ lw_tbl := List.mem_of_getElem? (i := 750) (by decide +kernel)
theorem ag_lk_6_157_119 : Cond.methodLink (ag_on 6) 157 (ag_ny 119) ∈ lw_tbl := List.mem_of_getElem? (i := 754) (by decide +kernel)
theorem ag_lk_6_168_68 : Cond.methodLink (ag_on 6) 168 (ag_ny 68) ∈ lw_tbl := List.mem_of_getElem? (i := 806) (by decide +kernel)
theorem ag_lk_6_171_69 : Cond.methodLink (ag_on 6) 171 (ag_ny 69) ∈ lw_tbl := List.mem_of_getElem? (i := 853) (by decide +kernel)
theorem ag_lk_6_174_125 : Cond.methodLink (ag_on 6) 174 (ag_ny 125) ∈ lw_tbl := List.mem_of_getElem? (i := 683) (by decide +kernel)
theorem ag_lk_6_177_71 : Cond.methodLink (ag_on 6) 177 (ag_ny 71) ∈ lw_tbl := List.mem_of_getElem? (i := 684) (by decide +kernel)
theorem ag_lk_6_160_117 : Cond.methodLink (ag_on 6) 160 (ag_ny 117) ∈ lw_tbl := List.mem_of_getElem? (i := 700) (by decide +kernel)
theorem ag_lk_6_180_72 : Cond.methodLink (ag_on 6) 180 (ag_ny 72) ∈ lw_tbl := List.mem_of_getElem? (i := 885) (by decide +kernel)
theorem ag_lk_6_183_73 : Cond.methodLink (ag_on 6) 183 (ag_ny 73) ∈ lw_tbl := List.mem_of_getElem? (i := 718) (by decide +kernel)
theorem ag_lk_6_164_122 : Cond.methodLink (ag_on 6) 164 (ag_ny 122) ∈ lw_tbl := List.mem_of_getElem? (i := 730) (by decide +kernel)
theorem ag_lk_6_186_75 : Cond.methodLink (ag_on 6) 186 (ag_ny 75) ∈ lw_tbl := List.mem_of_getElem? (i := 820) (by decide +kernel)
theorem ag_lk_6_189_109 : Cond.methodLink (ag_on 6) 189 (ag_ny 109) ∈ lw_tbl := List.mem_of_getElem? (i := 784) (by decide +kernel)
theorem ag_lk_6_192_123 : Cond.methodLink (ag_on 6) 192 (ag_ny 123) ∈ lw_tbl := List.mem_of_getElem? (i := 802) (by decide +kernel)
theorem ag_lk_6_194_129 : Cond.methodLink (ag_on 6) 194 (ag_ny 129) ∈ lw_tbl := List.mem_of_getElem? (i := 816) (by decide +kernel)
theorem ag_lk_6_196_112 : Cond.methodLink (ag_on 6) 196 (ag_ny 112) ∈ lw_tbl := List.mem_of_getElem? (i := 830) (by decide +kernel)
theorem ag_lk_6_198_124 : Cond.methodLink (ag_on 6) 198 (ag_ny 124) ∈ lw_tbl := List.mem_of_getElem? (i := 849) (by decide +kernel)
theorem ag_lk_6_200_113 : Cond.methodLink (ag_on 6) 200 (ag_ny 113) ∈ lw_tbl := List.mem_of_getElem? (i := 854) (by decide +kernel)
theorem ag_lk_6_202_126 : Cond.methodLink (ag_on 6) 202 (ag_ny 126) ∈ lw_tbl := List.mem_of_getElem? (i := 867) (by decide +kernel)
theorem ag_lk_6_204_116 : Cond.methodLink (ag_on 6) 204 (ag_ny 116) ∈ lw_tbl := List.mem_of_getElem? (i := 872) (by decide +kernel)
theorem ag_lk_6_206_127 : Cond.methodLink (ag_on 6) 206 (ag_ny 127) ∈ lw_tbl := List.mem_of_getElem? (i := 881) (by decide +kernel)
theorem ag_lk_6_208_128 : Cond.methodLink (ag_on 6) 208 (ag_ny 128) ∈ lw_tbl := List.mem_of_getElem? (i := 899) (by decide +kernel)
theorem ag_lk_7_111_81 : Cond.methodLink (ag_on 7) 111 (ag_ny 81) ∈ lw_tbl := List.mem_of_getElem? (i := 907) (by decide +kernel)
theorem ag_lk_7_11_95 : Cond.methodLink (ag_on 7) 11 (ag_ny 95) ∈ lw_tbl := List.mem_of_getElem? (i := 431) (by decide +kernel)
theorem ag_lk_7_18_130 : Cond.methodLink (ag_on 7) 18 (ag_ny 130) ∈ lw_tbl := List.mem_of_getElem? (i := 780) (by decide +kernel)
theorem ag_lk_7_22_131 : Cond.methodLink (ag_on 7) 22 (ag_ny 131) ∈ lw_tbl := List.mem_of_getElem? (i := 868) (by decide +kernel)
theorem ag_lk_7_29_126 : Cond.methodLink (ag_on 7) 29 (ag_ny 126) ∈ lw_tbl := List.mem_of_getElem? (i := 666) (by decide +kernel)
theorem ag_lk_7_32_82 : Cond.methodLink (ag_on 7) 32 (ag_ny 82) ∈ lw_tbl := List.mem_of_getElem? (i := 423) (by decide +kernel)
theorem ag_lk_7_38_66 : Cond.methodLink (ag_on 7) 38 (ag_ny 66) ∈ lw_tbl := List.mem_of_getElem? (i := 191) (by decide +kernel)
theorem ag_lk_7_42_61 : Cond.methodLink (ag_on 7) 42 (ag_ny 61) ∈ lw_tbl := List.mem_of_getElem? (i := 154) (by decide +kernel)
theorem ag_lk_7_46_65 : Cond.methodLink (ag_on 7) 46 (ag_ny 65) ∈ lw_tbl := List.mem_of_getElem? (i := 177) (by decide +kernel)
theorem ag_lk_7_50_60 : Cond.methodLink (ag_on 7) 50 (ag_ny 60) ∈ lw_tbl := List.mem_of_getElem? (i := 33) (by decide +kernel)
theorem ag_lk_7_53_134 : Cond.methodLink (ag_on 7) 53 (ag_ny 134) ∈ lw_tbl := List.mem_of_getElem? (i := 900) (by decide +kernel)
theorem ag_lk_7_59_67 : Cond.methodLink (ag_on 7) 59 (ag_ny 67) ∈ lw_tbl := List.mem_of_getElem? (i := 209) (by decide +kernel)
theorem ag_lk_7_63_78 : Cond.methodLink (ag_on 7) 63 (ag_ny 78) ∈ lw_tbl := List.mem_of_getElem? (i := 319) (by decide +kernel)
theorem ag_lk_7_66_76 : Cond.methodLink (ag_on 7) 66 (ag_ny 76) ∈ lw_tbl := List.mem_of_getElem? (i := 302) (by decide +kernel)
theorem ag_lk_7_70_1 : Cond.methodLink (ag_on 7) 70 Jvm.Free.Fl.Abs.absDN ∈ lw_tbl := List.mem_of_getElem? (i := 916) (by decide +kernel)
theorem ag_lk_7_82_74 : Cond.methodLink (ag_on 7) 82 (ag_ny 74) ∈ lw_tbl := List.mem_of_getElem? (i := 280) (by decide +kernel)
theorem ag_lk_7_85_80 : Cond.methodLink (ag_on 7) 85 (ag_ny 80) ∈ lw_tbl := List.mem_of_getElem? (i := 414) (by decide +kernel)
theorem ag_lk_7_88_125 : Cond.methodLink (ag_on 7) 88 (ag_ny 125) ∈ lw_tbl := List.mem_of_getElem? (i := 662) (by decide +kernel)
theorem ag_lk_7_91_135 : Cond.methodLink (ag_on 7) 91 (ag_ny 135) ∈ lw_tbl := List.mem_of_getElem? (i := 903) (by decide +kernel)
theorem ag_lk_7_95_79 : Cond.methodLink (ag_on 7) 95 (ag_ny 79) ∈ lw_tbl := List.mem_of_getElem? (i := 393) (by decide +kernel)
theorem ag_lk_7_98_69 : Cond.methodLink (ag_on 7) 98 (ag_ny 69) ∈ lw_tbl := List.mem_of_getElem? (i := 241) (by decide +kernel)
theorem ag_lk_7_102_77 : Cond.methodLink (ag_on 7) 102 (ag_ny 77) ∈ lw_tbl := List.mem_of_getElem? (i := 310) (by decide +kernel)
theorem ag_lk_7_105_70 : Cond.methodLink (ag_on 7) 105 (ag_ny 70) ∈ lw_tbl := List.mem_of_getElem? (i := 275) (by decide +kernel)
theorem ag_lk_7_108_128 : Cond.methodLink (ag_on 7) 108 (ag_ny 128) ∈ lw_tbl := List.mem_of_getElem? (i := 695) (by decide +kernel)
theorem ag_cws_3 : ∀ q ∈ ag_ml_l.getD 3 [], ag_CW 3 q.1 q.2.1 q.2.2.1 q.2.2.2 := List.forall_mem_cons.mpr ⟨(show ag_CW 3 3 0 1 5 from ⟨rfl, ag_lk_0_3_0⟩), fun _ h => absurd h List.not_mem_nil⟩
theorem ag_cws_4 : ∀ q ∈ ag_ml_l.getD 4 [], ag_CW 4 q.1 q.2.1 q.2.2.1 q.2.2.2 := List.forall_mem_cons.mpr ⟨(show ag_CW 4 36 94 2 2 from ⟨by decide, by decide, by decide, rfl, rfl, by unfold ag_hx; decide, ag_lk_0_36_94⟩), fun _ h => absurd h List.not_mem_nil⟩
theorem ag_cws_5 : ∀ q ∈ ag_ml_l.getD 5 [], ag_CW 5 q.1 q.2.1 q.2.2.1 q.2.2.2 := fun _ h => absurd h List.not_mem_nil
theorem ag_cws_6 : ∀ q ∈ ag_ml_l.getD 6 [], ag_CW 6 q.1 q.2.1 q.2.2.1 q.2.2.2 := fun _ h => absurd h List.not_mem_nil
theorem ag_cws_7 : ∀ q ∈ ag_ml_l.getD 7 [], ag_CW 7 q.1 q.2.1 q.2.2.1 q.2.2.2 := List.forall_mem_cons.mpr ⟨(show ag_CW 7 47 92 2 2 from ⟨by decide, by decide, by decide, rfl, rfl, by unfold ag_hx; decide, ag_lk_0_47_92⟩), fun _ h => absurd h List.not_mem_nil⟩
theorem ag_cws_8 : ∀ q ∈ ag_ml_l.getD 8 [], ag_CW 8 q.1 q.2.1 q.2.2.1 q.2.2.2 := List.forall_mem_cons.mpr ⟨(show ag_CW 8 47 92 2 2 from ⟨by decide, by decide, by decide, rfl, rfl, by unfold ag_hx; decide, ag_lk_0_47_92⟩), fun _ h => absurd h List.not_mem_nil⟩
theorem ag_cws_9 : ∀ q ∈ ag_ml_l.getD 9 [], ag_CW 9 q.1 q.2.1 q.2.2.1 q.2.2.2 := List.forall_mem_cons.mpr ⟨(show ag_CW 9 47 92 2 2 from ⟨by decide, by decide, by decide, rfl, rfl, by unfold ag_hx; decide, ag_lk_0_47_92⟩), fun _ h => absurd h List.not_mem_nil⟩
theorem ag_cws_10 : ∀ q ∈ ag_ml_l.getD 10 [], ag_CW 10 q.1 q.2.1 q.2.2.1 q.2.2.2 := List.forall_mem_cons.mpr ⟨(show ag_CW 10 47 92 2 2 from ⟨by decide, by decide, by decide, rfl, rfl, by unfold ag_hx; decide, ag_lk_0_47_92⟩), List.forall_mem_cons.mpr ⟨(show ag_CW 10 51 9 2 0 from ⟨by decide, by decide, by decide, rfl, rfl, ag_lk_0_51_9⟩), fun _ h => absurd h List.not_mem_nil⟩⟩
theorem ag_cws_11 : ∀ q ∈ ag_ml_l.getD 11 [], ag_CW 11 q.1 q.2.1 q.2.2.1 q.2.2.2 := List.forall_mem_cons.mpr ⟨(show ag_CW 11 47 92 2 2 from ⟨by decide, by decide, by decide, rfl, rfl, by unfold ag_hx; decide, ag_lk_0_47_92⟩), List.forall_mem_cons.mpr ⟨(show ag_CW 11 51 9 2 0 from ⟨by decide, by decide, by decide, rfl, rfl, ag_lk_0_51_9⟩), List.forall_mem_cons.mpr ⟨(show ag_CW 11 55 7 2 0 from ⟨by decide, by decide, by decide, rfl, rfl, ag_lk_0_55_7⟩), fun _ h => absurd h List.not_mem_nil⟩⟩⟩
theorem ag_cws_12 : ∀ q ∈ ag_ml_l.getD 12 [], ag_CW 12 q.1 q.2.1 q.2.2.1 q.2.2.2 := List.forall_mem_cons.mpr ⟨(show ag_CW 12 47 92 2 2 from ⟨by decide, by decide, by decide, rfl, rfl, by unfold ag_hx; decide, ag_lk_0_47_92⟩), fun _ h => absurd h List.not_mem_nil⟩
theorem ag_cws_13 : ∀ q ∈ ag_ml_l.getD 13 [], ag_CW 13 q.1 q.2.1 q.2.2.1 q.2.2.2 := List.forall_mem_cons.mpr ⟨(show ag_CW 13 47 92 2 2 from ⟨by decide, by decide, by decide, rfl, rfl, by unfold ag_hx; decide, ag_lk_0_47_92⟩), List.forall_mem_cons.mpr ⟨(show ag_CW 13 59 1 2 6 from ⟨rfl, rfl, ag_lk_0_59_1⟩), fun _ h => absurd h List.not_mem_nil⟩⟩
theorem ag_cws_14 : ∀ q ∈ ag_ml_l.getD 14 [], ag_CW 14 q.1 q.2.1 q.2.2.1 q.2.2.2 := List.forall_mem_cons.mpr ⟨(show ag_CW 14 47 92 2 2 from ⟨by decide, by decide, by decide, rfl, rfl, by unfold ag_hx; decide, ag_lk_0_47_92⟩), List.forall_mem_cons.mpr ⟨(show ag_CW 14 65 5 1 0 from ⟨by decide, by decide, by decide, rfl, rfl, ag_lk_0_65_5⟩), List.forall_mem_cons.mpr ⟨(show ag_CW 14 69 93 3 2 from ⟨by decide, by decide, by decide, rfl, rfl, by unfold ag_hx; decide, ag_lk_0_69_93⟩), List.forall_mem_cons.mpr ⟨(show ag_CW 14 73 8 2 0 from ⟨by decide, by decide, by decide, rfl, rfl, ag_lk_0_73_8⟩), List.forall_mem_cons.mpr ⟨(show ag_CW 14 76 18 1 0 from ⟨by decide, by decide, by decide, rfl, rfl, ag_lk_0_76_18⟩), fun _ h => absurd h List.not_mem_nil⟩⟩⟩⟩⟩
theorem ag_cws_15 : ∀ q ∈ ag_ml_l.getD 15 [], ag_CW 15 q.1 q.2.1 q.2.2.1 q.2.2.2 := List.forall_mem_cons.mpr ⟨(show ag_CW 15 47 92 2 2 from ⟨by decide, by decide, by decide, rfl, rfl, by unfold ag_hx; decide, ag_lk_0_47_92⟩), List.forall_mem_cons.mpr ⟨(show ag_CW 15 51 9 2 0 from ⟨by decide, by decide, by decide, rfl, rfl, ag_lk_0_51_9⟩), List.forall_mem_cons.mpr ⟨(show ag_CW 15 69 93 3 2 from ⟨by decide, by decide, by decide, rfl, rfl, by unfold ag_hx; decide, ag_lk_0_69_93⟩), List.forall_mem_cons.mpr ⟨(show ag_CW 15 76 18 1 0 from ⟨by decide, by decide, by decide, rfl, rfl, ag_lk_0_76_18⟩), fun _ h => absurd h List.not_mem_nil⟩⟩⟩⟩
theorem ag_cws_16 : ∀ q ∈ ag_ml_l.getD 16 [], ag_CW 16 q.1 q.2.1 q.2.2.1 q.2.2.2 := List.forall_mem_cons.mpr ⟨(show ag_CW 16 47 92 2 2 from ⟨by decide, by decide, by decide, rfl, rfl, by unfold ag_hx; decide, ag_lk_0_47_92⟩), List.forall_mem_cons.mpr ⟨(show ag_CW 16 51 9 2 0 from ⟨by decide, by decide, by decide, rfl, rfl, ag_lk_0_51_9⟩), List.forall_mem_cons.mpr ⟨(show ag_CW 16 69 93 3 2 from ⟨by decide, by decide, by decide, rfl, rfl, by unfold ag_hx; decide, ag_lk_0_69_93⟩), List.forall_mem_cons.mpr ⟨(show ag_CW 16 76 18 1 0 from ⟨by decide, by decide, by decide, rfl, rfl, ag_lk_0_76_18⟩), List.forall_mem_cons.mpr ⟨(show ag_CW 16 79 17 4 0 from ⟨by decide, by decide, by decide, rfl, rfl, ag_lk_0_79_17⟩), fun _ h => absurd h List.not_mem_nil⟩⟩⟩⟩⟩
theorem ag_cws_17 : ∀ q ∈ ag_ml_l.getD 17 [], ag_CW 17 q.1 q.2.1 q.2.2.1 q.2.2.2 := List.forall_mem_cons.mpr ⟨(show ag_CW 17 36 94 2 2 from ⟨by decide, by decide, by decide, rfl, rfl, by unfold ag_hx; decide, ag_lk_0_36_94⟩), List.forall_mem_cons.mpr ⟨(show ag_CW 17 47 92 2 2 from ⟨by decide, by decide, by decide, rfl, rfl, by unfold ag_hx; decide, ag_lk_0_47_92⟩), List.forall_mem_cons.mpr ⟨(show ag_CW 17 69 93 3 2 from ⟨by decide, by decide, by decide, rfl, rfl, by unfold ag_hx; decide, ag_lk_0_69_93⟩), fun _ h => absurd h List.not_mem_nil⟩⟩⟩
theorem ag_cws_18 : ∀ q ∈ ag_ml_l.getD 18 [], ag_CW 18 q.1 q.2.1 q.2.2.1 q.2.2.2 := List.forall_mem_cons.mpr ⟨(show ag_CW 18 47 92 2 2 from ⟨by decide, by decide, by decide, rfl, rfl, by unfold ag_hx; decide, ag_lk_0_47_92⟩), List.forall_mem_cons.mpr ⟨(show ag_CW 18 69 93 3 2 from ⟨by decide, by decide, by decide, rfl, rfl, by unfold ag_hx; decide, ag_lk_0_69_93⟩), fun _ h => absurd h List.not_mem_nil⟩⟩
theorem ag_cws_19 : ∀ q ∈ ag_ml_l.getD 19 [], ag_CW 19 q.1 q.2.1 q.2.2.1 q.2.2.2 := List.forall_mem_cons.mpr ⟨(show ag_CW 19 3 0 1 5 from ⟨rfl, ag_lk_1_3_0⟩), List.forall_mem_cons.mpr ⟨(show ag_CW 19 11 3 1 4 from ⟨by decide, by decide, by decide, rfl, rfl, by unfold ag_hx; decide, ag_lk_1_11_3⟩), List.forall_mem_cons.mpr ⟨(show ag_CW 19 20 42 1 4 from ⟨by decide, by decide, by decide, rfl, rfl, by unfold ag_hx; decide, ag_lk_1_20_42⟩), fun _ h => absurd h List.not_mem_nil⟩⟩⟩
theorem ag_cws_20 : ∀ q ∈ ag_ml_l.getD 20 [], ag_CW 20 q.1 q.2.1 q.2.2.1 q.2.2.2 := List.forall_mem_cons.mpr ⟨(show ag_CW 20 29 4 2 0 from ⟨by decide, by decide, by decide, rfl, rfl, ag_lk_1_29_4⟩), List.forall_mem_cons.mpr ⟨(show ag_CW 20 33 43 2 0 from ⟨by decide, by decide, by decide, rfl, rfl, ag_lk_1_33_43⟩), fun _ h => absurd h List.not_mem_nil⟩⟩
theorem ag_cws_21 : ∀ q ∈ ag_ml_l.getD 21 [], ag_CW 21 q.1 q.2.1 q.2.2.1 q.2.2.2 := List.forall_mem_cons.mpr ⟨(show ag_CW 21 40 92 2 2 from ⟨by decide, by decide, by decide, rfl, rfl, by unfold ag_hx; decide, ag_lk_1_40_92⟩), List.forall_mem_cons.mpr ⟨(show ag_CW 21 44 9 2 0 from ⟨by decide, by decide, by decide, rfl, rfl, ag_lk_1_44_9⟩), List.forall_mem_cons.mpr ⟨(show ag_CW 21 51 13 3 0 from ⟨by decide, by decide, by decide, rfl, rfl, ag_lk_1_51_13⟩), List.forall_mem_cons.mpr ⟨(show ag_CW 21 55 5 1 0 from ⟨by decide, by decide, by decide, rfl, rfl, ag_lk_1_55_5⟩), List.forall_mem_cons.mpr ⟨(show ag_CW 21 59 8 2 0 from ⟨by decide, by decide, by decide, rfl, rfl, ag_lk_1_59_8⟩), fun _ h => absurd h List.not_mem_nil⟩⟩⟩⟩⟩
theorem ag_cws_22 : ∀ q ∈ ag_ml_l.getD 22 [], ag_CW 22 q.1 q.2.1 q.2.2.1 q.2.2.2 := List.forall_mem_cons.mpr ⟨(show ag_CW 22 40 92 2 2 from ⟨by decide, by decide, by decide, rfl, rfl, by unfold ag_hx; decide, ag_lk_1_40_92⟩), List.forall_mem_cons.mpr ⟨(show ag_CW 22 62 46 2 0 from ⟨by decide, by decide, by decide, rfl, rfl, ag_lk_1_62_46⟩), List.forall_mem_cons.mpr ⟨(show ag_CW 22 75 21 4 0 from ⟨by decide, by decide, by decide, rfl, rfl, ag_lk_1_75_21⟩), fun _ h => absurd h List.not_mem_nil⟩⟩⟩
theorem ag_cws_23 : ∀ q ∈ ag_ml_l.getD 23 [], ag_CW 23 q.1 q.2.1 q.2.2.1 q.2.2.2 := List.forall_mem_cons.mpr ⟨(show ag_CW 23 40 92 2 2 from ⟨by decide, by decide, by decide, rfl, rfl, by unfold ag_hx; decide, ag_lk_1_40_92⟩), List.forall_mem_cons.mpr ⟨(show ag_CW 23 86 24 3 0 from ⟨by decide, by decide, by decide, rfl, rfl, ag_lk_1_86_24⟩), List.forall_mem_cons.mpr ⟨(show ag_CW 23 90 51 2 0 from ⟨by decide, by decide, by decide, rfl, rfl, ag_lk_1_90_51⟩), fun _ h => absurd h List.not_mem_nil⟩⟩⟩
theorem ag_cws_24 : ∀ q ∈ ag_ml_l.getD 24 [], ag_CW 24 q.1 q.2.1 q.2.2.1 q.2.2.2 := List.forall_mem_cons.mpr ⟨(show ag_CW 24 40 92 2 2 from ⟨by decide, by decide, by decide, rfl, rfl, by unfold ag_hx; decide, ag_lk_1_40_92⟩), fun _ h => absurd h List.not_mem_nil⟩
theorem ag_cws_25 : ∀ q ∈ ag_ml_l.getD 25 [], ag_CW 25 q.1 q.2.1 q.2.2.1 q.2.2.2 := List.forall_mem_cons.mpr ⟨(show ag_CW 25 62 46 2 0 from ⟨by decide, by decide, by decide, rfl, rfl, ag_lk_1_62_46⟩), List.forall_mem_cons.mpr ⟨(show ag_CW 25 93 22 2 0 from ⟨by decide, by decide, by decide, rfl, rfl, ag_lk_1_93_22⟩), List.forall_mem_cons.mpr ⟨(show ag_CW 25 96 52 4 0 from ⟨by decide, by decide, by decide, rfl, rfl, ag_lk_1_96_52⟩), List.forall_mem_cons.mpr ⟨(show ag_CW 25 100 37 3 0 from ⟨by decide, by decide, by decide, rfl, rfl, ag_lk_1_100_37⟩), List.forall_mem_cons.mpr ⟨(show ag_CW 25 105 27 2 0 from ⟨by decide, by decide, by decide, rfl, rfl, ag_lk_1_105_27⟩), List.forall_mem_cons.mpr ⟨(show ag_CW 25 109 28 2 0 from ⟨by decide, by decide, by decide, rfl, rfl, ag_lk_1_109_28⟩), fun _ h => absurd h List.not_mem_nil⟩⟩⟩⟩⟩⟩
theorem ag_cws_26 : ∀ q ∈ ag_ml_l.getD 26 [], ag_CW 26 q.1 q.2.1 q.2.2.1 q.2.2.2 := List.forall_mem_cons.mpr ⟨(show ag_CW 26 112 23 1 0 from ⟨by decide, by decide, by decide, rfl, rfl, ag_lk_1_112_23⟩), List.forall_mem_cons.mpr ⟨(show ag_CW 26 116 25 3 0 from ⟨by decide, by decide, by decide, rfl, rfl, ag_lk_1_116_25⟩), fun _ h => absurd h List.not_mem_nil⟩⟩
theorem ag_cws_27 : ∀ q ∈ ag_ml_l.getD 27 [], ag_CW 27 q.1 q.2.1 q.2.2.1 q.2.2.2 := List.forall_mem_cons.mpr ⟨(show ag_CW 27 40 92 2 2 from ⟨by decide, by decide, by decide, rfl, rfl, by unfold ag_hx; decide, ag_lk_1_40_92⟩), List.forall_mem_cons.mpr ⟨(show ag_CW 27 44 9 2 0 from ⟨by decide, by decide, by decide, rfl, rfl, ag_lk_1_44_9⟩), List.forall_mem_cons.mpr ⟨(show ag_CW 27 120 15 2 0 from ⟨by decide, by decide, by decide, rfl, rfl, ag_lk_1_120_15⟩), List.forall_mem_cons.mpr ⟨(show ag_CW 27 123 16 3 0 from ⟨by decide, by decide, by decide, rfl, rfl, ag_lk_1_123_16⟩), List.forall_mem_cons.mpr ⟨(show ag_CW 27 129 93 3 2 from ⟨by decide, by decide, by decide, rfl, rfl, by unfold ag_hx; decide, ag_lk_1_129_93⟩), List.forall_mem_cons.mpr ⟨(show ag_CW 27 133 10 2 0 from ⟨by decide, by decide, by decide, rfl, rfl, ag_lk_1_133_10⟩), List.forall_mem_cons.mpr ⟨(show ag_CW 27 139 14 4 0 from ⟨by decide, by decide, by decide, rfl, rfl, ag_lk_1_139_14⟩), fun _ h => absurd h List.not_mem_nil⟩⟩⟩⟩⟩⟩⟩
theorem ag_cws_28 : ∀ q ∈ ag_ml_l.getD 28 [], ag_CW 28 q.1 q.2.1 q.2.2.1 q.2.2.2 := List.forall_mem_cons.mpr ⟨(show ag_CW 28 96 52 4 0 from ⟨by decide, by decide, by decide, rfl, rfl, ag_lk_1_96_52⟩), List.forall_mem_cons.mpr ⟨(show ag_CW 28 152 29 3 0 from ⟨by decide, by decide, by decide, rfl, rfl, ag_lk_1_152_29⟩), fun _ h => absurd h List.not_mem_nil⟩⟩
theorem ag_cws_29 : ∀ q ∈ ag_ml_l.getD 29 [], ag_CW 29 q.1 q.2.1 q.2.2.1 q.2.2.2 := List.forall_mem_cons.mpr ⟨(show ag_CW 29 40 92 2 2 from ⟨by decide, by decide, by decide, rfl, rfl, by unfold ag_hx; decide, ag_lk_1_40_92⟩), List.forall_mem_cons.mpr ⟨(show ag_CW 29 155 30 2 0 from ⟨by decide, by decide, by decide, rfl, rfl, ag_lk_1_155_30⟩), fun _ h => absurd h List.not_mem_nil⟩⟩
theorem ag_cws_30 : ∀ q ∈ ag_ml_l.getD 30 [], ag_CW 30 q.1 q.2.1 q.2.2.1 q.2.2.2 := List.forall_mem_cons.mpr ⟨(show ag_CW 30 40 92 2 2 from ⟨by decide, by decide, by decide, rfl, rfl, by unfold ag_hx; decide, ag_lk_1_40_92⟩), fun _ h => absurd h List.not_mem_nil⟩
theorem ag_cws_31 : ∀ q ∈ ag_ml_l.getD 31 [], ag_CW 31 q.1 q.2.1 q.2.2.1 q.2.2.2 := List.forall_mem_cons.mpr ⟨(show ag_CW 31 3 0 1 5 from ⟨rfl, ag_lk_2_3_0⟩), fun _ h => absurd h List.not_mem_nil⟩
theorem ag_cws_32 : ∀ q ∈ ag_ml_l.getD 32 [], ag_CW 32 q.1 q.2.1 q.2.2.1 q.2.2.2 := fun _ h => absurd h List.not_mem_nil
theorem ag_cws_33 : ∀ q ∈ ag_ml_l.getD 33 [], ag_CW 33 q.1 q.2.1 q.2.2.1 q.2.2.2 := List.forall_mem_cons.mpr ⟨(show ag_CW 33 31 93 3 2 from ⟨by decide, by decide, by decide, rfl, rfl, by unfold ag_hx; decide, ag_lk_2_31_93⟩), fun _ h => absurd h List.not_mem_nil⟩
theorem ag_cws_34 : ∀ q ∈ ag_ml_l.getD 34 [], ag_CW 34 q.1 q.2.1 q.2.2.1 q.2.2.2 := List.forall_mem_cons.mpr ⟨(show ag_CW 34 35 92 2 2 from ⟨by decide, by decide, by decide, rfl, rfl, by unfold ag_hx; decide, ag_lk_2_35_92⟩), fun _ h => absurd h List.not_mem_nil⟩
theorem ag_cws_35 : ∀ q ∈ ag_ml_l.getD 35 [], ag_CW 35 q.1 q.2.1 q.2.2.1 q.2.2.2 := List.forall_mem_cons.mpr ⟨(show ag_CW 35 35 92 2 2 from ⟨by decide, by decide, by decide, rfl, rfl, by unfold ag_hx; decide, ag_lk_2_35_92⟩), fun _ h => absurd h List.not_mem_nil⟩
theorem ag_cws_36 : ∀ q ∈ ag_ml_l.getD 36 [], ag_CW 36 q.1 q.2.1 q.2.2.1 q.2.2.2 := List.forall_mem_cons.mpr ⟨(show ag_CW 36 31 93 3 2 from ⟨by decide, by decide, by decide, rfl, rfl, by unfold ag_hx; decide, ag_lk_2_31_93⟩), List.forall_mem_cons.mpr ⟨(show ag_CW 36 35 92 2 2 from ⟨by decide, by decide, by decide, rfl, rfl, by unfold ag_hx; decide, ag_lk_2_35_92⟩), fun _ h => absurd h List.not_mem_nil⟩⟩
theorem ag_cws_37 : ∀ q ∈ ag_ml_l.getD 37 [], ag_CW 37 q.1 q.2.1 q.2.2.1 q.2.2.2 := List.forall_mem_cons.mpr ⟨(show ag_CW 37 35 92 2 2 from ⟨by decide, by decide, by decide, rfl, rfl, by unfold ag_hx; decide, ag_lk_2_35_92⟩), List.forall_mem_cons.mpr ⟨(show ag_CW 37 39 35 3 0 from ⟨by decide, by decide, by decide, rfl, rfl, ag_lk_2_39_35⟩), fun _ h => absurd h List.not_mem_nil⟩⟩
theorem ag_cws_38 : ∀ q ∈ ag_ml_l.getD 38 [], ag_CW 38 q.1 q.2.1 q.2.2.1 q.2.2.2 := fun _ h => absurd h List.not_mem_nil
theorem ag_cws_39 : ∀ q ∈ ag_ml_l.getD 39 [], ag_CW 39 q.1 q.2.1 q.2.2.1 q.2.2.2 := List.forall_mem_cons.mpr ⟨(show ag_CW 39 31 93 3 2 from ⟨by decide, by decide, by decide, rfl, rfl, by unfold ag_hx; decide, ag_lk_2_31_93⟩), List.forall_mem_cons.mpr ⟨(show ag_CW 39 35 92 2 2 from ⟨by decide, by decide, by decide, rfl, rfl, by unfold ag_hx; decide, ag_lk_2_35_92⟩), List.forall_mem_cons.mpr ⟨(show ag_CW 39 46 34 1 0 from ⟨by decide, by decide, by decide, rfl, rfl, ag_lk_2_46_34⟩), fun _ h => absurd h List.not_mem_nil⟩⟩⟩
theorem ag_cws_40 : ∀ q ∈ ag_ml_l.getD 40 [], ag_CW 40 q.1 q.2.1 q.2.2.1 q.2.2.2 := List.forall_mem_cons.mpr ⟨(show ag_CW 40 35 92 2 2 from ⟨by decide, by decide, by decide, rfl, rfl, by unfold ag_hx; decide, ag_lk_2_35_92⟩), fun _ h => absurd h List.not_mem_nil⟩
theorem ag_cws_41 : ∀ q ∈ ag_ml_l.getD 41 [], ag_CW 41 q.1 q.2.1 q.2.2.1 q.2.2.2 := List.forall_mem_cons.mpr ⟨(show ag_CW 41 31 93 3 2 from ⟨by decide, by decide, by decide, rfl, rfl, by unfold ag_hx; decide, ag_lk_2_31_93⟩), List.forall_mem_cons.mpr ⟨(show ag_CW 41 35 92 2 2 from ⟨by decide, by decide, by decide, rfl, rfl, by unfold ag_hx; decide, ag_lk_2_35_92⟩), fun _ h => absurd h List.not_mem_nil⟩⟩
theorem ag_cws_42 : ∀ q ∈ ag_ml_l.getD 42 [], ag_CW 42 q.1 q.2.1 q.2.2.1 q.2.2.2 := List.forall_mem_cons.mpr ⟨(show ag_CW 42 3 0 1 5 from ⟨rfl, ag_lk_3_3_0⟩), fun _ h => absurd h List.not_mem_nil⟩
theorem ag_cws_43 : ∀ q ∈ ag_ml_l.getD 43 [], ag_CW 43 q.1 q.2.1 q.2.2.1 q.2.2.2 := List.forall_mem_cons.mpr ⟨(show ag_CW 43 30 94 2 2 from ⟨by decide, by decide, by decide, rfl, rfl, by unfold ag_hx; decide, ag_lk_3_30_94⟩), fun _ h => absurd h List.not_mem_nil⟩
theorem ag_cws_44 : ∀ q ∈ ag_ml_l.getD 44 [], ag_CW 44 q.1 q.2.1 q.2.2.1 q.2.2.2 := fun _ h => absurd h List.not_mem_nil
theorem ag_cws_45 : ∀ q ∈ ag_ml_l.getD 45 [], ag_CW 45 q.1 q.2.1 q.2.2.1 q.2.2.2 := fun _ h => absurd h List.not_mem_nil
theorem ag_cws_46 : ∀ q ∈ ag_ml_l.getD 46 [], ag_CW 46 q.1 q.2.1 q.2.2.1 q.2.2.2 := List.forall_mem_cons.mpr ⟨(show ag_CW 46 38 92 2 2 from ⟨by decide, by decide, by decide, rfl, rfl, by unfold ag_hx; decide, ag_lk_3_38_92⟩), fun _ h => absurd h List.not_mem_nil⟩
theorem ag_cws_47 : ∀ q ∈ ag_ml_l.getD 47 [], ag_CW 47 q.1 q.2.1 q.2.2.1 q.2.2.2 := List.forall_mem_cons.mpr ⟨(show ag_CW 47 38 92 2 2 from ⟨by decide, by decide, by decide, rfl, rfl, by unfold ag_hx; decide, ag_lk_3_38_92⟩), fun _ h => absurd h List.not_mem_nil⟩
theorem ag_cws_48 : ∀ q ∈ ag_ml_l.getD 48 [], ag_CW 48 q.1 q.2.1 q.2.2.1 q.2.2.2 := List.forall_mem_cons.mpr ⟨(show ag_CW 48 42 93 3 2 from ⟨by decide, by decide, by decide, rfl, rfl, by unfold ag_hx; decide, ag_lk_3_42_93⟩), fun _ h => absurd h List.not_mem_nil⟩
theorem ag_cws_49 : ∀ q ∈ ag_ml_l.getD 49 [], ag_CW 49 q.1 q.2.1 q.2.2.1 q.2.2.2 := List.forall_mem_cons.mpr ⟨(show ag_CW 49 38 92 2 2 from ⟨by decide, by decide, by decide, rfl, rfl, by unfold ag_hx; decide, ag_lk_3_38_92⟩), fun _ h => absurd h List.not_mem_nil⟩
theorem ag_cws_50 : ∀ q ∈ ag_ml_l.getD 50 [], ag_CW 50 q.1 q.2.1 q.2.2.1 q.2.2.2 := List.forall_mem_cons.mpr ⟨(show ag_CW 50 38 92 2 2 from ⟨by decide, by decide, by decide, rfl, rfl, by unfold ag_hx; decide, ag_lk_3_38_92⟩), fun _ h => absurd h List.not_mem_nil⟩
theorem ag_cws_51 : ∀ q ∈ ag_ml_l.getD 51 [], ag_CW 51 q.1 q.2.1 q.2.2.1 q.2.2.2 := List.forall_mem_cons.mpr ⟨(show ag_CW 51 38 92 2 2 from ⟨by decide, by decide, by decide, rfl, rfl, by unfold ag_hx; decide, ag_lk_3_38_92⟩), fun _ h => absurd h List.not_mem_nil⟩
theorem ag_cws_52 : ∀ q ∈ ag_ml_l.getD 52 [], ag_CW 52 q.1 q.2.1 q.2.2.1 q.2.2.2 := List.forall_mem_cons.mpr ⟨(show ag_CW 52 38 92 2 2 from ⟨by decide, by decide, by decide, rfl, rfl, by unfold ag_hx; decide, ag_lk_3_38_92⟩), List.forall_mem_cons.mpr ⟨(show ag_CW 52 42 93 3 2 from ⟨by decide, by decide, by decide, rfl, rfl, by unfold ag_hx; decide, ag_lk_3_42_93⟩), fun _ h => absurd h List.not_mem_nil⟩⟩
theorem ag_cws_53 : ∀ q ∈ ag_ml_l.getD 53 [], ag_CW 53 q.1 q.2.1 q.2.2.1 q.2.2.2 := List.forall_mem_cons.mpr ⟨(show ag_CW 53 3 0 1 5 from ⟨rfl, ag_lk_4_3_0⟩), fun _ h => absurd h List.not_mem_nil⟩
theorem ag_cws_54 : ∀ q ∈ ag_ml_l.getD 54 [], ag_CW 54 q.1 q.2.1 q.2.2.1 q.2.2.2 := List.forall_mem_cons.mpr ⟨(show ag_CW 54 22 93 3 2 from ⟨by decide, by decide, by decide, rfl, rfl, by unfold ag_hx; decide, ag_lk_4_22_93⟩), fun _ h => absurd h List.not_mem_nil⟩
theorem ag_cws_55 : ∀ q ∈ ag_ml_l.getD 55 [], ag_CW 55 q.1 q.2.1 q.2.2.1 q.2.2.2 := List.forall_mem_cons.mpr ⟨(show ag_CW 55 26 92 2 2 from ⟨by decide, by decide, by decide, rfl, rfl, by unfold ag_hx; decide, ag_lk_4_26_92⟩), fun _ h => absurd h List.not_mem_nil⟩
theorem ag_cws_56 : ∀ q ∈ ag_ml_l.getD 56 [], ag_CW 56 q.1 q.2.1 q.2.2.1 q.2.2.2 := List.forall_mem_cons.mpr ⟨(show ag_CW 56 26 92 2 2 from ⟨by decide, by decide, by decide, rfl, rfl, by unfold ag_hx; decide, ag_lk_4_26_92⟩), fun _ h => absurd h List.not_mem_nil⟩
theorem ag_cws_57 : ∀ q ∈ ag_ml_l.getD 57 [], ag_CW 57 q.1 q.2.1 q.2.2.1 q.2.2.2 := List.forall_mem_cons.mpr ⟨(show ag_CW 57 22 93 3 2 from ⟨by decide, by decide, by decide, rfl, rfl, by unfold ag_hx; decide, ag_lk_4_22_93⟩), List.forall_mem_cons.mpr ⟨(show ag_CW 57 26 92 2 2 from ⟨by decide, by decide, by decide, rfl, rfl, by unfold ag_hx; decide, ag_lk_4_26_92⟩), List.forall_mem_cons.mpr ⟨(show ag_CW 57 30 7 2 0 from ⟨by decide, by decide, by decide, rfl, rfl, ag_lk_4_30_7⟩), fun _ h => absurd h List.not_mem_nil⟩⟩⟩
theorem ag_cws_58 : ∀ q ∈ ag_ml_l.getD 58 [], ag_CW 58 q.1 q.2.1 q.2.2.1 q.2.2.2 := List.forall_mem_cons.mpr ⟨(show ag_CW 58 1 0 1 5 from ⟨rfl, ag_lk_5_1_0⟩), List.forall_mem_cons.mpr ⟨(show ag_CW 58 9 31 1 4 from ⟨by decide, by decide, by decide, rfl, rfl, by unfold ag_hx; decide, ag_lk_5_9_31⟩), List.forall_mem_cons.mpr ⟨(show ag_CW 58 18 53 1 4 from ⟨by decide, by decide, by decide, rfl, rfl, by unfold ag_hx; decide, ag_lk_5_18_53⟩), List.forall_mem_cons.mpr ⟨(show ag_CW 58 25 19 2 3 from ⟨by decide, by decide, by decide, rfl, rfl, by unfold ag_hx; decide, ag_lk_5_25_19⟩), fun _ h => absurd h List.not_mem_nil⟩⟩⟩⟩
theorem ag_cws_59 : ∀ q ∈ ag_ml_l.getD 59 [], ag_CW 59 q.1 q.2.1 q.2.2.1 q.2.2.2 := List.forall_mem_cons.mpr ⟨(show ag_CW 59 43 7 2 0 from ⟨by decide, by decide, by decide, rfl, rfl, ag_lk_5_43_7⟩), List.forall_mem_cons.mpr ⟨(show ag_CW 59 56 91 1 1 from ⟨by decide, by decide, by decide, rfl, rfl, rfl, ag_lk_5_56_91⟩), List.forall_mem_cons.mpr ⟨(show ag_CW 59 64 5 1 0 from ⟨by decide, by decide, by decide, rfl, rfl, ag_lk_5_64_5⟩), List.forall_mem_cons.mpr ⟨(show ag_CW 59 68 8 2 0 from ⟨by decide, by decide, by decide, rfl, rfl, ag_lk_5_68_8⟩), List.forall_mem_cons.mpr ⟨(show ag_CW 59 90 9 2 0 from ⟨by decide, by decide, by decide, rfl, rfl, ag_lk_5_90_9⟩), List.forall_mem_cons.mpr ⟨(show ag_CW 59 93 14 4 0 from ⟨by decide, by decide, by decide, rfl, rfl, ag_lk_5_93_14⟩), fun _ h => absurd h List.not_mem_nil⟩⟩⟩⟩⟩⟩
theorem ag_cws_60 : ∀ q ∈ ag_ml_l.getD 60 [], ag_CW 60 q.1 q.2.1 q.2.2.1 q.2.2.2 := List.forall_mem_cons.mpr ⟨(show ag_CW 60 97 6 2 0 from ⟨by decide, by decide, by decide, rfl, rfl, ag_lk_5_97_6⟩), List.forall_mem_cons.mpr ⟨(show ag_CW 60 104 84 3 0 from ⟨by decide, by decide, by decide, rfl, rfl, ag_lk_5_104_84⟩), fun _ h => absurd h List.not_mem_nil⟩⟩
theorem ag_cws_61 : ∀ q ∈ ag_ml_l.getD 61 [], ag_CW 61 q.1 q.2.1 q.2.2.1 q.2.2.2 := List.forall_mem_cons.mpr ⟨(show ag_CW 61 119 83 2 0 from ⟨by decide, by decide, by decide, rfl, rfl, ag_lk_5_119_83⟩), fun _ h => absurd h List.not_mem_nil⟩
theorem ag_cws_62 : ∀ q ∈ ag_ml_l.getD 62 [], ag_CW 62 q.1 q.2.1 q.2.2.1 q.2.2.2 := List.forall_mem_cons.mpr ⟨(show ag_CW 62 43 7 2 0 from ⟨by decide, by decide, by decide, rfl, rfl, ag_lk_5_43_7⟩), List.forall_mem_cons.mpr ⟨(show ag_CW 62 56 91 1 1 from ⟨by decide, by decide, by decide, rfl, rfl, rfl, ag_lk_5_56_91⟩), List.forall_mem_cons.mpr ⟨(show ag_CW 62 124 44 1 0 from ⟨by decide, by decide, by decide, rfl, rfl, ag_lk_5_124_44⟩), List.forall_mem_cons.mpr ⟨(show ag_CW 62 125 21 4 0 from ⟨by decide, by decide, by decide, rfl, rfl, ag_lk_5_125_21⟩), List.forall_mem_cons.mpr ⟨(show ag_CW 62 131 48 4 0 from ⟨by decide, by decide, by decide, rfl, rfl, ag_lk_5_131_48⟩), fun _ h => absurd h List.not_mem_nil⟩⟩⟩⟩⟩
theorem ag_cws_63 : ∀ q ∈ ag_ml_l.getD 63 [], ag_CW 63 q.1 q.2.1 q.2.2.1 q.2.2.2 := List.forall_mem_cons.mpr ⟨(show ag_CW 63 56 91 1 1 from ⟨by decide, by decide, by decide, rfl, rfl, rfl, ag_lk_5_56_91⟩), List.forall_mem_cons.mpr ⟨(show ag_CW 63 124 44 1 0 from ⟨by decide, by decide, by decide, rfl, rfl, ag_lk_5_124_44⟩), List.forall_mem_cons.mpr ⟨(show ag_CW 63 131 48 4 0 from ⟨by decide, by decide, by decide, rfl, rfl, ag_lk_5_131_48⟩), List.forall_mem_cons.mpr ⟨(show ag_CW 63 134 45 2 0 from ⟨by decide, by decide, by decide, rfl, rfl, ag_lk_5_134_45⟩), List.forall_mem_cons.mpr ⟨(show ag_CW 63 137 46 2 0 from ⟨by decide, by decide, by decide, rfl, rfl, ag_lk_5_137_46⟩), List.forall_mem_cons.mpr ⟨(show ag_CW 63 140 47 2 0 from ⟨by decide, by decide, by decide, rfl, rfl, ag_lk_5_140_47⟩), fun _ h => absurd h List.not_mem_nil⟩⟩⟩⟩⟩⟩
theorem ag_cws_64 : ∀ q ∈ ag_ml_l.getD 64 [], ag_CW 64 q.1 q.2.1 q.2.2.1 q.2.2.2 := List.forall_mem_cons.mpr ⟨(show ag_CW 64 134 45 2 0 from ⟨by decide, by decide, by decide, rfl, rfl, ag_lk_5_134_45⟩), List.forall_mem_cons.mpr ⟨(show ag_CW 64 137 46 2 0 from ⟨by decide, by decide, by decide, rfl, rfl, ag_lk_5_137_46⟩), List.forall_mem_cons.mpr ⟨(show ag_CW 64 147 50 2 0 from ⟨by decide, by decide, by decide, rfl, rfl, ag_lk_5_147_50⟩), List.forall_mem_cons.mpr ⟨(show ag_CW 64 150 52 4 0 from ⟨by decide, by decide, by decide, rfl, rfl, ag_lk_5_150_52⟩), fun _ h => absurd h List.not_mem_nil⟩⟩⟩⟩
theorem ag_cws_65 : ∀ q ∈ ag_ml_l.getD 65 [], ag_CW 65 q.1 q.2.1 q.2.2.1 q.2.2.2 := List.forall_mem_cons.mpr ⟨(show ag_CW 65 134 45 2 0 from ⟨by decide, by decide, by decide, rfl, rfl, ag_lk_5_134_45⟩), List.forall_mem_cons.mpr ⟨(show ag_CW 65 156 49 3 0 from ⟨by decide, by decide, by decide, rfl, rfl, ag_lk_5_156_49⟩), fun _ h => absurd h List.not_mem_nil⟩⟩
theorem ag_cws_66 : ∀ q ∈ ag_ml_l.getD 66 [], ag_CW 66 q.1 q.2.1 q.2.2.1 q.2.2.2 := List.forall_mem_cons.mpr ⟨(show ag_CW 66 159 23 1 0 from ⟨by decide, by decide, by decide, rfl, rfl, ag_lk_5_159_23⟩), fun _ h => absurd h List.not_mem_nil⟩
theorem ag_cws_67 : ∀ q ∈ ag_ml_l.getD 67 [], ag_CW 67 q.1 q.2.1 q.2.2.1 q.2.2.2 := List.forall_mem_cons.mpr ⟨(show ag_CW 67 134 45 2 0 from ⟨by decide, by decide, by decide, rfl, rfl, ag_lk_5_134_45⟩), List.forall_mem_cons.mpr ⟨(show ag_CW 67 163 22 2 0 from ⟨by decide, by decide, by decide, rfl, rfl, ag_lk_5_163_22⟩), fun _ h => absurd h List.not_mem_nil⟩⟩
theorem ag_cws_68 : ∀ q ∈ ag_ml_l.getD 68 [], ag_CW 68 q.1 q.2.1 q.2.2.1 q.2.2.2 := List.forall_mem_cons.mpr ⟨(show ag_CW 68 173 33 2 0 from ⟨by decide, by decide, by decide, rfl, rfl, ag_lk_5_173_33⟩), fun _ h => absurd h List.not_mem_nil⟩
theorem ag_cws_69 : ∀ q ∈ ag_ml_l.getD 69 [], ag_CW 69 q.1 q.2.1 q.2.2.1 q.2.2.2 := List.forall_mem_cons.mpr ⟨(show ag_CW 69 134 45 2 0 from ⟨by decide, by decide, by decide, rfl, rfl, ag_lk_5_134_45⟩), List.forall_mem_cons.mpr ⟨(show ag_CW 69 137 46 2 0 from ⟨by decide, by decide, by decide, rfl, rfl, ag_lk_5_137_46⟩), List.forall_mem_cons.mpr ⟨(show ag_CW 69 175 32 2 0 from ⟨by decide, by decide, by decide, rfl, rfl, ag_lk_5_175_32⟩), List.forall_mem_cons.mpr ⟨(show ag_CW 69 180 36 4 0 from ⟨by decide, by decide, by decide, rfl, rfl, ag_lk_5_180_36⟩), fun _ h => absurd h List.not_mem_nil⟩⟩⟩⟩
theorem ag_cws_70 : ∀ q ∈ ag_ml_l.getD 70 [], ag_CW 70 q.1 q.2.1 q.2.2.1 q.2.2.2 := fun _ h => absurd h List.not_mem_nil
theorem ag_cws_71 : ∀ q ∈ ag_ml_l.getD 71 [], ag_CW 71 q.1 q.2.1 q.2.2.1 q.2.2.2 := List.forall_mem_cons.mpr ⟨(show ag_CW 71 192 38 1 0 from ⟨by decide, by decide, by decide, rfl, rfl, ag_lk_5_192_38⟩), List.forall_mem_cons.mpr ⟨(show ag_CW 71 198 39 2 0 from ⟨by decide, by decide, by decide, rfl, rfl, ag_lk_5_198_39⟩), fun _ h => absurd h List.not_mem_nil⟩⟩
theorem ag_cws_72 : ∀ q ∈ ag_ml_l.getD 72 [], ag_CW 72 q.1 q.2.1 q.2.2.1 q.2.2.2 := List.forall_mem_cons.mpr ⟨(show ag_CW 72 159 23 1 0 from ⟨by decide, by decide, by decide, rfl, rfl, ag_lk_5_159_23⟩), List.forall_mem_cons.mpr ⟨(show ag_CW 72 175 32 2 0 from ⟨by decide, by decide, by decide, rfl, rfl, ag_lk_5_175_32⟩), List.forall_mem_cons.mpr ⟨(show ag_CW 72 192 38 1 0 from ⟨by decide, by decide, by decide, rfl, rfl, ag_lk_5_192_38⟩), List.forall_mem_cons.mpr ⟨(show ag_CW 72 206 40 3 0 from ⟨by decide, by decide, by decide, rfl, rfl, ag_lk_5_206_40⟩), List.forall_mem_cons.mpr ⟨(show ag_CW 72 212 41 3 0 from ⟨by decide, by decide, by decide, rfl, rfl, ag_lk_5_212_41⟩), fun _ h => absurd h List.not_mem_nil⟩⟩⟩⟩⟩
theorem ag_cws_73 : ∀ q ∈ ag_ml_l.getD 73 [], ag_CW 73 q.1 q.2.1 q.2.2.1 q.2.2.2 := List.forall_mem_cons.mpr ⟨(show ag_CW 73 113 92 2 1 from ⟨by decide, by decide, by decide, rfl, rfl, rfl, ag_lk_5_113_92⟩), List.forall_mem_cons.mpr ⟨(show ag_CW 73 159 23 1 0 from ⟨by decide, by decide, by decide, rfl, rfl, ag_lk_5_159_23⟩), List.forall_mem_cons.mpr ⟨(show ag_CW 73 192 38 1 0 from ⟨by decide, by decide, by decide, rfl, rfl, ag_lk_5_192_38⟩), List.forall_mem_cons.mpr ⟨(show ag_CW 73 217 25 3 0 from ⟨by decide, by decide, by decide, rfl, rfl, ag_lk_5_217_25⟩), List.forall_mem_cons.mpr ⟨(show ag_CW 73 221 57 2 0 from ⟨by decide, by decide, by decide, rfl, rfl, ag_lk_5_221_57⟩), fun _ h => absurd h List.not_mem_nil⟩⟩⟩⟩⟩
theorem ag_cws_74 : ∀ q ∈ ag_ml_l.getD 74 [], ag_CW 74 q.1 q.2.1 q.2.2.1 q.2.2.2 := List.forall_mem_cons.mpr ⟨(show ag_CW 74 175 32 2 0 from ⟨by decide, by decide, by decide, rfl, rfl, ag_lk_5_175_32⟩), List.forall_mem_cons.mpr ⟨(show ag_CW 74 230 85 3 0 from ⟨by decide, by decide, by decide, rfl, rfl, ag_lk_5_230_85⟩), fun _ h => absurd h List.not_mem_nil⟩⟩
theorem ag_cws_75 : ∀ q ∈ ag_ml_l.getD 75 [], ag_CW 75 q.1 q.2.1 q.2.2.1 q.2.2.2 := List.forall_mem_cons.mpr ⟨(show ag_CW 75 43 7 2 0 from ⟨by decide, by decide, by decide, rfl, rfl, ag_lk_5_43_7⟩), List.forall_mem_cons.mpr ⟨(show ag_CW 75 238 54 3 0 from ⟨by decide, by decide, by decide, rfl, rfl, ag_lk_5_238_54⟩), fun _ h => absurd h List.not_mem_nil⟩⟩
theorem ag_cws_76 : ∀ q ∈ ag_ml_l.getD 76 [], ag_CW 76 q.1 q.2.1 q.2.2.1 q.2.2.2 := List.forall_mem_cons.mpr ⟨(show ag_CW 76 245 12 1 0 from ⟨by decide, by decide, by decide, rfl, rfl, ag_lk_5_245_12⟩), fun _ h => absurd h List.not_mem_nil⟩
theorem ag_cws_77 : ∀ q ∈ ag_ml_l.getD 77 [], ag_CW 77 q.1 q.2.1 q.2.2.1 q.2.2.2 := List.forall_mem_cons.mpr ⟨(show ag_CW 77 134 45 2 0 from ⟨by decide, by decide, by decide, rfl, rfl, ag_lk_5_134_45⟩), List.forall_mem_cons.mpr ⟨(show ag_CW 77 248 37 3 0 from ⟨by decide, by decide, by decide, rfl, rfl, ag_lk_5_248_37⟩), fun _ h => absurd h List.not_mem_nil⟩⟩
theorem ag_cws_78 : ∀ q ∈ ag_ml_l.getD 78 [], ag_CW 78 q.1 q.2.1 q.2.2.1 q.2.2.2 := List.forall_mem_cons.mpr ⟨(show ag_CW 78 134 45 2 0 from ⟨by decide, by decide, by decide, rfl, rfl, ag_lk_5_134_45⟩), List.forall_mem_cons.mpr ⟨(show ag_CW 78 251 87 2 0 from ⟨by decide, by decide, by decide, rfl, rfl, ag_lk_5_251_87⟩), fun _ h => absurd h List.not_mem_nil⟩⟩
theorem ag_cws_79 : ∀ q ∈ ag_ml_l.getD 79 [], ag_CW 79 q.1 q.2.1 q.2.2.1 q.2.2.2 := List.forall_mem_cons.mpr ⟨(show ag_CW 79 254 88 1 0 from ⟨by decide, by decide, by decide, rfl, rfl, ag_lk_5_254_88⟩), fun _ h => absurd h List.not_mem_nil⟩
theorem ag_cws_80 : ∀ q ∈ ag_ml_l.getD 80 [], ag_CW 80 q.1 q.2.1 q.2.2.1 q.2.2.2 := List.forall_mem_cons.mpr ⟨(show ag_CW 80 175 32 2 0 from ⟨by decide, by decide, by decide, rfl, rfl, ag_lk_5_175_32⟩), List.forall_mem_cons.mpr ⟨(show ag_CW 80 257 89 2 0 from ⟨by decide, by decide, by decide, rfl, rfl, ag_lk_5_257_89⟩), fun _ h => absurd h List.not_mem_nil⟩⟩
theorem ag_cws_81 : ∀ q ∈ ag_ml_l.getD 81 [], ag_CW 81 q.1 q.2.1 q.2.2.1 q.2.2.2 := List.forall_mem_cons.mpr ⟨(show ag_CW 81 260 90 2 0 from ⟨by decide, by decide, by decide, rfl, rfl, ag_lk_5_260_90⟩), fun _ h => absurd h List.not_mem_nil⟩
theorem ag_cws_82 : ∀ q ∈ ag_ml_l.getD 82 [], ag_CW 82 q.1 q.2.1 q.2.2.1 q.2.2.2 := List.forall_mem_cons.mpr ⟨(show ag_CW 82 104 84 3 0 from ⟨by decide, by decide, by decide, rfl, rfl, ag_lk_5_104_84⟩), List.forall_mem_cons.mpr ⟨(show ag_CW 82 113 92 2 1 from ⟨by decide, by decide, by decide, rfl, rfl, rfl, ag_lk_5_113_92⟩), List.forall_mem_cons.mpr ⟨(show ag_CW 82 119 83 2 0 from ⟨by decide, by decide, by decide, rfl, rfl, ag_lk_5_119_83⟩), List.forall_mem_cons.mpr ⟨(show ag_CW 82 156 49 3 0 from ⟨by decide, by decide, by decide, rfl, rfl, ag_lk_5_156_49⟩), List.forall_mem_cons.mpr ⟨(show ag_CW 82 159 23 1 0 from ⟨by decide, by decide, by decide, rfl, rfl, ag_lk_5_159_23⟩), List.forall_mem_cons.mpr ⟨(show ag_CW 82 230 85 3 0 from ⟨by decide, by decide, by decide, rfl, rfl, ag_lk_5_230_85⟩), List.forall_mem_cons.mpr ⟨(show ag_CW 82 251 87 2 0 from ⟨by decide, by decide, by decide, rfl, rfl, ag_lk_5_251_87⟩), List.forall_mem_cons.mpr ⟨(show ag_CW 82 254 88 1 0 from ⟨by decide, by decide, by decide, rfl, rfl, ag_lk_5_254_88⟩), List.forall_mem_cons.mpr ⟨(show ag_CW 82 257 89 2 0 from ⟨by decide, by decide, by decide, rfl, rfl, ag_lk_5_257_89⟩), fun _ h => absurd h List.not_mem_nil⟩⟩⟩⟩⟩⟩⟩⟩⟩
theorem ag_cws_83 : ∀ q ∈ ag_ml_l.getD 83 [], ag_CW 83 q.1 q.2.1 q.2.2.1 q.2.2.2 := List.forall_mem_cons.mpr ⟨(show ag_CW 83 147 50 2 0 from ⟨by decide, by decide, by decide, rfl, rfl, ag_lk_5_147_50⟩), List.forall_mem_cons.mpr ⟨(show ag_CW 83 272 34 1 0 from ⟨by decide, by decide, by decide, rfl, rfl, ag_lk_5_272_34⟩), List.forall_mem_cons.mpr ⟨(show ag_CW 83 275 55 2 0 from ⟨by decide, by decide, by decide, rfl, rfl, ag_lk_5_275_55⟩), fun _ h => absurd h List.not_mem_nil⟩⟩⟩
theorem ag_cws_84 : ∀ q ∈ ag_ml_l.getD 84 [], ag_CW 84 q.1 q.2.1 q.2.2.1 q.2.2.2 := List.forall_mem_cons.mpr ⟨(show ag_CW 84 43 7 2 0 from ⟨by decide, by decide, by decide, rfl, rfl, ag_lk_5_43_7⟩), List.forall_mem_cons.mpr ⟨(show ag_CW 84 113 92 2 1 from ⟨by decide, by decide, by decide, rfl, rfl, rfl, ag_lk_5_113_92⟩), List.forall_mem_cons.mpr ⟨(show ag_CW 84 290 11 2 0 from ⟨by decide, by decide, by decide, rfl, rfl, ag_lk_5_290_11⟩), List.forall_mem_cons.mpr ⟨(show ag_CW 84 296 56 2 0 from ⟨by decide, by decide, by decide, rfl, rfl, ag_lk_5_296_56⟩), fun _ h => absurd h List.not_mem_nil⟩⟩⟩⟩
theorem ag_cws_85 : ∀ q ∈ ag_ml_l.getD 85 [], ag_CW 85 q.1 q.2.1 q.2.2.1 q.2.2.2 := List.forall_mem_cons.mpr ⟨(show ag_CW 85 113 92 2 1 from ⟨by decide, by decide, by decide, rfl, rfl, rfl, ag_lk_5_113_92⟩), List.forall_mem_cons.mpr ⟨(show ag_CW 85 192 38 1 0 from ⟨by decide, by decide, by decide, rfl, rfl, ag_lk_5_192_38⟩), List.forall_mem_cons.mpr ⟨(show ag_CW 85 308 86 2 0 from ⟨by decide, by decide, by decide, rfl, rfl, ag_lk_5_308_86⟩), fun _ h => absurd h List.not_mem_nil⟩⟩⟩
theorem ag_cws_86 : ∀ q ∈ ag_ml_l.getD 86 [], ag_CW 86 q.1 q.2.1 q.2.2.1 q.2.2.2 := List.forall_mem_cons.mpr ⟨(show ag_CW 86 113 92 2 1 from ⟨by decide, by decide, by decide, rfl, rfl, rfl, ag_lk_5_113_92⟩), List.forall_mem_cons.mpr ⟨(show ag_CW 86 311 35 3 0 from ⟨by decide, by decide, by decide, rfl, rfl, ag_lk_5_311_35⟩), fun _ h => absurd h List.not_mem_nil⟩⟩
theorem ag_cws_87 : ∀ q ∈ ag_ml_l.getD 87 [], ag_CW 87 q.1 q.2.1 q.2.2.1 q.2.2.2 := List.forall_mem_cons.mpr ⟨(show ag_CW 87 147 50 2 0 from ⟨by decide, by decide, by decide, rfl, rfl, ag_lk_5_147_50⟩), List.forall_mem_cons.mpr ⟨(show ag_CW 87 163 22 2 0 from ⟨by decide, by decide, by decide, rfl, rfl, ag_lk_5_163_22⟩), List.forall_mem_cons.mpr ⟨(show ag_CW 87 314 20 2 0 from ⟨by decide, by decide, by decide, rfl, rfl, ag_lk_5_314_20⟩), List.forall_mem_cons.mpr ⟨(show ag_CW 87 318 27 2 0 from ⟨by decide, by decide, by decide, rfl, rfl, ag_lk_5_318_27⟩), List.forall_mem_cons.mpr ⟨(show ag_CW 87 321 28 2 0 from ⟨by decide, by decide, by decide, rfl, rfl, ag_lk_5_321_28⟩), fun _ h => absurd h List.not_mem_nil⟩⟩⟩⟩⟩
theorem ag_cws_88 : ∀ q ∈ ag_ml_l.getD 88 [], ag_CW 88 q.1 q.2.1 q.2.2.1 q.2.2.2 := List.forall_mem_cons.mpr ⟨(show ag_CW 88 314 20 2 0 from ⟨by decide, by decide, by decide, rfl, rfl, ag_lk_5_314_20⟩), List.forall_mem_cons.mpr ⟨(show ag_CW 88 324 26 2 0 from ⟨by decide, by decide, by decide, rfl, rfl, ag_lk_5_324_26⟩), fun _ h => absurd h List.not_mem_nil⟩⟩
theorem ag_cws_89 : ∀ q ∈ ag_ml_l.getD 89 [], ag_CW 89 q.1 q.2.1 q.2.2.1 q.2.2.2 := List.forall_mem_cons.mpr ⟨(show ag_CW 89 113 92 2 1 from ⟨by decide, by decide, by decide, rfl, rfl, rfl, ag_lk_5_113_92⟩), List.forall_mem_cons.mpr ⟨(show ag_CW 89 314 20 2 0 from ⟨by decide, by decide, by decide, rfl, rfl, ag_lk_5_314_20⟩), List.forall_mem_cons.mpr ⟨(show ag_CW 89 324 26 2 0 from ⟨by decide, by decide, by decide, rfl, rfl, ag_lk_5_324_26⟩), List.forall_mem_cons.mpr ⟨(show ag_CW 89 327 94 2 1 from ⟨by decide, by decide, by decide, rfl, rfl, rfl, ag_lk_5_327_94⟩), fun _ h => absurd h List.not_mem_nil⟩⟩⟩⟩
theorem ag_cws_90 : ∀ q ∈ ag_ml_l.getD 90 [], ag_CW 90 q.1 q.2.1 q.2.2.1 q.2.2.2 := List.forall_mem_cons.mpr ⟨(show ag_CW 90 159 23 1 0 from ⟨by decide, by decide, by decide, rfl, rfl, ag_lk_5_159_23⟩), List.forall_mem_cons.mpr ⟨(show ag_CW 90 217 25 3 0 from ⟨by decide, by decide, by decide, rfl, rfl, ag_lk_5_217_25⟩), List.forall_mem_cons.mpr ⟨(show ag_CW 90 314 20 2 0 from ⟨by decide, by decide, by decide, rfl, rfl, ag_lk_5_314_20⟩), fun _ h => absurd h List.not_mem_nil⟩⟩⟩
theorem ag_cws_91 : ∀ q ∈ ag_ml_l.getD 91 [], ag_CW 91 q.1 q.2.1 q.2.2.1 q.2.2.2 := fun _ h => absurd h List.not_mem_nil
theorem ag_cws_92 : ∀ q ∈ ag_ml_l.getD 92 [], ag_CW 92 q.1 q.2.1 q.2.2.1 q.2.2.2 := fun _ h => absurd h List.not_mem_nil
theorem ag_cws_93 : ∀ q ∈ ag_ml_l.getD 93 [], ag_CW 93 q.1 q.2.1 q.2.2.1 q.2.2.2 := fun _ h => absurd h List.not_mem_nil
theorem ag_cws_94 : ∀ q ∈ ag_ml_l.getD 94 [], ag_CW 94 q.1 q.2.1 q.2.2.1 q.2.2.2 := fun _ h => absurd h List.not_mem_nil
theorem ag_cws_95 : ∀ q ∈ ag_ml_l.getD 95 [], ag_CW 95 q.1 q.2.1 q.2.2.1 q.2.2.2 := List.forall_mem_cons.mpr ⟨(show ag_CW 95 1 0 1 5 from ⟨rfl, ag_lk_6_1_0⟩), List.forall_mem_cons.mpr ⟨(show ag_CW 95 9 58 1 3 from ⟨by decide, by decide, by decide, rfl, rfl, by unfold ag_hx; decide, ag_lk_6_9_58⟩), fun _ h => absurd h List.not_mem_nil⟩⟩
theorem ag_cws_96 : ∀ q ∈ ag_ml_l.getD 96 [], ag_CW 96 q.1 q.2.1 q.2.2.1 q.2.2.2 := List.forall_mem_cons.mpr ⟨(show ag_CW 96 57 133 2 2 from ⟨by decide, by decide, by decide, rfl, rfl, by unfold ag_hx; decide, ag_lk_6_57_133⟩), List.forall_mem_cons.mpr ⟨(show ag_CW 96 63 132 2 2 from ⟨by decide, by decide, by decide, rfl, rfl, by unfold ag_hx; decide, ag_lk_6_63_132⟩), fun _ h => absurd h List.not_mem_nil⟩⟩
theorem ag_cws_97 : ∀ q ∈ ag_ml_l.getD 97 [], ag_CW 97 q.1 q.2.1 q.2.2.1 q.2.2.2 := List.forall_mem_cons.mpr ⟨(show ag_CW 97 67 2 5 7 from ⟨rfl, ag_lk_6_67_2⟩), fun _ h => absurd h List.not_mem_nil⟩
theorem ag_cws_98 : ∀ q ∈ ag_ml_l.getD 98 [], ag_CW 98 q.1 q.2.1 q.2.2.1 q.2.2.2 := List.forall_mem_cons.mpr ⟨(show ag_CW 98 67 2 5 7 from ⟨rfl, ag_lk_6_67_2⟩), fun _ h => absurd h List.not_mem_nil⟩
theorem ag_cws_99 : ∀ q ∈ ag_ml_l.getD 99 [], ag_CW 99 q.1 q.2.1 q.2.2.1 q.2.2.2 := fun _ h => absurd h List.not_mem_nil
theorem ag_cws_100 : ∀ q ∈ ag_ml_l.getD 100 [], ag_CW 100 q.1 q.2.1 q.2.2.1 q.2.2.2 := List.forall_mem_cons.mpr ⟨(show ag_CW 100 83 97 3 1 from ⟨by decide, by decide, by decide, rfl, rfl, rfl, ag_lk_6_83_97⟩), List.forall_mem_cons.mpr ⟨(show ag_CW 100 87 101 2 0 from ⟨by decide, by decide, by decide, rfl, rfl, ag_lk_6_87_101⟩), fun _ h => absurd h List.not_mem_nil⟩⟩
theorem ag_cws_101 : ∀ q ∈ ag_ml_l.getD 101 [], ag_CW 101 q.1 q.2.1 q.2.2.1 q.2.2.2 := List.forall_mem_cons.mpr ⟨(show ag_CW 101 83 97 3 1 from ⟨by decide, by decide, by decide, rfl, rfl, rfl, ag_lk_6_83_97⟩), List.forall_mem_cons.mpr ⟨(show ag_CW 101 87 102 2 0 from ⟨by decide, by decide, by decide, rfl, rfl, ag_lk_6_87_102⟩), fun _ h => absurd h List.not_mem_nil⟩⟩
theorem ag_cws_102 : ∀ q ∈ ag_ml_l.getD 102 [], ag_CW 102 q.1 q.2.1 q.2.2.1 q.2.2.2 := List.forall_mem_cons.mpr ⟨(show ag_CW 102 83 97 3 1 from ⟨by decide, by decide, by decide, rfl, rfl, rfl, ag_lk_6_83_97⟩), List.forall_mem_cons.mpr ⟨(show ag_CW 102 87 103 2 0 from ⟨by decide, by decide, by decide, rfl, rfl, ag_lk_6_87_103⟩), fun _ h => absurd h List.not_mem_nil⟩⟩
theorem ag_cws_103 : ∀ q ∈ ag_ml_l.getD 103 [], ag_CW 103 q.1 q.2.1 q.2.2.1 q.2.2.2 := List.forall_mem_cons.mpr ⟨(show ag_CW 103 83 97 3 1 from ⟨by decide, by decide, by decide, rfl, rfl, rfl, ag_lk_6_83_97⟩), List.forall_mem_cons.mpr ⟨(show ag_CW 103 87 104 2 0 from ⟨by decide, by decide, by decide, rfl, rfl, ag_lk_6_87_104⟩), fun _ h => absurd h List.not_mem_nil⟩⟩
theorem ag_cws_104 : ∀ q ∈ ag_ml_l.getD 104 [], ag_CW 104 q.1 q.2.1 q.2.2.1 q.2.2.2 := List.forall_mem_cons.mpr ⟨(show ag_CW 104 83 97 3 1 from ⟨by decide, by decide, by decide, rfl, rfl, rfl, ag_lk_6_83_97⟩), fun _ h => absurd h List.not_mem_nil⟩
theorem ag_cws_105 : ∀ q ∈ ag_ml_l.getD 105 [], ag_CW 105 q.1 q.2.1 q.2.2.1 q.2.2.2 := List.forall_mem_cons.mpr ⟨(show ag_CW 105 87 100 2 0 from ⟨by decide, by decide, by decide, rfl, rfl, ag_lk_6_87_100⟩), fun _ h => absurd h List.not_mem_nil⟩
theorem ag_cws_106 : ∀ q ∈ ag_ml_l.getD 106 [], ag_CW 106 q.1 q.2.1 q.2.2.1 q.2.2.2 := fun _ h => absurd h List.not_mem_nil
theorem ag_cws_107 : ∀ q ∈ ag_ml_l.getD 107 [], ag_CW 107 q.1 q.2.1 q.2.2.1 q.2.2.2 := List.forall_mem_cons.mpr ⟨(show ag_CW 107 83 97 3 1 from ⟨by decide, by decide, by decide, rfl, rfl, rfl, ag_lk_6_83_97⟩), List.forall_mem_cons.mpr ⟨(show ag_CW 107 91 98 2 1 from ⟨by decide, by decide, by decide, rfl, rfl, rfl, ag_lk_6_91_98⟩), List.forall_mem_cons.mpr ⟨(show ag_CW 107 95 106 2 0 from ⟨by decide, by decide, by decide, rfl, rfl, ag_lk_6_95_106⟩), fun _ h => absurd h List.not_mem_nil⟩⟩⟩
theorem ag_cws_108 : ∀ q ∈ ag_ml_l.getD 108 [], ag_CW 108 q.1 q.2.1 q.2.2.1 q.2.2.2 := List.forall_mem_cons.mpr ⟨(show ag_CW 108 67 2 5 7 from ⟨rfl, ag_lk_6_67_2⟩), List.forall_mem_cons.mpr ⟨(show ag_CW 108 95 106 2 0 from ⟨by decide, by decide, by decide, rfl, rfl, ag_lk_6_95_106⟩), List.forall_mem_cons.mpr ⟨(show ag_CW 108 99 99 2 1 from ⟨by decide, by decide, by decide, rfl, rfl, rfl, ag_lk_6_99_99⟩), fun _ h => absurd h List.not_mem_nil⟩⟩⟩
theorem ag_cws_109 : ∀ q ∈ ag_ml_l.getD 109 [], ag_CW 109 q.1 q.2.1 q.2.2.1 q.2.2.2 := List.forall_mem_cons.mpr ⟨(show ag_CW 109 95 106 2 0 from ⟨by decide, by decide, by decide, rfl, rfl, ag_lk_6_95_106⟩), List.forall_mem_cons.mpr ⟨(show ag_CW 109 102 96 2 0 from ⟨by decide, by decide, by decide, rfl, rfl, ag_lk_6_102_96⟩), List.forall_mem_cons.mpr ⟨(show ag_CW 109 105 59 3 0 from ⟨by decide, by decide, by decide, rfl, rfl, ag_lk_6_105_59⟩), List.forall_mem_cons.mpr ⟨(show ag_CW 109 108 107 5 0 from ⟨by decide, by decide, by decide, rfl, rfl, ag_lk_6_108_107⟩), fun _ h => absurd h List.not_mem_nil⟩⟩⟩⟩
theorem ag_cws_110 : ∀ q ∈ ag_ml_l.getD 110 [], ag_CW 110 q.1 q.2.1 q.2.2.1 q.2.2.2 := fun _ h => absurd h List.not_mem_nil
theorem ag_cws_111 : ∀ q ∈ ag_ml_l.getD 111 [], ag_CW 111 q.1 q.2.1 q.2.2.1 q.2.2.2 := List.forall_mem_cons.mpr ⟨(show ag_CW 111 87 100 2 0 from ⟨by decide, by decide, by decide, rfl, rfl, ag_lk_6_87_100⟩), List.forall_mem_cons.mpr ⟨(show ag_CW 111 114 110 3 0 from ⟨by decide, by decide, by decide, rfl, rfl, ag_lk_6_114_110⟩), List.forall_mem_cons.mpr ⟨(show ag_CW 111 118 1 2 6 from ⟨rfl, rfl, ag_lk_6_118_1⟩), fun _ h => absurd h List.not_mem_nil⟩⟩⟩
theorem ag_cws_112 : ∀ q ∈ ag_ml_l.getD 112 [], ag_CW 112 q.1 q.2.1 q.2.2.1 q.2.2.2 := List.forall_mem_cons.mpr ⟨(show ag_CW 112 91 98 2 1 from ⟨by decide, by decide, by decide, rfl, rfl, rfl, ag_lk_6_91_98⟩), List.forall_mem_cons.mpr ⟨(show ag_CW 112 102 96 2 0 from ⟨by decide, by decide, by decide, rfl, rfl, ag_lk_6_102_96⟩), List.forall_mem_cons.mpr ⟨(show ag_CW 112 123 111 4 0 from ⟨by decide, by decide, by decide, rfl, rfl, ag_lk_6_123_111⟩), List.forall_mem_cons.mpr ⟨(show ag_CW 112 127 62 4 0 from ⟨by decide, by decide, by decide, rfl, rfl, ag_lk_6_127_62⟩), fun _ h => absurd h List.not_mem_nil⟩⟩⟩⟩
theorem ag_cws_113 : ∀ q ∈ ag_ml_l.getD 113 [], ag_CW 113 q.1 q.2.1 q.2.2.1 q.2.2.2 := List.forall_mem_cons.mpr ⟨(show ag_CW 113 91 98 2 1 from ⟨by decide, by decide, by decide, rfl, rfl, rfl, ag_lk_6_91_98⟩), List.forall_mem_cons.mpr ⟨(show ag_CW 113 102 96 2 0 from ⟨by decide, by decide, by decide, rfl, rfl, ag_lk_6_102_96⟩), List.forall_mem_cons.mpr ⟨(show ag_CW 113 131 63 3 0 from ⟨by decide, by decide, by decide, rfl, rfl, ag_lk_6_131_63⟩), fun _ h => absurd h List.not_mem_nil⟩⟩⟩
theorem ag_cws_114 : ∀ q ∈ ag_ml_l.getD 114 [], ag_CW 114 q.1 q.2.1 q.2.2.1 q.2.2.2 := List.forall_mem_cons.mpr ⟨(show ag_CW 114 134 115 4 0 from ⟨by decide, by decide, by decide, rfl, rfl, ag_lk_6_134_115⟩), fun _ h => absurd h List.not_mem_nil⟩
theorem ag_cws_115 : ∀ q ∈ ag_ml_l.getD 115 [], ag_CW 115 q.1 q.2.1 q.2.2.1 q.2.2.2 := fun _ h => absurd h List.not_mem_nil
theorem ag_cws_116 : ∀ q ∈ ag_ml_l.getD 116 [], ag_CW 116 q.1 q.2.1 q.2.2.1 q.2.2.2 := List.forall_mem_cons.mpr ⟨(show ag_CW 116 102 96 2 0 from ⟨by decide, by decide, by decide, rfl, rfl, ag_lk_6_102_96⟩), List.forall_mem_cons.mpr ⟨(show ag_CW 116 134 114 4 0 from ⟨by decide, by decide, by decide, rfl, rfl, ag_lk_6_134_114⟩), List.forall_mem_cons.mpr ⟨(show ag_CW 116 137 64 2 0 from ⟨by decide, by decide, by decide, rfl, rfl, ag_lk_6_137_64⟩), fun _ h => absurd h List.not_mem_nil⟩⟩⟩
theorem ag_cws_117 : ∀ q ∈ ag_ml_l.getD 117 [], ag_CW 117 q.1 q.2.1 q.2.2.1 q.2.2.2 := List.forall_mem_cons.mpr ⟨(show ag_CW 117 140 105 1 0 from ⟨by decide, by decide, by decide, rfl, rfl, ag_lk_6_140_105⟩), fun _ h => absurd h List.not_mem_nil⟩
theorem ag_cws_118 : ∀ q ∈ ag_ml_l.getD 118 [], ag_CW 118 q.1 q.2.1 q.2.2.1 q.2.2.2 := List.forall_mem_cons.mpr ⟨(show ag_CW 118 83 97 3 1 from ⟨by decide, by decide, by decide, rfl, rfl, rfl, ag_lk_6_83_97⟩), List.forall_mem_cons.mpr ⟨(show ag_CW 118 87 100 2 0 from ⟨by decide, by decide, by decide, rfl, rfl, ag_lk_6_87_100⟩), List.forall_mem_cons.mpr ⟨(show ag_CW 118 95 106 2 0 from ⟨by decide, by decide, by decide, rfl, rfl, ag_lk_6_95_106⟩), List.forall_mem_cons.mpr ⟨(show ag_CW 118 99 99 2 1 from ⟨by decide, by decide, by decide, rfl, rfl, rfl, ag_lk_6_99_99⟩), List.forall_mem_cons.mpr ⟨(show ag_CW 118 108 107 5 0 from ⟨by decide, by decide, by decide, rfl, rfl, ag_lk_6_108_107⟩), List.forall_mem_cons.mpr ⟨(show ag_CW 118 144 108 2 0 from ⟨by decide, by decide, by decide, rfl, rfl, ag_lk_6_144_108⟩), fun _ h => absurd h List.not_mem_nil⟩⟩⟩⟩⟩⟩
theorem ag_cws_119 : ∀ q ∈ ag_ml_l.getD 119 [], ag_CW 119 q.1 q.2.1 q.2.2.1 q.2.2.2 := List.forall_mem_cons.mpr ⟨(show ag_CW 119 134 114 4 0 from ⟨by decide, by decide, by decide, rfl, rfl, ag_lk_6_134_114⟩), List.forall_mem_cons.mpr ⟨(show ag_CW 119 148 118 2 0 from ⟨by decide, by decide, by decide, rfl, rfl, ag_lk_6_148_118⟩), fun _ h => absurd h List.not_mem_nil⟩⟩
theorem ag_cws_120 : ∀ q ∈ ag_ml_l.getD 120 [], ag_CW 120 q.1 q.2.1 q.2.2.1 q.2.2.2 := fun _ h => absurd h List.not_mem_nil
theorem ag_cws_121 : ∀ q ∈ ag_ml_l.getD 121 [], ag_CW 121 q.1 q.2.1 q.2.2.1 q.2.2.2 := List.forall_mem_cons.mpr ⟨(show ag_CW 121 123 111 4 0 from ⟨by decide, by decide, by decide, rfl, rfl, ag_lk_6_123_111⟩), fun _ h => absurd h List.not_mem_nil⟩
theorem ag_cws_122 : ∀ q ∈ ag_ml_l.getD 122 [], ag_CW 122 q.1 q.2.1 q.2.2.1 q.2.2.2 := List.forall_mem_cons.mpr ⟨(show ag_CW 122 134 114 4 0 from ⟨by decide, by decide, by decide, rfl, rfl, ag_lk_6_134_114⟩), List.forall_mem_cons.mpr ⟨(show ag_CW 122 151 121 2 0 from ⟨by decide, by decide, by decide, rfl, rfl, ag_lk_6_151_121⟩), List.forall_mem_cons.mpr ⟨(show ag_CW 122 154 120 3 0 from ⟨by decide, by decide, by decide, rfl, rfl, ag_lk_6_154_120⟩), List.forall_mem_cons.mpr ⟨(show ag_CW 122 157 119 2 0 from ⟨by decide, by decide, by decide, rfl, rfl, ag_lk_6_157_119⟩), fun _ h => absurd h List.not_mem_nil⟩⟩⟩⟩
theorem ag_cws_123 : ∀ q ∈ ag_ml_l.getD 123 [], ag_CW 123 q.1 q.2.1 q.2.2.1 q.2.2.2 := List.forall_mem_cons.mpr ⟨(show ag_CW 123 83 97 3 1 from ⟨by decide, by decide, by decide, rfl, rfl, rfl, ag_lk_6_83_97⟩), List.forall_mem_cons.mpr ⟨(show ag_CW 123 102 96 2 0 from ⟨by decide, by decide, by decide, rfl, rfl, ag_lk_6_102_96⟩), List.forall_mem_cons.mpr ⟨(show ag_CW 123 168 68 2 0 from ⟨by decide, by decide, by decide, rfl, rfl, ag_lk_6_168_68⟩), fun _ h => absurd h List.not_mem_nil⟩⟩⟩
theorem ag_cws_124 : ∀ q ∈ ag_ml_l.getD 124 [], ag_CW 124 q.1 q.2.1 q.2.2.1 q.2.2.2 := List.forall_mem_cons.mpr ⟨(show ag_CW 124 102 96 2 0 from ⟨by decide, by decide, by decide, rfl, rfl, ag_lk_6_102_96⟩), List.forall_mem_cons.mpr ⟨(show ag_CW 124 171 69 4 0 from ⟨by decide, by decide, by decide, rfl, rfl, ag_lk_6_171_69⟩), fun _ h => absurd h List.not_mem_nil⟩⟩
theorem ag_cws_125 : ∀ q ∈ ag_ml_l.getD 125 [], ag_CW 125 q.1 q.2.1 q.2.2.1 q.2.2.2 := fun _ h => absurd h List.not_mem_nil
theorem ag_cws_126 : ∀ q ∈ ag_ml_l.getD 126 [], ag_CW 126 q.1 q.2.1 q.2.2.1 q.2.2.2 := List.forall_mem_cons.mpr ⟨(show ag_CW 126 102 96 2 0 from ⟨by decide, by decide, by decide, rfl, rfl, ag_lk_6_102_96⟩), List.forall_mem_cons.mpr ⟨(show ag_CW 126 118 1 2 6 from ⟨rfl, rfl, ag_lk_6_118_1⟩), List.forall_mem_cons.mpr ⟨(show ag_CW 126 174 125 1 0 from ⟨by decide, by decide, by decide, rfl, rfl, ag_lk_6_174_125⟩), List.forall_mem_cons.mpr ⟨(show ag_CW 126 177 71 2 0 from ⟨by decide, by decide, by decide, rfl, rfl, ag_lk_6_177_71⟩), fun _ h => absurd h List.not_mem_nil⟩⟩⟩⟩
theorem ag_cws_127 : ∀ q ∈ ag_ml_l.getD 127 [], ag_CW 127 q.1 q.2.1 q.2.2.1 q.2.2.2 := List.forall_mem_cons.mpr ⟨(show ag_CW 127 102 96 2 0 from ⟨by decide, by decide, by decide, rfl, rfl, ag_lk_6_102_96⟩), List.forall_mem_cons.mpr ⟨(show ag_CW 127 160 117 1 0 from ⟨by decide, by decide, by decide, rfl, rfl, ag_lk_6_160_117⟩), List.forall_mem_cons.mpr ⟨(show ag_CW 127 180 72 3 0 from ⟨by decide, by decide, by decide, rfl, rfl, ag_lk_6_180_72⟩), fun _ h => absurd h List.not_mem_nil⟩⟩⟩
theorem ag_cws_128 : ∀ q ∈ ag_ml_l.getD 128 [], ag_CW 128 q.1 q.2.1 q.2.2.1 q.2.2.2 := List.forall_mem_cons.mpr ⟨(show ag_CW 128 160 117 1 0 from ⟨by decide, by decide, by decide, rfl, rfl, ag_lk_6_160_117⟩), List.forall_mem_cons.mpr ⟨(show ag_CW 128 164 122 3 0 from ⟨by decide, by decide, by decide, rfl, rfl, ag_lk_6_164_122⟩), List.forall_mem_cons.mpr ⟨(show ag_CW 128 183 73 1 0 from ⟨by decide, by decide, by decide, rfl, rfl, ag_lk_6_183_73⟩), fun _ h => absurd h List.not_mem_nil⟩⟩⟩
theorem ag_cws_129 : ∀ q ∈ ag_ml_l.getD 129 [], ag_CW 129 q.1 q.2.1 q.2.2.1 q.2.2.2 := List.forall_mem_cons.mpr ⟨(show ag_CW 129 91 98 2 1 from ⟨by decide, by decide, by decide, rfl, rfl, rfl, ag_lk_6_91_98⟩), List.forall_mem_cons.mpr ⟨(show ag_CW 129 102 96 2 0 from ⟨by decide, by decide, by decide, rfl, rfl, ag_lk_6_102_96⟩), List.forall_mem_cons.mpr ⟨(show ag_CW 129 186 75 3 0 from ⟨by decide, by decide, by decide, rfl, rfl, ag_lk_6_186_75⟩), fun _ h => absurd h List.not_mem_nil⟩⟩⟩
theorem ag_cws_130 : ∀ q ∈ ag_ml_l.getD 130 [], ag_CW 130 q.1 q.2.1 q.2.2.1 q.2.2.2 := List.forall_mem_cons.mpr ⟨(show ag_CW 130 189 109 1 9 from ⟨by decide, by decide, by decide, rfl, rfl, ag_lk_6_189_109⟩), List.forall_mem_cons.mpr ⟨(show ag_CW 130 192 123 1 0 from ⟨by decide, by decide, by decide, rfl, rfl, ag_lk_6_192_123⟩), List.forall_mem_cons.mpr ⟨(show ag_CW 130 194 129 1 0 from ⟨by decide, by decide, by decide, rfl, rfl, ag_lk_6_194_129⟩), List.forall_mem_cons.mpr ⟨(show ag_CW 130 196 112 1 9 from ⟨by decide, by decide, by decide, rfl, rfl, ag_lk_6_196_112⟩), List.forall_mem_cons.mpr ⟨(show ag_CW 130 198 124 1 0 from ⟨by decide, by decide, by decide, rfl, rfl, ag_lk_6_198_124⟩), List.forall_mem_cons.mpr ⟨(show ag_CW 130 200 113 1 9 from ⟨by decide, by decide, by decide, rfl, rfl, ag_lk_6_200_113⟩), List.forall_mem_cons.mpr ⟨(show ag_CW 130 202 126 1 0 from ⟨by decide, by decide, by decide, rfl, rfl, ag_lk_6_202_126⟩), fun _ h => absurd h List.not_mem_nil⟩⟩⟩⟩⟩⟩⟩
theorem ag_cws_131 : ∀ q ∈ ag_ml_l.getD 131 [], ag_CW 131 q.1 q.2.1 q.2.2.1 q.2.2.2 := List.forall_mem_cons.mpr ⟨(show ag_CW 131 102 96 2 0 from ⟨by decide, by decide, by decide, rfl, rfl, ag_lk_6_102_96⟩), List.forall_mem_cons.mpr ⟨(show ag_CW 131 192 123 1 0 from ⟨by decide, by decide, by decide, rfl, rfl, ag_lk_6_192_123⟩), List.forall_mem_cons.mpr ⟨(show ag_CW 131 194 129 1 0 from ⟨by decide, by decide, by decide, rfl, rfl, ag_lk_6_194_129⟩), List.forall_mem_cons.mpr ⟨(show ag_CW 131 196 112 1 9 from ⟨by decide, by decide, by decide, rfl, rfl, ag_lk_6_196_112⟩), List.forall_mem_cons.mpr ⟨(show ag_CW 131 198 124 1 0 from ⟨by decide, by decide, by decide, rfl, rfl, ag_lk_6_198_124⟩), List.forall_mem_cons.mpr ⟨(show ag_CW 131 200 113 1 9 from ⟨by decide, by decide, by decide, rfl, rfl, ag_lk_6_200_113⟩), List.forall_mem_cons.mpr ⟨(show ag_CW 131 202 126 1 0 from ⟨by decide, by decide, by decide, rfl, rfl, ag_lk_6_202_126⟩), List.forall_mem_cons.mpr ⟨(show ag_CW 131 204 116 1 9 from ⟨by decide, by decide, by decide, rfl, rfl, ag_lk_6_204_116⟩), List.forall_mem_cons.mpr ⟨(show ag_CW 131 206 127 1 9 from ⟨by decide, by decide, by decide, rfl, rfl, ag_lk_6_206_127⟩), List.forall_mem_cons.mpr ⟨(show ag_CW 131 208 128 1 9 from ⟨by decide, by decide, by decide, rfl, rfl, ag_lk_6_208_128⟩), fun _ h => absurd h List.not_mem_nil⟩⟩⟩⟩⟩⟩⟩⟩⟩⟩
theorem ag_cws_132 : ∀ q ∈ ag_ml_l.getD 132 [], ag_CW 132 q.1 q.2.1 q.2.2.1 q.2.2.2 := fun _ h => absurd h List.not_mem_nil
theorem ag_cws_133 : ∀ q ∈ ag_ml_l.getD 133 [], ag_CW 133 q.1 q.2.1 q.2.2.1 q.2.2.2 := fun _ h => absurd h List.not_mem_nil
theorem ag_cws_134 : ∀ q ∈ ag_ml_l.getD 134 [], ag_CW 134 q.1 q.2.1 q.2.2.1 q.2.2.2 := fun _ h => absurd h List.not_mem_nil
theorem ag_cws_135 : ∀ q ∈ ag_ml_l.getD 135 [], ag_CW 135 q.1 q.2.1 q.2.2.1 q.2.2.2 := List.forall_mem_cons.mpr ⟨(show ag_CW 135 111 81 2 0 from ⟨by decide, by decide, by decide, rfl, rfl, ag_lk_7_111_81⟩), fun _ h => absurd h List.not_mem_nil⟩
theorem ag_cws_136 : ∀ q ∈ ag_ml_l.getD 136 [], ag_CW 136 q.1 q.2.1 q.2.2.1 q.2.2.2 := List.forall_mem_cons.mpr ⟨(show ag_CW 136 11 95 3 3 from ⟨by decide, by decide, by decide, rfl, rfl, by unfold ag_hx; decide, ag_lk_7_11_95⟩), List.forall_mem_cons.mpr ⟨(show ag_CW 136 18 130 1 0 from ⟨by decide, by decide, by decide, rfl, rfl, ag_lk_7_18_130⟩), List.forall_mem_cons.mpr ⟨(show ag_CW 136 22 131 1 0 from ⟨by decide, by decide, by decide, rfl, rfl, ag_lk_7_22_131⟩), List.forall_mem_cons.mpr ⟨(show ag_CW 136 29 126 1 0 from ⟨by decide, by decide, by decide, rfl, rfl, ag_lk_7_29_126⟩), List.forall_mem_cons.mpr ⟨(show ag_CW 136 32 82 1 0 from ⟨by decide, by decide, by decide, rfl, rfl, ag_lk_7_32_82⟩), List.forall_mem_cons.mpr ⟨(show ag_CW 136 38 66 1 0 from ⟨by decide, by decide, by decide, rfl, rfl, ag_lk_7_38_66⟩), List.forall_mem_cons.mpr ⟨(show ag_CW 136 42 61 2 0 from ⟨by decide, by decide, by decide, rfl, rfl, ag_lk_7_42_61⟩), List.forall_mem_cons.mpr ⟨(show ag_CW 136 46 65 3 0 from ⟨by decide, by decide, by decide, rfl, rfl, ag_lk_7_46_65⟩), List.forall_mem_cons.mpr ⟨(show ag_CW 136 50 60 3 0 from ⟨by decide, by decide, by decide, rfl, rfl, ag_lk_7_50_60⟩), List.forall_mem_cons.mpr ⟨(show ag_CW 136 53 134 3 1 from ⟨by decide, by decide, by decide, rfl, rfl, rfl, ag_lk_7_53_134⟩), List.forall_mem_cons.mpr ⟨(show ag_CW 136 59 67 2 0 from ⟨by decide, by decide, by decide, rfl, rfl, ag_lk_7_59_67⟩), List.forall_mem_cons.mpr ⟨(show ag_CW 136 63 78 2 0 from ⟨by decide, by decide, by decide, rfl, rfl, ag_lk_7_63_78⟩), List.forall_mem_cons.mpr ⟨(show ag_CW 136 66 76 1 0 from ⟨by decide, by decide, by decide, rfl, rfl, ag_lk_7_66_76⟩), List.forall_mem_cons.mpr ⟨(show ag_CW 136 70 1 1 10 from ⟨rfl, rfl, ag_lk_7_70_1⟩), List.forall_mem_cons.mpr ⟨(show ag_CW 136 82 74 3 0 from ⟨by decide, by decide, by decide, rfl, rfl, ag_lk_7_82_74⟩), List.forall_mem_cons.mpr ⟨(show ag_CW 136 85 80 2 0 from ⟨by decide, by decide, by decide, rfl, rfl, ag_lk_7_85_80⟩), List.forall_mem_cons.mpr ⟨(show ag_CW 136 88 125 1 0 from ⟨by decide, by decide, by decide, rfl, rfl, ag_lk_7_88_125⟩), List.forall_mem_cons.mpr ⟨(show ag_CW 136 91 135 2 8 from ⟨by decide, by decide, by decide, rfl, rfl, ag_lk_7_91_135⟩), List.forall_mem_cons.mpr ⟨(show ag_CW 136 95 79 1 0 from ⟨by decide, by decide, by decide, rfl, rfl, ag_lk_7_95_79⟩), List.forall_mem_cons.mpr ⟨(show ag_CW 136 98 69 4 0 from ⟨by decide, by decide, by decide, rfl, rfl, ag_lk_7_98_69⟩), List.forall_mem_cons.mpr ⟨(show ag_CW 136 102 77 2 0 from ⟨by decide, by decide, by decide, rfl, rfl, ag_lk_7_102_77⟩), List.forall_mem_cons.mpr ⟨(show ag_CW 136 105 70 2 0 from ⟨by decide, by decide, by decide, rfl, rfl, ag_lk_7_105_70⟩), List.forall_mem_cons.mpr ⟨(show ag_CW 136 108 128 1 9 from ⟨by decide, by decide, by decide, rfl, rfl, ag_lk_7_108_128⟩), fun _ h => absurd h List.not_mem_nil⟩⟩⟩⟩⟩⟩⟩⟩⟩⟩⟩⟩⟩⟩⟩⟩⟩⟩⟩⟩⟩⟩⟩
theorem ag_cw_go_g0 (k : Nat) (h : k < 20) : ∀ q ∈ ag_ml_l.getD (0 + k) [], ag_CW (0 + k) q.1 q.2.1 q.2.2.1 q.2.2.2 := by
  match k, h with
  | 0, _ => exact (fun q h => absurd h List.not_mem_nil)
  | 1, _ => exact (fun q h => absurd h List.not_mem_nil)
  | 2, _ => exact (fun q h => absurd h List.not_mem_nil)
  | 3, _ => exact ag_cws_3
  | 4, _ => exact ag_cws_4
  | 5, _ => exact ag_cws_5
  | 6, _ => exact ag_cws_6
  | 7, _ => exact ag_cws_7
  | 8, _ => exact ag_cws_8
  | 9, _ => exact ag_cws_9
  | 10, _ => exact ag_cws_10
  | 11, _ => exact ag_cws_11
  | 12, _ => exact ag_cws_12
  | 13, _ => exact ag_cws_13
  | 14, _ => exact ag_cws_14
  | 15, _ => exact ag_cws_15
  | 16, _ => exact ag_cws_16
  | 17, _ => exact ag_cws_17
  | 18, _ => exact ag_cws_18
  | 19, _ => exact ag_cws_19
  | n + 20, h => exact absurd h (by omega)
theorem ag_cw_go_g20 (k : Nat) (h : k < 20) : ∀ q ∈ ag_ml_l.getD (20 + k) [], ag_CW (20 + k) q.1 q.2.1 q.2.2.1 q.2.2.2 := by
  match k, h with
  | 0, _ => exact ag_cws_20
  | 1, _ => exact ag_cws_21
  | 2, _ => exact ag_cws_22
  | 3, _ => exact ag_cws_23
  | 4, _ => exact ag_cws_24
  | 5, _ => exact ag_cws_25
  | 6, _ => exact ag_cws_26
  | 7, _ => exact ag_cws_27
  | 8, _ => exact ag_cws_28
  | 9, _ => exact ag_cws_29
  | 10, _ => exact ag_cws_30
  | 11, _ => exact ag_cws_31
  | 12, _ => exact ag_cws_32
  | 13, _ => exact ag_cws_33
  | 14, _ => exact ag_cws_34
  | 15, _ => exact ag_cws_35
  | 16, _ => exact ag_cws_36
  | 17, _ => exact ag_cws_37
  | 18, _ => exact ag_cws_38
  | 19, _ => exact ag_cws_39
  | n + 20, h => exact absurd h (by omega)
theorem ag_cw_go_g40 (k : Nat) (h : k < 20) : ∀ q ∈ ag_ml_l.getD (40 + k) [], ag_CW (40 + k) q.1 q.2.1 q.2.2.1 q.2.2.2 := by
  match k, h with
  | 0, _ => exact ag_cws_40
  | 1, _ => exact ag_cws_41
  | 2, _ => exact ag_cws_42
  | 3, _ => exact ag_cws_43
  | 4, _ => exact ag_cws_44
  | 5, _ => exact ag_cws_45
  | 6, _ => exact ag_cws_46
  | 7, _ => exact ag_cws_47
  | 8, _ => exact ag_cws_48
  | 9, _ => exact ag_cws_49
  | 10, _ => exact ag_cws_50
  | 11, _ => exact ag_cws_51
  | 12, _ => exact ag_cws_52
  | 13, _ => exact ag_cws_53
  | 14, _ => exact ag_cws_54
  | 15, _ => exact ag_cws_55
  | 16, _ => exact ag_cws_56
  | 17, _ => exact ag_cws_57
  | 18, _ => exact ag_cws_58
  | 19, _ => exact ag_cws_59
  | n + 20, h => exact absurd h (by omega)
theorem ag_cw_go_g60 (k : Nat) (h : k < 20) : ∀ q ∈ ag_ml_l.getD (60 + k) [], ag_CW (60 + k) q.1 q.2.1 q.2.2.1 q.2.2.2 := by
  match k, h with
  | 0, _ => exact ag_cws_60
  | 1, _ => exact ag_cws_61
  | 2, _ => exact ag_cws_62
  | 3, _ => exact ag_cws_63
  | 4, _ => exact ag_cws_64
  | 5, _ => exact ag_cws_65
  | 6, _ => exact ag_cws_66
  | 7, _ => exact ag_cws_67
  | 8, _ => exact ag_cws_68
  | 9, _ => exact ag_cws_69
  | 10, _ => exact ag_cws_70
  | 11, _ => exact ag_cws_71
  | 12, _ => exact ag_cws_72
  | 13, _ => exact ag_cws_73
  | 14, _ => exact ag_cws_74
  | 15, _ => exact ag_cws_75
  | 16, _ => exact ag_cws_76
  | 17, _ => exact ag_cws_77
  | 18, _ => exact ag_cws_78
  | 19, _ => exact ag_cws_79
  | n + 20, h => exact absurd h (by omega)
theorem ag_cw_go_g80 (k : Nat) (h : k < 20) : ∀ q ∈ ag_ml_l.getD (80 + k) [], ag_CW (80 + k) q.1 q.2.1 q.2.2.1 q.2.2.2 := by
  match k, h with
  | 0, _ => exact ag_cws_80
  | 1, _ => exact ag_cws_81
  | 2, _ => exact ag_cws_82
  | 3, _ => exact ag_cws_83
  | 4, _ => exact ag_cws_84
  | 5, _ => exact ag_cws_85
  | 6, _ => exact ag_cws_86
  | 7, _ => exact ag_cws_87
  | 8, _ => exact ag_cws_88
  | 9, _ => exact ag_cws_89
  | 10, _ => exact ag_cws_90
  | 11, _ => exact ag_cws_91
  | 12, _ => exact ag_cws_92
  | 13, _ => exact ag_cws_93
  | 14, _ => exact ag_cws_94
  | 15, _ => exact ag_cws_95
  | 16, _ => exact ag_cws_96
  | 17, _ => exact ag_cws_97
  | 18, _ => exact ag_cws_98
  | 19, _ => exact ag_cws_99
  | n + 20, h => exact absurd h (by omega)
theorem ag_cw_go_g100 (k : Nat) (h : k < 20) : ∀ q ∈ ag_ml_l.getD (100 + k) [], ag_CW (100 + k) q.1 q.2.1 q.2.2.1 q.2.2.2 := by
  match k, h with
  | 0, _ => exact ag_cws_100
  | 1, _ => exact ag_cws_101
  | 2, _ => exact ag_cws_102
  | 3, _ => exact ag_cws_103
  | 4, _ => exact ag_cws_104
  | 5, _ => exact ag_cws_105
  | 6, _ => exact ag_cws_106
  | 7, _ => exact ag_cws_107
  | 8, _ => exact ag_cws_108
  | 9, _ => exact ag_cws_109
  | 10, _ => exact ag_cws_110
  | 11, _ => exact ag_cws_111
  | 12, _ => exact ag_cws_112
  | 13, _ => exact ag_cws_113
  | 14, _ => exact ag_cws_114
  | 15, _ => exact ag_cws_115
  | 16, _ => exact ag_cws_116
  | 17, _ => exact ag_cws_117
  | 18, _ => exact ag_cws_118
  | 19, _ => exact ag_cws_119
  | n + 20, h => exact absurd h (by omega)
theorem ag_cw_go_g120 (k : Nat) (h : k < 17) : ∀ q ∈ ag_ml_l.getD (120 + k) [], ag_CW (120 + k) q.1 q.2.1 q.2.2.1 q.2.2.2 := by
  match k, h with
  | 0, _ => exact ag_cws_120
  | 1, _ => exact ag_cws_121
  | 2, _ => exact ag_cws_122
  | 3, _ => exact ag_cws_123
  | 4, _ => exact ag_cws_124
  | 5, _ => exact ag_cws_125
  | 6, _ => exact ag_cws_126
  | 7, _ => exact ag_cws_127
  | 8, _ => exact ag_cws_128
  | 9, _ => exact ag_cws_129
  | 10, _ => exact ag_cws_130
  | 11, _ => exact ag_cws_131
  | 12, _ => exact ag_cws_132
  | 13, _ => exact ag_cws_133
  | 14, _ => exact ag_cws_134
  | 15, _ => exact ag_cws_135
  | 16, _ => exact ag_cws_136
  | n + 17, h => exact absurd h (by omega)
theorem ag_cw_go (y : Nat) : ∀ q ∈ ag_ml_l.getD y [], ag_CW y q.1 q.2.1 q.2.2.1 q.2.2.2 := by
  rcases Nat.lt_or_ge y 20 with h20 | h20
  · have hy : y = 0 + (y - 0) := by omega
    rw [hy]
    exact ag_cw_go_g0 (y - 0) (by omega)
  rcases Nat.lt_or_ge y 40 with h40 | h40
  · have hy : y = 20 + (y - 20) := by omega
    rw [hy]
    exact ag_cw_go_g20 (y - 20) (by omega)
  rcases Nat.lt_or_ge y 60 with h60 | h60
  · have hy : y = 40 + (y - 40) := by omega
    rw [hy]
    exact ag_cw_go_g40 (y - 40) (by omega)
  rcases Nat.lt_or_ge y 80 with h80 | h80
  · have hy : y = 60 + (y - 60) := by omega
    rw [hy]
    exact ag_cw_go_g60 (y - 60) (by omega)
  rcases Nat.lt_or_ge y 100 with h100 | h100
  · have hy : y = 80 + (y - 80) := by omega
    rw [hy]
    exact ag_cw_go_g80 (y - 80) (by omega)
  rcases Nat.lt_or_ge y 120 with h120 | h120
  · have hy : y = 100 + (y - 100) := by omega
    rw [hy]
    exact ag_cw_go_g100 (y - 100) (by omega)
  rcases Nat.lt_or_ge y 137 with h137 | h137
  · have hy : y = 120 + (y - 120) := by omega
    rw [hy]
    exact ag_cw_go_g120 (y - 120) (by omega)
  exact (fun q h => by rw [List.getD_eq_getElem?_getD, List.getElem?_eq_none (by show 137 ≤ y; omega)] at h; exact absurd h List.not_mem_nil)
theorem ag_cwf {y idx y' n kd : Nat} (h : ag_ml y idx = some (y', (n, kd))) : ag_CW y idx y' n kd := by
  unfold ag_ml at h
  cases hf : (ag_ml_l.getD y []).find? (fun q => q.1 == idx) with
  | none => rw [hf] at h; cases h
  | some q =>
    rw [hf] at h
    have hm := List.mem_of_find?_eq_some hf
    have he := List.find?_some hf
    simp only [beq_iff_eq] at he
    have hq : q.2 = (y', (n, kd)) := Option.some.inj h
    have key := ag_cw_go y q hm
    rw [he, hq] at key
    exact key
