/-! THE SMALL MACHINE'S STEPS ARE THE MACHINE'S, 4: cells. -/
/-- the nest host of class o -/
def ag_host (o : Nat) : String := if o < 6 then RX5 else RL
def ag_on (o : Nat) : String := [RX0, RX1, RX2, RX3, RX4, RX5, RX6, RL].getD o RL
/-- an entry of a pool that is a field -/
def ag_FW (o idx ci k : Nat) : Prop := ∃ r : vw_C, ag_cl[ci]? = some r ∧ k < r.2.2 ∧ ((Cond.fieldLink (ag_on o) idx (r.2.1 k).1 (r.2.1 k).2.1 (r.2.1 k).2.2.1 ∈ lw_tbl ∧ goodWord (Cond.fieldLink (ag_on o) idx (r.2.1 k).1 (r.2.1 k).2.1 (r.2.1 k).2.2.1) = true) ∨ o ≠ ci ∧ Cond.fieldLinkNest (ag_on o) idx (r.2.1 k).1 (r.2.1 k).2.1 (r.2.1 k).2.2.1 (ag_host o) ∈ lw_tbl)
theorem ag_fw_0_9 : ag_FW 0 9 0 0 := ⟨_, rfl, by decide, Or.inl ⟨List.mem_of_getElem? (i := 503) (by decide +kernel), rfl⟩⟩
theorem ag_fw_0_15 : ag_FW 0 15 0 1 := ⟨_, rfl, by decide, Or.inl ⟨List.mem_of_getElem? (i := 506) (by decide +kernel), rfl⟩⟩
theorem ag_fw_0_18 : ag_FW 0 18 0 2 := ⟨_, rfl, by decide, Or.inl ⟨List.mem_of_getElem? (i := 510) (by decide +kernel), rfl⟩⟩
theorem ag_fw_0_21 : ag_FW 0 21 0 3 := ⟨_, rfl, by decide, Or.inl ⟨List.mem_of_getElem? (i := 513) (by decide +kernel), rfl⟩⟩
theorem ag_fw_0_24 : ag_FW 0 24 0 4 := ⟨_, rfl, by decide, Or.inl ⟨List.mem_of_getElem? (i := 516) (by decide +kernel), rfl⟩⟩
theorem ag_fw_0_27 : ag_FW 0 27 0 5 := ⟨_, rfl, by decide, Or.inl ⟨List.mem_of_getElem? (i := 518) (by decide +kernel), rfl⟩⟩
theorem ag_fw_0_30 : ag_FW 0 30 0 6 := ⟨_, rfl, by decide, Or.inl ⟨List.mem_of_getElem? (i := 521) (by decide +kernel), rfl⟩⟩
theorem ag_fw_0_33 : ag_FW 0 33 0 7 := ⟨_, rfl, by decide, Or.inl ⟨List.mem_of_getElem? (i := 523) (by decide +kernel), rfl⟩⟩
theorem ag_fw_0_40 : ag_FW 0 40 0 8 := ⟨_, rfl, by decide, Or.inl ⟨List.mem_of_getElem? (i := 524) (by decide +kernel), rfl⟩⟩
theorem ag_fw_0_44 : ag_FW 0 44 0 9 := ⟨_, rfl, by decide, Or.inl ⟨List.mem_of_getElem? (i := 526) (by decide +kernel), rfl⟩⟩
theorem ag_fws_0 : ∀ q ∈ ag_fl_l.getD 0 [], ag_FW 0 q.1 q.2.1 q.2.2 := List.forall_mem_cons.mpr ⟨ag_fw_0_9, List.forall_mem_cons.mpr ⟨ag_fw_0_15, List.forall_mem_cons.mpr ⟨ag_fw_0_18, List.forall_mem_cons.mpr ⟨ag_fw_0_21, List.forall_mem_cons.mpr ⟨ag_fw_0_24, List.forall_mem_cons.mpr ⟨ag_fw_0_27, List.forall_mem_cons.mpr ⟨ag_fw_0_30, List.forall_mem_cons.mpr ⟨ag_fw_0_33, List.forall_mem_cons.mpr ⟨ag_fw_0_40, List.forall_mem_cons.mpr ⟨ag_fw_0_44, fun _ h => absurd h List.not_mem_nil⟩⟩⟩⟩⟩⟩⟩⟩⟩⟩
theorem ag_fw_1_12 : ag_FW 1 12 1 0 := ⟨_, rfl, by decide, Or.inl ⟨List.mem_of_getElem? (i := 585) (by decide +kernel), rfl⟩⟩
theorem ag_fw_1_21 : ag_FW 1 21 1 1 := ⟨_, rfl, by decide, Or.inl ⟨List.mem_of_getElem? (i := 587) (by decide +kernel), rfl⟩⟩
theorem ag_fw_1_25 : ag_FW 1 25 1 2 := ⟨_, rfl, by decide, Or.inl ⟨List.mem_of_getElem? (i := 589) (by decide +kernel), rfl⟩⟩
theorem ag_fw_1_36 : ag_FW 1 36 0 5 := ⟨_, rfl, by decide, Or.inr ⟨by decide, List.mem_of_getElem? (i := 519) (by decide +kernel)⟩⟩
theorem ag_fw_1_48 : ag_FW 1 48 0 2 := ⟨_, rfl, by decide, Or.inr ⟨by decide, List.mem_of_getElem? (i := 511) (by decide +kernel)⟩⟩
theorem ag_fw_1_66 : ag_FW 1 66 3 0 := ⟨_, rfl, by decide, Or.inr ⟨by decide, List.mem_of_getElem? (i := 556) (by decide +kernel)⟩⟩
theorem ag_fw_1_69 : ag_FW 1 69 3 1 := ⟨_, rfl, by decide, Or.inr ⟨by decide, List.mem_of_getElem? (i := 558) (by decide +kernel)⟩⟩
theorem ag_fw_1_72 : ag_FW 1 72 3 2 := ⟨_, rfl, by decide, Or.inr ⟨by decide, List.mem_of_getElem? (i := 560) (by decide +kernel)⟩⟩
theorem ag_fw_1_79 : ag_FW 1 79 3 6 := ⟨_, rfl, by decide, Or.inr ⟨by decide, List.mem_of_getElem? (i := 569) (by decide +kernel)⟩⟩
theorem ag_fw_1_83 : ag_FW 1 83 3 3 := ⟨_, rfl, by decide, Or.inr ⟨by decide, List.mem_of_getElem? (i := 562) (by decide +kernel)⟩⟩
theorem ag_fw_1_126 : ag_FW 1 126 0 0 := ⟨_, rfl, by decide, Or.inr ⟨by decide, List.mem_of_getElem? (i := 504) (by decide +kernel)⟩⟩
theorem ag_fw_1_136 : ag_FW 1 136 0 1 := ⟨_, rfl, by decide, Or.inr ⟨by decide, List.mem_of_getElem? (i := 508) (by decide +kernel)⟩⟩
theorem ag_fw_1_143 : ag_FW 1 143 0 4 := ⟨_, rfl, by decide, Or.inr ⟨by decide, List.mem_of_getElem? (i := 517) (by decide +kernel)⟩⟩
theorem ag_fw_1_146 : ag_FW 1 146 0 3 := ⟨_, rfl, by decide, Or.inr ⟨by decide, List.mem_of_getElem? (i := 514) (by decide +kernel)⟩⟩
theorem ag_fw_1_149 : ag_FW 1 149 3 5 := ⟨_, rfl, by decide, Or.inr ⟨by decide, List.mem_of_getElem? (i := 566) (by decide +kernel)⟩⟩
theorem ag_fws_1 : ∀ q ∈ ag_fl_l.getD 1 [], ag_FW 1 q.1 q.2.1 q.2.2 := List.forall_mem_cons.mpr ⟨ag_fw_1_12, List.forall_mem_cons.mpr ⟨ag_fw_1_21, List.forall_mem_cons.mpr ⟨ag_fw_1_25, List.forall_mem_cons.mpr ⟨ag_fw_1_36, List.forall_mem_cons.mpr ⟨ag_fw_1_48, List.forall_mem_cons.mpr ⟨ag_fw_1_66, List.forall_mem_cons.mpr ⟨ag_fw_1_69, List.forall_mem_cons.mpr ⟨ag_fw_1_72, List.forall_mem_cons.mpr ⟨ag_fw_1_79, List.forall_mem_cons.mpr ⟨ag_fw_1_83, List.forall_mem_cons.mpr ⟨ag_fw_1_126, List.forall_mem_cons.mpr ⟨ag_fw_1_136, List.forall_mem_cons.mpr ⟨ag_fw_1_143, List.forall_mem_cons.mpr ⟨ag_fw_1_146, List.forall_mem_cons.mpr ⟨ag_fw_1_149, fun _ h => absurd h List.not_mem_nil⟩⟩⟩⟩⟩⟩⟩⟩⟩⟩⟩⟩⟩⟩⟩
theorem ag_fw_2_9 : ag_FW 2 9 2 0 := ⟨_, rfl, by decide, Or.inl ⟨List.mem_of_getElem? (i := 446) (by decide +kernel), rfl⟩⟩
theorem ag_fw_2_15 : ag_FW 2 15 2 1 := ⟨_, rfl, by decide, Or.inl ⟨List.mem_of_getElem? (i := 448) (by decide +kernel), rfl⟩⟩
theorem ag_fw_2_18 : ag_FW 2 18 2 2 := ⟨_, rfl, by decide, Or.inl ⟨List.mem_of_getElem? (i := 450) (by decide +kernel), rfl⟩⟩
theorem ag_fw_2_21 : ag_FW 2 21 2 3 := ⟨_, rfl, by decide, Or.inl ⟨List.mem_of_getElem? (i := 452) (by decide +kernel), rfl⟩⟩
theorem ag_fw_2_24 : ag_FW 2 24 2 6 := ⟨_, rfl, by decide, Or.inl ⟨List.mem_of_getElem? (i := 457) (by decide +kernel), rfl⟩⟩
theorem ag_fw_2_28 : ag_FW 2 28 2 4 := ⟨_, rfl, by decide, Or.inl ⟨List.mem_of_getElem? (i := 453) (by decide +kernel), rfl⟩⟩
theorem ag_fw_2_43 : ag_FW 2 43 2 5 := ⟨_, rfl, by decide, Or.inl ⟨List.mem_of_getElem? (i := 455) (by decide +kernel), rfl⟩⟩
theorem ag_fws_2 : ∀ q ∈ ag_fl_l.getD 2 [], ag_FW 2 q.1 q.2.1 q.2.2 := List.forall_mem_cons.mpr ⟨ag_fw_2_9, List.forall_mem_cons.mpr ⟨ag_fw_2_15, List.forall_mem_cons.mpr ⟨ag_fw_2_18, List.forall_mem_cons.mpr ⟨ag_fw_2_21, List.forall_mem_cons.mpr ⟨ag_fw_2_24, List.forall_mem_cons.mpr ⟨ag_fw_2_28, List.forall_mem_cons.mpr ⟨ag_fw_2_43, fun _ h => absurd h List.not_mem_nil⟩⟩⟩⟩⟩⟩⟩
theorem ag_fw_3_9 : ag_FW 3 9 3 0 := ⟨_, rfl, by decide, Or.inl ⟨List.mem_of_getElem? (i := 555) (by decide +kernel), rfl⟩⟩
theorem ag_fw_3_15 : ag_FW 3 15 3 1 := ⟨_, rfl, by decide, Or.inl ⟨List.mem_of_getElem? (i := 557) (by decide +kernel), rfl⟩⟩
theorem ag_fw_3_18 : ag_FW 3 18 3 2 := ⟨_, rfl, by decide, Or.inl ⟨List.mem_of_getElem? (i := 559) (by decide +kernel), rfl⟩⟩
theorem ag_fw_3_21 : ag_FW 3 21 3 3 := ⟨_, rfl, by decide, Or.inl ⟨List.mem_of_getElem? (i := 561) (by decide +kernel), rfl⟩⟩
theorem ag_fw_3_24 : ag_FW 3 24 3 4 := ⟨_, rfl, by decide, Or.inl ⟨List.mem_of_getElem? (i := 564) (by decide +kernel), rfl⟩⟩
theorem ag_fw_3_27 : ag_FW 3 27 3 5 := ⟨_, rfl, by decide, Or.inl ⟨List.mem_of_getElem? (i := 565) (by decide +kernel), rfl⟩⟩
theorem ag_fw_3_34 : ag_FW 3 34 3 6 := ⟨_, rfl, by decide, Or.inl ⟨List.mem_of_getElem? (i := 567) (by decide +kernel), rfl⟩⟩
theorem ag_fws_3 : ∀ q ∈ ag_fl_l.getD 3 [], ag_FW 3 q.1 q.2.1 q.2.2 := List.forall_mem_cons.mpr ⟨ag_fw_3_9, List.forall_mem_cons.mpr ⟨ag_fw_3_15, List.forall_mem_cons.mpr ⟨ag_fw_3_18, List.forall_mem_cons.mpr ⟨ag_fw_3_21, List.forall_mem_cons.mpr ⟨ag_fw_3_24, List.forall_mem_cons.mpr ⟨ag_fw_3_27, List.forall_mem_cons.mpr ⟨ag_fw_3_34, fun _ h => absurd h List.not_mem_nil⟩⟩⟩⟩⟩⟩⟩
theorem ag_fw_4_9 : ag_FW 4 9 4 0 := ⟨_, rfl, by decide, Or.inl ⟨List.mem_of_getElem? (i := 481) (by decide +kernel), rfl⟩⟩
theorem ag_fw_4_15 : ag_FW 4 15 4 1 := ⟨_, rfl, by decide, Or.inl ⟨List.mem_of_getElem? (i := 483) (by decide +kernel), rfl⟩⟩
theorem ag_fw_4_18 : ag_FW 4 18 4 2 := ⟨_, rfl, by decide, Or.inl ⟨List.mem_of_getElem? (i := 484) (by decide +kernel), rfl⟩⟩
theorem ag_fw_4_36 : ag_FW 4 36 0 1 := ⟨_, rfl, by decide, Or.inr ⟨by decide, List.mem_of_getElem? (i := 507) (by decide +kernel)⟩⟩
theorem ag_fws_4 : ∀ q ∈ ag_fl_l.getD 4 [], ag_FW 4 q.1 q.2.1 q.2.2 := List.forall_mem_cons.mpr ⟨ag_fw_4_9, List.forall_mem_cons.mpr ⟨ag_fw_4_15, List.forall_mem_cons.mpr ⟨ag_fw_4_18, List.forall_mem_cons.mpr ⟨ag_fw_4_36, fun _ h => absurd h List.not_mem_nil⟩⟩⟩⟩
theorem ag_fw_5_10 : ag_FW 5 10 5 0 := ⟨_, rfl, by decide, Or.inl ⟨List.mem_of_getElem? (i := 597) (by decide +kernel), rfl⟩⟩
theorem ag_fw_5_19 : ag_FW 5 19 5 1 := ⟨_, rfl, by decide, Or.inl ⟨List.mem_of_getElem? (i := 598) (by decide +kernel), rfl⟩⟩
theorem ag_fw_5_28 : ag_FW 5 28 5 2 := ⟨_, rfl, by decide, Or.inl ⟨List.mem_of_getElem? (i := 599) (by decide +kernel), rfl⟩⟩
theorem ag_fw_5_32 : ag_FW 5 32 5 3 := ⟨_, rfl, by decide, Or.inl ⟨List.mem_of_getElem? (i := 600) (by decide +kernel), rfl⟩⟩
theorem ag_fw_5_35 : ag_FW 5 35 5 4 := ⟨_, rfl, by decide, Or.inl ⟨List.mem_of_getElem? (i := 601) (by decide +kernel), rfl⟩⟩
theorem ag_fw_5_39 : ag_FW 5 39 1 0 := ⟨_, rfl, by decide, Or.inr ⟨by decide, List.mem_of_getElem? (i := 586) (by decide +kernel)⟩⟩
theorem ag_fw_5_72 : ag_FW 5 72 1 1 := ⟨_, rfl, by decide, Or.inr ⟨by decide, List.mem_of_getElem? (i := 588) (by decide +kernel)⟩⟩
theorem ag_fw_5_76 : ag_FW 5 76 3 6 := ⟨_, rfl, by decide, Or.inr ⟨by decide, List.mem_of_getElem? (i := 568) (by decide +kernel)⟩⟩
theorem ag_fw_5_87 : ag_FW 5 87 0 9 := ⟨_, rfl, by decide, Or.inr ⟨by decide, List.mem_of_getElem? (i := 527) (by decide +kernel)⟩⟩
theorem ag_fw_5_110 : ag_FW 5 110 0 6 := ⟨_, rfl, by decide, Or.inr ⟨by decide, List.mem_of_getElem? (i := 522) (by decide +kernel)⟩⟩
theorem ag_fw_5_168 : ag_FW 5 168 2 4 := ⟨_, rfl, by decide, Or.inr ⟨by decide, List.mem_of_getElem? (i := 454) (by decide +kernel)⟩⟩
theorem ag_fw_5_185 : ag_FW 5 185 2 5 := ⟨_, rfl, by decide, Or.inr ⟨by decide, List.mem_of_getElem? (i := 456) (by decide +kernel)⟩⟩
theorem ag_fw_5_195 : ag_FW 5 195 2 6 := ⟨_, rfl, by decide, Or.inr ⟨by decide, List.mem_of_getElem? (i := 458) (by decide +kernel)⟩⟩
theorem ag_fw_5_225 : ag_FW 5 225 3 3 := ⟨_, rfl, by decide, Or.inr ⟨by decide, List.mem_of_getElem? (i := 563) (by decide +kernel)⟩⟩
theorem ag_fw_5_235 : ag_FW 5 235 4 2 := ⟨_, rfl, by decide, Or.inr ⟨by decide, List.mem_of_getElem? (i := 485) (by decide +kernel)⟩⟩
theorem ag_fw_5_242 : ag_FW 5 242 4 0 := ⟨_, rfl, by decide, Or.inr ⟨by decide, List.mem_of_getElem? (i := 482) (by decide +kernel)⟩⟩
theorem ag_fw_5_269 : ag_FW 5 269 0 8 := ⟨_, rfl, by decide, Or.inr ⟨by decide, List.mem_of_getElem? (i := 525) (by decide +kernel)⟩⟩
theorem ag_fw_5_278 : ag_FW 5 278 0 0 := ⟨_, rfl, by decide, Or.inr ⟨by decide, List.mem_of_getElem? (i := 505) (by decide +kernel)⟩⟩
theorem ag_fw_5_281 : ag_FW 5 281 0 1 := ⟨_, rfl, by decide, Or.inr ⟨by decide, List.mem_of_getElem? (i := 509) (by decide +kernel)⟩⟩
theorem ag_fw_5_284 : ag_FW 5 284 0 5 := ⟨_, rfl, by decide, Or.inr ⟨by decide, List.mem_of_getElem? (i := 520) (by decide +kernel)⟩⟩
theorem ag_fw_5_287 : ag_FW 5 287 0 2 := ⟨_, rfl, by decide, Or.inr ⟨by decide, List.mem_of_getElem? (i := 512) (by decide +kernel)⟩⟩
theorem ag_fw_5_293 : ag_FW 5 293 0 3 := ⟨_, rfl, by decide, Or.inr ⟨by decide, List.mem_of_getElem? (i := 515) (by decide +kernel)⟩⟩
theorem ag_fw_5_299 : ag_FW 5 299 2 0 := ⟨_, rfl, by decide, Or.inr ⟨by decide, List.mem_of_getElem? (i := 447) (by decide +kernel)⟩⟩
theorem ag_fw_5_302 : ag_FW 5 302 2 1 := ⟨_, rfl, by decide, Or.inr ⟨by decide, List.mem_of_getElem? (i := 449) (by decide +kernel)⟩⟩
theorem ag_fw_5_305 : ag_FW 5 305 2 2 := ⟨_, rfl, by decide, Or.inr ⟨by decide, List.mem_of_getElem? (i := 451) (by decide +kernel)⟩⟩
theorem ag_fws_5 : ∀ q ∈ ag_fl_l.getD 5 [], ag_FW 5 q.1 q.2.1 q.2.2 := List.forall_mem_cons.mpr ⟨ag_fw_5_10, List.forall_mem_cons.mpr ⟨ag_fw_5_19, List.forall_mem_cons.mpr ⟨ag_fw_5_28, List.forall_mem_cons.mpr ⟨ag_fw_5_32, List.forall_mem_cons.mpr ⟨ag_fw_5_35, List.forall_mem_cons.mpr ⟨ag_fw_5_39, List.forall_mem_cons.mpr ⟨ag_fw_5_72, List.forall_mem_cons.mpr ⟨ag_fw_5_76, List.forall_mem_cons.mpr ⟨ag_fw_5_87, List.forall_mem_cons.mpr ⟨ag_fw_5_110, List.forall_mem_cons.mpr ⟨ag_fw_5_168, List.forall_mem_cons.mpr ⟨ag_fw_5_185, List.forall_mem_cons.mpr ⟨ag_fw_5_195, List.forall_mem_cons.mpr ⟨ag_fw_5_225, List.forall_mem_cons.mpr ⟨ag_fw_5_235, List.forall_mem_cons.mpr ⟨ag_fw_5_242, List.forall_mem_cons.mpr ⟨ag_fw_5_269, List.forall_mem_cons.mpr ⟨ag_fw_5_278, List.forall_mem_cons.mpr ⟨ag_fw_5_281, List.forall_mem_cons.mpr ⟨ag_fw_5_284, List.forall_mem_cons.mpr ⟨ag_fw_5_287, List.forall_mem_cons.mpr ⟨ag_fw_5_293, List.forall_mem_cons.mpr ⟨ag_fw_5_299, List.forall_mem_cons.mpr ⟨ag_fw_5_302, List.forall_mem_cons.mpr ⟨ag_fw_5_305, fun _ h => absurd h List.not_mem_nil⟩⟩⟩⟩⟩⟩⟩⟩⟩⟩⟩⟩⟩⟩⟩⟩⟩⟩⟩⟩⟩⟩⟩⟩⟩
theorem ag_fw_6_10 : ag_FW 6 10 6 0 := ⟨_, rfl, by decide, Or.inl ⟨List.mem_of_getElem? (i := 616) (by decide +kernel), rfl⟩⟩
theorem ag_fw_6_18 : ag_FW 6 18 6 3 := ⟨_, rfl, by decide, Or.inl ⟨List.mem_of_getElem? (i := 620) (by decide +kernel), rfl⟩⟩
theorem ag_fw_6_23 : ag_FW 6 23 6 4 := ⟨_, rfl, by decide, Or.inl ⟨List.mem_of_getElem? (i := 621) (by decide +kernel), rfl⟩⟩
theorem ag_fw_6_26 : ag_FW 6 26 6 5 := ⟨_, rfl, by decide, Or.inl ⟨List.mem_of_getElem? (i := 622) (by decide +kernel), rfl⟩⟩
theorem ag_fw_6_29 : ag_FW 6 29 6 6 := ⟨_, rfl, by decide, Or.inl ⟨List.mem_of_getElem? (i := 623) (by decide +kernel), rfl⟩⟩
theorem ag_fw_6_32 : ag_FW 6 32 6 7 := ⟨_, rfl, by decide, Or.inl ⟨List.mem_of_getElem? (i := 624) (by decide +kernel), rfl⟩⟩
theorem ag_fw_6_35 : ag_FW 6 35 6 8 := ⟨_, rfl, by decide, Or.inl ⟨List.mem_of_getElem? (i := 626) (by decide +kernel), rfl⟩⟩
theorem ag_fw_6_38 : ag_FW 6 38 6 9 := ⟨_, rfl, by decide, Or.inl ⟨List.mem_of_getElem? (i := 627) (by decide +kernel), rfl⟩⟩
theorem ag_fw_6_41 : ag_FW 6 41 6 11 := ⟨_, rfl, by decide, Or.inl ⟨List.mem_of_getElem? (i := 629) (by decide +kernel), rfl⟩⟩
theorem ag_fw_6_45 : ag_FW 6 45 6 12 := ⟨_, rfl, by decide, Or.inl ⟨List.mem_of_getElem? (i := 631) (by decide +kernel), rfl⟩⟩
theorem ag_fw_6_48 : ag_FW 6 48 6 13 := ⟨_, rfl, by decide, Or.inl ⟨List.mem_of_getElem? (i := 632) (by decide +kernel), rfl⟩⟩
theorem ag_fw_6_51 : ag_FW 6 51 6 1 := ⟨_, rfl, by decide, Or.inl ⟨List.mem_of_getElem? (i := 618) (by decide +kernel), rfl⟩⟩
theorem ag_fw_6_54 : ag_FW 6 54 6 2 := ⟨_, rfl, by decide, Or.inl ⟨List.mem_of_getElem? (i := 619) (by decide +kernel), rfl⟩⟩
theorem ag_fw_6_80 : ag_FW 6 80 6 10 := ⟨_, rfl, by decide, Or.inl ⟨List.mem_of_getElem? (i := 628) (by decide +kernel), rfl⟩⟩
theorem ag_fws_6 : ∀ q ∈ ag_fl_l.getD 6 [], ag_FW 6 q.1 q.2.1 q.2.2 := List.forall_mem_cons.mpr ⟨ag_fw_6_10, List.forall_mem_cons.mpr ⟨ag_fw_6_18, List.forall_mem_cons.mpr ⟨ag_fw_6_23, List.forall_mem_cons.mpr ⟨ag_fw_6_26, List.forall_mem_cons.mpr ⟨ag_fw_6_29, List.forall_mem_cons.mpr ⟨ag_fw_6_32, List.forall_mem_cons.mpr ⟨ag_fw_6_35, List.forall_mem_cons.mpr ⟨ag_fw_6_38, List.forall_mem_cons.mpr ⟨ag_fw_6_41, List.forall_mem_cons.mpr ⟨ag_fw_6_45, List.forall_mem_cons.mpr ⟨ag_fw_6_48, List.forall_mem_cons.mpr ⟨ag_fw_6_51, List.forall_mem_cons.mpr ⟨ag_fw_6_54, List.forall_mem_cons.mpr ⟨ag_fw_6_80, fun _ h => absurd h List.not_mem_nil⟩⟩⟩⟩⟩⟩⟩⟩⟩⟩⟩⟩⟩⟩
theorem ag_fw_7_14 : ag_FW 7 14 6 0 := ⟨_, rfl, by decide, Or.inl ⟨List.mem_of_getElem? (i := 617) (by decide +kernel), rfl⟩⟩
theorem ag_fw_7_25 : ag_FW 7 25 6 11 := ⟨_, rfl, by decide, Or.inl ⟨List.mem_of_getElem? (i := 630) (by decide +kernel), rfl⟩⟩
theorem ag_fw_7_78 : ag_FW 7 78 6 7 := ⟨_, rfl, by decide, Or.inl ⟨List.mem_of_getElem? (i := 625) (by decide +kernel), rfl⟩⟩
theorem ag_fws_7 : ∀ q ∈ ag_fl_l.getD 7 [], ag_FW 7 q.1 q.2.1 q.2.2 := List.forall_mem_cons.mpr ⟨ag_fw_7_14, List.forall_mem_cons.mpr ⟨ag_fw_7_25, List.forall_mem_cons.mpr ⟨ag_fw_7_78, fun _ h => absurd h List.not_mem_nil⟩⟩⟩
theorem ag_fw {o idx ci k : Nat} (h : ag_fl o idx = some (ci, k)) : ag_FW o idx ci k := by
  unfold ag_fl at h
  cases hf : (ag_fl_l.getD o []).find? (fun q => q.1 == idx) with
  | none => rw [hf] at h; cases h
  | some q =>
    rw [hf] at h
    have hm := List.mem_of_find?_eq_some hf
    have he := List.find?_some hf
    simp only [beq_iff_eq] at he
    have hq : q.2 = (ci, k) := Option.some.inj h
    have key : ag_FW o q.1 q.2.1 q.2.2 := by
      match o, hm with
      | 0, hm => exact ag_fws_0 q hm
      | 1, hm => exact ag_fws_1 q hm
      | 2, hm => exact ag_fws_2 q hm
      | 3, hm => exact ag_fws_3 q hm
      | 4, hm => exact ag_fws_4 q hm
      | 5, hm => exact ag_fws_5 q hm
      | 6, hm => exact ag_fws_6 q hm
      | 7, hm => exact ag_fws_7 q hm
      | n + 8, hm => exact absurd hm List.not_mem_nil
    rw [he, hq] at key
    exact key
theorem ag_lay_0 : ∀ w ∈ u_ws RX0 TX0 10, w ∈ lw_tbl ∧ goodWord w = true := by decide +kernel
theorem ag_lay_1 : ∀ w ∈ u_ws RX1 TX1 3, w ∈ lw_tbl ∧ goodWord w = true := by decide +kernel
theorem ag_lay_2 : ∀ w ∈ u_ws RX2 TX2 7, w ∈ lw_tbl ∧ goodWord w = true := by decide +kernel
theorem ag_lay_3 : ∀ w ∈ u_ws RX3 TX3 7, w ∈ lw_tbl ∧ goodWord w = true := by decide +kernel
theorem ag_lay_4 : ∀ w ∈ u_ws RX4 TX4 3, w ∈ lw_tbl ∧ goodWord w = true := by decide +kernel
theorem ag_lay_5 : ∀ w ∈ u_ws RX5 TX5 5, w ∈ lw_tbl ∧ goodWord w = true := by decide +kernel
theorem ag_lay_6 : ∀ w ∈ u_ws RX6 TX6 14, w ∈ lw_tbl ∧ goodWord w = true := by decide +kernel
theorem ag_lay {ci : Nat} {r : vw_C} (h : ag_cl[ci]? = some r) : (∀ w ∈ u_ws r.1 r.2.1 r.2.2, w ∈ lw_tbl ∧ goodWord w = true) ∧ ∃ ty : Nat → FieldType, (∀ k, k < r.2.2 → parseFieldDescriptor (r.2.1 k).2.2.1 = some (ty k)) ∧ (∀ a, a < r.2.2 → ∀ b, b < r.2.2 → a ≠ b → (r.2.1 a).2.1 ≠ (r.2.1 b).2.1) := by
  match ci, h with
  | 0, h => cases h; exact ⟨ag_lay_0, tyX0, tyX0_ok, nmX0⟩
  | 1, h => cases h; exact ⟨ag_lay_1, tyX1, tyX1_ok, nmX1⟩
  | 2, h => cases h; exact ⟨ag_lay_2, tyX2, tyX2_ok, nmX2⟩
  | 3, h => cases h; exact ⟨ag_lay_3, tyX3, tyX3_ok, nmX3⟩
  | 4, h => cases h; exact ⟨ag_lay_4, tyX4, tyX4_ok, nmX4⟩
  | 5, h => cases h; exact ⟨ag_lay_5, tyX5, tyX5_ok, nmX5⟩
  | 6, h => cases h; exact ⟨ag_lay_6, tyX6, tyX6_ok, nmX6⟩
  | n + 7, h => cases h
theorem ag_on_ok (y : Nat) : ag_on (ag_ow y) = (ag_ny y).cls := by
  unfold ag_ow ag_ny ag_m
  by_cases hy : y < ag_mt.length
  · have key : ∀ q ∈ ag_mt, ag_on q.2.2.2.2.1 = q.1.cls := by decide +kernel
    have := key _ (List.getElem_mem hy)
    rw [List.getD_eq_getElem?_getD, List.getElem?_eq_getElem hy]
    exact this
  · rw [List.getD_eq_getElem?_getD, List.getElem?_eq_none (by omega)]
    rfl
section AGZ
variable {p : Program} {l : Launch} {e : Env} {R : Room} {s : State} {m : MethodId} {args : Array Value} {below : List Frame} {meth : Method} {c : Code} {H : Heap} {locs : List Loc} {cells slots : Nat} {Q : State → Prop} {G : ag_G} {y pc : Nat} {A : Array Slot} {ls ls' : ag_Ls} {st st' : List ag_V} {σ σ' : ag_S} {pc' : Nat}

theorem ag_word {w : Cond} (hG : ag_gl G) (hW : G.1.WarmedH s.vm) (hm : w ∈ lw_tbl) (hg : goodWord w = true) (a' : Array Value) : w.before a' s = true := word_at hW (good_of_word hg) (hG.1 w hm)
theorem ag_K (hG : ag_gl G) (hW : G.1.WarmedH s.vm) : va_K G.2.2.1 ag_cl (ag_tys G) s := va_K.moved hW.alike hG.2.1
theorem ag_a_ne {a : Nat} {x : (Nat × (Nat → Int)) ⊕ ((Nat × (Nat → Option Nat)) ⊕ (Nat × List ag_V))} (hI : ag_in G s σ H locs) (h : σ.1 a = some (Sum.inr x)) : a ≠ 0 := by
  rintro rfl
  rcases hI.1.2.2 _ _ h with ⟨-, k9, g9, h9, -⟩ | ⟨h9, -⟩
  · cases h9
  · exact h9 rfl
theorem ag_vin {i : Int} {n : Nat} (h1 : 0 ≤ ag_nm i) (h2 : ag_nm i < n) : vp_in (Int32.ofInt i) n := by
  have e : (Int32.ofInt i).toNatClampNeg = (ag_nm i).toNat := rfl
  rintro (q | q)
  · have q2 : Int32.ofInt i < Int32.ofInt 0 := q
    rw [ag_lt_i, ag_nm_z] at q2
    omega
  · rw [e] at q
    omega
theorem ag_at_pos {n : Nat} {cl : ag_C} (h : ag_at G n cl H) (hn : n ≠ 0) : va_P G.2.2.1 ag_cl [(ag_f G n, ag_e G cl)] H ∧ ag_wf cl := by
  rcases h with ⟨h0, -⟩ | ⟨-, h1, h2⟩
  · exact absurd h0 hn
  · refine ⟨fun k q hk => ?_, h2⟩
    match k, hk with
    | 0, hk => cases hk; exact h1
    | k + 1, hk => simp at hk
theorem ag_at_lt {n : Nat} {cl : ag_C} (hI : ag_in G s σ H locs) (h : σ.1 n = some cl) (hn : n ≠ 0) : ag_f G n < H.size := by
  have h1 := (ag_at_pos (hI.1.2.2 n cl h) hn).1
  exact (h1 0 _ rfl).lt
/-- a cell is written -/
theorem ag_in_set {a k : Nat} {c0 c1 : ag_C} {H1 : Heap} (hb : G.2.1 < G.1.heap.size) (hI : ag_in G s σ H locs) (ha : a ≠ 0) (h0 : σ.1 a = some c0) (z : H1.size = H.size) (oq : ∀ q : Nat, q ≠ ag_f G a → H1[q]? = H[q]?)
    (he : va_at G.2.2.1 ag_cl (ag_f G a, ag_e G c1) H1) (hw : ag_wf c1) : ag_in G s (ag_up σ.1 a c1, σ.2) H1 (locs ++ [⟨ag_f G a, k⟩]) := by
  obtain ⟨⟨h1, h2, h3⟩, h4, h5⟩ := hI
  have hfa := ag_f_pos (G := G) ha
  refine ⟨⟨by rw [z]; exact h1, fun q hq => ?_, fun n cl hn => ?_⟩, by rw [z]; exact h4, fun w hw => ?_⟩
  · rw [oq q (by omega)]
    exact h2 q hq
  · by_cases hna : n = a
    · subst hna
      have : ag_up σ.1 n c1 n = some c1 := by simp [ag_up]
      dsimp only at hn
      rw [this] at hn
      cases hn
      exact Or.inr ⟨ha, he, hw⟩
    · dsimp only at hn
      have : ag_up σ.1 a c1 n = σ.1 n := by simp [ag_up, hna]
      rw [this] at hn
      rcases h3 n cl hn with ⟨hz, kk, g, hc, hX⟩ | ⟨hz, hat, hwf⟩
      · refine Or.inl ⟨hz, kk, g, hc, hX.kept (oq _ (by omega))⟩
      · refine Or.inr ⟨hz, hat.kept (oq _ ?_), hwf⟩
        show ag_f G n ≠ ag_f G a
        rw [ag_f_pos hz, hfa]
        omega
  · rcases List.mem_append.mp hw with h | h
    · exact h5 w h
    · rw [List.mem_singleton] at h
      rw [h]
      show _ ≤ ag_f G a
      omega
/-- a cell is made -/
theorem ag_in_new {n : Nat} {c1 : ag_C} {H1 : Heap} (hI : ag_in G s σ H locs) (z : H1.size = H.size + 1) (oq : ∀ q : Nat, q < H.size → H1[q]? = H[q]?)
    (he : va_at G.2.2.1 ag_cl (H.size, ag_e G c1) H1) (hw : ag_wf c1) : ag_in G s (ag_up σ.1 (σ.2.1 + 1) c1, (σ.2.1 + 1, n)) H1 locs ∧ ag_f G (σ.2.1 + 1) = H.size := by
  obtain ⟨⟨h1, h2, h3⟩, h4, h5⟩ := hI
  have hfa : ag_f G (σ.2.1 + 1) = H.size := by rw [ag_f_pos (by omega), h1]; omega
  refine ⟨⟨⟨by rw [z, h1]; show _ = _ + (σ.2.1 + 1); omega, fun q hq => ?_, fun n cl hn => ?_⟩, by omega, h5⟩, hfa⟩
  · rw [oq q (by omega)]
    exact h2 q hq
  · by_cases hna : n = σ.2.1 + 1
    · subst hna
      have : ag_up σ.1 (σ.2.1 + 1) c1 (σ.2.1 + 1) = some c1 := by simp [ag_up]
      dsimp only at hn
      rw [this] at hn
      cases hn
      exact Or.inr ⟨by omega, by rw [hfa]; exact he, hw⟩
    · dsimp only at hn
      have : ag_up σ.1 (σ.2.1 + 1) c1 n = σ.1 n := by simp [ag_up, hna]
      rw [this] at hn
      rcases h3 n cl hn with ⟨hz, kk, g, hc, hX⟩ | ⟨hz, hat, hwf⟩
      · obtain ⟨scr, q1, q2⟩ := hX
        exact Or.inl ⟨hz, kk, g, hc, ⟨scr, by rw [oq _ (Array.getElem?_eq_some_iff.mp q1).1]; exact q1, q2⟩⟩
      · exact Or.inr ⟨hz, hat.kept (oq _ hat.lt), hwf⟩
theorem ag_put_field {k : Nat} {v : ag_V} {fs : List ag_V} (h : k < fs.length) : (fs.map (ag_v (ag_f G))).set k (ag_v (ag_f G) v) = (fs.set k v).map (ag_v (ag_f G)) := by rw [List.map_set]

theorem ag_s_getfield (C : ag_cx G y p l R s m meth c) (hI : ag_in G s σ H locs) (hL : ag_lr (ag_f G) ls (ag_mx y) A) {idx : Nat} (hd : decode (ag_by y) pc = .ok (.getfield idx, 3)) (h : ag_ex y (.getfield idx) 3 pc ls st σ = some (Sum.inl (pc', (ls', (st', σ'))))) (kk : ag_Go p l e R s m args below meth c cells slots Q G y σ pc' ls' st' σ') : ag_At p l e R s m args below meth c H locs cells slots Q G pc A st := by
  obtain ⟨hG, hx, hb, hml, hr, hown, hlk, hnm, hW, hs0, hRf, hRl⟩ := C
  unfold ag_ex at h
  dsimp only at h
  split at h
  · rename_i a st1
    split at h
    · rename_i ci k ci' fs hf hc
      split at h
      · rename_i hci
        subst hci
        split at h
        · rename_i v hv
          obtain ⟨rfl, rfl, rfl, rfl⟩ := ag_go_inj h
          have ha : a ≠ 0 := ag_a_ne hI hc
          obtain ⟨hP, -⟩ := ag_at_pos (hI.1.2.2 _ _ hc) ha
          obtain ⟨⟨C0, T0, N0⟩, hr0, hk0, hl0⟩ := ag_fw hf
          obtain ⟨hlay, ty0, hty0, hnm0⟩ := ag_lay hr0
          have hts0 : ∀ w ∈ u_ws C0 T0 N0, w.before args s = true := fun w hw => ag_word hG hW (hlay w hw).1 (hlay w hw).2 args
          have hon : ag_on (ag_ow y) = (ag_ny y).cls := ag_on_ok y
          have hv9 : (fs.map (ag_v (ag_f G)))[k]? = some (ag_v (ag_f G) v) := by rw [List.getElem?_map, hv]; rfl
          rcases hl0 with ⟨hl1, hl2⟩ | ⟨-, hl1⟩
          · exact va_get (D := G.2.2.1) (cl := ag_cl) (C := C0) (T := T0) (N := N0) (ref := (T0 k).1) hx hb hts0 (fun _ h => h) (by rw [hon]; exact hown) (ag_K hG hW) hP 0 rfl hr0 k hk0 (ag_word hG hW hl1 hl2 args) (fun _ h => h) hv9 hd (kk.same hI hL)
          · exact va_getN (D := G.2.2.1) (cl := ag_cl) (C := C0) (T := T0) (N := N0) (ref := (T0 k).1) hx hb hts0 (fun _ h => h) (by rw [hon]; exact hown) (ag_K hG hW) hP 0 rfl hr0 k hk0 (va_Nw.use rfl (va_Nw.warmF hW (va_Nw.of rfl (hG.1 _ hl1)))) (fun _ h => h) hv9 hd (kk.same hI hL)
        · cases h
      · cases h
    · cases h
  · cases h

end AGZ
