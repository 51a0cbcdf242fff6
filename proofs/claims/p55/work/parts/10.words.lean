/-! WORDS that the walks use, by their places in the tables; texts -/
theorem t1_in {w : Cond} (h : w ∈ tables_1_1) : w ∈ tables_1 := (List.mem_append_left _ h)
theorem b1_at {w : Cond} (i : Nat) (h : tables_1_1[i]? = some w) (hg : goodWord w = true) : w ∈ lw_big := List.mem_append_right _ (List.mem_filter.mpr ⟨List.mem_append_right _ (t1_in (List.mem_of_getElem? h)), hg⟩)
theorem x1_at {w : Cond} (i : Nat) (h : tables_1_1[i]? = some w) (hg : xtraB w = true) : w ∈ xtraW := List.mem_filter.mpr ⟨List.mem_append_right _ (t1_in (List.mem_of_getElem? h)), hg⟩
theorem t2_in {w : Cond} (h : w ∈ tables_1_2) : w ∈ tables_1 := (List.mem_append_right _ (List.mem_append_left _ h))
theorem b2_at {w : Cond} (i : Nat) (h : tables_1_2[i]? = some w) (hg : goodWord w = true) : w ∈ lw_big := List.mem_append_right _ (List.mem_filter.mpr ⟨List.mem_append_right _ (t2_in (List.mem_of_getElem? h)), hg⟩)
theorem x2_at {w : Cond} (i : Nat) (h : tables_1_2[i]? = some w) (hg : xtraB w = true) : w ∈ xtraW := List.mem_filter.mpr ⟨List.mem_append_right _ (t2_in (List.mem_of_getElem? h)), hg⟩
theorem t3_in {w : Cond} (h : w ∈ tables_1_3) : w ∈ tables_1 := (List.mem_append_right _ (List.mem_append_right _ (List.mem_append_left _ h)))
theorem b3_at {w : Cond} (i : Nat) (h : tables_1_3[i]? = some w) (hg : goodWord w = true) : w ∈ lw_big := List.mem_append_right _ (List.mem_filter.mpr ⟨List.mem_append_right _ (t3_in (List.mem_of_getElem? h)), hg⟩)
theorem x3_at {w : Cond} (i : Nat) (h : tables_1_3[i]? = some w) (hg : xtraB w = true) : w ∈ xtraW := List.mem_filter.mpr ⟨List.mem_append_right _ (t3_in (List.mem_of_getElem? h)), hg⟩
theorem t4_in {w : Cond} (h : w ∈ tables_1_4) : w ∈ tables_1 := (List.mem_append_right _ (List.mem_append_right _ (List.mem_append_right _ h)))
theorem b4_at {w : Cond} (i : Nat) (h : tables_1_4[i]? = some w) (hg : goodWord w = true) : w ∈ lw_big := List.mem_append_right _ (List.mem_filter.mpr ⟨List.mem_append_right _ (t4_in (List.mem_of_getElem? h)), hg⟩)
theorem x4_at {w : Cond} (i : Nat) (h : tables_1_4[i]? = some w) (hg : xtraB w = true) : w ∈ xtraW := List.mem_filter.mpr ⟨List.mem_append_right _ (t4_in (List.mem_of_getElem? h)), hg⟩
/-- the place of a byte among the signs -/
def ixS (x : Int32) : Int32 := match txS.findIdx? (fun y => y == x) with | some k => nI k | none => -1
theorem hcast {X : XT} {own : String} {cc : ByteArray} {nL : Nat} (C : CX X own cc nL) : ∀ q ∈ [1, 2], va_Nw (.castable (RXX q) (RXX 0)) (xs X) := by
  intro q hq
  refine C.2.2.2.2.2.2.1.1 _ ?_
  simp only [List.mem_cons, List.not_mem_nil, or_false] at hq
  rcases hq with rfl | rfl
  · exact x4_at 167 rfl rfl
  · exact x4_at 166 rfl rfl
/-- a text of the tape's: its cell and its bytes' cell -/
def stT (i q : Nat) (b : Nat) (U : State) : Prop := ∃ adK adV : Nat → Nat, vk_S 2 [78, 12] [txW, txS] adK adV (fun x => b ≤ x) U U.heap ∧ q = adK i
section TEXTS
variable {X : XT} {own : String} {cc : ByteArray} {nL pc cells slots : Nat} {h : AH} {lv lv' : List (Option Value)} {st : List Value} {ρ : Type} {r : ρ}
theorem s_ldcT121 {cc : ByteArray} (C : CX X RX8 cc nL) (d : decode cc pc = .ok (.ldc 121, 2)) (kk : ∀ q : Nat, stT 0 q (xD X).1 (xs X) → WW X h cells slots (pc + 2) lv (.ref q :: st)) : WW X h cells slots pc lv st := by
  obtain ⟨⟨aK, aV, h7, h8, h9⟩, -, -⟩ := C.2.2.2.2.2.2.2.2.2.2
  exact fun H locs ls hR hS hl => va_ldcS C.1 C.2.1 C.2.2.2.1 h8 d (kk _ ⟨aK, aV, h7, rfl⟩ H locs ls hR hS hl)
theorem s_ldcT110 {cc : ByteArray} (C : CX X RX8 cc nL) (d : decode cc pc = .ok (.ldc 110, 2)) (kk : ∀ q : Nat, stT 1 q (xD X).1 (xs X) → WW X h cells slots (pc + 2) lv (.ref q :: st)) : WW X h cells slots pc lv st := by
  obtain ⟨⟨aK, aV, h7, h8, h9⟩, -, -⟩ := C.2.2.2.2.2.2.2.2.2.2
  exact fun H locs ls hR hS hl => va_ldcS C.1 C.2.1 C.2.2.2.1 h9 d (kk _ ⟨aK, aV, h7, rfl⟩ H locs ls hR hS hl)
end TEXTS
theorem wml_X3_3 : Cond.methodLink RX3 3 Lib.objectInit ∈ lw_big := b1_at 33 rfl rfl
theorem wim_obj : Cond.instanceMethod Lib.objectInit ∈ lw_big := b1_at 26 rfl rfl
theorem wcd_obj : Cond.code Lib.objectInit ⟨#[0xb1]⟩ 1 none ∈ lw_big := b1_at 27 rfl rfl
theorem wac_20 : Cond.arrayClass (aty 20) ∈ lw_big := b1_at 77 rfl rfl
theorem wfl_X3_9 : Cond.fieldLink RX3 9 RX3 "owners" "[I" ∈ lw_big := b1_at 41 rfl rfl
theorem fl_X3_9 : FLk RX3 9 [3] 1 2 true := FLk.mk0 _ _ _ wfl_X3_9 (by decide +kernel)
theorem wcl_X3_15 : Cond.classLink RX3 15 "HillBoxes$Body" ∈ lw_big := b1_at 34 rfl rfl
theorem wfl_X3_17 : Cond.fieldLink RX3 17 RX3 "bodies" "[LHillBoxes$Body;" ∈ lw_big := b1_at 44 rfl rfl
theorem fl_X3_17 : FLk RX3 17 [3] 2 2 true := FLk.mk0 _ _ _ wfl_X3_17 (by decide +kernel)
theorem wfl_X3_21 : Cond.fieldLink RX3 21 RX3 "steps" "[I" ∈ lw_big := b1_at 48 rfl rfl
theorem fl_X3_21 : FLk RX3 21 [3] 4 2 true := FLk.mk0 _ _ _ wfl_X3_21 (by decide +kernel)
theorem wfl_X3_24 : Cond.fieldLink RX3 24 RX3 "movedBox" "[I" ∈ lw_big := b1_at 53 rfl rfl
theorem fl_X3_24 : FLk RX3 24 [3] 6 2 true := FLk.mk0 _ _ _ wfl_X3_24 (by decide +kernel)
theorem wfl_X3_27 : Cond.fieldLink RX3 27 RX3 "movedAt" "[I" ∈ lw_big := b1_at 54 rfl rfl
theorem fl_X3_27 : FLk RX3 27 [3] 7 2 true := FLk.mk0 _ _ _ wfl_X3_27 (by decide +kernel)
theorem wfl_X3_30 : Cond.fieldLink RX3 30 RX3 "movedTo" "[I" ∈ lw_big := b1_at 55 rfl rfl
theorem fl_X3_30 : FLk RX3 30 [3] 8 2 true := FLk.mk0 _ _ _ wfl_X3_30 (by decide +kernel)
theorem wini_J7 : Cond.initialized RJ7 ∈ lw_big := b1_at 3 rfl rfl
theorem wc_J7_fill_53178 : CWd yJ7_fill_53178 cJ7_fill_53178 4 none 2 := ⟨b1_at 38 rfl rfl, wini_J7, by decide, by decide, by decide +kernel⟩
theorem wml_X3_33 : Cond.methodLink RX3 33 yJ7_fill_53178 ∈ lw_big := b1_at 36 rfl rfl
theorem wst_J7_fill_53178 : Cond.static yJ7_fill_53178 ∈ lw_big := b1_at 37 rfl rfl
theorem wml_X4_3 : Cond.methodLink RX4 3 Lib.objectInit ∈ lw_big := b1_at 182 rfl rfl
theorem wfl_X4_9 : Cond.fieldLink RX4 9 RX4 "finder" "[I" ∈ lw_big := b1_at 183 rfl rfl
theorem fl_X4_9 : FLk RX4 9 [4] 0 2 true := FLk.mk0 _ _ _ wfl_X4_9 (by decide +kernel)
theorem wac_23 : Cond.arrayClass (aty 23) ∈ lw_big := b1_at 211 rfl rfl
theorem wfl_X4_15 : Cond.fieldLink RX4 15 RX4 "found" "[Z" ∈ lw_big := b1_at 184 rfl rfl
theorem fl_X4_15 : FLk RX4 15 [4] 1 2 true := FLk.mk0 _ _ _ wfl_X4_15 (by decide +kernel)
theorem wfl_X4_19 : Cond.fieldLink RX4 19 RX4 "tally" "[I" ∈ lw_big := b1_at 186 rfl rfl
theorem fl_X4_19 : FLk RX4 19 [4] 3 2 true := FLk.mk0 _ _ _ wfl_X4_19 (by decide +kernel)
theorem wfl_X4_22 : Cond.fieldLink RX4 22 RX4 "box" "[I" ∈ lw_big := b1_at 187 rfl rfl
theorem fl_X4_22 : FLk RX4 22 [4] 4 2 true := FLk.mk0 _ _ _ wfl_X4_22 (by decide +kernel)
theorem wfl_X4_25 : Cond.fieldLink RX4 25 RX4 "at" "[I" ∈ lw_big := b1_at 188 rfl rfl
theorem fl_X4_25 : FLk RX4 25 [4] 5 2 true := FLk.mk0 _ _ _ wfl_X4_25 (by decide +kernel)
theorem wfl_X4_28 : Cond.fieldLink RX4 28 RX4 "tallied" "[Z" ∈ lw_big := b1_at 189 rfl rfl
theorem fl_X4_28 : FLk RX4 28 [4] 6 2 true := FLk.mk0 _ _ _ wfl_X4_28 (by decide +kernel)
theorem wfl_X4_31 : Cond.fieldLink RX4 31 RX4 "hills" "LHillBoxes$Hills;" ∈ lw_big := b1_at 190 rfl rfl
theorem fl_X4_31 : FLk RX4 31 [4] 7 2 true := FLk.mk0 _ _ _ wfl_X4_31 (by decide +kernel)
theorem wfl_X4_35 : Cond.fieldLink RX4 35 RX4 "rules" "LHillBoxes$Rules;" ∈ lw_big := b1_at 191 rfl rfl
theorem fl_X4_35 : FLk RX4 35 [4] 8 2 true := FLk.mk0 _ _ _ wfl_X4_35 (by decide +kernel)
theorem wml_X8_3 : Cond.methodLink RX8 3 Lib.objectInit ∈ lw_big := b1_at 89 rfl rfl
theorem wfl_X8_9 : Cond.fieldLink RX8 9 RX8 "bytes" "[I" ∈ lw_big := b1_at 93 rfl rfl
theorem fl_X8_9 : FLk RX8 9 [8] 1 2 true := FLk.mk0 _ _ _ wfl_X8_9 (by decide +kernel)
theorem wfl_X8_13 : Cond.fieldLink RX8 13 RX8 "tokens" "[I" ∈ lw_big := b1_at 94 rfl rfl
theorem fl_X8_13 : FLk RX8 13 [8] 2 2 true := FLk.mk0 _ _ _ wfl_X8_13 (by decide +kernel)
theorem wfl_X8_16 : Cond.fieldLink RX8 16 RX8 "places" "[I" ∈ lw_big := b1_at 95 rfl rfl
theorem fl_X8_16 : FLk RX8 16 [8] 3 2 true := FLk.mk0 _ _ _ wfl_X8_16 (by decide +kernel)
theorem wfl_X8_19 : Cond.fieldLink RX8 19 RX8 "values" "[I" ∈ lw_big := b1_at 96 rfl rfl
theorem fl_X8_19 : FLk RX8 19 [8] 4 2 true := FLk.mk0 _ _ _ wfl_X8_19 (by decide +kernel)
theorem wfl_X8_22 : Cond.fieldLink RX8 22 RX8 "code" "[I" ∈ lw_big := b1_at 101 rfl rfl
theorem fl_X8_22 : FLk RX8 22 [8] 9 2 true := FLk.mk0 _ _ _ wfl_X8_22 (by decide +kernel)
theorem wml_X6_3 : Cond.methodLink RX6 3 Lib.objectInit ∈ lw_big := b1_at 83 rfl rfl
theorem wcl_X6_9 : Cond.classLink RX6 9 RX8 ∈ lw_big := b1_at 84 rfl rfl
theorem wins_X8 : Cond.instantiable RX8 11 ∈ lw_big := b1_at 85 rfl rfl
theorem wini_X8 : Cond.initialized RX8 ∈ lw_big := b1_at 5 rfl rfl
theorem wc_X8_init : CWd yX8_init cX8_init 1 none 0 := ⟨b1_at 88 rfl rfl, wini_X8, by decide, by decide, by decide +kernel⟩
theorem wmn_X6_11 : Cond.methodLinkNest RX6 11 yX8_init "HillBoxes" ∈ xtraW := xtra_at 86 (by decide +kernel) rfl
theorem wim_X8_init : Cond.instanceMethod yX8_init ∈ lw_big := b1_at 87 rfl rfl
theorem wfl_X6_12 : Cond.fieldLink RX6 12 RX6 "tape" "LHillBoxes$Tape;" ∈ lw_big := b1_at 126 rfl rfl
theorem fl_X6_12 : FLk RX6 12 [6] 0 2 true := FLk.mk0 _ _ _ wfl_X6_12 (by decide +kernel)
theorem wfl_X6_18 : Cond.fieldLink RX6 18 RX6 "line" "I" ∈ lw_big := b1_at 130 rfl rfl
theorem fl_X6_18 : FLk RX6 18 [6] 2 0 false := FLk.mk0 _ _ _ wfl_X6_18 (by decide +kernel)
theorem wfl_X6_22 : Cond.fieldLink RX6 22 RX6 "uses" "[I" ∈ lw_big := b1_at 132 rfl rfl
theorem fl_X6_22 : FLk RX6 22 [6] 4 2 true := FLk.mk0 _ _ _ wfl_X6_22 (by decide +kernel)
theorem wfl_X6_26 : Cond.fieldLink RX6 26 RX6 "madeOn" "[I" ∈ lw_big := b1_at 133 rfl rfl
theorem fl_X6_26 : FLk RX6 26 [6] 5 2 true := FLk.mk0 _ _ _ wfl_X6_26 (by decide +kernel)
theorem wfl_X6_29 : Cond.fieldLink RX6 29 RX6 "daysFrom" "[I" ∈ lw_big := b1_at 134 rfl rfl
theorem fl_X6_29 : FLk RX6 29 [6] 6 2 true := FLk.mk0 _ _ _ wfl_X6_29 (by decide +kernel)
theorem wfl_X6_32 : Cond.fieldLink RX6 32 RX6 "codes" "[I" ∈ lw_big := b1_at 135 rfl rfl
theorem fl_X6_32 : FLk RX6 32 [6] 7 2 true := FLk.mk0 _ _ _ wfl_X6_32 (by decide +kernel)
theorem wfl_X6_35 : Cond.fieldLink RX6 35 RX6 "codeLengths" "[I" ∈ lw_big := b1_at 136 rfl rfl
theorem fl_X6_35 : FLk RX6 35 [6] 8 2 true := FLk.mk0 _ _ _ wfl_X6_35 (by decide +kernel)
theorem wfl_X6_38 : Cond.fieldLink RX6 38 RX6 "stack" "[I" ∈ lw_big := b1_at 137 rfl rfl
theorem fl_X6_38 : FLk RX6 38 [6] 9 2 true := FLk.mk0 _ _ _ wfl_X6_38 (by decide +kernel)
theorem wfl_X6_41 : Cond.fieldLink RX6 41 RX6 "hills" "LHillBoxes$Hills;" ∈ lw_big := b1_at 131 rfl rfl
theorem fl_X6_41 : FLk RX6 41 [6] 3 2 true := FLk.mk0 _ _ _ wfl_X6_41 (by decide +kernel)
theorem wml_X7_3 : Cond.methodLink RX7 3 Lib.objectInit ∈ lw_big := b2_at 26 rfl rfl
theorem wac_24 : Cond.arrayClass (aty 24) ∈ lw_big := b2_at 39 rfl rfl
theorem wfl_X7_9 : Cond.fieldLink RX7 9 RX7 "elements" "[J" ∈ lw_big := b2_at 27 rfl rfl
theorem fl_X7_9 : FLk RX7 9 [7] 4 2 true := FLk.mk0 _ _ _ wfl_X7_9 (by decide +kernel)
theorem wml_X10_3 : Cond.methodLink RX10 3 Lib.objectInit ∈ lw_big := b1_at 217 rfl rfl
theorem wfl_X10_9 : Cond.fieldLink RX10 9 RX10 "walkedHours" "I" ∈ lw_big := b1_at 220 rfl rfl
theorem fl_X10_9 : FLk RX10 9 [10] 1 0 false := FLk.mk0 _ _ _ wfl_X10_9 (by decide +kernel)
theorem wfl_X10_15 : Cond.fieldLink RX10 15 RX10 "walked" "[I" ∈ lw_big := b1_at 221 rfl rfl
theorem fl_X10_15 : FLk RX10 15 [10] 3 2 true := FLk.mk0 _ _ _ wfl_X10_15 (by decide +kernel)
theorem wcl_X10_19 : Cond.classLink RX10 19 "HillBoxes$Box" ∈ lw_big := b1_at 218 rfl rfl
theorem wfl_X10_21 : Cond.fieldLink RX10 21 RX10 "boxes" "[LHillBoxes$Box;" ∈ lw_big := b1_at 222 rfl rfl
theorem fl_X10_21 : FLk RX10 21 [10] 4 2 true := FLk.mk0 _ _ _ wfl_X10_21 (by decide +kernel)
theorem wfl_X10_25 : Cond.fieldLink RX10 25 RX10 "worths" "[I" ∈ lw_big := b1_at 223 rfl rfl
theorem fl_X10_25 : FLk RX10 25 [10] 5 2 true := FLk.mk0 _ _ _ wfl_X10_25 (by decide +kernel)
theorem wfl_X10_28 : Cond.fieldLink RX10 28 RX10 "stays" "[I" ∈ lw_big := b1_at 224 rfl rfl
theorem fl_X10_28 : FLk RX10 28 [10] 6 2 true := FLk.mk0 _ _ _ wfl_X10_28 (by decide +kernel)
theorem wfl_X10_31 : Cond.fieldLink RX10 31 RX10 "row" "[I" ∈ lw_big := b1_at 225 rfl rfl
theorem fl_X10_31 : FLk RX10 31 [10] 7 2 true := FLk.mk0 _ _ _ wfl_X10_31 (by decide +kernel)
theorem wfl_X10_34 : Cond.fieldLink RX10 34 RX10 "best" "[I" ∈ lw_big := b1_at 226 rfl rfl
theorem fl_X10_34 : FLk RX10 34 [10] 9 2 true := FLk.mk0 _ _ _ wfl_X10_34 (by decide +kernel)
theorem wml_X11_1 : Cond.methodLink RX11 1 Lib.objectInit ∈ lw_big := b1_at 25 rfl rfl
theorem wcl_X11_7 : Cond.classLink RX11 7 RX3 ∈ lw_big := b1_at 28 rfl rfl
theorem wins_X3 : Cond.instantiable RX3 10 ∈ lw_big := b1_at 29 rfl rfl
theorem wini_X3 : Cond.initialized RX3 ∈ lw_big := b1_at 2 rfl rfl
theorem wc_X3_init : CWd yX3_init cX3_init 1 none 0 := ⟨b1_at 32 rfl rfl, wini_X3, by decide, by decide, by decide +kernel⟩
theorem wml_X11_9 : Cond.methodLink RX11 9 yX3_init ∈ lw_big := b1_at 30 rfl rfl
theorem wim_X3_init : Cond.instanceMethod yX3_init ∈ lw_big := b1_at 31 rfl rfl
theorem wfl_X11_10 : Cond.fieldLink RX11 10 RX11 "hills" "LHillBoxes$Hills;" ∈ lw_big := b2_at 40 rfl rfl
theorem fl_X11_10 : FLk RX11 10 [11] 0 2 true := FLk.mk0 _ _ _ wfl_X11_10 (by decide +kernel)
theorem wcl_X11_16 : Cond.classLink RX11 16 RX6 ∈ lw_big := b1_at 78 rfl rfl
theorem wins_X6 : Cond.instantiable RX6 16 ∈ lw_big := b1_at 79 rfl rfl
theorem wini_X6 : Cond.initialized RX6 ∈ lw_big := b1_at 4 rfl rfl
theorem wc_X6_init : CWd yX6_init cX6_init 2 none 1 := ⟨b1_at 82 rfl rfl, wini_X6, by decide, by decide, by decide +kernel⟩
theorem wml_X11_18 : Cond.methodLink RX11 18 yX6_init ∈ lw_big := b1_at 80 rfl rfl
theorem wim_X6_init : Cond.instanceMethod yX6_init ∈ lw_big := b1_at 81 rfl rfl
theorem wfl_X11_21 : Cond.fieldLink RX11 21 RX11 "rules" "LHillBoxes$Rules;" ∈ lw_big := b2_at 41 rfl rfl
theorem fl_X11_21 : FLk RX11 21 [11] 1 2 true := FLk.mk0 _ _ _ wfl_X11_21 (by decide +kernel)
theorem wcl_X11_25 : Cond.classLink RX11 25 RX4 ∈ lw_big := b1_at 177 rfl rfl
theorem wins_X4 : Cond.instantiable RX4 9 ∈ lw_big := b1_at 178 rfl rfl
theorem wini_X4 : Cond.initialized RX4 ∈ lw_big := b1_at 6 rfl rfl
theorem wc_X4_init : CWd yX4_init cX4_init 3 none 2 := ⟨b1_at 181 rfl rfl, wini_X4, by decide, by decide, by decide +kernel⟩
theorem wml_X11_27 : Cond.methodLink RX11 27 yX4_init ∈ lw_big := b1_at 179 rfl rfl
theorem wim_X4_init : Cond.instanceMethod yX4_init ∈ lw_big := b1_at 180 rfl rfl
theorem wfl_X11_30 : Cond.fieldLink RX11 30 RX11 "logs" "LHillBoxes$Logs;" ∈ lw_big := b2_at 42 rfl rfl
theorem fl_X11_30 : FLk RX11 30 [11] 2 2 true := FLk.mk0 _ _ _ wfl_X11_30 (by decide +kernel)
theorem wcl_X11_34 : Cond.classLink RX11 34 RX10 ∈ lw_big := b1_at 212 rfl rfl
theorem wins_X10 : Cond.instantiable RX10 16 ∈ lw_big := b1_at 213 rfl rfl
theorem wini_X10 : Cond.initialized RX10 ∈ lw_big := b1_at 7 rfl rfl
theorem wc_X10_init : CWd yX10_init cX10_init 1 none 0 := ⟨b1_at 216 rfl rfl, wini_X10, by decide, by decide, by decide +kernel⟩
theorem wmn_X11_36 : Cond.methodLinkNest RX11 36 yX10_init "HillBoxes" ∈ xtraW := xtra_at 214 (by decide +kernel) rfl
theorem wim_X10_init : Cond.instanceMethod yX10_init ∈ lw_big := b1_at 215 rfl rfl
theorem wfl_X11_37 : Cond.fieldLink RX11 37 RX11 "walks" "LHillBoxes$Walks;" ∈ lw_big := b2_at 43 rfl rfl
theorem fl_X11_37 : FLk RX11 37 [11] 3 2 true := FLk.mk0 _ _ _ wfl_X11_37 (by decide +kernel)
theorem wcl_X11_41 : Cond.classLink RX11 41 "HillBoxes$Shelf" ∈ lw_big := b2_at 20 rfl rfl
theorem wfl_X11_43 : Cond.fieldLink RX11 43 RX11 "shelves" "[LHillBoxes$Shelf;" ∈ lw_big := b2_at 44 rfl rfl
theorem fl_X11_43 : FLk RX11 43 [11] 4 2 true := FLk.mk0 _ _ _ wfl_X11_43 (by decide +kernel)
theorem wfl_X11_48 : Cond.fieldLink RX11 48 RX11 "trace" "[I" ∈ lw_big := b2_at 45 rfl rfl
theorem fl_X11_48 : FLk RX11 48 [11] 5 2 true := FLk.mk0 _ _ _ wfl_X11_48 (by decide +kernel)
theorem wins_X7 : Cond.instantiable RX7 5 ∈ lw_big := b2_at 22 rfl rfl
theorem wini_X7 : Cond.initialized RX7 ∈ lw_big := b1_at 8 rfl rfl
theorem wc_X7_init : CWd yX7_init cX7_init 1 none 0 := ⟨b2_at 25 rfl rfl, wini_X7, by decide, by decide, by decide +kernel⟩
theorem wmn_X11_47 : Cond.methodLinkNest RX11 47 yX7_init "HillBoxes" ∈ xtraW := xtra_at 263 (by decide +kernel) rfl
theorem wim_X7_init : Cond.instanceMethod yX7_init ∈ lw_big := b2_at 24 rfl rfl
theorem wfl_X1_21 : Cond.fieldLink RX1 21 RX1 "downOn" "I" ∈ lw_big := b3_at 67 rfl rfl
theorem fl_X1_21 : FLk RX1 21 [1] 11 0 false := FLk.mk0 _ _ _ wfl_X1_21 (by decide +kernel)
theorem wcl_X3_48 : Cond.classLink RX3 48 RX1 ∈ lw_big := b2_at 178 rfl rfl
theorem wfl_X3_39 : Cond.fieldLink RX3 39 RX3 "size" "I" ∈ lw_big := b1_at 45 rfl rfl
theorem fl_X3_39 : FLk RX3 39 [3] 3 0 false := FLk.mk0 _ _ _ wfl_X3_39 (by decide +kernel)
theorem wfl_X11_70 : Cond.fieldLink RX11 70 RX3 "size" "I" ∈ lw_big := b1_at 46 rfl rfl
theorem fl_X11_70 : FLk RX11 70 [3] 3 0 false := FLk.mk0 _ _ _ wfl_X11_70 (by decide +kernel)
theorem wc_X3_boxAt : CWd yX3_boxAt cX3_boxAt 3 (some (.object "HillBoxes$Box")) 1 := ⟨b2_at 177 rfl rfl, wini_X3, by decide, by decide, by decide +kernel⟩
theorem wsel_X3_X3_boxAt : Cond.selects RX3 yX3_boxAt yX3_boxAt ∈ lw_big := b2_at 176 rfl rfl
theorem wsl_3_X3_boxAt : ∀ t ∈ ([3] : List Nat), t < 13 ∧ Cond.selects (RXX t) yX3_boxAt yX3_boxAt ∈ lw_big := fun t ht => by simp only [List.mem_cons, List.not_mem_nil, or_false] at ht; subst ht; exact ⟨by decide, wsel_X3_X3_boxAt⟩
theorem wml_X11_130 : Cond.methodLink RX11 130 yX3_boxAt ∈ lw_big := b3_at 122 rfl rfl
theorem wim_X3_boxAt : Cond.instanceMethod yX3_boxAt ∈ lw_big := b2_at 175 rfl rfl
theorem wini_X1 : Cond.initialized RX1 ∈ lw_big := b1_at 18 rfl rfl
theorem wc_X1_isDown : CWd yX1_isDown cX1_isDown 1 (some .boolean) 0 := ⟨b2_at 222 rfl rfl, wini_X1, by decide, by decide, by decide +kernel⟩
theorem wsel_X1_X1_isDown : Cond.selects RX1 yX1_isDown yX1_isDown ∈ lw_big := b2_at 221 rfl rfl
theorem wsl_1_X1_isDown : ∀ t ∈ ([1] : List Nat), t < 13 ∧ Cond.selects (RXX t) yX1_isDown yX1_isDown ∈ lw_big := fun t ht => by simp only [List.mem_cons, List.not_mem_nil, or_false] at ht; subst ht; exact ⟨by decide, wsel_X1_X1_isDown⟩
theorem wml_X11_137 : Cond.methodLink RX11 137 yX1_isDown ∈ lw_big := b3_at 123 rfl rfl
theorem wim_X1_isDown : Cond.instanceMethod yX1_isDown ∈ lw_big := b2_at 220 rfl rfl
theorem wfl_X2_9 : Cond.fieldLink RX2 9 RX2 "leftOn" "I" ∈ lw_big := b2_at 90 rfl rfl
theorem fl_X2_9 : FLk RX2 9 [2] 4 0 false := FLk.mk0 _ _ _ wfl_X2_9 (by decide +kernel)
theorem wcl_X3_46 : Cond.classLink RX3 46 RX2 ∈ lw_big := b2_at 128 rfl rfl
theorem wc_X3_finderAt : CWd yX3_finderAt cX3_finderAt 3 (some (.object "HillBoxes$Finder")) 1 := ⟨b2_at 127 rfl rfl, wini_X3, by decide, by decide, by decide +kernel⟩
theorem wsel_X3_X3_finderAt : Cond.selects RX3 yX3_finderAt yX3_finderAt ∈ lw_big := b2_at 126 rfl rfl
theorem wsl_3_X3_finderAt : ∀ t ∈ ([3] : List Nat), t < 13 ∧ Cond.selects (RXX t) yX3_finderAt yX3_finderAt ∈ lw_big := fun t ht => by simp only [List.mem_cons, List.not_mem_nil, or_false] at ht; subst ht; exact ⟨by decide, wsel_X3_X3_finderAt⟩
theorem wml_X11_90 : Cond.methodLink RX11 90 yX3_finderAt ∈ lw_big := b2_at 124 rfl rfl
theorem wim_X3_finderAt : Cond.instanceMethod yX3_finderAt ∈ lw_big := b2_at 125 rfl rfl
theorem wini_X2 : Cond.initialized RX2 ∈ lw_big := b1_at 17 rfl rfl
theorem wc_X2_hasLeft : CWd yX2_hasLeft cX2_hasLeft 1 (some .boolean) 0 := ⟨b2_at 143 rfl rfl, wini_X2, by decide, by decide, by decide +kernel⟩
theorem wsel_X2_X2_hasLeft : Cond.selects RX2 yX2_hasLeft yX2_hasLeft ∈ lw_big := b2_at 142 rfl rfl
theorem wsl_2_X2_hasLeft : ∀ t ∈ ([2] : List Nat), t < 13 ∧ Cond.selects (RXX t) yX2_hasLeft yX2_hasLeft ∈ lw_big := fun t ht => by simp only [List.mem_cons, List.not_mem_nil, or_false] at ht; subst ht; exact ⟨by decide, wsel_X2_X2_hasLeft⟩
theorem wml_X11_94 : Cond.methodLink RX11 94 yX2_hasLeft ∈ lw_big := b4_at 139 rfl rfl
theorem wim_X2_hasLeft : Cond.instanceMethod yX2_hasLeft ∈ lw_big := b2_at 141 rfl rfl
theorem wini_X11 : Cond.initialized RX11 ∈ lw_big := b1_at 1 rfl rfl
theorem wc_X11_countBoxes : CWd yX11_countBoxes cX11_countBoxes 5 (some .int) 1 := ⟨b4_at 134 rfl rfl, wini_X11, by decide, by decide, by decide +kernel⟩
theorem wsel_X11_X11_countBoxes : Cond.selects RX11 yX11_countBoxes yX11_countBoxes ∈ lw_big := big_sel 29 rfl rfl
theorem wsl_11_X11_countBoxes : ∀ t ∈ ([11] : List Nat), t < 13 ∧ Cond.selects (RXX t) yX11_countBoxes yX11_countBoxes ∈ lw_big := fun t ht => by simp only [List.mem_cons, List.not_mem_nil, or_false] at ht; subst ht; exact ⟨by decide, wsel_X11_X11_countBoxes⟩
theorem wml_X11_479 : Cond.methodLink RX11 479 yX11_countBoxes ∈ lw_big := b4_at 131 rfl rfl
theorem wim_X11_countBoxes : Cond.instanceMethod yX11_countBoxes ∈ lw_big := b4_at 133 rfl rfl
theorem wc_X11_countFinders : CWd yX11_countFinders cX11_countFinders 5 (some .int) 1 := ⟨b4_at 138 rfl rfl, wini_X11, by decide, by decide, by decide +kernel⟩
theorem wsel_X11_X11_countFinders : Cond.selects RX11 yX11_countFinders yX11_countFinders ∈ lw_big := big_sel 30 rfl rfl
theorem wsl_11_X11_countFinders : ∀ t ∈ ([11] : List Nat), t < 13 ∧ Cond.selects (RXX t) yX11_countFinders yX11_countFinders ∈ lw_big := fun t ht => by simp only [List.mem_cons, List.not_mem_nil, or_false] at ht; subst ht; exact ⟨by decide, wsel_X11_X11_countFinders⟩
theorem wml_X11_482 : Cond.methodLink RX11 482 yX11_countFinders ∈ lw_big := b4_at 135 rfl rfl
theorem wim_X11_countFinders : Cond.instanceMethod yX11_countFinders ∈ lw_big := b4_at 137 rfl rfl
theorem wfl_X11_285 : Cond.fieldLink RX11 285 RX4 "size" "I" ∈ lw_big := b1_at 185 rfl rfl
theorem fl_X11_285 : FLk RX11 285 [4] 2 0 false := FLk.mk0 _ _ _ wfl_X11_285 (by decide +kernel)
theorem wfl_X11_485 : Cond.fieldLink RX11 485 RX6 "made" "I" ∈ lw_big := b1_at 129 rfl rfl
theorem fl_X11_485 : FLk RX11 485 [6] 1 0 false := FLk.mk0 _ _ _ wfl_X11_485 (by decide +kernel)
theorem wfl_X11_179 : Cond.fieldLink RX11 179 RX6 "tape" "LHillBoxes$Tape;" ∈ lw_big := b1_at 127 rfl rfl
theorem fl_X11_179 : FLk RX11 179 [6] 0 2 true := FLk.mk0 _ _ _ wfl_X11_179 (by decide +kernel)
theorem wfl_X11_191 : Cond.fieldLink RX11 191 RX8 "length" "I" ∈ lw_big := b1_at 92 rfl rfl
theorem fl_X11_191 : FLk RX11 191 [8] 0 0 false := FLk.mk0 _ _ _ wfl_X11_191 (by decide +kernel)
theorem wfl_X11_52 : Cond.fieldLink RX11 52 RX3 "today" "I" ∈ lw_big := b1_at 40 rfl rfl
theorem fl_X11_52 : FLk RX11 52 [3] 0 0 false := FLk.mk0 _ _ _ wfl_X11_52 (by decide +kernel)
theorem wfl_X11_100 : Cond.fieldLink RX11 100 RX3 "stepCount" "I" ∈ lw_big := b1_at 51 rfl rfl
theorem fl_X11_100 : FLk RX11 100 [3] 5 0 false := FLk.mk0 _ _ _ wfl_X11_100 (by decide +kernel)
theorem wfl_X11_153 : Cond.fieldLink RX11 153 RX1 "downOn" "I" ∈ lw_big := b3_at 69 rfl rfl
theorem fl_X11_153 : FLk RX11 153 [1] 11 0 false := FLk.mk0 _ _ _ wfl_X11_153 (by decide +kernel)
theorem wfl_X8_25 : Cond.fieldLink RX8 25 RX8 "length" "I" ∈ lw_big := b1_at 90 rfl rfl
theorem fl_X8_25 : FLk RX8 25 [8] 0 0 false := FLk.mk0 _ _ _ wfl_X8_25 (by decide +kernel)
theorem wc_X8_hasRoomFor : CWd yX8_hasRoomFor cX8_hasRoomFor 2 (some .boolean) 1 := ⟨b4_at 151 rfl rfl, wini_X8, by decide, by decide, by decide +kernel⟩
theorem wsel_X8_X8_hasRoomFor : Cond.selects RX8 yX8_hasRoomFor yX8_hasRoomFor ∈ lw_big := b4_at 150 rfl rfl
theorem wsl_8_X8_hasRoomFor : ∀ t ∈ ([8] : List Nat), t < 13 ∧ Cond.selects (RXX t) yX8_hasRoomFor yX8_hasRoomFor ∈ lw_big := fun t ht => by simp only [List.mem_cons, List.not_mem_nil, or_false] at ht; subst ht; exact ⟨by decide, wsel_X8_X8_hasRoomFor⟩
theorem wml_X11_183 : Cond.methodLink RX11 183 yX8_hasRoomFor ∈ lw_big := b4_at 148 rfl rfl
theorem wim_X8_hasRoomFor : Cond.instanceMethod yX8_hasRoomFor ∈ lw_big := b4_at 149 rfl rfl
theorem wc_X8_append : CWd yX8_append cX8_append 2 none 1 := ⟨b4_at 155 rfl rfl, wini_X8, by decide, by decide, by decide +kernel⟩
theorem wsel_X8_X8_append : Cond.selects RX8 yX8_append yX8_append ∈ lw_big := b4_at 154 rfl rfl
theorem wsl_8_X8_append : ∀ t ∈ ([8] : List Nat), t < 13 ∧ Cond.selects (RXX t) yX8_append yX8_append ∈ lw_big := fun t ht => by simp only [List.mem_cons, List.not_mem_nil, or_false] at ht; subst ht; exact ⟨by decide, wsel_X8_X8_append⟩
theorem wml_X11_188 : Cond.methodLink RX11 188 yX8_append ∈ lw_big := b4_at 152 rfl rfl
theorem wim_X8_append : Cond.instanceMethod yX8_append ∈ lw_big := b4_at 153 rfl rfl
theorem wml_X0_3 : Cond.methodLink RX0 3 Lib.objectInit ∈ lw_big := b2_at 83 rfl rfl
theorem wfl_X0_9 : Cond.fieldLink RX0 9 RX0 "number" "I" ∈ lw_big := b2_at 92 rfl rfl
theorem fl_X0_9 : FLk RX0 9 [0, 1, 2, 9] 0 0 true := FLk.mk0 _ _ _ wfl_X0_9 (by decide +kernel)
theorem wfl_X0_15 : Cond.fieldLink RX0 15 RX0 "kind" "I" ∈ lw_big := b2_at 97 rfl rfl
theorem fl_X0_15 : FLk RX0 15 [0, 1, 2, 9] 1 0 true := FLk.mk0 _ _ _ wfl_X0_15 (by decide +kernel)
theorem wini_X0 : Cond.initialized RX0 ∈ lw_big := b1_at 16 rfl rfl
theorem wc_X0_init : CWd yX0_init cX0_init 3 none 2 := ⟨b2_at 82 rfl rfl, wini_X0, by decide, by decide, by decide +kernel⟩
theorem wml_X2_3 : Cond.methodLink RX2 3 yX0_init ∈ lw_big := b2_at 80 rfl rfl
theorem wim_X0_init : Cond.instanceMethod yX0_init ∈ lw_big := b2_at 81 rfl rfl
theorem wfl_X2_15 : Cond.fieldLink RX2 15 RX2 "home" "I" ∈ lw_big := b2_at 84 rfl rfl
theorem fl_X2_15 : FLk RX2 15 [2] 2 0 true := FLk.mk0 _ _ _ wfl_X2_15 (by decide +kernel)
theorem wfl_X2_18 : Cond.fieldLink RX2 18 RX2 "since" "I" ∈ lw_big := b2_at 87 rfl rfl
theorem fl_X2_18 : FLk RX2 18 [2] 3 0 true := FLk.mk0 _ _ _ wfl_X2_18 (by decide +kernel)
theorem wfl_X3_43 : Cond.fieldLink RX3 43 RX0 "number" "I" ∈ lw_big := b2_at 93 rfl rfl
theorem fl_X3_43 : FLk RX3 43 [0, 1, 2, 9] 0 0 true := FLk.mk0 _ _ _ wfl_X3_43 (by decide +kernel)
theorem wc_X11_isCell : CWd yX11_isCell cX11_isCell 1 (some .boolean) 1 := ⟨b2_at 65 rfl rfl, wini_X11, by decide, by decide, by decide +kernel⟩
theorem wml_X11_56 : Cond.methodLink RX11 56 yX11_isCell ∈ lw_big := b2_at 63 rfl rfl
theorem wst_X11_isCell : Cond.static yX11_isCell ∈ lw_big := b2_at 64 rfl rfl
theorem wc_X3_isFull : CWd yX3_isFull cX3_isFull 1 (some .boolean) 0 := ⟨b2_at 74 rfl rfl, wini_X3, by decide, by decide, by decide +kernel⟩
theorem wsel_X3_X3_isFull : Cond.selects RX3 yX3_isFull yX3_isFull ∈ lw_big := b2_at 73 rfl rfl
theorem wsl_3_X3_isFull : ∀ t ∈ ([3] : List Nat), t < 13 ∧ Cond.selects (RXX t) yX3_isFull yX3_isFull ∈ lw_big := fun t ht => by simp only [List.mem_cons, List.not_mem_nil, or_false] at ht; subst ht; exact ⟨by decide, wsel_X3_X3_isFull⟩
theorem wml_X11_64 : Cond.methodLink RX11 64 yX3_isFull ∈ lw_big := b2_at 71 rfl rfl
theorem wim_X3_isFull : Cond.instanceMethod yX3_isFull ∈ lw_big := b2_at 72 rfl rfl
theorem wcl_X11_85 : Cond.classLink RX11 85 RX2 ∈ lw_big := b2_at 75 rfl rfl
theorem wins_X2 : Cond.instantiable RX2 5 ∈ lw_big := b2_at 76 rfl rfl
theorem wc_X2_init : CWd yX2_init cX2_init 4 none 3 := ⟨b2_at 79 rfl rfl, wini_X2, by decide, by decide, by decide +kernel⟩
theorem wml_X11_87 : Cond.methodLink RX11 87 yX2_init ∈ lw_big := b2_at 77 rfl rfl
theorem wim_X2_init : Cond.instanceMethod yX2_init ∈ lw_big := b2_at 78 rfl rfl
theorem wc_X3_enter : CWd yX3_enter cX3_enter 2 (some .int) 1 := ⟨b2_at 115 rfl rfl, wini_X3, by decide, by decide, by decide +kernel⟩
theorem wsel_X3_X3_enter : Cond.selects RX3 yX3_enter yX3_enter ∈ lw_big := b2_at 114 rfl rfl
theorem wsl_3_X3_enter : ∀ t ∈ ([3] : List Nat), t < 13 ∧ Cond.selects (RXX t) yX3_enter yX3_enter ∈ lw_big := fun t ht => by simp only [List.mem_cons, List.not_mem_nil, or_false] at ht; subst ht; exact ⟨by decide, wsel_X3_X3_enter⟩
theorem wml_X11_81 : Cond.methodLink RX11 81 yX3_enter ∈ lw_big := b2_at 112 rfl rfl
theorem wim_X3_enter : Cond.instanceMethod yX3_enter ∈ lw_big := b2_at 113 rfl rfl
theorem wc_X11_isKindOfBox : CWd yX11_isKindOfBox cX11_isKindOfBox 1 (some .boolean) 1 := ⟨b2_at 135 rfl rfl, wini_X11, by decide, by decide, by decide +kernel⟩
theorem wml_X11_493 : Cond.methodLink RX11 493 yX11_isKindOfBox ∈ lw_big := b2_at 133 rfl rfl
theorem wst_X11_isKindOfBox : Cond.static yX11_isKindOfBox ∈ lw_big := b2_at 134 rfl rfl
theorem wml_X5_3 : Cond.methodLink RX5 3 Lib.objectInit ∈ lw_big := b3_at 9 rfl rfl
theorem wfl_X5_11 : Cond.fieldLink RX5 11 RX5 "sorts" "[I" ∈ lw_big := b3_at 10 rfl rfl
theorem fl_X5_11 : FLk RX5 11 [5] 3 2 true := FLk.mk0 _ _ _ wfl_X5_11 (by decide +kernel)
theorem wfl_X5_15 : Cond.fieldLink RX5 15 RX5 "firsts" "[I" ∈ lw_big := b3_at 11 rfl rfl
theorem fl_X5_15 : FLk RX5 15 [5] 4 2 true := FLk.mk0 _ _ _ wfl_X5_15 (by decide +kernel)
theorem wfl_X5_18 : Cond.fieldLink RX5 18 RX5 "seconds" "[I" ∈ lw_big := b3_at 12 rfl rfl
theorem fl_X5_18 : FLk RX5 18 [5] 5 2 true := FLk.mk0 _ _ _ wfl_X5_18 (by decide +kernel)
theorem wfl_X5_21 : Cond.fieldLink RX5 21 RX5 "numbers" "[I" ∈ lw_big := b3_at 13 rfl rfl
theorem fl_X5_21 : FLk RX5 21 [5] 6 2 true := FLk.mk0 _ _ _ wfl_X5_21 (by decide +kernel)
theorem wfl_X5_24 : Cond.fieldLink RX5 24 RX5 "lasts" "[I" ∈ lw_big := b3_at 14 rfl rfl
theorem fl_X5_24 : FLk RX5 24 [5] 7 2 true := FLk.mk0 _ _ _ wfl_X5_24 (by decide +kernel)
theorem wfl_X5_27 : Cond.fieldLink RX5 27 RX5 "x" "I" ∈ lw_big := b3_at 15 rfl rfl
theorem fl_X5_27 : FLk RX5 27 [5] 10 0 false := FLk.mk0 _ _ _ wfl_X5_27 (by decide +kernel)
theorem wfl_X5_31 : Cond.fieldLink RX5 31 RX5 "y" "I" ∈ lw_big := b3_at 16 rfl rfl
theorem fl_X5_31 : FLk RX5 31 [5] 11 0 false := FLk.mk0 _ _ _ wfl_X5_31 (by decide +kernel)
theorem wfl_X5_34 : Cond.fieldLink RX5 34 RX5 "digits" "[I" ∈ lw_big := b3_at 17 rfl rfl
theorem fl_X5_34 : FLk RX5 34 [5] 12 2 true := FLk.mk0 _ _ _ wfl_X5_34 (by decide +kernel)
theorem wml_X1_3 : Cond.methodLink RX1 3 yX0_init ∈ lw_big := b3_at 3 rfl rfl
theorem wfl_X1_9 : Cond.fieldLink RX1 9 RX1 "steps" "[I" ∈ lw_big := b3_at 53 rfl rfl
theorem fl_X1_9 : FLk RX1 9 [1] 4 2 true := FLk.mk0 _ _ _ wfl_X1_9 (by decide +kernel)
theorem wfl_X1_15 : Cond.fieldLink RX1 15 RX1 "names" "[I" ∈ lw_big := b3_at 55 rfl rfl
theorem fl_X1_15 : FLk RX1 15 [1] 5 2 true := FLk.mk0 _ _ _ wfl_X1_15 (by decide +kernel)
theorem wfl_X1_18 : Cond.fieldLink RX1 18 RX1 "askers" "[I" ∈ lw_big := b3_at 56 rfl rfl
theorem fl_X1_18 : FLk RX1 18 [1] 6 2 true := FLk.mk0 _ _ _ wfl_X1_18 (by decide +kernel)
theorem wfl_X1_25 : Cond.fieldLink RX1 25 RX1 "latestFound" "I" ∈ lw_big := b3_at 74 rfl rfl
theorem fl_X1_25 : FLk RX1 25 [1] 14 0 false := FLk.mk0 _ _ _ wfl_X1_25 (by decide +kernel)
theorem wfl_X1_28 : Cond.fieldLink RX1 28 RX1 "lookedAt" "I" ∈ lw_big := b3_at 76 rfl rfl
theorem fl_X1_28 : FLk RX1 28 [1] 18 0 false := FLk.mk0 _ _ _ wfl_X1_28 (by decide +kernel)
theorem wfl_X1_31 : Cond.fieldLink RX1 31 RX1 "keeper" "I" ∈ lw_big := b3_at 58 rfl rfl
theorem fl_X1_31 : FLk RX1 31 [1] 8 0 false := FLk.mk0 _ _ _ wfl_X1_31 (by decide +kernel)
theorem wfl_X1_34 : Cond.fieldLink RX1 34 RX1 "cell" "I" ∈ lw_big := b3_at 62 rfl rfl
theorem fl_X1_34 : FLk RX1 34 [1] 9 0 false := FLk.mk0 _ _ _ wfl_X1_34 (by decide +kernel)
theorem wfl_X1_37 : Cond.fieldLink RX1 37 RX1 "hiddenAtCell" "I" ∈ lw_big := b3_at 52 rfl rfl
theorem fl_X1_37 : FLk RX1 37 [1] 3 0 true := FLk.mk0 _ _ _ wfl_X1_37 (by decide +kernel)
theorem wfl_X1_40 : Cond.fieldLink RX1 40 RX1 "hiddenOn" "I" ∈ lw_big := b3_at 49 rfl rfl
theorem fl_X1_40 : FLk RX1 40 [1] 2 0 true := FLk.mk0 _ _ _ wfl_X1_40 (by decide +kernel)
theorem wfl_X1_48 : Cond.fieldLink RX1 48 RX1 "riddle" "LHillBoxes$Riddle;" ∈ lw_big := b3_at 57 rfl rfl
theorem fl_X1_48 : FLk RX1 48 [1] 7 2 true := FLk.mk0 _ _ _ wfl_X1_48 (by decide +kernel)
theorem wcl_X1_43 : Cond.classLink RX1 43 RX5 ∈ lw_big := b3_at 4 rfl rfl
theorem wins_X5 : Cond.instantiable RX5 15 ∈ lw_big := b3_at 5 rfl rfl
theorem wini_X5 : Cond.initialized RX5 ∈ lw_big := b1_at 19 rfl rfl
theorem wc_X5_init : CWd yX5_init cX5_init 1 none 0 := ⟨b3_at 8 rfl rfl, wini_X5, by decide, by decide, by decide +kernel⟩
theorem wmn_X1_45 : Cond.methodLinkNest RX1 45 yX5_init "HillBoxes" ∈ xtraW := xtra_at 486 (by decide +kernel) rfl
theorem wim_X5_init : Cond.instanceMethod yX5_init ∈ lw_big := b3_at 7 rfl rfl
theorem wfl_X1_52 : Cond.fieldLink RX1 52 RX1 "stepCount" "I" ∈ lw_big := b3_at 65 rfl rfl
theorem fl_X1_52 : FLk RX1 52 [1] 10 0 false := FLk.mk0 _ _ _ wfl_X1_52 (by decide +kernel)
theorem wfl_X6_45 : Cond.fieldLink RX6 45 RX6 "made" "I" ∈ lw_big := b1_at 128 rfl rfl
theorem fl_X6_45 : FLk RX6 45 [6] 1 0 false := FLk.mk0 _ _ _ wfl_X6_45 (by decide +kernel)
theorem wml_X11_488 : Cond.methodLink RX11 488 Lib.Math.abs.name ∈ lw_big := b2_at 182 rfl rfl
theorem wst_mabs : Cond.static Lib.Math.abs.name ∈ lw_big := b2_at 183 rfl rfl
theorem wini_math : Cond.initialized "java/lang/Math" ∈ lw_big := b1_at 9 rfl rfl
theorem wcd_mabs : Cond.code Lib.Math.abs.name Lib.Math.abs.code 1 (some .int) ∈ lw_big := b2_at 184 rfl rfl
theorem wfl_X1_58 : Cond.fieldLink RX1 58 RX1 "nameCount" "I" ∈ lw_big := b3_at 75 rfl rfl
theorem fl_X1_58 : FLk RX1 58 [1] 15 0 false := FLk.mk0 _ _ _ wfl_X1_58 (by decide +kernel)
theorem wml_X3_52 : Cond.methodLink RX3 52 yX3_boxAt ∈ lw_big := b2_at 174 rfl rfl
theorem wfl_X3_56 : Cond.fieldLink RX3 56 RX1 "keeper" "I" ∈ lw_big := b3_at 59 rfl rfl
theorem fl_X3_56 : FLk RX3 56 [1] 8 0 false := FLk.mk0 _ _ _ wfl_X3_56 (by decide +kernel)
theorem wfl_X3_59 : Cond.fieldLink RX3 59 RX1 "downOn" "I" ∈ lw_big := b3_at 68 rfl rfl
theorem fl_X3_59 : FLk RX3 59 [1] 11 0 false := FLk.mk0 _ _ _ wfl_X3_59 (by decide +kernel)
theorem wfl_X6_67 : Cond.fieldLink RX6 67 RX6 "askedFinder" "LHillBoxes$Finder;" ∈ lw_big := b1_at 139 rfl rfl
theorem fl_X6_67 : FLk RX6 67 [6] 11 2 false := FLk.mk0 _ _ _ wfl_X6_67 (by decide +kernel)
theorem wfl_X6_71 : Cond.fieldLink RX6 71 RX6 "askedBox" "LHillBoxes$Box;" ∈ lw_big := b1_at 140 rfl rfl
theorem fl_X6_71 : FLk RX6 71 [6] 12 2 false := FLk.mk0 _ _ _ wfl_X6_71 (by decide +kernel)
theorem wfl_X6_64 : Cond.fieldLink RX6 64 RX6 "askedDay" "I" ∈ lw_big := b1_at 138 rfl rfl
theorem fl_X6_64 : FLk RX6 64 [6] 10 0 false := FLk.mk0 _ _ _ wfl_X6_64 (by decide +kernel)
theorem wfl_X6_80 : Cond.fieldLink RX6 80 RX6 "askedKind" "I" ∈ lw_big := b1_at 141 rfl rfl
theorem fl_X6_80 : FLk RX6 80 [6] 13 0 false := FLk.mk0 _ _ _ wfl_X6_80 (by decide +kernel)
theorem wfl_X6_186 : Cond.fieldLink RX6 186 RX2 "number" "I" ∈ lw_big := b2_at 96 rfl rfl
theorem wsf_X2_number : Cond.sameField RX2 RX0 "number" "I" ∈ lw_big := b2_at 95 rfl rfl
theorem fl_X6_186 : FLk RX6 186 [2] 0 0 true := FLk.mk1 _ _ _ _ wfl_X6_186 wsf_X2_number (by decide +kernel)
theorem wc_X3_ownOf : CWd yX3_ownOf cX3_ownOf 5 (some .int) 1 := ⟨b2_at 173 rfl rfl, wini_X3, by decide, by decide, by decide +kernel⟩
theorem wsel_X3_X3_ownOf : Cond.selects RX3 yX3_ownOf yX3_ownOf ∈ lw_big := b2_at 172 rfl rfl
theorem wsl_3_X3_ownOf : ∀ t ∈ ([3] : List Nat), t < 13 ∧ Cond.selects (RXX t) yX3_ownOf yX3_ownOf ∈ lw_big := fun t ht => by simp only [List.mem_cons, List.not_mem_nil, or_false] at ht; subst ht; exact ⟨by decide, wsel_X3_X3_ownOf⟩
theorem wml_X6_189 : Cond.methodLink RX6 189 yX3_ownOf ∈ lw_big := b2_at 170 rfl rfl
theorem wim_X3_ownOf : Cond.instanceMethod yX3_ownOf ∈ lw_big := b2_at 171 rfl rfl
theorem wfl_X6_192 : Cond.fieldLink RX6 192 RX2 "since" "I" ∈ lw_big := b2_at 88 rfl rfl
theorem fl_X6_192 : FLk RX6 192 [2] 3 0 true := FLk.mk0 _ _ _ wfl_X6_192 (by decide +kernel)
theorem wfl_X6_195 : Cond.fieldLink RX6 195 RX1 "hiddenOn" "I" ∈ lw_big := b3_at 50 rfl rfl
theorem fl_X6_195 : FLk RX6 195 [1] 2 0 true := FLk.mk0 _ _ _ wfl_X6_195 (by decide +kernel)
theorem wfl_X6_198 : Cond.fieldLink RX6 198 RX1 "finds" "I" ∈ lw_big := b3_at 70 rfl rfl
theorem fl_X6_198 : FLk RX6 198 [1] 12 0 false := FLk.mk0 _ _ _ wfl_X6_198 (by decide +kernel)
theorem wfl_X6_201 : Cond.fieldLink RX6 201 RX1 "misses" "I" ∈ lw_big := b3_at 72 rfl rfl
theorem fl_X6_201 : FLk RX6 201 [1] 13 0 false := FLk.mk0 _ _ _ wfl_X6_201 (by decide +kernel)
theorem wfl_X6_89 : Cond.fieldLink RX6 89 RX6 "askedHour" "I" ∈ lw_big := b1_at 143 rfl rfl
theorem fl_X6_89 : FLk RX6 89 [6] 15 0 false := FLk.mk0 _ _ _ wfl_X6_89 (by decide +kernel)
theorem wfl_X6_86 : Cond.fieldLink RX6 86 RX6 "askedCell" "I" ∈ lw_big := b1_at 142 rfl rfl
theorem fl_X6_86 : FLk RX6 86 [6] 14 0 false := FLk.mk0 _ _ _ wfl_X6_86 (by decide +kernel)
theorem wfl_X6_204 : Cond.fieldLink RX6 204 RX2 "home" "I" ∈ lw_big := b2_at 85 rfl rfl
theorem fl_X6_204 : FLk RX6 204 [2] 2 0 true := FLk.mk0 _ _ _ wfl_X6_204 (by decide +kernel)
theorem wc_X11_far : CWd yX11_far cX11_far 2 (some .int) 2 := ⟨b2_at 181 rfl rfl, wini_X11, by decide, by decide, by decide +kernel⟩
theorem wmn_X6_169 : Cond.methodLinkNest RX6 169 yX11_far "HillBoxes" ∈ xtraW := xtra_at 419 (by decide +kernel) rfl
theorem wst_X11_far : Cond.static yX11_far ∈ lw_big := b2_at 180 rfl rfl
theorem wc_X1_isOnPaper : CWd yX1_isOnPaper cX1_isOnPaper 3 (some .boolean) 1 := ⟨b2_at 188 rfl rfl, wini_X1, by decide, by decide, by decide +kernel⟩
theorem wsel_X1_X1_isOnPaper : Cond.selects RX1 yX1_isOnPaper yX1_isOnPaper ∈ lw_big := b2_at 187 rfl rfl
theorem wsl_1_X1_isOnPaper : ∀ t ∈ ([1] : List Nat), t < 13 ∧ Cond.selects (RXX t) yX1_isOnPaper yX1_isOnPaper ∈ lw_big := fun t ht => by simp only [List.mem_cons, List.not_mem_nil, or_false] at ht; subst ht; exact ⟨by decide, wsel_X1_X1_isOnPaper⟩
theorem wml_X6_207 : Cond.methodLink RX6 207 yX1_isOnPaper ∈ lw_big := b2_at 185 rfl rfl
theorem wim_X1_isOnPaper : Cond.instanceMethod yX1_isOnPaper ∈ lw_big := b2_at 186 rfl rfl
theorem wfl_X6_211 : Cond.fieldLink RX6 211 RX1 "keeper" "I" ∈ lw_big := b3_at 60 rfl rfl
theorem fl_X6_211 : FLk RX6 211 [1] 8 0 false := FLk.mk0 _ _ _ wfl_X6_211 (by decide +kernel)
theorem wc_X6_push : CWd yX6_push cX6_push 3 (some .int) 2 := ⟨b2_at 192 rfl rfl, wini_X6, by decide, by decide, by decide +kernel⟩
theorem wsel_X6_X6_push : Cond.selects RX6 yX6_push yX6_push ∈ lw_big := big_sel 3 rfl rfl
theorem wsl_6_X6_push : ∀ t ∈ ([6] : List Nat), t < 13 ∧ Cond.selects (RXX t) yX6_push yX6_push ∈ lw_big := fun t ht => by simp only [List.mem_cons, List.not_mem_nil, or_false] at ht; subst ht; exact ⟨by decide, wsel_X6_X6_push⟩
theorem wml_X6_177 : Cond.methodLink RX6 177 yX6_push ∈ lw_big := b2_at 189 rfl rfl
theorem wim_X6_push : Cond.instanceMethod yX6_push ∈ lw_big := b2_at 191 rfl rfl
theorem wc_X6_read : CWd yX6_read cX6_read 2 (some .int) 1 := ⟨b2_at 196 rfl rfl, wini_X6, by decide, by decide, by decide +kernel⟩
theorem wsel_X6_X6_read : Cond.selects RX6 yX6_read yX6_read ∈ lw_big := big_sel 4 rfl rfl
theorem wsl_6_X6_read : ∀ t ∈ ([6] : List Nat), t < 13 ∧ Cond.selects (RXX t) yX6_read yX6_read ∈ lw_big := fun t ht => by simp only [List.mem_cons, List.not_mem_nil, or_false] at ht; subst ht; exact ⟨by decide, wsel_X6_X6_read⟩
theorem wml_X6_180 : Cond.methodLink RX6 180 yX6_read ∈ lw_big := b2_at 193 rfl rfl
theorem wim_X6_read : Cond.instanceMethod yX6_read ∈ lw_big := b2_at 195 rfl rfl
theorem wc_X6_ofTwo : CWd yX6_ofTwo cX6_ofTwo 3 (some .int) 3 := ⟨b2_at 199 rfl rfl, wini_X6, by decide, by decide, by decide +kernel⟩
theorem wml_X6_183 : Cond.methodLink RX6 183 yX6_ofTwo ∈ lw_big := b2_at 197 rfl rfl
theorem wst_X6_ofTwo : Cond.static yX6_ofTwo ∈ lw_big := b2_at 198 rfl rfl
theorem wc_X6_numberOf : CWd yX6_numberOf cX6_numberOf 4 (some .int) 1 := ⟨b2_at 169 rfl rfl, wini_X6, by decide, by decide, by decide +kernel⟩
theorem wsel_X6_X6_numberOf : Cond.selects RX6 yX6_numberOf yX6_numberOf ∈ lw_big := big_sel 2 rfl rfl
theorem wsl_6_X6_numberOf : ∀ t ∈ ([6] : List Nat), t < 13 ∧ Cond.selects (RXX t) yX6_numberOf yX6_numberOf ∈ lw_big := fun t ht => by simp only [List.mem_cons, List.not_mem_nil, or_false] at ht; subst ht; exact ⟨by decide, wsel_X6_X6_numberOf⟩
theorem wml_X6_174 : Cond.methodLink RX6 174 yX6_numberOf ∈ lw_big := b2_at 166 rfl rfl
theorem wim_X6_numberOf : Cond.instanceMethod yX6_numberOf ∈ lw_big := b2_at 168 rfl rfl
theorem wfl_X6_55 : Cond.fieldLink RX6 55 RX3 "today" "I" ∈ lw_big := b1_at 39 rfl rfl
theorem fl_X6_55 : FLk RX6 55 [3] 0 0 false := FLk.mk0 _ _ _ wfl_X6_55 (by decide +kernel)
theorem wc_X6_ruleFor : CWd yX6_ruleFor cX6_ruleFor 5 (some .int) 3 := ⟨b2_at 159 rfl rfl, wini_X6, by decide, by decide, by decide +kernel⟩
theorem wsel_X6_X6_ruleFor : Cond.selects RX6 yX6_ruleFor yX6_ruleFor ∈ lw_big := b2_at 158 rfl rfl
theorem wsl_6_X6_ruleFor : ∀ t ∈ ([6] : List Nat), t < 13 ∧ Cond.selects (RXX t) yX6_ruleFor yX6_ruleFor ∈ lw_big := fun t ht => by simp only [List.mem_cons, List.not_mem_nil, or_false] at ht; subst ht; exact ⟨by decide, wsel_X6_X6_ruleFor⟩
theorem wml_X6_92 : Cond.methodLink RX6 92 yX6_ruleFor ∈ lw_big := b2_at 156 rfl rfl
theorem wim_X6_ruleFor : Cond.instanceMethod yX6_ruleFor ∈ lw_big := b2_at 157 rfl rfl
theorem wc_X6_work : CWd yX6_work cX6_work 9 (some .int) 1 := ⟨b2_at 165 rfl rfl, wini_X6, by decide, by decide, by decide +kernel⟩
theorem wsel_X6_X6_work : Cond.selects RX6 yX6_work yX6_work ∈ lw_big := big_sel 1 rfl rfl
theorem wsl_6_X6_work : ∀ t ∈ ([6] : List Nat), t < 13 ∧ Cond.selects (RXX t) yX6_work yX6_work ∈ lw_big := fun t ht => by simp only [List.mem_cons, List.not_mem_nil, or_false] at ht; subst ht; exact ⟨by decide, wsel_X6_X6_work⟩
theorem wml_X6_99 : Cond.methodLink RX6 99 yX6_work ∈ lw_big := b2_at 162 rfl rfl
theorem wim_X6_work : Cond.instanceMethod yX6_work ∈ lw_big := b2_at 164 rfl rfl
theorem wml_X6_103 : Cond.methodLink RX6 103 Lib.Math.min.name ∈ lw_big := b2_at 200 rfl rfl
theorem wst_mmin : Cond.static Lib.Math.min.name ∈ lw_big := b2_at 201 rfl rfl
theorem wcd_mmin : Cond.code Lib.Math.min.name Lib.Math.min.code 2 (some .int) ∈ lw_big := b2_at 202 rfl rfl
theorem wml_X6_109 : Cond.methodLink RX6 109 Lib.Math.max.name ∈ lw_big := b2_at 203 rfl rfl
theorem wst_mmax : Cond.static Lib.Math.max.name ∈ lw_big := b2_at 204 rfl rfl
theorem wcd_mmax : Cond.code Lib.Math.max.name Lib.Math.max.code 2 (some .int) ∈ lw_big := b2_at 205 rfl rfl
theorem wfl_X6_96 : Cond.fieldLink RX6 96 "HillBoxes$Rules" "UNRULED" "[I" ∈ lw_big := b2_at 160 rfl rfl
theorem wfl_X6_83 : Cond.fieldLink RX6 83 RX1 "cell" "I" ∈ lw_big := b3_at 63 rfl rfl
theorem fl_X6_83 : FLk RX6 83 [1] 9 0 false := FLk.mk0 _ _ _ wfl_X6_83 (by decide +kernel)
theorem wfl_X6_75 : Cond.fieldLink RX6 75 RX1 "kind" "I" ∈ lw_big := b2_at 98 rfl rfl
theorem wsf_X1_kind : Cond.sameField RX1 RX0 "kind" "I" ∈ lw_big := b2_at 99 rfl rfl
theorem fl_X6_75 : FLk RX6 75 [1] 1 0 true := FLk.mk1 _ _ _ _ wfl_X6_75 wsf_X1_kind (by decide +kernel)
theorem wfl_X6_160 : Cond.fieldLink RX6 160 RX3 "size" "I" ∈ lw_big := b1_at 47 rfl rfl
theorem fl_X6_160 : FLk RX6 160 [3] 3 0 false := FLk.mk0 _ _ _ wfl_X6_160 (by decide +kernel)
theorem wml_X6_127 : Cond.methodLink RX6 127 yX3_boxAt ∈ lw_big := b2_at 218 rfl rfl
theorem wml_X6_163 : Cond.methodLink RX6 163 yX1_isDown ∈ lw_big := b2_at 219 rfl rfl
theorem wc_X1_liesNow : CWd yX1_liesNow cX1_liesNow 1 (some .int) 0 := ⟨b2_at 226 rfl rfl, wini_X1, by decide, by decide, by decide +kernel⟩
theorem wsel_X1_X1_liesNow : Cond.selects RX1 yX1_liesNow yX1_liesNow ∈ lw_big := b2_at 225 rfl rfl
theorem wsl_1_X1_liesNow : ∀ t ∈ ([1] : List Nat), t < 13 ∧ Cond.selects (RXX t) yX1_liesNow yX1_liesNow ∈ lw_big := fun t ht => by simp only [List.mem_cons, List.not_mem_nil, or_false] at ht; subst ht; exact ⟨by decide, wsel_X1_X1_liesNow⟩
theorem wml_X6_166 : Cond.methodLink RX6 166 yX1_liesNow ∈ lw_big := b2_at 223 rfl rfl
theorem wim_X1_liesNow : Cond.instanceMethod yX1_liesNow ∈ lw_big := b2_at 224 rfl rfl
theorem wfl_X6_172 : Cond.fieldLink RX6 172 RX1 "stepCount" "I" ∈ lw_big := b3_at 66 rfl rfl
theorem fl_X6_172 : FLk RX6 172 [1] 10 0 false := FLk.mk0 _ _ _ wfl_X6_172 (by decide +kernel)
theorem wfl_X6_173 : Cond.fieldLink RX6 173 RX1 "steps" "[I" ∈ lw_big := b3_at 54 rfl rfl
theorem fl_X6_173 : FLk RX6 173 [1] 4 2 true := FLk.mk0 _ _ _ wfl_X6_173 (by decide +kernel)
theorem wfl_X6_157 : Cond.fieldLink RX6 157 RX3 "owners" "[I" ∈ lw_big := b1_at 43 rfl rfl
theorem fl_X6_157 : FLk RX6 157 [3] 1 2 true := FLk.mk0 _ _ _ wfl_X6_157 (by decide +kernel)
theorem wc_X6_askForKind : CWd yX6_askForKind cX6_askForKind 5 none 4 := ⟨b2_at 151 rfl rfl, wini_X6, by decide, by decide, by decide +kernel⟩
theorem wsel_X6_X6_askForKind : Cond.selects RX6 yX6_askForKind yX6_askForKind ∈ lw_big := b2_at 150 rfl rfl
theorem wsl_6_X6_askForKind : ∀ t ∈ ([6] : List Nat), t < 13 ∧ Cond.selects (RXX t) yX6_askForKind yX6_askForKind ∈ lw_big := fun t ht => by simp only [List.mem_cons, List.not_mem_nil, or_false] at ht; subst ht; exact ⟨by decide, wsel_X6_X6_askForKind⟩
theorem wml_X6_112 : Cond.methodLink RX6 112 yX6_askForKind ∈ lw_big := b2_at 148 rfl rfl
theorem wim_X6_askForKind : Cond.instanceMethod yX6_askForKind ∈ lw_big := b2_at 149 rfl rfl
theorem wc_X6_answer : CWd yX6_answer cX6_answer 5 (some .int) 2 := ⟨b2_at 155 rfl rfl, wini_X6, by decide, by decide, by decide +kernel⟩
theorem wsel_X6_X6_answer : Cond.selects RX6 yX6_answer yX6_answer ∈ lw_big := b2_at 154 rfl rfl
theorem wsl_6_X6_answer : ∀ t ∈ ([6] : List Nat), t < 13 ∧ Cond.selects (RXX t) yX6_answer yX6_answer ∈ lw_big := fun t ht => by simp only [List.mem_cons, List.not_mem_nil, or_false] at ht; subst ht; exact ⟨by decide, wsel_X6_X6_answer⟩
theorem wml_X6_116 : Cond.methodLink RX6 116 yX6_answer ∈ lw_big := b2_at 152 rfl rfl
theorem wim_X6_answer : Cond.instanceMethod yX6_answer ∈ lw_big := b2_at 153 rfl rfl
theorem wfl_X6_147 : Cond.fieldLink RX6 147 RX3 "steps" "[I" ∈ lw_big := b1_at 50 rfl rfl
theorem fl_X6_147 : FLk RX6 147 [3] 4 2 true := FLk.mk0 _ _ _ wfl_X6_147 (by decide +kernel)
theorem wfl_X6_144 : Cond.fieldLink RX6 144 RX3 "stepCount" "I" ∈ lw_big := b1_at 52 rfl rfl
theorem fl_X6_144 : FLk RX6 144 [3] 5 0 false := FLk.mk0 _ _ _ wfl_X6_144 (by decide +kernel)
theorem wml_X6_131 : Cond.methodLink RX6 131 yX2_hasLeft ∈ lw_big := b2_at 140 rfl rfl
theorem wc_X6_letsHide : CWd yX6_letsHide cX6_letsHide 4 (some .boolean) 3 := ⟨b2_at 147 rfl rfl, wini_X6, by decide, by decide, by decide +kernel⟩
theorem wsel_X6_X6_letsHide : Cond.selects RX6 yX6_letsHide yX6_letsHide ∈ lw_big := b2_at 146 rfl rfl
theorem wsl_6_X6_letsHide : ∀ t ∈ ([6] : List Nat), t < 13 ∧ Cond.selects (RXX t) yX6_letsHide yX6_letsHide ∈ lw_big := fun t ht => by simp only [List.mem_cons, List.not_mem_nil, or_false] at ht; subst ht; exact ⟨by decide, wsel_X6_X6_letsHide⟩
theorem wml_X6_137 : Cond.methodLink RX6 137 yX6_letsHide ∈ lw_big := b2_at 144 rfl rfl
theorem wim_X6_letsHide : Cond.instanceMethod yX6_letsHide ∈ lw_big := b2_at 145 rfl rfl
theorem wc_X6_leavesLet : CWd yX6_leavesLet cX6_leavesLet 8 (some .boolean) 3 := ⟨b2_at 209 rfl rfl, wini_X6, by decide, by decide, by decide +kernel⟩
theorem wsel_X6_X6_leavesLet : Cond.selects RX6 yX6_leavesLet yX6_leavesLet ∈ lw_big := big_sel 5 rfl rfl
theorem wsl_6_X6_leavesLet : ∀ t ∈ ([6] : List Nat), t < 13 ∧ Cond.selects (RXX t) yX6_leavesLet yX6_leavesLet ∈ lw_big := fun t ht => by simp only [List.mem_cons, List.not_mem_nil, or_false] at ht; subst ht; exact ⟨by decide, wsel_X6_X6_leavesLet⟩
theorem wml_X6_141 : Cond.methodLink RX6 141 yX6_leavesLet ∈ lw_big := b2_at 206 rfl rfl
theorem wim_X6_leavesLet : Cond.instanceMethod yX6_leavesLet ∈ lw_big := b2_at 208 rfl rfl
theorem wc_X6_askForBox : CWd yX6_askForBox cX6_askForBox 5 none 4 := ⟨b2_at 213 rfl rfl, wini_X6, by decide, by decide, by decide +kernel⟩
theorem wsel_X6_X6_askForBox : Cond.selects RX6 yX6_askForBox yX6_askForBox ∈ lw_big := b2_at 212 rfl rfl
theorem wsl_6_X6_askForBox : ∀ t ∈ ([6] : List Nat), t < 13 ∧ Cond.selects (RXX t) yX6_askForBox yX6_askForBox ∈ lw_big := fun t ht => by simp only [List.mem_cons, List.not_mem_nil, or_false] at ht; subst ht; exact ⟨by decide, wsel_X6_X6_askForBox⟩
theorem wml_X6_119 : Cond.methodLink RX6 119 yX6_askForBox ∈ lw_big := b2_at 210 rfl rfl
theorem wim_X6_askForBox : Cond.instanceMethod yX6_askForBox ∈ lw_big := b2_at 211 rfl rfl
theorem wc_X6_isNearKnown : CWd yX6_isNearKnown cX6_isNearKnown 5 (some .boolean) 2 := ⟨b2_at 217 rfl rfl, wini_X6, by decide, by decide, by decide +kernel⟩
theorem wsel_X6_X6_isNearKnown : Cond.selects RX6 yX6_isNearKnown yX6_isNearKnown ∈ lw_big := big_sel 6 rfl rfl
theorem wsl_6_X6_isNearKnown : ∀ t ∈ ([6] : List Nat), t < 13 ∧ Cond.selects (RXX t) yX6_isNearKnown yX6_isNearKnown ∈ lw_big := fun t ht => by simp only [List.mem_cons, List.not_mem_nil, or_false] at ht; subst ht; exact ⟨by decide, wsel_X6_X6_isNearKnown⟩
theorem wml_X6_150 : Cond.methodLink RX6 150 yX6_isNearKnown ∈ lw_big := b2_at 214 rfl rfl
theorem wim_X6_isNearKnown : Cond.instanceMethod yX6_isNearKnown ∈ lw_big := b2_at 216 rfl rfl
theorem wc_X6_isNearSecret : CWd yX6_isNearSecret cX6_isNearSecret 6 (some .boolean) 2 := ⟨b2_at 230 rfl rfl, wini_X6, by decide, by decide, by decide +kernel⟩
theorem wsel_X6_X6_isNearSecret : Cond.selects RX6 yX6_isNearSecret yX6_isNearSecret ∈ lw_big := big_sel 7 rfl rfl
theorem wsl_6_X6_isNearSecret : ∀ t ∈ ([6] : List Nat), t < 13 ∧ Cond.selects (RXX t) yX6_isNearSecret yX6_isNearSecret ∈ lw_big := fun t ht => by simp only [List.mem_cons, List.not_mem_nil, or_false] at ht; subst ht; exact ⟨by decide, wsel_X6_X6_isNearSecret⟩
theorem wml_X6_154 : Cond.methodLink RX6 154 yX6_isNearSecret ∈ lw_big := b2_at 227 rfl rfl
theorem wim_X6_isNearSecret : Cond.instanceMethod yX6_isNearSecret ∈ lw_big := b2_at 229 rfl rfl
theorem wc_X11_mayBeAsked : CWd yX11_mayBeAsked cX11_mayBeAsked 3 (some .boolean) 2 := ⟨b2_at 132 rfl rfl, wini_X11, by decide, by decide, by decide +kernel⟩
theorem wsel_X11_X11_mayBeAsked : Cond.selects RX11 yX11_mayBeAsked yX11_mayBeAsked ∈ lw_big := big_sel 0 rfl rfl
theorem wsl_11_X11_mayBeAsked : ∀ t ∈ ([11] : List Nat), t < 13 ∧ Cond.selects (RXX t) yX11_mayBeAsked yX11_mayBeAsked ∈ lw_big := fun t ht => by simp only [List.mem_cons, List.not_mem_nil, or_false] at ht; subst ht; exact ⟨by decide, wsel_X11_X11_mayBeAsked⟩
theorem wml_X11_106 : Cond.methodLink RX11 106 yX11_mayBeAsked ∈ lw_big := b2_at 129 rfl rfl
theorem wim_X11_mayBeAsked : Cond.instanceMethod yX11_mayBeAsked ∈ lw_big := b2_at 131 rfl rfl
theorem wc_X6_whyNot : CWd yX6_whyNot cX6_whyNot 7 (some .int) 3 := ⟨b2_at 139 rfl rfl, wini_X6, by decide, by decide, by decide +kernel⟩
theorem wsel_X6_X6_whyNot : Cond.selects RX6 yX6_whyNot yX6_whyNot ∈ lw_big := b2_at 138 rfl rfl
theorem wsl_6_X6_whyNot : ∀ t ∈ ([6] : List Nat), t < 13 ∧ Cond.selects (RXX t) yX6_whyNot yX6_whyNot ∈ lw_big := fun t ht => by simp only [List.mem_cons, List.not_mem_nil, or_false] at ht; subst ht; exact ⟨by decide, wsel_X6_X6_whyNot⟩
theorem wml_X11_110 : Cond.methodLink RX11 110 yX6_whyNot ∈ lw_big := b2_at 136 rfl rfl
theorem wim_X6_whyNot : Cond.instanceMethod yX6_whyNot ∈ lw_big := b2_at 137 rfl rfl
theorem wcl_X11_118 : Cond.classLink RX11 118 RX1 ∈ lw_big := b2_at 238 rfl rfl
theorem wins_X1 : Cond.instantiable RX1 19 ∈ lw_big := b2_at 239 rfl rfl
theorem wfl_X11_120 : Cond.fieldLink RX11 120 RX2 "number" "I" ∈ lw_big := b2_at 94 rfl rfl
theorem fl_X11_120 : FLk RX11 120 [2] 0 0 true := FLk.mk1 _ _ _ _ wfl_X11_120 wsf_X2_number (by decide +kernel)
theorem wc_X1_init : CWd yX1_init cX1_init 6 none 5 := ⟨b3_at 2 rfl rfl, wini_X1, by decide, by decide, by decide +kernel⟩
theorem wml_X11_123 : Cond.methodLink RX11 123 yX1_init ∈ lw_big := b3_at 0 rfl rfl
theorem wim_X1_init : Cond.instanceMethod yX1_init ∈ lw_big := b3_at 1 rfl rfl
theorem wfl_X11_103 : Cond.fieldLink RX11 103 RX3 "steps" "[I" ∈ lw_big := b1_at 49 rfl rfl
theorem fl_X11_103 : FLk RX11 103 [3] 4 2 true := FLk.mk0 _ _ _ wfl_X11_103 (by decide +kernel)
theorem wc_X1_takeSteps : CWd yX1_takeSteps cX1_takeSteps 4 none 2 := ⟨b3_at 117 rfl rfl, wini_X1, by decide, by decide, by decide +kernel⟩
theorem wsel_X1_X1_takeSteps : Cond.selects RX1 yX1_takeSteps yX1_takeSteps ∈ lw_big := b3_at 116 rfl rfl
theorem wsl_1_X1_takeSteps : ∀ t ∈ ([1] : List Nat), t < 13 ∧ Cond.selects (RXX t) yX1_takeSteps yX1_takeSteps ∈ lw_big := fun t ht => by simp only [List.mem_cons, List.not_mem_nil, or_false] at ht; subst ht; exact ⟨by decide, wsel_X1_X1_takeSteps⟩
theorem wml_X11_126 : Cond.methodLink RX11 126 yX1_takeSteps ∈ lw_big := b3_at 114 rfl rfl
theorem wim_X1_takeSteps : Cond.instanceMethod yX1_takeSteps ∈ lw_big := b3_at 115 rfl rfl
theorem wc_X11_asToldToTheAsker : CWd yX11_asToldToTheAsker cX11_asToldToTheAsker 1 (some .int) 1 := ⟨b2_at 233 rfl rfl, wini_X11, by decide, by decide, by decide +kernel⟩
theorem wml_X11_114 : Cond.methodLink RX11 114 yX11_asToldToTheAsker ∈ lw_big := b2_at 231 rfl rfl
theorem wst_X11_asToldToTheAsker : Cond.static yX11_asToldToTheAsker ∈ lw_big := b2_at 232 rfl rfl
theorem wfl_X11_274 : Cond.fieldLink RX11 274 RX1 "keeper" "I" ∈ lw_big := b3_at 61 rfl rfl
theorem fl_X11_274 : FLk RX11 274 [1] 8 0 false := FLk.mk0 _ _ _ wfl_X11_274 (by decide +kernel)
theorem wfl_X11_228 : Cond.fieldLink RX11 228 RX1 "cell" "I" ∈ lw_big := b3_at 64 rfl rfl
theorem fl_X11_228 : FLk RX11 228 [1] 9 0 false := FLk.mk0 _ _ _ wfl_X11_228 (by decide +kernel)
theorem wfl_X11_505 : Cond.fieldLink RX11 505 RX1 "hiddenOn" "I" ∈ lw_big := b3_at 51 rfl rfl
theorem fl_X11_505 : FLk RX11 505 [1] 2 0 true := FLk.mk0 _ _ _ wfl_X11_505 (by decide +kernel)
theorem wml_X11_508 : Cond.methodLink RX11 508 yX1_liesNow ∈ lw_big := b3_at 140 rfl rfl
theorem wfl_X11_410 : Cond.fieldLink RX11 410 RX1 "finds" "I" ∈ lw_big := b3_at 71 rfl rfl
theorem fl_X11_410 : FLk RX11 410 [1] 12 0 false := FLk.mk0 _ _ _ wfl_X11_410 (by decide +kernel)
theorem wfl_X11_322 : Cond.fieldLink RX11 322 RX1 "misses" "I" ∈ lw_big := b3_at 73 rfl rfl
theorem fl_X11_322 : FLk RX11 322 [1] 13 0 false := FLk.mk0 _ _ _ wfl_X11_322 (by decide +kernel)
theorem wk_X11_60 : Cond.constant RX11 60 (-2000000000) ∈ lw_big := b2_at 66 rfl rfl
theorem wfl_X11_496 : Cond.fieldLink RX11 496 RX2 "home" "I" ∈ lw_big := b2_at 86 rfl rfl
theorem fl_X11_496 : FLk RX11 496 [2] 2 0 true := FLk.mk0 _ _ _ wfl_X11_496 (by decide +kernel)
theorem wfl_X11_499 : Cond.fieldLink RX11 499 RX2 "since" "I" ∈ lw_big := b2_at 89 rfl rfl
theorem fl_X11_499 : FLk RX11 499 [2] 3 0 true := FLk.mk0 _ _ _ wfl_X11_499 (by decide +kernel)
theorem wfl_X11_97 : Cond.fieldLink RX11 97 RX2 "leftOn" "I" ∈ lw_big := b2_at 91 rfl rfl
theorem fl_X11_97 : FLk RX11 97 [2] 4 0 false := FLk.mk0 _ _ _ wfl_X11_97 (by decide +kernel)
theorem wml_X11_502 : Cond.methodLink RX11 502 yX3_ownOf ∈ lw_big := b3_at 136 rfl rfl
theorem wfl_X4_130 : Cond.fieldLink RX4 130 RX9 "told" "I" ∈ lw_big := b4_at 171 rfl rfl
theorem fl_X4_130 : FLk RX4 130 [9] 4 0 false := FLk.mk0 _ _ _ wfl_X4_130 (by decide +kernel)
theorem wfl_X4_135 : Cond.fieldLink RX4 135 RX9 "left" "[Z" ∈ lw_big := b4_at 172 rfl rfl
theorem fl_X4_135 : FLk RX4 135 [9] 3 2 true := FLk.mk0 _ _ _ wfl_X4_135 (by decide +kernel)
theorem wfl_X4_138 : Cond.fieldLink RX4 138 RX9 "logs" "[I" ∈ lw_big := b4_at 173 rfl rfl
theorem fl_X4_138 : FLk RX4 138 [9] 2 2 true := FLk.mk0 _ _ _ wfl_X4_138 (by decide +kernel)
theorem wfl_X11_344 : Cond.fieldLink RX11 344 RX9 "told" "I" ∈ lw_big := b4_at 170 rfl rfl
theorem fl_X11_344 : FLk RX11 344 [9] 4 0 false := FLk.mk0 _ _ _ wfl_X11_344 (by decide +kernel)
theorem wc_X4_whereAfter : CWd yX4_whereAfter cX4_whereAfter 3 (some .int) 2 := ⟨b3_at 149 rfl rfl, wini_X4, by decide, by decide, by decide +kernel⟩
theorem wsel_X4_X4_whereAfter : Cond.selects RX4 yX4_whereAfter yX4_whereAfter ∈ lw_big := b3_at 148 rfl rfl
theorem wsl_4_X4_whereAfter : ∀ t ∈ ([4] : List Nat), t < 13 ∧ Cond.selects (RXX t) yX4_whereAfter yX4_whereAfter ∈ lw_big := fun t ht => by simp only [List.mem_cons, List.not_mem_nil, or_false] at ht; subst ht; exact ⟨by decide, wsel_X4_X4_whereAfter⟩
theorem wml_X11_511 : Cond.methodLink RX11 511 yX4_whereAfter ∈ lw_big := b3_at 146 rfl rfl
theorem wim_X4_whereAfter : Cond.instanceMethod yX4_whereAfter ∈ lw_big := b3_at 147 rfl rfl
theorem wc_X3_bodyAt : CWd yX3_bodyAt cX3_bodyAt 2 (some (.object "HillBoxes$Body")) 1 := ⟨b3_at 131 rfl rfl, wini_X3, by decide, by decide, by decide +kernel⟩
theorem wsel_X3_X3_bodyAt : Cond.selects RX3 yX3_bodyAt yX3_bodyAt ∈ lw_big := b3_at 130 rfl rfl
theorem wsl_3_X3_bodyAt : ∀ t ∈ ([3] : List Nat), t < 13 ∧ Cond.selects (RXX t) yX3_bodyAt yX3_bodyAt ∈ lw_big := fun t ht => by simp only [List.mem_cons, List.not_mem_nil, or_false] at ht; subst ht; exact ⟨by decide, wsel_X3_X3_bodyAt⟩
theorem wml_X11_156 : Cond.methodLink RX11 156 yX3_bodyAt ∈ lw_big := b3_at 128 rfl rfl
theorem wim_X3_bodyAt : Cond.instanceMethod yX3_bodyAt ∈ lw_big := b3_at 129 rfl rfl
theorem wcl_X11_68 : Cond.classLink RX11 68 RX9 ∈ lw_big := b3_at 141 rfl rfl
theorem wc_X11_ofThing : CWd yX11_ofThing cX11_ofThing 3 (some .int) 2 := ⟨b3_at 145 rfl rfl, wini_X11, by decide, by decide, by decide +kernel⟩
theorem wsel_X11_X11_ofThing : Cond.selects RX11 yX11_ofThing yX11_ofThing ∈ lw_big := big_sel 9 rfl rfl
theorem wsl_11_X11_ofThing : ∀ t ∈ ([11] : List Nat), t < 13 ∧ Cond.selects (RXX t) yX11_ofThing yX11_ofThing ∈ lw_big := fun t ht => by simp only [List.mem_cons, List.not_mem_nil, or_false] at ht; subst ht; exact ⟨by decide, wsel_X11_X11_ofThing⟩
theorem wml_X11_169 : Cond.methodLink RX11 169 yX11_ofThing ∈ lw_big := b3_at 142 rfl rfl
theorem wim_X11_ofThing : Cond.instanceMethod yX11_ofThing ∈ lw_big := b3_at 144 rfl rfl
theorem wc_X11_ofBox : CWd yX11_ofBox cX11_ofBox 2 (some .int) 2 := ⟨b3_at 139 rfl rfl, wini_X11, by decide, by decide, by decide +kernel⟩
theorem wml_X11_165 : Cond.methodLink RX11 165 yX11_ofBox ∈ lw_big := b3_at 137 rfl rfl
theorem wst_X11_ofBox : Cond.static yX11_ofBox ∈ lw_big := b3_at 138 rfl rfl
theorem wc_X11_ofFinder : CWd yX11_ofFinder cX11_ofFinder 3 (some .int) 2 := ⟨b3_at 135 rfl rfl, wini_X11, by decide, by decide, by decide +kernel⟩
theorem wsel_X11_X11_ofFinder : Cond.selects RX11 yX11_ofFinder yX11_ofFinder ∈ lw_big := big_sel 8 rfl rfl
theorem wsl_11_X11_ofFinder : ∀ t ∈ ([11] : List Nat), t < 13 ∧ Cond.selects (RXX t) yX11_ofFinder yX11_ofFinder ∈ lw_big := fun t ht => by simp only [List.mem_cons, List.not_mem_nil, or_false] at ht; subst ht; exact ⟨by decide, wsel_X11_X11_ofFinder⟩
theorem wml_X11_161 : Cond.methodLink RX11 161 yX11_ofFinder ∈ lw_big := b3_at 132 rfl rfl
theorem wim_X11_ofFinder : Cond.instanceMethod yX11_ofFinder ∈ lw_big := b3_at 134 rfl rfl
theorem wfl_X11_160 : Cond.fieldLink RX11 160 RX0 "kind" "I" ∈ lw_big := b2_at 100 rfl rfl
theorem fl_X11_160 : FLk RX11 160 [0, 1, 2, 9] 1 0 true := FLk.mk0 _ _ _ wfl_X11_160 (by decide +kernel)
theorem wfl_X11_61 : Cond.fieldLink RX11 61 RX3 "owners" "[I" ∈ lw_big := b1_at 42 rfl rfl
theorem fl_X11_61 : FLk RX11 61 [3] 1 2 true := FLk.mk0 _ _ _ wfl_X11_61 (by decide +kernel)
theorem wfl_X8_44 : Cond.fieldLink RX8 44 RX8 "tokenNumber" "I" ∈ lw_big := b1_at 99 rfl rfl
theorem fl_X8_44 : FLk RX8 44 [8] 7 0 false := FLk.mk0 _ _ _ wfl_X8_44 (by decide +kernel)
theorem wfl_X8_47 : Cond.fieldLink RX8 47 RX8 "token" "I" ∈ lw_big := b1_at 98 rfl rfl
theorem fl_X8_47 : FLk RX8 47 [8] 6 0 false := FLk.mk0 _ _ _ wfl_X8_47 (by decide +kernel)
theorem wfl_X8_41 : Cond.fieldLink RX8 41 RX8 "fault" "I" ∈ lw_big := b1_at 100 rfl rfl
theorem fl_X8_41 : FLk RX8 41 [8] 8 0 false := FLk.mk0 _ _ _ wfl_X8_41 (by decide +kernel)
theorem wfl_X8_29 : Cond.fieldLink RX8 29 RX8 "codeLength" "I" ∈ lw_big := b1_at 102 rfl rfl
theorem fl_X8_29 : FLk RX8 29 [8] 10 0 false := FLk.mk0 _ _ _ wfl_X8_29 (by decide +kernel)
theorem wc_X8_blame : CWd yX8_blame cX8_blame 1 none 0 := ⟨b4_at 98 rfl rfl, wini_X8, by decide, by decide, by decide +kernel⟩
theorem wsel_X8_X8_blame : Cond.selects RX8 yX8_blame yX8_blame ∈ lw_big := big_sel 23 rfl rfl
theorem wsl_8_X8_blame : ∀ t ∈ ([8] : List Nat), t < 13 ∧ Cond.selects (RXX t) yX8_blame yX8_blame ∈ lw_big := fun t ht => by simp only [List.mem_cons, List.not_mem_nil, or_false] at ht; subst ht; exact ⟨by decide, wsel_X8_X8_blame⟩
theorem wml_X8_56 : Cond.methodLink RX8 56 yX8_blame ∈ lw_big := b4_at 95 rfl rfl
theorem wim_X8_blame : Cond.instanceMethod yX8_blame ∈ lw_big := b4_at 97 rfl rfl
theorem wc_X8_advance : CWd yX8_advance cX8_advance 1 none 0 := ⟨b4_at 78 rfl rfl, wini_X8, by decide, by decide, by decide +kernel⟩
theorem wsel_X8_X8_advance : Cond.selects RX8 yX8_advance yX8_advance ∈ lw_big := big_sel 18 rfl rfl
theorem wsl_8_X8_advance : ∀ t ∈ ([8] : List Nat), t < 13 ∧ Cond.selects (RXX t) yX8_advance yX8_advance ∈ lw_big := fun t ht => by simp only [List.mem_cons, List.not_mem_nil, or_false] at ht; subst ht; exact ⟨by decide, wsel_X8_X8_advance⟩
theorem wml_X8_53 : Cond.methodLink RX8 53 yX8_advance ∈ lw_big := b4_at 75 rfl rfl
theorem wim_X8_advance : Cond.instanceMethod yX8_advance ∈ lw_big := b4_at 77 rfl rfl
theorem wc_X8_readDenied : CWd yX8_readDenied cX8_readDenied 5 none 1 := ⟨b4_at 90 rfl rfl, wini_X8, by decide, by decide, by decide +kernel⟩
theorem wsel_X8_X8_readDenied : Cond.selects RX8 yX8_readDenied yX8_readDenied ∈ lw_big := big_sel 21 rfl rfl
theorem wsl_8_X8_readDenied : ∀ t ∈ ([8] : List Nat), t < 13 ∧ Cond.selects (RXX t) yX8_readDenied yX8_readDenied ∈ lw_big := fun t ht => by simp only [List.mem_cons, List.not_mem_nil, or_false] at ht; subst ht; exact ⟨by decide, wsel_X8_X8_readDenied⟩
theorem wml_X8_72 : Cond.methodLink RX8 72 yX8_readDenied ∈ lw_big := b4_at 87 rfl rfl
theorem wim_X8_readDenied : Cond.instanceMethod yX8_readDenied ∈ lw_big := b4_at 89 rfl rfl
theorem wc_X8_emit : CWd yX8_emit cX8_emit 2 none 1 := ⟨b4_at 114 rfl rfl, wini_X8, by decide, by decide, by decide +kernel⟩
theorem wsel_X8_X8_emit : Cond.selects RX8 yX8_emit yX8_emit ∈ lw_big := big_sel 27 rfl rfl
theorem wsl_8_X8_emit : ∀ t ∈ ([8] : List Nat), t < 13 ∧ Cond.selects (RXX t) yX8_emit yX8_emit ∈ lw_big := fun t ht => by simp only [List.mem_cons, List.not_mem_nil, or_false] at ht; subst ht; exact ⟨by decide, wsel_X8_X8_emit⟩
theorem wml_X8_63 : Cond.methodLink RX8 63 yX8_emit ∈ lw_big := b4_at 111 rfl rfl
theorem wim_X8_emit : Cond.instanceMethod yX8_emit ∈ lw_big := b4_at 113 rfl rfl
theorem wc_X8_readSum : CWd yX8_readSum cX8_readSum 4 none 1 := ⟨b4_at 102 rfl rfl, wini_X8, by decide, by decide, by decide +kernel⟩
theorem wsel_X8_X8_readSum : Cond.selects RX8 yX8_readSum yX8_readSum ∈ lw_big := big_sel 24 rfl rfl
theorem wsl_8_X8_readSum : ∀ t ∈ ([8] : List Nat), t < 13 ∧ Cond.selects (RXX t) yX8_readSum yX8_readSum ∈ lw_big := fun t ht => by simp only [List.mem_cons, List.not_mem_nil, or_false] at ht; subst ht; exact ⟨by decide, wsel_X8_X8_readSum⟩
theorem wml_X8_79 : Cond.methodLink RX8 79 yX8_readSum ∈ lw_big := b4_at 99 rfl rfl
theorem wim_X8_readSum : Cond.instanceMethod yX8_readSum ∈ lw_big := b4_at 101 rfl rfl
theorem wc_X8_mayOpen : CWd yX8_mayOpen cX8_mayOpen 2 (some .boolean) 1 := ⟨b4_at 94 rfl rfl, wini_X8, by decide, by decide, by decide +kernel⟩
theorem wsel_X8_X8_mayOpen : Cond.selects RX8 yX8_mayOpen yX8_mayOpen ∈ lw_big := big_sel 22 rfl rfl
theorem wsl_8_X8_mayOpen : ∀ t ∈ ([8] : List Nat), t < 13 ∧ Cond.selects (RXX t) yX8_mayOpen yX8_mayOpen ∈ lw_big := fun t ht => by simp only [List.mem_cons, List.not_mem_nil, or_false] at ht; subst ht; exact ⟨by decide, wsel_X8_X8_mayOpen⟩
theorem wml_X8_75 : Cond.methodLink RX8 75 yX8_mayOpen ∈ lw_big := b4_at 91 rfl rfl
theorem wim_X8_mayOpen : Cond.instanceMethod yX8_mayOpen ∈ lw_big := b4_at 93 rfl rfl
theorem wc_X8_readBoth : CWd yX8_readBoth cX8_readBoth 3 none 1 := ⟨b4_at 86 rfl rfl, wini_X8, by decide, by decide, by decide +kernel⟩
theorem wsel_X8_X8_readBoth : Cond.selects RX8 yX8_readBoth yX8_readBoth ∈ lw_big := big_sel 20 rfl rfl
theorem wsl_8_X8_readBoth : ∀ t ∈ ([8] : List Nat), t < 13 ∧ Cond.selects (RXX t) yX8_readBoth yX8_readBoth ∈ lw_big := fun t ht => by simp only [List.mem_cons, List.not_mem_nil, or_false] at ht; subst ht; exact ⟨by decide, wsel_X8_X8_readBoth⟩
theorem wml_X8_69 : Cond.methodLink RX8 69 yX8_readBoth ∈ lw_big := b4_at 83 rfl rfl
theorem wim_X8_readBoth : Cond.instanceMethod yX8_readBoth ∈ lw_big := b4_at 85 rfl rfl
theorem wc_X8_readEither : CWd yX8_readEither cX8_readEither 3 none 1 := ⟨b4_at 82 rfl rfl, wini_X8, by decide, by decide, by decide +kernel⟩
theorem wsel_X8_X8_readEither : Cond.selects RX8 yX8_readEither yX8_readEither ∈ lw_big := big_sel 19 rfl rfl
theorem wsl_8_X8_readEither : ∀ t ∈ ([8] : List Nat), t < 13 ∧ Cond.selects (RXX t) yX8_readEither yX8_readEither ∈ lw_big := fun t ht => by simp only [List.mem_cons, List.not_mem_nil, or_false] at ht; subst ht; exact ⟨by decide, wsel_X8_X8_readEither⟩
theorem wml_X8_59 : Cond.methodLink RX8 59 yX8_readEither ∈ lw_big := b4_at 79 rfl rfl
theorem wim_X8_readEither : Cond.instanceMethod yX8_readEither ∈ lw_big := b4_at 81 rfl rfl
theorem wc_X8_expect : CWd yX8_expect cX8_expect 2 none 1 := ⟨b4_at 118 rfl rfl, wini_X8, by decide, by decide, by decide +kernel⟩
theorem wsel_X8_X8_expect : Cond.selects RX8 yX8_expect yX8_expect ∈ lw_big := big_sel 28 rfl rfl
theorem wsl_8_X8_expect : ∀ t ∈ ([8] : List Nat), t < 13 ∧ Cond.selects (RXX t) yX8_expect yX8_expect ∈ lw_big := fun t ht => by simp only [List.mem_cons, List.not_mem_nil, or_false] at ht; subst ht; exact ⟨by decide, wsel_X8_X8_expect⟩
theorem wml_X8_66 : Cond.methodLink RX8 66 yX8_expect ∈ lw_big := b4_at 115 rfl rfl
theorem wim_X8_expect : Cond.instanceMethod yX8_expect ∈ lw_big := b4_at 117 rfl rfl
theorem wc_X8_readOne : CWd yX8_readOne cX8_readOne 4 none 1 := ⟨b4_at 110 rfl rfl, wini_X8, by decide, by decide, by decide +kernel⟩
theorem wsel_X8_X8_readOne : Cond.selects RX8 yX8_readOne yX8_readOne ∈ lw_big := big_sel 26 rfl rfl
theorem wsl_8_X8_readOne : ∀ t ∈ ([8] : List Nat), t < 13 ∧ Cond.selects (RXX t) yX8_readOne yX8_readOne ∈ lw_big := fun t ht => by simp only [List.mem_cons, List.not_mem_nil, or_false] at ht; subst ht; exact ⟨by decide, wsel_X8_X8_readOne⟩
theorem wml_X8_85 : Cond.methodLink RX8 85 yX8_readOne ∈ lw_big := b4_at 107 rfl rfl
theorem wim_X8_readOne : Cond.instanceMethod yX8_readOne ∈ lw_big := b4_at 109 rfl rfl
theorem wc_X8_readProduct : CWd yX8_readProduct cX8_readProduct 4 none 1 := ⟨b4_at 106 rfl rfl, wini_X8, by decide, by decide, by decide +kernel⟩
theorem wsel_X8_X8_readProduct : Cond.selects RX8 yX8_readProduct yX8_readProduct ∈ lw_big := big_sel 25 rfl rfl
theorem wsl_8_X8_readProduct : ∀ t ∈ ([8] : List Nat), t < 13 ∧ Cond.selects (RXX t) yX8_readProduct yX8_readProduct ∈ lw_big := fun t ht => by simp only [List.mem_cons, List.not_mem_nil, or_false] at ht; subst ht; exact ⟨by decide, wsel_X8_X8_readProduct⟩
theorem wml_X8_82 : Cond.methodLink RX8 82 yX8_readProduct ∈ lw_big := b4_at 103 rfl rfl
theorem wim_X8_readProduct : Cond.instanceMethod yX8_readProduct ∈ lw_big := b4_at 105 rfl rfl
theorem wfl_X8_88 : Cond.fieldLink RX8 88 RX8 "at" "I" ∈ lw_big := b1_at 97 rfl rfl
theorem fl_X8_88 : FLk RX8 88 [8] 5 0 false := FLk.mk0 _ _ _ wfl_X8_88 (by decide +kernel)
theorem wc_X8_byteAt : CWd yX8_byteAt cX8_byteAt 2 (some .int) 1 := ⟨b3_at 183 rfl rfl, wini_X8, by decide, by decide, by decide +kernel⟩
theorem wsel_X8_X8_byteAt : Cond.selects RX8 yX8_byteAt yX8_byteAt ∈ lw_big := big_sel 12 rfl rfl
theorem wsl_8_X8_byteAt : ∀ t ∈ ([8] : List Nat), t < 13 ∧ Cond.selects (RXX t) yX8_byteAt yX8_byteAt ∈ lw_big := fun t ht => by simp only [List.mem_cons, List.not_mem_nil, or_false] at ht; subst ht; exact ⟨by decide, wsel_X8_X8_byteAt⟩
theorem wml_X8_94 : Cond.methodLink RX8 94 yX8_byteAt ∈ lw_big := b3_at 180 rfl rfl
theorem wim_X8_byteAt : Cond.instanceMethod yX8_byteAt ∈ lw_big := b3_at 182 rfl rfl
theorem wc_X8_isDigit : CWd yX8_isDigit cX8_isDigit 1 (some .boolean) 1 := ⟨b4_at 10 rfl rfl, wini_X8, by decide, by decide, by decide +kernel⟩
theorem wml_X8_104 : Cond.methodLink RX8 104 yX8_isDigit ∈ lw_big := b4_at 8 rfl rfl
theorem wst_X8_isDigit : Cond.static yX8_isDigit ∈ lw_big := b4_at 9 rfl rfl
theorem wml_X8_123 : Cond.methodLink RX8 123 ⟨"java/lang/String", "length", "()I"⟩ ∈ lw_big := b3_at 196 rfl rfl
theorem wml_X8_126 : Cond.methodLink RX8 126 ⟨"java/lang/String", "charAt", "(I)C"⟩ ∈ lw_big := b3_at 206 rfl rfl
theorem wc_X8_isWord : CWd yX8_isWord cX8_isWord 5 (some .boolean) 3 := ⟨b4_at 7 rfl rfl, wini_X8, by decide, by decide, by decide +kernel⟩
theorem wsel_X8_X8_isWord : Cond.selects RX8 yX8_isWord yX8_isWord ∈ lw_big := big_sel 15 rfl rfl
theorem wsl_8_X8_isWord : ∀ t ∈ ([8] : List Nat), t < 13 ∧ Cond.selects (RXX t) yX8_isWord yX8_isWord ∈ lw_big := fun t ht => by simp only [List.mem_cons, List.not_mem_nil, or_false] at ht; subst ht; exact ⟨by decide, wsel_X8_X8_isWord⟩
theorem wml_X8_130 : Cond.methodLink RX8 130 yX8_isWord ∈ lw_big := b4_at 4 rfl rfl
theorem wim_X8_isWord : Cond.instanceMethod yX8_isWord ∈ lw_big := b4_at 6 rfl rfl
theorem wc_X8_wordNumber : CWd yX8_wordNumber cX8_wordNumber 6 (some .int) 2 := ⟨b3_at 194 rfl rfl, wini_X8, by decide, by decide, by decide +kernel⟩
theorem wsel_X8_X8_wordNumber : Cond.selects RX8 yX8_wordNumber yX8_wordNumber ∈ lw_big := big_sel 14 rfl rfl
theorem wsl_8_X8_wordNumber : ∀ t ∈ ([8] : List Nat), t < 13 ∧ Cond.selects (RXX t) yX8_wordNumber yX8_wordNumber ∈ lw_big := fun t ht => by simp only [List.mem_cons, List.not_mem_nil, or_false] at ht; subst ht; exact ⟨by decide, wsel_X8_X8_wordNumber⟩
theorem wml_X8_117 : Cond.methodLink RX8 117 yX8_wordNumber ∈ lw_big := b3_at 191 rfl rfl
theorem wim_X8_wordNumber : Cond.instanceMethod yX8_wordNumber ∈ lw_big := b3_at 193 rfl rfl
theorem wc_X8_isLetter : CWd yX8_isLetter cX8_isLetter 1 (some .boolean) 1 := ⟨b3_at 186 rfl rfl, wini_X8, by decide, by decide, by decide +kernel⟩
theorem wml_X8_98 : Cond.methodLink RX8 98 yX8_isLetter ∈ lw_big := b3_at 184 rfl rfl
theorem wst_X8_isLetter : Cond.static yX8_isLetter ∈ lw_big := b3_at 185 rfl rfl
theorem wc_X8_skipBlanks : CWd yX8_skipBlanks cX8_skipBlanks 2 none 0 := ⟨b3_at 179 rfl rfl, wini_X8, by decide, by decide, by decide +kernel⟩
theorem wsel_X8_X8_skipBlanks : Cond.selects RX8 yX8_skipBlanks yX8_skipBlanks ∈ lw_big := big_sel 11 rfl rfl
theorem wsl_8_X8_skipBlanks : ∀ t ∈ ([8] : List Nat), t < 13 ∧ Cond.selects (RXX t) yX8_skipBlanks yX8_skipBlanks ∈ lw_big := fun t ht => by simp only [List.mem_cons, List.not_mem_nil, or_false] at ht; subst ht; exact ⟨by decide, wsel_X8_X8_skipBlanks⟩
theorem wml_X8_91 : Cond.methodLink RX8 91 yX8_skipBlanks ∈ lw_big := b3_at 176 rfl rfl
theorem wim_X8_skipBlanks : Cond.instanceMethod yX8_skipBlanks ∈ lw_big := b3_at 178 rfl rfl
theorem wml_X8_112 : Cond.methodLink RX8 112 ⟨"java/lang/String", "indexOf", "(I)I"⟩ ∈ lw_big := b4_at 16 rfl rfl
theorem wc_X8_readNumber : CWd yX8_readNumber cX8_readNumber 4 none 1 := ⟨b4_at 14 rfl rfl, wini_X8, by decide, by decide, by decide +kernel⟩
theorem wsel_X8_X8_readNumber : Cond.selects RX8 yX8_readNumber yX8_readNumber ∈ lw_big := big_sel 16 rfl rfl
theorem wsl_8_X8_readNumber : ∀ t ∈ ([8] : List Nat), t < 13 ∧ Cond.selects (RXX t) yX8_readNumber yX8_readNumber ∈ lw_big := fun t ht => by simp only [List.mem_cons, List.not_mem_nil, or_false] at ht; subst ht; exact ⟨by decide, wsel_X8_X8_readNumber⟩
theorem wml_X8_107 : Cond.methodLink RX8 107 yX8_readNumber ∈ lw_big := b4_at 11 rfl rfl
theorem wim_X8_readNumber : Cond.instanceMethod yX8_readNumber ∈ lw_big := b4_at 13 rfl rfl
theorem wc_X8_readWord : CWd yX8_readWord cX8_readWord 3 none 1 := ⟨b3_at 190 rfl rfl, wini_X8, by decide, by decide, by decide +kernel⟩
theorem wsel_X8_X8_readWord : Cond.selects RX8 yX8_readWord yX8_readWord ∈ lw_big := big_sel 13 rfl rfl
theorem wsl_8_X8_readWord : ∀ t ∈ ([8] : List Nat), t < 13 ∧ Cond.selects (RXX t) yX8_readWord yX8_readWord ∈ lw_big := fun t ht => by simp only [List.mem_cons, List.not_mem_nil, or_false] at ht; subst ht; exact ⟨by decide, wsel_X8_X8_readWord⟩
theorem wml_X8_101 : Cond.methodLink RX8 101 yX8_readWord ∈ lw_big := b3_at 187 rfl rfl
theorem wim_X8_readWord : Cond.instanceMethod yX8_readWord ∈ lw_big := b3_at 189 rfl rfl
theorem wc_X8_splitIntoTokens : CWd yX8_splitIntoTokens cX8_splitIntoTokens 3 none 0 := ⟨b3_at 175 rfl rfl, wini_X8, by decide, by decide, by decide +kernel⟩
theorem wsel_X8_X8_splitIntoTokens : Cond.selects RX8 yX8_splitIntoTokens yX8_splitIntoTokens ∈ lw_big := big_sel 10 rfl rfl
theorem wsl_8_X8_splitIntoTokens : ∀ t ∈ ([8] : List Nat), t < 13 ∧ Cond.selects (RXX t) yX8_splitIntoTokens yX8_splitIntoTokens ∈ lw_big := fun t ht => by simp only [List.mem_cons, List.not_mem_nil, or_false] at ht; subst ht; exact ⟨by decide, wsel_X8_X8_splitIntoTokens⟩
theorem wml_X8_38 : Cond.methodLink RX8 38 yX8_splitIntoTokens ∈ lw_big := b3_at 172 rfl rfl
theorem wim_X8_splitIntoTokens : Cond.instanceMethod yX8_splitIntoTokens ∈ lw_big := b3_at 174 rfl rfl
theorem wc_X8_readLine : CWd yX8_readLine cX8_readLine 2 none 0 := ⟨b4_at 74 rfl rfl, wini_X8, by decide, by decide, by decide +kernel⟩
theorem wsel_X8_X8_readLine : Cond.selects RX8 yX8_readLine yX8_readLine ∈ lw_big := big_sel 17 rfl rfl
theorem wsl_8_X8_readLine : ∀ t ∈ ([8] : List Nat), t < 13 ∧ Cond.selects (RXX t) yX8_readLine yX8_readLine ∈ lw_big := fun t ht => by simp only [List.mem_cons, List.not_mem_nil, or_false] at ht; subst ht; exact ⟨by decide, wsel_X8_X8_readLine⟩
theorem wml_X8_50 : Cond.methodLink RX8 50 yX8_readLine ∈ lw_big := b4_at 71 rfl rfl
theorem wim_X8_readLine : Cond.instanceMethod yX8_readLine ∈ lw_big := b4_at 73 rfl rfl
theorem wml_X8_32 : Cond.methodLink RX8 32 arraycopyName ∈ lw_big := b4_at 123 rfl rfl
theorem wnat : Cond.native arraycopyName ∈ lw_big := b4_at 125 rfl rfl
theorem wst_cpy : Cond.static arraycopyName ∈ lw_big := b4_at 124 rfl rfl
theorem wini_sys : Cond.initialized "java/lang/System" ∈ lw_big := b1_at 15 rfl rfl
theorem wc_X8_compile : CWd yX8_compile cX8_compile 2 (some .int) 0 := ⟨b3_at 171 rfl rfl, wini_X8, by decide, by decide, by decide +kernel⟩
theorem wsel_X8_X8_compile : Cond.selects RX8 yX8_compile yX8_compile ∈ lw_big := b3_at 170 rfl rfl
theorem wsl_8_X8_compile : ∀ t ∈ ([8] : List Nat), t < 13 ∧ Cond.selects (RXX t) yX8_compile yX8_compile ∈ lw_big := fun t ht => by simp only [List.mem_cons, List.not_mem_nil, or_false] at ht; subst ht; exact ⟨by decide, wsel_X8_X8_compile⟩
theorem wml_X6_48 : Cond.methodLink RX6 48 yX8_compile ∈ lw_big := b3_at 168 rfl rfl
theorem wim_X8_compile : Cond.instanceMethod yX8_compile ∈ lw_big := b3_at 169 rfl rfl
theorem wfl_X6_52 : Cond.fieldLink RX6 52 RX8 "length" "I" ∈ lw_big := b1_at 91 rfl rfl
theorem fl_X6_52 : FLk RX6 52 [8] 0 0 false := FLk.mk0 _ _ _ wfl_X6_52 (by decide +kernel)
theorem wc_X8_copyCode : CWd yX8_copyCode cX8_copyCode 3 (some .int) 2 := ⟨b4_at 122 rfl rfl, wini_X8, by decide, by decide, by decide +kernel⟩
theorem wsel_X8_X8_copyCode : Cond.selects RX8 yX8_copyCode yX8_copyCode ∈ lw_big := b4_at 121 rfl rfl
theorem wsl_8_X8_copyCode : ∀ t ∈ ([8] : List Nat), t < 13 ∧ Cond.selects (RXX t) yX8_copyCode yX8_copyCode ∈ lw_big := fun t ht => by simp only [List.mem_cons, List.not_mem_nil, or_false] at ht; subst ht; exact ⟨by decide, wsel_X8_X8_copyCode⟩
theorem wml_X6_60 : Cond.methodLink RX6 60 yX8_copyCode ∈ lw_big := b4_at 119 rfl rfl
theorem wim_X8_copyCode : Cond.instanceMethod yX8_copyCode ∈ lw_big := b4_at 120 rfl rfl
theorem wc_X11_isUse : CWd yX11_isUse cX11_isUse 1 (some .boolean) 1 := ⟨b3_at 156 rfl rfl, wini_X11, by decide, by decide, by decide +kernel⟩
theorem wml_X11_194 : Cond.methodLink RX11 194 yX11_isUse ∈ lw_big := b3_at 154 rfl rfl
theorem wst_X11_isUse : Cond.static yX11_isUse ∈ lw_big := b3_at 155 rfl rfl
theorem wc_X11_isDay : CWd yX11_isDay cX11_isDay 1 (some .boolean) 1 := ⟨b3_at 159 rfl rfl, wini_X11, by decide, by decide, by decide +kernel⟩
theorem wml_X11_173 : Cond.methodLink RX11 173 yX11_isDay ∈ lw_big := b3_at 157 rfl rfl
theorem wst_X11_isDay : Cond.static yX11_isDay ∈ lw_big := b3_at 158 rfl rfl
theorem wc_X6_isFull : CWd yX6_isFull cX6_isFull 1 (some .boolean) 0 := ⟨b3_at 163 rfl rfl, wini_X6, by decide, by decide, by decide +kernel⟩
theorem wsel_X6_X6_isFull : Cond.selects RX6 yX6_isFull yX6_isFull ∈ lw_big := b3_at 162 rfl rfl
theorem wsl_6_X6_isFull : ∀ t ∈ ([6] : List Nat), t < 13 ∧ Cond.selects (RXX t) yX6_isFull yX6_isFull ∈ lw_big := fun t ht => by simp only [List.mem_cons, List.not_mem_nil, or_false] at ht; subst ht; exact ⟨by decide, wsel_X6_X6_isFull⟩
theorem wml_X11_197 : Cond.methodLink RX11 197 yX6_isFull ∈ lw_big := b3_at 160 rfl rfl
theorem wim_X6_isFull : Cond.instanceMethod yX6_isFull ∈ lw_big := b3_at 161 rfl rfl
theorem wc_X6_make : CWd yX6_make cX6_make 4 (some .int) 2 := ⟨b3_at 167 rfl rfl, wini_X6, by decide, by decide, by decide +kernel⟩
theorem wsel_X6_X6_make : Cond.selects RX6 yX6_make yX6_make ∈ lw_big := b3_at 166 rfl rfl
theorem wsl_6_X6_make : ∀ t ∈ ([6] : List Nat), t < 13 ∧ Cond.selects (RXX t) yX6_make yX6_make ∈ lw_big := fun t ht => by simp only [List.mem_cons, List.not_mem_nil, or_false] at ht; subst ht; exact ⟨by decide, wsel_X6_X6_make⟩
theorem wml_X11_198 : Cond.methodLink RX11 198 yX6_make ∈ lw_big := b3_at 164 rfl rfl
theorem wim_X6_make : Cond.instanceMethod yX6_make ∈ lw_big := b3_at 165 rfl rfl
