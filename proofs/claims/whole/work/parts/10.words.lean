/-! WORDS that the walks use, by their places in the tables; texts -/
theorem t1_in {w : Cond} (h : w ∈ tables_1_1) : w ∈ tables_1 := (List.mem_append_left _ h)
theorem b1_at {w : Cond} (i : Nat) (h : tables_1_1[i]? = some w) (hg : goodWord w = true) : w ∈ lw_big := List.mem_append_right _ (List.mem_filter.mpr ⟨List.mem_append_right _ (t1_in (List.mem_of_getElem? h)), hg⟩)
theorem x1_at {w : Cond} (i : Nat) (h : tables_1_1[i]? = some w) (hg : xtraB w = true) : w ∈ xtraW := List.mem_filter.mpr ⟨List.mem_append_right _ (t1_in (List.mem_of_getElem? h)), hg⟩
theorem t2_in {w : Cond} (h : w ∈ tables_1_2) : w ∈ tables_1 := (List.mem_append_right _ (List.mem_append_left _ h))
theorem b2_at {w : Cond} (i : Nat) (h : tables_1_2[i]? = some w) (hg : goodWord w = true) : w ∈ lw_big := List.mem_append_right _ (List.mem_filter.mpr ⟨List.mem_append_right _ (t2_in (List.mem_of_getElem? h)), hg⟩)
theorem x2_at {w : Cond} (i : Nat) (h : tables_1_2[i]? = some w) (hg : xtraB w = true) : w ∈ xtraW := List.mem_filter.mpr ⟨List.mem_append_right _ (t2_in (List.mem_of_getElem? h)), hg⟩
theorem t3_in {w : Cond} (h : w ∈ tables_1_3) : w ∈ tables_1 := (List.mem_append_right _ (List.mem_append_right _ (List.mem_append_left _ h)))
theorem b3_at {w : Cond} (i : Nat) (h : tables_1_3[i]? = some w) (hg : goodWord w = true) : w ∈ lw_big := List.mem_append_right _ (List.mem_filter.mpr ⟨List.mem_append_right _ (t3_in (List.mem_of_getElem? h)), hg⟩)
theorem x3_at {w : Cond} (i : Nat) (h : tables_1_3[i]? = some w) (hg : xtraB w = true) : w ∈ xtraW := List.mem_filter.mpr ⟨List.mem_append_right _ (t3_in (List.mem_of_getElem? h)), hg⟩
theorem t4_in {w : Cond} (h : w ∈ tables_1_4) : w ∈ tables_1 := (List.mem_append_right _ (List.mem_append_right _ (List.mem_append_right _ (List.mem_append_left _ h))))
theorem b4_at {w : Cond} (i : Nat) (h : tables_1_4[i]? = some w) (hg : goodWord w = true) : w ∈ lw_big := List.mem_append_right _ (List.mem_filter.mpr ⟨List.mem_append_right _ (t4_in (List.mem_of_getElem? h)), hg⟩)
theorem x4_at {w : Cond} (i : Nat) (h : tables_1_4[i]? = some w) (hg : xtraB w = true) : w ∈ xtraW := List.mem_filter.mpr ⟨List.mem_append_right _ (t4_in (List.mem_of_getElem? h)), hg⟩
theorem t5_in {w : Cond} (h : w ∈ tables_1_5) : w ∈ tables_1 := (List.mem_append_right _ (List.mem_append_right _ (List.mem_append_right _ (List.mem_append_right _ (List.mem_append_left _ h)))))
theorem b5_at {w : Cond} (i : Nat) (h : tables_1_5[i]? = some w) (hg : goodWord w = true) : w ∈ lw_big := List.mem_append_right _ (List.mem_filter.mpr ⟨List.mem_append_right _ (t5_in (List.mem_of_getElem? h)), hg⟩)
theorem x5_at {w : Cond} (i : Nat) (h : tables_1_5[i]? = some w) (hg : xtraB w = true) : w ∈ xtraW := List.mem_filter.mpr ⟨List.mem_append_right _ (t5_in (List.mem_of_getElem? h)), hg⟩
theorem t6_in {w : Cond} (h : w ∈ tables_1_6) : w ∈ tables_1 := (List.mem_append_right _ (List.mem_append_right _ (List.mem_append_right _ (List.mem_append_right _ (List.mem_append_right _ (List.mem_append_left _ h))))))
theorem b6_at {w : Cond} (i : Nat) (h : tables_1_6[i]? = some w) (hg : goodWord w = true) : w ∈ lw_big := List.mem_append_right _ (List.mem_filter.mpr ⟨List.mem_append_right _ (t6_in (List.mem_of_getElem? h)), hg⟩)
theorem x6_at {w : Cond} (i : Nat) (h : tables_1_6[i]? = some w) (hg : xtraB w = true) : w ∈ xtraW := List.mem_filter.mpr ⟨List.mem_append_right _ (t6_in (List.mem_of_getElem? h)), hg⟩
theorem t7_in {w : Cond} (h : w ∈ tables_1_7) : w ∈ tables_1 := (List.mem_append_right _ (List.mem_append_right _ (List.mem_append_right _ (List.mem_append_right _ (List.mem_append_right _ (List.mem_append_right _ (List.mem_append_left _ h)))))))
theorem b7_at {w : Cond} (i : Nat) (h : tables_1_7[i]? = some w) (hg : goodWord w = true) : w ∈ lw_big := List.mem_append_right _ (List.mem_filter.mpr ⟨List.mem_append_right _ (t7_in (List.mem_of_getElem? h)), hg⟩)
theorem x7_at {w : Cond} (i : Nat) (h : tables_1_7[i]? = some w) (hg : xtraB w = true) : w ∈ xtraW := List.mem_filter.mpr ⟨List.mem_append_right _ (t7_in (List.mem_of_getElem? h)), hg⟩
theorem t8_in {w : Cond} (h : w ∈ tables_1_8) : w ∈ tables_1 := (List.mem_append_right _ (List.mem_append_right _ (List.mem_append_right _ (List.mem_append_right _ (List.mem_append_right _ (List.mem_append_right _ (List.mem_append_right _ (List.mem_append_left _ h))))))))
theorem b8_at {w : Cond} (i : Nat) (h : tables_1_8[i]? = some w) (hg : goodWord w = true) : w ∈ lw_big := List.mem_append_right _ (List.mem_filter.mpr ⟨List.mem_append_right _ (t8_in (List.mem_of_getElem? h)), hg⟩)
theorem x8_at {w : Cond} (i : Nat) (h : tables_1_8[i]? = some w) (hg : xtraB w = true) : w ∈ xtraW := List.mem_filter.mpr ⟨List.mem_append_right _ (t8_in (List.mem_of_getElem? h)), hg⟩
theorem t9_in {w : Cond} (h : w ∈ tables_1_9) : w ∈ tables_1 := (List.mem_append_right _ (List.mem_append_right _ (List.mem_append_right _ (List.mem_append_right _ (List.mem_append_right _ (List.mem_append_right _ (List.mem_append_right _ (List.mem_append_right _ (List.mem_append_left _ h)))))))))
theorem b9_at {w : Cond} (i : Nat) (h : tables_1_9[i]? = some w) (hg : goodWord w = true) : w ∈ lw_big := List.mem_append_right _ (List.mem_filter.mpr ⟨List.mem_append_right _ (t9_in (List.mem_of_getElem? h)), hg⟩)
theorem x9_at {w : Cond} (i : Nat) (h : tables_1_9[i]? = some w) (hg : xtraB w = true) : w ∈ xtraW := List.mem_filter.mpr ⟨List.mem_append_right _ (t9_in (List.mem_of_getElem? h)), hg⟩
theorem t10_in {w : Cond} (h : w ∈ tables_1_10) : w ∈ tables_1 := (List.mem_append_right _ (List.mem_append_right _ (List.mem_append_right _ (List.mem_append_right _ (List.mem_append_right _ (List.mem_append_right _ (List.mem_append_right _ (List.mem_append_right _ (List.mem_append_right _ (List.mem_append_left _ h))))))))))
theorem b10_at {w : Cond} (i : Nat) (h : tables_1_10[i]? = some w) (hg : goodWord w = true) : w ∈ lw_big := List.mem_append_right _ (List.mem_filter.mpr ⟨List.mem_append_right _ (t10_in (List.mem_of_getElem? h)), hg⟩)
theorem x10_at {w : Cond} (i : Nat) (h : tables_1_10[i]? = some w) (hg : xtraB w = true) : w ∈ xtraW := List.mem_filter.mpr ⟨List.mem_append_right _ (t10_in (List.mem_of_getElem? h)), hg⟩
theorem t11_in {w : Cond} (h : w ∈ tables_1_11) : w ∈ tables_1 := (List.mem_append_right _ (List.mem_append_right _ (List.mem_append_right _ (List.mem_append_right _ (List.mem_append_right _ (List.mem_append_right _ (List.mem_append_right _ (List.mem_append_right _ (List.mem_append_right _ (List.mem_append_right _ h))))))))))
theorem b11_at {w : Cond} (i : Nat) (h : tables_1_11[i]? = some w) (hg : goodWord w = true) : w ∈ lw_big := List.mem_append_right _ (List.mem_filter.mpr ⟨List.mem_append_right _ (t11_in (List.mem_of_getElem? h)), hg⟩)
theorem x11_at {w : Cond} (i : Nat) (h : tables_1_11[i]? = some w) (hg : xtraB w = true) : w ∈ xtraW := List.mem_filter.mpr ⟨List.mem_append_right _ (t11_in (List.mem_of_getElem? h)), hg⟩
/-- the place of a byte among the signs -/
def ixS (x : Int32) : Int32 := match txS.findIdx? (fun y => y == x) with | some k => nI k | none => -1
theorem hcast {X : XT} {own : String} {cc : ByteArray} {nL : Nat} (C : CX X own cc nL) : ∀ q ∈ [1, 2, 9], va_Nw (.castable (RXX q) (RXX 0)) (xs X) := by
  intro q hq
  refine C.2.2.2.2.2.2.1.1 _ ?_
  simp only [List.mem_cons, List.not_mem_nil, or_false] at hq
  rcases hq with rfl | rfl | rfl
  · exact x11_at 5 rfl rfl
  · exact x11_at 4 rfl rfl
  · exact x11_at 3 rfl rfl
/-- a text of the tape's: its cell and its bytes' cell -/
def stT (i q : Nat) (b : Nat) (U : State) : Prop := ∃ adK adV : Nat → Nat, vk_S 2 [78, 12] [txW, txS] adK adV (fun x => b ≤ x) U U.heap ∧ q = adK i
section TEXTS
variable {X : XT} {own : String} {cc : ByteArray} {nL pc cells slots : Nat} {h : AH} {lv lv' : List (Option Value)} {st : List Value} {ρ : Type} {r : ρ}
theorem s_ldcT121 {cc : ByteArray} (C : CX X RX8 cc nL) (d : decode cc pc = .ok (.ldc 121, 2)) (kk : ∀ q : Nat, stT 0 q (xD X).1 (xs X) → WW X h cells slots (pc + 2) lv (.ref q :: st)) : WW X h cells slots pc lv st := by
  obtain ⟨⟨aK, aV, h7, h8, h9⟩, -, -⟩ := C.2.2.2.2.2.2.2.2.2.2.2.2.2.2.2
  exact fun H locs ls hR hS hl => va_ldcS C.1 C.2.1 C.2.2.2.1 h8 d (kk _ ⟨aK, aV, h7, rfl⟩ H locs ls hR hS hl)
theorem s_ldcT110 {cc : ByteArray} (C : CX X RX8 cc nL) (d : decode cc pc = .ok (.ldc 110, 2)) (kk : ∀ q : Nat, stT 1 q (xD X).1 (xs X) → WW X h cells slots (pc + 2) lv (.ref q :: st)) : WW X h cells slots pc lv st := by
  obtain ⟨⟨aK, aV, h7, h8, h9⟩, -, -⟩ := C.2.2.2.2.2.2.2.2.2.2.2.2.2.2.2
  exact fun H locs ls hR hS hl => va_ldcS C.1 C.2.1 C.2.2.2.1 h9 d (kk _ ⟨aK, aV, h7, rfl⟩ H locs ls hR hS hl)
end TEXTS
theorem wml_X3_3 : Cond.methodLink RX3 3 Lib.objectInit ∈ lw_big := b1_at 35 rfl rfl
theorem wim_obj : Cond.instanceMethod Lib.objectInit ∈ lw_big := b1_at 28 rfl rfl
theorem wcd_obj : Cond.code Lib.objectInit ⟨#[0xb1]⟩ 1 none ∈ lw_big := b1_at 29 rfl rfl
theorem wac_20 : Cond.arrayClass (aty 20) ∈ lw_big := b1_at 81 rfl rfl
theorem wfl_X3_9 : Cond.fieldLink RX3 9 RX3 "owners" "[I" ∈ lw_big := b1_at 43 rfl rfl
theorem fl_X3_9 : FLk RX3 9 [3] 1 2 true := FLk.mk0 _ _ _ wfl_X3_9 (by decide +kernel)
theorem wcl_X3_15 : Cond.classLink RX3 15 "HillBoxes$Body" ∈ lw_big := b1_at 36 rfl rfl
theorem wfl_X3_17 : Cond.fieldLink RX3 17 RX3 "bodies" "[LHillBoxes$Body;" ∈ lw_big := b1_at 46 rfl rfl
theorem fl_X3_17 : FLk RX3 17 [3] 2 2 true := FLk.mk0 _ _ _ wfl_X3_17 (by decide +kernel)
theorem wfl_X3_21 : Cond.fieldLink RX3 21 RX3 "steps" "[I" ∈ lw_big := b1_at 50 rfl rfl
theorem fl_X3_21 : FLk RX3 21 [3] 4 2 true := FLk.mk0 _ _ _ wfl_X3_21 (by decide +kernel)
theorem wfl_X3_24 : Cond.fieldLink RX3 24 RX3 "movedBox" "[I" ∈ lw_big := b1_at 55 rfl rfl
theorem fl_X3_24 : FLk RX3 24 [3] 6 2 true := FLk.mk0 _ _ _ wfl_X3_24 (by decide +kernel)
theorem wfl_X3_27 : Cond.fieldLink RX3 27 RX3 "movedAt" "[I" ∈ lw_big := b1_at 56 rfl rfl
theorem fl_X3_27 : FLk RX3 27 [3] 7 2 true := FLk.mk0 _ _ _ wfl_X3_27 (by decide +kernel)
theorem wfl_X3_30 : Cond.fieldLink RX3 30 RX3 "movedTo" "[I" ∈ lw_big := b1_at 57 rfl rfl
theorem fl_X3_30 : FLk RX3 30 [3] 8 2 true := FLk.mk0 _ _ _ wfl_X3_30 (by decide +kernel)
theorem wini_J7 : Cond.initialized RJ7 ∈ lw_big := b1_at 3 rfl rfl
theorem wc_J7_fill_53178 : CWd yJ7_fill_53178 cJ7_fill_53178 4 none 2 := ⟨b1_at 40 rfl rfl, wini_J7, by decide, by decide, by decide +kernel⟩
theorem wml_X3_33 : Cond.methodLink RX3 33 yJ7_fill_53178 ∈ lw_big := b1_at 38 rfl rfl
theorem wst_J7_fill_53178 : Cond.static yJ7_fill_53178 ∈ lw_big := b1_at 39 rfl rfl
theorem wml_X4_3 : Cond.methodLink RX4 3 Lib.objectInit ∈ lw_big := b1_at 187 rfl rfl
theorem wfl_X4_9 : Cond.fieldLink RX4 9 RX4 "finder" "[I" ∈ lw_big := b1_at 188 rfl rfl
theorem fl_X4_9 : FLk RX4 9 [4] 0 2 true := FLk.mk0 _ _ _ wfl_X4_9 (by decide +kernel)
theorem wac_23 : Cond.arrayClass (aty 23) ∈ lw_big := b1_at 220 rfl rfl
theorem wfl_X4_15 : Cond.fieldLink RX4 15 RX4 "found" "[Z" ∈ lw_big := b1_at 190 rfl rfl
theorem fl_X4_15 : FLk RX4 15 [4] 1 2 true := FLk.mk0 _ _ _ wfl_X4_15 (by decide +kernel)
theorem wfl_X4_19 : Cond.fieldLink RX4 19 RX4 "tally" "[I" ∈ lw_big := b1_at 194 rfl rfl
theorem fl_X4_19 : FLk RX4 19 [4] 3 2 true := FLk.mk0 _ _ _ wfl_X4_19 (by decide +kernel)
theorem wfl_X4_22 : Cond.fieldLink RX4 22 RX4 "box" "[I" ∈ lw_big := b1_at 196 rfl rfl
theorem fl_X4_22 : FLk RX4 22 [4] 4 2 true := FLk.mk0 _ _ _ wfl_X4_22 (by decide +kernel)
theorem wfl_X4_25 : Cond.fieldLink RX4 25 RX4 "at" "[I" ∈ lw_big := b1_at 197 rfl rfl
theorem fl_X4_25 : FLk RX4 25 [4] 5 2 true := FLk.mk0 _ _ _ wfl_X4_25 (by decide +kernel)
theorem wfl_X4_28 : Cond.fieldLink RX4 28 RX4 "tallied" "[Z" ∈ lw_big := b1_at 198 rfl rfl
theorem fl_X4_28 : FLk RX4 28 [4] 6 2 true := FLk.mk0 _ _ _ wfl_X4_28 (by decide +kernel)
theorem wfl_X4_31 : Cond.fieldLink RX4 31 RX4 "hills" "LHillBoxes$Hills;" ∈ lw_big := b1_at 199 rfl rfl
theorem fl_X4_31 : FLk RX4 31 [4] 7 2 true := FLk.mk0 _ _ _ wfl_X4_31 (by decide +kernel)
theorem wfl_X4_35 : Cond.fieldLink RX4 35 RX4 "rules" "LHillBoxes$Rules;" ∈ lw_big := b1_at 200 rfl rfl
theorem fl_X4_35 : FLk RX4 35 [4] 8 2 true := FLk.mk0 _ _ _ wfl_X4_35 (by decide +kernel)
theorem wml_X8_3 : Cond.methodLink RX8 3 Lib.objectInit ∈ lw_big := b1_at 93 rfl rfl
theorem wfl_X8_9 : Cond.fieldLink RX8 9 RX8 "bytes" "[I" ∈ lw_big := b1_at 97 rfl rfl
theorem fl_X8_9 : FLk RX8 9 [8] 1 2 true := FLk.mk0 _ _ _ wfl_X8_9 (by decide +kernel)
theorem wfl_X8_13 : Cond.fieldLink RX8 13 RX8 "tokens" "[I" ∈ lw_big := b1_at 98 rfl rfl
theorem fl_X8_13 : FLk RX8 13 [8] 2 2 true := FLk.mk0 _ _ _ wfl_X8_13 (by decide +kernel)
theorem wfl_X8_16 : Cond.fieldLink RX8 16 RX8 "places" "[I" ∈ lw_big := b1_at 99 rfl rfl
theorem fl_X8_16 : FLk RX8 16 [8] 3 2 true := FLk.mk0 _ _ _ wfl_X8_16 (by decide +kernel)
theorem wfl_X8_19 : Cond.fieldLink RX8 19 RX8 "values" "[I" ∈ lw_big := b1_at 100 rfl rfl
theorem fl_X8_19 : FLk RX8 19 [8] 4 2 true := FLk.mk0 _ _ _ wfl_X8_19 (by decide +kernel)
theorem wfl_X8_22 : Cond.fieldLink RX8 22 RX8 "code" "[I" ∈ lw_big := b1_at 105 rfl rfl
theorem fl_X8_22 : FLk RX8 22 [8] 9 2 true := FLk.mk0 _ _ _ wfl_X8_22 (by decide +kernel)
theorem wml_X6_3 : Cond.methodLink RX6 3 Lib.objectInit ∈ lw_big := b1_at 87 rfl rfl
theorem wcl_X6_9 : Cond.classLink RX6 9 RX8 ∈ lw_big := b1_at 88 rfl rfl
theorem wins_X8 : Cond.instantiable RX8 11 ∈ lw_big := b1_at 89 rfl rfl
theorem wini_X8 : Cond.initialized RX8 ∈ lw_big := b1_at 5 rfl rfl
theorem wc_X8_init : CWd yX8_init cX8_init 1 none 0 := ⟨b1_at 92 rfl rfl, wini_X8, by decide, by decide, by decide +kernel⟩
theorem wmn_X6_11 : Cond.methodLinkNest RX6 11 yX8_init "HillBoxes" ∈ xtraW := xtra_at 90 (by decide +kernel) rfl
theorem wim_X8_init : Cond.instanceMethod yX8_init ∈ lw_big := b1_at 91 rfl rfl
theorem wfl_X6_12 : Cond.fieldLink RX6 12 RX6 "tape" "LHillBoxes$Tape;" ∈ lw_big := b1_at 130 rfl rfl
theorem fl_X6_12 : FLk RX6 12 [6] 0 2 true := FLk.mk0 _ _ _ wfl_X6_12 (by decide +kernel)
theorem wfl_X6_18 : Cond.fieldLink RX6 18 RX6 "line" "I" ∈ lw_big := b1_at 134 rfl rfl
theorem fl_X6_18 : FLk RX6 18 [6] 2 0 false := FLk.mk0 _ _ _ wfl_X6_18 (by decide +kernel)
theorem wfl_X6_22 : Cond.fieldLink RX6 22 RX6 "uses" "[I" ∈ lw_big := b1_at 137 rfl rfl
theorem fl_X6_22 : FLk RX6 22 [6] 4 2 true := FLk.mk0 _ _ _ wfl_X6_22 (by decide +kernel)
theorem wfl_X6_26 : Cond.fieldLink RX6 26 RX6 "madeOn" "[I" ∈ lw_big := b1_at 138 rfl rfl
theorem fl_X6_26 : FLk RX6 26 [6] 5 2 true := FLk.mk0 _ _ _ wfl_X6_26 (by decide +kernel)
theorem wfl_X6_29 : Cond.fieldLink RX6 29 RX6 "daysFrom" "[I" ∈ lw_big := b1_at 139 rfl rfl
theorem fl_X6_29 : FLk RX6 29 [6] 6 2 true := FLk.mk0 _ _ _ wfl_X6_29 (by decide +kernel)
theorem wfl_X6_32 : Cond.fieldLink RX6 32 RX6 "codes" "[I" ∈ lw_big := b1_at 140 rfl rfl
theorem fl_X6_32 : FLk RX6 32 [6] 7 2 true := FLk.mk0 _ _ _ wfl_X6_32 (by decide +kernel)
theorem wfl_X6_35 : Cond.fieldLink RX6 35 RX6 "codeLengths" "[I" ∈ lw_big := b1_at 141 rfl rfl
theorem fl_X6_35 : FLk RX6 35 [6] 8 2 true := FLk.mk0 _ _ _ wfl_X6_35 (by decide +kernel)
theorem wfl_X6_38 : Cond.fieldLink RX6 38 RX6 "stack" "[I" ∈ lw_big := b1_at 142 rfl rfl
theorem fl_X6_38 : FLk RX6 38 [6] 9 2 true := FLk.mk0 _ _ _ wfl_X6_38 (by decide +kernel)
theorem wfl_X6_41 : Cond.fieldLink RX6 41 RX6 "hills" "LHillBoxes$Hills;" ∈ lw_big := b1_at 136 rfl rfl
theorem fl_X6_41 : FLk RX6 41 [6] 3 2 true := FLk.mk0 _ _ _ wfl_X6_41 (by decide +kernel)
theorem wml_X7_3 : Cond.methodLink RX7 3 Lib.objectInit ∈ lw_big := b2_at 48 rfl rfl
theorem wac_24 : Cond.arrayClass (aty 24) ∈ lw_big := b2_at 69 rfl rfl
theorem wfl_X7_9 : Cond.fieldLink RX7 9 RX7 "elements" "[J" ∈ lw_big := b2_at 56 rfl rfl
theorem fl_X7_9 : FLk RX7 9 [7] 4 2 true := FLk.mk0 _ _ _ wfl_X7_9 (by decide +kernel)
theorem wml_X10_3 : Cond.methodLink RX10 3 Lib.objectInit ∈ lw_big := b1_at 226 rfl rfl
theorem wfl_X10_9 : Cond.fieldLink RX10 9 RX10 "walkedHours" "I" ∈ lw_big := b1_at 231 rfl rfl
theorem fl_X10_9 : FLk RX10 9 [10] 1 0 false := FLk.mk0 _ _ _ wfl_X10_9 (by decide +kernel)
theorem wfl_X10_15 : Cond.fieldLink RX10 15 RX10 "walked" "[I" ∈ lw_big := b1_at 235 rfl rfl
theorem fl_X10_15 : FLk RX10 15 [10] 3 2 true := FLk.mk0 _ _ _ wfl_X10_15 (by decide +kernel)
theorem wcl_X10_19 : Cond.classLink RX10 19 "HillBoxes$Box" ∈ lw_big := b1_at 227 rfl rfl
theorem wfl_X10_21 : Cond.fieldLink RX10 21 RX10 "boxes" "[LHillBoxes$Box;" ∈ lw_big := b1_at 237 rfl rfl
theorem fl_X10_21 : FLk RX10 21 [10] 4 2 true := FLk.mk0 _ _ _ wfl_X10_21 (by decide +kernel)
theorem wfl_X10_25 : Cond.fieldLink RX10 25 RX10 "worths" "[I" ∈ lw_big := b1_at 238 rfl rfl
theorem fl_X10_25 : FLk RX10 25 [10] 5 2 true := FLk.mk0 _ _ _ wfl_X10_25 (by decide +kernel)
theorem wfl_X10_28 : Cond.fieldLink RX10 28 RX10 "stays" "[I" ∈ lw_big := b1_at 239 rfl rfl
theorem fl_X10_28 : FLk RX10 28 [10] 6 2 true := FLk.mk0 _ _ _ wfl_X10_28 (by decide +kernel)
theorem wfl_X10_31 : Cond.fieldLink RX10 31 RX10 "row" "[I" ∈ lw_big := b2_at 0 rfl rfl
theorem fl_X10_31 : FLk RX10 31 [10] 7 2 true := FLk.mk0 _ _ _ wfl_X10_31 (by decide +kernel)
theorem wfl_X10_34 : Cond.fieldLink RX10 34 RX10 "best" "[I" ∈ lw_big := b2_at 2 rfl rfl
theorem fl_X10_34 : FLk RX10 34 [10] 9 2 true := FLk.mk0 _ _ _ wfl_X10_34 (by decide +kernel)
theorem wml_X11_1 : Cond.methodLink RX11 1 Lib.objectInit ∈ lw_big := b1_at 27 rfl rfl
theorem wcl_X11_7 : Cond.classLink RX11 7 RX3 ∈ lw_big := b1_at 30 rfl rfl
theorem wins_X3 : Cond.instantiable RX3 10 ∈ lw_big := b1_at 31 rfl rfl
theorem wini_X3 : Cond.initialized RX3 ∈ lw_big := b1_at 2 rfl rfl
theorem wc_X3_init : CWd yX3_init cX3_init 1 none 0 := ⟨b1_at 34 rfl rfl, wini_X3, by decide, by decide, by decide +kernel⟩
theorem wml_X11_9 : Cond.methodLink RX11 9 yX3_init ∈ lw_big := b1_at 32 rfl rfl
theorem wim_X3_init : Cond.instanceMethod yX3_init ∈ lw_big := b1_at 33 rfl rfl
theorem wfl_X11_10 : Cond.fieldLink RX11 10 RX11 "hills" "LHillBoxes$Hills;" ∈ lw_big := b2_at 70 rfl rfl
theorem fl_X11_10 : FLk RX11 10 [11] 0 2 true := FLk.mk0 _ _ _ wfl_X11_10 (by decide +kernel)
theorem wcl_X11_16 : Cond.classLink RX11 16 RX6 ∈ lw_big := b1_at 82 rfl rfl
theorem wins_X6 : Cond.instantiable RX6 16 ∈ lw_big := b1_at 83 rfl rfl
theorem wini_X6 : Cond.initialized RX6 ∈ lw_big := b1_at 4 rfl rfl
theorem wc_X6_init : CWd yX6_init cX6_init 2 none 1 := ⟨b1_at 86 rfl rfl, wini_X6, by decide, by decide, by decide +kernel⟩
theorem wml_X11_18 : Cond.methodLink RX11 18 yX6_init ∈ lw_big := b1_at 84 rfl rfl
theorem wim_X6_init : Cond.instanceMethod yX6_init ∈ lw_big := b1_at 85 rfl rfl
theorem wfl_X11_21 : Cond.fieldLink RX11 21 RX11 "rules" "LHillBoxes$Rules;" ∈ lw_big := b2_at 71 rfl rfl
theorem fl_X11_21 : FLk RX11 21 [11] 1 2 true := FLk.mk0 _ _ _ wfl_X11_21 (by decide +kernel)
theorem wcl_X11_25 : Cond.classLink RX11 25 RX4 ∈ lw_big := b1_at 182 rfl rfl
theorem wins_X4 : Cond.instantiable RX4 9 ∈ lw_big := b1_at 183 rfl rfl
theorem wini_X4 : Cond.initialized RX4 ∈ lw_big := b1_at 6 rfl rfl
theorem wc_X4_init : CWd yX4_init cX4_init 3 none 2 := ⟨b1_at 186 rfl rfl, wini_X4, by decide, by decide, by decide +kernel⟩
theorem wml_X11_27 : Cond.methodLink RX11 27 yX4_init ∈ lw_big := b1_at 184 rfl rfl
theorem wim_X4_init : Cond.instanceMethod yX4_init ∈ lw_big := b1_at 185 rfl rfl
theorem wfl_X11_30 : Cond.fieldLink RX11 30 RX11 "logs" "LHillBoxes$Logs;" ∈ lw_big := b2_at 72 rfl rfl
theorem fl_X11_30 : FLk RX11 30 [11] 2 2 true := FLk.mk0 _ _ _ wfl_X11_30 (by decide +kernel)
theorem wcl_X11_34 : Cond.classLink RX11 34 RX10 ∈ lw_big := b1_at 221 rfl rfl
theorem wins_X10 : Cond.instantiable RX10 16 ∈ lw_big := b1_at 222 rfl rfl
theorem wini_X10 : Cond.initialized RX10 ∈ lw_big := b1_at 7 rfl rfl
theorem wc_X10_init : CWd yX10_init cX10_init 1 none 0 := ⟨b1_at 225 rfl rfl, wini_X10, by decide, by decide, by decide +kernel⟩
theorem wmn_X11_36 : Cond.methodLinkNest RX11 36 yX10_init "HillBoxes" ∈ xtraW := xtra_at 223 (by decide +kernel) rfl
theorem wim_X10_init : Cond.instanceMethod yX10_init ∈ lw_big := b1_at 224 rfl rfl
theorem wfl_X11_37 : Cond.fieldLink RX11 37 RX11 "walks" "LHillBoxes$Walks;" ∈ lw_big := b2_at 73 rfl rfl
theorem fl_X11_37 : FLk RX11 37 [11] 3 2 true := FLk.mk0 _ _ _ wfl_X11_37 (by decide +kernel)
theorem wcl_X11_41 : Cond.classLink RX11 41 "HillBoxes$Shelf" ∈ lw_big := b2_at 42 rfl rfl
theorem wfl_X11_43 : Cond.fieldLink RX11 43 RX11 "shelves" "[LHillBoxes$Shelf;" ∈ lw_big := b2_at 74 rfl rfl
theorem fl_X11_43 : FLk RX11 43 [11] 4 2 true := FLk.mk0 _ _ _ wfl_X11_43 (by decide +kernel)
theorem wfl_X11_48 : Cond.fieldLink RX11 48 RX11 "trace" "[I" ∈ lw_big := b2_at 75 rfl rfl
theorem fl_X11_48 : FLk RX11 48 [11] 5 2 true := FLk.mk0 _ _ _ wfl_X11_48 (by decide +kernel)
theorem wins_X7 : Cond.instantiable RX7 5 ∈ lw_big := b2_at 44 rfl rfl
theorem wini_X7 : Cond.initialized RX7 ∈ lw_big := b1_at 8 rfl rfl
theorem wc_X7_init : CWd yX7_init cX7_init 1 none 0 := ⟨b2_at 47 rfl rfl, wini_X7, by decide, by decide, by decide +kernel⟩
theorem wmn_X11_47 : Cond.methodLinkNest RX11 47 yX7_init "HillBoxes" ∈ xtraW := xtra_at 285 (by decide +kernel) rfl
theorem wim_X7_init : Cond.instanceMethod yX7_init ∈ lw_big := b2_at 46 rfl rfl
theorem wfl_X1_34 : Cond.fieldLink RX1 34 RX1 "cell" "I" ∈ lw_big := b3_at 158 rfl rfl
theorem fl_X1_34 : FLk RX1 34 [1] 9 0 false := FLk.mk0 _ _ _ wfl_X1_34 (by decide +kernel)
theorem wfl_X0_26 : Cond.fieldLink RX0 26 "HillBoxes$Body" "BODIES_OF_ACTS" "[I" ∈ lw_big := b6_at 230 rfl rfl
theorem wfn_X0_18 : Cond.fieldLinkNest RX0 18 "HillBoxes" "KIND_ABOVE" "[I" "HillBoxes" ∈ xtraW := x6_at 232 rfl rfl
theorem wini_X0 : Cond.initialized RX0 ∈ lw_big := b1_at 10 rfl rfl
theorem wc_X0_runBody : CWd yX0_runBody cX0_runBody 6 (some .int) 5 := ⟨b6_at 237 rfl rfl, wini_X0, by decide, by decide, by decide +kernel⟩
theorem wsel_X0_X0_runBody : Cond.selects RX0 yX0_runBody yX0_runBody ∈ lw_big := big_sel 57 rfl rfl
theorem wsel_X1_X0_runBody : Cond.selects RX1 yX0_runBody yX0_runBody ∈ lw_big := big_xs 1 rfl
theorem wsel_X2_X0_runBody : Cond.selects RX2 yX0_runBody yX0_runBody ∈ lw_big := big_xs 3 rfl
theorem wsel_X9_X0_runBody : Cond.selects RX9 yX0_runBody yX0_runBody ∈ lw_big := big_xs 5 rfl
theorem wsl_0_1_2_9_X0_runBody : ∀ t ∈ ([0, 1, 2, 9] : List Nat), t < 13 ∧ Cond.selects (RXX t) yX0_runBody yX0_runBody ∈ lw_big := fun t ht => by
    simp only [List.mem_cons, List.not_mem_nil, or_false] at ht
    rcases ht with rfl | rfl | rfl | rfl
    · exact ⟨by decide, wsel_X0_X0_runBody⟩
    · exact ⟨by decide, wsel_X1_X0_runBody⟩
    · exact ⟨by decide, wsel_X2_X0_runBody⟩
    · exact ⟨by decide, wsel_X9_X0_runBody⟩
theorem wml_X0_29 : Cond.methodLink RX0 29 yX0_runBody ∈ lw_big := b6_at 234 rfl rfl
theorem wim_X0_runBody : Cond.instanceMethod yX0_runBody ∈ lw_big := b6_at 236 rfl rfl
theorem wfl_X0_9 : Cond.fieldLink RX0 9 RX0 "number" "I" ∈ lw_big := b2_at 126 rfl rfl
theorem fl_X0_9 : FLk RX0 9 [0, 1, 2, 9] 0 0 true := FLk.mk0 _ _ _ wfl_X0_9 (by decide +kernel)
theorem wfl_X0_15 : Cond.fieldLink RX0 15 RX0 "kind" "I" ∈ lw_big := b2_at 135 rfl rfl
theorem fl_X0_15 : FLk RX0 15 [0, 1, 2, 9] 1 0 true := FLk.mk0 _ _ _ wfl_X0_15 (by decide +kernel)
theorem wc_X0_run : CWd yX0_run cX0_run 8 (some .int) 5 := ⟨b6_at 229 rfl rfl, wini_X0, by decide, by decide, by decide +kernel⟩
theorem wsel_X0_X0_run : Cond.selects RX0 yX0_run yX0_run ∈ lw_big := big_sel 56 rfl rfl
theorem wsel_X1_X0_run : Cond.selects RX1 yX0_run yX0_run ∈ lw_big := big_xs 0 rfl
theorem wsel_X2_X0_run : Cond.selects RX2 yX0_run yX0_run ∈ lw_big := big_xs 2 rfl
theorem wsel_X9_X0_run : Cond.selects RX9 yX0_run yX0_run ∈ lw_big := big_xs 4 rfl
theorem wsl_0_1_2_9_X0_run : ∀ t ∈ ([0, 1, 2, 9] : List Nat), t < 13 ∧ Cond.selects (RXX t) yX0_run yX0_run ∈ lw_big := fun t ht => by
    simp only [List.mem_cons, List.not_mem_nil, or_false] at ht
    rcases ht with rfl | rfl | rfl | rfl
    · exact ⟨by decide, wsel_X0_X0_run⟩
    · exact ⟨by decide, wsel_X1_X0_run⟩
    · exact ⟨by decide, wsel_X2_X0_run⟩
    · exact ⟨by decide, wsel_X9_X0_run⟩
theorem wml_X0_22 : Cond.methodLink RX0 22 yX0_run ∈ lw_big := b6_at 226 rfl rfl
theorem wim_X0_run : Cond.instanceMethod yX0_run ∈ lw_big := b6_at 228 rfl rfl
theorem wc_X0_cellNow : CWd yX0_cellNow cX0_cellNow 1 (some .int) 0 := ⟨b7_at 7 rfl rfl, wini_X0, by decide, by decide, by decide +kernel⟩
theorem wini_X1 : Cond.initialized RX1 ∈ lw_big := b1_at 14 rfl rfl
theorem wc_X1_cellNow : CWd yX1_cellNow cX1_cellNow 1 (some .int) 0 := ⟨b7_at 4 rfl rfl, wini_X1, by decide, by decide, by decide +kernel⟩
theorem wml_X0_32 : Cond.methodLink RX0 32 yX0_cellNow ∈ lw_big := b6_at 238 rfl rfl
theorem wim_X0_cellNow : Cond.instanceMethod yX0_cellNow ∈ lw_big := b6_at 239 rfl rfl
theorem wim_X1_cellNow : Cond.instanceMethod yX1_cellNow ∈ lw_big := b7_at 3 rfl rfl
theorem wfl_X3_39 : Cond.fieldLink RX3 39 RX3 "size" "I" ∈ lw_big := b1_at 47 rfl rfl
theorem fl_X3_39 : FLk RX3 39 [3] 3 0 false := FLk.mk0 _ _ _ wfl_X3_39 (by decide +kernel)
theorem wc_X3_bodyAt : CWd yX3_bodyAt cX3_bodyAt 2 (some (.object "HillBoxes$Body")) 1 := ⟨b4_at 13 rfl rfl, wini_X3, by decide, by decide, by decide +kernel⟩
theorem wsel_X3_X3_bodyAt : Cond.selects RX3 yX3_bodyAt yX3_bodyAt ∈ lw_big := b4_at 12 rfl rfl
theorem wsl_3_X3_bodyAt : ∀ t ∈ ([3] : List Nat), t < 13 ∧ Cond.selects (RXX t) yX3_bodyAt yX3_bodyAt ∈ lw_big := fun t ht => by simp only [List.mem_cons, List.not_mem_nil, or_false] at ht; subst ht; exact ⟨by decide, wsel_X3_X3_bodyAt⟩
theorem wml_X11_156 : Cond.methodLink RX11 156 yX3_bodyAt ∈ lw_big := b4_at 10 rfl rfl
theorem wim_X3_bodyAt : Cond.instanceMethod yX3_bodyAt ∈ lw_big := b4_at 11 rfl rfl
theorem wc_X0_perform : CWd yX0_perform cX0_perform 4 (some .int) 3 := ⟨b6_at 225 rfl rfl, wini_X0, by decide, by decide, by decide +kernel⟩
theorem wsel_X0_X0_perform : Cond.selects RX0 yX0_perform yX0_perform ∈ lw_big := b6_at 220 rfl rfl
theorem wsel_X1_X0_perform : Cond.selects RX1 yX0_perform yX0_perform ∈ lw_big := b6_at 222 rfl rfl
theorem wsel_X2_X0_perform : Cond.selects RX2 yX0_perform yX0_perform ∈ lw_big := b6_at 223 rfl rfl
theorem wsel_X9_X0_perform : Cond.selects RX9 yX0_perform yX0_perform ∈ lw_big := b6_at 224 rfl rfl
theorem wsl_0_1_2_9_X0_perform : ∀ t ∈ ([0, 1, 2, 9] : List Nat), t < 13 ∧ Cond.selects (RXX t) yX0_perform yX0_perform ∈ lw_big := fun t ht => by
    simp only [List.mem_cons, List.not_mem_nil, or_false] at ht
    rcases ht with rfl | rfl | rfl | rfl
    · exact ⟨by decide, wsel_X0_X0_perform⟩
    · exact ⟨by decide, wsel_X1_X0_perform⟩
    · exact ⟨by decide, wsel_X2_X0_perform⟩
    · exact ⟨by decide, wsel_X9_X0_perform⟩
theorem wml_X11_434 : Cond.methodLink RX11 434 yX0_perform ∈ lw_big := b6_at 218 rfl rfl
theorem wim_X0_perform : Cond.instanceMethod yX0_perform ∈ lw_big := b6_at 219 rfl rfl
theorem wfl_X1_55 : Cond.fieldLink RX1 55 RX1 "askerCount" "I" ∈ lw_big := b3_at 179 rfl rfl
theorem fl_X1_55 : FLk RX1 55 [1] 17 0 false := FLk.mk0 _ _ _ wfl_X1_55 (by decide +kernel)
theorem wfl_X1_18 : Cond.fieldLink RX1 18 RX1 "askers" "[I" ∈ lw_big := b3_at 150 rfl rfl
theorem fl_X1_18 : FLk RX1 18 [1] 6 2 true := FLk.mk0 _ _ _ wfl_X1_18 (by decide +kernel)
theorem wfl_X2_9 : Cond.fieldLink RX2 9 RX2 "leftOn" "I" ∈ lw_big := b2_at 180 rfl rfl
theorem fl_X2_9 : FLk RX2 9 [2] 4 0 false := FLk.mk0 _ _ _ wfl_X2_9 (by decide +kernel)
theorem wcl_X3_48 : Cond.classLink RX3 48 RX1 ∈ lw_big := b3_at 18 rfl rfl
theorem wcl_X3_46 : Cond.classLink RX3 46 RX2 ∈ lw_big := b2_at 199 rfl rfl
theorem wc_X3_finderAt : CWd yX3_finderAt cX3_finderAt 3 (some (.object "HillBoxes$Finder")) 1 := ⟨b2_at 198 rfl rfl, wini_X3, by decide, by decide, by decide +kernel⟩
theorem wsel_X3_X3_finderAt : Cond.selects RX3 yX3_finderAt yX3_finderAt ∈ lw_big := b2_at 197 rfl rfl
theorem wsl_3_X3_finderAt : ∀ t ∈ ([3] : List Nat), t < 13 ∧ Cond.selects (RXX t) yX3_finderAt yX3_finderAt ∈ lw_big := fun t ht => by simp only [List.mem_cons, List.not_mem_nil, or_false] at ht; subst ht; exact ⟨by decide, wsel_X3_X3_finderAt⟩
theorem wml_X11_90 : Cond.methodLink RX11 90 yX3_finderAt ∈ lw_big := b2_at 195 rfl rfl
theorem wim_X3_finderAt : Cond.instanceMethod yX3_finderAt ∈ lw_big := b2_at 196 rfl rfl
theorem wc_X3_boxAt : CWd yX3_boxAt cX3_boxAt 3 (some (.object "HillBoxes$Box")) 1 := ⟨b3_at 17 rfl rfl, wini_X3, by decide, by decide, by decide +kernel⟩
theorem wsel_X3_X3_boxAt : Cond.selects RX3 yX3_boxAt yX3_boxAt ∈ lw_big := b3_at 16 rfl rfl
theorem wsl_3_X3_boxAt : ∀ t ∈ ([3] : List Nat), t < 13 ∧ Cond.selects (RXX t) yX3_boxAt yX3_boxAt ∈ lw_big := fun t ht => by simp only [List.mem_cons, List.not_mem_nil, or_false] at ht; subst ht; exact ⟨by decide, wsel_X3_X3_boxAt⟩
theorem wml_X11_130 : Cond.methodLink RX11 130 yX3_boxAt ∈ lw_big := b3_at 228 rfl rfl
theorem wim_X3_boxAt : Cond.instanceMethod yX3_boxAt ∈ lw_big := b3_at 15 rfl rfl
theorem wini_X2 : Cond.initialized RX2 ∈ lw_big := b1_at 12 rfl rfl
theorem wc_X2_hasLeft : CWd yX2_hasLeft cX2_hasLeft 1 (some .boolean) 0 := ⟨b2_at 203 rfl rfl, wini_X2, by decide, by decide, by decide +kernel⟩
theorem wsel_X2_X2_hasLeft : Cond.selects RX2 yX2_hasLeft yX2_hasLeft ∈ lw_big := b2_at 202 rfl rfl
theorem wsl_2_X2_hasLeft : ∀ t ∈ ([2] : List Nat), t < 13 ∧ Cond.selects (RXX t) yX2_hasLeft yX2_hasLeft ∈ lw_big := fun t ht => by simp only [List.mem_cons, List.not_mem_nil, or_false] at ht; subst ht; exact ⟨by decide, wsel_X2_X2_hasLeft⟩
theorem wml_X11_94 : Cond.methodLink RX11 94 yX2_hasLeft ∈ lw_big := b2_at 200 rfl rfl
theorem wim_X2_hasLeft : Cond.instanceMethod yX2_hasLeft ∈ lw_big := b2_at 201 rfl rfl
theorem wc_X1_isAskedBy : CWd yX1_isAskedBy cX1_isAskedBy 3 (some .boolean) 1 := ⟨b6_at 70 rfl rfl, wini_X1, by decide, by decide, by decide +kernel⟩
theorem wsel_X1_X1_isAskedBy : Cond.selects RX1 yX1_isAskedBy yX1_isAskedBy ∈ lw_big := b6_at 69 rfl rfl
theorem wsl_1_X1_isAskedBy : ∀ t ∈ ([1] : List Nat), t < 13 ∧ Cond.selects (RXX t) yX1_isAskedBy yX1_isAskedBy ∈ lw_big := fun t ht => by simp only [List.mem_cons, List.not_mem_nil, or_false] at ht; subst ht; exact ⟨by decide, wsel_X1_X1_isAskedBy⟩
theorem wml_X11_360 : Cond.methodLink RX11 360 yX1_isAskedBy ∈ lw_big := b6_at 67 rfl rfl
theorem wim_X1_isAskedBy : Cond.instanceMethod yX1_isAskedBy ∈ lw_big := b6_at 68 rfl rfl
theorem wfl_X11_274 : Cond.fieldLink RX11 274 RX1 "keeper" "I" ∈ lw_big := b3_at 157 rfl rfl
theorem fl_X11_274 : FLk RX11 274 [1] 8 0 false := FLk.mk0 _ _ _ wfl_X11_274 (by decide +kernel)
theorem wfl_X11_363 : Cond.fieldLink RX11 363 RX1 "askerCount" "I" ∈ lw_big := b3_at 180 rfl rfl
theorem fl_X11_363 : FLk RX11 363 [1] 17 0 false := FLk.mk0 _ _ _ wfl_X11_363 (by decide +kernel)
theorem wfl_X11_366 : Cond.fieldLink RX11 366 RX1 "askers" "[I" ∈ lw_big := b3_at 151 rfl rfl
theorem fl_X11_366 : FLk RX11 366 [1] 6 2 true := FLk.mk0 _ _ _ wfl_X11_366 (by decide +kernel)
theorem wml_X0_3 : Cond.methodLink RX0 3 Lib.objectInit ∈ lw_big := b2_at 117 rfl rfl
theorem wfl_X3_43 : Cond.fieldLink RX3 43 RX0 "number" "I" ∈ lw_big := b2_at 127 rfl rfl
theorem fl_X3_43 : FLk RX3 43 [0, 1, 2, 9] 0 0 true := FLk.mk0 _ _ _ wfl_X3_43 (by decide +kernel)
theorem wc_X0_init : CWd yX0_init cX0_init 3 none 2 := ⟨b2_at 116 rfl rfl, wini_X0, by decide, by decide, by decide +kernel⟩
theorem wml_X9_3 : Cond.methodLink RX9 3 yX0_init ∈ lw_big := b2_at 114 rfl rfl
theorem wim_X0_init : Cond.instanceMethod yX0_init ∈ lw_big := b2_at 115 rfl rfl
theorem wfl_X9_9 : Cond.fieldLink RX9 9 RX9 "logs" "[I" ∈ lw_big := b2_at 118 rfl rfl
theorem fl_X9_9 : FLk RX9 9 [9] 2 2 true := FLk.mk0 _ _ _ wfl_X9_9 (by decide +kernel)
theorem wfl_X9_15 : Cond.fieldLink RX9 15 RX9 "left" "[Z" ∈ lw_big := b2_at 121 rfl rfl
theorem fl_X9_15 : FLk RX9 15 [9] 3 2 true := FLk.mk0 _ _ _ wfl_X9_15 (by decide +kernel)
theorem wc_X3_isFull : CWd yX3_isFull cX3_isFull 1 (some .boolean) 0 := ⟨b2_at 108 rfl rfl, wini_X3, by decide, by decide, by decide +kernel⟩
theorem wsel_X3_X3_isFull : Cond.selects RX3 yX3_isFull yX3_isFull ∈ lw_big := b2_at 107 rfl rfl
theorem wsl_3_X3_isFull : ∀ t ∈ ([3] : List Nat), t < 13 ∧ Cond.selects (RXX t) yX3_isFull yX3_isFull ∈ lw_big := fun t ht => by simp only [List.mem_cons, List.not_mem_nil, or_false] at ht; subst ht; exact ⟨by decide, wsel_X3_X3_isFull⟩
theorem wml_X11_64 : Cond.methodLink RX11 64 yX3_isFull ∈ lw_big := b2_at 105 rfl rfl
theorem wim_X3_isFull : Cond.instanceMethod yX3_isFull ∈ lw_big := b2_at 106 rfl rfl
theorem wc_X3_enter : CWd yX3_enter cX3_enter 2 (some .int) 1 := ⟨b2_at 163 rfl rfl, wini_X3, by decide, by decide, by decide +kernel⟩
theorem wsel_X3_X3_enter : Cond.selects RX3 yX3_enter yX3_enter ∈ lw_big := b2_at 162 rfl rfl
theorem wsl_3_X3_enter : ∀ t ∈ ([3] : List Nat), t < 13 ∧ Cond.selects (RXX t) yX3_enter yX3_enter ∈ lw_big := fun t ht => by simp only [List.mem_cons, List.not_mem_nil, or_false] at ht; subst ht; exact ⟨by decide, wsel_X3_X3_enter⟩
theorem wml_X11_81 : Cond.methodLink RX11 81 yX3_enter ∈ lw_big := b2_at 160 rfl rfl
theorem wim_X3_enter : Cond.instanceMethod yX3_enter ∈ lw_big := b2_at 161 rfl rfl
theorem wcl_X11_76 : Cond.classLink RX11 76 RX0 ∈ lw_big := b2_at 154 rfl rfl
theorem wins_X0 : Cond.instantiable RX0 2 ∈ lw_big := b2_at 155 rfl rfl
theorem wfl_X11_70 : Cond.fieldLink RX11 70 RX3 "size" "I" ∈ lw_big := b1_at 48 rfl rfl
theorem fl_X11_70 : FLk RX11 70 [3] 3 0 false := FLk.mk0 _ _ _ wfl_X11_70 (by decide +kernel)
theorem wml_X11_78 : Cond.methodLink RX11 78 yX0_init ∈ lw_big := b2_at 156 rfl rfl
theorem wcl_X11_68 : Cond.classLink RX11 68 RX9 ∈ lw_big := b2_at 109 rfl rfl
theorem wins_X9 : Cond.instantiable RX9 5 ∈ lw_big := b2_at 110 rfl rfl
theorem wini_X9 : Cond.initialized RX9 ∈ lw_big := b1_at 11 rfl rfl
theorem wc_X9_init : CWd yX9_init cX9_init 2 none 1 := ⟨b2_at 113 rfl rfl, wini_X9, by decide, by decide, by decide +kernel⟩
theorem wml_X11_73 : Cond.methodLink RX11 73 yX9_init ∈ lw_big := b2_at 111 rfl rfl
theorem wim_X9_init : Cond.instanceMethod yX9_init ∈ lw_big := b2_at 112 rfl rfl
theorem wcl_X3_50 : Cond.classLink RX3 50 RX9 ∈ lw_big := b6_at 44 rfl rfl
theorem wml_X11_488 : Cond.methodLink RX11 488 Lib.Math.abs.name ∈ lw_big := b3_at 22 rfl rfl
theorem wst_mabs : Cond.static Lib.Math.abs.name ∈ lw_big := b3_at 23 rfl rfl
theorem wini_math : Cond.initialized "java/lang/Math" ∈ lw_big := b1_at 13 rfl rfl
theorem wcd_mabs : Cond.code Lib.Math.abs.name Lib.Math.abs.code 1 (some .int) ∈ lw_big := b3_at 24 rfl rfl
theorem wfl_X1_21 : Cond.fieldLink RX1 21 RX1 "downOn" "I" ∈ lw_big := b3_at 164 rfl rfl
theorem fl_X1_21 : FLk RX1 21 [1] 11 0 false := FLk.mk0 _ _ _ wfl_X1_21 (by decide +kernel)
theorem wfl_X1_52 : Cond.fieldLink RX1 52 RX1 "stepCount" "I" ∈ lw_big := b3_at 162 rfl rfl
theorem fl_X1_52 : FLk RX1 52 [1] 10 0 false := FLk.mk0 _ _ _ wfl_X1_52 (by decide +kernel)
theorem wfl_X1_9 : Cond.fieldLink RX1 9 RX1 "steps" "[I" ∈ lw_big := b3_at 146 rfl rfl
theorem fl_X1_9 : FLk RX1 9 [1] 4 2 true := FLk.mk0 _ _ _ wfl_X1_9 (by decide +kernel)
theorem wfl_X3_69 : Cond.fieldLink RX3 69 RX1 "hiddenOn" "I" ∈ lw_big := b3_at 140 rfl rfl
theorem fl_X3_69 : FLk RX3 69 [1] 2 0 true := FLk.mk0 _ _ _ wfl_X3_69 (by decide +kernel)
theorem wc_X1_isDown : CWd yX1_isDown cX1_isDown 1 (some .boolean) 0 := ⟨b3_at 62 rfl rfl, wini_X1, by decide, by decide, by decide +kernel⟩
theorem wsel_X1_X1_isDown : Cond.selects RX1 yX1_isDown yX1_isDown ∈ lw_big := b3_at 61 rfl rfl
theorem wsl_1_X1_isDown : ∀ t ∈ ([1] : List Nat), t < 13 ∧ Cond.selects (RXX t) yX1_isDown yX1_isDown ∈ lw_big := fun t ht => by simp only [List.mem_cons, List.not_mem_nil, or_false] at ht; subst ht; exact ⟨by decide, wsel_X1_X1_isDown⟩
theorem wml_X3_72 : Cond.methodLink RX3 72 yX1_isDown ∈ lw_big := b4_at 42 rfl rfl
theorem wim_X1_isDown : Cond.instanceMethod yX1_isDown ∈ lw_big := b3_at 60 rfl rfl
theorem wfl_X3_76 : Cond.fieldLink RX3 76 RX1 "kind" "I" ∈ lw_big := b2_at 140 rfl rfl
theorem wsf_X1_kind : Cond.sameField RX1 RX0 "kind" "I" ∈ lw_big := b2_at 137 rfl rfl
theorem fl_X3_76 : FLk RX3 76 [1] 1 0 true := FLk.mk1 _ _ _ _ wfl_X3_76 wsf_X1_kind (by decide +kernel)
theorem wfl_X3_62 : Cond.fieldLink RX3 62 RX3 "moves" "I" ∈ lw_big := b1_at 58 rfl rfl
theorem fl_X3_62 : FLk RX3 62 [3] 9 0 false := FLk.mk0 _ _ _ wfl_X3_62 (by decide +kernel)
theorem wfl_X3_83 : Cond.fieldLink RX3 83 RX1 "hiddenAtCell" "I" ∈ lw_big := b3_at 145 rfl rfl
theorem fl_X3_83 : FLk RX3 83 [1] 3 0 true := FLk.mk0 _ _ _ wfl_X3_83 (by decide +kernel)
theorem wfl_X3_65 : Cond.fieldLink RX3 65 RX1 "number" "I" ∈ lw_big := b2_at 131 rfl rfl
theorem wsf_X1_number : Cond.sameField RX1 RX0 "number" "I" ∈ lw_big := b2_at 129 rfl rfl
theorem fl_X3_65 : FLk RX3 65 [1] 0 0 true := FLk.mk1 _ _ _ _ wfl_X3_65 wsf_X1_number (by decide +kernel)
theorem wc_X1_liesNow : CWd yX1_liesNow cX1_liesNow 1 (some .int) 0 := ⟨b3_at 66 rfl rfl, wini_X1, by decide, by decide, by decide +kernel⟩
theorem wsel_X1_X1_liesNow : Cond.selects RX1 yX1_liesNow yX1_liesNow ∈ lw_big := b3_at 65 rfl rfl
theorem wsl_1_X1_liesNow : ∀ t ∈ ([1] : List Nat), t < 13 ∧ Cond.selects (RXX t) yX1_liesNow yX1_liesNow ∈ lw_big := fun t ht => by simp only [List.mem_cons, List.not_mem_nil, or_false] at ht; subst ht; exact ⟨by decide, wsel_X1_X1_liesNow⟩
theorem wml_X3_79 : Cond.methodLink RX3 79 yX1_liesNow ∈ lw_big := b4_at 43 rfl rfl
theorem wim_X1_liesNow : Cond.instanceMethod yX1_liesNow ∈ lw_big := b3_at 64 rfl rfl
theorem wfl_X3_59 : Cond.fieldLink RX3 59 RX1 "downOn" "I" ∈ lw_big := b3_at 165 rfl rfl
theorem fl_X3_59 : FLk RX3 59 [1] 11 0 false := FLk.mk0 _ _ _ wfl_X3_59 (by decide +kernel)
theorem wfl_X4_39 : Cond.fieldLink RX4 39 RX4 "size" "I" ∈ lw_big := b1_at 192 rfl rfl
theorem fl_X4_39 : FLk RX4 39 [4] 2 0 false := FLk.mk0 _ _ _ wfl_X4_39 (by decide +kernel)
theorem wc_X4_has : CWd yX4_has cX4_has 2 (some .boolean) 1 := ⟨b5_at 224 rfl rfl, wini_X4, by decide, by decide, by decide +kernel⟩
theorem wsel_X4_X4_has : Cond.selects RX4 yX4_has yX4_has ∈ lw_big := b5_at 223 rfl rfl
theorem wsl_4_X4_has : ∀ t ∈ ([4] : List Nat), t < 13 ∧ Cond.selects (RXX t) yX4_has yX4_has ∈ lw_big := fun t ht => by simp only [List.mem_cons, List.not_mem_nil, or_false] at ht; subst ht; exact ⟨by decide, wsel_X4_X4_has⟩
theorem wml_X4_85 : Cond.methodLink RX4 85 yX4_has ∈ lw_big := b5_at 233 rfl rfl
theorem wim_X4_has : Cond.instanceMethod yX4_has ∈ lw_big := b5_at 222 rfl rfl
theorem wml_X4_43 : Cond.methodLink RX4 43 yX3_boxAt ∈ lw_big := b5_at 177 rfl rfl
theorem wc_X3_whereLay : CWd yX3_whereLay cX3_whereLay 4 (some .int) 2 := ⟨b4_at 41 rfl rfl, wini_X3, by decide, by decide, by decide +kernel⟩
theorem wsel_X3_X3_whereLay : Cond.selects RX3 yX3_whereLay yX3_whereLay ∈ lw_big := b4_at 40 rfl rfl
theorem wsl_3_X3_whereLay : ∀ t ∈ ([3] : List Nat), t < 13 ∧ Cond.selects (RXX t) yX3_whereLay yX3_whereLay ∈ lw_big := fun t ht => by simp only [List.mem_cons, List.not_mem_nil, or_false] at ht; subst ht; exact ⟨by decide, wsel_X3_X3_whereLay⟩
theorem wml_X4_88 : Cond.methodLink RX4 88 yX3_whereLay ∈ lw_big := b5_at 234 rfl rfl
theorem wim_X3_whereLay : Cond.instanceMethod yX3_whereLay ∈ lw_big := b4_at 39 rfl rfl
theorem wfl_X4_130 : Cond.fieldLink RX4 130 RX9 "told" "I" ∈ lw_big := b2_at 124 rfl rfl
theorem fl_X4_130 : FLk RX4 130 [9] 4 0 false := FLk.mk0 _ _ _ wfl_X4_130 (by decide +kernel)
theorem wfl_X4_135 : Cond.fieldLink RX4 135 RX9 "left" "[Z" ∈ lw_big := b2_at 122 rfl rfl
theorem fl_X4_135 : FLk RX4 135 [9] 3 2 true := FLk.mk0 _ _ _ wfl_X4_135 (by decide +kernel)
theorem wc_X4_placeOfBox : CWd yX4_placeOfBox cX4_placeOfBox 2 (some .int) 1 := ⟨b5_at 232 rfl rfl, wini_X4, by decide, by decide, by decide +kernel⟩
theorem wsel_X4_X4_placeOfBox : Cond.selects RX4 yX4_placeOfBox yX4_placeOfBox ∈ lw_big := big_sel 44 rfl rfl
theorem wsl_4_X4_placeOfBox : ∀ t ∈ ([4] : List Nat), t < 13 ∧ Cond.selects (RXX t) yX4_placeOfBox yX4_placeOfBox ∈ lw_big := fun t ht => by simp only [List.mem_cons, List.not_mem_nil, or_false] at ht; subst ht; exact ⟨by decide, wsel_X4_X4_placeOfBox⟩
theorem wml_X4_92 : Cond.methodLink RX4 92 yX4_placeOfBox ∈ lw_big := b5_at 229 rfl rfl
theorem wim_X4_placeOfBox : Cond.instanceMethod yX4_placeOfBox ∈ lw_big := b5_at 231 rfl rfl
theorem wfl_X4_138 : Cond.fieldLink RX4 138 RX9 "logs" "[I" ∈ lw_big := b2_at 119 rfl rfl
theorem fl_X4_138 : FLk RX4 138 [9] 2 2 true := FLk.mk0 _ _ _ wfl_X4_138 (by decide +kernel)
theorem wini_X11 : Cond.initialized RX11 ∈ lw_big := b1_at 1 rfl rfl
theorem wc_X11_far : CWd yX11_far cX11_far 2 (some .int) 2 := ⟨b3_at 21 rfl rfl, wini_X11, by decide, by decide, by decide +kernel⟩
theorem wmn_X4_145 : Cond.methodLinkNest RX4 145 yX11_far "HillBoxes" ∈ xtraW := xtra_at 1262 (by decide +kernel) rfl
theorem wst_X11_far : Cond.static yX11_far ∈ lw_big := b3_at 20 rfl rfl
theorem wc_X3_thingAt : CWd yX3_thingAt cX3_thingAt 3 (some (.object "HillBoxes$Thing")) 1 := ⟨b6_at 43 rfl rfl, wini_X3, by decide, by decide, by decide +kernel⟩
theorem wsel_X3_X3_thingAt : Cond.selects RX3 yX3_thingAt yX3_thingAt ∈ lw_big := b6_at 42 rfl rfl
theorem wsl_3_X3_thingAt : ∀ t ∈ ([3] : List Nat), t < 13 ∧ Cond.selects (RXX t) yX3_thingAt yX3_thingAt ∈ lw_big := fun t ht => by simp only [List.mem_cons, List.not_mem_nil, or_false] at ht; subst ht; exact ⟨by decide, wsel_X3_X3_thingAt⟩
theorem wml_X11_336 : Cond.methodLink RX11 336 yX3_thingAt ∈ lw_big := b6_at 40 rfl rfl
theorem wim_X3_thingAt : Cond.instanceMethod yX3_thingAt ∈ lw_big := b6_at 41 rfl rfl
theorem wc_X4_chainOf : CWd yX4_chainOf cX4_chainOf 7 (some .int) 1 := ⟨b6_at 61 rfl rfl, wini_X4, by decide, by decide, by decide +kernel⟩
theorem wsel_X4_X4_chainOf : Cond.selects RX4 yX4_chainOf yX4_chainOf ∈ lw_big := b6_at 60 rfl rfl
theorem wsl_4_X4_chainOf : ∀ t ∈ ([4] : List Nat), t < 13 ∧ Cond.selects (RXX t) yX4_chainOf yX4_chainOf ∈ lw_big := fun t ht => by simp only [List.mem_cons, List.not_mem_nil, or_false] at ht; subst ht; exact ⟨by decide, wsel_X4_X4_chainOf⟩
theorem wml_X11_356 : Cond.methodLink RX11 356 yX4_chainOf ∈ lw_big := b6_at 58 rfl rfl
theorem wim_X4_chainOf : Cond.instanceMethod yX4_chainOf ∈ lw_big := b6_at 59 rfl rfl
theorem wfl_X1_58 : Cond.fieldLink RX1 58 RX1 "nameCount" "I" ∈ lw_big := b3_at 175 rfl rfl
theorem fl_X1_58 : FLk RX1 58 [1] 15 0 false := FLk.mk0 _ _ _ wfl_X1_58 (by decide +kernel)
theorem wfl_X1_15 : Cond.fieldLink RX1 15 RX1 "names" "[I" ∈ lw_big := b3_at 148 rfl rfl
theorem fl_X1_15 : FLk RX1 15 [1] 5 2 true := FLk.mk0 _ _ _ wfl_X1_15 (by decide +kernel)
theorem wc_X4_isBehind : CWd yX4_isBehind cX4_isBehind 3 (some .boolean) 2 := ⟨b5_at 185 rfl rfl, wini_X4, by decide, by decide, by decide +kernel⟩
theorem wsel_X4_X4_isBehind : Cond.selects RX4 yX4_isBehind yX4_isBehind ∈ lw_big := big_sel 42 rfl rfl
theorem wsl_4_X4_isBehind : ∀ t ∈ ([4] : List Nat), t < 13 ∧ Cond.selects (RXX t) yX4_isBehind yX4_isBehind ∈ lw_big := fun t ht => by simp only [List.mem_cons, List.not_mem_nil, or_false] at ht; subst ht; exact ⟨by decide, wsel_X4_X4_isBehind⟩
theorem wml_X4_67 : Cond.methodLink RX4 67 yX4_isBehind ∈ lw_big := b5_at 182 rfl rfl
theorem wim_X4_isBehind : Cond.instanceMethod yX4_isBehind ∈ lw_big := b5_at 184 rfl rfl
theorem wml_X11_231 : Cond.methodLink RX11 231 yX11_far ∈ lw_big := b5_at 54 rfl rfl
theorem wml_X4_112 : Cond.methodLink RX4 112 Lib.Math.abs.name ∈ lw_big := b5_at 239 rfl rfl
theorem wc_X11_hoursBetween : CWd yX11_hoursBetween cX11_hoursBetween 2 (some .int) 2 := ⟨b6_at 2 rfl rfl, wini_X11, by decide, by decide, by decide +kernel⟩
theorem wmn_X4_117 : Cond.methodLinkNest RX4 117 yX11_hoursBetween "HillBoxes" ∈ xtraW := xtra_at 1200 (by decide +kernel) rfl
theorem wst_X11_hoursBetween : Cond.static yX11_hoursBetween ∈ lw_big := b6_at 1 rfl rfl
theorem wc_X4_tooSoonBy : CWd yX4_tooSoonBy cX4_tooSoonBy 5 (some .int) 1 := ⟨b5_at 238 rfl rfl, wini_X4, by decide, by decide, by decide +kernel⟩
theorem wsel_X4_X4_tooSoonBy : Cond.selects RX4 yX4_tooSoonBy yX4_tooSoonBy ∈ lw_big := b5_at 237 rfl rfl
theorem wsl_4_X4_tooSoonBy : ∀ t ∈ ([4] : List Nat), t < 13 ∧ Cond.selects (RXX t) yX4_tooSoonBy yX4_tooSoonBy ∈ lw_big := fun t ht => by simp only [List.mem_cons, List.not_mem_nil, or_false] at ht; subst ht; exact ⟨by decide, wsel_X4_X4_tooSoonBy⟩
theorem wml_X4_96 : Cond.methodLink RX4 96 yX4_tooSoonBy ∈ lw_big := b5_at 235 rfl rfl
theorem wim_X4_tooSoonBy : Cond.instanceMethod yX4_tooSoonBy ∈ lw_big := b5_at 236 rfl rfl
theorem wfl_X4_99 : Cond.fieldLink RX4 99 RX1 "kind" "I" ∈ lw_big := b2_at 141 rfl rfl
theorem fl_X4_99 : FLk RX4 99 [1] 1 0 true := FLk.mk1 _ _ _ _ wfl_X4_99 wsf_X1_kind (by decide +kernel)
theorem wfl_X4_105 : Cond.fieldLink RX4 105 RX1 "paperSeen" "Z" ∈ lw_big := b3_at 177 rfl rfl
theorem fl_X4_105 : FLk RX4 105 [1] 16 0 false := FLk.mk0 _ _ _ wfl_X4_105 (by decide +kernel)
theorem wc_X4_isBetweenMisses : CWd yX4_isBetweenMisses cX4_isBetweenMisses 5 (some .boolean) 1 := ⟨b6_at 9 rfl rfl, wini_X4, by decide, by decide, by decide +kernel⟩
theorem wsel_X4_X4_isBetweenMisses : Cond.selects RX4 yX4_isBetweenMisses yX4_isBetweenMisses ∈ lw_big := big_sel 45 rfl rfl
theorem wsl_4_X4_isBetweenMisses : ∀ t ∈ ([4] : List Nat), t < 13 ∧ Cond.selects (RXX t) yX4_isBetweenMisses yX4_isBetweenMisses ∈ lw_big := fun t ht => by simp only [List.mem_cons, List.not_mem_nil, or_false] at ht; subst ht; exact ⟨by decide, wsel_X4_X4_isBetweenMisses⟩
theorem wml_X4_109 : Cond.methodLink RX4 109 yX4_isBetweenMisses ∈ lw_big := b6_at 6 rfl rfl
theorem wim_X4_isBetweenMisses : Cond.instanceMethod yX4_isBetweenMisses ∈ lw_big := b6_at 8 rfl rfl
theorem wc_X1_isOnPaper : CWd yX1_isOnPaper cX1_isOnPaper 3 (some .boolean) 1 := ⟨b3_at 28 rfl rfl, wini_X1, by decide, by decide, by decide +kernel⟩
theorem wsel_X1_X1_isOnPaper : Cond.selects RX1 yX1_isOnPaper yX1_isOnPaper ∈ lw_big := b3_at 27 rfl rfl
theorem wsl_1_X1_isOnPaper : ∀ t ∈ ([1] : List Nat), t < 13 ∧ Cond.selects (RXX t) yX1_isOnPaper yX1_isOnPaper ∈ lw_big := fun t ht => by simp only [List.mem_cons, List.not_mem_nil, or_false] at ht; subst ht; exact ⟨by decide, wsel_X1_X1_isOnPaper⟩
theorem wml_X4_75 : Cond.methodLink RX4 75 yX1_isOnPaper ∈ lw_big := b5_at 203 rfl rfl
theorem wim_X1_isOnPaper : Cond.instanceMethod yX1_isOnPaper ∈ lw_big := b3_at 26 rfl rfl
theorem wc_X11_isNightHour : CWd yX11_isNightHour cX11_isNightHour 1 (some .boolean) 1 := ⟨b6_at 5 rfl rfl, wini_X11, by decide, by decide, by decide +kernel⟩
theorem wmn_X4_102 : Cond.methodLinkNest RX4 102 yX11_isNightHour "HillBoxes" ∈ xtraW := xtra_at 1203 (by decide +kernel) rfl
theorem wst_X11_isNightHour : Cond.static yX11_isNightHour ∈ lw_big := b6_at 4 rfl rfl
theorem wc_X4_hasAnotherFound : CWd yX4_hasAnotherFound cX4_hasAnotherFound 3 (some .boolean) 1 := ⟨b6_at 34 rfl rfl, wini_X4, by decide, by decide, by decide +kernel⟩
theorem wsel_X4_X4_hasAnotherFound : Cond.selects RX4 yX4_hasAnotherFound yX4_hasAnotherFound ∈ lw_big := big_sel 46 rfl rfl
theorem wsl_4_X4_hasAnotherFound : ∀ t ∈ ([4] : List Nat), t < 13 ∧ Cond.selects (RXX t) yX4_hasAnotherFound yX4_hasAnotherFound ∈ lw_big := fun t ht => by simp only [List.mem_cons, List.not_mem_nil, or_false] at ht; subst ht; exact ⟨by decide, wsel_X4_X4_hasAnotherFound⟩
theorem wml_X4_124 : Cond.methodLink RX4 124 yX4_hasAnotherFound ∈ lw_big := b6_at 31 rfl rfl
theorem wim_X4_hasAnotherFound : Cond.instanceMethod yX4_hasAnotherFound ∈ lw_big := b6_at 33 rfl rfl
theorem wc_X4_whyFalse : CWd yX4_whyFalse cX4_whyFalse 4 (some .int) 1 := ⟨b5_at 228 rfl rfl, wini_X4, by decide, by decide, by decide +kernel⟩
theorem wsel_X4_X4_whyFalse : Cond.selects RX4 yX4_whyFalse yX4_whyFalse ∈ lw_big := b5_at 227 rfl rfl
theorem wsl_4_X4_whyFalse : ∀ t ∈ ([4] : List Nat), t < 13 ∧ Cond.selects (RXX t) yX4_whyFalse yX4_whyFalse ∈ lw_big := fun t ht => by simp only [List.mem_cons, List.not_mem_nil, or_false] at ht; subst ht; exact ⟨by decide, wsel_X4_X4_whyFalse⟩
theorem wml_X4_127 : Cond.methodLink RX4 127 yX4_whyFalse ∈ lw_big := b6_at 35 rfl rfl
theorem wim_X4_whyFalse : Cond.instanceMethod yX4_whyFalse ∈ lw_big := b5_at 226 rfl rfl
theorem wc_X4_chanceOf : CWd yX4_chanceOf cX4_chanceOf 4 (some .int) 1 := ⟨b6_at 30 rfl rfl, wini_X4, by decide, by decide, by decide +kernel⟩
theorem wsel_X4_X4_chanceOf : Cond.selects RX4 yX4_chanceOf yX4_chanceOf ∈ lw_big := b6_at 29 rfl rfl
theorem wsl_4_X4_chanceOf : ∀ t ∈ ([4] : List Nat), t < 13 ∧ Cond.selects (RXX t) yX4_chanceOf yX4_chanceOf ∈ lw_big := fun t ht => by simp only [List.mem_cons, List.not_mem_nil, or_false] at ht; subst ht; exact ⟨by decide, wsel_X4_X4_chanceOf⟩
theorem wml_X11_332 : Cond.methodLink RX11 332 yX4_chanceOf ∈ lw_big := b6_at 27 rfl rfl
theorem wim_X4_chanceOf : Cond.instanceMethod yX4_chanceOf ∈ lw_big := b6_at 28 rfl rfl
theorem wml_X11_137 : Cond.methodLink RX11 137 yX1_isDown ∈ lw_big := b3_at 229 rfl rfl
theorem wc_X11_countBoxes : CWd yX11_countBoxes cX11_countBoxes 5 (some .int) 1 := ⟨b7_at 77 rfl rfl, wini_X11, by decide, by decide, by decide +kernel⟩
theorem wsel_X11_X11_countBoxes : Cond.selects RX11 yX11_countBoxes yX11_countBoxes ∈ lw_big := big_sel 59 rfl rfl
theorem wsl_11_X11_countBoxes : ∀ t ∈ ([11] : List Nat), t < 13 ∧ Cond.selects (RXX t) yX11_countBoxes yX11_countBoxes ∈ lw_big := fun t ht => by simp only [List.mem_cons, List.not_mem_nil, or_false] at ht; subst ht; exact ⟨by decide, wsel_X11_X11_countBoxes⟩
theorem wml_X11_479 : Cond.methodLink RX11 479 yX11_countBoxes ∈ lw_big := b7_at 74 rfl rfl
theorem wim_X11_countBoxes : Cond.instanceMethod yX11_countBoxes ∈ lw_big := b7_at 76 rfl rfl
theorem wc_X11_countFinders : CWd yX11_countFinders cX11_countFinders 5 (some .int) 1 := ⟨b7_at 81 rfl rfl, wini_X11, by decide, by decide, by decide +kernel⟩
theorem wsel_X11_X11_countFinders : Cond.selects RX11 yX11_countFinders yX11_countFinders ∈ lw_big := big_sel 60 rfl rfl
theorem wsl_11_X11_countFinders : ∀ t ∈ ([11] : List Nat), t < 13 ∧ Cond.selects (RXX t) yX11_countFinders yX11_countFinders ∈ lw_big := fun t ht => by simp only [List.mem_cons, List.not_mem_nil, or_false] at ht; subst ht; exact ⟨by decide, wsel_X11_X11_countFinders⟩
theorem wml_X11_482 : Cond.methodLink RX11 482 yX11_countFinders ∈ lw_big := b7_at 78 rfl rfl
theorem wim_X11_countFinders : Cond.instanceMethod yX11_countFinders ∈ lw_big := b7_at 80 rfl rfl
theorem wfl_X11_285 : Cond.fieldLink RX11 285 RX4 "size" "I" ∈ lw_big := b1_at 193 rfl rfl
theorem fl_X11_285 : FLk RX11 285 [4] 2 0 false := FLk.mk0 _ _ _ wfl_X11_285 (by decide +kernel)
theorem wfl_X11_485 : Cond.fieldLink RX11 485 RX6 "made" "I" ∈ lw_big := b1_at 133 rfl rfl
theorem fl_X11_485 : FLk RX11 485 [6] 1 0 false := FLk.mk0 _ _ _ wfl_X11_485 (by decide +kernel)
theorem wfl_X11_179 : Cond.fieldLink RX11 179 RX6 "tape" "LHillBoxes$Tape;" ∈ lw_big := b1_at 131 rfl rfl
theorem fl_X11_179 : FLk RX11 179 [6] 0 2 true := FLk.mk0 _ _ _ wfl_X11_179 (by decide +kernel)
theorem wfl_X11_191 : Cond.fieldLink RX11 191 RX8 "length" "I" ∈ lw_big := b1_at 96 rfl rfl
theorem fl_X11_191 : FLk RX11 191 [8] 0 0 false := FLk.mk0 _ _ _ wfl_X11_191 (by decide +kernel)
theorem wfl_X11_52 : Cond.fieldLink RX11 52 RX3 "today" "I" ∈ lw_big := b1_at 41 rfl rfl
theorem fl_X11_52 : FLk RX11 52 [3] 0 0 false := FLk.mk0 _ _ _ wfl_X11_52 (by decide +kernel)
theorem wfl_X11_100 : Cond.fieldLink RX11 100 RX3 "stepCount" "I" ∈ lw_big := b1_at 53 rfl rfl
theorem fl_X11_100 : FLk RX11 100 [3] 5 0 false := FLk.mk0 _ _ _ wfl_X11_100 (by decide +kernel)
theorem wfl_X11_153 : Cond.fieldLink RX11 153 RX1 "downOn" "I" ∈ lw_big := b3_at 166 rfl rfl
theorem fl_X11_153 : FLk RX11 153 [1] 11 0 false := FLk.mk0 _ _ _ wfl_X11_153 (by decide +kernel)
theorem wfl_X7_19 : Cond.fieldLink RX7 19 RX7 "isRow" "Z" ∈ lw_big := b2_at 51 rfl rfl
theorem fl_X7_19 : FLk RX7 19 [7] 1 0 false := FLk.mk0 _ _ _ wfl_X7_19 (by decide +kernel)
theorem wfl_X7_27 : Cond.fieldLink RX7 27 RX7 "size" "I" ∈ lw_big := b2_at 55 rfl rfl
theorem fl_X7_27 : FLk RX7 27 [7] 3 0 false := FLk.mk0 _ _ _ wfl_X7_27 (by decide +kernel)
theorem wc_X7_hasPlaces : CWd yX7_hasPlaces cX7_hasPlaces 4 (some .boolean) 2 := ⟨b5_at 87 rfl rfl, wini_X7, by decide, by decide, by decide +kernel⟩
theorem wsel_X7_X7_hasPlaces : Cond.selects RX7 yX7_hasPlaces yX7_hasPlaces ∈ lw_big := b5_at 86 rfl rfl
theorem wsl_7_X7_hasPlaces : ∀ t ∈ ([7] : List Nat), t < 13 ∧ Cond.selects (RXX t) yX7_hasPlaces yX7_hasPlaces ∈ lw_big := fun t ht => by simp only [List.mem_cons, List.not_mem_nil, or_false] at ht; subst ht; exact ⟨by decide, wsel_X7_X7_hasPlaces⟩
theorem wml_X7_36 : Cond.methodLink RX7 36 yX7_hasPlaces ∈ lw_big := b5_at 93 rfl rfl
theorem wim_X7_hasPlaces : Cond.instanceMethod yX7_hasPlaces ∈ lw_big := b5_at 85 rfl rfl
theorem wc_X11_shelfAt : CWd yX11_shelfAt cX11_shelfAt 2 (some (.object "HillBoxes$Shelf")) 1 := ⟨b5_at 66 rfl rfl, wini_X11, by decide, by decide, by decide +kernel⟩
theorem wsel_X11_X11_shelfAt : Cond.selects RX11 yX11_shelfAt yX11_shelfAt ∈ lw_big := big_sel 31 rfl rfl
theorem wsl_11_X11_shelfAt : ∀ t ∈ ([11] : List Nat), t < 13 ∧ Cond.selects (RXX t) yX11_shelfAt yX11_shelfAt ∈ lw_big := fun t ht => by simp only [List.mem_cons, List.not_mem_nil, or_false] at ht; subst ht; exact ⟨by decide, wsel_X11_X11_shelfAt⟩
theorem wml_X11_238 : Cond.methodLink RX11 238 yX11_shelfAt ∈ lw_big := b5_at 63 rfl rfl
theorem wim_X11_shelfAt : Cond.instanceMethod yX11_shelfAt ∈ lw_big := b5_at 65 rfl rfl
theorem wk_X11_272 : Cond.constantLong RX11 272 (-9223372036854775808) ∈ lw_big := b5_at 166 rfl rfl
theorem wc_X7_elementOr : CWd yX7_elementOr cX7_elementOr 5 (some .long) 2 := ⟨b5_at 92 rfl rfl, wini_X7, by decide, by decide, by decide +kernel⟩
theorem wsel_X7_X7_elementOr : Cond.selects RX7 yX7_elementOr yX7_elementOr ∈ lw_big := b5_at 91 rfl rfl
theorem wsl_7_X7_elementOr : ∀ t ∈ ([7] : List Nat), t < 13 ∧ Cond.selects (RXX t) yX7_elementOr yX7_elementOr ∈ lw_big := fun t ht => by simp only [List.mem_cons, List.not_mem_nil, or_false] at ht; subst ht; exact ⟨by decide, wsel_X7_X7_elementOr⟩
theorem wml_X11_296 : Cond.methodLink RX11 296 yX7_elementOr ∈ lw_big := b5_at 194 rfl rfl
theorem wim_X7_elementOr : Cond.instanceMethod yX7_elementOr ∈ lw_big := b5_at 90 rfl rfl
theorem wfl_X8_25 : Cond.fieldLink RX8 25 RX8 "length" "I" ∈ lw_big := b1_at 94 rfl rfl
theorem fl_X8_25 : FLk RX8 25 [8] 0 0 false := FLk.mk0 _ _ _ wfl_X8_25 (by decide +kernel)
theorem wc_X8_hasRoomFor : CWd yX8_hasRoomFor cX8_hasRoomFor 2 (some .boolean) 1 := ⟨b4_at 51 rfl rfl, wini_X8, by decide, by decide, by decide +kernel⟩
theorem wsel_X8_X8_hasRoomFor : Cond.selects RX8 yX8_hasRoomFor yX8_hasRoomFor ∈ lw_big := b4_at 50 rfl rfl
theorem wsl_8_X8_hasRoomFor : ∀ t ∈ ([8] : List Nat), t < 13 ∧ Cond.selects (RXX t) yX8_hasRoomFor yX8_hasRoomFor ∈ lw_big := fun t ht => by simp only [List.mem_cons, List.not_mem_nil, or_false] at ht; subst ht; exact ⟨by decide, wsel_X8_X8_hasRoomFor⟩
theorem wml_X11_183 : Cond.methodLink RX11 183 yX8_hasRoomFor ∈ lw_big := b4_at 48 rfl rfl
theorem wim_X8_hasRoomFor : Cond.instanceMethod yX8_hasRoomFor ∈ lw_big := b4_at 49 rfl rfl
theorem wc_X8_append : CWd yX8_append cX8_append 2 none 1 := ⟨b4_at 55 rfl rfl, wini_X8, by decide, by decide, by decide +kernel⟩
theorem wsel_X8_X8_append : Cond.selects RX8 yX8_append yX8_append ∈ lw_big := b4_at 54 rfl rfl
theorem wsl_8_X8_append : ∀ t ∈ ([8] : List Nat), t < 13 ∧ Cond.selects (RXX t) yX8_append yX8_append ∈ lw_big := fun t ht => by simp only [List.mem_cons, List.not_mem_nil, or_false] at ht; subst ht; exact ⟨by decide, wsel_X8_X8_append⟩
theorem wml_X11_188 : Cond.methodLink RX11 188 yX8_append ∈ lw_big := b4_at 52 rfl rfl
theorem wim_X8_append : Cond.instanceMethod yX8_append ∈ lw_big := b4_at 53 rfl rfl
theorem wml_X2_3 : Cond.methodLink RX2 3 yX0_init ∈ lw_big := b2_at 173 rfl rfl
theorem wfl_X2_15 : Cond.fieldLink RX2 15 RX2 "home" "I" ∈ lw_big := b2_at 174 rfl rfl
theorem fl_X2_15 : FLk RX2 15 [2] 2 0 true := FLk.mk0 _ _ _ wfl_X2_15 (by decide +kernel)
theorem wfl_X2_18 : Cond.fieldLink RX2 18 RX2 "since" "I" ∈ lw_big := b2_at 177 rfl rfl
theorem fl_X2_18 : FLk RX2 18 [2] 3 0 true := FLk.mk0 _ _ _ wfl_X2_18 (by decide +kernel)
theorem wc_X11_isCell : CWd yX11_isCell cX11_isCell 1 (some .boolean) 1 := ⟨b2_at 99 rfl rfl, wini_X11, by decide, by decide, by decide +kernel⟩
theorem wml_X11_56 : Cond.methodLink RX11 56 yX11_isCell ∈ lw_big := b2_at 97 rfl rfl
theorem wst_X11_isCell : Cond.static yX11_isCell ∈ lw_big := b2_at 98 rfl rfl
theorem wcl_X11_85 : Cond.classLink RX11 85 RX2 ∈ lw_big := b2_at 168 rfl rfl
theorem wins_X2 : Cond.instantiable RX2 5 ∈ lw_big := b2_at 169 rfl rfl
theorem wc_X2_init : CWd yX2_init cX2_init 4 none 3 := ⟨b2_at 172 rfl rfl, wini_X2, by decide, by decide, by decide +kernel⟩
theorem wml_X11_87 : Cond.methodLink RX11 87 yX2_init ∈ lw_big := b2_at 170 rfl rfl
theorem wim_X2_init : Cond.instanceMethod yX2_init ∈ lw_big := b2_at 171 rfl rfl
theorem wfl_X6_45 : Cond.fieldLink RX6 45 RX6 "made" "I" ∈ lw_big := b1_at 132 rfl rfl
theorem fl_X6_45 : FLk RX6 45 [6] 1 0 false := FLk.mk0 _ _ _ wfl_X6_45 (by decide +kernel)
theorem wml_X3_52 : Cond.methodLink RX3 52 yX3_boxAt ∈ lw_big := b3_at 14 rfl rfl
theorem wfl_X3_56 : Cond.fieldLink RX3 56 RX1 "keeper" "I" ∈ lw_big := b3_at 155 rfl rfl
theorem fl_X3_56 : FLk RX3 56 [1] 8 0 false := FLk.mk0 _ _ _ wfl_X3_56 (by decide +kernel)
theorem wfl_X6_67 : Cond.fieldLink RX6 67 RX6 "askedFinder" "LHillBoxes$Finder;" ∈ lw_big := b1_at 144 rfl rfl
theorem fl_X6_67 : FLk RX6 67 [6] 11 2 false := FLk.mk0 _ _ _ wfl_X6_67 (by decide +kernel)
theorem wfl_X6_71 : Cond.fieldLink RX6 71 RX6 "askedBox" "LHillBoxes$Box;" ∈ lw_big := b1_at 145 rfl rfl
theorem fl_X6_71 : FLk RX6 71 [6] 12 2 false := FLk.mk0 _ _ _ wfl_X6_71 (by decide +kernel)
theorem wfl_X6_64 : Cond.fieldLink RX6 64 RX6 "askedDay" "I" ∈ lw_big := b1_at 143 rfl rfl
theorem fl_X6_64 : FLk RX6 64 [6] 10 0 false := FLk.mk0 _ _ _ wfl_X6_64 (by decide +kernel)
theorem wfl_X6_80 : Cond.fieldLink RX6 80 RX6 "askedKind" "I" ∈ lw_big := b1_at 146 rfl rfl
theorem fl_X6_80 : FLk RX6 80 [6] 13 0 false := FLk.mk0 _ _ _ wfl_X6_80 (by decide +kernel)
theorem wfl_X6_186 : Cond.fieldLink RX6 186 RX2 "number" "I" ∈ lw_big := b2_at 134 rfl rfl
theorem wsf_X2_number : Cond.sameField RX2 RX0 "number" "I" ∈ lw_big := b2_at 133 rfl rfl
theorem fl_X6_186 : FLk RX6 186 [2] 0 0 true := FLk.mk1 _ _ _ _ wfl_X6_186 wsf_X2_number (by decide +kernel)
theorem wc_X3_ownOf : CWd yX3_ownOf cX3_ownOf 5 (some .int) 1 := ⟨b3_at 13 rfl rfl, wini_X3, by decide, by decide, by decide +kernel⟩
theorem wsel_X3_X3_ownOf : Cond.selects RX3 yX3_ownOf yX3_ownOf ∈ lw_big := b3_at 12 rfl rfl
theorem wsl_3_X3_ownOf : ∀ t ∈ ([3] : List Nat), t < 13 ∧ Cond.selects (RXX t) yX3_ownOf yX3_ownOf ∈ lw_big := fun t ht => by simp only [List.mem_cons, List.not_mem_nil, or_false] at ht; subst ht; exact ⟨by decide, wsel_X3_X3_ownOf⟩
theorem wml_X6_189 : Cond.methodLink RX6 189 yX3_ownOf ∈ lw_big := b3_at 10 rfl rfl
theorem wim_X3_ownOf : Cond.instanceMethod yX3_ownOf ∈ lw_big := b3_at 11 rfl rfl
theorem wfl_X6_192 : Cond.fieldLink RX6 192 RX2 "since" "I" ∈ lw_big := b2_at 178 rfl rfl
theorem fl_X6_192 : FLk RX6 192 [2] 3 0 true := FLk.mk0 _ _ _ wfl_X6_192 (by decide +kernel)
theorem wfl_X6_195 : Cond.fieldLink RX6 195 RX1 "hiddenOn" "I" ∈ lw_big := b3_at 142 rfl rfl
theorem fl_X6_195 : FLk RX6 195 [1] 2 0 true := FLk.mk0 _ _ _ wfl_X6_195 (by decide +kernel)
theorem wfl_X6_198 : Cond.fieldLink RX6 198 RX1 "finds" "I" ∈ lw_big := b3_at 168 rfl rfl
theorem fl_X6_198 : FLk RX6 198 [1] 12 0 false := FLk.mk0 _ _ _ wfl_X6_198 (by decide +kernel)
theorem wfl_X6_201 : Cond.fieldLink RX6 201 RX1 "misses" "I" ∈ lw_big := b3_at 171 rfl rfl
theorem fl_X6_201 : FLk RX6 201 [1] 13 0 false := FLk.mk0 _ _ _ wfl_X6_201 (by decide +kernel)
theorem wfl_X6_89 : Cond.fieldLink RX6 89 RX6 "askedHour" "I" ∈ lw_big := b1_at 148 rfl rfl
theorem fl_X6_89 : FLk RX6 89 [6] 15 0 false := FLk.mk0 _ _ _ wfl_X6_89 (by decide +kernel)
theorem wfl_X6_86 : Cond.fieldLink RX6 86 RX6 "askedCell" "I" ∈ lw_big := b1_at 147 rfl rfl
theorem fl_X6_86 : FLk RX6 86 [6] 14 0 false := FLk.mk0 _ _ _ wfl_X6_86 (by decide +kernel)
theorem wfl_X6_204 : Cond.fieldLink RX6 204 RX2 "home" "I" ∈ lw_big := b2_at 175 rfl rfl
theorem fl_X6_204 : FLk RX6 204 [2] 2 0 true := FLk.mk0 _ _ _ wfl_X6_204 (by decide +kernel)
theorem wmn_X6_169 : Cond.methodLinkNest RX6 169 yX11_far "HillBoxes" ∈ xtraW := xtra_at 499 (by decide +kernel) rfl
theorem wml_X6_207 : Cond.methodLink RX6 207 yX1_isOnPaper ∈ lw_big := b3_at 25 rfl rfl
theorem wfl_X6_211 : Cond.fieldLink RX6 211 RX1 "keeper" "I" ∈ lw_big := b3_at 156 rfl rfl
theorem fl_X6_211 : FLk RX6 211 [1] 8 0 false := FLk.mk0 _ _ _ wfl_X6_211 (by decide +kernel)
theorem wc_X6_push : CWd yX6_push cX6_push 3 (some .int) 2 := ⟨b3_at 32 rfl rfl, wini_X6, by decide, by decide, by decide +kernel⟩
theorem wsel_X6_X6_push : Cond.selects RX6 yX6_push yX6_push ∈ lw_big := big_sel 3 rfl rfl
theorem wsl_6_X6_push : ∀ t ∈ ([6] : List Nat), t < 13 ∧ Cond.selects (RXX t) yX6_push yX6_push ∈ lw_big := fun t ht => by simp only [List.mem_cons, List.not_mem_nil, or_false] at ht; subst ht; exact ⟨by decide, wsel_X6_X6_push⟩
theorem wml_X6_177 : Cond.methodLink RX6 177 yX6_push ∈ lw_big := b3_at 29 rfl rfl
theorem wim_X6_push : Cond.instanceMethod yX6_push ∈ lw_big := b3_at 31 rfl rfl
theorem wc_X6_read : CWd yX6_read cX6_read 2 (some .int) 1 := ⟨b3_at 36 rfl rfl, wini_X6, by decide, by decide, by decide +kernel⟩
theorem wsel_X6_X6_read : Cond.selects RX6 yX6_read yX6_read ∈ lw_big := big_sel 4 rfl rfl
theorem wsl_6_X6_read : ∀ t ∈ ([6] : List Nat), t < 13 ∧ Cond.selects (RXX t) yX6_read yX6_read ∈ lw_big := fun t ht => by simp only [List.mem_cons, List.not_mem_nil, or_false] at ht; subst ht; exact ⟨by decide, wsel_X6_X6_read⟩
theorem wml_X6_180 : Cond.methodLink RX6 180 yX6_read ∈ lw_big := b3_at 33 rfl rfl
theorem wim_X6_read : Cond.instanceMethod yX6_read ∈ lw_big := b3_at 35 rfl rfl
theorem wc_X6_ofTwo : CWd yX6_ofTwo cX6_ofTwo 3 (some .int) 3 := ⟨b3_at 39 rfl rfl, wini_X6, by decide, by decide, by decide +kernel⟩
theorem wml_X6_183 : Cond.methodLink RX6 183 yX6_ofTwo ∈ lw_big := b3_at 37 rfl rfl
theorem wst_X6_ofTwo : Cond.static yX6_ofTwo ∈ lw_big := b3_at 38 rfl rfl
theorem wc_X6_numberOf : CWd yX6_numberOf cX6_numberOf 4 (some .int) 1 := ⟨b3_at 9 rfl rfl, wini_X6, by decide, by decide, by decide +kernel⟩
theorem wsel_X6_X6_numberOf : Cond.selects RX6 yX6_numberOf yX6_numberOf ∈ lw_big := big_sel 2 rfl rfl
theorem wsl_6_X6_numberOf : ∀ t ∈ ([6] : List Nat), t < 13 ∧ Cond.selects (RXX t) yX6_numberOf yX6_numberOf ∈ lw_big := fun t ht => by simp only [List.mem_cons, List.not_mem_nil, or_false] at ht; subst ht; exact ⟨by decide, wsel_X6_X6_numberOf⟩
theorem wml_X6_174 : Cond.methodLink RX6 174 yX6_numberOf ∈ lw_big := b3_at 6 rfl rfl
theorem wim_X6_numberOf : Cond.instanceMethod yX6_numberOf ∈ lw_big := b3_at 8 rfl rfl
theorem wfl_X6_55 : Cond.fieldLink RX6 55 RX3 "today" "I" ∈ lw_big := b1_at 42 rfl rfl
theorem fl_X6_55 : FLk RX6 55 [3] 0 0 false := FLk.mk0 _ _ _ wfl_X6_55 (by decide +kernel)
theorem wc_X6_ruleFor : CWd yX6_ruleFor cX6_ruleFor 5 (some .int) 3 := ⟨b2_at 239 rfl rfl, wini_X6, by decide, by decide, by decide +kernel⟩
theorem wsel_X6_X6_ruleFor : Cond.selects RX6 yX6_ruleFor yX6_ruleFor ∈ lw_big := b2_at 238 rfl rfl
theorem wsl_6_X6_ruleFor : ∀ t ∈ ([6] : List Nat), t < 13 ∧ Cond.selects (RXX t) yX6_ruleFor yX6_ruleFor ∈ lw_big := fun t ht => by simp only [List.mem_cons, List.not_mem_nil, or_false] at ht; subst ht; exact ⟨by decide, wsel_X6_X6_ruleFor⟩
theorem wml_X6_92 : Cond.methodLink RX6 92 yX6_ruleFor ∈ lw_big := b2_at 236 rfl rfl
theorem wim_X6_ruleFor : Cond.instanceMethod yX6_ruleFor ∈ lw_big := b2_at 237 rfl rfl
theorem wc_X6_work : CWd yX6_work cX6_work 9 (some .int) 1 := ⟨b3_at 5 rfl rfl, wini_X6, by decide, by decide, by decide +kernel⟩
theorem wsel_X6_X6_work : Cond.selects RX6 yX6_work yX6_work ∈ lw_big := big_sel 1 rfl rfl
theorem wsl_6_X6_work : ∀ t ∈ ([6] : List Nat), t < 13 ∧ Cond.selects (RXX t) yX6_work yX6_work ∈ lw_big := fun t ht => by simp only [List.mem_cons, List.not_mem_nil, or_false] at ht; subst ht; exact ⟨by decide, wsel_X6_X6_work⟩
theorem wml_X6_99 : Cond.methodLink RX6 99 yX6_work ∈ lw_big := b3_at 2 rfl rfl
theorem wim_X6_work : Cond.instanceMethod yX6_work ∈ lw_big := b3_at 4 rfl rfl
theorem wml_X6_103 : Cond.methodLink RX6 103 Lib.Math.min.name ∈ lw_big := b3_at 40 rfl rfl
theorem wst_mmin : Cond.static Lib.Math.min.name ∈ lw_big := b3_at 41 rfl rfl
theorem wcd_mmin : Cond.code Lib.Math.min.name Lib.Math.min.code 2 (some .int) ∈ lw_big := b3_at 42 rfl rfl
theorem wml_X6_109 : Cond.methodLink RX6 109 Lib.Math.max.name ∈ lw_big := b3_at 43 rfl rfl
theorem wst_mmax : Cond.static Lib.Math.max.name ∈ lw_big := b3_at 44 rfl rfl
theorem wcd_mmax : Cond.code Lib.Math.max.name Lib.Math.max.code 2 (some .int) ∈ lw_big := b3_at 45 rfl rfl
theorem wfl_X6_96 : Cond.fieldLink RX6 96 "HillBoxes$Rules" "UNRULED" "[I" ∈ lw_big := b3_at 0 rfl rfl
theorem wfl_X6_83 : Cond.fieldLink RX6 83 RX1 "cell" "I" ∈ lw_big := b3_at 159 rfl rfl
theorem fl_X6_83 : FLk RX6 83 [1] 9 0 false := FLk.mk0 _ _ _ wfl_X6_83 (by decide +kernel)
theorem wfl_X6_75 : Cond.fieldLink RX6 75 RX1 "kind" "I" ∈ lw_big := b2_at 136 rfl rfl
theorem fl_X6_75 : FLk RX6 75 [1] 1 0 true := FLk.mk1 _ _ _ _ wfl_X6_75 wsf_X1_kind (by decide +kernel)
theorem wml_X6_123 : Cond.methodLink RX6 123 yX3_finderAt ∈ lw_big := b5_at 216 rfl rfl
theorem wml_X6_127 : Cond.methodLink RX6 127 yX3_boxAt ∈ lw_big := b3_at 58 rfl rfl
theorem wc_X6_askForBox : CWd yX6_askForBox cX6_askForBox 5 none 4 := ⟨b3_at 53 rfl rfl, wini_X6, by decide, by decide, by decide +kernel⟩
theorem wsel_X6_X6_askForBox : Cond.selects RX6 yX6_askForBox yX6_askForBox ∈ lw_big := b3_at 52 rfl rfl
theorem wsl_6_X6_askForBox : ∀ t ∈ ([6] : List Nat), t < 13 ∧ Cond.selects (RXX t) yX6_askForBox yX6_askForBox ∈ lw_big := fun t ht => by simp only [List.mem_cons, List.not_mem_nil, or_false] at ht; subst ht; exact ⟨by decide, wsel_X6_X6_askForBox⟩
theorem wml_X6_119 : Cond.methodLink RX6 119 yX6_askForBox ∈ lw_big := b3_at 50 rfl rfl
theorem wim_X6_askForBox : Cond.instanceMethod yX6_askForBox ∈ lw_big := b3_at 51 rfl rfl
theorem wc_X6_answer : CWd yX6_answer cX6_answer 5 (some .int) 2 := ⟨b2_at 235 rfl rfl, wini_X6, by decide, by decide, by decide +kernel⟩
theorem wsel_X6_X6_answer : Cond.selects RX6 yX6_answer yX6_answer ∈ lw_big := b2_at 234 rfl rfl
theorem wsl_6_X6_answer : ∀ t ∈ ([6] : List Nat), t < 13 ∧ Cond.selects (RXX t) yX6_answer yX6_answer ∈ lw_big := fun t ht => by simp only [List.mem_cons, List.not_mem_nil, or_false] at ht; subst ht; exact ⟨by decide, wsel_X6_X6_answer⟩
theorem wml_X6_116 : Cond.methodLink RX6 116 yX6_answer ∈ lw_big := b2_at 232 rfl rfl
theorem wim_X6_answer : Cond.instanceMethod yX6_answer ∈ lw_big := b2_at 233 rfl rfl
theorem wc_X6_counts : CWd yX6_counts cX6_counts 6 (some .boolean) 4 := ⟨b5_at 215 rfl rfl, wini_X6, by decide, by decide, by decide +kernel⟩
theorem wsel_X6_X6_counts : Cond.selects RX6 yX6_counts yX6_counts ∈ lw_big := b5_at 214 rfl rfl
theorem wsl_6_X6_counts : ∀ t ∈ ([6] : List Nat), t < 13 ∧ Cond.selects (RXX t) yX6_counts yX6_counts ∈ lw_big := fun t ht => by simp only [List.mem_cons, List.not_mem_nil, or_false] at ht; subst ht; exact ⟨by decide, wsel_X6_X6_counts⟩
theorem wml_X4_79 : Cond.methodLink RX4 79 yX6_counts ∈ lw_big := b5_at 212 rfl rfl
theorem wim_X6_counts : Cond.instanceMethod yX6_counts ∈ lw_big := b5_at 213 rfl rfl
theorem wfl_X11_289 : Cond.fieldLink RX11 289 RX1 "nameCount" "I" ∈ lw_big := b3_at 176 rfl rfl
theorem fl_X11_289 : FLk RX11 289 [1] 15 0 false := FLk.mk0 _ _ _ wfl_X11_289 (by decide +kernel)
theorem wc_X4_firstThatCounts : CWd yX4_firstThatCounts cX4_firstThatCounts 5 (some .int) 1 := ⟨b5_at 211 rfl rfl, wini_X4, by decide, by decide, by decide +kernel⟩
theorem wsel_X4_X4_firstThatCounts : Cond.selects RX4 yX4_firstThatCounts yX4_firstThatCounts ∈ lw_big := b5_at 210 rfl rfl
theorem wsl_4_X4_firstThatCounts : ∀ t ∈ ([4] : List Nat), t < 13 ∧ Cond.selects (RXX t) yX4_firstThatCounts yX4_firstThatCounts ∈ lw_big := fun t ht => by simp only [List.mem_cons, List.not_mem_nil, or_false] at ht; subst ht; exact ⟨by decide, wsel_X4_X4_firstThatCounts⟩
theorem wml_X11_307 : Cond.methodLink RX11 307 yX4_firstThatCounts ∈ lw_big := b5_at 208 rfl rfl
theorem wim_X4_firstThatCounts : Cond.instanceMethod yX4_firstThatCounts ∈ lw_big := b5_at 209 rfl rfl
theorem wfl_X11_310 : Cond.fieldLink RX11 310 RX4 "finder" "[I" ∈ lw_big := b1_at 189 rfl rfl
theorem fl_X11_310 : FLk RX11 310 [4] 0 2 true := FLk.mk0 _ _ _ wfl_X11_310 (by decide +kernel)
theorem wfl_X11_300 : Cond.fieldLink RX11 300 RX1 "names" "[I" ∈ lw_big := b3_at 149 rfl rfl
theorem fl_X11_300 : FLk RX11 300 [1] 5 2 true := FLk.mk0 _ _ _ wfl_X11_300 (by decide +kernel)
theorem wfl_X4_61 : Cond.fieldLink RX4 61 RX1 "latestFound" "I" ∈ lw_big := b3_at 174 rfl rfl
theorem fl_X4_61 : FLk RX4 61 [1] 14 0 false := FLk.mk0 _ _ _ wfl_X4_61 (by decide +kernel)
theorem wfl_X4_121 : Cond.fieldLink RX4 121 RX1 "hiddenOn" "I" ∈ lw_big := b3_at 141 rfl rfl
theorem fl_X4_121 : FLk RX4 121 [1] 2 0 true := FLk.mk0 _ _ _ wfl_X4_121 (by decide +kernel)
theorem wfl_X4_64 : Cond.fieldLink RX4 64 RX1 "number" "I" ∈ lw_big := b2_at 130 rfl rfl
theorem fl_X4_64 : FLk RX4 64 [1] 0 0 true := FLk.mk1 _ _ _ _ wfl_X4_64 wsf_X1_number (by decide +kernel)
theorem wc_X4_isMissBehindFound : CWd yX4_isMissBehindFound cX4_isMissBehindFound 3 (some .boolean) 2 := ⟨b5_at 189 rfl rfl, wini_X4, by decide, by decide, by decide +kernel⟩
theorem wsel_X4_X4_isMissBehindFound : Cond.selects RX4 yX4_isMissBehindFound yX4_isMissBehindFound ∈ lw_big := big_sel 43 rfl rfl
theorem wsl_4_X4_isMissBehindFound : ∀ t ∈ ([4] : List Nat), t < 13 ∧ Cond.selects (RXX t) yX4_isMissBehindFound yX4_isMissBehindFound ∈ lw_big := fun t ht => by simp only [List.mem_cons, List.not_mem_nil, or_false] at ht; subst ht; exact ⟨by decide, wsel_X4_X4_isMissBehindFound⟩
theorem wml_X4_71 : Cond.methodLink RX4 71 yX4_isMissBehindFound ∈ lw_big := b5_at 186 rfl rfl
theorem wim_X4_isMissBehindFound : Cond.instanceMethod yX4_isMissBehindFound ∈ lw_big := b5_at 188 rfl rfl
theorem wfl_X11_322 : Cond.fieldLink RX11 322 RX1 "misses" "I" ∈ lw_big := b3_at 172 rfl rfl
theorem fl_X11_322 : FLk RX11 322 [1] 13 0 false := FLk.mk0 _ _ _ wfl_X11_322 (by decide +kernel)
theorem wc_X4_goneTo : CWd yX4_goneTo cX4_goneTo 4 (some .int) 1 := ⟨b6_at 22 rfl rfl, wini_X4, by decide, by decide, by decide +kernel⟩
theorem wsel_X4_X4_goneTo : Cond.selects RX4 yX4_goneTo yX4_goneTo ∈ lw_big := b6_at 21 rfl rfl
theorem wsl_4_X4_goneTo : ∀ t ∈ ([4] : List Nat), t < 13 ∧ Cond.selects (RXX t) yX4_goneTo yX4_goneTo ∈ lw_big := fun t ht => by simp only [List.mem_cons, List.not_mem_nil, or_false] at ht; subst ht; exact ⟨by decide, wsel_X4_X4_goneTo⟩
theorem wml_X11_329 : Cond.methodLink RX11 329 yX4_goneTo ∈ lw_big := b6_at 19 rfl rfl
theorem wim_X4_goneTo : Cond.instanceMethod yX4_goneTo ∈ lw_big := b6_at 20 rfl rfl
theorem wc_X4_goneFrom : CWd yX4_goneFrom cX4_goneFrom 2 (some .int) 1 := ⟨b6_at 18 rfl rfl, wini_X4, by decide, by decide, by decide +kernel⟩
theorem wsel_X4_X4_goneFrom : Cond.selects RX4 yX4_goneFrom yX4_goneFrom ∈ lw_big := b6_at 17 rfl rfl
theorem wsl_4_X4_goneFrom : ∀ t ∈ ([4] : List Nat), t < 13 ∧ Cond.selects (RXX t) yX4_goneFrom yX4_goneFrom ∈ lw_big := fun t ht => by simp only [List.mem_cons, List.not_mem_nil, or_false] at ht; subst ht; exact ⟨by decide, wsel_X4_X4_goneFrom⟩
theorem wml_X11_325 : Cond.methodLink RX11 325 yX4_goneFrom ∈ lw_big := b6_at 15 rfl rfl
theorem wim_X4_goneFrom : Cond.instanceMethod yX4_goneFrom ∈ lw_big := b6_at 16 rfl rfl
theorem wc_X11_isKindOfBox : CWd yX11_isKindOfBox cX11_isKindOfBox 1 (some .boolean) 1 := ⟨b2_at 218 rfl rfl, wini_X11, by decide, by decide, by decide +kernel⟩
theorem wml_X11_493 : Cond.methodLink RX11 493 yX11_isKindOfBox ∈ lw_big := b2_at 216 rfl rfl
theorem wst_X11_isKindOfBox : Cond.static yX11_isKindOfBox ∈ lw_big := b2_at 217 rfl rfl
theorem wml_X5_3 : Cond.methodLink RX5 3 Lib.objectInit ∈ lw_big := b3_at 89 rfl rfl
theorem wfl_X5_11 : Cond.fieldLink RX5 11 RX5 "sorts" "[I" ∈ lw_big := b3_at 96 rfl rfl
theorem fl_X5_11 : FLk RX5 11 [5] 3 2 true := FLk.mk0 _ _ _ wfl_X5_11 (by decide +kernel)
theorem wfl_X5_15 : Cond.fieldLink RX5 15 RX5 "firsts" "[I" ∈ lw_big := b3_at 97 rfl rfl
theorem fl_X5_15 : FLk RX5 15 [5] 4 2 true := FLk.mk0 _ _ _ wfl_X5_15 (by decide +kernel)
theorem wfl_X5_18 : Cond.fieldLink RX5 18 RX5 "seconds" "[I" ∈ lw_big := b3_at 98 rfl rfl
theorem fl_X5_18 : FLk RX5 18 [5] 5 2 true := FLk.mk0 _ _ _ wfl_X5_18 (by decide +kernel)
theorem wfl_X5_21 : Cond.fieldLink RX5 21 RX5 "numbers" "[I" ∈ lw_big := b3_at 99 rfl rfl
theorem fl_X5_21 : FLk RX5 21 [5] 6 2 true := FLk.mk0 _ _ _ wfl_X5_21 (by decide +kernel)
theorem wfl_X5_24 : Cond.fieldLink RX5 24 RX5 "lasts" "[I" ∈ lw_big := b3_at 100 rfl rfl
theorem fl_X5_24 : FLk RX5 24 [5] 7 2 true := FLk.mk0 _ _ _ wfl_X5_24 (by decide +kernel)
theorem wfl_X5_27 : Cond.fieldLink RX5 27 RX5 "x" "I" ∈ lw_big := b3_at 103 rfl rfl
theorem fl_X5_27 : FLk RX5 27 [5] 10 0 false := FLk.mk0 _ _ _ wfl_X5_27 (by decide +kernel)
theorem wfl_X5_31 : Cond.fieldLink RX5 31 RX5 "y" "I" ∈ lw_big := b3_at 104 rfl rfl
theorem fl_X5_31 : FLk RX5 31 [5] 11 0 false := FLk.mk0 _ _ _ wfl_X5_31 (by decide +kernel)
theorem wfl_X5_34 : Cond.fieldLink RX5 34 RX5 "digits" "[I" ∈ lw_big := b3_at 105 rfl rfl
theorem fl_X5_34 : FLk RX5 34 [5] 12 2 true := FLk.mk0 _ _ _ wfl_X5_34 (by decide +kernel)
theorem wml_X1_3 : Cond.methodLink RX1 3 yX0_init ∈ lw_big := b3_at 83 rfl rfl
theorem wfl_X1_25 : Cond.fieldLink RX1 25 RX1 "latestFound" "I" ∈ lw_big := b3_at 173 rfl rfl
theorem fl_X1_25 : FLk RX1 25 [1] 14 0 false := FLk.mk0 _ _ _ wfl_X1_25 (by decide +kernel)
theorem wfl_X1_28 : Cond.fieldLink RX1 28 RX1 "lookedAt" "I" ∈ lw_big := b3_at 181 rfl rfl
theorem fl_X1_28 : FLk RX1 28 [1] 18 0 false := FLk.mk0 _ _ _ wfl_X1_28 (by decide +kernel)
theorem wfl_X1_31 : Cond.fieldLink RX1 31 RX1 "keeper" "I" ∈ lw_big := b3_at 154 rfl rfl
theorem fl_X1_31 : FLk RX1 31 [1] 8 0 false := FLk.mk0 _ _ _ wfl_X1_31 (by decide +kernel)
theorem wfl_X1_37 : Cond.fieldLink RX1 37 RX1 "hiddenAtCell" "I" ∈ lw_big := b3_at 144 rfl rfl
theorem fl_X1_37 : FLk RX1 37 [1] 3 0 true := FLk.mk0 _ _ _ wfl_X1_37 (by decide +kernel)
theorem wfl_X1_40 : Cond.fieldLink RX1 40 RX1 "hiddenOn" "I" ∈ lw_big := b3_at 139 rfl rfl
theorem fl_X1_40 : FLk RX1 40 [1] 2 0 true := FLk.mk0 _ _ _ wfl_X1_40 (by decide +kernel)
theorem wfl_X1_48 : Cond.fieldLink RX1 48 RX1 "riddle" "LHillBoxes$Riddle;" ∈ lw_big := b3_at 152 rfl rfl
theorem fl_X1_48 : FLk RX1 48 [1] 7 2 true := FLk.mk0 _ _ _ wfl_X1_48 (by decide +kernel)
theorem wcl_X1_43 : Cond.classLink RX1 43 RX5 ∈ lw_big := b3_at 84 rfl rfl
theorem wins_X5 : Cond.instantiable RX5 15 ∈ lw_big := b3_at 85 rfl rfl
theorem wini_X5 : Cond.initialized RX5 ∈ lw_big := b1_at 15 rfl rfl
theorem wc_X5_init : CWd yX5_init cX5_init 1 none 0 := ⟨b3_at 88 rfl rfl, wini_X5, by decide, by decide, by decide +kernel⟩
theorem wmn_X1_45 : Cond.methodLinkNest RX1 45 yX5_init "HillBoxes" ∈ xtraW := xtra_at 566 (by decide +kernel) rfl
theorem wim_X5_init : Cond.instanceMethod yX5_init ∈ lw_big := b3_at 87 rfl rfl
theorem wfl_X6_160 : Cond.fieldLink RX6 160 RX3 "size" "I" ∈ lw_big := b1_at 49 rfl rfl
theorem fl_X6_160 : FLk RX6 160 [3] 3 0 false := FLk.mk0 _ _ _ wfl_X6_160 (by decide +kernel)
theorem wml_X6_163 : Cond.methodLink RX6 163 yX1_isDown ∈ lw_big := b3_at 59 rfl rfl
theorem wml_X6_166 : Cond.methodLink RX6 166 yX1_liesNow ∈ lw_big := b3_at 63 rfl rfl
theorem wfl_X6_172 : Cond.fieldLink RX6 172 RX1 "stepCount" "I" ∈ lw_big := b3_at 163 rfl rfl
theorem fl_X6_172 : FLk RX6 172 [1] 10 0 false := FLk.mk0 _ _ _ wfl_X6_172 (by decide +kernel)
theorem wfl_X6_173 : Cond.fieldLink RX6 173 RX1 "steps" "[I" ∈ lw_big := b3_at 147 rfl rfl
theorem fl_X6_173 : FLk RX6 173 [1] 4 2 true := FLk.mk0 _ _ _ wfl_X6_173 (by decide +kernel)
theorem wfl_X6_157 : Cond.fieldLink RX6 157 RX3 "owners" "[I" ∈ lw_big := b1_at 45 rfl rfl
theorem fl_X6_157 : FLk RX6 157 [3] 1 2 true := FLk.mk0 _ _ _ wfl_X6_157 (by decide +kernel)
theorem wc_X6_askForKind : CWd yX6_askForKind cX6_askForKind 5 none 4 := ⟨b2_at 231 rfl rfl, wini_X6, by decide, by decide, by decide +kernel⟩
theorem wsel_X6_X6_askForKind : Cond.selects RX6 yX6_askForKind yX6_askForKind ∈ lw_big := b2_at 230 rfl rfl
theorem wsl_6_X6_askForKind : ∀ t ∈ ([6] : List Nat), t < 13 ∧ Cond.selects (RXX t) yX6_askForKind yX6_askForKind ∈ lw_big := fun t ht => by simp only [List.mem_cons, List.not_mem_nil, or_false] at ht; subst ht; exact ⟨by decide, wsel_X6_X6_askForKind⟩
theorem wml_X6_112 : Cond.methodLink RX6 112 yX6_askForKind ∈ lw_big := b2_at 228 rfl rfl
theorem wim_X6_askForKind : Cond.instanceMethod yX6_askForKind ∈ lw_big := b2_at 229 rfl rfl
theorem wfl_X6_147 : Cond.fieldLink RX6 147 RX3 "steps" "[I" ∈ lw_big := b1_at 52 rfl rfl
theorem fl_X6_147 : FLk RX6 147 [3] 4 2 true := FLk.mk0 _ _ _ wfl_X6_147 (by decide +kernel)
theorem wfl_X6_144 : Cond.fieldLink RX6 144 RX3 "stepCount" "I" ∈ lw_big := b1_at 54 rfl rfl
theorem fl_X6_144 : FLk RX6 144 [3] 5 0 false := FLk.mk0 _ _ _ wfl_X6_144 (by decide +kernel)
theorem wml_X6_131 : Cond.methodLink RX6 131 yX2_hasLeft ∈ lw_big := b2_at 223 rfl rfl
theorem wc_X6_letsHide : CWd yX6_letsHide cX6_letsHide 4 (some .boolean) 3 := ⟨b2_at 227 rfl rfl, wini_X6, by decide, by decide, by decide +kernel⟩
theorem wsel_X6_X6_letsHide : Cond.selects RX6 yX6_letsHide yX6_letsHide ∈ lw_big := b2_at 226 rfl rfl
theorem wsl_6_X6_letsHide : ∀ t ∈ ([6] : List Nat), t < 13 ∧ Cond.selects (RXX t) yX6_letsHide yX6_letsHide ∈ lw_big := fun t ht => by simp only [List.mem_cons, List.not_mem_nil, or_false] at ht; subst ht; exact ⟨by decide, wsel_X6_X6_letsHide⟩
theorem wml_X6_137 : Cond.methodLink RX6 137 yX6_letsHide ∈ lw_big := b2_at 224 rfl rfl
theorem wim_X6_letsHide : Cond.instanceMethod yX6_letsHide ∈ lw_big := b2_at 225 rfl rfl
theorem wc_X6_leavesLet : CWd yX6_leavesLet cX6_leavesLet 8 (some .boolean) 3 := ⟨b3_at 49 rfl rfl, wini_X6, by decide, by decide, by decide +kernel⟩
theorem wsel_X6_X6_leavesLet : Cond.selects RX6 yX6_leavesLet yX6_leavesLet ∈ lw_big := big_sel 5 rfl rfl
theorem wsl_6_X6_leavesLet : ∀ t ∈ ([6] : List Nat), t < 13 ∧ Cond.selects (RXX t) yX6_leavesLet yX6_leavesLet ∈ lw_big := fun t ht => by simp only [List.mem_cons, List.not_mem_nil, or_false] at ht; subst ht; exact ⟨by decide, wsel_X6_X6_leavesLet⟩
theorem wml_X6_141 : Cond.methodLink RX6 141 yX6_leavesLet ∈ lw_big := b3_at 46 rfl rfl
theorem wim_X6_leavesLet : Cond.instanceMethod yX6_leavesLet ∈ lw_big := b3_at 48 rfl rfl
theorem wc_X6_isNearKnown : CWd yX6_isNearKnown cX6_isNearKnown 5 (some .boolean) 2 := ⟨b3_at 57 rfl rfl, wini_X6, by decide, by decide, by decide +kernel⟩
theorem wsel_X6_X6_isNearKnown : Cond.selects RX6 yX6_isNearKnown yX6_isNearKnown ∈ lw_big := big_sel 6 rfl rfl
theorem wsl_6_X6_isNearKnown : ∀ t ∈ ([6] : List Nat), t < 13 ∧ Cond.selects (RXX t) yX6_isNearKnown yX6_isNearKnown ∈ lw_big := fun t ht => by simp only [List.mem_cons, List.not_mem_nil, or_false] at ht; subst ht; exact ⟨by decide, wsel_X6_X6_isNearKnown⟩
theorem wml_X6_150 : Cond.methodLink RX6 150 yX6_isNearKnown ∈ lw_big := b3_at 54 rfl rfl
theorem wim_X6_isNearKnown : Cond.instanceMethod yX6_isNearKnown ∈ lw_big := b3_at 56 rfl rfl
theorem wc_X6_isNearSecret : CWd yX6_isNearSecret cX6_isNearSecret 6 (some .boolean) 2 := ⟨b3_at 70 rfl rfl, wini_X6, by decide, by decide, by decide +kernel⟩
theorem wsel_X6_X6_isNearSecret : Cond.selects RX6 yX6_isNearSecret yX6_isNearSecret ∈ lw_big := big_sel 7 rfl rfl
theorem wsl_6_X6_isNearSecret : ∀ t ∈ ([6] : List Nat), t < 13 ∧ Cond.selects (RXX t) yX6_isNearSecret yX6_isNearSecret ∈ lw_big := fun t ht => by simp only [List.mem_cons, List.not_mem_nil, or_false] at ht; subst ht; exact ⟨by decide, wsel_X6_X6_isNearSecret⟩
theorem wml_X6_154 : Cond.methodLink RX6 154 yX6_isNearSecret ∈ lw_big := b3_at 67 rfl rfl
theorem wim_X6_isNearSecret : Cond.instanceMethod yX6_isNearSecret ∈ lw_big := b3_at 69 rfl rfl
theorem wc_X11_mayBeAsked : CWd yX11_mayBeAsked cX11_mayBeAsked 3 (some .boolean) 2 := ⟨b2_at 215 rfl rfl, wini_X11, by decide, by decide, by decide +kernel⟩
theorem wsel_X11_X11_mayBeAsked : Cond.selects RX11 yX11_mayBeAsked yX11_mayBeAsked ∈ lw_big := big_sel 0 rfl rfl
theorem wsl_11_X11_mayBeAsked : ∀ t ∈ ([11] : List Nat), t < 13 ∧ Cond.selects (RXX t) yX11_mayBeAsked yX11_mayBeAsked ∈ lw_big := fun t ht => by simp only [List.mem_cons, List.not_mem_nil, or_false] at ht; subst ht; exact ⟨by decide, wsel_X11_X11_mayBeAsked⟩
theorem wml_X11_106 : Cond.methodLink RX11 106 yX11_mayBeAsked ∈ lw_big := b2_at 212 rfl rfl
theorem wim_X11_mayBeAsked : Cond.instanceMethod yX11_mayBeAsked ∈ lw_big := b2_at 214 rfl rfl
theorem wc_X6_whyNot : CWd yX6_whyNot cX6_whyNot 7 (some .int) 3 := ⟨b2_at 222 rfl rfl, wini_X6, by decide, by decide, by decide +kernel⟩
theorem wsel_X6_X6_whyNot : Cond.selects RX6 yX6_whyNot yX6_whyNot ∈ lw_big := b2_at 221 rfl rfl
theorem wsl_6_X6_whyNot : ∀ t ∈ ([6] : List Nat), t < 13 ∧ Cond.selects (RXX t) yX6_whyNot yX6_whyNot ∈ lw_big := fun t ht => by simp only [List.mem_cons, List.not_mem_nil, or_false] at ht; subst ht; exact ⟨by decide, wsel_X6_X6_whyNot⟩
theorem wml_X11_110 : Cond.methodLink RX11 110 yX6_whyNot ∈ lw_big := b2_at 219 rfl rfl
theorem wim_X6_whyNot : Cond.instanceMethod yX6_whyNot ∈ lw_big := b2_at 220 rfl rfl
theorem wcl_X11_118 : Cond.classLink RX11 118 RX1 ∈ lw_big := b3_at 78 rfl rfl
theorem wins_X1 : Cond.instantiable RX1 19 ∈ lw_big := b3_at 79 rfl rfl
theorem wfl_X11_120 : Cond.fieldLink RX11 120 RX2 "number" "I" ∈ lw_big := b2_at 132 rfl rfl
theorem fl_X11_120 : FLk RX11 120 [2] 0 0 true := FLk.mk1 _ _ _ _ wfl_X11_120 wsf_X2_number (by decide +kernel)
theorem wc_X1_init : CWd yX1_init cX1_init 6 none 5 := ⟨b3_at 82 rfl rfl, wini_X1, by decide, by decide, by decide +kernel⟩
theorem wml_X11_123 : Cond.methodLink RX11 123 yX1_init ∈ lw_big := b3_at 80 rfl rfl
theorem wim_X1_init : Cond.instanceMethod yX1_init ∈ lw_big := b3_at 81 rfl rfl
theorem wfl_X11_103 : Cond.fieldLink RX11 103 RX3 "steps" "[I" ∈ lw_big := b1_at 51 rfl rfl
theorem fl_X11_103 : FLk RX11 103 [3] 4 2 true := FLk.mk0 _ _ _ wfl_X11_103 (by decide +kernel)
theorem wc_X1_takeSteps : CWd yX1_takeSteps cX1_takeSteps 4 none 2 := ⟨b3_at 223 rfl rfl, wini_X1, by decide, by decide, by decide +kernel⟩
theorem wsel_X1_X1_takeSteps : Cond.selects RX1 yX1_takeSteps yX1_takeSteps ∈ lw_big := b3_at 222 rfl rfl
theorem wsl_1_X1_takeSteps : ∀ t ∈ ([1] : List Nat), t < 13 ∧ Cond.selects (RXX t) yX1_takeSteps yX1_takeSteps ∈ lw_big := fun t ht => by simp only [List.mem_cons, List.not_mem_nil, or_false] at ht; subst ht; exact ⟨by decide, wsel_X1_X1_takeSteps⟩
theorem wml_X11_126 : Cond.methodLink RX11 126 yX1_takeSteps ∈ lw_big := b3_at 220 rfl rfl
theorem wim_X1_takeSteps : Cond.instanceMethod yX1_takeSteps ∈ lw_big := b3_at 221 rfl rfl
theorem wc_X11_asToldToTheAsker : CWd yX11_asToldToTheAsker cX11_asToldToTheAsker 1 (some .int) 1 := ⟨b3_at 73 rfl rfl, wini_X11, by decide, by decide, by decide +kernel⟩
theorem wml_X11_114 : Cond.methodLink RX11 114 yX11_asToldToTheAsker ∈ lw_big := b3_at 71 rfl rfl
theorem wst_X11_asToldToTheAsker : Cond.static yX11_asToldToTheAsker ∈ lw_big := b3_at 72 rfl rfl
theorem wc_X11_isUse : CWd yX11_isUse cX11_isUse 1 (some .boolean) 1 := ⟨b4_at 62 rfl rfl, wini_X11, by decide, by decide, by decide +kernel⟩
theorem wml_X11_194 : Cond.methodLink RX11 194 yX11_isUse ∈ lw_big := b4_at 60 rfl rfl
theorem wst_X11_isUse : Cond.static yX11_isUse ∈ lw_big := b4_at 61 rfl rfl
theorem wc_X11_isDay : CWd yX11_isDay cX11_isDay 1 (some .boolean) 1 := ⟨b4_at 37 rfl rfl, wini_X11, by decide, by decide, by decide +kernel⟩
theorem wml_X11_173 : Cond.methodLink RX11 173 yX11_isDay ∈ lw_big := b4_at 35 rfl rfl
theorem wst_X11_isDay : Cond.static yX11_isDay ∈ lw_big := b4_at 36 rfl rfl
theorem wml_X11_202 : Cond.methodLink RX11 202 yX6_ruleFor ∈ lw_big := b5_at 34 rfl rfl
theorem wml_X11_313 : Cond.methodLink RX11 313 yX4_has ∈ lw_big := b5_at 221 rfl rfl
theorem wml_X11_316 : Cond.methodLink RX11 316 yX4_whyFalse ∈ lw_big := b5_at 225 rfl rfl
theorem wml_X11_319 : Cond.methodLink RX11 319 yX4_tooSoonBy ∈ lw_big := b6_at 10 rfl rfl
theorem wc_X4_joinOf : CWd yX4_joinOf cX4_joinOf 5 (some .int) 2 := ⟨b5_at 202 rfl rfl, wini_X4, by decide, by decide, by decide +kernel⟩
theorem wsel_X4_X4_joinOf : Cond.selects RX4 yX4_joinOf yX4_joinOf ∈ lw_big := b5_at 201 rfl rfl
theorem wsl_4_X4_joinOf : ∀ t ∈ ([4] : List Nat), t < 13 ∧ Cond.selects (RXX t) yX4_joinOf yX4_joinOf ∈ lw_big := fun t ht => by simp only [List.mem_cons, List.not_mem_nil, or_false] at ht; subst ht; exact ⟨by decide, wsel_X4_X4_joinOf⟩
theorem wml_X11_303 : Cond.methodLink RX11 303 yX4_joinOf ∈ lw_big := b5_at 199 rfl rfl
theorem wim_X4_joinOf : Cond.instanceMethod yX4_joinOf ∈ lw_big := b5_at 200 rfl rfl
theorem wml_X10_83 : Cond.methodLink RX10 83 yX1_liesNow ∈ lw_big := b6_at 139 rfl rfl
theorem wfl_X10_53 : Cond.fieldLink RX10 53 RX10 "home" "I" ∈ lw_big := b2_at 6 rfl rfl
theorem fl_X10_53 : FLk RX10 53 [10] 13 0 false := FLk.mk0 _ _ _ wfl_X10_53 (by decide +kernel)
theorem wfl_X10_37 : Cond.fieldLink RX10 37 RX10 "wishes" "I" ∈ lw_big := b1_at 229 rfl rfl
theorem fl_X10_37 : FLk RX10 37 [10] 0 0 false := FLk.mk0 _ _ _ wfl_X10_37 (by decide +kernel)
theorem wfl_X10_60 : Cond.fieldLink RX10 60 RX10 "setOutHour" "I" ∈ lw_big := b2_at 7 rfl rfl
theorem fl_X10_60 : FLk RX10 60 [10] 14 0 false := FLk.mk0 _ _ _ wfl_X10_60 (by decide +kernel)
theorem wc_X10_cellOf : CWd yX10_cellOf cX10_cellOf 3 (some .int) 1 := ⟨b6_at 138 rfl rfl, wini_X10, by decide, by decide, by decide +kernel⟩
theorem wsel_X10_X10_cellOf : Cond.selects RX10 yX10_cellOf yX10_cellOf ∈ lw_big := big_sel 52 rfl rfl
theorem wsl_10_X10_cellOf : ∀ t ∈ ([10] : List Nat), t < 13 ∧ Cond.selects (RXX t) yX10_cellOf yX10_cellOf ∈ lw_big := fun t ht => by simp only [List.mem_cons, List.not_mem_nil, or_false] at ht; subst ht; exact ⟨by decide, wsel_X10_X10_cellOf⟩
theorem wml_X10_71 : Cond.methodLink RX10 71 yX10_cellOf ∈ lw_big := b6_at 135 rfl rfl
theorem wim_X10_cellOf : Cond.instanceMethod yX10_cellOf ∈ lw_big := b6_at 137 rfl rfl
theorem wmn_X10_75 : Cond.methodLinkNest RX10 75 yX11_hoursBetween "HillBoxes" ∈ xtraW := xtra_at 1340 (by decide +kernel) rfl
theorem wfl_X10_87 : Cond.fieldLink RX10 87 RX1 "kind" "I" ∈ lw_big := b2_at 139 rfl rfl
theorem fl_X10_87 : FLk RX10 87 [1] 1 0 true := FLk.mk1 _ _ _ _ wfl_X10_87 wsf_X1_kind (by decide +kernel)
theorem wmn_X10_90 : Cond.methodLinkNest RX10 90 yX11_isNightHour "HillBoxes" ∈ xtraW := xtra_at 1341 (by decide +kernel) rfl
theorem wc_X10_setOut : CWd yX10_setOut cX10_setOut 2 none 1 := ⟨b6_at 126 rfl rfl, wini_X10, by decide, by decide, by decide +kernel⟩
theorem wsel_X10_X10_setOut : Cond.selects RX10 yX10_setOut yX10_setOut ∈ lw_big := big_sel 49 rfl rfl
theorem wsl_10_X10_setOut : ∀ t ∈ ([10] : List Nat), t < 13 ∧ Cond.selects (RXX t) yX10_setOut yX10_setOut ∈ lw_big := fun t ht => by simp only [List.mem_cons, List.not_mem_nil, or_false] at ht; subst ht; exact ⟨by decide, wsel_X10_X10_setOut⟩
theorem wml_X10_43 : Cond.methodLink RX10 43 yX10_setOut ∈ lw_big := b6_at 123 rfl rfl
theorem wim_X10_setOut : Cond.instanceMethod yX10_setOut ∈ lw_big := b6_at 125 rfl rfl
theorem wfl_X10_109 : Cond.fieldLink RX10 109 RX10 "rowCount" "I" ∈ lw_big := b2_at 1 rfl rfl
theorem fl_X10_109 : FLk RX10 109 [10] 8 0 false := FLk.mk0 _ _ _ wfl_X10_109 (by decide +kernel)
theorem wc_X10_timeBehind : CWd yX10_timeBehind cX10_timeBehind 7 (some .int) 3 := ⟨b6_at 134 rfl rfl, wini_X10, by decide, by decide, by decide +kernel⟩
theorem wsel_X10_X10_timeBehind : Cond.selects RX10 yX10_timeBehind yX10_timeBehind ∈ lw_big := big_sel 51 rfl rfl
theorem wsl_10_X10_timeBehind : ∀ t ∈ ([10] : List Nat), t < 13 ∧ Cond.selects (RXX t) yX10_timeBehind yX10_timeBehind ∈ lw_big := fun t ht => by simp only [List.mem_cons, List.not_mem_nil, or_false] at ht; subst ht; exact ⟨by decide, wsel_X10_X10_timeBehind⟩
theorem wml_X10_63 : Cond.methodLink RX10 63 yX10_timeBehind ∈ lw_big := b6_at 131 rfl rfl
theorem wim_X10_timeBehind : Cond.instanceMethod yX10_timeBehind ∈ lw_big := b6_at 133 rfl rfl
theorem wc_X10_isSetOut : CWd yX10_isSetOut cX10_isSetOut 2 (some .boolean) 2 := ⟨b6_at 118 rfl rfl, wini_X10, by decide, by decide, by decide +kernel⟩
theorem wml_X11_386 : Cond.methodLink RX11 386 yX10_isSetOut ∈ lw_big := b6_at 116 rfl rfl
theorem wst_X10_isSetOut : Cond.static yX10_isSetOut ∈ lw_big := b6_at 117 rfl rfl
theorem wc_X10_readRow : CWd yX10_readRow cX10_readRow 6 (some .boolean) 1 := ⟨b6_at 166 rfl rfl, wini_X10, by decide, by decide, by decide +kernel⟩
theorem wsel_X10_X10_readRow : Cond.selects RX10 yX10_readRow yX10_readRow ∈ lw_big := b6_at 165 rfl rfl
theorem wsl_10_X10_readRow : ∀ t ∈ ([10] : List Nat), t < 13 ∧ Cond.selects (RXX t) yX10_readRow yX10_readRow ∈ lw_big := fun t ht => by simp only [List.mem_cons, List.not_mem_nil, or_false] at ht; subst ht; exact ⟨by decide, wsel_X10_X10_readRow⟩
theorem wml_X11_404 : Cond.methodLink RX11 404 yX10_readRow ∈ lw_big := b6_at 163 rfl rfl
theorem wim_X10_readRow : Cond.instanceMethod yX10_readRow ∈ lw_big := b6_at 164 rfl rfl
theorem wc_X10_hoursOfRow : CWd yX10_hoursOfRow cX10_hoursOfRow 5 (some .int) 1 := ⟨b6_at 170 rfl rfl, wini_X10, by decide, by decide, by decide +kernel⟩
theorem wsel_X10_X10_hoursOfRow : Cond.selects RX10 yX10_hoursOfRow yX10_hoursOfRow ∈ lw_big := b6_at 169 rfl rfl
theorem wsl_10_X10_hoursOfRow : ∀ t ∈ ([10] : List Nat), t < 13 ∧ Cond.selects (RXX t) yX10_hoursOfRow yX10_hoursOfRow ∈ lw_big := fun t ht => by simp only [List.mem_cons, List.not_mem_nil, or_false] at ht; subst ht; exact ⟨by decide, wsel_X10_X10_hoursOfRow⟩
theorem wml_X11_407 : Cond.methodLink RX11 407 yX10_hoursOfRow ∈ lw_big := b6_at 167 rfl rfl
theorem wim_X10_hoursOfRow : Cond.instanceMethod yX10_hoursOfRow ∈ lw_big := b6_at 168 rfl rfl
theorem wc_X4_whereAfter : CWd yX4_whereAfter cX4_whereAfter 3 (some .int) 2 := ⟨b4_at 30 rfl rfl, wini_X4, by decide, by decide, by decide +kernel⟩
theorem wsel_X4_X4_whereAfter : Cond.selects RX4 yX4_whereAfter yX4_whereAfter ∈ lw_big := b4_at 29 rfl rfl
theorem wsl_4_X4_whereAfter : ∀ t ∈ ([4] : List Nat), t < 13 ∧ Cond.selects (RXX t) yX4_whereAfter yX4_whereAfter ∈ lw_big := fun t ht => by simp only [List.mem_cons, List.not_mem_nil, or_false] at ht; subst ht; exact ⟨by decide, wsel_X4_X4_whereAfter⟩
theorem wml_X4_141 : Cond.methodLink RX4 141 yX4_whereAfter ∈ lw_big := b6_at 53 rfl rfl
theorem wim_X4_whereAfter : Cond.instanceMethod yX4_whereAfter ∈ lw_big := b4_at 28 rfl rfl
theorem wfl_X11_344 : Cond.fieldLink RX11 344 RX9 "told" "I" ∈ lw_big := b2_at 125 rfl rfl
theorem fl_X11_344 : FLk RX11 344 [9] 4 0 false := FLk.mk0 _ _ _ wfl_X11_344 (by decide +kernel)
theorem wc_X4_isJump : CWd yX4_isJump cX4_isJump 4 (some .boolean) 2 := ⟨b6_at 52 rfl rfl, wini_X4, by decide, by decide, by decide +kernel⟩
theorem wsel_X4_X4_isJump : Cond.selects RX4 yX4_isJump yX4_isJump ∈ lw_big := b6_at 51 rfl rfl
theorem wsl_4_X4_isJump : ∀ t ∈ ([4] : List Nat), t < 13 ∧ Cond.selects (RXX t) yX4_isJump yX4_isJump ∈ lw_big := fun t ht => by simp only [List.mem_cons, List.not_mem_nil, or_false] at ht; subst ht; exact ⟨by decide, wsel_X4_X4_isJump⟩
theorem wml_X11_352 : Cond.methodLink RX11 352 yX4_isJump ∈ lw_big := b6_at 49 rfl rfl
theorem wim_X4_isJump : Cond.instanceMethod yX4_isJump ∈ lw_big := b6_at 50 rfl rfl
theorem wfl_X7_15 : Cond.fieldLink RX7 15 RX7 "body" "LHillBoxes$Body;" ∈ lw_big := b2_at 49 rfl rfl
theorem fl_X7_15 : FLk RX7 15 [7] 0 2 false := FLk.mk0 _ _ _ wfl_X7_15 (by decide +kernel)
theorem wc_X7_hold : CWd yX7_hold cX7_hold 2 none 1 := ⟨b7_at 19 rfl rfl, wini_X7, by decide, by decide, by decide +kernel⟩
theorem wsel_X7_X7_hold : Cond.selects RX7 yX7_hold yX7_hold ∈ lw_big := b7_at 18 rfl rfl
theorem wsl_7_X7_hold : ∀ t ∈ ([7] : List Nat), t < 13 ∧ Cond.selects (RXX t) yX7_hold yX7_hold ∈ lw_big := fun t ht => by simp only [List.mem_cons, List.not_mem_nil, or_false] at ht; subst ht; exact ⟨by decide, wsel_X7_X7_hold⟩
theorem wml_X11_438 : Cond.methodLink RX11 438 yX7_hold ∈ lw_big := b7_at 16 rfl rfl
theorem wim_X7_hold : Cond.instanceMethod yX7_hold ∈ lw_big := b7_at 17 rfl rfl
theorem wfl_X11_97 : Cond.fieldLink RX11 97 RX2 "leftOn" "I" ∈ lw_big := b2_at 181 rfl rfl
theorem fl_X11_97 : FLk RX11 97 [2] 4 0 false := FLk.mk0 _ _ _ wfl_X11_97 (by decide +kernel)
theorem wml_X11_176 : Cond.methodLink RX11 176 yX3_whereLay ∈ lw_big := b4_at 38 rfl rfl
theorem wfl_X4_53 : Cond.fieldLink RX4 53 RX1 "finds" "I" ∈ lw_big := b3_at 167 rfl rfl
theorem fl_X4_53 : FLk RX4 53 [1] 12 0 false := FLk.mk0 _ _ _ wfl_X4_53 (by decide +kernel)
theorem wfl_X4_58 : Cond.fieldLink RX4 58 RX1 "misses" "I" ∈ lw_big := b3_at 170 rfl rfl
theorem fl_X4_58 : FLk RX4 58 [1] 13 0 false := FLk.mk0 _ _ _ wfl_X4_58 (by decide +kernel)
theorem wc_X4_recount : CWd yX4_recount cX4_recount 3 none 1 := ⟨b5_at 181 rfl rfl, wini_X4, by decide, by decide, by decide +kernel⟩
theorem wsel_X4_X4_recount : Cond.selects RX4 yX4_recount yX4_recount ∈ lw_big := big_sel 41 rfl rfl
theorem wsl_4_X4_recount : ∀ t ∈ ([4] : List Nat), t < 13 ∧ Cond.selects (RXX t) yX4_recount yX4_recount ∈ lw_big := fun t ht => by simp only [List.mem_cons, List.not_mem_nil, or_false] at ht; subst ht; exact ⟨by decide, wsel_X4_X4_recount⟩
theorem wml_X4_49 : Cond.methodLink RX4 49 yX4_recount ∈ lw_big := b5_at 178 rfl rfl
theorem wim_X4_recount : Cond.instanceMethod yX4_recount ∈ lw_big := b5_at 180 rfl rfl
theorem wc_X4_enter : CWd yX4_enter cX4_enter 5 (some .int) 4 := ⟨b5_at 176 rfl rfl, wini_X4, by decide, by decide, by decide +kernel⟩
theorem wsel_X4_X4_enter : Cond.selects RX4 yX4_enter yX4_enter ∈ lw_big := b5_at 175 rfl rfl
theorem wsl_4_X4_enter : ∀ t ∈ ([4] : List Nat), t < 13 ∧ Cond.selects (RXX t) yX4_enter yX4_enter ∈ lw_big := fun t ht => by simp only [List.mem_cons, List.not_mem_nil, or_false] at ht; subst ht; exact ⟨by decide, wsel_X4_X4_enter⟩
theorem wml_X11_286 : Cond.methodLink RX11 286 yX4_enter ∈ lw_big := b5_at 173 rfl rfl
theorem wim_X4_enter : Cond.instanceMethod yX4_enter ∈ lw_big := b5_at 174 rfl rfl
theorem wfl_X11_410 : Cond.fieldLink RX11 410 RX1 "finds" "I" ∈ lw_big := b3_at 169 rfl rfl
theorem fl_X11_410 : FLk RX11 410 [1] 12 0 false := FLk.mk0 _ _ _ wfl_X11_410 (by decide +kernel)
theorem wc_X1_isLookedAt : CWd yX1_isLookedAt cX1_isLookedAt 1 (some .boolean) 0 := ⟨b6_at 178 rfl rfl, wini_X1, by decide, by decide, by decide +kernel⟩
theorem wsel_X1_X1_isLookedAt : Cond.selects RX1 yX1_isLookedAt yX1_isLookedAt ∈ lw_big := b6_at 177 rfl rfl
theorem wsl_1_X1_isLookedAt : ∀ t ∈ ([1] : List Nat), t < 13 ∧ Cond.selects (RXX t) yX1_isLookedAt yX1_isLookedAt ∈ lw_big := fun t ht => by simp only [List.mem_cons, List.not_mem_nil, or_false] at ht; subst ht; exact ⟨by decide, wsel_X1_X1_isLookedAt⟩
theorem wml_X11_413 : Cond.methodLink RX11 413 yX1_isLookedAt ∈ lw_big := b6_at 175 rfl rfl
theorem wim_X1_isLookedAt : Cond.instanceMethod yX1_isLookedAt ∈ lw_big := b6_at 176 rfl rfl
theorem wfl_X11_416 : Cond.fieldLink RX11 416 RX1 "lookedAt" "I" ∈ lw_big := b3_at 182 rfl rfl
theorem fl_X11_416 : FLk RX11 416 [1] 18 0 false := FLk.mk0 _ _ _ wfl_X11_416 (by decide +kernel)
theorem wfl_X3_66 : Cond.fieldLink RX3 66 RX1 "cell" "I" ∈ lw_big := b3_at 160 rfl rfl
theorem fl_X3_66 : FLk RX3 66 [1] 9 0 false := FLk.mk0 _ _ _ wfl_X3_66 (by decide +kernel)
theorem wfl_X11_134 : Cond.fieldLink RX11 134 RX1 "kind" "I" ∈ lw_big := b2_at 138 rfl rfl
theorem fl_X11_134 : FLk RX11 134 [1] 1 0 true := FLk.mk1 _ _ _ _ wfl_X11_134 wsf_X1_kind (by decide +kernel)
theorem wc_X3_wasMovedFrom : CWd yX3_wasMovedFrom cX3_wasMovedFrom 4 (some .boolean) 2 := ⟨b3_at 233 rfl rfl, wini_X3, by decide, by decide, by decide +kernel⟩
theorem wsel_X3_X3_wasMovedFrom : Cond.selects RX3 yX3_wasMovedFrom yX3_wasMovedFrom ∈ lw_big := b3_at 232 rfl rfl
theorem wsl_3_X3_wasMovedFrom : ∀ t ∈ ([3] : List Nat), t < 13 ∧ Cond.selects (RXX t) yX3_wasMovedFrom yX3_wasMovedFrom ∈ lw_big := fun t ht => by simp only [List.mem_cons, List.not_mem_nil, or_false] at ht; subst ht; exact ⟨by decide, wsel_X3_X3_wasMovedFrom⟩
theorem wml_X11_140 : Cond.methodLink RX11 140 yX3_wasMovedFrom ∈ lw_big := b3_at 230 rfl rfl
theorem wim_X3_wasMovedFrom : Cond.instanceMethod yX3_wasMovedFrom ∈ lw_big := b3_at 231 rfl rfl
theorem wc_X4_hasLogFrom : CWd yX4_hasLogFrom cX4_hasLogFrom 4 (some .boolean) 2 := ⟨b3_at 237 rfl rfl, wini_X4, by decide, by decide, by decide +kernel⟩
theorem wsel_X4_X4_hasLogFrom : Cond.selects RX4 yX4_hasLogFrom yX4_hasLogFrom ∈ lw_big := b3_at 236 rfl rfl
theorem wsl_4_X4_hasLogFrom : ∀ t ∈ ([4] : List Nat), t < 13 ∧ Cond.selects (RXX t) yX4_hasLogFrom yX4_hasLogFrom ∈ lw_big := fun t ht => by simp only [List.mem_cons, List.not_mem_nil, or_false] at ht; subst ht; exact ⟨by decide, wsel_X4_X4_hasLogFrom⟩
theorem wml_X11_143 : Cond.methodLink RX11 143 yX4_hasLogFrom ∈ lw_big := b3_at 234 rfl rfl
theorem wim_X4_hasLogFrom : Cond.instanceMethod yX4_hasLogFrom ∈ lw_big := b3_at 235 rfl rfl
theorem wfl_X11_146 : Cond.fieldLink RX11 146 RX3 "moves" "I" ∈ lw_big := b1_at 59 rfl rfl
theorem fl_X11_146 : FLk RX11 146 [3] 9 0 false := FLk.mk0 _ _ _ wfl_X11_146 (by decide +kernel)
theorem wc_X3_moveTo : CWd yX3_moveTo cX3_moveTo 4 none 3 := ⟨b4_at 1 rfl rfl, wini_X3, by decide, by decide, by decide +kernel⟩
theorem wsel_X3_X3_moveTo : Cond.selects RX3 yX3_moveTo yX3_moveTo ∈ lw_big := b4_at 0 rfl rfl
theorem wsl_3_X3_moveTo : ∀ t ∈ ([3] : List Nat), t < 13 ∧ Cond.selects (RXX t) yX3_moveTo yX3_moveTo ∈ lw_big := fun t ht => by simp only [List.mem_cons, List.not_mem_nil, or_false] at ht; subst ht; exact ⟨by decide, wsel_X3_X3_moveTo⟩
theorem wml_X11_149 : Cond.methodLink RX11 149 yX3_moveTo ∈ lw_big := b3_at 238 rfl rfl
theorem wim_X3_moveTo : Cond.instanceMethod yX3_moveTo ∈ lw_big := b3_at 239 rfl rfl
theorem wc_X6_shows : CWd yX6_shows cX6_shows 3 (some .boolean) 2 := ⟨b5_at 53 rfl rfl, wini_X6, by decide, by decide, by decide +kernel⟩
theorem wsel_X6_X6_shows : Cond.selects RX6 yX6_shows yX6_shows ∈ lw_big := b5_at 52 rfl rfl
theorem wsl_6_X6_shows : ∀ t ∈ ([6] : List Nat), t < 13 ∧ Cond.selects (RXX t) yX6_shows yX6_shows ∈ lw_big := fun t ht => by simp only [List.mem_cons, List.not_mem_nil, or_false] at ht; subst ht; exact ⟨by decide, wsel_X6_X6_shows⟩
theorem wml_X11_224 : Cond.methodLink RX11 224 yX6_shows ∈ lw_big := b5_at 50 rfl rfl
theorem wim_X6_shows : Cond.instanceMethod yX6_shows ∈ lw_big := b5_at 51 rfl rfl
theorem wfl_X11_228 : Cond.fieldLink RX11 228 RX1 "cell" "I" ∈ lw_big := b3_at 161 rfl rfl
theorem fl_X11_228 : FLk RX11 228 [1] 9 0 false := FLk.mk0 _ _ _ wfl_X11_228 (by decide +kernel)
theorem wc_X11_ways : CWd yX11_ways cX11_ways 5 (some .long) 2 := ⟨b6_at 192 rfl rfl, wini_X11, by decide, by decide, by decide +kernel⟩
theorem wml_X11_531 : Cond.methodLink RX11 531 yX11_ways ∈ lw_big := b6_at 190 rfl rfl
theorem wst_X11_ways : Cond.static yX11_ways ∈ lw_big := b6_at 191 rfl rfl
theorem wk_X11_525 : Cond.constantLong RX11 525 (20) ∈ lw_big := b6_at 186 rfl rfl
theorem wc_X11_waysOfAtMost : CWd yX11_waysOfAtMost cX11_waysOfAtMost 7 (some .long) 4 := ⟨b6_at 189 rfl rfl, wini_X11, by decide, by decide, by decide +kernel⟩
theorem wml_X11_527 : Cond.methodLink RX11 527 yX11_waysOfAtMost ∈ lw_big := b6_at 187 rfl rfl
theorem wst_X11_waysOfAtMost : Cond.static yX11_waysOfAtMost ∈ lw_big := b6_at 188 rfl rfl
theorem wc_X11_boundOf : CWd yX11_boundOf cX11_boundOf 4 (some .int) 3 := ⟨b6_at 185 rfl rfl, wini_X11, by decide, by decide, by decide +kernel⟩
theorem wml_X11_419 : Cond.methodLink RX11 419 yX11_boundOf ∈ lw_big := b6_at 183 rfl rfl
theorem wst_X11_boundOf : Cond.static yX11_boundOf ∈ lw_big := b6_at 184 rfl rfl
theorem wfl_X11_505 : Cond.fieldLink RX11 505 RX1 "hiddenOn" "I" ∈ lw_big := b3_at 143 rfl rfl
theorem fl_X11_505 : FLk RX11 505 [1] 2 0 true := FLk.mk0 _ _ _ wfl_X11_505 (by decide +kernel)
theorem wml_X11_508 : Cond.methodLink RX11 508 yX1_liesNow ∈ lw_big := b4_at 22 rfl rfl
theorem wk_X11_60 : Cond.constant RX11 60 (-2000000000) ∈ lw_big := b2_at 100 rfl rfl
theorem wfl_X11_496 : Cond.fieldLink RX11 496 RX2 "home" "I" ∈ lw_big := b2_at 176 rfl rfl
theorem fl_X11_496 : FLk RX11 496 [2] 2 0 true := FLk.mk0 _ _ _ wfl_X11_496 (by decide +kernel)
theorem wfl_X11_499 : Cond.fieldLink RX11 499 RX2 "since" "I" ∈ lw_big := b2_at 179 rfl rfl
theorem fl_X11_499 : FLk RX11 499 [2] 3 0 true := FLk.mk0 _ _ _ wfl_X11_499 (by decide +kernel)
theorem wml_X11_502 : Cond.methodLink RX11 502 yX3_ownOf ∈ lw_big := b4_at 18 rfl rfl
theorem wml_X11_511 : Cond.methodLink RX11 511 yX4_whereAfter ∈ lw_big := b4_at 27 rfl rfl
theorem wc_X11_ofThing : CWd yX11_ofThing cX11_ofThing 3 (some .int) 2 := ⟨b4_at 26 rfl rfl, wini_X11, by decide, by decide, by decide +kernel⟩
theorem wsel_X11_X11_ofThing : Cond.selects RX11 yX11_ofThing yX11_ofThing ∈ lw_big := big_sel 9 rfl rfl
theorem wsl_11_X11_ofThing : ∀ t ∈ ([11] : List Nat), t < 13 ∧ Cond.selects (RXX t) yX11_ofThing yX11_ofThing ∈ lw_big := fun t ht => by simp only [List.mem_cons, List.not_mem_nil, or_false] at ht; subst ht; exact ⟨by decide, wsel_X11_X11_ofThing⟩
theorem wml_X11_169 : Cond.methodLink RX11 169 yX11_ofThing ∈ lw_big := b4_at 23 rfl rfl
theorem wim_X11_ofThing : Cond.instanceMethod yX11_ofThing ∈ lw_big := b4_at 25 rfl rfl
theorem wc_X11_ofBox : CWd yX11_ofBox cX11_ofBox 2 (some .int) 2 := ⟨b4_at 21 rfl rfl, wini_X11, by decide, by decide, by decide +kernel⟩
theorem wml_X11_165 : Cond.methodLink RX11 165 yX11_ofBox ∈ lw_big := b4_at 19 rfl rfl
theorem wst_X11_ofBox : Cond.static yX11_ofBox ∈ lw_big := b4_at 20 rfl rfl
theorem wc_X11_ofFinder : CWd yX11_ofFinder cX11_ofFinder 3 (some .int) 2 := ⟨b4_at 17 rfl rfl, wini_X11, by decide, by decide, by decide +kernel⟩
theorem wsel_X11_X11_ofFinder : Cond.selects RX11 yX11_ofFinder yX11_ofFinder ∈ lw_big := big_sel 8 rfl rfl
theorem wsl_11_X11_ofFinder : ∀ t ∈ ([11] : List Nat), t < 13 ∧ Cond.selects (RXX t) yX11_ofFinder yX11_ofFinder ∈ lw_big := fun t ht => by simp only [List.mem_cons, List.not_mem_nil, or_false] at ht; subst ht; exact ⟨by decide, wsel_X11_X11_ofFinder⟩
theorem wml_X11_161 : Cond.methodLink RX11 161 yX11_ofFinder ∈ lw_big := b4_at 14 rfl rfl
theorem wim_X11_ofFinder : Cond.instanceMethod yX11_ofFinder ∈ lw_big := b4_at 16 rfl rfl
theorem wfl_X11_160 : Cond.fieldLink RX11 160 RX0 "kind" "I" ∈ lw_big := b2_at 142 rfl rfl
theorem fl_X11_160 : FLk RX11 160 [0, 1, 2, 9] 1 0 true := FLk.mk0 _ _ _ wfl_X11_160 (by decide +kernel)
theorem wfl_X11_514 : Cond.fieldLink RX11 514 RX1 "riddle" "LHillBoxes$Riddle;" ∈ lw_big := b3_at 153 rfl rfl
theorem fl_X11_514 : FLk RX11 514 [1] 7 2 true := FLk.mk0 _ _ _ wfl_X11_514 (by decide +kernel)
theorem wc_X5_digitOf : CWd yX5_digitOf cX5_digitOf 2 (some .int) 1 := ⟨b5_at 142 rfl rfl, wini_X5, by decide, by decide, by decide +kernel⟩
theorem wsel_X5_X5_digitOf : Cond.selects RX5 yX5_digitOf yX5_digitOf ∈ lw_big := big_sel 38 rfl rfl
theorem wsl_5_X5_digitOf : ∀ t ∈ ([5] : List Nat), t < 13 ∧ Cond.selects (RXX t) yX5_digitOf yX5_digitOf ∈ lw_big := fun t ht => by simp only [List.mem_cons, List.not_mem_nil, or_false] at ht; subst ht; exact ⟨by decide, wsel_X5_X5_digitOf⟩
theorem wml_X5_135 : Cond.methodLink RX5 135 yX5_digitOf ∈ lw_big := b5_at 139 rfl rfl
theorem wim_X5_digitOf : Cond.instanceMethod yX5_digitOf ∈ lw_big := b5_at 141 rfl rfl
theorem wc_X5_coordinate : CWd yX5_coordinate cX5_coordinate 2 (some .int) 1 := ⟨b5_at 146 rfl rfl, wini_X5, by decide, by decide, by decide +kernel⟩
theorem wsel_X5_X5_coordinate : Cond.selects RX5 yX5_coordinate yX5_coordinate ∈ lw_big := big_sel 39 rfl rfl
theorem wsl_5_X5_coordinate : ∀ t ∈ ([5] : List Nat), t < 13 ∧ Cond.selects (RXX t) yX5_coordinate yX5_coordinate ∈ lw_big := fun t ht => by simp only [List.mem_cons, List.not_mem_nil, or_false] at ht; subst ht; exact ⟨by decide, wsel_X5_X5_coordinate⟩
theorem wml_X5_118 : Cond.methodLink RX5 118 yX5_coordinate ∈ lw_big := b5_at 143 rfl rfl
theorem wim_X5_coordinate : Cond.instanceMethod yX5_coordinate ∈ lw_big := b5_at 145 rfl rfl
theorem wc_X5_isWithin : CWd yX5_isWithin cX5_isWithin 2 (some .boolean) 2 := ⟨b5_at 149 rfl rfl, wini_X5, by decide, by decide, by decide +kernel⟩
theorem wml_X5_122 : Cond.methodLink RX5 122 yX5_isWithin ∈ lw_big := b5_at 147 rfl rfl
theorem wst_X5_isWithin : Cond.static yX5_isWithin ∈ lw_big := b5_at 148 rfl rfl
theorem wfl_X5_126 : Cond.fieldLink RX5 126 RX5 "solution" "I" ∈ lw_big := b3_at 90 rfl rfl
theorem fl_X5_126 : FLk RX5 126 [5] 0 0 false := FLk.mk0 _ _ _ wfl_X5_126 (by decide +kernel)
theorem wfl_X5_129 : Cond.fieldLink RX5 129 RX5 "solutionCell" "I" ∈ lw_big := b3_at 92 rfl rfl
theorem fl_X5_129 : FLk RX5 129 [5] 1 0 false := FLk.mk0 _ _ _ wfl_X5_129 (by decide +kernel)
theorem wfl_X5_96 : Cond.fieldLink RX5 96 RX5 "cells" "J" ∈ lw_big := b3_at 94 rfl rfl
theorem fl_X5_96 : FLk RX5 96 [5] 2 1 false := FLk.mk0 _ _ _ wfl_X5_96 (by decide +kernel)
theorem wfl_X5_90 : Cond.fieldLink RX5 90 RX5 "met" "I" ∈ lw_big := b3_at 106 rfl rfl
theorem fl_X5_90 : FLk RX5 90 [5] 13 0 false := FLk.mk0 _ _ _ wfl_X5_90 (by decide +kernel)
theorem wfl_X5_37 : Cond.fieldLink RX5 37 RX5 "told" "I" ∈ lw_big := b3_at 101 rfl rfl
theorem fl_X5_37 : FLk RX5 37 [5] 8 0 false := FLk.mk0 _ _ _ wfl_X5_37 (by decide +kernel)
theorem wc_X5_holds : CWd yX5_holds cX5_holds 3 (some .boolean) 1 := ⟨b5_at 138 rfl rfl, wini_X5, by decide, by decide, by decide +kernel⟩
theorem wsel_X5_X5_holds : Cond.selects RX5 yX5_holds yX5_holds ∈ lw_big := big_sel 37 rfl rfl
theorem wsl_5_X5_holds : ∀ t ∈ ([5] : List Nat), t < 13 ∧ Cond.selects (RXX t) yX5_holds yX5_holds ∈ lw_big := fun t ht => by simp only [List.mem_cons, List.not_mem_nil, or_false] at ht; subst ht; exact ⟨by decide, wsel_X5_X5_holds⟩
theorem wml_X5_132 : Cond.methodLink RX5 132 yX5_holds ∈ lw_big := b5_at 135 rfl rfl
theorem wim_X5_holds : Cond.instanceMethod yX5_holds ∈ lw_big := b5_at 137 rfl rfl
theorem wc_X5_meet : CWd yX5_meet cX5_meet 4 none 1 := ⟨b5_at 153 rfl rfl, wini_X5, by decide, by decide, by decide +kernel⟩
theorem wsel_X5_X5_meet : Cond.selects RX5 yX5_meet yX5_meet ∈ lw_big := big_sel 40 rfl rfl
theorem wsl_5_X5_meet : ∀ t ∈ ([5] : List Nat), t < 13 ∧ Cond.selects (RXX t) yX5_meet yX5_meet ∈ lw_big := fun t ht => by simp only [List.mem_cons, List.not_mem_nil, or_false] at ht; subst ht; exact ⟨by decide, wsel_X5_X5_meet⟩
theorem wml_X5_111 : Cond.methodLink RX5 111 yX5_meet ∈ lw_big := b5_at 150 rfl rfl
theorem wim_X5_meet : Cond.instanceMethod yX5_meet ∈ lw_big := b5_at 152 rfl rfl
theorem wc_X5_tryDigits : CWd yX5_tryDigits cX5_tryDigits 5 none 3 := ⟨b5_at 130 rfl rfl, wini_X5, by decide, by decide, by decide +kernel⟩
theorem wsel_X5_X5_tryDigits : Cond.selects RX5 yX5_tryDigits yX5_tryDigits ∈ lw_big := big_sel 35 rfl rfl
theorem wsl_5_X5_tryDigits : ∀ t ∈ ([5] : List Nat), t < 13 ∧ Cond.selects (RXX t) yX5_tryDigits yX5_tryDigits ∈ lw_big := fun t ht => by simp only [List.mem_cons, List.not_mem_nil, or_false] at ht; subst ht; exact ⟨by decide, wsel_X5_X5_tryDigits⟩
theorem wml_X5_108 : Cond.methodLink RX5 108 yX5_tryDigits ∈ lw_big := b5_at 127 rfl rfl
theorem wim_X5_tryDigits : Cond.instanceMethod yX5_tryDigits ∈ lw_big := b5_at 129 rfl rfl
theorem wfl_X5_40 : Cond.fieldLink RX5 40 RX5 "letters" "I" ∈ lw_big := b3_at 102 rfl rfl
theorem fl_X5_40 : FLk RX5 40 [5] 9 0 false := FLk.mk0 _ _ _ wfl_X5_40 (by decide +kernel)
theorem wfl_X5_93 : Cond.fieldLink RX5 93 RX5 "wanted" "I" ∈ lw_big := b3_at 107 rfl rfl
theorem fl_X5_93 : FLk RX5 93 [5] 14 0 false := FLk.mk0 _ _ _ wfl_X5_93 (by decide +kernel)
theorem wc_X5_allHoldAt : CWd yX5_allHoldAt cX5_allHoldAt 3 (some .boolean) 1 := ⟨b5_at 134 rfl rfl, wini_X5, by decide, by decide, by decide +kernel⟩
theorem wsel_X5_X5_allHoldAt : Cond.selects RX5 yX5_allHoldAt yX5_allHoldAt ∈ lw_big := big_sel 36 rfl rfl
theorem wsl_5_X5_allHoldAt : ∀ t ∈ ([5] : List Nat), t < 13 ∧ Cond.selects (RXX t) yX5_allHoldAt yX5_allHoldAt ∈ lw_big := fun t ht => by simp only [List.mem_cons, List.not_mem_nil, or_false] at ht; subst ht; exact ⟨by decide, wsel_X5_X5_allHoldAt⟩
theorem wml_X5_114 : Cond.methodLink RX5 114 yX5_allHoldAt ∈ lw_big := b5_at 131 rfl rfl
theorem wim_X5_allHoldAt : Cond.instanceMethod yX5_allHoldAt ∈ lw_big := b5_at 133 rfl rfl
theorem wc_X5_search : CWd yX5_search cX5_search 5 none 3 := ⟨b5_at 126 rfl rfl, wini_X5, by decide, by decide, by decide +kernel⟩
theorem wsel_X5_X5_search : Cond.selects RX5 yX5_search yX5_search ∈ lw_big := big_sel 34 rfl rfl
theorem wsl_5_X5_search : ∀ t ∈ ([5] : List Nat), t < 13 ∧ Cond.selects (RXX t) yX5_search yX5_search ∈ lw_big := fun t ht => by simp only [List.mem_cons, List.not_mem_nil, or_false] at ht; subst ht; exact ⟨by decide, wsel_X5_X5_search⟩
theorem wml_X5_104 : Cond.methodLink RX5 104 yX5_search ∈ lw_big := b5_at 123 rfl rfl
theorem wim_X5_search : Cond.instanceMethod yX5_search ∈ lw_big := b5_at 125 rfl rfl
theorem wc_X5_tellsCell : CWd yX5_tellsCell cX5_tellsCell 1 (some .boolean) 0 := ⟨b5_at 112 rfl rfl, wini_X5, by decide, by decide, by decide +kernel⟩
theorem wsel_X5_X5_tellsCell : Cond.selects RX5 yX5_tellsCell yX5_tellsCell ∈ lw_big := b5_at 111 rfl rfl
theorem wsl_5_X5_tellsCell : ∀ t ∈ ([5] : List Nat), t < 13 ∧ Cond.selects (RXX t) yX5_tellsCell yX5_tellsCell ∈ lw_big := fun t ht => by simp only [List.mem_cons, List.not_mem_nil, or_false] at ht; subst ht; exact ⟨by decide, wsel_X5_X5_tellsCell⟩
theorem wml_X5_100 : Cond.methodLink RX5 100 yX5_tellsCell ∈ lw_big := b5_at 122 rfl rfl
theorem wim_X5_tellsCell : Cond.instanceMethod yX5_tellsCell ∈ lw_big := b5_at 110 rfl rfl
theorem wk_X5_85 : Cond.constant RX5 85 (2147483647) ∈ lw_big := b5_at 117 rfl rfl
theorem wc_X5_lookFor : CWd yX5_lookFor cX5_lookFor 2 none 1 := ⟨b5_at 121 rfl rfl, wini_X5, by decide, by decide, by decide +kernel⟩
theorem wsel_X5_X5_lookFor : Cond.selects RX5 yX5_lookFor yX5_lookFor ∈ lw_big := big_sel 33 rfl rfl
theorem wsl_5_X5_lookFor : ∀ t ∈ ([5] : List Nat), t < 13 ∧ Cond.selects (RXX t) yX5_lookFor yX5_lookFor ∈ lw_big := fun t ht => by simp only [List.mem_cons, List.not_mem_nil, or_false] at ht; subst ht; exact ⟨by decide, wsel_X5_X5_lookFor⟩
theorem wml_X5_86 : Cond.methodLink RX5 86 yX5_lookFor ∈ lw_big := b5_at 118 rfl rfl
theorem wim_X5_lookFor : Cond.instanceMethod yX5_lookFor ∈ lw_big := b5_at 120 rfl rfl
theorem wc_X11_riddleOf : CWd yX11_riddleOf cX11_riddleOf 3 (some (.object "HillBoxes$Riddle")) 1 := ⟨b5_at 62 rfl rfl, wini_X11, by decide, by decide, by decide +kernel⟩
theorem wsel_X11_X11_riddleOf : Cond.selects RX11 yX11_riddleOf yX11_riddleOf ∈ lw_big := big_sel 30 rfl rfl
theorem wsl_11_X11_riddleOf : ∀ t ∈ ([11] : List Nat), t < 13 ∧ Cond.selects (RXX t) yX11_riddleOf yX11_riddleOf ∈ lw_big := fun t ht => by simp only [List.mem_cons, List.not_mem_nil, or_false] at ht; subst ht; exact ⟨by decide, wsel_X11_X11_riddleOf⟩
theorem wml_X11_234 : Cond.methodLink RX11 234 yX11_riddleOf ∈ lw_big := b5_at 59 rfl rfl
theorem wim_X11_riddleOf : Cond.instanceMethod yX11_riddleOf ∈ lw_big := b5_at 61 rfl rfl
theorem wk_X11_277 : Cond.constantLong RX11 277 (9223372036854775807) ∈ lw_big := b5_at 167 rfl rfl
theorem wml_X11_254 : Cond.methodLink RX11 254 yX5_tellsCell ∈ lw_big := b5_at 109 rfl rfl
theorem wc_X5_countSolutions : CWd yX5_countSolutions cX5_countSolutions 1 (some .int) 0 := ⟨b5_at 116 rfl rfl, wini_X5, by decide, by decide, by decide +kernel⟩
theorem wsel_X5_X5_countSolutions : Cond.selects RX5 yX5_countSolutions yX5_countSolutions ∈ lw_big := b5_at 115 rfl rfl
theorem wsl_5_X5_countSolutions : ∀ t ∈ ([5] : List Nat), t < 13 ∧ Cond.selects (RXX t) yX5_countSolutions yX5_countSolutions ∈ lw_big := fun t ht => by simp only [List.mem_cons, List.not_mem_nil, or_false] at ht; subst ht; exact ⟨by decide, wsel_X5_X5_countSolutions⟩
theorem wml_X11_257 : Cond.methodLink RX11 257 yX5_countSolutions ∈ lw_big := b5_at 113 rfl rfl
theorem wim_X5_countSolutions : Cond.instanceMethod yX5_countSolutions ∈ lw_big := b5_at 114 rfl rfl
theorem wfl_X11_279 : Cond.fieldLink RX11 279 RX5 "cells" "J" ∈ lw_big := b3_at 95 rfl rfl
theorem fl_X11_279 : FLk RX11 279 [5] 2 1 false := FLk.mk0 _ _ _ wfl_X11_279 (by decide +kernel)
theorem wk_X11_283 : Cond.constantLong RX11 283 (-1) ∈ lw_big := b5_at 168 rfl rfl
theorem wfl_X11_61 : Cond.fieldLink RX11 61 RX3 "owners" "[I" ∈ lw_big := b1_at 44 rfl rfl
theorem fl_X11_61 : FLk RX11 61 [3] 1 2 true := FLk.mk0 _ _ _ wfl_X11_61 (by decide +kernel)
theorem wfl_X7_23 : Cond.fieldLink RX7 23 RX7 "sort" "I" ∈ lw_big := b2_at 53 rfl rfl
theorem fl_X7_23 : FLk RX7 23 [7] 2 0 false := FLk.mk0 _ _ _ wfl_X7_23 (by decide +kernel)
theorem wc_X7_isEmpty : CWd yX7_isEmpty cX7_isEmpty 1 (some .boolean) 0 := ⟨b5_at 70 rfl rfl, wini_X7, by decide, by decide, by decide +kernel⟩
theorem wsel_X7_X7_isEmpty : Cond.selects RX7 yX7_isEmpty yX7_isEmpty ∈ lw_big := b5_at 69 rfl rfl
theorem wsl_7_X7_isEmpty : ∀ t ∈ ([7] : List Nat), t < 13 ∧ Cond.selects (RXX t) yX7_isEmpty yX7_isEmpty ∈ lw_big := fun t ht => by simp only [List.mem_cons, List.not_mem_nil, or_false] at ht; subst ht; exact ⟨by decide, wsel_X7_X7_isEmpty⟩
theorem wml_X11_244 : Cond.methodLink RX11 244 yX7_isEmpty ∈ lw_big := b5_at 67 rfl rfl
theorem wim_X7_isEmpty : Cond.instanceMethod yX7_isEmpty ∈ lw_big := b5_at 68 rfl rfl
theorem wfl_X11_292 : Cond.fieldLink RX11 292 RX1 "paperSeen" "Z" ∈ lw_big := b3_at 178 rfl rfl
theorem fl_X11_292 : FLk RX11 292 [1] 16 0 false := FLk.mk0 _ _ _ wfl_X11_292 (by decide +kernel)
theorem wc_X7_isRowOf : CWd yX7_isRowOf cX7_isRowOf 2 (some .boolean) 1 := ⟨b5_at 74 rfl rfl, wini_X7, by decide, by decide, by decide +kernel⟩
theorem wsel_X7_X7_isRowOf : Cond.selects RX7 yX7_isRowOf yX7_isRowOf ∈ lw_big := b5_at 73 rfl rfl
theorem wsl_7_X7_isRowOf : ∀ t ∈ ([7] : List Nat), t < 13 ∧ Cond.selects (RXX t) yX7_isRowOf yX7_isRowOf ∈ lw_big := fun t ht => by simp only [List.mem_cons, List.not_mem_nil, or_false] at ht; subst ht; exact ⟨by decide, wsel_X7_X7_isRowOf⟩
theorem wml_X11_247 : Cond.methodLink RX11 247 yX7_isRowOf ∈ lw_big := b5_at 71 rfl rfl
theorem wim_X7_isRowOf : Cond.instanceMethod yX7_isRowOf ∈ lw_big := b5_at 72 rfl rfl
theorem wml_X7_40 : Cond.methodLink RX7 40 yX7_isEmpty ∈ lw_big := b7_at 39 rfl rfl
theorem wc_X7_narrowed : CWd yX7_narrowed cX7_narrowed 3 (some .long) 1 := ⟨b7_at 47 rfl rfl, wini_X7, by decide, by decide, by decide +kernel⟩
theorem wsel_X7_X7_narrowed : Cond.selects RX7 yX7_narrowed yX7_narrowed ∈ lw_big := big_sel 58 rfl rfl
theorem wsl_7_X7_narrowed : ∀ t ∈ ([7] : List Nat), t < 13 ∧ Cond.selects (RXX t) yX7_narrowed yX7_narrowed ∈ lw_big := fun t ht => by simp only [List.mem_cons, List.not_mem_nil, or_false] at ht; subst ht; exact ⟨by decide, wsel_X7_X7_narrowed⟩
theorem wml_X7_44 : Cond.methodLink RX7 44 yX7_narrowed ∈ lw_big := b7_at 44 rfl rfl
theorem wim_X7_narrowed : Cond.instanceMethod yX7_narrowed ∈ lw_big := b7_at 46 rfl rfl
theorem wc_X7_refusalOf : CWd yX7_refusalOf cX7_refusalOf 2 (some .int) 1 := ⟨b7_at 38 rfl rfl, wini_X7, by decide, by decide, by decide +kernel⟩
theorem wsel_X7_X7_refusalOf : Cond.selects RX7 yX7_refusalOf yX7_refusalOf ∈ lw_big := b7_at 37 rfl rfl
theorem wsl_7_X7_refusalOf : ∀ t ∈ ([7] : List Nat), t < 13 ∧ Cond.selects (RXX t) yX7_refusalOf yX7_refusalOf ∈ lw_big := fun t ht => by simp only [List.mem_cons, List.not_mem_nil, or_false] at ht; subst ht; exact ⟨by decide, wsel_X7_X7_refusalOf⟩
theorem wml_X11_445 : Cond.methodLink RX11 445 yX7_refusalOf ∈ lw_big := b7_at 35 rfl rfl
theorem wim_X7_refusalOf : Cond.instanceMethod yX7_refusalOf ∈ lw_big := b7_at 36 rfl rfl
theorem wc_X7_setElement : CWd yX7_setElement cX7_setElement 4 none 2 := ⟨b7_at 43 rfl rfl, wini_X7, by decide, by decide, by decide +kernel⟩
theorem wsel_X7_X7_setElement : Cond.selects RX7 yX7_setElement yX7_setElement ∈ lw_big := b7_at 42 rfl rfl
theorem wsl_7_X7_setElement : ∀ t ∈ ([7] : List Nat), t < 13 ∧ Cond.selects (RXX t) yX7_setElement yX7_setElement ∈ lw_big := fun t ht => by simp only [List.mem_cons, List.not_mem_nil, or_false] at ht; subst ht; exact ⟨by decide, wsel_X7_X7_setElement⟩
theorem wml_X11_448 : Cond.methodLink RX11 448 yX7_setElement ∈ lw_big := b7_at 40 rfl rfl
theorem wim_X7_setElement : Cond.instanceMethod yX7_setElement ∈ lw_big := b7_at 41 rfl rfl
theorem wc_X6_putsDown : CWd yX6_putsDown cX6_putsDown 2 (some .boolean) 1 := ⟨b6_at 95 rfl rfl, wini_X6, by decide, by decide, by decide +kernel⟩
theorem wsel_X6_X6_putsDown : Cond.selects RX6 yX6_putsDown yX6_putsDown ∈ lw_big := b6_at 94 rfl rfl
theorem wsl_6_X6_putsDown : ∀ t ∈ ([6] : List Nat), t < 13 ∧ Cond.selects (RXX t) yX6_putsDown yX6_putsDown ∈ lw_big := fun t ht => by simp only [List.mem_cons, List.not_mem_nil, or_false] at ht; subst ht; exact ⟨by decide, wsel_X6_X6_putsDown⟩
theorem wml_X11_518 : Cond.methodLink RX11 518 yX6_putsDown ∈ lw_big := b6_at 92 rfl rfl
theorem wim_X6_putsDown : Cond.instanceMethod yX6_putsDown ∈ lw_big := b6_at 93 rfl rfl
theorem wc_X11_isToPut : CWd yX11_isToPut cX11_isToPut 2 (some .boolean) 1 := ⟨b6_at 91 rfl rfl, wini_X11, by decide, by decide, by decide +kernel⟩
theorem wsel_X11_X11_isToPut : Cond.selects RX11 yX11_isToPut yX11_isToPut ∈ lw_big := big_sel 48 rfl rfl
theorem wsl_11_X11_isToPut : ∀ t ∈ ([11] : List Nat), t < 13 ∧ Cond.selects (RXX t) yX11_isToPut yX11_isToPut ∈ lw_big := fun t ht => by simp only [List.mem_cons, List.not_mem_nil, or_false] at ht; subst ht; exact ⟨by decide, wsel_X11_X11_isToPut⟩
theorem wml_X11_372 : Cond.methodLink RX11 372 yX11_isToPut ∈ lw_big := b6_at 88 rfl rfl
theorem wim_X11_isToPut : Cond.instanceMethod yX11_isToPut ∈ lw_big := b6_at 90 rfl rfl
theorem wml_X4_148 : Cond.methodLink RX4 148 yJ7_fill_53178 ∈ lw_big := b6_at 205 rfl rfl
theorem wc_X4_isTalliedAhead : CWd yX4_isTalliedAhead cX4_isTalliedAhead 3 (some .boolean) 1 := ⟨b6_at 209 rfl rfl, wini_X4, by decide, by decide, by decide +kernel⟩
theorem wsel_X4_X4_isTalliedAhead : Cond.selects RX4 yX4_isTalliedAhead yX4_isTalliedAhead ∈ lw_big := big_sel 55 rfl rfl
theorem wsl_4_X4_isTalliedAhead : ∀ t ∈ ([4] : List Nat), t < 13 ∧ Cond.selects (RXX t) yX4_isTalliedAhead yX4_isTalliedAhead ∈ lw_big := fun t ht => by simp only [List.mem_cons, List.not_mem_nil, or_false] at ht; subst ht; exact ⟨by decide, wsel_X4_X4_isTalliedAhead⟩
theorem wml_X4_154 : Cond.methodLink RX4 154 yX4_isTalliedAhead ∈ lw_big := b6_at 206 rfl rfl
theorem wim_X4_isTalliedAhead : Cond.instanceMethod yX4_isTalliedAhead ∈ lw_big := b6_at 208 rfl rfl
theorem wc_X4_tallyFinds : CWd yX4_tallyFinds cX4_tallyFinds 4 none 2 := ⟨b6_at 204 rfl rfl, wini_X4, by decide, by decide, by decide +kernel⟩
theorem wsel_X4_X4_tallyFinds : Cond.selects RX4 yX4_tallyFinds yX4_tallyFinds ∈ lw_big := b6_at 203 rfl rfl
theorem wsl_4_X4_tallyFinds : ∀ t ∈ ([4] : List Nat), t < 13 ∧ Cond.selects (RXX t) yX4_tallyFinds yX4_tallyFinds ∈ lw_big := fun t ht => by simp only [List.mem_cons, List.not_mem_nil, or_false] at ht; subst ht; exact ⟨by decide, wsel_X4_X4_tallyFinds⟩
theorem wml_X11_425 : Cond.methodLink RX11 425 yX4_tallyFinds ∈ lw_big := b6_at 201 rfl rfl
theorem wim_X4_tallyFinds : Cond.instanceMethod yX4_tallyFinds ∈ lw_big := b6_at 202 rfl rfl
theorem wc_X4_placeOf : CWd yX4_placeOf cX4_placeOf 4 (some .int) 1 := ⟨b6_at 213 rfl rfl, wini_X4, by decide, by decide, by decide +kernel⟩
theorem wsel_X4_X4_placeOf : Cond.selects RX4 yX4_placeOf yX4_placeOf ∈ lw_big := b6_at 212 rfl rfl
theorem wsl_4_X4_placeOf : ∀ t ∈ ([4] : List Nat), t < 13 ∧ Cond.selects (RXX t) yX4_placeOf yX4_placeOf ∈ lw_big := fun t ht => by simp only [List.mem_cons, List.not_mem_nil, or_false] at ht; subst ht; exact ⟨by decide, wsel_X4_X4_placeOf⟩
theorem wml_X11_431 : Cond.methodLink RX11 431 yX4_placeOf ∈ lw_big := b6_at 210 rfl rfl
theorem wim_X4_placeOf : Cond.instanceMethod yX4_placeOf ∈ lw_big := b6_at 211 rfl rfl
theorem wfl_X11_428 : Cond.fieldLink RX11 428 RX4 "tally" "[I" ∈ lw_big := b1_at 195 rfl rfl
theorem fl_X11_428 : FLk RX11 428 [4] 3 2 true := FLk.mk0 _ _ _ wfl_X11_428 (by decide +kernel)
theorem wc_X6_isOf : CWd yX6_isOf cX6_isOf 3 (some .boolean) 2 := ⟨b6_at 200 rfl rfl, wini_X6, by decide, by decide, by decide +kernel⟩
theorem wsel_X6_X6_isOf : Cond.selects RX6 yX6_isOf yX6_isOf ∈ lw_big := b6_at 199 rfl rfl
theorem wsl_6_X6_isOf : ∀ t ∈ ([6] : List Nat), t < 13 ∧ Cond.selects (RXX t) yX6_isOf yX6_isOf ∈ lw_big := fun t ht => by simp only [List.mem_cons, List.not_mem_nil, or_false] at ht; subst ht; exact ⟨by decide, wsel_X6_X6_isOf⟩
theorem wml_X11_422 : Cond.methodLink RX11 422 yX6_isOf ∈ lw_big := b6_at 197 rfl rfl
theorem wim_X6_isOf : Cond.instanceMethod yX6_isOf ∈ lw_big := b6_at 198 rfl rfl
theorem wfl_X5_77 : Cond.fieldLink RX5 77 "HillBoxes$Riddle" "LEAST_NUMBER" "[I" ∈ lw_big := b5_at 100 rfl rfl
theorem wfl_X5_80 : Cond.fieldLink RX5 80 "HillBoxes$Riddle" "GREATEST_NUMBER" "[I" ∈ lw_big := b5_at 102 rfl rfl
theorem wml_X5_49 : Cond.methodLink RX5 49 yX7_hasPlaces ∈ lw_big := b5_at 84 rfl rfl
theorem wk_X5_55 : Cond.constantLong RX5 55 (-1) ∈ lw_big := b5_at 88 rfl rfl
theorem wml_X5_57 : Cond.methodLink RX5 57 yX7_elementOr ∈ lw_big := b5_at 89 rfl rfl
theorem wk_X5_61 : Cond.constantLong RX5 61 (2) ∈ lw_big := b5_at 94 rfl rfl
theorem wk_X5_63 : Cond.constantLong RX5 63 (3) ∈ lw_big := b5_at 95 rfl rfl
theorem wk_X5_65 : Cond.constantLong RX5 65 (4) ∈ lw_big := b5_at 96 rfl rfl
theorem wc_X5_isTelling : CWd yX5_isTelling cX5_isTelling 4 (some .boolean) 4 := ⟨b5_at 99 rfl rfl, wini_X5, by decide, by decide, by decide +kernel⟩
theorem wml_X5_67 : Cond.methodLink RX5 67 yX5_isTelling ∈ lw_big := b5_at 97 rfl rfl
theorem wst_X5_isTelling : Cond.static yX5_isTelling ∈ lw_big := b5_at 98 rfl rfl
theorem wml_X5_71 : Cond.methodLink RX5 71 Lib.Math.max.name ∈ lw_big := b5_at 104 rfl rfl
theorem wk_X5_43 : Cond.constantLong RX5 43 (5) ∈ lw_big := b5_at 79 rfl rfl
theorem wc_X5_takeFive : CWd yX5_takeFive cX5_takeFive 8 (some .boolean) 2 := ⟨b5_at 83 rfl rfl, wini_X5, by decide, by decide, by decide +kernel⟩
theorem wsel_X5_X5_takeFive : Cond.selects RX5 yX5_takeFive yX5_takeFive ∈ lw_big := big_sel 32 rfl rfl
theorem wsl_5_X5_takeFive : ∀ t ∈ ([5] : List Nat), t < 13 ∧ Cond.selects (RXX t) yX5_takeFive yX5_takeFive ∈ lw_big := fun t ht => by simp only [List.mem_cons, List.not_mem_nil, or_false] at ht; subst ht; exact ⟨by decide, wsel_X5_X5_takeFive⟩
theorem wml_X5_45 : Cond.methodLink RX5 45 yX5_takeFive ∈ lw_big := b5_at 80 rfl rfl
theorem wim_X5_takeFive : Cond.instanceMethod yX5_takeFive ∈ lw_big := b5_at 82 rfl rfl
theorem wc_X5_takeTellings : CWd yX5_takeTellings cX5_takeTellings 5 (some .int) 3 := ⟨b5_at 78 rfl rfl, wini_X5, by decide, by decide, by decide +kernel⟩
theorem wsel_X5_X5_takeTellings : Cond.selects RX5 yX5_takeTellings yX5_takeTellings ∈ lw_big := b5_at 77 rfl rfl
theorem wsl_5_X5_takeTellings : ∀ t ∈ ([5] : List Nat), t < 13 ∧ Cond.selects (RXX t) yX5_takeTellings yX5_takeTellings ∈ lw_big := fun t ht => by simp only [List.mem_cons, List.not_mem_nil, or_false] at ht; subst ht; exact ⟨by decide, wsel_X5_X5_takeTellings⟩
theorem wml_X11_250 : Cond.methodLink RX11 250 yX5_takeTellings ∈ lw_big := b5_at 75 rfl rfl
theorem wim_X5_takeTellings : Cond.instanceMethod yX5_takeTellings ∈ lw_big := b5_at 76 rfl rfl
theorem wc_J7_fill_d0a16 : CWd yJ7_fill_d0a16 cJ7_fill_d0a16 5 none 2 := ⟨b7_at 30 rfl rfl, wini_J7, by decide, by decide, by decide +kernel⟩
theorem wml_X7_30 : Cond.methodLink RX7 30 yJ7_fill_d0a16 ∈ lw_big := b7_at 28 rfl rfl
theorem wst_J7_fill_d0a16 : Cond.static yJ7_fill_d0a16 ∈ lw_big := b7_at 29 rfl rfl
theorem wc_X7_holdRow : CWd yX7_holdRow cX7_holdRow 3 none 2 := ⟨b7_at 27 rfl rfl, wini_X7, by decide, by decide, by decide +kernel⟩
theorem wsel_X7_X7_holdRow : Cond.selects RX7 yX7_holdRow yX7_holdRow ∈ lw_big := b7_at 26 rfl rfl
theorem wsl_7_X7_holdRow : ∀ t ∈ ([7] : List Nat), t < 13 ∧ Cond.selects (RXX t) yX7_holdRow yX7_holdRow ∈ lw_big := fun t ht => by simp only [List.mem_cons, List.not_mem_nil, or_false] at ht; subst ht; exact ⟨by decide, wsel_X7_X7_holdRow⟩
theorem wml_X11_442 : Cond.methodLink RX11 442 yX7_holdRow ∈ lw_big := b7_at 24 rfl rfl
theorem wim_X7_holdRow : Cond.instanceMethod yX7_holdRow ∈ lw_big := b7_at 25 rfl rfl
theorem wfl_X8_44 : Cond.fieldLink RX8 44 RX8 "tokenNumber" "I" ∈ lw_big := b1_at 103 rfl rfl
theorem fl_X8_44 : FLk RX8 44 [8] 7 0 false := FLk.mk0 _ _ _ wfl_X8_44 (by decide +kernel)
theorem wfl_X8_47 : Cond.fieldLink RX8 47 RX8 "token" "I" ∈ lw_big := b1_at 102 rfl rfl
theorem fl_X8_47 : FLk RX8 47 [8] 6 0 false := FLk.mk0 _ _ _ wfl_X8_47 (by decide +kernel)
theorem wfl_X8_41 : Cond.fieldLink RX8 41 RX8 "fault" "I" ∈ lw_big := b1_at 104 rfl rfl
theorem fl_X8_41 : FLk RX8 41 [8] 8 0 false := FLk.mk0 _ _ _ wfl_X8_41 (by decide +kernel)
theorem wfl_X8_29 : Cond.fieldLink RX8 29 RX8 "codeLength" "I" ∈ lw_big := b1_at 106 rfl rfl
theorem fl_X8_29 : FLk RX8 29 [8] 10 0 false := FLk.mk0 _ _ _ wfl_X8_29 (by decide +kernel)
theorem wc_X8_blame : CWd yX8_blame cX8_blame 1 none 0 := ⟨b5_at 1 rfl rfl, wini_X8, by decide, by decide, by decide +kernel⟩
theorem wsel_X8_X8_blame : Cond.selects RX8 yX8_blame yX8_blame ∈ lw_big := big_sel 23 rfl rfl
theorem wsl_8_X8_blame : ∀ t ∈ ([8] : List Nat), t < 13 ∧ Cond.selects (RXX t) yX8_blame yX8_blame ∈ lw_big := fun t ht => by simp only [List.mem_cons, List.not_mem_nil, or_false] at ht; subst ht; exact ⟨by decide, wsel_X8_X8_blame⟩
theorem wml_X8_56 : Cond.methodLink RX8 56 yX8_blame ∈ lw_big := b4_at 238 rfl rfl
theorem wim_X8_blame : Cond.instanceMethod yX8_blame ∈ lw_big := b5_at 0 rfl rfl
theorem wc_X8_advance : CWd yX8_advance cX8_advance 1 none 0 := ⟨b4_at 221 rfl rfl, wini_X8, by decide, by decide, by decide +kernel⟩
theorem wsel_X8_X8_advance : Cond.selects RX8 yX8_advance yX8_advance ∈ lw_big := big_sel 18 rfl rfl
theorem wsl_8_X8_advance : ∀ t ∈ ([8] : List Nat), t < 13 ∧ Cond.selects (RXX t) yX8_advance yX8_advance ∈ lw_big := fun t ht => by simp only [List.mem_cons, List.not_mem_nil, or_false] at ht; subst ht; exact ⟨by decide, wsel_X8_X8_advance⟩
theorem wml_X8_53 : Cond.methodLink RX8 53 yX8_advance ∈ lw_big := b4_at 218 rfl rfl
theorem wim_X8_advance : Cond.instanceMethod yX8_advance ∈ lw_big := b4_at 220 rfl rfl
theorem wc_X8_readDenied : CWd yX8_readDenied cX8_readDenied 5 none 1 := ⟨b4_at 233 rfl rfl, wini_X8, by decide, by decide, by decide +kernel⟩
theorem wsel_X8_X8_readDenied : Cond.selects RX8 yX8_readDenied yX8_readDenied ∈ lw_big := big_sel 21 rfl rfl
theorem wsl_8_X8_readDenied : ∀ t ∈ ([8] : List Nat), t < 13 ∧ Cond.selects (RXX t) yX8_readDenied yX8_readDenied ∈ lw_big := fun t ht => by simp only [List.mem_cons, List.not_mem_nil, or_false] at ht; subst ht; exact ⟨by decide, wsel_X8_X8_readDenied⟩
theorem wml_X8_72 : Cond.methodLink RX8 72 yX8_readDenied ∈ lw_big := b4_at 230 rfl rfl
theorem wim_X8_readDenied : Cond.instanceMethod yX8_readDenied ∈ lw_big := b4_at 232 rfl rfl
theorem wc_X8_emit : CWd yX8_emit cX8_emit 2 none 1 := ⟨b5_at 17 rfl rfl, wini_X8, by decide, by decide, by decide +kernel⟩
theorem wsel_X8_X8_emit : Cond.selects RX8 yX8_emit yX8_emit ∈ lw_big := big_sel 27 rfl rfl
theorem wsl_8_X8_emit : ∀ t ∈ ([8] : List Nat), t < 13 ∧ Cond.selects (RXX t) yX8_emit yX8_emit ∈ lw_big := fun t ht => by simp only [List.mem_cons, List.not_mem_nil, or_false] at ht; subst ht; exact ⟨by decide, wsel_X8_X8_emit⟩
theorem wml_X8_63 : Cond.methodLink RX8 63 yX8_emit ∈ lw_big := b5_at 14 rfl rfl
theorem wim_X8_emit : Cond.instanceMethod yX8_emit ∈ lw_big := b5_at 16 rfl rfl
theorem wc_X8_readSum : CWd yX8_readSum cX8_readSum 4 none 1 := ⟨b5_at 5 rfl rfl, wini_X8, by decide, by decide, by decide +kernel⟩
theorem wsel_X8_X8_readSum : Cond.selects RX8 yX8_readSum yX8_readSum ∈ lw_big := big_sel 24 rfl rfl
theorem wsl_8_X8_readSum : ∀ t ∈ ([8] : List Nat), t < 13 ∧ Cond.selects (RXX t) yX8_readSum yX8_readSum ∈ lw_big := fun t ht => by simp only [List.mem_cons, List.not_mem_nil, or_false] at ht; subst ht; exact ⟨by decide, wsel_X8_X8_readSum⟩
theorem wml_X8_79 : Cond.methodLink RX8 79 yX8_readSum ∈ lw_big := b5_at 2 rfl rfl
theorem wim_X8_readSum : Cond.instanceMethod yX8_readSum ∈ lw_big := b5_at 4 rfl rfl
theorem wc_X8_mayOpen : CWd yX8_mayOpen cX8_mayOpen 2 (some .boolean) 1 := ⟨b4_at 237 rfl rfl, wini_X8, by decide, by decide, by decide +kernel⟩
theorem wsel_X8_X8_mayOpen : Cond.selects RX8 yX8_mayOpen yX8_mayOpen ∈ lw_big := big_sel 22 rfl rfl
theorem wsl_8_X8_mayOpen : ∀ t ∈ ([8] : List Nat), t < 13 ∧ Cond.selects (RXX t) yX8_mayOpen yX8_mayOpen ∈ lw_big := fun t ht => by simp only [List.mem_cons, List.not_mem_nil, or_false] at ht; subst ht; exact ⟨by decide, wsel_X8_X8_mayOpen⟩
theorem wml_X8_75 : Cond.methodLink RX8 75 yX8_mayOpen ∈ lw_big := b4_at 234 rfl rfl
theorem wim_X8_mayOpen : Cond.instanceMethod yX8_mayOpen ∈ lw_big := b4_at 236 rfl rfl
theorem wc_X8_readBoth : CWd yX8_readBoth cX8_readBoth 3 none 1 := ⟨b4_at 229 rfl rfl, wini_X8, by decide, by decide, by decide +kernel⟩
theorem wsel_X8_X8_readBoth : Cond.selects RX8 yX8_readBoth yX8_readBoth ∈ lw_big := big_sel 20 rfl rfl
theorem wsl_8_X8_readBoth : ∀ t ∈ ([8] : List Nat), t < 13 ∧ Cond.selects (RXX t) yX8_readBoth yX8_readBoth ∈ lw_big := fun t ht => by simp only [List.mem_cons, List.not_mem_nil, or_false] at ht; subst ht; exact ⟨by decide, wsel_X8_X8_readBoth⟩
theorem wml_X8_69 : Cond.methodLink RX8 69 yX8_readBoth ∈ lw_big := b4_at 226 rfl rfl
theorem wim_X8_readBoth : Cond.instanceMethod yX8_readBoth ∈ lw_big := b4_at 228 rfl rfl
theorem wc_X8_readEither : CWd yX8_readEither cX8_readEither 3 none 1 := ⟨b4_at 225 rfl rfl, wini_X8, by decide, by decide, by decide +kernel⟩
theorem wsel_X8_X8_readEither : Cond.selects RX8 yX8_readEither yX8_readEither ∈ lw_big := big_sel 19 rfl rfl
theorem wsl_8_X8_readEither : ∀ t ∈ ([8] : List Nat), t < 13 ∧ Cond.selects (RXX t) yX8_readEither yX8_readEither ∈ lw_big := fun t ht => by simp only [List.mem_cons, List.not_mem_nil, or_false] at ht; subst ht; exact ⟨by decide, wsel_X8_X8_readEither⟩
theorem wml_X8_59 : Cond.methodLink RX8 59 yX8_readEither ∈ lw_big := b4_at 222 rfl rfl
theorem wim_X8_readEither : Cond.instanceMethod yX8_readEither ∈ lw_big := b4_at 224 rfl rfl
theorem wc_X8_expect : CWd yX8_expect cX8_expect 2 none 1 := ⟨b5_at 21 rfl rfl, wini_X8, by decide, by decide, by decide +kernel⟩
theorem wsel_X8_X8_expect : Cond.selects RX8 yX8_expect yX8_expect ∈ lw_big := big_sel 28 rfl rfl
theorem wsl_8_X8_expect : ∀ t ∈ ([8] : List Nat), t < 13 ∧ Cond.selects (RXX t) yX8_expect yX8_expect ∈ lw_big := fun t ht => by simp only [List.mem_cons, List.not_mem_nil, or_false] at ht; subst ht; exact ⟨by decide, wsel_X8_X8_expect⟩
theorem wml_X8_66 : Cond.methodLink RX8 66 yX8_expect ∈ lw_big := b5_at 18 rfl rfl
theorem wim_X8_expect : Cond.instanceMethod yX8_expect ∈ lw_big := b5_at 20 rfl rfl
theorem wc_X8_readOne : CWd yX8_readOne cX8_readOne 4 none 1 := ⟨b5_at 13 rfl rfl, wini_X8, by decide, by decide, by decide +kernel⟩
theorem wsel_X8_X8_readOne : Cond.selects RX8 yX8_readOne yX8_readOne ∈ lw_big := big_sel 26 rfl rfl
theorem wsl_8_X8_readOne : ∀ t ∈ ([8] : List Nat), t < 13 ∧ Cond.selects (RXX t) yX8_readOne yX8_readOne ∈ lw_big := fun t ht => by simp only [List.mem_cons, List.not_mem_nil, or_false] at ht; subst ht; exact ⟨by decide, wsel_X8_X8_readOne⟩
theorem wml_X8_85 : Cond.methodLink RX8 85 yX8_readOne ∈ lw_big := b5_at 10 rfl rfl
theorem wim_X8_readOne : Cond.instanceMethod yX8_readOne ∈ lw_big := b5_at 12 rfl rfl
theorem wc_X8_readProduct : CWd yX8_readProduct cX8_readProduct 4 none 1 := ⟨b5_at 9 rfl rfl, wini_X8, by decide, by decide, by decide +kernel⟩
theorem wsel_X8_X8_readProduct : Cond.selects RX8 yX8_readProduct yX8_readProduct ∈ lw_big := big_sel 25 rfl rfl
theorem wsl_8_X8_readProduct : ∀ t ∈ ([8] : List Nat), t < 13 ∧ Cond.selects (RXX t) yX8_readProduct yX8_readProduct ∈ lw_big := fun t ht => by simp only [List.mem_cons, List.not_mem_nil, or_false] at ht; subst ht; exact ⟨by decide, wsel_X8_X8_readProduct⟩
theorem wml_X8_82 : Cond.methodLink RX8 82 yX8_readProduct ∈ lw_big := b5_at 6 rfl rfl
theorem wim_X8_readProduct : Cond.instanceMethod yX8_readProduct ∈ lw_big := b5_at 8 rfl rfl
theorem wfl_X8_88 : Cond.fieldLink RX8 88 RX8 "at" "I" ∈ lw_big := b1_at 101 rfl rfl
theorem fl_X8_88 : FLk RX8 88 [8] 5 0 false := FLk.mk0 _ _ _ wfl_X8_88 (by decide +kernel)
theorem wc_X8_byteAt : CWd yX8_byteAt cX8_byteAt 2 (some .int) 1 := ⟨b4_at 86 rfl rfl, wini_X8, by decide, by decide, by decide +kernel⟩
theorem wsel_X8_X8_byteAt : Cond.selects RX8 yX8_byteAt yX8_byteAt ∈ lw_big := big_sel 12 rfl rfl
theorem wsl_8_X8_byteAt : ∀ t ∈ ([8] : List Nat), t < 13 ∧ Cond.selects (RXX t) yX8_byteAt yX8_byteAt ∈ lw_big := fun t ht => by simp only [List.mem_cons, List.not_mem_nil, or_false] at ht; subst ht; exact ⟨by decide, wsel_X8_X8_byteAt⟩
theorem wml_X8_94 : Cond.methodLink RX8 94 yX8_byteAt ∈ lw_big := b4_at 83 rfl rfl
theorem wim_X8_byteAt : Cond.instanceMethod yX8_byteAt ∈ lw_big := b4_at 85 rfl rfl
theorem wc_X8_isDigit : CWd yX8_isDigit cX8_isDigit 1 (some .boolean) 1 := ⟨b4_at 153 rfl rfl, wini_X8, by decide, by decide, by decide +kernel⟩
theorem wml_X8_104 : Cond.methodLink RX8 104 yX8_isDigit ∈ lw_big := b4_at 151 rfl rfl
theorem wst_X8_isDigit : Cond.static yX8_isDigit ∈ lw_big := b4_at 152 rfl rfl
theorem wml_X8_123 : Cond.methodLink RX8 123 ⟨"java/lang/String", "length", "()I"⟩ ∈ lw_big := b4_at 99 rfl rfl
theorem wml_X8_126 : Cond.methodLink RX8 126 ⟨"java/lang/String", "charAt", "(I)C"⟩ ∈ lw_big := b4_at 109 rfl rfl
theorem wc_X8_isWord : CWd yX8_isWord cX8_isWord 5 (some .boolean) 3 := ⟨b4_at 150 rfl rfl, wini_X8, by decide, by decide, by decide +kernel⟩
theorem wsel_X8_X8_isWord : Cond.selects RX8 yX8_isWord yX8_isWord ∈ lw_big := big_sel 15 rfl rfl
theorem wsl_8_X8_isWord : ∀ t ∈ ([8] : List Nat), t < 13 ∧ Cond.selects (RXX t) yX8_isWord yX8_isWord ∈ lw_big := fun t ht => by simp only [List.mem_cons, List.not_mem_nil, or_false] at ht; subst ht; exact ⟨by decide, wsel_X8_X8_isWord⟩
theorem wml_X8_130 : Cond.methodLink RX8 130 yX8_isWord ∈ lw_big := b4_at 147 rfl rfl
theorem wim_X8_isWord : Cond.instanceMethod yX8_isWord ∈ lw_big := b4_at 149 rfl rfl
theorem wc_X8_wordNumber : CWd yX8_wordNumber cX8_wordNumber 6 (some .int) 2 := ⟨b4_at 97 rfl rfl, wini_X8, by decide, by decide, by decide +kernel⟩
theorem wsel_X8_X8_wordNumber : Cond.selects RX8 yX8_wordNumber yX8_wordNumber ∈ lw_big := big_sel 14 rfl rfl
theorem wsl_8_X8_wordNumber : ∀ t ∈ ([8] : List Nat), t < 13 ∧ Cond.selects (RXX t) yX8_wordNumber yX8_wordNumber ∈ lw_big := fun t ht => by simp only [List.mem_cons, List.not_mem_nil, or_false] at ht; subst ht; exact ⟨by decide, wsel_X8_X8_wordNumber⟩
theorem wml_X8_117 : Cond.methodLink RX8 117 yX8_wordNumber ∈ lw_big := b4_at 94 rfl rfl
theorem wim_X8_wordNumber : Cond.instanceMethod yX8_wordNumber ∈ lw_big := b4_at 96 rfl rfl
theorem wc_X8_isLetter : CWd yX8_isLetter cX8_isLetter 1 (some .boolean) 1 := ⟨b4_at 89 rfl rfl, wini_X8, by decide, by decide, by decide +kernel⟩
theorem wml_X8_98 : Cond.methodLink RX8 98 yX8_isLetter ∈ lw_big := b4_at 87 rfl rfl
theorem wst_X8_isLetter : Cond.static yX8_isLetter ∈ lw_big := b4_at 88 rfl rfl
theorem wc_X8_skipBlanks : CWd yX8_skipBlanks cX8_skipBlanks 2 none 0 := ⟨b4_at 82 rfl rfl, wini_X8, by decide, by decide, by decide +kernel⟩
theorem wsel_X8_X8_skipBlanks : Cond.selects RX8 yX8_skipBlanks yX8_skipBlanks ∈ lw_big := big_sel 11 rfl rfl
theorem wsl_8_X8_skipBlanks : ∀ t ∈ ([8] : List Nat), t < 13 ∧ Cond.selects (RXX t) yX8_skipBlanks yX8_skipBlanks ∈ lw_big := fun t ht => by simp only [List.mem_cons, List.not_mem_nil, or_false] at ht; subst ht; exact ⟨by decide, wsel_X8_X8_skipBlanks⟩
theorem wml_X8_91 : Cond.methodLink RX8 91 yX8_skipBlanks ∈ lw_big := b4_at 79 rfl rfl
theorem wim_X8_skipBlanks : Cond.instanceMethod yX8_skipBlanks ∈ lw_big := b4_at 81 rfl rfl
theorem wml_X8_112 : Cond.methodLink RX8 112 ⟨"java/lang/String", "indexOf", "(I)I"⟩ ∈ lw_big := b4_at 159 rfl rfl
theorem wc_X8_readNumber : CWd yX8_readNumber cX8_readNumber 4 none 1 := ⟨b4_at 157 rfl rfl, wini_X8, by decide, by decide, by decide +kernel⟩
theorem wsel_X8_X8_readNumber : Cond.selects RX8 yX8_readNumber yX8_readNumber ∈ lw_big := big_sel 16 rfl rfl
theorem wsl_8_X8_readNumber : ∀ t ∈ ([8] : List Nat), t < 13 ∧ Cond.selects (RXX t) yX8_readNumber yX8_readNumber ∈ lw_big := fun t ht => by simp only [List.mem_cons, List.not_mem_nil, or_false] at ht; subst ht; exact ⟨by decide, wsel_X8_X8_readNumber⟩
theorem wml_X8_107 : Cond.methodLink RX8 107 yX8_readNumber ∈ lw_big := b4_at 154 rfl rfl
theorem wim_X8_readNumber : Cond.instanceMethod yX8_readNumber ∈ lw_big := b4_at 156 rfl rfl
theorem wc_X8_readWord : CWd yX8_readWord cX8_readWord 3 none 1 := ⟨b4_at 93 rfl rfl, wini_X8, by decide, by decide, by decide +kernel⟩
theorem wsel_X8_X8_readWord : Cond.selects RX8 yX8_readWord yX8_readWord ∈ lw_big := big_sel 13 rfl rfl
theorem wsl_8_X8_readWord : ∀ t ∈ ([8] : List Nat), t < 13 ∧ Cond.selects (RXX t) yX8_readWord yX8_readWord ∈ lw_big := fun t ht => by simp only [List.mem_cons, List.not_mem_nil, or_false] at ht; subst ht; exact ⟨by decide, wsel_X8_X8_readWord⟩
theorem wml_X8_101 : Cond.methodLink RX8 101 yX8_readWord ∈ lw_big := b4_at 90 rfl rfl
theorem wim_X8_readWord : Cond.instanceMethod yX8_readWord ∈ lw_big := b4_at 92 rfl rfl
theorem wc_X8_splitIntoTokens : CWd yX8_splitIntoTokens cX8_splitIntoTokens 3 none 0 := ⟨b4_at 78 rfl rfl, wini_X8, by decide, by decide, by decide +kernel⟩
theorem wsel_X8_X8_splitIntoTokens : Cond.selects RX8 yX8_splitIntoTokens yX8_splitIntoTokens ∈ lw_big := big_sel 10 rfl rfl
theorem wsl_8_X8_splitIntoTokens : ∀ t ∈ ([8] : List Nat), t < 13 ∧ Cond.selects (RXX t) yX8_splitIntoTokens yX8_splitIntoTokens ∈ lw_big := fun t ht => by simp only [List.mem_cons, List.not_mem_nil, or_false] at ht; subst ht; exact ⟨by decide, wsel_X8_X8_splitIntoTokens⟩
theorem wml_X8_38 : Cond.methodLink RX8 38 yX8_splitIntoTokens ∈ lw_big := b4_at 75 rfl rfl
theorem wim_X8_splitIntoTokens : Cond.instanceMethod yX8_splitIntoTokens ∈ lw_big := b4_at 77 rfl rfl
theorem wc_X8_readLine : CWd yX8_readLine cX8_readLine 2 none 0 := ⟨b4_at 217 rfl rfl, wini_X8, by decide, by decide, by decide +kernel⟩
theorem wsel_X8_X8_readLine : Cond.selects RX8 yX8_readLine yX8_readLine ∈ lw_big := big_sel 17 rfl rfl
theorem wsl_8_X8_readLine : ∀ t ∈ ([8] : List Nat), t < 13 ∧ Cond.selects (RXX t) yX8_readLine yX8_readLine ∈ lw_big := fun t ht => by simp only [List.mem_cons, List.not_mem_nil, or_false] at ht; subst ht; exact ⟨by decide, wsel_X8_X8_readLine⟩
theorem wml_X8_50 : Cond.methodLink RX8 50 yX8_readLine ∈ lw_big := b4_at 214 rfl rfl
theorem wim_X8_readLine : Cond.instanceMethod yX8_readLine ∈ lw_big := b4_at 216 rfl rfl
theorem wml_X8_32 : Cond.methodLink RX8 32 arraycopyName ∈ lw_big := b5_at 26 rfl rfl
theorem wnat : Cond.native arraycopyName ∈ lw_big := b5_at 28 rfl rfl
theorem wst_cpy : Cond.static arraycopyName ∈ lw_big := b5_at 27 rfl rfl
theorem wini_sys : Cond.initialized "java/lang/System" ∈ lw_big := b1_at 21 rfl rfl
theorem wc_X8_compile : CWd yX8_compile cX8_compile 2 (some .int) 0 := ⟨b4_at 74 rfl rfl, wini_X8, by decide, by decide, by decide +kernel⟩
theorem wsel_X8_X8_compile : Cond.selects RX8 yX8_compile yX8_compile ∈ lw_big := b4_at 73 rfl rfl
theorem wsl_8_X8_compile : ∀ t ∈ ([8] : List Nat), t < 13 ∧ Cond.selects (RXX t) yX8_compile yX8_compile ∈ lw_big := fun t ht => by simp only [List.mem_cons, List.not_mem_nil, or_false] at ht; subst ht; exact ⟨by decide, wsel_X8_X8_compile⟩
theorem wml_X6_48 : Cond.methodLink RX6 48 yX8_compile ∈ lw_big := b4_at 71 rfl rfl
theorem wim_X8_compile : Cond.instanceMethod yX8_compile ∈ lw_big := b4_at 72 rfl rfl
theorem wfl_X6_52 : Cond.fieldLink RX6 52 RX8 "length" "I" ∈ lw_big := b1_at 95 rfl rfl
theorem fl_X6_52 : FLk RX6 52 [8] 0 0 false := FLk.mk0 _ _ _ wfl_X6_52 (by decide +kernel)
theorem wc_X8_copyCode : CWd yX8_copyCode cX8_copyCode 3 (some .int) 2 := ⟨b5_at 25 rfl rfl, wini_X8, by decide, by decide, by decide +kernel⟩
theorem wsel_X8_X8_copyCode : Cond.selects RX8 yX8_copyCode yX8_copyCode ∈ lw_big := b5_at 24 rfl rfl
theorem wsl_8_X8_copyCode : ∀ t ∈ ([8] : List Nat), t < 13 ∧ Cond.selects (RXX t) yX8_copyCode yX8_copyCode ∈ lw_big := fun t ht => by simp only [List.mem_cons, List.not_mem_nil, or_false] at ht; subst ht; exact ⟨by decide, wsel_X8_X8_copyCode⟩
theorem wml_X6_60 : Cond.methodLink RX6 60 yX8_copyCode ∈ lw_big := b5_at 22 rfl rfl
theorem wim_X8_copyCode : Cond.instanceMethod yX8_copyCode ∈ lw_big := b5_at 23 rfl rfl
theorem wc_X6_isFull : CWd yX6_isFull cX6_isFull 1 (some .boolean) 0 := ⟨b4_at 66 rfl rfl, wini_X6, by decide, by decide, by decide +kernel⟩
theorem wsel_X6_X6_isFull : Cond.selects RX6 yX6_isFull yX6_isFull ∈ lw_big := b4_at 65 rfl rfl
theorem wsl_6_X6_isFull : ∀ t ∈ ([6] : List Nat), t < 13 ∧ Cond.selects (RXX t) yX6_isFull yX6_isFull ∈ lw_big := fun t ht => by simp only [List.mem_cons, List.not_mem_nil, or_false] at ht; subst ht; exact ⟨by decide, wsel_X6_X6_isFull⟩
theorem wml_X11_197 : Cond.methodLink RX11 197 yX6_isFull ∈ lw_big := b4_at 63 rfl rfl
theorem wim_X6_isFull : Cond.instanceMethod yX6_isFull ∈ lw_big := b4_at 64 rfl rfl
theorem wc_X6_make : CWd yX6_make cX6_make 4 (some .int) 2 := ⟨b4_at 70 rfl rfl, wini_X6, by decide, by decide, by decide +kernel⟩
theorem wsel_X6_X6_make : Cond.selects RX6 yX6_make yX6_make ∈ lw_big := b4_at 69 rfl rfl
theorem wsl_6_X6_make : ∀ t ∈ ([6] : List Nat), t < 13 ∧ Cond.selects (RXX t) yX6_make yX6_make ∈ lw_big := fun t ht => by simp only [List.mem_cons, List.not_mem_nil, or_false] at ht; subst ht; exact ⟨by decide, wsel_X6_X6_make⟩
theorem wml_X11_198 : Cond.methodLink RX11 198 yX6_make ∈ lw_big := b4_at 67 rfl rfl
theorem wim_X6_make : Cond.instanceMethod yX6_make ∈ lw_big := b4_at 68 rfl rfl
theorem wc_X11_canSay : CWd yX11_canSay cX11_canSay 7 (some .boolean) 3 := ⟨b5_at 42 rfl rfl, wini_X11, by decide, by decide, by decide +kernel⟩
theorem wsel_X11_X11_canSay : Cond.selects RX11 yX11_canSay yX11_canSay ∈ lw_big := big_sel 29 rfl rfl
theorem wsl_11_X11_canSay : ∀ t ∈ ([11] : List Nat), t < 13 ∧ Cond.selects (RXX t) yX11_canSay yX11_canSay ∈ lw_big := fun t ht => by simp only [List.mem_cons, List.not_mem_nil, or_false] at ht; subst ht; exact ⟨by decide, wsel_X11_X11_canSay⟩
theorem wml_X11_206 : Cond.methodLink RX11 206 yX11_canSay ∈ lw_big := b5_at 39 rfl rfl
theorem wim_X11_canSay : Cond.instanceMethod yX11_canSay ∈ lw_big := b5_at 41 rfl rfl
theorem wml_X11_218 : Cond.methodLink RX11 218 yX6_answer ∈ lw_big := b5_at 45 rfl rfl
theorem wfl_X11_221 : Cond.fieldLink RX11 221 RX6 "line" "I" ∈ lw_big := b1_at 135 rfl rfl
theorem fl_X11_221 : FLk RX11 221 [6] 2 0 false := FLk.mk0 _ _ _ wfl_X11_221 (by decide +kernel)
theorem wml_X11_214 : Cond.methodLink RX11 214 yX6_askForBox ∈ lw_big := b5_at 44 rfl rfl
theorem wml_X11_210 : Cond.methodLink RX11 210 yX6_askForKind ∈ lw_big := b5_at 43 rfl rfl
theorem wfl_X11_452 : Cond.fieldLink RX11 452 RX7 "isRow" "Z" ∈ lw_big := b2_at 52 rfl rfl
theorem fl_X11_452 : FLk RX11 452 [7] 1 0 false := FLk.mk0 _ _ _ wfl_X11_452 (by decide +kernel)
theorem wfl_X11_455 : Cond.fieldLink RX11 455 RX7 "sort" "I" ∈ lw_big := b2_at 54 rfl rfl
theorem fl_X11_455 : FLk RX11 455 [7] 2 0 false := FLk.mk0 _ _ _ wfl_X11_455 (by decide +kernel)
theorem wml_X11_458 : Cond.methodLink RX11 458 yX7_hasPlaces ∈ lw_big := b7_at 56 rfl rfl
theorem wfl_X11_462 : Cond.fieldLink RX11 462 RX7 "elements" "[J" ∈ lw_big := b2_at 57 rfl rfl
theorem fl_X11_462 : FLk RX11 462 [7] 4 2 true := FLk.mk0 _ _ _ wfl_X11_462 (by decide +kernel)
theorem wml_X11_466 : Cond.methodLink RX11 466 arraycopyName ∈ lw_big := b7_at 57 rfl rfl
theorem wc_X5_findSolution : CWd yX5_findSolution cX5_findSolution 2 (some .boolean) 1 := ⟨b5_at 157 rfl rfl, wini_X5, by decide, by decide, by decide +kernel⟩
theorem wsel_X5_X5_findSolution : Cond.selects RX5 yX5_findSolution yX5_findSolution ∈ lw_big := b5_at 156 rfl rfl
theorem wsl_5_X5_findSolution : ∀ t ∈ ([5] : List Nat), t < 13 ∧ Cond.selects (RXX t) yX5_findSolution yX5_findSolution ∈ lw_big := fun t ht => by simp only [List.mem_cons, List.not_mem_nil, or_false] at ht; subst ht; exact ⟨by decide, wsel_X5_X5_findSolution⟩
theorem wml_X11_261 : Cond.methodLink RX11 261 yX5_findSolution ∈ lw_big := b5_at 154 rfl rfl
theorem wim_X5_findSolution : Cond.instanceMethod yX5_findSolution ∈ lw_big := b5_at 155 rfl rfl
theorem wfl_X11_264 : Cond.fieldLink RX11 264 RX5 "solution" "I" ∈ lw_big := b3_at 91 rfl rfl
theorem fl_X11_264 : FLk RX11 264 [5] 0 0 false := FLk.mk0 _ _ _ wfl_X11_264 (by decide +kernel)
theorem wfl_X11_267 : Cond.fieldLink RX11 267 RX5 "solutionCell" "I" ∈ lw_big := b3_at 93 rfl rfl
theorem fl_X11_267 : FLk RX11 267 [5] 1 0 false := FLk.mk0 _ _ _ wfl_X11_267 (by decide +kernel)
theorem wml_X11_521 : Cond.methodLink RX11 521 yX6_letsHide ∈ lw_big := b6_at 79 rfl rfl
theorem wc_X11_takerOf : CWd yX11_takerOf cX11_takerOf 7 (some .int) 1 := ⟨b6_at 78 rfl rfl, wini_X11, by decide, by decide, by decide +kernel⟩
theorem wsel_X11_X11_takerOf : Cond.selects RX11 yX11_takerOf yX11_takerOf ∈ lw_big := big_sel 47 rfl rfl
theorem wsl_11_X11_takerOf : ∀ t ∈ ([11] : List Nat), t < 13 ∧ Cond.selects (RXX t) yX11_takerOf yX11_takerOf ∈ lw_big := fun t ht => by simp only [List.mem_cons, List.not_mem_nil, or_false] at ht; subst ht; exact ⟨by decide, wsel_X11_X11_takerOf⟩
theorem wml_X11_369 : Cond.methodLink RX11 369 yX11_takerOf ∈ lw_big := b6_at 75 rfl rfl
theorem wim_X11_takerOf : Cond.instanceMethod yX11_takerOf ∈ lw_big := b6_at 77 rfl rfl
theorem wfl_X11_472 : Cond.fieldLink RX11 472 RX7 "body" "LHillBoxes$Body;" ∈ lw_big := b2_at 50 rfl rfl
theorem fl_X11_472 : FLk RX11 472 [7] 0 2 false := FLk.mk0 _ _ _ wfl_X11_472 (by decide +kernel)
theorem wc_X0_isUnder : CWd yX0_isUnder cX0_isUnder 4 (some .boolean) 1 := ⟨b7_at 69 rfl rfl, wini_X0, by decide, by decide, by decide +kernel⟩
theorem wsel_X0_X0_isUnder : Cond.selects RX0 yX0_isUnder yX0_isUnder ∈ lw_big := b7_at 64 rfl rfl
theorem wsel_X1_X0_isUnder : Cond.selects RX1 yX0_isUnder yX0_isUnder ∈ lw_big := b7_at 66 rfl rfl
theorem wsel_X2_X0_isUnder : Cond.selects RX2 yX0_isUnder yX0_isUnder ∈ lw_big := b7_at 67 rfl rfl
theorem wsel_X9_X0_isUnder : Cond.selects RX9 yX0_isUnder yX0_isUnder ∈ lw_big := b7_at 68 rfl rfl
theorem wsl_0_1_2_9_X0_isUnder : ∀ t ∈ ([0, 1, 2, 9] : List Nat), t < 13 ∧ Cond.selects (RXX t) yX0_isUnder yX0_isUnder ∈ lw_big := fun t ht => by
    simp only [List.mem_cons, List.not_mem_nil, or_false] at ht
    rcases ht with rfl | rfl | rfl | rfl
    · exact ⟨by decide, wsel_X0_X0_isUnder⟩
    · exact ⟨by decide, wsel_X1_X0_isUnder⟩
    · exact ⟨by decide, wsel_X2_X0_isUnder⟩
    · exact ⟨by decide, wsel_X9_X0_isUnder⟩
theorem wml_X11_476 : Cond.methodLink RX11 476 yX0_isUnder ∈ lw_big := b7_at 62 rfl rfl
theorem wim_X0_isUnder : Cond.instanceMethod yX0_isUnder ∈ lw_big := b7_at 63 rfl rfl
theorem wfl_X11_340 : Cond.fieldLink RX11 340 RX4 "found" "[Z" ∈ lw_big := b1_at 191 rfl rfl
theorem fl_X11_340 : FLk RX11 340 [4] 1 2 true := FLk.mk0 _ _ _ wfl_X11_340 (by decide +kernel)
theorem wfl_X11_347 : Cond.fieldLink RX11 347 RX9 "logs" "[I" ∈ lw_big := b2_at 120 rfl rfl
theorem fl_X11_347 : FLk RX11 347 [9] 2 2 true := FLk.mk0 _ _ _ wfl_X11_347 (by decide +kernel)
theorem wfl_X11_349 : Cond.fieldLink RX11 349 RX9 "left" "[Z" ∈ lw_big := b2_at 123 rfl rfl
theorem fl_X11_349 : FLk RX11 349 [9] 3 2 true := FLk.mk0 _ _ _ wfl_X11_349 (by decide +kernel)
theorem wfl_X10_47 : Cond.fieldLink RX10 47 RX10 "limit" "I" ∈ lw_big := b2_at 8 rfl rfl
theorem fl_X10_47 : FLk RX10 47 [10] 15 0 false := FLk.mk0 _ _ _ wfl_X10_47 (by decide +kernel)
theorem wfl_X10_50 : Cond.fieldLink RX10 50 RX10 "bestWorth" "I" ∈ lw_big := b2_at 4 rfl rfl
theorem fl_X10_50 : FLk RX10 50 [10] 11 0 false := FLk.mk0 _ _ _ wfl_X10_50 (by decide +kernel)
theorem wfl_X10_94 : Cond.fieldLink RX10 94 RX10 "bestHours" "I" ∈ lw_big := b2_at 5 rfl rfl
theorem fl_X10_94 : FLk RX10 94 [10] 12 0 false := FLk.mk0 _ _ _ wfl_X10_94 (by decide +kernel)
theorem wfl_X10_97 : Cond.fieldLink RX10 97 RX10 "bestCount" "I" ∈ lw_big := b2_at 3 rfl rfl
theorem fl_X10_97 : FLk RX10 97 [10] 10 0 false := FLk.mk0 _ _ _ wfl_X10_97 (by decide +kernel)
theorem wml_X10_100 : Cond.methodLink RX10 100 arraycopyName ∈ lw_big := b6_at 150 rfl rfl
theorem wc_X10_goOnBehind : CWd yX10_goOnBehind cX10_goOnBehind 6 none 4 := ⟨b6_at 145 rfl rfl, wini_X10, by decide, by decide, by decide +kernel⟩
theorem wsel_X10_X10_goOnBehind : Cond.selects RX10 yX10_goOnBehind yX10_goOnBehind ∈ lw_big := big_sel 53 rfl rfl
theorem wsl_10_X10_goOnBehind : ∀ t ∈ ([10] : List Nat), t < 13 ∧ Cond.selects (RXX t) yX10_goOnBehind yX10_goOnBehind ∈ lw_big := fun t ht => by simp only [List.mem_cons, List.not_mem_nil, or_false] at ht; subst ht; exact ⟨by decide, wsel_X10_X10_goOnBehind⟩
theorem wml_X10_67 : Cond.methodLink RX10 67 yX10_goOnBehind ∈ lw_big := b6_at 142 rfl rfl
theorem wim_X10_goOnBehind : Cond.instanceMethod yX10_goOnBehind ∈ lw_big := b6_at 144 rfl rfl
theorem wc_X10_compare : CWd yX10_compare cX10_compare 4 none 3 := ⟨b6_at 149 rfl rfl, wini_X10, by decide, by decide, by decide +kernel⟩
theorem wsel_X10_X10_compare : Cond.selects RX10 yX10_compare yX10_compare ∈ lw_big := big_sel 54 rfl rfl
theorem wsl_10_X10_compare : ∀ t ∈ ([10] : List Nat), t < 13 ∧ Cond.selects (RXX t) yX10_compare yX10_compare ∈ lw_big := fun t ht => by simp only [List.mem_cons, List.not_mem_nil, or_false] at ht; subst ht; exact ⟨by decide, wsel_X10_X10_compare⟩
theorem wml_X10_79 : Cond.methodLink RX10 79 yX10_compare ∈ lw_big := b6_at 146 rfl rfl
theorem wim_X10_compare : Cond.instanceMethod yX10_compare ∈ lw_big := b6_at 148 rfl rfl
theorem wc_X10_extend : CWd yX10_extend cX10_extend 7 none 5 := ⟨b6_at 130 rfl rfl, wini_X10, by decide, by decide, by decide +kernel⟩
theorem wsel_X10_X10_extend : Cond.selects RX10 yX10_extend yX10_extend ∈ lw_big := big_sel 50 rfl rfl
theorem wsl_10_X10_extend : ∀ t ∈ ([10] : List Nat), t < 13 ∧ Cond.selects (RXX t) yX10_extend yX10_extend ∈ lw_big := fun t ht => by simp only [List.mem_cons, List.not_mem_nil, or_false] at ht; subst ht; exact ⟨by decide, wsel_X10_X10_extend⟩
theorem wml_X10_56 : Cond.methodLink RX10 56 yX10_extend ∈ lw_big := b6_at 127 rfl rfl
theorem wim_X10_extend : Cond.instanceMethod yX10_extend ∈ lw_big := b6_at 129 rfl rfl
theorem wfl_X10_106 : Cond.fieldLink RX10 106 RX10 "walkedCount" "I" ∈ lw_big := b1_at 233 rfl rfl
theorem fl_X10_106 : FLk RX10 106 [10] 2 0 false := FLk.mk0 _ _ _ wfl_X10_106 (by decide +kernel)
theorem wfl_X10_40 : Cond.fieldLink RX10 40 RX1 "number" "I" ∈ lw_big := b2_at 128 rfl rfl
theorem fl_X10_40 : FLk RX10 40 [1] 0 0 true := FLk.mk1 _ _ _ _ wfl_X10_40 wsf_X1_number (by decide +kernel)
theorem wc_X10_findBest : CWd yX10_findBest cX10_findBest 3 (some .boolean) 2 := ⟨b6_at 122 rfl rfl, wini_X10, by decide, by decide, by decide +kernel⟩
theorem wsel_X10_X10_findBest : Cond.selects RX10 yX10_findBest yX10_findBest ∈ lw_big := b6_at 121 rfl rfl
theorem wsl_10_X10_findBest : ∀ t ∈ ([10] : List Nat), t < 13 ∧ Cond.selects (RXX t) yX10_findBest yX10_findBest ∈ lw_big := fun t ht => by simp only [List.mem_cons, List.not_mem_nil, or_false] at ht; subst ht; exact ⟨by decide, wsel_X10_X10_findBest⟩
theorem wml_X11_389 : Cond.methodLink RX11 389 yX10_findBest ∈ lw_big := b6_at 119 rfl rfl
theorem wim_X10_findBest : Cond.instanceMethod yX10_findBest ∈ lw_big := b6_at 120 rfl rfl
theorem wc_X10_takeBest : CWd yX10_takeBest cX10_takeBest 3 (some .int) 0 := ⟨b6_at 154 rfl rfl, wini_X10, by decide, by decide, by decide +kernel⟩
theorem wsel_X10_X10_takeBest : Cond.selects RX10 yX10_takeBest yX10_takeBest ∈ lw_big := b6_at 153 rfl rfl
theorem wsl_10_X10_takeBest : ∀ t ∈ ([10] : List Nat), t < 13 ∧ Cond.selects (RXX t) yX10_takeBest yX10_takeBest ∈ lw_big := fun t ht => by simp only [List.mem_cons, List.not_mem_nil, or_false] at ht; subst ht; exact ⟨by decide, wsel_X10_X10_takeBest⟩
theorem wml_X11_392 : Cond.methodLink RX11 392 yX10_takeBest ∈ lw_big := b6_at 151 rfl rfl
theorem wim_X10_takeBest : Cond.instanceMethod yX10_takeBest ∈ lw_big := b6_at 152 rfl rfl
theorem wfl_X11_395 : Cond.fieldLink RX11 395 RX10 "walkedHours" "I" ∈ lw_big := b1_at 232 rfl rfl
theorem fl_X11_395 : FLk RX11 395 [10] 1 0 false := FLk.mk0 _ _ _ wfl_X11_395 (by decide +kernel)
theorem wfl_X11_398 : Cond.fieldLink RX11 398 RX10 "walkedCount" "I" ∈ lw_big := b1_at 234 rfl rfl
theorem fl_X11_398 : FLk RX11 398 [10] 2 0 false := FLk.mk0 _ _ _ wfl_X11_398 (by decide +kernel)
theorem wfl_X11_401 : Cond.fieldLink RX11 401 RX10 "walked" "[I" ∈ lw_big := b1_at 236 rfl rfl
theorem fl_X11_401 : FLk RX11 401 [10] 3 2 true := FLk.mk0 _ _ _ wfl_X11_401 (by decide +kernel)
theorem wc_X10_isWished : CWd yX10_isWished cX10_isWished 3 (some .boolean) 1 := ⟨b6_at 107 rfl rfl, wini_X10, by decide, by decide, by decide +kernel⟩
theorem wsel_X10_X10_isWished : Cond.selects RX10 yX10_isWished yX10_isWished ∈ lw_big := b6_at 106 rfl rfl
theorem wsl_10_X10_isWished : ∀ t ∈ ([10] : List Nat), t < 13 ∧ Cond.selects (RXX t) yX10_isWished yX10_isWished ∈ lw_big := fun t ht => by simp only [List.mem_cons, List.not_mem_nil, or_false] at ht; subst ht; exact ⟨by decide, wsel_X10_X10_isWished⟩
theorem wml_X11_376 : Cond.methodLink RX11 376 yX10_isWished ∈ lw_big := b6_at 104 rfl rfl
theorem wim_X10_isWished : Cond.instanceMethod yX10_isWished ∈ lw_big := b6_at 105 rfl rfl
theorem wfl_X11_379 : Cond.fieldLink RX11 379 RX10 "wishes" "I" ∈ lw_big := b1_at 230 rfl rfl
theorem fl_X11_379 : FLk RX11 379 [10] 0 0 false := FLk.mk0 _ _ _ wfl_X11_379 (by decide +kernel)
theorem wc_X10_wishFor : CWd yX10_wishFor cX10_wishFor 4 (some .int) 3 := ⟨b6_at 111 rfl rfl, wini_X10, by decide, by decide, by decide +kernel⟩
theorem wsel_X10_X10_wishFor : Cond.selects RX10 yX10_wishFor yX10_wishFor ∈ lw_big := b6_at 110 rfl rfl
theorem wsl_10_X10_wishFor : ∀ t ∈ ([10] : List Nat), t < 13 ∧ Cond.selects (RXX t) yX10_wishFor yX10_wishFor ∈ lw_big := fun t ht => by simp only [List.mem_cons, List.not_mem_nil, or_false] at ht; subst ht; exact ⟨by decide, wsel_X10_X10_wishFor⟩
theorem wml_X11_382 : Cond.methodLink RX11 382 yX10_wishFor ∈ lw_big := b6_at 108 rfl rfl
theorem wim_X10_wishFor : Cond.instanceMethod yX10_wishFor ∈ lw_big := b6_at 109 rfl rfl
theorem wml_X12_1 : Cond.methodLink RX12 1 Lib.objectInit ∈ lw_big := b7_at 87 rfl rfl
theorem wfl_X12_7 : Cond.fieldLink RX12 7 RX12 "ownerLess" "[I" ∈ lw_big := b7_at 89 rfl rfl
theorem fl_X12_7 : FLk RX12 7 [12] 2 2 true := FLk.mk0 _ _ _ wfl_X12_7 (by decide +kernel)
theorem wfl_X12_13 : Cond.fieldLink RX12 13 RX12 "kind" "[I" ∈ lw_big := b7_at 91 rfl rfl
theorem fl_X12_13 : FLk RX12 13 [12] 4 2 true := FLk.mk0 _ _ _ wfl_X12_13 (by decide +kernel)
theorem wfl_X12_16 : Cond.fieldLink RX12 16 RX12 "firstCell" "[I" ∈ lw_big := b7_at 92 rfl rfl
theorem fl_X12_16 : FLk RX12 16 [12] 5 2 true := FLk.mk0 _ _ _ wfl_X12_16 (by decide +kernel)
theorem wfl_X12_19 : Cond.fieldLink RX12 19 RX12 "began" "[I" ∈ lw_big := b7_at 93 rfl rfl
theorem fl_X12_19 : FLk RX12 19 [12] 6 2 true := FLk.mk0 _ _ _ wfl_X12_19 (by decide +kernel)
theorem wfl_X12_22 : Cond.fieldLink RX12 22 RX12 "ended" "[I" ∈ lw_big := b7_at 94 rfl rfl
theorem fl_X12_22 : FLk RX12 22 [12] 7 2 true := FLk.mk0 _ _ _ wfl_X12_22 (by decide +kernel)
theorem wfl_X12_25 : Cond.fieldLink RX12 25 RX12 "keeper" "[I" ∈ lw_big := b7_at 95 rfl rfl
theorem fl_X12_25 : FLk RX12 25 [12] 8 2 true := FLk.mk0 _ _ _ wfl_X12_25 (by decide +kernel)
theorem wfl_X12_28 : Cond.fieldLink RX12 28 RX12 "stepMany" "[I" ∈ lw_big := b7_at 96 rfl rfl
theorem fl_X12_28 : FLk RX12 28 [12] 9 2 true := FLk.mk0 _ _ _ wfl_X12_28 (by decide +kernel)
theorem wfl_X12_31 : Cond.fieldLink RX12 31 RX12 "stepsOf" "[I" ∈ lw_big := b7_at 97 rfl rfl
theorem fl_X12_31 : FLk RX12 31 [12] 10 2 true := FLk.mk0 _ _ _ wfl_X12_31 (by decide +kernel)
theorem wfl_X12_34 : Cond.fieldLink RX12 34 RX12 "step" "[I" ∈ lw_big := b7_at 99 rfl rfl
theorem fl_X12_34 : FLk RX12 34 [12] 12 2 true := FLk.mk0 _ _ _ wfl_X12_34 (by decide +kernel)
theorem wfl_X12_37 : Cond.fieldLink RX12 37 RX12 "moveBox" "[I" ∈ lw_big := b7_at 101 rfl rfl
theorem fl_X12_37 : FLk RX12 37 [12] 14 2 true := FLk.mk0 _ _ _ wfl_X12_37 (by decide +kernel)
theorem wfl_X12_40 : Cond.fieldLink RX12 40 RX12 "moveCell" "[I" ∈ lw_big := b7_at 102 rfl rfl
theorem fl_X12_40 : FLk RX12 40 [12] 15 2 true := FLk.mk0 _ _ _ wfl_X12_40 (by decide +kernel)
theorem wfl_X12_43 : Cond.fieldLink RX12 43 RX12 "moveAt" "[I" ∈ lw_big := b7_at 103 rfl rfl
theorem fl_X12_43 : FLk RX12 43 [12] 16 2 true := FLk.mk0 _ _ _ wfl_X12_43 (by decide +kernel)
theorem wfl_X12_46 : Cond.fieldLink RX12 46 RX12 "logFinder" "[I" ∈ lw_big := b7_at 105 rfl rfl
theorem fl_X12_46 : FLk RX12 46 [12] 18 2 true := FLk.mk0 _ _ _ wfl_X12_46 (by decide +kernel)
theorem wfl_X12_49 : Cond.fieldLink RX12 49 RX12 "logBox" "[I" ∈ lw_big := b7_at 106 rfl rfl
theorem fl_X12_49 : FLk RX12 49 [12] 19 2 true := FLk.mk0 _ _ _ wfl_X12_49 (by decide +kernel)
theorem wfl_X12_52 : Cond.fieldLink RX12 52 RX12 "logAt" "[I" ∈ lw_big := b7_at 107 rfl rfl
theorem fl_X12_52 : FLk RX12 52 [12] 20 2 true := FLk.mk0 _ _ _ wfl_X12_52 (by decide +kernel)
theorem wfl_X12_55 : Cond.fieldLink RX12 55 RX12 "logFound" "[Z" ∈ lw_big := b7_at 108 rfl rfl
theorem fl_X12_55 : FLk RX12 55 [12] 21 2 true := FLk.mk0 _ _ _ wfl_X12_55 (by decide +kernel)
theorem wfl_X12_59 : Cond.fieldLink RX12 59 RX12 "paperMany" "[I" ∈ lw_big := b7_at 109 rfl rfl
theorem fl_X12_59 : FLk RX12 59 [12] 22 2 true := FLk.mk0 _ _ _ wfl_X12_59 (by decide +kernel)
theorem wac_21 : Cond.arrayClass (aty 21) ∈ lw_big := b8_at 118 rfl rfl
theorem wfl_X12_62 : Cond.fieldLink RX12 62 RX12 "paper" "[S" ∈ lw_big := b7_at 110 rfl rfl
theorem fl_X12_62 : FLk RX12 62 [12] 23 2 true := FLk.mk0 _ _ _ wfl_X12_62 (by decide +kernel)
theorem wac_22 : Cond.arrayClass (aty 22) ∈ lw_big := b5_at 29 rfl rfl
theorem wfl_X12_66 : Cond.fieldLink RX12 66 RX12 "tape" "[B" ∈ lw_big := b7_at 111 rfl rfl
theorem fl_X12_66 : FLk RX12 66 [12] 24 2 true := FLk.mk0 _ _ _ wfl_X12_66 (by decide +kernel)
theorem wfl_X12_70 : Cond.fieldLink RX12 70 RX12 "textUse" "[I" ∈ lw_big := b7_at 121 rfl rfl
theorem fl_X12_70 : FLk RX12 70 [12] 34 2 true := FLk.mk0 _ _ _ wfl_X12_70 (by decide +kernel)
theorem wfl_X12_73 : Cond.fieldLink RX12 73 RX12 "textMade" "[I" ∈ lw_big := b7_at 122 rfl rfl
theorem fl_X12_73 : FLk RX12 73 [12] 35 2 true := FLk.mk0 _ _ _ wfl_X12_73 (by decide +kernel)
theorem wfl_X12_76 : Cond.fieldLink RX12 76 RX12 "textFrom" "[I" ∈ lw_big := b7_at 123 rfl rfl
theorem fl_X12_76 : FLk RX12 76 [12] 36 2 true := FLk.mk0 _ _ _ wfl_X12_76 (by decide +kernel)
theorem wfl_X12_79 : Cond.fieldLink RX12 79 RX12 "lineMany" "[I" ∈ lw_big := b7_at 124 rfl rfl
theorem fl_X12_79 : FLk RX12 79 [12] 37 2 true := FLk.mk0 _ _ _ wfl_X12_79 (by decide +kernel)
theorem wfl_X12_82 : Cond.fieldLink RX12 82 RX12 "lineSort" "[B" ∈ lw_big := b7_at 125 rfl rfl
theorem fl_X12_82 : FLk RX12 82 [12] 38 2 true := FLk.mk0 _ _ _ wfl_X12_82 (by decide +kernel)
theorem wfl_X12_85 : Cond.fieldLink RX12 85 RX12 "testEnd" "[S" ∈ lw_big := b7_at 126 rfl rfl
theorem fl_X12_85 : FLk RX12 85 [12] 39 2 true := FLk.mk0 _ _ _ wfl_X12_85 (by decide +kernel)
theorem wfl_X12_88 : Cond.fieldLink RX12 88 RX12 "lineEnd" "[S" ∈ lw_big := b7_at 127 rfl rfl
theorem fl_X12_88 : FLk RX12 88 [12] 40 2 true := FLk.mk0 _ _ _ wfl_X12_88 (by decide +kernel)
theorem wfl_X12_91 : Cond.fieldLink RX12 91 RX12 "act" "[B" ∈ lw_big := b7_at 128 rfl rfl
theorem fl_X12_91 : FLk RX12 91 [12] 41 2 true := FLk.mk0 _ _ _ wfl_X12_91 (by decide +kernel)
theorem wfl_X12_94 : Cond.fieldLink RX12 94 RX12 "with" "[I" ∈ lw_big := b7_at 129 rfl rfl
theorem fl_X12_94 : FLk RX12 94 [12] 42 2 true := FLk.mk0 _ _ _ wfl_X12_94 (by decide +kernel)
theorem wfl_X12_97 : Cond.fieldLink RX12 97 RX12 "facts" "[I" ∈ lw_big := b7_at 130 rfl rfl
theorem fl_X12_97 : FLk RX12 97 [12] 43 2 true := FLk.mk0 _ _ _ wfl_X12_97 (by decide +kernel)
theorem wfl_X12_100 : Cond.fieldLink RX12 100 RX12 "pile" "[I" ∈ lw_big := b7_at 131 rfl rfl
theorem fl_X12_100 : FLk RX12 100 [12] 44 2 true := FLk.mk0 _ _ _ wfl_X12_100 (by decide +kernel)
theorem wfl_X12_103 : Cond.fieldLink RX12 103 RX12 "tellMany" "[B" ∈ lw_big := b7_at 133 rfl rfl
theorem fl_X12_103 : FLk RX12 103 [12] 46 2 true := FLk.mk0 _ _ _ wfl_X12_103 (by decide +kernel)
theorem wfl_X12_106 : Cond.fieldLink RX12 106 RX12 "tellSort" "[B" ∈ lw_big := b7_at 134 rfl rfl
theorem fl_X12_106 : FLk RX12 106 [12] 47 2 true := FLk.mk0 _ _ _ wfl_X12_106 (by decide +kernel)
theorem wfl_X12_109 : Cond.fieldLink RX12 109 RX12 "tellOne" "[B" ∈ lw_big := b7_at 135 rfl rfl
theorem fl_X12_109 : FLk RX12 109 [12] 48 2 true := FLk.mk0 _ _ _ wfl_X12_109 (by decide +kernel)
theorem wfl_X12_112 : Cond.fieldLink RX12 112 RX12 "tellOther" "[B" ∈ lw_big := b7_at 136 rfl rfl
theorem fl_X12_112 : FLk RX12 112 [12] 49 2 true := FLk.mk0 _ _ _ wfl_X12_112 (by decide +kernel)
theorem wfl_X12_115 : Cond.fieldLink RX12 115 RX12 "tellIs" "[B" ∈ lw_big := b7_at 137 rfl rfl
theorem fl_X12_115 : FLk RX12 115 [12] 50 2 true := FLk.mk0 _ _ _ wfl_X12_115 (by decide +kernel)
theorem wfl_X12_118 : Cond.fieldLink RX12 118 RX12 "digitOf" "[I" ∈ lw_big := b7_at 138 rfl rfl
theorem fl_X12_118 : FLk RX12 118 [12] 51 2 true := FLk.mk0 _ _ _ wfl_X12_118 (by decide +kernel)
theorem wfl_X12_121 : Cond.fieldLink RX12 121 RX12 "tellings" "[I" ∈ lw_big := b7_at 146 rfl rfl
theorem fl_X12_121 : FLk RX12 121 [12] 59 2 true := FLk.mk0 _ _ _ wfl_X12_121 (by decide +kernel)
theorem wfl_X12_124 : Cond.fieldLink RX12 124 RX12 "tellLog" "[S" ∈ lw_big := b7_at 147 rfl rfl
theorem fl_X12_124 : FLk RX12 124 [12] 60 2 true := FLk.mk0 _ _ _ wfl_X12_124 (by decide +kernel)
theorem wfl_X12_127 : Cond.fieldLink RX12 127 RX12 "tellLeft" "[Z" ∈ lw_big := b7_at 148 rfl rfl
theorem fl_X12_127 : FLk RX12 127 [12] 61 2 true := FLk.mk0 _ _ _ wfl_X12_127 (by decide +kernel)
theorem wfl_X12_130 : Cond.fieldLink RX12 130 RX12 "askMany" "[B" ∈ lw_big := b7_at 149 rfl rfl
theorem fl_X12_130 : FLk RX12 130 [12] 62 2 true := FLk.mk0 _ _ _ wfl_X12_130 (by decide +kernel)
theorem wfl_X12_133 : Cond.fieldLink RX12 133 RX12 "asker" "[S" ∈ lw_big := b7_at 150 rfl rfl
theorem fl_X12_133 : FLk RX12 133 [12] 63 2 true := FLk.mk0 _ _ _ wfl_X12_133 (by decide +kernel)
theorem wfl_X12_136 : Cond.fieldLink RX12 136 RX12 "goesDown" "[Z" ∈ lw_big := b7_at 151 rfl rfl
theorem fl_X12_136 : FLk RX12 136 [12] 64 2 true := FLk.mk0 _ _ _ wfl_X12_136 (by decide +kernel)
theorem wfl_X12_139 : Cond.fieldLink RX12 139 RX12 "wishBox" "[I" ∈ lw_big := b7_at 153 rfl rfl
theorem fl_X12_139 : FLk RX12 139 [12] 66 2 true := FLk.mk0 _ _ _ wfl_X12_139 (by decide +kernel)
theorem wfl_X12_142 : Cond.fieldLink RX12 142 RX12 "wishWorth" "[I" ∈ lw_big := b7_at 154 rfl rfl
theorem fl_X12_142 : FLk RX12 142 [12] 67 2 true := FLk.mk0 _ _ _ wfl_X12_142 (by decide +kernel)
theorem wfl_X12_145 : Cond.fieldLink RX12 145 RX12 "wishHours" "[I" ∈ lw_big := b7_at 155 rfl rfl
theorem fl_X12_145 : FLk RX12 145 [12] 68 2 true := FLk.mk0 _ _ _ wfl_X12_145 (by decide +kernel)
theorem wfl_X12_148 : Cond.fieldLink RX12 148 RX12 "row" "[I" ∈ lw_big := b7_at 156 rfl rfl
theorem fl_X12_148 : FLk RX12 148 [12] 69 2 true := FLk.mk0 _ _ _ wfl_X12_148 (by decide +kernel)
theorem wfl_X12_151 : Cond.fieldLink RX12 151 RX12 "bestRow" "[I" ∈ lw_big := b7_at 157 rfl rfl
theorem fl_X12_151 : FLk RX12 151 [12] 70 2 true := FLk.mk0 _ _ _ wfl_X12_151 (by decide +kernel)
theorem wfl_X12_154 : Cond.fieldLink RX12 154 RX12 "wentTo" "[I" ∈ lw_big := b7_at 161 rfl rfl
theorem fl_X12_154 : FLk RX12 154 [12] 74 2 true := FLk.mk0 _ _ _ wfl_X12_154 (by decide +kernel)
theorem wfl_X12_157 : Cond.fieldLink RX12 157 RX12 "wentMany" "I" ∈ lw_big := b7_at 162 rfl rfl
theorem fl_X12_157 : FLk RX12 157 [12] 75 0 false := FLk.mk0 _ _ _ wfl_X12_157 (by decide +kernel)
theorem wfl_X12_161 : Cond.fieldLink RX12 161 RX12 "wentHours" "I" ∈ lw_big := b7_at 163 rfl rfl
theorem fl_X12_161 : FLk RX12 161 [12] 76 0 false := FLk.mk0 _ _ _ wfl_X12_161 (by decide +kernel)
theorem wfl_X12_164 : Cond.fieldLink RX12 164 RX12 "looked" "[B" ∈ lw_big := b7_at 167 rfl rfl
theorem fl_X12_164 : FLk RX12 164 [12] 80 2 true := FLk.mk0 _ _ _ wfl_X12_164 (by decide +kernel)
theorem wfl_X12_167 : Cond.fieldLink RX12 167 RX12 "ways" "[J" ∈ lw_big := b7_at 168 rfl rfl
theorem fl_X12_167 : FLk RX12 167 [12] 81 2 true := FLk.mk0 _ _ _ wfl_X12_167 (by decide +kernel)
theorem wfl_X12_171 : Cond.fieldLink RX12 171 RX12 "findsBy" "[I" ∈ lw_big := b7_at 169 rfl rfl
theorem fl_X12_171 : FLk RX12 171 [12] 82 2 true := FLk.mk0 _ _ _ wfl_X12_171 (by decide +kernel)
theorem wfl_X12_174 : Cond.fieldLink RX12 174 RX12 "countsNow" "[Z" ∈ lw_big := b7_at 170 rfl rfl
theorem fl_X12_174 : FLk RX12 174 [12] 83 2 true := FLk.mk0 _ _ _ wfl_X12_174 (by decide +kernel)
theorem wfl_X12_177 : Cond.fieldLink RX12 177 RX12 "traced" "[I" ∈ lw_big := b7_at 172 rfl rfl
theorem fl_X12_177 : FLk RX12 177 [12] 85 2 true := FLk.mk0 _ _ _ wfl_X12_177 (by decide +kernel)
theorem wfl_X12_180 : Cond.fieldLink RX12 180 RX12 "holds" "[I" ∈ lw_big := b7_at 173 rfl rfl
theorem fl_X12_180 : FLk RX12 180 [12] 86 2 true := FLk.mk0 _ _ _ wfl_X12_180 (by decide +kernel)
theorem wfl_X12_183 : Cond.fieldLink RX12 183 RX12 "size" "[I" ∈ lw_big := b7_at 174 rfl rfl
theorem fl_X12_183 : FLk RX12 183 [12] 87 2 true := FLk.mk0 _ _ _ wfl_X12_183 (by decide +kernel)
theorem wfl_X12_186 : Cond.fieldLink RX12 186 RX12 "elements" "[J" ∈ lw_big := b7_at 175 rfl rfl
theorem fl_X12_186 : FLk RX12 186 [12] 88 2 true := FLk.mk0 _ _ _ wfl_X12_186 (by decide +kernel)
theorem wfl_X12_189 : Cond.fieldLink RX12 189 RX12 "shifted" "[J" ∈ lw_big := b7_at 176 rfl rfl
theorem fl_X12_189 : FLk RX12 189 [12] 89 2 true := FLk.mk0 _ _ _ wfl_X12_189 (by decide +kernel)
theorem wfl_X12_586 : Cond.fieldLink RX12 586 RX12 "traces" "I" ∈ lw_big := b7_at 171 rfl rfl
theorem fl_X12_586 : FLk RX12 586 [12] 84 0 false := FLk.mk0 _ _ _ wfl_X12_586 (by decide +kernel)
theorem wini_X12 : Cond.initialized RX12 ∈ lw_big := b1_at 9 rfl rfl
theorem wc_X12_ran : CWd yX12_ran cX12_ran 2 none 1 := ⟨b10_at 167 rfl rfl, wini_X12, by decide, by decide, by decide +kernel⟩
theorem wsel_X12_X12_ran : Cond.selects RX12 yX12_ran yX12_ran ∈ lw_big := big_sel 134 rfl rfl
theorem wsl_12_X12_ran : ∀ t ∈ ([12] : List Nat), t < 13 ∧ Cond.selects (RXX t) yX12_ran yX12_ran ∈ lw_big := fun t ht => by simp only [List.mem_cons, List.not_mem_nil, or_false] at ht; subst ht; exact ⟨by decide, wsel_X12_X12_ran⟩
theorem wml_X12_589 : Cond.methodLink RX12 589 yX12_ran ∈ lw_big := b10_at 164 rfl rfl
theorem wim_X12_ran : Cond.instanceMethod yX12_ran ∈ lw_big := b10_at 166 rfl rfl
theorem wc_X12_plainFinds : CWd yX12_plainFinds cX12_plainFinds 3 (some .int) 2 := ⟨b10_at 195 rfl rfl, wini_X12, by decide, by decide, by decide +kernel⟩
theorem wsel_X12_X12_plainFinds : Cond.selects RX12 yX12_plainFinds yX12_plainFinds ∈ lw_big := big_sel 141 rfl rfl
theorem wsl_12_X12_plainFinds : ∀ t ∈ ([12] : List Nat), t < 13 ∧ Cond.selects (RXX t) yX12_plainFinds yX12_plainFinds ∈ lw_big := fun t ht => by simp only [List.mem_cons, List.not_mem_nil, or_false] at ht; subst ht; exact ⟨by decide, wsel_X12_X12_plainFinds⟩
theorem wml_X12_610 : Cond.methodLink RX12 610 yX12_plainFinds ∈ lw_big := b10_at 192 rfl rfl
theorem wim_X12_plainFinds : Cond.instanceMethod yX12_plainFinds ∈ lw_big := b10_at 194 rfl rfl
theorem wfl_X12_236 : Cond.fieldLink RX12 236 RX12 "moves" "I" ∈ lw_big := b7_at 100 rfl rfl
theorem fl_X12_236 : FLk RX12 236 [12] 13 0 false := FLk.mk0 _ _ _ wfl_X12_236 (by decide +kernel)
theorem wc_X12_plainHides : CWd yX12_plainHides cX12_plainHides 3 (some .int) 2 := ⟨b10_at 175 rfl rfl, wini_X12, by decide, by decide, by decide +kernel⟩
theorem wsel_X12_X12_plainHides : Cond.selects RX12 yX12_plainHides yX12_plainHides ∈ lw_big := big_sel 136 rfl rfl
theorem wsl_12_X12_plainHides : ∀ t ∈ ([12] : List Nat), t < 13 ∧ Cond.selects (RXX t) yX12_plainHides yX12_plainHides ∈ lw_big := fun t ht => by simp only [List.mem_cons, List.not_mem_nil, or_false] at ht; subst ht; exact ⟨by decide, wsel_X12_X12_plainHides⟩
theorem wml_X12_592 : Cond.methodLink RX12 592 yX12_plainHides ∈ lw_big := b10_at 172 rfl rfl
theorem wim_X12_plainHides : Cond.instanceMethod yX12_plainHides ∈ lw_big := b10_at 174 rfl rfl
theorem wc_X12_cellNow : CWd yX12_cellNow cX12_cellNow 3 (some .int) 1 := ⟨b8_at 191 rfl rfl, wini_X12, by decide, by decide, by decide +kernel⟩
theorem wsel_X12_X12_cellNow : Cond.selects RX12 yX12_cellNow yX12_cellNow ∈ lw_big := big_sel 68 rfl rfl
theorem wsl_12_X12_cellNow : ∀ t ∈ ([12] : List Nat), t < 13 ∧ Cond.selects (RXX t) yX12_cellNow yX12_cellNow ∈ lw_big := fun t ht => by simp only [List.mem_cons, List.not_mem_nil, or_false] at ht; subst ht; exact ⟨by decide, wsel_X12_X12_cellNow⟩
theorem wml_X12_239 : Cond.methodLink RX12 239 yX12_cellNow ∈ lw_big := b8_at 188 rfl rfl
theorem wim_X12_cellNow : Cond.instanceMethod yX12_cellNow ∈ lw_big := b8_at 190 rfl rfl
theorem wc_X12_in : CWd yX12_in cX12_in 3 (some .boolean) 3 := ⟨b8_at 125 rfl rfl, wini_X12, by decide, by decide, by decide +kernel⟩
theorem wml_X12_195 : Cond.methodLink RX12 195 yX12_in ∈ lw_big := b8_at 123 rfl rfl
theorem wst_X12_in : Cond.static yX12_in ∈ lw_big := b8_at 124 rfl rfl
theorem wc_X12_isUnder : CWd yX12_isUnder cX12_isUnder 2 (some .boolean) 2 := ⟨b8_at 176 rfl rfl, wini_X12, by decide, by decide, by decide +kernel⟩
theorem wml_X12_220 : Cond.methodLink RX12 220 yX12_isUnder ∈ lw_big := b8_at 174 rfl rfl
theorem wst_X12_isUnder : Cond.static yX12_isUnder ∈ lw_big := b8_at 175 rfl rfl
theorem wc_X12_boxHides : CWd yX12_boxHides cX12_boxHides 3 (some .int) 2 := ⟨b10_at 171 rfl rfl, wini_X12, by decide, by decide, by decide +kernel⟩
theorem wsel_X12_X12_boxHides : Cond.selects RX12 yX12_boxHides yX12_boxHides ∈ lw_big := big_sel 135 rfl rfl
theorem wsl_12_X12_boxHides : ∀ t ∈ ([12] : List Nat), t < 13 ∧ Cond.selects (RXX t) yX12_boxHides yX12_boxHides ∈ lw_big := fun t ht => by simp only [List.mem_cons, List.not_mem_nil, or_false] at ht; subst ht; exact ⟨by decide, wsel_X12_X12_boxHides⟩
theorem wml_X12_595 : Cond.methodLink RX12 595 yX12_boxHides ∈ lw_big := b10_at 168 rfl rfl
theorem wim_X12_boxHides : Cond.instanceMethod yX12_boxHides ∈ lw_big := b10_at 170 rfl rfl
theorem wc_X12_hides : CWd yX12_hides cX12_hides 3 (some .int) 2 := ⟨b10_at 163 rfl rfl, wini_X12, by decide, by decide, by decide +kernel⟩
theorem wsel_X12_X12_hides : Cond.selects RX12 yX12_hides yX12_hides ∈ lw_big := big_sel 133 rfl rfl
theorem wsl_12_X12_hides : ∀ t ∈ ([12] : List Nat), t < 13 ∧ Cond.selects (RXX t) yX12_hides yX12_hides ∈ lw_big := fun t ht => by simp only [List.mem_cons, List.not_mem_nil, or_false] at ht; subst ht; exact ⟨by decide, wsel_X12_X12_hides⟩
theorem wml_X12_598 : Cond.methodLink RX12 598 yX12_hides ∈ lw_big := b10_at 160 rfl rfl
theorem wim_X12_hides : Cond.instanceMethod yX12_hides ∈ lw_big := b10_at 162 rfl rfl
theorem wc_X12_plainTells : CWd yX12_plainTells cX12_plainTells 3 (some .int) 2 := ⟨b10_at 187 rfl rfl, wini_X12, by decide, by decide, by decide +kernel⟩
theorem wsel_X12_X12_plainTells : Cond.selects RX12 yX12_plainTells yX12_plainTells ∈ lw_big := big_sel 139 rfl rfl
theorem wsl_12_X12_plainTells : ∀ t ∈ ([12] : List Nat), t < 13 ∧ Cond.selects (RXX t) yX12_plainTells yX12_plainTells ∈ lw_big := fun t ht => by simp only [List.mem_cons, List.not_mem_nil, or_false] at ht; subst ht; exact ⟨by decide, wsel_X12_X12_plainTells⟩
theorem wml_X12_601 : Cond.methodLink RX12 601 yX12_plainTells ∈ lw_big := b10_at 184 rfl rfl
theorem wim_X12_plainTells : Cond.instanceMethod yX12_plainTells ∈ lw_big := b10_at 186 rfl rfl
theorem wc_X12_finds : CWd yX12_finds cX12_finds 3 (some .int) 2 := ⟨b10_at 191 rfl rfl, wini_X12, by decide, by decide, by decide +kernel⟩
theorem wsel_X12_X12_finds : Cond.selects RX12 yX12_finds yX12_finds ∈ lw_big := big_sel 140 rfl rfl
theorem wsl_12_X12_finds : ∀ t ∈ ([12] : List Nat), t < 13 ∧ Cond.selects (RXX t) yX12_finds yX12_finds ∈ lw_big := fun t ht => by simp only [List.mem_cons, List.not_mem_nil, or_false] at ht; subst ht; exact ⟨by decide, wsel_X12_X12_finds⟩
theorem wml_X12_604 : Cond.methodLink RX12 604 yX12_finds ∈ lw_big := b10_at 188 rfl rfl
theorem wim_X12_finds : Cond.instanceMethod yX12_finds ∈ lw_big := b10_at 190 rfl rfl
theorem wc_X12_riddleTells : CWd yX12_riddleTells cX12_riddleTells 4 (some .int) 2 := ⟨b10_at 183 rfl rfl, wini_X12, by decide, by decide, by decide +kernel⟩
theorem wsel_X12_X12_riddleTells : Cond.selects RX12 yX12_riddleTells yX12_riddleTells ∈ lw_big := big_sel 138 rfl rfl
theorem wsl_12_X12_riddleTells : ∀ t ∈ ([12] : List Nat), t < 13 ∧ Cond.selects (RXX t) yX12_riddleTells yX12_riddleTells ∈ lw_big := fun t ht => by simp only [List.mem_cons, List.not_mem_nil, or_false] at ht; subst ht; exact ⟨by decide, wsel_X12_X12_riddleTells⟩
theorem wml_X12_607 : Cond.methodLink RX12 607 yX12_riddleTells ∈ lw_big := b10_at 180 rfl rfl
theorem wim_X12_riddleTells : Cond.instanceMethod yX12_riddleTells ∈ lw_big := b10_at 182 rfl rfl
theorem wc_X12_tells : CWd yX12_tells cX12_tells 4 (some .int) 2 := ⟨b10_at 179 rfl rfl, wini_X12, by decide, by decide, by decide +kernel⟩
theorem wsel_X12_X12_tells : Cond.selects RX12 yX12_tells yX12_tells ∈ lw_big := big_sel 137 rfl rfl
theorem wsl_12_X12_tells : ∀ t ∈ ([12] : List Nat), t < 13 ∧ Cond.selects (RXX t) yX12_tells yX12_tells ∈ lw_big := fun t ht => by simp only [List.mem_cons, List.not_mem_nil, or_false] at ht; subst ht; exact ⟨by decide, wsel_X12_X12_tells⟩
theorem wml_X12_613 : Cond.methodLink RX12 613 yX12_tells ∈ lw_big := b10_at 176 rfl rfl
theorem wim_X12_tells : Cond.instanceMethod yX12_tells ∈ lw_big := b10_at 178 rfl rfl
theorem wc_X12_plainEnds : CWd yX12_plainEnds cX12_plainEnds 4 (some .int) 2 := ⟨b10_at 203 rfl rfl, wini_X12, by decide, by decide, by decide +kernel⟩
theorem wsel_X12_X12_plainEnds : Cond.selects RX12 yX12_plainEnds yX12_plainEnds ∈ lw_big := big_sel 143 rfl rfl
theorem wsl_12_X12_plainEnds : ∀ t ∈ ([12] : List Nat), t < 13 ∧ Cond.selects (RXX t) yX12_plainEnds yX12_plainEnds ∈ lw_big := fun t ht => by simp only [List.mem_cons, List.not_mem_nil, or_false] at ht; subst ht; exact ⟨by decide, wsel_X12_X12_plainEnds⟩
theorem wml_X12_616 : Cond.methodLink RX12 616 yX12_plainEnds ∈ lw_big := b10_at 200 rfl rfl
theorem wim_X12_plainEnds : Cond.instanceMethod yX12_plainEnds ∈ lw_big := b10_at 202 rfl rfl
theorem wfl_X12_214 : Cond.fieldLink RX12 214 RX12 "bodies" "I" ∈ lw_big := b7_at 90 rfl rfl
theorem fl_X12_214 : FLk RX12 214 [12] 3 0 false := FLk.mk0 _ _ _ wfl_X12_214 (by decide +kernel)
theorem wc_X12_isBody : CWd yX12_isBody cX12_isBody 2 (some .boolean) 1 := ⟨b8_at 161 rfl rfl, wini_X12, by decide, by decide, by decide +kernel⟩
theorem wsel_X12_X12_isBody : Cond.selects RX12 yX12_isBody yX12_isBody ∈ lw_big := big_sel 64 rfl rfl
theorem wsl_12_X12_isBody : ∀ t ∈ ([12] : List Nat), t < 13 ∧ Cond.selects (RXX t) yX12_isBody yX12_isBody ∈ lw_big := fun t ht => by simp only [List.mem_cons, List.not_mem_nil, or_false] at ht; subst ht; exact ⟨by decide, wsel_X12_X12_isBody⟩
theorem wml_X12_217 : Cond.methodLink RX12 217 yX12_isBody ∈ lw_big := b8_at 158 rfl rfl
theorem wim_X12_isBody : Cond.instanceMethod yX12_isBody ∈ lw_big := b8_at 160 rfl rfl
theorem wc_X12_ends : CWd yX12_ends cX12_ends 3 (some .int) 2 := ⟨b10_at 199 rfl rfl, wini_X12, by decide, by decide, by decide +kernel⟩
theorem wsel_X12_X12_ends : Cond.selects RX12 yX12_ends yX12_ends ∈ lw_big := big_sel 142 rfl rfl
theorem wsl_12_X12_ends : ∀ t ∈ ([12] : List Nat), t < 13 ∧ Cond.selects (RXX t) yX12_ends yX12_ends ∈ lw_big := fun t ht => by simp only [List.mem_cons, List.not_mem_nil, or_false] at ht; subst ht; exact ⟨by decide, wsel_X12_X12_ends⟩
theorem wml_X12_619 : Cond.methodLink RX12 619 yX12_ends ∈ lw_big := b10_at 196 rfl rfl
theorem wim_X12_ends : Cond.instanceMethod yX12_ends ∈ lw_big := b10_at 198 rfl rfl
theorem wc_X12_isFinder : CWd yX12_isFinder cX12_isFinder 2 (some .boolean) 1 := ⟨b8_at 157 rfl rfl, wini_X12, by decide, by decide, by decide +kernel⟩
theorem wsel_X12_X12_isFinder : Cond.selects RX12 yX12_isFinder yX12_isFinder ∈ lw_big := big_sel 63 rfl rfl
theorem wsl_12_X12_isFinder : ∀ t ∈ ([12] : List Nat), t < 13 ∧ Cond.selects (RXX t) yX12_isFinder yX12_isFinder ∈ lw_big := fun t ht => by simp only [List.mem_cons, List.not_mem_nil, or_false] at ht; subst ht; exact ⟨by decide, wsel_X12_X12_isFinder⟩
theorem wml_X12_230 : Cond.methodLink RX12 230 yX12_isFinder ∈ lw_big := b8_at 154 rfl rfl
theorem wim_X12_isFinder : Cond.instanceMethod yX12_isFinder ∈ lw_big := b8_at 156 rfl rfl
theorem wc_X12_isBox : CWd yX12_isBox cX12_isBox 2 (some .boolean) 1 := ⟨b8_at 173 rfl rfl, wini_X12, by decide, by decide, by decide +kernel⟩
theorem wsel_X12_X12_isBox : Cond.selects RX12 yX12_isBox yX12_isBox ∈ lw_big := big_sel 65 rfl rfl
theorem wsl_12_X12_isBox : ∀ t ∈ ([12] : List Nat), t < 13 ∧ Cond.selects (RXX t) yX12_isBox yX12_isBox ∈ lw_big := fun t ht => by simp only [List.mem_cons, List.not_mem_nil, or_false] at ht; subst ht; exact ⟨by decide, wsel_X12_X12_isBox⟩
theorem wml_X12_224 : Cond.methodLink RX12 224 yX12_isBox ∈ lw_big := b8_at 170 rfl rfl
theorem wim_X12_isBox : Cond.instanceMethod yX12_isBox ∈ lw_big := b8_at 172 rfl rfl
theorem wfl_X12_203 : Cond.fieldLink RX12 203 RX12 "today" "I" ∈ lw_big := b7_at 88 rfl rfl
theorem fl_X12_203 : FLk RX12 203 [12] 1 0 false := FLk.mk0 _ _ _ wfl_X12_203 (by decide +kernel)
theorem wc_X12_add : CWd yX12_add cX12_add 2 (some .int) 1 := ⟨b8_at 145 rfl rfl, wini_X12, by decide, by decide, by decide +kernel⟩
theorem wsel_X12_X12_add : Cond.selects RX12 yX12_add yX12_add ∈ lw_big := big_sel 62 rfl rfl
theorem wsl_12_X12_add : ∀ t ∈ ([12] : List Nat), t < 13 ∧ Cond.selects (RXX t) yX12_add yX12_add ∈ lw_big := fun t ht => by simp only [List.mem_cons, List.not_mem_nil, or_false] at ht; subst ht; exact ⟨by decide, wsel_X12_X12_add⟩
theorem wml_X12_227 : Cond.methodLink RX12 227 yX12_add ∈ lw_big := b8_at 142 rfl rfl
theorem wim_X12_add : Cond.instanceMethod yX12_add ∈ lw_big := b8_at 144 rfl rfl
theorem wc_X12_sizeOf : CWd yX12_sizeOf cX12_sizeOf 1 (some .int) 1 := ⟨b9_at 48 rfl rfl, wini_X12, by decide, by decide, by decide +kernel⟩
theorem wml_X12_199 : Cond.methodLink RX12 199 yX12_sizeOf ∈ lw_big := b9_at 46 rfl rfl
theorem wst_X12_sizeOf : Cond.static yX12_sizeOf ∈ lw_big := b9_at 47 rfl rfl
theorem wc_X12_liesNow : CWd yX12_liesNow cX12_liesNow 2 (some .int) 1 := ⟨b8_at 187 rfl rfl, wini_X12, by decide, by decide, by decide +kernel⟩
theorem wsel_X12_X12_liesNow : Cond.selects RX12 yX12_liesNow yX12_liesNow ∈ lw_big := big_sel 67 rfl rfl
theorem wsl_12_X12_liesNow : ∀ t ∈ ([12] : List Nat), t < 13 ∧ Cond.selects (RXX t) yX12_liesNow yX12_liesNow ∈ lw_big := fun t ht => by simp only [List.mem_cons, List.not_mem_nil, or_false] at ht; subst ht; exact ⟨by decide, wsel_X12_X12_liesNow⟩
theorem wml_X12_242 : Cond.methodLink RX12 242 yX12_liesNow ∈ lw_big := b8_at 184 rfl rfl
theorem wim_X12_liesNow : Cond.instanceMethod yX12_liesNow ∈ lw_big := b8_at 186 rfl rfl
theorem wc_X12_isThing : CWd yX12_isThing cX12_isThing 2 (some .boolean) 1 := ⟨b10_at 54 rfl rfl, wini_X12, by decide, by decide, by decide +kernel⟩
theorem wsel_X12_X12_isThing : Cond.selects RX12 yX12_isThing yX12_isThing ∈ lw_big := big_sel 122 rfl rfl
theorem wsl_12_X12_isThing : ∀ t ∈ ([12] : List Nat), t < 13 ∧ Cond.selects (RXX t) yX12_isThing yX12_isThing ∈ lw_big := fun t ht => by simp only [List.mem_cons, List.not_mem_nil, or_false] at ht; subst ht; exact ⟨by decide, wsel_X12_X12_isThing⟩
theorem wml_X12_524 : Cond.methodLink RX12 524 yX12_isThing ∈ lw_big := b10_at 51 rfl rfl
theorem wim_X12_isThing : Cond.instanceMethod yX12_isThing ∈ lw_big := b10_at 53 rfl rfl
theorem wc_X12_liesAtMoment : CWd yX12_liesAtMoment cX12_liesAtMoment 4 (some .int) 2 := ⟨b8_at 183 rfl rfl, wini_X12, by decide, by decide, by decide +kernel⟩
theorem wsel_X12_X12_liesAtMoment : Cond.selects RX12 yX12_liesAtMoment yX12_liesAtMoment ∈ lw_big := big_sel 66 rfl rfl
theorem wsl_12_X12_liesAtMoment : ∀ t ∈ ([12] : List Nat), t < 13 ∧ Cond.selects (RXX t) yX12_liesAtMoment yX12_liesAtMoment ∈ lw_big := fun t ht => by simp only [List.mem_cons, List.not_mem_nil, or_false] at ht; subst ht; exact ⟨by decide, wsel_X12_X12_liesAtMoment⟩
theorem wml_X12_248 : Cond.methodLink RX12 248 yX12_liesAtMoment ∈ lw_big := b8_at 180 rfl rfl
theorem wim_X12_liesAtMoment : Cond.instanceMethod yX12_liesAtMoment ∈ lw_big := b8_at 182 rfl rfl
theorem wc_X12_farOf : CWd yX12_farOf cX12_farOf 2 (some .int) 2 := ⟨b9_at 45 rfl rfl, wini_X12, by decide, by decide, by decide +kernel⟩
theorem wml_X12_308 : Cond.methodLink RX12 308 yX12_farOf ∈ lw_big := b9_at 43 rfl rfl
theorem wst_X12_farOf : Cond.static yX12_farOf ∈ lw_big := b9_at 44 rfl rfl
theorem wfl_X12_252 : Cond.fieldLink RX12 252 RX12 "logs" "I" ∈ lw_big := b7_at 104 rfl rfl
theorem fl_X12_252 : FLk RX12 252 [12] 17 0 false := FLk.mk0 _ _ _ wfl_X12_252 (by decide +kernel)
theorem wc_X12_isBehind : CWd yX12_isBehind cX12_isBehind 3 (some .boolean) 2 := ⟨b8_at 231 rfl rfl, wini_X12, by decide, by decide, by decide +kernel⟩
theorem wsel_X12_X12_isBehind : Cond.selects RX12 yX12_isBehind yX12_isBehind ∈ lw_big := big_sel 75 rfl rfl
theorem wsl_12_X12_isBehind : ∀ t ∈ ([12] : List Nat), t < 13 ∧ Cond.selects (RXX t) yX12_isBehind yX12_isBehind ∈ lw_big := fun t ht => by simp only [List.mem_cons, List.not_mem_nil, or_false] at ht; subst ht; exact ⟨by decide, wsel_X12_X12_isBehind⟩
theorem wml_X12_270 : Cond.methodLink RX12 270 yX12_isBehind ∈ lw_big := b8_at 228 rfl rfl
theorem wim_X12_isBehind : Cond.instanceMethod yX12_isBehind ∈ lw_big := b8_at 230 rfl rfl
theorem wc_X12_clash : CWd yX12_clash cX12_clash 5 (some .int) 1 := ⟨b9_at 83 rfl rfl, wini_X12, by decide, by decide, by decide +kernel⟩
theorem wsel_X12_X12_clash : Cond.selects RX12 yX12_clash yX12_clash ∈ lw_big := big_sel 90 rfl rfl
theorem wsl_12_X12_clash : ∀ t ∈ ([12] : List Nat), t < 13 ∧ Cond.selects (RXX t) yX12_clash yX12_clash ∈ lw_big := fun t ht => by simp only [List.mem_cons, List.not_mem_nil, or_false] at ht; subst ht; exact ⟨by decide, wsel_X12_X12_clash⟩
theorem wml_X12_311 : Cond.methodLink RX12 311 yX12_clash ∈ lw_big := b9_at 80 rfl rfl
theorem wim_X12_clash : Cond.instanceMethod yX12_clash ∈ lw_big := b9_at 82 rfl rfl
theorem wc_X12_nextLog : CWd yX12_nextLog cX12_nextLog 5 (some .int) 2 := ⟨b9_at 87 rfl rfl, wini_X12, by decide, by decide, by decide +kernel⟩
theorem wsel_X12_X12_nextLog : Cond.selects RX12 yX12_nextLog yX12_nextLog ∈ lw_big := big_sel 91 rfl rfl
theorem wsl_12_X12_nextLog : ∀ t ∈ ([12] : List Nat), t < 13 ∧ Cond.selects (RXX t) yX12_nextLog yX12_nextLog ∈ lw_big := fun t ht => by simp only [List.mem_cons, List.not_mem_nil, or_false] at ht; subst ht; exact ⟨by decide, wsel_X12_X12_nextLog⟩
theorem wml_X12_314 : Cond.methodLink RX12 314 yX12_nextLog ∈ lw_big := b9_at 84 rfl rfl
theorem wim_X12_nextLog : Cond.instanceMethod yX12_nextLog ∈ lw_big := b9_at 86 rfl rfl
theorem wc_X12_isOnPaper : CWd yX12_isOnPaper cX12_isOnPaper 4 (some .boolean) 2 := ⟨b9_at 18 rfl rfl, wini_X12, by decide, by decide, by decide +kernel⟩
theorem wsel_X12_X12_isOnPaper : Cond.selects RX12 yX12_isOnPaper yX12_isOnPaper ∈ lw_big := big_sel 78 rfl rfl
theorem wsl_12_X12_isOnPaper : ∀ t ∈ ([12] : List Nat), t < 13 ∧ Cond.selects (RXX t) yX12_isOnPaper yX12_isOnPaper ∈ lw_big := fun t ht => by simp only [List.mem_cons, List.not_mem_nil, or_false] at ht; subst ht; exact ⟨by decide, wsel_X12_X12_isOnPaper⟩
theorem wml_X12_282 : Cond.methodLink RX12 282 yX12_isOnPaper ∈ lw_big := b9_at 15 rfl rfl
theorem wim_X12_isOnPaper : Cond.instanceMethod yX12_isOnPaper ∈ lw_big := b9_at 17 rfl rfl
theorem wc_X12_foundBy : CWd yX12_foundBy cX12_foundBy 4 (some .int) 1 := ⟨b9_at 99 rfl rfl, wini_X12, by decide, by decide, by decide +kernel⟩
theorem wsel_X12_X12_foundBy : Cond.selects RX12 yX12_foundBy yX12_foundBy ∈ lw_big := big_sel 92 rfl rfl
theorem wsl_12_X12_foundBy : ∀ t ∈ ([12] : List Nat), t < 13 ∧ Cond.selects (RXX t) yX12_foundBy yX12_foundBy ∈ lw_big := fun t ht => by simp only [List.mem_cons, List.not_mem_nil, or_false] at ht; subst ht; exact ⟨by decide, wsel_X12_X12_foundBy⟩
theorem wml_X12_324 : Cond.methodLink RX12 324 yX12_foundBy ∈ lw_big := b9_at 96 rfl rfl
theorem wim_X12_foundBy : Cond.instanceMethod yX12_foundBy ∈ lw_big := b9_at 98 rfl rfl
theorem wc_X12_falseOf : CWd yX12_falseOf cX12_falseOf 5 (some .int) 1 := ⟨b9_at 79 rfl rfl, wini_X12, by decide, by decide, by decide +kernel⟩
theorem wsel_X12_X12_falseOf : Cond.selects RX12 yX12_falseOf yX12_falseOf ∈ lw_big := big_sel 89 rfl rfl
theorem wsl_12_X12_falseOf : ∀ t ∈ ([12] : List Nat), t < 13 ∧ Cond.selects (RXX t) yX12_falseOf yX12_falseOf ∈ lw_big := fun t ht => by simp only [List.mem_cons, List.not_mem_nil, or_false] at ht; subst ht; exact ⟨by decide, wsel_X12_X12_falseOf⟩
theorem wml_X12_321 : Cond.methodLink RX12 321 yX12_falseOf ∈ lw_big := b9_at 76 rfl rfl
theorem wim_X12_falseOf : Cond.instanceMethod yX12_falseOf ∈ lw_big := b9_at 78 rfl rfl
theorem wc_X12_isOut : CWd yX12_isOut cX12_isOut 2 (some .boolean) 1 := ⟨b8_at 211 rfl rfl, wini_X12, by decide, by decide, by decide +kernel⟩
theorem wsel_X12_X12_isOut : Cond.selects RX12 yX12_isOut yX12_isOut ∈ lw_big := big_sel 70 rfl rfl
theorem wsl_12_X12_isOut : ∀ t ∈ ([12] : List Nat), t < 13 ∧ Cond.selects (RXX t) yX12_isOut yX12_isOut ∈ lw_big := fun t ht => by simp only [List.mem_cons, List.not_mem_nil, or_false] at ht; subst ht; exact ⟨by decide, wsel_X12_X12_isOut⟩
theorem wml_X12_255 : Cond.methodLink RX12 255 yX12_isOut ∈ lw_big := b8_at 208 rfl rfl
theorem wim_X12_isOut : Cond.instanceMethod yX12_isOut ∈ lw_big := b8_at 210 rfl rfl
theorem wfl_X12_358 : Cond.fieldLink RX12 358 RX12 "texts" "I" ∈ lw_big := b7_at 120 rfl rfl
theorem fl_X12_358 : FLk RX12 358 [12] 33 0 false := FLk.mk0 _ _ _ wfl_X12_358 (by decide +kernel)
theorem wfl_X12_327 : Cond.fieldLink RX12 327 RX12 "taped" "I" ∈ lw_big := b7_at 112 rfl rfl
theorem fl_X12_327 : FLk RX12 327 [12] 25 0 false := FLk.mk0 _ _ _ wfl_X12_327 (by decide +kernel)
theorem wfl_X12_233 : Cond.fieldLink RX12 233 RX12 "steps" "I" ∈ lw_big := b7_at 98 rfl rfl
theorem fl_X12_233 : FLk RX12 233 [12] 11 0 false := FLk.mk0 _ _ _ wfl_X12_233 (by decide +kernel)
theorem wc_X12_isShelf : CWd yX12_isShelf cX12_isShelf 1 (some .boolean) 1 := ⟨b9_at 2 rfl rfl, wini_X12, by decide, by decide, by decide +kernel⟩
theorem wml_X12_276 : Cond.methodLink RX12 276 yX12_isShelf ∈ lw_big := b9_at 0 rfl rfl
theorem wst_X12_isShelf : Cond.static yX12_isShelf ∈ lw_big := b9_at 1 rfl rfl
theorem wc_X12_whyNoPlace : CWd yX12_whyNoPlace cX12_whyNoPlace 3 (some .int) 2 := ⟨b10_at 227 rfl rfl, wini_X12, by decide, by decide, by decide +kernel⟩
theorem wsel_X12_X12_whyNoPlace : Cond.selects RX12 yX12_whyNoPlace yX12_whyNoPlace ∈ lw_big := big_sel 144 rfl rfl
theorem wsl_12_X12_whyNoPlace : ∀ t ∈ ([12] : List Nat), t < 13 ∧ Cond.selects (RXX t) yX12_whyNoPlace yX12_whyNoPlace ∈ lw_big := fun t ht => by simp only [List.mem_cons, List.not_mem_nil, or_false] at ht; subst ht; exact ⟨by decide, wsel_X12_X12_whyNoPlace⟩
theorem wml_X12_622 : Cond.methodLink RX12 622 yX12_whyNoPlace ∈ lw_big := b10_at 224 rfl rfl
theorem wim_X12_whyNoPlace : Cond.instanceMethod yX12_whyNoPlace ∈ lw_big := b10_at 226 rfl rfl
theorem wk_X12_520 : Cond.constantLong RX12 520 (-9223372036854775808) ∈ lw_big := b10_at 45 rfl rfl
theorem wc_X12_isCell : CWd yX12_isCell cX12_isCell 1 (some .boolean) 1 := ⟨b8_at 132 rfl rfl, wini_X12, by decide, by decide, by decide +kernel⟩
theorem wml_X12_206 : Cond.methodLink RX12 206 yX12_isCell ∈ lw_big := b8_at 130 rfl rfl
theorem wst_X12_isCell : Cond.static yX12_isCell ∈ lw_big := b8_at 131 rfl rfl
theorem wc_X12_latestFound : CWd yX12_latestFound cX12_latestFound 4 (some .int) 1 := ⟨b8_at 227 rfl rfl, wini_X12, by decide, by decide, by decide +kernel⟩
theorem wsel_X12_X12_latestFound : Cond.selects RX12 yX12_latestFound yX12_latestFound ∈ lw_big := big_sel 74 rfl rfl
theorem wsl_12_X12_latestFound : ∀ t ∈ ([12] : List Nat), t < 13 ∧ Cond.selects (RXX t) yX12_latestFound yX12_latestFound ∈ lw_big := fun t ht => by simp only [List.mem_cons, List.not_mem_nil, or_false] at ht; subst ht; exact ⟨by decide, wsel_X12_X12_latestFound⟩
theorem wml_X12_273 : Cond.methodLink RX12 273 yX12_latestFound ∈ lw_big := b8_at 224 rfl rfl
theorem wim_X12_latestFound : Cond.instanceMethod yX12_latestFound ∈ lw_big := b8_at 226 rfl rfl
theorem wc_X12_findsOf : CWd yX12_findsOf cX12_findsOf 4 (some .int) 1 := ⟨b8_at 219 rfl rfl, wini_X12, by decide, by decide, by decide +kernel⟩
theorem wsel_X12_X12_findsOf : Cond.selects RX12 yX12_findsOf yX12_findsOf ∈ lw_big := big_sel 72 rfl rfl
theorem wsl_12_X12_findsOf : ∀ t ∈ ([12] : List Nat), t < 13 ∧ Cond.selects (RXX t) yX12_findsOf yX12_findsOf ∈ lw_big := fun t ht => by simp only [List.mem_cons, List.not_mem_nil, or_false] at ht; subst ht; exact ⟨by decide, wsel_X12_X12_findsOf⟩
theorem wml_X12_264 : Cond.methodLink RX12 264 yX12_findsOf ∈ lw_big := b8_at 216 rfl rfl
theorem wim_X12_findsOf : Cond.instanceMethod yX12_findsOf ∈ lw_big := b8_at 218 rfl rfl
theorem wc_X12_missesOf : CWd yX12_missesOf cX12_missesOf 5 (some .int) 1 := ⟨b8_at 223 rfl rfl, wini_X12, by decide, by decide, by decide +kernel⟩
theorem wsel_X12_X12_missesOf : Cond.selects RX12 yX12_missesOf yX12_missesOf ∈ lw_big := big_sel 73 rfl rfl
theorem wsl_12_X12_missesOf : ∀ t ∈ ([12] : List Nat), t < 13 ∧ Cond.selects (RXX t) yX12_missesOf yX12_missesOf ∈ lw_big := fun t ht => by simp only [List.mem_cons, List.not_mem_nil, or_false] at ht; subst ht; exact ⟨by decide, wsel_X12_X12_missesOf⟩
theorem wml_X12_267 : Cond.methodLink RX12 267 yX12_missesOf ∈ lw_big := b8_at 220 rfl rfl
theorem wim_X12_missesOf : Cond.instanceMethod yX12_missesOf ∈ lw_big := b8_at 222 rfl rfl
theorem wc_X12_findDay : CWd yX12_findDay cX12_findDay 3 none 1 := ⟨b9_at 34 rfl rfl, wini_X12, by decide, by decide, by decide +kernel⟩
theorem wsel_X12_X12_findDay : Cond.selects RX12 yX12_findDay yX12_findDay ∈ lw_big := big_sel 81 rfl rfl
theorem wsl_12_X12_findDay : ∀ t ∈ ([12] : List Nat), t < 13 ∧ Cond.selects (RXX t) yX12_findDay yX12_findDay ∈ lw_big := fun t ht => by simp only [List.mem_cons, List.not_mem_nil, or_false] at ht; subst ht; exact ⟨by decide, wsel_X12_X12_findDay⟩
theorem wml_X12_438 : Cond.methodLink RX12 438 yX12_findDay ∈ lw_big := b9_at 31 rfl rfl
theorem wim_X12_findDay : Cond.instanceMethod yX12_findDay ∈ lw_big := b9_at 33 rfl rfl
theorem wc_X12_ownOf : CWd yX12_ownOf cX12_ownOf 4 (some .int) 1 := ⟨b8_at 207 rfl rfl, wini_X12, by decide, by decide, by decide +kernel⟩
theorem wsel_X12_X12_ownOf : Cond.selects RX12 yX12_ownOf yX12_ownOf ∈ lw_big := big_sel 69 rfl rfl
theorem wsl_12_X12_ownOf : ∀ t ∈ ([12] : List Nat), t < 13 ∧ Cond.selects (RXX t) yX12_ownOf yX12_ownOf ∈ lw_big := fun t ht => by simp only [List.mem_cons, List.not_mem_nil, or_false] at ht; subst ht; exact ⟨by decide, wsel_X12_X12_ownOf⟩
theorem wml_X12_258 : Cond.methodLink RX12 258 yX12_ownOf ∈ lw_big := b8_at 204 rfl rfl
theorem wim_X12_ownOf : Cond.instanceMethod yX12_ownOf ∈ lw_big := b8_at 206 rfl rfl
theorem wc_X12_twoOf : CWd yX12_twoOf cX12_twoOf 3 (some .int) 3 := ⟨b9_at 59 rfl rfl, wini_X12, by decide, by decide, by decide +kernel⟩
theorem wml_X12_429 : Cond.methodLink RX12 429 yX12_twoOf ∈ lw_big := b9_at 57 rfl rfl
theorem wst_X12_twoOf : Cond.static yX12_twoOf ∈ lw_big := b9_at 58 rfl rfl
theorem wfl_X12_435 : Cond.fieldLink RX12 435 RX12 "lineIs" "I" ∈ lw_big := b7_at 132 rfl rfl
theorem fl_X12_435 : FLk RX12 435 [12] 45 0 false := FLk.mk0 _ _ _ wfl_X12_435 (by decide +kernel)
theorem wc_X12_worked : CWd yX12_worked cX12_worked 7 (some .int) 3 := ⟨b9_at 56 rfl rfl, wini_X12, by decide, by decide, by decide +kernel⟩
theorem wsel_X12_X12_worked : Cond.selects RX12 yX12_worked yX12_worked ∈ lw_big := big_sel 85 rfl rfl
theorem wsl_12_X12_worked : ∀ t ∈ ([12] : List Nat), t < 13 ∧ Cond.selects (RXX t) yX12_worked yX12_worked ∈ lw_big := fun t ht => by simp only [List.mem_cons, List.not_mem_nil, or_false] at ht; subst ht; exact ⟨by decide, wsel_X12_X12_worked⟩
theorem wml_X12_432 : Cond.methodLink RX12 432 yX12_worked ∈ lw_big := b9_at 53 rfl rfl
theorem wim_X12_worked : Cond.instanceMethod yX12_worked ∈ lw_big := b9_at 55 rfl rfl
theorem wc_X12_forceOf : CWd yX12_forceOf cX12_forceOf 6 (some .int) 3 := ⟨b9_at 67 rfl rfl, wini_X12, by decide, by decide, by decide +kernel⟩
theorem wsel_X12_X12_forceOf : Cond.selects RX12 yX12_forceOf yX12_forceOf ∈ lw_big := big_sel 87 rfl rfl
theorem wsl_12_X12_forceOf : ∀ t ∈ ([12] : List Nat), t < 13 ∧ Cond.selects (RXX t) yX12_forceOf yX12_forceOf ∈ lw_big := fun t ht => by simp only [List.mem_cons, List.not_mem_nil, or_false] at ht; subst ht; exact ⟨by decide, wsel_X12_X12_forceOf⟩
theorem wml_X12_425 : Cond.methodLink RX12 425 yX12_forceOf ∈ lw_big := b9_at 64 rfl rfl
theorem wim_X12_forceOf : Cond.instanceMethod yX12_forceOf ∈ lw_big := b9_at 66 rfl rfl
theorem wc_X12_lineGives : CWd yX12_lineGives cX12_lineGives 5 (some .int) 1 := ⟨b9_at 52 rfl rfl, wini_X12, by decide, by decide, by decide +kernel⟩
theorem wsel_X12_X12_lineGives : Cond.selects RX12 yX12_lineGives yX12_lineGives ∈ lw_big := big_sel 84 rfl rfl
theorem wsl_12_X12_lineGives : ∀ t ∈ ([12] : List Nat), t < 13 ∧ Cond.selects (RXX t) yX12_lineGives yX12_lineGives ∈ lw_big := fun t ht => by simp only [List.mem_cons, List.not_mem_nil, or_false] at ht; subst ht; exact ⟨by decide, wsel_X12_X12_lineGives⟩
theorem wml_X12_298 : Cond.methodLink RX12 298 yX12_lineGives ∈ lw_big := b9_at 49 rfl rfl
theorem wim_X12_lineGives : Cond.instanceMethod yX12_lineGives ∈ lw_big := b9_at 51 rfl rfl
theorem wc_X12_findFinder : CWd yX12_findFinder cX12_findFinder 3 none 2 := ⟨b9_at 30 rfl rfl, wini_X12, by decide, by decide, by decide +kernel⟩
theorem wsel_X12_X12_findFinder : Cond.selects RX12 yX12_findFinder yX12_findFinder ∈ lw_big := big_sel 80 rfl rfl
theorem wsl_12_X12_findFinder : ∀ t ∈ ([12] : List Nat), t < 13 ∧ Cond.selects (RXX t) yX12_findFinder yX12_findFinder ∈ lw_big := fun t ht => by simp only [List.mem_cons, List.not_mem_nil, or_false] at ht; subst ht; exact ⟨by decide, wsel_X12_X12_findFinder⟩
theorem wml_X12_288 : Cond.methodLink RX12 288 yX12_findFinder ∈ lw_big := b9_at 27 rfl rfl
theorem wim_X12_findFinder : Cond.instanceMethod yX12_findFinder ∈ lw_big := b9_at 29 rfl rfl
theorem wc_X12_findBox : CWd yX12_findBox cX12_findBox 3 none 2 := ⟨b9_at 38 rfl rfl, wini_X12, by decide, by decide, by decide +kernel⟩
theorem wsel_X12_X12_findBox : Cond.selects RX12 yX12_findBox yX12_findBox ∈ lw_big := big_sel 82 rfl rfl
theorem wsl_12_X12_findBox : ∀ t ∈ ([12] : List Nat), t < 13 ∧ Cond.selects (RXX t) yX12_findBox yX12_findBox ∈ lw_big := fun t ht => by simp only [List.mem_cons, List.not_mem_nil, or_false] at ht; subst ht; exact ⟨by decide, wsel_X12_X12_findBox⟩
theorem wml_X12_292 : Cond.methodLink RX12 292 yX12_findBox ∈ lw_big := b9_at 35 rfl rfl
theorem wim_X12_findBox : Cond.instanceMethod yX12_findBox ∈ lw_big := b9_at 37 rfl rfl
theorem wc_X12_bothOf : CWd yX12_bothOf cX12_bothOf 3 none 2 := ⟨b9_at 42 rfl rfl, wini_X12, by decide, by decide, by decide +kernel⟩
theorem wsel_X12_X12_bothOf : Cond.selects RX12 yX12_bothOf yX12_bothOf ∈ lw_big := big_sel 83 rfl rfl
theorem wsl_12_X12_bothOf : ∀ t ∈ ([12] : List Nat), t < 13 ∧ Cond.selects (RXX t) yX12_bothOf yX12_bothOf ∈ lw_big := fun t ht => by simp only [List.mem_cons, List.not_mem_nil, or_false] at ht; subst ht; exact ⟨by decide, wsel_X12_X12_bothOf⟩
theorem wml_X12_295 : Cond.methodLink RX12 295 yX12_bothOf ∈ lw_big := b9_at 39 rfl rfl
theorem wim_X12_bothOf : Cond.instanceMethod yX12_bothOf ∈ lw_big := b9_at 41 rfl rfl
theorem wc_X12_lawBy : CWd yX12_lawBy cX12_lawBy 6 (some .int) 4 := ⟨b9_at 63 rfl rfl, wini_X12, by decide, by decide, by decide +kernel⟩
theorem wsel_X12_X12_lawBy : Cond.selects RX12 yX12_lawBy yX12_lawBy ∈ lw_big := big_sel 86 rfl rfl
theorem wsl_12_X12_lawBy : ∀ t ∈ ([12] : List Nat), t < 13 ∧ Cond.selects (RXX t) yX12_lawBy yX12_lawBy ∈ lw_big := fun t ht => by simp only [List.mem_cons, List.not_mem_nil, or_false] at ht; subst ht; exact ⟨by decide, wsel_X12_X12_lawBy⟩
theorem wml_X12_301 : Cond.methodLink RX12 301 yX12_lawBy ∈ lw_big := b9_at 60 rfl rfl
theorem wim_X12_lawBy : Cond.instanceMethod yX12_lawBy ∈ lw_big := b9_at 62 rfl rfl
theorem wc_X12_logCounts : CWd yX12_logCounts cX12_logCounts 3 (some .boolean) 2 := ⟨b9_at 26 rfl rfl, wini_X12, by decide, by decide, by decide +kernel⟩
theorem wsel_X12_X12_logCounts : Cond.selects RX12 yX12_logCounts yX12_logCounts ∈ lw_big := big_sel 79 rfl rfl
theorem wsl_12_X12_logCounts : ∀ t ∈ ([12] : List Nat), t < 13 ∧ Cond.selects (RXX t) yX12_logCounts yX12_logCounts ∈ lw_big := fun t ht => by simp only [List.mem_cons, List.not_mem_nil, or_false] at ht; subst ht; exact ⟨by decide, wsel_X12_X12_logCounts⟩
theorem wml_X12_305 : Cond.methodLink RX12 305 yX12_logCounts ∈ lw_big := b9_at 23 rfl rfl
theorem wim_X12_logCounts : Cond.instanceMethod yX12_logCounts ∈ lw_big := b9_at 25 rfl rfl
theorem wc_X12_ownerOf : CWd yX12_ownerOf cX12_ownerOf 2 (some .int) 1 := ⟨b8_at 137 rfl rfl, wini_X12, by decide, by decide, by decide +kernel⟩
theorem wsel_X12_X12_ownerOf : Cond.selects RX12 yX12_ownerOf yX12_ownerOf ∈ lw_big := big_sel 61 rfl rfl
theorem wsl_12_X12_ownerOf : ∀ t ∈ ([12] : List Nat), t < 13 ∧ Cond.selects (RXX t) yX12_ownerOf yX12_ownerOf ∈ lw_big := fun t ht => by simp only [List.mem_cons, List.not_mem_nil, or_false] at ht; subst ht; exact ⟨by decide, wsel_X12_X12_ownerOf⟩
theorem wml_X12_211 : Cond.methodLink RX12 211 yX12_ownerOf ∈ lw_big := b8_at 134 rfl rfl
theorem wim_X12_ownerOf : Cond.instanceMethod yX12_ownerOf ∈ lw_big := b8_at 136 rfl rfl
theorem wc_X12_hideBy : CWd yX12_hideBy cX12_hideBy 4 (some .int) 3 := ⟨b9_at 196 rfl rfl, wini_X12, by decide, by decide, by decide +kernel⟩
theorem wsel_X12_X12_hideBy : Cond.selects RX12 yX12_hideBy yX12_hideBy ∈ lw_big := big_sel 107 rfl rfl
theorem wsl_12_X12_hideBy : ∀ t ∈ ([12] : List Nat), t < 13 ∧ Cond.selects (RXX t) yX12_hideBy yX12_hideBy ∈ lw_big := fun t ht => by simp only [List.mem_cons, List.not_mem_nil, or_false] at ht; subst ht; exact ⟨by decide, wsel_X12_X12_hideBy⟩
theorem wml_X12_445 : Cond.methodLink RX12 445 yX12_hideBy ∈ lw_big := b9_at 193 rfl rfl
theorem wim_X12_hideBy : Cond.instanceMethod yX12_hideBy ∈ lw_big := b9_at 195 rfl rfl
theorem wc_X12_mayLeave : CWd yX12_mayLeave cX12_mayLeave 4 (some .boolean) 3 := ⟨b9_at 224 rfl rfl, wini_X12, by decide, by decide, by decide +kernel⟩
theorem wsel_X12_X12_mayLeave : Cond.selects RX12 yX12_mayLeave yX12_mayLeave ∈ lw_big := big_sel 112 rfl rfl
theorem wsl_12_X12_mayLeave : ∀ t ∈ ([12] : List Nat), t < 13 ∧ Cond.selects (RXX t) yX12_mayLeave yX12_mayLeave ∈ lw_big := fun t ht => by simp only [List.mem_cons, List.not_mem_nil, or_false] at ht; subst ht; exact ⟨by decide, wsel_X12_X12_mayLeave⟩
theorem wml_X12_454 : Cond.methodLink RX12 454 yX12_mayLeave ∈ lw_big := b9_at 221 rfl rfl
theorem wim_X12_mayLeave : Cond.instanceMethod yX12_mayLeave ∈ lw_big := b9_at 223 rfl rfl
theorem wc_X12_nearNow : CWd yX12_nearNow cX12_nearNow 2 (some .int) 0 := ⟨b9_at 192 rfl rfl, wini_X12, by decide, by decide, by decide +kernel⟩
theorem wsel_X12_X12_nearNow : Cond.selects RX12 yX12_nearNow yX12_nearNow ∈ lw_big := big_sel 106 rfl rfl
theorem wsl_12_X12_nearNow : ∀ t ∈ ([12] : List Nat), t < 13 ∧ Cond.selects (RXX t) yX12_nearNow yX12_nearNow ∈ lw_big := fun t ht => by simp only [List.mem_cons, List.not_mem_nil, or_false] at ht; subst ht; exact ⟨by decide, wsel_X12_X12_nearNow⟩
theorem wml_X12_442 : Cond.methodLink RX12 442 yX12_nearNow ∈ lw_big := b9_at 189 rfl rfl
theorem wim_X12_nearNow : Cond.instanceMethod yX12_nearNow ∈ lw_big := b9_at 191 rfl rfl
theorem wc_X12_canAsk : CWd yX12_canAsk cX12_canAsk 4 (some .boolean) 3 := ⟨b9_at 216 rfl rfl, wini_X12, by decide, by decide, by decide +kernel⟩
theorem wsel_X12_X12_canAsk : Cond.selects RX12 yX12_canAsk yX12_canAsk ∈ lw_big := big_sel 110 rfl rfl
theorem wsl_12_X12_canAsk : ∀ t ∈ ([12] : List Nat), t < 13 ∧ Cond.selects (RXX t) yX12_canAsk yX12_canAsk ∈ lw_big := fun t ht => by simp only [List.mem_cons, List.not_mem_nil, or_false] at ht; subst ht; exact ⟨by decide, wsel_X12_X12_canAsk⟩
theorem wml_X12_457 : Cond.methodLink RX12 457 yX12_canAsk ∈ lw_big := b9_at 213 rfl rfl
theorem wim_X12_canAsk : Cond.instanceMethod yX12_canAsk ∈ lw_big := b9_at 215 rfl rfl
theorem wc_X12_whyNot : CWd yX12_whyNot cX12_whyNot 8 (some .int) 3 := ⟨b9_at 220 rfl rfl, wini_X12, by decide, by decide, by decide +kernel⟩
theorem wsel_X12_X12_whyNot : Cond.selects RX12 yX12_whyNot yX12_whyNot ∈ lw_big := big_sel 111 rfl rfl
theorem wsl_12_X12_whyNot : ∀ t ∈ ([12] : List Nat), t < 13 ∧ Cond.selects (RXX t) yX12_whyNot yX12_whyNot ∈ lw_big := fun t ht => by simp only [List.mem_cons, List.not_mem_nil, or_false] at ht; subst ht; exact ⟨by decide, wsel_X12_X12_whyNot⟩
theorem wml_X12_460 : Cond.methodLink RX12 460 yX12_whyNot ∈ lw_big := b9_at 217 rfl rfl
theorem wim_X12_whyNot : Cond.instanceMethod yX12_whyNot ∈ lw_big := b9_at 219 rfl rfl
theorem wc_X12_isUse : CWd yX12_isUse cX12_isUse 1 (some .boolean) 1 := ⟨b9_at 110 rfl rfl, wini_X12, by decide, by decide, by decide +kernel⟩
theorem wml_X12_419 : Cond.methodLink RX12 419 yX12_isUse ∈ lw_big := b9_at 108 rfl rfl
theorem wst_X12_isUse : Cond.static yX12_isUse ∈ lw_big := b9_at 109 rfl rfl
theorem wc_X12_isDay : CWd yX12_isDay cX12_isDay 1 (some .boolean) 1 := ⟨b8_at 179 rfl rfl, wini_X12, by decide, by decide, by decide +kernel⟩
theorem wml_X12_245 : Cond.methodLink RX12 245 yX12_isDay ∈ lw_big := b8_at 177 rfl rfl
theorem wst_X12_isDay : Cond.static yX12_isDay ∈ lw_big := b8_at 178 rfl rfl
theorem wc_X12_isLog : CWd yX12_isLog cX12_isLog 2 (some .boolean) 1 := ⟨b9_at 75 rfl rfl, wini_X12, by decide, by decide, by decide +kernel⟩
theorem wsel_X12_X12_isLog : Cond.selects RX12 yX12_isLog yX12_isLog ∈ lw_big := big_sel 88 rfl rfl
theorem wsl_12_X12_isLog : ∀ t ∈ ([12] : List Nat), t < 13 ∧ Cond.selects (RXX t) yX12_isLog yX12_isLog ∈ lw_big := fun t ht => by simp only [List.mem_cons, List.not_mem_nil, or_false] at ht; subst ht; exact ⟨by decide, wsel_X12_X12_isLog⟩
theorem wml_X12_318 : Cond.methodLink RX12 318 yX12_isLog ∈ lw_big := b9_at 72 rfl rfl
theorem wim_X12_isLog : Cond.instanceMethod yX12_isLog ∈ lw_big := b9_at 74 rfl rfl
theorem wc_X12_hasFound : CWd yX12_hasFound cX12_hasFound 4 (some .boolean) 2 := ⟨b9_at 14 rfl rfl, wini_X12, by decide, by decide, by decide +kernel⟩
theorem wsel_X12_X12_hasFound : Cond.selects RX12 yX12_hasFound yX12_hasFound ∈ lw_big := big_sel 77 rfl rfl
theorem wsl_12_X12_hasFound : ∀ t ∈ ([12] : List Nat), t < 13 ∧ Cond.selects (RXX t) yX12_hasFound yX12_hasFound ∈ lw_big := fun t ht => by simp only [List.mem_cons, List.not_mem_nil, or_false] at ht; subst ht; exact ⟨by decide, wsel_X12_X12_hasFound⟩
theorem wml_X12_279 : Cond.methodLink RX12 279 yX12_hasFound ∈ lw_big := b9_at 11 rfl rfl
theorem wim_X12_hasFound : Cond.instanceMethod yX12_hasFound ∈ lw_big := b9_at 13 rfl rfl
theorem wc_X12_isJoined : CWd yX12_isJoined cX12_isJoined 6 (some .boolean) 3 := ⟨b9_at 10 rfl rfl, wini_X12, by decide, by decide, by decide +kernel⟩
theorem wsel_X12_X12_isJoined : Cond.selects RX12 yX12_isJoined yX12_isJoined ∈ lw_big := big_sel 76 rfl rfl
theorem wsl_12_X12_isJoined : ∀ t ∈ ([12] : List Nat), t < 13 ∧ Cond.selects (RXX t) yX12_isJoined yX12_isJoined ∈ lw_big := fun t ht => by simp only [List.mem_cons, List.not_mem_nil, or_false] at ht; subst ht; exact ⟨by decide, wsel_X12_X12_isJoined⟩
theorem wml_X12_285 : Cond.methodLink RX12 285 yX12_isJoined ∈ lw_big := b9_at 7 rfl rfl
theorem wim_X12_isJoined : Cond.instanceMethod yX12_isJoined ∈ lw_big := b9_at 9 rfl rfl
theorem wfl_X12_539 : Cond.fieldLink RX12 539 RX12 "walkFrom" "I" ∈ lw_big := b7_at 164 rfl rfl
theorem fl_X12_539 : FLk RX12 539 [12] 77 0 false := FLk.mk0 _ _ _ wfl_X12_539 (by decide +kernel)
theorem wfl_X12_542 : Cond.fieldLink RX12 542 RX12 "walkStart" "I" ∈ lw_big := b7_at 165 rfl rfl
theorem fl_X12_542 : FLk RX12 542 [12] 78 0 false := FLk.mk0 _ _ _ wfl_X12_542 (by decide +kernel)
theorem wfl_X12_545 : Cond.fieldLink RX12 545 RX12 "walkMost" "I" ∈ lw_big := b7_at 166 rfl rfl
theorem fl_X12_545 : FLk RX12 545 [12] 79 0 false := FLk.mk0 _ _ _ wfl_X12_545 (by decide +kernel)
theorem wc_X12_hoursFor : CWd yX12_hoursFor cX12_hoursFor 2 (some .int) 2 := ⟨b10_at 113 rfl rfl, wini_X12, by decide, by decide, by decide +kernel⟩
theorem wml_X12_536 : Cond.methodLink RX12 536 yX12_hoursFor ∈ lw_big := b10_at 111 rfl rfl
theorem wst_X12_hoursFor : Cond.static yX12_hoursFor ∈ lw_big := b10_at 112 rfl rfl
theorem wc_X12_isWalk : CWd yX12_isWalk cX12_isWalk 3 (some .boolean) 2 := ⟨b10_at 102 rfl rfl, wini_X12, by decide, by decide, by decide +kernel⟩
theorem wsel_X12_X12_isWalk : Cond.selects RX12 yX12_isWalk yX12_isWalk ∈ lw_big := big_sel 125 rfl rfl
theorem wsl_12_X12_isWalk : ∀ t ∈ ([12] : List Nat), t < 13 ∧ Cond.selects (RXX t) yX12_isWalk yX12_isWalk ∈ lw_big := fun t ht => by simp only [List.mem_cons, List.not_mem_nil, or_false] at ht; subst ht; exact ⟨by decide, wsel_X12_X12_isWalk⟩
theorem wml_X12_564 : Cond.methodLink RX12 564 yX12_isWalk ∈ lw_big := b10_at 99 rfl rfl
theorem wim_X12_isWalk : Cond.instanceMethod yX12_isWalk ∈ lw_big := b10_at 101 rfl rfl
theorem wc_X12_begin : CWd yX12_begin cX12_begin 3 none 2 := ⟨b10_at 106 rfl rfl, wini_X12, by decide, by decide, by decide +kernel⟩
theorem wsel_X12_X12_begin : Cond.selects RX12 yX12_begin yX12_begin ∈ lw_big := big_sel 126 rfl rfl
theorem wsl_12_X12_begin : ∀ t ∈ ([12] : List Nat), t < 13 ∧ Cond.selects (RXX t) yX12_begin yX12_begin ∈ lw_big := fun t ht => by simp only [List.mem_cons, List.not_mem_nil, or_false] at ht; subst ht; exact ⟨by decide, wsel_X12_X12_begin⟩
theorem wml_X12_567 : Cond.methodLink RX12 567 yX12_begin ∈ lw_big := b10_at 103 rfl rfl
theorem wim_X12_begin : Cond.instanceMethod yX12_begin ∈ lw_big := b10_at 105 rfl rfl
theorem wc_X12_hourBehind : CWd yX12_hourBehind cX12_hourBehind 6 (some .int) 3 := ⟨b10_at 117 rfl rfl, wini_X12, by decide, by decide, by decide +kernel⟩
theorem wsel_X12_X12_hourBehind : Cond.selects RX12 yX12_hourBehind yX12_hourBehind ∈ lw_big := big_sel 128 rfl rfl
theorem wsl_12_X12_hourBehind : ∀ t ∈ ([12] : List Nat), t < 13 ∧ Cond.selects (RXX t) yX12_hourBehind yX12_hourBehind ∈ lw_big := fun t ht => by simp only [List.mem_cons, List.not_mem_nil, or_false] at ht; subst ht; exact ⟨by decide, wsel_X12_X12_hourBehind⟩
theorem wml_X12_557 : Cond.methodLink RX12 557 yX12_hourBehind ∈ lw_big := b10_at 114 rfl rfl
theorem wim_X12_hourBehind : Cond.instanceMethod yX12_hourBehind ∈ lw_big := b10_at 116 rfl rfl
theorem wfl_X12_533 : Cond.fieldLink RX12 533 RX12 "wishes" "I" ∈ lw_big := b7_at 152 rfl rfl
theorem fl_X12_533 : FLk RX12 533 [12] 65 0 false := FLk.mk0 _ _ _ wfl_X12_533 (by decide +kernel)
theorem wc_X12_whereOf : CWd yX12_whereOf cX12_whereOf 4 (some .int) 2 := ⟨b8_at 215 rfl rfl, wini_X12, by decide, by decide, by decide +kernel⟩
theorem wsel_X12_X12_whereOf : Cond.selects RX12 yX12_whereOf yX12_whereOf ∈ lw_big := big_sel 71 rfl rfl
theorem wsl_12_X12_whereOf : ∀ t ∈ ([12] : List Nat), t < 13 ∧ Cond.selects (RXX t) yX12_whereOf yX12_whereOf ∈ lw_big := fun t ht => by simp only [List.mem_cons, List.not_mem_nil, or_false] at ht; subst ht; exact ⟨by decide, wsel_X12_X12_whereOf⟩
theorem wml_X12_261 : Cond.methodLink RX12 261 yX12_whereOf ∈ lw_big := b8_at 212 rfl rfl
theorem wim_X12_whereOf : Cond.instanceMethod yX12_whereOf ∈ lw_big := b8_at 214 rfl rfl
theorem wc_X12_isJump : CWd yX12_isJump cX12_isJump 5 (some .boolean) 2 := ⟨b10_at 62 rfl rfl, wini_X12, by decide, by decide, by decide +kernel⟩
theorem wsel_X12_X12_isJump : Cond.selects RX12 yX12_isJump yX12_isJump ∈ lw_big := big_sel 123 rfl rfl
theorem wsl_12_X12_isJump : ∀ t ∈ ([12] : List Nat), t < 13 ∧ Cond.selects (RXX t) yX12_isJump yX12_isJump ∈ lw_big := fun t ht => by simp only [List.mem_cons, List.not_mem_nil, or_false] at ht; subst ht; exact ⟨by decide, wsel_X12_X12_isJump⟩
theorem wml_X12_527 : Cond.methodLink RX12 527 yX12_isJump ∈ lw_big := b10_at 59 rfl rfl
theorem wim_X12_isJump : Cond.instanceMethod yX12_isJump ∈ lw_big := b10_at 61 rfl rfl
theorem wc_X12_isUnfound : CWd yX12_isUnfound cX12_isUnfound 2 (some .boolean) 1 := ⟨b10_at 133 rfl rfl, wini_X12, by decide, by decide, by decide +kernel⟩
theorem wsel_X12_X12_isUnfound : Cond.selects RX12 yX12_isUnfound yX12_isUnfound ∈ lw_big := big_sel 129 rfl rfl
theorem wsl_12_X12_isUnfound : ∀ t ∈ ([12] : List Nat), t < 13 ∧ Cond.selects (RXX t) yX12_isUnfound yX12_isUnfound ∈ lw_big := fun t ht => by simp only [List.mem_cons, List.not_mem_nil, or_false] at ht; subst ht; exact ⟨by decide, wsel_X12_X12_isUnfound⟩
theorem wml_X12_570 : Cond.methodLink RX12 570 yX12_isUnfound ∈ lw_big := b10_at 130 rfl rfl
theorem wim_X12_isUnfound : Cond.instanceMethod yX12_isUnfound ∈ lw_big := b10_at 132 rfl rfl
theorem wc_X12_shownTo : CWd yX12_shownTo cX12_shownTo 3 (some .int) 2 := ⟨b9_at 204 rfl rfl, wini_X12, by decide, by decide, by decide +kernel⟩
theorem wsel_X12_X12_shownTo : Cond.selects RX12 yX12_shownTo yX12_shownTo ∈ lw_big := big_sel 109 rfl rfl
theorem wsl_12_X12_shownTo : ∀ t ∈ ([12] : List Nat), t < 13 ∧ Cond.selects (RXX t) yX12_shownTo yX12_shownTo ∈ lw_big := fun t ht => by simp only [List.mem_cons, List.not_mem_nil, or_false] at ht; subst ht; exact ⟨by decide, wsel_X12_X12_shownTo⟩
theorem wml_X12_451 : Cond.methodLink RX12 451 yX12_shownTo ∈ lw_big := b9_at 201 rfl rfl
theorem wim_X12_shownTo : Cond.instanceMethod yX12_shownTo ∈ lw_big := b9_at 203 rfl rfl
theorem wc_X12_findWays : CWd yX12_findWays cX12_findWays 3 none 0 := ⟨b10_at 145 rfl rfl, wini_X12, by decide, by decide, by decide +kernel⟩
theorem wsel_X12_X12_findWays : Cond.selects RX12 yX12_findWays yX12_findWays ∈ lw_big := big_sel 131 rfl rfl
theorem wsl_12_X12_findWays : ∀ t ∈ ([12] : List Nat), t < 13 ∧ Cond.selects (RXX t) yX12_findWays yX12_findWays ∈ lw_big := fun t ht => by simp only [List.mem_cons, List.not_mem_nil, or_false] at ht; subst ht; exact ⟨by decide, wsel_X12_X12_findWays⟩
theorem wml_X12_573 : Cond.methodLink RX12 573 yX12_findWays ∈ lw_big := b10_at 142 rfl rfl
theorem wim_X12_findWays : Cond.instanceMethod yX12_findWays ∈ lw_big := b10_at 144 rfl rfl
theorem wk_X12_576 : Cond.constantLong RX12 576 (100) ∈ lw_big := b10_at 146 rfl rfl
theorem wk_X12_578 : Cond.constantLong RX12 578 (5) ∈ lw_big := b10_at 147 rfl rfl
theorem wc_X12_boundOf : CWd yX12_boundOf cX12_boundOf 8 (some .int) 3 := ⟨b10_at 141 rfl rfl, wini_X12, by decide, by decide, by decide +kernel⟩
theorem wsel_X12_X12_boundOf : Cond.selects RX12 yX12_boundOf yX12_boundOf ∈ lw_big := big_sel 130 rfl rfl
theorem wsl_12_X12_boundOf : ∀ t ∈ ([12] : List Nat), t < 13 ∧ Cond.selects (RXX t) yX12_boundOf yX12_boundOf ∈ lw_big := fun t ht => by simp only [List.mem_cons, List.not_mem_nil, or_false] at ht; subst ht; exact ⟨by decide, wsel_X12_X12_boundOf⟩
theorem wml_X12_580 : Cond.methodLink RX12 580 yX12_boundOf ∈ lw_big := b10_at 138 rfl rfl
theorem wim_X12_boundOf : Cond.instanceMethod yX12_boundOf ∈ lw_big := b10_at 140 rfl rfl
theorem wk_X12_210 : Cond.constant RX12 210 (-2000000000) ∈ lw_big := b8_at 133 rfl rfl
theorem wc_X12_placeTold : CWd yX12_placeTold cX12_placeTold 4 (some .int) 2 := ⟨b10_at 12 rfl rfl, wini_X12, by decide, by decide, by decide +kernel⟩
theorem wsel_X12_X12_placeTold : Cond.selects RX12 yX12_placeTold yX12_placeTold ∈ lw_big := big_sel 115 rfl rfl
theorem wsl_12_X12_placeTold : ∀ t ∈ ([12] : List Nat), t < 13 ∧ Cond.selects (RXX t) yX12_placeTold yX12_placeTold ∈ lw_big := fun t ht => by simp only [List.mem_cons, List.not_mem_nil, or_false] at ht; subst ht; exact ⟨by decide, wsel_X12_X12_placeTold⟩
theorem wml_X12_481 : Cond.methodLink RX12 481 yX12_placeTold ∈ lw_big := b10_at 9 rfl rfl
theorem wim_X12_placeTold : Cond.instanceMethod yX12_placeTold ∈ lw_big := b10_at 11 rfl rfl
theorem wfl_X12_472 : Cond.fieldLink RX12 472 RX12 "lettersIn" "I" ∈ lw_big := b7_at 140 rfl rfl
theorem fl_X12_472 : FLk RX12 472 [12] 53 0 false := FLk.mk0 _ _ _ wfl_X12_472 (by decide +kernel)
theorem wfl_X12_475 : Cond.fieldLink RX12 475 RX12 "riddleOf" "I" ∈ lw_big := b7_at 139 rfl rfl
theorem fl_X12_475 : FLk RX12 475 [12] 52 0 false := FLk.mk0 _ _ _ wfl_X12_475 (by decide +kernel)
theorem wc_X12_placeIs : CWd yX12_placeIs cX12_placeIs 2 (some .int) 1 := ⟨b10_at 36 rfl rfl, wini_X12, by decide, by decide, by decide +kernel⟩
theorem wsel_X12_X12_placeIs : Cond.selects RX12 yX12_placeIs yX12_placeIs ∈ lw_big := big_sel 121 rfl rfl
theorem wsl_12_X12_placeIs : ∀ t ∈ ([12] : List Nat), t < 13 ∧ Cond.selects (RXX t) yX12_placeIs yX12_placeIs ∈ lw_big := fun t ht => by simp only [List.mem_cons, List.not_mem_nil, or_false] at ht; subst ht; exact ⟨by decide, wsel_X12_X12_placeIs⟩
theorem wml_X12_484 : Cond.methodLink RX12 484 yX12_placeIs ∈ lw_big := b10_at 33 rfl rfl
theorem wim_X12_placeIs : Cond.instanceMethod yX12_placeIs ∈ lw_big := b10_at 35 rfl rfl
theorem wc_X12_holdsNow : CWd yX12_holdsNow cX12_holdsNow 3 (some .boolean) 1 := ⟨b10_at 32 rfl rfl, wini_X12, by decide, by decide, by decide +kernel⟩
theorem wsel_X12_X12_holdsNow : Cond.selects RX12 yX12_holdsNow yX12_holdsNow ∈ lw_big := big_sel 120 rfl rfl
theorem wsl_12_X12_holdsNow : ∀ t ∈ ([12] : List Nat), t < 13 ∧ Cond.selects (RXX t) yX12_holdsNow yX12_holdsNow ∈ lw_big := fun t ht => by simp only [List.mem_cons, List.not_mem_nil, or_false] at ht; subst ht; exact ⟨by decide, wsel_X12_X12_holdsNow⟩
theorem wml_X12_478 : Cond.methodLink RX12 478 yX12_holdsNow ∈ lw_big := b10_at 29 rfl rfl
theorem wim_X12_holdsNow : Cond.instanceMethod yX12_holdsNow ∈ lw_big := b10_at 31 rfl rfl
theorem wc_X12_solveOn : CWd yX12_solveOn cX12_solveOn 5 none 2 := ⟨b10_at 24 rfl rfl, wini_X12, by decide, by decide, by decide +kernel⟩
theorem wsel_X12_X12_solveOn : Cond.selects RX12 yX12_solveOn yX12_solveOn ∈ lw_big := big_sel 118 rfl rfl
theorem wsl_12_X12_solveOn : ∀ t ∈ ([12] : List Nat), t < 13 ∧ Cond.selects (RXX t) yX12_solveOn yX12_solveOn ∈ lw_big := fun t ht => by simp only [List.mem_cons, List.not_mem_nil, or_false] at ht; subst ht; exact ⟨by decide, wsel_X12_X12_solveOn⟩
theorem wml_X12_506 : Cond.methodLink RX12 506 yX12_solveOn ∈ lw_big := b10_at 21 rfl rfl
theorem wim_X12_solveOn : Cond.instanceMethod yX12_solveOn ∈ lw_big := b10_at 23 rfl rfl
theorem wc_X12_isSolved : CWd yX12_isSolved cX12_isSolved 3 (some .boolean) 0 := ⟨b10_at 28 rfl rfl, wini_X12, by decide, by decide, by decide +kernel⟩
theorem wsel_X12_X12_isSolved : Cond.selects RX12 yX12_isSolved yX12_isSolved ∈ lw_big := big_sel 119 rfl rfl
theorem wsl_12_X12_isSolved : ∀ t ∈ ([12] : List Nat), t < 13 ∧ Cond.selects (RXX t) yX12_isSolved yX12_isSolved ∈ lw_big := fun t ht => by simp only [List.mem_cons, List.not_mem_nil, or_false] at ht; subst ht; exact ⟨by decide, wsel_X12_X12_isSolved⟩
theorem wml_X12_487 : Cond.methodLink RX12 487 yX12_isSolved ∈ lw_big := b10_at 25 rfl rfl
theorem wim_X12_isSolved : Cond.instanceMethod yX12_isSolved ∈ lw_big := b10_at 27 rfl rfl
theorem wfl_X12_490 : Cond.fieldLink RX12 490 RX12 "solutions" "I" ∈ lw_big := b7_at 141 rfl rfl
theorem fl_X12_490 : FLk RX12 490 [12] 54 0 false := FLk.mk0 _ _ _ wfl_X12_490 (by decide +kernel)
theorem wfl_X12_493 : Cond.fieldLink RX12 493 RX12 "sought" "I" ∈ lw_big := b7_at 142 rfl rfl
theorem fl_X12_493 : FLk RX12 493 [12] 55 0 false := FLk.mk0 _ _ _ wfl_X12_493 (by decide +kernel)
theorem wfl_X12_502 : Cond.fieldLink RX12 502 RX12 "otherBits" "J" ∈ lw_big := b7_at 145 rfl rfl
theorem fl_X12_502 : FLk RX12 502 [12] 58 1 false := FLk.mk0 _ _ _ wfl_X12_502 (by decide +kernel)
theorem wfl_X12_496 : Cond.fieldLink RX12 496 RX12 "soughtDigits" "I" ∈ lw_big := b7_at 143 rfl rfl
theorem fl_X12_496 : FLk RX12 496 [12] 56 0 false := FLk.mk0 _ _ _ wfl_X12_496 (by decide +kernel)
theorem wfl_X12_499 : Cond.fieldLink RX12 499 RX12 "soughtCell" "I" ∈ lw_big := b7_at 144 rfl rfl
theorem fl_X12_499 : FLk RX12 499 [12] 57 0 false := FLk.mk0 _ _ _ wfl_X12_499 (by decide +kernel)
theorem wc_X12_findLetters : CWd yX12_findLetters cX12_findLetters 3 none 1 := ⟨b10_at 20 rfl rfl, wini_X12, by decide, by decide, by decide +kernel⟩
theorem wsel_X12_X12_findLetters : Cond.selects RX12 yX12_findLetters yX12_findLetters ∈ lw_big := big_sel 117 rfl rfl
theorem wsl_12_X12_findLetters : ∀ t ∈ ([12] : List Nat), t < 13 ∧ Cond.selects (RXX t) yX12_findLetters yX12_findLetters ∈ lw_big := fun t ht => by simp only [List.mem_cons, List.not_mem_nil, or_false] at ht; subst ht; exact ⟨by decide, wsel_X12_X12_findLetters⟩
theorem wml_X12_509 : Cond.methodLink RX12 509 yX12_findLetters ∈ lw_big := b10_at 17 rfl rfl
theorem wim_X12_findLetters : Cond.instanceMethod yX12_findLetters ∈ lw_big := b10_at 19 rfl rfl
theorem wc_X12_isRiddle : CWd yX12_isRiddle cX12_isRiddle 2 (some .boolean) 1 := ⟨b9_at 236 rfl rfl, wini_X12, by decide, by decide, by decide +kernel⟩
theorem wsel_X12_X12_isRiddle : Cond.selects RX12 yX12_isRiddle yX12_isRiddle ∈ lw_big := big_sel 113 rfl rfl
theorem wsl_12_X12_isRiddle : ∀ t ∈ ([12] : List Nat), t < 13 ∧ Cond.selects (RXX t) yX12_isRiddle yX12_isRiddle ∈ lw_big := fun t ht => by simp only [List.mem_cons, List.not_mem_nil, or_false] at ht; subst ht; exact ⟨by decide, wsel_X12_X12_isRiddle⟩
theorem wml_X12_463 : Cond.methodLink RX12 463 yX12_isRiddle ∈ lw_big := b9_at 233 rfl rfl
theorem wim_X12_isRiddle : Cond.instanceMethod yX12_isRiddle ∈ lw_big := b9_at 235 rfl rfl
theorem wk_X12_522 : Cond.constantLong RX12 522 (9223372036854775807) ∈ lw_big := b10_at 46 rfl rfl
theorem wc_X12_canSolve : CWd yX12_canSolve cX12_canSolve 2 (some .boolean) 1 := ⟨b10_at 8 rfl rfl, wini_X12, by decide, by decide, by decide +kernel⟩
theorem wsel_X12_X12_canSolve : Cond.selects RX12 yX12_canSolve yX12_canSolve ∈ lw_big := big_sel 114 rfl rfl
theorem wsl_12_X12_canSolve : ∀ t ∈ ([12] : List Nat), t < 13 ∧ Cond.selects (RXX t) yX12_canSolve yX12_canSolve ∈ lw_big := fun t ht => by simp only [List.mem_cons, List.not_mem_nil, or_false] at ht; subst ht; exact ⟨by decide, wsel_X12_X12_canSolve⟩
theorem wml_X12_512 : Cond.methodLink RX12 512 yX12_canSolve ∈ lw_big := b10_at 5 rfl rfl
theorem wim_X12_canSolve : Cond.instanceMethod yX12_canSolve ∈ lw_big := b10_at 7 rfl rfl
theorem wc_X12_solveAll : CWd yX12_solveAll cX12_solveAll 3 none 2 := ⟨b10_at 16 rfl rfl, wini_X12, by decide, by decide, by decide +kernel⟩
theorem wsel_X12_X12_solveAll : Cond.selects RX12 yX12_solveAll yX12_solveAll ∈ lw_big := big_sel 116 rfl rfl
theorem wsl_12_X12_solveAll : ∀ t ∈ ([12] : List Nat), t < 13 ∧ Cond.selects (RXX t) yX12_solveAll yX12_solveAll ∈ lw_big := fun t ht => by simp only [List.mem_cons, List.not_mem_nil, or_false] at ht; subst ht; exact ⟨by decide, wsel_X12_X12_solveAll⟩
theorem wml_X12_515 : Cond.methodLink RX12 515 yX12_solveAll ∈ lw_big := b10_at 13 rfl rfl
theorem wim_X12_solveAll : Cond.instanceMethod yX12_solveAll ∈ lw_big := b10_at 15 rfl rfl
theorem wc_X12_downOf : CWd yX12_downOf cX12_downOf 2 (some .int) 1 := ⟨b9_at 200 rfl rfl, wini_X12, by decide, by decide, by decide +kernel⟩
theorem wsel_X12_X12_downOf : Cond.selects RX12 yX12_downOf yX12_downOf ∈ lw_big := big_sel 108 rfl rfl
theorem wsl_12_X12_downOf : ∀ t ∈ ([12] : List Nat), t < 13 ∧ Cond.selects (RXX t) yX12_downOf yX12_downOf ∈ lw_big := fun t ht => by simp only [List.mem_cons, List.not_mem_nil, or_false] at ht; subst ht; exact ⟨by decide, wsel_X12_X12_downOf⟩
theorem wml_X12_448 : Cond.methodLink RX12 448 yX12_downOf ∈ lw_big := b9_at 197 rfl rfl
theorem wim_X12_downOf : Cond.instanceMethod yX12_downOf ∈ lw_big := b9_at 199 rfl rfl
theorem wc_X12_findRanks : CWd yX12_findRanks cX12_findRanks 6 none 2 := ⟨b10_at 155 rfl rfl, wini_X12, by decide, by decide, by decide +kernel⟩
theorem wsel_X12_X12_findRanks : Cond.selects RX12 yX12_findRanks yX12_findRanks ∈ lw_big := big_sel 132 rfl rfl
theorem wsl_12_X12_findRanks : ∀ t ∈ ([12] : List Nat), t < 13 ∧ Cond.selects (RXX t) yX12_findRanks yX12_findRanks ∈ lw_big := fun t ht => by simp only [List.mem_cons, List.not_mem_nil, or_false] at ht; subst ht; exact ⟨by decide, wsel_X12_X12_findRanks⟩
theorem wml_X12_583 : Cond.methodLink RX12 583 yX12_findRanks ∈ lw_big := b10_at 152 rfl rfl
theorem wim_X12_findRanks : Cond.instanceMethod yX12_findRanks ∈ lw_big := b10_at 154 rfl rfl
theorem wk_X12_466 : Cond.constantLong RX12 466 (4) ∈ lw_big := b9_at 237 rfl rfl
theorem wc_X12_isTelling : CWd yX12_isTelling cX12_isTelling 4 (some .boolean) 4 := ⟨b10_at 0 rfl rfl, wini_X12, by decide, by decide, by decide +kernel⟩
theorem wml_X12_468 : Cond.methodLink RX12 468 yX12_isTelling ∈ lw_big := b9_at 238 rfl rfl
theorem wst_X12_isTelling : Cond.static yX12_isTelling ∈ lw_big := b9_at 239 rfl rfl
theorem wfl_X12_336 : Cond.fieldLink RX12 336 RX12 "token" "I" ∈ lw_big := b7_at 115 rfl rfl
theorem fl_X12_336 : FLk RX12 336 [12] 28 0 false := FLk.mk0 _ _ _ wfl_X12_336 (by decide +kernel)
theorem wfl_X12_330 : Cond.fieldLink RX12 330 RX12 "upTo" "I" ∈ lw_big := b7_at 114 rfl rfl
theorem fl_X12_330 : FLk RX12 330 [12] 27 0 false := FLk.mk0 _ _ _ wfl_X12_330 (by decide +kernel)
theorem wfl_X12_333 : Cond.fieldLink RX12 333 RX12 "from" "I" ∈ lw_big := b7_at 113 rfl rfl
theorem fl_X12_333 : FLk RX12 333 [12] 26 0 false := FLk.mk0 _ _ _ wfl_X12_333 (by decide +kernel)
theorem wk_X12_351 : Cond.constantLong RX12 351 (27) ∈ lw_big := b9_at 133 rfl rfl
theorem wk_X12_353 : Cond.constantLong RX12 353 (96) ∈ lw_big := b9_at 134 rfl rfl
theorem wfl_X12_361 : Cond.fieldLink RX12 361 RX12 "laid" "I" ∈ lw_big := b7_at 119 rfl rfl
theorem fl_X12_361 : FLk RX12 361 [12] 32 0 false := FLk.mk0 _ _ _ wfl_X12_361 (by decide +kernel)
theorem wc_X12_isLetter : CWd yX12_isLetter cX12_isLetter 1 (some .boolean) 1 := ⟨b9_at 117 rfl rfl, wini_X12, by decide, by decide, by decide +kernel⟩
theorem wml_X12_339 : Cond.methodLink RX12 339 yX12_isLetter ∈ lw_big := b9_at 115 rfl rfl
theorem wst_X12_isLetter : Cond.static yX12_isLetter ∈ lw_big := b9_at 116 rfl rfl
theorem wc_X12_isDigit : CWd yX12_isDigit cX12_isDigit 1 (some .boolean) 1 := ⟨b9_at 120 rfl rfl, wini_X12, by decide, by decide, by decide +kernel⟩
theorem wml_X12_342 : Cond.methodLink RX12 342 yX12_isDigit ∈ lw_big := b9_at 118 rfl rfl
theorem wst_X12_isDigit : Cond.static yX12_isDigit ∈ lw_big := b9_at 119 rfl rfl
theorem wc_X12_isSign : CWd yX12_isSign cX12_isSign 1 (some .boolean) 1 := ⟨b9_at 123 rfl rfl, wini_X12, by decide, by decide, by decide +kernel⟩
theorem wml_X12_348 : Cond.methodLink RX12 348 yX12_isSign ∈ lw_big := b9_at 121 rfl rfl
theorem wst_X12_isSign : Cond.static yX12_isSign ∈ lw_big := b9_at 122 rfl rfl
theorem wfl_X12_345 : Cond.fieldLink RX12 345 RX12 "value" "I" ∈ lw_big := b7_at 116 rfl rfl
theorem fl_X12_345 : FLk RX12 345 [12] 29 0 false := FLk.mk0 _ _ _ wfl_X12_345 (by decide +kernel)
theorem wfl_X12_355 : Cond.fieldLink RX12 355 RX12 "fault" "I" ∈ lw_big := b7_at 117 rfl rfl
theorem fl_X12_355 : FLk RX12 355 [12] 30 0 false := FLk.mk0 _ _ _ wfl_X12_355 (by decide +kernel)
theorem wfl_X12_364 : Cond.fieldLink RX12 364 RX12 "open" "I" ∈ lw_big := b7_at 118 rfl rfl
theorem fl_X12_364 : FLk RX12 364 [12] 31 0 false := FLk.mk0 _ _ _ wfl_X12_364 (by decide +kernel)
theorem wc_X12_nextToken : CWd yX12_nextToken cX12_nextToken 1 none 0 := ⟨b9_at 114 rfl rfl, wini_X12, by decide, by decide, by decide +kernel⟩
theorem wsel_X12_X12_nextToken : Cond.selects RX12 yX12_nextToken yX12_nextToken ∈ lw_big := big_sel 93 rfl rfl
theorem wsl_12_X12_nextToken : ∀ t ∈ ([12] : List Nat), t < 13 ∧ Cond.selects (RXX t) yX12_nextToken yX12_nextToken ∈ lw_big := fun t ht => by simp only [List.mem_cons, List.not_mem_nil, or_false] at ht; subst ht; exact ⟨by decide, wsel_X12_X12_nextToken⟩
theorem wml_X12_370 : Cond.methodLink RX12 370 yX12_nextToken ∈ lw_big := b9_at 111 rfl rfl
theorem wim_X12_nextToken : Cond.instanceMethod yX12_nextToken ∈ lw_big := b9_at 113 rfl rfl
theorem wc_X12_wrong : CWd yX12_wrong cX12_wrong 1 none 0 := ⟨b9_at 156 rfl rfl, wini_X12, by decide, by decide, by decide +kernel⟩
theorem wsel_X12_X12_wrong : Cond.selects RX12 yX12_wrong yX12_wrong ∈ lw_big := big_sel 100 rfl rfl
theorem wsl_12_X12_wrong : ∀ t ∈ ([12] : List Nat), t < 13 ∧ Cond.selects (RXX t) yX12_wrong yX12_wrong ∈ lw_big := fun t ht => by simp only [List.mem_cons, List.not_mem_nil, or_false] at ht; subst ht; exact ⟨by decide, wsel_X12_X12_wrong⟩
theorem wml_X12_367 : Cond.methodLink RX12 367 yX12_wrong ∈ lw_big := b9_at 153 rfl rfl
theorem wim_X12_wrong : Cond.instanceMethod yX12_wrong ∈ lw_big := b9_at 155 rfl rfl
theorem wfl_X12_373 : Cond.fieldLink RX12 373 "HillBoxesModel" "NAMES" "[J" ∈ lw_big := b9_at 177 rfl rfl
theorem wc_X12_isWord : CWd yX12_isWord cX12_isWord 6 (some .boolean) 1 := ⟨b9_at 132 rfl rfl, wini_X12, by decide, by decide, by decide +kernel⟩
theorem wsel_X12_X12_isWord : Cond.selects RX12 yX12_isWord yX12_isWord ∈ lw_big := big_sel 95 rfl rfl
theorem wsl_12_X12_isWord : ∀ t ∈ ([12] : List Nat), t < 13 ∧ Cond.selects (RXX t) yX12_isWord yX12_isWord ∈ lw_big := fun t ht => by simp only [List.mem_cons, List.not_mem_nil, or_false] at ht; subst ht; exact ⟨by decide, wsel_X12_X12_isWord⟩
theorem wml_X12_376 : Cond.methodLink RX12 376 yX12_isWord ∈ lw_big := b9_at 129 rfl rfl
theorem wim_X12_isWord : Cond.instanceMethod yX12_isWord ∈ lw_big := b9_at 131 rfl rfl
theorem wc_X12_compared : CWd yX12_compared cX12_compared 2 none 0 := ⟨b9_at 147 rfl rfl, wini_X12, by decide, by decide, by decide +kernel⟩
theorem wsel_X12_X12_compared : Cond.selects RX12 yX12_compared yX12_compared ∈ lw_big := big_sel 98 rfl rfl
theorem wsl_12_X12_compared : ∀ t ∈ ([12] : List Nat), t < 13 ∧ Cond.selects (RXX t) yX12_compared yX12_compared ∈ lw_big := fun t ht => by simp only [List.mem_cons, List.not_mem_nil, or_false] at ht; subst ht; exact ⟨by decide, wsel_X12_X12_compared⟩
theorem wml_X12_402 : Cond.methodLink RX12 402 yX12_compared ∈ lw_big := b9_at 144 rfl rfl
theorem wim_X12_compared : Cond.instanceMethod yX12_compared ∈ lw_big := b9_at 146 rfl rfl
theorem wk_X12_408 : Cond.constantLong RX12 408 (1111) ∈ lw_big := b9_at 179 rfl rfl
theorem wc_X12_lay : CWd yX12_lay cX12_lay 3 none 2 := ⟨b9_at 160 rfl rfl, wini_X12, by decide, by decide, by decide +kernel⟩
theorem wsel_X12_X12_lay : Cond.selects RX12 yX12_lay yX12_lay ∈ lw_big := big_sel 101 rfl rfl
theorem wsl_12_X12_lay : ∀ t ∈ ([12] : List Nat), t < 13 ∧ Cond.selects (RXX t) yX12_lay yX12_lay ∈ lw_big := fun t ht => by simp only [List.mem_cons, List.not_mem_nil, or_false] at ht; subst ht; exact ⟨by decide, wsel_X12_X12_lay⟩
theorem wml_X12_380 : Cond.methodLink RX12 380 yX12_lay ∈ lw_big := b9_at 157 rfl rfl
theorem wim_X12_lay : Cond.instanceMethod yX12_lay ∈ lw_big := b9_at 159 rfl rfl
theorem wk_X12_400 : Cond.constantLong RX12 400 (10631) ∈ lw_big := b9_at 148 rfl rfl
theorem wc_X12_sum : CWd yX12_sum cX12_sum 2 none 0 := ⟨b9_at 164 rfl rfl, wini_X12, by decide, by decide, by decide +kernel⟩
theorem wsel_X12_X12_sum : Cond.selects RX12 yX12_sum yX12_sum ∈ lw_big := big_sel 102 rfl rfl
theorem wsl_12_X12_sum : ∀ t ∈ ([12] : List Nat), t < 13 ∧ Cond.selects (RXX t) yX12_sum yX12_sum ∈ lw_big := fun t ht => by simp only [List.mem_cons, List.not_mem_nil, or_false] at ht; subst ht; exact ⟨by decide, wsel_X12_X12_sum⟩
theorem wml_X12_405 : Cond.methodLink RX12 405 yX12_sum ∈ lw_big := b9_at 161 rfl rfl
theorem wim_X12_sum : Cond.instanceMethod yX12_sum ∈ lw_big := b9_at 163 rfl rfl
theorem wc_X12_opens : CWd yX12_opens cX12_opens 1 (some .boolean) 0 := ⟨b9_at 152 rfl rfl, wini_X12, by decide, by decide, by decide +kernel⟩
theorem wsel_X12_X12_opens : Cond.selects RX12 yX12_opens yX12_opens ∈ lw_big := big_sel 99 rfl rfl
theorem wsl_12_X12_opens : ∀ t ∈ ([12] : List Nat), t < 13 ∧ Cond.selects (RXX t) yX12_opens yX12_opens ∈ lw_big := fun t ht => by simp only [List.mem_cons, List.not_mem_nil, or_false] at ht; subst ht; exact ⟨by decide, wsel_X12_X12_opens⟩
theorem wml_X12_387 : Cond.methodLink RX12 387 yX12_opens ∈ lw_big := b9_at 149 rfl rfl
theorem wim_X12_opens : Cond.instanceMethod yX12_opens ∈ lw_big := b9_at 151 rfl rfl
theorem wc_X12_both : CWd yX12_both cX12_both 1 none 0 := ⟨b9_at 143 rfl rfl, wini_X12, by decide, by decide, by decide +kernel⟩
theorem wsel_X12_X12_both : Cond.selects RX12 yX12_both yX12_both ∈ lw_big := big_sel 97 rfl rfl
theorem wsl_12_X12_both : ∀ t ∈ ([12] : List Nat), t < 13 ∧ Cond.selects (RXX t) yX12_both yX12_both ∈ lw_big := fun t ht => by simp only [List.mem_cons, List.not_mem_nil, or_false] at ht; subst ht; exact ⟨by decide, wsel_X12_X12_both⟩
theorem wml_X12_410 : Cond.methodLink RX12 410 yX12_both ∈ lw_big := b9_at 140 rfl rfl
theorem wim_X12_both : Cond.instanceMethod yX12_both ∈ lw_big := b9_at 142 rfl rfl
theorem wk_X12_413 : Cond.constantLong RX12 413 (423) ∈ lw_big := b9_at 180 rfl rfl
theorem wc_X12_nameHere : CWd yX12_nameHere cX12_nameHere 2 (some .int) 0 := ⟨b9_at 176 rfl rfl, wini_X12, by decide, by decide, by decide +kernel⟩
theorem wsel_X12_X12_nameHere : Cond.selects RX12 yX12_nameHere yX12_nameHere ∈ lw_big := big_sel 105 rfl rfl
theorem wsl_12_X12_nameHere : ∀ t ∈ ([12] : List Nat), t < 13 ∧ Cond.selects (RXX t) yX12_nameHere yX12_nameHere ∈ lw_big := fun t ht => by simp only [List.mem_cons, List.not_mem_nil, or_false] at ht; subst ht; exact ⟨by decide, wsel_X12_X12_nameHere⟩
theorem wml_X12_383 : Cond.methodLink RX12 383 yX12_nameHere ∈ lw_big := b9_at 173 rfl rfl
theorem wim_X12_nameHere : Cond.instanceMethod yX12_nameHere ∈ lw_big := b9_at 175 rfl rfl
theorem wc_X12_either : CWd yX12_either cX12_either 1 none 0 := ⟨b9_at 139 rfl rfl, wini_X12, by decide, by decide, by decide +kernel⟩
theorem wsel_X12_X12_either : Cond.selects RX12 yX12_either yX12_either ∈ lw_big := big_sel 96 rfl rfl
theorem wsl_12_X12_either : ∀ t ∈ ([12] : List Nat), t < 13 ∧ Cond.selects (RXX t) yX12_either yX12_either ∈ lw_big := fun t ht => by simp only [List.mem_cons, List.not_mem_nil, or_false] at ht; subst ht; exact ⟨by decide, wsel_X12_X12_either⟩
theorem wml_X12_394 : Cond.methodLink RX12 394 yX12_either ∈ lw_big := b9_at 136 rfl rfl
theorem wim_X12_either : Cond.instanceMethod yX12_either ∈ lw_big := b9_at 138 rfl rfl
theorem wc_X12_operand : CWd yX12_operand cX12_operand 1 none 0 := ⟨b9_at 172 rfl rfl, wini_X12, by decide, by decide, by decide +kernel⟩
theorem wsel_X12_X12_operand : Cond.selects RX12 yX12_operand yX12_operand ∈ lw_big := big_sel 104 rfl rfl
theorem wsl_12_X12_operand : ∀ t ∈ ([12] : List Nat), t < 13 ∧ Cond.selects (RXX t) yX12_operand yX12_operand ∈ lw_big := fun t ht => by simp only [List.mem_cons, List.not_mem_nil, or_false] at ht; subst ht; exact ⟨by decide, wsel_X12_X12_operand⟩
theorem wml_X12_391 : Cond.methodLink RX12 391 yX12_operand ∈ lw_big := b9_at 169 rfl rfl
theorem wim_X12_operand : Cond.instanceMethod yX12_operand ∈ lw_big := b9_at 171 rfl rfl
theorem wc_X12_product : CWd yX12_product cX12_product 2 none 0 := ⟨b9_at 168 rfl rfl, wini_X12, by decide, by decide, by decide +kernel⟩
theorem wsel_X12_X12_product : Cond.selects RX12 yX12_product yX12_product ∈ lw_big := big_sel 103 rfl rfl
theorem wsl_12_X12_product : ∀ t ∈ ([12] : List Nat), t < 13 ∧ Cond.selects (RXX t) yX12_product yX12_product ∈ lw_big := fun t ht => by simp only [List.mem_cons, List.not_mem_nil, or_false] at ht; subst ht; exact ⟨by decide, wsel_X12_X12_product⟩
theorem wml_X12_397 : Cond.methodLink RX12 397 yX12_product ∈ lw_big := b9_at 165 rfl rfl
theorem wim_X12_product : Cond.instanceMethod yX12_product ∈ lw_big := b9_at 167 rfl rfl
theorem wk_X12_415 : Cond.constantLong RX12 415 (249) ∈ lw_big := b9_at 128 rfl rfl
theorem wk_X12_417 : Cond.constantLong RX12 417 (309007594) ∈ lw_big := b9_at 135 rfl rfl
theorem wc_X12_line : CWd yX12_line cX12_line 3 none 0 := ⟨b9_at 127 rfl rfl, wini_X12, by decide, by decide, by decide +kernel⟩
theorem wsel_X12_X12_line : Cond.selects RX12 yX12_line yX12_line ∈ lw_big := big_sel 94 rfl rfl
theorem wsl_12_X12_line : ∀ t ∈ ([12] : List Nat), t < 13 ∧ Cond.selects (RXX t) yX12_line yX12_line ∈ lw_big := fun t ht => by simp only [List.mem_cons, List.not_mem_nil, or_false] at ht; subst ht; exact ⟨by decide, wsel_X12_X12_line⟩
theorem wml_X12_422 : Cond.methodLink RX12 422 yX12_line ∈ lw_big := b9_at 124 rfl rfl
theorem wim_X12_line : Cond.instanceMethod yX12_line ∈ lw_big := b9_at 126 rfl rfl
theorem wc_X12_takerOf : CWd yX12_takerOf cX12_takerOf 7 (some .int) 1 := ⟨b10_at 78 rfl rfl, wini_X12, by decide, by decide, by decide +kernel⟩
theorem wsel_X12_X12_takerOf : Cond.selects RX12 yX12_takerOf yX12_takerOf ∈ lw_big := big_sel 124 rfl rfl
theorem wsl_12_X12_takerOf : ∀ t ∈ ([12] : List Nat), t < 13 ∧ Cond.selects (RXX t) yX12_takerOf yX12_takerOf ∈ lw_big := fun t ht => by simp only [List.mem_cons, List.not_mem_nil, or_false] at ht; subst ht; exact ⟨by decide, wsel_X12_X12_takerOf⟩
theorem wml_X12_530 : Cond.methodLink RX12 530 yX12_takerOf ∈ lw_big := b10_at 75 rfl rfl
theorem wim_X12_takerOf : Cond.instanceMethod yX12_takerOf ∈ lw_big := b10_at 77 rfl rfl
theorem wc_X12_walkOn : CWd yX12_walkOn cX12_walkOn 8 none 5 := ⟨b10_at 110 rfl rfl, wini_X12, by decide, by decide, by decide +kernel⟩
theorem wsel_X12_X12_walkOn : Cond.selects RX12 yX12_walkOn yX12_walkOn ∈ lw_big := big_sel 127 rfl rfl
theorem wsl_12_X12_walkOn : ∀ t ∈ ([12] : List Nat), t < 13 ∧ Cond.selects (RXX t) yX12_walkOn yX12_walkOn ∈ lw_big := fun t ht => by simp only [List.mem_cons, List.not_mem_nil, or_false] at ht; subst ht; exact ⟨by decide, wsel_X12_X12_walkOn⟩
theorem wml_X12_560 : Cond.methodLink RX12 560 yX12_walkOn ∈ lw_big := b10_at 107 rfl rfl
theorem wim_X12_walkOn : Cond.instanceMethod yX12_walkOn ∈ lw_big := b10_at 109 rfl rfl
theorem wfl_X12_548 : Cond.fieldLink RX12 548 RX12 "bestWorth" "I" ∈ lw_big := b7_at 158 rfl rfl
theorem fl_X12_548 : FLk RX12 548 [12] 71 0 false := FLk.mk0 _ _ _ wfl_X12_548 (by decide +kernel)
theorem wfl_X12_551 : Cond.fieldLink RX12 551 RX12 "bestHours" "I" ∈ lw_big := b7_at 159 rfl rfl
theorem fl_X12_551 : FLk RX12 551 [12] 72 0 false := FLk.mk0 _ _ _ wfl_X12_551 (by decide +kernel)
theorem wfl_X12_554 : Cond.fieldLink RX12 554 RX12 "bestMany" "I" ∈ lw_big := b7_at 160 rfl rfl
theorem fl_X12_554 : FLk RX12 554 [12] 73 0 false := FLk.mk0 _ _ _ wfl_X12_554 (by decide +kernel)
