/-! THE START: what the Statement gives, as the walk's standing facts -/
theorem st_hA {s : State} : ∀ a : Nat, a < s.heap.size → ¬ (fun q : Nat => s.heap.size ≤ q) a := fun _ h => Nat.not_le.mpr h
theorem st_I {args : Array Value} {s : State} (C n : String) (tb : List Int32) (hN : tb.length < 2 ^ 31) (hl : (Cond.laysStatic C n "[I").before args s = true) (hini : (Cond.initialized C).before args s = true) (harr : (Cond.arrayOf (.static C n "[I") .int).before args s = true) (hle : (Cond.eq (.length (.static C n "[I")) (.int (Int32.ofNat tb.length))).before args s = true) (hel : ∀ j : Nat, j < tb.length → (Cond.eq (.elem (.static C n "[I") (.int (Int32.ofNat j))) (.int (tb.getD j 0))).before args s = true) : stI C n tb s.heap.size s := by
  obtain ⟨t, ht, hT⟩ := va_Tof (f := fun j => .int (tb.getD j 0)) hN harr (va_eqt hle) (fun j hj => va_eqt (hel j hj)) st_hA
  exact ⟨t, va_Zof hl hini ht st_hA, hT⟩
theorem st_L {args : Array Value} {s : State} (C n : String) (tb : List Int64) (hN : tb.length < 2 ^ 31) (hl : (Cond.laysStatic C n "[J").before args s = true) (hini : (Cond.initialized C).before args s = true) (harr : (Cond.arrayOf (.static C n "[J") .long).before args s = true) (hle : (Cond.eq (.length (.static C n "[J")) (.int (Int32.ofNat tb.length))).before args s = true) (hel : ∀ j : Nat, j < tb.length → (Cond.eq (.elem (.static C n "[J") (.int (Int32.ofNat j))) (.long (tb.getD j 0))).before args s = true) : stL C n tb s.heap.size s := by
  obtain ⟨t, ht, hT⟩ := va_Tof (f := fun j => .long (tb.getD j 0)) hN harr (va_eqt hle) (fun j hj => va_eqtl (hel j hj)) st_hA
  exact ⟨t, va_Zof hl hini ht st_hA, hT⟩
theorem st_arr {args : Array Value} {s : State} {ty : FieldType} (hne : ∀ C, ty ≠ .object C) (h : (Cond.arrayClass ty).before args s = true) : ∃ cA, ArrOfT s cA ty ∧ va_RA s cA ty := by
  obtain ⟨cA, kA, comp, h1, h2, h3⟩ := Cond.arrayClass_spec h
  refine ⟨cA, fun n z => ⟨fun k h => (by cases h), kA, h2, comp, h3⟩, ?_⟩
  cases ty <;> first | exact h1 | exact absurd rfl (hne _)
theorem st_arO {args : Array Value} {s : State} {C : String} (h : (Cond.arrayOver (.object C)).before args s = true) : ∃ cA, ArrOfT s cA (.object C) ∧ va_RA s cA (.object C) := by
  obtain ⟨comp, cA, kA, h1, -, h2, h3, h4⟩ := Cond.arrayOver_spec h
  exact ⟨cA, fun n z => ⟨fun k h => (by cases h), kA, h2, comp, h3⟩, kA, comp, h2, h3, h1, h4⟩
theorem st_arA {args : Array Value} {s : State} {t : FieldType} (h : (Cond.arrayOver (.array t)).before args s = true) : ∃ cA, ArrOfT s cA (.array t) ∧ va_RA s cA (.array t) := by
  obtain ⟨comp, cA, kA, h1, -, h2, h3, h4⟩ := arrayOverA_spec h
  exact ⟨cA, fun n z => ⟨fun k h => (by cases h), kA, h2, comp, h3⟩, h4⟩
abbrev G1 : List Cond := flatC (Jvm.Cond.and given_1 narrow_1)
theorem findClass_at {vm : Vm} {C : String} {c : ClassId} (h : vm.findClass C = some c) : ∃ k, vm.classes[c]? = some k := by
  obtain ⟨hlt, -⟩ := Array.findIdx?_eq_some_iff_getElem.mp h
  exact ⟨_, Array.getElem?_eq_getElem hlt⟩
theorem st_KC {args : Array Value} {s : State} (hts : ∀ w ∈ lw_tbl, w.before args s = true) : ∃ D : DT, D.1 = s.heap.size ∧ KC D s := by
  have hb := big_hold hts
  have hk : ∀ t, t < 13 → okC t → ∃ q : ClassId × (Nat → Nat), u_Kn s (RXX t) (TXX t) (NXX t) q.1 q.2 := by
    intro t ht ho
    match t, ht, ho with
    | 0, _, h => exact absurd h (by decide)
    | 1, _, _ => obtain ⟨c, i, h⟩ := u_known (C := RX1) (T := TX1) (N := 19) hb inX1 (hb (.instantiable RX1 19) (b2_at 239 rfl rfl)); exact ⟨(c, i), h⟩
    | 2, _, _ => obtain ⟨c, i, h⟩ := u_known (C := RX2) (T := TX2) (N := 5) hb inX2 (hb (.instantiable RX2 5) (b2_at 76 rfl rfl)); exact ⟨(c, i), h⟩
    | 3, _, _ => obtain ⟨c, i, h⟩ := u_known (C := RX3) (T := TX3) (N := 10) hb inX3 (hb (.instantiable RX3 10) (b1_at 29 rfl rfl)); exact ⟨(c, i), h⟩
    | 4, _, _ => obtain ⟨c, i, h⟩ := u_known (C := RX4) (T := TX4) (N := 9) hb inX4 (hb (.instantiable RX4 9) (b1_at 178 rfl rfl)); exact ⟨(c, i), h⟩
    | 5, _, _ => obtain ⟨c, i, h⟩ := u_known (C := RX5) (T := TX5) (N := 15) hb inX5 (hb (.instantiable RX5 15) (b3_at 5 rfl rfl)); exact ⟨(c, i), h⟩
    | 6, _, _ => obtain ⟨c, i, h⟩ := u_known (C := RX6) (T := TX6) (N := 16) hb inX6 (hb (.instantiable RX6 16) (b1_at 79 rfl rfl)); exact ⟨(c, i), h⟩
    | 7, _, _ => obtain ⟨c, i, h⟩ := u_known (C := RX7) (T := TX7) (N := 5) hb inX7 (hb (.instantiable RX7 5) (b2_at 22 rfl rfl)); exact ⟨(c, i), h⟩
    | 8, _, _ => obtain ⟨c, i, h⟩ := u_known (C := RX8) (T := TX8) (N := 11) hb inX8 (hb (.instantiable RX8 11) (b1_at 85 rfl rfl)); exact ⟨(c, i), h⟩
    | 9, _, h => exact absurd h (by decide)
    | 10, _, _ => obtain ⟨c, i, h⟩ := u_known (C := RX10) (T := TX10) (N := 16) hb inX10 (hb (.instantiable RX10 16) (b1_at 213 rfl rfl)); exact ⟨(c, i), h⟩
    | 11, _, _ => obtain ⟨c, i, h⟩ := u_known (C := RX11) (T := TX11) (N := 6) hb inX11 (hb (.instantiable RX11 6) (b1_at 21 rfl rfl)); exact ⟨(c, i), h⟩
    | 12, _, h => exact absurd h (by decide)
  have ha : ∀ t, 20 ≤ t → t < 31 → ∃ cA : ClassId, ArrOfT s cA (aty t) ∧ va_RA s cA (aty t) := by
    intro t h1 h2
    have ht : t = 20 ∨ t = 21 ∨ t = 22 ∨ t = 23 ∨ t = 24 ∨ t = 25 ∨ t = 26 ∨ t = 27 ∨ t = 28 ∨ t = 29 ∨ t = 30 := by omega
    rcases ht with rfl | rfl | rfl | rfl | rfl | rfl | rfl | rfl | rfl | rfl | rfl
    · exact st_arr (ty := .int) (fun C h => by cases h) (hts _ (List.mem_append_right _ (t1_in (List.mem_of_getElem? (i := 77) rfl))))
    · exact st_arr (ty := .int) (fun C h => by cases h) (hts _ (List.mem_append_right _ (t1_in (List.mem_of_getElem? (i := 77) rfl))))
    · exact st_arr (ty := .byte) (fun C h => by cases h) (hts _ (List.mem_append_right _ (t4_in (List.mem_of_getElem? (i := 126) rfl))))
    · exact st_arr (ty := .boolean) (fun C h => by cases h) (hts _ (List.mem_append_right _ (t1_in (List.mem_of_getElem? (i := 211) rfl))))
    · exact st_arr (ty := .long) (fun C h => by cases h) (hts _ (List.mem_append_right _ (t2_in (List.mem_of_getElem? (i := 39) rfl))))
    · exact st_arO (hts _ (List.mem_append_right _ (t1_in (List.mem_of_getElem? (i := 35) rfl))))
    · exact st_arO (hts _ (List.mem_append_right _ (t1_in (List.mem_of_getElem? (i := 219) rfl))))
    · exact st_arO (hts _ (List.mem_append_right _ (t2_in (List.mem_of_getElem? (i := 21) rfl))))
    · exact st_arr (ty := .int) (fun C h => by cases h) (hts _ (List.mem_append_right _ (t1_in (List.mem_of_getElem? (i := 77) rfl))))
    · exact st_arA (hts _ (List.mem_append_right _ (t4_in (List.mem_of_getElem? (i := 165) rfl))))
    · exact st_arr (ty := .boolean) (fun C h => by cases h) (hts _ (List.mem_append_right _ (t1_in (List.mem_of_getElem? (i := 211) rfl))))
  have hcb := va_Nw.of (w := .castable "HillBoxes$Box" "HillBoxes$Body") rfl (hts _ (List.mem_append_right _ (t4_in (List.mem_of_getElem? (i := 167) rfl))))
  obtain ⟨c9, c0, f1, f2, f3⟩ := Cond.castable_spec hcb
  have hk2 : ∀ t, ∃ q : ClassId × (Nat → Nat), (t < 13 → okC t → u_Kn s (RXX t) (TXX t) (NXX t) q.1 q.2) ∧ (t = 0 → q.1 = c0) := fun t => by
    by_cases h : t < 13 ∧ okC t
    · obtain ⟨q, hq⟩ := hk t h.1 h.2
      exact ⟨q, fun _ _ => hq, fun e => absurd e h.2.1⟩
    · exact ⟨(c0, fun _ => 0), fun z y => absurd ⟨z, y⟩ h, fun _ => rfl⟩
  have ha2 : ∀ t, ∃ cA : ClassId, 20 ≤ t → t < 31 → ArrOfT s cA (aty t) ∧ va_RA s cA (aty t) := fun t => by
    by_cases h : 20 ≤ t ∧ t < 31
    · obtain ⟨q, hq⟩ := ha t h.1 h.2
      exact ⟨q, fun _ _ => hq⟩
    · exact ⟨0, fun z y => absurd ⟨z, y⟩ h⟩
  obtain ⟨f, hf⟩ := Classical.axiomOfChoice hk2
  obtain ⟨g, hg⟩ := Classical.axiomOfChoice ha2
  have e0 : (f 0).1 = c0 := (hf 0).2 rfl
  refine ⟨(s.heap.size, fun t => (f t).1, fun t => (f t).2, g, 0, fun _ => none, fun _ _ => .null), rfl, fun t h1 h2 => (hf t).1 h1 h2, hg, ?_, ?_⟩
  · show s.vm.findClass RX0 = some (f 0).1
    rw [e0]
    exact f2
  · show ∃ k0, s.vm.classes[(f 0).1]? = some k0
    rw [e0]
    exact findClass_at f2
theorem st_nc : ∀ i ∈ ([1, 2] : List Nat), ∀ j ∈ ([1, 2, 9] : List Nat), i ≠ j → Cond.not (.castable (RXX i) (RXX j)) ∈ G1 := by decide +kernel
theorem st_KG {args : Array Value} {s : State} (hts : ∀ w ∈ lw_tbl, w.before args s = true) (hs : ∀ c ∈ G1, c.before args s = true) : KG s := by
  refine ⟨fun w hw => ?_, fun i hi j hj hne => va_Nc.of (hs _ (st_nc i hi j hj hne)), va_AO.of (hts _ (List.mem_append_right _ (t1_in (List.mem_of_getElem? (i := 35) rfl)))), va_AO.of (hts _ (List.mem_append_right _ (t1_in (List.mem_of_getElem? (i := 219) rfl)))), va_AO.of (hts _ (List.mem_append_right _ (t2_in (List.mem_of_getElem? (i := 21) rfl))))⟩
  have hm := List.mem_filter.mp hw
  have hg := hm.2
  refine va_Nw.of ?_ (hts w hm.1)
  cases w <;> first | rfl | cases hg
theorem st_UNm : ∀ j : Nat, j < tbUN.length → Cond.eq (.elem (.static "HillBoxes$Rules" "UNRULED" "[I") (.int (Int32.ofNat j))) (.int (tbUN.getD j 0)) ∈ G1 := by decide +kernel
theorem st_UN {args : Array Value} {s : State} (hts : ∀ w ∈ lw_tbl, w.before args s = true) (hs : ∀ c ∈ G1, c.before args s = true) : stI "HillBoxes$Rules" "UNRULED" tbUN s.heap.size s := st_I _ _ _ (by decide) (hts _ (List.mem_append_right _ (t2_in (List.mem_of_getElem? (i := 161) rfl)))) (hts _ (List.mem_append_right _ (t1_in (List.mem_of_getElem? (i := 4) rfl)))) (hs _ (by decide +kernel)) (hs _ (by decide +kernel)) (fun j hj => hs _ (st_UNm j hj))
def st_tm (i : Nat) : Term := if i = 0 then .string "HillBoxes$Tape" 121 else .string "HillBoxes$Tape" 110
theorem st_tx1 : ∀ i : Nat, i < 2 → Cond.exactly (st_tm i) "java/lang/String" ∈ G1 := by decide +kernel
theorem st_tx2 : ∀ i : Nat, i < 2 → Cond.eq (.field (st_tm i) "java/lang/String" "coder" "B") (.int 0) ∈ G1 := by decide +kernel
theorem st_tx3 : ∀ i : Nat, i < 2 → Cond.arrayOf (.field (st_tm i) "java/lang/String" "value" "[B") .byte ∈ G1 := by decide +kernel
theorem st_tx4 : ∀ i : Nat, i < 2 → Cond.eq (.length (.field (st_tm i) "java/lang/String" "value" "[B")) (.int (Int32.ofNat (([78, 12] : List Nat).getD i 0))) ∈ G1 := by decide +kernel
theorem st_tx5a : ∀ j : Nat, j < 78 → G1[97 + j]? = some (Cond.eq (.elem (.field (.string "HillBoxes$Tape" 121) "java/lang/String" "value" "[B") (.int (Int32.ofNat j))) (.int (txW.getD j 0))) := by decide +kernel
theorem st_tx5b : ∀ j : Nat, j < 12 → G1[179 + j]? = some (Cond.eq (.elem (.field (.string "HillBoxes$Tape" 110) "java/lang/String" "value" "[B") (.int (Int32.ofNat j))) (.int (txS.getD j 0))) := by decide +kernel
theorem st_tx5 : ∀ i : Nat, i < 2 → ∀ j : Nat, j < ([78, 12] : List Nat).getD i 0 → Cond.eq (.elem (.field (st_tm i) "java/lang/String" "value" "[B") (.int (Int32.ofNat j))) (.int ((([txW, txS] : List (List Int32)).getD i []).getD j 0)) ∈ G1 := by
  intro i hi j hj
  match i, hi with
  | 0, _ => exact List.mem_of_getElem? (st_tx5a j hj)
  | 1, _ => exact List.mem_of_getElem? (st_tx5b j hj)
theorem st_S {args : Array Value} {s : State} (hts : ∀ w ∈ lw_tbl, w.before args s = true) (hs : ∀ c ∈ G1, c.before args s = true) : stS s.heap.size s := by
  obtain ⟨aK, aV, h1, h2⟩ := vk_Sof (s := s) (args := args) (N := 2) (tm := st_tm) (len := [78, 12]) (byt := [txW, txS]) (A := fun q => s.heap.size ≤ q) (fun i hi => by match i, hi with | 0, _ => decide | 1, _ => decide) (fun i hi => hs _ (st_tx1 i hi)) (fun i hi => hs _ (st_tx2 i hi)) (fun i hi => hs _ (st_tx3 i hi)) (fun i hi => hs _ (st_tx4 i hi)) (fun i hi j hj => hs _ (st_tx5 i hi j hj)) (fun i j hi hj hne => by
    match i, j, hi, hj with
    | 0, 0, _, _ => exact absurd rfl hne
    | 1, 1, _, _ => exact absurd rfl hne
    | 0, 1, _, _ => exact Or.inl (hs _ (by decide +kernel))
    | 1, 0, _, _ => exact Or.inr (hs _ (by decide +kernel))) st_hA
  refine ⟨⟨aK, aV, h1, ?_, ?_⟩, va_Zof (hts _ (List.mem_append_right _ (t3_in (List.mem_of_getElem? (i := 205) rfl)))) (hts _ (List.mem_append_right _ (t1_in (List.mem_of_getElem? (i := 10) rfl)))) (va_eqi (hs _ (by decide +kernel))) st_hA, va_Zqof (hts _ (List.mem_append_right _ (t3_in (List.mem_of_getElem? (i := 221) rfl)))) (hts _ (List.mem_append_right _ (t1_in (List.mem_of_getElem? (i := 12) rfl)))) (hs _ (by decide +kernel)) st_hA⟩
  · exact vk_R.of (hts _ (List.mem_append_right _ (t3_in (List.mem_of_getElem? (i := 195) rfl)))) (h2 0 (by decide))
  · exact vk_R.of (hts _ (List.mem_append_right _ (t4_in (List.mem_of_getElem? (i := 15) rfl)))) (h2 1 (by decide))
theorem start_of {p : Program} {e : Env} {s : State} {m : MethodId} {below : List Frame} {meth : Method} {c : Code} (l : Launch) {b L : Nat} {xs : Nat → Int32} (C0 : lw_At p s m meth c b L xs) {r : Int32 × AH} (h1 : r.1 = 1) (hf : f_law ((List.range L).map xs) h0 = some r) : W p l e room_1 s m #[Value.ref b] below meth c s.heap [] 0 0 (lw_Z below #[Value.ref b] s) (entryFrame m ([Value.ref b] : List Value).toArray 29) := by
  obtain ⟨hx, hb, hr, hml, hown, hts, hX, hbl, hlocks, hgv⟩ := C0
  have hs := flat_of_before _ hgv
  obtain ⟨D, hD, hKC⟩ := st_KC hts
  have hl : LV ((lg_sl ([.ref b] : List Value) ++ List.replicate (29 - (lg_sl ([.ref b] : List Value)).length) Slot.unset).toArray) 29 [some (.ref b), none, none, none, none, none, none, none, none, none, none, none, none, none, none, none, none, none, none, none, none, none, none, none, none, none, none, none, none] := LV.entryR 29 [.ref b] (fun v hv => by simp at hv; subst hv; rfl) (Nat.le_of_ble_eq_true rfl)
  have hKS : KS s.heap.size s := ⟨st_UN hts hs, st_S hts hs⟩
  have hlen : ((List.range L).map xs).length = L := by simp
  have hbh : va_T .int b ((List.range L).map xs).length (fun j => .int (((List.range L).map xs).getD j 0)) (fun q => s.heap.size ≤ q) s s.heap := by
    obtain ⟨scr, e1, e2, e3, e4, e5⟩ := hX
    refine ⟨scr, e1, e2, e3, by rw [hlen, e4]; exact Nat.le_refl L, by rw [hlen, e4] <;> rfl, fun j hj => ?_, Nat.not_le.mpr hbl⟩
    rw [hlen] at hj
    rw [e5 j hj]
    simp [List.getD_eq_getElem?_getD, hj]
  rw [lg_entry_eq]
  obtain ⟨d1, d2⟩ := D
  obtain rfl : d1 = s.heap.size := hD
  have hw := w_law (X := ((p, l, e, room_1, s), (m, #[.ref b], below, meth, c), (s.heap.size, d2), lw_Z below #[Value.ref b] s)) (b := b) (tb := (List.range L).map xs) ⟨hx, hb, hml, hown, big_hold hts, hKC, st_KG hts hs, Nat.le_refl _, hlocks, hKS⟩ rfl ⟨hr, rfl, rfl, rfl, rfl⟩ hbh (hts _ (List.mem_append_right _ (t4_in (List.mem_of_getElem? (i := 165) rfl)))) h0 r h1 hf
  refine WL.use hw s.heap [] _ ⟨rfl, fun k q hk => by cases hk⟩ va_S.rf ?_
  show LV _ c.maxLocals _
  rw [hml]
  exact hl
