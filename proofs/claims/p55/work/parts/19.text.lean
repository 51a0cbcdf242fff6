/-! TEXTS: String's own methods on the tape's two constant texts, by values as they are (their cells lie below the picture) -/
def lvR (n : Nat) (vs : List Value) : List (Option Value) := vs.map some ++ List.replicate (n - vs.length) none
/-- a text: its place among the two, its cell, its bytes' cell -/
def tx (x : Nat × Nat × Nat) (b : Nat) (U : State) : Prop := x.1 < 2 ∧ ∃ adK adV : Nat → Nat, vk_S 2 [78, 12] [txW, txS] adK adV (fun y => b ≤ y) U U.heap ∧ x.2.1 = adK x.1 ∧ x.2.2 = adV x.1
theorem tx.moved {x : Nat × Nat × Nat} {b : Nat} {u U : State} (hA : u.vm.Alike U.vm) (hq : ∀ a : Nat, a < u.heap.size → ¬ b ≤ a → U.heap[a]? = u.heap[a]?) (h : tx x b u) : tx x b U := by
  obtain ⟨h0, aK, aV, h1, h2, h3⟩ := h
  exact ⟨h0, aK, aV, (h1.moved hA).kept hq, h2, h3⟩
theorem tx.coder {x : Nat × Nat × Nat} {b : Nat} {U : State} (h : tx x b U) : va_OF "java/lang/String" "coder" "B" (.int 0) x.2.1 (fun y => b ≤ y) U U.heap := by
  obtain ⟨h0, aK, aV, h1, h2, h3⟩ := h
  rw [h2]
  exact (h1.1 x.1 h0).2.1
theorem tx.value {x : Nat × Nat × Nat} {b : Nat} {U : State} (h : tx x b U) : va_OF "java/lang/String" "value" "[B" (.ref x.2.2) x.2.1 (fun y => b ≤ y) U U.heap := by
  obtain ⟨h0, aK, aV, h1, h2, h3⟩ := h
  rw [h2, h3]
  exact (h1.1 x.1 h0).2.2.1
def txN (i : Nat) : Nat := ([78, 12] : List Nat).getD i 0
def txB (i j : Nat) : Int32 := (([txW, txS] : List (List Int32)).getD i []).getD j 0
theorem tx.bytes {x : Nat × Nat × Nat} {b : Nat} {U : State} (h : tx x b U) : va_T .byte x.2.2 (txN x.1) (fun j => .int (txB x.1 j)) (fun y => b ≤ y) U U.heap := by
  obtain ⟨h0, aK, aV, h1, h2, h3⟩ := h
  rw [h3]
  exact (h1.1 x.1 h0).2.2.2
def PcV (D : DT) (x : Nat × Nat × Nat) (vs : List Value) (h : AH) : Array Value → State → Prop := fun v U => v = vs.toArray ∧ RepH D h U.heap ∧ KC D U ∧ KG U ∧ D.1 ≤ U.heap.size ∧ KS D.1 U ∧ tx x D.1 U
def CMV (l : Launch) (D : DT) (x : Nat × Nat × Nat) (y : MethodName) (bytes : ByteArray) (maxL : Nat) (ret : Option FieldType) (fr lo : Nat) (vs : List Value) (h : AH) (rv : Option Value) : Prop := Met l y (wv y bytes maxL ret) { frames := fr, cells := 0, slots := 0, locals := lo } (PcV D x vs h) (QcX D rv h) 0 0 (fun q => D.1 ≤ q)
theorem lv_args_at : ∀ (vs : List Value) (k i : Nat) (w : Value), (∀ v ∈ vs, v.category = 1) → vs[i]? = some w → (k + i, w) ∈ lv_args k vs
  | [], _, _, _, _, e => by simp at e
  | v :: vs, k, i, w, hc, e => by
    simp only [lv_args]
    have h1 := hc v List.mem_cons_self
    cases i with
    | zero =>
      simp at e
      subst e
      exact List.mem_cons_self
    | succ i =>
      refine List.mem_cons_of_mem _ ?_
      rw [h1, if_neg (by decide)]
      have := lv_args_at vs (k + 1) i w (fun v hv => hc v (List.mem_cons_of_mem _ hv)) (by simpa using e)
      rwa [show k + (i + 1) = k + 1 + i by omega]
theorem lg_sl_1 : ∀ vs : List Value, (∀ v ∈ vs, v.category = 1) → (lg_sl vs).length = vs.length
  | [], _ => rfl
  | v :: vs, hc => by
    rw [lg_sl_c, hc v List.mem_cons_self, if_neg (by decide), lg_sl_1 vs (fun v hv => hc v (List.mem_cons_of_mem _ hv)), List.length_cons, Nat.add_comm]
theorem LV.entryR (n : Nat) (vs : List Value) (hc : ∀ v ∈ vs, v.category = 1) (hn : vs.length ≤ n) : LV ((lg_sl vs ++ List.replicate (n - (lg_sl vs).length) Slot.unset).toArray) n (lvR n vs) := by
  have hl := lv_entry vs (n := n) (by rw [lg_sl_1 vs hc]; exact hn)
  refine ⟨hl.1, hl.2.1, fun i v hi => ?_⟩
  unfold lvR at hi
  by_cases hlt : i < (vs.map some).length
  · rw [List.getElem?_append_left hlt, List.getElem?_map] at hi
    cases e : vs[i]? with
    | none => rw [e] at hi; cases hi
    | some w =>
      rw [e] at hi
      cases hi
      have := hl.2.2 _ (lv_args_at vs 0 i v hc e)
      simpa using this
  · rw [List.getElem?_append_right (by omega), List.getElem?_replicate] at hi
    split at hi <;> cases hi
theorem CMV.of {l : Launch} {D : DT} {x : Nat × Nat × Nat} {y : MethodName} {bytes : ByteArray} {maxL : Nat} {ret : Option FieldType} {fr lo : Nat} {vs : List Value} {h : AH} {rv : Option Value} (hy : plainName y.cls = true) (hc : vs.all (fun v => v.category == 1) = true) (hlen : vs.length ≤ maxL)
    (body : ∀ X : XT, X.1.2.1 = l → CX X y.cls bytes maxL → xD X = D → xR X = { frames := fr, cells := 0, slots := 0, locals := lo } → RT X ret rv h 0 0 → tx x (xD X).1 (xs X) → WW X h 0 0 0 (lvR maxL vs) []) : CMV l D x y bytes maxL ret fr lo vs h rv := by
  refine Met.ofW (cc := bytes) (maxL := maxL) (ret := ret) hy rfl ?_
  intro p e s m args below meth c s₁ B hml hv
  obtain ⟨rfl, hRep, hKC, hKG, hbase, hKS, htx⟩ := hv
  have hts := atoms_spec (ws := wv y bytes maxL ret) B.pre
  have hc' : ∀ v ∈ vs, v.category = 1 := fun v hv => by simpa using List.all_eq_true.mp hc v hv
  rw [lg_entry_eq]
  have hl := LV.entryR maxL vs hc' hlen
  have hk := body ((p, l, e, { frames := fr, cells := 0, slots := 0, locals := lo }, s), (m, vs.toArray, below, meth, c), D, MQ below (QcX D rv h) vs.toArray s 0 0 (fun q => D.1 ≤ q)) rfl ⟨B.exec, B.bytes, hml, findClass_of_methodNamed B.named, fun w hw => hts w (List.mem_cons_of_mem _ hw), hKC, hKG, hbase, B.notSynchronized, hKS⟩ rfl rfl ⟨B.returns, rfl⟩ htx
  exact hk s.heap [] _ hRep va_S.rf (by show LV _ c.maxLocals _; rw [hml]; exact hl)
section TEXTS2
variable {X : XT} {own : String} {cc : ByteArray} {nL pc cells slots : Nat} {h : AH} {lv lv' : List (Option Value)} {st : List Value}
theorem PcV.blind {D : DT} {x : Nat × Nat × Nat} {vs : List Value} {h : AH} : FrameBlind (PcV D x vs h) := by
  intro a U g mk ⟨h1, h2, h3, h4, h5, h6, h7⟩
  exact ⟨h1, h2, h3.moved (u := U) (U := U.calling g mk a) (Vm.Alike.refl U.vm), h4.same (s := U) (U := U.calling g mk a) rfl, h5, h6.same (u := U) (U := U.calling g mk a) rfl rfl, h7.moved (u := U) (U := U.calling g mk a) (Vm.Alike.refl U.vm) (fun _ _ _ => rfl)⟩
theorem PcV.at (C : CX X own cc nL) {x : Nat × Nat × Nat} (hx : tx x (xD X).1 (xs X)) {vs : List Value} {H : Heap} {locs : List Loc} (hR : RepH (xD X) h H) (hS : va_S (fun q => (xD X).1 ≤ q) (xs X).heap H locs) : ∀ U : State, U.heap = H → (xs X).WarmedH U.vm → PcV (xD X) x vs h vs.toArray U := by
  intro U hU hW
  refine ⟨rfl, by rw [hU]; exact hR, C.2.2.2.2.2.1.moved hW.alike, C.2.2.2.2.2.2.1.warm hW, by rw [hU]; exact Nat.le_trans C.2.2.2.2.2.2.2.1 hS.1, C.2.2.2.2.2.2.2.2.2.moved hW (fun a h1 h2 => by rw [hU]; exact hS.2.1 a h1 h2), hx.moved hW.alike (fun a h1 h2 => by rw [hU]; exact hS.2.1 a h1 h2)⟩
theorem r_aload (C : CX X own cc nL) {n : Fin 4} {q : Nat} (d : decode cc pc = .ok (.aload_n n, 1)) (hv : lv[(n : Nat)]? = some (some (.ref q))) (k : WW X h cells slots (pc + 1) lv (.ref q :: st)) : WW X h cells slots pc lv st :=
  fun H locs ls hR hS hl => lv_aload_n C.1 C.2.1 d rfl (hl.2.2 _ _ hv) (k H locs ls hR hS hl)
theorem r_getf (C : CX X own cc nL) {n d : String} {idx q : Nat} {v : Value} (hE : va_OF "java/lang/String" n d v q (fun x => (xD X).1 ≤ x) (xs X) (xs X).heap) (w : Cond.fieldLink own idx "java/lang/String" n d ∈ lw_big) (dd : decode cc pc = .ok (.getfield idx, 3)) (k : WW X h cells slots (pc + 3) lv (v :: st)) : WW X h cells slots pc lv (.ref q :: st) :=
  fun H locs ls hR hS hl => vk_getf C.1 C.2.1 hE hS C.2.2.2.1 (C.2.2.2.2.1 _ w) (fun _ h => h) dd (k H locs ls hR hS hl)
theorem r_compact (C : CX X own cc nL) {idx : Nat} (w : Cond.fieldLink own idx "java/lang/String" "COMPACT_STRINGS" "Z" ∈ lw_big) (d : decode cc pc = .ok (.getstatic idx, 3)) (k : WW X h cells slots (pc + 3) lv (.int 1 :: st)) : WW X h cells slots pc lv st := by
  obtain ⟨-, -, hZ, hQ⟩ := C.2.2.2.2.2.2.2.2.2
  exact fun H locs ls hR hS hl => va_gets C.1 C.2.1 hZ hS C.2.2.2.1 (C.2.2.2.2.1 _ w) (fun _ h => h) d (k H locs ls hR hS hl)
theorem r_siobe (C : CX X own cc nL) {idx : Nat} (w : Cond.fieldLink own idx "jdk/internal/util/Preconditions" "SIOOBE_FORMATTER" "Ljava/util/function/BiFunction;" ∈ lw_big) (d : decode cc pc = .ok (.getstatic idx, 3)) (k : ∀ v : Value, v.category = 1 → WW X h cells slots (pc + 3) lv (v :: st)) : WW X h cells slots pc lv st := by
  obtain ⟨-, -, hZ, hQ⟩ := C.2.2.2.2.2.2.2.2.2
  rcases hQ with hQ | ⟨t, hQ⟩
  · exact fun H locs ls hR hS hl => va_gets C.1 C.2.1 hQ hS C.2.2.2.1 (C.2.2.2.2.1 _ w) (fun _ h => h) d (k _ rfl H locs ls hR hS hl)
  · exact fun H locs ls hR hS hl => va_gets C.1 C.2.1 hQ hS C.2.2.2.1 (C.2.2.2.2.1 _ w) (fun _ h => h) d (k _ rfl H locs ls hR hS hl)
theorem r_bald (C : CX X own cc nL) {N t : Nat} {f : Nat → Value} (hT : va_T .byte t N f (fun q => (xD X).1 ≤ q) (xs X) (xs X).heap) {i : Int32} (hin : vp_in i N) {v : Value} (hv : f i.toNatClampNeg = v) (d : decode cc pc = .ok (.baload, 1)) (kk : WW X h cells slots (pc + 1) lv (v :: st)) : WW X h cells slots pc lv (.int i :: .ref t :: st) :=
  fun H locs ls hR hS hl => va_tb C.1 C.2.1 hT hS hin hv d (kk H locs ls hR hS hl)
theorem r_bret (C : CX X own cc nL) {ty : FieldType} {v : Int32} (E : RT X (some ty) (some (.int v)) h 0 0) (hn : narrow ty (.int v) = .int v) (d : decode cc pc = .ok (.ireturn, 1)) (hc : cells ≤ 0) (hs : slots ≤ 0) : WW X h cells slots pc lv [.int v] := by
  intro H locs ls hR hS hl
  refine W.widen hc hs ?_
  show W _ _ _ _ _ _ _ _ _ _ _ _ _ _ X.2.2.2 _
  rw [E.2]
  exact W.zret C.1 C.2.1 E.1 hn (QcX.of hR hS) hS.2.2 d C.2.2.2.2.2.2.2.2.1
theorem r_vret (C : CX X own cc nL) (E : RT X none none h 0 0) (d : decode cc pc = .ok (.return_, 1)) (hc : cells ≤ 0) (hs : slots ≤ 0) : WW X h cells slots pc lv [] := s_return (r := ((), h)) C E d rfl hc hs
/-- a branch that is known -/
theorem r_if_eq (C : CX X own cc nL) {x : Int32} {off : Int} (d : decode cc pc = .ok (.ifCond .eq off, 3)) (hx : x ≠ 0) (k : WW X h cells slots (pc + 3) lv st) (ht : ∃ tgt : Nat, (pc : Int) + off = (tgt : Int)) : WW X h cells slots pc lv (.int x :: st) := by
  obtain ⟨tgt, ht⟩ := ht
  exact s_if_eq (r := ()) (A := none) (B := some ()) C d ht (if_neg hx) (fun h => by cases h) (fun _ => k)
theorem r_callV (C : CX X own cc nL) {x : Nat × Nat × Nat} (hx : tx x (xD X).1 (xs X)) {y : MethodName} {bytes : ByteArray} {maxL idx n fr lo : Nat} {ret : Option FieldType} {rv : Option Value} (w : CWd y bytes maxL ret n) (wl : Cond.methodLink own idx y ∈ lw_big) (wi : Cond.instanceMethod y ∈ lw_big) (wsel : Cond.selects "java/lang/String" y y ∈ lw_big) (d : decode cc pc = .ok (.invokevirtual idx, 3)) {As : List Value} (hn : As.length = n) (hM : CMV X.1.2.1 (xD X) x y bytes maxL ret fr lo (.ref x.2.1 :: As) h rv) {stk : List Value} (hstk : stk = As.reverse ++ .ref x.2.1 :: st) (hst : st.length ≤ 4) (hroom : fr + 1 ≤ (xR X).frames ∧ 8 + (maxL + 11) + lo ≤ (xR X).locals) (hcl : cells ≤ (xR X).cells ∧ slots ≤ (xR X).slots) (kk : WW X h cells slots (pc + 3) lv (rv.toList ++ st)) : WW X h cells slots pc lv stk := by
  subst hstk
  intro H locs ls hR hS hl
  have hts := C.2.2.2.2.1
  obtain ⟨cv, g1, g2, g3⟩ : ∃ cell : Cell, H[x.2.1]? = some cell ∧ cell.vm.isStatics = false ∧ (xs X).vm.findClass "java/lang/String" = some cell.cls := by
    obtain ⟨h0, aK, aV, e1, e2, e3⟩ := hx
    rw [e2]
    exact vk_recv e1 h0 hS
  exact run_go (lv := lv) (mc := 0) (ms := 0) (va_runV (C := "java/lang/String") (As := As) (rest := st) ⟨C.1, C.2.1, C.2.2.1, C.2.2.2.1, hts⟩ hM ⟨callB_of n hts (wv_good w.1) rfl rfl rfl (hts _ w.2.1) (hts _ wl) w.2.2 hroom, hts _ wi, hts _ wsel⟩ ⟨PcV.blind, ⟨cv, g1, g2, g3⟩, PcV.at C hx hR hS⟩ rfl hn (by rw [← C.2.2.1]; exact hl.1) rfl (lv_room (cat_sum _ hst)) d hcl) hS hl kk
theorem r_callS (C : CX X own cc nL) {x : Nat × Nat × Nat} (hx : tx x (xD X).1 (xs X)) {y : MethodName} {bytes : ByteArray} {maxL idx n fr lo : Nat} {ret : Option FieldType} {rv : Option Value} (w : CWd y bytes maxL ret n) (wl : Cond.methodLink own idx y ∈ lw_big) (wi : Cond.static y ∈ lw_big) (d : decode cc pc = .ok (.invokestatic idx, 3)) {As : List Value} (hn : As.length = n) (hM : CMV X.1.2.1 (xD X) x y bytes maxL ret fr lo As h rv) {stk : List Value} (hstk : stk = As.reverse ++ st) (hst : st.length ≤ 4) (hroom : fr + 1 ≤ (xR X).frames ∧ 8 + (maxL + 11) + lo ≤ (xR X).locals) (hcl : cells ≤ (xR X).cells ∧ slots ≤ (xR X).slots) (kk : WW X h cells slots (pc + 3) lv (rv.toList ++ st)) : WW X h cells slots pc lv stk := by
  subst hstk
  intro H locs ls hR hS hl
  have hts := C.2.2.2.2.1
  exact run_go (lv := lv) (mc := 0) (ms := 0) (va_runS (As := As) (rest := st) ⟨C.1, C.2.1, C.2.2.1, C.2.2.2.1, hts⟩ hM ⟨callB_of n hts (wv_good w.1) rfl rfl rfl (hts _ w.2.1) (hts _ wl) w.2.2 hroom, hts _ wi⟩ ⟨PcV.blind, PcV.at C hx hR hS⟩ rfl hn (by rw [← C.2.2.1]; exact hl.1) rfl (lv_room (cat_sum _ hst)) d hcl) hS hl kk
end TEXTS2
theorem dJ0_length_8abf5_0 : decode cJ0_length_8abf5 0 = .ok (.aload_n 0, 1) := by decide +kernel
theorem dJ0_length_8abf5_1 : decode cJ0_length_8abf5 1 = .ok (.getfield 9, 3) := by decide +kernel
theorem dJ0_length_8abf5_4 : decode cJ0_length_8abf5 4 = .ok (.arraylength, 1) := by decide +kernel
theorem dJ0_length_8abf5_5 : decode cJ0_length_8abf5 5 = .ok (.aload_n 0, 1) := by decide +kernel
theorem dJ0_length_8abf5_6 : decode cJ0_length_8abf5 6 = .ok (.invokevirtual 335, 3) := by decide +kernel
theorem dJ0_length_8abf5_9 : decode cJ0_length_8abf5 9 = .ok (.ishr, 1) := by decide +kernel
theorem dJ0_length_8abf5_10 : decode cJ0_length_8abf5 10 = .ok (.ireturn, 1) := by decide +kernel
theorem dJ0_coder_7d493_0 : decode cJ0_coder_7d493 0 = .ok (.getstatic 38, 3) := by decide +kernel
theorem dJ0_coder_7d493_3 : decode cJ0_coder_7d493 3 = .ok (.ifCond .eq 10, 3) := by decide +kernel
theorem dJ0_coder_7d493_6 : decode cJ0_coder_7d493 6 = .ok (.aload_n 0, 1) := by decide +kernel
theorem dJ0_coder_7d493_7 : decode cJ0_coder_7d493 7 = .ok (.getfield 15, 3) := by decide +kernel
theorem dJ0_coder_7d493_10 : decode cJ0_coder_7d493 10 = .ok (.goto 4, 3) := by decide +kernel
theorem dJ0_coder_7d493_13 : decode cJ0_coder_7d493 13 = .ok (.iconst 1, 1) := by decide +kernel
theorem dJ0_coder_7d493_14 : decode cJ0_coder_7d493 14 = .ok (.ireturn, 1) := by decide +kernel
theorem dJ0_isLatin1_aae02_0 : decode cJ0_isLatin1_aae02 0 = .ok (.getstatic 38, 3) := by decide +kernel
theorem dJ0_isLatin1_aae02_3 : decode cJ0_isLatin1_aae02 3 = .ok (.ifCond .eq 14, 3) := by decide +kernel
theorem dJ0_isLatin1_aae02_6 : decode cJ0_isLatin1_aae02 6 = .ok (.aload_n 0, 1) := by decide +kernel
theorem dJ0_isLatin1_aae02_7 : decode cJ0_isLatin1_aae02 7 = .ok (.getfield 15, 3) := by decide +kernel
theorem dJ0_isLatin1_aae02_10 : decode cJ0_isLatin1_aae02 10 = .ok (.ifCond .ne 7, 3) := by decide +kernel
theorem dJ0_isLatin1_aae02_13 : decode cJ0_isLatin1_aae02 13 = .ok (.iconst 1, 1) := by decide +kernel
theorem dJ0_isLatin1_aae02_14 : decode cJ0_isLatin1_aae02 14 = .ok (.goto 4, 3) := by decide +kernel
theorem dJ0_isLatin1_aae02_17 : decode cJ0_isLatin1_aae02 17 = .ok (.iconst 0, 1) := by decide +kernel
theorem dJ0_isLatin1_aae02_18 : decode cJ0_isLatin1_aae02 18 = .ok (.ireturn, 1) := by decide +kernel
theorem dJ0_charAt_5068e_0 : decode cJ0_charAt_5068e 0 = .ok (.aload_n 0, 1) := by decide +kernel
theorem dJ0_charAt_5068e_1 : decode cJ0_charAt_5068e 1 = .ok (.invokevirtual 492, 3) := by decide +kernel
theorem dJ0_charAt_5068e_4 : decode cJ0_charAt_5068e 4 = .ok (.ifCond .eq 12, 3) := by decide +kernel
theorem dJ0_charAt_5068e_7 : decode cJ0_charAt_5068e 7 = .ok (.aload_n 0, 1) := by decide +kernel
theorem dJ0_charAt_5068e_8 : decode cJ0_charAt_5068e 8 = .ok (.getfield 9, 3) := by decide +kernel
theorem dJ0_charAt_5068e_11 : decode cJ0_charAt_5068e 11 = .ok (.iload_n 1, 1) := by decide +kernel
theorem dJ0_charAt_5068e_12 : decode cJ0_charAt_5068e 12 = .ok (.invokestatic 495, 3) := by decide +kernel
theorem dJ0_charAt_5068e_15 : decode cJ0_charAt_5068e 15 = .ok (.ireturn, 1) := by decide +kernel
theorem dJ0_charAt_5068e_16 : decode cJ0_charAt_5068e 16 = .ok (.aload_n 0, 1) := by decide +kernel
theorem dJ0_charAt_5068e_17 : decode cJ0_charAt_5068e 17 = .ok (.getfield 9, 3) := by decide +kernel
theorem dJ0_charAt_5068e_20 : decode cJ0_charAt_5068e 20 = .ok (.iload_n 1, 1) := by decide +kernel
theorem dJ0_charAt_5068e_21 : decode cJ0_charAt_5068e 21 = .ok (.invokestatic 498, 3) := by decide +kernel
theorem dJ0_charAt_5068e_24 : decode cJ0_charAt_5068e 24 = .ok (.ireturn, 1) := by decide +kernel
theorem dJ0_checkIndex_df160_0 : decode cJ0_checkIndex_df160 0 = .ok (.iload_n 0, 1) := by decide +kernel
theorem dJ0_checkIndex_df160_1 : decode cJ0_checkIndex_df160 1 = .ok (.iload_n 1, 1) := by decide +kernel
theorem dJ0_checkIndex_df160_2 : decode cJ0_checkIndex_df160 2 = .ok (.getstatic 1053, 3) := by decide +kernel
theorem dJ0_checkIndex_df160_5 : decode cJ0_checkIndex_df160 5 = .ok (.invokestatic 1059, 3) := by decide +kernel
theorem dJ0_checkIndex_df160_8 : decode cJ0_checkIndex_df160 8 = .ok (.pop, 1) := by decide +kernel
theorem dJ0_checkIndex_df160_9 : decode cJ0_checkIndex_df160 9 = .ok (.return_, 1) := by decide +kernel
theorem dJ3_checkIndex_8e157_0 : decode cJ3_checkIndex_8e157 0 = .ok (.iload_n 0, 1) := by decide +kernel
theorem dJ3_checkIndex_8e157_1 : decode cJ3_checkIndex_8e157 1 = .ok (.ifCond .lt 8, 3) := by decide +kernel
theorem dJ3_checkIndex_8e157_4 : decode cJ3_checkIndex_8e157 4 = .ok (.iload_n 0, 1) := by decide +kernel
theorem dJ3_checkIndex_8e157_5 : decode cJ3_checkIndex_8e157 5 = .ok (.iload_n 1, 1) := by decide +kernel
theorem dJ3_checkIndex_8e157_6 : decode cJ3_checkIndex_8e157 6 = .ok (.if_icmp .lt 10, 3) := by decide +kernel
theorem dJ3_checkIndex_8e157_9 : decode cJ3_checkIndex_8e157 9 = .ok (.aload_n 2, 1) := by decide +kernel
theorem dJ3_checkIndex_8e157_10 : decode cJ3_checkIndex_8e157 10 = .ok (.iload_n 0, 1) := by decide +kernel
theorem dJ3_checkIndex_8e157_11 : decode cJ3_checkIndex_8e157 11 = .ok (.iload_n 1, 1) := by decide +kernel
theorem dJ3_checkIndex_8e157_12 : decode cJ3_checkIndex_8e157 12 = .ok (.invokestatic 95, 3) := by decide +kernel
theorem dJ3_checkIndex_8e157_15 : decode cJ3_checkIndex_8e157 15 = .ok (.athrow, 1) := by decide +kernel
theorem dJ3_checkIndex_8e157_16 : decode cJ3_checkIndex_8e157 16 = .ok (.iload_n 0, 1) := by decide +kernel
theorem dJ3_checkIndex_8e157_17 : decode cJ3_checkIndex_8e157 17 = .ok (.ireturn, 1) := by decide +kernel
theorem dJ1_charAt_3b067_0 : decode cJ1_charAt_3b067 0 = .ok (.iload_n 1, 1) := by decide +kernel
theorem dJ1_charAt_3b067_1 : decode cJ1_charAt_3b067 1 = .ok (.aload_n 0, 1) := by decide +kernel
theorem dJ1_charAt_3b067_2 : decode cJ1_charAt_3b067 2 = .ok (.arraylength, 1) := by decide +kernel
theorem dJ1_charAt_3b067_3 : decode cJ1_charAt_3b067 3 = .ok (.invokestatic 9, 3) := by decide +kernel
theorem dJ1_charAt_3b067_6 : decode cJ1_charAt_3b067 6 = .ok (.aload_n 0, 1) := by decide +kernel
theorem dJ1_charAt_3b067_7 : decode cJ1_charAt_3b067 7 = .ok (.iload_n 1, 1) := by decide +kernel
theorem dJ1_charAt_3b067_8 : decode cJ1_charAt_3b067 8 = .ok (.baload, 1) := by decide +kernel
theorem dJ1_charAt_3b067_9 : decode cJ1_charAt_3b067 9 = .ok (.sipush 255, 3) := by decide +kernel
theorem dJ1_charAt_3b067_12 : decode cJ1_charAt_3b067 12 = .ok (.iand, 1) := by decide +kernel
theorem dJ1_charAt_3b067_13 : decode cJ1_charAt_3b067 13 = .ok (.i2c, 1) := by decide +kernel
theorem dJ1_charAt_3b067_14 : decode cJ1_charAt_3b067 14 = .ok (.ireturn, 1) := by decide +kernel
theorem dJ0_indexOf_0f7a4_0 : decode cJ0_indexOf_0f7a4 0 = .ok (.aload_n 0, 1) := by decide +kernel
theorem dJ0_indexOf_0f7a4_1 : decode cJ0_indexOf_0f7a4 1 = .ok (.iload_n 1, 1) := by decide +kernel
theorem dJ0_indexOf_0f7a4_2 : decode cJ0_indexOf_0f7a4 2 = .ok (.iconst 0, 1) := by decide +kernel
theorem dJ0_indexOf_0f7a4_3 : decode cJ0_indexOf_0f7a4 3 = .ok (.invokevirtual 633, 3) := by decide +kernel
theorem dJ0_indexOf_0f7a4_6 : decode cJ0_indexOf_0f7a4 6 = .ok (.ireturn, 1) := by decide +kernel
theorem dJ0_indexOf_7cf53_0 : decode cJ0_indexOf_7cf53 0 = .ok (.aload_n 0, 1) := by decide +kernel
theorem dJ0_indexOf_7cf53_1 : decode cJ0_indexOf_7cf53 1 = .ok (.invokevirtual 492, 3) := by decide +kernel
theorem dJ0_indexOf_7cf53_4 : decode cJ0_indexOf_7cf53 4 = .ok (.ifCond .eq 19, 3) := by decide +kernel
theorem dJ0_indexOf_7cf53_7 : decode cJ0_indexOf_7cf53 7 = .ok (.aload_n 0, 1) := by decide +kernel
theorem dJ0_indexOf_7cf53_8 : decode cJ0_indexOf_7cf53 8 = .ok (.getfield 9, 3) := by decide +kernel
theorem dJ0_indexOf_7cf53_11 : decode cJ0_indexOf_7cf53 11 = .ok (.iload_n 1, 1) := by decide +kernel
theorem dJ0_indexOf_7cf53_12 : decode cJ0_indexOf_7cf53 12 = .ok (.iload_n 2, 1) := by decide +kernel
theorem dJ0_indexOf_7cf53_13 : decode cJ0_indexOf_7cf53 13 = .ok (.aload_n 0, 1) := by decide +kernel
theorem dJ0_indexOf_7cf53_14 : decode cJ0_indexOf_7cf53 14 = .ok (.invokevirtual 505, 3) := by decide +kernel
theorem dJ0_indexOf_7cf53_17 : decode cJ0_indexOf_7cf53 17 = .ok (.invokestatic 637, 3) := by decide +kernel
theorem dJ0_indexOf_7cf53_20 : decode cJ0_indexOf_7cf53 20 = .ok (.goto 16, 3) := by decide +kernel
theorem dJ0_indexOf_7cf53_23 : decode cJ0_indexOf_7cf53 23 = .ok (.aload_n 0, 1) := by decide +kernel
theorem dJ0_indexOf_7cf53_24 : decode cJ0_indexOf_7cf53 24 = .ok (.getfield 9, 3) := by decide +kernel
theorem dJ0_indexOf_7cf53_27 : decode cJ0_indexOf_7cf53 27 = .ok (.iload_n 1, 1) := by decide +kernel
theorem dJ0_indexOf_7cf53_28 : decode cJ0_indexOf_7cf53 28 = .ok (.iload_n 2, 1) := by decide +kernel
theorem dJ0_indexOf_7cf53_29 : decode cJ0_indexOf_7cf53 29 = .ok (.aload_n 0, 1) := by decide +kernel
theorem dJ0_indexOf_7cf53_30 : decode cJ0_indexOf_7cf53 30 = .ok (.invokevirtual 505, 3) := by decide +kernel
theorem dJ0_indexOf_7cf53_33 : decode cJ0_indexOf_7cf53 33 = .ok (.invokestatic 640, 3) := by decide +kernel
theorem dJ0_indexOf_7cf53_36 : decode cJ0_indexOf_7cf53 36 = .ok (.ireturn, 1) := by decide +kernel
theorem dJ1_indexOf_4cfef_0 : decode cJ1_indexOf_4cfef 0 = .ok (.iload_n 1, 1) := by decide +kernel
theorem dJ1_indexOf_4cfef_1 : decode cJ1_indexOf_4cfef 1 = .ok (.invokestatic 88, 3) := by decide +kernel
theorem dJ1_indexOf_4cfef_4 : decode cJ1_indexOf_4cfef 4 = .ok (.ifCond .ne 5, 3) := by decide +kernel
theorem dJ1_indexOf_4cfef_7 : decode cJ1_indexOf_4cfef 7 = .ok (.iconst (-1), 1) := by decide +kernel
theorem dJ1_indexOf_4cfef_8 : decode cJ1_indexOf_4cfef 8 = .ok (.ireturn, 1) := by decide +kernel
theorem dJ1_indexOf_4cfef_9 : decode cJ1_indexOf_4cfef 9 = .ok (.iload_n 2, 1) := by decide +kernel
theorem dJ1_indexOf_4cfef_10 : decode cJ1_indexOf_4cfef 10 = .ok (.iconst 0, 1) := by decide +kernel
theorem dJ1_indexOf_4cfef_11 : decode cJ1_indexOf_4cfef 11 = .ok (.invokestatic 92, 3) := by decide +kernel
theorem dJ1_indexOf_4cfef_14 : decode cJ1_indexOf_4cfef 14 = .ok (.istore_n 2, 1) := by decide +kernel
theorem dJ1_indexOf_4cfef_15 : decode cJ1_indexOf_4cfef 15 = .ok (.iload_n 3, 1) := by decide +kernel
theorem dJ1_indexOf_4cfef_16 : decode cJ1_indexOf_4cfef 16 = .ok (.aload_n 0, 1) := by decide +kernel
theorem dJ1_indexOf_4cfef_17 : decode cJ1_indexOf_4cfef 17 = .ok (.arraylength, 1) := by decide +kernel
theorem dJ1_indexOf_4cfef_18 : decode cJ1_indexOf_4cfef 18 = .ok (.invokestatic 38, 3) := by decide +kernel
theorem dJ1_indexOf_4cfef_21 : decode cJ1_indexOf_4cfef 21 = .ok (.istore_n 3, 1) := by decide +kernel
theorem dJ1_indexOf_4cfef_22 : decode cJ1_indexOf_4cfef 22 = .ok (.iload_n 2, 1) := by decide +kernel
theorem dJ1_indexOf_4cfef_23 : decode cJ1_indexOf_4cfef 23 = .ok (.iload_n 3, 1) := by decide +kernel
theorem dJ1_indexOf_4cfef_24 : decode cJ1_indexOf_4cfef 24 = .ok (.if_icmp .lt 5, 3) := by decide +kernel
theorem dJ1_indexOf_4cfef_27 : decode cJ1_indexOf_4cfef 27 = .ok (.iconst (-1), 1) := by decide +kernel
theorem dJ1_indexOf_4cfef_28 : decode cJ1_indexOf_4cfef 28 = .ok (.ireturn, 1) := by decide +kernel
theorem dJ1_indexOf_4cfef_29 : decode cJ1_indexOf_4cfef 29 = .ok (.aload_n 0, 1) := by decide +kernel
theorem dJ1_indexOf_4cfef_30 : decode cJ1_indexOf_4cfef 30 = .ok (.iload_n 1, 1) := by decide +kernel
theorem dJ1_indexOf_4cfef_31 : decode cJ1_indexOf_4cfef 31 = .ok (.iload_n 2, 1) := by decide +kernel
theorem dJ1_indexOf_4cfef_32 : decode cJ1_indexOf_4cfef 32 = .ok (.iload_n 3, 1) := by decide +kernel
theorem dJ1_indexOf_4cfef_33 : decode cJ1_indexOf_4cfef 33 = .ok (.invokestatic 95, 3) := by decide +kernel
theorem dJ1_indexOf_4cfef_36 : decode cJ1_indexOf_4cfef 36 = .ok (.ireturn, 1) := by decide +kernel
theorem dJ1_canEncode_9a6ad_0 : decode cJ1_canEncode_9a6ad 0 = .ok (.iload_n 0, 1) := by decide +kernel
theorem dJ1_canEncode_9a6ad_1 : decode cJ1_canEncode_9a6ad 1 = .ok (.ifCond .lt 14, 3) := by decide +kernel
theorem dJ1_canEncode_9a6ad_4 : decode cJ1_canEncode_9a6ad 4 = .ok (.iload_n 0, 1) := by decide +kernel
theorem dJ1_canEncode_9a6ad_5 : decode cJ1_canEncode_9a6ad 5 = .ok (.sipush 255, 3) := by decide +kernel
theorem dJ1_canEncode_9a6ad_8 : decode cJ1_canEncode_9a6ad 8 = .ok (.if_icmp .gt 7, 3) := by decide +kernel
theorem dJ1_canEncode_9a6ad_11 : decode cJ1_canEncode_9a6ad 11 = .ok (.iconst 1, 1) := by decide +kernel
theorem dJ1_canEncode_9a6ad_12 : decode cJ1_canEncode_9a6ad 12 = .ok (.goto 4, 3) := by decide +kernel
theorem dJ1_canEncode_9a6ad_15 : decode cJ1_canEncode_9a6ad 15 = .ok (.iconst 0, 1) := by decide +kernel
theorem dJ1_canEncode_9a6ad_16 : decode cJ1_canEncode_9a6ad 16 = .ok (.ireturn, 1) := by decide +kernel
theorem dJ1_indexOfChar_4cfef_0 : decode cJ1_indexOfChar_4cfef 0 = .ok (.iload_n 1, 1) := by decide +kernel
theorem dJ1_indexOfChar_4cfef_1 : decode cJ1_indexOfChar_4cfef 1 = .ok (.i2b, 1) := by decide +kernel
theorem dJ1_indexOfChar_4cfef_2 : decode cJ1_indexOfChar_4cfef 2 = .ok (.istore 4, 2) := by decide +kernel
theorem dJ1_indexOfChar_4cfef_4 : decode cJ1_indexOfChar_4cfef 4 = .ok (.iload_n 2, 1) := by decide +kernel
theorem dJ1_indexOfChar_4cfef_5 : decode cJ1_indexOfChar_4cfef 5 = .ok (.istore 5, 2) := by decide +kernel
theorem dJ1_indexOfChar_4cfef_7 : decode cJ1_indexOfChar_4cfef 7 = .ok (.iload 5, 2) := by decide +kernel
theorem dJ1_indexOfChar_4cfef_9 : decode cJ1_indexOfChar_4cfef 9 = .ok (.iload_n 3, 1) := by decide +kernel
theorem dJ1_indexOfChar_4cfef_10 : decode cJ1_indexOfChar_4cfef 10 = .ok (.if_icmp .ge 21, 3) := by decide +kernel
theorem dJ1_indexOfChar_4cfef_13 : decode cJ1_indexOfChar_4cfef 13 = .ok (.aload_n 0, 1) := by decide +kernel
theorem dJ1_indexOfChar_4cfef_14 : decode cJ1_indexOfChar_4cfef 14 = .ok (.iload 5, 2) := by decide +kernel
theorem dJ1_indexOfChar_4cfef_16 : decode cJ1_indexOfChar_4cfef 16 = .ok (.baload, 1) := by decide +kernel
theorem dJ1_indexOfChar_4cfef_17 : decode cJ1_indexOfChar_4cfef 17 = .ok (.iload 4, 2) := by decide +kernel
theorem dJ1_indexOfChar_4cfef_19 : decode cJ1_indexOfChar_4cfef 19 = .ok (.if_icmp .ne 6, 3) := by decide +kernel
theorem dJ1_indexOfChar_4cfef_22 : decode cJ1_indexOfChar_4cfef 22 = .ok (.iload 5, 2) := by decide +kernel
theorem dJ1_indexOfChar_4cfef_24 : decode cJ1_indexOfChar_4cfef 24 = .ok (.ireturn, 1) := by decide +kernel
theorem dJ1_indexOfChar_4cfef_25 : decode cJ1_indexOfChar_4cfef 25 = .ok (.iinc 5 1, 3) := by decide +kernel
theorem dJ1_indexOfChar_4cfef_28 : decode cJ1_indexOfChar_4cfef 28 = .ok (.goto (-21), 3) := by decide +kernel
theorem dJ1_indexOfChar_4cfef_31 : decode cJ1_indexOfChar_4cfef 31 = .ok (.iconst (-1), 1) := by decide +kernel
theorem dJ1_indexOfChar_4cfef_32 : decode cJ1_indexOfChar_4cfef 32 = .ok (.ireturn, 1) := by decide +kernel
theorem ini_S : Cond.initialized "java/lang/String" ∈ lw_big := b1_at 10 rfl rfl
theorem ini_L : Cond.initialized "java/lang/StringLatin1" ∈ lw_big := b1_at 11 rfl rfl
theorem ini_P : Cond.initialized "jdk/internal/util/Preconditions" ∈ lw_big := b1_at 12 rfl rfl
theorem tc_len : CWd yJ0_length_8abf5 cJ0_length_8abf5 1 (some .int) 0 := ⟨b3_at 199 rfl rfl, ini_S, by decide, by decide, by decide +kernel⟩
theorem tc_coder : CWd yJ0_coder_7d493 cJ0_coder_7d493 1 (some .byte) 0 := ⟨b3_at 203 rfl rfl, ini_S, by decide, by decide, by decide +kernel⟩
theorem tc_char : CWd yJ0_charAt_5068e cJ0_charAt_5068e 2 (some .char) 1 := ⟨b3_at 209 rfl rfl, ini_S, by decide, by decide, by decide +kernel⟩
theorem tc_lat : CWd yJ0_isLatin1_aae02 cJ0_isLatin1_aae02 1 (some .boolean) 0 := ⟨b3_at 213 rfl rfl, ini_S, by decide, by decide, by decide +kernel⟩
theorem tc_lchar : CWd yJ1_charAt_3b067 cJ1_charAt_3b067 2 (some .char) 2 := ⟨b3_at 216 rfl rfl, ini_L, by decide, by decide, by decide +kernel⟩
theorem tc_chk : CWd yJ0_checkIndex_df160 cJ0_checkIndex_df160 2 none 2 := ⟨b3_at 219 rfl rfl, ini_S, by decide, by decide, by decide +kernel⟩
theorem tc_pchk : CWd yJ3_checkIndex_8e157 cJ3_checkIndex_8e157 3 (some .int) 3 := ⟨b3_at 224 rfl rfl, ini_P, by decide, by decide, by decide +kernel⟩
theorem tc_ix1 : CWd yJ0_indexOf_0f7a4 cJ0_indexOf_0f7a4 2 (some .int) 1 := ⟨b4_at 19 rfl rfl, ini_S, by decide, by decide, by decide +kernel⟩
theorem tc_ix2 : CWd yJ0_indexOf_7cf53 cJ0_indexOf_7cf53 3 (some .int) 2 := ⟨b4_at 23 rfl rfl, ini_S, by decide, by decide, by decide +kernel⟩
theorem tc_lix : CWd yJ1_indexOf_4cfef cJ1_indexOf_4cfef 4 (some .int) 4 := ⟨b4_at 27 rfl rfl, ini_L, by decide, by decide, by decide +kernel⟩
theorem tc_can : CWd yJ1_canEncode_9a6ad cJ1_canEncode_9a6ad 1 (some .boolean) 1 := ⟨b4_at 30 rfl rfl, ini_L, by decide, by decide, by decide +kernel⟩
theorem tc_lixc : CWd yJ1_indexOfChar_4cfef cJ1_indexOfChar_4cfef 6 (some .int) 4 := ⟨b4_at 35 rfl rfl, ini_L, by decide, by decide, by decide +kernel⟩
theorem t_coder (l : Launch) (D : DT) (x : Nat × Nat × Nat) (h : AH) : CMV l D x yJ0_coder_7d493 cJ0_coder_7d493 1 (some .byte) 0 0 [.ref x.2.1] h (some (.int 0)) := by
  refine CMV.of (by decide) rfl (Nat.le_of_ble_eq_true rfl) (fun X hl C hD hX E hx => ?_)
  subst hl
  subst hD
  show WW X h 0 0 0 [some (.ref x.2.1)] []
  refine r_compact C (b3_at 204 rfl rfl) dJ0_coder_7d493_0 ?_
  refine r_if_eq C dJ0_coder_7d493_3 (by decide) ?_ ⟨13, by decide⟩
  refine r_aload C dJ0_coder_7d493_6 rfl ?_
  refine r_getf C hx.coder (b4_at 169 rfl rfl) dJ0_coder_7d493_7 ?_
  refine s_goto (tgt := 14) C dJ0_coder_7d493_10 (by decide) ?_
  exact r_bret C E rfl dJ0_coder_7d493_14 (Nat.le_refl 0) (Nat.le_refl 0)
theorem t_lat (l : Launch) (D : DT) (x : Nat × Nat × Nat) (h : AH) : CMV l D x yJ0_isLatin1_aae02 cJ0_isLatin1_aae02 1 (some .boolean) 0 0 [.ref x.2.1] h (some (.int 1)) := by
  refine CMV.of (by decide) rfl (Nat.le_of_ble_eq_true rfl) (fun X hl C hD hX E hx => ?_)
  subst hl
  subst hD
  show WW X h 0 0 0 [some (.ref x.2.1)] []
  refine r_compact C (b3_at 204 rfl rfl) dJ0_isLatin1_aae02_0 ?_
  refine r_if_eq C dJ0_isLatin1_aae02_3 (by decide) ?_ ⟨17, by decide⟩
  refine r_aload C dJ0_isLatin1_aae02_6 rfl ?_
  refine r_getf C hx.coder (b4_at 169 rfl rfl) dJ0_isLatin1_aae02_7 ?_
  refine s_if_ne (r := ()) (A := some ()) (B := none) (tgt := 17) C dJ0_isLatin1_aae02_10 (by decide) (if_pos rfl) (fun h => by cases h) (fun _ => ?_)
  refine s_iconst C dJ0_isLatin1_aae02_13 (v := 1) (by decide) ?_
  refine s_goto (tgt := 18) C dJ0_isLatin1_aae02_14 (by decide) ?_
  exact r_bret C E rfl dJ0_isLatin1_aae02_18 (Nat.le_refl 0) (Nat.le_refl 0)
theorem t_len (l : Launch) (D : DT) (x : Nat × Nat × Nat) (h : AH) : CMV l D x yJ0_length_8abf5 cJ0_length_8abf5 1 (some .int) 1 20 [.ref x.2.1] h (some (.int (nI (txN x.1)))) := by
  refine CMV.of (by decide) rfl (Nat.le_of_ble_eq_true rfl) (fun X hl C hD hX E hx => ?_)
  subst hl
  subst hD
  show WW X h 0 0 0 [some (.ref x.2.1)] []
  refine r_aload C dJ0_length_8abf5_0 rfl ?_
  refine r_getf C hx.value (b4_at 168 rfl rfl) dJ0_length_8abf5_1 ?_
  refine s_tblen C hx.bytes rfl dJ0_length_8abf5_4 ?_
  refine r_aload C dJ0_length_8abf5_5 rfl ?_
  refine r_callV C hx tc_coder (b3_at 200 rfl rfl) (b3_at 201 rfl rfl) (b3_at 202 rfl rfl) dJ0_length_8abf5_6 (As := []) rfl (t_coder _ _ x h) rfl (Nat.le_of_ble_eq_true rfl) (room_ok hX (by decide) (by decide)) (cell_ok hX (Nat.le_refl 0) (Nat.le_refl 0)) ?_
  refine s_ishr C dJ0_length_8abf5_9 ?_
  have e : nI (txN x.1) >>> ((0 : Int32) &&& 31) = nI (txN x.1) := by
    have hi := hx.1
    generalize x.1 = i at hi
    match i, hi with
    | 0, _ => decide
    | 1, _ => decide
  rw [e]
  exact r_bret C E rfl dJ0_length_8abf5_10 (Nat.le_refl 0) (Nat.le_refl 0)
theorem t_pchk (l : Launch) (D : DT) (x : Nat × Nat × Nat) (h : AH) (i n : Int32) (v : Value) (hv : v.category = 1) (h0 : ¬ i < 0) (h1 : i < n) : CMV l D x yJ3_checkIndex_8e157 cJ3_checkIndex_8e157 3 (some .int) 0 0 [.int i, .int n, v] h (some (.int i)) := by
  refine CMV.of (by decide) (by simp only [List.all_cons, List.all_nil, hv]; rfl) (Nat.le_of_ble_eq_true rfl) (fun X hl C hD hX E hx => ?_)
  subst hl
  subst hD
  show WW X h 0 0 0 [some (.int i), some (.int n), some v] []
  refine s_iload_n C dJ3_checkIndex_8e157_0 rfl ?_
  refine s_if_lt (r := ()) (A := none) (B := some ()) (tgt := 9) C dJ3_checkIndex_8e157_1 (by decide) (if_neg h0) (fun h => by cases h) (fun _ => ?_)
  refine s_iload_n C dJ3_checkIndex_8e157_4 rfl ?_
  refine s_iload_n C dJ3_checkIndex_8e157_5 rfl ?_
  refine s_icmp_lt (r := ()) (A := some ()) (B := none) (tgt := 16) C dJ3_checkIndex_8e157_6 (by decide) (if_pos h1) (fun _ => ?_) (fun h => by cases h)
  refine s_iload_n C dJ3_checkIndex_8e157_16 rfl ?_
  exact r_bret C E rfl dJ3_checkIndex_8e157_17 (Nat.le_refl 0) (Nat.le_refl 0)
theorem t_chk (l : Launch) (D : DT) (x : Nat × Nat × Nat) (h : AH) (i n : Int32) (h0 : ¬ i < 0) (h1 : i < n) : CMV l D x yJ0_checkIndex_df160 cJ0_checkIndex_df160 2 none 1 22 [.int i, .int n] h none := by
  refine CMV.of (by decide) rfl (Nat.le_of_ble_eq_true rfl) (fun X hl C hD hX E hx => ?_)
  subst hl
  subst hD
  show WW X h 0 0 0 [some (.int i), some (.int n)] []
  refine s_iload_n C dJ0_checkIndex_df160_0 rfl ?_
  refine s_iload_n C dJ0_checkIndex_df160_1 rfl ?_
  refine r_siobe C (b3_at 220 rfl rfl) dJ0_checkIndex_df160_2 (fun v hv => ?_)
  refine r_callS C hx tc_pchk (b3_at 222 rfl rfl) (b3_at 223 rfl rfl) dJ0_checkIndex_df160_5 (As := [.int i, .int n, v]) rfl (t_pchk _ _ x h i n v hv h0 h1) rfl (Nat.le_of_ble_eq_true rfl) (room_ok hX (by decide) (by decide)) (cell_ok hX (Nat.le_refl 0) (Nat.le_refl 0)) ?_
  refine s_pop C dJ0_checkIndex_df160_8 c1_i ?_
  exact r_vret C E dJ0_checkIndex_df160_9 (Nat.le_refl 0) (Nat.le_refl 0)
theorem txin {i : Nat} (hi : i < 2) {j : Int32} (h : vp_in j (txN i)) : ¬ j < 0 ∧ j < nI (txN i) := by
  have h0 : ¬ j < 0 := fun q => h (Or.inl q)
  refine ⟨h0, ?_⟩
  have h1 : j.toNatClampNeg < txN i := Nat.not_le.mp fun q => h (Or.inr q)
  have h2 := nn32 j h0
  have h3 : (nI (txN i)).toInt = (txN i : Int) := by
    match i, hi with
    | 0, _ => decide
    | 1, _ => decide
  rw [Int32.lt_iff_toInt_lt, h3, h2]
  omega
theorem txchar : ∀ i, i < 2 → ∀ j, j < txN i → (((txB i j) &&& 255).toUInt32 % 65536).toInt32 = txB i j ∧ narrow .char (.int (txB i j)) = .int (txB i j) := by
  intro i hi
  match i, hi with
  | 0, _ => decide +kernel
  | 1, _ => decide +kernel
theorem t_lchar (l : Launch) (D : DT) (x : Nat × Nat × Nat) (h : AH) (i : Int32) (hi : vp_in i (txN x.1)) : CMV l D x yJ1_charAt_3b067 cJ1_charAt_3b067 2 (some .char) 2 43 [.ref x.2.2, .int i] h (some (.int (txB x.1 i.toNatClampNeg))) := by
  refine CMV.of (by decide) rfl (Nat.le_of_ble_eq_true rfl) (fun X hl C hD hX E hx => ?_)
  subst hl
  subst hD
  obtain ⟨h0, h1⟩ := txin hx.1 hi
  have hc := txchar x.1 hx.1 i.toNatClampNeg (Nat.not_le.mp fun q => hi (Or.inr q))
  show WW X h 0 0 0 [some (.ref x.2.2), some (.int i)] []
  refine s_iload_n C dJ1_charAt_3b067_0 rfl ?_
  refine r_aload C dJ1_charAt_3b067_1 rfl ?_
  refine s_tblen C hx.bytes rfl dJ1_charAt_3b067_2 ?_
  refine r_callS C hx tc_chk (b3_at 217 rfl rfl) (b3_at 218 rfl rfl) dJ1_charAt_3b067_3 (As := [.int i, .int (nI (txN x.1))]) rfl (t_chk _ _ x h i _ h0 h1) rfl (Nat.le_of_ble_eq_true rfl) (room_ok hX (by decide) (by decide)) (cell_ok hX (Nat.le_refl 0) (Nat.le_refl 0)) ?_
  refine r_aload C dJ1_charAt_3b067_6 rfl ?_
  refine s_iload_n C dJ1_charAt_3b067_7 rfl ?_
  refine r_bald C hx.bytes hi rfl dJ1_charAt_3b067_8 ?_
  refine s_sipush C dJ1_charAt_3b067_9 (v := 255) (by decide) ?_
  refine s_iand C dJ1_charAt_3b067_12 ?_
  refine s_i2c C dJ1_charAt_3b067_13 ?_
  rw [hc.1]
  exact r_bret C E hc.2 dJ1_charAt_3b067_14 (Nat.le_refl 0) (Nat.le_refl 0)
theorem t_char (l : Launch) (D : DT) (x : Nat × Nat × Nat) (h : AH) (i : Int32) (hi : vp_in i (txN x.1)) : CMV l D x yJ0_charAt_5068e cJ0_charAt_5068e 2 (some .char) 3 64 [.ref x.2.1, .int i] h (some (.int (txB x.1 i.toNatClampNeg))) := by
  refine CMV.of (by decide) rfl (Nat.le_of_ble_eq_true rfl) (fun X hl C hD hX E hx => ?_)
  subst hl
  subst hD
  have hc := txchar x.1 hx.1 i.toNatClampNeg (Nat.not_le.mp fun q => hi (Or.inr q))
  show WW X h 0 0 0 [some (.ref x.2.1), some (.int i)] []
  refine r_aload C dJ0_charAt_5068e_0 rfl ?_
  refine r_callV C hx tc_lat (b3_at 210 rfl rfl) (b3_at 211 rfl rfl) (b3_at 212 rfl rfl) dJ0_charAt_5068e_1 (As := []) rfl (t_lat _ _ x h) rfl (Nat.le_of_ble_eq_true rfl) (room_ok hX (by decide) (by decide)) (cell_ok hX (Nat.le_refl 0) (Nat.le_refl 0)) ?_
  refine r_if_eq C dJ0_charAt_5068e_4 (by decide) ?_ ⟨16, by decide⟩
  refine r_aload C dJ0_charAt_5068e_7 rfl ?_
  refine r_getf C hx.value (b4_at 168 rfl rfl) dJ0_charAt_5068e_8 ?_
  refine s_iload_n C dJ0_charAt_5068e_11 rfl ?_
  refine r_callS C hx tc_lchar (b3_at 214 rfl rfl) (b3_at 215 rfl rfl) dJ0_charAt_5068e_12 (As := [.ref x.2.2, .int i]) rfl (t_lchar _ _ x h i hi) rfl (Nat.le_of_ble_eq_true rfl) (room_ok hX (by decide) (by decide)) (cell_ok hX (Nat.le_refl 0) (Nat.le_refl 0)) ?_
  exact r_bret C E hc.2 dJ0_charAt_5068e_15 (Nat.le_refl 0) (Nat.le_refl 0)
theorem t_can (l : Launch) (D : DT) (x : Nat × Nat × Nat) (h : AH) (c : Int32) : CMV l D x yJ1_canEncode_9a6ad cJ1_canEncode_9a6ad 1 (some .boolean) 0 0 [.int c] h (some (.int (if c < 0 then 0 else if 255 < c then 0 else 1))) := by
  refine CMV.of (by decide) rfl (Nat.le_of_ble_eq_true rfl) (fun X hl C hD hX E hx => ?_)
  subst hl
  subst hD
  show WW X h 0 0 0 [some (.int c)] []
  refine s_iload_n C dJ1_canEncode_9a6ad_0 rfl ?_
  have k15 : (if c < 0 then (0 : Int32) else if 255 < c then 0 else 1) = 0 → WW X h 0 0 15 [some (.int c)] [] := by
    intro e
    rw [e] at E
    refine s_iconst C dJ1_canEncode_9a6ad_15 (v := 0) (by decide) ?_
    exact r_bret C E rfl dJ1_canEncode_9a6ad_16 (Nat.le_refl 0) (Nat.le_refl 0)
  by_cases h0 : c < 0
  · exact s_if_lt (r := ()) (A := some ()) (B := none) (tgt := 15) C dJ1_canEncode_9a6ad_1 (by decide) (if_pos h0) (fun _ => k15 (if_pos h0)) (fun h => by cases h)
  refine s_if_lt (r := ()) (A := none) (B := some ()) (tgt := 15) C dJ1_canEncode_9a6ad_1 (by decide) (if_neg h0) (fun h => by cases h) (fun _ => ?_)
  refine s_iload_n C dJ1_canEncode_9a6ad_4 rfl ?_
  refine s_sipush C dJ1_canEncode_9a6ad_5 (v := 255) (by decide) ?_
  by_cases h1 : 255 < c
  · exact s_icmp_gt (r := ()) (A := some ()) (B := none) (tgt := 15) C dJ1_canEncode_9a6ad_8 (by decide) (if_pos h1) (fun _ => k15 (by rw [if_neg h0, if_pos h1])) (fun h => by cases h)
  refine s_icmp_gt (r := ()) (A := none) (B := some ()) (tgt := 15) C dJ1_canEncode_9a6ad_8 (by decide) (if_neg h1) (fun h => by cases h) (fun _ => ?_)
  refine s_iconst C dJ1_canEncode_9a6ad_11 (v := 1) (by decide) ?_
  refine s_goto (tgt := 16) C dJ1_canEncode_9a6ad_12 (by decide) ?_
  rw [if_neg h0, if_neg h1] at E
  exact r_bret C E rfl dJ1_canEncode_9a6ad_16 (Nat.le_refl 0) (Nat.le_refl 0)
/-- the search, turn by turn -/
def srx (b : Int32) : Nat → Nat → Int32
  | 0, _ => -1
  | k + 1, j => if txB 1 j = b then nI j else srx b k (j + 1)
theorem srx_ix : ∀ n, n < 256 → srx (nI n).toInt8.toInt32 12 0 = ixS (nI n) := by decide +kernel
theorem ix12 : ∀ j, j < 12 → (nI j).toNatClampNeg = j ∧ ¬ nI j < 0 ∧ ¬ 12 ≤ nI j ∧ nI j + 1 = nI (j + 1) := by decide +kernel
theorem ixS_out {c : Int32} (h : c < 0 ∨ 255 < c) : ixS c = -1 := by
  have hall : ∀ y ∈ txS, ¬ y < 0 ∧ ¬ 255 < y := by decide
  have hn : txS.findIdx? (fun y => y == c) = none := by
    rw [List.findIdx?_eq_none_iff]
    intro y hy
    have := hall y hy
    cases hb : (y == c) with
    | false => rfl
    | true =>
      have := eq_of_beq hb
      subst this
      rcases h with h | h
      · exact absurd h (hall _ hy).1
      · exact absurd h (hall _ hy).2
  unfold ixS
  rw [hn]
theorem ix_in {c : Int32} (h0 : ¬ c < 0) (h1 : ¬ 255 < c) : ∃ n, n < 256 ∧ c = nI n := by
  have h2 := nn32 c h0
  have h3 : c.toInt ≤ 255 := by
    have := Int32.not_lt.mp h1
    have := Int32.le_iff_toInt_le.mp this
    simpa using this
  refine ⟨c.toNatClampNeg, by omega, ?_⟩
  apply Int32.toInt_inj.mp
  rw [h2]
  show _ = (Int32.ofNat _).toInt
  rw [Int32.toInt_ofNat_of_lt (by omega)]
theorem t_lixc (l : Launch) (D : DT) (q t : Nat) (h : AH) (c : Int32) (h0 : ¬ c < 0) (h1 : ¬ 255 < c) : CMV l D (1, q, t) yJ1_indexOfChar_4cfef cJ1_indexOfChar_4cfef 6 (some .int) 0 0 [.ref t, .int c, .int 0, .int 12] h (some (.int (ixS c))) := by
  refine CMV.of (by decide) rfl (Nat.le_of_ble_eq_true rfl) (fun X hl C hD hX E hx => ?_)
  subst hl
  subst hD
  have C : CX X RJ1 cJ1_indexOfChar_4cfef 6 := C
  obtain ⟨n, hn, rfl⟩ := ix_in h0 h1
  rw [← srx_ix n hn] at E
  generalize hb : (nI n).toInt8.toInt32 = b at E
  have loop : ∀ k j, j + k = 12 → RT X (some .int) (some (.int (srx b k j))) h 0 0 → WW X h 0 0 7 [some (.ref t), some (.int (nI n)), some (.int 0), some (.int 12), some (.int b), some (.int (nI j))] [] := by
    intro k
    induction k with
    | zero =>
      intro j hj E
      obtain rfl : j = 12 := by omega
      refine s_iload C dJ1_indexOfChar_4cfef_7 rfl ?_
      refine s_iload_n C dJ1_indexOfChar_4cfef_9 rfl ?_
      refine s_icmp_ge (r := ()) (A := some ()) (B := none) (tgt := 31) C dJ1_indexOfChar_4cfef_10 (by decide) (by decide) (fun _ => ?_) (fun h => by cases h)
      refine s_iconst C dJ1_indexOfChar_4cfef_31 (v := -1) (by decide) ?_
      exact r_bret C E rfl dJ1_indexOfChar_4cfef_32 (Nat.le_refl 0) (Nat.le_refl 0)
    | succ k ih =>
      intro j hj E
      obtain ⟨e1, e2, e3, e4⟩ := ix12 j (by omega)
      refine s_iload C dJ1_indexOfChar_4cfef_7 rfl ?_
      refine s_iload_n C dJ1_indexOfChar_4cfef_9 rfl ?_
      refine s_icmp_ge (r := ()) (A := none) (B := some ()) (tgt := 31) C dJ1_indexOfChar_4cfef_10 (by decide) (if_neg e3) (fun h => by cases h) (fun _ => ?_)
      refine r_aload C dJ1_indexOfChar_4cfef_13 rfl ?_
      refine s_iload C dJ1_indexOfChar_4cfef_14 rfl ?_
      refine r_bald C hx.bytes (v := .int (txB 1 j)) (fun e => by rcases e with e | e; exact e2 e; rw [e1] at e; have : (12 : Nat) ≤ j := e; omega) (by rw [e1]) dJ1_indexOfChar_4cfef_16 ?_
      refine s_iload C dJ1_indexOfChar_4cfef_17 rfl ?_
      unfold srx at E
      by_cases e : txB 1 j = b
      · rw [if_pos e] at E
        refine s_icmp_ne (r := ()) (A := some ()) (B := none) (tgt := 25) C dJ1_indexOfChar_4cfef_19 (by decide) (if_pos e) (fun h => by cases h) (fun _ => ?_)
        refine s_iload C dJ1_indexOfChar_4cfef_22 rfl ?_
        exact r_bret C E rfl dJ1_indexOfChar_4cfef_24 (Nat.le_refl 0) (Nat.le_refl 0)
      · rw [if_neg e] at E
        refine s_icmp_ne (r := ()) (A := none) (B := some ()) (tgt := 25) C dJ1_indexOfChar_4cfef_19 (by decide) (if_neg e) (fun _ => ?_) (fun h => by cases h)
        refine s_iinc C dJ1_indexOfChar_4cfef_25 (v := nI (j + 1)) rfl e4 (by decide) (nc_i rfl) rfl ?_
        refine s_goto (tgt := 7) C dJ1_indexOfChar_4cfef_28 (by decide) ?_
        exact ih (j + 1) (by omega) E
  show WW X h 0 0 0 [some (.ref t), some (.int (nI n)), some (.int 0), some (.int 12), none, none] []
  refine s_iload_n C dJ1_indexOfChar_4cfef_0 rfl ?_
  refine s_i2b C dJ1_indexOfChar_4cfef_1 ?_
  rw [hb]
  refine s_istore C dJ1_indexOfChar_4cfef_2 (by decide) (nc_i rfl) rfl ?_
  refine s_iload_n C dJ1_indexOfChar_4cfef_4 rfl ?_
  refine s_istore C dJ1_indexOfChar_4cfef_5 (by decide) (nc_i rfl) rfl ?_
  exact loop 12 0 rfl E
theorem t_len12 (l : Launch) (D : DT) (q t : Nat) (h : AH) : CMV l D (1, q, t) yJ0_length_8abf5 cJ0_length_8abf5 1 (some .int) 1 20 [.ref q] h (some (.int 12)) := t_len l D (1, q, t) h
theorem t_lix (l : Launch) (D : DT) (q t : Nat) (h : AH) (c : Int32) : CMV l D (1, q, t) yJ1_indexOf_4cfef cJ1_indexOf_4cfef 4 (some .int) 1 25 [.ref t, .int c, .int 0, .int 12] h (some (.int (ixS c))) := by
  refine CMV.of (by decide) rfl (Nat.le_of_ble_eq_true rfl) (fun X hl C hD hX E hx => ?_)
  subst hl
  subst hD
  have C : CX X RJ1 cJ1_indexOf_4cfef 4 := C
  show WW X h 0 0 0 [some (.ref t), some (.int c), some (.int 0), some (.int 12)] []
  refine s_iload_n C dJ1_indexOf_4cfef_0 rfl ?_
  refine r_callS C hx tc_can (b4_at 28 rfl rfl) (b4_at 29 rfl rfl) dJ1_indexOf_4cfef_1 (As := [.int c]) rfl (t_can _ _ (1, q, t) h c) rfl (Nat.le_of_ble_eq_true rfl) (room_ok hX (by decide) (by decide)) (cell_ok hX (Nat.le_refl 0) (Nat.le_refl 0)) ?_
  have out : (c < 0 ∨ 255 < c) → WW X h 0 0 7 [some (.ref t), some (.int c), some (.int 0), some (.int 12)] [] := by
    intro ho
    rw [ixS_out ho] at E
    refine s_iconst C dJ1_indexOf_4cfef_7 (v := -1) (by decide) ?_
    exact r_bret C E rfl dJ1_indexOf_4cfef_8 (Nat.le_refl 0) (Nat.le_refl 0)
  by_cases h0 : c < 0
  · rw [if_pos h0]
    exact s_if_ne (r := ()) (A := some ()) (B := none) (tgt := 9) C dJ1_indexOf_4cfef_4 (by decide) (by decide) (fun h => by cases h) (fun _ => out (Or.inl h0))
  by_cases h1 : 255 < c
  · rw [if_neg h0, if_pos h1]
    exact s_if_ne (r := ()) (A := some ()) (B := none) (tgt := 9) C dJ1_indexOf_4cfef_4 (by decide) (by decide) (fun h => by cases h) (fun _ => out (Or.inr h1))
  rw [if_neg h0, if_neg h1]
  refine s_if_ne (r := ()) (A := none) (B := some ()) (tgt := 9) C dJ1_indexOf_4cfef_4 (by decide) (by decide) (fun _ => ?_) (fun h => by cases h)
  refine s_iload_n C dJ1_indexOf_4cfef_9 rfl ?_
  refine s_iconst C dJ1_indexOf_4cfef_10 (v := 0) (by decide) ?_
  refine s_mmax C (b4_at 31 rfl rfl) wst_mmax wini_math wcd_mmax dJ1_indexOf_4cfef_11 (Nat.le_of_ble_eq_true rfl) (room_n hX (by decide) (by decide)) (cell_ok hX (Nat.le_refl 0) (Nat.le_refl 0)) ?_
  rw [show (if (0 : Int32) < 0 then (0 : Int32) else 0) = 0 by decide]
  refine s_istore_n C dJ1_indexOf_4cfef_14 (by decide) (nc_i rfl) (lv' := [some (.ref t), some (.int c), some (.int 0), some (.int 12)]) rfl ?_
  refine s_iload_n C dJ1_indexOf_4cfef_15 rfl ?_
  refine r_aload C dJ1_indexOf_4cfef_16 rfl ?_
  refine s_tblen C hx.bytes (v := 12) rfl dJ1_indexOf_4cfef_17 ?_
  refine s_mmin C (b4_at 32 rfl rfl) wst_mmin wini_math wcd_mmin dJ1_indexOf_4cfef_18 (Nat.le_of_ble_eq_true rfl) (room_n hX (by decide) (by decide)) (cell_ok hX (Nat.le_refl 0) (Nat.le_refl 0)) ?_
  rw [show (if (12 : Int32) < 12 then (12 : Int32) else 12) = 12 by decide]
  refine s_istore_n C dJ1_indexOf_4cfef_21 (by decide) (nc_i rfl) (lv' := [some (.ref t), some (.int c), some (.int 0), some (.int 12)]) rfl ?_
  refine s_iload_n C dJ1_indexOf_4cfef_22 rfl ?_
  refine s_iload_n C dJ1_indexOf_4cfef_23 rfl ?_
  refine s_icmp_lt (r := ()) (A := some ()) (B := none) (tgt := 29) C dJ1_indexOf_4cfef_24 (by decide) (by decide) (fun _ => ?_) (fun h => by cases h)
  refine r_aload C dJ1_indexOf_4cfef_29 rfl ?_
  refine s_iload_n C dJ1_indexOf_4cfef_30 rfl ?_
  refine s_iload_n C dJ1_indexOf_4cfef_31 rfl ?_
  refine s_iload_n C dJ1_indexOf_4cfef_32 rfl ?_
  refine r_callS C hx tc_lixc (b4_at 33 rfl rfl) (b4_at 34 rfl rfl) dJ1_indexOf_4cfef_33 (As := [.ref t, .int c, .int 0, .int 12]) rfl (t_lixc _ _ q t h c h0 h1) rfl (Nat.le_of_ble_eq_true rfl) (room_ok hX (by decide) (by decide)) (cell_ok hX (Nat.le_refl 0) (Nat.le_refl 0)) ?_
  exact r_bret C E rfl dJ1_indexOf_4cfef_36 (Nat.le_refl 0) (Nat.le_refl 0)
theorem t_ix2 (l : Launch) (D : DT) (q t : Nat) (h : AH) (c : Int32) : CMV l D (1, q, t) yJ0_indexOf_7cf53 cJ0_indexOf_7cf53 3 (some .int) 2 48 [.ref q, .int c, .int 0] h (some (.int (ixS c))) := by
  refine CMV.of (by decide) rfl (Nat.le_of_ble_eq_true rfl) (fun X hl C hD hX E hx => ?_)
  subst hl
  subst hD
  have C : CX X RJ0 cJ0_indexOf_7cf53 3 := C
  show WW X h 0 0 0 [some (.ref q), some (.int c), some (.int 0)] []
  refine r_aload C dJ0_indexOf_7cf53_0 rfl ?_
  refine r_callV C hx tc_lat (b3_at 210 rfl rfl) (b3_at 211 rfl rfl) (b3_at 212 rfl rfl) dJ0_indexOf_7cf53_1 (As := []) rfl (t_lat _ _ (1, q, t) h) rfl (Nat.le_of_ble_eq_true rfl) (room_ok hX (by decide) (by decide)) (cell_ok hX (Nat.le_refl 0) (Nat.le_refl 0)) ?_
  refine r_if_eq C dJ0_indexOf_7cf53_4 (by decide) ?_ ⟨23, by decide⟩
  refine r_aload C dJ0_indexOf_7cf53_7 rfl ?_
  refine r_getf C hx.value (b4_at 168 rfl rfl) dJ0_indexOf_7cf53_8 ?_
  refine s_iload_n C dJ0_indexOf_7cf53_11 rfl ?_
  refine s_iload_n C dJ0_indexOf_7cf53_12 rfl ?_
  refine r_aload C dJ0_indexOf_7cf53_13 rfl ?_
  refine r_callV C hx tc_len (b4_at 24 rfl rfl) (b3_at 197 rfl rfl) (b3_at 198 rfl rfl) dJ0_indexOf_7cf53_14 (As := []) rfl (t_len12 _ _ q t h) rfl (Nat.le_of_ble_eq_true rfl) (room_ok hX (by decide) (by decide)) (cell_ok hX (Nat.le_refl 0) (Nat.le_refl 0)) ?_
  refine r_callS C hx tc_lix (b4_at 25 rfl rfl) (b4_at 26 rfl rfl) dJ0_indexOf_7cf53_17 (As := [.ref t, .int c, .int 0, .int 12]) rfl (t_lix _ _ q t h c) rfl (Nat.le_of_ble_eq_true rfl) (room_ok hX (by decide) (by decide)) (cell_ok hX (Nat.le_refl 0) (Nat.le_refl 0)) ?_
  refine s_goto (tgt := 36) C dJ0_indexOf_7cf53_20 (by decide) ?_
  exact r_bret C E rfl dJ0_indexOf_7cf53_36 (Nat.le_refl 0) (Nat.le_refl 0)
theorem t_ix1 (l : Launch) (D : DT) (q t : Nat) (h : AH) (c : Int32) : CMV l D (1, q, t) yJ0_indexOf_0f7a4 cJ0_indexOf_0f7a4 2 (some .int) 3 70 [.ref q, .int c] h (some (.int (ixS c))) := by
  refine CMV.of (by decide) rfl (Nat.le_of_ble_eq_true rfl) (fun X hl C hD hX E hx => ?_)
  subst hl
  subst hD
  have C : CX X RJ0 cJ0_indexOf_0f7a4 2 := C
  show WW X h 0 0 0 [some (.ref q), some (.int c)] []
  refine r_aload C dJ0_indexOf_0f7a4_0 rfl ?_
  refine s_iload_n C dJ0_indexOf_0f7a4_1 rfl ?_
  refine s_iconst C dJ0_indexOf_0f7a4_2 (v := 0) (by decide) ?_
  refine r_callV C hx tc_ix2 (b4_at 20 rfl rfl) (b4_at 21 rfl rfl) (b4_at 22 rfl rfl) dJ0_indexOf_0f7a4_3 (As := [.int c, .int 0]) rfl (t_ix2 _ _ q t h c) rfl (Nat.le_of_ble_eq_true rfl) (room_ok hX (by decide) (by decide)) (cell_ok hX (Nat.le_refl 0) (Nat.le_refl 0)) ?_
  exact r_bret C E rfl dJ0_indexOf_0f7a4_6 (Nat.le_refl 0) (Nat.le_refl 0)
theorem stT.tx {i q b : Nat} {U : State} (hi : i < 2) (h : stT i q b U) : ∃ t, tx (i, q, t) b U := by
  obtain ⟨aK, aV, h1, h2⟩ := h
  exact ⟨aV i, hi, aK, aV, h1, h2, rfl⟩
section TEXTS3
variable {X : XT} {own : String} {cc : ByteArray} {nL pc cells slots : Nat} {h : AH} {lv lv' : List (Option Value)} {st : List Value} {ρ : Type} {r : ρ}
theorem s_strlen (C : CX X own cc nL) {idx q : Nat} (hq : stT 0 q (xD X).1 (xs X)) (w : Cond.methodLink own idx ⟨"java/lang/String", "length", "()I"⟩ ∈ lw_big) (d : decode cc pc = .ok (.invokevirtual idx, 3)) (hst : st.length ≤ 4) (hroom : 8 ≤ (xR X).frames ∧ 200 ≤ (xR X).locals) (hcl : cells ≤ (xR X).cells ∧ slots ≤ (xR X).slots) (kk : WW X h cells slots (pc + 3) lv (.int 78 :: st)) : WW X h cells slots pc lv (.ref q :: st) := by
  obtain ⟨t, hx⟩ := hq.tx (by decide)
  exact r_callV C hx tc_len w (b3_at 197 rfl rfl) (b3_at 198 rfl rfl) d (As := []) rfl (t_len _ _ (0, q, t) h) rfl hst ⟨by omega, by omega⟩ hcl kk
theorem s_strchar (C : CX X own cc nL) {idx q : Nat} (hq : stT 0 q (xD X).1 (xs X)) (w : Cond.methodLink own idx ⟨"java/lang/String", "charAt", "(I)C"⟩ ∈ lw_big) (d : decode cc pc = .ok (.invokevirtual idx, 3)) {i : Int32} {K : Int32 → Option ρ} (hf : tbI txW i K = some r) (hst : st.length ≤ 4) (hroom : 8 ≤ (xR X).frames ∧ 200 ≤ (xR X).locals) (hcl : cells ≤ (xR X).cells ∧ slots ≤ (xR X).slots) (kk : ∀ v, K v = some r → WW X h cells slots (pc + 3) lv (.int v :: st)) : WW X h cells slots pc lv (.int i :: .ref q :: st) := by
  obtain ⟨t, hx⟩ := hq.tx (by decide)
  unfold tbI at hf
  split at hf
  · cases hf
  · rename_i hin
    exact r_callV C hx tc_char w (b3_at 207 rfl rfl) (b3_at 208 rfl rfl) d (As := [.int i]) rfl (t_char _ _ (0, q, t) h i hin) rfl hst ⟨by omega, by omega⟩ hcl (kk _ hf)
theorem s_stridx (C : CX X own cc nL) {idx q : Nat} (hq : stT 1 q (xD X).1 (xs X)) (w : Cond.methodLink own idx ⟨"java/lang/String", "indexOf", "(I)I"⟩ ∈ lw_big) (d : decode cc pc = .ok (.invokevirtual idx, 3)) {x : Int32} (hst : st.length ≤ 4) (hroom : 8 ≤ (xR X).frames ∧ 200 ≤ (xR X).locals) (hcl : cells ≤ (xR X).cells ∧ slots ≤ (xR X).slots) (kk : WW X h cells slots (pc + 3) lv (.int (ixS x) :: st)) : WW X h cells slots pc lv (.int x :: .ref q :: st) := by
  obtain ⟨t, hx⟩ := hq.tx (by decide)
  exact r_callV C hx tc_ix1 w (b4_at 17 rfl rfl) (b4_at 18 rfl rfl) d (As := [.int x]) rfl (t_ix1 _ _ q t h x) rfl hst ⟨by omega, by omega⟩ hcl kk
end TEXTS3
