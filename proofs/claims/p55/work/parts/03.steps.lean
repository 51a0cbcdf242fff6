/-! ONE INSTRUCTION, ONE ROW, over the heap in plain numbers -/
abbrev XT : Type := (Program × Launch × Env × Room × State) × (MethodId × Array Value × List Frame × Method × Code) × DT × (State → Prop)
abbrev xs (X : XT) : State := X.1.2.2.2.2
abbrev xR (X : XT) : Room := X.1.2.2.2.1
abbrev xm (X : XT) : MethodId := X.2.1.1
abbrev xa (X : XT) : Array Value := X.2.1.2.1
abbrev xM (X : XT) : Method := X.2.1.2.2.2.1
abbrev xc (X : XT) : Code := X.2.1.2.2.2.2
abbrev xD (X : XT) : DT := X.2.2.1
abbrev WX (X : XT) (H : Heap) (locs : List Loc) (cells slots : Nat) (g : JFrame) : Prop := W X.1.1 X.1.2.1 X.1.2.2.1 X.1.2.2.2.1 X.1.2.2.2.2 X.2.1.1 X.2.1.2.1 X.2.1.2.2.1 X.2.1.2.2.2.1 X.2.1.2.2.2.2 H locs cells slots X.2.2.2 g
def LV (ls : Array Slot) (nL : Nat) (lv : List (Option Value)) : Prop := ls.size = nL ∧ lv_wf ls ∧ ∀ (i : Nat) (v : Value), lv[i]? = some (some v) → ls[i]? = some (.val v)
def WW (X : XT) (h : AH) (cells slots pc : Nat) (lv : List (Option Value)) (st : List Value) : Prop :=
  ∀ (H : Heap) (locs : List Loc) (ls : Array Slot), RepH (xD X) h H → va_S (fun q => (xD X).1 ≤ q) (xs X).heap H locs → LV ls (xc X).maxLocals lv → WX X H locs cells slots (F0 (xm X) pc ls st)
/-- the words beside the tables' good ones: nest mates' links, casts -/
def xtraB : Cond → Bool
  | .methodLinkNest .. => true
  | .fieldLinkNest .. => true
  | .castable .. => true
  | _ => false
def xtraW : List Cond := lw_tbl.filter xtraB
theorem xtra_at {w : Cond} (i : Nat) (h : tables_1[i]? = some w) (hg : xtraB w = true) : w ∈ xtraW := List.mem_filter.mpr ⟨List.mem_append_right _ (List.mem_of_getElem? h), hg⟩
/-- what the Statement gives of the start beside the words: classes that aren't castable, arrays of references -/
def KG (U : State) : Prop := (∀ w ∈ xtraW, va_Nw w U) ∧ (∀ i, i ∈ [1, 2] → ∀ j, j ∈ [1, 2, 9] → i ≠ j → va_Nc (RXX i) (RXX j) U) ∧ va_AO "HillBoxes$Body" U ∧ va_AO "HillBoxes$Box" U ∧ va_AO "HillBoxes$Shelf" U
theorem KG.warm {s U : State} (hW : s.WarmedH U.vm) (h : KG s) : KG U := by
  refine ⟨fun w hw => ?_, fun i hi j hj hne => (h.2.1 i hi j hj hne).moved hW.alike, h.2.2.1.moved hW.alike, h.2.2.2.1.moved hW.alike, h.2.2.2.2.moved hW.alike⟩
  have hz := h.1 w hw
  have hg := (List.mem_filter.mp hw).2
  cases w <;> first | exact va_Nw.warmM hW hz | exact va_Nw.warmF hW hz | exact va_Nw.warmC hW hz | cases hg
/-- constants of the classes: arrays of numbers, two texts; each at cells below the picture -/
def tbUN : List Int32 := [2, 1, 1, 0, 1]
def txW : List Int32 := [100, 97, 121, 32, 107, 105, 110, 100, 32, 111, 119, 110, 32, 115, 105, 110, 99, 101, 32, 97, 103, 101, 32, 102, 105, 110, 100, 115, 32, 109, 105, 115, 115, 101, 115, 32, 104, 111, 117, 114, 32, 104, 111, 109, 101, 32, 112, 97, 112, 101, 114, 32, 109, 105, 110, 101, 32, 111, 114, 32, 97, 110, 100, 32, 110, 111, 116, 32, 105, 102, 32, 117, 110, 108, 101, 115, 115, 32]
def txS : List Int32 := [59, 58, 60, 62, 61, 43, 45, 42, 47, 37, 40, 41]
def stI (C n : String) (tb : List Int32) (b : Nat) (U : State) : Prop := ∃ t : Nat, va_Z C n "[I" (.ref t) (fun q => b ≤ q) U U.heap ∧ va_T .int t tb.length (fun j => .int (tb.getD j 0)) (fun q => b ≤ q) U U.heap
def stL (C n : String) (tb : List Int64) (b : Nat) (U : State) : Prop := ∃ t : Nat, va_Z C n "[J" (.ref t) (fun q => b ≤ q) U U.heap ∧ va_T .long t tb.length (fun j => .long (tb.getD j 0)) (fun q => b ≤ q) U U.heap
def stS (b : Nat) (U : State) : Prop := (∃ adK adV : Nat → Nat, vk_S 2 [78, 12] [txW, txS] adK adV (fun q => b ≤ q) U U.heap ∧ vk_R "HillBoxes$Tape" 121 "day kind own since age finds misses hour home paper mine or and not if unless " (adK 0) U ∧ vk_R "HillBoxes$Tape" 110 ";:<>=+-*/%()" (adK 1) U) ∧ va_Z "java/lang/String" "COMPACT_STRINGS" "Z" (.int 1) (fun q => b ≤ q) U U.heap ∧ va_Zq "jdk/internal/util/Preconditions" "SIOOBE_FORMATTER" "Ljava/util/function/BiFunction;" (fun q => b ≤ q) U U.heap
def KS (b : Nat) (U : State) : Prop := stI "HillBoxes$Rules" "UNRULED" tbUN b U ∧ stS b U
theorem stI.moved {C n : String} {tb : List Int32} {b : Nat} {u U : State} (hW : u.vm.Alike U.vm) (hq : ∀ a : Nat, a < u.heap.size → ¬ b ≤ a → U.heap[a]? = u.heap[a]?) (h : stI C n tb b u) : stI C n tb b U := by
  obtain ⟨t, h1, h2⟩ := h
  exact ⟨t, (h1.moved hW).kept hq, (h2.moved hW).kept hq⟩
theorem stL.moved {C n : String} {tb : List Int64} {b : Nat} {u U : State} (hW : u.vm.Alike U.vm) (hq : ∀ a : Nat, a < u.heap.size → ¬ b ≤ a → U.heap[a]? = u.heap[a]?) (h : stL C n tb b u) : stL C n tb b U := by
  obtain ⟨t, h1, h2⟩ := h
  exact ⟨t, (h1.moved hW).kept hq, (h2.moved hW).kept hq⟩
theorem KS.moved {b : Nat} {u U : State} (hW : u.WarmedH U.vm) (hq : ∀ a : Nat, a < u.heap.size → ¬ b ≤ a → U.heap[a]? = u.heap[a]?) (h : KS b u) : KS b U := by
  obtain ⟨h1, ⟨aK, aV, h7, h8, h9⟩, h10, h11⟩ := h
  have hA := hW.alike
  exact ⟨h1.moved hA hq, ⟨aK, aV, (h7.moved hA).kept hq, vk_R.warm hW h8, vk_R.warm hW h9⟩, (h10.moved hA).kept hq, (h11.moved hA).kept hq⟩
theorem KS.same {b : Nat} {u U : State} (hv : U.vm = u.vm) (hh : U.heap = u.heap) (h : KS b u) : KS b U := by
  obtain ⟨h1, ⟨aK, aV, h7, h8, h9⟩, h10, h11⟩ := h
  have hA : u.vm.Alike U.vm := hv ▸ Vm.Alike.refl _
  have hq : ∀ a : Nat, a < u.heap.size → ¬ b ≤ a → U.heap[a]? = u.heap[a]? := fun _ _ _ => by rw [hh]
  exact ⟨h1.moved hA hq, ⟨aK, aV, (h7.moved hA).kept hq, vk_R.same hv h8, vk_R.same hv h9⟩, (h10.moved hA).kept hq, (h11.moved hA).kept hq⟩
theorem KG.same {s U : State} (hv : U.vm = s.vm) (h : KG s) : KG U := by
  have hA : s.vm.Alike U.vm := hv ▸ Vm.Alike.refl _
  refine ⟨fun w hw => ?_, fun i hi j hj hne => (h.2.1 i hi j hj hne).moved hA, h.2.2.1.moved hA, h.2.2.2.1.moved hA, h.2.2.2.2.moved hA⟩
  have hz := h.1 w hw
  have hg := (List.mem_filter.mp hw).2
  cases w <;> first | exact va_Nw.same rfl hv.symm hz | cases hg
/-- the walk's standing facts: the machine's code, the class, the words, the classes' facts -/
def CX (X : XT) (own : String) (cc : ByteArray) (nL : Nat) : Prop :=
  X.1.1.tables.exec = Jvm.exec ∧ (xc X).code = cc ∧ (xc X).maxLocals = nL ∧ (xs X).vm.findClass own = some (xm X).cls ∧ (∀ w ∈ lw_big, w.before (xa X) (xs X) = true) ∧ KC (xD X) (xs X) ∧ KG (xs X) ∧ (xD X).1 ≤ (xs X).heap.size ∧ (xM X).locks = false ∧ KS (xD X).1 (xs X)
section STEPS
variable {X : XT} {own : String} {cc : ByteArray} {nL pc cells slots : Nat} {h : AH} {lv lv' : List (Option Value)} {st : List Value} {ρ : Type} {r : ρ}
/-- the place ahead holds no long -/
def nc (lv : List (Option Value)) (n : Nat) : Prop := ∀ w, lv[n - 1]? = some (some w) → n = 0 ∨ w.category = 1
theorem nc_0 {lv : List (Option Value)} : nc lv 0 := fun _ _ => Or.inl rfl
theorem nc_i {lv : List (Option Value)} {n : Nat} {x : Int32} (e : lv[n - 1]? = some (some (.int x))) : nc lv n := fun w hw => by rw [e] at hw; cases hw; exact Or.inr rfl
theorem rB_cat (b : Nat) (r : Option Nat) : (rB b r).category = 1 := by cases r <;> rfl
theorem nc_r {lv : List (Option Value)} {n b : Nat} {x : Option Nat} (e : lv[n - 1]? = some (some (rB b x))) : nc lv n := fun w hw => by rw [e] at hw; cases hw; exact Or.inr (rB_cat b x)
theorem nc_n {lv : List (Option Value)} {n : Nat} (e : lv[n - 1]? = some none) : nc lv n := fun w hw => by rw [e] at hw; cases hw
theorem LV.set1 {ls : Array Slot} {v : Value} {i : Nat} (hl : LV ls nL lv) (hi : i < nL) (hc : v.category = 1) (hn : nc lv i) :
    ∃ ls', storeLocals ls i v = some ls' ∧ LV ls' nL (lv.set i (some v)) := by
  have hP : ∀ q ∈ (List.range lv.length).filterMap (fun j => (lv[j]?.bind id).map (fun w => (j, w))), ls[q.1]? = some (.val q.2) := by
    intro q hq
    obtain ⟨j, -, hj⟩ := List.mem_filterMap.mp hq
    cases e : lv[j]? with
    | none => simp [e] at hj
    | some x =>
      cases x with
      | none => simp [e] at hj
      | some w =>
        simp [e] at hj
        subst hj
        exact hl.2.2 j w e
  obtain ⟨ls', h1, h2, h3, h4⟩ := lv_store1 (l := (List.range lv.length).filterMap (fun j => (lv[j]?.bind id).map (fun w => (j, w)))) ⟨hl.1, hl.2.1, hP⟩ hi hc
  refine ⟨ls', h1, h2, h3, fun j w hj => ?_⟩
  by_cases e : j = i
  · subst e
    by_cases hlt : j < lv.length
    · rw [List.getElem?_set_self hlt] at hj
      cases hj
      exact h4 (j, v) List.mem_cons_self
    · rw [List.getElem?_eq_none (by rw [List.length_set]; omega)] at hj
      cases hj
  · rw [List.getElem?_set_ne (Ne.symm e)] at hj
    refine h4 (j, w) (List.mem_cons_of_mem _ (List.mem_filter.mpr ⟨List.mem_filterMap.mpr ⟨j, List.mem_range.mpr (List.getElem?_eq_some_iff.mp hj).1, by simp [hj]⟩, ?_⟩))
    have h5 : ¬ (j + 1 = i ∧ w.category = 2) := fun q => by
      obtain ⟨q1, q2⟩ := q
      subst q1
      rcases hn w (by simpa using hj) with z | z <;> omega
    simp only [Bool.and_eq_true, Bool.not_eq_true', beq_eq_false_iff_ne, ne_eq, Bool.and_eq_false_iff]
    refine ⟨e, ?_⟩
    by_cases e1 : j + 1 = i
    · exact Or.inr fun q => h5 ⟨e1, q⟩
    · exact Or.inl e1
theorem LV.set2 {ls : Array Slot} {v : Value} {i : Nat} (hl : LV ls nL lv) (hi : i + 1 < nL) (hc : v.category = 2) (hn : nc lv i) :
    ∃ ls', storeLocals ls i v = some ls' ∧ LV ls' nL ((lv.set i (some v)).set (i + 1) none) := by
  have hP : ∀ q ∈ (List.range lv.length).filterMap (fun j => (lv[j]?.bind id).map (fun w => (j, w))), ls[q.1]? = some (.val q.2) := by
    intro q hq
    obtain ⟨j, -, hj⟩ := List.mem_filterMap.mp hq
    cases e : lv[j]? with
    | none => simp [e] at hj
    | some x =>
      cases x with
      | none => simp [e] at hj
      | some w =>
        simp [e] at hj
        subst hj
        exact hl.2.2 j w e
  obtain ⟨ls', h1, h2, h3, h4⟩ := lv_store2 (l := (List.range lv.length).filterMap (fun j => (lv[j]?.bind id).map (fun w => (j, w)))) ⟨hl.1, hl.2.1, hP⟩ hi hc
  refine ⟨ls', h1, h2, h3, fun j w hj => ?_⟩
  by_cases e2 : j = i + 1
  · subst e2
    by_cases hlt : i + 1 < (lv.set i (some v)).length
    · rw [List.getElem?_set_self hlt] at hj
      cases hj
    · rw [List.getElem?_eq_none (by rw [List.length_set]; omega)] at hj
      cases hj
  rw [List.getElem?_set_ne (Ne.symm e2)] at hj
  by_cases e : j = i
  · subst e
    by_cases hlt : j < lv.length
    · rw [List.getElem?_set_self hlt] at hj
      cases hj
      exact h4 (j, v) List.mem_cons_self
    · rw [List.getElem?_eq_none (by rw [List.length_set]; omega)] at hj
      cases hj
  · rw [List.getElem?_set_ne (Ne.symm e)] at hj
    refine h4 (j, w) (List.mem_cons_of_mem _ (List.mem_filter.mpr ⟨List.mem_filterMap.mpr ⟨j, List.mem_range.mpr (List.getElem?_eq_some_iff.mp hj).1, by simp [hj]⟩, ?_⟩))
    have h5 : ¬ (j + 1 = i ∧ w.category = 2) := fun q => by
      obtain ⟨q1, q2⟩ := q
      subst q1
      rcases hn w (by simpa using hj) with z | z <;> omega
    simp only [Bool.and_eq_true, Bool.not_eq_true', beq_eq_false_iff_ne, ne_eq, Bool.and_eq_false_iff]
    refine ⟨e, e2, ?_⟩
    by_cases e1 : j + 1 = i
    · exact Or.inr fun q => h5 ⟨e1, q⟩
    · exact Or.inl e1
-- registers
theorem s_iconst (C : CX X own cc nL) {n : Int} {v : Int32} (d : decode cc pc = .ok (.iconst n, 1)) (hv : Int32.ofInt n = v) (k : WW X h cells slots (pc + 1) lv (.int v :: st)) : WW X h cells slots pc lv st :=
  fun H locs ls hR hS hl => lv_iconst C.1 C.2.1 d hv (k H locs ls hR hS hl)
theorem s_bipush (C : CX X own cc nL) {n : Int} {v : Int32} (d : decode cc pc = .ok (.bipush n, 2)) (hv : (Int8.ofInt n).toInt32 = v) (k : WW X h cells slots (pc + 2) lv (.int v :: st)) : WW X h cells slots pc lv st :=
  fun H locs ls hR hS hl => lv_bipush C.1 C.2.1 d hv (k H locs ls hR hS hl)
theorem s_sipush (C : CX X own cc nL) {n : Int} {v : Int32} (d : decode cc pc = .ok (.sipush n, 3)) (hv : (Int16.ofInt n).toInt32 = v) (k : WW X h cells slots (pc + 3) lv (.int v :: st)) : WW X h cells slots pc lv st :=
  fun H locs ls hR hS hl => lv_sipush C.1 C.2.1 d hv (k H locs ls hR hS hl)
theorem s_ldc (C : CX X own cc nL) {i : Nat} {v : Int32} (d : decode cc pc = .ok (.ldc i, 2)) (hw : Cond.constant own i v ∈ lw_big) (k : WW X h cells slots (pc + 2) lv (.int v :: st)) : WW X h cells slots pc lv st :=
  fun H locs ls hR hS hl => lv_ldc C.1 C.2.1 C.2.2.2.1 (C.2.2.2.2.1 _ hw) d (k H locs ls hR hS hl)
theorem s_ldc2 (C : CX X own cc nL) {i : Nat} {v : Int64} (d : decode cc pc = .ok (.ldc2_w i, 3)) (hw : Cond.constantLong own i v ∈ lw_big) (k : WW X h cells slots (pc + 3) lv (.long v :: st)) : WW X h cells slots pc lv st :=
  fun H locs ls hR hS hl => lv_ldc2 C.1 C.2.1 C.2.2.2.1 (C.2.2.2.2.1 _ hw) d (k H locs ls hR hS hl)
theorem s_lconst (C : CX X own cc nL) {n : Fin 2} {v : Int64} (d : decode cc pc = .ok (.lconst n, 1)) (hv : Int64.ofNat (n : Nat) = v) (k : WW X h cells slots (pc + 1) lv (.long v :: st)) : WW X h cells slots pc lv st :=
  fun H locs ls hR hS hl => lv_lconst C.1 C.2.1 d hv (k H locs ls hR hS hl)
theorem s_null (C : CX X own cc nL) (d : decode cc pc = .ok (.aconst_null, 1)) (k : WW X h cells slots (pc + 1) lv (rB (xD X).1 none :: st)) : WW X h cells slots pc lv st :=
  fun H locs ls hR hS hl => lv_null C.1 C.2.1 d (k H locs ls hR hS hl)
theorem s_iload_n (C : CX X own cc nL) {n : Fin 4} {x : Int32} (d : decode cc pc = .ok (.iload_n n, 1)) (hv : lv[(n : Nat)]? = some (some (.int x))) (k : WW X h cells slots (pc + 1) lv (.int x :: st)) : WW X h cells slots pc lv st :=
  fun H locs ls hR hS hl => lv_iload_n C.1 C.2.1 d rfl (hl.2.2 _ _ hv) (k H locs ls hR hS hl)
theorem s_iload (C : CX X own cc nL) {n : Nat} {x : Int32} (d : decode cc pc = .ok (.iload n, 2)) (hv : lv[n]? = some (some (.int x))) (k : WW X h cells slots (pc + 2) lv (.int x :: st)) : WW X h cells slots pc lv st :=
  fun H locs ls hR hS hl => lv_iload C.1 C.2.1 d (hl.2.2 _ _ hv) (k H locs ls hR hS hl)
theorem s_lload_n (C : CX X own cc nL) {n : Fin 4} {x : Int64} (d : decode cc pc = .ok (.lload_n n, 1)) (hv : lv[(n : Nat)]? = some (some (.long x))) (k : WW X h cells slots (pc + 1) lv (.long x :: st)) : WW X h cells slots pc lv st :=
  fun H locs ls hR hS hl => lv_lload_n C.1 C.2.1 d rfl (hl.2.2 _ _ hv) (k H locs ls hR hS hl)
theorem s_lload (C : CX X own cc nL) {n : Nat} {x : Int64} (d : decode cc pc = .ok (.lload n, 2)) (hv : lv[n]? = some (some (.long x))) (k : WW X h cells slots (pc + 2) lv (.long x :: st)) : WW X h cells slots pc lv st :=
  fun H locs ls hR hS hl => lv_lload C.1 C.2.1 d (hl.2.2 _ _ hv) (k H locs ls hR hS hl)
theorem s_aload_n (C : CX X own cc nL) {n : Fin 4} {x : Option Nat} (d : decode cc pc = .ok (.aload_n n, 1)) (hv : lv[(n : Nat)]? = some (some (rB (xD X).1 x))) (k : WW X h cells slots (pc + 1) lv (rB (xD X).1 x :: st)) : WW X h cells slots pc lv st := by
  intro H locs ls hR hS hl
  cases x with
  | none => exact lv_aload_nN C.1 C.2.1 d rfl (hl.2.2 _ _ hv) (k H locs ls hR hS hl)
  | some a => exact lv_aload_n C.1 C.2.1 d rfl (hl.2.2 _ _ hv) (k H locs ls hR hS hl)
theorem s_aload (C : CX X own cc nL) {n : Nat} {x : Option Nat} (d : decode cc pc = .ok (.aload n, 2)) (hv : lv[n]? = some (some (rB (xD X).1 x))) (k : WW X h cells slots (pc + 2) lv (rB (xD X).1 x :: st)) : WW X h cells slots pc lv st := by
  intro H locs ls hR hS hl
  cases x with
  | none => exact lv_aloadN C.1 C.2.1 d (hl.2.2 _ _ hv) (k H locs ls hR hS hl)
  | some a => exact lv_aload C.1 C.2.1 d (hl.2.2 _ _ hv) (k H locs ls hR hS hl)
theorem s_istore_n (C : CX X own cc nL) {n : Fin 4} {x : Int32} (d : decode cc pc = .ok (.istore_n n, 1)) (hi : (n : Nat) < nL) (hn : nc lv (n : Nat)) (hv : lv.set (n : Nat) (some (.int x)) = lv') (k : WW X h cells slots (pc + 1) lv' st) : WW X h cells slots pc lv (.int x :: st) := by
  intro H locs ls hR hS hl
  have hl' : LV ls nL lv := C.2.2.1 ▸ hl
  obtain ⟨ls', h1, h2⟩ := hl'.set1 (v := (.int x)) hi rfl hn
  rw [hv, ← C.2.2.1] at h2
  refine W.go (g2 := F0 (xm X) (pc + 1) ls' st) (fun T hT tg a => ?_) (k H locs ls' hR hS h2)
  jvm_step hT [hT.top, C.1, C.2.1, d, h1]
  exact a
theorem s_lstore_n (C : CX X own cc nL) {n : Fin 4} {x : Int64} (d : decode cc pc = .ok (.lstore_n n, 1)) (hi : (n : Nat) + 1 < nL) (hn : nc lv (n : Nat)) (hv : (lv.set (n : Nat) (some (.long x))).set ((n : Nat) + 1) none = lv') (k : WW X h cells slots (pc + 1) lv' st) : WW X h cells slots pc lv (.long x :: st) := by
  intro H locs ls hR hS hl
  have hl' : LV ls nL lv := C.2.2.1 ▸ hl
  obtain ⟨ls', h1, h2⟩ := hl'.set2 (v := (.long x)) hi rfl hn
  rw [hv, ← C.2.2.1] at h2
  refine W.go (g2 := F0 (xm X) (pc + 1) ls' st) (fun T hT tg a => ?_) (k H locs ls' hR hS h2)
  jvm_step hT [hT.top, C.1, C.2.1, d, h1]
  exact a
theorem s_astore_n (C : CX X own cc nL) {n : Fin 4} {x : Option Nat} (d : decode cc pc = .ok (.astore_n n, 1)) (hi : (n : Nat) < nL) (hn : nc lv (n : Nat)) (hv : lv.set (n : Nat) (some (rB (xD X).1 x)) = lv') (k : WW X h cells slots (pc + 1) lv' st) : WW X h cells slots pc lv (rB (xD X).1 x :: st) := by
  intro H locs ls hR hS hl
  have hl' : LV ls nL lv := C.2.2.1 ▸ hl
  obtain ⟨ls', h1, h2⟩ := hl'.set1 (v := (rB (xD X).1 x)) hi (rB_cat _ x) hn
  rw [hv, ← C.2.2.1] at h2
  refine W.go (g2 := F0 (xm X) (pc + 1) ls' st) (fun T hT tg a => ?_) (k H locs ls' hR hS h2)
  cases x with
  | none =>
    have h1 : storeLocals ls (n : Nat) .null = some ls' := h1
    show Steps _ _ _ (T.setTop (F0 (xm X) pc ls (.null :: st))) _
    jvm_step hT [hT.top, C.1, C.2.1, d, h1, Value.isRef]
    exact a
  | some b =>
    have h1 : storeLocals ls (n : Nat) (.ref ((xD X).1 + b)) = some ls' := h1
    show Steps _ _ _ (T.setTop (F0 (xm X) pc ls (.ref ((xD X).1 + b) :: st))) _
    jvm_step hT [hT.top, C.1, C.2.1, d, h1, Value.isRef]
    exact a
theorem s_istore (C : CX X own cc nL) {n : Nat} {x : Int32} (d : decode cc pc = .ok (.istore n, 2)) (hi : n < nL) (hn : nc lv n) (hv : lv.set n (some (.int x)) = lv') (k : WW X h cells slots (pc + 2) lv' st) : WW X h cells slots pc lv (.int x :: st) := by
  intro H locs ls hR hS hl
  have hl' : LV ls nL lv := C.2.2.1 ▸ hl
  obtain ⟨ls', h1, h2⟩ := hl'.set1 (v := (.int x)) hi rfl hn
  rw [hv, ← C.2.2.1] at h2
  refine W.go (g2 := F0 (xm X) (pc + 2) ls' st) (fun T hT tg a => ?_) (k H locs ls' hR hS h2)
  jvm_step hT [hT.top, C.1, C.2.1, d, h1]
  exact a
theorem s_lstore (C : CX X own cc nL) {n : Nat} {x : Int64} (d : decode cc pc = .ok (.lstore n, 2)) (hi : n + 1 < nL) (hn : nc lv n) (hv : (lv.set n (some (.long x))).set (n + 1) none = lv') (k : WW X h cells slots (pc + 2) lv' st) : WW X h cells slots pc lv (.long x :: st) := by
  intro H locs ls hR hS hl
  have hl' : LV ls nL lv := C.2.2.1 ▸ hl
  obtain ⟨ls', h1, h2⟩ := hl'.set2 (v := (.long x)) hi rfl hn
  rw [hv, ← C.2.2.1] at h2
  refine W.go (g2 := F0 (xm X) (pc + 2) ls' st) (fun T hT tg a => ?_) (k H locs ls' hR hS h2)
  jvm_step hT [hT.top, C.1, C.2.1, d, h1]
  exact a
theorem s_astore (C : CX X own cc nL) {n : Nat} {x : Option Nat} (d : decode cc pc = .ok (.astore n, 2)) (hi : n < nL) (hn : nc lv n) (hv : lv.set n (some (rB (xD X).1 x)) = lv') (k : WW X h cells slots (pc + 2) lv' st) : WW X h cells slots pc lv (rB (xD X).1 x :: st) := by
  intro H locs ls hR hS hl
  have hl' : LV ls nL lv := C.2.2.1 ▸ hl
  obtain ⟨ls', h1, h2⟩ := hl'.set1 (v := (rB (xD X).1 x)) hi (rB_cat _ x) hn
  rw [hv, ← C.2.2.1] at h2
  refine W.go (g2 := F0 (xm X) (pc + 2) ls' st) (fun T hT tg a => ?_) (k H locs ls' hR hS h2)
  cases x with
  | none =>
    have h1 : storeLocals ls n .null = some ls' := h1
    show Steps _ _ _ (T.setTop (F0 (xm X) pc ls (.null :: st))) _
    jvm_step hT [hT.top, C.1, C.2.1, d, h1, Value.isRef]
    exact a
  | some b =>
    have h1 : storeLocals ls n (.ref ((xD X).1 + b)) = some ls' := h1
    show Steps _ _ _ (T.setTop (F0 (xm X) pc ls (.ref ((xD X).1 + b) :: st))) _
    jvm_step hT [hT.top, C.1, C.2.1, d, h1, Value.isRef]
    exact a
theorem s_forget (n : Nat) (hv : lv.set n none = lv') (k : WW X h cells slots pc lv' st) : WW X h cells slots pc lv st := by
  intro H locs ls hR hS hl
  refine k H locs ls hR hS ⟨hl.1, hl.2.1, fun i v hi => hl.2.2 i v ?_⟩
  subst hv
  by_cases e : i = n
  · subst e
    by_cases hlt : i < lv.length
    · rw [List.getElem?_set_self hlt] at hi
      cases hi
    · rw [List.getElem?_eq_none (by rw [List.length_set]; omega)] at hi
      cases hi
  · rwa [List.getElem?_set_ne (Ne.symm e)] at hi
theorem s_iinc (C : CX X own cc nL) {i : Nat} {n : Int} {x v : Int32} (d : decode cc pc = .ok (.iinc i n, 3)) (hx : lv[i]? = some (some (.int x))) (hv : x + Int32.ofInt n = v) (hi : i < nL) (hn : nc lv i) (hl' : lv.set i (some (.int v)) = lv') (k : WW X h cells slots (pc + 3) lv' st) : WW X h cells slots pc lv st := by
  intro H locs ls hR hS hl
  have hl2 : LV ls nL lv := C.2.2.1 ▸ hl
  have hg := hl.2.2 _ _ hx
  obtain ⟨ls', h1, h2⟩ := hl2.set1 (v := .int v) hi rfl hn
  rw [hl', ← C.2.2.1] at h2
  refine W.go (g2 := F0 (xm X) (pc + 3) ls' st) (fun T hT tg a => ?_) (k H locs ls' hR hS h2)
  jvm_step hT [hT.top, C.1, C.2.1, d, hg, hv, h1]
  exact a
theorem s_iadd (C : CX X own cc nL) {x y : Int32} (d : decode cc pc = .ok (.iadd, 1)) (k : WW X h cells slots (pc + 1) lv (.int (x + y) :: st)) : WW X h cells slots pc lv (.int y :: .int x :: st) :=
  fun H locs ls hR hS hl => lv_iadd C.1 C.2.1 d (k H locs ls hR hS hl)
theorem s_isub (C : CX X own cc nL) {x y : Int32} (d : decode cc pc = .ok (.isub, 1)) (k : WW X h cells slots (pc + 1) lv (.int (x - y) :: st)) : WW X h cells slots pc lv (.int y :: .int x :: st) :=
  fun H locs ls hR hS hl => lv_isub C.1 C.2.1 d (k H locs ls hR hS hl)
theorem s_imul (C : CX X own cc nL) {x y : Int32} (d : decode cc pc = .ok (.imul, 1)) (k : WW X h cells slots (pc + 1) lv (.int (x * y) :: st)) : WW X h cells slots pc lv (.int y :: .int x :: st) :=
  fun H locs ls hR hS hl => lv_imul C.1 C.2.1 d (k H locs ls hR hS hl)
theorem s_iand (C : CX X own cc nL) {x y : Int32} (d : decode cc pc = .ok (.iand, 1)) (k : WW X h cells slots (pc + 1) lv (.int (x &&& y) :: st)) : WW X h cells slots pc lv (.int y :: .int x :: st) :=
  fun H locs ls hR hS hl => lv_iand C.1 C.2.1 d (k H locs ls hR hS hl)
theorem s_ior (C : CX X own cc nL) {x y : Int32} (d : decode cc pc = .ok (.ior, 1)) (k : WW X h cells slots (pc + 1) lv (.int (x ||| y) :: st)) : WW X h cells slots pc lv (.int y :: .int x :: st) :=
  fun H locs ls hR hS hl => lv_ior C.1 C.2.1 d (k H locs ls hR hS hl)
theorem s_ixor (C : CX X own cc nL) {x y : Int32} (d : decode cc pc = .ok (.ixor, 1)) (k : WW X h cells slots (pc + 1) lv (.int (x ^^^ y) :: st)) : WW X h cells slots pc lv (.int y :: .int x :: st) :=
  fun H locs ls hR hS hl => lv_ixor C.1 C.2.1 d (k H locs ls hR hS hl)
theorem s_ishl (C : CX X own cc nL) {x y : Int32} (d : decode cc pc = .ok (.ishl, 1)) (k : WW X h cells slots (pc + 1) lv (.int (x <<< (y &&& 31)) :: st)) : WW X h cells slots pc lv (.int y :: .int x :: st) :=
  fun H locs ls hR hS hl => lv_ishl C.1 C.2.1 d (k H locs ls hR hS hl)
theorem s_ishr (C : CX X own cc nL) {x y : Int32} (d : decode cc pc = .ok (.ishr, 1)) (k : WW X h cells slots (pc + 1) lv (.int (x >>> (y &&& 31)) :: st)) : WW X h cells slots pc lv (.int y :: .int x :: st) :=
  fun H locs ls hR hS hl => lv_ishr C.1 C.2.1 d (k H locs ls hR hS hl)
theorem s_ladd (C : CX X own cc nL) {x y : Int64} (d : decode cc pc = .ok (.ladd, 1)) (k : WW X h cells slots (pc + 1) lv (.long (x + y) :: st)) : WW X h cells slots pc lv (.long y :: .long x :: st) :=
  fun H locs ls hR hS hl => lv_ladd C.1 C.2.1 d (k H locs ls hR hS hl)
theorem s_lsub (C : CX X own cc nL) {x y : Int64} (d : decode cc pc = .ok (.lsub, 1)) (k : WW X h cells slots (pc + 1) lv (.long (x - y) :: st)) : WW X h cells slots pc lv (.long y :: .long x :: st) :=
  fun H locs ls hR hS hl => lv_lsub C.1 C.2.1 d (k H locs ls hR hS hl)
theorem s_lmul (C : CX X own cc nL) {x y : Int64} (d : decode cc pc = .ok (.lmul, 1)) (k : WW X h cells slots (pc + 1) lv (.long (x * y) :: st)) : WW X h cells slots pc lv (.long y :: .long x :: st) :=
  fun H locs ls hR hS hl => lv_lmul C.1 C.2.1 d (k H locs ls hR hS hl)
theorem s_land (C : CX X own cc nL) {x y : Int64} (d : decode cc pc = .ok (.land, 1)) (k : WW X h cells slots (pc + 1) lv (.long (x &&& y) :: st)) : WW X h cells slots pc lv (.long y :: .long x :: st) :=
  fun H locs ls hR hS hl => lv_land C.1 C.2.1 d (k H locs ls hR hS hl)
theorem s_lor (C : CX X own cc nL) {x y : Int64} (d : decode cc pc = .ok (.lor, 1)) (k : WW X h cells slots (pc + 1) lv (.long (x ||| y) :: st)) : WW X h cells slots pc lv (.long y :: .long x :: st) :=
  fun H locs ls hR hS hl => lv_lor C.1 C.2.1 d (k H locs ls hR hS hl)
theorem s_lxor (C : CX X own cc nL) {x y : Int64} (d : decode cc pc = .ok (.lxor, 1)) (k : WW X h cells slots (pc + 1) lv (.long (x ^^^ y) :: st)) : WW X h cells slots pc lv (.long y :: .long x :: st) :=
  fun H locs ls hR hS hl => lv_lxor C.1 C.2.1 d (k H locs ls hR hS hl)
theorem s_ineg (C : CX X own cc nL) {x : Int32} (d : decode cc pc = .ok (.ineg, 1)) (k : WW X h cells slots (pc + 1) lv (.int (-x) :: st)) : WW X h cells slots pc lv (.int x :: st) :=
  fun H locs ls hR hS hl => lv_ineg C.1 C.2.1 d (k H locs ls hR hS hl)
theorem s_i2l (C : CX X own cc nL) {x : Int32} (d : decode cc pc = .ok (.i2l, 1)) (k : WW X h cells slots (pc + 1) lv (.long (x.toInt64) :: st)) : WW X h cells slots pc lv (.int x :: st) :=
  fun H locs ls hR hS hl => lv_i2l C.1 C.2.1 d rfl (k H locs ls hR hS hl)
theorem s_l2i (C : CX X own cc nL) {x : Int64} (d : decode cc pc = .ok (.l2i, 1)) (k : WW X h cells slots (pc + 1) lv (.int (x.toInt32) :: st)) : WW X h cells slots pc lv (.long x :: st) :=
  fun H locs ls hR hS hl => lv_l2i C.1 C.2.1 d rfl (k H locs ls hR hS hl)
theorem s_i2b (C : CX X own cc nL) {x : Int32} (d : decode cc pc = .ok (.i2b, 1)) (k : WW X h cells slots (pc + 1) lv (.int (x.toInt8.toInt32) :: st)) : WW X h cells slots pc lv (.int x :: st) :=
  fun H locs ls hR hS hl => lv_i2b C.1 C.2.1 d rfl (k H locs ls hR hS hl)
theorem s_i2s (C : CX X own cc nL) {x : Int32} (d : decode cc pc = .ok (.i2s, 1)) (k : WW X h cells slots (pc + 1) lv (.int (x.toInt16.toInt32) :: st)) : WW X h cells slots pc lv (.int x :: st) :=
  fun H locs ls hR hS hl => lv_i2s C.1 C.2.1 d rfl (k H locs ls hR hS hl)
theorem s_i2c (C : CX X own cc nL) {x : Int32} (d : decode cc pc = .ok (.i2c, 1)) (k : WW X h cells slots (pc + 1) lv (.int ((x.toUInt32 % 65536).toInt32) :: st)) : WW X h cells slots pc lv (.int x :: st) :=
  fun H locs ls hR hS hl => lv_i2c C.1 C.2.1 d rfl (k H locs ls hR hS hl)
theorem s_lshl (C : CX X own cc nL) {x : Int64} {y : Int32} (d : decode cc pc = .ok (.lshl, 1)) (k : WW X h cells slots (pc + 1) lv (.long (x <<< (y.toInt64 &&& 63)) :: st)) : WW X h cells slots pc lv (.int y :: .long x :: st) :=
  fun H locs ls hR hS hl => lv_lshl C.1 C.2.1 d rfl (k H locs ls hR hS hl)
theorem s_lcmp (C : CX X own cc nL) {x y : Int64} (d : decode cc pc = .ok (.lcmp, 1)) (k : WW X h cells slots (pc + 1) lv (.int (lg_cmp x y) :: st)) : WW X h cells slots pc lv (.long y :: .long x :: st) :=
  fun H locs ls hR hS hl => W.lcmp C.1 C.2.1 d (k H locs ls hR hS hl)
theorem s_idiv (C : CX X own cc nL) {x y : Int32} (d : decode cc pc = .ok (.idiv, 1)) {A : Option ρ} (hf : nz y A = some r) (k : A = some r → WW X h cells slots (pc + 1) lv (.int (x / y) :: st)) : WW X h cells slots pc lv (.int y :: .int x :: st) := by
  unfold nz at hf
  split at hf
  · cases hf
  · rename_i hy
    exact fun H locs ls hR hS hl => lv_idiv C.1 C.2.1 d hy (k hf H locs ls hR hS hl)
theorem s_irem (C : CX X own cc nL) {x y : Int32} (d : decode cc pc = .ok (.irem, 1)) {A : Option ρ} (hf : nz y A = some r) (k : A = some r → WW X h cells slots (pc + 1) lv (.int (x - x / y * y) :: st)) : WW X h cells slots pc lv (.int y :: .int x :: st) := by
  unfold nz at hf
  split at hf
  · cases hf
  · rename_i hy
    exact fun H locs ls hR hS hl => lv_irem C.1 C.2.1 d hy (k hf H locs ls hR hS hl)
theorem s_ldiv (C : CX X own cc nL) {x y : Int64} (d : decode cc pc = .ok (.ldiv, 1)) {A : Option ρ} (hf : nzL y A = some r) (k : A = some r → WW X h cells slots (pc + 1) lv (.long (x / y) :: st)) : WW X h cells slots pc lv (.long y :: .long x :: st) := by
  unfold nzL at hf
  split at hf
  · cases hf
  · rename_i hy
    exact fun H locs ls hR hS hl => lv_ldiv C.1 C.2.1 d hy (k hf H locs ls hR hS hl)
/-- a value of one word -/
def c1 (v : Value) : Prop := v.category = 1
theorem c1_i {x : Int32} : c1 (.int x) := rfl
theorem c1_r {b : Nat} {x : Option Nat} : c1 (rB b x) := rB_cat b x
theorem s_dup (C : CX X own cc nL) {va : Value} (d : decode cc pc = .ok (.dup, 1)) (h1 : c1 va) (k : WW X h cells slots (pc + 1) lv (va :: va :: st)) : WW X h cells slots pc lv (va :: st) :=
  fun H locs ls hR hS hl => lv_dup C.1 C.2.1 d h1 (k H locs ls hR hS hl)
theorem s_pop (C : CX X own cc nL) {va : Value} (d : decode cc pc = .ok (.pop, 1)) (h1 : c1 va) (k : WW X h cells slots (pc + 1) lv st) : WW X h cells slots pc lv (va :: st) :=
  fun H locs ls hR hS hl => lv_pop C.1 C.2.1 d h1 (k H locs ls hR hS hl)
theorem s_dup_x1 (C : CX X own cc nL) {va vb : Value} (d : decode cc pc = .ok (.dup_x1, 1)) (h1 : c1 va) (h2 : c1 vb) (k : WW X h cells slots (pc + 1) lv (va :: vb :: va :: st)) : WW X h cells slots pc lv (va :: vb :: st) :=
  fun H locs ls hR hS hl => lv_dup_x1 C.1 C.2.1 d h1 h2 (k H locs ls hR hS hl)
theorem s_dup2 (C : CX X own cc nL) {va vb : Value} (d : decode cc pc = .ok (.dup2, 1)) (h1 : c1 va) (h2 : c1 vb) (k : WW X h cells slots (pc + 1) lv (va :: vb :: va :: vb :: st)) : WW X h cells slots pc lv (va :: vb :: st) :=
  fun H locs ls hR hS hl => lv_dup2_11 C.1 C.2.1 d h1 h2 (k H locs ls hR hS hl)
theorem s_goto (C : CX X own cc nL) {off : Int} {tgt : Nat} (d : decode cc pc = .ok (.goto off, 3)) (ht : (pc : Int) + off = (tgt : Int)) (k : WW X h cells slots tgt lv st) : WW X h cells slots pc lv st :=
  fun H locs ls hR hS hl => lv_goto C.1 C.2.1 d ht (k H locs ls hR hS hl)
theorem s_if_eq (C : CX X own cc nL) {x : Int32} {off : Int} {tgt : Nat} (d : decode cc pc = .ok (.ifCond .eq off, 3)) (ht : (pc : Int) + off = (tgt : Int)) {A B : Option ρ} (hf : (if x = 0 then A else B) = some r) (kt : A = some r → WW X h cells slots tgt lv st) (kf : B = some r → WW X h cells slots (pc + 3) lv st) : WW X h cells slots pc lv (.int x :: st) :=
  fun H locs ls hR hS hl => lv_if_eq C.1 C.2.1 d ht (fun hc => kt (by rwa [if_pos hc] at hf) H locs ls hR hS hl) (fun hc => kf (by rwa [if_neg hc] at hf) H locs ls hR hS hl)
theorem s_icmp_eq (C : CX X own cc nL) {x y : Int32} {off : Int} {tgt : Nat} (d : decode cc pc = .ok (.if_icmp .eq off, 3)) (ht : (pc : Int) + off = (tgt : Int)) {A B : Option ρ} (hf : (if x = y then A else B) = some r) (kt : A = some r → WW X h cells slots tgt lv st) (kf : B = some r → WW X h cells slots (pc + 3) lv st) : WW X h cells slots pc lv (.int y :: .int x :: st) :=
  fun H locs ls hR hS hl => lv_icmp_eq C.1 C.2.1 d ht (fun hc => kt (by rwa [if_pos hc] at hf) H locs ls hR hS hl) (fun hc => kf (by rwa [if_neg hc] at hf) H locs ls hR hS hl)
theorem s_if_ne (C : CX X own cc nL) {x : Int32} {off : Int} {tgt : Nat} (d : decode cc pc = .ok (.ifCond .ne off, 3)) (ht : (pc : Int) + off = (tgt : Int)) {A B : Option ρ} (hf : (if x = 0 then A else B) = some r) (kt : B = some r → WW X h cells slots tgt lv st) (kf : A = some r → WW X h cells slots (pc + 3) lv st) : WW X h cells slots pc lv (.int x :: st) :=
  fun H locs ls hR hS hl => lv_if_ne C.1 C.2.1 d ht (fun hc => kt (by rwa [if_neg hc] at hf) H locs ls hR hS hl) (fun hc => kf (by rwa [if_pos hc] at hf) H locs ls hR hS hl)
theorem s_icmp_ne (C : CX X own cc nL) {x y : Int32} {off : Int} {tgt : Nat} (d : decode cc pc = .ok (.if_icmp .ne off, 3)) (ht : (pc : Int) + off = (tgt : Int)) {A B : Option ρ} (hf : (if x = y then A else B) = some r) (kt : B = some r → WW X h cells slots tgt lv st) (kf : A = some r → WW X h cells slots (pc + 3) lv st) : WW X h cells slots pc lv (.int y :: .int x :: st) :=
  fun H locs ls hR hS hl => lv_icmp_ne C.1 C.2.1 d ht (fun hc => kt (by rwa [if_neg hc] at hf) H locs ls hR hS hl) (fun hc => kf (by rwa [if_pos hc] at hf) H locs ls hR hS hl)
theorem s_if_lt (C : CX X own cc nL) {x : Int32} {off : Int} {tgt : Nat} (d : decode cc pc = .ok (.ifCond .lt off, 3)) (ht : (pc : Int) + off = (tgt : Int)) {A B : Option ρ} (hf : (if x < 0 then A else B) = some r) (kt : A = some r → WW X h cells slots tgt lv st) (kf : B = some r → WW X h cells slots (pc + 3) lv st) : WW X h cells slots pc lv (.int x :: st) :=
  fun H locs ls hR hS hl => lv_if_lt C.1 C.2.1 d ht (fun hc => kt (by rwa [if_pos hc] at hf) H locs ls hR hS hl) (fun hc => kf (by rwa [if_neg hc] at hf) H locs ls hR hS hl)
theorem s_icmp_lt (C : CX X own cc nL) {x y : Int32} {off : Int} {tgt : Nat} (d : decode cc pc = .ok (.if_icmp .lt off, 3)) (ht : (pc : Int) + off = (tgt : Int)) {A B : Option ρ} (hf : (if x < y then A else B) = some r) (kt : A = some r → WW X h cells slots tgt lv st) (kf : B = some r → WW X h cells slots (pc + 3) lv st) : WW X h cells slots pc lv (.int y :: .int x :: st) :=
  fun H locs ls hR hS hl => lv_icmp_lt C.1 C.2.1 d ht (fun hc => kt (by rwa [if_pos hc] at hf) H locs ls hR hS hl) (fun hc => kf (by rwa [if_neg hc] at hf) H locs ls hR hS hl)
theorem s_if_ge (C : CX X own cc nL) {x : Int32} {off : Int} {tgt : Nat} (d : decode cc pc = .ok (.ifCond .ge off, 3)) (ht : (pc : Int) + off = (tgt : Int)) {A B : Option ρ} (hf : (if 0 ≤ x then A else B) = some r) (kt : A = some r → WW X h cells slots tgt lv st) (kf : B = some r → WW X h cells slots (pc + 3) lv st) : WW X h cells slots pc lv (.int x :: st) :=
  fun H locs ls hR hS hl => lv_if_ge C.1 C.2.1 d ht (fun hc => kt (by rwa [if_pos hc] at hf) H locs ls hR hS hl) (fun hc => kf (by rwa [if_neg hc] at hf) H locs ls hR hS hl)
theorem s_icmp_ge (C : CX X own cc nL) {x y : Int32} {off : Int} {tgt : Nat} (d : decode cc pc = .ok (.if_icmp .ge off, 3)) (ht : (pc : Int) + off = (tgt : Int)) {A B : Option ρ} (hf : (if y ≤ x then A else B) = some r) (kt : A = some r → WW X h cells slots tgt lv st) (kf : B = some r → WW X h cells slots (pc + 3) lv st) : WW X h cells slots pc lv (.int y :: .int x :: st) :=
  fun H locs ls hR hS hl => lv_icmp_ge C.1 C.2.1 d ht (fun hc => kt (by rwa [if_pos hc] at hf) H locs ls hR hS hl) (fun hc => kf (by rwa [if_neg hc] at hf) H locs ls hR hS hl)
theorem s_if_gt (C : CX X own cc nL) {x : Int32} {off : Int} {tgt : Nat} (d : decode cc pc = .ok (.ifCond .gt off, 3)) (ht : (pc : Int) + off = (tgt : Int)) {A B : Option ρ} (hf : (if 0 < x then A else B) = some r) (kt : A = some r → WW X h cells slots tgt lv st) (kf : B = some r → WW X h cells slots (pc + 3) lv st) : WW X h cells slots pc lv (.int x :: st) :=
  fun H locs ls hR hS hl => lv_if_gt C.1 C.2.1 d ht (fun hc => kt (by rwa [if_pos hc] at hf) H locs ls hR hS hl) (fun hc => kf (by rwa [if_neg hc] at hf) H locs ls hR hS hl)
theorem s_icmp_gt (C : CX X own cc nL) {x y : Int32} {off : Int} {tgt : Nat} (d : decode cc pc = .ok (.if_icmp .gt off, 3)) (ht : (pc : Int) + off = (tgt : Int)) {A B : Option ρ} (hf : (if y < x then A else B) = some r) (kt : A = some r → WW X h cells slots tgt lv st) (kf : B = some r → WW X h cells slots (pc + 3) lv st) : WW X h cells slots pc lv (.int y :: .int x :: st) :=
  fun H locs ls hR hS hl => lv_icmp_gt C.1 C.2.1 d ht (fun hc => kt (by rwa [if_pos hc] at hf) H locs ls hR hS hl) (fun hc => kf (by rwa [if_neg hc] at hf) H locs ls hR hS hl)
theorem s_if_le (C : CX X own cc nL) {x : Int32} {off : Int} {tgt : Nat} (d : decode cc pc = .ok (.ifCond .le off, 3)) (ht : (pc : Int) + off = (tgt : Int)) {A B : Option ρ} (hf : (if x ≤ 0 then A else B) = some r) (kt : A = some r → WW X h cells slots tgt lv st) (kf : B = some r → WW X h cells slots (pc + 3) lv st) : WW X h cells slots pc lv (.int x :: st) :=
  fun H locs ls hR hS hl => lv_if_le C.1 C.2.1 d ht (fun hc => kt (by rwa [if_pos hc] at hf) H locs ls hR hS hl) (fun hc => kf (by rwa [if_neg hc] at hf) H locs ls hR hS hl)
theorem s_icmp_le (C : CX X own cc nL) {x y : Int32} {off : Int} {tgt : Nat} (d : decode cc pc = .ok (.if_icmp .le off, 3)) (ht : (pc : Int) + off = (tgt : Int)) {A B : Option ρ} (hf : (if x ≤ y then A else B) = some r) (kt : A = some r → WW X h cells slots tgt lv st) (kf : B = some r → WW X h cells slots (pc + 3) lv st) : WW X h cells slots pc lv (.int y :: .int x :: st) :=
  fun H locs ls hR hS hl => lv_icmp_le C.1 C.2.1 d ht (fun hc => kt (by rwa [if_pos hc] at hf) H locs ls hR hS hl) (fun hc => kf (by rwa [if_neg hc] at hf) H locs ls hR hS hl)
theorem s_ifnull (C : CX X own cc nL) {x : Option Nat} {off : Int} {tgt : Nat} (d : decode cc pc = .ok (.ifnull off, 3)) (ht : (pc : Int) + off = (tgt : Int)) {A B : Option ρ} (hf : (if x = none then A else B) = some r) (kt : A = some r → WW X h cells slots tgt lv st) (kf : B = some r → WW X h cells slots (pc + 3) lv st) : WW X h cells slots pc lv (rB (xD X).1 x :: st) := by
  intro H locs ls hR hS hl
  cases x with
  | none => exact lv_ifnullN C.1 C.2.1 d ht (kt (by rwa [if_pos rfl] at hf) H locs ls hR hS hl)
  | some a => exact lv_ifnull C.1 C.2.1 d (kf (by rwa [if_neg (fun e => by cases e)] at hf) H locs ls hR hS hl)
theorem s_ifnonnull (C : CX X own cc nL) {x : Option Nat} {off : Int} {tgt : Nat} (d : decode cc pc = .ok (.ifnonnull off, 3)) (ht : (pc : Int) + off = (tgt : Int)) {A B : Option ρ} (hf : (if x = none then A else B) = some r) (kt : B = some r → WW X h cells slots tgt lv st) (kf : A = some r → WW X h cells slots (pc + 3) lv st) : WW X h cells slots pc lv (rB (xD X).1 x :: st) := by
  intro H locs ls hR hS hl
  cases x with
  | none => exact lv_ifnonnullN C.1 C.2.1 d (kf (by rwa [if_pos rfl] at hf) H locs ls hR hS hl)
  | some a => exact lv_ifnonnull C.1 C.2.1 d ht (kt (by rwa [if_neg (fun e => by cases e)] at hf) H locs ls hR hS hl)
end STEPS
