section
-- ===== PART A: goes FIRST, ahead of the names: the tables' words, and 'selects' of the private methods out of them =====
/-- a private method of a class that the tables say can be made, by its rows of tables_1 -/
def lw_okq (q : MethodName × Nat) : Prop := (q.1.cls ≠ "java/lang/invoke/MethodHandle" ∧ q.1.cls ≠ "java/lang/invoke/VarHandle") ∧ Cond.instantiable q.1.cls q.2 ∈ tables_1 ∧ Cond.privateMethod q.1 ∈ tables_1 ∧ Cond.instanceMethod q.1 ∈ tables_1
theorem lw_p0 : lw_okq (⟨"HillBoxes", "mayBeAsked", "(II)Z"⟩, 6) := ⟨⟨by decide +kernel, by decide +kernel⟩, List.mem_of_getElem? (i := 21) (by decide +kernel), List.mem_of_getElem? (i := 370) (by decide +kernel), List.mem_of_getElem? (i := 371) (by decide +kernel)⟩
theorem lw_p1 : lw_okq (⟨"HillBoxes$Rules", "work", "(I)I"⟩, 16) := ⟨⟨by decide +kernel, by decide +kernel⟩, List.mem_of_getElem? (i := 79) (by decide +kernel), List.mem_of_getElem? (i := 403) (by decide +kernel), List.mem_of_getElem? (i := 404) (by decide +kernel)⟩
theorem lw_p2 : lw_okq (⟨"HillBoxes$Rules", "numberOf", "(I)I"⟩, 16) := ⟨⟨by decide +kernel, by decide +kernel⟩, List.mem_of_getElem? (i := 79) (by decide +kernel), List.mem_of_getElem? (i := 407) (by decide +kernel), List.mem_of_getElem? (i := 408) (by decide +kernel)⟩
theorem lw_p3 : lw_okq (⟨"HillBoxes$Rules", "push", "(II)I"⟩, 16) := ⟨⟨by decide +kernel, by decide +kernel⟩, List.mem_of_getElem? (i := 79) (by decide +kernel), List.mem_of_getElem? (i := 430) (by decide +kernel), List.mem_of_getElem? (i := 431) (by decide +kernel)⟩
theorem lw_p4 : lw_okq (⟨"HillBoxes$Rules", "read", "(I)I"⟩, 16) := ⟨⟨by decide +kernel, by decide +kernel⟩, List.mem_of_getElem? (i := 79) (by decide +kernel), List.mem_of_getElem? (i := 434) (by decide +kernel), List.mem_of_getElem? (i := 435) (by decide +kernel)⟩
theorem lw_p5 : lw_okq (⟨"HillBoxes$Rules", "leavesLet", "(LHillBoxes$Finder;II)Z"⟩, 16) := ⟨⟨by decide +kernel, by decide +kernel⟩, List.mem_of_getElem? (i := 79) (by decide +kernel), List.mem_of_getElem? (i := 447) (by decide +kernel), List.mem_of_getElem? (i := 448) (by decide +kernel)⟩
theorem lw_p6 : lw_okq (⟨"HillBoxes$Rules", "isNearKnown", "(II)Z"⟩, 16) := ⟨⟨by decide +kernel, by decide +kernel⟩, List.mem_of_getElem? (i := 79) (by decide +kernel), List.mem_of_getElem? (i := 455) (by decide +kernel), List.mem_of_getElem? (i := 456) (by decide +kernel)⟩
theorem lw_p7 : lw_okq (⟨"HillBoxes$Rules", "isNearSecret", "(II)Z"⟩, 16) := ⟨⟨by decide +kernel, by decide +kernel⟩, List.mem_of_getElem? (i := 79) (by decide +kernel), List.mem_of_getElem? (i := 468) (by decide +kernel), List.mem_of_getElem? (i := 469) (by decide +kernel)⟩
theorem lw_p8 : lw_okq (⟨"HillBoxes", "ofFinder", "(LHillBoxes$Finder;I)I"⟩, 6) := ⟨⟨by decide +kernel, by decide +kernel⟩, List.mem_of_getElem? (i := 21) (by decide +kernel), List.mem_of_getElem? (i := 613) (by decide +kernel), List.mem_of_getElem? (i := 614) (by decide +kernel)⟩
theorem lw_p9 : lw_okq (⟨"HillBoxes", "ofThing", "(LHillBoxes$Thing;I)I"⟩, 6) := ⟨⟨by decide +kernel, by decide +kernel⟩, List.mem_of_getElem? (i := 21) (by decide +kernel), List.mem_of_getElem? (i := 623) (by decide +kernel), List.mem_of_getElem? (i := 624) (by decide +kernel)⟩
theorem lw_p10 : lw_okq (⟨"HillBoxes$Tape", "splitIntoTokens", "()V"⟩, 11) := ⟨⟨by decide +kernel, by decide +kernel⟩, List.mem_of_getElem? (i := 85) (by decide +kernel), List.mem_of_getElem? (i := 653) (by decide +kernel), List.mem_of_getElem? (i := 654) (by decide +kernel)⟩
theorem lw_p11 : lw_okq (⟨"HillBoxes$Tape", "skipBlanks", "()V"⟩, 11) := ⟨⟨by decide +kernel, by decide +kernel⟩, List.mem_of_getElem? (i := 85) (by decide +kernel), List.mem_of_getElem? (i := 657) (by decide +kernel), List.mem_of_getElem? (i := 658) (by decide +kernel)⟩
theorem lw_p12 : lw_okq (⟨"HillBoxes$Tape", "byteAt", "(I)I"⟩, 11) := ⟨⟨by decide +kernel, by decide +kernel⟩, List.mem_of_getElem? (i := 85) (by decide +kernel), List.mem_of_getElem? (i := 661) (by decide +kernel), List.mem_of_getElem? (i := 662) (by decide +kernel)⟩
theorem lw_p13 : lw_okq (⟨"HillBoxes$Tape", "readWord", "(I)V"⟩, 11) := ⟨⟨by decide +kernel, by decide +kernel⟩, List.mem_of_getElem? (i := 85) (by decide +kernel), List.mem_of_getElem? (i := 668) (by decide +kernel), List.mem_of_getElem? (i := 669) (by decide +kernel)⟩
theorem lw_p14 : lw_okq (⟨"HillBoxes$Tape", "wordNumber", "(II)I"⟩, 11) := ⟨⟨by decide +kernel, by decide +kernel⟩, List.mem_of_getElem? (i := 85) (by decide +kernel), List.mem_of_getElem? (i := 672) (by decide +kernel), List.mem_of_getElem? (i := 673) (by decide +kernel)⟩
theorem lw_p15 : lw_okq (⟨"HillBoxes$Tape", "isWord", "(III)Z"⟩, 11) := ⟨⟨by decide +kernel, by decide +kernel⟩, List.mem_of_getElem? (i := 85) (by decide +kernel), List.mem_of_getElem? (i := 725) (by decide +kernel), List.mem_of_getElem? (i := 726) (by decide +kernel)⟩
def lw_privs_1 : List (MethodName × Nat) := [(⟨"HillBoxes", "mayBeAsked", "(II)Z"⟩, 6), (⟨"HillBoxes$Rules", "work", "(I)I"⟩, 16), (⟨"HillBoxes$Rules", "numberOf", "(I)I"⟩, 16), (⟨"HillBoxes$Rules", "push", "(II)I"⟩, 16), (⟨"HillBoxes$Rules", "read", "(I)I"⟩, 16), (⟨"HillBoxes$Rules", "leavesLet", "(LHillBoxes$Finder;II)Z"⟩, 16), (⟨"HillBoxes$Rules", "isNearKnown", "(II)Z"⟩, 16), (⟨"HillBoxes$Rules", "isNearSecret", "(II)Z"⟩, 16), (⟨"HillBoxes", "ofFinder", "(LHillBoxes$Finder;I)I"⟩, 6), (⟨"HillBoxes", "ofThing", "(LHillBoxes$Thing;I)I"⟩, 6), (⟨"HillBoxes$Tape", "splitIntoTokens", "()V"⟩, 11), (⟨"HillBoxes$Tape", "skipBlanks", "()V"⟩, 11), (⟨"HillBoxes$Tape", "byteAt", "(I)I"⟩, 11), (⟨"HillBoxes$Tape", "readWord", "(I)V"⟩, 11), (⟨"HillBoxes$Tape", "wordNumber", "(II)I"⟩, 11), (⟨"HillBoxes$Tape", "isWord", "(III)Z"⟩, 11)]
theorem lw_r1 : ∀ q ∈ lw_privs_1, lw_okq q := List.forall_mem_cons.mpr ⟨lw_p0, List.forall_mem_cons.mpr ⟨lw_p1, List.forall_mem_cons.mpr ⟨lw_p2, List.forall_mem_cons.mpr ⟨lw_p3, List.forall_mem_cons.mpr ⟨lw_p4, List.forall_mem_cons.mpr ⟨lw_p5, List.forall_mem_cons.mpr ⟨lw_p6, List.forall_mem_cons.mpr ⟨lw_p7, List.forall_mem_cons.mpr ⟨lw_p8, List.forall_mem_cons.mpr ⟨lw_p9, List.forall_mem_cons.mpr ⟨lw_p10, List.forall_mem_cons.mpr ⟨lw_p11, List.forall_mem_cons.mpr ⟨lw_p12, List.forall_mem_cons.mpr ⟨lw_p13, List.forall_mem_cons.mpr ⟨lw_p14, List.forall_mem_cons.mpr ⟨lw_p15, fun _ h => absurd h List.not_mem_nil⟩⟩⟩⟩⟩⟩⟩⟩⟩⟩⟩⟩⟩⟩⟩⟩
theorem lw_p16 : lw_okq (⟨"HillBoxes$Tape", "readNumber", "(I)V"⟩, 11) := ⟨⟨by decide +kernel, by decide +kernel⟩, List.mem_of_getElem? (i := 85) (by decide +kernel), List.mem_of_getElem? (i := 732) (by decide +kernel), List.mem_of_getElem? (i := 733) (by decide +kernel)⟩
theorem lw_p17 : lw_okq (⟨"HillBoxes$Tape", "readLine", "()V"⟩, 11) := ⟨⟨by decide +kernel, by decide +kernel⟩, List.mem_of_getElem? (i := 85) (by decide +kernel), List.mem_of_getElem? (i := 792) (by decide +kernel), List.mem_of_getElem? (i := 793) (by decide +kernel)⟩
theorem lw_p18 : lw_okq (⟨"HillBoxes$Tape", "advance", "()V"⟩, 11) := ⟨⟨by decide +kernel, by decide +kernel⟩, List.mem_of_getElem? (i := 85) (by decide +kernel), List.mem_of_getElem? (i := 796) (by decide +kernel), List.mem_of_getElem? (i := 797) (by decide +kernel)⟩
theorem lw_p19 : lw_okq (⟨"HillBoxes$Tape", "readEither", "(I)V"⟩, 11) := ⟨⟨by decide +kernel, by decide +kernel⟩, List.mem_of_getElem? (i := 85) (by decide +kernel), List.mem_of_getElem? (i := 800) (by decide +kernel), List.mem_of_getElem? (i := 801) (by decide +kernel)⟩
theorem lw_p20 : lw_okq (⟨"HillBoxes$Tape", "readBoth", "(I)V"⟩, 11) := ⟨⟨by decide +kernel, by decide +kernel⟩, List.mem_of_getElem? (i := 85) (by decide +kernel), List.mem_of_getElem? (i := 804) (by decide +kernel), List.mem_of_getElem? (i := 805) (by decide +kernel)⟩
theorem lw_p21 : lw_okq (⟨"HillBoxes$Tape", "readDenied", "(I)V"⟩, 11) := ⟨⟨by decide +kernel, by decide +kernel⟩, List.mem_of_getElem? (i := 85) (by decide +kernel), List.mem_of_getElem? (i := 808) (by decide +kernel), List.mem_of_getElem? (i := 809) (by decide +kernel)⟩
theorem lw_p22 : lw_okq (⟨"HillBoxes$Tape", "mayOpen", "(I)Z"⟩, 11) := ⟨⟨by decide +kernel, by decide +kernel⟩, List.mem_of_getElem? (i := 85) (by decide +kernel), List.mem_of_getElem? (i := 812) (by decide +kernel), List.mem_of_getElem? (i := 813) (by decide +kernel)⟩
theorem lw_p23 : lw_okq (⟨"HillBoxes$Tape", "blame", "()V"⟩, 11) := ⟨⟨by decide +kernel, by decide +kernel⟩, List.mem_of_getElem? (i := 85) (by decide +kernel), List.mem_of_getElem? (i := 816) (by decide +kernel), List.mem_of_getElem? (i := 817) (by decide +kernel)⟩
theorem lw_p24 : lw_okq (⟨"HillBoxes$Tape", "readSum", "(I)V"⟩, 11) := ⟨⟨by decide +kernel, by decide +kernel⟩, List.mem_of_getElem? (i := 85) (by decide +kernel), List.mem_of_getElem? (i := 820) (by decide +kernel), List.mem_of_getElem? (i := 821) (by decide +kernel)⟩
theorem lw_p25 : lw_okq (⟨"HillBoxes$Tape", "readProduct", "(I)V"⟩, 11) := ⟨⟨by decide +kernel, by decide +kernel⟩, List.mem_of_getElem? (i := 85) (by decide +kernel), List.mem_of_getElem? (i := 824) (by decide +kernel), List.mem_of_getElem? (i := 825) (by decide +kernel)⟩
theorem lw_p26 : lw_okq (⟨"HillBoxes$Tape", "readOne", "(I)V"⟩, 11) := ⟨⟨by decide +kernel, by decide +kernel⟩, List.mem_of_getElem? (i := 85) (by decide +kernel), List.mem_of_getElem? (i := 828) (by decide +kernel), List.mem_of_getElem? (i := 829) (by decide +kernel)⟩
theorem lw_p27 : lw_okq (⟨"HillBoxes$Tape", "emit", "(I)V"⟩, 11) := ⟨⟨by decide +kernel, by decide +kernel⟩, List.mem_of_getElem? (i := 85) (by decide +kernel), List.mem_of_getElem? (i := 832) (by decide +kernel), List.mem_of_getElem? (i := 833) (by decide +kernel)⟩
theorem lw_p28 : lw_okq (⟨"HillBoxes$Tape", "expect", "(I)V"⟩, 11) := ⟨⟨by decide +kernel, by decide +kernel⟩, List.mem_of_getElem? (i := 85) (by decide +kernel), List.mem_of_getElem? (i := 836) (by decide +kernel), List.mem_of_getElem? (i := 837) (by decide +kernel)⟩
theorem lw_p29 : lw_okq (⟨"HillBoxes", "countBoxes", "(Z)I"⟩, 6) := ⟨⟨by decide +kernel, by decide +kernel⟩, List.mem_of_getElem? (i := 21) (by decide +kernel), List.mem_of_getElem? (i := 852) (by decide +kernel), List.mem_of_getElem? (i := 853) (by decide +kernel)⟩
theorem lw_p30 : lw_okq (⟨"HillBoxes", "countFinders", "(Z)I"⟩, 6) := ⟨⟨by decide +kernel, by decide +kernel⟩, List.mem_of_getElem? (i := 21) (by decide +kernel), List.mem_of_getElem? (i := 856) (by decide +kernel), List.mem_of_getElem? (i := 857) (by decide +kernel)⟩
def lw_privs_2 : List (MethodName × Nat) := [(⟨"HillBoxes$Tape", "readNumber", "(I)V"⟩, 11), (⟨"HillBoxes$Tape", "readLine", "()V"⟩, 11), (⟨"HillBoxes$Tape", "advance", "()V"⟩, 11), (⟨"HillBoxes$Tape", "readEither", "(I)V"⟩, 11), (⟨"HillBoxes$Tape", "readBoth", "(I)V"⟩, 11), (⟨"HillBoxes$Tape", "readDenied", "(I)V"⟩, 11), (⟨"HillBoxes$Tape", "mayOpen", "(I)Z"⟩, 11), (⟨"HillBoxes$Tape", "blame", "()V"⟩, 11), (⟨"HillBoxes$Tape", "readSum", "(I)V"⟩, 11), (⟨"HillBoxes$Tape", "readProduct", "(I)V"⟩, 11), (⟨"HillBoxes$Tape", "readOne", "(I)V"⟩, 11), (⟨"HillBoxes$Tape", "emit", "(I)V"⟩, 11), (⟨"HillBoxes$Tape", "expect", "(I)V"⟩, 11), (⟨"HillBoxes", "countBoxes", "(Z)I"⟩, 6), (⟨"HillBoxes", "countFinders", "(Z)I"⟩, 6)]
theorem lw_r2 : ∀ q ∈ lw_privs_2, lw_okq q := List.forall_mem_cons.mpr ⟨lw_p16, List.forall_mem_cons.mpr ⟨lw_p17, List.forall_mem_cons.mpr ⟨lw_p18, List.forall_mem_cons.mpr ⟨lw_p19, List.forall_mem_cons.mpr ⟨lw_p20, List.forall_mem_cons.mpr ⟨lw_p21, List.forall_mem_cons.mpr ⟨lw_p22, List.forall_mem_cons.mpr ⟨lw_p23, List.forall_mem_cons.mpr ⟨lw_p24, List.forall_mem_cons.mpr ⟨lw_p25, List.forall_mem_cons.mpr ⟨lw_p26, List.forall_mem_cons.mpr ⟨lw_p27, List.forall_mem_cons.mpr ⟨lw_p28, List.forall_mem_cons.mpr ⟨lw_p29, List.forall_mem_cons.mpr ⟨lw_p30, fun _ h => absurd h List.not_mem_nil⟩⟩⟩⟩⟩⟩⟩⟩⟩⟩⟩⟩⟩⟩⟩
def lw_privs : List (MethodName × Nat) := lw_privs_1 ++ (lw_privs_2)
def lw_tbl : List Cond := k2_sels lw_privs ++ tables_1
theorem lw_privs_ok : ∀ q ∈ lw_privs, lw_okq q := by
  show ∀ q ∈ lw_privs_1 ++ (lw_privs_2), lw_okq q
  exact List.forall_mem_append.mpr ⟨lw_r1, lw_r2⟩
def lw_xs : List Cond := []
def lw_big : List Cond := lw_xs ++ lw_tbl.filter goodWord
theorem big_good : GoodIn lw_big lw_big := fun w h => ⟨h, good_of_word ((List.mem_append.mp h).elim (fun h => by cases h) (fun h => (List.mem_filter.mp h).2))⟩
theorem big_hold {args : Array Value} {s : State} (h : ∀ w ∈ lw_tbl, w.before args s = true) : ∀ w ∈ lw_big, w.before args s = true := by
  intro w hw
  rcases List.mem_append.mp hw with hw | hw
  · cases hw
  · exact h w (List.mem_filter.mp hw).1
theorem big_at {w : Cond} (i : Nat) (h : tables_1[i]? = some w) (hg : goodWord w = true) : w ∈ lw_big := List.mem_append_right _ (List.mem_filter.mpr ⟨List.mem_append_right _ (List.mem_of_getElem? h), hg⟩)
theorem big_sel {w : Cond} (i : Nat) (h : (k2_sels lw_privs)[i]? = some w) (hg : goodWord w = true) : w ∈ lw_big := List.mem_append_right _ (List.mem_filter.mpr ⟨List.mem_append_left _ (List.mem_of_getElem? h), hg⟩)
theorem big_xs {w : Cond} (i : Nat) (h : lw_xs[i]? = some w) : w ∈ lw_big := List.mem_append_left _ (List.mem_of_getElem? h)
theorem tbl_at {w : Cond} (i : Nat) (h : tables_1[i]? = some w) : w ∈ lw_tbl := List.mem_append_right _ (List.mem_of_getElem? h)
theorem in_big {ws : List Cond} (ps : List Nat) (h : ws = ps.filterMap (fun i => tables_1[i]?)) (hg : ws.all goodWord = true) : ∀ w ∈ ws, w ∈ lw_big := by
  intro w hw
  have h1 := List.all_eq_true.mp hg w hw
  rw [h] at hw
  obtain ⟨i, -, hi⟩ := List.mem_filterMap.mp hw
  exact big_at i hi h1

/-- f, but v at every address of l -/
def vr_up {α : Type} (f : Nat → α) (l : List Nat) (v : α) : Nat → α := fun a => if a ∈ l then v else f a
theorem vr_up_in {α : Type} {f : Nat → α} {l : List Nat} {v : α} {a : Nat} (h : a ∈ l) : vr_up f l v a = v := if_pos h
theorem vr_up_ne {α : Type} {f : Nat → α} {l : List Nat} {v : α} {a : Nat} (h : a ∉ l) : vr_up f l v a = f a := if_neg h
theorem vr_rows {L l : List Nat} {f : Nat → va_E} {e : va_E} (h : ∀ a, a ∈ l → a ∉ L) : va_pl L f ++ l.map (fun a => (a, e)) = va_pl (L ++ l) (vr_up f l e) := by
  unfold va_pl
  rw [List.map_append]
  congr 1
  · apply List.map_congr_left
    intro a ha
    rw [vr_up_ne (fun q => h a q ha)]
  · apply List.map_congr_left
    intro a ha
    rw [vr_up_in ha]
theorem vr_lay {X rows : va_W} {x : Nat × va_E} {pl : va_W} {D : va_G} {cl : List vw_C} {H : Heap} (hP : va_P D cl (((X ++ pl) ++ [x]) ++ rows) H) : va_P D cl ((X ++ [x]) ++ (pl ++ rows)) H := by
  rw [List.append_assoc (X ++ pl)] at hP
  have h := va_P.swap hP
  rw [← List.append_assoc X] at h
  have h2 := va_P.swap h
  rw [List.append_assoc (X ++ [x])] at h2
  exact h2
theorem vr_layD {X rows : va_W} {x : Nat × va_E} {pl : va_W} {A : Nat → Prop} (hD : va_D A (((X ++ pl) ++ [x]) ++ rows)) : va_D A ((X ++ [x]) ++ (pl ++ rows)) := by
  rw [List.append_assoc (X ++ pl)] at hD
  have h := va_D.swap hD
  rw [← List.append_assoc X] at h
  have h2 := va_D.swap h
  rw [List.append_assoc (X ++ [x])] at h2
  exact h2
theorem vr_outer (c : ClassId) (N h0 : Nat) : ∀ i : Nat, Jvm.Free.Multi.outerC c N h0 i = arrV c N (fun j => va_rf (if j < i then some (h0 + 1 + j) else none))
  | 0 => by
    show ({ cls := c, slots := Array.replicate N .null, vm := .none } : Cell) = _
    rw [arrV_new]
    refine congrArg (arrV c N) (funext fun j => ?_)
    simp [va_rf]
  | i + 1 => by
    show (Jvm.Free.Multi.outerC c N h0 i).setSlot i (.ref (h0 + 1 + i)) = _
    rw [vr_outer c N h0 i, arrV_store]
    refine congrArg (arrV c N) (funext fun j => ?_)
    by_cases e : j = i
    · subst e
      simp [updV, va_rf]
    · by_cases h : j < i
      · simp [updV, e, h, Nat.lt_succ_of_lt h]
      · simp [updV, e, h, show ¬ j < i + 1 by omega]

def RX0 : String := "HillBoxes$Body"
def TX0 : u_T := fun k => match k with
  | _ => ("", "", "", false)
def tyX0 : Nat → FieldType := fun k => match k with
  | _ => .int
abbrev wsX00 : List Cond := u_ws RX0 TX0 0
theorem nmX0 : ∀ a, a < 0 → ∀ b, b < 0 → a ≠ b → (TX0 a).2.1 ≠ (TX0 b).2.1 := by decide +kernel
theorem tyX0_ok : ∀ k, k < 0 → parseFieldDescriptor (TX0 k).2.2.1 = some (tyX0 k) := by decide +kernel
abbrev cX0_init : ByteArray := prog_2_method_1_code
def yX0_init : MethodName := ⟨RX0, "<init>", "(II)V"⟩
def RX1 : String := "HillBoxes$Box"
def TX1 : u_T := fun k => match k with
  | 0 => ("HillBoxes$Body", "number", "I", true)
  | 1 => ("HillBoxes$Body", "kind", "I", true)
  | 2 => ("HillBoxes$Box", "hiddenOn", "I", true)
  | 3 => ("HillBoxes$Box", "hiddenAtCell", "I", true)
  | 4 => ("HillBoxes$Box", "steps", "[I", true)
  | 5 => ("HillBoxes$Box", "names", "[I", true)
  | 6 => ("HillBoxes$Box", "askers", "[I", true)
  | 7 => ("HillBoxes$Box", "riddle", "LHillBoxes$Riddle;", true)
  | 8 => ("HillBoxes$Box", "keeper", "I", false)
  | 9 => ("HillBoxes$Box", "cell", "I", false)
  | 10 => ("HillBoxes$Box", "stepCount", "I", false)
  | 11 => ("HillBoxes$Box", "downOn", "I", false)
  | 12 => ("HillBoxes$Box", "finds", "I", false)
  | 13 => ("HillBoxes$Box", "misses", "I", false)
  | 14 => ("HillBoxes$Box", "latestFound", "I", false)
  | 15 => ("HillBoxes$Box", "nameCount", "I", false)
  | 16 => ("HillBoxes$Box", "paperSeen", "Z", false)
  | 17 => ("HillBoxes$Box", "askerCount", "I", false)
  | _ => ("HillBoxes$Box", "lookedAt", "I", false)
def tyX1 : Nat → FieldType := fun k => match k with
  | 0 => .int
  | 1 => .int
  | 2 => .int
  | 3 => .int
  | 4 => .array .int
  | 5 => .array .int
  | 6 => .array .int
  | 7 => .object "HillBoxes$Riddle"
  | 8 => .int
  | 9 => .int
  | 10 => .int
  | 11 => .int
  | 12 => .int
  | 13 => .int
  | 14 => .int
  | 15 => .int
  | 16 => .boolean
  | 17 => .int
  | _ => .int
abbrev wsX10 : List Cond := u_ws RX1 TX1 19
theorem nmX1 : ∀ a, a < 19 → ∀ b, b < 19 → a ≠ b → (TX1 a).2.1 ≠ (TX1 b).2.1 := by decide +kernel
theorem tyX1_ok : ∀ k, k < 19 → parseFieldDescriptor (TX1 k).2.2.1 = some (tyX1 k) := by decide +kernel
abbrev cX1_init : ByteArray := prog_3_method_1_code
def yX1_init : MethodName := ⟨RX1, "<init>", "(IIIII)V"⟩
abbrev cX1_takeSteps : ByteArray := prog_3_method_2_code
def yX1_takeSteps : MethodName := ⟨RX1, "takeSteps", "([II)V"⟩
abbrev cX1_liesNow : ByteArray := prog_3_method_4_code
def yX1_liesNow : MethodName := ⟨RX1, "liesNow", "()I"⟩
abbrev cX1_isDown : ByteArray := prog_3_method_5_code
def yX1_isDown : MethodName := ⟨RX1, "isDown", "()Z"⟩
abbrev cX1_isOnPaper : ByteArray := prog_3_method_8_code
def yX1_isOnPaper : MethodName := ⟨RX1, "isOnPaper", "(I)Z"⟩
def RX2 : String := "HillBoxes$Finder"
def TX2 : u_T := fun k => match k with
  | 0 => ("HillBoxes$Body", "number", "I", true)
  | 1 => ("HillBoxes$Body", "kind", "I", true)
  | 2 => ("HillBoxes$Finder", "home", "I", true)
  | 3 => ("HillBoxes$Finder", "since", "I", true)
  | _ => ("HillBoxes$Finder", "leftOn", "I", false)
def tyX2 : Nat → FieldType := fun k => match k with
  | 0 => .int
  | 1 => .int
  | 2 => .int
  | 3 => .int
  | _ => .int
abbrev wsX20 : List Cond := u_ws RX2 TX2 5
theorem nmX2 : ∀ a, a < 5 → ∀ b, b < 5 → a ≠ b → (TX2 a).2.1 ≠ (TX2 b).2.1 := by decide +kernel
theorem tyX2_ok : ∀ k, k < 5 → parseFieldDescriptor (TX2 k).2.2.1 = some (tyX2 k) := by decide +kernel
abbrev cX2_init : ByteArray := prog_4_method_1_code
def yX2_init : MethodName := ⟨RX2, "<init>", "(III)V"⟩
abbrev cX2_hasLeft : ByteArray := prog_4_method_2_code
def yX2_hasLeft : MethodName := ⟨RX2, "hasLeft", "()Z"⟩
def RX3 : String := "HillBoxes$Hills"
def TX3 : u_T := fun k => match k with
  | 0 => ("HillBoxes$Hills", "today", "I", false)
  | 1 => ("HillBoxes$Hills", "owners", "[I", true)
  | 2 => ("HillBoxes$Hills", "bodies", "[LHillBoxes$Body;", true)
  | 3 => ("HillBoxes$Hills", "size", "I", false)
  | 4 => ("HillBoxes$Hills", "steps", "[I", true)
  | 5 => ("HillBoxes$Hills", "stepCount", "I", false)
  | 6 => ("HillBoxes$Hills", "movedBox", "[I", true)
  | 7 => ("HillBoxes$Hills", "movedAt", "[I", true)
  | 8 => ("HillBoxes$Hills", "movedTo", "[I", true)
  | _ => ("HillBoxes$Hills", "moves", "I", false)
def tyX3 : Nat → FieldType := fun k => match k with
  | 0 => .int
  | 1 => .array .int
  | 2 => .array (.object "HillBoxes$Body")
  | 3 => .int
  | 4 => .array .int
  | 5 => .int
  | 6 => .array .int
  | 7 => .array .int
  | 8 => .array .int
  | _ => .int
abbrev wsX30 : List Cond := u_ws RX3 TX3 10
theorem nmX3 : ∀ a, a < 10 → ∀ b, b < 10 → a ≠ b → (TX3 a).2.1 ≠ (TX3 b).2.1 := by decide +kernel
theorem tyX3_ok : ∀ k, k < 10 → parseFieldDescriptor (TX3 k).2.2.1 = some (tyX3 k) := by decide +kernel
abbrev cX3_init : ByteArray := prog_5_method_1_code
def yX3_init : MethodName := ⟨RX3, "<init>", "()V"⟩
abbrev cX3_isFull : ByteArray := prog_5_method_2_code
def yX3_isFull : MethodName := ⟨RX3, "isFull", "()Z"⟩
abbrev cX3_enter : ByteArray := prog_5_method_3_code
def yX3_enter : MethodName := ⟨RX3, "enter", "(LHillBoxes$Body;)I"⟩
abbrev cX3_bodyAt : ByteArray := prog_5_method_4_code
def yX3_bodyAt : MethodName := ⟨RX3, "bodyAt", "(I)LHillBoxes$Body;"⟩
abbrev cX3_finderAt : ByteArray := prog_5_method_5_code
def yX3_finderAt : MethodName := ⟨RX3, "finderAt", "(I)LHillBoxes$Finder;"⟩
abbrev cX3_boxAt : ByteArray := prog_5_method_6_code
def yX3_boxAt : MethodName := ⟨RX3, "boxAt", "(I)LHillBoxes$Box;"⟩
abbrev cX3_ownOf : ByteArray := prog_5_method_8_code
def yX3_ownOf : MethodName := ⟨RX3, "ownOf", "(I)I"⟩
def RX4 : String := "HillBoxes$Logs"
def TX4 : u_T := fun k => match k with
  | 0 => ("HillBoxes$Logs", "finder", "[I", true)
  | 1 => ("HillBoxes$Logs", "found", "[Z", true)
  | 2 => ("HillBoxes$Logs", "size", "I", false)
  | 3 => ("HillBoxes$Logs", "tally", "[I", true)
  | 4 => ("HillBoxes$Logs", "box", "[I", true)
  | 5 => ("HillBoxes$Logs", "at", "[I", true)
  | 6 => ("HillBoxes$Logs", "tallied", "[Z", true)
  | 7 => ("HillBoxes$Logs", "hills", "LHillBoxes$Hills;", true)
  | _ => ("HillBoxes$Logs", "rules", "LHillBoxes$Rules;", true)
def tyX4 : Nat → FieldType := fun k => match k with
  | 0 => .array .int
  | 1 => .array .boolean
  | 2 => .int
  | 3 => .array .int
  | 4 => .array .int
  | 5 => .array .int
  | 6 => .array .boolean
  | 7 => .object "HillBoxes$Hills"
  | _ => .object "HillBoxes$Rules"
abbrev wsX40 : List Cond := u_ws RX4 TX4 9
theorem nmX4 : ∀ a, a < 9 → ∀ b, b < 9 → a ≠ b → (TX4 a).2.1 ≠ (TX4 b).2.1 := by decide +kernel
theorem tyX4_ok : ∀ k, k < 9 → parseFieldDescriptor (TX4 k).2.2.1 = some (tyX4 k) := by decide +kernel
abbrev cX4_init : ByteArray := prog_6_method_1_code
def yX4_init : MethodName := ⟨RX4, "<init>", "(LHillBoxes$Hills;LHillBoxes$Rules;)V"⟩
abbrev cX4_whereAfter : ByteArray := prog_6_method_18_code
def yX4_whereAfter : MethodName := ⟨RX4, "whereAfter", "(LHillBoxes$Thing;I)I"⟩
def RX5 : String := "HillBoxes$Riddle"
def TX5 : u_T := fun k => match k with
  | 0 => ("HillBoxes$Riddle", "solution", "I", false)
  | 1 => ("HillBoxes$Riddle", "solutionCell", "I", false)
  | 2 => ("HillBoxes$Riddle", "cells", "J", false)
  | 3 => ("HillBoxes$Riddle", "sorts", "[I", true)
  | 4 => ("HillBoxes$Riddle", "firsts", "[I", true)
  | 5 => ("HillBoxes$Riddle", "seconds", "[I", true)
  | 6 => ("HillBoxes$Riddle", "numbers", "[I", true)
  | 7 => ("HillBoxes$Riddle", "lasts", "[I", true)
  | 8 => ("HillBoxes$Riddle", "told", "I", false)
  | 9 => ("HillBoxes$Riddle", "letters", "I", false)
  | 10 => ("HillBoxes$Riddle", "x", "I", false)
  | 11 => ("HillBoxes$Riddle", "y", "I", false)
  | 12 => ("HillBoxes$Riddle", "digits", "[I", true)
  | 13 => ("HillBoxes$Riddle", "met", "I", false)
  | _ => ("HillBoxes$Riddle", "wanted", "I", false)
def tyX5 : Nat → FieldType := fun k => match k with
  | 0 => .int
  | 1 => .int
  | 2 => .long
  | 3 => .array .int
  | 4 => .array .int
  | 5 => .array .int
  | 6 => .array .int
  | 7 => .array .int
  | 8 => .int
  | 9 => .int
  | 10 => .int
  | 11 => .int
  | 12 => .array .int
  | 13 => .int
  | _ => .int
abbrev wsX50 : List Cond := u_ws RX5 TX5 15
theorem nmX5 : ∀ a, a < 15 → ∀ b, b < 15 → a ≠ b → (TX5 a).2.1 ≠ (TX5 b).2.1 := by decide +kernel
theorem tyX5_ok : ∀ k, k < 15 → parseFieldDescriptor (TX5 k).2.2.1 = some (tyX5 k) := by decide +kernel
abbrev cX5_init : ByteArray := prog_7_method_1_code
def yX5_init : MethodName := ⟨RX5, "<init>", "()V"⟩
def RX6 : String := "HillBoxes$Rules"
def TX6 : u_T := fun k => match k with
  | 0 => ("HillBoxes$Rules", "tape", "LHillBoxes$Tape;", true)
  | 1 => ("HillBoxes$Rules", "made", "I", false)
  | 2 => ("HillBoxes$Rules", "line", "I", false)
  | 3 => ("HillBoxes$Rules", "hills", "LHillBoxes$Hills;", true)
  | 4 => ("HillBoxes$Rules", "uses", "[I", true)
  | 5 => ("HillBoxes$Rules", "madeOn", "[I", true)
  | 6 => ("HillBoxes$Rules", "daysFrom", "[I", true)
  | 7 => ("HillBoxes$Rules", "codes", "[I", true)
  | 8 => ("HillBoxes$Rules", "codeLengths", "[I", true)
  | 9 => ("HillBoxes$Rules", "stack", "[I", true)
  | 10 => ("HillBoxes$Rules", "askedDay", "I", false)
  | 11 => ("HillBoxes$Rules", "askedFinder", "LHillBoxes$Finder;", false)
  | 12 => ("HillBoxes$Rules", "askedBox", "LHillBoxes$Box;", false)
  | 13 => ("HillBoxes$Rules", "askedKind", "I", false)
  | 14 => ("HillBoxes$Rules", "askedCell", "I", false)
  | _ => ("HillBoxes$Rules", "askedHour", "I", false)
def tyX6 : Nat → FieldType := fun k => match k with
  | 0 => .object "HillBoxes$Tape"
  | 1 => .int
  | 2 => .int
  | 3 => .object "HillBoxes$Hills"
  | 4 => .array .int
  | 5 => .array .int
  | 6 => .array .int
  | 7 => .array .int
  | 8 => .array .int
  | 9 => .array .int
  | 10 => .int
  | 11 => .object "HillBoxes$Finder"
  | 12 => .object "HillBoxes$Box"
  | 13 => .int
  | 14 => .int
  | _ => .int
abbrev wsX60 : List Cond := u_ws RX6 TX6 16
theorem nmX6 : ∀ a, a < 16 → ∀ b, b < 16 → a ≠ b → (TX6 a).2.1 ≠ (TX6 b).2.1 := by decide +kernel
theorem tyX6_ok : ∀ k, k < 16 → parseFieldDescriptor (TX6 k).2.2.1 = some (tyX6 k) := by decide +kernel
abbrev cX6_init : ByteArray := prog_8_method_1_code
def yX6_init : MethodName := ⟨RX6, "<init>", "(LHillBoxes$Hills;)V"⟩
abbrev cX6_isFull : ByteArray := prog_8_method_2_code
def yX6_isFull : MethodName := ⟨RX6, "isFull", "()Z"⟩
abbrev cX6_make : ByteArray := prog_8_method_4_code
def yX6_make : MethodName := ⟨RX6, "make", "(II)I"⟩
abbrev cX6_ruleFor : ByteArray := prog_8_method_5_code
def yX6_ruleFor : MethodName := ⟨RX6, "ruleFor", "(III)I"⟩
abbrev cX6_askForBox : ByteArray := prog_8_method_6_code
def yX6_askForBox : MethodName := ⟨RX6, "askForBox", "(ILHillBoxes$Finder;LHillBoxes$Box;I)V"⟩
abbrev cX6_askForKind : ByteArray := prog_8_method_7_code
def yX6_askForKind : MethodName := ⟨RX6, "askForKind", "(ILHillBoxes$Finder;II)V"⟩
abbrev cX6_answer : ByteArray := prog_8_method_8_code
def yX6_answer : MethodName := ⟨RX6, "answer", "(II)I"⟩
abbrev cX6_letsHide : ByteArray := prog_8_method_9_code
def yX6_letsHide : MethodName := ⟨RX6, "letsHide", "(LHillBoxes$Finder;II)Z"⟩
abbrev cX6_whyNot : ByteArray := prog_8_method_13_code
def yX6_whyNot : MethodName := ⟨RX6, "whyNot", "(LHillBoxes$Finder;II)I"⟩
abbrev cX6_leavesLet : ByteArray := prog_8_method_14_code
def yX6_leavesLet : MethodName := ⟨RX6, "leavesLet", "(LHillBoxes$Finder;II)Z"⟩
abbrev cX6_isNearKnown : ByteArray := prog_8_method_15_code
def yX6_isNearKnown : MethodName := ⟨RX6, "isNearKnown", "(II)Z"⟩
abbrev cX6_isNearSecret : ByteArray := prog_8_method_16_code
def yX6_isNearSecret : MethodName := ⟨RX6, "isNearSecret", "(II)Z"⟩
abbrev cX6_work : ByteArray := prog_8_method_17_code
def yX6_work : MethodName := ⟨RX6, "work", "(I)I"⟩
abbrev cX6_push : ByteArray := prog_8_method_18_code
def yX6_push : MethodName := ⟨RX6, "push", "(II)I"⟩
abbrev cX6_read : ByteArray := prog_8_method_19_code
def yX6_read : MethodName := ⟨RX6, "read", "(I)I"⟩
abbrev cX6_ofTwo : ByteArray := prog_8_method_20_code
def yX6_ofTwo : MethodName := ⟨RX6, "ofTwo", "(III)I"⟩
abbrev cX6_numberOf : ByteArray := prog_8_method_21_code
def yX6_numberOf : MethodName := ⟨RX6, "numberOf", "(I)I"⟩
def RX7 : String := "HillBoxes$Shelf"
def TX7 : u_T := fun k => match k with
  | 0 => ("HillBoxes$Shelf", "body", "LHillBoxes$Body;", false)
  | 1 => ("HillBoxes$Shelf", "isRow", "Z", false)
  | 2 => ("HillBoxes$Shelf", "sort", "I", false)
  | 3 => ("HillBoxes$Shelf", "size", "I", false)
  | _ => ("HillBoxes$Shelf", "elements", "[J", true)
def tyX7 : Nat → FieldType := fun k => match k with
  | 0 => .object "HillBoxes$Body"
  | 1 => .boolean
  | 2 => .int
  | 3 => .int
  | _ => .array .long
abbrev wsX70 : List Cond := u_ws RX7 TX7 5
theorem nmX7 : ∀ a, a < 5 → ∀ b, b < 5 → a ≠ b → (TX7 a).2.1 ≠ (TX7 b).2.1 := by decide +kernel
theorem tyX7_ok : ∀ k, k < 5 → parseFieldDescriptor (TX7 k).2.2.1 = some (tyX7 k) := by decide +kernel
abbrev cX7_init : ByteArray := prog_9_method_1_code
def yX7_init : MethodName := ⟨RX7, "<init>", "()V"⟩
def RX8 : String := "HillBoxes$Tape"
def TX8 : u_T := fun k => match k with
  | 0 => ("HillBoxes$Tape", "length", "I", false)
  | 1 => ("HillBoxes$Tape", "bytes", "[I", true)
  | 2 => ("HillBoxes$Tape", "tokens", "[I", true)
  | 3 => ("HillBoxes$Tape", "places", "[I", true)
  | 4 => ("HillBoxes$Tape", "values", "[I", true)
  | 5 => ("HillBoxes$Tape", "at", "I", false)
  | 6 => ("HillBoxes$Tape", "token", "I", false)
  | 7 => ("HillBoxes$Tape", "tokenNumber", "I", false)
  | 8 => ("HillBoxes$Tape", "fault", "I", false)
  | 9 => ("HillBoxes$Tape", "code", "[I", true)
  | _ => ("HillBoxes$Tape", "codeLength", "I", false)
def tyX8 : Nat → FieldType := fun k => match k with
  | 0 => .int
  | 1 => .array .int
  | 2 => .array .int
  | 3 => .array .int
  | 4 => .array .int
  | 5 => .int
  | 6 => .int
  | 7 => .int
  | 8 => .int
  | 9 => .array .int
  | _ => .int
abbrev wsX80 : List Cond := u_ws RX8 TX8 11
theorem nmX8 : ∀ a, a < 11 → ∀ b, b < 11 → a ≠ b → (TX8 a).2.1 ≠ (TX8 b).2.1 := by decide +kernel
theorem tyX8_ok : ∀ k, k < 11 → parseFieldDescriptor (TX8 k).2.2.1 = some (tyX8 k) := by decide +kernel
abbrev cX8_init : ByteArray := prog_10_method_1_code
def yX8_init : MethodName := ⟨RX8, "<init>", "()V"⟩
abbrev cX8_hasRoomFor : ByteArray := prog_10_method_2_code
def yX8_hasRoomFor : MethodName := ⟨RX8, "hasRoomFor", "(I)Z"⟩
abbrev cX8_append : ByteArray := prog_10_method_3_code
def yX8_append : MethodName := ⟨RX8, "append", "(I)V"⟩
abbrev cX8_copyCode : ByteArray := prog_10_method_4_code
def yX8_copyCode : MethodName := ⟨RX8, "copyCode", "([II)I"⟩
abbrev cX8_compile : ByteArray := prog_10_method_5_code
def yX8_compile : MethodName := ⟨RX8, "compile", "()I"⟩
abbrev cX8_blame : ByteArray := prog_10_method_6_code
def yX8_blame : MethodName := ⟨RX8, "blame", "()V"⟩
abbrev cX8_emit : ByteArray := prog_10_method_7_code
def yX8_emit : MethodName := ⟨RX8, "emit", "(I)V"⟩
abbrev cX8_readLine : ByteArray := prog_10_method_8_code
def yX8_readLine : MethodName := ⟨RX8, "readLine", "()V"⟩
abbrev cX8_expect : ByteArray := prog_10_method_9_code
def yX8_expect : MethodName := ⟨RX8, "expect", "(I)V"⟩
abbrev cX8_readEither : ByteArray := prog_10_method_10_code
def yX8_readEither : MethodName := ⟨RX8, "readEither", "(I)V"⟩
abbrev cX8_readBoth : ByteArray := prog_10_method_11_code
def yX8_readBoth : MethodName := ⟨RX8, "readBoth", "(I)V"⟩
abbrev cX8_readDenied : ByteArray := prog_10_method_12_code
def yX8_readDenied : MethodName := ⟨RX8, "readDenied", "(I)V"⟩
abbrev cX8_readSum : ByteArray := prog_10_method_13_code
def yX8_readSum : MethodName := ⟨RX8, "readSum", "(I)V"⟩
abbrev cX8_readProduct : ByteArray := prog_10_method_14_code
def yX8_readProduct : MethodName := ⟨RX8, "readProduct", "(I)V"⟩
abbrev cX8_readOne : ByteArray := prog_10_method_15_code
def yX8_readOne : MethodName := ⟨RX8, "readOne", "(I)V"⟩
abbrev cX8_mayOpen : ByteArray := prog_10_method_16_code
def yX8_mayOpen : MethodName := ⟨RX8, "mayOpen", "(I)Z"⟩
abbrev cX8_advance : ByteArray := prog_10_method_17_code
def yX8_advance : MethodName := ⟨RX8, "advance", "()V"⟩
abbrev cX8_splitIntoTokens : ByteArray := prog_10_method_18_code
def yX8_splitIntoTokens : MethodName := ⟨RX8, "splitIntoTokens", "()V"⟩
abbrev cX8_skipBlanks : ByteArray := prog_10_method_19_code
def yX8_skipBlanks : MethodName := ⟨RX8, "skipBlanks", "()V"⟩
abbrev cX8_byteAt : ByteArray := prog_10_method_20_code
def yX8_byteAt : MethodName := ⟨RX8, "byteAt", "(I)I"⟩
abbrev cX8_isLetter : ByteArray := prog_10_method_21_code
def yX8_isLetter : MethodName := ⟨RX8, "isLetter", "(I)Z"⟩
abbrev cX8_isDigit : ByteArray := prog_10_method_22_code
def yX8_isDigit : MethodName := ⟨RX8, "isDigit", "(I)Z"⟩
abbrev cX8_readNumber : ByteArray := prog_10_method_23_code
def yX8_readNumber : MethodName := ⟨RX8, "readNumber", "(I)V"⟩
abbrev cX8_readWord : ByteArray := prog_10_method_24_code
def yX8_readWord : MethodName := ⟨RX8, "readWord", "(I)V"⟩
abbrev cX8_wordNumber : ByteArray := prog_10_method_25_code
def yX8_wordNumber : MethodName := ⟨RX8, "wordNumber", "(II)I"⟩
abbrev cX8_isWord : ByteArray := prog_10_method_26_code
def yX8_isWord : MethodName := ⟨RX8, "isWord", "(III)Z"⟩
def RX9 : String := "HillBoxes$Thing"
def TX9 : u_T := fun k => match k with
  | _ => ("", "", "", false)
def tyX9 : Nat → FieldType := fun k => match k with
  | _ => .int
abbrev wsX90 : List Cond := u_ws RX9 TX9 0
theorem nmX9 : ∀ a, a < 0 → ∀ b, b < 0 → a ≠ b → (TX9 a).2.1 ≠ (TX9 b).2.1 := by decide +kernel
theorem tyX9_ok : ∀ k, k < 0 → parseFieldDescriptor (TX9 k).2.2.1 = some (tyX9 k) := by decide +kernel
def RX10 : String := "HillBoxes$Walks"
def TX10 : u_T := fun k => match k with
  | 0 => ("HillBoxes$Walks", "wishes", "I", false)
  | 1 => ("HillBoxes$Walks", "walkedHours", "I", false)
  | 2 => ("HillBoxes$Walks", "walkedCount", "I", false)
  | 3 => ("HillBoxes$Walks", "walked", "[I", true)
  | 4 => ("HillBoxes$Walks", "boxes", "[LHillBoxes$Box;", true)
  | 5 => ("HillBoxes$Walks", "worths", "[I", true)
  | 6 => ("HillBoxes$Walks", "stays", "[I", true)
  | 7 => ("HillBoxes$Walks", "row", "[I", true)
  | 8 => ("HillBoxes$Walks", "rowCount", "I", false)
  | 9 => ("HillBoxes$Walks", "best", "[I", true)
  | 10 => ("HillBoxes$Walks", "bestCount", "I", false)
  | 11 => ("HillBoxes$Walks", "bestWorth", "I", false)
  | 12 => ("HillBoxes$Walks", "bestHours", "I", false)
  | 13 => ("HillBoxes$Walks", "home", "I", false)
  | 14 => ("HillBoxes$Walks", "setOutHour", "I", false)
  | _ => ("HillBoxes$Walks", "limit", "I", false)
def tyX10 : Nat → FieldType := fun k => match k with
  | 0 => .int
  | 1 => .int
  | 2 => .int
  | 3 => .array .int
  | 4 => .array (.object "HillBoxes$Box")
  | 5 => .array .int
  | 6 => .array .int
  | 7 => .array .int
  | 8 => .int
  | 9 => .array .int
  | 10 => .int
  | 11 => .int
  | 12 => .int
  | 13 => .int
  | 14 => .int
  | _ => .int
abbrev wsX100 : List Cond := u_ws RX10 TX10 16
theorem nmX10 : ∀ a, a < 16 → ∀ b, b < 16 → a ≠ b → (TX10 a).2.1 ≠ (TX10 b).2.1 := by decide +kernel
theorem tyX10_ok : ∀ k, k < 16 → parseFieldDescriptor (TX10 k).2.2.1 = some (tyX10 k) := by decide +kernel
abbrev cX10_init : ByteArray := prog_12_method_1_code
def yX10_init : MethodName := ⟨RX10, "<init>", "()V"⟩
def RX11 : String := "HillBoxes"
def TX11 : u_T := fun k => match k with
  | 0 => ("HillBoxes", "hills", "LHillBoxes$Hills;", true)
  | 1 => ("HillBoxes", "rules", "LHillBoxes$Rules;", true)
  | 2 => ("HillBoxes", "logs", "LHillBoxes$Logs;", true)
  | 3 => ("HillBoxes", "walks", "LHillBoxes$Walks;", true)
  | 4 => ("HillBoxes", "shelves", "[LHillBoxes$Shelf;", true)
  | _ => ("HillBoxes", "trace", "[I", true)
def tyX11 : Nat → FieldType := fun k => match k with
  | 0 => .object "HillBoxes$Hills"
  | 1 => .object "HillBoxes$Rules"
  | 2 => .object "HillBoxes$Logs"
  | 3 => .object "HillBoxes$Walks"
  | 4 => .array (.object "HillBoxes$Shelf")
  | _ => .array .int
abbrev wsX110 : List Cond := u_ws RX11 TX11 6
theorem nmX11 : ∀ a, a < 6 → ∀ b, b < 6 → a ≠ b → (TX11 a).2.1 ≠ (TX11 b).2.1 := by decide +kernel
theorem tyX11_ok : ∀ k, k < 6 → parseFieldDescriptor (TX11 k).2.2.1 = some (tyX11 k) := by decide +kernel
abbrev cX11_init : ByteArray := prog_1_method_1_code
def yX11_init : MethodName := ⟨RX11, "<init>", "()V"⟩
abbrev cX11_owner : ByteArray := prog_1_method_3_code
def yX11_owner : MethodName := ⟨RX11, "owner", "(II)I"⟩
abbrev cX11_finder : ByteArray := prog_1_method_5_code
def yX11_finder : MethodName := ⟨RX11, "finder", "(I)I"⟩
abbrev cX11_step : ByteArray := prog_1_method_7_code
def yX11_step : MethodName := ⟨RX11, "step", "(I)I"⟩
abbrev cX11_why : ByteArray := prog_1_method_8_code
def yX11_why : MethodName := ⟨RX11, "why", "(IIII)I"⟩
abbrev cX11_hide : ByteArray := prog_1_method_9_code
def yX11_hide : MethodName := ⟨RX11, "hide", "(III)I"⟩
abbrev cX11_down : ByteArray := prog_1_method_11_code
def yX11_down : MethodName := ⟨RX11, "down", "(I)I"⟩
abbrev cX11_ofBody : ByteArray := prog_1_method_12_code
def yX11_ofBody : MethodName := ⟨RX11, "ofBody", "(II)I"⟩
abbrev cX11_feed : ByteArray := prog_1_method_14_code
def yX11_feed : MethodName := ⟨RX11, "feed", "(II)I"⟩
abbrev cX11_rule : ByteArray := prog_1_method_15_code
def yX11_rule : MethodName := ⟨RX11, "rule", "(II)I"⟩
abbrev cX11_count : ByteArray := prog_1_method_53_code
def yX11_count : MethodName := ⟨RX11, "count", "(I)I"⟩
abbrev cX11_isCell : ByteArray := prog_1_method_54_code
def yX11_isCell : MethodName := ⟨RX11, "isCell", "(I)Z"⟩
abbrev cX11_isDay : ByteArray := prog_1_method_55_code
def yX11_isDay : MethodName := ⟨RX11, "isDay", "(I)Z"⟩
abbrev cX11_isUse : ByteArray := prog_1_method_56_code
def yX11_isUse : MethodName := ⟨RX11, "isUse", "(I)Z"⟩
abbrev cX11_isKindOfBox : ByteArray := prog_1_method_57_code
def yX11_isKindOfBox : MethodName := ⟨RX11, "isKindOfBox", "(I)Z"⟩
abbrev cX11_far : ByteArray := prog_1_method_58_code
def yX11_far : MethodName := ⟨RX11, "far", "(II)I"⟩
abbrev cX11_mayBeAsked : ByteArray := prog_1_method_61_code
def yX11_mayBeAsked : MethodName := ⟨RX11, "mayBeAsked", "(II)Z"⟩
abbrev cX11_asToldToTheAsker : ByteArray := prog_1_method_62_code
def yX11_asToldToTheAsker : MethodName := ⟨RX11, "asToldToTheAsker", "(I)I"⟩
abbrev cX11_ofFinder : ByteArray := prog_1_method_64_code
def yX11_ofFinder : MethodName := ⟨RX11, "ofFinder", "(LHillBoxes$Finder;I)I"⟩
abbrev cX11_ofBox : ByteArray := prog_1_method_65_code
def yX11_ofBox : MethodName := ⟨RX11, "ofBox", "(LHillBoxes$Box;I)I"⟩
abbrev cX11_ofThing : ByteArray := prog_1_method_66_code
def yX11_ofThing : MethodName := ⟨RX11, "ofThing", "(LHillBoxes$Thing;I)I"⟩
abbrev cX11_countBoxes : ByteArray := prog_1_method_71_code
def yX11_countBoxes : MethodName := ⟨RX11, "countBoxes", "(Z)I"⟩
abbrev cX11_countFinders : ByteArray := prog_1_method_72_code
def yX11_countFinders : MethodName := ⟨RX11, "countFinders", "(Z)I"⟩
def RX12 : String := "HillBoxesModel"
def TX12 : u_T := fun k => match k with
  | _ => ("", "", "", false)
def tyX12 : Nat → FieldType := fun k => match k with
  | _ => .int
abbrev wsX120 : List Cond := u_ws RX12 TX12 0
theorem nmX12 : ∀ a, a < 0 → ∀ b, b < 0 → a ≠ b → (TX12 a).2.1 ≠ (TX12 b).2.1 := by decide +kernel
theorem tyX12_ok : ∀ k, k < 0 → parseFieldDescriptor (TX12 k).2.2.1 = some (tyX12 k) := by decide +kernel
def RJx145de : String := "java/io/Serializable"
def TJx145de : u_T := fun k => match k with
  | _ => ("", "", "", false)
def tyJx145de : Nat → FieldType := fun k => match k with
  | _ => .int
abbrev wsJx145de0 : List Cond := u_ws RJx145de TJx145de 0
theorem nmJx145de : ∀ a, a < 0 → ∀ b, b < 0 → a ≠ b → (TJx145de a).2.1 ≠ (TJx145de b).2.1 := by decide +kernel
theorem tyJx145de_ok : ∀ k, k < 0 → parseFieldDescriptor (TJx145de k).2.2.1 = some (tyJx145de k) := by decide +kernel
def RJx9f9b0 : String := "java/lang/CharSequence"
def TJx9f9b0 : u_T := fun k => match k with
  | _ => ("", "", "", false)
def tyJx9f9b0 : Nat → FieldType := fun k => match k with
  | _ => .int
abbrev wsJx9f9b00 : List Cond := u_ws RJx9f9b0 TJx9f9b0 0
theorem nmJx9f9b0 : ∀ a, a < 0 → ∀ b, b < 0 → a ≠ b → (TJx9f9b0 a).2.1 ≠ (TJx9f9b0 b).2.1 := by decide +kernel
theorem tyJx9f9b0_ok : ∀ k, k < 0 → parseFieldDescriptor (TJx9f9b0 k).2.2.1 = some (tyJx9f9b0 k) := by decide +kernel
def RJ11 : String := "java/lang/Character"
def TJ11 : u_T := fun k => match k with
  | _ => ("", "", "", false)
def tyJ11 : Nat → FieldType := fun k => match k with
  | _ => .int
abbrev wsJ110 : List Cond := u_ws RJ11 TJ11 0
theorem nmJ11 : ∀ a, a < 0 → ∀ b, b < 0 → a ≠ b → (TJ11 a).2.1 ≠ (TJ11 b).2.1 := by decide +kernel
theorem tyJ11_ok : ∀ k, k < 0 → parseFieldDescriptor (TJ11 k).2.2.1 = some (tyJ11 k) := by decide +kernel
abbrev cJ11_isValidCodePoint_9a6ad : ByteArray := prog_15_method_11_code
def yJ11_isValidCodePoint_9a6ad : MethodName := ⟨RJ11, "isValidCodePoint", "(I)Z"⟩
abbrev cJ11_highSurrogate_5068e : ByteArray := prog_15_method_28_code
def yJ11_highSurrogate_5068e : MethodName := ⟨RJ11, "highSurrogate", "(I)C"⟩
abbrev cJ11_lowSurrogate_5068e : ByteArray := prog_15_method_29_code
def yJ11_lowSurrogate_5068e : MethodName := ⟨RJ11, "lowSurrogate", "(I)C"⟩
def RJxb160c : String := "java/lang/Comparable"
def TJxb160c : u_T := fun k => match k with
  | _ => ("", "", "", false)
def tyJxb160c : Nat → FieldType := fun k => match k with
  | _ => .int
abbrev wsJxb160c0 : List Cond := u_ws RJxb160c TJxb160c 0
theorem nmJxb160c : ∀ a, a < 0 → ∀ b, b < 0 → a ≠ b → (TJxb160c a).2.1 ≠ (TJxb160c b).2.1 := by decide +kernel
theorem tyJxb160c_ok : ∀ k, k < 0 → parseFieldDescriptor (TJxb160c k).2.2.1 = some (tyJxb160c k) := by decide +kernel
def RJ9 : String := "java/lang/Math"
def TJ9 : u_T := fun k => match k with
  | _ => ("", "", "", false)
def tyJ9 : Nat → FieldType := fun k => match k with
  | _ => .int
abbrev wsJ90 : List Cond := u_ws RJ9 TJ9 0
theorem nmJ9 : ∀ a, a < 0 → ∀ b, b < 0 → a ≠ b → (TJ9 a).2.1 ≠ (TJ9 b).2.1 := by decide +kernel
theorem tyJ9_ok : ∀ k, k < 0 → parseFieldDescriptor (TJ9 k).2.2.1 = some (tyJ9 k) := by decide +kernel
abbrev cJ9_abs_0f7a4 : ByteArray := prog_16_method_59_code
def yJ9_abs_0f7a4 : MethodName := ⟨RJ9, "abs", "(I)I"⟩
abbrev cJ9_max_7cf53 : ByteArray := prog_16_method_65_code
def yJ9_max_7cf53 : MethodName := ⟨RJ9, "max", "(II)I"⟩
abbrev cJ9_min_7cf53 : ByteArray := prog_16_method_69_code
def yJ9_min_7cf53 : MethodName := ⟨RJ9, "min", "(II)I"⟩
def RJ0 : String := "java/lang/String"
def TJ0 : u_T := fun k => match k with
  | _ => ("", "", "", false)
def tyJ0 : Nat → FieldType := fun k => match k with
  | _ => .int
abbrev wsJ00 : List Cond := u_ws RJ0 TJ0 0
theorem nmJ0 : ∀ a, a < 0 → ∀ b, b < 0 → a ≠ b → (TJ0 a).2.1 ≠ (TJ0 b).2.1 := by decide +kernel
theorem tyJ0_ok : ∀ k, k < 0 → parseFieldDescriptor (TJ0 k).2.2.1 = some (tyJ0 k) := by decide +kernel
abbrev cJ0_length_8abf5 : ByteArray := prog_17_method_54_code
def yJ0_length_8abf5 : MethodName := ⟨RJ0, "length", "()I"⟩
abbrev cJ0_charAt_5068e : ByteArray := prog_17_method_56_code
def yJ0_charAt_5068e : MethodName := ⟨RJ0, "charAt", "(I)C"⟩
abbrev cJ0_indexOf_0f7a4 : ByteArray := prog_17_method_79_code
def yJ0_indexOf_0f7a4 : MethodName := ⟨RJ0, "indexOf", "(I)I"⟩
abbrev cJ0_indexOf_7cf53 : ByteArray := prog_17_method_80_code
def yJ0_indexOf_7cf53 : MethodName := ⟨RJ0, "indexOf", "(II)I"⟩
abbrev cJ0_coder_7d493 : ByteArray := prog_17_method_152_code
def yJ0_coder_7d493 : MethodName := ⟨RJ0, "coder", "()B"⟩
abbrev cJ0_isLatin1_aae02 : ByteArray := prog_17_method_154_code
def yJ0_isLatin1_aae02 : MethodName := ⟨RJ0, "isLatin1", "()Z"⟩
abbrev cJ0_checkIndex_df160 : ByteArray := prog_17_method_155_code
def yJ0_checkIndex_df160 : MethodName := ⟨RJ0, "checkIndex", "(II)V"⟩
abbrev cJ0_checkBoundsBeginEnd_23922 : ByteArray := prog_17_method_158_code
def yJ0_checkBoundsBeginEnd_23922 : MethodName := ⟨RJ0, "checkBoundsBeginEnd", "(III)V"⟩
def RJ1 : String := "java/lang/StringLatin1"
def TJ1 : u_T := fun k => match k with
  | _ => ("", "", "", false)
def tyJ1 : Nat → FieldType := fun k => match k with
  | _ => .int
abbrev wsJ10 : List Cond := u_ws RJ1 TJ1 0
theorem nmJ1 : ∀ a, a < 0 → ∀ b, b < 0 → a ≠ b → (TJ1 a).2.1 ≠ (TJ1 b).2.1 := by decide +kernel
theorem tyJ1_ok : ∀ k, k < 0 → parseFieldDescriptor (TJ1 k).2.2.1 = some (tyJ1 k) := by decide +kernel
abbrev cJ1_charAt_3b067 : ByteArray := prog_18_method_2_code
def yJ1_charAt_3b067 : MethodName := ⟨RJ1, "charAt", "([BI)C"⟩
abbrev cJ1_canEncode_9a6ad : ByteArray := prog_18_method_4_code
def yJ1_canEncode_9a6ad : MethodName := ⟨RJ1, "canEncode", "(I)Z"⟩
abbrev cJ1_indexOf_4cfef : ByteArray := prog_18_method_22_code
def yJ1_indexOf_4cfef : MethodName := ⟨RJ1, "indexOf", "([BIII)I"⟩
abbrev cJ1_indexOfChar_4cfef : ByteArray := prog_18_method_23_code
def yJ1_indexOfChar_4cfef : MethodName := ⟨RJ1, "indexOfChar", "([BIII)I"⟩
def RJ2 : String := "java/lang/StringUTF16"
def TJ2 : u_T := fun k => match k with
  | _ => ("", "", "", false)
def tyJ2 : Nat → FieldType := fun k => match k with
  | _ => .int
abbrev wsJ20 : List Cond := u_ws RJ2 TJ2 0
theorem nmJ2 : ∀ a, a < 0 → ∀ b, b < 0 → a ≠ b → (TJ2 a).2.1 ≠ (TJ2 b).2.1 := by decide +kernel
theorem tyJ2_ok : ∀ k, k < 0 → parseFieldDescriptor (TJ2 k).2.2.1 = some (tyJ2 k) := by decide +kernel
abbrev cJ2_getChar_3b067 : ByteArray := prog_19_method_5_code
def yJ2_getChar_3b067 : MethodName := ⟨RJ2, "getChar", "([BI)C"⟩
abbrev cJ2_length_9d52b : ByteArray := prog_19_method_6_code
def yJ2_length_9d52b : MethodName := ⟨RJ2, "length", "([B)I"⟩
abbrev cJ2_indexOf_4cfef : ByteArray := prog_19_method_40_code
def yJ2_indexOf_4cfef : MethodName := ⟨RJ2, "indexOf", "([BIII)I"⟩
abbrev cJ2_indexOfChar_4cfef : ByteArray := prog_19_method_47_code
def yJ2_indexOfChar_4cfef : MethodName := ⟨RJ2, "indexOfChar", "([BIII)I"⟩
abbrev cJ2_indexOfCharUnsafe_4cfef : ByteArray := prog_19_method_48_code
def yJ2_indexOfCharUnsafe_4cfef : MethodName := ⟨RJ2, "indexOfCharUnsafe", "([BIII)I"⟩
abbrev cJ2_indexOfSupplementary_4cfef : ByteArray := prog_19_method_49_code
def yJ2_indexOfSupplementary_4cfef : MethodName := ⟨RJ2, "indexOfSupplementary", "([BIII)I"⟩
abbrev cJ2_charAt_3b067 : ByteArray := prog_19_method_83_code
def yJ2_charAt_3b067 : MethodName := ⟨RJ2, "charAt", "([BI)C"⟩
abbrev cJ2_checkIndex_2214a : ByteArray := prog_19_method_91_code
def yJ2_checkIndex_2214a : MethodName := ⟨RJ2, "checkIndex", "(I[B)V"⟩
abbrev cJ2_checkBoundsBeginEnd_d044e : ByteArray := prog_19_method_93_code
def yJ2_checkBoundsBeginEnd_d044e : MethodName := ⟨RJ2, "checkBoundsBeginEnd", "(II[B)V"⟩
def RJ10 : String := "java/lang/System"
def TJ10 : u_T := fun k => match k with
  | _ => ("", "", "", false)
def tyJ10 : Nat → FieldType := fun k => match k with
  | _ => .int
abbrev wsJ100 : List Cond := u_ws RJ10 TJ10 0
theorem nmJ10 : ∀ a, a < 0 → ∀ b, b < 0 → a ≠ b → (TJ10 a).2.1 ≠ (TJ10 b).2.1 := by decide +kernel
theorem tyJ10_ok : ∀ k, k < 0 → parseFieldDescriptor (TJ10 k).2.2.1 = some (tyJ10 k) := by decide +kernel
def RJxfd54e : String := "java/lang/constant/Constable"
def TJxfd54e : u_T := fun k => match k with
  | _ => ("", "", "", false)
def tyJxfd54e : Nat → FieldType := fun k => match k with
  | _ => .int
abbrev wsJxfd54e0 : List Cond := u_ws RJxfd54e TJxfd54e 0
theorem nmJxfd54e : ∀ a, a < 0 → ∀ b, b < 0 → a ≠ b → (TJxfd54e a).2.1 ≠ (TJxfd54e b).2.1 := by decide +kernel
theorem tyJxfd54e_ok : ∀ k, k < 0 → parseFieldDescriptor (TJxfd54e k).2.2.1 = some (tyJxfd54e k) := by decide +kernel
def RJx3cf43 : String := "java/lang/constant/ConstantDesc"
def TJx3cf43 : u_T := fun k => match k with
  | _ => ("", "", "", false)
def tyJx3cf43 : Nat → FieldType := fun k => match k with
  | _ => .int
abbrev wsJx3cf430 : List Cond := u_ws RJx3cf43 TJx3cf43 0
theorem nmJx3cf43 : ∀ a, a < 0 → ∀ b, b < 0 → a ≠ b → (TJx3cf43 a).2.1 ≠ (TJx3cf43 b).2.1 := by decide +kernel
theorem tyJx3cf43_ok : ∀ k, k < 0 → parseFieldDescriptor (TJx3cf43 k).2.2.1 = some (tyJx3cf43 k) := by decide +kernel
def RJ7 : String := "java/util/Arrays"
def TJ7 : u_T := fun k => match k with
  | _ => ("", "", "", false)
def tyJ7 : Nat → FieldType := fun k => match k with
  | _ => .int
abbrev wsJ70 : List Cond := u_ws RJ7 TJ7 0
theorem nmJ7 : ∀ a, a < 0 → ∀ b, b < 0 → a ≠ b → (TJ7 a).2.1 ≠ (TJ7 b).2.1 := by decide +kernel
theorem tyJ7_ok : ∀ k, k < 0 → parseFieldDescriptor (TJ7 k).2.2.1 = some (tyJ7 k) := by decide +kernel
abbrev cJ7_fill_53178 : ByteArray := prog_21_method_103_code
def yJ7_fill_53178 : MethodName := ⟨RJ7, "fill", "([II)V"⟩
def RJ3 : String := "jdk/internal/util/Preconditions"
def TJ3 : u_T := fun k => match k with
  | _ => ("", "", "", false)
def tyJ3 : Nat → FieldType := fun k => match k with
  | _ => .int
abbrev wsJ30 : List Cond := u_ws RJ3 TJ3 0
theorem nmJ3 : ∀ a, a < 0 → ∀ b, b < 0 → a ≠ b → (TJ3 a).2.1 ≠ (TJ3 b).2.1 := by decide +kernel
theorem tyJ3_ok : ∀ k, k < 0 → parseFieldDescriptor (TJ3 k).2.2.1 = some (tyJ3 k) := by decide +kernel
abbrev cJ3_checkIndex_8e157 : ByteArray := prog_22_method_11_code
def yJ3_checkIndex_8e157 : MethodName := ⟨RJ3, "checkIndex", "(IILjava/util/function/BiFunction;)I"⟩
abbrev cJ3_checkFromToIndex_8c36e : ByteArray := prog_22_method_12_code
def yJ3_checkFromToIndex_8c36e : MethodName := ⟨RJ3, "checkFromToIndex", "(IIILjava/util/function/BiFunction;)I"⟩
def RL : String := "HillBoxesLaw"
abbrev cL_tell : ByteArray := method_2_code
def yL_tell : MethodName := ⟨RL, "tell", "(LHillBoxes;[II)Z"⟩
abbrev cL_cell : ByteArray := method_3_code
def yL_cell : MethodName := ⟨RL, "cell", "([II)I"⟩
abbrev cL_far : ByteArray := method_4_code
def yL_far : MethodName := ⟨RL, "far", "(II)I"⟩
abbrev cL_law : ByteArray := code
def yL_law : MethodName := ⟨RL, "law", "([I)Z"⟩
theorem inX0 : ∀ w ∈ wsX00, w ∈ lw_big := in_big [] (by decide +kernel) (by decide +kernel)
theorem inX1 : ∀ w ∈ wsX10, w ∈ lw_big := in_big [591, 592, 557, 559, 561, 563, 565, 567, 569, 571, 573, 575, 577, 579, 581, 583, 585, 587, 589] (by decide +kernel) (by decide +kernel)
theorem inX2 : ∀ w ∈ wsX20, w ∈ lw_big := in_big [347, 349, 341, 343, 345] (by decide +kernel) (by decide +kernel)
theorem inX3 : ∀ w ∈ wsX30, w ∈ lw_big := in_big [56, 58, 60, 62, 64, 66, 68, 70, 72, 74] (by decide +kernel) (by decide +kernel)
theorem inX4 : ∀ w ∈ wsX40, w ∈ lw_big := in_big [192, 194, 196, 198, 200, 202, 204, 206, 208] (by decide +kernel) (by decide +kernel)
theorem inX5 : ∀ w ∈ wsX50, w ∈ lw_big := in_big [498, 500, 502, 504, 506, 508, 510, 512, 514, 516, 518, 520, 522, 524, 526] (by decide +kernel) (by decide +kernel)
theorem inX6 : ∀ w ∈ wsX60, w ∈ lw_big := in_big [144, 146, 148, 150, 152, 154, 156, 158, 160, 162, 164, 166, 168, 170, 172, 174] (by decide +kernel) (by decide +kernel)
theorem inX7 : ∀ w ∈ wsX70, w ∈ lw_big := in_big [268, 270, 272, 274, 276] (by decide +kernel) (by decide +kernel)
theorem inX8 : ∀ w ∈ wsX80, w ∈ lw_big := in_big [103, 105, 107, 109, 111, 113, 115, 117, 119, 121, 123] (by decide +kernel) (by decide +kernel)
theorem inX9 : ∀ w ∈ wsX90, w ∈ lw_big := in_big [] (by decide +kernel) (by decide +kernel)
theorem inX10 : ∀ w ∈ wsX100, w ∈ lw_big := in_big [227, 229, 231, 233, 235, 237, 239, 241, 243, 245, 247, 249, 251, 253, 255, 257] (by decide +kernel) (by decide +kernel)
theorem inX11 : ∀ w ∈ wsX110, w ∈ lw_big := in_big [286, 288, 290, 292, 294, 296] (by decide +kernel) (by decide +kernel)
theorem inX12 : ∀ w ∈ wsX120, w ∈ lw_big := in_big [] (by decide +kernel) (by decide +kernel)
abbrev vwCl : List vw_C := [(RX1, TX1, 19), (RX2, TX2, 5), (RX3, TX3, 10), (RX4, TX4, 9), (RX5, TX5, 15), (RX6, TX6, 16), (RX7, TX7, 5), (RX8, TX8, 11), (RX10, TX10, 16), (RX11, TX11, 6)]
end
section
/-! THE HEAP IN PLAIN NUMBERS: cells by number, each of a sort and a length; what stands in them by cell and place -/
/-- sorts: 0 .. 12 an object of that class (vwCl), 20 int[], 21 short[], 22 byte[], 23 boolean[], 24 long[], 25 Body[], 26 Box[], 27 Shelf[] -/
abbrev AH : Type := List (Nat × Nat) × (Nat → Nat → Int32) × (Nat → Nat → Int64) × (Nat → Nat → Option Nat)
def hS (h : AH) : List (Nat × Nat) := h.1
def hI (h : AH) : Nat → Nat → Int32 := h.2.1
def hL (h : AH) : Nat → Nat → Int64 := h.2.2.1
def hR (h : AH) : Nat → Nat → Option Nat := h.2.2.2
def u2 {α : Type} (f : Nat → Nat → α) (a i : Nat) (v : α) : Nat → Nat → α := fun b j => if b = a ∧ j = i then v else f b j
def uR {α : Type} (f : Nat → Nat → α) (a : Nat) (g : Nat → α) : Nat → Nat → α := fun b j => if b = a then g j else f b j
def wI (h : AH) (a i : Nat) (v : Int32) : AH := (h.1, u2 h.2.1 a i v, h.2.2.1, h.2.2.2)
def wL (h : AH) (a i : Nat) (v : Int64) : AH := (h.1, h.2.1, u2 h.2.2.1 a i v, h.2.2.2)
def wR (h : AH) (a i : Nat) (v : Option Nat) : AH := (h.1, h.2.1, h.2.2.1, u2 h.2.2.2 a i v)
def rwI (h : AH) (a : Nat) (g : Nat → Int32) : AH := (h.1, uR h.2.1 a g, h.2.2.1, h.2.2.2)
def rwL (h : AH) (a : Nat) (g : Nat → Int64) : AH := (h.1, h.2.1, uR h.2.2.1 a g, h.2.2.2)
def grow (h : AH) (t n : Nat) : AH := (h.1 ++ [(t, n)], uR h.2.1 h.1.length (fun _ => 0), uR h.2.2.1 h.1.length (fun _ => 0), uR h.2.2.2 h.1.length (fun _ => none))
-- reading, by a reference that may be null
def gI (h : AH) (r : Option Nat) (k : Nat) : Int32 := match r with | none => 0 | some a => hI h a k
def gL (h : AH) (r : Option Nat) (k : Nat) : Int64 := match r with | none => 0 | some a => hL h a k
def gR (h : AH) (r : Option Nat) (k : Nat) : Option Nat := match r with | none => none | some a => hR h a k
def sI (h : AH) (r : Option Nat) (k : Nat) (v : Int32) : AH := match r with | none => h | some a => wI h a k v
def sL (h : AH) (r : Option Nat) (k : Nat) (v : Int64) : AH := match r with | none => h | some a => wL h a k v
def sR (h : AH) (r : Option Nat) (k : Nat) (v : Option Nat) : AH := match r with | none => h | some a => wR h a k v
def okT (h : AH) (cs : List Nat) (r : Option Nat) : Bool := match r with | none => false | some a => match (hS h)[a]? with | none => false | some q => cs.contains q.1
def okA (h : AH) (t : Nat) (r : Option Nat) (i : Int32) : Bool := match r with | none => false | some a => match (hS h)[a]? with | none => false | some q => q.1 == t && !(decide (i < 0) || decide (q.2 ≤ i.toNatClampNeg))
-- the steps of a printed method, each with what comes after it
def fI {ρ : Type} (h : AH) (cs : List Nat) (r : Option Nat) (k : Nat) (K : Int32 → Option ρ) : Option ρ := if okT h cs r = true then K (gI h r k) else none
def fL {ρ : Type} (h : AH) (cs : List Nat) (r : Option Nat) (k : Nat) (K : Int64 → Option ρ) : Option ρ := if okT h cs r = true then K (gL h r k) else none
def fR {ρ : Type} (h : AH) (cs : List Nat) (r : Option Nat) (k : Nat) (K : Option Nat → Option ρ) : Option ρ := if okT h cs r = true then K (gR h r k) else none
def pI {ρ : Type} (h : AH) (cs : List Nat) (r : Option Nat) (k : Nat) (v : Int32) (K : AH → Option ρ) : Option ρ := if okT h cs r = true then K (sI h r k v) else none
def pZ {ρ : Type} (h : AH) (cs : List Nat) (r : Option Nat) (k : Nat) (v : Int32) (K : AH → Option ρ) : Option ρ := if okT h cs r = true ∧ (v = 0 ∨ v = 1) then K (sI h r k v) else none
def pL {ρ : Type} (h : AH) (cs : List Nat) (r : Option Nat) (k : Nat) (v : Int64) (K : AH → Option ρ) : Option ρ := if okT h cs r = true then K (sL h r k v) else none
def pR {ρ : Type} (h : AH) (cs : List Nat) (r : Option Nat) (k : Nat) (v : Option Nat) (K : AH → Option ρ) : Option ρ := if okT h cs r = true then K (sR h r k v) else none
def aI {ρ : Type} (h : AH) (t : Nat) (r : Option Nat) (i : Int32) (K : Int32 → Option ρ) : Option ρ := if okA h t r i = true then K (gI h r i.toNatClampNeg) else none
def aL {ρ : Type} (h : AH) (t : Nat) (r : Option Nat) (i : Int32) (K : Int64 → Option ρ) : Option ρ := if okA h t r i = true then K (gL h r i.toNatClampNeg) else none
def aR {ρ : Type} (h : AH) (t : Nat) (r : Option Nat) (i : Int32) (K : Option Nat → Option ρ) : Option ρ := if okA h t r i = true then K (gR h r i.toNatClampNeg) else none
def bI {ρ : Type} (h : AH) (t : Nat) (r : Option Nat) (i : Int32) (v : Int32) (K : AH → Option ρ) : Option ρ := if okA h t r i = true then K (sI h r i.toNatClampNeg v) else none
def bL {ρ : Type} (h : AH) (t : Nat) (r : Option Nat) (i : Int32) (v : Int64) (K : AH → Option ρ) : Option ρ := if okA h t r i = true then K (sL h r i.toNatClampNeg v) else none
def bR {ρ : Type} (h : AH) (t : Nat) (cs : List Nat) (r : Option Nat) (i : Int32) (v : Option Nat) (K : AH → Option ρ) : Option ρ := if okA h t r i = true ∧ okT h cs v = true then K (sR h r i.toNatClampNeg v) else none
def aN {ρ : Type} (h : AH) (t : Nat) (r : Option Nat) (K : Int32 → Option ρ) : Option ρ := match r with | none => none | some a => match (hS h)[a]? with | none => none | some q => if q.1 = t then K (nI q.2) else none
def iO {ρ : Type} (h : AH) (cs : List Nat) (r : Option Nat) (K : Int32 → Option ρ) : Option ρ := if r = none then K 0 else if okT h cs r = true then K 1 else if okT h [0, 1, 2, 9] r = true then K 0 else none
def cO {ρ : Type} (h : AH) (cs : List Nat) (r : Option Nat) (K : Option ρ) : Option ρ := if r = none ∨ okT h cs r = true then K else none
def rO {ρ : Type} (h : AH) (cs : List Nat) (r : Option Nat) (K : Option ρ) : Option ρ := if okT h cs r = true then K else none
def nO {ρ : Type} (h : AH) (t n : Nat) (K : Option Nat → AH → Option ρ) : Option ρ := K (some (hS h).length) (grow h t n)
def nz {ρ : Type} (y : Int32) (K : Option ρ) : Option ρ := if y = 0 then none else K
def nzL {ρ : Type} (y : Int64) (K : Option ρ) : Option ρ := if y = 0 then none else K
def rz (v : Int32) (h : AH) : Option (Int32 × AH) := if v = 0 ∨ v = 1 then some (v, h) else none
def cl {α ρ : Type} (o : Option (α × AH)) (K : α → AH → Option ρ) : Option ρ := match o with | none => none | some x => K x.1 x.2
def jn {α β : Type} (b : α) (K : α → β) : β := K b
def lp {T : Type} (bot : T) (F : T → T) : Nat → T
  | 0 => bot
  | n + 1 => F (lp bot F n)
/-- a number that nothing computes with by itself -/
noncomputable def opq (n : Nat) : Nat := Classical.choose (⟨n, rfl⟩ : ∃ k : Nat, k = n)
theorem opq_eq (n : Nat) : opq n = n := Classical.choose_spec (⟨n, rfl⟩ : ∃ k : Nat, k = n)
noncomputable def lpN : Nat := opq 1000000
def cpOk (h : AH) (t : Nat) (r0 : Option Nat) (sp : Int32) (r1 : Option Nat) (dp n : Int32) : Bool := match r0, r1 with
  | some a, some b => (match (hS h)[a]?, (hS h)[b]? with
    | some p, some q => p.1 == t && q.1 == t && decide (¬ sp < 0) && decide (¬ dp < 0) && decide (¬ n < 0) && decide (sp.toNatClampNeg + n.toNatClampNeg ≤ p.2) && decide (dp.toNatClampNeg + n.toNatClampNeg ≤ q.2)
    | _, _ => false)
  | _, _ => false
def cpI {ρ : Type} (h : AH) (r0 : Option Nat) (sp : Int32) (r1 : Option Nat) (dp n : Int32) (K : AH → Option ρ) : Option ρ := if cpOk h 20 r0 sp r1 dp n = true then K (match r1 with | none => h | some b => rwI h b (va_cpy (gI h r0) (hI h b) sp.toNatClampNeg dp.toNatClampNeg n.toNatClampNeg)) else none
def cpL {ρ : Type} (h : AH) (r0 : Option Nat) (sp : Int32) (r1 : Option Nat) (dp n : Int32) (K : AH → Option ρ) : Option ρ := if cpOk h 24 r0 sp r1 dp n = true then K (match r1 with | none => h | some b => rwL h b (va_cpy (gL h r0) (hL h b) sp.toNatClampNeg dp.toNatClampNeg n.toNatClampNeg)) else none
/-! THE HEAP OF THE MACHINE that such a heap is a picture of -/
/-- where the cells begin; the classes' numbers; their fields' slots; the array classes' numbers -/
abbrev DT : Type := Nat × (Nat → ClassId) × (Nat → Nat → Nat) × (Nat → ClassId) × Nat × (Nat → Option (Nat × Nat)) × (Nat → Nat → Value)
def TXX (t : Nat) : u_T := match t with | 0 => TX0 | 1 => TX1 | 2 => TX2 | 3 => TX3 | 4 => TX4 | 5 => TX5 | 6 => TX6 | 7 => TX7 | 8 => TX8 | 9 => TX9 | 10 => TX10 | 11 => TX11 | _ => TX12
def RXX (t : Nat) : String := match t with | 0 => RX0 | 1 => RX1 | 2 => RX2 | 3 => RX3 | 4 => RX4 | 5 => RX5 | 6 => RX6 | 7 => RX7 | 8 => RX8 | 9 => RX9 | 10 => RX10 | 11 => RX11 | _ => RX12
def NXX (t : Nat) : Nat := match t with | 0 => 0 | 1 => 19 | 2 => 5 | 3 => 10 | 4 => 9 | 5 => 15 | 6 => 16 | 7 => 5 | 8 => 11 | 9 => 0 | 10 => 16 | 11 => 6 | _ => 0
def tyXX (t : Nat) : Nat → FieldType := match t with | 0 => tyX0 | 1 => tyX1 | 2 => tyX2 | 3 => tyX3 | 4 => tyX4 | 5 => tyX5 | 6 => tyX6 | 7 => tyX7 | 8 => tyX8 | 9 => tyX9 | 10 => tyX10 | 11 => tyX11 | _ => tyX12
def aty (t : Nat) : FieldType := match t with | 20 => .int | 21 => .int | 22 => .byte | 23 => .boolean | 24 => .long | 25 => .object "HillBoxes$Body" | 26 => .object "HillBoxes$Box" | 28 => .int | 29 => .array .int | 30 => .boolean | _ => .object "HillBoxes$Shelf"
/-- what a field is: 0 one of the ints, 1 a long, 2 a reference -/
def fk (ty : FieldType) : Nat := match ty with | .long => 1 | .object _ => 2 | .array _ => 2 | _ => 0
def rB (b : Nat) (r : Option Nat) : Value := va_rf (r.map (fun k => b + k))
def vB (b : Nat) (h : AH) (k j : Nat) (f : Nat) : Value := match f with | 0 => .int (hI h k j) | 1 => .long (hL h k j) | _ => rB b (hR h k j)
def oc (b : Nat) (h : AH) (t k : Nat) : Nat → Value := fun j => vB b h k j (fk (tyXX t j))
def ac (b : Nat) (h : AH) (t k : Nat) : Nat → Value := fun j => vB b h k j (fk (aty t))
/-- classes whose objects can be -/
abbrev okC (t : Nat) : Prop := t ≠ 0 ∧ t ≠ 9 ∧ t ≠ 12
def atC (D : DT) (h : AH) (k : Nat) (q : Nat × Nat) (H : Heap) : Prop := if q.1 < 13 then okC q.1 ∧ t_OB (D.1 + k) (D.2.1 q.1) (NXX q.1) (D.2.2.1 q.1) H (oc D.1 h q.1 k) else H[D.1 + k]? = some (arrV (D.2.2.2.1 q.1) q.2 (if q.1 < 28 then ac D.1 h q.1 k else D.2.2.2.2.2.2 k))
/-- the cells of the law's own (sorts from 28 on): so many cells in all when it last looked, which these are; what stands in them is held by D alone -/
def LW (D : DT) (S : List (Nat × Nat)) : Prop := D.2.2.2.2.1 ≤ S.length ∧ ∀ k q, D.2.2.2.2.2.1 k = some q ↔ (S[k]? = some q ∧ 28 ≤ q.1)
def RepH (D : DT) (h : AH) (H : Heap) : Prop := H.size = D.1 + (hS h).length ∧ (∀ (k : Nat) (q : Nat × Nat), (hS h)[k]? = some q → atC D h k q H) ∧ LW D (hS h)
/-- what is known of the classes -/
def KC (D : DT) (U : State) : Prop := (∀ t, t < 13 → okC t → u_Kn U (RXX t) (TXX t) (NXX t) (D.2.1 t) (D.2.2.1 t)) ∧ (∀ t, 20 ≤ t → t < 31 → ArrOfT U (D.2.2.2.1 t) (aty t) ∧ va_RA U (D.2.2.2.1 t) (aty t)) ∧ U.vm.findClass RX0 = some (D.2.1 0) ∧ ∃ k0, U.vm.classes[D.2.1 0]? = some k0
theorem KC.moved {D : DT} {u U : State} (hvm : u.vm.Alike U.vm) (h : KC D u) : KC D U := by
  obtain ⟨k, hk⟩ := h.2.2.2
  obtain ⟨k', hk', -⟩ := hvm.2.2 _ _ hk
  exact ⟨fun t ht ho => u_Kn_moved hvm (h.1 t ht ho), fun t h1 h2 => ⟨arrOfT_moved hvm (h.2.1 t h1 h2).1, (h.2.1 t h1 h2).2.moved hvm⟩, by rw [hvm.findClass]; exact h.2.2.1, k', hk'⟩
theorem RepH.kept {D : DT} {h : AH} {H H1 : Heap} (hR : RepH D h H) (hz : H1.size = H.size) (hq : ∀ q, D.1 ≤ q → H1[q]? = H[q]?) : RepH D h H1 := by
  refine ⟨hz.trans hR.1, fun k q hk => ?_, hR.2.2⟩
  have h1 := hR.2.1 k q hk
  unfold atC at h1 ⊢
  split
  · rename_i hlt
    rw [if_pos hlt] at h1
    exact ⟨h1.1, h1.2.kept (hq _ (Nat.le_add_right _ _))⟩
  · rename_i hlt
    rw [if_neg hlt] at h1
    rw [hq _ (Nat.le_add_right _ _)]
    exact h1
/-- a cell k is written: the others stay -/
theorem RepH.put {D : DT} {h h' : AH} {H H1 : Heap} (hR : RepH D h H) (hs : hS h' = hS h) {k : Nat} {q : Nat × Nat} (hk : (hS h)[k]? = some q) (hz : H1.size = H.size) (hq : ∀ x, x ≠ D.1 + k → H1[x]? = H[x]?) (hc : atC D h' k q H1) (ho : ∀ j i f, j ≠ k → vB D.1 h' j i f = vB D.1 h j i f) : RepH D h' H1 := by
  refine ⟨by rw [hz, hs]; exact hR.1, fun j p hj => ?_, by rw [hs]; exact hR.2.2⟩
  rw [hs] at hj
  by_cases e : j = k
  · subst e
    rw [hk] at hj
    cases hj
    exact hc
  · have h1 := hR.2.1 j p hj
    have hne : D.1 + j ≠ D.1 + k := by omega
    unfold atC at h1 ⊢
    split
    · rename_i hlt
      rw [if_pos hlt] at h1
      exact ⟨h1.1, (h1.2.kept (hq _ hne)).to (fun i _ => (ho j i _ e).symm)⟩
    · rename_i hlt
      rw [if_neg hlt] at h1
      rw [hq _ hne, h1]
      have : ac D.1 h p.1 j = ac D.1 h' p.1 j := by funext i; exact (ho j i _ e).symm
      rw [this]
end
section
/-! ONE INSTRUCTION, ONE ROW, over the heap in plain numbers -/
abbrev XT : Type := (Program × Launch × Env × Room × State) × (MethodId × Array Value × List Frame × Method × Code) × DT × (State → Prop)
abbrev xs (X : XT) : State := X.1.2.2.2.2
abbrev xR (X : XT) : Room := X.1.2.2.2.1
abbrev xm (X : XT) : MethodId := X.2.1.1
abbrev xa (X : XT) : Array Value := X.2.1.2.1
abbrev xM (X : XT) : Method := X.2.1.2.2.2.1
abbrev xc (X : XT) : Code := X.2.1.2.2.2.2
abbrev xD (X : XT) : DT := X.2.2.1
abbrev WX (X : XT) (H : Heap) (locs : List Loc) (cells slots : Nat) (g : JFrame) : Prop := W X.1.1 X.1.2.1 X.1.2.2.1 X.1.2.2.2.1 X.1.2.2.2.2 X.2.1.1 X.2.1.2.1 X.2.1.2.2.1 X.2.1.2.2.2.1 X.2.1.2.2.2.2 H locs cells slots X.2.2.2 g
def LV (ls : Array Slot) (nL : Nat) (lv : List (Option Value)) : Prop := ls.size = nL ∧ lv_wf ls ∧ ∀ (i : Nat) (v : Value), lv[i]? = some (some v) → ls[i]? = some (.val v)
def WW (X : XT) (h : AH) (cells slots pc : Nat) (lv : List (Option Value)) (st : List Value) : Prop :=
  ∀ (H : Heap) (locs : List Loc) (ls : Array Slot), RepH (xD X) h H → va_S (fun q => (xD X).1 ≤ q) (xs X).heap H locs → LV ls (xc X).maxLocals lv → WX X H locs cells slots (F0 (xm X) pc ls st)
/-- the words beside the tables' good ones: nest mates' links, casts -/
def xtraB : Cond → Bool
  | .methodLinkNest .. => true
  | .fieldLinkNest .. => true
  | .castable .. => true
  | _ => false
def xtraW : List Cond := lw_tbl.filter xtraB
theorem xtra_at {w : Cond} (i : Nat) (h : tables_1[i]? = some w) (hg : xtraB w = true) : w ∈ xtraW := List.mem_filter.mpr ⟨List.mem_append_right _ (List.mem_of_getElem? h), hg⟩
/-- what the Statement gives of the start beside the words: classes that aren't castable, arrays of references -/
def KG (U : State) : Prop := (∀ w ∈ xtraW, va_Nw w U) ∧ (∀ i, i ∈ [1, 2] → ∀ j, j ∈ [1, 2, 9] → i ≠ j → va_Nc (RXX i) (RXX j) U) ∧ va_AO "HillBoxes$Body" U ∧ va_AO "HillBoxes$Box" U ∧ va_AO "HillBoxes$Shelf" U
theorem KG.warm {s U : State} (hW : s.WarmedH U.vm) (h : KG s) : KG U := by
  refine ⟨fun w hw => ?_, fun i hi j hj hne => (h.2.1 i hi j hj hne).moved hW.alike, h.2.2.1.moved hW.alike, h.2.2.2.1.moved hW.alike, h.2.2.2.2.moved hW.alike⟩
  have hz := h.1 w hw
  have hg := (List.mem_filter.mp hw).2
  cases w <;> first | exact va_Nw.warmM hW hz | exact va_Nw.warmF hW hz | exact va_Nw.warmC hW hz | cases hg
/-- constants of the classes: arrays of numbers, two texts; each at cells below the picture -/
def tbUN : List Int32 := [2, 1, 1, 0, 1]
def txW : List Int32 := [100, 97, 121, 32, 107, 105, 110, 100, 32, 111, 119, 110, 32, 115, 105, 110, 99, 101, 32, 97, 103, 101, 32, 102, 105, 110, 100, 115, 32, 109, 105, 115, 115, 101, 115, 32, 104, 111, 117, 114, 32, 104, 111, 109, 101, 32, 112, 97, 112, 101, 114, 32, 109, 105, 110, 101, 32, 111, 114, 32, 97, 110, 100, 32, 110, 111, 116, 32, 105, 102, 32, 117, 110, 108, 101, 115, 115, 32]
def txS : List Int32 := [59, 58, 60, 62, 61, 43, 45, 42, 47, 37, 40, 41]
def stI (C n : String) (tb : List Int32) (b : Nat) (U : State) : Prop := ∃ t : Nat, va_Z C n "[I" (.ref t) (fun q => b ≤ q) U U.heap ∧ va_T .int t tb.length (fun j => .int (tb.getD j 0)) (fun q => b ≤ q) U U.heap
def stL (C n : String) (tb : List Int64) (b : Nat) (U : State) : Prop := ∃ t : Nat, va_Z C n "[J" (.ref t) (fun q => b ≤ q) U U.heap ∧ va_T .long t tb.length (fun j => .long (tb.getD j 0)) (fun q => b ≤ q) U U.heap
def stS (b : Nat) (U : State) : Prop := (∃ adK adV : Nat → Nat, vk_S 2 [78, 12] [txW, txS] adK adV (fun q => b ≤ q) U U.heap ∧ vk_R "HillBoxes$Tape" 121 "day kind own since age finds misses hour home paper mine or and not if unless " (adK 0) U ∧ vk_R "HillBoxes$Tape" 110 ";:<>=+-*/%()" (adK 1) U) ∧ va_Z "java/lang/String" "COMPACT_STRINGS" "Z" (.int 1) (fun q => b ≤ q) U U.heap ∧ va_Zq "jdk/internal/util/Preconditions" "SIOOBE_FORMATTER" "Ljava/util/function/BiFunction;" (fun q => b ≤ q) U U.heap
def KS (b : Nat) (U : State) : Prop := stI "HillBoxes$Rules" "UNRULED" tbUN b U ∧ stS b U
theorem stI.moved {C n : String} {tb : List Int32} {b : Nat} {u U : State} (hW : u.vm.Alike U.vm) (hq : ∀ a : Nat, a < u.heap.size → ¬ b ≤ a → U.heap[a]? = u.heap[a]?) (h : stI C n tb b u) : stI C n tb b U := by
  obtain ⟨t, h1, h2⟩ := h
  exact ⟨t, (h1.moved hW).kept hq, (h2.moved hW).kept hq⟩
theorem stL.moved {C n : String} {tb : List Int64} {b : Nat} {u U : State} (hW : u.vm.Alike U.vm) (hq : ∀ a : Nat, a < u.heap.size → ¬ b ≤ a → U.heap[a]? = u.heap[a]?) (h : stL C n tb b u) : stL C n tb b U := by
  obtain ⟨t, h1, h2⟩ := h
  exact ⟨t, (h1.moved hW).kept hq, (h2.moved hW).kept hq⟩
theorem KS.moved {b : Nat} {u U : State} (hW : u.WarmedH U.vm) (hq : ∀ a : Nat, a < u.heap.size → ¬ b ≤ a → U.heap[a]? = u.heap[a]?) (h : KS b u) : KS b U := by
  obtain ⟨h1, ⟨aK, aV, h7, h8, h9⟩, h10, h11⟩ := h
  have hA := hW.alike
  exact ⟨h1.moved hA hq, ⟨aK, aV, (h7.moved hA).kept hq, vk_R.warm hW h8, vk_R.warm hW h9⟩, (h10.moved hA).kept hq, (h11.moved hA).kept hq⟩
theorem KS.same {b : Nat} {u U : State} (hv : U.vm = u.vm) (hh : U.heap = u.heap) (h : KS b u) : KS b U := by
  obtain ⟨h1, ⟨aK, aV, h7, h8, h9⟩, h10, h11⟩ := h
  have hA : u.vm.Alike U.vm := hv ▸ Vm.Alike.refl _
  have hq : ∀ a : Nat, a < u.heap.size → ¬ b ≤ a → U.heap[a]? = u.heap[a]? := fun _ _ _ => by rw [hh]
  exact ⟨h1.moved hA hq, ⟨aK, aV, (h7.moved hA).kept hq, vk_R.same hv h8, vk_R.same hv h9⟩, (h10.moved hA).kept hq, (h11.moved hA).kept hq⟩
theorem KG.same {s U : State} (hv : U.vm = s.vm) (h : KG s) : KG U := by
  have hA : s.vm.Alike U.vm := hv ▸ Vm.Alike.refl _
  refine ⟨fun w hw => ?_, fun i hi j hj hne => (h.2.1 i hi j hj hne).moved hA, h.2.2.1.moved hA, h.2.2.2.1.moved hA, h.2.2.2.2.moved hA⟩
  have hz := h.1 w hw
  have hg := (List.mem_filter.mp hw).2
  cases w <;> first | exact va_Nw.same rfl hv.symm hz | cases hg
/-- the walk's standing facts: the machine's code, the class, the words, the classes' facts -/
def CX (X : XT) (own : String) (cc : ByteArray) (nL : Nat) : Prop :=
  X.1.1.tables.exec = Jvm.exec ∧ (xc X).code = cc ∧ (xc X).maxLocals = nL ∧ (xs X).vm.findClass own = some (xm X).cls ∧ (∀ w ∈ lw_big, w.before (xa X) (xs X) = true) ∧ KC (xD X) (xs X) ∧ KG (xs X) ∧ (xD X).1 ≤ (xs X).heap.size ∧ (xM X).locks = false ∧ KS (xD X).1 (xs X)
section STEPS
variable {X : XT} {own : String} {cc : ByteArray} {nL pc cells slots : Nat} {h : AH} {lv lv' : List (Option Value)} {st : List Value} {ρ : Type} {r : ρ}
/-- the place ahead holds no long -/
def nc (lv : List (Option Value)) (n : Nat) : Prop := ∀ w, lv[n - 1]? = some (some w) → n = 0 ∨ w.category = 1
theorem nc_0 {lv : List (Option Value)} : nc lv 0 := fun _ _ => Or.inl rfl
theorem nc_i {lv : List (Option Value)} {n : Nat} {x : Int32} (e : lv[n - 1]? = some (some (.int x))) : nc lv n := fun w hw => by rw [e] at hw; cases hw; exact Or.inr rfl
theorem rB_cat (b : Nat) (r : Option Nat) : (rB b r).category = 1 := by cases r <;> rfl
theorem nc_r {lv : List (Option Value)} {n b : Nat} {x : Option Nat} (e : lv[n - 1]? = some (some (rB b x))) : nc lv n := fun w hw => by rw [e] at hw; cases hw; exact Or.inr (rB_cat b x)
theorem nc_n {lv : List (Option Value)} {n : Nat} (e : lv[n - 1]? = some none) : nc lv n := fun w hw => by rw [e] at hw; cases hw
theorem LV.set1 {ls : Array Slot} {v : Value} {i : Nat} (hl : LV ls nL lv) (hi : i < nL) (hc : v.category = 1) (hn : nc lv i) :
    ∃ ls', storeLocals ls i v = some ls' ∧ LV ls' nL (lv.set i (some v)) := by
  have hP : ∀ q ∈ (List.range lv.length).filterMap (fun j => (lv[j]?.bind id).map (fun w => (j, w))), ls[q.1]? = some (.val q.2) := by
    intro q hq
    obtain ⟨j, -, hj⟩ := List.mem_filterMap.mp hq
    cases e : lv[j]? with
    | none => simp [e] at hj
    | some x =>
      cases x with
      | none => simp [e] at hj
      | some w =>
        simp [e] at hj
        subst hj
        exact hl.2.2 j w e
  obtain ⟨ls', h1, h2, h3, h4⟩ := lv_store1 (l := (List.range lv.length).filterMap (fun j => (lv[j]?.bind id).map (fun w => (j, w)))) ⟨hl.1, hl.2.1, hP⟩ hi hc
  refine ⟨ls', h1, h2, h3, fun j w hj => ?_⟩
  by_cases e : j = i
  · subst e
    by_cases hlt : j < lv.length
    · rw [List.getElem?_set_self hlt] at hj
      cases hj
      exact h4 (j, v) List.mem_cons_self
    · rw [List.getElem?_eq_none (by rw [List.length_set]; omega)] at hj
      cases hj
  · rw [List.getElem?_set_ne (Ne.symm e)] at hj
    refine h4 (j, w) (List.mem_cons_of_mem _ (List.mem_filter.mpr ⟨List.mem_filterMap.mpr ⟨j, List.mem_range.mpr (List.getElem?_eq_some_iff.mp hj).1, by simp [hj]⟩, ?_⟩))
    have h5 : ¬ (j + 1 = i ∧ w.category = 2) := fun q => by
      obtain ⟨q1, q2⟩ := q
      subst q1
      rcases hn w (by simpa using hj) with z | z <;> omega
    simp only [Bool.and_eq_true, Bool.not_eq_true', beq_eq_false_iff_ne, ne_eq, Bool.and_eq_false_iff]
    refine ⟨e, ?_⟩
    by_cases e1 : j + 1 = i
    · exact Or.inr fun q => h5 ⟨e1, q⟩
    · exact Or.inl e1
theorem LV.set2 {ls : Array Slot} {v : Value} {i : Nat} (hl : LV ls nL lv) (hi : i + 1 < nL) (hc : v.category = 2) (hn : nc lv i) :
    ∃ ls', storeLocals ls i v = some ls' ∧ LV ls' nL ((lv.set i (some v)).set (i + 1) none) := by
  have hP : ∀ q ∈ (List.range lv.length).filterMap (fun j => (lv[j]?.bind id).map (fun w => (j, w))), ls[q.1]? = some (.val q.2) := by
    intro q hq
    obtain ⟨j, -, hj⟩ := List.mem_filterMap.mp hq
    cases e : lv[j]? with
    | none => simp [e] at hj
    | some x =>
      cases x with
      | none => simp [e] at hj
      | some w =>
        simp [e] at hj
        subst hj
        exact hl.2.2 j w e
  obtain ⟨ls', h1, h2, h3, h4⟩ := lv_store2 (l := (List.range lv.length).filterMap (fun j => (lv[j]?.bind id).map (fun w => (j, w)))) ⟨hl.1, hl.2.1, hP⟩ hi hc
  refine ⟨ls', h1, h2, h3, fun j w hj => ?_⟩
  by_cases e2 : j = i + 1
  · subst e2
    by_cases hlt : i + 1 < (lv.set i (some v)).length
    · rw [List.getElem?_set_self hlt] at hj
      cases hj
    · rw [List.getElem?_eq_none (by rw [List.length_set]; omega)] at hj
      cases hj
  rw [List.getElem?_set_ne (Ne.symm e2)] at hj
  by_cases e : j = i
  · subst e
    by_cases hlt : j < lv.length
    · rw [List.getElem?_set_self hlt] at hj
      cases hj
      exact h4 (j, v) List.mem_cons_self
    · rw [List.getElem?_eq_none (by rw [List.length_set]; omega)] at hj
      cases hj
  · rw [List.getElem?_set_ne (Ne.symm e)] at hj
    refine h4 (j, w) (List.mem_cons_of_mem _ (List.mem_filter.mpr ⟨List.mem_filterMap.mpr ⟨j, List.mem_range.mpr (List.getElem?_eq_some_iff.mp hj).1, by simp [hj]⟩, ?_⟩))
    have h5 : ¬ (j + 1 = i ∧ w.category = 2) := fun q => by
      obtain ⟨q1, q2⟩ := q
      subst q1
      rcases hn w (by simpa using hj) with z | z <;> omega
    simp only [Bool.and_eq_true, Bool.not_eq_true', beq_eq_false_iff_ne, ne_eq, Bool.and_eq_false_iff]
    refine ⟨e, e2, ?_⟩
    by_cases e1 : j + 1 = i
    · exact Or.inr fun q => h5 ⟨e1, q⟩
    · exact Or.inl e1
-- registers
theorem s_iconst (C : CX X own cc nL) {n : Int} {v : Int32} (d : decode cc pc = .ok (.iconst n, 1)) (hv : Int32.ofInt n = v) (k : WW X h cells slots (pc + 1) lv (.int v :: st)) : WW X h cells slots pc lv st :=
  fun H locs ls hR hS hl => lv_iconst C.1 C.2.1 d hv (k H locs ls hR hS hl)
theorem s_bipush (C : CX X own cc nL) {n : Int} {v : Int32} (d : decode cc pc = .ok (.bipush n, 2)) (hv : (Int8.ofInt n).toInt32 = v) (k : WW X h cells slots (pc + 2) lv (.int v :: st)) : WW X h cells slots pc lv st :=
  fun H locs ls hR hS hl => lv_bipush C.1 C.2.1 d hv (k H locs ls hR hS hl)
theorem s_sipush (C : CX X own cc nL) {n : Int} {v : Int32} (d : decode cc pc = .ok (.sipush n, 3)) (hv : (Int16.ofInt n).toInt32 = v) (k : WW X h cells slots (pc + 3) lv (.int v :: st)) : WW X h cells slots pc lv st :=
  fun H locs ls hR hS hl => lv_sipush C.1 C.2.1 d hv (k H locs ls hR hS hl)
theorem s_ldc (C : CX X own cc nL) {i : Nat} {v : Int32} (d : decode cc pc = .ok (.ldc i, 2)) (hw : Cond.constant own i v ∈ lw_big) (k : WW X h cells slots (pc + 2) lv (.int v :: st)) : WW X h cells slots pc lv st :=
  fun H locs ls hR hS hl => lv_ldc C.1 C.2.1 C.2.2.2.1 (C.2.2.2.2.1 _ hw) d (k H locs ls hR hS hl)
theorem s_ldc2 (C : CX X own cc nL) {i : Nat} {v : Int64} (d : decode cc pc = .ok (.ldc2_w i, 3)) (hw : Cond.constantLong own i v ∈ lw_big) (k : WW X h cells slots (pc + 3) lv (.long v :: st)) : WW X h cells slots pc lv st :=
  fun H locs ls hR hS hl => lv_ldc2 C.1 C.2.1 C.2.2.2.1 (C.2.2.2.2.1 _ hw) d (k H locs ls hR hS hl)
theorem s_lconst (C : CX X own cc nL) {n : Fin 2} {v : Int64} (d : decode cc pc = .ok (.lconst n, 1)) (hv : Int64.ofNat (n : Nat) = v) (k : WW X h cells slots (pc + 1) lv (.long v :: st)) : WW X h cells slots pc lv st :=
  fun H locs ls hR hS hl => lv_lconst C.1 C.2.1 d hv (k H locs ls hR hS hl)
theorem s_null (C : CX X own cc nL) (d : decode cc pc = .ok (.aconst_null, 1)) (k : WW X h cells slots (pc + 1) lv (rB (xD X).1 none :: st)) : WW X h cells slots pc lv st :=
  fun H locs ls hR hS hl => lv_null C.1 C.2.1 d (k H locs ls hR hS hl)
theorem s_iload_n (C : CX X own cc nL) {n : Fin 4} {x : Int32} (d : decode cc pc = .ok (.iload_n n, 1)) (hv : lv[(n : Nat)]? = some (some (.int x))) (k : WW X h cells slots (pc + 1) lv (.int x :: st)) : WW X h cells slots pc lv st :=
  fun H locs ls hR hS hl => lv_iload_n C.1 C.2.1 d rfl (hl.2.2 _ _ hv) (k H locs ls hR hS hl)
theorem s_iload (C : CX X own cc nL) {n : Nat} {x : Int32} (d : decode cc pc = .ok (.iload n, 2)) (hv : lv[n]? = some (some (.int x))) (k : WW X h cells slots (pc + 2) lv (.int x :: st)) : WW X h cells slots pc lv st :=
  fun H locs ls hR hS hl => lv_iload C.1 C.2.1 d (hl.2.2 _ _ hv) (k H locs ls hR hS hl)
theorem s_lload_n (C : CX X own cc nL) {n : Fin 4} {x : Int64} (d : decode cc pc = .ok (.lload_n n, 1)) (hv : lv[(n : Nat)]? = some (some (.long x))) (k : WW X h cells slots (pc + 1) lv (.long x :: st)) : WW X h cells slots pc lv st :=
  fun H locs ls hR hS hl => lv_lload_n C.1 C.2.1 d rfl (hl.2.2 _ _ hv) (k H locs ls hR hS hl)
theorem s_lload (C : CX X own cc nL) {n : Nat} {x : Int64} (d : decode cc pc = .ok (.lload n, 2)) (hv : lv[n]? = some (some (.long x))) (k : WW X h cells slots (pc + 2) lv (.long x :: st)) : WW X h cells slots pc lv st :=
  fun H locs ls hR hS hl => lv_lload C.1 C.2.1 d (hl.2.2 _ _ hv) (k H locs ls hR hS hl)
theorem s_aload_n (C : CX X own cc nL) {n : Fin 4} {x : Option Nat} (d : decode cc pc = .ok (.aload_n n, 1)) (hv : lv[(n : Nat)]? = some (some (rB (xD X).1 x))) (k : WW X h cells slots (pc + 1) lv (rB (xD X).1 x :: st)) : WW X h cells slots pc lv st := by
  intro H locs ls hR hS hl
  cases x with
  | none => exact lv_aload_nN C.1 C.2.1 d rfl (hl.2.2 _ _ hv) (k H locs ls hR hS hl)
  | some a => exact lv_aload_n C.1 C.2.1 d rfl (hl.2.2 _ _ hv) (k H locs ls hR hS hl)
theorem s_aload (C : CX X own cc nL) {n : Nat} {x : Option Nat} (d : decode cc pc = .ok (.aload n, 2)) (hv : lv[n]? = some (some (rB (xD X).1 x))) (k : WW X h cells slots (pc + 2) lv (rB (xD X).1 x :: st)) : WW X h cells slots pc lv st := by
  intro H locs ls hR hS hl
  cases x with
  | none => exact lv_aloadN C.1 C.2.1 d (hl.2.2 _ _ hv) (k H locs ls hR hS hl)
  | some a => exact lv_aload C.1 C.2.1 d (hl.2.2 _ _ hv) (k H locs ls hR hS hl)
theorem s_istore_n (C : CX X own cc nL) {n : Fin 4} {x : Int32} (d : decode cc pc = .ok (.istore_n n, 1)) (hi : (n : Nat) < nL) (hn : nc lv (n : Nat)) (hv : lv.set (n : Nat) (some (.int x)) = lv') (k : WW X h cells slots (pc + 1) lv' st) : WW X h cells slots pc lv (.int x :: st) := by
  intro H locs ls hR hS hl
  have hl' : LV ls nL lv := C.2.2.1 ▸ hl
  obtain ⟨ls', h1, h2⟩ := hl'.set1 (v := (.int x)) hi rfl hn
  rw [hv, ← C.2.2.1] at h2
  refine W.go (g2 := F0 (xm X) (pc + 1) ls' st) (fun T hT tg a => ?_) (k H locs ls' hR hS h2)
  jvm_step hT [hT.top, C.1, C.2.1, d, h1]
  exact a
theorem s_lstore_n (C : CX X own cc nL) {n : Fin 4} {x : Int64} (d : decode cc pc = .ok (.lstore_n n, 1)) (hi : (n : Nat) + 1 < nL) (hn : nc lv (n : Nat)) (hv : (lv.set (n : Nat) (some (.long x))).set ((n : Nat) + 1) none = lv') (k : WW X h cells slots (pc + 1) lv' st) : WW X h cells slots pc lv (.long x :: st) := by
  intro H locs ls hR hS hl
  have hl' : LV ls nL lv := C.2.2.1 ▸ hl
  obtain ⟨ls', h1, h2⟩ := hl'.set2 (v := (.long x)) hi rfl hn
  rw [hv, ← C.2.2.1] at h2
  refine W.go (g2 := F0 (xm X) (pc + 1) ls' st) (fun T hT tg a => ?_) (k H locs ls' hR hS h2)
  jvm_step hT [hT.top, C.1, C.2.1, d, h1]
  exact a
theorem s_astore_n (C : CX X own cc nL) {n : Fin 4} {x : Option Nat} (d : decode cc pc = .ok (.astore_n n, 1)) (hi : (n : Nat) < nL) (hn : nc lv (n : Nat)) (hv : lv.set (n : Nat) (some (rB (xD X).1 x)) = lv') (k : WW X h cells slots (pc + 1) lv' st) : WW X h cells slots pc lv (rB (xD X).1 x :: st) := by
  intro H locs ls hR hS hl
  have hl' : LV ls nL lv := C.2.2.1 ▸ hl
  obtain ⟨ls', h1, h2⟩ := hl'.set1 (v := (rB (xD X).1 x)) hi (rB_cat _ x) hn
  rw [hv, ← C.2.2.1] at h2
  refine W.go (g2 := F0 (xm X) (pc + 1) ls' st) (fun T hT tg a => ?_) (k H locs ls' hR hS h2)
  cases x with
  | none =>
    have h1 : storeLocals ls (n : Nat) .null = some ls' := h1
    show Steps _ _ _ (T.setTop (F0 (xm X) pc ls (.null :: st))) _
    jvm_step hT [hT.top, C.1, C.2.1, d, h1, Value.isRef]
    exact a
  | some b =>
    have h1 : storeLocals ls (n : Nat) (.ref ((xD X).1 + b)) = some ls' := h1
    show Steps _ _ _ (T.setTop (F0 (xm X) pc ls (.ref ((xD X).1 + b) :: st))) _
    jvm_step hT [hT.top, C.1, C.2.1, d, h1, Value.isRef]
    exact a
theorem s_istore (C : CX X own cc nL) {n : Nat} {x : Int32} (d : decode cc pc = .ok (.istore n, 2)) (hi : n < nL) (hn : nc lv n) (hv : lv.set n (some (.int x)) = lv') (k : WW X h cells slots (pc + 2) lv' st) : WW X h cells slots pc lv (.int x :: st) := by
  intro H locs ls hR hS hl
  have hl' : LV ls nL lv := C.2.2.1 ▸ hl
  obtain ⟨ls', h1, h2⟩ := hl'.set1 (v := (.int x)) hi rfl hn
  rw [hv, ← C.2.2.1] at h2
  refine W.go (g2 := F0 (xm X) (pc + 2) ls' st) (fun T hT tg a => ?_) (k H locs ls' hR hS h2)
  jvm_step hT [hT.top, C.1, C.2.1, d, h1]
  exact a
theorem s_lstore (C : CX X own cc nL) {n : Nat} {x : Int64} (d : decode cc pc = .ok (.lstore n, 2)) (hi : n + 1 < nL) (hn : nc lv n) (hv : (lv.set n (some (.long x))).set (n + 1) none = lv') (k : WW X h cells slots (pc + 2) lv' st) : WW X h cells slots pc lv (.long x :: st) := by
  intro H locs ls hR hS hl
  have hl' : LV ls nL lv := C.2.2.1 ▸ hl
  obtain ⟨ls', h1, h2⟩ := hl'.set2 (v := (.long x)) hi rfl hn
  rw [hv, ← C.2.2.1] at h2
  refine W.go (g2 := F0 (xm X) (pc + 2) ls' st) (fun T hT tg a => ?_) (k H locs ls' hR hS h2)
  jvm_step hT [hT.top, C.1, C.2.1, d, h1]
  exact a
theorem s_astore (C : CX X own cc nL) {n : Nat} {x : Option Nat} (d : decode cc pc = .ok (.astore n, 2)) (hi : n < nL) (hn : nc lv n) (hv : lv.set n (some (rB (xD X).1 x)) = lv') (k : WW X h cells slots (pc + 2) lv' st) : WW X h cells slots pc lv (rB (xD X).1 x :: st) := by
  intro H locs ls hR hS hl
  have hl' : LV ls nL lv := C.2.2.1 ▸ hl
  obtain ⟨ls', h1, h2⟩ := hl'.set1 (v := (rB (xD X).1 x)) hi (rB_cat _ x) hn
  rw [hv, ← C.2.2.1] at h2
  refine W.go (g2 := F0 (xm X) (pc + 2) ls' st) (fun T hT tg a => ?_) (k H locs ls' hR hS h2)
  cases x with
  | none =>
    have h1 : storeLocals ls n .null = some ls' := h1
    show Steps _ _ _ (T.setTop (F0 (xm X) pc ls (.null :: st))) _
    jvm_step hT [hT.top, C.1, C.2.1, d, h1, Value.isRef]
    exact a
  | some b =>
    have h1 : storeLocals ls n (.ref ((xD X).1 + b)) = some ls' := h1
    show Steps _ _ _ (T.setTop (F0 (xm X) pc ls (.ref ((xD X).1 + b) :: st))) _
    jvm_step hT [hT.top, C.1, C.2.1, d, h1, Value.isRef]
    exact a
theorem s_forget (n : Nat) (hv : lv.set n none = lv') (k : WW X h cells slots pc lv' st) : WW X h cells slots pc lv st := by
  intro H locs ls hR hS hl
  refine k H locs ls hR hS ⟨hl.1, hl.2.1, fun i v hi => hl.2.2 i v ?_⟩
  subst hv
  by_cases e : i = n
  · subst e
    by_cases hlt : i < lv.length
    · rw [List.getElem?_set_self hlt] at hi
      cases hi
    · rw [List.getElem?_eq_none (by rw [List.length_set]; omega)] at hi
      cases hi
  · rwa [List.getElem?_set_ne (Ne.symm e)] at hi
theorem s_iinc (C : CX X own cc nL) {i : Nat} {n : Int} {x v : Int32} (d : decode cc pc = .ok (.iinc i n, 3)) (hx : lv[i]? = some (some (.int x))) (hv : x + Int32.ofInt n = v) (hi : i < nL) (hn : nc lv i) (hl' : lv.set i (some (.int v)) = lv') (k : WW X h cells slots (pc + 3) lv' st) : WW X h cells slots pc lv st := by
  intro H locs ls hR hS hl
  have hl2 : LV ls nL lv := C.2.2.1 ▸ hl
  have hg := hl.2.2 _ _ hx
  obtain ⟨ls', h1, h2⟩ := hl2.set1 (v := .int v) hi rfl hn
  rw [hl', ← C.2.2.1] at h2
  refine W.go (g2 := F0 (xm X) (pc + 3) ls' st) (fun T hT tg a => ?_) (k H locs ls' hR hS h2)
  jvm_step hT [hT.top, C.1, C.2.1, d, hg, hv, h1]
  exact a
theorem s_iadd (C : CX X own cc nL) {x y : Int32} (d : decode cc pc = .ok (.iadd, 1)) (k : WW X h cells slots (pc + 1) lv (.int (x + y) :: st)) : WW X h cells slots pc lv (.int y :: .int x :: st) :=
  fun H locs ls hR hS hl => lv_iadd C.1 C.2.1 d (k H locs ls hR hS hl)
theorem s_isub (C : CX X own cc nL) {x y : Int32} (d : decode cc pc = .ok (.isub, 1)) (k : WW X h cells slots (pc + 1) lv (.int (x - y) :: st)) : WW X h cells slots pc lv (.int y :: .int x :: st) :=
  fun H locs ls hR hS hl => lv_isub C.1 C.2.1 d (k H locs ls hR hS hl)
theorem s_imul (C : CX X own cc nL) {x y : Int32} (d : decode cc pc = .ok (.imul, 1)) (k : WW X h cells slots (pc + 1) lv (.int (x * y) :: st)) : WW X h cells slots pc lv (.int y :: .int x :: st) :=
  fun H locs ls hR hS hl => lv_imul C.1 C.2.1 d (k H locs ls hR hS hl)
theorem s_iand (C : CX X own cc nL) {x y : Int32} (d : decode cc pc = .ok (.iand, 1)) (k : WW X h cells slots (pc + 1) lv (.int (x &&& y) :: st)) : WW X h cells slots pc lv (.int y :: .int x :: st) :=
  fun H locs ls hR hS hl => lv_iand C.1 C.2.1 d (k H locs ls hR hS hl)
theorem s_ior (C : CX X own cc nL) {x y : Int32} (d : decode cc pc = .ok (.ior, 1)) (k : WW X h cells slots (pc + 1) lv (.int (x ||| y) :: st)) : WW X h cells slots pc lv (.int y :: .int x :: st) :=
  fun H locs ls hR hS hl => lv_ior C.1 C.2.1 d (k H locs ls hR hS hl)
theorem s_ixor (C : CX X own cc nL) {x y : Int32} (d : decode cc pc = .ok (.ixor, 1)) (k : WW X h cells slots (pc + 1) lv (.int (x ^^^ y) :: st)) : WW X h cells slots pc lv (.int y :: .int x :: st) :=
  fun H locs ls hR hS hl => lv_ixor C.1 C.2.1 d (k H locs ls hR hS hl)
theorem s_ishl (C : CX X own cc nL) {x y : Int32} (d : decode cc pc = .ok (.ishl, 1)) (k : WW X h cells slots (pc + 1) lv (.int (x <<< (y &&& 31)) :: st)) : WW X h cells slots pc lv (.int y :: .int x :: st) :=
  fun H locs ls hR hS hl => lv_ishl C.1 C.2.1 d (k H locs ls hR hS hl)
theorem s_ishr (C : CX X own cc nL) {x y : Int32} (d : decode cc pc = .ok (.ishr, 1)) (k : WW X h cells slots (pc + 1) lv (.int (x >>> (y &&& 31)) :: st)) : WW X h cells slots pc lv (.int y :: .int x :: st) :=
  fun H locs ls hR hS hl => lv_ishr C.1 C.2.1 d (k H locs ls hR hS hl)
theorem s_ladd (C : CX X own cc nL) {x y : Int64} (d : decode cc pc = .ok (.ladd, 1)) (k : WW X h cells slots (pc + 1) lv (.long (x + y) :: st)) : WW X h cells slots pc lv (.long y :: .long x :: st) :=
  fun H locs ls hR hS hl => lv_ladd C.1 C.2.1 d (k H locs ls hR hS hl)
theorem s_lsub (C : CX X own cc nL) {x y : Int64} (d : decode cc pc = .ok (.lsub, 1)) (k : WW X h cells slots (pc + 1) lv (.long (x - y) :: st)) : WW X h cells slots pc lv (.long y :: .long x :: st) :=
  fun H locs ls hR hS hl => lv_lsub C.1 C.2.1 d (k H locs ls hR hS hl)
theorem s_lmul (C : CX X own cc nL) {x y : Int64} (d : decode cc pc = .ok (.lmul, 1)) (k : WW X h cells slots (pc + 1) lv (.long (x * y) :: st)) : WW X h cells slots pc lv (.long y :: .long x :: st) :=
  fun H locs ls hR hS hl => lv_lmul C.1 C.2.1 d (k H locs ls hR hS hl)
theorem s_land (C : CX X own cc nL) {x y : Int64} (d : decode cc pc = .ok (.land, 1)) (k : WW X h cells slots (pc + 1) lv (.long (x &&& y) :: st)) : WW X h cells slots pc lv (.long y :: .long x :: st) :=
  fun H locs ls hR hS hl => lv_land C.1 C.2.1 d (k H locs ls hR hS hl)
theorem s_lor (C : CX X own cc nL) {x y : Int64} (d : decode cc pc = .ok (.lor, 1)) (k : WW X h cells slots (pc + 1) lv (.long (x ||| y) :: st)) : WW X h cells slots pc lv (.long y :: .long x :: st) :=
  fun H locs ls hR hS hl => lv_lor C.1 C.2.1 d (k H locs ls hR hS hl)
theorem s_lxor (C : CX X own cc nL) {x y : Int64} (d : decode cc pc = .ok (.lxor, 1)) (k : WW X h cells slots (pc + 1) lv (.long (x ^^^ y) :: st)) : WW X h cells slots pc lv (.long y :: .long x :: st) :=
  fun H locs ls hR hS hl => lv_lxor C.1 C.2.1 d (k H locs ls hR hS hl)
theorem s_ineg (C : CX X own cc nL) {x : Int32} (d : decode cc pc = .ok (.ineg, 1)) (k : WW X h cells slots (pc + 1) lv (.int (-x) :: st)) : WW X h cells slots pc lv (.int x :: st) :=
  fun H locs ls hR hS hl => lv_ineg C.1 C.2.1 d (k H locs ls hR hS hl)
theorem s_i2l (C : CX X own cc nL) {x : Int32} (d : decode cc pc = .ok (.i2l, 1)) (k : WW X h cells slots (pc + 1) lv (.long (x.toInt64) :: st)) : WW X h cells slots pc lv (.int x :: st) :=
  fun H locs ls hR hS hl => lv_i2l C.1 C.2.1 d rfl (k H locs ls hR hS hl)
theorem s_l2i (C : CX X own cc nL) {x : Int64} (d : decode cc pc = .ok (.l2i, 1)) (k : WW X h cells slots (pc + 1) lv (.int (x.toInt32) :: st)) : WW X h cells slots pc lv (.long x :: st) :=
  fun H locs ls hR hS hl => lv_l2i C.1 C.2.1 d rfl (k H locs ls hR hS hl)
theorem s_i2b (C : CX X own cc nL) {x : Int32} (d : decode cc pc = .ok (.i2b, 1)) (k : WW X h cells slots (pc + 1) lv (.int (x.toInt8.toInt32) :: st)) : WW X h cells slots pc lv (.int x :: st) :=
  fun H locs ls hR hS hl => lv_i2b C.1 C.2.1 d rfl (k H locs ls hR hS hl)
theorem s_i2s (C : CX X own cc nL) {x : Int32} (d : decode cc pc = .ok (.i2s, 1)) (k : WW X h cells slots (pc + 1) lv (.int (x.toInt16.toInt32) :: st)) : WW X h cells slots pc lv (.int x :: st) :=
  fun H locs ls hR hS hl => lv_i2s C.1 C.2.1 d rfl (k H locs ls hR hS hl)
theorem s_i2c (C : CX X own cc nL) {x : Int32} (d : decode cc pc = .ok (.i2c, 1)) (k : WW X h cells slots (pc + 1) lv (.int ((x.toUInt32 % 65536).toInt32) :: st)) : WW X h cells slots pc lv (.int x :: st) :=
  fun H locs ls hR hS hl => lv_i2c C.1 C.2.1 d rfl (k H locs ls hR hS hl)
theorem s_lshl (C : CX X own cc nL) {x : Int64} {y : Int32} (d : decode cc pc = .ok (.lshl, 1)) (k : WW X h cells slots (pc + 1) lv (.long (x <<< (y.toInt64 &&& 63)) :: st)) : WW X h cells slots pc lv (.int y :: .long x :: st) :=
  fun H locs ls hR hS hl => lv_lshl C.1 C.2.1 d rfl (k H locs ls hR hS hl)
theorem s_lcmp (C : CX X own cc nL) {x y : Int64} (d : decode cc pc = .ok (.lcmp, 1)) (k : WW X h cells slots (pc + 1) lv (.int (lg_cmp x y) :: st)) : WW X h cells slots pc lv (.long y :: .long x :: st) :=
  fun H locs ls hR hS hl => W.lcmp C.1 C.2.1 d (k H locs ls hR hS hl)
theorem s_idiv (C : CX X own cc nL) {x y : Int32} (d : decode cc pc = .ok (.idiv, 1)) {A : Option ρ} (hf : nz y A = some r) (k : A = some r → WW X h cells slots (pc + 1) lv (.int (x / y) :: st)) : WW X h cells slots pc lv (.int y :: .int x :: st) := by
  unfold nz at hf
  split at hf
  · cases hf
  · rename_i hy
    exact fun H locs ls hR hS hl => lv_idiv C.1 C.2.1 d hy (k hf H locs ls hR hS hl)
theorem s_irem (C : CX X own cc nL) {x y : Int32} (d : decode cc pc = .ok (.irem, 1)) {A : Option ρ} (hf : nz y A = some r) (k : A = some r → WW X h cells slots (pc + 1) lv (.int (x - x / y * y) :: st)) : WW X h cells slots pc lv (.int y :: .int x :: st) := by
  unfold nz at hf
  split at hf
  · cases hf
  · rename_i hy
    exact fun H locs ls hR hS hl => lv_irem C.1 C.2.1 d hy (k hf H locs ls hR hS hl)
theorem s_ldiv (C : CX X own cc nL) {x y : Int64} (d : decode cc pc = .ok (.ldiv, 1)) {A : Option ρ} (hf : nzL y A = some r) (k : A = some r → WW X h cells slots (pc + 1) lv (.long (x / y) :: st)) : WW X h cells slots pc lv (.long y :: .long x :: st) := by
  unfold nzL at hf
  split at hf
  · cases hf
  · rename_i hy
    exact fun H locs ls hR hS hl => lv_ldiv C.1 C.2.1 d hy (k hf H locs ls hR hS hl)
/-- a value of one word -/
def c1 (v : Value) : Prop := v.category = 1
theorem c1_i {x : Int32} : c1 (.int x) := rfl
theorem c1_r {b : Nat} {x : Option Nat} : c1 (rB b x) := rB_cat b x
theorem s_dup (C : CX X own cc nL) {va : Value} (d : decode cc pc = .ok (.dup, 1)) (h1 : c1 va) (k : WW X h cells slots (pc + 1) lv (va :: va :: st)) : WW X h cells slots pc lv (va :: st) :=
  fun H locs ls hR hS hl => lv_dup C.1 C.2.1 d h1 (k H locs ls hR hS hl)
theorem s_pop (C : CX X own cc nL) {va : Value} (d : decode cc pc = .ok (.pop, 1)) (h1 : c1 va) (k : WW X h cells slots (pc + 1) lv st) : WW X h cells slots pc lv (va :: st) :=
  fun H locs ls hR hS hl => lv_pop C.1 C.2.1 d h1 (k H locs ls hR hS hl)
theorem s_dup_x1 (C : CX X own cc nL) {va vb : Value} (d : decode cc pc = .ok (.dup_x1, 1)) (h1 : c1 va) (h2 : c1 vb) (k : WW X h cells slots (pc + 1) lv (va :: vb :: va :: st)) : WW X h cells slots pc lv (va :: vb :: st) :=
  fun H locs ls hR hS hl => lv_dup_x1 C.1 C.2.1 d h1 h2 (k H locs ls hR hS hl)
theorem s_dup2 (C : CX X own cc nL) {va vb : Value} (d : decode cc pc = .ok (.dup2, 1)) (h1 : c1 va) (h2 : c1 vb) (k : WW X h cells slots (pc + 1) lv (va :: vb :: va :: vb :: st)) : WW X h cells slots pc lv (va :: vb :: st) :=
  fun H locs ls hR hS hl => lv_dup2_11 C.1 C.2.1 d h1 h2 (k H locs ls hR hS hl)
theorem s_goto (C : CX X own cc nL) {off : Int} {tgt : Nat} (d : decode cc pc = .ok (.goto off, 3)) (ht : (pc : Int) + off = (tgt : Int)) (k : WW X h cells slots tgt lv st) : WW X h cells slots pc lv st :=
  fun H locs ls hR hS hl => lv_goto C.1 C.2.1 d ht (k H locs ls hR hS hl)
theorem s_if_eq (C : CX X own cc nL) {x : Int32} {off : Int} {tgt : Nat} (d : decode cc pc = .ok (.ifCond .eq off, 3)) (ht : (pc : Int) + off = (tgt : Int)) {A B : Option ρ} (hf : (if x = 0 then A else B) = some r) (kt : A = some r → WW X h cells slots tgt lv st) (kf : B = some r → WW X h cells slots (pc + 3) lv st) : WW X h cells slots pc lv (.int x :: st) :=
  fun H locs ls hR hS hl => lv_if_eq C.1 C.2.1 d ht (fun hc => kt (by rwa [if_pos hc] at hf) H locs ls hR hS hl) (fun hc => kf (by rwa [if_neg hc] at hf) H locs ls hR hS hl)
theorem s_icmp_eq (C : CX X own cc nL) {x y : Int32} {off : Int} {tgt : Nat} (d : decode cc pc = .ok (.if_icmp .eq off, 3)) (ht : (pc : Int) + off = (tgt : Int)) {A B : Option ρ} (hf : (if x = y then A else B) = some r) (kt : A = some r → WW X h cells slots tgt lv st) (kf : B = some r → WW X h cells slots (pc + 3) lv st) : WW X h cells slots pc lv (.int y :: .int x :: st) :=
  fun H locs ls hR hS hl => lv_icmp_eq C.1 C.2.1 d ht (fun hc => kt (by rwa [if_pos hc] at hf) H locs ls hR hS hl) (fun hc => kf (by rwa [if_neg hc] at hf) H locs ls hR hS hl)
theorem s_if_ne (C : CX X own cc nL) {x : Int32} {off : Int} {tgt : Nat} (d : decode cc pc = .ok (.ifCond .ne off, 3)) (ht : (pc : Int) + off = (tgt : Int)) {A B : Option ρ} (hf : (if x = 0 then A else B) = some r) (kt : B = some r → WW X h cells slots tgt lv st) (kf : A = some r → WW X h cells slots (pc + 3) lv st) : WW X h cells slots pc lv (.int x :: st) :=
  fun H locs ls hR hS hl => lv_if_ne C.1 C.2.1 d ht (fun hc => kt (by rwa [if_neg hc] at hf) H locs ls hR hS hl) (fun hc => kf (by rwa [if_pos hc] at hf) H locs ls hR hS hl)
theorem s_icmp_ne (C : CX X own cc nL) {x y : Int32} {off : Int} {tgt : Nat} (d : decode cc pc = .ok (.if_icmp .ne off, 3)) (ht : (pc : Int) + off = (tgt : Int)) {A B : Option ρ} (hf : (if x = y then A else B) = some r) (kt : B = some r → WW X h cells slots tgt lv st) (kf : A = some r → WW X h cells slots (pc + 3) lv st) : WW X h cells slots pc lv (.int y :: .int x :: st) :=
  fun H locs ls hR hS hl => lv_icmp_ne C.1 C.2.1 d ht (fun hc => kt (by rwa [if_neg hc] at hf) H locs ls hR hS hl) (fun hc => kf (by rwa [if_pos hc] at hf) H locs ls hR hS hl)
theorem s_if_lt (C : CX X own cc nL) {x : Int32} {off : Int} {tgt : Nat} (d : decode cc pc = .ok (.ifCond .lt off, 3)) (ht : (pc : Int) + off = (tgt : Int)) {A B : Option ρ} (hf : (if x < 0 then A else B) = some r) (kt : A = some r → WW X h cells slots tgt lv st) (kf : B = some r → WW X h cells slots (pc + 3) lv st) : WW X h cells slots pc lv (.int x :: st) :=
  fun H locs ls hR hS hl => lv_if_lt C.1 C.2.1 d ht (fun hc => kt (by rwa [if_pos hc] at hf) H locs ls hR hS hl) (fun hc => kf (by rwa [if_neg hc] at hf) H locs ls hR hS hl)
theorem s_icmp_lt (C : CX X own cc nL) {x y : Int32} {off : Int} {tgt : Nat} (d : decode cc pc = .ok (.if_icmp .lt off, 3)) (ht : (pc : Int) + off = (tgt : Int)) {A B : Option ρ} (hf : (if x < y then A else B) = some r) (kt : A = some r → WW X h cells slots tgt lv st) (kf : B = some r → WW X h cells slots (pc + 3) lv st) : WW X h cells slots pc lv (.int y :: .int x :: st) :=
  fun H locs ls hR hS hl => lv_icmp_lt C.1 C.2.1 d ht (fun hc => kt (by rwa [if_pos hc] at hf) H locs ls hR hS hl) (fun hc => kf (by rwa [if_neg hc] at hf) H locs ls hR hS hl)
theorem s_if_ge (C : CX X own cc nL) {x : Int32} {off : Int} {tgt : Nat} (d : decode cc pc = .ok (.ifCond .ge off, 3)) (ht : (pc : Int) + off = (tgt : Int)) {A B : Option ρ} (hf : (if 0 ≤ x then A else B) = some r) (kt : A = some r → WW X h cells slots tgt lv st) (kf : B = some r → WW X h cells slots (pc + 3) lv st) : WW X h cells slots pc lv (.int x :: st) :=
  fun H locs ls hR hS hl => lv_if_ge C.1 C.2.1 d ht (fun hc => kt (by rwa [if_pos hc] at hf) H locs ls hR hS hl) (fun hc => kf (by rwa [if_neg hc] at hf) H locs ls hR hS hl)
theorem s_icmp_ge (C : CX X own cc nL) {x y : Int32} {off : Int} {tgt : Nat} (d : decode cc pc = .ok (.if_icmp .ge off, 3)) (ht : (pc : Int) + off = (tgt : Int)) {A B : Option ρ} (hf : (if y ≤ x then A else B) = some r) (kt : A = some r → WW X h cells slots tgt lv st) (kf : B = some r → WW X h cells slots (pc + 3) lv st) : WW X h cells slots pc lv (.int y :: .int x :: st) :=
  fun H locs ls hR hS hl => lv_icmp_ge C.1 C.2.1 d ht (fun hc => kt (by rwa [if_pos hc] at hf) H locs ls hR hS hl) (fun hc => kf (by rwa [if_neg hc] at hf) H locs ls hR hS hl)
theorem s_if_gt (C : CX X own cc nL) {x : Int32} {off : Int} {tgt : Nat} (d : decode cc pc = .ok (.ifCond .gt off, 3)) (ht : (pc : Int) + off = (tgt : Int)) {A B : Option ρ} (hf : (if 0 < x then A else B) = some r) (kt : A = some r → WW X h cells slots tgt lv st) (kf : B = some r → WW X h cells slots (pc + 3) lv st) : WW X h cells slots pc lv (.int x :: st) :=
  fun H locs ls hR hS hl => lv_if_gt C.1 C.2.1 d ht (fun hc => kt (by rwa [if_pos hc] at hf) H locs ls hR hS hl) (fun hc => kf (by rwa [if_neg hc] at hf) H locs ls hR hS hl)
theorem s_icmp_gt (C : CX X own cc nL) {x y : Int32} {off : Int} {tgt : Nat} (d : decode cc pc = .ok (.if_icmp .gt off, 3)) (ht : (pc : Int) + off = (tgt : Int)) {A B : Option ρ} (hf : (if y < x then A else B) = some r) (kt : A = some r → WW X h cells slots tgt lv st) (kf : B = some r → WW X h cells slots (pc + 3) lv st) : WW X h cells slots pc lv (.int y :: .int x :: st) :=
  fun H locs ls hR hS hl => lv_icmp_gt C.1 C.2.1 d ht (fun hc => kt (by rwa [if_pos hc] at hf) H locs ls hR hS hl) (fun hc => kf (by rwa [if_neg hc] at hf) H locs ls hR hS hl)
theorem s_if_le (C : CX X own cc nL) {x : Int32} {off : Int} {tgt : Nat} (d : decode cc pc = .ok (.ifCond .le off, 3)) (ht : (pc : Int) + off = (tgt : Int)) {A B : Option ρ} (hf : (if x ≤ 0 then A else B) = some r) (kt : A = some r → WW X h cells slots tgt lv st) (kf : B = some r → WW X h cells slots (pc + 3) lv st) : WW X h cells slots pc lv (.int x :: st) :=
  fun H locs ls hR hS hl => lv_if_le C.1 C.2.1 d ht (fun hc => kt (by rwa [if_pos hc] at hf) H locs ls hR hS hl) (fun hc => kf (by rwa [if_neg hc] at hf) H locs ls hR hS hl)
theorem s_icmp_le (C : CX X own cc nL) {x y : Int32} {off : Int} {tgt : Nat} (d : decode cc pc = .ok (.if_icmp .le off, 3)) (ht : (pc : Int) + off = (tgt : Int)) {A B : Option ρ} (hf : (if x ≤ y then A else B) = some r) (kt : A = some r → WW X h cells slots tgt lv st) (kf : B = some r → WW X h cells slots (pc + 3) lv st) : WW X h cells slots pc lv (.int y :: .int x :: st) :=
  fun H locs ls hR hS hl => lv_icmp_le C.1 C.2.1 d ht (fun hc => kt (by rwa [if_pos hc] at hf) H locs ls hR hS hl) (fun hc => kf (by rwa [if_neg hc] at hf) H locs ls hR hS hl)
theorem s_ifnull (C : CX X own cc nL) {x : Option Nat} {off : Int} {tgt : Nat} (d : decode cc pc = .ok (.ifnull off, 3)) (ht : (pc : Int) + off = (tgt : Int)) {A B : Option ρ} (hf : (if x = none then A else B) = some r) (kt : A = some r → WW X h cells slots tgt lv st) (kf : B = some r → WW X h cells slots (pc + 3) lv st) : WW X h cells slots pc lv (rB (xD X).1 x :: st) := by
  intro H locs ls hR hS hl
  cases x with
  | none => exact lv_ifnullN C.1 C.2.1 d ht (kt (by rwa [if_pos rfl] at hf) H locs ls hR hS hl)
  | some a => exact lv_ifnull C.1 C.2.1 d (kf (by rwa [if_neg (fun e => by cases e)] at hf) H locs ls hR hS hl)
theorem s_ifnonnull (C : CX X own cc nL) {x : Option Nat} {off : Int} {tgt : Nat} (d : decode cc pc = .ok (.ifnonnull off, 3)) (ht : (pc : Int) + off = (tgt : Int)) {A B : Option ρ} (hf : (if x = none then A else B) = some r) (kt : B = some r → WW X h cells slots tgt lv st) (kf : A = some r → WW X h cells slots (pc + 3) lv st) : WW X h cells slots pc lv (rB (xD X).1 x :: st) := by
  intro H locs ls hR hS hl
  cases x with
  | none => exact lv_ifnonnullN C.1 C.2.1 d (kf (by rwa [if_pos rfl] at hf) H locs ls hR hS hl)
  | some a => exact lv_ifnonnull C.1 C.2.1 d ht (kt (by rwa [if_neg (fun e => by cases e)] at hf) H locs ls hR hS hl)
end STEPS
end
section
/-! FIELDS, ARRAYS, NEW CELLS -/
theorem allX {P : Nat → Prop} (h0 : P 0) (h1 : P 1) (h2 : P 2) (h3 : P 3) (h4 : P 4) (h5 : P 5) (h6 : P 6) (h7 : P 7) (h8 : P 8) (h9 : P 9) (h10 : P 10) (h11 : P 11) (h12 : P 12) : ∀ t, t < 13 → P t := by
  intro t ht
  match t, ht with
  | 0, _ => exact h0
  | 1, _ => exact h1
  | 2, _ => exact h2
  | 3, _ => exact h3
  | 4, _ => exact h4
  | 5, _ => exact h5
  | 6, _ => exact h6
  | 7, _ => exact h7
  | 8, _ => exact h8
  | 9, _ => exact h9
  | 10, _ => exact h10
  | 11, _ => exact h11
  | 12, _ => exact h12
  | t + 13, h => exact absurd h (by omega)
theorem inXX : ∀ t, t < 13 → ∀ w ∈ u_ws (RXX t) (TXX t) (NXX t), w ∈ lw_big := allX inX0 inX1 inX2 inX3 inX4 inX5 inX6 inX7 inX8 inX9 inX10 inX11 inX12
theorem nmXX : ∀ t, t < 13 → ∀ a, a < NXX t → ∀ b, b < NXX t → a ≠ b → (TXX t a).2.1 ≠ (TXX t b).2.1 := allX nmX0 nmX1 nmX2 nmX3 nmX4 nmX5 nmX6 nmX7 nmX8 nmX9 nmX10 nmX11 nmX12
theorem tyXX_ok : ∀ t, t < 13 → ∀ k, k < NXX t → parseFieldDescriptor (TXX t k).2.2.1 = some (tyXX t k) := allX tyX0_ok tyX1_ok tyX2_ok tyX3_ok tyX4_ok tyX5_ok tyX6_ok tyX7_ok tyX8_ok tyX9_ok tyX10_ok tyX11_ok tyX12_ok
/-- a field of the constant pool: which place of which classes it is, of which kind, final or not -/
def FLk (own : String) (idx : Nat) (cs : List Nat) (k kd : Nat) (fin : Bool) : Prop := ∃ ref n d, Cond.fieldLink own idx ref n d ∈ lw_big ∧ (∀ t ∈ cs, t < 13) ∧ ∀ t ∈ cs, okC t → t < 13 ∧ k < NXX t ∧ (TXX t k).2.1 = n ∧ (TXX t k).2.2.1 = d ∧ (TXX t k).2.2.2 = fin ∧ fk (tyXX t k) = kd ∧ ((TXX t k).1 = ref ∨ Cond.sameField ref (TXX t k).1 n d ∈ lw_big)
theorem okT_spec {h : AH} {cs : List Nat} {r : Option Nat} (e : okT h cs r = true) : ∃ a t n, r = some a ∧ (hS h)[a]? = some (t, n) ∧ t ∈ cs := by
  unfold okT at e
  cases r with
  | none => cases e
  | some a =>
    cases hq : (hS h)[a]? with
    | none => simp [hq] at e
    | some q =>
      obtain ⟨t, n⟩ := q
      simp only [hq, List.contains_eq_mem, decide_eq_true_eq] at e
      exact ⟨a, t, n, rfl, hq, e⟩
theorem okA_spec {h : AH} {t : Nat} {r : Option Nat} {i : Int32} (e : okA h t r i = true) : ∃ a n, r = some a ∧ (hS h)[a]? = some (t, n) ∧ ¬ (i < 0 ∨ n ≤ i.toNatClampNeg) := by
  unfold okA at e
  cases r with
  | none => cases e
  | some a =>
    cases hq : (hS h)[a]? with
    | none => simp [hq] at e
    | some q =>
      obtain ⟨t', n⟩ := q
      simp only [hq, Bool.and_eq_true, beq_iff_eq, Bool.not_eq_true', Bool.or_eq_false_iff, decide_eq_false_iff_not] at e
      obtain ⟨rfl, e1, e2⟩ := e
      exact ⟨a, n, rfl, hq, fun z => z.elim e1 e2⟩
theorem atC.ob {D : DT} {h : AH} {k t n : Nat} {H : Heap} (hc : atC D h k (t, n) H) (ht : t < 13) : okC t ∧ t_OB (D.1 + k) (D.2.1 t) (NXX t) (D.2.2.1 t) H (oc D.1 h t k) := by
  unfold atC at hc
  rwa [if_pos ht] at hc
theorem atC.ar {D : DT} {h : AH} {k t n : Nat} {H : Heap} (hc : atC D h k (t, n) H) (ht : ¬ t < 13) (h28 : t < 28) : H[D.1 + k]? = some (arrV (D.2.2.2.1 t) n (ac D.1 h t k)) := by
  unfold atC at hc
  rwa [if_neg ht, if_pos h28] at hc
theorem atC.okc {D : DT} {h : AH} {k t n : Nat} {H : Heap} (hc : atC D h k (t, n) H) (ht : t < 13) : okC t := (hc.ob ht).1
section HEAP
variable {X : XT} {own : String} {cc : ByteArray} {nL pc cells slots : Nat} {h : AH} {lv lv' : List (Option Value)} {st : List Value} {ρ : Type} {r : ρ}
theorem s_getG (C : CX X own cc nL) {idx k kd t n a : Nat} {cs : List Nat} {fin : Bool} (F : FLk own idx cs k kd fin) (d : decode cc pc = .ok (.getfield idx, 3)) (hq : (hS h)[a]? = some (t, n)) (ht : t ∈ cs) (kk : WW X h cells slots (pc + 3) lv (vB (xD X).1 h a k kd :: st)) : WW X h cells slots pc lv (rB (xD X).1 (some a) :: st) := by
  intro H locs ls hR hS hl
  obtain ⟨ref, nm, ds, hlk, hcs, F⟩ := F
  have hoc := (hR.2.1 a _ hq).okc (hcs t ht)
  obtain ⟨h13, hk, en, ed, ef, ek, es⟩ := F t ht hoc
  subst en; subst ed
  obtain ⟨cell, q1, q2, q3, q4⟩ := ((hR.2.1 a _ hq).ob h13).2
  obtain ⟨hSl, hfc, kC, hkC, hkind⟩ := C.2.2.2.2.2.1.1 t h13 hoc
  obtain ⟨cf, kf, fi, f, hi, hsl⟩ := hSl k hk
  have hts := C.2.2.2.2.1
  have hin := inXX t h13
  have hsame : (xs X).fieldFound? ref (TXX t k).2.1 (TXX t k).2.2.1 = some (cf, kf, fi, f) := by
    rcases es with e | e
    · rw [← e]; exact hi
    · exact u_same (hts _ e) _ hi
  refine W.getf C.1 C.2.1 C.2.2.2.1 (hts _ hlk) hsame (u_facts hfc hkC (u_lays hts hin hk) hi).1 (a := (xD X).1 + a) q1 (by rw [q3]; exact fun h => by cases h) (v := vB (xD X).1 h a k kd) ?_ rfl rfl d (kk H locs ls hR hS hl)
  rw [hsl, q4 k hk]
  show some (vB _ _ _ _ (fk (tyXX t k))) = _
  rw [ek]
theorem s_getI (C : CX X own cc nL) {idx k : Nat} {cs : List Nat} {fin : Bool} (F : FLk own idx cs k 0 fin) (d : decode cc pc = .ok (.getfield idx, 3)) {r0 : Option Nat} {K : Int32 → Option ρ} (hf : fI h cs r0 k K = some r) (kk : ∀ v, K v = some r → WW X h cells slots (pc + 3) lv (.int v :: st)) : WW X h cells slots pc lv (rB (xD X).1 r0 :: st) := by
  unfold fI at hf
  split at hf
  · rename_i e
    obtain ⟨a, t, n, rfl, hq, ht⟩ := okT_spec e
    exact s_getG C F d hq ht (kk _ hf)
  · cases hf
theorem s_getL (C : CX X own cc nL) {idx k : Nat} {cs : List Nat} {fin : Bool} (F : FLk own idx cs k 1 fin) (d : decode cc pc = .ok (.getfield idx, 3)) {r0 : Option Nat} {K : Int64 → Option ρ} (hf : fL h cs r0 k K = some r) (kk : ∀ v, K v = some r → WW X h cells slots (pc + 3) lv (.long v :: st)) : WW X h cells slots pc lv (rB (xD X).1 r0 :: st) := by
  unfold fL at hf
  split at hf
  · rename_i e
    obtain ⟨a, t, n, rfl, hq, ht⟩ := okT_spec e
    exact s_getG C F d hq ht (kk _ hf)
  · cases hf
theorem s_getR (C : CX X own cc nL) {idx k : Nat} {cs : List Nat} {fin : Bool} (F : FLk own idx cs k 2 fin) (d : decode cc pc = .ok (.getfield idx, 3)) {r0 : Option Nat} {K : Option Nat → Option ρ} (hf : fR h cs r0 k K = some r) (kk : ∀ v, K v = some r → WW X h cells slots (pc + 3) lv (rB (xD X).1 v :: st)) : WW X h cells slots pc lv (rB (xD X).1 r0 :: st) := by
  unfold fR at hf
  split at hf
  · rename_i e
    obtain ⟨a, t, n, rfl, hq, ht⟩ := okT_spec e
    exact s_getG C F d hq ht (kk _ hf)
  · cases hf
theorem va_S.putD {b : Nat} {H0 H H1 : Heap} {locs : List Loc} {a k : Nat} (hS : va_S (fun q => b ≤ q) H0 H locs) (z : H1.size = H.size) (oq : ∀ q : Nat, q ≠ b + a → H1[q]? = H[q]?) : va_S (fun q => b ≤ q) H0 H1 (locs ++ [⟨b + a, k⟩]) := hS.put z oq (Nat.le_add_right _ _)
theorem s_putG (C : CX X own cc nL) {idx k kd t n a : Nat} {cs : List Nat} (F : FLk own idx cs k kd false) (d : decode cc pc = .ok (.putfield idx, 3)) (hq : (hS h)[a]? = some (t, n)) (ht : t ∈ cs) {v : Value} {h' : AH} (hnv : okC t → narrow (tyXX t k) v = v ∧ fits (tyXX t k) v = true) (hs : hS h' = hS h) (ho : ∀ j i f, j ≠ a → vB (xD X).1 h' j i f = vB (xD X).1 h j i f) (ho2 : ∀ i f, i ≠ k → vB (xD X).1 h' a i f = vB (xD X).1 h a i f) (ho3 : vB (xD X).1 h' a k kd = v) (kk : WW X h' cells slots (pc + 3) lv st) : WW X h cells slots pc lv (v :: rB (xD X).1 (some a) :: st) := by
  intro H locs ls hR hS hl
  obtain ⟨ref, nm, ds, hlk, hcs, F⟩ := F
  have hoc := (hR.2.1 a _ hq).okc (hcs t ht)
  obtain ⟨h13, hk, en, ed, ef, ek, es⟩ := F t ht hoc
  obtain ⟨hn, hv⟩ := hnv hoc
  subst en; subst ed
  have hob := ((hR.2.1 a _ hq).ob h13).2
  obtain ⟨cell, q1, q2, q3, q4⟩ := hob
  obtain ⟨hSl, hfc, kC, hkC, hkind⟩ := C.2.2.2.2.2.1.1 t h13 hoc
  obtain ⟨cf, kf, fi, f, hi, hsl⟩ := hSl k hk
  have hts := C.2.2.2.2.1
  have hin := inXX t h13
  have hsame : (xs X).fieldFound? ref (TXX t k).2.1 (TXX t k).2.2.1 = some (cf, kf, fi, f) := by
    rcases es with e | e
    · rw [← e]; exact hi
    · exact u_same (hts _ e) _ hi
  have hlay := hts _ (hin _ (u_in_lay hk))
  unfold u_lay at hlay
  rw [if_neg (by rw [ef]; decide)] at hlay
  have hst := (u_facts hfc hkC (u_lays hts hin hk) hi).1
  have h6 := u_store hfc hkC hkind hlay hi (tyXX_ok t h13 k hk) hn hv
  have hap : ∀ x y, x < NXX t → y < NXX t → x ≠ y → ((xD X).2.2.1 t) x ≠ ((xD X).2.2.1 t) y := by
    intro x y hx hy hne
    obtain ⟨_, _, _, fa, hia, ea⟩ := hSl x hx
    obtain ⟨_, _, _, fb, hib, eb⟩ := hSl y hy
    rw [← ea, ← eb]
    refine u_apart (u_lays hts hin hx) (u_lays hts hin hy) hia hib ?_
    rw [(State.fieldFound?_type hia (tyXX_ok t h13 x hx)).1, (State.fieldFound?_type hib (tyXX_ok t h13 y hy)).1]
    exact nmXX t h13 x hx y hy hne
  refine W.putK C.1 C.2.1 (f := f) ⟨C.2.2.2.1, hts _ hlk, ⟨_, _, _, hsame⟩, hst⟩ (a := (xD X).1 + a) (by rw [q2]; exact h6) q1 q3 (by rw [hsl]; exact k2_hasslot (q4 k hk)) rfl rfl d fun H' e1 e2 e3 => ?_
  rw [hsl] at e1 ⊢
  refine kk H' _ ls (hR.put hs hq e2 e3 ?_ ho) (hS.putD e2 e3) hl
  show (if t < 13 then _ else _)
  rw [if_pos h13]
  refine ⟨hoc, ?_⟩
  refine t_OB.to (V := updV (oc (xD X).1 h t a) k v) ⟨_, e1, q2, q3, t_set q4 hap hk v⟩ (fun j hj => ?_)
  by_cases e : j = k
  · subst e
    simp only [updV, if_pos rfl]
    show v = vB _ _ _ _ (fk (tyXX t j))
    rw [ek, ho3]
  · simp only [updV, if_neg e]
    exact (ho2 j _ e).symm
theorem s_putFG (C : CX X own cc nL) {idx k kd t n a : Nat} {cs : List Nat} (F : FLk own idx cs k kd true) (hown : ∀ t ∈ cs, okC t → (TXX t k).1 = own) (hinit : (xM X).name = "<init>") (d : decode cc pc = .ok (.putfield idx, 3)) (hq : (hS h)[a]? = some (t, n)) (ht : t ∈ cs) {v : Value} {h' : AH} (hnv : okC t → narrow (tyXX t k) v = v ∧ fits (tyXX t k) v = true) (hs : hS h' = hS h) (ho : ∀ j i f, j ≠ a → vB (xD X).1 h' j i f = vB (xD X).1 h j i f) (ho2 : ∀ i f, i ≠ k → vB (xD X).1 h' a i f = vB (xD X).1 h a i f) (ho3 : vB (xD X).1 h' a k kd = v) (kk : WW X h' cells slots (pc + 3) lv st) : WW X h cells slots pc lv (v :: rB (xD X).1 (some a) :: st) := by
  intro H locs ls hR hS hl
  obtain ⟨ref, nm, ds, hlk, hcs, F⟩ := F
  have hoc := (hR.2.1 a _ hq).okc (hcs t ht)
  obtain ⟨h13, hk, en, ed, ef, ek, es⟩ := F t ht hoc
  obtain ⟨hn, hv⟩ := hnv hoc
  subst en; subst ed
  have hob := ((hR.2.1 a _ hq).ob h13).2
  obtain ⟨cell, q1, q2, q3, q4⟩ := hob
  obtain ⟨hSl, hfc, kC, hkC, hkind⟩ := C.2.2.2.2.2.1.1 t h13 hoc
  obtain ⟨cf, kf, fi, f, hi, hsl⟩ := hSl k hk
  have hts := C.2.2.2.2.1
  have hin := inXX t h13
  have hsame : (xs X).fieldFound? ref (TXX t k).2.1 (TXX t k).2.2.1 = some (cf, kf, fi, f) := by
    rcases es with e | e
    · rw [← e]; exact hi
    · exact u_same (hts _ e) _ hi
  have hlay := hts _ (hin _ (u_in_lay hk))
  unfold u_lay at hlay
  rw [if_pos ef] at hlay
  have hst := (u_facts hfc hkC (u_lays hts hin hk) hi).1
  have hcf : (xm X).cls = cf := by
    obtain ⟨_, _, c', _, _, _, -, -, hf', -, -, -, hown2, -⟩ := Cond.laysFinal_spec hlay
    have e1 : c' = cf := by have := hi.symm.trans hf'; simp at this; exact this.1.symm
    rw [hown t ht hoc] at hown2
    rw [← e1]; exact Option.some.inj (C.2.2.2.1.symm.trans hown2)
  have h6 := u_fits hfc hkC hkind (Or.inr hlay) hi (tyXX_ok t h13 k hk) hn hv
  have hap : ∀ x y, x < NXX t → y < NXX t → x ≠ y → ((xD X).2.2.1 t) x ≠ ((xD X).2.2.1 t) y := by
    intro x y hx hy hne
    obtain ⟨_, _, _, fa, hia, ea⟩ := hSl x hx
    obtain ⟨_, _, _, fb, hib, eb⟩ := hSl y hy
    rw [← ea, ← eb]
    refine u_apart (u_lays hts hin hx) (u_lays hts hin hy) hia hib ?_
    rw [(State.fieldFound?_type hia (tyXX_ok t h13 x hx)).1, (State.fieldFound?_type hib (tyXX_ok t h13 y hy)).1]
    exact nmXX t h13 x hx y hy hne
  refine W.putFinK C.1 C.2.1 C.2.2.2.1 (hts _ hlk) hsame hst hcf hinit (a := (xD X).1 + a) (by rw [q2]; exact h6) q1 q3 (by rw [hsl]; exact k2_hasslot (q4 k hk)) rfl rfl d fun H' e1 e2 e3 => ?_
  rw [hsl] at e1 ⊢
  refine kk H' _ ls (hR.put hs hq e2 e3 ?_ ho) (hS.putD e2 e3) hl
  show (if t < 13 then _ else _)
  rw [if_pos h13]
  refine ⟨hoc, ?_⟩
  refine t_OB.to (V := updV (oc (xD X).1 h t a) k v) ⟨_, e1, q2, q3, t_set q4 hap hk v⟩ (fun j hj => ?_)
  by_cases e : j = k
  · subst e
    simp only [updV, if_pos rfl]
    show v = vB _ _ _ _ (fk (tyXX t j))
    rw [ek, ho3]
  · simp only [updV, if_neg e]
    exact (ho2 j _ e).symm
end HEAP
end
section
theorem vB_wI1 {b : Nat} {h : AH} {a k : Nat} {v : Int32} (j i f : Nat) (e : j ≠ a) : vB b (wI h a k v) j i f = vB b h j i f := by
  unfold vB
  split <;> simp [hI, hL, hR, wI, u2, e]
theorem vB_wI2 {b : Nat} {h : AH} {a k : Nat} {v : Int32} (i f : Nat) (e : i ≠ k) : vB b (wI h a k v) a i f = vB b h a i f := by
  unfold vB
  split <;> simp [hI, hL, hR, wI, u2, e]
theorem vB_wI3 {b : Nat} {h : AH} {a k : Nat} {v : Int32} : vB b (wI h a k v) a k 0 = .int v := by simp [vB, hI, wI, u2]
theorem vB_wL1 {b : Nat} {h : AH} {a k : Nat} {v : Int64} (j i f : Nat) (e : j ≠ a) : vB b (wL h a k v) j i f = vB b h j i f := by
  unfold vB
  split <;> simp [hI, hL, hR, wL, u2, e]
theorem vB_wL2 {b : Nat} {h : AH} {a k : Nat} {v : Int64} (i f : Nat) (e : i ≠ k) : vB b (wL h a k v) a i f = vB b h a i f := by
  unfold vB
  split <;> simp [hI, hL, hR, wL, u2, e]
theorem vB_wL3 {b : Nat} {h : AH} {a k : Nat} {v : Int64} : vB b (wL h a k v) a k 1 = .long v := by simp [vB, hL, wL, u2]
theorem vB_wR1 {b : Nat} {h : AH} {a k : Nat} {v : Option Nat} (j i f : Nat) (e : j ≠ a) : vB b (wR h a k v) j i f = vB b h j i f := by
  unfold vB
  split <;> simp [hI, hL, hR, wR, u2, e]
theorem vB_wR2 {b : Nat} {h : AH} {a k : Nat} {v : Option Nat} (i f : Nat) (e : i ≠ k) : vB b (wR h a k v) a i f = vB b h a i f := by
  unfold vB
  split <;> simp [hI, hL, hR, wR, u2, e]
theorem vB_wR3 {b : Nat} {h : AH} {a k : Nat} {v : Option Nat} : vB b (wR h a k v) a k 2 = rB b v := by simp [vB, hR, wR, u2]
theorem fk2 {ty : FieldType} (h : fk ty = 2) : (∃ C, ty = .object C) ∨ ∃ t, ty = .array t := by
  cases ty <;> first | exact Or.inl ⟨_, rfl⟩ | exact Or.inr ⟨_, rfl⟩ | cases h
theorem fit_r {ty : FieldType} {b : Nat} {v : Option Nat} (h : fk ty = 2) : narrow ty (rB b v) = rB b v ∧ fits ty (rB b v) = true := by
  rcases fk2 h with ⟨C, rfl⟩ | ⟨t, rfl⟩ <;> cases v <;> exact ⟨rfl, rfl⟩
theorem fit_l {ty : FieldType} {v : Int64} (h : fk ty = 1) : narrow ty (.long v) = .long v ∧ fits ty (.long v) = true := by
  cases ty <;> first | exact ⟨rfl, rfl⟩ | cases h
section HEAP2
variable {X : XT} {own : String} {cc : ByteArray} {nL pc cells slots : Nat} {h : AH} {lv lv' : List (Option Value)} {st : List Value} {ρ : Type} {r : ρ}
theorem s_putI (C : CX X own cc nL) {idx k : Nat} {cs : List Nat} (F : FLk own idx cs k 0 false) (ty : ∀ t ∈ cs, tyXX t k = .int) (d : decode cc pc = .ok (.putfield idx, 3)) {r0 : Option Nat} {v : Int32} {K : AH → Option ρ} (hf : pI h cs r0 k v K = some r) (kk : ∀ h', K h' = some r → WW X h' cells slots (pc + 3) lv st) : WW X h cells slots pc lv (.int v :: rB (xD X).1 r0 :: st) := by
  unfold pI at hf
  split at hf
  · rename_i e
    obtain ⟨a, t, n, rfl, hq, ht⟩ := okT_spec e
    exact s_putG C F d hq ht (fun _ => ⟨by rw [ty t ht]; rfl, by rw [ty t ht]; rfl⟩) (h' := wI h a k v) rfl (vB_wI1) (vB_wI2) vB_wI3 (kk _ hf)
  · cases hf
theorem s_putZ (C : CX X own cc nL) {idx k : Nat} {cs : List Nat} (F : FLk own idx cs k 0 false) (ty : ∀ t ∈ cs, tyXX t k = .boolean) (d : decode cc pc = .ok (.putfield idx, 3)) {r0 : Option Nat} {v : Int32} {K : AH → Option ρ} (hf : pZ h cs r0 k v K = some r) (kk : ∀ h', K h' = some r → WW X h' cells slots (pc + 3) lv st) : WW X h cells slots pc lv (.int v :: rB (xD X).1 r0 :: st) := by
  unfold pZ at hf
  split at hf
  · rename_i e
    obtain ⟨a, t, n, rfl, hq, ht⟩ := okT_spec e.1
    exact s_putG C F d hq ht (fun _ => by rw [ty t ht]; rcases e.2 with rfl | rfl <;> exact ⟨rfl, rfl⟩) (h' := wI h a k v) rfl (vB_wI1) (vB_wI2) vB_wI3 (kk _ hf)
  · cases hf
theorem s_putL (C : CX X own cc nL) {idx k : Nat} {cs : List Nat} (F : FLk own idx cs k 1 false) (d : decode cc pc = .ok (.putfield idx, 3)) {r0 : Option Nat} {v : Int64} {K : AH → Option ρ} (hf : pL h cs r0 k v K = some r) (kk : ∀ h', K h' = some r → WW X h' cells slots (pc + 3) lv st) : WW X h cells slots pc lv (.long v :: rB (xD X).1 r0 :: st) := by
  unfold pL at hf
  split at hf
  · rename_i e
    obtain ⟨a, t, n, rfl, hq, ht⟩ := okT_spec e
    have hk := fun hoc => fit_l (v := v) (F.choose_spec.choose_spec.choose_spec.2.2 t ht hoc).2.2.2.2.2.1
    exact s_putG C F d hq ht hk (h' := wL h a k v) rfl (vB_wL1) (vB_wL2) vB_wL3 (kk _ hf)
  · cases hf
theorem s_putR (C : CX X own cc nL) {idx k : Nat} {cs : List Nat} (F : FLk own idx cs k 2 false) (d : decode cc pc = .ok (.putfield idx, 3)) {r0 v : Option Nat} {K : AH → Option ρ} (hf : pR h cs r0 k v K = some r) (kk : ∀ h', K h' = some r → WW X h' cells slots (pc + 3) lv st) : WW X h cells slots pc lv (rB (xD X).1 v :: rB (xD X).1 r0 :: st) := by
  unfold pR at hf
  split at hf
  · rename_i e
    obtain ⟨a, t, n, rfl, hq, ht⟩ := okT_spec e
    have hk := fun hoc => fit_r (b := (xD X).1) (v := v) (F.choose_spec.choose_spec.choose_spec.2.2 t ht hoc).2.2.2.2.2.1
    exact s_putG C F d hq ht hk (h' := wR h a k v) rfl (vB_wR1) (vB_wR2) vB_wR3 (kk _ hf)
  · cases hf
theorem s_putFI (C : CX X own cc nL) {idx k : Nat} {cs : List Nat} (F : FLk own idx cs k 0 true) (ty : ∀ t ∈ cs, tyXX t k = .int) (hown : ∀ t ∈ cs, okC t → (TXX t k).1 = own) (hinit : (xM X).name = "<init>") (d : decode cc pc = .ok (.putfield idx, 3)) {r0 : Option Nat} {v : Int32} {K : AH → Option ρ} (hf : pI h cs r0 k v K = some r) (kk : ∀ h', K h' = some r → WW X h' cells slots (pc + 3) lv st) : WW X h cells slots pc lv (.int v :: rB (xD X).1 r0 :: st) := by
  unfold pI at hf
  split at hf
  · rename_i e
    obtain ⟨a, t, n, rfl, hq, ht⟩ := okT_spec e
    exact s_putFG C F hown hinit d hq ht (fun _ => ⟨by rw [ty t ht]; rfl, by rw [ty t ht]; rfl⟩) (h' := wI h a k v) rfl (vB_wI1) (vB_wI2) vB_wI3 (kk _ hf)
  · cases hf
theorem s_putFR (C : CX X own cc nL) {idx k : Nat} {cs : List Nat} (F : FLk own idx cs k 2 true) (hown : ∀ t ∈ cs, okC t → (TXX t k).1 = own) (hinit : (xM X).name = "<init>") (d : decode cc pc = .ok (.putfield idx, 3)) {r0 v : Option Nat} {K : AH → Option ρ} (hf : pR h cs r0 k v K = some r) (kk : ∀ h', K h' = some r → WW X h' cells slots (pc + 3) lv st) : WW X h cells slots pc lv (rB (xD X).1 v :: rB (xD X).1 r0 :: st) := by
  unfold pR at hf
  split at hf
  · rename_i e
    obtain ⟨a, t, n, rfl, hq, ht⟩ := okT_spec e
    have hk := fun hoc => fit_r (b := (xD X).1) (v := v) (F.choose_spec.choose_spec.choose_spec.2.2 t ht hoc).2.2.2.2.2.1
    exact s_putFG C F hown hinit d hq ht hk (h' := wR h a k v) rfl (vB_wR1) (vB_wR2) vB_wR3 (kk _ hf)
  · cases hf
-- arrays
theorem s_iaload (C : CX X own cc nL) (d : decode cc pc = .ok (.iaload, 1)) {r0 : Option Nat} {i : Int32} {K : Int32 → Option ρ} (hf : aI h 20 r0 i K = some r) (kk : ∀ v, K v = some r → WW X h cells slots (pc + 1) lv (.int v :: st)) : WW X h cells slots pc lv (.int i :: rB (xD X).1 r0 :: st) := by
  unfold aI at hf
  split at hf
  · rename_i e
    obtain ⟨a, n, rfl, hq, hin⟩ := okA_spec e
    intro H locs ls hR hS hl
    exact W.iald (v := .int (gI h (some a) i.toNatClampNeg)) C.1 C.2.1 (a := (xD X).1 + a) ((hR.2.1 a _ hq).ar (by decide) (by decide)) ((C.2.2.2.2.2.1.2.1 20 (by decide) (by decide)).1 n _) (fun q => by cases q) (by rw [arrV_size]; exact hin) (by rw [arrV_read _ _ (Nat.not_le.mp fun q => hin (Or.inr q))]; rfl) rfl rfl d (kk _ hf H locs ls hR hS hl)
  · cases hf
theorem s_baload (C : CX X own cc nL) (d : decode cc pc = .ok (.baload, 1)) {r0 : Option Nat} {i : Int32} {K : Int32 → Option ρ} (hf : aI h 22 r0 i K = some r) (kk : ∀ v, K v = some r → WW X h cells slots (pc + 1) lv (.int v :: st)) : WW X h cells slots pc lv (.int i :: rB (xD X).1 r0 :: st) := by
  unfold aI at hf
  split at hf
  · rename_i e
    obtain ⟨a, n, rfl, hq, hin⟩ := okA_spec e
    intro H locs ls hR hS hl
    exact W.bald (v := .int (gI h (some a) i.toNatClampNeg)) C.1 C.2.1 (a := (xD X).1 + a) ((hR.2.1 a _ hq).ar (by decide) (by decide)) ((C.2.2.2.2.2.1.2.1 22 (by decide) (by decide)).1 n _) (fun q => by cases q) (by rw [arrV_size]; exact hin) (by rw [arrV_read _ _ (Nat.not_le.mp fun q => hin (Or.inr q))]; rfl) rfl rfl d (kk _ hf H locs ls hR hS hl)
  · cases hf
theorem s_zaload (C : CX X own cc nL) (d : decode cc pc = .ok (.baload, 1)) {r0 : Option Nat} {i : Int32} {K : Int32 → Option ρ} (hf : aI h 23 r0 i K = some r) (kk : ∀ v, K v = some r → WW X h cells slots (pc + 1) lv (.int v :: st)) : WW X h cells slots pc lv (.int i :: rB (xD X).1 r0 :: st) := by
  unfold aI at hf
  split at hf
  · rename_i e
    obtain ⟨a, n, rfl, hq, hin⟩ := okA_spec e
    intro H locs ls hR hS hl
    exact W.zald (v := .int (gI h (some a) i.toNatClampNeg)) C.1 C.2.1 (a := (xD X).1 + a) ((hR.2.1 a _ hq).ar (by decide) (by decide)) ((C.2.2.2.2.2.1.2.1 23 (by decide) (by decide)).1 n _) (fun q => by cases q) (by rw [arrV_size]; exact hin) (by rw [arrV_read _ _ (Nat.not_le.mp fun q => hin (Or.inr q))]; rfl) rfl rfl d (kk _ hf H locs ls hR hS hl)
  · cases hf
theorem s_laload (C : CX X own cc nL) (d : decode cc pc = .ok (.laload, 1)) {r0 : Option Nat} {i : Int32} {K : Int64 → Option ρ} (hf : aL h 24 r0 i K = some r) (kk : ∀ v, K v = some r → WW X h cells slots (pc + 1) lv (.long v :: st)) : WW X h cells slots pc lv (.int i :: rB (xD X).1 r0 :: st) := by
  unfold aL at hf
  split at hf
  · rename_i e
    obtain ⟨a, n, rfl, hq, hin⟩ := okA_spec e
    intro H locs ls hR hS hl
    exact W.lald (v := .long (gL h (some a) i.toNatClampNeg)) C.1 C.2.1 (a := (xD X).1 + a) ((hR.2.1 a _ hq).ar (by decide) (by decide)) ((C.2.2.2.2.2.1.2.1 24 (by decide) (by decide)).1 n _) (fun q => by cases q) (by rw [arrV_size]; exact hin) (by rw [arrV_read _ _ (Nat.not_le.mp fun q => hin (Or.inr q))]; rfl) rfl rfl d (kk _ hf H locs ls hR hS hl)
  · cases hf
theorem s_aaload (C : CX X own cc nL) (d : decode cc pc = .ok (.aaload, 1)) {t : Nat} (ht : 25 ≤ t ∧ t < 28) {r0 : Option Nat} {i : Int32} {K : Option Nat → Option ρ} (hf : aR h t r0 i K = some r) (kk : ∀ v, K v = some r → WW X h cells slots (pc + 1) lv (rB (xD X).1 v :: st)) : WW X h cells slots pc lv (.int i :: rB (xD X).1 r0 :: st) := by
  unfold aR at hf
  split at hf
  · rename_i e
    obtain ⟨a, n, rfl, hq, hin⟩ := okA_spec e
    have h3 : t = 25 ∨ t = 26 ∨ t = 27 := by omega
    intro H locs ls hR hS hl
    refine W.aald (v := rB (xD X).1 (gR h (some a) i.toNatClampNeg)) (ty := aty t) C.1 C.2.1 (a := (xD X).1 + a) ((hR.2.1 a _ hq).ar (by omega) (by omega)) ((C.2.2.2.2.2.1.2.1 t (by omega) (by omega)).1 n _) (by rcases h3 with rfl | rfl | rfl <;> rfl) (fun q => by cases q) (by rw [arrV_size]; exact hin) ?_ rfl rfl d (kk _ hf H locs ls hR hS hl)
    rw [arrV_read _ _ (Nat.not_le.mp fun q => hin (Or.inr q))]
    rcases h3 with rfl | rfl | rfl <;> rfl
  · cases hf
theorem atC.upd {D : DT} {h h' : AH} {k t n : Nat} {H1 : Heap} {i : Nat} {v : Value} (ht : ¬ t < 13) (h28 : t < 28) (e1 : H1[D.1 + k]? = some ((arrV (D.2.2.2.1 t) n (ac D.1 h t k)).setSlot i v)) (h2 : ∀ j, j ≠ i → ac D.1 h' t k j = ac D.1 h t k j) (h3 : ac D.1 h' t k i = v) : atC D h' k (t, n) H1 := by
  unfold atC
  rw [if_neg ht, if_pos h28, e1, arrV_store]
  congr 2
  funext j
  by_cases e : j = i
  · subst e; simp [updV, h3]
  · simp [updV, e, h2 j e]
theorem s_iastore (C : CX X own cc nL) (d : decode cc pc = .ok (.iastore, 1)) {r0 : Option Nat} {i v : Int32} {K : AH → Option ρ} (hf : bI h 20 r0 i v K = some r) (kk : ∀ h', K h' = some r → WW X h' cells slots (pc + 1) lv st) : WW X h cells slots pc lv (.int v :: .int i :: rB (xD X).1 r0 :: st) := by
  unfold bI at hf
  split at hf
  · rename_i e
    obtain ⟨a, n, rfl, hq, hin⟩ := okA_spec e
    intro H locs ls hR hS hl
    refine W.iast C.1 C.2.1 (a := (xD X).1 + a) ((hR.2.1 a _ hq).ar (by decide) (by decide)) ((C.2.2.2.2.2.1.2.1 20 (by decide) (by decide)).1 n _) (fun q => by cases q) (by rw [arrV_size]; exact hin) rfl rfl d fun H1 e1 e2 e3 => ?_
    exact kk _ hf H1 _ ls (hR.put (h' := wI h a i.toNatClampNeg v) rfl hq e2 e3 (atC.upd (by decide) (by decide) e1 (fun j hj => vB_wI2 j _ hj) vB_wI3) vB_wI1) (hS.putD e2 e3) hl
  · cases hf
theorem s_bastore (C : CX X own cc nL) (d : decode cc pc = .ok (.bastore, 1)) {r0 : Option Nat} {i v : Int32} {K : AH → Option ρ} (hf : bI h 22 r0 i v.toInt8.toInt32 K = some r) (kk : ∀ h', K h' = some r → WW X h' cells slots (pc + 1) lv st) : WW X h cells slots pc lv (.int v :: .int i :: rB (xD X).1 r0 :: st) := by
  unfold bI at hf
  split at hf
  · rename_i e
    obtain ⟨a, n, rfl, hq, hin⟩ := okA_spec e
    intro H locs ls hR hS hl
    refine W.bast C.1 C.2.1 (a := (xD X).1 + a) ((hR.2.1 a _ hq).ar (by decide) (by decide)) ((C.2.2.2.2.2.1.2.1 22 (by decide) (by decide)).1 n _) (fun q => by cases q) (by rw [arrV_size]; exact hin) rfl rfl d fun H1 e1 e2 e3 => ?_
    exact kk _ hf H1 _ ls (hR.put (h' := wI h a i.toNatClampNeg v.toInt8.toInt32) rfl hq e2 e3 (atC.upd (by decide) (by decide) e1 (fun j hj => vB_wI2 j _ hj) vB_wI3) vB_wI1) (hS.putD e2 e3) hl
  · cases hf
theorem s_zastore (C : CX X own cc nL) (d : decode cc pc = .ok (.bastore, 1)) {r0 : Option Nat} {i v : Int32} {K : AH → Option ρ} (hf : bI h 23 r0 i (v &&& 1) K = some r) (kk : ∀ h', K h' = some r → WW X h' cells slots (pc + 1) lv st) : WW X h cells slots pc lv (.int v :: .int i :: rB (xD X).1 r0 :: st) := by
  unfold bI at hf
  split at hf
  · rename_i e
    obtain ⟨a, n, rfl, hq, hin⟩ := okA_spec e
    intro H locs ls hR hS hl
    refine W.zast C.1 C.2.1 (a := (xD X).1 + a) ((hR.2.1 a _ hq).ar (by decide) (by decide)) ((C.2.2.2.2.2.1.2.1 23 (by decide) (by decide)).1 n _) (fun q => by cases q) (by rw [arrV_size]; exact hin) rfl rfl d fun H1 e1 e2 e3 => ?_
    exact kk _ hf H1 _ ls (hR.put (h' := wI h a i.toNatClampNeg (v &&& 1)) rfl hq e2 e3 (atC.upd (by decide) (by decide) e1 (fun j hj => vB_wI2 j _ hj) vB_wI3) vB_wI1) (hS.putD e2 e3) hl
  · cases hf
theorem s_lastore (C : CX X own cc nL) (d : decode cc pc = .ok (.lastore, 1)) {r0 : Option Nat} {i : Int32} {v : Int64} {K : AH → Option ρ} (hf : bL h 24 r0 i v K = some r) (kk : ∀ h', K h' = some r → WW X h' cells slots (pc + 1) lv st) : WW X h cells slots pc lv (.long v :: .int i :: rB (xD X).1 r0 :: st) := by
  unfold bL at hf
  split at hf
  · rename_i e
    obtain ⟨a, n, rfl, hq, hin⟩ := okA_spec e
    intro H locs ls hR hS hl
    refine W.last C.1 C.2.1 (a := (xD X).1 + a) ((hR.2.1 a _ hq).ar (by decide) (by decide)) ((C.2.2.2.2.2.1.2.1 24 (by decide) (by decide)).1 n _) (fun q => by cases q) (by rw [arrV_size]; exact hin) rfl rfl d fun H1 e1 e2 e3 => ?_
    exact kk _ hf H1 _ ls (hR.put (h' := wL h a i.toNatClampNeg v) rfl hq e2 e3 (atC.upd (by decide) (by decide) e1 (fun j hj => vB_wL2 j _ hj) vB_wL3) vB_wL1) (hS.putD e2 e3) hl
  · cases hf
theorem s_alen (C : CX X own cc nL) (d : decode cc pc = .ok (.arraylength, 1)) {t : Nat} (ht : 20 ≤ t ∧ t < 28) {r0 : Option Nat} {K : Int32 → Option ρ} (hf : aN h t r0 K = some r) (kk : ∀ v, K v = some r → WW X h cells slots (pc + 1) lv (.int v :: st)) : WW X h cells slots pc lv (rB (xD X).1 r0 :: st) := by
  unfold aN at hf
  cases r0 with
  | none => cases hf
  | some a =>
    cases hq : (hS h)[a]? with
    | none => simp [hq] at hf
    | some q =>
      obtain ⟨t', n⟩ := q
      simp only [hq] at hf
      split at hf
      · rename_i e
        subst e
        intro H locs ls hR hS hl
        exact W.alen (n := nI n) C.1 C.2.1 (a := (xD X).1 + a) ((hR.2.1 a _ hq).ar (by omega) (by omega)) ((C.2.2.2.2.2.1.2.1 t' ht.1 (by omega)).1 n _) (by rw [arrV_size]; rfl) rfl rfl d (kk _ hf H locs ls hR hS hl)
      · cases hf
end HEAP2
end
section
/-! NEW CELLS, CASTS, CONSTANTS -/
theorem vB_grow {b : Nat} {h : AH} {t n : Nat} (j i f : Nat) (e : j < (hS h).length) : vB b (grow h t n) j i f = vB b h j i f := by
  have e' : ¬ j = h.1.length := Nat.ne_of_lt e
  unfold vB
  split <;> simp [hI, hL, hR, grow, uR, e']
theorem vB_grow0 {b : Nat} {h : AH} {t n : Nat} (i f : Nat) : vB b (grow h t n) (hS h).length i f = match f with | 0 => .int 0 | 1 => .long 0 | _ => .null := by
  unfold vB
  split <;> simp [hI, hL, hR, grow, uR, hS, rB, va_rf]
theorem hS_grow {h : AH} {t n : Nat} : hS (grow h t n) = hS h ++ [(t, n)] := rfl
theorem dvXX : ∀ t, t < 13 → ∀ k, k < NXX t → defaultValue (tyXX t k) = (match fk (tyXX t k) with | 0 => Value.int 0 | 1 => .long 0 | _ => .null) := allX (by decide +kernel) (by decide +kernel) (by decide +kernel) (by decide +kernel) (by decide +kernel) (by decide +kernel) (by decide +kernel) (by decide +kernel) (by decide +kernel) (by decide +kernel) (by decide +kernel) (by decide +kernel) (by decide +kernel)
theorem LW.app {D : DT} {S : List (Nat × Nat)} {t n : Nat} (h : LW D S) (h28 : t < 28) : LW D (S ++ [(t, n)]) := by
  refine ⟨by rw [List.length_append]; have := h.1; omega, fun k q => ?_⟩
  rw [h.2 k q]
  by_cases e : k < S.length
  · rw [List.getElem?_append_left e]
  · rw [List.getElem?_eq_none (by omega), List.getElem?_append_right (by omega)]
    refine ⟨fun z => (by cases z.1), fun z => ?_⟩
    have hz : k - S.length < 1 := (List.getElem?_eq_some_iff.mp z.1).1
    have e0 : k - S.length = 0 := by omega
    rw [e0] at z
    have := z.1
    cases this
    exact absurd z.2 (by show ¬ 28 ≤ t; omega)
theorem RepH.grow {D : DT} {h : AH} {t n : Nat} {H H1 : Heap} (hR : RepH D h H) (z : H1.size = H.size + 1) (o : ∀ q, q < H.size → H1[q]? = H[q]?) (h28 : t < 28) (hc : atC D (grow h t n) (hS h).length (t, n) H1) : RepH D (grow h t n) H1 := by
  refine ⟨by rw [z, hR.1, hS_grow, List.length_append]; rfl, fun j p hj => ?_, by rw [hS_grow]; exact hR.2.2.app h28⟩
  rw [hS_grow] at hj
  by_cases hl : j < (hS h).length
  · rw [List.getElem?_append_left hl] at hj
    have h1 := hR.2.1 j p hj
    have hlt : D.1 + j < H.size := by rw [hR.1]; omega
    unfold atC at h1 ⊢
    split
    · rename_i ht
      rw [if_pos ht] at h1
      exact ⟨h1.1, (h1.2.kept (o _ hlt)).to (fun i _ => (vB_grow j i _ hl).symm)⟩
    · rename_i ht
      rw [if_neg ht] at h1
      rw [o _ hlt, h1]
      have : ac D.1 h p.1 j = ac D.1 (Jvm.Pilot.@@N@@.grow h t n) p.1 j := by funext i; exact (vB_grow j i _ hl).symm
      rw [this]
  · rw [List.getElem?_append_right (by omega)] at hj
    have hz : j - (hS h).length < 1 := (List.getElem?_eq_some_iff.mp hj).1
    have ej : j = (hS h).length := by omega
    subst ej
    rw [Nat.sub_self] at hj
    cases hj
    exact hc
theorem va_S.grown {b : Nat} {H0 H H1 : Heap} {locs : List Loc} (hS : va_S (fun q => b ≤ q) H0 H locs) (z : H1.size = H.size + 1) (o : ∀ q, q < H.size → H1[q]? = H[q]?) : va_S (fun q => b ≤ q) H0 H1 locs :=
  ⟨Nat.le_trans hS.1 (by omega), fun x h1 h2 => (o x (Nat.lt_of_lt_of_le h1 hS.1)).trans (hS.2.1 x h1 h2), hS.2.2⟩
section NEWS
variable {X : XT} {own : String} {cc : ByteArray} {nL pc cells slots : Nat} {h : AH} {lv lv' : List (Option Value)} {st : List Value} {ρ : Type} {r : ρ}
theorem s_new (C : CX X own cc nL) {idx t n : Nat} (ht : t < 13) (hoc : okC t) (hn : NXX t = n) (w1 : Cond.classLink own idx (RXX t) ∈ lw_big) (w2 : Cond.instantiable (RXX t) (NXX t) ∈ lw_big) (w3 : Cond.initialized (RXX t) ∈ lw_big) (d : decode cc pc = .ok (.new idx, 3)) {K : Option Nat → AH → Option ρ} (hf : nO h t n K = some r) (hc : cells + 1 ≤ (xR X).cells) (hs : slots + n ≤ (xR X).slots) (kk : ∀ v h', K v h' = some r → WW X h' (cells + 1) (slots + n) (pc + 3) lv (rB (xD X).1 v :: st)) : WW X h cells slots pc lv st := by
  subst hn
  intro H locs ls hR hS hl
  have hts := C.2.2.2.2.1
  obtain ⟨hSl, hfc, -⟩ := C.2.2.2.2.2.1.1 t ht hoc
  refine W.newcK C.1 C.2.1 C.2.2.2.1 (hts _ w1) (hts _ w2) (hts _ w3) rfl d hc hs hfc rfl fun H1 kC hkC e1 z1 o1 => ?_
  have hb := u_born (tyXX t) hts (inXX t ht) (C.2.2.2.2.2.1.1 t ht hoc) hkC e1 (tyXX_ok t ht)
  have e : H.size = (xD X).1 + (Jvm.Pilot.@@N@@.hS h).length := hR.1
  rw [e] at hb
  have hat : atC (xD X) (grow h t (NXX t)) (Jvm.Pilot.@@N@@.hS h).length (t, NXX t) H1 := by
    unfold atC
    rw [if_pos ht]
    refine ⟨hoc, ?_⟩
    exact hb.to (fun k hk => by rw [dvXX t ht k hk]; exact (vB_grow0 k _).symm)
  have := kk _ _ hf H1 locs ls (hR.grow z1 o1 (by omega) hat) (hS.grown z1 o1) hl
  rw [e]
  exact this
theorem ac_grow0 {b : Nat} {h : AH} {t n : Nat} (hd : defaultValue (aty t) = (match fk (aty t) with | 0 => Value.int 0 | 1 => .long 0 | _ => .null)) : ac b (grow h t n) t (hS h).length = fun _ => defaultValue (aty t) := by
  funext i
  rw [hd]
  exact vB_grow0 i _
theorem s_newarray (C : CX X own cc nL) {t N : Nat} {atype : ArrayType} {x : Int32} (hty : newarray.typeOf atype = aty t) (ht : 20 ≤ t ∧ t < 25) (w1 : Cond.arrayClass (aty t) ∈ lw_big) (d : decode cc pc = .ok (.newarray atype, 2)) (hx : ¬ x < 0) (hN : x.toNatClampNeg = N) (hbytes : N * componentBytes (aty t) ≤ 536870912) {K : Option Nat → AH → Option ρ} (hf : nO h t N K = some r) (hc : cells + 1 ≤ (xR X).cells) (hs : slots + N ≤ (xR X).slots) (kk : ∀ v h', K v h' = some r → WW X h' (cells + 1) (slots + N) (pc + 2) lv (rB (xD X).1 v :: st)) : WW X h cells slots pc lv (.int x :: st) := by
  subst hN
  intro H locs ls hR hS hl
  have hts := C.2.2.2.2.1
  refine W.newa C.1 C.2.1 (by rw [hty]; exact hts _ w1) rfl d rfl hx (by rw [hty]; exact hbytes) hc hs fun cA kA comp h1 h2 h3 => ?_
  rw [hty] at h1 h3 ⊢
  have hra := (C.2.2.2.2.2.1.2.1 t (by omega) (by omega)).2
  have ecA : cA = (xD X).2.2.2.1 t := by
    have h5 : t = 20 ∨ t = 21 ∨ t = 22 ∨ t = 23 ∨ t = 24 := by omega
    have hra' : (xs X).vm.findClass ("[" ++ (aty t).toString) = some ((xD X).2.2.2.1 t) := by
      rcases h5 with rfl | rfl | rfl | rfl | rfl <;> exact hra
    exact Option.some.inj (h1.symm.trans hra')
  subst ecA
  generalize hH1 : H.push ({ cls := (xD X).2.2.2.1 t, slots := Array.replicate x.toNatClampNeg (defaultValue (aty t)), vm := .none } : Cell) = H1
  have z1 : H1.size = H.size + 1 := by rw [← hH1, Array.size_push]
  have e1 : H1[H.size]? = some (arrV ((xD X).2.2.2.1 t) x.toNatClampNeg (fun _ => defaultValue (aty t))) := by rw [← hH1, Array.getElem?_push_size, ← arrV_new]
  have o1 : ∀ q : Nat, q < H.size → H1[q]? = H[q]? := fun q hq => by rw [← hH1, Array.getElem?_push, if_neg (Nat.ne_of_lt hq)]
  have e : H.size = (xD X).1 + (Jvm.Pilot.@@N@@.hS h).length := hR.1
  have hat : atC (xD X) (grow h t x.toNatClampNeg) (Jvm.Pilot.@@N@@.hS h).length (t, x.toNatClampNeg) H1 := by
    unfold atC
    rw [if_neg (by show ¬ t < 13; omega), if_pos (by show t < 28; omega), ac_grow0 (by have h5 : t = 20 ∨ t = 21 ∨ t = 22 ∨ t = 23 ∨ t = 24 := (by omega); rcases h5 with rfl | rfl | rfl | rfl | rfl <;> rfl), ← e]
    exact e1
  have := kk _ _ hf H1 locs ls (hR.grow z1 o1 (by omega) hat) (hS.grown z1 o1) hl
  rw [e]
  exact this
theorem s_anewarray (C : CX X own cc nL) {t N idx : Nat} {Cn : String} {x : Int32} (hty : aty t = .object Cn) (ht : 25 ≤ t ∧ t < 28) (w1 : Cond.classLink own idx Cn ∈ lw_big) (w2 : va_AO Cn (xs X)) (d : decode cc pc = .ok (.anewarray idx, 3)) (hx : ¬ x < 0) (hN : x.toNatClampNeg = N) (hbytes : N * 4 ≤ 536870912) {K : Option Nat → AH → Option ρ} (hf : nO h t N K = some r) (hc : cells + 1 ≤ (xR X).cells) (hs : slots + N ≤ (xR X).slots) (kk : ∀ v h', K v h' = some r → WW X h' (cells + 1) (slots + N) (pc + 3) lv (rB (xD X).1 v :: st)) : WW X h cells slots pc lv (.int x :: st) := by
  subst hN
  intro H locs ls hR hS hl
  have hts := C.2.2.2.2.1
  refine W.anew C.1 C.2.1 C.2.2.2.1 (hts _ w1) (va_AO.use w2) rfl d rfl hx hbytes hc hs fun cA kA comp h1 h2 h3 h4 => ?_
  have hra := (C.2.2.2.2.2.1.2.1 t (by omega) (by omega)).2
  rw [hty] at hra
  obtain ⟨_, _, _, _, _, hra'⟩ := hra
  have ecA : cA = (xD X).2.2.2.1 t := Option.some.inj (h1.symm.trans hra')
  subst ecA
  generalize hH1 : H.push ({ cls := (xD X).2.2.2.1 t, slots := Array.replicate x.toNatClampNeg .null, vm := .none } : Cell) = H1
  have z1 : H1.size = H.size + 1 := by rw [← hH1, Array.size_push]
  have e1 : H1[H.size]? = some (arrV ((xD X).2.2.2.1 t) x.toNatClampNeg (fun _ => .null)) := by rw [← hH1, Array.getElem?_push_size, ← arrV_new]
  have o1 : ∀ q : Nat, q < H.size → H1[q]? = H[q]? := fun q hq => by rw [← hH1, Array.getElem?_push, if_neg (Nat.ne_of_lt hq)]
  have e : H.size = (xD X).1 + (Jvm.Pilot.@@N@@.hS h).length := hR.1
  have hat : atC (xD X) (grow h t x.toNatClampNeg) (Jvm.Pilot.@@N@@.hS h).length (t, x.toNatClampNeg) H1 := by
    unfold atC
    rw [if_neg (by show ¬ t < 13; omega), if_pos (by show t < 28; omega), ac_grow0 (by rw [hty]; rfl), ← e, hty]
    exact e1
  have := kk _ _ hf H1 locs ls (hR.grow z1 o1 (by omega) hat) (hS.grown z1 o1) hl
  rw [e]
  exact this
/-- which classes' objects an array of references may hold -/
def elX (t : Nat) : List Nat := match t with | 25 => [0, 1, 2, 9] | 26 => [1] | _ => [7]
theorem obj_at {D : DT} {h : AH} {H : Heap} {a t n : Nat} (hR : RepH D h H) (hq : (hS h)[a]? = some (t, n)) (h13 : t < 13) : okC t ∧ ∃ cell : Cell, H[D.1 + a]? = some cell ∧ cell.cls = D.2.1 t ∧ cell.vm = .none := by
  obtain ⟨hoc, cell, q1, q2, q3, -⟩ := (hR.2.1 a _ hq).ob h13
  exact ⟨hoc, cell, q1, q2, q3⟩
theorem s_aastore (C : CX X own cc nL) {t : Nat} (ht : 25 ≤ t ∧ t < 28) (hcast : ∀ q ∈ [1, 2], va_Nw (.castable (RXX q) (RXX 0)) (xs X)) (d : decode cc pc = .ok (.aastore, 1)) {r0 v : Option Nat} {i : Int32} {K : AH → Option ρ} (hf : bR h t (elX t) r0 i v K = some r) (kk : ∀ h', K h' = some r → WW X h' cells slots (pc + 1) lv st) : WW X h cells slots pc lv (rB (xD X).1 v :: .int i :: rB (xD X).1 r0 :: st) := by
  unfold bR at hf
  split at hf
  · rename_i e
    obtain ⟨a, n, rfl, hq, hin⟩ := okA_spec e.1
    obtain ⟨b, tv, nv, rfl, hqv, htv⟩ := okT_spec e.2
    have h3 : t = 25 ∨ t = 26 ∨ t = 27 := by omega
    have htv13 : tv < 13 := by
      rcases h3 with rfl | rfl | rfl <;> simp [elX] at htv <;> omega
    intro H locs ls hR hS hl
    obtain ⟨hoc, cv, g1, g2, g3⟩ := obj_at hR hqv htv13
    obtain ⟨tc, htc, hatc⟩ : ∃ tc, tc < 13 ∧ aty t = .object (RXX tc) ∧ ((tv = tc ∧ okC tc) ∨ (tc = 0 ∧ tv ∈ [1, 2])) := by
      rcases h3 with rfl | rfl | rfl
      · refine ⟨0, by decide, rfl, ?_⟩
        simp [elX] at htv
        rcases htv with rfl | rfl | rfl | rfl
        · exact absurd rfl hoc.1
        · exact Or.inr ⟨rfl, by decide⟩
        · exact Or.inr ⟨rfl, by decide⟩
        · exact absurd rfl hoc.2.1
      · simp [elX] at htv
        exact ⟨1, by decide, rfl, Or.inl ⟨htv, by decide⟩⟩
      · simp [elX] at htv
        exact ⟨7, by decide, rfl, Or.inl ⟨htv, by decide⟩⟩
    have hra := (C.2.2.2.2.2.1.2.1 t (by omega) (by omega)).2
    rw [hatc.1] at hra
    obtain ⟨kA, comp, k1, k2, k3, -⟩ := hra
    have hcv := (C.2.2.2.2.2.1.1 tv htv13 hoc).2
    obtain ⟨kV, hkV, -⟩ := hcv.2
    obtain ⟨hkC, hasg⟩ : (∃ kC, (xs X).vm.classes[comp]? = some kC) ∧ (xs X).vm.assignable ((xD X).2.1 tv) comp = true := by
      rcases hatc.2 with ⟨e, e2⟩ | ⟨e, e2⟩
      · subst e
        have ecomp : comp = (xD X).2.1 tv := Option.some.inj (k3.symm.trans hcv.1)
        subst ecomp
        exact ⟨⟨kV, hkV⟩, va_assign hcv⟩
      · subst e
        have ecomp : comp = (xD X).2.1 0 := Option.some.inj (k3.symm.trans C.2.2.2.2.2.1.2.2.1)
        subst ecomp
        have hz := hcast tv e2
        obtain ⟨c, t2, f1, f2, f3⟩ := Cond.castable_spec hz
        cases hcv.1.symm.trans f1
        cases C.2.2.2.2.2.1.2.2.1.symm.trans f2
        exact ⟨C.2.2.2.2.2.1.2.2.2, f3⟩
    obtain ⟨kC, hkC⟩ := hkC
    refine W.aast C.1 C.2.1 (a := (xD X).1 + a) (v := (xD X).1 + b) ((hR.2.1 a _ hq).ar (by omega) (by omega)) (fun q h => by cases h) (fun h => by cases h) k1 k2 rfl hkC ⟨fun q => hin (Or.inl q), by rw [arrV_size]; exact Nat.not_le.mp fun q => hin (Or.inr q)⟩ g1 (fun q h => by rw [g3] at h; cases h) (by rw [g2]; exact hkV) (by rw [g2]; exact hasg) rfl rfl d fun H1 e1 e2 e3 => ?_
    refine kk _ hf H1 _ ls (hR.put (h' := wR h a i.toNatClampNeg (some b)) rfl hq e2 e3 (atC.upd (by omega) (by omega) e1 (fun j hj => vB_wR2 j _ hj) ?_) vB_wR1) (hS.putD e2 e3) hl
    show vB _ _ _ _ (fk (aty t)) = _
    rw [hatc.1]
    exact vB_wR3
  · cases hf
theorem s_instof (C : CX X own cc nL) {idx t : Nat} (ht : t ∈ [1, 2, 9]) (w1 : Cond.classLink own idx (RXX t) ∈ lw_big) (d : decode cc pc = .ok (.instanceof idx, 3)) {r0 : Option Nat} {K : Int32 → Option ρ} (hf : iO h [t] r0 K = some r) (kk : ∀ v, K v = some r → WW X h cells slots (pc + 3) lv (.int v :: st)) : WW X h cells slots pc lv (rB (xD X).1 r0 :: st) := by
  intro H locs ls hR hS hl
  unfold iO at hf
  split at hf
  · rename_i e
    subst e
    exact lv_instN C.1 C.2.1 d (kk _ hf H locs ls hR hS hl)
  · split at hf
    · rename_i e
      obtain ⟨a, t', n, rfl, hq, ht'⟩ := okT_spec e
      have : t' = t := by simpa using ht'
      subst this
      have h13 : t' < 13 := by simp at ht; omega
      obtain ⟨hoc, cv, g1, g2, g3⟩ := obj_at hR hq h13
      have hc := (C.2.2.2.2.2.1.1 t' h13 hoc).2
      exact va_instS C.1 C.2.1 C.2.2.2.1 (C.2.2.2.2.1 _ w1) hc ⟨cv, g1, by rw [g3]; rfl, by rw [g2]; exact hc.1⟩ d (kk _ hf H locs ls hR hS hl)
    · rename_i hne
      split at hf
      · rename_i e
        obtain ⟨a, t', n, rfl, hq, ht'⟩ := okT_spec e
        have hnt : t' ≠ t := by
          intro q
          subst q
          apply hne
          simp [okT, hq]
        have h13 : t' < 13 := by simp at ht'; omega
        obtain ⟨hoc, cv, g1, g2, g3⟩ := obj_at hR hq h13
        have hc := (C.2.2.2.2.2.1.1 t' h13 hoc).2
        exact va_instNo C.1 C.2.1 C.2.2.2.1 (C.2.2.2.2.1 _ w1) (C.2.2.2.2.2.2.1.2.1 t' (by have h1 := hoc.1; have h2 := hoc.2.1; simp at ht' ⊢; omega) t ht hnt) ⟨cv, g1, by rw [g3]; rfl, by rw [g2]; exact hc.1⟩ d (kk _ hf H locs ls hR hS hl)
      · cases hf
theorem s_cast (C : CX X own cc nL) {idx t : Nat} (h13 : t < 13) (w1 : Cond.classLink own idx (RXX t) ∈ lw_big) (d : decode cc pc = .ok (.checkcast idx, 3)) {r0 : Option Nat} {K : Option ρ} (hf : cO h [t] r0 K = some r) (kk : K = some r → WW X h cells slots (pc + 3) lv (rB (xD X).1 r0 :: st)) : WW X h cells slots pc lv (rB (xD X).1 r0 :: st) := by
  intro H locs ls hR hS hl
  unfold cO at hf
  split at hf
  · rename_i e
    cases r0 with
    | none => exact lv_castN C.1 C.2.1 d (kk hf H locs ls hR hS hl)
    | some b =>
      rcases e with e | e
      · cases e
      obtain ⟨a, t', n, h1, hq, ht'⟩ := okT_spec e
      cases h1
      have : t' = t := by simpa using ht'
      subst this
      obtain ⟨hoc, cv, g1, g2, g3⟩ := obj_at hR hq h13
      have hc := (C.2.2.2.2.2.1.1 t' h13 hoc).2
      exact va_castS C.1 C.2.1 C.2.2.2.1 (C.2.2.2.2.1 _ w1) hc ⟨cv, g1, by rw [g3]; rfl, by rw [g2]; exact hc.1⟩ d (kk hf H locs ls hR hS hl)
  · cases hf
end NEWS
end
section
/-! METHODS: a contract, its start, its ends, calls -/
abbrev AV : Type := Int32 ⊕ Int64 ⊕ Option Nat
def avV (b : Nat) (x : AV) : Value := match x with | .inl i => .int i | .inr (.inl l) => .long l | .inr (.inr r) => rB b r
def lvE (b : Nat) : List AV → List (Option Value)
  | [] => []
  | .inl i :: v => some (.int i) :: lvE b v
  | .inr (.inl l) :: v => some (.long l) :: none :: lvE b v
  | .inr (.inr r) :: v => some (rB b r) :: lvE b v
def lvF (b n : Nat) (av : List AV) : List (Option Value) := lvE b av ++ List.replicate (n - (lvE b av).length) none
theorem lg_sl_c (v : Value) (vs : List Value) : (lg_sl (v :: vs)).length = (if v.category = 2 then 2 else 1) + (lg_sl vs).length := by
  unfold lg_sl
  rw [List.flatMap_cons, List.length_append]
  split <;> rfl
theorem lvE_sl (b : Nat) : ∀ av : List AV, (lg_sl (av.map (avV b))).length = (lvE b av).length
  | [] => rfl
  | .inl i :: v => by
    rw [List.map_cons, lg_sl_c, lvE_sl b v, show (avV b (.inl i)).category = 1 from rfl, if_neg (by decide), lvE, List.length_cons, Nat.add_comm]
  | .inr (.inl l) :: v => by
    rw [List.map_cons, lg_sl_c, lvE_sl b v, show (avV b (.inr (.inl l))).category = 2 from rfl, if_pos rfl, lvE, List.length_cons, List.length_cons, Nat.add_comm]
  | .inr (.inr r) :: v => by
    rw [List.map_cons, lg_sl_c, lvE_sl b v, show (avV b (.inr (.inr r))).category = 1 from rB_cat b r, if_neg (by decide), lvE, List.length_cons, Nat.add_comm]
theorem lvE_args (b : Nat) : ∀ (av : List AV) (k i : Nat) (w : Value), (lvE b av)[i]? = some (some w) → (k + i, w) ∈ lv_args k (av.map (avV b))
  | [], k, i, w, h => by simp [lvE] at h
  | .inl x :: v, k, i, w, h => by
    simp only [List.map_cons, lv_args]
    cases i with
    | zero =>
      simp [lvE] at h
      subst h
      exact List.mem_cons_self
    | succ i =>
      simp only [lvE, List.getElem?_cons_succ] at h
      have := lvE_args b v (k + 1) i w h
      refine List.mem_cons_of_mem _ ?_
      rw [show (avV b (.inl x)).category = 1 from rfl, if_neg (by decide)]
      rwa [show k + (i + 1) = k + 1 + i by omega]
  | .inr (.inl x) :: v, k, i, w, h => by
    simp only [List.map_cons, lv_args]
    match i with
    | 0 =>
      simp [lvE] at h
      subst h
      exact List.mem_cons_self
    | 1 => simp [lvE] at h
    | i + 2 =>
      simp only [lvE, List.getElem?_cons_succ] at h
      have := lvE_args b v (k + 2) i w h
      refine List.mem_cons_of_mem _ ?_
      rw [show (avV b (.inr (.inl x))).category = 2 from rfl, if_pos rfl]
      rwa [show k + (i + 2) = k + 2 + i by omega]
  | .inr (.inr x) :: v, k, i, w, h => by
    simp only [List.map_cons, lv_args]
    cases i with
    | zero =>
      simp [lvE] at h
      subst h
      exact List.mem_cons_self
    | succ i =>
      simp only [lvE, List.getElem?_cons_succ] at h
      have := lvE_args b v (k + 1) i w h
      refine List.mem_cons_of_mem _ ?_
      rw [show (avV b (.inr (.inr x))).category = 1 from rB_cat b x, if_neg (by decide)]
      rwa [show k + (i + 1) = k + 1 + i by omega]
theorem LV.entry (b n : Nat) (av : List AV) (hn : (lvE b av).length ≤ n) : LV ((lg_sl (av.map (avV b)) ++ List.replicate (n - (lg_sl (av.map (avV b))).length) Slot.unset).toArray) n (lvF b n av) := by
  have hl := lv_entry (av.map (avV b)) (n := n) (by rw [lvE_sl]; exact hn)
  refine ⟨hl.1, hl.2.1, fun i v hi => ?_⟩
  unfold lvF at hi
  by_cases hlt : i < (lvE b av).length
  · rw [List.getElem?_append_left hlt] at hi
    have := hl.2.2 _ (lvE_args b av 0 i v hi)
    simpa using this
  · rw [List.getElem?_append_right (by omega), List.getElem?_replicate] at hi
    split at hi <;> cases hi
def PcX (D : DT) (av : List AV) (h : AH) : Array Value → State → Prop := fun v U => v = (av.map (avV D.1)).toArray ∧ RepH D h U.heap ∧ KC D U ∧ KG U ∧ D.1 ≤ U.heap.size ∧ KS D.1 U
def QcX (D : DT) (rv : Option Value) (h' : AH) : Array Value → State → Outcome → State → Prop := fun _ st oc t => oc = .returned rv ∧ RepH D h' t.heap ∧ va_F (fun q => D.1 ≤ q) st t
def wv (y : MethodName) (bytes : ByteArray) (maxL : Nat) (ret : Option FieldType) : List Cond := Cond.code y bytes maxL ret :: lw_big
def CM (l : Launch) (D : DT) (y : MethodName) (bytes : ByteArray) (maxL : Nat) (ret : Option FieldType) (fr lo mc ms : Nat) (av : List AV) (h : AH) (rv : Option Value) (h' : AH) : Prop := Met l y (wv y bytes maxL ret) { frames := fr, cells := mc, slots := ms, locals := lo } (PcX D av h) (QcX D rv h') mc ms (fun q => D.1 ≤ q)
/-- how a walk must end -/
def RT (X : XT) (ret : Option FieldType) (rv : Option Value) (h' : AH) (mc ms : Nat) : Prop := (xM X).sig.returnType = ret ∧ X.2.2.2 = MQ X.2.1.2.2.1 (QcX (xD X) rv h') (xa X) (xs X) mc ms (fun q => (xD X).1 ≤ q)
theorem CM.of {l : Launch} {D : DT} {y : MethodName} {bytes : ByteArray} {maxL : Nat} {ret : Option FieldType} {fr lo mc ms : Nat} {av : List AV} {h : AH} {rv : Option Value} {h' : AH} (hy : plainName y.cls = true) (hlen : (lvE D.1 av).length ≤ maxL)
    (body : ∀ X : XT, X.1.2.1 = l → CX X y.cls bytes maxL → xD X = D → xR X = { frames := fr, cells := mc, slots := ms, locals := lo } → (xM X).name = y.name → RT X ret rv h' mc ms → WW X h 0 0 0 (lvF (xD X).1 maxL av) []) : CM l D y bytes maxL ret fr lo mc ms av h rv h' := by
  refine Met.ofW (cc := bytes) (maxL := maxL) (ret := ret) hy rfl ?_
  intro p e s m args below meth c s₁ B hml hv
  obtain ⟨rfl, hRep, hKC, hKG, hbase, hKS⟩ := hv
  have hts := atoms_spec (ws := wv y bytes maxL ret) B.pre
  have hin : meth.name = y.name := (name_of_methodNamed B.named B.method).1
  rw [lg_entry_eq]
  have hl := LV.entry D.1 maxL av hlen
  have hk := body ((p, l, e, { frames := fr, cells := mc, slots := ms, locals := lo }, s), (m, (av.map (avV D.1)).toArray, below, meth, c), D, MQ below (QcX D rv h') (av.map (avV D.1)).toArray s mc ms (fun q => D.1 ≤ q)) rfl ⟨B.exec, B.bytes, hml, findClass_of_methodNamed B.named, fun w hw => hts w (List.mem_cons_of_mem _ hw), hKC, hKG, hbase, B.notSynchronized, hKS⟩ rfl rfl hin ⟨B.returns, rfl⟩
  exact hk s.heap [] _ hRep va_S.rf (by show LV _ c.maxLocals _; rw [hml]; exact hl)
section ENDS
variable {X : XT} {own : String} {cc : ByteArray} {nL pc cells slots mc ms : Nat} {h : AH} {lv lv' : List (Option Value)} {st : List Value} {ρ : Type}
theorem QcX.of {v : Option Value} {H : Heap} {locs : List Loc} (hR : RepH (xD X) h H) (hS : va_S (fun q => (xD X).1 ≤ q) (xs X).heap H locs) : ∀ t : State, t.heap = H → (xs X).WarmedH t.vm → QcX (xD X) v h (xa X) (xs X) (.returned v) t := by
  intro t ht _
  refine ⟨rfl, by rw [ht]; exact hR, by rw [ht]; exact hS.1, fun q h1 h2 => by rw [ht]; exact hS.2.1 q h1 h2⟩
theorem s_ireturn (C : CX X own cc nL) {r : Int32 × AH} (E : RT X (some .int) (some (.int r.1)) r.2 mc ms) {v : Int32} (d : decode cc pc = .ok (.ireturn, 1)) (hf : some (v, h) = some r) (hc : cells ≤ mc) (hs : slots ≤ ms) : WW X h cells slots pc lv [.int v] := by
  cases hf
  intro H locs ls hR hS hl
  refine W.widen hc hs ?_
  show W _ _ _ _ _ _ _ _ _ _ _ _ _ _ X.2.2.2 _
  rw [E.2]
  exact W.iret C.1 C.2.1 E.1 (QcX.of hR hS) hS.2.2 d C.2.2.2.2.2.2.2.2.1
theorem s_zreturn (C : CX X own cc nL) {r : Int32 × AH} (E : RT X (some .boolean) (some (.int r.1)) r.2 mc ms) {v : Int32} (d : decode cc pc = .ok (.ireturn, 1)) (hf : rz v h = some r) (hc : cells ≤ mc) (hs : slots ≤ ms) : WW X h cells slots pc lv [.int v] := by
  unfold rz at hf
  split at hf
  · rename_i e
    have hz : narrow .boolean (.int v) = .int v := by rcases e with rfl | rfl <;> rfl
    cases hf
    intro H locs ls hR hS hl
    refine W.widen hc hs ?_
    show W _ _ _ _ _ _ _ _ _ _ _ _ _ _ X.2.2.2 _
    rw [E.2]
    exact W.zret C.1 C.2.1 E.1 hz (QcX.of hR hS) hS.2.2 d C.2.2.2.2.2.2.2.2.1
  · cases hf
theorem s_lreturn (C : CX X own cc nL) {r : Int64 × AH} (E : RT X (some .long) (some (.long r.1)) r.2 mc ms) {v : Int64} (d : decode cc pc = .ok (.lreturn, 1)) (hf : some (v, h) = some r) (hc : cells ≤ mc) (hs : slots ≤ ms) : WW X h cells slots pc lv [.long v] := by
  cases hf
  intro H locs ls hR hS hl
  refine W.widen hc hs ?_
  show W _ _ _ _ _ _ _ _ _ _ _ _ _ _ X.2.2.2 _
  rw [E.2]
  exact W.lret C.1 C.2.1 E.1 (QcX.of hR hS) hS.2.2 d C.2.2.2.2.2.2.2.2.1
theorem s_areturn (C : CX X own cc nL) {r : Option Nat × AH} {Cn : String} (E : RT X (some (.object Cn)) (some (rB (xD X).1 r.1)) r.2 mc ms) {v : Option Nat} (d : decode cc pc = .ok (.areturn, 1)) (hf : some (v, h) = some r) (hc : cells ≤ mc) (hs : slots ≤ ms) : WW X h cells slots pc lv [rB (xD X).1 v] := by
  cases hf
  intro H locs ls hR hS hl
  refine W.widen hc hs ?_
  show W _ _ _ _ _ _ _ _ _ _ _ _ _ _ X.2.2.2 _
  rw [E.2]
  exact W.aret C.1 C.2.1 E.1 (Or.inl ⟨_, rfl⟩) (by cases v <;> first | exact Or.inl rfl | exact Or.inr ⟨_, rfl⟩) (QcX.of hR hS) hS.2.2 d C.2.2.2.2.2.2.2.2.1
theorem s_return (C : CX X own cc nL) {r : Unit × AH} (E : RT X none none r.2 mc ms) (d : decode cc pc = .ok (.return_, 1)) (hf : some ((), h) = some r) (hc : cells ≤ mc) (hs : slots ≤ ms) : WW X h cells slots pc lv [] := by
  cases hf
  intro H locs ls hR hS hl
  refine W.widen hc hs ?_
  show W _ _ _ _ _ _ _ _ _ _ _ _ _ _ X.2.2.2 _
  rw [E.2]
  exact W.vret C.1 C.2.1 E.1 (QcX.of hR hS) hS.2.2 d C.2.2.2.2.2.2.2.2.1
-- calls
variable {r : ρ}
theorem PcX.blind {D : DT} {av : List AV} {h : AH} : FrameBlind (PcX D av h) := by
  intro a U g mk ⟨h1, h2, h3, h4, h5, h6⟩
  exact ⟨h1, h2, h3.moved (u := U) (U := U.calling g mk a) (Vm.Alike.refl U.vm), h4.same (s := U) (U := U.calling g mk a) rfl, h5, h6.same (u := U) (U := U.calling g mk a) rfl rfl⟩
theorem PcX.at {own : String} {cc : ByteArray} {nL : Nat} (C : CX X own cc nL) {av : List AV} {H : Heap} {locs : List Loc} (hR : RepH (xD X) h H) (hS : va_S (fun q => (xD X).1 ≤ q) (xs X).heap H locs) : ∀ U : State, U.heap = H → (xs X).WarmedH U.vm → PcX (xD X) av h (av.map (avV (xD X).1)).toArray U := by
  intro U hU hW
  refine ⟨rfl, by rw [hU]; exact hR, C.2.2.2.2.2.1.moved hW.alike, C.2.2.2.2.2.2.1.warm hW, by rw [hU]; exact Nat.le_trans C.2.2.2.2.2.2.2.1 hS.1, C.2.2.2.2.2.2.2.2.2.moved hW (fun a h1 h2 => by rw [hU]; exact hS.2.1 a h1 h2)⟩
theorem run_go {rv : Option Value} {h' : AH} {a : Array Value} {H : Heap} {locs : List Loc} {ls : Array Slot} {stk rest : List Value} (hr : va_Run X.1.1 X.1.2.1 X.1.2.2.1 X.1.2.2.2.1 X.1.2.2.2.2 X.2.1.1 X.2.1.2.1 X.2.1.2.2.1 X.2.1.2.2.2.1 X.2.1.2.2.2.2 H locs cells slots mc ms (F0 (xm X) pc ls stk) rest (QcX (xD X) rv h' a) (fun q => (xD X).1 ≤ q)) (hS : va_S (fun q => (xD X).1 ≤ q) (xs X).heap H locs) (hl : LV ls (xc X).maxLocals lv) (kk : WW X h' (cells + mc) (slots + ms) (pc + 3) lv (rv.toList ++ rest)) : WX X H locs cells slots (F0 (xm X) pc ls stk) := by
  intro T hT X0
  obtain ⟨v, st₀, t, T', L, h0, X1, hL, e1, e2, ⟨hv, hRep, hz, hk⟩, st⟩ := hr T hT X0
  cases hv
  rw [h0] at hz hk
  obtain ⟨t2, a1, b1⟩ := kk T'.heap (locs ++ L) ls (by rw [e1]; exact hRep) ⟨Nat.le_trans hS.1 (by rw [e1]; exact hz), fun q h1 h2 => by rw [e1, hk q (Nat.lt_of_lt_of_le h1 hS.1) h2]; exact hS.2.1 q h1 h2, fun q hq => by
      rcases List.mem_append.mp hq with h | h
      · exact hS.2.2 q h
      · exact hL q h⟩ hl T' rfl X1
  exact ⟨t2, st t2 a1, b1⟩
/-- the words of a call, but for the link -/
def CWd (y : MethodName) (bytes : ByteArray) (maxL : Nat) (ret : Option FieldType) (n : Nat) : Prop := Cond.code y bytes maxL ret ∈ lw_big ∧ Cond.initialized y.cls ∈ lw_big ∧ y.cls ≠ "java/lang/invoke/MethodHandle" ∧ y.cls ≠ "java/lang/invoke/VarHandle" ∧ (parseMethodDescriptor y.desc).map (fun d => d.parameters.length) = some n
theorem wv_good {y : MethodName} {bytes : ByteArray} {maxL : Nat} {ret : Option FieldType} (h : Cond.code y bytes maxL ret ∈ lw_big) : GoodIn lw_big (wv y bytes maxL ret) := by
  intro w hw
  rcases List.mem_cons.mp hw with rfl | hw
  · exact big_good _ h
  · exact big_good _ hw
theorem cat_le (v : Value) : v.category ≤ 2 := by
  rcases lv_cat v with h | h <;> omega
theorem cat_sum : ∀ l : List Value, l.length ≤ 4 → (l.map fun v => v.category).sum ≤ 8
  | [], _ => by simp
  | [a], _ => by have := cat_le a; simp; omega
  | [a, b], _ => by have := cat_le a; have := cat_le b; simp; omega
  | [a, b, c], _ => by have := cat_le a; have := cat_le b; have := cat_le c; simp; omega
  | [a, b, c, d], _ => by have := cat_le a; have := cat_le b; have := cat_le c; have := cat_le d; simp; omega
  | a :: b :: c :: d :: e :: l, h => by simp at h
theorem s_callV {α : Type} {rvf : α → Option Value} (C : CX X own cc nL) {y : MethodName} {bytes : ByteArray} {maxL idx n fr lo : Nat} {ret : Option FieldType} (cs : List Nat) (w : CWd y bytes maxL ret n) (wl : Cond.methodLink own idx y ∈ lw_big) (wi : Cond.instanceMethod y ∈ lw_big) (hcs : ∀ t ∈ cs, t < 13 ∧ Cond.selects (RXX t) y y ∈ lw_big) (d : decode cc pc = .ok (.invokevirtual idx, 3)) {As : List AV} (hn : As.length = n) {r0 : Option Nat} {F : Option (α × AH)} {K : α → AH → Option ρ} (hf : rO h cs r0 (cl F K) = some r) (hM : ∀ x h', F = some (x, h') → CM X.1.2.1 (xD X) y bytes maxL ret fr lo mc ms (.inr (.inr r0) :: As) h (rvf x) h') {stk : List Value} (hstk : stk = (As.map (avV (xD X).1)).reverse ++ rB (xD X).1 r0 :: st) (hst : st.length ≤ 4) (hroom : fr + 1 ≤ (xR X).frames ∧ 8 + (maxL + 11) + lo ≤ (xR X).locals) (hcl : cells + mc ≤ (xR X).cells ∧ slots + ms ≤ (xR X).slots) (kk : ∀ x h', K x h' = some r → WW X h' (cells + mc) (slots + ms) (pc + 3) lv ((rvf x).toList ++ st)) : WW X h cells slots pc lv stk := by
  subst hstk
  unfold rO at hf
  split at hf
  · rename_i e
    obtain ⟨a, t, nn, rfl, hq, ht⟩ := okT_spec e
    obtain ⟨h13, wsel⟩ := hcs t ht
    unfold cl at hf
    cases hF : F with
    | none => rw [hF] at hf; cases hf
    | some x =>
      rw [hF] at hf
      intro H locs ls hR hS hl
      have hts := C.2.2.2.2.1
      obtain ⟨hoc, cv, g1, g2, g3⟩ := obj_at hR hq h13
      have hcC := (C.2.2.2.2.2.1.1 t h13 hoc).2
      refine run_go (lv := lv) (va_runV (C := RXX t) (As := As.map (avV (xD X).1)) (rest := st) ⟨C.1, C.2.1, C.2.2.1, C.2.2.2.1, hts⟩ (hM x.1 x.2 hF) ⟨callB_of n hts (wv_good w.1) rfl rfl rfl (hts _ w.2.1) (hts _ wl) w.2.2 hroom, hts _ wi, hts _ wsel⟩ ⟨PcX.blind, ⟨cv, g1, by rw [g3]; rfl, by rw [g2]; exact hcC.1⟩, PcX.at (av := .inr (.inr (some a)) :: As) C hR hS⟩ rfl (by rw [List.length_map]; exact hn) (by rw [← C.2.2.1]; exact hl.1) rfl (lv_room (cat_sum _ hst)) d hcl) hS hl (kk _ _ hf)
  · cases hf
theorem s_callI (C : CX X own cc nL) {y : MethodName} {bytes : ByteArray} {maxL idx n fr lo : Nat} (w : CWd y bytes maxL none n) (wl : Cond.methodLink own idx y ∈ lw_big) (wi : Cond.instanceMethod y ∈ lw_big) (hy1 : y.name = "<init>") (d : decode cc pc = .ok (.invokespecial idx, 3)) {As : List AV} (hn : As.length = n) {a0 : Nat} {r0 : Option Nat} {F : Option (Unit × AH)} {K : Unit → AH → Option ρ} (hf : rO h [a0] r0 (cl F K) = some r) (hM : ∀ h', F = some ((), h') → CM X.1.2.1 (xD X) y bytes maxL none fr lo mc ms (.inr (.inr r0) :: As) h none h') {stk : List Value} (hstk : stk = (As.map (avV (xD X).1)).reverse ++ rB (xD X).1 r0 :: st) (hst : st.length ≤ 4) (hroom : fr + 1 ≤ (xR X).frames ∧ 8 + (maxL + 11) + lo ≤ (xR X).locals) (hcl : cells + mc ≤ (xR X).cells ∧ slots + ms ≤ (xR X).slots) (kk : ∀ h', K () h' = some r → WW X h' (cells + mc) (slots + ms) (pc + 3) lv st) : WW X h cells slots pc lv stk := by
  subst hstk
  unfold rO at hf
  split at hf
  · rename_i e
    obtain ⟨a, t, nn, rfl, hq, ht⟩ := okT_spec e
    unfold cl at hf
    cases hF : F with
    | none => rw [hF] at hf; cases hf
    | some x =>
      rw [hF] at hf
      intro H locs ls hR hS hl
      have hts := C.2.2.2.2.1
      exact run_go (lv := lv) (va_runI (As := As.map (avV (xD X).1)) (rest := st) ⟨C.1, C.2.1, C.2.2.1, C.2.2.2.1, hts⟩ (hM x.2 hF) ⟨callB_of n hts (wv_good w.1) rfl rfl rfl (hts _ w.2.1) (hts _ wl) w.2.2 hroom, hy1, hts _ wi⟩ ⟨PcX.blind, PcX.at (av := .inr (.inr (some a)) :: As) C hR hS⟩ rfl (by rw [List.length_map]; exact hn) (by rw [← C.2.2.1]; exact hl.1) rfl (lv_room (cat_sum _ hst)) d hcl) hS hl (kk _ hf)
  · cases hf
theorem s_callIN (C : CX X own cc nL) {y : MethodName} {bytes : ByteArray} {host : String} {maxL idx n fr lo : Nat} (w : CWd y bytes maxL none n) (wl : Cond.methodLinkNest own idx y host ∈ xtraW) (wi : Cond.instanceMethod y ∈ lw_big) (hy1 : y.name = "<init>") (d : decode cc pc = .ok (.invokespecial idx, 3)) {As : List AV} (hn : As.length = n) {a0 : Nat} {r0 : Option Nat} {F : Option (Unit × AH)} {K : Unit → AH → Option ρ} (hf : rO h [a0] r0 (cl F K) = some r) (hM : ∀ h', F = some ((), h') → CM X.1.2.1 (xD X) y bytes maxL none fr lo mc ms (.inr (.inr r0) :: As) h none h') {stk : List Value} (hstk : stk = (As.map (avV (xD X).1)).reverse ++ rB (xD X).1 r0 :: st) (hst : st.length ≤ 4) (hroom : fr + 1 ≤ (xR X).frames ∧ 8 + (maxL + 11) + lo ≤ (xR X).locals) (hcl : cells + mc ≤ (xR X).cells ∧ slots + ms ≤ (xR X).slots) (kk : ∀ h', K () h' = some r → WW X h' (cells + mc) (slots + ms) (pc + 3) lv st) : WW X h cells slots pc lv stk := by
  subst hstk
  unfold rO at hf
  split at hf
  · rename_i e
    obtain ⟨a, t, nn, rfl, hq, ht⟩ := okT_spec e
    unfold cl at hf
    cases hF : F with
    | none => rw [hF] at hf; cases hf
    | some x =>
      rw [hF] at hf
      intro H locs ls hR hS hl
      have hts := C.2.2.2.2.1
      exact run_go (lv := lv) (va_runIN (As := As.map (avV (xD X).1)) (rest := st) ⟨C.1, C.2.1, C.2.2.1, C.2.2.2.1, hts⟩ (hM x.2 hF) ⟨va_cnB n hts (wv_good w.1) rfl rfl rfl (C.2.2.2.2.2.2.1.1 _ wl) (hts _ w.2.1) w.2.2 hroom, hy1, hts _ wi⟩ ⟨PcX.blind, PcX.at (av := .inr (.inr (some a)) :: As) C hR hS⟩ rfl (by rw [List.length_map]; exact hn) (by rw [← C.2.2.1]; exact hl.1) rfl (lv_room (cat_sum _ hst)) d hcl) hS hl (kk _ hf)
  · cases hf
theorem s_callS {α : Type} {rvf : α → Option Value} (C : CX X own cc nL) {y : MethodName} {bytes : ByteArray} {maxL idx n fr lo : Nat} {ret : Option FieldType} (w : CWd y bytes maxL ret n) (wl : Cond.methodLink own idx y ∈ lw_big) (wi : Cond.static y ∈ lw_big) (d : decode cc pc = .ok (.invokestatic idx, 3)) {As : List AV} (hn : As.length = n) {F : Option (α × AH)} {K : α → AH → Option ρ} (hf : cl F K = some r) (hM : ∀ x h', F = some (x, h') → CM X.1.2.1 (xD X) y bytes maxL ret fr lo mc ms As h (rvf x) h') {stk : List Value} (hstk : stk = (As.map (avV (xD X).1)).reverse ++ st) (hst : st.length ≤ 4) (hroom : fr + 1 ≤ (xR X).frames ∧ 8 + (maxL + 11) + lo ≤ (xR X).locals) (hcl : cells + mc ≤ (xR X).cells ∧ slots + ms ≤ (xR X).slots) (kk : ∀ x h', K x h' = some r → WW X h' (cells + mc) (slots + ms) (pc + 3) lv ((rvf x).toList ++ st)) : WW X h cells slots pc lv stk := by
  subst hstk
  unfold cl at hf
  cases hF : F with
  | none => rw [hF] at hf; cases hf
  | some x =>
    rw [hF] at hf
    intro H locs ls hR hS hl
    have hts := C.2.2.2.2.1
    exact run_go (lv := lv) (va_runS (As := As.map (avV (xD X).1)) (rest := st) ⟨C.1, C.2.1, C.2.2.1, C.2.2.2.1, hts⟩ (hM x.1 x.2 hF) ⟨callB_of n hts (wv_good w.1) rfl rfl rfl (hts _ w.2.1) (hts _ wl) w.2.2 hroom, hts _ wi⟩ ⟨PcX.blind, PcX.at (av := As) C hR hS⟩ rfl (by rw [List.length_map]; exact hn) (by rw [← C.2.2.1]; exact hl.1) rfl (lv_room (cat_sum _ hst)) d hcl) hS hl (kk _ _ hf)
theorem s_callSN {α : Type} {rvf : α → Option Value} (C : CX X own cc nL) {y : MethodName} {bytes : ByteArray} {host : String} {maxL idx n fr lo : Nat} {ret : Option FieldType} (w : CWd y bytes maxL ret n) (wl : Cond.methodLinkNest own idx y host ∈ xtraW) (wi : Cond.static y ∈ lw_big) (d : decode cc pc = .ok (.invokestatic idx, 3)) {As : List AV} (hn : As.length = n) {F : Option (α × AH)} {K : α → AH → Option ρ} (hf : cl F K = some r) (hM : ∀ x h', F = some (x, h') → CM X.1.2.1 (xD X) y bytes maxL ret fr lo mc ms As h (rvf x) h') {stk : List Value} (hstk : stk = (As.map (avV (xD X).1)).reverse ++ st) (hst : st.length ≤ 4) (hroom : fr + 1 ≤ (xR X).frames ∧ 8 + (maxL + 11) + lo ≤ (xR X).locals) (hcl : cells + mc ≤ (xR X).cells ∧ slots + ms ≤ (xR X).slots) (kk : ∀ x h', K x h' = some r → WW X h' (cells + mc) (slots + ms) (pc + 3) lv ((rvf x).toList ++ st)) : WW X h cells slots pc lv stk := by
  subst hstk
  unfold cl at hf
  cases hF : F with
  | none => rw [hF] at hf; cases hf
  | some x =>
    rw [hF] at hf
    intro H locs ls hR hS hl
    have hts := C.2.2.2.2.1
    exact run_go (lv := lv) (va_runSN (As := As.map (avV (xD X).1)) (rest := st) ⟨C.1, C.2.1, C.2.2.1, C.2.2.2.1, hts⟩ (hM x.1 x.2 hF) ⟨va_cnB n hts (wv_good w.1) rfl rfl rfl (C.2.2.2.2.2.2.1.1 _ wl) (hts _ w.2.1) w.2.2 hroom, hts _ wi, trivial⟩ ⟨PcX.blind, PcX.at (av := As) C hR hS⟩ rfl (by rw [List.length_map]; exact hn) (by rw [← C.2.2.1]; exact hl.1) rfl (lv_room (cat_sum _ hst)) d hcl) hS hl (kk _ _ hf)
end ENDS
end
section
/-! CONSTANT TABLES, Math, arraycopy, switches; the joins and loops of a printed method -/
def tbI {ρ : Type} (tb : List Int32) (i : Int32) (K : Int32 → Option ρ) : Option ρ := if i < 0 ∨ tb.length ≤ i.toNatClampNeg then none else K (tb.getD i.toNatClampNeg 0)
def tbL {ρ : Type} (tb : List Int64) (i : Int32) (K : Int64 → Option ρ) : Option ρ := if i < 0 ∨ tb.length ≤ i.toNatClampNeg then none else K (tb.getD i.toNatClampNeg 0)
def cpR0 (h : AH) (r0 : Option Nat) (sp : Int32) (b : Nat) (dp n : Int32) : AH := rwI h b (va_cpy (gI h r0) (hI h b) sp.toNatClampNeg dp.toNatClampNeg n.toNatClampNeg)
theorem cpOk_spec {h : AH} {t : Nat} {r0 r1 : Option Nat} {sp dp n : Int32} (e : cpOk h t r0 sp r1 dp n = true) : ∃ a b p q, r0 = some a ∧ r1 = some b ∧ (hS h)[a]? = some (t, p) ∧ (hS h)[b]? = some (t, q) ∧ ¬ sp < 0 ∧ ¬ dp < 0 ∧ ¬ n < 0 ∧ sp.toNatClampNeg + n.toNatClampNeg ≤ p ∧ dp.toNatClampNeg + n.toNatClampNeg ≤ q := by
  unfold cpOk at e
  split at e
  · rename_i a b
    split at e
    · rename_i p q hp hq
      simp only [Bool.and_eq_true, beq_iff_eq, decide_eq_true_eq] at e
      obtain ⟨⟨⟨⟨⟨⟨e1, e2⟩, e3⟩, e4⟩, e5⟩, e6⟩, e7⟩ := e
      exact ⟨a, b, p.2, q.2, rfl, rfl, by rw [hp, ← e1], by rw [hq, ← e2], e3, e4, e5, e6, e7⟩
    · cases e
  · cases e
section MORE
variable {X : XT} {own : String} {cc : ByteArray} {nL pc cells slots : Nat} {h : AH} {lv lv' : List (Option Value)} {st : List Value} {ρ : Type} {r : ρ}
theorem s_getsI (C : CX X own cc nL) {idx : Nat} {Cn n : String} {tb : List Int32} (hT : stI Cn n tb (xD X).1 (xs X)) (w : Cond.fieldLink own idx Cn n "[I" ∈ lw_big) (d : decode cc pc = .ok (.getstatic idx, 3)) (kk : ∀ t : Nat, va_T .int t tb.length (fun j => .int (tb.getD j 0)) (fun q => (xD X).1 ≤ q) (xs X) (xs X).heap → WW X h cells slots (pc + 3) lv (.ref t :: st)) : WW X h cells slots pc lv st := by
  obtain ⟨t, h1, h2⟩ := hT
  exact fun H locs ls hR hS hl => va_gets C.1 C.2.1 h1 hS C.2.2.2.1 (C.2.2.2.2.1 _ w) (fun _ h => h) d (kk t h2 H locs ls hR hS hl)
theorem s_getsL (C : CX X own cc nL) {idx : Nat} {Cn n : String} {tb : List Int64} (hT : stL Cn n tb (xD X).1 (xs X)) (w : Cond.fieldLink own idx Cn n "[J" ∈ lw_big) (d : decode cc pc = .ok (.getstatic idx, 3)) (kk : ∀ t : Nat, va_T .long t tb.length (fun j => .long (tb.getD j 0)) (fun q => (xD X).1 ≤ q) (xs X) (xs X).heap → WW X h cells slots (pc + 3) lv (.ref t :: st)) : WW X h cells slots pc lv st := by
  obtain ⟨t, h1, h2⟩ := hT
  exact fun H locs ls hR hS hl => va_gets C.1 C.2.1 h1 hS C.2.2.2.1 (C.2.2.2.2.1 _ w) (fun _ h => h) d (kk t h2 H locs ls hR hS hl)
theorem s_getsIN (C : CX X own cc nL) {idx : Nat} {Cn n host : String} {tb : List Int32} (hT : stI Cn n tb (xD X).1 (xs X)) (w : Cond.fieldLinkNest own idx Cn n "[I" host ∈ xtraW) (d : decode cc pc = .ok (.getstatic idx, 3)) (kk : ∀ t : Nat, va_T .int t tb.length (fun j => .int (tb.getD j 0)) (fun q => (xD X).1 ≤ q) (xs X) (xs X).heap → WW X h cells slots (pc + 3) lv (.ref t :: st)) : WW X h cells slots pc lv st := by
  obtain ⟨t, h1, h2⟩ := hT
  exact fun H locs ls hR hS hl => va_getsN C.1 C.2.1 h1 hS C.2.2.2.1 (va_Nw.use rfl (C.2.2.2.2.2.2.1.1 _ w)) (fun _ h => h) d (kk t h2 H locs ls hR hS hl)
theorem s_tbI (C : CX X own cc nL) {tb : List Int32} {t : Nat} (hT : va_T .int t tb.length (fun j => .int (tb.getD j 0)) (fun q => (xD X).1 ≤ q) (xs X) (xs X).heap) (d : decode cc pc = .ok (.iaload, 1)) {i : Int32} {K : Int32 → Option ρ} (hf : tbI tb i K = some r) (kk : ∀ v, K v = some r → WW X h cells slots (pc + 1) lv (.int v :: st)) : WW X h cells slots pc lv (.int i :: .ref t :: st) := by
  unfold tbI at hf
  split at hf
  · cases hf
  · rename_i hin
    exact fun H locs ls hR hS hl => va_ti C.1 C.2.1 hT hS hin rfl d (kk _ hf H locs ls hR hS hl)
theorem s_tbL (C : CX X own cc nL) {tb : List Int64} {t : Nat} (hT : va_T .long t tb.length (fun j => .long (tb.getD j 0)) (fun q => (xD X).1 ≤ q) (xs X) (xs X).heap) (d : decode cc pc = .ok (.laload, 1)) {i : Int32} {K : Int64 → Option ρ} (hf : tbL tb i K = some r) (kk : ∀ v, K v = some r → WW X h cells slots (pc + 1) lv (.long v :: st)) : WW X h cells slots pc lv (.int i :: .ref t :: st) := by
  unfold tbL at hf
  split at hf
  · cases hf
  · rename_i hin
    exact fun H locs ls hR hS hl => va_tl C.1 C.2.1 hT hS hin rfl d (kk _ hf H locs ls hR hS hl)
theorem s_tblen (C : CX X own cc nL) {ty : FieldType} {N t : Nat} {f : Nat → Value} {v : Int32} (hT : va_T ty t N f (fun q => (xD X).1 ≤ q) (xs X) (xs X).heap) (hv : nI N = v) (d : decode cc pc = .ok (.arraylength, 1)) (kk : WW X h cells slots (pc + 1) lv (.int v :: st)) : WW X h cells slots pc lv (.ref t :: st) :=
  fun H locs ls hR hS hl => va_tlen C.1 C.2.1 hT hS hv d (kk H locs ls hR hS hl)
theorem sum4 (hst : st.length ≤ 4) {n k : Nat} (h : 8 + n ≤ k) : (st.map fun v => v.category).sum + n ≤ k := by
  have := cat_sum st hst
  omega
theorem s_mabs (C : CX X own cc nL) {idx : Nat} (w1 : Cond.methodLink own idx Lib.Math.abs.name ∈ lw_big) (w2 : Cond.static Lib.Math.abs.name ∈ lw_big) (w3 : Cond.initialized "java/lang/Math" ∈ lw_big) (w4 : Cond.code Lib.Math.abs.name Lib.Math.abs.code 1 (some .int) ∈ lw_big) (d : decode cc pc = .ok (.invokestatic idx, 3)) {x : Int32} (hst : st.length ≤ 4) (hroom : 1 ≤ (xR X).frames ∧ 21 ≤ (xR X).locals) (hcl : cells ≤ (xR X).cells ∧ slots ≤ (xR X).slots) (kk : WW X h cells slots (pc + 3) lv (.int (if 0 ≤ x then x else 0 - x) :: st)) : WW X h cells slots pc lv (.int x :: st) :=
  fun H locs ls hR hS hl => va_mabs C.1 C.2.1 hl.1.symm C.2.2.2.1 (C.2.2.2.2.1 _ w1) (C.2.2.2.2.1 _ w2) (C.2.2.2.2.1 _ w3) (C.2.2.2.2.1 _ w4) hroom.1 (sum4 hst hroom.2) hcl.1 hcl.2 d (kk H locs ls hR hS hl)
theorem s_mmax (C : CX X own cc nL) {idx : Nat} (w1 : Cond.methodLink own idx Lib.Math.max.name ∈ lw_big) (w2 : Cond.static Lib.Math.max.name ∈ lw_big) (w3 : Cond.initialized "java/lang/Math" ∈ lw_big) (w4 : Cond.code Lib.Math.max.name Lib.Math.max.code 2 (some .int) ∈ lw_big) (d : decode cc pc = .ok (.invokestatic idx, 3)) {x y : Int32} (hst : st.length ≤ 4) (hroom : 1 ≤ (xR X).frames ∧ 21 ≤ (xR X).locals) (hcl : cells ≤ (xR X).cells ∧ slots ≤ (xR X).slots) (kk : WW X h cells slots (pc + 3) lv (.int (if x < y then y else x) :: st)) : WW X h cells slots pc lv (.int y :: .int x :: st) :=
  fun H locs ls hR hS hl => va_mmax C.1 C.2.1 hl.1.symm C.2.2.2.1 (C.2.2.2.2.1 _ w1) (C.2.2.2.2.1 _ w2) (C.2.2.2.2.1 _ w3) (C.2.2.2.2.1 _ w4) hroom.1 (sum4 hst hroom.2) hcl.1 hcl.2 d (kk H locs ls hR hS hl)
theorem s_mmin (C : CX X own cc nL) {idx : Nat} (w1 : Cond.methodLink own idx Lib.Math.min.name ∈ lw_big) (w2 : Cond.static Lib.Math.min.name ∈ lw_big) (w3 : Cond.initialized "java/lang/Math" ∈ lw_big) (w4 : Cond.code Lib.Math.min.name Lib.Math.min.code 2 (some .int) ∈ lw_big) (d : decode cc pc = .ok (.invokestatic idx, 3)) {x y : Int32} (hst : st.length ≤ 4) (hroom : 1 ≤ (xR X).frames ∧ 21 ≤ (xR X).locals) (hcl : cells ≤ (xR X).cells ∧ slots ≤ (xR X).slots) (kk : WW X h cells slots (pc + 3) lv (.int (if y < x then y else x) :: st)) : WW X h cells slots pc lv (.int y :: .int x :: st) :=
  fun H locs ls hR hS hl => va_mmin C.1 C.2.1 hl.1.symm C.2.2.2.1 (C.2.2.2.2.1 _ w1) (C.2.2.2.2.1 _ w2) (C.2.2.2.2.1 _ w3) (C.2.2.2.2.1 _ w4) hroom.1 (sum4 hst hroom.2) hcl.1 hcl.2 d (kk H locs ls hR hS hl)
theorem nn32 (z : Int32) (hz : ¬ z < 0) : z.toInt = (z.toNatClampNeg : Int) := by
  have hz0 : (0 : Int) ≤ z.toInt := by
    have := Int32.not_lt.mp hz
    simpa using Int32.le_iff_toInt_le.mp this
  show z.toInt = ((z.toInt.toNat : Nat) : Int)
  omega
theorem s_copyG (C : CX X own cc nL) {idx t a b p q : Nat} (ht : t = 20 ∨ t = 24) (w1 : Cond.methodLink own idx arraycopyName ∈ lw_big) (w2 : Cond.native arraycopyName ∈ lw_big) (w3 : Cond.static arraycopyName ∈ lw_big) (w4 : Cond.initialized "java/lang/System" ∈ lw_big) (d : decode cc pc = .ok (.invokestatic idx, 3)) {sp dp n : Int32} (ha : (hS h)[a]? = some (t, p)) (hb : (hS h)[b]? = some (t, q)) (h1 : ¬ sp < 0) (h2 : ¬ dp < 0) (h3 : ¬ n < 0) (h4 : sp.toNatClampNeg + n.toNatClampNeg ≤ p) (h5 : dp.toNatClampNeg + n.toNatClampNeg ≤ q) {h' : AH} (e1 : hS h' = hS h) (e2 : ∀ j i f, j ≠ b → vB (xD X).1 h' j i f = vB (xD X).1 h j i f) (e3 : ac (xD X).1 h' t b = va_cpy (ac (xD X).1 h t a) (ac (xD X).1 h t b) sp.toNatClampNeg dp.toNatClampNeg n.toNatClampNeg) (hst : st.length ≤ 4) (hroom : 1 ≤ (xR X).frames ∧ 26 ≤ (xR X).locals) (kk : WW X h' cells slots (pc + 3) lv st) : WW X h cells slots pc lv (.int n :: .int dp :: rB (xD X).1 (some b) :: .int sp :: rB (xD X).1 (some a) :: st) := by
  intro H locs ls hR hS hl T hT X0
  have hts := C.2.2.2.2.1
  have hc0 := (hR.2.1 a _ ha).ar (by omega) (by omega)
  have hc1 := (hR.2.1 b _ hb).ar (by omega) (by omega)
  have hArr := (C.2.2.2.2.2.1.2.1 t (by omega) (by omega)).1
  obtain ⟨-, k0, hk0, cm0, hkk0⟩ := hArr p (ac (xD X).1 h t a)
  obtain ⟨-, k1, hk1, cm1, hkk1⟩ := hArr q (ac (xD X).1 h t b)
  have hval : ∀ i, i < n.toNatClampNeg → (arrV ((xD X).2.2.2.1 t) p (ac (xD X).1 h t a)).slots.getD (sp.toNatClampNeg + i) .null = ac (xD X).1 h t a (sp.toNatClampNeg + i) := by
    intro i hi
    rw [Array.getD_eq_getD_getElem?, arrV_read _ _ (by omega)]
    rfl
  obtain ⟨vm', X', step⟩ := X0.arraycopy C.1 C.2.2.2.1 (hts _ w1) (hts _ w2) (hts _ w3) (hts _ w4) (src := (xD X).1 + a) (dst := (xD X).1 + b) (cs := arrV ((xD X).2.2.2.1 t) p (ac (xD X).1 h t a)) (cd := arrV ((xD X).2.2.2.1 t) q (ac (xD X).1 h t b)) (srcPos := sp) (destPos := dp) (n := n) (by rw [hT]; exact hc0) (by rw [hT]; exact hc1)
    (fun _ h => by cases h) (fun _ h => by cases h) (fun h => by cases h) (fun h => by cases h) hk0 hk1 hkk0 hkk1 (by rcases ht with rfl | rfl <;> rfl) h1 h2 h3
    (by rw [nn32 sp h1, nn32 n h3, arrV_size]; omega)
    (by rw [nn32 dp h2, nn32 n h3, arrV_size]; omega)
    (fun vm₁ _ i hi => by
      rw [hval i hi]
      rcases ht with rfl | rfl <;> exact ⟨rfl, trivial⟩)
    (g := F0 (xm X) pc ls (.int n :: .int dp :: rB (xD X).1 (some b) :: .int sp :: rB (xD X).1 (some a) :: st)) rfl (by show ls.size = _; exact hl.1) (rest := st) rfl (by rw [C.2.1]; exact d) hroom.1 (by have := cat_sum st hst; have h26 : 26 ≤ X.1.2.2.2.1.locals := hroom.2; show 2 * 0 + _ + (nativeFrameWords "java/lang/System" "arraycopy" 5 + 11) ≤ _; rw [show nativeFrameWords "java/lang/System" "arraycopy" 5 = 7 by decide]; omega)
  have ecp : copied (arrV ((xD X).2.2.2.1 t) p (ac (xD X).1 h t a)) (arrV ((xD X).2.2.2.1 t) q (ac (xD X).1 h t b)) sp dp n = arrV ((xD X).2.2.2.1 t) q (ac (xD X).1 h' t b) := by
    rw [e3]
    exact va_copied (fun z => z) ((xD X).2.2.2.1 t) ((xD X).2.2.2.1 t) (ac (xD X).1 h t a) (ac (xD X).1 h t b) h4
  rw [ecp] at X' step
  generalize hcell : arrV ((xD X).2.2.2.1 t) q (ac (xD X).1 h' t b) = cell at X' step
  have hlt : (xD X).1 + b < H.size := (Array.getElem?_eq_some_iff.mp hc1).1
  have hheap : ((T.setVm vm').setCell ((xD X).1 + b) cell).heap = H.setIfInBounds ((xD X).1 + b) cell := by rw [← hT]; rfl
  have oq : ∀ x : Nat, x ≠ (xD X).1 + b → (H.setIfInBounds ((xD X).1 + b) cell)[x]? = H[x]? := fun x hx => by simp [Array.getElem?_setIfInBounds, Ne.symm hx]
  have hz : (H.setIfInBounds ((xD X).1 + b) cell).size = H.size := by simp
  have hat : atC (xD X) h' b (t, q) (H.setIfInBounds ((xD X).1 + b) cell) := by
    unfold atC
    rw [if_neg (by show ¬ t < 13; omega), if_pos (by show t < 28; omega), ← hcell]
    simp [Array.getElem?_setIfInBounds, hlt, hcell]
  obtain ⟨t2, a1, b1⟩ := kk _ _ ls (hR.put e1 hb hz oq hat e2) ⟨by rw [hz]; exact hS.1, fun x g1 g2 => by
      rw [oq x (fun e => g2 (by rw [e]; exact Nat.le_add_right _ _))]
      exact hS.2.1 x g1 g2, fun x hx => by
      rcases List.mem_append.mp hx with h | h
      · exact hS.2.2 x h
      · obtain ⟨z, -, hz⟩ := List.mem_map.mp h
        rw [← hz]
        exact Nat.le_add_right _ _⟩ hl _ hheap X'
  exact ⟨t2, step t2 a1, b1⟩
theorem vB_rwI1 {b : Nat} {h : AH} {a : Nat} {g : Nat → Int32} (j i f : Nat) (e : j ≠ a) : vB b (rwI h a g) j i f = vB b h j i f := by
  unfold vB
  split <;> simp [hI, hL, hR, rwI, uR, e]
theorem vB_rwL1 {b : Nat} {h : AH} {a : Nat} {g : Nat → Int64} (j i f : Nat) (e : j ≠ a) : vB b (rwL h a g) j i f = vB b h j i f := by
  unfold vB
  split <;> simp [hI, hL, hR, rwL, uR, e]
theorem s_copyI (C : CX X own cc nL) {idx : Nat} (w1 : Cond.methodLink own idx arraycopyName ∈ lw_big) (w2 : Cond.native arraycopyName ∈ lw_big) (w3 : Cond.static arraycopyName ∈ lw_big) (w4 : Cond.initialized "java/lang/System" ∈ lw_big) (d : decode cc pc = .ok (.invokestatic idx, 3)) {sp dp n : Int32} {r0 r1 : Option Nat} {K : AH → Option ρ} (hf : cpI h r0 sp r1 dp n K = some r) (hst : st.length ≤ 4) (hroom : 1 ≤ (xR X).frames ∧ 26 ≤ (xR X).locals) (kk : ∀ h', K h' = some r → WW X h' cells slots (pc + 3) lv st) : WW X h cells slots pc lv (.int n :: .int dp :: rB (xD X).1 r1 :: .int sp :: rB (xD X).1 r0 :: st) := by
  unfold cpI at hf
  split at hf
  · rename_i e
    obtain ⟨a, b, p, q, rfl, rfl, ha, hb, h1, h2, h3, h4, h5⟩ := cpOk_spec e
    refine s_copyG C (Or.inl rfl) w1 w2 w3 w4 d ha hb h1 h2 h3 h4 h5 (h' := rwI h b (va_cpy (gI h (some a)) (hI h b) sp.toNatClampNeg dp.toNatClampNeg n.toNatClampNeg)) rfl vB_rwI1 ?_ hst hroom (kk _ hf)
    funext i
    show Value.int _ = va_cpy (fun j => Value.int _) (fun j => Value.int _) _ _ _ _
    simp only [hI, rwI, uR, va_cpy, if_pos]
    split <;> rfl
  · cases hf
theorem s_copyL (C : CX X own cc nL) {idx : Nat} (w1 : Cond.methodLink own idx arraycopyName ∈ lw_big) (w2 : Cond.native arraycopyName ∈ lw_big) (w3 : Cond.static arraycopyName ∈ lw_big) (w4 : Cond.initialized "java/lang/System" ∈ lw_big) (d : decode cc pc = .ok (.invokestatic idx, 3)) {sp dp n : Int32} {r0 r1 : Option Nat} {K : AH → Option ρ} (hf : cpL h r0 sp r1 dp n K = some r) (hst : st.length ≤ 4) (hroom : 1 ≤ (xR X).frames ∧ 26 ≤ (xR X).locals) (kk : ∀ h', K h' = some r → WW X h' cells slots (pc + 3) lv st) : WW X h cells slots pc lv (.int n :: .int dp :: rB (xD X).1 r1 :: .int sp :: rB (xD X).1 r0 :: st) := by
  unfold cpL at hf
  split at hf
  · rename_i e
    obtain ⟨a, b, p, q, rfl, rfl, ha, hb, h1, h2, h3, h4, h5⟩ := cpOk_spec e
    refine s_copyG C (Or.inr rfl) w1 w2 w3 w4 d ha hb h1 h2 h3 h4 h5 (h' := rwL h b (va_cpy (gL h (some a)) (hL h b) sp.toNatClampNeg dp.toNatClampNeg n.toNatClampNeg)) rfl vB_rwL1 ?_ hst hroom (kk _ hf)
    funext i
    show Value.long _ = va_cpy (fun j => Value.long _) (fun j => Value.long _) _ _ _ _
    simp only [hL, rwL, uR, va_cpy, if_pos]
    split <;> rfl
  · cases hf
/-- a switch: the numbers in order, each with what follows -/
def swN {ρ : Type} (x : Int32) (b : Option ρ) : List (Int × Option ρ) → Option ρ
  | [] => b
  | q :: l => if x.toInt = q.1 then q.2 else swN x b l
theorem s_tswitch (C : CX X own cc nL) {x : Int32} {dflt lo hi : Int} {offs : Array Int} {len : Nat} (d : decode cc pc = .ok (.tableswitch dflt lo hi offs, len)) (tgt : Int → Nat) (hin : ∀ z : Int, lo ≤ z → z ≤ hi → ∃ off, offs[(z - lo).toNat]? = some off ∧ (pc : Int) + off = (tgt z : Int)) {td : Nat} (hd : (pc : Int) + dflt = (td : Int)) (k1 : ∀ z : Int, lo ≤ z → z ≤ hi → x.toInt = z → WW X h cells slots (tgt z) lv st) (k2 : (x.toInt < lo ∨ hi < x.toInt) → WW X h cells slots td lv st) : WW X h cells slots pc lv (.int x :: st) := by
  intro H locs ls hR hS hl
  by_cases e1 : x.toInt < lo
  · exact lv_tableOut C.1 C.2.1 d (Or.inl e1) hd (k2 (Or.inl e1) H locs ls hR hS hl)
  · by_cases e2 : hi < x.toInt
    · exact lv_tableOut C.1 C.2.1 d (Or.inr e2) hd (k2 (Or.inr e2) H locs ls hR hS hl)
    · obtain ⟨off, o1, o2⟩ := hin x.toInt (by omega) (by omega)
      exact lv_tableIn C.1 C.2.1 d e1 e2 o1 o2 (k1 x.toInt (by omega) (by omega) rfl H locs ls hR hS hl)
theorem s_lswitch (C : CX X own cc nL) {x : Int32} {dflt : Int} {ps : Array (Int × Int)} {len : Nat} (d : decode cc pc = .ok (.lookupswitch dflt ps, len)) (hp : (ps.toList.zip (ps.toList.drop 1)).all (fun (a, next) => a.1 < next.1) = true) {off : Int} {tgt : Nat} (ho : Op.lookupswitch.offset ps.toList dflt x.toInt = off) (ht : (pc : Int) + off = (tgt : Int)) (k : WW X h cells slots tgt lv st) : WW X h cells slots pc lv (.int x :: st) :=
  fun H locs ls hR hS hl => lv_lookup C.1 C.2.1 d hp ho ht (k H locs ls hR hS hl)
/-- a join: what follows it is walked once -/
theorem s_jn {α : Type} {b : α} {K : α → Option ρ} {P : Prop} (hf : jn b K = some r) (k : ∀ j : α, j = b → K j = some r → P) : P := k b rfl hf
end MORE
end
section
/-! GLUE of the printed walks: weaker locals, more room, loops, switches, Object's start -/
section GLUE
variable {X : XT} {own : String} {cc : ByteArray} {nL pc cells slots : Nat} {h : AH} {lv lv' : List (Option Value)} {st : List Value} {ρ : Type} {r : ρ}
theorem s_widen {c s : Nat} (h1 : cells ≤ c) (h2 : slots ≤ s) (k : WW X h c s pc lv st) : WW X h cells slots pc lv st := fun H locs ls hR hS hl => W.widen h1 h2 (k H locs ls hR hS hl)
/-- the first list says less -/
def lvle : List (Option Value) → List (Option Value) → Prop
  | [], [] => True
  | none :: a, _ :: b => lvle a b
  | some v :: a, w :: b => w = some v ∧ lvle a b
  | _, _ => False
theorem lvle_at : ∀ (a b : List (Option Value)), lvle a b → ∀ (i : Nat) (v : Value), a[i]? = some (some v) → b[i]? = some (some v)
  | [], [], _, i, v, e => by simp at e
  | none :: a, w :: b, hl, i, v, e => by
    cases i with
    | zero => simp at e
    | succ i => simpa using lvle_at a b hl i v (by simpa using e)
  | some u :: a, w :: b, hl, i, v, e => by
    cases i with
    | zero =>
      simp at e
      subst e
      simp [hl.1]
    | succ i => simpa using lvle_at a b hl.2 i v (by simpa using e)
  | none :: _, [], hl, _, _, _ => hl.elim
  | some _ :: _, [], hl, _, _, _ => hl.elim
  | [], _ :: _, hl, _, _, _ => hl.elim
theorem s_weak (hl : lvle lv' lv) (k : WW X h cells slots pc lv' st) : WW X h cells slots pc lv st := fun H locs ls hR hS hL => k H locs ls hR hS ⟨hL.1, hL.2.1, fun i v e => hL.2.2 i v (lvle_at _ _ hl i v e)⟩
theorem s_ite {c : Prop} [Decidable c] {A B : Option ρ} (hf : (if c then A else B) = some r) {P : Prop} (kt : c → A = some r → P) (kf : ¬ c → B = some r → P) : P := by
  by_cases e : c
  · exact kt e (by rwa [if_pos e] at hf)
  · exact kf e (by rwa [if_neg e] at hf)
theorem n32 {x z : Int32} {i : Int} (e : ¬ x = z) (hz : z.toInt = i) : x.toInt ≠ i := fun q => e (Int32.toInt_inj.mp (q.trans hz.symm))
theorem s_tsw1 (C : CX X own cc nL) {x z : Int32} {dflt lo hi off : Int} {offs : Array Int} {len tgt : Nat} (d : decode cc pc = .ok (.tableswitch dflt lo hi offs, len)) (e : x = z) (h1 : ¬ z.toInt < lo) (h2 : ¬ hi < z.toInt) (o1 : offs[(z.toInt - lo).toNat]? = some off) (o2 : (pc : Int) + off = (tgt : Int)) (k : WW X h cells slots tgt lv st) : WW X h cells slots pc lv (.int x :: st) := by
  subst e
  exact fun H locs ls hR hS hl => lv_tableIn C.1 C.2.1 d h1 h2 o1 o2 (k H locs ls hR hS hl)
theorem s_tswD (C : CX X own cc nL) {x : Int32} {dflt lo hi : Int} {offs : Array Int} {len tgt : Nat} (d : decode cc pc = .ok (.tableswitch dflt lo hi offs, len)) (h1 : x.toInt < lo ∨ hi < x.toInt) (o2 : (pc : Int) + dflt = (tgt : Int)) (k : WW X h cells slots tgt lv st) : WW X h cells slots pc lv (.int x :: st) :=
  fun H locs ls hR hS hl => lv_tableOut C.1 C.2.1 d h1 o2 (k H locs ls hR hS hl)
theorem s_lsw1 (C : CX X own cc nL) {x z : Int32} {dflt off : Int} {ps : Array (Int × Int)} {len tgt : Nat} (d : decode cc pc = .ok (.lookupswitch dflt ps, len)) (hp : (ps.toList.zip (ps.toList.drop 1)).all (fun (a, next) => a.1 < next.1) = true) (e : x = z) (ho : Op.lookupswitch.offset ps.toList dflt z.toInt = off) (ht : (pc : Int) + off = (tgt : Int)) (k : WW X h cells slots tgt lv st) : WW X h cells slots pc lv (.int x :: st) := by
  subst e
  exact fun H locs ls hR hS hl => lv_lookup C.1 C.2.1 d hp ho ht (k H locs ls hR hS hl)
theorem s_objInit (C : CX X own cc nL) {idx : Nat} (w1 : Cond.methodLink own idx Lib.objectInit ∈ lw_big) (w2 : Cond.instanceMethod Lib.objectInit ∈ lw_big) (w3 : Cond.code Lib.objectInit ⟨#[0xb1]⟩ 1 none ∈ lw_big) (d : decode cc pc = .ok (.invokespecial idx, 3)) {cs : List Nat} {r0 : Option Nat} {K : Option ρ} (hf : rO h cs r0 K = some r) (hst : st.length ≤ 4) (hroom : 1 ≤ (xR X).frames ∧ 20 ≤ (xR X).locals) (kk : K = some r → WW X h cells slots (pc + 3) lv st) : WW X h cells slots pc lv (rB (xD X).1 r0 :: st) := by
  unfold rO at hf
  split at hf
  · rename_i e
    obtain ⟨a, t, n, rfl, -, -⟩ := okT_spec e
    intro H locs ls hR hS hl
    have hts := C.2.2.2.2.1
    exact W.objInit C.1 C.2.1 C.2.2.2.1 (hts _ w1) (hts _ w2) (hts _ w3) rfl (by show ls.size = _; exact hl.1) (a := (xD X).1 + a) (rest := st) rfl d hroom.1 (by have := cat_sum st hst; have h20 : 20 ≤ X.1.2.2.2.1.locals := hroom.2; show 2 * 0 + _ + 12 ≤ _; omega) (kk hf H locs ls hR hS hl)
  · cases hf
theorem room_ok {F c s L fr lo n : Nat} (hX : xR X = { frames := F, cells := c, slots := s, locals := L }) (h1 : fr + 1 ≤ F) (h2 : 8 + (n + 11) + lo ≤ L) : fr + 1 ≤ (xR X).frames ∧ 8 + (n + 11) + lo ≤ (xR X).locals := by rw [hX]; exact ⟨h1, h2⟩
theorem room_n {F c s L a b : Nat} (hX : xR X = { frames := F, cells := c, slots := s, locals := L }) (h1 : a ≤ F) (h2 : b ≤ L) : a ≤ (xR X).frames ∧ b ≤ (xR X).locals := by rw [hX]; exact ⟨h1, h2⟩
theorem cell_ok {F c s L a b : Nat} (hX : xR X = { frames := F, cells := c, slots := s, locals := L }) (h1 : a ≤ c) (h2 : b ≤ s) : a ≤ (xR X).cells ∧ b ≤ (xR X).slots := by rw [hX]; exact ⟨h1, h2⟩
theorem FLk.mk0 {own : String} {idx : Nat} {cs : List Nat} {k kd : Nat} {fin : Bool} (ref n d : String) (w : Cond.fieldLink own idx ref n d ∈ lw_big) (e : ∀ t ∈ cs, t < 13 ∧ (okC t → k < NXX t ∧ (TXX t k).1 = ref ∧ (TXX t k).2.1 = n ∧ (TXX t k).2.2.1 = d ∧ (TXX t k).2.2.2 = fin ∧ fk (tyXX t k) = kd)) : FLk own idx cs k kd fin :=
  ⟨ref, n, d, w, fun t ht => (e t ht).1, fun t ht ho => by have a1 := (e t ht).1; obtain ⟨a2, a3, a4, a5, a6, a7⟩ := (e t ht).2 ho; exact ⟨a1, a2, a4, a5, a6, a7, Or.inl a3⟩⟩
theorem FLk.mk1 {own : String} {idx : Nat} {cs : List Nat} {k kd : Nat} {fin : Bool} (ref o n d : String) (w : Cond.fieldLink own idx ref n d ∈ lw_big) (w2 : Cond.sameField ref o n d ∈ lw_big) (e : ∀ t ∈ cs, t < 13 ∧ (okC t → k < NXX t ∧ (TXX t k).1 = o ∧ (TXX t k).2.1 = n ∧ (TXX t k).2.2.1 = d ∧ (TXX t k).2.2.2 = fin ∧ fk (tyXX t k) = kd)) : FLk own idx cs k kd fin :=
  ⟨ref, n, d, w, fun t ht => (e t ht).1, fun t ht ho => by have a1 := (e t ht).1; obtain ⟨a2, a3, a4, a5, a6, a7⟩ := (e t ht).2 ho; exact ⟨a1, a2, a4, a5, a6, a7, Or.inr (by rw [a3]; exact w2)⟩⟩
theorem s_lp1 {A0 : Type} {F : (A0 → Option ρ) → A0 → Option ρ} {N : Nat} {a0 : A0} (hf : lp (fun _ => none) F N a0 = some r) {P : Prop} (k : ∀ G : Nat → A0 → Option ρ, (∀ (a0 : A0), G 0 a0 = none) → (∀ n (a0 : A0), G (n + 1) a0 = F (G n) a0) → G N a0 = some r → P) : P :=
  k (fun n => lp (fun _ => none) F n) (fun _ => rfl) (fun n _ => rfl) hf
theorem s_lp2 {A0 A1 : Type} {F : (A0 → A1 → Option ρ) → A0 → A1 → Option ρ} {N : Nat} {a0 : A0} {a1 : A1} (hf : lp (fun _ _ => none) F N a0 a1 = some r) {P : Prop} (k : ∀ G : Nat → A0 → A1 → Option ρ, (∀ (a0 : A0) (a1 : A1), G 0 a0 a1 = none) → (∀ n (a0 : A0) (a1 : A1), G (n + 1) a0 a1 = F (G n) a0 a1) → G N a0 a1 = some r → P) : P :=
  k (fun n => lp (fun _ _ => none) F n) (fun _ _ => rfl) (fun n _ _ => rfl) hf
theorem s_lp3 {A0 A1 A2 : Type} {F : (A0 → A1 → A2 → Option ρ) → A0 → A1 → A2 → Option ρ} {N : Nat} {a0 : A0} {a1 : A1} {a2 : A2} (hf : lp (fun _ _ _ => none) F N a0 a1 a2 = some r) {P : Prop} (k : ∀ G : Nat → A0 → A1 → A2 → Option ρ, (∀ (a0 : A0) (a1 : A1) (a2 : A2), G 0 a0 a1 a2 = none) → (∀ n (a0 : A0) (a1 : A1) (a2 : A2), G (n + 1) a0 a1 a2 = F (G n) a0 a1 a2) → G N a0 a1 a2 = some r → P) : P :=
  k (fun n => lp (fun _ _ _ => none) F n) (fun _ _ _ => rfl) (fun n _ _ _ => rfl) hf
theorem s_lp4 {A0 A1 A2 A3 : Type} {F : (A0 → A1 → A2 → A3 → Option ρ) → A0 → A1 → A2 → A3 → Option ρ} {N : Nat} {a0 : A0} {a1 : A1} {a2 : A2} {a3 : A3} (hf : lp (fun _ _ _ _ => none) F N a0 a1 a2 a3 = some r) {P : Prop} (k : ∀ G : Nat → A0 → A1 → A2 → A3 → Option ρ, (∀ (a0 : A0) (a1 : A1) (a2 : A2) (a3 : A3), G 0 a0 a1 a2 a3 = none) → (∀ n (a0 : A0) (a1 : A1) (a2 : A2) (a3 : A3), G (n + 1) a0 a1 a2 a3 = F (G n) a0 a1 a2 a3) → G N a0 a1 a2 a3 = some r → P) : P :=
  k (fun n => lp (fun _ _ _ _ => none) F n) (fun _ _ _ _ => rfl) (fun n _ _ _ _ => rfl) hf
theorem s_lp5 {A0 A1 A2 A3 A4 : Type} {F : (A0 → A1 → A2 → A3 → A4 → Option ρ) → A0 → A1 → A2 → A3 → A4 → Option ρ} {N : Nat} {a0 : A0} {a1 : A1} {a2 : A2} {a3 : A3} {a4 : A4} (hf : lp (fun _ _ _ _ _ => none) F N a0 a1 a2 a3 a4 = some r) {P : Prop} (k : ∀ G : Nat → A0 → A1 → A2 → A3 → A4 → Option ρ, (∀ (a0 : A0) (a1 : A1) (a2 : A2) (a3 : A3) (a4 : A4), G 0 a0 a1 a2 a3 a4 = none) → (∀ n (a0 : A0) (a1 : A1) (a2 : A2) (a3 : A3) (a4 : A4), G (n + 1) a0 a1 a2 a3 a4 = F (G n) a0 a1 a2 a3 a4) → G N a0 a1 a2 a3 a4 = some r → P) : P :=
  k (fun n => lp (fun _ _ _ _ _ => none) F n) (fun _ _ _ _ _ => rfl) (fun n _ _ _ _ _ => rfl) hf
theorem s_lp6 {A0 A1 A2 A3 A4 A5 : Type} {F : (A0 → A1 → A2 → A3 → A4 → A5 → Option ρ) → A0 → A1 → A2 → A3 → A4 → A5 → Option ρ} {N : Nat} {a0 : A0} {a1 : A1} {a2 : A2} {a3 : A3} {a4 : A4} {a5 : A5} (hf : lp (fun _ _ _ _ _ _ => none) F N a0 a1 a2 a3 a4 a5 = some r) {P : Prop} (k : ∀ G : Nat → A0 → A1 → A2 → A3 → A4 → A5 → Option ρ, (∀ (a0 : A0) (a1 : A1) (a2 : A2) (a3 : A3) (a4 : A4) (a5 : A5), G 0 a0 a1 a2 a3 a4 a5 = none) → (∀ n (a0 : A0) (a1 : A1) (a2 : A2) (a3 : A3) (a4 : A4) (a5 : A5), G (n + 1) a0 a1 a2 a3 a4 a5 = F (G n) a0 a1 a2 a3 a4 a5) → G N a0 a1 a2 a3 a4 a5 = some r → P) : P :=
  k (fun n => lp (fun _ _ _ _ _ _ => none) F n) (fun _ _ _ _ _ _ => rfl) (fun n _ _ _ _ _ _ => rfl) hf
theorem s_lp7 {A0 A1 A2 A3 A4 A5 A6 : Type} {F : (A0 → A1 → A2 → A3 → A4 → A5 → A6 → Option ρ) → A0 → A1 → A2 → A3 → A4 → A5 → A6 → Option ρ} {N : Nat} {a0 : A0} {a1 : A1} {a2 : A2} {a3 : A3} {a4 : A4} {a5 : A5} {a6 : A6} (hf : lp (fun _ _ _ _ _ _ _ => none) F N a0 a1 a2 a3 a4 a5 a6 = some r) {P : Prop} (k : ∀ G : Nat → A0 → A1 → A2 → A3 → A4 → A5 → A6 → Option ρ, (∀ (a0 : A0) (a1 : A1) (a2 : A2) (a3 : A3) (a4 : A4) (a5 : A5) (a6 : A6), G 0 a0 a1 a2 a3 a4 a5 a6 = none) → (∀ n (a0 : A0) (a1 : A1) (a2 : A2) (a3 : A3) (a4 : A4) (a5 : A5) (a6 : A6), G (n + 1) a0 a1 a2 a3 a4 a5 a6 = F (G n) a0 a1 a2 a3 a4 a5 a6) → G N a0 a1 a2 a3 a4 a5 a6 = some r → P) : P :=
  k (fun n => lp (fun _ _ _ _ _ _ _ => none) F n) (fun _ _ _ _ _ _ _ => rfl) (fun n _ _ _ _ _ _ _ => rfl) hf
theorem s_lp8 {A0 A1 A2 A3 A4 A5 A6 A7 : Type} {F : (A0 → A1 → A2 → A3 → A4 → A5 → A6 → A7 → Option ρ) → A0 → A1 → A2 → A3 → A4 → A5 → A6 → A7 → Option ρ} {N : Nat} {a0 : A0} {a1 : A1} {a2 : A2} {a3 : A3} {a4 : A4} {a5 : A5} {a6 : A6} {a7 : A7} (hf : lp (fun _ _ _ _ _ _ _ _ => none) F N a0 a1 a2 a3 a4 a5 a6 a7 = some r) {P : Prop} (k : ∀ G : Nat → A0 → A1 → A2 → A3 → A4 → A5 → A6 → A7 → Option ρ, (∀ (a0 : A0) (a1 : A1) (a2 : A2) (a3 : A3) (a4 : A4) (a5 : A5) (a6 : A6) (a7 : A7), G 0 a0 a1 a2 a3 a4 a5 a6 a7 = none) → (∀ n (a0 : A0) (a1 : A1) (a2 : A2) (a3 : A3) (a4 : A4) (a5 : A5) (a6 : A6) (a7 : A7), G (n + 1) a0 a1 a2 a3 a4 a5 a6 a7 = F (G n) a0 a1 a2 a3 a4 a5 a6 a7) → G N a0 a1 a2 a3 a4 a5 a6 a7 = some r → P) : P :=
  k (fun n => lp (fun _ _ _ _ _ _ _ _ => none) F n) (fun _ _ _ _ _ _ _ _ => rfl) (fun n _ _ _ _ _ _ _ _ => rfl) hf
theorem s_lp9 {A0 A1 A2 A3 A4 A5 A6 A7 A8 : Type} {F : (A0 → A1 → A2 → A3 → A4 → A5 → A6 → A7 → A8 → Option ρ) → A0 → A1 → A2 → A3 → A4 → A5 → A6 → A7 → A8 → Option ρ} {N : Nat} {a0 : A0} {a1 : A1} {a2 : A2} {a3 : A3} {a4 : A4} {a5 : A5} {a6 : A6} {a7 : A7} {a8 : A8} (hf : lp (fun _ _ _ _ _ _ _ _ _ => none) F N a0 a1 a2 a3 a4 a5 a6 a7 a8 = some r) {P : Prop} (k : ∀ G : Nat → A0 → A1 → A2 → A3 → A4 → A5 → A6 → A7 → A8 → Option ρ, (∀ (a0 : A0) (a1 : A1) (a2 : A2) (a3 : A3) (a4 : A4) (a5 : A5) (a6 : A6) (a7 : A7) (a8 : A8), G 0 a0 a1 a2 a3 a4 a5 a6 a7 a8 = none) → (∀ n (a0 : A0) (a1 : A1) (a2 : A2) (a3 : A3) (a4 : A4) (a5 : A5) (a6 : A6) (a7 : A7) (a8 : A8), G (n + 1) a0 a1 a2 a3 a4 a5 a6 a7 a8 = F (G n) a0 a1 a2 a3 a4 a5 a6 a7 a8) → G N a0 a1 a2 a3 a4 a5 a6 a7 a8 = some r → P) : P :=
  k (fun n => lp (fun _ _ _ _ _ _ _ _ _ => none) F n) (fun _ _ _ _ _ _ _ _ _ => rfl) (fun n _ _ _ _ _ _ _ _ _ => rfl) hf
theorem s_lp10 {A0 A1 A2 A3 A4 A5 A6 A7 A8 A9 : Type} {F : (A0 → A1 → A2 → A3 → A4 → A5 → A6 → A7 → A8 → A9 → Option ρ) → A0 → A1 → A2 → A3 → A4 → A5 → A6 → A7 → A8 → A9 → Option ρ} {N : Nat} {a0 : A0} {a1 : A1} {a2 : A2} {a3 : A3} {a4 : A4} {a5 : A5} {a6 : A6} {a7 : A7} {a8 : A8} {a9 : A9} (hf : lp (fun _ _ _ _ _ _ _ _ _ _ => none) F N a0 a1 a2 a3 a4 a5 a6 a7 a8 a9 = some r) {P : Prop} (k : ∀ G : Nat → A0 → A1 → A2 → A3 → A4 → A5 → A6 → A7 → A8 → A9 → Option ρ, (∀ (a0 : A0) (a1 : A1) (a2 : A2) (a3 : A3) (a4 : A4) (a5 : A5) (a6 : A6) (a7 : A7) (a8 : A8) (a9 : A9), G 0 a0 a1 a2 a3 a4 a5 a6 a7 a8 a9 = none) → (∀ n (a0 : A0) (a1 : A1) (a2 : A2) (a3 : A3) (a4 : A4) (a5 : A5) (a6 : A6) (a7 : A7) (a8 : A8) (a9 : A9), G (n + 1) a0 a1 a2 a3 a4 a5 a6 a7 a8 a9 = F (G n) a0 a1 a2 a3 a4 a5 a6 a7 a8 a9) → G N a0 a1 a2 a3 a4 a5 a6 a7 a8 a9 = some r → P) : P :=
  k (fun n => lp (fun _ _ _ _ _ _ _ _ _ _ => none) F n) (fun _ _ _ _ _ _ _ _ _ _ => rfl) (fun n _ _ _ _ _ _ _ _ _ _ => rfl) hf
theorem s_lp11 {A0 A1 A2 A3 A4 A5 A6 A7 A8 A9 A10 : Type} {F : (A0 → A1 → A2 → A3 → A4 → A5 → A6 → A7 → A8 → A9 → A10 → Option ρ) → A0 → A1 → A2 → A3 → A4 → A5 → A6 → A7 → A8 → A9 → A10 → Option ρ} {N : Nat} {a0 : A0} {a1 : A1} {a2 : A2} {a3 : A3} {a4 : A4} {a5 : A5} {a6 : A6} {a7 : A7} {a8 : A8} {a9 : A9} {a10 : A10} (hf : lp (fun _ _ _ _ _ _ _ _ _ _ _ => none) F N a0 a1 a2 a3 a4 a5 a6 a7 a8 a9 a10 = some r) {P : Prop} (k : ∀ G : Nat → A0 → A1 → A2 → A3 → A4 → A5 → A6 → A7 → A8 → A9 → A10 → Option ρ, (∀ (a0 : A0) (a1 : A1) (a2 : A2) (a3 : A3) (a4 : A4) (a5 : A5) (a6 : A6) (a7 : A7) (a8 : A8) (a9 : A9) (a10 : A10), G 0 a0 a1 a2 a3 a4 a5 a6 a7 a8 a9 a10 = none) → (∀ n (a0 : A0) (a1 : A1) (a2 : A2) (a3 : A3) (a4 : A4) (a5 : A5) (a6 : A6) (a7 : A7) (a8 : A8) (a9 : A9) (a10 : A10), G (n + 1) a0 a1 a2 a3 a4 a5 a6 a7 a8 a9 a10 = F (G n) a0 a1 a2 a3 a4 a5 a6 a7 a8 a9 a10) → G N a0 a1 a2 a3 a4 a5 a6 a7 a8 a9 a10 = some r → P) : P :=
  k (fun n => lp (fun _ _ _ _ _ _ _ _ _ _ _ => none) F n) (fun _ _ _ _ _ _ _ _ _ _ _ => rfl) (fun n _ _ _ _ _ _ _ _ _ _ _ => rfl) hf
theorem s_lp12 {A0 A1 A2 A3 A4 A5 A6 A7 A8 A9 A10 A11 : Type} {F : (A0 → A1 → A2 → A3 → A4 → A5 → A6 → A7 → A8 → A9 → A10 → A11 → Option ρ) → A0 → A1 → A2 → A3 → A4 → A5 → A6 → A7 → A8 → A9 → A10 → A11 → Option ρ} {N : Nat} {a0 : A0} {a1 : A1} {a2 : A2} {a3 : A3} {a4 : A4} {a5 : A5} {a6 : A6} {a7 : A7} {a8 : A8} {a9 : A9} {a10 : A10} {a11 : A11} (hf : lp (fun _ _ _ _ _ _ _ _ _ _ _ _ => none) F N a0 a1 a2 a3 a4 a5 a6 a7 a8 a9 a10 a11 = some r) {P : Prop} (k : ∀ G : Nat → A0 → A1 → A2 → A3 → A4 → A5 → A6 → A7 → A8 → A9 → A10 → A11 → Option ρ, (∀ (a0 : A0) (a1 : A1) (a2 : A2) (a3 : A3) (a4 : A4) (a5 : A5) (a6 : A6) (a7 : A7) (a8 : A8) (a9 : A9) (a10 : A10) (a11 : A11), G 0 a0 a1 a2 a3 a4 a5 a6 a7 a8 a9 a10 a11 = none) → (∀ n (a0 : A0) (a1 : A1) (a2 : A2) (a3 : A3) (a4 : A4) (a5 : A5) (a6 : A6) (a7 : A7) (a8 : A8) (a9 : A9) (a10 : A10) (a11 : A11), G (n + 1) a0 a1 a2 a3 a4 a5 a6 a7 a8 a9 a10 a11 = F (G n) a0 a1 a2 a3 a4 a5 a6 a7 a8 a9 a10 a11) → G N a0 a1 a2 a3 a4 a5 a6 a7 a8 a9 a10 a11 = some r → P) : P :=
  k (fun n => lp (fun _ _ _ _ _ _ _ _ _ _ _ _ => none) F n) (fun _ _ _ _ _ _ _ _ _ _ _ _ => rfl) (fun n _ _ _ _ _ _ _ _ _ _ _ _ => rfl) hf
end GLUE
end
section
theorem cell1 {X : XT} {F c s L a : Nat} (hX : xR X = { frames := F, cells := c, slots := s, locals := L }) (h1 : a ≤ c) : a ≤ (xR X).cells := by rw [hX]; exact h1
theorem cell2 {X : XT} {F c s L a : Nat} (hX : xR X = { frames := F, cells := c, slots := s, locals := L }) (h1 : a ≤ s) : a ≤ (xR X).slots := by rw [hX]; exact h1
theorem s_icmp_geC {X : XT} {own : String} {cc : ByteArray} {nL pc cells slots : Nat} {h : AH} {lv : List (Option Value)} {st : List Value} {ρ : Type} {r : ρ} (C : CX X own cc nL) {x y : Int32} {off : Int} {tgt : Nat} (d : decode cc pc = .ok (.if_icmp .ge off, 3)) (ht : (pc : Int) + off = (tgt : Int)) {A B : Option ρ} (hf : (if y ≤ x then A else B) = some r) (kt : y ≤ x → A = some r → WW X h cells slots tgt lv st) (kf : ¬ y ≤ x → B = some r → WW X h cells slots (pc + 3) lv st) : WW X h cells slots pc lv (.int y :: .int x :: st) :=
  fun H locs ls hR hS hl => lv_icmp_ge C.1 C.2.1 d ht (fun hc => kt hc (by rwa [if_pos hc] at hf) H locs ls hR hS hl) (fun hc => kf hc (by rwa [if_neg hc] at hf) H locs ls hR hS hl)
end
