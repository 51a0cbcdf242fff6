-- ===== PART A: goes FIRST, ahead of the names: the tables' words, and 'selects' of the private methods out of them =====
/-- a private method of a class that the tables say can be made, by its rows of tables_1 -/
def lw_okq (q : MethodName × Nat) : Prop := (q.1.cls ≠ "java/lang/invoke/MethodHandle" ∧ q.1.cls ≠ "java/lang/invoke/VarHandle") ∧ Cond.instantiable q.1.cls q.2 ∈ tables_1 ∧ Cond.privateMethod q.1 ∈ tables_1 ∧ Cond.instanceMethod q.1 ∈ tables_1
theorem lw_p0 : lw_okq (⟨"HillBoxes", "mayBeAsked", "(II)Z"⟩, 6) := ⟨⟨by decide +kernel, by decide +kernel⟩, List.mem_of_getElem? (i := 21) (by decide +kernel), List.mem_of_getElem? (i := 370) (by decide +kernel), List.mem_of_getElem? (i := 371) (by decide +kernel)⟩
theorem lw_p1 : lw_okq (⟨"HillBoxes$Rules", "work", "(I)I"⟩, 16) := ⟨⟨by decide +kernel, by decide +kernel⟩, List.mem_of_getElem? (i := 79) (by decide +kernel), List.mem_of_getElem? (i := 403) (by decide +kernel), List.mem_of_getElem? (i := 404) (by decide +kernel)⟩
theorem lw_p2 : lw_okq (⟨"HillBoxes$Rules", "numberOf", "(I)I"⟩, 16) := ⟨⟨by decide +kernel, by decide +kernel⟩, List.mem_of_getElem? (i := 79) (by decide +kernel), List.mem_of_getElem? (i := 407) (by decide +kernel), List.mem_of_getElem? (i := 408) (by decide +kernel)⟩
theorem lw_p3 : lw_okq (⟨"HillBoxes$Rules", "push", "(II)I"⟩, 16) := ⟨⟨by decide +kernel, by decide +kernel⟩, List.mem_of_getElem? (i := 79) (by decide +kernel), List.mem_of_getElem? (i := 430) (by decide +kernel), List.mem_of_getElem? (i := 431) (by decide +kernel)⟩
theorem lw_p4 : lw_okq (⟨"HillBoxes$Rules", "read", "(I)I"⟩, 16) := ⟨⟨by decide +kernel, by decide +kernel⟩, List.mem_of_getElem? (i := 79) (by decide +kernel), List.mem_of_getElem? (i := 434) (by decide +kernel), List.mem_of_getElem? (i := 435) (by decide +kernel)⟩
theorem lw_p5 : lw_okq (⟨"HillBoxes$Rules", "leavesLet", "(LHillBoxes$Finder;II)Z"⟩, 16) := ⟨⟨by decide +kernel, by decide +kernel⟩, List.mem_of_getElem? (i := 79) (by decide +kernel), List.mem_of_getElem? (i := 447) (by decide +kernel), List.mem_of_getElem? (i := 448) (by decide +kernel)⟩
theorem lw_p6 : lw_okq (⟨"HillBoxes$Rules", "isNearKnown", "(II)Z"⟩, 16) := ⟨⟨by decide +kernel, by decide +kernel⟩, List.mem_of_getElem? (i := 79) (by decide +kernel), List.mem_of_getElem? (i := 455) (by decide +kernel), List.mem_of_getElem? (i := 456) (by decide +kernel)⟩
theorem lw_p7 : lw_okq (⟨"HillBoxes$Rules", "isNearSecret", "(II)Z"⟩, 16) := ⟨⟨by decide +kernel, by decide +kernel⟩, List.mem_of_getElem? (i := 79) (by decide +kernel), List.mem_of_getElem? (i := 468) (by decide +kernel), List.mem_of_getElem? (i := 469) (by decide +kernel)⟩
theorem lw_p8 : lw_okq (⟨"HillBoxes", "ofFinder", "(LHillBoxes$Finder;I)I"⟩, 6) := ⟨⟨by decide +kernel, by decide +kernel⟩, List.mem_of_getElem? (i := 21) (by decide +kernel), List.mem_of_getElem? (i := 613) (by decide +kernel), List.mem_of_getElem? (i := 614) (by decide +kernel)⟩
theorem lw_p9 : lw_okq (⟨"HillBoxes", "ofThing", "(LHillBoxes$Thing;I)I"⟩, 6) := ⟨⟨by decide +kernel, by decide +kernel⟩, List.mem_of_getElem? (i := 21) (by decide +kernel), List.mem_of_getElem? (i := 623) (by decide +kernel), List.mem_of_getElem? (i := 624) (by decide +kernel)⟩
theorem lw_p10 : lw_okq (⟨"HillBoxes$Tape", "splitIntoTokens", "()V"⟩, 11) := ⟨⟨by decide +kernel, by decide +kernel⟩, List.mem_of_getElem? (i := 85) (by decide +kernel), List.mem_of_getElem? (i := 653) (by decide +kernel), List.mem_of_getElem? (i := 654) (by decide +kernel)⟩
theorem lw_p11 : lw_okq (⟨"HillBoxes$Tape", "skipBlanks", "()V"⟩, 11) := ⟨⟨by decide +kernel, by decide +kernel⟩, List.mem_of_getElem? (i := 85) (by decide +kernel), List.mem_of_getElem? (i := 657) (by decide +kernel), List.mem_of_getElem? (i := 658) (by decide +kernel)⟩
theorem lw_p12 : lw_okq (⟨"HillBoxes$Tape", "byteAt", "(I)I"⟩, 11) := ⟨⟨by decide +kernel, by decide +kernel⟩, List.mem_of_getElem? (i := 85) (by decide +kernel), List.mem_of_getElem? (i := 661) (by decide +kernel), List.mem_of_getElem? (i := 662) (by decide +kernel)⟩
theorem lw_p13 : lw_okq (⟨"HillBoxes$Tape", "readWord", "(I)V"⟩, 11) := ⟨⟨by decide +kernel, by decide +kernel⟩, List.mem_of_getElem? (i := 85) (by decide +kernel), List.mem_of_getElem? (i := 668) (by decide +kernel), List.mem_of_getElem? (i := 669) (by decide +kernel)⟩
theorem lw_p14 : lw_okq (⟨"HillBoxes$Tape", "wordNumber", "(II)I"⟩, 11) := ⟨⟨by decide +kernel, by decide +kernel⟩, List.mem_of_getElem? (i := 85) (by decide +kernel), List.mem_of_getElem? (i := 672) (by decide +kernel), List.mem_of_getElem? (i := 673) (by decide +kernel)⟩
theorem lw_p15 : lw_okq (⟨"HillBoxes$Tape", "isWord", "(III)Z"⟩, 11) := ⟨⟨by decide +kernel, by decide +kernel⟩, List.mem_of_getElem? (i := 85) (by decide +kernel), List.mem_of_getElem? (i := 725) (by decide +kernel), List.mem_of_getElem? (i := 726) (by decide +kernel)⟩
def lw_privs_1 : List (MethodName × Nat) := [(⟨"HillBoxes", "mayBeAsked", "(II)Z"⟩, 6), (⟨"HillBoxes$Rules", "work", "(I)I"⟩, 16), (⟨"HillBoxes$Rules", "numberOf", "(I)I"⟩, 16), (⟨"HillBoxes$Rules", "push", "(II)I"⟩, 16), (⟨"HillBoxes$Rules", "read", "(I)I"⟩, 16), (⟨"HillBoxes$Rules", "leavesLet", "(LHillBoxes$Finder;II)Z"⟩, 16), (⟨"HillBoxes$Rules", "isNearKnown", "(II)Z"⟩, 16), (⟨"HillBoxes$Rules", "isNearSecret", "(II)Z"⟩, 16), (⟨"HillBoxes", "ofFinder", "(LHillBoxes$Finder;I)I"⟩, 6), (⟨"HillBoxes", "ofThing", "(LHillBoxes$Thing;I)I"⟩, 6), (⟨"HillBoxes$Tape", "splitIntoTokens", "()V"⟩, 11), (⟨"HillBoxes$Tape", "skipBlanks", "()V"⟩, 11), (⟨"HillBoxes$Tape", "byteAt", "(I)I"⟩, 11), (⟨"HillBoxes$Tape", "readWord", "(I)V"⟩, 11), (⟨"HillBoxes$Tape", "wordNumber", "(II)I"⟩, 11), (⟨"HillBoxes$Tape", "isWord", "(III)Z"⟩, 11)]
theorem lw_r1 : ∀ q ∈ lw_privs_1, lw_okq q := List.forall_mem_cons.mpr ⟨lw_p0, List.forall_mem_cons.mpr ⟨lw_p1, List.forall_mem_cons.mpr ⟨lw_p2, List.forall_mem_cons.mpr ⟨lw_p3, List.forall_mem_cons.mpr ⟨lw_p4, List.forall_mem_cons.mpr ⟨lw_p5, List.forall_mem_cons.mpr ⟨lw_p6, List.forall_mem_cons.mpr ⟨lw_p7, List.forall_mem_cons.mpr ⟨lw_p8, List.forall_mem_cons.mpr ⟨lw_p9, List.forall_mem_cons.mpr ⟨lw_p10, List.forall_mem_cons.mpr ⟨lw_p11, List.forall_mem_cons.mpr ⟨lw_p12, List.forall_mem_cons.mpr ⟨lw_p13, List.forall_mem_cons.mpr ⟨lw_p14, List.forall_mem_cons.mpr ⟨lw_p15, fun _ h => absurd h List.not_mem_nil⟩⟩⟩⟩⟩⟩⟩⟩⟩⟩⟩⟩⟩⟩⟩⟩
theorem lw_p16 : lw_okq (⟨"HillBoxes$Tape", "readNumber", "(I)V"⟩, 11) := ⟨⟨by decide +kernel, by decide +kernel⟩, List.mem_of_getElem? (i := 85) (by decide +kernel), List.mem_of_getElem? (i := 732) (by decide +kernel), List.mem_of_getElem? (i := 733) (by decide +kernel)⟩
theorem lw_p17 : lw_okq (⟨"HillBoxes$Tape", "readLine", "()V"⟩, 11) := ⟨⟨by decide +kernel, by decide +kernel⟩, List.mem_of_getElem? (i := 85) (by decide +kernel), List.mem_of_getElem? (i := 792) (by decide +kernel), List.mem_of_getElem? (i := 793) (by decide +kernel)⟩
theorem lw_p18 : lw_okq (⟨"HillBoxes$Tape", "advance", "()V"⟩, 11) := ⟨⟨by decide +kernel, by decide +kernel⟩, List.mem_of_getElem? (i := 85) (by decide +kernel), List.mem_of_getElem? (i := 796) (by decide +kernel), List.mem_of_getElem? (i := 797) (by decide +kernel)⟩
theorem lw_p19 : lw_okq (⟨"HillBoxes$Tape", "readEither", "(I)V"⟩, 11) := ⟨⟨by decide +kernel, by decide +kernel⟩, List.mem_of_getElem? (i := 85) (by decide +kernel), List.mem_of_getElem? (i := 800) (by decide +kernel), List.mem_of_getElem? (i := 801) (by decide +kernel)⟩
theorem lw_p20 : lw_okq (⟨"HillBoxes$Tape", "readBoth", "(I)V"⟩, 11) := ⟨⟨by decide +kernel, by decide +kernel⟩, List.mem_of_getElem? (i := 85) (by decide +kernel), List.mem_of_getElem? (i := 804) (by decide +kernel), List.mem_of_getElem? (i := 805) (by decide +kernel)⟩
theorem lw_p21 : lw_okq (⟨"HillBoxes$Tape", "readDenied", "(I)V"⟩, 11) := ⟨⟨by decide +kernel, by decide +kernel⟩, List.mem_of_getElem? (i := 85) (by decide +kernel), List.mem_of_getElem? (i := 808) (by decide +kernel), List.mem_of_getElem? (i := 809) (by decide +kernel)⟩
theorem lw_p22 : lw_okq (⟨"HillBoxes$Tape", "mayOpen", "(I)Z"⟩, 11) := ⟨⟨by decide +kernel, by decide +kernel⟩, List.mem_of_getElem? (i := 85) (by decide +kernel), List.mem_of_getElem? (i := 812) (by decide +kernel), List.mem_of_getElem? (i := 813) (by decide +kernel)⟩
theorem lw_p23 : lw_okq (⟨"HillBoxes$Tape", "blame", "()V"⟩, 11) := ⟨⟨by decide +kernel, by decide +kernel⟩, List.mem_of_getElem? (i := 85) (by decide +kernel), List.mem_of_getElem? (i := 816) (by decide +kernel), List.mem_of_getElem? (i := 817) (by decide +kernel)⟩
theorem lw_p24 : lw_okq (⟨"HillBoxes$Tape", "readSum", "(I)V"⟩, 11) := ⟨⟨by decide +kernel, by decide +kernel⟩, List.mem_of_getElem? (i := 85) (by decide +kernel), List.mem_of_getElem? (i := 820) (by decide +kernel), List.mem_of_getElem? (i := 821) (by decide +kernel)⟩
theorem lw_p25 : lw_okq (⟨"HillBoxes$Tape", "readProduct", "(I)V"⟩, 11) := ⟨⟨by decide +kernel, by decide +kernel⟩, List.mem_of_getElem? (i := 85) (by decide +kernel), List.mem_of_getElem? (i := 824) (by decide +kernel), List.mem_of_getElem? (i := 825) (by decide +kernel)⟩
theorem lw_p26 : lw_okq (⟨"HillBoxes$Tape", "readOne", "(I)V"⟩, 11) := ⟨⟨by decide +kernel, by decide +kernel⟩, List.mem_of_getElem? (i := 85) (by decide +kernel), List.mem_of_getElem? (i := 828) (by decide +kernel), List.mem_of_getElem? (i := 829) (by decide +kernel)⟩
theorem lw_p27 : lw_okq (⟨"HillBoxes$Tape", "emit", "(I)V"⟩, 11) := ⟨⟨by decide +kernel, by decide +kernel⟩, List.mem_of_getElem? (i := 85) (by decide +kernel), List.mem_of_getElem? (i := 832) (by decide +kernel), List.mem_of_getElem? (i := 833) (by decide +kernel)⟩
theorem lw_p28 : lw_okq (⟨"HillBoxes$Tape", "expect", "(I)V"⟩, 11) := ⟨⟨by decide +kernel, by decide +kernel⟩, List.mem_of_getElem? (i := 85) (by decide +kernel), List.mem_of_getElem? (i := 836) (by decide +kernel), List.mem_of_getElem? (i := 837) (by decide +kernel)⟩
theorem lw_p29 : lw_okq (⟨"HillBoxes", "countBoxes", "(Z)I"⟩, 6) := ⟨⟨by decide +kernel, by decide +kernel⟩, List.mem_of_getElem? (i := 21) (by decide +kernel), List.mem_of_getElem? (i := 852) (by decide +kernel), List.mem_of_getElem? (i := 853) (by decide +kernel)⟩
theorem lw_p30 : lw_okq (⟨"HillBoxes", "countFinders", "(Z)I"⟩, 6) := ⟨⟨by decide +kernel, by decide +kernel⟩, List.mem_of_getElem? (i := 21) (by decide +kernel), List.mem_of_getElem? (i := 856) (by decide +kernel), List.mem_of_getElem? (i := 857) (by decide +kernel)⟩
def lw_privs_2 : List (MethodName × Nat) := [(⟨"HillBoxes$Tape", "readNumber", "(I)V"⟩, 11), (⟨"HillBoxes$Tape", "readLine", "()V"⟩, 11), (⟨"HillBoxes$Tape", "advance", "()V"⟩, 11), (⟨"HillBoxes$Tape", "readEither", "(I)V"⟩, 11), (⟨"HillBoxes$Tape", "readBoth", "(I)V"⟩, 11), (⟨"HillBoxes$Tape", "readDenied", "(I)V"⟩, 11), (⟨"HillBoxes$Tape", "mayOpen", "(I)Z"⟩, 11), (⟨"HillBoxes$Tape", "blame", "()V"⟩, 11), (⟨"HillBoxes$Tape", "readSum", "(I)V"⟩, 11), (⟨"HillBoxes$Tape", "readProduct", "(I)V"⟩, 11), (⟨"HillBoxes$Tape", "readOne", "(I)V"⟩, 11), (⟨"HillBoxes$Tape", "emit", "(I)V"⟩, 11), (⟨"HillBoxes$Tape", "expect", "(I)V"⟩, 11), (⟨"HillBoxes", "countBoxes", "(Z)I"⟩, 6), (⟨"HillBoxes", "countFinders", "(Z)I"⟩, 6)]
theorem lw_r2 : ∀ q ∈ lw_privs_2, lw_okq q := List.forall_mem_cons.mpr ⟨lw_p16, List.forall_mem_cons.mpr ⟨lw_p17, List.forall_mem_cons.mpr ⟨lw_p18, List.forall_mem_cons.mpr ⟨lw_p19, List.forall_mem_cons.mpr ⟨lw_p20, List.forall_mem_cons.mpr ⟨lw_p21, List.forall_mem_cons.mpr ⟨lw_p22, List.forall_mem_cons.mpr ⟨lw_p23, List.forall_mem_cons.mpr ⟨lw_p24, List.forall_mem_cons.mpr ⟨lw_p25, List.forall_mem_cons.mpr ⟨lw_p26, List.forall_mem_cons.mpr ⟨lw_p27, List.forall_mem_cons.mpr ⟨lw_p28, List.forall_mem_cons.mpr ⟨lw_p29, List.forall_mem_cons.mpr ⟨lw_p30, fun _ h => absurd h List.not_mem_nil⟩⟩⟩⟩⟩⟩⟩⟩⟩⟩⟩⟩⟩⟩⟩
def lw_privs : List (MethodName × Nat) := lw_privs_1 ++ (lw_privs_2)
def lw_tbl : List Cond := k2_sels lw_privs ++ tables_1
theorem lw_privs_ok : ∀ q ∈ lw_privs, lw_okq q := by
  show ∀ q ∈ lw_privs_1 ++ (lw_privs_2), lw_okq q
  exact List.forall_mem_append.mpr ⟨lw_r1, lw_r2⟩
def lw_xs : List Cond := []
def lw_big : List Cond := lw_xs ++ lw_tbl.filter goodWord
theorem big_good : GoodIn lw_big lw_big := fun w h => ⟨h, good_of_word ((List.mem_append.mp h).elim (fun h => by cases h) (fun h => (List.mem_filter.mp h).2))⟩
theorem big_hold {args : Array Value} {s : State} (h : ∀ w ∈ lw_tbl, w.before args s = true) : ∀ w ∈ lw_big, w.before args s = true := by
  intro w hw
  rcases List.mem_append.mp hw with hw | hw
  · cases hw
  · exact h w (List.mem_filter.mp hw).1
theorem big_at {w : Cond} (i : Nat) (h : tables_1[i]? = some w) (hg : goodWord w = true) : w ∈ lw_big := List.mem_append_right _ (List.mem_filter.mpr ⟨List.mem_append_right _ (List.mem_of_getElem? h), hg⟩)
theorem big_sel {w : Cond} (i : Nat) (h : (k2_sels lw_privs)[i]? = some w) (hg : goodWord w = true) : w ∈ lw_big := List.mem_append_right _ (List.mem_filter.mpr ⟨List.mem_append_left _ (List.mem_of_getElem? h), hg⟩)
theorem big_xs {w : Cond} (i : Nat) (h : lw_xs[i]? = some w) : w ∈ lw_big := List.mem_append_left _ (List.mem_of_getElem? h)
theorem tbl_at {w : Cond} (i : Nat) (h : tables_1[i]? = some w) : w ∈ lw_tbl := List.mem_append_right _ (List.mem_of_getElem? h)
theorem in_big {ws : List Cond} (ps : List Nat) (h : ws = ps.filterMap (fun i => tables_1[i]?)) (hg : ws.all goodWord = true) : ∀ w ∈ ws, w ∈ lw_big := by
  intro w hw
  have h1 := List.all_eq_true.mp hg w hw
  rw [h] at hw
  obtain ⟨i, -, hi⟩ := List.mem_filterMap.mp hw
  exact big_at i hi h1

/-- f, but v at every address of l -/
def vr_up {α : Type} (f : Nat → α) (l : List Nat) (v : α) : Nat → α := fun a => if a ∈ l then v else f a
theorem vr_up_in {α : Type} {f : Nat → α} {l : List Nat} {v : α} {a : Nat} (h : a ∈ l) : vr_up f l v a = v := if_pos h
theorem vr_up_ne {α : Type} {f : Nat → α} {l : List Nat} {v : α} {a : Nat} (h : a ∉ l) : vr_up f l v a = f a := if_neg h
theorem vr_rows {L l : List Nat} {f : Nat → va_E} {e : va_E} (h : ∀ a, a ∈ l → a ∉ L) : va_pl L f ++ l.map (fun a => (a, e)) = va_pl (L ++ l) (vr_up f l e) := by
  unfold va_pl
  rw [List.map_append]
  congr 1
  · apply List.map_congr_left
    intro a ha
    rw [vr_up_ne (fun q => h a q ha)]
  · apply List.map_congr_left
    intro a ha
    rw [vr_up_in ha]
theorem vr_lay {X rows : va_W} {x : Nat × va_E} {pl : va_W} {D : va_G} {cl : List vw_C} {H : Heap} (hP : va_P D cl (((X ++ pl) ++ [x]) ++ rows) H) : va_P D cl ((X ++ [x]) ++ (pl ++ rows)) H := by
  rw [List.append_assoc (X ++ pl)] at hP
  have h := va_P.swap hP
  rw [← List.append_assoc X] at h
  have h2 := va_P.swap h
  rw [List.append_assoc (X ++ [x])] at h2
  exact h2
theorem vr_layD {X rows : va_W} {x : Nat × va_E} {pl : va_W} {A : Nat → Prop} (hD : va_D A (((X ++ pl) ++ [x]) ++ rows)) : va_D A ((X ++ [x]) ++ (pl ++ rows)) := by
  rw [List.append_assoc (X ++ pl)] at hD
  have h := va_D.swap hD
  rw [← List.append_assoc X] at h
  have h2 := va_D.swap h
  rw [List.append_assoc (X ++ [x])] at h2
  exact h2
theorem vr_outer (c : ClassId) (N h0 : Nat) : ∀ i : Nat, Jvm.Free.Multi.outerC c N h0 i = arrV c N (fun j => va_rf (if j < i then some (h0 + 1 + j) else none))
  | 0 => by
    show ({ cls := c, slots := Array.replicate N .null, vm := .none } : Cell) = _
    rw [arrV_new]
    refine congrArg (arrV c N) (funext fun j => ?_)
    simp [va_rf]
  | i + 1 => by
    show (Jvm.Free.Multi.outerC c N h0 i).setSlot i (.ref (h0 + 1 + i)) = _
    rw [vr_outer c N h0 i, arrV_store]
    refine congrArg (arrV c N) (funext fun j => ?_)
    by_cases e : j = i
    · subst e
      simp [updV, va_rf]
    · by_cases h : j < i
      · simp [updV, e, h, Nat.lt_succ_of_lt h]
      · simp [updV, e, h, show ¬ j < i + 1 by omega]

def RX0 : String := "HillBoxes$Body"
def TX0 : u_T := fun k => match k with
  | _ => ("", "", "", false)
def tyX0 : Nat → FieldType := fun k => match k with
  | _ => .int
abbrev wsX00 : List Cond := u_ws RX0 TX0 0
theorem nmX0 : ∀ a, a < 0 → ∀ b, b < 0 → a ≠ b → (TX0 a).2.1 ≠ (TX0 b).2.1 := by decide +kernel
theorem tyX0_ok : ∀ k, k < 0 → parseFieldDescriptor (TX0 k).2.2.1 = some (tyX0 k) := by decide +kernel
abbrev cX0_init : ByteArray := prog_2_method_1_code
def yX0_init : MethodName := ⟨RX0, "<init>", "(II)V"⟩
def RX1 : String := "HillBoxes$Box"
def TX1 : u_T := fun k => match k with
  | 0 => ("HillBoxes$Body", "number", "I", true)
  | 1 => ("HillBoxes$Body", "kind", "I", true)
  | 2 => ("HillBoxes$Box", "hiddenOn", "I", true)
  | 3 => ("HillBoxes$Box", "hiddenAtCell", "I", true)
  | 4 => ("HillBoxes$Box", "steps", "[I", true)
  | 5 => ("HillBoxes$Box", "names", "[I", true)
  | 6 => ("HillBoxes$Box", "askers", "[I", true)
  | 7 => ("HillBoxes$Box", "riddle", "LHillBoxes$Riddle;", true)
  | 8 => ("HillBoxes$Box", "keeper", "I", false)
  | 9 => ("HillBoxes$Box", "cell", "I", false)
  | 10 => ("HillBoxes$Box", "stepCount", "I", false)
  | 11 => ("HillBoxes$Box", "downOn", "I", false)
  | 12 => ("HillBoxes$Box", "finds", "I", false)
  | 13 => ("HillBoxes$Box", "misses", "I", false)
  | 14 => ("HillBoxes$Box", "latestFound", "I", false)
  | 15 => ("HillBoxes$Box", "nameCount", "I", false)
  | 16 => ("HillBoxes$Box", "paperSeen", "Z", false)
  | 17 => ("HillBoxes$Box", "askerCount", "I", false)
  | _ => ("HillBoxes$Box", "lookedAt", "I", false)
def tyX1 : Nat → FieldType := fun k => match k with
  | 0 => .int
  | 1 => .int
  | 2 => .int
  | 3 => .int
  | 4 => .array .int
  | 5 => .array .int
  | 6 => .array .int
  | 7 => .object "HillBoxes$Riddle"
  | 8 => .int
  | 9 => .int
  | 10 => .int
  | 11 => .int
  | 12 => .int
  | 13 => .int
  | 14 => .int
  | 15 => .int
  | 16 => .boolean
  | 17 => .int
  | _ => .int
abbrev wsX10 : List Cond := u_ws RX1 TX1 19
theorem nmX1 : ∀ a, a < 19 → ∀ b, b < 19 → a ≠ b → (TX1 a).2.1 ≠ (TX1 b).2.1 := by decide +kernel
theorem tyX1_ok : ∀ k, k < 19 → parseFieldDescriptor (TX1 k).2.2.1 = some (tyX1 k) := by decide +kernel
abbrev cX1_init : ByteArray := prog_3_method_1_code
def yX1_init : MethodName := ⟨RX1, "<init>", "(IIIII)V"⟩
abbrev cX1_takeSteps : ByteArray := prog_3_method_2_code
def yX1_takeSteps : MethodName := ⟨RX1, "takeSteps", "([II)V"⟩
abbrev cX1_liesNow : ByteArray := prog_3_method_4_code
def yX1_liesNow : MethodName := ⟨RX1, "liesNow", "()I"⟩
abbrev cX1_isDown : ByteArray := prog_3_method_5_code
def yX1_isDown : MethodName := ⟨RX1, "isDown", "()Z"⟩
abbrev cX1_isOnPaper : ByteArray := prog_3_method_8_code
def yX1_isOnPaper : MethodName := ⟨RX1, "isOnPaper", "(I)Z"⟩
def RX2 : String := "HillBoxes$Finder"
def TX2 : u_T := fun k => match k with
  | 0 => ("HillBoxes$Body", "number", "I", true)
  | 1 => ("HillBoxes$Body", "kind", "I", true)
  | 2 => ("HillBoxes$Finder", "home", "I", true)
  | 3 => ("HillBoxes$Finder", "since", "I", true)
  | _ => ("HillBoxes$Finder", "leftOn", "I", false)
def tyX2 : Nat → FieldType := fun k => match k with
  | 0 => .int
  | 1 => .int
  | 2 => .int
  | 3 => .int
  | _ => .int
abbrev wsX20 : List Cond := u_ws RX2 TX2 5
theorem nmX2 : ∀ a, a < 5 → ∀ b, b < 5 → a ≠ b → (TX2 a).2.1 ≠ (TX2 b).2.1 := by decide +kernel
theorem tyX2_ok : ∀ k, k < 5 → parseFieldDescriptor (TX2 k).2.2.1 = some (tyX2 k) := by decide +kernel
abbrev cX2_init : ByteArray := prog_4_method_1_code
def yX2_init : MethodName := ⟨RX2, "<init>", "(III)V"⟩
abbrev cX2_hasLeft : ByteArray := prog_4_method_2_code
def yX2_hasLeft : MethodName := ⟨RX2, "hasLeft", "()Z"⟩
def RX3 : String := "HillBoxes$Hills"
def TX3 : u_T := fun k => match k with
  | 0 => ("HillBoxes$Hills", "today", "I", false)
  | 1 => ("HillBoxes$Hills", "owners", "[I", true)
  | 2 => ("HillBoxes$Hills", "bodies", "[LHillBoxes$Body;", true)
  | 3 => ("HillBoxes$Hills", "size", "I", false)
  | 4 => ("HillBoxes$Hills", "steps", "[I", true)
  | 5 => ("HillBoxes$Hills", "stepCount", "I", false)
  | 6 => ("HillBoxes$Hills", "movedBox", "[I", true)
  | 7 => ("HillBoxes$Hills", "movedAt", "[I", true)
  | 8 => ("HillBoxes$Hills", "movedTo", "[I", true)
  | _ => ("HillBoxes$Hills", "moves", "I", false)
def tyX3 : Nat → FieldType := fun k => match k with
  | 0 => .int
  | 1 => .array .int
  | 2 => .array (.object "HillBoxes$Body")
  | 3 => .int
  | 4 => .array .int
  | 5 => .int
  | 6 => .array .int
  | 7 => .array .int
  | 8 => .array .int
  | _ => .int
abbrev wsX30 : List Cond := u_ws RX3 TX3 10
theorem nmX3 : ∀ a, a < 10 → ∀ b, b < 10 → a ≠ b → (TX3 a).2.1 ≠ (TX3 b).2.1 := by decide +kernel
theorem tyX3_ok : ∀ k, k < 10 → parseFieldDescriptor (TX3 k).2.2.1 = some (tyX3 k) := by decide +kernel
abbrev cX3_init : ByteArray := prog_5_method_1_code
def yX3_init : MethodName := ⟨RX3, "<init>", "()V"⟩
abbrev cX3_isFull : ByteArray := prog_5_method_2_code
def yX3_isFull : MethodName := ⟨RX3, "isFull", "()Z"⟩
abbrev cX3_enter : ByteArray := prog_5_method_3_code
def yX3_enter : MethodName := ⟨RX3, "enter", "(LHillBoxes$Body;)I"⟩
abbrev cX3_bodyAt : ByteArray := prog_5_method_4_code
def yX3_bodyAt : MethodName := ⟨RX3, "bodyAt", "(I)LHillBoxes$Body;"⟩
abbrev cX3_finderAt : ByteArray := prog_5_method_5_code
def yX3_finderAt : MethodName := ⟨RX3, "finderAt", "(I)LHillBoxes$Finder;"⟩
abbrev cX3_boxAt : ByteArray := prog_5_method_6_code
def yX3_boxAt : MethodName := ⟨RX3, "boxAt", "(I)LHillBoxes$Box;"⟩
abbrev cX3_ownOf : ByteArray := prog_5_method_8_code
def yX3_ownOf : MethodName := ⟨RX3, "ownOf", "(I)I"⟩
def RX4 : String := "HillBoxes$Logs"
def TX4 : u_T := fun k => match k with
  | 0 => ("HillBoxes$Logs", "finder", "[I", true)
  | 1 => ("HillBoxes$Logs", "found", "[Z", true)
  | 2 => ("HillBoxes$Logs", "size", "I", false)
  | 3 => ("HillBoxes$Logs", "tally", "[I", true)
  | 4 => ("HillBoxes$Logs", "box", "[I", true)
  | 5 => ("HillBoxes$Logs", "at", "[I", true)
  | 6 => ("HillBoxes$Logs", "tallied", "[Z", true)
  | 7 => ("HillBoxes$Logs", "hills", "LHillBoxes$Hills;", true)
  | _ => ("HillBoxes$Logs", "rules", "LHillBoxes$Rules;", true)
def tyX4 : Nat → FieldType := fun k => match k with
  | 0 => .array .int
  | 1 => .array .boolean
  | 2 => .int
  | 3 => .array .int
  | 4 => .array .int
  | 5 => .array .int
  | 6 => .array .boolean
  | 7 => .object "HillBoxes$Hills"
  | _ => .object "HillBoxes$Rules"
abbrev wsX40 : List Cond := u_ws RX4 TX4 9
theorem nmX4 : ∀ a, a < 9 → ∀ b, b < 9 → a ≠ b → (TX4 a).2.1 ≠ (TX4 b).2.1 := by decide +kernel
theorem tyX4_ok : ∀ k, k < 9 → parseFieldDescriptor (TX4 k).2.2.1 = some (tyX4 k) := by decide +kernel
abbrev cX4_init : ByteArray := prog_6_method_1_code
def yX4_init : MethodName := ⟨RX4, "<init>", "(LHillBoxes$Hills;LHillBoxes$Rules;)V"⟩
abbrev cX4_whereAfter : ByteArray := prog_6_method_18_code
def yX4_whereAfter : MethodName := ⟨RX4, "whereAfter", "(LHillBoxes$Thing;I)I"⟩
def RX5 : String := "HillBoxes$Riddle"
def TX5 : u_T := fun k => match k with
  | 0 => ("HillBoxes$Riddle", "solution", "I", false)
  | 1 => ("HillBoxes$Riddle", "solutionCell", "I", false)
  | 2 => ("HillBoxes$Riddle", "cells", "J", false)
  | 3 => ("HillBoxes$Riddle", "sorts", "[I", true)
  | 4 => ("HillBoxes$Riddle", "firsts", "[I", true)
  | 5 => ("HillBoxes$Riddle", "seconds", "[I", true)
  | 6 => ("HillBoxes$Riddle", "numbers", "[I", true)
  | 7 => ("HillBoxes$Riddle", "lasts", "[I", true)
  | 8 => ("HillBoxes$Riddle", "told", "I", false)
  | 9 => ("HillBoxes$Riddle", "letters", "I", false)
  | 10 => ("HillBoxes$Riddle", "x", "I", false)
  | 11 => ("HillBoxes$Riddle", "y", "I", false)
  | 12 => ("HillBoxes$Riddle", "digits", "[I", true)
  | 13 => ("HillBoxes$Riddle", "met", "I", false)
  | _ => ("HillBoxes$Riddle", "wanted", "I", false)
def tyX5 : Nat → FieldType := fun k => match k with
  | 0 => .int
  | 1 => .int
  | 2 => .long
  | 3 => .array .int
  | 4 => .array .int
  | 5 => .array .int
  | 6 => .array .int
  | 7 => .array .int
  | 8 => .int
  | 9 => .int
  | 10 => .int
  | 11 => .int
  | 12 => .array .int
  | 13 => .int
  | _ => .int
abbrev wsX50 : List Cond := u_ws RX5 TX5 15
theorem nmX5 : ∀ a, a < 15 → ∀ b, b < 15 → a ≠ b → (TX5 a).2.1 ≠ (TX5 b).2.1 := by decide +kernel
theorem tyX5_ok : ∀ k, k < 15 → parseFieldDescriptor (TX5 k).2.2.1 = some (tyX5 k) := by decide +kernel
abbrev cX5_init : ByteArray := prog_7_method_1_code
def yX5_init : MethodName := ⟨RX5, "<init>", "()V"⟩
def RX6 : String := "HillBoxes$Rules"
def TX6 : u_T := fun k => match k with
  | 0 => ("HillBoxes$Rules", "tape", "LHillBoxes$Tape;", true)
  | 1 => ("HillBoxes$Rules", "made", "I", false)
  | 2 => ("HillBoxes$Rules", "line", "I", false)
  | 3 => ("HillBoxes$Rules", "hills", "LHillBoxes$Hills;", true)
  | 4 => ("HillBoxes$Rules", "uses", "[I", true)
  | 5 => ("HillBoxes$Rules", "madeOn", "[I", true)
  | 6 => ("HillBoxes$Rules", "daysFrom", "[I", true)
  | 7 => ("HillBoxes$Rules", "codes", "[I", true)
  | 8 => ("HillBoxes$Rules", "codeLengths", "[I", true)
  | 9 => ("HillBoxes$Rules", "stack", "[I", true)
  | 10 => ("HillBoxes$Rules", "askedDay", "I", false)
  | 11 => ("HillBoxes$Rules", "askedFinder", "LHillBoxes$Finder;", false)
  | 12 => ("HillBoxes$Rules", "askedBox", "LHillBoxes$Box;", false)
  | 13 => ("HillBoxes$Rules", "askedKind", "I", false)
  | 14 => ("HillBoxes$Rules", "askedCell", "I", false)
  | _ => ("HillBoxes$Rules", "askedHour", "I", false)
def tyX6 : Nat → FieldType := fun k => match k with
  | 0 => .object "HillBoxes$Tape"
  | 1 => .int
  | 2 => .int
  | 3 => .object "HillBoxes$Hills"
  | 4 => .array .int
  | 5 => .array .int
  | 6 => .array .int
  | 7 => .array .int
  | 8 => .array .int
  | 9 => .array .int
  | 10 => .int
  | 11 => .object "HillBoxes$Finder"
  | 12 => .object "HillBoxes$Box"
  | 13 => .int
  | 14 => .int
  | _ => .int
abbrev wsX60 : List Cond := u_ws RX6 TX6 16
theorem nmX6 : ∀ a, a < 16 → ∀ b, b < 16 → a ≠ b → (TX6 a).2.1 ≠ (TX6 b).2.1 := by decide +kernel
theorem tyX6_ok : ∀ k, k < 16 → parseFieldDescriptor (TX6 k).2.2.1 = some (tyX6 k) := by decide +kernel
abbrev cX6_init : ByteArray := prog_8_method_1_code
def yX6_init : MethodName := ⟨RX6, "<init>", "(LHillBoxes$Hills;)V"⟩
abbrev cX6_isFull : ByteArray := prog_8_method_2_code
def yX6_isFull : MethodName := ⟨RX6, "isFull", "()Z"⟩
abbrev cX6_make : ByteArray := prog_8_method_4_code
def yX6_make : MethodName := ⟨RX6, "make", "(II)I"⟩
abbrev cX6_ruleFor : ByteArray := prog_8_method_5_code
def yX6_ruleFor : MethodName := ⟨RX6, "ruleFor", "(III)I"⟩
abbrev cX6_askForBox : ByteArray := prog_8_method_6_code
def yX6_askForBox : MethodName := ⟨RX6, "askForBox", "(ILHillBoxes$Finder;LHillBoxes$Box;I)V"⟩
abbrev cX6_askForKind : ByteArray := prog_8_method_7_code
def yX6_askForKind : MethodName := ⟨RX6, "askForKind", "(ILHillBoxes$Finder;II)V"⟩
abbrev cX6_answer : ByteArray := prog_8_method_8_code
def yX6_answer : MethodName := ⟨RX6, "answer", "(II)I"⟩
abbrev cX6_letsHide : ByteArray := prog_8_method_9_code
def yX6_letsHide : MethodName := ⟨RX6, "letsHide", "(LHillBoxes$Finder;II)Z"⟩
abbrev cX6_whyNot : ByteArray := prog_8_method_13_code
def yX6_whyNot : MethodName := ⟨RX6, "whyNot", "(LHillBoxes$Finder;II)I"⟩
abbrev cX6_leavesLet : ByteArray := prog_8_method_14_code
def yX6_leavesLet : MethodName := ⟨RX6, "leavesLet", "(LHillBoxes$Finder;II)Z"⟩
abbrev cX6_isNearKnown : ByteArray := prog_8_method_15_code
def yX6_isNearKnown : MethodName := ⟨RX6, "isNearKnown", "(II)Z"⟩
abbrev cX6_isNearSecret : ByteArray := prog_8_method_16_code
def yX6_isNearSecret : MethodName := ⟨RX6, "isNearSecret", "(II)Z"⟩
abbrev cX6_work : ByteArray := prog_8_method_17_code
def yX6_work : MethodName := ⟨RX6, "work", "(I)I"⟩
abbrev cX6_push : ByteArray := prog_8_method_18_code
def yX6_push : MethodName := ⟨RX6, "push", "(II)I"⟩
abbrev cX6_read : ByteArray := prog_8_method_19_code
def yX6_read : MethodName := ⟨RX6, "read", "(I)I"⟩
abbrev cX6_ofTwo : ByteArray := prog_8_method_20_code
def yX6_ofTwo : MethodName := ⟨RX6, "ofTwo", "(III)I"⟩
abbrev cX6_numberOf : ByteArray := prog_8_method_21_code
def yX6_numberOf : MethodName := ⟨RX6, "numberOf", "(I)I"⟩
def RX7 : String := "HillBoxes$Shelf"
def TX7 : u_T := fun k => match k with
  | 0 => ("HillBoxes$Shelf", "body", "LHillBoxes$Body;", false)
  | 1 => ("HillBoxes$Shelf", "isRow", "Z", false)
  | 2 => ("HillBoxes$Shelf", "sort", "I", false)
  | 3 => ("HillBoxes$Shelf", "size", "I", false)
  | _ => ("HillBoxes$Shelf", "elements", "[J", true)
def tyX7 : Nat → FieldType := fun k => match k with
  | 0 => .object "HillBoxes$Body"
  | 1 => .boolean
  | 2 => .int
  | 3 => .int
  | _ => .array .long
abbrev wsX70 : List Cond := u_ws RX7 TX7 5
theorem nmX7 : ∀ a, a < 5 → ∀ b, b < 5 → a ≠ b → (TX7 a).2.1 ≠ (TX7 b).2.1 := by decide +kernel
theorem tyX7_ok : ∀ k, k < 5 → parseFieldDescriptor (TX7 k).2.2.1 = some (tyX7 k) := by decide +kernel
abbrev cX7_init : ByteArray := prog_9_method_1_code
def yX7_init : MethodName := ⟨RX7, "<init>", "()V"⟩
def RX8 : String := "HillBoxes$Tape"
def TX8 : u_T := fun k => match k with
  | 0 => ("HillBoxes$Tape", "length", "I", false)
  | 1 => ("HillBoxes$Tape", "bytes", "[I", true)
  | 2 => ("HillBoxes$Tape", "tokens", "[I", true)
  | 3 => ("HillBoxes$Tape", "places", "[I", true)
  | 4 => ("HillBoxes$Tape", "values", "[I", true)
  | 5 => ("HillBoxes$Tape", "at", "I", false)
  | 6 => ("HillBoxes$Tape", "token", "I", false)
  | 7 => ("HillBoxes$Tape", "tokenNumber", "I", false)
  | 8 => ("HillBoxes$Tape", "fault", "I", false)
  | 9 => ("HillBoxes$Tape", "code", "[I", true)
  | _ => ("HillBoxes$Tape", "codeLength", "I", false)
def tyX8 : Nat → FieldType := fun k => match k with
  | 0 => .int
  | 1 => .array .int
  | 2 => .array .int
  | 3 => .array .int
  | 4 => .array .int
  | 5 => .int
  | 6 => .int
  | 7 => .int
  | 8 => .int
  | 9 => .array .int
  | _ => .int
abbrev wsX80 : List Cond := u_ws RX8 TX8 11
theorem nmX8 : ∀ a, a < 11 → ∀ b, b < 11 → a ≠ b → (TX8 a).2.1 ≠ (TX8 b).2.1 := by decide +kernel
theorem tyX8_ok : ∀ k, k < 11 → parseFieldDescriptor (TX8 k).2.2.1 = some (tyX8 k) := by decide +kernel
abbrev cX8_init : ByteArray := prog_10_method_1_code
def yX8_init : MethodName := ⟨RX8, "<init>", "()V"⟩
abbrev cX8_hasRoomFor : ByteArray := prog_10_method_2_code
def yX8_hasRoomFor : MethodName := ⟨RX8, "hasRoomFor", "(I)Z"⟩
abbrev cX8_append : ByteArray := prog_10_method_3_code
def yX8_append : MethodName := ⟨RX8, "append", "(I)V"⟩
abbrev cX8_copyCode : ByteArray := prog_10_method_4_code
def yX8_copyCode : MethodName := ⟨RX8, "copyCode", "([II)I"⟩
abbrev cX8_compile : ByteArray := prog_10_method_5_code
def yX8_compile : MethodName := ⟨RX8, "compile", "()I"⟩
abbrev cX8_blame : ByteArray := prog_10_method_6_code
def yX8_blame : MethodName := ⟨RX8, "blame", "()V"⟩
abbrev cX8_emit : ByteArray := prog_10_method_7_code
def yX8_emit : MethodName := ⟨RX8, "emit", "(I)V"⟩
abbrev cX8_readLine : ByteArray := prog_10_method_8_code
def yX8_readLine : MethodName := ⟨RX8, "readLine", "()V"⟩
abbrev cX8_expect : ByteArray := prog_10_method_9_code
def yX8_expect : MethodName := ⟨RX8, "expect", "(I)V"⟩
abbrev cX8_readEither : ByteArray := prog_10_method_10_code
def yX8_readEither : MethodName := ⟨RX8, "readEither", "(I)V"⟩
abbrev cX8_readBoth : ByteArray := prog_10_method_11_code
def yX8_readBoth : MethodName := ⟨RX8, "readBoth", "(I)V"⟩
abbrev cX8_readDenied : ByteArray := prog_10_method_12_code
def yX8_readDenied : MethodName := ⟨RX8, "readDenied", "(I)V"⟩
abbrev cX8_readSum : ByteArray := prog_10_method_13_code
def yX8_readSum : MethodName := ⟨RX8, "readSum", "(I)V"⟩
abbrev cX8_readProduct : ByteArray := prog_10_method_14_code
def yX8_readProduct : MethodName := ⟨RX8, "readProduct", "(I)V"⟩
abbrev cX8_readOne : ByteArray := prog_10_method_15_code
def yX8_readOne : MethodName := ⟨RX8, "readOne", "(I)V"⟩
abbrev cX8_mayOpen : ByteArray := prog_10_method_16_code
def yX8_mayOpen : MethodName := ⟨RX8, "mayOpen", "(I)Z"⟩
abbrev cX8_advance : ByteArray := prog_10_method_17_code
def yX8_advance : MethodName := ⟨RX8, "advance", "()V"⟩
abbrev cX8_splitIntoTokens : ByteArray := prog_10_method_18_code
def yX8_splitIntoTokens : MethodName := ⟨RX8, "splitIntoTokens", "()V"⟩
abbrev cX8_skipBlanks : ByteArray := prog_10_method_19_code
def yX8_skipBlanks : MethodName := ⟨RX8, "skipBlanks", "()V"⟩
abbrev cX8_byteAt : ByteArray := prog_10_method_20_code
def yX8_byteAt : MethodName := ⟨RX8, "byteAt", "(I)I"⟩
abbrev cX8_isLetter : ByteArray := prog_10_method_21_code
def yX8_isLetter : MethodName := ⟨RX8, "isLetter", "(I)Z"⟩
abbrev cX8_isDigit : ByteArray := prog_10_method_22_code
def yX8_isDigit : MethodName := ⟨RX8, "isDigit", "(I)Z"⟩
abbrev cX8_readNumber : ByteArray := prog_10_method_23_code
def yX8_readNumber : MethodName := ⟨RX8, "readNumber", "(I)V"⟩
abbrev cX8_readWord : ByteArray := prog_10_method_24_code
def yX8_readWord : MethodName := ⟨RX8, "readWord", "(I)V"⟩
abbrev cX8_wordNumber : ByteArray := prog_10_method_25_code
def yX8_wordNumber : MethodName := ⟨RX8, "wordNumber", "(II)I"⟩
abbrev cX8_isWord : ByteArray := prog_10_method_26_code
def yX8_isWord : MethodName := ⟨RX8, "isWord", "(III)Z"⟩
def RX9 : String := "HillBoxes$Thing"
def TX9 : u_T := fun k => match k with
  | _ => ("", "", "", false)
def tyX9 : Nat → FieldType := fun k => match k with
  | _ => .int
abbrev wsX90 : List Cond := u_ws RX9 TX9 0
theorem nmX9 : ∀ a, a < 0 → ∀ b, b < 0 → a ≠ b → (TX9 a).2.1 ≠ (TX9 b).2.1 := by decide +kernel
theorem tyX9_ok : ∀ k, k < 0 → parseFieldDescriptor (TX9 k).2.2.1 = some (tyX9 k) := by decide +kernel
def RX10 : String := "HillBoxes$Walks"
def TX10 : u_T := fun k => match k with
  | 0 => ("HillBoxes$Walks", "wishes", "I", false)
  | 1 => ("HillBoxes$Walks", "walkedHours", "I", false)
  | 2 => ("HillBoxes$Walks", "walkedCount", "I", false)
  | 3 => ("HillBoxes$Walks", "walked", "[I", true)
  | 4 => ("HillBoxes$Walks", "boxes", "[LHillBoxes$Box;", true)
  | 5 => ("HillBoxes$Walks", "worths", "[I", true)
  | 6 => ("HillBoxes$Walks", "stays", "[I", true)
  | 7 => ("HillBoxes$Walks", "row", "[I", true)
  | 8 => ("HillBoxes$Walks", "rowCount", "I", false)
  | 9 => ("HillBoxes$Walks", "best", "[I", true)
  | 10 => ("HillBoxes$Walks", "bestCount", "I", false)
  | 11 => ("HillBoxes$Walks", "bestWorth", "I", false)
  | 12 => ("HillBoxes$Walks", "bestHours", "I", false)
  | 13 => ("HillBoxes$Walks", "home", "I", false)
  | 14 => ("HillBoxes$Walks", "setOutHour", "I", false)
  | _ => ("HillBoxes$Walks", "limit", "I", false)
def tyX10 : Nat → FieldType := fun k => match k with
  | 0 => .int
  | 1 => .int
  | 2 => .int
  | 3 => .array .int
  | 4 => .array (.object "HillBoxes$Box")
  | 5 => .array .int
  | 6 => .array .int
  | 7 => .array .int
  | 8 => .int
  | 9 => .array .int
  | 10 => .int
  | 11 => .int
  | 12 => .int
  | 13 => .int
  | 14 => .int
  | _ => .int
abbrev wsX100 : List Cond := u_ws RX10 TX10 16
theorem nmX10 : ∀ a, a < 16 → ∀ b, b < 16 → a ≠ b → (TX10 a).2.1 ≠ (TX10 b).2.1 := by decide +kernel
theorem tyX10_ok : ∀ k, k < 16 → parseFieldDescriptor (TX10 k).2.2.1 = some (tyX10 k) := by decide +kernel
abbrev cX10_init : ByteArray := prog_12_method_1_code
def yX10_init : MethodName := ⟨RX10, "<init>", "()V"⟩
def RX11 : String := "HillBoxes"
def TX11 : u_T := fun k => match k with
  | 0 => ("HillBoxes", "hills", "LHillBoxes$Hills;", true)
  | 1 => ("HillBoxes", "rules", "LHillBoxes$Rules;", true)
  | 2 => ("HillBoxes", "logs", "LHillBoxes$Logs;", true)
  | 3 => ("HillBoxes", "walks", "LHillBoxes$Walks;", true)
  | 4 => ("HillBoxes", "shelves", "[LHillBoxes$Shelf;", true)
  | _ => ("HillBoxes", "trace", "[I", true)
def tyX11 : Nat → FieldType := fun k => match k with
  | 0 => .object "HillBoxes$Hills"
  | 1 => .object "HillBoxes$Rules"
  | 2 => .object "HillBoxes$Logs"
  | 3 => .object "HillBoxes$Walks"
  | 4 => .array (.object "HillBoxes$Shelf")
  | _ => .array .int
abbrev wsX110 : List Cond := u_ws RX11 TX11 6
theorem nmX11 : ∀ a, a < 6 → ∀ b, b < 6 → a ≠ b → (TX11 a).2.1 ≠ (TX11 b).2.1 := by decide +kernel
theorem tyX11_ok : ∀ k, k < 6 → parseFieldDescriptor (TX11 k).2.2.1 = some (tyX11 k) := by decide +kernel
abbrev cX11_init : ByteArray := prog_1_method_1_code
def yX11_init : MethodName := ⟨RX11, "<init>", "()V"⟩
abbrev cX11_owner : ByteArray := prog_1_method_3_code
def yX11_owner : MethodName := ⟨RX11, "owner", "(II)I"⟩
abbrev cX11_finder : ByteArray := prog_1_method_5_code
def yX11_finder : MethodName := ⟨RX11, "finder", "(I)I"⟩
abbrev cX11_step : ByteArray := prog_1_method_7_code
def yX11_step : MethodName := ⟨RX11, "step", "(I)I"⟩
abbrev cX11_why : ByteArray := prog_1_method_8_code
def yX11_why : MethodName := ⟨RX11, "why", "(IIII)I"⟩
abbrev cX11_hide : ByteArray := prog_1_method_9_code
def yX11_hide : MethodName := ⟨RX11, "hide", "(III)I"⟩
abbrev cX11_down : ByteArray := prog_1_method_11_code
def yX11_down : MethodName := ⟨RX11, "down", "(I)I"⟩
abbrev cX11_ofBody : ByteArray := prog_1_method_12_code
def yX11_ofBody : MethodName := ⟨RX11, "ofBody", "(II)I"⟩
abbrev cX11_feed : ByteArray := prog_1_method_14_code
def yX11_feed : MethodName := ⟨RX11, "feed", "(II)I"⟩
abbrev cX11_rule : ByteArray := prog_1_method_15_code
def yX11_rule : MethodName := ⟨RX11, "rule", "(II)I"⟩
abbrev cX11_count : ByteArray := prog_1_method_53_code
def yX11_count : MethodName := ⟨RX11, "count", "(I)I"⟩
abbrev cX11_isCell : ByteArray := prog_1_method_54_code
def yX11_isCell : MethodName := ⟨RX11, "isCell", "(I)Z"⟩
abbrev cX11_isDay : ByteArray := prog_1_method_55_code
def yX11_isDay : MethodName := ⟨RX11, "isDay", "(I)Z"⟩
abbrev cX11_isUse : ByteArray := prog_1_method_56_code
def yX11_isUse : MethodName := ⟨RX11, "isUse", "(I)Z"⟩
abbrev cX11_isKindOfBox : ByteArray := prog_1_method_57_code
def yX11_isKindOfBox : MethodName := ⟨RX11, "isKindOfBox", "(I)Z"⟩
abbrev cX11_far : ByteArray := prog_1_method_58_code
def yX11_far : MethodName := ⟨RX11, "far", "(II)I"⟩
abbrev cX11_mayBeAsked : ByteArray := prog_1_method_61_code
def yX11_mayBeAsked : MethodName := ⟨RX11, "mayBeAsked", "(II)Z"⟩
abbrev cX11_asToldToTheAsker : ByteArray := prog_1_method_62_code
def yX11_asToldToTheAsker : MethodName := ⟨RX11, "asToldToTheAsker", "(I)I"⟩
abbrev cX11_ofFinder : ByteArray := prog_1_method_64_code
def yX11_ofFinder : MethodName := ⟨RX11, "ofFinder", "(LHillBoxes$Finder;I)I"⟩
abbrev cX11_ofBox : ByteArray := prog_1_method_65_code
def yX11_ofBox : MethodName := ⟨RX11, "ofBox", "(LHillBoxes$Box;I)I"⟩
abbrev cX11_ofThing : ByteArray := prog_1_method_66_code
def yX11_ofThing : MethodName := ⟨RX11, "ofThing", "(LHillBoxes$Thing;I)I"⟩
abbrev cX11_countBoxes : ByteArray := prog_1_method_71_code
def yX11_countBoxes : MethodName := ⟨RX11, "countBoxes", "(Z)I"⟩
abbrev cX11_countFinders : ByteArray := prog_1_method_72_code
def yX11_countFinders : MethodName := ⟨RX11, "countFinders", "(Z)I"⟩
def RX12 : String := "HillBoxesModel"
def TX12 : u_T := fun k => match k with
  | _ => ("", "", "", false)
def tyX12 : Nat → FieldType := fun k => match k with
  | _ => .int
abbrev wsX120 : List Cond := u_ws RX12 TX12 0
theorem nmX12 : ∀ a, a < 0 → ∀ b, b < 0 → a ≠ b → (TX12 a).2.1 ≠ (TX12 b).2.1 := by decide +kernel
theorem tyX12_ok : ∀ k, k < 0 → parseFieldDescriptor (TX12 k).2.2.1 = some (tyX12 k) := by decide +kernel
def RJx145de : String := "java/io/Serializable"
def TJx145de : u_T := fun k => match k with
  | _ => ("", "", "", false)
def tyJx145de : Nat → FieldType := fun k => match k with
  | _ => .int
abbrev wsJx145de0 : List Cond := u_ws RJx145de TJx145de 0
theorem nmJx145de : ∀ a, a < 0 → ∀ b, b < 0 → a ≠ b → (TJx145de a).2.1 ≠ (TJx145de b).2.1 := by decide +kernel
theorem tyJx145de_ok : ∀ k, k < 0 → parseFieldDescriptor (TJx145de k).2.2.1 = some (tyJx145de k) := by decide +kernel
def RJx9f9b0 : String := "java/lang/CharSequence"
def TJx9f9b0 : u_T := fun k => match k with
  | _ => ("", "", "", false)
def tyJx9f9b0 : Nat → FieldType := fun k => match k with
  | _ => .int
abbrev wsJx9f9b00 : List Cond := u_ws RJx9f9b0 TJx9f9b0 0
theorem nmJx9f9b0 : ∀ a, a < 0 → ∀ b, b < 0 → a ≠ b → (TJx9f9b0 a).2.1 ≠ (TJx9f9b0 b).2.1 := by decide +kernel
theorem tyJx9f9b0_ok : ∀ k, k < 0 → parseFieldDescriptor (TJx9f9b0 k).2.2.1 = some (tyJx9f9b0 k) := by decide +kernel
def RJ11 : String := "java/lang/Character"
def TJ11 : u_T := fun k => match k with
  | _ => ("", "", "", false)
def tyJ11 : Nat → FieldType := fun k => match k with
  | _ => .int
abbrev wsJ110 : List Cond := u_ws RJ11 TJ11 0
theorem nmJ11 : ∀ a, a < 0 → ∀ b, b < 0 → a ≠ b → (TJ11 a).2.1 ≠ (TJ11 b).2.1 := by decide +kernel
theorem tyJ11_ok : ∀ k, k < 0 → parseFieldDescriptor (TJ11 k).2.2.1 = some (tyJ11 k) := by decide +kernel
abbrev cJ11_isValidCodePoint_9a6ad : ByteArray := prog_15_method_11_code
def yJ11_isValidCodePoint_9a6ad : MethodName := ⟨RJ11, "isValidCodePoint", "(I)Z"⟩
abbrev cJ11_highSurrogate_5068e : ByteArray := prog_15_method_28_code
def yJ11_highSurrogate_5068e : MethodName := ⟨RJ11, "highSurrogate", "(I)C"⟩
abbrev cJ11_lowSurrogate_5068e : ByteArray := prog_15_method_29_code
def yJ11_lowSurrogate_5068e : MethodName := ⟨RJ11, "lowSurrogate", "(I)C"⟩
def RJxb160c : String := "java/lang/Comparable"
def TJxb160c : u_T := fun k => match k with
  | _ => ("", "", "", false)
def tyJxb160c : Nat → FieldType := fun k => match k with
  | _ => .int
abbrev wsJxb160c0 : List Cond := u_ws RJxb160c TJxb160c 0
theorem nmJxb160c : ∀ a, a < 0 → ∀ b, b < 0 → a ≠ b → (TJxb160c a).2.1 ≠ (TJxb160c b).2.1 := by decide +kernel
theorem tyJxb160c_ok : ∀ k, k < 0 → parseFieldDescriptor (TJxb160c k).2.2.1 = some (tyJxb160c k) := by decide +kernel
def RJ9 : String := "java/lang/Math"
def TJ9 : u_T := fun k => match k with
  | _ => ("", "", "", false)
def tyJ9 : Nat → FieldType := fun k => match k with
  | _ => .int
abbrev wsJ90 : List Cond := u_ws RJ9 TJ9 0
theorem nmJ9 : ∀ a, a < 0 → ∀ b, b < 0 → a ≠ b → (TJ9 a).2.1 ≠ (TJ9 b).2.1 := by decide +kernel
theorem tyJ9_ok : ∀ k, k < 0 → parseFieldDescriptor (TJ9 k).2.2.1 = some (tyJ9 k) := by decide +kernel
abbrev cJ9_abs_0f7a4 : ByteArray := prog_16_method_59_code
def yJ9_abs_0f7a4 : MethodName := ⟨RJ9, "abs", "(I)I"⟩
abbrev cJ9_max_7cf53 : ByteArray := prog_16_method_65_code
def yJ9_max_7cf53 : MethodName := ⟨RJ9, "max", "(II)I"⟩
abbrev cJ9_min_7cf53 : ByteArray := prog_16_method_69_code
def yJ9_min_7cf53 : MethodName := ⟨RJ9, "min", "(II)I"⟩
def RJ0 : String := "java/lang/String"
def TJ0 : u_T := fun k => match k with
  | _ => ("", "", "", false)
def tyJ0 : Nat → FieldType := fun k => match k with
  | _ => .int
abbrev wsJ00 : List Cond := u_ws RJ0 TJ0 0
theorem nmJ0 : ∀ a, a < 0 → ∀ b, b < 0 → a ≠ b → (TJ0 a).2.1 ≠ (TJ0 b).2.1 := by decide +kernel
theorem tyJ0_ok : ∀ k, k < 0 → parseFieldDescriptor (TJ0 k).2.2.1 = some (tyJ0 k) := by decide +kernel
abbrev cJ0_length_8abf5 : ByteArray := prog_17_method_54_code
def yJ0_length_8abf5 : MethodName := ⟨RJ0, "length", "()I"⟩
abbrev cJ0_charAt_5068e : ByteArray := prog_17_method_56_code
def yJ0_charAt_5068e : MethodName := ⟨RJ0, "charAt", "(I)C"⟩
abbrev cJ0_indexOf_0f7a4 : ByteArray := prog_17_method_79_code
def yJ0_indexOf_0f7a4 : MethodName := ⟨RJ0, "indexOf", "(I)I"⟩
abbrev cJ0_indexOf_7cf53 : ByteArray := prog_17_method_80_code
def yJ0_indexOf_7cf53 : MethodName := ⟨RJ0, "indexOf", "(II)I"⟩
abbrev cJ0_coder_7d493 : ByteArray := prog_17_method_152_code
def yJ0_coder_7d493 : MethodName := ⟨RJ0, "coder", "()B"⟩
abbrev cJ0_isLatin1_aae02 : ByteArray := prog_17_method_154_code
def yJ0_isLatin1_aae02 : MethodName := ⟨RJ0, "isLatin1", "()Z"⟩
abbrev cJ0_checkIndex_df160 : ByteArray := prog_17_method_155_code
def yJ0_checkIndex_df160 : MethodName := ⟨RJ0, "checkIndex", "(II)V"⟩
abbrev cJ0_checkBoundsBeginEnd_23922 : ByteArray := prog_17_method_158_code
def yJ0_checkBoundsBeginEnd_23922 : MethodName := ⟨RJ0, "checkBoundsBeginEnd", "(III)V"⟩
def RJ1 : String := "java/lang/StringLatin1"
def TJ1 : u_T := fun k => match k with
  | _ => ("", "", "", false)
def tyJ1 : Nat → FieldType := fun k => match k with
  | _ => .int
abbrev wsJ10 : List Cond := u_ws RJ1 TJ1 0
theorem nmJ1 : ∀ a, a < 0 → ∀ b, b < 0 → a ≠ b → (TJ1 a).2.1 ≠ (TJ1 b).2.1 := by decide +kernel
theorem tyJ1_ok : ∀ k, k < 0 → parseFieldDescriptor (TJ1 k).2.2.1 = some (tyJ1 k) := by decide +kernel
abbrev cJ1_charAt_3b067 : ByteArray := prog_18_method_2_code
def yJ1_charAt_3b067 : MethodName := ⟨RJ1, "charAt", "([BI)C"⟩
abbrev cJ1_canEncode_9a6ad : ByteArray := prog_18_method_4_code
def yJ1_canEncode_9a6ad : MethodName := ⟨RJ1, "canEncode", "(I)Z"⟩
abbrev cJ1_indexOf_4cfef : ByteArray := prog_18_method_22_code
def yJ1_indexOf_4cfef : MethodName := ⟨RJ1, "indexOf", "([BIII)I"⟩
abbrev cJ1_indexOfChar_4cfef : ByteArray := prog_18_method_23_code
def yJ1_indexOfChar_4cfef : MethodName := ⟨RJ1, "indexOfChar", "([BIII)I"⟩
def RJ2 : String := "java/lang/StringUTF16"
def TJ2 : u_T := fun k => match k with
  | _ => ("", "", "", false)
def tyJ2 : Nat → FieldType := fun k => match k with
  | _ => .int
abbrev wsJ20 : List Cond := u_ws RJ2 TJ2 0
theorem nmJ2 : ∀ a, a < 0 → ∀ b, b < 0 → a ≠ b → (TJ2 a).2.1 ≠ (TJ2 b).2.1 := by decide +kernel
theorem tyJ2_ok : ∀ k, k < 0 → parseFieldDescriptor (TJ2 k).2.2.1 = some (tyJ2 k) := by decide +kernel
abbrev cJ2_getChar_3b067 : ByteArray := prog_19_method_5_code
def yJ2_getChar_3b067 : MethodName := ⟨RJ2, "getChar", "([BI)C"⟩
abbrev cJ2_length_9d52b : ByteArray := prog_19_method_6_code
def yJ2_length_9d52b : MethodName := ⟨RJ2, "length", "([B)I"⟩
abbrev cJ2_indexOf_4cfef : ByteArray := prog_19_method_40_code
def yJ2_indexOf_4cfef : MethodName := ⟨RJ2, "indexOf", "([BIII)I"⟩
abbrev cJ2_indexOfChar_4cfef : ByteArray := prog_19_method_47_code
def yJ2_indexOfChar_4cfef : MethodName := ⟨RJ2, "indexOfChar", "([BIII)I"⟩
abbrev cJ2_indexOfCharUnsafe_4cfef : ByteArray := prog_19_method_48_code
def yJ2_indexOfCharUnsafe_4cfef : MethodName := ⟨RJ2, "indexOfCharUnsafe", "([BIII)I"⟩
abbrev cJ2_indexOfSupplementary_4cfef : ByteArray := prog_19_method_49_code
def yJ2_indexOfSupplementary_4cfef : MethodName := ⟨RJ2, "indexOfSupplementary", "([BIII)I"⟩
abbrev cJ2_charAt_3b067 : ByteArray := prog_19_method_83_code
def yJ2_charAt_3b067 : MethodName := ⟨RJ2, "charAt", "([BI)C"⟩
abbrev cJ2_checkIndex_2214a : ByteArray := prog_19_method_91_code
def yJ2_checkIndex_2214a : MethodName := ⟨RJ2, "checkIndex", "(I[B)V"⟩
abbrev cJ2_checkBoundsBeginEnd_d044e : ByteArray := prog_19_method_93_code
def yJ2_checkBoundsBeginEnd_d044e : MethodName := ⟨RJ2, "checkBoundsBeginEnd", "(II[B)V"⟩
def RJ10 : String := "java/lang/System"
def TJ10 : u_T := fun k => match k with
  | _ => ("", "", "", false)
def tyJ10 : Nat → FieldType := fun k => match k with
  | _ => .int
abbrev wsJ100 : List Cond := u_ws RJ10 TJ10 0
theorem nmJ10 : ∀ a, a < 0 → ∀ b, b < 0 → a ≠ b → (TJ10 a).2.1 ≠ (TJ10 b).2.1 := by decide +kernel
theorem tyJ10_ok : ∀ k, k < 0 → parseFieldDescriptor (TJ10 k).2.2.1 = some (tyJ10 k) := by decide +kernel
def RJxfd54e : String := "java/lang/constant/Constable"
def TJxfd54e : u_T := fun k => match k with
  | _ => ("", "", "", false)
def tyJxfd54e : Nat → FieldType := fun k => match k with
  | _ => .int
abbrev wsJxfd54e0 : List Cond := u_ws RJxfd54e TJxfd54e 0
theorem nmJxfd54e : ∀ a, a < 0 → ∀ b, b < 0 → a ≠ b → (TJxfd54e a).2.1 ≠ (TJxfd54e b).2.1 := by decide +kernel
theorem tyJxfd54e_ok : ∀ k, k < 0 → parseFieldDescriptor (TJxfd54e k).2.2.1 = some (tyJxfd54e k) := by decide +kernel
def RJx3cf43 : String := "java/lang/constant/ConstantDesc"
def TJx3cf43 : u_T := fun k => match k with
  | _ => ("", "", "", false)
def tyJx3cf43 : Nat → FieldType := fun k => match k with
  | _ => .int
abbrev wsJx3cf430 : List Cond := u_ws RJx3cf43 TJx3cf43 0
theorem nmJx3cf43 : ∀ a, a < 0 → ∀ b, b < 0 → a ≠ b → (TJx3cf43 a).2.1 ≠ (TJx3cf43 b).2.1 := by decide +kernel
theorem tyJx3cf43_ok : ∀ k, k < 0 → parseFieldDescriptor (TJx3cf43 k).2.2.1 = some (tyJx3cf43 k) := by decide +kernel
def RJ7 : String := "java/util/Arrays"
def TJ7 : u_T := fun k => match k with
  | _ => ("", "", "", false)
def tyJ7 : Nat → FieldType := fun k => match k with
  | _ => .int
abbrev wsJ70 : List Cond := u_ws RJ7 TJ7 0
theorem nmJ7 : ∀ a, a < 0 → ∀ b, b < 0 → a ≠ b → (TJ7 a).2.1 ≠ (TJ7 b).2.1 := by decide +kernel
theorem tyJ7_ok : ∀ k, k < 0 → parseFieldDescriptor (TJ7 k).2.2.1 = some (tyJ7 k) := by decide +kernel
abbrev cJ7_fill_53178 : ByteArray := prog_21_method_103_code
def yJ7_fill_53178 : MethodName := ⟨RJ7, "fill", "([II)V"⟩
def RJ3 : String := "jdk/internal/util/Preconditions"
def TJ3 : u_T := fun k => match k with
  | _ => ("", "", "", false)
def tyJ3 : Nat → FieldType := fun k => match k with
  | _ => .int
abbrev wsJ30 : List Cond := u_ws RJ3 TJ3 0
theorem nmJ3 : ∀ a, a < 0 → ∀ b, b < 0 → a ≠ b → (TJ3 a).2.1 ≠ (TJ3 b).2.1 := by decide +kernel
theorem tyJ3_ok : ∀ k, k < 0 → parseFieldDescriptor (TJ3 k).2.2.1 = some (tyJ3 k) := by decide +kernel
abbrev cJ3_checkIndex_8e157 : ByteArray := prog_22_method_11_code
def yJ3_checkIndex_8e157 : MethodName := ⟨RJ3, "checkIndex", "(IILjava/util/function/BiFunction;)I"⟩
abbrev cJ3_checkFromToIndex_8c36e : ByteArray := prog_22_method_12_code
def yJ3_checkFromToIndex_8c36e : MethodName := ⟨RJ3, "checkFromToIndex", "(IIILjava/util/function/BiFunction;)I"⟩
def RL : String := "HillBoxesLaw"
abbrev cL_tell : ByteArray := method_2_code
def yL_tell : MethodName := ⟨RL, "tell", "(LHillBoxes;[II)Z"⟩
abbrev cL_cell : ByteArray := method_3_code
def yL_cell : MethodName := ⟨RL, "cell", "([II)I"⟩
abbrev cL_far : ByteArray := method_4_code
def yL_far : MethodName := ⟨RL, "far", "(II)I"⟩
abbrev cL_law : ByteArray := code
def yL_law : MethodName := ⟨RL, "law", "([I)Z"⟩
theorem inX0 : ∀ w ∈ wsX00, w ∈ lw_big := in_big [] (by decide +kernel) (by decide +kernel)
theorem inX1 : ∀ w ∈ wsX10, w ∈ lw_big := in_big [591, 592, 557, 559, 561, 563, 565, 567, 569, 571, 573, 575, 577, 579, 581, 583, 585, 587, 589] (by decide +kernel) (by decide +kernel)
theorem inX2 : ∀ w ∈ wsX20, w ∈ lw_big := in_big [347, 349, 341, 343, 345] (by decide +kernel) (by decide +kernel)
theorem inX3 : ∀ w ∈ wsX30, w ∈ lw_big := in_big [56, 58, 60, 62, 64, 66, 68, 70, 72, 74] (by decide +kernel) (by decide +kernel)
theorem inX4 : ∀ w ∈ wsX40, w ∈ lw_big := in_big [192, 194, 196, 198, 200, 202, 204, 206, 208] (by decide +kernel) (by decide +kernel)
theorem inX5 : ∀ w ∈ wsX50, w ∈ lw_big := in_big [498, 500, 502, 504, 506, 508, 510, 512, 514, 516, 518, 520, 522, 524, 526] (by decide +kernel) (by decide +kernel)
theorem inX6 : ∀ w ∈ wsX60, w ∈ lw_big := in_big [144, 146, 148, 150, 152, 154, 156, 158, 160, 162, 164, 166, 168, 170, 172, 174] (by decide +kernel) (by decide +kernel)
theorem inX7 : ∀ w ∈ wsX70, w ∈ lw_big := in_big [268, 270, 272, 274, 276] (by decide +kernel) (by decide +kernel)
theorem inX8 : ∀ w ∈ wsX80, w ∈ lw_big := in_big [103, 105, 107, 109, 111, 113, 115, 117, 119, 121, 123] (by decide +kernel) (by decide +kernel)
theorem inX9 : ∀ w ∈ wsX90, w ∈ lw_big := in_big [] (by decide +kernel) (by decide +kernel)
theorem inX10 : ∀ w ∈ wsX100, w ∈ lw_big := in_big [227, 229, 231, 233, 235, 237, 239, 241, 243, 245, 247, 249, 251, 253, 255, 257] (by decide +kernel) (by decide +kernel)
theorem inX11 : ∀ w ∈ wsX110, w ∈ lw_big := in_big [286, 288, 290, 292, 294, 296] (by decide +kernel) (by decide +kernel)
theorem inX12 : ∀ w ∈ wsX120, w ∈ lw_big := in_big [] (by decide +kernel) (by decide +kernel)
abbrev vwCl : List vw_C := [(RX1, TX1, 19), (RX2, TX2, 5), (RX3, TX3, 10), (RX4, TX4, 9), (RX5, TX5, 15), (RX6, TX6, 16), (RX7, TX7, 5), (RX8, TX8, 11), (RX10, TX10, 16), (RX11, TX11, 6)]
