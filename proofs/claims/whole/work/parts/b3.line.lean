/-! rule: the reference's lines -/
def SeL (N : Nat) (h h' : AH) : Prop := hS h' = hS h ∧ hL h' = hL h ∧ hR h' = hR h ∧ (∀ a, a ≠ 49 → a < 72 ∨ 77 < a → hI h' a = hI h a) ∧ (∀ k, k < 26 ∨ 32 < k → hI h' 49 k = hI h 49 k) ∧ (∀ k, k < N → hI h' 72 k = hI h 72 k) ∧ (∀ k, k < 81 * N → hI h' 73 k = hI h 73 k ∧ hI h' 74 k = hI h 74 k ∧ hI h' 75 k = hI h 75 k) ∧ ∀ k, k < 170 * N → hI h' 76 k = hI h 76 k ∧ hI h' 77 k = hI h 77 k
theorem SeL.refl (N : Nat) (h : AH) : SeL N h h := ⟨rfl, rfl, rfl, fun _ _ _ => rfl, fun _ _ => rfl, fun _ _ => rfl, fun _ _ => ⟨rfl, rfl, rfl⟩, fun _ _ => ⟨rfl, rfl⟩⟩
theorem SeL.trans {N : Nat} {h h1 h2 : AH} (s : SeL N h h1) (t : SeL N h1 h2) : SeL N h h2 := by
  obtain ⟨a1, a2, a3, a4, a5, a6, a7, a8⟩ := s
  obtain ⟨b1, b2, b3, b4, b5, b6, b7, b8⟩ := t
  exact ⟨b1.trans a1, b2.trans a2, b3.trans a3, fun a x y => (b4 a x y).trans (a4 a x y), fun k hk => (b5 k hk).trans (a5 k hk), fun k hk => (b6 k hk).trans (a6 k hk), fun k hk => ⟨(b7 k hk).1.trans (a7 k hk).1, (b7 k hk).2.1.trans (a7 k hk).2.1, (b7 k hk).2.2.trans (a7 k hk).2.2⟩, fun k hk => ⟨(b8 k hk).1.trans (a8 k hk).1, (b8 k hk).2.trans (a8 k hk).2⟩⟩
theorem Se.l {N : Nat} {h h' : AH} (s : Se N h h') : SeL N h h' := ⟨s.1, s.2.1, s.2.2.1, fun a x y => s.2.2.2.1 a x (by omega) (by omega), s.2.2.2.2.1, fun k _ => by rw [s.2.2.2.1 72 (by omega) (by omega) (by omega)], fun k _ => ⟨by rw [s.2.2.2.1 73 (by omega) (by omega) (by omega)], by rw [s.2.2.2.1 74 (by omega) (by omega) (by omega)], by rw [s.2.2.2.1 75 (by omega) (by omega) (by omega)]⟩, s.2.2.2.2.2⟩
theorem SeL.w {N : Nat} {h h' : AH} (s : SeL N h h') {a k : Nat} (hk : a = 72 ∧ k = N ∨ (a = 73 ∨ a = 74 ∨ a = 75) ∧ 81 * N ≤ k) (v : Int32) : SeL N h (wI h' a k v) := by
  obtain ⟨a1, a2, a3, a4, a5, a6, a7, a8⟩ := s
  have f : ∀ b j, (b ≠ a ∨ j ≠ k) → hI (wI h' a k v) b j = hI h' b j := fun b j hb => by rw [q_II, if_neg (by omega)]
  refine ⟨a1, a2, a3, fun b x y => ?_, fun j hj => ?_, fun j hj => ?_, fun j hj => ?_, fun j hj => ?_⟩
  · rw [q_ne (by omega)]; exact a4 b x y
  · rw [f _ _ (by omega)]; exact a5 j hj
  · rw [f _ _ (by omega)]; exact a6 j hj
  · rw [f _ _ (by omega), f _ _ (by omega), f _ _ (by omega)]; exact a7 j hj
  · rw [f _ _ (by omega), f _ _ (by omega)]; exact a8 j hj
theorem RM_o {h w : AH} (m : RM h w) {a : Nat} (h1 : 72 ≤ a) (h2 : a ≤ 77) (k : Nat) (v : Int32) : RM (wI h a k v) w := ⟨m.1, fun b j x1 x2 x3 x4 => by rw [q_ne (by omega)]; exact m.2.1 b j x1 x2 x3 x4, m.2.2⟩
theorem RM.seL {N : Nat} {h w h1 : AH} (m : RM h w) (s : SeL N h h1) : RM h1 w := by
  refine ⟨⟨fun a ha => by rw [s.1]; exact m.1.1 a ha, fun q hq => by rw [s.2.2.1]; exact m.1.2 q hq⟩, fun a k h1 h2 h3 h4 => ?_, fun a k h1 h2 h3 => by rw [s.2.1]; exact m.2.2 a k h1 h2 h3⟩
  by_cases c : a = 49
  · subst c
    rw [s.2.2.2.2.1 k (swI_49 h4)]
    exact m.2.1 49 k h1 h2 h3 h4
  · rw [s.2.2.2.1 a c h3]
    exact m.2.1 a k h1 h2 h3 h4
theorem RsT.o {w h0 hh : AH} {m r : Nat} {z : Int} {s : Prs} (C : RsT w h0 hh m r z s) {a : Nat} (h1 : 72 ≤ a) (h2 : a ≤ 75) (k : Nat) (v : Int32) : RsT w (wI hh a k v) (wI hh a k v) m r z s := by
  refine ⟨Se.refl _ _, ?_⟩
  have C := C.2
  have f49 : hI (wI hh a k v) 49 = hI hh 49 := q_ne (by omega)
  have f76 : hI (wI hh a k v) 76 = hI hh 76 := q_ne (by omega)
  have f77 : hI (wI hh a k v) 77 = hI hh 77 := q_ne (by omega)
  cases s with
  | error p => simp only [f49]; exact C
  | ok x => simp only [f49, f76, f77, TkF]; exact C
theorem flatP_snoc (q : Prog) (l : Line) : flatP (q ++ [l]) = flatP q ++ (l.2.1 ++ l.2.2) := by
  unfold flatP
  rw [List.flatMap_append]
  simp
theorem offP_le (q : Prog) (l : Line) {x : Nat} (hx : x ≤ q.length) : offP (q ++ [l]) x = offP q x := by
  unfold offP
  rw [List.take_append_of_le_length hx]
theorem offP_all (q : Prog) : offP q q.length = (flatP q).length := by
  unfold offP
  rw [List.take_length]
/-- the lines that stand in the rows -/
def RoL (w hh : AH) (q : Prog) : Prop := hI hh 72 (nT w) = nI q.length ∧ ∀ l, l < q.length → hI hh 73 (81 * nT w + l) = nI (q.getD l (0, [], [])).1 ∧ hI hh 74 (81 * nT w + l) = nI (offP q l + (q.getD l (0, [], [])).2.1.length) ∧ hI hh 75 (81 * nT w + l) = nI (offP q (l + 1))
theorem RoL.se {N : Nat} {w h h' : AH} {q : Prog} (r : RoL w h q) (s : Se N h h') : RoL w h' q := by
  unfold RoL
  rw [s.2.2.2.1 72 (by omega) (by omega) (by omega), s.2.2.2.1 73 (by omega) (by omega) (by omega), s.2.2.2.1 74 (by omega) (by omega) (by omega), s.2.2.2.1 75 (by omega) (by omega) (by omega)]
  exact r
theorem RoL.o {w h : AH} {q : Prog} (r : RoL w h q) {a : Nat} (ha : a = 73 ∨ a = 74 ∨ a = 75) {k : Nat} (hk : 81 * nT w + q.length ≤ k) (v : Int32) : RoL w (wI h a k v) q := by
  have f : ∀ b j, (b ≠ a ∨ j ≠ k) → hI (wI h a k v) b j = hI h b j := fun b j hb => by rw [q_II, if_neg (by omega)]
  refine ⟨by rw [f _ _ (by omega)]; exact r.1, fun l hl => ?_⟩
  rw [f _ _ (by omega), f _ _ (by omega), f _ _ (by omega)]
  exact r.2 l hl
theorem RoL.snoc {w h : AH} {q : Prog} (r : RoL w h q) (l : Line) (e73 : hI h 73 (81 * nT w + q.length) = nI l.1) (e74 : hI h 74 (81 * nT w + q.length) = nI ((flatP q).length + l.2.1.length)) (e75 : hI h 75 (81 * nT w + q.length) = nI (flatP (q ++ [l])).length) : RoL w (wI h 72 (nT w) (nI (q.length + 1))) (q ++ [l]) := by
  have ln : (q ++ [l]).length = q.length + 1 := by rw [List.length_append, List.length_singleton]
  refine ⟨by rw [q_at, ln], fun x hx => ?_⟩
  rw [q_ne (by decide), q_ne (by decide), q_ne (by decide), getD_snoc q l _ hx]
  rw [ln] at hx
  by_cases c : x < q.length
  · rw [if_pos c, offP_le q l (by omega), offP_le q l (by omega)]
    exact r.2 x c
  · have : x = q.length := by omega
    subst this
    rw [if_neg c, offP_le q l (Nat.le_refl _), offP_all]
    refine ⟨e73, e74, ?_⟩
    rw [e75, ← offP_all, ln]
def RlT (w h0 hh : AH) (m : Nat) (z : Int) (i : Nat) (q : Prog) : Prop := SeL (nT w) h0 hh ∧ RsT w hh hh m 6 z (.ok (i, flatP q)) ∧ RoL w hh q
def RlE (w h0 hh : AH) (m p : Nat) : Prop := SeL (nT w) h0 hh ∧ p ≤ m ∧ hI hh 49 30 = nI (plc w p)
noncomputable def ln_tail (x7 v1 v4 : Int32) (h12 : AH) : Option (Unit × AH) :=
      rO h12 [12] (some 49) <| cl (f_X12_either (some 49) h12) fun _ h13 =>
      fR h13 [12] (some 49) 38 fun v14 =>
      bI h13 22 v14 (((81 : Int32) * v1) + v4) (x7.toInt8.toInt32.toInt8.toInt32) fun h15 =>
      fR h15 [12] (some 49) 40 fun v16 =>
      fI h15 [12] (some 49) 32 fun v17 =>
      bI h15 21 v16 (((81 : Int32) * v1) + v4) (v17.toInt16.toInt32.toInt16.toInt32) fun h18 =>
      fR h18 [12] (some 49) 37 fun v19 =>
      fI h18 [12] (some 49) 33 fun v20 =>
      aI h18 20 v19 v20 fun v21 =>
      bI h18 20 v19 v20 (v21 + (1 : Int32)) fun h22 =>
      some ((), h22)
section
variable {h0 w : AH} {m : Nat}
set_option maxHeartbeats 4000000 in
theorem t_tail (m0 : RM h0 w) (wn : WN w) (nt : nT w < 20) (F : WF1 w) (Y : WBy w) (T : TkM w m) {hh : AH} {z : Int} (hz : 1 ≤ z) {i x : Nat} {q : Prog} {a : List Ins} (hx : x ≤ 2) (hq : q.length ≤ 80) (S : SeL (nT w) h0 hh) (C : RsT w hh hh m 6 z (.ok (i, flatP q ++ a))) (r : RoL w hh q) (e74 : hI hh 74 (81 * nT w + q.length) = nI ((flatP q).length + a.length)) : wp (ln_tail (nI x) (nI (nT w)) (nI q.length) hh) (fun _ h' => match pEi (tokS w) (tokV w) 7 6 i with
    | .error p => RlE w h0 h' m p
    | .ok (j, b) => RlT w h0 h' m z j (q ++ [(x, a, b)])) := by
  have m1 := m0.seL S
  have l := m1.1
  have em : (81 : Int32) * nI (nT w) + nI q.length = nI (81 * nT w + q.length) := by rw [show (81 : Int32) = nI 81 from rfl, nI_mul, nI_add]
  have cm : (nI (81 * nT w + q.length)).toNatClampNeg = 81 * nT w + q.length := nI_clamp (by omega)
  have ct : (nI (nT w)).toNatClampNeg = nT w := nI_clamp (by omega)
  have eq1 : nI q.length + 1 = nI (q.length + 1) := nI_add _ 1
  have x8 : (nI x).toInt8.toInt32.toInt8.toInt32 = nI x := by
    have : x = 0 ∨ x = 1 ∨ x = 2 := by omega
    rcases this with rfl | rfl | rfl <;> decide
  unfold ln_tail
  rw [wp_rO, wp_cl]
  refine ⟨(by simp (config := {decide := true, maxSteps := 5000000}) (disch := omega) only [q_okT, l.r49_2, l.r49_4, l.r49_5, l.r49_6, l.r49_7, l.r49_8, l.r49_9, l.r49_10, l.r49_12, l.r49_14, l.r49_15, l.r49_16, l.r49_18, l.r49_19, l.r49_20, l.r49_21, l.r49_22, l.r49_23, l.r49_24, l.r49_34, l.r49_35, l.r49_36, l.r49_37, l.r49_38, l.r49_39, l.r49_40, l.r49_41, l.r49_42, l.r49_43, l.r49_44, l.r49_46, l.r49_47, l.r49_48, l.r49_49, l.r49_50, l.r49_51, l.r49_59, l.r49_60, l.r49_61, l.r49_62, l.r49_63, l.r49_64, l.r49_66, l.r49_67, l.r49_68, l.r49_69, l.r49_70, l.r49_74, l.r49_80, l.r49_81, l.r49_82, l.r49_83, l.r49_85, l.r49_86, l.r49_87, l.r49_88, l.r49_89, l.s49, l.s50, l.s51, l.s52, l.s53, l.s54, l.s55, l.s56, l.s57, l.s58, l.s59, l.s60, l.s61, l.s62, l.s63, l.s64, l.s65, l.s66, l.s67, l.s68, l.s69, l.s70, l.s71, l.s72, l.s73, l.s74, l.s75, l.s76, l.s77, l.s78, l.s79, l.s80, l.s81, l.s82, l.s83, l.s84, l.s85, l.s86, l.s87, l.s88, l.s89, l.s90, l.s91, l.s92, l.s93, l.s94, l.s95, l.s96, l.s97, l.s98, l.s99, l.s100, l.s101, l.s102, l.s103, l.s104, l.s105, l.s106, List.contains_cons, List.contains_nil, beq_self_eq_true, Bool.true_or]), wp_mono (r_readEither m1 wn nt F Y T hz C) ?_⟩
  rintro _ h13 C13
  have m13 := C13.rm m1
  have l := m13.1
  have S13 := S.trans C13.1.l
  have r13 := r.se C13.1
  have e33 : hI h13 49 33 = nI (nT w) := by rw [m13.f33]; exact wn.t
  have main : ∀ L : Nat, L < 300 → hI h13 49 32 = nI L → (match pEi (tokS w) (tokV w) 7 6 i with
    | .error p => RlE w h0 (wI (wI (wI h13 73 (81 * nT w + q.length) (nI x)) 75 (81 * nT w + q.length) (nI L)) 72 (nT w) (nI (q.length + 1))) m p
    | .ok (j, b) => RlT w h0 (wI (wI (wI h13 73 (81 * nT w + q.length) (nI x)) 75 (81 * nT w + q.length) (nI L)) 72 (nT w) (nI (q.length + 1))) m z j (q ++ [(x, a, b)])) → wp (fR h13 [12] (some 49) 38 fun v14 =>
      bI h13 22 v14 (nI (81 * nT w + q.length)) (nI x) fun h15 =>
      fR h15 [12] (some 49) 40 fun v16 =>
      fI h15 [12] (some 49) 32 fun v17 =>
      bI h15 21 v16 (nI (81 * nT w + q.length)) (v17.toInt16.toInt32.toInt16.toInt32) fun h18 =>
      fR h18 [12] (some 49) 37 fun v19 =>
      fI h18 [12] (some 49) 33 fun v20 =>
      aI h18 20 v19 v20 fun v21 =>
      bI h18 20 v19 v20 (v21 + (1 : Int32)) fun h22 =>
      some ((), h22)) (fun _ h' => match pEi (tokS w) (tokV w) 7 6 i with
    | .error p => RlE w h0 h' m p
    | .ok (j, b) => RlT w h0 h' m z j (q ++ [(x, a, b)])) := by
    intro L hL e32 k
    have x16 : (nI L).toInt16.toInt32.toInt16.toInt32 = nI L := nI_16 L hL
    have e72 := r13.1
    simp (config := {decide := true, maxSteps := 5000000}) (disch := omega) only [↓reduceIte, ↓wp_some, ↓wp_none, wp_ite, ↓wp_cl, ↓wp_rz, ↓wp_nz, ↓wp_nzL, ↓wp_fI, ↓wp_fL, ↓wp_fR, ↓wp_pI, ↓wp_pL, ↓wp_pR, ↓wp_pZ, ↓wp_aI, ↓wp_aL, ↓wp_aR, ↓wp_bI, ↓wp_bL, ↓wp_bR, ↓wp_rO, ↓wp_cO, ↓wp_nO, ↓wp_iO, ↓wp_tbI, ↓wp_tbL, ↓wp_jn, q_okT, q_okA, q_gI, q_gL, q_gR, q_sI, q_sL, q_sR, q_SI, q_SL, q_SR, q_IL, q_IR, q_LI, q_LR, q_RI, q_RL, List.contains_cons, List.contains_nil, Nat.reduceBEq, Nat.reduceEqDiff, beq_self_eq_true, Bool.or_false, Bool.false_or, Bool.true_or, Bool.or_true, Bool.and_true, Bool.true_and, Bool.false_and, Bool.and_false, if_true, if_false, Bool.false_eq_true, true_and, and_true, false_and, and_false, and_self, not_true, not_false_iff, reduceCtorEq, forall_const, false_imp_iff, true_imp_iff, true_or, or_true, false_or, or_false, l.r49_2, l.r49_4, l.r49_5, l.r49_6, l.r49_7, l.r49_8, l.r49_9, l.r49_10, l.r49_12, l.r49_14, l.r49_15, l.r49_16, l.r49_18, l.r49_19, l.r49_20, l.r49_21, l.r49_22, l.r49_23, l.r49_24, l.r49_34, l.r49_35, l.r49_36, l.r49_37, l.r49_38, l.r49_39, l.r49_40, l.r49_41, l.r49_42, l.r49_43, l.r49_44, l.r49_46, l.r49_47, l.r49_48, l.r49_49, l.r49_50, l.r49_51, l.r49_59, l.r49_60, l.r49_61, l.r49_62, l.r49_63, l.r49_64, l.r49_66, l.r49_67, l.r49_68, l.r49_69, l.r49_70, l.r49_74, l.r49_80, l.r49_81, l.r49_82, l.r49_83, l.r49_85, l.r49_86, l.r49_87, l.r49_88, l.r49_89, l.s49, l.s50, l.s51, l.s52, l.s53, l.s54, l.s55, l.s56, l.s57, l.s58, l.s59, l.s60, l.s61, l.s62, l.s63, l.s64, l.s65, l.s66, l.s67, l.s68, l.s69, l.s70, l.s71, l.s72, l.s73, l.s74, l.s75, l.s76, l.s77, l.s78, l.s79, l.s80, l.s81, l.s82, l.s83, l.s84, l.s85, l.s86, l.s87, l.s88, l.s89, l.s90, l.s91, l.s92, l.s93, l.s94, l.s95, l.s96, l.s97, l.s98, l.s99, l.s100, l.s101, l.s102, l.s103, l.s104, l.s105, l.s106, cm, q_ne, e32, x16, e33, ct, e72, eq1, nI_neg, dle, decide_false, Bool.not_false]
    exact k
  rw [em, x8]
  have f : ∀ (L : Nat) b j, (b ≠ 72 ∨ j ≠ nT w) → (b ≠ 73 ∨ j ≠ 81 * nT w + q.length) → (b ≠ 75 ∨ j ≠ 81 * nT w + q.length) → hI (wI (wI (wI h13 73 (81 * nT w + q.length) (nI x)) 75 (81 * nT w + q.length) (nI L)) 72 (nT w) (nI (q.length + 1))) b j = hI h13 b j := fun L b j y1 y2 y3 => by rw [q_II, if_neg (by omega), q_II, if_neg (by omega), q_II, if_neg (by omega)]
  have SL : ∀ L : Nat, SeL (nT w) h0 (wI (wI (wI h13 73 (81 * nT w + q.length) (nI x)) 75 (81 * nT w + q.length) (nI L)) 72 (nT w) (nI (q.length + 1))) := fun L => ((S13.w (Or.inr ⟨Or.inl rfl, by omega⟩) _).w (Or.inr ⟨Or.inr (Or.inr rfl), by omega⟩) _).w (Or.inl ⟨rfl, rfl⟩) _
  cases e : pEi (tokS w) (tokV w) 7 6 i with
  | error p =>
    rw [e] at main
    rw [pbd_oe e] at C13
    obtain ⟨Q, hp, e30, L, e32, hL⟩ := C13
    refine main L (by have := T.1; omega) e32 ⟨SL L, hp, ?_⟩
    rw [f L 49 30 (by omega) (by omega) (by omega)]; exact e30
  | ok y =>
    obtain ⟨j, b⟩ := y
    rw [e] at main
    rw [pbd_oo e] at C13
    have e32 := C13.2.2.2.2.2.1
    have hL := C13.2.2.1
    have hj := C13.2.1
    have m160 := T.1
    have fl : flatP (q ++ [(x, a, b)]) = flatP q ++ a ++ b := by rw [flatP_snoc, List.append_assoc]
    refine main (flatP q ++ a ++ b).length (by omega) e32 ⟨SL _, ?_, ?_⟩
    · rw [fl]
      exact ((C13.o (by omega) (by omega) _ _).o (by omega) (by omega) _ _).o (by omega) (by omega) _ _
    · refine RoL.snoc ((r13.o (Or.inl rfl) (Nat.le_refl _) _).o (Or.inr (Or.inr rfl)) (Nat.le_refl _) _) (x, a, b) ?_ ?_ ?_
      · rw [q_ne (by decide), q_at]
      · rw [q_ne (by decide), q_ne (by decide), C13.1.2.2.2.1 74 (by omega) (by omega) (by omega)]
        exact e74
      · rw [q_at, fl]
end
