/-! rule: the reference's parser: its state, its small steps -/
def Se (N : Nat) (h h' : AH) : Prop := hS h' = hS h ∧ hL h' = hL h ∧ hR h' = hR h ∧ (∀ a, a ≠ 49 → a ≠ 76 → a ≠ 77 → hI h' a = hI h a) ∧ (∀ k, k < 26 ∨ 32 < k → hI h' 49 k = hI h 49 k) ∧ ∀ k, k < 170 * N → hI h' 76 k = hI h 76 k ∧ hI h' 77 k = hI h 77 k
theorem Se.refl (N : Nat) (h : AH) : Se N h h := ⟨rfl, rfl, rfl, fun _ _ _ _ => rfl, fun _ _ => rfl, fun _ _ => ⟨rfl, rfl⟩⟩
theorem Se.trans {N : Nat} {h h1 h2 : AH} (s : Se N h h1) (t : Se N h1 h2) : Se N h h2 := ⟨t.1.trans s.1, t.2.1.trans s.2.1, t.2.2.1.trans s.2.2.1, fun a x y z => (t.2.2.2.1 a x y z).trans (s.2.2.2.1 a x y z), fun k hk => (t.2.2.2.2.1 k hk).trans (s.2.2.2.2.1 k hk), fun k hk => ⟨(t.2.2.2.2.2 k hk).1.trans (s.2.2.2.2.2 k hk).1, (t.2.2.2.2.2 k hk).2.trans (s.2.2.2.2.2 k hk).2⟩⟩
theorem Sn.se {N : Nat} {h h' : AH} (s : Sn h h') : Se N h h' := ⟨s.1, s.2.1, s.2.2.1, fun a x _ _ => s.2.2.2.1 a x, fun k hk => s.2.2.2.2 k (by omega), fun k _ => ⟨by rw [s.2.2.2.1 76 (by decide)], by rw [s.2.2.2.1 77 (by decide)]⟩⟩
theorem Se.w {N : Nat} {h0 hh : AH} (Q : Se N h0 hh) {k : Nat} (h1 : 26 ≤ k) (h2 : k ≤ 32) (v : Int32) : Se N h0 (wI hh 49 k v) := ⟨Q.1, Q.2.1, Q.2.2.1, fun a x y z => by rw [q_ne x]; exact Q.2.2.2.1 a x y z, fun j hj => by rw [q_II, if_neg (by omega)]; exact Q.2.2.2.2.1 j hj, fun j hj => by rw [q_ne (by decide), q_ne (by decide)]; exact Q.2.2.2.2.2 j hj⟩
theorem Se.c {N : Nat} {h0 hh : AH} (Q : Se N h0 hh) {k : Nat} (hk : 170 * N ≤ k) (v x : Int32) : Se N h0 (wI (wI hh 76 k v) 77 k x) := ⟨Q.1, Q.2.1, Q.2.2.1, fun a x y z => by rw [q_ne z, q_ne y]; exact Q.2.2.2.1 a x y z, fun j hj => by rw [q_ne (by decide), q_ne (by decide)]; exact Q.2.2.2.2.1 j hj, fun j hj => ⟨by rw [q_ne (by decide), q_atne (by omega)]; exact (Q.2.2.2.2.2 j hj).1, by rw [q_atne (by omega), q_ne (by decide)]; exact (Q.2.2.2.2.2 j hj).2⟩⟩
theorem swI_49 {k : Nat} (h : swI 49 k = false) : k < 26 ∨ 32 < k := by
  by_cases c : k < 26
  · exact Or.inl c
  · refine Or.inr ?_
    by_cases c2 : k ≤ 32
    · exfalso
      have h : (Nat.ble 26 k && Nat.ble k 32 || k == 45 || Nat.ble 52 k && Nat.ble k 57 || Nat.ble 71 k && Nat.ble k 73 || Nat.ble 77 k && Nat.ble k 79) = false := h
      rw [Nat.ble_eq_true_of_le (by omega), Nat.ble_eq_true_of_le c2] at h
      simp at h
    · omega
theorem RM.se {N : Nat} {h w h1 : AH} (m : RM h w) (s : Se N h h1) : RM h1 w := by
  refine ⟨⟨fun a ha => by rw [s.1]; exact m.1.1 a ha, fun q hq => by rw [s.2.2.1]; exact m.1.2 q hq⟩, fun a k h1 h2 h3 h4 => ?_, fun a k h1 h2 h3 => by rw [s.2.1]; exact m.2.2 a k h1 h2 h3⟩
  by_cases c : a = 49
  · subst c
    rw [s.2.2.2.2.1 k (swI_49 h4)]
    exact m.2.1 49 k h1 h2 h3 h4
  · rw [s.2.2.2.1 a c (by omega) (by omega)]
    exact m.2.1 a k h1 h2 h3 h4
/-- the token i is read -/
def TkF (w hh : AH) (i : Nat) : Prop := hI hh 49 26 = nI (plc w i) ∧ hI hh 49 27 = nI (pos w (i + 1)) ∧ hI hh 49 28 = kdB w (plc w i) ∧ (tokS w i = 2 → hI hh 49 29 = tkVal w (plc w i))
def RsT (w h0 hh : AH) (m r : Nat) (z : Int) (s : Prs) : Prop := Se (nT w) h0 hh ∧ match s with
  | .error p => p ≤ m ∧ hI hh 49 30 = nI (plc w p) ∧ ∃ n : Nat, hI hh 49 32 = nI n ∧ (n : Int) + z ≤ p + 1
  | .ok (i, c) => i ≤ m ∧ (c.length : Int) + z ≤ i + 1 ∧ hI hh 49 30 = -1 ∧ hI hh 49 31 = nI (6 - r) ∧ hI hh 49 32 = nI c.length ∧ TkF w hh i ∧ ∀ k, k < c.length → hI hh 76 (170 * nT w + k) = actI (c.getD k (0, 0)) ∧ hI hh 77 (170 * nT w + k) = withI (c.getD k (0, 0))
theorem RsT.z {w h0 hh : AH} {m r : Nat} {z y : Int} {s : Prs} (C : RsT w h0 hh m r z s) (h : y ≤ z) : RsT w h0 hh m r y s := by
  cases s with
  | error p =>
    obtain ⟨Q, hp, e, n, e2, hn⟩ := C
    exact ⟨Q, hp, e, n, e2, by omega⟩
  | ok x => exact ⟨C.1, C.2.1, by have := C.2.2.1; omega, C.2.2.2⟩
/-- from here on -/
theorem RsT.re {w h0 hh : AH} {m r : Nat} {z : Int} {s : Prs} (C : RsT w h0 hh m r z s) : RsT w hh hh m r z s := ⟨Se.refl _ _, C.2⟩
theorem RsT.fr {w h0 h1 hh : AH} {m r : Nat} {z : Int} {s : Prs} (S : Se (nT w) h0 h1) (C : RsT w h1 hh m r z s) : RsT w h0 hh m r z s := ⟨S.trans C.1, C.2⟩
theorem pbd_lay {s : Prs} {e : Ins} {j : Nat} {d : List Ins} (h : pbd s (pLay e) = .ok (j, d)) : ∃ c, s = .ok (j, c) ∧ d = c ++ [e] := by
  cases s with
  | error p => cases h
  | ok x =>
    obtain ⟨i, c⟩ := x
    rw [pbd_oo (show pLay e i = .ok (i, [e]) from rfl)] at h
    cases h
    exact ⟨c, rfl, rfl⟩
theorem pbd_len {s : Prs} {X : Nat → Prs} {j : Nat} {d : List Ins} (h : pbd s X = .ok (j, d)) : ∃ i c, s = .ok (i, c) ∧ c.length ≤ d.length := by
  cases s with
  | error p => cases h
  | ok x =>
    obtain ⟨i, c⟩ := x
    rw [pbd_ok] at h
    cases e : X i with
    | error p => rw [e] at h; cases h
    | ok y =>
      rw [e] at h
      cases h
      exact ⟨i, c, rfl, by rw [List.length_append]; omega⟩
theorem actI_nar (e : Ins) : (actI e).toInt8.toInt32.toInt8.toInt32 = actI e := by
  unfold actI
  split <;> decide
section
variable {h0 w : AH} {m : Nat}
theorem RsT.rm (m0 : RM h0 w) {hh : AH} {r : Nat} {z : Int} {s : Prs} (C : RsT w h0 hh m r z s) : RM hh w := m0.se C.1
theorem t_next (m0 : RM h0 w) (F : WF1 w) (Y : WBy w) {hh : AH} {i : Nat} (hp : hI hh 49 27 = nI (pos w i)) (S : Se (nT w) h0 hh) : wp (f_X12_nextToken (some 49) hh) (fun _ h' => Sn hh h' ∧ TkF w h' i) := by
  refine wp_mono (t_X12_nextToken (m0.se S) F Y (pos_le i).1 hp) ?_
  rintro _ h' ⟨s, x1, x2, x3, x4⟩
  refine ⟨s, x1, x2, x3, fun h2 => ?_⟩
  rcases tok_cases F Y (pos_le (w := w) i).2 with ⟨k, hk, e1, -, e2, -⟩ | ⟨e1, -, e2⟩ | ⟨e1, e2, d1, d2, d3⟩ | ⟨e1, e2⟩ | ⟨q, hq, e1, e2⟩ | ⟨e1, e2⟩
  · exfalso
    have : ∀ k : Nat, k < 16 → (if k < 11 then (3 : Int32) else nI (300 + k)) ≠ 2 := by decide +kernel
    exact this k hk (e2.symm.trans h2)
  · exact absurd (e2.symm.trans h2) (by decide)
  · rw [x4 d1 d2 d3]
    unfold tkVal
    rw [if_neg (by rw [d2]; decide)]
  · exact absurd (e2.symm.trans h2) (by decide)
  · exact absurd (e2.symm.trans h2) (sign_tok hq).1
  · exact absurd (e2.symm.trans h2) (by decide)
/-- the end of the tape's tokens -/
def TkM (w : AH) (m : Nat) : Prop := m ≤ 160 ∧ plc w m = lenT w
theorem TkM.lt (T : TkM w m) {i : Nat} (hi : i ≤ m) (h : tokS w i ≠ 0) : i < m := by
  by_cases c : i = m
  · rw [c, tS_end T.2] at h; exact absurd rfl h
  · omega
theorem t_nxt (m0 : RM h0 w) (F : WF1 w) (Y : WBy w) (T : TkM w m) {hh : AH} {r : Nat} {z : Int} {i : Nat} {c : List Ins} (C : RsT w h0 hh m r z (.ok (i, c))) (ns : tokS w i ≠ 0) : wp (f_X12_nextToken (some 49) hh) (fun _ h' => RsT w h0 h' m r (z + 1) (.ok (i + 1, c))) := by
  obtain ⟨Q, hi, hz, e30, e31, e32, t, ec⟩ := C
  have im := T.lt hi ns
  refine wp_mono (t_next m0 F Y (i := i + 1) t.2.1 Q) ?_
  rintro _ h' ⟨s, t'⟩
  refine ⟨Q.trans s.se, by omega, by omega, ?_, ?_, ?_, t', fun k hk => ?_⟩
  · rw [s.2.2.2.2 30 (by omega)]; exact e30
  · rw [s.2.2.2.2 31 (by omega)]; exact e31
  · rw [s.2.2.2.2 32 (by omega)]; exact e32
  · rw [s.2.2.2.1 76 (by decide), s.2.2.2.1 77 (by decide)]; exact ec k hk
theorem t_wrong (m0 : RM h0 w) {hh : AH} {r : Nat} {z : Int} {i : Nat} {c : List Ins} (C : RsT w h0 hh m r z (.ok (i, c))) (q : Nat) : wp (f_X12_wrong (some 49) hh) (fun _ h' => RsT w h0 h' m q z (.error i)) := by
  obtain ⟨Q, hi, hz, e30, e31, e32, t, ec⟩ := C
  refine wp_mono (t_X12_wrong (m0.se Q)) ?_
  rintro _ h' rfl
  rw [if_neg (by rw [e30]; decide), t.1]
  exact ⟨Q.w (by omega) (by omega) _, hi, q_at, c.length, by rw [q_atne (by decide)]; exact e32, hz⟩
theorem t_layX (m0 : RM h0 w) (n : WN w) (nt : nT w < 20) (hm : m ≤ 160) {hh : AH} {r : Nat} {z : Int} {s : Prs} (hz : 0 ≤ z) (C : RsT w h0 hh m r z s) (e : Ins) : wp (f_X12_lay (some 49) (actI e) (withI e) hh) (fun _ h' => RsT w h0 h' m r (z - 1) (pbd s (pLay e))) := by
  have l := (C.rm m0).1
  have e33 : hI hh 49 33 = nI (nT w) := by rw [(C.rm m0).f33]; exact n.t
  have main : ∀ L : Nat, L ≤ 161 → hI hh 49 32 = nI L → (RsT w h0 (wI (wI (wI hh 76 (170 * nT w + L) (actI e)) 77 (170 * nT w + L) (withI e)) 49 32 (nI (L + 1))) m r (z - 1) (pbd s (pLay e))) → wp (f_X12_lay (some 49) (actI e) (withI e) hh) (fun _ h' => RsT w h0 h' m r (z - 1) (pbd s (pLay e))) := by
    intro L hL e32 k
    have em : (170 : Int32) * nI (nT w) + nI L = nI (170 * nT w + L) := by rw [show (170 : Int32) = nI 170 from rfl, nI_mul, nI_add]
    have cl : (nI (170 * nT w + L)).toNatClampNeg = 170 * nT w + L := nI_clamp (by omega)
    have e1 : nI L + 1 = nI (L + 1) := nI_add _ 1
    unfold f_X12_lay
    simp (config := {decide := true, maxSteps := 5000000}) (disch := omega) only [↓reduceIte, ↓wp_some, ↓wp_none, wp_ite, ↓wp_cl, ↓wp_rz, ↓wp_nz, ↓wp_nzL, ↓wp_fI, ↓wp_fL, ↓wp_fR, ↓wp_pI, ↓wp_pL, ↓wp_pR, ↓wp_pZ, ↓wp_aI, ↓wp_aL, ↓wp_aR, ↓wp_bI, ↓wp_bL, ↓wp_bR, ↓wp_rO, ↓wp_cO, ↓wp_nO, ↓wp_iO, ↓wp_tbI, ↓wp_tbL, ↓wp_jn, q_okT, q_okA, q_gI, q_gL, q_gR, q_sI, q_sL, q_sR, q_SI, q_SL, q_SR, q_IL, q_IR, q_LI, q_LR, q_RI, q_RL, List.contains_cons, List.contains_nil, Nat.reduceBEq, Nat.reduceEqDiff, beq_self_eq_true, Bool.or_false, Bool.false_or, Bool.true_or, Bool.or_true, Bool.and_true, Bool.true_and, Bool.false_and, Bool.and_false, if_true, if_false, Bool.false_eq_true, true_and, and_true, false_and, and_false, and_self, not_true, not_false_iff, reduceCtorEq, forall_const, false_imp_iff, true_imp_iff, true_or, or_true, false_or, or_false, l.r49_2, l.r49_4, l.r49_5, l.r49_6, l.r49_7, l.r49_8, l.r49_9, l.r49_10, l.r49_12, l.r49_14, l.r49_15, l.r49_16, l.r49_18, l.r49_19, l.r49_20, l.r49_21, l.r49_22, l.r49_23, l.r49_24, l.r49_34, l.r49_35, l.r49_36, l.r49_37, l.r49_38, l.r49_39, l.r49_40, l.r49_41, l.r49_42, l.r49_43, l.r49_44, l.r49_46, l.r49_47, l.r49_48, l.r49_49, l.r49_50, l.r49_51, l.r49_59, l.r49_60, l.r49_61, l.r49_62, l.r49_63, l.r49_64, l.r49_66, l.r49_67, l.r49_68, l.r49_69, l.r49_70, l.r49_74, l.r49_80, l.r49_81, l.r49_82, l.r49_83, l.r49_85, l.r49_86, l.r49_87, l.r49_88, l.r49_89, l.s49, l.s50, l.s51, l.s52, l.s53, l.s54, l.s55, l.s56, l.s57, l.s58, l.s59, l.s60, l.s61, l.s62, l.s63, l.s64, l.s65, l.s66, l.s67, l.s68, l.s69, l.s70, l.s71, l.s72, l.s73, l.s74, l.s75, l.s76, l.s77, l.s78, l.s79, l.s80, l.s81, l.s82, l.s83, l.s84, l.s85, l.s86, l.s87, l.s88, l.s89, l.s90, l.s91, l.s92, l.s93, l.s94, l.s95, l.s96, l.s97, l.s98, l.s99, l.s100, l.s101, l.s102, l.s103, l.s104, l.s105, l.s106, e33, e32, em, cl, actI_nar, q_ne, e1, nI_neg, dle, decide_false, Bool.not_false]
    exact k
  cases s with
  | error p =>
    obtain ⟨Q, hp, e30, L, e32, hL⟩ := C
    refine main L (by omega) e32 ⟨(Q.c (by omega) _ _).w (by omega) (by omega) _, hp, ?_, L + 1, q_at, by omega⟩
    rw [q_atne (by decide), q_ne (by decide), q_ne (by decide)]; exact e30
  | ok x =>
    obtain ⟨i, c⟩ := x
    obtain ⟨Q, hi, hc, e30, e31, e32, t, ec⟩ := C
    refine main c.length (by omega) e32 ?_
    rw [pbd_oo (show pLay e i = .ok (i, [e]) from rfl)]
    have ln : (c ++ [e]).length = c.length + 1 := by rw [List.length_append, List.length_singleton]
    have f : ∀ k, k ≠ 32 → hI (wI (wI (wI hh 76 (170 * nT w + c.length) (actI e)) 77 (170 * nT w + c.length) (withI e)) 49 32 (nI (c.length + 1))) 49 k = hI hh 49 k := fun k hk => by rw [q_atne hk, q_ne (by decide), q_ne (by decide)]
    refine ⟨(Q.c (by omega) _ _).w (by omega) (by omega) _, hi, by rw [ln]; omega, by rw [f 30 (by omega)]; exact e30, by rw [f 31 (by omega)]; exact e31, by rw [ln]; exact q_at, ?_, fun k hk => ?_⟩
    · unfold TkF
      rw [f 26 (by omega), f 27 (by omega), f 28 (by omega), f 29 (by omega)]; exact t
    · rw [getD_snoc c e _ hk]
      rw [ln] at hk
      have h49 : (76 : Nat) ≠ 49 ∧ (77 : Nat) ≠ 49 ∧ (76 : Nat) ≠ 77 ∧ (77 : Nat) ≠ 76 := by decide
      rw [q_ne h49.1, q_ne h49.2.1, q_ne h49.2.2.1]
      by_cases q : k = c.length
      · rw [if_neg (by omega), q]
        exact ⟨q_at, q_at⟩
      · rw [if_pos (by omega), q_atne (by omega), q_atne (by omega), q_ne h49.2.2.2]
        exact ec k (by omega)
theorem t_lay1 (m0 : RM h0 w) (n : WN w) (nt : nT w < 20) (hm : m ≤ 160) {hh : AH} {r : Nat} {z : Int} {s : Prs} (hz : 0 ≤ z) (C : RsT w h0 hh m r (z + 1) s) (e : Ins) {a v : Int32} (ea : actI e = a) (ev : withI e = v) : wp (f_X12_lay (some 49) a v hh) (fun _ h' => RsT w h0 h' m r z (pbd s (pLay e))) := by
  have := t_layX m0 n nt hm (by omega) C e
  rw [show z + 1 - 1 = z by omega, ea, ev] at this
  exact this
/-- one more is opened, or it is a fault -/
theorem t_opens (m0 : RM h0 w) (F : WF1 w) (Y : WBy w) (T : TkM w m) {hh : AH} {r : Nat} (hr : r ≤ 6) {z : Int} {i : Nat} {c : List Ins} (C : RsT w h0 hh m r z (.ok (i, c))) (ns : tokS w i ≠ 0) : wp (f_X12_opens (some 49) hh) (fun v h' => (v = 1 ∧ 1 ≤ r ∧ RsT w h0 h' m (r - 1) (z + 1) (.ok (i + 1, c))) ∨ (v = 0 ∧ r = 0 ∧ RsT w h0 h' m r z (.error i))) := by
  have l := (C.rm m0).1
  have e31 := C.2.2.2.2.1
  unfold f_X12_opens
  by_cases c0 : r = 0
  · have g : nI (6 - r) = 6 := by rw [c0]; rfl
    simp (config := {decide := true, maxSteps := 5000000}) (disch := omega) only [↓reduceIte, ↓wp_some, ↓wp_none, wp_ite, ↓wp_cl, ↓wp_rz, ↓wp_nz, ↓wp_nzL, ↓wp_fI, ↓wp_fL, ↓wp_fR, ↓wp_pI, ↓wp_pL, ↓wp_pR, ↓wp_pZ, ↓wp_aI, ↓wp_aL, ↓wp_aR, ↓wp_bI, ↓wp_bL, ↓wp_bR, ↓wp_rO, ↓wp_cO, ↓wp_nO, ↓wp_iO, ↓wp_tbI, ↓wp_tbL, ↓wp_jn, q_okT, q_okA, q_gI, q_gL, q_gR, q_sI, q_sL, q_sR, q_SI, q_SL, q_SR, q_IL, q_IR, q_LI, q_LR, q_RI, q_RL, List.contains_cons, List.contains_nil, Nat.reduceBEq, Nat.reduceEqDiff, beq_self_eq_true, Bool.or_false, Bool.false_or, Bool.true_or, Bool.or_true, Bool.and_true, Bool.true_and, Bool.false_and, Bool.and_false, if_true, if_false, Bool.false_eq_true, true_and, and_true, false_and, and_false, and_self, not_true, not_false_iff, reduceCtorEq, forall_const, false_imp_iff, true_imp_iff, true_or, or_true, false_or, or_false, l.r49_2, l.r49_4, l.r49_5, l.r49_6, l.r49_7, l.r49_8, l.r49_9, l.r49_10, l.r49_12, l.r49_14, l.r49_15, l.r49_16, l.r49_18, l.r49_19, l.r49_20, l.r49_21, l.r49_22, l.r49_23, l.r49_24, l.r49_34, l.r49_35, l.r49_36, l.r49_37, l.r49_38, l.r49_39, l.r49_40, l.r49_41, l.r49_42, l.r49_43, l.r49_44, l.r49_46, l.r49_47, l.r49_48, l.r49_49, l.r49_50, l.r49_51, l.r49_59, l.r49_60, l.r49_61, l.r49_62, l.r49_63, l.r49_64, l.r49_66, l.r49_67, l.r49_68, l.r49_69, l.r49_70, l.r49_74, l.r49_80, l.r49_81, l.r49_82, l.r49_83, l.r49_85, l.r49_86, l.r49_87, l.r49_88, l.r49_89, l.s49, l.s50, l.s51, l.s52, l.s53, l.s54, l.s55, l.s56, l.s57, l.s58, l.s59, l.s60, l.s61, l.s62, l.s63, l.s64, l.s65, l.s66, l.s67, l.s68, l.s69, l.s70, l.s71, l.s72, l.s73, l.s74, l.s75, l.s76, l.s77, l.s78, l.s79, l.s80, l.s81, l.s82, l.s83, l.s84, l.s85, l.s86, l.s87, l.s88, l.s89, l.s90, l.s91, l.s92, l.s93, l.s94, l.s95, l.s96, l.s97, l.s98, l.s99, l.s100, l.s101, l.s102, l.s103, l.s104, l.s105, l.s106, e31, eq_true g]
    refine wp_mono (t_wrong m0 C r) ?_
    rintro _ h' k
    exact ⟨c0, k⟩
  · have g : ¬ nI (6 - r) = 6 := by rw [show (6 : Int32) = nI 6 from rfl, nI_eq (by omega) (by omega)]; omega
    have e1 : nI (6 - r) + 1 = nI (6 - (r - 1)) := by rw [show (1 : Int32) = nI 1 from rfl, nI_add]; congr 1; omega
    have C2 : RsT w h0 (wI hh 49 31 (nI (6 - (r - 1)))) m (r - 1) z (.ok (i, c)) := by
      obtain ⟨Q, hi, hz, e30, e31, e32, t, ec⟩ := C
      refine ⟨Q.w (by omega) (by omega) _, hi, hz, by rw [q_atne (by decide)]; exact e30, q_at, by rw [q_atne (by decide)]; exact e32, ?_, fun k hk => ?_⟩
      · unfold TkF
        rw [q_atne (by decide), q_atne (by decide), q_atne (by decide), q_atne (by decide)]; exact t
      · rw [q_ne (by decide), q_ne (by decide)]; exact ec k hk
    simp (config := {decide := true, maxSteps := 5000000}) (disch := omega) only [↓reduceIte, ↓wp_some, ↓wp_none, wp_ite, ↓wp_cl, ↓wp_rz, ↓wp_nz, ↓wp_nzL, ↓wp_fI, ↓wp_fL, ↓wp_fR, ↓wp_pI, ↓wp_pL, ↓wp_pR, ↓wp_pZ, ↓wp_aI, ↓wp_aL, ↓wp_aR, ↓wp_bI, ↓wp_bL, ↓wp_bR, ↓wp_rO, ↓wp_cO, ↓wp_nO, ↓wp_iO, ↓wp_tbI, ↓wp_tbL, ↓wp_jn, q_okT, q_okA, q_gI, q_gL, q_gR, q_sI, q_sL, q_sR, q_SI, q_SL, q_SR, q_IL, q_IR, q_LI, q_LR, q_RI, q_RL, List.contains_cons, List.contains_nil, Nat.reduceBEq, Nat.reduceEqDiff, beq_self_eq_true, Bool.or_false, Bool.false_or, Bool.true_or, Bool.or_true, Bool.and_true, Bool.true_and, Bool.false_and, Bool.and_false, if_true, if_false, Bool.false_eq_true, true_and, and_true, false_and, and_false, and_self, not_true, not_false_iff, reduceCtorEq, forall_const, false_imp_iff, true_imp_iff, true_or, or_true, false_or, or_false, l.r49_2, l.r49_4, l.r49_5, l.r49_6, l.r49_7, l.r49_8, l.r49_9, l.r49_10, l.r49_12, l.r49_14, l.r49_15, l.r49_16, l.r49_18, l.r49_19, l.r49_20, l.r49_21, l.r49_22, l.r49_23, l.r49_24, l.r49_34, l.r49_35, l.r49_36, l.r49_37, l.r49_38, l.r49_39, l.r49_40, l.r49_41, l.r49_42, l.r49_43, l.r49_44, l.r49_46, l.r49_47, l.r49_48, l.r49_49, l.r49_50, l.r49_51, l.r49_59, l.r49_60, l.r49_61, l.r49_62, l.r49_63, l.r49_64, l.r49_66, l.r49_67, l.r49_68, l.r49_69, l.r49_70, l.r49_74, l.r49_80, l.r49_81, l.r49_82, l.r49_83, l.r49_85, l.r49_86, l.r49_87, l.r49_88, l.r49_89, l.s49, l.s50, l.s51, l.s52, l.s53, l.s54, l.s55, l.s56, l.s57, l.s58, l.s59, l.s60, l.s61, l.s62, l.s63, l.s64, l.s65, l.s66, l.s67, l.s68, l.s69, l.s70, l.s71, l.s72, l.s73, l.s74, l.s75, l.s76, l.s77, l.s78, l.s79, l.s80, l.s81, l.s82, l.s83, l.s84, l.s85, l.s86, l.s87, l.s88, l.s89, l.s90, l.s91, l.s92, l.s93, l.s94, l.s95, l.s96, l.s97, l.s98, l.s99, l.s100, l.s101, l.s102, l.s103, l.s104, l.s105, l.s106, e31, g, e1]
    refine wp_mono (t_nxt m0 F Y T C2 ns) ?_
    rintro _ h' k
    exact ⟨by omega, k⟩
/-- one is closed again -/
theorem RsT.shut {hh : AH} {r : Nat} {z : Int} {s : Prs} (hr : 1 ≤ r) (h6 : r ≤ 6) (C : RsT w h0 hh m (r - 1) z s) : RsT w h0 (wI hh 49 31 (hI hh 49 31 - 1)) m r z s := by
  cases s with
  | error p =>
    obtain ⟨Q, hp, e30, L, e32, hL⟩ := C
    exact ⟨Q.w (by omega) (by omega) _, hp, by rw [q_atne (by decide)]; exact e30, L, by rw [q_atne (by decide)]; exact e32, hL⟩
  | ok x =>
    obtain ⟨i, c⟩ := x
    obtain ⟨Q, hi, hz, e30, e31, e32, t, ec⟩ := C
    refine ⟨Q.w (by omega) (by omega) _, hi, hz, by rw [q_atne (by decide)]; exact e30, ?_, by rw [q_atne (by decide)]; exact e32, ?_, fun k hk => ?_⟩
    · rw [q_at, e31, show (1 : Int32) = nI 1 from rfl, nI_sub (by omega)]
      congr 1; omega
    · unfold TkF
      rw [q_atne (by decide), q_atne (by decide), q_atne (by decide), q_atne (by decide)]; exact t
    · rw [q_ne (by decide), q_ne (by decide)]; exact ec k hk
/-- the word that stands here -/
theorem t_isWord (m0 : RM h0 w) (F : WF1 w) (Y : WBy w) {hh : AH} {r : Nat} {z : Int} {i : Nat} {c : List Ins} (C : RsT w h0 hh m r z (.ok (i, c))) {k : Nat} (h1 : 11 ≤ k) (h2 : k < 16) {K : Int64} (eK : kwK k = K) {t : Int32} (et : nI (300 + k) = t) : wp (f_X12_isWord (some 49) K hh) (fun v h' => v = (if tokS w i = t then 1 else 0) ∧ h' = hh) := by
  obtain ⟨t1, t2, t3, -⟩ := C.2.2.2.2.2.2.1
  have lt := (lenT_eq F).1
  have p1 := (pos_le (w := w) (i + 1)).1
  have p2 := (pos_le (w := w) i).2
  have be : plc w i ≤ pos w (i + 1) := by
    show plc w i ≤ tkEnd w (plc w i)
    by_cases c : plc w i < lenT w
    · have := (tkEnd_b c).1; omega
    · unfold tkEnd; rw [if_neg c]; omega
  have iw := t_X12_isWord (C.rm m0) be (by omega) t1 t2 t3 K
  have kw := kd_word F Y p2 h1 h2
  rw [et, eK] at kw
  have kw : decide (kdB w (plc w i) = 1 ∧ pos w (i + 1) ≤ plc w i + 12 ∧ codeW w (plc w i) (pos w (i + 1) - plc w i) = K) = decide (tokS w i = t) := kw
  have kw := decide_eq_decide.mp kw
  refine wp_mono iw ?_
  rintro v h' ⟨rfl, rfl⟩
  refine ⟨?_, rfl⟩
  by_cases q : tokS w i = t
  · rw [if_pos q, if_pos (kw.mpr q)]
  · rw [if_neg q, if_neg (fun z => q (kw.mp z))]
theorem t_name (m0 : RM h0 w) (F : WF1 w) (Y : WBy w) {hh : AH} {r : Nat} {z : Int} {i : Nat} {c : List Ins} (C : RsT w h0 hh m r z (.ok (i, c))) : wp (f_X12_nameHere (some 49) hh) (fun v h' => v = (if tokS w i = 3 then (tokV w i).2 else -1) ∧ h' = hh) ∧ (tokS w i = 3 → 0 ≤ (tokV w i).2 ∧ ∃ k, k < 11 ∧ (tokV w i).2 = nI k) := by
  obtain ⟨t1, t2, t3, -⟩ := C.2.2.2.2.2.2.1
  have lt := (lenT_eq F).1
  have p1 := (pos_le (w := w) (i + 1)).1
  have p2 := (pos_le (w := w) i).2
  have be : plc w i ≤ pos w (i + 1) := by
    show plc w i ≤ tkEnd w (plc w i)
    by_cases c : plc w i < lenT w
    · have := (tkEnd_b c).1; omega
    · unfold tkEnd; rw [if_neg c]; omega
  have nh := t_X12_nameHere (C.rm m0) be (by omega) t1 t2 t3
  rcases kd_name F Y p2 with ⟨a1, a2, a3, a4⟩ | ⟨a1, a2⟩
  · have a1 : tokS w i = 3 := a1
    have eV : tokV w i = (1, -1 - tkVal w (plc w i)) := by unfold tokV; rw [if_neg (by rw [a1]; decide)]
    rw [eV, if_pos a1]
    have a2' : nameN w (plc w i) (pos w (i + 1)) (kdB w (plc w i)) = -1 - tkVal w (plc w i) := a2
    rw [a2] at a3 a4
    refine ⟨?_, fun _ => ⟨a3, a4⟩⟩
    rw [a2'] at nh
    exact nh
  · have a1 : ¬ tokS w i = 3 := a1
    rw [if_neg a1]
    refine ⟨?_, fun q => absurd q a1⟩
    have a2' : nameN w (plc w i) (pos w (i + 1)) (kdB w (plc w i)) = -1 := a2
    rw [a2'] at nh
    exact nh
/-- a sign, or a number's kind -/
theorem RsT.k {hh : AH} (F : WF1 w) (Y : WBy w) {r : Nat} {z : Int} {i : Nat} {c : List Ins} (C : RsT w h0 hh m r z (.ok (i, c))) {x : Nat} (hx : x = 0 ∨ x = 2 ∨ signB x = true) {t : Int32} (et : nI x = t) : (hI hh 49 28 = t) = (tokS w i = t) := by
  rw [C.2.2.2.2.2.2.1.2.2.1, ← et]
  exact kd_sign F Y (pos_le i).2 hx
end
