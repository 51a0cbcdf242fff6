/-! the calls body and finder -/
def addW (w : AH) (k : Int32) : AH := wI (wI (wI (wI (wI (wI w 51 (nB w) k) 54 (nB w) (-1)) 53 (nB w) (hI w 49 1)) 55 (nB w) (-1)) 66 (nB w) (-1)) 49 3 (nI (nB w + 1))
def nad (ad : Nat → Nat) (n : Nat) (k : Int32) : Nat → Nat := fun b => if b = n + 1 then ad n + blk k else ad b
theorem RC.newE {h w h1 w1 : AH} {P : Nat → Prog} {ad : Nat → Nat} (R : RC h w P ad) (n : WN w) (M : WM w) (V : WL w) (H : WH w) (X : WWi w) (K : WK w) (Z : WZr w) (hb : nB w < 150) {k : Int32} (hk : 0 ≤ k ∧ k ≤ 7)
    (eS : hS h1 = hS h ++ (List.range (blk k)).map (sB k))
    (low : ∀ a, a < ad (nB w) → hI h1 a = hI h a ∧ hR h1 a = hR h a ∧ hL h1 a = hL h a)
    (w3 : hI w1 49 3 = nI (nB w + 1)) (w49 : ∀ j, j ≠ 3 → hI w1 49 j = hI w 49 j)
    (wr : ∀ a, a = 50 ∨ (58 ≤ a ∧ a ≤ 65) ∨ 67 ≤ a → hI w1 a = hI w a)
    (wn : ∀ a, (51 ≤ a ∧ a ≤ 56) ∨ a = 66 → ∀ j, j ≠ nB w → hI w1 a j = hI w a j)
    (ws : ∀ j, j < 4 * nB w ∨ 4 * nB w + 4 ≤ j → hI w1 57 j = hI w 57 j)
    (wl : hL w1 = hL w)
    (wk : hI w1 51 (nB w) = k) (we : hI w1 54 (nB w) = -1) (wpp : hI w1 66 (nB w) = -1)
    (x0 : hI h1 (ad (nB w)) 0 = nI (nB w)) (x1 : hI h1 (ad (nB w)) 1 = k)
    (xf : k = 7 → hI h1 (ad (nB w)) 2 = hI w1 52 (nB w) ∧ hI h1 (ad (nB w)) 3 = hI w1 53 (nB w) ∧ hI h1 (ad (nB w)) 4 = -1)
    (xb : boxK k = true → hI h1 (ad (nB w)) 2 = hI w1 53 (nB w) ∧ hI h1 (ad (nB w)) 3 = hI w1 52 (nB w) ∧ hI h1 (ad (nB w)) 8 = hI w1 55 (nB w) ∧ hI h1 (ad (nB w)) 9 = hI w1 52 (nB w) ∧ hI h1 (ad (nB w)) 10 = hI w1 56 (nB w) ∧ hI h1 (ad (nB w)) 11 = -1 ∧ hI h1 (ad (nB w)) 12 = 0 ∧ hI h1 (ad (nB w)) 13 = 0 ∧ hI h1 (ad (nB w)) 14 = -1 ∧ hI h1 (ad (nB w)) 15 = 0 ∧ hI h1 (ad (nB w)) 16 = 0 ∧ hI h1 (ad (nB w)) 17 = 0 ∧ hI h1 (ad (nB w)) 18 = -1)
    (xbr : boxK k = true → hR h1 (ad (nB w)) 4 = some (ad (nB w) + 1) ∧ hR h1 (ad (nB w)) 5 = some (ad (nB w) + 2) ∧ hR h1 (ad (nB w)) 6 = some (ad (nB w) + 3) ∧ hR h1 (ad (nB w)) 7 = (if k = 2 ∨ k = 5 then some (ad (nB w) + 4) else none))
    (xs : boxK k = true → ∀ i, i < 4 → nI i < hI w1 56 (nB w) → hI h1 (ad (nB w) + 1) i = hI w1 57 (4 * nB w + i))
    (xr : k = 2 ∨ k = 5 → hR h1 (ad (nB w) + 4) 3 = some (ad (nB w) + 5) ∧ hR h1 (ad (nB w) + 4) 4 = some (ad (nB w) + 6) ∧ hR h1 (ad (nB w) + 4) 5 = some (ad (nB w) + 7) ∧ hR h1 (ad (nB w) + 4) 6 = some (ad (nB w) + 8) ∧ hR h1 (ad (nB w) + 4) 7 = some (ad (nB w) + 9) ∧ hR h1 (ad (nB w) + 4) 12 = some (ad (nB w) + 10))
    (xd : k = 2 ∨ k = 5 → hI h1 (ad (nB w) + 4) 8 = 0 ∧ hI h1 (ad (nB w) + 4) 9 = 0 ∧ hI h1 (ad (nB w) + 4) 10 = -1 ∧ hI h1 (ad (nB w) + 4) 11 = -1)
    (xt : k = 6 → hR h1 (ad (nB w)) 2 = some (ad (nB w) + 1) ∧ hR h1 (ad (nB w)) 3 = some (ad (nB w) + 2) ∧ hI h1 (ad (nB w)) 4 = 0) :
    RC (wI (wR h1 3 (nB w) (some (ad (nB w)))) 1 3 (nI (nB w + 1))) w1 P (nad ad (nB w) k) ∧ SM h (wI (wR h1 3 (nB w) (some (ad (nB w)))) 1 3 (nI (nB w + 1))) := by
  have h107 := ad_ge R.B.1 (Nat.le_refl (nB w))
  have fI : ∀ a, a ≠ 1 → hI (wI (wR h1 3 (nB w) (some (ad (nB w)))) 1 3 (nI (nB w + 1))) a = hI h1 a := fun a ha => by rw [q_ne ha, q_IR]
  have fR : ∀ a, a ≠ 3 → hR (wI (wR h1 3 (nB w) (some (ad (nB w)))) 1 3 (nI (nB w + 1))) a = hR h1 a := fun a ha => by rw [q_RI, q_Rne ha]
  refine ⟨R.newB n M V H X K Z hb hk eS (fun a ha j hj => ?_) q_at (fun a ha => (low a (by omega)).2.2) (fun a ha j hj => ?_) q_Rat w3 w49 wr wn ws wl wk we wpp ?_ ?_ (fun c => ?_) (fun c => ?_) (fun c => ?_) (fun c i h1 h2 => ?_) (fun c => ?_) (fun c => ?_) (fun c => ?_), ⟨_, eS⟩⟩
  · rw [q_II, if_neg hj, q_IR, (low a ha).1]
  · rw [q_RI, q_RR, if_neg hj, (low a ha).2.1]
  · rw [fI _ (by omega)]; exact x0
  · rw [fI _ (by omega)]; exact x1
  · simp only [fI (ad (nB w)) (by omega)]; exact xf c
  · simp only [fI (ad (nB w)) (by omega)]; exact xb c
  · simp only [fR (ad (nB w)) (by omega)]; exact xbr c
  · rw [fI _ (by omega)]; exact xs c i h1 h2
  · simp only [fR (ad (nB w) + 4) (by omega)]; exact xr c
  · simp only [fI (ad (nB w) + 4) (by omega)]; exact xd c
  · simp only [fR (ad (nB w)) (by omega), fI (ad (nB w)) (by omega)]; exact xt c
theorem t_X3_enter {h : AH} (l : Lay h) {n N : Nat} (hn : n < 150) (e13 : hI h 1 3 = nI n) (ok : okT h [0, 1, 2, 9] (some N) = true) (hN : 49 ≤ N) (x : Int32) (e0 : hI h N 0 = x) : wp (f_X3_enter (some 1) (some N) h) (fun r h' => r = x ∧ h' = wI (wR h 3 n (some N)) 1 3 (nI (n + 1))) := by
  have cn : (nI n).toNatClampNeg = n := nI_clamp (by omega)
  have p1 : nI n + 1 = nI (n + 1) := nI_add n 1
  have okR : ∀ k v cs r, okT (wR h 3 k v) cs r = okT h cs r := fun _ _ _ _ => rfl
  have okI : ∀ a k v (h2 : AH) cs r, okT (wI h2 a k v) cs r = okT h2 cs r := fun _ _ _ _ _ _ => rfl
  have e1 : hI (wI (wR h 3 n (some N)) 1 3 (nI (n + 1))) N 0 = x := by rw [q_ne (by omega), q_IR]; exact e0
  have el : elX 25 = [0, 1, 2, 9] := rfl
  have o1 : okT h [3] (some 1) = true := okT_in l.s1 (by decide)
  unfold f_X3_enter
  simp (config := {decide := true, maxSteps := 5000000}) (disch := omega) only [↓reduceIte, ↓wp_some, ↓wp_none, wp_ite, ↓wp_cl, ↓wp_rz, ↓wp_nz, ↓wp_nzL, ↓wp_fI, ↓wp_fL, ↓wp_fR, ↓wp_pI, ↓wp_pL, ↓wp_pR, ↓wp_pZ, ↓wp_aI, ↓wp_aL, ↓wp_aR, ↓wp_bI, ↓wp_bL, ↓wp_bR, ↓wp_rO, ↓wp_cO, ↓wp_nO, ↓wp_iO, ↓wp_tbI, ↓wp_tbL, ↓wp_jn, q_okA, q_gI, q_gL, q_gR, q_sI, q_sL, q_sR, q_SI, q_SL, q_SR, q_IL, q_IR, q_LI, q_LR, q_RI, q_RL, List.contains_cons, List.contains_nil, Nat.reduceBEq, Nat.reduceEqDiff, beq_self_eq_true, Bool.or_false, Bool.false_or, Bool.true_or, Bool.or_true, Bool.and_true, Bool.true_and, Bool.false_and, Bool.and_false, if_true, if_false, Bool.false_eq_true, true_and, and_true, false_and, and_false, and_self, not_true, not_false_iff, reduceCtorEq, forall_const, false_imp_iff, true_imp_iff, true_or, or_true, false_or, or_false, l.r0_0, l.r0_1, l.r0_2, l.r0_3, l.r0_4, l.r0_5, l.r1_1, l.r1_2, l.r1_4, l.r1_6, l.r1_7, l.r1_8, l.r8_0, l.r8_3, l.r8_4, l.r8_5, l.r8_6, l.r8_7, l.r8_8, l.r8_9, l.r9_1, l.r9_2, l.r9_3, l.r9_4, l.r9_9, l.r21_0, l.r21_1, l.r21_3, l.r21_4, l.r21_5, l.r21_6, l.r21_7, l.r21_8, l.r28_3, l.r28_4, l.r28_5, l.r28_6, l.r28_7, l.r28_9, l.r35_0, l.r35_1, l.r35_2, l.r35_3, l.r35_4, l.r35_5, l.r36_4, l.r38_4, l.r40_4, l.r42_4, l.r44_4, l.r46_4, l.s0, l.s1, l.s2, l.s3, l.s4, l.s5, l.s6, l.s7, l.s8, l.s9, l.s10, l.s11, l.s12, l.s13, l.s14, l.s15, l.s16, l.s17, l.s18, l.s19, l.s20, l.s21, l.s22, l.s23, l.s24, l.s25, l.s26, l.s27, l.s28, l.s29, l.s30, l.s31, l.s32, l.s33, l.s34, l.s35, l.s36, l.s37, l.s38, l.s39, l.s40, l.s41, l.s42, l.s43, l.s44, l.s45, l.s46, l.s47, l.s48, el, e13, cn, p1, ok, o1, okR, okI, e1, nI_neg, dle, decide_false, Bool.not_false, Bool.or_false, Bool.not_true, beq_self_eq_true]
theorem Lay.grow {h : AH} (l : Lay h) (t n : Nat) (hN : 49 ≤ (hS h).length) : Lay (grow h t n) := by
  refine ⟨fun a ha => by rw [grow_s (by omega)]; exact l.1 a ha, fun q hq => ?_⟩
  have tt : ∀ q ∈ tR, q.1 < 49 := by decide
  have := tt q hq
  rw [gR_ne (by omega)]
  exact l.2 q hq
theorem Lay.low {h h1 : AH} (l : Lay h) (M : List (Nat × Nat)) (eS : hS h1 = hS h ++ M) {N : Nat} (hN : 49 ≤ N) (hl : N = (hS h).length) (low : ∀ a, a < N → hI h1 a = hI h a ∧ hR h1 a = hR h a ∧ hL h1 a = hL h a) : Lay h1 := by
  refine ⟨fun a ha => by rw [eS, List.getElem?_append_left (by omega)]; exact l.1 a ha, fun q hq => ?_⟩
  have tt : ∀ q ∈ tR, q.1 < 49 := by decide
  have := tt q hq
  rw [(low q.1 (by omega)).2.1]
  exact l.2 q hq
theorem addW_facts {w : AH} (k : Int32) : hI (addW w k) 49 3 = nI (nB w + 1) ∧ (∀ j, j ≠ 3 → hI (addW w k) 49 j = hI w 49 j) ∧ (∀ a, a = 50 ∨ (56 ≤ a ∧ a ≤ 65) ∨ 67 ≤ a ∨ a = 52 → hI (addW w k) a = hI w a) ∧ (∀ a, (51 ≤ a ∧ a ≤ 56) ∨ a = 66 → ∀ j, j ≠ nB w → hI (addW w k) a j = hI w a j) ∧ hI (addW w k) 51 (nB w) = k ∧ hI (addW w k) 54 (nB w) = -1 ∧ hI (addW w k) 66 (nB w) = -1 ∧ hI (addW w k) 53 (nB w) = hI w 49 1 ∧ hI (addW w k) 55 (nB w) = -1 := by
  unfold addW
  refine ⟨q_at, fun j hj => ?_, fun a ha => ?_, fun a ha j hj => ?_, ?_, ?_, ?_, ?_, ?_⟩
  · rw [q_atne hj, q_ne (by omega), q_ne (by omega), q_ne (by omega), q_ne (by omega), q_ne (by omega)]
  · rw [q_ne (by omega), q_ne (by omega), q_ne (by omega), q_ne (by omega), q_ne (by omega), q_ne (by omega)]
  · rw [q_II, if_neg (by omega), q_II, if_neg (by omega), q_II, if_neg (by omega), q_II, if_neg (by omega), q_II, if_neg (by omega), q_II, if_neg (by omega)]
  · rw [q_ne (by omega), q_ne (by omega), q_ne (by omega), q_ne (by omega), q_ne (by omega), q_at]
  · rw [q_ne (by omega), q_ne (by omega), q_ne (by omega), q_ne (by omega), q_at]
  · rw [q_ne (by omega), q_at]
  · rw [q_ne (by omega), q_ne (by omega), q_ne (by omega), q_at]
  · rw [q_ne (by omega), q_ne (by omega), q_at]
theorem t_X3_isFull {h w : AH} {P : Nat → Prog} {ad : Nat → Nat} (R : RC h w P ad) (n : WN w) : wp (f_X3_isFull (some 1) h) (fun r h' => r = (if nB w = 150 then 1 else 0) ∧ h' = h) := by
  have l := R.l
  have hn := n.n150
  have e : (nI (nB w) < 150) = (nB w < 150) := propext (nI_ltI (b := 150) (by omega) (by omega))
  unfold f_X3_isFull
  by_cases z : nB w = 150
  · simp (config := {decide := true, maxSteps := 5000000}) (disch := omega) only [↓reduceIte, ↓wp_some, ↓wp_none, wp_ite, ↓wp_cl, ↓wp_rz, ↓wp_nz, ↓wp_nzL, ↓wp_fI, ↓wp_fL, ↓wp_fR, ↓wp_pI, ↓wp_pL, ↓wp_pR, ↓wp_pZ, ↓wp_aI, ↓wp_aL, ↓wp_aR, ↓wp_bI, ↓wp_bL, ↓wp_bR, ↓wp_rO, ↓wp_cO, ↓wp_nO, ↓wp_iO, ↓wp_tbI, ↓wp_tbL, ↓wp_jn, q_okT, q_okA, q_gI, q_gL, q_gR, q_sI, q_sL, q_sR, q_SI, q_SL, q_SR, q_II, q_IL, q_IR, q_LI, q_LL, q_LR, q_RI, q_RL, q_RR, List.contains_cons, List.contains_nil, Nat.reduceBEq, Nat.reduceEqDiff, beq_self_eq_true, Bool.or_false, Bool.false_or, Bool.true_or, Bool.or_true, Bool.and_true, Bool.true_and, Bool.false_and, Bool.and_false, if_true, if_false, Bool.false_eq_true, true_and, and_true, false_and, and_false, and_self, not_true, not_false_iff, reduceCtorEq, forall_const, false_imp_iff, true_imp_iff, true_or, or_true, false_or, or_false, l.r0_0, l.r0_1, l.r0_2, l.r0_3, l.r0_4, l.r0_5, l.r1_1, l.r1_2, l.r1_4, l.r1_6, l.r1_7, l.r1_8, l.r8_0, l.r8_3, l.r8_4, l.r8_5, l.r8_6, l.r8_7, l.r8_8, l.r8_9, l.r9_1, l.r9_2, l.r9_3, l.r9_4, l.r9_9, l.r21_0, l.r21_1, l.r21_3, l.r21_4, l.r21_5, l.r21_6, l.r21_7, l.r21_8, l.r28_3, l.r28_4, l.r28_5, l.r28_6, l.r28_7, l.r28_9, l.r35_0, l.r35_1, l.r35_2, l.r35_3, l.r35_4, l.r35_5, l.r36_4, l.r38_4, l.r40_4, l.r42_4, l.r44_4, l.r46_4, l.s0, l.s1, l.s2, l.s3, l.s4, l.s5, l.s6, l.s7, l.s8, l.s9, l.s10, l.s11, l.s12, l.s13, l.s14, l.s15, l.s16, l.s17, l.s18, l.s19, l.s20, l.s21, l.s22, l.s23, l.s24, l.s25, l.s26, l.s27, l.s28, l.s29, l.s30, l.s31, l.s32, l.s33, l.s34, l.s35, l.s36, l.s37, l.s38, l.s39, l.s40, l.s41, l.s42, l.s43, l.s44, l.s45, l.s46, l.s47, l.s48, R.bn, n.n, e, z, Nat.lt_irrefl]
  · have z2 : nB w < 150 := by omega
    simp (config := {decide := true, maxSteps := 5000000}) (disch := omega) only [↓reduceIte, ↓wp_some, ↓wp_none, wp_ite, ↓wp_cl, ↓wp_rz, ↓wp_nz, ↓wp_nzL, ↓wp_fI, ↓wp_fL, ↓wp_fR, ↓wp_pI, ↓wp_pL, ↓wp_pR, ↓wp_pZ, ↓wp_aI, ↓wp_aL, ↓wp_aR, ↓wp_bI, ↓wp_bL, ↓wp_bR, ↓wp_rO, ↓wp_cO, ↓wp_nO, ↓wp_iO, ↓wp_tbI, ↓wp_tbL, ↓wp_jn, q_okT, q_okA, q_gI, q_gL, q_gR, q_sI, q_sL, q_sR, q_SI, q_SL, q_SR, q_II, q_IL, q_IR, q_LI, q_LL, q_LR, q_RI, q_RL, q_RR, List.contains_cons, List.contains_nil, Nat.reduceBEq, Nat.reduceEqDiff, beq_self_eq_true, Bool.or_false, Bool.false_or, Bool.true_or, Bool.or_true, Bool.and_true, Bool.true_and, Bool.false_and, Bool.and_false, if_true, if_false, Bool.false_eq_true, true_and, and_true, false_and, and_false, and_self, not_true, not_false_iff, reduceCtorEq, forall_const, false_imp_iff, true_imp_iff, true_or, or_true, false_or, or_false, l.r0_0, l.r0_1, l.r0_2, l.r0_3, l.r0_4, l.r0_5, l.r1_1, l.r1_2, l.r1_4, l.r1_6, l.r1_7, l.r1_8, l.r8_0, l.r8_3, l.r8_4, l.r8_5, l.r8_6, l.r8_7, l.r8_8, l.r8_9, l.r9_1, l.r9_2, l.r9_3, l.r9_4, l.r9_9, l.r21_0, l.r21_1, l.r21_3, l.r21_4, l.r21_5, l.r21_6, l.r21_7, l.r21_8, l.r28_3, l.r28_4, l.r28_5, l.r28_6, l.r28_7, l.r28_9, l.r35_0, l.r35_1, l.r35_2, l.r35_3, l.r35_4, l.r35_5, l.r36_4, l.r38_4, l.r40_4, l.r42_4, l.r44_4, l.r46_4, l.s0, l.s1, l.s2, l.s3, l.s4, l.s5, l.s6, l.s7, l.s8, l.s9, l.s10, l.s11, l.s12, l.s13, l.s14, l.s15, l.s16, l.s17, l.s18, l.s19, l.s20, l.s21, l.s22, l.s23, l.s24, l.s25, l.s26, l.s27, l.s28, l.s29, l.s30, l.s31, l.s32, l.s33, l.s34, l.s35, l.s36, l.s37, l.s38, l.s39, l.s40, l.s41, l.s42, l.s43, l.s44, l.s45, l.s46, l.s47, l.s48, R.bn, n.n, e, z, z2]
