/-! WRITES INTO A BODY'S CELLS -/
def RO (h w : AH) (P : Nat → Prog) (ad : Nat → Nat) : Prop := Rg h w ∧ Rm h w ∧ Rl h w ∧ Rr h w P ∧ Rt h w ∧ Rk h w ad ∧ Rs h w ad ∧ Ra h w
theorem RC.o {h w : AH} {P : Nat → Prog} {ad : Nat → Nat} (R : RC h w P ad) : RO h w P ad := ⟨R.g, R.mm, R.ll, R.rr, R.tt, R.kk, R.ss, R.aa⟩
theorem RC.of {h w : AH} {P : Nat → Prog} {ad : Nat → Nat} (l : Lay h) (o : RO h w P ad) (B : RB h w ad) (D : RBd h w ad) : RC h w P ad := ⟨l, o.1, o.2.1, o.2.2.1, o.2.2.2.1, o.2.2.2.2.1, o.2.2.2.2.2.1, o.2.2.2.2.2.2.1, o.2.2.2.2.2.2.2, B, D⟩
theorem RO.hc {h w h1 : AH} {P : Nat → Prog} {ad : Nat → Nat} (o : RO h w P ad) (f : ∀ a, a < 49 → hI h1 a = hI h a) (fl : ∀ a, a < 49 → hL h1 a = hL h a) (r : ∀ a, a < 49 → hR h1 a = hR h a) : RO h1 w P ad := by
  obtain ⟨g, m, ll, rr, t, k, s, a⟩ := o
  refine ⟨?_, ?_, ?_, ?_, ?_, ?_, ?_, ?_⟩
  · unfold Rg at *; rw [f 1 (by omega), f 2 (by omega), f 4 (by omega)]; exact g
  · unfold Rm at *; rw [f 1 (by omega), f 5 (by omega), f 6 (by omega), f 7 (by omega)]; exact m
  · unfold Rl at *; rw [f 21 (by omega), f 22 (by omega), f 23 (by omega), f 25 (by omega), f 26 (by omega)]; exact ll
  · unfold Rr at *; rw [f 8 (by omega), f 15 (by omega), f 16 (by omega), f 17 (by omega), f 18 (by omega), f 19 (by omega)]; exact rr
  · unfold Rt at *; rw [f 9 (by omega), f 10 (by omega)]; exact t
  · unfold Rk at *; rw [f 28 (by omega), f 31 (by omega), f 32 (by omega), f 29 (by omega), r 30 (by omega)]; exact k
  · intro i hi
    have := s i hi
    unfold shelfAt_ at *
    rw [f (36 + 2 * i) (by omega), fl (36 + 2 * i + 1) (by omega), r (36 + 2 * i) (by omega)]; exact this
  · unfold Ra at *; rw [f 48 (by omega)]; exact a
def sigO (w : AH) := (hI w 49 1, hI w 50, hI w 49 11, hI w 58, hI w 49 13, hI w 59, hI w 61, hI w 60, hI w 49 17, hI w 62, hI w 65, hI w 63, hI w 64, hI w 49 33, hI w 69, hI w 70, hI w 71, hI w 49 25, hI w 68, hI w 49 65, hI w 92, hI w 93, hI w 94, hI w 49 76, hI w 49 75, hI w 97, hI w 103, hI w 104, hL w 105, hI w 49 84, hI w 102)
theorem RO.wc {h w w1 : AH} {P : Nat → Prog} {ad : Nat → Nat} (o : RO h w P ad) (e : sigO w1 = sigO w) : RO h w1 P ad := by
  unfold sigO at e
  simp only [Prod.mk.injEq] at e
  obtain ⟨e1, e2, e3, e4, e5, e6, e7, e8, e9, e10, e11, e12, e13, e14, e15, e16, e17, e18, e19, e20, e21, e22, e23, e24, e25, e26, e27, e28, e29, e30, e31⟩ := e
  obtain ⟨g, m, ll, rr, t, k, s, a⟩ := o
  refine ⟨?_, ?_, ?_, ?_, ?_, ?_, ?_, ?_⟩
  · unfold Rg at *; rw [e1, e2, e3, e4]; exact g
  · unfold Rm at *; rw [e5, e6, e7, e8]; exact m
  · unfold Rl at *; rw [e9, e10, e11, e12, e13]; exact ll
  · unfold Rr nT at *; rw [e14, e15, e16, e17]; exact rr
  · unfold Rt at *; rw [e18, e19]; exact t
  · unfold Rk nW at *; rw [e20, e21, e22, e23, e24, e25, e26]; exact k
  · intro i hi
    have := s i hi
    unfold shelfAt_ at *
    rw [e27, e28, e29]; exact this
  · unfold Ra at *; rw [e30, e31]; exact a
/-- reading a body's cell behind a write into a body's cell -/
theorem rd {h w : AH} {ad : Nat → Nat} (B : RBs h w ad) {b b0 : Nat} (hb : b < nB w) (hb0 : b0 < nB w) {i o : Nat} (hi : i < blk (hI w 51 b)) (ho : o < blk (hI w 51 b0)) (k : Nat) (v : Int32) (j : Nat) : hI (wI h (ad b0 + o) k v) (ad b + i) j = if b = b0 ∧ i = o ∧ j = k then v else hI h (ad b + i) j := by
  rw [q_II]
  by_cases z : b = b0
  · subst z
    by_cases z2 : i = o ∧ j = k
    · rw [if_pos ⟨by omega, z2.2⟩, if_pos ⟨rfl, z2⟩]
    · rw [if_neg (fun y => z2 ⟨by omega, y.2⟩), if_neg (fun y => z2 y.2)]
  · have := ad_ne B hb hb0 z hi ho
    rw [if_neg (fun y => this y.1), if_neg (fun y => z y.1)]
theorem RBs.wr {h w : AH} {ad : Nat → Nat} (B : RBs h w ad) {b0 : Nat} (hb0 : b0 < nB w) {o : Nat} (ho : o < blk (hI w 51 b0)) {k : Nat} (hk : 1 ≤ o ∨ 2 ≤ k) (v : Int32) : RBs (wI h (ad b0 + o) k v) w ad := by
  have h107 := ad_ge B (show b0 ≤ nB w by omega)
  refine ⟨B.1, B.2.1, by rw [q_ne (by omega)]; exact B.2.2.1, fun b hb => ?_⟩
  have r0 := rd B hb hb0 (blk_pos _) ho k v 0
  have r1 := rd B hb hb0 (blk_pos _) ho k v 1
  rw [Nat.add_zero] at r0 r1
  rw [r0, r1, if_neg (by omega), if_neg (by omega)]
  exact B.2.2.2 b hb
def bx (w : AH) (b k : Nat) : Int32 := match k with
  | 2 => hI w 53 b | 3 => hI w 52 b | 8 => hI w 55 b | 9 => cellNow_ w b | 10 => hI w 56 b | 11 => hI w 54 b | 12 => nI (finds_ w b) | 13 => nI (misses_ w b) | 14 => oI (latest_ w b) | 15 => (if hI w 66 b < 0 then 0 else hI w 66 b) | 16 => (if hI w 66 b < 0 then 0 else 1) | 17 => hI w 89 b | 18 => hI w 98 b - 1 | _ => 0
def bxk (k : Nat) : Bool := k == 2 || k == 3 || (Nat.ble 8 k && Nat.ble k 18)
theorem RBx_bx {h w : AH} {ad : Nat → Nat} : RBx h w ad ↔ ∀ b, b < nB w → boxK (hI w 51 b) = true → ∀ k, bxk k = true → hI h (ad b) k = bx w b k := by
  constructor
  · intro X b hb hk k hkk
    obtain ⟨x2, x3, x8, x9, x10, x11, x12, x13, x14, x15, x16, x17, x18⟩ := X b hb hk
    have : k = 2 ∨ k = 3 ∨ k = 8 ∨ k = 9 ∨ k = 10 ∨ k = 11 ∨ k = 12 ∨ k = 13 ∨ k = 14 ∨ k = 15 ∨ k = 16 ∨ k = 17 ∨ k = 18 := by
      unfold bxk at hkk
      simp at hkk
      omega
    rcases this with rfl | rfl | rfl | rfl | rfl | rfl | rfl | rfl | rfl | rfl | rfl | rfl | rfl <;> assumption
  · intro X b hb hk
    exact ⟨X b hb hk 2 rfl, X b hb hk 3 rfl, X b hb hk 8 rfl, X b hb hk 9 rfl, X b hb hk 10 rfl, X b hb hk 11 rfl, X b hb hk 12 rfl, X b hb hk 13 rfl, X b hb hk 14 rfl, X b hb hk 15 rfl, X b hb hk 16 rfl, X b hb hk 17 rfl, X b hb hk 18 rfl⟩
/-- one int of a box is written; f, r, t: what the changed world says of the other cells, as they were -/
theorem RB.setx {h w w1 : AH} {ad : Nat → Nat} (B : RB h w ad) {b0 : Nat} (hb0 : b0 < nB w) (hk0 : boxK (hI w 51 b0) = true) {k0 : Nat} (hk : 2 ≤ k0) (v : Int32) (e3 : hI w1 49 3 = hI w 49 3) (e51 : hI w1 51 = hI w 51) (f : RBf h w1 ad) (r : RBr h w1 ad) (t : RBt h w1 ad) (ex : ∀ b, b < nB w → boxK (hI w 51 b) = true → ∀ k, bxk k = true → bx w1 b k = if b = b0 ∧ k = k0 then v else bx w b k) : RB (wI h (ad b0) k0 v) w1 ad := by
  have n1 : nB w1 = nB w := by unfold nB; rw [e3]
  have Bs := B.1.wr hb0 (o := 0) (blk_pos _) (Or.inr hk) v
  have rd0 := fun b (hb : b < nB w) i (hi : i < blk (hI w 51 b)) j => rd B.1 hb hb0 (o := 0) hi (blk_pos _) k0 v j
  simp only [Nat.add_zero] at Bs rd0
  have bk := (boxK_iff.mp hk0)
  refine ⟨?_, fun b hb hk7 => ?_, RBx_bx.mpr fun b hb hkb k hkk => ?_, fun b hb hkb => ?_, fun b hb hk6 => ?_⟩
  · unfold RBs at *; rw [n1, e3, e51]; exact Bs
  · have := f b hb hk7
    rw [n1] at hb; rw [e51] at hk7
    have ne : b ≠ b0 := fun z => by rw [z] at hk7; rw [hk7] at hk0; exact absurd hk0 (by decide)
    have r0 := rd0 b hb 0 (blk_pos _)
    simp only [Nat.add_zero] at r0
    rw [r0, r0, r0, if_neg (fun z => ne z.1), if_neg (fun z => ne z.1), if_neg (fun z => ne z.1)]
    exact this
  · rw [n1] at hb; rw [e51] at hkb
    have r0 := rd0 b hb 0 (blk_pos _) k
    simp only [Nat.add_zero] at r0
    rw [r0, ex b hb hkb k hkk]
    by_cases z : b = b0 ∧ k = k0
    · rw [if_pos ⟨z.1, trivial, z.2⟩, if_pos z]
    · rw [if_neg (fun y => z ⟨y.1, y.2.2⟩), if_neg z]
      exact RBx_bx.mp B.2.2.1 b hb hkb k hkk
  · have := r b hb hkb
    rw [n1] at hb; rw [e51] at hkb
    have b4 := blk_box hkb
    have g : ∀ i j, 1 ≤ i → i < 4 → hI (wI h (ad b0) k0 v) (ad b + i) j = hI h (ad b + i) j := fun i j h1 h2 => by rw [rd0 b hb i (by omega), if_neg (by omega)]
    refine ⟨fun i h1 h2 => by rw [g 1 i (by omega) (by omega)]; exact this.1 i h1 h2, fun i h1 h2 => by rw [g 2 i (by omega) (by omega)]; exact this.2.1 i h1 h2, fun i h1 h2 => by rw [g 3 i (by omega) (by omega)]; exact this.2.2 i h1 h2⟩
  · have := t b hb hk6
    rw [n1] at hb; rw [e51] at hk6
    have ne : b ≠ b0 := fun z => by rw [z] at hk6; rw [hk6] at hk0; exact absurd hk0 (by decide)
    have b3 : blk (hI w 51 b) = 3 := by rw [hk6]; decide
    have r0 := rd0 b hb 0 (blk_pos _) 4
    simp only [Nat.add_zero] at r0
    rw [r0, if_neg (fun z => ne z.1)]
    refine ⟨this.1, fun i h1 h2 => ?_⟩
    rw [rd0 b hb 1 (by omega), rd0 b hb 2 (by omega), if_neg (fun z => ne z.1), if_neg (fun z => ne z.1)]
    exact this.2 i h1 h2
/-- .. and of riddles -/
theorem RBd.setx {h w : AH} {ad : Nat → Nat} (D : RBd h w ad) (B : RB h w ad) {b0 : Nat} (hb0 : b0 < nB w) (o k0 : Nat) (ho : o < blk (hI w 51 b0)) (ho4 : o < 4) (v : Int32) : RBd (wI h (ad b0 + o) k0 v) w ad := by
  intro b hb hk
  have bb : blk (hI w 51 b) = 11 := by rcases hk with e | e <;> rw [e] <;> decide
  have g : ∀ i, 4 ≤ i → i < 11 → ∀ j, hI (wI h (ad b0 + o) k0 v) (ad b + i) j = hI h (ad b + i) j := fun i h1 h2 j => by rw [rd B.1 hb hb0 (by omega) ho, if_neg (by omega)]
  simp only [g 4 (by omega) (by omega), g 5 (by omega) (by omega), g 6 (by omega) (by omega), g 7 (by omega) (by omega), g 8 (by omega) (by omega), g 9 (by omega) (by omega)]
  exact D b hb hk
/-! the call down -/
def s_down (w : AH) (b : Int32) : Int32 × AH := if isBox_ w b = true then (if hI w 54 (b.toNatClampNeg) < 0 then (1, wI w 54 b.toNatClampNeg (hI w 49 1)) else (-2, w)) else (-1, w)
theorem RB.down {h w : AH} {ad : Nat → Nat} (B : RB h w ad) {b0 : Nat} (hb0 : b0 < nB w) (hk0 : boxK (hI w 51 b0) = true) (v : Int32) : RB (wI h (ad b0) 11 v) (wI w 54 b0 v) ad := by
  have ne7 : ∀ b, hI w 51 b = 7 → ¬ b = b0 := fun b hk z => by rw [z] at hk; rw [hk] at hk0; exact absurd hk0 (by decide)
  refine B.setx hb0 hk0 (by omega) v rfl rfl ?_ B.2.2.2.1 B.2.2.2.2 ?_
  · intro b hb hk7
    have := B.2.1 b hb hk7
    refine ⟨this.1, this.2.1, ?_⟩
    rw [q_II, if_neg (fun z => ne7 b hk7 z.2)]; exact this.2.2
  · intro b hb hk k hkk
    by_cases z : k = 11
    · subst z
      show hI (wI w 54 b0 v) 54 b = _
      rw [q_II]
      by_cases z2 : b = b0 <;> simp [z2, bx]
    · rw [if_neg (fun y => z y.2)]
      unfold bx
      split <;> first | rfl | exact absurd rfl z
theorem RC.down {h w : AH} {P : Nat → Prog} {ad : Nat → Nat} (R : RC h w P ad) {b0 : Nat} (hb0 : b0 < nB w) (hk0 : boxK (hI w 51 b0) = true) (v : Int32) : RC (wI h (ad b0) 11 v) (wI w 54 b0 v) P ad := by
  have := ad_ge R.B.1 (show b0 ≤ nB w by omega)
  have D := R.dd.setx R.B hb0 0 11 (blk_pos _) (by omega) v
  rw [Nat.add_zero] at D
  exact RC.of (R.l.wI _ _ _) ((R.o.hc (fun a ha => q_ne (by omega)) (fun _ _ => rfl) (fun _ _ => rfl)).wc rfl) (R.B.down hb0 hk0 v) (D.wc rfl)
theorem c_down {h w : AH} {P : Nat → Prog} {ad : Nat → Nat} (R : RC h w P ad) (n : WN w) (b : Int32) : wp (f_X11_down (some 0) b h) (fun v h' => v = (s_down w b).1 ∧ RC h' (s_down w b).2 P ad ∧ SM h h') := by
  have l := R.l
  have hn := n.n150
  have s := SM.refl h
  unfold f_X11_down s_down
  by_cases z : isBox_ w b = true
  · obtain ⟨i, hi, rfl, hk⟩ := isBox_ex n z
    have h107 := ad_ge R.B.1 (show i ≤ nB w by omega)
    by_cases c : hI w 54 i < 0
    · have c2 : ¬ 0 ≤ hI w 54 i := Int32.not_le.mpr c
      simp (config := {maxSteps := 5000000}) (disch := omega) only [↓reduceIte, ↓wp_some, ↓wp_none, wp_ite, ↓wp_cl, ↓wp_rz, ↓wp_nz, ↓wp_nzL, ↓wp_fI, ↓wp_fL, ↓wp_fR, ↓wp_pI, ↓wp_pL, ↓wp_pR, ↓wp_pZ, ↓wp_aI, ↓wp_aL, ↓wp_aR, ↓wp_bI, ↓wp_bL, ↓wp_bR, ↓wp_rO, ↓wp_cO, ↓wp_nO, ↓wp_iO, ↓wp_tbI, ↓wp_tbL, ↓wp_jn, q_okT, q_okA, q_gI, q_gL, q_gR, q_sI, q_sL, q_sR, q_SI, q_SL, q_SR, q_IL, q_IR, q_LI, q_LR, q_RI, q_RL, List.contains_cons, List.contains_nil, Nat.reduceBEq, Nat.reduceEqDiff, beq_self_eq_true, Bool.or_false, Bool.false_or, Bool.true_or, Bool.or_true, Bool.and_true, Bool.true_and, Bool.false_and, Bool.and_false, if_true, if_false, Bool.false_eq_true, true_and, and_true, false_and, and_false, and_self, not_true, not_false_iff, reduceCtorEq, forall_const, false_imp_iff, true_imp_iff, true_or, or_true, false_or, or_false, l.r0_0, l.r0_1, l.r0_2, l.r0_3, l.r0_4, l.r0_5, l.r1_1, l.r1_2, l.r1_4, l.r1_6, l.r1_7, l.r1_8, l.r8_0, l.r8_3, l.r8_4, l.r8_5, l.r8_6, l.r8_7, l.r8_8, l.r8_9, l.r9_1, l.r9_2, l.r9_3, l.r9_4, l.r9_9, l.r21_0, l.r21_1, l.r21_3, l.r21_4, l.r21_5, l.r21_6, l.r21_7, l.r21_8, l.r28_3, l.r28_4, l.r28_5, l.r28_6, l.r28_7, l.r28_9, l.r35_0, l.r35_1, l.r35_2, l.r35_3, l.r35_4, l.r35_5, l.r36_4, l.r38_4, l.r40_4, l.r42_4, l.r44_4, l.r46_4, l.s0, l.s1, l.s2, l.s3, l.s4, l.s5, l.s6, l.s7, l.s8, l.s9, l.s10, l.s11, l.s12, l.s13, l.s14, l.s15, l.s16, l.s17, l.s18, l.s19, l.s20, l.s21, l.s22, l.s23, l.s24, l.s25, l.s26, l.s27, l.s28, l.s29, l.s30, l.s31, l.s32, l.s33, l.s34, l.s35, l.s36, l.s37, l.s38, l.s39, l.s40, l.s41, l.s42, l.s43, l.s44, l.s45, l.s46, l.s47, l.s48, n1_0, m1neg, ne_eq, nle2, n24, n10, nle, b10, b11, am1, n0m1, Int32.add_zero, Int32.zero_add, ite_true, ite_false, Bool.and_eq_true, nI_m4, nI_m5, nI_m8, nI_m10, nI_m12, nI_m24, nI_m31, nI_m40, nI_m60, nI_m81, nI_m161, nI_m170, nI_p2, nI_p3, nI_p4, nI_p5, nI_p6, nI_pred, nI_leI, nI_ltI, nI_eq, nI_clamp, nI_neg, nI_ge0, nI_neg1, nI_1, nI_add, nI_mul, dle, decide_true, decide_false, Bool.not_true, Bool.not_false, decide_eq_true_eq, wp_use (t_X3_boxAt l n R.B _), z, wp_use (t_X1_isDown R hi hk), R.B.b0 hi hk, c, c2, R.td]
      exact ⟨R.down hi hk _, s.wI _ _ _ (Or.inr h107)⟩
    · have c2 : 0 ≤ hI w 54 i := Int32.not_lt.mp c
      simp (config := {maxSteps := 5000000}) (disch := omega) only [↓reduceIte, ↓wp_some, ↓wp_none, wp_ite, ↓wp_cl, ↓wp_rz, ↓wp_nz, ↓wp_nzL, ↓wp_fI, ↓wp_fL, ↓wp_fR, ↓wp_pI, ↓wp_pL, ↓wp_pR, ↓wp_pZ, ↓wp_aI, ↓wp_aL, ↓wp_aR, ↓wp_bI, ↓wp_bL, ↓wp_bR, ↓wp_rO, ↓wp_cO, ↓wp_nO, ↓wp_iO, ↓wp_tbI, ↓wp_tbL, ↓wp_jn, q_okT, q_okA, q_gI, q_gL, q_gR, q_sI, q_sL, q_sR, q_SI, q_SL, q_SR, q_IL, q_IR, q_LI, q_LR, q_RI, q_RL, List.contains_cons, List.contains_nil, Nat.reduceBEq, Nat.reduceEqDiff, beq_self_eq_true, Bool.or_false, Bool.false_or, Bool.true_or, Bool.or_true, Bool.and_true, Bool.true_and, Bool.false_and, Bool.and_false, if_true, if_false, Bool.false_eq_true, true_and, and_true, false_and, and_false, and_self, not_true, not_false_iff, reduceCtorEq, forall_const, false_imp_iff, true_imp_iff, true_or, or_true, false_or, or_false, l.r0_0, l.r0_1, l.r0_2, l.r0_3, l.r0_4, l.r0_5, l.r1_1, l.r1_2, l.r1_4, l.r1_6, l.r1_7, l.r1_8, l.r8_0, l.r8_3, l.r8_4, l.r8_5, l.r8_6, l.r8_7, l.r8_8, l.r8_9, l.r9_1, l.r9_2, l.r9_3, l.r9_4, l.r9_9, l.r21_0, l.r21_1, l.r21_3, l.r21_4, l.r21_5, l.r21_6, l.r21_7, l.r21_8, l.r28_3, l.r28_4, l.r28_5, l.r28_6, l.r28_7, l.r28_9, l.r35_0, l.r35_1, l.r35_2, l.r35_3, l.r35_4, l.r35_5, l.r36_4, l.r38_4, l.r40_4, l.r42_4, l.r44_4, l.r46_4, l.s0, l.s1, l.s2, l.s3, l.s4, l.s5, l.s6, l.s7, l.s8, l.s9, l.s10, l.s11, l.s12, l.s13, l.s14, l.s15, l.s16, l.s17, l.s18, l.s19, l.s20, l.s21, l.s22, l.s23, l.s24, l.s25, l.s26, l.s27, l.s28, l.s29, l.s30, l.s31, l.s32, l.s33, l.s34, l.s35, l.s36, l.s37, l.s38, l.s39, l.s40, l.s41, l.s42, l.s43, l.s44, l.s45, l.s46, l.s47, l.s48, n1_0, m1neg, ne_eq, nle2, n24, n10, nle, b10, b11, am1, n0m1, Int32.add_zero, Int32.zero_add, ite_true, ite_false, Bool.and_eq_true, nI_m4, nI_m5, nI_m8, nI_m10, nI_m12, nI_m24, nI_m31, nI_m40, nI_m60, nI_m81, nI_m161, nI_m170, nI_p2, nI_p3, nI_p4, nI_p5, nI_p6, nI_pred, nI_leI, nI_ltI, nI_eq, nI_clamp, nI_neg, nI_ge0, nI_neg1, nI_1, nI_add, nI_mul, dle, decide_true, decide_false, Bool.not_true, Bool.not_false, decide_eq_true_eq, wp_use (t_X3_boxAt l n R.B _), z, wp_use (t_X1_isDown R hi hk), R.B.b0 hi hk, c, c2]
      exact ⟨R, s⟩
  · simp (config := {maxSteps := 5000000}) (disch := omega) only [↓reduceIte, ↓wp_some, ↓wp_none, wp_ite, ↓wp_cl, ↓wp_rz, ↓wp_nz, ↓wp_nzL, ↓wp_fI, ↓wp_fL, ↓wp_fR, ↓wp_pI, ↓wp_pL, ↓wp_pR, ↓wp_pZ, ↓wp_aI, ↓wp_aL, ↓wp_aR, ↓wp_bI, ↓wp_bL, ↓wp_bR, ↓wp_rO, ↓wp_cO, ↓wp_nO, ↓wp_iO, ↓wp_tbI, ↓wp_tbL, ↓wp_jn, q_okT, q_okA, q_gI, q_gL, q_gR, q_sI, q_sL, q_sR, q_SI, q_SL, q_SR, q_IL, q_IR, q_LI, q_LR, q_RI, q_RL, List.contains_cons, List.contains_nil, Nat.reduceBEq, Nat.reduceEqDiff, beq_self_eq_true, Bool.or_false, Bool.false_or, Bool.true_or, Bool.or_true, Bool.and_true, Bool.true_and, Bool.false_and, Bool.and_false, if_true, if_false, Bool.false_eq_true, true_and, and_true, false_and, and_false, and_self, not_true, not_false_iff, reduceCtorEq, forall_const, false_imp_iff, true_imp_iff, true_or, or_true, false_or, or_false, l.r0_0, l.r0_1, l.r0_2, l.r0_3, l.r0_4, l.r0_5, l.r1_1, l.r1_2, l.r1_4, l.r1_6, l.r1_7, l.r1_8, l.r8_0, l.r8_3, l.r8_4, l.r8_5, l.r8_6, l.r8_7, l.r8_8, l.r8_9, l.r9_1, l.r9_2, l.r9_3, l.r9_4, l.r9_9, l.r21_0, l.r21_1, l.r21_3, l.r21_4, l.r21_5, l.r21_6, l.r21_7, l.r21_8, l.r28_3, l.r28_4, l.r28_5, l.r28_6, l.r28_7, l.r28_9, l.r35_0, l.r35_1, l.r35_2, l.r35_3, l.r35_4, l.r35_5, l.r36_4, l.r38_4, l.r40_4, l.r42_4, l.r44_4, l.r46_4, l.s0, l.s1, l.s2, l.s3, l.s4, l.s5, l.s6, l.s7, l.s8, l.s9, l.s10, l.s11, l.s12, l.s13, l.s14, l.s15, l.s16, l.s17, l.s18, l.s19, l.s20, l.s21, l.s22, l.s23, l.s24, l.s25, l.s26, l.s27, l.s28, l.s29, l.s30, l.s31, l.s32, l.s33, l.s34, l.s35, l.s36, l.s37, l.s38, l.s39, l.s40, l.s41, l.s42, l.s43, l.s44, l.s45, l.s46, l.s47, l.s48, n1_0, m1neg, ne_eq, nle2, n24, n10, nle, b10, b11, am1, n0m1, Int32.add_zero, Int32.zero_add, ite_true, ite_false, Bool.and_eq_true, nI_m4, nI_m5, nI_m8, nI_m10, nI_m12, nI_m24, nI_m31, nI_m40, nI_m60, nI_m81, nI_m161, nI_m170, nI_p2, nI_p3, nI_p4, nI_p5, nI_p6, nI_pred, nI_leI, nI_ltI, nI_eq, nI_clamp, nI_neg, nI_ge0, nI_neg1, nI_1, nI_add, nI_mul, dle, decide_true, decide_false, Bool.not_true, Bool.not_false, decide_eq_true_eq, wp_use (t_X3_boxAt l n R.B _), z]
    exact ⟨R, s⟩
