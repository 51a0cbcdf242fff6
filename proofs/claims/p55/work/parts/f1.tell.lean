/-! THE LAW'S tell: a text on the tape -/
theorem wp_clR {α β : Type} {h : AH} {o : Option (α × AH)} {K : α → AH → Option (β × AH)} {Q : β → AH → Prop} : wp (clR h o K) Q ↔ wp o (fun v h' => wp (K v (rst h h')) Q) := wp_cl
theorem wp_clC {β : Type} {o : Option Int32} {v : Int32} {K : Int32 → Option (β × AH)} {Q : β → AH → Prop} (e : o = some v) : wp (clC o K) Q ↔ wp (K v) Q := by
  rw [e]; exact Iff.rfl
theorem wp_aF {β : Type} {g : AH} {r : Option Nat} {i : Int32} {K : Int32 → Option (β × AH)} {Q : β → AH → Prop} : wp (aF g r i K) Q ↔ okA g 28 r i = true ∧ wp (K (gI g r i.toNatClampNeg)) Q := wp_gd
theorem okA_in {h : AH} {a t n i : Nat} (e : (hS h)[a]? = some (t, n)) (hi : i < n) (hn : n < 2 ^ 31) : okA h t (some a) (nI i) = true := by
  rw [q_okA, e]
  simp only [nI_neg (show i < 2 ^ 31 by omega), nI_clamp (show i < 2 ^ 31 by omega), dle hi, beq_self_eq_true, decide_false, Bool.or_false, Bool.not_false, Bool.and_true]
theorem okT0 {h : AH} (l : Lay h) : okT h [11] (some 0) = true := by
  rw [q_okT, l.S 0 (by decide)]; rfl
def vv (L : Nat → Int32) (i : Nat) : Nat → Int32
  | 0 => 0
  | j + 1 => vv L i j ||| (L (i + j) <<< (((8 : Int32) * nI j) &&& 31))
def tpL (L : Nat → Int32) (n j : Nat) : Int32 := tb (vv L (4 * (j / 4)) (min 4 (n - 4 * (j / 4)))) (j % 4)
def TP (w w' : AH) (L : Nat → Int32) (n i : Nat) : Prop := (∀ a, a ≠ 49 → a ≠ 68 → hI w' a = hI w a) ∧ (∀ k, k ≠ 25 → hI w' 49 k = hI w 49 k) ∧ hI w' 49 25 = nI i ∧ (∀ j, j < i → hI w' 68 j = tpL L n j) ∧ ∀ j, i ≤ j → hI w' 68 j = hI w 68 j
theorem fed_68 (w : AH) (k : Nat) (v : Int32) : ∀ (m x : Nat), hI (fed w k v m) 68 x = if k ≤ x ∧ x < k + m then tb v (x - k) else hI w 68 x
  | 0, x => by rw [if_neg (by omega)]; rfl
  | m + 1, x => by
    show hI (wI (wI (fed w k v m) 68 (k + m) (tb v m)) 49 25 (nI (k + m + 1))) 68 x = _
    rw [q_ne (by decide)]
    by_cases c : x = k + m
    · subst c
      rw [q_at, if_pos (by omega), Nat.add_sub_cancel_left]
    · rw [q_atne c, fed_68 w k v m x]
      by_cases d : k ≤ x ∧ x < k + m
      · rw [if_pos d, if_pos (by omega)]
      · rw [if_neg d, if_neg (by omega)]
theorem TP.fed {w w1 : AH} {L : Nat → Int32} {n t : Nat} (T : TP w w1 L n (4 * t)) (ht : 4 * t < n) {m : Nat} (hm : m = min 4 (n - 4 * t)) : TP w (fed w1 (4 * t) (vv L (4 * t) m) m) L n (4 * t + m) := by
  obtain ⟨t1, t2, t3, t4, t5⟩ := T
  refine ⟨fun a h1 h2 => by rw [fed_I _ _ _ _ h1 h2]; exact t1 a h1 h2, fun k hk => by rw [fed_49 _ _ _ _ hk]; exact t2 k hk, fed_tp t3 _ _, fun j hj => ?_, fun j hj => ?_⟩
  · rw [fed_68]
    by_cases c : 4 * t ≤ j
    · rw [if_pos (by omega)]
      have e1 : j / 4 = t := by omega
      unfold tpL
      rw [e1, ← hm, show j - 4 * t = j % 4 by omega]
    · rw [if_neg (by omega)]
      exact t4 j (by omega)
  · rw [fed_68, if_neg (by omega)]
    exact t5 j (by omega)
set_option maxHeartbeats 4000000 in
theorem tell_ok {h w : AH} {P : Nat → Prog} {ad : Nat → Nat} (R : RC h w P ad) (G : WF w P) {b n : Nat} (hb : (hS h)[b]? = some (28, n)) (hn1 : 1 ≤ n) (hn : n ≤ 160) (e25 : hI w 49 25 = 0) : wp (f_L_tell (some 0) (some b) (nI n) h) (fun r h' => r = 1 ∧ SM h h' ∧ ∃ w', RC h' w' P ad ∧ WF w' P ∧ TP w w' (hI h b) n n) := by
  unfold f_L_tell
  have tp0 : TP w w (hI h b) n 0 := ⟨fun _ _ _ => rfl, fun _ _ => rfl, e25, fun j hj => absurd hj (by omega), fun _ _ => rfl⟩
  refine wp_g2 ((n + 3) / 4) (fun t x h1 => x = nI (4 * t) ∧ SM h h1 ∧ ∃ w1, RC h1 w1 P ad ∧ WF w1 P ∧ TP w w1 (hI h b) n (min n (4 * t))) ⟨rfl, SM.refl h, w, R, G, by rw [Nat.mul_zero, Nat.min_zero]; exact tp0⟩ (by omega) ?_ ?_
  · rintro L2 x h1 ⟨rfl, s, w1, R1, G1, T1⟩
    rw [show min n (4 * ((n + 3) / 4)) = n by omega] at T1
    rw [if_pos (show nI n ≤ nI (4 * ((n + 3) / 4)) by rw [nI_leI (by omega) (by omega)]; omega)]
    refine wp_rO.mpr ⟨okT0 R1.l, wp_cl.mpr (wp_mono (c_count R1 G1.WN 7) ?_)⟩
    rintro v h2 ⟨rfl, rfl⟩
    have e7 : s_count w1 7 = nI n := T1.2.2.1
    rw [e7]
    refine wp_jn.mpr ?_
    rw [if_pos rfl]
    exact wp_rz.mpr ⟨Or.inr rfl, rfl, s, w1, R1, G1, T1⟩
  · rintro L2 t x h1 ht ⟨rfl, s, w1, R1, G1, T1⟩ ih
    have h4 : 4 * t < n := by omega
    rw [show min n (4 * t) = 4 * t by omega] at T1
    rw [if_neg (show ¬ nI n ≤ nI (4 * t) by rw [nI_leI (by omega) (by omega)]; omega)]
    generalize hm : min 4 (n - 4 * t) = m
    have em : (if nI n - nI (4 * t) < (4 : Int32) then nI n - nI (4 * t) else (4 : Int32)) = nI m := by
      rw [nI_sub (by omega)]
      by_cases c : n - 4 * t < 4
      · have c' : nI (n - 4 * t) < (4 : Int32) := by
          show nI _ < nI 4
          rw [nI_ltI (by omega) (by omega)]; exact c
        rw [if_pos c', ← hm, Nat.min_eq_right (by omega)]
      · have c' : ¬ nI (n - 4 * t) < (4 : Int32) := by
          show ¬ nI _ < nI 4
          rw [nI_ltI (by omega) (by omega)]; exact c
        rw [if_neg c', ← hm, Nat.min_eq_left (by omega)]
        rfl
    rw [em]
    refine wp_g4 m (fun j x6 x7 x8 h9 => x6 = nI (4 * t) ∧ x7 = vv (hI h b) (4 * t) j ∧ x8 = nI j ∧ h9 = h1) ⟨rfl, rfl, rfl, rfl⟩ (by omega) ?_ ?_
    · rintro L22 x6 x7 x8 h9 ⟨rfl, rfl, rfl, rfl⟩
      rw [if_pos (Int32.le_refl _)]
      refine wp_rO.mpr ⟨okT0 R1.l, wp_cl.mpr (wp_mono (c_feed R1 G1.WF1 (nI m) (vv (hI h b) (4 * t) m)) ?_)⟩
      have ef : s_feed w1 (nI m) (vv (hI h b) (4 * t) m) = (nI (4 * t + m), fed w1 (4 * t) (vv (hI h b) (4 * t) m) m) := by
        unfold s_feed
        have c1 : (1 : Int32) ≤ nI m := by
          show nI 1 ≤ nI m
          rw [nI_leI (by omega) (by omega)]; omega
        have c2 : nI m ≤ (4 : Int32) := by
          show nI m ≤ nI 4
          rw [nI_leI (by omega) (by omega)]; omega
        have c3 : nI (4 * t + m) ≤ (160 : Int32) := by
          show nI (4 * t + m) ≤ nI 160
          rw [nI_leI (by omega) (by omega)]; omega
        rw [if_pos ⟨c1, c2⟩, T1.2.2.1, nI_add, if_pos c3, nI_clamp (by omega), nI_clamp (by omega)]
      have kp := kp_feed G1 (nI m) (vv (hI h b) (4 * t) m)
      rw [ef] at kp
      rintro v h2 ⟨rfl, R2, s2⟩
      rw [ef] at R2 ⊢
      rw [nI_add, if_pos rfl]
      refine ih _ _ ⟨by rw [nI_p4]; rfl, s.trans s2, _, R2, kp, ?_⟩
      rw [show min n (4 * (t + 1)) = 4 * t + m by omega]
      exact T1.fed h4 hm.symm
    · rintro L22 j x6 x7 x8 h9 hj ⟨rfl, rfl, rfl, rfl⟩ ih2
      rw [if_neg (show ¬ nI m ≤ nI j by rw [nI_leI (by omega) (by omega)]; omega), nI_add]
      refine wp_aF.mpr ⟨okA_in hb (by omega) (by omega), ?_⟩
      rw [nI_clamp (by omega)]
      exact ih2 _ _ _ _ ⟨rfl, rfl, nI_1 j, rfl⟩
