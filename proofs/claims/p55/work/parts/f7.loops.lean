/-! THE LAW'S LOOPS -/
def b2i (b : Bool) : Int32 := if b = true then 1 else 0
theorem b2i_or (a b : Bool) : b2i a ||| b2i b = b2i (a || b) := by cases a <;> cases b <;> decide
theorem b2i_and (a b : Bool) : b2i a &&& b2i b = b2i (a && b) := by cases a <;> cases b <;> decide
def allN (p : Nat → Bool) : Nat → Bool
  | 0 => true
  | n + 1 => allN p n && p n
theorem allN_iff {p : Nat → Bool} : ∀ {n : Nat}, allN p n = true ↔ ∀ i, i < n → p i = true
  | 0 => ⟨fun _ i h => absurd h (by omega), fun _ => rfl⟩
  | n + 1 => by
    show (allN p n && p n) = true ↔ _
    rw [Bool.and_eq_true, allN_iff]
    refine ⟨fun h i hi => ?_, fun h => ⟨fun i hi => h i (by omega), h n (by omega)⟩⟩
    by_cases c : i = n
    · subst c; exact h.2
    · exact h.1 i (by omega)
/-- the row of a turn's cells: its own one, then its steps -/
def LT (h : AH) (T : Nat) (to : Nat → Nat) : Prop := 121 ≤ T ∧ (hS h)[T]? = some (28, 3) ∧ ∀ j, j < 3 → hI h T j = nI (to j) ∧ to j < 60
theorem LT.q {h g : AH} {T : Nat} {to : Nat → Nat} (t : LT h T to) (q : LQ h g) : LT g T to := by
  obtain ⟨a, b, c⟩ := t
  obtain ⟨q1, q2, -⟩ := q.2 _ _ b (by decide)
  exact ⟨a, q1, fun j hj => by rw [q2]; exact c j hj⟩
/-- the steps asked for -/
def StW (w : AH) (to : Nat → Nat) (s : Nat) : Prop := nS w = s ∧ hI w 49 11 = nI s ∧ ∀ j, j < s → hI w 58 j = nI (to (j + 1))
section
variable {β : Type} {k n : Nat} {h w : AH} {P : Nat → Prog} {Q : β → AH → Prop} {T st : Nat} {to : Nat → Nat}
set_option maxHeartbeats 4000000 in
theorem lp548 (hn : n ≤ 60) (hst : st ≤ 2) (I : LI k h w P n) (t : LT h T to) (s0 : StW w to 0) {EX : AH → Option (β × AH)} {BAD : AH → Option (β × AH)} (ex : ∀ g u, LI k g u P n → LT g T to → StW u to st → wp (EX g) Q) :
    wp (lp (fun _ _ => none) (fun (L548 : Int32 → AH → Option (β × AH)) (x94 : Int32) (h95 : AH) =>
      if nI st < x94 then EX h95
      else
        aI h95 28 (some T) x94 fun v192 =>
        rO h95 [11] (some 0) <| clR h95 (f_X11_step (some 0) v192 h95) fun v194 h193 =>
        if v194 = x94 then L548 (x94 + 1) h193 else BAD h193) lpN (1 : Int32) h) Q := by
  refine wp_g2 st (fun s x g => x = nI (s + 1) ∧ LT g T to ∧ ∃ u, LI k g u P n ∧ StW u to s) ⟨rfl, t, w, I, s0⟩ (by omega) ?_ ?_
  · rintro L x g ⟨rfl, t1, u, I1, s1⟩
    rw [if_pos (show nI st < nI (st + 1) by rw [nI_ltI (by omega) (by omega)]; omega)]
    exact ex g u I1 t1 s1
  · rintro L s x g hs ⟨rfl, t1, u, I1, s1⟩ ih
    rw [if_neg (show ¬ nI st < nI (s + 1) by rw [nI_ltI (by omega) (by omega)]; omega)]
    refine wp_aI.mpr ⟨okA_in t1.2.1 (by omega) (by omega), ?_⟩
    rw [nI_clamp (by omega), q_gI, (t1.2.2 (s + 1) (by omega)).1]
    have hto := (t1.2.2 (s + 1) (by omega)).2
    refine z_step I1.1 _ (fun g2 Z2 q2 => ?_)
    obtain ⟨e1, e2, e3⟩ := s1
    have es : s_step u (nI (to (s + 1))) = (nI (s + 1), wI (wI u 58 s (nI (to (s + 1)))) 49 11 (nI (s + 1))) := by
      unfold s_step
      rw [e1, if_pos ⟨nI_pos' (by omega), show nI (to (s + 1)) < nI 60 by rw [nI_ltI (by omega) (by omega)]; exact hto⟩, if_neg (by omega)]
    rw [es] at Z2 ⊢
    rw [if_pos rfl]
    refine ih _ _ ⟨nI_1 _, t1.q q2, _, I1.w hn Z2 q2 (fun j hj => ?_) (fun a ha => ?_), ?_, q_at, fun j hj => ?_⟩
    · simp only [List.mem_cons, List.not_mem_nil, or_false] at hj
      rw [q_atne (by omega), q_ne (by decide)]
    · simp only [List.mem_cons, List.not_mem_nil, or_false] at ha
      rw [q_ne (by omega), q_ne (by omega)]
    · unfold nS
      rw [q_at, nI_clamp (by omega)]
    · rw [q_ne (by decide)]
      by_cases c : j = s
      · subst c; exact q_at
      · rw [q_atne c]; exact e3 j (by omega)
set_option maxHeartbeats 4000000 in
theorem lp690 (hst : st ≤ 2) (A : LA h) (t : LT h T to) {home kind : Int32} {EX : Int32 → AH → Option (β × AH)} (ex : wp (EX (b2i (allN (fun j => lets (hI h 55 (to j)) kind (far_ home (nI (to j)))) (st + 1))) h) Q) :
    wp (lp (fun _ _ _ => none) (fun (L690 : Int32 → Int32 → AH → Option (β × AH)) (x101 : Int32) (x102 : Int32) (h103 : AH) =>
      if nI st < x102 then EX x101 h103
      else
        aI h103 28 (some T) x102 fun v170 =>
        aI h103 28 (some 55) v170 fun v171 =>
        jn (fun (x172 : Int32) (h173 : AH) => L690 (x101 &&& x172) (x102 + 1) h173) fun j747 =>
        jn (fun (h174 : AH) => j747 (1 : Int32) h174) fun j742 =>
        if v171 < 0 then j742 h103
        else
          aI h103 28 (some T) x102 fun v175 =>
          aI h103 28 (some 55) v175 fun v176 =>
          jn (fun (h177 : AH) => j747 (0 : Int32) h177) fun j746 =>
          if v176 = (3 : Int32) then
            if kind = (1 : Int32) then j742 h103
            else
              aI h103 28 (some T) x102 fun v178 =>
              clR h103 (f_L_far home v178 h103) fun v180 h179 =>
              if (4 : Int32) ≤ v180 then j746 h179 else j742 h179
          else j746 h103) lpN (1 : Int32) (0 : Int32) h) Q := by
  refine wp_g3 (st + 1) (fun i x y g => x = b2i (allN (fun j => lets (hI h 55 (to j)) kind (far_ home (nI (to j)))) i) ∧ y = nI i ∧ g = h) ⟨rfl, rfl, rfl⟩ (by omega) ?_ ?_
  · rintro L x y g ⟨rfl, rfl, rfl⟩
    rw [if_pos (show nI st < nI (st + 1) by rw [nI_ltI (by omega) (by omega)]; omega)]
    exact ex
  · rintro L i x y g hi ⟨rfl, rfl, rfl⟩ ih
    rw [if_neg (show ¬ nI st < nI i by rw [nI_ltI (by omega) (by omega)]; omega)]
    obtain ⟨e1, hto⟩ := t.2.2 i (by omega)
    have ok1 := okA_in t.2.1 (show i < 3 by omega) (by omega)
    have ok2 := okA_in A.1.1 (show to i < 60 by omega) (by omega)
    refine wp_aI.mpr ⟨ok1, ?_⟩
    rw [nI_clamp (by omega), q_gI, e1]
    refine wp_aI.mpr ⟨ok2, ?_⟩
    rw [nI_clamp (by omega), q_gI]
    refine wp_jnP (fun j => ∀ b, b = lets (g.2.1 55 (to i)) kind (far_ home (nI (to i))) → wp (j (b2i b) g) Q) (fun b hb => ?_) (fun j747 h747 => ?_)
    · refine ih _ _ _ ⟨?_, nI_1 i, rfl⟩
      rw [b2i_and, hb]
      rfl
    · refine wp_jnP (fun j => lets (hI g 55 (to i)) kind (far_ home (nI (to i))) = true → wp (j g) Q) (fun hb => h747 true hb.symm) (fun j742 h742 => ?_)
      by_cases c : hI g 55 (to i) < 0
      · rw [if_pos c]
        exact h742 (by unfold lets; rw [decide_eq_true c]; rfl)
      · rw [if_neg c]
        refine wp_aI.mpr ⟨ok1, ?_⟩
        rw [nI_clamp (by omega), q_gI, e1]
        refine wp_aI.mpr ⟨ok2, ?_⟩
        rw [nI_clamp (by omega), q_gI]
        refine wp_jnP (fun j => lets (hI g 55 (to i)) kind (far_ home (nI (to i))) = false → wp (j g) Q) (fun hb => h747 false hb.symm) (fun j746 h746 => ?_)
        by_cases d : hI g 55 (to i) = 3
        · rw [if_pos d]
          by_cases f : kind = 1
          · rw [if_pos f]
            exact h742 (by unfold lets; rw [decide_eq_true d, decide_eq_true f]; simp)
          · rw [if_neg f]
            refine wp_aI.mpr ⟨ok1, ?_⟩
            rw [nI_clamp (by omega), q_gI, e1]
            refine z_far _ _ ?_
            by_cases l : (4 : Int32) ≤ far_ home (nI (to i))
            · rw [if_pos l]
              exact h746 (by unfold lets; rw [decide_eq_false c, decide_eq_false f, decide_eq_false (show ¬ far_ home (nI (to i)) < 4 from Int32.not_lt.mpr l)]; simp)
            · rw [if_neg l]
              exact h742 (by unfold lets; rw [decide_eq_true d, decide_eq_true (show far_ home (nI (to i)) < 4 from Int32.not_le.mp l)]; simp)
        · rw [if_neg d]
          exact h746 (by unfold lets; rw [decide_eq_false c, decide_eq_false d]; rfl)
end
