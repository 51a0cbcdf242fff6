theorem wp_g1 {α A0 : Type} {F : (A0 → Option (α × AH)) → A0 → Option (α × AH)} {Q : α → AH → Prop} (N : Nat) (I : Nat → A0 → Prop) {a0 : A0} (h0 : I 0 a0) (hN : N < 1000000) (stop : ∀ (G : A0 → Option (α × AH)) x0, I N x0 → wp (F G x0) Q) (step : ∀ (G : A0 → Option (α × AH)) (i : Nat) x0, i < N → I i x0 → (∀ y0, I (i + 1) y0 → wp (G y0) Q) → wp (F G x0) Q) : wp (lp (fun _ => none) F lpN a0) Q := by
  have key : ∀ (k i : Nat) x0, i ≤ N → N - i < k → I i x0 → wp (lp (fun _ => none) F k x0) Q := by
    intro k
    induction k with
    | zero => intro i x0 h1 h2; omega
    | succ k ih =>
      intro i x0 h1 h2 h3
      rcases Nat.eq_or_lt_of_le h1 with e | e
      · subst e; exact stop (lp (fun _ => none) F k) x0 h3
      · exact step (lp (fun _ => none) F k) i x0 e h3 (fun y0 h5 => ih (i + 1) y0 (by omega) (by omega) h5)
  exact key lpN 0 a0 (Nat.zero_le N) (by rw [lpN_eq]; omega) h0
theorem wp_d1 {α A0 : Type} {F : (A0 → Option (α × AH)) → A0 → Option (α × AH)} {Q : α → AH → Prop} (N : Nat) (I : Nat → A0 → Prop) {a0 : A0} (h0 : I N a0) (hN : N < 1000000) (stop : ∀ (G : A0 → Option (α × AH)) x0, I 0 x0 → wp (F G x0) Q) (step : ∀ (G : A0 → Option (α × AH)) (j : Nat) x0, j < N → I (j + 1) x0 → (∀ y0, I j y0 → wp (G y0) Q) → wp (F G x0) Q) : wp (lp (fun _ => none) F lpN a0) Q := by
  have key : ∀ (k j : Nat) x0, j ≤ N → j < k → I j x0 → wp (lp (fun _ => none) F k x0) Q := by
    intro k
    induction k with
    | zero => intro j x0 h1 h2; omega
    | succ k ih =>
      intro j x0 h1 h2 h3
      match j, h1, h2, h3 with
      | 0, h1, h2, h3 => exact stop (lp (fun _ => none) F k) x0 h3
      | j + 1, h1, h2, h3 => exact step (lp (fun _ => none) F k) j x0 (by omega) h3 (fun y0 h5 => ih j y0 (by omega) (by omega) h5)
  exact key lpN N a0 (Nat.le_refl N) (by rw [lpN_eq]; omega) h0
theorem wp_g2 {α A0 A1 : Type} {F : (A0 → A1 → Option (α × AH)) → A0 → A1 → Option (α × AH)} {Q : α → AH → Prop} (N : Nat) (I : Nat → A0 → A1 → Prop) {a0 : A0} {a1 : A1} (h0 : I 0 a0 a1) (hN : N < 1000000) (stop : ∀ (G : A0 → A1 → Option (α × AH)) x0 x1, I N x0 x1 → wp (F G x0 x1) Q) (step : ∀ (G : A0 → A1 → Option (α × AH)) (i : Nat) x0 x1, i < N → I i x0 x1 → (∀ y0 y1, I (i + 1) y0 y1 → wp (G y0 y1) Q) → wp (F G x0 x1) Q) : wp (lp (fun _ _ => none) F lpN a0 a1) Q := by
  have key : ∀ (k i : Nat) x0 x1, i ≤ N → N - i < k → I i x0 x1 → wp (lp (fun _ _ => none) F k x0 x1) Q := by
    intro k
    induction k with
    | zero => intro i x0 x1 h1 h2; omega
    | succ k ih =>
      intro i x0 x1 h1 h2 h3
      rcases Nat.eq_or_lt_of_le h1 with e | e
      · subst e; exact stop (lp (fun _ _ => none) F k) x0 x1 h3
      · exact step (lp (fun _ _ => none) F k) i x0 x1 e h3 (fun y0 y1 h5 => ih (i + 1) y0 y1 (by omega) (by omega) h5)
  exact key lpN 0 a0 a1 (Nat.zero_le N) (by rw [lpN_eq]; omega) h0
theorem wp_d2 {α A0 A1 : Type} {F : (A0 → A1 → Option (α × AH)) → A0 → A1 → Option (α × AH)} {Q : α → AH → Prop} (N : Nat) (I : Nat → A0 → A1 → Prop) {a0 : A0} {a1 : A1} (h0 : I N a0 a1) (hN : N < 1000000) (stop : ∀ (G : A0 → A1 → Option (α × AH)) x0 x1, I 0 x0 x1 → wp (F G x0 x1) Q) (step : ∀ (G : A0 → A1 → Option (α × AH)) (j : Nat) x0 x1, j < N → I (j + 1) x0 x1 → (∀ y0 y1, I j y0 y1 → wp (G y0 y1) Q) → wp (F G x0 x1) Q) : wp (lp (fun _ _ => none) F lpN a0 a1) Q := by
  have key : ∀ (k j : Nat) x0 x1, j ≤ N → j < k → I j x0 x1 → wp (lp (fun _ _ => none) F k x0 x1) Q := by
    intro k
    induction k with
    | zero => intro j x0 x1 h1 h2; omega
    | succ k ih =>
      intro j x0 x1 h1 h2 h3
      match j, h1, h2, h3 with
      | 0, h1, h2, h3 => exact stop (lp (fun _ _ => none) F k) x0 x1 h3
      | j + 1, h1, h2, h3 => exact step (lp (fun _ _ => none) F k) j x0 x1 (by omega) h3 (fun y0 y1 h5 => ih j y0 y1 (by omega) (by omega) h5)
  exact key lpN N a0 a1 (Nat.le_refl N) (by rw [lpN_eq]; omega) h0
theorem wp_g3 {α A0 A1 A2 : Type} {F : (A0 → A1 → A2 → Option (α × AH)) → A0 → A1 → A2 → Option (α × AH)} {Q : α → AH → Prop} (N : Nat) (I : Nat → A0 → A1 → A2 → Prop) {a0 : A0} {a1 : A1} {a2 : A2} (h0 : I 0 a0 a1 a2) (hN : N < 1000000) (stop : ∀ (G : A0 → A1 → A2 → Option (α × AH)) x0 x1 x2, I N x0 x1 x2 → wp (F G x0 x1 x2) Q) (step : ∀ (G : A0 → A1 → A2 → Option (α × AH)) (i : Nat) x0 x1 x2, i < N → I i x0 x1 x2 → (∀ y0 y1 y2, I (i + 1) y0 y1 y2 → wp (G y0 y1 y2) Q) → wp (F G x0 x1 x2) Q) : wp (lp (fun _ _ _ => none) F lpN a0 a1 a2) Q := by
  have key : ∀ (k i : Nat) x0 x1 x2, i ≤ N → N - i < k → I i x0 x1 x2 → wp (lp (fun _ _ _ => none) F k x0 x1 x2) Q := by
    intro k
    induction k with
    | zero => intro i x0 x1 x2 h1 h2; omega
    | succ k ih =>
      intro i x0 x1 x2 h1 h2 h3
      rcases Nat.eq_or_lt_of_le h1 with e | e
      · subst e; exact stop (lp (fun _ _ _ => none) F k) x0 x1 x2 h3
      · exact step (lp (fun _ _ _ => none) F k) i x0 x1 x2 e h3 (fun y0 y1 y2 h5 => ih (i + 1) y0 y1 y2 (by omega) (by omega) h5)
  exact key lpN 0 a0 a1 a2 (Nat.zero_le N) (by rw [lpN_eq]; omega) h0
theorem wp_d3 {α A0 A1 A2 : Type} {F : (A0 → A1 → A2 → Option (α × AH)) → A0 → A1 → A2 → Option (α × AH)} {Q : α → AH → Prop} (N : Nat) (I : Nat → A0 → A1 → A2 → Prop) {a0 : A0} {a1 : A1} {a2 : A2} (h0 : I N a0 a1 a2) (hN : N < 1000000) (stop : ∀ (G : A0 → A1 → A2 → Option (α × AH)) x0 x1 x2, I 0 x0 x1 x2 → wp (F G x0 x1 x2) Q) (step : ∀ (G : A0 → A1 → A2 → Option (α × AH)) (j : Nat) x0 x1 x2, j < N → I (j + 1) x0 x1 x2 → (∀ y0 y1 y2, I j y0 y1 y2 → wp (G y0 y1 y2) Q) → wp (F G x0 x1 x2) Q) : wp (lp (fun _ _ _ => none) F lpN a0 a1 a2) Q := by
  have key : ∀ (k j : Nat) x0 x1 x2, j ≤ N → j < k → I j x0 x1 x2 → wp (lp (fun _ _ _ => none) F k x0 x1 x2) Q := by
    intro k
    induction k with
    | zero => intro j x0 x1 x2 h1 h2; omega
    | succ k ih =>
      intro j x0 x1 x2 h1 h2 h3
      match j, h1, h2, h3 with
      | 0, h1, h2, h3 => exact stop (lp (fun _ _ _ => none) F k) x0 x1 x2 h3
      | j + 1, h1, h2, h3 => exact step (lp (fun _ _ _ => none) F k) j x0 x1 x2 (by omega) h3 (fun y0 y1 y2 h5 => ih j y0 y1 y2 (by omega) (by omega) h5)
  exact key lpN N a0 a1 a2 (Nat.le_refl N) (by rw [lpN_eq]; omega) h0
theorem wp_g4 {α A0 A1 A2 A3 : Type} {F : (A0 → A1 → A2 → A3 → Option (α × AH)) → A0 → A1 → A2 → A3 → Option (α × AH)} {Q : α → AH → Prop} (N : Nat) (I : Nat → A0 → A1 → A2 → A3 → Prop) {a0 : A0} {a1 : A1} {a2 : A2} {a3 : A3} (h0 : I 0 a0 a1 a2 a3) (hN : N < 1000000) (stop : ∀ (G : A0 → A1 → A2 → A3 → Option (α × AH)) x0 x1 x2 x3, I N x0 x1 x2 x3 → wp (F G x0 x1 x2 x3) Q) (step : ∀ (G : A0 → A1 → A2 → A3 → Option (α × AH)) (i : Nat) x0 x1 x2 x3, i < N → I i x0 x1 x2 x3 → (∀ y0 y1 y2 y3, I (i + 1) y0 y1 y2 y3 → wp (G y0 y1 y2 y3) Q) → wp (F G x0 x1 x2 x3) Q) : wp (lp (fun _ _ _ _ => none) F lpN a0 a1 a2 a3) Q := by
  have key : ∀ (k i : Nat) x0 x1 x2 x3, i ≤ N → N - i < k → I i x0 x1 x2 x3 → wp (lp (fun _ _ _ _ => none) F k x0 x1 x2 x3) Q := by
    intro k
    induction k with
    | zero => intro i x0 x1 x2 x3 h1 h2; omega
    | succ k ih =>
      intro i x0 x1 x2 x3 h1 h2 h3
      rcases Nat.eq_or_lt_of_le h1 with e | e
      · subst e; exact stop (lp (fun _ _ _ _ => none) F k) x0 x1 x2 x3 h3
      · exact step (lp (fun _ _ _ _ => none) F k) i x0 x1 x2 x3 e h3 (fun y0 y1 y2 y3 h5 => ih (i + 1) y0 y1 y2 y3 (by omega) (by omega) h5)
  exact key lpN 0 a0 a1 a2 a3 (Nat.zero_le N) (by rw [lpN_eq]; omega) h0
theorem wp_d4 {α A0 A1 A2 A3 : Type} {F : (A0 → A1 → A2 → A3 → Option (α × AH)) → A0 → A1 → A2 → A3 → Option (α × AH)} {Q : α → AH → Prop} (N : Nat) (I : Nat → A0 → A1 → A2 → A3 → Prop) {a0 : A0} {a1 : A1} {a2 : A2} {a3 : A3} (h0 : I N a0 a1 a2 a3) (hN : N < 1000000) (stop : ∀ (G : A0 → A1 → A2 → A3 → Option (α × AH)) x0 x1 x2 x3, I 0 x0 x1 x2 x3 → wp (F G x0 x1 x2 x3) Q) (step : ∀ (G : A0 → A1 → A2 → A3 → Option (α × AH)) (j : Nat) x0 x1 x2 x3, j < N → I (j + 1) x0 x1 x2 x3 → (∀ y0 y1 y2 y3, I j y0 y1 y2 y3 → wp (G y0 y1 y2 y3) Q) → wp (F G x0 x1 x2 x3) Q) : wp (lp (fun _ _ _ _ => none) F lpN a0 a1 a2 a3) Q := by
  have key : ∀ (k j : Nat) x0 x1 x2 x3, j ≤ N → j < k → I j x0 x1 x2 x3 → wp (lp (fun _ _ _ _ => none) F k x0 x1 x2 x3) Q := by
    intro k
    induction k with
    | zero => intro j x0 x1 x2 x3 h1 h2; omega
    | succ k ih =>
      intro j x0 x1 x2 x3 h1 h2 h3
      match j, h1, h2, h3 with
      | 0, h1, h2, h3 => exact stop (lp (fun _ _ _ _ => none) F k) x0 x1 x2 x3 h3
      | j + 1, h1, h2, h3 => exact step (lp (fun _ _ _ _ => none) F k) j x0 x1 x2 x3 (by omega) h3 (fun y0 y1 y2 y3 h5 => ih j y0 y1 y2 y3 (by omega) (by omega) h5)
  exact key lpN N a0 a1 a2 a3 (Nat.le_refl N) (by rw [lpN_eq]; omega) h0
theorem wp_g5 {α A0 A1 A2 A3 A4 : Type} {F : (A0 → A1 → A2 → A3 → A4 → Option (α × AH)) → A0 → A1 → A2 → A3 → A4 → Option (α × AH)} {Q : α → AH → Prop} (N : Nat) (I : Nat → A0 → A1 → A2 → A3 → A4 → Prop) {a0 : A0} {a1 : A1} {a2 : A2} {a3 : A3} {a4 : A4} (h0 : I 0 a0 a1 a2 a3 a4) (hN : N < 1000000) (stop : ∀ (G : A0 → A1 → A2 → A3 → A4 → Option (α × AH)) x0 x1 x2 x3 x4, I N x0 x1 x2 x3 x4 → wp (F G x0 x1 x2 x3 x4) Q) (step : ∀ (G : A0 → A1 → A2 → A3 → A4 → Option (α × AH)) (i : Nat) x0 x1 x2 x3 x4, i < N → I i x0 x1 x2 x3 x4 → (∀ y0 y1 y2 y3 y4, I (i + 1) y0 y1 y2 y3 y4 → wp (G y0 y1 y2 y3 y4) Q) → wp (F G x0 x1 x2 x3 x4) Q) : wp (lp (fun _ _ _ _ _ => none) F lpN a0 a1 a2 a3 a4) Q := by
  have key : ∀ (k i : Nat) x0 x1 x2 x3 x4, i ≤ N → N - i < k → I i x0 x1 x2 x3 x4 → wp (lp (fun _ _ _ _ _ => none) F k x0 x1 x2 x3 x4) Q := by
    intro k
    induction k with
    | zero => intro i x0 x1 x2 x3 x4 h1 h2; omega
    | succ k ih =>
      intro i x0 x1 x2 x3 x4 h1 h2 h3
      rcases Nat.eq_or_lt_of_le h1 with e | e
      · subst e; exact stop (lp (fun _ _ _ _ _ => none) F k) x0 x1 x2 x3 x4 h3
      · exact step (lp (fun _ _ _ _ _ => none) F k) i x0 x1 x2 x3 x4 e h3 (fun y0 y1 y2 y3 y4 h5 => ih (i + 1) y0 y1 y2 y3 y4 (by omega) (by omega) h5)
  exact key lpN 0 a0 a1 a2 a3 a4 (Nat.zero_le N) (by rw [lpN_eq]; omega) h0
theorem wp_d5 {α A0 A1 A2 A3 A4 : Type} {F : (A0 → A1 → A2 → A3 → A4 → Option (α × AH)) → A0 → A1 → A2 → A3 → A4 → Option (α × AH)} {Q : α → AH → Prop} (N : Nat) (I : Nat → A0 → A1 → A2 → A3 → A4 → Prop) {a0 : A0} {a1 : A1} {a2 : A2} {a3 : A3} {a4 : A4} (h0 : I N a0 a1 a2 a3 a4) (hN : N < 1000000) (stop : ∀ (G : A0 → A1 → A2 → A3 → A4 → Option (α × AH)) x0 x1 x2 x3 x4, I 0 x0 x1 x2 x3 x4 → wp (F G x0 x1 x2 x3 x4) Q) (step : ∀ (G : A0 → A1 → A2 → A3 → A4 → Option (α × AH)) (j : Nat) x0 x1 x2 x3 x4, j < N → I (j + 1) x0 x1 x2 x3 x4 → (∀ y0 y1 y2 y3 y4, I j y0 y1 y2 y3 y4 → wp (G y0 y1 y2 y3 y4) Q) → wp (F G x0 x1 x2 x3 x4) Q) : wp (lp (fun _ _ _ _ _ => none) F lpN a0 a1 a2 a3 a4) Q := by
  have key : ∀ (k j : Nat) x0 x1 x2 x3 x4, j ≤ N → j < k → I j x0 x1 x2 x3 x4 → wp (lp (fun _ _ _ _ _ => none) F k x0 x1 x2 x3 x4) Q := by
    intro k
    induction k with
    | zero => intro j x0 x1 x2 x3 x4 h1 h2; omega
    | succ k ih =>
      intro j x0 x1 x2 x3 x4 h1 h2 h3
      match j, h1, h2, h3 with
      | 0, h1, h2, h3 => exact stop (lp (fun _ _ _ _ _ => none) F k) x0 x1 x2 x3 x4 h3
      | j + 1, h1, h2, h3 => exact step (lp (fun _ _ _ _ _ => none) F k) j x0 x1 x2 x3 x4 (by omega) h3 (fun y0 y1 y2 y3 y4 h5 => ih j y0 y1 y2 y3 y4 (by omega) (by omega) h5)
  exact key lpN N a0 a1 a2 a3 a4 (Nat.le_refl N) (by rw [lpN_eq]; omega) h0
theorem wp_g6 {α A0 A1 A2 A3 A4 A5 : Type} {F : (A0 → A1 → A2 → A3 → A4 → A5 → Option (α × AH)) → A0 → A1 → A2 → A3 → A4 → A5 → Option (α × AH)} {Q : α → AH → Prop} (N : Nat) (I : Nat → A0 → A1 → A2 → A3 → A4 → A5 → Prop) {a0 : A0} {a1 : A1} {a2 : A2} {a3 : A3} {a4 : A4} {a5 : A5} (h0 : I 0 a0 a1 a2 a3 a4 a5) (hN : N < 1000000) (stop : ∀ (G : A0 → A1 → A2 → A3 → A4 → A5 → Option (α × AH)) x0 x1 x2 x3 x4 x5, I N x0 x1 x2 x3 x4 x5 → wp (F G x0 x1 x2 x3 x4 x5) Q) (step : ∀ (G : A0 → A1 → A2 → A3 → A4 → A5 → Option (α × AH)) (i : Nat) x0 x1 x2 x3 x4 x5, i < N → I i x0 x1 x2 x3 x4 x5 → (∀ y0 y1 y2 y3 y4 y5, I (i + 1) y0 y1 y2 y3 y4 y5 → wp (G y0 y1 y2 y3 y4 y5) Q) → wp (F G x0 x1 x2 x3 x4 x5) Q) : wp (lp (fun _ _ _ _ _ _ => none) F lpN a0 a1 a2 a3 a4 a5) Q := by
  have key : ∀ (k i : Nat) x0 x1 x2 x3 x4 x5, i ≤ N → N - i < k → I i x0 x1 x2 x3 x4 x5 → wp (lp (fun _ _ _ _ _ _ => none) F k x0 x1 x2 x3 x4 x5) Q := by
    intro k
    induction k with
    | zero => intro i x0 x1 x2 x3 x4 x5 h1 h2; omega
    | succ k ih =>
      intro i x0 x1 x2 x3 x4 x5 h1 h2 h3
      rcases Nat.eq_or_lt_of_le h1 with e | e
      · subst e; exact stop (lp (fun _ _ _ _ _ _ => none) F k) x0 x1 x2 x3 x4 x5 h3
      · exact step (lp (fun _ _ _ _ _ _ => none) F k) i x0 x1 x2 x3 x4 x5 e h3 (fun y0 y1 y2 y3 y4 y5 h5 => ih (i + 1) y0 y1 y2 y3 y4 y5 (by omega) (by omega) h5)
  exact key lpN 0 a0 a1 a2 a3 a4 a5 (Nat.zero_le N) (by rw [lpN_eq]; omega) h0
theorem wp_d6 {α A0 A1 A2 A3 A4 A5 : Type} {F : (A0 → A1 → A2 → A3 → A4 → A5 → Option (α × AH)) → A0 → A1 → A2 → A3 → A4 → A5 → Option (α × AH)} {Q : α → AH → Prop} (N : Nat) (I : Nat → A0 → A1 → A2 → A3 → A4 → A5 → Prop) {a0 : A0} {a1 : A1} {a2 : A2} {a3 : A3} {a4 : A4} {a5 : A5} (h0 : I N a0 a1 a2 a3 a4 a5) (hN : N < 1000000) (stop : ∀ (G : A0 → A1 → A2 → A3 → A4 → A5 → Option (α × AH)) x0 x1 x2 x3 x4 x5, I 0 x0 x1 x2 x3 x4 x5 → wp (F G x0 x1 x2 x3 x4 x5) Q) (step : ∀ (G : A0 → A1 → A2 → A3 → A4 → A5 → Option (α × AH)) (j : Nat) x0 x1 x2 x3 x4 x5, j < N → I (j + 1) x0 x1 x2 x3 x4 x5 → (∀ y0 y1 y2 y3 y4 y5, I j y0 y1 y2 y3 y4 y5 → wp (G y0 y1 y2 y3 y4 y5) Q) → wp (F G x0 x1 x2 x3 x4 x5) Q) : wp (lp (fun _ _ _ _ _ _ => none) F lpN a0 a1 a2 a3 a4 a5) Q := by
  have key : ∀ (k j : Nat) x0 x1 x2 x3 x4 x5, j ≤ N → j < k → I j x0 x1 x2 x3 x4 x5 → wp (lp (fun _ _ _ _ _ _ => none) F k x0 x1 x2 x3 x4 x5) Q := by
    intro k
    induction k with
    | zero => intro j x0 x1 x2 x3 x4 x5 h1 h2; omega
    | succ k ih =>
      intro j x0 x1 x2 x3 x4 x5 h1 h2 h3
      match j, h1, h2, h3 with
      | 0, h1, h2, h3 => exact stop (lp (fun _ _ _ _ _ _ => none) F k) x0 x1 x2 x3 x4 x5 h3
      | j + 1, h1, h2, h3 => exact step (lp (fun _ _ _ _ _ _ => none) F k) j x0 x1 x2 x3 x4 x5 (by omega) h3 (fun y0 y1 y2 y3 y4 y5 h5 => ih j y0 y1 y2 y3 y4 y5 (by omega) (by omega) h5)
  exact key lpN N a0 a1 a2 a3 a4 a5 (Nat.le_refl N) (by rw [lpN_eq]; omega) h0
theorem wp_g7 {α A0 A1 A2 A3 A4 A5 A6 : Type} {F : (A0 → A1 → A2 → A3 → A4 → A5 → A6 → Option (α × AH)) → A0 → A1 → A2 → A3 → A4 → A5 → A6 → Option (α × AH)} {Q : α → AH → Prop} (N : Nat) (I : Nat → A0 → A1 → A2 → A3 → A4 → A5 → A6 → Prop) {a0 : A0} {a1 : A1} {a2 : A2} {a3 : A3} {a4 : A4} {a5 : A5} {a6 : A6} (h0 : I 0 a0 a1 a2 a3 a4 a5 a6) (hN : N < 1000000) (stop : ∀ (G : A0 → A1 → A2 → A3 → A4 → A5 → A6 → Option (α × AH)) x0 x1 x2 x3 x4 x5 x6, I N x0 x1 x2 x3 x4 x5 x6 → wp (F G x0 x1 x2 x3 x4 x5 x6) Q) (step : ∀ (G : A0 → A1 → A2 → A3 → A4 → A5 → A6 → Option (α × AH)) (i : Nat) x0 x1 x2 x3 x4 x5 x6, i < N → I i x0 x1 x2 x3 x4 x5 x6 → (∀ y0 y1 y2 y3 y4 y5 y6, I (i + 1) y0 y1 y2 y3 y4 y5 y6 → wp (G y0 y1 y2 y3 y4 y5 y6) Q) → wp (F G x0 x1 x2 x3 x4 x5 x6) Q) : wp (lp (fun _ _ _ _ _ _ _ => none) F lpN a0 a1 a2 a3 a4 a5 a6) Q := by
  have key : ∀ (k i : Nat) x0 x1 x2 x3 x4 x5 x6, i ≤ N → N - i < k → I i x0 x1 x2 x3 x4 x5 x6 → wp (lp (fun _ _ _ _ _ _ _ => none) F k x0 x1 x2 x3 x4 x5 x6) Q := by
    intro k
    induction k with
    | zero => intro i x0 x1 x2 x3 x4 x5 x6 h1 h2; omega
    | succ k ih =>
      intro i x0 x1 x2 x3 x4 x5 x6 h1 h2 h3
      rcases Nat.eq_or_lt_of_le h1 with e | e
      · subst e; exact stop (lp (fun _ _ _ _ _ _ _ => none) F k) x0 x1 x2 x3 x4 x5 x6 h3
      · exact step (lp (fun _ _ _ _ _ _ _ => none) F k) i x0 x1 x2 x3 x4 x5 x6 e h3 (fun y0 y1 y2 y3 y4 y5 y6 h5 => ih (i + 1) y0 y1 y2 y3 y4 y5 y6 (by omega) (by omega) h5)
  exact key lpN 0 a0 a1 a2 a3 a4 a5 a6 (Nat.zero_le N) (by rw [lpN_eq]; omega) h0
theorem wp_d7 {α A0 A1 A2 A3 A4 A5 A6 : Type} {F : (A0 → A1 → A2 → A3 → A4 → A5 → A6 → Option (α × AH)) → A0 → A1 → A2 → A3 → A4 → A5 → A6 → Option (α × AH)} {Q : α → AH → Prop} (N : Nat) (I : Nat → A0 → A1 → A2 → A3 → A4 → A5 → A6 → Prop) {a0 : A0} {a1 : A1} {a2 : A2} {a3 : A3} {a4 : A4} {a5 : A5} {a6 : A6} (h0 : I N a0 a1 a2 a3 a4 a5 a6) (hN : N < 1000000) (stop : ∀ (G : A0 → A1 → A2 → A3 → A4 → A5 → A6 → Option (α × AH)) x0 x1 x2 x3 x4 x5 x6, I 0 x0 x1 x2 x3 x4 x5 x6 → wp (F G x0 x1 x2 x3 x4 x5 x6) Q) (step : ∀ (G : A0 → A1 → A2 → A3 → A4 → A5 → A6 → Option (α × AH)) (j : Nat) x0 x1 x2 x3 x4 x5 x6, j < N → I (j + 1) x0 x1 x2 x3 x4 x5 x6 → (∀ y0 y1 y2 y3 y4 y5 y6, I j y0 y1 y2 y3 y4 y5 y6 → wp (G y0 y1 y2 y3 y4 y5 y6) Q) → wp (F G x0 x1 x2 x3 x4 x5 x6) Q) : wp (lp (fun _ _ _ _ _ _ _ => none) F lpN a0 a1 a2 a3 a4 a5 a6) Q := by
  have key : ∀ (k j : Nat) x0 x1 x2 x3 x4 x5 x6, j ≤ N → j < k → I j x0 x1 x2 x3 x4 x5 x6 → wp (lp (fun _ _ _ _ _ _ _ => none) F k x0 x1 x2 x3 x4 x5 x6) Q := by
    intro k
    induction k with
    | zero => intro j x0 x1 x2 x3 x4 x5 x6 h1 h2; omega
    | succ k ih =>
      intro j x0 x1 x2 x3 x4 x5 x6 h1 h2 h3
      match j, h1, h2, h3 with
      | 0, h1, h2, h3 => exact stop (lp (fun _ _ _ _ _ _ _ => none) F k) x0 x1 x2 x3 x4 x5 x6 h3
      | j + 1, h1, h2, h3 => exact step (lp (fun _ _ _ _ _ _ _ => none) F k) j x0 x1 x2 x3 x4 x5 x6 (by omega) h3 (fun y0 y1 y2 y3 y4 y5 y6 h5 => ih j y0 y1 y2 y3 y4 y5 y6 (by omega) (by omega) h5)
  exact key lpN N a0 a1 a2 a3 a4 a5 a6 (Nat.le_refl N) (by rw [lpN_eq]; omega) h0
theorem wp_g8 {α A0 A1 A2 A3 A4 A5 A6 A7 : Type} {F : (A0 → A1 → A2 → A3 → A4 → A5 → A6 → A7 → Option (α × AH)) → A0 → A1 → A2 → A3 → A4 → A5 → A6 → A7 → Option (α × AH)} {Q : α → AH → Prop} (N : Nat) (I : Nat → A0 → A1 → A2 → A3 → A4 → A5 → A6 → A7 → Prop) {a0 : A0} {a1 : A1} {a2 : A2} {a3 : A3} {a4 : A4} {a5 : A5} {a6 : A6} {a7 : A7} (h0 : I 0 a0 a1 a2 a3 a4 a5 a6 a7) (hN : N < 1000000) (stop : ∀ (G : A0 → A1 → A2 → A3 → A4 → A5 → A6 → A7 → Option (α × AH)) x0 x1 x2 x3 x4 x5 x6 x7, I N x0 x1 x2 x3 x4 x5 x6 x7 → wp (F G x0 x1 x2 x3 x4 x5 x6 x7) Q) (step : ∀ (G : A0 → A1 → A2 → A3 → A4 → A5 → A6 → A7 → Option (α × AH)) (i : Nat) x0 x1 x2 x3 x4 x5 x6 x7, i < N → I i x0 x1 x2 x3 x4 x5 x6 x7 → (∀ y0 y1 y2 y3 y4 y5 y6 y7, I (i + 1) y0 y1 y2 y3 y4 y5 y6 y7 → wp (G y0 y1 y2 y3 y4 y5 y6 y7) Q) → wp (F G x0 x1 x2 x3 x4 x5 x6 x7) Q) : wp (lp (fun _ _ _ _ _ _ _ _ => none) F lpN a0 a1 a2 a3 a4 a5 a6 a7) Q := by
  have key : ∀ (k i : Nat) x0 x1 x2 x3 x4 x5 x6 x7, i ≤ N → N - i < k → I i x0 x1 x2 x3 x4 x5 x6 x7 → wp (lp (fun _ _ _ _ _ _ _ _ => none) F k x0 x1 x2 x3 x4 x5 x6 x7) Q := by
    intro k
    induction k with
    | zero => intro i x0 x1 x2 x3 x4 x5 x6 x7 h1 h2; omega
    | succ k ih =>
      intro i x0 x1 x2 x3 x4 x5 x6 x7 h1 h2 h3
      rcases Nat.eq_or_lt_of_le h1 with e | e
      · subst e; exact stop (lp (fun _ _ _ _ _ _ _ _ => none) F k) x0 x1 x2 x3 x4 x5 x6 x7 h3
      · exact step (lp (fun _ _ _ _ _ _ _ _ => none) F k) i x0 x1 x2 x3 x4 x5 x6 x7 e h3 (fun y0 y1 y2 y3 y4 y5 y6 y7 h5 => ih (i + 1) y0 y1 y2 y3 y4 y5 y6 y7 (by omega) (by omega) h5)
  exact key lpN 0 a0 a1 a2 a3 a4 a5 a6 a7 (Nat.zero_le N) (by rw [lpN_eq]; omega) h0
theorem wp_d8 {α A0 A1 A2 A3 A4 A5 A6 A7 : Type} {F : (A0 → A1 → A2 → A3 → A4 → A5 → A6 → A7 → Option (α × AH)) → A0 → A1 → A2 → A3 → A4 → A5 → A6 → A7 → Option (α × AH)} {Q : α → AH → Prop} (N : Nat) (I : Nat → A0 → A1 → A2 → A3 → A4 → A5 → A6 → A7 → Prop) {a0 : A0} {a1 : A1} {a2 : A2} {a3 : A3} {a4 : A4} {a5 : A5} {a6 : A6} {a7 : A7} (h0 : I N a0 a1 a2 a3 a4 a5 a6 a7) (hN : N < 1000000) (stop : ∀ (G : A0 → A1 → A2 → A3 → A4 → A5 → A6 → A7 → Option (α × AH)) x0 x1 x2 x3 x4 x5 x6 x7, I 0 x0 x1 x2 x3 x4 x5 x6 x7 → wp (F G x0 x1 x2 x3 x4 x5 x6 x7) Q) (step : ∀ (G : A0 → A1 → A2 → A3 → A4 → A5 → A6 → A7 → Option (α × AH)) (j : Nat) x0 x1 x2 x3 x4 x5 x6 x7, j < N → I (j + 1) x0 x1 x2 x3 x4 x5 x6 x7 → (∀ y0 y1 y2 y3 y4 y5 y6 y7, I j y0 y1 y2 y3 y4 y5 y6 y7 → wp (G y0 y1 y2 y3 y4 y5 y6 y7) Q) → wp (F G x0 x1 x2 x3 x4 x5 x6 x7) Q) : wp (lp (fun _ _ _ _ _ _ _ _ => none) F lpN a0 a1 a2 a3 a4 a5 a6 a7) Q := by
  have key : ∀ (k j : Nat) x0 x1 x2 x3 x4 x5 x6 x7, j ≤ N → j < k → I j x0 x1 x2 x3 x4 x5 x6 x7 → wp (lp (fun _ _ _ _ _ _ _ _ => none) F k x0 x1 x2 x3 x4 x5 x6 x7) Q := by
    intro k
    induction k with
    | zero => intro j x0 x1 x2 x3 x4 x5 x6 x7 h1 h2; omega
    | succ k ih =>
      intro j x0 x1 x2 x3 x4 x5 x6 x7 h1 h2 h3
      match j, h1, h2, h3 with
      | 0, h1, h2, h3 => exact stop (lp (fun _ _ _ _ _ _ _ _ => none) F k) x0 x1 x2 x3 x4 x5 x6 x7 h3
      | j + 1, h1, h2, h3 => exact step (lp (fun _ _ _ _ _ _ _ _ => none) F k) j x0 x1 x2 x3 x4 x5 x6 x7 (by omega) h3 (fun y0 y1 y2 y3 y4 y5 y6 y7 h5 => ih j y0 y1 y2 y3 y4 y5 y6 y7 (by omega) (by omega) h5)
  exact key lpN N a0 a1 a2 a3 a4 a5 a6 a7 (Nat.le_refl N) (by rw [lpN_eq]; omega) h0
theorem wp_g9 {α A0 A1 A2 A3 A4 A5 A6 A7 A8 : Type} {F : (A0 → A1 → A2 → A3 → A4 → A5 → A6 → A7 → A8 → Option (α × AH)) → A0 → A1 → A2 → A3 → A4 → A5 → A6 → A7 → A8 → Option (α × AH)} {Q : α → AH → Prop} (N : Nat) (I : Nat → A0 → A1 → A2 → A3 → A4 → A5 → A6 → A7 → A8 → Prop) {a0 : A0} {a1 : A1} {a2 : A2} {a3 : A3} {a4 : A4} {a5 : A5} {a6 : A6} {a7 : A7} {a8 : A8} (h0 : I 0 a0 a1 a2 a3 a4 a5 a6 a7 a8) (hN : N < 1000000) (stop : ∀ (G : A0 → A1 → A2 → A3 → A4 → A5 → A6 → A7 → A8 → Option (α × AH)) x0 x1 x2 x3 x4 x5 x6 x7 x8, I N x0 x1 x2 x3 x4 x5 x6 x7 x8 → wp (F G x0 x1 x2 x3 x4 x5 x6 x7 x8) Q) (step : ∀ (G : A0 → A1 → A2 → A3 → A4 → A5 → A6 → A7 → A8 → Option (α × AH)) (i : Nat) x0 x1 x2 x3 x4 x5 x6 x7 x8, i < N → I i x0 x1 x2 x3 x4 x5 x6 x7 x8 → (∀ y0 y1 y2 y3 y4 y5 y6 y7 y8, I (i + 1) y0 y1 y2 y3 y4 y5 y6 y7 y8 → wp (G y0 y1 y2 y3 y4 y5 y6 y7 y8) Q) → wp (F G x0 x1 x2 x3 x4 x5 x6 x7 x8) Q) : wp (lp (fun _ _ _ _ _ _ _ _ _ => none) F lpN a0 a1 a2 a3 a4 a5 a6 a7 a8) Q := by
  have key : ∀ (k i : Nat) x0 x1 x2 x3 x4 x5 x6 x7 x8, i ≤ N → N - i < k → I i x0 x1 x2 x3 x4 x5 x6 x7 x8 → wp (lp (fun _ _ _ _ _ _ _ _ _ => none) F k x0 x1 x2 x3 x4 x5 x6 x7 x8) Q := by
    intro k
    induction k with
    | zero => intro i x0 x1 x2 x3 x4 x5 x6 x7 x8 h1 h2; omega
    | succ k ih =>
      intro i x0 x1 x2 x3 x4 x5 x6 x7 x8 h1 h2 h3
      rcases Nat.eq_or_lt_of_le h1 with e | e
      · subst e; exact stop (lp (fun _ _ _ _ _ _ _ _ _ => none) F k) x0 x1 x2 x3 x4 x5 x6 x7 x8 h3
      · exact step (lp (fun _ _ _ _ _ _ _ _ _ => none) F k) i x0 x1 x2 x3 x4 x5 x6 x7 x8 e h3 (fun y0 y1 y2 y3 y4 y5 y6 y7 y8 h5 => ih (i + 1) y0 y1 y2 y3 y4 y5 y6 y7 y8 (by omega) (by omega) h5)
  exact key lpN 0 a0 a1 a2 a3 a4 a5 a6 a7 a8 (Nat.zero_le N) (by rw [lpN_eq]; omega) h0
theorem wp_d9 {α A0 A1 A2 A3 A4 A5 A6 A7 A8 : Type} {F : (A0 → A1 → A2 → A3 → A4 → A5 → A6 → A7 → A8 → Option (α × AH)) → A0 → A1 → A2 → A3 → A4 → A5 → A6 → A7 → A8 → Option (α × AH)} {Q : α → AH → Prop} (N : Nat) (I : Nat → A0 → A1 → A2 → A3 → A4 → A5 → A6 → A7 → A8 → Prop) {a0 : A0} {a1 : A1} {a2 : A2} {a3 : A3} {a4 : A4} {a5 : A5} {a6 : A6} {a7 : A7} {a8 : A8} (h0 : I N a0 a1 a2 a3 a4 a5 a6 a7 a8) (hN : N < 1000000) (stop : ∀ (G : A0 → A1 → A2 → A3 → A4 → A5 → A6 → A7 → A8 → Option (α × AH)) x0 x1 x2 x3 x4 x5 x6 x7 x8, I 0 x0 x1 x2 x3 x4 x5 x6 x7 x8 → wp (F G x0 x1 x2 x3 x4 x5 x6 x7 x8) Q) (step : ∀ (G : A0 → A1 → A2 → A3 → A4 → A5 → A6 → A7 → A8 → Option (α × AH)) (j : Nat) x0 x1 x2 x3 x4 x5 x6 x7 x8, j < N → I (j + 1) x0 x1 x2 x3 x4 x5 x6 x7 x8 → (∀ y0 y1 y2 y3 y4 y5 y6 y7 y8, I j y0 y1 y2 y3 y4 y5 y6 y7 y8 → wp (G y0 y1 y2 y3 y4 y5 y6 y7 y8) Q) → wp (F G x0 x1 x2 x3 x4 x5 x6 x7 x8) Q) : wp (lp (fun _ _ _ _ _ _ _ _ _ => none) F lpN a0 a1 a2 a3 a4 a5 a6 a7 a8) Q := by
  have key : ∀ (k j : Nat) x0 x1 x2 x3 x4 x5 x6 x7 x8, j ≤ N → j < k → I j x0 x1 x2 x3 x4 x5 x6 x7 x8 → wp (lp (fun _ _ _ _ _ _ _ _ _ => none) F k x0 x1 x2 x3 x4 x5 x6 x7 x8) Q := by
    intro k
    induction k with
    | zero => intro j x0 x1 x2 x3 x4 x5 x6 x7 x8 h1 h2; omega
    | succ k ih =>
      intro j x0 x1 x2 x3 x4 x5 x6 x7 x8 h1 h2 h3
      match j, h1, h2, h3 with
      | 0, h1, h2, h3 => exact stop (lp (fun _ _ _ _ _ _ _ _ _ => none) F k) x0 x1 x2 x3 x4 x5 x6 x7 x8 h3
      | j + 1, h1, h2, h3 => exact step (lp (fun _ _ _ _ _ _ _ _ _ => none) F k) j x0 x1 x2 x3 x4 x5 x6 x7 x8 (by omega) h3 (fun y0 y1 y2 y3 y4 y5 y6 y7 y8 h5 => ih j y0 y1 y2 y3 y4 y5 y6 y7 y8 (by omega) (by omega) h5)
  exact key lpN N a0 a1 a2 a3 a4 a5 a6 a7 a8 (Nat.le_refl N) (by rw [lpN_eq]; omega) h0
theorem wp_g10 {α A0 A1 A2 A3 A4 A5 A6 A7 A8 A9 : Type} {F : (A0 → A1 → A2 → A3 → A4 → A5 → A6 → A7 → A8 → A9 → Option (α × AH)) → A0 → A1 → A2 → A3 → A4 → A5 → A6 → A7 → A8 → A9 → Option (α × AH)} {Q : α → AH → Prop} (N : Nat) (I : Nat → A0 → A1 → A2 → A3 → A4 → A5 → A6 → A7 → A8 → A9 → Prop) {a0 : A0} {a1 : A1} {a2 : A2} {a3 : A3} {a4 : A4} {a5 : A5} {a6 : A6} {a7 : A7} {a8 : A8} {a9 : A9} (h0 : I 0 a0 a1 a2 a3 a4 a5 a6 a7 a8 a9) (hN : N < 1000000) (stop : ∀ (G : A0 → A1 → A2 → A3 → A4 → A5 → A6 → A7 → A8 → A9 → Option (α × AH)) x0 x1 x2 x3 x4 x5 x6 x7 x8 x9, I N x0 x1 x2 x3 x4 x5 x6 x7 x8 x9 → wp (F G x0 x1 x2 x3 x4 x5 x6 x7 x8 x9) Q) (step : ∀ (G : A0 → A1 → A2 → A3 → A4 → A5 → A6 → A7 → A8 → A9 → Option (α × AH)) (i : Nat) x0 x1 x2 x3 x4 x5 x6 x7 x8 x9, i < N → I i x0 x1 x2 x3 x4 x5 x6 x7 x8 x9 → (∀ y0 y1 y2 y3 y4 y5 y6 y7 y8 y9, I (i + 1) y0 y1 y2 y3 y4 y5 y6 y7 y8 y9 → wp (G y0 y1 y2 y3 y4 y5 y6 y7 y8 y9) Q) → wp (F G x0 x1 x2 x3 x4 x5 x6 x7 x8 x9) Q) : wp (lp (fun _ _ _ _ _ _ _ _ _ _ => none) F lpN a0 a1 a2 a3 a4 a5 a6 a7 a8 a9) Q := by
  have key : ∀ (k i : Nat) x0 x1 x2 x3 x4 x5 x6 x7 x8 x9, i ≤ N → N - i < k → I i x0 x1 x2 x3 x4 x5 x6 x7 x8 x9 → wp (lp (fun _ _ _ _ _ _ _ _ _ _ => none) F k x0 x1 x2 x3 x4 x5 x6 x7 x8 x9) Q := by
    intro k
    induction k with
    | zero => intro i x0 x1 x2 x3 x4 x5 x6 x7 x8 x9 h1 h2; omega
    | succ k ih =>
      intro i x0 x1 x2 x3 x4 x5 x6 x7 x8 x9 h1 h2 h3
      rcases Nat.eq_or_lt_of_le h1 with e | e
      · subst e; exact stop (lp (fun _ _ _ _ _ _ _ _ _ _ => none) F k) x0 x1 x2 x3 x4 x5 x6 x7 x8 x9 h3
      · exact step (lp (fun _ _ _ _ _ _ _ _ _ _ => none) F k) i x0 x1 x2 x3 x4 x5 x6 x7 x8 x9 e h3 (fun y0 y1 y2 y3 y4 y5 y6 y7 y8 y9 h5 => ih (i + 1) y0 y1 y2 y3 y4 y5 y6 y7 y8 y9 (by omega) (by omega) h5)
  exact key lpN 0 a0 a1 a2 a3 a4 a5 a6 a7 a8 a9 (Nat.zero_le N) (by rw [lpN_eq]; omega) h0
theorem wp_d10 {α A0 A1 A2 A3 A4 A5 A6 A7 A8 A9 : Type} {F : (A0 → A1 → A2 → A3 → A4 → A5 → A6 → A7 → A8 → A9 → Option (α × AH)) → A0 → A1 → A2 → A3 → A4 → A5 → A6 → A7 → A8 → A9 → Option (α × AH)} {Q : α → AH → Prop} (N : Nat) (I : Nat → A0 → A1 → A2 → A3 → A4 → A5 → A6 → A7 → A8 → A9 → Prop) {a0 : A0} {a1 : A1} {a2 : A2} {a3 : A3} {a4 : A4} {a5 : A5} {a6 : A6} {a7 : A7} {a8 : A8} {a9 : A9} (h0 : I N a0 a1 a2 a3 a4 a5 a6 a7 a8 a9) (hN : N < 1000000) (stop : ∀ (G : A0 → A1 → A2 → A3 → A4 → A5 → A6 → A7 → A8 → A9 → Option (α × AH)) x0 x1 x2 x3 x4 x5 x6 x7 x8 x9, I 0 x0 x1 x2 x3 x4 x5 x6 x7 x8 x9 → wp (F G x0 x1 x2 x3 x4 x5 x6 x7 x8 x9) Q) (step : ∀ (G : A0 → A1 → A2 → A3 → A4 → A5 → A6 → A7 → A8 → A9 → Option (α × AH)) (j : Nat) x0 x1 x2 x3 x4 x5 x6 x7 x8 x9, j < N → I (j + 1) x0 x1 x2 x3 x4 x5 x6 x7 x8 x9 → (∀ y0 y1 y2 y3 y4 y5 y6 y7 y8 y9, I j y0 y1 y2 y3 y4 y5 y6 y7 y8 y9 → wp (G y0 y1 y2 y3 y4 y5 y6 y7 y8 y9) Q) → wp (F G x0 x1 x2 x3 x4 x5 x6 x7 x8 x9) Q) : wp (lp (fun _ _ _ _ _ _ _ _ _ _ => none) F lpN a0 a1 a2 a3 a4 a5 a6 a7 a8 a9) Q := by
  have key : ∀ (k j : Nat) x0 x1 x2 x3 x4 x5 x6 x7 x8 x9, j ≤ N → j < k → I j x0 x1 x2 x3 x4 x5 x6 x7 x8 x9 → wp (lp (fun _ _ _ _ _ _ _ _ _ _ => none) F k x0 x1 x2 x3 x4 x5 x6 x7 x8 x9) Q := by
    intro k
    induction k with
    | zero => intro j x0 x1 x2 x3 x4 x5 x6 x7 x8 x9 h1 h2; omega
    | succ k ih =>
      intro j x0 x1 x2 x3 x4 x5 x6 x7 x8 x9 h1 h2 h3
      match j, h1, h2, h3 with
      | 0, h1, h2, h3 => exact stop (lp (fun _ _ _ _ _ _ _ _ _ _ => none) F k) x0 x1 x2 x3 x4 x5 x6 x7 x8 x9 h3
      | j + 1, h1, h2, h3 => exact step (lp (fun _ _ _ _ _ _ _ _ _ _ => none) F k) j x0 x1 x2 x3 x4 x5 x6 x7 x8 x9 (by omega) h3 (fun y0 y1 y2 y3 y4 y5 y6 y7 y8 y9 h5 => ih j y0 y1 y2 y3 y4 y5 y6 y7 y8 y9 (by omega) (by omega) h5)
  exact key lpN N a0 a1 a2 a3 a4 a5 a6 a7 a8 a9 (Nat.le_refl N) (by rw [lpN_eq]; omega) h0
theorem nI_mul (a b : Nat) : nI a * nI b = nI (a * b) := (Int32.ofNat_mul a b).symm
theorem nI_m4 (a : Nat) : (4 : Int32) * nI a = nI (4 * a) := nI_mul 4 a
theorem nI_m5 (a : Nat) : (5 : Int32) * nI a = nI (5 * a) := nI_mul 5 a
theorem nI_m8 (a : Nat) : (8 : Int32) * nI a = nI (8 * a) := nI_mul 8 a
theorem nI_m10 (a : Nat) : (10 : Int32) * nI a = nI (10 * a) := nI_mul 10 a
theorem nI_m12 (a : Nat) : (12 : Int32) * nI a = nI (12 * a) := nI_mul 12 a
theorem nI_m24 (a : Nat) : (24 : Int32) * nI a = nI (24 * a) := nI_mul 24 a
theorem nI_m31 (a : Nat) : (31 : Int32) * nI a = nI (31 * a) := nI_mul 31 a
theorem nI_m40 (a : Nat) : (40 : Int32) * nI a = nI (40 * a) := nI_mul 40 a
theorem nI_m60 (a : Nat) : (60 : Int32) * nI a = nI (60 * a) := nI_mul 60 a
theorem nI_m81 (a : Nat) : (81 : Int32) * nI a = nI (81 * a) := nI_mul 81 a
theorem nI_m161 (a : Nat) : (161 : Int32) * nI a = nI (161 * a) := nI_mul 161 a
theorem nI_m170 (a : Nat) : (170 : Int32) * nI a = nI (170 * a) := nI_mul 170 a
theorem nI_p2 (a : Nat) : nI a + 2 = nI (a + 2) := nI_add a 2
theorem nI_p3 (a : Nat) : nI a + 3 = nI (a + 3) := nI_add a 3
theorem nI_p4 (a : Nat) : nI a + 4 = nI (a + 4) := nI_add a 4
theorem nI_p5 (a : Nat) : nI a + 5 = nI (a + 5) := nI_add a 5
theorem nI_p6 (a : Nat) : nI a + 6 = nI (a + 6) := nI_add a 6
theorem b10 {c : Prop} {d : Decidable c} : ((if c then (1 : Int32) else 0) = 0) = ¬ c := by
  by_cases e : c <;> simp [e]
theorem b11 {c : Prop} {d : Decidable c} : ((if c then (1 : Int32) else 0) = 1) = c := by
  by_cases e : c <;> simp [e]
theorem b10p {c : Prop} {d : Decidable c} : (0 < (if c then (1 : Int32) else 0)) = c := by
  by_cases e : c <;> simp [e]
theorem nle2 : ((2 : Int32) = 0) = False := eq_false (by decide)
theorem n24 : ((24 : Int32) = 0) = False := eq_false (by decide)
theorem n10 : ((10 : Int32) = 0) = False := eq_false (by decide)
theorem n1_0 : ((1 : Int32) = 0) = False := eq_false (by decide)
theorem m1neg : ((-1 : Int32) < 0) = True := eq_true (by decide)
theorem am1 (a : Int32) : a + -1 = a - 1 := (Int32.sub_eq_add_neg a 1).symm
theorem n0m1 : (nI 0 - 1 < 0) = True := eq_true (by decide)
theorem nI_z : nI 0 = 0 := by decide
theorem nle {m i : Nat} (h : i < m) : (m ≤ i) = False := eq_false (by omega)
theorem dle {m i : Nat} (h : i < m) : decide (m ≤ i) = false := decide_eq_false (by omega)
theorem nI_neg {n : Nat} (h : n < 2 ^ 31) : (nI n < 0) = False := eq_false (nI_pos h)
theorem nI_ge0 {n : Nat} (h : n < 2 ^ 31) : (0 ≤ nI n) = True := eq_true (nI_pos' h)
theorem nI_neg1 {n : Nat} (h : n < 2 ^ 31) : (nI n = -1) = False := eq_false (fun e => by have := nI_pos' h; rw [e] at this; revert this; decide)
theorem nI_sub {a b : Nat} (h : b ≤ a) : nI a - nI b = nI (a - b) := by
  have : nI a = nI (a - b) + nI b := by rw [nI_add, Nat.sub_add_cancel h]
  rw [this, Int32.add_sub_cancel]
theorem cl_in {c : Int32} {n : Nat} (h0 : 0 ≤ c) (hn : n < 2 ^ 31) (h1 : c < nI n) : c.toNatClampNeg < n := by
  have h2 := nn32 c (Int32.not_lt.mpr h0)
  have h4 := Int32.lt_iff_toInt_lt.mp h1
  rw [nI_toInt hn, h2] at h4
  omega
theorem nI_self {c : Int32} (h0 : 0 ≤ c) : c = nI c.toNatClampNeg := by
  have h2 := nn32 c (Int32.not_lt.mpr h0)
  have hlt : c.toInt < 2 ^ 31 := c.toInt_lt
  apply Int32.toInt_inj.mp
  rw [nI_toInt (by omega), h2]
/-- an int from 0 to one below n is one of the numbers below n -/
theorem nI_in0 {c : Int32} {n : Nat} (h0 : 0 ≤ c) (hn : n < 2 ^ 31) (h1 : c < nI n) : ∃ i : Nat, i < n ∧ c = nI i := ⟨c.toNatClampNeg, cl_in h0 hn h1, nI_self h0⟩
/-- a call whose answer is known and that changes nothing -/
theorem wp_use {α : Type} {o : Option (α × AH)} {v : α} {h : AH} {Q : α → AH → Prop} (e : wp o (fun r h' => r = v ∧ h' = h)) : wp o Q ↔ Q v h := by
  obtain ⟨x, e1, e2, e3⟩ := e
  constructor
  · intro ⟨y, q1, q2⟩
    rw [e1] at q1
    cases q1
    rw [← e2, ← e3]
    exact q2
  · intro q
    exact ⟨x, e1, by rw [e2, e3]; exact q⟩
/-- what is written into another cell -/
theorem q_ne {h : AH} {a k : Nat} {v : Int32} {b : Nat} (e : b ≠ a) : hI (wI h a k v) b = hI h b := by
  funext j
  rw [q_II, if_neg (fun z => e z.1)]
theorem q_neL {h : AH} {a k : Nat} {v : Int64} {b : Nat} (e : b ≠ a) : hL (wL h a k v) b = hL h b := by
  funext j
  rw [q_LL, if_neg (fun z => e z.1)]
theorem q_neR {h : AH} {a k : Nat} {v : Option Nat} {b : Nat} (e : b ≠ a) : hR (wR h a k v) b = hR h b := by
  funext j
  rw [q_RR, if_neg (fun z => e z.1)]
theorem q_at {h : AH} {a k : Nat} {v : Int32} : hI (wI h a k v) a k = v := by rw [q_II, if_pos ⟨rfl, rfl⟩]
theorem q_atne {h : AH} {a k : Nat} {v : Int32} {j : Nat} (e : j ≠ k) : hI (wI h a k v) a j = hI h a j := by rw [q_II, if_neg (fun z => e z.2)]
/-- the number of i < n with p -/
def cnt (p : Nat → Bool) : Nat → Nat
  | 0 => 0
  | n + 1 => cnt p n + (if p n = true then 1 else 0)
/-- the last i < n with p, and what f makes of it; else d -/
def lastOf {α : Type} (p : Nat → Bool) (f : Nat → α) (d : α) : Nat → α
  | 0 => d
  | n + 1 => if p n = true then f n else lastOf p f d n
/-- g for 0, 1 .. n - 1 in turn -/
def foldN {α : Type} (g : Nat → α → α) (x : α) : Nat → α
  | 0 => x
  | n + 1 => g n (foldN g x n)
/-- the first i < n with p, as an int; -1: none -/
def firstOf (p : Nat → Bool) : Nat → Int32
  | 0 => -1
  | n + 1 => if firstOf p n = -1 then (if p n = true then nI n else -1) else firstOf p n
theorem cnt_le (p : Nat → Bool) (n : Nat) : cnt p n ≤ n := by
  induction n with
  | zero => exact Nat.le_refl 0
  | succ n ih => show cnt p n + _ ≤ n + 1; split <;> omega
theorem cnt_congr {p q : Nat → Bool} {n : Nat} (h : ∀ i, i < n → p i = q i) : cnt p n = cnt q n := by
  induction n with
  | zero => rfl
  | succ n ih => show cnt p n + _ = cnt q n + _; rw [ih (fun i hi => h i (by omega)), h n (by omega)]
theorem cnt_nI (p : Nat → Bool) (i : Nat) : nI (cnt p i) + (if p i = true then 1 else 0) = nI (cnt p (i + 1)) := by
  show _ = nI (cnt p i + (if p i = true then 1 else 0))
  split
  · exact nI_add _ 1
  · exact nI_add _ 0
theorem foldN_congr {α : Type} {g f : Nat → α → α} {x : α} {n : Nat} (h : ∀ i y, i < n → g i y = f i y) : foldN g x n = foldN f x n := by
  induction n with
  | zero => rfl
  | succ n ih => show g n (foldN g x n) = f n (foldN f x n); rw [ih (fun i y hi => h i y (by omega)), h n _ (by omega)]
theorem lastOf_congr {α : Type} {p q : Nat → Bool} {f g : Nat → α} {d : α} {n : Nat} (h : ∀ i, i < n → p i = q i) (hf : ∀ i, i < n → p i = true → f i = g i) : lastOf p f d n = lastOf q g d n := by
  induction n with
  | zero => rfl
  | succ n ih =>
    show (if p n = true then f n else _) = (if q n = true then g n else _)
    rw [ih (fun i hi => h i (by omega)) (fun i hi hp => hf i (by omega) hp), ← h n (by omega)]
    split
    · rename_i e; rw [hf n (by omega) e]
    · rfl
theorem firstOf_none {p : Nat → Bool} {n : Nat} (h : ∀ i, i < n → p i = false) : firstOf p n = -1 := by
  induction n with
  | zero => rfl
  | succ n ih => show (if firstOf p n = -1 then _ else _) = _; rw [ih (fun i hi => h i (by omega)), if_pos rfl, h n (by omega)]; rfl
theorem firstOf_at {p : Nat → Bool} {n i : Nat} (hn : n < 2 ^ 31) (hi : i < n) (h : ∀ j, j < i → p j = false) (hp : p i = true) : firstOf p n = nI i := by
  induction n with
  | zero => omega
  | succ n ih =>
    show (if firstOf p n = -1 then _ else _) = _
    by_cases e : i = n
    · subst e
      rw [firstOf_none h, if_pos rfl, if_pos hp]
    · rw [ih (by omega) (by omega), if_neg]
      intro z
      have := nI_neg1 (show i < 2 ^ 31 by omega)
      rw [this] at z
      exact z
theorem firstOf_congr {p q : Nat → Bool} {n : Nat} (h : ∀ i, i < n → p i = q i) : firstOf p n = firstOf q n := by
  induction n with
  | zero => rfl
  | succ n ih => show (if firstOf p n = -1 then _ else _) = (if firstOf q n = -1 then _ else _); rw [ih (fun i hi => h i (by omega)), h n (by omega)]
theorem below {p : Nat → Bool} {k : Nat} (h : p k = false) (e : ∀ j, j < k → p j = false) (j : Nat) (hj : j < k + 1) : p j = false := by
  by_cases z : j = k
  · rw [z]; exact h
  · exact e j (by omega)
/-- whether some i < n has p -/
def anyN (p : Nat → Bool) : Nat → Bool
  | 0 => false
  | n + 1 => anyN p n || p n
theorem anyN_none {p : Nat → Bool} {n : Nat} (h : ∀ i, i < n → p i = false) : anyN p n = false := by
  induction n with
  | zero => rfl
  | succ n ih => show (anyN p n || p n) = false; rw [ih (fun i hi => h i (by omega)), h n (by omega)]; rfl
theorem anyN_at {p : Nat → Bool} {n i : Nat} (hi : i < n) (h : p i = true) : anyN p n = true := by
  induction n with
  | zero => omega
  | succ n ih =>
    show (anyN p n || p n) = true
    by_cases e : i = n
    · subst e; rw [h, Bool.or_true]
    · rw [ih (by omega), Bool.true_or]
theorem anyN_ex {p : Nat → Bool} {n : Nat} (h : anyN p n = true) : ∃ i, i < n ∧ p i = true := by
  induction n with
  | zero => exact absurd (show false = true from h) (by decide)
  | succ n ih =>
    have h : (anyN p n || p n) = true := h
    cases e : p n with
    | true => exact ⟨n, by omega, e⟩
    | false => rw [e, Bool.or_false] at h; obtain ⟨i, h1, h2⟩ := ih h; exact ⟨i, by omega, h2⟩
theorem anyN_congr {p q : Nat → Bool} {n : Nat} (h : ∀ i, i < n → p i = q i) : anyN p n = anyN q n := by
  induction n with
  | zero => rfl
  | succ n ih => show (anyN p n || p n) = (anyN q n || q n); rw [ih (fun i hi => h i (by omega)), h n (by omega)]
/-- of the i < n with p one that no later one beats -/
def bestOf (p : Nat → Bool) (bt : Nat → Nat → Bool) : Nat → Option Nat
  | 0 => none
  | n + 1 => if p n = true then (match bestOf p bt n with | none => some n | some j => if bt n j = true then some n else some j) else bestOf p bt n
theorem bestOf_lt {p : Nat → Bool} {bt : Nat → Nat → Bool} {n j : Nat} (h : bestOf p bt n = some j) : j < n ∧ p j = true := by
  induction n with
  | zero => cases h
  | succ n ih =>
    have h : (if p n = true then (match bestOf p bt n with | none => some n | some j => if bt n j = true then some n else some j) else bestOf p bt n) = some j := h
    by_cases e : p n = true
    · rw [if_pos e] at h
      cases e2 : bestOf p bt n with
      | none => rw [e2] at h; cases h; exact ⟨by omega, e⟩
      | some k =>
        rw [e2] at h
        simp only at h
        split at h
        · cases h; exact ⟨by omega, e⟩
        · cases h; have := ih e2; exact ⟨by omega, this.2⟩
    · rw [if_neg e] at h
      have := ih h
      exact ⟨by omega, this.2⟩
theorem bestOf_congr {p q : Nat → Bool} {bt bu : Nat → Nat → Bool} {n : Nat} (h : ∀ i, i < n → p i = q i) (hb : ∀ i j, i < n → j < i → p i = true → p j = true → bt i j = bu i j) : bestOf p bt n = bestOf q bu n := by
  induction n with
  | zero => rfl
  | succ n ih =>
    show (if p n = true then _ else _) = (if q n = true then _ else _)
    rw [ih (fun i hi => h i (by omega)) (fun i j hi hj => hb i j (by omega) hj), ← h n (by omega)]
    by_cases e : p n = true
    · rw [if_pos e, if_pos e]
      cases e2 : bestOf q bu n with
      | none => rfl
      | some k =>
        have hk := bestOf_lt e2
        have hp : p k = true := by rw [h k (by omega)]; exact hk.2
        show (if bt n k = true then _ else _) = (if bu n k = true then _ else _)
        rw [hb n k (by omega) hk.1 e hp]
    · rw [if_neg e, if_neg e]
theorem bestOf_none {p : Nat → Bool} {bt : Nat → Nat → Bool} {n : Nat} (h : bestOf p bt n = none) : cnt p n = 0 := by
  induction n with
  | zero => rfl
  | succ n ih =>
    have h : (if p n = true then (match bestOf p bt n with | none => some n | some j => if bt n j = true then some n else some j) else bestOf p bt n) = none := h
    by_cases e : p n = true
    · rw [if_pos e] at h
      cases e2 : bestOf p bt n with
      | none => rw [e2] at h; cases h
      | some k => rw [e2] at h; simp only at h; split at h <;> cases h
    · rw [if_neg e] at h
      show cnt p n + (if p n = true then 1 else 0) = 0
      rw [ih h, if_neg e]
/-- a number that may be none, as an int -/
def oI (o : Option Nat) : Int32 := match o with | none => -1 | some j => nI j
theorem oI_neg {o : Option Nat} (h : ∀ j, o = some j → j < 2 ^ 31) : (oI o < 0) = (o = none) := by
  cases o with
  | none => simp [oI]
  | some j => simp only [oI, nI_neg (h j rfl), reduceCtorEq]
theorem boxed {α : Type} {o : Option (α × AH)} {P Q : α → AH → Prop} (h : wp o P) (k : ∀ v h', P v h' → Q v h') : wp o Q := wp_mono h k
theorem Lay.s0 {h : AH} (l : Lay h) : (hS h)[0]? = some (11, 6) := l.1 0 (by decide)
theorem Lay.s1 {h : AH} (l : Lay h) : (hS h)[1]? = some (3, 10) := l.1 1 (by decide)
theorem Lay.s2 {h : AH} (l : Lay h) : (hS h)[2]? = some (20, 60) := l.1 2 (by decide)
theorem Lay.s3 {h : AH} (l : Lay h) : (hS h)[3]? = some (25, 150) := l.1 3 (by decide)
theorem Lay.s4 {h : AH} (l : Lay h) : (hS h)[4]? = some (20, 4) := l.1 4 (by decide)
theorem Lay.s5 {h : AH} (l : Lay h) : (hS h)[5]? = some (20, 200) := l.1 5 (by decide)
theorem Lay.s6 {h : AH} (l : Lay h) : (hS h)[6]? = some (20, 200) := l.1 6 (by decide)
theorem Lay.s7 {h : AH} (l : Lay h) : (hS h)[7]? = some (20, 200) := l.1 7 (by decide)
theorem Lay.s8 {h : AH} (l : Lay h) : (hS h)[8]? = some (6, 16) := l.1 8 (by decide)
theorem Lay.s9 {h : AH} (l : Lay h) : (hS h)[9]? = some (8, 11) := l.1 9 (by decide)
theorem Lay.s10 {h : AH} (l : Lay h) : (hS h)[10]? = some (20, 160) := l.1 10 (by decide)
theorem Lay.s11 {h : AH} (l : Lay h) : (hS h)[11]? = some (20, 161) := l.1 11 (by decide)
theorem Lay.s12 {h : AH} (l : Lay h) : (hS h)[12]? = some (20, 161) := l.1 12 (by decide)
theorem Lay.s13 {h : AH} (l : Lay h) : (hS h)[13]? = some (20, 161) := l.1 13 (by decide)
theorem Lay.s14 {h : AH} (l : Lay h) : (hS h)[14]? = some (20, 161) := l.1 14 (by decide)
theorem Lay.s15 {h : AH} (l : Lay h) : (hS h)[15]? = some (20, 20) := l.1 15 (by decide)
theorem Lay.s16 {h : AH} (l : Lay h) : (hS h)[16]? = some (20, 20) := l.1 16 (by decide)
theorem Lay.s17 {h : AH} (l : Lay h) : (hS h)[17]? = some (20, 20) := l.1 17 (by decide)
theorem Lay.s18 {h : AH} (l : Lay h) : (hS h)[18]? = some (20, 3220) := l.1 18 (by decide)
theorem Lay.s19 {h : AH} (l : Lay h) : (hS h)[19]? = some (20, 20) := l.1 19 (by decide)
theorem Lay.s20 {h : AH} (l : Lay h) : (hS h)[20]? = some (20, 64) := l.1 20 (by decide)
theorem Lay.s21 {h : AH} (l : Lay h) : (hS h)[21]? = some (4, 9) := l.1 21 (by decide)
theorem Lay.s22 {h : AH} (l : Lay h) : (hS h)[22]? = some (20, 300) := l.1 22 (by decide)
theorem Lay.s23 {h : AH} (l : Lay h) : (hS h)[23]? = some (23, 300) := l.1 23 (by decide)
theorem Lay.s24 {h : AH} (l : Lay h) : (hS h)[24]? = some (20, 150) := l.1 24 (by decide)
theorem Lay.s25 {h : AH} (l : Lay h) : (hS h)[25]? = some (20, 300) := l.1 25 (by decide)
theorem Lay.s26 {h : AH} (l : Lay h) : (hS h)[26]? = some (20, 300) := l.1 26 (by decide)
theorem Lay.s27 {h : AH} (l : Lay h) : (hS h)[27]? = some (23, 300) := l.1 27 (by decide)
theorem Lay.s28 {h : AH} (l : Lay h) : (hS h)[28]? = some (10, 16) := l.1 28 (by decide)
theorem Lay.s29 {h : AH} (l : Lay h) : (hS h)[29]? = some (20, 7) := l.1 29 (by decide)
theorem Lay.s30 {h : AH} (l : Lay h) : (hS h)[30]? = some (26, 7) := l.1 30 (by decide)
theorem Lay.s31 {h : AH} (l : Lay h) : (hS h)[31]? = some (20, 7) := l.1 31 (by decide)
theorem Lay.s32 {h : AH} (l : Lay h) : (hS h)[32]? = some (20, 7) := l.1 32 (by decide)
theorem Lay.s33 {h : AH} (l : Lay h) : (hS h)[33]? = some (20, 7) := l.1 33 (by decide)
theorem Lay.s34 {h : AH} (l : Lay h) : (hS h)[34]? = some (20, 7) := l.1 34 (by decide)
theorem Lay.s35 {h : AH} (l : Lay h) : (hS h)[35]? = some (27, 6) := l.1 35 (by decide)
theorem Lay.s36 {h : AH} (l : Lay h) : (hS h)[36]? = some (7, 5) := l.1 36 (by decide)
theorem Lay.s37 {h : AH} (l : Lay h) : (hS h)[37]? = some (24, 60) := l.1 37 (by decide)
theorem Lay.s38 {h : AH} (l : Lay h) : (hS h)[38]? = some (7, 5) := l.1 38 (by decide)
theorem Lay.s39 {h : AH} (l : Lay h) : (hS h)[39]? = some (24, 60) := l.1 39 (by decide)
theorem Lay.s40 {h : AH} (l : Lay h) : (hS h)[40]? = some (7, 5) := l.1 40 (by decide)
theorem Lay.s41 {h : AH} (l : Lay h) : (hS h)[41]? = some (24, 60) := l.1 41 (by decide)
theorem Lay.s42 {h : AH} (l : Lay h) : (hS h)[42]? = some (7, 5) := l.1 42 (by decide)
theorem Lay.s43 {h : AH} (l : Lay h) : (hS h)[43]? = some (24, 60) := l.1 43 (by decide)
theorem Lay.s44 {h : AH} (l : Lay h) : (hS h)[44]? = some (7, 5) := l.1 44 (by decide)
theorem Lay.s45 {h : AH} (l : Lay h) : (hS h)[45]? = some (24, 60) := l.1 45 (by decide)
theorem Lay.s46 {h : AH} (l : Lay h) : (hS h)[46]? = some (7, 5) := l.1 46 (by decide)
theorem Lay.s47 {h : AH} (l : Lay h) : (hS h)[47]? = some (24, 60) := l.1 47 (by decide)
theorem Lay.s48 {h : AH} (l : Lay h) : (hS h)[48]? = some (20, 25) := l.1 48 (by decide)
theorem Lay.s49 {h : AH} (l : Lay h) : (hS h)[49]? = some (12, 90) := l.1 49 (by decide)
theorem Lay.s50 {h : AH} (l : Lay h) : (hS h)[50]? = some (20, 60) := l.1 50 (by decide)
theorem Lay.s51 {h : AH} (l : Lay h) : (hS h)[51]? = some (20, 150) := l.1 51 (by decide)
theorem Lay.s52 {h : AH} (l : Lay h) : (hS h)[52]? = some (20, 150) := l.1 52 (by decide)
theorem Lay.s53 {h : AH} (l : Lay h) : (hS h)[53]? = some (20, 150) := l.1 53 (by decide)
theorem Lay.s54 {h : AH} (l : Lay h) : (hS h)[54]? = some (20, 150) := l.1 54 (by decide)
theorem Lay.s55 {h : AH} (l : Lay h) : (hS h)[55]? = some (20, 150) := l.1 55 (by decide)
theorem Lay.s56 {h : AH} (l : Lay h) : (hS h)[56]? = some (20, 150) := l.1 56 (by decide)
theorem Lay.s57 {h : AH} (l : Lay h) : (hS h)[57]? = some (20, 600) := l.1 57 (by decide)
theorem Lay.s58 {h : AH} (l : Lay h) : (hS h)[58]? = some (20, 4) := l.1 58 (by decide)
theorem Lay.s59 {h : AH} (l : Lay h) : (hS h)[59]? = some (20, 200) := l.1 59 (by decide)
theorem Lay.s60 {h : AH} (l : Lay h) : (hS h)[60]? = some (20, 200) := l.1 60 (by decide)
theorem Lay.s61 {h : AH} (l : Lay h) : (hS h)[61]? = some (20, 200) := l.1 61 (by decide)
theorem Lay.s62 {h : AH} (l : Lay h) : (hS h)[62]? = some (20, 300) := l.1 62 (by decide)
theorem Lay.s63 {h : AH} (l : Lay h) : (hS h)[63]? = some (20, 300) := l.1 63 (by decide)
theorem Lay.s64 {h : AH} (l : Lay h) : (hS h)[64]? = some (20, 300) := l.1 64 (by decide)
theorem Lay.s65 {h : AH} (l : Lay h) : (hS h)[65]? = some (23, 300) := l.1 65 (by decide)
theorem Lay.s66 {h : AH} (l : Lay h) : (hS h)[66]? = some (20, 150) := l.1 66 (by decide)
theorem Lay.s67 {h : AH} (l : Lay h) : (hS h)[67]? = some (21, 6000) := l.1 67 (by decide)
theorem Lay.s68 {h : AH} (l : Lay h) : (hS h)[68]? = some (22, 160) := l.1 68 (by decide)
theorem Lay.s69 {h : AH} (l : Lay h) : (hS h)[69]? = some (20, 21) := l.1 69 (by decide)
theorem Lay.s70 {h : AH} (l : Lay h) : (hS h)[70]? = some (20, 21) := l.1 70 (by decide)
theorem Lay.s71 {h : AH} (l : Lay h) : (hS h)[71]? = some (20, 21) := l.1 71 (by decide)
theorem Lay.s72 {h : AH} (l : Lay h) : (hS h)[72]? = some (20, 21) := l.1 72 (by decide)
theorem Lay.s73 {h : AH} (l : Lay h) : (hS h)[73]? = some (22, 1701) := l.1 73 (by decide)
theorem Lay.s74 {h : AH} (l : Lay h) : (hS h)[74]? = some (21, 1701) := l.1 74 (by decide)
theorem Lay.s75 {h : AH} (l : Lay h) : (hS h)[75]? = some (21, 1701) := l.1 75 (by decide)
theorem Lay.s76 {h : AH} (l : Lay h) : (hS h)[76]? = some (22, 3570) := l.1 76 (by decide)
theorem Lay.s77 {h : AH} (l : Lay h) : (hS h)[77]? = some (20, 3570) := l.1 77 (by decide)
theorem Lay.s78 {h : AH} (l : Lay h) : (hS h)[78]? = some (20, 11) := l.1 78 (by decide)
theorem Lay.s79 {h : AH} (l : Lay h) : (hS h)[79]? = some (20, 170) := l.1 79 (by decide)
theorem Lay.s80 {h : AH} (l : Lay h) : (hS h)[80]? = some (22, 150) := l.1 80 (by decide)
theorem Lay.s81 {h : AH} (l : Lay h) : (hS h)[81]? = some (22, 1200) := l.1 81 (by decide)
theorem Lay.s82 {h : AH} (l : Lay h) : (hS h)[82]? = some (22, 1200) := l.1 82 (by decide)
theorem Lay.s83 {h : AH} (l : Lay h) : (hS h)[83]? = some (22, 1200) := l.1 83 (by decide)
theorem Lay.s84 {h : AH} (l : Lay h) : (hS h)[84]? = some (22, 1200) := l.1 84 (by decide)
theorem Lay.s85 {h : AH} (l : Lay h) : (hS h)[85]? = some (20, 6) := l.1 85 (by decide)
theorem Lay.s86 {h : AH} (l : Lay h) : (hS h)[86]? = some (20, 150) := l.1 86 (by decide)
theorem Lay.s87 {h : AH} (l : Lay h) : (hS h)[87]? = some (21, 1800) := l.1 87 (by decide)
theorem Lay.s88 {h : AH} (l : Lay h) : (hS h)[88]? = some (23, 1800) := l.1 88 (by decide)
theorem Lay.s89 {h : AH} (l : Lay h) : (hS h)[89]? = some (22, 150) := l.1 89 (by decide)
theorem Lay.s90 {h : AH} (l : Lay h) : (hS h)[90]? = some (21, 1200) := l.1 90 (by decide)
theorem Lay.s91 {h : AH} (l : Lay h) : (hS h)[91]? = some (23, 150) := l.1 91 (by decide)
theorem Lay.s92 {h : AH} (l : Lay h) : (hS h)[92]? = some (20, 7) := l.1 92 (by decide)
theorem Lay.s93 {h : AH} (l : Lay h) : (hS h)[93]? = some (20, 7) := l.1 93 (by decide)
theorem Lay.s94 {h : AH} (l : Lay h) : (hS h)[94]? = some (20, 7) := l.1 94 (by decide)
theorem Lay.s95 {h : AH} (l : Lay h) : (hS h)[95]? = some (20, 7) := l.1 95 (by decide)
theorem Lay.s96 {h : AH} (l : Lay h) : (hS h)[96]? = some (20, 7) := l.1 96 (by decide)
theorem Lay.s97 {h : AH} (l : Lay h) : (hS h)[97]? = some (20, 7) := l.1 97 (by decide)
theorem Lay.s98 {h : AH} (l : Lay h) : (hS h)[98]? = some (22, 150) := l.1 98 (by decide)
theorem Lay.s99 {h : AH} (l : Lay h) : (hS h)[99]? = some (24, 961) := l.1 99 (by decide)
theorem Lay.s100 {h : AH} (l : Lay h) : (hS h)[100]? = some (20, 150) := l.1 100 (by decide)
theorem Lay.s101 {h : AH} (l : Lay h) : (hS h)[101]? = some (23, 300) := l.1 101 (by decide)
theorem Lay.s102 {h : AH} (l : Lay h) : (hS h)[102]? = some (20, 24) := l.1 102 (by decide)
theorem Lay.s103 {h : AH} (l : Lay h) : (hS h)[103]? = some (20, 6) := l.1 103 (by decide)
theorem Lay.s104 {h : AH} (l : Lay h) : (hS h)[104]? = some (20, 6) := l.1 104 (by decide)
theorem Lay.s105 {h : AH} (l : Lay h) : (hS h)[105]? = some (24, 360) := l.1 105 (by decide)
theorem Lay.s106 {h : AH} (l : Lay h) : (hS h)[106]? = some (24, 60) := l.1 106 (by decide)
/-! SCRATCH: what stands there counts for no later call -/
/-- of a question asked of the rules -/
def scI (a k : Nat) : Bool := match a with
  | 8 => k == 2 || k == 10 || k == 13 || k == 14 || k == 15
  | 20 => true
  | 49 => k == 45
  | 78 => true | 79 => true
  | _ => false
def scR (a k : Nat) : Bool := a == 8 && (k == 11 || k == 12)
/-- of any call -/
def swI (a k : Nat) : Bool := match a with
  | 8 => k == 2 || k == 10 || k == 13 || k == 14 || k == 15
  | 9 => Nat.ble 5 k
  | 11 => true | 12 => true | 13 => true | 14 => true | 20 => true | 24 => true | 27 => true | 33 => true | 34 => true
  | 28 => k == 8 || Nat.ble 10 k
  | 49 => Nat.ble 26 k && Nat.ble k 32 || k == 45 || Nat.ble 52 k && Nat.ble k 57 || Nat.ble 71 k && Nat.ble k 73 || Nat.ble 77 k && Nat.ble k 79
  | 78 => true | 79 => true | 85 => true | 91 => true | 95 => true | 96 => true | 100 => true | 101 => true
  | _ => false
def swL (a k : Nat) : Bool := match a with
  | 49 => k == 58
  | 99 => true | 106 => true
  | _ => false
theorem swI_sc {a k : Nat} (h : swI a k = false) : scI a k = false := by
  unfold scI
  split
  · exact h
  · exact absurd h (by simp [swI])
  · cases e : k == 45 with
    | false => rfl
    | true => simp [swI, e] at h
  · exact absurd h (by simp [swI])
  · exact absurd h (by simp [swI])
  · rfl
theorem scI_big {a : Nat} (h : 107 ≤ a) (k : Nat) : scI a k = false := by
  unfold scI
  split <;> first | omega | rfl
theorem swI_big {a : Nat} (h : 107 ≤ a) (k : Nat) : swI a k = false := by
  unfold swI
  split <;> first | omega | rfl
theorem swL_big {a : Nat} (h : 107 ≤ a) (k : Nat) : swL a k = false := by
  unfold swL
  split <;> first | omega | rfl
theorem scR_big {a : Nat} (h : 107 ≤ a) (k : Nat) : scR a k = false := by
  unfold scR
  simp [show a ≠ 8 by omega]
/-- nothing changed but scratch of the class -/
def Sc (h h' : AH) : Prop := hS h' = hS h ∧ (∀ a k, (a < 49 → scI a k = false) → hI h' a k = hI h a k) ∧ hL h' = hL h ∧ (∀ a k, scR a k = false → hR h' a k = hR h a k)
/-- nothing changed but scratch of the reference -/
def Sm (h h' : AH) : Prop := hS h' = hS h ∧ (∀ a k, (49 ≤ a → scI a k = false) → hI h' a k = hI h a k) ∧ hL h' = hL h ∧ hR h' = hR h
theorem Sc.refl (h : AH) : Sc h h := ⟨rfl, fun _ _ _ => rfl, rfl, fun _ _ _ => rfl⟩
theorem Sc.trans {h h1 h2 : AH} (a : Sc h h1) (b : Sc h1 h2) : Sc h h2 := ⟨b.1.trans a.1, fun x k e => (b.2.1 x k e).trans (a.2.1 x k e), b.2.2.1.trans a.2.2.1, fun x k e => (b.2.2.2 x k e).trans (a.2.2.2 x k e)⟩
theorem Sc.wI {h h1 : AH} (s : Sc h h1) (a k : Nat) (v : Int32) (ha : a < 49) (e : scI a k = true) : Sc h (wI h1 a k v) := by
  refine ⟨s.1, fun x j z => ?_, s.2.2.1, s.2.2.2⟩
  rw [q_II, if_neg, s.2.1 x j z]
  rintro ⟨rfl, rfl⟩
  rw [z ha] at e
  exact absurd e (by decide)
theorem Sc.wR {h h1 : AH} (s : Sc h h1) (a k : Nat) (v : Option Nat) (e : scR a k = true) : Sc h (wR h1 a k v) := by
  refine ⟨s.1, s.2.1, s.2.2.1, fun x j z => ?_⟩
  rw [q_RR, if_neg, s.2.2.2 x j z]
  rintro ⟨rfl, rfl⟩
  rw [z] at e
  exact absurd e (by decide)
theorem Sm.refl (h : AH) : Sm h h := ⟨rfl, fun _ _ _ => rfl, rfl, rfl⟩
theorem Sm.trans {h h1 h2 : AH} (a : Sm h h1) (b : Sm h1 h2) : Sm h h2 := ⟨b.1.trans a.1, fun x k e => (b.2.1 x k e).trans (a.2.1 x k e), b.2.2.1.trans a.2.2.1, b.2.2.2.trans a.2.2.2⟩
theorem Sm.wI {h h1 : AH} (s : Sm h h1) (a k : Nat) (v : Int32) (ha : 49 ≤ a) (e : scI a k = true) : Sm h (wI h1 a k v) := by
  refine ⟨s.1, fun x j z => ?_, s.2.2.1, s.2.2.2⟩
  rw [q_II, if_neg, s.2.1 x j z]
  rintro ⟨rfl, rfl⟩
  rw [z ha] at e
  exact absurd e (by decide)
/-- nothing changed but scratch of the class, of any call -/
def Sd (h h' : AH) : Prop := hS h' = hS h ∧ (∀ a k, (a < 49 → swI a k = false) → hI h' a k = hI h a k) ∧ hL h' = hL h ∧ (∀ a k, scR a k = false → hR h' a k = hR h a k)
/-- nothing changed but scratch of the reference, of any call -/
def Sv (h h' : AH) : Prop := hS h' = hS h ∧ (∀ a k, (49 ≤ a → swI a k = false) → hI h' a k = hI h a k) ∧ (∀ a k, (49 ≤ a → swL a k = false) → hL h' a k = hL h a k) ∧ hR h' = hR h
theorem Sc.sd {h h1 : AH} (s : Sc h h1) : Sd h h1 := ⟨s.1, fun a k e => s.2.1 a k (fun z => swI_sc (e z)), s.2.2.1, s.2.2.2⟩
theorem Sm.sv {h h1 : AH} (s : Sm h h1) : Sv h h1 := ⟨s.1, fun a k e => s.2.1 a k (fun z => swI_sc (e z)), fun a k _ => by rw [s.2.2.1], s.2.2.2⟩
theorem Sd.refl (h : AH) : Sd h h := ⟨rfl, fun _ _ _ => rfl, rfl, fun _ _ _ => rfl⟩
theorem Sd.trans {h h1 h2 : AH} (a : Sd h h1) (b : Sd h1 h2) : Sd h h2 := ⟨b.1.trans a.1, fun x k e => (b.2.1 x k e).trans (a.2.1 x k e), b.2.2.1.trans a.2.2.1, fun x k e => (b.2.2.2 x k e).trans (a.2.2.2 x k e)⟩
theorem Sd.wI {h h1 : AH} (s : Sd h h1) (a k : Nat) (v : Int32) (ha : a < 49) (e : swI a k = true) : Sd h (wI h1 a k v) := by
  refine ⟨s.1, fun x j z => ?_, s.2.2.1, s.2.2.2⟩
  rw [q_II, if_neg, s.2.1 x j z]
  rintro ⟨rfl, rfl⟩
  rw [z ha] at e
  exact absurd e (by decide)
theorem Sd.fillI {h h1 : AH} (s : Sd h h1) (a n : Nat) (v : Int32) (ha : a < 49) (e : ∀ k, swI a k = true) : Sd h (fillI h1 a n v) := by
  refine ⟨s.1, fun x j z => ?_, s.2.2.1, s.2.2.2⟩
  rw [q_IfI, if_neg, s.2.1 x j z]
  rintro ⟨rfl, -⟩
  have := e j
  rw [z ha] at this
  exact absurd this (by decide)
theorem Sv.refl (h : AH) : Sv h h := ⟨rfl, fun _ _ _ => rfl, fun _ _ _ => rfl, rfl⟩
theorem Sv.trans {h h1 h2 : AH} (a : Sv h h1) (b : Sv h1 h2) : Sv h h2 := ⟨b.1.trans a.1, fun x k e => (b.2.1 x k e).trans (a.2.1 x k e), fun x k e => (b.2.2.1 x k e).trans (a.2.2.1 x k e), b.2.2.2.trans a.2.2.2⟩
theorem Sv.wI {h h1 : AH} (s : Sv h h1) (a k : Nat) (v : Int32) (ha : 49 ≤ a) (e : swI a k = true) : Sv h (wI h1 a k v) := by
  refine ⟨s.1, fun x j z => ?_, s.2.2.1, s.2.2.2⟩
  rw [q_II, if_neg, s.2.1 x j z]
  rintro ⟨rfl, rfl⟩
  rw [z ha] at e
  exact absurd e (by decide)
theorem Sv.wL {h h1 : AH} (s : Sv h h1) (a k : Nat) (v : Int64) (ha : 49 ≤ a) (e : swL a k = true) : Sv h (wL h1 a k v) := by
  refine ⟨s.1, s.2.1, fun x j z => ?_, s.2.2.2⟩
  rw [q_LL, if_neg, s.2.2.1 x j z]
  rintro ⟨rfl, rfl⟩
  rw [z ha] at e
  exact absurd e (by decide)
theorem Lay.sd {h h1 : AH} (l : Lay h) (s : Sd h h1) : Lay h1 := by
  refine ⟨fun a ha => by rw [s.1]; exact l.1 a ha, fun q hq => ?_⟩
  rw [s.2.2.2 _ _ (List.all_eq_true.mp (show tR.all (fun q => !scR q.1 q.2.1) = true by decide) q hq |> fun z => by simpa using z)]
  exact l.2 q hq
theorem Lay.sc {h h1 : AH} (l : Lay h) (s : Sc h h1) : Lay h1 := l.sd s.sd
theorem Lay.sv {h h1 : AH} (l : Lay h) (s : Sv h h1) : Lay h1 := ⟨fun a ha => by rw [s.1]; exact l.1 a ha, fun q hq => by rw [s.2.2.2]; exact l.2 q hq⟩
theorem Lay.sm {h h1 : AH} (l : Lay h) (s : Sm h h1) : Lay h1 := l.sv s.sv
/-! RM: the reference's cells hold the world w (its texts, cells 72 .. 77, aside) -/
def RM (h w : AH) : Prop := Lay h ∧ (∀ a k, 49 ≤ a → a < 107 → (a < 72 ∨ 77 < a) → swI a k = false → hI h a k = hI w a k) ∧ (∀ a k, 49 ≤ a → a < 107 → swL a k = false → hL h a k = hL w a k)
theorem RM.sv {h w h1 : AH} (m : RM h w) (s : Sv h h1) : RM h1 w := ⟨m.1.sv s, fun a k h1 h2 h3 h4 => (s.2.1 a k (fun _ => h4)).trans (m.2.1 a k h1 h2 h3 h4), fun a k h1 h2 h4 => (s.2.2.1 a k (fun _ => h4)).trans (m.2.2 a k h1 h2 h4)⟩
theorem RM.sm {h w h1 : AH} (m : RM h w) (s : Sm h h1) : RM h1 w := m.sv s.sv
theorem RM.wI {h w : AH} (m : RM h w) (a k : Nat) (v : Int32) : RM (wI h a k v) (wI w a k v) := ⟨m.1, fun x j h1 h2 h3 h4 => by rw [q_II, q_II, m.2.1 x j h1 h2 h3 h4], m.2.2⟩
theorem RM.wL {h w : AH} (m : RM h w) (a k : Nat) (v : Int64) : RM (wL h a k v) (wL w a k v) := ⟨m.1, m.2.1, fun x j h1 h2 h4 => by rw [q_LL, q_LL, m.2.2 x j h1 h2 h4]⟩
/-- the class's cells changed alone -/
def SM (h h' : AH) : Prop := (∀ a k, 49 ≤ a → a < 107 → hI h' a k = hI h a k) ∧ ∀ a k, 49 ≤ a → a < 107 → hL h' a k = hL h a k
/-- the reference's cells changed alone -/
def SC (h h' : AH) : Prop := hS h' = hS h ∧ hR h' = hR h ∧ (∀ a k, (a < 49 ∨ 107 ≤ a) → hI h' a k = hI h a k) ∧ ∀ a k, (a < 49 ∨ 107 ≤ a) → hL h' a k = hL h a k
theorem SM.refl (h : AH) : SM h h := ⟨fun _ _ _ _ => rfl, fun _ _ _ _ => rfl⟩
theorem SC.refl (h : AH) : SC h h := ⟨rfl, rfl, fun _ _ _ => rfl, fun _ _ _ => rfl⟩
theorem SM.trans {h h1 h2 : AH} (a : SM h h1) (b : SM h1 h2) : SM h h2 := ⟨fun x k e f => (b.1 x k e f).trans (a.1 x k e f), fun x k e f => (b.2 x k e f).trans (a.2 x k e f)⟩
theorem SC.trans {h h1 h2 : AH} (a : SC h h1) (b : SC h1 h2) : SC h h2 := ⟨b.1.trans a.1, b.2.1.trans a.2.1, fun x k e => (b.2.2.1 x k e).trans (a.2.2.1 x k e), fun x k e => (b.2.2.2 x k e).trans (a.2.2.2 x k e)⟩
theorem Sd.SM {h h' : AH} (s : Sd h h') : SM h h' := ⟨fun a k h1 h2 => s.2.1 a k (fun z => absurd z (by omega)), fun a k h1 h2 => by rw [s.2.2.1]⟩
theorem Sc.SM {h h' : AH} (s : Sc h h') : SM h h' := s.sd.SM
theorem Sv.SC {h h' : AH} (s : Sv h h') : SC h h' := ⟨s.1, s.2.2.2, fun a k h1 => s.2.1 a k (fun z => h1.elim (fun _ => absurd z (by omega)) (fun q => swI_big q k)), fun a k h1 => s.2.2.1 a k (fun z => h1.elim (fun _ => absurd z (by omega)) (fun q => swL_big q k))⟩
theorem Sm.SC {h h' : AH} (s : Sm h h') : SC h h' := s.sv.SC
theorem SM.wI {h h1 : AH} (s : SM h h1) (a k : Nat) (v : Int32) (e : a < 49 ∨ 107 ≤ a) : SM h (wI h1 a k v) := ⟨fun x j h2 h3 => by rw [q_ne (by omega)]; exact s.1 x j h2 h3, s.2⟩
theorem SM.wL {h h1 : AH} (s : SM h h1) (a k : Nat) (v : Int64) (e : a < 49 ∨ 107 ≤ a) : SM h (wL h1 a k v) := ⟨s.1, fun x j h2 h3 => by rw [q_neL (by omega)]; exact s.2 x j h2 h3⟩
theorem SM.wR {h h1 : AH} (s : SM h h1) (a k : Nat) (v : Option Nat) : SM h (wR h1 a k v) := s
theorem SC.wI {h h1 : AH} (s : SC h h1) (a k : Nat) (v : Int32) (h0 : 49 ≤ a) (e : a < 107) : SC h (wI h1 a k v) := ⟨s.1, s.2.1, fun x j h2 => by rw [q_ne (by omega)]; exact s.2.2.1 x j h2, s.2.2.2⟩
theorem SC.wL {h h1 : AH} (s : SC h h1) (a k : Nat) (v : Int64) (h0 : 49 ≤ a) (e : a < 107) : SC h (wL h1 a k v) := ⟨s.1, s.2.1, s.2.2.1, fun x j h2 => by rw [q_neL (by omega)]; exact s.2.2.2 x j h2⟩
theorem RM.SM {h w h' : AH} (m : RM h w) (s : SM h h') (l : Lay h') : RM h' w := ⟨l, fun a k h1 h2 h3 h4 => (s.1 a k h1 h2).trans (m.2.1 a k h1 h2 h3 h4), fun a k h1 h2 h4 => (s.2 a k h1 h2).trans (m.2.2 a k h1 h2 h4)⟩
theorem RM.i50 {h w : AH} (m : RM h w) : hI h 50 = hI w 50 := funext fun k => m.2.1 50 k (by decide) (by decide) (by decide) rfl
theorem RM.i51 {h w : AH} (m : RM h w) : hI h 51 = hI w 51 := funext fun k => m.2.1 51 k (by decide) (by decide) (by decide) rfl
theorem RM.i52 {h w : AH} (m : RM h w) : hI h 52 = hI w 52 := funext fun k => m.2.1 52 k (by decide) (by decide) (by decide) rfl
theorem RM.i53 {h w : AH} (m : RM h w) : hI h 53 = hI w 53 := funext fun k => m.2.1 53 k (by decide) (by decide) (by decide) rfl
theorem RM.i54 {h w : AH} (m : RM h w) : hI h 54 = hI w 54 := funext fun k => m.2.1 54 k (by decide) (by decide) (by decide) rfl
theorem RM.i55 {h w : AH} (m : RM h w) : hI h 55 = hI w 55 := funext fun k => m.2.1 55 k (by decide) (by decide) (by decide) rfl
theorem RM.i56 {h w : AH} (m : RM h w) : hI h 56 = hI w 56 := funext fun k => m.2.1 56 k (by decide) (by decide) (by decide) rfl
theorem RM.i57 {h w : AH} (m : RM h w) : hI h 57 = hI w 57 := funext fun k => m.2.1 57 k (by decide) (by decide) (by decide) rfl
theorem RM.i58 {h w : AH} (m : RM h w) : hI h 58 = hI w 58 := funext fun k => m.2.1 58 k (by decide) (by decide) (by decide) rfl
theorem RM.i59 {h w : AH} (m : RM h w) : hI h 59 = hI w 59 := funext fun k => m.2.1 59 k (by decide) (by decide) (by decide) rfl
theorem RM.i60 {h w : AH} (m : RM h w) : hI h 60 = hI w 60 := funext fun k => m.2.1 60 k (by decide) (by decide) (by decide) rfl
theorem RM.i61 {h w : AH} (m : RM h w) : hI h 61 = hI w 61 := funext fun k => m.2.1 61 k (by decide) (by decide) (by decide) rfl
theorem RM.i62 {h w : AH} (m : RM h w) : hI h 62 = hI w 62 := funext fun k => m.2.1 62 k (by decide) (by decide) (by decide) rfl
theorem RM.i63 {h w : AH} (m : RM h w) : hI h 63 = hI w 63 := funext fun k => m.2.1 63 k (by decide) (by decide) (by decide) rfl
theorem RM.i64 {h w : AH} (m : RM h w) : hI h 64 = hI w 64 := funext fun k => m.2.1 64 k (by decide) (by decide) (by decide) rfl
theorem RM.i65 {h w : AH} (m : RM h w) : hI h 65 = hI w 65 := funext fun k => m.2.1 65 k (by decide) (by decide) (by decide) rfl
theorem RM.i66 {h w : AH} (m : RM h w) : hI h 66 = hI w 66 := funext fun k => m.2.1 66 k (by decide) (by decide) (by decide) rfl
theorem RM.i67 {h w : AH} (m : RM h w) : hI h 67 = hI w 67 := funext fun k => m.2.1 67 k (by decide) (by decide) (by decide) rfl
theorem RM.i68 {h w : AH} (m : RM h w) : hI h 68 = hI w 68 := funext fun k => m.2.1 68 k (by decide) (by decide) (by decide) rfl
theorem RM.i69 {h w : AH} (m : RM h w) : hI h 69 = hI w 69 := funext fun k => m.2.1 69 k (by decide) (by decide) (by decide) rfl
theorem RM.i70 {h w : AH} (m : RM h w) : hI h 70 = hI w 70 := funext fun k => m.2.1 70 k (by decide) (by decide) (by decide) rfl
theorem RM.i71 {h w : AH} (m : RM h w) : hI h 71 = hI w 71 := funext fun k => m.2.1 71 k (by decide) (by decide) (by decide) rfl
theorem RM.i80 {h w : AH} (m : RM h w) : hI h 80 = hI w 80 := funext fun k => m.2.1 80 k (by decide) (by decide) (by decide) rfl
theorem RM.i81 {h w : AH} (m : RM h w) : hI h 81 = hI w 81 := funext fun k => m.2.1 81 k (by decide) (by decide) (by decide) rfl
theorem RM.i82 {h w : AH} (m : RM h w) : hI h 82 = hI w 82 := funext fun k => m.2.1 82 k (by decide) (by decide) (by decide) rfl
theorem RM.i83 {h w : AH} (m : RM h w) : hI h 83 = hI w 83 := funext fun k => m.2.1 83 k (by decide) (by decide) (by decide) rfl
theorem RM.i84 {h w : AH} (m : RM h w) : hI h 84 = hI w 84 := funext fun k => m.2.1 84 k (by decide) (by decide) (by decide) rfl
theorem RM.i86 {h w : AH} (m : RM h w) : hI h 86 = hI w 86 := funext fun k => m.2.1 86 k (by decide) (by decide) (by decide) rfl
theorem RM.i87 {h w : AH} (m : RM h w) : hI h 87 = hI w 87 := funext fun k => m.2.1 87 k (by decide) (by decide) (by decide) rfl
theorem RM.i88 {h w : AH} (m : RM h w) : hI h 88 = hI w 88 := funext fun k => m.2.1 88 k (by decide) (by decide) (by decide) rfl
theorem RM.i89 {h w : AH} (m : RM h w) : hI h 89 = hI w 89 := funext fun k => m.2.1 89 k (by decide) (by decide) (by decide) rfl
theorem RM.i90 {h w : AH} (m : RM h w) : hI h 90 = hI w 90 := funext fun k => m.2.1 90 k (by decide) (by decide) (by decide) rfl
theorem RM.i92 {h w : AH} (m : RM h w) : hI h 92 = hI w 92 := funext fun k => m.2.1 92 k (by decide) (by decide) (by decide) rfl
theorem RM.i93 {h w : AH} (m : RM h w) : hI h 93 = hI w 93 := funext fun k => m.2.1 93 k (by decide) (by decide) (by decide) rfl
theorem RM.i94 {h w : AH} (m : RM h w) : hI h 94 = hI w 94 := funext fun k => m.2.1 94 k (by decide) (by decide) (by decide) rfl
theorem RM.i97 {h w : AH} (m : RM h w) : hI h 97 = hI w 97 := funext fun k => m.2.1 97 k (by decide) (by decide) (by decide) rfl
theorem RM.i98 {h w : AH} (m : RM h w) : hI h 98 = hI w 98 := funext fun k => m.2.1 98 k (by decide) (by decide) (by decide) rfl
theorem RM.i102 {h w : AH} (m : RM h w) : hI h 102 = hI w 102 := funext fun k => m.2.1 102 k (by decide) (by decide) (by decide) rfl
theorem RM.i103 {h w : AH} (m : RM h w) : hI h 103 = hI w 103 := funext fun k => m.2.1 103 k (by decide) (by decide) (by decide) rfl
theorem RM.i104 {h w : AH} (m : RM h w) : hI h 104 = hI w 104 := funext fun k => m.2.1 104 k (by decide) (by decide) (by decide) rfl
theorem RM.i105 {h w : AH} (m : RM h w) : hL h 105 = hL w 105 := funext fun k => m.2.2 105 k (by decide) (by decide) rfl
theorem RM.f1 {h w : AH} (m : RM h w) : hI h 49 1 = hI w 49 1 := m.2.1 49 1 (by decide) (by decide) (by decide) rfl
theorem RM.f3 {h w : AH} (m : RM h w) : hI h 49 3 = hI w 49 3 := m.2.1 49 3 (by decide) (by decide) (by decide) rfl
theorem RM.f11 {h w : AH} (m : RM h w) : hI h 49 11 = hI w 49 11 := m.2.1 49 11 (by decide) (by decide) (by decide) rfl
theorem RM.f13 {h w : AH} (m : RM h w) : hI h 49 13 = hI w 49 13 := m.2.1 49 13 (by decide) (by decide) (by decide) rfl
theorem RM.f17 {h w : AH} (m : RM h w) : hI h 49 17 = hI w 49 17 := m.2.1 49 17 (by decide) (by decide) (by decide) rfl
theorem RM.f25 {h w : AH} (m : RM h w) : hI h 49 25 = hI w 49 25 := m.2.1 49 25 (by decide) (by decide) (by decide) rfl
theorem RM.f33 {h w : AH} (m : RM h w) : hI h 49 33 = hI w 49 33 := m.2.1 49 33 (by decide) (by decide) (by decide) rfl
theorem RM.f65 {h w : AH} (m : RM h w) : hI h 49 65 = hI w 49 65 := m.2.1 49 65 (by decide) (by decide) (by decide) rfl
theorem RM.f75 {h w : AH} (m : RM h w) : hI h 49 75 = hI w 49 75 := m.2.1 49 75 (by decide) (by decide) (by decide) rfl
theorem RM.f76 {h w : AH} (m : RM h w) : hI h 49 76 = hI w 49 76 := m.2.1 49 76 (by decide) (by decide) (by decide) rfl
theorem RM.f84 {h w : AH} (m : RM h w) : hI h 49 84 = hI w 49 84 := m.2.1 49 84 (by decide) (by decide) (by decide) rfl
