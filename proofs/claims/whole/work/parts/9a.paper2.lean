theorem wI_wI (h : AH) (a k : Nat) (v u : Int32) : wI (wI h a k v) a k u = wI h a k u := by
  unfold wI
  refine Prod.ext rfl (Prod.ext (funext fun b => funext fun j => ?_) rfl)
  show (if b = a ∧ j = k then u else if b = a ∧ j = k then v else h.2.1 b j) = if b = a ∧ j = k then u else h.2.1 b j
  by_cases z : b = a ∧ j = k
  · rw [if_pos z, if_pos z]
  · rw [if_neg z, if_neg z, if_neg z]
/-- the length of the run of p from 0 on, within n -/
def runN (p : Nat → Bool) : Nat → Nat
  | 0 => 0
  | n + 1 => if runN p n = n ∧ p n = true then n + 1 else runN p n
theorem runN_all {p : Nat → Bool} {n : Nat} (h : ∀ i, i < n → p i = true) : runN p n = n := by
  induction n with
  | zero => rfl
  | succ n ih => have e := ih (fun i hi => h i (by omega)); unfold runN; rw [if_pos ⟨e, h n (by omega)⟩]
theorem runN_at {p : Nat → Bool} {n i : Nat} (hi : i < n) (h : ∀ j, j < i → p j = true) (hp : p i = false) : runN p n = i := by
  induction n with
  | zero => omega
  | succ n ih =>
    unfold runN
    rcases Nat.lt_or_ge i n with z | z
    · have e := ih z
      rw [e, if_neg (by omega)]
    · have : i = n := by omega
      subst this
      rw [if_neg (by rw [hp]; simp), runN_all h]
theorem runN_le (p : Nat → Bool) (n : Nat) : runN p n ≤ n := by
  induction n with
  | zero => exact Nat.le_refl 0
  | succ n ih => unfold runN; split <;> omega
theorem runN_p {p : Nat → Bool} {n i : Nat} (h : i < runN p n) : p i = true := by
  induction n with
  | zero => unfold runN at h; omega
  | succ n ih =>
    unfold runN at h
    split at h
    · rename_i z
      rcases Nat.lt_or_ge i n with y | y
      · exact ih (by omega)
      · have : i = n := by omega
        subst this; exact z.2
    · exact ih h
def papd (w : AH) (b s i : Nat) : Nat → AH
  | 0 => wI w 66 b 0
  | m + 1 => wI (wI (papd w b s i m) 67 (40 * b + m) (hL w 105 (60 * s + (i + m))).toInt32) 66 b (nI (m + 1))
theorem papd_I (w : AH) (b s i m : Nat) {a : Nat} (h1 : a ≠ 66) (h2 : a ≠ 67) : hI (papd w b s i m) a = hI w a := by
  induction m with
  | zero => exact q_ne h1
  | succ m ih => unfold papd; rw [q_ne h1, q_ne h2]; exact ih
theorem papd_L (w : AH) (b s i m : Nat) : hL (papd w b s i m) = hL w := by
  induction m with
  | zero => rfl
  | succ m ih => exact ih
theorem papd_n (w : AH) (b s i m : Nat) : hI (papd w b s i m) 66 b = nI m := by
  cases m with
  | zero => exact q_at
  | succ m => exact q_at
theorem WN.of {w w1 : AH} (n : WN w) (e : hI w1 49 = hI w 49) (e2 : hI w1 51 = hI w 51) : WN w1 := by
  unfold WN nB nM nL nT nS nW at *
  rw [e, e2]; exact n
def nameOk (w : AH) (s : Nat) (i : Int32) (k : Nat) : Bool := decide (hI w 103 s = -3 ∧ 0 ≤ i ∧ i.toNatClampNeg + k < (hI w 104 s).toNatClampNeg) && isFinder_ w (hL w 105 (60 * s + (i.toNatClampNeg + k))).toInt32
theorem RB.pap67 {h w : AH} {ad : Nat → Nat} (B : RB h w ad) {b0 : Nat} {q : Nat} (hq : q < 40) (p : ¬ nI q < hI w 66 b0) (v : Int32) : RB h (wI w 67 (40 * b0 + q) v) ad := by
  refine ⟨B.1, B.2.1, B.2.2.1, fun b hb hkb => ?_, B.2.2.2.2⟩
  have this := B.2.2.2.1 b hb hkb
  refine ⟨this.1, fun i h1 h2 => ?_, this.2.2⟩
  have h2 : nI i < hI w 66 b := h2
  show _ = hI (wI w 67 (40 * b0 + q) v) 67 (40 * b + i)
  rw [q_II, if_neg]
  · exact this.2.1 i h1 h2
  · rintro ⟨-, z⟩
    have e1 : b = b0 := by omega
    have e2 : i = q := by omega
    subst e1; subst e2; exact p h2
theorem RC.pap0 {h w : AH} {P : Nat → Prog} {ad : Nat → Nat} (R : RC h w P ad) {b0 : Nat} (hb0 : b0 < nB w) (hk0 : boxK (hI w 51 b0) = true) : RC (wI (wI h (ad b0) 15 0) (ad b0) 16 1) (wI w 66 b0 0) P ad := by
  have h107 := ad_ge R.B.1 (show b0 ≤ nB w by omega)
  have D1 := R.dd.setx R.B hb0 0 15 (by have := blk_box hk0; omega) (by omega) 0
  rw [Nat.add_zero] at D1
  have B1 := R.B.papN hb0 hk0 (Or.inl rfl) 0 (if hI w 66 b0 < 0 then hI w 66 b0 else 0) (fun i h1 h2 => absurd h2 (by
    split
    · rename_i z; have := nI_pos' (n := i) (by omega); grind
    · have := nI_pos' (n := i) (by omega); grind)) (by
    rw [if_pos rfl]
    by_cases z : hI w 66 b0 < 0
    · rw [if_pos z, if_pos z]
    · rw [if_neg z, if_neg (by decide)]) (by
    have z2 : ¬ 15 = 16 := by decide
    rw [if_neg z2]
    by_cases z : hI w 66 b0 < 0
    · rw [if_pos z]
    · rw [if_neg z, if_neg (by decide), if_neg z])
  generalize (if hI w 66 b0 < 0 then hI w 66 b0 else 0) = N at B1
  have B2 := B1.papN (b0 := b0) hb0 hk0 (Or.inr rfl) 1 0 (fun i h1 h2 => absurd h2 (by have := nI_pos' (n := i) (by omega); grind)) (by
    rw [if_neg (by decide)]
    have y : hI (wI w 66 b0 N) 66 b0 = N := q_at
    have x := (B1.2.2.1 b0 hb0 hk0).2.2.2.2.2.2.2.2.2.1
    rw [q_at] at x
    exact x) (by rw [if_pos rfl]; rfl)
  have D2 := D1.wc (w1 := wI w 66 b0 N) rfl
  have D3 := D2.setx B1 (b0 := b0) hb0 0 16 (by have := blk_box hk0; exact Nat.lt_of_lt_of_le (by omega) this) (by omega) 1
  rw [Nat.add_zero] at D3
  rw [wI_wI] at B2
  have O : RO (wI (wI h (ad b0) 15 0) (ad b0) 16 1) w P ad := R.o.hc (fun a ha => by rw [q_ne (by omega), q_ne (by omega)]) (fun _ _ => rfl) (fun _ _ => rfl)
  exact RC.of ((R.l.wI _ _ _).wI _ _ _) (O.wc rfl) B2 (D3.wc (w1 := wI w 66 b0 0) rfl)
theorem RC.pap {h w : AH} {P : Nat → Prog} {ad : Nat → Nat} (R : RC h w P ad) {b0 : Nat} (hb0 : b0 < nB w) (hk0 : boxK (hI w 51 b0) = true) {q : Nat} (hq : q < 40) (e : hI w 66 b0 = nI q) (a : Int32) : RC (wI (wI h (ad b0 + 2) q a) (ad b0) 15 (nI (q + 1))) (wI (wI w 67 (40 * b0 + q) a) 66 b0 (nI (q + 1))) P ad := by
  have h107 := ad_ge R.B.1 (show b0 ≤ nB w by omega)
  have b4 := blk_box hk0
  have ne : ¬ nI q < hI w 66 b0 := by rw [e]; grind
  have B1 := R.B.setr hb0 hk0 (o := 2) (k0 := q) (by omega) (by omega) a (fun z => absurd z (by omega)) (fun _ => ne) (fun z => absurd z (by omega))
  have D1 := R.dd.setx R.B hb0 2 q (by omega) (by omega) a
  have D2 := D1.setx B1 hb0 0 15 (by omega) (by omega) (nI (q + 1))
  rw [Nat.add_zero] at D2
  have O : RO (wI (wI h (ad b0 + 2) q a) (ad b0) 15 (nI (q + 1))) w P ad := R.o.hc (fun a ha => by rw [q_ne (by omega), q_ne (by omega)]) (fun _ _ => rfl) (fun _ _ => rfl)
  have B2 := B1.pap67 hq ne a
  have x16 := (R.B.2.2.1 b0 hb0 hk0)
  refine RC.of ((R.l.wI _ _ _).wI _ _ _) (O.wc rfl) (B2.papN (b0 := b0) hb0 hk0 (Or.inl rfl) (nI (q + 1)) (nI (q + 1)) ?_ ?_ ?_) (D2.wc rfl)
  · intro i h1 h2
    rw [nI_ltI (by omega) (by omega)] at h2
    rw [q_II, q_II]
    by_cases z : i = q
    · rw [if_pos ⟨rfl, z⟩, if_pos ⟨rfl, by omega⟩]
    · rw [if_neg (fun y => z y.2), if_neg (by omega)]
      exact (R.B.2.2.2.1 b0 hb0 hk0).2.1 i h1 (by rw [e, nI_ltI (by omega) (by omega)]; omega)
  · rw [if_pos rfl, if_neg (by rw [nI_neg (by omega)]; exact id)]
  · have y : hI (wI w 67 (40 * b0 + q) a) 66 b0 = nI q := e
    rw [if_neg (by rw [nI_neg (by omega)]; exact id), if_neg (by decide), y, if_neg (by rw [nI_neg (by omega)]; exact id)]
