/-! the call riddle: the class's cells of it -/
def isR (k : Int32) : Prop := k = 2 ∨ k = 5
theorem blkR {k : Int32} (h : k = 2 ∨ k = 5) : blk k = 11 := by rcases h with e | e <;> rw [e] <;> decide
theorem boxR {k : Int32} (h : k = 2 ∨ k = 5) : boxK k = true := by rcases h with e | e <;> rw [e] <;> decide
theorem RB.w4 {h w : AH} {ad : Nat → Nat} (B : RB h w ad) {b0 : Nat} (hb0 : b0 < nB w) (hk0 : hI w 51 b0 = 2 ∨ hI w 51 b0 = 5) {o k0 : Nat} (ho4 : 4 ≤ o) (ho : o < 11) (v : Int32) : RB (wI h (ad b0 + o) k0 v) w ad := by
  have hb : o < blk (hI w 51 b0) := by rw [blkR hk0]; exact ho
  have rd0 := fun b (hb' : b < nB w) i (hi : i < blk (hI w 51 b)) j => rd B.1 hb' hb0 (o := o) hi hb k0 v j
  have g0 : ∀ b, b < nB w → ∀ i, i < 4 → i < blk (hI w 51 b) → ∀ j, hI (wI h (ad b0 + o) k0 v) (ad b + i) j = hI h (ad b + i) j := fun b hb' i h4 hi j => by
    rw [rd0 b hb' i hi, if_neg (by omega)]
  have g00 : ∀ b, b < nB w → ∀ j, hI (wI h (ad b0 + o) k0 v) (ad b) j = hI h (ad b) j := fun b hb' j => g0 b hb' 0 (by omega) (blk_pos _) j
  refine ⟨B.1.wr hb0 hb (Or.inl (by omega)) v, fun b hb hk7 => ?_, fun b hb hkb => ?_, fun b hb hkb => ?_, fun b hb hk6 => ?_⟩
  · simp only [g00 b hb]; exact B.2.1 b hb hk7
  · simp only [g00 b hb]; exact B.2.2.1 b hb hkb
  · have b4 := blk_box hkb
    have this := B.2.2.2.1 b hb hkb
    exact ⟨fun i h1 h2 => by rw [g0 b hb 1 (by omega) (by omega)]; exact this.1 i h1 h2, fun i h1 h2 => by rw [g0 b hb 2 (by omega) (by omega)]; exact this.2.1 i h1 h2, fun i h1 h2 => by rw [g0 b hb 3 (by omega) (by omega)]; exact this.2.2 i h1 h2⟩
  · have b3 : blk (hI w 51 b) = 3 := by rw [hk6]; decide
    have this := B.2.2.2.2 b hb hk6
    rw [g00 b hb]
    exact ⟨this.1, fun i h1 h2 => by rw [g0 b hb 1 (by omega) (by omega), g0 b hb 2 (by omega) (by omega)]; exact this.2 i h1 h2⟩
def telC (h : AH) (a q : Nat) (s f t v lst L1 L2 ex ey : Int32) : AH := wI (wI (wI (wI (wI (wI (wI (wI (wI (wI h (a + 5) q s) (a + 6) q f) (a + 7) q t) (a + 8) q v) (a + 9) q lst) (a + 4) 9 L1) (a + 4) 9 L2) (a + 4) 10 ex) (a + 4) 11 ey) (a + 4) 8 (nI (q + 1))
theorem telC_ne (h : AH) (a q : Nat) (s f t v lst L1 L2 ex ey : Int32) {b : Nat} (e : b < a + 4 ∨ a + 9 < b) : hI (telC h a q s f t v lst L1 L2 ex ey) b = hI h b := by
  unfold telC
  rw [q_ne (by omega), q_ne (by omega), q_ne (by omega), q_ne (by omega), q_ne (by omega), q_ne (by omega), q_ne (by omega), q_ne (by omega), q_ne (by omega), q_ne (by omega)]
theorem telC_rows (h : AH) (a q : Nat) (s f t v lst L1 L2 ex ey : Int32) (j : Nat) : hI (telC h a q s f t v lst L1 L2 ex ey) (a + 5) j = (if j = q then s else hI h (a + 5) j) ∧ hI (telC h a q s f t v lst L1 L2 ex ey) (a + 6) j = (if j = q then f else hI h (a + 6) j) ∧ hI (telC h a q s f t v lst L1 L2 ex ey) (a + 7) j = (if j = q then t else hI h (a + 7) j) ∧ hI (telC h a q s f t v lst L1 L2 ex ey) (a + 8) j = (if j = q then v else hI h (a + 8) j) ∧ hI (telC h a q s f t v lst L1 L2 ex ey) (a + 9) j = (if j = q then lst else hI h (a + 9) j) := by
  unfold telC
  refine ⟨?_, ?_, ?_, ?_, ?_⟩
  · rw [q_ne (by omega), q_ne (by omega), q_ne (by omega), q_ne (by omega), q_ne (by omega), q_ne (by omega), q_ne (by omega), q_ne (by omega), q_ne (by omega), q_II]
    by_cases z : j = q
    · rw [if_pos ⟨rfl, z⟩, if_pos z]
    · rw [if_neg (fun y => z y.2), if_neg z]
  · rw [q_ne (by omega), q_ne (by omega), q_ne (by omega), q_ne (by omega), q_ne (by omega), q_ne (by omega), q_ne (by omega), q_ne (by omega), q_II]
    by_cases z : j = q
    · rw [if_pos ⟨rfl, z⟩, if_pos z]
    · rw [if_neg (fun y => z y.2), if_neg z, q_ne (by omega)]
  · rw [q_ne (by omega), q_ne (by omega), q_ne (by omega), q_ne (by omega), q_ne (by omega), q_ne (by omega), q_ne (by omega), q_II]
    by_cases z : j = q
    · rw [if_pos ⟨rfl, z⟩, if_pos z]
    · rw [if_neg (fun y => z y.2), if_neg z, q_ne (by omega), q_ne (by omega)]
  · rw [q_ne (by omega), q_ne (by omega), q_ne (by omega), q_ne (by omega), q_ne (by omega), q_ne (by omega), q_II]
    by_cases z : j = q
    · rw [if_pos ⟨rfl, z⟩, if_pos z]
    · rw [if_neg (fun y => z y.2), if_neg z, q_ne (by omega), q_ne (by omega), q_ne (by omega)]
  · rw [q_ne (by omega), q_ne (by omega), q_ne (by omega), q_ne (by omega), q_ne (by omega), q_II]
    by_cases z : j = q
    · rw [if_pos ⟨rfl, z⟩, if_pos z]
    · rw [if_neg (fun y => z y.2), if_neg z, q_ne (by omega), q_ne (by omega), q_ne (by omega), q_ne (by omega)]
theorem telC_4 (h : AH) (a q : Nat) (s f t v lst L1 L2 ex ey : Int32) : hI (telC h a q s f t v lst L1 L2 ex ey) (a + 4) 8 = nI (q + 1) ∧ hI (telC h a q s f t v lst L1 L2 ex ey) (a + 4) 9 = L2 ∧ hI (telC h a q s f t v lst L1 L2 ex ey) (a + 4) 10 = ex ∧ hI (telC h a q s f t v lst L1 L2 ex ey) (a + 4) 11 = ey := by
  unfold telC
  exact ⟨q_at, by rw [q_atne (by omega), q_atne (by omega), q_atne (by omega), q_at], by rw [q_atne (by omega), q_atne (by omega), q_at], by rw [q_atne (by omega), q_at]⟩
theorem tel1_rows (u : AH) (b q : Nat) (s f t v : Int32) (k : Nat) : hI (tel1 u b q s f t v) 81 k = (if k = 8 * b + q then s else hI u 81 k) ∧ hI (tel1 u b q s f t v) 82 k = (if k = 8 * b + q then f else hI u 82 k) ∧ hI (tel1 u b q s f t v) 83 k = (if k = 8 * b + q then t else hI u 83 k) ∧ hI (tel1 u b q s f t v) 84 k = (if k = 8 * b + q then v else hI u 84 k) ∧ hI (tel1 u b q s f t v) 80 k = (if k = b then nI (q + 1) else hI u 80 k) := by
  unfold tel1
  refine ⟨?_, ?_, ?_, ?_, ?_⟩
  · rw [q_ne (by omega), q_ne (by omega), q_ne (by omega), q_ne (by omega), q_II]
    by_cases z : k = 8 * b + q
    · rw [if_pos ⟨rfl, z⟩, if_pos z]
    · rw [if_neg (fun y => z y.2), if_neg z]
  · rw [q_ne (by omega), q_ne (by omega), q_ne (by omega), q_II]
    by_cases z : k = 8 * b + q
    · rw [if_pos ⟨rfl, z⟩, if_pos z]
    · rw [if_neg (fun y => z y.2), if_neg z, q_ne (by omega)]
  · rw [q_ne (by omega), q_ne (by omega), q_II]
    by_cases z : k = 8 * b + q
    · rw [if_pos ⟨rfl, z⟩, if_pos z]
    · rw [if_neg (fun y => z y.2), if_neg z, q_ne (by omega), q_ne (by omega)]
  · rw [q_ne (by omega), q_II]
    by_cases z : k = 8 * b + q
    · rw [if_pos ⟨rfl, z⟩, if_pos z]
    · rw [if_neg (fun y => z y.2), if_neg z, q_ne (by omega), q_ne (by omega), q_ne (by omega)]
  · rw [q_II]
    by_cases z : k = b
    · rw [if_pos ⟨rfl, z⟩, if_pos z]
    · rw [if_neg (fun y => z y.2), if_neg z, q_ne (by omega), q_ne (by omega), q_ne (by omega), q_ne (by omega)]
def WD (w : AH) : Prop := ∀ b, b < nB w → (hI w 51 b = 2 ∨ hI w 51 b = 5) → ∃ m, m ≤ 8 ∧ hI w 80 b = nI m ∧ ∀ k, k < m → telOk (hI w 81 (8 * b + k)) (hI w 82 (8 * b + k)) (hI w 83 (8 * b + k)) (hI w 84 (8 * b + k)) = true
theorem RC.tel5 {h w : AH} {P : Nat → Prog} {ad : Nat → Nat} (R : RC h w P ad) (WDw : WD w) {b0 : Nat} (hb0 : b0 < nB w) (hk0 : hI w 51 b0 = 2 ∨ hI w 51 b0 = 5) {q : Nat} (hq : q < 8) (e : hI w 80 b0 = nI q) {s f t t' v lst L1 L2 ex ey : Int32} (ht : s ≤ 2 → t' = t) (hl : lst = if s ≤ 2 then (if f < t then t else f) else f) (hL : L2 = (letters_ w b0 ||| (if f = 6 then 0 else bitOf f)) ||| (if s ≤ 2 then bitOf t else 0)) (hx : ex = if s = 4 then nI q else oI (told_ w b0 4)) (hy : ey = if s = 5 then nI q else oI (told_ w b0 5)) : RC (telC h (ad b0) q s f t v lst L1 L2 ex ey) (tel1 w b0 q s f t' v) P ad := by
  have h107 := ad_ge R.B.1 (show b0 ≤ nB w by omega)
  have B := (((((((((R.B.w4 hb0 hk0 (o := 5) (k0 := q) (by omega) (by omega) s).w4 hb0 hk0 (o := 6) (k0 := q) (by omega) (by omega) f).w4 hb0 hk0 (o := 7) (k0 := q) (by omega) (by omega) t).w4 hb0 hk0 (o := 8) (k0 := q) (by omega) (by omega) v).w4 hb0 hk0 (o := 9) (k0 := q) (by omega) (by omega) lst).w4 hb0 hk0 (o := 4) (k0 := 9) (by omega) (by omega) L1).w4 hb0 hk0 (o := 4) (k0 := 9) (by omega) (by omega) L2).w4 hb0 hk0 (o := 4) (k0 := 10) (by omega) (by omega) ex).w4 hb0 hk0 (o := 4) (k0 := 11) (by omega) (by omega) ey).w4 hb0 hk0 (o := 4) (k0 := 8) (by omega) (by omega) (nI (q + 1))
  have O : RO (telC h (ad b0) q s f t v lst L1 L2 ex ey) w P ad := R.o.hc (fun a ha => telC_ne _ _ _ _ _ _ _ _ _ _ _ _ (by omega)) (fun _ _ => rfl) (fun _ _ => rfl)
  have l : Lay (telC h (ad b0) q s f t v lst L1 L2 ex ey) := (((((((((R.l.wI _ _ _).wI _ _ _).wI _ _ _).wI _ _ _).wI _ _ _).wI _ _ _).wI _ _ _).wI _ _ _).wI _ _ _).wI _ _ _
  refine RC.of l (O.wc rfl) (RB.wc (w := w) B rfl) ?_
  intro b hb hk
  have hb : b < nB w := hb
  have hk : hI w 51 b = 2 ∨ hI w 51 b = 5 := hk
  have old := R.dd b hb hk
  have wr := fun k => tel1_rows w b0 q s f t' v k
  by_cases z : b = b0
  · subst z
    obtain ⟨x8, x9, x10, x11⟩ := telC_4 h (ad b) q s f t v lst L1 L2 ex ey
    have xr := fun j => telC_rows h (ad b) q s f t v lst L1 L2 ex ey j
    have w80 : hI (tel1 w b q s f t' v) 80 b = nI (q + 1) := by rw [(wr b).2.2.2.2, if_pos rfl]
    have c1 : (nI (q + 1)).toNatClampNeg = q + 1 := nI_clamp (by omega)
    have c0 : (nI q).toNatClampNeg = q := nI_clamp (by omega)
    have r81 : ∀ k, k < q → hI (tel1 w b q s f t' v) 81 (8 * b + k) = hI w 81 (8 * b + k) := fun k hk => by rw [(wr _).1, if_neg (by omega)]
    have r82 : ∀ k, k < q → hI (tel1 w b q s f t' v) 82 (8 * b + k) = hI w 82 (8 * b + k) := fun k hk => by rw [(wr _).2.1, if_neg (by omega)]
    have r83 : ∀ k, k < q → hI (tel1 w b q s f t' v) 83 (8 * b + k) = hI w 83 (8 * b + k) := fun k hk => by rw [(wr _).2.2.1, if_neg (by omega)]
    have r84 : ∀ k, k < q → hI (tel1 w b q s f t' v) 84 (8 * b + k) = hI w 84 (8 * b + k) := fun k hk => by rw [(wr _).2.2.2.1, if_neg (by omega)]
    have n81 : hI (tel1 w b q s f t' v) 81 (8 * b + q) = s := by rw [(wr _).1, if_pos rfl]
    have n82 : hI (tel1 w b q s f t' v) 82 (8 * b + q) = f := by rw [(wr _).2.1, if_pos rfl]
    have n83 : hI (tel1 w b q s f t' v) 83 (8 * b + q) = t' := by rw [(wr _).2.2.1, if_pos rfl]
    have n84 : hI (tel1 w b q s f t' v) 84 (8 * b + q) = v := by rw [(wr _).2.2.2.1, if_pos rfl]
    have el : letters_ (tel1 w b q s f t' v) b = L2 := by
      rw [hL]
      unfold letters_
      rw [w80, c1, e, c0, foldN_S, n81, n82, n83]
      have e2 : foldN (fun k v_1 => (v_1 ||| (if hI (tel1 w b q s f t' v) 82 (8 * b + k) = 6 then 0 else bitOf (hI (tel1 w b q s f t' v) 82 (8 * b + k)))) ||| (if hI (tel1 w b q s f t' v) 81 (8 * b + k) ≤ 2 then bitOf (hI (tel1 w b q s f t' v) 83 (8 * b + k)) else 0)) 0 q = foldN (fun k v => (v ||| (if hI w 82 (8 * b + k) = 6 then 0 else bitOf (hI w 82 (8 * b + k)))) ||| (if hI w 81 (8 * b + k) ≤ 2 then bitOf (hI w 83 (8 * b + k)) else 0)) 0 q := foldN_congr (fun k y hk => by rw [r81 k hk, r82 k hk, r83 k hk])
      rw [e2]
      by_cases s2 : s ≤ 2
      · rw [if_pos s2, if_pos s2, ht s2]
      · rw [if_neg s2, if_neg s2]
    have et : ∀ y, oI (told_ (tel1 w b q s f t' v) b y) = if s = y then nI q else oI (told_ w b y) := fun y => by
      unfold told_
      rw [w80, c1, e, c0]
      show oI (if decide (hI (tel1 w b q s f t' v) 81 (8 * b + q) = y) = true then some q else lastOf _ _ _ q) = _
      rw [n81, lastOf_congr (fun k hk => by rw [r81 k hk]) (fun _ _ _ => rfl)]
      by_cases sy : s = y
      · rw [if_pos (decide_eq_true sy), if_pos sy]; rfl
      · rw [if_neg (fun x => sy (of_decide_eq_true x)), if_neg sy]
    rw [x8, x9, x10, x11, el, et, et, w80]
    refine ⟨rfl, rfl, hx, hy, fun i hi h2 => ?_⟩
    rw [nI_ltI (by omega) (by omega)] at h2
    obtain ⟨x5, x6, x7, xx8, xx9⟩ := xr i
    rw [x5, x6, x7, xx8, xx9]
    by_cases y : i = q
    · subst y
      rw [if_pos rfl, if_pos rfl, if_pos rfl, if_pos rfl, if_pos rfl, n81, n82, n83, n84]
      refine ⟨rfl, rfl, fun s2 => (ht s2).symm, rfl, ?_⟩
      rw [hl]
      by_cases s2 : s ≤ 2
      · rw [if_pos s2, if_pos s2, ht s2]
      · rw [if_neg s2, if_neg s2]
    · have hi2 : i < q := by omega
      rw [if_neg y, if_neg y, if_neg y, if_neg y, if_neg y, r81 i hi2, r82 i hi2, r83 i hi2, r84 i hi2]
      exact old.2.2.2.2 i hi (by rw [e, nI_ltI (by omega) (by omega)]; exact hi2)
  · have bb := blkR hk
    have b0b := blkR hk0
    have nen : ∀ i, i < 11 → ∀ o, o < 11 → ad b + i ≠ ad b0 + o := fun i hi o ho => ad_ne R.B.1 hb hb0 z (by omega) (by omega)
    have g : ∀ i, 4 ≤ i → i < 11 → hI (telC h (ad b0) q s f t v lst L1 L2 ex ey) (ad b + i) = hI h (ad b + i) := fun i h1 h2 => by
      refine telC_ne _ _ _ _ _ _ _ _ _ _ _ _ ?_
      by_cases c : ad b + i < ad b0 + 4
      · exact Or.inl c
      · refine Or.inr ?_
        rcases Nat.lt_or_ge (ad b0 + 9) (ad b + i) with y | y
        · exact y
        · exact absurd (show ad b + i = ad b0 + (ad b + i - ad b0) by omega) (nen i h2 _ (by omega))
    have w80 : hI (tel1 w b0 q s f t' v) 80 b = hI w 80 b := by rw [(wr b).2.2.2.2, if_neg z]
    have r : ∀ k, k < 8 → hI (tel1 w b0 q s f t' v) 81 (8 * b + k) = hI w 81 (8 * b + k) ∧ hI (tel1 w b0 q s f t' v) 82 (8 * b + k) = hI w 82 (8 * b + k) ∧ hI (tel1 w b0 q s f t' v) 83 (8 * b + k) = hI w 83 (8 * b + k) ∧ hI (tel1 w b0 q s f t' v) 84 (8 * b + k) = hI w 84 (8 * b + k) := fun k hk => ⟨by rw [(wr _).1, if_neg (by omega)], by rw [(wr _).2.1, if_neg (by omega)], by rw [(wr _).2.2.1, if_neg (by omega)], by rw [(wr _).2.2.2.1, if_neg (by omega)]⟩
    obtain ⟨m, hm, em, -⟩ := WDw b hb hk
    have cm : (nI m).toNatClampNeg = m := nI_clamp (by omega)
    have el : letters_ (tel1 w b0 q s f t' v) b = letters_ w b := by
      unfold letters_
      rw [w80, em, cm]
      exact foldN_congr (fun k y hk => by rw [(r k (by omega)).1, (r k (by omega)).2.1, (r k (by omega)).2.2.1])
    have et : ∀ y, told_ (tel1 w b0 q s f t' v) b y = told_ w b y := fun y => by
      unfold told_
      rw [w80, em, cm]
      exact lastOf_congr (fun k hk => by rw [(r k (by omega)).1]) (fun _ _ _ => rfl)
    rw [g 4 (by omega) (by omega), g 5 (by omega) (by omega), g 6 (by omega) (by omega), g 7 (by omega) (by omega), g 8 (by omega) (by omega), g 9 (by omega) (by omega), el, et, et, w80]
    refine ⟨old.1, old.2.1, old.2.2.1, old.2.2.2.1, fun i hi h2 => ?_⟩
    rw [(r i hi).1, (r i hi).2.1, (r i hi).2.2.1, (r i hi).2.2.2]
    exact old.2.2.2.2 i hi h2
