/-! NEW BODIES -/
def WWi (w : AH) : Prop := ∀ i, i < nW w → ∃ b, b < nB w ∧ hI w 92 i = nI b ∧ boxK (hI w 51 b) = true
def WZr (w : AH) : Prop := ∀ b, nB w ≤ b → hI w 89 b = 0 ∧ hI w 86 b = 0 ∧ hI w 80 b = 0
theorem bestOf_nil {p : Nat → Bool} {bt : Nat → Nat → Bool} {n : Nat} (h : ∀ i, i < n → p i = false) : bestOf p bt n = none := by
  induction n with
  | zero => rfl
  | succ n ih => rw [bestOf_s _ _ _ (h n (by omega))]; exact ih (fun i hi => h i (by omega))
theorem RC.newB {h w h1 w1 : AH} {P : Nat → Prog} {ad : Nat → Nat} (R : RC h w P ad) (n : WN w) (M : WM w) (V : WL w) (H : WH w) (X : WWi w) (K : WK w) (Z : WZr w) (hb : nB w < 150) {k : Int32} (hk : 0 ≤ k ∧ k ≤ 7)
    (eS : hS h1 = hS h ++ (List.range (blk k)).map (sB k))
    (eI : ∀ a, a < ad (nB w) → ∀ j, ¬ (a = 1 ∧ j = 3) → hI h1 a j = hI h a j) (e13 : hI h1 1 3 = nI (nB w + 1))
    (eL : ∀ a, a < 49 → hL h1 a = hL h a)
    (eR : ∀ a, a < ad (nB w) → ∀ j, ¬ (a = 3 ∧ j = nB w) → hR h1 a j = hR h a j) (e3 : hR h1 3 (nB w) = some (ad (nB w)))
    (w3 : hI w1 49 3 = nI (nB w + 1)) (w49 : ∀ j, j ≠ 3 → hI w1 49 j = hI w 49 j)
    (wr : ∀ a, a = 50 ∨ (58 ≤ a ∧ a ≤ 65) ∨ 67 ≤ a → hI w1 a = hI w a)
    (wn : ∀ a, (51 ≤ a ∧ a ≤ 56) ∨ a = 66 → ∀ j, j ≠ nB w → hI w1 a j = hI w a j)
    (ws : ∀ j, j < 4 * nB w ∨ 4 * nB w + 4 ≤ j → hI w1 57 j = hI w 57 j)
    (wl : hL w1 = hL w)
    (wk : hI w1 51 (nB w) = k) (we : hI w1 54 (nB w) = -1) (wpp : hI w1 66 (nB w) = -1)
    (x0 : hI h1 (ad (nB w)) 0 = nI (nB w)) (x1 : hI h1 (ad (nB w)) 1 = k)
    (xf : k = 7 → hI h1 (ad (nB w)) 2 = hI w1 52 (nB w) ∧ hI h1 (ad (nB w)) 3 = hI w1 53 (nB w) ∧ hI h1 (ad (nB w)) 4 = -1)
    (xb : boxK k = true → hI h1 (ad (nB w)) 2 = hI w1 53 (nB w) ∧ hI h1 (ad (nB w)) 3 = hI w1 52 (nB w) ∧ hI h1 (ad (nB w)) 8 = hI w1 55 (nB w) ∧ hI h1 (ad (nB w)) 9 = hI w1 52 (nB w) ∧ hI h1 (ad (nB w)) 10 = hI w1 56 (nB w) ∧ hI h1 (ad (nB w)) 11 = -1 ∧ hI h1 (ad (nB w)) 12 = 0 ∧ hI h1 (ad (nB w)) 13 = 0 ∧ hI h1 (ad (nB w)) 14 = -1 ∧ hI h1 (ad (nB w)) 15 = 0 ∧ hI h1 (ad (nB w)) 16 = 0 ∧ hI h1 (ad (nB w)) 17 = 0 ∧ hI h1 (ad (nB w)) 18 = -1)
    (xbr : boxK k = true → hR h1 (ad (nB w)) 4 = some (ad (nB w) + 1) ∧ hR h1 (ad (nB w)) 5 = some (ad (nB w) + 2) ∧ hR h1 (ad (nB w)) 6 = some (ad (nB w) + 3) ∧ hR h1 (ad (nB w)) 7 = (if k = 2 ∨ k = 5 then some (ad (nB w) + 4) else none))
    (xs : boxK k = true → ∀ i, i < 4 → nI i < hI w1 56 (nB w) → hI h1 (ad (nB w) + 1) i = hI w1 57 (4 * nB w + i))
    (xr : k = 2 ∨ k = 5 → hR h1 (ad (nB w) + 4) 3 = some (ad (nB w) + 5) ∧ hR h1 (ad (nB w) + 4) 4 = some (ad (nB w) + 6) ∧ hR h1 (ad (nB w) + 4) 5 = some (ad (nB w) + 7) ∧ hR h1 (ad (nB w) + 4) 6 = some (ad (nB w) + 8) ∧ hR h1 (ad (nB w) + 4) 7 = some (ad (nB w) + 9) ∧ hR h1 (ad (nB w) + 4) 12 = some (ad (nB w) + 10))
    (xd : k = 2 ∨ k = 5 → hI h1 (ad (nB w) + 4) 8 = 0 ∧ hI h1 (ad (nB w) + 4) 9 = 0 ∧ hI h1 (ad (nB w) + 4) 10 = -1 ∧ hI h1 (ad (nB w) + 4) 11 = -1)
    (xt : k = 6 → hR h1 (ad (nB w)) 2 = some (ad (nB w) + 1) ∧ hR h1 (ad (nB w)) 3 = some (ad (nB w) + 2) ∧ hI h1 (ad (nB w)) 4 = 0) :
    RC h1 w1 P (fun b => if b = nB w + 1 then ad (nB w) + blk k else ad b) := by
  have hn := n.n150
  have len : ad (nB w) = (hS h).length := R.B.1.2.1
  have h107 := ad_ge R.B.1 (Nat.le_refl (nB w))
  have nb1 : nB w1 = nB w + 1 := by
    show (hI w1 49 3).toNatClampNeg = _
    rw [w3, nI_clamp (by omega)]
  have fI : ∀ a, a < 49 → a ≠ 1 → hI h1 a = hI h a := fun a ha hne => funext fun j => eI a (by omega) j (fun y => hne y.1)
  have fR : ∀ a, a < 49 → a ≠ 3 → hR h1 a = hR h a := fun a ha hne => funext fun j => eR a (by omega) j (fun y => hne y.1)
  have f1 : ∀ j, j ≠ 3 → hI h1 1 j = hI h 1 j := fun j hj => eI 1 (by omega) j (fun y => hj y.2)
  have S1 : ∀ a, a < ad (nB w) → (hS h1)[a]? = (hS h)[a]? := fun a ha => by rw [eS, List.getElem?_append_left (by omega)]
  have ad1 : ∀ b, b ≤ nB w → (fun b => if b = nB w + 1 then ad (nB w) + blk k else ad b) b = ad b := fun b hb => if_neg (by omega)
  have ad2 : (fun b => if b = nB w + 1 then ad (nB w) + blk k else ad b) (nB w + 1) = ad (nB w) + blk k := if_pos rfl
  generalize (fun b => if b = nB w + 1 then ad (nB w) + blk k else ad b) = ad' at ad1 ad2 ⊢
  have lo : ∀ b, b < nB w → ∀ i, i < blk (hI w 51 b) → ∀ j, hI h1 (ad b + i) j = hI h (ad b + i) j := fun b hb i hi j => by
    have g := ad_ge R.B.1 (show b ≤ nB w by omega)
    have := ad_le R.B.1 hb (Nat.le_refl _)
    exact eI _ (by omega) j (by omega)
  have lo0 : ∀ b, b < nB w → ∀ j, hI h1 (ad b) j = hI h (ad b) j := fun b hb j => lo b hb 0 (blk_pos _) j
  have loR : ∀ b, b < nB w → ∀ i, i < blk (hI w 51 b) → ∀ j, hR h1 (ad b + i) j = hR h (ad b + i) j := fun b hb i hi j => by
    have g := ad_ge R.B.1 (show b ≤ nB w by omega)
    have := ad_le R.B.1 hb (Nat.le_refl _)
    exact eR _ (by omega) j (by omega)
  have loR0 : ∀ b, b < nB w → ∀ j, hR h1 (ad b) j = hR h (ad b) j := fun b hb j => loR b hb 0 (blk_pos _) j
  have loS : ∀ b, b < nB w → ∀ i, i < blk (hI w 51 b) → (hS h1)[ad b + i]? = (hS h)[ad b + i]? := fun b hb i hi => by
    have := ad_le R.B.1 hb (Nat.le_refl _)
    exact S1 _ (by omega)
  have k51 : ∀ b, b < nB w → hI w1 51 b = hI w 51 b := fun b hb => wn 51 (by omega) b (by omega)
  have rest : ∀ b, b < nB w + 1 → b ≠ nB w → b < nB w := fun b h1 h2 => by omega
  have l1 : Lay h1 := by
    refine ⟨fun a ha => by rw [S1 a (by omega)]; exact R.l.1 a ha, fun q hq => ?_⟩
    have t : ∀ q ∈ tR, q.1 < 49 ∧ q.1 ≠ 3 := by decide
    have := t q hq
    rw [fR q.1 this.1 this.2]
    exact R.l.2 q hq
  refine ⟨l1, ?_, ?_, ?_, ?_, ?_, ?_, ?_, ?_, ⟨⟨?_, ?_, ?_, ?_⟩, ?_, ?_, ?_, ?_⟩, ?_⟩
  · have := R.g
    unfold Rg at *
    rw [f1 0 (by omega), f1 5 (by omega), fI 2 (by omega) (by omega), fI 4 (by omega) (by omega), w49 1 (by omega), w49 11 (by omega), wr 50 (by omega), wr 58 (by omega)]; exact this
  · have := R.mm
    unfold Rm at *
    rw [f1 9 (by omega), fI 5 (by omega) (by omega), fI 6 (by omega) (by omega), fI 7 (by omega) (by omega), w49 13 (by omega), wr 59 (by omega), wr 61 (by omega), wr 60 (by omega)]; exact this
  · have := R.ll
    unfold Rl at *
    rw [fI 21 (by omega) (by omega), fI 22 (by omega) (by omega), fI 23 (by omega) (by omega), fI 25 (by omega) (by omega), fI 26 (by omega) (by omega), w49 17 (by omega), wr 62 (by omega), wr 63 (by omega), wr 64 (by omega), wr 65 (by omega)]; exact this
  · have := R.rr
    unfold Rr nT at *
    rw [fI 8 (by omega) (by omega), fI 15 (by omega) (by omega), fI 16 (by omega) (by omega), fI 17 (by omega) (by omega), fI 18 (by omega) (by omega), fI 19 (by omega) (by omega), w49 33 (by omega), wr 69 (by omega), wr 70 (by omega), wr 71 (by omega)]; exact this
  · have := R.tt
    unfold Rt at *
    rw [fI 9 (by omega) (by omega), fI 10 (by omega) (by omega), w49 25 (by omega), wr 68 (by omega)]; exact this
  · have := R.kk
    have nw : nW w1 = nW w := by unfold nW; rw [w49 65 (by omega)]
    unfold Rk at *
    rw [fI 28 (by omega) (by omega), fI 31 (by omega) (by omega), fI 32 (by omega) (by omega), fI 29 (by omega) (by omega), fR 30 (by omega) (by omega), nw, w49 65 (by omega), w49 76 (by omega), w49 75 (by omega), wr 92 (by omega), wr 93 (by omega), wr 94 (by omega), wr 97 (by omega)]
    refine ⟨this.1, fun i hi => ?_, this.2.2⟩
    obtain ⟨b, b1, b2, -⟩ := X i hi
    have q := this.2.1 i hi
    rw [b2, nI_clamp (by omega)] at q ⊢
    rw [ad1 b (by omega)]; exact q
  · intro s hs
    have := R.ss s hs
    unfold shelfAt_ at *
    rw [fI (36 + 2 * s) (by omega) (by omega), fR (36 + 2 * s) (by omega) (by omega), eL (36 + 2 * s + 1) (by omega), wr 103 (by omega), wr 104 (by omega), wl]
    refine ⟨?_, this.2⟩
    rw [this.1]
    by_cases c : 0 ≤ hI w 103 s
    · rw [if_pos c, if_pos c]
      rcases H s hs with q | ⟨b, b1, b2⟩ | ⟨⟨x, x1, x2⟩, -⟩
      · rw [q] at c; exact absurd c (by decide)
      · rw [b2, nI_clamp (by omega), ad1 b (by omega)]
      · have : x = 0 ∨ x = 1 ∨ x = 2 ∨ x = 3 ∨ x = 4 := by omega
        rw [x2] at c
        rcases this with rfl | rfl | rfl | rfl | rfl <;> exact absurd c (by decide)
    · rw [if_neg c, if_neg c]
  · have := R.aa
    unfold Ra at *
    rw [fI 48 (by omega) (by omega), w49 84 (by omega), wr 102 (by omega)]; exact this
  · rw [ad1 0 (by omega)]; exact R.B.1.1
  · rw [nb1, ad2, eS, List.length_append, List.length_map, List.length_range, len]
  · rw [e13, w3]
  · intro b hb1
    rw [nb1] at hb1
    by_cases c : b = nB w
    · subst c
      rw [ad2, ad1 (nB w) (Nat.le_refl _), wk]
      refine ⟨Nat.le_refl _, e3, x0, x1, fun o ho => ?_, fun c => ⟨(xt c).1, (xt c).2.1⟩, fun c => xbr c, fun c => xr c⟩
      rw [eS, List.getElem?_append_right (by omega), len, Nat.add_sub_cancel_left, List.getElem?_map, List.getElem?_range ho]
      rfl
    · have hb2 := rest b hb1 c
      have q := R.B.1.2.2.2 b hb2
      have b1 := blk_pos (hI w 51 b)
      rw [ad1 (b + 1) (by omega), ad1 b (by omega), k51 b hb2, lo0 b hb2, lo0 b hb2]
      refine ⟨q.1, by rw [eR 3 (by omega) b (by omega)]; exact q.2.1, q.2.2.1, q.2.2.2.1, fun o ho => by rw [loS b hb2 o ho]; exact q.2.2.2.2.1 o ho, fun c => ?_, fun c => ?_, fun c => ?_⟩
      · rw [loR0 b hb2, loR0 b hb2]; exact q.2.2.2.2.2.1 c
      · rw [loR0 b hb2, loR0 b hb2, loR0 b hb2, loR0 b hb2]; exact q.2.2.2.2.2.2.1 c
      · have b11 : blk (hI w 51 b) = 11 := by rcases c with e | e <;> rw [e] <;> decide
        simp only [loR b hb2 4 (by omega)]; exact q.2.2.2.2.2.2.2 c
  · intro b hb1 hk7
    rw [nb1] at hb1
    by_cases c : b = nB w
    · subst c
      rw [ad1 (nB w) (Nat.le_refl _), we]
      rw [wk] at hk7
      exact xf hk7
    · have hb2 := rest b hb1 c
      rw [k51 b hb2] at hk7
      rw [ad1 b (by omega), lo0 b hb2, lo0 b hb2, lo0 b hb2, wn 52 (by omega) b (by omega), wn 53 (by omega) b (by omega), wn 54 (by omega) b (by omega)]
      exact R.B.2.1 b hb2 hk7
  · refine RBx_bx.mpr fun b hb1 hkb j hj => ?_
    rw [nb1] at hb1
    have nm : nM w1 = nM w := by unfold nM; rw [w49 13 (by omega)]
    have nl : nL w1 = nL w := by unfold nL; rw [w49 17 (by omega)]
    have fd : isFound_ w1 = isFound_ w := by funext i l; unfold isFound_; rw [wr 63 (by omega), wr 65 (by omega)]
    have bh : behind_ w1 = behind_ w := by funext i l; unfold behind_; rw [wr 64 (by omega)]
    have ff : ∀ i, finds_ w1 i = finds_ w i := fun i => by unfold finds_; rw [fd, nl]
    have lt : ∀ i, latest_ w1 i = latest_ w i := fun i => by unfold latest_; rw [fd, bh, nl]
    have ms : ∀ i, misses_ w1 i = misses_ w i := fun i => by unfold misses_; rw [lt, nl]; congr 1; funext l; unfold isMiss_; rw [wr 63 (by omega), wr 65 (by omega), bh]
    have cn : ∀ i, cellNow_ w1 i = lastOf (fun m => decide (hI w 59 m = nI i)) (fun m => hI w 60 m) (hI w1 52 i) (nM w) := fun i => by unfold cellNow_; rw [wr 59 (by omega), wr 60 (by omega), nm]
    by_cases c : b = nB w
    · subst c
      rw [wk] at hkb
      rw [ad1 (nB w) (Nat.le_refl _)]
      obtain ⟨y2, y3, y8, y9, y10, y11, y12, y13, y14, y15, y16, y17, y18⟩ := xb hkb
      have nf : ∀ l, l < nL w → isFound_ w (nB w) l = false := fun l hl => decide_eq_false (fun y => by
        obtain ⟨-, ⟨b, b1, b2, -⟩, -⟩ := V l hl
        have := y.1
        rw [b2, nI_eq (by omega) (by omega)] at this
        omega)
      have f0 : finds_ w1 (nB w) = 0 := by rw [ff]; exact cnt_zero nf
      have t0 : latest_ w1 (nB w) = none := by rw [lt]; exact bestOf_nil nf
      have m0 : misses_ w1 (nB w) = 0 := by
        rw [ms]
        refine cnt_zero (fun l hl => ?_)
        unfold isMiss_
        obtain ⟨-, ⟨b, b1, b2, -⟩, -⟩ := V l hl
        rw [decide_eq_false (fun y => ?_), Bool.false_and]
        have := y.1
        rw [b2, nI_eq (by omega) (by omega)] at this
        omega
      have c0 : cellNow_ w1 (nB w) = hI w1 52 (nB w) := by
        rw [cn]
        refine lastOf_none (fun m hm => decide_eq_false (fun y => ?_))
        obtain ⟨⟨b, b1, b2, -⟩, -⟩ := M m hm
        rw [b2, nI_eq (by omega) (by omega)] at y
        omega
      have : j = 2 ∨ j = 3 ∨ j = 8 ∨ j = 9 ∨ j = 10 ∨ j = 11 ∨ j = 12 ∨ j = 13 ∨ j = 14 ∨ j = 15 ∨ j = 16 ∨ j = 17 ∨ j = 18 := by
        unfold bxk at hj
        simp at hj
        omega
      rcases this with rfl | rfl | rfl | rfl | rfl | rfl | rfl | rfl | rfl | rfl | rfl | rfl | rfl
      · exact y2
      · exact y3
      · exact y8
      · show _ = cellNow_ w1 (nB w); rw [c0]; exact y9
      · exact y10
      · show _ = hI w1 54 (nB w); rw [we]; exact y11
      · show _ = nI (finds_ w1 (nB w)); rw [f0]; exact y12
      · show _ = nI (misses_ w1 (nB w)); rw [m0]; exact y13
      · show _ = oI (latest_ w1 (nB w)); rw [t0]; exact y14
      · show _ = (if hI w1 66 (nB w) < 0 then 0 else hI w1 66 (nB w)); rw [wpp, if_pos (by decide)]; exact y15
      · show _ = (if hI w1 66 (nB w) < 0 then (0 : Int32) else 1); rw [wpp, if_pos (by decide)]; exact y16
      · show _ = hI w1 89 (nB w); rw [wr 89 (by omega), (Z (nB w) (Nat.le_refl _)).1]; exact y17
      · show _ = hI w1 98 (nB w) - 1; rw [wr 98 (by omega), (K (nB w)).2 (fun y => absurd y.1 (by omega))]; exact y18
    · have hb2 := rest b hb1 c
      rw [k51 b hb2] at hkb
      rw [ad1 b (by omega), lo0 b hb2, RBx_bx.mp R.B.2.2.1 b hb2 hkb j hj]
      have cw : cellNow_ w1 b = cellNow_ w b := by rw [cn, wn 52 (by omega) b (by omega)]; rfl
      unfold bx
      rw [cw, ff, lt, ms, wn 53 (by omega) b (by omega), wn 52 (by omega) b (by omega), wn 55 (by omega) b (by omega), wn 56 (by omega) b (by omega), wn 54 (by omega) b (by omega), wn 66 (by omega) b (by omega), wr 89 (by omega), wr 98 (by omega)]
  · intro b hb1 hkb
    rw [nb1] at hb1
    by_cases c : b = nB w
    · subst c
      rw [wk] at hkb
      rw [ad1 (nB w) (Nat.le_refl _), wpp, wr 89 (by omega), (Z (nB w) (Nat.le_refl _)).1]
      exact ⟨xs hkb, fun i hi y => absurd y (by have := nI_pos' (n := i) (by omega); grind), fun i hi y => absurd y (by have := nI_pos' (n := i) (by omega); grind)⟩
    · have hb2 := rest b hb1 c
      rw [k51 b hb2] at hkb
      have b4 := blk_box hkb
      have q := R.B.2.2.2.1 b hb2 hkb
      rw [ad1 b (by omega), wn 56 (by omega) b (by omega), wn 66 (by omega) b (by omega), wr 89 (by omega), wr 67 (by omega), wr 90 (by omega)]
      refine ⟨fun i h1 h2 => by rw [lo b hb2 1 (by omega), ws (4 * b + i) (by omega)]; exact q.1 i h1 h2, fun i h1 h2 => by rw [lo b hb2 2 (by omega)]; exact q.2.1 i h1 h2, fun i h1 h2 => by rw [lo b hb2 3 (by omega)]; exact q.2.2 i h1 h2⟩
  · intro b hb1 hk6
    rw [nb1] at hb1
    by_cases c : b = nB w
    · subst c
      rw [wk] at hk6
      rw [ad1 (nB w) (Nat.le_refl _), wr 86 (by omega), (Z (nB w) (Nat.le_refl _)).2.1]
      exact ⟨(xt hk6).2.2, fun i hi y => absurd y (by have := nI_pos' (n := i) (by omega); grind)⟩
    · have hb2 := rest b hb1 c
      rw [k51 b hb2] at hk6
      have b3 : blk (hI w 51 b) = 3 := by rw [hk6]; decide
      have q := R.B.2.2.2.2 b hb2 hk6
      rw [ad1 b (by omega), wr 86 (by omega), wr 87 (by omega), wr 88 (by omega), lo0 b hb2]
      exact ⟨q.1, fun i h1 h2 => by rw [lo b hb2 1 (by omega), lo b hb2 2 (by omega)]; exact q.2 i h1 h2⟩
  · intro b hb1 hkr
    rw [nb1] at hb1
    have lw : ∀ i, letters_ w1 i = letters_ w i := fun i => by unfold letters_; rw [wr 80 (by omega), wr 81 (by omega), wr 82 (by omega), wr 83 (by omega)]
    have tw : ∀ i s, told_ w1 i s = told_ w i s := fun i s => by unfold told_; rw [wr 80 (by omega), wr 81 (by omega)]
    by_cases c : b = nB w
    · subst c
      rw [wk] at hkr
      have z0 := (Z (nB w) (Nat.le_refl _)).2.2
      have c0 : (0 : Int32).toNatClampNeg = 0 := by decide
      have l0 : letters_ w (nB w) = 0 := by unfold letters_; rw [z0, c0]; rfl
      have t0 : ∀ s, told_ w (nB w) s = none := fun s => by unfold told_; rw [z0, c0]; rfl
      rw [ad1 (nB w) (Nat.le_refl _), lw, tw, tw, l0, t0, t0, wr 80 (by omega), z0]
      exact ⟨(xd hkr).1, (xd hkr).2.1, (xd hkr).2.2.1, (xd hkr).2.2.2, fun i hi y => absurd y (by have := nI_pos' (n := i) (by omega); grind)⟩
    · have hb2 := rest b hb1 c
      rw [k51 b hb2] at hkr
      have b11 : blk (hI w 51 b) = 11 := by rcases hkr with e | e <;> rw [e] <;> decide
      have q := R.dd b hb2 hkr
      rw [ad1 b (by omega), lw, tw, tw, wr 80 (by omega), wr 81 (by omega), wr 82 (by omega), wr 83 (by omega), wr 84 (by omega)]
      simp only [lo b hb2 4 (by omega), lo b hb2 5 (by omega), lo b hb2 6 (by omega), lo b hb2 7 (by omega), lo b hb2 8 (by omega), lo b hb2 9 (by omega)]
      exact q
