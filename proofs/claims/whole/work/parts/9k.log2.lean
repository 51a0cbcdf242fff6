/-! the call log: the relation -/
def logd (w : AH) (f b t v : Int32) : AH := wI (wI (wI (wI (wI w 62 (nL w) f) 63 (nL w) b) 64 (nL w) t) 65 (nL w) v) 49 17 (nI (nL w + 1))
theorem wI_row {h w : AH} {a c : Nat} (q : Nat) (v : Int32) (e : hI h a = hI w c) : hI (wI h a q v) a = hI (wI w c q v) c := by
  funext j
  rw [q_II, q_II, e]
  by_cases z : j = q
  · rw [if_pos ⟨rfl, z⟩, if_pos ⟨rfl, z⟩]
  · rw [if_neg (fun y => z y.2), if_neg (fun y => z y.2)]
theorem logd_L {w : AH} (n : WN w) (f b t v : Int32) : nL (logd w f b t v) = nL w + 1 := by
  have hl := n.l300
  show (nI (nL w + 1)).toNatClampNeg = _
  exact nI_clamp (by omega)
theorem logd_at (w : AH) (f b t v : Int32) (c : Nat) : hI (logd w f b t v) 62 c = (if c = nL w then f else hI w 62 c) ∧ hI (logd w f b t v) 63 c = (if c = nL w then b else hI w 63 c) ∧ hI (logd w f b t v) 64 c = (if c = nL w then t else hI w 64 c) ∧ hI (logd w f b t v) 65 c = (if c = nL w then v else hI w 65 c) := by
  unfold logd
  refine ⟨?_, ?_, ?_, ?_⟩
  · rw [q_ne (by decide), q_ne (by decide), q_ne (by decide), q_ne (by decide), q_II]
    by_cases z : c = nL w
    · rw [if_pos ⟨rfl, z⟩, if_pos z]
    · rw [if_neg (fun y => z y.2), if_neg z]
  · rw [q_ne (by decide), q_ne (by decide), q_ne (by decide), q_II]
    by_cases z : c = nL w
    · rw [if_pos ⟨rfl, z⟩, if_pos z]
    · rw [if_neg (fun y => z y.2), if_neg z, q_ne (by decide)]
  · rw [q_ne (by decide), q_ne (by decide), q_II]
    by_cases z : c = nL w
    · rw [if_pos ⟨rfl, z⟩, if_pos z]
    · rw [if_neg (fun y => z y.2), if_neg z, q_ne (by decide), q_ne (by decide)]
  · rw [q_ne (by decide), q_II]
    by_cases z : c = nL w
    · rw [if_pos ⟨rfl, z⟩, if_pos z]
    · rw [if_neg (fun y => z y.2), if_neg z, q_ne (by decide), q_ne (by decide), q_ne (by decide)]
theorem logd_found {w : AH} (n : WN w) (f t v : Int32) {b c : Nat} (hb : b < 150) (hc : c < 150) (ne : c ≠ b) {l : Nat} (hl : l < nL w + 1) : isFound_ (logd w f (nI b) t v) c l = (decide (l < nL w) && isFound_ w c l) := by
  unfold isFound_
  obtain ⟨-, e3, -, e5⟩ := logd_at w f (nI b) t v l
  rw [e3, e5]
  by_cases z : l = nL w
  · rw [if_pos z, if_pos z, decide_eq_false (show ¬ l < nL w by omega), Bool.false_and]
    exact decide_eq_false (fun y => ne (by have := y.1; rw [nI_eq (by omega) (by omega)] at this; exact this.symm))
  · rw [if_neg z, if_neg z, decide_eq_true (show l < nL w by omega), Bool.true_and]
theorem logd_behind (w : AH) (f b t v : Int32) {i j : Nat} (hi : i < nL w) (hj : j < nL w) : behind_ (logd w f b t v) i j = behind_ w i j := by
  have e1 : hI (logd w f b t v) 64 i = hI w 64 i := by rw [(logd_at w f b t v i).2.2.1, if_neg (by omega)]
  have e2 : hI (logd w f b t v) 64 j = hI w 64 j := by rw [(logd_at w f b t v j).2.2.1, if_neg (by omega)]
  unfold behind_
  simp only [e1, e2]
theorem bestOf_s (p : Nat → Bool) (bt : Nat → Nat → Bool) (n : Nat) (h : p n = false) : bestOf p bt (n + 1) = bestOf p bt n := by
  show (if p n = true then _ else _) = _
  rw [h]; rfl
theorem cnt_s (p : Nat → Bool) (n : Nat) (h : p n = false) : cnt p (n + 1) = cnt p n := by
  show cnt p n + (if p n = true then 1 else 0) = _
  rw [h]; rfl
theorem logd_ne {w : AH} (n : WN w) (f t v : Int32) {b c : Nat} (hb : b < 150) (hc : c < 150) (ne : c ≠ b) : finds_ (logd w f (nI b) t v) c = finds_ w c ∧ latest_ (logd w f (nI b) t v) c = latest_ w c ∧ misses_ (logd w f (nI b) t v) c = misses_ w c := by
  have fe := fun l (hl : l < nL w + 1) => logd_found n f t v hb hc ne hl
  have last : isFound_ (logd w f (nI b) t v) c (nL w) = false := by
    rw [fe (nL w) (by omega), decide_eq_false (by omega), Bool.false_and]
  have low : ∀ l, l < nL w → isFound_ (logd w f (nI b) t v) c l = isFound_ w c l := fun l hl => by
    rw [fe l (by omega), decide_eq_true hl, Bool.true_and]
  have e2 : latest_ (logd w f (nI b) t v) c = latest_ w c := by
    unfold latest_
    rw [logd_L n, bestOf_s _ _ _ last]
    exact bestOf_congr low (fun i j hi hj _ _ => logd_behind w f (nI b) t v hi (by omega))
  refine ⟨?_, e2, ?_⟩
  · unfold finds_
    rw [logd_L n, cnt_s _ _ last]
    exact cnt_congr low
  · unfold misses_
    rw [e2, logd_L n, cnt_s]
    · refine cnt_congr (fun l hl => ?_)
      unfold isMiss_
      obtain ⟨-, e3, -, e5⟩ := logd_at w f (nI b) t v l
      rw [e3, e5, if_neg (by omega), if_neg (by omega)]
      cases hq : latest_ w c with
      | none => rfl
      | some j =>
        have hj := (bestOf_lt hq).1
        show (_ && behind_ (logd w f (nI b) t v) l j) = (_ && behind_ w l j)
        rw [logd_behind w f (nI b) t v hl hj]
    · unfold isMiss_
      obtain ⟨-, e3, -, e5⟩ := logd_at w f (nI b) t v (nL w)
      rw [e3, e5, if_pos rfl, if_pos rfl, decide_eq_false (fun y => ne ?_), Bool.false_and]
      have := y.1
      rw [nI_eq (by omega) (by omega)] at this
      exact this.symm
theorem RB.chg {h w h1 w1 : AH} {ad : Nat → Nat} (B : RB h w ad) {b0 : Nat} (hk0 : boxK (hI w 51 b0) = true) (eS : hS h1 = hS h) (eR : hR h1 = hR h) (e13 : hI h1 1 3 = hI h 1 3) (g : ∀ b, b < nB w → ∀ i, i < blk (hI w 51 b) → ∀ j, ¬ (b = b0 ∧ i = 0 ∧ 2 ≤ j) → hI h1 (ad b + i) j = hI h (ad b + i) j) (e3 : hI w1 49 3 = hI w 49 3) (e51 : hI w1 51 = hI w 51) (f : RBf h w1 ad) (r : RBr h w1 ad) (t : RBt h w1 ad) (ex : ∀ b, b < nB w → boxK (hI w 51 b) = true → ∀ k, bxk k = true → hI h1 (ad b) k = bx w1 b k) : RB h1 w1 ad := by
  have n1 : nB w1 = nB w := by unfold nB; rw [e3]
  have g0 : ∀ b, b < nB w → b ≠ b0 → ∀ j, hI h1 (ad b) j = hI h (ad b) j := fun b hb ne j => by
    have := g b hb 0 (blk_pos _) j (fun y => ne y.1)
    rw [Nat.add_zero] at this; exact this
  have g01 : ∀ b, b < nB w → ∀ j, j < 2 → hI h1 (ad b) j = hI h (ad b) j := fun b hb j hj => by
    have := g b hb 0 (blk_pos _) j (fun y => by omega)
    rw [Nat.add_zero] at this; exact this
  refine ⟨⟨B.1.1, by rw [eS, n1]; exact B.1.2.1, by rw [e13, e3]; exact B.1.2.2.1, fun b hb => ?_⟩, fun b hb hk7 => ?_, RBx_bx.mpr fun b hb hkb k hkk => ?_, fun b hb hkb => ?_, fun b hb hk6 => ?_⟩
  · rw [n1] at hb
    rw [e51, eR, eS, g01 b hb 0 (by omega), g01 b hb 1 (by omega)]
    exact B.1.2.2.2 b hb
  · have := f b hb hk7
    rw [n1] at hb; rw [e51] at hk7
    have ne : b ≠ b0 := fun z => by rw [z] at hk7; rw [hk7] at hk0; exact absurd hk0 (by decide)
    simp only [g0 b hb ne]
    exact this
  · rw [n1] at hb; rw [e51] at hkb
    exact ex b hb hkb k hkk
  · have := r b hb hkb
    rw [n1] at hb; rw [e51] at hkb
    have b4 := blk_box hkb
    have g1 : ∀ i j, 1 ≤ i → i < 4 → hI h1 (ad b + i) j = hI h (ad b + i) j := fun i j h1 h2 => g b hb i (by omega) j (by omega)
    refine ⟨fun i h1 h2 => by rw [g1 1 i (by omega) (by omega)]; exact this.1 i h1 h2, fun i h1 h2 => by rw [g1 2 i (by omega) (by omega)]; exact this.2.1 i h1 h2, fun i h1 h2 => by rw [g1 3 i (by omega) (by omega)]; exact this.2.2 i h1 h2⟩
  · have := t b hb hk6
    rw [n1] at hb; rw [e51] at hk6
    have ne : b ≠ b0 := fun z => by rw [z] at hk6; rw [hk6] at hk0; exact absurd hk0 (by decide)
    have b3 : blk (hI w 51 b) = 3 := by rw [hk6]; decide
    refine ⟨by rw [g0 b hb ne]; exact this.1, fun i h1 h2 => ?_⟩
    rw [g b hb 1 (by omega) i (fun y => ne y.1), g b hb 2 (by omega) i (fun y => ne y.1)]
    exact this.2 i h1 h2
def lgh (h : AH) (q : Nat) (f b t v : Int32) : AH := wI (wI (wI (wI (wI h 22 q f) 25 q b) 26 q t) 23 q v) 21 2 (nI (q + 1))
theorem lgh_ne {h : AH} {q : Nat} {f b t v : Int32} {a : Nat} (e : a < 21 ∨ 26 < a) : hI (lgh h q f b t v) a = hI h a := by
  unfold lgh
  rw [q_ne (by omega), q_ne (by omega), q_ne (by omega), q_ne (by omega), q_ne (by omega)]
theorem RC.lgRl {h w : AH} {P : Nat → Prog} {ad : Nat → Nat} (R : RC h w P ad) (f b t v : Int32) : Rl (lgh h (nL w) f b t v) (logd w f b t v) := by
  unfold Rl lgh logd
  refine ⟨?_, ?_, ?_, ?_, ?_⟩
  · rw [q_at]; exact q_at.symm
  · rw [q_ne (by decide), q_ne (by decide), q_ne (by decide), q_ne (by decide), q_ne (a := 49) (by decide), q_ne (a := 65) (by decide), q_ne (a := 64) (by decide), q_ne (a := 63) (by decide)]
    exact wI_row _ _ R.i22
  · rw [q_ne (by decide), q_ne (a := 49) (by decide)]
    refine wI_row _ _ ?_
    rw [q_ne (by decide), q_ne (by decide), q_ne (by decide), q_ne (a := 64) (by decide), q_ne (a := 63) (by decide), q_ne (a := 62) (by decide)]
    exact R.i23
  · rw [q_ne (by decide), q_ne (by decide), q_ne (by decide), q_ne (a := 49) (by decide), q_ne (a := 65) (by decide), q_ne (a := 64) (by decide)]
    refine wI_row _ _ ?_
    rw [q_ne (by decide), q_ne (a := 62) (by decide)]
    exact R.i25
  · rw [q_ne (by decide), q_ne (by decide), q_ne (a := 49) (by decide), q_ne (a := 65) (by decide)]
    refine wI_row _ _ ?_
    rw [q_ne (by decide), q_ne (by decide), q_ne (a := 63) (by decide), q_ne (a := 62) (by decide)]
    exact R.i26
theorem RC.lgB {h w : AH} {P : Nat → Prog} {ad : Nat → Nat} (R : RC h w P ad) (q : Nat) (f b t v : Int32) : RB (lgh h q f b t v) w ad := R.B.hc rfl (by rw [lgh_ne (by omega)]) (fun a ha => lgh_ne (by omega)) rfl (fun _ _ => rfl)
theorem RC.log {h w : AH} {P : Nat → Prog} {ad : Nat → Nat} (R : RC h w P ad) (n : WN w) {b0 : Nat} (hb0 : b0 < nB w) (hk0 : boxK (hI w 51 b0) = true) (f t v : Int32) : RC (tri (lgh h (nL w) f (nI b0) t v) (ad b0) (nI (finds_ (logd w f (nI b0) t v) b0)) (nI (misses_ (logd w f (nI b0) t v) b0)) (oI (latest_ (logd w f (nI b0) t v) b0))) (logd w f (nI b0) t v) P ad := by
  have h107 := ad_ge R.B.1 (show b0 ≤ nB w by omega)
  have hn := n.n150
  have ql := R.lgRl f (nI b0) t v
  have B := R.lgB (nL w) f (nI b0) t v
  have D : RBd (lgh h (nL w) f (nI b0) t v) w ad := R.dd.hc R.B (fun a ha => lgh_ne (by omega))
  have l : Lay (lgh h (nL w) f (nI b0) t v) := ((((R.l.wI _ _ _).wI _ _ _).wI _ _ _).wI _ _ _).wI _ _ _
  have O : RO (lgh h (nL w) f (nI b0) t v) (logd w f (nI b0) t v) P ad := by
    refine ⟨?_, ?_, ql, ?_, ?_, ?_, ?_, ?_⟩
    · have := R.g
      unfold Rg at *
      rw [lgh_ne (by omega), lgh_ne (by omega), lgh_ne (by omega)]; exact this
    · have := R.mm
      unfold Rm at *
      rw [lgh_ne (by omega), lgh_ne (by omega), lgh_ne (by omega), lgh_ne (by omega)]; exact this
    · have := R.rr
      unfold Rr at *
      rw [lgh_ne (by omega), lgh_ne (by omega), lgh_ne (by omega), lgh_ne (by omega), lgh_ne (by omega), lgh_ne (by omega)]; exact this
    · have := R.tt
      unfold Rt at *
      rw [lgh_ne (by omega), lgh_ne (by omega)]; exact this
    · have := R.kk
      unfold Rk at *
      rw [lgh_ne (by omega), lgh_ne (by omega), lgh_ne (by omega), lgh_ne (by omega)]; exact this
    · intro s hs
      have := R.ss s hs
      unfold shelfAt_ at *
      rw [lgh_ne (by omega)]; exact this
    · have := R.aa
      unfold Ra at *
      rw [lgh_ne (by omega)]; exact this
  generalize lgh h (nL w) f (nI b0) t v = h1 at ql B D l O ⊢
  have ne : ∀ c, c < nB w → c ≠ b0 → finds_ (logd w f (nI b0) t v) c = finds_ w c ∧ latest_ (logd w f (nI b0) t v) c = latest_ w c ∧ misses_ (logd w f (nI b0) t v) c = misses_ w c := fun c hc z => logd_ne n f t v (by omega) (by omega) z
  refine RC.of (((l.wI _ _ _).wI _ _ _).wI _ _ _) (O.hc (fun a ha => tri_ne (by omega)) (fun _ _ => rfl) (fun _ _ => rfl)) (B.chg hk0 (b0 := b0) rfl rfl (by rw [tri_ne (by omega)]) (fun b hb i hi j c => ?_) rfl rfl B.2.1 B.2.2.2.1 B.2.2.2.2 (fun b hb hkb k hkk => ?_)) (RBd.wc (w := w) ?_ rfl)
  · rw [q_tri]
    have y : ad b + i = ad b0 → b = b0 ∧ i = 0 := fun e => by
      by_cases z : b = b0
      · subst z; exact ⟨rfl, by omega⟩
      · have := ad_ne B.1 hb hb0 z hi (j := 0) (blk_pos _)
        exact absurd e this
    rw [if_neg (fun x => c ⟨(y x.1).1, (y x.1).2, by omega⟩), if_neg (fun x => c ⟨(y x.1).1, (y x.1).2, by omega⟩), if_neg (fun x => c ⟨(y x.1).1, (y x.1).2, by omega⟩)]
  · have o := RBx_bx.mp B.2.2.1 b hb hkb k hkk
    by_cases z : b = b0
    · subst z
      rw [q_tri]
      by_cases z14 : k = 14
      · subst z14; rw [if_pos ⟨rfl, rfl⟩]; rfl
      by_cases z13 : k = 13
      · subst z13; rw [if_neg (by omega), if_pos ⟨rfl, rfl⟩]; rfl
      by_cases z12 : k = 12
      · subst z12; rw [if_neg (by omega), if_neg (by omega), if_pos ⟨rfl, rfl⟩]; rfl
      rw [if_neg (by omega), if_neg (by omega), if_neg (by omega), o]
      unfold bx
      split <;> first | rfl | exact absurd rfl z14 | exact absurd rfl z13 | exact absurd rfl z12
    · have an : ad b ≠ ad b0 := fun e => by
        have := ad_ne B.1 hb hb0 z (i := 0) (j := 0) (blk_pos _) (blk_pos _)
        exact this e
      rw [tri_ne an, o]
      obtain ⟨n1, n2, n3⟩ := ne b hb z
      by_cases z14 : k = 14
      · subst z14; show oI (latest_ w b) = oI (latest_ _ b); rw [n2]
      by_cases z13 : k = 13
      · subst z13; show nI (misses_ w b) = nI (misses_ _ b); rw [n3]
      by_cases z12 : k = 12
      · subst z12; show nI (finds_ w b) = nI (finds_ _ b); rw [n1]
      unfold bx
      split <;> first | rfl | exact absurd rfl z14 | exact absurd rfl z13 | exact absurd rfl z12
  · intro b hb hk
    have bb : blk (hI w 51 b) = 11 := by rcases hk with e | e <;> rw [e] <;> decide
    have g : ∀ i, 4 ≤ i → i < 11 → hI (tri h1 (ad b0) (nI (finds_ (logd w f (nI b0) t v) b0)) (nI (misses_ (logd w f (nI b0) t v) b0)) (oI (latest_ (logd w f (nI b0) t v) b0))) (ad b + i) = hI h1 (ad b + i) := fun i h1 h2 => by
      refine tri_ne (fun e => ?_)
      by_cases z : b = b0
      · subst z; omega
      · have := ad_ne B.1 hb hb0 z (i := i) (j := 0) (by omega) (blk_pos _)
        exact this e
    rw [g 4 (by omega) (by omega), g 5 (by omega) (by omega), g 6 (by omega) (by omega), g 7 (by omega) (by omega), g 8 (by omega) (by omega), g 9 (by omega) (by omega)]
    exact D b hb hk
