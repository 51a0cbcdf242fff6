/-! THE LAW, WALKED: it answers 1 -/
theorem hx_facts : FV 0 hx ∧ nB hx = 0 ∧ (∀ c, hI hx 50 c = 0) ∧ (∀ j, hI hx 68 j = 0) := by
  have o49 : ∀ {k : Nat}, k ≠ 75 → k ≠ 76 → hI hx 49 k = 0 := fun h1 h2 => iH_49 h1 h2
  have o : ∀ {a : Nat}, a ≠ 2 → a ≠ 8 → a ≠ 28 → a ≠ 49 → a ≠ 103 → hI hx a = fun _ => 0 := fun h1 h2 h3 h4 h5 => iH_0 h1 h2 h3 h4 h5
  refine ⟨⟨?_, o49 (by decide) (by decide), ⟨o49 (by decide) (by decide), o49 (by decide) (by decide), o49 (by decide) (by decide)⟩, fun j _ => ?_, fun s hs => absurd hs (by omega)⟩, ?_, fun c => ?_, fun j => ?_⟩
  · unfold nT; rw [o49 (by decide) (by decide)]; rfl
  · rw [o (by decide) (by decide) (by decide) (by decide) (by decide)]
  · unfold nB; rw [o49 (by decide) (by decide)]; rfl
  · rw [o (by decide) (by decide) (by decide) (by decide) (by decide)]
  · rw [o (by decide) (by decide) (by decide) (by decide) (by decide)]
/-- behind the finders -/
def FF (k : Nat) (w : AH) (P : Nat → Prog) (j : Nat) : Prop := (P 0 = pg1 k ∧ P 1 = pg2 ∧ P 2 = pg3) ∧ FV 3 w ∧ nB w = j ∧ ∀ f, f < j → hI w 51 f = 7 ∧ hI w 54 f = -1
theorem FF.next {k j : Nat} {w : AH} {P : Nat → Prog} (F : FF k w P j) (hj : j < 3) (c : Int32) : FF k (wI (addW w 7) 52 j c) P (j + 1) ∧ hI (wI (addW w 7) 52 j c) 50 = hI w 50 := by
  obtain ⟨p, ⟨f1, f2, ⟨f3, f4, f5⟩, f6, f7⟩, nb, ff⟩ := F
  obtain ⟨y1, y2, y3, y4, y5, y6, -⟩ := addW_facts (w := w) 7
  have u49 : ∀ i, i ≠ 3 → hI (wI (addW w 7) 52 j c) 49 i = hI w 49 i := fun i hi => by rw [q_ne (by decide)]; exact y2 i hi
  have uo : ∀ a, a = 50 ∨ (56 ≤ a ∧ a ≤ 65) ∨ 67 ≤ a → hI (wI (addW w 7) 52 j c) a = hI w a := fun a ha => by rw [q_ne (by omega)]; exact y3 a (by omega)
  have nu : nB (wI (addW w 7) 52 j c) = j + 1 := by
    unfold nB
    rw [q_ne (by decide), y1, nb, nI_clamp (by omega)]
  rw [nb] at y4 y5 y6
  refine ⟨⟨p, ⟨?_, by rw [u49 25 (by decide)]; exact f2, ⟨by rw [u49 1 (by decide)]; exact f3, by rw [u49 13 (by decide)]; exact f4, by rw [u49 11 (by decide)]; exact f5⟩, fun i hi => by rw [uo 68 (by omega)]; exact f6 i hi, fun s hs => by rw [uo 69 (by omega), uo 70 (by omega), uo 71 (by omega)]; exact f7 s hs⟩, nu, fun f hf => ?_⟩, uo 50 (by omega)⟩
  · unfold nT at *
    rw [u49 33 (by decide)]; exact f1
  · rw [q_ne (by decide), q_ne (by decide)]
    by_cases d : f = j
    · subst d
      exact ⟨y5, y6⟩
    · rw [y4 51 (by omega) f d, y4 54 (by omega) f d]
      exact ff f (by omega)
theorem end_refused {k n : Nat} {w : AH} {P : Nat → Prog} (W : Wd k w P n) (hn : n ≤ 60) (s0 : nS w = 0) : s_hide w P 0 3 5 = (-1, w) ∧ s_hide w P 3 1 5 = (-1, w) ∧ s_why w P 0 6 5 0 = -1 := by
  have a1 : canAsk_ w 3 5 = false := by
    unfold canAsk_
    rw [decide_eq_false (show ¬ ((3 : Int32) = 3 → 0 < nS w) from fun q => by have := q rfl; omega), Bool.and_false]
  have a2 : isFinder_ w 3 = false := by
    unfold isFinder_ isBody_
    rw [W.2.2.1.2.2, show ((3 : Int32)).toNatClampNeg = 3 from rfl]
    by_cases c : n = 0
    · subst c
      rw [decide_eq_false (show ¬ ((0 : Int32) ≤ 3 ∧ (3 : Int32) < nI (3 + 0)) by decide)]
      rfl
    · have hk := W.2.2.2.2 0 (by omega)
      have : ¬ hI w 51 3 = 7 := fun e => by
        rw [show 3 + 0 = 3 from rfl, e] at hk
        exact absurd hk (by decide)
      rw [decide_eq_false this, Bool.and_false]
  have a3 : canAsk_ w 6 5 = false := by
    unfold canAsk_
    rw [show boxK 6 = false by decide]
    rfl
  refine ⟨?_, ?_, ?_⟩
  · unfold s_hide
    rw [a1, if_neg (fun q => by cases q.2)]
  · unfold s_hide
    rw [a2, if_neg (fun q => by cases q.1)]
  · unfold s_why
    rw [a3, if_neg (fun q => by cases q.2.1)]
set_option maxRecDepth 100000 in
set_option maxHeartbeats 16000000 in
theorem law_true (tb : List Int32) (hL : tb.length ≤ 260) : ∃ r : Int32 × AH, r.1 = 1 ∧ f_law tb h0 = some r := by
  have main : wp (f_law tb h0) (fun r _ => r = 1) := by
    unfold f_law
    refine wp_nO.mpr ?_
    show wp (rO s_s0 [11] (some 0) <| clR s_s0 (f_X11_init (some 0) s_s0) _) _
    refine wp_rO.mpr ⟨by decide +kernel, wp_clR.mpr (wp_mono i_X11 ?_)⟩
    rintro _ _ rfl
    rw [rst_start]
    obtain ⟨v, v0, ev⟩ := cell_ex (i := 0) hL (by omega)
    have ev' : cellF tb (0 : Int32) = some v := ev
    refine (wp_clC ev').mpr ?_
    refine wp_nz.mpr ⟨by decide, ?_⟩
    obtain ⟨k, hk, ek⟩ : ∃ k, k < 8 ∧ v - v / (8 : Int32) * (8 : Int32) = nI k := mod_ex (m := 8) v0 (by omega) (by omega)
    simp only [ek]
    have Z0 := st_Z
    have len0 := st_len
    obtain ⟨F0, nb0, c50, c68⟩ := hx_facts
    generalize hx = w0 at *
    generalize s_s22 = h at *
    -- the three rows
    refine wp_nO.mpr ?_
    rw [len0]
    have s49 : (hS (grow h 28 1))[49]? = some (28, 1) := grow_t len0.symm
    refine wp_bI.mpr ⟨okA_in (i := 0) s49 (by omega) (by omega), ?_⟩
    rw [show ((0 : Int32)).toNatClampNeg = 0 from rfl, q_sI]
    have Z1 := (Z0.grow 28 1).wI s49 (by decide) 0 ((48 : Int32) + nI k)
    have len1 : (hS (wI (grow h 28 1) 49 0 ((48 : Int32) + nI k))).length = 50 := by rw [q_SI, hS_grow, List.length_append, len0]; rfl
    have e49 : ∀ j, j < 1 → hI (wI (grow h 28 1) 49 0 ((48 : Int32) + nI k)) 49 j = (tx1 k).getD j 0 := fun j hj => by
      rw [show j = 0 by omega, q_at]; rfl
    have s49' : (hS (wI (grow h 28 1) 49 0 ((48 : Int32) + nI k)))[49]? = some (28, 1) := s49
    generalize wI (grow h 28 1) 49 0 ((48 : Int32) + nI k) = ha at *
    refine arr16 Z1 (fun hb Zb Sb qb eb => ?_)
    rw [len1] at eb ⊢
    have len2 : (hS hb).length = 51 := by rw [Sb, List.length_append, len1]; rfl
    have s50 : (hS hb)[50]? = some (28, 16) := by rw [Sb, List.getElem?_append_right (by omega), len1]; rfl
    refine arr16 Zb (fun hc Zc Sc qc ec => ?_)
    rw [len2] at ec ⊢
    have len3 : (hS hc).length = 52 := by rw [Sc, List.length_append, len2]; rfl
    have s51 : (hS hc)[51]? = some (28, 16) := by rw [Sc, List.getElem?_append_right (by omega), len2]; rfl
    obtain ⟨s50c, i50c, -⟩ := qc.2 50 _ s50 (by decide)
    obtain ⟨s49c, i49c, -⟩ := (qb.trans qc).2 49 _ s49' (by decide)
    have e49c : ∀ j, j < (tx1 k).length → hI hc 49 j = (tx1 k).getD j 0 := fun j hj => by rw [i49c]; exact e49 j hj
    have e50c : ∀ j, j < tx2.length → hI hc 50 j = tx2.getD j 0 := fun j hj => by rw [i50c]; exact eb j hj
    have e51c : ∀ j, j < tx3.length → hI hc 51 j = tx3.getD j 0 := fun j hj => ec j hj
    -- the first text
    refine z_tell2 (n := 1) Zc s49c (by omega) (by omega) F0.2.1 (fun h1 w1 Z1' q1 l1 T1 => ?_)
    refine wp_jn.mpr ?_
    rw [if_neg (show ¬ (1 : Int32) = 0 by decide)]
    obtain ⟨j1, k1⟩ := okP_spec (ok1 k hk)
    have k1' : tkT w1 = .ok (j1, pg1 k) := (wc_tkT (l := tx1 k) T1 e49c (fun j _ => c68 j) (by show 1 ≤ 160; omega)).trans k1
    obtain ⟨F1, nb1, nt1, c1⟩ := F0.rule (by omega) T1 (by omega)
    refine z_rule2 Z1' k1' (lk1 k hk) (by omega) (use := 0) (by decide) (fun h2 Z2 q2 l2 => ?_)
    rw [nt1, if_pos (show nI 0 = (0 : Int32) from rfl)]
    have q02 := q1.trans q2
    obtain ⟨s50d, i50d, -⟩ := q02.2 50 _ s50c (by decide)
    obtain ⟨s51d, i51d, -⟩ := q02.2 51 _ s51 (by decide)
    have p1 : ruleP w1 (fun _ => []) (pg1 k) 0 = pg1 k := if_pos nt1.symm
    have F1' : FV 1 (ruleW w1 0 0) := F1
    have nb1' : nB (ruleW w1 0 0) = nB w0 := nb1
    have c1' : hI (ruleW w1 0 0) 50 = hI w0 50 := c1
    generalize ruleW w1 0 0 = w2 at *
    generalize ruleP w1 (fun _ => []) (pg1 k) = P1 at *
    -- the second
    refine (wp_aN s50d).mpr ?_
    refine z_tell2 (n := 16) Z2 s50d (by omega) (by omega) F1'.2.1 (fun h3 w3 Z3 q3 l3 T3 => ?_)
    rw [if_neg (show ¬ (1 : Int32) = 0 by decide)]
    obtain ⟨j2, k2⟩ := okP_spec ok2
    have k2' : tkT w3 = .ok (j2, pg2) := (wc_tkT (l := tx2) T3 (fun j hj => by rw [i50d]; exact e50c j hj) (fun j hj => F1'.2.2.2.1 j hj) (by decide)).trans k2
    obtain ⟨F2, nb2, nt2, c2⟩ := F1'.rule (by omega) T3 (by omega)
    refine z_rule2 Z3 k2' lk2 (by omega) (use := 13) (by decide) (fun h4 Z4 q4 l4 => ?_)
    rw [nt2, if_pos (show nI 1 = (1 : Int32) from rfl)]
    have q24 := q3.trans q4
    obtain ⟨s51e, i51e, -⟩ := q24.2 51 _ s51d (by decide)
    have p2 : ruleP w3 P1 pg2 0 = pg1 k ∧ ruleP w3 P1 pg2 1 = pg2 := ⟨by show (if 0 = nT w3 then _ else _) = _; rw [nt2, if_neg (by decide)]; exact p1, if_pos nt2.symm⟩
    have F2' : FV 2 (ruleW w3 13 0) := F2
    have nb2' : nB (ruleW w3 13 0) = nB w2 := nb2
    have c2' : hI (ruleW w3 13 0) 50 = hI w2 50 := c2
    generalize ruleW w3 13 0 = w4 at *
    generalize ruleP w3 P1 pg2 = P2 at *
    -- the third
    refine (wp_aN s51e).mpr ?_
    refine z_tell2 (n := 16) Z4 s51e (by omega) (by omega) F2'.2.1 (fun h5 w5 Z5 q5 l5 T5 => ?_)
    rw [if_neg (show ¬ (1 : Int32) = 0 by decide)]
    obtain ⟨j3, k3⟩ := okP_spec ok3
    have k3' : tkT w5 = .ok (j3, pg3) := (wc_tkT (l := tx3) T5 (fun j hj => by rw [i51e, i51d]; exact e51c j hj) (fun j hj => F2'.2.2.2.1 j hj) (by decide)).trans k3
    obtain ⟨F3, nb3, nt3, c3⟩ := F2'.rule (by omega) T5 (by omega)
    refine z_rule2 Z5 k3' lk3 (by omega) (use := 1) (by decide) (fun h6 Z6 q6 l6 => ?_)
    rw [nt3, if_pos (show nI 2 = (2 : Int32) from rfl)]
    have p3 : ruleP w5 P2 pg3 0 = pg1 k ∧ ruleP w5 P2 pg3 1 = pg2 ∧ ruleP w5 P2 pg3 2 = pg3 := ⟨by show (if 0 = nT w5 then _ else _) = _; rw [nt3, if_neg (by decide)]; exact p2.1, by show (if 1 = nT w5 then _ else _) = _; rw [nt3, if_neg (by decide)]; exact p2.2, if_pos nt3.symm⟩
    have F3' : FV 3 (ruleW w5 1 0) := F3
    have nb3' : nB (ruleW w5 1 0) = 0 := by rw [show nB (ruleW w5 1 0) = nB w4 from nb3, nb2', nb1', nb0]
    have c3' : ∀ c, hI (ruleW w5 1 0) 50 c = 0 := fun c => by rw [show hI (ruleW w5 1 0) 50 = hI w4 50 from c3, c2', c1']; exact c50 c
    have len6 : (hS h6).length = 52 := by rw [l6, l5, l4, l3, l2, l1, len3]
    generalize ruleW w5 1 0 = w6 at *
    generalize ruleP w5 P2 pg3 = P at *
    -- the finders
    refine wp_g2 3 (fun j x g => x = nI j ∧ (hS g).length = 52 + j ∧ ∃ u, Zs g u P ∧ FF k u P j ∧ ∀ c, hI u 50 c = 0) ⟨rfl, len6, w6, Z6, ⟨p3, F3', nb3', fun f hf => absurd hf (by omega)⟩, c3'⟩ (by omega) ?_ ?_
    · rintro L3 x g ⟨rfl, lg, u, Zu, FU, cu⟩
      rw [if_pos (show (3 : Int32) ≤ nI 3 by decide)]
      refine wp_nO.mpr ?_
      rw [lg]
      have s55 : (hS (grow g 28 60))[55]? = some (28, 60) := grow_t lg.symm
      have lg2 : (hS (grow g 28 60)).length = 56 := by rw [glen, lg]
      have Zg := Zu.grow 28 60
      generalize grow g 28 60 = g0 at *
      -- the owners
      refine wp_g2 60 (fun j x g => x = nI j ∧ (hS g).length = 56 ∧ (hS g)[55]? = some (28, 60) ∧ ∃ u, Zs g u P ∧ FF k u P 3 ∧ (∀ c, c < j → hI u 50 c = hI g 55 c + 1 ∧ (hI g 55 c = -1 ∨ hI g 55 c = 3 ∨ hI g 55 c = 5)) ∧ ∀ c, j ≤ c → hI u 50 c = 0) ⟨rfl, lg2, s55, u, Zg, FU, fun c hc => absurd hc (by omega), fun c _ => cu c⟩ (by omega) ?_ ?_
      · rintro L4 x g1 ⟨rfl, l1, s55, u1, Z1, F1, o1, -⟩
        rw [if_pos (show (60 : Int32) ≤ nI 60 by decide)]
        -- the rows of the law
        refine wp_nO.mpr ?_
        rw [l1]
        have s56 : (hS (grow g1 28 60))[56]? = some (28, 60) := grow_t l1.symm
        have q2 := LQ.grow g1 28 60
        have l2 : (hS (grow g1 28 60)).length = 57 := by rw [glen, l1]
        have Z2 := Z1.grow 28 60
        generalize grow g1 28 60 = g2 at *
        refine wp_nO.mpr ?_
        rw [l2]
        have s57 : (hS (grow g2 28 3))[57]? = some (28, 3) := grow_t l2.symm
        have i57 : ∀ j, hI (grow g2 28 3) 57 j = 0 := fun j => gI_eq l2.symm j
        have q3 := q2.trans (LQ.grow g2 28 3)
        have s56' := ((LQ.grow g2 28 3).2 56 _ s56 (by decide)).1
        have l3 : (hS (grow g2 28 3)).length = 58 := by rw [glen, l2]
        have Z3 := Z2.grow 28 3
        generalize grow g2 28 3 = g3 at *
        show wp (mM g3 _) _
        unfold mM
        rw [l3]
        have s58 : (hS (mulN g3 60))[58]? = some (29, 60) := by
          rw [mulN_S, List.getElem?_append_right (by omega), l3]; rfl
        have s59 : ∀ x, x < 60 → (hS (mulN g3 60))[59 + x]? = some (28, 5) := fun x hx => by
          rw [mulN_S, List.getElem?_append_right (by omega), l3, show 59 + x - 58 = x + 1 by omega, List.getElem?_cons_succ, List.getElem?_replicate, if_pos hx]
        have r58 : ∀ x, x < 60 → hR (mulN g3 60) 58 x = some (59 + x) := fun x hx => by
          rw [mulN_R, l3, if_pos rfl]
          show (if x < 60 then some (58 + 1 + x) else none) = _
          rw [if_pos hx]
        have q4 := q3.trans (LQ.mul g3 60)
        obtain ⟨s57', i57', -⟩ := (LQ.mul g3 60).2 57 _ s57 (by decide)
        have s56'' := ((LQ.mul g3 60).2 56 _ s56' (by decide)).1
        have l4 : (hS (mulN g3 60)).length = 119 := by rw [mulN_S, List.length_append, List.length_cons, List.length_replicate, l3]
        have Z4 := Z3.mul 60
        have i57b : ∀ j, hI (mulN g3 60) 57 j = 0 := fun j => by rw [i57']; exact i57 j
        generalize mulN g3 60 = g4 at *
        refine wp_nO.mpr ?_
        rw [l4]
        have s119 : (hS (grow g4 28 60))[119]? = some (28, 60) := grow_t l4.symm
        have l5 : (hS (grow g4 28 60)).length = 120 := by rw [glen, l4]
        have Q5 := LQ.grow g4 28 60
        have Z5 := Z4.grow 28 60
        generalize grow g4 28 60 = g5 at *
        refine wp_nO.mpr ?_
        rw [l5]
        have s120 : (hS (grow g5 30 60))[120]? = some (30, 60) := grow_t l5.symm
        have i120 : ∀ j, hI (grow g5 30 60) 120 j = 0 := fun j => gI_eq l5.symm j
        have Q6 := LQ.grow g5 30 60
        have Z6 := Z5.grow 30 60
        generalize grow g5 30 60 = g6 at *
        have Q46 := Q5.trans Q6
        have q6 := q4.trans Q46
        have W0 : Wd k u1 P 0 := by
          obtain ⟨⟨p0, p1, p2⟩, ⟨f1, f2, ⟨f3, f4, f5⟩, f6, f7⟩, nb, ff⟩ := F1
          refine ⟨⟨hk, p0, p1, p2⟩, ⟨f1, ⟨(f7 0 (by omega)).1, (f7 1 (by omega)).1, (f7 2 (by omega)).1⟩, fun t ht => ⟨(f7 t ht).2.1, (f7 t ht).2.2⟩⟩, ⟨f3, by unfold nM; rw [f4]; rfl, nb⟩, ff, fun x hx => absurd hx (by omega)⟩
        have A6 : LA g6 := by
          refine ⟨⟨(q6.2 55 _ s55 (by decide)).1, (Q46.2 56 _ s56'' (by decide)).1, (Q46.2 57 _ s57' (by decide)).1, (Q46.2 58 _ s58 (by decide)).1, (Q6.2 119 _ s119 (by decide)).1, s120⟩, fun x hx => ⟨(Q46.2 _ _ (s59 x hx) (by decide)).1, ?_⟩⟩
          rw [(Q46.2 58 _ s58 (by decide)).2.2]
          exact r58 x hx
        have I0 : LI k g6 u1 P 0 := by
          refine ⟨Z6, W0, A6, fun c hc => ?_, fun f hf => ?_, fun x hx => absurd hx (by omega), fun x _ => i120 x⟩
          · rw [(q6.2 55 _ s55 (by decide)).2.1]
            exact o1 c hc
          · rw [(Q46.2 57 _ s57' (by decide)).2.1, i57b]
            have : own_ u1 (nI f) = 0 := by
              unfold own_
              refine cnt_zero (fun b hb => ?_)
              rw [W0.2.2.1.2.2] at hb
              rw [isOut_at (by rw [W0.2.2.1.2.2]; exact hb) (by rw [W0.2.2.1.2.2]; omega), (W0.2.2.2.1 b (by omega)).1]
              rfl
            rw [this]; rfl
        have S0 : nS u1 = 0 := by unfold nS; rw [F1.2.1.2.2.1.2.2]; rfl
        -- the turns
        refine wp_g3 56 (fun t x y g => y = nI (24 + t) ∧ ∃ n u, x = nI n ∧ n ≤ t ∧ LI k g u P n ∧ nS u = 0) ⟨rfl, 0, u1, rfl, by omega, I0, S0⟩ (by omega) ?_ ?_
        · rintro L5 x y g ⟨rfl, n, u, rfl, hn, I, s0⟩
          rw [if_pos (show (80 : Int32) ≤ nI (24 + 56) by decide)]
          obtain ⟨e1, e2, e3⟩ := end_refused I.2.1 (by omega) s0
          refine z_hide I.1 _ _ _ (fun ga Za qa => ?_)
          rw [e1] at Za ⊢
          refine wp_jn.mpr (wp_jn.mpr ?_)
          rw [if_pos rfl]
          refine z_hide Za _ _ _ (fun gb Zb qb => ?_)
          rw [e2] at Zb ⊢
          rw [if_pos rfl]
          refine z_why Zb _ _ _ _ (fun gc Zc qc => ?_)
          rw [e3, if_pos rfl]
          exact wp_rz.mpr ⟨Or.inr rfl, rfl⟩
        · rintro L5 t x y g ht ⟨rfl, n, u, rfl, hn, I, s0⟩ ih
          rw [if_neg (show ¬ (80 : Int32) ≤ nI (24 + t) by show ¬ nI 80 ≤ nI (24 + t); rw [nI_leI (by omega) (by omega)]; omega)]
          exact turn hL (by omega) (by omega) I s0 (fun g2 u2 m I2 s2 hm => ih _ _ _ ⟨nI_1 _, m, u2, rfl, by omega, I2, s2⟩)
      · rintro L4 j x g1 hj ⟨rfl, l1, s55, u1, Z1, F1, o1, o2⟩ ih
        rw [if_neg (show ¬ (60 : Int32) ≤ nI j by show ¬ nI 60 ≤ nI j; rw [nI_leI (by omega) (by omega)]; omega)]
        refine wp_nz.mpr ⟨by decide, ?_⟩
        have e20 : (4 : Int32) + (nI j - nI j / (20 : Int32) * (20 : Int32)) = nI (4 + j % 20) := by
          have := mod_nI (V := j) (m := 20) (by omega) (by omega)
          rw [show nI j - nI j / (20 : Int32) * (20 : Int32) = nI (j % 20) from this]
          exact nI_add 4 _
        obtain ⟨v, v0, ev⟩ := cell_ex (i := 4 + j % 20) hL (by omega)
        rw [e20]
        refine (wp_clC ev).mpr ?_
        refine wp_nz.mpr ⟨by decide, ?_⟩
        have ok := okA_in s55 (show j < 60 from hj) (by omega)
        refine wp_jnP (fun J => ∀ o : Int32, (o = -1 ∨ o = 3 ∨ o = 5) → wp (J o) (fun r _ => r = 1)) (fun o ho => ?_) (fun J hJ => ?_)
        · refine wp_bI.mpr ⟨ok, ?_⟩
          rw [nI_clamp (by omega), q_sI]
          refine wp_aI.mpr ⟨ok, ?_⟩
          rw [nI_clamp (by omega), q_gI, q_at]
          have Z2 := Z1.wI s55 (by decide) j o
          have s55' : (hS (wI g1 55 j o))[55]? = some (28, 60) := s55
          have es : s_owner u1 (nI j) o = (-1, wI u1 50 j (o + 1)) := by
            unfold s_owner
            rw [if_pos ⟨⟨nI_pos' (by omega), show nI j < nI 60 by rw [nI_ltI (by omega) (by omega)]; exact hj⟩, by rcases ho with z | z | z <;> rw [z] <;> decide, by rcases ho with z | z | z <;> rw [z] <;> decide⟩, nI_clamp (by omega), o2 j (Nat.le_refl _)]
            rfl
          refine z_owner2 Z2 _ _ (fun g2 Z3 q3 l3 => ?_)
          rw [es] at Z3 ⊢
          rw [if_pos rfl]
          obtain ⟨s55b, i55b, -⟩ := q3.2 55 _ s55' (by decide)
          refine ih _ _ ⟨nI_1 j, by rw [l3]; exact l1, s55b, _, Z3, ?_, fun c hc => ?_, fun c hc => ?_⟩
          · obtain ⟨p, ⟨f1, f2, ⟨f3, f4, f5⟩, f6, f7⟩, nb, ff⟩ := F1
            have uo : ∀ a, a ≠ 50 → hI (wI u1 50 j (o + 1)) a = hI u1 a := fun a ha => q_ne ha
            exact ⟨p, ⟨by unfold nT at *; rw [uo 49 (by decide)]; exact f1, by rw [uo 49 (by decide)]; exact f2, ⟨by rw [uo 49 (by decide)]; exact f3, by rw [uo 49 (by decide)]; exact f4, by rw [uo 49 (by decide)]; exact f5⟩, fun i hi => by rw [uo 68 (by decide)]; exact f6 i hi, fun s hs => by rw [uo 69 (by decide), uo 70 (by decide), uo 71 (by decide)]; exact f7 s hs⟩, by unfold nB at *; rw [uo 49 (by decide)]; exact nb, fun f hf => by rw [uo 51 (by decide), uo 54 (by decide)]; exact ff f hf⟩
          · rw [i55b]
            by_cases d : c = j
            · subst d
              rw [q_at, q_at]
              exact ⟨rfl, ho⟩
            · rw [q_atne d, q_atne d]
              exact o1 c (by omega)
          · rw [q_atne (by omega)]
            exact o2 c (by omega)
        · split
          · exact hJ 3 (Or.inr (Or.inl rfl))
          · split
            · exact hJ 5 (Or.inr (Or.inr rfl))
            · exact hJ (-1) (Or.inl rfl)
    · rintro L3 j x g hj ⟨rfl, lg, u, Zu, FU, cu⟩ ih
      rw [if_neg (show ¬ (3 : Int32) ≤ nI j by show ¬ nI 3 ≤ nI j; rw [nI_leI (by omega) (by omega)]; omega)]
      obtain ⟨v, v0, ev⟩ := cell_ex (i := 1 + j) hL (by omega)
      rw [show (1 : Int32) + nI j = nI (1 + j) from nI_add 1 j]
      refine (wp_clC ev).mpr ?_
      refine wp_nz.mpr ⟨by decide, ?_⟩
      obtain ⟨c, hc, ec⟩ : ∃ c, c < 60 ∧ v - v / (60 : Int32) * (60 : Int32) = nI c := mod_ex (m := 60) v0 (by omega) (by omega)
      rw [ec]
      refine z_finder2 Zu ⟨nI_pos' (by omega), show nI c < nI 60 by rw [nI_ltI (by omega) (by omega)]; exact hc⟩ (by rw [FU.2.2.1]; omega) (fun g2 Z2 q2 l2 => ?_)
      rw [FU.2.2.1] at Z2 ⊢
      rw [if_pos rfl]
      obtain ⟨F2, e50⟩ := FU.next hj (nI c)
      exact ih _ _ ⟨nI_1 j, by rw [l2, lg]; omega, _, Z2, F2, fun x => by rw [e50]; exact cu x⟩
  obtain ⟨x, e, q⟩ := main
  exact ⟨x, q, e⟩
