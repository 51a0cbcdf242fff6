/-! THE END OF A TURN: what the asker is told, and the hiding -/
section
variable {k n f c st T : Nat} {h w : AH} {P : Nat → Prog} {to : Nat → Nat} {K : Int32}
theorem why_in (w : AH) (P : Nat → Prog) (i : Nat) (K : Int32) (c : Nat) : why_ w P i K c = 0 ∨ why_ w P i K c = 1 ∨ why_ w P i K c = 2 ∨ why_ w P i K c = 3 ∨ why_ w P i K c = 4 := by
  unfold why_
  split
  · exact Or.inr (Or.inl rfl)
  split
  · exact Or.inr (Or.inr (Or.inl rfl))
  split
  · exact Or.inr (Or.inr (Or.inr (Or.inl rfl)))
  split
  · exact Or.inr (Or.inr (Or.inr (Or.inr rfl)))
  · exact Or.inl rfl
theorem ask_ok (hc : c < 60) (hK : boxK K = true) (h3 : K = 3 → 1 ≤ nS w ∧ nS w ≤ 4) : canAsk_ w K (nI c) = true := by
  unfold canAsk_
  have c1 : 0 ≤ nI c := nI_pos' (by omega)
  have c2 : nI c < (60 : Int32) := by
    show nI c < nI 60
    rw [nI_ltI (by omega) (by omega)]; exact hc
  rw [hK, decide_eq_true ⟨c1, c2⟩, decide_eq_true (fun e => by have := h3 e; omega)]
  rfl
theorem Wd.whys (W : Wd k w P n) (hn : n ≤ 60) (hf : f < 3) (hc : c < 60) (hK : boxK K = true) (h3 : K = 3 → 1 ≤ nS w ∧ nS w ≤ 4) : s_why w P (nI f) K (nI c) 0 = told4 (why_ w P f K c) ∧ s_why w P (nI f) K (nI c) 1 = why_ w P f K c := by
  unfold s_why
  rw [W.fnd hf (by omega), ask_ok hc hK h3, nI_clamp (by omega), nI_clamp (by omega)]
  exact ⟨by rw [if_pos ⟨rfl, rfl, by decide, by decide⟩, if_pos rfl], by rw [if_pos ⟨rfl, rfl, by decide, by decide⟩, if_neg (by decide)]⟩
theorem Wd.hides (W : Wd k w P n) (hn : n ≤ 60) (hf : f < 3) (hc : c < 60) (hK : boxK K = true) (h3 : K = 3 → 1 ≤ nS w ∧ nS w ≤ 4) : s_hide w P (nI f) K (nI c) = if why_ w P f K c = 0 then (nI (3 + n), hidW w (nI f) K (nI c)) else (-20 - told4 (why_ w P f K c), w) := by
  unfold s_hide
  rw [W.fnd hf (by omega), ask_ok hc hK h3, nI_clamp (by omega), nI_clamp (by omega), if_pos ⟨rfl, rfl⟩, W.2.2.1.2.2, if_neg (show ¬ 3 + n = 150 by omega)]
theorem ofFnd (W : Wd k w P n) (hn : n ≤ 60) (hf : f < 3) : s_ofBody w (nI f) 1 = hI w 52 f ∧ s_ofBody w (nI f) 4 = nI (own_ w (nI f)) := by
  have b : isBody_ w (nI f) = true := by
    have := W.fnd hf (by omega)
    unfold isFinder_ at this
    exact (Bool.and_eq_true_iff.mp this).1
  unfold s_ofBody
  rw [b, nI_clamp (by omega), (W.2.2.2.1 f hf).1]
  exact ⟨rfl, rfl⟩
theorem ofBox (W : Wd k w P n) (hn : n ≤ 60) {x : Nat} (hx : x < n) : s_ofBody w (nI (3 + x)) 1 = hI w 55 (3 + x) ∧ s_ofBody w (nI (3 + x)) 5 = liesNow_ w (3 + x) := by
  have b : isBody_ w (nI (3 + x)) = true := by
    have := W.box hx (by omega)
    unfold isBox_ at this
    exact (Bool.and_eq_true_iff.mp this).1
  have hk := W.2.2.2.2 x hx
  have k7 : ¬ hI w 51 (3 + x) = 7 := fun e => by rw [e] at hk; exact absurd hk (by decide)
  have k6 : ¬ hI w 51 (3 + x) = 6 := fun e => by rw [e] at hk; exact absurd hk (by decide)
  unfold s_ofBody
  rw [b, nI_clamp (by omega), if_pos rfl, if_neg (by decide), if_neg k7, if_neg k6, if_pos hk, if_pos rfl, if_pos rfl, if_neg (by decide), if_neg k7, if_neg k6, if_pos hk, if_neg (by decide), if_neg (by decide), if_neg (by decide), if_neg (by decide), if_pos rfl]
  exact ⟨rfl, rfl⟩
set_option maxHeartbeats 8000000 in
theorem tail (hn : n < 60) (I : LI k h w P n) (t : LT h T to) (s : StW w to st) (hf : f < 3) (hc : c < 60) (ec : to 0 = c) (hK : boxK K = true) (hst : (K = 3 ∧ 1 ≤ st ∧ st ≤ 2) ∨ (¬ K = 3 ∧ st = 0)) {lie due told i : Int32} (hl : lie = lie_ w K c) (hd : due = why_ w P f K c) (ht : told = told4 due) {L447 : Int32 → Int32 → AH → Option (Int32 × AH)}
    (next : ∀ g u m, LI k g u P m → nS u = 0 → m ≤ n + 1 → wp (L447 (nI m) (i + 1) g) (fun r _ => r = 1)) :
    wp (rO h [11] (some 0) <| clR h (f_X11_why (some 0) (nI f) K (nI c) (0 : Int32) h) fun v112 h111 =>
      jn (fun (h113 : AH) => rz (0 : Int32) h113) fun j991 =>
      if v112 = told then
        rO h111 [11] (some 0) <| clR h111 (f_X11_why (some 0) (nI f) K (nI c) (1 : Int32) h111) fun v115 h114 =>
        if v115 = due then
          rO h114 [11] (some 0) <| clR h114 (f_X11_why (some 0) (nI f) K (nI c) (0 : Int32) h114) fun v117 h116 =>
          if v117 = told then
            rO h116 [11] (some 0) <| clR h116 (f_X11_hide (some 0) (nI f) K (nI c) h116) fun v119 h118 =>
            jn (fun (x120 : Int32) =>
              if v119 = x120 then
                jn (fun (x121 : Int32) (h122 : AH) => L447 x121 (i + 1) h122) fun j1166 =>
                if due ≤ 0 then
                  bI h118 28 (some 56) (nI n) lie fun h123 =>
                  bI h123 28 (some 119) (nI n) (nI st) fun h124 =>
                  lp (fun _ _ => none) (fun (L1088 : Int32 → AH → Option (Int32 × AH)) (x125 : Int32) (h126 : AH) =>
                    if nI st < x125 then
                      aI h126 28 (some 57) (nI f) fun v127 =>
                      bI h126 28 (some 57) (nI f) (v127 + (1 : Int32)) fun h128 =>
                      rO h128 [11] (some 0) <| clR h128 (f_X11_count (some 0) (9 : Int32) h128) fun v130 h129 =>
                      jn (fun (h131 : AH) => rz (0 : Int32) h131) fun j1164 =>
                      if v130 = 0 then
                        rO h129 [11] (some 0) <| clR h129 (f_X11_ofBody (some 0) (nI f) (4 : Int32) h129) fun v133 h132 =>
                        aI h132 28 (some 57) (nI f) fun v134 =>
                        if v133 = v134 then
                          rO h132 [11] (some 0) <| clR h132 (f_X11_ofBody (some 0) ((2 : Int32) + (nI n + 1)) (5 : Int32) h132) fun v136 h135 =>
                          if v136 = lie then
                            j1166 (nI n + 1) h135
                          else
                            j1164 h135
                        else
                          j1164 h132
                      else
                        j1164 h129
                    else
                      aR h126 29 (some 58) (nI n) fun v137 =>
                      aI h126 28 (some T) x125 fun v138 =>
                      bI h126 28 v137 x125 v138 fun h139 =>
                      L1088 (x125 + 1) h139) lpN (0 : Int32) h124
                else
                  jn (fun (h140 : AH) =>
                    rO h140 [11] (some 0) <| clR h140 (f_X11_count (some 0) (9 : Int32) h140) fun v142 h141 =>
                    jn (
                      if nI st ≤ 0 then
                        j1166 (nI n) h141
                      else
                        rz (1 : Int32) h141) fun j1064 =>
                    if v142 ≤ 0 then
                      j1064
                    else
                      if nI st = 0 then
                        rz (0 : Int32) h141
                      else
                        j1064) fun j1048 =>
                  if nI st ≤ 0 then
                    j1048 h118
                  else
                    rO h118 [11] (some 0) <| clR h118 (f_X11_count (some 0) (9 : Int32) h118) fun v144 h143 =>
                    if v144 = nI st then
                      j1048 h143
                    else
                      rz (0 : Int32) h143
              else
                rz (0 : Int32) h118) fun j1020 =>
            if due ≤ 0 then
              j1020 ((3 : Int32) + nI n)
            else
              j1020 ((-20 : Int32) - told)
          else
            j991 h116
        else
          j991 h114
      else
        j991 h111) (fun r _ => r = 1) := by
  have W := I.2.1
  have h3 : K = 3 → 1 ≤ nS w ∧ nS w ≤ 4 := fun e => by
    rw [s.1]
    rcases hst with z | z
    · omega
    · exact absurd e z.1
  obtain ⟨y0, y1⟩ := W.whys (by omega) hf hc hK h3
  have yh := W.hides (by omega) hf hc hK h3
  rw [← hd] at y0 y1 yh
  rw [← ht] at y0 yh
  have hl0 := hl
  refine z_why I.1 _ _ _ _ (fun h1 Z1 q1 => ?_)
  rw [y0]
  refine wp_jn.mpr ?_
  rw [if_pos rfl]
  refine z_why Z1 _ _ _ _ (fun h2 Z2 q2 => ?_)
  rw [y1, if_pos rfl]
  refine z_why Z2 _ _ _ _ (fun h3' Z3 q3 => ?_)
  rw [y0, if_pos rfl]
  have e49 : hI w 49 11 = nI st := s.2.1
  refine z_hide Z3 _ _ _ (fun h4 Z4 q4 => ?_)
  have q := ((q1.trans q2).trans q3).trans q4
  rw [yh] at Z4 ⊢
  by_cases d0 : due = 0
  · rw [if_pos d0] at Z4 ⊢
    have dp : due ≤ 0 := by rw [d0]; decide
    refine wp_jn.mpr ?_
    rw [if_pos dp]
    show wp (if nI (3 + n) = (3 : Int32) + nI n then _ else _) _
    rw [if_pos (show nI (3 + n) = (3 : Int32) + nI n from (nI_add 3 n).symm)]
    refine wp_jn.mpr ?_
    rw [if_pos dp]
    have A4 := I.2.2.1.q q
    have e4 := I.2.2.1.e q
    have t4 := t.q q
    have hst2 : st = if K = 3 then nS w else 0 := by
      rcases hst with z | z
      · rw [if_pos z.1, s.1]
      · rw [if_neg z.1, z.2]
    have st2 : st ≤ 2 := by omega
    refine wp_bI.mpr ⟨okA_in A4.1.2.1 (show n < 60 from hn) (by omega), ?_⟩
    rw [nI_clamp (by omega), q_sI]
    have Z5 := Z4.wI A4.1.2.1 (by decide) n lie
    have A5 : LA (wI h4 56 n lie) := A4
    refine wp_bI.mpr ⟨okA_in A5.1.2.2.2.2.1 (show n < 60 from hn) (by omega), ?_⟩
    rw [nI_clamp (by omega), q_sI]
    have Z6 := Z5.wI A5.1.2.2.2.2.1 (by decide) n (nI st)
    have A6 : LA (wI (wI h4 56 n lie) 119 n (nI st)) := A4
    obtain ⟨rS, rR⟩ := A4.2 n hn
    have T1 := t4.1
    refine wp_g2 (st + 1) (fun j x g => x = nI j ∧ Zs g (hidW w (nI f) K (nI c)) P ∧ hS g = hS h4 ∧ hR g = hR h4 ∧ (∀ a, a ≠ 59 + n → hI g a = hI (wI (wI h4 56 n lie) 119 n (nI st)) a) ∧ ∀ y, y < j → hI g (59 + n) y = nI (to y)) ⟨rfl, Z6, rfl, rfl, fun _ _ => rfl, fun y hy => absurd hy (by omega)⟩ (by omega) ?_ ?_
    · rintro L x g ⟨rfl, Zg, gS, gR, ge, gn⟩
      rw [if_pos (show nI st < nI (st + 1) by rw [nI_ltI (by omega) (by omega)]; omega)]
      have Ag : LA g := by
        unfold LA
        rw [gS, gR]
        exact A4
      have ok57 := okA_in Ag.1.2.2.1 (show f < 3 from hf) (by omega)
      refine wp_aI.mpr ⟨ok57, ?_⟩
      rw [nI_clamp (by omega), q_gI]
      refine wp_bI.mpr ⟨ok57, ?_⟩
      rw [nI_clamp (by omega), q_sI]
      have Zf := Zg.wI Ag.1.2.2.1 (by decide) f (hI g 57 f + 1)
      have Af : LA (wI g 57 f (hI g 57 f + 1)) := Ag
      have g57 : hI g 57 = hI h 57 := by rw [ge 57 (by omega), q_ne (by decide), q_ne (by decide)]; exact e4 57 (by omega) (by omega) (by omega)
      obtain ⟨I2, own2⟩ := I.hid hn hf hc hK hst2 h3 Zf Af (by rw [q_ne (by decide), ge 55 (by omega), q_ne (by decide), q_ne (by decide)]; exact e4 55 (by omega) (by omega) (by omega)) (by rw [q_ne (by decide), ge 56 (by omega), q_ne (by decide), q_at, hl0]) (fun j hj => by rw [q_ne (by decide), ge 56 (by omega), q_ne (by decide), q_atne hj, e4 56 (by omega) (by omega) (by omega)]) (by rw [q_ne (by decide), ge 119 (by omega), q_at]) (fun j hj => by rw [q_ne (by decide), ge 119 (by omega), q_atne hj, q_ne (by decide), e4 119 (by omega) (by omega) (by omega)]) (by rw [q_ne (by decide), ge 120 (by omega), q_ne (by decide), q_ne (by decide)]; exact e4 120 (by omega) (by omega) (by omega)) (fun x hx => by rw [q_ne (by omega), ge (59 + x) (by omega), q_ne (by omega), q_ne (by omega)]; exact e4 (59 + x) (by omega) (by omega) (by omega)) (by rw [q_ne (by omega), gn 0 (by omega), ec]) (fun y y1 y2 => by rw [q_ne (by omega), gn y (by omega), s.2.2 (y - 1) (by omega), show y - 1 + 1 = y by omega]) (by rw [q_at, g57]) (fun y hy => by rw [q_atne hy, g57])
      have u11 : hI (hidW w (nI f) K (nI c)) 49 11 = 0 := q_at
      refine z_count Zf 9 (fun g1 Y1 p1 => ?_)
      rw [show s_count (hidW w (nI f) K (nI c)) 9 = 0 from u11]
      refine wp_jn.mpr ?_
      rw [if_pos rfl]
      have J1 := I2.q (by omega) Y1 p1
      refine z_ofBody Y1 _ _ (fun g2 Y2 p2 => ?_)
      have J2 := J1.q (by omega) Y2 p2
      rw [(ofFnd J2.2.1 (by omega) hf).2]
      refine wp_aI.mpr ⟨okA_in J2.2.2.1.1.2.2.1 (show f < 3 from hf) (by omega), ?_⟩
      rw [nI_clamp (by omega), q_gI, J2.2.2.2.2.1 f hf, if_pos rfl]
      rw [show (2 : Int32) + (nI n + 1) = nI (3 + n) by
        show nI 2 + (nI n + nI 1) = _
        rw [nI_add, nI_add]; congr 1; omega]
      refine z_ofBody Y2 _ _ (fun g3 Y3 p3 => ?_)
      have J3 := J2.q (by omega) Y3 p3
      rw [(ofBox J2.2.1 (by omega) (show n < n + 1 by omega)).2, ← (J2.2.2.2.2.2.1 n (by omega)).1]
      have el : hI g2 56 n = lie := by
        rw [J1.2.2.1.e p2 56 (by omega) (by omega) (by omega), I2.2.2.1.e p1 56 (by omega) (by omega) (by omega), q_ne (by decide), ge 56 (by omega), q_ne (by decide), q_at]
      rw [el, if_pos rfl]
      rw [show nI n + 1 = nI (n + 1) from nI_1 n]
      refine next g3 _ (n + 1) J3 ?_ (Nat.le_refl _)
      unfold nS
      rw [u11]
      rfl
    · rintro L j x g hj ⟨rfl, Zg, gS, gR, ge, gn⟩ ih
      rw [if_neg (show ¬ nI st < nI j by rw [nI_ltI (by omega) (by omega)]; omega)]
      have s58 : (hS g)[58]? = some (29, 60) := by rw [gS]; exact A4.1.2.2.2.1
      have sT : (hS g)[T]? = some (28, 3) := by rw [gS]; exact t4.2.1
      have sr : (hS g)[59 + n]? = some (28, 5) := by rw [gS]; exact rS
      refine wp_aR.mpr ⟨okA_in s58 (show n < 60 from hn) (by omega), ?_⟩
      rw [nI_clamp (by omega), q_gR, gR, rR]
      refine wp_aI.mpr ⟨okA_in sT (show j < 3 by omega) (by omega), ?_⟩
      rw [nI_clamp (by omega), q_gI]
      have eT : hI g T j = nI (to j) := by
        rw [ge T (by omega), q_ne (by omega), q_ne (by omega)]
        exact (t4.2.2 j (by omega)).1
      rw [eT]
      refine wp_bI.mpr ⟨okA_in sr (show j < 5 by omega) (by omega), ?_⟩
      rw [nI_clamp (by omega), q_sI]
      refine ih _ _ ⟨nI_1 j, Zg.wI sr (by decide) j _, gS, gR, fun a ha => by rw [q_ne ha]; exact ge a ha, fun y hy => ?_⟩
      by_cases e : y = j
      · subst e; exact q_at
      · rw [q_atne e]; exact gn y (by omega)
  · rw [if_neg d0] at Z4 ⊢
    have dn : ¬ due ≤ 0 := by
      have := why_in w P f K c
      rw [← hd] at this
      rcases this with e | e | e | e | e
      · exact absurd e d0
      all_goals rw [e]; decide
    have I4 := I.q (by omega) Z4 q
    refine wp_jn.mpr ?_
    rw [if_neg dn]
    show wp (if -20 - told = (-20 : Int32) - told then _ else _) _
    rw [if_pos rfl]
    refine wp_jn.mpr ?_
    rw [if_neg dn]
    have cnt9 : s_count w 9 = nI st := e49
    have J : ∀ g, Zs g w P → LQ h4 g → wp (rO g [11] (some 0) <| clR g (f_X11_count (some 0) (9 : Int32) g) fun v142 h141 =>
        jn (if nI st ≤ 0 then L447 (nI n) (i + 1) h141 else rz (1 : Int32) h141) fun j1064 =>
        if v142 ≤ 0 then j1064 else if nI st = 0 then rz (0 : Int32) h141 else j1064) (fun r _ => r = 1) := by
      intro g Zg qg
      refine z_count Zg 9 (fun g1 Y1 p1 => ?_)
      rw [cnt9]
      refine wp_jn.mpr ?_
      by_cases z : st = 0
      · subst z
        rw [if_pos (show nI 0 ≤ (0 : Int32) by decide), if_pos (show nI 0 ≤ (0 : Int32) by decide)]
        exact next g1 w n (I4.q (by omega) Y1 (qg.trans p1)) s.1 (by omega)
      · have z1 : ¬ nI st ≤ (0 : Int32) := by
          show ¬ nI st ≤ nI 0
          rw [nI_leI (by omega) (by omega)]; omega
        have z2 : ¬ nI st = (0 : Int32) := by
          show ¬ nI st = nI 0
          rw [nI_eq (by omega) (by omega)]; exact z
        rw [if_neg z1, if_neg z1, if_neg z2]
        exact wp_rz.mpr ⟨Or.inr rfl, rfl⟩
    refine wp_jn.mpr ?_
    by_cases z : st = 0
    · subst z
      rw [if_pos (show nI 0 ≤ (0 : Int32) by decide)]
      exact J h4 Z4 (LQ.refl _)
    · have z1 : ¬ nI st ≤ (0 : Int32) := by
        show ¬ nI st ≤ nI 0
        rw [nI_leI (by omega) (by omega)]; omega
      rw [if_neg z1]
      refine z_count Z4 9 (fun g1 Y1 p1 => ?_)
      rw [cnt9, if_pos rfl]
      exact J g1 Y1 p1
end
