/-! A TURN OF THE LAW, walked -/
theorem LT.wx {h : AH} {T : Nat} {to : Nat → Nat} (t : LT h T to) (a i : Nat) (v : Int32) (ha : a < 121) : LT (wI h a i v) T to := by
  obtain ⟨t1, t2, t3⟩ := t
  exact ⟨t1, t2, fun j hj => by rw [q_ne (by omega)]; exact t3 j hj⟩
def to3 (a b c : Nat) (j : Nat) : Nat := if j = 0 then a else if j = 1 then b else c
set_option maxRecDepth 100000 in
set_option maxHeartbeats 16000000 in
theorem turn {tb : List Int32} (hL : tb.length ≤ 260) {k n i : Nat} {h w : AH} {P : Nat → Prog} (hi : i < 80) (hn : n < 60) (I : LI k h w P n) (s0 : nS w = 0) {L447 : Int32 → Int32 → AH → Option (Int32 × AH)} (next : ∀ g u m, LI k g u P m → nS u = 0 → m ≤ n + 1 → wp (L447 (nI m) (nI i + 1) g) (fun r _ => r = 1)) :
    wp (
      clC (cellF tb (nI i)) fun v87 =>
      nz (3 : Int32) <|
      nz (5 : Int32) <|
      nz (60 : Int32) <|
      jn (fun (x88 : Int32) =>
        nO h 28 3 fun v89 h90 =>
        bI h90 28 v89 (0 : Int32) ((v87 >>> ((5 : Int32) &&& 31)) - (v87 >>> ((5 : Int32) &&& 31)) / (60 : Int32) * (60 : Int32)) fun h91 =>
        nz (60 : Int32) <|
        bI h91 28 v89 (1 : Int32) ((v87 >>> ((12 : Int32) &&& 31)) - (v87 >>> ((12 : Int32) &&& 31)) / (60 : Int32) * (60 : Int32)) fun h92 =>
        nz (60 : Int32) <|
        bI h92 28 v89 (2 : Int32) ((v87 >>> ((15 : Int32) &&& 31)) - (v87 >>> ((15 : Int32) &&& 31)) / (60 : Int32) * (60 : Int32)) fun h93 =>
        lp (fun _ _ => none) (fun (L548 : Int32 → AH → Option (Int32 × AH)) (x94 : Int32) (h95 : AH) =>
          if x88 < x94 then
            jn (fun (h96 : AH) =>
              rO h96 [11] (some 0) <| clR h96 (f_X11_ofBody (some 0) ((v87 &&& (3 : Int32)) - (v87 &&& (3 : Int32)) / (3 : Int32) * (3 : Int32)) (1 : Int32) h96) fun v98 h97 =>
              aI h97 28 (some 57) ((v87 &&& (3 : Int32)) - (v87 &&& (3 : Int32)) / (3 : Int32) * (3 : Int32)) fun v99 =>
              jn (fun (x100 : Int32) =>
                lp (fun _ _ _ => none) (fun (L690 : Int32 → Int32 → AH → Option (Int32 × AH)) (x101 : Int32) (x102 : Int32) (h103 : AH) =>
                  if x88 < x102 then
                    aI h103 28 v89 x88 fun v104 =>
                    lp (fun _ _ _ _ => none) (fun (L772 : Int32 → Int32 → Int32 → AH → Option (Int32 × AH)) (x105 : Int32) (x106 : Int32) (x107 : Int32) (h108 : AH) =>
                      if (nI n) ≤ x107 then
                        jn (fun (x109 : Int32) =>
                          jn (fun (x110 : Int32) =>
                            rO h108 [11] (some 0) <| clR h108 (f_X11_why (some 0) ((v87 &&& (3 : Int32)) - (v87 &&& (3 : Int32)) / (3 : Int32) * (3 : Int32)) ((1 : Int32) + (((v87 >>> ((2 : Int32) &&& 31)) &&& (7 : Int32)) - ((v87 >>> ((2 : Int32) &&& 31)) &&& (7 : Int32)) / (5 : Int32) * (5 : Int32))) ((v87 >>> ((5 : Int32) &&& 31)) - (v87 >>> ((5 : Int32) &&& 31)) / (60 : Int32) * (60 : Int32)) (0 : Int32) h108) fun v112 h111 =>
                            jn (fun (h113 : AH) =>
                              rz (0 : Int32) h113) fun j991 =>
                            if v112 = x110 then
                              rO h111 [11] (some 0) <| clR h111 (f_X11_why (some 0) ((v87 &&& (3 : Int32)) - (v87 &&& (3 : Int32)) / (3 : Int32) * (3 : Int32)) ((1 : Int32) + (((v87 >>> ((2 : Int32) &&& 31)) &&& (7 : Int32)) - ((v87 >>> ((2 : Int32) &&& 31)) &&& (7 : Int32)) / (5 : Int32) * (5 : Int32))) ((v87 >>> ((5 : Int32) &&& 31)) - (v87 >>> ((5 : Int32) &&& 31)) / (60 : Int32) * (60 : Int32)) (1 : Int32) h111) fun v115 h114 =>
                              if v115 = x109 then
                                rO h114 [11] (some 0) <| clR h114 (f_X11_why (some 0) ((v87 &&& (3 : Int32)) - (v87 &&& (3 : Int32)) / (3 : Int32) * (3 : Int32)) ((1 : Int32) + (((v87 >>> ((2 : Int32) &&& 31)) &&& (7 : Int32)) - ((v87 >>> ((2 : Int32) &&& 31)) &&& (7 : Int32)) / (5 : Int32) * (5 : Int32))) ((v87 >>> ((5 : Int32) &&& 31)) - (v87 >>> ((5 : Int32) &&& 31)) / (60 : Int32) * (60 : Int32)) (0 : Int32) h114) fun v117 h116 =>
                                if v117 = x110 then
                                  rO h116 [11] (some 0) <| clR h116 (f_X11_hide (some 0) ((v87 &&& (3 : Int32)) - (v87 &&& (3 : Int32)) / (3 : Int32) * (3 : Int32)) ((1 : Int32) + (((v87 >>> ((2 : Int32) &&& 31)) &&& (7 : Int32)) - ((v87 >>> ((2 : Int32) &&& 31)) &&& (7 : Int32)) / (5 : Int32) * (5 : Int32))) ((v87 >>> ((5 : Int32) &&& 31)) - (v87 >>> ((5 : Int32) &&& 31)) / (60 : Int32) * (60 : Int32)) h116) fun v119 h118 =>
                                  jn (fun (x120 : Int32) =>
                                    if v119 = x120 then
                                      jn (fun (x121 : Int32) (h122 : AH) =>
                                        L447 x121 ((nI i) + 1) h122) fun j1166 =>
                                      if x109 ≤ 0 then
                                        bI h118 28 (some 56) (nI n) v104 fun h123 =>
                                        bI h123 28 (some 119) (nI n) x88 fun h124 =>
                                        lp (fun _ _ => none) (fun (L1088 : Int32 → AH → Option (Int32 × AH)) (x125 : Int32) (h126 : AH) =>
                                          if x88 < x125 then
                                            aI h126 28 (some 57) ((v87 &&& (3 : Int32)) - (v87 &&& (3 : Int32)) / (3 : Int32) * (3 : Int32)) fun v127 =>
                                            bI h126 28 (some 57) ((v87 &&& (3 : Int32)) - (v87 &&& (3 : Int32)) / (3 : Int32) * (3 : Int32)) (v127 + (1 : Int32)) fun h128 =>
                                            rO h128 [11] (some 0) <| clR h128 (f_X11_count (some 0) (9 : Int32) h128) fun v130 h129 =>
                                            jn (fun (h131 : AH) =>
                                              rz (0 : Int32) h131) fun j1164 =>
                                            if v130 = 0 then
                                              rO h129 [11] (some 0) <| clR h129 (f_X11_ofBody (some 0) ((v87 &&& (3 : Int32)) - (v87 &&& (3 : Int32)) / (3 : Int32) * (3 : Int32)) (4 : Int32) h129) fun v133 h132 =>
                                              aI h132 28 (some 57) ((v87 &&& (3 : Int32)) - (v87 &&& (3 : Int32)) / (3 : Int32) * (3 : Int32)) fun v134 =>
                                              if v133 = v134 then
                                                rO h132 [11] (some 0) <| clR h132 (f_X11_ofBody (some 0) ((2 : Int32) + ((nI n) + 1)) (5 : Int32) h132) fun v136 h135 =>
                                                if v136 = v104 then
                                                  j1166 ((nI n) + 1) h135
                                                else
                                                  j1164 h135
                                              else
                                                j1164 h132
                                            else
                                              j1164 h129
                                          else
                                            aR h126 29 (some 58) (nI n) fun v137 =>
                                            aI h126 28 v89 x125 fun v138 =>
                                            bI h126 28 v137 x125 v138 fun h139 =>
                                            L1088 (x125 + 1) h139) lpN (0 : Int32) h124
                                      else
                                        jn (fun (h140 : AH) =>
                                          rO h140 [11] (some 0) <| clR h140 (f_X11_count (some 0) (9 : Int32) h140) fun v142 h141 =>
                                          jn (
                                            if x88 ≤ 0 then
                                              j1166 (nI n) h141
                                            else
                                              rz (1 : Int32) h141) fun j1064 =>
                                          if v142 ≤ 0 then
                                            j1064
                                          else
                                            if x88 = 0 then
                                              rz (0 : Int32) h141
                                            else
                                              j1064) fun j1048 =>
                                        if x88 ≤ 0 then
                                          j1048 h118
                                        else
                                          rO h118 [11] (some 0) <| clR h118 (f_X11_count (some 0) (9 : Int32) h118) fun v144 h143 =>
                                          if v144 = x88 then
                                            j1048 h143
                                          else
                                            rz (0 : Int32) h143
                                    else
                                      rz (0 : Int32) h118) fun j1020 =>
                                  if x109 ≤ 0 then
                                    j1020 ((3 : Int32) + (nI n))
                                  else
                                    j1020 ((-20 : Int32) - x110)
                                else
                                  j991 h116
                              else
                                j991 h114
                            else
                              j991 h111) fun j941 =>
                          if x109 = (4 : Int32) then
                            j941 (3 : Int32)
                          else
                            j941 x109) fun j927 =>
                        if x100 = 0 then
                          j927 (1 : Int32)
                        else
                          if x101 = 0 then
                            j927 (2 : Int32)
                          else
                            if x105 = 0 then
                              if x106 = 0 then
                                j927 (0 : Int32)
                              else
                                j927 (4 : Int32)
                            else
                              j927 (3 : Int32)
                      else
                        aI h108 30 (some 120) x107 fun v145 =>
                        jn (fun (x146 : Int32) (x147 : Int32) (h148 : AH) =>
                          L772 x146 x147 (x107 + 1) h148) fun j884 =>
                        if v145 = 0 then
                          aI h108 28 (some 56) x107 fun v149 =>
                          clR h108 (f_L_far v104 v149 h108) fun v151 h150 =>
                          jn (fun (x152 : Int32) (h153 : AH) =>
                            lp (fun _ _ _ => none) (fun (L841 : Int32 → Int32 → AH → Option (Int32 × AH)) (x154 : Int32) (x155 : Int32) (h156 : AH) =>
                              aI h156 28 (some 119) x107 fun v157 =>
                              if v157 ≤ x155 then
                                j884 (x105 ||| x152) x154 h156
                              else
                                aR h156 29 (some 58) x107 fun v158 =>
                                aI h156 28 v158 x155 fun v159 =>
                                clR h156 (f_L_far v104 v159 h156) fun v161 h160 =>
                                jn (fun (x162 : Int32) =>
                                  L841 (x154 ||| x162) (x155 + 1) h160) fun j875 =>
                                if (nI k) ≤ v161 then
                                  j875 (0 : Int32)
                                else
                                  j875 (1 : Int32)) lpN x106 (1 : Int32) h153) fun j835 =>
                          jn (fun (h163 : AH) =>
                            j835 (1 : Int32) h163) fun j830 =>
                          if v151 < (nI k) then
                            j830 h150
                          else
                            aI h150 28 (some 119) x107 fun v164 =>
                            jn (fun (h165 : AH) =>
                              j835 (0 : Int32) h165) fun j834 =>
                            if v164 ≤ 0 then
                              j834 h150
                            else
                              aR h150 29 (some 58) x107 fun v166 =>
                              aI h150 28 v166 (0 : Int32) fun v167 =>
                              clR h150 (f_L_far v104 v167 h150) fun v169 h168 =>
                              if (nI k) ≤ v169 then
                                j834 h168
                              else
                                j830 h168
                        else
                          j884 x105 x106 h108) lpN (0 : Int32) (0 : Int32) (0 : Int32) h103
                  else
                    aI h103 28 v89 x102 fun v170 =>
                    aI h103 28 (some 55) v170 fun v171 =>
                    jn (fun (x172 : Int32) (h173 : AH) =>
                      L690 (x101 &&& x172) (x102 + 1) h173) fun j747 =>
                    jn (fun (h174 : AH) =>
                      j747 (1 : Int32) h174) fun j742 =>
                    if v171 < 0 then
                      j742 h103
                    else
                      aI h103 28 v89 x102 fun v175 =>
                      aI h103 28 (some 55) v175 fun v176 =>
                      jn (fun (h177 : AH) =>
                        j747 (0 : Int32) h177) fun j746 =>
                      if v176 = (3 : Int32) then
                        if ((1 : Int32) + (((v87 >>> ((2 : Int32) &&& 31)) &&& (7 : Int32)) - ((v87 >>> ((2 : Int32) &&& 31)) &&& (7 : Int32)) / (5 : Int32) * (5 : Int32))) = (1 : Int32) then
                          j742 h103
                        else
                          aI h103 28 v89 x102 fun v178 =>
                          clR h103 (f_L_far v98 v178 h103) fun v180 h179 =>
                          if (4 : Int32) ≤ v180 then
                            j746 h179
                          else
                            j742 h179
                      else
                        j746 h103) lpN (1 : Int32) (0 : Int32) h97) fun j682 =>
              if (3 : Int32) ≤ v99 then
                j682 (0 : Int32)
              else
                j682 (1 : Int32)) fun j659 =>
            if ((v87 >>> ((21 : Int32) &&& 31)) &&& (7 : Int32)) = 0 then
              if (nI n) ≤ 0 then
                j659 h95
              else
                nz (nI n) <|
                rO h95 [11] (some 0) <| clR h95 (f_X11_down (some 0) ((3 : Int32) + ((v87 >>> ((5 : Int32) &&& 31)) - (v87 >>> ((5 : Int32) &&& 31)) / (nI n) * (nI n))) h95) fun v182 h181 =>
                aI h181 30 (some 120) ((v87 >>> ((5 : Int32) &&& 31)) - (v87 >>> ((5 : Int32) &&& 31)) / (nI n) * (nI n)) fun v183 =>
                jn (fun (x184 : Int32) =>
                  if v182 = x184 then
                    aI h181 30 (some 120) ((v87 >>> ((5 : Int32) &&& 31)) - (v87 >>> ((5 : Int32) &&& 31)) / (nI n) * (nI n)) fun v185 =>
                    jn (fun (h186 : AH) =>
                      bI h186 30 (some 120) ((v87 >>> ((5 : Int32) &&& 31)) - (v87 >>> ((5 : Int32) &&& 31)) / (nI n) * (nI n)) ((1 : Int32) &&& 1) fun h187 =>
                      j659 h187) fun j653 =>
                    if v185 = 0 then
                      rO h181 [11] (some 0) <| clR h181 (f_X11_ofBody (some 0) ((3 : Int32) + ((v87 >>> ((5 : Int32) &&& 31)) - (v87 >>> ((5 : Int32) &&& 31)) / (nI n) * (nI n))) (1 : Int32) h181) fun v189 h188 =>
                      aI h188 28 (some 57) v189 fun v190 =>
                      bI h188 28 (some 57) v189 (v190 - (1 : Int32)) fun h191 =>
                      j653 h191
                    else
                      j653 h181
                  else
                    rz (0 : Int32) h181) fun j624 =>
                if v183 = 0 then
                  j624 (1 : Int32)
                else
                  j624 (-2 : Int32)
            else
              j659 h95
          else
            aI h95 28 v89 x94 fun v192 =>
            rO h95 [11] (some 0) <| clR h95 (f_X11_step (some 0) v192 h95) fun v194 h193 =>
            if v194 = x94 then
              L548 (x94 + 1) h193
            else
              rz (0 : Int32) h193) lpN (1 : Int32) h93) fun j511 =>
      if ((1 : Int32) + (((v87 >>> ((2 : Int32) &&& 31)) &&& (7 : Int32)) - ((v87 >>> ((2 : Int32) &&& 31)) &&& (7 : Int32)) / (5 : Int32) * (5 : Int32))) = (3 : Int32) then
        j511 ((1 : Int32) + ((v87 >>> ((11 : Int32) &&& 31)) &&& (1 : Int32)))
      else
        j511 (0 : Int32)) (fun r _ => r = 1) := by
  obtain ⟨v, v0, ev⟩ := cell_ex hL hi
  refine (wp_clC ev).mpr ?_
  refine wp_nz.mpr ⟨by decide, wp_nz.mpr ⟨by decide, wp_nz.mpr ⟨by decide, ?_⟩⟩⟩
  obtain ⟨f, hf, ef⟩ : ∃ f, f < 3 ∧ (v &&& (3 : Int32)) - (v &&& (3 : Int32)) / (3 : Int32) * (3 : Int32) = nI f := by
    obtain ⟨a, ha, e⟩ := and_ex v (m := 3) (by omega)
    have e' : v &&& (3 : Int32) = nI a := e
    rw [e']
    exact mod_ex (m := 3) (nI_pos' (by omega)) (by omega) (by omega)
  obtain ⟨kd, hkd, ek⟩ : ∃ kd, kd < 5 ∧ ((1 : Int32) + (((v >>> ((2 : Int32) &&& 31)) &&& (7 : Int32)) - ((v >>> ((2 : Int32) &&& 31)) &&& (7 : Int32)) / (5 : Int32) * (5 : Int32))) = nI (1 + kd) := by
    obtain ⟨a, ha, e⟩ := and_ex (v >>> ((2 : Int32) &&& 31)) (m := 7) (by omega)
    have e' : (v >>> ((2 : Int32) &&& 31)) &&& (7 : Int32) = nI a := e
    rw [e']
    obtain ⟨b, hb, e2⟩ := mod_ex (m := 5) (nI_pos' (show a < 2 ^ 31 by omega)) (by omega) (by omega)
    have e2' : nI a - nI a / (5 : Int32) * (5 : Int32) = nI b := e2
    exact ⟨b, hb, by rw [e2']; exact nI_add 1 b⟩
  obtain ⟨c, hc, ec⟩ : ∃ c, c < 60 ∧ (v >>> ((5 : Int32) &&& 31)) - (v >>> ((5 : Int32) &&& 31)) / (60 : Int32) * (60 : Int32) = nI c := mod_ex (m := 60) (shr_nn v0) (by omega) (by omega)
  obtain ⟨c1, hc1, ec1⟩ : ∃ c, c < 60 ∧ (v >>> ((12 : Int32) &&& 31)) - (v >>> ((12 : Int32) &&& 31)) / (60 : Int32) * (60 : Int32) = nI c := mod_ex (m := 60) (shr_nn v0) (by omega) (by omega)
  obtain ⟨c2, hc2, ec2⟩ : ∃ c, c < 60 ∧ (v >>> ((15 : Int32) &&& 31)) - (v >>> ((15 : Int32) &&& 31)) / (60 : Int32) * (60 : Int32) = nI c := mod_ex (m := 60) (shr_nn v0) (by omega) (by omega)
  simp only [ef, ek, ec, ec1, ec2]
  generalize hK : nI (1 + kd) = K
  have hbK : boxK K = true := by
    rw [← hK]
    have : kd = 0 ∨ kd = 1 ∨ kd = 2 ∨ kd = 3 ∨ kd = 4 := by omega
    rcases this with rfl | rfl | rfl | rfl | rfl <;> decide
  have hlt := I.2.2.1.lt
  refine wp_jnP (fun j => ∀ st, ((K = 3 ∧ 1 ≤ st ∧ st ≤ 2) ∨ (¬ K = 3 ∧ st = 0)) → wp (j (nI st)) (fun r _ => r = 1)) ?_ ?_
  · intro st hst
    have hst2 : st ≤ 2 := by omega
    refine wp_nO.mpr ?_
    generalize hT : (hS h).length = T at hlt
    have sT : (hS (grow h 28 3))[T]? = some (28, 3) := by
      rw [hS_grow, ← hT, List.getElem?_append_right (Nat.le_refl _), Nat.sub_self]
      rfl
    have I1 : LI k (grow h 28 3) w P n := I.q (by omega) (I.1.grow 28 3) (LQ.grow h 28 3)
    refine wp_bI.mpr ⟨okA_in (i := 0) sT (by omega) (by omega), ?_⟩
    rw [show ((0 : Int32)).toNatClampNeg = 0 from rfl, q_sI]
    refine wp_nz.mpr ⟨by decide, ?_⟩
    refine wp_bI.mpr ⟨okA_in (i := 1) (h := wI (grow h 28 3) T 0 (nI c)) sT (by omega) (by omega), ?_⟩
    rw [show ((1 : Int32)).toNatClampNeg = 1 from rfl, q_sI]
    refine wp_nz.mpr ⟨by decide, ?_⟩
    refine wp_bI.mpr ⟨okA_in (i := 2) (h := wI (wI (grow h 28 3) T 0 (nI c)) T 1 (nI c1)) sT (by omega) (by omega), ?_⟩
    rw [show ((2 : Int32)).toNatClampNeg = 2 from rfl, q_sI]
    have I2 := ((I1.wT (by omega) hlt sT (by decide) 0 (nI c)).wT (by omega) hlt (q := (28, 3)) sT (by decide) 1 (nI c1)).wT (by omega) hlt (q := (28, 3)) sT (by decide) 2 (nI c2)
    have t2 : LT (wI (wI (wI (grow h 28 3) T 0 (nI c)) T 1 (nI c1)) T 2 (nI c2)) T (to3 c c1 c2) := by
      refine ⟨hlt, sT, fun j hj => ?_⟩
      have : j = 0 ∨ j = 1 ∨ j = 2 := by omega
      rcases this with rfl | rfl | rfl
      · exact ⟨by rw [q_atne (by decide), q_atne (by decide), q_at]; rfl, hc⟩
      · exact ⟨by rw [q_atne (by decide), q_at]; rfl, hc1⟩
      · exact ⟨by rw [q_at]; rfl, hc2⟩
    have z0 : StW w (to3 c c1 c2) 0 := ⟨s0, by rw [I.1.2.WN.2.2.2.2.1.1, s0], fun j hj => absurd hj (by omega)⟩
    have hto : ∀ j, j < 3 → to3 c c1 c2 j < 60 := fun j hj => (t2.2.2 j hj).2
    generalize wI (wI (wI (grow h 28 3) T 0 (nI c)) T 1 (nI c1)) T 2 (nI c2) = h3 at *
    refine lp548 (by omega) hst2 I2 t2 z0 (fun g u Ig tg sg => ?_)
    refine wp_jnP (fun j => ∀ g u, LI k g u P n → LT g T (to3 c c1 c2) → StW u (to3 c c1 c2) st → wp (j g) (fun r _ => r = 1)) ?_ ?_
    · clear Ig tg sg g u
      intro g u Ig tg sg
      refine z_ofBody Ig.1 _ _ (fun g1 Y1 p1 => ?_)
      have J1 := Ig.q (by omega) Y1 p1
      have t1 := tg.q p1
      rw [(ofFnd J1.2.1 (by omega) hf).1]
      have A1 := J1.2.2.1
      refine wp_aI.mpr ⟨okA_in A1.1.2.2.1 (show f < 3 from hf) (by omega), ?_⟩
      rw [nI_clamp (by omega), q_gI, J1.2.2.2.2.1 f hf]
      refine wp_jnP (fun j => wp (j (b2i (decide (¬ (3 : Int32) ≤ nI (own_ u (nI f)))))) (fun r _ => r = 1)) ?_ ?_
      · refine lp690 hst2 A1 t1 ?_
        refine wp_aI.mpr ⟨okA_in t1.2.1 (show st < 3 by omega) (by omega), ?_⟩
        rw [nI_clamp (by omega), q_gI]
        have elie : hI g1 T st = lie_ u K c := by
          rw [(t1.2.2 st (by omega)).1]
          unfold lie_
          rcases hst with z | z
          · rw [if_pos z.1, sg.1, sg.2.2 (st - 1) (by omega), show st - 1 + 1 = st by omega]
          · rw [if_neg z.1, z.2]; rfl
        rw [elie]
        refine lp772 (by omega) J1 ?_
        refine wp_jnP (fun j => wp (j (why_ u P f K c)) (fun r _ => r = 1)) ?_ (fun j927 h927 => ?_)
        · refine wp_jnP (fun j => wp (j (told4 (why_ u P f K c))) (fun r _ => r = 1)) ?_ (fun j941 h941 => ?_)
          · exact tail hn J1 t1 sg hf hc rfl hbK hst rfl rfl rfl next
          · unfold told4 at h941
            by_cases d : why_ u P f K c = 4
            · rw [if_pos d] at h941 ⊢
              exact h941
            · rw [if_neg d] at h941 ⊢
              exact h941
        · exact J1.due hf hto sg hst rfl rfl rfl rfl rfl h927
      · intro j682 h682
        by_cases d : (3 : Int32) ≤ nI (own_ u (nI f))
        · rw [decide_eq_false (fun q => q d)] at h682
          rw [if_pos d]
          exact h682
        · rw [decide_eq_true d] at h682
          rw [if_neg d]
          exact h682
    · intro j659 h659
      by_cases d : (v >>> ((21 : Int32) &&& 31)) &&& (7 : Int32) = 0
      · rw [if_pos d]
        by_cases n0 : n = 0
        · rw [if_pos (show nI n ≤ (0 : Int32) by show nI n ≤ nI 0; rw [nI_leI (by omega) (by omega)]; omega)]
          exact h659 g u Ig tg sg
        · rw [if_neg (show ¬ nI n ≤ (0 : Int32) by show ¬ nI n ≤ nI 0; rw [nI_leI (by omega) (by omega)]; omega)]
          refine wp_nz.mpr ⟨show ¬ nI n = nI 0 by rw [nI_eq (by omega) (by omega)]; exact n0, ?_⟩
          obtain ⟨x, hx, ex⟩ := mod_ex (shr_nn (s := ((5 : Int32) &&& 31)) v0) (m := n) (by omega) (by omega)
          simp only [ex]
          rw [show (3 : Int32) + nI x = nI (3 + x) from nI_add 3 x]
          refine z_down Ig.1 _ (fun g1 Y1 p1 => ?_)
          have W := Ig.2.1
          have A1 := Ig.2.2.1.q p1
          have ok120 := okA_in A1.1.2.2.2.2.2 (show x < 60 by omega) (by omega)
          have fl := (Ig.2.2.2.2.2.1 x hx).2.2.2.2
          have fl1 : hI g1 120 x = if hI u 54 (3 + x) < 0 then 0 else 1 := by rw [Ig.2.2.1.e p1 120 (by omega) (by omega) (by omega)]; exact fl
          refine wp_aI.mpr ⟨ok120, ?_⟩
          rw [nI_clamp (by omega), q_gI, fl1]
          by_cases o : hI u 54 (3 + x) < 0
          · have es : s_down u (nI (3 + x)) = (1, wI u 54 (3 + x) (hI u 49 1)) := by
              unfold s_down
              rw [W.box hx (by omega), if_pos rfl, nI_clamp (by omega), if_pos o]
            rw [es] at Y1 ⊢
            rw [if_pos o]
            refine wp_jn.mpr ?_
            rw [if_pos rfl]
            show wp (if (1 : Int32) = 1 then _ else _) _
            rw [if_pos rfl]
            refine wp_aI.mpr ⟨ok120, ?_⟩
            rw [nI_clamp (by omega), q_gI, fl1, if_pos o]
            refine wp_jn.mpr ?_
            rw [if_pos rfl]
            refine z_ofBody Y1 _ _ (fun g2 Y2 p2 => ?_)
            obtain ⟨f2, hf2, ef2⟩ := W.keep Ig.1.2.WB hx
            have ekp : s_ofBody (wI u 54 (3 + x) (hI u 49 1)) (nI (3 + x)) 1 = nI f2 := by
              have W2 : Wd k (wI u 54 (3 + x) (hI u 49 1)) P n := W.fr (by rw [q_ne (by decide)]) (by rw [q_ne (by decide)]) (by rw [q_ne (by decide)]) (by rw [q_ne (by decide)]) (q_ne (by decide)) (q_ne (by decide)) (q_ne (by decide)) (q_ne (by decide)) (fun y hy => q_atne (by omega))
              rw [(ofBox W2 (by omega) hx).1, q_ne (by decide)]
              exact ef2
            rw [ekp]
            have A2 := A1.q p2
            have ok57 := okA_in A2.1.2.2.1 (show f2 < 3 from hf2) (by omega)
            refine wp_aI.mpr ⟨ok57, ?_⟩
            rw [nI_clamp (by omega), q_gI]
            refine wp_bI.mpr ⟨ok57, ?_⟩
            rw [nI_clamp (by omega), q_sI]
            refine wp_bI.mpr ⟨okA_in (h := wI g2 57 f2 (hI g2 57 f2 - 1)) A2.1.2.2.2.2.2 (show x < 60 by omega) (by omega), ?_⟩
            rw [nI_clamp (by omega), q_sI]
            have ID := Ig.down (by omega) hx o Y2 (p1.trans p2) hf2 ef2
            refine h659 _ _ ID ((((tg.q p1).q p2).wx 57 _ _ (by omega)).wx 120 _ _ (by omega)) ?_
            refine ⟨?_, by rw [q_ne (by decide)]; exact sg.2.1, fun j hj => by rw [q_ne (by decide)]; exact sg.2.2 j hj⟩
            have := sg.1
            unfold nS at *
            rw [q_ne (by decide)]
            exact this
          · have es : s_down u (nI (3 + x)) = (-2, u) := by
              unfold s_down
              rw [W.box hx (by omega), if_pos rfl, nI_clamp (by omega), if_neg o]
            rw [es] at Y1 ⊢
            rw [if_neg o]
            refine wp_jn.mpr ?_
            rw [if_neg (show ¬ (1 : Int32) = 0 by decide)]
            show wp (if (-2 : Int32) = -2 then _ else _) _
            rw [if_pos rfl]
            refine wp_aI.mpr ⟨ok120, ?_⟩
            rw [nI_clamp (by omega), q_gI, fl1, if_neg o]
            refine wp_jn.mpr ?_
            rw [if_neg (show ¬ (1 : Int32) = 0 by decide)]
            refine wp_bI.mpr ⟨ok120, ?_⟩
            rw [nI_clamp (by omega), q_sI]
            have J1 := Ig.q (by omega) Y1 p1
            have esame : wI g1 120 x ((1 : Int32) &&& 1) = wI g1 120 x (hI g1 120 x) := by rw [fl1, if_neg o]; rfl
            rw [esame]
            refine h659 _ u (J1.mv (by omega) (Y1.wI A1.1.2.2.2.2.2 (by decide) x _) A1 (fun a _ _ _ => ?_)) ((tg.q p1).wx _ _ _ (by omega)) sg
            funext j
            by_cases ea : a = 120
            · subst ea
              by_cases ej : j = x
              · subst ej; exact q_at
              · exact q_atne ej
            · rw [q_ne ea]
      · rw [if_neg d]
        exact h659 g u Ig tg sg
  · intro j511 h511
    by_cases d : K = 3
    · rw [if_pos d]
      obtain ⟨a, ha, e⟩ := and_ex (v >>> ((11 : Int32) &&& 31)) (m := 1) (by omega)
      have e' : (v >>> ((11 : Int32) &&& 31)) &&& (1 : Int32) = nI a := e
      rw [e', show (1 : Int32) + nI a = nI (1 + a) from nI_add 1 a]
      exact h511 (1 + a) (Or.inl ⟨d, by omega, by omega⟩)
    · rw [if_neg d]
      exact h511 0 (Or.inr ⟨d, rfl⟩)
