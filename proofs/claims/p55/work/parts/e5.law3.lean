set_option maxRecDepth 100000 in
/-- the law over the heap of numbers: the script is tb -/
noncomputable def f_law (tb : List Int32) (h : AH) : Option (Int32 × AH) :=
  nO h 11 6 fun v1 h2 =>
  rO h2 [11] v1 <| clR h2 (f_X11_init v1 h2) fun _ h3 =>
  clC (cellF tb (0 : Int32)) fun v4 =>
  nz (8 : Int32) <|
  nO h3 28 1 fun v5 h6 =>
  bI h6 28 v5 (0 : Int32) ((48 : Int32) + (v4 - v4 / (8 : Int32) * (8 : Int32))) fun h7 =>
  nO h7 28 16 fun v8 h9 =>
  bI h9 28 v8 (0 : Int32) (107 : Int32) fun h10 =>
  bI h10 28 v8 (1 : Int32) (105 : Int32) fun h11 =>
  bI h11 28 v8 (2 : Int32) (110 : Int32) fun h12 =>
  bI h12 28 v8 (3 : Int32) (100 : Int32) fun h13 =>
  bI h13 28 v8 (4 : Int32) (61 : Int32) fun h14 =>
  bI h14 28 v8 (5 : Int32) (49 : Int32) fun h15 =>
  bI h15 28 v8 (6 : Int32) (32 : Int32) fun h16 =>
  bI h16 28 v8 (7 : Int32) (111 : Int32) fun h17 =>
  bI h17 28 v8 (8 : Int32) (114 : Int32) fun h18 =>
  bI h18 28 v8 (9 : Int32) (32 : Int32) fun h19 =>
  bI h19 28 v8 (10 : Int32) (104 : Int32) fun h20 =>
  bI h20 28 v8 (11 : Int32) (111 : Int32) fun h21 =>
  bI h21 28 v8 (12 : Int32) (109 : Int32) fun h22 =>
  bI h22 28 v8 (13 : Int32) (101 : Int32) fun h23 =>
  bI h23 28 v8 (14 : Int32) (60 : Int32) fun h24 =>
  bI h24 28 v8 (15 : Int32) (52 : Int32) fun h25 =>
  nO h25 28 16 fun v26 h27 =>
  bI h27 28 v26 (0 : Int32) (117 : Int32) fun h28 =>
  bI h28 28 v26 (1 : Int32) (110 : Int32) fun h29 =>
  bI h29 28 v26 (2 : Int32) (108 : Int32) fun h30 =>
  bI h30 28 v26 (3 : Int32) (101 : Int32) fun h31 =>
  bI h31 28 v26 (4 : Int32) (115 : Int32) fun h32 =>
  bI h32 28 v26 (5 : Int32) (115 : Int32) fun h33 =>
  bI h33 28 v26 (6 : Int32) (32 : Int32) fun h34 =>
  bI h34 28 v26 (7 : Int32) (111 : Int32) fun h35 =>
  bI h35 28 v26 (8 : Int32) (119 : Int32) fun h36 =>
  bI h36 28 v26 (9 : Int32) (110 : Int32) fun h37 =>
  bI h37 28 v26 (10 : Int32) (60 : Int32) fun h38 =>
  bI h38 28 v26 (11 : Int32) (51 : Int32) fun h39 =>
  bI h39 28 v26 (12 : Int32) (58 : Int32) fun h40 =>
  bI h40 28 v26 (13 : Int32) (48 : Int32) fun h41 =>
  bI h41 28 v26 (14 : Int32) (59 : Int32) fun h42 =>
  bI h42 28 v26 (15 : Int32) (49 : Int32) fun h43 =>
  clR h43 (f_L_tell v1 v5 (1 : Int32) h43) fun v45 h44 =>
  jn (fun (h46 : AH) =>
    rz (0 : Int32) h46) fun j283 =>
  if v45 = 0 then
    j283 h44
  else
    rO h44 [11] v1 <| clR h44 (f_X11_rule v1 (0 : Int32) (0 : Int32) h44) fun v48 h47 =>
    if v48 = 0 then
      aN h47 28 v8 fun v49 =>
      clR h47 (f_L_tell v1 v8 v49 h47) fun v51 h50 =>
      if v51 = 0 then
        j283 h50
      else
        rO h50 [11] v1 <| clR h50 (f_X11_rule v1 (13 : Int32) (0 : Int32) h50) fun v53 h52 =>
        if v53 = (1 : Int32) then
          aN h52 28 v26 fun v54 =>
          clR h52 (f_L_tell v1 v26 v54 h52) fun v56 h55 =>
          if v56 = 0 then
            j283 h55
          else
            rO h55 [11] v1 <| clR h55 (f_X11_rule v1 (1 : Int32) (0 : Int32) h55) fun v58 h57 =>
            if v58 = (2 : Int32) then
              lp (fun _ _ => none) (fun (L288 : Int32 → AH → Option (Int32 × AH)) (x59 : Int32) (h60 : AH) =>
                if (3 : Int32) ≤ x59 then
                  nO h60 28 60 fun v61 h62 =>
                  lp (fun _ _ => none) (fun (L331 : Int32 → AH → Option (Int32 × AH)) (x63 : Int32) (h64 : AH) =>
                    if (60 : Int32) ≤ x63 then
                      nO h64 28 60 fun v65 h66 =>
                      nO h66 28 3 fun v67 h68 =>
                      mM h68 fun v69 h70 =>
                      nO h70 28 60 fun v71 h72 =>
                      nO h72 30 60 fun v73 h74 =>
                      lp (fun _ _ _ => none) (fun (L447 : Int32 → Int32 → AH → Option (Int32 × AH)) (x75 : Int32) (x76 : Int32) (h77 : AH) =>
                        if (80 : Int32) ≤ x76 then
                          rO h77 [11] v1 <| clR h77 (f_X11_hide v1 (0 : Int32) (3 : Int32) (5 : Int32) h77) fun v79 h78 =>
                          jn (fun (x80 : Int32) (h81 : AH) =>
                            rz x80 h81) fun j1212 =>
                          jn (fun (h82 : AH) =>
                            j1212 (0 : Int32) h82) fun j1211 =>
                          if v79 = (-1 : Int32) then
                            rO h78 [11] v1 <| clR h78 (f_X11_hide v1 (3 : Int32) (1 : Int32) (5 : Int32) h78) fun v84 h83 =>
                            if v84 = (-1 : Int32) then
                              rO h83 [11] v1 <| clR h83 (f_X11_why v1 (0 : Int32) (6 : Int32) (5 : Int32) (0 : Int32) h83) fun v86 h85 =>
                              if v86 = (-1 : Int32) then
                                j1212 (1 : Int32) h85
                              else
                                j1211 h85
                            else
                              j1211 h83
                          else
                            j1211 h78
                        else
                          clC (cellF tb x76) fun v87 =>
                          nz (3 : Int32) <|
                          nz (5 : Int32) <|
                          nz (60 : Int32) <|
                          jn (fun (x88 : Int32) =>
                            nO h77 28 3 fun v89 h90 =>
                            bI h90 28 v89 (0 : Int32) ((v87 >>> ((5 : Int32) &&& 31)) - (v87 >>> ((5 : Int32) &&& 31)) / (60 : Int32) * (60 : Int32)) fun h91 =>
                            nz (60 : Int32) <|
                            bI h91 28 v89 (1 : Int32) ((v87 >>> ((12 : Int32) &&& 31)) - (v87 >>> ((12 : Int32) &&& 31)) / (60 : Int32) * (60 : Int32)) fun h92 =>
                            nz (60 : Int32) <|
                            bI h92 28 v89 (2 : Int32) ((v87 >>> ((15 : Int32) &&& 31)) - (v87 >>> ((15 : Int32) &&& 31)) / (60 : Int32) * (60 : Int32)) fun h93 =>
                            lp (fun _ _ => none) (fun (L548 : Int32 → AH → Option (Int32 × AH)) (x94 : Int32) (h95 : AH) =>
                              if x88 < x94 then
                                jn (fun (h96 : AH) =>
                                  rO h96 [11] v1 <| clR h96 (f_X11_ofBody v1 ((v87 &&& (3 : Int32)) - (v87 &&& (3 : Int32)) / (3 : Int32) * (3 : Int32)) (1 : Int32) h96) fun v98 h97 =>
                                  aI h97 28 v67 ((v87 &&& (3 : Int32)) - (v87 &&& (3 : Int32)) / (3 : Int32) * (3 : Int32)) fun v99 =>
                                  jn (fun (x100 : Int32) =>
                                    lp (fun _ _ _ => none) (fun (L690 : Int32 → Int32 → AH → Option (Int32 × AH)) (x101 : Int32) (x102 : Int32) (h103 : AH) =>
                                      if x88 < x102 then
                                        aI h103 28 v89 x88 fun v104 =>
                                        lp (fun _ _ _ _ => none) (fun (L772 : Int32 → Int32 → Int32 → AH → Option (Int32 × AH)) (x105 : Int32) (x106 : Int32) (x107 : Int32) (h108 : AH) =>
                                          if x75 ≤ x107 then
                                            jn (fun (x109 : Int32) =>
                                              jn (fun (x110 : Int32) =>
                                                rO h108 [11] v1 <| clR h108 (f_X11_why v1 ((v87 &&& (3 : Int32)) - (v87 &&& (3 : Int32)) / (3 : Int32) * (3 : Int32)) ((1 : Int32) + (((v87 >>> ((2 : Int32) &&& 31)) &&& (7 : Int32)) - ((v87 >>> ((2 : Int32) &&& 31)) &&& (7 : Int32)) / (5 : Int32) * (5 : Int32))) ((v87 >>> ((5 : Int32) &&& 31)) - (v87 >>> ((5 : Int32) &&& 31)) / (60 : Int32) * (60 : Int32)) (0 : Int32) h108) fun v112 h111 =>
                                                jn (fun (h113 : AH) =>
                                                  rz (0 : Int32) h113) fun j991 =>
                                                if v112 = x110 then
                                                  rO h111 [11] v1 <| clR h111 (f_X11_why v1 ((v87 &&& (3 : Int32)) - (v87 &&& (3 : Int32)) / (3 : Int32) * (3 : Int32)) ((1 : Int32) + (((v87 >>> ((2 : Int32) &&& 31)) &&& (7 : Int32)) - ((v87 >>> ((2 : Int32) &&& 31)) &&& (7 : Int32)) / (5 : Int32) * (5 : Int32))) ((v87 >>> ((5 : Int32) &&& 31)) - (v87 >>> ((5 : Int32) &&& 31)) / (60 : Int32) * (60 : Int32)) (1 : Int32) h111) fun v115 h114 =>
                                                  if v115 = x109 then
                                                    rO h114 [11] v1 <| clR h114 (f_X11_why v1 ((v87 &&& (3 : Int32)) - (v87 &&& (3 : Int32)) / (3 : Int32) * (3 : Int32)) ((1 : Int32) + (((v87 >>> ((2 : Int32) &&& 31)) &&& (7 : Int32)) - ((v87 >>> ((2 : Int32) &&& 31)) &&& (7 : Int32)) / (5 : Int32) * (5 : Int32))) ((v87 >>> ((5 : Int32) &&& 31)) - (v87 >>> ((5 : Int32) &&& 31)) / (60 : Int32) * (60 : Int32)) (0 : Int32) h114) fun v117 h116 =>
                                                    if v117 = x110 then
                                                      rO h116 [11] v1 <| clR h116 (f_X11_hide v1 ((v87 &&& (3 : Int32)) - (v87 &&& (3 : Int32)) / (3 : Int32) * (3 : Int32)) ((1 : Int32) + (((v87 >>> ((2 : Int32) &&& 31)) &&& (7 : Int32)) - ((v87 >>> ((2 : Int32) &&& 31)) &&& (7 : Int32)) / (5 : Int32) * (5 : Int32))) ((v87 >>> ((5 : Int32) &&& 31)) - (v87 >>> ((5 : Int32) &&& 31)) / (60 : Int32) * (60 : Int32)) h116) fun v119 h118 =>
                                                      jn (fun (x120 : Int32) =>
                                                        if v119 = x120 then
                                                          jn (fun (x121 : Int32) (h122 : AH) =>
                                                            L447 x121 (x76 + 1) h122) fun j1166 =>
                                                          if x109 ≤ 0 then
                                                            bI h118 28 v65 x75 v104 fun h123 =>
                                                            bI h123 28 v71 x75 x88 fun h124 =>
                                                            lp (fun _ _ => none) (fun (L1088 : Int32 → AH → Option (Int32 × AH)) (x125 : Int32) (h126 : AH) =>
                                                              if x88 < x125 then
                                                                aI h126 28 v67 ((v87 &&& (3 : Int32)) - (v87 &&& (3 : Int32)) / (3 : Int32) * (3 : Int32)) fun v127 =>
                                                                bI h126 28 v67 ((v87 &&& (3 : Int32)) - (v87 &&& (3 : Int32)) / (3 : Int32) * (3 : Int32)) (v127 + (1 : Int32)) fun h128 =>
                                                                rO h128 [11] v1 <| clR h128 (f_X11_count v1 (9 : Int32) h128) fun v130 h129 =>
                                                                jn (fun (h131 : AH) =>
                                                                  rz (0 : Int32) h131) fun j1164 =>
                                                                if v130 = 0 then
                                                                  rO h129 [11] v1 <| clR h129 (f_X11_ofBody v1 ((v87 &&& (3 : Int32)) - (v87 &&& (3 : Int32)) / (3 : Int32) * (3 : Int32)) (4 : Int32) h129) fun v133 h132 =>
                                                                  aI h132 28 v67 ((v87 &&& (3 : Int32)) - (v87 &&& (3 : Int32)) / (3 : Int32) * (3 : Int32)) fun v134 =>
                                                                  if v133 = v134 then
                                                                    rO h132 [11] v1 <| clR h132 (f_X11_ofBody v1 ((2 : Int32) + (x75 + 1)) (5 : Int32) h132) fun v136 h135 =>
                                                                    if v136 = v104 then
                                                                      j1166 (x75 + 1) h135
                                                                    else
                                                                      j1164 h135
                                                                  else
                                                                    j1164 h132
                                                                else
                                                                  j1164 h129
                                                              else
                                                                aR h126 29 v69 x75 fun v137 =>
                                                                aI h126 28 v89 x125 fun v138 =>
                                                                bI h126 28 v137 x125 v138 fun h139 =>
                                                                L1088 (x125 + 1) h139) lpN (0 : Int32) h124
                                                          else
                                                            jn (fun (h140 : AH) =>
                                                              rO h140 [11] v1 <| clR h140 (f_X11_count v1 (9 : Int32) h140) fun v142 h141 =>
                                                              jn (
                                                                if x88 ≤ 0 then
                                                                  j1166 x75 h141
                                                                else
                                                                  rz (1 : Int32) h141) fun j1064 =>
                                                              if v142 ≤ 0 then
                                                                j1064
                                                              else
                                                                if x88 = 0 then
                                                                  rz (0 : Int32) h141
                                                                else
                                                                  j1064) fun j1048 =>
                                                            if x88 ≤ 0 then
                                                              j1048 h118
                                                            else
                                                              rO h118 [11] v1 <| clR h118 (f_X11_count v1 (9 : Int32) h118) fun v144 h143 =>
                                                              if v144 = x88 then
                                                                j1048 h143
                                                              else
                                                                rz (0 : Int32) h143
                                                        else
                                                          rz (0 : Int32) h118) fun j1020 =>
                                                      if x109 ≤ 0 then
                                                        j1020 ((3 : Int32) + x75)
                                                      else
                                                        j1020 ((-20 : Int32) - x110)
                                                    else
                                                      j991 h116
                                                  else
                                                    j991 h114
                                                else
                                                  j991 h111) fun j941 =>
                                              if x109 = (4 : Int32) then
                                                j941 (3 : Int32)
                                              else
                                                j941 x109) fun j927 =>
                                            if x100 = 0 then
                                              j927 (1 : Int32)
                                            else
                                              if x101 = 0 then
                                                j927 (2 : Int32)
                                              else
                                                if x105 = 0 then
                                                  if x106 = 0 then
                                                    j927 (0 : Int32)
                                                  else
                                                    j927 (4 : Int32)
                                                else
                                                  j927 (3 : Int32)
                                          else
                                            aI h108 30 v73 x107 fun v145 =>
                                            jn (fun (x146 : Int32) (x147 : Int32) (h148 : AH) =>
                                              L772 x146 x147 (x107 + 1) h148) fun j884 =>
                                            if v145 = 0 then
                                              aI h108 28 v65 x107 fun v149 =>
                                              clR h108 (f_L_far v104 v149 h108) fun v151 h150 =>
                                              jn (fun (x152 : Int32) (h153 : AH) =>
                                                lp (fun _ _ _ => none) (fun (L841 : Int32 → Int32 → AH → Option (Int32 × AH)) (x154 : Int32) (x155 : Int32) (h156 : AH) =>
                                                  aI h156 28 v71 x107 fun v157 =>
                                                  if v157 ≤ x155 then
                                                    j884 (x105 ||| x152) x154 h156
                                                  else
                                                    aR h156 29 v69 x107 fun v158 =>
                                                    aI h156 28 v158 x155 fun v159 =>
                                                    clR h156 (f_L_far v104 v159 h156) fun v161 h160 =>
                                                    jn (fun (x162 : Int32) =>
                                                      L841 (x154 ||| x162) (x155 + 1) h160) fun j875 =>
                                                    if (v4 - v4 / (8 : Int32) * (8 : Int32)) ≤ v161 then
                                                      j875 (0 : Int32)
                                                    else
                                                      j875 (1 : Int32)) lpN x106 (1 : Int32) h153) fun j835 =>
                                              jn (fun (h163 : AH) =>
                                                j835 (1 : Int32) h163) fun j830 =>
                                              if v151 < (v4 - v4 / (8 : Int32) * (8 : Int32)) then
                                                j830 h150
                                              else
                                                aI h150 28 v71 x107 fun v164 =>
                                                jn (fun (h165 : AH) =>
                                                  j835 (0 : Int32) h165) fun j834 =>
                                                if v164 ≤ 0 then
                                                  j834 h150
                                                else
                                                  aR h150 29 v69 x107 fun v166 =>
                                                  aI h150 28 v166 (0 : Int32) fun v167 =>
                                                  clR h150 (f_L_far v104 v167 h150) fun v169 h168 =>
                                                  if (v4 - v4 / (8 : Int32) * (8 : Int32)) ≤ v169 then
                                                    j834 h168
                                                  else
                                                    j830 h168
                                            else
                                              j884 x105 x106 h108) lpN (0 : Int32) (0 : Int32) (0 : Int32) h103
                                      else
                                        aI h103 28 v89 x102 fun v170 =>
                                        aI h103 28 v61 v170 fun v171 =>
                                        jn (fun (x172 : Int32) (h173 : AH) =>
                                          L690 (x101 &&& x172) (x102 + 1) h173) fun j747 =>
                                        jn (fun (h174 : AH) =>
                                          j747 (1 : Int32) h174) fun j742 =>
                                        if v171 < 0 then
                                          j742 h103
                                        else
                                          aI h103 28 v89 x102 fun v175 =>
                                          aI h103 28 v61 v175 fun v176 =>
                                          jn (fun (h177 : AH) =>
                                            j747 (0 : Int32) h177) fun j746 =>
                                          if v176 = (3 : Int32) then
                                            if ((1 : Int32) + (((v87 >>> ((2 : Int32) &&& 31)) &&& (7 : Int32)) - ((v87 >>> ((2 : Int32) &&& 31)) &&& (7 : Int32)) / (5 : Int32) * (5 : Int32))) = (1 : Int32) then
                                              j742 h103
                                            else
                                              aI h103 28 v89 x102 fun v178 =>
                                              clR h103 (f_L_far v98 v178 h103) fun v180 h179 =>
                                              if (4 : Int32) ≤ v180 then
                                                j746 h179
                                              else
                                                j742 h179
                                          else
                                            j746 h103) lpN (1 : Int32) (0 : Int32) h97) fun j682 =>
                                  if (3 : Int32) ≤ v99 then
                                    j682 (0 : Int32)
                                  else
                                    j682 (1 : Int32)) fun j659 =>
                                if ((v87 >>> ((21 : Int32) &&& 31)) &&& (7 : Int32)) = 0 then
                                  if x75 ≤ 0 then
                                    j659 h95
                                  else
                                    nz x75 <|
                                    rO h95 [11] v1 <| clR h95 (f_X11_down v1 ((3 : Int32) + ((v87 >>> ((5 : Int32) &&& 31)) - (v87 >>> ((5 : Int32) &&& 31)) / x75 * x75)) h95) fun v182 h181 =>
                                    aI h181 30 v73 ((v87 >>> ((5 : Int32) &&& 31)) - (v87 >>> ((5 : Int32) &&& 31)) / x75 * x75) fun v183 =>
                                    jn (fun (x184 : Int32) =>
                                      if v182 = x184 then
                                        aI h181 30 v73 ((v87 >>> ((5 : Int32) &&& 31)) - (v87 >>> ((5 : Int32) &&& 31)) / x75 * x75) fun v185 =>
                                        jn (fun (h186 : AH) =>
                                          bI h186 30 v73 ((v87 >>> ((5 : Int32) &&& 31)) - (v87 >>> ((5 : Int32) &&& 31)) / x75 * x75) ((1 : Int32) &&& 1) fun h187 =>
                                          j659 h187) fun j653 =>
                                        if v185 = 0 then
                                          rO h181 [11] v1 <| clR h181 (f_X11_ofBody v1 ((3 : Int32) + ((v87 >>> ((5 : Int32) &&& 31)) - (v87 >>> ((5 : Int32) &&& 31)) / x75 * x75)) (1 : Int32) h181) fun v189 h188 =>
                                          aI h188 28 v67 v189 fun v190 =>
                                          bI h188 28 v67 v189 (v190 - (1 : Int32)) fun h191 =>
                                          j653 h191
                                        else
                                          j653 h181
                                      else
                                        rz (0 : Int32) h181) fun j624 =>
                                    if v183 = 0 then
                                      j624 (1 : Int32)
                                    else
                                      j624 (-2 : Int32)
                                else
                                  j659 h95
                              else
                                aI h95 28 v89 x94 fun v192 =>
                                rO h95 [11] v1 <| clR h95 (f_X11_step v1 v192 h95) fun v194 h193 =>
                                if v194 = x94 then
                                  L548 (x94 + 1) h193
                                else
                                  rz (0 : Int32) h193) lpN (1 : Int32) h93) fun j511 =>
                          if ((1 : Int32) + (((v87 >>> ((2 : Int32) &&& 31)) &&& (7 : Int32)) - ((v87 >>> ((2 : Int32) &&& 31)) &&& (7 : Int32)) / (5 : Int32) * (5 : Int32))) = (3 : Int32) then
                            j511 ((1 : Int32) + ((v87 >>> ((11 : Int32) &&& 31)) &&& (1 : Int32)))
                          else
                            j511 (0 : Int32)) lpN (0 : Int32) (24 : Int32) h74
                    else
                      nz (20 : Int32) <|
                      clC (cellF tb ((4 : Int32) + (x63 - x63 / (20 : Int32) * (20 : Int32)))) fun v195 =>
                      nz (12 : Int32) <|
                      jn (fun (x196 : Int32) =>
                        bI h64 28 v61 x63 x196 fun h197 =>
                        aI h197 28 v61 x63 fun v198 =>
                        rO h197 [11] v1 <| clR h197 (f_X11_owner v1 x63 v198 h197) fun v200 h199 =>
                        if v200 = (-1 : Int32) then
                          L331 (x63 + 1) h199
                        else
                          rz (0 : Int32) h199) fun j384 =>
                      if ((v195 >>> ((x63 - x63 / (12 : Int32) * (12 : Int32)) &&& 31)) &&& (7 : Int32)) = 0 then
                        j384 (3 : Int32)
                      else
                        if ((v195 >>> ((x63 - x63 / (12 : Int32) * (12 : Int32)) &&& 31)) &&& (7 : Int32)) = (1 : Int32) then
                          j384 (5 : Int32)
                        else
                          j384 (-1 : Int32)) lpN (0 : Int32) h62
                else
                  clC (cellF tb ((1 : Int32) + x59)) fun v201 =>
                  nz (60 : Int32) <|
                  rO h60 [11] v1 <| clR h60 (f_X11_finder v1 (v201 - v201 / (60 : Int32) * (60 : Int32)) h60) fun v203 h202 =>
                  if v203 = x59 then
                    L288 (x59 + 1) h202
                  else
                    rz (0 : Int32) h202) lpN (0 : Int32) h57
            else
              j283 h57
        else
          j283 h52
    else
      j283 h47
set_option maxRecDepth 100000 in
set_option maxHeartbeats 8000000 in
theorem w_law {X : XT} {b : Nat} {tb : List Int32} (C0 : CX X RL cL_law 29) (hX : xR X = { frames := 2048, cells := 600000, slots := 7302249, locals := 84000 }) (E0 : EL X b) (hx : scr b tb (xD X).1 (xs X)) (hO : (Cond.arrayOver (.array .int)).before (xa X) (xs X) = true) (h : AH) (r : Int32 × AH) (h1 : r.1 = 1) (hf : f_law tb h = some r) : WW (sF X h) h 0 0 0 [some (.ref b), none, none, none, none, none, none, none, none, none, none, none, none, none, none, none, none, none, none, none, none, none, none, none, none, none, none, none, none] [] := by
  have C : ∀ g, CX (sF X g) RL cL_law 29 := fun g => CX.sF C0 g
  unfold f_law at hf
  refine L_new (C _) (t := 11) (n := 6) (by decide) (by decide) rfl wcl_L_14 wins_X11 wini_X11 dL_law_0 hf (cell1 hX (by omega)) (cell2 hX (by omega)) (fun v1 h2 hf => ?_)
  refine s_dup (C _) dL_law_3 c1_r ?_
  refine s_callIL (st := [rB (xD X).1 v1]) (fr := 3) (lo := 61) (mc := 48) (ms := 7157) (C _) wc_X11_init wml_L_26 wim_X11_init rfl dL_law_4 (As := []) rfl (a0 := 11) hf (fun h' hF => c_X11_init _ _ _ _ ((), h') hF) rfl (Nat.le_of_ble_eq_true rfl) (room_ok hX (Nat.le_of_ble_eq_true rfl) (Nat.le_of_ble_eq_true rfl)) (cell_ok hX (by omega) (by omega)) (fun h3 hf => ?_)
  refine s_astore_n (C _) dL_law_7 (by decide) (nc_t rfl) (lv' := [some (.ref b), some (rB (xD X).1 v1), none, none, none, none, none, none, none, none, none, none, none, none, none, none, none, none, none, none, none, none, none, none, none, none, none, none, none]) rfl ?_
  refine r_aload (C _) dL_law_8 rfl ?_
  refine s_iconst (C _) dL_law_9 (v := (0 : Int32)) (by decide) ?_
  refine L_cell (C _) hx wc_L_cell wml_L_27 wst_L_cell dL_law_10 (stk := [.int (0 : Int32), .ref b]) rfl hf (Nat.le_of_ble_eq_true rfl) (room_ok hX (Nat.le_of_ble_eq_true rfl) (Nat.le_of_ble_eq_true rfl)) (cell_ok hX (by omega) (by omega)) (fun v4 hf => ?_)
  refine s_bipush (C _) dL_law_13 (v := (8 : Int32)) (by decide) ?_
  refine s_irem (C _) dL_law_15 hf (fun hf => ?_)
  refine s_istore_n (C _) dL_law_16 (by decide) (nc_r rfl) (lv' := [some (.ref b), some (rB (xD X).1 v1), some (.int (v4 - v4 / (8 : Int32) * (8 : Int32))), none, none, none, none, none, none, none, none, none, none, none, none, none, none, none, none, none, none, none, none, none, none, none, none, none, none]) rfl ?_
  refine s_iconst (C _) dL_law_17 (v := (1 : Int32)) (by decide) ?_
  refine L_newarray C0 (t := 28) (N := 1) rfl (by decide) wac_28 dL_law_18 (by decide) (by decide) (Nat.le_of_ble_eq_true rfl) hf (cell1 hX (by omega)) (cell2 hX (by omega)) (fun v5 h6 hf => ?_)
  refine s_dup (C _) dL_law_20 c1_r ?_
  refine s_iconst (C _) dL_law_21 (v := (0 : Int32)) (by decide) ?_
  refine s_bipush (C _) dL_law_22 (v := (48 : Int32)) (by decide) ?_
  refine s_iload_n (C _) dL_law_24 rfl ?_
  refine s_iadd (C _) dL_law_25 ?_
  refine L_iastore C0 dL_law_26 hf (fun h7 hf => ?_)
  refine s_astore_n (C _) dL_law_27 (by decide) (nc_i rfl) (lv' := [some (.ref b), some (rB (xD X).1 v1), some (.int (v4 - v4 / (8 : Int32) * (8 : Int32))), some (rB (xD X).1 v5), none, none, none, none, none, none, none, none, none, none, none, none, none, none, none, none, none, none, none, none, none, none, none, none, none]) rfl ?_
  refine s_bipush (C _) dL_law_28 (v := (16 : Int32)) (by decide) ?_
  refine L_newarray C0 (t := 28) (N := 16) rfl (by decide) wac_28 dL_law_30 (by decide) (by decide) (Nat.le_of_ble_eq_true rfl) hf (cell1 hX (by omega)) (cell2 hX (by omega)) (fun v8 h9 hf => ?_)
  refine s_dup (C _) dL_law_32 c1_r ?_
  refine s_iconst (C _) dL_law_33 (v := (0 : Int32)) (by decide) ?_
  refine s_bipush (C _) dL_law_34 (v := (107 : Int32)) (by decide) ?_
  refine L_iastore C0 dL_law_36 hf (fun h10 hf => ?_)
  refine s_dup (C _) dL_law_37 c1_r ?_
  refine s_iconst (C _) dL_law_38 (v := (1 : Int32)) (by decide) ?_
  refine s_bipush (C _) dL_law_39 (v := (105 : Int32)) (by decide) ?_
  refine L_iastore C0 dL_law_41 hf (fun h11 hf => ?_)
  refine s_dup (C _) dL_law_42 c1_r ?_
  refine s_iconst (C _) dL_law_43 (v := (2 : Int32)) (by decide) ?_
  refine s_bipush (C _) dL_law_44 (v := (110 : Int32)) (by decide) ?_
  refine L_iastore C0 dL_law_46 hf (fun h12 hf => ?_)
  refine s_dup (C _) dL_law_47 c1_r ?_
  refine s_iconst (C _) dL_law_48 (v := (3 : Int32)) (by decide) ?_
  refine s_bipush (C _) dL_law_49 (v := (100 : Int32)) (by decide) ?_
  refine L_iastore C0 dL_law_51 hf (fun h13 hf => ?_)
  refine s_dup (C _) dL_law_52 c1_r ?_
  refine s_iconst (C _) dL_law_53 (v := (4 : Int32)) (by decide) ?_
  refine s_bipush (C _) dL_law_54 (v := (61 : Int32)) (by decide) ?_
  refine L_iastore C0 dL_law_56 hf (fun h14 hf => ?_)
  refine s_dup (C _) dL_law_57 c1_r ?_
  refine s_iconst (C _) dL_law_58 (v := (5 : Int32)) (by decide) ?_
  refine s_bipush (C _) dL_law_59 (v := (49 : Int32)) (by decide) ?_
  refine L_iastore C0 dL_law_61 hf (fun h15 hf => ?_)
  refine s_dup (C _) dL_law_62 c1_r ?_
  refine s_bipush (C _) dL_law_63 (v := (6 : Int32)) (by decide) ?_
  refine s_bipush (C _) dL_law_65 (v := (32 : Int32)) (by decide) ?_
  refine L_iastore C0 dL_law_67 hf (fun h16 hf => ?_)
  refine s_dup (C _) dL_law_68 c1_r ?_
  refine s_bipush (C _) dL_law_69 (v := (7 : Int32)) (by decide) ?_
  refine s_bipush (C _) dL_law_71 (v := (111 : Int32)) (by decide) ?_
  refine L_iastore C0 dL_law_73 hf (fun h17 hf => ?_)
  refine s_dup (C _) dL_law_74 c1_r ?_
  refine s_bipush (C _) dL_law_75 (v := (8 : Int32)) (by decide) ?_
  refine s_bipush (C _) dL_law_77 (v := (114 : Int32)) (by decide) ?_
  refine L_iastore C0 dL_law_79 hf (fun h18 hf => ?_)
  refine s_dup (C _) dL_law_80 c1_r ?_
  refine s_bipush (C _) dL_law_81 (v := (9 : Int32)) (by decide) ?_
  refine s_bipush (C _) dL_law_83 (v := (32 : Int32)) (by decide) ?_
  refine L_iastore C0 dL_law_85 hf (fun h19 hf => ?_)
  refine s_dup (C _) dL_law_86 c1_r ?_
  refine s_bipush (C _) dL_law_87 (v := (10 : Int32)) (by decide) ?_
  refine s_bipush (C _) dL_law_89 (v := (104 : Int32)) (by decide) ?_
  refine L_iastore C0 dL_law_91 hf (fun h20 hf => ?_)
  refine s_dup (C _) dL_law_92 c1_r ?_
  refine s_bipush (C _) dL_law_93 (v := (11 : Int32)) (by decide) ?_
  refine s_bipush (C _) dL_law_95 (v := (111 : Int32)) (by decide) ?_
  refine L_iastore C0 dL_law_97 hf (fun h21 hf => ?_)
  refine s_dup (C _) dL_law_98 c1_r ?_
  refine s_bipush (C _) dL_law_99 (v := (12 : Int32)) (by decide) ?_
  refine s_bipush (C _) dL_law_101 (v := (109 : Int32)) (by decide) ?_
  refine L_iastore C0 dL_law_103 hf (fun h22 hf => ?_)
  refine s_dup (C _) dL_law_104 c1_r ?_
  refine s_bipush (C _) dL_law_105 (v := (13 : Int32)) (by decide) ?_
  refine s_bipush (C _) dL_law_107 (v := (101 : Int32)) (by decide) ?_
  refine L_iastore C0 dL_law_109 hf (fun h23 hf => ?_)
  refine s_dup (C _) dL_law_110 c1_r ?_
  refine s_bipush (C _) dL_law_111 (v := (14 : Int32)) (by decide) ?_
  refine s_bipush (C _) dL_law_113 (v := (60 : Int32)) (by decide) ?_
  refine L_iastore C0 dL_law_115 hf (fun h24 hf => ?_)
  refine s_dup (C _) dL_law_116 c1_r ?_
  refine s_bipush (C _) dL_law_117 (v := (15 : Int32)) (by decide) ?_
  refine s_bipush (C _) dL_law_119 (v := (52 : Int32)) (by decide) ?_
  refine L_iastore C0 dL_law_121 hf (fun h25 hf => ?_)
  refine s_astore (C _) dL_law_122 (by decide) (nc_r rfl) (lv' := [some (.ref b), some (rB (xD X).1 v1), some (.int (v4 - v4 / (8 : Int32) * (8 : Int32))), some (rB (xD X).1 v5), some (rB (xD X).1 v8), none, none, none, none, none, none, none, none, none, none, none, none, none, none, none, none, none, none, none, none, none, none, none, none]) rfl ?_
  refine s_bipush (C _) dL_law_124 (v := (16 : Int32)) (by decide) ?_
  refine L_newarray C0 (t := 28) (N := 16) rfl (by decide) wac_28 dL_law_126 (by decide) (by decide) (Nat.le_of_ble_eq_true rfl) hf (cell1 hX (by omega)) (cell2 hX (by omega)) (fun v26 h27 hf => ?_)
  refine s_dup (C _) dL_law_128 c1_r ?_
  refine s_iconst (C _) dL_law_129 (v := (0 : Int32)) (by decide) ?_
  refine s_bipush (C _) dL_law_130 (v := (117 : Int32)) (by decide) ?_
  refine L_iastore C0 dL_law_132 hf (fun h28 hf => ?_)
  refine s_dup (C _) dL_law_133 c1_r ?_
  refine s_iconst (C _) dL_law_134 (v := (1 : Int32)) (by decide) ?_
  refine s_bipush (C _) dL_law_135 (v := (110 : Int32)) (by decide) ?_
  refine L_iastore C0 dL_law_137 hf (fun h29 hf => ?_)
  refine s_dup (C _) dL_law_138 c1_r ?_
  refine s_iconst (C _) dL_law_139 (v := (2 : Int32)) (by decide) ?_
  refine s_bipush (C _) dL_law_140 (v := (108 : Int32)) (by decide) ?_
  refine L_iastore C0 dL_law_142 hf (fun h30 hf => ?_)
  refine s_dup (C _) dL_law_143 c1_r ?_
  refine s_iconst (C _) dL_law_144 (v := (3 : Int32)) (by decide) ?_
  refine s_bipush (C _) dL_law_145 (v := (101 : Int32)) (by decide) ?_
  refine L_iastore C0 dL_law_147 hf (fun h31 hf => ?_)
  refine s_dup (C _) dL_law_148 c1_r ?_
  refine s_iconst (C _) dL_law_149 (v := (4 : Int32)) (by decide) ?_
  refine s_bipush (C _) dL_law_150 (v := (115 : Int32)) (by decide) ?_
  refine L_iastore C0 dL_law_152 hf (fun h32 hf => ?_)
  refine s_dup (C _) dL_law_153 c1_r ?_
  refine s_iconst (C _) dL_law_154 (v := (5 : Int32)) (by decide) ?_
  refine s_bipush (C _) dL_law_155 (v := (115 : Int32)) (by decide) ?_
  refine L_iastore C0 dL_law_157 hf (fun h33 hf => ?_)
  refine s_dup (C _) dL_law_158 c1_r ?_
  refine s_bipush (C _) dL_law_159 (v := (6 : Int32)) (by decide) ?_
  refine s_bipush (C _) dL_law_161 (v := (32 : Int32)) (by decide) ?_
  refine L_iastore C0 dL_law_163 hf (fun h34 hf => ?_)
  refine s_dup (C _) dL_law_164 c1_r ?_
  refine s_bipush (C _) dL_law_165 (v := (7 : Int32)) (by decide) ?_
  refine s_bipush (C _) dL_law_167 (v := (111 : Int32)) (by decide) ?_
  refine L_iastore C0 dL_law_169 hf (fun h35 hf => ?_)
  refine s_dup (C _) dL_law_170 c1_r ?_
  refine s_bipush (C _) dL_law_171 (v := (8 : Int32)) (by decide) ?_
  refine s_bipush (C _) dL_law_173 (v := (119 : Int32)) (by decide) ?_
  refine L_iastore C0 dL_law_175 hf (fun h36 hf => ?_)
  refine s_dup (C _) dL_law_176 c1_r ?_
  refine s_bipush (C _) dL_law_177 (v := (9 : Int32)) (by decide) ?_
  refine s_bipush (C _) dL_law_179 (v := (110 : Int32)) (by decide) ?_
  refine L_iastore C0 dL_law_181 hf (fun h37 hf => ?_)
  refine s_dup (C _) dL_law_182 c1_r ?_
  refine s_bipush (C _) dL_law_183 (v := (10 : Int32)) (by decide) ?_
  refine s_bipush (C _) dL_law_185 (v := (60 : Int32)) (by decide) ?_
  refine L_iastore C0 dL_law_187 hf (fun h38 hf => ?_)
  refine s_dup (C _) dL_law_188 c1_r ?_
  refine s_bipush (C _) dL_law_189 (v := (11 : Int32)) (by decide) ?_
  refine s_bipush (C _) dL_law_191 (v := (51 : Int32)) (by decide) ?_
  refine L_iastore C0 dL_law_193 hf (fun h39 hf => ?_)
  refine s_dup (C _) dL_law_194 c1_r ?_
  refine s_bipush (C _) dL_law_195 (v := (12 : Int32)) (by decide) ?_
  refine s_bipush (C _) dL_law_197 (v := (58 : Int32)) (by decide) ?_
  refine L_iastore C0 dL_law_199 hf (fun h40 hf => ?_)
  refine s_dup (C _) dL_law_200 c1_r ?_
  refine s_bipush (C _) dL_law_201 (v := (13 : Int32)) (by decide) ?_
  refine s_bipush (C _) dL_law_203 (v := (48 : Int32)) (by decide) ?_
  refine L_iastore C0 dL_law_205 hf (fun h41 hf => ?_)
  refine s_dup (C _) dL_law_206 c1_r ?_
  refine s_bipush (C _) dL_law_207 (v := (14 : Int32)) (by decide) ?_
  refine s_bipush (C _) dL_law_209 (v := (59 : Int32)) (by decide) ?_
  refine L_iastore C0 dL_law_211 hf (fun h42 hf => ?_)
  refine s_dup (C _) dL_law_212 c1_r ?_
  refine s_bipush (C _) dL_law_213 (v := (15 : Int32)) (by decide) ?_
  refine s_bipush (C _) dL_law_215 (v := (49 : Int32)) (by decide) ?_
  refine L_iastore C0 dL_law_217 hf (fun h43 hf => ?_)
  refine s_astore (C _) dL_law_218 (by decide) (nc_r rfl) (lv' := [some (.ref b), some (rB (xD X).1 v1), some (.int (v4 - v4 / (8 : Int32) * (8 : Int32))), some (rB (xD X).1 v5), some (rB (xD X).1 v8), some (rB (xD X).1 v26), none, none, none, none, none, none, none, none, none, none, none, none, none, none, none, none, none, none, none, none, none, none, none]) rfl ?_
  refine s_aload_n (C _) dL_law_220 rfl ?_
  refine s_aload_n (C _) dL_law_221 rfl ?_
  refine s_iconst (C _) dL_law_222 (v := (1 : Int32)) (by decide) ?_
  refine s_callSL (rvf := fun x => some (.int x)) (st := []) (fr := 3) (lo := 67) (mc := 0) (ms := 0) (C _) wc_L_tell wml_L_33 wst_L_tell dL_law_223 (As := [.inr (.inr v1), .inr (.inr v5), .inl (1 : Int32)]) rfl hf (fun x h' hF => c_L_tell _ _ _ _ _ _ _ rfl (x, h') hF) rfl (Nat.le_of_ble_eq_true rfl) (room_ok hX (Nat.le_of_ble_eq_true rfl) (Nat.le_of_ble_eq_true rfl)) (cell_ok hX (by omega) (by omega)) (fun v45 h44 hf => ?_)
  refine s_jn hf (fun j283 e283 hf => ?_)
  have k283 : ∀ (h46 : AH), j283 h46 = some r → WW (sF X h46) h46 52 7196 283 [none, none, none, none, none, none, none, none, none, none, none, none, none, none, none, none, none, none, none, none, none, none, none, none, none, none, none, none, none] [] := by
    intro h46 hf
    rw [e283] at hf
    refine s_iconst (C _) dL_law_283 (v := (0 : Int32)) (by decide) ?_
    exact L_lawret C0 E0 h1 dL_law_284 hf (by omega) (by omega)
  refine s_if_eq (tgt := 283) (C _) dL_law_226 (by decide) hf (fun hf => ?_) (fun hf => ?_)
  · refine s_weak (lv' := [none, none, none, none, none, none, none, none, none, none, none, none, none, none, none, none, none, none, none, none, none, none, none, none, none, none, none, none, none]) trivial ?_
    exact k283 _ hf
  · refine s_aload_n (C _) dL_law_229 rfl ?_
    refine s_iconst (C _) dL_law_230 (v := (0 : Int32)) (by decide) ?_
    refine s_iconst (C _) dL_law_231 (v := (0 : Int32)) (by decide) ?_
    refine s_callVL (rvf := fun x => some (.int x)) (st := []) (fr := 106) (lo := 6128) (mc := 0) (ms := 0) (C _) [11] wc_X11_rule wml_L_37 wim_X11_rule wsl_11_X11_rule dL_law_232 (As := [.inl (0 : Int32), .inl (0 : Int32)]) rfl hf (fun x h' hF => c_X11_rule _ _ _ _ _ _ (x, h') hF) rfl (Nat.le_of_ble_eq_true rfl) (room_ok hX (Nat.le_of_ble_eq_true rfl) (Nat.le_of_ble_eq_true rfl)) (cell_ok hX (by omega) (by omega)) (fun v48 h47 hf => ?_)
    refine s_if_ne (tgt := 283) (C _) dL_law_235 (by decide) hf (fun hf => ?_) (fun hf => ?_)
    · refine s_weak (lv' := [none, none, none, none, none, none, none, none, none, none, none, none, none, none, none, none, none, none, none, none, none, none, none, none, none, none, none, none, none]) trivial ?_
      exact k283 _ hf
    · refine s_aload_n (C _) dL_law_238 rfl ?_
      refine s_aload (C _) dL_law_239 rfl ?_
      refine s_aload (C _) dL_law_241 rfl ?_
      refine L_alen C0 dL_law_243 hf (fun v49 hf => ?_)
      refine s_callSL (rvf := fun x => some (.int x)) (st := []) (fr := 3) (lo := 67) (mc := 0) (ms := 0) (C _) wc_L_tell wml_L_33 wst_L_tell dL_law_244 (As := [.inr (.inr v1), .inr (.inr v8), .inl v49]) rfl hf (fun x h' hF => c_L_tell _ _ _ _ _ _ _ rfl (x, h') hF) rfl (Nat.le_of_ble_eq_true rfl) (room_ok hX (Nat.le_of_ble_eq_true rfl) (Nat.le_of_ble_eq_true rfl)) (cell_ok hX (by omega) (by omega)) (fun v51 h50 hf => ?_)
      refine s_if_eq (tgt := 283) (C _) dL_law_247 (by decide) hf (fun hf => ?_) (fun hf => ?_)
      · refine s_weak (lv' := [none, none, none, none, none, none, none, none, none, none, none, none, none, none, none, none, none, none, none, none, none, none, none, none, none, none, none, none, none]) trivial ?_
        exact k283 _ hf
      · refine s_aload_n (C _) dL_law_250 rfl ?_
        refine s_bipush (C _) dL_law_251 (v := (13 : Int32)) (by decide) ?_
        refine s_iconst (C _) dL_law_253 (v := (0 : Int32)) (by decide) ?_
        refine s_callVL (rvf := fun x => some (.int x)) (st := []) (fr := 106) (lo := 6128) (mc := 0) (ms := 0) (C _) [11] wc_X11_rule wml_L_37 wim_X11_rule wsl_11_X11_rule dL_law_254 (As := [.inl (13 : Int32), .inl (0 : Int32)]) rfl hf (fun x h' hF => c_X11_rule _ _ _ _ _ _ (x, h') hF) rfl (Nat.le_of_ble_eq_true rfl) (room_ok hX (Nat.le_of_ble_eq_true rfl) (Nat.le_of_ble_eq_true rfl)) (cell_ok hX (by omega) (by omega)) (fun v53 h52 hf => ?_)
        refine s_iconst (C _) dL_law_257 (v := (1 : Int32)) (by decide) ?_
        refine s_icmp_ne (tgt := 283) (C _) dL_law_258 (by decide) hf (fun hf => ?_) (fun hf => ?_)
        · refine s_weak (lv' := [none, none, none, none, none, none, none, none, none, none, none, none, none, none, none, none, none, none, none, none, none, none, none, none, none, none, none, none, none]) trivial ?_
          exact k283 _ hf
        · refine s_aload_n (C _) dL_law_261 rfl ?_
          refine s_aload (C _) dL_law_262 rfl ?_
          refine s_aload (C _) dL_law_264 rfl ?_
          refine L_alen C0 dL_law_266 hf (fun v54 hf => ?_)
          refine s_callSL (rvf := fun x => some (.int x)) (st := []) (fr := 3) (lo := 67) (mc := 0) (ms := 0) (C _) wc_L_tell wml_L_33 wst_L_tell dL_law_267 (As := [.inr (.inr v1), .inr (.inr v26), .inl v54]) rfl hf (fun x h' hF => c_L_tell _ _ _ _ _ _ _ rfl (x, h') hF) rfl (Nat.le_of_ble_eq_true rfl) (room_ok hX (Nat.le_of_ble_eq_true rfl) (Nat.le_of_ble_eq_true rfl)) (cell_ok hX (by omega) (by omega)) (fun v56 h55 hf => ?_)
          refine s_if_eq (tgt := 283) (C _) dL_law_270 (by decide) hf (fun hf => ?_) (fun hf => ?_)
          · refine s_weak (lv' := [none, none, none, none, none, none, none, none, none, none, none, none, none, none, none, none, none, none, none, none, none, none, none, none, none, none, none, none, none]) trivial ?_
            exact k283 _ hf
          · refine s_aload_n (C _) dL_law_273 rfl ?_
            refine s_iconst (C _) dL_law_274 (v := (1 : Int32)) (by decide) ?_
            refine s_iconst (C _) dL_law_275 (v := (0 : Int32)) (by decide) ?_
            refine s_callVL (rvf := fun x => some (.int x)) (st := []) (fr := 106) (lo := 6128) (mc := 0) (ms := 0) (C _) [11] wc_X11_rule wml_L_37 wim_X11_rule wsl_11_X11_rule dL_law_276 (As := [.inl (1 : Int32), .inl (0 : Int32)]) rfl hf (fun x h' hF => c_X11_rule _ _ _ _ _ _ (x, h') hF) rfl (Nat.le_of_ble_eq_true rfl) (room_ok hX (Nat.le_of_ble_eq_true rfl) (Nat.le_of_ble_eq_true rfl)) (cell_ok hX (by omega) (by omega)) (fun v58 h57 hf => ?_)
            refine s_iconst (C _) dL_law_279 (v := (2 : Int32)) (by decide) ?_
            refine s_icmp_eq (tgt := 285) (C _) dL_law_280 (by decide) hf (fun hf => ?_) (fun hf => ?_)
            · refine s_iconst (C _) dL_law_285 (v := (0 : Int32)) (by decide) ?_
              refine s_istore (C _) dL_law_286 (by decide) (nc_r rfl) (lv' := [some (.ref b), some (rB (xD X).1 v1), some (.int (v4 - v4 / (8 : Int32) * (8 : Int32))), some (rB (xD X).1 v5), some (rB (xD X).1 v8), some (rB (xD X).1 v26), some (.int (0 : Int32)), none, none, none, none, none, none, none, none, none, none, none, none, none, none, none, none, none, none, none, none, none, none]) rfl ?_
              refine s_lp2 hf (fun G288 z288 q288 hf => ?_)
              have k288 : ∀ (n k288 : Nat) (x59 : Int32) (h60 : AH), k288 ≤ 3 → x59 = nI (k288) → G288 n x59 h60 = some r → WW (sF X h60) h60 (52 + 1 * k288) (7196 + 5 * k288) 288 [some (.ref b), some (rB (xD X).1 v1), some (.int (v4 - v4 / (8 : Int32) * (8 : Int32))), none, none, none, some (.int x59), none, none, none, none, none, none, none, none, none, none, none, none, none, none, none, none, none, none, none, none, none, none] [] := by
                intro n
                induction n with
                | zero =>
                  intro k288 x59 h60 _ _ hf
                  rw [z288] at hf
                  cases hf
                | succ n ih288 =>
                  intro k288 x59 h60 hk288 ex288 hf
                  have hf := (q288 n x59 h60).symm.trans hf
                  refine s_iload (C _) dL_law_288 rfl ?_
                  refine s_iconst (C _) dL_law_290 (v := (3 : Int32)) (by decide) ?_
                  refine s_icmp_geC (tgt := 322) (C _) dL_law_291 (by decide) hf (fun hc hf => ?_) (fun hc hf => ?_)
                  · refine s_widen (c := 55) (s := 7211) (by omega) (by omega) ?_
                    refine s_bipush (C _) dL_law_322 (v := (60 : Int32)) (by decide) ?_
                    refine L_newarray C0 (t := 28) (N := 60) rfl (by decide) wac_28 dL_law_324 (by decide) (by decide) (Nat.le_of_ble_eq_true rfl) hf (cell1 hX (by omega)) (cell2 hX (by omega)) (fun v61 h62 hf => ?_)
                    refine s_astore (C _) dL_law_326 (by decide) (nc_n rfl) (lv' := [some (.ref b), some (rB (xD X).1 v1), some (.int (v4 - v4 / (8 : Int32) * (8 : Int32))), none, none, none, some (rB (xD X).1 v61), none, none, none, none, none, none, none, none, none, none, none, none, none, none, none, none, none, none, none, none, none, none]) rfl ?_
                    refine s_iconst (C _) dL_law_328 (v := (0 : Int32)) (by decide) ?_
                    refine s_istore (C _) dL_law_329 (by decide) (nc_r rfl) (lv' := [some (.ref b), some (rB (xD X).1 v1), some (.int (v4 - v4 / (8 : Int32) * (8 : Int32))), none, none, none, some (rB (xD X).1 v61), some (.int (0 : Int32)), none, none, none, none, none, none, none, none, none, none, none, none, none, none, none, none, none, none, none, none, none]) rfl ?_
                    refine s_lp2 hf (fun G331 z331 q331 hf => ?_)
                    have k331 : ∀ (n : Nat) (x63 : Int32) (h64 : AH), G331 n x63 h64 = some r → WW (sF X h64) h64 56 7271 331 [some (.ref b), some (rB (xD X).1 v1), some (.int (v4 - v4 / (8 : Int32) * (8 : Int32))), none, none, none, some (rB (xD X).1 v61), some (.int x63), none, none, none, none, none, none, none, none, none, none, none, none, none, none, none, none, none, none, none, none, none] [] := by
                      intro n
                      induction n with
                      | zero =>
                        intro x63 h64 hf
                        rw [z331] at hf
                        cases hf
                      | succ n ih331 =>
                        intro x63 h64 hf
                        have hf := (q331 n x63 h64).symm.trans hf
                        refine s_iload (C _) dL_law_331 rfl ?_
                        refine s_bipush (C _) dL_law_333 (v := (60 : Int32)) (by decide) ?_
                        refine s_icmp_ge (tgt := 408) (C _) dL_law_335 (by decide) hf (fun hf => ?_) (fun hf => ?_)
                        · refine s_bipush (C _) dL_law_408 (v := (60 : Int32)) (by decide) ?_
                          refine L_newarray C0 (t := 28) (N := 60) rfl (by decide) wac_28 dL_law_410 (by decide) (by decide) (Nat.le_of_ble_eq_true rfl) hf (cell1 hX (by omega)) (cell2 hX (by omega)) (fun v65 h66 hf => ?_)
                          refine s_astore (C _) dL_law_412 (by decide) (nc_r rfl) (lv' := [some (.ref b), some (rB (xD X).1 v1), some (.int (v4 - v4 / (8 : Int32) * (8 : Int32))), none, none, none, some (rB (xD X).1 v61), some (rB (xD X).1 v65), none, none, none, none, none, none, none, none, none, none, none, none, none, none, none, none, none, none, none, none, none]) rfl ?_
                          refine s_iconst (C _) dL_law_414 (v := (3 : Int32)) (by decide) ?_
                          refine L_newarray C0 (t := 28) (N := 3) rfl (by decide) wac_28 dL_law_415 (by decide) (by decide) (Nat.le_of_ble_eq_true rfl) hf (cell1 hX (by omega)) (cell2 hX (by omega)) (fun v67 h68 hf => ?_)
                          refine s_astore (C _) dL_law_417 (by decide) (nc_r rfl) (lv' := [some (.ref b), some (rB (xD X).1 v1), some (.int (v4 - v4 / (8 : Int32) * (8 : Int32))), none, none, none, some (rB (xD X).1 v61), some (rB (xD X).1 v65), some (rB (xD X).1 v67), none, none, none, none, none, none, none, none, none, none, none, none, none, none, none, none, none, none, none, none]) rfl ?_
                          refine s_bipush (C _) dL_law_419 (v := (60 : Int32)) (by decide) ?_
                          refine s_iconst (C _) dL_law_421 (v := (5 : Int32)) (by decide) ?_
                          refine L_multi C0 wcl_L_46 hO wac_20 dL_law_422 hf (cell1k hX (by omega)) (cell2k hX (by omega)) (fun v69 h70 hf => ?_)
                          refine s_astore (C _) dL_law_426 (by decide) (nc_r rfl) (lv' := [some (.ref b), some (rB (xD X).1 v1), some (.int (v4 - v4 / (8 : Int32) * (8 : Int32))), none, none, none, some (rB (xD X).1 v61), some (rB (xD X).1 v65), some (rB (xD X).1 v67), some (rB (xD X).1 v69), none, none, none, none, none, none, none, none, none, none, none, none, none, none, none, none, none, none, none]) rfl ?_
                          refine s_bipush (C _) dL_law_428 (v := (60 : Int32)) (by decide) ?_
                          refine L_newarray C0 (t := 28) (N := 60) rfl (by decide) wac_28 dL_law_430 (by decide) (by decide) (Nat.le_of_ble_eq_true rfl) hf (cell1 hX (by omega)) (cell2 hX (by omega)) (fun v71 h72 hf => ?_)
                          refine s_astore (C _) dL_law_432 (by decide) (nc_r rfl) (lv' := [some (.ref b), some (rB (xD X).1 v1), some (.int (v4 - v4 / (8 : Int32) * (8 : Int32))), none, none, none, some (rB (xD X).1 v61), some (rB (xD X).1 v65), some (rB (xD X).1 v67), some (rB (xD X).1 v69), some (rB (xD X).1 v71), none, none, none, none, none, none, none, none, none, none, none, none, none, none, none, none, none, none]) rfl ?_
                          refine s_bipush (C _) dL_law_434 (v := (60 : Int32)) (by decide) ?_
                          refine L_newarray C0 (t := 30) (N := 60) rfl (by decide) wac_30 dL_law_436 (by decide) (by decide) (Nat.le_of_ble_eq_true rfl) hf (cell1 hX (by omega)) (cell2 hX (by omega)) (fun v73 h74 hf => ?_)
                          refine s_astore (C _) dL_law_438 (by decide) (nc_r rfl) (lv' := [some (.ref b), some (rB (xD X).1 v1), some (.int (v4 - v4 / (8 : Int32) * (8 : Int32))), none, none, none, some (rB (xD X).1 v61), some (rB (xD X).1 v65), some (rB (xD X).1 v67), some (rB (xD X).1 v69), some (rB (xD X).1 v71), some (rB (xD X).1 v73), none, none, none, none, none, none, none, none, none, none, none, none, none, none, none, none, none]) rfl ?_
                          refine s_iconst (C _) dL_law_440 (v := (0 : Int32)) (by decide) ?_
                          refine s_istore (C _) dL_law_441 (by decide) (nc_r rfl) (lv' := [some (.ref b), some (rB (xD X).1 v1), some (.int (v4 - v4 / (8 : Int32) * (8 : Int32))), none, none, none, some (rB (xD X).1 v61), some (rB (xD X).1 v65), some (rB (xD X).1 v67), some (rB (xD X).1 v69), some (rB (xD X).1 v71), some (rB (xD X).1 v73), some (.int (0 : Int32)), none, none, none, none, none, none, none, none, none, none, none, none, none, none, none, none]) rfl ?_
                          refine s_bipush (C _) dL_law_443 (v := (24 : Int32)) (by decide) ?_
                          refine s_istore (C _) dL_law_445 (by decide) (nc_i rfl) (lv' := [some (.ref b), some (rB (xD X).1 v1), some (.int (v4 - v4 / (8 : Int32) * (8 : Int32))), none, none, none, some (rB (xD X).1 v61), some (rB (xD X).1 v65), some (rB (xD X).1 v67), some (rB (xD X).1 v69), some (rB (xD X).1 v71), some (rB (xD X).1 v73), some (.int (0 : Int32)), some (.int (24 : Int32)), none, none, none, none, none, none, none, none, none, none, none, none, none, none, none]) rfl ?_
                          refine s_lp3 hf (fun G447 z447 q447 hf => ?_)
                          have k447 : ∀ (n k447 : Nat) (x75 : Int32) (x76 : Int32) (h77 : AH), k447 ≤ 56 → x76 = nI (24 + k447) → G447 n x75 x76 h77 = some r → WW (sF X h77) h77 (121 + 12 * k447) (7814 + 135 * k447) 447 [some (.ref b), some (rB (xD X).1 v1), some (.int (v4 - v4 / (8 : Int32) * (8 : Int32))), none, none, none, some (rB (xD X).1 v61), some (rB (xD X).1 v65), some (rB (xD X).1 v67), some (rB (xD X).1 v69), some (rB (xD X).1 v71), some (rB (xD X).1 v73), some (.int x75), some (.int x76), none, none, none, none, none, none, none, none, none, none, none, none, none, none, none] [] := by
                            intro n
                            induction n with
                            | zero =>
                              intro k447 x75 x76 h77 _ _ hf
                              rw [z447] at hf
                              cases hf
                            | succ n ih447 =>
                              intro k447 x75 x76 h77 hk447 ex447 hf
                              have hf := (q447 n x75 x76 h77).symm.trans hf
                              refine s_iload (C _) dL_law_447 rfl ?_
                              refine s_bipush (C _) dL_law_449 (v := (80 : Int32)) (by decide) ?_
                              refine s_icmp_geC (tgt := 1172) (C _) dL_law_451 (by decide) hf (fun hc hf => ?_) (fun hc hf => ?_)
                              · refine s_widen (c := 793) (s := 15374) (by omega) (by omega) ?_
                                refine s_aload_n (C _) dL_law_1172 rfl ?_
                                refine s_iconst (C _) dL_law_1173 (v := (0 : Int32)) (by decide) ?_
                                refine s_iconst (C _) dL_law_1174 (v := (3 : Int32)) (by decide) ?_
                                refine s_iconst (C _) dL_law_1175 (v := (5 : Int32)) (by decide) ?_
                                refine s_callVL (rvf := fun x => some (.int x)) (st := []) (fr := 7) (lo := 174) (mc := 11) (ms := 132) (C _) [11] wc_X11_hide wml_L_64 wim_X11_hide wsl_11_X11_hide dL_law_1176 (As := [.inl (0 : Int32), .inl (3 : Int32), .inl (5 : Int32)]) rfl hf (fun x h' hF => c_X11_hide _ _ _ _ _ _ _ (x, h') hF) rfl (Nat.le_of_ble_eq_true rfl) (room_ok hX (Nat.le_of_ble_eq_true rfl) (Nat.le_of_ble_eq_true rfl)) (cell_ok hX (by omega) (by omega)) (fun v79 h78 hf => ?_)
                                refine s_iconst (C _) dL_law_1179 (v := (-1 : Int32)) (by decide) ?_
                                refine s_jn hf (fun j1212 e1212 hf => ?_)
                                have k1212 : ∀ (x80 : Int32) (h81 : AH), j1212 x80 h81 = some r → WW (sF X h81) h81 815 15638 1212 [none, none, none, none, none, none, none, none, none, none, none, none, none, none, none, none, none, none, none, none, none, none, none, none, none, none, none, none, none] [.int x80] := by
                                  intro x80 h81 hf
                                  rw [e1212] at hf
                                  exact L_lawret C0 E0 h1 dL_law_1212 hf (by omega) (by omega)
                                refine s_jn hf (fun j1211 e1211 hf => ?_)
                                have k1211 : ∀ (h82 : AH), j1211 h82 = some r → WW (sF X h82) h82 815 15638 1211 [none, none, none, none, none, none, none, none, none, none, none, none, none, none, none, none, none, none, none, none, none, none, none, none, none, none, none, none, none] [] := by
                                  intro h82 hf
                                  rw [e1211] at hf
                                  refine s_iconst (C _) dL_law_1211 (v := (0 : Int32)) (by decide) ?_
                                  exact k1212 _ _ hf
                                refine s_icmp_ne (tgt := 1211) (C _) dL_law_1180 (by decide) hf (fun hf => ?_) (fun hf => ?_)
                                · refine s_widen (c := 815) (s := 15638) (by omega) (by omega) ?_
                                  refine s_weak (lv' := [none, none, none, none, none, none, none, none, none, none, none, none, none, none, none, none, none, none, none, none, none, none, none, none, none, none, none, none, none]) trivial ?_
                                  exact k1211 _ hf
                                · refine s_aload_n (C _) dL_law_1183 rfl ?_
                                  refine s_iconst (C _) dL_law_1184 (v := (3 : Int32)) (by decide) ?_
                                  refine s_iconst (C _) dL_law_1185 (v := (1 : Int32)) (by decide) ?_
                                  refine s_iconst (C _) dL_law_1186 (v := (5 : Int32)) (by decide) ?_
                                  refine s_callVL (rvf := fun x => some (.int x)) (st := []) (fr := 7) (lo := 174) (mc := 11) (ms := 132) (C _) [11] wc_X11_hide wml_L_64 wim_X11_hide wsl_11_X11_hide dL_law_1187 (As := [.inl (3 : Int32), .inl (1 : Int32), .inl (5 : Int32)]) rfl hf (fun x h' hF => c_X11_hide _ _ _ _ _ _ _ (x, h') hF) rfl (Nat.le_of_ble_eq_true rfl) (room_ok hX (Nat.le_of_ble_eq_true rfl) (Nat.le_of_ble_eq_true rfl)) (cell_ok hX (by omega) (by omega)) (fun v84 h83 hf => ?_)
                                  refine s_iconst (C _) dL_law_1190 (v := (-1 : Int32)) (by decide) ?_
                                  refine s_icmp_ne (tgt := 1211) (C _) dL_law_1191 (by decide) hf (fun hf => ?_) (fun hf => ?_)
                                  · refine s_weak (lv' := [none, none, none, none, none, none, none, none, none, none, none, none, none, none, none, none, none, none, none, none, none, none, none, none, none, none, none, none, none]) trivial ?_
                                    exact k1211 _ hf
                                  · refine s_aload_n (C _) dL_law_1194 rfl ?_
                                    refine s_iconst (C _) dL_law_1195 (v := (0 : Int32)) (by decide) ?_
                                    refine s_bipush (C _) dL_law_1196 (v := (6 : Int32)) (by decide) ?_
                                    refine s_iconst (C _) dL_law_1198 (v := (5 : Int32)) (by decide) ?_
                                    refine s_iconst (C _) dL_law_1199 (v := (0 : Int32)) (by decide) ?_
                                    refine s_callVL (rvf := fun x => some (.int x)) (st := []) (fr := 7) (lo := 174) (mc := 0) (ms := 0) (C _) [11] wc_X11_why wml_L_60 wim_X11_why wsl_11_X11_why dL_law_1200 (As := [.inl (0 : Int32), .inl (6 : Int32), .inl (5 : Int32), .inl (0 : Int32)]) rfl hf (fun x h' hF => c_X11_why _ _ _ _ _ _ _ _ (x, h') hF) rfl (Nat.le_of_ble_eq_true rfl) (room_ok hX (Nat.le_of_ble_eq_true rfl) (Nat.le_of_ble_eq_true rfl)) (cell_ok hX (by omega) (by omega)) (fun v86 h85 hf => ?_)
                                    refine s_iconst (C _) dL_law_1203 (v := (-1 : Int32)) (by decide) ?_
                                    refine s_icmp_ne (tgt := 1211) (C _) dL_law_1204 (by decide) hf (fun hf => ?_) (fun hf => ?_)
                                    · refine s_weak (lv' := [none, none, none, none, none, none, none, none, none, none, none, none, none, none, none, none, none, none, none, none, none, none, none, none, none, none, none, none, none]) trivial ?_
                                      exact k1211 _ hf
                                    · refine s_iconst (C _) dL_law_1207 (v := (1 : Int32)) (by decide) ?_
                                      refine s_goto (tgt := 1212) (C _) dL_law_1208 (by decide) ?_
                                      refine s_weak (lv' := [none, none, none, none, none, none, none, none, none, none, none, none, none, none, none, none, none, none, none, none, none, none, none, none, none, none, none, none, none]) trivial ?_
                                      exact k1212 _ _ hf
                              · have hb447 : k447 < 56 := by
                                  have : ¬ 80 ≤ 24 + k447 := fun q => hc (by rw [ex447]; exact nI_le (a := 80) q (by omega))
                                  omega
                                refine r_aload (C _) dL_law_454 rfl ?_
                                refine s_iload (C _) dL_law_455 rfl ?_
                                refine L_cell (C _) hx wc_L_cell wml_L_27 wst_L_cell dL_law_457 (stk := [.int x76, .ref b]) rfl hf (Nat.le_of_ble_eq_true rfl) (room_ok hX (Nat.le_of_ble_eq_true rfl) (Nat.le_of_ble_eq_true rfl)) (cell_ok hX (by omega) (by omega)) (fun v87 hf => ?_)
                                refine s_istore (C _) dL_law_460 (by decide) (nc_i rfl) (lv' := [some (.ref b), some (rB (xD X).1 v1), some (.int (v4 - v4 / (8 : Int32) * (8 : Int32))), none, none, none, some (rB (xD X).1 v61), some (rB (xD X).1 v65), some (rB (xD X).1 v67), some (rB (xD X).1 v69), some (rB (xD X).1 v71), some (rB (xD X).1 v73), some (.int x75), some (.int x76), some (.int v87), none, none, none, none, none, none, none, none, none, none, none, none, none, none]) rfl ?_
                                refine s_iload (C _) dL_law_462 rfl ?_
                                refine s_iconst (C _) dL_law_464 (v := (3 : Int32)) (by decide) ?_
                                refine s_iand (C _) dL_law_465 ?_
                                refine s_iconst (C _) dL_law_466 (v := (3 : Int32)) (by decide) ?_
                                refine s_irem (C _) dL_law_467 hf (fun hf => ?_)
                                refine s_istore (C _) dL_law_468 (by decide) (nc_i rfl) (lv' := [some (.ref b), some (rB (xD X).1 v1), some (.int (v4 - v4 / (8 : Int32) * (8 : Int32))), none, none, none, some (rB (xD X).1 v61), some (rB (xD X).1 v65), some (rB (xD X).1 v67), some (rB (xD X).1 v69), some (rB (xD X).1 v71), some (rB (xD X).1 v73), some (.int x75), some (.int x76), some (.int v87), some (.int ((v87 &&& (3 : Int32)) - (v87 &&& (3 : Int32)) / (3 : Int32) * (3 : Int32))), none, none, none, none, none, none, none, none, none, none, none, none, none]) rfl ?_
                                refine s_iconst (C _) dL_law_470 (v := (1 : Int32)) (by decide) ?_
                                refine s_iload (C _) dL_law_471 rfl ?_
                                refine s_iconst (C _) dL_law_473 (v := (2 : Int32)) (by decide) ?_
                                refine s_ishr (C _) dL_law_474 ?_
                                refine s_bipush (C _) dL_law_475 (v := (7 : Int32)) (by decide) ?_
                                refine s_iand (C _) dL_law_477 ?_
                                refine s_iconst (C _) dL_law_478 (v := (5 : Int32)) (by decide) ?_
                                refine s_irem (C _) dL_law_479 hf (fun hf => ?_)
                                refine s_iadd (C _) dL_law_480 ?_
                                refine s_istore (C _) dL_law_481 (by decide) (nc_i rfl) (lv' := [some (.ref b), some (rB (xD X).1 v1), some (.int (v4 - v4 / (8 : Int32) * (8 : Int32))), none, none, none, some (rB (xD X).1 v61), some (rB (xD X).1 v65), some (rB (xD X).1 v67), some (rB (xD X).1 v69), some (rB (xD X).1 v71), some (rB (xD X).1 v73), some (.int x75), some (.int x76), some (.int v87), some (.int ((v87 &&& (3 : Int32)) - (v87 &&& (3 : Int32)) / (3 : Int32) * (3 : Int32))), some (.int ((1 : Int32) + (((v87 >>> ((2 : Int32) &&& 31)) &&& (7 : Int32)) - ((v87 >>> ((2 : Int32) &&& 31)) &&& (7 : Int32)) / (5 : Int32) * (5 : Int32)))), none, none, none, none, none, none, none, none, none, none, none, none]) rfl ?_
                                refine s_iload (C _) dL_law_483 rfl ?_
                                refine s_iconst (C _) dL_law_485 (v := (5 : Int32)) (by decide) ?_
                                refine s_ishr (C _) dL_law_486 ?_
                                refine s_bipush (C _) dL_law_487 (v := (60 : Int32)) (by decide) ?_
                                refine s_irem (C _) dL_law_489 hf (fun hf => ?_)
                                refine s_istore (C _) dL_law_490 (by decide) (nc_i rfl) (lv' := [some (.ref b), some (rB (xD X).1 v1), some (.int (v4 - v4 / (8 : Int32) * (8 : Int32))), none, none, none, some (rB (xD X).1 v61), some (rB (xD X).1 v65), some (rB (xD X).1 v67), some (rB (xD X).1 v69), some (rB (xD X).1 v71), some (rB (xD X).1 v73), some (.int x75), some (.int x76), some (.int v87), some (.int ((v87 &&& (3 : Int32)) - (v87 &&& (3 : Int32)) / (3 : Int32) * (3 : Int32))), some (.int ((1 : Int32) + (((v87 >>> ((2 : Int32) &&& 31)) &&& (7 : Int32)) - ((v87 >>> ((2 : Int32) &&& 31)) &&& (7 : Int32)) / (5 : Int32) * (5 : Int32)))), some (.int ((v87 >>> ((5 : Int32) &&& 31)) - (v87 >>> ((5 : Int32) &&& 31)) / (60 : Int32) * (60 : Int32))), none, none, none, none, none, none, none, none, none, none, none]) rfl ?_
                                refine s_iload (C _) dL_law_492 rfl ?_
                                refine s_iconst (C _) dL_law_494 (v := (3 : Int32)) (by decide) ?_
                                refine s_jn hf (fun j511 e511 hf => ?_)
                                have k511 : ∀ (x88 : Int32), j511 x88 = some r → WW (sF X h77) h77 (121 + 12 * k447) (7814 + 135 * k447) 511 [some (.ref b), some (rB (xD X).1 v1), some (.int (v4 - v4 / (8 : Int32) * (8 : Int32))), none, none, none, some (rB (xD X).1 v61), some (rB (xD X).1 v65), some (rB (xD X).1 v67), some (rB (xD X).1 v69), some (rB (xD X).1 v71), some (rB (xD X).1 v73), some (.int x75), some (.int x76), some (.int v87), some (.int ((v87 &&& (3 : Int32)) - (v87 &&& (3 : Int32)) / (3 : Int32) * (3 : Int32))), some (.int ((1 : Int32) + (((v87 >>> ((2 : Int32) &&& 31)) &&& (7 : Int32)) - ((v87 >>> ((2 : Int32) &&& 31)) &&& (7 : Int32)) / (5 : Int32) * (5 : Int32)))), some (.int ((v87 >>> ((5 : Int32) &&& 31)) - (v87 >>> ((5 : Int32) &&& 31)) / (60 : Int32) * (60 : Int32))), none, none, none, none, none, none, none, none, none, none, none] [.int x88] := by
                                  intro x88 hf
                                  rw [e511] at hf
                                  refine s_istore (C _) dL_law_511 (by decide) (nc_i rfl) (lv' := [some (.ref b), some (rB (xD X).1 v1), some (.int (v4 - v4 / (8 : Int32) * (8 : Int32))), none, none, none, some (rB (xD X).1 v61), some (rB (xD X).1 v65), some (rB (xD X).1 v67), some (rB (xD X).1 v69), some (rB (xD X).1 v71), some (rB (xD X).1 v73), some (.int x75), some (.int x76), some (.int v87), some (.int ((v87 &&& (3 : Int32)) - (v87 &&& (3 : Int32)) / (3 : Int32) * (3 : Int32))), some (.int ((1 : Int32) + (((v87 >>> ((2 : Int32) &&& 31)) &&& (7 : Int32)) - ((v87 >>> ((2 : Int32) &&& 31)) &&& (7 : Int32)) / (5 : Int32) * (5 : Int32)))), some (.int ((v87 >>> ((5 : Int32) &&& 31)) - (v87 >>> ((5 : Int32) &&& 31)) / (60 : Int32) * (60 : Int32))), some (.int x88), none, none, none, none, none, none, none, none, none, none]) rfl ?_
                                  refine s_iconst (C _) dL_law_513 (v := (3 : Int32)) (by decide) ?_
                                  refine L_newarray C0 (t := 28) (N := 3) rfl (by decide) wac_28 dL_law_514 (by decide) (by decide) (Nat.le_of_ble_eq_true rfl) hf (cell1 hX (by omega)) (cell2 hX (by omega)) (fun v89 h90 hf => ?_)
                                  refine s_dup (C _) dL_law_516 c1_r ?_
                                  refine s_iconst (C _) dL_law_517 (v := (0 : Int32)) (by decide) ?_
                                  refine s_iload (C _) dL_law_518 rfl ?_
                                  refine L_iastore C0 dL_law_520 hf (fun h91 hf => ?_)
                                  refine s_dup (C _) dL_law_521 c1_r ?_
                                  refine s_iconst (C _) dL_law_522 (v := (1 : Int32)) (by decide) ?_
                                  refine s_iload (C _) dL_law_523 rfl ?_
                                  refine s_bipush (C _) dL_law_525 (v := (12 : Int32)) (by decide) ?_
                                  refine s_ishr (C _) dL_law_527 ?_
                                  refine s_bipush (C _) dL_law_528 (v := (60 : Int32)) (by decide) ?_
                                  refine s_irem (C _) dL_law_530 hf (fun hf => ?_)
                                  refine L_iastore C0 dL_law_531 hf (fun h92 hf => ?_)
                                  refine s_dup (C _) dL_law_532 c1_r ?_
                                  refine s_iconst (C _) dL_law_533 (v := (2 : Int32)) (by decide) ?_
                                  refine s_iload (C _) dL_law_534 rfl ?_
                                  refine s_bipush (C _) dL_law_536 (v := (15 : Int32)) (by decide) ?_
                                  refine s_ishr (C _) dL_law_538 ?_
                                  refine s_bipush (C _) dL_law_539 (v := (60 : Int32)) (by decide) ?_
                                  refine s_irem (C _) dL_law_541 hf (fun hf => ?_)
                                  refine L_iastore C0 dL_law_542 hf (fun h93 hf => ?_)
                                  refine s_astore (C _) dL_law_543 (by decide) (nc_i rfl) (lv' := [some (.ref b), some (rB (xD X).1 v1), some (.int (v4 - v4 / (8 : Int32) * (8 : Int32))), none, none, none, some (rB (xD X).1 v61), some (rB (xD X).1 v65), some (rB (xD X).1 v67), some (rB (xD X).1 v69), some (rB (xD X).1 v71), some (rB (xD X).1 v73), some (.int x75), some (.int x76), some (.int v87), some (.int ((v87 &&& (3 : Int32)) - (v87 &&& (3 : Int32)) / (3 : Int32) * (3 : Int32))), some (.int ((1 : Int32) + (((v87 >>> ((2 : Int32) &&& 31)) &&& (7 : Int32)) - ((v87 >>> ((2 : Int32) &&& 31)) &&& (7 : Int32)) / (5 : Int32) * (5 : Int32)))), some (.int ((v87 >>> ((5 : Int32) &&& 31)) - (v87 >>> ((5 : Int32) &&& 31)) / (60 : Int32) * (60 : Int32))), some (.int x88), some (rB (xD X).1 v89), none, none, none, none, none, none, none, none, none]) rfl ?_
                                  refine s_iconst (C _) dL_law_545 (v := (1 : Int32)) (by decide) ?_
                                  refine s_istore (C _) dL_law_546 (by decide) (nc_r rfl) (lv' := [some (.ref b), some (rB (xD X).1 v1), some (.int (v4 - v4 / (8 : Int32) * (8 : Int32))), none, none, none, some (rB (xD X).1 v61), some (rB (xD X).1 v65), some (rB (xD X).1 v67), some (rB (xD X).1 v69), some (rB (xD X).1 v71), some (rB (xD X).1 v73), some (.int x75), some (.int x76), some (.int v87), some (.int ((v87 &&& (3 : Int32)) - (v87 &&& (3 : Int32)) / (3 : Int32) * (3 : Int32))), some (.int ((1 : Int32) + (((v87 >>> ((2 : Int32) &&& 31)) &&& (7 : Int32)) - ((v87 >>> ((2 : Int32) &&& 31)) &&& (7 : Int32)) / (5 : Int32) * (5 : Int32)))), some (.int ((v87 >>> ((5 : Int32) &&& 31)) - (v87 >>> ((5 : Int32) &&& 31)) / (60 : Int32) * (60 : Int32))), some (.int x88), some (rB (xD X).1 v89), some (.int (1 : Int32)), none, none, none, none, none, none, none, none]) rfl ?_
                                  refine s_lp2 hf (fun G548 z548 q548 hf => ?_)
                                  have k548 : ∀ (n : Nat) (x94 : Int32) (h95 : AH), G548 n x94 h95 = some r → WW (sF X h95) h95 (122 + 12 * k447) (7817 + 135 * k447) 548 [some (.ref b), some (rB (xD X).1 v1), some (.int (v4 - v4 / (8 : Int32) * (8 : Int32))), none, none, none, some (rB (xD X).1 v61), some (rB (xD X).1 v65), some (rB (xD X).1 v67), some (rB (xD X).1 v69), some (rB (xD X).1 v71), some (rB (xD X).1 v73), some (.int x75), some (.int x76), some (.int v87), some (.int ((v87 &&& (3 : Int32)) - (v87 &&& (3 : Int32)) / (3 : Int32) * (3 : Int32))), some (.int ((1 : Int32) + (((v87 >>> ((2 : Int32) &&& 31)) &&& (7 : Int32)) - ((v87 >>> ((2 : Int32) &&& 31)) &&& (7 : Int32)) / (5 : Int32) * (5 : Int32)))), some (.int ((v87 >>> ((5 : Int32) &&& 31)) - (v87 >>> ((5 : Int32) &&& 31)) / (60 : Int32) * (60 : Int32))), some (.int x88), some (rB (xD X).1 v89), some (.int x94), none, none, none, none, none, none, none, none] [] := by
                                    intro n
                                    induction n with
                                    | zero =>
                                      intro x94 h95 hf
                                      rw [z548] at hf
                                      cases hf
                                    | succ n ih548 =>
                                      intro x94 h95 hf
                                      have hf := (q548 n x94 h95).symm.trans hf
                                      refine s_iload (C _) dL_law_548 rfl ?_
                                      refine s_iload (C _) dL_law_550 rfl ?_
                                      refine s_icmp_gt (tgt := 577) (C _) dL_law_552 (by decide) hf (fun hf => ?_) (fun hf => ?_)
                                      · refine s_iload (C _) dL_law_577 rfl ?_
                                        refine s_bipush (C _) dL_law_579 (v := (21 : Int32)) (by decide) ?_
                                        refine s_ishr (C _) dL_law_581 ?_
                                        refine s_bipush (C _) dL_law_582 (v := (7 : Int32)) (by decide) ?_
                                        refine s_iand (C _) dL_law_584 ?_
                                        refine s_jn hf (fun j659 e659 hf => ?_)
                                        have k659 : ∀ (h96 : AH), j659 h96 = some r → WW (sF X h96) h96 (122 + 12 * k447) (7817 + 135 * k447) 659 [some (.ref b), some (rB (xD X).1 v1), some (.int (v4 - v4 / (8 : Int32) * (8 : Int32))), none, none, none, some (rB (xD X).1 v61), some (rB (xD X).1 v65), some (rB (xD X).1 v67), some (rB (xD X).1 v69), some (rB (xD X).1 v71), some (rB (xD X).1 v73), some (.int x75), some (.int x76), none, some (.int ((v87 &&& (3 : Int32)) - (v87 &&& (3 : Int32)) / (3 : Int32) * (3 : Int32))), some (.int ((1 : Int32) + (((v87 >>> ((2 : Int32) &&& 31)) &&& (7 : Int32)) - ((v87 >>> ((2 : Int32) &&& 31)) &&& (7 : Int32)) / (5 : Int32) * (5 : Int32)))), some (.int ((v87 >>> ((5 : Int32) &&& 31)) - (v87 >>> ((5 : Int32) &&& 31)) / (60 : Int32) * (60 : Int32))), some (.int x88), some (rB (xD X).1 v89), none, none, none, none, none, none, none, none, none] [] := by
                                          intro h96 hf
                                          rw [e659] at hf
                                          refine s_aload_n (C _) dL_law_659 rfl ?_
                                          refine s_iload (C _) dL_law_660 rfl ?_
                                          refine s_iconst (C _) dL_law_662 (v := (1 : Int32)) (by decide) ?_
                                          refine s_callVL (rvf := fun x => some (.int x)) (st := []) (fr := 3) (lo := 68) (mc := 0) (ms := 0) (C _) [11] wc_X11_ofBody wml_L_54 wim_X11_ofBody wsl_11_X11_ofBody dL_law_663 (As := [.inl ((v87 &&& (3 : Int32)) - (v87 &&& (3 : Int32)) / (3 : Int32) * (3 : Int32)), .inl (1 : Int32)]) rfl hf (fun x h' hF => c_X11_ofBody _ _ _ _ _ _ (x, h') hF) rfl (Nat.le_of_ble_eq_true rfl) (room_ok hX (Nat.le_of_ble_eq_true rfl) (Nat.le_of_ble_eq_true rfl)) (cell_ok hX (by omega) (by omega)) (fun v98 h97 hf => ?_)
                                          refine s_istore (C _) dL_law_666 (by decide) (nc_r rfl) (lv' := [some (.ref b), some (rB (xD X).1 v1), some (.int (v4 - v4 / (8 : Int32) * (8 : Int32))), none, none, none, some (rB (xD X).1 v61), some (rB (xD X).1 v65), some (rB (xD X).1 v67), some (rB (xD X).1 v69), some (rB (xD X).1 v71), some (rB (xD X).1 v73), some (.int x75), some (.int x76), none, some (.int ((v87 &&& (3 : Int32)) - (v87 &&& (3 : Int32)) / (3 : Int32) * (3 : Int32))), some (.int ((1 : Int32) + (((v87 >>> ((2 : Int32) &&& 31)) &&& (7 : Int32)) - ((v87 >>> ((2 : Int32) &&& 31)) &&& (7 : Int32)) / (5 : Int32) * (5 : Int32)))), some (.int ((v87 >>> ((5 : Int32) &&& 31)) - (v87 >>> ((5 : Int32) &&& 31)) / (60 : Int32) * (60 : Int32))), some (.int x88), some (rB (xD X).1 v89), some (.int v98), none, none, none, none, none, none, none, none]) rfl ?_
                                          refine s_aload (C _) dL_law_668 rfl ?_
                                          refine s_iload (C _) dL_law_670 rfl ?_
                                          refine L_iaload C0 dL_law_672 hf (fun v99 hf => ?_)
                                          refine s_iconst (C _) dL_law_673 (v := (3 : Int32)) (by decide) ?_
                                          refine s_jn hf (fun j682 e682 hf => ?_)
                                          have k682 : ∀ (x100 : Int32), j682 x100 = some r → WW (sF X h97) h97 (122 + 12 * k447) (7817 + 135 * k447) 682 [some (.ref b), some (rB (xD X).1 v1), some (.int (v4 - v4 / (8 : Int32) * (8 : Int32))), none, none, none, some (rB (xD X).1 v61), some (rB (xD X).1 v65), some (rB (xD X).1 v67), some (rB (xD X).1 v69), some (rB (xD X).1 v71), some (rB (xD X).1 v73), some (.int x75), some (.int x76), none, some (.int ((v87 &&& (3 : Int32)) - (v87 &&& (3 : Int32)) / (3 : Int32) * (3 : Int32))), some (.int ((1 : Int32) + (((v87 >>> ((2 : Int32) &&& 31)) &&& (7 : Int32)) - ((v87 >>> ((2 : Int32) &&& 31)) &&& (7 : Int32)) / (5 : Int32) * (5 : Int32)))), some (.int ((v87 >>> ((5 : Int32) &&& 31)) - (v87 >>> ((5 : Int32) &&& 31)) / (60 : Int32) * (60 : Int32))), some (.int x88), some (rB (xD X).1 v89), some (.int v98), none, none, none, none, none, none, none, none] [.int x100] := by
                                            intro x100 hf
                                            rw [e682] at hf
                                            refine s_istore (C _) dL_law_682 (by decide) (nc_i rfl) (lv' := [some (.ref b), some (rB (xD X).1 v1), some (.int (v4 - v4 / (8 : Int32) * (8 : Int32))), none, none, none, some (rB (xD X).1 v61), some (rB (xD X).1 v65), some (rB (xD X).1 v67), some (rB (xD X).1 v69), some (rB (xD X).1 v71), some (rB (xD X).1 v73), some (.int x75), some (.int x76), none, some (.int ((v87 &&& (3 : Int32)) - (v87 &&& (3 : Int32)) / (3 : Int32) * (3 : Int32))), some (.int ((1 : Int32) + (((v87 >>> ((2 : Int32) &&& 31)) &&& (7 : Int32)) - ((v87 >>> ((2 : Int32) &&& 31)) &&& (7 : Int32)) / (5 : Int32) * (5 : Int32)))), some (.int ((v87 >>> ((5 : Int32) &&& 31)) - (v87 >>> ((5 : Int32) &&& 31)) / (60 : Int32) * (60 : Int32))), some (.int x88), some (rB (xD X).1 v89), some (.int v98), some (.int x100), none, none, none, none, none, none, none]) rfl ?_
                                            refine s_iconst (C _) dL_law_684 (v := (1 : Int32)) (by decide) ?_
                                            refine s_istore (C _) dL_law_685 (by decide) (nc_i rfl) (lv' := [some (.ref b), some (rB (xD X).1 v1), some (.int (v4 - v4 / (8 : Int32) * (8 : Int32))), none, none, none, some (rB (xD X).1 v61), some (rB (xD X).1 v65), some (rB (xD X).1 v67), some (rB (xD X).1 v69), some (rB (xD X).1 v71), some (rB (xD X).1 v73), some (.int x75), some (.int x76), none, some (.int ((v87 &&& (3 : Int32)) - (v87 &&& (3 : Int32)) / (3 : Int32) * (3 : Int32))), some (.int ((1 : Int32) + (((v87 >>> ((2 : Int32) &&& 31)) &&& (7 : Int32)) - ((v87 >>> ((2 : Int32) &&& 31)) &&& (7 : Int32)) / (5 : Int32) * (5 : Int32)))), some (.int ((v87 >>> ((5 : Int32) &&& 31)) - (v87 >>> ((5 : Int32) &&& 31)) / (60 : Int32) * (60 : Int32))), some (.int x88), some (rB (xD X).1 v89), some (.int v98), some (.int x100), some (.int (1 : Int32)), none, none, none, none, none, none]) rfl ?_
                                            refine s_iconst (C _) dL_law_687 (v := (0 : Int32)) (by decide) ?_
                                            refine s_istore (C _) dL_law_688 (by decide) (nc_i rfl) (lv' := [some (.ref b), some (rB (xD X).1 v1), some (.int (v4 - v4 / (8 : Int32) * (8 : Int32))), none, none, none, some (rB (xD X).1 v61), some (rB (xD X).1 v65), some (rB (xD X).1 v67), some (rB (xD X).1 v69), some (rB (xD X).1 v71), some (rB (xD X).1 v73), some (.int x75), some (.int x76), none, some (.int ((v87 &&& (3 : Int32)) - (v87 &&& (3 : Int32)) / (3 : Int32) * (3 : Int32))), some (.int ((1 : Int32) + (((v87 >>> ((2 : Int32) &&& 31)) &&& (7 : Int32)) - ((v87 >>> ((2 : Int32) &&& 31)) &&& (7 : Int32)) / (5 : Int32) * (5 : Int32)))), some (.int ((v87 >>> ((5 : Int32) &&& 31)) - (v87 >>> ((5 : Int32) &&& 31)) / (60 : Int32) * (60 : Int32))), some (.int x88), some (rB (xD X).1 v89), some (.int v98), some (.int x100), some (.int (1 : Int32)), some (.int (0 : Int32)), none, none, none, none, none]) rfl ?_
                                            refine s_lp3 hf (fun G690 z690 q690 hf => ?_)
                                            have k690 : ∀ (n : Nat) (x101 : Int32) (x102 : Int32) (h103 : AH), G690 n x101 x102 h103 = some r → WW (sF X h103) h103 (122 + 12 * k447) (7817 + 135 * k447) 690 [some (.ref b), some (rB (xD X).1 v1), some (.int (v4 - v4 / (8 : Int32) * (8 : Int32))), none, none, none, some (rB (xD X).1 v61), some (rB (xD X).1 v65), some (rB (xD X).1 v67), some (rB (xD X).1 v69), some (rB (xD X).1 v71), some (rB (xD X).1 v73), some (.int x75), some (.int x76), none, some (.int ((v87 &&& (3 : Int32)) - (v87 &&& (3 : Int32)) / (3 : Int32) * (3 : Int32))), some (.int ((1 : Int32) + (((v87 >>> ((2 : Int32) &&& 31)) &&& (7 : Int32)) - ((v87 >>> ((2 : Int32) &&& 31)) &&& (7 : Int32)) / (5 : Int32) * (5 : Int32)))), some (.int ((v87 >>> ((5 : Int32) &&& 31)) - (v87 >>> ((5 : Int32) &&& 31)) / (60 : Int32) * (60 : Int32))), some (.int x88), some (rB (xD X).1 v89), some (.int v98), some (.int x100), some (.int x101), some (.int x102), none, none, none, none, none] [] := by
                                              intro n
                                              induction n with
                                              | zero =>
                                                intro x101 x102 h103 hf
                                                rw [z690] at hf
                                                cases hf
                                              | succ n ih690 =>
                                                intro x101 x102 h103 hf
                                                have hf := (q690 n x101 x102 h103).symm.trans hf
                                                refine s_iload (C _) dL_law_690 rfl ?_
                                                refine s_iload (C _) dL_law_692 rfl ?_
                                                refine s_icmp_gt (tgt := 756) (C _) dL_law_694 (by decide) hf (fun hf => ?_) (fun hf => ?_)
                                                · refine s_aload (C _) dL_law_756 rfl ?_
                                                  refine s_iload (C _) dL_law_758 rfl ?_
                                                  refine L_iaload C0 dL_law_760 hf (fun v104 hf => ?_)
                                                  refine s_istore (C _) dL_law_761 (by decide) (nc_i rfl) (lv' := [some (.ref b), some (rB (xD X).1 v1), some (.int (v4 - v4 / (8 : Int32) * (8 : Int32))), none, none, none, some (rB (xD X).1 v61), some (rB (xD X).1 v65), some (rB (xD X).1 v67), some (rB (xD X).1 v69), some (rB (xD X).1 v71), some (rB (xD X).1 v73), some (.int x75), some (.int x76), none, some (.int ((v87 &&& (3 : Int32)) - (v87 &&& (3 : Int32)) / (3 : Int32) * (3 : Int32))), some (.int ((1 : Int32) + (((v87 >>> ((2 : Int32) &&& 31)) &&& (7 : Int32)) - ((v87 >>> ((2 : Int32) &&& 31)) &&& (7 : Int32)) / (5 : Int32) * (5 : Int32)))), some (.int ((v87 >>> ((5 : Int32) &&& 31)) - (v87 >>> ((5 : Int32) &&& 31)) / (60 : Int32) * (60 : Int32))), some (.int x88), some (rB (xD X).1 v89), some (.int v98), some (.int x100), some (.int x101), some (.int v104), none, none, none, none, none]) rfl ?_
                                                  refine s_iconst (C _) dL_law_763 (v := (0 : Int32)) (by decide) ?_
                                                  refine s_istore (C _) dL_law_764 (by decide) (nc_i rfl) (lv' := [some (.ref b), some (rB (xD X).1 v1), some (.int (v4 - v4 / (8 : Int32) * (8 : Int32))), none, none, none, some (rB (xD X).1 v61), some (rB (xD X).1 v65), some (rB (xD X).1 v67), some (rB (xD X).1 v69), some (rB (xD X).1 v71), some (rB (xD X).1 v73), some (.int x75), some (.int x76), none, some (.int ((v87 &&& (3 : Int32)) - (v87 &&& (3 : Int32)) / (3 : Int32) * (3 : Int32))), some (.int ((1 : Int32) + (((v87 >>> ((2 : Int32) &&& 31)) &&& (7 : Int32)) - ((v87 >>> ((2 : Int32) &&& 31)) &&& (7 : Int32)) / (5 : Int32) * (5 : Int32)))), some (.int ((v87 >>> ((5 : Int32) &&& 31)) - (v87 >>> ((5 : Int32) &&& 31)) / (60 : Int32) * (60 : Int32))), some (.int x88), some (rB (xD X).1 v89), some (.int v98), some (.int x100), some (.int x101), some (.int v104), some (.int (0 : Int32)), none, none, none, none]) rfl ?_
                                                  refine s_iconst (C _) dL_law_766 (v := (0 : Int32)) (by decide) ?_
                                                  refine s_istore (C _) dL_law_767 (by decide) (nc_i rfl) (lv' := [some (.ref b), some (rB (xD X).1 v1), some (.int (v4 - v4 / (8 : Int32) * (8 : Int32))), none, none, none, some (rB (xD X).1 v61), some (rB (xD X).1 v65), some (rB (xD X).1 v67), some (rB (xD X).1 v69), some (rB (xD X).1 v71), some (rB (xD X).1 v73), some (.int x75), some (.int x76), none, some (.int ((v87 &&& (3 : Int32)) - (v87 &&& (3 : Int32)) / (3 : Int32) * (3 : Int32))), some (.int ((1 : Int32) + (((v87 >>> ((2 : Int32) &&& 31)) &&& (7 : Int32)) - ((v87 >>> ((2 : Int32) &&& 31)) &&& (7 : Int32)) / (5 : Int32) * (5 : Int32)))), some (.int ((v87 >>> ((5 : Int32) &&& 31)) - (v87 >>> ((5 : Int32) &&& 31)) / (60 : Int32) * (60 : Int32))), some (.int x88), some (rB (xD X).1 v89), some (.int v98), some (.int x100), some (.int x101), some (.int v104), some (.int (0 : Int32)), some (.int (0 : Int32)), none, none, none]) rfl ?_
                                                  refine s_iconst (C _) dL_law_769 (v := (0 : Int32)) (by decide) ?_
                                                  refine s_istore (C _) dL_law_770 (by decide) (nc_i rfl) (lv' := [some (.ref b), some (rB (xD X).1 v1), some (.int (v4 - v4 / (8 : Int32) * (8 : Int32))), none, none, none, some (rB (xD X).1 v61), some (rB (xD X).1 v65), some (rB (xD X).1 v67), some (rB (xD X).1 v69), some (rB (xD X).1 v71), some (rB (xD X).1 v73), some (.int x75), some (.int x76), none, some (.int ((v87 &&& (3 : Int32)) - (v87 &&& (3 : Int32)) / (3 : Int32) * (3 : Int32))), some (.int ((1 : Int32) + (((v87 >>> ((2 : Int32) &&& 31)) &&& (7 : Int32)) - ((v87 >>> ((2 : Int32) &&& 31)) &&& (7 : Int32)) / (5 : Int32) * (5 : Int32)))), some (.int ((v87 >>> ((5 : Int32) &&& 31)) - (v87 >>> ((5 : Int32) &&& 31)) / (60 : Int32) * (60 : Int32))), some (.int x88), some (rB (xD X).1 v89), some (.int v98), some (.int x100), some (.int x101), some (.int v104), some (.int (0 : Int32)), some (.int (0 : Int32)), some (.int (0 : Int32)), none, none]) rfl ?_
                                                  refine s_lp4 hf (fun G772 z772 q772 hf => ?_)
                                                  have k772 : ∀ (n : Nat) (x105 : Int32) (x106 : Int32) (x107 : Int32) (h108 : AH), G772 n x105 x106 x107 h108 = some r → WW (sF X h108) h108 (122 + 12 * k447) (7817 + 135 * k447) 772 [some (.ref b), some (rB (xD X).1 v1), some (.int (v4 - v4 / (8 : Int32) * (8 : Int32))), none, none, none, some (rB (xD X).1 v61), some (rB (xD X).1 v65), some (rB (xD X).1 v67), some (rB (xD X).1 v69), some (rB (xD X).1 v71), some (rB (xD X).1 v73), some (.int x75), some (.int x76), none, some (.int ((v87 &&& (3 : Int32)) - (v87 &&& (3 : Int32)) / (3 : Int32) * (3 : Int32))), some (.int ((1 : Int32) + (((v87 >>> ((2 : Int32) &&& 31)) &&& (7 : Int32)) - ((v87 >>> ((2 : Int32) &&& 31)) &&& (7 : Int32)) / (5 : Int32) * (5 : Int32)))), some (.int ((v87 >>> ((5 : Int32) &&& 31)) - (v87 >>> ((5 : Int32) &&& 31)) / (60 : Int32) * (60 : Int32))), some (.int x88), some (rB (xD X).1 v89), none, some (.int x100), some (.int x101), some (.int v104), some (.int x105), some (.int x106), some (.int x107), none, none] [] := by
                                                    intro n
                                                    induction n with
                                                    | zero =>
                                                      intro x105 x106 x107 h108 hf
                                                      rw [z772] at hf
                                                      cases hf
                                                    | succ n ih772 =>
                                                      intro x105 x106 x107 h108 hf
                                                      have hf := (q772 n x105 x106 x107 h108).symm.trans hf
                                                      refine s_iload (C _) dL_law_772 rfl ?_
                                                      refine s_iload (C _) dL_law_774 rfl ?_
                                                      refine s_icmp_ge (tgt := 890) (C _) dL_law_776 (by decide) hf (fun hf => ?_) (fun hf => ?_)
                                                      · refine s_iload (C _) dL_law_890 rfl ?_
                                                        refine s_jn hf (fun j927 e927 hf => ?_)
                                                        have k927 : ∀ (x109 : Int32), j927 x109 = some r → WW (sF X h108) h108 (122 + 12 * k447) (7817 + 135 * k447) 927 [some (.ref b), some (rB (xD X).1 v1), some (.int (v4 - v4 / (8 : Int32) * (8 : Int32))), none, none, none, some (rB (xD X).1 v61), some (rB (xD X).1 v65), some (rB (xD X).1 v67), some (rB (xD X).1 v69), some (rB (xD X).1 v71), some (rB (xD X).1 v73), some (.int x75), some (.int x76), none, some (.int ((v87 &&& (3 : Int32)) - (v87 &&& (3 : Int32)) / (3 : Int32) * (3 : Int32))), some (.int ((1 : Int32) + (((v87 >>> ((2 : Int32) &&& 31)) &&& (7 : Int32)) - ((v87 >>> ((2 : Int32) &&& 31)) &&& (7 : Int32)) / (5 : Int32) * (5 : Int32)))), some (.int ((v87 >>> ((5 : Int32) &&& 31)) - (v87 >>> ((5 : Int32) &&& 31)) / (60 : Int32) * (60 : Int32))), some (.int x88), some (rB (xD X).1 v89), none, none, none, some (.int v104), none, none, none, none, none] [.int x109] := by
                                                          intro x109 hf
                                                          rw [e927] at hf
                                                          refine s_istore (C _) dL_law_927 (by decide) (nc_n rfl) (lv' := [some (.ref b), some (rB (xD X).1 v1), some (.int (v4 - v4 / (8 : Int32) * (8 : Int32))), none, none, none, some (rB (xD X).1 v61), some (rB (xD X).1 v65), some (rB (xD X).1 v67), some (rB (xD X).1 v69), some (rB (xD X).1 v71), some (rB (xD X).1 v73), some (.int x75), some (.int x76), none, some (.int ((v87 &&& (3 : Int32)) - (v87 &&& (3 : Int32)) / (3 : Int32) * (3 : Int32))), some (.int ((1 : Int32) + (((v87 >>> ((2 : Int32) &&& 31)) &&& (7 : Int32)) - ((v87 >>> ((2 : Int32) &&& 31)) &&& (7 : Int32)) / (5 : Int32) * (5 : Int32)))), some (.int ((v87 >>> ((5 : Int32) &&& 31)) - (v87 >>> ((5 : Int32) &&& 31)) / (60 : Int32) * (60 : Int32))), some (.int x88), some (rB (xD X).1 v89), none, none, none, some (.int v104), none, none, some (.int x109), none, none]) rfl ?_
                                                          refine s_iload (C _) dL_law_929 rfl ?_
                                                          refine s_iconst (C _) dL_law_931 (v := (4 : Int32)) (by decide) ?_
                                                          refine s_jn hf (fun j941 e941 hf => ?_)
                                                          have k941 : ∀ (x110 : Int32), j941 x110 = some r → WW (sF X h108) h108 (122 + 12 * k447) (7817 + 135 * k447) 941 [some (.ref b), some (rB (xD X).1 v1), some (.int (v4 - v4 / (8 : Int32) * (8 : Int32))), none, none, none, some (rB (xD X).1 v61), some (rB (xD X).1 v65), some (rB (xD X).1 v67), some (rB (xD X).1 v69), some (rB (xD X).1 v71), some (rB (xD X).1 v73), some (.int x75), some (.int x76), none, some (.int ((v87 &&& (3 : Int32)) - (v87 &&& (3 : Int32)) / (3 : Int32) * (3 : Int32))), some (.int ((1 : Int32) + (((v87 >>> ((2 : Int32) &&& 31)) &&& (7 : Int32)) - ((v87 >>> ((2 : Int32) &&& 31)) &&& (7 : Int32)) / (5 : Int32) * (5 : Int32)))), some (.int ((v87 >>> ((5 : Int32) &&& 31)) - (v87 >>> ((5 : Int32) &&& 31)) / (60 : Int32) * (60 : Int32))), some (.int x88), some (rB (xD X).1 v89), none, none, none, some (.int v104), none, none, some (.int x109), none, none] [.int x110] := by
                                                            intro x110 hf
                                                            rw [e941] at hf
                                                            refine s_istore (C _) dL_law_941 (by decide) (nc_i rfl) (lv' := [some (.ref b), some (rB (xD X).1 v1), some (.int (v4 - v4 / (8 : Int32) * (8 : Int32))), none, none, none, some (rB (xD X).1 v61), some (rB (xD X).1 v65), some (rB (xD X).1 v67), some (rB (xD X).1 v69), some (rB (xD X).1 v71), some (rB (xD X).1 v73), some (.int x75), some (.int x76), none, some (.int ((v87 &&& (3 : Int32)) - (v87 &&& (3 : Int32)) / (3 : Int32) * (3 : Int32))), some (.int ((1 : Int32) + (((v87 >>> ((2 : Int32) &&& 31)) &&& (7 : Int32)) - ((v87 >>> ((2 : Int32) &&& 31)) &&& (7 : Int32)) / (5 : Int32) * (5 : Int32)))), some (.int ((v87 >>> ((5 : Int32) &&& 31)) - (v87 >>> ((5 : Int32) &&& 31)) / (60 : Int32) * (60 : Int32))), some (.int x88), some (rB (xD X).1 v89), none, none, none, some (.int v104), none, none, some (.int x109), some (.int x110), none]) rfl ?_
                                                            refine s_aload_n (C _) dL_law_943 rfl ?_
                                                            refine s_iload (C _) dL_law_944 rfl ?_
                                                            refine s_iload (C _) dL_law_946 rfl ?_
                                                            refine s_iload (C _) dL_law_948 rfl ?_
                                                            refine s_iconst (C _) dL_law_950 (v := (0 : Int32)) (by decide) ?_
                                                            refine s_callVL (rvf := fun x => some (.int x)) (st := []) (fr := 7) (lo := 174) (mc := 0) (ms := 0) (C _) [11] wc_X11_why wml_L_60 wim_X11_why wsl_11_X11_why dL_law_951 (As := [.inl ((v87 &&& (3 : Int32)) - (v87 &&& (3 : Int32)) / (3 : Int32) * (3 : Int32)), .inl ((1 : Int32) + (((v87 >>> ((2 : Int32) &&& 31)) &&& (7 : Int32)) - ((v87 >>> ((2 : Int32) &&& 31)) &&& (7 : Int32)) / (5 : Int32) * (5 : Int32))), .inl ((v87 >>> ((5 : Int32) &&& 31)) - (v87 >>> ((5 : Int32) &&& 31)) / (60 : Int32) * (60 : Int32)), .inl (0 : Int32)]) rfl hf (fun x h' hF => c_X11_why _ _ _ _ _ _ _ _ (x, h') hF) rfl (Nat.le_of_ble_eq_true rfl) (room_ok hX (Nat.le_of_ble_eq_true rfl) (Nat.le_of_ble_eq_true rfl)) (cell_ok hX (by omega) (by omega)) (fun v112 h111 hf => ?_)
                                                            refine s_iload (C _) dL_law_954 rfl ?_
                                                            refine s_jn hf (fun j991 e991 hf => ?_)
                                                            have k991 : ∀ (h113 : AH), j991 h113 = some r → WW (sF X h113) h113 (122 + 12 * k447) (7817 + 135 * k447) 991 [none, none, none, none, none, none, none, none, none, none, none, none, none, none, none, none, none, none, none, none, none, none, none, none, none, none, none, none, none] [] := by
                                                              intro h113 hf
                                                              rw [e991] at hf
                                                              refine s_iconst (C _) dL_law_991 (v := (0 : Int32)) (by decide) ?_
                                                              exact L_lawret C0 E0 h1 dL_law_992 hf (by omega) (by omega)
                                                            refine s_icmp_ne (tgt := 991) (C _) dL_law_956 (by decide) hf (fun hf => ?_) (fun hf => ?_)
                                                            · refine s_widen (c := (122 + 12 * k447)) (s := (7817 + 135 * k447)) (by omega) (by omega) ?_
                                                              refine s_weak (lv' := [none, none, none, none, none, none, none, none, none, none, none, none, none, none, none, none, none, none, none, none, none, none, none, none, none, none, none, none, none]) trivial ?_
                                                              exact k991 _ hf
                                                            · refine s_aload_n (C _) dL_law_959 rfl ?_
                                                              refine s_iload (C _) dL_law_960 rfl ?_
                                                              refine s_iload (C _) dL_law_962 rfl ?_
                                                              refine s_iload (C _) dL_law_964 rfl ?_
                                                              refine s_iconst (C _) dL_law_966 (v := (1 : Int32)) (by decide) ?_
                                                              refine s_callVL (rvf := fun x => some (.int x)) (st := []) (fr := 7) (lo := 174) (mc := 0) (ms := 0) (C _) [11] wc_X11_why wml_L_60 wim_X11_why wsl_11_X11_why dL_law_967 (As := [.inl ((v87 &&& (3 : Int32)) - (v87 &&& (3 : Int32)) / (3 : Int32) * (3 : Int32)), .inl ((1 : Int32) + (((v87 >>> ((2 : Int32) &&& 31)) &&& (7 : Int32)) - ((v87 >>> ((2 : Int32) &&& 31)) &&& (7 : Int32)) / (5 : Int32) * (5 : Int32))), .inl ((v87 >>> ((5 : Int32) &&& 31)) - (v87 >>> ((5 : Int32) &&& 31)) / (60 : Int32) * (60 : Int32)), .inl (1 : Int32)]) rfl hf (fun x h' hF => c_X11_why _ _ _ _ _ _ _ _ (x, h') hF) rfl (Nat.le_of_ble_eq_true rfl) (room_ok hX (Nat.le_of_ble_eq_true rfl) (Nat.le_of_ble_eq_true rfl)) (cell_ok hX (by omega) (by omega)) (fun v115 h114 hf => ?_)
                                                              refine s_iload (C _) dL_law_970 rfl ?_
                                                              refine s_icmp_ne (tgt := 991) (C _) dL_law_972 (by decide) hf (fun hf => ?_) (fun hf => ?_)
                                                              · refine s_widen (c := (122 + 12 * k447)) (s := (7817 + 135 * k447)) (by omega) (by omega) ?_
                                                                refine s_weak (lv' := [none, none, none, none, none, none, none, none, none, none, none, none, none, none, none, none, none, none, none, none, none, none, none, none, none, none, none, none, none]) trivial ?_
                                                                exact k991 _ hf
                                                              · refine s_aload_n (C _) dL_law_975 rfl ?_
                                                                refine s_iload (C _) dL_law_976 rfl ?_
                                                                refine s_iload (C _) dL_law_978 rfl ?_
                                                                refine s_iload (C _) dL_law_980 rfl ?_
                                                                refine s_iconst (C _) dL_law_982 (v := (0 : Int32)) (by decide) ?_
                                                                refine s_callVL (rvf := fun x => some (.int x)) (st := []) (fr := 7) (lo := 174) (mc := 0) (ms := 0) (C _) [11] wc_X11_why wml_L_60 wim_X11_why wsl_11_X11_why dL_law_983 (As := [.inl ((v87 &&& (3 : Int32)) - (v87 &&& (3 : Int32)) / (3 : Int32) * (3 : Int32)), .inl ((1 : Int32) + (((v87 >>> ((2 : Int32) &&& 31)) &&& (7 : Int32)) - ((v87 >>> ((2 : Int32) &&& 31)) &&& (7 : Int32)) / (5 : Int32) * (5 : Int32))), .inl ((v87 >>> ((5 : Int32) &&& 31)) - (v87 >>> ((5 : Int32) &&& 31)) / (60 : Int32) * (60 : Int32)), .inl (0 : Int32)]) rfl hf (fun x h' hF => c_X11_why _ _ _ _ _ _ _ _ (x, h') hF) rfl (Nat.le_of_ble_eq_true rfl) (room_ok hX (Nat.le_of_ble_eq_true rfl) (Nat.le_of_ble_eq_true rfl)) (cell_ok hX (by omega) (by omega)) (fun v117 h116 hf => ?_)
                                                                refine s_iload (C _) dL_law_986 rfl ?_
                                                                refine s_icmp_eq (tgt := 993) (C _) dL_law_988 (by decide) hf (fun hf => ?_) (fun hf => ?_)
                                                                · refine s_aload_n (C _) dL_law_993 rfl ?_
                                                                  refine s_iload (C _) dL_law_994 rfl ?_
                                                                  refine s_iload (C _) dL_law_996 rfl ?_
                                                                  refine s_iload (C _) dL_law_998 rfl ?_
                                                                  refine s_callVL (rvf := fun x => some (.int x)) (st := []) (fr := 7) (lo := 174) (mc := 11) (ms := 132) (C _) [11] wc_X11_hide wml_L_64 wim_X11_hide wsl_11_X11_hide dL_law_1000 (As := [.inl ((v87 &&& (3 : Int32)) - (v87 &&& (3 : Int32)) / (3 : Int32) * (3 : Int32)), .inl ((1 : Int32) + (((v87 >>> ((2 : Int32) &&& 31)) &&& (7 : Int32)) - ((v87 >>> ((2 : Int32) &&& 31)) &&& (7 : Int32)) / (5 : Int32) * (5 : Int32))), .inl ((v87 >>> ((5 : Int32) &&& 31)) - (v87 >>> ((5 : Int32) &&& 31)) / (60 : Int32) * (60 : Int32))]) rfl hf (fun x h' hF => c_X11_hide _ _ _ _ _ _ _ (x, h') hF) rfl (Nat.le_of_ble_eq_true rfl) (room_ok hX (Nat.le_of_ble_eq_true rfl) (Nat.le_of_ble_eq_true rfl)) (cell_ok hX (by omega) (by omega)) (fun v119 h118 hf => ?_)
                                                                  refine s_iload (C _) dL_law_1003 rfl ?_
                                                                  refine s_jn hf (fun j1020 e1020 hf => ?_)
                                                                  have k1020 : ∀ (x120 : Int32), j1020 x120 = some r → WW (sF X h118) h118 (133 + 12 * k447) (7949 + 135 * k447) 1020 [some (.ref b), some (rB (xD X).1 v1), some (.int (v4 - v4 / (8 : Int32) * (8 : Int32))), none, none, none, some (rB (xD X).1 v61), some (rB (xD X).1 v65), some (rB (xD X).1 v67), some (rB (xD X).1 v69), some (rB (xD X).1 v71), some (rB (xD X).1 v73), some (.int x75), some (.int x76), none, some (.int ((v87 &&& (3 : Int32)) - (v87 &&& (3 : Int32)) / (3 : Int32) * (3 : Int32))), none, none, some (.int x88), some (rB (xD X).1 v89), none, none, none, some (.int v104), none, none, some (.int x109), none, none] [.int x120, .int v119] := by
                                                                    intro x120 hf
                                                                    rw [e1020] at hf
                                                                    refine s_icmp_eq (tgt := 1025) (C _) dL_law_1020 (by decide) hf (fun hf => ?_) (fun hf => ?_)
                                                                    · refine s_iload (C _) dL_law_1025 rfl ?_
                                                                      refine s_jn hf (fun j1166 e1166 hf => ?_)
                                                                      have k1166 : ∀ (x121 : Int32) (h122 : AH), j1166 x121 h122 = some r → WW (sF X h122) h122 (133 + 12 * k447) (7949 + 135 * k447) 1166 [some (.ref b), some (rB (xD X).1 v1), some (.int (v4 - v4 / (8 : Int32) * (8 : Int32))), none, none, none, some (rB (xD X).1 v61), some (rB (xD X).1 v65), some (rB (xD X).1 v67), some (rB (xD X).1 v69), some (rB (xD X).1 v71), some (rB (xD X).1 v73), some (.int x121), some (.int x76), none, none, none, none, none, none, none, none, none, none, none, none, none, none, none] [] := by
                                                                        intro x121 h122 hf
                                                                        rw [e1166] at hf
                                                                        refine s_iinc (C _) dL_law_1166 (v := (x76 + 1)) rfl rfl (by decide) (nc_i rfl) (lv' := [some (.ref b), some (rB (xD X).1 v1), some (.int (v4 - v4 / (8 : Int32) * (8 : Int32))), none, none, none, some (rB (xD X).1 v61), some (rB (xD X).1 v65), some (rB (xD X).1 v67), some (rB (xD X).1 v69), some (rB (xD X).1 v71), some (rB (xD X).1 v73), some (.int x121), some (.int (x76 + 1)), none, none, none, none, none, none, none, none, none, none, none, none, none, none, none]) rfl ?_
                                                                        refine s_goto (tgt := 447) (C _) dL_law_1169 (by decide) ?_
                                                                        refine s_widen (c := 121 + 12 * (k447 + 1)) (s := 7814 + 135 * (k447 + 1)) (by omega) (by omega) ?_
                                                                        exact ih447 (k447 + 1) _ _ _ (by omega) (by rw [ex447]; exact nI_1 _) hf
                                                                      refine s_if_le (tgt := 1071) (C _) dL_law_1027 (by decide) hf (fun hf => ?_) (fun hf => ?_)
                                                                      · refine s_aload (C _) dL_law_1071 rfl ?_
                                                                        refine s_iload (C _) dL_law_1073 rfl ?_
                                                                        refine s_iload (C _) dL_law_1075 rfl ?_
                                                                        refine L_iastore C0 dL_law_1077 hf (fun h123 hf => ?_)
                                                                        refine s_aload (C _) dL_law_1078 rfl ?_
                                                                        refine s_iload (C _) dL_law_1080 rfl ?_
                                                                        refine s_iload (C _) dL_law_1082 rfl ?_
                                                                        refine L_iastore C0 dL_law_1084 hf (fun h124 hf => ?_)
                                                                        refine s_iconst (C _) dL_law_1085 (v := (0 : Int32)) (by decide) ?_
                                                                        refine s_istore (C _) dL_law_1086 (by decide) (nc_n rfl) (lv' := [some (.ref b), some (rB (xD X).1 v1), some (.int (v4 - v4 / (8 : Int32) * (8 : Int32))), none, none, none, some (rB (xD X).1 v61), some (rB (xD X).1 v65), some (rB (xD X).1 v67), some (rB (xD X).1 v69), some (rB (xD X).1 v71), some (rB (xD X).1 v73), some (.int x75), some (.int x76), none, some (.int ((v87 &&& (3 : Int32)) - (v87 &&& (3 : Int32)) / (3 : Int32) * (3 : Int32))), none, none, some (.int x88), some (rB (xD X).1 v89), none, none, none, some (.int v104), none, none, some (.int x109), none, some (.int (0 : Int32))]) rfl ?_
                                                                        refine s_lp2 hf (fun G1088 z1088 q1088 hf => ?_)
                                                                        have k1088 : ∀ (n : Nat) (x125 : Int32) (h126 : AH), G1088 n x125 h126 = some r → WW (sF X h126) h126 (133 + 12 * k447) (7949 + 135 * k447) 1088 [some (.ref b), some (rB (xD X).1 v1), some (.int (v4 - v4 / (8 : Int32) * (8 : Int32))), none, none, none, some (rB (xD X).1 v61), some (rB (xD X).1 v65), some (rB (xD X).1 v67), some (rB (xD X).1 v69), some (rB (xD X).1 v71), some (rB (xD X).1 v73), some (.int x75), some (.int x76), none, some (.int ((v87 &&& (3 : Int32)) - (v87 &&& (3 : Int32)) / (3 : Int32) * (3 : Int32))), none, none, some (.int x88), some (rB (xD X).1 v89), none, none, none, some (.int v104), none, none, none, none, some (.int x125)] [] := by
                                                                          intro n
                                                                          induction n with
                                                                          | zero =>
                                                                            intro x125 h126 hf
                                                                            rw [z1088] at hf
                                                                            cases hf
                                                                          | succ n ih1088 =>
                                                                            intro x125 h126 hf
                                                                            have hf := (q1088 n x125 h126).symm.trans hf
                                                                            refine s_iload (C _) dL_law_1088 rfl ?_
                                                                            refine s_iload (C _) dL_law_1090 rfl ?_
                                                                            refine s_icmp_gt (tgt := 1114) (C _) dL_law_1092 (by decide) hf (fun hf => ?_) (fun hf => ?_)
                                                                            · refine s_aload (C _) dL_law_1114 rfl ?_
                                                                              refine s_iload (C _) dL_law_1116 rfl ?_
                                                                              refine s_dup2 (C _) dL_law_1118 c1_i c1_r ?_
                                                                              refine L_iaload C0 dL_law_1119 hf (fun v127 hf => ?_)
                                                                              refine s_iconst (C _) dL_law_1120 (v := (1 : Int32)) (by decide) ?_
                                                                              refine s_iadd (C _) dL_law_1121 ?_
                                                                              refine L_iastore C0 dL_law_1122 hf (fun h128 hf => ?_)
                                                                              refine s_iinc (C _) dL_law_1123 (v := (x75 + 1)) rfl rfl (by decide) (nc_r rfl) (lv' := [some (.ref b), some (rB (xD X).1 v1), some (.int (v4 - v4 / (8 : Int32) * (8 : Int32))), none, none, none, some (rB (xD X).1 v61), some (rB (xD X).1 v65), some (rB (xD X).1 v67), some (rB (xD X).1 v69), some (rB (xD X).1 v71), some (rB (xD X).1 v73), some (.int (x75 + 1)), some (.int x76), none, some (.int ((v87 &&& (3 : Int32)) - (v87 &&& (3 : Int32)) / (3 : Int32) * (3 : Int32))), none, none, some (.int x88), some (rB (xD X).1 v89), none, none, none, some (.int v104), none, none, none, none, some (.int x125)]) rfl ?_
                                                                              refine s_aload_n (C _) dL_law_1126 rfl ?_
                                                                              refine s_bipush (C _) dL_law_1127 (v := (9 : Int32)) (by decide) ?_
                                                                              refine s_callVL (rvf := fun x => some (.int x)) (st := []) (fr := 2) (lo := 46) (mc := 0) (ms := 0) (C _) [11] wc_X11_count wml_L_18 wim_X11_count wsl_11_X11_count dL_law_1129 (As := [.inl (9 : Int32)]) rfl hf (fun x h' hF => c_X11_count _ _ _ _ _ (x, h') hF) rfl (Nat.le_of_ble_eq_true rfl) (room_ok hX (Nat.le_of_ble_eq_true rfl) (Nat.le_of_ble_eq_true rfl)) (cell_ok hX (by omega) (by omega)) (fun v130 h129 hf => ?_)
                                                                              refine s_jn hf (fun j1164 e1164 hf => ?_)
                                                                              have k1164 : ∀ (h131 : AH), j1164 h131 = some r → WW (sF X h131) h131 (133 + 12 * k447) (7949 + 135 * k447) 1164 [none, none, none, none, none, none, none, none, none, none, none, none, none, none, none, none, none, none, none, none, none, none, none, none, none, none, none, none, none] [] := by
                                                                                intro h131 hf
                                                                                rw [e1164] at hf
                                                                                refine s_iconst (C _) dL_law_1164 (v := (0 : Int32)) (by decide) ?_
                                                                                exact L_lawret C0 E0 h1 dL_law_1165 hf (by omega) (by omega)
                                                                              refine s_if_ne (tgt := 1164) (C _) dL_law_1132 (by decide) hf (fun hf => ?_) (fun hf => ?_)
                                                                              · refine s_widen (c := (133 + 12 * k447)) (s := (7949 + 135 * k447)) (by omega) (by omega) ?_
                                                                                refine s_weak (lv' := [none, none, none, none, none, none, none, none, none, none, none, none, none, none, none, none, none, none, none, none, none, none, none, none, none, none, none, none, none]) trivial ?_
                                                                                exact k1164 _ hf
                                                                              · refine s_aload_n (C _) dL_law_1135 rfl ?_
                                                                                refine s_iload (C _) dL_law_1136 rfl ?_
                                                                                refine s_iconst (C _) dL_law_1138 (v := (4 : Int32)) (by decide) ?_
                                                                                refine s_callVL (rvf := fun x => some (.int x)) (st := []) (fr := 3) (lo := 68) (mc := 0) (ms := 0) (C _) [11] wc_X11_ofBody wml_L_54 wim_X11_ofBody wsl_11_X11_ofBody dL_law_1139 (As := [.inl ((v87 &&& (3 : Int32)) - (v87 &&& (3 : Int32)) / (3 : Int32) * (3 : Int32)), .inl (4 : Int32)]) rfl hf (fun x h' hF => c_X11_ofBody _ _ _ _ _ _ (x, h') hF) rfl (Nat.le_of_ble_eq_true rfl) (room_ok hX (Nat.le_of_ble_eq_true rfl) (Nat.le_of_ble_eq_true rfl)) (cell_ok hX (by omega) (by omega)) (fun v133 h132 hf => ?_)
                                                                                refine s_aload (C _) dL_law_1142 rfl ?_
                                                                                refine s_iload (C _) dL_law_1144 rfl ?_
                                                                                refine L_iaload C0 dL_law_1146 hf (fun v134 hf => ?_)
                                                                                refine s_icmp_ne (tgt := 1164) (C _) dL_law_1147 (by decide) hf (fun hf => ?_) (fun hf => ?_)
                                                                                · refine s_widen (c := (133 + 12 * k447)) (s := (7949 + 135 * k447)) (by omega) (by omega) ?_
                                                                                  refine s_weak (lv' := [none, none, none, none, none, none, none, none, none, none, none, none, none, none, none, none, none, none, none, none, none, none, none, none, none, none, none, none, none]) trivial ?_
                                                                                  exact k1164 _ hf
                                                                                · refine s_aload_n (C _) dL_law_1150 rfl ?_
                                                                                  refine s_iconst (C _) dL_law_1151 (v := (2 : Int32)) (by decide) ?_
                                                                                  refine s_iload (C _) dL_law_1152 rfl ?_
                                                                                  refine s_iadd (C _) dL_law_1154 ?_
                                                                                  refine s_iconst (C _) dL_law_1155 (v := (5 : Int32)) (by decide) ?_
                                                                                  refine s_callVL (rvf := fun x => some (.int x)) (st := []) (fr := 3) (lo := 68) (mc := 0) (ms := 0) (C _) [11] wc_X11_ofBody wml_L_54 wim_X11_ofBody wsl_11_X11_ofBody dL_law_1156 (As := [.inl ((2 : Int32) + (x75 + 1)), .inl (5 : Int32)]) rfl hf (fun x h' hF => c_X11_ofBody _ _ _ _ _ _ (x, h') hF) rfl (Nat.le_of_ble_eq_true rfl) (room_ok hX (Nat.le_of_ble_eq_true rfl) (Nat.le_of_ble_eq_true rfl)) (cell_ok hX (by omega) (by omega)) (fun v136 h135 hf => ?_)
                                                                                  refine s_iload (C _) dL_law_1159 rfl ?_
                                                                                  refine s_icmp_eq (tgt := 1166) (C _) dL_law_1161 (by decide) hf (fun hf => ?_) (fun hf => ?_)
                                                                                  · refine s_widen (c := (133 + 12 * k447)) (s := (7949 + 135 * k447)) (by omega) (by omega) ?_
                                                                                    refine s_weak (lv' := [some (.ref b), some (rB (xD X).1 v1), some (.int (v4 - v4 / (8 : Int32) * (8 : Int32))), none, none, none, some (rB (xD X).1 v61), some (rB (xD X).1 v65), some (rB (xD X).1 v67), some (rB (xD X).1 v69), some (rB (xD X).1 v71), some (rB (xD X).1 v73), some (.int (x75 + 1)), some (.int x76), none, none, none, none, none, none, none, none, none, none, none, none, none, none, none]) ⟨rfl, ⟨rfl, ⟨rfl, ⟨rfl, ⟨rfl, ⟨rfl, ⟨rfl, ⟨rfl, ⟨rfl, ⟨rfl, ⟨rfl, trivial⟩⟩⟩⟩⟩⟩⟩⟩⟩⟩⟩ ?_
                                                                                    exact k1166 _ _ hf
                                                                                  · refine s_widen (c := (133 + 12 * k447)) (s := (7949 + 135 * k447)) (by omega) (by omega) ?_
                                                                                    refine s_weak (lv' := [none, none, none, none, none, none, none, none, none, none, none, none, none, none, none, none, none, none, none, none, none, none, none, none, none, none, none, none, none]) trivial ?_
                                                                                    exact k1164 _ hf
                                                                            · refine s_aload (C _) dL_law_1095 rfl ?_
                                                                              refine s_iload (C _) dL_law_1097 rfl ?_
                                                                              refine L_aaload C0 dL_law_1099 hf (fun v137 hf => ?_)
                                                                              refine s_iload (C _) dL_law_1100 rfl ?_
                                                                              refine s_aload (C _) dL_law_1102 rfl ?_
                                                                              refine s_iload (C _) dL_law_1104 rfl ?_
                                                                              refine L_iaload C0 dL_law_1106 hf (fun v138 hf => ?_)
                                                                              refine L_iastore C0 dL_law_1107 hf (fun h139 hf => ?_)
                                                                              refine s_iinc (C _) dL_law_1108 (v := (x125 + 1)) rfl rfl (by decide) (nc_n rfl) (lv' := [some (.ref b), some (rB (xD X).1 v1), some (.int (v4 - v4 / (8 : Int32) * (8 : Int32))), none, none, none, some (rB (xD X).1 v61), some (rB (xD X).1 v65), some (rB (xD X).1 v67), some (rB (xD X).1 v69), some (rB (xD X).1 v71), some (rB (xD X).1 v73), some (.int x75), some (.int x76), none, some (.int ((v87 &&& (3 : Int32)) - (v87 &&& (3 : Int32)) / (3 : Int32) * (3 : Int32))), none, none, some (.int x88), some (rB (xD X).1 v89), none, none, none, some (.int v104), none, none, none, none, some (.int (x125 + 1))]) rfl ?_
                                                                              refine s_goto (tgt := 1088) (C _) dL_law_1111 (by decide) ?_
                                                                              refine s_widen (c := (133 + 12 * k447)) (s := (7949 + 135 * k447)) (by omega) (by omega) ?_
                                                                              exact ih1088 _ _ hf
                                                                        refine s_weak (lv' := [some (.ref b), some (rB (xD X).1 v1), some (.int (v4 - v4 / (8 : Int32) * (8 : Int32))), none, none, none, some (rB (xD X).1 v61), some (rB (xD X).1 v65), some (rB (xD X).1 v67), some (rB (xD X).1 v69), some (rB (xD X).1 v71), some (rB (xD X).1 v73), some (.int x75), some (.int x76), none, some (.int ((v87 &&& (3 : Int32)) - (v87 &&& (3 : Int32)) / (3 : Int32) * (3 : Int32))), none, none, some (.int x88), some (rB (xD X).1 v89), none, none, none, some (.int v104), none, none, none, none, some (.int (0 : Int32))]) ⟨rfl, ⟨rfl, ⟨rfl, ⟨rfl, ⟨rfl, ⟨rfl, ⟨rfl, ⟨rfl, ⟨rfl, ⟨rfl, ⟨rfl, ⟨rfl, ⟨rfl, ⟨rfl, ⟨rfl, ⟨rfl, trivial⟩⟩⟩⟩⟩⟩⟩⟩⟩⟩⟩⟩⟩⟩⟩⟩ ?_
                                                                        refine s_widen (c := (133 + 12 * k447)) (s := (7949 + 135 * k447)) (by omega) (by omega) ?_
                                                                        exact k1088 lpN _ _ hf
                                                                      · refine s_iload (C _) dL_law_1030 rfl ?_
                                                                        refine s_jn hf (fun j1048 e1048 hf => ?_)
                                                                        have k1048 : ∀ (h140 : AH), j1048 h140 = some r → WW (sF X h140) h140 (133 + 12 * k447) (7949 + 135 * k447) 1048 [some (.ref b), some (rB (xD X).1 v1), some (.int (v4 - v4 / (8 : Int32) * (8 : Int32))), none, none, none, some (rB (xD X).1 v61), some (rB (xD X).1 v65), some (rB (xD X).1 v67), some (rB (xD X).1 v69), some (rB (xD X).1 v71), some (rB (xD X).1 v73), some (.int x75), some (.int x76), none, none, none, none, some (.int x88), none, none, none, none, none, none, none, none, none, none] [] := by
                                                                          intro h140 hf
                                                                          rw [e1048] at hf
                                                                          refine s_aload_n (C _) dL_law_1048 rfl ?_
                                                                          refine s_bipush (C _) dL_law_1049 (v := (9 : Int32)) (by decide) ?_
                                                                          refine s_callVL (rvf := fun x => some (.int x)) (st := []) (fr := 2) (lo := 46) (mc := 0) (ms := 0) (C _) [11] wc_X11_count wml_L_18 wim_X11_count wsl_11_X11_count dL_law_1051 (As := [.inl (9 : Int32)]) rfl hf (fun x h' hF => c_X11_count _ _ _ _ _ (x, h') hF) rfl (Nat.le_of_ble_eq_true rfl) (room_ok hX (Nat.le_of_ble_eq_true rfl) (Nat.le_of_ble_eq_true rfl)) (cell_ok hX (by omega) (by omega)) (fun v142 h141 hf => ?_)
                                                                          refine s_jn hf (fun j1064 e1064 hf => ?_)
                                                                          have k1064 : j1064  = some r → WW (sF X h141) h141 (133 + 12 * k447) (7949 + 135 * k447) 1064 [some (.ref b), some (rB (xD X).1 v1), some (.int (v4 - v4 / (8 : Int32) * (8 : Int32))), none, none, none, some (rB (xD X).1 v61), some (rB (xD X).1 v65), some (rB (xD X).1 v67), some (rB (xD X).1 v69), some (rB (xD X).1 v71), some (rB (xD X).1 v73), some (.int x75), some (.int x76), none, none, none, none, some (.int x88), none, none, none, none, none, none, none, none, none, none] [] := by
                                                                            intro  hf
                                                                            rw [e1064] at hf
                                                                            refine s_iload (C _) dL_law_1064 rfl ?_
                                                                            refine s_if_le (tgt := 1166) (C _) dL_law_1066 (by decide) hf (fun hf => ?_) (fun hf => ?_)
                                                                            · refine s_widen (c := (133 + 12 * k447)) (s := (7949 + 135 * k447)) (by omega) (by omega) ?_
                                                                              refine s_weak (lv' := [some (.ref b), some (rB (xD X).1 v1), some (.int (v4 - v4 / (8 : Int32) * (8 : Int32))), none, none, none, some (rB (xD X).1 v61), some (rB (xD X).1 v65), some (rB (xD X).1 v67), some (rB (xD X).1 v69), some (rB (xD X).1 v71), some (rB (xD X).1 v73), some (.int x75), some (.int x76), none, none, none, none, none, none, none, none, none, none, none, none, none, none, none]) ⟨rfl, ⟨rfl, ⟨rfl, ⟨rfl, ⟨rfl, ⟨rfl, ⟨rfl, ⟨rfl, ⟨rfl, ⟨rfl, ⟨rfl, trivial⟩⟩⟩⟩⟩⟩⟩⟩⟩⟩⟩ ?_
                                                                              exact k1166 _ _ hf
                                                                            · refine s_iconst (C _) dL_law_1069 (v := (1 : Int32)) (by decide) ?_
                                                                              exact L_lawret C0 E0 h1 dL_law_1070 hf (by omega) (by omega)
                                                                          refine s_if_le (tgt := 1064) (C _) dL_law_1054 (by decide) hf (fun hf => ?_) (fun hf => ?_)
                                                                          · refine s_widen (c := (133 + 12 * k447)) (s := (7949 + 135 * k447)) (by omega) (by omega) ?_
                                                                            exact k1064 hf
                                                                          · refine s_iload (C _) dL_law_1057 rfl ?_
                                                                            refine s_if_ne (tgt := 1064) (C _) dL_law_1059 (by decide) hf (fun hf => ?_) (fun hf => ?_)
                                                                            · refine s_widen (c := (133 + 12 * k447)) (s := (7949 + 135 * k447)) (by omega) (by omega) ?_
                                                                              exact k1064 hf
                                                                            · refine s_iconst (C _) dL_law_1062 (v := (0 : Int32)) (by decide) ?_
                                                                              exact L_lawret C0 E0 h1 dL_law_1063 hf (by omega) (by omega)
                                                                        refine s_if_le (tgt := 1048) (C _) dL_law_1032 (by decide) hf (fun hf => ?_) (fun hf => ?_)
                                                                        · refine s_widen (c := (133 + 12 * k447)) (s := (7949 + 135 * k447)) (by omega) (by omega) ?_
                                                                          refine s_weak (lv' := [some (.ref b), some (rB (xD X).1 v1), some (.int (v4 - v4 / (8 : Int32) * (8 : Int32))), none, none, none, some (rB (xD X).1 v61), some (rB (xD X).1 v65), some (rB (xD X).1 v67), some (rB (xD X).1 v69), some (rB (xD X).1 v71), some (rB (xD X).1 v73), some (.int x75), some (.int x76), none, none, none, none, some (.int x88), none, none, none, none, none, none, none, none, none, none]) ⟨rfl, ⟨rfl, ⟨rfl, ⟨rfl, ⟨rfl, ⟨rfl, ⟨rfl, ⟨rfl, ⟨rfl, ⟨rfl, ⟨rfl, ⟨rfl, trivial⟩⟩⟩⟩⟩⟩⟩⟩⟩⟩⟩⟩ ?_
                                                                          exact k1048 _ hf
                                                                        · refine s_aload_n (C _) dL_law_1035 rfl ?_
                                                                          refine s_bipush (C _) dL_law_1036 (v := (9 : Int32)) (by decide) ?_
                                                                          refine s_callVL (rvf := fun x => some (.int x)) (st := []) (fr := 2) (lo := 46) (mc := 0) (ms := 0) (C _) [11] wc_X11_count wml_L_18 wim_X11_count wsl_11_X11_count dL_law_1038 (As := [.inl (9 : Int32)]) rfl hf (fun x h' hF => c_X11_count _ _ _ _ _ (x, h') hF) rfl (Nat.le_of_ble_eq_true rfl) (room_ok hX (Nat.le_of_ble_eq_true rfl) (Nat.le_of_ble_eq_true rfl)) (cell_ok hX (by omega) (by omega)) (fun v144 h143 hf => ?_)
                                                                          refine s_iload (C _) dL_law_1041 rfl ?_
                                                                          refine s_icmp_eq (tgt := 1048) (C _) dL_law_1043 (by decide) hf (fun hf => ?_) (fun hf => ?_)
                                                                          · refine s_widen (c := (133 + 12 * k447)) (s := (7949 + 135 * k447)) (by omega) (by omega) ?_
                                                                            refine s_weak (lv' := [some (.ref b), some (rB (xD X).1 v1), some (.int (v4 - v4 / (8 : Int32) * (8 : Int32))), none, none, none, some (rB (xD X).1 v61), some (rB (xD X).1 v65), some (rB (xD X).1 v67), some (rB (xD X).1 v69), some (rB (xD X).1 v71), some (rB (xD X).1 v73), some (.int x75), some (.int x76), none, none, none, none, some (.int x88), none, none, none, none, none, none, none, none, none, none]) ⟨rfl, ⟨rfl, ⟨rfl, ⟨rfl, ⟨rfl, ⟨rfl, ⟨rfl, ⟨rfl, ⟨rfl, ⟨rfl, ⟨rfl, ⟨rfl, trivial⟩⟩⟩⟩⟩⟩⟩⟩⟩⟩⟩⟩ ?_
                                                                            exact k1048 _ hf
                                                                          · refine s_iconst (C _) dL_law_1046 (v := (0 : Int32)) (by decide) ?_
                                                                            exact L_lawret C0 E0 h1 dL_law_1047 hf (by omega) (by omega)
                                                                    · refine s_iconst (C _) dL_law_1023 (v := (0 : Int32)) (by decide) ?_
                                                                      exact L_lawret C0 E0 h1 dL_law_1024 hf (by omega) (by omega)
                                                                  refine s_if_le (tgt := 1016) (C _) dL_law_1005 (by decide) hf (fun hf => ?_) (fun hf => ?_)
                                                                  · refine s_iconst (C _) dL_law_1016 (v := (3 : Int32)) (by decide) ?_
                                                                    refine s_iload (C _) dL_law_1017 rfl ?_
                                                                    refine s_iadd (C _) dL_law_1019 ?_
                                                                    refine s_widen (c := (133 + 12 * k447)) (s := (7949 + 135 * k447)) (by omega) (by omega) ?_
                                                                    refine s_weak (lv' := [some (.ref b), some (rB (xD X).1 v1), some (.int (v4 - v4 / (8 : Int32) * (8 : Int32))), none, none, none, some (rB (xD X).1 v61), some (rB (xD X).1 v65), some (rB (xD X).1 v67), some (rB (xD X).1 v69), some (rB (xD X).1 v71), some (rB (xD X).1 v73), some (.int x75), some (.int x76), none, some (.int ((v87 &&& (3 : Int32)) - (v87 &&& (3 : Int32)) / (3 : Int32) * (3 : Int32))), none, none, some (.int x88), some (rB (xD X).1 v89), none, none, none, some (.int v104), none, none, some (.int x109), none, none]) ⟨rfl, ⟨rfl, ⟨rfl, ⟨rfl, ⟨rfl, ⟨rfl, ⟨rfl, ⟨rfl, ⟨rfl, ⟨rfl, ⟨rfl, ⟨rfl, ⟨rfl, ⟨rfl, ⟨rfl, ⟨rfl, trivial⟩⟩⟩⟩⟩⟩⟩⟩⟩⟩⟩⟩⟩⟩⟩⟩ ?_
                                                                    exact k1020 _ hf
                                                                  · refine s_bipush (C _) dL_law_1008 (v := (-20 : Int32)) (by decide) ?_
                                                                    refine s_iload (C _) dL_law_1010 rfl ?_
                                                                    refine s_isub (C _) dL_law_1012 ?_
                                                                    refine s_goto (tgt := 1020) (C _) dL_law_1013 (by decide) ?_
                                                                    refine s_widen (c := (133 + 12 * k447)) (s := (7949 + 135 * k447)) (by omega) (by omega) ?_
                                                                    refine s_weak (lv' := [some (.ref b), some (rB (xD X).1 v1), some (.int (v4 - v4 / (8 : Int32) * (8 : Int32))), none, none, none, some (rB (xD X).1 v61), some (rB (xD X).1 v65), some (rB (xD X).1 v67), some (rB (xD X).1 v69), some (rB (xD X).1 v71), some (rB (xD X).1 v73), some (.int x75), some (.int x76), none, some (.int ((v87 &&& (3 : Int32)) - (v87 &&& (3 : Int32)) / (3 : Int32) * (3 : Int32))), none, none, some (.int x88), some (rB (xD X).1 v89), none, none, none, some (.int v104), none, none, some (.int x109), none, none]) ⟨rfl, ⟨rfl, ⟨rfl, ⟨rfl, ⟨rfl, ⟨rfl, ⟨rfl, ⟨rfl, ⟨rfl, ⟨rfl, ⟨rfl, ⟨rfl, ⟨rfl, ⟨rfl, ⟨rfl, ⟨rfl, trivial⟩⟩⟩⟩⟩⟩⟩⟩⟩⟩⟩⟩⟩⟩⟩⟩ ?_
                                                                    exact k1020 _ hf
                                                                · refine s_widen (c := (122 + 12 * k447)) (s := (7817 + 135 * k447)) (by omega) (by omega) ?_
                                                                  refine s_weak (lv' := [none, none, none, none, none, none, none, none, none, none, none, none, none, none, none, none, none, none, none, none, none, none, none, none, none, none, none, none, none]) trivial ?_
                                                                  exact k991 _ hf
                                                          refine s_icmp_ne (tgt := 939) (C _) dL_law_932 (by decide) hf (fun hf => ?_) (fun hf => ?_)
                                                          · refine s_iload (C _) dL_law_939 rfl ?_
                                                            refine s_widen (c := (122 + 12 * k447)) (s := (7817 + 135 * k447)) (by omega) (by omega) ?_
                                                            exact k941 _ hf
                                                          · refine s_iconst (C _) dL_law_935 (v := (3 : Int32)) (by decide) ?_
                                                            refine s_goto (tgt := 941) (C _) dL_law_936 (by decide) ?_
                                                            refine s_widen (c := (122 + 12 * k447)) (s := (7817 + 135 * k447)) (by omega) (by omega) ?_
                                                            exact k941 _ hf
                                                        refine s_if_ne (tgt := 899) (C _) dL_law_892 (by decide) hf (fun hf => ?_) (fun hf => ?_)
                                                        · refine s_iload (C _) dL_law_899 rfl ?_
                                                          refine s_if_ne (tgt := 908) (C _) dL_law_901 (by decide) hf (fun hf => ?_) (fun hf => ?_)
                                                          · refine s_iload (C _) dL_law_908 rfl ?_
                                                            refine s_if_eq (tgt := 917) (C _) dL_law_910 (by decide) hf (fun hf => ?_) (fun hf => ?_)
                                                            · refine s_iload (C _) dL_law_917 rfl ?_
                                                              refine s_if_eq (tgt := 926) (C _) dL_law_919 (by decide) hf (fun hf => ?_) (fun hf => ?_)
                                                              · refine s_iconst (C _) dL_law_926 (v := (0 : Int32)) (by decide) ?_
                                                                refine s_widen (c := (122 + 12 * k447)) (s := (7817 + 135 * k447)) (by omega) (by omega) ?_
                                                                refine s_weak (lv' := [some (.ref b), some (rB (xD X).1 v1), some (.int (v4 - v4 / (8 : Int32) * (8 : Int32))), none, none, none, some (rB (xD X).1 v61), some (rB (xD X).1 v65), some (rB (xD X).1 v67), some (rB (xD X).1 v69), some (rB (xD X).1 v71), some (rB (xD X).1 v73), some (.int x75), some (.int x76), none, some (.int ((v87 &&& (3 : Int32)) - (v87 &&& (3 : Int32)) / (3 : Int32) * (3 : Int32))), some (.int ((1 : Int32) + (((v87 >>> ((2 : Int32) &&& 31)) &&& (7 : Int32)) - ((v87 >>> ((2 : Int32) &&& 31)) &&& (7 : Int32)) / (5 : Int32) * (5 : Int32)))), some (.int ((v87 >>> ((5 : Int32) &&& 31)) - (v87 >>> ((5 : Int32) &&& 31)) / (60 : Int32) * (60 : Int32))), some (.int x88), some (rB (xD X).1 v89), none, none, none, some (.int v104), none, none, none, none, none]) ⟨rfl, ⟨rfl, ⟨rfl, ⟨rfl, ⟨rfl, ⟨rfl, ⟨rfl, ⟨rfl, ⟨rfl, ⟨rfl, ⟨rfl, ⟨rfl, ⟨rfl, ⟨rfl, ⟨rfl, ⟨rfl, ⟨rfl, trivial⟩⟩⟩⟩⟩⟩⟩⟩⟩⟩⟩⟩⟩⟩⟩⟩⟩ ?_
                                                                exact k927 _ hf
                                                              · refine s_iconst (C _) dL_law_922 (v := (4 : Int32)) (by decide) ?_
                                                                refine s_goto (tgt := 927) (C _) dL_law_923 (by decide) ?_
                                                                refine s_widen (c := (122 + 12 * k447)) (s := (7817 + 135 * k447)) (by omega) (by omega) ?_
                                                                refine s_weak (lv' := [some (.ref b), some (rB (xD X).1 v1), some (.int (v4 - v4 / (8 : Int32) * (8 : Int32))), none, none, none, some (rB (xD X).1 v61), some (rB (xD X).1 v65), some (rB (xD X).1 v67), some (rB (xD X).1 v69), some (rB (xD X).1 v71), some (rB (xD X).1 v73), some (.int x75), some (.int x76), none, some (.int ((v87 &&& (3 : Int32)) - (v87 &&& (3 : Int32)) / (3 : Int32) * (3 : Int32))), some (.int ((1 : Int32) + (((v87 >>> ((2 : Int32) &&& 31)) &&& (7 : Int32)) - ((v87 >>> ((2 : Int32) &&& 31)) &&& (7 : Int32)) / (5 : Int32) * (5 : Int32)))), some (.int ((v87 >>> ((5 : Int32) &&& 31)) - (v87 >>> ((5 : Int32) &&& 31)) / (60 : Int32) * (60 : Int32))), some (.int x88), some (rB (xD X).1 v89), none, none, none, some (.int v104), none, none, none, none, none]) ⟨rfl, ⟨rfl, ⟨rfl, ⟨rfl, ⟨rfl, ⟨rfl, ⟨rfl, ⟨rfl, ⟨rfl, ⟨rfl, ⟨rfl, ⟨rfl, ⟨rfl, ⟨rfl, ⟨rfl, ⟨rfl, ⟨rfl, trivial⟩⟩⟩⟩⟩⟩⟩⟩⟩⟩⟩⟩⟩⟩⟩⟩⟩ ?_
                                                                exact k927 _ hf
                                                            · refine s_iconst (C _) dL_law_913 (v := (3 : Int32)) (by decide) ?_
                                                              refine s_goto (tgt := 927) (C _) dL_law_914 (by decide) ?_
                                                              refine s_widen (c := (122 + 12 * k447)) (s := (7817 + 135 * k447)) (by omega) (by omega) ?_
                                                              refine s_weak (lv' := [some (.ref b), some (rB (xD X).1 v1), some (.int (v4 - v4 / (8 : Int32) * (8 : Int32))), none, none, none, some (rB (xD X).1 v61), some (rB (xD X).1 v65), some (rB (xD X).1 v67), some (rB (xD X).1 v69), some (rB (xD X).1 v71), some (rB (xD X).1 v73), some (.int x75), some (.int x76), none, some (.int ((v87 &&& (3 : Int32)) - (v87 &&& (3 : Int32)) / (3 : Int32) * (3 : Int32))), some (.int ((1 : Int32) + (((v87 >>> ((2 : Int32) &&& 31)) &&& (7 : Int32)) - ((v87 >>> ((2 : Int32) &&& 31)) &&& (7 : Int32)) / (5 : Int32) * (5 : Int32)))), some (.int ((v87 >>> ((5 : Int32) &&& 31)) - (v87 >>> ((5 : Int32) &&& 31)) / (60 : Int32) * (60 : Int32))), some (.int x88), some (rB (xD X).1 v89), none, none, none, some (.int v104), none, none, none, none, none]) ⟨rfl, ⟨rfl, ⟨rfl, ⟨rfl, ⟨rfl, ⟨rfl, ⟨rfl, ⟨rfl, ⟨rfl, ⟨rfl, ⟨rfl, ⟨rfl, ⟨rfl, ⟨rfl, ⟨rfl, ⟨rfl, ⟨rfl, trivial⟩⟩⟩⟩⟩⟩⟩⟩⟩⟩⟩⟩⟩⟩⟩⟩⟩ ?_
                                                              exact k927 _ hf
                                                          · refine s_iconst (C _) dL_law_904 (v := (2 : Int32)) (by decide) ?_
                                                            refine s_goto (tgt := 927) (C _) dL_law_905 (by decide) ?_
                                                            refine s_widen (c := (122 + 12 * k447)) (s := (7817 + 135 * k447)) (by omega) (by omega) ?_
                                                            refine s_weak (lv' := [some (.ref b), some (rB (xD X).1 v1), some (.int (v4 - v4 / (8 : Int32) * (8 : Int32))), none, none, none, some (rB (xD X).1 v61), some (rB (xD X).1 v65), some (rB (xD X).1 v67), some (rB (xD X).1 v69), some (rB (xD X).1 v71), some (rB (xD X).1 v73), some (.int x75), some (.int x76), none, some (.int ((v87 &&& (3 : Int32)) - (v87 &&& (3 : Int32)) / (3 : Int32) * (3 : Int32))), some (.int ((1 : Int32) + (((v87 >>> ((2 : Int32) &&& 31)) &&& (7 : Int32)) - ((v87 >>> ((2 : Int32) &&& 31)) &&& (7 : Int32)) / (5 : Int32) * (5 : Int32)))), some (.int ((v87 >>> ((5 : Int32) &&& 31)) - (v87 >>> ((5 : Int32) &&& 31)) / (60 : Int32) * (60 : Int32))), some (.int x88), some (rB (xD X).1 v89), none, none, none, some (.int v104), none, none, none, none, none]) ⟨rfl, ⟨rfl, ⟨rfl, ⟨rfl, ⟨rfl, ⟨rfl, ⟨rfl, ⟨rfl, ⟨rfl, ⟨rfl, ⟨rfl, ⟨rfl, ⟨rfl, ⟨rfl, ⟨rfl, ⟨rfl, ⟨rfl, trivial⟩⟩⟩⟩⟩⟩⟩⟩⟩⟩⟩⟩⟩⟩⟩⟩⟩ ?_
                                                            exact k927 _ hf
                                                        · refine s_iconst (C _) dL_law_895 (v := (1 : Int32)) (by decide) ?_
                                                          refine s_goto (tgt := 927) (C _) dL_law_896 (by decide) ?_
                                                          refine s_widen (c := (122 + 12 * k447)) (s := (7817 + 135 * k447)) (by omega) (by omega) ?_
                                                          refine s_weak (lv' := [some (.ref b), some (rB (xD X).1 v1), some (.int (v4 - v4 / (8 : Int32) * (8 : Int32))), none, none, none, some (rB (xD X).1 v61), some (rB (xD X).1 v65), some (rB (xD X).1 v67), some (rB (xD X).1 v69), some (rB (xD X).1 v71), some (rB (xD X).1 v73), some (.int x75), some (.int x76), none, some (.int ((v87 &&& (3 : Int32)) - (v87 &&& (3 : Int32)) / (3 : Int32) * (3 : Int32))), some (.int ((1 : Int32) + (((v87 >>> ((2 : Int32) &&& 31)) &&& (7 : Int32)) - ((v87 >>> ((2 : Int32) &&& 31)) &&& (7 : Int32)) / (5 : Int32) * (5 : Int32)))), some (.int ((v87 >>> ((5 : Int32) &&& 31)) - (v87 >>> ((5 : Int32) &&& 31)) / (60 : Int32) * (60 : Int32))), some (.int x88), some (rB (xD X).1 v89), none, none, none, some (.int v104), none, none, none, none, none]) ⟨rfl, ⟨rfl, ⟨rfl, ⟨rfl, ⟨rfl, ⟨rfl, ⟨rfl, ⟨rfl, ⟨rfl, ⟨rfl, ⟨rfl, ⟨rfl, ⟨rfl, ⟨rfl, ⟨rfl, ⟨rfl, ⟨rfl, trivial⟩⟩⟩⟩⟩⟩⟩⟩⟩⟩⟩⟩⟩⟩⟩⟩⟩ ?_
                                                          exact k927 _ hf
                                                      · refine s_aload (C _) dL_law_779 rfl ?_
                                                        refine s_iload (C _) dL_law_781 rfl ?_
                                                        refine L_zaload C0 dL_law_783 hf (fun v145 hf => ?_)
                                                        refine s_jn hf (fun j884 e884 hf => ?_)
                                                        have k884 : ∀ (x146 : Int32) (x147 : Int32) (h148 : AH), j884 x146 x147 h148 = some r → WW (sF X h148) h148 (122 + 12 * k447) (7817 + 135 * k447) 884 [some (.ref b), some (rB (xD X).1 v1), some (.int (v4 - v4 / (8 : Int32) * (8 : Int32))), none, none, none, some (rB (xD X).1 v61), some (rB (xD X).1 v65), some (rB (xD X).1 v67), some (rB (xD X).1 v69), some (rB (xD X).1 v71), some (rB (xD X).1 v73), some (.int x75), some (.int x76), none, some (.int ((v87 &&& (3 : Int32)) - (v87 &&& (3 : Int32)) / (3 : Int32) * (3 : Int32))), some (.int ((1 : Int32) + (((v87 >>> ((2 : Int32) &&& 31)) &&& (7 : Int32)) - ((v87 >>> ((2 : Int32) &&& 31)) &&& (7 : Int32)) / (5 : Int32) * (5 : Int32)))), some (.int ((v87 >>> ((5 : Int32) &&& 31)) - (v87 >>> ((5 : Int32) &&& 31)) / (60 : Int32) * (60 : Int32))), some (.int x88), some (rB (xD X).1 v89), none, some (.int x100), some (.int x101), some (.int v104), some (.int x146), some (.int x147), some (.int x107), none, none] [] := by
                                                          intro x146 x147 h148 hf
                                                          rw [e884] at hf
                                                          refine s_iinc (C _) dL_law_884 (v := (x107 + 1)) rfl rfl (by decide) (nc_i rfl) (lv' := [some (.ref b), some (rB (xD X).1 v1), some (.int (v4 - v4 / (8 : Int32) * (8 : Int32))), none, none, none, some (rB (xD X).1 v61), some (rB (xD X).1 v65), some (rB (xD X).1 v67), some (rB (xD X).1 v69), some (rB (xD X).1 v71), some (rB (xD X).1 v73), some (.int x75), some (.int x76), none, some (.int ((v87 &&& (3 : Int32)) - (v87 &&& (3 : Int32)) / (3 : Int32) * (3 : Int32))), some (.int ((1 : Int32) + (((v87 >>> ((2 : Int32) &&& 31)) &&& (7 : Int32)) - ((v87 >>> ((2 : Int32) &&& 31)) &&& (7 : Int32)) / (5 : Int32) * (5 : Int32)))), some (.int ((v87 >>> ((5 : Int32) &&& 31)) - (v87 >>> ((5 : Int32) &&& 31)) / (60 : Int32) * (60 : Int32))), some (.int x88), some (rB (xD X).1 v89), none, some (.int x100), some (.int x101), some (.int v104), some (.int x146), some (.int x147), some (.int (x107 + 1)), none, none]) rfl ?_
                                                          refine s_goto (tgt := 772) (C _) dL_law_887 (by decide) ?_
                                                          refine s_widen (c := (122 + 12 * k447)) (s := (7817 + 135 * k447)) (by omega) (by omega) ?_
                                                          exact ih772 _ _ _ _ hf
                                                        refine s_if_eq (tgt := 790) (C _) dL_law_784 (by decide) hf (fun hf => ?_) (fun hf => ?_)
                                                        · refine s_iload (C _) dL_law_790 rfl ?_
                                                          refine s_iload (C _) dL_law_792 rfl ?_
                                                          refine s_aload (C _) dL_law_794 rfl ?_
                                                          refine s_iload (C _) dL_law_796 rfl ?_
                                                          refine L_iaload C0 dL_law_798 hf (fun v149 hf => ?_)
                                                          refine s_callSL (rvf := fun x => some (.int x)) (st := [.int x105]) (fr := 1) (lo := 21) (mc := 0) (ms := 0) (C _) wc_L_far wml_L_57 wst_L_far dL_law_799 (As := [.inl v104, .inl v149]) rfl hf (fun x h' hF => c_L_far _ _ _ _ _ (x, h') hF) rfl (Nat.le_of_ble_eq_true rfl) (room_ok hX (Nat.le_of_ble_eq_true rfl) (Nat.le_of_ble_eq_true rfl)) (cell_ok hX (by omega) (by omega)) (fun v151 h150 hf => ?_)
                                                          refine s_iload_n (C _) dL_law_802 rfl ?_
                                                          refine s_jn hf (fun j835 e835 hf => ?_)
                                                          have k835 : ∀ (x152 : Int32) (h153 : AH), j835 x152 h153 = some r → WW (sF X h153) h153 (122 + 12 * k447) (7817 + 135 * k447) 835 [some (.ref b), some (rB (xD X).1 v1), some (.int (v4 - v4 / (8 : Int32) * (8 : Int32))), none, none, none, some (rB (xD X).1 v61), some (rB (xD X).1 v65), some (rB (xD X).1 v67), some (rB (xD X).1 v69), some (rB (xD X).1 v71), some (rB (xD X).1 v73), some (.int x75), some (.int x76), none, some (.int ((v87 &&& (3 : Int32)) - (v87 &&& (3 : Int32)) / (3 : Int32) * (3 : Int32))), some (.int ((1 : Int32) + (((v87 >>> ((2 : Int32) &&& 31)) &&& (7 : Int32)) - ((v87 >>> ((2 : Int32) &&& 31)) &&& (7 : Int32)) / (5 : Int32) * (5 : Int32)))), some (.int ((v87 >>> ((5 : Int32) &&& 31)) - (v87 >>> ((5 : Int32) &&& 31)) / (60 : Int32) * (60 : Int32))), some (.int x88), some (rB (xD X).1 v89), none, some (.int x100), some (.int x101), some (.int v104), none, some (.int x106), some (.int x107), none, none] [.int x152, .int x105] := by
                                                            intro x152 h153 hf
                                                            rw [e835] at hf
                                                            refine s_ior (C _) dL_law_835 ?_
                                                            refine s_istore (C _) dL_law_836 (by decide) (nc_i rfl) (lv' := [some (.ref b), some (rB (xD X).1 v1), some (.int (v4 - v4 / (8 : Int32) * (8 : Int32))), none, none, none, some (rB (xD X).1 v61), some (rB (xD X).1 v65), some (rB (xD X).1 v67), some (rB (xD X).1 v69), some (rB (xD X).1 v71), some (rB (xD X).1 v73), some (.int x75), some (.int x76), none, some (.int ((v87 &&& (3 : Int32)) - (v87 &&& (3 : Int32)) / (3 : Int32) * (3 : Int32))), some (.int ((1 : Int32) + (((v87 >>> ((2 : Int32) &&& 31)) &&& (7 : Int32)) - ((v87 >>> ((2 : Int32) &&& 31)) &&& (7 : Int32)) / (5 : Int32) * (5 : Int32)))), some (.int ((v87 >>> ((5 : Int32) &&& 31)) - (v87 >>> ((5 : Int32) &&& 31)) / (60 : Int32) * (60 : Int32))), some (.int x88), some (rB (xD X).1 v89), none, some (.int x100), some (.int x101), some (.int v104), some (.int (x105 ||| x152)), some (.int x106), some (.int x107), none, none]) rfl ?_
                                                            refine s_iconst (C _) dL_law_838 (v := (1 : Int32)) (by decide) ?_
                                                            refine s_istore (C _) dL_law_839 (by decide) (nc_i rfl) (lv' := [some (.ref b), some (rB (xD X).1 v1), some (.int (v4 - v4 / (8 : Int32) * (8 : Int32))), none, none, none, some (rB (xD X).1 v61), some (rB (xD X).1 v65), some (rB (xD X).1 v67), some (rB (xD X).1 v69), some (rB (xD X).1 v71), some (rB (xD X).1 v73), some (.int x75), some (.int x76), none, some (.int ((v87 &&& (3 : Int32)) - (v87 &&& (3 : Int32)) / (3 : Int32) * (3 : Int32))), some (.int ((1 : Int32) + (((v87 >>> ((2 : Int32) &&& 31)) &&& (7 : Int32)) - ((v87 >>> ((2 : Int32) &&& 31)) &&& (7 : Int32)) / (5 : Int32) * (5 : Int32)))), some (.int ((v87 >>> ((5 : Int32) &&& 31)) - (v87 >>> ((5 : Int32) &&& 31)) / (60 : Int32) * (60 : Int32))), some (.int x88), some (rB (xD X).1 v89), none, some (.int x100), some (.int x101), some (.int v104), some (.int (x105 ||| x152)), some (.int x106), some (.int x107), some (.int (1 : Int32)), none]) rfl ?_
                                                            refine s_lp3 hf (fun G841 z841 q841 hf => ?_)
                                                            have k841 : ∀ (n : Nat) (x154 : Int32) (x155 : Int32) (h156 : AH), G841 n x154 x155 h156 = some r → WW (sF X h156) h156 (122 + 12 * k447) (7817 + 135 * k447) 841 [some (.ref b), some (rB (xD X).1 v1), some (.int (v4 - v4 / (8 : Int32) * (8 : Int32))), none, none, none, some (rB (xD X).1 v61), some (rB (xD X).1 v65), some (rB (xD X).1 v67), some (rB (xD X).1 v69), some (rB (xD X).1 v71), some (rB (xD X).1 v73), some (.int x75), some (.int x76), none, some (.int ((v87 &&& (3 : Int32)) - (v87 &&& (3 : Int32)) / (3 : Int32) * (3 : Int32))), some (.int ((1 : Int32) + (((v87 >>> ((2 : Int32) &&& 31)) &&& (7 : Int32)) - ((v87 >>> ((2 : Int32) &&& 31)) &&& (7 : Int32)) / (5 : Int32) * (5 : Int32)))), some (.int ((v87 >>> ((5 : Int32) &&& 31)) - (v87 >>> ((5 : Int32) &&& 31)) / (60 : Int32) * (60 : Int32))), some (.int x88), some (rB (xD X).1 v89), none, some (.int x100), some (.int x101), some (.int v104), some (.int (x105 ||| x152)), some (.int x154), some (.int x107), some (.int x155), none] [] := by
                                                              intro n
                                                              induction n with
                                                              | zero =>
                                                                intro x154 x155 h156 hf
                                                                rw [z841] at hf
                                                                cases hf
                                                              | succ n ih841 =>
                                                                intro x154 x155 h156 hf
                                                                have hf := (q841 n x154 x155 h156).symm.trans hf
                                                                refine s_iload (C _) dL_law_841 rfl ?_
                                                                refine s_aload (C _) dL_law_843 rfl ?_
                                                                refine s_iload (C _) dL_law_845 rfl ?_
                                                                refine L_iaload C0 dL_law_847 hf (fun v157 hf => ?_)
                                                                refine s_icmp_ge (tgt := 884) (C _) dL_law_848 (by decide) hf (fun hf => ?_) (fun hf => ?_)
                                                                · refine s_widen (c := (122 + 12 * k447)) (s := (7817 + 135 * k447)) (by omega) (by omega) ?_
                                                                  refine s_weak (lv' := [some (.ref b), some (rB (xD X).1 v1), some (.int (v4 - v4 / (8 : Int32) * (8 : Int32))), none, none, none, some (rB (xD X).1 v61), some (rB (xD X).1 v65), some (rB (xD X).1 v67), some (rB (xD X).1 v69), some (rB (xD X).1 v71), some (rB (xD X).1 v73), some (.int x75), some (.int x76), none, some (.int ((v87 &&& (3 : Int32)) - (v87 &&& (3 : Int32)) / (3 : Int32) * (3 : Int32))), some (.int ((1 : Int32) + (((v87 >>> ((2 : Int32) &&& 31)) &&& (7 : Int32)) - ((v87 >>> ((2 : Int32) &&& 31)) &&& (7 : Int32)) / (5 : Int32) * (5 : Int32)))), some (.int ((v87 >>> ((5 : Int32) &&& 31)) - (v87 >>> ((5 : Int32) &&& 31)) / (60 : Int32) * (60 : Int32))), some (.int x88), some (rB (xD X).1 v89), none, some (.int x100), some (.int x101), some (.int v104), some (.int (x105 ||| x152)), some (.int x154), some (.int x107), none, none]) ⟨rfl, ⟨rfl, ⟨rfl, ⟨rfl, ⟨rfl, ⟨rfl, ⟨rfl, ⟨rfl, ⟨rfl, ⟨rfl, ⟨rfl, ⟨rfl, ⟨rfl, ⟨rfl, ⟨rfl, ⟨rfl, ⟨rfl, ⟨rfl, ⟨rfl, ⟨rfl, ⟨rfl, ⟨rfl, trivial⟩⟩⟩⟩⟩⟩⟩⟩⟩⟩⟩⟩⟩⟩⟩⟩⟩⟩⟩⟩⟩⟩ ?_
                                                                  exact k884 _ _ _ hf
                                                                · refine s_iload (C _) dL_law_851 rfl ?_
                                                                  refine s_iload (C _) dL_law_853 rfl ?_
                                                                  refine s_aload (C _) dL_law_855 rfl ?_
                                                                  refine s_iload (C _) dL_law_857 rfl ?_
                                                                  refine L_aaload C0 dL_law_859 hf (fun v158 hf => ?_)
                                                                  refine s_iload (C _) dL_law_860 rfl ?_
                                                                  refine L_iaload C0 dL_law_862 hf (fun v159 hf => ?_)
                                                                  refine s_callSL (rvf := fun x => some (.int x)) (st := [.int x154]) (fr := 1) (lo := 21) (mc := 0) (ms := 0) (C _) wc_L_far wml_L_57 wst_L_far dL_law_863 (As := [.inl v104, .inl v159]) rfl hf (fun x h' hF => c_L_far _ _ _ _ _ (x, h') hF) rfl (Nat.le_of_ble_eq_true rfl) (room_ok hX (Nat.le_of_ble_eq_true rfl) (Nat.le_of_ble_eq_true rfl)) (cell_ok hX (by omega) (by omega)) (fun v161 h160 hf => ?_)
                                                                  refine s_iload_n (C _) dL_law_866 rfl ?_
                                                                  refine s_jn hf (fun j875 e875 hf => ?_)
                                                                  have k875 : ∀ (x162 : Int32), j875 x162 = some r → WW (sF X h160) h160 (122 + 12 * k447) (7817 + 135 * k447) 875 [some (.ref b), some (rB (xD X).1 v1), some (.int (v4 - v4 / (8 : Int32) * (8 : Int32))), none, none, none, some (rB (xD X).1 v61), some (rB (xD X).1 v65), some (rB (xD X).1 v67), some (rB (xD X).1 v69), some (rB (xD X).1 v71), some (rB (xD X).1 v73), some (.int x75), some (.int x76), none, some (.int ((v87 &&& (3 : Int32)) - (v87 &&& (3 : Int32)) / (3 : Int32) * (3 : Int32))), some (.int ((1 : Int32) + (((v87 >>> ((2 : Int32) &&& 31)) &&& (7 : Int32)) - ((v87 >>> ((2 : Int32) &&& 31)) &&& (7 : Int32)) / (5 : Int32) * (5 : Int32)))), some (.int ((v87 >>> ((5 : Int32) &&& 31)) - (v87 >>> ((5 : Int32) &&& 31)) / (60 : Int32) * (60 : Int32))), some (.int x88), some (rB (xD X).1 v89), none, some (.int x100), some (.int x101), some (.int v104), some (.int (x105 ||| x152)), none, some (.int x107), some (.int x155), none] [.int x162, .int x154] := by
                                                                    intro x162 hf
                                                                    rw [e875] at hf
                                                                    refine s_ior (C _) dL_law_875 ?_
                                                                    refine s_istore (C _) dL_law_876 (by decide) (nc_i rfl) (lv' := [some (.ref b), some (rB (xD X).1 v1), some (.int (v4 - v4 / (8 : Int32) * (8 : Int32))), none, none, none, some (rB (xD X).1 v61), some (rB (xD X).1 v65), some (rB (xD X).1 v67), some (rB (xD X).1 v69), some (rB (xD X).1 v71), some (rB (xD X).1 v73), some (.int x75), some (.int x76), none, some (.int ((v87 &&& (3 : Int32)) - (v87 &&& (3 : Int32)) / (3 : Int32) * (3 : Int32))), some (.int ((1 : Int32) + (((v87 >>> ((2 : Int32) &&& 31)) &&& (7 : Int32)) - ((v87 >>> ((2 : Int32) &&& 31)) &&& (7 : Int32)) / (5 : Int32) * (5 : Int32)))), some (.int ((v87 >>> ((5 : Int32) &&& 31)) - (v87 >>> ((5 : Int32) &&& 31)) / (60 : Int32) * (60 : Int32))), some (.int x88), some (rB (xD X).1 v89), none, some (.int x100), some (.int x101), some (.int v104), some (.int (x105 ||| x152)), some (.int (x154 ||| x162)), some (.int x107), some (.int x155), none]) rfl ?_
                                                                    refine s_iinc (C _) dL_law_878 (v := (x155 + 1)) rfl rfl (by decide) (nc_i rfl) (lv' := [some (.ref b), some (rB (xD X).1 v1), some (.int (v4 - v4 / (8 : Int32) * (8 : Int32))), none, none, none, some (rB (xD X).1 v61), some (rB (xD X).1 v65), some (rB (xD X).1 v67), some (rB (xD X).1 v69), some (rB (xD X).1 v71), some (rB (xD X).1 v73), some (.int x75), some (.int x76), none, some (.int ((v87 &&& (3 : Int32)) - (v87 &&& (3 : Int32)) / (3 : Int32) * (3 : Int32))), some (.int ((1 : Int32) + (((v87 >>> ((2 : Int32) &&& 31)) &&& (7 : Int32)) - ((v87 >>> ((2 : Int32) &&& 31)) &&& (7 : Int32)) / (5 : Int32) * (5 : Int32)))), some (.int ((v87 >>> ((5 : Int32) &&& 31)) - (v87 >>> ((5 : Int32) &&& 31)) / (60 : Int32) * (60 : Int32))), some (.int x88), some (rB (xD X).1 v89), none, some (.int x100), some (.int x101), some (.int v104), some (.int (x105 ||| x152)), some (.int (x154 ||| x162)), some (.int x107), some (.int (x155 + 1)), none]) rfl ?_
                                                                    refine s_goto (tgt := 841) (C _) dL_law_881 (by decide) ?_
                                                                    refine s_widen (c := (122 + 12 * k447)) (s := (7817 + 135 * k447)) (by omega) (by omega) ?_
                                                                    exact ih841 _ _ _ hf
                                                                  refine s_icmp_ge (tgt := 874) (C _) dL_law_867 (by decide) hf (fun hf => ?_) (fun hf => ?_)
                                                                  · refine s_iconst (C _) dL_law_874 (v := (0 : Int32)) (by decide) ?_
                                                                    refine s_widen (c := (122 + 12 * k447)) (s := (7817 + 135 * k447)) (by omega) (by omega) ?_
                                                                    refine s_weak (lv' := [some (.ref b), some (rB (xD X).1 v1), some (.int (v4 - v4 / (8 : Int32) * (8 : Int32))), none, none, none, some (rB (xD X).1 v61), some (rB (xD X).1 v65), some (rB (xD X).1 v67), some (rB (xD X).1 v69), some (rB (xD X).1 v71), some (rB (xD X).1 v73), some (.int x75), some (.int x76), none, some (.int ((v87 &&& (3 : Int32)) - (v87 &&& (3 : Int32)) / (3 : Int32) * (3 : Int32))), some (.int ((1 : Int32) + (((v87 >>> ((2 : Int32) &&& 31)) &&& (7 : Int32)) - ((v87 >>> ((2 : Int32) &&& 31)) &&& (7 : Int32)) / (5 : Int32) * (5 : Int32)))), some (.int ((v87 >>> ((5 : Int32) &&& 31)) - (v87 >>> ((5 : Int32) &&& 31)) / (60 : Int32) * (60 : Int32))), some (.int x88), some (rB (xD X).1 v89), none, some (.int x100), some (.int x101), some (.int v104), some (.int (x105 ||| x152)), none, some (.int x107), some (.int x155), none]) ⟨rfl, ⟨rfl, ⟨rfl, ⟨rfl, ⟨rfl, ⟨rfl, ⟨rfl, ⟨rfl, ⟨rfl, ⟨rfl, ⟨rfl, ⟨rfl, ⟨rfl, ⟨rfl, ⟨rfl, ⟨rfl, ⟨rfl, ⟨rfl, ⟨rfl, ⟨rfl, ⟨rfl, ⟨rfl, trivial⟩⟩⟩⟩⟩⟩⟩⟩⟩⟩⟩⟩⟩⟩⟩⟩⟩⟩⟩⟩⟩⟩ ?_
                                                                    exact k875 _ hf
                                                                  · refine s_iconst (C _) dL_law_870 (v := (1 : Int32)) (by decide) ?_
                                                                    refine s_goto (tgt := 875) (C _) dL_law_871 (by decide) ?_
                                                                    refine s_widen (c := (122 + 12 * k447)) (s := (7817 + 135 * k447)) (by omega) (by omega) ?_
                                                                    refine s_weak (lv' := [some (.ref b), some (rB (xD X).1 v1), some (.int (v4 - v4 / (8 : Int32) * (8 : Int32))), none, none, none, some (rB (xD X).1 v61), some (rB (xD X).1 v65), some (rB (xD X).1 v67), some (rB (xD X).1 v69), some (rB (xD X).1 v71), some (rB (xD X).1 v73), some (.int x75), some (.int x76), none, some (.int ((v87 &&& (3 : Int32)) - (v87 &&& (3 : Int32)) / (3 : Int32) * (3 : Int32))), some (.int ((1 : Int32) + (((v87 >>> ((2 : Int32) &&& 31)) &&& (7 : Int32)) - ((v87 >>> ((2 : Int32) &&& 31)) &&& (7 : Int32)) / (5 : Int32) * (5 : Int32)))), some (.int ((v87 >>> ((5 : Int32) &&& 31)) - (v87 >>> ((5 : Int32) &&& 31)) / (60 : Int32) * (60 : Int32))), some (.int x88), some (rB (xD X).1 v89), none, some (.int x100), some (.int x101), some (.int v104), some (.int (x105 ||| x152)), none, some (.int x107), some (.int x155), none]) ⟨rfl, ⟨rfl, ⟨rfl, ⟨rfl, ⟨rfl, ⟨rfl, ⟨rfl, ⟨rfl, ⟨rfl, ⟨rfl, ⟨rfl, ⟨rfl, ⟨rfl, ⟨rfl, ⟨rfl, ⟨rfl, ⟨rfl, ⟨rfl, ⟨rfl, ⟨rfl, ⟨rfl, ⟨rfl, trivial⟩⟩⟩⟩⟩⟩⟩⟩⟩⟩⟩⟩⟩⟩⟩⟩⟩⟩⟩⟩⟩⟩ ?_
                                                                    exact k875 _ hf
                                                            refine s_widen (c := (122 + 12 * k447)) (s := (7817 + 135 * k447)) (by omega) (by omega) ?_
                                                            exact k841 lpN _ _ _ hf
                                                          refine s_jn hf (fun j830 e830 hf => ?_)
                                                          have k830 : ∀ (h163 : AH), j830 h163 = some r → WW (sF X h163) h163 (122 + 12 * k447) (7817 + 135 * k447) 830 [some (.ref b), some (rB (xD X).1 v1), some (.int (v4 - v4 / (8 : Int32) * (8 : Int32))), none, none, none, some (rB (xD X).1 v61), some (rB (xD X).1 v65), some (rB (xD X).1 v67), some (rB (xD X).1 v69), some (rB (xD X).1 v71), some (rB (xD X).1 v73), some (.int x75), some (.int x76), none, some (.int ((v87 &&& (3 : Int32)) - (v87 &&& (3 : Int32)) / (3 : Int32) * (3 : Int32))), some (.int ((1 : Int32) + (((v87 >>> ((2 : Int32) &&& 31)) &&& (7 : Int32)) - ((v87 >>> ((2 : Int32) &&& 31)) &&& (7 : Int32)) / (5 : Int32) * (5 : Int32)))), some (.int ((v87 >>> ((5 : Int32) &&& 31)) - (v87 >>> ((5 : Int32) &&& 31)) / (60 : Int32) * (60 : Int32))), some (.int x88), some (rB (xD X).1 v89), none, some (.int x100), some (.int x101), some (.int v104), none, some (.int x106), some (.int x107), none, none] [.int x105] := by
                                                            intro h163 hf
                                                            rw [e830] at hf
                                                            refine s_iconst (C _) dL_law_830 (v := (1 : Int32)) (by decide) ?_
                                                            refine s_goto (tgt := 835) (C _) dL_law_831 (by decide) ?_
                                                            refine s_widen (c := (122 + 12 * k447)) (s := (7817 + 135 * k447)) (by omega) (by omega) ?_
                                                            exact k835 _ _ hf
                                                          refine s_icmp_lt (tgt := 830) (C _) dL_law_803 (by decide) hf (fun hf => ?_) (fun hf => ?_)
                                                          · refine s_widen (c := (122 + 12 * k447)) (s := (7817 + 135 * k447)) (by omega) (by omega) ?_
                                                            refine s_weak (lv' := [some (.ref b), some (rB (xD X).1 v1), some (.int (v4 - v4 / (8 : Int32) * (8 : Int32))), none, none, none, some (rB (xD X).1 v61), some (rB (xD X).1 v65), some (rB (xD X).1 v67), some (rB (xD X).1 v69), some (rB (xD X).1 v71), some (rB (xD X).1 v73), some (.int x75), some (.int x76), none, some (.int ((v87 &&& (3 : Int32)) - (v87 &&& (3 : Int32)) / (3 : Int32) * (3 : Int32))), some (.int ((1 : Int32) + (((v87 >>> ((2 : Int32) &&& 31)) &&& (7 : Int32)) - ((v87 >>> ((2 : Int32) &&& 31)) &&& (7 : Int32)) / (5 : Int32) * (5 : Int32)))), some (.int ((v87 >>> ((5 : Int32) &&& 31)) - (v87 >>> ((5 : Int32) &&& 31)) / (60 : Int32) * (60 : Int32))), some (.int x88), some (rB (xD X).1 v89), none, some (.int x100), some (.int x101), some (.int v104), none, some (.int x106), some (.int x107), none, none]) ⟨rfl, ⟨rfl, ⟨rfl, ⟨rfl, ⟨rfl, ⟨rfl, ⟨rfl, ⟨rfl, ⟨rfl, ⟨rfl, ⟨rfl, ⟨rfl, ⟨rfl, ⟨rfl, ⟨rfl, ⟨rfl, ⟨rfl, ⟨rfl, ⟨rfl, ⟨rfl, ⟨rfl, trivial⟩⟩⟩⟩⟩⟩⟩⟩⟩⟩⟩⟩⟩⟩⟩⟩⟩⟩⟩⟩⟩ ?_
                                                            exact k830 _ hf
                                                          · refine s_aload (C _) dL_law_806 rfl ?_
                                                            refine s_iload (C _) dL_law_808 rfl ?_
                                                            refine L_iaload C0 dL_law_810 hf (fun v164 hf => ?_)
                                                            refine s_jn hf (fun j834 e834 hf => ?_)
                                                            have k834 : ∀ (h165 : AH), j834 h165 = some r → WW (sF X h165) h165 (122 + 12 * k447) (7817 + 135 * k447) 834 [some (.ref b), some (rB (xD X).1 v1), some (.int (v4 - v4 / (8 : Int32) * (8 : Int32))), none, none, none, some (rB (xD X).1 v61), some (rB (xD X).1 v65), some (rB (xD X).1 v67), some (rB (xD X).1 v69), some (rB (xD X).1 v71), some (rB (xD X).1 v73), some (.int x75), some (.int x76), none, some (.int ((v87 &&& (3 : Int32)) - (v87 &&& (3 : Int32)) / (3 : Int32) * (3 : Int32))), some (.int ((1 : Int32) + (((v87 >>> ((2 : Int32) &&& 31)) &&& (7 : Int32)) - ((v87 >>> ((2 : Int32) &&& 31)) &&& (7 : Int32)) / (5 : Int32) * (5 : Int32)))), some (.int ((v87 >>> ((5 : Int32) &&& 31)) - (v87 >>> ((5 : Int32) &&& 31)) / (60 : Int32) * (60 : Int32))), some (.int x88), some (rB (xD X).1 v89), none, some (.int x100), some (.int x101), some (.int v104), none, some (.int x106), some (.int x107), none, none] [.int x105] := by
                                                              intro h165 hf
                                                              rw [e834] at hf
                                                              refine s_iconst (C _) dL_law_834 (v := (0 : Int32)) (by decide) ?_
                                                              refine s_widen (c := (122 + 12 * k447)) (s := (7817 + 135 * k447)) (by omega) (by omega) ?_
                                                              exact k835 _ _ hf
                                                            refine s_if_le (tgt := 834) (C _) dL_law_811 (by decide) hf (fun hf => ?_) (fun hf => ?_)
                                                            · refine s_widen (c := (122 + 12 * k447)) (s := (7817 + 135 * k447)) (by omega) (by omega) ?_
                                                              refine s_weak (lv' := [some (.ref b), some (rB (xD X).1 v1), some (.int (v4 - v4 / (8 : Int32) * (8 : Int32))), none, none, none, some (rB (xD X).1 v61), some (rB (xD X).1 v65), some (rB (xD X).1 v67), some (rB (xD X).1 v69), some (rB (xD X).1 v71), some (rB (xD X).1 v73), some (.int x75), some (.int x76), none, some (.int ((v87 &&& (3 : Int32)) - (v87 &&& (3 : Int32)) / (3 : Int32) * (3 : Int32))), some (.int ((1 : Int32) + (((v87 >>> ((2 : Int32) &&& 31)) &&& (7 : Int32)) - ((v87 >>> ((2 : Int32) &&& 31)) &&& (7 : Int32)) / (5 : Int32) * (5 : Int32)))), some (.int ((v87 >>> ((5 : Int32) &&& 31)) - (v87 >>> ((5 : Int32) &&& 31)) / (60 : Int32) * (60 : Int32))), some (.int x88), some (rB (xD X).1 v89), none, some (.int x100), some (.int x101), some (.int v104), none, some (.int x106), some (.int x107), none, none]) ⟨rfl, ⟨rfl, ⟨rfl, ⟨rfl, ⟨rfl, ⟨rfl, ⟨rfl, ⟨rfl, ⟨rfl, ⟨rfl, ⟨rfl, ⟨rfl, ⟨rfl, ⟨rfl, ⟨rfl, ⟨rfl, ⟨rfl, ⟨rfl, ⟨rfl, ⟨rfl, ⟨rfl, trivial⟩⟩⟩⟩⟩⟩⟩⟩⟩⟩⟩⟩⟩⟩⟩⟩⟩⟩⟩⟩⟩ ?_
                                                              exact k834 _ hf
                                                            · refine s_iload (C _) dL_law_814 rfl ?_
                                                              refine s_aload (C _) dL_law_816 rfl ?_
                                                              refine s_iload (C _) dL_law_818 rfl ?_
                                                              refine L_aaload C0 dL_law_820 hf (fun v166 hf => ?_)
                                                              refine s_iconst (C _) dL_law_821 (v := (0 : Int32)) (by decide) ?_
                                                              refine L_iaload C0 dL_law_822 hf (fun v167 hf => ?_)
                                                              refine s_callSL (rvf := fun x => some (.int x)) (st := [.int x105]) (fr := 1) (lo := 21) (mc := 0) (ms := 0) (C _) wc_L_far wml_L_57 wst_L_far dL_law_823 (As := [.inl v104, .inl v167]) rfl hf (fun x h' hF => c_L_far _ _ _ _ _ (x, h') hF) rfl (Nat.le_of_ble_eq_true rfl) (room_ok hX (Nat.le_of_ble_eq_true rfl) (Nat.le_of_ble_eq_true rfl)) (cell_ok hX (by omega) (by omega)) (fun v169 h168 hf => ?_)
                                                              refine s_iload_n (C _) dL_law_826 rfl ?_
                                                              refine s_icmp_ge (tgt := 834) (C _) dL_law_827 (by decide) hf (fun hf => ?_) (fun hf => ?_)
                                                              · refine s_widen (c := (122 + 12 * k447)) (s := (7817 + 135 * k447)) (by omega) (by omega) ?_
                                                                refine s_weak (lv' := [some (.ref b), some (rB (xD X).1 v1), some (.int (v4 - v4 / (8 : Int32) * (8 : Int32))), none, none, none, some (rB (xD X).1 v61), some (rB (xD X).1 v65), some (rB (xD X).1 v67), some (rB (xD X).1 v69), some (rB (xD X).1 v71), some (rB (xD X).1 v73), some (.int x75), some (.int x76), none, some (.int ((v87 &&& (3 : Int32)) - (v87 &&& (3 : Int32)) / (3 : Int32) * (3 : Int32))), some (.int ((1 : Int32) + (((v87 >>> ((2 : Int32) &&& 31)) &&& (7 : Int32)) - ((v87 >>> ((2 : Int32) &&& 31)) &&& (7 : Int32)) / (5 : Int32) * (5 : Int32)))), some (.int ((v87 >>> ((5 : Int32) &&& 31)) - (v87 >>> ((5 : Int32) &&& 31)) / (60 : Int32) * (60 : Int32))), some (.int x88), some (rB (xD X).1 v89), none, some (.int x100), some (.int x101), some (.int v104), none, some (.int x106), some (.int x107), none, none]) ⟨rfl, ⟨rfl, ⟨rfl, ⟨rfl, ⟨rfl, ⟨rfl, ⟨rfl, ⟨rfl, ⟨rfl, ⟨rfl, ⟨rfl, ⟨rfl, ⟨rfl, ⟨rfl, ⟨rfl, ⟨rfl, ⟨rfl, ⟨rfl, ⟨rfl, ⟨rfl, ⟨rfl, trivial⟩⟩⟩⟩⟩⟩⟩⟩⟩⟩⟩⟩⟩⟩⟩⟩⟩⟩⟩⟩⟩ ?_
                                                                exact k834 _ hf
                                                              · refine s_widen (c := (122 + 12 * k447)) (s := (7817 + 135 * k447)) (by omega) (by omega) ?_
                                                                refine s_weak (lv' := [some (.ref b), some (rB (xD X).1 v1), some (.int (v4 - v4 / (8 : Int32) * (8 : Int32))), none, none, none, some (rB (xD X).1 v61), some (rB (xD X).1 v65), some (rB (xD X).1 v67), some (rB (xD X).1 v69), some (rB (xD X).1 v71), some (rB (xD X).1 v73), some (.int x75), some (.int x76), none, some (.int ((v87 &&& (3 : Int32)) - (v87 &&& (3 : Int32)) / (3 : Int32) * (3 : Int32))), some (.int ((1 : Int32) + (((v87 >>> ((2 : Int32) &&& 31)) &&& (7 : Int32)) - ((v87 >>> ((2 : Int32) &&& 31)) &&& (7 : Int32)) / (5 : Int32) * (5 : Int32)))), some (.int ((v87 >>> ((5 : Int32) &&& 31)) - (v87 >>> ((5 : Int32) &&& 31)) / (60 : Int32) * (60 : Int32))), some (.int x88), some (rB (xD X).1 v89), none, some (.int x100), some (.int x101), some (.int v104), none, some (.int x106), some (.int x107), none, none]) ⟨rfl, ⟨rfl, ⟨rfl, ⟨rfl, ⟨rfl, ⟨rfl, ⟨rfl, ⟨rfl, ⟨rfl, ⟨rfl, ⟨rfl, ⟨rfl, ⟨rfl, ⟨rfl, ⟨rfl, ⟨rfl, ⟨rfl, ⟨rfl, ⟨rfl, ⟨rfl, ⟨rfl, trivial⟩⟩⟩⟩⟩⟩⟩⟩⟩⟩⟩⟩⟩⟩⟩⟩⟩⟩⟩⟩⟩ ?_
                                                                exact k830 _ hf
                                                        · refine s_goto (tgt := 884) (C _) dL_law_787 (by decide) ?_
                                                          refine s_widen (c := (122 + 12 * k447)) (s := (7817 + 135 * k447)) (by omega) (by omega) ?_
                                                          exact k884 _ _ _ hf
                                                  refine s_weak (lv' := [some (.ref b), some (rB (xD X).1 v1), some (.int (v4 - v4 / (8 : Int32) * (8 : Int32))), none, none, none, some (rB (xD X).1 v61), some (rB (xD X).1 v65), some (rB (xD X).1 v67), some (rB (xD X).1 v69), some (rB (xD X).1 v71), some (rB (xD X).1 v73), some (.int x75), some (.int x76), none, some (.int ((v87 &&& (3 : Int32)) - (v87 &&& (3 : Int32)) / (3 : Int32) * (3 : Int32))), some (.int ((1 : Int32) + (((v87 >>> ((2 : Int32) &&& 31)) &&& (7 : Int32)) - ((v87 >>> ((2 : Int32) &&& 31)) &&& (7 : Int32)) / (5 : Int32) * (5 : Int32)))), some (.int ((v87 >>> ((5 : Int32) &&& 31)) - (v87 >>> ((5 : Int32) &&& 31)) / (60 : Int32) * (60 : Int32))), some (.int x88), some (rB (xD X).1 v89), none, some (.int x100), some (.int x101), some (.int v104), some (.int (0 : Int32)), some (.int (0 : Int32)), some (.int (0 : Int32)), none, none]) ⟨rfl, ⟨rfl, ⟨rfl, ⟨rfl, ⟨rfl, ⟨rfl, ⟨rfl, ⟨rfl, ⟨rfl, ⟨rfl, ⟨rfl, ⟨rfl, ⟨rfl, ⟨rfl, ⟨rfl, ⟨rfl, ⟨rfl, ⟨rfl, ⟨rfl, ⟨rfl, ⟨rfl, ⟨rfl, trivial⟩⟩⟩⟩⟩⟩⟩⟩⟩⟩⟩⟩⟩⟩⟩⟩⟩⟩⟩⟩⟩⟩ ?_
                                                  refine s_widen (c := (122 + 12 * k447)) (s := (7817 + 135 * k447)) (by omega) (by omega) ?_
                                                  exact k772 lpN _ _ _ _ hf
                                                · refine s_iload (C _) dL_law_697 rfl ?_
                                                  refine s_aload (C _) dL_law_699 rfl ?_
                                                  refine s_aload (C _) dL_law_701 rfl ?_
                                                  refine s_iload (C _) dL_law_703 rfl ?_
                                                  refine L_iaload C0 dL_law_705 hf (fun v170 hf => ?_)
                                                  refine L_iaload C0 dL_law_706 hf (fun v171 hf => ?_)
                                                  refine s_jn hf (fun j747 e747 hf => ?_)
                                                  have k747 : ∀ (x172 : Int32) (h173 : AH), j747 x172 h173 = some r → WW (sF X h173) h173 (122 + 12 * k447) (7817 + 135 * k447) 747 [some (.ref b), some (rB (xD X).1 v1), some (.int (v4 - v4 / (8 : Int32) * (8 : Int32))), none, none, none, some (rB (xD X).1 v61), some (rB (xD X).1 v65), some (rB (xD X).1 v67), some (rB (xD X).1 v69), some (rB (xD X).1 v71), some (rB (xD X).1 v73), some (.int x75), some (.int x76), none, some (.int ((v87 &&& (3 : Int32)) - (v87 &&& (3 : Int32)) / (3 : Int32) * (3 : Int32))), some (.int ((1 : Int32) + (((v87 >>> ((2 : Int32) &&& 31)) &&& (7 : Int32)) - ((v87 >>> ((2 : Int32) &&& 31)) &&& (7 : Int32)) / (5 : Int32) * (5 : Int32)))), some (.int ((v87 >>> ((5 : Int32) &&& 31)) - (v87 >>> ((5 : Int32) &&& 31)) / (60 : Int32) * (60 : Int32))), some (.int x88), some (rB (xD X).1 v89), some (.int v98), some (.int x100), none, some (.int x102), none, none, none, none, none] [.int x172, .int x101] := by
                                                    intro x172 h173 hf
                                                    rw [e747] at hf
                                                    refine s_iand (C _) dL_law_747 ?_
                                                    refine s_istore (C _) dL_law_748 (by decide) (nc_i rfl) (lv' := [some (.ref b), some (rB (xD X).1 v1), some (.int (v4 - v4 / (8 : Int32) * (8 : Int32))), none, none, none, some (rB (xD X).1 v61), some (rB (xD X).1 v65), some (rB (xD X).1 v67), some (rB (xD X).1 v69), some (rB (xD X).1 v71), some (rB (xD X).1 v73), some (.int x75), some (.int x76), none, some (.int ((v87 &&& (3 : Int32)) - (v87 &&& (3 : Int32)) / (3 : Int32) * (3 : Int32))), some (.int ((1 : Int32) + (((v87 >>> ((2 : Int32) &&& 31)) &&& (7 : Int32)) - ((v87 >>> ((2 : Int32) &&& 31)) &&& (7 : Int32)) / (5 : Int32) * (5 : Int32)))), some (.int ((v87 >>> ((5 : Int32) &&& 31)) - (v87 >>> ((5 : Int32) &&& 31)) / (60 : Int32) * (60 : Int32))), some (.int x88), some (rB (xD X).1 v89), some (.int v98), some (.int x100), some (.int (x101 &&& x172)), some (.int x102), none, none, none, none, none]) rfl ?_
                                                    refine s_iinc (C _) dL_law_750 (v := (x102 + 1)) rfl rfl (by decide) (nc_i rfl) (lv' := [some (.ref b), some (rB (xD X).1 v1), some (.int (v4 - v4 / (8 : Int32) * (8 : Int32))), none, none, none, some (rB (xD X).1 v61), some (rB (xD X).1 v65), some (rB (xD X).1 v67), some (rB (xD X).1 v69), some (rB (xD X).1 v71), some (rB (xD X).1 v73), some (.int x75), some (.int x76), none, some (.int ((v87 &&& (3 : Int32)) - (v87 &&& (3 : Int32)) / (3 : Int32) * (3 : Int32))), some (.int ((1 : Int32) + (((v87 >>> ((2 : Int32) &&& 31)) &&& (7 : Int32)) - ((v87 >>> ((2 : Int32) &&& 31)) &&& (7 : Int32)) / (5 : Int32) * (5 : Int32)))), some (.int ((v87 >>> ((5 : Int32) &&& 31)) - (v87 >>> ((5 : Int32) &&& 31)) / (60 : Int32) * (60 : Int32))), some (.int x88), some (rB (xD X).1 v89), some (.int v98), some (.int x100), some (.int (x101 &&& x172)), some (.int (x102 + 1)), none, none, none, none, none]) rfl ?_
                                                    refine s_goto (tgt := 690) (C _) dL_law_753 (by decide) ?_
                                                    refine s_widen (c := (122 + 12 * k447)) (s := (7817 + 135 * k447)) (by omega) (by omega) ?_
                                                    exact ih690 _ _ _ hf
                                                  refine s_jn hf (fun j742 e742 hf => ?_)
                                                  have k742 : ∀ (h174 : AH), j742 h174 = some r → WW (sF X h174) h174 (122 + 12 * k447) (7817 + 135 * k447) 742 [some (.ref b), some (rB (xD X).1 v1), some (.int (v4 - v4 / (8 : Int32) * (8 : Int32))), none, none, none, some (rB (xD X).1 v61), some (rB (xD X).1 v65), some (rB (xD X).1 v67), some (rB (xD X).1 v69), some (rB (xD X).1 v71), some (rB (xD X).1 v73), some (.int x75), some (.int x76), none, some (.int ((v87 &&& (3 : Int32)) - (v87 &&& (3 : Int32)) / (3 : Int32) * (3 : Int32))), some (.int ((1 : Int32) + (((v87 >>> ((2 : Int32) &&& 31)) &&& (7 : Int32)) - ((v87 >>> ((2 : Int32) &&& 31)) &&& (7 : Int32)) / (5 : Int32) * (5 : Int32)))), some (.int ((v87 >>> ((5 : Int32) &&& 31)) - (v87 >>> ((5 : Int32) &&& 31)) / (60 : Int32) * (60 : Int32))), some (.int x88), some (rB (xD X).1 v89), some (.int v98), some (.int x100), none, some (.int x102), none, none, none, none, none] [.int x101] := by
                                                    intro h174 hf
                                                    rw [e742] at hf
                                                    refine s_iconst (C _) dL_law_742 (v := (1 : Int32)) (by decide) ?_
                                                    refine s_goto (tgt := 747) (C _) dL_law_743 (by decide) ?_
                                                    refine s_widen (c := (122 + 12 * k447)) (s := (7817 + 135 * k447)) (by omega) (by omega) ?_
                                                    exact k747 _ _ hf
                                                  refine s_if_lt (tgt := 742) (C _) dL_law_707 (by decide) hf (fun hf => ?_) (fun hf => ?_)
                                                  · refine s_widen (c := (122 + 12 * k447)) (s := (7817 + 135 * k447)) (by omega) (by omega) ?_
                                                    refine s_weak (lv' := [some (.ref b), some (rB (xD X).1 v1), some (.int (v4 - v4 / (8 : Int32) * (8 : Int32))), none, none, none, some (rB (xD X).1 v61), some (rB (xD X).1 v65), some (rB (xD X).1 v67), some (rB (xD X).1 v69), some (rB (xD X).1 v71), some (rB (xD X).1 v73), some (.int x75), some (.int x76), none, some (.int ((v87 &&& (3 : Int32)) - (v87 &&& (3 : Int32)) / (3 : Int32) * (3 : Int32))), some (.int ((1 : Int32) + (((v87 >>> ((2 : Int32) &&& 31)) &&& (7 : Int32)) - ((v87 >>> ((2 : Int32) &&& 31)) &&& (7 : Int32)) / (5 : Int32) * (5 : Int32)))), some (.int ((v87 >>> ((5 : Int32) &&& 31)) - (v87 >>> ((5 : Int32) &&& 31)) / (60 : Int32) * (60 : Int32))), some (.int x88), some (rB (xD X).1 v89), some (.int v98), some (.int x100), none, some (.int x102), none, none, none, none, none]) ⟨rfl, ⟨rfl, ⟨rfl, ⟨rfl, ⟨rfl, ⟨rfl, ⟨rfl, ⟨rfl, ⟨rfl, ⟨rfl, ⟨rfl, ⟨rfl, ⟨rfl, ⟨rfl, ⟨rfl, ⟨rfl, ⟨rfl, ⟨rfl, ⟨rfl, trivial⟩⟩⟩⟩⟩⟩⟩⟩⟩⟩⟩⟩⟩⟩⟩⟩⟩⟩⟩ ?_
                                                    exact k742 _ hf
                                                  · refine s_aload (C _) dL_law_710 rfl ?_
                                                    refine s_aload (C _) dL_law_712 rfl ?_
                                                    refine s_iload (C _) dL_law_714 rfl ?_
                                                    refine L_iaload C0 dL_law_716 hf (fun v175 hf => ?_)
                                                    refine L_iaload C0 dL_law_717 hf (fun v176 hf => ?_)
                                                    refine s_iconst (C _) dL_law_718 (v := (3 : Int32)) (by decide) ?_
                                                    refine s_jn hf (fun j746 e746 hf => ?_)
                                                    have k746 : ∀ (h177 : AH), j746 h177 = some r → WW (sF X h177) h177 (122 + 12 * k447) (7817 + 135 * k447) 746 [some (.ref b), some (rB (xD X).1 v1), some (.int (v4 - v4 / (8 : Int32) * (8 : Int32))), none, none, none, some (rB (xD X).1 v61), some (rB (xD X).1 v65), some (rB (xD X).1 v67), some (rB (xD X).1 v69), some (rB (xD X).1 v71), some (rB (xD X).1 v73), some (.int x75), some (.int x76), none, some (.int ((v87 &&& (3 : Int32)) - (v87 &&& (3 : Int32)) / (3 : Int32) * (3 : Int32))), some (.int ((1 : Int32) + (((v87 >>> ((2 : Int32) &&& 31)) &&& (7 : Int32)) - ((v87 >>> ((2 : Int32) &&& 31)) &&& (7 : Int32)) / (5 : Int32) * (5 : Int32)))), some (.int ((v87 >>> ((5 : Int32) &&& 31)) - (v87 >>> ((5 : Int32) &&& 31)) / (60 : Int32) * (60 : Int32))), some (.int x88), some (rB (xD X).1 v89), some (.int v98), some (.int x100), none, some (.int x102), none, none, none, none, none] [.int x101] := by
                                                      intro h177 hf
                                                      rw [e746] at hf
                                                      refine s_iconst (C _) dL_law_746 (v := (0 : Int32)) (by decide) ?_
                                                      refine s_widen (c := (122 + 12 * k447)) (s := (7817 + 135 * k447)) (by omega) (by omega) ?_
                                                      exact k747 _ _ hf
                                                    refine s_icmp_ne (tgt := 746) (C _) dL_law_719 (by decide) hf (fun hf => ?_) (fun hf => ?_)
                                                    · refine s_widen (c := (122 + 12 * k447)) (s := (7817 + 135 * k447)) (by omega) (by omega) ?_
                                                      refine s_weak (lv' := [some (.ref b), some (rB (xD X).1 v1), some (.int (v4 - v4 / (8 : Int32) * (8 : Int32))), none, none, none, some (rB (xD X).1 v61), some (rB (xD X).1 v65), some (rB (xD X).1 v67), some (rB (xD X).1 v69), some (rB (xD X).1 v71), some (rB (xD X).1 v73), some (.int x75), some (.int x76), none, some (.int ((v87 &&& (3 : Int32)) - (v87 &&& (3 : Int32)) / (3 : Int32) * (3 : Int32))), some (.int ((1 : Int32) + (((v87 >>> ((2 : Int32) &&& 31)) &&& (7 : Int32)) - ((v87 >>> ((2 : Int32) &&& 31)) &&& (7 : Int32)) / (5 : Int32) * (5 : Int32)))), some (.int ((v87 >>> ((5 : Int32) &&& 31)) - (v87 >>> ((5 : Int32) &&& 31)) / (60 : Int32) * (60 : Int32))), some (.int x88), some (rB (xD X).1 v89), some (.int v98), some (.int x100), none, some (.int x102), none, none, none, none, none]) ⟨rfl, ⟨rfl, ⟨rfl, ⟨rfl, ⟨rfl, ⟨rfl, ⟨rfl, ⟨rfl, ⟨rfl, ⟨rfl, ⟨rfl, ⟨rfl, ⟨rfl, ⟨rfl, ⟨rfl, ⟨rfl, ⟨rfl, ⟨rfl, ⟨rfl, trivial⟩⟩⟩⟩⟩⟩⟩⟩⟩⟩⟩⟩⟩⟩⟩⟩⟩⟩⟩ ?_
                                                      exact k746 _ hf
                                                    · refine s_iload (C _) dL_law_722 rfl ?_
                                                      refine s_iconst (C _) dL_law_724 (v := (1 : Int32)) (by decide) ?_
                                                      refine s_icmp_eq (tgt := 742) (C _) dL_law_725 (by decide) hf (fun hf => ?_) (fun hf => ?_)
                                                      · refine s_widen (c := (122 + 12 * k447)) (s := (7817 + 135 * k447)) (by omega) (by omega) ?_
                                                        refine s_weak (lv' := [some (.ref b), some (rB (xD X).1 v1), some (.int (v4 - v4 / (8 : Int32) * (8 : Int32))), none, none, none, some (rB (xD X).1 v61), some (rB (xD X).1 v65), some (rB (xD X).1 v67), some (rB (xD X).1 v69), some (rB (xD X).1 v71), some (rB (xD X).1 v73), some (.int x75), some (.int x76), none, some (.int ((v87 &&& (3 : Int32)) - (v87 &&& (3 : Int32)) / (3 : Int32) * (3 : Int32))), some (.int ((1 : Int32) + (((v87 >>> ((2 : Int32) &&& 31)) &&& (7 : Int32)) - ((v87 >>> ((2 : Int32) &&& 31)) &&& (7 : Int32)) / (5 : Int32) * (5 : Int32)))), some (.int ((v87 >>> ((5 : Int32) &&& 31)) - (v87 >>> ((5 : Int32) &&& 31)) / (60 : Int32) * (60 : Int32))), some (.int x88), some (rB (xD X).1 v89), some (.int v98), some (.int x100), none, some (.int x102), none, none, none, none, none]) ⟨rfl, ⟨rfl, ⟨rfl, ⟨rfl, ⟨rfl, ⟨rfl, ⟨rfl, ⟨rfl, ⟨rfl, ⟨rfl, ⟨rfl, ⟨rfl, ⟨rfl, ⟨rfl, ⟨rfl, ⟨rfl, ⟨rfl, ⟨rfl, ⟨rfl, trivial⟩⟩⟩⟩⟩⟩⟩⟩⟩⟩⟩⟩⟩⟩⟩⟩⟩⟩⟩ ?_
                                                        exact k742 _ hf
                                                      · refine s_iload (C _) dL_law_728 rfl ?_
                                                        refine s_aload (C _) dL_law_730 rfl ?_
                                                        refine s_iload (C _) dL_law_732 rfl ?_
                                                        refine L_iaload C0 dL_law_734 hf (fun v178 hf => ?_)
                                                        refine s_callSL (rvf := fun x => some (.int x)) (st := [.int x101]) (fr := 1) (lo := 21) (mc := 0) (ms := 0) (C _) wc_L_far wml_L_57 wst_L_far dL_law_735 (As := [.inl v98, .inl v178]) rfl hf (fun x h' hF => c_L_far _ _ _ _ _ (x, h') hF) rfl (Nat.le_of_ble_eq_true rfl) (room_ok hX (Nat.le_of_ble_eq_true rfl) (Nat.le_of_ble_eq_true rfl)) (cell_ok hX (by omega) (by omega)) (fun v180 h179 hf => ?_)
                                                        refine s_iconst (C _) dL_law_738 (v := (4 : Int32)) (by decide) ?_
                                                        refine s_icmp_ge (tgt := 746) (C _) dL_law_739 (by decide) hf (fun hf => ?_) (fun hf => ?_)
                                                        · refine s_widen (c := (122 + 12 * k447)) (s := (7817 + 135 * k447)) (by omega) (by omega) ?_
                                                          refine s_weak (lv' := [some (.ref b), some (rB (xD X).1 v1), some (.int (v4 - v4 / (8 : Int32) * (8 : Int32))), none, none, none, some (rB (xD X).1 v61), some (rB (xD X).1 v65), some (rB (xD X).1 v67), some (rB (xD X).1 v69), some (rB (xD X).1 v71), some (rB (xD X).1 v73), some (.int x75), some (.int x76), none, some (.int ((v87 &&& (3 : Int32)) - (v87 &&& (3 : Int32)) / (3 : Int32) * (3 : Int32))), some (.int ((1 : Int32) + (((v87 >>> ((2 : Int32) &&& 31)) &&& (7 : Int32)) - ((v87 >>> ((2 : Int32) &&& 31)) &&& (7 : Int32)) / (5 : Int32) * (5 : Int32)))), some (.int ((v87 >>> ((5 : Int32) &&& 31)) - (v87 >>> ((5 : Int32) &&& 31)) / (60 : Int32) * (60 : Int32))), some (.int x88), some (rB (xD X).1 v89), some (.int v98), some (.int x100), none, some (.int x102), none, none, none, none, none]) ⟨rfl, ⟨rfl, ⟨rfl, ⟨rfl, ⟨rfl, ⟨rfl, ⟨rfl, ⟨rfl, ⟨rfl, ⟨rfl, ⟨rfl, ⟨rfl, ⟨rfl, ⟨rfl, ⟨rfl, ⟨rfl, ⟨rfl, ⟨rfl, ⟨rfl, trivial⟩⟩⟩⟩⟩⟩⟩⟩⟩⟩⟩⟩⟩⟩⟩⟩⟩⟩⟩ ?_
                                                          exact k746 _ hf
                                                        · refine s_widen (c := (122 + 12 * k447)) (s := (7817 + 135 * k447)) (by omega) (by omega) ?_
                                                          refine s_weak (lv' := [some (.ref b), some (rB (xD X).1 v1), some (.int (v4 - v4 / (8 : Int32) * (8 : Int32))), none, none, none, some (rB (xD X).1 v61), some (rB (xD X).1 v65), some (rB (xD X).1 v67), some (rB (xD X).1 v69), some (rB (xD X).1 v71), some (rB (xD X).1 v73), some (.int x75), some (.int x76), none, some (.int ((v87 &&& (3 : Int32)) - (v87 &&& (3 : Int32)) / (3 : Int32) * (3 : Int32))), some (.int ((1 : Int32) + (((v87 >>> ((2 : Int32) &&& 31)) &&& (7 : Int32)) - ((v87 >>> ((2 : Int32) &&& 31)) &&& (7 : Int32)) / (5 : Int32) * (5 : Int32)))), some (.int ((v87 >>> ((5 : Int32) &&& 31)) - (v87 >>> ((5 : Int32) &&& 31)) / (60 : Int32) * (60 : Int32))), some (.int x88), some (rB (xD X).1 v89), some (.int v98), some (.int x100), none, some (.int x102), none, none, none, none, none]) ⟨rfl, ⟨rfl, ⟨rfl, ⟨rfl, ⟨rfl, ⟨rfl, ⟨rfl, ⟨rfl, ⟨rfl, ⟨rfl, ⟨rfl, ⟨rfl, ⟨rfl, ⟨rfl, ⟨rfl, ⟨rfl, ⟨rfl, ⟨rfl, ⟨rfl, trivial⟩⟩⟩⟩⟩⟩⟩⟩⟩⟩⟩⟩⟩⟩⟩⟩⟩⟩⟩ ?_
                                                          exact k742 _ hf
                                            refine s_widen (c := (122 + 12 * k447)) (s := (7817 + 135 * k447)) (by omega) (by omega) ?_
                                            exact k690 lpN _ _ _ hf
                                          refine s_icmp_ge (tgt := 681) (C _) dL_law_674 (by decide) hf (fun hf => ?_) (fun hf => ?_)
                                          · refine s_iconst (C _) dL_law_681 (v := (0 : Int32)) (by decide) ?_
                                            refine s_widen (c := (122 + 12 * k447)) (s := (7817 + 135 * k447)) (by omega) (by omega) ?_
                                            exact k682 _ hf
                                          · refine s_iconst (C _) dL_law_677 (v := (1 : Int32)) (by decide) ?_
                                            refine s_goto (tgt := 682) (C _) dL_law_678 (by decide) ?_
                                            refine s_widen (c := (122 + 12 * k447)) (s := (7817 + 135 * k447)) (by omega) (by omega) ?_
                                            exact k682 _ hf
                                        refine s_if_ne (tgt := 659) (C _) dL_law_585 (by decide) hf (fun hf => ?_) (fun hf => ?_)
                                        · refine s_widen (c := (122 + 12 * k447)) (s := (7817 + 135 * k447)) (by omega) (by omega) ?_
                                          refine s_weak (lv' := [some (.ref b), some (rB (xD X).1 v1), some (.int (v4 - v4 / (8 : Int32) * (8 : Int32))), none, none, none, some (rB (xD X).1 v61), some (rB (xD X).1 v65), some (rB (xD X).1 v67), some (rB (xD X).1 v69), some (rB (xD X).1 v71), some (rB (xD X).1 v73), some (.int x75), some (.int x76), none, some (.int ((v87 &&& (3 : Int32)) - (v87 &&& (3 : Int32)) / (3 : Int32) * (3 : Int32))), some (.int ((1 : Int32) + (((v87 >>> ((2 : Int32) &&& 31)) &&& (7 : Int32)) - ((v87 >>> ((2 : Int32) &&& 31)) &&& (7 : Int32)) / (5 : Int32) * (5 : Int32)))), some (.int ((v87 >>> ((5 : Int32) &&& 31)) - (v87 >>> ((5 : Int32) &&& 31)) / (60 : Int32) * (60 : Int32))), some (.int x88), some (rB (xD X).1 v89), none, none, none, none, none, none, none, none, none]) ⟨rfl, ⟨rfl, ⟨rfl, ⟨rfl, ⟨rfl, ⟨rfl, ⟨rfl, ⟨rfl, ⟨rfl, ⟨rfl, ⟨rfl, ⟨rfl, ⟨rfl, ⟨rfl, ⟨rfl, ⟨rfl, trivial⟩⟩⟩⟩⟩⟩⟩⟩⟩⟩⟩⟩⟩⟩⟩⟩ ?_
                                          exact k659 _ hf
                                        · refine s_iload (C _) dL_law_588 rfl ?_
                                          refine s_if_le (tgt := 659) (C _) dL_law_590 (by decide) hf (fun hf => ?_) (fun hf => ?_)
                                          · refine s_widen (c := (122 + 12 * k447)) (s := (7817 + 135 * k447)) (by omega) (by omega) ?_
                                            refine s_weak (lv' := [some (.ref b), some (rB (xD X).1 v1), some (.int (v4 - v4 / (8 : Int32) * (8 : Int32))), none, none, none, some (rB (xD X).1 v61), some (rB (xD X).1 v65), some (rB (xD X).1 v67), some (rB (xD X).1 v69), some (rB (xD X).1 v71), some (rB (xD X).1 v73), some (.int x75), some (.int x76), none, some (.int ((v87 &&& (3 : Int32)) - (v87 &&& (3 : Int32)) / (3 : Int32) * (3 : Int32))), some (.int ((1 : Int32) + (((v87 >>> ((2 : Int32) &&& 31)) &&& (7 : Int32)) - ((v87 >>> ((2 : Int32) &&& 31)) &&& (7 : Int32)) / (5 : Int32) * (5 : Int32)))), some (.int ((v87 >>> ((5 : Int32) &&& 31)) - (v87 >>> ((5 : Int32) &&& 31)) / (60 : Int32) * (60 : Int32))), some (.int x88), some (rB (xD X).1 v89), none, none, none, none, none, none, none, none, none]) ⟨rfl, ⟨rfl, ⟨rfl, ⟨rfl, ⟨rfl, ⟨rfl, ⟨rfl, ⟨rfl, ⟨rfl, ⟨rfl, ⟨rfl, ⟨rfl, ⟨rfl, ⟨rfl, ⟨rfl, ⟨rfl, trivial⟩⟩⟩⟩⟩⟩⟩⟩⟩⟩⟩⟩⟩⟩⟩⟩ ?_
                                            exact k659 _ hf
                                          · refine s_iload (C _) dL_law_593 rfl ?_
                                            refine s_iconst (C _) dL_law_595 (v := (5 : Int32)) (by decide) ?_
                                            refine s_ishr (C _) dL_law_596 ?_
                                            refine s_iload (C _) dL_law_597 rfl ?_
                                            refine s_irem (C _) dL_law_599 hf (fun hf => ?_)
                                            refine s_istore (C _) dL_law_600 (by decide) (nc_r rfl) (lv' := [some (.ref b), some (rB (xD X).1 v1), some (.int (v4 - v4 / (8 : Int32) * (8 : Int32))), none, none, none, some (rB (xD X).1 v61), some (rB (xD X).1 v65), some (rB (xD X).1 v67), some (rB (xD X).1 v69), some (rB (xD X).1 v71), some (rB (xD X).1 v73), some (.int x75), some (.int x76), some (.int v87), some (.int ((v87 &&& (3 : Int32)) - (v87 &&& (3 : Int32)) / (3 : Int32) * (3 : Int32))), some (.int ((1 : Int32) + (((v87 >>> ((2 : Int32) &&& 31)) &&& (7 : Int32)) - ((v87 >>> ((2 : Int32) &&& 31)) &&& (7 : Int32)) / (5 : Int32) * (5 : Int32)))), some (.int ((v87 >>> ((5 : Int32) &&& 31)) - (v87 >>> ((5 : Int32) &&& 31)) / (60 : Int32) * (60 : Int32))), some (.int x88), some (rB (xD X).1 v89), some (.int ((v87 >>> ((5 : Int32) &&& 31)) - (v87 >>> ((5 : Int32) &&& 31)) / x75 * x75)), none, none, none, none, none, none, none, none]) rfl ?_
                                            refine s_aload_n (C _) dL_law_602 rfl ?_
                                            refine s_iconst (C _) dL_law_603 (v := (3 : Int32)) (by decide) ?_
                                            refine s_iload (C _) dL_law_604 rfl ?_
                                            refine s_iadd (C _) dL_law_606 ?_
                                            refine s_callVL (rvf := fun x => some (.int x)) (st := []) (fr := 1) (lo := 22) (mc := 0) (ms := 0) (C _) [11] wc_X11_down wml_L_51 wim_X11_down wsl_11_X11_down dL_law_607 (As := [.inl ((3 : Int32) + ((v87 >>> ((5 : Int32) &&& 31)) - (v87 >>> ((5 : Int32) &&& 31)) / x75 * x75))]) rfl hf (fun x h' hF => c_X11_down _ _ _ _ _ (x, h') hF) rfl (Nat.le_of_ble_eq_true rfl) (room_ok hX (Nat.le_of_ble_eq_true rfl) (Nat.le_of_ble_eq_true rfl)) (cell_ok hX (by omega) (by omega)) (fun v182 h181 hf => ?_)
                                            refine s_aload (C _) dL_law_610 rfl ?_
                                            refine s_iload (C _) dL_law_612 rfl ?_
                                            refine L_zaload C0 dL_law_614 hf (fun v183 hf => ?_)
                                            refine s_jn hf (fun j624 e624 hf => ?_)
                                            have k624 : ∀ (x184 : Int32), j624 x184 = some r → WW (sF X h181) h181 (122 + 12 * k447) (7817 + 135 * k447) 624 [some (.ref b), some (rB (xD X).1 v1), some (.int (v4 - v4 / (8 : Int32) * (8 : Int32))), none, none, none, some (rB (xD X).1 v61), some (rB (xD X).1 v65), some (rB (xD X).1 v67), some (rB (xD X).1 v69), some (rB (xD X).1 v71), some (rB (xD X).1 v73), some (.int x75), some (.int x76), none, some (.int ((v87 &&& (3 : Int32)) - (v87 &&& (3 : Int32)) / (3 : Int32) * (3 : Int32))), some (.int ((1 : Int32) + (((v87 >>> ((2 : Int32) &&& 31)) &&& (7 : Int32)) - ((v87 >>> ((2 : Int32) &&& 31)) &&& (7 : Int32)) / (5 : Int32) * (5 : Int32)))), some (.int ((v87 >>> ((5 : Int32) &&& 31)) - (v87 >>> ((5 : Int32) &&& 31)) / (60 : Int32) * (60 : Int32))), some (.int x88), some (rB (xD X).1 v89), some (.int ((v87 >>> ((5 : Int32) &&& 31)) - (v87 >>> ((5 : Int32) &&& 31)) / x75 * x75)), none, none, none, none, none, none, none, none] [.int x184, .int v182] := by
                                              intro x184 hf
                                              rw [e624] at hf
                                              refine s_icmp_eq (tgt := 629) (C _) dL_law_624 (by decide) hf (fun hf => ?_) (fun hf => ?_)
                                              · refine s_aload (C _) dL_law_629 rfl ?_
                                                refine s_iload (C _) dL_law_631 rfl ?_
                                                refine L_zaload C0 dL_law_633 hf (fun v185 hf => ?_)
                                                refine s_jn hf (fun j653 e653 hf => ?_)
                                                have k653 : ∀ (h186 : AH), j653 h186 = some r → WW (sF X h186) h186 (122 + 12 * k447) (7817 + 135 * k447) 653 [some (.ref b), some (rB (xD X).1 v1), some (.int (v4 - v4 / (8 : Int32) * (8 : Int32))), none, none, none, some (rB (xD X).1 v61), some (rB (xD X).1 v65), some (rB (xD X).1 v67), some (rB (xD X).1 v69), some (rB (xD X).1 v71), some (rB (xD X).1 v73), some (.int x75), some (.int x76), none, some (.int ((v87 &&& (3 : Int32)) - (v87 &&& (3 : Int32)) / (3 : Int32) * (3 : Int32))), some (.int ((1 : Int32) + (((v87 >>> ((2 : Int32) &&& 31)) &&& (7 : Int32)) - ((v87 >>> ((2 : Int32) &&& 31)) &&& (7 : Int32)) / (5 : Int32) * (5 : Int32)))), some (.int ((v87 >>> ((5 : Int32) &&& 31)) - (v87 >>> ((5 : Int32) &&& 31)) / (60 : Int32) * (60 : Int32))), some (.int x88), some (rB (xD X).1 v89), some (.int ((v87 >>> ((5 : Int32) &&& 31)) - (v87 >>> ((5 : Int32) &&& 31)) / x75 * x75)), none, none, none, none, none, none, none, none] [] := by
                                                  intro h186 hf
                                                  rw [e653] at hf
                                                  refine s_aload (C _) dL_law_653 rfl ?_
                                                  refine s_iload (C _) dL_law_655 rfl ?_
                                                  refine s_iconst (C _) dL_law_657 (v := (1 : Int32)) (by decide) ?_
                                                  refine L_zastore C0 dL_law_658 hf (fun h187 hf => ?_)
                                                  refine s_widen (c := (122 + 12 * k447)) (s := (7817 + 135 * k447)) (by omega) (by omega) ?_
                                                  refine s_weak (lv' := [some (.ref b), some (rB (xD X).1 v1), some (.int (v4 - v4 / (8 : Int32) * (8 : Int32))), none, none, none, some (rB (xD X).1 v61), some (rB (xD X).1 v65), some (rB (xD X).1 v67), some (rB (xD X).1 v69), some (rB (xD X).1 v71), some (rB (xD X).1 v73), some (.int x75), some (.int x76), none, some (.int ((v87 &&& (3 : Int32)) - (v87 &&& (3 : Int32)) / (3 : Int32) * (3 : Int32))), some (.int ((1 : Int32) + (((v87 >>> ((2 : Int32) &&& 31)) &&& (7 : Int32)) - ((v87 >>> ((2 : Int32) &&& 31)) &&& (7 : Int32)) / (5 : Int32) * (5 : Int32)))), some (.int ((v87 >>> ((5 : Int32) &&& 31)) - (v87 >>> ((5 : Int32) &&& 31)) / (60 : Int32) * (60 : Int32))), some (.int x88), some (rB (xD X).1 v89), none, none, none, none, none, none, none, none, none]) ⟨rfl, ⟨rfl, ⟨rfl, ⟨rfl, ⟨rfl, ⟨rfl, ⟨rfl, ⟨rfl, ⟨rfl, ⟨rfl, ⟨rfl, ⟨rfl, ⟨rfl, ⟨rfl, ⟨rfl, ⟨rfl, trivial⟩⟩⟩⟩⟩⟩⟩⟩⟩⟩⟩⟩⟩⟩⟩⟩ ?_
                                                  exact k659 _ hf
                                                refine s_if_ne (tgt := 653) (C _) dL_law_634 (by decide) hf (fun hf => ?_) (fun hf => ?_)
                                                · refine s_widen (c := (122 + 12 * k447)) (s := (7817 + 135 * k447)) (by omega) (by omega) ?_
                                                  exact k653 _ hf
                                                · refine s_aload (C _) dL_law_637 rfl ?_
                                                  refine s_aload_n (C _) dL_law_639 rfl ?_
                                                  refine s_iconst (C _) dL_law_640 (v := (3 : Int32)) (by decide) ?_
                                                  refine s_iload (C _) dL_law_641 rfl ?_
                                                  refine s_iadd (C _) dL_law_643 ?_
                                                  refine s_iconst (C _) dL_law_644 (v := (1 : Int32)) (by decide) ?_
                                                  refine s_callVL (rvf := fun x => some (.int x)) (st := [rB (xD X).1 v67]) (fr := 3) (lo := 68) (mc := 0) (ms := 0) (C _) [11] wc_X11_ofBody wml_L_54 wim_X11_ofBody wsl_11_X11_ofBody dL_law_645 (As := [.inl ((3 : Int32) + ((v87 >>> ((5 : Int32) &&& 31)) - (v87 >>> ((5 : Int32) &&& 31)) / x75 * x75)), .inl (1 : Int32)]) rfl hf (fun x h' hF => c_X11_ofBody _ _ _ _ _ _ (x, h') hF) rfl (Nat.le_of_ble_eq_true rfl) (room_ok hX (Nat.le_of_ble_eq_true rfl) (Nat.le_of_ble_eq_true rfl)) (cell_ok hX (by omega) (by omega)) (fun v189 h188 hf => ?_)
                                                  refine s_dup2 (C _) dL_law_648 c1_i c1_r ?_
                                                  refine L_iaload C0 dL_law_649 hf (fun v190 hf => ?_)
                                                  refine s_iconst (C _) dL_law_650 (v := (1 : Int32)) (by decide) ?_
                                                  refine s_isub (C _) dL_law_651 ?_
                                                  refine L_iastore C0 dL_law_652 hf (fun h191 hf => ?_)
                                                  refine s_widen (c := (122 + 12 * k447)) (s := (7817 + 135 * k447)) (by omega) (by omega) ?_
                                                  exact k653 _ hf
                                              · refine s_iconst (C _) dL_law_627 (v := (0 : Int32)) (by decide) ?_
                                                exact L_lawret C0 E0 h1 dL_law_628 hf (by omega) (by omega)
                                            refine s_if_eq (tgt := 623) (C _) dL_law_615 (by decide) hf (fun hf => ?_) (fun hf => ?_)
                                            · refine s_iconst (C _) dL_law_623 (v := (1 : Int32)) (by decide) ?_
                                              refine s_widen (c := (122 + 12 * k447)) (s := (7817 + 135 * k447)) (by omega) (by omega) ?_
                                              refine s_weak (lv' := [some (.ref b), some (rB (xD X).1 v1), some (.int (v4 - v4 / (8 : Int32) * (8 : Int32))), none, none, none, some (rB (xD X).1 v61), some (rB (xD X).1 v65), some (rB (xD X).1 v67), some (rB (xD X).1 v69), some (rB (xD X).1 v71), some (rB (xD X).1 v73), some (.int x75), some (.int x76), none, some (.int ((v87 &&& (3 : Int32)) - (v87 &&& (3 : Int32)) / (3 : Int32) * (3 : Int32))), some (.int ((1 : Int32) + (((v87 >>> ((2 : Int32) &&& 31)) &&& (7 : Int32)) - ((v87 >>> ((2 : Int32) &&& 31)) &&& (7 : Int32)) / (5 : Int32) * (5 : Int32)))), some (.int ((v87 >>> ((5 : Int32) &&& 31)) - (v87 >>> ((5 : Int32) &&& 31)) / (60 : Int32) * (60 : Int32))), some (.int x88), some (rB (xD X).1 v89), some (.int ((v87 >>> ((5 : Int32) &&& 31)) - (v87 >>> ((5 : Int32) &&& 31)) / x75 * x75)), none, none, none, none, none, none, none, none]) ⟨rfl, ⟨rfl, ⟨rfl, ⟨rfl, ⟨rfl, ⟨rfl, ⟨rfl, ⟨rfl, ⟨rfl, ⟨rfl, ⟨rfl, ⟨rfl, ⟨rfl, ⟨rfl, ⟨rfl, ⟨rfl, ⟨rfl, trivial⟩⟩⟩⟩⟩⟩⟩⟩⟩⟩⟩⟩⟩⟩⟩⟩⟩ ?_
                                              exact k624 _ hf
                                            · refine s_bipush (C _) dL_law_618 (v := (-2 : Int32)) (by decide) ?_
                                              refine s_goto (tgt := 624) (C _) dL_law_620 (by decide) ?_
                                              refine s_widen (c := (122 + 12 * k447)) (s := (7817 + 135 * k447)) (by omega) (by omega) ?_
                                              refine s_weak (lv' := [some (.ref b), some (rB (xD X).1 v1), some (.int (v4 - v4 / (8 : Int32) * (8 : Int32))), none, none, none, some (rB (xD X).1 v61), some (rB (xD X).1 v65), some (rB (xD X).1 v67), some (rB (xD X).1 v69), some (rB (xD X).1 v71), some (rB (xD X).1 v73), some (.int x75), some (.int x76), none, some (.int ((v87 &&& (3 : Int32)) - (v87 &&& (3 : Int32)) / (3 : Int32) * (3 : Int32))), some (.int ((1 : Int32) + (((v87 >>> ((2 : Int32) &&& 31)) &&& (7 : Int32)) - ((v87 >>> ((2 : Int32) &&& 31)) &&& (7 : Int32)) / (5 : Int32) * (5 : Int32)))), some (.int ((v87 >>> ((5 : Int32) &&& 31)) - (v87 >>> ((5 : Int32) &&& 31)) / (60 : Int32) * (60 : Int32))), some (.int x88), some (rB (xD X).1 v89), some (.int ((v87 >>> ((5 : Int32) &&& 31)) - (v87 >>> ((5 : Int32) &&& 31)) / x75 * x75)), none, none, none, none, none, none, none, none]) ⟨rfl, ⟨rfl, ⟨rfl, ⟨rfl, ⟨rfl, ⟨rfl, ⟨rfl, ⟨rfl, ⟨rfl, ⟨rfl, ⟨rfl, ⟨rfl, ⟨rfl, ⟨rfl, ⟨rfl, ⟨rfl, ⟨rfl, trivial⟩⟩⟩⟩⟩⟩⟩⟩⟩⟩⟩⟩⟩⟩⟩⟩⟩ ?_
                                              exact k624 _ hf
                                      · refine s_aload_n (C _) dL_law_555 rfl ?_
                                        refine s_aload (C _) dL_law_556 rfl ?_
                                        refine s_iload (C _) dL_law_558 rfl ?_
                                        refine L_iaload C0 dL_law_560 hf (fun v192 hf => ?_)
                                        refine s_callVL (rvf := fun x => some (.int x)) (st := []) (fr := 1) (lo := 20) (mc := 0) (ms := 0) (C _) [11] wc_X11_step wml_L_48 wim_X11_step wsl_11_X11_step dL_law_561 (As := [.inl v192]) rfl hf (fun x h' hF => c_X11_step _ _ _ _ _ (x, h') hF) rfl (Nat.le_of_ble_eq_true rfl) (room_ok hX (Nat.le_of_ble_eq_true rfl) (Nat.le_of_ble_eq_true rfl)) (cell_ok hX (by omega) (by omega)) (fun v194 h193 hf => ?_)
                                        refine s_iload (C _) dL_law_564 rfl ?_
                                        refine s_icmp_eq (tgt := 571) (C _) dL_law_566 (by decide) hf (fun hf => ?_) (fun hf => ?_)
                                        · refine s_iinc (C _) dL_law_571 (v := (x94 + 1)) rfl rfl (by decide) (nc_r rfl) (lv' := [some (.ref b), some (rB (xD X).1 v1), some (.int (v4 - v4 / (8 : Int32) * (8 : Int32))), none, none, none, some (rB (xD X).1 v61), some (rB (xD X).1 v65), some (rB (xD X).1 v67), some (rB (xD X).1 v69), some (rB (xD X).1 v71), some (rB (xD X).1 v73), some (.int x75), some (.int x76), some (.int v87), some (.int ((v87 &&& (3 : Int32)) - (v87 &&& (3 : Int32)) / (3 : Int32) * (3 : Int32))), some (.int ((1 : Int32) + (((v87 >>> ((2 : Int32) &&& 31)) &&& (7 : Int32)) - ((v87 >>> ((2 : Int32) &&& 31)) &&& (7 : Int32)) / (5 : Int32) * (5 : Int32)))), some (.int ((v87 >>> ((5 : Int32) &&& 31)) - (v87 >>> ((5 : Int32) &&& 31)) / (60 : Int32) * (60 : Int32))), some (.int x88), some (rB (xD X).1 v89), some (.int (x94 + 1)), none, none, none, none, none, none, none, none]) rfl ?_
                                          refine s_goto (tgt := 548) (C _) dL_law_574 (by decide) ?_
                                          refine s_widen (c := (122 + 12 * k447)) (s := (7817 + 135 * k447)) (by omega) (by omega) ?_
                                          exact ih548 _ _ hf
                                        · refine s_iconst (C _) dL_law_569 (v := (0 : Int32)) (by decide) ?_
                                          exact L_lawret C0 E0 h1 dL_law_570 hf (by omega) (by omega)
                                  refine s_widen (c := (122 + 12 * k447)) (s := (7817 + 135 * k447)) (by omega) (by omega) ?_
                                  exact k548 lpN _ _ hf
                                refine s_icmp_ne (tgt := 510) (C _) dL_law_495 (by decide) hf (fun hf => ?_) (fun hf => ?_)
                                · refine s_iconst (C _) dL_law_510 (v := (0 : Int32)) (by decide) ?_
                                  refine s_widen (c := (121 + 12 * k447)) (s := (7814 + 135 * k447)) (by omega) (by omega) ?_
                                  exact k511 _ hf
                                · refine s_iconst (C _) dL_law_498 (v := (1 : Int32)) (by decide) ?_
                                  refine s_iload (C _) dL_law_499 rfl ?_
                                  refine s_bipush (C _) dL_law_501 (v := (11 : Int32)) (by decide) ?_
                                  refine s_ishr (C _) dL_law_503 ?_
                                  refine s_iconst (C _) dL_law_504 (v := (1 : Int32)) (by decide) ?_
                                  refine s_iand (C _) dL_law_505 ?_
                                  refine s_iadd (C _) dL_law_506 ?_
                                  refine s_goto (tgt := 511) (C _) dL_law_507 (by decide) ?_
                                  refine s_widen (c := (121 + 12 * k447)) (s := (7814 + 135 * k447)) (by omega) (by omega) ?_
                                  exact k511 _ hf
                          exact k447 lpN 0 _ _ _ (by omega) rfl hf
                        · refine r_aload (C _) dL_law_338 rfl ?_
                          refine s_iconst (C _) dL_law_339 (v := (4 : Int32)) (by decide) ?_
                          refine s_iload (C _) dL_law_340 rfl ?_
                          refine s_bipush (C _) dL_law_342 (v := (20 : Int32)) (by decide) ?_
                          refine s_irem (C _) dL_law_344 hf (fun hf => ?_)
                          refine s_iadd (C _) dL_law_345 ?_
                          refine L_cell (C _) hx wc_L_cell wml_L_27 wst_L_cell dL_law_346 (stk := [.int ((4 : Int32) + (x63 - x63 / (20 : Int32) * (20 : Int32))), .ref b]) rfl hf (Nat.le_of_ble_eq_true rfl) (room_ok hX (Nat.le_of_ble_eq_true rfl) (Nat.le_of_ble_eq_true rfl)) (cell_ok hX (by omega) (by omega)) (fun v195 hf => ?_)
                          refine s_iload (C _) dL_law_349 rfl ?_
                          refine s_bipush (C _) dL_law_351 (v := (12 : Int32)) (by decide) ?_
                          refine s_irem (C _) dL_law_353 hf (fun hf => ?_)
                          refine s_ishr (C _) dL_law_354 ?_
                          refine s_bipush (C _) dL_law_355 (v := (7 : Int32)) (by decide) ?_
                          refine s_iand (C _) dL_law_357 ?_
                          refine s_istore (C _) dL_law_358 (by decide) (nc_i rfl) (lv' := [some (.ref b), some (rB (xD X).1 v1), some (.int (v4 - v4 / (8 : Int32) * (8 : Int32))), none, none, none, some (rB (xD X).1 v61), some (.int x63), some (.int ((v195 >>> ((x63 - x63 / (12 : Int32) * (12 : Int32)) &&& 31)) &&& (7 : Int32))), none, none, none, none, none, none, none, none, none, none, none, none, none, none, none, none, none, none, none, none]) rfl ?_
                          refine s_aload (C _) dL_law_360 rfl ?_
                          refine s_iload (C _) dL_law_362 rfl ?_
                          refine s_iload (C _) dL_law_364 rfl ?_
                          refine s_jn hf (fun j384 e384 hf => ?_)
                          have k384 : ∀ (x196 : Int32), j384 x196 = some r → WW (sF X h64) h64 56 7271 384 [some (.ref b), some (rB (xD X).1 v1), some (.int (v4 - v4 / (8 : Int32) * (8 : Int32))), none, none, none, some (rB (xD X).1 v61), some (.int x63), none, none, none, none, none, none, none, none, none, none, none, none, none, none, none, none, none, none, none, none, none] [.int x196, .int x63, rB (xD X).1 v61] := by
                            intro x196 hf
                            rw [e384] at hf
                            refine L_iastore C0 dL_law_384 hf (fun h197 hf => ?_)
                            refine s_aload_n (C _) dL_law_385 rfl ?_
                            refine s_iload (C _) dL_law_386 rfl ?_
                            refine s_aload (C _) dL_law_388 rfl ?_
                            refine s_iload (C _) dL_law_390 rfl ?_
                            refine L_iaload C0 dL_law_392 hf (fun v198 hf => ?_)
                            refine s_callVL (rvf := fun x => some (.int x)) (st := []) (fr := 1) (lo := 20) (mc := 0) (ms := 0) (C _) [11] wc_X11_owner wml_L_43 wim_X11_owner wsl_11_X11_owner dL_law_393 (As := [.inl x63, .inl v198]) rfl hf (fun x h' hF => c_X11_owner _ _ _ _ _ _ (x, h') hF) rfl (Nat.le_of_ble_eq_true rfl) (room_ok hX (Nat.le_of_ble_eq_true rfl) (Nat.le_of_ble_eq_true rfl)) (cell_ok hX (by omega) (by omega)) (fun v200 h199 hf => ?_)
                            refine s_iconst (C _) dL_law_396 (v := (-1 : Int32)) (by decide) ?_
                            refine s_icmp_eq (tgt := 402) (C _) dL_law_397 (by decide) hf (fun hf => ?_) (fun hf => ?_)
                            · refine s_iinc (C _) dL_law_402 (v := (x63 + 1)) rfl rfl (by decide) (nc_r rfl) (lv' := [some (.ref b), some (rB (xD X).1 v1), some (.int (v4 - v4 / (8 : Int32) * (8 : Int32))), none, none, none, some (rB (xD X).1 v61), some (.int (x63 + 1)), none, none, none, none, none, none, none, none, none, none, none, none, none, none, none, none, none, none, none, none, none]) rfl ?_
                              refine s_goto (tgt := 331) (C _) dL_law_405 (by decide) ?_
                              exact ih331 _ _ hf
                            · refine s_iconst (C _) dL_law_400 (v := (0 : Int32)) (by decide) ?_
                              exact L_lawret C0 E0 h1 dL_law_401 hf (by omega) (by omega)
                          refine s_if_ne (tgt := 373) (C _) dL_law_366 (by decide) hf (fun hf => ?_) (fun hf => ?_)
                          · refine s_iload (C _) dL_law_373 rfl ?_
                            refine s_iconst (C _) dL_law_375 (v := (1 : Int32)) (by decide) ?_
                            refine s_icmp_ne (tgt := 383) (C _) dL_law_376 (by decide) hf (fun hf => ?_) (fun hf => ?_)
                            · refine s_iconst (C _) dL_law_383 (v := (-1 : Int32)) (by decide) ?_
                              refine s_weak (lv' := [some (.ref b), some (rB (xD X).1 v1), some (.int (v4 - v4 / (8 : Int32) * (8 : Int32))), none, none, none, some (rB (xD X).1 v61), some (.int x63), none, none, none, none, none, none, none, none, none, none, none, none, none, none, none, none, none, none, none, none, none]) ⟨rfl, ⟨rfl, ⟨rfl, ⟨rfl, ⟨rfl, trivial⟩⟩⟩⟩⟩ ?_
                              exact k384 _ hf
                            · refine s_iconst (C _) dL_law_379 (v := (5 : Int32)) (by decide) ?_
                              refine s_goto (tgt := 384) (C _) dL_law_380 (by decide) ?_
                              refine s_weak (lv' := [some (.ref b), some (rB (xD X).1 v1), some (.int (v4 - v4 / (8 : Int32) * (8 : Int32))), none, none, none, some (rB (xD X).1 v61), some (.int x63), none, none, none, none, none, none, none, none, none, none, none, none, none, none, none, none, none, none, none, none, none]) ⟨rfl, ⟨rfl, ⟨rfl, ⟨rfl, ⟨rfl, trivial⟩⟩⟩⟩⟩ ?_
                              exact k384 _ hf
                          · refine s_iconst (C _) dL_law_369 (v := (3 : Int32)) (by decide) ?_
                            refine s_goto (tgt := 384) (C _) dL_law_370 (by decide) ?_
                            refine s_weak (lv' := [some (.ref b), some (rB (xD X).1 v1), some (.int (v4 - v4 / (8 : Int32) * (8 : Int32))), none, none, none, some (rB (xD X).1 v61), some (.int x63), none, none, none, none, none, none, none, none, none, none, none, none, none, none, none, none, none, none, none, none, none]) ⟨rfl, ⟨rfl, ⟨rfl, ⟨rfl, ⟨rfl, trivial⟩⟩⟩⟩⟩ ?_
                            exact k384 _ hf
                    exact k331 lpN _ _ hf
                  · have hb288 : k288 < 3 := by
                      have : ¬ 3 ≤ k288 := fun q => hc (by rw [ex288]; exact nI_le (a := 3) q (by omega))
                      omega
                    refine s_aload_n (C _) dL_law_294 rfl ?_
                    refine r_aload (C _) dL_law_295 rfl ?_
                    refine s_iconst (C _) dL_law_296 (v := (1 : Int32)) (by decide) ?_
                    refine s_iload (C _) dL_law_297 rfl ?_
                    refine s_iadd (C _) dL_law_299 ?_
                    refine L_cell (C _) hx wc_L_cell wml_L_27 wst_L_cell dL_law_300 (stk := [.int ((1 : Int32) + x59), .ref b, rB (xD X).1 v1]) rfl hf (Nat.le_of_ble_eq_true rfl) (room_ok hX (Nat.le_of_ble_eq_true rfl) (Nat.le_of_ble_eq_true rfl)) (cell_ok hX (by omega) (by omega)) (fun v201 hf => ?_)
                    refine s_bipush (C _) dL_law_303 (v := (60 : Int32)) (by decide) ?_
                    refine s_irem (C _) dL_law_305 hf (fun hf => ?_)
                    refine s_callVL (rvf := fun x => some (.int x)) (st := []) (fr := 3) (lo := 65) (mc := 1) (ms := 5) (C _) [11] wc_X11_finder wml_L_40 wim_X11_finder wsl_11_X11_finder dL_law_306 (As := [.inl (v201 - v201 / (60 : Int32) * (60 : Int32))]) rfl hf (fun x h' hF => c_X11_finder _ _ _ _ _ (x, h') hF) rfl (Nat.le_of_ble_eq_true rfl) (room_ok hX (Nat.le_of_ble_eq_true rfl) (Nat.le_of_ble_eq_true rfl)) (cell_ok hX (by omega) (by omega)) (fun v203 h202 hf => ?_)
                    refine s_iload (C _) dL_law_309 rfl ?_
                    refine s_icmp_eq (tgt := 316) (C _) dL_law_311 (by decide) hf (fun hf => ?_) (fun hf => ?_)
                    · refine s_iinc (C _) dL_law_316 (v := (x59 + 1)) rfl rfl (by decide) (nc_n rfl) (lv' := [some (.ref b), some (rB (xD X).1 v1), some (.int (v4 - v4 / (8 : Int32) * (8 : Int32))), none, none, none, some (.int (x59 + 1)), none, none, none, none, none, none, none, none, none, none, none, none, none, none, none, none, none, none, none, none, none, none]) rfl ?_
                      refine s_goto (tgt := 288) (C _) dL_law_319 (by decide) ?_
                      refine s_widen (c := 52 + 1 * (k288 + 1)) (s := 7196 + 5 * (k288 + 1)) (by omega) (by omega) ?_
                      exact ih288 (k288 + 1) _ _ (by omega) (by rw [ex288]; exact nI_1 _) hf
                    · refine s_iconst (C _) dL_law_314 (v := (0 : Int32)) (by decide) ?_
                      exact L_lawret C0 E0 h1 dL_law_315 hf (by omega) (by omega)
              refine s_weak (lv' := [some (.ref b), some (rB (xD X).1 v1), some (.int (v4 - v4 / (8 : Int32) * (8 : Int32))), none, none, none, some (.int (0 : Int32)), none, none, none, none, none, none, none, none, none, none, none, none, none, none, none, none, none, none, none, none, none, none]) ⟨rfl, ⟨rfl, ⟨rfl, ⟨rfl, trivial⟩⟩⟩⟩ ?_
              exact k288 lpN 0 _ _ (by omega) rfl hf
            · refine s_weak (lv' := [none, none, none, none, none, none, none, none, none, none, none, none, none, none, none, none, none, none, none, none, none, none, none, none, none, none, none, none, none]) trivial ?_
              exact k283 _ hf
