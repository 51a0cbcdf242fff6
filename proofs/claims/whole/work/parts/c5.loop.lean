/-! THE LAW'S LOOP -/
theorem tbN {tb : List Int32} {k j : Nat} (hk : 6 * k + 6 ≤ tb.length) (hL : tb.length ≤ 3072) (hj : j < 6) {K : Int32 → Option (Int32 × AH)} {Q : Int32 → AH → Prop} : wp (tbI tb (nI (6 * k) + nI j) K) Q ↔ wp (K (tb.getD (6 * k + j) 0)) Q := by
  rw [nI_add, wp_tbI, nI_clamp (by omega)]
  exact ⟨fun q => q.2, fun q => ⟨fun z => z.elim (fun y => nI_pos (n := 6 * k + j) (by omega) y) (fun y => by omega), q⟩⟩
theorem lay_ok {h : AH} (l : Lay h) : okT h [11] (some 0) = true ∧ okT h [12] (some 49) = true := by
  constructor
  · rw [q_okT, l.s0]; rfl
  · rw [q_okT, l.s49]; rfl
theorem law_case {α : Type} {h : AH} {A1 : Option (α × AH)} {A2 : AH → Option (α × AH)} {K : α → AH → Option (Int32 × AH)} {K2 : α → α → AH → Option (Int32 × AH)} {Q : Int32 → AH → Prop} (l : Lay h) (b : wp A1 (fun r h1 => Lay h1 ∧ wp (A2 h1) (fun r2 h2 => r2 = r ∧ Inv h2))) (e : ∀ v h1, wp (K v h1) Q ↔ wp (rO h1 [12] (some 49) (cl (A2 h1) (K2 v))) Q) (k : ∀ v h2, Inv h2 → wp (K2 v v h2) Q) : wp (rO h [11] (some 0) (cl A1 K)) Q := by
  rw [wp_rO, wp_cl]
  refine ⟨(lay_ok l).1, wp_mono b ?_⟩
  rintro v h1 ⟨l1, q⟩
  rw [e, wp_rO, wp_cl]
  refine ⟨(lay_ok l1).2, wp_mono q ?_⟩
  rintro v2 h2 ⟨rfl, I2⟩
  exact k _ h2 I2
set_option maxRecDepth 100000 in
set_option maxHeartbeats 8000000 in
theorem law_loop {tb : List Int32} (hL : tb.length ≤ 3072) {h6 : AH} (I0 : Inv h6) : wp (
  lp (fun _ _ => none) (fun (L18 : Int32 → AH → Option (Int32 × AH)) (x7 : Int32) (h8 : AH) =>
    if ((nI tb.length) - (6 : Int32)) < x7 then
      rz (1 : Int32) h8
    else
      tbI tb x7 fun v9 =>
      jn (fun (h10 : AH) =>
        L18 (x7 + 6) h10) fun j2084 =>
      if (v9 &&& (63 : Int32)) = 0 then
        tbI tb (x7 + (1 : Int32)) fun v11 =>
        rO h8 [11] (some 0) <| cl (f_X11_days (some 0) v11 h8) fun v13 h12 =>
        tbI tb (x7 + (1 : Int32)) fun v14 =>
        rO h12 [12] (some 49) <| cl (f_X12_days (some 49) v14 h12) fun v16 h15 =>
        if v13 = v16 then
          j2084 h15
        else
          rz (0 : Int32) h15
      else
      if (v9 &&& (63 : Int32)) = 1 then
        tbI tb (x7 + (1 : Int32)) fun v17 =>
        tbI tb (x7 + (2 : Int32)) fun v18 =>
        rO h8 [11] (some 0) <| cl (f_X11_owner (some 0) v17 v18 h8) fun v20 h19 =>
        tbI tb (x7 + (1 : Int32)) fun v21 =>
        tbI tb (x7 + (2 : Int32)) fun v22 =>
        rO h19 [12] (some 49) <| cl (f_X12_owner (some 49) v21 v22 h19) fun v24 h23 =>
        if v20 = v24 then
          j2084 h23
        else
          rz (0 : Int32) h23
      else
      if (v9 &&& (63 : Int32)) = 2 then
        tbI tb (x7 + (1 : Int32)) fun v25 =>
        rO h8 [11] (some 0) <| cl (f_X11_body (some 0) v25 h8) fun v27 h26 =>
        tbI tb (x7 + (1 : Int32)) fun v28 =>
        rO h26 [12] (some 49) <| cl (f_X12_body (some 49) v28 h26) fun v30 h29 =>
        if v27 = v30 then
          j2084 h29
        else
          rz (0 : Int32) h29
      else
      if (v9 &&& (63 : Int32)) = 3 then
        tbI tb (x7 + (1 : Int32)) fun v31 =>
        rO h8 [11] (some 0) <| cl (f_X11_finder (some 0) v31 h8) fun v33 h32 =>
        tbI tb (x7 + (1 : Int32)) fun v34 =>
        rO h32 [12] (some 49) <| cl (f_X12_finder (some 49) v34 h32) fun v36 h35 =>
        if v33 = v36 then
          j2084 h35
        else
          rz (0 : Int32) h35
      else
      if (v9 &&& (63 : Int32)) = 4 then
        tbI tb (x7 + (1 : Int32)) fun v37 =>
        rO h8 [11] (some 0) <| cl (f_X11_leaves (some 0) v37 h8) fun v39 h38 =>
        tbI tb (x7 + (1 : Int32)) fun v40 =>
        rO h38 [12] (some 49) <| cl (f_X12_leaves (some 49) v40 h38) fun v42 h41 =>
        if v39 = v42 then
          j2084 h41
        else
          rz (0 : Int32) h41
      else
      if (v9 &&& (63 : Int32)) = 5 then
        tbI tb (x7 + (1 : Int32)) fun v43 =>
        rO h8 [11] (some 0) <| cl (f_X11_step (some 0) v43 h8) fun v45 h44 =>
        tbI tb (x7 + (1 : Int32)) fun v46 =>
        rO h44 [12] (some 49) <| cl (f_X12_step (some 49) v46 h44) fun v48 h47 =>
        if v45 = v48 then
          j2084 h47
        else
          rz (0 : Int32) h47
      else
      if (v9 &&& (63 : Int32)) = 6 then
        tbI tb (x7 + (1 : Int32)) fun v49 =>
        tbI tb (x7 + (2 : Int32)) fun v50 =>
        tbI tb (x7 + (3 : Int32)) fun v51 =>
        tbI tb (x7 + (4 : Int32)) fun v52 =>
        rO h8 [11] (some 0) <| cl (f_X11_why (some 0) v49 v50 v51 v52 h8) fun v54 h53 =>
        tbI tb (x7 + (1 : Int32)) fun v55 =>
        tbI tb (x7 + (2 : Int32)) fun v56 =>
        tbI tb (x7 + (3 : Int32)) fun v57 =>
        tbI tb (x7 + (4 : Int32)) fun v58 =>
        rO h53 [12] (some 49) <| cl (f_X12_why (some 49) v55 v56 v57 v58 h53) fun v60 h59 =>
        if v54 = v60 then
          j2084 h59
        else
          rz (0 : Int32) h59
      else
      if (v9 &&& (63 : Int32)) = 7 then
        tbI tb (x7 + (1 : Int32)) fun v61 =>
        tbI tb (x7 + (2 : Int32)) fun v62 =>
        tbI tb (x7 + (3 : Int32)) fun v63 =>
        rO h8 [11] (some 0) <| cl (f_X11_hide (some 0) v61 v62 v63 h8) fun v65 h64 =>
        tbI tb (x7 + (1 : Int32)) fun v66 =>
        tbI tb (x7 + (2 : Int32)) fun v67 =>
        tbI tb (x7 + (3 : Int32)) fun v68 =>
        rO h64 [12] (some 49) <| cl (f_X12_hide (some 49) v66 v67 v68 h64) fun v70 h69 =>
        if v65 = v70 then
          j2084 h69
        else
          rz (0 : Int32) h69
      else
      if (v9 &&& (63 : Int32)) = 8 then
        tbI tb (x7 + (1 : Int32)) fun v71 =>
        tbI tb (x7 + (2 : Int32)) fun v72 =>
        tbI tb (x7 + (3 : Int32)) fun v73 =>
        rO h8 [11] (some 0) <| cl (f_X11_move (some 0) v71 v72 v73 h8) fun v75 h74 =>
        tbI tb (x7 + (1 : Int32)) fun v76 =>
        tbI tb (x7 + (2 : Int32)) fun v77 =>
        tbI tb (x7 + (3 : Int32)) fun v78 =>
        rO h74 [12] (some 49) <| cl (f_X12_move (some 49) v76 v77 v78 h74) fun v80 h79 =>
        if v75 = v80 then
          j2084 h79
        else
          rz (0 : Int32) h79
      else
      if (v9 &&& (63 : Int32)) = 9 then
        tbI tb (x7 + (1 : Int32)) fun v81 =>
        rO h8 [11] (some 0) <| cl (f_X11_down (some 0) v81 h8) fun v83 h82 =>
        tbI tb (x7 + (1 : Int32)) fun v84 =>
        rO h82 [12] (some 49) <| cl (f_X12_down (some 49) v84 h82) fun v86 h85 =>
        if v83 = v86 then
          j2084 h85
        else
          rz (0 : Int32) h85
      else
      if (v9 &&& (63 : Int32)) = 10 then
        tbI tb (x7 + (1 : Int32)) fun v87 =>
        tbI tb (x7 + (2 : Int32)) fun v88 =>
        rO h8 [11] (some 0) <| cl (f_X11_ofBody (some 0) v87 v88 h8) fun v90 h89 =>
        tbI tb (x7 + (1 : Int32)) fun v91 =>
        tbI tb (x7 + (2 : Int32)) fun v92 =>
        rO h89 [12] (some 49) <| cl (f_X12_ofBody (some 49) v91 v92 h89) fun v94 h93 =>
        if v90 = v94 then
          j2084 h93
        else
          rz (0 : Int32) h93
      else
      if (v9 &&& (63 : Int32)) = 11 then
        tbI tb (x7 + (1 : Int32)) fun v95 =>
        tbI tb (x7 + (2 : Int32)) fun v96 =>
        tbI tb (x7 + (3 : Int32)) fun v97 =>
        rO h8 [11] (some 0) <| cl (f_X11_liesAt (some 0) v95 v96 v97 h8) fun v99 h98 =>
        tbI tb (x7 + (1 : Int32)) fun v100 =>
        tbI tb (x7 + (2 : Int32)) fun v101 =>
        tbI tb (x7 + (3 : Int32)) fun v102 =>
        rO h98 [12] (some 49) <| cl (f_X12_liesAt (some 49) v100 v101 v102 h98) fun v104 h103 =>
        if v99 = v104 then
          j2084 h103
        else
          rz (0 : Int32) h103
      else
      if (v9 &&& (63 : Int32)) = 12 then
        tbI tb (x7 + (1 : Int32)) fun v105 =>
        tbI tb (x7 + (2 : Int32)) fun v106 =>
        rO h8 [11] (some 0) <| cl (f_X11_feed (some 0) v105 v106 h8) fun v108 h107 =>
        tbI tb (x7 + (1 : Int32)) fun v109 =>
        tbI tb (x7 + (2 : Int32)) fun v110 =>
        rO h107 [12] (some 49) <| cl (f_X12_feed (some 49) v109 v110 h107) fun v112 h111 =>
        if v108 = v112 then
          j2084 h111
        else
          rz (0 : Int32) h111
      else
      if (v9 &&& (63 : Int32)) = 13 then
        tbI tb (x7 + (1 : Int32)) fun v113 =>
        tbI tb (x7 + (2 : Int32)) fun v114 =>
        rO h8 [11] (some 0) <| cl (f_X11_rule (some 0) v113 v114 h8) fun v116 h115 =>
        tbI tb (x7 + (1 : Int32)) fun v117 =>
        tbI tb (x7 + (2 : Int32)) fun v118 =>
        rO h115 [12] (some 49) <| cl (f_X12_rule (some 49) v117 v118 h115) fun v120 h119 =>
        if v116 = v120 then
          j2084 h119
        else
          rz (0 : Int32) h119
      else
      if (v9 &&& (63 : Int32)) = 14 then
        tbI tb (x7 + (1 : Int32)) fun v121 =>
        tbI tb (x7 + (2 : Int32)) fun v122 =>
        tbI tb (x7 + (3 : Int32)) fun v123 =>
        rO h8 [11] (some 0) <| cl (f_X11_inForce (some 0) v121 v122 v123 h8) fun v125 h124 =>
        tbI tb (x7 + (1 : Int32)) fun v126 =>
        tbI tb (x7 + (2 : Int32)) fun v127 =>
        tbI tb (x7 + (3 : Int32)) fun v128 =>
        rO h124 [12] (some 49) <| cl (f_X12_inForce (some 49) v126 v127 v128 h124) fun v130 h129 =>
        if v125 = v130 then
          j2084 h129
        else
          rz (0 : Int32) h129
      else
      if (v9 &&& (63 : Int32)) = 15 then
        tbI tb (x7 + (1 : Int32)) fun v131 =>
        tbI tb (x7 + (2 : Int32)) fun v132 =>
        tbI tb (x7 + (3 : Int32)) fun v133 =>
        tbI tb (x7 + (4 : Int32)) fun v134 =>
        rO h8 [11] (some 0) <| cl (f_X11_says (some 0) v131 v132 v133 v134 h8) fun v136 h135 =>
        tbI tb (x7 + (1 : Int32)) fun v137 =>
        tbI tb (x7 + (2 : Int32)) fun v138 =>
        tbI tb (x7 + (3 : Int32)) fun v139 =>
        tbI tb (x7 + (4 : Int32)) fun v140 =>
        rO h135 [12] (some 49) <| cl (f_X12_says (some 49) v137 v138 v139 v140 h135) fun v142 h141 =>
        if v136 = v142 then
          j2084 h141
        else
          rz (0 : Int32) h141
      else
      if (v9 &&& (63 : Int32)) = 16 then
        tbI tb (x7 + (1 : Int32)) fun v143 =>
        tbI tb (x7 + (2 : Int32)) fun v144 =>
        rO h8 [11] (some 0) <| cl (f_X11_nearest (some 0) v143 v144 h8) fun v146 h145 =>
        tbI tb (x7 + (1 : Int32)) fun v147 =>
        tbI tb (x7 + (2 : Int32)) fun v148 =>
        rO h145 [12] (some 49) <| cl (f_X12_nearest (some 49) v147 v148 h145) fun v150 h149 =>
        if v146 = v150 then
          j2084 h149
        else
          rz (0 : Int32) h149
      else
      if (v9 &&& (63 : Int32)) = 17 then
        tbI tb (x7 + (1 : Int32)) fun v151 =>
        tbI tb (x7 + (2 : Int32)) fun v152 =>
        tbI tb (x7 + (3 : Int32)) fun v153 =>
        tbI tb (x7 + (4 : Int32)) fun v154 =>
        rO h8 [11] (some 0) <| cl (f_X11_riddle (some 0) v151 v152 v153 v154 h8) fun v156 h155 =>
        tbI tb (x7 + (1 : Int32)) fun v157 =>
        tbI tb (x7 + (2 : Int32)) fun v158 =>
        tbI tb (x7 + (3 : Int32)) fun v159 =>
        tbI tb (x7 + (4 : Int32)) fun v160 =>
        rO h155 [12] (some 49) <| cl (f_X12_riddle (some 49) v157 v158 v159 v160 h155) fun v162 h161 =>
        if v156 = v162 then
          j2084 h161
        else
          rz (0 : Int32) h161
      else
      if (v9 &&& (63 : Int32)) = 18 then
        tbI tb (x7 + (1 : Int32)) fun v163 =>
        tbI tb (x7 + (2 : Int32)) fun v164 =>
        rO h8 [11] (some 0) <| cl (f_X11_solve (some 0) v163 v164 h8) fun v166 h165 =>
        tbI tb (x7 + (1 : Int32)) fun v167 =>
        tbI tb (x7 + (2 : Int32)) fun v168 =>
        rO h165 [12] (some 49) <| cl (f_X12_solve (some 49) v167 v168 h165) fun v170 h169 =>
        if v166 = v170 then
          j2084 h169
        else
          rz (0 : Int32) h169
      else
      if (v9 &&& (63 : Int32)) = 19 then
        tbI tb (x7 + (1 : Int32)) fun v171 =>
        tbI tb (x7 + (2 : Int32)) fun v172 =>
        rO h8 [11] (some 0) <| cl (f_X11_solved (some 0) v171 v172 h8) fun v174 h173 =>
        tbI tb (x7 + (1 : Int32)) fun v175 =>
        tbI tb (x7 + (2 : Int32)) fun v176 =>
        rO h173 [12] (some 49) <| cl (f_X12_solved (some 49) v175 v176 h173) fun v178 h177 =>
        if v174 = v178 then
          j2084 h177
        else
          rz (0 : Int32) h177
      else
      if (v9 &&& (63 : Int32)) = 20 then
        tbI tb (x7 + (1 : Int32)) fun v179 =>
        tbI tb (x7 + (2 : Int32)) fun v180 =>
        rO h8 [11] (some 0) <| cl (f_X11_others (some 0) v179 v180 h8) fun v182 h181 =>
        tbI tb (x7 + (1 : Int32)) fun v183 =>
        tbI tb (x7 + (2 : Int32)) fun v184 =>
        rO h181 [12] (some 49) <| cl (f_X12_others (some 49) v183 v184 h181) fun v186 h185 =>
        if (lg_cmp v182 v186) = 0 then
          j2084 h185
        else
          rz (0 : Int32) h185
      else
      if (v9 &&& (63 : Int32)) = 21 then
        tbI tb (x7 + (1 : Int32)) fun v187 =>
        tbI tb (x7 + (2 : Int32)) fun v188 =>
        tbI tb (x7 + (3 : Int32)) fun v189 =>
        tbI tb (x7 + (4 : Int32)) fun v190 =>
        rO h8 [11] (some 0) <| cl (f_X11_log (some 0) v187 v188 v189 v190 h8) fun v192 h191 =>
        tbI tb (x7 + (1 : Int32)) fun v193 =>
        tbI tb (x7 + (2 : Int32)) fun v194 =>
        tbI tb (x7 + (3 : Int32)) fun v195 =>
        tbI tb (x7 + (4 : Int32)) fun v196 =>
        rO h191 [12] (some 49) <| cl (f_X12_log (some 49) v193 v194 v195 v196 h191) fun v198 h197 =>
        if v192 = v198 then
          j2084 h197
        else
          rz (0 : Int32) h197
      else
      if (v9 &&& (63 : Int32)) = 22 then
        tbI tb (x7 + (1 : Int32)) fun v199 =>
        tbI tb (x7 + (2 : Int32)) fun v200 =>
        tbI tb (x7 + (3 : Int32)) fun v201 =>
        tbI tb (x7 + (4 : Int32)) fun v202 =>
        rO h8 [11] (some 0) <| cl (f_X11_paper (some 0) v199 v200 v201 v202 h8) fun v204 h203 =>
        tbI tb (x7 + (1 : Int32)) fun v205 =>
        tbI tb (x7 + (2 : Int32)) fun v206 =>
        tbI tb (x7 + (3 : Int32)) fun v207 =>
        tbI tb (x7 + (4 : Int32)) fun v208 =>
        rO h203 [12] (some 49) <| cl (f_X12_paper (some 49) v205 v206 v207 v208 h203) fun v210 h209 =>
        if v204 = v210 then
          j2084 h209
        else
          rz (0 : Int32) h209
      else
      if (v9 &&& (63 : Int32)) = 23 then
        tbI tb (x7 + (1 : Int32)) fun v211 =>
        tbI tb (x7 + (2 : Int32)) fun v212 =>
        tbI tb (x7 + (3 : Int32)) fun v213 =>
        rO h8 [11] (some 0) <| cl (f_X11_join (some 0) v211 v212 v213 h8) fun v215 h214 =>
        tbI tb (x7 + (1 : Int32)) fun v216 =>
        tbI tb (x7 + (2 : Int32)) fun v217 =>
        tbI tb (x7 + (3 : Int32)) fun v218 =>
        rO h214 [12] (some 49) <| cl (f_X12_join (some 49) v216 v217 v218 h214) fun v220 h219 =>
        if v215 = v220 then
          j2084 h219
        else
          rz (0 : Int32) h219
      else
      if (v9 &&& (63 : Int32)) = 24 then
        tbI tb (x7 + (1 : Int32)) fun v221 =>
        rO h8 [11] (some 0) <| cl (f_X11_first (some 0) v221 h8) fun v223 h222 =>
        tbI tb (x7 + (1 : Int32)) fun v224 =>
        rO h222 [12] (some 49) <| cl (f_X12_first (some 49) v224 h222) fun v226 h225 =>
        if v223 = v226 then
          j2084 h225
        else
          rz (0 : Int32) h225
      else
      if (v9 &&& (63 : Int32)) = 25 then
        tbI tb (x7 + (1 : Int32)) fun v227 =>
        tbI tb (x7 + (2 : Int32)) fun v228 =>
        rO h8 [11] (some 0) <| cl (f_X11_isFalse (some 0) v227 v228 h8) fun v230 h229 =>
        tbI tb (x7 + (1 : Int32)) fun v231 =>
        tbI tb (x7 + (2 : Int32)) fun v232 =>
        rO h229 [12] (some 49) <| cl (f_X12_isFalse (some 49) v231 v232 h229) fun v234 h233 =>
        if v230 = v234 then
          j2084 h233
        else
          rz (0 : Int32) h233
      else
      if (v9 &&& (63 : Int32)) = 26 then
        tbI tb (x7 + (1 : Int32)) fun v235 =>
        tbI tb (x7 + (2 : Int32)) fun v236 =>
        rO h8 [11] (some 0) <| cl (f_X11_gone (some 0) v235 v236 h8) fun v238 h237 =>
        tbI tb (x7 + (1 : Int32)) fun v239 =>
        tbI tb (x7 + (2 : Int32)) fun v240 =>
        rO h237 [12] (some 49) <| cl (f_X12_gone (some 49) v239 v240 h237) fun v242 h241 =>
        if v238 = v242 then
          j2084 h241
        else
          rz (0 : Int32) h241
      else
      if (v9 &&& (63 : Int32)) = 27 then
        tbI tb (x7 + (1 : Int32)) fun v243 =>
        rO h8 [11] (some 0) <| cl (f_X11_chance (some 0) v243 h8) fun v245 h244 =>
        tbI tb (x7 + (1 : Int32)) fun v246 =>
        rO h244 [12] (some 49) <| cl (f_X12_chance (some 49) v246 h244) fun v248 h247 =>
        if v245 = v248 then
          j2084 h247
        else
          rz (0 : Int32) h247
      else
      if (v9 &&& (63 : Int32)) = 28 then
        tbI tb (x7 + (1 : Int32)) fun v249 =>
        tbI tb (x7 + (2 : Int32)) fun v250 =>
        tbI tb (x7 + (3 : Int32)) fun v251 =>
        rO h8 [11] (some 0) <| cl (f_X11_tell (some 0) v249 v250 v251 h8) fun v253 h252 =>
        tbI tb (x7 + (1 : Int32)) fun v254 =>
        tbI tb (x7 + (2 : Int32)) fun v255 =>
        tbI tb (x7 + (3 : Int32)) fun v256 =>
        rO h252 [12] (some 49) <| cl (f_X12_tell (some 49) v254 v255 v256 h252) fun v258 h257 =>
        if v253 = v258 then
          j2084 h257
        else
          rz (0 : Int32) h257
      else
      if (v9 &&& (63 : Int32)) = 29 then
        tbI tb (x7 + (1 : Int32)) fun v259 =>
        tbI tb (x7 + (2 : Int32)) fun v260 =>
        rO h8 [11] (some 0) <| cl (f_X11_jump (some 0) v259 v260 h8) fun v262 h261 =>
        tbI tb (x7 + (1 : Int32)) fun v263 =>
        tbI tb (x7 + (2 : Int32)) fun v264 =>
        rO h261 [12] (some 49) <| cl (f_X12_jump (some 49) v263 v264 h261) fun v266 h265 =>
        if v262 = v266 then
          j2084 h265
        else
          rz (0 : Int32) h265
      else
      if (v9 &&& (63 : Int32)) = 30 then
        tbI tb (x7 + (1 : Int32)) fun v267 =>
        rO h8 [11] (some 0) <| cl (f_X11_chain (some 0) v267 h8) fun v269 h268 =>
        tbI tb (x7 + (1 : Int32)) fun v270 =>
        rO h268 [12] (some 49) <| cl (f_X12_chain (some 49) v270 h268) fun v272 h271 =>
        if v269 = v272 then
          j2084 h271
        else
          rz (0 : Int32) h271
      else
      if (v9 &&& (63 : Int32)) = 31 then
        tbI tb (x7 + (1 : Int32)) fun v273 =>
        tbI tb (x7 + (2 : Int32)) fun v274 =>
        rO h8 [11] (some 0) <| cl (f_X11_asks (some 0) v273 v274 h8) fun v276 h275 =>
        tbI tb (x7 + (1 : Int32)) fun v277 =>
        tbI tb (x7 + (2 : Int32)) fun v278 =>
        rO h275 [12] (some 49) <| cl (f_X12_asks (some 49) v277 v278 h275) fun v280 h279 =>
        if v276 = v280 then
          j2084 h279
        else
          rz (0 : Int32) h279
      else
      if (v9 &&& (63 : Int32)) = 32 then
        tbI tb (x7 + (1 : Int32)) fun v281 =>
        rO h8 [11] (some 0) <| cl (f_X11_taker (some 0) v281 h8) fun v283 h282 =>
        tbI tb (x7 + (1 : Int32)) fun v284 =>
        rO h282 [12] (some 49) <| cl (f_X12_taker (some 49) v284 h282) fun v286 h285 =>
        if v283 = v286 then
          j2084 h285
        else
          rz (0 : Int32) h285
      else
      if (v9 &&& (63 : Int32)) = 33 then
        tbI tb (x7 + (1 : Int32)) fun v287 =>
        rO h8 [11] (some 0) <| cl (f_X11_take (some 0) v287 h8) fun v289 h288 =>
        tbI tb (x7 + (1 : Int32)) fun v290 =>
        rO h288 [12] (some 49) <| cl (f_X12_take (some 49) v290 h288) fun v292 h291 =>
        if v289 = v292 then
          j2084 h291
        else
          rz (0 : Int32) h291
      else
      if (v9 &&& (63 : Int32)) = 34 then
        tbI tb (x7 + (1 : Int32)) fun v293 =>
        rO h8 [11] (some 0) <| cl (f_X11_toPut (some 0) v293 h8) fun v295 h294 =>
        tbI tb (x7 + (1 : Int32)) fun v296 =>
        rO h294 [12] (some 49) <| cl (f_X12_toPut (some 49) v296 h294) fun v298 h297 =>
        if v295 = v298 then
          j2084 h297
        else
          rz (0 : Int32) h297
      else
      if (v9 &&& (63 : Int32)) = 35 then
        rO h8 [11] (some 0) <| cl (f_X11_putAll (some 0) h8) fun v300 h299 =>
        rO h299 [12] (some 49) <| cl (f_X12_putAll (some 49) h299) fun v302 h301 =>
        if v300 = v302 then
          j2084 h301
        else
          rz (0 : Int32) h301
      else
      if (v9 &&& (63 : Int32)) = 36 then
        tbI tb (x7 + (1 : Int32)) fun v303 =>
        tbI tb (x7 + (2 : Int32)) fun v304 =>
        tbI tb (x7 + (3 : Int32)) fun v305 =>
        rO h8 [11] (some 0) <| cl (f_X11_wish (some 0) v303 v304 v305 h8) fun v307 h306 =>
        tbI tb (x7 + (1 : Int32)) fun v308 =>
        tbI tb (x7 + (2 : Int32)) fun v309 =>
        tbI tb (x7 + (3 : Int32)) fun v310 =>
        rO h306 [12] (some 49) <| cl (f_X12_wish (some 49) v308 v309 v310 h306) fun v312 h311 =>
        if v307 = v312 then
          j2084 h311
        else
          rz (0 : Int32) h311
      else
      if (v9 &&& (63 : Int32)) = 37 then
        tbI tb (x7 + (1 : Int32)) fun v313 =>
        tbI tb (x7 + (2 : Int32)) fun v314 =>
        rO h8 [11] (some 0) <| cl (f_X11_walk (some 0) v313 v314 h8) fun v316 h315 =>
        tbI tb (x7 + (1 : Int32)) fun v317 =>
        tbI tb (x7 + (2 : Int32)) fun v318 =>
        rO h315 [12] (some 49) <| cl (f_X12_walk (some 49) v317 v318 h315) fun v320 h319 =>
        if v316 = v320 then
          j2084 h319
        else
          rz (0 : Int32) h319
      else
      if (v9 &&& (63 : Int32)) = 38 then
        tbI tb (x7 + (1 : Int32)) fun v321 =>
        rO h8 [11] (some 0) <| cl (f_X11_walked (some 0) v321 h8) fun v323 h322 =>
        tbI tb (x7 + (1 : Int32)) fun v324 =>
        rO h322 [12] (some 49) <| cl (f_X12_walked (some 49) v324 h322) fun v326 h325 =>
        if v323 = v326 then
          j2084 h325
        else
          rz (0 : Int32) h325
      else
      if (v9 &&& (63 : Int32)) = 39 then
        tbI tb (x7 + (1 : Int32)) fun v327 =>
        tbI tb (x7 + (2 : Int32)) fun v328 =>
        tbI tb (x7 + (3 : Int32)) fun v329 =>
        rO h8 [11] (some 0) <| cl (f_X11_judge (some 0) v327 v328 v329 h8) fun v331 h330 =>
        tbI tb (x7 + (1 : Int32)) fun v332 =>
        tbI tb (x7 + (2 : Int32)) fun v333 =>
        tbI tb (x7 + (3 : Int32)) fun v334 =>
        rO h330 [12] (some 49) <| cl (f_X12_judge (some 49) v332 v333 v334 h330) fun v336 h335 =>
        if v331 = v336 then
          j2084 h335
        else
          rz (0 : Int32) h335
      else
      if (v9 &&& (63 : Int32)) = 40 then
        tbI tb (x7 + (1 : Int32)) fun v337 =>
        tbI tb (x7 + (2 : Int32)) fun v338 =>
        rO h8 [11] (some 0) <| cl (f_X11_lookAt (some 0) v337 v338 h8) fun v340 h339 =>
        tbI tb (x7 + (1 : Int32)) fun v341 =>
        tbI tb (x7 + (2 : Int32)) fun v342 =>
        rO h339 [12] (some 49) <| cl (f_X12_lookAt (some 49) v341 v342 h339) fun v344 h343 =>
        if v340 = v344 then
          j2084 h343
        else
          rz (0 : Int32) h343
      else
      if (v9 &&& (63 : Int32)) = 41 then
        tbI tb (x7 + (1 : Int32)) fun v345 =>
        rO h8 [11] (some 0) <| cl (f_X11_nobody (some 0) v345 h8) fun v347 h346 =>
        tbI tb (x7 + (1 : Int32)) fun v348 =>
        rO h346 [12] (some 49) <| cl (f_X12_nobody (some 49) v348 h346) fun v350 h349 =>
        if v347 = v350 then
          j2084 h349
        else
          rz (0 : Int32) h349
      else
      if (v9 &&& (63 : Int32)) = 42 then
        tbI tb (x7 + (1 : Int32)) fun v351 =>
        tbI tb (x7 + (2 : Int32)) fun v352 =>
        tbI tb (x7 + (3 : Int32)) fun v353 =>
        tbI tb (x7 + (4 : Int32)) fun v354 =>
        rO h8 [11] (some 0) <| cl (f_X11_rank (some 0) v351 v352 v353 v354 h8) fun v356 h355 =>
        tbI tb (x7 + (1 : Int32)) fun v357 =>
        tbI tb (x7 + (2 : Int32)) fun v358 =>
        tbI tb (x7 + (3 : Int32)) fun v359 =>
        tbI tb (x7 + (4 : Int32)) fun v360 =>
        rO h355 [12] (some 49) <| cl (f_X12_rank (some 49) v357 v358 v359 v360 h355) fun v362 h361 =>
        if v356 = v362 then
          j2084 h361
        else
          rz (0 : Int32) h361
      else
      if (v9 &&& (63 : Int32)) = 43 then
        tbI tb (x7 + (1 : Int32)) fun v363 =>
        tbI tb (x7 + (2 : Int32)) fun v364 =>
        tbI tb (x7 + (3 : Int32)) fun v365 =>
        rO h8 [11] (some 0) <| cl (f_X11_act (some 0) v363 v364 v365 h8) fun v367 h366 =>
        tbI tb (x7 + (1 : Int32)) fun v368 =>
        tbI tb (x7 + (2 : Int32)) fun v369 =>
        tbI tb (x7 + (3 : Int32)) fun v370 =>
        rO h366 [12] (some 49) <| cl (f_X12_act (some 49) v368 v369 v370 h366) fun v372 h371 =>
        if v367 = v372 then
          j2084 h371
        else
          rz (0 : Int32) h371
      else
      if (v9 &&& (63 : Int32)) = 44 then
        tbI tb (x7 + (1 : Int32)) fun v373 =>
        rO h8 [11] (some 0) <| cl (f_X11_trace (some 0) v373 h8) fun v375 h374 =>
        tbI tb (x7 + (1 : Int32)) fun v376 =>
        rO h374 [12] (some 49) <| cl (f_X12_trace (some 49) v376 h374) fun v378 h377 =>
        if v375 = v378 then
          j2084 h377
        else
          rz (0 : Int32) h377
      else
      if (v9 &&& (63 : Int32)) = 45 then
        tbI tb (x7 + (1 : Int32)) fun v379 =>
        tbI tb (x7 + (2 : Int32)) fun v380 =>
        rO h8 [11] (some 0) <| cl (f_X11_keep (some 0) v379 v380 h8) fun v382 h381 =>
        tbI tb (x7 + (1 : Int32)) fun v383 =>
        tbI tb (x7 + (2 : Int32)) fun v384 =>
        rO h381 [12] (some 49) <| cl (f_X12_keep (some 49) v383 v384 h381) fun v386 h385 =>
        if v382 = v386 then
          j2084 h385
        else
          rz (0 : Int32) h385
      else
      if (v9 &&& (63 : Int32)) = 46 then
        tbI tb (x7 + (1 : Int32)) fun v387 =>
        tbI tb (x7 + (2 : Int32)) fun v388 =>
        tbI tb (x7 + (3 : Int32)) fun v389 =>
        rO h8 [11] (some 0) <| cl (f_X11_row (some 0) v387 v388 v389 h8) fun v391 h390 =>
        tbI tb (x7 + (1 : Int32)) fun v392 =>
        tbI tb (x7 + (2 : Int32)) fun v393 =>
        tbI tb (x7 + (3 : Int32)) fun v394 =>
        rO h390 [12] (some 49) <| cl (f_X12_row (some 49) v392 v393 v394 h390) fun v396 h395 =>
        if v391 = v396 then
          j2084 h395
        else
          rz (0 : Int32) h395
      else
      if (v9 &&& (63 : Int32)) = 47 then
        tbI tb (x7 + (1 : Int32)) fun v397 =>
        tbI tb (x7 + (2 : Int32)) fun v398 =>
        tbI tb (x7 + (3 : Int32)) fun v399 =>
        tbI tb (x7 + (4 : Int32)) fun v400 =>
        rO h8 [11] (some 0) <| cl (f_X11_put (some 0) v397 v398 ((v399.toInt64 <<< ((32 : Int32).toInt64 &&& 63)) ||| (v400.toInt64 &&& (4294967295 : Int64))) h8) fun v402 h401 =>
        tbI tb (x7 + (1 : Int32)) fun v403 =>
        tbI tb (x7 + (2 : Int32)) fun v404 =>
        tbI tb (x7 + (3 : Int32)) fun v405 =>
        tbI tb (x7 + (4 : Int32)) fun v406 =>
        rO h401 [12] (some 49) <| cl (f_X12_put (some 49) v403 v404 ((v405.toInt64 <<< ((32 : Int32).toInt64 &&& 63)) ||| (v406.toInt64 &&& (4294967295 : Int64))) h401) fun v408 h407 =>
        if v402 = v408 then
          j2084 h407
        else
          rz (0 : Int32) h407
      else
      if (v9 &&& (63 : Int32)) = 48 then
        tbI tb (x7 + (1 : Int32)) fun v409 =>
        tbI tb (x7 + (2 : Int32)) fun v410 =>
        rO h8 [11] (some 0) <| cl (f_X11_element (some 0) v409 v410 h8) fun v412 h411 =>
        tbI tb (x7 + (1 : Int32)) fun v413 =>
        tbI tb (x7 + (2 : Int32)) fun v414 =>
        rO h411 [12] (some 49) <| cl (f_X12_element (some 49) v413 v414 h411) fun v416 h415 =>
        if (lg_cmp v412 v416) = 0 then
          j2084 h415
        else
          rz (0 : Int32) h415
      else
      if (v9 &&& (63 : Int32)) = 49 then
        tbI tb (x7 + (1 : Int32)) fun v417 =>
        tbI tb (x7 + (2 : Int32)) fun v418 =>
        tbI tb (x7 + (3 : Int32)) fun v419 =>
        tbI tb (x7 + (4 : Int32)) fun v420 =>
        tbI tb (x7 + (5 : Int32)) fun v421 =>
        rO h8 [11] (some 0) <| cl (f_X11_shift (some 0) v417 v418 v419 v420 v421 h8) fun v423 h422 =>
        tbI tb (x7 + (1 : Int32)) fun v424 =>
        tbI tb (x7 + (2 : Int32)) fun v425 =>
        tbI tb (x7 + (3 : Int32)) fun v426 =>
        tbI tb (x7 + (4 : Int32)) fun v427 =>
        tbI tb (x7 + (5 : Int32)) fun v428 =>
        rO h422 [12] (some 49) <| cl (f_X12_shift (some 49) v424 v425 v426 v427 v428 h422) fun v430 h429 =>
        if v423 = v430 then
          j2084 h429
        else
          rz (0 : Int32) h429
      else
      if (v9 &&& (63 : Int32)) = 50 then
        tbI tb (x7 + (1 : Int32)) fun v431 =>
        tbI tb (x7 + (2 : Int32)) fun v432 =>
        rO h8 [11] (some 0) <| cl (f_X11_taken (some 0) v431 v432 h8) fun v434 h433 =>
        tbI tb (x7 + (1 : Int32)) fun v435 =>
        tbI tb (x7 + (2 : Int32)) fun v436 =>
        rO h433 [12] (some 49) <| cl (f_X12_taken (some 49) v435 v436 h433) fun v438 h437 =>
        if v434 = v438 then
          j2084 h437
        else
          rz (0 : Int32) h437
      else
      if (v9 &&& (63 : Int32)) = 51 then
        tbI tb (x7 + (1 : Int32)) fun v439 =>
        rO h8 [11] (some 0) <| cl (f_X11_count (some 0) v439 h8) fun v441 h440 =>
        tbI tb (x7 + (1 : Int32)) fun v442 =>
        rO h440 [12] (some 49) <| cl (f_X12_count (some 49) v442 h440) fun v444 h443 =>
        if v441 = v444 then
          j2084 h443
        else
          rz (0 : Int32) h443
      else
        j2084 h8) lpN (0 : Int32) h6) (fun r _ => r = 1) := by
  refine wp_g2 (tb.length / 6) (fun k x h => x = nI (6 * k) ∧ Inv h) ⟨rfl, I0⟩ (by omega) ?_ ?_
  · rintro G x h ⟨rfl, I⟩
    have g : nI tb.length - 6 < nI (6 * (tb.length / 6)) := by
      by_cases c : 6 ≤ tb.length
      · rw [show (6 : Int32) = nI 6 from rfl, nI_sub c, nI_ltI (by omega) (by omega)]; omega
      · have : tb.length = 0 ∨ tb.length = 1 ∨ tb.length = 2 ∨ tb.length = 3 ∨ tb.length = 4 ∨ tb.length = 5 := by omega
        rcases this with e | e | e | e | e | e <;> rw [e] <;> decide
    rw [if_pos g]
    exact wp_rz.mpr ⟨Or.inr rfl, rfl⟩
  · rintro G k x h hk ⟨rfl, I⟩ ih
    have hk6 : 6 * k + 6 ≤ tb.length := by omega
    have g : ¬ nI tb.length - 6 < nI (6 * k) := by
      rw [show (6 : Int32) = nI 6 from rfl, nI_sub (by omega), nI_ltI (by omega) (by omega)]; omega
    rw [if_neg g]
    obtain ⟨w, P, ad, R, -, -⟩ := id I
    have l := R.l
    have T0 : ∀ (K : Int32 → Option (Int32 × AH)) (Q : Int32 → AH → Prop), wp (tbI tb (nI (6 * k)) K) Q ↔ wp (K (tb.getD (6 * k) 0)) Q := fun K Q => by
      rw [wp_tbI, nI_clamp (by omega)]
      exact ⟨fun q => q.2, fun q => ⟨fun z => z.elim (fun y => nI_pos (n := 6 * k) (by omega) y) (fun y => by omega), q⟩⟩
    have T1 : ∀ (K : Int32 → Option (Int32 × AH)) (Q : Int32 → AH → Prop), wp (tbI tb (nI (6 * k) + 1) K) Q ↔ wp (K (tb.getD (6 * k + 1) 0)) Q := fun K Q => tbN (j := 1) hk6 hL (by omega)
    have T2 : ∀ (K : Int32 → Option (Int32 × AH)) (Q : Int32 → AH → Prop), wp (tbI tb (nI (6 * k) + 2) K) Q ↔ wp (K (tb.getD (6 * k + 2) 0)) Q := fun K Q => tbN (j := 2) hk6 hL (by omega)
    have T3 : ∀ (K : Int32 → Option (Int32 × AH)) (Q : Int32 → AH → Prop), wp (tbI tb (nI (6 * k) + 3) K) Q ↔ wp (K (tb.getD (6 * k + 3) 0)) Q := fun K Q => tbN (j := 3) hk6 hL (by omega)
    have T4 : ∀ (K : Int32 → Option (Int32 × AH)) (Q : Int32 → AH → Prop), wp (tbI tb (nI (6 * k) + 4) K) Q ↔ wp (K (tb.getD (6 * k + 4) 0)) Q := fun K Q => tbN (j := 4) hk6 hL (by omega)
    have T5 : ∀ (K : Int32 → Option (Int32 × AH)) (Q : Int32 → AH → Prop), wp (tbI tb (nI (6 * k) + 5) K) Q ↔ wp (K (tb.getD (6 * k + 5) 0)) Q := fun K Q => tbN (j := 5) hk6 hL (by omega)
    have e6 : nI (6 * k) + 6 = nI (6 * (k + 1)) := by rw [show (6 : Int32) = nI 6 from rfl, nI_add]; congr 1
    rw [T0]
    refine wp_jnP (fun K => ∀ h', Inv h' → wp (K h') (fun r _ => r = 1)) (fun h' I' => ih _ _ ⟨e6, I'⟩) ?_
    intro J hJ
    generalize (tb.getD (6 * k) 0 &&& (63 : Int32)) = op
    by_cases c0 : op = 0
    · rw [if_pos c0, T1]
      refine law_case (K2 := fun v v2 h => if v = v2 then J h else rz 0 h) l (b_days I _) (fun v h1 => ?_) (fun v h2 I2 => ?_)
      · simp only [T1]
      · rw [if_pos rfl]; exact hJ h2 I2
    rw [if_neg c0]
    by_cases c1 : op = 1
    · rw [if_pos c1, T1, T2]
      refine law_case (K2 := fun v v2 h => if v = v2 then J h else rz 0 h) l (b_owner I _ _) (fun v h1 => ?_) (fun v h2 I2 => ?_)
      · simp only [T1, T2]
      · rw [if_pos rfl]; exact hJ h2 I2
    rw [if_neg c1]
    by_cases c2 : op = 2
    · rw [if_pos c2, T1]
      refine law_case (K2 := fun v v2 h => if v = v2 then J h else rz 0 h) l (b_body I _) (fun v h1 => ?_) (fun v h2 I2 => ?_)
      · simp only [T1]
      · rw [if_pos rfl]; exact hJ h2 I2
    rw [if_neg c2]
    by_cases c3 : op = 3
    · rw [if_pos c3, T1]
      refine law_case (K2 := fun v v2 h => if v = v2 then J h else rz 0 h) l (b_finder I _) (fun v h1 => ?_) (fun v h2 I2 => ?_)
      · simp only [T1]
      · rw [if_pos rfl]; exact hJ h2 I2
    rw [if_neg c3]
    by_cases c4 : op = 4
    · rw [if_pos c4, T1]
      refine law_case (K2 := fun v v2 h => if v = v2 then J h else rz 0 h) l (b_leaves I _) (fun v h1 => ?_) (fun v h2 I2 => ?_)
      · simp only [T1]
      · rw [if_pos rfl]; exact hJ h2 I2
    rw [if_neg c4]
    by_cases c5 : op = 5
    · rw [if_pos c5, T1]
      refine law_case (K2 := fun v v2 h => if v = v2 then J h else rz 0 h) l (b_step I _) (fun v h1 => ?_) (fun v h2 I2 => ?_)
      · simp only [T1]
      · rw [if_pos rfl]; exact hJ h2 I2
    rw [if_neg c5]
    by_cases c6 : op = 6
    · rw [if_pos c6, T1, T2, T3, T4]
      refine law_case (K2 := fun v v2 h => if v = v2 then J h else rz 0 h) l (b_why I _ _ _ _) (fun v h1 => ?_) (fun v h2 I2 => ?_)
      · simp only [T1, T2, T3, T4]
      · rw [if_pos rfl]; exact hJ h2 I2
    rw [if_neg c6]
    by_cases c7 : op = 7
    · rw [if_pos c7, T1, T2, T3]
      refine law_case (K2 := fun v v2 h => if v = v2 then J h else rz 0 h) l (b_hide I _ _ _) (fun v h1 => ?_) (fun v h2 I2 => ?_)
      · simp only [T1, T2, T3]
      · rw [if_pos rfl]; exact hJ h2 I2
    rw [if_neg c7]
    by_cases c8 : op = 8
    · rw [if_pos c8, T1, T2, T3]
      refine law_case (K2 := fun v v2 h => if v = v2 then J h else rz 0 h) l (b_move I _ _ _) (fun v h1 => ?_) (fun v h2 I2 => ?_)
      · simp only [T1, T2, T3]
      · rw [if_pos rfl]; exact hJ h2 I2
    rw [if_neg c8]
    by_cases c9 : op = 9
    · rw [if_pos c9, T1]
      refine law_case (K2 := fun v v2 h => if v = v2 then J h else rz 0 h) l (b_down I _) (fun v h1 => ?_) (fun v h2 I2 => ?_)
      · simp only [T1]
      · rw [if_pos rfl]; exact hJ h2 I2
    rw [if_neg c9]
    by_cases c10 : op = 10
    · rw [if_pos c10, T1, T2]
      refine law_case (K2 := fun v v2 h => if v = v2 then J h else rz 0 h) l (b_ofBody I _ _) (fun v h1 => ?_) (fun v h2 I2 => ?_)
      · simp only [T1, T2]
      · rw [if_pos rfl]; exact hJ h2 I2
    rw [if_neg c10]
    by_cases c11 : op = 11
    · rw [if_pos c11, T1, T2, T3]
      refine law_case (K2 := fun v v2 h => if v = v2 then J h else rz 0 h) l (b_liesAt I _ _ _) (fun v h1 => ?_) (fun v h2 I2 => ?_)
      · simp only [T1, T2, T3]
      · rw [if_pos rfl]; exact hJ h2 I2
    rw [if_neg c11]
    by_cases c12 : op = 12
    · rw [if_pos c12, T1, T2]
      refine law_case (K2 := fun v v2 h => if v = v2 then J h else rz 0 h) l (b_feed I _ _) (fun v h1 => ?_) (fun v h2 I2 => ?_)
      · simp only [T1, T2]
      · rw [if_pos rfl]; exact hJ h2 I2
    rw [if_neg c12]
    by_cases c13 : op = 13
    · rw [if_pos c13, T1, T2]
      refine law_case (K2 := fun v v2 h => if v = v2 then J h else rz 0 h) l (b_rule I _ _) (fun v h1 => ?_) (fun v h2 I2 => ?_)
      · simp only [T1, T2]
      · rw [if_pos rfl]; exact hJ h2 I2
    rw [if_neg c13]
    by_cases c14 : op = 14
    · rw [if_pos c14, T1, T2, T3]
      refine law_case (K2 := fun v v2 h => if v = v2 then J h else rz 0 h) l (b_inForce I _ _ _) (fun v h1 => ?_) (fun v h2 I2 => ?_)
      · simp only [T1, T2, T3]
      · rw [if_pos rfl]; exact hJ h2 I2
    rw [if_neg c14]
    by_cases c15 : op = 15
    · rw [if_pos c15, T1, T2, T3, T4]
      refine law_case (K2 := fun v v2 h => if v = v2 then J h else rz 0 h) l (b_says I _ _ _ _) (fun v h1 => ?_) (fun v h2 I2 => ?_)
      · simp only [T1, T2, T3, T4]
      · rw [if_pos rfl]; exact hJ h2 I2
    rw [if_neg c15]
    by_cases c16 : op = 16
    · rw [if_pos c16, T1, T2]
      refine law_case (K2 := fun v v2 h => if v = v2 then J h else rz 0 h) l (b_nearest I _ _) (fun v h1 => ?_) (fun v h2 I2 => ?_)
      · simp only [T1, T2]
      · rw [if_pos rfl]; exact hJ h2 I2
    rw [if_neg c16]
    by_cases c17 : op = 17
    · rw [if_pos c17, T1, T2, T3, T4]
      refine law_case (K2 := fun v v2 h => if v = v2 then J h else rz 0 h) l (b_riddle I _ _ _ _) (fun v h1 => ?_) (fun v h2 I2 => ?_)
      · simp only [T1, T2, T3, T4]
      · rw [if_pos rfl]; exact hJ h2 I2
    rw [if_neg c17]
    by_cases c18 : op = 18
    · rw [if_pos c18, T1, T2]
      refine law_case (K2 := fun v v2 h => if v = v2 then J h else rz 0 h) l (b_solve I _ _) (fun v h1 => ?_) (fun v h2 I2 => ?_)
      · simp only [T1, T2]
      · rw [if_pos rfl]; exact hJ h2 I2
    rw [if_neg c18]
    by_cases c19 : op = 19
    · rw [if_pos c19, T1, T2]
      refine law_case (K2 := fun v v2 h => if v = v2 then J h else rz 0 h) l (b_solved I _ _) (fun v h1 => ?_) (fun v h2 I2 => ?_)
      · simp only [T1, T2]
      · rw [if_pos rfl]; exact hJ h2 I2
    rw [if_neg c19]
    by_cases c20 : op = 20
    · rw [if_pos c20, T1, T2]
      refine law_case (K2 := fun v v2 h => if (lg_cmp v v2) = 0 then J h else rz 0 h) l (b_others I _ _) (fun v h1 => ?_) (fun v h2 I2 => ?_)
      · simp only [T1, T2]
      · rw [if_pos ((lg_cmp0 v v).mpr rfl)]; exact hJ h2 I2
    rw [if_neg c20]
    by_cases c21 : op = 21
    · rw [if_pos c21, T1, T2, T3, T4]
      refine law_case (K2 := fun v v2 h => if v = v2 then J h else rz 0 h) l (b_log I _ _ _ _) (fun v h1 => ?_) (fun v h2 I2 => ?_)
      · simp only [T1, T2, T3, T4]
      · rw [if_pos rfl]; exact hJ h2 I2
    rw [if_neg c21]
    by_cases c22 : op = 22
    · rw [if_pos c22, T1, T2, T3, T4]
      refine law_case (K2 := fun v v2 h => if v = v2 then J h else rz 0 h) l (b_paper I _ _ _ _) (fun v h1 => ?_) (fun v h2 I2 => ?_)
      · simp only [T1, T2, T3, T4]
      · rw [if_pos rfl]; exact hJ h2 I2
    rw [if_neg c22]
    by_cases c23 : op = 23
    · rw [if_pos c23, T1, T2, T3]
      refine law_case (K2 := fun v v2 h => if v = v2 then J h else rz 0 h) l (b_join I _ _ _) (fun v h1 => ?_) (fun v h2 I2 => ?_)
      · simp only [T1, T2, T3]
      · rw [if_pos rfl]; exact hJ h2 I2
    rw [if_neg c23]
    by_cases c24 : op = 24
    · rw [if_pos c24, T1]
      refine law_case (K2 := fun v v2 h => if v = v2 then J h else rz 0 h) l (b_first I _) (fun v h1 => ?_) (fun v h2 I2 => ?_)
      · simp only [T1]
      · rw [if_pos rfl]; exact hJ h2 I2
    rw [if_neg c24]
    by_cases c25 : op = 25
    · rw [if_pos c25, T1, T2]
      refine law_case (K2 := fun v v2 h => if v = v2 then J h else rz 0 h) l (b_isFalse I _ _) (fun v h1 => ?_) (fun v h2 I2 => ?_)
      · simp only [T1, T2]
      · rw [if_pos rfl]; exact hJ h2 I2
    rw [if_neg c25]
    by_cases c26 : op = 26
    · rw [if_pos c26, T1, T2]
      refine law_case (K2 := fun v v2 h => if v = v2 then J h else rz 0 h) l (b_gone I _ _) (fun v h1 => ?_) (fun v h2 I2 => ?_)
      · simp only [T1, T2]
      · rw [if_pos rfl]; exact hJ h2 I2
    rw [if_neg c26]
    by_cases c27 : op = 27
    · rw [if_pos c27, T1]
      refine law_case (K2 := fun v v2 h => if v = v2 then J h else rz 0 h) l (b_chance I _) (fun v h1 => ?_) (fun v h2 I2 => ?_)
      · simp only [T1]
      · rw [if_pos rfl]; exact hJ h2 I2
    rw [if_neg c27]
    by_cases c28 : op = 28
    · rw [if_pos c28, T1, T2, T3]
      refine law_case (K2 := fun v v2 h => if v = v2 then J h else rz 0 h) l (b_tell I _ _ _) (fun v h1 => ?_) (fun v h2 I2 => ?_)
      · simp only [T1, T2, T3]
      · rw [if_pos rfl]; exact hJ h2 I2
    rw [if_neg c28]
    by_cases c29 : op = 29
    · rw [if_pos c29, T1, T2]
      refine law_case (K2 := fun v v2 h => if v = v2 then J h else rz 0 h) l (b_jump I _ _) (fun v h1 => ?_) (fun v h2 I2 => ?_)
      · simp only [T1, T2]
      · rw [if_pos rfl]; exact hJ h2 I2
    rw [if_neg c29]
    by_cases c30 : op = 30
    · rw [if_pos c30, T1]
      refine law_case (K2 := fun v v2 h => if v = v2 then J h else rz 0 h) l (b_chain I _) (fun v h1 => ?_) (fun v h2 I2 => ?_)
      · simp only [T1]
      · rw [if_pos rfl]; exact hJ h2 I2
    rw [if_neg c30]
    by_cases c31 : op = 31
    · rw [if_pos c31, T1, T2]
      refine law_case (K2 := fun v v2 h => if v = v2 then J h else rz 0 h) l (b_asks I _ _) (fun v h1 => ?_) (fun v h2 I2 => ?_)
      · simp only [T1, T2]
      · rw [if_pos rfl]; exact hJ h2 I2
    rw [if_neg c31]
    by_cases c32 : op = 32
    · rw [if_pos c32, T1]
      refine law_case (K2 := fun v v2 h => if v = v2 then J h else rz 0 h) l (b_taker I _) (fun v h1 => ?_) (fun v h2 I2 => ?_)
      · simp only [T1]
      · rw [if_pos rfl]; exact hJ h2 I2
    rw [if_neg c32]
    by_cases c33 : op = 33
    · rw [if_pos c33, T1]
      refine law_case (K2 := fun v v2 h => if v = v2 then J h else rz 0 h) l (b_take I _) (fun v h1 => ?_) (fun v h2 I2 => ?_)
      · simp only [T1]
      · rw [if_pos rfl]; exact hJ h2 I2
    rw [if_neg c33]
    by_cases c34 : op = 34
    · rw [if_pos c34, T1]
      refine law_case (K2 := fun v v2 h => if v = v2 then J h else rz 0 h) l (b_toPut I _) (fun v h1 => ?_) (fun v h2 I2 => ?_)
      · simp only [T1]
      · rw [if_pos rfl]; exact hJ h2 I2
    rw [if_neg c34]
    by_cases c35 : op = 35
    · rw [if_pos c35]
      refine law_case (K2 := fun v v2 h => if v = v2 then J h else rz 0 h) l (b_putAll I) (fun v h1 => ?_) (fun v h2 I2 => ?_)
      · exact Iff.rfl
      · rw [if_pos rfl]; exact hJ h2 I2
    rw [if_neg c35]
    by_cases c36 : op = 36
    · rw [if_pos c36, T1, T2, T3]
      refine law_case (K2 := fun v v2 h => if v = v2 then J h else rz 0 h) l (b_wish I _ _ _) (fun v h1 => ?_) (fun v h2 I2 => ?_)
      · simp only [T1, T2, T3]
      · rw [if_pos rfl]; exact hJ h2 I2
    rw [if_neg c36]
    by_cases c37 : op = 37
    · rw [if_pos c37, T1, T2]
      refine law_case (K2 := fun v v2 h => if v = v2 then J h else rz 0 h) l (b_walk I _ _) (fun v h1 => ?_) (fun v h2 I2 => ?_)
      · simp only [T1, T2]
      · rw [if_pos rfl]; exact hJ h2 I2
    rw [if_neg c37]
    by_cases c38 : op = 38
    · rw [if_pos c38, T1]
      refine law_case (K2 := fun v v2 h => if v = v2 then J h else rz 0 h) l (b_walked I _) (fun v h1 => ?_) (fun v h2 I2 => ?_)
      · simp only [T1]
      · rw [if_pos rfl]; exact hJ h2 I2
    rw [if_neg c38]
    by_cases c39 : op = 39
    · rw [if_pos c39, T1, T2, T3]
      refine law_case (K2 := fun v v2 h => if v = v2 then J h else rz 0 h) l (b_judge I _ _ _) (fun v h1 => ?_) (fun v h2 I2 => ?_)
      · simp only [T1, T2, T3]
      · rw [if_pos rfl]; exact hJ h2 I2
    rw [if_neg c39]
    by_cases c40 : op = 40
    · rw [if_pos c40, T1, T2]
      refine law_case (K2 := fun v v2 h => if v = v2 then J h else rz 0 h) l (b_lookAt I _ _) (fun v h1 => ?_) (fun v h2 I2 => ?_)
      · simp only [T1, T2]
      · rw [if_pos rfl]; exact hJ h2 I2
    rw [if_neg c40]
    by_cases c41 : op = 41
    · rw [if_pos c41, T1]
      refine law_case (K2 := fun v v2 h => if v = v2 then J h else rz 0 h) l (b_nobody I _) (fun v h1 => ?_) (fun v h2 I2 => ?_)
      · simp only [T1]
      · rw [if_pos rfl]; exact hJ h2 I2
    rw [if_neg c41]
    by_cases c42 : op = 42
    · rw [if_pos c42, T1, T2, T3, T4]
      refine law_case (K2 := fun v v2 h => if v = v2 then J h else rz 0 h) l (b_rank I _ _ _ _) (fun v h1 => ?_) (fun v h2 I2 => ?_)
      · simp only [T1, T2, T3, T4]
      · rw [if_pos rfl]; exact hJ h2 I2
    rw [if_neg c42]
    by_cases c43 : op = 43
    · rw [if_pos c43, T1, T2, T3]
      refine law_case (K2 := fun v v2 h => if v = v2 then J h else rz 0 h) l (b_act I _ _ _) (fun v h1 => ?_) (fun v h2 I2 => ?_)
      · simp only [T1, T2, T3]
      · rw [if_pos rfl]; exact hJ h2 I2
    rw [if_neg c43]
    by_cases c44 : op = 44
    · rw [if_pos c44, T1]
      refine law_case (K2 := fun v v2 h => if v = v2 then J h else rz 0 h) l (b_trace I _) (fun v h1 => ?_) (fun v h2 I2 => ?_)
      · simp only [T1]
      · rw [if_pos rfl]; exact hJ h2 I2
    rw [if_neg c44]
    by_cases c45 : op = 45
    · rw [if_pos c45, T1, T2]
      refine law_case (K2 := fun v v2 h => if v = v2 then J h else rz 0 h) l (b_keep I _ _) (fun v h1 => ?_) (fun v h2 I2 => ?_)
      · simp only [T1, T2]
      · rw [if_pos rfl]; exact hJ h2 I2
    rw [if_neg c45]
    by_cases c46 : op = 46
    · rw [if_pos c46, T1, T2, T3]
      refine law_case (K2 := fun v v2 h => if v = v2 then J h else rz 0 h) l (b_row I _ _ _) (fun v h1 => ?_) (fun v h2 I2 => ?_)
      · simp only [T1, T2, T3]
      · rw [if_pos rfl]; exact hJ h2 I2
    rw [if_neg c46]
    by_cases c47 : op = 47
    · rw [if_pos c47, T1, T2, T3, T4]
      refine law_case (K2 := fun v v2 h => if v = v2 then J h else rz 0 h) l (b_put I _ _ _) (fun v h1 => ?_) (fun v h2 I2 => ?_)
      · simp only [T1, T2, T3, T4]
      · rw [if_pos rfl]; exact hJ h2 I2
    rw [if_neg c47]
    by_cases c48 : op = 48
    · rw [if_pos c48, T1, T2]
      refine law_case (K2 := fun v v2 h => if (lg_cmp v v2) = 0 then J h else rz 0 h) l (b_element I _ _) (fun v h1 => ?_) (fun v h2 I2 => ?_)
      · simp only [T1, T2]
      · rw [if_pos ((lg_cmp0 v v).mpr rfl)]; exact hJ h2 I2
    rw [if_neg c48]
    by_cases c49 : op = 49
    · rw [if_pos c49, T1, T2, T3, T4, T5]
      refine law_case (K2 := fun v v2 h => if v = v2 then J h else rz 0 h) l (b_shift I _ _ _ _ _) (fun v h1 => ?_) (fun v h2 I2 => ?_)
      · simp only [T1, T2, T3, T4, T5]
      · rw [if_pos rfl]; exact hJ h2 I2
    rw [if_neg c49]
    by_cases c50 : op = 50
    · rw [if_pos c50, T1, T2]
      refine law_case (K2 := fun v v2 h => if v = v2 then J h else rz 0 h) l (b_taken I _ _) (fun v h1 => ?_) (fun v h2 I2 => ?_)
      · simp only [T1, T2]
      · rw [if_pos rfl]; exact hJ h2 I2
    rw [if_neg c50]
    by_cases c51 : op = 51
    · rw [if_pos c51, T1]
      refine law_case (K2 := fun v v2 h => if v = v2 then J h else rz 0 h) l (b_count I _) (fun v h1 => ?_) (fun v h2 I2 => ?_)
      · simp only [T1]
      · rw [if_pos rfl]; exact hJ h2 I2
    rw [if_neg c51]
    exact hJ h I
