/-! THE LAW'S OWN WALK -/
/-- how the law's walk ends -/
def EL (X : XT) (b : Nat) : Prop := (xM X).sig.returnType = ret ∧ X.1.2.2.2.1 = room_1 ∧ xa X = #[.ref b] ∧ X.2.2.2 = lw_Z X.2.1.2.2.1 #[Value.ref b] (xs X) ∧ (xD X).1 = (xs X).heap.size
theorem s_lawret {X : XT} {b nL pc cells slots : Nat} {h : AH} {lv : List (Option Value)} (C : CX X RL cL_law nL) (E : EL X b) {r : Int32 × AH} (h1 : r.1 = 1) {v : Int32} (d : decode cL_law pc = .ok (.ireturn, 1)) (hf : rz v h = some r) (hc : cells ≤ 600000) (hs : slots ≤ 7302250) : WW X h cells slots pc lv [.int v] := by
  have hv : v = 1 := by
    unfold rz at hf
    split at hf
    · cases hf; exact h1
    · cases hf
  subst hv
  intro H locs ls hR hS hl
  obtain ⟨⟨p, l, e, R, s⟩, ⟨m, a, below, meth, c⟩, D, Q⟩ := X
  obtain ⟨E1, E2, E3, E4, E5⟩ := E
  dsimp only at E1 E2 E3 E4 E5
  subst E2
  obtain rfl : a = #[.ref b] := E3
  have E4 : Q = lw_Z below #[Value.ref b] s := E4
  have E5 : D.1 = s.heap.size := E5
  show W p l e room_1 s m #[Value.ref b] below meth c H locs cells slots Q _
  rw [E4]
  refine va_forget (fun q hq => Nat.le_trans (Nat.le_of_eq E5.symm) (hS.2.2 q hq)) ?_
  refine W.widen hc hs ?_
  exact lw_ret C.1 C.2.1 E1 C.2.2.2.2.2.2.2.2.1 d
theorem s_icmp_gtC {X : XT} {own : String} {cc : ByteArray} {nL pc cells slots : Nat} {h : AH} {lv : List (Option Value)} {st : List Value} {ρ : Type} {r : ρ} (C : CX X own cc nL) {x y : Int32} {off : Int} {tgt : Nat} (d : decode cc pc = .ok (.if_icmp .gt off, 3)) (ht : (pc : Int) + off = (tgt : Int)) {A B : Option ρ} (hf : (if y < x then A else B) = some r) (kt : A = some r → WW X h cells slots tgt lv st) (kf : ¬ y < x → B = some r → WW X h cells slots (pc + 3) lv st) : WW X h cells slots pc lv (.int y :: .int x :: st) := by
  by_cases e : y < x
  · rw [if_pos e] at hf
    exact s_icmp_gt (r := ()) (A := some ()) (B := none) C d ht (if_pos e) (fun _ => kt hf) (fun h => by cases h)
  · rw [if_neg e] at hf
    exact s_icmp_gt (r := ()) (A := none) (B := some ()) C d ht (if_neg e) (fun h => by cases h) (fun _ => kf e hf)
theorem nI_6 (k : Nat) : nI (6 * k) + 6 = nI (6 * (k + 1)) := by
  show Int32.ofNat (6 * k) + Int32.ofNat 6 = Int32.ofNat (6 * (k + 1))
  rw [← Int32.ofNat_add]
  rfl
theorem lawk {L k : Nat} (hL : L ≤ 3072) (hk : k ≤ 512) (h : ¬ (nI L - 6 < nI (6 * k))) : k < 512 := by
  have e1 : (nI L).toInt = (L : Int) := nI_toInt (by omega)
  have e2 : (nI (6 * k)).toInt = ((6 * k : Nat) : Int) := nI_toInt (by omega)
  have e3 : (nI L - 6).toInt = (L : Int) - 6 := by
    rw [Int32.toInt_sub, e1, show (6 : Int32).toInt = 6 by decide]
    exact Int.bmod_eq_of_le (by omega) (by omega)
  rw [Int32.lt_iff_toInt_lt, e2, e3] at h
  omega
theorem nc_t {lv : List (Option Value)} {n q : Nat} (h : lv[n - 1]? = some (some (.ref q))) : nc lv n := fun w hw => Or.inr (by rw [h] at hw; cases hw; rfl)
/-- the law over the heap of numbers: the script is tb -/
noncomputable def f_law (tb : List Int32) (h : AH) : Option (Int32 × AH) :=
  nO h 11 6 fun v1 h2 =>
  rO h2 [11] v1 <| cl (f_X11_init v1 h2) fun _ h3 =>
  nO h3 12 90 fun v4 h5 =>
  rO h5 [12] v4 <| cl (f_X12_init v4 h5) fun _ h6 =>
  lp (fun _ _ => none) (fun (L18 : Int32 → AH → Option (Int32 × AH)) (x7 : Int32) (h8 : AH) =>
    if ((nI tb.length) - (6 : Int32)) < x7 then
      rz (1 : Int32) h8
    else
      tbI tb x7 fun v9 =>
      jn (fun (h10 : AH) =>
        L18 (x7 + 6) h10) fun j2084 =>
      if (v9 &&& (63 : Int32)) = 0 then
        tbI tb (x7 + (1 : Int32)) fun v11 =>
        rO h8 [11] v1 <| cl (f_X11_days v1 v11 h8) fun v13 h12 =>
        tbI tb (x7 + (1 : Int32)) fun v14 =>
        rO h12 [12] v4 <| cl (f_X12_days v4 v14 h12) fun v16 h15 =>
        if v13 = v16 then
          j2084 h15
        else
          rz (0 : Int32) h15
      else
      if (v9 &&& (63 : Int32)) = 1 then
        tbI tb (x7 + (1 : Int32)) fun v17 =>
        tbI tb (x7 + (2 : Int32)) fun v18 =>
        rO h8 [11] v1 <| cl (f_X11_owner v1 v17 v18 h8) fun v20 h19 =>
        tbI tb (x7 + (1 : Int32)) fun v21 =>
        tbI tb (x7 + (2 : Int32)) fun v22 =>
        rO h19 [12] v4 <| cl (f_X12_owner v4 v21 v22 h19) fun v24 h23 =>
        if v20 = v24 then
          j2084 h23
        else
          rz (0 : Int32) h23
      else
      if (v9 &&& (63 : Int32)) = 2 then
        tbI tb (x7 + (1 : Int32)) fun v25 =>
        rO h8 [11] v1 <| cl (f_X11_body v1 v25 h8) fun v27 h26 =>
        tbI tb (x7 + (1 : Int32)) fun v28 =>
        rO h26 [12] v4 <| cl (f_X12_body v4 v28 h26) fun v30 h29 =>
        if v27 = v30 then
          j2084 h29
        else
          rz (0 : Int32) h29
      else
      if (v9 &&& (63 : Int32)) = 3 then
        tbI tb (x7 + (1 : Int32)) fun v31 =>
        rO h8 [11] v1 <| cl (f_X11_finder v1 v31 h8) fun v33 h32 =>
        tbI tb (x7 + (1 : Int32)) fun v34 =>
        rO h32 [12] v4 <| cl (f_X12_finder v4 v34 h32) fun v36 h35 =>
        if v33 = v36 then
          j2084 h35
        else
          rz (0 : Int32) h35
      else
      if (v9 &&& (63 : Int32)) = 4 then
        tbI tb (x7 + (1 : Int32)) fun v37 =>
        rO h8 [11] v1 <| cl (f_X11_leaves v1 v37 h8) fun v39 h38 =>
        tbI tb (x7 + (1 : Int32)) fun v40 =>
        rO h38 [12] v4 <| cl (f_X12_leaves v4 v40 h38) fun v42 h41 =>
        if v39 = v42 then
          j2084 h41
        else
          rz (0 : Int32) h41
      else
      if (v9 &&& (63 : Int32)) = 5 then
        tbI tb (x7 + (1 : Int32)) fun v43 =>
        rO h8 [11] v1 <| cl (f_X11_step v1 v43 h8) fun v45 h44 =>
        tbI tb (x7 + (1 : Int32)) fun v46 =>
        rO h44 [12] v4 <| cl (f_X12_step v4 v46 h44) fun v48 h47 =>
        if v45 = v48 then
          j2084 h47
        else
          rz (0 : Int32) h47
      else
      if (v9 &&& (63 : Int32)) = 6 then
        tbI tb (x7 + (1 : Int32)) fun v49 =>
        tbI tb (x7 + (2 : Int32)) fun v50 =>
        tbI tb (x7 + (3 : Int32)) fun v51 =>
        tbI tb (x7 + (4 : Int32)) fun v52 =>
        rO h8 [11] v1 <| cl (f_X11_why v1 v49 v50 v51 v52 h8) fun v54 h53 =>
        tbI tb (x7 + (1 : Int32)) fun v55 =>
        tbI tb (x7 + (2 : Int32)) fun v56 =>
        tbI tb (x7 + (3 : Int32)) fun v57 =>
        tbI tb (x7 + (4 : Int32)) fun v58 =>
        rO h53 [12] v4 <| cl (f_X12_why v4 v55 v56 v57 v58 h53) fun v60 h59 =>
        if v54 = v60 then
          j2084 h59
        else
          rz (0 : Int32) h59
      else
      if (v9 &&& (63 : Int32)) = 7 then
        tbI tb (x7 + (1 : Int32)) fun v61 =>
        tbI tb (x7 + (2 : Int32)) fun v62 =>
        tbI tb (x7 + (3 : Int32)) fun v63 =>
        rO h8 [11] v1 <| cl (f_X11_hide v1 v61 v62 v63 h8) fun v65 h64 =>
        tbI tb (x7 + (1 : Int32)) fun v66 =>
        tbI tb (x7 + (2 : Int32)) fun v67 =>
        tbI tb (x7 + (3 : Int32)) fun v68 =>
        rO h64 [12] v4 <| cl (f_X12_hide v4 v66 v67 v68 h64) fun v70 h69 =>
        if v65 = v70 then
          j2084 h69
        else
          rz (0 : Int32) h69
      else
      if (v9 &&& (63 : Int32)) = 8 then
        tbI tb (x7 + (1 : Int32)) fun v71 =>
        tbI tb (x7 + (2 : Int32)) fun v72 =>
        tbI tb (x7 + (3 : Int32)) fun v73 =>
        rO h8 [11] v1 <| cl (f_X11_move v1 v71 v72 v73 h8) fun v75 h74 =>
        tbI tb (x7 + (1 : Int32)) fun v76 =>
        tbI tb (x7 + (2 : Int32)) fun v77 =>
        tbI tb (x7 + (3 : Int32)) fun v78 =>
        rO h74 [12] v4 <| cl (f_X12_move v4 v76 v77 v78 h74) fun v80 h79 =>
        if v75 = v80 then
          j2084 h79
        else
          rz (0 : Int32) h79
      else
      if (v9 &&& (63 : Int32)) = 9 then
        tbI tb (x7 + (1 : Int32)) fun v81 =>
        rO h8 [11] v1 <| cl (f_X11_down v1 v81 h8) fun v83 h82 =>
        tbI tb (x7 + (1 : Int32)) fun v84 =>
        rO h82 [12] v4 <| cl (f_X12_down v4 v84 h82) fun v86 h85 =>
        if v83 = v86 then
          j2084 h85
        else
          rz (0 : Int32) h85
      else
      if (v9 &&& (63 : Int32)) = 10 then
        tbI tb (x7 + (1 : Int32)) fun v87 =>
        tbI tb (x7 + (2 : Int32)) fun v88 =>
        rO h8 [11] v1 <| cl (f_X11_ofBody v1 v87 v88 h8) fun v90 h89 =>
        tbI tb (x7 + (1 : Int32)) fun v91 =>
        tbI tb (x7 + (2 : Int32)) fun v92 =>
        rO h89 [12] v4 <| cl (f_X12_ofBody v4 v91 v92 h89) fun v94 h93 =>
        if v90 = v94 then
          j2084 h93
        else
          rz (0 : Int32) h93
      else
      if (v9 &&& (63 : Int32)) = 11 then
        tbI tb (x7 + (1 : Int32)) fun v95 =>
        tbI tb (x7 + (2 : Int32)) fun v96 =>
        tbI tb (x7 + (3 : Int32)) fun v97 =>
        rO h8 [11] v1 <| cl (f_X11_liesAt v1 v95 v96 v97 h8) fun v99 h98 =>
        tbI tb (x7 + (1 : Int32)) fun v100 =>
        tbI tb (x7 + (2 : Int32)) fun v101 =>
        tbI tb (x7 + (3 : Int32)) fun v102 =>
        rO h98 [12] v4 <| cl (f_X12_liesAt v4 v100 v101 v102 h98) fun v104 h103 =>
        if v99 = v104 then
          j2084 h103
        else
          rz (0 : Int32) h103
      else
      if (v9 &&& (63 : Int32)) = 12 then
        tbI tb (x7 + (1 : Int32)) fun v105 =>
        tbI tb (x7 + (2 : Int32)) fun v106 =>
        rO h8 [11] v1 <| cl (f_X11_feed v1 v105 v106 h8) fun v108 h107 =>
        tbI tb (x7 + (1 : Int32)) fun v109 =>
        tbI tb (x7 + (2 : Int32)) fun v110 =>
        rO h107 [12] v4 <| cl (f_X12_feed v4 v109 v110 h107) fun v112 h111 =>
        if v108 = v112 then
          j2084 h111
        else
          rz (0 : Int32) h111
      else
      if (v9 &&& (63 : Int32)) = 13 then
        tbI tb (x7 + (1 : Int32)) fun v113 =>
        tbI tb (x7 + (2 : Int32)) fun v114 =>
        rO h8 [11] v1 <| cl (f_X11_rule v1 v113 v114 h8) fun v116 h115 =>
        tbI tb (x7 + (1 : Int32)) fun v117 =>
        tbI tb (x7 + (2 : Int32)) fun v118 =>
        rO h115 [12] v4 <| cl (f_X12_rule v4 v117 v118 h115) fun v120 h119 =>
        if v116 = v120 then
          j2084 h119
        else
          rz (0 : Int32) h119
      else
      if (v9 &&& (63 : Int32)) = 14 then
        tbI tb (x7 + (1 : Int32)) fun v121 =>
        tbI tb (x7 + (2 : Int32)) fun v122 =>
        tbI tb (x7 + (3 : Int32)) fun v123 =>
        rO h8 [11] v1 <| cl (f_X11_inForce v1 v121 v122 v123 h8) fun v125 h124 =>
        tbI tb (x7 + (1 : Int32)) fun v126 =>
        tbI tb (x7 + (2 : Int32)) fun v127 =>
        tbI tb (x7 + (3 : Int32)) fun v128 =>
        rO h124 [12] v4 <| cl (f_X12_inForce v4 v126 v127 v128 h124) fun v130 h129 =>
        if v125 = v130 then
          j2084 h129
        else
          rz (0 : Int32) h129
      else
      if (v9 &&& (63 : Int32)) = 15 then
        tbI tb (x7 + (1 : Int32)) fun v131 =>
        tbI tb (x7 + (2 : Int32)) fun v132 =>
        tbI tb (x7 + (3 : Int32)) fun v133 =>
        tbI tb (x7 + (4 : Int32)) fun v134 =>
        rO h8 [11] v1 <| cl (f_X11_says v1 v131 v132 v133 v134 h8) fun v136 h135 =>
        tbI tb (x7 + (1 : Int32)) fun v137 =>
        tbI tb (x7 + (2 : Int32)) fun v138 =>
        tbI tb (x7 + (3 : Int32)) fun v139 =>
        tbI tb (x7 + (4 : Int32)) fun v140 =>
        rO h135 [12] v4 <| cl (f_X12_says v4 v137 v138 v139 v140 h135) fun v142 h141 =>
        if v136 = v142 then
          j2084 h141
        else
          rz (0 : Int32) h141
      else
      if (v9 &&& (63 : Int32)) = 16 then
        tbI tb (x7 + (1 : Int32)) fun v143 =>
        tbI tb (x7 + (2 : Int32)) fun v144 =>
        rO h8 [11] v1 <| cl (f_X11_nearest v1 v143 v144 h8) fun v146 h145 =>
        tbI tb (x7 + (1 : Int32)) fun v147 =>
        tbI tb (x7 + (2 : Int32)) fun v148 =>
        rO h145 [12] v4 <| cl (f_X12_nearest v4 v147 v148 h145) fun v150 h149 =>
        if v146 = v150 then
          j2084 h149
        else
          rz (0 : Int32) h149
      else
      if (v9 &&& (63 : Int32)) = 17 then
        tbI tb (x7 + (1 : Int32)) fun v151 =>
        tbI tb (x7 + (2 : Int32)) fun v152 =>
        tbI tb (x7 + (3 : Int32)) fun v153 =>
        tbI tb (x7 + (4 : Int32)) fun v154 =>
        rO h8 [11] v1 <| cl (f_X11_riddle v1 v151 v152 v153 v154 h8) fun v156 h155 =>
        tbI tb (x7 + (1 : Int32)) fun v157 =>
        tbI tb (x7 + (2 : Int32)) fun v158 =>
        tbI tb (x7 + (3 : Int32)) fun v159 =>
        tbI tb (x7 + (4 : Int32)) fun v160 =>
        rO h155 [12] v4 <| cl (f_X12_riddle v4 v157 v158 v159 v160 h155) fun v162 h161 =>
        if v156 = v162 then
          j2084 h161
        else
          rz (0 : Int32) h161
      else
      if (v9 &&& (63 : Int32)) = 18 then
        tbI tb (x7 + (1 : Int32)) fun v163 =>
        tbI tb (x7 + (2 : Int32)) fun v164 =>
        rO h8 [11] v1 <| cl (f_X11_solve v1 v163 v164 h8) fun v166 h165 =>
        tbI tb (x7 + (1 : Int32)) fun v167 =>
        tbI tb (x7 + (2 : Int32)) fun v168 =>
        rO h165 [12] v4 <| cl (f_X12_solve v4 v167 v168 h165) fun v170 h169 =>
        if v166 = v170 then
          j2084 h169
        else
          rz (0 : Int32) h169
      else
      if (v9 &&& (63 : Int32)) = 19 then
        tbI tb (x7 + (1 : Int32)) fun v171 =>
        tbI tb (x7 + (2 : Int32)) fun v172 =>
        rO h8 [11] v1 <| cl (f_X11_solved v1 v171 v172 h8) fun v174 h173 =>
        tbI tb (x7 + (1 : Int32)) fun v175 =>
        tbI tb (x7 + (2 : Int32)) fun v176 =>
        rO h173 [12] v4 <| cl (f_X12_solved v4 v175 v176 h173) fun v178 h177 =>
        if v174 = v178 then
          j2084 h177
        else
          rz (0 : Int32) h177
      else
      if (v9 &&& (63 : Int32)) = 20 then
        tbI tb (x7 + (1 : Int32)) fun v179 =>
        tbI tb (x7 + (2 : Int32)) fun v180 =>
        rO h8 [11] v1 <| cl (f_X11_others v1 v179 v180 h8) fun v182 h181 =>
        tbI tb (x7 + (1 : Int32)) fun v183 =>
        tbI tb (x7 + (2 : Int32)) fun v184 =>
        rO h181 [12] v4 <| cl (f_X12_others v4 v183 v184 h181) fun v186 h185 =>
        if (lg_cmp v182 v186) = 0 then
          j2084 h185
        else
          rz (0 : Int32) h185
      else
      if (v9 &&& (63 : Int32)) = 21 then
        tbI tb (x7 + (1 : Int32)) fun v187 =>
        tbI tb (x7 + (2 : Int32)) fun v188 =>
        tbI tb (x7 + (3 : Int32)) fun v189 =>
        tbI tb (x7 + (4 : Int32)) fun v190 =>
        rO h8 [11] v1 <| cl (f_X11_log v1 v187 v188 v189 v190 h8) fun v192 h191 =>
        tbI tb (x7 + (1 : Int32)) fun v193 =>
        tbI tb (x7 + (2 : Int32)) fun v194 =>
        tbI tb (x7 + (3 : Int32)) fun v195 =>
        tbI tb (x7 + (4 : Int32)) fun v196 =>
        rO h191 [12] v4 <| cl (f_X12_log v4 v193 v194 v195 v196 h191) fun v198 h197 =>
        if v192 = v198 then
          j2084 h197
        else
          rz (0 : Int32) h197
      else
      if (v9 &&& (63 : Int32)) = 22 then
        tbI tb (x7 + (1 : Int32)) fun v199 =>
        tbI tb (x7 + (2 : Int32)) fun v200 =>
        tbI tb (x7 + (3 : Int32)) fun v201 =>
        tbI tb (x7 + (4 : Int32)) fun v202 =>
        rO h8 [11] v1 <| cl (f_X11_paper v1 v199 v200 v201 v202 h8) fun v204 h203 =>
        tbI tb (x7 + (1 : Int32)) fun v205 =>
        tbI tb (x7 + (2 : Int32)) fun v206 =>
        tbI tb (x7 + (3 : Int32)) fun v207 =>
        tbI tb (x7 + (4 : Int32)) fun v208 =>
        rO h203 [12] v4 <| cl (f_X12_paper v4 v205 v206 v207 v208 h203) fun v210 h209 =>
        if v204 = v210 then
          j2084 h209
        else
          rz (0 : Int32) h209
      else
      if (v9 &&& (63 : Int32)) = 23 then
        tbI tb (x7 + (1 : Int32)) fun v211 =>
        tbI tb (x7 + (2 : Int32)) fun v212 =>
        tbI tb (x7 + (3 : Int32)) fun v213 =>
        rO h8 [11] v1 <| cl (f_X11_join v1 v211 v212 v213 h8) fun v215 h214 =>
        tbI tb (x7 + (1 : Int32)) fun v216 =>
        tbI tb (x7 + (2 : Int32)) fun v217 =>
        tbI tb (x7 + (3 : Int32)) fun v218 =>
        rO h214 [12] v4 <| cl (f_X12_join v4 v216 v217 v218 h214) fun v220 h219 =>
        if v215 = v220 then
          j2084 h219
        else
          rz (0 : Int32) h219
      else
      if (v9 &&& (63 : Int32)) = 24 then
        tbI tb (x7 + (1 : Int32)) fun v221 =>
        rO h8 [11] v1 <| cl (f_X11_first v1 v221 h8) fun v223 h222 =>
        tbI tb (x7 + (1 : Int32)) fun v224 =>
        rO h222 [12] v4 <| cl (f_X12_first v4 v224 h222) fun v226 h225 =>
        if v223 = v226 then
          j2084 h225
        else
          rz (0 : Int32) h225
      else
      if (v9 &&& (63 : Int32)) = 25 then
        tbI tb (x7 + (1 : Int32)) fun v227 =>
        tbI tb (x7 + (2 : Int32)) fun v228 =>
        rO h8 [11] v1 <| cl (f_X11_isFalse v1 v227 v228 h8) fun v230 h229 =>
        tbI tb (x7 + (1 : Int32)) fun v231 =>
        tbI tb (x7 + (2 : Int32)) fun v232 =>
        rO h229 [12] v4 <| cl (f_X12_isFalse v4 v231 v232 h229) fun v234 h233 =>
        if v230 = v234 then
          j2084 h233
        else
          rz (0 : Int32) h233
      else
      if (v9 &&& (63 : Int32)) = 26 then
        tbI tb (x7 + (1 : Int32)) fun v235 =>
        tbI tb (x7 + (2 : Int32)) fun v236 =>
        rO h8 [11] v1 <| cl (f_X11_gone v1 v235 v236 h8) fun v238 h237 =>
        tbI tb (x7 + (1 : Int32)) fun v239 =>
        tbI tb (x7 + (2 : Int32)) fun v240 =>
        rO h237 [12] v4 <| cl (f_X12_gone v4 v239 v240 h237) fun v242 h241 =>
        if v238 = v242 then
          j2084 h241
        else
          rz (0 : Int32) h241
      else
      if (v9 &&& (63 : Int32)) = 27 then
        tbI tb (x7 + (1 : Int32)) fun v243 =>
        rO h8 [11] v1 <| cl (f_X11_chance v1 v243 h8) fun v245 h244 =>
        tbI tb (x7 + (1 : Int32)) fun v246 =>
        rO h244 [12] v4 <| cl (f_X12_chance v4 v246 h244) fun v248 h247 =>
        if v245 = v248 then
          j2084 h247
        else
          rz (0 : Int32) h247
      else
      if (v9 &&& (63 : Int32)) = 28 then
        tbI tb (x7 + (1 : Int32)) fun v249 =>
        tbI tb (x7 + (2 : Int32)) fun v250 =>
        tbI tb (x7 + (3 : Int32)) fun v251 =>
        rO h8 [11] v1 <| cl (f_X11_tell v1 v249 v250 v251 h8) fun v253 h252 =>
        tbI tb (x7 + (1 : Int32)) fun v254 =>
        tbI tb (x7 + (2 : Int32)) fun v255 =>
        tbI tb (x7 + (3 : Int32)) fun v256 =>
        rO h252 [12] v4 <| cl (f_X12_tell v4 v254 v255 v256 h252) fun v258 h257 =>
        if v253 = v258 then
          j2084 h257
        else
          rz (0 : Int32) h257
      else
      if (v9 &&& (63 : Int32)) = 29 then
        tbI tb (x7 + (1 : Int32)) fun v259 =>
        tbI tb (x7 + (2 : Int32)) fun v260 =>
        rO h8 [11] v1 <| cl (f_X11_jump v1 v259 v260 h8) fun v262 h261 =>
        tbI tb (x7 + (1 : Int32)) fun v263 =>
        tbI tb (x7 + (2 : Int32)) fun v264 =>
        rO h261 [12] v4 <| cl (f_X12_jump v4 v263 v264 h261) fun v266 h265 =>
        if v262 = v266 then
          j2084 h265
        else
          rz (0 : Int32) h265
      else
      if (v9 &&& (63 : Int32)) = 30 then
        tbI tb (x7 + (1 : Int32)) fun v267 =>
        rO h8 [11] v1 <| cl (f_X11_chain v1 v267 h8) fun v269 h268 =>
        tbI tb (x7 + (1 : Int32)) fun v270 =>
        rO h268 [12] v4 <| cl (f_X12_chain v4 v270 h268) fun v272 h271 =>
        if v269 = v272 then
          j2084 h271
        else
          rz (0 : Int32) h271
      else
      if (v9 &&& (63 : Int32)) = 31 then
        tbI tb (x7 + (1 : Int32)) fun v273 =>
        tbI tb (x7 + (2 : Int32)) fun v274 =>
        rO h8 [11] v1 <| cl (f_X11_asks v1 v273 v274 h8) fun v276 h275 =>
        tbI tb (x7 + (1 : Int32)) fun v277 =>
        tbI tb (x7 + (2 : Int32)) fun v278 =>
        rO h275 [12] v4 <| cl (f_X12_asks v4 v277 v278 h275) fun v280 h279 =>
        if v276 = v280 then
          j2084 h279
        else
          rz (0 : Int32) h279
      else
      if (v9 &&& (63 : Int32)) = 32 then
        tbI tb (x7 + (1 : Int32)) fun v281 =>
        rO h8 [11] v1 <| cl (f_X11_taker v1 v281 h8) fun v283 h282 =>
        tbI tb (x7 + (1 : Int32)) fun v284 =>
        rO h282 [12] v4 <| cl (f_X12_taker v4 v284 h282) fun v286 h285 =>
        if v283 = v286 then
          j2084 h285
        else
          rz (0 : Int32) h285
      else
      if (v9 &&& (63 : Int32)) = 33 then
        tbI tb (x7 + (1 : Int32)) fun v287 =>
        rO h8 [11] v1 <| cl (f_X11_take v1 v287 h8) fun v289 h288 =>
        tbI tb (x7 + (1 : Int32)) fun v290 =>
        rO h288 [12] v4 <| cl (f_X12_take v4 v290 h288) fun v292 h291 =>
        if v289 = v292 then
          j2084 h291
        else
          rz (0 : Int32) h291
      else
      if (v9 &&& (63 : Int32)) = 34 then
        tbI tb (x7 + (1 : Int32)) fun v293 =>
        rO h8 [11] v1 <| cl (f_X11_toPut v1 v293 h8) fun v295 h294 =>
        tbI tb (x7 + (1 : Int32)) fun v296 =>
        rO h294 [12] v4 <| cl (f_X12_toPut v4 v296 h294) fun v298 h297 =>
        if v295 = v298 then
          j2084 h297
        else
          rz (0 : Int32) h297
      else
      if (v9 &&& (63 : Int32)) = 35 then
        rO h8 [11] v1 <| cl (f_X11_putAll v1 h8) fun v300 h299 =>
        rO h299 [12] v4 <| cl (f_X12_putAll v4 h299) fun v302 h301 =>
        if v300 = v302 then
          j2084 h301
        else
          rz (0 : Int32) h301
      else
      if (v9 &&& (63 : Int32)) = 36 then
        tbI tb (x7 + (1 : Int32)) fun v303 =>
        tbI tb (x7 + (2 : Int32)) fun v304 =>
        tbI tb (x7 + (3 : Int32)) fun v305 =>
        rO h8 [11] v1 <| cl (f_X11_wish v1 v303 v304 v305 h8) fun v307 h306 =>
        tbI tb (x7 + (1 : Int32)) fun v308 =>
        tbI tb (x7 + (2 : Int32)) fun v309 =>
        tbI tb (x7 + (3 : Int32)) fun v310 =>
        rO h306 [12] v4 <| cl (f_X12_wish v4 v308 v309 v310 h306) fun v312 h311 =>
        if v307 = v312 then
          j2084 h311
        else
          rz (0 : Int32) h311
      else
      if (v9 &&& (63 : Int32)) = 37 then
        tbI tb (x7 + (1 : Int32)) fun v313 =>
        tbI tb (x7 + (2 : Int32)) fun v314 =>
        rO h8 [11] v1 <| cl (f_X11_walk v1 v313 v314 h8) fun v316 h315 =>
        tbI tb (x7 + (1 : Int32)) fun v317 =>
        tbI tb (x7 + (2 : Int32)) fun v318 =>
        rO h315 [12] v4 <| cl (f_X12_walk v4 v317 v318 h315) fun v320 h319 =>
        if v316 = v320 then
          j2084 h319
        else
          rz (0 : Int32) h319
      else
      if (v9 &&& (63 : Int32)) = 38 then
        tbI tb (x7 + (1 : Int32)) fun v321 =>
        rO h8 [11] v1 <| cl (f_X11_walked v1 v321 h8) fun v323 h322 =>
        tbI tb (x7 + (1 : Int32)) fun v324 =>
        rO h322 [12] v4 <| cl (f_X12_walked v4 v324 h322) fun v326 h325 =>
        if v323 = v326 then
          j2084 h325
        else
          rz (0 : Int32) h325
      else
      if (v9 &&& (63 : Int32)) = 39 then
        tbI tb (x7 + (1 : Int32)) fun v327 =>
        tbI tb (x7 + (2 : Int32)) fun v328 =>
        tbI tb (x7 + (3 : Int32)) fun v329 =>
        rO h8 [11] v1 <| cl (f_X11_judge v1 v327 v328 v329 h8) fun v331 h330 =>
        tbI tb (x7 + (1 : Int32)) fun v332 =>
        tbI tb (x7 + (2 : Int32)) fun v333 =>
        tbI tb (x7 + (3 : Int32)) fun v334 =>
        rO h330 [12] v4 <| cl (f_X12_judge v4 v332 v333 v334 h330) fun v336 h335 =>
        if v331 = v336 then
          j2084 h335
        else
          rz (0 : Int32) h335
      else
      if (v9 &&& (63 : Int32)) = 40 then
        tbI tb (x7 + (1 : Int32)) fun v337 =>
        tbI tb (x7 + (2 : Int32)) fun v338 =>
        rO h8 [11] v1 <| cl (f_X11_lookAt v1 v337 v338 h8) fun v340 h339 =>
        tbI tb (x7 + (1 : Int32)) fun v341 =>
        tbI tb (x7 + (2 : Int32)) fun v342 =>
        rO h339 [12] v4 <| cl (f_X12_lookAt v4 v341 v342 h339) fun v344 h343 =>
        if v340 = v344 then
          j2084 h343
        else
          rz (0 : Int32) h343
      else
      if (v9 &&& (63 : Int32)) = 41 then
        tbI tb (x7 + (1 : Int32)) fun v345 =>
        rO h8 [11] v1 <| cl (f_X11_nobody v1 v345 h8) fun v347 h346 =>
        tbI tb (x7 + (1 : Int32)) fun v348 =>
        rO h346 [12] v4 <| cl (f_X12_nobody v4 v348 h346) fun v350 h349 =>
        if v347 = v350 then
          j2084 h349
        else
          rz (0 : Int32) h349
      else
      if (v9 &&& (63 : Int32)) = 42 then
        tbI tb (x7 + (1 : Int32)) fun v351 =>
        tbI tb (x7 + (2 : Int32)) fun v352 =>
        tbI tb (x7 + (3 : Int32)) fun v353 =>
        tbI tb (x7 + (4 : Int32)) fun v354 =>
        rO h8 [11] v1 <| cl (f_X11_rank v1 v351 v352 v353 v354 h8) fun v356 h355 =>
        tbI tb (x7 + (1 : Int32)) fun v357 =>
        tbI tb (x7 + (2 : Int32)) fun v358 =>
        tbI tb (x7 + (3 : Int32)) fun v359 =>
        tbI tb (x7 + (4 : Int32)) fun v360 =>
        rO h355 [12] v4 <| cl (f_X12_rank v4 v357 v358 v359 v360 h355) fun v362 h361 =>
        if v356 = v362 then
          j2084 h361
        else
          rz (0 : Int32) h361
      else
      if (v9 &&& (63 : Int32)) = 43 then
        tbI tb (x7 + (1 : Int32)) fun v363 =>
        tbI tb (x7 + (2 : Int32)) fun v364 =>
        tbI tb (x7 + (3 : Int32)) fun v365 =>
        rO h8 [11] v1 <| cl (f_X11_act v1 v363 v364 v365 h8) fun v367 h366 =>
        tbI tb (x7 + (1 : Int32)) fun v368 =>
        tbI tb (x7 + (2 : Int32)) fun v369 =>
        tbI tb (x7 + (3 : Int32)) fun v370 =>
        rO h366 [12] v4 <| cl (f_X12_act v4 v368 v369 v370 h366) fun v372 h371 =>
        if v367 = v372 then
          j2084 h371
        else
          rz (0 : Int32) h371
      else
      if (v9 &&& (63 : Int32)) = 44 then
        tbI tb (x7 + (1 : Int32)) fun v373 =>
        rO h8 [11] v1 <| cl (f_X11_trace v1 v373 h8) fun v375 h374 =>
        tbI tb (x7 + (1 : Int32)) fun v376 =>
        rO h374 [12] v4 <| cl (f_X12_trace v4 v376 h374) fun v378 h377 =>
        if v375 = v378 then
          j2084 h377
        else
          rz (0 : Int32) h377
      else
      if (v9 &&& (63 : Int32)) = 45 then
        tbI tb (x7 + (1 : Int32)) fun v379 =>
        tbI tb (x7 + (2 : Int32)) fun v380 =>
        rO h8 [11] v1 <| cl (f_X11_keep v1 v379 v380 h8) fun v382 h381 =>
        tbI tb (x7 + (1 : Int32)) fun v383 =>
        tbI tb (x7 + (2 : Int32)) fun v384 =>
        rO h381 [12] v4 <| cl (f_X12_keep v4 v383 v384 h381) fun v386 h385 =>
        if v382 = v386 then
          j2084 h385
        else
          rz (0 : Int32) h385
      else
      if (v9 &&& (63 : Int32)) = 46 then
        tbI tb (x7 + (1 : Int32)) fun v387 =>
        tbI tb (x7 + (2 : Int32)) fun v388 =>
        tbI tb (x7 + (3 : Int32)) fun v389 =>
        rO h8 [11] v1 <| cl (f_X11_row v1 v387 v388 v389 h8) fun v391 h390 =>
        tbI tb (x7 + (1 : Int32)) fun v392 =>
        tbI tb (x7 + (2 : Int32)) fun v393 =>
        tbI tb (x7 + (3 : Int32)) fun v394 =>
        rO h390 [12] v4 <| cl (f_X12_row v4 v392 v393 v394 h390) fun v396 h395 =>
        if v391 = v396 then
          j2084 h395
        else
          rz (0 : Int32) h395
      else
      if (v9 &&& (63 : Int32)) = 47 then
        tbI tb (x7 + (1 : Int32)) fun v397 =>
        tbI tb (x7 + (2 : Int32)) fun v398 =>
        tbI tb (x7 + (3 : Int32)) fun v399 =>
        tbI tb (x7 + (4 : Int32)) fun v400 =>
        rO h8 [11] v1 <| cl (f_X11_put v1 v397 v398 ((v399.toInt64 <<< ((32 : Int32).toInt64 &&& 63)) ||| (v400.toInt64 &&& (4294967295 : Int64))) h8) fun v402 h401 =>
        tbI tb (x7 + (1 : Int32)) fun v403 =>
        tbI tb (x7 + (2 : Int32)) fun v404 =>
        tbI tb (x7 + (3 : Int32)) fun v405 =>
        tbI tb (x7 + (4 : Int32)) fun v406 =>
        rO h401 [12] v4 <| cl (f_X12_put v4 v403 v404 ((v405.toInt64 <<< ((32 : Int32).toInt64 &&& 63)) ||| (v406.toInt64 &&& (4294967295 : Int64))) h401) fun v408 h407 =>
        if v402 = v408 then
          j2084 h407
        else
          rz (0 : Int32) h407
      else
      if (v9 &&& (63 : Int32)) = 48 then
        tbI tb (x7 + (1 : Int32)) fun v409 =>
        tbI tb (x7 + (2 : Int32)) fun v410 =>
        rO h8 [11] v1 <| cl (f_X11_element v1 v409 v410 h8) fun v412 h411 =>
        tbI tb (x7 + (1 : Int32)) fun v413 =>
        tbI tb (x7 + (2 : Int32)) fun v414 =>
        rO h411 [12] v4 <| cl (f_X12_element v4 v413 v414 h411) fun v416 h415 =>
        if (lg_cmp v412 v416) = 0 then
          j2084 h415
        else
          rz (0 : Int32) h415
      else
      if (v9 &&& (63 : Int32)) = 49 then
        tbI tb (x7 + (1 : Int32)) fun v417 =>
        tbI tb (x7 + (2 : Int32)) fun v418 =>
        tbI tb (x7 + (3 : Int32)) fun v419 =>
        tbI tb (x7 + (4 : Int32)) fun v420 =>
        tbI tb (x7 + (5 : Int32)) fun v421 =>
        rO h8 [11] v1 <| cl (f_X11_shift v1 v417 v418 v419 v420 v421 h8) fun v423 h422 =>
        tbI tb (x7 + (1 : Int32)) fun v424 =>
        tbI tb (x7 + (2 : Int32)) fun v425 =>
        tbI tb (x7 + (3 : Int32)) fun v426 =>
        tbI tb (x7 + (4 : Int32)) fun v427 =>
        tbI tb (x7 + (5 : Int32)) fun v428 =>
        rO h422 [12] v4 <| cl (f_X12_shift v4 v424 v425 v426 v427 v428 h422) fun v430 h429 =>
        if v423 = v430 then
          j2084 h429
        else
          rz (0 : Int32) h429
      else
      if (v9 &&& (63 : Int32)) = 50 then
        tbI tb (x7 + (1 : Int32)) fun v431 =>
        tbI tb (x7 + (2 : Int32)) fun v432 =>
        rO h8 [11] v1 <| cl (f_X11_taken v1 v431 v432 h8) fun v434 h433 =>
        tbI tb (x7 + (1 : Int32)) fun v435 =>
        tbI tb (x7 + (2 : Int32)) fun v436 =>
        rO h433 [12] v4 <| cl (f_X12_taken v4 v435 v436 h433) fun v438 h437 =>
        if v434 = v438 then
          j2084 h437
        else
          rz (0 : Int32) h437
      else
      if (v9 &&& (63 : Int32)) = 51 then
        tbI tb (x7 + (1 : Int32)) fun v439 =>
        rO h8 [11] v1 <| cl (f_X11_count v1 v439 h8) fun v441 h440 =>
        tbI tb (x7 + (1 : Int32)) fun v442 =>
        rO h440 [12] v4 <| cl (f_X12_count v4 v442 h440) fun v444 h443 =>
        if v441 = v444 then
          j2084 h443
        else
          rz (0 : Int32) h443
      else
        j2084 h8) lpN (0 : Int32) h6
set_option maxRecDepth 100000 in
set_option maxHeartbeats 4000000 in
theorem w_law {X : XT} {b : Nat} {tb : List Int32} (hL : tb.length ≤ 3072) (C : CX X RL cL_law 4) (hX : xR X = { frames := 2048, cells := 600000, slots := 7302250, locals := 84000 }) (E : EL X b) (bh : va_T .int b tb.length (fun j => .int (tb.getD j 0)) (fun q => (xD X).1 ≤ q) (xs X) (xs X).heap) (h : AH) (r : Int32 × AH) (h1 : r.1 = 1) (hf : f_law tb h = some r) : WW X h 0 0 0 [some (.ref b), none, none, none] [] := by
  unfold f_law at hf
  refine s_new C (t := 11) (n := 6) (by decide) rfl wcl_L_7 wins_X11 wini_X11 dL_law_0 hf (cell1 hX (Nat.le_of_ble_eq_true rfl)) (cell2 hX (Nat.le_of_ble_eq_true rfl)) (fun v1 h2 hf => ?_)
  refine s_dup C dL_law_3 c1_r ?_
  refine s_callI (st := [rB (xD X).1 v1]) (fr := 3) (lo := 61) (mc := 48) (ms := 7157) C wc_X11_init wml_L_9 wim_X11_init rfl dL_law_4 (As := []) rfl (a0 := 11) hf (fun h' hF => c_X11_init _ _ _ _ ((), h') hF) rfl (Nat.le_of_ble_eq_true rfl) (room_ok hX (Nat.le_of_ble_eq_true rfl) (Nat.le_of_ble_eq_true rfl)) (cell_ok hX (Nat.le_of_ble_eq_true rfl) (Nat.le_of_ble_eq_true rfl)) (fun h3 hf => ?_)
  refine s_astore_n C dL_law_7 (by decide) (nc_t rfl) (lv' := [some (.ref b), some (rB (xD X).1 v1), none, none]) rfl ?_
  refine s_new C (t := 12) (n := 90) (by decide) rfl wcl_L_10 wins_X12 wini_X12 dL_law_8 hf (cell1 hX (Nat.le_of_ble_eq_true rfl)) (cell2 hX (Nat.le_of_ble_eq_true rfl)) (fun v4 h5 hf => ?_)
  refine s_dup C dL_law_11 c1_r ?_
  refine s_callI (st := [rB (xD X).1 v4]) (fr := 1) (lo := 20) (mc := 57) (ms := 34447) C wc_X12_init wml_L_12 wim_X12_init rfl dL_law_12 (As := []) rfl (a0 := 12) hf (fun h' hF => c_X12_init _ _ _ _ ((), h') hF) rfl (Nat.le_of_ble_eq_true rfl) (room_ok hX (Nat.le_of_ble_eq_true rfl) (Nat.le_of_ble_eq_true rfl)) (cell_ok hX (Nat.le_of_ble_eq_true rfl) (Nat.le_of_ble_eq_true rfl)) (fun h6 hf => ?_)
  refine s_astore_n C dL_law_15 (by decide) (nc_r rfl) (lv' := [some (.ref b), some (rB (xD X).1 v1), some (rB (xD X).1 v4), none]) rfl ?_
  refine s_iconst C dL_law_16 (v := (0 : Int32)) (by decide) ?_
  refine s_istore_n C dL_law_17 (by decide) (nc_r rfl) (lv' := [some (.ref b), some (rB (xD X).1 v1), some (rB (xD X).1 v4), some (.int (0 : Int32))]) rfl ?_
  refine s_lp2 hf (fun G18 z18 q18 hf => ?_)
  have k18 : ∀ (n k : Nat) (x7 : Int32) (h8 : AH), k ≤ 512 → x7 = nI (6 * k) → G18 n x7 h8 = some r → WW X h8 (107 + 11 * k) (41700 + 132 * k) 18 [some (.ref b), some (rB (xD X).1 v1), some (rB (xD X).1 v4), some (.int x7)] [] := by
    intro n
    induction n with
    | zero =>
      intro k x7 h8 _ _ hf
      rw [z18] at hf
      cases hf
    | succ n ih18 =>
      intro k x7 h8 hk ex hf
      have hf := (q18 n x7 h8).symm.trans hf
      refine s_iload_n C dL_law_18 rfl ?_
      refine r_aload C dL_law_19 rfl ?_
      refine s_tblen C (v := nI tb.length) bh rfl dL_law_20 ?_
      refine s_bipush C dL_law_21 (v := (6 : Int32)) (by decide) ?_
      refine s_isub C dL_law_23 ?_
      refine s_icmp_gtC (tgt := 2090) C dL_law_24 (by decide) hf (fun hf => ?_) (fun hc hf => ?_)
      · refine s_iconst C dL_law_2090 (v := (1 : Int32)) (by decide) ?_
        exact s_lawret C E h1 dL_law_2091 hf (by omega) (by omega)
      · have hk1 : k < 512 := lawk hL hk (by rw [← ex]; exact hc)
        refine r_aload C dL_law_27 rfl ?_
        refine s_iload_n C dL_law_28 rfl ?_
        refine s_tbI C bh dL_law_29 hf (fun v9 hf => ?_)
        refine s_bipush C dL_law_30 (v := (63 : Int32)) (by decide) ?_
        refine s_iand C dL_law_32 ?_
        refine s_jn hf (fun j2084 e2084 hf => ?_)
        have k2084 : ∀ (h10 : AH), j2084 h10 = some r → WW X h10 (118 + 11 * k) (41832 + 132 * k) 2084 [some (.ref b), some (rB (xD X).1 v1), some (rB (xD X).1 v4), some (.int x7)] [] := by
          intro h10 hf
          rw [e2084] at hf
          refine s_iinc C dL_law_2084 (v := (x7 + 6)) rfl rfl (by decide) (nc_r rfl) (lv' := [some (.ref b), some (rB (xD X).1 v1), some (rB (xD X).1 v4), some (.int (x7 + 6))]) rfl ?_
          refine s_goto (tgt := 18) C dL_law_2087 (by decide) ?_
          refine s_widen (c := 107 + 11 * (k + 1)) (s := 41700 + 132 * (k + 1)) (by omega) (by omega) ?_
          exact ih18 (k + 1) _ _ (by omega) (by rw [ex]; exact nI_6 k) hf
        refine s_ite hf (fun e hf => ?_) (fun nq0 hf => ?_)
        · refine s_tsw1 (tgt := 256) C dL_law_33 e (by decide) (by decide) rfl (by decide) ?_
          refine s_aload_n C dL_law_256 rfl ?_
          refine r_aload C dL_law_257 rfl ?_
          refine s_iload_n C dL_law_258 rfl ?_
          refine s_iconst C dL_law_259 (v := (1 : Int32)) (by decide) ?_
          refine s_iadd C dL_law_260 ?_
          refine s_tbI C bh dL_law_261 hf (fun v11 hf => ?_)
          refine s_callV (rvf := fun x => some (.int x)) (st := []) (fr := 0) (lo := 0) (mc := 0) (ms := 0) C [11] wc_X11_days wml_L_13 wim_X11_days wsl_11_X11_days dL_law_262 (As := [.inl v11]) rfl hf (fun x h' hF => c_X11_days _ _ _ _ _ (x, h') hF) rfl (Nat.le_of_ble_eq_true rfl) (room_ok hX (Nat.le_of_ble_eq_true rfl) (Nat.le_of_ble_eq_true rfl)) (cell_ok hX (by omega) (by omega)) (fun v13 h12 hf => ?_)
          refine s_aload_n C dL_law_265 rfl ?_
          refine r_aload C dL_law_266 rfl ?_
          refine s_iload_n C dL_law_267 rfl ?_
          refine s_iconst C dL_law_268 (v := (1 : Int32)) (by decide) ?_
          refine s_iadd C dL_law_269 ?_
          refine s_tbI C bh dL_law_270 hf (fun v14 hf => ?_)
          refine s_callV (rvf := fun x => some (.int x)) (st := [.int v13]) (fr := 1) (lo := 22) (mc := 0) (ms := 0) C [12] wc_X12_days wml_L_17 wim_X12_days wsl_12_X12_days dL_law_271 (As := [.inl v14]) rfl hf (fun x h' hF => c_X12_days _ _ _ _ _ (x, h') hF) rfl (Nat.le_of_ble_eq_true rfl) (room_ok hX (Nat.le_of_ble_eq_true rfl) (Nat.le_of_ble_eq_true rfl)) (cell_ok hX (by omega) (by omega)) (fun v16 h15 hf => ?_)
          refine s_icmp_eq (tgt := 2084) C dL_law_274 (by decide) hf (fun hf => ?_) (fun hf => ?_)
          · refine s_widen (c := 118 + 11 * k) (s := 41832 + 132 * k) (by omega) (by omega) ?_
            exact k2084 _ hf
          · refine s_iconst C dL_law_277 (v := (0 : Int32)) (by decide) ?_
            exact s_lawret C E h1 dL_law_278 hf (by omega) (by omega)
        refine s_ite hf (fun e hf => ?_) (fun nq1 hf => ?_)
        · refine s_tsw1 (tgt := 279) C dL_law_33 e (by decide) (by decide) rfl (by decide) ?_
          refine s_aload_n C dL_law_279 rfl ?_
          refine r_aload C dL_law_280 rfl ?_
          refine s_iload_n C dL_law_281 rfl ?_
          refine s_iconst C dL_law_282 (v := (1 : Int32)) (by decide) ?_
          refine s_iadd C dL_law_283 ?_
          refine s_tbI C bh dL_law_284 hf (fun v17 hf => ?_)
          refine r_aload C dL_law_285 rfl ?_
          refine s_iload_n C dL_law_286 rfl ?_
          refine s_iconst C dL_law_287 (v := (2 : Int32)) (by decide) ?_
          refine s_iadd C dL_law_288 ?_
          refine s_tbI C bh dL_law_289 hf (fun v18 hf => ?_)
          refine s_callV (rvf := fun x => some (.int x)) (st := []) (fr := 1) (lo := 20) (mc := 0) (ms := 0) C [11] wc_X11_owner wml_L_18 wim_X11_owner wsl_11_X11_owner dL_law_290 (As := [.inl v17, .inl v18]) rfl hf (fun x h' hF => c_X11_owner _ _ _ _ _ _ (x, h') hF) rfl (Nat.le_of_ble_eq_true rfl) (room_ok hX (Nat.le_of_ble_eq_true rfl) (Nat.le_of_ble_eq_true rfl)) (cell_ok hX (by omega) (by omega)) (fun v20 h19 hf => ?_)
          refine s_aload_n C dL_law_293 rfl ?_
          refine r_aload C dL_law_294 rfl ?_
          refine s_iload_n C dL_law_295 rfl ?_
          refine s_iconst C dL_law_296 (v := (1 : Int32)) (by decide) ?_
          refine s_iadd C dL_law_297 ?_
          refine s_tbI C bh dL_law_298 hf (fun v21 hf => ?_)
          refine r_aload C dL_law_299 rfl ?_
          refine s_iload_n C dL_law_300 rfl ?_
          refine s_iconst C dL_law_301 (v := (2 : Int32)) (by decide) ?_
          refine s_iadd C dL_law_302 ?_
          refine s_tbI C bh dL_law_303 hf (fun v22 hf => ?_)
          refine s_callV (rvf := fun x => some (.int x)) (st := [.int v20]) (fr := 2) (lo := 42) (mc := 0) (ms := 0) C [12] wc_X12_owner wml_L_22 wim_X12_owner wsl_12_X12_owner dL_law_304 (As := [.inl v21, .inl v22]) rfl hf (fun x h' hF => c_X12_owner _ _ _ _ _ _ (x, h') hF) rfl (Nat.le_of_ble_eq_true rfl) (room_ok hX (Nat.le_of_ble_eq_true rfl) (Nat.le_of_ble_eq_true rfl)) (cell_ok hX (by omega) (by omega)) (fun v24 h23 hf => ?_)
          refine s_icmp_eq (tgt := 2084) C dL_law_307 (by decide) hf (fun hf => ?_) (fun hf => ?_)
          · refine s_widen (c := 118 + 11 * k) (s := 41832 + 132 * k) (by omega) (by omega) ?_
            exact k2084 _ hf
          · refine s_iconst C dL_law_310 (v := (0 : Int32)) (by decide) ?_
            exact s_lawret C E h1 dL_law_311 hf (by omega) (by omega)
        refine s_ite hf (fun e hf => ?_) (fun nq2 hf => ?_)
        · refine s_tsw1 (tgt := 312) C dL_law_33 e (by decide) (by decide) rfl (by decide) ?_
          refine s_aload_n C dL_law_312 rfl ?_
          refine r_aload C dL_law_313 rfl ?_
          refine s_iload_n C dL_law_314 rfl ?_
          refine s_iconst C dL_law_315 (v := (1 : Int32)) (by decide) ?_
          refine s_iadd C dL_law_316 ?_
          refine s_tbI C bh dL_law_317 hf (fun v25 hf => ?_)
          refine s_callV (rvf := fun x => some (.int x)) (st := []) (fr := 3) (lo := 63) (mc := 3) (ms := 29) C [11] wc_X11_body wml_L_23 wim_X11_body wsl_11_X11_body dL_law_318 (As := [.inl v25]) rfl hf (fun x h' hF => c_X11_body _ _ _ _ _ (x, h') hF) rfl (Nat.le_of_ble_eq_true rfl) (room_ok hX (Nat.le_of_ble_eq_true rfl) (Nat.le_of_ble_eq_true rfl)) (cell_ok hX (by omega) (by omega)) (fun v27 h26 hf => ?_)
          refine s_aload_n C dL_law_321 rfl ?_
          refine r_aload C dL_law_322 rfl ?_
          refine s_iload_n C dL_law_323 rfl ?_
          refine s_iconst C dL_law_324 (v := (1 : Int32)) (by decide) ?_
          refine s_iadd C dL_law_325 ?_
          refine s_tbI C bh dL_law_326 hf (fun v28 hf => ?_)
          refine s_callV (rvf := fun x => some (.int x)) (st := [.int v27]) (fr := 1) (lo := 21) (mc := 0) (ms := 0) C [12] wc_X12_body wml_L_26 wim_X12_body wsl_12_X12_body dL_law_327 (As := [.inl v28]) rfl hf (fun x h' hF => c_X12_body _ _ _ _ _ (x, h') hF) rfl (Nat.le_of_ble_eq_true rfl) (room_ok hX (Nat.le_of_ble_eq_true rfl) (Nat.le_of_ble_eq_true rfl)) (cell_ok hX (by omega) (by omega)) (fun v30 h29 hf => ?_)
          refine s_icmp_eq (tgt := 2084) C dL_law_330 (by decide) hf (fun hf => ?_) (fun hf => ?_)
          · refine s_widen (c := 118 + 11 * k) (s := 41832 + 132 * k) (by omega) (by omega) ?_
            exact k2084 _ hf
          · refine s_iconst C dL_law_333 (v := (0 : Int32)) (by decide) ?_
            exact s_lawret C E h1 dL_law_334 hf (by omega) (by omega)
        refine s_ite hf (fun e hf => ?_) (fun nq3 hf => ?_)
        · refine s_tsw1 (tgt := 335) C dL_law_33 e (by decide) (by decide) rfl (by decide) ?_
          refine s_aload_n C dL_law_335 rfl ?_
          refine r_aload C dL_law_336 rfl ?_
          refine s_iload_n C dL_law_337 rfl ?_
          refine s_iconst C dL_law_338 (v := (1 : Int32)) (by decide) ?_
          refine s_iadd C dL_law_339 ?_
          refine s_tbI C bh dL_law_340 hf (fun v31 hf => ?_)
          refine s_callV (rvf := fun x => some (.int x)) (st := []) (fr := 3) (lo := 65) (mc := 1) (ms := 5) C [11] wc_X11_finder wml_L_27 wim_X11_finder wsl_11_X11_finder dL_law_341 (As := [.inl v31]) rfl hf (fun x h' hF => c_X11_finder _ _ _ _ _ (x, h') hF) rfl (Nat.le_of_ble_eq_true rfl) (room_ok hX (Nat.le_of_ble_eq_true rfl) (Nat.le_of_ble_eq_true rfl)) (cell_ok hX (by omega) (by omega)) (fun v33 h32 hf => ?_)
          refine s_aload_n C dL_law_344 rfl ?_
          refine r_aload C dL_law_345 rfl ?_
          refine s_iload_n C dL_law_346 rfl ?_
          refine s_iconst C dL_law_347 (v := (1 : Int32)) (by decide) ?_
          refine s_iadd C dL_law_348 ?_
          refine s_tbI C bh dL_law_349 hf (fun v34 hf => ?_)
          refine s_callV (rvf := fun x => some (.int x)) (st := [.int v33]) (fr := 2) (lo := 42) (mc := 0) (ms := 0) C [12] wc_X12_finder wml_L_30 wim_X12_finder wsl_12_X12_finder dL_law_350 (As := [.inl v34]) rfl hf (fun x h' hF => c_X12_finder _ _ _ _ _ (x, h') hF) rfl (Nat.le_of_ble_eq_true rfl) (room_ok hX (Nat.le_of_ble_eq_true rfl) (Nat.le_of_ble_eq_true rfl)) (cell_ok hX (by omega) (by omega)) (fun v36 h35 hf => ?_)
          refine s_icmp_eq (tgt := 2084) C dL_law_353 (by decide) hf (fun hf => ?_) (fun hf => ?_)
          · refine s_widen (c := 118 + 11 * k) (s := 41832 + 132 * k) (by omega) (by omega) ?_
            exact k2084 _ hf
          · refine s_iconst C dL_law_356 (v := (0 : Int32)) (by decide) ?_
            exact s_lawret C E h1 dL_law_357 hf (by omega) (by omega)
        refine s_ite hf (fun e hf => ?_) (fun nq4 hf => ?_)
        · refine s_tsw1 (tgt := 358) C dL_law_33 e (by decide) (by decide) rfl (by decide) ?_
          refine s_aload_n C dL_law_358 rfl ?_
          refine r_aload C dL_law_359 rfl ?_
          refine s_iload_n C dL_law_360 rfl ?_
          refine s_iconst C dL_law_361 (v := (1 : Int32)) (by decide) ?_
          refine s_iadd C dL_law_362 ?_
          refine s_tbI C bh dL_law_363 hf (fun v37 hf => ?_)
          refine s_callV (rvf := fun x => some (.int x)) (st := []) (fr := 1) (lo := 22) (mc := 0) (ms := 0) C [11] wc_X11_leaves wml_L_31 wim_X11_leaves wsl_11_X11_leaves dL_law_364 (As := [.inl v37]) rfl hf (fun x h' hF => c_X11_leaves _ _ _ _ _ (x, h') hF) rfl (Nat.le_of_ble_eq_true rfl) (room_ok hX (Nat.le_of_ble_eq_true rfl) (Nat.le_of_ble_eq_true rfl)) (cell_ok hX (by omega) (by omega)) (fun v39 h38 hf => ?_)
          refine s_aload_n C dL_law_367 rfl ?_
          refine r_aload C dL_law_368 rfl ?_
          refine s_iload_n C dL_law_369 rfl ?_
          refine s_iconst C dL_law_370 (v := (1 : Int32)) (by decide) ?_
          refine s_iadd C dL_law_371 ?_
          refine s_tbI C bh dL_law_372 hf (fun v40 hf => ?_)
          refine s_callV (rvf := fun x => some (.int x)) (st := [.int v39]) (fr := 3) (lo := 64) (mc := 0) (ms := 0) C [12] wc_X12_leaves wml_L_34 wim_X12_leaves wsl_12_X12_leaves dL_law_373 (As := [.inl v40]) rfl hf (fun x h' hF => c_X12_leaves _ _ _ _ _ (x, h') hF) rfl (Nat.le_of_ble_eq_true rfl) (room_ok hX (Nat.le_of_ble_eq_true rfl) (Nat.le_of_ble_eq_true rfl)) (cell_ok hX (by omega) (by omega)) (fun v42 h41 hf => ?_)
          refine s_icmp_eq (tgt := 2084) C dL_law_376 (by decide) hf (fun hf => ?_) (fun hf => ?_)
          · refine s_widen (c := 118 + 11 * k) (s := 41832 + 132 * k) (by omega) (by omega) ?_
            exact k2084 _ hf
          · refine s_iconst C dL_law_379 (v := (0 : Int32)) (by decide) ?_
            exact s_lawret C E h1 dL_law_380 hf (by omega) (by omega)
        refine s_ite hf (fun e hf => ?_) (fun nq5 hf => ?_)
        · refine s_tsw1 (tgt := 381) C dL_law_33 e (by decide) (by decide) rfl (by decide) ?_
          refine s_aload_n C dL_law_381 rfl ?_
          refine r_aload C dL_law_382 rfl ?_
          refine s_iload_n C dL_law_383 rfl ?_
          refine s_iconst C dL_law_384 (v := (1 : Int32)) (by decide) ?_
          refine s_iadd C dL_law_385 ?_
          refine s_tbI C bh dL_law_386 hf (fun v43 hf => ?_)
          refine s_callV (rvf := fun x => some (.int x)) (st := []) (fr := 1) (lo := 20) (mc := 0) (ms := 0) C [11] wc_X11_step wml_L_35 wim_X11_step wsl_11_X11_step dL_law_387 (As := [.inl v43]) rfl hf (fun x h' hF => c_X11_step _ _ _ _ _ (x, h') hF) rfl (Nat.le_of_ble_eq_true rfl) (room_ok hX (Nat.le_of_ble_eq_true rfl) (Nat.le_of_ble_eq_true rfl)) (cell_ok hX (by omega) (by omega)) (fun v45 h44 hf => ?_)
          refine s_aload_n C dL_law_390 rfl ?_
          refine r_aload C dL_law_391 rfl ?_
          refine s_iload_n C dL_law_392 rfl ?_
          refine s_iconst C dL_law_393 (v := (1 : Int32)) (by decide) ?_
          refine s_iadd C dL_law_394 ?_
          refine s_tbI C bh dL_law_395 hf (fun v46 hf => ?_)
          refine s_callV (rvf := fun x => some (.int x)) (st := [.int v45]) (fr := 2) (lo := 42) (mc := 0) (ms := 0) C [12] wc_X12_step wml_L_38 wim_X12_step wsl_12_X12_step dL_law_396 (As := [.inl v46]) rfl hf (fun x h' hF => c_X12_step _ _ _ _ _ (x, h') hF) rfl (Nat.le_of_ble_eq_true rfl) (room_ok hX (Nat.le_of_ble_eq_true rfl) (Nat.le_of_ble_eq_true rfl)) (cell_ok hX (by omega) (by omega)) (fun v48 h47 hf => ?_)
          refine s_icmp_eq (tgt := 2084) C dL_law_399 (by decide) hf (fun hf => ?_) (fun hf => ?_)
          · refine s_widen (c := 118 + 11 * k) (s := 41832 + 132 * k) (by omega) (by omega) ?_
            exact k2084 _ hf
          · refine s_iconst C dL_law_402 (v := (0 : Int32)) (by decide) ?_
            exact s_lawret C E h1 dL_law_403 hf (by omega) (by omega)
        refine s_ite hf (fun e hf => ?_) (fun nq6 hf => ?_)
        · refine s_tsw1 (tgt := 404) C dL_law_33 e (by decide) (by decide) rfl (by decide) ?_
          refine s_aload_n C dL_law_404 rfl ?_
          refine r_aload C dL_law_405 rfl ?_
          refine s_iload_n C dL_law_406 rfl ?_
          refine s_iconst C dL_law_407 (v := (1 : Int32)) (by decide) ?_
          refine s_iadd C dL_law_408 ?_
          refine s_tbI C bh dL_law_409 hf (fun v49 hf => ?_)
          refine r_aload C dL_law_410 rfl ?_
          refine s_iload_n C dL_law_411 rfl ?_
          refine s_iconst C dL_law_412 (v := (2 : Int32)) (by decide) ?_
          refine s_iadd C dL_law_413 ?_
          refine s_tbI C bh dL_law_414 hf (fun v50 hf => ?_)
          refine r_aload C dL_law_415 rfl ?_
          refine s_iload_n C dL_law_416 rfl ?_
          refine s_iconst C dL_law_417 (v := (3 : Int32)) (by decide) ?_
          refine s_iadd C dL_law_418 ?_
          refine s_tbI C bh dL_law_419 hf (fun v51 hf => ?_)
          refine r_aload C dL_law_420 rfl ?_
          refine s_iload_n C dL_law_421 rfl ?_
          refine s_iconst C dL_law_422 (v := (4 : Int32)) (by decide) ?_
          refine s_iadd C dL_law_423 ?_
          refine s_tbI C bh dL_law_424 hf (fun v52 hf => ?_)
          refine s_callV (rvf := fun x => some (.int x)) (st := []) (fr := 7) (lo := 174) (mc := 0) (ms := 0) C [11] wc_X11_why wml_L_39 wim_X11_why wsl_11_X11_why dL_law_425 (As := [.inl v49, .inl v50, .inl v51, .inl v52]) rfl hf (fun x h' hF => c_X11_why _ _ _ _ _ _ _ _ (x, h') hF) rfl (Nat.le_of_ble_eq_true rfl) (room_ok hX (Nat.le_of_ble_eq_true rfl) (Nat.le_of_ble_eq_true rfl)) (cell_ok hX (by omega) (by omega)) (fun v54 h53 hf => ?_)
          refine s_aload_n C dL_law_428 rfl ?_
          refine r_aload C dL_law_429 rfl ?_
          refine s_iload_n C dL_law_430 rfl ?_
          refine s_iconst C dL_law_431 (v := (1 : Int32)) (by decide) ?_
          refine s_iadd C dL_law_432 ?_
          refine s_tbI C bh dL_law_433 hf (fun v55 hf => ?_)
          refine r_aload C dL_law_434 rfl ?_
          refine s_iload_n C dL_law_435 rfl ?_
          refine s_iconst C dL_law_436 (v := (2 : Int32)) (by decide) ?_
          refine s_iadd C dL_law_437 ?_
          refine s_tbI C bh dL_law_438 hf (fun v56 hf => ?_)
          refine r_aload C dL_law_439 rfl ?_
          refine s_iload_n C dL_law_440 rfl ?_
          refine s_iconst C dL_law_441 (v := (3 : Int32)) (by decide) ?_
          refine s_iadd C dL_law_442 ?_
          refine s_tbI C bh dL_law_443 hf (fun v57 hf => ?_)
          refine r_aload C dL_law_444 rfl ?_
          refine s_iload_n C dL_law_445 rfl ?_
          refine s_iconst C dL_law_446 (v := (4 : Int32)) (by decide) ?_
          refine s_iadd C dL_law_447 ?_
          refine s_tbI C bh dL_law_448 hf (fun v58 hf => ?_)
          refine s_callV (rvf := fun x => some (.int x)) (st := [.int v54]) (fr := 8) (lo := 180) (mc := 0) (ms := 0) C [12] wc_X12_why wml_L_43 wim_X12_why wsl_12_X12_why dL_law_449 (As := [.inl v55, .inl v56, .inl v57, .inl v58]) rfl hf (fun x h' hF => c_X12_why _ _ _ _ _ _ _ _ (x, h') hF) rfl (Nat.le_of_ble_eq_true rfl) (room_ok hX (Nat.le_of_ble_eq_true rfl) (Nat.le_of_ble_eq_true rfl)) (cell_ok hX (by omega) (by omega)) (fun v60 h59 hf => ?_)
          refine s_icmp_eq (tgt := 2084) C dL_law_452 (by decide) hf (fun hf => ?_) (fun hf => ?_)
          · refine s_widen (c := 118 + 11 * k) (s := 41832 + 132 * k) (by omega) (by omega) ?_
            exact k2084 _ hf
          · refine s_iconst C dL_law_455 (v := (0 : Int32)) (by decide) ?_
            exact s_lawret C E h1 dL_law_456 hf (by omega) (by omega)
        refine s_ite hf (fun e hf => ?_) (fun nq7 hf => ?_)
        · refine s_tsw1 (tgt := 457) C dL_law_33 e (by decide) (by decide) rfl (by decide) ?_
          refine s_aload_n C dL_law_457 rfl ?_
          refine r_aload C dL_law_458 rfl ?_
          refine s_iload_n C dL_law_459 rfl ?_
          refine s_iconst C dL_law_460 (v := (1 : Int32)) (by decide) ?_
          refine s_iadd C dL_law_461 ?_
          refine s_tbI C bh dL_law_462 hf (fun v61 hf => ?_)
          refine r_aload C dL_law_463 rfl ?_
          refine s_iload_n C dL_law_464 rfl ?_
          refine s_iconst C dL_law_465 (v := (2 : Int32)) (by decide) ?_
          refine s_iadd C dL_law_466 ?_
          refine s_tbI C bh dL_law_467 hf (fun v62 hf => ?_)
          refine r_aload C dL_law_468 rfl ?_
          refine s_iload_n C dL_law_469 rfl ?_
          refine s_iconst C dL_law_470 (v := (3 : Int32)) (by decide) ?_
          refine s_iadd C dL_law_471 ?_
          refine s_tbI C bh dL_law_472 hf (fun v63 hf => ?_)
          refine s_callV (rvf := fun x => some (.int x)) (st := []) (fr := 7) (lo := 174) (mc := 11) (ms := 132) C [11] wc_X11_hide wml_L_44 wim_X11_hide wsl_11_X11_hide dL_law_473 (As := [.inl v61, .inl v62, .inl v63]) rfl hf (fun x h' hF => c_X11_hide _ _ _ _ _ _ _ (x, h') hF) rfl (Nat.le_of_ble_eq_true rfl) (room_ok hX (Nat.le_of_ble_eq_true rfl) (Nat.le_of_ble_eq_true rfl)) (cell_ok hX (by omega) (by omega)) (fun v65 h64 hf => ?_)
          refine s_aload_n C dL_law_476 rfl ?_
          refine r_aload C dL_law_477 rfl ?_
          refine s_iload_n C dL_law_478 rfl ?_
          refine s_iconst C dL_law_479 (v := (1 : Int32)) (by decide) ?_
          refine s_iadd C dL_law_480 ?_
          refine s_tbI C bh dL_law_481 hf (fun v66 hf => ?_)
          refine r_aload C dL_law_482 rfl ?_
          refine s_iload_n C dL_law_483 rfl ?_
          refine s_iconst C dL_law_484 (v := (2 : Int32)) (by decide) ?_
          refine s_iadd C dL_law_485 ?_
          refine s_tbI C bh dL_law_486 hf (fun v67 hf => ?_)
          refine r_aload C dL_law_487 rfl ?_
          refine s_iload_n C dL_law_488 rfl ?_
          refine s_iconst C dL_law_489 (v := (3 : Int32)) (by decide) ?_
          refine s_iadd C dL_law_490 ?_
          refine s_tbI C bh dL_law_491 hf (fun v68 hf => ?_)
          refine s_callV (rvf := fun x => some (.int x)) (st := [.int v65]) (fr := 8) (lo := 180) (mc := 0) (ms := 0) C [12] wc_X12_hide wml_L_48 wim_X12_hide wsl_12_X12_hide dL_law_492 (As := [.inl v66, .inl v67, .inl v68]) rfl hf (fun x h' hF => c_X12_hide _ _ _ _ _ _ _ (x, h') hF) rfl (Nat.le_of_ble_eq_true rfl) (room_ok hX (Nat.le_of_ble_eq_true rfl) (Nat.le_of_ble_eq_true rfl)) (cell_ok hX (by omega) (by omega)) (fun v70 h69 hf => ?_)
          refine s_icmp_eq (tgt := 2084) C dL_law_495 (by decide) hf (fun hf => ?_) (fun hf => ?_)
          · refine s_widen (c := 118 + 11 * k) (s := 41832 + 132 * k) (by omega) (by omega) ?_
            exact k2084 _ hf
          · refine s_iconst C dL_law_498 (v := (0 : Int32)) (by decide) ?_
            exact s_lawret C E h1 dL_law_499 hf (by omega) (by omega)
        refine s_ite hf (fun e hf => ?_) (fun nq8 hf => ?_)
        · refine s_tsw1 (tgt := 500) C dL_law_33 e (by decide) (by decide) rfl (by decide) ?_
          refine s_aload_n C dL_law_500 rfl ?_
          refine r_aload C dL_law_501 rfl ?_
          refine s_iload_n C dL_law_502 rfl ?_
          refine s_iconst C dL_law_503 (v := (1 : Int32)) (by decide) ?_
          refine s_iadd C dL_law_504 ?_
          refine s_tbI C bh dL_law_505 hf (fun v71 hf => ?_)
          refine r_aload C dL_law_506 rfl ?_
          refine s_iload_n C dL_law_507 rfl ?_
          refine s_iconst C dL_law_508 (v := (2 : Int32)) (by decide) ?_
          refine s_iadd C dL_law_509 ?_
          refine s_tbI C bh dL_law_510 hf (fun v72 hf => ?_)
          refine r_aload C dL_law_511 rfl ?_
          refine s_iload_n C dL_law_512 rfl ?_
          refine s_iconst C dL_law_513 (v := (3 : Int32)) (by decide) ?_
          refine s_iadd C dL_law_514 ?_
          refine s_tbI C bh dL_law_515 hf (fun v73 hf => ?_)
          refine s_callV (rvf := fun x => some (.int x)) (st := []) (fr := 1) (lo := 23) (mc := 0) (ms := 0) C [11] wc_X11_move wml_L_49 wim_X11_move wsl_11_X11_move dL_law_516 (As := [.inl v71, .inl v72, .inl v73]) rfl hf (fun x h' hF => c_X11_move _ _ _ _ _ _ _ (x, h') hF) rfl (Nat.le_of_ble_eq_true rfl) (room_ok hX (Nat.le_of_ble_eq_true rfl) (Nat.le_of_ble_eq_true rfl)) (cell_ok hX (by omega) (by omega)) (fun v75 h74 hf => ?_)
          refine s_aload_n C dL_law_519 rfl ?_
          refine r_aload C dL_law_520 rfl ?_
          refine s_iload_n C dL_law_521 rfl ?_
          refine s_iconst C dL_law_522 (v := (1 : Int32)) (by decide) ?_
          refine s_iadd C dL_law_523 ?_
          refine s_tbI C bh dL_law_524 hf (fun v76 hf => ?_)
          refine r_aload C dL_law_525 rfl ?_
          refine s_iload_n C dL_law_526 rfl ?_
          refine s_iconst C dL_law_527 (v := (2 : Int32)) (by decide) ?_
          refine s_iadd C dL_law_528 ?_
          refine s_tbI C bh dL_law_529 hf (fun v77 hf => ?_)
          refine r_aload C dL_law_530 rfl ?_
          refine s_iload_n C dL_law_531 rfl ?_
          refine s_iconst C dL_law_532 (v := (3 : Int32)) (by decide) ?_
          refine s_iadd C dL_law_533 ?_
          refine s_tbI C bh dL_law_534 hf (fun v78 hf => ?_)
          refine s_callV (rvf := fun x => some (.int x)) (st := [.int v75]) (fr := 2) (lo := 43) (mc := 0) (ms := 0) C [12] wc_X12_move wml_L_52 wim_X12_move wsl_12_X12_move dL_law_535 (As := [.inl v76, .inl v77, .inl v78]) rfl hf (fun x h' hF => c_X12_move _ _ _ _ _ _ _ (x, h') hF) rfl (Nat.le_of_ble_eq_true rfl) (room_ok hX (Nat.le_of_ble_eq_true rfl) (Nat.le_of_ble_eq_true rfl)) (cell_ok hX (by omega) (by omega)) (fun v80 h79 hf => ?_)
          refine s_icmp_eq (tgt := 2084) C dL_law_538 (by decide) hf (fun hf => ?_) (fun hf => ?_)
          · refine s_widen (c := 118 + 11 * k) (s := 41832 + 132 * k) (by omega) (by omega) ?_
            exact k2084 _ hf
          · refine s_iconst C dL_law_541 (v := (0 : Int32)) (by decide) ?_
            exact s_lawret C E h1 dL_law_542 hf (by omega) (by omega)
        refine s_ite hf (fun e hf => ?_) (fun nq9 hf => ?_)
        · refine s_tsw1 (tgt := 543) C dL_law_33 e (by decide) (by decide) rfl (by decide) ?_
          refine s_aload_n C dL_law_543 rfl ?_
          refine r_aload C dL_law_544 rfl ?_
          refine s_iload_n C dL_law_545 rfl ?_
          refine s_iconst C dL_law_546 (v := (1 : Int32)) (by decide) ?_
          refine s_iadd C dL_law_547 ?_
          refine s_tbI C bh dL_law_548 hf (fun v81 hf => ?_)
          refine s_callV (rvf := fun x => some (.int x)) (st := []) (fr := 1) (lo := 22) (mc := 0) (ms := 0) C [11] wc_X11_down wml_L_53 wim_X11_down wsl_11_X11_down dL_law_549 (As := [.inl v81]) rfl hf (fun x h' hF => c_X11_down _ _ _ _ _ (x, h') hF) rfl (Nat.le_of_ble_eq_true rfl) (room_ok hX (Nat.le_of_ble_eq_true rfl) (Nat.le_of_ble_eq_true rfl)) (cell_ok hX (by omega) (by omega)) (fun v83 h82 hf => ?_)
          refine s_aload_n C dL_law_552 rfl ?_
          refine r_aload C dL_law_553 rfl ?_
          refine s_iload_n C dL_law_554 rfl ?_
          refine s_iconst C dL_law_555 (v := (1 : Int32)) (by decide) ?_
          refine s_iadd C dL_law_556 ?_
          refine s_tbI C bh dL_law_557 hf (fun v84 hf => ?_)
          refine s_callV (rvf := fun x => some (.int x)) (st := [.int v83]) (fr := 3) (lo := 64) (mc := 0) (ms := 0) C [12] wc_X12_down wml_L_56 wim_X12_down wsl_12_X12_down dL_law_558 (As := [.inl v84]) rfl hf (fun x h' hF => c_X12_down _ _ _ _ _ (x, h') hF) rfl (Nat.le_of_ble_eq_true rfl) (room_ok hX (Nat.le_of_ble_eq_true rfl) (Nat.le_of_ble_eq_true rfl)) (cell_ok hX (by omega) (by omega)) (fun v86 h85 hf => ?_)
          refine s_icmp_eq (tgt := 2084) C dL_law_561 (by decide) hf (fun hf => ?_) (fun hf => ?_)
          · refine s_widen (c := 118 + 11 * k) (s := 41832 + 132 * k) (by omega) (by omega) ?_
            exact k2084 _ hf
          · refine s_iconst C dL_law_564 (v := (0 : Int32)) (by decide) ?_
            exact s_lawret C E h1 dL_law_565 hf (by omega) (by omega)
        refine s_ite hf (fun e hf => ?_) (fun nq10 hf => ?_)
        · refine s_tsw1 (tgt := 566) C dL_law_33 e (by decide) (by decide) rfl (by decide) ?_
          refine s_aload_n C dL_law_566 rfl ?_
          refine r_aload C dL_law_567 rfl ?_
          refine s_iload_n C dL_law_568 rfl ?_
          refine s_iconst C dL_law_569 (v := (1 : Int32)) (by decide) ?_
          refine s_iadd C dL_law_570 ?_
          refine s_tbI C bh dL_law_571 hf (fun v87 hf => ?_)
          refine r_aload C dL_law_572 rfl ?_
          refine s_iload_n C dL_law_573 rfl ?_
          refine s_iconst C dL_law_574 (v := (2 : Int32)) (by decide) ?_
          refine s_iadd C dL_law_575 ?_
          refine s_tbI C bh dL_law_576 hf (fun v88 hf => ?_)
          refine s_callV (rvf := fun x => some (.int x)) (st := []) (fr := 3) (lo := 68) (mc := 0) (ms := 0) C [11] wc_X11_ofBody wml_L_57 wim_X11_ofBody wsl_11_X11_ofBody dL_law_577 (As := [.inl v87, .inl v88]) rfl hf (fun x h' hF => c_X11_ofBody _ _ _ _ _ _ (x, h') hF) rfl (Nat.le_of_ble_eq_true rfl) (room_ok hX (Nat.le_of_ble_eq_true rfl) (Nat.le_of_ble_eq_true rfl)) (cell_ok hX (by omega) (by omega)) (fun v90 h89 hf => ?_)
          refine s_aload_n C dL_law_580 rfl ?_
          refine r_aload C dL_law_581 rfl ?_
          refine s_iload_n C dL_law_582 rfl ?_
          refine s_iconst C dL_law_583 (v := (1 : Int32)) (by decide) ?_
          refine s_iadd C dL_law_584 ?_
          refine s_tbI C bh dL_law_585 hf (fun v91 hf => ?_)
          refine r_aload C dL_law_586 rfl ?_
          refine s_iload_n C dL_law_587 rfl ?_
          refine s_iconst C dL_law_588 (v := (2 : Int32)) (by decide) ?_
          refine s_iadd C dL_law_589 ?_
          refine s_tbI C bh dL_law_590 hf (fun v92 hf => ?_)
          refine s_callV (rvf := fun x => some (.int x)) (st := [.int v90]) (fr := 5) (lo := 108) (mc := 0) (ms := 0) C [12] wc_X12_ofBody wml_L_60 wim_X12_ofBody wsl_12_X12_ofBody dL_law_591 (As := [.inl v91, .inl v92]) rfl hf (fun x h' hF => c_X12_ofBody _ _ _ _ _ _ (x, h') hF) rfl (Nat.le_of_ble_eq_true rfl) (room_ok hX (Nat.le_of_ble_eq_true rfl) (Nat.le_of_ble_eq_true rfl)) (cell_ok hX (by omega) (by omega)) (fun v94 h93 hf => ?_)
          refine s_icmp_eq (tgt := 2084) C dL_law_594 (by decide) hf (fun hf => ?_) (fun hf => ?_)
          · refine s_widen (c := 118 + 11 * k) (s := 41832 + 132 * k) (by omega) (by omega) ?_
            exact k2084 _ hf
          · refine s_iconst C dL_law_597 (v := (0 : Int32)) (by decide) ?_
            exact s_lawret C E h1 dL_law_598 hf (by omega) (by omega)
        refine s_ite hf (fun e hf => ?_) (fun nq11 hf => ?_)
        · refine s_tsw1 (tgt := 599) C dL_law_33 e (by decide) (by decide) rfl (by decide) ?_
          refine s_aload_n C dL_law_599 rfl ?_
          refine r_aload C dL_law_600 rfl ?_
          refine s_iload_n C dL_law_601 rfl ?_
          refine s_iconst C dL_law_602 (v := (1 : Int32)) (by decide) ?_
          refine s_iadd C dL_law_603 ?_
          refine s_tbI C bh dL_law_604 hf (fun v95 hf => ?_)
          refine r_aload C dL_law_605 rfl ?_
          refine s_iload_n C dL_law_606 rfl ?_
          refine s_iconst C dL_law_607 (v := (2 : Int32)) (by decide) ?_
          refine s_iadd C dL_law_608 ?_
          refine s_tbI C bh dL_law_609 hf (fun v96 hf => ?_)
          refine r_aload C dL_law_610 rfl ?_
          refine s_iload_n C dL_law_611 rfl ?_
          refine s_iconst C dL_law_612 (v := (3 : Int32)) (by decide) ?_
          refine s_iadd C dL_law_613 ?_
          refine s_tbI C bh dL_law_614 hf (fun v97 hf => ?_)
          refine s_callV (rvf := fun x => some (.int x)) (st := []) (fr := 2) (lo := 43) (mc := 0) (ms := 0) C [11] wc_X11_liesAt wml_L_61 wim_X11_liesAt wsl_11_X11_liesAt dL_law_615 (As := [.inl v95, .inl v96, .inl v97]) rfl hf (fun x h' hF => c_X11_liesAt _ _ _ _ _ _ _ (x, h') hF) rfl (Nat.le_of_ble_eq_true rfl) (room_ok hX (Nat.le_of_ble_eq_true rfl) (Nat.le_of_ble_eq_true rfl)) (cell_ok hX (by omega) (by omega)) (fun v99 h98 hf => ?_)
          refine s_aload_n C dL_law_618 rfl ?_
          refine r_aload C dL_law_619 rfl ?_
          refine s_iload_n C dL_law_620 rfl ?_
          refine s_iconst C dL_law_621 (v := (1 : Int32)) (by decide) ?_
          refine s_iadd C dL_law_622 ?_
          refine s_tbI C bh dL_law_623 hf (fun v100 hf => ?_)
          refine r_aload C dL_law_624 rfl ?_
          refine s_iload_n C dL_law_625 rfl ?_
          refine s_iconst C dL_law_626 (v := (2 : Int32)) (by decide) ?_
          refine s_iadd C dL_law_627 ?_
          refine s_tbI C bh dL_law_628 hf (fun v101 hf => ?_)
          refine r_aload C dL_law_629 rfl ?_
          refine s_iload_n C dL_law_630 rfl ?_
          refine s_iconst C dL_law_631 (v := (3 : Int32)) (by decide) ?_
          refine s_iadd C dL_law_632 ?_
          refine s_tbI C bh dL_law_633 hf (fun v102 hf => ?_)
          refine s_callV (rvf := fun x => some (.int x)) (st := [.int v99]) (fr := 3) (lo := 66) (mc := 0) (ms := 0) C [12] wc_X12_liesAt wml_L_64 wim_X12_liesAt wsl_12_X12_liesAt dL_law_634 (As := [.inl v100, .inl v101, .inl v102]) rfl hf (fun x h' hF => c_X12_liesAt _ _ _ _ _ _ _ (x, h') hF) rfl (Nat.le_of_ble_eq_true rfl) (room_ok hX (Nat.le_of_ble_eq_true rfl) (Nat.le_of_ble_eq_true rfl)) (cell_ok hX (by omega) (by omega)) (fun v104 h103 hf => ?_)
          refine s_icmp_eq (tgt := 2084) C dL_law_637 (by decide) hf (fun hf => ?_) (fun hf => ?_)
          · refine s_widen (c := 118 + 11 * k) (s := 41832 + 132 * k) (by omega) (by omega) ?_
            exact k2084 _ hf
          · refine s_iconst C dL_law_640 (v := (0 : Int32)) (by decide) ?_
            exact s_lawret C E h1 dL_law_641 hf (by omega) (by omega)
        refine s_ite hf (fun e hf => ?_) (fun nq12 hf => ?_)
        · refine s_tsw1 (tgt := 642) C dL_law_33 e (by decide) (by decide) rfl (by decide) ?_
          refine s_aload_n C dL_law_642 rfl ?_
          refine r_aload C dL_law_643 rfl ?_
          refine s_iload_n C dL_law_644 rfl ?_
          refine s_iconst C dL_law_645 (v := (1 : Int32)) (by decide) ?_
          refine s_iadd C dL_law_646 ?_
          refine s_tbI C bh dL_law_647 hf (fun v105 hf => ?_)
          refine r_aload C dL_law_648 rfl ?_
          refine s_iload_n C dL_law_649 rfl ?_
          refine s_iconst C dL_law_650 (v := (2 : Int32)) (by decide) ?_
          refine s_iadd C dL_law_651 ?_
          refine s_tbI C bh dL_law_652 hf (fun v106 hf => ?_)
          refine s_callV (rvf := fun x => some (.int x)) (st := []) (fr := 1) (lo := 21) (mc := 0) (ms := 0) C [11] wc_X11_feed wml_L_65 wim_X11_feed wsl_11_X11_feed dL_law_653 (As := [.inl v105, .inl v106]) rfl hf (fun x h' hF => c_X11_feed _ _ _ _ _ _ (x, h') hF) rfl (Nat.le_of_ble_eq_true rfl) (room_ok hX (Nat.le_of_ble_eq_true rfl) (Nat.le_of_ble_eq_true rfl)) (cell_ok hX (by omega) (by omega)) (fun v108 h107 hf => ?_)
          refine s_aload_n C dL_law_656 rfl ?_
          refine r_aload C dL_law_657 rfl ?_
          refine s_iload_n C dL_law_658 rfl ?_
          refine s_iconst C dL_law_659 (v := (1 : Int32)) (by decide) ?_
          refine s_iadd C dL_law_660 ?_
          refine s_tbI C bh dL_law_661 hf (fun v109 hf => ?_)
          refine r_aload C dL_law_662 rfl ?_
          refine s_iload_n C dL_law_663 rfl ?_
          refine s_iconst C dL_law_664 (v := (2 : Int32)) (by decide) ?_
          refine s_iadd C dL_law_665 ?_
          refine s_tbI C bh dL_law_666 hf (fun v110 hf => ?_)
          refine s_callV (rvf := fun x => some (.int x)) (st := [.int v108]) (fr := 1) (lo := 22) (mc := 0) (ms := 0) C [12] wc_X12_feed wml_L_68 wim_X12_feed wsl_12_X12_feed dL_law_667 (As := [.inl v109, .inl v110]) rfl hf (fun x h' hF => c_X12_feed _ _ _ _ _ _ (x, h') hF) rfl (Nat.le_of_ble_eq_true rfl) (room_ok hX (Nat.le_of_ble_eq_true rfl) (Nat.le_of_ble_eq_true rfl)) (cell_ok hX (by omega) (by omega)) (fun v112 h111 hf => ?_)
          refine s_icmp_eq (tgt := 2084) C dL_law_670 (by decide) hf (fun hf => ?_) (fun hf => ?_)
          · refine s_widen (c := 118 + 11 * k) (s := 41832 + 132 * k) (by omega) (by omega) ?_
            exact k2084 _ hf
          · refine s_iconst C dL_law_673 (v := (0 : Int32)) (by decide) ?_
            exact s_lawret C E h1 dL_law_674 hf (by omega) (by omega)
        refine s_ite hf (fun e hf => ?_) (fun nq13 hf => ?_)
        · refine s_tsw1 (tgt := 675) C dL_law_33 e (by decide) (by decide) rfl (by decide) ?_
          refine s_aload_n C dL_law_675 rfl ?_
          refine r_aload C dL_law_676 rfl ?_
          refine s_iload_n C dL_law_677 rfl ?_
          refine s_iconst C dL_law_678 (v := (1 : Int32)) (by decide) ?_
          refine s_iadd C dL_law_679 ?_
          refine s_tbI C bh dL_law_680 hf (fun v113 hf => ?_)
          refine r_aload C dL_law_681 rfl ?_
          refine s_iload_n C dL_law_682 rfl ?_
          refine s_iconst C dL_law_683 (v := (2 : Int32)) (by decide) ?_
          refine s_iadd C dL_law_684 ?_
          refine s_tbI C bh dL_law_685 hf (fun v114 hf => ?_)
          refine s_callV (rvf := fun x => some (.int x)) (st := []) (fr := 106) (lo := 6128) (mc := 0) (ms := 0) C [11] wc_X11_rule wml_L_69 wim_X11_rule wsl_11_X11_rule dL_law_686 (As := [.inl v113, .inl v114]) rfl hf (fun x h' hF => c_X11_rule _ _ _ _ _ _ (x, h') hF) rfl (Nat.le_of_ble_eq_true rfl) (room_ok hX (Nat.le_of_ble_eq_true rfl) (Nat.le_of_ble_eq_true rfl)) (cell_ok hX (by omega) (by omega)) (fun v116 h115 hf => ?_)
          refine s_aload_n C dL_law_689 rfl ?_
          refine r_aload C dL_law_690 rfl ?_
          refine s_iload_n C dL_law_691 rfl ?_
          refine s_iconst C dL_law_692 (v := (1 : Int32)) (by decide) ?_
          refine s_iadd C dL_law_693 ?_
          refine s_tbI C bh dL_law_694 hf (fun v117 hf => ?_)
          refine r_aload C dL_law_695 rfl ?_
          refine s_iload_n C dL_law_696 rfl ?_
          refine s_iconst C dL_law_697 (v := (2 : Int32)) (by decide) ?_
          refine s_iadd C dL_law_698 ?_
          refine s_tbI C bh dL_law_699 hf (fun v118 hf => ?_)
          refine s_callV (rvf := fun x => some (.int x)) (st := [.int v116]) (fr := 106) (lo := 6124) (mc := 0) (ms := 0) C [12] wc_X12_rule wml_L_72 wim_X12_rule wsl_12_X12_rule dL_law_700 (As := [.inl v117, .inl v118]) rfl hf (fun x h' hF => c_X12_rule _ _ _ _ _ _ (x, h') hF) rfl (Nat.le_of_ble_eq_true rfl) (room_ok hX (Nat.le_of_ble_eq_true rfl) (Nat.le_of_ble_eq_true rfl)) (cell_ok hX (by omega) (by omega)) (fun v120 h119 hf => ?_)
          refine s_icmp_eq (tgt := 2084) C dL_law_703 (by decide) hf (fun hf => ?_) (fun hf => ?_)
          · refine s_widen (c := 118 + 11 * k) (s := 41832 + 132 * k) (by omega) (by omega) ?_
            exact k2084 _ hf
          · refine s_iconst C dL_law_706 (v := (0 : Int32)) (by decide) ?_
            exact s_lawret C E h1 dL_law_707 hf (by omega) (by omega)
        refine s_ite hf (fun e hf => ?_) (fun nq14 hf => ?_)
        · refine s_tsw1 (tgt := 708) C dL_law_33 e (by decide) (by decide) rfl (by decide) ?_
          refine s_aload_n C dL_law_708 rfl ?_
          refine r_aload C dL_law_709 rfl ?_
          refine s_iload_n C dL_law_710 rfl ?_
          refine s_iconst C dL_law_711 (v := (1 : Int32)) (by decide) ?_
          refine s_iadd C dL_law_712 ?_
          refine s_tbI C bh dL_law_713 hf (fun v121 hf => ?_)
          refine r_aload C dL_law_714 rfl ?_
          refine s_iload_n C dL_law_715 rfl ?_
          refine s_iconst C dL_law_716 (v := (2 : Int32)) (by decide) ?_
          refine s_iadd C dL_law_717 ?_
          refine s_tbI C bh dL_law_718 hf (fun v122 hf => ?_)
          refine r_aload C dL_law_719 rfl ?_
          refine s_iload_n C dL_law_720 rfl ?_
          refine s_iconst C dL_law_721 (v := (3 : Int32)) (by decide) ?_
          refine s_iadd C dL_law_722 ?_
          refine s_tbI C bh dL_law_723 hf (fun v123 hf => ?_)
          refine s_callV (rvf := fun x => some (.int x)) (st := []) (fr := 1) (lo := 24) (mc := 0) (ms := 0) C [11] wc_X11_inForce wml_L_73 wim_X11_inForce wsl_11_X11_inForce dL_law_724 (As := [.inl v121, .inl v122, .inl v123]) rfl hf (fun x h' hF => c_X11_inForce _ _ _ _ _ _ _ (x, h') hF) rfl (Nat.le_of_ble_eq_true rfl) (room_ok hX (Nat.le_of_ble_eq_true rfl) (Nat.le_of_ble_eq_true rfl)) (cell_ok hX (by omega) (by omega)) (fun v125 h124 hf => ?_)
          refine s_aload_n C dL_law_727 rfl ?_
          refine r_aload C dL_law_728 rfl ?_
          refine s_iload_n C dL_law_729 rfl ?_
          refine s_iconst C dL_law_730 (v := (1 : Int32)) (by decide) ?_
          refine s_iadd C dL_law_731 ?_
          refine s_tbI C bh dL_law_732 hf (fun v126 hf => ?_)
          refine r_aload C dL_law_733 rfl ?_
          refine s_iload_n C dL_law_734 rfl ?_
          refine s_iconst C dL_law_735 (v := (2 : Int32)) (by decide) ?_
          refine s_iadd C dL_law_736 ?_
          refine s_tbI C bh dL_law_737 hf (fun v127 hf => ?_)
          refine r_aload C dL_law_738 rfl ?_
          refine s_iload_n C dL_law_739 rfl ?_
          refine s_iconst C dL_law_740 (v := (3 : Int32)) (by decide) ?_
          refine s_iadd C dL_law_741 ?_
          refine s_tbI C bh dL_law_742 hf (fun v128 hf => ?_)
          refine s_callV (rvf := fun x => some (.int x)) (st := [.int v125]) (fr := 2) (lo := 42) (mc := 0) (ms := 0) C [12] wc_X12_inForce wml_L_76 wim_X12_inForce wsl_12_X12_inForce dL_law_743 (As := [.inl v126, .inl v127, .inl v128]) rfl hf (fun x h' hF => c_X12_inForce _ _ _ _ _ _ _ (x, h') hF) rfl (Nat.le_of_ble_eq_true rfl) (room_ok hX (Nat.le_of_ble_eq_true rfl) (Nat.le_of_ble_eq_true rfl)) (cell_ok hX (by omega) (by omega)) (fun v130 h129 hf => ?_)
          refine s_icmp_eq (tgt := 2084) C dL_law_746 (by decide) hf (fun hf => ?_) (fun hf => ?_)
          · refine s_widen (c := 118 + 11 * k) (s := 41832 + 132 * k) (by omega) (by omega) ?_
            exact k2084 _ hf
          · refine s_iconst C dL_law_749 (v := (0 : Int32)) (by decide) ?_
            exact s_lawret C E h1 dL_law_750 hf (by omega) (by omega)
        refine s_ite hf (fun e hf => ?_) (fun nq15 hf => ?_)
        · refine s_tsw1 (tgt := 751) C dL_law_33 e (by decide) (by decide) rfl (by decide) ?_
          refine s_aload_n C dL_law_751 rfl ?_
          refine r_aload C dL_law_752 rfl ?_
          refine s_iload_n C dL_law_753 rfl ?_
          refine s_iconst C dL_law_754 (v := (1 : Int32)) (by decide) ?_
          refine s_iadd C dL_law_755 ?_
          refine s_tbI C bh dL_law_756 hf (fun v131 hf => ?_)
          refine r_aload C dL_law_757 rfl ?_
          refine s_iload_n C dL_law_758 rfl ?_
          refine s_iconst C dL_law_759 (v := (2 : Int32)) (by decide) ?_
          refine s_iadd C dL_law_760 ?_
          refine s_tbI C bh dL_law_761 hf (fun v132 hf => ?_)
          refine r_aload C dL_law_762 rfl ?_
          refine s_iload_n C dL_law_763 rfl ?_
          refine s_iconst C dL_law_764 (v := (3 : Int32)) (by decide) ?_
          refine s_iadd C dL_law_765 ?_
          refine s_tbI C bh dL_law_766 hf (fun v133 hf => ?_)
          refine r_aload C dL_law_767 rfl ?_
          refine s_iload_n C dL_law_768 rfl ?_
          refine s_iconst C dL_law_769 (v := (4 : Int32)) (by decide) ?_
          refine s_iadd C dL_law_770 ?_
          refine s_tbI C bh dL_law_771 hf (fun v134 hf => ?_)
          refine s_callV (rvf := fun x => some (.int x)) (st := []) (fr := 5) (lo := 121) (mc := 0) (ms := 0) C [11] wc_X11_says wml_L_77 wim_X11_says wsl_11_X11_says dL_law_772 (As := [.inl v131, .inl v132, .inl v133, .inl v134]) rfl hf (fun x h' hF => c_X11_says _ _ _ _ _ _ _ _ (x, h') hF) rfl (Nat.le_of_ble_eq_true rfl) (room_ok hX (Nat.le_of_ble_eq_true rfl) (Nat.le_of_ble_eq_true rfl)) (cell_ok hX (by omega) (by omega)) (fun v136 h135 hf => ?_)
          refine s_aload_n C dL_law_775 rfl ?_
          refine r_aload C dL_law_776 rfl ?_
          refine s_iload_n C dL_law_777 rfl ?_
          refine s_iconst C dL_law_778 (v := (1 : Int32)) (by decide) ?_
          refine s_iadd C dL_law_779 ?_
          refine s_tbI C bh dL_law_780 hf (fun v137 hf => ?_)
          refine r_aload C dL_law_781 rfl ?_
          refine s_iload_n C dL_law_782 rfl ?_
          refine s_iconst C dL_law_783 (v := (2 : Int32)) (by decide) ?_
          refine s_iadd C dL_law_784 ?_
          refine s_tbI C bh dL_law_785 hf (fun v138 hf => ?_)
          refine r_aload C dL_law_786 rfl ?_
          refine s_iload_n C dL_law_787 rfl ?_
          refine s_iconst C dL_law_788 (v := (3 : Int32)) (by decide) ?_
          refine s_iadd C dL_law_789 ?_
          refine s_tbI C bh dL_law_790 hf (fun v139 hf => ?_)
          refine r_aload C dL_law_791 rfl ?_
          refine s_iload_n C dL_law_792 rfl ?_
          refine s_iconst C dL_law_793 (v := (4 : Int32)) (by decide) ?_
          refine s_iadd C dL_law_794 ?_
          refine s_tbI C bh dL_law_795 hf (fun v140 hf => ?_)
          refine s_callV (rvf := fun x => some (.int x)) (st := [.int v136]) (fr := 7) (lo := 153) (mc := 0) (ms := 0) C [12] wc_X12_says wml_L_80 wim_X12_says wsl_12_X12_says dL_law_796 (As := [.inl v137, .inl v138, .inl v139, .inl v140]) rfl hf (fun x h' hF => c_X12_says _ _ _ _ _ _ _ _ (x, h') hF) rfl (Nat.le_of_ble_eq_true rfl) (room_ok hX (Nat.le_of_ble_eq_true rfl) (Nat.le_of_ble_eq_true rfl)) (cell_ok hX (by omega) (by omega)) (fun v142 h141 hf => ?_)
          refine s_icmp_eq (tgt := 2084) C dL_law_799 (by decide) hf (fun hf => ?_) (fun hf => ?_)
          · refine s_widen (c := 118 + 11 * k) (s := 41832 + 132 * k) (by omega) (by omega) ?_
            exact k2084 _ hf
          · refine s_iconst C dL_law_802 (v := (0 : Int32)) (by decide) ?_
            exact s_lawret C E h1 dL_law_803 hf (by omega) (by omega)
        refine s_ite hf (fun e hf => ?_) (fun nq16 hf => ?_)
        · refine s_tsw1 (tgt := 804) C dL_law_33 e (by decide) (by decide) rfl (by decide) ?_
          refine s_aload_n C dL_law_804 rfl ?_
          refine r_aload C dL_law_805 rfl ?_
          refine s_iload_n C dL_law_806 rfl ?_
          refine s_iconst C dL_law_807 (v := (1 : Int32)) (by decide) ?_
          refine s_iadd C dL_law_808 ?_
          refine s_tbI C bh dL_law_809 hf (fun v143 hf => ?_)
          refine r_aload C dL_law_810 rfl ?_
          refine s_iload_n C dL_law_811 rfl ?_
          refine s_iconst C dL_law_812 (v := (2 : Int32)) (by decide) ?_
          refine s_iadd C dL_law_813 ?_
          refine s_tbI C bh dL_law_814 hf (fun v144 hf => ?_)
          refine s_callV (rvf := fun x => some (.int x)) (st := []) (fr := 6) (lo := 143) (mc := 0) (ms := 0) C [11] wc_X11_nearest wml_L_81 wim_X11_nearest wsl_11_X11_nearest dL_law_815 (As := [.inl v143, .inl v144]) rfl hf (fun x h' hF => c_X11_nearest _ _ _ _ _ _ (x, h') hF) rfl (Nat.le_of_ble_eq_true rfl) (room_ok hX (Nat.le_of_ble_eq_true rfl) (Nat.le_of_ble_eq_true rfl)) (cell_ok hX (by omega) (by omega)) (fun v146 h145 hf => ?_)
          refine s_aload_n C dL_law_818 rfl ?_
          refine r_aload C dL_law_819 rfl ?_
          refine s_iload_n C dL_law_820 rfl ?_
          refine s_iconst C dL_law_821 (v := (1 : Int32)) (by decide) ?_
          refine s_iadd C dL_law_822 ?_
          refine s_tbI C bh dL_law_823 hf (fun v147 hf => ?_)
          refine r_aload C dL_law_824 rfl ?_
          refine s_iload_n C dL_law_825 rfl ?_
          refine s_iconst C dL_law_826 (v := (2 : Int32)) (by decide) ?_
          refine s_iadd C dL_law_827 ?_
          refine s_tbI C bh dL_law_828 hf (fun v148 hf => ?_)
          refine s_callV (rvf := fun x => some (.int x)) (st := [.int v146]) (fr := 7) (lo := 152) (mc := 0) (ms := 0) C [12] wc_X12_nearest wml_L_84 wim_X12_nearest wsl_12_X12_nearest dL_law_829 (As := [.inl v147, .inl v148]) rfl hf (fun x h' hF => c_X12_nearest _ _ _ _ _ _ (x, h') hF) rfl (Nat.le_of_ble_eq_true rfl) (room_ok hX (Nat.le_of_ble_eq_true rfl) (Nat.le_of_ble_eq_true rfl)) (cell_ok hX (by omega) (by omega)) (fun v150 h149 hf => ?_)
          refine s_icmp_eq (tgt := 2084) C dL_law_832 (by decide) hf (fun hf => ?_) (fun hf => ?_)
          · refine s_widen (c := 118 + 11 * k) (s := 41832 + 132 * k) (by omega) (by omega) ?_
            exact k2084 _ hf
          · refine s_iconst C dL_law_835 (v := (0 : Int32)) (by decide) ?_
            exact s_lawret C E h1 dL_law_836 hf (by omega) (by omega)
        refine s_ite hf (fun e hf => ?_) (fun nq17 hf => ?_)
        · refine s_tsw1 (tgt := 837) C dL_law_33 e (by decide) (by decide) rfl (by decide) ?_
          refine s_aload_n C dL_law_837 rfl ?_
          refine r_aload C dL_law_838 rfl ?_
          refine s_iload_n C dL_law_839 rfl ?_
          refine s_iconst C dL_law_840 (v := (1 : Int32)) (by decide) ?_
          refine s_iadd C dL_law_841 ?_
          refine s_tbI C bh dL_law_842 hf (fun v151 hf => ?_)
          refine r_aload C dL_law_843 rfl ?_
          refine s_iload_n C dL_law_844 rfl ?_
          refine s_iconst C dL_law_845 (v := (2 : Int32)) (by decide) ?_
          refine s_iadd C dL_law_846 ?_
          refine s_tbI C bh dL_law_847 hf (fun v152 hf => ?_)
          refine r_aload C dL_law_848 rfl ?_
          refine s_iload_n C dL_law_849 rfl ?_
          refine s_iconst C dL_law_850 (v := (3 : Int32)) (by decide) ?_
          refine s_iadd C dL_law_851 ?_
          refine s_tbI C bh dL_law_852 hf (fun v153 hf => ?_)
          refine r_aload C dL_law_853 rfl ?_
          refine s_iload_n C dL_law_854 rfl ?_
          refine s_iconst C dL_law_855 (v := (4 : Int32)) (by decide) ?_
          refine s_iadd C dL_law_856 ?_
          refine s_tbI C bh dL_law_857 hf (fun v154 hf => ?_)
          refine s_callV (rvf := fun x => some (.int x)) (st := []) (fr := 4) (lo := 98) (mc := 0) (ms := 0) C [11] wc_X11_riddle wml_L_85 wim_X11_riddle wsl_11_X11_riddle dL_law_858 (As := [.inl v151, .inl v152, .inl v153, .inl v154]) rfl hf (fun x h' hF => c_X11_riddle _ _ _ _ _ _ _ _ (x, h') hF) rfl (Nat.le_of_ble_eq_true rfl) (room_ok hX (Nat.le_of_ble_eq_true rfl) (Nat.le_of_ble_eq_true rfl)) (cell_ok hX (by omega) (by omega)) (fun v156 h155 hf => ?_)
          refine s_aload_n C dL_law_861 rfl ?_
          refine r_aload C dL_law_862 rfl ?_
          refine s_iload_n C dL_law_863 rfl ?_
          refine s_iconst C dL_law_864 (v := (1 : Int32)) (by decide) ?_
          refine s_iadd C dL_law_865 ?_
          refine s_tbI C bh dL_law_866 hf (fun v157 hf => ?_)
          refine r_aload C dL_law_867 rfl ?_
          refine s_iload_n C dL_law_868 rfl ?_
          refine s_iconst C dL_law_869 (v := (2 : Int32)) (by decide) ?_
          refine s_iadd C dL_law_870 ?_
          refine s_tbI C bh dL_law_871 hf (fun v158 hf => ?_)
          refine r_aload C dL_law_872 rfl ?_
          refine s_iload_n C dL_law_873 rfl ?_
          refine s_iconst C dL_law_874 (v := (3 : Int32)) (by decide) ?_
          refine s_iadd C dL_law_875 ?_
          refine s_tbI C bh dL_law_876 hf (fun v159 hf => ?_)
          refine r_aload C dL_law_877 rfl ?_
          refine s_iload_n C dL_law_878 rfl ?_
          refine s_iconst C dL_law_879 (v := (4 : Int32)) (by decide) ?_
          refine s_iadd C dL_law_880 ?_
          refine s_tbI C bh dL_law_881 hf (fun v160 hf => ?_)
          refine s_callV (rvf := fun x => some (.int x)) (st := [.int v156]) (fr := 3) (lo := 64) (mc := 0) (ms := 0) C [12] wc_X12_riddle wml_L_88 wim_X12_riddle wsl_12_X12_riddle dL_law_882 (As := [.inl v157, .inl v158, .inl v159, .inl v160]) rfl hf (fun x h' hF => c_X12_riddle _ _ _ _ _ _ _ _ (x, h') hF) rfl (Nat.le_of_ble_eq_true rfl) (room_ok hX (Nat.le_of_ble_eq_true rfl) (Nat.le_of_ble_eq_true rfl)) (cell_ok hX (by omega) (by omega)) (fun v162 h161 hf => ?_)
          refine s_icmp_eq (tgt := 2084) C dL_law_885 (by decide) hf (fun hf => ?_) (fun hf => ?_)
          · refine s_widen (c := 118 + 11 * k) (s := 41832 + 132 * k) (by omega) (by omega) ?_
            exact k2084 _ hf
          · refine s_iconst C dL_law_888 (v := (0 : Int32)) (by decide) ?_
            exact s_lawret C E h1 dL_law_889 hf (by omega) (by omega)
        refine s_ite hf (fun e hf => ?_) (fun nq18 hf => ?_)
        · refine s_tsw1 (tgt := 890) C dL_law_33 e (by decide) (by decide) rfl (by decide) ?_
          refine s_aload_n C dL_law_890 rfl ?_
          refine r_aload C dL_law_891 rfl ?_
          refine s_iload_n C dL_law_892 rfl ?_
          refine s_iconst C dL_law_893 (v := (1 : Int32)) (by decide) ?_
          refine s_iadd C dL_law_894 ?_
          refine s_tbI C bh dL_law_895 hf (fun v163 hf => ?_)
          refine r_aload C dL_law_896 rfl ?_
          refine s_iload_n C dL_law_897 rfl ?_
          refine s_iconst C dL_law_898 (v := (2 : Int32)) (by decide) ?_
          refine s_iadd C dL_law_899 ?_
          refine s_tbI C bh dL_law_900 hf (fun v164 hf => ?_)
          refine s_callV (rvf := fun x => some (.int x)) (st := []) (fr := 107) (lo := 6152) (mc := 0) (ms := 0) C [11] wc_X11_solve wml_L_89 wim_X11_solve wsl_11_X11_solve dL_law_901 (As := [.inl v163, .inl v164]) rfl hf (fun x h' hF => c_X11_solve _ _ _ _ _ _ (x, h') hF) rfl (Nat.le_of_ble_eq_true rfl) (room_ok hX (Nat.le_of_ble_eq_true rfl) (Nat.le_of_ble_eq_true rfl)) (cell_ok hX (by omega) (by omega)) (fun v166 h165 hf => ?_)
          refine s_aload_n C dL_law_904 rfl ?_
          refine r_aload C dL_law_905 rfl ?_
          refine s_iload_n C dL_law_906 rfl ?_
          refine s_iconst C dL_law_907 (v := (1 : Int32)) (by decide) ?_
          refine s_iadd C dL_law_908 ?_
          refine s_tbI C bh dL_law_909 hf (fun v167 hf => ?_)
          refine r_aload C dL_law_910 rfl ?_
          refine s_iload_n C dL_law_911 rfl ?_
          refine s_iconst C dL_law_912 (v := (2 : Int32)) (by decide) ?_
          refine s_iadd C dL_law_913 ?_
          refine s_tbI C bh dL_law_914 hf (fun v168 hf => ?_)
          refine s_callV (rvf := fun x => some (.int x)) (st := [.int v166]) (fr := 104) (lo := 6091) (mc := 0) (ms := 0) C [12] wc_X12_solve wml_L_92 wim_X12_solve wsl_12_X12_solve dL_law_915 (As := [.inl v167, .inl v168]) rfl hf (fun x h' hF => c_X12_solve _ _ _ _ _ _ (x, h') hF) rfl (Nat.le_of_ble_eq_true rfl) (room_ok hX (Nat.le_of_ble_eq_true rfl) (Nat.le_of_ble_eq_true rfl)) (cell_ok hX (by omega) (by omega)) (fun v170 h169 hf => ?_)
          refine s_icmp_eq (tgt := 2084) C dL_law_918 (by decide) hf (fun hf => ?_) (fun hf => ?_)
          · refine s_widen (c := 118 + 11 * k) (s := 41832 + 132 * k) (by omega) (by omega) ?_
            exact k2084 _ hf
          · refine s_iconst C dL_law_921 (v := (0 : Int32)) (by decide) ?_
            exact s_lawret C E h1 dL_law_922 hf (by omega) (by omega)
        refine s_ite hf (fun e hf => ?_) (fun nq19 hf => ?_)
        · refine s_tsw1 (tgt := 923) C dL_law_33 e (by decide) (by decide) rfl (by decide) ?_
          refine s_aload_n C dL_law_923 rfl ?_
          refine r_aload C dL_law_924 rfl ?_
          refine s_iload_n C dL_law_925 rfl ?_
          refine s_iconst C dL_law_926 (v := (1 : Int32)) (by decide) ?_
          refine s_iadd C dL_law_927 ?_
          refine s_tbI C bh dL_law_928 hf (fun v171 hf => ?_)
          refine r_aload C dL_law_929 rfl ?_
          refine s_iload_n C dL_law_930 rfl ?_
          refine s_iconst C dL_law_931 (v := (2 : Int32)) (by decide) ?_
          refine s_iadd C dL_law_932 ?_
          refine s_tbI C bh dL_law_933 hf (fun v172 hf => ?_)
          refine s_callV (rvf := fun x => some (.int x)) (st := []) (fr := 107) (lo := 6152) (mc := 0) (ms := 0) C [11] wc_X11_solved wml_L_93 wim_X11_solved wsl_11_X11_solved dL_law_934 (As := [.inl v171, .inl v172]) rfl hf (fun x h' hF => c_X11_solved _ _ _ _ _ _ (x, h') hF) rfl (Nat.le_of_ble_eq_true rfl) (room_ok hX (Nat.le_of_ble_eq_true rfl) (Nat.le_of_ble_eq_true rfl)) (cell_ok hX (by omega) (by omega)) (fun v174 h173 hf => ?_)
          refine s_aload_n C dL_law_937 rfl ?_
          refine r_aload C dL_law_938 rfl ?_
          refine s_iload_n C dL_law_939 rfl ?_
          refine s_iconst C dL_law_940 (v := (1 : Int32)) (by decide) ?_
          refine s_iadd C dL_law_941 ?_
          refine s_tbI C bh dL_law_942 hf (fun v175 hf => ?_)
          refine r_aload C dL_law_943 rfl ?_
          refine s_iload_n C dL_law_944 rfl ?_
          refine s_iconst C dL_law_945 (v := (2 : Int32)) (by decide) ?_
          refine s_iadd C dL_law_946 ?_
          refine s_tbI C bh dL_law_947 hf (fun v176 hf => ?_)
          refine s_callV (rvf := fun x => some (.int x)) (st := [.int v174]) (fr := 104) (lo := 6091) (mc := 0) (ms := 0) C [12] wc_X12_solved wml_L_96 wim_X12_solved wsl_12_X12_solved dL_law_948 (As := [.inl v175, .inl v176]) rfl hf (fun x h' hF => c_X12_solved _ _ _ _ _ _ (x, h') hF) rfl (Nat.le_of_ble_eq_true rfl) (room_ok hX (Nat.le_of_ble_eq_true rfl) (Nat.le_of_ble_eq_true rfl)) (cell_ok hX (by omega) (by omega)) (fun v178 h177 hf => ?_)
          refine s_icmp_eq (tgt := 2084) C dL_law_951 (by decide) hf (fun hf => ?_) (fun hf => ?_)
          · refine s_widen (c := 118 + 11 * k) (s := 41832 + 132 * k) (by omega) (by omega) ?_
            exact k2084 _ hf
          · refine s_iconst C dL_law_954 (v := (0 : Int32)) (by decide) ?_
            exact s_lawret C E h1 dL_law_955 hf (by omega) (by omega)
        refine s_ite hf (fun e hf => ?_) (fun nq20 hf => ?_)
        · refine s_tsw1 (tgt := 956) C dL_law_33 e (by decide) (by decide) rfl (by decide) ?_
          refine s_aload_n C dL_law_956 rfl ?_
          refine r_aload C dL_law_957 rfl ?_
          refine s_iload_n C dL_law_958 rfl ?_
          refine s_iconst C dL_law_959 (v := (1 : Int32)) (by decide) ?_
          refine s_iadd C dL_law_960 ?_
          refine s_tbI C bh dL_law_961 hf (fun v179 hf => ?_)
          refine r_aload C dL_law_962 rfl ?_
          refine s_iload_n C dL_law_963 rfl ?_
          refine s_iconst C dL_law_964 (v := (2 : Int32)) (by decide) ?_
          refine s_iadd C dL_law_965 ?_
          refine s_tbI C bh dL_law_966 hf (fun v180 hf => ?_)
          refine s_callV (rvf := fun x => some (.long x)) (st := []) (fr := 107) (lo := 6151) (mc := 0) (ms := 0) C [11] wc_X11_others wml_L_97 wim_X11_others wsl_11_X11_others dL_law_967 (As := [.inl v179, .inl v180]) rfl hf (fun x h' hF => c_X11_others _ _ _ _ _ _ (x, h') hF) rfl (Nat.le_of_ble_eq_true rfl) (room_ok hX (Nat.le_of_ble_eq_true rfl) (Nat.le_of_ble_eq_true rfl)) (cell_ok hX (by omega) (by omega)) (fun v182 h181 hf => ?_)
          refine s_aload_n C dL_law_970 rfl ?_
          refine r_aload C dL_law_971 rfl ?_
          refine s_iload_n C dL_law_972 rfl ?_
          refine s_iconst C dL_law_973 (v := (1 : Int32)) (by decide) ?_
          refine s_iadd C dL_law_974 ?_
          refine s_tbI C bh dL_law_975 hf (fun v183 hf => ?_)
          refine r_aload C dL_law_976 rfl ?_
          refine s_iload_n C dL_law_977 rfl ?_
          refine s_iconst C dL_law_978 (v := (2 : Int32)) (by decide) ?_
          refine s_iadd C dL_law_979 ?_
          refine s_tbI C bh dL_law_980 hf (fun v184 hf => ?_)
          refine s_callV (rvf := fun x => some (.long x)) (st := [.long v182]) (fr := 104) (lo := 6091) (mc := 0) (ms := 0) C [12] wc_X12_others wml_L_101 wim_X12_others wsl_12_X12_others dL_law_981 (As := [.inl v183, .inl v184]) rfl hf (fun x h' hF => c_X12_others _ _ _ _ _ _ (x, h') hF) rfl (Nat.le_of_ble_eq_true rfl) (room_ok hX (Nat.le_of_ble_eq_true rfl) (Nat.le_of_ble_eq_true rfl)) (cell_ok hX (by omega) (by omega)) (fun v186 h185 hf => ?_)
          refine s_lcmp C dL_law_984 ?_
          refine s_if_eq (tgt := 2084) C dL_law_985 (by decide) hf (fun hf => ?_) (fun hf => ?_)
          · refine s_widen (c := 118 + 11 * k) (s := 41832 + 132 * k) (by omega) (by omega) ?_
            exact k2084 _ hf
          · refine s_iconst C dL_law_988 (v := (0 : Int32)) (by decide) ?_
            exact s_lawret C E h1 dL_law_989 hf (by omega) (by omega)
        refine s_ite hf (fun e hf => ?_) (fun nq21 hf => ?_)
        · refine s_tsw1 (tgt := 990) C dL_law_33 e (by decide) (by decide) rfl (by decide) ?_
          refine s_aload_n C dL_law_990 rfl ?_
          refine r_aload C dL_law_991 rfl ?_
          refine s_iload_n C dL_law_992 rfl ?_
          refine s_iconst C dL_law_993 (v := (1 : Int32)) (by decide) ?_
          refine s_iadd C dL_law_994 ?_
          refine s_tbI C bh dL_law_995 hf (fun v187 hf => ?_)
          refine r_aload C dL_law_996 rfl ?_
          refine s_iload_n C dL_law_997 rfl ?_
          refine s_iconst C dL_law_998 (v := (2 : Int32)) (by decide) ?_
          refine s_iadd C dL_law_999 ?_
          refine s_tbI C bh dL_law_1000 hf (fun v188 hf => ?_)
          refine r_aload C dL_law_1001 rfl ?_
          refine s_iload_n C dL_law_1002 rfl ?_
          refine s_iconst C dL_law_1003 (v := (3 : Int32)) (by decide) ?_
          refine s_iadd C dL_law_1004 ?_
          refine s_tbI C bh dL_law_1005 hf (fun v189 hf => ?_)
          refine r_aload C dL_law_1006 rfl ?_
          refine s_iload_n C dL_law_1007 rfl ?_
          refine s_iconst C dL_law_1008 (v := (4 : Int32)) (by decide) ?_
          refine s_iadd C dL_law_1009 ?_
          refine s_tbI C bh dL_law_1010 hf (fun v190 hf => ?_)
          refine s_callV (rvf := fun x => some (.int x)) (st := []) (fr := 4) (lo := 90) (mc := 0) (ms := 0) C [11] wc_X11_log wml_L_102 wim_X11_log wsl_11_X11_log dL_law_1011 (As := [.inl v187, .inl v188, .inl v189, .inl v190]) rfl hf (fun x h' hF => c_X11_log _ _ _ _ _ _ _ _ (x, h') hF) rfl (Nat.le_of_ble_eq_true rfl) (room_ok hX (Nat.le_of_ble_eq_true rfl) (Nat.le_of_ble_eq_true rfl)) (cell_ok hX (by omega) (by omega)) (fun v192 h191 hf => ?_)
          refine s_aload_n C dL_law_1014 rfl ?_
          refine r_aload C dL_law_1015 rfl ?_
          refine s_iload_n C dL_law_1016 rfl ?_
          refine s_iconst C dL_law_1017 (v := (1 : Int32)) (by decide) ?_
          refine s_iadd C dL_law_1018 ?_
          refine s_tbI C bh dL_law_1019 hf (fun v193 hf => ?_)
          refine r_aload C dL_law_1020 rfl ?_
          refine s_iload_n C dL_law_1021 rfl ?_
          refine s_iconst C dL_law_1022 (v := (2 : Int32)) (by decide) ?_
          refine s_iadd C dL_law_1023 ?_
          refine s_tbI C bh dL_law_1024 hf (fun v194 hf => ?_)
          refine r_aload C dL_law_1025 rfl ?_
          refine s_iload_n C dL_law_1026 rfl ?_
          refine s_iconst C dL_law_1027 (v := (3 : Int32)) (by decide) ?_
          refine s_iadd C dL_law_1028 ?_
          refine s_tbI C bh dL_law_1029 hf (fun v195 hf => ?_)
          refine r_aload C dL_law_1030 rfl ?_
          refine s_iload_n C dL_law_1031 rfl ?_
          refine s_iconst C dL_law_1032 (v := (4 : Int32)) (by decide) ?_
          refine s_iadd C dL_law_1033 ?_
          refine s_tbI C bh dL_law_1034 hf (fun v196 hf => ?_)
          refine s_callV (rvf := fun x => some (.int x)) (st := [.int v192]) (fr := 3) (lo := 64) (mc := 0) (ms := 0) C [12] wc_X12_log wml_L_105 wim_X12_log wsl_12_X12_log dL_law_1035 (As := [.inl v193, .inl v194, .inl v195, .inl v196]) rfl hf (fun x h' hF => c_X12_log _ _ _ _ _ _ _ _ (x, h') hF) rfl (Nat.le_of_ble_eq_true rfl) (room_ok hX (Nat.le_of_ble_eq_true rfl) (Nat.le_of_ble_eq_true rfl)) (cell_ok hX (by omega) (by omega)) (fun v198 h197 hf => ?_)
          refine s_icmp_eq (tgt := 2084) C dL_law_1038 (by decide) hf (fun hf => ?_) (fun hf => ?_)
          · refine s_widen (c := 118 + 11 * k) (s := 41832 + 132 * k) (by omega) (by omega) ?_
            exact k2084 _ hf
          · refine s_iconst C dL_law_1041 (v := (0 : Int32)) (by decide) ?_
            exact s_lawret C E h1 dL_law_1042 hf (by omega) (by omega)
        refine s_ite hf (fun e hf => ?_) (fun nq22 hf => ?_)
        · refine s_tsw1 (tgt := 1043) C dL_law_33 e (by decide) (by decide) rfl (by decide) ?_
          refine s_aload_n C dL_law_1043 rfl ?_
          refine r_aload C dL_law_1044 rfl ?_
          refine s_iload_n C dL_law_1045 rfl ?_
          refine s_iconst C dL_law_1046 (v := (1 : Int32)) (by decide) ?_
          refine s_iadd C dL_law_1047 ?_
          refine s_tbI C bh dL_law_1048 hf (fun v199 hf => ?_)
          refine r_aload C dL_law_1049 rfl ?_
          refine s_iload_n C dL_law_1050 rfl ?_
          refine s_iconst C dL_law_1051 (v := (2 : Int32)) (by decide) ?_
          refine s_iadd C dL_law_1052 ?_
          refine s_tbI C bh dL_law_1053 hf (fun v200 hf => ?_)
          refine r_aload C dL_law_1054 rfl ?_
          refine s_iload_n C dL_law_1055 rfl ?_
          refine s_iconst C dL_law_1056 (v := (3 : Int32)) (by decide) ?_
          refine s_iadd C dL_law_1057 ?_
          refine s_tbI C bh dL_law_1058 hf (fun v201 hf => ?_)
          refine r_aload C dL_law_1059 rfl ?_
          refine s_iload_n C dL_law_1060 rfl ?_
          refine s_iconst C dL_law_1061 (v := (4 : Int32)) (by decide) ?_
          refine s_iadd C dL_law_1062 ?_
          refine s_tbI C bh dL_law_1063 hf (fun v202 hf => ?_)
          refine s_callV (rvf := fun x => some (.int x)) (st := []) (fr := 2) (lo := 47) (mc := 0) (ms := 0) C [11] wc_X11_paper wml_L_106 wim_X11_paper wsl_11_X11_paper dL_law_1064 (As := [.inl v199, .inl v200, .inl v201, .inl v202]) rfl hf (fun x h' hF => c_X11_paper _ _ _ _ _ _ _ _ (x, h') hF) rfl (Nat.le_of_ble_eq_true rfl) (room_ok hX (Nat.le_of_ble_eq_true rfl) (Nat.le_of_ble_eq_true rfl)) (cell_ok hX (by omega) (by omega)) (fun v204 h203 hf => ?_)
          refine s_aload_n C dL_law_1067 rfl ?_
          refine r_aload C dL_law_1068 rfl ?_
          refine s_iload_n C dL_law_1069 rfl ?_
          refine s_iconst C dL_law_1070 (v := (1 : Int32)) (by decide) ?_
          refine s_iadd C dL_law_1071 ?_
          refine s_tbI C bh dL_law_1072 hf (fun v205 hf => ?_)
          refine r_aload C dL_law_1073 rfl ?_
          refine s_iload_n C dL_law_1074 rfl ?_
          refine s_iconst C dL_law_1075 (v := (2 : Int32)) (by decide) ?_
          refine s_iadd C dL_law_1076 ?_
          refine s_tbI C bh dL_law_1077 hf (fun v206 hf => ?_)
          refine r_aload C dL_law_1078 rfl ?_
          refine s_iload_n C dL_law_1079 rfl ?_
          refine s_iconst C dL_law_1080 (v := (3 : Int32)) (by decide) ?_
          refine s_iadd C dL_law_1081 ?_
          refine s_tbI C bh dL_law_1082 hf (fun v207 hf => ?_)
          refine r_aload C dL_law_1083 rfl ?_
          refine s_iload_n C dL_law_1084 rfl ?_
          refine s_iconst C dL_law_1085 (v := (4 : Int32)) (by decide) ?_
          refine s_iadd C dL_law_1086 ?_
          refine s_tbI C bh dL_law_1087 hf (fun v208 hf => ?_)
          refine s_callV (rvf := fun x => some (.int x)) (st := [.int v204]) (fr := 3) (lo := 64) (mc := 0) (ms := 0) C [12] wc_X12_paper wml_L_109 wim_X12_paper wsl_12_X12_paper dL_law_1088 (As := [.inl v205, .inl v206, .inl v207, .inl v208]) rfl hf (fun x h' hF => c_X12_paper _ _ _ _ _ _ _ _ (x, h') hF) rfl (Nat.le_of_ble_eq_true rfl) (room_ok hX (Nat.le_of_ble_eq_true rfl) (Nat.le_of_ble_eq_true rfl)) (cell_ok hX (by omega) (by omega)) (fun v210 h209 hf => ?_)
          refine s_icmp_eq (tgt := 2084) C dL_law_1091 (by decide) hf (fun hf => ?_) (fun hf => ?_)
          · refine s_widen (c := 118 + 11 * k) (s := 41832 + 132 * k) (by omega) (by omega) ?_
            exact k2084 _ hf
          · refine s_iconst C dL_law_1094 (v := (0 : Int32)) (by decide) ?_
            exact s_lawret C E h1 dL_law_1095 hf (by omega) (by omega)
        refine s_ite hf (fun e hf => ?_) (fun nq23 hf => ?_)
        · refine s_tsw1 (tgt := 1096) C dL_law_33 e (by decide) (by decide) rfl (by decide) ?_
          refine s_aload_n C dL_law_1096 rfl ?_
          refine r_aload C dL_law_1097 rfl ?_
          refine s_iload_n C dL_law_1098 rfl ?_
          refine s_iconst C dL_law_1099 (v := (1 : Int32)) (by decide) ?_
          refine s_iadd C dL_law_1100 ?_
          refine s_tbI C bh dL_law_1101 hf (fun v211 hf => ?_)
          refine r_aload C dL_law_1102 rfl ?_
          refine s_iload_n C dL_law_1103 rfl ?_
          refine s_iconst C dL_law_1104 (v := (2 : Int32)) (by decide) ?_
          refine s_iadd C dL_law_1105 ?_
          refine s_tbI C bh dL_law_1106 hf (fun v212 hf => ?_)
          refine r_aload C dL_law_1107 rfl ?_
          refine s_iload_n C dL_law_1108 rfl ?_
          refine s_iconst C dL_law_1109 (v := (3 : Int32)) (by decide) ?_
          refine s_iadd C dL_law_1110 ?_
          refine s_tbI C bh dL_law_1111 hf (fun v213 hf => ?_)
          refine s_callV (rvf := fun x => some (.int x)) (st := []) (fr := 2) (lo := 46) (mc := 0) (ms := 0) C [11] wc_X11_join wml_L_110 wim_X11_join wsl_11_X11_join dL_law_1112 (As := [.inl v211, .inl v212, .inl v213]) rfl hf (fun x h' hF => c_X11_join _ _ _ _ _ _ _ (x, h') hF) rfl (Nat.le_of_ble_eq_true rfl) (room_ok hX (Nat.le_of_ble_eq_true rfl) (Nat.le_of_ble_eq_true rfl)) (cell_ok hX (by omega) (by omega)) (fun v215 h214 hf => ?_)
          refine s_aload_n C dL_law_1115 rfl ?_
          refine r_aload C dL_law_1116 rfl ?_
          refine s_iload_n C dL_law_1117 rfl ?_
          refine s_iconst C dL_law_1118 (v := (1 : Int32)) (by decide) ?_
          refine s_iadd C dL_law_1119 ?_
          refine s_tbI C bh dL_law_1120 hf (fun v216 hf => ?_)
          refine r_aload C dL_law_1121 rfl ?_
          refine s_iload_n C dL_law_1122 rfl ?_
          refine s_iconst C dL_law_1123 (v := (2 : Int32)) (by decide) ?_
          refine s_iadd C dL_law_1124 ?_
          refine s_tbI C bh dL_law_1125 hf (fun v217 hf => ?_)
          refine r_aload C dL_law_1126 rfl ?_
          refine s_iload_n C dL_law_1127 rfl ?_
          refine s_iconst C dL_law_1128 (v := (3 : Int32)) (by decide) ?_
          refine s_iadd C dL_law_1129 ?_
          refine s_tbI C bh dL_law_1130 hf (fun v218 hf => ?_)
          refine s_callV (rvf := fun x => some (.int x)) (st := [.int v215]) (fr := 3) (lo := 64) (mc := 0) (ms := 0) C [12] wc_X12_join wml_L_113 wim_X12_join wsl_12_X12_join dL_law_1131 (As := [.inl v216, .inl v217, .inl v218]) rfl hf (fun x h' hF => c_X12_join _ _ _ _ _ _ _ (x, h') hF) rfl (Nat.le_of_ble_eq_true rfl) (room_ok hX (Nat.le_of_ble_eq_true rfl) (Nat.le_of_ble_eq_true rfl)) (cell_ok hX (by omega) (by omega)) (fun v220 h219 hf => ?_)
          refine s_icmp_eq (tgt := 2084) C dL_law_1134 (by decide) hf (fun hf => ?_) (fun hf => ?_)
          · refine s_widen (c := 118 + 11 * k) (s := 41832 + 132 * k) (by omega) (by omega) ?_
            exact k2084 _ hf
          · refine s_iconst C dL_law_1137 (v := (0 : Int32)) (by decide) ?_
            exact s_lawret C E h1 dL_law_1138 hf (by omega) (by omega)
        refine s_ite hf (fun e hf => ?_) (fun nq24 hf => ?_)
        · refine s_tsw1 (tgt := 1139) C dL_law_33 e (by decide) (by decide) rfl (by decide) ?_
          refine s_aload_n C dL_law_1139 rfl ?_
          refine r_aload C dL_law_1140 rfl ?_
          refine s_iload_n C dL_law_1141 rfl ?_
          refine s_iconst C dL_law_1142 (v := (1 : Int32)) (by decide) ?_
          refine s_iadd C dL_law_1143 ?_
          refine s_tbI C bh dL_law_1144 hf (fun v221 hf => ?_)
          refine s_callV (rvf := fun x => some (.int x)) (st := []) (fr := 7) (lo := 170) (mc := 0) (ms := 0) C [11] wc_X11_first wml_L_114 wim_X11_first wsl_11_X11_first dL_law_1145 (As := [.inl v221]) rfl hf (fun x h' hF => c_X11_first _ _ _ _ _ (x, h') hF) rfl (Nat.le_of_ble_eq_true rfl) (room_ok hX (Nat.le_of_ble_eq_true rfl) (Nat.le_of_ble_eq_true rfl)) (cell_ok hX (by omega) (by omega)) (fun v223 h222 hf => ?_)
          refine s_aload_n C dL_law_1148 rfl ?_
          refine r_aload C dL_law_1149 rfl ?_
          refine s_iload_n C dL_law_1150 rfl ?_
          refine s_iconst C dL_law_1151 (v := (1 : Int32)) (by decide) ?_
          refine s_iadd C dL_law_1152 ?_
          refine s_tbI C bh dL_law_1153 hf (fun v224 hf => ?_)
          refine s_callV (rvf := fun x => some (.int x)) (st := [.int v223]) (fr := 7) (lo := 152) (mc := 0) (ms := 0) C [12] wc_X12_first wml_L_117 wim_X12_first wsl_12_X12_first dL_law_1154 (As := [.inl v224]) rfl hf (fun x h' hF => c_X12_first _ _ _ _ _ (x, h') hF) rfl (Nat.le_of_ble_eq_true rfl) (room_ok hX (Nat.le_of_ble_eq_true rfl) (Nat.le_of_ble_eq_true rfl)) (cell_ok hX (by omega) (by omega)) (fun v226 h225 hf => ?_)
          refine s_icmp_eq (tgt := 2084) C dL_law_1157 (by decide) hf (fun hf => ?_) (fun hf => ?_)
          · refine s_widen (c := 118 + 11 * k) (s := 41832 + 132 * k) (by omega) (by omega) ?_
            exact k2084 _ hf
          · refine s_iconst C dL_law_1160 (v := (0 : Int32)) (by decide) ?_
            exact s_lawret C E h1 dL_law_1161 hf (by omega) (by omega)
        refine s_ite hf (fun e hf => ?_) (fun nq25 hf => ?_)
        · refine s_tsw1 (tgt := 1162) C dL_law_33 e (by decide) (by decide) rfl (by decide) ?_
          refine s_aload_n C dL_law_1162 rfl ?_
          refine r_aload C dL_law_1163 rfl ?_
          refine s_iload_n C dL_law_1164 rfl ?_
          refine s_iconst C dL_law_1165 (v := (1 : Int32)) (by decide) ?_
          refine s_iadd C dL_law_1166 ?_
          refine s_tbI C bh dL_law_1167 hf (fun v227 hf => ?_)
          refine r_aload C dL_law_1168 rfl ?_
          refine s_iload_n C dL_law_1169 rfl ?_
          refine s_iconst C dL_law_1170 (v := (2 : Int32)) (by decide) ?_
          refine s_iadd C dL_law_1171 ?_
          refine s_tbI C bh dL_law_1172 hf (fun v228 hf => ?_)
          refine s_callV (rvf := fun x => some (.int x)) (st := []) (fr := 5) (lo := 111) (mc := 0) (ms := 0) C [11] wc_X11_isFalse wml_L_118 wim_X11_isFalse wsl_11_X11_isFalse dL_law_1173 (As := [.inl v227, .inl v228]) rfl hf (fun x h' hF => c_X11_isFalse _ _ _ _ _ _ (x, h') hF) rfl (Nat.le_of_ble_eq_true rfl) (room_ok hX (Nat.le_of_ble_eq_true rfl) (Nat.le_of_ble_eq_true rfl)) (cell_ok hX (by omega) (by omega)) (fun v230 h229 hf => ?_)
          refine s_aload_n C dL_law_1176 rfl ?_
          refine r_aload C dL_law_1177 rfl ?_
          refine s_iload_n C dL_law_1178 rfl ?_
          refine s_iconst C dL_law_1179 (v := (1 : Int32)) (by decide) ?_
          refine s_iadd C dL_law_1180 ?_
          refine s_tbI C bh dL_law_1181 hf (fun v231 hf => ?_)
          refine r_aload C dL_law_1182 rfl ?_
          refine s_iload_n C dL_law_1183 rfl ?_
          refine s_iconst C dL_law_1184 (v := (2 : Int32)) (by decide) ?_
          refine s_iadd C dL_law_1185 ?_
          refine s_tbI C bh dL_law_1186 hf (fun v232 hf => ?_)
          refine s_callV (rvf := fun x => some (.int x)) (st := [.int v230]) (fr := 5) (lo := 114) (mc := 0) (ms := 0) C [12] wc_X12_isFalse wml_L_121 wim_X12_isFalse wsl_12_X12_isFalse dL_law_1187 (As := [.inl v231, .inl v232]) rfl hf (fun x h' hF => c_X12_isFalse _ _ _ _ _ _ (x, h') hF) rfl (Nat.le_of_ble_eq_true rfl) (room_ok hX (Nat.le_of_ble_eq_true rfl) (Nat.le_of_ble_eq_true rfl)) (cell_ok hX (by omega) (by omega)) (fun v234 h233 hf => ?_)
          refine s_icmp_eq (tgt := 2084) C dL_law_1190 (by decide) hf (fun hf => ?_) (fun hf => ?_)
          · refine s_widen (c := 118 + 11 * k) (s := 41832 + 132 * k) (by omega) (by omega) ?_
            exact k2084 _ hf
          · refine s_iconst C dL_law_1193 (v := (0 : Int32)) (by decide) ?_
            exact s_lawret C E h1 dL_law_1194 hf (by omega) (by omega)
        refine s_ite hf (fun e hf => ?_) (fun nq26 hf => ?_)
        · refine s_tsw1 (tgt := 1195) C dL_law_33 e (by decide) (by decide) rfl (by decide) ?_
          refine s_aload_n C dL_law_1195 rfl ?_
          refine r_aload C dL_law_1196 rfl ?_
          refine s_iload_n C dL_law_1197 rfl ?_
          refine s_iconst C dL_law_1198 (v := (1 : Int32)) (by decide) ?_
          refine s_iadd C dL_law_1199 ?_
          refine s_tbI C bh dL_law_1200 hf (fun v235 hf => ?_)
          refine r_aload C dL_law_1201 rfl ?_
          refine s_iload_n C dL_law_1202 rfl ?_
          refine s_iconst C dL_law_1203 (v := (2 : Int32)) (by decide) ?_
          refine s_iadd C dL_law_1204 ?_
          refine s_tbI C bh dL_law_1205 hf (fun v236 hf => ?_)
          refine s_callV (rvf := fun x => some (.int x)) (st := []) (fr := 3) (lo := 67) (mc := 0) (ms := 0) C [11] wc_X11_gone wml_L_122 wim_X11_gone wsl_11_X11_gone dL_law_1206 (As := [.inl v235, .inl v236]) rfl hf (fun x h' hF => c_X11_gone _ _ _ _ _ _ (x, h') hF) rfl (Nat.le_of_ble_eq_true rfl) (room_ok hX (Nat.le_of_ble_eq_true rfl) (Nat.le_of_ble_eq_true rfl)) (cell_ok hX (by omega) (by omega)) (fun v238 h237 hf => ?_)
          refine s_aload_n C dL_law_1209 rfl ?_
          refine r_aload C dL_law_1210 rfl ?_
          refine s_iload_n C dL_law_1211 rfl ?_
          refine s_iconst C dL_law_1212 (v := (1 : Int32)) (by decide) ?_
          refine s_iadd C dL_law_1213 ?_
          refine s_tbI C bh dL_law_1214 hf (fun v239 hf => ?_)
          refine r_aload C dL_law_1215 rfl ?_
          refine s_iload_n C dL_law_1216 rfl ?_
          refine s_iconst C dL_law_1217 (v := (2 : Int32)) (by decide) ?_
          refine s_iadd C dL_law_1218 ?_
          refine s_tbI C bh dL_law_1219 hf (fun v240 hf => ?_)
          refine s_callV (rvf := fun x => some (.int x)) (st := [.int v238]) (fr := 3) (lo := 69) (mc := 0) (ms := 0) C [12] wc_X12_gone wml_L_125 wim_X12_gone wsl_12_X12_gone dL_law_1220 (As := [.inl v239, .inl v240]) rfl hf (fun x h' hF => c_X12_gone _ _ _ _ _ _ (x, h') hF) rfl (Nat.le_of_ble_eq_true rfl) (room_ok hX (Nat.le_of_ble_eq_true rfl) (Nat.le_of_ble_eq_true rfl)) (cell_ok hX (by omega) (by omega)) (fun v242 h241 hf => ?_)
          refine s_icmp_eq (tgt := 2084) C dL_law_1223 (by decide) hf (fun hf => ?_) (fun hf => ?_)
          · refine s_widen (c := 118 + 11 * k) (s := 41832 + 132 * k) (by omega) (by omega) ?_
            exact k2084 _ hf
          · refine s_iconst C dL_law_1226 (v := (0 : Int32)) (by decide) ?_
            exact s_lawret C E h1 dL_law_1227 hf (by omega) (by omega)
        refine s_ite hf (fun e hf => ?_) (fun nq27 hf => ?_)
        · refine s_tsw1 (tgt := 1228) C dL_law_33 e (by decide) (by decide) rfl (by decide) ?_
          refine s_aload_n C dL_law_1228 rfl ?_
          refine r_aload C dL_law_1229 rfl ?_
          refine s_iload_n C dL_law_1230 rfl ?_
          refine s_iconst C dL_law_1231 (v := (1 : Int32)) (by decide) ?_
          refine s_iadd C dL_law_1232 ?_
          refine s_tbI C bh dL_law_1233 hf (fun v243 hf => ?_)
          refine s_callV (rvf := fun x => some (.int x)) (st := []) (fr := 6) (lo := 134) (mc := 0) (ms := 0) C [11] wc_X11_chance wml_L_126 wim_X11_chance wsl_11_X11_chance dL_law_1234 (As := [.inl v243]) rfl hf (fun x h' hF => c_X11_chance _ _ _ _ _ (x, h') hF) rfl (Nat.le_of_ble_eq_true rfl) (room_ok hX (Nat.le_of_ble_eq_true rfl) (Nat.le_of_ble_eq_true rfl)) (cell_ok hX (by omega) (by omega)) (fun v245 h244 hf => ?_)
          refine s_aload_n C dL_law_1237 rfl ?_
          refine r_aload C dL_law_1238 rfl ?_
          refine s_iload_n C dL_law_1239 rfl ?_
          refine s_iconst C dL_law_1240 (v := (1 : Int32)) (by decide) ?_
          refine s_iadd C dL_law_1241 ?_
          refine s_tbI C bh dL_law_1242 hf (fun v246 hf => ?_)
          refine s_callV (rvf := fun x => some (.int x)) (st := [.int v245]) (fr := 5) (lo := 114) (mc := 0) (ms := 0) C [12] wc_X12_chance wml_L_129 wim_X12_chance wsl_12_X12_chance dL_law_1243 (As := [.inl v246]) rfl hf (fun x h' hF => c_X12_chance _ _ _ _ _ (x, h') hF) rfl (Nat.le_of_ble_eq_true rfl) (room_ok hX (Nat.le_of_ble_eq_true rfl) (Nat.le_of_ble_eq_true rfl)) (cell_ok hX (by omega) (by omega)) (fun v248 h247 hf => ?_)
          refine s_icmp_eq (tgt := 2084) C dL_law_1246 (by decide) hf (fun hf => ?_) (fun hf => ?_)
          · refine s_widen (c := 118 + 11 * k) (s := 41832 + 132 * k) (by omega) (by omega) ?_
            exact k2084 _ hf
          · refine s_iconst C dL_law_1249 (v := (0 : Int32)) (by decide) ?_
            exact s_lawret C E h1 dL_law_1250 hf (by omega) (by omega)
        refine s_ite hf (fun e hf => ?_) (fun nq28 hf => ?_)
        · refine s_tsw1 (tgt := 1251) C dL_law_33 e (by decide) (by decide) rfl (by decide) ?_
          refine s_aload_n C dL_law_1251 rfl ?_
          refine r_aload C dL_law_1252 rfl ?_
          refine s_iload_n C dL_law_1253 rfl ?_
          refine s_iconst C dL_law_1254 (v := (1 : Int32)) (by decide) ?_
          refine s_iadd C dL_law_1255 ?_
          refine s_tbI C bh dL_law_1256 hf (fun v249 hf => ?_)
          refine r_aload C dL_law_1257 rfl ?_
          refine s_iload_n C dL_law_1258 rfl ?_
          refine s_iconst C dL_law_1259 (v := (2 : Int32)) (by decide) ?_
          refine s_iadd C dL_law_1260 ?_
          refine s_tbI C bh dL_law_1261 hf (fun v250 hf => ?_)
          refine r_aload C dL_law_1262 rfl ?_
          refine s_iload_n C dL_law_1263 rfl ?_
          refine s_iconst C dL_law_1264 (v := (3 : Int32)) (by decide) ?_
          refine s_iadd C dL_law_1265 ?_
          refine s_tbI C bh dL_law_1266 hf (fun v251 hf => ?_)
          refine s_callV (rvf := fun x => some (.int x)) (st := []) (fr := 1) (lo := 22) (mc := 0) (ms := 0) C [11] wc_X11_tell wml_L_130 wim_X11_tell wsl_11_X11_tell dL_law_1267 (As := [.inl v249, .inl v250, .inl v251]) rfl hf (fun x h' hF => c_X11_tell _ _ _ _ _ _ _ (x, h') hF) rfl (Nat.le_of_ble_eq_true rfl) (room_ok hX (Nat.le_of_ble_eq_true rfl) (Nat.le_of_ble_eq_true rfl)) (cell_ok hX (by omega) (by omega)) (fun v253 h252 hf => ?_)
          refine s_aload_n C dL_law_1270 rfl ?_
          refine r_aload C dL_law_1271 rfl ?_
          refine s_iload_n C dL_law_1272 rfl ?_
          refine s_iconst C dL_law_1273 (v := (1 : Int32)) (by decide) ?_
          refine s_iadd C dL_law_1274 ?_
          refine s_tbI C bh dL_law_1275 hf (fun v254 hf => ?_)
          refine r_aload C dL_law_1276 rfl ?_
          refine s_iload_n C dL_law_1277 rfl ?_
          refine s_iconst C dL_law_1278 (v := (2 : Int32)) (by decide) ?_
          refine s_iadd C dL_law_1279 ?_
          refine s_tbI C bh dL_law_1280 hf (fun v255 hf => ?_)
          refine r_aload C dL_law_1281 rfl ?_
          refine s_iload_n C dL_law_1282 rfl ?_
          refine s_iconst C dL_law_1283 (v := (3 : Int32)) (by decide) ?_
          refine s_iadd C dL_law_1284 ?_
          refine s_tbI C bh dL_law_1285 hf (fun v256 hf => ?_)
          refine s_callV (rvf := fun x => some (.int x)) (st := [.int v253]) (fr := 3) (lo := 64) (mc := 0) (ms := 0) C [12] wc_X12_tell wml_L_133 wim_X12_tell wsl_12_X12_tell dL_law_1286 (As := [.inl v254, .inl v255, .inl v256]) rfl hf (fun x h' hF => c_X12_tell _ _ _ _ _ _ _ (x, h') hF) rfl (Nat.le_of_ble_eq_true rfl) (room_ok hX (Nat.le_of_ble_eq_true rfl) (Nat.le_of_ble_eq_true rfl)) (cell_ok hX (by omega) (by omega)) (fun v258 h257 hf => ?_)
          refine s_icmp_eq (tgt := 2084) C dL_law_1289 (by decide) hf (fun hf => ?_) (fun hf => ?_)
          · refine s_widen (c := 118 + 11 * k) (s := 41832 + 132 * k) (by omega) (by omega) ?_
            exact k2084 _ hf
          · refine s_iconst C dL_law_1292 (v := (0 : Int32)) (by decide) ?_
            exact s_lawret C E h1 dL_law_1293 hf (by omega) (by omega)
        refine s_ite hf (fun e hf => ?_) (fun nq29 hf => ?_)
        · refine s_tsw1 (tgt := 1294) C dL_law_33 e (by decide) (by decide) rfl (by decide) ?_
          refine s_aload_n C dL_law_1294 rfl ?_
          refine r_aload C dL_law_1295 rfl ?_
          refine s_iload_n C dL_law_1296 rfl ?_
          refine s_iconst C dL_law_1297 (v := (1 : Int32)) (by decide) ?_
          refine s_iadd C dL_law_1298 ?_
          refine s_tbI C bh dL_law_1299 hf (fun v259 hf => ?_)
          refine r_aload C dL_law_1300 rfl ?_
          refine s_iload_n C dL_law_1301 rfl ?_
          refine s_iconst C dL_law_1302 (v := (2 : Int32)) (by decide) ?_
          refine s_iadd C dL_law_1303 ?_
          refine s_tbI C bh dL_law_1304 hf (fun v260 hf => ?_)
          refine s_callV (rvf := fun x => some (.int x)) (st := []) (fr := 2) (lo := 45) (mc := 0) (ms := 0) C [11] wc_X11_jump wml_L_134 wim_X11_jump wsl_11_X11_jump dL_law_1305 (As := [.inl v259, .inl v260]) rfl hf (fun x h' hF => c_X11_jump _ _ _ _ _ _ (x, h') hF) rfl (Nat.le_of_ble_eq_true rfl) (room_ok hX (Nat.le_of_ble_eq_true rfl) (Nat.le_of_ble_eq_true rfl)) (cell_ok hX (by omega) (by omega)) (fun v262 h261 hf => ?_)
          refine s_aload_n C dL_law_1308 rfl ?_
          refine r_aload C dL_law_1309 rfl ?_
          refine s_iload_n C dL_law_1310 rfl ?_
          refine s_iconst C dL_law_1311 (v := (1 : Int32)) (by decide) ?_
          refine s_iadd C dL_law_1312 ?_
          refine s_tbI C bh dL_law_1313 hf (fun v263 hf => ?_)
          refine r_aload C dL_law_1314 rfl ?_
          refine s_iload_n C dL_law_1315 rfl ?_
          refine s_iconst C dL_law_1316 (v := (2 : Int32)) (by decide) ?_
          refine s_iadd C dL_law_1317 ?_
          refine s_tbI C bh dL_law_1318 hf (fun v264 hf => ?_)
          refine s_callV (rvf := fun x => some (.int x)) (st := [.int v262]) (fr := 3) (lo := 64) (mc := 0) (ms := 0) C [12] wc_X12_jump wml_L_137 wim_X12_jump wsl_12_X12_jump dL_law_1319 (As := [.inl v263, .inl v264]) rfl hf (fun x h' hF => c_X12_jump _ _ _ _ _ _ (x, h') hF) rfl (Nat.le_of_ble_eq_true rfl) (room_ok hX (Nat.le_of_ble_eq_true rfl) (Nat.le_of_ble_eq_true rfl)) (cell_ok hX (by omega) (by omega)) (fun v266 h265 hf => ?_)
          refine s_icmp_eq (tgt := 2084) C dL_law_1322 (by decide) hf (fun hf => ?_) (fun hf => ?_)
          · refine s_widen (c := 118 + 11 * k) (s := 41832 + 132 * k) (by omega) (by omega) ?_
            exact k2084 _ hf
          · refine s_iconst C dL_law_1325 (v := (0 : Int32)) (by decide) ?_
            exact s_lawret C E h1 dL_law_1326 hf (by omega) (by omega)
        refine s_ite hf (fun e hf => ?_) (fun nq30 hf => ?_)
        · refine s_tsw1 (tgt := 1327) C dL_law_33 e (by decide) (by decide) rfl (by decide) ?_
          refine s_aload_n C dL_law_1327 rfl ?_
          refine r_aload C dL_law_1328 rfl ?_
          refine s_iload_n C dL_law_1329 rfl ?_
          refine s_iconst C dL_law_1330 (v := (1 : Int32)) (by decide) ?_
          refine s_iadd C dL_law_1331 ?_
          refine s_tbI C bh dL_law_1332 hf (fun v267 hf => ?_)
          refine s_callV (rvf := fun x => some (.int x)) (st := []) (fr := 4) (lo := 90) (mc := 0) (ms := 0) C [11] wc_X11_chain wml_L_138 wim_X11_chain wsl_11_X11_chain dL_law_1333 (As := [.inl v267]) rfl hf (fun x h' hF => c_X11_chain _ _ _ _ _ (x, h') hF) rfl (Nat.le_of_ble_eq_true rfl) (room_ok hX (Nat.le_of_ble_eq_true rfl) (Nat.le_of_ble_eq_true rfl)) (cell_ok hX (by omega) (by omega)) (fun v269 h268 hf => ?_)
          refine s_aload_n C dL_law_1336 rfl ?_
          refine r_aload C dL_law_1337 rfl ?_
          refine s_iload_n C dL_law_1338 rfl ?_
          refine s_iconst C dL_law_1339 (v := (1 : Int32)) (by decide) ?_
          refine s_iadd C dL_law_1340 ?_
          refine s_tbI C bh dL_law_1341 hf (fun v270 hf => ?_)
          refine s_callV (rvf := fun x => some (.int x)) (st := [.int v269]) (fr := 3) (lo := 66) (mc := 0) (ms := 0) C [12] wc_X12_chain wml_L_141 wim_X12_chain wsl_12_X12_chain dL_law_1342 (As := [.inl v270]) rfl hf (fun x h' hF => c_X12_chain _ _ _ _ _ (x, h') hF) rfl (Nat.le_of_ble_eq_true rfl) (room_ok hX (Nat.le_of_ble_eq_true rfl) (Nat.le_of_ble_eq_true rfl)) (cell_ok hX (by omega) (by omega)) (fun v272 h271 hf => ?_)
          refine s_icmp_eq (tgt := 2084) C dL_law_1345 (by decide) hf (fun hf => ?_) (fun hf => ?_)
          · refine s_widen (c := 118 + 11 * k) (s := 41832 + 132 * k) (by omega) (by omega) ?_
            exact k2084 _ hf
          · refine s_iconst C dL_law_1348 (v := (0 : Int32)) (by decide) ?_
            exact s_lawret C E h1 dL_law_1349 hf (by omega) (by omega)
        refine s_ite hf (fun e hf => ?_) (fun nq31 hf => ?_)
        · refine s_tsw1 (tgt := 1350) C dL_law_33 e (by decide) (by decide) rfl (by decide) ?_
          refine s_aload_n C dL_law_1350 rfl ?_
          refine r_aload C dL_law_1351 rfl ?_
          refine s_iload_n C dL_law_1352 rfl ?_
          refine s_iconst C dL_law_1353 (v := (1 : Int32)) (by decide) ?_
          refine s_iadd C dL_law_1354 ?_
          refine s_tbI C bh dL_law_1355 hf (fun v273 hf => ?_)
          refine r_aload C dL_law_1356 rfl ?_
          refine s_iload_n C dL_law_1357 rfl ?_
          refine s_iconst C dL_law_1358 (v := (2 : Int32)) (by decide) ?_
          refine s_iadd C dL_law_1359 ?_
          refine s_tbI C bh dL_law_1360 hf (fun v274 hf => ?_)
          refine s_callV (rvf := fun x => some (.int x)) (st := []) (fr := 1) (lo := 22) (mc := 0) (ms := 0) C [11] wc_X11_asks wml_L_142 wim_X11_asks wsl_11_X11_asks dL_law_1361 (As := [.inl v273, .inl v274]) rfl hf (fun x h' hF => c_X11_asks _ _ _ _ _ _ (x, h') hF) rfl (Nat.le_of_ble_eq_true rfl) (room_ok hX (Nat.le_of_ble_eq_true rfl) (Nat.le_of_ble_eq_true rfl)) (cell_ok hX (by omega) (by omega)) (fun v276 h275 hf => ?_)
          refine s_aload_n C dL_law_1364 rfl ?_
          refine r_aload C dL_law_1365 rfl ?_
          refine s_iload_n C dL_law_1366 rfl ?_
          refine s_iconst C dL_law_1367 (v := (1 : Int32)) (by decide) ?_
          refine s_iadd C dL_law_1368 ?_
          refine s_tbI C bh dL_law_1369 hf (fun v277 hf => ?_)
          refine r_aload C dL_law_1370 rfl ?_
          refine s_iload_n C dL_law_1371 rfl ?_
          refine s_iconst C dL_law_1372 (v := (2 : Int32)) (by decide) ?_
          refine s_iadd C dL_law_1373 ?_
          refine s_tbI C bh dL_law_1374 hf (fun v278 hf => ?_)
          refine s_callV (rvf := fun x => some (.int x)) (st := [.int v276]) (fr := 3) (lo := 64) (mc := 0) (ms := 0) C [12] wc_X12_asks wml_L_145 wim_X12_asks wsl_12_X12_asks dL_law_1375 (As := [.inl v277, .inl v278]) rfl hf (fun x h' hF => c_X12_asks _ _ _ _ _ _ (x, h') hF) rfl (Nat.le_of_ble_eq_true rfl) (room_ok hX (Nat.le_of_ble_eq_true rfl) (Nat.le_of_ble_eq_true rfl)) (cell_ok hX (by omega) (by omega)) (fun v280 h279 hf => ?_)
          refine s_icmp_eq (tgt := 2084) C dL_law_1378 (by decide) hf (fun hf => ?_) (fun hf => ?_)
          · refine s_widen (c := 118 + 11 * k) (s := 41832 + 132 * k) (by omega) (by omega) ?_
            exact k2084 _ hf
          · refine s_iconst C dL_law_1381 (v := (0 : Int32)) (by decide) ?_
            exact s_lawret C E h1 dL_law_1382 hf (by omega) (by omega)
        refine s_ite hf (fun e hf => ?_) (fun nq32 hf => ?_)
        · refine s_tsw1 (tgt := 1383) C dL_law_33 e (by decide) (by decide) rfl (by decide) ?_
          refine s_aload_n C dL_law_1383 rfl ?_
          refine r_aload C dL_law_1384 rfl ?_
          refine s_iload_n C dL_law_1385 rfl ?_
          refine s_iconst C dL_law_1386 (v := (1 : Int32)) (by decide) ?_
          refine s_iadd C dL_law_1387 ?_
          refine s_tbI C bh dL_law_1388 hf (fun v281 hf => ?_)
          refine s_callV (rvf := fun x => some (.int x)) (st := []) (fr := 7) (lo := 170) (mc := 0) (ms := 0) C [11] wc_X11_taker wml_L_146 wim_X11_taker wsl_11_X11_taker dL_law_1389 (As := [.inl v281]) rfl hf (fun x h' hF => c_X11_taker _ _ _ _ _ (x, h') hF) rfl (Nat.le_of_ble_eq_true rfl) (room_ok hX (Nat.le_of_ble_eq_true rfl) (Nat.le_of_ble_eq_true rfl)) (cell_ok hX (by omega) (by omega)) (fun v283 h282 hf => ?_)
          refine s_aload_n C dL_law_1392 rfl ?_
          refine r_aload C dL_law_1393 rfl ?_
          refine s_iload_n C dL_law_1394 rfl ?_
          refine s_iconst C dL_law_1395 (v := (1 : Int32)) (by decide) ?_
          refine s_iadd C dL_law_1396 ?_
          refine s_tbI C bh dL_law_1397 hf (fun v284 hf => ?_)
          refine s_callV (rvf := fun x => some (.int x)) (st := [.int v283]) (fr := 8) (lo := 179) (mc := 0) (ms := 0) C [12] wc_X12_taker wml_L_149 wim_X12_taker wsl_12_X12_taker dL_law_1398 (As := [.inl v284]) rfl hf (fun x h' hF => c_X12_taker _ _ _ _ _ (x, h') hF) rfl (Nat.le_of_ble_eq_true rfl) (room_ok hX (Nat.le_of_ble_eq_true rfl) (Nat.le_of_ble_eq_true rfl)) (cell_ok hX (by omega) (by omega)) (fun v286 h285 hf => ?_)
          refine s_icmp_eq (tgt := 2084) C dL_law_1401 (by decide) hf (fun hf => ?_) (fun hf => ?_)
          · refine s_widen (c := 118 + 11 * k) (s := 41832 + 132 * k) (by omega) (by omega) ?_
            exact k2084 _ hf
          · refine s_iconst C dL_law_1404 (v := (0 : Int32)) (by decide) ?_
            exact s_lawret C E h1 dL_law_1405 hf (by omega) (by omega)
        refine s_ite hf (fun e hf => ?_) (fun nq33 hf => ?_)
        · refine s_tsw1 (tgt := 1406) C dL_law_33 e (by decide) (by decide) rfl (by decide) ?_
          refine s_aload_n C dL_law_1406 rfl ?_
          refine r_aload C dL_law_1407 rfl ?_
          refine s_iload_n C dL_law_1408 rfl ?_
          refine s_iconst C dL_law_1409 (v := (1 : Int32)) (by decide) ?_
          refine s_iadd C dL_law_1410 ?_
          refine s_tbI C bh dL_law_1411 hf (fun v287 hf => ?_)
          refine s_callV (rvf := fun x => some (.int x)) (st := []) (fr := 7) (lo := 170) (mc := 0) (ms := 0) C [11] wc_X11_take wml_L_150 wim_X11_take wsl_11_X11_take dL_law_1412 (As := [.inl v287]) rfl hf (fun x h' hF => c_X11_take _ _ _ _ _ (x, h') hF) rfl (Nat.le_of_ble_eq_true rfl) (room_ok hX (Nat.le_of_ble_eq_true rfl) (Nat.le_of_ble_eq_true rfl)) (cell_ok hX (by omega) (by omega)) (fun v289 h288 hf => ?_)
          refine s_aload_n C dL_law_1415 rfl ?_
          refine r_aload C dL_law_1416 rfl ?_
          refine s_iload_n C dL_law_1417 rfl ?_
          refine s_iconst C dL_law_1418 (v := (1 : Int32)) (by decide) ?_
          refine s_iadd C dL_law_1419 ?_
          refine s_tbI C bh dL_law_1420 hf (fun v290 hf => ?_)
          refine s_callV (rvf := fun x => some (.int x)) (st := [.int v289]) (fr := 8) (lo := 179) (mc := 0) (ms := 0) C [12] wc_X12_take wml_L_153 wim_X12_take wsl_12_X12_take dL_law_1421 (As := [.inl v290]) rfl hf (fun x h' hF => c_X12_take _ _ _ _ _ (x, h') hF) rfl (Nat.le_of_ble_eq_true rfl) (room_ok hX (Nat.le_of_ble_eq_true rfl) (Nat.le_of_ble_eq_true rfl)) (cell_ok hX (by omega) (by omega)) (fun v292 h291 hf => ?_)
          refine s_icmp_eq (tgt := 2084) C dL_law_1424 (by decide) hf (fun hf => ?_) (fun hf => ?_)
          · refine s_widen (c := 118 + 11 * k) (s := 41832 + 132 * k) (by omega) (by omega) ?_
            exact k2084 _ hf
          · refine s_iconst C dL_law_1427 (v := (0 : Int32)) (by decide) ?_
            exact s_lawret C E h1 dL_law_1428 hf (by omega) (by omega)
        refine s_ite hf (fun e hf => ?_) (fun nq34 hf => ?_)
        · refine s_tsw1 (tgt := 1429) C dL_law_33 e (by decide) (by decide) rfl (by decide) ?_
          refine s_aload_n C dL_law_1429 rfl ?_
          refine r_aload C dL_law_1430 rfl ?_
          refine s_iload_n C dL_law_1431 rfl ?_
          refine s_iconst C dL_law_1432 (v := (1 : Int32)) (by decide) ?_
          refine s_iadd C dL_law_1433 ?_
          refine s_tbI C bh dL_law_1434 hf (fun v293 hf => ?_)
          refine s_callV (rvf := fun x => some (.int x)) (st := []) (fr := 7) (lo := 163) (mc := 0) (ms := 0) C [11] wc_X11_toPut wml_L_154 wim_X11_toPut wsl_11_X11_toPut dL_law_1435 (As := [.inl v293]) rfl hf (fun x h' hF => c_X11_toPut _ _ _ _ _ (x, h') hF) rfl (Nat.le_of_ble_eq_true rfl) (room_ok hX (Nat.le_of_ble_eq_true rfl) (Nat.le_of_ble_eq_true rfl)) (cell_ok hX (by omega) (by omega)) (fun v295 h294 hf => ?_)
          refine s_aload_n C dL_law_1438 rfl ?_
          refine r_aload C dL_law_1439 rfl ?_
          refine s_iload_n C dL_law_1440 rfl ?_
          refine s_iconst C dL_law_1441 (v := (1 : Int32)) (by decide) ?_
          refine s_iadd C dL_law_1442 ?_
          refine s_tbI C bh dL_law_1443 hf (fun v296 hf => ?_)
          refine s_callV (rvf := fun x => some (.int x)) (st := [.int v295]) (fr := 5) (lo := 118) (mc := 0) (ms := 0) C [12] wc_X12_toPut wml_L_157 wim_X12_toPut wsl_12_X12_toPut dL_law_1444 (As := [.inl v296]) rfl hf (fun x h' hF => c_X12_toPut _ _ _ _ _ (x, h') hF) rfl (Nat.le_of_ble_eq_true rfl) (room_ok hX (Nat.le_of_ble_eq_true rfl) (Nat.le_of_ble_eq_true rfl)) (cell_ok hX (by omega) (by omega)) (fun v298 h297 hf => ?_)
          refine s_icmp_eq (tgt := 2084) C dL_law_1447 (by decide) hf (fun hf => ?_) (fun hf => ?_)
          · refine s_widen (c := 118 + 11 * k) (s := 41832 + 132 * k) (by omega) (by omega) ?_
            exact k2084 _ hf
          · refine s_iconst C dL_law_1450 (v := (0 : Int32)) (by decide) ?_
            exact s_lawret C E h1 dL_law_1451 hf (by omega) (by omega)
        refine s_ite hf (fun e hf => ?_) (fun nq35 hf => ?_)
        · refine s_tsw1 (tgt := 1452) C dL_law_33 e (by decide) (by decide) rfl (by decide) ?_
          refine s_aload_n C dL_law_1452 rfl ?_
          refine s_callV (rvf := fun x => some (.int x)) (st := []) (fr := 7) (lo := 163) (mc := 0) (ms := 0) C [11] wc_X11_putAll wml_L_158 wim_X11_putAll wsl_11_X11_putAll dL_law_1453 (As := []) rfl hf (fun x h' hF => c_X11_putAll _ _ _ _ (x, h') hF) rfl (Nat.le_of_ble_eq_true rfl) (room_ok hX (Nat.le_of_ble_eq_true rfl) (Nat.le_of_ble_eq_true rfl)) (cell_ok hX (by omega) (by omega)) (fun v300 h299 hf => ?_)
          refine s_aload_n C dL_law_1456 rfl ?_
          refine s_callV (rvf := fun x => some (.int x)) (st := [.int v300]) (fr := 5) (lo := 118) (mc := 0) (ms := 0) C [12] wc_X12_putAll wml_L_162 wim_X12_putAll wsl_12_X12_putAll dL_law_1457 (As := []) rfl hf (fun x h' hF => c_X12_putAll _ _ _ _ (x, h') hF) rfl (Nat.le_of_ble_eq_true rfl) (room_ok hX (Nat.le_of_ble_eq_true rfl) (Nat.le_of_ble_eq_true rfl)) (cell_ok hX (by omega) (by omega)) (fun v302 h301 hf => ?_)
          refine s_icmp_eq (tgt := 2084) C dL_law_1460 (by decide) hf (fun hf => ?_) (fun hf => ?_)
          · refine s_widen (c := 118 + 11 * k) (s := 41832 + 132 * k) (by omega) (by omega) ?_
            exact k2084 _ hf
          · refine s_iconst C dL_law_1463 (v := (0 : Int32)) (by decide) ?_
            exact s_lawret C E h1 dL_law_1464 hf (by omega) (by omega)
        refine s_ite hf (fun e hf => ?_) (fun nq36 hf => ?_)
        · refine s_tsw1 (tgt := 1465) C dL_law_33 e (by decide) (by decide) rfl (by decide) ?_
          refine s_aload_n C dL_law_1465 rfl ?_
          refine r_aload C dL_law_1466 rfl ?_
          refine s_iload_n C dL_law_1467 rfl ?_
          refine s_iconst C dL_law_1468 (v := (1 : Int32)) (by decide) ?_
          refine s_iadd C dL_law_1469 ?_
          refine s_tbI C bh dL_law_1470 hf (fun v303 hf => ?_)
          refine r_aload C dL_law_1471 rfl ?_
          refine s_iload_n C dL_law_1472 rfl ?_
          refine s_iconst C dL_law_1473 (v := (2 : Int32)) (by decide) ?_
          refine s_iadd C dL_law_1474 ?_
          refine s_tbI C bh dL_law_1475 hf (fun v304 hf => ?_)
          refine r_aload C dL_law_1476 rfl ?_
          refine s_iload_n C dL_law_1477 rfl ?_
          refine s_iconst C dL_law_1478 (v := (3 : Int32)) (by decide) ?_
          refine s_iadd C dL_law_1479 ?_
          refine s_tbI C bh dL_law_1480 hf (fun v305 hf => ?_)
          refine s_callV (rvf := fun x => some (.int x)) (st := []) (fr := 1) (lo := 23) (mc := 0) (ms := 0) C [11] wc_X11_wish wml_L_163 wim_X11_wish wsl_11_X11_wish dL_law_1481 (As := [.inl v303, .inl v304, .inl v305]) rfl hf (fun x h' hF => c_X11_wish _ _ _ _ _ _ _ (x, h') hF) rfl (Nat.le_of_ble_eq_true rfl) (room_ok hX (Nat.le_of_ble_eq_true rfl) (Nat.le_of_ble_eq_true rfl)) (cell_ok hX (by omega) (by omega)) (fun v307 h306 hf => ?_)
          refine s_aload_n C dL_law_1484 rfl ?_
          refine r_aload C dL_law_1485 rfl ?_
          refine s_iload_n C dL_law_1486 rfl ?_
          refine s_iconst C dL_law_1487 (v := (1 : Int32)) (by decide) ?_
          refine s_iadd C dL_law_1488 ?_
          refine s_tbI C bh dL_law_1489 hf (fun v308 hf => ?_)
          refine r_aload C dL_law_1490 rfl ?_
          refine s_iload_n C dL_law_1491 rfl ?_
          refine s_iconst C dL_law_1492 (v := (2 : Int32)) (by decide) ?_
          refine s_iadd C dL_law_1493 ?_
          refine s_tbI C bh dL_law_1494 hf (fun v309 hf => ?_)
          refine r_aload C dL_law_1495 rfl ?_
          refine s_iload_n C dL_law_1496 rfl ?_
          refine s_iconst C dL_law_1497 (v := (3 : Int32)) (by decide) ?_
          refine s_iadd C dL_law_1498 ?_
          refine s_tbI C bh dL_law_1499 hf (fun v310 hf => ?_)
          refine s_callV (rvf := fun x => some (.int x)) (st := [.int v307]) (fr := 4) (lo := 85) (mc := 0) (ms := 0) C [12] wc_X12_wish wml_L_166 wim_X12_wish wsl_12_X12_wish dL_law_1500 (As := [.inl v308, .inl v309, .inl v310]) rfl hf (fun x h' hF => c_X12_wish _ _ _ _ _ _ _ (x, h') hF) rfl (Nat.le_of_ble_eq_true rfl) (room_ok hX (Nat.le_of_ble_eq_true rfl) (Nat.le_of_ble_eq_true rfl)) (cell_ok hX (by omega) (by omega)) (fun v312 h311 hf => ?_)
          refine s_icmp_eq (tgt := 2084) C dL_law_1503 (by decide) hf (fun hf => ?_) (fun hf => ?_)
          · refine s_widen (c := 118 + 11 * k) (s := 41832 + 132 * k) (by omega) (by omega) ?_
            exact k2084 _ hf
          · refine s_iconst C dL_law_1506 (v := (0 : Int32)) (by decide) ?_
            exact s_lawret C E h1 dL_law_1507 hf (by omega) (by omega)
        refine s_ite hf (fun e hf => ?_) (fun nq37 hf => ?_)
        · refine s_tsw1 (tgt := 1508) C dL_law_33 e (by decide) (by decide) rfl (by decide) ?_
          refine s_aload_n C dL_law_1508 rfl ?_
          refine r_aload C dL_law_1509 rfl ?_
          refine s_iload_n C dL_law_1510 rfl ?_
          refine s_iconst C dL_law_1511 (v := (1 : Int32)) (by decide) ?_
          refine s_iadd C dL_law_1512 ?_
          refine s_tbI C bh dL_law_1513 hf (fun v313 hf => ?_)
          refine r_aload C dL_law_1514 rfl ?_
          refine s_iload_n C dL_law_1515 rfl ?_
          refine s_iconst C dL_law_1516 (v := (2 : Int32)) (by decide) ?_
          refine s_iadd C dL_law_1517 ?_
          refine s_tbI C bh dL_law_1518 hf (fun v314 hf => ?_)
          refine s_callV (rvf := fun x => some (.int x)) (st := []) (fr := 106) (lo := 6137) (mc := 0) (ms := 0) C [11] wc_X11_walk wml_L_167 wim_X11_walk wsl_11_X11_walk dL_law_1519 (As := [.inl v313, .inl v314]) rfl hf (fun x h' hF => c_X11_walk _ _ _ _ _ _ (x, h') hF) rfl (Nat.le_of_ble_eq_true rfl) (room_ok hX (Nat.le_of_ble_eq_true rfl) (Nat.le_of_ble_eq_true rfl)) (cell_ok hX (by omega) (by omega)) (fun v316 h315 hf => ?_)
          refine s_aload_n C dL_law_1522 rfl ?_
          refine r_aload C dL_law_1523 rfl ?_
          refine s_iload_n C dL_law_1524 rfl ?_
          refine s_iconst C dL_law_1525 (v := (1 : Int32)) (by decide) ?_
          refine s_iadd C dL_law_1526 ?_
          refine s_tbI C bh dL_law_1527 hf (fun v317 hf => ?_)
          refine r_aload C dL_law_1528 rfl ?_
          refine s_iload_n C dL_law_1529 rfl ?_
          refine s_iconst C dL_law_1530 (v := (2 : Int32)) (by decide) ?_
          refine s_iadd C dL_law_1531 ?_
          refine s_tbI C bh dL_law_1532 hf (fun v318 hf => ?_)
          refine s_callV (rvf := fun x => some (.int x)) (st := [.int v316]) (fr := 105) (lo := 6114) (mc := 0) (ms := 0) C [12] wc_X12_walk wml_L_170 wim_X12_walk wsl_12_X12_walk dL_law_1533 (As := [.inl v317, .inl v318]) rfl hf (fun x h' hF => c_X12_walk _ _ _ _ _ _ (x, h') hF) rfl (Nat.le_of_ble_eq_true rfl) (room_ok hX (Nat.le_of_ble_eq_true rfl) (Nat.le_of_ble_eq_true rfl)) (cell_ok hX (by omega) (by omega)) (fun v320 h319 hf => ?_)
          refine s_icmp_eq (tgt := 2084) C dL_law_1536 (by decide) hf (fun hf => ?_) (fun hf => ?_)
          · refine s_widen (c := 118 + 11 * k) (s := 41832 + 132 * k) (by omega) (by omega) ?_
            exact k2084 _ hf
          · refine s_iconst C dL_law_1539 (v := (0 : Int32)) (by decide) ?_
            exact s_lawret C E h1 dL_law_1540 hf (by omega) (by omega)
        refine s_ite hf (fun e hf => ?_) (fun nq38 hf => ?_)
        · refine s_tsw1 (tgt := 1541) C dL_law_33 e (by decide) (by decide) rfl (by decide) ?_
          refine s_aload_n C dL_law_1541 rfl ?_
          refine r_aload C dL_law_1542 rfl ?_
          refine s_iload_n C dL_law_1543 rfl ?_
          refine s_iconst C dL_law_1544 (v := (1 : Int32)) (by decide) ?_
          refine s_iadd C dL_law_1545 ?_
          refine s_tbI C bh dL_law_1546 hf (fun v321 hf => ?_)
          refine s_callV (rvf := fun x => some (.int x)) (st := []) (fr := 0) (lo := 0) (mc := 0) (ms := 0) C [11] wc_X11_walked wml_L_171 wim_X11_walked wsl_11_X11_walked dL_law_1547 (As := [.inl v321]) rfl hf (fun x h' hF => c_X11_walked _ _ _ _ _ (x, h') hF) rfl (Nat.le_of_ble_eq_true rfl) (room_ok hX (Nat.le_of_ble_eq_true rfl) (Nat.le_of_ble_eq_true rfl)) (cell_ok hX (by omega) (by omega)) (fun v323 h322 hf => ?_)
          refine s_aload_n C dL_law_1550 rfl ?_
          refine r_aload C dL_law_1551 rfl ?_
          refine s_iload_n C dL_law_1552 rfl ?_
          refine s_iconst C dL_law_1553 (v := (1 : Int32)) (by decide) ?_
          refine s_iadd C dL_law_1554 ?_
          refine s_tbI C bh dL_law_1555 hf (fun v324 hf => ?_)
          refine s_callV (rvf := fun x => some (.int x)) (st := [.int v323]) (fr := 1) (lo := 22) (mc := 0) (ms := 0) C [12] wc_X12_walked wml_L_174 wim_X12_walked wsl_12_X12_walked dL_law_1556 (As := [.inl v324]) rfl hf (fun x h' hF => c_X12_walked _ _ _ _ _ (x, h') hF) rfl (Nat.le_of_ble_eq_true rfl) (room_ok hX (Nat.le_of_ble_eq_true rfl) (Nat.le_of_ble_eq_true rfl)) (cell_ok hX (by omega) (by omega)) (fun v326 h325 hf => ?_)
          refine s_icmp_eq (tgt := 2084) C dL_law_1559 (by decide) hf (fun hf => ?_) (fun hf => ?_)
          · refine s_widen (c := 118 + 11 * k) (s := 41832 + 132 * k) (by omega) (by omega) ?_
            exact k2084 _ hf
          · refine s_iconst C dL_law_1562 (v := (0 : Int32)) (by decide) ?_
            exact s_lawret C E h1 dL_law_1563 hf (by omega) (by omega)
        refine s_ite hf (fun e hf => ?_) (fun nq39 hf => ?_)
        · refine s_tsw1 (tgt := 1564) C dL_law_33 e (by decide) (by decide) rfl (by decide) ?_
          refine s_aload_n C dL_law_1564 rfl ?_
          refine r_aload C dL_law_1565 rfl ?_
          refine s_iload_n C dL_law_1566 rfl ?_
          refine s_iconst C dL_law_1567 (v := (1 : Int32)) (by decide) ?_
          refine s_iadd C dL_law_1568 ?_
          refine s_tbI C bh dL_law_1569 hf (fun v327 hf => ?_)
          refine r_aload C dL_law_1570 rfl ?_
          refine s_iload_n C dL_law_1571 rfl ?_
          refine s_iconst C dL_law_1572 (v := (2 : Int32)) (by decide) ?_
          refine s_iadd C dL_law_1573 ?_
          refine s_tbI C bh dL_law_1574 hf (fun v328 hf => ?_)
          refine r_aload C dL_law_1575 rfl ?_
          refine s_iload_n C dL_law_1576 rfl ?_
          refine s_iconst C dL_law_1577 (v := (3 : Int32)) (by decide) ?_
          refine s_iadd C dL_law_1578 ?_
          refine s_tbI C bh dL_law_1579 hf (fun v329 hf => ?_)
          refine s_callV (rvf := fun x => some (.int x)) (st := []) (fr := 5) (lo := 113) (mc := 0) (ms := 0) C [11] wc_X11_judge wml_L_175 wim_X11_judge wsl_11_X11_judge dL_law_1580 (As := [.inl v327, .inl v328, .inl v329]) rfl hf (fun x h' hF => c_X11_judge _ _ _ _ _ _ _ (x, h') hF) rfl (Nat.le_of_ble_eq_true rfl) (room_ok hX (Nat.le_of_ble_eq_true rfl) (Nat.le_of_ble_eq_true rfl)) (cell_ok hX (by omega) (by omega)) (fun v331 h330 hf => ?_)
          refine s_aload_n C dL_law_1583 rfl ?_
          refine r_aload C dL_law_1584 rfl ?_
          refine s_iload_n C dL_law_1585 rfl ?_
          refine s_iconst C dL_law_1586 (v := (1 : Int32)) (by decide) ?_
          refine s_iadd C dL_law_1587 ?_
          refine s_tbI C bh dL_law_1588 hf (fun v332 hf => ?_)
          refine r_aload C dL_law_1589 rfl ?_
          refine s_iload_n C dL_law_1590 rfl ?_
          refine s_iconst C dL_law_1591 (v := (2 : Int32)) (by decide) ?_
          refine s_iadd C dL_law_1592 ?_
          refine s_tbI C bh dL_law_1593 hf (fun v333 hf => ?_)
          refine r_aload C dL_law_1594 rfl ?_
          refine s_iload_n C dL_law_1595 rfl ?_
          refine s_iconst C dL_law_1596 (v := (3 : Int32)) (by decide) ?_
          refine s_iadd C dL_law_1597 ?_
          refine s_tbI C bh dL_law_1598 hf (fun v334 hf => ?_)
          refine s_callV (rvf := fun x => some (.int x)) (st := [.int v331]) (fr := 4) (lo := 87) (mc := 0) (ms := 0) C [12] wc_X12_judge wml_L_178 wim_X12_judge wsl_12_X12_judge dL_law_1599 (As := [.inl v332, .inl v333, .inl v334]) rfl hf (fun x h' hF => c_X12_judge _ _ _ _ _ _ _ (x, h') hF) rfl (Nat.le_of_ble_eq_true rfl) (room_ok hX (Nat.le_of_ble_eq_true rfl) (Nat.le_of_ble_eq_true rfl)) (cell_ok hX (by omega) (by omega)) (fun v336 h335 hf => ?_)
          refine s_icmp_eq (tgt := 2084) C dL_law_1602 (by decide) hf (fun hf => ?_) (fun hf => ?_)
          · refine s_widen (c := 118 + 11 * k) (s := 41832 + 132 * k) (by omega) (by omega) ?_
            exact k2084 _ hf
          · refine s_iconst C dL_law_1605 (v := (0 : Int32)) (by decide) ?_
            exact s_lawret C E h1 dL_law_1606 hf (by omega) (by omega)
        refine s_ite hf (fun e hf => ?_) (fun nq40 hf => ?_)
        · refine s_tsw1 (tgt := 1607) C dL_law_33 e (by decide) (by decide) rfl (by decide) ?_
          refine s_aload_n C dL_law_1607 rfl ?_
          refine r_aload C dL_law_1608 rfl ?_
          refine s_iload_n C dL_law_1609 rfl ?_
          refine s_iconst C dL_law_1610 (v := (1 : Int32)) (by decide) ?_
          refine s_iadd C dL_law_1611 ?_
          refine s_tbI C bh dL_law_1612 hf (fun v337 hf => ?_)
          refine r_aload C dL_law_1613 rfl ?_
          refine s_iload_n C dL_law_1614 rfl ?_
          refine s_iconst C dL_law_1615 (v := (2 : Int32)) (by decide) ?_
          refine s_iadd C dL_law_1616 ?_
          refine s_tbI C bh dL_law_1617 hf (fun v338 hf => ?_)
          refine s_callV (rvf := fun x => some (.int x)) (st := []) (fr := 1) (lo := 22) (mc := 0) (ms := 0) C [11] wc_X11_lookAt wml_L_179 wim_X11_lookAt wsl_11_X11_lookAt dL_law_1618 (As := [.inl v337, .inl v338]) rfl hf (fun x h' hF => c_X11_lookAt _ _ _ _ _ _ (x, h') hF) rfl (Nat.le_of_ble_eq_true rfl) (room_ok hX (Nat.le_of_ble_eq_true rfl) (Nat.le_of_ble_eq_true rfl)) (cell_ok hX (by omega) (by omega)) (fun v340 h339 hf => ?_)
          refine s_aload_n C dL_law_1621 rfl ?_
          refine r_aload C dL_law_1622 rfl ?_
          refine s_iload_n C dL_law_1623 rfl ?_
          refine s_iconst C dL_law_1624 (v := (1 : Int32)) (by decide) ?_
          refine s_iadd C dL_law_1625 ?_
          refine s_tbI C bh dL_law_1626 hf (fun v341 hf => ?_)
          refine r_aload C dL_law_1627 rfl ?_
          refine s_iload_n C dL_law_1628 rfl ?_
          refine s_iconst C dL_law_1629 (v := (2 : Int32)) (by decide) ?_
          refine s_iadd C dL_law_1630 ?_
          refine s_tbI C bh dL_law_1631 hf (fun v342 hf => ?_)
          refine s_callV (rvf := fun x => some (.int x)) (st := [.int v340]) (fr := 5) (lo := 106) (mc := 0) (ms := 0) C [12] wc_X12_lookAt wml_L_182 wim_X12_lookAt wsl_12_X12_lookAt dL_law_1632 (As := [.inl v341, .inl v342]) rfl hf (fun x h' hF => c_X12_lookAt _ _ _ _ _ _ (x, h') hF) rfl (Nat.le_of_ble_eq_true rfl) (room_ok hX (Nat.le_of_ble_eq_true rfl) (Nat.le_of_ble_eq_true rfl)) (cell_ok hX (by omega) (by omega)) (fun v344 h343 hf => ?_)
          refine s_icmp_eq (tgt := 2084) C dL_law_1635 (by decide) hf (fun hf => ?_) (fun hf => ?_)
          · refine s_widen (c := 118 + 11 * k) (s := 41832 + 132 * k) (by omega) (by omega) ?_
            exact k2084 _ hf
          · refine s_iconst C dL_law_1638 (v := (0 : Int32)) (by decide) ?_
            exact s_lawret C E h1 dL_law_1639 hf (by omega) (by omega)
        refine s_ite hf (fun e hf => ?_) (fun nq41 hf => ?_)
        · refine s_tsw1 (tgt := 1640) C dL_law_33 e (by decide) (by decide) rfl (by decide) ?_
          refine s_aload_n C dL_law_1640 rfl ?_
          refine r_aload C dL_law_1641 rfl ?_
          refine s_iload_n C dL_law_1642 rfl ?_
          refine s_iconst C dL_law_1643 (v := (1 : Int32)) (by decide) ?_
          refine s_iadd C dL_law_1644 ?_
          refine s_tbI C bh dL_law_1645 hf (fun v345 hf => ?_)
          refine s_callV (rvf := fun x => some (.int x)) (st := []) (fr := 3) (lo := 73) (mc := 0) (ms := 0) C [11] wc_X11_nobody wml_L_183 wim_X11_nobody wsl_11_X11_nobody dL_law_1646 (As := [.inl v345]) rfl hf (fun x h' hF => c_X11_nobody _ _ _ _ _ (x, h') hF) rfl (Nat.le_of_ble_eq_true rfl) (room_ok hX (Nat.le_of_ble_eq_true rfl) (Nat.le_of_ble_eq_true rfl)) (cell_ok hX (by omega) (by omega)) (fun v347 h346 hf => ?_)
          refine s_aload_n C dL_law_1649 rfl ?_
          refine r_aload C dL_law_1650 rfl ?_
          refine s_iload_n C dL_law_1651 rfl ?_
          refine s_iconst C dL_law_1652 (v := (1 : Int32)) (by decide) ?_
          refine s_iadd C dL_law_1653 ?_
          refine s_tbI C bh dL_law_1654 hf (fun v348 hf => ?_)
          refine s_callV (rvf := fun x => some (.int x)) (st := [.int v347]) (fr := 5) (lo := 106) (mc := 0) (ms := 0) C [12] wc_X12_nobody wml_L_186 wim_X12_nobody wsl_12_X12_nobody dL_law_1655 (As := [.inl v348]) rfl hf (fun x h' hF => c_X12_nobody _ _ _ _ _ (x, h') hF) rfl (Nat.le_of_ble_eq_true rfl) (room_ok hX (Nat.le_of_ble_eq_true rfl) (Nat.le_of_ble_eq_true rfl)) (cell_ok hX (by omega) (by omega)) (fun v350 h349 hf => ?_)
          refine s_icmp_eq (tgt := 2084) C dL_law_1658 (by decide) hf (fun hf => ?_) (fun hf => ?_)
          · refine s_widen (c := 118 + 11 * k) (s := 41832 + 132 * k) (by omega) (by omega) ?_
            exact k2084 _ hf
          · refine s_iconst C dL_law_1661 (v := (0 : Int32)) (by decide) ?_
            exact s_lawret C E h1 dL_law_1662 hf (by omega) (by omega)
        refine s_ite hf (fun e hf => ?_) (fun nq42 hf => ?_)
        · refine s_tsw1 (tgt := 1663) C dL_law_33 e (by decide) (by decide) rfl (by decide) ?_
          refine s_aload_n C dL_law_1663 rfl ?_
          refine r_aload C dL_law_1664 rfl ?_
          refine s_iload_n C dL_law_1665 rfl ?_
          refine s_iconst C dL_law_1666 (v := (1 : Int32)) (by decide) ?_
          refine s_iadd C dL_law_1667 ?_
          refine s_tbI C bh dL_law_1668 hf (fun v351 hf => ?_)
          refine r_aload C dL_law_1669 rfl ?_
          refine s_iload_n C dL_law_1670 rfl ?_
          refine s_iconst C dL_law_1671 (v := (2 : Int32)) (by decide) ?_
          refine s_iadd C dL_law_1672 ?_
          refine s_tbI C bh dL_law_1673 hf (fun v352 hf => ?_)
          refine r_aload C dL_law_1674 rfl ?_
          refine s_iload_n C dL_law_1675 rfl ?_
          refine s_iconst C dL_law_1676 (v := (3 : Int32)) (by decide) ?_
          refine s_iadd C dL_law_1677 ?_
          refine s_tbI C bh dL_law_1678 hf (fun v353 hf => ?_)
          refine r_aload C dL_law_1679 rfl ?_
          refine s_iload_n C dL_law_1680 rfl ?_
          refine s_iconst C dL_law_1681 (v := (4 : Int32)) (by decide) ?_
          refine s_iadd C dL_law_1682 ?_
          refine s_tbI C bh dL_law_1683 hf (fun v354 hf => ?_)
          refine s_callV (rvf := fun x => some (.int x)) (st := []) (fr := 7) (lo := 169) (mc := 0) (ms := 0) C [11] wc_X11_rank wml_L_187 wim_X11_rank wsl_11_X11_rank dL_law_1684 (As := [.inl v351, .inl v352, .inl v353, .inl v354]) rfl hf (fun x h' hF => c_X11_rank _ _ _ _ _ _ _ _ (x, h') hF) rfl (Nat.le_of_ble_eq_true rfl) (room_ok hX (Nat.le_of_ble_eq_true rfl) (Nat.le_of_ble_eq_true rfl)) (cell_ok hX (by omega) (by omega)) (fun v356 h355 hf => ?_)
          refine s_aload_n C dL_law_1687 rfl ?_
          refine r_aload C dL_law_1688 rfl ?_
          refine s_iload_n C dL_law_1689 rfl ?_
          refine s_iconst C dL_law_1690 (v := (1 : Int32)) (by decide) ?_
          refine s_iadd C dL_law_1691 ?_
          refine s_tbI C bh dL_law_1692 hf (fun v357 hf => ?_)
          refine r_aload C dL_law_1693 rfl ?_
          refine s_iload_n C dL_law_1694 rfl ?_
          refine s_iconst C dL_law_1695 (v := (2 : Int32)) (by decide) ?_
          refine s_iadd C dL_law_1696 ?_
          refine s_tbI C bh dL_law_1697 hf (fun v358 hf => ?_)
          refine r_aload C dL_law_1698 rfl ?_
          refine s_iload_n C dL_law_1699 rfl ?_
          refine s_iconst C dL_law_1700 (v := (3 : Int32)) (by decide) ?_
          refine s_iadd C dL_law_1701 ?_
          refine s_tbI C bh dL_law_1702 hf (fun v359 hf => ?_)
          refine r_aload C dL_law_1703 rfl ?_
          refine s_iload_n C dL_law_1704 rfl ?_
          refine s_iconst C dL_law_1705 (v := (4 : Int32)) (by decide) ?_
          refine s_iadd C dL_law_1706 ?_
          refine s_tbI C bh dL_law_1707 hf (fun v360 hf => ?_)
          refine s_callV (rvf := fun x => some (.int x)) (st := [.int v356]) (fr := 8) (lo := 177) (mc := 0) (ms := 0) C [12] wc_X12_rank wml_L_190 wim_X12_rank wsl_12_X12_rank dL_law_1708 (As := [.inl v357, .inl v358, .inl v359, .inl v360]) rfl hf (fun x h' hF => c_X12_rank _ _ _ _ _ _ _ _ (x, h') hF) rfl (Nat.le_of_ble_eq_true rfl) (room_ok hX (Nat.le_of_ble_eq_true rfl) (Nat.le_of_ble_eq_true rfl)) (cell_ok hX (by omega) (by omega)) (fun v362 h361 hf => ?_)
          refine s_icmp_eq (tgt := 2084) C dL_law_1711 (by decide) hf (fun hf => ?_) (fun hf => ?_)
          · refine s_widen (c := 118 + 11 * k) (s := 41832 + 132 * k) (by omega) (by omega) ?_
            exact k2084 _ hf
          · refine s_iconst C dL_law_1714 (v := (0 : Int32)) (by decide) ?_
            exact s_lawret C E h1 dL_law_1715 hf (by omega) (by omega)
        refine s_ite hf (fun e hf => ?_) (fun nq43 hf => ?_)
        · refine s_tsw1 (tgt := 1716) C dL_law_33 e (by decide) (by decide) rfl (by decide) ?_
          refine s_aload_n C dL_law_1716 rfl ?_
          refine r_aload C dL_law_1717 rfl ?_
          refine s_iload_n C dL_law_1718 rfl ?_
          refine s_iconst C dL_law_1719 (v := (1 : Int32)) (by decide) ?_
          refine s_iadd C dL_law_1720 ?_
          refine s_tbI C bh dL_law_1721 hf (fun v363 hf => ?_)
          refine r_aload C dL_law_1722 rfl ?_
          refine s_iload_n C dL_law_1723 rfl ?_
          refine s_iconst C dL_law_1724 (v := (2 : Int32)) (by decide) ?_
          refine s_iadd C dL_law_1725 ?_
          refine s_tbI C bh dL_law_1726 hf (fun v364 hf => ?_)
          refine r_aload C dL_law_1727 rfl ?_
          refine s_iload_n C dL_law_1728 rfl ?_
          refine s_iconst C dL_law_1729 (v := (3 : Int32)) (by decide) ?_
          refine s_iadd C dL_law_1730 ?_
          refine s_tbI C bh dL_law_1731 hf (fun v365 hf => ?_)
          refine s_callV (rvf := fun x => some (.int x)) (st := []) (fr := 103) (lo := 6070) (mc := 0) (ms := 0) C [11] wc_X11_act wml_L_191 wim_X11_act wsl_11_X11_act dL_law_1732 (As := [.inl v363, .inl v364, .inl v365]) rfl hf (fun x h' hF => c_X11_act _ _ _ _ _ _ _ (x, h') hF) rfl (Nat.le_of_ble_eq_true rfl) (room_ok hX (Nat.le_of_ble_eq_true rfl) (Nat.le_of_ble_eq_true rfl)) (cell_ok hX (by omega) (by omega)) (fun v367 h366 hf => ?_)
          refine s_aload_n C dL_law_1735 rfl ?_
          refine r_aload C dL_law_1736 rfl ?_
          refine s_iload_n C dL_law_1737 rfl ?_
          refine s_iconst C dL_law_1738 (v := (1 : Int32)) (by decide) ?_
          refine s_iadd C dL_law_1739 ?_
          refine s_tbI C bh dL_law_1740 hf (fun v368 hf => ?_)
          refine r_aload C dL_law_1741 rfl ?_
          refine s_iload_n C dL_law_1742 rfl ?_
          refine s_iconst C dL_law_1743 (v := (2 : Int32)) (by decide) ?_
          refine s_iadd C dL_law_1744 ?_
          refine s_tbI C bh dL_law_1745 hf (fun v369 hf => ?_)
          refine r_aload C dL_law_1746 rfl ?_
          refine s_iload_n C dL_law_1747 rfl ?_
          refine s_iconst C dL_law_1748 (v := (3 : Int32)) (by decide) ?_
          refine s_iadd C dL_law_1749 ?_
          refine s_tbI C bh dL_law_1750 hf (fun v370 hf => ?_)
          refine s_callV (rvf := fun x => some (.int x)) (st := [.int v367]) (fr := 9) (lo := 200) (mc := 0) (ms := 0) C [12] wc_X12_act wml_L_194 wim_X12_act wsl_12_X12_act dL_law_1751 (As := [.inl v368, .inl v369, .inl v370]) rfl hf (fun x h' hF => c_X12_act _ _ _ _ _ _ _ (x, h') hF) rfl (Nat.le_of_ble_eq_true rfl) (room_ok hX (Nat.le_of_ble_eq_true rfl) (Nat.le_of_ble_eq_true rfl)) (cell_ok hX (by omega) (by omega)) (fun v372 h371 hf => ?_)
          refine s_icmp_eq (tgt := 2084) C dL_law_1754 (by decide) hf (fun hf => ?_) (fun hf => ?_)
          · refine s_widen (c := 118 + 11 * k) (s := 41832 + 132 * k) (by omega) (by omega) ?_
            exact k2084 _ hf
          · refine s_iconst C dL_law_1757 (v := (0 : Int32)) (by decide) ?_
            exact s_lawret C E h1 dL_law_1758 hf (by omega) (by omega)
        refine s_ite hf (fun e hf => ?_) (fun nq44 hf => ?_)
        · refine s_tsw1 (tgt := 1759) C dL_law_33 e (by decide) (by decide) rfl (by decide) ?_
          refine s_aload_n C dL_law_1759 rfl ?_
          refine r_aload C dL_law_1760 rfl ?_
          refine s_iload_n C dL_law_1761 rfl ?_
          refine s_iconst C dL_law_1762 (v := (1 : Int32)) (by decide) ?_
          refine s_iadd C dL_law_1763 ?_
          refine s_tbI C bh dL_law_1764 hf (fun v373 hf => ?_)
          refine s_callV (rvf := fun x => some (.int x)) (st := []) (fr := 0) (lo := 0) (mc := 0) (ms := 0) C [11] wc_X11_trace wml_L_195 wim_X11_trace wsl_11_X11_trace dL_law_1765 (As := [.inl v373]) rfl hf (fun x h' hF => c_X11_trace _ _ _ _ _ (x, h') hF) rfl (Nat.le_of_ble_eq_true rfl) (room_ok hX (Nat.le_of_ble_eq_true rfl) (Nat.le_of_ble_eq_true rfl)) (cell_ok hX (by omega) (by omega)) (fun v375 h374 hf => ?_)
          refine s_aload_n C dL_law_1768 rfl ?_
          refine r_aload C dL_law_1769 rfl ?_
          refine s_iload_n C dL_law_1770 rfl ?_
          refine s_iconst C dL_law_1771 (v := (1 : Int32)) (by decide) ?_
          refine s_iadd C dL_law_1772 ?_
          refine s_tbI C bh dL_law_1773 hf (fun v376 hf => ?_)
          refine s_callV (rvf := fun x => some (.int x)) (st := [.int v375]) (fr := 0) (lo := 0) (mc := 0) (ms := 0) C [12] wc_X12_trace wml_L_198 wim_X12_trace wsl_12_X12_trace dL_law_1774 (As := [.inl v376]) rfl hf (fun x h' hF => c_X12_trace _ _ _ _ _ (x, h') hF) rfl (Nat.le_of_ble_eq_true rfl) (room_ok hX (Nat.le_of_ble_eq_true rfl) (Nat.le_of_ble_eq_true rfl)) (cell_ok hX (by omega) (by omega)) (fun v378 h377 hf => ?_)
          refine s_icmp_eq (tgt := 2084) C dL_law_1777 (by decide) hf (fun hf => ?_) (fun hf => ?_)
          · refine s_widen (c := 118 + 11 * k) (s := 41832 + 132 * k) (by omega) (by omega) ?_
            exact k2084 _ hf
          · refine s_iconst C dL_law_1780 (v := (0 : Int32)) (by decide) ?_
            exact s_lawret C E h1 dL_law_1781 hf (by omega) (by omega)
        refine s_ite hf (fun e hf => ?_) (fun nq45 hf => ?_)
        · refine s_tsw1 (tgt := 1782) C dL_law_33 e (by decide) (by decide) rfl (by decide) ?_
          refine s_aload_n C dL_law_1782 rfl ?_
          refine r_aload C dL_law_1783 rfl ?_
          refine s_iload_n C dL_law_1784 rfl ?_
          refine s_iconst C dL_law_1785 (v := (1 : Int32)) (by decide) ?_
          refine s_iadd C dL_law_1786 ?_
          refine s_tbI C bh dL_law_1787 hf (fun v379 hf => ?_)
          refine r_aload C dL_law_1788 rfl ?_
          refine s_iload_n C dL_law_1789 rfl ?_
          refine s_iconst C dL_law_1790 (v := (2 : Int32)) (by decide) ?_
          refine s_iadd C dL_law_1791 ?_
          refine s_tbI C bh dL_law_1792 hf (fun v380 hf => ?_)
          refine s_callV (rvf := fun x => some (.int x)) (st := []) (fr := 1) (lo := 21) (mc := 0) (ms := 0) C [11] wc_X11_keep wml_L_199 wim_X11_keep wsl_11_X11_keep dL_law_1793 (As := [.inl v379, .inl v380]) rfl hf (fun x h' hF => c_X11_keep _ _ _ _ _ _ (x, h') hF) rfl (Nat.le_of_ble_eq_true rfl) (room_ok hX (Nat.le_of_ble_eq_true rfl) (Nat.le_of_ble_eq_true rfl)) (cell_ok hX (by omega) (by omega)) (fun v382 h381 hf => ?_)
          refine s_aload_n C dL_law_1796 rfl ?_
          refine r_aload C dL_law_1797 rfl ?_
          refine s_iload_n C dL_law_1798 rfl ?_
          refine s_iconst C dL_law_1799 (v := (1 : Int32)) (by decide) ?_
          refine s_iadd C dL_law_1800 ?_
          refine s_tbI C bh dL_law_1801 hf (fun v383 hf => ?_)
          refine r_aload C dL_law_1802 rfl ?_
          refine s_iload_n C dL_law_1803 rfl ?_
          refine s_iconst C dL_law_1804 (v := (2 : Int32)) (by decide) ?_
          refine s_iadd C dL_law_1805 ?_
          refine s_tbI C bh dL_law_1806 hf (fun v384 hf => ?_)
          refine s_callV (rvf := fun x => some (.int x)) (st := [.int v382]) (fr := 2) (lo := 43) (mc := 0) (ms := 0) C [12] wc_X12_keep wml_L_202 wim_X12_keep wsl_12_X12_keep dL_law_1807 (As := [.inl v383, .inl v384]) rfl hf (fun x h' hF => c_X12_keep _ _ _ _ _ _ (x, h') hF) rfl (Nat.le_of_ble_eq_true rfl) (room_ok hX (Nat.le_of_ble_eq_true rfl) (Nat.le_of_ble_eq_true rfl)) (cell_ok hX (by omega) (by omega)) (fun v386 h385 hf => ?_)
          refine s_icmp_eq (tgt := 2084) C dL_law_1810 (by decide) hf (fun hf => ?_) (fun hf => ?_)
          · refine s_widen (c := 118 + 11 * k) (s := 41832 + 132 * k) (by omega) (by omega) ?_
            exact k2084 _ hf
          · refine s_iconst C dL_law_1813 (v := (0 : Int32)) (by decide) ?_
            exact s_lawret C E h1 dL_law_1814 hf (by omega) (by omega)
        refine s_ite hf (fun e hf => ?_) (fun nq46 hf => ?_)
        · refine s_tsw1 (tgt := 1815) C dL_law_33 e (by decide) (by decide) rfl (by decide) ?_
          refine s_aload_n C dL_law_1815 rfl ?_
          refine r_aload C dL_law_1816 rfl ?_
          refine s_iload_n C dL_law_1817 rfl ?_
          refine s_iconst C dL_law_1818 (v := (1 : Int32)) (by decide) ?_
          refine s_iadd C dL_law_1819 ?_
          refine s_tbI C bh dL_law_1820 hf (fun v387 hf => ?_)
          refine r_aload C dL_law_1821 rfl ?_
          refine s_iload_n C dL_law_1822 rfl ?_
          refine s_iconst C dL_law_1823 (v := (2 : Int32)) (by decide) ?_
          refine s_iadd C dL_law_1824 ?_
          refine s_tbI C bh dL_law_1825 hf (fun v388 hf => ?_)
          refine r_aload C dL_law_1826 rfl ?_
          refine s_iload_n C dL_law_1827 rfl ?_
          refine s_iconst C dL_law_1828 (v := (3 : Int32)) (by decide) ?_
          refine s_iadd C dL_law_1829 ?_
          refine s_tbI C bh dL_law_1830 hf (fun v389 hf => ?_)
          refine s_callV (rvf := fun x => some (.int x)) (st := []) (fr := 2) (lo := 46) (mc := 0) (ms := 0) C [11] wc_X11_row wml_L_203 wim_X11_row wsl_11_X11_row dL_law_1831 (As := [.inl v387, .inl v388, .inl v389]) rfl hf (fun x h' hF => c_X11_row _ _ _ _ _ _ _ (x, h') hF) rfl (Nat.le_of_ble_eq_true rfl) (room_ok hX (Nat.le_of_ble_eq_true rfl) (Nat.le_of_ble_eq_true rfl)) (cell_ok hX (by omega) (by omega)) (fun v391 h390 hf => ?_)
          refine s_aload_n C dL_law_1834 rfl ?_
          refine r_aload C dL_law_1835 rfl ?_
          refine s_iload_n C dL_law_1836 rfl ?_
          refine s_iconst C dL_law_1837 (v := (1 : Int32)) (by decide) ?_
          refine s_iadd C dL_law_1838 ?_
          refine s_tbI C bh dL_law_1839 hf (fun v392 hf => ?_)
          refine r_aload C dL_law_1840 rfl ?_
          refine s_iload_n C dL_law_1841 rfl ?_
          refine s_iconst C dL_law_1842 (v := (2 : Int32)) (by decide) ?_
          refine s_iadd C dL_law_1843 ?_
          refine s_tbI C bh dL_law_1844 hf (fun v393 hf => ?_)
          refine r_aload C dL_law_1845 rfl ?_
          refine s_iload_n C dL_law_1846 rfl ?_
          refine s_iconst C dL_law_1847 (v := (3 : Int32)) (by decide) ?_
          refine s_iadd C dL_law_1848 ?_
          refine s_tbI C bh dL_law_1849 hf (fun v394 hf => ?_)
          refine s_callV (rvf := fun x => some (.int x)) (st := [.int v391]) (fr := 2) (lo := 42) (mc := 0) (ms := 0) C [12] wc_X12_row wml_L_206 wim_X12_row wsl_12_X12_row dL_law_1850 (As := [.inl v392, .inl v393, .inl v394]) rfl hf (fun x h' hF => c_X12_row _ _ _ _ _ _ _ (x, h') hF) rfl (Nat.le_of_ble_eq_true rfl) (room_ok hX (Nat.le_of_ble_eq_true rfl) (Nat.le_of_ble_eq_true rfl)) (cell_ok hX (by omega) (by omega)) (fun v396 h395 hf => ?_)
          refine s_icmp_eq (tgt := 2084) C dL_law_1853 (by decide) hf (fun hf => ?_) (fun hf => ?_)
          · refine s_widen (c := 118 + 11 * k) (s := 41832 + 132 * k) (by omega) (by omega) ?_
            exact k2084 _ hf
          · refine s_iconst C dL_law_1856 (v := (0 : Int32)) (by decide) ?_
            exact s_lawret C E h1 dL_law_1857 hf (by omega) (by omega)
        refine s_ite hf (fun e hf => ?_) (fun nq47 hf => ?_)
        · refine s_tsw1 (tgt := 1858) C dL_law_33 e (by decide) (by decide) rfl (by decide) ?_
          refine s_aload_n C dL_law_1858 rfl ?_
          refine r_aload C dL_law_1859 rfl ?_
          refine s_iload_n C dL_law_1860 rfl ?_
          refine s_iconst C dL_law_1861 (v := (1 : Int32)) (by decide) ?_
          refine s_iadd C dL_law_1862 ?_
          refine s_tbI C bh dL_law_1863 hf (fun v397 hf => ?_)
          refine r_aload C dL_law_1864 rfl ?_
          refine s_iload_n C dL_law_1865 rfl ?_
          refine s_iconst C dL_law_1866 (v := (2 : Int32)) (by decide) ?_
          refine s_iadd C dL_law_1867 ?_
          refine s_tbI C bh dL_law_1868 hf (fun v398 hf => ?_)
          refine r_aload C dL_law_1869 rfl ?_
          refine s_iload_n C dL_law_1870 rfl ?_
          refine s_iconst C dL_law_1871 (v := (3 : Int32)) (by decide) ?_
          refine s_iadd C dL_law_1872 ?_
          refine s_tbI C bh dL_law_1873 hf (fun v399 hf => ?_)
          refine s_i2l C dL_law_1874 ?_
          refine s_bipush C dL_law_1875 (v := (32 : Int32)) (by decide) ?_
          refine s_lshl C dL_law_1877 ?_
          refine r_aload C dL_law_1878 rfl ?_
          refine s_iload_n C dL_law_1879 rfl ?_
          refine s_iconst C dL_law_1880 (v := (4 : Int32)) (by decide) ?_
          refine s_iadd C dL_law_1881 ?_
          refine s_tbI C bh dL_law_1882 hf (fun v400 hf => ?_)
          refine s_i2l C dL_law_1883 ?_
          refine s_ldc2 C dL_law_1884 wk_L_207 ?_
          refine s_land C dL_law_1887 ?_
          refine s_lor C dL_law_1888 ?_
          refine s_callV (rvf := fun x => some (.int x)) (st := []) (fr := 2) (lo := 46) (mc := 0) (ms := 0) C [11] wc_X11_put wml_L_209 wim_X11_put wsl_11_X11_put dL_law_1889 (As := [.inl v397, .inl v398, .inr (.inl ((v399.toInt64 <<< ((32 : Int32).toInt64 &&& 63)) ||| (v400.toInt64 &&& (4294967295 : Int64))))]) rfl hf (fun x h' hF => c_X11_put _ _ _ _ _ _ _ (x, h') hF) rfl (Nat.le_of_ble_eq_true rfl) (room_ok hX (Nat.le_of_ble_eq_true rfl) (Nat.le_of_ble_eq_true rfl)) (cell_ok hX (by omega) (by omega)) (fun v402 h401 hf => ?_)
          refine s_aload_n C dL_law_1892 rfl ?_
          refine r_aload C dL_law_1893 rfl ?_
          refine s_iload_n C dL_law_1894 rfl ?_
          refine s_iconst C dL_law_1895 (v := (1 : Int32)) (by decide) ?_
          refine s_iadd C dL_law_1896 ?_
          refine s_tbI C bh dL_law_1897 hf (fun v403 hf => ?_)
          refine r_aload C dL_law_1898 rfl ?_
          refine s_iload_n C dL_law_1899 rfl ?_
          refine s_iconst C dL_law_1900 (v := (2 : Int32)) (by decide) ?_
          refine s_iadd C dL_law_1901 ?_
          refine s_tbI C bh dL_law_1902 hf (fun v404 hf => ?_)
          refine r_aload C dL_law_1903 rfl ?_
          refine s_iload_n C dL_law_1904 rfl ?_
          refine s_iconst C dL_law_1905 (v := (3 : Int32)) (by decide) ?_
          refine s_iadd C dL_law_1906 ?_
          refine s_tbI C bh dL_law_1907 hf (fun v405 hf => ?_)
          refine s_i2l C dL_law_1908 ?_
          refine s_bipush C dL_law_1909 (v := (32 : Int32)) (by decide) ?_
          refine s_lshl C dL_law_1911 ?_
          refine r_aload C dL_law_1912 rfl ?_
          refine s_iload_n C dL_law_1913 rfl ?_
          refine s_iconst C dL_law_1914 (v := (4 : Int32)) (by decide) ?_
          refine s_iadd C dL_law_1915 ?_
          refine s_tbI C bh dL_law_1916 hf (fun v406 hf => ?_)
          refine s_i2l C dL_law_1917 ?_
          refine s_ldc2 C dL_law_1918 wk_L_207 ?_
          refine s_land C dL_law_1921 ?_
          refine s_lor C dL_law_1922 ?_
          refine s_callV (rvf := fun x => some (.int x)) (st := [.int v402]) (fr := 3) (lo := 64) (mc := 0) (ms := 0) C [12] wc_X12_put wml_L_213 wim_X12_put wsl_12_X12_put dL_law_1923 (As := [.inl v403, .inl v404, .inr (.inl ((v405.toInt64 <<< ((32 : Int32).toInt64 &&& 63)) ||| (v406.toInt64 &&& (4294967295 : Int64))))]) rfl hf (fun x h' hF => c_X12_put _ _ _ _ _ _ _ (x, h') hF) rfl (Nat.le_of_ble_eq_true rfl) (room_ok hX (Nat.le_of_ble_eq_true rfl) (Nat.le_of_ble_eq_true rfl)) (cell_ok hX (by omega) (by omega)) (fun v408 h407 hf => ?_)
          refine s_icmp_eq (tgt := 2084) C dL_law_1926 (by decide) hf (fun hf => ?_) (fun hf => ?_)
          · refine s_widen (c := 118 + 11 * k) (s := 41832 + 132 * k) (by omega) (by omega) ?_
            exact k2084 _ hf
          · refine s_iconst C dL_law_1929 (v := (0 : Int32)) (by decide) ?_
            exact s_lawret C E h1 dL_law_1930 hf (by omega) (by omega)
        refine s_ite hf (fun e hf => ?_) (fun nq48 hf => ?_)
        · refine s_tsw1 (tgt := 1931) C dL_law_33 e (by decide) (by decide) rfl (by decide) ?_
          refine s_aload_n C dL_law_1931 rfl ?_
          refine r_aload C dL_law_1932 rfl ?_
          refine s_iload_n C dL_law_1933 rfl ?_
          refine s_iconst C dL_law_1934 (v := (1 : Int32)) (by decide) ?_
          refine s_iadd C dL_law_1935 ?_
          refine s_tbI C bh dL_law_1936 hf (fun v409 hf => ?_)
          refine r_aload C dL_law_1937 rfl ?_
          refine s_iload_n C dL_law_1938 rfl ?_
          refine s_iconst C dL_law_1939 (v := (2 : Int32)) (by decide) ?_
          refine s_iadd C dL_law_1940 ?_
          refine s_tbI C bh dL_law_1941 hf (fun v410 hf => ?_)
          refine s_callV (rvf := fun x => some (.long x)) (st := []) (fr := 2) (lo := 47) (mc := 0) (ms := 0) C [11] wc_X11_element wml_L_214 wim_X11_element wsl_11_X11_element dL_law_1942 (As := [.inl v409, .inl v410]) rfl hf (fun x h' hF => c_X11_element _ _ _ _ _ _ (x, h') hF) rfl (Nat.le_of_ble_eq_true rfl) (room_ok hX (Nat.le_of_ble_eq_true rfl) (Nat.le_of_ble_eq_true rfl)) (cell_ok hX (by omega) (by omega)) (fun v412 h411 hf => ?_)
          refine s_aload_n C dL_law_1945 rfl ?_
          refine r_aload C dL_law_1946 rfl ?_
          refine s_iload_n C dL_law_1947 rfl ?_
          refine s_iconst C dL_law_1948 (v := (1 : Int32)) (by decide) ?_
          refine s_iadd C dL_law_1949 ?_
          refine s_tbI C bh dL_law_1950 hf (fun v413 hf => ?_)
          refine r_aload C dL_law_1951 rfl ?_
          refine s_iload_n C dL_law_1952 rfl ?_
          refine s_iconst C dL_law_1953 (v := (2 : Int32)) (by decide) ?_
          refine s_iadd C dL_law_1954 ?_
          refine s_tbI C bh dL_law_1955 hf (fun v414 hf => ?_)
          refine s_callV (rvf := fun x => some (.long x)) (st := [.long v412]) (fr := 3) (lo := 64) (mc := 0) (ms := 0) C [12] wc_X12_element wml_L_217 wim_X12_element wsl_12_X12_element dL_law_1956 (As := [.inl v413, .inl v414]) rfl hf (fun x h' hF => c_X12_element _ _ _ _ _ _ (x, h') hF) rfl (Nat.le_of_ble_eq_true rfl) (room_ok hX (Nat.le_of_ble_eq_true rfl) (Nat.le_of_ble_eq_true rfl)) (cell_ok hX (by omega) (by omega)) (fun v416 h415 hf => ?_)
          refine s_lcmp C dL_law_1959 ?_
          refine s_if_eq (tgt := 2084) C dL_law_1960 (by decide) hf (fun hf => ?_) (fun hf => ?_)
          · refine s_widen (c := 118 + 11 * k) (s := 41832 + 132 * k) (by omega) (by omega) ?_
            exact k2084 _ hf
          · refine s_iconst C dL_law_1963 (v := (0 : Int32)) (by decide) ?_
            exact s_lawret C E h1 dL_law_1964 hf (by omega) (by omega)
        refine s_ite hf (fun e hf => ?_) (fun nq49 hf => ?_)
        · refine s_tsw1 (tgt := 1965) C dL_law_33 e (by decide) (by decide) rfl (by decide) ?_
          refine s_aload_n C dL_law_1965 rfl ?_
          refine r_aload C dL_law_1966 rfl ?_
          refine s_iload_n C dL_law_1967 rfl ?_
          refine s_iconst C dL_law_1968 (v := (1 : Int32)) (by decide) ?_
          refine s_iadd C dL_law_1969 ?_
          refine s_tbI C bh dL_law_1970 hf (fun v417 hf => ?_)
          refine r_aload C dL_law_1971 rfl ?_
          refine s_iload_n C dL_law_1972 rfl ?_
          refine s_iconst C dL_law_1973 (v := (2 : Int32)) (by decide) ?_
          refine s_iadd C dL_law_1974 ?_
          refine s_tbI C bh dL_law_1975 hf (fun v418 hf => ?_)
          refine r_aload C dL_law_1976 rfl ?_
          refine s_iload_n C dL_law_1977 rfl ?_
          refine s_iconst C dL_law_1978 (v := (3 : Int32)) (by decide) ?_
          refine s_iadd C dL_law_1979 ?_
          refine s_tbI C bh dL_law_1980 hf (fun v419 hf => ?_)
          refine r_aload C dL_law_1981 rfl ?_
          refine s_iload_n C dL_law_1982 rfl ?_
          refine s_iconst C dL_law_1983 (v := (4 : Int32)) (by decide) ?_
          refine s_iadd C dL_law_1984 ?_
          refine s_tbI C bh dL_law_1985 hf (fun v420 hf => ?_)
          refine r_aload C dL_law_1986 rfl ?_
          refine s_iload_n C dL_law_1987 rfl ?_
          refine s_iconst C dL_law_1988 (v := (5 : Int32)) (by decide) ?_
          refine s_iadd C dL_law_1989 ?_
          refine s_tbI C bh dL_law_1990 hf (fun v421 hf => ?_)
          refine s_callV (rvf := fun x => some (.int x)) (st := []) (fr := 1) (lo := 26) (mc := 0) (ms := 0) C [11] wc_X11_shift wml_L_218 wim_X11_shift wsl_11_X11_shift dL_law_1991 (As := [.inl v417, .inl v418, .inl v419, .inl v420, .inl v421]) rfl hf (fun x h' hF => c_X11_shift _ _ _ _ _ _ _ _ _ (x, h') hF) rfl (Nat.le_of_ble_eq_true rfl) (room_ok hX (Nat.le_of_ble_eq_true rfl) (Nat.le_of_ble_eq_true rfl)) (cell_ok hX (by omega) (by omega)) (fun v423 h422 hf => ?_)
          refine s_aload_n C dL_law_1994 rfl ?_
          refine r_aload C dL_law_1995 rfl ?_
          refine s_iload_n C dL_law_1996 rfl ?_
          refine s_iconst C dL_law_1997 (v := (1 : Int32)) (by decide) ?_
          refine s_iadd C dL_law_1998 ?_
          refine s_tbI C bh dL_law_1999 hf (fun v424 hf => ?_)
          refine r_aload C dL_law_2000 rfl ?_
          refine s_iload_n C dL_law_2001 rfl ?_
          refine s_iconst C dL_law_2002 (v := (2 : Int32)) (by decide) ?_
          refine s_iadd C dL_law_2003 ?_
          refine s_tbI C bh dL_law_2004 hf (fun v425 hf => ?_)
          refine r_aload C dL_law_2005 rfl ?_
          refine s_iload_n C dL_law_2006 rfl ?_
          refine s_iconst C dL_law_2007 (v := (3 : Int32)) (by decide) ?_
          refine s_iadd C dL_law_2008 ?_
          refine s_tbI C bh dL_law_2009 hf (fun v426 hf => ?_)
          refine r_aload C dL_law_2010 rfl ?_
          refine s_iload_n C dL_law_2011 rfl ?_
          refine s_iconst C dL_law_2012 (v := (4 : Int32)) (by decide) ?_
          refine s_iadd C dL_law_2013 ?_
          refine s_tbI C bh dL_law_2014 hf (fun v427 hf => ?_)
          refine r_aload C dL_law_2015 rfl ?_
          refine s_iload_n C dL_law_2016 rfl ?_
          refine s_iconst C dL_law_2017 (v := (5 : Int32)) (by decide) ?_
          refine s_iadd C dL_law_2018 ?_
          refine s_tbI C bh dL_law_2019 hf (fun v428 hf => ?_)
          refine s_callV (rvf := fun x => some (.int x)) (st := [.int v423]) (fr := 2) (lo := 42) (mc := 0) (ms := 0) C [12] wc_X12_shift wml_L_222 wim_X12_shift wsl_12_X12_shift dL_law_2020 (As := [.inl v424, .inl v425, .inl v426, .inl v427, .inl v428]) rfl hf (fun x h' hF => c_X12_shift _ _ _ _ _ _ _ _ _ (x, h') hF) rfl (Nat.le_of_ble_eq_true rfl) (room_ok hX (Nat.le_of_ble_eq_true rfl) (Nat.le_of_ble_eq_true rfl)) (cell_ok hX (by omega) (by omega)) (fun v430 h429 hf => ?_)
          refine s_icmp_eq (tgt := 2084) C dL_law_2023 (by decide) hf (fun hf => ?_) (fun hf => ?_)
          · refine s_widen (c := 118 + 11 * k) (s := 41832 + 132 * k) (by omega) (by omega) ?_
            exact k2084 _ hf
          · refine s_iconst C dL_law_2026 (v := (0 : Int32)) (by decide) ?_
            exact s_lawret C E h1 dL_law_2027 hf (by omega) (by omega)
        refine s_ite hf (fun e hf => ?_) (fun nq50 hf => ?_)
        · refine s_tsw1 (tgt := 2028) C dL_law_33 e (by decide) (by decide) rfl (by decide) ?_
          refine s_aload_n C dL_law_2028 rfl ?_
          refine r_aload C dL_law_2029 rfl ?_
          refine s_iload_n C dL_law_2030 rfl ?_
          refine s_iconst C dL_law_2031 (v := (1 : Int32)) (by decide) ?_
          refine s_iadd C dL_law_2032 ?_
          refine s_tbI C bh dL_law_2033 hf (fun v431 hf => ?_)
          refine r_aload C dL_law_2034 rfl ?_
          refine s_iload_n C dL_law_2035 rfl ?_
          refine s_iconst C dL_law_2036 (v := (2 : Int32)) (by decide) ?_
          refine s_iadd C dL_law_2037 ?_
          refine s_tbI C bh dL_law_2038 hf (fun v432 hf => ?_)
          refine s_callV (rvf := fun x => some (.int x)) (st := []) (fr := 1) (lo := 23) (mc := 0) (ms := 0) C [11] wc_X11_taken wml_L_223 wim_X11_taken wsl_11_X11_taken dL_law_2039 (As := [.inl v431, .inl v432]) rfl hf (fun x h' hF => c_X11_taken _ _ _ _ _ _ (x, h') hF) rfl (Nat.le_of_ble_eq_true rfl) (room_ok hX (Nat.le_of_ble_eq_true rfl) (Nat.le_of_ble_eq_true rfl)) (cell_ok hX (by omega) (by omega)) (fun v434 h433 hf => ?_)
          refine s_aload_n C dL_law_2042 rfl ?_
          refine r_aload C dL_law_2043 rfl ?_
          refine s_iload_n C dL_law_2044 rfl ?_
          refine s_iconst C dL_law_2045 (v := (1 : Int32)) (by decide) ?_
          refine s_iadd C dL_law_2046 ?_
          refine s_tbI C bh dL_law_2047 hf (fun v435 hf => ?_)
          refine r_aload C dL_law_2048 rfl ?_
          refine s_iload_n C dL_law_2049 rfl ?_
          refine s_iconst C dL_law_2050 (v := (2 : Int32)) (by decide) ?_
          refine s_iadd C dL_law_2051 ?_
          refine s_tbI C bh dL_law_2052 hf (fun v436 hf => ?_)
          refine s_callV (rvf := fun x => some (.int x)) (st := [.int v434]) (fr := 2) (lo := 43) (mc := 0) (ms := 0) C [12] wc_X12_taken wml_L_226 wim_X12_taken wsl_12_X12_taken dL_law_2053 (As := [.inl v435, .inl v436]) rfl hf (fun x h' hF => c_X12_taken _ _ _ _ _ _ (x, h') hF) rfl (Nat.le_of_ble_eq_true rfl) (room_ok hX (Nat.le_of_ble_eq_true rfl) (Nat.le_of_ble_eq_true rfl)) (cell_ok hX (by omega) (by omega)) (fun v438 h437 hf => ?_)
          refine s_icmp_eq (tgt := 2084) C dL_law_2056 (by decide) hf (fun hf => ?_) (fun hf => ?_)
          · refine s_widen (c := 118 + 11 * k) (s := 41832 + 132 * k) (by omega) (by omega) ?_
            exact k2084 _ hf
          · refine s_iconst C dL_law_2059 (v := (0 : Int32)) (by decide) ?_
            exact s_lawret C E h1 dL_law_2060 hf (by omega) (by omega)
        refine s_ite hf (fun e hf => ?_) (fun nq51 hf => ?_)
        · refine s_tsw1 (tgt := 2061) C dL_law_33 e (by decide) (by decide) rfl (by decide) ?_
          refine s_aload_n C dL_law_2061 rfl ?_
          refine r_aload C dL_law_2062 rfl ?_
          refine s_iload_n C dL_law_2063 rfl ?_
          refine s_iconst C dL_law_2064 (v := (1 : Int32)) (by decide) ?_
          refine s_iadd C dL_law_2065 ?_
          refine s_tbI C bh dL_law_2066 hf (fun v439 hf => ?_)
          refine s_callV (rvf := fun x => some (.int x)) (st := []) (fr := 2) (lo := 46) (mc := 0) (ms := 0) C [11] wc_X11_count wml_L_227 wim_X11_count wsl_11_X11_count dL_law_2067 (As := [.inl v439]) rfl hf (fun x h' hF => c_X11_count _ _ _ _ _ (x, h') hF) rfl (Nat.le_of_ble_eq_true rfl) (room_ok hX (Nat.le_of_ble_eq_true rfl) (Nat.le_of_ble_eq_true rfl)) (cell_ok hX (by omega) (by omega)) (fun v441 h440 hf => ?_)
          refine s_aload_n C dL_law_2070 rfl ?_
          refine r_aload C dL_law_2071 rfl ?_
          refine s_iload_n C dL_law_2072 rfl ?_
          refine s_iconst C dL_law_2073 (v := (1 : Int32)) (by decide) ?_
          refine s_iadd C dL_law_2074 ?_
          refine s_tbI C bh dL_law_2075 hf (fun v442 hf => ?_)
          refine s_callV (rvf := fun x => some (.int x)) (st := [.int v441]) (fr := 4) (lo := 85) (mc := 0) (ms := 0) C [12] wc_X12_count wml_L_230 wim_X12_count wsl_12_X12_count dL_law_2076 (As := [.inl v442]) rfl hf (fun x h' hF => c_X12_count _ _ _ _ _ (x, h') hF) rfl (Nat.le_of_ble_eq_true rfl) (room_ok hX (Nat.le_of_ble_eq_true rfl) (Nat.le_of_ble_eq_true rfl)) (cell_ok hX (by omega) (by omega)) (fun v444 h443 hf => ?_)
          refine s_icmp_eq (tgt := 2084) C dL_law_2079 (by decide) hf (fun hf => ?_) (fun hf => ?_)
          · refine s_widen (c := 118 + 11 * k) (s := 41832 + 132 * k) (by omega) (by omega) ?_
            exact k2084 _ hf
          · refine s_iconst C dL_law_2082 (v := (0 : Int32)) (by decide) ?_
            exact s_lawret C E h1 dL_law_2083 hf (by omega) (by omega)
        refine s_tswD (tgt := 2084) C dL_law_33 (by have nq0x := n32 (i := 0) nq0 rfl; have nq1x := n32 (i := 1) nq1 rfl; have nq2x := n32 (i := 2) nq2 rfl; have nq3x := n32 (i := 3) nq3 rfl; have nq4x := n32 (i := 4) nq4 rfl; have nq5x := n32 (i := 5) nq5 rfl; have nq6x := n32 (i := 6) nq6 rfl; have nq7x := n32 (i := 7) nq7 rfl; have nq8x := n32 (i := 8) nq8 rfl; have nq9x := n32 (i := 9) nq9 rfl; have nq10x := n32 (i := 10) nq10 rfl; have nq11x := n32 (i := 11) nq11 rfl; have nq12x := n32 (i := 12) nq12 rfl; have nq13x := n32 (i := 13) nq13 rfl; have nq14x := n32 (i := 14) nq14 rfl; have nq15x := n32 (i := 15) nq15 rfl; have nq16x := n32 (i := 16) nq16 rfl; have nq17x := n32 (i := 17) nq17 rfl; have nq18x := n32 (i := 18) nq18 rfl; have nq19x := n32 (i := 19) nq19 rfl; have nq20x := n32 (i := 20) nq20 rfl; have nq21x := n32 (i := 21) nq21 rfl; have nq22x := n32 (i := 22) nq22 rfl; have nq23x := n32 (i := 23) nq23 rfl; have nq24x := n32 (i := 24) nq24 rfl; have nq25x := n32 (i := 25) nq25 rfl; have nq26x := n32 (i := 26) nq26 rfl; have nq27x := n32 (i := 27) nq27 rfl; have nq28x := n32 (i := 28) nq28 rfl; have nq29x := n32 (i := 29) nq29 rfl; have nq30x := n32 (i := 30) nq30 rfl; have nq31x := n32 (i := 31) nq31 rfl; have nq32x := n32 (i := 32) nq32 rfl; have nq33x := n32 (i := 33) nq33 rfl; have nq34x := n32 (i := 34) nq34 rfl; have nq35x := n32 (i := 35) nq35 rfl; have nq36x := n32 (i := 36) nq36 rfl; have nq37x := n32 (i := 37) nq37 rfl; have nq38x := n32 (i := 38) nq38 rfl; have nq39x := n32 (i := 39) nq39 rfl; have nq40x := n32 (i := 40) nq40 rfl; have nq41x := n32 (i := 41) nq41 rfl; have nq42x := n32 (i := 42) nq42 rfl; have nq43x := n32 (i := 43) nq43 rfl; have nq44x := n32 (i := 44) nq44 rfl; have nq45x := n32 (i := 45) nq45 rfl; have nq46x := n32 (i := 46) nq46 rfl; have nq47x := n32 (i := 47) nq47 rfl; have nq48x := n32 (i := 48) nq48 rfl; have nq49x := n32 (i := 49) nq49 rfl; have nq50x := n32 (i := 50) nq50 rfl; have nq51x := n32 (i := 51) nq51 rfl; omega) (by decide) ?_
        refine s_widen (c := 118 + 11 * k) (s := 41832 + 132 * k) (by omega) (by omega) ?_
        exact k2084 _ hf
  exact k18 lpN 0 _ _ (by omega) rfl hf
