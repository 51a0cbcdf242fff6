/-- cellNow() of a Body, by what it is -/
noncomputable def vCN {ρ : Type} (h : AH) (r : Option Nat) (K : Int32 → AH → Option ρ) : Option ρ := if okT h [1] r = true then cl (f_X1_cellNow r h) K else rO h [0, 2, 9] r (cl (f_X0_cellNow r h) K)
theorem s_vCN {X : XT} {cc : ByteArray} {nL pc cells slots : Nat} {h : AH} {lv : List (Option Value)} {st : List Value} {ρ : Type} {r : ρ} (C : CX X RX0 cc nL) (d : decode cc pc = .ok (.invokevirtual 32, 3)) {r0 : Option Nat} {K : Int32 → AH → Option ρ} (hf : vCN h r0 K = some r) (hst : st.length ≤ 4) (hroom : 2 ≤ (xR X).frames ∧ 60 ≤ (xR X).locals) (hcl : cells ≤ (xR X).cells ∧ slots ≤ (xR X).slots) (kk : ∀ v h', K v h' = some r → WW X h' cells slots (pc + 3) lv (.int v :: st)) : WW X h cells slots pc lv (rB (xD X).1 r0 :: st) := by
  have wsel : ∀ t ∈ ([0, 2, 9] : List Nat), t < 13 ∧ Cond.selects (RXX t) yX0_cellNow yX0_cellNow ∈ lw_big := fun t ht => by
    simp only [List.mem_cons, List.not_mem_nil, or_false] at ht
    rcases ht with rfl | rfl | rfl
    · exact ⟨by decide, b7_at 0 rfl rfl⟩
    · exact ⟨by decide, b7_at 5 rfl rfl⟩
    · exact ⟨by decide, b7_at 6 rfl rfl⟩
  unfold vCN at hf
  split at hf
  · rename_i e
    obtain ⟨a, t, nn, rfl, hq, ht⟩ := okT_spec e
    simp only [List.mem_cons, List.not_mem_nil, or_false] at ht
    subst ht
    unfold cl at hf
    cases hF : f_X1_cellNow (some a) h with
    | none => rw [hF] at hf; cases hf
    | some x =>
      rw [hF] at hf
      intro H locs ls hR hS hl
      have hts := C.2.2.2.2.1
      obtain ⟨cv, g1, g2, g3⟩ := obj_at hR hq (by decide)
      have hcC := (C.2.2.2.2.2.1.1 1 (by decide)).2
      have hG : GoodIn lw_big (va_wsO RX0 32 (RXX 1) RX0 yX0_cellNow yX1_cellNow (wv yX1_cellNow cX1_cellNow 1 (some .int))) := by
        intro w hw
        rcases List.mem_append.mp hw with hw | hw
        · refine big_good _ ?_
          simp only [List.mem_cons, List.not_mem_nil, or_false] at hw
          rcases hw with rfl | rfl | rfl | rfl | rfl | rfl
          · exact wml_X0_32
          · exact b7_at 1 rfl rfl
          · exact wim_X0_cellNow
          · exact b7_at 2 rfl rfl
          · exact wim_X1_cellNow
          · exact wini_X1
        · exact wv_good wc_X1_cellNow.1 w hw
      exact run_go (lv := lv) (mc := 0) (ms := 0) (va_runU (C := RXX 1) (owner := RX0) (x := yX0_cellNow) (y := yX1_cellNow) (As := []) (rest := st) ⟨C.1, C.2.1, C.2.2.1, C.2.2.2.1, hts⟩ (c_X1_cellNow X.1.2.1 (xD X) (some a) h x hF) (va_cwO 0 hts hG rfl rfl rfl wc_X0_cellNow.1 ⟨by decide, by decide, by decide +kernel⟩ ⟨show 0 + 1 ≤ (xR X).frames by omega, show 8 + (1 + 11) + 0 ≤ (xR X).locals by omega⟩) ⟨PcX.blind, ⟨cv, g1, by rw [g3]; rfl, by rw [g2]; exact hcC.1⟩, PcX.at (av := [.inr (.inr (some a))]) C hR hS⟩ rfl rfl (by rw [← C.2.2.1]; exact hl.1) rfl (lv_room (cat_sum _ hst)) d hcl) hS hl (kk _ _ hf)
  · exact s_callV (rvf := fun v => some (Value.int v)) (mc := 0) (ms := 0) C [0, 2, 9] wc_X0_cellNow wml_X0_32 wim_X0_cellNow wsel d (As := []) rfl hf (fun x h' hF => c_X0_cellNow _ _ _ _ (x, h') hF) rfl hst ⟨by omega, by omega⟩ hcl kk
/-- HillBoxes$Body.run(III[II)I, one turn -/
noncomputable def fb_X0_run (g : Nat → Option Nat → Option Nat → Int32 → Int32 → Int32 → Int32 → AH → Option (Int32 × AH)) (o : Option Nat) (a1 : Int32) (a2 : Int32) (a3 : Int32) (a4 : Option Nat) (a5 : Int32) (h : AH) : Option (Int32 × AH) :=
  lp (fun _ _ => none) (fun (L6 : Int32 → Int32 → Option (Int32 × AH)) (x1 : Int32) (x2 : Int32) =>
    jn (
      jn (
        some ((0 : Int32), h)) fun j57 =>
      if x1 < 0 then
        j57
      else
        if a5 ≤ (40 : Int32) then
          tbI tbBA (((4 : Int32) * x1) + a2) fun v3 =>
          aI h 20 a4 (24 : Int32) fun v4 =>
          jn (fun (h5 : AH) =>
            aI h5 20 a4 (24 : Int32) fun v6 =>
            bI h5 20 a4 (24 : Int32) (v6 + (1 : Int32)) fun h7 =>
            tbI tbKA x1 fun v8 =>
            rO h7 [0, 1, 2, 9] o <| cl (g 1 o a4 v3 v8 a3 (a5 + (1 : Int32)) h7) fun v10 h9 =>
            some (v10, h9)) fun j91 =>
          if (24 : Int32) ≤ v4 then
            j91 h
          else
            aI h 20 a4 (24 : Int32) fun v11 =>
            bI h 20 a4 v11 v3 fun h12 =>
            j91 h12
        else
          j57) fun j45 =>
    if (8 : Int32) ≤ x2 then
      j45
    else
      if x1 ≤ 0 then
        j45
      else
        tbI tbBA (((4 : Int32) * x1) + a2) fun v13 =>
        if v13 = 0 then
          tbI tbKA x1 fun v14 =>
          L6 v14 (x2 + 1)
        else
          j45) lpN a1 (0 : Int32)
/-- HillBoxes$Body.runBody(III[II)I, one turn -/
noncomputable def fb_X0_runBody (g : Nat → Option Nat → Option Nat → Int32 → Int32 → Int32 → Int32 → AH → Option (Int32 × AH)) (o : Option Nat) (a1 : Int32) (a2 : Int32) (a3 : Int32) (a4 : Option Nat) (a5 : Int32) (h : AH) : Option (Int32 × AH) :=
  if a1 = 1 then
    fI h [0, 1, 2, 9] o 0 fun v1 =>
    some ((a3 + v1), h)
  else
  if a1 = 2 then
    fI h [0, 1, 2, 9] o 1 fun v2 =>
    rO h [0, 1, 2, 9] o <| cl (g 0 o a4 v2 (1 : Int32) a3 a5 h) fun v4 h3 =>
    fI h3 [0, 1, 2, 9] o 1 fun v5 =>
    rO h3 [0, 1, 2, 9] o <| cl (g 0 o a4 v5 (2 : Int32) (1 : Int32) a5 h3) fun v7 h6 =>
    some ((v4 - v7), h6)
  else
  if a1 = 10 then
    fI h [0, 1, 2, 9] o 1 fun v8 =>
    rO h [0, 1, 2, 9] o <| cl (g 0 o a4 v8 (0 : Int32) a3 a5 h) fun v10 h9 =>
    some ((v10 * (2 : Int32)), h9)
  else
  if a1 = 11 then
    fI h [0, 1, 2, 9] o 0 fun v11 =>
    some ((a3 ^^^ v11), h)
  else
  if a1 = 20 then
    rO h [0, 1, 2, 9] o <| cl (g 0 o a4 a2 (0 : Int32) a3 a5 h) fun v13 h12 =>
    vCN h12 o fun v16 h17 =>
    some ((v13 - v16), h17)
  else
  if a1 = 30 then
    rO h [0, 1, 2, 9] o <| cl (g 0 o a4 a2 (1 : Int32) a3 a5 h) fun v19 h18 =>
    fI h18 [0, 1, 2, 9] o 1 fun v20 =>
    rO h18 [0, 1, 2, 9] o <| cl (g 0 o a4 v20 (2 : Int32) (2 : Int32) a5 h18) fun v22 h21 =>
    some ((v19 + v22), h21)
  else
  if a1 = 40 then
    rO h [0, 1, 2, 9] o <| cl (g 0 o a4 a2 (2 : Int32) a3 a5 h) fun v24 h23 =>
    some ((v24 * (3 : Int32)), h23)
  else
  if a1 = 50 then
    rO h [0, 1, 2, 9] o <| cl (g 0 o a4 a2 (0 : Int32) a3 a5 h) fun v26 h25 =>
    some ((v26 ^^^ (5 : Int32)), h25)
  else
  if a1 = 51 then
    rO h [0, 1, 2, 9] o <| cl (g 0 o a4 a2 (3 : Int32) (a3 + (1 : Int32)) a5 h) fun v28 h27 =>
    some (v28, h27)
  else
  if a1 = 60 then
    rO h [0, 1, 2, 9] o <| cl (g 0 o a4 a2 (2 : Int32) a3 a5 h) fun v30 h29 =>
    some ((-v30), h29)
  else
  if a1 = 61 then
    rO h [0, 1, 2, 9] o <| cl (g 0 o a4 a2 (1 : Int32) a3 a5 h) fun v32 h31 =>
    some ((v32 - (1 : Int32)), h31)
  else
  if a1 = 70 then
    rO h [0, 1, 2, 9] o <| cl (g 0 o a4 a2 (3 : Int32) a3 a5 h) fun v34 h33 =>
    some ((v34 * (2 : Int32)), h33)
  else
  if a1 = 80 then
    rO h [0, 1, 2, 9] o <| cl (g 0 o a4 a2 (1 : Int32) a3 a5 h) fun v36 h35 =>
    rO h35 [0, 1, 2, 9] o <| cl (g 0 o a4 a2 (2 : Int32) a3 a5 h35) fun v38 h37 =>
    some ((v36 + v38), h37)
  else
    some ((0 : Int32), h)
noncomputable def G_X0_run : Nat → Nat → Option Nat → Option Nat → Int32 → Int32 → Int32 → Int32 → AH → Option (Int32 × AH)
  | 0 => fun _ _ _ _ _ _ _ _ => none
  | n + 1 => fun t p0 p1 p2 p3 p4 p5 h => if t = 0 then fb_X0_run (G_X0_run n) p0 p2 p3 p4 p1 p5 h else fb_X0_runBody (G_X0_run n) p0 p2 p3 p4 p1 p5 h
theorem eq_G_X0_run (n t : Nat) (p0 : Option Nat) (p1 : Option Nat) (p2 : Int32) (p3 : Int32) (p4 : Int32) (p5 : Int32) (h : AH) : G_X0_run (n + 1) t p0 p1 p2 p3 p4 p5 h = (if t = 0 then fb_X0_run (G_X0_run n) p0 p2 p3 p4 p1 p5 h else fb_X0_runBody (G_X0_run n) p0 p2 p3 p4 p1 p5 h) := by first | rfl | rw [G_X0_run]
noncomputable def f_X0_run (o : Option Nat) (a1 : Int32) (a2 : Int32) (a3 : Int32) (a4 : Option Nat) (a5 : Int32) (h : AH) : Option (Int32 × AH) := G_X0_run (opq 100) 0 o a4 a1 a2 a3 a5 h
noncomputable def f_X0_runBody (o : Option Nat) (a1 : Int32) (a2 : Int32) (a3 : Int32) (a4 : Option Nat) (a5 : Int32) (h : AH) : Option (Int32 × AH) := G_X0_run (opq 100) 1 o a4 a1 a2 a3 a5 h
def PG_X0_run (l : Launch) (D : DT) (n : Nat) : Prop := (∀ (p0 : Option Nat) (p1 : Option Nat) (p2 : Int32) (p3 : Int32) (p4 : Int32) (p5 : Int32) (h : AH) (r : Int32 × AH), G_X0_run n 0 p0 p1 p2 p3 p4 p5 h = some r → CM l D yX0_run cX0_run 8 (some .int) (1 + n) (20 + 60 * n) 0 0 [.inr (.inr p0), .inl p2, .inl p3, .inl p4, .inr (.inr p1), .inl p5] h (some (.int r.1)) r.2) ∧ (∀ (p0 : Option Nat) (p1 : Option Nat) (p2 : Int32) (p3 : Int32) (p4 : Int32) (p5 : Int32) (h : AH) (r : Int32 × AH), G_X0_run n 1 p0 p1 p2 p3 p4 p5 h = some r → CM l D yX0_runBody cX0_runBody 6 (some .int) (1 + n) (20 + 60 * n) 0 0 [.inr (.inr p0), .inl p2, .inl p3, .inl p4, .inr (.inr p1), .inl p5] h (some (.int r.1)) r.2)
set_option maxRecDepth 100000 in
set_option maxHeartbeats 4000000 in
theorem cs_X0_run (l : Launch) (D : DT) (nS : Nat) (ih : PG_X0_run l D nS) : ∀ (p0 : Option Nat) (p1 : Option Nat) (p2 : Int32) (p3 : Int32) (p4 : Int32) (p5 : Int32) (h : AH) (r : Int32 × AH), G_X0_run (nS + 1) 0 p0 p1 p2 p3 p4 p5 h = some r → CM l D yX0_run cX0_run 8 (some .int) (1 + (nS + 1)) (20 + 60 * (nS + 1)) 0 0 [.inr (.inr p0), .inl p2, .inl p3, .inl p4, .inr (.inr p1), .inl p5] h (some (.int r.1)) r.2 := by
  unfold PG_X0_run at ih
  intro o a4 a1 a2 a3 a5 h r hf
  rw [eq_G_X0_run] at hf
  have hf : fb_X0_run (G_X0_run nS) o a1 a2 a3 a4 a5 h = some r := (if_pos rfl).symm.trans hf
  refine CM.of (by decide) (Nat.le_of_ble_eq_true rfl) (fun X hl C hD hX hnm E => ?_)
  subst hl
  subst hD
  have C : CX X RX0 cX0_run 8 := C
  show WW X h 0 0 0 [some (rB (xD X).1 o), some (.int a1), some (.int a2), some (.int a3), some (rB (xD X).1 a4), some (.int a5), none, none] []
  unfold fb_X0_run at hf
  refine s_iload_n C dX0_run_0 rfl ?_
  refine s_istore C dX0_run_1 (by decide) (nc_i rfl) (lv' := [some (rB (xD X).1 o), some (.int a1), some (.int a2), some (.int a3), some (rB (xD X).1 a4), some (.int a5), some (.int a1), none]) rfl ?_
  refine s_iconst C dX0_run_3 (v := (0 : Int32)) (by decide) ?_
  refine s_istore C dX0_run_4 (by decide) (nc_i rfl) (lv' := [some (rB (xD X).1 o), some (.int a1), some (.int a2), some (.int a3), some (rB (xD X).1 a4), some (.int a5), some (.int a1), some (.int (0 : Int32))]) rfl ?_
  refine s_lp2 hf (fun G6 z6 q6 hf => ?_)
  have k6 : ∀ (n : Nat) (x1 : Int32) (x2 : Int32), G6 n x1 x2 = some r → WW X h 0 0 6 [some (rB (xD X).1 o), none, some (.int a2), some (.int a3), some (rB (xD X).1 a4), some (.int a5), some (.int x1), some (.int x2)] [] := by
    intro n
    induction n with
    | zero =>
      intro x1 x2 hf
      rw [z6] at hf
      cases hf
    | succ n ih6 =>
      intro x1 x2 hf
      have hf := (q6 n x1 x2).symm.trans hf
      refine s_iload C dX0_run_6 rfl ?_
      refine s_bipush C dX0_run_8 (v := (8 : Int32)) (by decide) ?_
      refine s_jn hf (fun j45 e45 hf => ?_)
      have k45 : j45  = some r → WW X h 0 0 45 [some (rB (xD X).1 o), none, some (.int a2), some (.int a3), some (rB (xD X).1 a4), some (.int a5), some (.int x1), none] [] := by
        intro  hf
        rw [e45] at hf
        refine s_iload C dX0_run_45 rfl ?_
        refine s_jn hf (fun j57 e57 hf => ?_)
        have k57 : j57  = some r → WW X h 0 0 57 [none, none, none, none, none, none, none, none] [] := by
          intro  hf
          rw [e57] at hf
          refine s_iconst C dX0_run_57 (v := (0 : Int32)) (by decide) ?_
          exact s_ireturn C E dX0_run_58 hf (Nat.le_of_ble_eq_true rfl) (Nat.le_of_ble_eq_true rfl)
        refine s_if_lt (tgt := 57) C dX0_run_47 (by decide) hf (fun hf => ?_) (fun hf => ?_)
        · refine s_weak (lv' := [none, none, none, none, none, none, none, none]) trivial ?_
          exact k57 hf
        · refine s_iload C dX0_run_50 rfl ?_
          refine s_bipush C dX0_run_52 (v := (40 : Int32)) (by decide) ?_
          refine s_icmp_le (tgt := 59) C dX0_run_54 (by decide) hf (fun hf => ?_) (fun hf => ?_)
          · refine s_getsI C C.2.2.2.2.2.2.2.2.2.2.1 wfl_X0_26 dX0_run_59 (fun t59 t59h => ?_)
            refine s_iconst C dX0_run_62 (v := (4 : Int32)) (by decide) ?_
            refine s_iload C dX0_run_63 rfl ?_
            refine s_imul C dX0_run_65 ?_
            refine s_iload_n C dX0_run_66 rfl ?_
            refine s_iadd C dX0_run_67 ?_
            refine s_tbI C t59h dX0_run_68 hf (fun v3 hf => ?_)
            refine s_istore C dX0_run_69 (by decide) (nc_i rfl) (lv' := [some (rB (xD X).1 o), none, some (.int a2), some (.int a3), some (rB (xD X).1 a4), some (.int a5), some (.int x1), some (.int v3)]) rfl ?_
            refine s_aload C dX0_run_71 rfl ?_
            refine s_bipush C dX0_run_73 (v := (24 : Int32)) (by decide) ?_
            refine s_iaload C dX0_run_75 hf (fun v4 hf => ?_)
            refine s_bipush C dX0_run_76 (v := (24 : Int32)) (by decide) ?_
            refine s_jn hf (fun j91 e91 hf => ?_)
            have k91 : ∀ (h5 : AH), j91 h5 = some r → WW X h5 0 0 91 [some (rB (xD X).1 o), none, none, some (.int a3), some (rB (xD X).1 a4), some (.int a5), some (.int x1), some (.int v3)] [] := by
              intro h5 hf
              rw [e91] at hf
              refine s_aload C dX0_run_91 rfl ?_
              refine s_bipush C dX0_run_93 (v := (24 : Int32)) (by decide) ?_
              refine s_dup2 C dX0_run_95 c1_i c1_r ?_
              refine s_iaload C dX0_run_96 hf (fun v6 hf => ?_)
              refine s_iconst C dX0_run_97 (v := (1 : Int32)) (by decide) ?_
              refine s_iadd C dX0_run_98 ?_
              refine s_iastore C dX0_run_99 hf (fun h7 hf => ?_)
              refine s_aload_n C dX0_run_100 rfl ?_
              refine s_iload C dX0_run_101 rfl ?_
              refine s_getsIN C C.2.2.2.2.2.2.2.2.2.1 wfn_X0_18 dX0_run_103 (fun t103 t103h => ?_)
              refine s_iload C dX0_run_106 rfl ?_
              refine s_tbI C t103h dX0_run_108 hf (fun v8 hf => ?_)
              refine s_iload_n C dX0_run_109 rfl ?_
              refine s_aload C dX0_run_110 rfl ?_
              refine s_iload C dX0_run_112 rfl ?_
              refine s_iconst C dX0_run_114 (v := (1 : Int32)) (by decide) ?_
              refine s_iadd C dX0_run_115 ?_
              refine s_callV (rvf := fun x => some (.int x)) (st := []) (fr := (1 + nS)) (lo := (20 + 60 * nS)) (mc := 0) (ms := 0) C [0, 1, 2, 9] wc_X0_runBody wml_X0_29 wim_X0_runBody wsl_0_1_2_9_X0_runBody dX0_run_116 (As := [.inl v3, .inl v8, .inl a3, .inr (.inr a4), .inl (a5 + (1 : Int32))]) rfl hf (fun x h' hF => ih.2 o a4 v3 v8 a3 (a5 + (1 : Int32)) h7 (x, h') hF) rfl (Nat.le_of_ble_eq_true rfl) (room_ok hX (by omega) (by omega)) (cell_ok hX (Nat.le_of_ble_eq_true rfl) (Nat.le_of_ble_eq_true rfl)) (fun v10 h9 hf => ?_)
              exact s_ireturn C E dX0_run_119 hf (Nat.le_of_ble_eq_true rfl) (Nat.le_of_ble_eq_true rfl)
            refine s_icmp_ge (tgt := 91) C dX0_run_78 (by decide) hf (fun hf => ?_) (fun hf => ?_)
            · refine s_weak (lv' := [some (rB (xD X).1 o), none, none, some (.int a3), some (rB (xD X).1 a4), some (.int a5), some (.int x1), some (.int v3)]) ⟨rfl, ⟨rfl, ⟨rfl, ⟨rfl, ⟨rfl, ⟨rfl, trivial⟩⟩⟩⟩⟩⟩ ?_
              exact k91 _ hf
            · refine s_aload C dX0_run_81 rfl ?_
              refine s_aload C dX0_run_83 rfl ?_
              refine s_bipush C dX0_run_85 (v := (24 : Int32)) (by decide) ?_
              refine s_iaload C dX0_run_87 hf (fun v11 hf => ?_)
              refine s_iload C dX0_run_88 rfl ?_
              refine s_iastore C dX0_run_90 hf (fun h12 hf => ?_)
              refine s_weak (lv' := [some (rB (xD X).1 o), none, none, some (.int a3), some (rB (xD X).1 a4), some (.int a5), some (.int x1), some (.int v3)]) ⟨rfl, ⟨rfl, ⟨rfl, ⟨rfl, ⟨rfl, ⟨rfl, trivial⟩⟩⟩⟩⟩⟩ ?_
              exact k91 _ hf
          · refine s_weak (lv' := [none, none, none, none, none, none, none, none]) trivial ?_
            exact k57 hf
      refine s_icmp_ge (tgt := 45) C dX0_run_10 (by decide) hf (fun hf => ?_) (fun hf => ?_)
      · refine s_weak (lv' := [some (rB (xD X).1 o), none, some (.int a2), some (.int a3), some (rB (xD X).1 a4), some (.int a5), some (.int x1), none]) ⟨rfl, ⟨rfl, ⟨rfl, ⟨rfl, ⟨rfl, ⟨rfl, trivial⟩⟩⟩⟩⟩⟩ ?_
        exact k45 hf
      · refine s_iload C dX0_run_13 rfl ?_
        refine s_if_le (tgt := 45) C dX0_run_15 (by decide) hf (fun hf => ?_) (fun hf => ?_)
        · refine s_weak (lv' := [some (rB (xD X).1 o), none, some (.int a2), some (.int a3), some (rB (xD X).1 a4), some (.int a5), some (.int x1), none]) ⟨rfl, ⟨rfl, ⟨rfl, ⟨rfl, ⟨rfl, ⟨rfl, trivial⟩⟩⟩⟩⟩⟩ ?_
          exact k45 hf
        · refine s_getsI C C.2.2.2.2.2.2.2.2.2.2.1 wfl_X0_26 dX0_run_18 (fun t18 t18h => ?_)
          refine s_iconst C dX0_run_21 (v := (4 : Int32)) (by decide) ?_
          refine s_iload C dX0_run_22 rfl ?_
          refine s_imul C dX0_run_24 ?_
          refine s_iload_n C dX0_run_25 rfl ?_
          refine s_iadd C dX0_run_26 ?_
          refine s_tbI C t18h dX0_run_27 hf (fun v13 hf => ?_)
          refine s_if_ne (tgt := 45) C dX0_run_28 (by decide) hf (fun hf => ?_) (fun hf => ?_)
          · refine s_weak (lv' := [some (rB (xD X).1 o), none, some (.int a2), some (.int a3), some (rB (xD X).1 a4), some (.int a5), some (.int x1), none]) ⟨rfl, ⟨rfl, ⟨rfl, ⟨rfl, ⟨rfl, ⟨rfl, trivial⟩⟩⟩⟩⟩⟩ ?_
            exact k45 hf
          · refine s_getsIN C C.2.2.2.2.2.2.2.2.2.1 wfn_X0_18 dX0_run_31 (fun t31 t31h => ?_)
            refine s_iload C dX0_run_34 rfl ?_
            refine s_tbI C t31h dX0_run_36 hf (fun v14 hf => ?_)
            refine s_istore C dX0_run_37 (by decide) (nc_i rfl) (lv' := [some (rB (xD X).1 o), none, some (.int a2), some (.int a3), some (rB (xD X).1 a4), some (.int a5), some (.int v14), some (.int x2)]) rfl ?_
            refine s_iinc C dX0_run_39 (v := (x2 + 1)) rfl rfl (by decide) (nc_i rfl) (lv' := [some (rB (xD X).1 o), none, some (.int a2), some (.int a3), some (rB (xD X).1 a4), some (.int a5), some (.int v14), some (.int (x2 + 1))]) rfl ?_
            refine s_goto (tgt := 6) C dX0_run_42 (by decide) ?_
            exact ih6 _ _ hf
  refine s_weak (lv' := [some (rB (xD X).1 o), none, some (.int a2), some (.int a3), some (rB (xD X).1 a4), some (.int a5), some (.int a1), some (.int (0 : Int32))]) ⟨rfl, ⟨rfl, ⟨rfl, ⟨rfl, ⟨rfl, ⟨rfl, ⟨rfl, trivial⟩⟩⟩⟩⟩⟩⟩ ?_
  exact k6 lpN _ _ hf
set_option maxRecDepth 100000 in
set_option maxHeartbeats 4000000 in
theorem cs_X0_runBody (l : Launch) (D : DT) (nS : Nat) (ih : PG_X0_run l D nS) : ∀ (p0 : Option Nat) (p1 : Option Nat) (p2 : Int32) (p3 : Int32) (p4 : Int32) (p5 : Int32) (h : AH) (r : Int32 × AH), G_X0_run (nS + 1) 1 p0 p1 p2 p3 p4 p5 h = some r → CM l D yX0_runBody cX0_runBody 6 (some .int) (1 + (nS + 1)) (20 + 60 * (nS + 1)) 0 0 [.inr (.inr p0), .inl p2, .inl p3, .inl p4, .inr (.inr p1), .inl p5] h (some (.int r.1)) r.2 := by
  unfold PG_X0_run at ih
  intro o a4 a1 a2 a3 a5 h r hf
  rw [eq_G_X0_run] at hf
  have hf : fb_X0_runBody (G_X0_run nS) o a1 a2 a3 a4 a5 h = some r := (if_neg (by decide)).symm.trans (hf)
  refine CM.of (by decide) (Nat.le_of_ble_eq_true rfl) (fun X hl C hD hX hnm E => ?_)
  subst hl
  subst hD
  have C : CX X RX0 cX0_runBody 6 := C
  show WW X h 0 0 0 [some (rB (xD X).1 o), some (.int a1), some (.int a2), some (.int a3), some (rB (xD X).1 a4), some (.int a5)] []
  unfold fb_X0_runBody at hf
  refine s_iload_n C dX0_runBody_0 rfl ?_
  refine s_ite hf (fun e hf => ?_) (fun n0 hf => ?_)
  · refine s_lsw1 (tgt := 116) C dX0_runBody_1 (by decide) e rfl (by decide) ?_
    refine s_iload_n C dX0_runBody_116 rfl ?_
    refine s_aload_n C dX0_runBody_117 rfl ?_
    refine s_getI C fl_X0_9 dX0_runBody_118 hf (fun v1 hf => ?_)
    refine s_iadd C dX0_runBody_121 ?_
    exact s_ireturn C E dX0_runBody_122 hf (Nat.le_of_ble_eq_true rfl) (Nat.le_of_ble_eq_true rfl)
  refine s_ite hf (fun e hf => ?_) (fun n1 hf => ?_)
  · refine s_lsw1 (tgt := 123) C dX0_runBody_1 (by decide) e rfl (by decide) ?_
    refine s_aload_n C dX0_runBody_123 rfl ?_
    refine s_aload_n C dX0_runBody_124 rfl ?_
    refine s_getI C fl_X0_15 dX0_runBody_125 hf (fun v2 hf => ?_)
    refine s_iconst C dX0_runBody_128 (v := (1 : Int32)) (by decide) ?_
    refine s_iload_n C dX0_runBody_129 rfl ?_
    refine s_aload C dX0_runBody_130 rfl ?_
    refine s_iload C dX0_runBody_132 rfl ?_
    refine s_callV (rvf := fun x => some (.int x)) (st := []) (fr := (1 + nS)) (lo := (20 + 60 * nS)) (mc := 0) (ms := 0) C [0, 1, 2, 9] wc_X0_run wml_X0_22 wim_X0_run wsl_0_1_2_9_X0_run dX0_runBody_134 (As := [.inl v2, .inl (1 : Int32), .inl a3, .inr (.inr a4), .inl a5]) rfl hf (fun x h' hF => ih.1 o a4 v2 (1 : Int32) a3 a5 h (x, h') hF) rfl (Nat.le_of_ble_eq_true rfl) (room_ok hX (by omega) (by omega)) (cell_ok hX (Nat.le_of_ble_eq_true rfl) (Nat.le_of_ble_eq_true rfl)) (fun v4 h3 hf => ?_)
    refine s_aload_n C dX0_runBody_137 rfl ?_
    refine s_aload_n C dX0_runBody_138 rfl ?_
    refine s_getI C fl_X0_15 dX0_runBody_139 hf (fun v5 hf => ?_)
    refine s_iconst C dX0_runBody_142 (v := (2 : Int32)) (by decide) ?_
    refine s_iconst C dX0_runBody_143 (v := (1 : Int32)) (by decide) ?_
    refine s_aload C dX0_runBody_144 rfl ?_
    refine s_iload C dX0_runBody_146 rfl ?_
    refine s_callV (rvf := fun x => some (.int x)) (st := [.int v4]) (fr := (1 + nS)) (lo := (20 + 60 * nS)) (mc := 0) (ms := 0) C [0, 1, 2, 9] wc_X0_run wml_X0_22 wim_X0_run wsl_0_1_2_9_X0_run dX0_runBody_148 (As := [.inl v5, .inl (2 : Int32), .inl (1 : Int32), .inr (.inr a4), .inl a5]) rfl hf (fun x h' hF => ih.1 o a4 v5 (2 : Int32) (1 : Int32) a5 h3 (x, h') hF) rfl (Nat.le_of_ble_eq_true rfl) (room_ok hX (by omega) (by omega)) (cell_ok hX (Nat.le_of_ble_eq_true rfl) (Nat.le_of_ble_eq_true rfl)) (fun v7 h6 hf => ?_)
    refine s_isub C dX0_runBody_151 ?_
    exact s_ireturn C E dX0_runBody_152 hf (Nat.le_of_ble_eq_true rfl) (Nat.le_of_ble_eq_true rfl)
  refine s_ite hf (fun e hf => ?_) (fun n2 hf => ?_)
  · refine s_lsw1 (tgt := 153) C dX0_runBody_1 (by decide) e rfl (by decide) ?_
    refine s_aload_n C dX0_runBody_153 rfl ?_
    refine s_aload_n C dX0_runBody_154 rfl ?_
    refine s_getI C fl_X0_15 dX0_runBody_155 hf (fun v8 hf => ?_)
    refine s_iconst C dX0_runBody_158 (v := (0 : Int32)) (by decide) ?_
    refine s_iload_n C dX0_runBody_159 rfl ?_
    refine s_aload C dX0_runBody_160 rfl ?_
    refine s_iload C dX0_runBody_162 rfl ?_
    refine s_callV (rvf := fun x => some (.int x)) (st := []) (fr := (1 + nS)) (lo := (20 + 60 * nS)) (mc := 0) (ms := 0) C [0, 1, 2, 9] wc_X0_run wml_X0_22 wim_X0_run wsl_0_1_2_9_X0_run dX0_runBody_164 (As := [.inl v8, .inl (0 : Int32), .inl a3, .inr (.inr a4), .inl a5]) rfl hf (fun x h' hF => ih.1 o a4 v8 (0 : Int32) a3 a5 h (x, h') hF) rfl (Nat.le_of_ble_eq_true rfl) (room_ok hX (by omega) (by omega)) (cell_ok hX (Nat.le_of_ble_eq_true rfl) (Nat.le_of_ble_eq_true rfl)) (fun v10 h9 hf => ?_)
    refine s_iconst C dX0_runBody_167 (v := (2 : Int32)) (by decide) ?_
    refine s_imul C dX0_runBody_168 ?_
    exact s_ireturn C E dX0_runBody_169 hf (Nat.le_of_ble_eq_true rfl) (Nat.le_of_ble_eq_true rfl)
  refine s_ite hf (fun e hf => ?_) (fun n3 hf => ?_)
  · refine s_lsw1 (tgt := 170) C dX0_runBody_1 (by decide) e rfl (by decide) ?_
    refine s_iload_n C dX0_runBody_170 rfl ?_
    refine s_aload_n C dX0_runBody_171 rfl ?_
    refine s_getI C fl_X0_9 dX0_runBody_172 hf (fun v11 hf => ?_)
    refine s_ixor C dX0_runBody_175 ?_
    exact s_ireturn C E dX0_runBody_176 hf (Nat.le_of_ble_eq_true rfl) (Nat.le_of_ble_eq_true rfl)
  refine s_ite hf (fun e hf => ?_) (fun n4 hf => ?_)
  · refine s_lsw1 (tgt := 177) C dX0_runBody_1 (by decide) e rfl (by decide) ?_
    refine s_aload_n C dX0_runBody_177 rfl ?_
    refine s_iload_n C dX0_runBody_178 rfl ?_
    refine s_iconst C dX0_runBody_179 (v := (0 : Int32)) (by decide) ?_
    refine s_iload_n C dX0_runBody_180 rfl ?_
    refine s_aload C dX0_runBody_181 rfl ?_
    refine s_iload C dX0_runBody_183 rfl ?_
    refine s_callV (rvf := fun x => some (.int x)) (st := []) (fr := (1 + nS)) (lo := (20 + 60 * nS)) (mc := 0) (ms := 0) C [0, 1, 2, 9] wc_X0_run wml_X0_22 wim_X0_run wsl_0_1_2_9_X0_run dX0_runBody_185 (As := [.inl a2, .inl (0 : Int32), .inl a3, .inr (.inr a4), .inl a5]) rfl hf (fun x h' hF => ih.1 o a4 a2 (0 : Int32) a3 a5 h (x, h') hF) rfl (Nat.le_of_ble_eq_true rfl) (room_ok hX (by omega) (by omega)) (cell_ok hX (Nat.le_of_ble_eq_true rfl) (Nat.le_of_ble_eq_true rfl)) (fun v13 h12 hf => ?_)
    refine s_aload_n C dX0_runBody_188 rfl ?_
    refine s_vCN C dX0_runBody_189 hf (Nat.le_of_ble_eq_true rfl) (room_n hX (by omega) (by omega)) (cell_ok hX (Nat.le_of_ble_eq_true rfl) (Nat.le_of_ble_eq_true rfl)) (fun v16 h17 hf => ?_)
    refine s_isub C dX0_runBody_192 ?_
    exact s_ireturn C E dX0_runBody_193 hf (Nat.le_of_ble_eq_true rfl) (Nat.le_of_ble_eq_true rfl)
  refine s_ite hf (fun e hf => ?_) (fun n5 hf => ?_)
  · refine s_lsw1 (tgt := 194) C dX0_runBody_1 (by decide) e rfl (by decide) ?_
    refine s_aload_n C dX0_runBody_194 rfl ?_
    refine s_iload_n C dX0_runBody_195 rfl ?_
    refine s_iconst C dX0_runBody_196 (v := (1 : Int32)) (by decide) ?_
    refine s_iload_n C dX0_runBody_197 rfl ?_
    refine s_aload C dX0_runBody_198 rfl ?_
    refine s_iload C dX0_runBody_200 rfl ?_
    refine s_callV (rvf := fun x => some (.int x)) (st := []) (fr := (1 + nS)) (lo := (20 + 60 * nS)) (mc := 0) (ms := 0) C [0, 1, 2, 9] wc_X0_run wml_X0_22 wim_X0_run wsl_0_1_2_9_X0_run dX0_runBody_202 (As := [.inl a2, .inl (1 : Int32), .inl a3, .inr (.inr a4), .inl a5]) rfl hf (fun x h' hF => ih.1 o a4 a2 (1 : Int32) a3 a5 h (x, h') hF) rfl (Nat.le_of_ble_eq_true rfl) (room_ok hX (by omega) (by omega)) (cell_ok hX (Nat.le_of_ble_eq_true rfl) (Nat.le_of_ble_eq_true rfl)) (fun v19 h18 hf => ?_)
    refine s_aload_n C dX0_runBody_205 rfl ?_
    refine s_aload_n C dX0_runBody_206 rfl ?_
    refine s_getI C fl_X0_15 dX0_runBody_207 hf (fun v20 hf => ?_)
    refine s_iconst C dX0_runBody_210 (v := (2 : Int32)) (by decide) ?_
    refine s_iconst C dX0_runBody_211 (v := (2 : Int32)) (by decide) ?_
    refine s_aload C dX0_runBody_212 rfl ?_
    refine s_iload C dX0_runBody_214 rfl ?_
    refine s_callV (rvf := fun x => some (.int x)) (st := [.int v19]) (fr := (1 + nS)) (lo := (20 + 60 * nS)) (mc := 0) (ms := 0) C [0, 1, 2, 9] wc_X0_run wml_X0_22 wim_X0_run wsl_0_1_2_9_X0_run dX0_runBody_216 (As := [.inl v20, .inl (2 : Int32), .inl (2 : Int32), .inr (.inr a4), .inl a5]) rfl hf (fun x h' hF => ih.1 o a4 v20 (2 : Int32) (2 : Int32) a5 h18 (x, h') hF) rfl (Nat.le_of_ble_eq_true rfl) (room_ok hX (by omega) (by omega)) (cell_ok hX (Nat.le_of_ble_eq_true rfl) (Nat.le_of_ble_eq_true rfl)) (fun v22 h21 hf => ?_)
    refine s_iadd C dX0_runBody_219 ?_
    exact s_ireturn C E dX0_runBody_220 hf (Nat.le_of_ble_eq_true rfl) (Nat.le_of_ble_eq_true rfl)
  refine s_ite hf (fun e hf => ?_) (fun n6 hf => ?_)
  · refine s_lsw1 (tgt := 221) C dX0_runBody_1 (by decide) e rfl (by decide) ?_
    refine s_aload_n C dX0_runBody_221 rfl ?_
    refine s_iload_n C dX0_runBody_222 rfl ?_
    refine s_iconst C dX0_runBody_223 (v := (2 : Int32)) (by decide) ?_
    refine s_iload_n C dX0_runBody_224 rfl ?_
    refine s_aload C dX0_runBody_225 rfl ?_
    refine s_iload C dX0_runBody_227 rfl ?_
    refine s_callV (rvf := fun x => some (.int x)) (st := []) (fr := (1 + nS)) (lo := (20 + 60 * nS)) (mc := 0) (ms := 0) C [0, 1, 2, 9] wc_X0_run wml_X0_22 wim_X0_run wsl_0_1_2_9_X0_run dX0_runBody_229 (As := [.inl a2, .inl (2 : Int32), .inl a3, .inr (.inr a4), .inl a5]) rfl hf (fun x h' hF => ih.1 o a4 a2 (2 : Int32) a3 a5 h (x, h') hF) rfl (Nat.le_of_ble_eq_true rfl) (room_ok hX (by omega) (by omega)) (cell_ok hX (Nat.le_of_ble_eq_true rfl) (Nat.le_of_ble_eq_true rfl)) (fun v24 h23 hf => ?_)
    refine s_iconst C dX0_runBody_232 (v := (3 : Int32)) (by decide) ?_
    refine s_imul C dX0_runBody_233 ?_
    exact s_ireturn C E dX0_runBody_234 hf (Nat.le_of_ble_eq_true rfl) (Nat.le_of_ble_eq_true rfl)
  refine s_ite hf (fun e hf => ?_) (fun n7 hf => ?_)
  · refine s_lsw1 (tgt := 235) C dX0_runBody_1 (by decide) e rfl (by decide) ?_
    refine s_aload_n C dX0_runBody_235 rfl ?_
    refine s_iload_n C dX0_runBody_236 rfl ?_
    refine s_iconst C dX0_runBody_237 (v := (0 : Int32)) (by decide) ?_
    refine s_iload_n C dX0_runBody_238 rfl ?_
    refine s_aload C dX0_runBody_239 rfl ?_
    refine s_iload C dX0_runBody_241 rfl ?_
    refine s_callV (rvf := fun x => some (.int x)) (st := []) (fr := (1 + nS)) (lo := (20 + 60 * nS)) (mc := 0) (ms := 0) C [0, 1, 2, 9] wc_X0_run wml_X0_22 wim_X0_run wsl_0_1_2_9_X0_run dX0_runBody_243 (As := [.inl a2, .inl (0 : Int32), .inl a3, .inr (.inr a4), .inl a5]) rfl hf (fun x h' hF => ih.1 o a4 a2 (0 : Int32) a3 a5 h (x, h') hF) rfl (Nat.le_of_ble_eq_true rfl) (room_ok hX (by omega) (by omega)) (cell_ok hX (Nat.le_of_ble_eq_true rfl) (Nat.le_of_ble_eq_true rfl)) (fun v26 h25 hf => ?_)
    refine s_iconst C dX0_runBody_246 (v := (5 : Int32)) (by decide) ?_
    refine s_ixor C dX0_runBody_247 ?_
    exact s_ireturn C E dX0_runBody_248 hf (Nat.le_of_ble_eq_true rfl) (Nat.le_of_ble_eq_true rfl)
  refine s_ite hf (fun e hf => ?_) (fun n8 hf => ?_)
  · refine s_lsw1 (tgt := 249) C dX0_runBody_1 (by decide) e rfl (by decide) ?_
    refine s_aload_n C dX0_runBody_249 rfl ?_
    refine s_iload_n C dX0_runBody_250 rfl ?_
    refine s_iconst C dX0_runBody_251 (v := (3 : Int32)) (by decide) ?_
    refine s_iload_n C dX0_runBody_252 rfl ?_
    refine s_iconst C dX0_runBody_253 (v := (1 : Int32)) (by decide) ?_
    refine s_iadd C dX0_runBody_254 ?_
    refine s_aload C dX0_runBody_255 rfl ?_
    refine s_iload C dX0_runBody_257 rfl ?_
    refine s_callV (rvf := fun x => some (.int x)) (st := []) (fr := (1 + nS)) (lo := (20 + 60 * nS)) (mc := 0) (ms := 0) C [0, 1, 2, 9] wc_X0_run wml_X0_22 wim_X0_run wsl_0_1_2_9_X0_run dX0_runBody_259 (As := [.inl a2, .inl (3 : Int32), .inl (a3 + (1 : Int32)), .inr (.inr a4), .inl a5]) rfl hf (fun x h' hF => ih.1 o a4 a2 (3 : Int32) (a3 + (1 : Int32)) a5 h (x, h') hF) rfl (Nat.le_of_ble_eq_true rfl) (room_ok hX (by omega) (by omega)) (cell_ok hX (Nat.le_of_ble_eq_true rfl) (Nat.le_of_ble_eq_true rfl)) (fun v28 h27 hf => ?_)
    exact s_ireturn C E dX0_runBody_262 hf (Nat.le_of_ble_eq_true rfl) (Nat.le_of_ble_eq_true rfl)
  refine s_ite hf (fun e hf => ?_) (fun n9 hf => ?_)
  · refine s_lsw1 (tgt := 263) C dX0_runBody_1 (by decide) e rfl (by decide) ?_
    refine s_aload_n C dX0_runBody_263 rfl ?_
    refine s_iload_n C dX0_runBody_264 rfl ?_
    refine s_iconst C dX0_runBody_265 (v := (2 : Int32)) (by decide) ?_
    refine s_iload_n C dX0_runBody_266 rfl ?_
    refine s_aload C dX0_runBody_267 rfl ?_
    refine s_iload C dX0_runBody_269 rfl ?_
    refine s_callV (rvf := fun x => some (.int x)) (st := []) (fr := (1 + nS)) (lo := (20 + 60 * nS)) (mc := 0) (ms := 0) C [0, 1, 2, 9] wc_X0_run wml_X0_22 wim_X0_run wsl_0_1_2_9_X0_run dX0_runBody_271 (As := [.inl a2, .inl (2 : Int32), .inl a3, .inr (.inr a4), .inl a5]) rfl hf (fun x h' hF => ih.1 o a4 a2 (2 : Int32) a3 a5 h (x, h') hF) rfl (Nat.le_of_ble_eq_true rfl) (room_ok hX (by omega) (by omega)) (cell_ok hX (Nat.le_of_ble_eq_true rfl) (Nat.le_of_ble_eq_true rfl)) (fun v30 h29 hf => ?_)
    refine s_ineg C dX0_runBody_274 ?_
    exact s_ireturn C E dX0_runBody_275 hf (Nat.le_of_ble_eq_true rfl) (Nat.le_of_ble_eq_true rfl)
  refine s_ite hf (fun e hf => ?_) (fun n10 hf => ?_)
  · refine s_lsw1 (tgt := 276) C dX0_runBody_1 (by decide) e rfl (by decide) ?_
    refine s_aload_n C dX0_runBody_276 rfl ?_
    refine s_iload_n C dX0_runBody_277 rfl ?_
    refine s_iconst C dX0_runBody_278 (v := (1 : Int32)) (by decide) ?_
    refine s_iload_n C dX0_runBody_279 rfl ?_
    refine s_aload C dX0_runBody_280 rfl ?_
    refine s_iload C dX0_runBody_282 rfl ?_
    refine s_callV (rvf := fun x => some (.int x)) (st := []) (fr := (1 + nS)) (lo := (20 + 60 * nS)) (mc := 0) (ms := 0) C [0, 1, 2, 9] wc_X0_run wml_X0_22 wim_X0_run wsl_0_1_2_9_X0_run dX0_runBody_284 (As := [.inl a2, .inl (1 : Int32), .inl a3, .inr (.inr a4), .inl a5]) rfl hf (fun x h' hF => ih.1 o a4 a2 (1 : Int32) a3 a5 h (x, h') hF) rfl (Nat.le_of_ble_eq_true rfl) (room_ok hX (by omega) (by omega)) (cell_ok hX (Nat.le_of_ble_eq_true rfl) (Nat.le_of_ble_eq_true rfl)) (fun v32 h31 hf => ?_)
    refine s_iconst C dX0_runBody_287 (v := (1 : Int32)) (by decide) ?_
    refine s_isub C dX0_runBody_288 ?_
    exact s_ireturn C E dX0_runBody_289 hf (Nat.le_of_ble_eq_true rfl) (Nat.le_of_ble_eq_true rfl)
  refine s_ite hf (fun e hf => ?_) (fun n11 hf => ?_)
  · refine s_lsw1 (tgt := 290) C dX0_runBody_1 (by decide) e rfl (by decide) ?_
    refine s_aload_n C dX0_runBody_290 rfl ?_
    refine s_iload_n C dX0_runBody_291 rfl ?_
    refine s_iconst C dX0_runBody_292 (v := (3 : Int32)) (by decide) ?_
    refine s_iload_n C dX0_runBody_293 rfl ?_
    refine s_aload C dX0_runBody_294 rfl ?_
    refine s_iload C dX0_runBody_296 rfl ?_
    refine s_callV (rvf := fun x => some (.int x)) (st := []) (fr := (1 + nS)) (lo := (20 + 60 * nS)) (mc := 0) (ms := 0) C [0, 1, 2, 9] wc_X0_run wml_X0_22 wim_X0_run wsl_0_1_2_9_X0_run dX0_runBody_298 (As := [.inl a2, .inl (3 : Int32), .inl a3, .inr (.inr a4), .inl a5]) rfl hf (fun x h' hF => ih.1 o a4 a2 (3 : Int32) a3 a5 h (x, h') hF) rfl (Nat.le_of_ble_eq_true rfl) (room_ok hX (by omega) (by omega)) (cell_ok hX (Nat.le_of_ble_eq_true rfl) (Nat.le_of_ble_eq_true rfl)) (fun v34 h33 hf => ?_)
    refine s_iconst C dX0_runBody_301 (v := (2 : Int32)) (by decide) ?_
    refine s_imul C dX0_runBody_302 ?_
    exact s_ireturn C E dX0_runBody_303 hf (Nat.le_of_ble_eq_true rfl) (Nat.le_of_ble_eq_true rfl)
  refine s_ite hf (fun e hf => ?_) (fun n12 hf => ?_)
  · refine s_lsw1 (tgt := 304) C dX0_runBody_1 (by decide) e rfl (by decide) ?_
    refine s_aload_n C dX0_runBody_304 rfl ?_
    refine s_iload_n C dX0_runBody_305 rfl ?_
    refine s_iconst C dX0_runBody_306 (v := (1 : Int32)) (by decide) ?_
    refine s_iload_n C dX0_runBody_307 rfl ?_
    refine s_aload C dX0_runBody_308 rfl ?_
    refine s_iload C dX0_runBody_310 rfl ?_
    refine s_callV (rvf := fun x => some (.int x)) (st := []) (fr := (1 + nS)) (lo := (20 + 60 * nS)) (mc := 0) (ms := 0) C [0, 1, 2, 9] wc_X0_run wml_X0_22 wim_X0_run wsl_0_1_2_9_X0_run dX0_runBody_312 (As := [.inl a2, .inl (1 : Int32), .inl a3, .inr (.inr a4), .inl a5]) rfl hf (fun x h' hF => ih.1 o a4 a2 (1 : Int32) a3 a5 h (x, h') hF) rfl (Nat.le_of_ble_eq_true rfl) (room_ok hX (by omega) (by omega)) (cell_ok hX (Nat.le_of_ble_eq_true rfl) (Nat.le_of_ble_eq_true rfl)) (fun v36 h35 hf => ?_)
    refine s_aload_n C dX0_runBody_315 rfl ?_
    refine s_iload_n C dX0_runBody_316 rfl ?_
    refine s_iconst C dX0_runBody_317 (v := (2 : Int32)) (by decide) ?_
    refine s_iload_n C dX0_runBody_318 rfl ?_
    refine s_aload C dX0_runBody_319 rfl ?_
    refine s_iload C dX0_runBody_321 rfl ?_
    refine s_callV (rvf := fun x => some (.int x)) (st := [.int v36]) (fr := (1 + nS)) (lo := (20 + 60 * nS)) (mc := 0) (ms := 0) C [0, 1, 2, 9] wc_X0_run wml_X0_22 wim_X0_run wsl_0_1_2_9_X0_run dX0_runBody_323 (As := [.inl a2, .inl (2 : Int32), .inl a3, .inr (.inr a4), .inl a5]) rfl hf (fun x h' hF => ih.1 o a4 a2 (2 : Int32) a3 a5 h35 (x, h') hF) rfl (Nat.le_of_ble_eq_true rfl) (room_ok hX (by omega) (by omega)) (cell_ok hX (Nat.le_of_ble_eq_true rfl) (Nat.le_of_ble_eq_true rfl)) (fun v38 h37 hf => ?_)
    refine s_iadd C dX0_runBody_326 ?_
    exact s_ireturn C E dX0_runBody_327 hf (Nat.le_of_ble_eq_true rfl) (Nat.le_of_ble_eq_true rfl)
  refine s_lswitch (tgt := 328) C dX0_runBody_1 (by decide) (by show Op.lookupswitch.offset [(1, 115), (2, 122), (10, 152), (11, 169), (20, 176), (30, 193), (40, 220), (50, 234), (51, 248), (60, 262), (61, 275), (70, 289), (80, 303)] _ _ = _; simp only [Op.lookupswitch.offset_cons, Op.lookupswitch.offset_nil]; rw [if_neg (fun z => n32 (i := 1) n0 rfl z.symm), if_neg (fun z => n32 (i := 2) n1 rfl z.symm), if_neg (fun z => n32 (i := 10) n2 rfl z.symm), if_neg (fun z => n32 (i := 11) n3 rfl z.symm), if_neg (fun z => n32 (i := 20) n4 rfl z.symm), if_neg (fun z => n32 (i := 30) n5 rfl z.symm), if_neg (fun z => n32 (i := 40) n6 rfl z.symm), if_neg (fun z => n32 (i := 50) n7 rfl z.symm), if_neg (fun z => n32 (i := 51) n8 rfl z.symm), if_neg (fun z => n32 (i := 60) n9 rfl z.symm), if_neg (fun z => n32 (i := 61) n10 rfl z.symm), if_neg (fun z => n32 (i := 70) n11 rfl z.symm), if_neg (fun z => n32 (i := 80) n12 rfl z.symm)]) (by decide) ?_
  refine s_iconst C dX0_runBody_328 (v := (0 : Int32)) (by decide) ?_
  exact s_ireturn C E dX0_runBody_329 hf (Nat.le_of_ble_eq_true rfl) (Nat.le_of_ble_eq_true rfl)
theorem c_G_X0_run (l : Launch) (D : DT) : ∀ n : Nat, PG_X0_run l D n := by
  intro n
  induction n with
  | zero =>
    unfold PG_X0_run
    exact ⟨fun p0 p1 p2 p3 p4 p5 h r hf => (by cases hf), fun p0 p1 p2 p3 p4 p5 h r hf => (by cases hf)⟩
  | succ nS ih =>
    unfold PG_X0_run
    exact ⟨cs_X0_run l D nS ih, cs_X0_runBody l D nS ih⟩
theorem c_X0_run (l : Launch) (D : DT) (o : Option Nat) (a1 : Int32) (a2 : Int32) (a3 : Int32) (a4 : Option Nat) (a5 : Int32) (h : AH) (r : Int32 × AH) (hf : f_X0_run o a1 a2 a3 a4 a5 h = some r) : CM l D yX0_run cX0_run 8 (some .int) 101 6020 0 0 [.inr (.inr o), .inl a1, .inl a2, .inl a3, .inr (.inr a4), .inl a5] h (some (.int r.1)) r.2 := by
  have hc := (c_G_X0_run l D (opq 100))
  unfold PG_X0_run at hc
  have hc := hc.1 o a4 a1 a2 a3 a5 h r hf
  rw [opq_eq] at hc
  exact hc
theorem c_X0_runBody (l : Launch) (D : DT) (o : Option Nat) (a1 : Int32) (a2 : Int32) (a3 : Int32) (a4 : Option Nat) (a5 : Int32) (h : AH) (r : Int32 × AH) (hf : f_X0_runBody o a1 a2 a3 a4 a5 h = some r) : CM l D yX0_runBody cX0_runBody 6 (some .int) 101 6020 0 0 [.inr (.inr o), .inl a1, .inl a2, .inl a3, .inr (.inr a4), .inl a5] h (some (.int r.1)) r.2 := by
  have hc := (c_G_X0_run l D (opq 100))
  unfold PG_X0_run at hc
  have hc := hc.2 o a4 a1 a2 a3 a5 h r hf
  rw [opq_eq] at hc
  exact hc
/-- HillBoxes$Body.perform(II[I)I -/
noncomputable def f_X0_perform (o : Option Nat) (a1 : Int32) (a2 : Int32) (a3 : Option Nat) (h : AH) : Option (Int32 × AH) :=
  fI h [0, 1, 2, 9] o 1 fun v1 =>
  rO h [0, 1, 2, 9] o <| cl (f_X0_run o v1 a1 a2 a3 (0 : Int32) h) fun v3 h2 =>
  some (v3, h2)
set_option maxRecDepth 100000 in
set_option maxHeartbeats 4000000 in
theorem c_X0_perform (l : Launch) (D : DT) (o : Option Nat) (a1 : Int32) (a2 : Int32) (a3 : Option Nat) (h : AH) (r : Int32 × AH) (hf : f_X0_perform o a1 a2 a3 h = some r) : CM l D yX0_perform cX0_perform 4 (some .int) 102 6047 0 0 [.inr (.inr o), .inl a1, .inl a2, .inr (.inr a3)] h (some (.int r.1)) r.2 := by
  refine CM.of (by decide) (Nat.le_of_ble_eq_true rfl) (fun X hl C hD hX hnm E => ?_)
  subst hl
  subst hD
  have C : CX X RX0 cX0_perform 4 := C
  show WW X h 0 0 0 [some (rB (xD X).1 o), some (.int a1), some (.int a2), some (rB (xD X).1 a3)] []
  unfold f_X0_perform at hf
  refine s_aload_n C dX0_perform_0 rfl ?_
  refine s_aload_n C dX0_perform_1 rfl ?_
  refine s_getI C fl_X0_15 dX0_perform_2 hf (fun v1 hf => ?_)
  refine s_iload_n C dX0_perform_5 rfl ?_
  refine s_iload_n C dX0_perform_6 rfl ?_
  refine s_aload_n C dX0_perform_7 rfl ?_
  refine s_iconst C dX0_perform_8 (v := (0 : Int32)) (by decide) ?_
  refine s_callV (rvf := fun x => some (.int x)) (st := []) (fr := 101) (lo := 6020) (mc := 0) (ms := 0) C [0, 1, 2, 9] wc_X0_run wml_X0_22 wim_X0_run wsl_0_1_2_9_X0_run dX0_perform_9 (As := [.inl v1, .inl a1, .inl a2, .inr (.inr a3), .inl (0 : Int32)]) rfl hf (fun x h' hF => c_X0_run _ _ _ _ _ _ _ _ _ (x, h') hF) rfl (Nat.le_of_ble_eq_true rfl) (room_ok hX (Nat.le_of_ble_eq_true rfl) (Nat.le_of_ble_eq_true rfl)) (cell_ok hX (Nat.le_of_ble_eq_true rfl) (Nat.le_of_ble_eq_true rfl)) (fun v3 h2 hf => ?_)
  exact s_ireturn C E dX0_perform_12 hf (Nat.le_of_ble_eq_true rfl) (Nat.le_of_ble_eq_true rfl)
/-- HillBoxes$Hills.bodyAt(I)LHillBoxes$Body; -/
noncomputable def f_X3_bodyAt (o : Option Nat) (a1 : Int32) (h : AH) : Option (Option Nat × AH) :=
  jn (fun (x1 : Option Nat) =>
    some (x1, h)) fun j22 =>
  jn (
    j22 none) fun j12 =>
  if a1 < 0 then
    j12
  else
    fI h [3] o 3 fun v2 =>
    if a1 < v2 then
      fR h [3] o 2 fun v3 =>
      aR h 25 v3 a1 fun v4 =>
      j22 v4
    else
      j12
set_option maxRecDepth 100000 in
set_option maxHeartbeats 4000000 in
theorem c_X3_bodyAt (l : Launch) (D : DT) (o : Option Nat) (a1 : Int32) (h : AH) (r : Option Nat × AH) (hf : f_X3_bodyAt o a1 h = some r) : CM l D yX3_bodyAt cX3_bodyAt 2 (some (.object "HillBoxes$Body")) 0 0 0 0 [.inr (.inr o), .inl a1] h (some (rB D.1 r.1)) r.2 := by
  refine CM.of (by decide) (Nat.le_of_ble_eq_true rfl) (fun X hl C hD hX hnm E => ?_)
  subst hl
  subst hD
  have C : CX X RX3 cX3_bodyAt 2 := C
  show WW X h 0 0 0 [some (rB (xD X).1 o), some (.int a1)] []
  unfold f_X3_bodyAt at hf
  refine s_iload_n C dX3_bodyAt_0 rfl ?_
  refine s_jn hf (fun j22 e22 hf => ?_)
  have k22 : ∀ (x1 : Option Nat), j22 x1 = some r → WW X h 0 0 22 [none, none] [rB (xD X).1 x1] := by
    intro x1 hf
    rw [e22] at hf
    exact s_areturn C E dX3_bodyAt_22 hf (Nat.le_of_ble_eq_true rfl) (Nat.le_of_ble_eq_true rfl)
  refine s_jn hf (fun j12 e12 hf => ?_)
  have k12 : j12  = some r → WW X h 0 0 12 [none, none] [] := by
    intro  hf
    rw [e12] at hf
    refine s_null C dX3_bodyAt_12 ?_
    refine s_goto (tgt := 22) C dX3_bodyAt_13 (by decide) ?_
    exact k22 _ hf
  refine s_if_lt (tgt := 12) C dX3_bodyAt_1 (by decide) hf (fun hf => ?_) (fun hf => ?_)
  · refine s_weak (lv' := [none, none]) trivial ?_
    exact k12 hf
  · refine s_iload_n C dX3_bodyAt_4 rfl ?_
    refine s_aload_n C dX3_bodyAt_5 rfl ?_
    refine s_getI C fl_X3_39 dX3_bodyAt_6 hf (fun v2 hf => ?_)
    refine s_icmp_lt (tgt := 16) C dX3_bodyAt_9 (by decide) hf (fun hf => ?_) (fun hf => ?_)
    · refine s_aload_n C dX3_bodyAt_16 rfl ?_
      refine s_getR C fl_X3_17 dX3_bodyAt_17 hf (fun v3 hf => ?_)
      refine s_iload_n C dX3_bodyAt_20 rfl ?_
      refine s_aaload C dX3_bodyAt_21 (by decide) hf (fun v4 hf => ?_)
      refine s_weak (lv' := [none, none]) trivial ?_
      exact k22 _ hf
    · refine s_weak (lv' := [none, none]) trivial ?_
      exact k12 hf
/-- HillBoxes.act(III)I -/
noncomputable def f_X11_act (o : Option Nat) (a1 : Int32) (a2 : Int32) (a3 : Int32) (h : AH) : Option (Int32 × AH) :=
  fR h [11] o 5 fun v1 =>
  bI h 20 v1 (24 : Int32) (0 : Int32) fun h2 =>
  fR h2 [11] o 0 fun v3 =>
  rO h2 [3] v3 <| cl (f_X3_bodyAt v3 a1 h2) fun v5 h4 =>
  jn (
    some ((0 : Int32), h4)) fun j32 =>
  if v5 = none then
    j32
  else
    if a2 < 0 then
      j32
    else
      if a2 < (4 : Int32) then
        fR h4 [11] o 5 fun v6 =>
        rO h4 [0, 1, 2, 9] v5 <| cl (f_X0_perform v5 a2 a3 v6 h4) fun v8 h7 =>
        some (v8, h7)
      else
        j32
set_option maxRecDepth 100000 in
set_option maxHeartbeats 4000000 in
theorem c_X11_act (l : Launch) (D : DT) (o : Option Nat) (a1 : Int32) (a2 : Int32) (a3 : Int32) (h : AH) (r : Int32 × AH) (hf : f_X11_act o a1 a2 a3 h = some r) : CM l D yX11_act cX11_act 5 (some .int) 103 6070 0 0 [.inr (.inr o), .inl a1, .inl a2, .inl a3] h (some (.int r.1)) r.2 := by
  refine CM.of (by decide) (Nat.le_of_ble_eq_true rfl) (fun X hl C hD hX hnm E => ?_)
  subst hl
  subst hD
  have C : CX X RX11 cX11_act 5 := C
  show WW X h 0 0 0 [some (rB (xD X).1 o), some (.int a1), some (.int a2), some (.int a3), none] []
  unfold f_X11_act at hf
  refine s_aload_n C dX11_act_0 rfl ?_
  refine s_getR C fl_X11_48 dX11_act_1 hf (fun v1 hf => ?_)
  refine s_bipush C dX11_act_4 (v := (24 : Int32)) (by decide) ?_
  refine s_iconst C dX11_act_6 (v := (0 : Int32)) (by decide) ?_
  refine s_iastore C dX11_act_7 hf (fun h2 hf => ?_)
  refine s_aload_n C dX11_act_8 rfl ?_
  refine s_getR C fl_X11_10 dX11_act_9 hf (fun v3 hf => ?_)
  refine s_iload_n C dX11_act_12 rfl ?_
  refine s_callV (rvf := fun x => some (rB (xD X).1 x)) (st := []) (fr := 0) (lo := 0) (mc := 0) (ms := 0) C [3] wc_X3_bodyAt wml_X11_156 wim_X3_bodyAt wsl_3_X3_bodyAt dX11_act_13 (As := [.inl a1]) rfl hf (fun x h' hF => c_X3_bodyAt _ _ _ _ _ (x, h') hF) rfl (Nat.le_of_ble_eq_true rfl) (room_ok hX (Nat.le_of_ble_eq_true rfl) (Nat.le_of_ble_eq_true rfl)) (cell_ok hX (Nat.le_of_ble_eq_true rfl) (Nat.le_of_ble_eq_true rfl)) (fun v5 h4 hf => ?_)
  refine s_astore C dX11_act_16 (by decide) (nc_i rfl) (lv' := [some (rB (xD X).1 o), some (.int a1), some (.int a2), some (.int a3), some (rB (xD X).1 v5)]) rfl ?_
  refine s_aload C dX11_act_18 rfl ?_
  refine s_jn hf (fun j32 e32 hf => ?_)
  have k32 : j32  = some r → WW X h4 0 0 32 [none, none, none, none, none] [] := by
    intro  hf
    rw [e32] at hf
    refine s_iconst C dX11_act_32 (v := (0 : Int32)) (by decide) ?_
    exact s_ireturn C E dX11_act_33 hf (Nat.le_of_ble_eq_true rfl) (Nat.le_of_ble_eq_true rfl)
  refine s_ifnull (tgt := 32) C dX11_act_20 (by decide) hf (fun hf => ?_) (fun hf => ?_)
  · refine s_weak (lv' := [none, none, none, none, none]) trivial ?_
    exact k32 hf
  · refine s_iload_n C dX11_act_23 rfl ?_
    refine s_if_lt (tgt := 32) C dX11_act_24 (by decide) hf (fun hf => ?_) (fun hf => ?_)
    · refine s_weak (lv' := [none, none, none, none, none]) trivial ?_
      exact k32 hf
    · refine s_iload_n C dX11_act_27 rfl ?_
      refine s_iconst C dX11_act_28 (v := (4 : Int32)) (by decide) ?_
      refine s_icmp_lt (tgt := 34) C dX11_act_29 (by decide) hf (fun hf => ?_) (fun hf => ?_)
      · refine s_aload C dX11_act_34 rfl ?_
        refine s_iload_n C dX11_act_36 rfl ?_
        refine s_iload_n C dX11_act_37 rfl ?_
        refine s_aload_n C dX11_act_38 rfl ?_
        refine s_getR C fl_X11_48 dX11_act_39 hf (fun v6 hf => ?_)
        refine s_callV (rvf := fun x => some (.int x)) (st := []) (fr := 102) (lo := 6047) (mc := 0) (ms := 0) C [0, 1, 2, 9] wc_X0_perform wml_X11_434 wim_X0_perform wsl_0_1_2_9_X0_perform dX11_act_42 (As := [.inl a2, .inl a3, .inr (.inr v6)]) rfl hf (fun x h' hF => c_X0_perform _ _ _ _ _ _ _ (x, h') hF) rfl (Nat.le_of_ble_eq_true rfl) (room_ok hX (Nat.le_of_ble_eq_true rfl) (Nat.le_of_ble_eq_true rfl)) (cell_ok hX (Nat.le_of_ble_eq_true rfl) (Nat.le_of_ble_eq_true rfl)) (fun v8 h7 hf => ?_)
        exact s_ireturn C E dX11_act_45 hf (Nat.le_of_ble_eq_true rfl) (Nat.le_of_ble_eq_true rfl)
      · refine s_weak (lv' := [none, none, none, none, none]) trivial ?_
        exact k32 hf
/-- HillBoxes$Box.isAskedBy(I)Z -/
noncomputable def f_X1_isAskedBy (o : Option Nat) (a1 : Int32) (h : AH) : Option (Int32 × AH) :=
  lp (fun _ => none) (fun (L2 : Int32 → Option (Int32 × AH)) (x1 : Int32) =>
    fI h [1] o 17 fun v2 =>
    if v2 ≤ x1 then
      rz (0 : Int32) h
    else
      fR h [1] o 6 fun v3 =>
      aI h 20 v3 x1 fun v4 =>
      if v4 = a1 then
        rz (1 : Int32) h
      else
        L2 (x1 + 1)) lpN (0 : Int32)
set_option maxRecDepth 100000 in
set_option maxHeartbeats 4000000 in
theorem c_X1_isAskedBy (l : Launch) (D : DT) (o : Option Nat) (a1 : Int32) (h : AH) (r : Int32 × AH) (hf : f_X1_isAskedBy o a1 h = some r) : CM l D yX1_isAskedBy cX1_isAskedBy 3 (some .boolean) 0 0 0 0 [.inr (.inr o), .inl a1] h (some (.int r.1)) r.2 := by
  refine CM.of (by decide) (Nat.le_of_ble_eq_true rfl) (fun X hl C hD hX hnm E => ?_)
  subst hl
  subst hD
  have C : CX X RX1 cX1_isAskedBy 3 := C
  show WW X h 0 0 0 [some (rB (xD X).1 o), some (.int a1), none] []
  unfold f_X1_isAskedBy at hf
  refine s_iconst C dX1_isAskedBy_0 (v := (0 : Int32)) (by decide) ?_
  refine s_istore_n C dX1_isAskedBy_1 (by decide) (nc_i rfl) (lv' := [some (rB (xD X).1 o), some (.int a1), some (.int (0 : Int32))]) rfl ?_
  refine s_lp1 hf (fun G2 z2 q2 hf => ?_)
  have k2 : ∀ (n : Nat) (x1 : Int32), G2 n x1 = some r → WW X h 0 0 2 [some (rB (xD X).1 o), some (.int a1), some (.int x1)] [] := by
    intro n
    induction n with
    | zero =>
      intro x1 hf
      rw [z2] at hf
      cases hf
    | succ n ih2 =>
      intro x1 hf
      have hf := (q2 n x1).symm.trans hf
      refine s_iload_n C dX1_isAskedBy_2 rfl ?_
      refine s_aload_n C dX1_isAskedBy_3 rfl ?_
      refine s_getI C fl_X1_55 dX1_isAskedBy_4 hf (fun v2 hf => ?_)
      refine s_icmp_ge (tgt := 28) C dX1_isAskedBy_7 (by decide) hf (fun hf => ?_) (fun hf => ?_)
      · refine s_iconst C dX1_isAskedBy_28 (v := (0 : Int32)) (by decide) ?_
        exact s_zreturn C E dX1_isAskedBy_29 hf (Nat.le_of_ble_eq_true rfl) (Nat.le_of_ble_eq_true rfl)
      · refine s_aload_n C dX1_isAskedBy_10 rfl ?_
        refine s_getR C fl_X1_18 dX1_isAskedBy_11 hf (fun v3 hf => ?_)
        refine s_iload_n C dX1_isAskedBy_14 rfl ?_
        refine s_iaload C dX1_isAskedBy_15 hf (fun v4 hf => ?_)
        refine s_iload_n C dX1_isAskedBy_16 rfl ?_
        refine s_icmp_ne (tgt := 22) C dX1_isAskedBy_17 (by decide) hf (fun hf => ?_) (fun hf => ?_)
        · refine s_iinc C dX1_isAskedBy_22 (v := (x1 + 1)) rfl rfl (by decide) (nc_i rfl) (lv' := [some (rB (xD X).1 o), some (.int a1), some (.int (x1 + 1))]) rfl ?_
          refine s_goto (tgt := 2) C dX1_isAskedBy_25 (by decide) ?_
          exact ih2 _ hf
        · refine s_iconst C dX1_isAskedBy_20 (v := (1 : Int32)) (by decide) ?_
          exact s_zreturn C E dX1_isAskedBy_21 hf (Nat.le_of_ble_eq_true rfl) (Nat.le_of_ble_eq_true rfl)
  exact k2 lpN _ hf
/-- HillBoxes$Finder.hasLeft()Z -/
noncomputable def f_X2_hasLeft (o : Option Nat) (h : AH) : Option (Int32 × AH) :=
  fI h [2] o 4 fun v1 =>
  jn (fun (x2 : Int32) =>
    rz x2 h) fun j12 =>
  if v1 < 0 then
    j12 (0 : Int32)
  else
    j12 (1 : Int32)
set_option maxRecDepth 100000 in
set_option maxHeartbeats 4000000 in
theorem c_X2_hasLeft (l : Launch) (D : DT) (o : Option Nat) (h : AH) (r : Int32 × AH) (hf : f_X2_hasLeft o h = some r) : CM l D yX2_hasLeft cX2_hasLeft 1 (some .boolean) 0 0 0 0 [.inr (.inr o)] h (some (.int r.1)) r.2 := by
  refine CM.of (by decide) (Nat.le_of_ble_eq_true rfl) (fun X hl C hD hX hnm E => ?_)
  subst hl
  subst hD
  have C : CX X RX2 cX2_hasLeft 1 := C
  show WW X h 0 0 0 [some (rB (xD X).1 o)] []
  unfold f_X2_hasLeft at hf
  refine s_aload_n C dX2_hasLeft_0 rfl ?_
  refine s_getI C fl_X2_9 dX2_hasLeft_1 hf (fun v1 hf => ?_)
  refine s_jn hf (fun j12 e12 hf => ?_)
  have k12 : ∀ (x2 : Int32), j12 x2 = some r → WW X h 0 0 12 [none] [.int x2] := by
    intro x2 hf
    rw [e12] at hf
    exact s_zreturn C E dX2_hasLeft_12 hf (Nat.le_of_ble_eq_true rfl) (Nat.le_of_ble_eq_true rfl)
  refine s_if_lt (tgt := 11) C dX2_hasLeft_4 (by decide) hf (fun hf => ?_) (fun hf => ?_)
  · refine s_iconst C dX2_hasLeft_11 (v := (0 : Int32)) (by decide) ?_
    refine s_weak (lv' := [none]) trivial ?_
    exact k12 _ hf
  · refine s_iconst C dX2_hasLeft_7 (v := (1 : Int32)) (by decide) ?_
    refine s_goto (tgt := 12) C dX2_hasLeft_8 (by decide) ?_
    refine s_weak (lv' := [none]) trivial ?_
    exact k12 _ hf
/-- HillBoxes$Hills.boxAt(I)LHillBoxes$Box; -/
noncomputable def f_X3_boxAt (o : Option Nat) (a1 : Int32) (h : AH) : Option (Option Nat × AH) :=
  jn (fun (x1 : Option Nat) =>
    iO h [1] x1 fun v2 =>
    jn (fun (x3 : Option Nat) =>
      some (x3, h)) fun j38 =>
    if v2 = 0 then
      j38 none
    else
      cO h [1] x1 <|
      j38 x1) fun j22 =>
  jn (
    j22 none) fun j12 =>
  if a1 < 0 then
    j12
  else
    fI h [3] o 3 fun v4 =>
    if a1 < v4 then
      fR h [3] o 2 fun v5 =>
      aR h 25 v5 a1 fun v6 =>
      j22 v6
    else
      j12
set_option maxRecDepth 100000 in
set_option maxHeartbeats 4000000 in
theorem c_X3_boxAt (l : Launch) (D : DT) (o : Option Nat) (a1 : Int32) (h : AH) (r : Option Nat × AH) (hf : f_X3_boxAt o a1 h = some r) : CM l D yX3_boxAt cX3_boxAt 3 (some (.object "HillBoxes$Box")) 0 0 0 0 [.inr (.inr o), .inl a1] h (some (rB D.1 r.1)) r.2 := by
  refine CM.of (by decide) (Nat.le_of_ble_eq_true rfl) (fun X hl C hD hX hnm E => ?_)
  subst hl
  subst hD
  have C : CX X RX3 cX3_boxAt 3 := C
  show WW X h 0 0 0 [some (rB (xD X).1 o), some (.int a1), none] []
  unfold f_X3_boxAt at hf
  refine s_iload_n C dX3_boxAt_0 rfl ?_
  refine s_jn hf (fun j22 e22 hf => ?_)
  have k22 : ∀ (x1 : Option Nat), j22 x1 = some r → WW X h 0 0 22 [none, none, none] [rB (xD X).1 x1] := by
    intro x1 hf
    rw [e22] at hf
    refine s_astore_n C dX3_boxAt_22 (by decide) (nc_n rfl) (lv' := [none, none, some (rB (xD X).1 x1)]) rfl ?_
    refine s_aload_n C dX3_boxAt_23 rfl ?_
    refine s_instof C (t := 1) (by decide) wcl_X3_48 dX3_boxAt_24 hf (fun v2 hf => ?_)
    refine s_jn hf (fun j38 e38 hf => ?_)
    have k38 : ∀ (x3 : Option Nat), j38 x3 = some r → WW X h 0 0 38 [none, none, none] [rB (xD X).1 x3] := by
      intro x3 hf
      rw [e38] at hf
      exact s_areturn C E dX3_boxAt_38 hf (Nat.le_of_ble_eq_true rfl) (Nat.le_of_ble_eq_true rfl)
    refine s_if_eq (tgt := 37) C dX3_boxAt_27 (by decide) hf (fun hf => ?_) (fun hf => ?_)
    · refine s_null C dX3_boxAt_37 ?_
      refine s_weak (lv' := [none, none, none]) trivial ?_
      exact k38 _ hf
    · refine s_aload_n C dX3_boxAt_30 rfl ?_
      refine s_cast C (t := 1) (by decide) wcl_X3_48 dX3_boxAt_31 hf (fun hf => ?_)
      refine s_goto (tgt := 38) C dX3_boxAt_34 (by decide) ?_
      refine s_weak (lv' := [none, none, none]) trivial ?_
      exact k38 _ hf
  refine s_jn hf (fun j12 e12 hf => ?_)
  have k12 : j12  = some r → WW X h 0 0 12 [none, none, none] [] := by
    intro  hf
    rw [e12] at hf
    refine s_null C dX3_boxAt_12 ?_
    refine s_goto (tgt := 22) C dX3_boxAt_13 (by decide) ?_
    exact k22 _ hf
  refine s_if_lt (tgt := 12) C dX3_boxAt_1 (by decide) hf (fun hf => ?_) (fun hf => ?_)
  · refine s_weak (lv' := [none, none, none]) trivial ?_
    exact k12 hf
  · refine s_iload_n C dX3_boxAt_4 rfl ?_
    refine s_aload_n C dX3_boxAt_5 rfl ?_
    refine s_getI C fl_X3_39 dX3_boxAt_6 hf (fun v4 hf => ?_)
    refine s_icmp_lt (tgt := 16) C dX3_boxAt_9 (by decide) hf (fun hf => ?_) (fun hf => ?_)
    · refine s_aload_n C dX3_boxAt_16 rfl ?_
      refine s_getR C fl_X3_17 dX3_boxAt_17 hf (fun v5 hf => ?_)
      refine s_iload_n C dX3_boxAt_20 rfl ?_
      refine s_aaload C dX3_boxAt_21 (by decide) hf (fun v6 hf => ?_)
      refine s_weak (lv' := [none, none, none]) trivial ?_
      exact k22 _ hf
    · refine s_weak (lv' := [none, none, none]) trivial ?_
      exact k12 hf
/-- HillBoxes$Hills.finderAt(I)LHillBoxes$Finder; -/
noncomputable def f_X3_finderAt (o : Option Nat) (a1 : Int32) (h : AH) : Option (Option Nat × AH) :=
  jn (fun (x1 : Option Nat) =>
    iO h [2] x1 fun v2 =>
    jn (fun (x3 : Option Nat) =>
      some (x3, h)) fun j38 =>
    if v2 = 0 then
      j38 none
    else
      cO h [2] x1 <|
      j38 x1) fun j22 =>
  jn (
    j22 none) fun j12 =>
  if a1 < 0 then
    j12
  else
    fI h [3] o 3 fun v4 =>
    if a1 < v4 then
      fR h [3] o 2 fun v5 =>
      aR h 25 v5 a1 fun v6 =>
      j22 v6
    else
      j12
set_option maxRecDepth 100000 in
set_option maxHeartbeats 4000000 in
theorem c_X3_finderAt (l : Launch) (D : DT) (o : Option Nat) (a1 : Int32) (h : AH) (r : Option Nat × AH) (hf : f_X3_finderAt o a1 h = some r) : CM l D yX3_finderAt cX3_finderAt 3 (some (.object "HillBoxes$Finder")) 0 0 0 0 [.inr (.inr o), .inl a1] h (some (rB D.1 r.1)) r.2 := by
  refine CM.of (by decide) (Nat.le_of_ble_eq_true rfl) (fun X hl C hD hX hnm E => ?_)
  subst hl
  subst hD
  have C : CX X RX3 cX3_finderAt 3 := C
  show WW X h 0 0 0 [some (rB (xD X).1 o), some (.int a1), none] []
  unfold f_X3_finderAt at hf
  refine s_iload_n C dX3_finderAt_0 rfl ?_
  refine s_jn hf (fun j22 e22 hf => ?_)
  have k22 : ∀ (x1 : Option Nat), j22 x1 = some r → WW X h 0 0 22 [none, none, none] [rB (xD X).1 x1] := by
    intro x1 hf
    rw [e22] at hf
    refine s_astore_n C dX3_finderAt_22 (by decide) (nc_n rfl) (lv' := [none, none, some (rB (xD X).1 x1)]) rfl ?_
    refine s_aload_n C dX3_finderAt_23 rfl ?_
    refine s_instof C (t := 2) (by decide) wcl_X3_46 dX3_finderAt_24 hf (fun v2 hf => ?_)
    refine s_jn hf (fun j38 e38 hf => ?_)
    have k38 : ∀ (x3 : Option Nat), j38 x3 = some r → WW X h 0 0 38 [none, none, none] [rB (xD X).1 x3] := by
      intro x3 hf
      rw [e38] at hf
      exact s_areturn C E dX3_finderAt_38 hf (Nat.le_of_ble_eq_true rfl) (Nat.le_of_ble_eq_true rfl)
    refine s_if_eq (tgt := 37) C dX3_finderAt_27 (by decide) hf (fun hf => ?_) (fun hf => ?_)
    · refine s_null C dX3_finderAt_37 ?_
      refine s_weak (lv' := [none, none, none]) trivial ?_
      exact k38 _ hf
    · refine s_aload_n C dX3_finderAt_30 rfl ?_
      refine s_cast C (t := 2) (by decide) wcl_X3_46 dX3_finderAt_31 hf (fun hf => ?_)
      refine s_goto (tgt := 38) C dX3_finderAt_34 (by decide) ?_
      refine s_weak (lv' := [none, none, none]) trivial ?_
      exact k38 _ hf
  refine s_jn hf (fun j12 e12 hf => ?_)
  have k12 : j12  = some r → WW X h 0 0 12 [none, none, none] [] := by
    intro  hf
    rw [e12] at hf
    refine s_null C dX3_finderAt_12 ?_
    refine s_goto (tgt := 22) C dX3_finderAt_13 (by decide) ?_
    exact k22 _ hf
  refine s_if_lt (tgt := 12) C dX3_finderAt_1 (by decide) hf (fun hf => ?_) (fun hf => ?_)
  · refine s_weak (lv' := [none, none, none]) trivial ?_
    exact k12 hf
  · refine s_iload_n C dX3_finderAt_4 rfl ?_
    refine s_aload_n C dX3_finderAt_5 rfl ?_
    refine s_getI C fl_X3_39 dX3_finderAt_6 hf (fun v4 hf => ?_)
    refine s_icmp_lt (tgt := 16) C dX3_finderAt_9 (by decide) hf (fun hf => ?_) (fun hf => ?_)
    · refine s_aload_n C dX3_finderAt_16 rfl ?_
      refine s_getR C fl_X3_17 dX3_finderAt_17 hf (fun v5 hf => ?_)
      refine s_iload_n C dX3_finderAt_20 rfl ?_
      refine s_aaload C dX3_finderAt_21 (by decide) hf (fun v6 hf => ?_)
      refine s_weak (lv' := [none, none, none]) trivial ?_
      exact k22 _ hf
    · refine s_weak (lv' := [none, none, none]) trivial ?_
      exact k12 hf
/-- HillBoxes.asks(II)I -/
noncomputable def f_X11_asks (o : Option Nat) (a1 : Int32) (a2 : Int32) (h : AH) : Option (Int32 × AH) :=
  fR h [11] o 0 fun v1 =>
  rO h [3] v1 <| cl (f_X3_finderAt v1 a1 h) fun v3 h2 =>
  fR h2 [11] o 0 fun v4 =>
  rO h2 [3] v4 <| cl (f_X3_boxAt v4 a2 h2) fun v6 h5 =>
  jn (fun (h7 : AH) =>
    some ((-1 : Int32), h7)) fun j44 =>
  if v3 = none then
    j44 h5
  else
    if v6 = none then
      j44 h5
    else
      rO h5 [2] v3 <| cl (f_X2_hasLeft v3 h5) fun v9 h8 =>
      if v9 = 0 then
        rO h8 [1] v6 <| cl (f_X1_isAskedBy v6 a1 h8) fun v11 h10 =>
        if v11 = 0 then
          fR h10 [11] o 0 fun v12 =>
          fI h10 [1] v6 8 fun v13 =>
          rO h10 [3] v12 <| cl (f_X3_finderAt v12 v13 h10) fun v15 h14 =>
          jn (fun (h16 : AH) =>
            some ((-2 : Int32), h16)) fun j73 =>
          if v15 = none then
            j73 h14
          else
            rO h14 [2] v15 <| cl (f_X2_hasLeft v15 h14) fun v18 h17 =>
            if v18 = 0 then
              j73 h17
            else
              fI h17 [1] v6 17 fun v19 =>
              if v19 < (8 : Int32) then
                fR h17 [1] v6 6 fun v20 =>
                fI h17 [1] v6 17 fun v21 =>
                bI h17 20 v20 v21 a1 fun h22 =>
                fI h22 [1] v6 17 fun v23 =>
                pI h22 [1] v6 17 (v23 + (1 : Int32)) fun h24 =>
                fI h24 [1] v6 17 fun v25 =>
                some (v25, h24)
              else
                some ((-3 : Int32), h17)
        else
          j44 h10
      else
        j44 h8
set_option maxRecDepth 100000 in
set_option maxHeartbeats 4000000 in
theorem c_X11_asks (l : Launch) (D : DT) (o : Option Nat) (a1 : Int32) (a2 : Int32) (h : AH) (r : Int32 × AH) (hf : f_X11_asks o a1 a2 h = some r) : CM l D yX11_asks cX11_asks 6 (some .int) 1 22 0 0 [.inr (.inr o), .inl a1, .inl a2] h (some (.int r.1)) r.2 := by
  refine CM.of (by decide) (Nat.le_of_ble_eq_true rfl) (fun X hl C hD hX hnm E => ?_)
  subst hl
  subst hD
  have C : CX X RX11 cX11_asks 6 := C
  show WW X h 0 0 0 [some (rB (xD X).1 o), some (.int a1), some (.int a2), none, none, none] []
  unfold f_X11_asks at hf
  refine s_aload_n C dX11_asks_0 rfl ?_
  refine s_getR C fl_X11_10 dX11_asks_1 hf (fun v1 hf => ?_)
  refine s_iload_n C dX11_asks_4 rfl ?_
  refine s_callV (rvf := fun x => some (rB (xD X).1 x)) (st := []) (fr := 0) (lo := 0) (mc := 0) (ms := 0) C [3] wc_X3_finderAt wml_X11_90 wim_X3_finderAt wsl_3_X3_finderAt dX11_asks_5 (As := [.inl a1]) rfl hf (fun x h' hF => c_X3_finderAt _ _ _ _ _ (x, h') hF) rfl (Nat.le_of_ble_eq_true rfl) (room_ok hX (Nat.le_of_ble_eq_true rfl) (Nat.le_of_ble_eq_true rfl)) (cell_ok hX (Nat.le_of_ble_eq_true rfl) (Nat.le_of_ble_eq_true rfl)) (fun v3 h2 hf => ?_)
  refine s_astore_n C dX11_asks_8 (by decide) (nc_i rfl) (lv' := [some (rB (xD X).1 o), some (.int a1), some (.int a2), some (rB (xD X).1 v3), none, none]) rfl ?_
  refine s_aload_n C dX11_asks_9 rfl ?_
  refine s_getR C fl_X11_10 dX11_asks_10 hf (fun v4 hf => ?_)
  refine s_iload_n C dX11_asks_13 rfl ?_
  refine s_callV (rvf := fun x => some (rB (xD X).1 x)) (st := []) (fr := 0) (lo := 0) (mc := 0) (ms := 0) C [3] wc_X3_boxAt wml_X11_130 wim_X3_boxAt wsl_3_X3_boxAt dX11_asks_14 (As := [.inl a2]) rfl hf (fun x h' hF => c_X3_boxAt _ _ _ _ _ (x, h') hF) rfl (Nat.le_of_ble_eq_true rfl) (room_ok hX (Nat.le_of_ble_eq_true rfl) (Nat.le_of_ble_eq_true rfl)) (cell_ok hX (Nat.le_of_ble_eq_true rfl) (Nat.le_of_ble_eq_true rfl)) (fun v6 h5 hf => ?_)
  refine s_astore C dX11_asks_17 (by decide) (nc_r rfl) (lv' := [some (rB (xD X).1 o), some (.int a1), some (.int a2), some (rB (xD X).1 v3), some (rB (xD X).1 v6), none]) rfl ?_
  refine s_aload_n C dX11_asks_19 rfl ?_
  refine s_jn hf (fun j44 e44 hf => ?_)
  have k44 : ∀ (h7 : AH), j44 h7 = some r → WW X h7 0 0 44 [none, none, none, none, none, none] [] := by
    intro h7 hf
    rw [e44] at hf
    refine s_iconst C dX11_asks_44 (v := (-1 : Int32)) (by decide) ?_
    exact s_ireturn C E dX11_asks_45 hf (Nat.le_of_ble_eq_true rfl) (Nat.le_of_ble_eq_true rfl)
  refine s_ifnull (tgt := 44) C dX11_asks_20 (by decide) hf (fun hf => ?_) (fun hf => ?_)
  · refine s_weak (lv' := [none, none, none, none, none, none]) trivial ?_
    exact k44 _ hf
  · refine s_aload C dX11_asks_23 rfl ?_
    refine s_ifnull (tgt := 44) C dX11_asks_25 (by decide) hf (fun hf => ?_) (fun hf => ?_)
    · refine s_weak (lv' := [none, none, none, none, none, none]) trivial ?_
      exact k44 _ hf
    · refine s_aload_n C dX11_asks_28 rfl ?_
      refine s_callV (rvf := fun x => some (.int x)) (st := []) (fr := 0) (lo := 0) (mc := 0) (ms := 0) C [2] wc_X2_hasLeft wml_X11_94 wim_X2_hasLeft wsl_2_X2_hasLeft dX11_asks_29 (As := []) rfl hf (fun x h' hF => c_X2_hasLeft _ _ _ _ (x, h') hF) rfl (Nat.le_of_ble_eq_true rfl) (room_ok hX (Nat.le_of_ble_eq_true rfl) (Nat.le_of_ble_eq_true rfl)) (cell_ok hX (Nat.le_of_ble_eq_true rfl) (Nat.le_of_ble_eq_true rfl)) (fun v9 h8 hf => ?_)
      refine s_if_ne (tgt := 44) C dX11_asks_32 (by decide) hf (fun hf => ?_) (fun hf => ?_)
      · refine s_weak (lv' := [none, none, none, none, none, none]) trivial ?_
        exact k44 _ hf
      · refine s_aload C dX11_asks_35 rfl ?_
        refine s_iload_n C dX11_asks_37 rfl ?_
        refine s_callV (rvf := fun x => some (.int x)) (st := []) (fr := 0) (lo := 0) (mc := 0) (ms := 0) C [1] wc_X1_isAskedBy wml_X11_360 wim_X1_isAskedBy wsl_1_X1_isAskedBy dX11_asks_38 (As := [.inl a1]) rfl hf (fun x h' hF => c_X1_isAskedBy _ _ _ _ _ (x, h') hF) rfl (Nat.le_of_ble_eq_true rfl) (room_ok hX (Nat.le_of_ble_eq_true rfl) (Nat.le_of_ble_eq_true rfl)) (cell_ok hX (Nat.le_of_ble_eq_true rfl) (Nat.le_of_ble_eq_true rfl)) (fun v11 h10 hf => ?_)
        refine s_if_eq (tgt := 46) C dX11_asks_41 (by decide) hf (fun hf => ?_) (fun hf => ?_)
        · refine s_aload_n C dX11_asks_46 rfl ?_
          refine s_getR C fl_X11_10 dX11_asks_47 hf (fun v12 hf => ?_)
          refine s_aload C dX11_asks_50 rfl ?_
          refine s_getI C fl_X11_274 dX11_asks_52 hf (fun v13 hf => ?_)
          refine s_callV (rvf := fun x => some (rB (xD X).1 x)) (st := []) (fr := 0) (lo := 0) (mc := 0) (ms := 0) C [3] wc_X3_finderAt wml_X11_90 wim_X3_finderAt wsl_3_X3_finderAt dX11_asks_55 (As := [.inl v13]) rfl hf (fun x h' hF => c_X3_finderAt _ _ _ _ _ (x, h') hF) rfl (Nat.le_of_ble_eq_true rfl) (room_ok hX (Nat.le_of_ble_eq_true rfl) (Nat.le_of_ble_eq_true rfl)) (cell_ok hX (Nat.le_of_ble_eq_true rfl) (Nat.le_of_ble_eq_true rfl)) (fun v15 h14 hf => ?_)
          refine s_astore C dX11_asks_58 (by decide) (nc_r rfl) (lv' := [some (rB (xD X).1 o), some (.int a1), some (.int a2), some (rB (xD X).1 v3), some (rB (xD X).1 v6), some (rB (xD X).1 v15)]) rfl ?_
          refine s_aload C dX11_asks_60 rfl ?_
          refine s_jn hf (fun j73 e73 hf => ?_)
          have k73 : ∀ (h16 : AH), j73 h16 = some r → WW X h16 0 0 73 [none, none, none, none, none, none] [] := by
            intro h16 hf
            rw [e73] at hf
            refine s_bipush C dX11_asks_73 (v := (-2 : Int32)) (by decide) ?_
            exact s_ireturn C E dX11_asks_75 hf (Nat.le_of_ble_eq_true rfl) (Nat.le_of_ble_eq_true rfl)
          refine s_ifnull (tgt := 73) C dX11_asks_62 (by decide) hf (fun hf => ?_) (fun hf => ?_)
          · refine s_weak (lv' := [none, none, none, none, none, none]) trivial ?_
            exact k73 _ hf
          · refine s_aload C dX11_asks_65 rfl ?_
            refine s_callV (rvf := fun x => some (.int x)) (st := []) (fr := 0) (lo := 0) (mc := 0) (ms := 0) C [2] wc_X2_hasLeft wml_X11_94 wim_X2_hasLeft wsl_2_X2_hasLeft dX11_asks_67 (As := []) rfl hf (fun x h' hF => c_X2_hasLeft _ _ _ _ (x, h') hF) rfl (Nat.le_of_ble_eq_true rfl) (room_ok hX (Nat.le_of_ble_eq_true rfl) (Nat.le_of_ble_eq_true rfl)) (cell_ok hX (Nat.le_of_ble_eq_true rfl) (Nat.le_of_ble_eq_true rfl)) (fun v18 h17 hf => ?_)
            refine s_if_ne (tgt := 76) C dX11_asks_70 (by decide) hf (fun hf => ?_) (fun hf => ?_)
            · refine s_aload C dX11_asks_76 rfl ?_
              refine s_getI C fl_X11_363 dX11_asks_78 hf (fun v19 hf => ?_)
              refine s_bipush C dX11_asks_81 (v := (8 : Int32)) (by decide) ?_
              refine s_icmp_lt (tgt := 89) C dX11_asks_83 (by decide) hf (fun hf => ?_) (fun hf => ?_)
              · refine s_aload C dX11_asks_89 rfl ?_
                refine s_getR C fl_X11_366 dX11_asks_91 hf (fun v20 hf => ?_)
                refine s_aload C dX11_asks_94 rfl ?_
                refine s_getI C fl_X11_363 dX11_asks_96 hf (fun v21 hf => ?_)
                refine s_iload_n C dX11_asks_99 rfl ?_
                refine s_iastore C dX11_asks_100 hf (fun h22 hf => ?_)
                refine s_aload C dX11_asks_101 rfl ?_
                refine s_dup C dX11_asks_103 c1_r ?_
                refine s_getI C fl_X11_363 dX11_asks_104 hf (fun v23 hf => ?_)
                refine s_iconst C dX11_asks_107 (v := (1 : Int32)) (by decide) ?_
                refine s_iadd C dX11_asks_108 ?_
                refine s_putI C fl_X11_363 (by decide) dX11_asks_109 hf (fun h24 hf => ?_)
                refine s_aload C dX11_asks_112 rfl ?_
                refine s_getI C fl_X11_363 dX11_asks_114 hf (fun v25 hf => ?_)
                exact s_ireturn C E dX11_asks_117 hf (Nat.le_of_ble_eq_true rfl) (Nat.le_of_ble_eq_true rfl)
              · refine s_bipush C dX11_asks_86 (v := (-3 : Int32)) (by decide) ?_
                exact s_ireturn C E dX11_asks_88 hf (Nat.le_of_ble_eq_true rfl) (Nat.le_of_ble_eq_true rfl)
            · refine s_weak (lv' := [none, none, none, none, none, none]) trivial ?_
              exact k73 _ hf
        · refine s_weak (lv' := [none, none, none, none, none, none]) trivial ?_
          exact k44 _ hf
/-- HillBoxes$Body.<init>(II)V -/
noncomputable def f_X0_init (o : Option Nat) (a1 : Int32) (a2 : Int32) (h : AH) : Option (Unit × AH) :=
  rO h [0, 1, 2, 9] o <|
  pI h [0, 1, 2, 9] o 0 a1 fun h1 =>
  pI h1 [0, 1, 2, 9] o 1 a2 fun h2 =>
  some ((), h2)
set_option maxRecDepth 100000 in
set_option maxHeartbeats 4000000 in
theorem c_X0_init (l : Launch) (D : DT) (o : Option Nat) (a1 : Int32) (a2 : Int32) (h : AH) (r : Unit × AH) (hf : f_X0_init o a1 a2 h = some r) : CM l D yX0_init cX0_init 3 none 1 20 0 0 [.inr (.inr o), .inl a1, .inl a2] h none r.2 := by
  refine CM.of (by decide) (Nat.le_of_ble_eq_true rfl) (fun X hl C hD hX hnm E => ?_)
  subst hl
  subst hD
  have C : CX X RX0 cX0_init 3 := C
  show WW X h 0 0 0 [some (rB (xD X).1 o), some (.int a1), some (.int a2)] []
  unfold f_X0_init at hf
  refine s_aload_n C dX0_init_0 rfl ?_
  refine s_objInit C wml_X0_3 wim_obj wcd_obj dX0_init_1 (cs := [0, 1, 2, 9]) hf (Nat.le_of_ble_eq_true rfl) (room_n hX (Nat.le_of_ble_eq_true rfl) (Nat.le_of_ble_eq_true rfl)) (fun hf => ?_)
  refine s_aload_n C dX0_init_4 rfl ?_
  refine s_iload_n C dX0_init_5 rfl ?_
  refine s_putFI C fl_X0_9 (by decide) (by decide +kernel) hnm dX0_init_6 hf (fun h1 hf => ?_)
  refine s_aload_n C dX0_init_9 rfl ?_
  refine s_iload_n C dX0_init_10 rfl ?_
  refine s_putFI C fl_X0_15 (by decide) (by decide +kernel) hnm dX0_init_11 hf (fun h2 hf => ?_)
  exact s_return C E dX0_init_14 hf (Nat.le_of_ble_eq_true rfl) (Nat.le_of_ble_eq_true rfl)
/-- HillBoxes$Hills.enter(LHillBoxes$Body;)I -/
noncomputable def f_X3_enter (o : Option Nat) (a1 : Option Nat) (h : AH) : Option (Int32 × AH) :=
  fR h [3] o 2 fun v1 =>
  fI h [3] o 3 fun v2 =>
  bR h 25 (elX 25) v1 v2 a1 fun h3 =>
  fI h3 [3] o 3 fun v4 =>
  pI h3 [3] o 3 (v4 + (1 : Int32)) fun h5 =>
  fI h5 [0, 1, 2, 9] a1 0 fun v6 =>
  some (v6, h5)
set_option maxRecDepth 100000 in
set_option maxHeartbeats 4000000 in
theorem c_X3_enter (l : Launch) (D : DT) (o : Option Nat) (a1 : Option Nat) (h : AH) (r : Int32 × AH) (hf : f_X3_enter o a1 h = some r) : CM l D yX3_enter cX3_enter 2 (some .int) 0 0 0 0 [.inr (.inr o), .inr (.inr a1)] h (some (.int r.1)) r.2 := by
  refine CM.of (by decide) (Nat.le_of_ble_eq_true rfl) (fun X hl C hD hX hnm E => ?_)
  subst hl
  subst hD
  have C : CX X RX3 cX3_enter 2 := C
  show WW X h 0 0 0 [some (rB (xD X).1 o), some (rB (xD X).1 a1)] []
  unfold f_X3_enter at hf
  refine s_aload_n C dX3_enter_0 rfl ?_
  refine s_getR C fl_X3_17 dX3_enter_1 hf (fun v1 hf => ?_)
  refine s_aload_n C dX3_enter_4 rfl ?_
  refine s_getI C fl_X3_39 dX3_enter_5 hf (fun v2 hf => ?_)
  refine s_aload_n C dX3_enter_8 rfl ?_
  refine s_aastore C (by decide) (hcast C) dX3_enter_9 hf (fun h3 hf => ?_)
  refine s_aload_n C dX3_enter_10 rfl ?_
  refine s_dup C dX3_enter_11 c1_r ?_
  refine s_getI C fl_X3_39 dX3_enter_12 hf (fun v4 hf => ?_)
  refine s_iconst C dX3_enter_15 (v := (1 : Int32)) (by decide) ?_
  refine s_iadd C dX3_enter_16 ?_
  refine s_putI C fl_X3_39 (by decide) dX3_enter_17 hf (fun h5 hf => ?_)
  refine s_aload_n C dX3_enter_20 rfl ?_
  refine s_getI C fl_X3_43 dX3_enter_21 hf (fun v6 hf => ?_)
  exact s_ireturn C E dX3_enter_24 hf (Nat.le_of_ble_eq_true rfl) (Nat.le_of_ble_eq_true rfl)
/-- HillBoxes$Hills.isFull()Z -/
noncomputable def f_X3_isFull (o : Option Nat) (h : AH) : Option (Int32 × AH) :=
  fI h [3] o 3 fun v1 =>
  jn (fun (x2 : Int32) =>
    rz x2 h) fun j15 =>
  if v1 < (150 : Int32) then
    j15 (0 : Int32)
  else
    j15 (1 : Int32)
set_option maxRecDepth 100000 in
set_option maxHeartbeats 4000000 in
theorem c_X3_isFull (l : Launch) (D : DT) (o : Option Nat) (h : AH) (r : Int32 × AH) (hf : f_X3_isFull o h = some r) : CM l D yX3_isFull cX3_isFull 1 (some .boolean) 0 0 0 0 [.inr (.inr o)] h (some (.int r.1)) r.2 := by
  refine CM.of (by decide) (Nat.le_of_ble_eq_true rfl) (fun X hl C hD hX hnm E => ?_)
  subst hl
  subst hD
  have C : CX X RX3 cX3_isFull 1 := C
  show WW X h 0 0 0 [some (rB (xD X).1 o)] []
  unfold f_X3_isFull at hf
  refine s_aload_n C dX3_isFull_0 rfl ?_
  refine s_getI C fl_X3_39 dX3_isFull_1 hf (fun v1 hf => ?_)
  refine s_sipush C dX3_isFull_4 (v := (150 : Int32)) (by decide) ?_
  refine s_jn hf (fun j15 e15 hf => ?_)
  have k15 : ∀ (x2 : Int32), j15 x2 = some r → WW X h 0 0 15 [none] [.int x2] := by
    intro x2 hf
    rw [e15] at hf
    exact s_zreturn C E dX3_isFull_15 hf (Nat.le_of_ble_eq_true rfl) (Nat.le_of_ble_eq_true rfl)
  refine s_icmp_lt (tgt := 14) C dX3_isFull_7 (by decide) hf (fun hf => ?_) (fun hf => ?_)
  · refine s_iconst C dX3_isFull_14 (v := (0 : Int32)) (by decide) ?_
    refine s_weak (lv' := [none]) trivial ?_
    exact k15 _ hf
  · refine s_iconst C dX3_isFull_10 (v := (1 : Int32)) (by decide) ?_
    refine s_goto (tgt := 15) C dX3_isFull_11 (by decide) ?_
    refine s_weak (lv' := [none]) trivial ?_
    exact k15 _ hf
/-- HillBoxes$Thing.<init>(I)V -/
noncomputable def f_X9_init (o : Option Nat) (a1 : Int32) (h : AH) : Option (Unit × AH) :=
  rO h [9] o <| cl (f_X0_init o a1 (6 : Int32) h) fun _ h1 =>
  nO h1 20 12 fun v2 h3 =>
  pR h3 [9] o 2 v2 fun h4 =>
  nO h4 23 12 fun v5 h6 =>
  pR h6 [9] o 3 v5 fun h7 =>
  some ((), h7)
set_option maxRecDepth 100000 in
set_option maxHeartbeats 4000000 in
theorem c_X9_init (l : Launch) (D : DT) (o : Option Nat) (a1 : Int32) (h : AH) (r : Unit × AH) (hf : f_X9_init o a1 h = some r) : CM l D yX9_init cX9_init 2 none 2 42 2 24 [.inr (.inr o), .inl a1] h none r.2 := by
  refine CM.of (by decide) (Nat.le_of_ble_eq_true rfl) (fun X hl C hD hX hnm E => ?_)
  subst hl
  subst hD
  have C : CX X RX9 cX9_init 2 := C
  show WW X h 0 0 0 [some (rB (xD X).1 o), some (.int a1)] []
  unfold f_X9_init at hf
  refine s_aload_n C dX9_init_0 rfl ?_
  refine s_iload_n C dX9_init_1 rfl ?_
  refine s_bipush C dX9_init_2 (v := (6 : Int32)) (by decide) ?_
  refine s_callI (st := []) (fr := 1) (lo := 20) (mc := 0) (ms := 0) C wc_X0_init wml_X9_3 wim_X0_init rfl dX9_init_4 (As := [.inl a1, .inl (6 : Int32)]) rfl (a0 := 9) hf (fun h' hF => c_X0_init _ _ _ _ _ _ ((), h') hF) rfl (Nat.le_of_ble_eq_true rfl) (room_ok hX (Nat.le_of_ble_eq_true rfl) (Nat.le_of_ble_eq_true rfl)) (cell_ok hX (Nat.le_of_ble_eq_true rfl) (Nat.le_of_ble_eq_true rfl)) (fun h1 hf => ?_)
  refine s_aload_n C dX9_init_7 rfl ?_
  refine s_bipush C dX9_init_8 (v := (12 : Int32)) (by decide) ?_
  refine s_newarray C (t := 20) (N := 12) rfl (by decide) wac_20 dX9_init_10 (by decide) (by decide) (Nat.le_of_ble_eq_true rfl) hf (cell1 hX (Nat.le_of_ble_eq_true rfl)) (cell2 hX (Nat.le_of_ble_eq_true rfl)) (fun v2 h3 hf => ?_)
  refine s_putFR C fl_X9_9 (by decide +kernel) hnm dX9_init_12 hf (fun h4 hf => ?_)
  refine s_aload_n C dX9_init_15 rfl ?_
  refine s_bipush C dX9_init_16 (v := (12 : Int32)) (by decide) ?_
  refine s_newarray C (t := 23) (N := 12) rfl (by decide) wac_23 dX9_init_18 (by decide) (by decide) (Nat.le_of_ble_eq_true rfl) hf (cell1 hX (Nat.le_of_ble_eq_true rfl)) (cell2 hX (Nat.le_of_ble_eq_true rfl)) (fun v5 h6 hf => ?_)
  refine s_putFR C fl_X9_15 (by decide +kernel) hnm dX9_init_20 hf (fun h7 hf => ?_)
  exact s_return C E dX9_init_23 hf (Nat.le_of_ble_eq_true rfl) (Nat.le_of_ble_eq_true rfl)
/-- HillBoxes.body(I)I -/
noncomputable def f_X11_body (o : Option Nat) (a1 : Int32) (h : AH) : Option (Int32 × AH) :=
  jn (
    fR h [11] o 0 fun v1 =>
    rO h [3] v1 <| cl (f_X3_isFull v1 h) fun v3 h2 =>
    if v3 = 0 then
      fR h2 [11] o 0 fun v4 =>
      jn (fun (x5 : Option Nat) (h6 : AH) =>
        rO h6 [3] v4 <| cl (f_X3_enter v4 x5 h6) fun v8 h7 =>
        some (v8, h7)) fun j67 =>
      if a1 = (6 : Int32) then
        nO h2 9 5 fun v14 h15 =>
        fR h15 [11] o 0 fun v16 =>
        fI h15 [3] v16 3 fun v17 =>
        rO h15 [9] v14 <| cl (f_X9_init v14 v17 h15) fun _ h18 =>
        j67 v14 h18
      else
        nO h2 0 2 fun v9 h10 =>
        fR h10 [11] o 0 fun v11 =>
        fI h10 [3] v11 3 fun v12 =>
        rO h10 [0] v9 <| cl (f_X0_init v9 v12 a1 h10) fun _ h13 =>
        j67 v9 h13
    else
      some ((-3 : Int32), h2)) fun j12 =>
  if a1 = 0 then
    j12
  else
    if a1 = (6 : Int32) then
      j12
    else
      some ((-1 : Int32), h)
set_option maxRecDepth 100000 in
set_option maxHeartbeats 4000000 in
theorem c_X11_body (l : Launch) (D : DT) (o : Option Nat) (a1 : Int32) (h : AH) (r : Int32 × AH) (hf : f_X11_body o a1 h = some r) : CM l D yX11_body cX11_body 2 (some .int) 3 63 3 29 [.inr (.inr o), .inl a1] h (some (.int r.1)) r.2 := by
  refine CM.of (by decide) (Nat.le_of_ble_eq_true rfl) (fun X hl C hD hX hnm E => ?_)
  subst hl
  subst hD
  have C : CX X RX11 cX11_body 2 := C
  show WW X h 0 0 0 [some (rB (xD X).1 o), some (.int a1)] []
  unfold f_X11_body at hf
  refine s_iload_n C dX11_body_0 rfl ?_
  refine s_jn hf (fun j12 e12 hf => ?_)
  have k12 : j12  = some r → WW X h 0 0 12 [some (rB (xD X).1 o), some (.int a1)] [] := by
    intro  hf
    rw [e12] at hf
    refine s_aload_n C dX11_body_12 rfl ?_
    refine s_getR C fl_X11_10 dX11_body_13 hf (fun v1 hf => ?_)
    refine s_callV (rvf := fun x => some (.int x)) (st := []) (fr := 0) (lo := 0) (mc := 0) (ms := 0) C [3] wc_X3_isFull wml_X11_64 wim_X3_isFull wsl_3_X3_isFull dX11_body_16 (As := []) rfl hf (fun x h' hF => c_X3_isFull _ _ _ _ (x, h') hF) rfl (Nat.le_of_ble_eq_true rfl) (room_ok hX (Nat.le_of_ble_eq_true rfl) (Nat.le_of_ble_eq_true rfl)) (cell_ok hX (Nat.le_of_ble_eq_true rfl) (Nat.le_of_ble_eq_true rfl)) (fun v3 h2 hf => ?_)
    refine s_if_eq (tgt := 25) C dX11_body_19 (by decide) hf (fun hf => ?_) (fun hf => ?_)
    · refine s_aload_n C dX11_body_25 rfl ?_
      refine s_getR C fl_X11_10 dX11_body_26 hf (fun v4 hf => ?_)
      refine s_iload_n C dX11_body_29 rfl ?_
      refine s_bipush C dX11_body_30 (v := (6 : Int32)) (by decide) ?_
      refine s_jn hf (fun j67 e67 hf => ?_)
      have k67 : ∀ (x5 : Option Nat) (h6 : AH), j67 x5 h6 = some r → WW X h6 3 29 67 [none, none] [rB (xD X).1 x5, rB (xD X).1 v4] := by
        intro x5 h6 hf
        rw [e67] at hf
        refine s_callV (rvf := fun x => some (.int x)) (st := []) (fr := 0) (lo := 0) (mc := 0) (ms := 0) C [3] wc_X3_enter wml_X11_81 wim_X3_enter wsl_3_X3_enter dX11_body_67 (As := [.inr (.inr x5)]) rfl hf (fun x h' hF => c_X3_enter _ _ _ _ _ (x, h') hF) rfl (Nat.le_of_ble_eq_true rfl) (room_ok hX (Nat.le_of_ble_eq_true rfl) (Nat.le_of_ble_eq_true rfl)) (cell_ok hX (Nat.le_of_ble_eq_true rfl) (Nat.le_of_ble_eq_true rfl)) (fun v8 h7 hf => ?_)
        exact s_ireturn C E dX11_body_70 hf (Nat.le_of_ble_eq_true rfl) (Nat.le_of_ble_eq_true rfl)
      refine s_icmp_ne (tgt := 52) C dX11_body_32 (by decide) hf (fun hf => ?_) (fun hf => ?_)
      · refine s_new C (t := 0) (n := 2) (by decide) rfl wcl_X11_76 wins_X0 wini_X0 dX11_body_52 hf (cell1 hX (Nat.le_of_ble_eq_true rfl)) (cell2 hX (Nat.le_of_ble_eq_true rfl)) (fun v9 h10 hf => ?_)
        refine s_dup C dX11_body_55 c1_r ?_
        refine s_aload_n C dX11_body_56 rfl ?_
        refine s_getR C fl_X11_10 dX11_body_57 hf (fun v11 hf => ?_)
        refine s_getI C fl_X11_70 dX11_body_60 hf (fun v12 hf => ?_)
        refine s_iload_n C dX11_body_63 rfl ?_
        refine s_callI (st := [rB (xD X).1 v9, rB (xD X).1 v4]) (fr := 1) (lo := 20) (mc := 0) (ms := 0) C wc_X0_init wml_X11_78 wim_X0_init rfl dX11_body_64 (As := [.inl v12, .inl a1]) rfl (a0 := 0) hf (fun h' hF => c_X0_init _ _ _ _ _ _ ((), h') hF) rfl (Nat.le_of_ble_eq_true rfl) (room_ok hX (Nat.le_of_ble_eq_true rfl) (Nat.le_of_ble_eq_true rfl)) (cell_ok hX (Nat.le_of_ble_eq_true rfl) (Nat.le_of_ble_eq_true rfl)) (fun h13 hf => ?_)
        refine s_widen (c := 3) (s := 29) (Nat.le_of_ble_eq_true rfl) (Nat.le_of_ble_eq_true rfl) ?_
        refine s_weak (lv' := [none, none]) trivial ?_
        exact k67 _ _ hf
      · refine s_new C (t := 9) (n := 5) (by decide) rfl wcl_X11_68 wins_X9 wini_X9 dX11_body_35 hf (cell1 hX (Nat.le_of_ble_eq_true rfl)) (cell2 hX (Nat.le_of_ble_eq_true rfl)) (fun v14 h15 hf => ?_)
        refine s_dup C dX11_body_38 c1_r ?_
        refine s_aload_n C dX11_body_39 rfl ?_
        refine s_getR C fl_X11_10 dX11_body_40 hf (fun v16 hf => ?_)
        refine s_getI C fl_X11_70 dX11_body_43 hf (fun v17 hf => ?_)
        refine s_callI (st := [rB (xD X).1 v14, rB (xD X).1 v4]) (fr := 2) (lo := 42) (mc := 2) (ms := 24) C wc_X9_init wml_X11_73 wim_X9_init rfl dX11_body_46 (As := [.inl v17]) rfl (a0 := 9) hf (fun h' hF => c_X9_init _ _ _ _ _ ((), h') hF) rfl (Nat.le_of_ble_eq_true rfl) (room_ok hX (Nat.le_of_ble_eq_true rfl) (Nat.le_of_ble_eq_true rfl)) (cell_ok hX (Nat.le_of_ble_eq_true rfl) (Nat.le_of_ble_eq_true rfl)) (fun h18 hf => ?_)
        refine s_goto (tgt := 67) C dX11_body_49 (by decide) ?_
        refine s_weak (lv' := [none, none]) trivial ?_
        exact k67 _ _ hf
    · refine s_bipush C dX11_body_22 (v := (-3 : Int32)) (by decide) ?_
      exact s_ireturn C E dX11_body_24 hf (Nat.le_of_ble_eq_true rfl) (Nat.le_of_ble_eq_true rfl)
  refine s_if_eq (tgt := 12) C dX11_body_1 (by decide) hf (fun hf => ?_) (fun hf => ?_)
  · exact k12 hf
  · refine s_iload_n C dX11_body_4 rfl ?_
    refine s_bipush C dX11_body_5 (v := (6 : Int32)) (by decide) ?_
    refine s_icmp_eq (tgt := 12) C dX11_body_7 (by decide) hf (fun hf => ?_) (fun hf => ?_)
    · exact k12 hf
    · refine s_iconst C dX11_body_10 (v := (-1 : Int32)) (by decide) ?_
      exact s_ireturn C E dX11_body_11 hf (Nat.le_of_ble_eq_true rfl) (Nat.le_of_ble_eq_true rfl)
/-- HillBoxes$Hills.thingAt(I)LHillBoxes$Thing; -/
noncomputable def f_X3_thingAt (o : Option Nat) (a1 : Int32) (h : AH) : Option (Option Nat × AH) :=
  jn (fun (x1 : Option Nat) =>
    iO h [9] x1 fun v2 =>
    jn (fun (x3 : Option Nat) =>
      some (x3, h)) fun j38 =>
    if v2 = 0 then
      j38 none
    else
      cO h [9] x1 <|
      j38 x1) fun j22 =>
  jn (
    j22 none) fun j12 =>
  if a1 < 0 then
    j12
  else
    fI h [3] o 3 fun v4 =>
    if a1 < v4 then
      fR h [3] o 2 fun v5 =>
      aR h 25 v5 a1 fun v6 =>
      j22 v6
    else
      j12
set_option maxRecDepth 100000 in
set_option maxHeartbeats 4000000 in
theorem c_X3_thingAt (l : Launch) (D : DT) (o : Option Nat) (a1 : Int32) (h : AH) (r : Option Nat × AH) (hf : f_X3_thingAt o a1 h = some r) : CM l D yX3_thingAt cX3_thingAt 3 (some (.object "HillBoxes$Thing")) 0 0 0 0 [.inr (.inr o), .inl a1] h (some (rB D.1 r.1)) r.2 := by
  refine CM.of (by decide) (Nat.le_of_ble_eq_true rfl) (fun X hl C hD hX hnm E => ?_)
  subst hl
  subst hD
  have C : CX X RX3 cX3_thingAt 3 := C
  show WW X h 0 0 0 [some (rB (xD X).1 o), some (.int a1), none] []
  unfold f_X3_thingAt at hf
  refine s_iload_n C dX3_thingAt_0 rfl ?_
  refine s_jn hf (fun j22 e22 hf => ?_)
  have k22 : ∀ (x1 : Option Nat), j22 x1 = some r → WW X h 0 0 22 [none, none, none] [rB (xD X).1 x1] := by
    intro x1 hf
    rw [e22] at hf
    refine s_astore_n C dX3_thingAt_22 (by decide) (nc_n rfl) (lv' := [none, none, some (rB (xD X).1 x1)]) rfl ?_
    refine s_aload_n C dX3_thingAt_23 rfl ?_
    refine s_instof C (t := 9) (by decide) wcl_X3_50 dX3_thingAt_24 hf (fun v2 hf => ?_)
    refine s_jn hf (fun j38 e38 hf => ?_)
    have k38 : ∀ (x3 : Option Nat), j38 x3 = some r → WW X h 0 0 38 [none, none, none] [rB (xD X).1 x3] := by
      intro x3 hf
      rw [e38] at hf
      exact s_areturn C E dX3_thingAt_38 hf (Nat.le_of_ble_eq_true rfl) (Nat.le_of_ble_eq_true rfl)
    refine s_if_eq (tgt := 37) C dX3_thingAt_27 (by decide) hf (fun hf => ?_) (fun hf => ?_)
    · refine s_null C dX3_thingAt_37 ?_
      refine s_weak (lv' := [none, none, none]) trivial ?_
      exact k38 _ hf
    · refine s_aload_n C dX3_thingAt_30 rfl ?_
      refine s_cast C (t := 9) (by decide) wcl_X3_50 dX3_thingAt_31 hf (fun hf => ?_)
      refine s_goto (tgt := 38) C dX3_thingAt_34 (by decide) ?_
      refine s_weak (lv' := [none, none, none]) trivial ?_
      exact k38 _ hf
  refine s_jn hf (fun j12 e12 hf => ?_)
  have k12 : j12  = some r → WW X h 0 0 12 [none, none, none] [] := by
    intro  hf
    rw [e12] at hf
    refine s_null C dX3_thingAt_12 ?_
    refine s_goto (tgt := 22) C dX3_thingAt_13 (by decide) ?_
    exact k22 _ hf
  refine s_if_lt (tgt := 12) C dX3_thingAt_1 (by decide) hf (fun hf => ?_) (fun hf => ?_)
  · refine s_weak (lv' := [none, none, none]) trivial ?_
    exact k12 hf
  · refine s_iload_n C dX3_thingAt_4 rfl ?_
    refine s_aload_n C dX3_thingAt_5 rfl ?_
    refine s_getI C fl_X3_39 dX3_thingAt_6 hf (fun v4 hf => ?_)
    refine s_icmp_lt (tgt := 16) C dX3_thingAt_9 (by decide) hf (fun hf => ?_) (fun hf => ?_)
    · refine s_aload_n C dX3_thingAt_16 rfl ?_
      refine s_getR C fl_X3_17 dX3_thingAt_17 hf (fun v5 hf => ?_)
      refine s_iload_n C dX3_thingAt_20 rfl ?_
      refine s_aaload C dX3_thingAt_21 (by decide) hf (fun v6 hf => ?_)
      refine s_weak (lv' := [none, none, none]) trivial ?_
      exact k22 _ hf
    · refine s_weak (lv' := [none, none, none]) trivial ?_
      exact k12 hf
/-- HillBoxes.far(II)I -/
noncomputable def f_X11_far (a0 : Int32) (a1 : Int32) (h : AH) : Option (Int32 × AH) :=
  nz (10 : Int32) <|
  nz (10 : Int32) <|
  nz (10 : Int32) <|
  nz (10 : Int32) <|
  some (((if 0 ≤ ((a0 - a0 / (10 : Int32) * (10 : Int32)) - (a1 - a1 / (10 : Int32) * (10 : Int32))) then ((a0 - a0 / (10 : Int32) * (10 : Int32)) - (a1 - a1 / (10 : Int32) * (10 : Int32))) else 0 - ((a0 - a0 / (10 : Int32) * (10 : Int32)) - (a1 - a1 / (10 : Int32) * (10 : Int32)))) + (if 0 ≤ ((a0 / (10 : Int32)) - (a1 / (10 : Int32))) then ((a0 / (10 : Int32)) - (a1 / (10 : Int32))) else 0 - ((a0 / (10 : Int32)) - (a1 / (10 : Int32))))), h)
set_option maxRecDepth 100000 in
set_option maxHeartbeats 4000000 in
theorem c_X11_far (l : Launch) (D : DT) (a0 : Int32) (a1 : Int32) (h : AH) (r : Int32 × AH) (hf : f_X11_far a0 a1 h = some r) : CM l D yX11_far cX11_far 2 (some .int) 1 21 0 0 [.inl a0, .inl a1] h (some (.int r.1)) r.2 := by
  refine CM.of (by decide) (Nat.le_of_ble_eq_true rfl) (fun X hl C hD hX hnm E => ?_)
  subst hl
  subst hD
  have C : CX X RX11 cX11_far 2 := C
  show WW X h 0 0 0 [some (.int a0), some (.int a1)] []
  unfold f_X11_far at hf
  refine s_iload_n C dX11_far_0 rfl ?_
  refine s_bipush C dX11_far_1 (v := (10 : Int32)) (by decide) ?_
  refine s_irem C dX11_far_3 hf (fun hf => ?_)
  refine s_iload_n C dX11_far_4 rfl ?_
  refine s_bipush C dX11_far_5 (v := (10 : Int32)) (by decide) ?_
  refine s_irem C dX11_far_7 hf (fun hf => ?_)
  refine s_isub C dX11_far_8 ?_
  refine s_mabs C wml_X11_488 wst_mabs wini_math wcd_mabs dX11_far_9 (Nat.le_of_ble_eq_true rfl) (room_n hX (Nat.le_of_ble_eq_true rfl) (Nat.le_of_ble_eq_true rfl)) (cell_ok hX (Nat.le_of_ble_eq_true rfl) (Nat.le_of_ble_eq_true rfl)) ?_
  refine s_iload_n C dX11_far_12 rfl ?_
  refine s_bipush C dX11_far_13 (v := (10 : Int32)) (by decide) ?_
  refine s_idiv C dX11_far_15 hf (fun hf => ?_)
  refine s_iload_n C dX11_far_16 rfl ?_
  refine s_bipush C dX11_far_17 (v := (10 : Int32)) (by decide) ?_
  refine s_idiv C dX11_far_19 hf (fun hf => ?_)
  refine s_isub C dX11_far_20 ?_
  refine s_mabs C wml_X11_488 wst_mabs wini_math wcd_mabs dX11_far_21 (Nat.le_of_ble_eq_true rfl) (room_n hX (Nat.le_of_ble_eq_true rfl) (Nat.le_of_ble_eq_true rfl)) (cell_ok hX (Nat.le_of_ble_eq_true rfl) (Nat.le_of_ble_eq_true rfl)) ?_
  refine s_iadd C dX11_far_24 ?_
  exact s_ireturn C E dX11_far_25 hf (Nat.le_of_ble_eq_true rfl) (Nat.le_of_ble_eq_true rfl)
/-- HillBoxes$Box.isDown()Z -/
noncomputable def f_X1_isDown (o : Option Nat) (h : AH) : Option (Int32 × AH) :=
  fI h [1] o 11 fun v1 =>
  jn (fun (x2 : Int32) =>
    rz x2 h) fun j12 =>
  if v1 < 0 then
    j12 (0 : Int32)
  else
    j12 (1 : Int32)
set_option maxRecDepth 100000 in
set_option maxHeartbeats 4000000 in
theorem c_X1_isDown (l : Launch) (D : DT) (o : Option Nat) (h : AH) (r : Int32 × AH) (hf : f_X1_isDown o h = some r) : CM l D yX1_isDown cX1_isDown 1 (some .boolean) 0 0 0 0 [.inr (.inr o)] h (some (.int r.1)) r.2 := by
  refine CM.of (by decide) (Nat.le_of_ble_eq_true rfl) (fun X hl C hD hX hnm E => ?_)
  subst hl
  subst hD
  have C : CX X RX1 cX1_isDown 1 := C
  show WW X h 0 0 0 [some (rB (xD X).1 o)] []
  unfold f_X1_isDown at hf
  refine s_aload_n C dX1_isDown_0 rfl ?_
  refine s_getI C fl_X1_21 dX1_isDown_1 hf (fun v1 hf => ?_)
  refine s_jn hf (fun j12 e12 hf => ?_)
  have k12 : ∀ (x2 : Int32), j12 x2 = some r → WW X h 0 0 12 [none] [.int x2] := by
    intro x2 hf
    rw [e12] at hf
    exact s_zreturn C E dX1_isDown_12 hf (Nat.le_of_ble_eq_true rfl) (Nat.le_of_ble_eq_true rfl)
  refine s_if_lt (tgt := 11) C dX1_isDown_4 (by decide) hf (fun hf => ?_) (fun hf => ?_)
  · refine s_iconst C dX1_isDown_11 (v := (0 : Int32)) (by decide) ?_
    refine s_weak (lv' := [none]) trivial ?_
    exact k12 _ hf
  · refine s_iconst C dX1_isDown_7 (v := (1 : Int32)) (by decide) ?_
    refine s_goto (tgt := 12) C dX1_isDown_8 (by decide) ?_
    refine s_weak (lv' := [none]) trivial ?_
    exact k12 _ hf
/-- HillBoxes$Box.liesNow()I -/
noncomputable def f_X1_liesNow (o : Option Nat) (h : AH) : Option (Int32 × AH) :=
  fI h [1] o 10 fun v1 =>
  jn (fun (x2 : Int32) =>
    some (x2, h)) fun j25 =>
  if v1 ≤ 0 then
    fI h [1] o 9 fun v3 =>
    j25 v3
  else
    fR h [1] o 4 fun v4 =>
    fI h [1] o 10 fun v5 =>
    aI h 20 v4 (v5 - (1 : Int32)) fun v6 =>
    j25 v6
set_option maxRecDepth 100000 in
set_option maxHeartbeats 4000000 in
theorem c_X1_liesNow (l : Launch) (D : DT) (o : Option Nat) (h : AH) (r : Int32 × AH) (hf : f_X1_liesNow o h = some r) : CM l D yX1_liesNow cX1_liesNow 1 (some .int) 0 0 0 0 [.inr (.inr o)] h (some (.int r.1)) r.2 := by
  refine CM.of (by decide) (Nat.le_of_ble_eq_true rfl) (fun X hl C hD hX hnm E => ?_)
  subst hl
  subst hD
  have C : CX X RX1 cX1_liesNow 1 := C
  show WW X h 0 0 0 [some (rB (xD X).1 o)] []
  unfold f_X1_liesNow at hf
  refine s_aload_n C dX1_liesNow_0 rfl ?_
  refine s_getI C fl_X1_52 dX1_liesNow_1 hf (fun v1 hf => ?_)
  refine s_jn hf (fun j25 e25 hf => ?_)
  have k25 : ∀ (x2 : Int32), j25 x2 = some r → WW X h 0 0 25 [none] [.int x2] := by
    intro x2 hf
    rw [e25] at hf
    exact s_ireturn C E dX1_liesNow_25 hf (Nat.le_of_ble_eq_true rfl) (Nat.le_of_ble_eq_true rfl)
  refine s_if_le (tgt := 21) C dX1_liesNow_4 (by decide) hf (fun hf => ?_) (fun hf => ?_)
  · refine s_aload_n C dX1_liesNow_21 rfl ?_
    refine s_getI C fl_X1_34 dX1_liesNow_22 hf (fun v3 hf => ?_)
    refine s_weak (lv' := [none]) trivial ?_
    exact k25 _ hf
  · refine s_aload_n C dX1_liesNow_7 rfl ?_
    refine s_getR C fl_X1_9 dX1_liesNow_8 hf (fun v4 hf => ?_)
    refine s_aload_n C dX1_liesNow_11 rfl ?_
    refine s_getI C fl_X1_52 dX1_liesNow_12 hf (fun v5 hf => ?_)
    refine s_iconst C dX1_liesNow_15 (v := (1 : Int32)) (by decide) ?_
    refine s_isub C dX1_liesNow_16 ?_
    refine s_iaload C dX1_liesNow_17 hf (fun v6 hf => ?_)
    refine s_goto (tgt := 25) C dX1_liesNow_18 (by decide) ?_
    refine s_weak (lv' := [none]) trivial ?_
    exact k25 _ hf
/-- HillBoxes$Hills.whereLay(LHillBoxes$Box;I)I -/
noncomputable def f_X3_whereLay (o : Option Nat) (a1 : Option Nat) (a2 : Int32) (h : AH) : Option (Int32 × AH) :=
  jn (fun (h1 : AH) =>
    some ((-1 : Int32), h1)) fun j33 =>
  if a1 = none then
    j33 h
  else
    fI h [1] a1 2 fun v2 =>
    if a2 < ((24 : Int32) * v2) then
      j33 h
    else
      rO h [1] a1 <| cl (f_X1_isDown a1 h) fun v4 h3 =>
      jn (
        fI h3 [1] a1 1 fun v5 =>
        if v5 = (4 : Int32) then
          fI h3 [3] o 9 fun v6 =>
          lp (fun _ => none) (fun (L55 : Int32 → Option (Int32 × AH)) (x7 : Int32) =>
            if x7 < 0 then
              fI h3 [1] a1 3 fun v8 =>
              some (v8, h3)
            else
              fR h3 [3] o 6 fun v9 =>
              aI h3 20 v9 x7 fun v10 =>
              fI h3 [1] a1 0 fun v11 =>
              jn (
                L55 (x7 + (-1))) fun j89 =>
              if v10 = v11 then
                fR h3 [3] o 7 fun v12 =>
                aI h3 20 v12 x7 fun v13 =>
                if a2 < v13 then
                  j89
                else
                  fR h3 [3] o 8 fun v14 =>
                  aI h3 20 v14 x7 fun v15 =>
                  some (v15, h3)
              else
                j89) lpN (v6 - (1 : Int32))
        else
          rO h3 [1] a1 <| cl (f_X1_liesNow a1 h3) fun v17 h16 =>
          some (v17, h16)) fun j35 =>
      if v4 = 0 then
        j35
      else
        fI h3 [1] a1 11 fun v18 =>
        if a2 < ((24 : Int32) * v18) then
          j35
        else
          j33 h3
set_option maxRecDepth 100000 in
set_option maxHeartbeats 4000000 in
theorem c_X3_whereLay (l : Launch) (D : DT) (o : Option Nat) (a1 : Option Nat) (a2 : Int32) (h : AH) (r : Int32 × AH) (hf : f_X3_whereLay o a1 a2 h = some r) : CM l D yX3_whereLay cX3_whereLay 4 (some .int) 1 20 0 0 [.inr (.inr o), .inr (.inr a1), .inl a2] h (some (.int r.1)) r.2 := by
  refine CM.of (by decide) (Nat.le_of_ble_eq_true rfl) (fun X hl C hD hX hnm E => ?_)
  subst hl
  subst hD
  have C : CX X RX3 cX3_whereLay 4 := C
  show WW X h 0 0 0 [some (rB (xD X).1 o), some (rB (xD X).1 a1), some (.int a2), none] []
  unfold f_X3_whereLay at hf
  refine s_aload_n C dX3_whereLay_0 rfl ?_
  refine s_jn hf (fun j33 e33 hf => ?_)
  have k33 : ∀ (h1 : AH), j33 h1 = some r → WW X h1 0 0 33 [none, none, none, none] [] := by
    intro h1 hf
    rw [e33] at hf
    refine s_iconst C dX3_whereLay_33 (v := (-1 : Int32)) (by decide) ?_
    exact s_ireturn C E dX3_whereLay_34 hf (Nat.le_of_ble_eq_true rfl) (Nat.le_of_ble_eq_true rfl)
  refine s_ifnull (tgt := 33) C dX3_whereLay_1 (by decide) hf (fun hf => ?_) (fun hf => ?_)
  · refine s_weak (lv' := [none, none, none, none]) trivial ?_
    exact k33 _ hf
  · refine s_iload_n C dX3_whereLay_4 rfl ?_
    refine s_bipush C dX3_whereLay_5 (v := (24 : Int32)) (by decide) ?_
    refine s_aload_n C dX3_whereLay_7 rfl ?_
    refine s_getI C fl_X3_69 dX3_whereLay_8 hf (fun v2 hf => ?_)
    refine s_imul C dX3_whereLay_11 ?_
    refine s_icmp_lt (tgt := 33) C dX3_whereLay_12 (by decide) hf (fun hf => ?_) (fun hf => ?_)
    · refine s_weak (lv' := [none, none, none, none]) trivial ?_
      exact k33 _ hf
    · refine s_aload_n C dX3_whereLay_15 rfl ?_
      refine s_callV (rvf := fun x => some (.int x)) (st := []) (fr := 0) (lo := 0) (mc := 0) (ms := 0) C [1] wc_X1_isDown wml_X3_72 wim_X1_isDown wsl_1_X1_isDown dX3_whereLay_16 (As := []) rfl hf (fun x h' hF => c_X1_isDown _ _ _ _ (x, h') hF) rfl (Nat.le_of_ble_eq_true rfl) (room_ok hX (Nat.le_of_ble_eq_true rfl) (Nat.le_of_ble_eq_true rfl)) (cell_ok hX (Nat.le_of_ble_eq_true rfl) (Nat.le_of_ble_eq_true rfl)) (fun v4 h3 hf => ?_)
      refine s_jn hf (fun j35 e35 hf => ?_)
      have k35 : j35  = some r → WW X h3 0 0 35 [some (rB (xD X).1 o), some (rB (xD X).1 a1), some (.int a2), none] [] := by
        intro  hf
        rw [e35] at hf
        refine s_aload_n C dX3_whereLay_35 rfl ?_
        refine s_getI C fl_X3_76 dX3_whereLay_36 hf (fun v5 hf => ?_)
        refine s_iconst C dX3_whereLay_39 (v := (4 : Int32)) (by decide) ?_
        refine s_icmp_eq (tgt := 48) C dX3_whereLay_40 (by decide) hf (fun hf => ?_) (fun hf => ?_)
        · refine s_aload_n C dX3_whereLay_48 rfl ?_
          refine s_getI C fl_X3_62 dX3_whereLay_49 hf (fun v6 hf => ?_)
          refine s_iconst C dX3_whereLay_52 (v := (1 : Int32)) (by decide) ?_
          refine s_isub C dX3_whereLay_53 ?_
          refine s_istore_n C dX3_whereLay_54 (by decide) (nc_i rfl) (lv' := [some (rB (xD X).1 o), some (rB (xD X).1 a1), some (.int a2), some (.int (v6 - (1 : Int32)))]) rfl ?_
          refine s_lp1 hf (fun G55 z55 q55 hf => ?_)
          have k55 : ∀ (n : Nat) (x7 : Int32), G55 n x7 = some r → WW X h3 0 0 55 [some (rB (xD X).1 o), some (rB (xD X).1 a1), some (.int a2), some (.int x7)] [] := by
            intro n
            induction n with
            | zero =>
              intro x7 hf
              rw [z55] at hf
              cases hf
            | succ n ih55 =>
              intro x7 hf
              have hf := (q55 n x7).symm.trans hf
              refine s_iload_n C dX3_whereLay_55 rfl ?_
              refine s_if_lt (tgt := 95) C dX3_whereLay_56 (by decide) hf (fun hf => ?_) (fun hf => ?_)
              · refine s_aload_n C dX3_whereLay_95 rfl ?_
                refine s_getI C fl_X3_83 dX3_whereLay_96 hf (fun v8 hf => ?_)
                exact s_ireturn C E dX3_whereLay_99 hf (Nat.le_of_ble_eq_true rfl) (Nat.le_of_ble_eq_true rfl)
              · refine s_aload_n C dX3_whereLay_59 rfl ?_
                refine s_getR C fl_X3_24 dX3_whereLay_60 hf (fun v9 hf => ?_)
                refine s_iload_n C dX3_whereLay_63 rfl ?_
                refine s_iaload C dX3_whereLay_64 hf (fun v10 hf => ?_)
                refine s_aload_n C dX3_whereLay_65 rfl ?_
                refine s_getI C fl_X3_65 dX3_whereLay_66 hf (fun v11 hf => ?_)
                refine s_jn hf (fun j89 e89 hf => ?_)
                have k89 : j89  = some r → WW X h3 0 0 89 [some (rB (xD X).1 o), some (rB (xD X).1 a1), some (.int a2), some (.int x7)] [] := by
                  intro  hf
                  rw [e89] at hf
                  refine s_iinc C dX3_whereLay_89 (v := (x7 + (-1))) rfl rfl (by decide) (nc_i rfl) (lv' := [some (rB (xD X).1 o), some (rB (xD X).1 a1), some (.int a2), some (.int (x7 + (-1)))]) rfl ?_
                  refine s_goto (tgt := 55) C dX3_whereLay_92 (by decide) ?_
                  exact ih55 _ hf
                refine s_icmp_ne (tgt := 89) C dX3_whereLay_69 (by decide) hf (fun hf => ?_) (fun hf => ?_)
                · exact k89 hf
                · refine s_aload_n C dX3_whereLay_72 rfl ?_
                  refine s_getR C fl_X3_27 dX3_whereLay_73 hf (fun v12 hf => ?_)
                  refine s_iload_n C dX3_whereLay_76 rfl ?_
                  refine s_iaload C dX3_whereLay_77 hf (fun v13 hf => ?_)
                  refine s_iload_n C dX3_whereLay_78 rfl ?_
                  refine s_icmp_gt (tgt := 89) C dX3_whereLay_79 (by decide) hf (fun hf => ?_) (fun hf => ?_)
                  · exact k89 hf
                  · refine s_aload_n C dX3_whereLay_82 rfl ?_
                    refine s_getR C fl_X3_30 dX3_whereLay_83 hf (fun v14 hf => ?_)
                    refine s_iload_n C dX3_whereLay_86 rfl ?_
                    refine s_iaload C dX3_whereLay_87 hf (fun v15 hf => ?_)
                    exact s_ireturn C E dX3_whereLay_88 hf (Nat.le_of_ble_eq_true rfl) (Nat.le_of_ble_eq_true rfl)
          exact k55 lpN _ hf
        · refine s_aload_n C dX3_whereLay_43 rfl ?_
          refine s_callV (rvf := fun x => some (.int x)) (st := []) (fr := 0) (lo := 0) (mc := 0) (ms := 0) C [1] wc_X1_liesNow wml_X3_79 wim_X1_liesNow wsl_1_X1_liesNow dX3_whereLay_44 (As := []) rfl hf (fun x h' hF => c_X1_liesNow _ _ _ _ (x, h') hF) rfl (Nat.le_of_ble_eq_true rfl) (room_ok hX (Nat.le_of_ble_eq_true rfl) (Nat.le_of_ble_eq_true rfl)) (cell_ok hX (Nat.le_of_ble_eq_true rfl) (Nat.le_of_ble_eq_true rfl)) (fun v17 h16 hf => ?_)
          exact s_ireturn C E dX3_whereLay_47 hf (Nat.le_of_ble_eq_true rfl) (Nat.le_of_ble_eq_true rfl)
      refine s_if_eq (tgt := 35) C dX3_whereLay_19 (by decide) hf (fun hf => ?_) (fun hf => ?_)
      · exact k35 hf
      · refine s_iload_n C dX3_whereLay_22 rfl ?_
        refine s_bipush C dX3_whereLay_23 (v := (24 : Int32)) (by decide) ?_
        refine s_aload_n C dX3_whereLay_25 rfl ?_
        refine s_getI C fl_X3_59 dX3_whereLay_26 hf (fun v18 hf => ?_)
        refine s_imul C dX3_whereLay_29 ?_
        refine s_icmp_lt (tgt := 35) C dX3_whereLay_30 (by decide) hf (fun hf => ?_) (fun hf => ?_)
        · exact k35 hf
        · refine s_weak (lv' := [none, none, none, none]) trivial ?_
          exact k33 _ hf
/-- HillBoxes$Logs.has(I)Z -/
noncomputable def f_X4_has (o : Option Nat) (a1 : Int32) (h : AH) : Option (Int32 × AH) :=
  jn (fun (x1 : Int32) =>
    rz x1 h) fun j17 =>
  jn (
    j17 (0 : Int32)) fun j16 =>
  if a1 < 0 then
    j16
  else
    fI h [4] o 2 fun v2 =>
    if v2 ≤ a1 then
      j16
    else
      j17 (1 : Int32)
set_option maxRecDepth 100000 in
set_option maxHeartbeats 4000000 in
theorem c_X4_has (l : Launch) (D : DT) (o : Option Nat) (a1 : Int32) (h : AH) (r : Int32 × AH) (hf : f_X4_has o a1 h = some r) : CM l D yX4_has cX4_has 2 (some .boolean) 0 0 0 0 [.inr (.inr o), .inl a1] h (some (.int r.1)) r.2 := by
  refine CM.of (by decide) (Nat.le_of_ble_eq_true rfl) (fun X hl C hD hX hnm E => ?_)
  subst hl
  subst hD
  have C : CX X RX4 cX4_has 2 := C
  show WW X h 0 0 0 [some (rB (xD X).1 o), some (.int a1)] []
  unfold f_X4_has at hf
  refine s_iload_n C dX4_has_0 rfl ?_
  refine s_jn hf (fun j17 e17 hf => ?_)
  have k17 : ∀ (x1 : Int32), j17 x1 = some r → WW X h 0 0 17 [none, none] [.int x1] := by
    intro x1 hf
    rw [e17] at hf
    exact s_zreturn C E dX4_has_17 hf (Nat.le_of_ble_eq_true rfl) (Nat.le_of_ble_eq_true rfl)
  refine s_jn hf (fun j16 e16 hf => ?_)
  have k16 : j16  = some r → WW X h 0 0 16 [none, none] [] := by
    intro  hf
    rw [e16] at hf
    refine s_iconst C dX4_has_16 (v := (0 : Int32)) (by decide) ?_
    exact k17 _ hf
  refine s_if_lt (tgt := 16) C dX4_has_1 (by decide) hf (fun hf => ?_) (fun hf => ?_)
  · refine s_weak (lv' := [none, none]) trivial ?_
    exact k16 hf
  · refine s_iload_n C dX4_has_4 rfl ?_
    refine s_aload_n C dX4_has_5 rfl ?_
    refine s_getI C fl_X4_39 dX4_has_6 hf (fun v2 hf => ?_)
    refine s_icmp_ge (tgt := 16) C dX4_has_9 (by decide) hf (fun hf => ?_) (fun hf => ?_)
    · refine s_weak (lv' := [none, none]) trivial ?_
      exact k16 hf
    · refine s_iconst C dX4_has_12 (v := (1 : Int32)) (by decide) ?_
      refine s_goto (tgt := 17) C dX4_has_13 (by decide) ?_
      refine s_weak (lv' := [none, none]) trivial ?_
      exact k17 _ hf
/-- HillBoxes$Logs.placeOfBox(I)I -/
noncomputable def f_X4_placeOfBox (o : Option Nat) (a1 : Int32) (h : AH) : Option (Int32 × AH) :=
  rO h [4] o <| cl (f_X4_has o a1 h) fun v2 h1 =>
  jn (fun (x3 : Int32) (h4 : AH) =>
    some (x3, h4)) fun j38 =>
  if v2 = 0 then
    j38 (-1 : Int32) h1
  else
    fR h1 [4] o 7 fun v5 =>
    fR h1 [4] o 7 fun v6 =>
    fR h1 [4] o 4 fun v7 =>
    aI h1 20 v7 a1 fun v8 =>
    rO h1 [3] v6 <| cl (f_X3_boxAt v6 v8 h1) fun v10 h9 =>
    fR h9 [4] o 5 fun v11 =>
    aI h9 20 v11 a1 fun v12 =>
    rO h9 [3] v5 <| cl (f_X3_whereLay v5 v10 v12 h9) fun v14 h13 =>
    j38 v14 h13
set_option maxRecDepth 100000 in
set_option maxHeartbeats 4000000 in
theorem c_X4_placeOfBox (l : Launch) (D : DT) (o : Option Nat) (a1 : Int32) (h : AH) (r : Int32 × AH) (hf : f_X4_placeOfBox o a1 h = some r) : CM l D yX4_placeOfBox cX4_placeOfBox 2 (some .int) 2 43 0 0 [.inr (.inr o), .inl a1] h (some (.int r.1)) r.2 := by
  refine CM.of (by decide) (Nat.le_of_ble_eq_true rfl) (fun X hl C hD hX hnm E => ?_)
  subst hl
  subst hD
  have C : CX X RX4 cX4_placeOfBox 2 := C
  show WW X h 0 0 0 [some (rB (xD X).1 o), some (.int a1)] []
  unfold f_X4_placeOfBox at hf
  refine s_aload_n C dX4_placeOfBox_0 rfl ?_
  refine s_iload_n C dX4_placeOfBox_1 rfl ?_
  refine s_callV (rvf := fun x => some (.int x)) (st := []) (fr := 0) (lo := 0) (mc := 0) (ms := 0) C [4] wc_X4_has wml_X4_85 wim_X4_has wsl_4_X4_has dX4_placeOfBox_2 (As := [.inl a1]) rfl hf (fun x h' hF => c_X4_has _ _ _ _ _ (x, h') hF) rfl (Nat.le_of_ble_eq_true rfl) (room_ok hX (Nat.le_of_ble_eq_true rfl) (Nat.le_of_ble_eq_true rfl)) (cell_ok hX (Nat.le_of_ble_eq_true rfl) (Nat.le_of_ble_eq_true rfl)) (fun v2 h1 hf => ?_)
  refine s_jn hf (fun j38 e38 hf => ?_)
  have k38 : ∀ (x3 : Int32) (h4 : AH), j38 x3 h4 = some r → WW X h4 0 0 38 [none, none] [.int x3] := by
    intro x3 h4 hf
    rw [e38] at hf
    exact s_ireturn C E dX4_placeOfBox_38 hf (Nat.le_of_ble_eq_true rfl) (Nat.le_of_ble_eq_true rfl)
  refine s_if_eq (tgt := 37) C dX4_placeOfBox_5 (by decide) hf (fun hf => ?_) (fun hf => ?_)
  · refine s_iconst C dX4_placeOfBox_37 (v := (-1 : Int32)) (by decide) ?_
    refine s_weak (lv' := [none, none]) trivial ?_
    exact k38 _ _ hf
  · refine s_aload_n C dX4_placeOfBox_8 rfl ?_
    refine s_getR C fl_X4_31 dX4_placeOfBox_9 hf (fun v5 hf => ?_)
    refine s_aload_n C dX4_placeOfBox_12 rfl ?_
    refine s_getR C fl_X4_31 dX4_placeOfBox_13 hf (fun v6 hf => ?_)
    refine s_aload_n C dX4_placeOfBox_16 rfl ?_
    refine s_getR C fl_X4_22 dX4_placeOfBox_17 hf (fun v7 hf => ?_)
    refine s_iload_n C dX4_placeOfBox_20 rfl ?_
    refine s_iaload C dX4_placeOfBox_21 hf (fun v8 hf => ?_)
    refine s_callV (rvf := fun x => some (rB (xD X).1 x)) (st := [rB (xD X).1 v5]) (fr := 0) (lo := 0) (mc := 0) (ms := 0) C [3] wc_X3_boxAt wml_X4_43 wim_X3_boxAt wsl_3_X3_boxAt dX4_placeOfBox_22 (As := [.inl v8]) rfl hf (fun x h' hF => c_X3_boxAt _ _ _ _ _ (x, h') hF) rfl (Nat.le_of_ble_eq_true rfl) (room_ok hX (Nat.le_of_ble_eq_true rfl) (Nat.le_of_ble_eq_true rfl)) (cell_ok hX (Nat.le_of_ble_eq_true rfl) (Nat.le_of_ble_eq_true rfl)) (fun v10 h9 hf => ?_)
    refine s_aload_n C dX4_placeOfBox_25 rfl ?_
    refine s_getR C fl_X4_25 dX4_placeOfBox_26 hf (fun v11 hf => ?_)
    refine s_iload_n C dX4_placeOfBox_29 rfl ?_
    refine s_iaload C dX4_placeOfBox_30 hf (fun v12 hf => ?_)
    refine s_callV (rvf := fun x => some (.int x)) (st := []) (fr := 1) (lo := 20) (mc := 0) (ms := 0) C [3] wc_X3_whereLay wml_X4_88 wim_X3_whereLay wsl_3_X3_whereLay dX4_placeOfBox_31 (As := [.inr (.inr v10), .inl v12]) rfl hf (fun x h' hF => c_X3_whereLay _ _ _ _ _ _ (x, h') hF) rfl (Nat.le_of_ble_eq_true rfl) (room_ok hX (Nat.le_of_ble_eq_true rfl) (Nat.le_of_ble_eq_true rfl)) (cell_ok hX (Nat.le_of_ble_eq_true rfl) (Nat.le_of_ble_eq_true rfl)) (fun v14 h13 hf => ?_)
    refine s_goto (tgt := 38) C dX4_placeOfBox_34 (by decide) ?_
    refine s_weak (lv' := [none, none]) trivial ?_
    exact k38 _ _ hf
/-- HillBoxes$Logs.chainOf(LHillBoxes$Thing;)I -/
noncomputable def f_X4_chainOf (o : Option Nat) (a1 : Option Nat) (h : AH) : Option (Int32 × AH) :=
  lp (fun _ _ _ _ => none) (fun (L7 : Int32 → Int32 → Int32 → AH → Option (Int32 × AH)) (x1 : Int32) (x2 : Int32) (x3 : Int32) (h4 : AH) =>
    fI h4 [9] a1 4 fun v5 =>
    if v5 ≤ x3 then
      some (x1, h4)
    else
      fR h4 [9] a1 3 fun v6 =>
      aI h4 23 v6 x3 fun v7 =>
      jn (fun (x8 : Int32) (x9 : Int32) (h10 : AH) =>
        L7 x8 x9 (x3 + 1) h10) fun j78 =>
      if v7 = 0 then
        j78 x1 x2 h4
      else
        rO h4 [4] o <| cl (f_X4_placeOfBox o x2 h4) fun v12 h11 =>
        fR h11 [9] a1 2 fun v13 =>
        aI h11 20 v13 x3 fun v14 =>
        rO h11 [4] o <| cl (f_X4_placeOfBox o v14 h11) fun v16 h15 =>
        jn (fun (x17 : Int32) (h18 : AH) =>
          fR h18 [9] a1 2 fun v19 =>
          aI h18 20 v19 x3 fun v20 =>
          j78 (x1 + x17) v20 h18) fun j68 =>
        jn (
          j68 (0 : Int32) h15) fun j57 =>
        if v12 < 0 then
          j57
        else
          if 0 ≤ v16 then
            cl (f_X11_far v12 v16 h15) fun v22 h21 =>
            j68 v22 h21
          else
            j57) lpN (0 : Int32) (-1 : Int32) (0 : Int32) h
set_option maxRecDepth 100000 in
set_option maxHeartbeats 4000000 in
theorem c_X4_chainOf (l : Launch) (D : DT) (o : Option Nat) (a1 : Option Nat) (h : AH) (r : Int32 × AH) (hf : f_X4_chainOf o a1 h = some r) : CM l D yX4_chainOf cX4_chainOf 7 (some .int) 3 64 0 0 [.inr (.inr o), .inr (.inr a1)] h (some (.int r.1)) r.2 := by
  refine CM.of (by decide) (Nat.le_of_ble_eq_true rfl) (fun X hl C hD hX hnm E => ?_)
  subst hl
  subst hD
  have C : CX X RX4 cX4_chainOf 7 := C
  show WW X h 0 0 0 [some (rB (xD X).1 o), some (rB (xD X).1 a1), none, none, none, none, none] []
  unfold f_X4_chainOf at hf
  refine s_iconst C dX4_chainOf_0 (v := (0 : Int32)) (by decide) ?_
  refine s_istore_n C dX4_chainOf_1 (by decide) (nc_r rfl) (lv' := [some (rB (xD X).1 o), some (rB (xD X).1 a1), some (.int (0 : Int32)), none, none, none, none]) rfl ?_
  refine s_iconst C dX4_chainOf_2 (v := (-1 : Int32)) (by decide) ?_
  refine s_istore_n C dX4_chainOf_3 (by decide) (nc_i rfl) (lv' := [some (rB (xD X).1 o), some (rB (xD X).1 a1), some (.int (0 : Int32)), some (.int (-1 : Int32)), none, none, none]) rfl ?_
  refine s_iconst C dX4_chainOf_4 (v := (0 : Int32)) (by decide) ?_
  refine s_istore C dX4_chainOf_5 (by decide) (nc_i rfl) (lv' := [some (rB (xD X).1 o), some (rB (xD X).1 a1), some (.int (0 : Int32)), some (.int (-1 : Int32)), some (.int (0 : Int32)), none, none]) rfl ?_
  refine s_lp4 hf (fun G7 z7 q7 hf => ?_)
  have k7 : ∀ (n : Nat) (x1 : Int32) (x2 : Int32) (x3 : Int32) (h4 : AH), G7 n x1 x2 x3 h4 = some r → WW X h4 0 0 7 [some (rB (xD X).1 o), some (rB (xD X).1 a1), some (.int x1), some (.int x2), some (.int x3), none, none] [] := by
    intro n
    induction n with
    | zero =>
      intro x1 x2 x3 h4 hf
      rw [z7] at hf
      cases hf
    | succ n ih7 =>
      intro x1 x2 x3 h4 hf
      have hf := (q7 n x1 x2 x3 h4).symm.trans hf
      refine s_iload C dX4_chainOf_7 rfl ?_
      refine s_aload_n C dX4_chainOf_9 rfl ?_
      refine s_getI C fl_X4_130 dX4_chainOf_10 hf (fun v5 hf => ?_)
      refine s_icmp_ge (tgt := 84) C dX4_chainOf_13 (by decide) hf (fun hf => ?_) (fun hf => ?_)
      · refine s_iload_n C dX4_chainOf_84 rfl ?_
        exact s_ireturn C E dX4_chainOf_85 hf (Nat.le_of_ble_eq_true rfl) (Nat.le_of_ble_eq_true rfl)
      · refine s_aload_n C dX4_chainOf_16 rfl ?_
        refine s_getR C fl_X4_135 dX4_chainOf_17 hf (fun v6 hf => ?_)
        refine s_iload C dX4_chainOf_20 rfl ?_
        refine s_zaload C dX4_chainOf_22 hf (fun v7 hf => ?_)
        refine s_jn hf (fun j78 e78 hf => ?_)
        have k78 : ∀ (x8 : Int32) (x9 : Int32) (h10 : AH), j78 x8 x9 h10 = some r → WW X h10 0 0 78 [some (rB (xD X).1 o), some (rB (xD X).1 a1), some (.int x8), some (.int x9), some (.int x3), none, none] [] := by
          intro x8 x9 h10 hf
          rw [e78] at hf
          refine s_iinc C dX4_chainOf_78 (v := (x3 + 1)) rfl rfl (by decide) (nc_i rfl) (lv' := [some (rB (xD X).1 o), some (rB (xD X).1 a1), some (.int x8), some (.int x9), some (.int (x3 + 1)), none, none]) rfl ?_
          refine s_goto (tgt := 7) C dX4_chainOf_81 (by decide) ?_
          exact ih7 _ _ _ _ hf
        refine s_if_eq (tgt := 78) C dX4_chainOf_23 (by decide) hf (fun hf => ?_) (fun hf => ?_)
        · exact k78 _ _ _ hf
        · refine s_aload_n C dX4_chainOf_26 rfl ?_
          refine s_iload_n C dX4_chainOf_27 rfl ?_
          refine s_callV (rvf := fun x => some (.int x)) (st := []) (fr := 2) (lo := 43) (mc := 0) (ms := 0) C [4] wc_X4_placeOfBox wml_X4_92 wim_X4_placeOfBox wsl_4_X4_placeOfBox dX4_chainOf_28 (As := [.inl x2]) rfl hf (fun x h' hF => c_X4_placeOfBox _ _ _ _ _ (x, h') hF) rfl (Nat.le_of_ble_eq_true rfl) (room_ok hX (Nat.le_of_ble_eq_true rfl) (Nat.le_of_ble_eq_true rfl)) (cell_ok hX (Nat.le_of_ble_eq_true rfl) (Nat.le_of_ble_eq_true rfl)) (fun v12 h11 hf => ?_)
          refine s_istore C dX4_chainOf_31 (by decide) (nc_i rfl) (lv' := [some (rB (xD X).1 o), some (rB (xD X).1 a1), some (.int x1), some (.int x2), some (.int x3), some (.int v12), none]) rfl ?_
          refine s_aload_n C dX4_chainOf_33 rfl ?_
          refine s_aload_n C dX4_chainOf_34 rfl ?_
          refine s_getR C fl_X4_138 dX4_chainOf_35 hf (fun v13 hf => ?_)
          refine s_iload C dX4_chainOf_38 rfl ?_
          refine s_iaload C dX4_chainOf_40 hf (fun v14 hf => ?_)
          refine s_callV (rvf := fun x => some (.int x)) (st := []) (fr := 2) (lo := 43) (mc := 0) (ms := 0) C [4] wc_X4_placeOfBox wml_X4_92 wim_X4_placeOfBox wsl_4_X4_placeOfBox dX4_chainOf_41 (As := [.inl v14]) rfl hf (fun x h' hF => c_X4_placeOfBox _ _ _ _ _ (x, h') hF) rfl (Nat.le_of_ble_eq_true rfl) (room_ok hX (Nat.le_of_ble_eq_true rfl) (Nat.le_of_ble_eq_true rfl)) (cell_ok hX (Nat.le_of_ble_eq_true rfl) (Nat.le_of_ble_eq_true rfl)) (fun v16 h15 hf => ?_)
          refine s_istore C dX4_chainOf_44 (by decide) (nc_i rfl) (lv' := [some (rB (xD X).1 o), some (rB (xD X).1 a1), some (.int x1), some (.int x2), some (.int x3), some (.int v12), some (.int v16)]) rfl ?_
          refine s_iload_n C dX4_chainOf_46 rfl ?_
          refine s_iload C dX4_chainOf_47 rfl ?_
          refine s_jn hf (fun j68 e68 hf => ?_)
          have k68 : ∀ (x17 : Int32) (h18 : AH), j68 x17 h18 = some r → WW X h18 0 0 68 [some (rB (xD X).1 o), some (rB (xD X).1 a1), none, none, some (.int x3), none, none] [.int x17, .int x1] := by
            intro x17 h18 hf
            rw [e68] at hf
            refine s_iadd C dX4_chainOf_68 ?_
            refine s_istore_n C dX4_chainOf_69 (by decide) (nc_r rfl) (lv' := [some (rB (xD X).1 o), some (rB (xD X).1 a1), some (.int (x1 + x17)), none, some (.int x3), none, none]) rfl ?_
            refine s_aload_n C dX4_chainOf_70 rfl ?_
            refine s_getR C fl_X4_138 dX4_chainOf_71 hf (fun v19 hf => ?_)
            refine s_iload C dX4_chainOf_74 rfl ?_
            refine s_iaload C dX4_chainOf_76 hf (fun v20 hf => ?_)
            refine s_istore_n C dX4_chainOf_77 (by decide) (nc_i rfl) (lv' := [some (rB (xD X).1 o), some (rB (xD X).1 a1), some (.int (x1 + x17)), some (.int v20), some (.int x3), none, none]) rfl ?_
            exact k78 _ _ _ hf
          refine s_jn hf (fun j57 e57 hf => ?_)
          have k57 : j57  = some r → WW X h15 0 0 57 [some (rB (xD X).1 o), some (rB (xD X).1 a1), none, none, some (.int x3), none, none] [.int x1] := by
            intro  hf
            rw [e57] at hf
            refine s_iconst C dX4_chainOf_57 (v := (0 : Int32)) (by decide) ?_
            refine s_goto (tgt := 68) C dX4_chainOf_58 (by decide) ?_
            exact k68 _ _ hf
          refine s_if_lt (tgt := 57) C dX4_chainOf_49 (by decide) hf (fun hf => ?_) (fun hf => ?_)
          · refine s_weak (lv' := [some (rB (xD X).1 o), some (rB (xD X).1 a1), none, none, some (.int x3), none, none]) ⟨rfl, ⟨rfl, ⟨rfl, trivial⟩⟩⟩ ?_
            exact k57 hf
          · refine s_iload C dX4_chainOf_52 rfl ?_
            refine s_if_ge (tgt := 61) C dX4_chainOf_54 (by decide) hf (fun hf => ?_) (fun hf => ?_)
            · refine s_iload C dX4_chainOf_61 rfl ?_
              refine s_iload C dX4_chainOf_63 rfl ?_
              refine s_callSN (rvf := fun x => some (.int x)) (st := [.int x1]) (fr := 1) (lo := 21) (mc := 0) (ms := 0) C wc_X11_far wmn_X4_145 wst_X11_far dX4_chainOf_65 (As := [.inl v12, .inl v16]) rfl hf (fun x h' hF => c_X11_far _ _ _ _ _ (x, h') hF) rfl (Nat.le_of_ble_eq_true rfl) (room_ok hX (Nat.le_of_ble_eq_true rfl) (Nat.le_of_ble_eq_true rfl)) (cell_ok hX (Nat.le_of_ble_eq_true rfl) (Nat.le_of_ble_eq_true rfl)) (fun v22 h21 hf => ?_)
              refine s_weak (lv' := [some (rB (xD X).1 o), some (rB (xD X).1 a1), none, none, some (.int x3), none, none]) ⟨rfl, ⟨rfl, ⟨rfl, trivial⟩⟩⟩ ?_
              exact k68 _ _ hf
            · refine s_weak (lv' := [some (rB (xD X).1 o), some (rB (xD X).1 a1), none, none, some (.int x3), none, none]) ⟨rfl, ⟨rfl, ⟨rfl, trivial⟩⟩⟩ ?_
              exact k57 hf
  exact k7 lpN _ _ _ _ hf
/-- HillBoxes.chain(I)I -/
noncomputable def f_X11_chain (o : Option Nat) (a1 : Int32) (h : AH) : Option (Int32 × AH) :=
  fR h [11] o 0 fun v1 =>
  rO h [3] v1 <| cl (f_X3_thingAt v1 a1 h) fun v3 h2 =>
  jn (fun (x4 : Int32) (h5 : AH) =>
    some (x4, h5)) fun j25 =>
  if v3 = none then
    j25 (-1 : Int32) h2
  else
    fR h2 [11] o 2 fun v6 =>
    rO h2 [4] v6 <| cl (f_X4_chainOf v6 v3 h2) fun v8 h7 =>
    j25 v8 h7
set_option maxRecDepth 100000 in
set_option maxHeartbeats 4000000 in
theorem c_X11_chain (l : Launch) (D : DT) (o : Option Nat) (a1 : Int32) (h : AH) (r : Int32 × AH) (hf : f_X11_chain o a1 h = some r) : CM l D yX11_chain cX11_chain 3 (some .int) 4 90 0 0 [.inr (.inr o), .inl a1] h (some (.int r.1)) r.2 := by
  refine CM.of (by decide) (Nat.le_of_ble_eq_true rfl) (fun X hl C hD hX hnm E => ?_)
  subst hl
  subst hD
  have C : CX X RX11 cX11_chain 3 := C
  show WW X h 0 0 0 [some (rB (xD X).1 o), some (.int a1), none] []
  unfold f_X11_chain at hf
  refine s_aload_n C dX11_chain_0 rfl ?_
  refine s_getR C fl_X11_10 dX11_chain_1 hf (fun v1 hf => ?_)
  refine s_iload_n C dX11_chain_4 rfl ?_
  refine s_callV (rvf := fun x => some (rB (xD X).1 x)) (st := []) (fr := 0) (lo := 0) (mc := 0) (ms := 0) C [3] wc_X3_thingAt wml_X11_336 wim_X3_thingAt wsl_3_X3_thingAt dX11_chain_5 (As := [.inl a1]) rfl hf (fun x h' hF => c_X3_thingAt _ _ _ _ _ (x, h') hF) rfl (Nat.le_of_ble_eq_true rfl) (room_ok hX (Nat.le_of_ble_eq_true rfl) (Nat.le_of_ble_eq_true rfl)) (cell_ok hX (Nat.le_of_ble_eq_true rfl) (Nat.le_of_ble_eq_true rfl)) (fun v3 h2 hf => ?_)
  refine s_astore_n C dX11_chain_8 (by decide) (nc_i rfl) (lv' := [some (rB (xD X).1 o), some (.int a1), some (rB (xD X).1 v3)]) rfl ?_
  refine s_aload_n C dX11_chain_9 rfl ?_
  refine s_jn hf (fun j25 e25 hf => ?_)
  have k25 : ∀ (x4 : Int32) (h5 : AH), j25 x4 h5 = some r → WW X h5 0 0 25 [none, none, none] [.int x4] := by
    intro x4 h5 hf
    rw [e25] at hf
    exact s_ireturn C E dX11_chain_25 hf (Nat.le_of_ble_eq_true rfl) (Nat.le_of_ble_eq_true rfl)
  refine s_ifnonnull (tgt := 17) C dX11_chain_10 (by decide) hf (fun hf => ?_) (fun hf => ?_)
  · refine s_aload_n C dX11_chain_17 rfl ?_
    refine s_getR C fl_X11_30 dX11_chain_18 hf (fun v6 hf => ?_)
    refine s_aload_n C dX11_chain_21 rfl ?_
    refine s_callV (rvf := fun x => some (.int x)) (st := []) (fr := 3) (lo := 64) (mc := 0) (ms := 0) C [4] wc_X4_chainOf wml_X11_356 wim_X4_chainOf wsl_4_X4_chainOf dX11_chain_22 (As := [.inr (.inr v3)]) rfl hf (fun x h' hF => c_X4_chainOf _ _ _ _ _ (x, h') hF) rfl (Nat.le_of_ble_eq_true rfl) (room_ok hX (Nat.le_of_ble_eq_true rfl) (Nat.le_of_ble_eq_true rfl)) (cell_ok hX (Nat.le_of_ble_eq_true rfl) (Nat.le_of_ble_eq_true rfl)) (fun v8 h7 hf => ?_)
    refine s_weak (lv' := [none, none, none]) trivial ?_
    exact k25 _ _ hf
  · refine s_iconst C dX11_chain_13 (v := (-1 : Int32)) (by decide) ?_
    refine s_goto (tgt := 25) C dX11_chain_14 (by decide) ?_
    refine s_weak (lv' := [none, none, none]) trivial ?_
    exact k25 _ _ hf
/-- HillBoxes$Logs.hasAnotherFound(I)Z -/
noncomputable def f_X4_hasAnotherFound (o : Option Nat) (a1 : Int32) (h : AH) : Option (Int32 × AH) :=
  lp (fun _ => none) (fun (L2 : Int32 → Option (Int32 × AH)) (x1 : Int32) =>
    fI h [4] o 2 fun v2 =>
    if v2 ≤ x1 then
      rz (0 : Int32) h
    else
      jn (
        L2 (x1 + 1)) fun j41 =>
      if x1 = a1 then
        j41
      else
        fR h [4] o 1 fun v3 =>
        aI h 23 v3 x1 fun v4 =>
        if v4 = 0 then
          j41
        else
          fR h [4] o 0 fun v5 =>
          aI h 20 v5 x1 fun v6 =>
          fR h [4] o 0 fun v7 =>
          aI h 20 v7 a1 fun v8 =>
          if v6 = v8 then
            rz (1 : Int32) h
          else
            j41) lpN (0 : Int32)
set_option maxRecDepth 100000 in
set_option maxHeartbeats 4000000 in
theorem c_X4_hasAnotherFound (l : Launch) (D : DT) (o : Option Nat) (a1 : Int32) (h : AH) (r : Int32 × AH) (hf : f_X4_hasAnotherFound o a1 h = some r) : CM l D yX4_hasAnotherFound cX4_hasAnotherFound 3 (some .boolean) 0 0 0 0 [.inr (.inr o), .inl a1] h (some (.int r.1)) r.2 := by
  refine CM.of (by decide) (Nat.le_of_ble_eq_true rfl) (fun X hl C hD hX hnm E => ?_)
  subst hl
  subst hD
  have C : CX X RX4 cX4_hasAnotherFound 3 := C
  show WW X h 0 0 0 [some (rB (xD X).1 o), some (.int a1), none] []
  unfold f_X4_hasAnotherFound at hf
  refine s_iconst C dX4_hasAnotherFound_0 (v := (0 : Int32)) (by decide) ?_
  refine s_istore_n C dX4_hasAnotherFound_1 (by decide) (nc_i rfl) (lv' := [some (rB (xD X).1 o), some (.int a1), some (.int (0 : Int32))]) rfl ?_
  refine s_lp1 hf (fun G2 z2 q2 hf => ?_)
  have k2 : ∀ (n : Nat) (x1 : Int32), G2 n x1 = some r → WW X h 0 0 2 [some (rB (xD X).1 o), some (.int a1), some (.int x1)] [] := by
    intro n
    induction n with
    | zero =>
      intro x1 hf
      rw [z2] at hf
      cases hf
    | succ n ih2 =>
      intro x1 hf
      have hf := (q2 n x1).symm.trans hf
      refine s_iload_n C dX4_hasAnotherFound_2 rfl ?_
      refine s_aload_n C dX4_hasAnotherFound_3 rfl ?_
      refine s_getI C fl_X4_39 dX4_hasAnotherFound_4 hf (fun v2 hf => ?_)
      refine s_icmp_ge (tgt := 47) C dX4_hasAnotherFound_7 (by decide) hf (fun hf => ?_) (fun hf => ?_)
      · refine s_iconst C dX4_hasAnotherFound_47 (v := (0 : Int32)) (by decide) ?_
        exact s_zreturn C E dX4_hasAnotherFound_48 hf (Nat.le_of_ble_eq_true rfl) (Nat.le_of_ble_eq_true rfl)
      · refine s_iload_n C dX4_hasAnotherFound_10 rfl ?_
        refine s_iload_n C dX4_hasAnotherFound_11 rfl ?_
        refine s_jn hf (fun j41 e41 hf => ?_)
        have k41 : j41  = some r → WW X h 0 0 41 [some (rB (xD X).1 o), some (.int a1), some (.int x1)] [] := by
          intro  hf
          rw [e41] at hf
          refine s_iinc C dX4_hasAnotherFound_41 (v := (x1 + 1)) rfl rfl (by decide) (nc_i rfl) (lv' := [some (rB (xD X).1 o), some (.int a1), some (.int (x1 + 1))]) rfl ?_
          refine s_goto (tgt := 2) C dX4_hasAnotherFound_44 (by decide) ?_
          exact ih2 _ hf
        refine s_icmp_eq (tgt := 41) C dX4_hasAnotherFound_12 (by decide) hf (fun hf => ?_) (fun hf => ?_)
        · exact k41 hf
        · refine s_aload_n C dX4_hasAnotherFound_15 rfl ?_
          refine s_getR C fl_X4_15 dX4_hasAnotherFound_16 hf (fun v3 hf => ?_)
          refine s_iload_n C dX4_hasAnotherFound_19 rfl ?_
          refine s_zaload C dX4_hasAnotherFound_20 hf (fun v4 hf => ?_)
          refine s_if_eq (tgt := 41) C dX4_hasAnotherFound_21 (by decide) hf (fun hf => ?_) (fun hf => ?_)
          · exact k41 hf
          · refine s_aload_n C dX4_hasAnotherFound_24 rfl ?_
            refine s_getR C fl_X4_9 dX4_hasAnotherFound_25 hf (fun v5 hf => ?_)
            refine s_iload_n C dX4_hasAnotherFound_28 rfl ?_
            refine s_iaload C dX4_hasAnotherFound_29 hf (fun v6 hf => ?_)
            refine s_aload_n C dX4_hasAnotherFound_30 rfl ?_
            refine s_getR C fl_X4_9 dX4_hasAnotherFound_31 hf (fun v7 hf => ?_)
            refine s_iload_n C dX4_hasAnotherFound_34 rfl ?_
            refine s_iaload C dX4_hasAnotherFound_35 hf (fun v8 hf => ?_)
            refine s_icmp_ne (tgt := 41) C dX4_hasAnotherFound_36 (by decide) hf (fun hf => ?_) (fun hf => ?_)
            · exact k41 hf
            · refine s_iconst C dX4_hasAnotherFound_39 (v := (1 : Int32)) (by decide) ?_
              exact s_zreturn C E dX4_hasAnotherFound_40 hf (Nat.le_of_ble_eq_true rfl) (Nat.le_of_ble_eq_true rfl)
  exact k2 lpN _ hf
/-- HillBoxes.isNightHour(I)Z -/
noncomputable def f_X11_isNightHour (a0 : Int32) (h : AH) : Option (Int32 × AH) :=
  jn (fun (x1 : Int32) =>
    rz x1 h) fun j17 =>
  jn (
    j17 (1 : Int32)) fun j12 =>
  if (20 : Int32) ≤ a0 then
    j12
  else
    if (6 : Int32) ≤ a0 then
      j17 (0 : Int32)
    else
      j12
set_option maxRecDepth 100000 in
set_option maxHeartbeats 4000000 in
theorem c_X11_isNightHour (l : Launch) (D : DT) (a0 : Int32) (h : AH) (r : Int32 × AH) (hf : f_X11_isNightHour a0 h = some r) : CM l D yX11_isNightHour cX11_isNightHour 1 (some .boolean) 0 0 0 0 [.inl a0] h (some (.int r.1)) r.2 := by
  refine CM.of (by decide) (Nat.le_of_ble_eq_true rfl) (fun X hl C hD hX hnm E => ?_)
  subst hl
  subst hD
  have C : CX X RX11 cX11_isNightHour 1 := C
  show WW X h 0 0 0 [some (.int a0)] []
  unfold f_X11_isNightHour at hf
  refine s_iload_n C dX11_isNightHour_0 rfl ?_
  refine s_bipush C dX11_isNightHour_1 (v := (20 : Int32)) (by decide) ?_
  refine s_jn hf (fun j17 e17 hf => ?_)
  have k17 : ∀ (x1 : Int32), j17 x1 = some r → WW X h 0 0 17 [none] [.int x1] := by
    intro x1 hf
    rw [e17] at hf
    exact s_zreturn C E dX11_isNightHour_17 hf (Nat.le_of_ble_eq_true rfl) (Nat.le_of_ble_eq_true rfl)
  refine s_jn hf (fun j12 e12 hf => ?_)
  have k12 : j12  = some r → WW X h 0 0 12 [none] [] := by
    intro  hf
    rw [e12] at hf
    refine s_iconst C dX11_isNightHour_12 (v := (1 : Int32)) (by decide) ?_
    refine s_goto (tgt := 17) C dX11_isNightHour_13 (by decide) ?_
    exact k17 _ hf
  refine s_icmp_ge (tgt := 12) C dX11_isNightHour_3 (by decide) hf (fun hf => ?_) (fun hf => ?_)
  · refine s_weak (lv' := [none]) trivial ?_
    exact k12 hf
  · refine s_iload_n C dX11_isNightHour_6 rfl ?_
    refine s_bipush C dX11_isNightHour_7 (v := (6 : Int32)) (by decide) ?_
    refine s_icmp_ge (tgt := 16) C dX11_isNightHour_9 (by decide) hf (fun hf => ?_) (fun hf => ?_)
    · refine s_iconst C dX11_isNightHour_16 (v := (0 : Int32)) (by decide) ?_
      refine s_weak (lv' := [none]) trivial ?_
      exact k17 _ hf
    · refine s_weak (lv' := [none]) trivial ?_
      exact k12 hf
/-- HillBoxes$Box.isOnPaper(I)Z -/
noncomputable def f_X1_isOnPaper (o : Option Nat) (a1 : Int32) (h : AH) : Option (Int32 × AH) :=
  lp (fun _ => none) (fun (L2 : Int32 → Option (Int32 × AH)) (x1 : Int32) =>
    fI h [1] o 15 fun v2 =>
    if v2 ≤ x1 then
      rz (0 : Int32) h
    else
      fR h [1] o 5 fun v3 =>
      aI h 20 v3 x1 fun v4 =>
      if v4 = a1 then
        rz (1 : Int32) h
      else
        L2 (x1 + 1)) lpN (0 : Int32)
set_option maxRecDepth 100000 in
set_option maxHeartbeats 4000000 in
theorem c_X1_isOnPaper (l : Launch) (D : DT) (o : Option Nat) (a1 : Int32) (h : AH) (r : Int32 × AH) (hf : f_X1_isOnPaper o a1 h = some r) : CM l D yX1_isOnPaper cX1_isOnPaper 3 (some .boolean) 0 0 0 0 [.inr (.inr o), .inl a1] h (some (.int r.1)) r.2 := by
  refine CM.of (by decide) (Nat.le_of_ble_eq_true rfl) (fun X hl C hD hX hnm E => ?_)
  subst hl
  subst hD
  have C : CX X RX1 cX1_isOnPaper 3 := C
  show WW X h 0 0 0 [some (rB (xD X).1 o), some (.int a1), none] []
  unfold f_X1_isOnPaper at hf
  refine s_iconst C dX1_isOnPaper_0 (v := (0 : Int32)) (by decide) ?_
  refine s_istore_n C dX1_isOnPaper_1 (by decide) (nc_i rfl) (lv' := [some (rB (xD X).1 o), some (.int a1), some (.int (0 : Int32))]) rfl ?_
  refine s_lp1 hf (fun G2 z2 q2 hf => ?_)
  have k2 : ∀ (n : Nat) (x1 : Int32), G2 n x1 = some r → WW X h 0 0 2 [some (rB (xD X).1 o), some (.int a1), some (.int x1)] [] := by
    intro n
    induction n with
    | zero =>
      intro x1 hf
      rw [z2] at hf
      cases hf
    | succ n ih2 =>
      intro x1 hf
      have hf := (q2 n x1).symm.trans hf
      refine s_iload_n C dX1_isOnPaper_2 rfl ?_
      refine s_aload_n C dX1_isOnPaper_3 rfl ?_
      refine s_getI C fl_X1_58 dX1_isOnPaper_4 hf (fun v2 hf => ?_)
      refine s_icmp_ge (tgt := 28) C dX1_isOnPaper_7 (by decide) hf (fun hf => ?_) (fun hf => ?_)
      · refine s_iconst C dX1_isOnPaper_28 (v := (0 : Int32)) (by decide) ?_
        exact s_zreturn C E dX1_isOnPaper_29 hf (Nat.le_of_ble_eq_true rfl) (Nat.le_of_ble_eq_true rfl)
      · refine s_aload_n C dX1_isOnPaper_10 rfl ?_
        refine s_getR C fl_X1_15 dX1_isOnPaper_11 hf (fun v3 hf => ?_)
        refine s_iload_n C dX1_isOnPaper_14 rfl ?_
        refine s_iaload C dX1_isOnPaper_15 hf (fun v4 hf => ?_)
        refine s_iload_n C dX1_isOnPaper_16 rfl ?_
        refine s_icmp_ne (tgt := 22) C dX1_isOnPaper_17 (by decide) hf (fun hf => ?_) (fun hf => ?_)
        · refine s_iinc C dX1_isOnPaper_22 (v := (x1 + 1)) rfl rfl (by decide) (nc_i rfl) (lv' := [some (rB (xD X).1 o), some (.int a1), some (.int (x1 + 1))]) rfl ?_
          refine s_goto (tgt := 2) C dX1_isOnPaper_25 (by decide) ?_
          exact ih2 _ hf
        · refine s_iconst C dX1_isOnPaper_20 (v := (1 : Int32)) (by decide) ?_
          exact s_zreturn C E dX1_isOnPaper_21 hf (Nat.le_of_ble_eq_true rfl) (Nat.le_of_ble_eq_true rfl)
  exact k2 lpN _ hf
/-- HillBoxes$Logs.isBehind(II)Z -/
noncomputable def f_X4_isBehind (o : Option Nat) (a1 : Int32) (a2 : Int32) (h : AH) : Option (Int32 × AH) :=
  fR h [4] o 5 fun v1 =>
  aI h 20 v1 a1 fun v2 =>
  fR h [4] o 5 fun v3 =>
  aI h 20 v3 a2 fun v4 =>
  jn (fun (x5 : Int32) =>
    rz x5 h) fun j40 =>
  jn (
    j40 (1 : Int32)) fun j35 =>
  if v4 < v2 then
    j35
  else
    fR h [4] o 5 fun v6 =>
    aI h 20 v6 a1 fun v7 =>
    fR h [4] o 5 fun v8 =>
    aI h 20 v8 a2 fun v9 =>
    jn (
      j40 (0 : Int32)) fun j39 =>
    if v7 = v9 then
      if a1 ≤ a2 then
        j39
      else
        j35
    else
      j39
set_option maxRecDepth 100000 in
set_option maxHeartbeats 4000000 in
theorem c_X4_isBehind (l : Launch) (D : DT) (o : Option Nat) (a1 : Int32) (a2 : Int32) (h : AH) (r : Int32 × AH) (hf : f_X4_isBehind o a1 a2 h = some r) : CM l D yX4_isBehind cX4_isBehind 3 (some .boolean) 0 0 0 0 [.inr (.inr o), .inl a1, .inl a2] h (some (.int r.1)) r.2 := by
  refine CM.of (by decide) (Nat.le_of_ble_eq_true rfl) (fun X hl C hD hX hnm E => ?_)
  subst hl
  subst hD
  have C : CX X RX4 cX4_isBehind 3 := C
  show WW X h 0 0 0 [some (rB (xD X).1 o), some (.int a1), some (.int a2)] []
  unfold f_X4_isBehind at hf
  refine s_aload_n C dX4_isBehind_0 rfl ?_
  refine s_getR C fl_X4_25 dX4_isBehind_1 hf (fun v1 hf => ?_)
  refine s_iload_n C dX4_isBehind_4 rfl ?_
  refine s_iaload C dX4_isBehind_5 hf (fun v2 hf => ?_)
  refine s_aload_n C dX4_isBehind_6 rfl ?_
  refine s_getR C fl_X4_25 dX4_isBehind_7 hf (fun v3 hf => ?_)
  refine s_iload_n C dX4_isBehind_10 rfl ?_
  refine s_iaload C dX4_isBehind_11 hf (fun v4 hf => ?_)
  refine s_jn hf (fun j40 e40 hf => ?_)
  have k40 : ∀ (x5 : Int32), j40 x5 = some r → WW X h 0 0 40 [none, none, none] [.int x5] := by
    intro x5 hf
    rw [e40] at hf
    exact s_zreturn C E dX4_isBehind_40 hf (Nat.le_of_ble_eq_true rfl) (Nat.le_of_ble_eq_true rfl)
  refine s_jn hf (fun j35 e35 hf => ?_)
  have k35 : j35  = some r → WW X h 0 0 35 [none, none, none] [] := by
    intro  hf
    rw [e35] at hf
    refine s_iconst C dX4_isBehind_35 (v := (1 : Int32)) (by decide) ?_
    refine s_goto (tgt := 40) C dX4_isBehind_36 (by decide) ?_
    exact k40 _ hf
  refine s_icmp_gt (tgt := 35) C dX4_isBehind_12 (by decide) hf (fun hf => ?_) (fun hf => ?_)
  · refine s_weak (lv' := [none, none, none]) trivial ?_
    exact k35 hf
  · refine s_aload_n C dX4_isBehind_15 rfl ?_
    refine s_getR C fl_X4_25 dX4_isBehind_16 hf (fun v6 hf => ?_)
    refine s_iload_n C dX4_isBehind_19 rfl ?_
    refine s_iaload C dX4_isBehind_20 hf (fun v7 hf => ?_)
    refine s_aload_n C dX4_isBehind_21 rfl ?_
    refine s_getR C fl_X4_25 dX4_isBehind_22 hf (fun v8 hf => ?_)
    refine s_iload_n C dX4_isBehind_25 rfl ?_
    refine s_iaload C dX4_isBehind_26 hf (fun v9 hf => ?_)
    refine s_jn hf (fun j39 e39 hf => ?_)
    have k39 : j39  = some r → WW X h 0 0 39 [none, none, none] [] := by
      intro  hf
      rw [e39] at hf
      refine s_iconst C dX4_isBehind_39 (v := (0 : Int32)) (by decide) ?_
      exact k40 _ hf
    refine s_icmp_ne (tgt := 39) C dX4_isBehind_27 (by decide) hf (fun hf => ?_) (fun hf => ?_)
    · refine s_weak (lv' := [none, none, none]) trivial ?_
      exact k39 hf
    · refine s_iload_n C dX4_isBehind_30 rfl ?_
      refine s_iload_n C dX4_isBehind_31 rfl ?_
      refine s_icmp_le (tgt := 39) C dX4_isBehind_32 (by decide) hf (fun hf => ?_) (fun hf => ?_)
      · refine s_weak (lv' := [none, none, none]) trivial ?_
        exact k39 hf
      · refine s_weak (lv' := [none, none, none]) trivial ?_
        exact k35 hf
