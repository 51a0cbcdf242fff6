/-- HillBoxes$Tape.isWord(III)Z -/
noncomputable def f_X8_isWord (o : Option Nat) (a1 : Int32) (a2 : Int32) (a3 : Int32) (h : AH) : Option (Int32 × AH) :=
  lp (fun _ _ => none) (fun (L3 : Int32 → AH → Option (Int32 × AH)) (x1 : Int32) (h2 : AH) =>
    jn (
      rz (1 : Int32) h2) fun j49 =>
    if a3 ≤ x1 then
      j49
    else
      if (78 : Int32) ≤ (a1 + x1) then
        j49
      else
        tbI txW (a1 + x1) fun v3 =>
        rO h2 [8] o <| cl (f_X8_byteAt o (a2 + x1) h2) fun v5 h4 =>
        if v3 = v5 then
          L3 (x1 + 1) h4
        else
          rz (0 : Int32) h4) lpN (0 : Int32) h
set_option maxRecDepth 100000 in
set_option maxHeartbeats 4000000 in
theorem c_X8_isWord (l : Launch) (D : DT) (o : Option Nat) (a1 : Int32) (a2 : Int32) (a3 : Int32) (h : AH) (r : Int32 × AH) (hf : f_X8_isWord o a1 a2 a3 h = some r) : CM l D yX8_isWord cX8_isWord 5 (some .boolean) 8 200 0 0 [.inr (.inr o), .inl a1, .inl a2, .inl a3] h (some (.int r.1)) r.2 := by
  refine CM.of (by decide) (Nat.le_of_ble_eq_true rfl) (fun X hl C hD hX hnm E => ?_)
  subst hl
  subst hD
  have C : CX X RX8 cX8_isWord 5 := C
  show WW X h 0 0 0 [some (rB (xD X).1 o), some (.int a1), some (.int a2), some (.int a3), none] []
  unfold f_X8_isWord at hf
  refine s_iconst C dX8_isWord_0 (v := (0 : Int32)) (by decide) ?_
  refine s_istore C dX8_isWord_1 (by decide) (nc_i rfl) (lv' := [some (rB (xD X).1 o), some (.int a1), some (.int a2), some (.int a3), some (.int (0 : Int32))]) rfl ?_
  refine s_lp2 hf (fun G3 z3 q3 hf => ?_)
  have k3 : ∀ (n : Nat) (x1 : Int32) (h2 : AH), G3 n x1 h2 = some r → WW X h2 0 0 3 [some (rB (xD X).1 o), some (.int a1), some (.int a2), some (.int a3), some (.int x1)] [] := by
    intro n
    induction n with
    | zero =>
      intro x1 h2 hf
      rw [z3] at hf
      cases hf
    | succ n ih3 =>
      intro x1 h2 hf
      have hf := (q3 n x1 h2).symm.trans hf
      refine s_iload C dX8_isWord_3 rfl ?_
      refine s_iload_n C dX8_isWord_5 rfl ?_
      refine s_jn hf (fun j49 e49 hf => ?_)
      have k49 : j49  = some r → WW X h2 0 0 49 [none, none, none, none, none] [] := by
        intro  hf
        rw [e49] at hf
        refine s_iconst C dX8_isWord_49 (v := (1 : Int32)) (by decide) ?_
        exact s_zreturn C E dX8_isWord_50 hf (Nat.le_of_ble_eq_true rfl) (Nat.le_of_ble_eq_true rfl)
      refine s_icmp_ge (tgt := 49) C dX8_isWord_6 (by decide) hf (fun hf => ?_) (fun hf => ?_)
      · refine s_weak (lv' := [none, none, none, none, none]) trivial ?_
        exact k49 hf
      · refine s_iload_n C dX8_isWord_9 rfl ?_
        refine s_iload C dX8_isWord_10 rfl ?_
        refine s_iadd C dX8_isWord_12 ?_
        refine s_ldcT121 C dX8_isWord_13 (fun qs13 qs13h => ?_)
        refine s_strlen C qs13h wml_X8_123 dX8_isWord_15 (Nat.le_of_ble_eq_true rfl) (room_n hX (Nat.le_of_ble_eq_true rfl) (Nat.le_of_ble_eq_true rfl)) (cell_ok hX (Nat.le_of_ble_eq_true rfl) (Nat.le_of_ble_eq_true rfl)) ?_
        refine s_icmp_ge (tgt := 49) C dX8_isWord_18 (by decide) hf (fun hf => ?_) (fun hf => ?_)
        · refine s_weak (lv' := [none, none, none, none, none]) trivial ?_
          exact k49 hf
        · refine s_ldcT121 C dX8_isWord_21 (fun qs21 qs21h => ?_)
          refine s_iload_n C dX8_isWord_23 rfl ?_
          refine s_iload C dX8_isWord_24 rfl ?_
          refine s_iadd C dX8_isWord_26 ?_
          refine s_strchar C qs21h wml_X8_126 dX8_isWord_27 hf (Nat.le_of_ble_eq_true rfl) (room_n hX (Nat.le_of_ble_eq_true rfl) (Nat.le_of_ble_eq_true rfl)) (cell_ok hX (Nat.le_of_ble_eq_true rfl) (Nat.le_of_ble_eq_true rfl)) (fun v3 hf => ?_)
          refine s_aload_n C dX8_isWord_30 rfl ?_
          refine s_iload_n C dX8_isWord_31 rfl ?_
          refine s_iload C dX8_isWord_32 rfl ?_
          refine s_iadd C dX8_isWord_34 ?_
          refine s_callV (rvf := fun x => some (.int x)) (st := [.int v3]) (fr := 0) (lo := 0) (mc := 0) (ms := 0) C [8] wc_X8_byteAt wml_X8_94 wim_X8_byteAt wsl_8_X8_byteAt dX8_isWord_35 (As := [.inl (a2 + x1)]) rfl hf (fun x h' hF => c_X8_byteAt _ _ _ _ _ (x, h') hF) rfl (Nat.le_of_ble_eq_true rfl) (room_ok hX (Nat.le_of_ble_eq_true rfl) (Nat.le_of_ble_eq_true rfl)) (cell_ok hX (Nat.le_of_ble_eq_true rfl) (Nat.le_of_ble_eq_true rfl)) (fun v5 h4 hf => ?_)
          refine s_icmp_eq (tgt := 43) C dX8_isWord_38 (by decide) hf (fun hf => ?_) (fun hf => ?_)
          · refine s_iinc C dX8_isWord_43 (v := (x1 + 1)) rfl rfl (by decide) (nc_i rfl) (lv' := [some (rB (xD X).1 o), some (.int a1), some (.int a2), some (.int a3), some (.int (x1 + 1))]) rfl ?_
            refine s_goto (tgt := 3) C dX8_isWord_46 (by decide) ?_
            exact ih3 _ _ hf
          · refine s_iconst C dX8_isWord_41 (v := (0 : Int32)) (by decide) ?_
            exact s_zreturn C E dX8_isWord_42 hf (Nat.le_of_ble_eq_true rfl) (Nat.le_of_ble_eq_true rfl)
  exact k3 lpN _ _ hf
/-- HillBoxes$Tape.wordNumber(II)I -/
noncomputable def f_X8_wordNumber (o : Option Nat) (a1 : Int32) (a2 : Int32) (h : AH) : Option (Int32 × AH) :=
  lp (fun _ _ _ _ => none) (fun (L8 : Int32 → Int32 → Int32 → AH → Option (Int32 × AH)) (x1 : Int32) (x2 : Int32) (x3 : Int32) (h4 : AH) =>
    if (78 : Int32) ≤ x3 then
      some ((-1 : Int32), h4)
    else
      tbI txW x3 fun v5 =>
      jn (fun (x6 : Int32) (x7 : Int32) (h8 : AH) =>
        L8 x6 x7 (x3 + 1) h8) fun j61 =>
      if v5 = (32 : Int32) then
        jn (fun (h9 : AH) =>
          j61 (x1 + 1) (x3 + (1 : Int32)) h9) fun j52 =>
        if (x3 - x2) = a2 then
          rO h4 [8] o <| cl (f_X8_isWord o x2 a1 a2 h4) fun v11 h10 =>
          if v11 = 0 then
            j52 h10
          else
            some (x1, h10)
        else
          j52 h4
      else
        j61 x1 x2 h4) lpN (0 : Int32) (0 : Int32) (0 : Int32) h
set_option maxRecDepth 100000 in
set_option maxHeartbeats 4000000 in
theorem c_X8_wordNumber (l : Launch) (D : DT) (o : Option Nat) (a1 : Int32) (a2 : Int32) (h : AH) (r : Int32 × AH) (hf : f_X8_wordNumber o a1 a2 h = some r) : CM l D yX8_wordNumber cX8_wordNumber 6 (some .int) 9 224 0 0 [.inr (.inr o), .inl a1, .inl a2] h (some (.int r.1)) r.2 := by
  refine CM.of (by decide) (Nat.le_of_ble_eq_true rfl) (fun X hl C hD hX hnm E => ?_)
  subst hl
  subst hD
  have C : CX X RX8 cX8_wordNumber 6 := C
  show WW X h 0 0 0 [some (rB (xD X).1 o), some (.int a1), some (.int a2), none, none, none] []
  unfold f_X8_wordNumber at hf
  refine s_iconst C dX8_wordNumber_0 (v := (0 : Int32)) (by decide) ?_
  refine s_istore_n C dX8_wordNumber_1 (by decide) (nc_i rfl) (lv' := [some (rB (xD X).1 o), some (.int a1), some (.int a2), some (.int (0 : Int32)), none, none]) rfl ?_
  refine s_iconst C dX8_wordNumber_2 (v := (0 : Int32)) (by decide) ?_
  refine s_istore C dX8_wordNumber_3 (by decide) (nc_i rfl) (lv' := [some (rB (xD X).1 o), some (.int a1), some (.int a2), some (.int (0 : Int32)), some (.int (0 : Int32)), none]) rfl ?_
  refine s_iconst C dX8_wordNumber_5 (v := (0 : Int32)) (by decide) ?_
  refine s_istore C dX8_wordNumber_6 (by decide) (nc_i rfl) (lv' := [some (rB (xD X).1 o), some (.int a1), some (.int a2), some (.int (0 : Int32)), some (.int (0 : Int32)), some (.int (0 : Int32))]) rfl ?_
  refine s_lp4 hf (fun G8 z8 q8 hf => ?_)
  have k8 : ∀ (n : Nat) (x1 : Int32) (x2 : Int32) (x3 : Int32) (h4 : AH), G8 n x1 x2 x3 h4 = some r → WW X h4 0 0 8 [some (rB (xD X).1 o), some (.int a1), some (.int a2), some (.int x1), some (.int x2), some (.int x3)] [] := by
    intro n
    induction n with
    | zero =>
      intro x1 x2 x3 h4 hf
      rw [z8] at hf
      cases hf
    | succ n ih8 =>
      intro x1 x2 x3 h4 hf
      have hf := (q8 n x1 x2 x3 h4).symm.trans hf
      refine s_iload C dX8_wordNumber_8 rfl ?_
      refine s_ldcT121 C dX8_wordNumber_10 (fun qs10 qs10h => ?_)
      refine s_strlen C qs10h wml_X8_123 dX8_wordNumber_12 (Nat.le_of_ble_eq_true rfl) (room_n hX (Nat.le_of_ble_eq_true rfl) (Nat.le_of_ble_eq_true rfl)) (cell_ok hX (Nat.le_of_ble_eq_true rfl) (Nat.le_of_ble_eq_true rfl)) ?_
      refine s_icmp_ge (tgt := 67) C dX8_wordNumber_15 (by decide) hf (fun hf => ?_) (fun hf => ?_)
      · refine s_iconst C dX8_wordNumber_67 (v := (-1 : Int32)) (by decide) ?_
        exact s_ireturn C E dX8_wordNumber_68 hf (Nat.le_of_ble_eq_true rfl) (Nat.le_of_ble_eq_true rfl)
      · refine s_ldcT121 C dX8_wordNumber_18 (fun qs18 qs18h => ?_)
        refine s_iload C dX8_wordNumber_20 rfl ?_
        refine s_strchar C qs18h wml_X8_126 dX8_wordNumber_22 hf (Nat.le_of_ble_eq_true rfl) (room_n hX (Nat.le_of_ble_eq_true rfl) (Nat.le_of_ble_eq_true rfl)) (cell_ok hX (Nat.le_of_ble_eq_true rfl) (Nat.le_of_ble_eq_true rfl)) (fun v5 hf => ?_)
        refine s_bipush C dX8_wordNumber_25 (v := (32 : Int32)) (by decide) ?_
        refine s_jn hf (fun j61 e61 hf => ?_)
        have k61 : ∀ (x6 : Int32) (x7 : Int32) (h8 : AH), j61 x6 x7 h8 = some r → WW X h8 0 0 61 [some (rB (xD X).1 o), some (.int a1), some (.int a2), some (.int x6), some (.int x7), some (.int x3)] [] := by
          intro x6 x7 h8 hf
          rw [e61] at hf
          refine s_iinc C dX8_wordNumber_61 (v := (x3 + 1)) rfl rfl (by decide) (nc_i rfl) (lv' := [some (rB (xD X).1 o), some (.int a1), some (.int a2), some (.int x6), some (.int x7), some (.int (x3 + 1))]) rfl ?_
          refine s_goto (tgt := 8) C dX8_wordNumber_64 (by decide) ?_
          exact ih8 _ _ _ _ hf
        refine s_icmp_ne (tgt := 61) C dX8_wordNumber_27 (by decide) hf (fun hf => ?_) (fun hf => ?_)
        · exact k61 _ _ _ hf
        · refine s_iload C dX8_wordNumber_30 rfl ?_
          refine s_iload C dX8_wordNumber_32 rfl ?_
          refine s_isub C dX8_wordNumber_34 ?_
          refine s_iload_n C dX8_wordNumber_35 rfl ?_
          refine s_jn hf (fun j52 e52 hf => ?_)
          have k52 : ∀ (h9 : AH), j52 h9 = some r → WW X h9 0 0 52 [some (rB (xD X).1 o), some (.int a1), some (.int a2), some (.int x1), none, some (.int x3)] [] := by
            intro h9 hf
            rw [e52] at hf
            refine s_iinc C dX8_wordNumber_52 (v := (x1 + 1)) rfl rfl (by decide) (nc_i rfl) (lv' := [some (rB (xD X).1 o), some (.int a1), some (.int a2), some (.int (x1 + 1)), none, some (.int x3)]) rfl ?_
            refine s_iload C dX8_wordNumber_55 rfl ?_
            refine s_iconst C dX8_wordNumber_57 (v := (1 : Int32)) (by decide) ?_
            refine s_iadd C dX8_wordNumber_58 ?_
            refine s_istore C dX8_wordNumber_59 (by decide) (nc_i rfl) (lv' := [some (rB (xD X).1 o), some (.int a1), some (.int a2), some (.int (x1 + 1)), some (.int (x3 + (1 : Int32))), some (.int x3)]) rfl ?_
            exact k61 _ _ _ hf
          refine s_icmp_ne (tgt := 52) C dX8_wordNumber_36 (by decide) hf (fun hf => ?_) (fun hf => ?_)
          · refine s_weak (lv' := [some (rB (xD X).1 o), some (.int a1), some (.int a2), some (.int x1), none, some (.int x3)]) ⟨rfl, ⟨rfl, ⟨rfl, ⟨rfl, ⟨rfl, trivial⟩⟩⟩⟩⟩ ?_
            exact k52 _ hf
          · refine s_aload_n C dX8_wordNumber_39 rfl ?_
            refine s_iload C dX8_wordNumber_40 rfl ?_
            refine s_iload_n C dX8_wordNumber_42 rfl ?_
            refine s_iload_n C dX8_wordNumber_43 rfl ?_
            refine s_callV (rvf := fun x => some (.int x)) (st := []) (fr := 8) (lo := 200) (mc := 0) (ms := 0) C [8] wc_X8_isWord wml_X8_130 wim_X8_isWord wsl_8_X8_isWord dX8_wordNumber_44 (As := [.inl x2, .inl a1, .inl a2]) rfl hf (fun x h' hF => c_X8_isWord _ _ _ _ _ _ _ (x, h') hF) rfl (Nat.le_of_ble_eq_true rfl) (room_ok hX (Nat.le_of_ble_eq_true rfl) (Nat.le_of_ble_eq_true rfl)) (cell_ok hX (Nat.le_of_ble_eq_true rfl) (Nat.le_of_ble_eq_true rfl)) (fun v11 h10 hf => ?_)
            refine s_if_eq (tgt := 52) C dX8_wordNumber_47 (by decide) hf (fun hf => ?_) (fun hf => ?_)
            · refine s_weak (lv' := [some (rB (xD X).1 o), some (.int a1), some (.int a2), some (.int x1), none, some (.int x3)]) ⟨rfl, ⟨rfl, ⟨rfl, ⟨rfl, ⟨rfl, trivial⟩⟩⟩⟩⟩ ?_
              exact k52 _ hf
            · refine s_iload_n C dX8_wordNumber_50 rfl ?_
              exact s_ireturn C E dX8_wordNumber_51 hf (Nat.le_of_ble_eq_true rfl) (Nat.le_of_ble_eq_true rfl)
  exact k8 lpN _ _ _ _ hf
/-- HillBoxes$Tape.readWord(I)V -/
noncomputable def f_X8_readWord (o : Option Nat) (a1 : Int32) (h : AH) : Option (Unit × AH) :=
  lp (fun _ _ => none) (fun (L2 : Int32 → AH → Option (Unit × AH)) (x1 : Int32) (h2 : AH) =>
    jn (fun (h3 : AH) =>
      fR h3 [8] o 3 fun v4 =>
      aI h3 20 v4 a1 fun v5 =>
      fI h3 [8] o 5 fun v6 =>
      fR h3 [8] o 3 fun v7 =>
      aI h3 20 v7 a1 fun v8 =>
      rO h3 [8] o <| cl (f_X8_wordNumber o v5 (v6 - v8) h3) fun v10 h9 =>
      fR h9 [8] o 2 fun v11 =>
      jn (fun (x12 : Int32) =>
        bI h9 20 v11 a1 x12 fun h13 =>
        fR h13 [8] o 4 fun v14 =>
        bI h13 20 v14 a1 ((-1 : Int32) - v10) fun h15 =>
        some ((), h15)) fun j89 =>
      if 0 ≤ v10 then
        if (11 : Int32) ≤ v10 then
          j89 ((300 : Int32) + v10)
        else
          j89 (3 : Int32)
      else
        j89 (1 : Int32)) fun j39 =>
    if (160 : Int32) ≤ x1 then
      j39 h2
    else
      fI h2 [8] o 5 fun v16 =>
      rO h2 [8] o <| cl (f_X8_byteAt o v16 h2) fun v18 h17 =>
      cl (f_X8_isLetter v18 h17) fun v20 h19 =>
      if v20 = 0 then
        j39 h19
      else
        fI h19 [8] o 5 fun v21 =>
        pI h19 [8] o 5 (v21 + (1 : Int32)) fun h22 =>
        L2 (x1 + 1) h22) lpN (0 : Int32) h
set_option maxRecDepth 100000 in
set_option maxHeartbeats 4000000 in
theorem c_X8_readWord (l : Launch) (D : DT) (o : Option Nat) (a1 : Int32) (h : AH) (r : Unit × AH) (hf : f_X8_readWord o a1 h = some r) : CM l D yX8_readWord cX8_readWord 3 none 10 249 0 0 [.inr (.inr o), .inl a1] h none r.2 := by
  refine CM.of (by decide) (Nat.le_of_ble_eq_true rfl) (fun X hl C hD hX hnm E => ?_)
  subst hl
  subst hD
  have C : CX X RX8 cX8_readWord 3 := C
  show WW X h 0 0 0 [some (rB (xD X).1 o), some (.int a1), none] []
  unfold f_X8_readWord at hf
  refine s_iconst C dX8_readWord_0 (v := (0 : Int32)) (by decide) ?_
  refine s_istore_n C dX8_readWord_1 (by decide) (nc_i rfl) (lv' := [some (rB (xD X).1 o), some (.int a1), some (.int (0 : Int32))]) rfl ?_
  refine s_lp2 hf (fun G2 z2 q2 hf => ?_)
  have k2 : ∀ (n : Nat) (x1 : Int32) (h2 : AH), G2 n x1 h2 = some r → WW X h2 0 0 2 [some (rB (xD X).1 o), some (.int a1), some (.int x1)] [] := by
    intro n
    induction n with
    | zero =>
      intro x1 h2 hf
      rw [z2] at hf
      cases hf
    | succ n ih2 =>
      intro x1 h2 hf
      have hf := (q2 n x1 h2).symm.trans hf
      refine s_iload_n C dX8_readWord_2 rfl ?_
      refine s_sipush C dX8_readWord_3 (v := (160 : Int32)) (by decide) ?_
      refine s_jn hf (fun j39 e39 hf => ?_)
      have k39 : ∀ (h3 : AH), j39 h3 = some r → WW X h3 0 0 39 [some (rB (xD X).1 o), some (.int a1), none] [] := by
        intro h3 hf
        rw [e39] at hf
        refine s_aload_n C dX8_readWord_39 rfl ?_
        refine s_aload_n C dX8_readWord_40 rfl ?_
        refine s_getR C fl_X8_16 dX8_readWord_41 hf (fun v4 hf => ?_)
        refine s_iload_n C dX8_readWord_44 rfl ?_
        refine s_iaload C dX8_readWord_45 hf (fun v5 hf => ?_)
        refine s_aload_n C dX8_readWord_46 rfl ?_
        refine s_getI C fl_X8_88 dX8_readWord_47 hf (fun v6 hf => ?_)
        refine s_aload_n C dX8_readWord_50 rfl ?_
        refine s_getR C fl_X8_16 dX8_readWord_51 hf (fun v7 hf => ?_)
        refine s_iload_n C dX8_readWord_54 rfl ?_
        refine s_iaload C dX8_readWord_55 hf (fun v8 hf => ?_)
        refine s_isub C dX8_readWord_56 ?_
        refine s_callV (rvf := fun x => some (.int x)) (st := []) (fr := 9) (lo := 224) (mc := 0) (ms := 0) C [8] wc_X8_wordNumber wml_X8_117 wim_X8_wordNumber wsl_8_X8_wordNumber dX8_readWord_57 (As := [.inl v5, .inl (v6 - v8)]) rfl hf (fun x h' hF => c_X8_wordNumber _ _ _ _ _ _ (x, h') hF) rfl (Nat.le_of_ble_eq_true rfl) (room_ok hX (Nat.le_of_ble_eq_true rfl) (Nat.le_of_ble_eq_true rfl)) (cell_ok hX (Nat.le_of_ble_eq_true rfl) (Nat.le_of_ble_eq_true rfl)) (fun v10 h9 hf => ?_)
        refine s_istore_n C dX8_readWord_60 (by decide) (nc_i rfl) (lv' := [some (rB (xD X).1 o), some (.int a1), some (.int v10)]) rfl ?_
        refine s_aload_n C dX8_readWord_61 rfl ?_
        refine s_getR C fl_X8_13 dX8_readWord_62 hf (fun v11 hf => ?_)
        refine s_iload_n C dX8_readWord_65 rfl ?_
        refine s_iload_n C dX8_readWord_66 rfl ?_
        refine s_jn hf (fun j89 e89 hf => ?_)
        have k89 : ∀ (x12 : Int32), j89 x12 = some r → WW X h9 0 0 89 [some (rB (xD X).1 o), some (.int a1), some (.int v10)] [.int x12, .int a1, rB (xD X).1 v11] := by
          intro x12 hf
          rw [e89] at hf
          refine s_iastore C dX8_readWord_89 hf (fun h13 hf => ?_)
          refine s_aload_n C dX8_readWord_90 rfl ?_
          refine s_getR C fl_X8_19 dX8_readWord_91 hf (fun v14 hf => ?_)
          refine s_iload_n C dX8_readWord_94 rfl ?_
          refine s_iconst C dX8_readWord_95 (v := (-1 : Int32)) (by decide) ?_
          refine s_iload_n C dX8_readWord_96 rfl ?_
          refine s_isub C dX8_readWord_97 ?_
          refine s_iastore C dX8_readWord_98 hf (fun h15 hf => ?_)
          exact s_return C E dX8_readWord_99 hf (Nat.le_of_ble_eq_true rfl) (Nat.le_of_ble_eq_true rfl)
        refine s_if_ge (tgt := 74) C dX8_readWord_67 (by decide) hf (fun hf => ?_) (fun hf => ?_)
        · refine s_iload_n C dX8_readWord_74 rfl ?_
          refine s_bipush C dX8_readWord_75 (v := (11 : Int32)) (by decide) ?_
          refine s_icmp_ge (tgt := 84) C dX8_readWord_77 (by decide) hf (fun hf => ?_) (fun hf => ?_)
          · refine s_sipush C dX8_readWord_84 (v := (300 : Int32)) (by decide) ?_
            refine s_iload_n C dX8_readWord_87 rfl ?_
            refine s_iadd C dX8_readWord_88 ?_
            exact k89 _ hf
          · refine s_iconst C dX8_readWord_80 (v := (3 : Int32)) (by decide) ?_
            refine s_goto (tgt := 89) C dX8_readWord_81 (by decide) ?_
            exact k89 _ hf
        · refine s_iconst C dX8_readWord_70 (v := (1 : Int32)) (by decide) ?_
          refine s_goto (tgt := 89) C dX8_readWord_71 (by decide) ?_
          exact k89 _ hf
      refine s_icmp_ge (tgt := 39) C dX8_readWord_6 (by decide) hf (fun hf => ?_) (fun hf => ?_)
      · refine s_weak (lv' := [some (rB (xD X).1 o), some (.int a1), none]) ⟨rfl, ⟨rfl, trivial⟩⟩ ?_
        exact k39 _ hf
      · refine s_aload_n C dX8_readWord_9 rfl ?_
        refine s_aload_n C dX8_readWord_10 rfl ?_
        refine s_getI C fl_X8_88 dX8_readWord_11 hf (fun v16 hf => ?_)
        refine s_callV (rvf := fun x => some (.int x)) (st := []) (fr := 0) (lo := 0) (mc := 0) (ms := 0) C [8] wc_X8_byteAt wml_X8_94 wim_X8_byteAt wsl_8_X8_byteAt dX8_readWord_14 (As := [.inl v16]) rfl hf (fun x h' hF => c_X8_byteAt _ _ _ _ _ (x, h') hF) rfl (Nat.le_of_ble_eq_true rfl) (room_ok hX (Nat.le_of_ble_eq_true rfl) (Nat.le_of_ble_eq_true rfl)) (cell_ok hX (Nat.le_of_ble_eq_true rfl) (Nat.le_of_ble_eq_true rfl)) (fun v18 h17 hf => ?_)
        refine s_callS (rvf := fun x => some (.int x)) (st := []) (fr := 0) (lo := 0) (mc := 0) (ms := 0) C wc_X8_isLetter wml_X8_98 wst_X8_isLetter dX8_readWord_17 (As := [.inl v18]) rfl hf (fun x h' hF => c_X8_isLetter _ _ _ _ (x, h') hF) rfl (Nat.le_of_ble_eq_true rfl) (room_ok hX (Nat.le_of_ble_eq_true rfl) (Nat.le_of_ble_eq_true rfl)) (cell_ok hX (Nat.le_of_ble_eq_true rfl) (Nat.le_of_ble_eq_true rfl)) (fun v20 h19 hf => ?_)
        refine s_if_eq (tgt := 39) C dX8_readWord_20 (by decide) hf (fun hf => ?_) (fun hf => ?_)
        · refine s_weak (lv' := [some (rB (xD X).1 o), some (.int a1), none]) ⟨rfl, ⟨rfl, trivial⟩⟩ ?_
          exact k39 _ hf
        · refine s_aload_n C dX8_readWord_23 rfl ?_
          refine s_dup C dX8_readWord_24 c1_r ?_
          refine s_getI C fl_X8_88 dX8_readWord_25 hf (fun v21 hf => ?_)
          refine s_iconst C dX8_readWord_28 (v := (1 : Int32)) (by decide) ?_
          refine s_iadd C dX8_readWord_29 ?_
          refine s_putI C fl_X8_88 (by decide) dX8_readWord_30 hf (fun h22 hf => ?_)
          refine s_iinc C dX8_readWord_33 (v := (x1 + 1)) rfl rfl (by decide) (nc_i rfl) (lv' := [some (rB (xD X).1 o), some (.int a1), some (.int (x1 + 1))]) rfl ?_
          refine s_goto (tgt := 2) C dX8_readWord_36 (by decide) ?_
          exact ih2 _ _ hf
  exact k2 lpN _ _ hf
/-- HillBoxes$Tape.skipBlanks()V -/
noncomputable def f_X8_skipBlanks (o : Option Nat) (h : AH) : Option (Unit × AH) :=
  lp (fun _ _ => none) (fun (L2 : Int32 → AH → Option (Unit × AH)) (x1 : Int32) (h2 : AH) =>
    jn (fun (h3 : AH) =>
      some ((), h3)) fun j38 =>
    if (160 : Int32) ≤ x1 then
      j38 h2
    else
      fI h2 [8] o 5 fun v4 =>
      rO h2 [8] o <| cl (f_X8_byteAt o v4 h2) fun v6 h5 =>
      if v6 = (32 : Int32) then
        fI h5 [8] o 5 fun v7 =>
        pI h5 [8] o 5 (v7 + (1 : Int32)) fun h8 =>
        L2 (x1 + 1) h8
      else
        j38 h5) lpN (0 : Int32) h
set_option maxRecDepth 100000 in
set_option maxHeartbeats 4000000 in
theorem c_X8_skipBlanks (l : Launch) (D : DT) (o : Option Nat) (h : AH) (r : Unit × AH) (hf : f_X8_skipBlanks o h = some r) : CM l D yX8_skipBlanks cX8_skipBlanks 2 none 1 21 0 0 [.inr (.inr o)] h none r.2 := by
  refine CM.of (by decide) (Nat.le_of_ble_eq_true rfl) (fun X hl C hD hX hnm E => ?_)
  subst hl
  subst hD
  have C : CX X RX8 cX8_skipBlanks 2 := C
  show WW X h 0 0 0 [some (rB (xD X).1 o), none] []
  unfold f_X8_skipBlanks at hf
  refine s_iconst C dX8_skipBlanks_0 (v := (0 : Int32)) (by decide) ?_
  refine s_istore_n C dX8_skipBlanks_1 (by decide) (nc_r rfl) (lv' := [some (rB (xD X).1 o), some (.int (0 : Int32))]) rfl ?_
  refine s_lp2 hf (fun G2 z2 q2 hf => ?_)
  have k2 : ∀ (n : Nat) (x1 : Int32) (h2 : AH), G2 n x1 h2 = some r → WW X h2 0 0 2 [some (rB (xD X).1 o), some (.int x1)] [] := by
    intro n
    induction n with
    | zero =>
      intro x1 h2 hf
      rw [z2] at hf
      cases hf
    | succ n ih2 =>
      intro x1 h2 hf
      have hf := (q2 n x1 h2).symm.trans hf
      refine s_iload_n C dX8_skipBlanks_2 rfl ?_
      refine s_sipush C dX8_skipBlanks_3 (v := (160 : Int32)) (by decide) ?_
      refine s_jn hf (fun j38 e38 hf => ?_)
      have k38 : ∀ (h3 : AH), j38 h3 = some r → WW X h3 0 0 38 [none, none] [] := by
        intro h3 hf
        rw [e38] at hf
        exact s_return C E dX8_skipBlanks_38 hf (Nat.le_of_ble_eq_true rfl) (Nat.le_of_ble_eq_true rfl)
      refine s_icmp_ge (tgt := 38) C dX8_skipBlanks_6 (by decide) hf (fun hf => ?_) (fun hf => ?_)
      · refine s_weak (lv' := [none, none]) trivial ?_
        exact k38 _ hf
      · refine s_aload_n C dX8_skipBlanks_9 rfl ?_
        refine s_aload_n C dX8_skipBlanks_10 rfl ?_
        refine s_getI C fl_X8_88 dX8_skipBlanks_11 hf (fun v4 hf => ?_)
        refine s_callV (rvf := fun x => some (.int x)) (st := []) (fr := 0) (lo := 0) (mc := 0) (ms := 0) C [8] wc_X8_byteAt wml_X8_94 wim_X8_byteAt wsl_8_X8_byteAt dX8_skipBlanks_14 (As := [.inl v4]) rfl hf (fun x h' hF => c_X8_byteAt _ _ _ _ _ (x, h') hF) rfl (Nat.le_of_ble_eq_true rfl) (room_ok hX (Nat.le_of_ble_eq_true rfl) (Nat.le_of_ble_eq_true rfl)) (cell_ok hX (Nat.le_of_ble_eq_true rfl) (Nat.le_of_ble_eq_true rfl)) (fun v6 h5 hf => ?_)
        refine s_bipush C dX8_skipBlanks_17 (v := (32 : Int32)) (by decide) ?_
        refine s_icmp_ne (tgt := 38) C dX8_skipBlanks_19 (by decide) hf (fun hf => ?_) (fun hf => ?_)
        · refine s_weak (lv' := [none, none]) trivial ?_
          exact k38 _ hf
        · refine s_aload_n C dX8_skipBlanks_22 rfl ?_
          refine s_dup C dX8_skipBlanks_23 c1_r ?_
          refine s_getI C fl_X8_88 dX8_skipBlanks_24 hf (fun v7 hf => ?_)
          refine s_iconst C dX8_skipBlanks_27 (v := (1 : Int32)) (by decide) ?_
          refine s_iadd C dX8_skipBlanks_28 ?_
          refine s_putI C fl_X8_88 (by decide) dX8_skipBlanks_29 hf (fun h8 hf => ?_)
          refine s_iinc C dX8_skipBlanks_32 (v := (x1 + 1)) rfl rfl (by decide) (nc_r rfl) (lv' := [some (rB (xD X).1 o), some (.int (x1 + 1))]) rfl ?_
          refine s_goto (tgt := 2) C dX8_skipBlanks_35 (by decide) ?_
          exact ih2 _ _ hf
  exact k2 lpN _ _ hf
/-- HillBoxes$Tape.splitIntoTokens()V -/
noncomputable def f_X8_splitIntoTokens (o : Option Nat) (h : AH) : Option (Unit × AH) :=
  pI h [8] o 5 (0 : Int32) fun h1 =>
  lp (fun _ _ => none) (fun (L7 : Int32 → AH → Option (Unit × AH)) (x2 : Int32) (h3 : AH) =>
    if (160 : Int32) < x2 then
      some ((), h3)
    else
      rO h3 [8] o <| cl (f_X8_skipBlanks o h3) fun _ h4 =>
      fR h4 [8] o 3 fun v5 =>
      fI h4 [8] o 5 fun v6 =>
      bI h4 20 v5 x2 v6 fun h7 =>
      fI h7 [8] o 5 fun v8 =>
      rO h7 [8] o <| cl (f_X8_byteAt o v8 h7) fun v10 h9 =>
      if 0 ≤ v10 then
        cl (f_X8_isLetter v10 h9) fun v12 h11 =>
        jn (fun (h13 : AH) =>
          L7 (x2 + 1) h13) fun j110 =>
        if v12 = 0 then
          cl (f_X8_isDigit v10 h11) fun v15 h14 =>
          if v15 = 0 then
            fR h14 [8] o 2 fun v16 =>
            jn (fun (x17 : Int32) =>
              bI h14 20 v16 x2 x17 fun h18 =>
              fI h18 [8] o 5 fun v19 =>
              pI h18 [8] o 5 (v19 + (1 : Int32)) fun h20 =>
              j110 h20) fun j99 =>
            if (ixS ((v10.toUInt32 % 65536).toInt32)) < 0 then
              j99 (1 : Int32)
            else
              j99 v10
          else
            rO h14 [8] o <| cl (f_X8_readNumber o x2 h14) fun _ h21 =>
            j110 h21
        else
          rO h11 [8] o <| cl (f_X8_readWord o x2 h11) fun _ h22 =>
          j110 h22
      else
        fR h9 [8] o 2 fun v23 =>
        bI h9 20 v23 x2 (0 : Int32) fun h24 =>
        some ((), h24)) lpN (0 : Int32) h1
set_option maxRecDepth 100000 in
set_option maxHeartbeats 4000000 in
theorem c_X8_splitIntoTokens (l : Launch) (D : DT) (o : Option Nat) (h : AH) (r : Unit × AH) (hf : f_X8_splitIntoTokens o h = some r) : CM l D yX8_splitIntoTokens cX8_splitIntoTokens 3 none 11 271 0 0 [.inr (.inr o)] h none r.2 := by
  refine CM.of (by decide) (Nat.le_of_ble_eq_true rfl) (fun X hl C hD hX hnm E => ?_)
  subst hl
  subst hD
  have C : CX X RX8 cX8_splitIntoTokens 3 := C
  show WW X h 0 0 0 [some (rB (xD X).1 o), none, none] []
  unfold f_X8_splitIntoTokens at hf
  refine s_aload_n C dX8_splitIntoTokens_0 rfl ?_
  refine s_iconst C dX8_splitIntoTokens_1 (v := (0 : Int32)) (by decide) ?_
  refine s_putI C fl_X8_88 (by decide) dX8_splitIntoTokens_2 hf (fun h1 hf => ?_)
  refine s_iconst C dX8_splitIntoTokens_5 (v := (0 : Int32)) (by decide) ?_
  refine s_istore_n C dX8_splitIntoTokens_6 (by decide) (nc_r rfl) (lv' := [some (rB (xD X).1 o), some (.int (0 : Int32)), none]) rfl ?_
  refine s_lp2 hf (fun G7 z7 q7 hf => ?_)
  have k7 : ∀ (n : Nat) (x2 : Int32) (h3 : AH), G7 n x2 h3 = some r → WW X h3 0 0 7 [some (rB (xD X).1 o), some (.int x2), none] [] := by
    intro n
    induction n with
    | zero =>
      intro x2 h3 hf
      rw [z7] at hf
      cases hf
    | succ n ih7 =>
      intro x2 h3 hf
      have hf := (q7 n x2 h3).symm.trans hf
      refine s_iload_n C dX8_splitIntoTokens_7 rfl ?_
      refine s_sipush C dX8_splitIntoTokens_8 (v := (160 : Int32)) (by decide) ?_
      refine s_icmp_gt (tgt := 116) C dX8_splitIntoTokens_11 (by decide) hf (fun hf => ?_) (fun hf => ?_)
      · exact s_return C E dX8_splitIntoTokens_116 hf (Nat.le_of_ble_eq_true rfl) (Nat.le_of_ble_eq_true rfl)
      · refine s_aload_n C dX8_splitIntoTokens_14 rfl ?_
        refine s_callV (rvf := fun _ => none) (st := []) (fr := 1) (lo := 21) (mc := 0) (ms := 0) C [8] wc_X8_skipBlanks wml_X8_91 wim_X8_skipBlanks wsl_8_X8_skipBlanks dX8_splitIntoTokens_15 (As := []) rfl hf (fun x h' hF => c_X8_skipBlanks _ _ _ _ (x, h') hF) rfl (Nat.le_of_ble_eq_true rfl) (room_ok hX (Nat.le_of_ble_eq_true rfl) (Nat.le_of_ble_eq_true rfl)) (cell_ok hX (Nat.le_of_ble_eq_true rfl) (Nat.le_of_ble_eq_true rfl)) (fun _ h4 hf => ?_)
        refine s_aload_n C dX8_splitIntoTokens_18 rfl ?_
        refine s_getR C fl_X8_16 dX8_splitIntoTokens_19 hf (fun v5 hf => ?_)
        refine s_iload_n C dX8_splitIntoTokens_22 rfl ?_
        refine s_aload_n C dX8_splitIntoTokens_23 rfl ?_
        refine s_getI C fl_X8_88 dX8_splitIntoTokens_24 hf (fun v6 hf => ?_)
        refine s_iastore C dX8_splitIntoTokens_27 hf (fun h7 hf => ?_)
        refine s_aload_n C dX8_splitIntoTokens_28 rfl ?_
        refine s_aload_n C dX8_splitIntoTokens_29 rfl ?_
        refine s_getI C fl_X8_88 dX8_splitIntoTokens_30 hf (fun v8 hf => ?_)
        refine s_callV (rvf := fun x => some (.int x)) (st := []) (fr := 0) (lo := 0) (mc := 0) (ms := 0) C [8] wc_X8_byteAt wml_X8_94 wim_X8_byteAt wsl_8_X8_byteAt dX8_splitIntoTokens_33 (As := [.inl v8]) rfl hf (fun x h' hF => c_X8_byteAt _ _ _ _ _ (x, h') hF) rfl (Nat.le_of_ble_eq_true rfl) (room_ok hX (Nat.le_of_ble_eq_true rfl) (Nat.le_of_ble_eq_true rfl)) (cell_ok hX (Nat.le_of_ble_eq_true rfl) (Nat.le_of_ble_eq_true rfl)) (fun v10 h9 hf => ?_)
        refine s_istore_n C dX8_splitIntoTokens_36 (by decide) (nc_i rfl) (lv' := [some (rB (xD X).1 o), some (.int x2), some (.int v10)]) rfl ?_
        refine s_iload_n C dX8_splitIntoTokens_37 rfl ?_
        refine s_if_ge (tgt := 49) C dX8_splitIntoTokens_38 (by decide) hf (fun hf => ?_) (fun hf => ?_)
        · refine s_iload_n C dX8_splitIntoTokens_49 rfl ?_
          refine s_callS (rvf := fun x => some (.int x)) (st := []) (fr := 0) (lo := 0) (mc := 0) (ms := 0) C wc_X8_isLetter wml_X8_98 wst_X8_isLetter dX8_splitIntoTokens_50 (As := [.inl v10]) rfl hf (fun x h' hF => c_X8_isLetter _ _ _ _ (x, h') hF) rfl (Nat.le_of_ble_eq_true rfl) (room_ok hX (Nat.le_of_ble_eq_true rfl) (Nat.le_of_ble_eq_true rfl)) (cell_ok hX (Nat.le_of_ble_eq_true rfl) (Nat.le_of_ble_eq_true rfl)) (fun v12 h11 hf => ?_)
          refine s_jn hf (fun j110 e110 hf => ?_)
          have k110 : ∀ (h13 : AH), j110 h13 = some r → WW X h13 0 0 110 [some (rB (xD X).1 o), some (.int x2), none] [] := by
            intro h13 hf
            rw [e110] at hf
            refine s_iinc C dX8_splitIntoTokens_110 (v := (x2 + 1)) rfl rfl (by decide) (nc_r rfl) (lv' := [some (rB (xD X).1 o), some (.int (x2 + 1)), none]) rfl ?_
            refine s_goto (tgt := 7) C dX8_splitIntoTokens_113 (by decide) ?_
            exact ih7 _ _ hf
          refine s_if_eq (tgt := 64) C dX8_splitIntoTokens_53 (by decide) hf (fun hf => ?_) (fun hf => ?_)
          · refine s_iload_n C dX8_splitIntoTokens_64 rfl ?_
            refine s_callS (rvf := fun x => some (.int x)) (st := []) (fr := 0) (lo := 0) (mc := 0) (ms := 0) C wc_X8_isDigit wml_X8_104 wst_X8_isDigit dX8_splitIntoTokens_65 (As := [.inl v10]) rfl hf (fun x h' hF => c_X8_isDigit _ _ _ _ (x, h') hF) rfl (Nat.le_of_ble_eq_true rfl) (room_ok hX (Nat.le_of_ble_eq_true rfl) (Nat.le_of_ble_eq_true rfl)) (cell_ok hX (Nat.le_of_ble_eq_true rfl) (Nat.le_of_ble_eq_true rfl)) (fun v15 h14 hf => ?_)
            refine s_if_eq (tgt := 79) C dX8_splitIntoTokens_68 (by decide) hf (fun hf => ?_) (fun hf => ?_)
            · refine s_aload_n C dX8_splitIntoTokens_79 rfl ?_
              refine s_getR C fl_X8_13 dX8_splitIntoTokens_80 hf (fun v16 hf => ?_)
              refine s_iload_n C dX8_splitIntoTokens_83 rfl ?_
              refine s_ldcT110 C dX8_splitIntoTokens_84 (fun qs84 qs84h => ?_)
              refine s_iload_n C dX8_splitIntoTokens_86 rfl ?_
              refine s_i2c C dX8_splitIntoTokens_87 ?_
              refine s_stridx C qs84h wml_X8_112 dX8_splitIntoTokens_88 (Nat.le_of_ble_eq_true rfl) (room_n hX (Nat.le_of_ble_eq_true rfl) (Nat.le_of_ble_eq_true rfl)) (cell_ok hX (Nat.le_of_ble_eq_true rfl) (Nat.le_of_ble_eq_true rfl)) ?_
              refine s_jn hf (fun j99 e99 hf => ?_)
              have k99 : ∀ (x17 : Int32), j99 x17 = some r → WW X h14 0 0 99 [some (rB (xD X).1 o), some (.int x2), none] [.int x17, .int x2, rB (xD X).1 v16] := by
                intro x17 hf
                rw [e99] at hf
                refine s_iastore C dX8_splitIntoTokens_99 hf (fun h18 hf => ?_)
                refine s_aload_n C dX8_splitIntoTokens_100 rfl ?_
                refine s_dup C dX8_splitIntoTokens_101 c1_r ?_
                refine s_getI C fl_X8_88 dX8_splitIntoTokens_102 hf (fun v19 hf => ?_)
                refine s_iconst C dX8_splitIntoTokens_105 (v := (1 : Int32)) (by decide) ?_
                refine s_iadd C dX8_splitIntoTokens_106 ?_
                refine s_putI C fl_X8_88 (by decide) dX8_splitIntoTokens_107 hf (fun h20 hf => ?_)
                exact k110 _ hf
              refine s_if_lt (tgt := 98) C dX8_splitIntoTokens_91 (by decide) hf (fun hf => ?_) (fun hf => ?_)
              · refine s_iconst C dX8_splitIntoTokens_98 (v := (1 : Int32)) (by decide) ?_
                refine s_weak (lv' := [some (rB (xD X).1 o), some (.int x2), none]) ⟨rfl, ⟨rfl, trivial⟩⟩ ?_
                exact k99 _ hf
              · refine s_iload_n C dX8_splitIntoTokens_94 rfl ?_
                refine s_goto (tgt := 99) C dX8_splitIntoTokens_95 (by decide) ?_
                refine s_weak (lv' := [some (rB (xD X).1 o), some (.int x2), none]) ⟨rfl, ⟨rfl, trivial⟩⟩ ?_
                exact k99 _ hf
            · refine s_aload_n C dX8_splitIntoTokens_71 rfl ?_
              refine s_iload_n C dX8_splitIntoTokens_72 rfl ?_
              refine s_callV (rvf := fun _ => none) (st := []) (fr := 1) (lo := 21) (mc := 0) (ms := 0) C [8] wc_X8_readNumber wml_X8_107 wim_X8_readNumber wsl_8_X8_readNumber dX8_splitIntoTokens_73 (As := [.inl x2]) rfl hf (fun x h' hF => c_X8_readNumber _ _ _ _ _ (x, h') hF) rfl (Nat.le_of_ble_eq_true rfl) (room_ok hX (Nat.le_of_ble_eq_true rfl) (Nat.le_of_ble_eq_true rfl)) (cell_ok hX (Nat.le_of_ble_eq_true rfl) (Nat.le_of_ble_eq_true rfl)) (fun _ h21 hf => ?_)
              refine s_goto (tgt := 110) C dX8_splitIntoTokens_76 (by decide) ?_
              refine s_weak (lv' := [some (rB (xD X).1 o), some (.int x2), none]) ⟨rfl, ⟨rfl, trivial⟩⟩ ?_
              exact k110 _ hf
          · refine s_aload_n C dX8_splitIntoTokens_56 rfl ?_
            refine s_iload_n C dX8_splitIntoTokens_57 rfl ?_
            refine s_callV (rvf := fun _ => none) (st := []) (fr := 10) (lo := 249) (mc := 0) (ms := 0) C [8] wc_X8_readWord wml_X8_101 wim_X8_readWord wsl_8_X8_readWord dX8_splitIntoTokens_58 (As := [.inl x2]) rfl hf (fun x h' hF => c_X8_readWord _ _ _ _ _ (x, h') hF) rfl (Nat.le_of_ble_eq_true rfl) (room_ok hX (Nat.le_of_ble_eq_true rfl) (Nat.le_of_ble_eq_true rfl)) (cell_ok hX (Nat.le_of_ble_eq_true rfl) (Nat.le_of_ble_eq_true rfl)) (fun _ h22 hf => ?_)
            refine s_goto (tgt := 110) C dX8_splitIntoTokens_61 (by decide) ?_
            refine s_weak (lv' := [some (rB (xD X).1 o), some (.int x2), none]) ⟨rfl, ⟨rfl, trivial⟩⟩ ?_
            exact k110 _ hf
        · refine s_aload_n C dX8_splitIntoTokens_41 rfl ?_
          refine s_getR C fl_X8_13 dX8_splitIntoTokens_42 hf (fun v23 hf => ?_)
          refine s_iload_n C dX8_splitIntoTokens_45 rfl ?_
          refine s_iconst C dX8_splitIntoTokens_46 (v := (0 : Int32)) (by decide) ?_
          refine s_iastore C dX8_splitIntoTokens_47 hf (fun h24 hf => ?_)
          exact s_return C E dX8_splitIntoTokens_48 hf (Nat.le_of_ble_eq_true rfl) (Nat.le_of_ble_eq_true rfl)
  exact k7 lpN _ _ hf
/-- HillBoxes$Tape.compile()I -/
noncomputable def f_X8_compile (o : Option Nat) (h : AH) : Option (Int32 × AH) :=
  rO h [8] o <| cl (f_X8_splitIntoTokens o h) fun _ h1 =>
  pI h1 [8] o 10 (0 : Int32) fun h2 =>
  pI h2 [8] o 8 (-1 : Int32) fun h3 =>
  pI h3 [8] o 7 (0 : Int32) fun h4 =>
  fR h4 [8] o 2 fun v5 =>
  aI h4 20 v5 (0 : Int32) fun v6 =>
  pI h4 [8] o 6 v6 fun h7 =>
  rO h7 [8] o <| cl (f_X8_readLine o h7) fun _ h8 =>
  lp (fun _ _ => none) (fun (L35 : Int32 → AH → Option (Int32 × AH)) (x9 : Int32) (h10 : AH) =>
    jn (
      fI h10 [8] o 6 fun v11 =>
      jn (fun (h12 : AH) =>
        fI h12 [8] o 8 fun v13 =>
        some (v13, h12)) fun j83 =>
      if v11 = 0 then
        j83 h10
      else
        rO h10 [8] o <| cl (f_X8_blame o h10) fun _ h14 =>
        j83 h14) fun j72 =>
    if (160 : Int32) ≤ x9 then
      j72
    else
      fI h10 [8] o 8 fun v15 =>
      if 0 ≤ v15 then
        j72
      else
        fI h10 [8] o 6 fun v16 =>
        if v16 = (59 : Int32) then
          rO h10 [8] o <| cl (f_X8_advance o h10) fun _ h17 =>
          rO h17 [8] o <| cl (f_X8_readLine o h17) fun _ h18 =>
          L35 (x9 + 1) h18
        else
          j72) lpN (0 : Int32) h8
set_option maxRecDepth 100000 in
set_option maxHeartbeats 4000000 in
theorem c_X8_compile (l : Launch) (D : DT) (o : Option Nat) (h : AH) (r : Int32 × AH) (hf : f_X8_compile o h = some r) : CM l D yX8_compile cX8_compile 2 (some .int) 104 6084 0 0 [.inr (.inr o)] h (some (.int r.1)) r.2 := by
  refine CM.of (by decide) (Nat.le_of_ble_eq_true rfl) (fun X hl C hD hX hnm E => ?_)
  subst hl
  subst hD
  have C : CX X RX8 cX8_compile 2 := C
  show WW X h 0 0 0 [some (rB (xD X).1 o), none] []
  unfold f_X8_compile at hf
  refine s_aload_n C dX8_compile_0 rfl ?_
  refine s_callV (rvf := fun _ => none) (st := []) (fr := 11) (lo := 271) (mc := 0) (ms := 0) C [8] wc_X8_splitIntoTokens wml_X8_38 wim_X8_splitIntoTokens wsl_8_X8_splitIntoTokens dX8_compile_1 (As := []) rfl hf (fun x h' hF => c_X8_splitIntoTokens _ _ _ _ (x, h') hF) rfl (Nat.le_of_ble_eq_true rfl) (room_ok hX (Nat.le_of_ble_eq_true rfl) (Nat.le_of_ble_eq_true rfl)) (cell_ok hX (Nat.le_of_ble_eq_true rfl) (Nat.le_of_ble_eq_true rfl)) (fun _ h1 hf => ?_)
  refine s_aload_n C dX8_compile_4 rfl ?_
  refine s_iconst C dX8_compile_5 (v := (0 : Int32)) (by decide) ?_
  refine s_putI C fl_X8_29 (by decide) dX8_compile_6 hf (fun h2 hf => ?_)
  refine s_aload_n C dX8_compile_9 rfl ?_
  refine s_iconst C dX8_compile_10 (v := (-1 : Int32)) (by decide) ?_
  refine s_putI C fl_X8_41 (by decide) dX8_compile_11 hf (fun h3 hf => ?_)
  refine s_aload_n C dX8_compile_14 rfl ?_
  refine s_iconst C dX8_compile_15 (v := (0 : Int32)) (by decide) ?_
  refine s_putI C fl_X8_44 (by decide) dX8_compile_16 hf (fun h4 hf => ?_)
  refine s_aload_n C dX8_compile_19 rfl ?_
  refine s_aload_n C dX8_compile_20 rfl ?_
  refine s_getR C fl_X8_13 dX8_compile_21 hf (fun v5 hf => ?_)
  refine s_iconst C dX8_compile_24 (v := (0 : Int32)) (by decide) ?_
  refine s_iaload C dX8_compile_25 hf (fun v6 hf => ?_)
  refine s_putI C fl_X8_47 (by decide) dX8_compile_26 hf (fun h7 hf => ?_)
  refine s_aload_n C dX8_compile_29 rfl ?_
  refine s_callV (rvf := fun _ => none) (st := []) (fr := 103) (lo := 6063) (mc := 0) (ms := 0) C [8] wc_X8_readLine wml_X8_50 wim_X8_readLine wsl_8_X8_readLine dX8_compile_30 (As := []) rfl hf (fun x h' hF => c_X8_readLine _ _ _ _ (x, h') hF) rfl (Nat.le_of_ble_eq_true rfl) (room_ok hX (Nat.le_of_ble_eq_true rfl) (Nat.le_of_ble_eq_true rfl)) (cell_ok hX (Nat.le_of_ble_eq_true rfl) (Nat.le_of_ble_eq_true rfl)) (fun _ h8 hf => ?_)
  refine s_iconst C dX8_compile_33 (v := (0 : Int32)) (by decide) ?_
  refine s_istore_n C dX8_compile_34 (by decide) (nc_r rfl) (lv' := [some (rB (xD X).1 o), some (.int (0 : Int32))]) rfl ?_
  refine s_lp2 hf (fun G35 z35 q35 hf => ?_)
  have k35 : ∀ (n : Nat) (x9 : Int32) (h10 : AH), G35 n x9 h10 = some r → WW X h10 0 0 35 [some (rB (xD X).1 o), some (.int x9)] [] := by
    intro n
    induction n with
    | zero =>
      intro x9 h10 hf
      rw [z35] at hf
      cases hf
    | succ n ih35 =>
      intro x9 h10 hf
      have hf := (q35 n x9 h10).symm.trans hf
      refine s_iload_n C dX8_compile_35 rfl ?_
      refine s_sipush C dX8_compile_36 (v := (160 : Int32)) (by decide) ?_
      refine s_jn hf (fun j72 e72 hf => ?_)
      have k72 : j72  = some r → WW X h10 0 0 72 [some (rB (xD X).1 o), none] [] := by
        intro  hf
        rw [e72] at hf
        refine s_aload_n C dX8_compile_72 rfl ?_
        refine s_getI C fl_X8_47 dX8_compile_73 hf (fun v11 hf => ?_)
        refine s_jn hf (fun j83 e83 hf => ?_)
        have k83 : ∀ (h12 : AH), j83 h12 = some r → WW X h12 0 0 83 [some (rB (xD X).1 o), none] [] := by
          intro h12 hf
          rw [e83] at hf
          refine s_aload_n C dX8_compile_83 rfl ?_
          refine s_getI C fl_X8_41 dX8_compile_84 hf (fun v13 hf => ?_)
          exact s_ireturn C E dX8_compile_87 hf (Nat.le_of_ble_eq_true rfl) (Nat.le_of_ble_eq_true rfl)
        refine s_if_eq (tgt := 83) C dX8_compile_76 (by decide) hf (fun hf => ?_) (fun hf => ?_)
        · exact k83 _ hf
        · refine s_aload_n C dX8_compile_79 rfl ?_
          refine s_callV (rvf := fun _ => none) (st := []) (fr := 0) (lo := 0) (mc := 0) (ms := 0) C [8] wc_X8_blame wml_X8_56 wim_X8_blame wsl_8_X8_blame dX8_compile_80 (As := []) rfl hf (fun x h' hF => c_X8_blame _ _ _ _ (x, h') hF) rfl (Nat.le_of_ble_eq_true rfl) (room_ok hX (Nat.le_of_ble_eq_true rfl) (Nat.le_of_ble_eq_true rfl)) (cell_ok hX (Nat.le_of_ble_eq_true rfl) (Nat.le_of_ble_eq_true rfl)) (fun _ h14 hf => ?_)
          exact k83 _ hf
      refine s_icmp_ge (tgt := 72) C dX8_compile_39 (by decide) hf (fun hf => ?_) (fun hf => ?_)
      · refine s_weak (lv' := [some (rB (xD X).1 o), none]) ⟨rfl, trivial⟩ ?_
        exact k72 hf
      · refine s_aload_n C dX8_compile_42 rfl ?_
        refine s_getI C fl_X8_41 dX8_compile_43 hf (fun v15 hf => ?_)
        refine s_if_ge (tgt := 72) C dX8_compile_46 (by decide) hf (fun hf => ?_) (fun hf => ?_)
        · refine s_weak (lv' := [some (rB (xD X).1 o), none]) ⟨rfl, trivial⟩ ?_
          exact k72 hf
        · refine s_aload_n C dX8_compile_49 rfl ?_
          refine s_getI C fl_X8_47 dX8_compile_50 hf (fun v16 hf => ?_)
          refine s_bipush C dX8_compile_53 (v := (59 : Int32)) (by decide) ?_
          refine s_icmp_ne (tgt := 72) C dX8_compile_55 (by decide) hf (fun hf => ?_) (fun hf => ?_)
          · refine s_weak (lv' := [some (rB (xD X).1 o), none]) ⟨rfl, trivial⟩ ?_
            exact k72 hf
          · refine s_aload_n C dX8_compile_58 rfl ?_
            refine s_callV (rvf := fun _ => none) (st := []) (fr := 0) (lo := 0) (mc := 0) (ms := 0) C [8] wc_X8_advance wml_X8_53 wim_X8_advance wsl_8_X8_advance dX8_compile_59 (As := []) rfl hf (fun x h' hF => c_X8_advance _ _ _ _ (x, h') hF) rfl (Nat.le_of_ble_eq_true rfl) (room_ok hX (Nat.le_of_ble_eq_true rfl) (Nat.le_of_ble_eq_true rfl)) (cell_ok hX (Nat.le_of_ble_eq_true rfl) (Nat.le_of_ble_eq_true rfl)) (fun _ h17 hf => ?_)
            refine s_aload_n C dX8_compile_62 rfl ?_
            refine s_callV (rvf := fun _ => none) (st := []) (fr := 103) (lo := 6063) (mc := 0) (ms := 0) C [8] wc_X8_readLine wml_X8_50 wim_X8_readLine wsl_8_X8_readLine dX8_compile_63 (As := []) rfl hf (fun x h' hF => c_X8_readLine _ _ _ _ (x, h') hF) rfl (Nat.le_of_ble_eq_true rfl) (room_ok hX (Nat.le_of_ble_eq_true rfl) (Nat.le_of_ble_eq_true rfl)) (cell_ok hX (Nat.le_of_ble_eq_true rfl) (Nat.le_of_ble_eq_true rfl)) (fun _ h18 hf => ?_)
            refine s_iinc C dX8_compile_66 (v := (x9 + 1)) rfl rfl (by decide) (nc_r rfl) (lv' := [some (rB (xD X).1 o), some (.int (x9 + 1))]) rfl ?_
            refine s_goto (tgt := 35) C dX8_compile_69 (by decide) ?_
            exact ih35 _ _ hf
  exact k35 lpN _ _ hf
/-- HillBoxes$Tape.copyCode([II)I -/
noncomputable def f_X8_copyCode (o : Option Nat) (a1 : Option Nat) (a2 : Int32) (h : AH) : Option (Int32 × AH) :=
  jn (
    some ((0 : Int32), h)) fun j15 =>
  if a2 < 0 then
    j15
  else
    aN h 20 a1 fun v1 =>
    fI h [8] o 10 fun v2 =>
    if a2 ≤ (v1 - v2) then
      fR h [8] o 9 fun v3 =>
      fI h [8] o 10 fun v4 =>
      cpI h v3 (0 : Int32) a1 a2 v4 fun h5 =>
      fI h5 [8] o 10 fun v6 =>
      some (v6, h5)
    else
      j15
set_option maxRecDepth 100000 in
set_option maxHeartbeats 4000000 in
theorem c_X8_copyCode (l : Launch) (D : DT) (o : Option Nat) (a1 : Option Nat) (a2 : Int32) (h : AH) (r : Int32 × AH) (hf : f_X8_copyCode o a1 a2 h = some r) : CM l D yX8_copyCode cX8_copyCode 3 (some .int) 1 26 0 0 [.inr (.inr o), .inr (.inr a1), .inl a2] h (some (.int r.1)) r.2 := by
  refine CM.of (by decide) (Nat.le_of_ble_eq_true rfl) (fun X hl C hD hX hnm E => ?_)
  subst hl
  subst hD
  have C : CX X RX8 cX8_copyCode 3 := C
  show WW X h 0 0 0 [some (rB (xD X).1 o), some (rB (xD X).1 a1), some (.int a2)] []
  unfold f_X8_copyCode at hf
  refine s_iload_n C dX8_copyCode_0 rfl ?_
  refine s_jn hf (fun j15 e15 hf => ?_)
  have k15 : j15  = some r → WW X h 0 0 15 [none, none, none] [] := by
    intro  hf
    rw [e15] at hf
    refine s_iconst C dX8_copyCode_15 (v := (0 : Int32)) (by decide) ?_
    exact s_ireturn C E dX8_copyCode_16 hf (Nat.le_of_ble_eq_true rfl) (Nat.le_of_ble_eq_true rfl)
  refine s_if_lt (tgt := 15) C dX8_copyCode_1 (by decide) hf (fun hf => ?_) (fun hf => ?_)
  · refine s_weak (lv' := [none, none, none]) trivial ?_
    exact k15 hf
  · refine s_iload_n C dX8_copyCode_4 rfl ?_
    refine s_aload_n C dX8_copyCode_5 rfl ?_
    refine s_alen C dX8_copyCode_6 (t := 20) (by decide) hf (fun v1 hf => ?_)
    refine s_aload_n C dX8_copyCode_7 rfl ?_
    refine s_getI C fl_X8_29 dX8_copyCode_8 hf (fun v2 hf => ?_)
    refine s_isub C dX8_copyCode_11 ?_
    refine s_icmp_le (tgt := 17) C dX8_copyCode_12 (by decide) hf (fun hf => ?_) (fun hf => ?_)
    · refine s_aload_n C dX8_copyCode_17 rfl ?_
      refine s_getR C fl_X8_22 dX8_copyCode_18 hf (fun v3 hf => ?_)
      refine s_iconst C dX8_copyCode_21 (v := (0 : Int32)) (by decide) ?_
      refine s_aload_n C dX8_copyCode_22 rfl ?_
      refine s_iload_n C dX8_copyCode_23 rfl ?_
      refine s_aload_n C dX8_copyCode_24 rfl ?_
      refine s_getI C fl_X8_29 dX8_copyCode_25 hf (fun v4 hf => ?_)
      refine s_copyI C wml_X8_32 wnat wst_cpy wini_sys dX8_copyCode_28 hf (Nat.le_of_ble_eq_true rfl) (room_n hX (Nat.le_of_ble_eq_true rfl) (Nat.le_of_ble_eq_true rfl)) (fun h5 hf => ?_)
      refine s_aload_n C dX8_copyCode_31 rfl ?_
      refine s_getI C fl_X8_29 dX8_copyCode_32 hf (fun v6 hf => ?_)
      exact s_ireturn C E dX8_copyCode_35 hf (Nat.le_of_ble_eq_true rfl) (Nat.le_of_ble_eq_true rfl)
    · refine s_weak (lv' := [none, none, none]) trivial ?_
      exact k15 hf
/-- HillBoxes$Rules.make(II)I -/
noncomputable def f_X6_make (o : Option Nat) (a1 : Int32) (a2 : Int32) (h : AH) : Option (Int32 × AH) :=
  fR h [6] o 0 fun v1 =>
  rO h [8] v1 <| cl (f_X8_compile v1 h) fun v3 h2 =>
  fR h2 [6] o 0 fun v4 =>
  pI h2 [8] v4 0 (0 : Int32) fun h5 =>
  if v3 < 0 then
    fR h5 [6] o 4 fun v6 =>
    fI h5 [6] o 1 fun v7 =>
    bI h5 20 v6 v7 a1 fun h8 =>
    fR h8 [6] o 5 fun v9 =>
    fI h8 [6] o 1 fun v10 =>
    fR h8 [6] o 3 fun v11 =>
    fI h8 [3] v11 0 fun v12 =>
    bI h8 20 v9 v10 v12 fun h13 =>
    fR h13 [6] o 6 fun v14 =>
    fI h13 [6] o 1 fun v15 =>
    bI h13 20 v14 v15 a2 fun h16 =>
    fR h16 [6] o 8 fun v17 =>
    fI h16 [6] o 1 fun v18 =>
    fR h16 [6] o 0 fun v19 =>
    fR h16 [6] o 7 fun v20 =>
    fI h16 [6] o 1 fun v21 =>
    rO h16 [8] v19 <| cl (f_X8_copyCode v19 v20 (v21 * (161 : Int32)) h16) fun v23 h22 =>
    bI h22 20 v17 v18 v23 fun h24 =>
    fI h24 [6] o 1 fun v25 =>
    pI h24 [6] o 1 (v25 + (1 : Int32)) fun h26 =>
    fI h26 [6] o 1 fun v27 =>
    some ((v27 - (1 : Int32)), h26)
  else
    some (((-100 : Int32) - v3), h5)
set_option maxRecDepth 100000 in
set_option maxHeartbeats 4000000 in
theorem c_X6_make (l : Launch) (D : DT) (o : Option Nat) (a1 : Int32) (a2 : Int32) (h : AH) (r : Int32 × AH) (hf : f_X6_make o a1 a2 h = some r) : CM l D yX6_make cX6_make 4 (some .int) 105 6105 0 0 [.inr (.inr o), .inl a1, .inl a2] h (some (.int r.1)) r.2 := by
  refine CM.of (by decide) (Nat.le_of_ble_eq_true rfl) (fun X hl C hD hX hnm E => ?_)
  subst hl
  subst hD
  have C : CX X RX6 cX6_make 4 := C
  show WW X h 0 0 0 [some (rB (xD X).1 o), some (.int a1), some (.int a2), none] []
  unfold f_X6_make at hf
  refine s_aload_n C dX6_make_0 rfl ?_
  refine s_getR C fl_X6_12 dX6_make_1 hf (fun v1 hf => ?_)
  refine s_callV (rvf := fun x => some (.int x)) (st := []) (fr := 104) (lo := 6084) (mc := 0) (ms := 0) C [8] wc_X8_compile wml_X6_48 wim_X8_compile wsl_8_X8_compile dX6_make_4 (As := []) rfl hf (fun x h' hF => c_X8_compile _ _ _ _ (x, h') hF) rfl (Nat.le_of_ble_eq_true rfl) (room_ok hX (Nat.le_of_ble_eq_true rfl) (Nat.le_of_ble_eq_true rfl)) (cell_ok hX (Nat.le_of_ble_eq_true rfl) (Nat.le_of_ble_eq_true rfl)) (fun v3 h2 hf => ?_)
  refine s_istore_n C dX6_make_7 (by decide) (nc_i rfl) (lv' := [some (rB (xD X).1 o), some (.int a1), some (.int a2), some (.int v3)]) rfl ?_
  refine s_aload_n C dX6_make_8 rfl ?_
  refine s_getR C fl_X6_12 dX6_make_9 hf (fun v4 hf => ?_)
  refine s_iconst C dX6_make_12 (v := (0 : Int32)) (by decide) ?_
  refine s_putI C fl_X6_52 (by decide) dX6_make_13 hf (fun h5 hf => ?_)
  refine s_iload_n C dX6_make_16 rfl ?_
  refine s_if_lt (tgt := 25) C dX6_make_17 (by decide) hf (fun hf => ?_) (fun hf => ?_)
  · refine s_aload_n C dX6_make_25 rfl ?_
    refine s_getR C fl_X6_22 dX6_make_26 hf (fun v6 hf => ?_)
    refine s_aload_n C dX6_make_29 rfl ?_
    refine s_getI C fl_X6_45 dX6_make_30 hf (fun v7 hf => ?_)
    refine s_iload_n C dX6_make_33 rfl ?_
    refine s_iastore C dX6_make_34 hf (fun h8 hf => ?_)
    refine s_aload_n C dX6_make_35 rfl ?_
    refine s_getR C fl_X6_26 dX6_make_36 hf (fun v9 hf => ?_)
    refine s_aload_n C dX6_make_39 rfl ?_
    refine s_getI C fl_X6_45 dX6_make_40 hf (fun v10 hf => ?_)
    refine s_aload_n C dX6_make_43 rfl ?_
    refine s_getR C fl_X6_41 dX6_make_44 hf (fun v11 hf => ?_)
    refine s_getI C fl_X6_55 dX6_make_47 hf (fun v12 hf => ?_)
    refine s_iastore C dX6_make_50 hf (fun h13 hf => ?_)
    refine s_aload_n C dX6_make_51 rfl ?_
    refine s_getR C fl_X6_29 dX6_make_52 hf (fun v14 hf => ?_)
    refine s_aload_n C dX6_make_55 rfl ?_
    refine s_getI C fl_X6_45 dX6_make_56 hf (fun v15 hf => ?_)
    refine s_iload_n C dX6_make_59 rfl ?_
    refine s_iastore C dX6_make_60 hf (fun h16 hf => ?_)
    refine s_aload_n C dX6_make_61 rfl ?_
    refine s_getR C fl_X6_35 dX6_make_62 hf (fun v17 hf => ?_)
    refine s_aload_n C dX6_make_65 rfl ?_
    refine s_getI C fl_X6_45 dX6_make_66 hf (fun v18 hf => ?_)
    refine s_aload_n C dX6_make_69 rfl ?_
    refine s_getR C fl_X6_12 dX6_make_70 hf (fun v19 hf => ?_)
    refine s_aload_n C dX6_make_73 rfl ?_
    refine s_getR C fl_X6_32 dX6_make_74 hf (fun v20 hf => ?_)
    refine s_aload_n C dX6_make_77 rfl ?_
    refine s_getI C fl_X6_45 dX6_make_78 hf (fun v21 hf => ?_)
    refine s_sipush C dX6_make_81 (v := (161 : Int32)) (by decide) ?_
    refine s_imul C dX6_make_84 ?_
    refine s_callV (rvf := fun x => some (.int x)) (st := [.int v18, rB (xD X).1 v17]) (fr := 1) (lo := 26) (mc := 0) (ms := 0) C [8] wc_X8_copyCode wml_X6_60 wim_X8_copyCode wsl_8_X8_copyCode dX6_make_85 (As := [.inr (.inr v20), .inl (v21 * (161 : Int32))]) rfl hf (fun x h' hF => c_X8_copyCode _ _ _ _ _ _ (x, h') hF) rfl (Nat.le_of_ble_eq_true rfl) (room_ok hX (Nat.le_of_ble_eq_true rfl) (Nat.le_of_ble_eq_true rfl)) (cell_ok hX (Nat.le_of_ble_eq_true rfl) (Nat.le_of_ble_eq_true rfl)) (fun v23 h22 hf => ?_)
    refine s_iastore C dX6_make_88 hf (fun h24 hf => ?_)
    refine s_aload_n C dX6_make_89 rfl ?_
    refine s_dup C dX6_make_90 c1_r ?_
    refine s_getI C fl_X6_45 dX6_make_91 hf (fun v25 hf => ?_)
    refine s_iconst C dX6_make_94 (v := (1 : Int32)) (by decide) ?_
    refine s_iadd C dX6_make_95 ?_
    refine s_putI C fl_X6_45 (by decide) dX6_make_96 hf (fun h26 hf => ?_)
    refine s_aload_n C dX6_make_99 rfl ?_
    refine s_getI C fl_X6_45 dX6_make_100 hf (fun v27 hf => ?_)
    refine s_iconst C dX6_make_103 (v := (1 : Int32)) (by decide) ?_
    refine s_isub C dX6_make_104 ?_
    exact s_ireturn C E dX6_make_105 hf (Nat.le_of_ble_eq_true rfl) (Nat.le_of_ble_eq_true rfl)
  · refine s_bipush C dX6_make_20 (v := (-100 : Int32)) (by decide) ?_
    refine s_iload_n C dX6_make_22 rfl ?_
    refine s_isub C dX6_make_23 ?_
    exact s_ireturn C E dX6_make_24 hf (Nat.le_of_ble_eq_true rfl) (Nat.le_of_ble_eq_true rfl)
/-- HillBoxes.rule(II)I -/
noncomputable def f_X11_rule (o : Option Nat) (a1 : Int32) (a2 : Int32) (h : AH) : Option (Int32 × AH) :=
  cl (f_X11_isUse a1 h) fun v2 h1 =>
  jn (fun (h3 : AH) =>
    some ((-1 : Int32), h3)) fun j14 =>
  if v2 = 0 then
    j14 h1
  else
    cl (f_X11_isDay a2 h1) fun v5 h4 =>
    if v5 = 0 then
      j14 h4
    else
      fR h4 [11] o 1 fun v6 =>
      rO h4 [6] v6 <| cl (f_X6_isFull v6 h4) fun v8 h7 =>
      if v8 = 0 then
        fR h7 [11] o 1 fun v9 =>
        rO h7 [6] v9 <| cl (f_X6_make v9 a1 a2 h7) fun v11 h10 =>
        some (v11, h10)
      else
        some ((-3 : Int32), h7)
set_option maxRecDepth 100000 in
set_option maxHeartbeats 4000000 in
theorem c_X11_rule (l : Launch) (D : DT) (o : Option Nat) (a1 : Int32) (a2 : Int32) (h : AH) (r : Int32 × AH) (hf : f_X11_rule o a1 a2 h = some r) : CM l D yX11_rule cX11_rule 3 (some .int) 106 6128 0 0 [.inr (.inr o), .inl a1, .inl a2] h (some (.int r.1)) r.2 := by
  refine CM.of (by decide) (Nat.le_of_ble_eq_true rfl) (fun X hl C hD hX hnm E => ?_)
  subst hl
  subst hD
  have C : CX X RX11 cX11_rule 3 := C
  show WW X h 0 0 0 [some (rB (xD X).1 o), some (.int a1), some (.int a2)] []
  unfold f_X11_rule at hf
  refine s_iload_n C dX11_rule_0 rfl ?_
  refine s_callS (rvf := fun x => some (.int x)) (st := []) (fr := 0) (lo := 0) (mc := 0) (ms := 0) C wc_X11_isUse wml_X11_194 wst_X11_isUse dX11_rule_1 (As := [.inl a1]) rfl hf (fun x h' hF => c_X11_isUse _ _ _ _ (x, h') hF) rfl (Nat.le_of_ble_eq_true rfl) (room_ok hX (Nat.le_of_ble_eq_true rfl) (Nat.le_of_ble_eq_true rfl)) (cell_ok hX (Nat.le_of_ble_eq_true rfl) (Nat.le_of_ble_eq_true rfl)) (fun v2 h1 hf => ?_)
  refine s_jn hf (fun j14 e14 hf => ?_)
  have k14 : ∀ (h3 : AH), j14 h3 = some r → WW X h3 0 0 14 [none, none, none] [] := by
    intro h3 hf
    rw [e14] at hf
    refine s_iconst C dX11_rule_14 (v := (-1 : Int32)) (by decide) ?_
    exact s_ireturn C E dX11_rule_15 hf (Nat.le_of_ble_eq_true rfl) (Nat.le_of_ble_eq_true rfl)
  refine s_if_eq (tgt := 14) C dX11_rule_4 (by decide) hf (fun hf => ?_) (fun hf => ?_)
  · refine s_weak (lv' := [none, none, none]) trivial ?_
    exact k14 _ hf
  · refine s_iload_n C dX11_rule_7 rfl ?_
    refine s_callS (rvf := fun x => some (.int x)) (st := []) (fr := 0) (lo := 0) (mc := 0) (ms := 0) C wc_X11_isDay wml_X11_173 wst_X11_isDay dX11_rule_8 (As := [.inl a2]) rfl hf (fun x h' hF => c_X11_isDay _ _ _ _ (x, h') hF) rfl (Nat.le_of_ble_eq_true rfl) (room_ok hX (Nat.le_of_ble_eq_true rfl) (Nat.le_of_ble_eq_true rfl)) (cell_ok hX (Nat.le_of_ble_eq_true rfl) (Nat.le_of_ble_eq_true rfl)) (fun v5 h4 hf => ?_)
    refine s_if_ne (tgt := 16) C dX11_rule_11 (by decide) hf (fun hf => ?_) (fun hf => ?_)
    · refine s_aload_n C dX11_rule_16 rfl ?_
      refine s_getR C fl_X11_21 dX11_rule_17 hf (fun v6 hf => ?_)
      refine s_callV (rvf := fun x => some (.int x)) (st := []) (fr := 0) (lo := 0) (mc := 0) (ms := 0) C [6] wc_X6_isFull wml_X11_197 wim_X6_isFull wsl_6_X6_isFull dX11_rule_20 (As := []) rfl hf (fun x h' hF => c_X6_isFull _ _ _ _ (x, h') hF) rfl (Nat.le_of_ble_eq_true rfl) (room_ok hX (Nat.le_of_ble_eq_true rfl) (Nat.le_of_ble_eq_true rfl)) (cell_ok hX (Nat.le_of_ble_eq_true rfl) (Nat.le_of_ble_eq_true rfl)) (fun v8 h7 hf => ?_)
      refine s_if_eq (tgt := 29) C dX11_rule_23 (by decide) hf (fun hf => ?_) (fun hf => ?_)
      · refine s_aload_n C dX11_rule_29 rfl ?_
        refine s_getR C fl_X11_21 dX11_rule_30 hf (fun v9 hf => ?_)
        refine s_iload_n C dX11_rule_33 rfl ?_
        refine s_iload_n C dX11_rule_34 rfl ?_
        refine s_callV (rvf := fun x => some (.int x)) (st := []) (fr := 105) (lo := 6105) (mc := 0) (ms := 0) C [6] wc_X6_make wml_X11_198 wim_X6_make wsl_6_X6_make dX11_rule_35 (As := [.inl a1, .inl a2]) rfl hf (fun x h' hF => c_X6_make _ _ _ _ _ _ (x, h') hF) rfl (Nat.le_of_ble_eq_true rfl) (room_ok hX (Nat.le_of_ble_eq_true rfl) (Nat.le_of_ble_eq_true rfl)) (cell_ok hX (Nat.le_of_ble_eq_true rfl) (Nat.le_of_ble_eq_true rfl)) (fun v11 h10 hf => ?_)
        exact s_ireturn C E dX11_rule_38 hf (Nat.le_of_ble_eq_true rfl) (Nat.le_of_ble_eq_true rfl)
      · refine s_bipush C dX11_rule_26 (v := (-3 : Int32)) (by decide) ?_
        exact s_ireturn C E dX11_rule_28 hf (Nat.le_of_ble_eq_true rfl) (Nat.le_of_ble_eq_true rfl)
    · refine s_weak (lv' := [none, none, none]) trivial ?_
      exact k14 _ hf
/-- HillBoxes.step(I)I -/
noncomputable def f_X11_step (o : Option Nat) (a1 : Int32) (h : AH) : Option (Int32 × AH) :=
  cl (f_X11_isCell a1 h) fun v2 h1 =>
  if v2 = 0 then
    some ((-1 : Int32), h1)
  else
    fR h1 [11] o 0 fun v3 =>
    fI h1 [3] v3 5 fun v4 =>
    if v4 < (4 : Int32) then
      fR h1 [11] o 0 fun v5 =>
      fR h1 [3] v5 4 fun v6 =>
      fR h1 [11] o 0 fun v7 =>
      fI h1 [3] v7 5 fun v8 =>
      bI h1 20 v6 v8 a1 fun h9 =>
      fR h9 [11] o 0 fun v10 =>
      fI h9 [3] v10 5 fun v11 =>
      pI h9 [3] v10 5 (v11 + (1 : Int32)) fun h12 =>
      fR h12 [11] o 0 fun v13 =>
      fI h12 [3] v13 5 fun v14 =>
      some (v14, h12)
    else
      some ((-3 : Int32), h1)
set_option maxRecDepth 100000 in
set_option maxHeartbeats 4000000 in
theorem c_X11_step (l : Launch) (D : DT) (o : Option Nat) (a1 : Int32) (h : AH) (r : Int32 × AH) (hf : f_X11_step o a1 h = some r) : CM l D yX11_step cX11_step 2 (some .int) 1 20 0 0 [.inr (.inr o), .inl a1] h (some (.int r.1)) r.2 := by
  refine CM.of (by decide) (Nat.le_of_ble_eq_true rfl) (fun X hl C hD hX hnm E => ?_)
  subst hl
  subst hD
  have C : CX X RX11 cX11_step 2 := C
  show WW X h 0 0 0 [some (rB (xD X).1 o), some (.int a1)] []
  unfold f_X11_step at hf
  refine s_iload_n C dX11_step_0 rfl ?_
  refine s_callS (rvf := fun x => some (.int x)) (st := []) (fr := 0) (lo := 0) (mc := 0) (ms := 0) C wc_X11_isCell wml_X11_56 wst_X11_isCell dX11_step_1 (As := [.inl a1]) rfl hf (fun x h' hF => c_X11_isCell _ _ _ _ (x, h') hF) rfl (Nat.le_of_ble_eq_true rfl) (room_ok hX (Nat.le_of_ble_eq_true rfl) (Nat.le_of_ble_eq_true rfl)) (cell_ok hX (Nat.le_of_ble_eq_true rfl) (Nat.le_of_ble_eq_true rfl)) (fun v2 h1 hf => ?_)
  refine s_if_ne (tgt := 9) C dX11_step_4 (by decide) hf (fun hf => ?_) (fun hf => ?_)
  · refine s_aload_n C dX11_step_9 rfl ?_
    refine s_getR C fl_X11_10 dX11_step_10 hf (fun v3 hf => ?_)
    refine s_getI C fl_X11_100 dX11_step_13 hf (fun v4 hf => ?_)
    refine s_iconst C dX11_step_16 (v := (4 : Int32)) (by decide) ?_
    refine s_icmp_lt (tgt := 23) C dX11_step_17 (by decide) hf (fun hf => ?_) (fun hf => ?_)
    · refine s_aload_n C dX11_step_23 rfl ?_
      refine s_getR C fl_X11_10 dX11_step_24 hf (fun v5 hf => ?_)
      refine s_getR C fl_X11_103 dX11_step_27 hf (fun v6 hf => ?_)
      refine s_aload_n C dX11_step_30 rfl ?_
      refine s_getR C fl_X11_10 dX11_step_31 hf (fun v7 hf => ?_)
      refine s_getI C fl_X11_100 dX11_step_34 hf (fun v8 hf => ?_)
      refine s_iload_n C dX11_step_37 rfl ?_
      refine s_iastore C dX11_step_38 hf (fun h9 hf => ?_)
      refine s_aload_n C dX11_step_39 rfl ?_
      refine s_getR C fl_X11_10 dX11_step_40 hf (fun v10 hf => ?_)
      refine s_dup C dX11_step_43 c1_r ?_
      refine s_getI C fl_X11_100 dX11_step_44 hf (fun v11 hf => ?_)
      refine s_iconst C dX11_step_47 (v := (1 : Int32)) (by decide) ?_
      refine s_iadd C dX11_step_48 ?_
      refine s_putI C fl_X11_100 (by decide) dX11_step_49 hf (fun h12 hf => ?_)
      refine s_aload_n C dX11_step_52 rfl ?_
      refine s_getR C fl_X11_10 dX11_step_53 hf (fun v13 hf => ?_)
      refine s_getI C fl_X11_100 dX11_step_56 hf (fun v14 hf => ?_)
      exact s_ireturn C E dX11_step_59 hf (Nat.le_of_ble_eq_true rfl) (Nat.le_of_ble_eq_true rfl)
    · refine s_bipush C dX11_step_20 (v := (-3 : Int32)) (by decide) ?_
      exact s_ireturn C E dX11_step_22 hf (Nat.le_of_ble_eq_true rfl) (Nat.le_of_ble_eq_true rfl)
  · refine s_iconst C dX11_step_7 (v := (-1 : Int32)) (by decide) ?_
    exact s_ireturn C E dX11_step_8 hf (Nat.le_of_ble_eq_true rfl) (Nat.le_of_ble_eq_true rfl)
/-- HillBoxes.why(IIII)I -/
noncomputable def f_X11_why (o : Option Nat) (a1 : Int32) (a2 : Int32) (a3 : Int32) (a4 : Int32) (h : AH) : Option (Int32 × AH) :=
  fR h [11] o 0 fun v1 =>
  rO h [3] v1 <| cl (f_X3_finderAt v1 a1 h) fun v3 h2 =>
  jn (fun (h4 : AH) =>
    some ((-1 : Int32), h4)) fun j35 =>
  if v3 = none then
    j35 h2
  else
    rO h2 [11] o <| cl (f_X11_mayBeAsked o a2 a3 h2) fun v6 h5 =>
    if v6 = 0 then
      j35 h5
    else
      if a4 < 0 then
        j35 h5
      else
        if a4 ≤ (1 : Int32) then
          fR h5 [11] o 1 fun v7 =>
          rO h5 [6] v7 <| cl (f_X6_whyNot v7 v3 a2 a3 h5) fun v9 h8 =>
          jn (fun (x10 : Int32) (h11 : AH) =>
            some (x10, h11)) fun j65 =>
          if a4 = 0 then
            cl (f_X11_asToldToTheAsker v9 h8) fun v13 h12 =>
            j65 v13 h12
          else
            j65 v9 h8
        else
          j35 h5
set_option maxRecDepth 100000 in
set_option maxHeartbeats 4000000 in
theorem c_X11_why (l : Launch) (D : DT) (o : Option Nat) (a1 : Int32) (a2 : Int32) (a3 : Int32) (a4 : Int32) (h : AH) (r : Int32 × AH) (hf : f_X11_why o a1 a2 a3 a4 h = some r) : CM l D yX11_why cX11_why 7 (some .int) 7 174 0 0 [.inr (.inr o), .inl a1, .inl a2, .inl a3, .inl a4] h (some (.int r.1)) r.2 := by
  refine CM.of (by decide) (Nat.le_of_ble_eq_true rfl) (fun X hl C hD hX hnm E => ?_)
  subst hl
  subst hD
  have C : CX X RX11 cX11_why 7 := C
  show WW X h 0 0 0 [some (rB (xD X).1 o), some (.int a1), some (.int a2), some (.int a3), some (.int a4), none, none] []
  unfold f_X11_why at hf
  refine s_aload_n C dX11_why_0 rfl ?_
  refine s_getR C fl_X11_10 dX11_why_1 hf (fun v1 hf => ?_)
  refine s_iload_n C dX11_why_4 rfl ?_
  refine s_callV (rvf := fun x => some (rB (xD X).1 x)) (st := []) (fr := 0) (lo := 0) (mc := 0) (ms := 0) C [3] wc_X3_finderAt wml_X11_90 wim_X3_finderAt wsl_3_X3_finderAt dX11_why_5 (As := [.inl a1]) rfl hf (fun x h' hF => c_X3_finderAt _ _ _ _ _ (x, h') hF) rfl (Nat.le_of_ble_eq_true rfl) (room_ok hX (Nat.le_of_ble_eq_true rfl) (Nat.le_of_ble_eq_true rfl)) (cell_ok hX (Nat.le_of_ble_eq_true rfl) (Nat.le_of_ble_eq_true rfl)) (fun v3 h2 hf => ?_)
  refine s_astore C dX11_why_8 (by decide) (nc_i rfl) (lv' := [some (rB (xD X).1 o), some (.int a1), some (.int a2), some (.int a3), some (.int a4), some (rB (xD X).1 v3), none]) rfl ?_
  refine s_aload C dX11_why_10 rfl ?_
  refine s_jn hf (fun j35 e35 hf => ?_)
  have k35 : ∀ (h4 : AH), j35 h4 = some r → WW X h4 0 0 35 [none, none, none, none, none, none, none] [] := by
    intro h4 hf
    rw [e35] at hf
    refine s_iconst C dX11_why_35 (v := (-1 : Int32)) (by decide) ?_
    exact s_ireturn C E dX11_why_36 hf (Nat.le_of_ble_eq_true rfl) (Nat.le_of_ble_eq_true rfl)
  refine s_ifnull (tgt := 35) C dX11_why_12 (by decide) hf (fun hf => ?_) (fun hf => ?_)
  · refine s_weak (lv' := [none, none, none, none, none, none, none]) trivial ?_
    exact k35 _ hf
  · refine s_aload_n C dX11_why_15 rfl ?_
    refine s_iload_n C dX11_why_16 rfl ?_
    refine s_iload_n C dX11_why_17 rfl ?_
    refine s_callV (rvf := fun x => some (.int x)) (st := []) (fr := 1) (lo := 20) (mc := 0) (ms := 0) C [11] wc_X11_mayBeAsked wml_X11_106 wim_X11_mayBeAsked wsl_11_X11_mayBeAsked dX11_why_18 (As := [.inl a2, .inl a3]) rfl hf (fun x h' hF => c_X11_mayBeAsked _ _ _ _ _ _ (x, h') hF) rfl (Nat.le_of_ble_eq_true rfl) (room_ok hX (Nat.le_of_ble_eq_true rfl) (Nat.le_of_ble_eq_true rfl)) (cell_ok hX (Nat.le_of_ble_eq_true rfl) (Nat.le_of_ble_eq_true rfl)) (fun v6 h5 hf => ?_)
    refine s_if_eq (tgt := 35) C dX11_why_21 (by decide) hf (fun hf => ?_) (fun hf => ?_)
    · refine s_weak (lv' := [none, none, none, none, none, none, none]) trivial ?_
      exact k35 _ hf
    · refine s_iload C dX11_why_24 rfl ?_
      refine s_if_lt (tgt := 35) C dX11_why_26 (by decide) hf (fun hf => ?_) (fun hf => ?_)
      · refine s_weak (lv' := [none, none, none, none, none, none, none]) trivial ?_
        exact k35 _ hf
      · refine s_iload C dX11_why_29 rfl ?_
        refine s_iconst C dX11_why_31 (v := (1 : Int32)) (by decide) ?_
        refine s_icmp_le (tgt := 37) C dX11_why_32 (by decide) hf (fun hf => ?_) (fun hf => ?_)
        · refine s_aload_n C dX11_why_37 rfl ?_
          refine s_getR C fl_X11_21 dX11_why_38 hf (fun v7 hf => ?_)
          refine s_aload C dX11_why_41 rfl ?_
          refine s_iload_n C dX11_why_43 rfl ?_
          refine s_iload_n C dX11_why_44 rfl ?_
          refine s_callV (rvf := fun x => some (.int x)) (st := []) (fr := 6) (lo := 148) (mc := 0) (ms := 0) C [6] wc_X6_whyNot wml_X11_110 wim_X6_whyNot wsl_6_X6_whyNot dX11_why_45 (As := [.inr (.inr v3), .inl a2, .inl a3]) rfl hf (fun x h' hF => c_X6_whyNot _ _ _ _ _ _ _ (x, h') hF) rfl (Nat.le_of_ble_eq_true rfl) (room_ok hX (Nat.le_of_ble_eq_true rfl) (Nat.le_of_ble_eq_true rfl)) (cell_ok hX (Nat.le_of_ble_eq_true rfl) (Nat.le_of_ble_eq_true rfl)) (fun v9 h8 hf => ?_)
          refine s_istore C dX11_why_48 (by decide) (nc_r rfl) (lv' := [some (rB (xD X).1 o), some (.int a1), some (.int a2), some (.int a3), some (.int a4), some (rB (xD X).1 v3), some (.int v9)]) rfl ?_
          refine s_iload C dX11_why_50 rfl ?_
          refine s_jn hf (fun j65 e65 hf => ?_)
          have k65 : ∀ (x10 : Int32) (h11 : AH), j65 x10 h11 = some r → WW X h11 0 0 65 [none, none, none, none, none, none, none] [.int x10] := by
            intro x10 h11 hf
            rw [e65] at hf
            exact s_ireturn C E dX11_why_65 hf (Nat.le_of_ble_eq_true rfl) (Nat.le_of_ble_eq_true rfl)
          refine s_if_ne (tgt := 63) C dX11_why_52 (by decide) hf (fun hf => ?_) (fun hf => ?_)
          · refine s_iload C dX11_why_63 rfl ?_
            refine s_weak (lv' := [none, none, none, none, none, none, none]) trivial ?_
            exact k65 _ _ hf
          · refine s_iload C dX11_why_55 rfl ?_
            refine s_callS (rvf := fun x => some (.int x)) (st := []) (fr := 0) (lo := 0) (mc := 0) (ms := 0) C wc_X11_asToldToTheAsker wml_X11_114 wst_X11_asToldToTheAsker dX11_why_57 (As := [.inl v9]) rfl hf (fun x h' hF => c_X11_asToldToTheAsker _ _ _ _ (x, h') hF) rfl (Nat.le_of_ble_eq_true rfl) (room_ok hX (Nat.le_of_ble_eq_true rfl) (Nat.le_of_ble_eq_true rfl)) (cell_ok hX (Nat.le_of_ble_eq_true rfl) (Nat.le_of_ble_eq_true rfl)) (fun v13 h12 hf => ?_)
            refine s_goto (tgt := 65) C dX11_why_60 (by decide) ?_
            refine s_weak (lv' := [none, none, none, none, none, none, none]) trivial ?_
            exact k65 _ _ hf
        · refine s_weak (lv' := [none, none, none, none, none, none, none]) trivial ?_
          exact k35 _ hf
