/-- HillBoxes$Hills.ownOf(I)I -/
noncomputable def f_X3_ownOf (o : Option Nat) (a1 : Int32) (h : AH) : Option (Int32 × AH) :=
  lp (fun _ _ _ => none) (fun (L4 : Int32 → Int32 → AH → Option (Int32 × AH)) (x1 : Int32) (x2 : Int32) (h3 : AH) =>
    fI h3 [3] o 3 fun v4 =>
    if v4 ≤ x2 then
      some (x1, h3)
    else
      rO h3 [3] o <| cl (f_X3_boxAt o x2 h3) fun v6 h5 =>
      jn (fun (x7 : Int32) =>
        L4 x7 (x2 + 1) h5) fun j44 =>
      if v6 = none then
        j44 x1
      else
        fI h5 [1] v6 8 fun v8 =>
        if v8 = a1 then
          fI h5 [1] v6 11 fun v9 =>
          if 0 ≤ v9 then
            j44 x1
          else
            j44 (x1 + 1)
        else
          j44 x1) lpN (0 : Int32) (0 : Int32) h
set_option maxRecDepth 100000 in
set_option maxHeartbeats 4000000 in
theorem c_X3_ownOf (l : Launch) (D : DT) (o : Option Nat) (a1 : Int32) (h : AH) (r : Int32 × AH) (hf : f_X3_ownOf o a1 h = some r) : CM l D yX3_ownOf cX3_ownOf 5 (some .int) 1 22 0 0 [.inr (.inr o), .inl a1] h (some (.int r.1)) r.2 := by
  refine CM.of (by decide) (Nat.le_of_ble_eq_true rfl) (fun X hl C hD hX hnm E => ?_)
  subst hl
  subst hD
  have C : CX X RX3 cX3_ownOf 5 := C
  show WW X h 0 0 0 [some (rB (xD X).1 o), some (.int a1), none, none, none] []
  unfold f_X3_ownOf at hf
  refine s_iconst C dX3_ownOf_0 (v := (0 : Int32)) (by decide) ?_
  refine s_istore_n C dX3_ownOf_1 (by decide) (nc_i rfl) (lv' := [some (rB (xD X).1 o), some (.int a1), some (.int (0 : Int32)), none, none]) rfl ?_
  refine s_iconst C dX3_ownOf_2 (v := (0 : Int32)) (by decide) ?_
  refine s_istore_n C dX3_ownOf_3 (by decide) (nc_i rfl) (lv' := [some (rB (xD X).1 o), some (.int a1), some (.int (0 : Int32)), some (.int (0 : Int32)), none]) rfl ?_
  refine s_lp3 hf (fun G4 z4 q4 hf => ?_)
  have k4 : ∀ (n : Nat) (x1 : Int32) (x2 : Int32) (h3 : AH), G4 n x1 x2 h3 = some r → WW X h3 0 0 4 [some (rB (xD X).1 o), some (.int a1), some (.int x1), some (.int x2), none] [] := by
    intro n
    induction n with
    | zero =>
      intro x1 x2 h3 hf
      rw [z4] at hf
      cases hf
    | succ n ih4 =>
      intro x1 x2 h3 hf
      have hf := (q4 n x1 x2 h3).symm.trans hf
      refine s_iload_n C dX3_ownOf_4 rfl ?_
      refine s_aload_n C dX3_ownOf_5 rfl ?_
      refine s_getI C fl_X3_39 dX3_ownOf_6 hf (fun v4 hf => ?_)
      refine s_icmp_ge (tgt := 50) C dX3_ownOf_9 (by decide) hf (fun hf => ?_) (fun hf => ?_)
      · refine s_iload_n C dX3_ownOf_50 rfl ?_
        exact s_ireturn C E dX3_ownOf_51 hf (Nat.le_of_ble_eq_true rfl) (Nat.le_of_ble_eq_true rfl)
      · refine s_aload_n C dX3_ownOf_12 rfl ?_
        refine s_iload_n C dX3_ownOf_13 rfl ?_
        refine s_callV (rvf := fun x => some (rB (xD X).1 x)) (st := []) (fr := 0) (lo := 0) (mc := 0) (ms := 0) C [3] wc_X3_boxAt wml_X3_52 wim_X3_boxAt wsl_3_X3_boxAt dX3_ownOf_14 (As := [.inl x2]) rfl hf (fun x h' hF => c_X3_boxAt _ _ _ _ _ (x, h') hF) rfl (Nat.le_of_ble_eq_true rfl) (room_ok hX (Nat.le_of_ble_eq_true rfl) (Nat.le_of_ble_eq_true rfl)) (cell_ok hX (Nat.le_of_ble_eq_true rfl) (Nat.le_of_ble_eq_true rfl)) (fun v6 h5 hf => ?_)
        refine s_astore C dX3_ownOf_17 (by decide) (nc_i rfl) (lv' := [some (rB (xD X).1 o), some (.int a1), some (.int x1), some (.int x2), some (rB (xD X).1 v6)]) rfl ?_
        refine s_aload C dX3_ownOf_19 rfl ?_
        refine s_jn hf (fun j44 e44 hf => ?_)
        have k44 : ∀ (x7 : Int32), j44 x7 = some r → WW X h5 0 0 44 [some (rB (xD X).1 o), some (.int a1), some (.int x7), some (.int x2), none] [] := by
          intro x7 hf
          rw [e44] at hf
          refine s_iinc C dX3_ownOf_44 (v := (x2 + 1)) rfl rfl (by decide) (nc_i rfl) (lv' := [some (rB (xD X).1 o), some (.int a1), some (.int x7), some (.int (x2 + 1)), none]) rfl ?_
          refine s_goto (tgt := 4) C dX3_ownOf_47 (by decide) ?_
          exact ih4 _ _ _ hf
        refine s_ifnull (tgt := 44) C dX3_ownOf_21 (by decide) hf (fun hf => ?_) (fun hf => ?_)
        · refine s_weak (lv' := [some (rB (xD X).1 o), some (.int a1), some (.int x1), some (.int x2), none]) ⟨rfl, ⟨rfl, ⟨rfl, ⟨rfl, trivial⟩⟩⟩⟩ ?_
          exact k44 _ hf
        · refine s_aload C dX3_ownOf_24 rfl ?_
          refine s_getI C fl_X3_56 dX3_ownOf_26 hf (fun v8 hf => ?_)
          refine s_iload_n C dX3_ownOf_29 rfl ?_
          refine s_icmp_ne (tgt := 44) C dX3_ownOf_30 (by decide) hf (fun hf => ?_) (fun hf => ?_)
          · refine s_weak (lv' := [some (rB (xD X).1 o), some (.int a1), some (.int x1), some (.int x2), none]) ⟨rfl, ⟨rfl, ⟨rfl, ⟨rfl, trivial⟩⟩⟩⟩ ?_
            exact k44 _ hf
          · refine s_aload C dX3_ownOf_33 rfl ?_
            refine s_getI C fl_X3_59 dX3_ownOf_35 hf (fun v9 hf => ?_)
            refine s_if_ge (tgt := 44) C dX3_ownOf_38 (by decide) hf (fun hf => ?_) (fun hf => ?_)
            · refine s_weak (lv' := [some (rB (xD X).1 o), some (.int a1), some (.int x1), some (.int x2), none]) ⟨rfl, ⟨rfl, ⟨rfl, ⟨rfl, trivial⟩⟩⟩⟩ ?_
              exact k44 _ hf
            · refine s_iinc C dX3_ownOf_41 (v := (x1 + 1)) rfl rfl (by decide) (nc_i rfl) (lv' := [some (rB (xD X).1 o), some (.int a1), some (.int (x1 + 1)), some (.int x2), some (rB (xD X).1 v6)]) rfl ?_
              refine s_weak (lv' := [some (rB (xD X).1 o), some (.int a1), some (.int (x1 + 1)), some (.int x2), none]) ⟨rfl, ⟨rfl, ⟨rfl, ⟨rfl, trivial⟩⟩⟩⟩ ?_
              exact k44 _ hf
  exact k4 lpN _ _ _ hf
/-- HillBoxes$Rules.numberOf(I)I -/
noncomputable def f_X6_numberOf (o : Option Nat) (a1 : Int32) (h : AH) : Option (Int32 × AH) :=
  fR h [6] o 11 fun v1 =>
  fR h [6] o 12 fun v2 =>
  if a1 = 0 then
    fI h [6] o 10 fun v3 =>
    some (v3, h)
  else
  if a1 = 1 then
    fI h [6] o 13 fun v4 =>
    some (v4, h)
  else
  if a1 = 2 then
    jn (fun (x5 : Int32) (h6 : AH) =>
      some (x5, h6)) fun j97 =>
    if v1 = none then
      j97 (0 : Int32) h
    else
      fR h [6] o 3 fun v7 =>
      fI h [2] v1 0 fun v8 =>
      rO h [3] v7 <| cl (f_X3_ownOf v7 v8 h) fun v10 h9 =>
      j97 v10 h9
  else
  if a1 = 3 then
    jn (fun (x11 : Int32) =>
      some (x11, h)) fun j115 =>
    if v1 = none then
      j115 (0 : Int32)
    else
      fI h [6] o 10 fun v12 =>
      fI h [2] v1 3 fun v13 =>
      j115 (v12 - v13)
  else
  if a1 = 4 then
    jn (fun (x14 : Int32) =>
      some (x14, h)) fun j133 =>
    if v2 = none then
      j133 (0 : Int32)
    else
      fI h [6] o 10 fun v15 =>
      fI h [1] v2 2 fun v16 =>
      j133 (v15 - v16)
  else
  if a1 = 5 then
    jn (fun (x17 : Int32) =>
      some (x17, h)) fun j146 =>
    if v2 = none then
      j146 (0 : Int32)
    else
      fI h [1] v2 12 fun v18 =>
      j146 v18
  else
  if a1 = 6 then
    jn (fun (x19 : Int32) =>
      some (x19, h)) fun j159 =>
    if v2 = none then
      j159 (0 : Int32)
    else
      fI h [1] v2 13 fun v20 =>
      j159 v20
  else
  if a1 = 7 then
    fI h [6] o 15 fun v21 =>
    some (v21, h)
  else
  if a1 = 8 then
    jn (fun (x22 : Int32) (h23 : AH) =>
      some (x22, h23)) fun j191 =>
    jn (
      j191 (0 : Int32) h) fun j176 =>
    if v1 = none then
      j176
    else
      fI h [6] o 14 fun v24 =>
      if 0 ≤ v24 then
        fI h [2] v1 2 fun v25 =>
        fI h [6] o 14 fun v26 =>
        cl (f_X11_far v25 v26 h) fun v28 h27 =>
        j191 v28 h27
      else
        j176
  else
  if a1 = 9 then
    jn (fun (x29 : Int32) (h30 : AH) =>
      some (x29, h30)) fun j216 =>
    jn (fun (h31 : AH) =>
      j216 (0 : Int32) h31) fun j215 =>
    if v1 = none then
      j215 h
    else
      if v2 = none then
        j215 h
      else
        fI h [2] v1 0 fun v32 =>
        rO h [1] v2 <| cl (f_X1_isOnPaper v2 v32 h) fun v34 h33 =>
        if v34 = 0 then
          j215 h33
        else
          j216 (1 : Int32) h33
  else
  if a1 = 10 then
    jn (fun (x35 : Int32) =>
      some (x35, h)) fun j241 =>
    jn (
      j241 (0 : Int32)) fun j240 =>
    if v1 = none then
      j240
    else
      if v2 = none then
        j240
      else
        fI h [1] v2 8 fun v36 =>
        fI h [2] v1 0 fun v37 =>
        if v36 = v37 then
          j241 (1 : Int32)
        else
          j240
  else
    some ((0 : Int32), h)
set_option maxRecDepth 100000 in
set_option maxHeartbeats 4000000 in
theorem c_X6_numberOf (l : Launch) (D : DT) (o : Option Nat) (a1 : Int32) (h : AH) (r : Int32 × AH) (hf : f_X6_numberOf o a1 h = some r) : CM l D yX6_numberOf cX6_numberOf 4 (some .int) 2 46 0 0 [.inr (.inr o), .inl a1] h (some (.int r.1)) r.2 := by
  refine CM.of (by decide) (Nat.le_of_ble_eq_true rfl) (fun X hl C hD hX hnm E => ?_)
  subst hl
  subst hD
  have C : CX X RX6 cX6_numberOf 4 := C
  show WW X h 0 0 0 [some (rB (xD X).1 o), some (.int a1), none, none] []
  unfold f_X6_numberOf at hf
  refine s_aload_n C dX6_numberOf_0 rfl ?_
  refine s_getR C fl_X6_67 dX6_numberOf_1 hf (fun v1 hf => ?_)
  refine s_astore_n C dX6_numberOf_4 (by decide) (nc_i rfl) (lv' := [some (rB (xD X).1 o), some (.int a1), some (rB (xD X).1 v1), none]) rfl ?_
  refine s_aload_n C dX6_numberOf_5 rfl ?_
  refine s_getR C fl_X6_71 dX6_numberOf_6 hf (fun v2 hf => ?_)
  refine s_astore_n C dX6_numberOf_9 (by decide) (nc_r rfl) (lv' := [some (rB (xD X).1 o), some (.int a1), some (rB (xD X).1 v1), some (rB (xD X).1 v2)]) rfl ?_
  refine s_iload_n C dX6_numberOf_10 rfl ?_
  refine s_ite hf (fun e hf => ?_) (fun n0 hf => ?_)
  · refine s_tsw1 (tgt := 68) C dX6_numberOf_11 e (by decide) (by decide) rfl (by decide) ?_
    refine s_aload_n C dX6_numberOf_68 rfl ?_
    refine s_getI C fl_X6_64 dX6_numberOf_69 hf (fun v3 hf => ?_)
    exact s_ireturn C E dX6_numberOf_72 hf (Nat.le_of_ble_eq_true rfl) (Nat.le_of_ble_eq_true rfl)
  refine s_ite hf (fun e hf => ?_) (fun n1 hf => ?_)
  · refine s_tsw1 (tgt := 73) C dX6_numberOf_11 e (by decide) (by decide) rfl (by decide) ?_
    refine s_aload_n C dX6_numberOf_73 rfl ?_
    refine s_getI C fl_X6_80 dX6_numberOf_74 hf (fun v4 hf => ?_)
    exact s_ireturn C E dX6_numberOf_77 hf (Nat.le_of_ble_eq_true rfl) (Nat.le_of_ble_eq_true rfl)
  refine s_ite hf (fun e hf => ?_) (fun n2 hf => ?_)
  · refine s_tsw1 (tgt := 78) C dX6_numberOf_11 e (by decide) (by decide) rfl (by decide) ?_
    refine s_aload_n C dX6_numberOf_78 rfl ?_
    refine s_jn hf (fun j97 e97 hf => ?_)
    have k97 : ∀ (x5 : Int32) (h6 : AH), j97 x5 h6 = some r → WW X h6 0 0 97 [none, none, none, none] [.int x5] := by
      intro x5 h6 hf
      rw [e97] at hf
      exact s_ireturn C E dX6_numberOf_97 hf (Nat.le_of_ble_eq_true rfl) (Nat.le_of_ble_eq_true rfl)
    refine s_ifnonnull (tgt := 86) C dX6_numberOf_79 (by decide) hf (fun hf => ?_) (fun hf => ?_)
    · refine s_aload_n C dX6_numberOf_86 rfl ?_
      refine s_getR C fl_X6_41 dX6_numberOf_87 hf (fun v7 hf => ?_)
      refine s_aload_n C dX6_numberOf_90 rfl ?_
      refine s_getI C fl_X6_186 dX6_numberOf_91 hf (fun v8 hf => ?_)
      refine s_callV (rvf := fun x => some (.int x)) (st := []) (fr := 1) (lo := 22) (mc := 0) (ms := 0) C [3] wc_X3_ownOf wml_X6_189 wim_X3_ownOf wsl_3_X3_ownOf dX6_numberOf_94 (As := [.inl v8]) rfl hf (fun x h' hF => c_X3_ownOf _ _ _ _ _ (x, h') hF) rfl (Nat.le_of_ble_eq_true rfl) (room_ok hX (Nat.le_of_ble_eq_true rfl) (Nat.le_of_ble_eq_true rfl)) (cell_ok hX (Nat.le_of_ble_eq_true rfl) (Nat.le_of_ble_eq_true rfl)) (fun v10 h9 hf => ?_)
      refine s_weak (lv' := [none, none, none, none]) trivial ?_
      exact k97 _ _ hf
    · refine s_iconst C dX6_numberOf_82 (v := (0 : Int32)) (by decide) ?_
      refine s_goto (tgt := 97) C dX6_numberOf_83 (by decide) ?_
      refine s_weak (lv' := [none, none, none, none]) trivial ?_
      exact k97 _ _ hf
  refine s_ite hf (fun e hf => ?_) (fun n3 hf => ?_)
  · refine s_tsw1 (tgt := 98) C dX6_numberOf_11 e (by decide) (by decide) rfl (by decide) ?_
    refine s_aload_n C dX6_numberOf_98 rfl ?_
    refine s_jn hf (fun j115 e115 hf => ?_)
    have k115 : ∀ (x11 : Int32), j115 x11 = some r → WW X h 0 0 115 [none, none, none, none] [.int x11] := by
      intro x11 hf
      rw [e115] at hf
      exact s_ireturn C E dX6_numberOf_115 hf (Nat.le_of_ble_eq_true rfl) (Nat.le_of_ble_eq_true rfl)
    refine s_ifnonnull (tgt := 106) C dX6_numberOf_99 (by decide) hf (fun hf => ?_) (fun hf => ?_)
    · refine s_aload_n C dX6_numberOf_106 rfl ?_
      refine s_getI C fl_X6_64 dX6_numberOf_107 hf (fun v12 hf => ?_)
      refine s_aload_n C dX6_numberOf_110 rfl ?_
      refine s_getI C fl_X6_192 dX6_numberOf_111 hf (fun v13 hf => ?_)
      refine s_isub C dX6_numberOf_114 ?_
      refine s_weak (lv' := [none, none, none, none]) trivial ?_
      exact k115 _ hf
    · refine s_iconst C dX6_numberOf_102 (v := (0 : Int32)) (by decide) ?_
      refine s_goto (tgt := 115) C dX6_numberOf_103 (by decide) ?_
      refine s_weak (lv' := [none, none, none, none]) trivial ?_
      exact k115 _ hf
  refine s_ite hf (fun e hf => ?_) (fun n4 hf => ?_)
  · refine s_tsw1 (tgt := 116) C dX6_numberOf_11 e (by decide) (by decide) rfl (by decide) ?_
    refine s_aload_n C dX6_numberOf_116 rfl ?_
    refine s_jn hf (fun j133 e133 hf => ?_)
    have k133 : ∀ (x14 : Int32), j133 x14 = some r → WW X h 0 0 133 [none, none, none, none] [.int x14] := by
      intro x14 hf
      rw [e133] at hf
      exact s_ireturn C E dX6_numberOf_133 hf (Nat.le_of_ble_eq_true rfl) (Nat.le_of_ble_eq_true rfl)
    refine s_ifnonnull (tgt := 124) C dX6_numberOf_117 (by decide) hf (fun hf => ?_) (fun hf => ?_)
    · refine s_aload_n C dX6_numberOf_124 rfl ?_
      refine s_getI C fl_X6_64 dX6_numberOf_125 hf (fun v15 hf => ?_)
      refine s_aload_n C dX6_numberOf_128 rfl ?_
      refine s_getI C fl_X6_195 dX6_numberOf_129 hf (fun v16 hf => ?_)
      refine s_isub C dX6_numberOf_132 ?_
      refine s_weak (lv' := [none, none, none, none]) trivial ?_
      exact k133 _ hf
    · refine s_iconst C dX6_numberOf_120 (v := (0 : Int32)) (by decide) ?_
      refine s_goto (tgt := 133) C dX6_numberOf_121 (by decide) ?_
      refine s_weak (lv' := [none, none, none, none]) trivial ?_
      exact k133 _ hf
  refine s_ite hf (fun e hf => ?_) (fun n5 hf => ?_)
  · refine s_tsw1 (tgt := 134) C dX6_numberOf_11 e (by decide) (by decide) rfl (by decide) ?_
    refine s_aload_n C dX6_numberOf_134 rfl ?_
    refine s_jn hf (fun j146 e146 hf => ?_)
    have k146 : ∀ (x17 : Int32), j146 x17 = some r → WW X h 0 0 146 [none, none, none, none] [.int x17] := by
      intro x17 hf
      rw [e146] at hf
      exact s_ireturn C E dX6_numberOf_146 hf (Nat.le_of_ble_eq_true rfl) (Nat.le_of_ble_eq_true rfl)
    refine s_ifnonnull (tgt := 142) C dX6_numberOf_135 (by decide) hf (fun hf => ?_) (fun hf => ?_)
    · refine s_aload_n C dX6_numberOf_142 rfl ?_
      refine s_getI C fl_X6_198 dX6_numberOf_143 hf (fun v18 hf => ?_)
      refine s_weak (lv' := [none, none, none, none]) trivial ?_
      exact k146 _ hf
    · refine s_iconst C dX6_numberOf_138 (v := (0 : Int32)) (by decide) ?_
      refine s_goto (tgt := 146) C dX6_numberOf_139 (by decide) ?_
      refine s_weak (lv' := [none, none, none, none]) trivial ?_
      exact k146 _ hf
  refine s_ite hf (fun e hf => ?_) (fun n6 hf => ?_)
  · refine s_tsw1 (tgt := 147) C dX6_numberOf_11 e (by decide) (by decide) rfl (by decide) ?_
    refine s_aload_n C dX6_numberOf_147 rfl ?_
    refine s_jn hf (fun j159 e159 hf => ?_)
    have k159 : ∀ (x19 : Int32), j159 x19 = some r → WW X h 0 0 159 [none, none, none, none] [.int x19] := by
      intro x19 hf
      rw [e159] at hf
      exact s_ireturn C E dX6_numberOf_159 hf (Nat.le_of_ble_eq_true rfl) (Nat.le_of_ble_eq_true rfl)
    refine s_ifnonnull (tgt := 155) C dX6_numberOf_148 (by decide) hf (fun hf => ?_) (fun hf => ?_)
    · refine s_aload_n C dX6_numberOf_155 rfl ?_
      refine s_getI C fl_X6_201 dX6_numberOf_156 hf (fun v20 hf => ?_)
      refine s_weak (lv' := [none, none, none, none]) trivial ?_
      exact k159 _ hf
    · refine s_iconst C dX6_numberOf_151 (v := (0 : Int32)) (by decide) ?_
      refine s_goto (tgt := 159) C dX6_numberOf_152 (by decide) ?_
      refine s_weak (lv' := [none, none, none, none]) trivial ?_
      exact k159 _ hf
  refine s_ite hf (fun e hf => ?_) (fun n7 hf => ?_)
  · refine s_tsw1 (tgt := 160) C dX6_numberOf_11 e (by decide) (by decide) rfl (by decide) ?_
    refine s_aload_n C dX6_numberOf_160 rfl ?_
    refine s_getI C fl_X6_89 dX6_numberOf_161 hf (fun v21 hf => ?_)
    exact s_ireturn C E dX6_numberOf_164 hf (Nat.le_of_ble_eq_true rfl) (Nat.le_of_ble_eq_true rfl)
  refine s_ite hf (fun e hf => ?_) (fun n8 hf => ?_)
  · refine s_tsw1 (tgt := 165) C dX6_numberOf_11 e (by decide) (by decide) rfl (by decide) ?_
    refine s_aload_n C dX6_numberOf_165 rfl ?_
    refine s_jn hf (fun j191 e191 hf => ?_)
    have k191 : ∀ (x22 : Int32) (h23 : AH), j191 x22 h23 = some r → WW X h23 0 0 191 [none, none, none, none] [.int x22] := by
      intro x22 h23 hf
      rw [e191] at hf
      exact s_ireturn C E dX6_numberOf_191 hf (Nat.le_of_ble_eq_true rfl) (Nat.le_of_ble_eq_true rfl)
    refine s_jn hf (fun j176 e176 hf => ?_)
    have k176 : j176  = some r → WW X h 0 0 176 [none, none, none, none] [] := by
      intro  hf
      rw [e176] at hf
      refine s_iconst C dX6_numberOf_176 (v := (0 : Int32)) (by decide) ?_
      refine s_goto (tgt := 191) C dX6_numberOf_177 (by decide) ?_
      exact k191 _ _ hf
    refine s_ifnull (tgt := 176) C dX6_numberOf_166 (by decide) hf (fun hf => ?_) (fun hf => ?_)
    · refine s_weak (lv' := [none, none, none, none]) trivial ?_
      exact k176 hf
    · refine s_aload_n C dX6_numberOf_169 rfl ?_
      refine s_getI C fl_X6_86 dX6_numberOf_170 hf (fun v24 hf => ?_)
      refine s_if_ge (tgt := 180) C dX6_numberOf_173 (by decide) hf (fun hf => ?_) (fun hf => ?_)
      · refine s_aload_n C dX6_numberOf_180 rfl ?_
        refine s_getI C fl_X6_204 dX6_numberOf_181 hf (fun v25 hf => ?_)
        refine s_aload_n C dX6_numberOf_184 rfl ?_
        refine s_getI C fl_X6_86 dX6_numberOf_185 hf (fun v26 hf => ?_)
        refine s_callSN (rvf := fun x => some (.int x)) (st := []) (fr := 1) (lo := 21) (mc := 0) (ms := 0) C wc_X11_far wmn_X6_169 wst_X11_far dX6_numberOf_188 (As := [.inl v25, .inl v26]) rfl hf (fun x h' hF => c_X11_far _ _ _ _ _ (x, h') hF) rfl (Nat.le_of_ble_eq_true rfl) (room_ok hX (Nat.le_of_ble_eq_true rfl) (Nat.le_of_ble_eq_true rfl)) (cell_ok hX (Nat.le_of_ble_eq_true rfl) (Nat.le_of_ble_eq_true rfl)) (fun v28 h27 hf => ?_)
        refine s_weak (lv' := [none, none, none, none]) trivial ?_
        exact k191 _ _ hf
      · refine s_weak (lv' := [none, none, none, none]) trivial ?_
        exact k176 hf
  refine s_ite hf (fun e hf => ?_) (fun n9 hf => ?_)
  · refine s_tsw1 (tgt := 192) C dX6_numberOf_11 e (by decide) (by decide) rfl (by decide) ?_
    refine s_aload_n C dX6_numberOf_192 rfl ?_
    refine s_jn hf (fun j216 e216 hf => ?_)
    have k216 : ∀ (x29 : Int32) (h30 : AH), j216 x29 h30 = some r → WW X h30 0 0 216 [none, none, none, none] [.int x29] := by
      intro x29 h30 hf
      rw [e216] at hf
      exact s_ireturn C E dX6_numberOf_216 hf (Nat.le_of_ble_eq_true rfl) (Nat.le_of_ble_eq_true rfl)
    refine s_jn hf (fun j215 e215 hf => ?_)
    have k215 : ∀ (h31 : AH), j215 h31 = some r → WW X h31 0 0 215 [none, none, none, none] [] := by
      intro h31 hf
      rw [e215] at hf
      refine s_iconst C dX6_numberOf_215 (v := (0 : Int32)) (by decide) ?_
      exact k216 _ _ hf
    refine s_ifnull (tgt := 215) C dX6_numberOf_193 (by decide) hf (fun hf => ?_) (fun hf => ?_)
    · refine s_weak (lv' := [none, none, none, none]) trivial ?_
      exact k215 _ hf
    · refine s_aload_n C dX6_numberOf_196 rfl ?_
      refine s_ifnull (tgt := 215) C dX6_numberOf_197 (by decide) hf (fun hf => ?_) (fun hf => ?_)
      · refine s_weak (lv' := [none, none, none, none]) trivial ?_
        exact k215 _ hf
      · refine s_aload_n C dX6_numberOf_200 rfl ?_
        refine s_aload_n C dX6_numberOf_201 rfl ?_
        refine s_getI C fl_X6_186 dX6_numberOf_202 hf (fun v32 hf => ?_)
        refine s_callV (rvf := fun x => some (.int x)) (st := []) (fr := 0) (lo := 0) (mc := 0) (ms := 0) C [1] wc_X1_isOnPaper wml_X6_207 wim_X1_isOnPaper wsl_1_X1_isOnPaper dX6_numberOf_205 (As := [.inl v32]) rfl hf (fun x h' hF => c_X1_isOnPaper _ _ _ _ _ (x, h') hF) rfl (Nat.le_of_ble_eq_true rfl) (room_ok hX (Nat.le_of_ble_eq_true rfl) (Nat.le_of_ble_eq_true rfl)) (cell_ok hX (Nat.le_of_ble_eq_true rfl) (Nat.le_of_ble_eq_true rfl)) (fun v34 h33 hf => ?_)
        refine s_if_eq (tgt := 215) C dX6_numberOf_208 (by decide) hf (fun hf => ?_) (fun hf => ?_)
        · refine s_weak (lv' := [none, none, none, none]) trivial ?_
          exact k215 _ hf
        · refine s_iconst C dX6_numberOf_211 (v := (1 : Int32)) (by decide) ?_
          refine s_goto (tgt := 216) C dX6_numberOf_212 (by decide) ?_
          refine s_weak (lv' := [none, none, none, none]) trivial ?_
          exact k216 _ _ hf
  refine s_ite hf (fun e hf => ?_) (fun n10 hf => ?_)
  · refine s_tsw1 (tgt := 217) C dX6_numberOf_11 e (by decide) (by decide) rfl (by decide) ?_
    refine s_aload_n C dX6_numberOf_217 rfl ?_
    refine s_jn hf (fun j241 e241 hf => ?_)
    have k241 : ∀ (x35 : Int32), j241 x35 = some r → WW X h 0 0 241 [none, none, none, none] [.int x35] := by
      intro x35 hf
      rw [e241] at hf
      exact s_ireturn C E dX6_numberOf_241 hf (Nat.le_of_ble_eq_true rfl) (Nat.le_of_ble_eq_true rfl)
    refine s_jn hf (fun j240 e240 hf => ?_)
    have k240 : j240  = some r → WW X h 0 0 240 [none, none, none, none] [] := by
      intro  hf
      rw [e240] at hf
      refine s_iconst C dX6_numberOf_240 (v := (0 : Int32)) (by decide) ?_
      exact k241 _ hf
    refine s_ifnull (tgt := 240) C dX6_numberOf_218 (by decide) hf (fun hf => ?_) (fun hf => ?_)
    · refine s_weak (lv' := [none, none, none, none]) trivial ?_
      exact k240 hf
    · refine s_aload_n C dX6_numberOf_221 rfl ?_
      refine s_ifnull (tgt := 240) C dX6_numberOf_222 (by decide) hf (fun hf => ?_) (fun hf => ?_)
      · refine s_weak (lv' := [none, none, none, none]) trivial ?_
        exact k240 hf
      · refine s_aload_n C dX6_numberOf_225 rfl ?_
        refine s_getI C fl_X6_211 dX6_numberOf_226 hf (fun v36 hf => ?_)
        refine s_aload_n C dX6_numberOf_229 rfl ?_
        refine s_getI C fl_X6_186 dX6_numberOf_230 hf (fun v37 hf => ?_)
        refine s_icmp_ne (tgt := 240) C dX6_numberOf_233 (by decide) hf (fun hf => ?_) (fun hf => ?_)
        · refine s_weak (lv' := [none, none, none, none]) trivial ?_
          exact k240 hf
        · refine s_iconst C dX6_numberOf_236 (v := (1 : Int32)) (by decide) ?_
          refine s_goto (tgt := 241) C dX6_numberOf_237 (by decide) ?_
          refine s_weak (lv' := [none, none, none, none]) trivial ?_
          exact k241 _ hf
  refine s_tswD (tgt := 242) C dX6_numberOf_11 (by have n0x := n32 (i := 0) n0 rfl; have n1x := n32 (i := 1) n1 rfl; have n2x := n32 (i := 2) n2 rfl; have n3x := n32 (i := 3) n3 rfl; have n4x := n32 (i := 4) n4 rfl; have n5x := n32 (i := 5) n5 rfl; have n6x := n32 (i := 6) n6 rfl; have n7x := n32 (i := 7) n7 rfl; have n8x := n32 (i := 8) n8 rfl; have n9x := n32 (i := 9) n9 rfl; have n10x := n32 (i := 10) n10 rfl; omega) (by decide) ?_
  refine s_iconst C dX6_numberOf_242 (v := (0 : Int32)) (by decide) ?_
  exact s_ireturn C E dX6_numberOf_243 hf (Nat.le_of_ble_eq_true rfl) (Nat.le_of_ble_eq_true rfl)
/-- HillBoxes$Rules.ofTwo(III)I -/
noncomputable def f_X6_ofTwo (a0 : Int32) (a1 : Int32) (a2 : Int32) (h : AH) : Option (Int32 × AH) :=
  if a0 = -30 then
    jn (fun (x1 : Int32) =>
      some (x1, h)) fun j152 =>
    if a2 = 0 then
      j152 (0 : Int32)
    else
      nz a2 <|
      j152 (a1 - a1 / a2 * a2)
  else
  if a0 = -29 then
    jn (fun (x2 : Int32) =>
      some (x2, h)) fun j140 =>
    if a2 = 0 then
      j140 (0 : Int32)
    else
      nz a2 <|
      j140 (a1 / a2)
  else
  if a0 = -28 then
    some ((a1 * a2), h)
  else
  if a0 = -27 then
    some ((a1 - a2), h)
  else
  if a0 = -26 then
    some ((a1 + a2), h)
  else
  if a0 = -25 then
    jn (fun (x3 : Int32) =>
      some (x3, h)) fun j116 =>
    if a1 ≤ a2 then
      j116 (0 : Int32)
    else
      j116 (1 : Int32)
  else
  if a0 = -24 then
    jn (fun (x4 : Int32) =>
      some (x4, h)) fun j105 =>
    if a1 = a2 then
      j105 (1 : Int32)
    else
      j105 (0 : Int32)
  else
  if a0 = -23 then
    jn (fun (x5 : Int32) =>
      some (x5, h)) fun j94 =>
    if a2 ≤ a1 then
      j94 (0 : Int32)
    else
      j94 (1 : Int32)
  else
  if a0 = -22 then
    jn (fun (x6 : Int32) =>
      some (x6, h)) fun j83 =>
    jn (
      j83 (0 : Int32)) fun j82 =>
    if a1 = 0 then
      j82
    else
      if a2 = 0 then
        j82
      else
        j83 (1 : Int32)
  else
  if a0 = -21 then
    jn (fun (x7 : Int32) =>
      some (x7, h)) fun j69 =>
    jn (
      j69 (1 : Int32)) fun j64 =>
    if a1 = 0 then
      if a2 = 0 then
        j69 (0 : Int32)
      else
        j64
    else
      j64
  else
    some ((0 : Int32), h)
set_option maxRecDepth 100000 in
set_option maxHeartbeats 4000000 in
theorem c_X6_ofTwo (l : Launch) (D : DT) (a0 : Int32) (a1 : Int32) (a2 : Int32) (h : AH) (r : Int32 × AH) (hf : f_X6_ofTwo a0 a1 a2 h = some r) : CM l D yX6_ofTwo cX6_ofTwo 3 (some .int) 0 0 0 0 [.inl a0, .inl a1, .inl a2] h (some (.int r.1)) r.2 := by
  refine CM.of (by decide) (Nat.le_of_ble_eq_true rfl) (fun X hl C hD hX hnm E => ?_)
  subst hl
  subst hD
  have C : CX X RX6 cX6_ofTwo 3 := C
  show WW X h 0 0 0 [some (.int a0), some (.int a1), some (.int a2)] []
  unfold f_X6_ofTwo at hf
  refine s_iload_n C dX6_ofTwo_0 rfl ?_
  refine s_ite hf (fun e hf => ?_) (fun n0 hf => ?_)
  · refine s_tsw1 (tgt := 141) C dX6_ofTwo_1 e (by decide) (by decide) rfl (by decide) ?_
    refine s_iload_n C dX6_ofTwo_141 rfl ?_
    refine s_jn hf (fun j152 e152 hf => ?_)
    have k152 : ∀ (x1 : Int32), j152 x1 = some r → WW X h 0 0 152 [none, none, none] [.int x1] := by
      intro x1 hf
      rw [e152] at hf
      exact s_ireturn C E dX6_ofTwo_152 hf (Nat.le_of_ble_eq_true rfl) (Nat.le_of_ble_eq_true rfl)
    refine s_if_ne (tgt := 149) C dX6_ofTwo_142 (by decide) hf (fun hf => ?_) (fun hf => ?_)
    · refine s_iload_n C dX6_ofTwo_149 rfl ?_
      refine s_iload_n C dX6_ofTwo_150 rfl ?_
      refine s_irem C dX6_ofTwo_151 hf (fun hf => ?_)
      refine s_weak (lv' := [none, none, none]) trivial ?_
      exact k152 _ hf
    · refine s_iconst C dX6_ofTwo_145 (v := (0 : Int32)) (by decide) ?_
      refine s_goto (tgt := 152) C dX6_ofTwo_146 (by decide) ?_
      refine s_weak (lv' := [none, none, none]) trivial ?_
      exact k152 _ hf
  refine s_ite hf (fun e hf => ?_) (fun n1 hf => ?_)
  · refine s_tsw1 (tgt := 129) C dX6_ofTwo_1 e (by decide) (by decide) rfl (by decide) ?_
    refine s_iload_n C dX6_ofTwo_129 rfl ?_
    refine s_jn hf (fun j140 e140 hf => ?_)
    have k140 : ∀ (x2 : Int32), j140 x2 = some r → WW X h 0 0 140 [none, none, none] [.int x2] := by
      intro x2 hf
      rw [e140] at hf
      exact s_ireturn C E dX6_ofTwo_140 hf (Nat.le_of_ble_eq_true rfl) (Nat.le_of_ble_eq_true rfl)
    refine s_if_ne (tgt := 137) C dX6_ofTwo_130 (by decide) hf (fun hf => ?_) (fun hf => ?_)
    · refine s_iload_n C dX6_ofTwo_137 rfl ?_
      refine s_iload_n C dX6_ofTwo_138 rfl ?_
      refine s_idiv C dX6_ofTwo_139 hf (fun hf => ?_)
      refine s_weak (lv' := [none, none, none]) trivial ?_
      exact k140 _ hf
    · refine s_iconst C dX6_ofTwo_133 (v := (0 : Int32)) (by decide) ?_
      refine s_goto (tgt := 140) C dX6_ofTwo_134 (by decide) ?_
      refine s_weak (lv' := [none, none, none]) trivial ?_
      exact k140 _ hf
  refine s_ite hf (fun e hf => ?_) (fun n2 hf => ?_)
  · refine s_tsw1 (tgt := 125) C dX6_ofTwo_1 e (by decide) (by decide) rfl (by decide) ?_
    refine s_iload_n C dX6_ofTwo_125 rfl ?_
    refine s_iload_n C dX6_ofTwo_126 rfl ?_
    refine s_imul C dX6_ofTwo_127 ?_
    exact s_ireturn C E dX6_ofTwo_128 hf (Nat.le_of_ble_eq_true rfl) (Nat.le_of_ble_eq_true rfl)
  refine s_ite hf (fun e hf => ?_) (fun n3 hf => ?_)
  · refine s_tsw1 (tgt := 121) C dX6_ofTwo_1 e (by decide) (by decide) rfl (by decide) ?_
    refine s_iload_n C dX6_ofTwo_121 rfl ?_
    refine s_iload_n C dX6_ofTwo_122 rfl ?_
    refine s_isub C dX6_ofTwo_123 ?_
    exact s_ireturn C E dX6_ofTwo_124 hf (Nat.le_of_ble_eq_true rfl) (Nat.le_of_ble_eq_true rfl)
  refine s_ite hf (fun e hf => ?_) (fun n4 hf => ?_)
  · refine s_tsw1 (tgt := 117) C dX6_ofTwo_1 e (by decide) (by decide) rfl (by decide) ?_
    refine s_iload_n C dX6_ofTwo_117 rfl ?_
    refine s_iload_n C dX6_ofTwo_118 rfl ?_
    refine s_iadd C dX6_ofTwo_119 ?_
    exact s_ireturn C E dX6_ofTwo_120 hf (Nat.le_of_ble_eq_true rfl) (Nat.le_of_ble_eq_true rfl)
  refine s_ite hf (fun e hf => ?_) (fun n5 hf => ?_)
  · refine s_tsw1 (tgt := 106) C dX6_ofTwo_1 e (by decide) (by decide) rfl (by decide) ?_
    refine s_iload_n C dX6_ofTwo_106 rfl ?_
    refine s_iload_n C dX6_ofTwo_107 rfl ?_
    refine s_jn hf (fun j116 e116 hf => ?_)
    have k116 : ∀ (x3 : Int32), j116 x3 = some r → WW X h 0 0 116 [none, none, none] [.int x3] := by
      intro x3 hf
      rw [e116] at hf
      exact s_ireturn C E dX6_ofTwo_116 hf (Nat.le_of_ble_eq_true rfl) (Nat.le_of_ble_eq_true rfl)
    refine s_icmp_le (tgt := 115) C dX6_ofTwo_108 (by decide) hf (fun hf => ?_) (fun hf => ?_)
    · refine s_iconst C dX6_ofTwo_115 (v := (0 : Int32)) (by decide) ?_
      refine s_weak (lv' := [none, none, none]) trivial ?_
      exact k116 _ hf
    · refine s_iconst C dX6_ofTwo_111 (v := (1 : Int32)) (by decide) ?_
      refine s_goto (tgt := 116) C dX6_ofTwo_112 (by decide) ?_
      refine s_weak (lv' := [none, none, none]) trivial ?_
      exact k116 _ hf
  refine s_ite hf (fun e hf => ?_) (fun n6 hf => ?_)
  · refine s_tsw1 (tgt := 95) C dX6_ofTwo_1 e (by decide) (by decide) rfl (by decide) ?_
    refine s_iload_n C dX6_ofTwo_95 rfl ?_
    refine s_iload_n C dX6_ofTwo_96 rfl ?_
    refine s_jn hf (fun j105 e105 hf => ?_)
    have k105 : ∀ (x4 : Int32), j105 x4 = some r → WW X h 0 0 105 [none, none, none] [.int x4] := by
      intro x4 hf
      rw [e105] at hf
      exact s_ireturn C E dX6_ofTwo_105 hf (Nat.le_of_ble_eq_true rfl) (Nat.le_of_ble_eq_true rfl)
    refine s_icmp_ne (tgt := 104) C dX6_ofTwo_97 (by decide) hf (fun hf => ?_) (fun hf => ?_)
    · refine s_iconst C dX6_ofTwo_104 (v := (0 : Int32)) (by decide) ?_
      refine s_weak (lv' := [none, none, none]) trivial ?_
      exact k105 _ hf
    · refine s_iconst C dX6_ofTwo_100 (v := (1 : Int32)) (by decide) ?_
      refine s_goto (tgt := 105) C dX6_ofTwo_101 (by decide) ?_
      refine s_weak (lv' := [none, none, none]) trivial ?_
      exact k105 _ hf
  refine s_ite hf (fun e hf => ?_) (fun n7 hf => ?_)
  · refine s_tsw1 (tgt := 84) C dX6_ofTwo_1 e (by decide) (by decide) rfl (by decide) ?_
    refine s_iload_n C dX6_ofTwo_84 rfl ?_
    refine s_iload_n C dX6_ofTwo_85 rfl ?_
    refine s_jn hf (fun j94 e94 hf => ?_)
    have k94 : ∀ (x5 : Int32), j94 x5 = some r → WW X h 0 0 94 [none, none, none] [.int x5] := by
      intro x5 hf
      rw [e94] at hf
      exact s_ireturn C E dX6_ofTwo_94 hf (Nat.le_of_ble_eq_true rfl) (Nat.le_of_ble_eq_true rfl)
    refine s_icmp_ge (tgt := 93) C dX6_ofTwo_86 (by decide) hf (fun hf => ?_) (fun hf => ?_)
    · refine s_iconst C dX6_ofTwo_93 (v := (0 : Int32)) (by decide) ?_
      refine s_weak (lv' := [none, none, none]) trivial ?_
      exact k94 _ hf
    · refine s_iconst C dX6_ofTwo_89 (v := (1 : Int32)) (by decide) ?_
      refine s_goto (tgt := 94) C dX6_ofTwo_90 (by decide) ?_
      refine s_weak (lv' := [none, none, none]) trivial ?_
      exact k94 _ hf
  refine s_ite hf (fun e hf => ?_) (fun n8 hf => ?_)
  · refine s_tsw1 (tgt := 70) C dX6_ofTwo_1 e (by decide) (by decide) rfl (by decide) ?_
    refine s_iload_n C dX6_ofTwo_70 rfl ?_
    refine s_jn hf (fun j83 e83 hf => ?_)
    have k83 : ∀ (x6 : Int32), j83 x6 = some r → WW X h 0 0 83 [none, none, none] [.int x6] := by
      intro x6 hf
      rw [e83] at hf
      exact s_ireturn C E dX6_ofTwo_83 hf (Nat.le_of_ble_eq_true rfl) (Nat.le_of_ble_eq_true rfl)
    refine s_jn hf (fun j82 e82 hf => ?_)
    have k82 : j82  = some r → WW X h 0 0 82 [none, none, none] [] := by
      intro  hf
      rw [e82] at hf
      refine s_iconst C dX6_ofTwo_82 (v := (0 : Int32)) (by decide) ?_
      exact k83 _ hf
    refine s_if_eq (tgt := 82) C dX6_ofTwo_71 (by decide) hf (fun hf => ?_) (fun hf => ?_)
    · refine s_weak (lv' := [none, none, none]) trivial ?_
      exact k82 hf
    · refine s_iload_n C dX6_ofTwo_74 rfl ?_
      refine s_if_eq (tgt := 82) C dX6_ofTwo_75 (by decide) hf (fun hf => ?_) (fun hf => ?_)
      · refine s_weak (lv' := [none, none, none]) trivial ?_
        exact k82 hf
      · refine s_iconst C dX6_ofTwo_78 (v := (1 : Int32)) (by decide) ?_
        refine s_goto (tgt := 83) C dX6_ofTwo_79 (by decide) ?_
        refine s_weak (lv' := [none, none, none]) trivial ?_
        exact k83 _ hf
  refine s_ite hf (fun e hf => ?_) (fun n9 hf => ?_)
  · refine s_tsw1 (tgt := 56) C dX6_ofTwo_1 e (by decide) (by decide) rfl (by decide) ?_
    refine s_iload_n C dX6_ofTwo_56 rfl ?_
    refine s_jn hf (fun j69 e69 hf => ?_)
    have k69 : ∀ (x7 : Int32), j69 x7 = some r → WW X h 0 0 69 [none, none, none] [.int x7] := by
      intro x7 hf
      rw [e69] at hf
      exact s_ireturn C E dX6_ofTwo_69 hf (Nat.le_of_ble_eq_true rfl) (Nat.le_of_ble_eq_true rfl)
    refine s_jn hf (fun j64 e64 hf => ?_)
    have k64 : j64  = some r → WW X h 0 0 64 [none, none, none] [] := by
      intro  hf
      rw [e64] at hf
      refine s_iconst C dX6_ofTwo_64 (v := (1 : Int32)) (by decide) ?_
      refine s_goto (tgt := 69) C dX6_ofTwo_65 (by decide) ?_
      exact k69 _ hf
    refine s_if_ne (tgt := 64) C dX6_ofTwo_57 (by decide) hf (fun hf => ?_) (fun hf => ?_)
    · refine s_weak (lv' := [none, none, none]) trivial ?_
      exact k64 hf
    · refine s_iload_n C dX6_ofTwo_60 rfl ?_
      refine s_if_eq (tgt := 68) C dX6_ofTwo_61 (by decide) hf (fun hf => ?_) (fun hf => ?_)
      · refine s_iconst C dX6_ofTwo_68 (v := (0 : Int32)) (by decide) ?_
        refine s_weak (lv' := [none, none, none]) trivial ?_
        exact k69 _ hf
      · refine s_weak (lv' := [none, none, none]) trivial ?_
        exact k64 hf
  refine s_tswD (tgt := 153) C dX6_ofTwo_1 (by have n0x := n32 (i := -30) n0 rfl; have n1x := n32 (i := -29) n1 rfl; have n2x := n32 (i := -28) n2 rfl; have n3x := n32 (i := -27) n3 rfl; have n4x := n32 (i := -26) n4 rfl; have n5x := n32 (i := -25) n5 rfl; have n6x := n32 (i := -24) n6 rfl; have n7x := n32 (i := -23) n7 rfl; have n8x := n32 (i := -22) n8 rfl; have n9x := n32 (i := -21) n9 rfl; omega) (by decide) ?_
  refine s_iconst C dX6_ofTwo_153 (v := (0 : Int32)) (by decide) ?_
  exact s_ireturn C E dX6_ofTwo_154 hf (Nat.le_of_ble_eq_true rfl) (Nat.le_of_ble_eq_true rfl)
/-- HillBoxes$Rules.push(II)I -/
noncomputable def f_X6_push (o : Option Nat) (a1 : Int32) (a2 : Int32) (h : AH) : Option (Int32 × AH) :=
  jn (fun (h1 : AH) =>
    some ((a1 + (1 : Int32)), h1)) fun j17 =>
  if a1 < 0 then
    j17 h
  else
    if (64 : Int32) ≤ a1 then
      j17 h
    else
      fR h [6] o 9 fun v2 =>
      bI h 20 v2 a1 a2 fun h3 =>
      j17 h3
set_option maxRecDepth 100000 in
set_option maxHeartbeats 4000000 in
theorem c_X6_push (l : Launch) (D : DT) (o : Option Nat) (a1 : Int32) (a2 : Int32) (h : AH) (r : Int32 × AH) (hf : f_X6_push o a1 a2 h = some r) : CM l D yX6_push cX6_push 3 (some .int) 0 0 0 0 [.inr (.inr o), .inl a1, .inl a2] h (some (.int r.1)) r.2 := by
  refine CM.of (by decide) (Nat.le_of_ble_eq_true rfl) (fun X hl C hD hX hnm E => ?_)
  subst hl
  subst hD
  have C : CX X RX6 cX6_push 3 := C
  show WW X h 0 0 0 [some (rB (xD X).1 o), some (.int a1), some (.int a2)] []
  unfold f_X6_push at hf
  refine s_iload_n C dX6_push_0 rfl ?_
  refine s_jn hf (fun j17 e17 hf => ?_)
  have k17 : ∀ (h1 : AH), j17 h1 = some r → WW X h1 0 0 17 [none, some (.int a1), none] [] := by
    intro h1 hf
    rw [e17] at hf
    refine s_iload_n C dX6_push_17 rfl ?_
    refine s_iconst C dX6_push_18 (v := (1 : Int32)) (by decide) ?_
    refine s_iadd C dX6_push_19 ?_
    exact s_ireturn C E dX6_push_20 hf (Nat.le_of_ble_eq_true rfl) (Nat.le_of_ble_eq_true rfl)
  refine s_if_lt (tgt := 17) C dX6_push_1 (by decide) hf (fun hf => ?_) (fun hf => ?_)
  · refine s_weak (lv' := [none, some (.int a1), none]) ⟨rfl, trivial⟩ ?_
    exact k17 _ hf
  · refine s_iload_n C dX6_push_4 rfl ?_
    refine s_bipush C dX6_push_5 (v := (64 : Int32)) (by decide) ?_
    refine s_icmp_ge (tgt := 17) C dX6_push_7 (by decide) hf (fun hf => ?_) (fun hf => ?_)
    · refine s_weak (lv' := [none, some (.int a1), none]) ⟨rfl, trivial⟩ ?_
      exact k17 _ hf
    · refine s_aload_n C dX6_push_10 rfl ?_
      refine s_getR C fl_X6_38 dX6_push_11 hf (fun v2 hf => ?_)
      refine s_iload_n C dX6_push_14 rfl ?_
      refine s_iload_n C dX6_push_15 rfl ?_
      refine s_iastore C dX6_push_16 hf (fun h3 hf => ?_)
      refine s_weak (lv' := [none, some (.int a1), none]) ⟨rfl, trivial⟩ ?_
      exact k17 _ hf
/-- HillBoxes$Rules.read(I)I -/
noncomputable def f_X6_read (o : Option Nat) (a1 : Int32) (h : AH) : Option (Int32 × AH) :=
  jn (fun (x1 : Int32) =>
    some (x1, h)) fun j20 =>
  jn (
    j20 (0 : Int32)) fun j10 =>
  if a1 < 0 then
    j10
  else
    if a1 < (64 : Int32) then
      fR h [6] o 9 fun v2 =>
      aI h 20 v2 a1 fun v3 =>
      j20 v3
    else
      j10
set_option maxRecDepth 100000 in
set_option maxHeartbeats 4000000 in
theorem c_X6_read (l : Launch) (D : DT) (o : Option Nat) (a1 : Int32) (h : AH) (r : Int32 × AH) (hf : f_X6_read o a1 h = some r) : CM l D yX6_read cX6_read 2 (some .int) 0 0 0 0 [.inr (.inr o), .inl a1] h (some (.int r.1)) r.2 := by
  refine CM.of (by decide) (Nat.le_of_ble_eq_true rfl) (fun X hl C hD hX hnm E => ?_)
  subst hl
  subst hD
  have C : CX X RX6 cX6_read 2 := C
  show WW X h 0 0 0 [some (rB (xD X).1 o), some (.int a1)] []
  unfold f_X6_read at hf
  refine s_iload_n C dX6_read_0 rfl ?_
  refine s_jn hf (fun j20 e20 hf => ?_)
  have k20 : ∀ (x1 : Int32), j20 x1 = some r → WW X h 0 0 20 [none, none] [.int x1] := by
    intro x1 hf
    rw [e20] at hf
    exact s_ireturn C E dX6_read_20 hf (Nat.le_of_ble_eq_true rfl) (Nat.le_of_ble_eq_true rfl)
  refine s_jn hf (fun j10 e10 hf => ?_)
  have k10 : j10  = some r → WW X h 0 0 10 [none, none] [] := by
    intro  hf
    rw [e10] at hf
    refine s_iconst C dX6_read_10 (v := (0 : Int32)) (by decide) ?_
    refine s_goto (tgt := 20) C dX6_read_11 (by decide) ?_
    exact k20 _ hf
  refine s_if_lt (tgt := 10) C dX6_read_1 (by decide) hf (fun hf => ?_) (fun hf => ?_)
  · refine s_weak (lv' := [none, none]) trivial ?_
    exact k10 hf
  · refine s_iload_n C dX6_read_4 rfl ?_
    refine s_bipush C dX6_read_5 (v := (64 : Int32)) (by decide) ?_
    refine s_icmp_lt (tgt := 14) C dX6_read_7 (by decide) hf (fun hf => ?_) (fun hf => ?_)
    · refine s_aload_n C dX6_read_14 rfl ?_
      refine s_getR C fl_X6_38 dX6_read_15 hf (fun v2 hf => ?_)
      refine s_iload_n C dX6_read_18 rfl ?_
      refine s_iaload C dX6_read_19 hf (fun v3 hf => ?_)
      refine s_weak (lv' := [none, none]) trivial ?_
      exact k20 _ hf
    · refine s_weak (lv' := [none, none]) trivial ?_
      exact k10 hf
/-- HillBoxes$Rules.work(I)I -/
noncomputable def f_X6_work (o : Option Nat) (a1 : Int32) (h : AH) : Option (Int32 × AH) :=
  pI h [6] o 2 (-1 : Int32) fun h1 =>
  jn (
    some ((0 : Int32), h1)) fun j17 =>
  if a1 < 0 then
    j17
  else
    fI h1 [6] o 1 fun v2 =>
    if a1 < v2 then
      fR h1 [6] o 8 fun v3 =>
      aI h1 20 v3 a1 fun v4 =>
      lp (fun _ _ _ _ _ => none) (fun (L46 : Int32 → Int32 → Int32 → Int32 → AH → Option (Int32 × AH)) (x5 : Int32) (x6 : Int32) (x7 : Int32) (x8 : Int32) (h9 : AH) =>
        jn (
          some ((0 : Int32), h9)) fun j299 =>
        if ((a1 * (161 : Int32)) + v4) ≤ x8 then
          j299
        else
          fR h9 [6] o 7 fun v10 =>
          aN h9 20 v10 fun v11 =>
          if v11 ≤ x8 then
            j299
          else
            fR h9 [6] o 7 fun v12 =>
            aI h9 20 v12 x8 fun v13 =>
            jn (fun (x14 : Int32) (x15 : Int32) (x16 : Int32) (h17 : AH) =>
              L46 x14 x15 x16 (x8 + 1) h17) fun j293 =>
            if v13 ≤ (-20 : Int32) then
              jn (
                jn (fun (x18 : Int32) (h19 : AH) =>
                  rO h19 [6] o <| cl (f_X6_push o (x5 - (1 : Int32)) x18 h19) fun v21 h20 =>
                  j293 v21 x6 x7 h20) fun j161 =>
                if v13 = (-31 : Int32) then
                  rO h9 [6] o <| cl (f_X6_read o (x5 - (1 : Int32)) h9) fun v25 h24 =>
                  j161 (-v25) h24
                else
                  rO h9 [6] o <| cl (f_X6_read o (x5 - (1 : Int32)) h9) fun v23 h22 =>
                  if v23 = 0 then
                    j161 (1 : Int32) h22
                  else
                    j161 (0 : Int32) h22) fun j121 =>
              if v13 = (-31 : Int32) then
                j121
              else
                if v13 = (-32 : Int32) then
                  j121
                else
                  jn (
                    rO h9 [6] o <| cl (f_X6_read o (x5 + (-1)) h9) fun v27 h26 =>
                    jn (fun (x28 : Int32) =>
                      jn (fun (x29 : Int32) =>
                        jn (fun (x30 : Int32) =>
                          j293 (x5 + (-1)) x6 x30 h26) fun j220 =>
                        if x28 = x29 then
                          j220 (1 : Int32)
                        else
                          j220 (0 : Int32)) fun j212 =>
                      if v13 = (-33 : Int32) then
                        j212 (1 : Int32)
                      else
                        j212 (0 : Int32)) fun j200 =>
                    if v27 = 0 then
                      j200 (0 : Int32)
                    else
                      j200 (1 : Int32)) fun j183 =>
                  if v13 = (-33 : Int32) then
                    j183
                  else
                    if v13 = (-34 : Int32) then
                      j183
                    else
                      if v13 = (-35 : Int32) then
                        if x7 = 0 then
                          j293 (x5 + (-1)) (x6 + 1) (1 : Int32) h9
                        else
                          pI h9 [6] o 2 x6 fun h39 =>
                          rO h39 [6] o <| cl (f_X6_read o (x5 + (-1)) h39) fun v41 h40 =>
                          some (v41, h40)
                      else
                        rO h9 [6] o <| cl (f_X6_read o (x5 - (2 : Int32)) h9) fun v32 h31 =>
                        rO h31 [6] o <| cl (f_X6_read o (x5 - (1 : Int32)) h31) fun v34 h33 =>
                        cl (f_X6_ofTwo v13 v32 v34 h33) fun v36 h35 =>
                        rO h35 [6] o <| cl (f_X6_push o (x5 - (2 : Int32)) v36 h35) fun v38 h37 =>
                        j293 v38 x6 x7 h37
            else
              jn (fun (x42 : Int32) (h43 : AH) =>
                rO h43 [6] o <| cl (f_X6_push o x5 x42 h43) fun v45 h44 =>
                j293 v45 x6 x7 h44) fun j99 =>
              if v13 < 0 then
                rO h9 [6] o <| cl (f_X6_numberOf o ((-1 : Int32) - v13) h9) fun v47 h46 =>
                j99 v47 h46
              else
                j99 v13 h9) lpN (0 : Int32) (0 : Int32) (1 : Int32) (a1 * (161 : Int32)) h1
    else
      j17
set_option maxRecDepth 100000 in
set_option maxHeartbeats 4000000 in
theorem c_X6_work (l : Launch) (D : DT) (o : Option Nat) (a1 : Int32) (h : AH) (r : Int32 × AH) (hf : f_X6_work o a1 h = some r) : CM l D yX6_work cX6_work 9 (some .int) 3 69 0 0 [.inr (.inr o), .inl a1] h (some (.int r.1)) r.2 := by
  refine CM.of (by decide) (Nat.le_of_ble_eq_true rfl) (fun X hl C hD hX hnm E => ?_)
  subst hl
  subst hD
  have C : CX X RX6 cX6_work 9 := C
  show WW X h 0 0 0 [some (rB (xD X).1 o), some (.int a1), none, none, none, none, none, none, none] []
  unfold f_X6_work at hf
  refine s_aload_n C dX6_work_0 rfl ?_
  refine s_iconst C dX6_work_1 (v := (-1 : Int32)) (by decide) ?_
  refine s_putI C fl_X6_18 (by decide) dX6_work_2 hf (fun h1 hf => ?_)
  refine s_iload_n C dX6_work_5 rfl ?_
  refine s_jn hf (fun j17 e17 hf => ?_)
  have k17 : j17  = some r → WW X h1 0 0 17 [none, none, none, none, none, none, none, none, none] [] := by
    intro  hf
    rw [e17] at hf
    refine s_iconst C dX6_work_17 (v := (0 : Int32)) (by decide) ?_
    exact s_ireturn C E dX6_work_18 hf (Nat.le_of_ble_eq_true rfl) (Nat.le_of_ble_eq_true rfl)
  refine s_if_lt (tgt := 17) C dX6_work_6 (by decide) hf (fun hf => ?_) (fun hf => ?_)
  · refine s_weak (lv' := [none, none, none, none, none, none, none, none, none]) trivial ?_
    exact k17 hf
  · refine s_iload_n C dX6_work_9 rfl ?_
    refine s_aload_n C dX6_work_10 rfl ?_
    refine s_getI C fl_X6_45 dX6_work_11 hf (fun v2 hf => ?_)
    refine s_icmp_lt (tgt := 19) C dX6_work_14 (by decide) hf (fun hf => ?_) (fun hf => ?_)
    · refine s_iload_n C dX6_work_19 rfl ?_
      refine s_sipush C dX6_work_20 (v := (161 : Int32)) (by decide) ?_
      refine s_imul C dX6_work_23 ?_
      refine s_istore_n C dX6_work_24 (by decide) (nc_i rfl) (lv' := [some (rB (xD X).1 o), some (.int a1), some (.int (a1 * (161 : Int32))), none, none, none, none, none, none]) rfl ?_
      refine s_iload_n C dX6_work_25 rfl ?_
      refine s_aload_n C dX6_work_26 rfl ?_
      refine s_getR C fl_X6_35 dX6_work_27 hf (fun v3 hf => ?_)
      refine s_iload_n C dX6_work_30 rfl ?_
      refine s_iaload C dX6_work_31 hf (fun v4 hf => ?_)
      refine s_iadd C dX6_work_32 ?_
      refine s_istore_n C dX6_work_33 (by decide) (nc_i rfl) (lv' := [some (rB (xD X).1 o), some (.int a1), some (.int (a1 * (161 : Int32))), some (.int ((a1 * (161 : Int32)) + v4)), none, none, none, none, none]) rfl ?_
      refine s_iconst C dX6_work_34 (v := (0 : Int32)) (by decide) ?_
      refine s_istore C dX6_work_35 (by decide) (nc_i rfl) (lv' := [some (rB (xD X).1 o), some (.int a1), some (.int (a1 * (161 : Int32))), some (.int ((a1 * (161 : Int32)) + v4)), some (.int (0 : Int32)), none, none, none, none]) rfl ?_
      refine s_iconst C dX6_work_37 (v := (0 : Int32)) (by decide) ?_
      refine s_istore C dX6_work_38 (by decide) (nc_i rfl) (lv' := [some (rB (xD X).1 o), some (.int a1), some (.int (a1 * (161 : Int32))), some (.int ((a1 * (161 : Int32)) + v4)), some (.int (0 : Int32)), some (.int (0 : Int32)), none, none, none]) rfl ?_
      refine s_iconst C dX6_work_40 (v := (1 : Int32)) (by decide) ?_
      refine s_istore C dX6_work_41 (by decide) (nc_i rfl) (lv' := [some (rB (xD X).1 o), some (.int a1), some (.int (a1 * (161 : Int32))), some (.int ((a1 * (161 : Int32)) + v4)), some (.int (0 : Int32)), some (.int (0 : Int32)), some (.int (1 : Int32)), none, none]) rfl ?_
      refine s_iload_n C dX6_work_43 rfl ?_
      refine s_istore C dX6_work_44 (by decide) (nc_i rfl) (lv' := [some (rB (xD X).1 o), some (.int a1), some (.int (a1 * (161 : Int32))), some (.int ((a1 * (161 : Int32)) + v4)), some (.int (0 : Int32)), some (.int (0 : Int32)), some (.int (1 : Int32)), some (.int (a1 * (161 : Int32))), none]) rfl ?_
      refine s_lp5 hf (fun G46 z46 q46 hf => ?_)
      have k46 : ∀ (n : Nat) (x5 : Int32) (x6 : Int32) (x7 : Int32) (x8 : Int32) (h9 : AH), G46 n x5 x6 x7 x8 h9 = some r → WW X h9 0 0 46 [some (rB (xD X).1 o), none, none, some (.int ((a1 * (161 : Int32)) + v4)), some (.int x5), some (.int x6), some (.int x7), some (.int x8), none] [] := by
        intro n
        induction n with
        | zero =>
          intro x5 x6 x7 x8 h9 hf
          rw [z46] at hf
          cases hf
        | succ n ih46 =>
          intro x5 x6 x7 x8 h9 hf
          have hf := (q46 n x5 x6 x7 x8 h9).symm.trans hf
          refine s_iload C dX6_work_46 rfl ?_
          refine s_iload_n C dX6_work_48 rfl ?_
          refine s_jn hf (fun j299 e299 hf => ?_)
          have k299 : j299  = some r → WW X h9 0 0 299 [none, none, none, none, none, none, none, none, none] [] := by
            intro  hf
            rw [e299] at hf
            refine s_iconst C dX6_work_299 (v := (0 : Int32)) (by decide) ?_
            exact s_ireturn C E dX6_work_300 hf (Nat.le_of_ble_eq_true rfl) (Nat.le_of_ble_eq_true rfl)
          refine s_icmp_ge (tgt := 299) C dX6_work_49 (by decide) hf (fun hf => ?_) (fun hf => ?_)
          · refine s_weak (lv' := [none, none, none, none, none, none, none, none, none]) trivial ?_
            exact k299 hf
          · refine s_iload C dX6_work_52 rfl ?_
            refine s_aload_n C dX6_work_54 rfl ?_
            refine s_getR C fl_X6_32 dX6_work_55 hf (fun v10 hf => ?_)
            refine s_alen C dX6_work_58 (t := 20) (by decide) hf (fun v11 hf => ?_)
            refine s_icmp_ge (tgt := 299) C dX6_work_59 (by decide) hf (fun hf => ?_) (fun hf => ?_)
            · refine s_weak (lv' := [none, none, none, none, none, none, none, none, none]) trivial ?_
              exact k299 hf
            · refine s_aload_n C dX6_work_62 rfl ?_
              refine s_getR C fl_X6_32 dX6_work_63 hf (fun v12 hf => ?_)
              refine s_iload C dX6_work_66 rfl ?_
              refine s_iaload C dX6_work_68 hf (fun v13 hf => ?_)
              refine s_istore C dX6_work_69 (by decide) (nc_i rfl) (lv' := [some (rB (xD X).1 o), none, none, some (.int ((a1 * (161 : Int32)) + v4)), some (.int x5), some (.int x6), some (.int x7), some (.int x8), some (.int v13)]) rfl ?_
              refine s_iload C dX6_work_71 rfl ?_
              refine s_bipush C dX6_work_73 (v := (-20 : Int32)) (by decide) ?_
              refine s_jn hf (fun j293 e293 hf => ?_)
              have k293 : ∀ (x14 : Int32) (x15 : Int32) (x16 : Int32) (h17 : AH), j293 x14 x15 x16 h17 = some r → WW X h17 0 0 293 [some (rB (xD X).1 o), none, none, some (.int ((a1 * (161 : Int32)) + v4)), some (.int x14), some (.int x15), some (.int x16), some (.int x8), none] [] := by
                intro x14 x15 x16 h17 hf
                rw [e293] at hf
                refine s_iinc C dX6_work_293 (v := (x8 + 1)) rfl rfl (by decide) (nc_i rfl) (lv' := [some (rB (xD X).1 o), none, none, some (.int ((a1 * (161 : Int32)) + v4)), some (.int x14), some (.int x15), some (.int x16), some (.int (x8 + 1)), none]) rfl ?_
                refine s_goto (tgt := 46) C dX6_work_296 (by decide) ?_
                exact ih46 _ _ _ _ _ hf
              refine s_icmp_le (tgt := 107) C dX6_work_75 (by decide) hf (fun hf => ?_) (fun hf => ?_)
              · refine s_iload C dX6_work_107 rfl ?_
                refine s_bipush C dX6_work_109 (v := (-31 : Int32)) (by decide) ?_
                refine s_jn hf (fun j121 e121 hf => ?_)
                have k121 : j121  = some r → WW X h9 0 0 121 [some (rB (xD X).1 o), none, none, some (.int ((a1 * (161 : Int32)) + v4)), some (.int x5), some (.int x6), some (.int x7), some (.int x8), some (.int v13)] [] := by
                  intro  hf
                  rw [e121] at hf
                  refine s_aload_n C dX6_work_121 rfl ?_
                  refine s_iload C dX6_work_122 rfl ?_
                  refine s_iconst C dX6_work_124 (v := (1 : Int32)) (by decide) ?_
                  refine s_isub C dX6_work_125 ?_
                  refine s_iload C dX6_work_126 rfl ?_
                  refine s_bipush C dX6_work_128 (v := (-31 : Int32)) (by decide) ?_
                  refine s_jn hf (fun j161 e161 hf => ?_)
                  have k161 : ∀ (x18 : Int32) (h19 : AH), j161 x18 h19 = some r → WW X h19 0 0 161 [some (rB (xD X).1 o), none, none, some (.int ((a1 * (161 : Int32)) + v4)), none, some (.int x6), some (.int x7), some (.int x8), none] [.int x18, .int (x5 - (1 : Int32)), rB (xD X).1 o] := by
                    intro x18 h19 hf
                    rw [e161] at hf
                    refine s_callV (rvf := fun x => some (.int x)) (st := []) (fr := 0) (lo := 0) (mc := 0) (ms := 0) C [6] wc_X6_push wml_X6_177 wim_X6_push wsl_6_X6_push dX6_work_161 (As := [.inl (x5 - (1 : Int32)), .inl x18]) rfl hf (fun x h' hF => c_X6_push _ _ _ _ _ _ (x, h') hF) rfl (Nat.le_of_ble_eq_true rfl) (room_ok hX (Nat.le_of_ble_eq_true rfl) (Nat.le_of_ble_eq_true rfl)) (cell_ok hX (Nat.le_of_ble_eq_true rfl) (Nat.le_of_ble_eq_true rfl)) (fun v21 h20 hf => ?_)
                    refine s_istore C dX6_work_164 (by decide) (nc_i rfl) (lv' := [some (rB (xD X).1 o), none, none, some (.int ((a1 * (161 : Int32)) + v4)), some (.int v21), some (.int x6), some (.int x7), some (.int x8), none]) rfl ?_
                    refine s_goto (tgt := 293) C dX6_work_166 (by decide) ?_
                    exact k293 _ _ _ _ hf
                  refine s_icmp_ne (tgt := 145) C dX6_work_130 (by decide) hf (fun hf => ?_) (fun hf => ?_)
                  · refine s_aload_n C dX6_work_145 rfl ?_
                    refine s_iload C dX6_work_146 rfl ?_
                    refine s_iconst C dX6_work_148 (v := (1 : Int32)) (by decide) ?_
                    refine s_isub C dX6_work_149 ?_
                    refine s_callV (rvf := fun x => some (.int x)) (st := [.int (x5 - (1 : Int32)), rB (xD X).1 o]) (fr := 0) (lo := 0) (mc := 0) (ms := 0) C [6] wc_X6_read wml_X6_180 wim_X6_read wsl_6_X6_read dX6_work_150 (As := [.inl (x5 - (1 : Int32))]) rfl hf (fun x h' hF => c_X6_read _ _ _ _ _ (x, h') hF) rfl (Nat.le_of_ble_eq_true rfl) (room_ok hX (Nat.le_of_ble_eq_true rfl) (Nat.le_of_ble_eq_true rfl)) (cell_ok hX (Nat.le_of_ble_eq_true rfl) (Nat.le_of_ble_eq_true rfl)) (fun v23 h22 hf => ?_)
                    refine s_if_ne (tgt := 160) C dX6_work_153 (by decide) hf (fun hf => ?_) (fun hf => ?_)
                    · refine s_iconst C dX6_work_160 (v := (0 : Int32)) (by decide) ?_
                      refine s_weak (lv' := [some (rB (xD X).1 o), none, none, some (.int ((a1 * (161 : Int32)) + v4)), none, some (.int x6), some (.int x7), some (.int x8), none]) ⟨rfl, ⟨rfl, ⟨rfl, ⟨rfl, ⟨rfl, trivial⟩⟩⟩⟩⟩ ?_
                      exact k161 _ _ hf
                    · refine s_iconst C dX6_work_156 (v := (1 : Int32)) (by decide) ?_
                      refine s_goto (tgt := 161) C dX6_work_157 (by decide) ?_
                      refine s_weak (lv' := [some (rB (xD X).1 o), none, none, some (.int ((a1 * (161 : Int32)) + v4)), none, some (.int x6), some (.int x7), some (.int x8), none]) ⟨rfl, ⟨rfl, ⟨rfl, ⟨rfl, ⟨rfl, trivial⟩⟩⟩⟩⟩ ?_
                      exact k161 _ _ hf
                  · refine s_aload_n C dX6_work_133 rfl ?_
                    refine s_iload C dX6_work_134 rfl ?_
                    refine s_iconst C dX6_work_136 (v := (1 : Int32)) (by decide) ?_
                    refine s_isub C dX6_work_137 ?_
                    refine s_callV (rvf := fun x => some (.int x)) (st := [.int (x5 - (1 : Int32)), rB (xD X).1 o]) (fr := 0) (lo := 0) (mc := 0) (ms := 0) C [6] wc_X6_read wml_X6_180 wim_X6_read wsl_6_X6_read dX6_work_138 (As := [.inl (x5 - (1 : Int32))]) rfl hf (fun x h' hF => c_X6_read _ _ _ _ _ (x, h') hF) rfl (Nat.le_of_ble_eq_true rfl) (room_ok hX (Nat.le_of_ble_eq_true rfl) (Nat.le_of_ble_eq_true rfl)) (cell_ok hX (Nat.le_of_ble_eq_true rfl) (Nat.le_of_ble_eq_true rfl)) (fun v25 h24 hf => ?_)
                    refine s_ineg C dX6_work_141 ?_
                    refine s_goto (tgt := 161) C dX6_work_142 (by decide) ?_
                    refine s_weak (lv' := [some (rB (xD X).1 o), none, none, some (.int ((a1 * (161 : Int32)) + v4)), none, some (.int x6), some (.int x7), some (.int x8), none]) ⟨rfl, ⟨rfl, ⟨rfl, ⟨rfl, ⟨rfl, trivial⟩⟩⟩⟩⟩ ?_
                    exact k161 _ _ hf
                refine s_icmp_eq (tgt := 121) C dX6_work_111 (by decide) hf (fun hf => ?_) (fun hf => ?_)
                · exact k121 hf
                · refine s_iload C dX6_work_114 rfl ?_
                  refine s_bipush C dX6_work_116 (v := (-32 : Int32)) (by decide) ?_
                  refine s_icmp_ne (tgt := 169) C dX6_work_118 (by decide) hf (fun hf => ?_) (fun hf => ?_)
                  · refine s_iload C dX6_work_169 rfl ?_
                    refine s_bipush C dX6_work_171 (v := (-33 : Int32)) (by decide) ?_
                    refine s_jn hf (fun j183 e183 hf => ?_)
                    have k183 : j183  = some r → WW X h9 0 0 183 [some (rB (xD X).1 o), none, none, some (.int ((a1 * (161 : Int32)) + v4)), some (.int x5), some (.int x6), none, some (.int x8), some (.int v13)] [] := by
                      intro  hf
                      rw [e183] at hf
                      refine s_iinc C dX6_work_183 (v := (x5 + (-1))) rfl rfl (by decide) (nc_i rfl) (lv' := [some (rB (xD X).1 o), none, none, some (.int ((a1 * (161 : Int32)) + v4)), some (.int (x5 + (-1))), some (.int x6), none, some (.int x8), some (.int v13)]) rfl ?_
                      refine s_aload_n C dX6_work_186 rfl ?_
                      refine s_iload C dX6_work_187 rfl ?_
                      refine s_callV (rvf := fun x => some (.int x)) (st := []) (fr := 0) (lo := 0) (mc := 0) (ms := 0) C [6] wc_X6_read wml_X6_180 wim_X6_read wsl_6_X6_read dX6_work_189 (As := [.inl (x5 + (-1))]) rfl hf (fun x h' hF => c_X6_read _ _ _ _ _ (x, h') hF) rfl (Nat.le_of_ble_eq_true rfl) (room_ok hX (Nat.le_of_ble_eq_true rfl) (Nat.le_of_ble_eq_true rfl)) (cell_ok hX (Nat.le_of_ble_eq_true rfl) (Nat.le_of_ble_eq_true rfl)) (fun v27 h26 hf => ?_)
                      refine s_jn hf (fun j200 e200 hf => ?_)
                      have k200 : ∀ (x28 : Int32), j200 x28 = some r → WW X h26 0 0 200 [some (rB (xD X).1 o), none, none, some (.int ((a1 * (161 : Int32)) + v4)), some (.int (x5 + (-1))), some (.int x6), none, some (.int x8), some (.int v13)] [.int x28] := by
                        intro x28 hf
                        rw [e200] at hf
                        refine s_iload C dX6_work_200 rfl ?_
                        refine s_bipush C dX6_work_202 (v := (-33 : Int32)) (by decide) ?_
                        refine s_jn hf (fun j212 e212 hf => ?_)
                        have k212 : ∀ (x29 : Int32), j212 x29 = some r → WW X h26 0 0 212 [some (rB (xD X).1 o), none, none, some (.int ((a1 * (161 : Int32)) + v4)), some (.int (x5 + (-1))), some (.int x6), none, some (.int x8), none] [.int x29, .int x28] := by
                          intro x29 hf
                          rw [e212] at hf
                          refine s_jn hf (fun j220 e220 hf => ?_)
                          have k220 : ∀ (x30 : Int32), j220 x30 = some r → WW X h26 0 0 220 [some (rB (xD X).1 o), none, none, some (.int ((a1 * (161 : Int32)) + v4)), some (.int (x5 + (-1))), some (.int x6), none, some (.int x8), none] [.int x30] := by
                            intro x30 hf
                            rw [e220] at hf
                            refine s_istore C dX6_work_220 (by decide) (nc_i rfl) (lv' := [some (rB (xD X).1 o), none, none, some (.int ((a1 * (161 : Int32)) + v4)), some (.int (x5 + (-1))), some (.int x6), some (.int x30), some (.int x8), none]) rfl ?_
                            refine s_goto (tgt := 293) C dX6_work_222 (by decide) ?_
                            exact k293 _ _ _ _ hf
                          refine s_icmp_ne (tgt := 219) C dX6_work_212 (by decide) hf (fun hf => ?_) (fun hf => ?_)
                          · refine s_iconst C dX6_work_219 (v := (0 : Int32)) (by decide) ?_
                            exact k220 _ hf
                          · refine s_iconst C dX6_work_215 (v := (1 : Int32)) (by decide) ?_
                            refine s_goto (tgt := 220) C dX6_work_216 (by decide) ?_
                            exact k220 _ hf
                        refine s_icmp_ne (tgt := 211) C dX6_work_204 (by decide) hf (fun hf => ?_) (fun hf => ?_)
                        · refine s_iconst C dX6_work_211 (v := (0 : Int32)) (by decide) ?_
                          refine s_weak (lv' := [some (rB (xD X).1 o), none, none, some (.int ((a1 * (161 : Int32)) + v4)), some (.int (x5 + (-1))), some (.int x6), none, some (.int x8), none]) ⟨rfl, ⟨rfl, ⟨rfl, ⟨rfl, ⟨rfl, trivial⟩⟩⟩⟩⟩ ?_
                          exact k212 _ hf
                        · refine s_iconst C dX6_work_207 (v := (1 : Int32)) (by decide) ?_
                          refine s_goto (tgt := 212) C dX6_work_208 (by decide) ?_
                          refine s_weak (lv' := [some (rB (xD X).1 o), none, none, some (.int ((a1 * (161 : Int32)) + v4)), some (.int (x5 + (-1))), some (.int x6), none, some (.int x8), none]) ⟨rfl, ⟨rfl, ⟨rfl, ⟨rfl, ⟨rfl, trivial⟩⟩⟩⟩⟩ ?_
                          exact k212 _ hf
                      refine s_if_eq (tgt := 199) C dX6_work_192 (by decide) hf (fun hf => ?_) (fun hf => ?_)
                      · refine s_iconst C dX6_work_199 (v := (0 : Int32)) (by decide) ?_
                        exact k200 _ hf
                      · refine s_iconst C dX6_work_195 (v := (1 : Int32)) (by decide) ?_
                        refine s_goto (tgt := 200) C dX6_work_196 (by decide) ?_
                        exact k200 _ hf
                    refine s_icmp_eq (tgt := 183) C dX6_work_173 (by decide) hf (fun hf => ?_) (fun hf => ?_)
                    · refine s_weak (lv' := [some (rB (xD X).1 o), none, none, some (.int ((a1 * (161 : Int32)) + v4)), some (.int x5), some (.int x6), none, some (.int x8), some (.int v13)]) ⟨rfl, ⟨rfl, ⟨rfl, ⟨rfl, ⟨rfl, ⟨rfl, trivial⟩⟩⟩⟩⟩⟩ ?_
                      exact k183 hf
                    · refine s_iload C dX6_work_176 rfl ?_
                      refine s_bipush C dX6_work_178 (v := (-34 : Int32)) (by decide) ?_
                      refine s_icmp_ne (tgt := 225) C dX6_work_180 (by decide) hf (fun hf => ?_) (fun hf => ?_)
                      · refine s_iload C dX6_work_225 rfl ?_
                        refine s_bipush C dX6_work_227 (v := (-35 : Int32)) (by decide) ?_
                        refine s_icmp_ne (tgt := 262) C dX6_work_229 (by decide) hf (fun hf => ?_) (fun hf => ?_)
                        · refine s_aload_n C dX6_work_262 rfl ?_
                          refine s_iload C dX6_work_263 rfl ?_
                          refine s_iconst C dX6_work_265 (v := (2 : Int32)) (by decide) ?_
                          refine s_isub C dX6_work_266 ?_
                          refine s_iload C dX6_work_267 rfl ?_
                          refine s_aload_n C dX6_work_269 rfl ?_
                          refine s_iload C dX6_work_270 rfl ?_
                          refine s_iconst C dX6_work_272 (v := (2 : Int32)) (by decide) ?_
                          refine s_isub C dX6_work_273 ?_
                          refine s_callV (rvf := fun x => some (.int x)) (st := [.int v13, .int (x5 - (2 : Int32)), rB (xD X).1 o]) (fr := 0) (lo := 0) (mc := 0) (ms := 0) C [6] wc_X6_read wml_X6_180 wim_X6_read wsl_6_X6_read dX6_work_274 (As := [.inl (x5 - (2 : Int32))]) rfl hf (fun x h' hF => c_X6_read _ _ _ _ _ (x, h') hF) rfl (Nat.le_of_ble_eq_true rfl) (room_ok hX (Nat.le_of_ble_eq_true rfl) (Nat.le_of_ble_eq_true rfl)) (cell_ok hX (Nat.le_of_ble_eq_true rfl) (Nat.le_of_ble_eq_true rfl)) (fun v32 h31 hf => ?_)
                          refine s_aload_n C dX6_work_277 rfl ?_
                          refine s_iload C dX6_work_278 rfl ?_
                          refine s_iconst C dX6_work_280 (v := (1 : Int32)) (by decide) ?_
                          refine s_isub C dX6_work_281 ?_
                          refine s_callV (rvf := fun x => some (.int x)) (st := [.int v32, .int v13, .int (x5 - (2 : Int32)), rB (xD X).1 o]) (fr := 0) (lo := 0) (mc := 0) (ms := 0) C [6] wc_X6_read wml_X6_180 wim_X6_read wsl_6_X6_read dX6_work_282 (As := [.inl (x5 - (1 : Int32))]) rfl hf (fun x h' hF => c_X6_read _ _ _ _ _ (x, h') hF) rfl (Nat.le_of_ble_eq_true rfl) (room_ok hX (Nat.le_of_ble_eq_true rfl) (Nat.le_of_ble_eq_true rfl)) (cell_ok hX (Nat.le_of_ble_eq_true rfl) (Nat.le_of_ble_eq_true rfl)) (fun v34 h33 hf => ?_)
                          refine s_callS (rvf := fun x => some (.int x)) (st := [.int (x5 - (2 : Int32)), rB (xD X).1 o]) (fr := 0) (lo := 0) (mc := 0) (ms := 0) C wc_X6_ofTwo wml_X6_183 wst_X6_ofTwo dX6_work_285 (As := [.inl v13, .inl v32, .inl v34]) rfl hf (fun x h' hF => c_X6_ofTwo _ _ _ _ _ _ (x, h') hF) rfl (Nat.le_of_ble_eq_true rfl) (room_ok hX (Nat.le_of_ble_eq_true rfl) (Nat.le_of_ble_eq_true rfl)) (cell_ok hX (Nat.le_of_ble_eq_true rfl) (Nat.le_of_ble_eq_true rfl)) (fun v36 h35 hf => ?_)
                          refine s_callV (rvf := fun x => some (.int x)) (st := []) (fr := 0) (lo := 0) (mc := 0) (ms := 0) C [6] wc_X6_push wml_X6_177 wim_X6_push wsl_6_X6_push dX6_work_288 (As := [.inl (x5 - (2 : Int32)), .inl v36]) rfl hf (fun x h' hF => c_X6_push _ _ _ _ _ _ (x, h') hF) rfl (Nat.le_of_ble_eq_true rfl) (room_ok hX (Nat.le_of_ble_eq_true rfl) (Nat.le_of_ble_eq_true rfl)) (cell_ok hX (Nat.le_of_ble_eq_true rfl) (Nat.le_of_ble_eq_true rfl)) (fun v38 h37 hf => ?_)
                          refine s_istore C dX6_work_291 (by decide) (nc_i rfl) (lv' := [some (rB (xD X).1 o), none, none, some (.int ((a1 * (161 : Int32)) + v4)), some (.int v38), some (.int x6), some (.int x7), some (.int x8), some (.int v13)]) rfl ?_
                          refine s_weak (lv' := [some (rB (xD X).1 o), none, none, some (.int ((a1 * (161 : Int32)) + v4)), some (.int v38), some (.int x6), some (.int x7), some (.int x8), none]) ⟨rfl, ⟨rfl, ⟨rfl, ⟨rfl, ⟨rfl, ⟨rfl, trivial⟩⟩⟩⟩⟩⟩ ?_
                          exact k293 _ _ _ _ hf
                        · refine s_iinc C dX6_work_232 (v := (x5 + (-1))) rfl rfl (by decide) (nc_i rfl) (lv' := [some (rB (xD X).1 o), none, none, some (.int ((a1 * (161 : Int32)) + v4)), some (.int (x5 + (-1))), some (.int x6), some (.int x7), some (.int x8), some (.int v13)]) rfl ?_
                          refine s_iload C dX6_work_235 rfl ?_
                          refine s_if_eq (tgt := 253) C dX6_work_237 (by decide) hf (fun hf => ?_) (fun hf => ?_)
                          · refine s_iinc C dX6_work_253 (v := (x6 + 1)) rfl rfl (by decide) (nc_i rfl) (lv' := [some (rB (xD X).1 o), none, none, some (.int ((a1 * (161 : Int32)) + v4)), some (.int (x5 + (-1))), some (.int (x6 + 1)), some (.int x7), some (.int x8), some (.int v13)]) rfl ?_
                            refine s_iconst C dX6_work_256 (v := (1 : Int32)) (by decide) ?_
                            refine s_istore C dX6_work_257 (by decide) (nc_i rfl) (lv' := [some (rB (xD X).1 o), none, none, some (.int ((a1 * (161 : Int32)) + v4)), some (.int (x5 + (-1))), some (.int (x6 + 1)), some (.int (1 : Int32)), some (.int x8), some (.int v13)]) rfl ?_
                            refine s_goto (tgt := 293) C dX6_work_259 (by decide) ?_
                            refine s_weak (lv' := [some (rB (xD X).1 o), none, none, some (.int ((a1 * (161 : Int32)) + v4)), some (.int (x5 + (-1))), some (.int (x6 + 1)), some (.int (1 : Int32)), some (.int x8), none]) ⟨rfl, ⟨rfl, ⟨rfl, ⟨rfl, ⟨rfl, ⟨rfl, trivial⟩⟩⟩⟩⟩⟩ ?_
                            exact k293 _ _ _ _ hf
                          · refine s_aload_n C dX6_work_240 rfl ?_
                            refine s_iload C dX6_work_241 rfl ?_
                            refine s_putI C fl_X6_18 (by decide) dX6_work_243 hf (fun h39 hf => ?_)
                            refine s_aload_n C dX6_work_246 rfl ?_
                            refine s_iload C dX6_work_247 rfl ?_
                            refine s_callV (rvf := fun x => some (.int x)) (st := []) (fr := 0) (lo := 0) (mc := 0) (ms := 0) C [6] wc_X6_read wml_X6_180 wim_X6_read wsl_6_X6_read dX6_work_249 (As := [.inl (x5 + (-1))]) rfl hf (fun x h' hF => c_X6_read _ _ _ _ _ (x, h') hF) rfl (Nat.le_of_ble_eq_true rfl) (room_ok hX (Nat.le_of_ble_eq_true rfl) (Nat.le_of_ble_eq_true rfl)) (cell_ok hX (Nat.le_of_ble_eq_true rfl) (Nat.le_of_ble_eq_true rfl)) (fun v41 h40 hf => ?_)
                            exact s_ireturn C E dX6_work_252 hf (Nat.le_of_ble_eq_true rfl) (Nat.le_of_ble_eq_true rfl)
                      · refine s_weak (lv' := [some (rB (xD X).1 o), none, none, some (.int ((a1 * (161 : Int32)) + v4)), some (.int x5), some (.int x6), none, some (.int x8), some (.int v13)]) ⟨rfl, ⟨rfl, ⟨rfl, ⟨rfl, ⟨rfl, ⟨rfl, trivial⟩⟩⟩⟩⟩⟩ ?_
                        exact k183 hf
                  · exact k121 hf
              · refine s_aload_n C dX6_work_78 rfl ?_
                refine s_iload C dX6_work_79 rfl ?_
                refine s_iload C dX6_work_81 rfl ?_
                refine s_jn hf (fun j99 e99 hf => ?_)
                have k99 : ∀ (x42 : Int32) (h43 : AH), j99 x42 h43 = some r → WW X h43 0 0 99 [some (rB (xD X).1 o), none, none, some (.int ((a1 * (161 : Int32)) + v4)), none, some (.int x6), some (.int x7), some (.int x8), none] [.int x42, .int x5, rB (xD X).1 o] := by
                  intro x42 h43 hf
                  rw [e99] at hf
                  refine s_callV (rvf := fun x => some (.int x)) (st := []) (fr := 0) (lo := 0) (mc := 0) (ms := 0) C [6] wc_X6_push wml_X6_177 wim_X6_push wsl_6_X6_push dX6_work_99 (As := [.inl x5, .inl x42]) rfl hf (fun x h' hF => c_X6_push _ _ _ _ _ _ (x, h') hF) rfl (Nat.le_of_ble_eq_true rfl) (room_ok hX (Nat.le_of_ble_eq_true rfl) (Nat.le_of_ble_eq_true rfl)) (cell_ok hX (Nat.le_of_ble_eq_true rfl) (Nat.le_of_ble_eq_true rfl)) (fun v45 h44 hf => ?_)
                  refine s_istore C dX6_work_102 (by decide) (nc_i rfl) (lv' := [some (rB (xD X).1 o), none, none, some (.int ((a1 * (161 : Int32)) + v4)), some (.int v45), some (.int x6), some (.int x7), some (.int x8), none]) rfl ?_
                  refine s_goto (tgt := 293) C dX6_work_104 (by decide) ?_
                  exact k293 _ _ _ _ hf
                refine s_if_lt (tgt := 91) C dX6_work_83 (by decide) hf (fun hf => ?_) (fun hf => ?_)
                · refine s_aload_n C dX6_work_91 rfl ?_
                  refine s_iconst C dX6_work_92 (v := (-1 : Int32)) (by decide) ?_
                  refine s_iload C dX6_work_93 rfl ?_
                  refine s_isub C dX6_work_95 ?_
                  refine s_callV (rvf := fun x => some (.int x)) (st := [.int x5, rB (xD X).1 o]) (fr := 2) (lo := 46) (mc := 0) (ms := 0) C [6] wc_X6_numberOf wml_X6_174 wim_X6_numberOf wsl_6_X6_numberOf dX6_work_96 (As := [.inl ((-1 : Int32) - v13)]) rfl hf (fun x h' hF => c_X6_numberOf _ _ _ _ _ (x, h') hF) rfl (Nat.le_of_ble_eq_true rfl) (room_ok hX (Nat.le_of_ble_eq_true rfl) (Nat.le_of_ble_eq_true rfl)) (cell_ok hX (Nat.le_of_ble_eq_true rfl) (Nat.le_of_ble_eq_true rfl)) (fun v47 h46 hf => ?_)
                  refine s_weak (lv' := [some (rB (xD X).1 o), none, none, some (.int ((a1 * (161 : Int32)) + v4)), none, some (.int x6), some (.int x7), some (.int x8), none]) ⟨rfl, ⟨rfl, ⟨rfl, ⟨rfl, ⟨rfl, trivial⟩⟩⟩⟩⟩ ?_
                  exact k99 _ _ hf
                · refine s_iload C dX6_work_86 rfl ?_
                  refine s_goto (tgt := 99) C dX6_work_88 (by decide) ?_
                  refine s_weak (lv' := [some (rB (xD X).1 o), none, none, some (.int ((a1 * (161 : Int32)) + v4)), none, some (.int x6), some (.int x7), some (.int x8), none]) ⟨rfl, ⟨rfl, ⟨rfl, ⟨rfl, ⟨rfl, trivial⟩⟩⟩⟩⟩ ?_
                  exact k99 _ _ hf
      refine s_weak (lv' := [some (rB (xD X).1 o), none, none, some (.int ((a1 * (161 : Int32)) + v4)), some (.int (0 : Int32)), some (.int (0 : Int32)), some (.int (1 : Int32)), some (.int (a1 * (161 : Int32))), none]) ⟨rfl, ⟨rfl, ⟨rfl, ⟨rfl, ⟨rfl, ⟨rfl, trivial⟩⟩⟩⟩⟩⟩ ?_
      exact k46 lpN _ _ _ _ _ hf
    · refine s_weak (lv' := [none, none, none, none, none, none, none, none, none]) trivial ?_
      exact k17 hf
/-- HillBoxes$Rules.answer(II)I -/
noncomputable def f_X6_answer (o : Option Nat) (a1 : Int32) (a2 : Int32) (h : AH) : Option (Int32 × AH) :=
  fR h [6] o 3 fun v1 =>
  fI h [3] v1 0 fun v2 =>
  rO h [6] o <| cl (f_X6_ruleFor o a1 a2 v2 h) fun v4 h3 =>
  if 0 ≤ v4 then
    rO h3 [6] o <| cl (f_X6_work o v4 h3) fun v6 h5 =>
    jn (fun (x7 : Int32) =>
      some (x7, h5)) fun j72 =>
    if a1 = 0 then
      j72 (if (0 : Int32) < (if v6 < (15 : Int32) then v6 else (15 : Int32)) then (if v6 < (15 : Int32) then v6 else (15 : Int32)) else (0 : Int32))
    else
      j72 v6
  else
    pI h3 [6] o 2 (-1 : Int32) fun h8 =>
    jn (fun (x9 : Int32) =>
      some (x9, h8)) fun j44 =>
    jn (
      j44 (0 : Int32)) fun j43 =>
    if a1 < 0 then
      j43
    else
      if (5 : Int32) ≤ a1 then
        j43
      else
        tbI tbUN a1 fun v10 =>
        j44 v10
set_option maxRecDepth 100000 in
set_option maxHeartbeats 4000000 in
theorem c_X6_answer (l : Launch) (D : DT) (o : Option Nat) (a1 : Int32) (a2 : Int32) (h : AH) (r : Int32 × AH) (hf : f_X6_answer o a1 a2 h = some r) : CM l D yX6_answer cX6_answer 5 (some .int) 4 97 0 0 [.inr (.inr o), .inl a1, .inl a2] h (some (.int r.1)) r.2 := by
  refine CM.of (by decide) (Nat.le_of_ble_eq_true rfl) (fun X hl C hD hX hnm E => ?_)
  subst hl
  subst hD
  have C : CX X RX6 cX6_answer 5 := C
  show WW X h 0 0 0 [some (rB (xD X).1 o), some (.int a1), some (.int a2), none, none] []
  unfold f_X6_answer at hf
  refine s_aload_n C dX6_answer_0 rfl ?_
  refine s_iload_n C dX6_answer_1 rfl ?_
  refine s_iload_n C dX6_answer_2 rfl ?_
  refine s_aload_n C dX6_answer_3 rfl ?_
  refine s_getR C fl_X6_41 dX6_answer_4 hf (fun v1 hf => ?_)
  refine s_getI C fl_X6_55 dX6_answer_7 hf (fun v2 hf => ?_)
  refine s_callV (rvf := fun x => some (.int x)) (st := []) (fr := 0) (lo := 0) (mc := 0) (ms := 0) C [6] wc_X6_ruleFor wml_X6_92 wim_X6_ruleFor wsl_6_X6_ruleFor dX6_answer_10 (As := [.inl a1, .inl a2, .inl v2]) rfl hf (fun x h' hF => c_X6_ruleFor _ _ _ _ _ _ _ (x, h') hF) rfl (Nat.le_of_ble_eq_true rfl) (room_ok hX (Nat.le_of_ble_eq_true rfl) (Nat.le_of_ble_eq_true rfl)) (cell_ok hX (Nat.le_of_ble_eq_true rfl) (Nat.le_of_ble_eq_true rfl)) (fun v4 h3 hf => ?_)
  refine s_istore_n C dX6_answer_13 (by decide) (nc_i rfl) (lv' := [some (rB (xD X).1 o), some (.int a1), some (.int a2), some (.int v4), none]) rfl ?_
  refine s_iload_n C dX6_answer_14 rfl ?_
  refine s_if_ge (tgt := 45) C dX6_answer_15 (by decide) hf (fun hf => ?_) (fun hf => ?_)
  · refine s_aload_n C dX6_answer_45 rfl ?_
    refine s_iload_n C dX6_answer_46 rfl ?_
    refine s_callV (rvf := fun x => some (.int x)) (st := []) (fr := 3) (lo := 69) (mc := 0) (ms := 0) C [6] wc_X6_work wml_X6_99 wim_X6_work wsl_6_X6_work dX6_answer_47 (As := [.inl v4]) rfl hf (fun x h' hF => c_X6_work _ _ _ _ _ (x, h') hF) rfl (Nat.le_of_ble_eq_true rfl) (room_ok hX (Nat.le_of_ble_eq_true rfl) (Nat.le_of_ble_eq_true rfl)) (cell_ok hX (Nat.le_of_ble_eq_true rfl) (Nat.le_of_ble_eq_true rfl)) (fun v6 h5 hf => ?_)
    refine s_istore C dX6_answer_50 (by decide) (nc_i rfl) (lv' := [some (rB (xD X).1 o), some (.int a1), some (.int a2), some (.int v4), some (.int v6)]) rfl ?_
    refine s_iload_n C dX6_answer_52 rfl ?_
    refine s_jn hf (fun j72 e72 hf => ?_)
    have k72 : ∀ (x7 : Int32), j72 x7 = some r → WW X h5 0 0 72 [none, none, none, none, none] [.int x7] := by
      intro x7 hf
      rw [e72] at hf
      exact s_ireturn C E dX6_answer_72 hf (Nat.le_of_ble_eq_true rfl) (Nat.le_of_ble_eq_true rfl)
    refine s_if_ne (tgt := 70) C dX6_answer_53 (by decide) hf (fun hf => ?_) (fun hf => ?_)
    · refine s_iload C dX6_answer_70 rfl ?_
      refine s_weak (lv' := [none, none, none, none, none]) trivial ?_
      exact k72 _ hf
    · refine s_iconst C dX6_answer_56 (v := (0 : Int32)) (by decide) ?_
      refine s_bipush C dX6_answer_57 (v := (15 : Int32)) (by decide) ?_
      refine s_iload C dX6_answer_59 rfl ?_
      refine s_mmin C wml_X6_103 wst_mmin wini_math wcd_mmin dX6_answer_61 (Nat.le_of_ble_eq_true rfl) (room_n hX (Nat.le_of_ble_eq_true rfl) (Nat.le_of_ble_eq_true rfl)) (cell_ok hX (Nat.le_of_ble_eq_true rfl) (Nat.le_of_ble_eq_true rfl)) ?_
      refine s_mmax C wml_X6_109 wst_mmax wini_math wcd_mmax dX6_answer_64 (Nat.le_of_ble_eq_true rfl) (room_n hX (Nat.le_of_ble_eq_true rfl) (Nat.le_of_ble_eq_true rfl)) (cell_ok hX (Nat.le_of_ble_eq_true rfl) (Nat.le_of_ble_eq_true rfl)) ?_
      refine s_goto (tgt := 72) C dX6_answer_67 (by decide) ?_
      refine s_weak (lv' := [none, none, none, none, none]) trivial ?_
      exact k72 _ hf
  · refine s_aload_n C dX6_answer_18 rfl ?_
    refine s_iconst C dX6_answer_19 (v := (-1 : Int32)) (by decide) ?_
    refine s_putI C fl_X6_18 (by decide) dX6_answer_20 hf (fun h8 hf => ?_)
    refine s_iload_n C dX6_answer_23 rfl ?_
    refine s_jn hf (fun j44 e44 hf => ?_)
    have k44 : ∀ (x9 : Int32), j44 x9 = some r → WW X h8 0 0 44 [none, none, none, none, none] [.int x9] := by
      intro x9 hf
      rw [e44] at hf
      exact s_ireturn C E dX6_answer_44 hf (Nat.le_of_ble_eq_true rfl) (Nat.le_of_ble_eq_true rfl)
    refine s_jn hf (fun j43 e43 hf => ?_)
    have k43 : j43  = some r → WW X h8 0 0 43 [none, none, none, none, none] [] := by
      intro  hf
      rw [e43] at hf
      refine s_iconst C dX6_answer_43 (v := (0 : Int32)) (by decide) ?_
      exact k44 _ hf
    refine s_if_lt (tgt := 43) C dX6_answer_24 (by decide) hf (fun hf => ?_) (fun hf => ?_)
    · refine s_weak (lv' := [none, none, none, none, none]) trivial ?_
      exact k43 hf
    · refine s_iload_n C dX6_answer_27 rfl ?_
      refine s_getsI C C.2.2.2.2.2.2.2.2.2.1 wfl_X6_96 dX6_answer_28 (fun t28 t28h => ?_)
      refine s_tblen C (v := (5 : Int32)) t28h (by decide) dX6_answer_31 ?_
      refine s_icmp_ge (tgt := 43) C dX6_answer_32 (by decide) hf (fun hf => ?_) (fun hf => ?_)
      · refine s_weak (lv' := [none, none, none, none, none]) trivial ?_
        exact k43 hf
      · refine s_getsI C C.2.2.2.2.2.2.2.2.2.1 wfl_X6_96 dX6_answer_35 (fun t35 t35h => ?_)
        refine s_iload_n C dX6_answer_38 rfl ?_
        refine s_tbI C t35h dX6_answer_39 hf (fun v10 hf => ?_)
        refine s_goto (tgt := 44) C dX6_answer_40 (by decide) ?_
        refine s_weak (lv' := [none, none, none, none, none]) trivial ?_
        exact k44 _ hf
/-- HillBoxes$Rules.askForBox(ILHillBoxes$Finder;LHillBoxes$Box;I)V -/
noncomputable def f_X6_askForBox (o : Option Nat) (a1 : Int32) (a2 : Option Nat) (a3 : Option Nat) (a4 : Int32) (h : AH) : Option (Unit × AH) :=
  pI h [6] o 10 a1 fun h1 =>
  pR h1 [6] o 11 a2 fun h2 =>
  pR h2 [6] o 12 a3 fun h3 =>
  jn (fun (x4 : Int32) =>
    pI h3 [6] o 13 x4 fun h5 =>
    jn (fun (x6 : Int32) =>
      pI h5 [6] o 14 x6 fun h7 =>
      pI h7 [6] o 15 a4 fun h8 =>
      some ((), h8)) fun j44 =>
    if a3 = none then
      j44 (-1 : Int32)
    else
      fI h5 [1] a3 9 fun v9 =>
      j44 v9) fun j28 =>
  if a3 = none then
    j28 (0 : Int32)
  else
    fI h3 [1] a3 1 fun v10 =>
    j28 v10
set_option maxRecDepth 100000 in
set_option maxHeartbeats 4000000 in
theorem c_X6_askForBox (l : Launch) (D : DT) (o : Option Nat) (a1 : Int32) (a2 : Option Nat) (a3 : Option Nat) (a4 : Int32) (h : AH) (r : Unit × AH) (hf : f_X6_askForBox o a1 a2 a3 a4 h = some r) : CM l D yX6_askForBox cX6_askForBox 5 none 0 0 0 0 [.inr (.inr o), .inl a1, .inr (.inr a2), .inr (.inr a3), .inl a4] h none r.2 := by
  refine CM.of (by decide) (Nat.le_of_ble_eq_true rfl) (fun X hl C hD hX hnm E => ?_)
  subst hl
  subst hD
  have C : CX X RX6 cX6_askForBox 5 := C
  show WW X h 0 0 0 [some (rB (xD X).1 o), some (.int a1), some (rB (xD X).1 a2), some (rB (xD X).1 a3), some (.int a4)] []
  unfold f_X6_askForBox at hf
  refine s_aload_n C dX6_askForBox_0 rfl ?_
  refine s_iload_n C dX6_askForBox_1 rfl ?_
  refine s_putI C fl_X6_64 (by decide) dX6_askForBox_2 hf (fun h1 hf => ?_)
  refine s_aload_n C dX6_askForBox_5 rfl ?_
  refine s_aload_n C dX6_askForBox_6 rfl ?_
  refine s_putR C fl_X6_67 dX6_askForBox_7 hf (fun h2 hf => ?_)
  refine s_aload_n C dX6_askForBox_10 rfl ?_
  refine s_aload_n C dX6_askForBox_11 rfl ?_
  refine s_putR C fl_X6_71 dX6_askForBox_12 hf (fun h3 hf => ?_)
  refine s_aload_n C dX6_askForBox_15 rfl ?_
  refine s_aload_n C dX6_askForBox_16 rfl ?_
  refine s_jn hf (fun j28 e28 hf => ?_)
  have k28 : ∀ (x4 : Int32), j28 x4 = some r → WW X h3 0 0 28 [some (rB (xD X).1 o), none, none, some (rB (xD X).1 a3), some (.int a4)] [.int x4, rB (xD X).1 o] := by
    intro x4 hf
    rw [e28] at hf
    refine s_putI C fl_X6_80 (by decide) dX6_askForBox_28 hf (fun h5 hf => ?_)
    refine s_aload_n C dX6_askForBox_31 rfl ?_
    refine s_aload_n C dX6_askForBox_32 rfl ?_
    refine s_jn hf (fun j44 e44 hf => ?_)
    have k44 : ∀ (x6 : Int32), j44 x6 = some r → WW X h5 0 0 44 [some (rB (xD X).1 o), none, none, none, some (.int a4)] [.int x6, rB (xD X).1 o] := by
      intro x6 hf
      rw [e44] at hf
      refine s_putI C fl_X6_86 (by decide) dX6_askForBox_44 hf (fun h7 hf => ?_)
      refine s_aload_n C dX6_askForBox_47 rfl ?_
      refine s_iload C dX6_askForBox_48 rfl ?_
      refine s_putI C fl_X6_89 (by decide) dX6_askForBox_50 hf (fun h8 hf => ?_)
      exact s_return C E dX6_askForBox_53 hf (Nat.le_of_ble_eq_true rfl) (Nat.le_of_ble_eq_true rfl)
    refine s_ifnonnull (tgt := 40) C dX6_askForBox_33 (by decide) hf (fun hf => ?_) (fun hf => ?_)
    · refine s_aload_n C dX6_askForBox_40 rfl ?_
      refine s_getI C fl_X6_83 dX6_askForBox_41 hf (fun v9 hf => ?_)
      refine s_weak (lv' := [some (rB (xD X).1 o), none, none, none, some (.int a4)]) ⟨rfl, ⟨rfl, trivial⟩⟩ ?_
      exact k44 _ hf
    · refine s_iconst C dX6_askForBox_36 (v := (-1 : Int32)) (by decide) ?_
      refine s_goto (tgt := 44) C dX6_askForBox_37 (by decide) ?_
      refine s_weak (lv' := [some (rB (xD X).1 o), none, none, none, some (.int a4)]) ⟨rfl, ⟨rfl, trivial⟩⟩ ?_
      exact k44 _ hf
  refine s_ifnonnull (tgt := 24) C dX6_askForBox_17 (by decide) hf (fun hf => ?_) (fun hf => ?_)
  · refine s_aload_n C dX6_askForBox_24 rfl ?_
    refine s_getI C fl_X6_75 dX6_askForBox_25 hf (fun v10 hf => ?_)
    refine s_weak (lv' := [some (rB (xD X).1 o), none, none, some (rB (xD X).1 a3), some (.int a4)]) ⟨rfl, ⟨rfl, ⟨rfl, trivial⟩⟩⟩ ?_
    exact k28 _ hf
  · refine s_iconst C dX6_askForBox_20 (v := (0 : Int32)) (by decide) ?_
    refine s_goto (tgt := 28) C dX6_askForBox_21 (by decide) ?_
    refine s_weak (lv' := [some (rB (xD X).1 o), none, none, some (rB (xD X).1 a3), some (.int a4)]) ⟨rfl, ⟨rfl, ⟨rfl, trivial⟩⟩⟩ ?_
    exact k28 _ hf
/-- HillBoxes$Box.liesNow()I -/
noncomputable def f_X1_liesNow (o : Option Nat) (h : AH) : Option (Int32 × AH) :=
  fI h [1] o 10 fun v1 =>
  jn (fun (x2 : Int32) =>
    some (x2, h)) fun j25 =>
  if v1 ≤ 0 then
    fI h [1] o 9 fun v3 =>
    j25 v3
  else
    fR h [1] o 4 fun v4 =>
    fI h [1] o 10 fun v5 =>
    aI h 20 v4 (v5 - (1 : Int32)) fun v6 =>
    j25 v6
set_option maxRecDepth 100000 in
set_option maxHeartbeats 4000000 in
theorem c_X1_liesNow (l : Launch) (D : DT) (o : Option Nat) (h : AH) (r : Int32 × AH) (hf : f_X1_liesNow o h = some r) : CM l D yX1_liesNow cX1_liesNow 1 (some .int) 0 0 0 0 [.inr (.inr o)] h (some (.int r.1)) r.2 := by
  refine CM.of (by decide) (Nat.le_of_ble_eq_true rfl) (fun X hl C hD hX hnm E => ?_)
  subst hl
  subst hD
  have C : CX X RX1 cX1_liesNow 1 := C
  show WW X h 0 0 0 [some (rB (xD X).1 o)] []
  unfold f_X1_liesNow at hf
  refine s_aload_n C dX1_liesNow_0 rfl ?_
  refine s_getI C fl_X1_52 dX1_liesNow_1 hf (fun v1 hf => ?_)
  refine s_jn hf (fun j25 e25 hf => ?_)
  have k25 : ∀ (x2 : Int32), j25 x2 = some r → WW X h 0 0 25 [none] [.int x2] := by
    intro x2 hf
    rw [e25] at hf
    exact s_ireturn C E dX1_liesNow_25 hf (Nat.le_of_ble_eq_true rfl) (Nat.le_of_ble_eq_true rfl)
  refine s_if_le (tgt := 21) C dX1_liesNow_4 (by decide) hf (fun hf => ?_) (fun hf => ?_)
  · refine s_aload_n C dX1_liesNow_21 rfl ?_
    refine s_getI C fl_X1_34 dX1_liesNow_22 hf (fun v3 hf => ?_)
    refine s_weak (lv' := [none]) trivial ?_
    exact k25 _ hf
  · refine s_aload_n C dX1_liesNow_7 rfl ?_
    refine s_getR C fl_X1_9 dX1_liesNow_8 hf (fun v4 hf => ?_)
    refine s_aload_n C dX1_liesNow_11 rfl ?_
    refine s_getI C fl_X1_52 dX1_liesNow_12 hf (fun v5 hf => ?_)
    refine s_iconst C dX1_liesNow_15 (v := (1 : Int32)) (by decide) ?_
    refine s_isub C dX1_liesNow_16 ?_
    refine s_iaload C dX1_liesNow_17 hf (fun v6 hf => ?_)
    refine s_goto (tgt := 25) C dX1_liesNow_18 (by decide) ?_
    refine s_weak (lv' := [none]) trivial ?_
    exact k25 _ hf
/-- HillBoxes$Rules.isNearKnown(II)Z -/
noncomputable def f_X6_isNearKnown (o : Option Nat) (a1 : Int32) (a2 : Int32) (h : AH) : Option (Int32 × AH) :=
  lp (fun _ _ => none) (fun (L2 : Int32 → AH → Option (Int32 × AH)) (x1 : Int32) (h2 : AH) =>
    fR h2 [6] o 3 fun v3 =>
    fI h2 [3] v3 3 fun v4 =>
    if v4 ≤ x1 then
      rz (0 : Int32) h2
    else
      fR h2 [6] o 3 fun v5 =>
      rO h2 [3] v5 <| cl (f_X3_boxAt v5 x1 h2) fun v7 h6 =>
      jn (fun (h8 : AH) =>
        L2 (x1 + 1) h8) fun j64 =>
      if v7 = none then
        j64 h6
      else
        rO h6 [1] v7 <| cl (f_X1_isDown v7 h6) fun v10 h9 =>
        if v10 = 0 then
          rO h9 [1] v7 <| cl (f_X1_liesNow v7 h9) fun v12 h11 =>
          cl (f_X11_far a1 v12 h11) fun v14 h13 =>
          jn (fun (h15 : AH) =>
            rz (1 : Int32) h15) fun j62 =>
          if v14 < a2 then
            j62 h13
          else
            fI h13 [1] v7 9 fun v16 =>
            cl (f_X11_far a1 v16 h13) fun v18 h17 =>
            if a2 ≤ v18 then
              j64 h17
            else
              j62 h17
        else
          j64 h9) lpN (0 : Int32) h
set_option maxRecDepth 100000 in
set_option maxHeartbeats 4000000 in
theorem c_X6_isNearKnown (l : Launch) (D : DT) (o : Option Nat) (a1 : Int32) (a2 : Int32) (h : AH) (r : Int32 × AH) (hf : f_X6_isNearKnown o a1 a2 h = some r) : CM l D yX6_isNearKnown cX6_isNearKnown 5 (some .boolean) 2 42 0 0 [.inr (.inr o), .inl a1, .inl a2] h (some (.int r.1)) r.2 := by
  refine CM.of (by decide) (Nat.le_of_ble_eq_true rfl) (fun X hl C hD hX hnm E => ?_)
  subst hl
  subst hD
  have C : CX X RX6 cX6_isNearKnown 5 := C
  show WW X h 0 0 0 [some (rB (xD X).1 o), some (.int a1), some (.int a2), none, none] []
  unfold f_X6_isNearKnown at hf
  refine s_iconst C dX6_isNearKnown_0 (v := (0 : Int32)) (by decide) ?_
  refine s_istore_n C dX6_isNearKnown_1 (by decide) (nc_i rfl) (lv' := [some (rB (xD X).1 o), some (.int a1), some (.int a2), some (.int (0 : Int32)), none]) rfl ?_
  refine s_lp2 hf (fun G2 z2 q2 hf => ?_)
  have k2 : ∀ (n : Nat) (x1 : Int32) (h2 : AH), G2 n x1 h2 = some r → WW X h2 0 0 2 [some (rB (xD X).1 o), some (.int a1), some (.int a2), some (.int x1), none] [] := by
    intro n
    induction n with
    | zero =>
      intro x1 h2 hf
      rw [z2] at hf
      cases hf
    | succ n ih2 =>
      intro x1 h2 hf
      have hf := (q2 n x1 h2).symm.trans hf
      refine s_iload_n C dX6_isNearKnown_2 rfl ?_
      refine s_aload_n C dX6_isNearKnown_3 rfl ?_
      refine s_getR C fl_X6_41 dX6_isNearKnown_4 hf (fun v3 hf => ?_)
      refine s_getI C fl_X6_160 dX6_isNearKnown_7 hf (fun v4 hf => ?_)
      refine s_icmp_ge (tgt := 70) C dX6_isNearKnown_10 (by decide) hf (fun hf => ?_) (fun hf => ?_)
      · refine s_iconst C dX6_isNearKnown_70 (v := (0 : Int32)) (by decide) ?_
        exact s_zreturn C E dX6_isNearKnown_71 hf (Nat.le_of_ble_eq_true rfl) (Nat.le_of_ble_eq_true rfl)
      · refine s_aload_n C dX6_isNearKnown_13 rfl ?_
        refine s_getR C fl_X6_41 dX6_isNearKnown_14 hf (fun v5 hf => ?_)
        refine s_iload_n C dX6_isNearKnown_17 rfl ?_
        refine s_callV (rvf := fun x => some (rB (xD X).1 x)) (st := []) (fr := 0) (lo := 0) (mc := 0) (ms := 0) C [3] wc_X3_boxAt wml_X6_127 wim_X3_boxAt wsl_3_X3_boxAt dX6_isNearKnown_18 (As := [.inl x1]) rfl hf (fun x h' hF => c_X3_boxAt _ _ _ _ _ (x, h') hF) rfl (Nat.le_of_ble_eq_true rfl) (room_ok hX (Nat.le_of_ble_eq_true rfl) (Nat.le_of_ble_eq_true rfl)) (cell_ok hX (Nat.le_of_ble_eq_true rfl) (Nat.le_of_ble_eq_true rfl)) (fun v7 h6 hf => ?_)
        refine s_astore C dX6_isNearKnown_21 (by decide) (nc_i rfl) (lv' := [some (rB (xD X).1 o), some (.int a1), some (.int a2), some (.int x1), some (rB (xD X).1 v7)]) rfl ?_
        refine s_aload C dX6_isNearKnown_23 rfl ?_
        refine s_jn hf (fun j64 e64 hf => ?_)
        have k64 : ∀ (h8 : AH), j64 h8 = some r → WW X h8 0 0 64 [some (rB (xD X).1 o), some (.int a1), some (.int a2), some (.int x1), none] [] := by
          intro h8 hf
          rw [e64] at hf
          refine s_iinc C dX6_isNearKnown_64 (v := (x1 + 1)) rfl rfl (by decide) (nc_i rfl) (lv' := [some (rB (xD X).1 o), some (.int a1), some (.int a2), some (.int (x1 + 1)), none]) rfl ?_
          refine s_goto (tgt := 2) C dX6_isNearKnown_67 (by decide) ?_
          exact ih2 _ _ hf
        refine s_ifnull (tgt := 64) C dX6_isNearKnown_25 (by decide) hf (fun hf => ?_) (fun hf => ?_)
        · refine s_weak (lv' := [some (rB (xD X).1 o), some (.int a1), some (.int a2), some (.int x1), none]) ⟨rfl, ⟨rfl, ⟨rfl, ⟨rfl, trivial⟩⟩⟩⟩ ?_
          exact k64 _ hf
        · refine s_aload C dX6_isNearKnown_28 rfl ?_
          refine s_callV (rvf := fun x => some (.int x)) (st := []) (fr := 0) (lo := 0) (mc := 0) (ms := 0) C [1] wc_X1_isDown wml_X6_163 wim_X1_isDown wsl_1_X1_isDown dX6_isNearKnown_30 (As := []) rfl hf (fun x h' hF => c_X1_isDown _ _ _ _ (x, h') hF) rfl (Nat.le_of_ble_eq_true rfl) (room_ok hX (Nat.le_of_ble_eq_true rfl) (Nat.le_of_ble_eq_true rfl)) (cell_ok hX (Nat.le_of_ble_eq_true rfl) (Nat.le_of_ble_eq_true rfl)) (fun v10 h9 hf => ?_)
          refine s_if_ne (tgt := 64) C dX6_isNearKnown_33 (by decide) hf (fun hf => ?_) (fun hf => ?_)
          · refine s_weak (lv' := [some (rB (xD X).1 o), some (.int a1), some (.int a2), some (.int x1), none]) ⟨rfl, ⟨rfl, ⟨rfl, ⟨rfl, trivial⟩⟩⟩⟩ ?_
            exact k64 _ hf
          · refine s_iload_n C dX6_isNearKnown_36 rfl ?_
            refine s_aload C dX6_isNearKnown_37 rfl ?_
            refine s_callV (rvf := fun x => some (.int x)) (st := [.int a1]) (fr := 0) (lo := 0) (mc := 0) (ms := 0) C [1] wc_X1_liesNow wml_X6_166 wim_X1_liesNow wsl_1_X1_liesNow dX6_isNearKnown_39 (As := []) rfl hf (fun x h' hF => c_X1_liesNow _ _ _ _ (x, h') hF) rfl (Nat.le_of_ble_eq_true rfl) (room_ok hX (Nat.le_of_ble_eq_true rfl) (Nat.le_of_ble_eq_true rfl)) (cell_ok hX (Nat.le_of_ble_eq_true rfl) (Nat.le_of_ble_eq_true rfl)) (fun v12 h11 hf => ?_)
            refine s_callSN (rvf := fun x => some (.int x)) (st := []) (fr := 1) (lo := 21) (mc := 0) (ms := 0) C wc_X11_far wmn_X6_169 wst_X11_far dX6_isNearKnown_42 (As := [.inl a1, .inl v12]) rfl hf (fun x h' hF => c_X11_far _ _ _ _ _ (x, h') hF) rfl (Nat.le_of_ble_eq_true rfl) (room_ok hX (Nat.le_of_ble_eq_true rfl) (Nat.le_of_ble_eq_true rfl)) (cell_ok hX (Nat.le_of_ble_eq_true rfl) (Nat.le_of_ble_eq_true rfl)) (fun v14 h13 hf => ?_)
            refine s_iload_n C dX6_isNearKnown_45 rfl ?_
            refine s_jn hf (fun j62 e62 hf => ?_)
            have k62 : ∀ (h15 : AH), j62 h15 = some r → WW X h15 0 0 62 [none, none, none, none, none] [] := by
              intro h15 hf
              rw [e62] at hf
              refine s_iconst C dX6_isNearKnown_62 (v := (1 : Int32)) (by decide) ?_
              exact s_zreturn C E dX6_isNearKnown_63 hf (Nat.le_of_ble_eq_true rfl) (Nat.le_of_ble_eq_true rfl)
            refine s_icmp_lt (tgt := 62) C dX6_isNearKnown_46 (by decide) hf (fun hf => ?_) (fun hf => ?_)
            · refine s_weak (lv' := [none, none, none, none, none]) trivial ?_
              exact k62 _ hf
            · refine s_iload_n C dX6_isNearKnown_49 rfl ?_
              refine s_aload C dX6_isNearKnown_50 rfl ?_
              refine s_getI C fl_X6_83 dX6_isNearKnown_52 hf (fun v16 hf => ?_)
              refine s_callSN (rvf := fun x => some (.int x)) (st := []) (fr := 1) (lo := 21) (mc := 0) (ms := 0) C wc_X11_far wmn_X6_169 wst_X11_far dX6_isNearKnown_55 (As := [.inl a1, .inl v16]) rfl hf (fun x h' hF => c_X11_far _ _ _ _ _ (x, h') hF) rfl (Nat.le_of_ble_eq_true rfl) (room_ok hX (Nat.le_of_ble_eq_true rfl) (Nat.le_of_ble_eq_true rfl)) (cell_ok hX (Nat.le_of_ble_eq_true rfl) (Nat.le_of_ble_eq_true rfl)) (fun v18 h17 hf => ?_)
              refine s_iload_n C dX6_isNearKnown_58 rfl ?_
              refine s_icmp_ge (tgt := 64) C dX6_isNearKnown_59 (by decide) hf (fun hf => ?_) (fun hf => ?_)
              · refine s_weak (lv' := [some (rB (xD X).1 o), some (.int a1), some (.int a2), some (.int x1), none]) ⟨rfl, ⟨rfl, ⟨rfl, ⟨rfl, trivial⟩⟩⟩⟩ ?_
                exact k64 _ hf
              · refine s_weak (lv' := [none, none, none, none, none]) trivial ?_
                exact k62 _ hf
  exact k2 lpN _ _ hf
/-- HillBoxes$Rules.isNearSecret(II)Z -/
noncomputable def f_X6_isNearSecret (o : Option Nat) (a1 : Int32) (a2 : Int32) (h : AH) : Option (Int32 × AH) :=
  lp (fun _ _ => none) (fun (L2 : Int32 → AH → Option (Int32 × AH)) (x1 : Int32) (h2 : AH) =>
    fR h2 [6] o 3 fun v3 =>
    fI h2 [3] v3 3 fun v4 =>
    if v4 ≤ x1 then
      rz (0 : Int32) h2
    else
      fR h2 [6] o 3 fun v5 =>
      rO h2 [3] v5 <| cl (f_X3_boxAt v5 x1 h2) fun v7 h6 =>
      lp (fun _ _ _ => none) (fun (L26 : Int32 → Int32 → AH → Option (Int32 × AH)) (x8 : Int32) (x9 : Int32) (h10 : AH) =>
        jn (fun (h11 : AH) =>
          L2 (x8 + 1) h11) fun j75 =>
        if v7 = none then
          j75 h10
        else
          rO h10 [1] v7 <| cl (f_X1_isDown v7 h10) fun v13 h12 =>
          if v13 = 0 then
            fI h12 [1] v7 10 fun v14 =>
            if (v14 - (1 : Int32)) ≤ x9 then
              j75 h12
            else
              fR h12 [1] v7 4 fun v15 =>
              aI h12 20 v15 x9 fun v16 =>
              cl (f_X11_far a1 v16 h12) fun v18 h17 =>
              if a2 ≤ v18 then
                L26 x8 (x9 + 1) h17
              else
                rz (1 : Int32) h17
          else
            j75 h12) lpN x1 (0 : Int32) h6) lpN (0 : Int32) h
set_option maxRecDepth 100000 in
set_option maxHeartbeats 4000000 in
theorem c_X6_isNearSecret (l : Launch) (D : DT) (o : Option Nat) (a1 : Int32) (a2 : Int32) (h : AH) (r : Int32 × AH) (hf : f_X6_isNearSecret o a1 a2 h = some r) : CM l D yX6_isNearSecret cX6_isNearSecret 6 (some .boolean) 2 42 0 0 [.inr (.inr o), .inl a1, .inl a2] h (some (.int r.1)) r.2 := by
  refine CM.of (by decide) (Nat.le_of_ble_eq_true rfl) (fun X hl C hD hX hnm E => ?_)
  subst hl
  subst hD
  have C : CX X RX6 cX6_isNearSecret 6 := C
  show WW X h 0 0 0 [some (rB (xD X).1 o), some (.int a1), some (.int a2), none, none, none] []
  unfold f_X6_isNearSecret at hf
  refine s_iconst C dX6_isNearSecret_0 (v := (0 : Int32)) (by decide) ?_
  refine s_istore_n C dX6_isNearSecret_1 (by decide) (nc_i rfl) (lv' := [some (rB (xD X).1 o), some (.int a1), some (.int a2), some (.int (0 : Int32)), none, none]) rfl ?_
  refine s_lp2 hf (fun G2 z2 q2 hf => ?_)
  have k2 : ∀ (n : Nat) (x1 : Int32) (h2 : AH), G2 n x1 h2 = some r → WW X h2 0 0 2 [some (rB (xD X).1 o), some (.int a1), some (.int a2), some (.int x1), none, none] [] := by
    intro n
    induction n with
    | zero =>
      intro x1 h2 hf
      rw [z2] at hf
      cases hf
    | succ n ih2 =>
      intro x1 h2 hf
      have hf := (q2 n x1 h2).symm.trans hf
      refine s_iload_n C dX6_isNearSecret_2 rfl ?_
      refine s_aload_n C dX6_isNearSecret_3 rfl ?_
      refine s_getR C fl_X6_41 dX6_isNearSecret_4 hf (fun v3 hf => ?_)
      refine s_getI C fl_X6_160 dX6_isNearSecret_7 hf (fun v4 hf => ?_)
      refine s_icmp_ge (tgt := 81) C dX6_isNearSecret_10 (by decide) hf (fun hf => ?_) (fun hf => ?_)
      · refine s_iconst C dX6_isNearSecret_81 (v := (0 : Int32)) (by decide) ?_
        exact s_zreturn C E dX6_isNearSecret_82 hf (Nat.le_of_ble_eq_true rfl) (Nat.le_of_ble_eq_true rfl)
      · refine s_aload_n C dX6_isNearSecret_13 rfl ?_
        refine s_getR C fl_X6_41 dX6_isNearSecret_14 hf (fun v5 hf => ?_)
        refine s_iload_n C dX6_isNearSecret_17 rfl ?_
        refine s_callV (rvf := fun x => some (rB (xD X).1 x)) (st := []) (fr := 0) (lo := 0) (mc := 0) (ms := 0) C [3] wc_X3_boxAt wml_X6_127 wim_X3_boxAt wsl_3_X3_boxAt dX6_isNearSecret_18 (As := [.inl x1]) rfl hf (fun x h' hF => c_X3_boxAt _ _ _ _ _ (x, h') hF) rfl (Nat.le_of_ble_eq_true rfl) (room_ok hX (Nat.le_of_ble_eq_true rfl) (Nat.le_of_ble_eq_true rfl)) (cell_ok hX (Nat.le_of_ble_eq_true rfl) (Nat.le_of_ble_eq_true rfl)) (fun v7 h6 hf => ?_)
        refine s_astore C dX6_isNearSecret_21 (by decide) (nc_i rfl) (lv' := [some (rB (xD X).1 o), some (.int a1), some (.int a2), some (.int x1), some (rB (xD X).1 v7), none]) rfl ?_
        refine s_iconst C dX6_isNearSecret_23 (v := (0 : Int32)) (by decide) ?_
        refine s_istore C dX6_isNearSecret_24 (by decide) (nc_r rfl) (lv' := [some (rB (xD X).1 o), some (.int a1), some (.int a2), some (.int x1), some (rB (xD X).1 v7), some (.int (0 : Int32))]) rfl ?_
        refine s_lp3 hf (fun G26 z26 q26 hf => ?_)
        have k26 : ∀ (n : Nat) (x8 : Int32) (x9 : Int32) (h10 : AH), G26 n x8 x9 h10 = some r → WW X h10 0 0 26 [some (rB (xD X).1 o), some (.int a1), some (.int a2), some (.int x8), some (rB (xD X).1 v7), some (.int x9)] [] := by
          intro n
          induction n with
          | zero =>
            intro x8 x9 h10 hf
            rw [z26] at hf
            cases hf
          | succ n ih26 =>
            intro x8 x9 h10 hf
            have hf := (q26 n x8 x9 h10).symm.trans hf
            refine s_aload C dX6_isNearSecret_26 rfl ?_
            refine s_jn hf (fun j75 e75 hf => ?_)
            have k75 : ∀ (h11 : AH), j75 h11 = some r → WW X h11 0 0 75 [some (rB (xD X).1 o), some (.int a1), some (.int a2), some (.int x8), none, none] [] := by
              intro h11 hf
              rw [e75] at hf
              refine s_iinc C dX6_isNearSecret_75 (v := (x8 + 1)) rfl rfl (by decide) (nc_i rfl) (lv' := [some (rB (xD X).1 o), some (.int a1), some (.int a2), some (.int (x8 + 1)), none, none]) rfl ?_
              refine s_goto (tgt := 2) C dX6_isNearSecret_78 (by decide) ?_
              exact ih2 _ _ hf
            refine s_ifnull (tgt := 75) C dX6_isNearSecret_28 (by decide) hf (fun hf => ?_) (fun hf => ?_)
            · refine s_weak (lv' := [some (rB (xD X).1 o), some (.int a1), some (.int a2), some (.int x8), none, none]) ⟨rfl, ⟨rfl, ⟨rfl, ⟨rfl, trivial⟩⟩⟩⟩ ?_
              exact k75 _ hf
            · refine s_aload C dX6_isNearSecret_31 rfl ?_
              refine s_callV (rvf := fun x => some (.int x)) (st := []) (fr := 0) (lo := 0) (mc := 0) (ms := 0) C [1] wc_X1_isDown wml_X6_163 wim_X1_isDown wsl_1_X1_isDown dX6_isNearSecret_33 (As := []) rfl hf (fun x h' hF => c_X1_isDown _ _ _ _ (x, h') hF) rfl (Nat.le_of_ble_eq_true rfl) (room_ok hX (Nat.le_of_ble_eq_true rfl) (Nat.le_of_ble_eq_true rfl)) (cell_ok hX (Nat.le_of_ble_eq_true rfl) (Nat.le_of_ble_eq_true rfl)) (fun v13 h12 hf => ?_)
              refine s_if_ne (tgt := 75) C dX6_isNearSecret_36 (by decide) hf (fun hf => ?_) (fun hf => ?_)
              · refine s_weak (lv' := [some (rB (xD X).1 o), some (.int a1), some (.int a2), some (.int x8), none, none]) ⟨rfl, ⟨rfl, ⟨rfl, ⟨rfl, trivial⟩⟩⟩⟩ ?_
                exact k75 _ hf
              · refine s_iload C dX6_isNearSecret_39 rfl ?_
                refine s_aload C dX6_isNearSecret_41 rfl ?_
                refine s_getI C fl_X6_172 dX6_isNearSecret_43 hf (fun v14 hf => ?_)
                refine s_iconst C dX6_isNearSecret_46 (v := (1 : Int32)) (by decide) ?_
                refine s_isub C dX6_isNearSecret_47 ?_
                refine s_icmp_ge (tgt := 75) C dX6_isNearSecret_48 (by decide) hf (fun hf => ?_) (fun hf => ?_)
                · refine s_weak (lv' := [some (rB (xD X).1 o), some (.int a1), some (.int a2), some (.int x8), none, none]) ⟨rfl, ⟨rfl, ⟨rfl, ⟨rfl, trivial⟩⟩⟩⟩ ?_
                  exact k75 _ hf
                · refine s_iload_n C dX6_isNearSecret_51 rfl ?_
                  refine s_aload C dX6_isNearSecret_52 rfl ?_
                  refine s_getR C fl_X6_173 dX6_isNearSecret_54 hf (fun v15 hf => ?_)
                  refine s_iload C dX6_isNearSecret_57 rfl ?_
                  refine s_iaload C dX6_isNearSecret_59 hf (fun v16 hf => ?_)
                  refine s_callSN (rvf := fun x => some (.int x)) (st := []) (fr := 1) (lo := 21) (mc := 0) (ms := 0) C wc_X11_far wmn_X6_169 wst_X11_far dX6_isNearSecret_60 (As := [.inl a1, .inl v16]) rfl hf (fun x h' hF => c_X11_far _ _ _ _ _ (x, h') hF) rfl (Nat.le_of_ble_eq_true rfl) (room_ok hX (Nat.le_of_ble_eq_true rfl) (Nat.le_of_ble_eq_true rfl)) (cell_ok hX (Nat.le_of_ble_eq_true rfl) (Nat.le_of_ble_eq_true rfl)) (fun v18 h17 hf => ?_)
                  refine s_iload_n C dX6_isNearSecret_63 rfl ?_
                  refine s_icmp_ge (tgt := 69) C dX6_isNearSecret_64 (by decide) hf (fun hf => ?_) (fun hf => ?_)
                  · refine s_iinc C dX6_isNearSecret_69 (v := (x9 + 1)) rfl rfl (by decide) (nc_r rfl) (lv' := [some (rB (xD X).1 o), some (.int a1), some (.int a2), some (.int x8), some (rB (xD X).1 v7), some (.int (x9 + 1))]) rfl ?_
                    refine s_goto (tgt := 26) C dX6_isNearSecret_72 (by decide) ?_
                    exact ih26 _ _ _ hf
                  · refine s_iconst C dX6_isNearSecret_67 (v := (1 : Int32)) (by decide) ?_
                    exact s_zreturn C E dX6_isNearSecret_68 hf (Nat.le_of_ble_eq_true rfl) (Nat.le_of_ble_eq_true rfl)
        exact k26 lpN _ _ _ hf
  exact k2 lpN _ _ hf
/-- HillBoxes$Rules.askForKind(ILHillBoxes$Finder;II)V -/
noncomputable def f_X6_askForKind (o : Option Nat) (a1 : Int32) (a2 : Option Nat) (a3 : Int32) (a4 : Int32) (h : AH) : Option (Unit × AH) :=
  pI h [6] o 10 a1 fun h1 =>
  pR h1 [6] o 11 a2 fun h2 =>
  pR h2 [6] o 12 none fun h3 =>
  pI h3 [6] o 13 a3 fun h4 =>
  pI h4 [6] o 14 a4 fun h5 =>
  pI h5 [6] o 15 (0 : Int32) fun h6 =>
  some ((), h6)
set_option maxRecDepth 100000 in
set_option maxHeartbeats 4000000 in
theorem c_X6_askForKind (l : Launch) (D : DT) (o : Option Nat) (a1 : Int32) (a2 : Option Nat) (a3 : Int32) (a4 : Int32) (h : AH) (r : Unit × AH) (hf : f_X6_askForKind o a1 a2 a3 a4 h = some r) : CM l D yX6_askForKind cX6_askForKind 5 none 0 0 0 0 [.inr (.inr o), .inl a1, .inr (.inr a2), .inl a3, .inl a4] h none r.2 := by
  refine CM.of (by decide) (Nat.le_of_ble_eq_true rfl) (fun X hl C hD hX hnm E => ?_)
  subst hl
  subst hD
  have C : CX X RX6 cX6_askForKind 5 := C
  show WW X h 0 0 0 [some (rB (xD X).1 o), some (.int a1), some (rB (xD X).1 a2), some (.int a3), some (.int a4)] []
  unfold f_X6_askForKind at hf
  refine s_aload_n C dX6_askForKind_0 rfl ?_
  refine s_iload_n C dX6_askForKind_1 rfl ?_
  refine s_putI C fl_X6_64 (by decide) dX6_askForKind_2 hf (fun h1 hf => ?_)
  refine s_aload_n C dX6_askForKind_5 rfl ?_
  refine s_aload_n C dX6_askForKind_6 rfl ?_
  refine s_putR C fl_X6_67 dX6_askForKind_7 hf (fun h2 hf => ?_)
  refine s_aload_n C dX6_askForKind_10 rfl ?_
  refine s_null C dX6_askForKind_11 ?_
  refine s_putR C fl_X6_71 dX6_askForKind_12 hf (fun h3 hf => ?_)
  refine s_aload_n C dX6_askForKind_15 rfl ?_
  refine s_iload_n C dX6_askForKind_16 rfl ?_
  refine s_putI C fl_X6_80 (by decide) dX6_askForKind_17 hf (fun h4 hf => ?_)
  refine s_aload_n C dX6_askForKind_20 rfl ?_
  refine s_iload C dX6_askForKind_21 rfl ?_
  refine s_putI C fl_X6_86 (by decide) dX6_askForKind_23 hf (fun h5 hf => ?_)
  refine s_aload_n C dX6_askForKind_26 rfl ?_
  refine s_iconst C dX6_askForKind_27 (v := (0 : Int32)) (by decide) ?_
  refine s_putI C fl_X6_89 (by decide) dX6_askForKind_28 hf (fun h6 hf => ?_)
  exact s_return C E dX6_askForKind_31 hf (Nat.le_of_ble_eq_true rfl) (Nat.le_of_ble_eq_true rfl)
/-- HillBoxes$Rules.leavesLet(LHillBoxes$Finder;II)Z -/
noncomputable def f_X6_leavesLet (o : Option Nat) (a1 : Option Nat) (a2 : Int32) (a3 : Int32) (h : AH) : Option (Int32 × AH) :=
  jn (fun (x1 : Int32) =>
    lp (fun _ _ => none) (fun (L21 : Int32 → AH → Option (Int32 × AH)) (x2 : Int32) (h3 : AH) =>
      if x1 ≤ x2 then
        rz (1 : Int32) h3
      else
        jn (fun (x4 : Int32) =>
          fR h3 [6] o 3 fun v5 =>
          fR h3 [3] v5 1 fun v6 =>
          aI h3 20 v6 x4 fun v7 =>
          fR h3 [6] o 3 fun v8 =>
          fI h3 [3] v8 0 fun v9 =>
          rO h3 [6] o <| cl (f_X6_askForKind o v9 a1 a2 x4 h3) fun _ h10 =>
          jn (fun (h11 : AH) =>
            L21 (x2 + 1) h11) fun j102 =>
          if v7 < 0 then
            j102 h10
          else
            fR h10 [6] o 3 fun v12 =>
            fI h10 [3] v12 0 fun v13 =>
            rO h10 [6] o <| cl (f_X6_answer o ((10 : Int32) + v7) v13 h10) fun v15 h14 =>
            if v15 = 0 then
              rz (0 : Int32) h14
            else
              j102 h14) fun j47 =>
        if 0 ≤ x2 then
          fR h3 [6] o 3 fun v16 =>
          fR h3 [3] v16 4 fun v17 =>
          aI h3 20 v17 x2 fun v18 =>
          j47 v18
        else
          j47 a3) lpN (-1 : Int32) h) fun j16 =>
  if a2 = (3 : Int32) then
    fR h [6] o 3 fun v19 =>
    fI h [3] v19 5 fun v20 =>
    j16 v20
  else
    j16 (0 : Int32)
set_option maxRecDepth 100000 in
set_option maxHeartbeats 4000000 in
theorem c_X6_leavesLet (l : Launch) (D : DT) (o : Option Nat) (a1 : Option Nat) (a2 : Int32) (a3 : Int32) (h : AH) (r : Int32 × AH) (hf : f_X6_leavesLet o a1 a2 a3 h = some r) : CM l D yX6_leavesLet cX6_leavesLet 8 (some .boolean) 5 121 0 0 [.inr (.inr o), .inr (.inr a1), .inl a2, .inl a3] h (some (.int r.1)) r.2 := by
  refine CM.of (by decide) (Nat.le_of_ble_eq_true rfl) (fun X hl C hD hX hnm E => ?_)
  subst hl
  subst hD
  have C : CX X RX6 cX6_leavesLet 8 := C
  show WW X h 0 0 0 [some (rB (xD X).1 o), some (rB (xD X).1 a1), some (.int a2), some (.int a3), none, none, none, none] []
  unfold f_X6_leavesLet at hf
  refine s_iload_n C dX6_leavesLet_0 rfl ?_
  refine s_iconst C dX6_leavesLet_1 (v := (3 : Int32)) (by decide) ?_
  refine s_jn hf (fun j16 e16 hf => ?_)
  have k16 : ∀ (x1 : Int32), j16 x1 = some r → WW X h 0 0 16 [some (rB (xD X).1 o), some (rB (xD X).1 a1), some (.int a2), some (.int a3), none, none, none, none] [.int x1] := by
    intro x1 hf
    rw [e16] at hf
    refine s_istore C dX6_leavesLet_16 (by decide) (nc_i rfl) (lv' := [some (rB (xD X).1 o), some (rB (xD X).1 a1), some (.int a2), some (.int a3), some (.int x1), none, none, none]) rfl ?_
    refine s_iconst C dX6_leavesLet_18 (v := (-1 : Int32)) (by decide) ?_
    refine s_istore C dX6_leavesLet_19 (by decide) (nc_i rfl) (lv' := [some (rB (xD X).1 o), some (rB (xD X).1 a1), some (.int a2), some (.int a3), some (.int x1), some (.int (-1 : Int32)), none, none]) rfl ?_
    refine s_lp2 hf (fun G21 z21 q21 hf => ?_)
    have k21 : ∀ (n : Nat) (x2 : Int32) (h3 : AH), G21 n x2 h3 = some r → WW X h3 0 0 21 [some (rB (xD X).1 o), some (rB (xD X).1 a1), some (.int a2), some (.int a3), some (.int x1), some (.int x2), none, none] [] := by
      intro n
      induction n with
      | zero =>
        intro x2 h3 hf
        rw [z21] at hf
        cases hf
      | succ n ih21 =>
        intro x2 h3 hf
        have hf := (q21 n x2 h3).symm.trans hf
        refine s_iload C dX6_leavesLet_21 rfl ?_
        refine s_iload C dX6_leavesLet_23 rfl ?_
        refine s_icmp_ge (tgt := 108) C dX6_leavesLet_25 (by decide) hf (fun hf => ?_) (fun hf => ?_)
        · refine s_iconst C dX6_leavesLet_108 (v := (1 : Int32)) (by decide) ?_
          exact s_zreturn C E dX6_leavesLet_109 hf (Nat.le_of_ble_eq_true rfl) (Nat.le_of_ble_eq_true rfl)
        · refine s_iload C dX6_leavesLet_28 rfl ?_
          refine s_jn hf (fun j47 e47 hf => ?_)
          have k47 : ∀ (x4 : Int32), j47 x4 = some r → WW X h3 0 0 47 [some (rB (xD X).1 o), some (rB (xD X).1 a1), some (.int a2), some (.int a3), some (.int x1), some (.int x2), none, none] [.int x4] := by
            intro x4 hf
            rw [e47] at hf
            refine s_istore C dX6_leavesLet_47 (by decide) (nc_i rfl) (lv' := [some (rB (xD X).1 o), some (rB (xD X).1 a1), some (.int a2), some (.int a3), some (.int x1), some (.int x2), some (.int x4), none]) rfl ?_
            refine s_aload_n C dX6_leavesLet_49 rfl ?_
            refine s_getR C fl_X6_41 dX6_leavesLet_50 hf (fun v5 hf => ?_)
            refine s_getR C fl_X6_157 dX6_leavesLet_53 hf (fun v6 hf => ?_)
            refine s_iload C dX6_leavesLet_56 rfl ?_
            refine s_iaload C dX6_leavesLet_58 hf (fun v7 hf => ?_)
            refine s_istore C dX6_leavesLet_59 (by decide) (nc_i rfl) (lv' := [some (rB (xD X).1 o), some (rB (xD X).1 a1), some (.int a2), some (.int a3), some (.int x1), some (.int x2), some (.int x4), some (.int v7)]) rfl ?_
            refine s_aload_n C dX6_leavesLet_61 rfl ?_
            refine s_aload_n C dX6_leavesLet_62 rfl ?_
            refine s_getR C fl_X6_41 dX6_leavesLet_63 hf (fun v8 hf => ?_)
            refine s_getI C fl_X6_55 dX6_leavesLet_66 hf (fun v9 hf => ?_)
            refine s_aload_n C dX6_leavesLet_69 rfl ?_
            refine s_iload_n C dX6_leavesLet_70 rfl ?_
            refine s_iload C dX6_leavesLet_71 rfl ?_
            refine s_callV (rvf := fun _ => none) (st := []) (fr := 0) (lo := 0) (mc := 0) (ms := 0) C [6] wc_X6_askForKind wml_X6_112 wim_X6_askForKind wsl_6_X6_askForKind dX6_leavesLet_73 (As := [.inl v9, .inr (.inr a1), .inl a2, .inl x4]) rfl hf (fun x h' hF => c_X6_askForKind _ _ _ _ _ _ _ _ (x, h') hF) rfl (Nat.le_of_ble_eq_true rfl) (room_ok hX (Nat.le_of_ble_eq_true rfl) (Nat.le_of_ble_eq_true rfl)) (cell_ok hX (Nat.le_of_ble_eq_true rfl) (Nat.le_of_ble_eq_true rfl)) (fun _ h10 hf => ?_)
            refine s_iload C dX6_leavesLet_76 rfl ?_
            refine s_jn hf (fun j102 e102 hf => ?_)
            have k102 : ∀ (h11 : AH), j102 h11 = some r → WW X h11 0 0 102 [some (rB (xD X).1 o), some (rB (xD X).1 a1), some (.int a2), some (.int a3), some (.int x1), some (.int x2), none, none] [] := by
              intro h11 hf
              rw [e102] at hf
              refine s_iinc C dX6_leavesLet_102 (v := (x2 + 1)) rfl rfl (by decide) (nc_i rfl) (lv' := [some (rB (xD X).1 o), some (rB (xD X).1 a1), some (.int a2), some (.int a3), some (.int x1), some (.int (x2 + 1)), none, none]) rfl ?_
              refine s_goto (tgt := 21) C dX6_leavesLet_105 (by decide) ?_
              exact ih21 _ _ hf
            refine s_if_lt (tgt := 102) C dX6_leavesLet_78 (by decide) hf (fun hf => ?_) (fun hf => ?_)
            · refine s_weak (lv' := [some (rB (xD X).1 o), some (rB (xD X).1 a1), some (.int a2), some (.int a3), some (.int x1), some (.int x2), none, none]) ⟨rfl, ⟨rfl, ⟨rfl, ⟨rfl, ⟨rfl, ⟨rfl, trivial⟩⟩⟩⟩⟩⟩ ?_
              exact k102 _ hf
            · refine s_aload_n C dX6_leavesLet_81 rfl ?_
              refine s_bipush C dX6_leavesLet_82 (v := (10 : Int32)) (by decide) ?_
              refine s_iload C dX6_leavesLet_84 rfl ?_
              refine s_iadd C dX6_leavesLet_86 ?_
              refine s_aload_n C dX6_leavesLet_87 rfl ?_
              refine s_getR C fl_X6_41 dX6_leavesLet_88 hf (fun v12 hf => ?_)
              refine s_getI C fl_X6_55 dX6_leavesLet_91 hf (fun v13 hf => ?_)
              refine s_callV (rvf := fun x => some (.int x)) (st := []) (fr := 4) (lo := 97) (mc := 0) (ms := 0) C [6] wc_X6_answer wml_X6_116 wim_X6_answer wsl_6_X6_answer dX6_leavesLet_94 (As := [.inl ((10 : Int32) + v7), .inl v13]) rfl hf (fun x h' hF => c_X6_answer _ _ _ _ _ _ (x, h') hF) rfl (Nat.le_of_ble_eq_true rfl) (room_ok hX (Nat.le_of_ble_eq_true rfl) (Nat.le_of_ble_eq_true rfl)) (cell_ok hX (Nat.le_of_ble_eq_true rfl) (Nat.le_of_ble_eq_true rfl)) (fun v15 h14 hf => ?_)
              refine s_if_ne (tgt := 102) C dX6_leavesLet_97 (by decide) hf (fun hf => ?_) (fun hf => ?_)
              · refine s_weak (lv' := [some (rB (xD X).1 o), some (rB (xD X).1 a1), some (.int a2), some (.int a3), some (.int x1), some (.int x2), none, none]) ⟨rfl, ⟨rfl, ⟨rfl, ⟨rfl, ⟨rfl, ⟨rfl, trivial⟩⟩⟩⟩⟩⟩ ?_
                exact k102 _ hf
              · refine s_iconst C dX6_leavesLet_100 (v := (0 : Int32)) (by decide) ?_
                exact s_zreturn C E dX6_leavesLet_101 hf (Nat.le_of_ble_eq_true rfl) (Nat.le_of_ble_eq_true rfl)
          refine s_if_ge (tgt := 37) C dX6_leavesLet_30 (by decide) hf (fun hf => ?_) (fun hf => ?_)
          · refine s_aload_n C dX6_leavesLet_37 rfl ?_
            refine s_getR C fl_X6_41 dX6_leavesLet_38 hf (fun v16 hf => ?_)
            refine s_getR C fl_X6_147 dX6_leavesLet_41 hf (fun v17 hf => ?_)
            refine s_iload C dX6_leavesLet_44 rfl ?_
            refine s_iaload C dX6_leavesLet_46 hf (fun v18 hf => ?_)
            exact k47 _ hf
          · refine s_iload_n C dX6_leavesLet_33 rfl ?_
            refine s_goto (tgt := 47) C dX6_leavesLet_34 (by decide) ?_
            exact k47 _ hf
    exact k21 lpN _ _ hf
  refine s_icmp_ne (tgt := 15) C dX6_leavesLet_2 (by decide) hf (fun hf => ?_) (fun hf => ?_)
  · refine s_iconst C dX6_leavesLet_15 (v := (0 : Int32)) (by decide) ?_
    exact k16 _ hf
  · refine s_aload_n C dX6_leavesLet_5 rfl ?_
    refine s_getR C fl_X6_41 dX6_leavesLet_6 hf (fun v19 hf => ?_)
    refine s_getI C fl_X6_144 dX6_leavesLet_9 hf (fun v20 hf => ?_)
    refine s_goto (tgt := 16) C dX6_leavesLet_12 (by decide) ?_
    exact k16 _ hf
/-- HillBoxes$Rules.letsHide(LHillBoxes$Finder;II)Z -/
noncomputable def f_X6_letsHide (o : Option Nat) (a1 : Option Nat) (a2 : Int32) (a3 : Int32) (h : AH) : Option (Int32 × AH) :=
  fR h [6] o 3 fun v1 =>
  fI h [3] v1 0 fun v2 =>
  rO h [6] o <| cl (f_X6_askForKind o v2 a1 a2 a3 h) fun _ h3 =>
  fR h3 [6] o 3 fun v4 =>
  fI h3 [3] v4 0 fun v5 =>
  rO h3 [6] o <| cl (f_X6_answer o (1 : Int32) v5 h3) fun v7 h6 =>
  jn (fun (x8 : Int32) =>
    rz x8 h6) fun j34 =>
  if v7 = 0 then
    j34 (0 : Int32)
  else
    j34 (1 : Int32)
set_option maxRecDepth 100000 in
set_option maxHeartbeats 4000000 in
theorem c_X6_letsHide (l : Launch) (D : DT) (o : Option Nat) (a1 : Option Nat) (a2 : Int32) (a3 : Int32) (h : AH) (r : Int32 × AH) (hf : f_X6_letsHide o a1 a2 a3 h = some r) : CM l D yX6_letsHide cX6_letsHide 4 (some .boolean) 5 121 0 0 [.inr (.inr o), .inr (.inr a1), .inl a2, .inl a3] h (some (.int r.1)) r.2 := by
  refine CM.of (by decide) (Nat.le_of_ble_eq_true rfl) (fun X hl C hD hX hnm E => ?_)
  subst hl
  subst hD
  have C : CX X RX6 cX6_letsHide 4 := C
  show WW X h 0 0 0 [some (rB (xD X).1 o), some (rB (xD X).1 a1), some (.int a2), some (.int a3)] []
  unfold f_X6_letsHide at hf
  refine s_aload_n C dX6_letsHide_0 rfl ?_
  refine s_aload_n C dX6_letsHide_1 rfl ?_
  refine s_getR C fl_X6_41 dX6_letsHide_2 hf (fun v1 hf => ?_)
  refine s_getI C fl_X6_55 dX6_letsHide_5 hf (fun v2 hf => ?_)
  refine s_aload_n C dX6_letsHide_8 rfl ?_
  refine s_iload_n C dX6_letsHide_9 rfl ?_
  refine s_iload_n C dX6_letsHide_10 rfl ?_
  refine s_callV (rvf := fun _ => none) (st := []) (fr := 0) (lo := 0) (mc := 0) (ms := 0) C [6] wc_X6_askForKind wml_X6_112 wim_X6_askForKind wsl_6_X6_askForKind dX6_letsHide_11 (As := [.inl v2, .inr (.inr a1), .inl a2, .inl a3]) rfl hf (fun x h' hF => c_X6_askForKind _ _ _ _ _ _ _ _ (x, h') hF) rfl (Nat.le_of_ble_eq_true rfl) (room_ok hX (Nat.le_of_ble_eq_true rfl) (Nat.le_of_ble_eq_true rfl)) (cell_ok hX (Nat.le_of_ble_eq_true rfl) (Nat.le_of_ble_eq_true rfl)) (fun _ h3 hf => ?_)
  refine s_aload_n C dX6_letsHide_14 rfl ?_
  refine s_iconst C dX6_letsHide_15 (v := (1 : Int32)) (by decide) ?_
  refine s_aload_n C dX6_letsHide_16 rfl ?_
  refine s_getR C fl_X6_41 dX6_letsHide_17 hf (fun v4 hf => ?_)
  refine s_getI C fl_X6_55 dX6_letsHide_20 hf (fun v5 hf => ?_)
  refine s_callV (rvf := fun x => some (.int x)) (st := []) (fr := 4) (lo := 97) (mc := 0) (ms := 0) C [6] wc_X6_answer wml_X6_116 wim_X6_answer wsl_6_X6_answer dX6_letsHide_23 (As := [.inl (1 : Int32), .inl v5]) rfl hf (fun x h' hF => c_X6_answer _ _ _ _ _ _ (x, h') hF) rfl (Nat.le_of_ble_eq_true rfl) (room_ok hX (Nat.le_of_ble_eq_true rfl) (Nat.le_of_ble_eq_true rfl)) (cell_ok hX (Nat.le_of_ble_eq_true rfl) (Nat.le_of_ble_eq_true rfl)) (fun v7 h6 hf => ?_)
  refine s_jn hf (fun j34 e34 hf => ?_)
  have k34 : ∀ (x8 : Int32), j34 x8 = some r → WW X h6 0 0 34 [none, none, none, none] [.int x8] := by
    intro x8 hf
    rw [e34] at hf
    exact s_zreturn C E dX6_letsHide_34 hf (Nat.le_of_ble_eq_true rfl) (Nat.le_of_ble_eq_true rfl)
  refine s_if_eq (tgt := 33) C dX6_letsHide_26 (by decide) hf (fun hf => ?_) (fun hf => ?_)
  · refine s_iconst C dX6_letsHide_33 (v := (0 : Int32)) (by decide) ?_
    refine s_weak (lv' := [none, none, none, none]) trivial ?_
    exact k34 _ hf
  · refine s_iconst C dX6_letsHide_29 (v := (1 : Int32)) (by decide) ?_
    refine s_goto (tgt := 34) C dX6_letsHide_30 (by decide) ?_
    refine s_weak (lv' := [none, none, none, none]) trivial ?_
    exact k34 _ hf
/-- HillBoxes$Rules.whyNot(LHillBoxes$Finder;II)I -/
noncomputable def f_X6_whyNot (o : Option Nat) (a1 : Option Nat) (a2 : Int32) (a3 : Int32) (h : AH) : Option (Int32 × AH) :=
  rO h [2] a1 <| cl (f_X2_hasLeft a1 h) fun v2 h1 =>
  jn (fun (h3 : AH) =>
    some ((1 : Int32), h3)) fun j17 =>
  if v2 = 0 then
    rO h1 [6] o <| cl (f_X6_letsHide o a1 a2 a3 h1) fun v5 h4 =>
    if v5 = 0 then
      j17 h4
    else
      rO h4 [6] o <| cl (f_X6_leavesLet o a1 a2 a3 h4) fun v7 h6 =>
      if v7 = 0 then
        some ((2 : Int32), h6)
      else
        fR h6 [6] o 3 fun v8 =>
        fI h6 [3] v8 0 fun v9 =>
        rO h6 [6] o <| cl (f_X6_askForBox o v9 none none (0 : Int32) h6) fun _ h10 =>
        fR h10 [6] o 3 fun v11 =>
        fI h10 [3] v11 0 fun v12 =>
        rO h10 [6] o <| cl (f_X6_answer o (0 : Int32) v12 h10) fun v14 h13 =>
        fR h13 [6] o 3 fun v15 =>
        fI h13 [3] v15 5 fun v16 =>
        jn (fun (x17 : Int32) =>
          rO h13 [6] o <| cl (f_X6_isNearKnown o x17 v14 h13) fun v19 h18 =>
          if v19 = 0 then
            rO h18 [6] o <| cl (f_X6_isNearSecret o x17 v14 h18) fun v21 h20 =>
            jn (fun (x22 : Int32) =>
              some (x22, h20)) fun j125 =>
            if v21 = 0 then
              j125 (0 : Int32)
            else
              j125 (4 : Int32)
          else
            some ((3 : Int32), h18)) fun j94 =>
        jn (
          j94 a3) fun j93 =>
        if a2 = (3 : Int32) then
          if (v16 - (1 : Int32)) < 0 then
            j93
          else
            fR h13 [6] o 3 fun v23 =>
            fR h13 [3] v23 4 fun v24 =>
            aI h13 20 v24 (v16 - (1 : Int32)) fun v25 =>
            j94 v25
        else
          j93
  else
    j17 h1
set_option maxRecDepth 100000 in
set_option maxHeartbeats 4000000 in
theorem c_X6_whyNot (l : Launch) (D : DT) (o : Option Nat) (a1 : Option Nat) (a2 : Int32) (a3 : Int32) (h : AH) (r : Int32 × AH) (hf : f_X6_whyNot o a1 a2 a3 h = some r) : CM l D yX6_whyNot cX6_whyNot 7 (some .int) 6 148 0 0 [.inr (.inr o), .inr (.inr a1), .inl a2, .inl a3] h (some (.int r.1)) r.2 := by
  refine CM.of (by decide) (Nat.le_of_ble_eq_true rfl) (fun X hl C hD hX hnm E => ?_)
  subst hl
  subst hD
  have C : CX X RX6 cX6_whyNot 7 := C
  show WW X h 0 0 0 [some (rB (xD X).1 o), some (rB (xD X).1 a1), some (.int a2), some (.int a3), none, none, none] []
  unfold f_X6_whyNot at hf
  refine s_aload_n C dX6_whyNot_0 rfl ?_
  refine s_callV (rvf := fun x => some (.int x)) (st := []) (fr := 0) (lo := 0) (mc := 0) (ms := 0) C [2] wc_X2_hasLeft wml_X6_131 wim_X2_hasLeft wsl_2_X2_hasLeft dX6_whyNot_1 (As := []) rfl hf (fun x h' hF => c_X2_hasLeft _ _ _ _ (x, h') hF) rfl (Nat.le_of_ble_eq_true rfl) (room_ok hX (Nat.le_of_ble_eq_true rfl) (Nat.le_of_ble_eq_true rfl)) (cell_ok hX (Nat.le_of_ble_eq_true rfl) (Nat.le_of_ble_eq_true rfl)) (fun v2 h1 hf => ?_)
  refine s_jn hf (fun j17 e17 hf => ?_)
  have k17 : ∀ (h3 : AH), j17 h3 = some r → WW X h3 0 0 17 [none, none, none, none, none, none, none] [] := by
    intro h3 hf
    rw [e17] at hf
    refine s_iconst C dX6_whyNot_17 (v := (1 : Int32)) (by decide) ?_
    exact s_ireturn C E dX6_whyNot_18 hf (Nat.le_of_ble_eq_true rfl) (Nat.le_of_ble_eq_true rfl)
  refine s_if_ne (tgt := 17) C dX6_whyNot_4 (by decide) hf (fun hf => ?_) (fun hf => ?_)
  · refine s_weak (lv' := [none, none, none, none, none, none, none]) trivial ?_
    exact k17 _ hf
  · refine s_aload_n C dX6_whyNot_7 rfl ?_
    refine s_aload_n C dX6_whyNot_8 rfl ?_
    refine s_iload_n C dX6_whyNot_9 rfl ?_
    refine s_iload_n C dX6_whyNot_10 rfl ?_
    refine s_callV (rvf := fun x => some (.int x)) (st := []) (fr := 5) (lo := 121) (mc := 0) (ms := 0) C [6] wc_X6_letsHide wml_X6_137 wim_X6_letsHide wsl_6_X6_letsHide dX6_whyNot_11 (As := [.inr (.inr a1), .inl a2, .inl a3]) rfl hf (fun x h' hF => c_X6_letsHide _ _ _ _ _ _ _ (x, h') hF) rfl (Nat.le_of_ble_eq_true rfl) (room_ok hX (Nat.le_of_ble_eq_true rfl) (Nat.le_of_ble_eq_true rfl)) (cell_ok hX (Nat.le_of_ble_eq_true rfl) (Nat.le_of_ble_eq_true rfl)) (fun v5 h4 hf => ?_)
    refine s_if_ne (tgt := 19) C dX6_whyNot_14 (by decide) hf (fun hf => ?_) (fun hf => ?_)
    · refine s_aload_n C dX6_whyNot_19 rfl ?_
      refine s_aload_n C dX6_whyNot_20 rfl ?_
      refine s_iload_n C dX6_whyNot_21 rfl ?_
      refine s_iload_n C dX6_whyNot_22 rfl ?_
      refine s_callV (rvf := fun x => some (.int x)) (st := []) (fr := 5) (lo := 121) (mc := 0) (ms := 0) C [6] wc_X6_leavesLet wml_X6_141 wim_X6_leavesLet wsl_6_X6_leavesLet dX6_whyNot_23 (As := [.inr (.inr a1), .inl a2, .inl a3]) rfl hf (fun x h' hF => c_X6_leavesLet _ _ _ _ _ _ _ (x, h') hF) rfl (Nat.le_of_ble_eq_true rfl) (room_ok hX (Nat.le_of_ble_eq_true rfl) (Nat.le_of_ble_eq_true rfl)) (cell_ok hX (Nat.le_of_ble_eq_true rfl) (Nat.le_of_ble_eq_true rfl)) (fun v7 h6 hf => ?_)
      refine s_if_ne (tgt := 31) C dX6_whyNot_26 (by decide) hf (fun hf => ?_) (fun hf => ?_)
      · refine s_aload_n C dX6_whyNot_31 rfl ?_
        refine s_aload_n C dX6_whyNot_32 rfl ?_
        refine s_getR C fl_X6_41 dX6_whyNot_33 hf (fun v8 hf => ?_)
        refine s_getI C fl_X6_55 dX6_whyNot_36 hf (fun v9 hf => ?_)
        refine s_null C dX6_whyNot_39 ?_
        refine s_null C dX6_whyNot_40 ?_
        refine s_iconst C dX6_whyNot_41 (v := (0 : Int32)) (by decide) ?_
        refine s_callV (rvf := fun _ => none) (st := []) (fr := 0) (lo := 0) (mc := 0) (ms := 0) C [6] wc_X6_askForBox wml_X6_119 wim_X6_askForBox wsl_6_X6_askForBox dX6_whyNot_42 (As := [.inl v9, .inr (.inr none), .inr (.inr none), .inl (0 : Int32)]) rfl hf (fun x h' hF => c_X6_askForBox _ _ _ _ _ _ _ _ (x, h') hF) rfl (Nat.le_of_ble_eq_true rfl) (room_ok hX (Nat.le_of_ble_eq_true rfl) (Nat.le_of_ble_eq_true rfl)) (cell_ok hX (Nat.le_of_ble_eq_true rfl) (Nat.le_of_ble_eq_true rfl)) (fun _ h10 hf => ?_)
        refine s_aload_n C dX6_whyNot_45 rfl ?_
        refine s_iconst C dX6_whyNot_46 (v := (0 : Int32)) (by decide) ?_
        refine s_aload_n C dX6_whyNot_47 rfl ?_
        refine s_getR C fl_X6_41 dX6_whyNot_48 hf (fun v11 hf => ?_)
        refine s_getI C fl_X6_55 dX6_whyNot_51 hf (fun v12 hf => ?_)
        refine s_callV (rvf := fun x => some (.int x)) (st := []) (fr := 4) (lo := 97) (mc := 0) (ms := 0) C [6] wc_X6_answer wml_X6_116 wim_X6_answer wsl_6_X6_answer dX6_whyNot_54 (As := [.inl (0 : Int32), .inl v12]) rfl hf (fun x h' hF => c_X6_answer _ _ _ _ _ _ (x, h') hF) rfl (Nat.le_of_ble_eq_true rfl) (room_ok hX (Nat.le_of_ble_eq_true rfl) (Nat.le_of_ble_eq_true rfl)) (cell_ok hX (Nat.le_of_ble_eq_true rfl) (Nat.le_of_ble_eq_true rfl)) (fun v14 h13 hf => ?_)
        refine s_istore C dX6_whyNot_57 (by decide) (nc_i rfl) (lv' := [some (rB (xD X).1 o), some (rB (xD X).1 a1), some (.int a2), some (.int a3), some (.int v14), none, none]) rfl ?_
        refine s_aload_n C dX6_whyNot_59 rfl ?_
        refine s_getR C fl_X6_41 dX6_whyNot_60 hf (fun v15 hf => ?_)
        refine s_getI C fl_X6_144 dX6_whyNot_63 hf (fun v16 hf => ?_)
        refine s_iconst C dX6_whyNot_66 (v := (1 : Int32)) (by decide) ?_
        refine s_isub C dX6_whyNot_67 ?_
        refine s_istore C dX6_whyNot_68 (by decide) (nc_i rfl) (lv' := [some (rB (xD X).1 o), some (rB (xD X).1 a1), some (.int a2), some (.int a3), some (.int v14), some (.int (v16 - (1 : Int32))), none]) rfl ?_
        refine s_iload_n C dX6_whyNot_70 rfl ?_
        refine s_iconst C dX6_whyNot_71 (v := (3 : Int32)) (by decide) ?_
        refine s_jn hf (fun j94 e94 hf => ?_)
        have k94 : ∀ (x17 : Int32), j94 x17 = some r → WW X h13 0 0 94 [some (rB (xD X).1 o), none, none, none, some (.int v14), none, none] [.int x17] := by
          intro x17 hf
          rw [e94] at hf
          refine s_istore C dX6_whyNot_94 (by decide) (nc_n rfl) (lv' := [some (rB (xD X).1 o), none, none, none, some (.int v14), none, some (.int x17)]) rfl ?_
          refine s_aload_n C dX6_whyNot_96 rfl ?_
          refine s_iload C dX6_whyNot_97 rfl ?_
          refine s_iload C dX6_whyNot_99 rfl ?_
          refine s_callV (rvf := fun x => some (.int x)) (st := []) (fr := 2) (lo := 42) (mc := 0) (ms := 0) C [6] wc_X6_isNearKnown wml_X6_150 wim_X6_isNearKnown wsl_6_X6_isNearKnown dX6_whyNot_101 (As := [.inl x17, .inl v14]) rfl hf (fun x h' hF => c_X6_isNearKnown _ _ _ _ _ _ (x, h') hF) rfl (Nat.le_of_ble_eq_true rfl) (room_ok hX (Nat.le_of_ble_eq_true rfl) (Nat.le_of_ble_eq_true rfl)) (cell_ok hX (Nat.le_of_ble_eq_true rfl) (Nat.le_of_ble_eq_true rfl)) (fun v19 h18 hf => ?_)
          refine s_if_eq (tgt := 109) C dX6_whyNot_104 (by decide) hf (fun hf => ?_) (fun hf => ?_)
          · refine s_aload_n C dX6_whyNot_109 rfl ?_
            refine s_iload C dX6_whyNot_110 rfl ?_
            refine s_iload C dX6_whyNot_112 rfl ?_
            refine s_callV (rvf := fun x => some (.int x)) (st := []) (fr := 2) (lo := 42) (mc := 0) (ms := 0) C [6] wc_X6_isNearSecret wml_X6_154 wim_X6_isNearSecret wsl_6_X6_isNearSecret dX6_whyNot_114 (As := [.inl x17, .inl v14]) rfl hf (fun x h' hF => c_X6_isNearSecret _ _ _ _ _ _ (x, h') hF) rfl (Nat.le_of_ble_eq_true rfl) (room_ok hX (Nat.le_of_ble_eq_true rfl) (Nat.le_of_ble_eq_true rfl)) (cell_ok hX (Nat.le_of_ble_eq_true rfl) (Nat.le_of_ble_eq_true rfl)) (fun v21 h20 hf => ?_)
            refine s_jn hf (fun j125 e125 hf => ?_)
            have k125 : ∀ (x22 : Int32), j125 x22 = some r → WW X h20 0 0 125 [none, none, none, none, none, none, none] [.int x22] := by
              intro x22 hf
              rw [e125] at hf
              exact s_ireturn C E dX6_whyNot_125 hf (Nat.le_of_ble_eq_true rfl) (Nat.le_of_ble_eq_true rfl)
            refine s_if_eq (tgt := 124) C dX6_whyNot_117 (by decide) hf (fun hf => ?_) (fun hf => ?_)
            · refine s_iconst C dX6_whyNot_124 (v := (0 : Int32)) (by decide) ?_
              refine s_weak (lv' := [none, none, none, none, none, none, none]) trivial ?_
              exact k125 _ hf
            · refine s_iconst C dX6_whyNot_120 (v := (4 : Int32)) (by decide) ?_
              refine s_goto (tgt := 125) C dX6_whyNot_121 (by decide) ?_
              refine s_weak (lv' := [none, none, none, none, none, none, none]) trivial ?_
              exact k125 _ hf
          · refine s_iconst C dX6_whyNot_107 (v := (3 : Int32)) (by decide) ?_
            exact s_ireturn C E dX6_whyNot_108 hf (Nat.le_of_ble_eq_true rfl) (Nat.le_of_ble_eq_true rfl)
        refine s_jn hf (fun j93 e93 hf => ?_)
        have k93 : j93  = some r → WW X h13 0 0 93 [some (rB (xD X).1 o), none, none, some (.int a3), some (.int v14), none, none] [] := by
          intro  hf
          rw [e93] at hf
          refine s_iload_n C dX6_whyNot_93 rfl ?_
          refine s_weak (lv' := [some (rB (xD X).1 o), none, none, none, some (.int v14), none, none]) ⟨rfl, ⟨rfl, trivial⟩⟩ ?_
          exact k94 _ hf
        refine s_icmp_ne (tgt := 93) C dX6_whyNot_72 (by decide) hf (fun hf => ?_) (fun hf => ?_)
        · refine s_weak (lv' := [some (rB (xD X).1 o), none, none, some (.int a3), some (.int v14), none, none]) ⟨rfl, ⟨rfl, ⟨rfl, trivial⟩⟩⟩ ?_
          exact k93 hf
        · refine s_iload C dX6_whyNot_75 rfl ?_
          refine s_if_lt (tgt := 93) C dX6_whyNot_77 (by decide) hf (fun hf => ?_) (fun hf => ?_)
          · refine s_weak (lv' := [some (rB (xD X).1 o), none, none, some (.int a3), some (.int v14), none, none]) ⟨rfl, ⟨rfl, ⟨rfl, trivial⟩⟩⟩ ?_
            exact k93 hf
          · refine s_aload_n C dX6_whyNot_80 rfl ?_
            refine s_getR C fl_X6_41 dX6_whyNot_81 hf (fun v23 hf => ?_)
            refine s_getR C fl_X6_147 dX6_whyNot_84 hf (fun v24 hf => ?_)
            refine s_iload C dX6_whyNot_87 rfl ?_
            refine s_iaload C dX6_whyNot_89 hf (fun v25 hf => ?_)
            refine s_goto (tgt := 94) C dX6_whyNot_90 (by decide) ?_
            refine s_weak (lv' := [some (rB (xD X).1 o), none, none, none, some (.int v14), none, none]) ⟨rfl, ⟨rfl, trivial⟩⟩ ?_
            exact k94 _ hf
      · refine s_iconst C dX6_whyNot_29 (v := (2 : Int32)) (by decide) ?_
        exact s_ireturn C E dX6_whyNot_30 hf (Nat.le_of_ble_eq_true rfl) (Nat.le_of_ble_eq_true rfl)
    · refine s_weak (lv' := [none, none, none, none, none, none, none]) trivial ?_
      exact k17 _ hf
/-- HillBoxes.hide(III)I -/
noncomputable def f_X11_hide (o : Option Nat) (a1 : Int32) (a2 : Int32) (a3 : Int32) (h : AH) : Option (Int32 × AH) :=
  fR h [11] o 0 fun v1 =>
  rO h [3] v1 <| cl (f_X3_finderAt v1 a1 h) fun v3 h2 =>
  jn (fun (h4 : AH) =>
    some ((-1 : Int32), h4)) fun j24 =>
  if v3 = none then
    j24 h2
  else
    rO h2 [11] o <| cl (f_X11_mayBeAsked o a2 a3 h2) fun v6 h5 =>
    if v6 = 0 then
      j24 h5
    else
      fR h5 [11] o 1 fun v7 =>
      rO h5 [6] v7 <| cl (f_X6_whyNot v7 v3 a2 a3 h5) fun v9 h8 =>
      if v9 = 0 then
        fR h8 [11] o 0 fun v10 =>
        rO h8 [3] v10 <| cl (f_X3_isFull v10 h8) fun v12 h11 =>
        if v12 = 0 then
          nO h11 1 19 fun v13 h14 =>
          fR h14 [11] o 0 fun v15 =>
          fI h14 [3] v15 3 fun v16 =>
          fI h14 [2] v3 0 fun v17 =>
          fR h14 [11] o 0 fun v18 =>
          fI h14 [3] v18 0 fun v19 =>
          rO h14 [1] v13 <| cl (f_X1_init v13 v16 a2 v17 a3 v19 h14) fun _ h20 =>
          jn (fun (h21 : AH) =>
            fR h21 [11] o 0 fun v22 =>
            pI h21 [3] v22 5 (0 : Int32) fun h23 =>
            fR h23 [11] o 0 fun v24 =>
            rO h23 [3] v24 <| cl (f_X3_enter v24 v13 h23) fun v26 h25 =>
            some (v26, h25)) fun j120 =>
          if a2 = (3 : Int32) then
            fR h20 [11] o 0 fun v27 =>
            fR h20 [3] v27 4 fun v28 =>
            fR h20 [11] o 0 fun v29 =>
            fI h20 [3] v29 5 fun v30 =>
            rO h20 [1] v13 <| cl (f_X1_takeSteps v13 v28 v30 h20) fun _ h31 =>
            j120 h31
          else
            j120 h20
        else
          some ((-3 : Int32), h11)
      else
        cl (f_X11_asToldToTheAsker v9 h8) fun v33 h32 =>
        some (((-20 : Int32) - v33), h32)
set_option maxRecDepth 100000 in
set_option maxHeartbeats 4000000 in
theorem c_X11_hide (l : Launch) (D : DT) (o : Option Nat) (a1 : Int32) (a2 : Int32) (a3 : Int32) (h : AH) (r : Int32 × AH) (hf : f_X11_hide o a1 a2 a3 h = some r) : CM l D yX11_hide cX11_hide 7 (some .int) 7 174 11 132 [.inr (.inr o), .inl a1, .inl a2, .inl a3] h (some (.int r.1)) r.2 := by
  refine CM.of (by decide) (Nat.le_of_ble_eq_true rfl) (fun X hl C hD hX hnm E => ?_)
  subst hl
  subst hD
  have C : CX X RX11 cX11_hide 7 := C
  show WW X h 0 0 0 [some (rB (xD X).1 o), some (.int a1), some (.int a2), some (.int a3), none, none, none] []
  unfold f_X11_hide at hf
  refine s_aload_n C dX11_hide_0 rfl ?_
  refine s_getR C fl_X11_10 dX11_hide_1 hf (fun v1 hf => ?_)
  refine s_iload_n C dX11_hide_4 rfl ?_
  refine s_callV (rvf := fun x => some (rB (xD X).1 x)) (st := []) (fr := 0) (lo := 0) (mc := 0) (ms := 0) C [3] wc_X3_finderAt wml_X11_90 wim_X3_finderAt wsl_3_X3_finderAt dX11_hide_5 (As := [.inl a1]) rfl hf (fun x h' hF => c_X3_finderAt _ _ _ _ _ (x, h') hF) rfl (Nat.le_of_ble_eq_true rfl) (room_ok hX (Nat.le_of_ble_eq_true rfl) (Nat.le_of_ble_eq_true rfl)) (cell_ok hX (Nat.le_of_ble_eq_true rfl) (Nat.le_of_ble_eq_true rfl)) (fun v3 h2 hf => ?_)
  refine s_astore C dX11_hide_8 (by decide) (nc_i rfl) (lv' := [some (rB (xD X).1 o), some (.int a1), some (.int a2), some (.int a3), some (rB (xD X).1 v3), none, none]) rfl ?_
  refine s_aload C dX11_hide_10 rfl ?_
  refine s_jn hf (fun j24 e24 hf => ?_)
  have k24 : ∀ (h4 : AH), j24 h4 = some r → WW X h4 0 0 24 [none, none, none, none, none, none, none] [] := by
    intro h4 hf
    rw [e24] at hf
    refine s_iconst C dX11_hide_24 (v := (-1 : Int32)) (by decide) ?_
    exact s_ireturn C E dX11_hide_25 hf (Nat.le_of_ble_eq_true rfl) (Nat.le_of_ble_eq_true rfl)
  refine s_ifnull (tgt := 24) C dX11_hide_12 (by decide) hf (fun hf => ?_) (fun hf => ?_)
  · refine s_weak (lv' := [none, none, none, none, none, none, none]) trivial ?_
    exact k24 _ hf
  · refine s_aload_n C dX11_hide_15 rfl ?_
    refine s_iload_n C dX11_hide_16 rfl ?_
    refine s_iload_n C dX11_hide_17 rfl ?_
    refine s_callV (rvf := fun x => some (.int x)) (st := []) (fr := 1) (lo := 20) (mc := 0) (ms := 0) C [11] wc_X11_mayBeAsked wml_X11_106 wim_X11_mayBeAsked wsl_11_X11_mayBeAsked dX11_hide_18 (As := [.inl a2, .inl a3]) rfl hf (fun x h' hF => c_X11_mayBeAsked _ _ _ _ _ _ (x, h') hF) rfl (Nat.le_of_ble_eq_true rfl) (room_ok hX (Nat.le_of_ble_eq_true rfl) (Nat.le_of_ble_eq_true rfl)) (cell_ok hX (Nat.le_of_ble_eq_true rfl) (Nat.le_of_ble_eq_true rfl)) (fun v6 h5 hf => ?_)
    refine s_if_ne (tgt := 26) C dX11_hide_21 (by decide) hf (fun hf => ?_) (fun hf => ?_)
    · refine s_aload_n C dX11_hide_26 rfl ?_
      refine s_getR C fl_X11_21 dX11_hide_27 hf (fun v7 hf => ?_)
      refine s_aload C dX11_hide_30 rfl ?_
      refine s_iload_n C dX11_hide_32 rfl ?_
      refine s_iload_n C dX11_hide_33 rfl ?_
      refine s_callV (rvf := fun x => some (.int x)) (st := []) (fr := 6) (lo := 148) (mc := 0) (ms := 0) C [6] wc_X6_whyNot wml_X11_110 wim_X6_whyNot wsl_6_X6_whyNot dX11_hide_34 (As := [.inr (.inr v3), .inl a2, .inl a3]) rfl hf (fun x h' hF => c_X6_whyNot _ _ _ _ _ _ _ (x, h') hF) rfl (Nat.le_of_ble_eq_true rfl) (room_ok hX (Nat.le_of_ble_eq_true rfl) (Nat.le_of_ble_eq_true rfl)) (cell_ok hX (Nat.le_of_ble_eq_true rfl) (Nat.le_of_ble_eq_true rfl)) (fun v9 h8 hf => ?_)
      refine s_istore C dX11_hide_37 (by decide) (nc_r rfl) (lv' := [some (rB (xD X).1 o), some (.int a1), some (.int a2), some (.int a3), some (rB (xD X).1 v3), some (.int v9), none]) rfl ?_
      refine s_iload C dX11_hide_39 rfl ?_
      refine s_if_eq (tgt := 53) C dX11_hide_41 (by decide) hf (fun hf => ?_) (fun hf => ?_)
      · refine s_aload_n C dX11_hide_53 rfl ?_
        refine s_getR C fl_X11_10 dX11_hide_54 hf (fun v10 hf => ?_)
        refine s_callV (rvf := fun x => some (.int x)) (st := []) (fr := 0) (lo := 0) (mc := 0) (ms := 0) C [3] wc_X3_isFull wml_X11_64 wim_X3_isFull wsl_3_X3_isFull dX11_hide_57 (As := []) rfl hf (fun x h' hF => c_X3_isFull _ _ _ _ (x, h') hF) rfl (Nat.le_of_ble_eq_true rfl) (room_ok hX (Nat.le_of_ble_eq_true rfl) (Nat.le_of_ble_eq_true rfl)) (cell_ok hX (Nat.le_of_ble_eq_true rfl) (Nat.le_of_ble_eq_true rfl)) (fun v12 h11 hf => ?_)
        refine s_if_eq (tgt := 66) C dX11_hide_60 (by decide) hf (fun hf => ?_) (fun hf => ?_)
        · refine s_new C (t := 1) (n := 19) (by decide) (by decide) rfl wcl_X11_118 wins_X1 wini_X1 dX11_hide_66 hf (cell1 hX (Nat.le_of_ble_eq_true rfl)) (cell2 hX (Nat.le_of_ble_eq_true rfl)) (fun v13 h14 hf => ?_)
          refine s_dup C dX11_hide_69 c1_r ?_
          refine s_aload_n C dX11_hide_70 rfl ?_
          refine s_getR C fl_X11_10 dX11_hide_71 hf (fun v15 hf => ?_)
          refine s_getI C fl_X11_70 dX11_hide_74 hf (fun v16 hf => ?_)
          refine s_iload_n C dX11_hide_77 rfl ?_
          refine s_aload C dX11_hide_78 rfl ?_
          refine s_getI C fl_X11_120 dX11_hide_80 hf (fun v17 hf => ?_)
          refine s_iload_n C dX11_hide_83 rfl ?_
          refine s_aload_n C dX11_hide_84 rfl ?_
          refine s_getR C fl_X11_10 dX11_hide_85 hf (fun v18 hf => ?_)
          refine s_getI C fl_X11_52 dX11_hide_88 hf (fun v19 hf => ?_)
          refine s_callI (st := [rB (xD X).1 v13]) (fr := 2) (lo := 42) (mc := 10) (ms := 113) C wc_X1_init wml_X11_123 wim_X1_init rfl dX11_hide_91 (As := [.inl v16, .inl a2, .inl v17, .inl a3, .inl v19]) rfl (a0 := 1) hf (fun h' hF => c_X1_init _ _ _ _ _ _ _ _ _ ((), h') hF) rfl (Nat.le_of_ble_eq_true rfl) (room_ok hX (Nat.le_of_ble_eq_true rfl) (Nat.le_of_ble_eq_true rfl)) (cell_ok hX (Nat.le_of_ble_eq_true rfl) (Nat.le_of_ble_eq_true rfl)) (fun h20 hf => ?_)
          refine s_astore C dX11_hide_94 (by decide) (nc_i rfl) (lv' := [some (rB (xD X).1 o), some (.int a1), some (.int a2), some (.int a3), some (rB (xD X).1 v3), some (.int v9), some (rB (xD X).1 v13)]) rfl ?_
          refine s_iload_n C dX11_hide_96 rfl ?_
          refine s_iconst C dX11_hide_97 (v := (3 : Int32)) (by decide) ?_
          refine s_jn hf (fun j120 e120 hf => ?_)
          have k120 : ∀ (h21 : AH), j120 h21 = some r → WW X h21 11 132 120 [some (rB (xD X).1 o), none, none, none, none, none, some (rB (xD X).1 v13)] [] := by
            intro h21 hf
            rw [e120] at hf
            refine s_aload_n C dX11_hide_120 rfl ?_
            refine s_getR C fl_X11_10 dX11_hide_121 hf (fun v22 hf => ?_)
            refine s_iconst C dX11_hide_124 (v := (0 : Int32)) (by decide) ?_
            refine s_putI C fl_X11_100 (by decide) dX11_hide_125 hf (fun h23 hf => ?_)
            refine s_aload_n C dX11_hide_128 rfl ?_
            refine s_getR C fl_X11_10 dX11_hide_129 hf (fun v24 hf => ?_)
            refine s_aload C dX11_hide_132 rfl ?_
            refine s_callV (rvf := fun x => some (.int x)) (st := []) (fr := 0) (lo := 0) (mc := 0) (ms := 0) C [3] wc_X3_enter wml_X11_81 wim_X3_enter wsl_3_X3_enter dX11_hide_134 (As := [.inr (.inr v13)]) rfl hf (fun x h' hF => c_X3_enter _ _ _ _ _ (x, h') hF) rfl (Nat.le_of_ble_eq_true rfl) (room_ok hX (Nat.le_of_ble_eq_true rfl) (Nat.le_of_ble_eq_true rfl)) (cell_ok hX (Nat.le_of_ble_eq_true rfl) (Nat.le_of_ble_eq_true rfl)) (fun v26 h25 hf => ?_)
            exact s_ireturn C E dX11_hide_137 hf (Nat.le_of_ble_eq_true rfl) (Nat.le_of_ble_eq_true rfl)
          refine s_icmp_ne (tgt := 120) C dX11_hide_98 (by decide) hf (fun hf => ?_) (fun hf => ?_)
          · refine s_weak (lv' := [some (rB (xD X).1 o), none, none, none, none, none, some (rB (xD X).1 v13)]) ⟨rfl, ⟨rfl, trivial⟩⟩ ?_
            exact k120 _ hf
          · refine s_aload C dX11_hide_101 rfl ?_
            refine s_aload_n C dX11_hide_103 rfl ?_
            refine s_getR C fl_X11_10 dX11_hide_104 hf (fun v27 hf => ?_)
            refine s_getR C fl_X11_103 dX11_hide_107 hf (fun v28 hf => ?_)
            refine s_aload_n C dX11_hide_110 rfl ?_
            refine s_getR C fl_X11_10 dX11_hide_111 hf (fun v29 hf => ?_)
            refine s_getI C fl_X11_100 dX11_hide_114 hf (fun v30 hf => ?_)
            refine s_callV (rvf := fun _ => none) (st := []) (fr := 0) (lo := 0) (mc := 0) (ms := 0) C [1] wc_X1_takeSteps wml_X11_126 wim_X1_takeSteps wsl_1_X1_takeSteps dX11_hide_117 (As := [.inr (.inr v28), .inl v30]) rfl hf (fun x h' hF => c_X1_takeSteps _ _ _ _ _ _ (x, h') hF) rfl (Nat.le_of_ble_eq_true rfl) (room_ok hX (Nat.le_of_ble_eq_true rfl) (Nat.le_of_ble_eq_true rfl)) (cell_ok hX (Nat.le_of_ble_eq_true rfl) (Nat.le_of_ble_eq_true rfl)) (fun _ h31 hf => ?_)
            refine s_weak (lv' := [some (rB (xD X).1 o), none, none, none, none, none, some (rB (xD X).1 v13)]) ⟨rfl, ⟨rfl, trivial⟩⟩ ?_
            exact k120 _ hf
        · refine s_bipush C dX11_hide_63 (v := (-3 : Int32)) (by decide) ?_
          exact s_ireturn C E dX11_hide_65 hf (Nat.le_of_ble_eq_true rfl) (Nat.le_of_ble_eq_true rfl)
      · refine s_bipush C dX11_hide_44 (v := (-20 : Int32)) (by decide) ?_
        refine s_iload C dX11_hide_46 rfl ?_
        refine s_callS (rvf := fun x => some (.int x)) (st := [.int (-20 : Int32)]) (fr := 0) (lo := 0) (mc := 0) (ms := 0) C wc_X11_asToldToTheAsker wml_X11_114 wst_X11_asToldToTheAsker dX11_hide_48 (As := [.inl v9]) rfl hf (fun x h' hF => c_X11_asToldToTheAsker _ _ _ _ (x, h') hF) rfl (Nat.le_of_ble_eq_true rfl) (room_ok hX (Nat.le_of_ble_eq_true rfl) (Nat.le_of_ble_eq_true rfl)) (cell_ok hX (Nat.le_of_ble_eq_true rfl) (Nat.le_of_ble_eq_true rfl)) (fun v33 h32 hf => ?_)
        refine s_isub C dX11_hide_51 ?_
        exact s_ireturn C E dX11_hide_52 hf (Nat.le_of_ble_eq_true rfl) (Nat.le_of_ble_eq_true rfl)
    · refine s_weak (lv' := [none, none, none, none, none, none, none]) trivial ?_
      exact k24 _ hf
