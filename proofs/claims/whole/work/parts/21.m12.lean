/-- HillBoxesModel.findFinder(II)V -/
noncomputable def f_X12_findFinder (o : Option Nat) (a1 : Int32) (a2 : Int32) (h : AH) : Option (Unit × AH) :=
  rO h [12] o <| cl (f_X12_findDay o a2 h) fun _ h1 =>
  fR h1 [12] o 43 fun v2 =>
  rO h1 [12] o <| cl (f_X12_ownOf o a1 h1) fun v4 h3 =>
  bI h3 20 v2 (2 : Int32) v4 fun h5 =>
  fR h5 [12] o 43 fun v6 =>
  fR h5 [12] o 6 fun v7 =>
  aI h5 20 v7 a1 fun v8 =>
  bI h5 20 v6 (3 : Int32) (a2 - v8) fun h9 =>
  some ((), h9)
set_option maxRecDepth 100000 in
set_option maxHeartbeats 4000000 in
theorem c_X12_findFinder (l : Launch) (D : DT) (o : Option Nat) (a1 : Int32) (a2 : Int32) (h : AH) (r : Unit × AH) (hf : f_X12_findFinder o a1 a2 h = some r) : CM l D yX12_findFinder cX12_findFinder 3 none 5 108 0 0 [.inr (.inr o), .inl a1, .inl a2] h none r.2 := by
  refine CM.of (by decide) (Nat.le_of_ble_eq_true rfl) (fun X hl C hD hX hnm E => ?_)
  subst hl
  subst hD
  have C : CX X RX12 cX12_findFinder 3 := C
  show WW X h 0 0 0 [some (rB (xD X).1 o), some (.int a1), some (.int a2)] []
  unfold f_X12_findFinder at hf
  refine s_aload_n C dX12_findFinder_0 rfl ?_
  refine s_iload_n C dX12_findFinder_1 rfl ?_
  refine s_callV (rvf := fun _ => none) (st := []) (fr := 0) (lo := 0) (mc := 0) (ms := 0) C [12] wc_X12_findDay wml_X12_438 wim_X12_findDay wsl_12_X12_findDay dX12_findFinder_2 (As := [.inl a2]) rfl hf (fun x h' hF => c_X12_findDay _ _ _ _ _ (x, h') hF) rfl (Nat.le_of_ble_eq_true rfl) (room_ok hX (Nat.le_of_ble_eq_true rfl) (Nat.le_of_ble_eq_true rfl)) (cell_ok hX (Nat.le_of_ble_eq_true rfl) (Nat.le_of_ble_eq_true rfl)) (fun _ h1 hf => ?_)
  refine s_aload_n C dX12_findFinder_5 rfl ?_
  refine s_getR C fl_X12_97 dX12_findFinder_6 hf (fun v2 hf => ?_)
  refine s_iconst C dX12_findFinder_9 (v := (2 : Int32)) (by decide) ?_
  refine s_aload_n C dX12_findFinder_10 rfl ?_
  refine s_iload_n C dX12_findFinder_11 rfl ?_
  refine s_callV (rvf := fun x => some (.int x)) (st := [.int (2 : Int32), rB (xD X).1 v2]) (fr := 4) (lo := 85) (mc := 0) (ms := 0) C [12] wc_X12_ownOf wml_X12_258 wim_X12_ownOf wsl_12_X12_ownOf dX12_findFinder_12 (As := [.inl a1]) rfl hf (fun x h' hF => c_X12_ownOf _ _ _ _ _ (x, h') hF) rfl (Nat.le_of_ble_eq_true rfl) (room_ok hX (Nat.le_of_ble_eq_true rfl) (Nat.le_of_ble_eq_true rfl)) (cell_ok hX (Nat.le_of_ble_eq_true rfl) (Nat.le_of_ble_eq_true rfl)) (fun v4 h3 hf => ?_)
  refine s_iastore C dX12_findFinder_15 hf (fun h5 hf => ?_)
  refine s_aload_n C dX12_findFinder_16 rfl ?_
  refine s_getR C fl_X12_97 dX12_findFinder_17 hf (fun v6 hf => ?_)
  refine s_iconst C dX12_findFinder_20 (v := (3 : Int32)) (by decide) ?_
  refine s_iload_n C dX12_findFinder_21 rfl ?_
  refine s_aload_n C dX12_findFinder_22 rfl ?_
  refine s_getR C fl_X12_19 dX12_findFinder_23 hf (fun v7 hf => ?_)
  refine s_iload_n C dX12_findFinder_26 rfl ?_
  refine s_iaload C dX12_findFinder_27 hf (fun v8 hf => ?_)
  refine s_isub C dX12_findFinder_28 ?_
  refine s_iastore C dX12_findFinder_29 hf (fun h9 hf => ?_)
  exact s_return C E dX12_findFinder_30 hf (Nat.le_of_ble_eq_true rfl) (Nat.le_of_ble_eq_true rfl)
/-- HillBoxesModel.forceOf(III)I -/
noncomputable def f_X12_forceOf (o : Option Nat) (a1 : Int32) (a2 : Int32) (a3 : Int32) (h : AH) : Option (Int32 × AH) :=
  lp (fun _ _ => none) (fun (L6 : Int32 → Int32 → Option (Int32 × AH)) (x1 : Int32) (x2 : Int32) =>
    fI h [12] o 33 fun v3 =>
    if v3 ≤ x2 then
      jn (fun (x4 : Int32) =>
        some (x4, h)) fun j70 =>
      if 0 ≤ x1 then
        j70 x1
      else
        j70 (-2 : Int32)
    else
      fR h [12] o 34 fun v5 =>
      aI h 20 v5 x2 fun v6 =>
      jn (fun (x7 : Int32) =>
        L6 x7 (x2 + 1)) fun j52 =>
      if v6 = a1 then
        fR h [12] o 35 fun v8 =>
        aI h 20 v8 x2 fun v9 =>
        if a3 < v9 then
          j52 x1
        else
          fR h [12] o 36 fun v10 =>
          aI h 20 v10 x2 fun v11 =>
          if a2 < v11 then
            j52 x1
          else
            j52 x2
      else
        j52 x1) lpN (-1 : Int32) (0 : Int32)
set_option maxRecDepth 100000 in
set_option maxHeartbeats 4000000 in
theorem c_X12_forceOf (l : Launch) (D : DT) (o : Option Nat) (a1 : Int32) (a2 : Int32) (a3 : Int32) (h : AH) (r : Int32 × AH) (hf : f_X12_forceOf o a1 a2 a3 h = some r) : CM l D yX12_forceOf cX12_forceOf 6 (some .int) 0 0 0 0 [.inr (.inr o), .inl a1, .inl a2, .inl a3] h (some (.int r.1)) r.2 := by
  refine CM.of (by decide) (Nat.le_of_ble_eq_true rfl) (fun X hl C hD hX hnm E => ?_)
  subst hl
  subst hD
  have C : CX X RX12 cX12_forceOf 6 := C
  show WW X h 0 0 0 [some (rB (xD X).1 o), some (.int a1), some (.int a2), some (.int a3), none, none] []
  unfold f_X12_forceOf at hf
  refine s_iconst C dX12_forceOf_0 (v := (-1 : Int32)) (by decide) ?_
  refine s_istore C dX12_forceOf_1 (by decide) (nc_i rfl) (lv' := [some (rB (xD X).1 o), some (.int a1), some (.int a2), some (.int a3), some (.int (-1 : Int32)), none]) rfl ?_
  refine s_iconst C dX12_forceOf_3 (v := (0 : Int32)) (by decide) ?_
  refine s_istore C dX12_forceOf_4 (by decide) (nc_i rfl) (lv' := [some (rB (xD X).1 o), some (.int a1), some (.int a2), some (.int a3), some (.int (-1 : Int32)), some (.int (0 : Int32))]) rfl ?_
  refine s_lp2 hf (fun G6 z6 q6 hf => ?_)
  have k6 : ∀ (n : Nat) (x1 : Int32) (x2 : Int32), G6 n x1 x2 = some r → WW X h 0 0 6 [some (rB (xD X).1 o), some (.int a1), some (.int a2), some (.int a3), some (.int x1), some (.int x2)] [] := by
    intro n
    induction n with
    | zero =>
      intro x1 x2 hf
      rw [z6] at hf
      cases hf
    | succ n ih6 =>
      intro x1 x2 hf
      have hf := (q6 n x1 x2).symm.trans hf
      refine s_iload C dX12_forceOf_6 rfl ?_
      refine s_aload_n C dX12_forceOf_8 rfl ?_
      refine s_getI C fl_X12_358 dX12_forceOf_9 hf (fun v3 hf => ?_)
      refine s_icmp_ge (tgt := 58) C dX12_forceOf_12 (by decide) hf (fun hf => ?_) (fun hf => ?_)
      · refine s_iload C dX12_forceOf_58 rfl ?_
        refine s_jn hf (fun j70 e70 hf => ?_)
        have k70 : ∀ (x4 : Int32), j70 x4 = some r → WW X h 0 0 70 [none, none, none, none, none, none] [.int x4] := by
          intro x4 hf
          rw [e70] at hf
          exact s_ireturn C E dX12_forceOf_70 hf (Nat.le_of_ble_eq_true rfl) (Nat.le_of_ble_eq_true rfl)
        refine s_if_ge (tgt := 68) C dX12_forceOf_60 (by decide) hf (fun hf => ?_) (fun hf => ?_)
        · refine s_iload C dX12_forceOf_68 rfl ?_
          refine s_weak (lv' := [none, none, none, none, none, none]) trivial ?_
          exact k70 _ hf
        · refine s_bipush C dX12_forceOf_63 (v := (-2 : Int32)) (by decide) ?_
          refine s_goto (tgt := 70) C dX12_forceOf_65 (by decide) ?_
          refine s_weak (lv' := [none, none, none, none, none, none]) trivial ?_
          exact k70 _ hf
      · refine s_aload_n C dX12_forceOf_15 rfl ?_
        refine s_getR C fl_X12_70 dX12_forceOf_16 hf (fun v5 hf => ?_)
        refine s_iload C dX12_forceOf_19 rfl ?_
        refine s_iaload C dX12_forceOf_21 hf (fun v6 hf => ?_)
        refine s_iload_n C dX12_forceOf_22 rfl ?_
        refine s_jn hf (fun j52 e52 hf => ?_)
        have k52 : ∀ (x7 : Int32), j52 x7 = some r → WW X h 0 0 52 [some (rB (xD X).1 o), some (.int a1), some (.int a2), some (.int a3), some (.int x7), some (.int x2)] [] := by
          intro x7 hf
          rw [e52] at hf
          refine s_iinc C dX12_forceOf_52 (v := (x2 + 1)) rfl rfl (by decide) (nc_i rfl) (lv' := [some (rB (xD X).1 o), some (.int a1), some (.int a2), some (.int a3), some (.int x7), some (.int (x2 + 1))]) rfl ?_
          refine s_goto (tgt := 6) C dX12_forceOf_55 (by decide) ?_
          exact ih6 _ _ hf
        refine s_icmp_ne (tgt := 52) C dX12_forceOf_23 (by decide) hf (fun hf => ?_) (fun hf => ?_)
        · exact k52 _ hf
        · refine s_aload_n C dX12_forceOf_26 rfl ?_
          refine s_getR C fl_X12_73 dX12_forceOf_27 hf (fun v8 hf => ?_)
          refine s_iload C dX12_forceOf_30 rfl ?_
          refine s_iaload C dX12_forceOf_32 hf (fun v9 hf => ?_)
          refine s_iload_n C dX12_forceOf_33 rfl ?_
          refine s_icmp_gt (tgt := 52) C dX12_forceOf_34 (by decide) hf (fun hf => ?_) (fun hf => ?_)
          · exact k52 _ hf
          · refine s_aload_n C dX12_forceOf_37 rfl ?_
            refine s_getR C fl_X12_76 dX12_forceOf_38 hf (fun v10 hf => ?_)
            refine s_iload C dX12_forceOf_41 rfl ?_
            refine s_iaload C dX12_forceOf_43 hf (fun v11 hf => ?_)
            refine s_iload_n C dX12_forceOf_44 rfl ?_
            refine s_icmp_gt (tgt := 52) C dX12_forceOf_45 (by decide) hf (fun hf => ?_) (fun hf => ?_)
            · exact k52 _ hf
            · refine s_iload C dX12_forceOf_48 rfl ?_
              refine s_istore C dX12_forceOf_50 (by decide) (nc_i rfl) (lv' := [some (rB (xD X).1 o), some (.int a1), some (.int a2), some (.int a3), some (.int x2), some (.int x2)]) rfl ?_
              exact k52 _ hf
  exact k6 lpN _ _ hf
/-- HillBoxesModel.twoOf(III)I -/
noncomputable def f_X12_twoOf (a0 : Int32) (a1 : Int32) (a2 : Int32) (h : AH) : Option (Int32 × AH) :=
  if a0 = 5 then
    jn (fun (x1 : Int32) =>
      some (x1, h)) fun j181 =>
    jn (
      j181 (0 : Int32)) fun j180 =>
    if a1 = 0 then
      j180
    else
      if a2 = 0 then
        j180
      else
        j181 (1 : Int32)
  else
  if a0 = 7 then
    jn (fun (x2 : Int32) =>
      some (x2, h)) fun j145 =>
    if a2 ≤ a1 then
      j145 (0 : Int32)
    else
      j145 (1 : Int32)
  else
  if a0 = 8 then
    jn (fun (x3 : Int32) =>
      some (x3, h)) fun j156 =>
    if a1 = a2 then
      j156 (1 : Int32)
    else
      j156 (0 : Int32)
  else
  if a0 = 9 then
    jn (fun (x4 : Int32) =>
      some (x4, h)) fun j167 =>
    if a1 ≤ a2 then
      j167 (0 : Int32)
    else
      j167 (1 : Int32)
  else
  if a0 = 37 then
    jn (fun (x5 : Int32) =>
      some (x5, h)) fun j134 =>
    jn (
      j134 (0 : Int32)) fun j127 =>
    if a2 = 0 then
      j127
    else
      if a2 = (-1 : Int32) then
        j127
      else
        nz a2 <|
        j134 (a1 - a1 / a2 * a2)
  else
  if a0 = 42 then
    some ((a1 * a2), h)
  else
  if a0 = 43 then
    some ((a1 + a2), h)
  else
  if a0 = 45 then
    some ((a1 - a2), h)
  else
  if a0 = 47 then
    jn (fun (x6 : Int32) =>
      some (x6, h)) fun j117 =>
    if a2 = 0 then
      j117 (0 : Int32)
    else
      if a2 = (-1 : Int32) then
        j117 (-a1)
      else
        nz a2 <|
        j117 (a1 / a2)
  else
    jn (fun (x7 : Int32) =>
      some (x7, h)) fun j195 =>
    jn (
      j195 (1 : Int32)) fun j190 =>
    if a1 = 0 then
      if a2 = 0 then
        j195 (0 : Int32)
      else
        j190
    else
      j190
set_option maxRecDepth 100000 in
set_option maxHeartbeats 4000000 in
theorem c_X12_twoOf (l : Launch) (D : DT) (a0 : Int32) (a1 : Int32) (a2 : Int32) (h : AH) (r : Int32 × AH) (hf : f_X12_twoOf a0 a1 a2 h = some r) : CM l D yX12_twoOf cX12_twoOf 3 (some .int) 0 0 0 0 [.inl a0, .inl a1, .inl a2] h (some (.int r.1)) r.2 := by
  refine CM.of (by decide) (Nat.le_of_ble_eq_true rfl) (fun X hl C hD hX hnm E => ?_)
  subst hl
  subst hD
  have C : CX X RX12 cX12_twoOf 3 := C
  show WW X h 0 0 0 [some (.int a0), some (.int a1), some (.int a2)] []
  unfold f_X12_twoOf at hf
  refine s_iload_n C dX12_twoOf_0 rfl ?_
  refine s_ite hf (fun e hf => ?_) (fun n0 hf => ?_)
  · refine s_lsw1 (tgt := 168) C dX12_twoOf_1 (by decide) e rfl (by decide) ?_
    refine s_iload_n C dX12_twoOf_168 rfl ?_
    refine s_jn hf (fun j181 e181 hf => ?_)
    have k181 : ∀ (x1 : Int32), j181 x1 = some r → WW X h 0 0 181 [none, none, none] [.int x1] := by
      intro x1 hf
      rw [e181] at hf
      exact s_ireturn C E dX12_twoOf_181 hf (Nat.le_of_ble_eq_true rfl) (Nat.le_of_ble_eq_true rfl)
    refine s_jn hf (fun j180 e180 hf => ?_)
    have k180 : j180  = some r → WW X h 0 0 180 [none, none, none] [] := by
      intro  hf
      rw [e180] at hf
      refine s_iconst C dX12_twoOf_180 (v := (0 : Int32)) (by decide) ?_
      exact k181 _ hf
    refine s_if_eq (tgt := 180) C dX12_twoOf_169 (by decide) hf (fun hf => ?_) (fun hf => ?_)
    · refine s_weak (lv' := [none, none, none]) trivial ?_
      exact k180 hf
    · refine s_iload_n C dX12_twoOf_172 rfl ?_
      refine s_if_eq (tgt := 180) C dX12_twoOf_173 (by decide) hf (fun hf => ?_) (fun hf => ?_)
      · refine s_weak (lv' := [none, none, none]) trivial ?_
        exact k180 hf
      · refine s_iconst C dX12_twoOf_176 (v := (1 : Int32)) (by decide) ?_
        refine s_goto (tgt := 181) C dX12_twoOf_177 (by decide) ?_
        refine s_weak (lv' := [none, none, none]) trivial ?_
        exact k181 _ hf
  refine s_ite hf (fun e hf => ?_) (fun n1 hf => ?_)
  · refine s_lsw1 (tgt := 135) C dX12_twoOf_1 (by decide) e rfl (by decide) ?_
    refine s_iload_n C dX12_twoOf_135 rfl ?_
    refine s_iload_n C dX12_twoOf_136 rfl ?_
    refine s_jn hf (fun j145 e145 hf => ?_)
    have k145 : ∀ (x2 : Int32), j145 x2 = some r → WW X h 0 0 145 [none, none, none] [.int x2] := by
      intro x2 hf
      rw [e145] at hf
      exact s_ireturn C E dX12_twoOf_145 hf (Nat.le_of_ble_eq_true rfl) (Nat.le_of_ble_eq_true rfl)
    refine s_icmp_ge (tgt := 144) C dX12_twoOf_137 (by decide) hf (fun hf => ?_) (fun hf => ?_)
    · refine s_iconst C dX12_twoOf_144 (v := (0 : Int32)) (by decide) ?_
      refine s_weak (lv' := [none, none, none]) trivial ?_
      exact k145 _ hf
    · refine s_iconst C dX12_twoOf_140 (v := (1 : Int32)) (by decide) ?_
      refine s_goto (tgt := 145) C dX12_twoOf_141 (by decide) ?_
      refine s_weak (lv' := [none, none, none]) trivial ?_
      exact k145 _ hf
  refine s_ite hf (fun e hf => ?_) (fun n2 hf => ?_)
  · refine s_lsw1 (tgt := 146) C dX12_twoOf_1 (by decide) e rfl (by decide) ?_
    refine s_iload_n C dX12_twoOf_146 rfl ?_
    refine s_iload_n C dX12_twoOf_147 rfl ?_
    refine s_jn hf (fun j156 e156 hf => ?_)
    have k156 : ∀ (x3 : Int32), j156 x3 = some r → WW X h 0 0 156 [none, none, none] [.int x3] := by
      intro x3 hf
      rw [e156] at hf
      exact s_ireturn C E dX12_twoOf_156 hf (Nat.le_of_ble_eq_true rfl) (Nat.le_of_ble_eq_true rfl)
    refine s_icmp_ne (tgt := 155) C dX12_twoOf_148 (by decide) hf (fun hf => ?_) (fun hf => ?_)
    · refine s_iconst C dX12_twoOf_155 (v := (0 : Int32)) (by decide) ?_
      refine s_weak (lv' := [none, none, none]) trivial ?_
      exact k156 _ hf
    · refine s_iconst C dX12_twoOf_151 (v := (1 : Int32)) (by decide) ?_
      refine s_goto (tgt := 156) C dX12_twoOf_152 (by decide) ?_
      refine s_weak (lv' := [none, none, none]) trivial ?_
      exact k156 _ hf
  refine s_ite hf (fun e hf => ?_) (fun n3 hf => ?_)
  · refine s_lsw1 (tgt := 157) C dX12_twoOf_1 (by decide) e rfl (by decide) ?_
    refine s_iload_n C dX12_twoOf_157 rfl ?_
    refine s_iload_n C dX12_twoOf_158 rfl ?_
    refine s_jn hf (fun j167 e167 hf => ?_)
    have k167 : ∀ (x4 : Int32), j167 x4 = some r → WW X h 0 0 167 [none, none, none] [.int x4] := by
      intro x4 hf
      rw [e167] at hf
      exact s_ireturn C E dX12_twoOf_167 hf (Nat.le_of_ble_eq_true rfl) (Nat.le_of_ble_eq_true rfl)
    refine s_icmp_le (tgt := 166) C dX12_twoOf_159 (by decide) hf (fun hf => ?_) (fun hf => ?_)
    · refine s_iconst C dX12_twoOf_166 (v := (0 : Int32)) (by decide) ?_
      refine s_weak (lv' := [none, none, none]) trivial ?_
      exact k167 _ hf
    · refine s_iconst C dX12_twoOf_162 (v := (1 : Int32)) (by decide) ?_
      refine s_goto (tgt := 167) C dX12_twoOf_163 (by decide) ?_
      refine s_weak (lv' := [none, none, none]) trivial ?_
      exact k167 _ hf
  refine s_ite hf (fun e hf => ?_) (fun n4 hf => ?_)
  · refine s_lsw1 (tgt := 118) C dX12_twoOf_1 (by decide) e rfl (by decide) ?_
    refine s_iload_n C dX12_twoOf_118 rfl ?_
    refine s_jn hf (fun j134 e134 hf => ?_)
    have k134 : ∀ (x5 : Int32), j134 x5 = some r → WW X h 0 0 134 [none, none, none] [.int x5] := by
      intro x5 hf
      rw [e134] at hf
      exact s_ireturn C E dX12_twoOf_134 hf (Nat.le_of_ble_eq_true rfl) (Nat.le_of_ble_eq_true rfl)
    refine s_jn hf (fun j127 e127 hf => ?_)
    have k127 : j127  = some r → WW X h 0 0 127 [none, none, none] [] := by
      intro  hf
      rw [e127] at hf
      refine s_iconst C dX12_twoOf_127 (v := (0 : Int32)) (by decide) ?_
      refine s_goto (tgt := 134) C dX12_twoOf_128 (by decide) ?_
      exact k134 _ hf
    refine s_if_eq (tgt := 127) C dX12_twoOf_119 (by decide) hf (fun hf => ?_) (fun hf => ?_)
    · refine s_weak (lv' := [none, none, none]) trivial ?_
      exact k127 hf
    · refine s_iload_n C dX12_twoOf_122 rfl ?_
      refine s_iconst C dX12_twoOf_123 (v := (-1 : Int32)) (by decide) ?_
      refine s_icmp_ne (tgt := 131) C dX12_twoOf_124 (by decide) hf (fun hf => ?_) (fun hf => ?_)
      · refine s_iload_n C dX12_twoOf_131 rfl ?_
        refine s_iload_n C dX12_twoOf_132 rfl ?_
        refine s_irem C dX12_twoOf_133 hf (fun hf => ?_)
        refine s_weak (lv' := [none, none, none]) trivial ?_
        exact k134 _ hf
      · refine s_weak (lv' := [none, none, none]) trivial ?_
        exact k127 hf
  refine s_ite hf (fun e hf => ?_) (fun n5 hf => ?_)
  · refine s_lsw1 (tgt := 92) C dX12_twoOf_1 (by decide) e rfl (by decide) ?_
    refine s_iload_n C dX12_twoOf_92 rfl ?_
    refine s_iload_n C dX12_twoOf_93 rfl ?_
    refine s_imul C dX12_twoOf_94 ?_
    exact s_ireturn C E dX12_twoOf_95 hf (Nat.le_of_ble_eq_true rfl) (Nat.le_of_ble_eq_true rfl)
  refine s_ite hf (fun e hf => ?_) (fun n6 hf => ?_)
  · refine s_lsw1 (tgt := 84) C dX12_twoOf_1 (by decide) e rfl (by decide) ?_
    refine s_iload_n C dX12_twoOf_84 rfl ?_
    refine s_iload_n C dX12_twoOf_85 rfl ?_
    refine s_iadd C dX12_twoOf_86 ?_
    exact s_ireturn C E dX12_twoOf_87 hf (Nat.le_of_ble_eq_true rfl) (Nat.le_of_ble_eq_true rfl)
  refine s_ite hf (fun e hf => ?_) (fun n7 hf => ?_)
  · refine s_lsw1 (tgt := 88) C dX12_twoOf_1 (by decide) e rfl (by decide) ?_
    refine s_iload_n C dX12_twoOf_88 rfl ?_
    refine s_iload_n C dX12_twoOf_89 rfl ?_
    refine s_isub C dX12_twoOf_90 ?_
    exact s_ireturn C E dX12_twoOf_91 hf (Nat.le_of_ble_eq_true rfl) (Nat.le_of_ble_eq_true rfl)
  refine s_ite hf (fun e hf => ?_) (fun n8 hf => ?_)
  · refine s_lsw1 (tgt := 96) C dX12_twoOf_1 (by decide) e rfl (by decide) ?_
    refine s_iload_n C dX12_twoOf_96 rfl ?_
    refine s_jn hf (fun j117 e117 hf => ?_)
    have k117 : ∀ (x6 : Int32), j117 x6 = some r → WW X h 0 0 117 [none, none, none] [.int x6] := by
      intro x6 hf
      rw [e117] at hf
      exact s_ireturn C E dX12_twoOf_117 hf (Nat.le_of_ble_eq_true rfl) (Nat.le_of_ble_eq_true rfl)
    refine s_if_ne (tgt := 104) C dX12_twoOf_97 (by decide) hf (fun hf => ?_) (fun hf => ?_)
    · refine s_iload_n C dX12_twoOf_104 rfl ?_
      refine s_iconst C dX12_twoOf_105 (v := (-1 : Int32)) (by decide) ?_
      refine s_icmp_ne (tgt := 114) C dX12_twoOf_106 (by decide) hf (fun hf => ?_) (fun hf => ?_)
      · refine s_iload_n C dX12_twoOf_114 rfl ?_
        refine s_iload_n C dX12_twoOf_115 rfl ?_
        refine s_idiv C dX12_twoOf_116 hf (fun hf => ?_)
        refine s_weak (lv' := [none, none, none]) trivial ?_
        exact k117 _ hf
      · refine s_iload_n C dX12_twoOf_109 rfl ?_
        refine s_ineg C dX12_twoOf_110 ?_
        refine s_goto (tgt := 117) C dX12_twoOf_111 (by decide) ?_
        refine s_weak (lv' := [none, none, none]) trivial ?_
        exact k117 _ hf
    · refine s_iconst C dX12_twoOf_100 (v := (0 : Int32)) (by decide) ?_
      refine s_goto (tgt := 117) C dX12_twoOf_101 (by decide) ?_
      refine s_weak (lv' := [none, none, none]) trivial ?_
      exact k117 _ hf
  refine s_lswitch (tgt := 182) C dX12_twoOf_1 (by decide) (by show Op.lookupswitch.offset [(5, 167), (7, 134), (8, 145), (9, 156), (37, 117), (42, 91), (43, 83), (45, 87), (47, 95)] _ _ = _; simp only [Op.lookupswitch.offset_cons, Op.lookupswitch.offset_nil]; rw [if_neg (fun z => n32 (i := 5) n0 rfl z.symm), if_neg (fun z => n32 (i := 7) n1 rfl z.symm), if_neg (fun z => n32 (i := 8) n2 rfl z.symm), if_neg (fun z => n32 (i := 9) n3 rfl z.symm), if_neg (fun z => n32 (i := 37) n4 rfl z.symm), if_neg (fun z => n32 (i := 42) n5 rfl z.symm), if_neg (fun z => n32 (i := 43) n6 rfl z.symm), if_neg (fun z => n32 (i := 45) n7 rfl z.symm), if_neg (fun z => n32 (i := 47) n8 rfl z.symm)]) (by decide) ?_
  refine s_iload_n C dX12_twoOf_182 rfl ?_
  refine s_jn hf (fun j195 e195 hf => ?_)
  have k195 : ∀ (x7 : Int32), j195 x7 = some r → WW X h 0 0 195 [none, none, none] [.int x7] := by
    intro x7 hf
    rw [e195] at hf
    exact s_ireturn C E dX12_twoOf_195 hf (Nat.le_of_ble_eq_true rfl) (Nat.le_of_ble_eq_true rfl)
  refine s_jn hf (fun j190 e190 hf => ?_)
  have k190 : j190  = some r → WW X h 0 0 190 [none, none, none] [] := by
    intro  hf
    rw [e190] at hf
    refine s_iconst C dX12_twoOf_190 (v := (1 : Int32)) (by decide) ?_
    refine s_goto (tgt := 195) C dX12_twoOf_191 (by decide) ?_
    exact k195 _ hf
  refine s_if_ne (tgt := 190) C dX12_twoOf_183 (by decide) hf (fun hf => ?_) (fun hf => ?_)
  · refine s_weak (lv' := [none, none, none]) trivial ?_
    exact k190 hf
  · refine s_iload_n C dX12_twoOf_186 rfl ?_
    refine s_if_eq (tgt := 194) C dX12_twoOf_187 (by decide) hf (fun hf => ?_) (fun hf => ?_)
    · refine s_iconst C dX12_twoOf_194 (v := (0 : Int32)) (by decide) ?_
      refine s_weak (lv' := [none, none, none]) trivial ?_
      exact k195 _ hf
    · refine s_weak (lv' := [none, none, none]) trivial ?_
      exact k190 hf
/-- HillBoxesModel.worked(III)I -/
noncomputable def f_X12_worked (o : Option Nat) (a1 : Int32) (a2 : Int32) (a3 : Int32) (h : AH) : Option (Int32 × AH) :=
  lp (fun _ _ _ => none) (fun (L12 : Int32 → Int32 → AH → Option (Int32 × AH)) (x1 : Int32) (x2 : Int32) (h3 : AH) =>
    if (((170 : Int32) * a1) + a3) ≤ x2 then
      fR h3 [12] o 44 fun v4 =>
      aI h3 20 v4 (0 : Int32) fun v5 =>
      some (v5, h3)
    else
      fR h3 [12] o 41 fun v6 =>
      aI h3 22 v6 x2 fun v7 =>
      jn (fun (x8 : Int32) (h9 : AH) =>
        L12 x8 (x2 + 1) h9) fun j182 =>
      jn (
        fR h3 [12] o 44 fun v10 =>
        jn (fun (x11 : Int32) =>
          bI h3 20 v10 x1 x11 fun h12 =>
          j182 (x1 + 1) h12) fun j79 =>
        if v7 = (1 : Int32) then
          fR h3 [12] o 42 fun v17 =>
          aI h3 20 v17 x2 fun v18 =>
          j79 v18
        else
          fR h3 [12] o 43 fun v13 =>
          fR h3 [12] o 42 fun v14 =>
          aI h3 20 v14 x2 fun v15 =>
          aI h3 20 v13 v15 fun v16 =>
          j79 v16) fun j45 =>
      if v7 = (1 : Int32) then
        j45
      else
        if v7 = (2 : Int32) then
          j45
        else
          if v7 = (3 : Int32) then
            fR h3 [12] o 44 fun v31 =>
            fR h3 [12] o 44 fun v32 =>
            aI h3 20 v32 (x1 - (1 : Int32)) fun v33 =>
            jn (fun (x34 : Int32) =>
              bI h3 20 v31 (x1 - (1 : Int32)) x34 fun h35 =>
              j182 x1 h35) fun j117 =>
            if v33 = 0 then
              j117 (1 : Int32)
            else
              j117 (0 : Int32)
          else
            if v7 = (4 : Int32) then
              fR h3 [12] o 44 fun v27 =>
              fR h3 [12] o 44 fun v28 =>
              aI h3 20 v28 (x1 - (1 : Int32)) fun v29 =>
              bI h3 20 v27 (x1 - (1 : Int32)) (-v29) fun h30 =>
              j182 x1 h30
            else
              fR h3 [12] o 44 fun v19 =>
              fR h3 [12] o 44 fun v20 =>
              aI h3 20 v20 ((x1 + (-1)) - (1 : Int32)) fun v21 =>
              fR h3 [12] o 44 fun v22 =>
              aI h3 20 v22 (x1 + (-1)) fun v23 =>
              cl (f_X12_twoOf v7 v21 v23 h3) fun v25 h24 =>
              bI h24 20 v19 ((x1 + (-1)) - (1 : Int32)) v25 fun h26 =>
              j182 (x1 + (-1)) h26) lpN (0 : Int32) (((170 : Int32) * a1) + a2) h
set_option maxRecDepth 100000 in
set_option maxHeartbeats 4000000 in
theorem c_X12_worked (l : Launch) (D : DT) (o : Option Nat) (a1 : Int32) (a2 : Int32) (a3 : Int32) (h : AH) (r : Int32 × AH) (hf : f_X12_worked o a1 a2 a3 h = some r) : CM l D yX12_worked cX12_worked 7 (some .int) 1 22 0 0 [.inr (.inr o), .inl a1, .inl a2, .inl a3] h (some (.int r.1)) r.2 := by
  refine CM.of (by decide) (Nat.le_of_ble_eq_true rfl) (fun X hl C hD hX hnm E => ?_)
  subst hl
  subst hD
  have C : CX X RX12 cX12_worked 7 := C
  show WW X h 0 0 0 [some (rB (xD X).1 o), some (.int a1), some (.int a2), some (.int a3), none, none, none] []
  unfold f_X12_worked at hf
  refine s_iconst C dX12_worked_0 (v := (0 : Int32)) (by decide) ?_
  refine s_istore C dX12_worked_1 (by decide) (nc_i rfl) (lv' := [some (rB (xD X).1 o), some (.int a1), some (.int a2), some (.int a3), some (.int (0 : Int32)), none, none]) rfl ?_
  refine s_sipush C dX12_worked_3 (v := (170 : Int32)) (by decide) ?_
  refine s_iload_n C dX12_worked_6 rfl ?_
  refine s_imul C dX12_worked_7 ?_
  refine s_iload_n C dX12_worked_8 rfl ?_
  refine s_iadd C dX12_worked_9 ?_
  refine s_istore C dX12_worked_10 (by decide) (nc_i rfl) (lv' := [some (rB (xD X).1 o), some (.int a1), some (.int a2), some (.int a3), some (.int (0 : Int32)), some (.int (((170 : Int32) * a1) + a2)), none]) rfl ?_
  refine s_lp3 hf (fun G12 z12 q12 hf => ?_)
  have k12 : ∀ (n : Nat) (x1 : Int32) (x2 : Int32) (h3 : AH), G12 n x1 x2 h3 = some r → WW X h3 0 0 12 [some (rB (xD X).1 o), some (.int a1), none, some (.int a3), some (.int x1), some (.int x2), none] [] := by
    intro n
    induction n with
    | zero =>
      intro x1 x2 h3 hf
      rw [z12] at hf
      cases hf
    | succ n ih12 =>
      intro x1 x2 h3 hf
      have hf := (q12 n x1 x2 h3).symm.trans hf
      refine s_iload C dX12_worked_12 rfl ?_
      refine s_sipush C dX12_worked_14 (v := (170 : Int32)) (by decide) ?_
      refine s_iload_n C dX12_worked_17 rfl ?_
      refine s_imul C dX12_worked_18 ?_
      refine s_iload_n C dX12_worked_19 rfl ?_
      refine s_iadd C dX12_worked_20 ?_
      refine s_icmp_ge (tgt := 188) C dX12_worked_21 (by decide) hf (fun hf => ?_) (fun hf => ?_)
      · refine s_aload_n C dX12_worked_188 rfl ?_
        refine s_getR C fl_X12_100 dX12_worked_189 hf (fun v4 hf => ?_)
        refine s_iconst C dX12_worked_192 (v := (0 : Int32)) (by decide) ?_
        refine s_iaload C dX12_worked_193 hf (fun v5 hf => ?_)
        exact s_ireturn C E dX12_worked_194 hf (Nat.le_of_ble_eq_true rfl) (Nat.le_of_ble_eq_true rfl)
      · refine s_aload_n C dX12_worked_24 rfl ?_
        refine s_getR C fl_X12_91 dX12_worked_25 hf (fun v6 hf => ?_)
        refine s_iload C dX12_worked_28 rfl ?_
        refine s_baload C dX12_worked_30 hf (fun v7 hf => ?_)
        refine s_istore C dX12_worked_31 (by decide) (nc_i rfl) (lv' := [some (rB (xD X).1 o), some (.int a1), none, some (.int a3), some (.int x1), some (.int x2), some (.int v7)]) rfl ?_
        refine s_iload C dX12_worked_33 rfl ?_
        refine s_iconst C dX12_worked_35 (v := (1 : Int32)) (by decide) ?_
        refine s_jn hf (fun j182 e182 hf => ?_)
        have k182 : ∀ (x8 : Int32) (h9 : AH), j182 x8 h9 = some r → WW X h9 0 0 182 [some (rB (xD X).1 o), some (.int a1), none, some (.int a3), some (.int x8), some (.int x2), none] [] := by
          intro x8 h9 hf
          rw [e182] at hf
          refine s_iinc C dX12_worked_182 (v := (x2 + 1)) rfl rfl (by decide) (nc_i rfl) (lv' := [some (rB (xD X).1 o), some (.int a1), none, some (.int a3), some (.int x8), some (.int (x2 + 1)), none]) rfl ?_
          refine s_goto (tgt := 12) C dX12_worked_185 (by decide) ?_
          exact ih12 _ _ _ hf
        refine s_jn hf (fun j45 e45 hf => ?_)
        have k45 : j45  = some r → WW X h3 0 0 45 [some (rB (xD X).1 o), some (.int a1), none, some (.int a3), some (.int x1), some (.int x2), some (.int v7)] [] := by
          intro  hf
          rw [e45] at hf
          refine s_aload_n C dX12_worked_45 rfl ?_
          refine s_getR C fl_X12_100 dX12_worked_46 hf (fun v10 hf => ?_)
          refine s_iload C dX12_worked_49 rfl ?_
          refine s_iload C dX12_worked_51 rfl ?_
          refine s_iconst C dX12_worked_53 (v := (1 : Int32)) (by decide) ?_
          refine s_jn hf (fun j79 e79 hf => ?_)
          have k79 : ∀ (x11 : Int32), j79 x11 = some r → WW X h3 0 0 79 [some (rB (xD X).1 o), some (.int a1), none, some (.int a3), some (.int x1), some (.int x2), none] [.int x11, .int x1, rB (xD X).1 v10] := by
            intro x11 hf
            rw [e79] at hf
            refine s_iastore C dX12_worked_79 hf (fun h12 hf => ?_)
            refine s_iinc C dX12_worked_80 (v := (x1 + 1)) rfl rfl (by decide) (nc_i rfl) (lv' := [some (rB (xD X).1 o), some (.int a1), none, some (.int a3), some (.int (x1 + 1)), some (.int x2), none]) rfl ?_
            refine s_goto (tgt := 182) C dX12_worked_83 (by decide) ?_
            exact k182 _ _ hf
          refine s_icmp_ne (tgt := 67) C dX12_worked_54 (by decide) hf (fun hf => ?_) (fun hf => ?_)
          · refine s_aload_n C dX12_worked_67 rfl ?_
            refine s_getR C fl_X12_97 dX12_worked_68 hf (fun v13 hf => ?_)
            refine s_aload_n C dX12_worked_71 rfl ?_
            refine s_getR C fl_X12_94 dX12_worked_72 hf (fun v14 hf => ?_)
            refine s_iload C dX12_worked_75 rfl ?_
            refine s_iaload C dX12_worked_77 hf (fun v15 hf => ?_)
            refine s_iaload C dX12_worked_78 hf (fun v16 hf => ?_)
            refine s_weak (lv' := [some (rB (xD X).1 o), some (.int a1), none, some (.int a3), some (.int x1), some (.int x2), none]) ⟨rfl, ⟨rfl, ⟨rfl, ⟨rfl, ⟨rfl, trivial⟩⟩⟩⟩⟩ ?_
            exact k79 _ hf
          · refine s_aload_n C dX12_worked_57 rfl ?_
            refine s_getR C fl_X12_94 dX12_worked_58 hf (fun v17 hf => ?_)
            refine s_iload C dX12_worked_61 rfl ?_
            refine s_iaload C dX12_worked_63 hf (fun v18 hf => ?_)
            refine s_goto (tgt := 79) C dX12_worked_64 (by decide) ?_
            refine s_weak (lv' := [some (rB (xD X).1 o), some (.int a1), none, some (.int a3), some (.int x1), some (.int x2), none]) ⟨rfl, ⟨rfl, ⟨rfl, ⟨rfl, ⟨rfl, trivial⟩⟩⟩⟩⟩ ?_
            exact k79 _ hf
        refine s_icmp_eq (tgt := 45) C dX12_worked_36 (by decide) hf (fun hf => ?_) (fun hf => ?_)
        · exact k45 hf
        · refine s_iload C dX12_worked_39 rfl ?_
          refine s_iconst C dX12_worked_41 (v := (2 : Int32)) (by decide) ?_
          refine s_icmp_ne (tgt := 86) C dX12_worked_42 (by decide) hf (fun hf => ?_) (fun hf => ?_)
          · refine s_iload C dX12_worked_86 rfl ?_
            refine s_iconst C dX12_worked_88 (v := (3 : Int32)) (by decide) ?_
            refine s_icmp_ne (tgt := 121) C dX12_worked_89 (by decide) hf (fun hf => ?_) (fun hf => ?_)
            · refine s_iload C dX12_worked_121 rfl ?_
              refine s_iconst C dX12_worked_123 (v := (4 : Int32)) (by decide) ?_
              refine s_icmp_ne (tgt := 149) C dX12_worked_124 (by decide) hf (fun hf => ?_) (fun hf => ?_)
              · refine s_iinc C dX12_worked_149 (v := (x1 + (-1))) rfl rfl (by decide) (nc_i rfl) (lv' := [some (rB (xD X).1 o), some (.int a1), none, some (.int a3), some (.int (x1 + (-1))), some (.int x2), some (.int v7)]) rfl ?_
                refine s_aload_n C dX12_worked_152 rfl ?_
                refine s_getR C fl_X12_100 dX12_worked_153 hf (fun v19 hf => ?_)
                refine s_iload C dX12_worked_156 rfl ?_
                refine s_iconst C dX12_worked_158 (v := (1 : Int32)) (by decide) ?_
                refine s_isub C dX12_worked_159 ?_
                refine s_iload C dX12_worked_160 rfl ?_
                refine s_aload_n C dX12_worked_162 rfl ?_
                refine s_getR C fl_X12_100 dX12_worked_163 hf (fun v20 hf => ?_)
                refine s_iload C dX12_worked_166 rfl ?_
                refine s_iconst C dX12_worked_168 (v := (1 : Int32)) (by decide) ?_
                refine s_isub C dX12_worked_169 ?_
                refine s_iaload C dX12_worked_170 hf (fun v21 hf => ?_)
                refine s_aload_n C dX12_worked_171 rfl ?_
                refine s_getR C fl_X12_100 dX12_worked_172 hf (fun v22 hf => ?_)
                refine s_iload C dX12_worked_175 rfl ?_
                refine s_iaload C dX12_worked_177 hf (fun v23 hf => ?_)
                refine s_callS (rvf := fun x => some (.int x)) (st := [.int ((x1 + (-1)) - (1 : Int32)), rB (xD X).1 v19]) (fr := 0) (lo := 0) (mc := 0) (ms := 0) C wc_X12_twoOf wml_X12_429 wst_X12_twoOf dX12_worked_178 (As := [.inl v7, .inl v21, .inl v23]) rfl hf (fun x h' hF => c_X12_twoOf _ _ _ _ _ _ (x, h') hF) rfl (Nat.le_of_ble_eq_true rfl) (room_ok hX (Nat.le_of_ble_eq_true rfl) (Nat.le_of_ble_eq_true rfl)) (cell_ok hX (Nat.le_of_ble_eq_true rfl) (Nat.le_of_ble_eq_true rfl)) (fun v25 h24 hf => ?_)
                refine s_iastore C dX12_worked_181 hf (fun h26 hf => ?_)
                refine s_weak (lv' := [some (rB (xD X).1 o), some (.int a1), none, some (.int a3), some (.int (x1 + (-1))), some (.int x2), none]) ⟨rfl, ⟨rfl, ⟨rfl, ⟨rfl, ⟨rfl, trivial⟩⟩⟩⟩⟩ ?_
                exact k182 _ _ hf
              · refine s_aload_n C dX12_worked_127 rfl ?_
                refine s_getR C fl_X12_100 dX12_worked_128 hf (fun v27 hf => ?_)
                refine s_iload C dX12_worked_131 rfl ?_
                refine s_iconst C dX12_worked_133 (v := (1 : Int32)) (by decide) ?_
                refine s_isub C dX12_worked_134 ?_
                refine s_aload_n C dX12_worked_135 rfl ?_
                refine s_getR C fl_X12_100 dX12_worked_136 hf (fun v28 hf => ?_)
                refine s_iload C dX12_worked_139 rfl ?_
                refine s_iconst C dX12_worked_141 (v := (1 : Int32)) (by decide) ?_
                refine s_isub C dX12_worked_142 ?_
                refine s_iaload C dX12_worked_143 hf (fun v29 hf => ?_)
                refine s_ineg C dX12_worked_144 ?_
                refine s_iastore C dX12_worked_145 hf (fun h30 hf => ?_)
                refine s_goto (tgt := 182) C dX12_worked_146 (by decide) ?_
                refine s_weak (lv' := [some (rB (xD X).1 o), some (.int a1), none, some (.int a3), some (.int x1), some (.int x2), none]) ⟨rfl, ⟨rfl, ⟨rfl, ⟨rfl, ⟨rfl, trivial⟩⟩⟩⟩⟩ ?_
                exact k182 _ _ hf
            · refine s_aload_n C dX12_worked_92 rfl ?_
              refine s_getR C fl_X12_100 dX12_worked_93 hf (fun v31 hf => ?_)
              refine s_iload C dX12_worked_96 rfl ?_
              refine s_iconst C dX12_worked_98 (v := (1 : Int32)) (by decide) ?_
              refine s_isub C dX12_worked_99 ?_
              refine s_aload_n C dX12_worked_100 rfl ?_
              refine s_getR C fl_X12_100 dX12_worked_101 hf (fun v32 hf => ?_)
              refine s_iload C dX12_worked_104 rfl ?_
              refine s_iconst C dX12_worked_106 (v := (1 : Int32)) (by decide) ?_
              refine s_isub C dX12_worked_107 ?_
              refine s_iaload C dX12_worked_108 hf (fun v33 hf => ?_)
              refine s_jn hf (fun j117 e117 hf => ?_)
              have k117 : ∀ (x34 : Int32), j117 x34 = some r → WW X h3 0 0 117 [some (rB (xD X).1 o), some (.int a1), none, some (.int a3), some (.int x1), some (.int x2), none] [.int x34, .int (x1 - (1 : Int32)), rB (xD X).1 v31] := by
                intro x34 hf
                rw [e117] at hf
                refine s_iastore C dX12_worked_117 hf (fun h35 hf => ?_)
                refine s_goto (tgt := 182) C dX12_worked_118 (by decide) ?_
                exact k182 _ _ hf
              refine s_if_ne (tgt := 116) C dX12_worked_109 (by decide) hf (fun hf => ?_) (fun hf => ?_)
              · refine s_iconst C dX12_worked_116 (v := (0 : Int32)) (by decide) ?_
                refine s_weak (lv' := [some (rB (xD X).1 o), some (.int a1), none, some (.int a3), some (.int x1), some (.int x2), none]) ⟨rfl, ⟨rfl, ⟨rfl, ⟨rfl, ⟨rfl, trivial⟩⟩⟩⟩⟩ ?_
                exact k117 _ hf
              · refine s_iconst C dX12_worked_112 (v := (1 : Int32)) (by decide) ?_
                refine s_goto (tgt := 117) C dX12_worked_113 (by decide) ?_
                refine s_weak (lv' := [some (rB (xD X).1 o), some (.int a1), none, some (.int a3), some (.int x1), some (.int x2), none]) ⟨rfl, ⟨rfl, ⟨rfl, ⟨rfl, ⟨rfl, trivial⟩⟩⟩⟩⟩ ?_
                exact k117 _ hf
          · exact k45 hf
  refine s_weak (lv' := [some (rB (xD X).1 o), some (.int a1), none, some (.int a3), some (.int (0 : Int32)), some (.int (((170 : Int32) * a1) + a2)), none]) ⟨rfl, ⟨rfl, ⟨rfl, ⟨rfl, ⟨rfl, trivial⟩⟩⟩⟩⟩ ?_
  exact k12 lpN _ _ _ hf
/-- HillBoxesModel.lineGives(I)I -/
noncomputable def f_X12_lineGives (o : Option Nat) (a1 : Int32) (h : AH) : Option (Int32 × AH) :=
  lp (fun _ _ _ => none) (fun (L7 : Int32 → Int32 → AH → Option (Int32 × AH)) (x1 : Int32) (x2 : Int32) (h3 : AH) =>
    fR h3 [12] o 37 fun v4 =>
    aI h3 20 v4 a1 fun v5 =>
    if (((81 : Int32) * a1) + v5) ≤ x2 then
      pI h3 [12] o 45 (-1 : Int32) fun h6 =>
      some ((0 : Int32), h6)
    else
      fR h3 [12] o 38 fun v7 =>
      aI h3 22 v7 x2 fun v8 =>
      jn (fun (x9 : Int32) (h10 : AH) =>
        if x9 = 0 then
          fR h10 [12] o 40 fun v11 =>
          aI h10 21 v11 x2 fun v12 =>
          L7 v12 (x2 + 1) h10
        else
          pI h10 [12] o 45 (x2 - ((81 : Int32) * a1)) fun h13 =>
          fR h13 [12] o 39 fun v14 =>
          aI h13 21 v14 x2 fun v15 =>
          fR h13 [12] o 40 fun v16 =>
          aI h13 21 v16 x2 fun v17 =>
          rO h13 [12] o <| cl (f_X12_worked o a1 v15 v17 h13) fun v19 h18 =>
          some (v19, h18)) fun j74 =>
      jn (fun (h20 : AH) =>
        j74 (1 : Int32) h20) fun j69 =>
      if v8 = 0 then
        j69 h3
      else
        fR h3 [12] o 39 fun v21 =>
        aI h3 21 v21 x2 fun v22 =>
        rO h3 [12] o <| cl (f_X12_worked o a1 x1 v22 h3) fun v24 h23 =>
        jn (fun (x25 : Int32) =>
          fR h23 [12] o 38 fun v26 =>
          aI h23 22 v26 x2 fun v27 =>
          jn (fun (x28 : Int32) =>
            if x25 = x28 then
              j69 h23
            else
              j74 (0 : Int32) h23) fun j66 =>
          if v27 = (1 : Int32) then
            j66 (1 : Int32)
          else
            j66 (0 : Int32)) fun j51 =>
        if v24 = 0 then
          j51 (0 : Int32)
        else
          j51 (1 : Int32)) lpN (0 : Int32) ((81 : Int32) * a1) h
set_option maxRecDepth 100000 in
set_option maxHeartbeats 4000000 in
theorem c_X12_lineGives (l : Launch) (D : DT) (o : Option Nat) (a1 : Int32) (h : AH) (r : Int32 × AH) (hf : f_X12_lineGives o a1 h = some r) : CM l D yX12_lineGives cX12_lineGives 5 (some .int) 2 48 0 0 [.inr (.inr o), .inl a1] h (some (.int r.1)) r.2 := by
  refine CM.of (by decide) (Nat.le_of_ble_eq_true rfl) (fun X hl C hD hX hnm E => ?_)
  subst hl
  subst hD
  have C : CX X RX12 cX12_lineGives 5 := C
  show WW X h 0 0 0 [some (rB (xD X).1 o), some (.int a1), none, none, none] []
  unfold f_X12_lineGives at hf
  refine s_iconst C dX12_lineGives_0 (v := (0 : Int32)) (by decide) ?_
  refine s_istore_n C dX12_lineGives_1 (by decide) (nc_i rfl) (lv' := [some (rB (xD X).1 o), some (.int a1), some (.int (0 : Int32)), none, none]) rfl ?_
  refine s_bipush C dX12_lineGives_2 (v := (81 : Int32)) (by decide) ?_
  refine s_iload_n C dX12_lineGives_4 rfl ?_
  refine s_imul C dX12_lineGives_5 ?_
  refine s_istore_n C dX12_lineGives_6 (by decide) (nc_i rfl) (lv' := [some (rB (xD X).1 o), some (.int a1), some (.int (0 : Int32)), some (.int ((81 : Int32) * a1)), none]) rfl ?_
  refine s_lp3 hf (fun G7 z7 q7 hf => ?_)
  have k7 : ∀ (n : Nat) (x1 : Int32) (x2 : Int32) (h3 : AH), G7 n x1 x2 h3 = some r → WW X h3 0 0 7 [some (rB (xD X).1 o), some (.int a1), some (.int x1), some (.int x2), none] [] := by
    intro n
    induction n with
    | zero =>
      intro x1 x2 h3 hf
      rw [z7] at hf
      cases hf
    | succ n ih7 =>
      intro x1 x2 h3 hf
      have hf := (q7 n x1 x2 h3).symm.trans hf
      refine s_iload_n C dX12_lineGives_7 rfl ?_
      refine s_bipush C dX12_lineGives_8 (v := (81 : Int32)) (by decide) ?_
      refine s_iload_n C dX12_lineGives_10 rfl ?_
      refine s_imul C dX12_lineGives_11 ?_
      refine s_aload_n C dX12_lineGives_12 rfl ?_
      refine s_getR C fl_X12_79 dX12_lineGives_13 hf (fun v4 hf => ?_)
      refine s_iload_n C dX12_lineGives_16 rfl ?_
      refine s_iaload C dX12_lineGives_17 hf (fun v5 hf => ?_)
      refine s_iadd C dX12_lineGives_18 ?_
      refine s_icmp_ge (tgt := 122) C dX12_lineGives_19 (by decide) hf (fun hf => ?_) (fun hf => ?_)
      · refine s_aload_n C dX12_lineGives_122 rfl ?_
        refine s_iconst C dX12_lineGives_123 (v := (-1 : Int32)) (by decide) ?_
        refine s_putI C fl_X12_435 (by decide) dX12_lineGives_124 hf (fun h6 hf => ?_)
        refine s_iconst C dX12_lineGives_127 (v := (0 : Int32)) (by decide) ?_
        exact s_ireturn C E dX12_lineGives_128 hf (Nat.le_of_ble_eq_true rfl) (Nat.le_of_ble_eq_true rfl)
      · refine s_aload_n C dX12_lineGives_22 rfl ?_
        refine s_getR C fl_X12_82 dX12_lineGives_23 hf (fun v7 hf => ?_)
        refine s_iload_n C dX12_lineGives_26 rfl ?_
        refine s_baload C dX12_lineGives_27 hf (fun v8 hf => ?_)
        refine s_jn hf (fun j74 e74 hf => ?_)
        have k74 : ∀ (x9 : Int32) (h10 : AH), j74 x9 h10 = some r → WW X h10 0 0 74 [some (rB (xD X).1 o), some (.int a1), none, some (.int x2), none] [.int x9] := by
          intro x9 h10 hf
          rw [e74] at hf
          refine s_istore C dX12_lineGives_74 (by decide) (nc_i rfl) (lv' := [some (rB (xD X).1 o), some (.int a1), none, some (.int x2), some (.int x9)]) rfl ?_
          refine s_iload C dX12_lineGives_76 rfl ?_
          refine s_if_eq (tgt := 109) C dX12_lineGives_78 (by decide) hf (fun hf => ?_) (fun hf => ?_)
          · refine s_aload_n C dX12_lineGives_109 rfl ?_
            refine s_getR C fl_X12_88 dX12_lineGives_110 hf (fun v11 hf => ?_)
            refine s_iload_n C dX12_lineGives_113 rfl ?_
            refine s_saload C dX12_lineGives_114 hf (fun v12 hf => ?_)
            refine s_istore_n C dX12_lineGives_115 (by decide) (nc_i rfl) (lv' := [some (rB (xD X).1 o), some (.int a1), some (.int v12), some (.int x2), some (.int x9)]) rfl ?_
            refine s_iinc C dX12_lineGives_116 (v := (x2 + 1)) rfl rfl (by decide) (nc_i rfl) (lv' := [some (rB (xD X).1 o), some (.int a1), some (.int v12), some (.int (x2 + 1)), some (.int x9)]) rfl ?_
            refine s_goto (tgt := 7) C dX12_lineGives_119 (by decide) ?_
            refine s_weak (lv' := [some (rB (xD X).1 o), some (.int a1), some (.int v12), some (.int (x2 + 1)), none]) ⟨rfl, ⟨rfl, ⟨rfl, ⟨rfl, trivial⟩⟩⟩⟩ ?_
            exact ih7 _ _ _ hf
          · refine s_aload_n C dX12_lineGives_81 rfl ?_
            refine s_iload_n C dX12_lineGives_82 rfl ?_
            refine s_bipush C dX12_lineGives_83 (v := (81 : Int32)) (by decide) ?_
            refine s_iload_n C dX12_lineGives_85 rfl ?_
            refine s_imul C dX12_lineGives_86 ?_
            refine s_isub C dX12_lineGives_87 ?_
            refine s_putI C fl_X12_435 (by decide) dX12_lineGives_88 hf (fun h13 hf => ?_)
            refine s_aload_n C dX12_lineGives_91 rfl ?_
            refine s_iload_n C dX12_lineGives_92 rfl ?_
            refine s_aload_n C dX12_lineGives_93 rfl ?_
            refine s_getR C fl_X12_85 dX12_lineGives_94 hf (fun v14 hf => ?_)
            refine s_iload_n C dX12_lineGives_97 rfl ?_
            refine s_saload C dX12_lineGives_98 hf (fun v15 hf => ?_)
            refine s_aload_n C dX12_lineGives_99 rfl ?_
            refine s_getR C fl_X12_88 dX12_lineGives_100 hf (fun v16 hf => ?_)
            refine s_iload_n C dX12_lineGives_103 rfl ?_
            refine s_saload C dX12_lineGives_104 hf (fun v17 hf => ?_)
            refine s_callV (rvf := fun x => some (.int x)) (st := []) (fr := 1) (lo := 22) (mc := 0) (ms := 0) C [12] wc_X12_worked wml_X12_432 wim_X12_worked wsl_12_X12_worked dX12_lineGives_105 (As := [.inl a1, .inl v15, .inl v17]) rfl hf (fun x h' hF => c_X12_worked _ _ _ _ _ _ _ (x, h') hF) rfl (Nat.le_of_ble_eq_true rfl) (room_ok hX (Nat.le_of_ble_eq_true rfl) (Nat.le_of_ble_eq_true rfl)) (cell_ok hX (Nat.le_of_ble_eq_true rfl) (Nat.le_of_ble_eq_true rfl)) (fun v19 h18 hf => ?_)
            exact s_ireturn C E dX12_lineGives_108 hf (Nat.le_of_ble_eq_true rfl) (Nat.le_of_ble_eq_true rfl)
        refine s_jn hf (fun j69 e69 hf => ?_)
        have k69 : ∀ (h20 : AH), j69 h20 = some r → WW X h20 0 0 69 [some (rB (xD X).1 o), some (.int a1), none, some (.int x2), none] [] := by
          intro h20 hf
          rw [e69] at hf
          refine s_iconst C dX12_lineGives_69 (v := (1 : Int32)) (by decide) ?_
          refine s_goto (tgt := 74) C dX12_lineGives_70 (by decide) ?_
          exact k74 _ _ hf
        refine s_if_eq (tgt := 69) C dX12_lineGives_28 (by decide) hf (fun hf => ?_) (fun hf => ?_)
        · refine s_weak (lv' := [some (rB (xD X).1 o), some (.int a1), none, some (.int x2), none]) ⟨rfl, ⟨rfl, ⟨rfl, trivial⟩⟩⟩ ?_
          exact k69 _ hf
        · refine s_aload_n C dX12_lineGives_31 rfl ?_
          refine s_iload_n C dX12_lineGives_32 rfl ?_
          refine s_iload_n C dX12_lineGives_33 rfl ?_
          refine s_aload_n C dX12_lineGives_34 rfl ?_
          refine s_getR C fl_X12_85 dX12_lineGives_35 hf (fun v21 hf => ?_)
          refine s_iload_n C dX12_lineGives_38 rfl ?_
          refine s_saload C dX12_lineGives_39 hf (fun v22 hf => ?_)
          refine s_callV (rvf := fun x => some (.int x)) (st := []) (fr := 1) (lo := 22) (mc := 0) (ms := 0) C [12] wc_X12_worked wml_X12_432 wim_X12_worked wsl_12_X12_worked dX12_lineGives_40 (As := [.inl a1, .inl x1, .inl v22]) rfl hf (fun x h' hF => c_X12_worked _ _ _ _ _ _ _ (x, h') hF) rfl (Nat.le_of_ble_eq_true rfl) (room_ok hX (Nat.le_of_ble_eq_true rfl) (Nat.le_of_ble_eq_true rfl)) (cell_ok hX (Nat.le_of_ble_eq_true rfl) (Nat.le_of_ble_eq_true rfl)) (fun v24 h23 hf => ?_)
          refine s_jn hf (fun j51 e51 hf => ?_)
          have k51 : ∀ (x25 : Int32), j51 x25 = some r → WW X h23 0 0 51 [some (rB (xD X).1 o), some (.int a1), none, some (.int x2), none] [.int x25] := by
            intro x25 hf
            rw [e51] at hf
            refine s_aload_n C dX12_lineGives_51 rfl ?_
            refine s_getR C fl_X12_82 dX12_lineGives_52 hf (fun v26 hf => ?_)
            refine s_iload_n C dX12_lineGives_55 rfl ?_
            refine s_baload C dX12_lineGives_56 hf (fun v27 hf => ?_)
            refine s_iconst C dX12_lineGives_57 (v := (1 : Int32)) (by decide) ?_
            refine s_jn hf (fun j66 e66 hf => ?_)
            have k66 : ∀ (x28 : Int32), j66 x28 = some r → WW X h23 0 0 66 [some (rB (xD X).1 o), some (.int a1), none, some (.int x2), none] [.int x28, .int x25] := by
              intro x28 hf
              rw [e66] at hf
              refine s_icmp_ne (tgt := 73) C dX12_lineGives_66 (by decide) hf (fun hf => ?_) (fun hf => ?_)
              · refine s_iconst C dX12_lineGives_73 (v := (0 : Int32)) (by decide) ?_
                exact k74 _ _ hf
              · exact k69 _ hf
            refine s_icmp_ne (tgt := 65) C dX12_lineGives_58 (by decide) hf (fun hf => ?_) (fun hf => ?_)
            · refine s_iconst C dX12_lineGives_65 (v := (0 : Int32)) (by decide) ?_
              exact k66 _ hf
            · refine s_iconst C dX12_lineGives_61 (v := (1 : Int32)) (by decide) ?_
              refine s_goto (tgt := 66) C dX12_lineGives_62 (by decide) ?_
              exact k66 _ hf
          refine s_if_eq (tgt := 50) C dX12_lineGives_43 (by decide) hf (fun hf => ?_) (fun hf => ?_)
          · refine s_iconst C dX12_lineGives_50 (v := (0 : Int32)) (by decide) ?_
            refine s_weak (lv' := [some (rB (xD X).1 o), some (.int a1), none, some (.int x2), none]) ⟨rfl, ⟨rfl, ⟨rfl, trivial⟩⟩⟩ ?_
            exact k51 _ hf
          · refine s_iconst C dX12_lineGives_46 (v := (1 : Int32)) (by decide) ?_
            refine s_goto (tgt := 51) C dX12_lineGives_47 (by decide) ?_
            refine s_weak (lv' := [some (rB (xD X).1 o), some (.int a1), none, some (.int x2), none]) ⟨rfl, ⟨rfl, ⟨rfl, trivial⟩⟩⟩ ?_
            exact k51 _ hf
  exact k7 lpN _ _ _ hf
/-- HillBoxesModel.lawBy(IIII)I -/
noncomputable def f_X12_lawBy (o : Option Nat) (a1 : Int32) (a2 : Int32) (a3 : Int32) (a4 : Int32) (h : AH) : Option (Int32 × AH) :=
  rO h [12] o <| cl (f_X12_forceOf o a1 a2 a3 h) fun v2 h1 =>
  pI h1 [12] o 45 (-1 : Int32) fun h3 =>
  jn (fun (x4 : Int32) (h5 : AH) =>
    some (x4, h5)) fun j30 =>
  if 0 ≤ v2 then
    rO h3 [12] o <| cl (f_X12_lineGives o v2 h3) fun v7 h6 =>
    j30 v7 h6
  else
    j30 a4 h3
set_option maxRecDepth 100000 in
set_option maxHeartbeats 4000000 in
theorem c_X12_lawBy (l : Launch) (D : DT) (o : Option Nat) (a1 : Int32) (a2 : Int32) (a3 : Int32) (a4 : Int32) (h : AH) (r : Int32 × AH) (hf : f_X12_lawBy o a1 a2 a3 a4 h = some r) : CM l D yX12_lawBy cX12_lawBy 6 (some .int) 3 72 0 0 [.inr (.inr o), .inl a1, .inl a2, .inl a3, .inl a4] h (some (.int r.1)) r.2 := by
  refine CM.of (by decide) (Nat.le_of_ble_eq_true rfl) (fun X hl C hD hX hnm E => ?_)
  subst hl
  subst hD
  have C : CX X RX12 cX12_lawBy 6 := C
  show WW X h 0 0 0 [some (rB (xD X).1 o), some (.int a1), some (.int a2), some (.int a3), some (.int a4), none] []
  unfold f_X12_lawBy at hf
  refine s_aload_n C dX12_lawBy_0 rfl ?_
  refine s_iload_n C dX12_lawBy_1 rfl ?_
  refine s_iload_n C dX12_lawBy_2 rfl ?_
  refine s_iload_n C dX12_lawBy_3 rfl ?_
  refine s_callV (rvf := fun x => some (.int x)) (st := []) (fr := 0) (lo := 0) (mc := 0) (ms := 0) C [12] wc_X12_forceOf wml_X12_425 wim_X12_forceOf wsl_12_X12_forceOf dX12_lawBy_4 (As := [.inl a1, .inl a2, .inl a3]) rfl hf (fun x h' hF => c_X12_forceOf _ _ _ _ _ _ _ (x, h') hF) rfl (Nat.le_of_ble_eq_true rfl) (room_ok hX (Nat.le_of_ble_eq_true rfl) (Nat.le_of_ble_eq_true rfl)) (cell_ok hX (Nat.le_of_ble_eq_true rfl) (Nat.le_of_ble_eq_true rfl)) (fun v2 h1 hf => ?_)
  refine s_istore C dX12_lawBy_7 (by decide) (nc_i rfl) (lv' := [some (rB (xD X).1 o), some (.int a1), some (.int a2), some (.int a3), some (.int a4), some (.int v2)]) rfl ?_
  refine s_aload_n C dX12_lawBy_9 rfl ?_
  refine s_iconst C dX12_lawBy_10 (v := (-1 : Int32)) (by decide) ?_
  refine s_putI C fl_X12_435 (by decide) dX12_lawBy_11 hf (fun h3 hf => ?_)
  refine s_iload C dX12_lawBy_14 rfl ?_
  refine s_jn hf (fun j30 e30 hf => ?_)
  have k30 : ∀ (x4 : Int32) (h5 : AH), j30 x4 h5 = some r → WW X h5 0 0 30 [none, none, none, none, none, none] [.int x4] := by
    intro x4 h5 hf
    rw [e30] at hf
    exact s_ireturn C E dX12_lawBy_30 hf (Nat.le_of_ble_eq_true rfl) (Nat.le_of_ble_eq_true rfl)
  refine s_if_ge (tgt := 24) C dX12_lawBy_16 (by decide) hf (fun hf => ?_) (fun hf => ?_)
  · refine s_aload_n C dX12_lawBy_24 rfl ?_
    refine s_iload C dX12_lawBy_25 rfl ?_
    refine s_callV (rvf := fun x => some (.int x)) (st := []) (fr := 2) (lo := 48) (mc := 0) (ms := 0) C [12] wc_X12_lineGives wml_X12_298 wim_X12_lineGives wsl_12_X12_lineGives dX12_lawBy_27 (As := [.inl v2]) rfl hf (fun x h' hF => c_X12_lineGives _ _ _ _ _ (x, h') hF) rfl (Nat.le_of_ble_eq_true rfl) (room_ok hX (Nat.le_of_ble_eq_true rfl) (Nat.le_of_ble_eq_true rfl)) (cell_ok hX (Nat.le_of_ble_eq_true rfl) (Nat.le_of_ble_eq_true rfl)) (fun v7 h6 hf => ?_)
    refine s_weak (lv' := [none, none, none, none, none, none]) trivial ?_
    exact k30 _ _ hf
  · refine s_iload C dX12_lawBy_19 rfl ?_
    refine s_goto (tgt := 30) C dX12_lawBy_21 (by decide) ?_
    refine s_weak (lv' := [none, none, none, none, none, none]) trivial ?_
    exact k30 _ _ hf
/-- HillBoxesModel.logCounts(II)Z -/
noncomputable def f_X12_logCounts (o : Option Nat) (a1 : Int32) (a2 : Int32) (h : AH) : Option (Int32 × AH) :=
  fR h [12] o 18 fun v1 =>
  aI h 20 v1 a1 fun v2 =>
  fR h [12] o 20 fun v3 =>
  aI h 20 v3 a1 fun v4 =>
  nz (24 : Int32) <|
  rO h [12] o <| cl (f_X12_findFinder o v2 (v4 / (24 : Int32)) h) fun _ h5 =>
  fR h5 [12] o 19 fun v6 =>
  aI h5 20 v6 a1 fun v7 =>
  fR h5 [12] o 20 fun v8 =>
  aI h5 20 v8 a1 fun v9 =>
  nz (24 : Int32) <|
  rO h5 [12] o <| cl (f_X12_findBox o v7 (v9 / (24 : Int32)) h5) fun _ h10 =>
  fR h10 [12] o 43 fun v11 =>
  fR h10 [12] o 20 fun v12 =>
  aI h10 20 v12 a1 fun v13 =>
  nz (24 : Int32) <|
  bI h10 20 v11 (7 : Int32) (v13 - v13 / (24 : Int32) * (24 : Int32)) fun h14 =>
  fR h14 [12] o 18 fun v15 =>
  aI h14 20 v15 a1 fun v16 =>
  fR h14 [12] o 19 fun v17 =>
  aI h14 20 v17 a1 fun v18 =>
  rO h14 [12] o <| cl (f_X12_bothOf o v16 v18 h14) fun _ h19 =>
  jn (fun (x20 : Int32) (h21 : AH) =>
    jn (fun (x22 : Int32) =>
      rz x22 h21) fun j109 =>
    if x20 = 0 then
      j109 (0 : Int32)
    else
      j109 (1 : Int32)) fun j101 =>
  if a2 < 0 then
    fR h19 [12] o 20 fun v23 =>
    aI h19 20 v23 a1 fun v24 =>
    nz (24 : Int32) <|
    fI h19 [12] o 1 fun v25 =>
    rO h19 [12] o <| cl (f_X12_lawBy o (2 : Int32) (v24 / (24 : Int32)) v25 (1 : Int32) h19) fun v27 h26 =>
    j101 v27 h26
  else
    rO h19 [12] o <| cl (f_X12_lineGives o a2 h19) fun v29 h28 =>
    j101 v29 h28
set_option maxRecDepth 100000 in
set_option maxHeartbeats 4000000 in
theorem c_X12_logCounts (l : Launch) (D : DT) (o : Option Nat) (a1 : Int32) (a2 : Int32) (h : AH) (r : Int32 × AH) (hf : f_X12_logCounts o a1 a2 h = some r) : CM l D yX12_logCounts cX12_logCounts 3 (some .boolean) 6 130 0 0 [.inr (.inr o), .inl a1, .inl a2] h (some (.int r.1)) r.2 := by
  refine CM.of (by decide) (Nat.le_of_ble_eq_true rfl) (fun X hl C hD hX hnm E => ?_)
  subst hl
  subst hD
  have C : CX X RX12 cX12_logCounts 3 := C
  show WW X h 0 0 0 [some (rB (xD X).1 o), some (.int a1), some (.int a2)] []
  unfold f_X12_logCounts at hf
  refine s_aload_n C dX12_logCounts_0 rfl ?_
  refine s_aload_n C dX12_logCounts_1 rfl ?_
  refine s_getR C fl_X12_46 dX12_logCounts_2 hf (fun v1 hf => ?_)
  refine s_iload_n C dX12_logCounts_5 rfl ?_
  refine s_iaload C dX12_logCounts_6 hf (fun v2 hf => ?_)
  refine s_aload_n C dX12_logCounts_7 rfl ?_
  refine s_getR C fl_X12_52 dX12_logCounts_8 hf (fun v3 hf => ?_)
  refine s_iload_n C dX12_logCounts_11 rfl ?_
  refine s_iaload C dX12_logCounts_12 hf (fun v4 hf => ?_)
  refine s_bipush C dX12_logCounts_13 (v := (24 : Int32)) (by decide) ?_
  refine s_idiv C dX12_logCounts_15 hf (fun hf => ?_)
  refine s_callV (rvf := fun _ => none) (st := []) (fr := 5) (lo := 108) (mc := 0) (ms := 0) C [12] wc_X12_findFinder wml_X12_288 wim_X12_findFinder wsl_12_X12_findFinder dX12_logCounts_16 (As := [.inl v2, .inl (v4 / (24 : Int32))]) rfl hf (fun x h' hF => c_X12_findFinder _ _ _ _ _ _ (x, h') hF) rfl (Nat.le_of_ble_eq_true rfl) (room_ok hX (Nat.le_of_ble_eq_true rfl) (Nat.le_of_ble_eq_true rfl)) (cell_ok hX (Nat.le_of_ble_eq_true rfl) (Nat.le_of_ble_eq_true rfl)) (fun _ h5 hf => ?_)
  refine s_aload_n C dX12_logCounts_19 rfl ?_
  refine s_aload_n C dX12_logCounts_20 rfl ?_
  refine s_getR C fl_X12_49 dX12_logCounts_21 hf (fun v6 hf => ?_)
  refine s_iload_n C dX12_logCounts_24 rfl ?_
  refine s_iaload C dX12_logCounts_25 hf (fun v7 hf => ?_)
  refine s_aload_n C dX12_logCounts_26 rfl ?_
  refine s_getR C fl_X12_52 dX12_logCounts_27 hf (fun v8 hf => ?_)
  refine s_iload_n C dX12_logCounts_30 rfl ?_
  refine s_iaload C dX12_logCounts_31 hf (fun v9 hf => ?_)
  refine s_bipush C dX12_logCounts_32 (v := (24 : Int32)) (by decide) ?_
  refine s_idiv C dX12_logCounts_34 hf (fun hf => ?_)
  refine s_callV (rvf := fun _ => none) (st := []) (fr := 3) (lo := 69) (mc := 0) (ms := 0) C [12] wc_X12_findBox wml_X12_292 wim_X12_findBox wsl_12_X12_findBox dX12_logCounts_35 (As := [.inl v7, .inl (v9 / (24 : Int32))]) rfl hf (fun x h' hF => c_X12_findBox _ _ _ _ _ _ (x, h') hF) rfl (Nat.le_of_ble_eq_true rfl) (room_ok hX (Nat.le_of_ble_eq_true rfl) (Nat.le_of_ble_eq_true rfl)) (cell_ok hX (Nat.le_of_ble_eq_true rfl) (Nat.le_of_ble_eq_true rfl)) (fun _ h10 hf => ?_)
  refine s_aload_n C dX12_logCounts_38 rfl ?_
  refine s_getR C fl_X12_97 dX12_logCounts_39 hf (fun v11 hf => ?_)
  refine s_bipush C dX12_logCounts_42 (v := (7 : Int32)) (by decide) ?_
  refine s_aload_n C dX12_logCounts_44 rfl ?_
  refine s_getR C fl_X12_52 dX12_logCounts_45 hf (fun v12 hf => ?_)
  refine s_iload_n C dX12_logCounts_48 rfl ?_
  refine s_iaload C dX12_logCounts_49 hf (fun v13 hf => ?_)
  refine s_bipush C dX12_logCounts_50 (v := (24 : Int32)) (by decide) ?_
  refine s_irem C dX12_logCounts_52 hf (fun hf => ?_)
  refine s_iastore C dX12_logCounts_53 hf (fun h14 hf => ?_)
  refine s_aload_n C dX12_logCounts_54 rfl ?_
  refine s_aload_n C dX12_logCounts_55 rfl ?_
  refine s_getR C fl_X12_46 dX12_logCounts_56 hf (fun v15 hf => ?_)
  refine s_iload_n C dX12_logCounts_59 rfl ?_
  refine s_iaload C dX12_logCounts_60 hf (fun v16 hf => ?_)
  refine s_aload_n C dX12_logCounts_61 rfl ?_
  refine s_getR C fl_X12_49 dX12_logCounts_62 hf (fun v17 hf => ?_)
  refine s_iload_n C dX12_logCounts_65 rfl ?_
  refine s_iaload C dX12_logCounts_66 hf (fun v18 hf => ?_)
  refine s_callV (rvf := fun _ => none) (st := []) (fr := 2) (lo := 41) (mc := 0) (ms := 0) C [12] wc_X12_bothOf wml_X12_295 wim_X12_bothOf wsl_12_X12_bothOf dX12_logCounts_67 (As := [.inl v16, .inl v18]) rfl hf (fun x h' hF => c_X12_bothOf _ _ _ _ _ _ (x, h') hF) rfl (Nat.le_of_ble_eq_true rfl) (room_ok hX (Nat.le_of_ble_eq_true rfl) (Nat.le_of_ble_eq_true rfl)) (cell_ok hX (Nat.le_of_ble_eq_true rfl) (Nat.le_of_ble_eq_true rfl)) (fun _ h19 hf => ?_)
  refine s_iload_n C dX12_logCounts_70 rfl ?_
  refine s_jn hf (fun j101 e101 hf => ?_)
  have k101 : ∀ (x20 : Int32) (h21 : AH), j101 x20 h21 = some r → WW X h21 0 0 101 [none, none, none] [.int x20] := by
    intro x20 h21 hf
    rw [e101] at hf
    refine s_jn hf (fun j109 e109 hf => ?_)
    have k109 : ∀ (x22 : Int32), j109 x22 = some r → WW X h21 0 0 109 [none, none, none] [.int x22] := by
      intro x22 hf
      rw [e109] at hf
      exact s_zreturn C E dX12_logCounts_109 hf (Nat.le_of_ble_eq_true rfl) (Nat.le_of_ble_eq_true rfl)
    refine s_if_eq (tgt := 108) C dX12_logCounts_101 (by decide) hf (fun hf => ?_) (fun hf => ?_)
    · refine s_iconst C dX12_logCounts_108 (v := (0 : Int32)) (by decide) ?_
      exact k109 _ hf
    · refine s_iconst C dX12_logCounts_104 (v := (1 : Int32)) (by decide) ?_
      refine s_goto (tgt := 109) C dX12_logCounts_105 (by decide) ?_
      exact k109 _ hf
  refine s_if_lt (tgt := 82) C dX12_logCounts_71 (by decide) hf (fun hf => ?_) (fun hf => ?_)
  · refine s_aload_n C dX12_logCounts_82 rfl ?_
    refine s_iconst C dX12_logCounts_83 (v := (2 : Int32)) (by decide) ?_
    refine s_aload_n C dX12_logCounts_84 rfl ?_
    refine s_getR C fl_X12_52 dX12_logCounts_85 hf (fun v23 hf => ?_)
    refine s_iload_n C dX12_logCounts_88 rfl ?_
    refine s_iaload C dX12_logCounts_89 hf (fun v24 hf => ?_)
    refine s_bipush C dX12_logCounts_90 (v := (24 : Int32)) (by decide) ?_
    refine s_idiv C dX12_logCounts_92 hf (fun hf => ?_)
    refine s_aload_n C dX12_logCounts_93 rfl ?_
    refine s_getI C fl_X12_203 dX12_logCounts_94 hf (fun v25 hf => ?_)
    refine s_iconst C dX12_logCounts_97 (v := (1 : Int32)) (by decide) ?_
    refine s_callV (rvf := fun x => some (.int x)) (st := []) (fr := 3) (lo := 72) (mc := 0) (ms := 0) C [12] wc_X12_lawBy wml_X12_301 wim_X12_lawBy wsl_12_X12_lawBy dX12_logCounts_98 (As := [.inl (2 : Int32), .inl (v24 / (24 : Int32)), .inl v25, .inl (1 : Int32)]) rfl hf (fun x h' hF => c_X12_lawBy _ _ _ _ _ _ _ _ (x, h') hF) rfl (Nat.le_of_ble_eq_true rfl) (room_ok hX (Nat.le_of_ble_eq_true rfl) (Nat.le_of_ble_eq_true rfl)) (cell_ok hX (Nat.le_of_ble_eq_true rfl) (Nat.le_of_ble_eq_true rfl)) (fun v27 h26 hf => ?_)
    refine s_weak (lv' := [none, none, none]) trivial ?_
    exact k101 _ _ hf
  · refine s_aload_n C dX12_logCounts_74 rfl ?_
    refine s_iload_n C dX12_logCounts_75 rfl ?_
    refine s_callV (rvf := fun x => some (.int x)) (st := []) (fr := 2) (lo := 48) (mc := 0) (ms := 0) C [12] wc_X12_lineGives wml_X12_298 wim_X12_lineGives wsl_12_X12_lineGives dX12_logCounts_76 (As := [.inl a2]) rfl hf (fun x h' hF => c_X12_lineGives _ _ _ _ _ (x, h') hF) rfl (Nat.le_of_ble_eq_true rfl) (room_ok hX (Nat.le_of_ble_eq_true rfl) (Nat.le_of_ble_eq_true rfl)) (cell_ok hX (Nat.le_of_ble_eq_true rfl) (Nat.le_of_ble_eq_true rfl)) (fun v29 h28 hf => ?_)
    refine s_goto (tgt := 101) C dX12_logCounts_79 (by decide) ?_
    refine s_weak (lv' := [none, none, none]) trivial ?_
    exact k101 _ _ hf
/-- HillBoxesModel.first(I)I -/
noncomputable def f_X12_first (o : Option Nat) (a1 : Int32) (h : AH) : Option (Int32 × AH) :=
  rO h [12] o <| cl (f_X12_isBox o a1 h) fun v2 h1 =>
  if v2 = 0 then
    some ((-1 : Int32), h1)
  else
    fR h1 [12] o 22 fun v3 =>
    aI h1 20 v3 a1 fun v4 =>
    if v4 ≤ 0 then
      lp (fun _ _ _ => none) (fun (L33 : Int32 → Int32 → AH → Option (Int32 × AH)) (x5 : Int32) (x6 : Int32) (h7 : AH) =>
        fI h7 [12] o 17 fun v8 =>
        if v8 ≤ x6 then
          jn (fun (x9 : Int32) =>
            some (x9, h7)) fun j111 =>
          if 0 ≤ x5 then
            fR h7 [12] o 18 fun v10 =>
            aI h7 20 v10 x5 fun v11 =>
            j111 v11
          else
            j111 (-2 : Int32)
        else
          fR h7 [12] o 19 fun v12 =>
          aI h7 20 v12 x6 fun v13 =>
          jn (fun (x14 : Int32) (h15 : AH) =>
            L33 x14 (x6 + 1) h15) fun j90 =>
          if v13 = a1 then
            fR h7 [12] o 21 fun v16 =>
            aI h7 23 v16 x6 fun v17 =>
            if v17 = 0 then
              j90 x5 h7
            else
              jn (
                rO h7 [12] o <| cl (f_X12_logCounts o x6 (-1 : Int32) h7) fun v19 h18 =>
                if v19 = 0 then
                  j90 x5 h18
                else
                  j90 x6 h18) fun j79 =>
              if x5 < 0 then
                j79
              else
                fR h7 [12] o 20 fun v20 =>
                aI h7 20 v20 x6 fun v21 =>
                fR h7 [12] o 20 fun v22 =>
                aI h7 20 v22 x5 fun v23 =>
                if v23 ≤ v21 then
                  j90 x5 h7
                else
                  j79
          else
            j90 x5 h7) lpN (-1 : Int32) (0 : Int32) h1
    else
      fR h1 [12] o 23 fun v24 =>
      aI h1 21 v24 ((40 : Int32) * a1) fun v25 =>
      some (v25, h1)
set_option maxRecDepth 100000 in
set_option maxHeartbeats 4000000 in
theorem c_X12_first (l : Launch) (D : DT) (o : Option Nat) (a1 : Int32) (h : AH) (r : Int32 × AH) (hf : f_X12_first o a1 h = some r) : CM l D yX12_first cX12_first 4 (some .int) 7 152 0 0 [.inr (.inr o), .inl a1] h (some (.int r.1)) r.2 := by
  refine CM.of (by decide) (Nat.le_of_ble_eq_true rfl) (fun X hl C hD hX hnm E => ?_)
  subst hl
  subst hD
  have C : CX X RX12 cX12_first 4 := C
  show WW X h 0 0 0 [some (rB (xD X).1 o), some (.int a1), none, none] []
  unfold f_X12_first at hf
  refine s_aload_n C dX12_first_0 rfl ?_
  refine s_iload_n C dX12_first_1 rfl ?_
  refine s_callV (rvf := fun x => some (.int x)) (st := []) (fr := 2) (lo := 43) (mc := 0) (ms := 0) C [12] wc_X12_isBox wml_X12_224 wim_X12_isBox wsl_12_X12_isBox dX12_first_2 (As := [.inl a1]) rfl hf (fun x h' hF => c_X12_isBox _ _ _ _ _ (x, h') hF) rfl (Nat.le_of_ble_eq_true rfl) (room_ok hX (Nat.le_of_ble_eq_true rfl) (Nat.le_of_ble_eq_true rfl)) (cell_ok hX (Nat.le_of_ble_eq_true rfl) (Nat.le_of_ble_eq_true rfl)) (fun v2 h1 hf => ?_)
  refine s_if_ne (tgt := 10) C dX12_first_5 (by decide) hf (fun hf => ?_) (fun hf => ?_)
  · refine s_aload_n C dX12_first_10 rfl ?_
    refine s_getR C fl_X12_59 dX12_first_11 hf (fun v3 hf => ?_)
    refine s_iload_n C dX12_first_14 rfl ?_
    refine s_iaload C dX12_first_15 hf (fun v4 hf => ?_)
    refine s_if_le (tgt := 29) C dX12_first_16 (by decide) hf (fun hf => ?_) (fun hf => ?_)
    · refine s_iconst C dX12_first_29 (v := (-1 : Int32)) (by decide) ?_
      refine s_istore_n C dX12_first_30 (by decide) (nc_i rfl) (lv' := [some (rB (xD X).1 o), some (.int a1), some (.int (-1 : Int32)), none]) rfl ?_
      refine s_iconst C dX12_first_31 (v := (0 : Int32)) (by decide) ?_
      refine s_istore_n C dX12_first_32 (by decide) (nc_i rfl) (lv' := [some (rB (xD X).1 o), some (.int a1), some (.int (-1 : Int32)), some (.int (0 : Int32))]) rfl ?_
      refine s_lp3 hf (fun G33 z33 q33 hf => ?_)
      have k33 : ∀ (n : Nat) (x5 : Int32) (x6 : Int32) (h7 : AH), G33 n x5 x6 h7 = some r → WW X h7 0 0 33 [some (rB (xD X).1 o), some (.int a1), some (.int x5), some (.int x6)] [] := by
        intro n
        induction n with
        | zero =>
          intro x5 x6 h7 hf
          rw [z33] at hf
          cases hf
        | succ n ih33 =>
          intro x5 x6 h7 hf
          have hf := (q33 n x5 x6 h7).symm.trans hf
          refine s_iload_n C dX12_first_33 rfl ?_
          refine s_aload_n C dX12_first_34 rfl ?_
          refine s_getI C fl_X12_252 dX12_first_35 hf (fun v8 hf => ?_)
          refine s_icmp_ge (tgt := 96) C dX12_first_38 (by decide) hf (fun hf => ?_) (fun hf => ?_)
          · refine s_iload_n C dX12_first_96 rfl ?_
            refine s_jn hf (fun j111 e111 hf => ?_)
            have k111 : ∀ (x9 : Int32), j111 x9 = some r → WW X h7 0 0 111 [none, none, none, none] [.int x9] := by
              intro x9 hf
              rw [e111] at hf
              exact s_ireturn C E dX12_first_111 hf (Nat.le_of_ble_eq_true rfl) (Nat.le_of_ble_eq_true rfl)
            refine s_if_ge (tgt := 105) C dX12_first_97 (by decide) hf (fun hf => ?_) (fun hf => ?_)
            · refine s_aload_n C dX12_first_105 rfl ?_
              refine s_getR C fl_X12_46 dX12_first_106 hf (fun v10 hf => ?_)
              refine s_iload_n C dX12_first_109 rfl ?_
              refine s_iaload C dX12_first_110 hf (fun v11 hf => ?_)
              refine s_weak (lv' := [none, none, none, none]) trivial ?_
              exact k111 _ hf
            · refine s_bipush C dX12_first_100 (v := (-2 : Int32)) (by decide) ?_
              refine s_goto (tgt := 111) C dX12_first_102 (by decide) ?_
              refine s_weak (lv' := [none, none, none, none]) trivial ?_
              exact k111 _ hf
          · refine s_aload_n C dX12_first_41 rfl ?_
            refine s_getR C fl_X12_49 dX12_first_42 hf (fun v12 hf => ?_)
            refine s_iload_n C dX12_first_45 rfl ?_
            refine s_iaload C dX12_first_46 hf (fun v13 hf => ?_)
            refine s_iload_n C dX12_first_47 rfl ?_
            refine s_jn hf (fun j90 e90 hf => ?_)
            have k90 : ∀ (x14 : Int32) (h15 : AH), j90 x14 h15 = some r → WW X h15 0 0 90 [some (rB (xD X).1 o), some (.int a1), some (.int x14), some (.int x6)] [] := by
              intro x14 h15 hf
              rw [e90] at hf
              refine s_iinc C dX12_first_90 (v := (x6 + 1)) rfl rfl (by decide) (nc_i rfl) (lv' := [some (rB (xD X).1 o), some (.int a1), some (.int x14), some (.int (x6 + 1))]) rfl ?_
              refine s_goto (tgt := 33) C dX12_first_93 (by decide) ?_
              exact ih33 _ _ _ hf
            refine s_icmp_ne (tgt := 90) C dX12_first_48 (by decide) hf (fun hf => ?_) (fun hf => ?_)
            · exact k90 _ _ hf
            · refine s_aload_n C dX12_first_51 rfl ?_
              refine s_getR C fl_X12_55 dX12_first_52 hf (fun v16 hf => ?_)
              refine s_iload_n C dX12_first_55 rfl ?_
              refine s_zaload C dX12_first_56 hf (fun v17 hf => ?_)
              refine s_if_eq (tgt := 90) C dX12_first_57 (by decide) hf (fun hf => ?_) (fun hf => ?_)
              · exact k90 _ _ hf
              · refine s_iload_n C dX12_first_60 rfl ?_
                refine s_jn hf (fun j79 e79 hf => ?_)
                have k79 : j79  = some r → WW X h7 0 0 79 [some (rB (xD X).1 o), some (.int a1), some (.int x5), some (.int x6)] [] := by
                  intro  hf
                  rw [e79] at hf
                  refine s_aload_n C dX12_first_79 rfl ?_
                  refine s_iload_n C dX12_first_80 rfl ?_
                  refine s_iconst C dX12_first_81 (v := (-1 : Int32)) (by decide) ?_
                  refine s_callV (rvf := fun x => some (.int x)) (st := []) (fr := 6) (lo := 130) (mc := 0) (ms := 0) C [12] wc_X12_logCounts wml_X12_305 wim_X12_logCounts wsl_12_X12_logCounts dX12_first_82 (As := [.inl x6, .inl (-1 : Int32)]) rfl hf (fun x h' hF => c_X12_logCounts _ _ _ _ _ _ (x, h') hF) rfl (Nat.le_of_ble_eq_true rfl) (room_ok hX (Nat.le_of_ble_eq_true rfl) (Nat.le_of_ble_eq_true rfl)) (cell_ok hX (Nat.le_of_ble_eq_true rfl) (Nat.le_of_ble_eq_true rfl)) (fun v19 h18 hf => ?_)
                  refine s_if_eq (tgt := 90) C dX12_first_85 (by decide) hf (fun hf => ?_) (fun hf => ?_)
                  · exact k90 _ _ hf
                  · refine s_iload_n C dX12_first_88 rfl ?_
                    refine s_istore_n C dX12_first_89 (by decide) (nc_i rfl) (lv' := [some (rB (xD X).1 o), some (.int a1), some (.int x6), some (.int x6)]) rfl ?_
                    exact k90 _ _ hf
                refine s_if_lt (tgt := 79) C dX12_first_61 (by decide) hf (fun hf => ?_) (fun hf => ?_)
                · exact k79 hf
                · refine s_aload_n C dX12_first_64 rfl ?_
                  refine s_getR C fl_X12_52 dX12_first_65 hf (fun v20 hf => ?_)
                  refine s_iload_n C dX12_first_68 rfl ?_
                  refine s_iaload C dX12_first_69 hf (fun v21 hf => ?_)
                  refine s_aload_n C dX12_first_70 rfl ?_
                  refine s_getR C fl_X12_52 dX12_first_71 hf (fun v22 hf => ?_)
                  refine s_iload_n C dX12_first_74 rfl ?_
                  refine s_iaload C dX12_first_75 hf (fun v23 hf => ?_)
                  refine s_icmp_ge (tgt := 90) C dX12_first_76 (by decide) hf (fun hf => ?_) (fun hf => ?_)
                  · exact k90 _ _ hf
                  · exact k79 hf
      exact k33 lpN _ _ _ hf
    · refine s_aload_n C dX12_first_19 rfl ?_
      refine s_getR C fl_X12_62 dX12_first_20 hf (fun v24 hf => ?_)
      refine s_bipush C dX12_first_23 (v := (40 : Int32)) (by decide) ?_
      refine s_iload_n C dX12_first_25 rfl ?_
      refine s_imul C dX12_first_26 ?_
      refine s_saload C dX12_first_27 hf (fun v25 hf => ?_)
      exact s_ireturn C E dX12_first_28 hf (Nat.le_of_ble_eq_true rfl) (Nat.le_of_ble_eq_true rfl)
  · refine s_iconst C dX12_first_8 (v := (-1 : Int32)) (by decide) ?_
    exact s_ireturn C E dX12_first_9 hf (Nat.le_of_ble_eq_true rfl) (Nat.le_of_ble_eq_true rfl)
/-- HillBoxesModel.gone(II)I -/
noncomputable def f_X12_gone (o : Option Nat) (a1 : Int32) (a2 : Int32) (h : AH) : Option (Int32 × AH) :=
  rO h [12] o <| cl (f_X12_isBox o a1 h) fun v2 h1 =>
  jn (fun (h3 : AH) =>
    some ((-1 : Int32), h3)) fun j17 =>
  if v2 = 0 then
    j17 h1
  else
    cl (f_X12_in a2 (0 : Int32) (2 : Int32) h1) fun v5 h4 =>
    if v5 = 0 then
      j17 h4
    else
      rO h4 [12] o <| cl (f_X12_missesOf o a1 h4) fun v7 h6 =>
      if a2 = 0 then
        jn (fun (x33 : Int32) =>
          some (x33, h6)) fun j47 =>
        if v7 < (3 : Int32) then
          if v7 ≤ 0 then
            j47 (0 : Int32)
          else
            j47 (1 : Int32)
        else
          j47 (2 : Int32)
      else
        if (3 : Int32) ≤ v7 then
          rO h6 [12] o <| cl (f_X12_latestFound o a1 h6) fun v9 h8 =>
          if a2 = (1 : Int32) then
            jn (fun (x28 : Int32) =>
              some (x28, h8)) fun j92 =>
            if 0 ≤ v9 then
              fR h8 [12] o 20 fun v29 =>
              aI h8 20 v29 v9 fun v30 =>
              j92 v30
            else
              fR h8 [12] o 6 fun v31 =>
              aI h8 20 v31 a1 fun v32 =>
              j92 ((24 : Int32) * v32)
          else
            lp (fun _ _ _ => none) (fun (L99 : Int32 → Int32 → AH → Option (Int32 × AH)) (x10 : Int32) (x11 : Int32) (h12 : AH) =>
              fI h12 [12] o 17 fun v13 =>
              if v13 ≤ x11 then
                fR h12 [12] o 20 fun v14 =>
                aI h12 20 v14 x10 fun v15 =>
                some (v15, h12)
              else
                fR h12 [12] o 19 fun v16 =>
                aI h12 20 v16 x11 fun v17 =>
                jn (fun (x18 : Int32) (h19 : AH) =>
                  L99 x18 (x11 + 1) h19) fun j168 =>
                if v17 = a1 then
                  fR h12 [12] o 21 fun v20 =>
                  aI h12 23 v20 x11 fun v21 =>
                  if v21 = 0 then
                    jn (fun (h22 : AH) =>
                      jn (fun (h23 : AH) =>
                        j168 x11 h23) fun j164 =>
                      if x10 < 0 then
                        j164 h22
                      else
                        rO h22 [12] o <| cl (f_X12_isBehind o x10 x11 h22) fun v25 h24 =>
                        if v25 = 0 then
                          j168 x10 h24
                        else
                          j164 h24) fun j148 =>
                    if v9 < 0 then
                      j148 h12
                    else
                      rO h12 [12] o <| cl (f_X12_isBehind o x11 v9 h12) fun v27 h26 =>
                      if v27 = 0 then
                        j168 x10 h26
                      else
                        j148 h26
                  else
                    j168 x10 h12
                else
                  j168 x10 h12) lpN (-1 : Int32) (0 : Int32) h8
        else
          some ((-2 : Int32), h6)
set_option maxRecDepth 100000 in
set_option maxHeartbeats 4000000 in
theorem c_X12_gone (l : Launch) (D : DT) (o : Option Nat) (a1 : Int32) (a2 : Int32) (h : AH) (r : Int32 × AH) (hf : f_X12_gone o a1 a2 h = some r) : CM l D yX12_gone cX12_gone 7 (some .int) 3 69 0 0 [.inr (.inr o), .inl a1, .inl a2] h (some (.int r.1)) r.2 := by
  refine CM.of (by decide) (Nat.le_of_ble_eq_true rfl) (fun X hl C hD hX hnm E => ?_)
  subst hl
  subst hD
  have C : CX X RX12 cX12_gone 7 := C
  show WW X h 0 0 0 [some (rB (xD X).1 o), some (.int a1), some (.int a2), none, none, none, none] []
  unfold f_X12_gone at hf
  refine s_aload_n C dX12_gone_0 rfl ?_
  refine s_iload_n C dX12_gone_1 rfl ?_
  refine s_callV (rvf := fun x => some (.int x)) (st := []) (fr := 2) (lo := 43) (mc := 0) (ms := 0) C [12] wc_X12_isBox wml_X12_224 wim_X12_isBox wsl_12_X12_isBox dX12_gone_2 (As := [.inl a1]) rfl hf (fun x h' hF => c_X12_isBox _ _ _ _ _ (x, h') hF) rfl (Nat.le_of_ble_eq_true rfl) (room_ok hX (Nat.le_of_ble_eq_true rfl) (Nat.le_of_ble_eq_true rfl)) (cell_ok hX (Nat.le_of_ble_eq_true rfl) (Nat.le_of_ble_eq_true rfl)) (fun v2 h1 hf => ?_)
  refine s_jn hf (fun j17 e17 hf => ?_)
  have k17 : ∀ (h3 : AH), j17 h3 = some r → WW X h3 0 0 17 [none, none, none, none, none, none, none] [] := by
    intro h3 hf
    rw [e17] at hf
    refine s_iconst C dX12_gone_17 (v := (-1 : Int32)) (by decide) ?_
    exact s_ireturn C E dX12_gone_18 hf (Nat.le_of_ble_eq_true rfl) (Nat.le_of_ble_eq_true rfl)
  refine s_if_eq (tgt := 17) C dX12_gone_5 (by decide) hf (fun hf => ?_) (fun hf => ?_)
  · refine s_weak (lv' := [none, none, none, none, none, none, none]) trivial ?_
    exact k17 _ hf
  · refine s_iload_n C dX12_gone_8 rfl ?_
    refine s_iconst C dX12_gone_9 (v := (0 : Int32)) (by decide) ?_
    refine s_iconst C dX12_gone_10 (v := (2 : Int32)) (by decide) ?_
    refine s_callS (rvf := fun x => some (.int x)) (st := []) (fr := 0) (lo := 0) (mc := 0) (ms := 0) C wc_X12_in wml_X12_195 wst_X12_in dX12_gone_11 (As := [.inl a2, .inl (0 : Int32), .inl (2 : Int32)]) rfl hf (fun x h' hF => c_X12_in _ _ _ _ _ _ (x, h') hF) rfl (Nat.le_of_ble_eq_true rfl) (room_ok hX (Nat.le_of_ble_eq_true rfl) (Nat.le_of_ble_eq_true rfl)) (cell_ok hX (Nat.le_of_ble_eq_true rfl) (Nat.le_of_ble_eq_true rfl)) (fun v5 h4 hf => ?_)
    refine s_if_ne (tgt := 19) C dX12_gone_14 (by decide) hf (fun hf => ?_) (fun hf => ?_)
    · refine s_aload_n C dX12_gone_19 rfl ?_
      refine s_iload_n C dX12_gone_20 rfl ?_
      refine s_callV (rvf := fun x => some (.int x)) (st := []) (fr := 2) (lo := 45) (mc := 0) (ms := 0) C [12] wc_X12_missesOf wml_X12_267 wim_X12_missesOf wsl_12_X12_missesOf dX12_gone_21 (As := [.inl a1]) rfl hf (fun x h' hF => c_X12_missesOf _ _ _ _ _ (x, h') hF) rfl (Nat.le_of_ble_eq_true rfl) (room_ok hX (Nat.le_of_ble_eq_true rfl) (Nat.le_of_ble_eq_true rfl)) (cell_ok hX (Nat.le_of_ble_eq_true rfl) (Nat.le_of_ble_eq_true rfl)) (fun v7 h6 hf => ?_)
      refine s_istore_n C dX12_gone_24 (by decide) (nc_i rfl) (lv' := [some (rB (xD X).1 o), some (.int a1), some (.int a2), some (.int v7), none, none, none]) rfl ?_
      refine s_iload_n C dX12_gone_25 rfl ?_
      refine s_if_ne (tgt := 48) C dX12_gone_26 (by decide) hf (fun hf => ?_) (fun hf => ?_)
      · refine s_iload_n C dX12_gone_48 rfl ?_
        refine s_iconst C dX12_gone_49 (v := (3 : Int32)) (by decide) ?_
        refine s_icmp_ge (tgt := 56) C dX12_gone_50 (by decide) hf (fun hf => ?_) (fun hf => ?_)
        · refine s_aload_n C dX12_gone_56 rfl ?_
          refine s_iload_n C dX12_gone_57 rfl ?_
          refine s_callV (rvf := fun x => some (.int x)) (st := []) (fr := 1) (lo := 22) (mc := 0) (ms := 0) C [12] wc_X12_latestFound wml_X12_273 wim_X12_latestFound wsl_12_X12_latestFound dX12_gone_58 (As := [.inl a1]) rfl hf (fun x h' hF => c_X12_latestFound _ _ _ _ _ (x, h') hF) rfl (Nat.le_of_ble_eq_true rfl) (room_ok hX (Nat.le_of_ble_eq_true rfl) (Nat.le_of_ble_eq_true rfl)) (cell_ok hX (Nat.le_of_ble_eq_true rfl) (Nat.le_of_ble_eq_true rfl)) (fun v9 h8 hf => ?_)
          refine s_istore C dX12_gone_61 (by decide) (nc_i rfl) (lv' := [some (rB (xD X).1 o), some (.int a1), some (.int a2), some (.int v7), some (.int v9), none, none]) rfl ?_
          refine s_iload_n C dX12_gone_63 rfl ?_
          refine s_iconst C dX12_gone_64 (v := (1 : Int32)) (by decide) ?_
          refine s_icmp_ne (tgt := 93) C dX12_gone_65 (by decide) hf (fun hf => ?_) (fun hf => ?_)
          · refine s_iconst C dX12_gone_93 (v := (-1 : Int32)) (by decide) ?_
            refine s_istore C dX12_gone_94 (by decide) (nc_i rfl) (lv' := [some (rB (xD X).1 o), some (.int a1), some (.int a2), some (.int v7), some (.int v9), some (.int (-1 : Int32)), none]) rfl ?_
            refine s_iconst C dX12_gone_96 (v := (0 : Int32)) (by decide) ?_
            refine s_istore C dX12_gone_97 (by decide) (nc_i rfl) (lv' := [some (rB (xD X).1 o), some (.int a1), some (.int a2), some (.int v7), some (.int v9), some (.int (-1 : Int32)), some (.int (0 : Int32))]) rfl ?_
            refine s_lp3 hf (fun G99 z99 q99 hf => ?_)
            have k99 : ∀ (n : Nat) (x10 : Int32) (x11 : Int32) (h12 : AH), G99 n x10 x11 h12 = some r → WW X h12 0 0 99 [some (rB (xD X).1 o), some (.int a1), none, none, some (.int v9), some (.int x10), some (.int x11)] [] := by
              intro n
              induction n with
              | zero =>
                intro x10 x11 h12 hf
                rw [z99] at hf
                cases hf
              | succ n ih99 =>
                intro x10 x11 h12 hf
                have hf := (q99 n x10 x11 h12).symm.trans hf
                refine s_iload C dX12_gone_99 rfl ?_
                refine s_aload_n C dX12_gone_101 rfl ?_
                refine s_getI C fl_X12_252 dX12_gone_102 hf (fun v13 hf => ?_)
                refine s_icmp_ge (tgt := 174) C dX12_gone_105 (by decide) hf (fun hf => ?_) (fun hf => ?_)
                · refine s_aload_n C dX12_gone_174 rfl ?_
                  refine s_getR C fl_X12_52 dX12_gone_175 hf (fun v14 hf => ?_)
                  refine s_iload C dX12_gone_178 rfl ?_
                  refine s_iaload C dX12_gone_180 hf (fun v15 hf => ?_)
                  exact s_ireturn C E dX12_gone_181 hf (Nat.le_of_ble_eq_true rfl) (Nat.le_of_ble_eq_true rfl)
                · refine s_aload_n C dX12_gone_108 rfl ?_
                  refine s_getR C fl_X12_49 dX12_gone_109 hf (fun v16 hf => ?_)
                  refine s_iload C dX12_gone_112 rfl ?_
                  refine s_iaload C dX12_gone_114 hf (fun v17 hf => ?_)
                  refine s_iload_n C dX12_gone_115 rfl ?_
                  refine s_jn hf (fun j168 e168 hf => ?_)
                  have k168 : ∀ (x18 : Int32) (h19 : AH), j168 x18 h19 = some r → WW X h19 0 0 168 [some (rB (xD X).1 o), some (.int a1), none, none, some (.int v9), some (.int x18), some (.int x11)] [] := by
                    intro x18 h19 hf
                    rw [e168] at hf
                    refine s_iinc C dX12_gone_168 (v := (x11 + 1)) rfl rfl (by decide) (nc_i rfl) (lv' := [some (rB (xD X).1 o), some (.int a1), none, none, some (.int v9), some (.int x18), some (.int (x11 + 1))]) rfl ?_
                    refine s_goto (tgt := 99) C dX12_gone_171 (by decide) ?_
                    exact ih99 _ _ _ hf
                  refine s_icmp_ne (tgt := 168) C dX12_gone_116 (by decide) hf (fun hf => ?_) (fun hf => ?_)
                  · exact k168 _ _ hf
                  · refine s_aload_n C dX12_gone_119 rfl ?_
                    refine s_getR C fl_X12_55 dX12_gone_120 hf (fun v20 hf => ?_)
                    refine s_iload C dX12_gone_123 rfl ?_
                    refine s_zaload C dX12_gone_125 hf (fun v21 hf => ?_)
                    refine s_if_ne (tgt := 168) C dX12_gone_126 (by decide) hf (fun hf => ?_) (fun hf => ?_)
                    · exact k168 _ _ hf
                    · refine s_iload C dX12_gone_129 rfl ?_
                      refine s_jn hf (fun j148 e148 hf => ?_)
                      have k148 : ∀ (h22 : AH), j148 h22 = some r → WW X h22 0 0 148 [some (rB (xD X).1 o), some (.int a1), none, none, some (.int v9), some (.int x10), some (.int x11)] [] := by
                        intro h22 hf
                        rw [e148] at hf
                        refine s_iload C dX12_gone_148 rfl ?_
                        refine s_jn hf (fun j164 e164 hf => ?_)
                        have k164 : ∀ (h23 : AH), j164 h23 = some r → WW X h23 0 0 164 [some (rB (xD X).1 o), some (.int a1), none, none, some (.int v9), none, some (.int x11)] [] := by
                          intro h23 hf
                          rw [e164] at hf
                          refine s_iload C dX12_gone_164 rfl ?_
                          refine s_istore C dX12_gone_166 (by decide) (nc_i rfl) (lv' := [some (rB (xD X).1 o), some (.int a1), none, none, some (.int v9), some (.int x11), some (.int x11)]) rfl ?_
                          exact k168 _ _ hf
                        refine s_if_lt (tgt := 164) C dX12_gone_150 (by decide) hf (fun hf => ?_) (fun hf => ?_)
                        · refine s_weak (lv' := [some (rB (xD X).1 o), some (.int a1), none, none, some (.int v9), none, some (.int x11)]) ⟨rfl, ⟨rfl, ⟨rfl, ⟨rfl, trivial⟩⟩⟩⟩ ?_
                          exact k164 _ hf
                        · refine s_aload_n C dX12_gone_153 rfl ?_
                          refine s_iload C dX12_gone_154 rfl ?_
                          refine s_iload C dX12_gone_156 rfl ?_
                          refine s_callV (rvf := fun x => some (.int x)) (st := []) (fr := 0) (lo := 0) (mc := 0) (ms := 0) C [12] wc_X12_isBehind wml_X12_270 wim_X12_isBehind wsl_12_X12_isBehind dX12_gone_158 (As := [.inl x10, .inl x11]) rfl hf (fun x h' hF => c_X12_isBehind _ _ _ _ _ _ (x, h') hF) rfl (Nat.le_of_ble_eq_true rfl) (room_ok hX (Nat.le_of_ble_eq_true rfl) (Nat.le_of_ble_eq_true rfl)) (cell_ok hX (Nat.le_of_ble_eq_true rfl) (Nat.le_of_ble_eq_true rfl)) (fun v25 h24 hf => ?_)
                          refine s_if_eq (tgt := 168) C dX12_gone_161 (by decide) hf (fun hf => ?_) (fun hf => ?_)
                          · exact k168 _ _ hf
                          · refine s_weak (lv' := [some (rB (xD X).1 o), some (.int a1), none, none, some (.int v9), none, some (.int x11)]) ⟨rfl, ⟨rfl, ⟨rfl, ⟨rfl, trivial⟩⟩⟩⟩ ?_
                            exact k164 _ hf
                      refine s_if_lt (tgt := 148) C dX12_gone_131 (by decide) hf (fun hf => ?_) (fun hf => ?_)
                      · exact k148 _ hf
                      · refine s_aload_n C dX12_gone_134 rfl ?_
                        refine s_iload C dX12_gone_135 rfl ?_
                        refine s_iload C dX12_gone_137 rfl ?_
                        refine s_callV (rvf := fun x => some (.int x)) (st := []) (fr := 0) (lo := 0) (mc := 0) (ms := 0) C [12] wc_X12_isBehind wml_X12_270 wim_X12_isBehind wsl_12_X12_isBehind dX12_gone_139 (As := [.inl x11, .inl v9]) rfl hf (fun x h' hF => c_X12_isBehind _ _ _ _ _ _ (x, h') hF) rfl (Nat.le_of_ble_eq_true rfl) (room_ok hX (Nat.le_of_ble_eq_true rfl) (Nat.le_of_ble_eq_true rfl)) (cell_ok hX (Nat.le_of_ble_eq_true rfl) (Nat.le_of_ble_eq_true rfl)) (fun v27 h26 hf => ?_)
                        refine s_if_ne (tgt := 148) C dX12_gone_142 (by decide) hf (fun hf => ?_) (fun hf => ?_)
                        · exact k148 _ hf
                        · refine s_goto (tgt := 168) C dX12_gone_145 (by decide) ?_
                          exact k168 _ _ hf
            refine s_weak (lv' := [some (rB (xD X).1 o), some (.int a1), none, none, some (.int v9), some (.int (-1 : Int32)), some (.int (0 : Int32))]) ⟨rfl, ⟨rfl, ⟨rfl, ⟨rfl, ⟨rfl, trivial⟩⟩⟩⟩⟩ ?_
            exact k99 lpN _ _ _ hf
          · refine s_iload C dX12_gone_68 rfl ?_
            refine s_jn hf (fun j92 e92 hf => ?_)
            have k92 : ∀ (x28 : Int32), j92 x28 = some r → WW X h8 0 0 92 [none, none, none, none, none, none, none] [.int x28] := by
              intro x28 hf
              rw [e92] at hf
              exact s_ireturn C E dX12_gone_92 hf (Nat.le_of_ble_eq_true rfl) (Nat.le_of_ble_eq_true rfl)
            refine s_if_ge (tgt := 85) C dX12_gone_70 (by decide) hf (fun hf => ?_) (fun hf => ?_)
            · refine s_aload_n C dX12_gone_85 rfl ?_
              refine s_getR C fl_X12_52 dX12_gone_86 hf (fun v29 hf => ?_)
              refine s_iload C dX12_gone_89 rfl ?_
              refine s_iaload C dX12_gone_91 hf (fun v30 hf => ?_)
              refine s_weak (lv' := [none, none, none, none, none, none, none]) trivial ?_
              exact k92 _ hf
            · refine s_bipush C dX12_gone_73 (v := (24 : Int32)) (by decide) ?_
              refine s_aload_n C dX12_gone_75 rfl ?_
              refine s_getR C fl_X12_19 dX12_gone_76 hf (fun v31 hf => ?_)
              refine s_iload_n C dX12_gone_79 rfl ?_
              refine s_iaload C dX12_gone_80 hf (fun v32 hf => ?_)
              refine s_imul C dX12_gone_81 ?_
              refine s_goto (tgt := 92) C dX12_gone_82 (by decide) ?_
              refine s_weak (lv' := [none, none, none, none, none, none, none]) trivial ?_
              exact k92 _ hf
        · refine s_bipush C dX12_gone_53 (v := (-2 : Int32)) (by decide) ?_
          exact s_ireturn C E dX12_gone_55 hf (Nat.le_of_ble_eq_true rfl) (Nat.le_of_ble_eq_true rfl)
      · refine s_iload_n C dX12_gone_29 rfl ?_
        refine s_iconst C dX12_gone_30 (v := (3 : Int32)) (by decide) ?_
        refine s_jn hf (fun j47 e47 hf => ?_)
        have k47 : ∀ (x33 : Int32), j47 x33 = some r → WW X h6 0 0 47 [none, none, none, none, none, none, none] [.int x33] := by
          intro x33 hf
          rw [e47] at hf
          exact s_ireturn C E dX12_gone_47 hf (Nat.le_of_ble_eq_true rfl) (Nat.le_of_ble_eq_true rfl)
        refine s_icmp_lt (tgt := 38) C dX12_gone_31 (by decide) hf (fun hf => ?_) (fun hf => ?_)
        · refine s_iload_n C dX12_gone_38 rfl ?_
          refine s_if_le (tgt := 46) C dX12_gone_39 (by decide) hf (fun hf => ?_) (fun hf => ?_)
          · refine s_iconst C dX12_gone_46 (v := (0 : Int32)) (by decide) ?_
            refine s_weak (lv' := [none, none, none, none, none, none, none]) trivial ?_
            exact k47 _ hf
          · refine s_iconst C dX12_gone_42 (v := (1 : Int32)) (by decide) ?_
            refine s_goto (tgt := 47) C dX12_gone_43 (by decide) ?_
            refine s_weak (lv' := [none, none, none, none, none, none, none]) trivial ?_
            exact k47 _ hf
        · refine s_iconst C dX12_gone_34 (v := (2 : Int32)) (by decide) ?_
          refine s_goto (tgt := 47) C dX12_gone_35 (by decide) ?_
          refine s_weak (lv' := [none, none, none, none, none, none, none]) trivial ?_
          exact k47 _ hf
    · refine s_weak (lv' := [none, none, none, none, none, none, none]) trivial ?_
      exact k17 _ hf
/-- HillBoxesModel.canAsk(III)Z -/
noncomputable def f_X12_canAsk (o : Option Nat) (a1 : Int32) (a2 : Int32) (a3 : Int32) (h : AH) : Option (Int32 × AH) :=
  rO h [12] o <| cl (f_X12_isFinder o a1 h) fun v2 h1 =>
  jn (fun (x3 : Int32) (h4 : AH) =>
    rz x3 h4) fun j41 =>
  jn (fun (h5 : AH) =>
    j41 (0 : Int32) h5) fun j40 =>
  if v2 = 0 then
    j40 h1
  else
    cl (f_X12_in a2 (1 : Int32) (5 : Int32) h1) fun v7 h6 =>
    if v7 = 0 then
      j40 h6
    else
      cl (f_X12_isCell a3 h6) fun v9 h8 =>
      if v9 = 0 then
        j40 h8
      else
        jn (
          j41 (1 : Int32) h8) fun j36 =>
        if a2 = (3 : Int32) then
          fI h8 [12] o 11 fun v10 =>
          if v10 ≤ 0 then
            j40 h8
          else
            j36
        else
          j36
set_option maxRecDepth 100000 in
set_option maxHeartbeats 4000000 in
theorem c_X12_canAsk (l : Launch) (D : DT) (o : Option Nat) (a1 : Int32) (a2 : Int32) (a3 : Int32) (h : AH) (r : Int32 × AH) (hf : f_X12_canAsk o a1 a2 a3 h = some r) : CM l D yX12_canAsk cX12_canAsk 4 (some .boolean) 3 64 0 0 [.inr (.inr o), .inl a1, .inl a2, .inl a3] h (some (.int r.1)) r.2 := by
  refine CM.of (by decide) (Nat.le_of_ble_eq_true rfl) (fun X hl C hD hX hnm E => ?_)
  subst hl
  subst hD
  have C : CX X RX12 cX12_canAsk 4 := C
  show WW X h 0 0 0 [some (rB (xD X).1 o), some (.int a1), some (.int a2), some (.int a3)] []
  unfold f_X12_canAsk at hf
  refine s_aload_n C dX12_canAsk_0 rfl ?_
  refine s_iload_n C dX12_canAsk_1 rfl ?_
  refine s_callV (rvf := fun x => some (.int x)) (st := []) (fr := 2) (lo := 43) (mc := 0) (ms := 0) C [12] wc_X12_isFinder wml_X12_230 wim_X12_isFinder wsl_12_X12_isFinder dX12_canAsk_2 (As := [.inl a1]) rfl hf (fun x h' hF => c_X12_isFinder _ _ _ _ _ (x, h') hF) rfl (Nat.le_of_ble_eq_true rfl) (room_ok hX (Nat.le_of_ble_eq_true rfl) (Nat.le_of_ble_eq_true rfl)) (cell_ok hX (Nat.le_of_ble_eq_true rfl) (Nat.le_of_ble_eq_true rfl)) (fun v2 h1 hf => ?_)
  refine s_jn hf (fun j41 e41 hf => ?_)
  have k41 : ∀ (x3 : Int32) (h4 : AH), j41 x3 h4 = some r → WW X h4 0 0 41 [none, none, none, none] [.int x3] := by
    intro x3 h4 hf
    rw [e41] at hf
    exact s_zreturn C E dX12_canAsk_41 hf (Nat.le_of_ble_eq_true rfl) (Nat.le_of_ble_eq_true rfl)
  refine s_jn hf (fun j40 e40 hf => ?_)
  have k40 : ∀ (h5 : AH), j40 h5 = some r → WW X h5 0 0 40 [none, none, none, none] [] := by
    intro h5 hf
    rw [e40] at hf
    refine s_iconst C dX12_canAsk_40 (v := (0 : Int32)) (by decide) ?_
    exact k41 _ _ hf
  refine s_if_eq (tgt := 40) C dX12_canAsk_5 (by decide) hf (fun hf => ?_) (fun hf => ?_)
  · refine s_weak (lv' := [none, none, none, none]) trivial ?_
    exact k40 _ hf
  · refine s_iload_n C dX12_canAsk_8 rfl ?_
    refine s_iconst C dX12_canAsk_9 (v := (1 : Int32)) (by decide) ?_
    refine s_iconst C dX12_canAsk_10 (v := (5 : Int32)) (by decide) ?_
    refine s_callS (rvf := fun x => some (.int x)) (st := []) (fr := 0) (lo := 0) (mc := 0) (ms := 0) C wc_X12_in wml_X12_195 wst_X12_in dX12_canAsk_11 (As := [.inl a2, .inl (1 : Int32), .inl (5 : Int32)]) rfl hf (fun x h' hF => c_X12_in _ _ _ _ _ _ (x, h') hF) rfl (Nat.le_of_ble_eq_true rfl) (room_ok hX (Nat.le_of_ble_eq_true rfl) (Nat.le_of_ble_eq_true rfl)) (cell_ok hX (Nat.le_of_ble_eq_true rfl) (Nat.le_of_ble_eq_true rfl)) (fun v7 h6 hf => ?_)
    refine s_if_eq (tgt := 40) C dX12_canAsk_14 (by decide) hf (fun hf => ?_) (fun hf => ?_)
    · refine s_weak (lv' := [none, none, none, none]) trivial ?_
      exact k40 _ hf
    · refine s_iload_n C dX12_canAsk_17 rfl ?_
      refine s_callS (rvf := fun x => some (.int x)) (st := []) (fr := 1) (lo := 22) (mc := 0) (ms := 0) C wc_X12_isCell wml_X12_206 wst_X12_isCell dX12_canAsk_18 (As := [.inl a3]) rfl hf (fun x h' hF => c_X12_isCell _ _ _ _ (x, h') hF) rfl (Nat.le_of_ble_eq_true rfl) (room_ok hX (Nat.le_of_ble_eq_true rfl) (Nat.le_of_ble_eq_true rfl)) (cell_ok hX (Nat.le_of_ble_eq_true rfl) (Nat.le_of_ble_eq_true rfl)) (fun v9 h8 hf => ?_)
      refine s_if_eq (tgt := 40) C dX12_canAsk_21 (by decide) hf (fun hf => ?_) (fun hf => ?_)
      · refine s_weak (lv' := [none, none, none, none]) trivial ?_
        exact k40 _ hf
      · refine s_iload_n C dX12_canAsk_24 rfl ?_
        refine s_iconst C dX12_canAsk_25 (v := (3 : Int32)) (by decide) ?_
        refine s_jn hf (fun j36 e36 hf => ?_)
        have k36 : j36  = some r → WW X h8 0 0 36 [none, none, none, none] [] := by
          intro  hf
          rw [e36] at hf
          refine s_iconst C dX12_canAsk_36 (v := (1 : Int32)) (by decide) ?_
          refine s_goto (tgt := 41) C dX12_canAsk_37 (by decide) ?_
          exact k41 _ _ hf
        refine s_icmp_ne (tgt := 36) C dX12_canAsk_26 (by decide) hf (fun hf => ?_) (fun hf => ?_)
        · refine s_weak (lv' := [none, none, none, none]) trivial ?_
          exact k36 hf
        · refine s_aload_n C dX12_canAsk_29 rfl ?_
          refine s_getI C fl_X12_233 dX12_canAsk_30 hf (fun v10 hf => ?_)
          refine s_if_le (tgt := 40) C dX12_canAsk_33 (by decide) hf (fun hf => ?_) (fun hf => ?_)
          · refine s_weak (lv' := [none, none, none, none]) trivial ?_
            exact k40 _ hf
          · refine s_weak (lv' := [none, none, none, none]) trivial ?_
            exact k36 hf
/-- HillBoxesModel.hideBy(III)I -/
noncomputable def f_X12_hideBy (o : Option Nat) (a1 : Int32) (a2 : Int32) (a3 : Int32) (h : AH) : Option (Int32 × AH) :=
  fI h [12] o 1 fun v1 =>
  rO h [12] o <| cl (f_X12_findFinder o a1 v1 h) fun _ h2 =>
  fR h2 [12] o 43 fun v3 =>
  bI h2 20 v3 (1 : Int32) a2 fun h4 =>
  fR h4 [12] o 43 fun v5 =>
  bI h4 20 v5 (8 : Int32) a3 fun h6 =>
  fI h6 [12] o 1 fun v7 =>
  fI h6 [12] o 1 fun v8 =>
  rO h6 [12] o <| cl (f_X12_lawBy o (1 : Int32) v7 v8 (1 : Int32) h6) fun v10 h9 =>
  some (v10, h9)
set_option maxRecDepth 100000 in
set_option maxHeartbeats 4000000 in
theorem c_X12_hideBy (l : Launch) (D : DT) (o : Option Nat) (a1 : Int32) (a2 : Int32) (a3 : Int32) (h : AH) (r : Int32 × AH) (hf : f_X12_hideBy o a1 a2 a3 h = some r) : CM l D yX12_hideBy cX12_hideBy 4 (some .int) 6 130 0 0 [.inr (.inr o), .inl a1, .inl a2, .inl a3] h (some (.int r.1)) r.2 := by
  refine CM.of (by decide) (Nat.le_of_ble_eq_true rfl) (fun X hl C hD hX hnm E => ?_)
  subst hl
  subst hD
  have C : CX X RX12 cX12_hideBy 4 := C
  show WW X h 0 0 0 [some (rB (xD X).1 o), some (.int a1), some (.int a2), some (.int a3)] []
  unfold f_X12_hideBy at hf
  refine s_aload_n C dX12_hideBy_0 rfl ?_
  refine s_iload_n C dX12_hideBy_1 rfl ?_
  refine s_aload_n C dX12_hideBy_2 rfl ?_
  refine s_getI C fl_X12_203 dX12_hideBy_3 hf (fun v1 hf => ?_)
  refine s_callV (rvf := fun _ => none) (st := []) (fr := 5) (lo := 108) (mc := 0) (ms := 0) C [12] wc_X12_findFinder wml_X12_288 wim_X12_findFinder wsl_12_X12_findFinder dX12_hideBy_6 (As := [.inl a1, .inl v1]) rfl hf (fun x h' hF => c_X12_findFinder _ _ _ _ _ _ (x, h') hF) rfl (Nat.le_of_ble_eq_true rfl) (room_ok hX (Nat.le_of_ble_eq_true rfl) (Nat.le_of_ble_eq_true rfl)) (cell_ok hX (Nat.le_of_ble_eq_true rfl) (Nat.le_of_ble_eq_true rfl)) (fun _ h2 hf => ?_)
  refine s_aload_n C dX12_hideBy_9 rfl ?_
  refine s_getR C fl_X12_97 dX12_hideBy_10 hf (fun v3 hf => ?_)
  refine s_iconst C dX12_hideBy_13 (v := (1 : Int32)) (by decide) ?_
  refine s_iload_n C dX12_hideBy_14 rfl ?_
  refine s_iastore C dX12_hideBy_15 hf (fun h4 hf => ?_)
  refine s_aload_n C dX12_hideBy_16 rfl ?_
  refine s_getR C fl_X12_97 dX12_hideBy_17 hf (fun v5 hf => ?_)
  refine s_bipush C dX12_hideBy_20 (v := (8 : Int32)) (by decide) ?_
  refine s_iload_n C dX12_hideBy_22 rfl ?_
  refine s_iastore C dX12_hideBy_23 hf (fun h6 hf => ?_)
  refine s_aload_n C dX12_hideBy_24 rfl ?_
  refine s_iconst C dX12_hideBy_25 (v := (1 : Int32)) (by decide) ?_
  refine s_aload_n C dX12_hideBy_26 rfl ?_
  refine s_getI C fl_X12_203 dX12_hideBy_27 hf (fun v7 hf => ?_)
  refine s_aload_n C dX12_hideBy_30 rfl ?_
  refine s_getI C fl_X12_203 dX12_hideBy_31 hf (fun v8 hf => ?_)
  refine s_iconst C dX12_hideBy_34 (v := (1 : Int32)) (by decide) ?_
  refine s_callV (rvf := fun x => some (.int x)) (st := []) (fr := 3) (lo := 72) (mc := 0) (ms := 0) C [12] wc_X12_lawBy wml_X12_301 wim_X12_lawBy wsl_12_X12_lawBy dX12_hideBy_35 (As := [.inl (1 : Int32), .inl v7, .inl v8, .inl (1 : Int32)]) rfl hf (fun x h' hF => c_X12_lawBy _ _ _ _ _ _ _ _ (x, h') hF) rfl (Nat.le_of_ble_eq_true rfl) (room_ok hX (Nat.le_of_ble_eq_true rfl) (Nat.le_of_ble_eq_true rfl)) (cell_ok hX (Nat.le_of_ble_eq_true rfl) (Nat.le_of_ble_eq_true rfl)) (fun v10 h9 hf => ?_)
  exact s_ireturn C E dX12_hideBy_38 hf (Nat.le_of_ble_eq_true rfl) (Nat.le_of_ble_eq_true rfl)
/-- HillBoxesModel.ownerOf(I)I -/
noncomputable def f_X12_ownerOf (o : Option Nat) (a1 : Int32) (h : AH) : Option (Int32 × AH) :=
  fR h [12] o 2 fun v1 =>
  aI h 20 v1 a1 fun v2 =>
  some ((v2 - (1 : Int32)), h)
set_option maxRecDepth 100000 in
set_option maxHeartbeats 4000000 in
theorem c_X12_ownerOf (l : Launch) (D : DT) (o : Option Nat) (a1 : Int32) (h : AH) (r : Int32 × AH) (hf : f_X12_ownerOf o a1 h = some r) : CM l D yX12_ownerOf cX12_ownerOf 2 (some .int) 0 0 0 0 [.inr (.inr o), .inl a1] h (some (.int r.1)) r.2 := by
  refine CM.of (by decide) (Nat.le_of_ble_eq_true rfl) (fun X hl C hD hX hnm E => ?_)
  subst hl
  subst hD
  have C : CX X RX12 cX12_ownerOf 2 := C
  show WW X h 0 0 0 [some (rB (xD X).1 o), some (.int a1)] []
  unfold f_X12_ownerOf at hf
  refine s_aload_n C dX12_ownerOf_0 rfl ?_
  refine s_getR C fl_X12_7 dX12_ownerOf_1 hf (fun v1 hf => ?_)
  refine s_iload_n C dX12_ownerOf_4 rfl ?_
  refine s_iaload C dX12_ownerOf_5 hf (fun v2 hf => ?_)
  refine s_iconst C dX12_ownerOf_6 (v := (1 : Int32)) (by decide) ?_
  refine s_isub C dX12_ownerOf_7 ?_
  exact s_ireturn C E dX12_ownerOf_8 hf (Nat.le_of_ble_eq_true rfl) (Nat.le_of_ble_eq_true rfl)
/-- HillBoxesModel.mayLeave(III)Z -/
noncomputable def f_X12_mayLeave (o : Option Nat) (a1 : Int32) (a2 : Int32) (a3 : Int32) (h : AH) : Option (Int32 × AH) :=
  rO h [12] o <| cl (f_X12_ownerOf o a3 h) fun v2 h1 =>
  if 0 ≤ v2 then
    fI h1 [12] o 1 fun v3 =>
    rO h1 [12] o <| cl (f_X12_findFinder o a1 v3 h1) fun _ h4 =>
    fR h4 [12] o 43 fun v5 =>
    bI h4 20 v5 (1 : Int32) a2 fun h6 =>
    fR h6 [12] o 43 fun v7 =>
    fR h6 [12] o 5 fun v8 =>
    aI h6 20 v8 a1 fun v9 =>
    cl (f_X12_farOf v9 a3 h6) fun v11 h10 =>
    bI h10 20 v7 (8 : Int32) v11 fun h12 =>
    rO h12 [12] o <| cl (f_X12_ownerOf o a3 h12) fun v14 h13 =>
    fI h13 [12] o 1 fun v15 =>
    fI h13 [12] o 1 fun v16 =>
    rO h13 [12] o <| cl (f_X12_lawBy o ((10 : Int32) + v14) v15 v16 (0 : Int32) h13) fun v18 h17 =>
    jn (fun (x19 : Int32) =>
      rz x19 h17) fun j72 =>
    if v18 = 0 then
      j72 (0 : Int32)
    else
      j72 (1 : Int32)
  else
    rz (1 : Int32) h1
set_option maxRecDepth 100000 in
set_option maxHeartbeats 4000000 in
theorem c_X12_mayLeave (l : Launch) (D : DT) (o : Option Nat) (a1 : Int32) (a2 : Int32) (a3 : Int32) (h : AH) (r : Int32 × AH) (hf : f_X12_mayLeave o a1 a2 a3 h = some r) : CM l D yX12_mayLeave cX12_mayLeave 4 (some .boolean) 6 130 0 0 [.inr (.inr o), .inl a1, .inl a2, .inl a3] h (some (.int r.1)) r.2 := by
  refine CM.of (by decide) (Nat.le_of_ble_eq_true rfl) (fun X hl C hD hX hnm E => ?_)
  subst hl
  subst hD
  have C : CX X RX12 cX12_mayLeave 4 := C
  show WW X h 0 0 0 [some (rB (xD X).1 o), some (.int a1), some (.int a2), some (.int a3)] []
  unfold f_X12_mayLeave at hf
  refine s_aload_n C dX12_mayLeave_0 rfl ?_
  refine s_iload_n C dX12_mayLeave_1 rfl ?_
  refine s_callV (rvf := fun x => some (.int x)) (st := []) (fr := 0) (lo := 0) (mc := 0) (ms := 0) C [12] wc_X12_ownerOf wml_X12_211 wim_X12_ownerOf wsl_12_X12_ownerOf dX12_mayLeave_2 (As := [.inl a3]) rfl hf (fun x h' hF => c_X12_ownerOf _ _ _ _ _ (x, h') hF) rfl (Nat.le_of_ble_eq_true rfl) (room_ok hX (Nat.le_of_ble_eq_true rfl) (Nat.le_of_ble_eq_true rfl)) (cell_ok hX (Nat.le_of_ble_eq_true rfl) (Nat.le_of_ble_eq_true rfl)) (fun v2 h1 hf => ?_)
  refine s_if_ge (tgt := 10) C dX12_mayLeave_5 (by decide) hf (fun hf => ?_) (fun hf => ?_)
  · refine s_aload_n C dX12_mayLeave_10 rfl ?_
    refine s_iload_n C dX12_mayLeave_11 rfl ?_
    refine s_aload_n C dX12_mayLeave_12 rfl ?_
    refine s_getI C fl_X12_203 dX12_mayLeave_13 hf (fun v3 hf => ?_)
    refine s_callV (rvf := fun _ => none) (st := []) (fr := 5) (lo := 108) (mc := 0) (ms := 0) C [12] wc_X12_findFinder wml_X12_288 wim_X12_findFinder wsl_12_X12_findFinder dX12_mayLeave_16 (As := [.inl a1, .inl v3]) rfl hf (fun x h' hF => c_X12_findFinder _ _ _ _ _ _ (x, h') hF) rfl (Nat.le_of_ble_eq_true rfl) (room_ok hX (Nat.le_of_ble_eq_true rfl) (Nat.le_of_ble_eq_true rfl)) (cell_ok hX (Nat.le_of_ble_eq_true rfl) (Nat.le_of_ble_eq_true rfl)) (fun _ h4 hf => ?_)
    refine s_aload_n C dX12_mayLeave_19 rfl ?_
    refine s_getR C fl_X12_97 dX12_mayLeave_20 hf (fun v5 hf => ?_)
    refine s_iconst C dX12_mayLeave_23 (v := (1 : Int32)) (by decide) ?_
    refine s_iload_n C dX12_mayLeave_24 rfl ?_
    refine s_iastore C dX12_mayLeave_25 hf (fun h6 hf => ?_)
    refine s_aload_n C dX12_mayLeave_26 rfl ?_
    refine s_getR C fl_X12_97 dX12_mayLeave_27 hf (fun v7 hf => ?_)
    refine s_bipush C dX12_mayLeave_30 (v := (8 : Int32)) (by decide) ?_
    refine s_aload_n C dX12_mayLeave_32 rfl ?_
    refine s_getR C fl_X12_16 dX12_mayLeave_33 hf (fun v8 hf => ?_)
    refine s_iload_n C dX12_mayLeave_36 rfl ?_
    refine s_iaload C dX12_mayLeave_37 hf (fun v9 hf => ?_)
    refine s_iload_n C dX12_mayLeave_38 rfl ?_
    refine s_callS (rvf := fun x => some (.int x)) (st := [.int (8 : Int32), rB (xD X).1 v7]) (fr := 1) (lo := 20) (mc := 0) (ms := 0) C wc_X12_farOf wml_X12_308 wst_X12_farOf dX12_mayLeave_39 (As := [.inl v9, .inl a3]) rfl hf (fun x h' hF => c_X12_farOf _ _ _ _ _ (x, h') hF) rfl (Nat.le_of_ble_eq_true rfl) (room_ok hX (Nat.le_of_ble_eq_true rfl) (Nat.le_of_ble_eq_true rfl)) (cell_ok hX (Nat.le_of_ble_eq_true rfl) (Nat.le_of_ble_eq_true rfl)) (fun v11 h10 hf => ?_)
    refine s_iastore C dX12_mayLeave_42 hf (fun h12 hf => ?_)
    refine s_aload_n C dX12_mayLeave_43 rfl ?_
    refine s_bipush C dX12_mayLeave_44 (v := (10 : Int32)) (by decide) ?_
    refine s_aload_n C dX12_mayLeave_46 rfl ?_
    refine s_iload_n C dX12_mayLeave_47 rfl ?_
    refine s_callV (rvf := fun x => some (.int x)) (st := [.int (10 : Int32), rB (xD X).1 o]) (fr := 0) (lo := 0) (mc := 0) (ms := 0) C [12] wc_X12_ownerOf wml_X12_211 wim_X12_ownerOf wsl_12_X12_ownerOf dX12_mayLeave_48 (As := [.inl a3]) rfl hf (fun x h' hF => c_X12_ownerOf _ _ _ _ _ (x, h') hF) rfl (Nat.le_of_ble_eq_true rfl) (room_ok hX (Nat.le_of_ble_eq_true rfl) (Nat.le_of_ble_eq_true rfl)) (cell_ok hX (Nat.le_of_ble_eq_true rfl) (Nat.le_of_ble_eq_true rfl)) (fun v14 h13 hf => ?_)
    refine s_iadd C dX12_mayLeave_51 ?_
    refine s_aload_n C dX12_mayLeave_52 rfl ?_
    refine s_getI C fl_X12_203 dX12_mayLeave_53 hf (fun v15 hf => ?_)
    refine s_aload_n C dX12_mayLeave_56 rfl ?_
    refine s_getI C fl_X12_203 dX12_mayLeave_57 hf (fun v16 hf => ?_)
    refine s_iconst C dX12_mayLeave_60 (v := (0 : Int32)) (by decide) ?_
    refine s_callV (rvf := fun x => some (.int x)) (st := []) (fr := 3) (lo := 72) (mc := 0) (ms := 0) C [12] wc_X12_lawBy wml_X12_301 wim_X12_lawBy wsl_12_X12_lawBy dX12_mayLeave_61 (As := [.inl ((10 : Int32) + v14), .inl v15, .inl v16, .inl (0 : Int32)]) rfl hf (fun x h' hF => c_X12_lawBy _ _ _ _ _ _ _ _ (x, h') hF) rfl (Nat.le_of_ble_eq_true rfl) (room_ok hX (Nat.le_of_ble_eq_true rfl) (Nat.le_of_ble_eq_true rfl)) (cell_ok hX (Nat.le_of_ble_eq_true rfl) (Nat.le_of_ble_eq_true rfl)) (fun v18 h17 hf => ?_)
    refine s_jn hf (fun j72 e72 hf => ?_)
    have k72 : ∀ (x19 : Int32), j72 x19 = some r → WW X h17 0 0 72 [none, none, none, none] [.int x19] := by
      intro x19 hf
      rw [e72] at hf
      exact s_zreturn C E dX12_mayLeave_72 hf (Nat.le_of_ble_eq_true rfl) (Nat.le_of_ble_eq_true rfl)
    refine s_if_eq (tgt := 71) C dX12_mayLeave_64 (by decide) hf (fun hf => ?_) (fun hf => ?_)
    · refine s_iconst C dX12_mayLeave_71 (v := (0 : Int32)) (by decide) ?_
      refine s_weak (lv' := [none, none, none, none]) trivial ?_
      exact k72 _ hf
    · refine s_iconst C dX12_mayLeave_67 (v := (1 : Int32)) (by decide) ?_
      refine s_goto (tgt := 72) C dX12_mayLeave_68 (by decide) ?_
      refine s_weak (lv' := [none, none, none, none]) trivial ?_
      exact k72 _ hf
  · refine s_iconst C dX12_mayLeave_8 (v := (1 : Int32)) (by decide) ?_
    exact s_zreturn C E dX12_mayLeave_9 hf (Nat.le_of_ble_eq_true rfl) (Nat.le_of_ble_eq_true rfl)
/-- HillBoxesModel.nearNow()I -/
noncomputable def f_X12_nearNow (o : Option Nat) (h : AH) : Option (Int32 × AH) :=
  fI h [12] o 1 fun v1 =>
  rO h [12] o <| cl (f_X12_findDay o v1 h) fun _ h2 =>
  fI h2 [12] o 1 fun v3 =>
  fI h2 [12] o 1 fun v4 =>
  rO h2 [12] o <| cl (f_X12_lawBy o (0 : Int32) v3 v4 (2 : Int32) h2) fun v6 h5 =>
  jn (fun (x7 : Int32) =>
    some (x7, h5)) fun j43 =>
  if 0 ≤ v6 then
    if v6 ≤ (15 : Int32) then
      j43 v6
    else
      j43 (15 : Int32)
  else
    j43 (0 : Int32)
set_option maxRecDepth 100000 in
set_option maxHeartbeats 4000000 in
theorem c_X12_nearNow (l : Launch) (D : DT) (o : Option Nat) (h : AH) (r : Int32 × AH) (hf : f_X12_nearNow o h = some r) : CM l D yX12_nearNow cX12_nearNow 2 (some .int) 4 97 0 0 [.inr (.inr o)] h (some (.int r.1)) r.2 := by
  refine CM.of (by decide) (Nat.le_of_ble_eq_true rfl) (fun X hl C hD hX hnm E => ?_)
  subst hl
  subst hD
  have C : CX X RX12 cX12_nearNow 2 := C
  show WW X h 0 0 0 [some (rB (xD X).1 o), none] []
  unfold f_X12_nearNow at hf
  refine s_aload_n C dX12_nearNow_0 rfl ?_
  refine s_aload_n C dX12_nearNow_1 rfl ?_
  refine s_getI C fl_X12_203 dX12_nearNow_2 hf (fun v1 hf => ?_)
  refine s_callV (rvf := fun _ => none) (st := []) (fr := 0) (lo := 0) (mc := 0) (ms := 0) C [12] wc_X12_findDay wml_X12_438 wim_X12_findDay wsl_12_X12_findDay dX12_nearNow_5 (As := [.inl v1]) rfl hf (fun x h' hF => c_X12_findDay _ _ _ _ _ (x, h') hF) rfl (Nat.le_of_ble_eq_true rfl) (room_ok hX (Nat.le_of_ble_eq_true rfl) (Nat.le_of_ble_eq_true rfl)) (cell_ok hX (Nat.le_of_ble_eq_true rfl) (Nat.le_of_ble_eq_true rfl)) (fun _ h2 hf => ?_)
  refine s_aload_n C dX12_nearNow_8 rfl ?_
  refine s_iconst C dX12_nearNow_9 (v := (0 : Int32)) (by decide) ?_
  refine s_aload_n C dX12_nearNow_10 rfl ?_
  refine s_getI C fl_X12_203 dX12_nearNow_11 hf (fun v3 hf => ?_)
  refine s_aload_n C dX12_nearNow_14 rfl ?_
  refine s_getI C fl_X12_203 dX12_nearNow_15 hf (fun v4 hf => ?_)
  refine s_iconst C dX12_nearNow_18 (v := (2 : Int32)) (by decide) ?_
  refine s_callV (rvf := fun x => some (.int x)) (st := []) (fr := 3) (lo := 72) (mc := 0) (ms := 0) C [12] wc_X12_lawBy wml_X12_301 wim_X12_lawBy wsl_12_X12_lawBy dX12_nearNow_19 (As := [.inl (0 : Int32), .inl v3, .inl v4, .inl (2 : Int32)]) rfl hf (fun x h' hF => c_X12_lawBy _ _ _ _ _ _ _ _ (x, h') hF) rfl (Nat.le_of_ble_eq_true rfl) (room_ok hX (Nat.le_of_ble_eq_true rfl) (Nat.le_of_ble_eq_true rfl)) (cell_ok hX (Nat.le_of_ble_eq_true rfl) (Nat.le_of_ble_eq_true rfl)) (fun v6 h5 hf => ?_)
  refine s_istore_n C dX12_nearNow_22 (by decide) (nc_r rfl) (lv' := [some (rB (xD X).1 o), some (.int v6)]) rfl ?_
  refine s_iload_n C dX12_nearNow_23 rfl ?_
  refine s_jn hf (fun j43 e43 hf => ?_)
  have k43 : ∀ (x7 : Int32), j43 x7 = some r → WW X h5 0 0 43 [none, none] [.int x7] := by
    intro x7 hf
    rw [e43] at hf
    exact s_ireturn C E dX12_nearNow_43 hf (Nat.le_of_ble_eq_true rfl) (Nat.le_of_ble_eq_true rfl)
  refine s_if_ge (tgt := 31) C dX12_nearNow_24 (by decide) hf (fun hf => ?_) (fun hf => ?_)
  · refine s_iload_n C dX12_nearNow_31 rfl ?_
    refine s_bipush C dX12_nearNow_32 (v := (15 : Int32)) (by decide) ?_
    refine s_icmp_le (tgt := 42) C dX12_nearNow_34 (by decide) hf (fun hf => ?_) (fun hf => ?_)
    · refine s_iload_n C dX12_nearNow_42 rfl ?_
      refine s_weak (lv' := [none, none]) trivial ?_
      exact k43 _ hf
    · refine s_bipush C dX12_nearNow_37 (v := (15 : Int32)) (by decide) ?_
      refine s_goto (tgt := 43) C dX12_nearNow_39 (by decide) ?_
      refine s_weak (lv' := [none, none]) trivial ?_
      exact k43 _ hf
  · refine s_iconst C dX12_nearNow_27 (v := (0 : Int32)) (by decide) ?_
    refine s_goto (tgt := 43) C dX12_nearNow_28 (by decide) ?_
    refine s_weak (lv' := [none, none]) trivial ?_
    exact k43 _ hf
/-- HillBoxesModel.whyNot(III)I -/
noncomputable def f_X12_whyNot (o : Option Nat) (a1 : Int32) (a2 : Int32) (a3 : Int32) (h : AH) : Option (Int32 × AH) :=
  fR h [12] o 7 fun v1 =>
  aI h 20 v1 a1 fun v2 =>
  jn (fun (h3 : AH) =>
    some ((1 : Int32), h3)) fun j28 =>
  if 0 ≤ v2 then
    j28 h
  else
    fR h [12] o 5 fun v4 =>
    aI h 20 v4 a1 fun v5 =>
    cl (f_X12_farOf v5 a3 h) fun v7 h6 =>
    rO h6 [12] o <| cl (f_X12_hideBy o a1 a2 v7 h6) fun v9 h8 =>
    if v9 = 0 then
      j28 h8
    else
      rO h8 [12] o <| cl (f_X12_mayLeave o a1 a2 a3 h8) fun v11 h10 =>
      if v11 = 0 then
        some ((2 : Int32), h10)
      else
        lp (fun _ _ => none) (fun (L45 : Int32 → AH → Option (Int32 × AH)) (x12 : Int32) (h13 : AH) =>
          fI h13 [12] o 11 fun v14 =>
          jn (
            jn (fun (x15 : Int32) =>
              rO h13 [12] o <| cl (f_X12_nearNow o h13) fun v17 h16 =>
              lp (fun _ _ => none) (fun (L114 : Int32 → AH → Option (Int32 × AH)) (x18 : Int32) (h19 : AH) =>
                fI h19 [12] o 3 fun v20 =>
                if v20 ≤ x18 then
                  lp (fun _ _ => none) (fun (L187 : Int32 → AH → Option (Int32 × AH)) (x21 : Int32) (h22 : AH) =>
                    fI h22 [12] o 3 fun v23 =>
                    if v23 ≤ x21 then
                      some ((0 : Int32), h22)
                    else
                      rO h22 [12] o <| cl (f_X12_isOut o x21 h22) fun v25 h24 =>
                      jn (fun (x26 : Int32) (h27 : AH) =>
                        L187 (x26 + 1) h27) fun j266 =>
                      if v25 = 0 then
                        j266 x21 h24
                      else
                        fR h24 [12] o 4 fun v28 =>
                        aI h24 20 v28 x21 fun v29 =>
                        if v29 = (3 : Int32) then
                          lp (fun _ _ _ => none) (fun (L222 : Int32 → Int32 → AH → Option (Int32 × AH)) (x30 : Int32) (x31 : Int32) (h32 : AH) =>
                            fR h32 [12] o 9 fun v33 =>
                            aI h32 20 v33 x30 fun v34 =>
                            if v34 ≤ (x31 + (1 : Int32)) then
                              j266 x30 h32
                            else
                              fR h32 [12] o 10 fun v35 =>
                              aI h32 20 v35 (((4 : Int32) * x30) + x31) fun v36 =>
                              cl (f_X12_farOf x15 v36 h32) fun v38 h37 =>
                              if v17 ≤ v38 then
                                L222 x30 (x31 + 1) h37
                              else
                                some ((4 : Int32), h37)) lpN x21 (0 : Int32) h24
                        else
                          j266 x21 h24) lpN (0 : Int32) h19
                else
                  rO h19 [12] o <| cl (f_X12_isOut o x18 h19) fun v40 h39 =>
                  jn (fun (h41 : AH) =>
                    L114 (x18 + 1) h41) fun j178 =>
                  if v40 = 0 then
                    j178 h39
                  else
                    rO h39 [12] o <| cl (f_X12_liesNow o x18 h39) fun v43 h42 =>
                    cl (f_X12_farOf x15 v43 h42) fun v45 h44 =>
                    jn (fun (h46 : AH) =>
                      some ((3 : Int32), h46)) fun j176 =>
                    if v45 < v17 then
                      j176 h44
                    else
                      fR h44 [12] o 4 fun v47 =>
                      aI h44 20 v47 x18 fun v48 =>
                      if v48 = (3 : Int32) then
                        fR h44 [12] o 5 fun v49 =>
                        aI h44 20 v49 x18 fun v50 =>
                        cl (f_X12_farOf x15 v50 h44) fun v52 h51 =>
                        if v17 ≤ v52 then
                          j178 h51
                        else
                          j176 h51
                      else
                        j178 h44) lpN (0 : Int32) h16) fun j103 =>
            if a2 = (3 : Int32) then
              fR h13 [12] o 12 fun v53 =>
              fI h13 [12] o 11 fun v54 =>
              aI h13 20 v53 (v54 - (1 : Int32)) fun v55 =>
              j103 v55
            else
              j103 a3) fun j83 =>
          if v14 ≤ x12 then
            j83
          else
            if a2 = (3 : Int32) then
              fR h13 [12] o 12 fun v56 =>
              aI h13 20 v56 x12 fun v57 =>
              rO h13 [12] o <| cl (f_X12_mayLeave o a1 a2 v57 h13) fun v59 h58 =>
              if v59 = 0 then
                some ((2 : Int32), h58)
              else
                L45 (x12 + 1) h58
            else
              j83) lpN (0 : Int32) h10
set_option maxRecDepth 100000 in
set_option maxHeartbeats 4000000 in
theorem c_X12_whyNot (l : Launch) (D : DT) (o : Option Nat) (a1 : Int32) (a2 : Int32) (a3 : Int32) (h : AH) (r : Int32 × AH) (hf : f_X12_whyNot o a1 a2 a3 h = some r) : CM l D yX12_whyNot cX12_whyNot 8 (some .int) 7 153 0 0 [.inr (.inr o), .inl a1, .inl a2, .inl a3] h (some (.int r.1)) r.2 := by
  refine CM.of (by decide) (Nat.le_of_ble_eq_true rfl) (fun X hl C hD hX hnm E => ?_)
  subst hl
  subst hD
  have C : CX X RX12 cX12_whyNot 8 := C
  show WW X h 0 0 0 [some (rB (xD X).1 o), some (.int a1), some (.int a2), some (.int a3), none, none, none, none] []
  unfold f_X12_whyNot at hf
  refine s_aload_n C dX12_whyNot_0 rfl ?_
  refine s_getR C fl_X12_22 dX12_whyNot_1 hf (fun v1 hf => ?_)
  refine s_iload_n C dX12_whyNot_4 rfl ?_
  refine s_iaload C dX12_whyNot_5 hf (fun v2 hf => ?_)
  refine s_jn hf (fun j28 e28 hf => ?_)
  have k28 : ∀ (h3 : AH), j28 h3 = some r → WW X h3 0 0 28 [none, none, none, none, none, none, none, none] [] := by
    intro h3 hf
    rw [e28] at hf
    refine s_iconst C dX12_whyNot_28 (v := (1 : Int32)) (by decide) ?_
    exact s_ireturn C E dX12_whyNot_29 hf (Nat.le_of_ble_eq_true rfl) (Nat.le_of_ble_eq_true rfl)
  refine s_if_ge (tgt := 28) C dX12_whyNot_6 (by decide) hf (fun hf => ?_) (fun hf => ?_)
  · refine s_weak (lv' := [none, none, none, none, none, none, none, none]) trivial ?_
    exact k28 _ hf
  · refine s_aload_n C dX12_whyNot_9 rfl ?_
    refine s_iload_n C dX12_whyNot_10 rfl ?_
    refine s_iload_n C dX12_whyNot_11 rfl ?_
    refine s_aload_n C dX12_whyNot_12 rfl ?_
    refine s_getR C fl_X12_16 dX12_whyNot_13 hf (fun v4 hf => ?_)
    refine s_iload_n C dX12_whyNot_16 rfl ?_
    refine s_iaload C dX12_whyNot_17 hf (fun v5 hf => ?_)
    refine s_iload_n C dX12_whyNot_18 rfl ?_
    refine s_callS (rvf := fun x => some (.int x)) (st := [.int a2, .int a1, rB (xD X).1 o]) (fr := 1) (lo := 20) (mc := 0) (ms := 0) C wc_X12_farOf wml_X12_308 wst_X12_farOf dX12_whyNot_19 (As := [.inl v5, .inl a3]) rfl hf (fun x h' hF => c_X12_farOf _ _ _ _ _ (x, h') hF) rfl (Nat.le_of_ble_eq_true rfl) (room_ok hX (Nat.le_of_ble_eq_true rfl) (Nat.le_of_ble_eq_true rfl)) (cell_ok hX (Nat.le_of_ble_eq_true rfl) (Nat.le_of_ble_eq_true rfl)) (fun v7 h6 hf => ?_)
    refine s_callV (rvf := fun x => some (.int x)) (st := []) (fr := 6) (lo := 130) (mc := 0) (ms := 0) C [12] wc_X12_hideBy wml_X12_445 wim_X12_hideBy wsl_12_X12_hideBy dX12_whyNot_22 (As := [.inl a1, .inl a2, .inl v7]) rfl hf (fun x h' hF => c_X12_hideBy _ _ _ _ _ _ _ (x, h') hF) rfl (Nat.le_of_ble_eq_true rfl) (room_ok hX (Nat.le_of_ble_eq_true rfl) (Nat.le_of_ble_eq_true rfl)) (cell_ok hX (Nat.le_of_ble_eq_true rfl) (Nat.le_of_ble_eq_true rfl)) (fun v9 h8 hf => ?_)
    refine s_if_ne (tgt := 30) C dX12_whyNot_25 (by decide) hf (fun hf => ?_) (fun hf => ?_)
    · refine s_aload_n C dX12_whyNot_30 rfl ?_
      refine s_iload_n C dX12_whyNot_31 rfl ?_
      refine s_iload_n C dX12_whyNot_32 rfl ?_
      refine s_iload_n C dX12_whyNot_33 rfl ?_
      refine s_callV (rvf := fun x => some (.int x)) (st := []) (fr := 6) (lo := 130) (mc := 0) (ms := 0) C [12] wc_X12_mayLeave wml_X12_454 wim_X12_mayLeave wsl_12_X12_mayLeave dX12_whyNot_34 (As := [.inl a1, .inl a2, .inl a3]) rfl hf (fun x h' hF => c_X12_mayLeave _ _ _ _ _ _ _ (x, h') hF) rfl (Nat.le_of_ble_eq_true rfl) (room_ok hX (Nat.le_of_ble_eq_true rfl) (Nat.le_of_ble_eq_true rfl)) (cell_ok hX (Nat.le_of_ble_eq_true rfl) (Nat.le_of_ble_eq_true rfl)) (fun v11 h10 hf => ?_)
      refine s_if_ne (tgt := 42) C dX12_whyNot_37 (by decide) hf (fun hf => ?_) (fun hf => ?_)
      · refine s_iconst C dX12_whyNot_42 (v := (0 : Int32)) (by decide) ?_
        refine s_istore C dX12_whyNot_43 (by decide) (nc_i rfl) (lv' := [some (rB (xD X).1 o), some (.int a1), some (.int a2), some (.int a3), some (.int (0 : Int32)), none, none, none]) rfl ?_
        refine s_lp2 hf (fun G45 z45 q45 hf => ?_)
        have k45 : ∀ (n : Nat) (x12 : Int32) (h13 : AH), G45 n x12 h13 = some r → WW X h13 0 0 45 [some (rB (xD X).1 o), some (.int a1), some (.int a2), some (.int a3), some (.int x12), none, none, none] [] := by
          intro n
          induction n with
          | zero =>
            intro x12 h13 hf
            rw [z45] at hf
            cases hf
          | succ n ih45 =>
            intro x12 h13 hf
            have hf := (q45 n x12 h13).symm.trans hf
            refine s_iload C dX12_whyNot_45 rfl ?_
            refine s_aload_n C dX12_whyNot_47 rfl ?_
            refine s_getI C fl_X12_233 dX12_whyNot_48 hf (fun v14 hf => ?_)
            refine s_jn hf (fun j83 e83 hf => ?_)
            have k83 : j83  = some r → WW X h13 0 0 83 [some (rB (xD X).1 o), none, some (.int a2), some (.int a3), none, none, none, none] [] := by
              intro  hf
              rw [e83] at hf
              refine s_iload_n C dX12_whyNot_83 rfl ?_
              refine s_iconst C dX12_whyNot_84 (v := (3 : Int32)) (by decide) ?_
              refine s_jn hf (fun j103 e103 hf => ?_)
              have k103 : ∀ (x15 : Int32), j103 x15 = some r → WW X h13 0 0 103 [some (rB (xD X).1 o), none, none, none, none, none, none, none] [.int x15] := by
                intro x15 hf
                rw [e103] at hf
                refine s_istore C dX12_whyNot_103 (by decide) (nc_n rfl) (lv' := [some (rB (xD X).1 o), none, none, none, some (.int x15), none, none, none]) rfl ?_
                refine s_aload_n C dX12_whyNot_105 rfl ?_
                refine s_callV (rvf := fun x => some (.int x)) (st := []) (fr := 4) (lo := 97) (mc := 0) (ms := 0) C [12] wc_X12_nearNow wml_X12_442 wim_X12_nearNow wsl_12_X12_nearNow dX12_whyNot_106 (As := []) rfl hf (fun x h' hF => c_X12_nearNow _ _ _ _ (x, h') hF) rfl (Nat.le_of_ble_eq_true rfl) (room_ok hX (Nat.le_of_ble_eq_true rfl) (Nat.le_of_ble_eq_true rfl)) (cell_ok hX (Nat.le_of_ble_eq_true rfl) (Nat.le_of_ble_eq_true rfl)) (fun v17 h16 hf => ?_)
                refine s_istore C dX12_whyNot_109 (by decide) (nc_i rfl) (lv' := [some (rB (xD X).1 o), none, none, none, some (.int x15), some (.int v17), none, none]) rfl ?_
                refine s_iconst C dX12_whyNot_111 (v := (0 : Int32)) (by decide) ?_
                refine s_istore C dX12_whyNot_112 (by decide) (nc_i rfl) (lv' := [some (rB (xD X).1 o), none, none, none, some (.int x15), some (.int v17), some (.int (0 : Int32)), none]) rfl ?_
                refine s_lp2 hf (fun G114 z114 q114 hf => ?_)
                have k114 : ∀ (n : Nat) (x18 : Int32) (h19 : AH), G114 n x18 h19 = some r → WW X h19 0 0 114 [some (rB (xD X).1 o), none, none, none, some (.int x15), some (.int v17), some (.int x18), none] [] := by
                  intro n
                  induction n with
                  | zero =>
                    intro x18 h19 hf
                    rw [z114] at hf
                    cases hf
                  | succ n ih114 =>
                    intro x18 h19 hf
                    have hf := (q114 n x18 h19).symm.trans hf
                    refine s_iload C dX12_whyNot_114 rfl ?_
                    refine s_aload_n C dX12_whyNot_116 rfl ?_
                    refine s_getI C fl_X12_214 dX12_whyNot_117 hf (fun v20 hf => ?_)
                    refine s_icmp_ge (tgt := 184) C dX12_whyNot_120 (by decide) hf (fun hf => ?_) (fun hf => ?_)
                    · refine s_iconst C dX12_whyNot_184 (v := (0 : Int32)) (by decide) ?_
                      refine s_istore C dX12_whyNot_185 (by decide) (nc_i rfl) (lv' := [some (rB (xD X).1 o), none, none, none, some (.int x15), some (.int v17), some (.int (0 : Int32)), none]) rfl ?_
                      refine s_lp2 hf (fun G187 z187 q187 hf => ?_)
                      have k187 : ∀ (n : Nat) (x21 : Int32) (h22 : AH), G187 n x21 h22 = some r → WW X h22 0 0 187 [some (rB (xD X).1 o), none, none, none, some (.int x15), some (.int v17), some (.int x21), none] [] := by
                        intro n
                        induction n with
                        | zero =>
                          intro x21 h22 hf
                          rw [z187] at hf
                          cases hf
                        | succ n ih187 =>
                          intro x21 h22 hf
                          have hf := (q187 n x21 h22).symm.trans hf
                          refine s_iload C dX12_whyNot_187 rfl ?_
                          refine s_aload_n C dX12_whyNot_189 rfl ?_
                          refine s_getI C fl_X12_214 dX12_whyNot_190 hf (fun v23 hf => ?_)
                          refine s_icmp_ge (tgt := 272) C dX12_whyNot_193 (by decide) hf (fun hf => ?_) (fun hf => ?_)
                          · refine s_iconst C dX12_whyNot_272 (v := (0 : Int32)) (by decide) ?_
                            exact s_ireturn C E dX12_whyNot_273 hf (Nat.le_of_ble_eq_true rfl) (Nat.le_of_ble_eq_true rfl)
                          · refine s_aload_n C dX12_whyNot_196 rfl ?_
                            refine s_iload C dX12_whyNot_197 rfl ?_
                            refine s_callV (rvf := fun x => some (.int x)) (st := []) (fr := 3) (lo := 64) (mc := 0) (ms := 0) C [12] wc_X12_isOut wml_X12_255 wim_X12_isOut wsl_12_X12_isOut dX12_whyNot_199 (As := [.inl x21]) rfl hf (fun x h' hF => c_X12_isOut _ _ _ _ _ (x, h') hF) rfl (Nat.le_of_ble_eq_true rfl) (room_ok hX (Nat.le_of_ble_eq_true rfl) (Nat.le_of_ble_eq_true rfl)) (cell_ok hX (Nat.le_of_ble_eq_true rfl) (Nat.le_of_ble_eq_true rfl)) (fun v25 h24 hf => ?_)
                            refine s_jn hf (fun j266 e266 hf => ?_)
                            have k266 : ∀ (x26 : Int32) (h27 : AH), j266 x26 h27 = some r → WW X h27 0 0 266 [some (rB (xD X).1 o), none, none, none, some (.int x15), some (.int v17), some (.int x26), none] [] := by
                              intro x26 h27 hf
                              rw [e266] at hf
                              refine s_iinc C dX12_whyNot_266 (v := (x26 + 1)) rfl rfl (by decide) (nc_i rfl) (lv' := [some (rB (xD X).1 o), none, none, none, some (.int x15), some (.int v17), some (.int (x26 + 1)), none]) rfl ?_
                              refine s_goto (tgt := 187) C dX12_whyNot_269 (by decide) ?_
                              exact ih187 _ _ hf
                            refine s_if_eq (tgt := 266) C dX12_whyNot_202 (by decide) hf (fun hf => ?_) (fun hf => ?_)
                            · exact k266 _ _ hf
                            · refine s_aload_n C dX12_whyNot_205 rfl ?_
                              refine s_getR C fl_X12_13 dX12_whyNot_206 hf (fun v28 hf => ?_)
                              refine s_iload C dX12_whyNot_209 rfl ?_
                              refine s_iaload C dX12_whyNot_211 hf (fun v29 hf => ?_)
                              refine s_iconst C dX12_whyNot_212 (v := (3 : Int32)) (by decide) ?_
                              refine s_icmp_eq (tgt := 219) C dX12_whyNot_213 (by decide) hf (fun hf => ?_) (fun hf => ?_)
                              · refine s_iconst C dX12_whyNot_219 (v := (0 : Int32)) (by decide) ?_
                                refine s_istore C dX12_whyNot_220 (by decide) (nc_i rfl) (lv' := [some (rB (xD X).1 o), none, none, none, some (.int x15), some (.int v17), some (.int x21), some (.int (0 : Int32))]) rfl ?_
                                refine s_lp3 hf (fun G222 z222 q222 hf => ?_)
                                have k222 : ∀ (n : Nat) (x30 : Int32) (x31 : Int32) (h32 : AH), G222 n x30 x31 h32 = some r → WW X h32 0 0 222 [some (rB (xD X).1 o), none, none, none, some (.int x15), some (.int v17), some (.int x30), some (.int x31)] [] := by
                                  intro n
                                  induction n with
                                  | zero =>
                                    intro x30 x31 h32 hf
                                    rw [z222] at hf
                                    cases hf
                                  | succ n ih222 =>
                                    intro x30 x31 h32 hf
                                    have hf := (q222 n x30 x31 h32).symm.trans hf
                                    refine s_iload C dX12_whyNot_222 rfl ?_
                                    refine s_iconst C dX12_whyNot_224 (v := (1 : Int32)) (by decide) ?_
                                    refine s_iadd C dX12_whyNot_225 ?_
                                    refine s_aload_n C dX12_whyNot_226 rfl ?_
                                    refine s_getR C fl_X12_28 dX12_whyNot_227 hf (fun v33 hf => ?_)
                                    refine s_iload C dX12_whyNot_230 rfl ?_
                                    refine s_iaload C dX12_whyNot_232 hf (fun v34 hf => ?_)
                                    refine s_icmp_ge (tgt := 266) C dX12_whyNot_233 (by decide) hf (fun hf => ?_) (fun hf => ?_)
                                    · refine s_weak (lv' := [some (rB (xD X).1 o), none, none, none, some (.int x15), some (.int v17), some (.int x30), none]) ⟨rfl, ⟨rfl, ⟨rfl, ⟨rfl, trivial⟩⟩⟩⟩ ?_
                                      exact k266 _ _ hf
                                    · refine s_iload C dX12_whyNot_236 rfl ?_
                                      refine s_aload_n C dX12_whyNot_238 rfl ?_
                                      refine s_getR C fl_X12_31 dX12_whyNot_239 hf (fun v35 hf => ?_)
                                      refine s_iconst C dX12_whyNot_242 (v := (4 : Int32)) (by decide) ?_
                                      refine s_iload C dX12_whyNot_243 rfl ?_
                                      refine s_imul C dX12_whyNot_245 ?_
                                      refine s_iload C dX12_whyNot_246 rfl ?_
                                      refine s_iadd C dX12_whyNot_248 ?_
                                      refine s_iaload C dX12_whyNot_249 hf (fun v36 hf => ?_)
                                      refine s_callS (rvf := fun x => some (.int x)) (st := []) (fr := 1) (lo := 20) (mc := 0) (ms := 0) C wc_X12_farOf wml_X12_308 wst_X12_farOf dX12_whyNot_250 (As := [.inl x15, .inl v36]) rfl hf (fun x h' hF => c_X12_farOf _ _ _ _ _ (x, h') hF) rfl (Nat.le_of_ble_eq_true rfl) (room_ok hX (Nat.le_of_ble_eq_true rfl) (Nat.le_of_ble_eq_true rfl)) (cell_ok hX (Nat.le_of_ble_eq_true rfl) (Nat.le_of_ble_eq_true rfl)) (fun v38 h37 hf => ?_)
                                      refine s_iload C dX12_whyNot_253 rfl ?_
                                      refine s_icmp_ge (tgt := 260) C dX12_whyNot_255 (by decide) hf (fun hf => ?_) (fun hf => ?_)
                                      · refine s_iinc C dX12_whyNot_260 (v := (x31 + 1)) rfl rfl (by decide) (nc_i rfl) (lv' := [some (rB (xD X).1 o), none, none, none, some (.int x15), some (.int v17), some (.int x30), some (.int (x31 + 1))]) rfl ?_
                                        refine s_goto (tgt := 222) C dX12_whyNot_263 (by decide) ?_
                                        exact ih222 _ _ _ hf
                                      · refine s_iconst C dX12_whyNot_258 (v := (4 : Int32)) (by decide) ?_
                                        exact s_ireturn C E dX12_whyNot_259 hf (Nat.le_of_ble_eq_true rfl) (Nat.le_of_ble_eq_true rfl)
                                exact k222 lpN _ _ _ hf
                              · refine s_goto (tgt := 266) C dX12_whyNot_216 (by decide) ?_
                                exact k266 _ _ hf
                      exact k187 lpN _ _ hf
                    · refine s_aload_n C dX12_whyNot_123 rfl ?_
                      refine s_iload C dX12_whyNot_124 rfl ?_
                      refine s_callV (rvf := fun x => some (.int x)) (st := []) (fr := 3) (lo := 64) (mc := 0) (ms := 0) C [12] wc_X12_isOut wml_X12_255 wim_X12_isOut wsl_12_X12_isOut dX12_whyNot_126 (As := [.inl x18]) rfl hf (fun x h' hF => c_X12_isOut _ _ _ _ _ (x, h') hF) rfl (Nat.le_of_ble_eq_true rfl) (room_ok hX (Nat.le_of_ble_eq_true rfl) (Nat.le_of_ble_eq_true rfl)) (cell_ok hX (Nat.le_of_ble_eq_true rfl) (Nat.le_of_ble_eq_true rfl)) (fun v40 h39 hf => ?_)
                      refine s_jn hf (fun j178 e178 hf => ?_)
                      have k178 : ∀ (h41 : AH), j178 h41 = some r → WW X h41 0 0 178 [some (rB (xD X).1 o), none, none, none, some (.int x15), some (.int v17), some (.int x18), none] [] := by
                        intro h41 hf
                        rw [e178] at hf
                        refine s_iinc C dX12_whyNot_178 (v := (x18 + 1)) rfl rfl (by decide) (nc_i rfl) (lv' := [some (rB (xD X).1 o), none, none, none, some (.int x15), some (.int v17), some (.int (x18 + 1)), none]) rfl ?_
                        refine s_goto (tgt := 114) C dX12_whyNot_181 (by decide) ?_
                        exact ih114 _ _ hf
                      refine s_if_eq (tgt := 178) C dX12_whyNot_129 (by decide) hf (fun hf => ?_) (fun hf => ?_)
                      · exact k178 _ hf
                      · refine s_iload C dX12_whyNot_132 rfl ?_
                        refine s_aload_n C dX12_whyNot_134 rfl ?_
                        refine s_iload C dX12_whyNot_135 rfl ?_
                        refine s_callV (rvf := fun x => some (.int x)) (st := [.int x15]) (fr := 1) (lo := 22) (mc := 0) (ms := 0) C [12] wc_X12_liesNow wml_X12_242 wim_X12_liesNow wsl_12_X12_liesNow dX12_whyNot_137 (As := [.inl x18]) rfl hf (fun x h' hF => c_X12_liesNow _ _ _ _ _ (x, h') hF) rfl (Nat.le_of_ble_eq_true rfl) (room_ok hX (Nat.le_of_ble_eq_true rfl) (Nat.le_of_ble_eq_true rfl)) (cell_ok hX (Nat.le_of_ble_eq_true rfl) (Nat.le_of_ble_eq_true rfl)) (fun v43 h42 hf => ?_)
                        refine s_callS (rvf := fun x => some (.int x)) (st := []) (fr := 1) (lo := 20) (mc := 0) (ms := 0) C wc_X12_farOf wml_X12_308 wst_X12_farOf dX12_whyNot_140 (As := [.inl x15, .inl v43]) rfl hf (fun x h' hF => c_X12_farOf _ _ _ _ _ (x, h') hF) rfl (Nat.le_of_ble_eq_true rfl) (room_ok hX (Nat.le_of_ble_eq_true rfl) (Nat.le_of_ble_eq_true rfl)) (cell_ok hX (Nat.le_of_ble_eq_true rfl) (Nat.le_of_ble_eq_true rfl)) (fun v45 h44 hf => ?_)
                        refine s_iload C dX12_whyNot_143 rfl ?_
                        refine s_jn hf (fun j176 e176 hf => ?_)
                        have k176 : ∀ (h46 : AH), j176 h46 = some r → WW X h46 0 0 176 [none, none, none, none, none, none, none, none] [] := by
                          intro h46 hf
                          rw [e176] at hf
                          refine s_iconst C dX12_whyNot_176 (v := (3 : Int32)) (by decide) ?_
                          exact s_ireturn C E dX12_whyNot_177 hf (Nat.le_of_ble_eq_true rfl) (Nat.le_of_ble_eq_true rfl)
                        refine s_icmp_lt (tgt := 176) C dX12_whyNot_145 (by decide) hf (fun hf => ?_) (fun hf => ?_)
                        · refine s_weak (lv' := [none, none, none, none, none, none, none, none]) trivial ?_
                          exact k176 _ hf
                        · refine s_aload_n C dX12_whyNot_148 rfl ?_
                          refine s_getR C fl_X12_13 dX12_whyNot_149 hf (fun v47 hf => ?_)
                          refine s_iload C dX12_whyNot_152 rfl ?_
                          refine s_iaload C dX12_whyNot_154 hf (fun v48 hf => ?_)
                          refine s_iconst C dX12_whyNot_155 (v := (3 : Int32)) (by decide) ?_
                          refine s_icmp_ne (tgt := 178) C dX12_whyNot_156 (by decide) hf (fun hf => ?_) (fun hf => ?_)
                          · exact k178 _ hf
                          · refine s_iload C dX12_whyNot_159 rfl ?_
                            refine s_aload_n C dX12_whyNot_161 rfl ?_
                            refine s_getR C fl_X12_16 dX12_whyNot_162 hf (fun v49 hf => ?_)
                            refine s_iload C dX12_whyNot_165 rfl ?_
                            refine s_iaload C dX12_whyNot_167 hf (fun v50 hf => ?_)
                            refine s_callS (rvf := fun x => some (.int x)) (st := []) (fr := 1) (lo := 20) (mc := 0) (ms := 0) C wc_X12_farOf wml_X12_308 wst_X12_farOf dX12_whyNot_168 (As := [.inl x15, .inl v50]) rfl hf (fun x h' hF => c_X12_farOf _ _ _ _ _ (x, h') hF) rfl (Nat.le_of_ble_eq_true rfl) (room_ok hX (Nat.le_of_ble_eq_true rfl) (Nat.le_of_ble_eq_true rfl)) (cell_ok hX (Nat.le_of_ble_eq_true rfl) (Nat.le_of_ble_eq_true rfl)) (fun v52 h51 hf => ?_)
                            refine s_iload C dX12_whyNot_171 rfl ?_
                            refine s_icmp_ge (tgt := 178) C dX12_whyNot_173 (by decide) hf (fun hf => ?_) (fun hf => ?_)
                            · exact k178 _ hf
                            · refine s_weak (lv' := [none, none, none, none, none, none, none, none]) trivial ?_
                              exact k176 _ hf
                exact k114 lpN _ _ hf
              refine s_icmp_ne (tgt := 102) C dX12_whyNot_85 (by decide) hf (fun hf => ?_) (fun hf => ?_)
              · refine s_iload_n C dX12_whyNot_102 rfl ?_
                refine s_weak (lv' := [some (rB (xD X).1 o), none, none, none, none, none, none, none]) ⟨rfl, trivial⟩ ?_
                exact k103 _ hf
              · refine s_aload_n C dX12_whyNot_88 rfl ?_
                refine s_getR C fl_X12_34 dX12_whyNot_89 hf (fun v53 hf => ?_)
                refine s_aload_n C dX12_whyNot_92 rfl ?_
                refine s_getI C fl_X12_233 dX12_whyNot_93 hf (fun v54 hf => ?_)
                refine s_iconst C dX12_whyNot_96 (v := (1 : Int32)) (by decide) ?_
                refine s_isub C dX12_whyNot_97 ?_
                refine s_iaload C dX12_whyNot_98 hf (fun v55 hf => ?_)
                refine s_goto (tgt := 103) C dX12_whyNot_99 (by decide) ?_
                refine s_weak (lv' := [some (rB (xD X).1 o), none, none, none, none, none, none, none]) ⟨rfl, trivial⟩ ?_
                exact k103 _ hf
            refine s_icmp_ge (tgt := 83) C dX12_whyNot_51 (by decide) hf (fun hf => ?_) (fun hf => ?_)
            · refine s_weak (lv' := [some (rB (xD X).1 o), none, some (.int a2), some (.int a3), none, none, none, none]) ⟨rfl, ⟨rfl, ⟨rfl, trivial⟩⟩⟩ ?_
              exact k83 hf
            · refine s_iload_n C dX12_whyNot_54 rfl ?_
              refine s_iconst C dX12_whyNot_55 (v := (3 : Int32)) (by decide) ?_
              refine s_icmp_ne (tgt := 83) C dX12_whyNot_56 (by decide) hf (fun hf => ?_) (fun hf => ?_)
              · refine s_weak (lv' := [some (rB (xD X).1 o), none, some (.int a2), some (.int a3), none, none, none, none]) ⟨rfl, ⟨rfl, ⟨rfl, trivial⟩⟩⟩ ?_
                exact k83 hf
              · refine s_aload_n C dX12_whyNot_59 rfl ?_
                refine s_iload_n C dX12_whyNot_60 rfl ?_
                refine s_iload_n C dX12_whyNot_61 rfl ?_
                refine s_aload_n C dX12_whyNot_62 rfl ?_
                refine s_getR C fl_X12_34 dX12_whyNot_63 hf (fun v56 hf => ?_)
                refine s_iload C dX12_whyNot_66 rfl ?_
                refine s_iaload C dX12_whyNot_68 hf (fun v57 hf => ?_)
                refine s_callV (rvf := fun x => some (.int x)) (st := []) (fr := 6) (lo := 130) (mc := 0) (ms := 0) C [12] wc_X12_mayLeave wml_X12_454 wim_X12_mayLeave wsl_12_X12_mayLeave dX12_whyNot_69 (As := [.inl a1, .inl a2, .inl v57]) rfl hf (fun x h' hF => c_X12_mayLeave _ _ _ _ _ _ _ (x, h') hF) rfl (Nat.le_of_ble_eq_true rfl) (room_ok hX (Nat.le_of_ble_eq_true rfl) (Nat.le_of_ble_eq_true rfl)) (cell_ok hX (Nat.le_of_ble_eq_true rfl) (Nat.le_of_ble_eq_true rfl)) (fun v59 h58 hf => ?_)
                refine s_if_ne (tgt := 77) C dX12_whyNot_72 (by decide) hf (fun hf => ?_) (fun hf => ?_)
                · refine s_iinc C dX12_whyNot_77 (v := (x12 + 1)) rfl rfl (by decide) (nc_i rfl) (lv' := [some (rB (xD X).1 o), some (.int a1), some (.int a2), some (.int a3), some (.int (x12 + 1)), none, none, none]) rfl ?_
                  refine s_goto (tgt := 45) C dX12_whyNot_80 (by decide) ?_
                  exact ih45 _ _ hf
                · refine s_iconst C dX12_whyNot_75 (v := (2 : Int32)) (by decide) ?_
                  exact s_ireturn C E dX12_whyNot_76 hf (Nat.le_of_ble_eq_true rfl) (Nat.le_of_ble_eq_true rfl)
        exact k45 lpN _ _ hf
      · refine s_iconst C dX12_whyNot_40 (v := (2 : Int32)) (by decide) ?_
        exact s_ireturn C E dX12_whyNot_41 hf (Nat.le_of_ble_eq_true rfl) (Nat.le_of_ble_eq_true rfl)
    · refine s_weak (lv' := [none, none, none, none, none, none, none, none]) trivial ?_
      exact k28 _ hf
