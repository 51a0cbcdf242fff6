/-- HillBoxes.takerOf(LHillBoxes$Box;)I -/
noncomputable def f_X11_takerOf (o : Option Nat) (a1 : Option Nat) (h : AH) : Option (Int32 × AH) :=
  lp (fun _ _ _ _ => none) (fun (L8 : Int32 → Int32 → Int32 → AH → Option (Int32 × AH)) (x1 : Int32) (x2 : Int32) (x3 : Int32) (h4 : AH) =>
    fI h4 [1] a1 17 fun v5 =>
    if v5 ≤ x3 then
      some (x1, h4)
    else
      fR h4 [11] o 0 fun v6 =>
      fR h4 [1] a1 6 fun v7 =>
      aI h4 20 v7 x3 fun v8 =>
      rO h4 [3] v6 <| cl (f_X3_finderAt v6 v8 h4) fun v10 h9 =>
      jn (fun (x11 : Int32) (x12 : Int32) (h13 : AH) =>
        L8 x11 x12 (x3 + 1) h13) fun j114 =>
      if v10 = none then
        j114 x1 x2 h9
      else
        rO h9 [2] v10 <| cl (f_X2_hasLeft v10 h9) fun v15 h14 =>
        if v15 = 0 then
          fR h14 [11] o 1 fun v16 =>
          fI h14 [1] a1 1 fun v17 =>
          rO h14 [1] a1 <| cl (f_X1_liesNow a1 h14) fun v19 h18 =>
          rO h18 [6] v16 <| cl (f_X6_letsHide v16 v10 v17 v19 h18) fun v21 h20 =>
          if v21 = 0 then
            j114 x1 x2 h20
          else
            fI h20 [2] v10 2 fun v22 =>
            rO h20 [1] a1 <| cl (f_X1_liesNow a1 h20) fun v24 h23 =>
            cl (f_X11_far v22 v24 h23) fun v26 h25 =>
            jn (
              fI h25 [2] v10 0 fun v27 =>
              j114 v27 v26 h25) fun j105 =>
            if x1 < 0 then
              j105
            else
              if v26 < x2 then
                j105
              else
                if v26 = x2 then
                  fI h25 [2] v10 0 fun v28 =>
                  if x1 ≤ v28 then
                    j114 x1 x2 h25
                  else
                    j105
                else
                  j114 x1 x2 h25
        else
          j114 x1 x2 h14) lpN (-2 : Int32) (0 : Int32) (0 : Int32) h
set_option maxRecDepth 100000 in
set_option maxHeartbeats 4000000 in
theorem c_X11_takerOf (l : Launch) (D : DT) (o : Option Nat) (a1 : Option Nat) (h : AH) (r : Int32 × AH) (hf : f_X11_takerOf o a1 h = some r) : CM l D yX11_takerOf cX11_takerOf 7 (some .int) 6 144 0 0 [.inr (.inr o), .inr (.inr a1)] h (some (.int r.1)) r.2 := by
  refine CM.of (by decide) (Nat.le_of_ble_eq_true rfl) (fun X hl C hD hX hnm E => ?_)
  subst hl
  subst hD
  have C : CX X RX11 cX11_takerOf 7 := C
  show WW X h 0 0 0 [some (rB (xD X).1 o), some (rB (xD X).1 a1), none, none, none, none, none] []
  unfold f_X11_takerOf at hf
  refine s_bipush C dX11_takerOf_0 (v := (-2 : Int32)) (by decide) ?_
  refine s_istore_n C dX11_takerOf_2 (by decide) (nc_r rfl) (lv' := [some (rB (xD X).1 o), some (rB (xD X).1 a1), some (.int (-2 : Int32)), none, none, none, none]) rfl ?_
  refine s_iconst C dX11_takerOf_3 (v := (0 : Int32)) (by decide) ?_
  refine s_istore_n C dX11_takerOf_4 (by decide) (nc_i rfl) (lv' := [some (rB (xD X).1 o), some (rB (xD X).1 a1), some (.int (-2 : Int32)), some (.int (0 : Int32)), none, none, none]) rfl ?_
  refine s_iconst C dX11_takerOf_5 (v := (0 : Int32)) (by decide) ?_
  refine s_istore C dX11_takerOf_6 (by decide) (nc_i rfl) (lv' := [some (rB (xD X).1 o), some (rB (xD X).1 a1), some (.int (-2 : Int32)), some (.int (0 : Int32)), some (.int (0 : Int32)), none, none]) rfl ?_
  refine s_lp4 hf (fun G8 z8 q8 hf => ?_)
  have k8 : ∀ (n : Nat) (x1 : Int32) (x2 : Int32) (x3 : Int32) (h4 : AH), G8 n x1 x2 x3 h4 = some r → WW X h4 0 0 8 [some (rB (xD X).1 o), some (rB (xD X).1 a1), some (.int x1), some (.int x2), some (.int x3), none, none] [] := by
    intro n
    induction n with
    | zero =>
      intro x1 x2 x3 h4 hf
      rw [z8] at hf
      cases hf
    | succ n ih8 =>
      intro x1 x2 x3 h4 hf
      have hf := (q8 n x1 x2 x3 h4).symm.trans hf
      refine s_iload C dX11_takerOf_8 rfl ?_
      refine s_aload_n C dX11_takerOf_10 rfl ?_
      refine s_getI C fl_X11_363 dX11_takerOf_11 hf (fun v5 hf => ?_)
      refine s_icmp_ge (tgt := 120) C dX11_takerOf_14 (by decide) hf (fun hf => ?_) (fun hf => ?_)
      · refine s_iload_n C dX11_takerOf_120 rfl ?_
        exact s_ireturn C E dX11_takerOf_121 hf (Nat.le_of_ble_eq_true rfl) (Nat.le_of_ble_eq_true rfl)
      · refine s_aload_n C dX11_takerOf_17 rfl ?_
        refine s_getR C fl_X11_10 dX11_takerOf_18 hf (fun v6 hf => ?_)
        refine s_aload_n C dX11_takerOf_21 rfl ?_
        refine s_getR C fl_X11_366 dX11_takerOf_22 hf (fun v7 hf => ?_)
        refine s_iload C dX11_takerOf_25 rfl ?_
        refine s_iaload C dX11_takerOf_27 hf (fun v8 hf => ?_)
        refine s_callV (rvf := fun x => some (rB (xD X).1 x)) (st := []) (fr := 0) (lo := 0) (mc := 0) (ms := 0) C [3] wc_X3_finderAt wml_X11_90 wim_X3_finderAt wsl_3_X3_finderAt dX11_takerOf_28 (As := [.inl v8]) rfl hf (fun x h' hF => c_X3_finderAt _ _ _ _ _ (x, h') hF) rfl (Nat.le_of_ble_eq_true rfl) (room_ok hX (Nat.le_of_ble_eq_true rfl) (Nat.le_of_ble_eq_true rfl)) (cell_ok hX (Nat.le_of_ble_eq_true rfl) (Nat.le_of_ble_eq_true rfl)) (fun v10 h9 hf => ?_)
        refine s_astore C dX11_takerOf_31 (by decide) (nc_i rfl) (lv' := [some (rB (xD X).1 o), some (rB (xD X).1 a1), some (.int x1), some (.int x2), some (.int x3), some (rB (xD X).1 v10), none]) rfl ?_
        refine s_aload C dX11_takerOf_33 rfl ?_
        refine s_jn hf (fun j114 e114 hf => ?_)
        have k114 : ∀ (x11 : Int32) (x12 : Int32) (h13 : AH), j114 x11 x12 h13 = some r → WW X h13 0 0 114 [some (rB (xD X).1 o), some (rB (xD X).1 a1), some (.int x11), some (.int x12), some (.int x3), none, none] [] := by
          intro x11 x12 h13 hf
          rw [e114] at hf
          refine s_iinc C dX11_takerOf_114 (v := (x3 + 1)) rfl rfl (by decide) (nc_i rfl) (lv' := [some (rB (xD X).1 o), some (rB (xD X).1 a1), some (.int x11), some (.int x12), some (.int (x3 + 1)), none, none]) rfl ?_
          refine s_goto (tgt := 8) C dX11_takerOf_117 (by decide) ?_
          exact ih8 _ _ _ _ hf
        refine s_ifnull (tgt := 114) C dX11_takerOf_35 (by decide) hf (fun hf => ?_) (fun hf => ?_)
        · refine s_weak (lv' := [some (rB (xD X).1 o), some (rB (xD X).1 a1), some (.int x1), some (.int x2), some (.int x3), none, none]) ⟨rfl, ⟨rfl, ⟨rfl, ⟨rfl, ⟨rfl, trivial⟩⟩⟩⟩⟩ ?_
          exact k114 _ _ _ hf
        · refine s_aload C dX11_takerOf_38 rfl ?_
          refine s_callV (rvf := fun x => some (.int x)) (st := []) (fr := 0) (lo := 0) (mc := 0) (ms := 0) C [2] wc_X2_hasLeft wml_X11_94 wim_X2_hasLeft wsl_2_X2_hasLeft dX11_takerOf_40 (As := []) rfl hf (fun x h' hF => c_X2_hasLeft _ _ _ _ (x, h') hF) rfl (Nat.le_of_ble_eq_true rfl) (room_ok hX (Nat.le_of_ble_eq_true rfl) (Nat.le_of_ble_eq_true rfl)) (cell_ok hX (Nat.le_of_ble_eq_true rfl) (Nat.le_of_ble_eq_true rfl)) (fun v15 h14 hf => ?_)
          refine s_if_ne (tgt := 114) C dX11_takerOf_43 (by decide) hf (fun hf => ?_) (fun hf => ?_)
          · refine s_weak (lv' := [some (rB (xD X).1 o), some (rB (xD X).1 a1), some (.int x1), some (.int x2), some (.int x3), none, none]) ⟨rfl, ⟨rfl, ⟨rfl, ⟨rfl, ⟨rfl, trivial⟩⟩⟩⟩⟩ ?_
            exact k114 _ _ _ hf
          · refine s_aload_n C dX11_takerOf_46 rfl ?_
            refine s_getR C fl_X11_21 dX11_takerOf_47 hf (fun v16 hf => ?_)
            refine s_aload C dX11_takerOf_50 rfl ?_
            refine s_aload_n C dX11_takerOf_52 rfl ?_
            refine s_getI C fl_X11_134 dX11_takerOf_53 hf (fun v17 hf => ?_)
            refine s_aload_n C dX11_takerOf_56 rfl ?_
            refine s_callV (rvf := fun x => some (.int x)) (st := [.int v17, rB (xD X).1 v10, rB (xD X).1 v16]) (fr := 0) (lo := 0) (mc := 0) (ms := 0) C [1] wc_X1_liesNow wml_X11_508 wim_X1_liesNow wsl_1_X1_liesNow dX11_takerOf_57 (As := []) rfl hf (fun x h' hF => c_X1_liesNow _ _ _ _ (x, h') hF) rfl (Nat.le_of_ble_eq_true rfl) (room_ok hX (Nat.le_of_ble_eq_true rfl) (Nat.le_of_ble_eq_true rfl)) (cell_ok hX (Nat.le_of_ble_eq_true rfl) (Nat.le_of_ble_eq_true rfl)) (fun v19 h18 hf => ?_)
            refine s_callV (rvf := fun x => some (.int x)) (st := []) (fr := 5) (lo := 121) (mc := 0) (ms := 0) C [6] wc_X6_letsHide wml_X11_521 wim_X6_letsHide wsl_6_X6_letsHide dX11_takerOf_60 (As := [.inr (.inr v10), .inl v17, .inl v19]) rfl hf (fun x h' hF => c_X6_letsHide _ _ _ _ _ _ _ (x, h') hF) rfl (Nat.le_of_ble_eq_true rfl) (room_ok hX (Nat.le_of_ble_eq_true rfl) (Nat.le_of_ble_eq_true rfl)) (cell_ok hX (Nat.le_of_ble_eq_true rfl) (Nat.le_of_ble_eq_true rfl)) (fun v21 h20 hf => ?_)
            refine s_if_eq (tgt := 114) C dX11_takerOf_63 (by decide) hf (fun hf => ?_) (fun hf => ?_)
            · refine s_weak (lv' := [some (rB (xD X).1 o), some (rB (xD X).1 a1), some (.int x1), some (.int x2), some (.int x3), none, none]) ⟨rfl, ⟨rfl, ⟨rfl, ⟨rfl, ⟨rfl, trivial⟩⟩⟩⟩⟩ ?_
              exact k114 _ _ _ hf
            · refine s_aload C dX11_takerOf_66 rfl ?_
              refine s_getI C fl_X11_496 dX11_takerOf_68 hf (fun v22 hf => ?_)
              refine s_aload_n C dX11_takerOf_71 rfl ?_
              refine s_callV (rvf := fun x => some (.int x)) (st := [.int v22]) (fr := 0) (lo := 0) (mc := 0) (ms := 0) C [1] wc_X1_liesNow wml_X11_508 wim_X1_liesNow wsl_1_X1_liesNow dX11_takerOf_72 (As := []) rfl hf (fun x h' hF => c_X1_liesNow _ _ _ _ (x, h') hF) rfl (Nat.le_of_ble_eq_true rfl) (room_ok hX (Nat.le_of_ble_eq_true rfl) (Nat.le_of_ble_eq_true rfl)) (cell_ok hX (Nat.le_of_ble_eq_true rfl) (Nat.le_of_ble_eq_true rfl)) (fun v24 h23 hf => ?_)
              refine s_callS (rvf := fun x => some (.int x)) (st := []) (fr := 1) (lo := 21) (mc := 0) (ms := 0) C wc_X11_far wml_X11_231 wst_X11_far dX11_takerOf_75 (As := [.inl v22, .inl v24]) rfl hf (fun x h' hF => c_X11_far _ _ _ _ _ (x, h') hF) rfl (Nat.le_of_ble_eq_true rfl) (room_ok hX (Nat.le_of_ble_eq_true rfl) (Nat.le_of_ble_eq_true rfl)) (cell_ok hX (Nat.le_of_ble_eq_true rfl) (Nat.le_of_ble_eq_true rfl)) (fun v26 h25 hf => ?_)
              refine s_istore C dX11_takerOf_78 (by decide) (nc_r rfl) (lv' := [some (rB (xD X).1 o), some (rB (xD X).1 a1), some (.int x1), some (.int x2), some (.int x3), some (rB (xD X).1 v10), some (.int v26)]) rfl ?_
              refine s_iload_n C dX11_takerOf_80 rfl ?_
              refine s_jn hf (fun j105 e105 hf => ?_)
              have k105 : j105  = some r → WW X h25 0 0 105 [some (rB (xD X).1 o), some (rB (xD X).1 a1), none, none, some (.int x3), some (rB (xD X).1 v10), some (.int v26)] [] := by
                intro  hf
                rw [e105] at hf
                refine s_aload C dX11_takerOf_105 rfl ?_
                refine s_getI C fl_X11_120 dX11_takerOf_107 hf (fun v27 hf => ?_)
                refine s_istore_n C dX11_takerOf_110 (by decide) (nc_r rfl) (lv' := [some (rB (xD X).1 o), some (rB (xD X).1 a1), some (.int v27), none, some (.int x3), some (rB (xD X).1 v10), some (.int v26)]) rfl ?_
                refine s_iload C dX11_takerOf_111 rfl ?_
                refine s_istore_n C dX11_takerOf_113 (by decide) (nc_i rfl) (lv' := [some (rB (xD X).1 o), some (rB (xD X).1 a1), some (.int v27), some (.int v26), some (.int x3), some (rB (xD X).1 v10), some (.int v26)]) rfl ?_
                refine s_weak (lv' := [some (rB (xD X).1 o), some (rB (xD X).1 a1), some (.int v27), some (.int v26), some (.int x3), none, none]) ⟨rfl, ⟨rfl, ⟨rfl, ⟨rfl, ⟨rfl, trivial⟩⟩⟩⟩⟩ ?_
                exact k114 _ _ _ hf
              refine s_if_lt (tgt := 105) C dX11_takerOf_81 (by decide) hf (fun hf => ?_) (fun hf => ?_)
              · refine s_weak (lv' := [some (rB (xD X).1 o), some (rB (xD X).1 a1), none, none, some (.int x3), some (rB (xD X).1 v10), some (.int v26)]) ⟨rfl, ⟨rfl, ⟨rfl, ⟨rfl, ⟨rfl, trivial⟩⟩⟩⟩⟩ ?_
                exact k105 hf
              · refine s_iload C dX11_takerOf_84 rfl ?_
                refine s_iload_n C dX11_takerOf_86 rfl ?_
                refine s_icmp_lt (tgt := 105) C dX11_takerOf_87 (by decide) hf (fun hf => ?_) (fun hf => ?_)
                · refine s_weak (lv' := [some (rB (xD X).1 o), some (rB (xD X).1 a1), none, none, some (.int x3), some (rB (xD X).1 v10), some (.int v26)]) ⟨rfl, ⟨rfl, ⟨rfl, ⟨rfl, ⟨rfl, trivial⟩⟩⟩⟩⟩ ?_
                  exact k105 hf
                · refine s_iload C dX11_takerOf_90 rfl ?_
                  refine s_iload_n C dX11_takerOf_92 rfl ?_
                  refine s_icmp_ne (tgt := 114) C dX11_takerOf_93 (by decide) hf (fun hf => ?_) (fun hf => ?_)
                  · refine s_weak (lv' := [some (rB (xD X).1 o), some (rB (xD X).1 a1), some (.int x1), some (.int x2), some (.int x3), none, none]) ⟨rfl, ⟨rfl, ⟨rfl, ⟨rfl, ⟨rfl, trivial⟩⟩⟩⟩⟩ ?_
                    exact k114 _ _ _ hf
                  · refine s_aload C dX11_takerOf_96 rfl ?_
                    refine s_getI C fl_X11_120 dX11_takerOf_98 hf (fun v28 hf => ?_)
                    refine s_iload_n C dX11_takerOf_101 rfl ?_
                    refine s_icmp_ge (tgt := 114) C dX11_takerOf_102 (by decide) hf (fun hf => ?_) (fun hf => ?_)
                    · refine s_weak (lv' := [some (rB (xD X).1 o), some (rB (xD X).1 a1), some (.int x1), some (.int x2), some (.int x3), none, none]) ⟨rfl, ⟨rfl, ⟨rfl, ⟨rfl, ⟨rfl, trivial⟩⟩⟩⟩⟩ ?_
                      exact k114 _ _ _ hf
                    · refine s_weak (lv' := [some (rB (xD X).1 o), some (rB (xD X).1 a1), none, none, some (.int x3), some (rB (xD X).1 v10), some (.int v26)]) ⟨rfl, ⟨rfl, ⟨rfl, ⟨rfl, ⟨rfl, trivial⟩⟩⟩⟩⟩ ?_
                      exact k105 hf
  exact k8 lpN _ _ _ _ hf
/-- HillBoxes.take(I)I -/
noncomputable def f_X11_take (o : Option Nat) (a1 : Int32) (h : AH) : Option (Int32 × AH) :=
  fR h [11] o 0 fun v1 =>
  rO h [3] v1 <| cl (f_X3_boxAt v1 a1 h) fun v3 h2 =>
  if v3 = none then
    some ((-1 : Int32), h2)
  else
    rO h2 [11] o <| cl (f_X11_takerOf o v3 h2) fun v5 h4 =>
    jn (fun (h6 : AH) =>
      some (v5, h6)) fun j35 =>
    if v5 < 0 then
      j35 h4
    else
      pI h4 [1] v3 8 v5 fun h7 =>
      pI h7 [1] v3 17 (0 : Int32) fun h8 =>
      j35 h8
set_option maxRecDepth 100000 in
set_option maxHeartbeats 4000000 in
theorem c_X11_take (l : Launch) (D : DT) (o : Option Nat) (a1 : Int32) (h : AH) (r : Int32 × AH) (hf : f_X11_take o a1 h = some r) : CM l D yX11_take cX11_take 4 (some .int) 7 170 0 0 [.inr (.inr o), .inl a1] h (some (.int r.1)) r.2 := by
  refine CM.of (by decide) (Nat.le_of_ble_eq_true rfl) (fun X hl C hD hX hnm E => ?_)
  subst hl
  subst hD
  have C : CX X RX11 cX11_take 4 := C
  show WW X h 0 0 0 [some (rB (xD X).1 o), some (.int a1), none, none] []
  unfold f_X11_take at hf
  refine s_aload_n C dX11_take_0 rfl ?_
  refine s_getR C fl_X11_10 dX11_take_1 hf (fun v1 hf => ?_)
  refine s_iload_n C dX11_take_4 rfl ?_
  refine s_callV (rvf := fun x => some (rB (xD X).1 x)) (st := []) (fr := 0) (lo := 0) (mc := 0) (ms := 0) C [3] wc_X3_boxAt wml_X11_130 wim_X3_boxAt wsl_3_X3_boxAt dX11_take_5 (As := [.inl a1]) rfl hf (fun x h' hF => c_X3_boxAt _ _ _ _ _ (x, h') hF) rfl (Nat.le_of_ble_eq_true rfl) (room_ok hX (Nat.le_of_ble_eq_true rfl) (Nat.le_of_ble_eq_true rfl)) (cell_ok hX (Nat.le_of_ble_eq_true rfl) (Nat.le_of_ble_eq_true rfl)) (fun v3 h2 hf => ?_)
  refine s_astore_n C dX11_take_8 (by decide) (nc_i rfl) (lv' := [some (rB (xD X).1 o), some (.int a1), some (rB (xD X).1 v3), none]) rfl ?_
  refine s_aload_n C dX11_take_9 rfl ?_
  refine s_ifnonnull (tgt := 15) C dX11_take_10 (by decide) hf (fun hf => ?_) (fun hf => ?_)
  · refine s_aload_n C dX11_take_15 rfl ?_
    refine s_aload_n C dX11_take_16 rfl ?_
    refine s_callV (rvf := fun x => some (.int x)) (st := []) (fr := 6) (lo := 144) (mc := 0) (ms := 0) C [11] wc_X11_takerOf wml_X11_369 wim_X11_takerOf wsl_11_X11_takerOf dX11_take_17 (As := [.inr (.inr v3)]) rfl hf (fun x h' hF => c_X11_takerOf _ _ _ _ _ (x, h') hF) rfl (Nat.le_of_ble_eq_true rfl) (room_ok hX (Nat.le_of_ble_eq_true rfl) (Nat.le_of_ble_eq_true rfl)) (cell_ok hX (Nat.le_of_ble_eq_true rfl) (Nat.le_of_ble_eq_true rfl)) (fun v5 h4 hf => ?_)
    refine s_istore_n C dX11_take_20 (by decide) (nc_r rfl) (lv' := [some (rB (xD X).1 o), some (.int a1), some (rB (xD X).1 v3), some (.int v5)]) rfl ?_
    refine s_iload_n C dX11_take_21 rfl ?_
    refine s_jn hf (fun j35 e35 hf => ?_)
    have k35 : ∀ (h6 : AH), j35 h6 = some r → WW X h6 0 0 35 [none, none, none, some (.int v5)] [] := by
      intro h6 hf
      rw [e35] at hf
      refine s_iload_n C dX11_take_35 rfl ?_
      exact s_ireturn C E dX11_take_36 hf (Nat.le_of_ble_eq_true rfl) (Nat.le_of_ble_eq_true rfl)
    refine s_if_lt (tgt := 35) C dX11_take_22 (by decide) hf (fun hf => ?_) (fun hf => ?_)
    · refine s_weak (lv' := [none, none, none, some (.int v5)]) ⟨rfl, trivial⟩ ?_
      exact k35 _ hf
    · refine s_aload_n C dX11_take_25 rfl ?_
      refine s_iload_n C dX11_take_26 rfl ?_
      refine s_putI C fl_X11_274 (by decide) dX11_take_27 hf (fun h7 hf => ?_)
      refine s_aload_n C dX11_take_30 rfl ?_
      refine s_iconst C dX11_take_31 (v := (0 : Int32)) (by decide) ?_
      refine s_putI C fl_X11_363 (by decide) dX11_take_32 hf (fun h8 hf => ?_)
      refine s_weak (lv' := [none, none, none, some (.int v5)]) ⟨rfl, trivial⟩ ?_
      exact k35 _ hf
  · refine s_iconst C dX11_take_13 (v := (-1 : Int32)) (by decide) ?_
    exact s_ireturn C E dX11_take_14 hf (Nat.le_of_ble_eq_true rfl) (Nat.le_of_ble_eq_true rfl)
/-- HillBoxes$Body.isUnder(I)Z -/
noncomputable def f_X0_isUnder (o : Option Nat) (a1 : Int32) (h : AH) : Option (Int32 × AH) :=
  fI h [0, 1, 2, 9] o 1 fun v1 =>
  lp (fun _ _ => none) (fun (L7 : Int32 → Int32 → Option (Int32 × AH)) (x2 : Int32) (x3 : Int32) =>
    jn (
      rz (0 : Int32) h) fun j42 =>
    if (8 : Int32) ≤ x3 then
      j42
    else
      if x2 < 0 then
        j42
      else
        if (8 : Int32) ≤ x2 then
          j42
        else
          if x2 = a1 then
            rz (1 : Int32) h
          else
            tbI tbKA x2 fun v4 =>
            L7 v4 (x3 + 1)) lpN v1 (0 : Int32)
set_option maxRecDepth 100000 in
set_option maxHeartbeats 4000000 in
theorem c_X0_isUnder (l : Launch) (D : DT) (o : Option Nat) (a1 : Int32) (h : AH) (r : Int32 × AH) (hf : f_X0_isUnder o a1 h = some r) : CM l D yX0_isUnder cX0_isUnder 4 (some .boolean) 0 0 0 0 [.inr (.inr o), .inl a1] h (some (.int r.1)) r.2 := by
  refine CM.of (by decide) (Nat.le_of_ble_eq_true rfl) (fun X hl C hD hX hnm E => ?_)
  subst hl
  subst hD
  have C : CX X RX0 cX0_isUnder 4 := C
  show WW X h 0 0 0 [some (rB (xD X).1 o), some (.int a1), none, none] []
  unfold f_X0_isUnder at hf
  refine s_aload_n C dX0_isUnder_0 rfl ?_
  refine s_getI C fl_X0_15 dX0_isUnder_1 hf (fun v1 hf => ?_)
  refine s_istore_n C dX0_isUnder_4 (by decide) (nc_i rfl) (lv' := [some (rB (xD X).1 o), some (.int a1), some (.int v1), none]) rfl ?_
  refine s_iconst C dX0_isUnder_5 (v := (0 : Int32)) (by decide) ?_
  refine s_istore_n C dX0_isUnder_6 (by decide) (nc_i rfl) (lv' := [some (rB (xD X).1 o), some (.int a1), some (.int v1), some (.int (0 : Int32))]) rfl ?_
  refine s_lp2 hf (fun G7 z7 q7 hf => ?_)
  have k7 : ∀ (n : Nat) (x2 : Int32) (x3 : Int32), G7 n x2 x3 = some r → WW X h 0 0 7 [none, some (.int a1), some (.int x2), some (.int x3)] [] := by
    intro n
    induction n with
    | zero =>
      intro x2 x3 hf
      rw [z7] at hf
      cases hf
    | succ n ih7 =>
      intro x2 x3 hf
      have hf := (q7 n x2 x3).symm.trans hf
      refine s_iload_n C dX0_isUnder_7 rfl ?_
      refine s_bipush C dX0_isUnder_8 (v := (8 : Int32)) (by decide) ?_
      refine s_jn hf (fun j42 e42 hf => ?_)
      have k42 : j42  = some r → WW X h 0 0 42 [none, none, none, none] [] := by
        intro  hf
        rw [e42] at hf
        refine s_iconst C dX0_isUnder_42 (v := (0 : Int32)) (by decide) ?_
        exact s_zreturn C E dX0_isUnder_43 hf (Nat.le_of_ble_eq_true rfl) (Nat.le_of_ble_eq_true rfl)
      refine s_icmp_ge (tgt := 42) C dX0_isUnder_10 (by decide) hf (fun hf => ?_) (fun hf => ?_)
      · refine s_weak (lv' := [none, none, none, none]) trivial ?_
        exact k42 hf
      · refine s_iload_n C dX0_isUnder_13 rfl ?_
        refine s_if_lt (tgt := 42) C dX0_isUnder_14 (by decide) hf (fun hf => ?_) (fun hf => ?_)
        · refine s_weak (lv' := [none, none, none, none]) trivial ?_
          exact k42 hf
        · refine s_iload_n C dX0_isUnder_17 rfl ?_
          refine s_bipush C dX0_isUnder_18 (v := (8 : Int32)) (by decide) ?_
          refine s_icmp_ge (tgt := 42) C dX0_isUnder_20 (by decide) hf (fun hf => ?_) (fun hf => ?_)
          · refine s_weak (lv' := [none, none, none, none]) trivial ?_
            exact k42 hf
          · refine s_iload_n C dX0_isUnder_23 rfl ?_
            refine s_iload_n C dX0_isUnder_24 rfl ?_
            refine s_icmp_ne (tgt := 30) C dX0_isUnder_25 (by decide) hf (fun hf => ?_) (fun hf => ?_)
            · refine s_getsIN C C.2.2.2.2.2.2.2.2.2.1 wfn_X0_18 dX0_isUnder_30 (fun t30 t30h => ?_)
              refine s_iload_n C dX0_isUnder_33 rfl ?_
              refine s_tbI C t30h dX0_isUnder_34 hf (fun v4 hf => ?_)
              refine s_istore_n C dX0_isUnder_35 (by decide) (nc_i rfl) (lv' := [none, some (.int a1), some (.int v4), some (.int x3)]) rfl ?_
              refine s_iinc C dX0_isUnder_36 (v := (x3 + 1)) rfl rfl (by decide) (nc_i rfl) (lv' := [none, some (.int a1), some (.int v4), some (.int (x3 + 1))]) rfl ?_
              refine s_goto (tgt := 7) C dX0_isUnder_39 (by decide) ?_
              exact ih7 _ _ hf
            · refine s_iconst C dX0_isUnder_28 (v := (1 : Int32)) (by decide) ?_
              exact s_zreturn C E dX0_isUnder_29 hf (Nat.le_of_ble_eq_true rfl) (Nat.le_of_ble_eq_true rfl)
  refine s_weak (lv' := [none, some (.int a1), some (.int v1), some (.int (0 : Int32))]) ⟨rfl, ⟨rfl, ⟨rfl, trivial⟩⟩⟩ ?_
  exact k7 lpN _ _ hf
/-- HillBoxes.taken(II)I -/
noncomputable def f_X11_taken (o : Option Nat) (a1 : Int32) (a2 : Int32) (h : AH) : Option (Int32 × AH) :=
  rO h [11] o <| cl (f_X11_shelfAt o a1 h) fun v2 h1 =>
  jn (
    some ((-1 : Int32), h1)) fun j20 =>
  if v2 = none then
    j20
  else
    if a2 < 0 then
      j20
    else
      if a2 < (8 : Int32) then
        rO h1 [7] v2 <| cl (f_X7_isEmpty v2 h1) fun v4 h3 =>
        if v4 = 0 then
          fR h3 [7] v2 0 fun v5 =>
          jn (fun (x6 : Int32) (h7 : AH) =>
            some (x6, h7)) fun j62 =>
          jn (fun (h8 : AH) =>
            j62 (-12 : Int32) h8) fun j52 =>
          if v5 = none then
            j52 h3
          else
            rO h3 [0, 1, 2, 9] v5 <| cl (f_X0_isUnder v5 a2 h3) fun v10 h9 =>
            if v10 = 0 then
              j52 h9
            else
              fI h9 [0, 1, 2, 9] v5 1 fun v11 =>
              j62 v11 h9
        else
          some ((-11 : Int32), h3)
      else
        j20
set_option maxRecDepth 100000 in
set_option maxHeartbeats 4000000 in
theorem c_X11_taken (l : Launch) (D : DT) (o : Option Nat) (a1 : Int32) (a2 : Int32) (h : AH) (r : Int32 × AH) (hf : f_X11_taken o a1 a2 h = some r) : CM l D yX11_taken cX11_taken 5 (some .int) 1 23 0 0 [.inr (.inr o), .inl a1, .inl a2] h (some (.int r.1)) r.2 := by
  refine CM.of (by decide) (Nat.le_of_ble_eq_true rfl) (fun X hl C hD hX hnm E => ?_)
  subst hl
  subst hD
  have C : CX X RX11 cX11_taken 5 := C
  show WW X h 0 0 0 [some (rB (xD X).1 o), some (.int a1), some (.int a2), none, none] []
  unfold f_X11_taken at hf
  refine s_aload_n C dX11_taken_0 rfl ?_
  refine s_iload_n C dX11_taken_1 rfl ?_
  refine s_callV (rvf := fun x => some (rB (xD X).1 x)) (st := []) (fr := 0) (lo := 0) (mc := 0) (ms := 0) C [11] wc_X11_shelfAt wml_X11_238 wim_X11_shelfAt wsl_11_X11_shelfAt dX11_taken_2 (As := [.inl a1]) rfl hf (fun x h' hF => c_X11_shelfAt _ _ _ _ _ (x, h') hF) rfl (Nat.le_of_ble_eq_true rfl) (room_ok hX (Nat.le_of_ble_eq_true rfl) (Nat.le_of_ble_eq_true rfl)) (cell_ok hX (Nat.le_of_ble_eq_true rfl) (Nat.le_of_ble_eq_true rfl)) (fun v2 h1 hf => ?_)
  refine s_astore_n C dX11_taken_5 (by decide) (nc_i rfl) (lv' := [some (rB (xD X).1 o), some (.int a1), some (.int a2), some (rB (xD X).1 v2), none]) rfl ?_
  refine s_aload_n C dX11_taken_6 rfl ?_
  refine s_jn hf (fun j20 e20 hf => ?_)
  have k20 : j20  = some r → WW X h1 0 0 20 [none, none, none, none, none] [] := by
    intro  hf
    rw [e20] at hf
    refine s_iconst C dX11_taken_20 (v := (-1 : Int32)) (by decide) ?_
    exact s_ireturn C E dX11_taken_21 hf (Nat.le_of_ble_eq_true rfl) (Nat.le_of_ble_eq_true rfl)
  refine s_ifnull (tgt := 20) C dX11_taken_7 (by decide) hf (fun hf => ?_) (fun hf => ?_)
  · refine s_weak (lv' := [none, none, none, none, none]) trivial ?_
    exact k20 hf
  · refine s_iload_n C dX11_taken_10 rfl ?_
    refine s_if_lt (tgt := 20) C dX11_taken_11 (by decide) hf (fun hf => ?_) (fun hf => ?_)
    · refine s_weak (lv' := [none, none, none, none, none]) trivial ?_
      exact k20 hf
    · refine s_iload_n C dX11_taken_14 rfl ?_
      refine s_bipush C dX11_taken_15 (v := (8 : Int32)) (by decide) ?_
      refine s_icmp_lt (tgt := 22) C dX11_taken_17 (by decide) hf (fun hf => ?_) (fun hf => ?_)
      · refine s_aload_n C dX11_taken_22 rfl ?_
        refine s_callV (rvf := fun x => some (.int x)) (st := []) (fr := 0) (lo := 0) (mc := 0) (ms := 0) C [7] wc_X7_isEmpty wml_X11_244 wim_X7_isEmpty wsl_7_X7_isEmpty dX11_taken_23 (As := []) rfl hf (fun x h' hF => c_X7_isEmpty _ _ _ _ (x, h') hF) rfl (Nat.le_of_ble_eq_true rfl) (room_ok hX (Nat.le_of_ble_eq_true rfl) (Nat.le_of_ble_eq_true rfl)) (cell_ok hX (Nat.le_of_ble_eq_true rfl) (Nat.le_of_ble_eq_true rfl)) (fun v4 h3 hf => ?_)
        refine s_if_eq (tgt := 32) C dX11_taken_26 (by decide) hf (fun hf => ?_) (fun hf => ?_)
        · refine s_aload_n C dX11_taken_32 rfl ?_
          refine s_getR C fl_X11_472 dX11_taken_33 hf (fun v5 hf => ?_)
          refine s_astore C dX11_taken_36 (by decide) (nc_r rfl) (lv' := [some (rB (xD X).1 o), some (.int a1), some (.int a2), some (rB (xD X).1 v2), some (rB (xD X).1 v5)]) rfl ?_
          refine s_aload C dX11_taken_38 rfl ?_
          refine s_jn hf (fun j62 e62 hf => ?_)
          have k62 : ∀ (x6 : Int32) (h7 : AH), j62 x6 h7 = some r → WW X h7 0 0 62 [none, none, none, none, none] [.int x6] := by
            intro x6 h7 hf
            rw [e62] at hf
            exact s_ireturn C E dX11_taken_62 hf (Nat.le_of_ble_eq_true rfl) (Nat.le_of_ble_eq_true rfl)
          refine s_jn hf (fun j52 e52 hf => ?_)
          have k52 : ∀ (h8 : AH), j52 h8 = some r → WW X h8 0 0 52 [none, none, none, none, none] [] := by
            intro h8 hf
            rw [e52] at hf
            refine s_bipush C dX11_taken_52 (v := (-12 : Int32)) (by decide) ?_
            refine s_goto (tgt := 62) C dX11_taken_54 (by decide) ?_
            exact k62 _ _ hf
          refine s_ifnull (tgt := 52) C dX11_taken_40 (by decide) hf (fun hf => ?_) (fun hf => ?_)
          · refine s_weak (lv' := [none, none, none, none, none]) trivial ?_
            exact k52 _ hf
          · refine s_aload C dX11_taken_43 rfl ?_
            refine s_iload_n C dX11_taken_45 rfl ?_
            refine s_callV (rvf := fun x => some (.int x)) (st := []) (fr := 0) (lo := 0) (mc := 0) (ms := 0) C [0, 1, 2, 9] wc_X0_isUnder wml_X11_476 wim_X0_isUnder wsl_0_1_2_9_X0_isUnder dX11_taken_46 (As := [.inl a2]) rfl hf (fun x h' hF => c_X0_isUnder _ _ _ _ _ (x, h') hF) rfl (Nat.le_of_ble_eq_true rfl) (room_ok hX (Nat.le_of_ble_eq_true rfl) (Nat.le_of_ble_eq_true rfl)) (cell_ok hX (Nat.le_of_ble_eq_true rfl) (Nat.le_of_ble_eq_true rfl)) (fun v10 h9 hf => ?_)
            refine s_if_ne (tgt := 57) C dX11_taken_49 (by decide) hf (fun hf => ?_) (fun hf => ?_)
            · refine s_aload C dX11_taken_57 rfl ?_
              refine s_getI C fl_X11_160 dX11_taken_59 hf (fun v11 hf => ?_)
              refine s_weak (lv' := [none, none, none, none, none]) trivial ?_
              exact k62 _ _ hf
            · refine s_weak (lv' := [none, none, none, none, none]) trivial ?_
              exact k52 _ hf
        · refine s_bipush C dX11_taken_29 (v := (-11 : Int32)) (by decide) ?_
          exact s_ireturn C E dX11_taken_31 hf (Nat.le_of_ble_eq_true rfl) (Nat.le_of_ble_eq_true rfl)
      · refine s_weak (lv' := [none, none, none, none, none]) trivial ?_
        exact k20 hf
/-- HillBoxes.taker(I)I -/
noncomputable def f_X11_taker (o : Option Nat) (a1 : Int32) (h : AH) : Option (Int32 × AH) :=
  fR h [11] o 0 fun v1 =>
  rO h [3] v1 <| cl (f_X3_boxAt v1 a1 h) fun v3 h2 =>
  jn (fun (x4 : Int32) (h5 : AH) =>
    some (x4, h5)) fun j22 =>
  if v3 = none then
    j22 (-1 : Int32) h2
  else
    rO h2 [11] o <| cl (f_X11_takerOf o v3 h2) fun v7 h6 =>
    j22 v7 h6
set_option maxRecDepth 100000 in
set_option maxHeartbeats 4000000 in
theorem c_X11_taker (l : Launch) (D : DT) (o : Option Nat) (a1 : Int32) (h : AH) (r : Int32 × AH) (hf : f_X11_taker o a1 h = some r) : CM l D yX11_taker cX11_taker 3 (some .int) 7 170 0 0 [.inr (.inr o), .inl a1] h (some (.int r.1)) r.2 := by
  refine CM.of (by decide) (Nat.le_of_ble_eq_true rfl) (fun X hl C hD hX hnm E => ?_)
  subst hl
  subst hD
  have C : CX X RX11 cX11_taker 3 := C
  show WW X h 0 0 0 [some (rB (xD X).1 o), some (.int a1), none] []
  unfold f_X11_taker at hf
  refine s_aload_n C dX11_taker_0 rfl ?_
  refine s_getR C fl_X11_10 dX11_taker_1 hf (fun v1 hf => ?_)
  refine s_iload_n C dX11_taker_4 rfl ?_
  refine s_callV (rvf := fun x => some (rB (xD X).1 x)) (st := []) (fr := 0) (lo := 0) (mc := 0) (ms := 0) C [3] wc_X3_boxAt wml_X11_130 wim_X3_boxAt wsl_3_X3_boxAt dX11_taker_5 (As := [.inl a1]) rfl hf (fun x h' hF => c_X3_boxAt _ _ _ _ _ (x, h') hF) rfl (Nat.le_of_ble_eq_true rfl) (room_ok hX (Nat.le_of_ble_eq_true rfl) (Nat.le_of_ble_eq_true rfl)) (cell_ok hX (Nat.le_of_ble_eq_true rfl) (Nat.le_of_ble_eq_true rfl)) (fun v3 h2 hf => ?_)
  refine s_astore_n C dX11_taker_8 (by decide) (nc_i rfl) (lv' := [some (rB (xD X).1 o), some (.int a1), some (rB (xD X).1 v3)]) rfl ?_
  refine s_aload_n C dX11_taker_9 rfl ?_
  refine s_jn hf (fun j22 e22 hf => ?_)
  have k22 : ∀ (x4 : Int32) (h5 : AH), j22 x4 h5 = some r → WW X h5 0 0 22 [none, none, none] [.int x4] := by
    intro x4 h5 hf
    rw [e22] at hf
    exact s_ireturn C E dX11_taker_22 hf (Nat.le_of_ble_eq_true rfl) (Nat.le_of_ble_eq_true rfl)
  refine s_ifnonnull (tgt := 17) C dX11_taker_10 (by decide) hf (fun hf => ?_) (fun hf => ?_)
  · refine s_aload_n C dX11_taker_17 rfl ?_
    refine s_aload_n C dX11_taker_18 rfl ?_
    refine s_callV (rvf := fun x => some (.int x)) (st := []) (fr := 6) (lo := 144) (mc := 0) (ms := 0) C [11] wc_X11_takerOf wml_X11_369 wim_X11_takerOf wsl_11_X11_takerOf dX11_taker_19 (As := [.inr (.inr v3)]) rfl hf (fun x h' hF => c_X11_takerOf _ _ _ _ _ (x, h') hF) rfl (Nat.le_of_ble_eq_true rfl) (room_ok hX (Nat.le_of_ble_eq_true rfl) (Nat.le_of_ble_eq_true rfl)) (cell_ok hX (Nat.le_of_ble_eq_true rfl) (Nat.le_of_ble_eq_true rfl)) (fun v7 h6 hf => ?_)
    refine s_weak (lv' := [none, none, none]) trivial ?_
    exact k22 _ _ hf
  · refine s_iconst C dX11_taker_13 (v := (-1 : Int32)) (by decide) ?_
    refine s_goto (tgt := 22) C dX11_taker_14 (by decide) ?_
    refine s_weak (lv' := [none, none, none]) trivial ?_
    exact k22 _ _ hf
/-- HillBoxes.tell(III)I -/
noncomputable def f_X11_tell (o : Option Nat) (a1 : Int32) (a2 : Int32) (a3 : Int32) (h : AH) : Option (Int32 × AH) :=
  fR h [11] o 0 fun v1 =>
  rO h [3] v1 <| cl (f_X3_thingAt v1 a1 h) fun v3 h2 =>
  jn (fun (h4 : AH) =>
    some ((-1 : Int32), h4)) fun j47 =>
  if v3 = none then
    j47 h2
  else
    fR h2 [11] o 2 fun v5 =>
    rO h2 [4] v5 <| cl (f_X4_has v5 a2 h2) fun v7 h6 =>
    if v7 = 0 then
      j47 h6
    else
      if a3 < 0 then
        j47 h6
      else
        if (1 : Int32) < a3 then
          j47 h6
        else
          fR h6 [11] o 2 fun v8 =>
          fR h6 [4] v8 1 fun v9 =>
          aI h6 23 v9 a2 fun v10 =>
          if v10 = 0 then
            j47 h6
          else
            fI h6 [9] v3 4 fun v11 =>
            if v11 < (12 : Int32) then
              fR h6 [9] v3 2 fun v12 =>
              fI h6 [9] v3 4 fun v13 =>
              bI h6 20 v12 v13 a2 fun h14 =>
              fR h14 [9] v3 3 fun v15 =>
              fI h14 [9] v3 4 fun v16 =>
              jn (fun (x17 : Int32) =>
                bI h14 23 v15 v16 (x17 &&& 1) fun h18 =>
                fI h18 [9] v3 4 fun v19 =>
                pI h18 [9] v3 4 (v19 + (1 : Int32)) fun h20 =>
                fI h20 [9] v3 4 fun v21 =>
                some (v21, h20)) fun j94 =>
              if a3 = (1 : Int32) then
                j94 (1 : Int32)
              else
                j94 (0 : Int32)
            else
              some ((-3 : Int32), h6)
set_option maxRecDepth 100000 in
set_option maxHeartbeats 4000000 in
theorem c_X11_tell (l : Launch) (D : DT) (o : Option Nat) (a1 : Int32) (a2 : Int32) (a3 : Int32) (h : AH) (r : Int32 × AH) (hf : f_X11_tell o a1 a2 a3 h = some r) : CM l D yX11_tell cX11_tell 5 (some .int) 1 22 0 0 [.inr (.inr o), .inl a1, .inl a2, .inl a3] h (some (.int r.1)) r.2 := by
  refine CM.of (by decide) (Nat.le_of_ble_eq_true rfl) (fun X hl C hD hX hnm E => ?_)
  subst hl
  subst hD
  have C : CX X RX11 cX11_tell 5 := C
  show WW X h 0 0 0 [some (rB (xD X).1 o), some (.int a1), some (.int a2), some (.int a3), none] []
  unfold f_X11_tell at hf
  refine s_aload_n C dX11_tell_0 rfl ?_
  refine s_getR C fl_X11_10 dX11_tell_1 hf (fun v1 hf => ?_)
  refine s_iload_n C dX11_tell_4 rfl ?_
  refine s_callV (rvf := fun x => some (rB (xD X).1 x)) (st := []) (fr := 0) (lo := 0) (mc := 0) (ms := 0) C [3] wc_X3_thingAt wml_X11_336 wim_X3_thingAt wsl_3_X3_thingAt dX11_tell_5 (As := [.inl a1]) rfl hf (fun x h' hF => c_X3_thingAt _ _ _ _ _ (x, h') hF) rfl (Nat.le_of_ble_eq_true rfl) (room_ok hX (Nat.le_of_ble_eq_true rfl) (Nat.le_of_ble_eq_true rfl)) (cell_ok hX (Nat.le_of_ble_eq_true rfl) (Nat.le_of_ble_eq_true rfl)) (fun v3 h2 hf => ?_)
  refine s_astore C dX11_tell_8 (by decide) (nc_i rfl) (lv' := [some (rB (xD X).1 o), some (.int a1), some (.int a2), some (.int a3), some (rB (xD X).1 v3)]) rfl ?_
  refine s_aload C dX11_tell_10 rfl ?_
  refine s_jn hf (fun j47 e47 hf => ?_)
  have k47 : ∀ (h4 : AH), j47 h4 = some r → WW X h4 0 0 47 [none, none, none, none, none] [] := by
    intro h4 hf
    rw [e47] at hf
    refine s_iconst C dX11_tell_47 (v := (-1 : Int32)) (by decide) ?_
    exact s_ireturn C E dX11_tell_48 hf (Nat.le_of_ble_eq_true rfl) (Nat.le_of_ble_eq_true rfl)
  refine s_ifnull (tgt := 47) C dX11_tell_12 (by decide) hf (fun hf => ?_) (fun hf => ?_)
  · refine s_weak (lv' := [none, none, none, none, none]) trivial ?_
    exact k47 _ hf
  · refine s_aload_n C dX11_tell_15 rfl ?_
    refine s_getR C fl_X11_30 dX11_tell_16 hf (fun v5 hf => ?_)
    refine s_iload_n C dX11_tell_19 rfl ?_
    refine s_callV (rvf := fun x => some (.int x)) (st := []) (fr := 0) (lo := 0) (mc := 0) (ms := 0) C [4] wc_X4_has wml_X11_313 wim_X4_has wsl_4_X4_has dX11_tell_20 (As := [.inl a2]) rfl hf (fun x h' hF => c_X4_has _ _ _ _ _ (x, h') hF) rfl (Nat.le_of_ble_eq_true rfl) (room_ok hX (Nat.le_of_ble_eq_true rfl) (Nat.le_of_ble_eq_true rfl)) (cell_ok hX (Nat.le_of_ble_eq_true rfl) (Nat.le_of_ble_eq_true rfl)) (fun v7 h6 hf => ?_)
    refine s_if_eq (tgt := 47) C dX11_tell_23 (by decide) hf (fun hf => ?_) (fun hf => ?_)
    · refine s_weak (lv' := [none, none, none, none, none]) trivial ?_
      exact k47 _ hf
    · refine s_iload_n C dX11_tell_26 rfl ?_
      refine s_if_lt (tgt := 47) C dX11_tell_27 (by decide) hf (fun hf => ?_) (fun hf => ?_)
      · refine s_weak (lv' := [none, none, none, none, none]) trivial ?_
        exact k47 _ hf
      · refine s_iload_n C dX11_tell_30 rfl ?_
        refine s_iconst C dX11_tell_31 (v := (1 : Int32)) (by decide) ?_
        refine s_icmp_gt (tgt := 47) C dX11_tell_32 (by decide) hf (fun hf => ?_) (fun hf => ?_)
        · refine s_weak (lv' := [none, none, none, none, none]) trivial ?_
          exact k47 _ hf
        · refine s_aload_n C dX11_tell_35 rfl ?_
          refine s_getR C fl_X11_30 dX11_tell_36 hf (fun v8 hf => ?_)
          refine s_getR C fl_X11_340 dX11_tell_39 hf (fun v9 hf => ?_)
          refine s_iload_n C dX11_tell_42 rfl ?_
          refine s_zaload C dX11_tell_43 hf (fun v10 hf => ?_)
          refine s_if_ne (tgt := 49) C dX11_tell_44 (by decide) hf (fun hf => ?_) (fun hf => ?_)
          · refine s_aload C dX11_tell_49 rfl ?_
            refine s_getI C fl_X11_344 dX11_tell_51 hf (fun v11 hf => ?_)
            refine s_bipush C dX11_tell_54 (v := (12 : Int32)) (by decide) ?_
            refine s_icmp_lt (tgt := 62) C dX11_tell_56 (by decide) hf (fun hf => ?_) (fun hf => ?_)
            · refine s_aload C dX11_tell_62 rfl ?_
              refine s_getR C fl_X11_347 dX11_tell_64 hf (fun v12 hf => ?_)
              refine s_aload C dX11_tell_67 rfl ?_
              refine s_getI C fl_X11_344 dX11_tell_69 hf (fun v13 hf => ?_)
              refine s_iload_n C dX11_tell_72 rfl ?_
              refine s_iastore C dX11_tell_73 hf (fun h14 hf => ?_)
              refine s_aload C dX11_tell_74 rfl ?_
              refine s_getR C fl_X11_349 dX11_tell_76 hf (fun v15 hf => ?_)
              refine s_aload C dX11_tell_79 rfl ?_
              refine s_getI C fl_X11_344 dX11_tell_81 hf (fun v16 hf => ?_)
              refine s_iload_n C dX11_tell_84 rfl ?_
              refine s_iconst C dX11_tell_85 (v := (1 : Int32)) (by decide) ?_
              refine s_jn hf (fun j94 e94 hf => ?_)
              have k94 : ∀ (x17 : Int32), j94 x17 = some r → WW X h14 0 0 94 [none, none, none, none, some (rB (xD X).1 v3)] [.int x17, .int v16, rB (xD X).1 v15] := by
                intro x17 hf
                rw [e94] at hf
                refine s_zastore C dX11_tell_94 hf (fun h18 hf => ?_)
                refine s_aload C dX11_tell_95 rfl ?_
                refine s_dup C dX11_tell_97 c1_r ?_
                refine s_getI C fl_X11_344 dX11_tell_98 hf (fun v19 hf => ?_)
                refine s_iconst C dX11_tell_101 (v := (1 : Int32)) (by decide) ?_
                refine s_iadd C dX11_tell_102 ?_
                refine s_putI C fl_X11_344 (by decide) dX11_tell_103 hf (fun h20 hf => ?_)
                refine s_aload C dX11_tell_106 rfl ?_
                refine s_getI C fl_X11_344 dX11_tell_108 hf (fun v21 hf => ?_)
                exact s_ireturn C E dX11_tell_111 hf (Nat.le_of_ble_eq_true rfl) (Nat.le_of_ble_eq_true rfl)
              refine s_icmp_ne (tgt := 93) C dX11_tell_86 (by decide) hf (fun hf => ?_) (fun hf => ?_)
              · refine s_iconst C dX11_tell_93 (v := (0 : Int32)) (by decide) ?_
                refine s_weak (lv' := [none, none, none, none, some (rB (xD X).1 v3)]) ⟨rfl, trivial⟩ ?_
                exact k94 _ hf
              · refine s_iconst C dX11_tell_89 (v := (1 : Int32)) (by decide) ?_
                refine s_goto (tgt := 94) C dX11_tell_90 (by decide) ?_
                refine s_weak (lv' := [none, none, none, none, some (rB (xD X).1 v3)]) ⟨rfl, trivial⟩ ?_
                exact k94 _ hf
            · refine s_bipush C dX11_tell_59 (v := (-3 : Int32)) (by decide) ?_
              exact s_ireturn C E dX11_tell_61 hf (Nat.le_of_ble_eq_true rfl) (Nat.le_of_ble_eq_true rfl)
          · refine s_weak (lv' := [none, none, none, none, none]) trivial ?_
            exact k47 _ hf
/-- HillBoxes.toPut(I)I -/
noncomputable def f_X11_toPut (o : Option Nat) (a1 : Int32) (h : AH) : Option (Int32 × AH) :=
  lp (fun _ _ _ => none) (fun (L4 : Int32 → Int32 → AH → Option (Int32 × AH)) (x1 : Int32) (x2 : Int32) (h3 : AH) =>
    fR h3 [11] o 0 fun v4 =>
    fI h3 [3] v4 3 fun v5 =>
    if v5 ≤ x2 then
      jn (fun (x6 : Int32) =>
        some (x6, h3)) fun j56 =>
      if a1 = (-1 : Int32) then
        j56 x1
      else
        j56 (-1 : Int32)
    else
      fR h3 [11] o 0 fun v7 =>
      rO h3 [3] v7 <| cl (f_X3_boxAt v7 x2 h3) fun v9 h8 =>
      rO h8 [11] o <| cl (f_X11_isToPut o v9 h8) fun v11 h10 =>
      jn (fun (x12 : Int32) =>
        L4 x12 (x2 + 1) h10) fun j40 =>
      if v11 = 0 then
        j40 x1
      else
        if x1 = a1 then
          some (x2, h10)
        else
          j40 (x1 + 1)) lpN (0 : Int32) (0 : Int32) h
set_option maxRecDepth 100000 in
set_option maxHeartbeats 4000000 in
theorem c_X11_toPut (l : Launch) (D : DT) (o : Option Nat) (a1 : Int32) (h : AH) (r : Int32 × AH) (hf : f_X11_toPut o a1 h = some r) : CM l D yX11_toPut cX11_toPut 4 (some .int) 7 163 0 0 [.inr (.inr o), .inl a1] h (some (.int r.1)) r.2 := by
  refine CM.of (by decide) (Nat.le_of_ble_eq_true rfl) (fun X hl C hD hX hnm E => ?_)
  subst hl
  subst hD
  have C : CX X RX11 cX11_toPut 4 := C
  show WW X h 0 0 0 [some (rB (xD X).1 o), some (.int a1), none, none] []
  unfold f_X11_toPut at hf
  refine s_iconst C dX11_toPut_0 (v := (0 : Int32)) (by decide) ?_
  refine s_istore_n C dX11_toPut_1 (by decide) (nc_i rfl) (lv' := [some (rB (xD X).1 o), some (.int a1), some (.int (0 : Int32)), none]) rfl ?_
  refine s_iconst C dX11_toPut_2 (v := (0 : Int32)) (by decide) ?_
  refine s_istore_n C dX11_toPut_3 (by decide) (nc_i rfl) (lv' := [some (rB (xD X).1 o), some (.int a1), some (.int (0 : Int32)), some (.int (0 : Int32))]) rfl ?_
  refine s_lp3 hf (fun G4 z4 q4 hf => ?_)
  have k4 : ∀ (n : Nat) (x1 : Int32) (x2 : Int32) (h3 : AH), G4 n x1 x2 h3 = some r → WW X h3 0 0 4 [some (rB (xD X).1 o), some (.int a1), some (.int x1), some (.int x2)] [] := by
    intro n
    induction n with
    | zero =>
      intro x1 x2 h3 hf
      rw [z4] at hf
      cases hf
    | succ n ih4 =>
      intro x1 x2 h3 hf
      have hf := (q4 n x1 x2 h3).symm.trans hf
      refine s_iload_n C dX11_toPut_4 rfl ?_
      refine s_aload_n C dX11_toPut_5 rfl ?_
      refine s_getR C fl_X11_10 dX11_toPut_6 hf (fun v4 hf => ?_)
      refine s_getI C fl_X11_70 dX11_toPut_9 hf (fun v5 hf => ?_)
      refine s_icmp_ge (tgt := 46) C dX11_toPut_12 (by decide) hf (fun hf => ?_) (fun hf => ?_)
      · refine s_iload_n C dX11_toPut_46 rfl ?_
        refine s_iconst C dX11_toPut_47 (v := (-1 : Int32)) (by decide) ?_
        refine s_jn hf (fun j56 e56 hf => ?_)
        have k56 : ∀ (x6 : Int32), j56 x6 = some r → WW X h3 0 0 56 [none, none, none, none] [.int x6] := by
          intro x6 hf
          rw [e56] at hf
          exact s_ireturn C E dX11_toPut_56 hf (Nat.le_of_ble_eq_true rfl) (Nat.le_of_ble_eq_true rfl)
        refine s_icmp_ne (tgt := 55) C dX11_toPut_48 (by decide) hf (fun hf => ?_) (fun hf => ?_)
        · refine s_iconst C dX11_toPut_55 (v := (-1 : Int32)) (by decide) ?_
          refine s_weak (lv' := [none, none, none, none]) trivial ?_
          exact k56 _ hf
        · refine s_iload_n C dX11_toPut_51 rfl ?_
          refine s_goto (tgt := 56) C dX11_toPut_52 (by decide) ?_
          refine s_weak (lv' := [none, none, none, none]) trivial ?_
          exact k56 _ hf
      · refine s_aload_n C dX11_toPut_15 rfl ?_
        refine s_aload_n C dX11_toPut_16 rfl ?_
        refine s_getR C fl_X11_10 dX11_toPut_17 hf (fun v7 hf => ?_)
        refine s_iload_n C dX11_toPut_20 rfl ?_
        refine s_callV (rvf := fun x => some (rB (xD X).1 x)) (st := [rB (xD X).1 o]) (fr := 0) (lo := 0) (mc := 0) (ms := 0) C [3] wc_X3_boxAt wml_X11_130 wim_X3_boxAt wsl_3_X3_boxAt dX11_toPut_21 (As := [.inl x2]) rfl hf (fun x h' hF => c_X3_boxAt _ _ _ _ _ (x, h') hF) rfl (Nat.le_of_ble_eq_true rfl) (room_ok hX (Nat.le_of_ble_eq_true rfl) (Nat.le_of_ble_eq_true rfl)) (cell_ok hX (Nat.le_of_ble_eq_true rfl) (Nat.le_of_ble_eq_true rfl)) (fun v9 h8 hf => ?_)
        refine s_callV (rvf := fun x => some (.int x)) (st := []) (fr := 6) (lo := 142) (mc := 0) (ms := 0) C [11] wc_X11_isToPut wml_X11_372 wim_X11_isToPut wsl_11_X11_isToPut dX11_toPut_24 (As := [.inr (.inr v9)]) rfl hf (fun x h' hF => c_X11_isToPut _ _ _ _ _ (x, h') hF) rfl (Nat.le_of_ble_eq_true rfl) (room_ok hX (Nat.le_of_ble_eq_true rfl) (Nat.le_of_ble_eq_true rfl)) (cell_ok hX (Nat.le_of_ble_eq_true rfl) (Nat.le_of_ble_eq_true rfl)) (fun v11 h10 hf => ?_)
        refine s_jn hf (fun j40 e40 hf => ?_)
        have k40 : ∀ (x12 : Int32), j40 x12 = some r → WW X h10 0 0 40 [some (rB (xD X).1 o), some (.int a1), some (.int x12), some (.int x2)] [] := by
          intro x12 hf
          rw [e40] at hf
          refine s_iinc C dX11_toPut_40 (v := (x2 + 1)) rfl rfl (by decide) (nc_i rfl) (lv' := [some (rB (xD X).1 o), some (.int a1), some (.int x12), some (.int (x2 + 1))]) rfl ?_
          refine s_goto (tgt := 4) C dX11_toPut_43 (by decide) ?_
          exact ih4 _ _ _ hf
        refine s_if_eq (tgt := 40) C dX11_toPut_27 (by decide) hf (fun hf => ?_) (fun hf => ?_)
        · exact k40 _ hf
        · refine s_iload_n C dX11_toPut_30 rfl ?_
          refine s_iload_n C dX11_toPut_31 rfl ?_
          refine s_icmp_ne (tgt := 37) C dX11_toPut_32 (by decide) hf (fun hf => ?_) (fun hf => ?_)
          · refine s_iinc C dX11_toPut_37 (v := (x1 + 1)) rfl rfl (by decide) (nc_i rfl) (lv' := [some (rB (xD X).1 o), some (.int a1), some (.int (x1 + 1)), some (.int x2)]) rfl ?_
            exact k40 _ hf
          · refine s_iload_n C dX11_toPut_35 rfl ?_
            exact s_ireturn C E dX11_toPut_36 hf (Nat.le_of_ble_eq_true rfl) (Nat.le_of_ble_eq_true rfl)
  exact k4 lpN _ _ _ hf
/-- HillBoxes.trace(I)I -/
noncomputable def f_X11_trace (o : Option Nat) (a1 : Int32) (h : AH) : Option (Int32 × AH) :=
  jn (
    some ((-1 : Int32), h)) fun j21 =>
  if a1 < 0 then
    j21
  else
    if (24 : Int32) ≤ a1 then
      j21
    else
      fR h [11] o 5 fun v1 =>
      aI h 20 v1 (24 : Int32) fun v2 =>
      if a1 < v2 then
        fR h [11] o 5 fun v3 =>
        aI h 20 v3 a1 fun v4 =>
        some (v4, h)
      else
        j21
set_option maxRecDepth 100000 in
set_option maxHeartbeats 4000000 in
theorem c_X11_trace (l : Launch) (D : DT) (o : Option Nat) (a1 : Int32) (h : AH) (r : Int32 × AH) (hf : f_X11_trace o a1 h = some r) : CM l D yX11_trace cX11_trace 2 (some .int) 0 0 0 0 [.inr (.inr o), .inl a1] h (some (.int r.1)) r.2 := by
  refine CM.of (by decide) (Nat.le_of_ble_eq_true rfl) (fun X hl C hD hX hnm E => ?_)
  subst hl
  subst hD
  have C : CX X RX11 cX11_trace 2 := C
  show WW X h 0 0 0 [some (rB (xD X).1 o), some (.int a1)] []
  unfold f_X11_trace at hf
  refine s_iload_n C dX11_trace_0 rfl ?_
  refine s_jn hf (fun j21 e21 hf => ?_)
  have k21 : j21  = some r → WW X h 0 0 21 [none, none] [] := by
    intro  hf
    rw [e21] at hf
    refine s_iconst C dX11_trace_21 (v := (-1 : Int32)) (by decide) ?_
    exact s_ireturn C E dX11_trace_22 hf (Nat.le_of_ble_eq_true rfl) (Nat.le_of_ble_eq_true rfl)
  refine s_if_lt (tgt := 21) C dX11_trace_1 (by decide) hf (fun hf => ?_) (fun hf => ?_)
  · refine s_weak (lv' := [none, none]) trivial ?_
    exact k21 hf
  · refine s_iload_n C dX11_trace_4 rfl ?_
    refine s_bipush C dX11_trace_5 (v := (24 : Int32)) (by decide) ?_
    refine s_icmp_ge (tgt := 21) C dX11_trace_7 (by decide) hf (fun hf => ?_) (fun hf => ?_)
    · refine s_weak (lv' := [none, none]) trivial ?_
      exact k21 hf
    · refine s_iload_n C dX11_trace_10 rfl ?_
      refine s_aload_n C dX11_trace_11 rfl ?_
      refine s_getR C fl_X11_48 dX11_trace_12 hf (fun v1 hf => ?_)
      refine s_bipush C dX11_trace_15 (v := (24 : Int32)) (by decide) ?_
      refine s_iaload C dX11_trace_17 hf (fun v2 hf => ?_)
      refine s_icmp_lt (tgt := 23) C dX11_trace_18 (by decide) hf (fun hf => ?_) (fun hf => ?_)
      · refine s_aload_n C dX11_trace_23 rfl ?_
        refine s_getR C fl_X11_48 dX11_trace_24 hf (fun v3 hf => ?_)
        refine s_iload_n C dX11_trace_27 rfl ?_
        refine s_iaload C dX11_trace_28 hf (fun v4 hf => ?_)
        exact s_ireturn C E dX11_trace_29 hf (Nat.le_of_ble_eq_true rfl) (Nat.le_of_ble_eq_true rfl)
      · refine s_weak (lv' := [none, none]) trivial ?_
        exact k21 hf
/-- HillBoxes$Walks.compare(III)V -/
noncomputable def f_X10_compare (o : Option Nat) (a1 : Int32) (a2 : Int32) (a3 : Int32) (h : AH) : Option (Unit × AH) :=
  fI h [10] o 15 fun v1 =>
  jn (
    some ((), h)) fun j32 =>
  if v1 < a3 then
    j32
  else
    fI h [10] o 11 fun v2 =>
    if a2 < v2 then
      j32
    else
      fI h [10] o 11 fun v3 =>
      jn (
        pI h [10] o 11 a2 fun h4 =>
        pI h4 [10] o 12 a3 fun h5 =>
        pI h5 [10] o 10 a1 fun h6 =>
        fR h6 [10] o 7 fun v7 =>
        fR h6 [10] o 9 fun v8 =>
        cpI h6 v7 (0 : Int32) v8 (0 : Int32) a1 fun h9 =>
        some ((), h9)) fun j33 =>
      if a2 = v3 then
        fI h [10] o 12 fun v10 =>
        if a3 < v10 then
          j33
        else
          j32
      else
        j33
set_option maxRecDepth 100000 in
set_option maxHeartbeats 4000000 in
theorem c_X10_compare (l : Launch) (D : DT) (o : Option Nat) (a1 : Int32) (a2 : Int32) (a3 : Int32) (h : AH) (r : Unit × AH) (hf : f_X10_compare o a1 a2 a3 h = some r) : CM l D yX10_compare cX10_compare 4 none 1 26 0 0 [.inr (.inr o), .inl a1, .inl a2, .inl a3] h none r.2 := by
  refine CM.of (by decide) (Nat.le_of_ble_eq_true rfl) (fun X hl C hD hX hnm E => ?_)
  subst hl
  subst hD
  have C : CX X RX10 cX10_compare 4 := C
  show WW X h 0 0 0 [some (rB (xD X).1 o), some (.int a1), some (.int a2), some (.int a3)] []
  unfold f_X10_compare at hf
  refine s_iload_n C dX10_compare_0 rfl ?_
  refine s_aload_n C dX10_compare_1 rfl ?_
  refine s_getI C fl_X10_47 dX10_compare_2 hf (fun v1 hf => ?_)
  refine s_jn hf (fun j32 e32 hf => ?_)
  have k32 : j32  = some r → WW X h 0 0 32 [none, none, none, none] [] := by
    intro  hf
    rw [e32] at hf
    exact s_return C E dX10_compare_32 hf (Nat.le_of_ble_eq_true rfl) (Nat.le_of_ble_eq_true rfl)
  refine s_icmp_gt (tgt := 32) C dX10_compare_5 (by decide) hf (fun hf => ?_) (fun hf => ?_)
  · refine s_weak (lv' := [none, none, none, none]) trivial ?_
    exact k32 hf
  · refine s_iload_n C dX10_compare_8 rfl ?_
    refine s_aload_n C dX10_compare_9 rfl ?_
    refine s_getI C fl_X10_50 dX10_compare_10 hf (fun v2 hf => ?_)
    refine s_icmp_lt (tgt := 32) C dX10_compare_13 (by decide) hf (fun hf => ?_) (fun hf => ?_)
    · refine s_weak (lv' := [none, none, none, none]) trivial ?_
      exact k32 hf
    · refine s_iload_n C dX10_compare_16 rfl ?_
      refine s_aload_n C dX10_compare_17 rfl ?_
      refine s_getI C fl_X10_50 dX10_compare_18 hf (fun v3 hf => ?_)
      refine s_jn hf (fun j33 e33 hf => ?_)
      have k33 : j33  = some r → WW X h 0 0 33 [some (rB (xD X).1 o), some (.int a1), some (.int a2), some (.int a3)] [] := by
        intro  hf
        rw [e33] at hf
        refine s_aload_n C dX10_compare_33 rfl ?_
        refine s_iload_n C dX10_compare_34 rfl ?_
        refine s_putI C fl_X10_50 (by decide) dX10_compare_35 hf (fun h4 hf => ?_)
        refine s_aload_n C dX10_compare_38 rfl ?_
        refine s_iload_n C dX10_compare_39 rfl ?_
        refine s_putI C fl_X10_94 (by decide) dX10_compare_40 hf (fun h5 hf => ?_)
        refine s_aload_n C dX10_compare_43 rfl ?_
        refine s_iload_n C dX10_compare_44 rfl ?_
        refine s_putI C fl_X10_97 (by decide) dX10_compare_45 hf (fun h6 hf => ?_)
        refine s_aload_n C dX10_compare_48 rfl ?_
        refine s_getR C fl_X10_31 dX10_compare_49 hf (fun v7 hf => ?_)
        refine s_iconst C dX10_compare_52 (v := (0 : Int32)) (by decide) ?_
        refine s_aload_n C dX10_compare_53 rfl ?_
        refine s_getR C fl_X10_34 dX10_compare_54 hf (fun v8 hf => ?_)
        refine s_iconst C dX10_compare_57 (v := (0 : Int32)) (by decide) ?_
        refine s_iload_n C dX10_compare_58 rfl ?_
        refine s_copyI C wml_X10_100 wnat wst_cpy wini_sys dX10_compare_59 hf (Nat.le_of_ble_eq_true rfl) (room_n hX (Nat.le_of_ble_eq_true rfl) (Nat.le_of_ble_eq_true rfl)) (fun h9 hf => ?_)
        exact s_return C E dX10_compare_62 hf (Nat.le_of_ble_eq_true rfl) (Nat.le_of_ble_eq_true rfl)
      refine s_icmp_ne (tgt := 33) C dX10_compare_21 (by decide) hf (fun hf => ?_) (fun hf => ?_)
      · exact k33 hf
      · refine s_iload_n C dX10_compare_24 rfl ?_
        refine s_aload_n C dX10_compare_25 rfl ?_
        refine s_getI C fl_X10_94 dX10_compare_26 hf (fun v10 hf => ?_)
        refine s_icmp_lt (tgt := 33) C dX10_compare_29 (by decide) hf (fun hf => ?_) (fun hf => ?_)
        · exact k33 hf
        · refine s_weak (lv' := [none, none, none, none]) trivial ?_
          exact k32 hf
/-- HillBoxes$Walks.extend(IIIII)V, one turn -/
noncomputable def fb_X10_extend (g : Nat → Option Nat → Int32 → Int32 → Int32 → Int32 → Int32 → AH → Option (Unit × AH)) (o : Option Nat) (a1 : Int32) (a2 : Int32) (a3 : Int32) (a4 : Int32) (a5 : Int32) (h : AH) : Option (Unit × AH) :=
  lp (fun _ _ => none) (fun (L3 : Int32 → AH → Option (Unit × AH)) (x1 : Int32) (h2 : AH) =>
    fI h2 [10] o 0 fun v3 =>
    jn (
      some ((), h2)) fun j73 =>
    if v3 ≤ x1 then
      j73
    else
      if (7 : Int32) ≤ a1 then
        j73
      else
        jn (fun (h4 : AH) =>
          L3 (x1 + 1) h4) fun j67 =>
        if ((a2 >>> (x1 &&& 31)) &&& (1 : Int32)) = 0 then
          fR h2 [10] o 7 fun v5 =>
          bI h2 20 v5 a1 x1 fun h6 =>
          rO h6 [10] o <| cl (f_X10_timeBehind o x1 a3 a4 h6) fun v8 h7 =>
          fR h7 [10] o 5 fun v9 =>
          aI h7 20 v9 x1 fun v10 =>
          rO h7 [10] o <| cl (g 1 o (a1 + (1 : Int32)) (a2 ||| ((1 : Int32) <<< (x1 &&& 31))) v8 (a5 + v10) 0 h7) fun _ h11 =>
          j67 h11
        else
          j67 h2) lpN (0 : Int32) h
/-- HillBoxes$Walks.goOnBehind(IIII)V, one turn -/
noncomputable def fb_X10_goOnBehind (g : Nat → Option Nat → Int32 → Int32 → Int32 → Int32 → Int32 → AH → Option (Unit × AH)) (o : Option Nat) (a1 : Int32) (a2 : Int32) (a3 : Int32) (a4 : Int32) (h : AH) : Option (Unit × AH) :=
  fR h [10] o 7 fun v1 =>
  aI h 20 v1 (a1 - (1 : Int32)) fun v2 =>
  rO h [10] o <| cl (f_X10_cellOf o v2 h) fun v4 h3 =>
  fI h3 [10] o 15 fun v5 =>
  jn (fun (h6 : AH) =>
    some ((), h6)) fun j51 =>
  if v5 < a3 then
    j51 h3
  else
    fI h3 [10] o 13 fun v7 =>
    cl (f_X11_hoursBetween v4 v7 h3) fun v9 h8 =>
    rO h8 [10] o <| cl (f_X10_compare o a1 a4 (a3 + v9) h8) fun _ h10 =>
    rO h10 [10] o <| cl (g 0 o a1 a2 v4 a3 a4 h10) fun _ h11 =>
    j51 h11
noncomputable def G_X10_extend : Nat → Nat → Option Nat → Int32 → Int32 → Int32 → Int32 → Int32 → AH → Option (Unit × AH)
  | 0 => fun _ _ _ _ _ _ _ _ => none
  | n + 1 => fun t p0 p1 p2 p3 p4 p5 h => if t = 0 then fb_X10_extend (G_X10_extend n) p0 p1 p2 p3 p4 p5 h else fb_X10_goOnBehind (G_X10_extend n) p0 p1 p2 p3 p4 h
theorem eq_G_X10_extend (n t : Nat) (p0 : Option Nat) (p1 : Int32) (p2 : Int32) (p3 : Int32) (p4 : Int32) (p5 : Int32) (h : AH) : G_X10_extend (n + 1) t p0 p1 p2 p3 p4 p5 h = (if t = 0 then fb_X10_extend (G_X10_extend n) p0 p1 p2 p3 p4 p5 h else fb_X10_goOnBehind (G_X10_extend n) p0 p1 p2 p3 p4 h) := by first | rfl | rw [G_X10_extend]
noncomputable def f_X10_extend (o : Option Nat) (a1 : Int32) (a2 : Int32) (a3 : Int32) (a4 : Int32) (a5 : Int32) (h : AH) : Option (Unit × AH) := G_X10_extend (opq 100) 0 o a1 a2 a3 a4 a5 h
noncomputable def f_X10_goOnBehind (o : Option Nat) (a1 : Int32) (a2 : Int32) (a3 : Int32) (a4 : Int32) (h : AH) : Option (Unit × AH) := G_X10_extend (opq 100) 1 o a1 a2 a3 a4 0 h
def PG_X10_extend (l : Launch) (D : DT) (n : Nat) : Prop := (∀ (p0 : Option Nat) (p1 : Int32) (p2 : Int32) (p3 : Int32) (p4 : Int32) (p5 : Int32) (h : AH) (r : Unit × AH), G_X10_extend n 0 p0 p1 p2 p3 p4 p5 h = some r → CM l D yX10_extend cX10_extend 7 none (4 + n) (89 + 60 * n) 0 0 [.inr (.inr p0), .inl p1, .inl p2, .inl p3, .inl p4, .inl p5] h none r.2) ∧ (∀ (p0 : Option Nat) (p1 : Int32) (p2 : Int32) (p3 : Int32) (p4 : Int32) (p5 : Int32) (h : AH) (r : Unit × AH), G_X10_extend n 1 p0 p1 p2 p3 p4 p5 h = some r → CM l D yX10_goOnBehind cX10_goOnBehind 6 none (4 + n) (89 + 60 * n) 0 0 [.inr (.inr p0), .inl p1, .inl p2, .inl p3, .inl p4] h none r.2)
set_option maxRecDepth 100000 in
set_option maxHeartbeats 4000000 in
theorem cs_X10_extend (l : Launch) (D : DT) (nS : Nat) (ih : PG_X10_extend l D nS) : ∀ (p0 : Option Nat) (p1 : Int32) (p2 : Int32) (p3 : Int32) (p4 : Int32) (p5 : Int32) (h : AH) (r : Unit × AH), G_X10_extend (nS + 1) 0 p0 p1 p2 p3 p4 p5 h = some r → CM l D yX10_extend cX10_extend 7 none (4 + (nS + 1)) (89 + 60 * (nS + 1)) 0 0 [.inr (.inr p0), .inl p1, .inl p2, .inl p3, .inl p4, .inl p5] h none r.2 := by
  unfold PG_X10_extend at ih
  intro o a1 a2 a3 a4 a5 h r hf
  rw [eq_G_X10_extend] at hf
  have hf : fb_X10_extend (G_X10_extend nS) o a1 a2 a3 a4 a5 h = some r := (if_pos rfl).symm.trans hf
  refine CM.of (by decide) (Nat.le_of_ble_eq_true rfl) (fun X hl C hD hX hnm E => ?_)
  subst hl
  subst hD
  have C : CX X RX10 cX10_extend 7 := C
  show WW X h 0 0 0 [some (rB (xD X).1 o), some (.int a1), some (.int a2), some (.int a3), some (.int a4), some (.int a5), none] []
  unfold fb_X10_extend at hf
  refine s_iconst C dX10_extend_0 (v := (0 : Int32)) (by decide) ?_
  refine s_istore C dX10_extend_1 (by decide) (nc_i rfl) (lv' := [some (rB (xD X).1 o), some (.int a1), some (.int a2), some (.int a3), some (.int a4), some (.int a5), some (.int (0 : Int32))]) rfl ?_
  refine s_lp2 hf (fun G3 z3 q3 hf => ?_)
  have k3 : ∀ (n : Nat) (x1 : Int32) (h2 : AH), G3 n x1 h2 = some r → WW X h2 0 0 3 [some (rB (xD X).1 o), some (.int a1), some (.int a2), some (.int a3), some (.int a4), some (.int a5), some (.int x1)] [] := by
    intro n
    induction n with
    | zero =>
      intro x1 h2 hf
      rw [z3] at hf
      cases hf
    | succ n ih3 =>
      intro x1 h2 hf
      have hf := (q3 n x1 h2).symm.trans hf
      refine s_iload C dX10_extend_3 rfl ?_
      refine s_aload_n C dX10_extend_5 rfl ?_
      refine s_getI C fl_X10_37 dX10_extend_6 hf (fun v3 hf => ?_)
      refine s_jn hf (fun j73 e73 hf => ?_)
      have k73 : j73  = some r → WW X h2 0 0 73 [none, none, none, none, none, none, none] [] := by
        intro  hf
        rw [e73] at hf
        exact s_return C E dX10_extend_73 hf (Nat.le_of_ble_eq_true rfl) (Nat.le_of_ble_eq_true rfl)
      refine s_icmp_ge (tgt := 73) C dX10_extend_9 (by decide) hf (fun hf => ?_) (fun hf => ?_)
      · refine s_weak (lv' := [none, none, none, none, none, none, none]) trivial ?_
        exact k73 hf
      · refine s_iload_n C dX10_extend_12 rfl ?_
        refine s_bipush C dX10_extend_13 (v := (7 : Int32)) (by decide) ?_
        refine s_icmp_ge (tgt := 73) C dX10_extend_15 (by decide) hf (fun hf => ?_) (fun hf => ?_)
        · refine s_weak (lv' := [none, none, none, none, none, none, none]) trivial ?_
          exact k73 hf
        · refine s_iload_n C dX10_extend_18 rfl ?_
          refine s_iload C dX10_extend_19 rfl ?_
          refine s_ishr C dX10_extend_21 ?_
          refine s_iconst C dX10_extend_22 (v := (1 : Int32)) (by decide) ?_
          refine s_iand C dX10_extend_23 ?_
          refine s_jn hf (fun j67 e67 hf => ?_)
          have k67 : ∀ (h4 : AH), j67 h4 = some r → WW X h4 0 0 67 [some (rB (xD X).1 o), some (.int a1), some (.int a2), some (.int a3), some (.int a4), some (.int a5), some (.int x1)] [] := by
            intro h4 hf
            rw [e67] at hf
            refine s_iinc C dX10_extend_67 (v := (x1 + 1)) rfl rfl (by decide) (nc_i rfl) (lv' := [some (rB (xD X).1 o), some (.int a1), some (.int a2), some (.int a3), some (.int a4), some (.int a5), some (.int (x1 + 1))]) rfl ?_
            refine s_goto (tgt := 3) C dX10_extend_70 (by decide) ?_
            exact ih3 _ _ hf
          refine s_if_ne (tgt := 67) C dX10_extend_24 (by decide) hf (fun hf => ?_) (fun hf => ?_)
          · exact k67 _ hf
          · refine s_aload_n C dX10_extend_27 rfl ?_
            refine s_getR C fl_X10_31 dX10_extend_28 hf (fun v5 hf => ?_)
            refine s_iload_n C dX10_extend_31 rfl ?_
            refine s_iload C dX10_extend_32 rfl ?_
            refine s_iastore C dX10_extend_34 hf (fun h6 hf => ?_)
            refine s_aload_n C dX10_extend_35 rfl ?_
            refine s_iload_n C dX10_extend_36 rfl ?_
            refine s_iconst C dX10_extend_37 (v := (1 : Int32)) (by decide) ?_
            refine s_iadd C dX10_extend_38 ?_
            refine s_iload_n C dX10_extend_39 rfl ?_
            refine s_iconst C dX10_extend_40 (v := (1 : Int32)) (by decide) ?_
            refine s_iload C dX10_extend_41 rfl ?_
            refine s_ishl C dX10_extend_43 ?_
            refine s_ior C dX10_extend_44 ?_
            refine s_aload_n C dX10_extend_45 rfl ?_
            refine s_iload C dX10_extend_46 rfl ?_
            refine s_iload_n C dX10_extend_48 rfl ?_
            refine s_iload C dX10_extend_49 rfl ?_
            refine s_callV (rvf := fun x => some (.int x)) (st := [.int (a2 ||| ((1 : Int32) <<< (x1 &&& 31))), .int (a1 + (1 : Int32)), rB (xD X).1 o]) (fr := 3) (lo := 63) (mc := 0) (ms := 0) C [10] wc_X10_timeBehind wml_X10_63 wim_X10_timeBehind wsl_10_X10_timeBehind dX10_extend_51 (As := [.inl x1, .inl a3, .inl a4]) rfl hf (fun x h' hF => c_X10_timeBehind _ _ _ _ _ _ _ (x, h') hF) rfl (Nat.le_of_ble_eq_true rfl) (room_ok hX (by omega) (by omega)) (cell_ok hX (Nat.le_of_ble_eq_true rfl) (Nat.le_of_ble_eq_true rfl)) (fun v8 h7 hf => ?_)
            refine s_iload C dX10_extend_54 rfl ?_
            refine s_aload_n C dX10_extend_56 rfl ?_
            refine s_getR C fl_X10_25 dX10_extend_57 hf (fun v9 hf => ?_)
            refine s_iload C dX10_extend_60 rfl ?_
            refine s_iaload C dX10_extend_62 hf (fun v10 hf => ?_)
            refine s_iadd C dX10_extend_63 ?_
            refine s_callV (rvf := fun _ => none) (st := []) (fr := (4 + nS)) (lo := (89 + 60 * nS)) (mc := 0) (ms := 0) C [10] wc_X10_goOnBehind wml_X10_67 wim_X10_goOnBehind wsl_10_X10_goOnBehind dX10_extend_64 (As := [.inl (a1 + (1 : Int32)), .inl (a2 ||| ((1 : Int32) <<< (x1 &&& 31))), .inl v8, .inl (a5 + v10)]) rfl hf (fun x h' hF => ih.2 o (a1 + (1 : Int32)) (a2 ||| ((1 : Int32) <<< (x1 &&& 31))) v8 (a5 + v10) 0 h7 (x, h') hF) rfl (Nat.le_of_ble_eq_true rfl) (room_ok hX (by omega) (by omega)) (cell_ok hX (Nat.le_of_ble_eq_true rfl) (Nat.le_of_ble_eq_true rfl)) (fun _ h11 hf => ?_)
            exact k67 _ hf
  exact k3 lpN _ _ hf
set_option maxRecDepth 100000 in
set_option maxHeartbeats 4000000 in
theorem cs_X10_goOnBehind (l : Launch) (D : DT) (nS : Nat) (ih : PG_X10_extend l D nS) : ∀ (p0 : Option Nat) (p1 : Int32) (p2 : Int32) (p3 : Int32) (p4 : Int32) (p5 : Int32) (h : AH) (r : Unit × AH), G_X10_extend (nS + 1) 1 p0 p1 p2 p3 p4 p5 h = some r → CM l D yX10_goOnBehind cX10_goOnBehind 6 none (4 + (nS + 1)) (89 + 60 * (nS + 1)) 0 0 [.inr (.inr p0), .inl p1, .inl p2, .inl p3, .inl p4] h none r.2 := by
  unfold PG_X10_extend at ih
  intro o a1 a2 a3 a4 _ h r hf
  rw [eq_G_X10_extend] at hf
  have hf : fb_X10_goOnBehind (G_X10_extend nS) o a1 a2 a3 a4 h = some r := (if_neg (by decide)).symm.trans (hf)
  refine CM.of (by decide) (Nat.le_of_ble_eq_true rfl) (fun X hl C hD hX hnm E => ?_)
  subst hl
  subst hD
  have C : CX X RX10 cX10_goOnBehind 6 := C
  show WW X h 0 0 0 [some (rB (xD X).1 o), some (.int a1), some (.int a2), some (.int a3), some (.int a4), none] []
  unfold fb_X10_goOnBehind at hf
  refine s_aload_n C dX10_goOnBehind_0 rfl ?_
  refine s_aload_n C dX10_goOnBehind_1 rfl ?_
  refine s_getR C fl_X10_31 dX10_goOnBehind_2 hf (fun v1 hf => ?_)
  refine s_iload_n C dX10_goOnBehind_5 rfl ?_
  refine s_iconst C dX10_goOnBehind_6 (v := (1 : Int32)) (by decide) ?_
  refine s_isub C dX10_goOnBehind_7 ?_
  refine s_iaload C dX10_goOnBehind_8 hf (fun v2 hf => ?_)
  refine s_callV (rvf := fun x => some (.int x)) (st := []) (fr := 1) (lo := 20) (mc := 0) (ms := 0) C [10] wc_X10_cellOf wml_X10_71 wim_X10_cellOf wsl_10_X10_cellOf dX10_goOnBehind_9 (As := [.inl v2]) rfl hf (fun x h' hF => c_X10_cellOf _ _ _ _ _ (x, h') hF) rfl (Nat.le_of_ble_eq_true rfl) (room_ok hX (by omega) (by omega)) (cell_ok hX (Nat.le_of_ble_eq_true rfl) (Nat.le_of_ble_eq_true rfl)) (fun v4 h3 hf => ?_)
  refine s_istore C dX10_goOnBehind_12 (by decide) (nc_i rfl) (lv' := [some (rB (xD X).1 o), some (.int a1), some (.int a2), some (.int a3), some (.int a4), some (.int v4)]) rfl ?_
  refine s_iload_n C dX10_goOnBehind_14 rfl ?_
  refine s_aload_n C dX10_goOnBehind_15 rfl ?_
  refine s_getI C fl_X10_47 dX10_goOnBehind_16 hf (fun v5 hf => ?_)
  refine s_jn hf (fun j51 e51 hf => ?_)
  have k51 : ∀ (h6 : AH), j51 h6 = some r → WW X h6 0 0 51 [none, none, none, none, none, none] [] := by
    intro h6 hf
    rw [e51] at hf
    exact s_return C E dX10_goOnBehind_51 hf (Nat.le_of_ble_eq_true rfl) (Nat.le_of_ble_eq_true rfl)
  refine s_icmp_gt (tgt := 51) C dX10_goOnBehind_19 (by decide) hf (fun hf => ?_) (fun hf => ?_)
  · refine s_weak (lv' := [none, none, none, none, none, none]) trivial ?_
    exact k51 _ hf
  · refine s_aload_n C dX10_goOnBehind_22 rfl ?_
    refine s_iload_n C dX10_goOnBehind_23 rfl ?_
    refine s_iload C dX10_goOnBehind_24 rfl ?_
    refine s_iload_n C dX10_goOnBehind_26 rfl ?_
    refine s_iload C dX10_goOnBehind_27 rfl ?_
    refine s_aload_n C dX10_goOnBehind_29 rfl ?_
    refine s_getI C fl_X10_53 dX10_goOnBehind_30 hf (fun v7 hf => ?_)
    refine s_callSN (rvf := fun x => some (.int x)) (st := [.int a3, .int a4, .int a1, rB (xD X).1 o]) (fr := 2) (lo := 42) (mc := 0) (ms := 0) C wc_X11_hoursBetween wmn_X10_75 wst_X11_hoursBetween dX10_goOnBehind_33 (As := [.inl v4, .inl v7]) rfl hf (fun x h' hF => c_X11_hoursBetween _ _ _ _ _ (x, h') hF) rfl (Nat.le_of_ble_eq_true rfl) (room_ok hX (by omega) (by omega)) (cell_ok hX (Nat.le_of_ble_eq_true rfl) (Nat.le_of_ble_eq_true rfl)) (fun v9 h8 hf => ?_)
    refine s_iadd C dX10_goOnBehind_36 ?_
    refine s_callV (rvf := fun _ => none) (st := []) (fr := 1) (lo := 26) (mc := 0) (ms := 0) C [10] wc_X10_compare wml_X10_79 wim_X10_compare wsl_10_X10_compare dX10_goOnBehind_37 (As := [.inl a1, .inl a4, .inl (a3 + v9)]) rfl hf (fun x h' hF => c_X10_compare _ _ _ _ _ _ _ (x, h') hF) rfl (Nat.le_of_ble_eq_true rfl) (room_ok hX (by omega) (by omega)) (cell_ok hX (Nat.le_of_ble_eq_true rfl) (Nat.le_of_ble_eq_true rfl)) (fun _ h10 hf => ?_)
    refine s_aload_n C dX10_goOnBehind_40 rfl ?_
    refine s_iload_n C dX10_goOnBehind_41 rfl ?_
    refine s_iload_n C dX10_goOnBehind_42 rfl ?_
    refine s_iload C dX10_goOnBehind_43 rfl ?_
    refine s_iload_n C dX10_goOnBehind_45 rfl ?_
    refine s_iload C dX10_goOnBehind_46 rfl ?_
    refine s_callV (rvf := fun _ => none) (st := []) (fr := (4 + nS)) (lo := (89 + 60 * nS)) (mc := 0) (ms := 0) C [10] wc_X10_extend wml_X10_56 wim_X10_extend wsl_10_X10_extend dX10_goOnBehind_48 (As := [.inl a1, .inl a2, .inl v4, .inl a3, .inl a4]) rfl hf (fun x h' hF => ih.1 o a1 a2 v4 a3 a4 h10 (x, h') hF) rfl (Nat.le_of_ble_eq_true rfl) (room_ok hX (by omega) (by omega)) (cell_ok hX (Nat.le_of_ble_eq_true rfl) (Nat.le_of_ble_eq_true rfl)) (fun _ h11 hf => ?_)
    refine s_weak (lv' := [none, none, none, none, none, none]) trivial ?_
    exact k51 _ hf
theorem c_G_X10_extend (l : Launch) (D : DT) : ∀ n : Nat, PG_X10_extend l D n := by
  intro n
  induction n with
  | zero =>
    unfold PG_X10_extend
    exact ⟨fun p0 p1 p2 p3 p4 p5 h r hf => (by cases hf), fun p0 p1 p2 p3 p4 p5 h r hf => (by cases hf)⟩
  | succ nS ih =>
    unfold PG_X10_extend
    exact ⟨cs_X10_extend l D nS ih, cs_X10_goOnBehind l D nS ih⟩
theorem c_X10_extend (l : Launch) (D : DT) (o : Option Nat) (a1 : Int32) (a2 : Int32) (a3 : Int32) (a4 : Int32) (a5 : Int32) (h : AH) (r : Unit × AH) (hf : f_X10_extend o a1 a2 a3 a4 a5 h = some r) : CM l D yX10_extend cX10_extend 7 none 104 6089 0 0 [.inr (.inr o), .inl a1, .inl a2, .inl a3, .inl a4, .inl a5] h none r.2 := by
  have hc := (c_G_X10_extend l D (opq 100))
  unfold PG_X10_extend at hc
  have hc := hc.1 o a1 a2 a3 a4 a5 h r hf
  rw [opq_eq] at hc
  exact hc
theorem c_X10_goOnBehind (l : Launch) (D : DT) (o : Option Nat) (a1 : Int32) (a2 : Int32) (a3 : Int32) (a4 : Int32) (h : AH) (r : Unit × AH) (hf : f_X10_goOnBehind o a1 a2 a3 a4 h = some r) : CM l D yX10_goOnBehind cX10_goOnBehind 6 none 104 6089 0 0 [.inr (.inr o), .inl a1, .inl a2, .inl a3, .inl a4] h none r.2 := by
  have hc := (c_G_X10_extend l D (opq 100))
  unfold PG_X10_extend at hc
  have hc := hc.2 o a1 a2 a3 a4 0 h r hf
  rw [opq_eq] at hc
  exact hc
/-- HillBoxes$Walks.findBest(II)Z -/
noncomputable def f_X10_findBest (o : Option Nat) (a1 : Int32) (a2 : Int32) (h : AH) : Option (Int32 × AH) :=
  rO h [10] o <| cl (f_X10_setOut o a1 h) fun _ h1 =>
  pI h1 [10] o 15 a2 fun h2 =>
  pI h2 [10] o 11 (0 : Int32) fun h3 =>
  fI h3 [10] o 13 fun v4 =>
  rO h3 [10] o <| cl (f_X10_extend o (0 : Int32) (0 : Int32) v4 (0 : Int32) (0 : Int32) h3) fun _ h5 =>
  fI h5 [10] o 11 fun v6 =>
  jn (fun (x7 : Int32) =>
    rz x7 h5) fun j39 =>
  if v6 ≤ 0 then
    j39 (0 : Int32)
  else
    j39 (1 : Int32)
set_option maxRecDepth 100000 in
set_option maxHeartbeats 4000000 in
theorem c_X10_findBest (l : Launch) (D : DT) (o : Option Nat) (a1 : Int32) (a2 : Int32) (h : AH) (r : Int32 × AH) (hf : f_X10_findBest o a1 a2 h = some r) : CM l D yX10_findBest cX10_findBest 3 (some .boolean) 105 6115 0 0 [.inr (.inr o), .inl a1, .inl a2] h (some (.int r.1)) r.2 := by
  refine CM.of (by decide) (Nat.le_of_ble_eq_true rfl) (fun X hl C hD hX hnm E => ?_)
  subst hl
  subst hD
  have C : CX X RX10 cX10_findBest 3 := C
  show WW X h 0 0 0 [some (rB (xD X).1 o), some (.int a1), some (.int a2)] []
  unfold f_X10_findBest at hf
  refine s_aload_n C dX10_findBest_0 rfl ?_
  refine s_iload_n C dX10_findBest_1 rfl ?_
  refine s_callV (rvf := fun _ => none) (st := []) (fr := 0) (lo := 0) (mc := 0) (ms := 0) C [10] wc_X10_setOut wml_X10_43 wim_X10_setOut wsl_10_X10_setOut dX10_findBest_2 (As := [.inl a1]) rfl hf (fun x h' hF => c_X10_setOut _ _ _ _ _ (x, h') hF) rfl (Nat.le_of_ble_eq_true rfl) (room_ok hX (Nat.le_of_ble_eq_true rfl) (Nat.le_of_ble_eq_true rfl)) (cell_ok hX (Nat.le_of_ble_eq_true rfl) (Nat.le_of_ble_eq_true rfl)) (fun _ h1 hf => ?_)
  refine s_aload_n C dX10_findBest_5 rfl ?_
  refine s_iload_n C dX10_findBest_6 rfl ?_
  refine s_putI C fl_X10_47 (by decide) dX10_findBest_7 hf (fun h2 hf => ?_)
  refine s_aload_n C dX10_findBest_10 rfl ?_
  refine s_iconst C dX10_findBest_11 (v := (0 : Int32)) (by decide) ?_
  refine s_putI C fl_X10_50 (by decide) dX10_findBest_12 hf (fun h3 hf => ?_)
  refine s_aload_n C dX10_findBest_15 rfl ?_
  refine s_iconst C dX10_findBest_16 (v := (0 : Int32)) (by decide) ?_
  refine s_iconst C dX10_findBest_17 (v := (0 : Int32)) (by decide) ?_
  refine s_aload_n C dX10_findBest_18 rfl ?_
  refine s_getI C fl_X10_53 dX10_findBest_19 hf (fun v4 hf => ?_)
  refine s_iconst C dX10_findBest_22 (v := (0 : Int32)) (by decide) ?_
  refine s_iconst C dX10_findBest_23 (v := (0 : Int32)) (by decide) ?_
  refine s_callV (rvf := fun _ => none) (st := []) (fr := 104) (lo := 6089) (mc := 0) (ms := 0) C [10] wc_X10_extend wml_X10_56 wim_X10_extend wsl_10_X10_extend dX10_findBest_24 (As := [.inl (0 : Int32), .inl (0 : Int32), .inl v4, .inl (0 : Int32), .inl (0 : Int32)]) rfl hf (fun x h' hF => c_X10_extend _ _ _ _ _ _ _ _ _ (x, h') hF) rfl (Nat.le_of_ble_eq_true rfl) (room_ok hX (Nat.le_of_ble_eq_true rfl) (Nat.le_of_ble_eq_true rfl)) (cell_ok hX (Nat.le_of_ble_eq_true rfl) (Nat.le_of_ble_eq_true rfl)) (fun _ h5 hf => ?_)
  refine s_aload_n C dX10_findBest_27 rfl ?_
  refine s_getI C fl_X10_50 dX10_findBest_28 hf (fun v6 hf => ?_)
  refine s_jn hf (fun j39 e39 hf => ?_)
  have k39 : ∀ (x7 : Int32), j39 x7 = some r → WW X h5 0 0 39 [none, none, none] [.int x7] := by
    intro x7 hf
    rw [e39] at hf
    exact s_zreturn C E dX10_findBest_39 hf (Nat.le_of_ble_eq_true rfl) (Nat.le_of_ble_eq_true rfl)
  refine s_if_le (tgt := 38) C dX10_findBest_31 (by decide) hf (fun hf => ?_) (fun hf => ?_)
  · refine s_iconst C dX10_findBest_38 (v := (0 : Int32)) (by decide) ?_
    refine s_weak (lv' := [none, none, none]) trivial ?_
    exact k39 _ hf
  · refine s_iconst C dX10_findBest_34 (v := (1 : Int32)) (by decide) ?_
    refine s_goto (tgt := 39) C dX10_findBest_35 (by decide) ?_
    refine s_weak (lv' := [none, none, none]) trivial ?_
    exact k39 _ hf
/-- HillBoxes$Walks.takeBest()I -/
noncomputable def f_X10_takeBest (o : Option Nat) (h : AH) : Option (Int32 × AH) :=
  fI h [10] o 12 fun v1 =>
  pI h [10] o 1 v1 fun h2 =>
  fI h2 [10] o 10 fun v3 =>
  pI h2 [10] o 2 v3 fun h4 =>
  lp (fun _ _ => none) (fun (L18 : Int32 → AH → Option (Int32 × AH)) (x5 : Int32) (h6 : AH) =>
    fI h6 [10] o 10 fun v7 =>
    if v7 ≤ x5 then
      pI h6 [10] o 0 (0 : Int32) fun h8 =>
      fI h8 [10] o 11 fun v9 =>
      some (v9, h8)
    else
      fR h6 [10] o 4 fun v10 =>
      fR h6 [10] o 9 fun v11 =>
      aI h6 20 v11 x5 fun v12 =>
      aR h6 26 v10 v12 fun v13 =>
      fR h6 [10] o 3 fun v14 =>
      jn (fun (x15 : Int32) =>
        bI h6 20 v14 x5 x15 fun h16 =>
        L18 (x5 + 1) h16) fun j55 =>
      if v13 = none then
        j55 (-1 : Int32)
      else
        fI h6 [1] v13 0 fun v17 =>
        j55 v17) lpN (0 : Int32) h4
set_option maxRecDepth 100000 in
set_option maxHeartbeats 4000000 in
theorem c_X10_takeBest (l : Launch) (D : DT) (o : Option Nat) (h : AH) (r : Int32 × AH) (hf : f_X10_takeBest o h = some r) : CM l D yX10_takeBest cX10_takeBest 3 (some .int) 0 0 0 0 [.inr (.inr o)] h (some (.int r.1)) r.2 := by
  refine CM.of (by decide) (Nat.le_of_ble_eq_true rfl) (fun X hl C hD hX hnm E => ?_)
  subst hl
  subst hD
  have C : CX X RX10 cX10_takeBest 3 := C
  show WW X h 0 0 0 [some (rB (xD X).1 o), none, none] []
  unfold f_X10_takeBest at hf
  refine s_aload_n C dX10_takeBest_0 rfl ?_
  refine s_aload_n C dX10_takeBest_1 rfl ?_
  refine s_getI C fl_X10_94 dX10_takeBest_2 hf (fun v1 hf => ?_)
  refine s_putI C fl_X10_9 (by decide) dX10_takeBest_5 hf (fun h2 hf => ?_)
  refine s_aload_n C dX10_takeBest_8 rfl ?_
  refine s_aload_n C dX10_takeBest_9 rfl ?_
  refine s_getI C fl_X10_97 dX10_takeBest_10 hf (fun v3 hf => ?_)
  refine s_putI C fl_X10_106 (by decide) dX10_takeBest_13 hf (fun h4 hf => ?_)
  refine s_iconst C dX10_takeBest_16 (v := (0 : Int32)) (by decide) ?_
  refine s_istore_n C dX10_takeBest_17 (by decide) (nc_r rfl) (lv' := [some (rB (xD X).1 o), some (.int (0 : Int32)), none]) rfl ?_
  refine s_lp2 hf (fun G18 z18 q18 hf => ?_)
  have k18 : ∀ (n : Nat) (x5 : Int32) (h6 : AH), G18 n x5 h6 = some r → WW X h6 0 0 18 [some (rB (xD X).1 o), some (.int x5), none] [] := by
    intro n
    induction n with
    | zero =>
      intro x5 h6 hf
      rw [z18] at hf
      cases hf
    | succ n ih18 =>
      intro x5 h6 hf
      have hf := (q18 n x5 h6).symm.trans hf
      refine s_iload_n C dX10_takeBest_18 rfl ?_
      refine s_aload_n C dX10_takeBest_19 rfl ?_
      refine s_getI C fl_X10_97 dX10_takeBest_20 hf (fun v7 hf => ?_)
      refine s_icmp_ge (tgt := 62) C dX10_takeBest_23 (by decide) hf (fun hf => ?_) (fun hf => ?_)
      · refine s_aload_n C dX10_takeBest_62 rfl ?_
        refine s_iconst C dX10_takeBest_63 (v := (0 : Int32)) (by decide) ?_
        refine s_putI C fl_X10_37 (by decide) dX10_takeBest_64 hf (fun h8 hf => ?_)
        refine s_aload_n C dX10_takeBest_67 rfl ?_
        refine s_getI C fl_X10_50 dX10_takeBest_68 hf (fun v9 hf => ?_)
        exact s_ireturn C E dX10_takeBest_71 hf (Nat.le_of_ble_eq_true rfl) (Nat.le_of_ble_eq_true rfl)
      · refine s_aload_n C dX10_takeBest_26 rfl ?_
        refine s_getR C fl_X10_21 dX10_takeBest_27 hf (fun v10 hf => ?_)
        refine s_aload_n C dX10_takeBest_30 rfl ?_
        refine s_getR C fl_X10_34 dX10_takeBest_31 hf (fun v11 hf => ?_)
        refine s_iload_n C dX10_takeBest_34 rfl ?_
        refine s_iaload C dX10_takeBest_35 hf (fun v12 hf => ?_)
        refine s_aaload C dX10_takeBest_36 (by decide) hf (fun v13 hf => ?_)
        refine s_astore_n C dX10_takeBest_37 (by decide) (nc_i rfl) (lv' := [some (rB (xD X).1 o), some (.int x5), some (rB (xD X).1 v13)]) rfl ?_
        refine s_aload_n C dX10_takeBest_38 rfl ?_
        refine s_getR C fl_X10_15 dX10_takeBest_39 hf (fun v14 hf => ?_)
        refine s_iload_n C dX10_takeBest_42 rfl ?_
        refine s_aload_n C dX10_takeBest_43 rfl ?_
        refine s_jn hf (fun j55 e55 hf => ?_)
        have k55 : ∀ (x15 : Int32), j55 x15 = some r → WW X h6 0 0 55 [some (rB (xD X).1 o), some (.int x5), none] [.int x15, .int x5, rB (xD X).1 v14] := by
          intro x15 hf
          rw [e55] at hf
          refine s_iastore C dX10_takeBest_55 hf (fun h16 hf => ?_)
          refine s_iinc C dX10_takeBest_56 (v := (x5 + 1)) rfl rfl (by decide) (nc_r rfl) (lv' := [some (rB (xD X).1 o), some (.int (x5 + 1)), none]) rfl ?_
          refine s_goto (tgt := 18) C dX10_takeBest_59 (by decide) ?_
          exact ih18 _ _ hf
        refine s_ifnonnull (tgt := 51) C dX10_takeBest_44 (by decide) hf (fun hf => ?_) (fun hf => ?_)
        · refine s_aload_n C dX10_takeBest_51 rfl ?_
          refine s_getI C fl_X10_40 dX10_takeBest_52 hf (fun v17 hf => ?_)
          refine s_weak (lv' := [some (rB (xD X).1 o), some (.int x5), none]) ⟨rfl, ⟨rfl, trivial⟩⟩ ?_
          exact k55 _ hf
        · refine s_iconst C dX10_takeBest_47 (v := (-1 : Int32)) (by decide) ?_
          refine s_goto (tgt := 55) C dX10_takeBest_48 (by decide) ?_
          refine s_weak (lv' := [some (rB (xD X).1 o), some (.int x5), none]) ⟨rfl, ⟨rfl, trivial⟩⟩ ?_
          exact k55 _ hf
  exact k18 lpN _ _ hf
/-- HillBoxes.walk(II)I -/
noncomputable def f_X11_walk (o : Option Nat) (a1 : Int32) (a2 : Int32) (h : AH) : Option (Int32 × AH) :=
  cl (f_X10_isSetOut a1 a2 h) fun v2 h1 =>
  if v2 = 0 then
    some ((-1 : Int32), h1)
  else
    fR h1 [11] o 3 fun v3 =>
    rO h1 [10] v3 <| cl (f_X10_findBest v3 a1 a2 h1) fun v5 h4 =>
    jn (fun (x6 : Int32) (h7 : AH) =>
      some (x6, h7)) fun j34 =>
    if v5 = 0 then
      j34 (-2 : Int32) h4
    else
      fR h4 [11] o 3 fun v8 =>
      rO h4 [10] v8 <| cl (f_X10_takeBest v8 h4) fun v10 h9 =>
      j34 v10 h9
set_option maxRecDepth 100000 in
set_option maxHeartbeats 4000000 in
theorem c_X11_walk (l : Launch) (D : DT) (o : Option Nat) (a1 : Int32) (a2 : Int32) (h : AH) (r : Int32 × AH) (hf : f_X11_walk o a1 a2 h = some r) : CM l D yX11_walk cX11_walk 3 (some .int) 106 6137 0 0 [.inr (.inr o), .inl a1, .inl a2] h (some (.int r.1)) r.2 := by
  refine CM.of (by decide) (Nat.le_of_ble_eq_true rfl) (fun X hl C hD hX hnm E => ?_)
  subst hl
  subst hD
  have C : CX X RX11 cX11_walk 3 := C
  show WW X h 0 0 0 [some (rB (xD X).1 o), some (.int a1), some (.int a2)] []
  unfold f_X11_walk at hf
  refine s_iload_n C dX11_walk_0 rfl ?_
  refine s_iload_n C dX11_walk_1 rfl ?_
  refine s_callS (rvf := fun x => some (.int x)) (st := []) (fr := 0) (lo := 0) (mc := 0) (ms := 0) C wc_X10_isSetOut wml_X11_386 wst_X10_isSetOut dX11_walk_2 (As := [.inl a1, .inl a2]) rfl hf (fun x h' hF => c_X10_isSetOut _ _ _ _ _ (x, h') hF) rfl (Nat.le_of_ble_eq_true rfl) (room_ok hX (Nat.le_of_ble_eq_true rfl) (Nat.le_of_ble_eq_true rfl)) (cell_ok hX (Nat.le_of_ble_eq_true rfl) (Nat.le_of_ble_eq_true rfl)) (fun v2 h1 hf => ?_)
  refine s_if_ne (tgt := 10) C dX11_walk_5 (by decide) hf (fun hf => ?_) (fun hf => ?_)
  · refine s_aload_n C dX11_walk_10 rfl ?_
    refine s_getR C fl_X11_37 dX11_walk_11 hf (fun v3 hf => ?_)
    refine s_iload_n C dX11_walk_14 rfl ?_
    refine s_iload_n C dX11_walk_15 rfl ?_
    refine s_callV (rvf := fun x => some (.int x)) (st := []) (fr := 105) (lo := 6115) (mc := 0) (ms := 0) C [10] wc_X10_findBest wml_X11_389 wim_X10_findBest wsl_10_X10_findBest dX11_walk_16 (As := [.inl a1, .inl a2]) rfl hf (fun x h' hF => c_X10_findBest _ _ _ _ _ _ (x, h') hF) rfl (Nat.le_of_ble_eq_true rfl) (room_ok hX (Nat.le_of_ble_eq_true rfl) (Nat.le_of_ble_eq_true rfl)) (cell_ok hX (Nat.le_of_ble_eq_true rfl) (Nat.le_of_ble_eq_true rfl)) (fun v5 h4 hf => ?_)
    refine s_jn hf (fun j34 e34 hf => ?_)
    have k34 : ∀ (x6 : Int32) (h7 : AH), j34 x6 h7 = some r → WW X h7 0 0 34 [none, none, none] [.int x6] := by
      intro x6 h7 hf
      rw [e34] at hf
      exact s_ireturn C E dX11_walk_34 hf (Nat.le_of_ble_eq_true rfl) (Nat.le_of_ble_eq_true rfl)
    refine s_if_eq (tgt := 32) C dX11_walk_19 (by decide) hf (fun hf => ?_) (fun hf => ?_)
    · refine s_bipush C dX11_walk_32 (v := (-2 : Int32)) (by decide) ?_
      refine s_weak (lv' := [none, none, none]) trivial ?_
      exact k34 _ _ hf
    · refine s_aload_n C dX11_walk_22 rfl ?_
      refine s_getR C fl_X11_37 dX11_walk_23 hf (fun v8 hf => ?_)
      refine s_callV (rvf := fun x => some (.int x)) (st := []) (fr := 0) (lo := 0) (mc := 0) (ms := 0) C [10] wc_X10_takeBest wml_X11_392 wim_X10_takeBest wsl_10_X10_takeBest dX11_walk_26 (As := []) rfl hf (fun x h' hF => c_X10_takeBest _ _ _ _ (x, h') hF) rfl (Nat.le_of_ble_eq_true rfl) (room_ok hX (Nat.le_of_ble_eq_true rfl) (Nat.le_of_ble_eq_true rfl)) (cell_ok hX (Nat.le_of_ble_eq_true rfl) (Nat.le_of_ble_eq_true rfl)) (fun v10 h9 hf => ?_)
      refine s_goto (tgt := 34) C dX11_walk_29 (by decide) ?_
      refine s_weak (lv' := [none, none, none]) trivial ?_
      exact k34 _ _ hf
  · refine s_iconst C dX11_walk_8 (v := (-1 : Int32)) (by decide) ?_
    exact s_ireturn C E dX11_walk_9 hf (Nat.le_of_ble_eq_true rfl) (Nat.le_of_ble_eq_true rfl)
/-- HillBoxes.walked(I)I -/
noncomputable def f_X11_walked (o : Option Nat) (a1 : Int32) (h : AH) : Option (Int32 × AH) :=
  jn (
    some ((-1 : Int32), h)) fun j26 =>
  if a1 < (-1 : Int32) then
    j26
  else
    fR h [11] o 3 fun v1 =>
    fI h [10] v1 1 fun v2 =>
    if v2 < 0 then
      j26
    else
      fR h [11] o 3 fun v3 =>
      fI h [10] v3 2 fun v4 =>
      if a1 < v4 then
        jn (fun (x5 : Int32) =>
          some (x5, h)) fun j52 =>
        if a1 = (-1 : Int32) then
          fR h [11] o 3 fun v9 =>
          fI h [10] v9 1 fun v10 =>
          j52 v10
        else
          fR h [11] o 3 fun v6 =>
          fR h [10] v6 3 fun v7 =>
          aI h 20 v7 a1 fun v8 =>
          j52 v8
      else
        j26
set_option maxRecDepth 100000 in
set_option maxHeartbeats 4000000 in
theorem c_X11_walked (l : Launch) (D : DT) (o : Option Nat) (a1 : Int32) (h : AH) (r : Int32 × AH) (hf : f_X11_walked o a1 h = some r) : CM l D yX11_walked cX11_walked 2 (some .int) 0 0 0 0 [.inr (.inr o), .inl a1] h (some (.int r.1)) r.2 := by
  refine CM.of (by decide) (Nat.le_of_ble_eq_true rfl) (fun X hl C hD hX hnm E => ?_)
  subst hl
  subst hD
  have C : CX X RX11 cX11_walked 2 := C
  show WW X h 0 0 0 [some (rB (xD X).1 o), some (.int a1)] []
  unfold f_X11_walked at hf
  refine s_iload_n C dX11_walked_0 rfl ?_
  refine s_iconst C dX11_walked_1 (v := (-1 : Int32)) (by decide) ?_
  refine s_jn hf (fun j26 e26 hf => ?_)
  have k26 : j26  = some r → WW X h 0 0 26 [none, none] [] := by
    intro  hf
    rw [e26] at hf
    refine s_iconst C dX11_walked_26 (v := (-1 : Int32)) (by decide) ?_
    exact s_ireturn C E dX11_walked_27 hf (Nat.le_of_ble_eq_true rfl) (Nat.le_of_ble_eq_true rfl)
  refine s_icmp_lt (tgt := 26) C dX11_walked_2 (by decide) hf (fun hf => ?_) (fun hf => ?_)
  · refine s_weak (lv' := [none, none]) trivial ?_
    exact k26 hf
  · refine s_aload_n C dX11_walked_5 rfl ?_
    refine s_getR C fl_X11_37 dX11_walked_6 hf (fun v1 hf => ?_)
    refine s_getI C fl_X11_395 dX11_walked_9 hf (fun v2 hf => ?_)
    refine s_if_lt (tgt := 26) C dX11_walked_12 (by decide) hf (fun hf => ?_) (fun hf => ?_)
    · refine s_weak (lv' := [none, none]) trivial ?_
      exact k26 hf
    · refine s_iload_n C dX11_walked_15 rfl ?_
      refine s_aload_n C dX11_walked_16 rfl ?_
      refine s_getR C fl_X11_37 dX11_walked_17 hf (fun v3 hf => ?_)
      refine s_getI C fl_X11_398 dX11_walked_20 hf (fun v4 hf => ?_)
      refine s_icmp_lt (tgt := 28) C dX11_walked_23 (by decide) hf (fun hf => ?_) (fun hf => ?_)
      · refine s_iload_n C dX11_walked_28 rfl ?_
        refine s_iconst C dX11_walked_29 (v := (-1 : Int32)) (by decide) ?_
        refine s_jn hf (fun j52 e52 hf => ?_)
        have k52 : ∀ (x5 : Int32), j52 x5 = some r → WW X h 0 0 52 [none, none] [.int x5] := by
          intro x5 hf
          rw [e52] at hf
          exact s_ireturn C E dX11_walked_52 hf (Nat.le_of_ble_eq_true rfl) (Nat.le_of_ble_eq_true rfl)
        refine s_icmp_ne (tgt := 43) C dX11_walked_30 (by decide) hf (fun hf => ?_) (fun hf => ?_)
        · refine s_aload_n C dX11_walked_43 rfl ?_
          refine s_getR C fl_X11_37 dX11_walked_44 hf (fun v6 hf => ?_)
          refine s_getR C fl_X11_401 dX11_walked_47 hf (fun v7 hf => ?_)
          refine s_iload_n C dX11_walked_50 rfl ?_
          refine s_iaload C dX11_walked_51 hf (fun v8 hf => ?_)
          refine s_weak (lv' := [none, none]) trivial ?_
          exact k52 _ hf
        · refine s_aload_n C dX11_walked_33 rfl ?_
          refine s_getR C fl_X11_37 dX11_walked_34 hf (fun v9 hf => ?_)
          refine s_getI C fl_X11_395 dX11_walked_37 hf (fun v10 hf => ?_)
          refine s_goto (tgt := 52) C dX11_walked_40 (by decide) ?_
          refine s_weak (lv' := [none, none]) trivial ?_
          exact k52 _ hf
      · refine s_weak (lv' := [none, none]) trivial ?_
        exact k26 hf
/-- HillBoxes.why(IIII)I -/
noncomputable def f_X11_why (o : Option Nat) (a1 : Int32) (a2 : Int32) (a3 : Int32) (a4 : Int32) (h : AH) : Option (Int32 × AH) :=
  fR h [11] o 0 fun v1 =>
  rO h [3] v1 <| cl (f_X3_finderAt v1 a1 h) fun v3 h2 =>
  jn (fun (h4 : AH) =>
    some ((-1 : Int32), h4)) fun j35 =>
  if v3 = none then
    j35 h2
  else
    rO h2 [11] o <| cl (f_X11_mayBeAsked o a2 a3 h2) fun v6 h5 =>
    if v6 = 0 then
      j35 h5
    else
      if a4 < 0 then
        j35 h5
      else
        if a4 ≤ (1 : Int32) then
          fR h5 [11] o 1 fun v7 =>
          rO h5 [6] v7 <| cl (f_X6_whyNot v7 v3 a2 a3 h5) fun v9 h8 =>
          jn (fun (x10 : Int32) (h11 : AH) =>
            some (x10, h11)) fun j65 =>
          if a4 = 0 then
            cl (f_X11_asToldToTheAsker v9 h8) fun v13 h12 =>
            j65 v13 h12
          else
            j65 v9 h8
        else
          j35 h5
set_option maxRecDepth 100000 in
set_option maxHeartbeats 4000000 in
theorem c_X11_why (l : Launch) (D : DT) (o : Option Nat) (a1 : Int32) (a2 : Int32) (a3 : Int32) (a4 : Int32) (h : AH) (r : Int32 × AH) (hf : f_X11_why o a1 a2 a3 a4 h = some r) : CM l D yX11_why cX11_why 7 (some .int) 7 174 0 0 [.inr (.inr o), .inl a1, .inl a2, .inl a3, .inl a4] h (some (.int r.1)) r.2 := by
  refine CM.of (by decide) (Nat.le_of_ble_eq_true rfl) (fun X hl C hD hX hnm E => ?_)
  subst hl
  subst hD
  have C : CX X RX11 cX11_why 7 := C
  show WW X h 0 0 0 [some (rB (xD X).1 o), some (.int a1), some (.int a2), some (.int a3), some (.int a4), none, none] []
  unfold f_X11_why at hf
  refine s_aload_n C dX11_why_0 rfl ?_
  refine s_getR C fl_X11_10 dX11_why_1 hf (fun v1 hf => ?_)
  refine s_iload_n C dX11_why_4 rfl ?_
  refine s_callV (rvf := fun x => some (rB (xD X).1 x)) (st := []) (fr := 0) (lo := 0) (mc := 0) (ms := 0) C [3] wc_X3_finderAt wml_X11_90 wim_X3_finderAt wsl_3_X3_finderAt dX11_why_5 (As := [.inl a1]) rfl hf (fun x h' hF => c_X3_finderAt _ _ _ _ _ (x, h') hF) rfl (Nat.le_of_ble_eq_true rfl) (room_ok hX (Nat.le_of_ble_eq_true rfl) (Nat.le_of_ble_eq_true rfl)) (cell_ok hX (Nat.le_of_ble_eq_true rfl) (Nat.le_of_ble_eq_true rfl)) (fun v3 h2 hf => ?_)
  refine s_astore C dX11_why_8 (by decide) (nc_i rfl) (lv' := [some (rB (xD X).1 o), some (.int a1), some (.int a2), some (.int a3), some (.int a4), some (rB (xD X).1 v3), none]) rfl ?_
  refine s_aload C dX11_why_10 rfl ?_
  refine s_jn hf (fun j35 e35 hf => ?_)
  have k35 : ∀ (h4 : AH), j35 h4 = some r → WW X h4 0 0 35 [none, none, none, none, none, none, none] [] := by
    intro h4 hf
    rw [e35] at hf
    refine s_iconst C dX11_why_35 (v := (-1 : Int32)) (by decide) ?_
    exact s_ireturn C E dX11_why_36 hf (Nat.le_of_ble_eq_true rfl) (Nat.le_of_ble_eq_true rfl)
  refine s_ifnull (tgt := 35) C dX11_why_12 (by decide) hf (fun hf => ?_) (fun hf => ?_)
  · refine s_weak (lv' := [none, none, none, none, none, none, none]) trivial ?_
    exact k35 _ hf
  · refine s_aload_n C dX11_why_15 rfl ?_
    refine s_iload_n C dX11_why_16 rfl ?_
    refine s_iload_n C dX11_why_17 rfl ?_
    refine s_callV (rvf := fun x => some (.int x)) (st := []) (fr := 1) (lo := 20) (mc := 0) (ms := 0) C [11] wc_X11_mayBeAsked wml_X11_106 wim_X11_mayBeAsked wsl_11_X11_mayBeAsked dX11_why_18 (As := [.inl a2, .inl a3]) rfl hf (fun x h' hF => c_X11_mayBeAsked _ _ _ _ _ _ (x, h') hF) rfl (Nat.le_of_ble_eq_true rfl) (room_ok hX (Nat.le_of_ble_eq_true rfl) (Nat.le_of_ble_eq_true rfl)) (cell_ok hX (Nat.le_of_ble_eq_true rfl) (Nat.le_of_ble_eq_true rfl)) (fun v6 h5 hf => ?_)
    refine s_if_eq (tgt := 35) C dX11_why_21 (by decide) hf (fun hf => ?_) (fun hf => ?_)
    · refine s_weak (lv' := [none, none, none, none, none, none, none]) trivial ?_
      exact k35 _ hf
    · refine s_iload C dX11_why_24 rfl ?_
      refine s_if_lt (tgt := 35) C dX11_why_26 (by decide) hf (fun hf => ?_) (fun hf => ?_)
      · refine s_weak (lv' := [none, none, none, none, none, none, none]) trivial ?_
        exact k35 _ hf
      · refine s_iload C dX11_why_29 rfl ?_
        refine s_iconst C dX11_why_31 (v := (1 : Int32)) (by decide) ?_
        refine s_icmp_le (tgt := 37) C dX11_why_32 (by decide) hf (fun hf => ?_) (fun hf => ?_)
        · refine s_aload_n C dX11_why_37 rfl ?_
          refine s_getR C fl_X11_21 dX11_why_38 hf (fun v7 hf => ?_)
          refine s_aload C dX11_why_41 rfl ?_
          refine s_iload_n C dX11_why_43 rfl ?_
          refine s_iload_n C dX11_why_44 rfl ?_
          refine s_callV (rvf := fun x => some (.int x)) (st := []) (fr := 6) (lo := 148) (mc := 0) (ms := 0) C [6] wc_X6_whyNot wml_X11_110 wim_X6_whyNot wsl_6_X6_whyNot dX11_why_45 (As := [.inr (.inr v3), .inl a2, .inl a3]) rfl hf (fun x h' hF => c_X6_whyNot _ _ _ _ _ _ _ (x, h') hF) rfl (Nat.le_of_ble_eq_true rfl) (room_ok hX (Nat.le_of_ble_eq_true rfl) (Nat.le_of_ble_eq_true rfl)) (cell_ok hX (Nat.le_of_ble_eq_true rfl) (Nat.le_of_ble_eq_true rfl)) (fun v9 h8 hf => ?_)
          refine s_istore C dX11_why_48 (by decide) (nc_r rfl) (lv' := [some (rB (xD X).1 o), some (.int a1), some (.int a2), some (.int a3), some (.int a4), some (rB (xD X).1 v3), some (.int v9)]) rfl ?_
          refine s_iload C dX11_why_50 rfl ?_
          refine s_jn hf (fun j65 e65 hf => ?_)
          have k65 : ∀ (x10 : Int32) (h11 : AH), j65 x10 h11 = some r → WW X h11 0 0 65 [none, none, none, none, none, none, none] [.int x10] := by
            intro x10 h11 hf
            rw [e65] at hf
            exact s_ireturn C E dX11_why_65 hf (Nat.le_of_ble_eq_true rfl) (Nat.le_of_ble_eq_true rfl)
          refine s_if_ne (tgt := 63) C dX11_why_52 (by decide) hf (fun hf => ?_) (fun hf => ?_)
          · refine s_iload C dX11_why_63 rfl ?_
            refine s_weak (lv' := [none, none, none, none, none, none, none]) trivial ?_
            exact k65 _ _ hf
          · refine s_iload C dX11_why_55 rfl ?_
            refine s_callS (rvf := fun x => some (.int x)) (st := []) (fr := 0) (lo := 0) (mc := 0) (ms := 0) C wc_X11_asToldToTheAsker wml_X11_114 wst_X11_asToldToTheAsker dX11_why_57 (As := [.inl v9]) rfl hf (fun x h' hF => c_X11_asToldToTheAsker _ _ _ _ (x, h') hF) rfl (Nat.le_of_ble_eq_true rfl) (room_ok hX (Nat.le_of_ble_eq_true rfl) (Nat.le_of_ble_eq_true rfl)) (cell_ok hX (Nat.le_of_ble_eq_true rfl) (Nat.le_of_ble_eq_true rfl)) (fun v13 h12 hf => ?_)
            refine s_goto (tgt := 65) C dX11_why_60 (by decide) ?_
            refine s_weak (lv' := [none, none, none, none, none, none, none]) trivial ?_
            exact k65 _ _ hf
        · refine s_weak (lv' := [none, none, none, none, none, none, none]) trivial ?_
          exact k35 _ hf
/-- HillBoxes$Walks.isWished(I)Z -/
noncomputable def f_X10_isWished (o : Option Nat) (a1 : Int32) (h : AH) : Option (Int32 × AH) :=
  lp (fun _ => none) (fun (L2 : Int32 → Option (Int32 × AH)) (x1 : Int32) =>
    fI h [10] o 0 fun v2 =>
    if v2 ≤ x1 then
      rz (0 : Int32) h
    else
      fR h [10] o 4 fun v3 =>
      aR h 26 v3 x1 fun v4 =>
      jn (
        L2 (x1 + 1)) fun j34 =>
      if v4 = none then
        j34
      else
        fR h [10] o 4 fun v5 =>
        aR h 26 v5 x1 fun v6 =>
        fI h [1] v6 0 fun v7 =>
        if v7 = a1 then
          rz (1 : Int32) h
        else
          j34) lpN (0 : Int32)
set_option maxRecDepth 100000 in
set_option maxHeartbeats 4000000 in
theorem c_X10_isWished (l : Launch) (D : DT) (o : Option Nat) (a1 : Int32) (h : AH) (r : Int32 × AH) (hf : f_X10_isWished o a1 h = some r) : CM l D yX10_isWished cX10_isWished 3 (some .boolean) 0 0 0 0 [.inr (.inr o), .inl a1] h (some (.int r.1)) r.2 := by
  refine CM.of (by decide) (Nat.le_of_ble_eq_true rfl) (fun X hl C hD hX hnm E => ?_)
  subst hl
  subst hD
  have C : CX X RX10 cX10_isWished 3 := C
  show WW X h 0 0 0 [some (rB (xD X).1 o), some (.int a1), none] []
  unfold f_X10_isWished at hf
  refine s_iconst C dX10_isWished_0 (v := (0 : Int32)) (by decide) ?_
  refine s_istore_n C dX10_isWished_1 (by decide) (nc_i rfl) (lv' := [some (rB (xD X).1 o), some (.int a1), some (.int (0 : Int32))]) rfl ?_
  refine s_lp1 hf (fun G2 z2 q2 hf => ?_)
  have k2 : ∀ (n : Nat) (x1 : Int32), G2 n x1 = some r → WW X h 0 0 2 [some (rB (xD X).1 o), some (.int a1), some (.int x1)] [] := by
    intro n
    induction n with
    | zero =>
      intro x1 hf
      rw [z2] at hf
      cases hf
    | succ n ih2 =>
      intro x1 hf
      have hf := (q2 n x1).symm.trans hf
      refine s_iload_n C dX10_isWished_2 rfl ?_
      refine s_aload_n C dX10_isWished_3 rfl ?_
      refine s_getI C fl_X10_37 dX10_isWished_4 hf (fun v2 hf => ?_)
      refine s_icmp_ge (tgt := 40) C dX10_isWished_7 (by decide) hf (fun hf => ?_) (fun hf => ?_)
      · refine s_iconst C dX10_isWished_40 (v := (0 : Int32)) (by decide) ?_
        exact s_zreturn C E dX10_isWished_41 hf (Nat.le_of_ble_eq_true rfl) (Nat.le_of_ble_eq_true rfl)
      · refine s_aload_n C dX10_isWished_10 rfl ?_
        refine s_getR C fl_X10_21 dX10_isWished_11 hf (fun v3 hf => ?_)
        refine s_iload_n C dX10_isWished_14 rfl ?_
        refine s_aaload C dX10_isWished_15 (by decide) hf (fun v4 hf => ?_)
        refine s_jn hf (fun j34 e34 hf => ?_)
        have k34 : j34  = some r → WW X h 0 0 34 [some (rB (xD X).1 o), some (.int a1), some (.int x1)] [] := by
          intro  hf
          rw [e34] at hf
          refine s_iinc C dX10_isWished_34 (v := (x1 + 1)) rfl rfl (by decide) (nc_i rfl) (lv' := [some (rB (xD X).1 o), some (.int a1), some (.int (x1 + 1))]) rfl ?_
          refine s_goto (tgt := 2) C dX10_isWished_37 (by decide) ?_
          exact ih2 _ hf
        refine s_ifnull (tgt := 34) C dX10_isWished_16 (by decide) hf (fun hf => ?_) (fun hf => ?_)
        · exact k34 hf
        · refine s_aload_n C dX10_isWished_19 rfl ?_
          refine s_getR C fl_X10_21 dX10_isWished_20 hf (fun v5 hf => ?_)
          refine s_iload_n C dX10_isWished_23 rfl ?_
          refine s_aaload C dX10_isWished_24 (by decide) hf (fun v6 hf => ?_)
          refine s_getI C fl_X10_40 dX10_isWished_25 hf (fun v7 hf => ?_)
          refine s_iload_n C dX10_isWished_28 rfl ?_
          refine s_icmp_ne (tgt := 34) C dX10_isWished_29 (by decide) hf (fun hf => ?_) (fun hf => ?_)
          · exact k34 hf
          · refine s_iconst C dX10_isWished_32 (v := (1 : Int32)) (by decide) ?_
            exact s_zreturn C E dX10_isWished_33 hf (Nat.le_of_ble_eq_true rfl) (Nat.le_of_ble_eq_true rfl)
  exact k2 lpN _ hf
/-- HillBoxes$Walks.wishFor(LHillBoxes$Box;II)I -/
noncomputable def f_X10_wishFor (o : Option Nat) (a1 : Option Nat) (a2 : Int32) (a3 : Int32) (h : AH) : Option (Int32 × AH) :=
  fR h [10] o 4 fun v1 =>
  fI h [10] o 0 fun v2 =>
  bR h 26 (elX 26) v1 v2 a1 fun h3 =>
  fR h3 [10] o 5 fun v4 =>
  fI h3 [10] o 0 fun v5 =>
  bI h3 20 v4 v5 a2 fun h6 =>
  fR h6 [10] o 6 fun v7 =>
  fI h6 [10] o 0 fun v8 =>
  bI h6 20 v7 v8 a3 fun h9 =>
  fI h9 [10] o 0 fun v10 =>
  pI h9 [10] o 0 (v10 + (1 : Int32)) fun h11 =>
  fI h11 [10] o 0 fun v12 =>
  some (v12, h11)
set_option maxRecDepth 100000 in
set_option maxHeartbeats 4000000 in
theorem c_X10_wishFor (l : Launch) (D : DT) (o : Option Nat) (a1 : Option Nat) (a2 : Int32) (a3 : Int32) (h : AH) (r : Int32 × AH) (hf : f_X10_wishFor o a1 a2 a3 h = some r) : CM l D yX10_wishFor cX10_wishFor 4 (some .int) 0 0 0 0 [.inr (.inr o), .inr (.inr a1), .inl a2, .inl a3] h (some (.int r.1)) r.2 := by
  refine CM.of (by decide) (Nat.le_of_ble_eq_true rfl) (fun X hl C hD hX hnm E => ?_)
  subst hl
  subst hD
  have C : CX X RX10 cX10_wishFor 4 := C
  show WW X h 0 0 0 [some (rB (xD X).1 o), some (rB (xD X).1 a1), some (.int a2), some (.int a3)] []
  unfold f_X10_wishFor at hf
  refine s_aload_n C dX10_wishFor_0 rfl ?_
  refine s_getR C fl_X10_21 dX10_wishFor_1 hf (fun v1 hf => ?_)
  refine s_aload_n C dX10_wishFor_4 rfl ?_
  refine s_getI C fl_X10_37 dX10_wishFor_5 hf (fun v2 hf => ?_)
  refine s_aload_n C dX10_wishFor_8 rfl ?_
  refine s_aastore C (by decide) (hcast C) dX10_wishFor_9 hf (fun h3 hf => ?_)
  refine s_aload_n C dX10_wishFor_10 rfl ?_
  refine s_getR C fl_X10_25 dX10_wishFor_11 hf (fun v4 hf => ?_)
  refine s_aload_n C dX10_wishFor_14 rfl ?_
  refine s_getI C fl_X10_37 dX10_wishFor_15 hf (fun v5 hf => ?_)
  refine s_iload_n C dX10_wishFor_18 rfl ?_
  refine s_iastore C dX10_wishFor_19 hf (fun h6 hf => ?_)
  refine s_aload_n C dX10_wishFor_20 rfl ?_
  refine s_getR C fl_X10_28 dX10_wishFor_21 hf (fun v7 hf => ?_)
  refine s_aload_n C dX10_wishFor_24 rfl ?_
  refine s_getI C fl_X10_37 dX10_wishFor_25 hf (fun v8 hf => ?_)
  refine s_iload_n C dX10_wishFor_28 rfl ?_
  refine s_iastore C dX10_wishFor_29 hf (fun h9 hf => ?_)
  refine s_aload_n C dX10_wishFor_30 rfl ?_
  refine s_dup C dX10_wishFor_31 c1_r ?_
  refine s_getI C fl_X10_37 dX10_wishFor_32 hf (fun v10 hf => ?_)
  refine s_iconst C dX10_wishFor_35 (v := (1 : Int32)) (by decide) ?_
  refine s_iadd C dX10_wishFor_36 ?_
  refine s_putI C fl_X10_37 (by decide) dX10_wishFor_37 hf (fun h11 hf => ?_)
  refine s_aload_n C dX10_wishFor_40 rfl ?_
  refine s_getI C fl_X10_37 dX10_wishFor_41 hf (fun v12 hf => ?_)
  exact s_ireturn C E dX10_wishFor_44 hf (Nat.le_of_ble_eq_true rfl) (Nat.le_of_ble_eq_true rfl)
/-- HillBoxes.wish(III)I -/
noncomputable def f_X11_wish (o : Option Nat) (a1 : Int32) (a2 : Int32) (a3 : Int32) (h : AH) : Option (Int32 × AH) :=
  fR h [11] o 0 fun v1 =>
  rO h [3] v1 <| cl (f_X3_boxAt v1 a1 h) fun v3 h2 =>
  jn (fun (h4 : AH) =>
    some ((-1 : Int32), h4)) fun j55 =>
  if v3 = none then
    j55 h2
  else
    rO h2 [1] v3 <| cl (f_X1_isDown v3 h2) fun v6 h5 =>
    if v6 = 0 then
      fR h5 [11] o 3 fun v7 =>
      rO h5 [10] v7 <| cl (f_X10_isWished v7 a1 h5) fun v9 h8 =>
      if v9 = 0 then
        if a2 < (1 : Int32) then
          j55 h8
        else
          if (99 : Int32) < a2 then
            j55 h8
          else
            if a3 < 0 then
              j55 h8
            else
              if a3 ≤ (9 : Int32) then
                fR h8 [11] o 3 fun v10 =>
                fI h8 [10] v10 0 fun v11 =>
                if v11 < (7 : Int32) then
                  fR h8 [11] o 3 fun v12 =>
                  rO h8 [10] v12 <| cl (f_X10_wishFor v12 v3 a2 a3 h8) fun v14 h13 =>
                  some (v14, h13)
                else
                  some ((-3 : Int32), h8)
              else
                j55 h8
      else
        j55 h8
    else
      j55 h5
set_option maxRecDepth 100000 in
set_option maxHeartbeats 4000000 in
theorem c_X11_wish (l : Launch) (D : DT) (o : Option Nat) (a1 : Int32) (a2 : Int32) (a3 : Int32) (h : AH) (r : Int32 × AH) (hf : f_X11_wish o a1 a2 a3 h = some r) : CM l D yX11_wish cX11_wish 5 (some .int) 1 23 0 0 [.inr (.inr o), .inl a1, .inl a2, .inl a3] h (some (.int r.1)) r.2 := by
  refine CM.of (by decide) (Nat.le_of_ble_eq_true rfl) (fun X hl C hD hX hnm E => ?_)
  subst hl
  subst hD
  have C : CX X RX11 cX11_wish 5 := C
  show WW X h 0 0 0 [some (rB (xD X).1 o), some (.int a1), some (.int a2), some (.int a3), none] []
  unfold f_X11_wish at hf
  refine s_aload_n C dX11_wish_0 rfl ?_
  refine s_getR C fl_X11_10 dX11_wish_1 hf (fun v1 hf => ?_)
  refine s_iload_n C dX11_wish_4 rfl ?_
  refine s_callV (rvf := fun x => some (rB (xD X).1 x)) (st := []) (fr := 0) (lo := 0) (mc := 0) (ms := 0) C [3] wc_X3_boxAt wml_X11_130 wim_X3_boxAt wsl_3_X3_boxAt dX11_wish_5 (As := [.inl a1]) rfl hf (fun x h' hF => c_X3_boxAt _ _ _ _ _ (x, h') hF) rfl (Nat.le_of_ble_eq_true rfl) (room_ok hX (Nat.le_of_ble_eq_true rfl) (Nat.le_of_ble_eq_true rfl)) (cell_ok hX (Nat.le_of_ble_eq_true rfl) (Nat.le_of_ble_eq_true rfl)) (fun v3 h2 hf => ?_)
  refine s_astore C dX11_wish_8 (by decide) (nc_i rfl) (lv' := [some (rB (xD X).1 o), some (.int a1), some (.int a2), some (.int a3), some (rB (xD X).1 v3)]) rfl ?_
  refine s_aload C dX11_wish_10 rfl ?_
  refine s_jn hf (fun j55 e55 hf => ?_)
  have k55 : ∀ (h4 : AH), j55 h4 = some r → WW X h4 0 0 55 [none, none, none, none, none] [] := by
    intro h4 hf
    rw [e55] at hf
    refine s_iconst C dX11_wish_55 (v := (-1 : Int32)) (by decide) ?_
    exact s_ireturn C E dX11_wish_56 hf (Nat.le_of_ble_eq_true rfl) (Nat.le_of_ble_eq_true rfl)
  refine s_ifnull (tgt := 55) C dX11_wish_12 (by decide) hf (fun hf => ?_) (fun hf => ?_)
  · refine s_weak (lv' := [none, none, none, none, none]) trivial ?_
    exact k55 _ hf
  · refine s_aload C dX11_wish_15 rfl ?_
    refine s_callV (rvf := fun x => some (.int x)) (st := []) (fr := 0) (lo := 0) (mc := 0) (ms := 0) C [1] wc_X1_isDown wml_X11_137 wim_X1_isDown wsl_1_X1_isDown dX11_wish_17 (As := []) rfl hf (fun x h' hF => c_X1_isDown _ _ _ _ (x, h') hF) rfl (Nat.le_of_ble_eq_true rfl) (room_ok hX (Nat.le_of_ble_eq_true rfl) (Nat.le_of_ble_eq_true rfl)) (cell_ok hX (Nat.le_of_ble_eq_true rfl) (Nat.le_of_ble_eq_true rfl)) (fun v6 h5 hf => ?_)
    refine s_if_ne (tgt := 55) C dX11_wish_20 (by decide) hf (fun hf => ?_) (fun hf => ?_)
    · refine s_weak (lv' := [none, none, none, none, none]) trivial ?_
      exact k55 _ hf
    · refine s_aload_n C dX11_wish_23 rfl ?_
      refine s_getR C fl_X11_37 dX11_wish_24 hf (fun v7 hf => ?_)
      refine s_iload_n C dX11_wish_27 rfl ?_
      refine s_callV (rvf := fun x => some (.int x)) (st := []) (fr := 0) (lo := 0) (mc := 0) (ms := 0) C [10] wc_X10_isWished wml_X11_376 wim_X10_isWished wsl_10_X10_isWished dX11_wish_28 (As := [.inl a1]) rfl hf (fun x h' hF => c_X10_isWished _ _ _ _ _ (x, h') hF) rfl (Nat.le_of_ble_eq_true rfl) (room_ok hX (Nat.le_of_ble_eq_true rfl) (Nat.le_of_ble_eq_true rfl)) (cell_ok hX (Nat.le_of_ble_eq_true rfl) (Nat.le_of_ble_eq_true rfl)) (fun v9 h8 hf => ?_)
      refine s_if_ne (tgt := 55) C dX11_wish_31 (by decide) hf (fun hf => ?_) (fun hf => ?_)
      · refine s_weak (lv' := [none, none, none, none, none]) trivial ?_
        exact k55 _ hf
      · refine s_iload_n C dX11_wish_34 rfl ?_
        refine s_iconst C dX11_wish_35 (v := (1 : Int32)) (by decide) ?_
        refine s_icmp_lt (tgt := 55) C dX11_wish_36 (by decide) hf (fun hf => ?_) (fun hf => ?_)
        · refine s_weak (lv' := [none, none, none, none, none]) trivial ?_
          exact k55 _ hf
        · refine s_iload_n C dX11_wish_39 rfl ?_
          refine s_bipush C dX11_wish_40 (v := (99 : Int32)) (by decide) ?_
          refine s_icmp_gt (tgt := 55) C dX11_wish_42 (by decide) hf (fun hf => ?_) (fun hf => ?_)
          · refine s_weak (lv' := [none, none, none, none, none]) trivial ?_
            exact k55 _ hf
          · refine s_iload_n C dX11_wish_45 rfl ?_
            refine s_if_lt (tgt := 55) C dX11_wish_46 (by decide) hf (fun hf => ?_) (fun hf => ?_)
            · refine s_weak (lv' := [none, none, none, none, none]) trivial ?_
              exact k55 _ hf
            · refine s_iload_n C dX11_wish_49 rfl ?_
              refine s_bipush C dX11_wish_50 (v := (9 : Int32)) (by decide) ?_
              refine s_icmp_le (tgt := 57) C dX11_wish_52 (by decide) hf (fun hf => ?_) (fun hf => ?_)
              · refine s_aload_n C dX11_wish_57 rfl ?_
                refine s_getR C fl_X11_37 dX11_wish_58 hf (fun v10 hf => ?_)
                refine s_getI C fl_X11_379 dX11_wish_61 hf (fun v11 hf => ?_)
                refine s_bipush C dX11_wish_64 (v := (7 : Int32)) (by decide) ?_
                refine s_icmp_lt (tgt := 72) C dX11_wish_66 (by decide) hf (fun hf => ?_) (fun hf => ?_)
                · refine s_aload_n C dX11_wish_72 rfl ?_
                  refine s_getR C fl_X11_37 dX11_wish_73 hf (fun v12 hf => ?_)
                  refine s_aload C dX11_wish_76 rfl ?_
                  refine s_iload_n C dX11_wish_78 rfl ?_
                  refine s_iload_n C dX11_wish_79 rfl ?_
                  refine s_callV (rvf := fun x => some (.int x)) (st := []) (fr := 0) (lo := 0) (mc := 0) (ms := 0) C [10] wc_X10_wishFor wml_X11_382 wim_X10_wishFor wsl_10_X10_wishFor dX11_wish_80 (As := [.inr (.inr v3), .inl a2, .inl a3]) rfl hf (fun x h' hF => c_X10_wishFor _ _ _ _ _ _ _ (x, h') hF) rfl (Nat.le_of_ble_eq_true rfl) (room_ok hX (Nat.le_of_ble_eq_true rfl) (Nat.le_of_ble_eq_true rfl)) (cell_ok hX (Nat.le_of_ble_eq_true rfl) (Nat.le_of_ble_eq_true rfl)) (fun v14 h13 hf => ?_)
                  exact s_ireturn C E dX11_wish_83 hf (Nat.le_of_ble_eq_true rfl) (Nat.le_of_ble_eq_true rfl)
                · refine s_bipush C dX11_wish_69 (v := (-3 : Int32)) (by decide) ?_
                  exact s_ireturn C E dX11_wish_71 hf (Nat.le_of_ble_eq_true rfl) (Nat.le_of_ble_eq_true rfl)
              · refine s_weak (lv' := [none, none, none, none, none]) trivial ?_
                exact k55 _ hf
/-- HillBoxesModel.<init>()V -/
noncomputable def f_X12_init (o : Option Nat) (h : AH) : Option (Unit × AH) :=
  rO h [12] o <|
  nO h 20 60 fun v1 h2 =>
  pR h2 [12] o 2 v1 fun h3 =>
  nO h3 20 150 fun v4 h5 =>
  pR h5 [12] o 4 v4 fun h6 =>
  nO h6 20 150 fun v7 h8 =>
  pR h8 [12] o 5 v7 fun h9 =>
  nO h9 20 150 fun v10 h11 =>
  pR h11 [12] o 6 v10 fun h12 =>
  nO h12 20 150 fun v13 h14 =>
  pR h14 [12] o 7 v13 fun h15 =>
  nO h15 20 150 fun v16 h17 =>
  pR h17 [12] o 8 v16 fun h18 =>
  nO h18 20 150 fun v19 h20 =>
  pR h20 [12] o 9 v19 fun h21 =>
  nO h21 20 600 fun v22 h23 =>
  pR h23 [12] o 10 v22 fun h24 =>
  nO h24 20 4 fun v25 h26 =>
  pR h26 [12] o 12 v25 fun h27 =>
  nO h27 20 200 fun v28 h29 =>
  pR h29 [12] o 14 v28 fun h30 =>
  nO h30 20 200 fun v31 h32 =>
  pR h32 [12] o 15 v31 fun h33 =>
  nO h33 20 200 fun v34 h35 =>
  pR h35 [12] o 16 v34 fun h36 =>
  nO h36 20 300 fun v37 h38 =>
  pR h38 [12] o 18 v37 fun h39 =>
  nO h39 20 300 fun v40 h41 =>
  pR h41 [12] o 19 v40 fun h42 =>
  nO h42 20 300 fun v43 h44 =>
  pR h44 [12] o 20 v43 fun h45 =>
  nO h45 23 300 fun v46 h47 =>
  pR h47 [12] o 21 v46 fun h48 =>
  nO h48 20 150 fun v49 h50 =>
  pR h50 [12] o 22 v49 fun h51 =>
  nO h51 21 6000 fun v52 h53 =>
  pR h53 [12] o 23 v52 fun h54 =>
  nO h54 22 160 fun v55 h56 =>
  pR h56 [12] o 24 v55 fun h57 =>
  nO h57 20 21 fun v58 h59 =>
  pR h59 [12] o 34 v58 fun h60 =>
  nO h60 20 21 fun v61 h62 =>
  pR h62 [12] o 35 v61 fun h63 =>
  nO h63 20 21 fun v64 h65 =>
  pR h65 [12] o 36 v64 fun h66 =>
  nO h66 20 21 fun v67 h68 =>
  pR h68 [12] o 37 v67 fun h69 =>
  nO h69 22 1701 fun v70 h71 =>
  pR h71 [12] o 38 v70 fun h72 =>
  nO h72 21 1701 fun v73 h74 =>
  pR h74 [12] o 39 v73 fun h75 =>
  nO h75 21 1701 fun v76 h77 =>
  pR h77 [12] o 40 v76 fun h78 =>
  nO h78 22 3570 fun v79 h80 =>
  pR h80 [12] o 41 v79 fun h81 =>
  nO h81 20 3570 fun v82 h83 =>
  pR h83 [12] o 42 v82 fun h84 =>
  nO h84 20 11 fun v85 h86 =>
  pR h86 [12] o 43 v85 fun h87 =>
  nO h87 20 170 fun v88 h89 =>
  pR h89 [12] o 44 v88 fun h90 =>
  nO h90 22 150 fun v91 h92 =>
  pR h92 [12] o 46 v91 fun h93 =>
  nO h93 22 1200 fun v94 h95 =>
  pR h95 [12] o 47 v94 fun h96 =>
  nO h96 22 1200 fun v97 h98 =>
  pR h98 [12] o 48 v97 fun h99 =>
  nO h99 22 1200 fun v100 h101 =>
  pR h101 [12] o 49 v100 fun h102 =>
  nO h102 22 1200 fun v103 h104 =>
  pR h104 [12] o 50 v103 fun h105 =>
  nO h105 20 6 fun v106 h107 =>
  pR h107 [12] o 51 v106 fun h108 =>
  nO h108 20 150 fun v109 h110 =>
  pR h110 [12] o 59 v109 fun h111 =>
  nO h111 21 1800 fun v112 h113 =>
  pR h113 [12] o 60 v112 fun h114 =>
  nO h114 23 1800 fun v115 h116 =>
  pR h116 [12] o 61 v115 fun h117 =>
  nO h117 22 150 fun v118 h119 =>
  pR h119 [12] o 62 v118 fun h120 =>
  nO h120 21 1200 fun v121 h122 =>
  pR h122 [12] o 63 v121 fun h123 =>
  nO h123 23 150 fun v124 h125 =>
  pR h125 [12] o 64 v124 fun h126 =>
  nO h126 20 7 fun v127 h128 =>
  pR h128 [12] o 66 v127 fun h129 =>
  nO h129 20 7 fun v130 h131 =>
  pR h131 [12] o 67 v130 fun h132 =>
  nO h132 20 7 fun v133 h134 =>
  pR h134 [12] o 68 v133 fun h135 =>
  nO h135 20 7 fun v136 h137 =>
  pR h137 [12] o 69 v136 fun h138 =>
  nO h138 20 7 fun v139 h140 =>
  pR h140 [12] o 70 v139 fun h141 =>
  nO h141 20 7 fun v142 h143 =>
  pR h143 [12] o 74 v142 fun h144 =>
  pI h144 [12] o 75 (-1 : Int32) fun h145 =>
  pI h145 [12] o 76 (-1 : Int32) fun h146 =>
  nO h146 22 150 fun v147 h148 =>
  pR h148 [12] o 80 v147 fun h149 =>
  nO h149 24 961 fun v150 h151 =>
  pR h151 [12] o 81 v150 fun h152 =>
  nO h152 20 150 fun v153 h154 =>
  pR h154 [12] o 82 v153 fun h155 =>
  nO h155 23 300 fun v156 h157 =>
  pR h157 [12] o 83 v156 fun h158 =>
  nO h158 20 24 fun v159 h160 =>
  pR h160 [12] o 85 v159 fun h161 =>
  nO h161 20 6 fun v162 h163 =>
  bI h163 20 v162 (0 : Int32) (-1 : Int32) fun h164 =>
  bI h164 20 v162 (1 : Int32) (-1 : Int32) fun h165 =>
  bI h165 20 v162 (2 : Int32) (-1 : Int32) fun h166 =>
  bI h166 20 v162 (3 : Int32) (-1 : Int32) fun h167 =>
  bI h167 20 v162 (4 : Int32) (-1 : Int32) fun h168 =>
  bI h168 20 v162 (5 : Int32) (-1 : Int32) fun h169 =>
  pR h169 [12] o 86 v162 fun h170 =>
  nO h170 20 6 fun v171 h172 =>
  pR h172 [12] o 87 v171 fun h173 =>
  nO h173 24 360 fun v174 h175 =>
  pR h175 [12] o 88 v174 fun h176 =>
  nO h176 24 60 fun v177 h178 =>
  pR h178 [12] o 89 v177 fun h179 =>
  some ((), h179)
set_option maxRecDepth 100000 in
set_option maxHeartbeats 4000000 in
theorem c_X12_init (l : Launch) (D : DT) (o : Option Nat) (h : AH) (r : Unit × AH) (hf : f_X12_init o h = some r) : CM l D yX12_init cX12_init 1 none 1 20 57 34447 [.inr (.inr o)] h none r.2 := by
  refine CM.of (by decide) (Nat.le_of_ble_eq_true rfl) (fun X hl C hD hX hnm E => ?_)
  subst hl
  subst hD
  have C : CX X RX12 cX12_init 1 := C
  show WW X h 0 0 0 [some (rB (xD X).1 o)] []
  unfold f_X12_init at hf
  refine s_aload_n C dX12_init_0 rfl ?_
  refine s_objInit C wml_X12_1 wim_obj wcd_obj dX12_init_1 (cs := [12]) hf (Nat.le_of_ble_eq_true rfl) (room_n hX (Nat.le_of_ble_eq_true rfl) (Nat.le_of_ble_eq_true rfl)) (fun hf => ?_)
  refine s_aload_n C dX12_init_4 rfl ?_
  refine s_bipush C dX12_init_5 (v := (60 : Int32)) (by decide) ?_
  refine s_newarray C (t := 20) (N := 60) rfl (by decide) wac_20 dX12_init_7 (by decide) (by decide) (Nat.le_of_ble_eq_true rfl) hf (cell1 hX (Nat.le_of_ble_eq_true rfl)) (cell2 hX (Nat.le_of_ble_eq_true rfl)) (fun v1 h2 hf => ?_)
  refine s_putFR C fl_X12_7 (by decide +kernel) hnm dX12_init_9 hf (fun h3 hf => ?_)
  refine s_aload_n C dX12_init_12 rfl ?_
  refine s_sipush C dX12_init_13 (v := (150 : Int32)) (by decide) ?_
  refine s_newarray C (t := 20) (N := 150) rfl (by decide) wac_20 dX12_init_16 (by decide) (by decide) (Nat.le_of_ble_eq_true rfl) hf (cell1 hX (Nat.le_of_ble_eq_true rfl)) (cell2 hX (Nat.le_of_ble_eq_true rfl)) (fun v4 h5 hf => ?_)
  refine s_putFR C fl_X12_13 (by decide +kernel) hnm dX12_init_18 hf (fun h6 hf => ?_)
  refine s_aload_n C dX12_init_21 rfl ?_
  refine s_sipush C dX12_init_22 (v := (150 : Int32)) (by decide) ?_
  refine s_newarray C (t := 20) (N := 150) rfl (by decide) wac_20 dX12_init_25 (by decide) (by decide) (Nat.le_of_ble_eq_true rfl) hf (cell1 hX (Nat.le_of_ble_eq_true rfl)) (cell2 hX (Nat.le_of_ble_eq_true rfl)) (fun v7 h8 hf => ?_)
  refine s_putFR C fl_X12_16 (by decide +kernel) hnm dX12_init_27 hf (fun h9 hf => ?_)
  refine s_aload_n C dX12_init_30 rfl ?_
  refine s_sipush C dX12_init_31 (v := (150 : Int32)) (by decide) ?_
  refine s_newarray C (t := 20) (N := 150) rfl (by decide) wac_20 dX12_init_34 (by decide) (by decide) (Nat.le_of_ble_eq_true rfl) hf (cell1 hX (Nat.le_of_ble_eq_true rfl)) (cell2 hX (Nat.le_of_ble_eq_true rfl)) (fun v10 h11 hf => ?_)
  refine s_putFR C fl_X12_19 (by decide +kernel) hnm dX12_init_36 hf (fun h12 hf => ?_)
  refine s_aload_n C dX12_init_39 rfl ?_
  refine s_sipush C dX12_init_40 (v := (150 : Int32)) (by decide) ?_
  refine s_newarray C (t := 20) (N := 150) rfl (by decide) wac_20 dX12_init_43 (by decide) (by decide) (Nat.le_of_ble_eq_true rfl) hf (cell1 hX (Nat.le_of_ble_eq_true rfl)) (cell2 hX (Nat.le_of_ble_eq_true rfl)) (fun v13 h14 hf => ?_)
  refine s_putFR C fl_X12_22 (by decide +kernel) hnm dX12_init_45 hf (fun h15 hf => ?_)
  refine s_aload_n C dX12_init_48 rfl ?_
  refine s_sipush C dX12_init_49 (v := (150 : Int32)) (by decide) ?_
  refine s_newarray C (t := 20) (N := 150) rfl (by decide) wac_20 dX12_init_52 (by decide) (by decide) (Nat.le_of_ble_eq_true rfl) hf (cell1 hX (Nat.le_of_ble_eq_true rfl)) (cell2 hX (Nat.le_of_ble_eq_true rfl)) (fun v16 h17 hf => ?_)
  refine s_putFR C fl_X12_25 (by decide +kernel) hnm dX12_init_54 hf (fun h18 hf => ?_)
  refine s_aload_n C dX12_init_57 rfl ?_
  refine s_sipush C dX12_init_58 (v := (150 : Int32)) (by decide) ?_
  refine s_newarray C (t := 20) (N := 150) rfl (by decide) wac_20 dX12_init_61 (by decide) (by decide) (Nat.le_of_ble_eq_true rfl) hf (cell1 hX (Nat.le_of_ble_eq_true rfl)) (cell2 hX (Nat.le_of_ble_eq_true rfl)) (fun v19 h20 hf => ?_)
  refine s_putFR C fl_X12_28 (by decide +kernel) hnm dX12_init_63 hf (fun h21 hf => ?_)
  refine s_aload_n C dX12_init_66 rfl ?_
  refine s_sipush C dX12_init_67 (v := (600 : Int32)) (by decide) ?_
  refine s_newarray C (t := 20) (N := 600) rfl (by decide) wac_20 dX12_init_70 (by decide) (by decide) (Nat.le_of_ble_eq_true rfl) hf (cell1 hX (Nat.le_of_ble_eq_true rfl)) (cell2 hX (Nat.le_of_ble_eq_true rfl)) (fun v22 h23 hf => ?_)
  refine s_putFR C fl_X12_31 (by decide +kernel) hnm dX12_init_72 hf (fun h24 hf => ?_)
  refine s_aload_n C dX12_init_75 rfl ?_
  refine s_iconst C dX12_init_76 (v := (4 : Int32)) (by decide) ?_
  refine s_newarray C (t := 20) (N := 4) rfl (by decide) wac_20 dX12_init_77 (by decide) (by decide) (Nat.le_of_ble_eq_true rfl) hf (cell1 hX (Nat.le_of_ble_eq_true rfl)) (cell2 hX (Nat.le_of_ble_eq_true rfl)) (fun v25 h26 hf => ?_)
  refine s_putFR C fl_X12_34 (by decide +kernel) hnm dX12_init_79 hf (fun h27 hf => ?_)
  refine s_aload_n C dX12_init_82 rfl ?_
  refine s_sipush C dX12_init_83 (v := (200 : Int32)) (by decide) ?_
  refine s_newarray C (t := 20) (N := 200) rfl (by decide) wac_20 dX12_init_86 (by decide) (by decide) (Nat.le_of_ble_eq_true rfl) hf (cell1 hX (Nat.le_of_ble_eq_true rfl)) (cell2 hX (Nat.le_of_ble_eq_true rfl)) (fun v28 h29 hf => ?_)
  refine s_putFR C fl_X12_37 (by decide +kernel) hnm dX12_init_88 hf (fun h30 hf => ?_)
  refine s_aload_n C dX12_init_91 rfl ?_
  refine s_sipush C dX12_init_92 (v := (200 : Int32)) (by decide) ?_
  refine s_newarray C (t := 20) (N := 200) rfl (by decide) wac_20 dX12_init_95 (by decide) (by decide) (Nat.le_of_ble_eq_true rfl) hf (cell1 hX (Nat.le_of_ble_eq_true rfl)) (cell2 hX (Nat.le_of_ble_eq_true rfl)) (fun v31 h32 hf => ?_)
  refine s_putFR C fl_X12_40 (by decide +kernel) hnm dX12_init_97 hf (fun h33 hf => ?_)
  refine s_aload_n C dX12_init_100 rfl ?_
  refine s_sipush C dX12_init_101 (v := (200 : Int32)) (by decide) ?_
  refine s_newarray C (t := 20) (N := 200) rfl (by decide) wac_20 dX12_init_104 (by decide) (by decide) (Nat.le_of_ble_eq_true rfl) hf (cell1 hX (Nat.le_of_ble_eq_true rfl)) (cell2 hX (Nat.le_of_ble_eq_true rfl)) (fun v34 h35 hf => ?_)
  refine s_putFR C fl_X12_43 (by decide +kernel) hnm dX12_init_106 hf (fun h36 hf => ?_)
  refine s_aload_n C dX12_init_109 rfl ?_
  refine s_sipush C dX12_init_110 (v := (300 : Int32)) (by decide) ?_
  refine s_newarray C (t := 20) (N := 300) rfl (by decide) wac_20 dX12_init_113 (by decide) (by decide) (Nat.le_of_ble_eq_true rfl) hf (cell1 hX (Nat.le_of_ble_eq_true rfl)) (cell2 hX (Nat.le_of_ble_eq_true rfl)) (fun v37 h38 hf => ?_)
  refine s_putFR C fl_X12_46 (by decide +kernel) hnm dX12_init_115 hf (fun h39 hf => ?_)
  refine s_aload_n C dX12_init_118 rfl ?_
  refine s_sipush C dX12_init_119 (v := (300 : Int32)) (by decide) ?_
  refine s_newarray C (t := 20) (N := 300) rfl (by decide) wac_20 dX12_init_122 (by decide) (by decide) (Nat.le_of_ble_eq_true rfl) hf (cell1 hX (Nat.le_of_ble_eq_true rfl)) (cell2 hX (Nat.le_of_ble_eq_true rfl)) (fun v40 h41 hf => ?_)
  refine s_putFR C fl_X12_49 (by decide +kernel) hnm dX12_init_124 hf (fun h42 hf => ?_)
  refine s_aload_n C dX12_init_127 rfl ?_
  refine s_sipush C dX12_init_128 (v := (300 : Int32)) (by decide) ?_
  refine s_newarray C (t := 20) (N := 300) rfl (by decide) wac_20 dX12_init_131 (by decide) (by decide) (Nat.le_of_ble_eq_true rfl) hf (cell1 hX (Nat.le_of_ble_eq_true rfl)) (cell2 hX (Nat.le_of_ble_eq_true rfl)) (fun v43 h44 hf => ?_)
  refine s_putFR C fl_X12_52 (by decide +kernel) hnm dX12_init_133 hf (fun h45 hf => ?_)
  refine s_aload_n C dX12_init_136 rfl ?_
  refine s_sipush C dX12_init_137 (v := (300 : Int32)) (by decide) ?_
  refine s_newarray C (t := 23) (N := 300) rfl (by decide) wac_23 dX12_init_140 (by decide) (by decide) (Nat.le_of_ble_eq_true rfl) hf (cell1 hX (Nat.le_of_ble_eq_true rfl)) (cell2 hX (Nat.le_of_ble_eq_true rfl)) (fun v46 h47 hf => ?_)
  refine s_putFR C fl_X12_55 (by decide +kernel) hnm dX12_init_142 hf (fun h48 hf => ?_)
  refine s_aload_n C dX12_init_145 rfl ?_
  refine s_sipush C dX12_init_146 (v := (150 : Int32)) (by decide) ?_
  refine s_newarray C (t := 20) (N := 150) rfl (by decide) wac_20 dX12_init_149 (by decide) (by decide) (Nat.le_of_ble_eq_true rfl) hf (cell1 hX (Nat.le_of_ble_eq_true rfl)) (cell2 hX (Nat.le_of_ble_eq_true rfl)) (fun v49 h50 hf => ?_)
  refine s_putFR C fl_X12_59 (by decide +kernel) hnm dX12_init_151 hf (fun h51 hf => ?_)
  refine s_aload_n C dX12_init_154 rfl ?_
  refine s_sipush C dX12_init_155 (v := (6000 : Int32)) (by decide) ?_
  refine s_newarray C (t := 21) (N := 6000) rfl (by decide) wac_21 dX12_init_158 (by decide) (by decide) (Nat.le_of_ble_eq_true rfl) hf (cell1 hX (Nat.le_of_ble_eq_true rfl)) (cell2 hX (Nat.le_of_ble_eq_true rfl)) (fun v52 h53 hf => ?_)
  refine s_putFR C fl_X12_62 (by decide +kernel) hnm dX12_init_160 hf (fun h54 hf => ?_)
  refine s_aload_n C dX12_init_163 rfl ?_
  refine s_sipush C dX12_init_164 (v := (160 : Int32)) (by decide) ?_
  refine s_newarray C (t := 22) (N := 160) rfl (by decide) wac_22 dX12_init_167 (by decide) (by decide) (Nat.le_of_ble_eq_true rfl) hf (cell1 hX (Nat.le_of_ble_eq_true rfl)) (cell2 hX (Nat.le_of_ble_eq_true rfl)) (fun v55 h56 hf => ?_)
  refine s_putFR C fl_X12_66 (by decide +kernel) hnm dX12_init_169 hf (fun h57 hf => ?_)
  refine s_aload_n C dX12_init_172 rfl ?_
  refine s_bipush C dX12_init_173 (v := (21 : Int32)) (by decide) ?_
  refine s_newarray C (t := 20) (N := 21) rfl (by decide) wac_20 dX12_init_175 (by decide) (by decide) (Nat.le_of_ble_eq_true rfl) hf (cell1 hX (Nat.le_of_ble_eq_true rfl)) (cell2 hX (Nat.le_of_ble_eq_true rfl)) (fun v58 h59 hf => ?_)
  refine s_putFR C fl_X12_70 (by decide +kernel) hnm dX12_init_177 hf (fun h60 hf => ?_)
  refine s_aload_n C dX12_init_180 rfl ?_
  refine s_bipush C dX12_init_181 (v := (21 : Int32)) (by decide) ?_
  refine s_newarray C (t := 20) (N := 21) rfl (by decide) wac_20 dX12_init_183 (by decide) (by decide) (Nat.le_of_ble_eq_true rfl) hf (cell1 hX (Nat.le_of_ble_eq_true rfl)) (cell2 hX (Nat.le_of_ble_eq_true rfl)) (fun v61 h62 hf => ?_)
  refine s_putFR C fl_X12_73 (by decide +kernel) hnm dX12_init_185 hf (fun h63 hf => ?_)
  refine s_aload_n C dX12_init_188 rfl ?_
  refine s_bipush C dX12_init_189 (v := (21 : Int32)) (by decide) ?_
  refine s_newarray C (t := 20) (N := 21) rfl (by decide) wac_20 dX12_init_191 (by decide) (by decide) (Nat.le_of_ble_eq_true rfl) hf (cell1 hX (Nat.le_of_ble_eq_true rfl)) (cell2 hX (Nat.le_of_ble_eq_true rfl)) (fun v64 h65 hf => ?_)
  refine s_putFR C fl_X12_76 (by decide +kernel) hnm dX12_init_193 hf (fun h66 hf => ?_)
  refine s_aload_n C dX12_init_196 rfl ?_
  refine s_bipush C dX12_init_197 (v := (21 : Int32)) (by decide) ?_
  refine s_newarray C (t := 20) (N := 21) rfl (by decide) wac_20 dX12_init_199 (by decide) (by decide) (Nat.le_of_ble_eq_true rfl) hf (cell1 hX (Nat.le_of_ble_eq_true rfl)) (cell2 hX (Nat.le_of_ble_eq_true rfl)) (fun v67 h68 hf => ?_)
  refine s_putFR C fl_X12_79 (by decide +kernel) hnm dX12_init_201 hf (fun h69 hf => ?_)
  refine s_aload_n C dX12_init_204 rfl ?_
  refine s_sipush C dX12_init_205 (v := (1701 : Int32)) (by decide) ?_
  refine s_newarray C (t := 22) (N := 1701) rfl (by decide) wac_22 dX12_init_208 (by decide) (by decide) (Nat.le_of_ble_eq_true rfl) hf (cell1 hX (Nat.le_of_ble_eq_true rfl)) (cell2 hX (Nat.le_of_ble_eq_true rfl)) (fun v70 h71 hf => ?_)
  refine s_putFR C fl_X12_82 (by decide +kernel) hnm dX12_init_210 hf (fun h72 hf => ?_)
  refine s_aload_n C dX12_init_213 rfl ?_
  refine s_sipush C dX12_init_214 (v := (1701 : Int32)) (by decide) ?_
  refine s_newarray C (t := 21) (N := 1701) rfl (by decide) wac_21 dX12_init_217 (by decide) (by decide) (Nat.le_of_ble_eq_true rfl) hf (cell1 hX (Nat.le_of_ble_eq_true rfl)) (cell2 hX (Nat.le_of_ble_eq_true rfl)) (fun v73 h74 hf => ?_)
  refine s_putFR C fl_X12_85 (by decide +kernel) hnm dX12_init_219 hf (fun h75 hf => ?_)
  refine s_aload_n C dX12_init_222 rfl ?_
  refine s_sipush C dX12_init_223 (v := (1701 : Int32)) (by decide) ?_
  refine s_newarray C (t := 21) (N := 1701) rfl (by decide) wac_21 dX12_init_226 (by decide) (by decide) (Nat.le_of_ble_eq_true rfl) hf (cell1 hX (Nat.le_of_ble_eq_true rfl)) (cell2 hX (Nat.le_of_ble_eq_true rfl)) (fun v76 h77 hf => ?_)
  refine s_putFR C fl_X12_88 (by decide +kernel) hnm dX12_init_228 hf (fun h78 hf => ?_)
  refine s_aload_n C dX12_init_231 rfl ?_
  refine s_sipush C dX12_init_232 (v := (3570 : Int32)) (by decide) ?_
  refine s_newarray C (t := 22) (N := 3570) rfl (by decide) wac_22 dX12_init_235 (by decide) (by decide) (Nat.le_of_ble_eq_true rfl) hf (cell1 hX (Nat.le_of_ble_eq_true rfl)) (cell2 hX (Nat.le_of_ble_eq_true rfl)) (fun v79 h80 hf => ?_)
  refine s_putFR C fl_X12_91 (by decide +kernel) hnm dX12_init_237 hf (fun h81 hf => ?_)
  refine s_aload_n C dX12_init_240 rfl ?_
  refine s_sipush C dX12_init_241 (v := (3570 : Int32)) (by decide) ?_
  refine s_newarray C (t := 20) (N := 3570) rfl (by decide) wac_20 dX12_init_244 (by decide) (by decide) (Nat.le_of_ble_eq_true rfl) hf (cell1 hX (Nat.le_of_ble_eq_true rfl)) (cell2 hX (Nat.le_of_ble_eq_true rfl)) (fun v82 h83 hf => ?_)
  refine s_putFR C fl_X12_94 (by decide +kernel) hnm dX12_init_246 hf (fun h84 hf => ?_)
  refine s_aload_n C dX12_init_249 rfl ?_
  refine s_bipush C dX12_init_250 (v := (11 : Int32)) (by decide) ?_
  refine s_newarray C (t := 20) (N := 11) rfl (by decide) wac_20 dX12_init_252 (by decide) (by decide) (Nat.le_of_ble_eq_true rfl) hf (cell1 hX (Nat.le_of_ble_eq_true rfl)) (cell2 hX (Nat.le_of_ble_eq_true rfl)) (fun v85 h86 hf => ?_)
  refine s_putFR C fl_X12_97 (by decide +kernel) hnm dX12_init_254 hf (fun h87 hf => ?_)
  refine s_aload_n C dX12_init_257 rfl ?_
  refine s_sipush C dX12_init_258 (v := (170 : Int32)) (by decide) ?_
  refine s_newarray C (t := 20) (N := 170) rfl (by decide) wac_20 dX12_init_261 (by decide) (by decide) (Nat.le_of_ble_eq_true rfl) hf (cell1 hX (Nat.le_of_ble_eq_true rfl)) (cell2 hX (Nat.le_of_ble_eq_true rfl)) (fun v88 h89 hf => ?_)
  refine s_putFR C fl_X12_100 (by decide +kernel) hnm dX12_init_263 hf (fun h90 hf => ?_)
  refine s_aload_n C dX12_init_266 rfl ?_
  refine s_sipush C dX12_init_267 (v := (150 : Int32)) (by decide) ?_
  refine s_newarray C (t := 22) (N := 150) rfl (by decide) wac_22 dX12_init_270 (by decide) (by decide) (Nat.le_of_ble_eq_true rfl) hf (cell1 hX (Nat.le_of_ble_eq_true rfl)) (cell2 hX (Nat.le_of_ble_eq_true rfl)) (fun v91 h92 hf => ?_)
  refine s_putFR C fl_X12_103 (by decide +kernel) hnm dX12_init_272 hf (fun h93 hf => ?_)
  refine s_aload_n C dX12_init_275 rfl ?_
  refine s_sipush C dX12_init_276 (v := (1200 : Int32)) (by decide) ?_
  refine s_newarray C (t := 22) (N := 1200) rfl (by decide) wac_22 dX12_init_279 (by decide) (by decide) (Nat.le_of_ble_eq_true rfl) hf (cell1 hX (Nat.le_of_ble_eq_true rfl)) (cell2 hX (Nat.le_of_ble_eq_true rfl)) (fun v94 h95 hf => ?_)
  refine s_putFR C fl_X12_106 (by decide +kernel) hnm dX12_init_281 hf (fun h96 hf => ?_)
  refine s_aload_n C dX12_init_284 rfl ?_
  refine s_sipush C dX12_init_285 (v := (1200 : Int32)) (by decide) ?_
  refine s_newarray C (t := 22) (N := 1200) rfl (by decide) wac_22 dX12_init_288 (by decide) (by decide) (Nat.le_of_ble_eq_true rfl) hf (cell1 hX (Nat.le_of_ble_eq_true rfl)) (cell2 hX (Nat.le_of_ble_eq_true rfl)) (fun v97 h98 hf => ?_)
  refine s_putFR C fl_X12_109 (by decide +kernel) hnm dX12_init_290 hf (fun h99 hf => ?_)
  refine s_aload_n C dX12_init_293 rfl ?_
  refine s_sipush C dX12_init_294 (v := (1200 : Int32)) (by decide) ?_
  refine s_newarray C (t := 22) (N := 1200) rfl (by decide) wac_22 dX12_init_297 (by decide) (by decide) (Nat.le_of_ble_eq_true rfl) hf (cell1 hX (Nat.le_of_ble_eq_true rfl)) (cell2 hX (Nat.le_of_ble_eq_true rfl)) (fun v100 h101 hf => ?_)
  refine s_putFR C fl_X12_112 (by decide +kernel) hnm dX12_init_299 hf (fun h102 hf => ?_)
  refine s_aload_n C dX12_init_302 rfl ?_
  refine s_sipush C dX12_init_303 (v := (1200 : Int32)) (by decide) ?_
  refine s_newarray C (t := 22) (N := 1200) rfl (by decide) wac_22 dX12_init_306 (by decide) (by decide) (Nat.le_of_ble_eq_true rfl) hf (cell1 hX (Nat.le_of_ble_eq_true rfl)) (cell2 hX (Nat.le_of_ble_eq_true rfl)) (fun v103 h104 hf => ?_)
  refine s_putFR C fl_X12_115 (by decide +kernel) hnm dX12_init_308 hf (fun h105 hf => ?_)
  refine s_aload_n C dX12_init_311 rfl ?_
  refine s_bipush C dX12_init_312 (v := (6 : Int32)) (by decide) ?_
  refine s_newarray C (t := 20) (N := 6) rfl (by decide) wac_20 dX12_init_314 (by decide) (by decide) (Nat.le_of_ble_eq_true rfl) hf (cell1 hX (Nat.le_of_ble_eq_true rfl)) (cell2 hX (Nat.le_of_ble_eq_true rfl)) (fun v106 h107 hf => ?_)
  refine s_putFR C fl_X12_118 (by decide +kernel) hnm dX12_init_316 hf (fun h108 hf => ?_)
  refine s_aload_n C dX12_init_319 rfl ?_
  refine s_sipush C dX12_init_320 (v := (150 : Int32)) (by decide) ?_
  refine s_newarray C (t := 20) (N := 150) rfl (by decide) wac_20 dX12_init_323 (by decide) (by decide) (Nat.le_of_ble_eq_true rfl) hf (cell1 hX (Nat.le_of_ble_eq_true rfl)) (cell2 hX (Nat.le_of_ble_eq_true rfl)) (fun v109 h110 hf => ?_)
  refine s_putFR C fl_X12_121 (by decide +kernel) hnm dX12_init_325 hf (fun h111 hf => ?_)
  refine s_aload_n C dX12_init_328 rfl ?_
  refine s_sipush C dX12_init_329 (v := (1800 : Int32)) (by decide) ?_
  refine s_newarray C (t := 21) (N := 1800) rfl (by decide) wac_21 dX12_init_332 (by decide) (by decide) (Nat.le_of_ble_eq_true rfl) hf (cell1 hX (Nat.le_of_ble_eq_true rfl)) (cell2 hX (Nat.le_of_ble_eq_true rfl)) (fun v112 h113 hf => ?_)
  refine s_putFR C fl_X12_124 (by decide +kernel) hnm dX12_init_334 hf (fun h114 hf => ?_)
  refine s_aload_n C dX12_init_337 rfl ?_
  refine s_sipush C dX12_init_338 (v := (1800 : Int32)) (by decide) ?_
  refine s_newarray C (t := 23) (N := 1800) rfl (by decide) wac_23 dX12_init_341 (by decide) (by decide) (Nat.le_of_ble_eq_true rfl) hf (cell1 hX (Nat.le_of_ble_eq_true rfl)) (cell2 hX (Nat.le_of_ble_eq_true rfl)) (fun v115 h116 hf => ?_)
  refine s_putFR C fl_X12_127 (by decide +kernel) hnm dX12_init_343 hf (fun h117 hf => ?_)
  refine s_aload_n C dX12_init_346 rfl ?_
  refine s_sipush C dX12_init_347 (v := (150 : Int32)) (by decide) ?_
  refine s_newarray C (t := 22) (N := 150) rfl (by decide) wac_22 dX12_init_350 (by decide) (by decide) (Nat.le_of_ble_eq_true rfl) hf (cell1 hX (Nat.le_of_ble_eq_true rfl)) (cell2 hX (Nat.le_of_ble_eq_true rfl)) (fun v118 h119 hf => ?_)
  refine s_putFR C fl_X12_130 (by decide +kernel) hnm dX12_init_352 hf (fun h120 hf => ?_)
  refine s_aload_n C dX12_init_355 rfl ?_
  refine s_sipush C dX12_init_356 (v := (1200 : Int32)) (by decide) ?_
  refine s_newarray C (t := 21) (N := 1200) rfl (by decide) wac_21 dX12_init_359 (by decide) (by decide) (Nat.le_of_ble_eq_true rfl) hf (cell1 hX (Nat.le_of_ble_eq_true rfl)) (cell2 hX (Nat.le_of_ble_eq_true rfl)) (fun v121 h122 hf => ?_)
  refine s_putFR C fl_X12_133 (by decide +kernel) hnm dX12_init_361 hf (fun h123 hf => ?_)
  refine s_aload_n C dX12_init_364 rfl ?_
  refine s_sipush C dX12_init_365 (v := (150 : Int32)) (by decide) ?_
  refine s_newarray C (t := 23) (N := 150) rfl (by decide) wac_23 dX12_init_368 (by decide) (by decide) (Nat.le_of_ble_eq_true rfl) hf (cell1 hX (Nat.le_of_ble_eq_true rfl)) (cell2 hX (Nat.le_of_ble_eq_true rfl)) (fun v124 h125 hf => ?_)
  refine s_putFR C fl_X12_136 (by decide +kernel) hnm dX12_init_370 hf (fun h126 hf => ?_)
  refine s_aload_n C dX12_init_373 rfl ?_
  refine s_bipush C dX12_init_374 (v := (7 : Int32)) (by decide) ?_
  refine s_newarray C (t := 20) (N := 7) rfl (by decide) wac_20 dX12_init_376 (by decide) (by decide) (Nat.le_of_ble_eq_true rfl) hf (cell1 hX (Nat.le_of_ble_eq_true rfl)) (cell2 hX (Nat.le_of_ble_eq_true rfl)) (fun v127 h128 hf => ?_)
  refine s_putFR C fl_X12_139 (by decide +kernel) hnm dX12_init_378 hf (fun h129 hf => ?_)
  refine s_aload_n C dX12_init_381 rfl ?_
  refine s_bipush C dX12_init_382 (v := (7 : Int32)) (by decide) ?_
  refine s_newarray C (t := 20) (N := 7) rfl (by decide) wac_20 dX12_init_384 (by decide) (by decide) (Nat.le_of_ble_eq_true rfl) hf (cell1 hX (Nat.le_of_ble_eq_true rfl)) (cell2 hX (Nat.le_of_ble_eq_true rfl)) (fun v130 h131 hf => ?_)
  refine s_putFR C fl_X12_142 (by decide +kernel) hnm dX12_init_386 hf (fun h132 hf => ?_)
  refine s_aload_n C dX12_init_389 rfl ?_
  refine s_bipush C dX12_init_390 (v := (7 : Int32)) (by decide) ?_
  refine s_newarray C (t := 20) (N := 7) rfl (by decide) wac_20 dX12_init_392 (by decide) (by decide) (Nat.le_of_ble_eq_true rfl) hf (cell1 hX (Nat.le_of_ble_eq_true rfl)) (cell2 hX (Nat.le_of_ble_eq_true rfl)) (fun v133 h134 hf => ?_)
  refine s_putFR C fl_X12_145 (by decide +kernel) hnm dX12_init_394 hf (fun h135 hf => ?_)
  refine s_aload_n C dX12_init_397 rfl ?_
  refine s_bipush C dX12_init_398 (v := (7 : Int32)) (by decide) ?_
  refine s_newarray C (t := 20) (N := 7) rfl (by decide) wac_20 dX12_init_400 (by decide) (by decide) (Nat.le_of_ble_eq_true rfl) hf (cell1 hX (Nat.le_of_ble_eq_true rfl)) (cell2 hX (Nat.le_of_ble_eq_true rfl)) (fun v136 h137 hf => ?_)
  refine s_putFR C fl_X12_148 (by decide +kernel) hnm dX12_init_402 hf (fun h138 hf => ?_)
  refine s_aload_n C dX12_init_405 rfl ?_
  refine s_bipush C dX12_init_406 (v := (7 : Int32)) (by decide) ?_
  refine s_newarray C (t := 20) (N := 7) rfl (by decide) wac_20 dX12_init_408 (by decide) (by decide) (Nat.le_of_ble_eq_true rfl) hf (cell1 hX (Nat.le_of_ble_eq_true rfl)) (cell2 hX (Nat.le_of_ble_eq_true rfl)) (fun v139 h140 hf => ?_)
  refine s_putFR C fl_X12_151 (by decide +kernel) hnm dX12_init_410 hf (fun h141 hf => ?_)
  refine s_aload_n C dX12_init_413 rfl ?_
  refine s_bipush C dX12_init_414 (v := (7 : Int32)) (by decide) ?_
  refine s_newarray C (t := 20) (N := 7) rfl (by decide) wac_20 dX12_init_416 (by decide) (by decide) (Nat.le_of_ble_eq_true rfl) hf (cell1 hX (Nat.le_of_ble_eq_true rfl)) (cell2 hX (Nat.le_of_ble_eq_true rfl)) (fun v142 h143 hf => ?_)
  refine s_putFR C fl_X12_154 (by decide +kernel) hnm dX12_init_418 hf (fun h144 hf => ?_)
  refine s_aload_n C dX12_init_421 rfl ?_
  refine s_iconst C dX12_init_422 (v := (-1 : Int32)) (by decide) ?_
  refine s_putI C fl_X12_157 (by decide) dX12_init_423 hf (fun h145 hf => ?_)
  refine s_aload_n C dX12_init_426 rfl ?_
  refine s_iconst C dX12_init_427 (v := (-1 : Int32)) (by decide) ?_
  refine s_putI C fl_X12_161 (by decide) dX12_init_428 hf (fun h146 hf => ?_)
  refine s_aload_n C dX12_init_431 rfl ?_
  refine s_sipush C dX12_init_432 (v := (150 : Int32)) (by decide) ?_
  refine s_newarray C (t := 22) (N := 150) rfl (by decide) wac_22 dX12_init_435 (by decide) (by decide) (Nat.le_of_ble_eq_true rfl) hf (cell1 hX (Nat.le_of_ble_eq_true rfl)) (cell2 hX (Nat.le_of_ble_eq_true rfl)) (fun v147 h148 hf => ?_)
  refine s_putFR C fl_X12_164 (by decide +kernel) hnm dX12_init_437 hf (fun h149 hf => ?_)
  refine s_aload_n C dX12_init_440 rfl ?_
  refine s_sipush C dX12_init_441 (v := (961 : Int32)) (by decide) ?_
  refine s_newarray C (t := 24) (N := 961) rfl (by decide) wac_24 dX12_init_444 (by decide) (by decide) (Nat.le_of_ble_eq_true rfl) hf (cell1 hX (Nat.le_of_ble_eq_true rfl)) (cell2 hX (Nat.le_of_ble_eq_true rfl)) (fun v150 h151 hf => ?_)
  refine s_putFR C fl_X12_167 (by decide +kernel) hnm dX12_init_446 hf (fun h152 hf => ?_)
  refine s_aload_n C dX12_init_449 rfl ?_
  refine s_sipush C dX12_init_450 (v := (150 : Int32)) (by decide) ?_
  refine s_newarray C (t := 20) (N := 150) rfl (by decide) wac_20 dX12_init_453 (by decide) (by decide) (Nat.le_of_ble_eq_true rfl) hf (cell1 hX (Nat.le_of_ble_eq_true rfl)) (cell2 hX (Nat.le_of_ble_eq_true rfl)) (fun v153 h154 hf => ?_)
  refine s_putFR C fl_X12_171 (by decide +kernel) hnm dX12_init_455 hf (fun h155 hf => ?_)
  refine s_aload_n C dX12_init_458 rfl ?_
  refine s_sipush C dX12_init_459 (v := (300 : Int32)) (by decide) ?_
  refine s_newarray C (t := 23) (N := 300) rfl (by decide) wac_23 dX12_init_462 (by decide) (by decide) (Nat.le_of_ble_eq_true rfl) hf (cell1 hX (Nat.le_of_ble_eq_true rfl)) (cell2 hX (Nat.le_of_ble_eq_true rfl)) (fun v156 h157 hf => ?_)
  refine s_putFR C fl_X12_174 (by decide +kernel) hnm dX12_init_464 hf (fun h158 hf => ?_)
  refine s_aload_n C dX12_init_467 rfl ?_
  refine s_bipush C dX12_init_468 (v := (24 : Int32)) (by decide) ?_
  refine s_newarray C (t := 20) (N := 24) rfl (by decide) wac_20 dX12_init_470 (by decide) (by decide) (Nat.le_of_ble_eq_true rfl) hf (cell1 hX (Nat.le_of_ble_eq_true rfl)) (cell2 hX (Nat.le_of_ble_eq_true rfl)) (fun v159 h160 hf => ?_)
  refine s_putFR C fl_X12_177 (by decide +kernel) hnm dX12_init_472 hf (fun h161 hf => ?_)
  refine s_aload_n C dX12_init_475 rfl ?_
  refine s_bipush C dX12_init_476 (v := (6 : Int32)) (by decide) ?_
  refine s_newarray C (t := 20) (N := 6) rfl (by decide) wac_20 dX12_init_478 (by decide) (by decide) (Nat.le_of_ble_eq_true rfl) hf (cell1 hX (Nat.le_of_ble_eq_true rfl)) (cell2 hX (Nat.le_of_ble_eq_true rfl)) (fun v162 h163 hf => ?_)
  refine s_dup C dX12_init_480 c1_r ?_
  refine s_iconst C dX12_init_481 (v := (0 : Int32)) (by decide) ?_
  refine s_iconst C dX12_init_482 (v := (-1 : Int32)) (by decide) ?_
  refine s_iastore C dX12_init_483 hf (fun h164 hf => ?_)
  refine s_dup C dX12_init_484 c1_r ?_
  refine s_iconst C dX12_init_485 (v := (1 : Int32)) (by decide) ?_
  refine s_iconst C dX12_init_486 (v := (-1 : Int32)) (by decide) ?_
  refine s_iastore C dX12_init_487 hf (fun h165 hf => ?_)
  refine s_dup C dX12_init_488 c1_r ?_
  refine s_iconst C dX12_init_489 (v := (2 : Int32)) (by decide) ?_
  refine s_iconst C dX12_init_490 (v := (-1 : Int32)) (by decide) ?_
  refine s_iastore C dX12_init_491 hf (fun h166 hf => ?_)
  refine s_dup C dX12_init_492 c1_r ?_
  refine s_iconst C dX12_init_493 (v := (3 : Int32)) (by decide) ?_
  refine s_iconst C dX12_init_494 (v := (-1 : Int32)) (by decide) ?_
  refine s_iastore C dX12_init_495 hf (fun h167 hf => ?_)
  refine s_dup C dX12_init_496 c1_r ?_
  refine s_iconst C dX12_init_497 (v := (4 : Int32)) (by decide) ?_
  refine s_iconst C dX12_init_498 (v := (-1 : Int32)) (by decide) ?_
  refine s_iastore C dX12_init_499 hf (fun h168 hf => ?_)
  refine s_dup C dX12_init_500 c1_r ?_
  refine s_iconst C dX12_init_501 (v := (5 : Int32)) (by decide) ?_
  refine s_iconst C dX12_init_502 (v := (-1 : Int32)) (by decide) ?_
  refine s_iastore C dX12_init_503 hf (fun h169 hf => ?_)
  refine s_putFR C fl_X12_180 (by decide +kernel) hnm dX12_init_504 hf (fun h170 hf => ?_)
  refine s_aload_n C dX12_init_507 rfl ?_
  refine s_bipush C dX12_init_508 (v := (6 : Int32)) (by decide) ?_
  refine s_newarray C (t := 20) (N := 6) rfl (by decide) wac_20 dX12_init_510 (by decide) (by decide) (Nat.le_of_ble_eq_true rfl) hf (cell1 hX (Nat.le_of_ble_eq_true rfl)) (cell2 hX (Nat.le_of_ble_eq_true rfl)) (fun v171 h172 hf => ?_)
  refine s_putFR C fl_X12_183 (by decide +kernel) hnm dX12_init_512 hf (fun h173 hf => ?_)
  refine s_aload_n C dX12_init_515 rfl ?_
  refine s_sipush C dX12_init_516 (v := (360 : Int32)) (by decide) ?_
  refine s_newarray C (t := 24) (N := 360) rfl (by decide) wac_24 dX12_init_519 (by decide) (by decide) (Nat.le_of_ble_eq_true rfl) hf (cell1 hX (Nat.le_of_ble_eq_true rfl)) (cell2 hX (Nat.le_of_ble_eq_true rfl)) (fun v174 h175 hf => ?_)
  refine s_putFR C fl_X12_186 (by decide +kernel) hnm dX12_init_521 hf (fun h176 hf => ?_)
  refine s_aload_n C dX12_init_524 rfl ?_
  refine s_bipush C dX12_init_525 (v := (60 : Int32)) (by decide) ?_
  refine s_newarray C (t := 24) (N := 60) rfl (by decide) wac_24 dX12_init_527 (by decide) (by decide) (Nat.le_of_ble_eq_true rfl) hf (cell1 hX (Nat.le_of_ble_eq_true rfl)) (cell2 hX (Nat.le_of_ble_eq_true rfl)) (fun v177 h178 hf => ?_)
  refine s_putFR C fl_X12_189 (by decide +kernel) hnm dX12_init_529 hf (fun h179 hf => ?_)
  exact s_return C E dX12_init_532 hf (Nat.le_of_ble_eq_true rfl) (Nat.le_of_ble_eq_true rfl)
