/-- HillBoxesModel.isDigit(I)Z -/
noncomputable def f_X12_isDigit (a0 : Int32) (h : AH) : Option (Int32 × AH) :=
  cl (f_X12_in a0 (48 : Int32) (57 : Int32) h) fun v2 h1 =>
  rz v2 h1
set_option maxRecDepth 100000 in
set_option maxHeartbeats 4000000 in
theorem c_X12_isDigit (l : Launch) (D : DT) (a0 : Int32) (h : AH) (r : Int32 × AH) (hf : f_X12_isDigit a0 h = some r) : CM l D yX12_isDigit cX12_isDigit 1 (some .boolean) 1 22 0 0 [.inl a0] h (some (.int r.1)) r.2 := by
  refine CM.of (by decide) (Nat.le_of_ble_eq_true rfl) (fun X hl C hD hX hnm E => ?_)
  subst hl
  subst hD
  have C : CX X RX12 cX12_isDigit 1 := C
  show WW X h 0 0 0 [some (.int a0)] []
  unfold f_X12_isDigit at hf
  refine s_iload_n C dX12_isDigit_0 rfl ?_
  refine s_bipush C dX12_isDigit_1 (v := (48 : Int32)) (by decide) ?_
  refine s_bipush C dX12_isDigit_3 (v := (57 : Int32)) (by decide) ?_
  refine s_callS (rvf := fun x => some (.int x)) (st := []) (fr := 0) (lo := 0) (mc := 0) (ms := 0) C wc_X12_in wml_X12_195 wst_X12_in dX12_isDigit_5 (As := [.inl a0, .inl (48 : Int32), .inl (57 : Int32)]) rfl hf (fun x h' hF => c_X12_in _ _ _ _ _ _ (x, h') hF) rfl (Nat.le_of_ble_eq_true rfl) (room_ok hX (Nat.le_of_ble_eq_true rfl) (Nat.le_of_ble_eq_true rfl)) (cell_ok hX (Nat.le_of_ble_eq_true rfl) (Nat.le_of_ble_eq_true rfl)) (fun v2 h1 hf => ?_)
  exact s_zreturn C E dX12_isDigit_8 hf (Nat.le_of_ble_eq_true rfl) (Nat.le_of_ble_eq_true rfl)
/-- HillBoxesModel.isLetter(I)Z -/
noncomputable def f_X12_isLetter (a0 : Int32) (h : AH) : Option (Int32 × AH) :=
  cl (f_X12_in a0 (97 : Int32) (122 : Int32) h) fun v2 h1 =>
  rz v2 h1
set_option maxRecDepth 100000 in
set_option maxHeartbeats 4000000 in
theorem c_X12_isLetter (l : Launch) (D : DT) (a0 : Int32) (h : AH) (r : Int32 × AH) (hf : f_X12_isLetter a0 h = some r) : CM l D yX12_isLetter cX12_isLetter 1 (some .boolean) 1 22 0 0 [.inl a0] h (some (.int r.1)) r.2 := by
  refine CM.of (by decide) (Nat.le_of_ble_eq_true rfl) (fun X hl C hD hX hnm E => ?_)
  subst hl
  subst hD
  have C : CX X RX12 cX12_isLetter 1 := C
  show WW X h 0 0 0 [some (.int a0)] []
  unfold f_X12_isLetter at hf
  refine s_iload_n C dX12_isLetter_0 rfl ?_
  refine s_bipush C dX12_isLetter_1 (v := (97 : Int32)) (by decide) ?_
  refine s_bipush C dX12_isLetter_3 (v := (122 : Int32)) (by decide) ?_
  refine s_callS (rvf := fun x => some (.int x)) (st := []) (fr := 0) (lo := 0) (mc := 0) (ms := 0) C wc_X12_in wml_X12_195 wst_X12_in dX12_isLetter_5 (As := [.inl a0, .inl (97 : Int32), .inl (122 : Int32)]) rfl hf (fun x h' hF => c_X12_in _ _ _ _ _ _ (x, h') hF) rfl (Nat.le_of_ble_eq_true rfl) (room_ok hX (Nat.le_of_ble_eq_true rfl) (Nat.le_of_ble_eq_true rfl)) (cell_ok hX (Nat.le_of_ble_eq_true rfl) (Nat.le_of_ble_eq_true rfl)) (fun v2 h1 hf => ?_)
  exact s_zreturn C E dX12_isLetter_8 hf (Nat.le_of_ble_eq_true rfl) (Nat.le_of_ble_eq_true rfl)
/-- HillBoxesModel.isSign(I)Z -/
noncomputable def f_X12_isSign (a0 : Int32) (h : AH) : Option (Int32 × AH) :=
  jn (fun (x1 : Int32) =>
    rz x1 h) fun j77 =>
  jn (
    j77 (1 : Int32)) fun j72 =>
  if a0 = (59 : Int32) then
    j72
  else
    if a0 = (58 : Int32) then
      j72
    else
      if a0 = (60 : Int32) then
        j72
      else
        if a0 = (62 : Int32) then
          j72
        else
          if a0 = (61 : Int32) then
            j72
          else
            if a0 = (43 : Int32) then
              j72
            else
              if a0 = (45 : Int32) then
                j72
              else
                if a0 = (42 : Int32) then
                  j72
                else
                  if a0 = (47 : Int32) then
                    j72
                  else
                    if a0 = (37 : Int32) then
                      j72
                    else
                      if a0 = (40 : Int32) then
                        j72
                      else
                        if a0 = (41 : Int32) then
                          j72
                        else
                          j77 (0 : Int32)
set_option maxRecDepth 100000 in
set_option maxHeartbeats 4000000 in
theorem c_X12_isSign (l : Launch) (D : DT) (a0 : Int32) (h : AH) (r : Int32 × AH) (hf : f_X12_isSign a0 h = some r) : CM l D yX12_isSign cX12_isSign 1 (some .boolean) 0 0 0 0 [.inl a0] h (some (.int r.1)) r.2 := by
  refine CM.of (by decide) (Nat.le_of_ble_eq_true rfl) (fun X hl C hD hX hnm E => ?_)
  subst hl
  subst hD
  have C : CX X RX12 cX12_isSign 1 := C
  show WW X h 0 0 0 [some (.int a0)] []
  unfold f_X12_isSign at hf
  refine s_iload_n C dX12_isSign_0 rfl ?_
  refine s_bipush C dX12_isSign_1 (v := (59 : Int32)) (by decide) ?_
  refine s_jn hf (fun j77 e77 hf => ?_)
  have k77 : ∀ (x1 : Int32), j77 x1 = some r → WW X h 0 0 77 [none] [.int x1] := by
    intro x1 hf
    rw [e77] at hf
    exact s_zreturn C E dX12_isSign_77 hf (Nat.le_of_ble_eq_true rfl) (Nat.le_of_ble_eq_true rfl)
  refine s_jn hf (fun j72 e72 hf => ?_)
  have k72 : j72  = some r → WW X h 0 0 72 [none] [] := by
    intro  hf
    rw [e72] at hf
    refine s_iconst C dX12_isSign_72 (v := (1 : Int32)) (by decide) ?_
    refine s_goto (tgt := 77) C dX12_isSign_73 (by decide) ?_
    exact k77 _ hf
  refine s_icmp_eq (tgt := 72) C dX12_isSign_3 (by decide) hf (fun hf => ?_) (fun hf => ?_)
  · refine s_weak (lv' := [none]) trivial ?_
    exact k72 hf
  · refine s_iload_n C dX12_isSign_6 rfl ?_
    refine s_bipush C dX12_isSign_7 (v := (58 : Int32)) (by decide) ?_
    refine s_icmp_eq (tgt := 72) C dX12_isSign_9 (by decide) hf (fun hf => ?_) (fun hf => ?_)
    · refine s_weak (lv' := [none]) trivial ?_
      exact k72 hf
    · refine s_iload_n C dX12_isSign_12 rfl ?_
      refine s_bipush C dX12_isSign_13 (v := (60 : Int32)) (by decide) ?_
      refine s_icmp_eq (tgt := 72) C dX12_isSign_15 (by decide) hf (fun hf => ?_) (fun hf => ?_)
      · refine s_weak (lv' := [none]) trivial ?_
        exact k72 hf
      · refine s_iload_n C dX12_isSign_18 rfl ?_
        refine s_bipush C dX12_isSign_19 (v := (62 : Int32)) (by decide) ?_
        refine s_icmp_eq (tgt := 72) C dX12_isSign_21 (by decide) hf (fun hf => ?_) (fun hf => ?_)
        · refine s_weak (lv' := [none]) trivial ?_
          exact k72 hf
        · refine s_iload_n C dX12_isSign_24 rfl ?_
          refine s_bipush C dX12_isSign_25 (v := (61 : Int32)) (by decide) ?_
          refine s_icmp_eq (tgt := 72) C dX12_isSign_27 (by decide) hf (fun hf => ?_) (fun hf => ?_)
          · refine s_weak (lv' := [none]) trivial ?_
            exact k72 hf
          · refine s_iload_n C dX12_isSign_30 rfl ?_
            refine s_bipush C dX12_isSign_31 (v := (43 : Int32)) (by decide) ?_
            refine s_icmp_eq (tgt := 72) C dX12_isSign_33 (by decide) hf (fun hf => ?_) (fun hf => ?_)
            · refine s_weak (lv' := [none]) trivial ?_
              exact k72 hf
            · refine s_iload_n C dX12_isSign_36 rfl ?_
              refine s_bipush C dX12_isSign_37 (v := (45 : Int32)) (by decide) ?_
              refine s_icmp_eq (tgt := 72) C dX12_isSign_39 (by decide) hf (fun hf => ?_) (fun hf => ?_)
              · refine s_weak (lv' := [none]) trivial ?_
                exact k72 hf
              · refine s_iload_n C dX12_isSign_42 rfl ?_
                refine s_bipush C dX12_isSign_43 (v := (42 : Int32)) (by decide) ?_
                refine s_icmp_eq (tgt := 72) C dX12_isSign_45 (by decide) hf (fun hf => ?_) (fun hf => ?_)
                · refine s_weak (lv' := [none]) trivial ?_
                  exact k72 hf
                · refine s_iload_n C dX12_isSign_48 rfl ?_
                  refine s_bipush C dX12_isSign_49 (v := (47 : Int32)) (by decide) ?_
                  refine s_icmp_eq (tgt := 72) C dX12_isSign_51 (by decide) hf (fun hf => ?_) (fun hf => ?_)
                  · refine s_weak (lv' := [none]) trivial ?_
                    exact k72 hf
                  · refine s_iload_n C dX12_isSign_54 rfl ?_
                    refine s_bipush C dX12_isSign_55 (v := (37 : Int32)) (by decide) ?_
                    refine s_icmp_eq (tgt := 72) C dX12_isSign_57 (by decide) hf (fun hf => ?_) (fun hf => ?_)
                    · refine s_weak (lv' := [none]) trivial ?_
                      exact k72 hf
                    · refine s_iload_n C dX12_isSign_60 rfl ?_
                      refine s_bipush C dX12_isSign_61 (v := (40 : Int32)) (by decide) ?_
                      refine s_icmp_eq (tgt := 72) C dX12_isSign_63 (by decide) hf (fun hf => ?_) (fun hf => ?_)
                      · refine s_weak (lv' := [none]) trivial ?_
                        exact k72 hf
                      · refine s_iload_n C dX12_isSign_66 rfl ?_
                        refine s_bipush C dX12_isSign_67 (v := (41 : Int32)) (by decide) ?_
                        refine s_icmp_ne (tgt := 76) C dX12_isSign_69 (by decide) hf (fun hf => ?_) (fun hf => ?_)
                        · refine s_iconst C dX12_isSign_76 (v := (0 : Int32)) (by decide) ?_
                          refine s_weak (lv' := [none]) trivial ?_
                          exact k77 _ hf
                        · refine s_weak (lv' := [none]) trivial ?_
                          exact k72 hf
/-- HillBoxesModel.nextToken()V -/
noncomputable def f_X12_nextToken (o : Option Nat) (h : AH) : Option (Unit × AH) :=
  fI h [12] o 27 fun v1 =>
  pI h [12] o 26 v1 fun h2 =>
  lp (fun _ => none) (fun (L8 : AH → Option (Unit × AH)) (h3 : AH) =>
    fI h3 [12] o 26 fun v4 =>
    fI h3 [12] o 25 fun v5 =>
    jn (
      fI h3 [12] o 26 fun v6 =>
      pI h3 [12] o 27 v6 fun h7 =>
      fI h7 [12] o 26 fun v8 =>
      fI h7 [12] o 25 fun v9 =>
      jn (fun (h10 : AH) =>
        some ((), h10)) fun j305 =>
      if v8 = v9 then
        pI h7 [12] o 28 (0 : Int32) fun h70 =>
        j305 h70
      else
        fR h7 [12] o 24 fun v11 =>
        fI h7 [12] o 26 fun v12 =>
        aI h7 22 v11 v12 fun v13 =>
        cl (f_X12_isLetter v13 h7) fun v15 h14 =>
        if v15 = 0 then
          fR h14 [12] o 24 fun v16 =>
          fI h14 [12] o 26 fun v17 =>
          aI h14 22 v16 v17 fun v18 =>
          cl (f_X12_isDigit v18 h14) fun v20 h19 =>
          if v20 = 0 then
            fI h19 [12] o 27 fun v21 =>
            pI h19 [12] o 27 (v21 + (1 : Int32)) fun h22 =>
            fR h22 [12] o 24 fun v23 =>
            fI h22 [12] o 26 fun v24 =>
            aI h22 22 v23 v24 fun v25 =>
            cl (f_X12_isSign v25 h22) fun v27 h26 =>
            jn (fun (x28 : Int32) =>
              pI h26 [12] o 28 x28 fun h29 =>
              j305 h29) fun j302 =>
            if v27 = 0 then
              j302 (-1 : Int32)
            else
              fR h26 [12] o 24 fun v30 =>
              fI h26 [12] o 26 fun v31 =>
              aI h26 22 v30 v31 fun v32 =>
              j302 v32
          else
            pI h19 [12] o 29 (0 : Int32) fun h33 =>
            lp (fun _ => none) (fun (L155 : AH → Option (Unit × AH)) (h34 : AH) =>
              fI h34 [12] o 27 fun v35 =>
              fI h34 [12] o 25 fun v36 =>
              jn (fun (h37 : AH) =>
                fI h37 [12] o 27 fun v38 =>
                fI h37 [12] o 26 fun v39 =>
                jn (fun (x40 : Int32) =>
                  pI h37 [12] o 28 x40 fun h41 =>
                  j305 h41) fun j257 =>
                if (v38 - v39) ≤ (5 : Int32) then
                  j257 (2 : Int32)
                else
                  j257 (-1 : Int32)) fun j238 =>
              if v36 ≤ v35 then
                j238 h34
              else
                fR h34 [12] o 24 fun v42 =>
                fI h34 [12] o 27 fun v43 =>
                aI h34 22 v42 v43 fun v44 =>
                cl (f_X12_isDigit v44 h34) fun v46 h45 =>
                if v46 = 0 then
                  j238 h45
                else
                  fI h45 [12] o 27 fun v47 =>
                  fI h45 [12] o 26 fun v48 =>
                  jn (fun (x49 : Int32) =>
                    pI h45 [12] o 29 x49 fun h50 =>
                    fI h50 [12] o 27 fun v51 =>
                    pI h50 [12] o 27 (v51 + (1 : Int32)) fun h52 =>
                    L155 h52) fun j222 =>
                  if (5 : Int32) ≤ (v47 - v48) then
                    fI h45 [12] o 29 fun v53 =>
                    j222 v53
                  else
                    fI h45 [12] o 29 fun v54 =>
                    fR h45 [12] o 24 fun v55 =>
                    fI h45 [12] o 27 fun v56 =>
                    aI h45 22 v55 v56 fun v57 =>
                    j222 ((((10 : Int32) * v54) + v57) - (48 : Int32))) lpN h33
        else
          lp (fun _ => none) (fun (L88 : AH → Option (Unit × AH)) (h58 : AH) =>
            fI h58 [12] o 27 fun v59 =>
            fI h58 [12] o 25 fun v60 =>
            jn (fun (h61 : AH) =>
              pI h61 [12] o 28 (1 : Int32) fun h62 =>
              j305 h62) fun j127 =>
            if v60 ≤ v59 then
              j127 h58
            else
              fR h58 [12] o 24 fun v63 =>
              fI h58 [12] o 27 fun v64 =>
              aI h58 22 v63 v64 fun v65 =>
              cl (f_X12_isLetter v65 h58) fun v67 h66 =>
              if v67 = 0 then
                j127 h66
              else
                fI h66 [12] o 27 fun v68 =>
                pI h66 [12] o 27 (v68 + (1 : Int32)) fun h69 =>
                L88 h69) lpN h14) fun j46 =>
    if v5 ≤ v4 then
      j46
    else
      fR h3 [12] o 24 fun v71 =>
      fI h3 [12] o 26 fun v72 =>
      aI h3 22 v71 v72 fun v73 =>
      if v73 = (32 : Int32) then
        fI h3 [12] o 26 fun v74 =>
        pI h3 [12] o 26 (v74 + (1 : Int32)) fun h75 =>
        L8 h75
      else
        j46) lpN h2
set_option maxRecDepth 100000 in
set_option maxHeartbeats 4000000 in
theorem c_X12_nextToken (l : Launch) (D : DT) (o : Option Nat) (h : AH) (r : Unit × AH) (hf : f_X12_nextToken o h = some r) : CM l D yX12_nextToken cX12_nextToken 1 none 2 42 0 0 [.inr (.inr o)] h none r.2 := by
  refine CM.of (by decide) (Nat.le_of_ble_eq_true rfl) (fun X hl C hD hX hnm E => ?_)
  subst hl
  subst hD
  have C : CX X RX12 cX12_nextToken 1 := C
  show WW X h 0 0 0 [some (rB (xD X).1 o)] []
  unfold f_X12_nextToken at hf
  refine s_aload_n C dX12_nextToken_0 rfl ?_
  refine s_aload_n C dX12_nextToken_1 rfl ?_
  refine s_getI C fl_X12_330 dX12_nextToken_2 hf (fun v1 hf => ?_)
  refine s_putI C fl_X12_333 (by decide) dX12_nextToken_5 hf (fun h2 hf => ?_)
  refine s_lp1 hf (fun G8 z8 q8 hf => ?_)
  have k8 : ∀ (n : Nat) (h3 : AH), G8 n h3 = some r → WW X h3 0 0 8 [some (rB (xD X).1 o)] [] := by
    intro n
    induction n with
    | zero =>
      intro h3 hf
      rw [z8] at hf
      cases hf
    | succ n ih8 =>
      intro h3 hf
      have hf := (q8 n h3).symm.trans hf
      refine s_aload_n C dX12_nextToken_8 rfl ?_
      refine s_getI C fl_X12_333 dX12_nextToken_9 hf (fun v4 hf => ?_)
      refine s_aload_n C dX12_nextToken_12 rfl ?_
      refine s_getI C fl_X12_327 dX12_nextToken_13 hf (fun v5 hf => ?_)
      refine s_jn hf (fun j46 e46 hf => ?_)
      have k46 : j46  = some r → WW X h3 0 0 46 [some (rB (xD X).1 o)] [] := by
        intro  hf
        rw [e46] at hf
        refine s_aload_n C dX12_nextToken_46 rfl ?_
        refine s_aload_n C dX12_nextToken_47 rfl ?_
        refine s_getI C fl_X12_333 dX12_nextToken_48 hf (fun v6 hf => ?_)
        refine s_putI C fl_X12_330 (by decide) dX12_nextToken_51 hf (fun h7 hf => ?_)
        refine s_aload_n C dX12_nextToken_54 rfl ?_
        refine s_getI C fl_X12_333 dX12_nextToken_55 hf (fun v8 hf => ?_)
        refine s_aload_n C dX12_nextToken_58 rfl ?_
        refine s_getI C fl_X12_327 dX12_nextToken_59 hf (fun v9 hf => ?_)
        refine s_jn hf (fun j305 e305 hf => ?_)
        have k305 : ∀ (h10 : AH), j305 h10 = some r → WW X h10 0 0 305 [none] [] := by
          intro h10 hf
          rw [e305] at hf
          exact s_return C E dX12_nextToken_305 hf (Nat.le_of_ble_eq_true rfl) (Nat.le_of_ble_eq_true rfl)
        refine s_icmp_ne (tgt := 73) C dX12_nextToken_62 (by decide) hf (fun hf => ?_) (fun hf => ?_)
        · refine s_aload_n C dX12_nextToken_73 rfl ?_
          refine s_getR C fl_X12_66 dX12_nextToken_74 hf (fun v11 hf => ?_)
          refine s_aload_n C dX12_nextToken_77 rfl ?_
          refine s_getI C fl_X12_333 dX12_nextToken_78 hf (fun v12 hf => ?_)
          refine s_baload C dX12_nextToken_81 hf (fun v13 hf => ?_)
          refine s_callS (rvf := fun x => some (.int x)) (st := []) (fr := 1) (lo := 22) (mc := 0) (ms := 0) C wc_X12_isLetter wml_X12_339 wst_X12_isLetter dX12_nextToken_82 (As := [.inl v13]) rfl hf (fun x h' hF => c_X12_isLetter _ _ _ _ (x, h') hF) rfl (Nat.le_of_ble_eq_true rfl) (room_ok hX (Nat.le_of_ble_eq_true rfl) (Nat.le_of_ble_eq_true rfl)) (cell_ok hX (Nat.le_of_ble_eq_true rfl) (Nat.le_of_ble_eq_true rfl)) (fun v15 h14 hf => ?_)
          refine s_if_eq (tgt := 135) C dX12_nextToken_85 (by decide) hf (fun hf => ?_) (fun hf => ?_)
          · refine s_aload_n C dX12_nextToken_135 rfl ?_
            refine s_getR C fl_X12_66 dX12_nextToken_136 hf (fun v16 hf => ?_)
            refine s_aload_n C dX12_nextToken_139 rfl ?_
            refine s_getI C fl_X12_333 dX12_nextToken_140 hf (fun v17 hf => ?_)
            refine s_baload C dX12_nextToken_143 hf (fun v18 hf => ?_)
            refine s_callS (rvf := fun x => some (.int x)) (st := []) (fr := 1) (lo := 22) (mc := 0) (ms := 0) C wc_X12_isDigit wml_X12_342 wst_X12_isDigit dX12_nextToken_144 (As := [.inl v18]) rfl hf (fun x h' hF => c_X12_isDigit _ _ _ _ (x, h') hF) rfl (Nat.le_of_ble_eq_true rfl) (room_ok hX (Nat.le_of_ble_eq_true rfl) (Nat.le_of_ble_eq_true rfl)) (cell_ok hX (Nat.le_of_ble_eq_true rfl) (Nat.le_of_ble_eq_true rfl)) (fun v20 h19 hf => ?_)
            refine s_if_eq (tgt := 263) C dX12_nextToken_147 (by decide) hf (fun hf => ?_) (fun hf => ?_)
            · refine s_aload_n C dX12_nextToken_263 rfl ?_
              refine s_dup C dX12_nextToken_264 c1_r ?_
              refine s_getI C fl_X12_330 dX12_nextToken_265 hf (fun v21 hf => ?_)
              refine s_iconst C dX12_nextToken_268 (v := (1 : Int32)) (by decide) ?_
              refine s_iadd C dX12_nextToken_269 ?_
              refine s_putI C fl_X12_330 (by decide) dX12_nextToken_270 hf (fun h22 hf => ?_)
              refine s_aload_n C dX12_nextToken_273 rfl ?_
              refine s_aload_n C dX12_nextToken_274 rfl ?_
              refine s_getR C fl_X12_66 dX12_nextToken_275 hf (fun v23 hf => ?_)
              refine s_aload_n C dX12_nextToken_278 rfl ?_
              refine s_getI C fl_X12_333 dX12_nextToken_279 hf (fun v24 hf => ?_)
              refine s_baload C dX12_nextToken_282 hf (fun v25 hf => ?_)
              refine s_callS (rvf := fun x => some (.int x)) (st := [rB (xD X).1 o]) (fr := 0) (lo := 0) (mc := 0) (ms := 0) C wc_X12_isSign wml_X12_348 wst_X12_isSign dX12_nextToken_283 (As := [.inl v25]) rfl hf (fun x h' hF => c_X12_isSign _ _ _ _ (x, h') hF) rfl (Nat.le_of_ble_eq_true rfl) (room_ok hX (Nat.le_of_ble_eq_true rfl) (Nat.le_of_ble_eq_true rfl)) (cell_ok hX (Nat.le_of_ble_eq_true rfl) (Nat.le_of_ble_eq_true rfl)) (fun v27 h26 hf => ?_)
              refine s_jn hf (fun j302 e302 hf => ?_)
              have k302 : ∀ (x28 : Int32), j302 x28 = some r → WW X h26 0 0 302 [none] [.int x28, rB (xD X).1 o] := by
                intro x28 hf
                rw [e302] at hf
                refine s_putI C fl_X12_336 (by decide) dX12_nextToken_302 hf (fun h29 hf => ?_)
                exact k305 _ hf
              refine s_if_eq (tgt := 301) C dX12_nextToken_286 (by decide) hf (fun hf => ?_) (fun hf => ?_)
              · refine s_iconst C dX12_nextToken_301 (v := (-1 : Int32)) (by decide) ?_
                refine s_weak (lv' := [none]) trivial ?_
                exact k302 _ hf
              · refine s_aload_n C dX12_nextToken_289 rfl ?_
                refine s_getR C fl_X12_66 dX12_nextToken_290 hf (fun v30 hf => ?_)
                refine s_aload_n C dX12_nextToken_293 rfl ?_
                refine s_getI C fl_X12_333 dX12_nextToken_294 hf (fun v31 hf => ?_)
                refine s_baload C dX12_nextToken_297 hf (fun v32 hf => ?_)
                refine s_goto (tgt := 302) C dX12_nextToken_298 (by decide) ?_
                refine s_weak (lv' := [none]) trivial ?_
                exact k302 _ hf
            · refine s_aload_n C dX12_nextToken_150 rfl ?_
              refine s_iconst C dX12_nextToken_151 (v := (0 : Int32)) (by decide) ?_
              refine s_putI C fl_X12_345 (by decide) dX12_nextToken_152 hf (fun h33 hf => ?_)
              refine s_lp1 hf (fun G155 z155 q155 hf => ?_)
              have k155 : ∀ (n : Nat) (h34 : AH), G155 n h34 = some r → WW X h34 0 0 155 [some (rB (xD X).1 o)] [] := by
                intro n
                induction n with
                | zero =>
                  intro h34 hf
                  rw [z155] at hf
                  cases hf
                | succ n ih155 =>
                  intro h34 hf
                  have hf := (q155 n h34).symm.trans hf
                  refine s_aload_n C dX12_nextToken_155 rfl ?_
                  refine s_getI C fl_X12_330 dX12_nextToken_156 hf (fun v35 hf => ?_)
                  refine s_aload_n C dX12_nextToken_159 rfl ?_
                  refine s_getI C fl_X12_327 dX12_nextToken_160 hf (fun v36 hf => ?_)
                  refine s_jn hf (fun j238 e238 hf => ?_)
                  have k238 : ∀ (h37 : AH), j238 h37 = some r → WW X h37 0 0 238 [some (rB (xD X).1 o)] [] := by
                    intro h37 hf
                    rw [e238] at hf
                    refine s_aload_n C dX12_nextToken_238 rfl ?_
                    refine s_aload_n C dX12_nextToken_239 rfl ?_
                    refine s_getI C fl_X12_330 dX12_nextToken_240 hf (fun v38 hf => ?_)
                    refine s_aload_n C dX12_nextToken_243 rfl ?_
                    refine s_getI C fl_X12_333 dX12_nextToken_244 hf (fun v39 hf => ?_)
                    refine s_isub C dX12_nextToken_247 ?_
                    refine s_iconst C dX12_nextToken_248 (v := (5 : Int32)) (by decide) ?_
                    refine s_jn hf (fun j257 e257 hf => ?_)
                    have k257 : ∀ (x40 : Int32), j257 x40 = some r → WW X h37 0 0 257 [none] [.int x40, rB (xD X).1 o] := by
                      intro x40 hf
                      rw [e257] at hf
                      refine s_putI C fl_X12_336 (by decide) dX12_nextToken_257 hf (fun h41 hf => ?_)
                      refine s_goto (tgt := 305) C dX12_nextToken_260 (by decide) ?_
                      exact k305 _ hf
                    refine s_icmp_le (tgt := 256) C dX12_nextToken_249 (by decide) hf (fun hf => ?_) (fun hf => ?_)
                    · refine s_iconst C dX12_nextToken_256 (v := (2 : Int32)) (by decide) ?_
                      refine s_weak (lv' := [none]) trivial ?_
                      exact k257 _ hf
                    · refine s_iconst C dX12_nextToken_252 (v := (-1 : Int32)) (by decide) ?_
                      refine s_goto (tgt := 257) C dX12_nextToken_253 (by decide) ?_
                      refine s_weak (lv' := [none]) trivial ?_
                      exact k257 _ hf
                  refine s_icmp_ge (tgt := 238) C dX12_nextToken_163 (by decide) hf (fun hf => ?_) (fun hf => ?_)
                  · exact k238 _ hf
                  · refine s_aload_n C dX12_nextToken_166 rfl ?_
                    refine s_getR C fl_X12_66 dX12_nextToken_167 hf (fun v42 hf => ?_)
                    refine s_aload_n C dX12_nextToken_170 rfl ?_
                    refine s_getI C fl_X12_330 dX12_nextToken_171 hf (fun v43 hf => ?_)
                    refine s_baload C dX12_nextToken_174 hf (fun v44 hf => ?_)
                    refine s_callS (rvf := fun x => some (.int x)) (st := []) (fr := 1) (lo := 22) (mc := 0) (ms := 0) C wc_X12_isDigit wml_X12_342 wst_X12_isDigit dX12_nextToken_175 (As := [.inl v44]) rfl hf (fun x h' hF => c_X12_isDigit _ _ _ _ (x, h') hF) rfl (Nat.le_of_ble_eq_true rfl) (room_ok hX (Nat.le_of_ble_eq_true rfl) (Nat.le_of_ble_eq_true rfl)) (cell_ok hX (Nat.le_of_ble_eq_true rfl) (Nat.le_of_ble_eq_true rfl)) (fun v46 h45 hf => ?_)
                    refine s_if_eq (tgt := 238) C dX12_nextToken_178 (by decide) hf (fun hf => ?_) (fun hf => ?_)
                    · exact k238 _ hf
                    · refine s_aload_n C dX12_nextToken_181 rfl ?_
                      refine s_aload_n C dX12_nextToken_182 rfl ?_
                      refine s_getI C fl_X12_330 dX12_nextToken_183 hf (fun v47 hf => ?_)
                      refine s_aload_n C dX12_nextToken_186 rfl ?_
                      refine s_getI C fl_X12_333 dX12_nextToken_187 hf (fun v48 hf => ?_)
                      refine s_isub C dX12_nextToken_190 ?_
                      refine s_iconst C dX12_nextToken_191 (v := (5 : Int32)) (by decide) ?_
                      refine s_jn hf (fun j222 e222 hf => ?_)
                      have k222 : ∀ (x49 : Int32), j222 x49 = some r → WW X h45 0 0 222 [some (rB (xD X).1 o)] [.int x49, rB (xD X).1 o] := by
                        intro x49 hf
                        rw [e222] at hf
                        refine s_putI C fl_X12_345 (by decide) dX12_nextToken_222 hf (fun h50 hf => ?_)
                        refine s_aload_n C dX12_nextToken_225 rfl ?_
                        refine s_dup C dX12_nextToken_226 c1_r ?_
                        refine s_getI C fl_X12_330 dX12_nextToken_227 hf (fun v51 hf => ?_)
                        refine s_iconst C dX12_nextToken_230 (v := (1 : Int32)) (by decide) ?_
                        refine s_iadd C dX12_nextToken_231 ?_
                        refine s_putI C fl_X12_330 (by decide) dX12_nextToken_232 hf (fun h52 hf => ?_)
                        refine s_goto (tgt := 155) C dX12_nextToken_235 (by decide) ?_
                        exact ih155 _ hf
                      refine s_icmp_ge (tgt := 218) C dX12_nextToken_192 (by decide) hf (fun hf => ?_) (fun hf => ?_)
                      · refine s_aload_n C dX12_nextToken_218 rfl ?_
                        refine s_getI C fl_X12_345 dX12_nextToken_219 hf (fun v53 hf => ?_)
                        exact k222 _ hf
                      · refine s_bipush C dX12_nextToken_195 (v := (10 : Int32)) (by decide) ?_
                        refine s_aload_n C dX12_nextToken_197 rfl ?_
                        refine s_getI C fl_X12_345 dX12_nextToken_198 hf (fun v54 hf => ?_)
                        refine s_imul C dX12_nextToken_201 ?_
                        refine s_aload_n C dX12_nextToken_202 rfl ?_
                        refine s_getR C fl_X12_66 dX12_nextToken_203 hf (fun v55 hf => ?_)
                        refine s_aload_n C dX12_nextToken_206 rfl ?_
                        refine s_getI C fl_X12_330 dX12_nextToken_207 hf (fun v56 hf => ?_)
                        refine s_baload C dX12_nextToken_210 hf (fun v57 hf => ?_)
                        refine s_iadd C dX12_nextToken_211 ?_
                        refine s_bipush C dX12_nextToken_212 (v := (48 : Int32)) (by decide) ?_
                        refine s_isub C dX12_nextToken_214 ?_
                        refine s_goto (tgt := 222) C dX12_nextToken_215 (by decide) ?_
                        exact k222 _ hf
              exact k155 lpN _ hf
          · refine s_lp1 hf (fun G88 z88 q88 hf => ?_)
            have k88 : ∀ (n : Nat) (h58 : AH), G88 n h58 = some r → WW X h58 0 0 88 [some (rB (xD X).1 o)] [] := by
              intro n
              induction n with
              | zero =>
                intro h58 hf
                rw [z88] at hf
                cases hf
              | succ n ih88 =>
                intro h58 hf
                have hf := (q88 n h58).symm.trans hf
                refine s_aload_n C dX12_nextToken_88 rfl ?_
                refine s_getI C fl_X12_330 dX12_nextToken_89 hf (fun v59 hf => ?_)
                refine s_aload_n C dX12_nextToken_92 rfl ?_
                refine s_getI C fl_X12_327 dX12_nextToken_93 hf (fun v60 hf => ?_)
                refine s_jn hf (fun j127 e127 hf => ?_)
                have k127 : ∀ (h61 : AH), j127 h61 = some r → WW X h61 0 0 127 [some (rB (xD X).1 o)] [] := by
                  intro h61 hf
                  rw [e127] at hf
                  refine s_aload_n C dX12_nextToken_127 rfl ?_
                  refine s_iconst C dX12_nextToken_128 (v := (1 : Int32)) (by decide) ?_
                  refine s_putI C fl_X12_336 (by decide) dX12_nextToken_129 hf (fun h62 hf => ?_)
                  refine s_goto (tgt := 305) C dX12_nextToken_132 (by decide) ?_
                  refine s_weak (lv' := [none]) trivial ?_
                  exact k305 _ hf
                refine s_icmp_ge (tgt := 127) C dX12_nextToken_96 (by decide) hf (fun hf => ?_) (fun hf => ?_)
                · exact k127 _ hf
                · refine s_aload_n C dX12_nextToken_99 rfl ?_
                  refine s_getR C fl_X12_66 dX12_nextToken_100 hf (fun v63 hf => ?_)
                  refine s_aload_n C dX12_nextToken_103 rfl ?_
                  refine s_getI C fl_X12_330 dX12_nextToken_104 hf (fun v64 hf => ?_)
                  refine s_baload C dX12_nextToken_107 hf (fun v65 hf => ?_)
                  refine s_callS (rvf := fun x => some (.int x)) (st := []) (fr := 1) (lo := 22) (mc := 0) (ms := 0) C wc_X12_isLetter wml_X12_339 wst_X12_isLetter dX12_nextToken_108 (As := [.inl v65]) rfl hf (fun x h' hF => c_X12_isLetter _ _ _ _ (x, h') hF) rfl (Nat.le_of_ble_eq_true rfl) (room_ok hX (Nat.le_of_ble_eq_true rfl) (Nat.le_of_ble_eq_true rfl)) (cell_ok hX (Nat.le_of_ble_eq_true rfl) (Nat.le_of_ble_eq_true rfl)) (fun v67 h66 hf => ?_)
                  refine s_if_eq (tgt := 127) C dX12_nextToken_111 (by decide) hf (fun hf => ?_) (fun hf => ?_)
                  · exact k127 _ hf
                  · refine s_aload_n C dX12_nextToken_114 rfl ?_
                    refine s_dup C dX12_nextToken_115 c1_r ?_
                    refine s_getI C fl_X12_330 dX12_nextToken_116 hf (fun v68 hf => ?_)
                    refine s_iconst C dX12_nextToken_119 (v := (1 : Int32)) (by decide) ?_
                    refine s_iadd C dX12_nextToken_120 ?_
                    refine s_putI C fl_X12_330 (by decide) dX12_nextToken_121 hf (fun h69 hf => ?_)
                    refine s_goto (tgt := 88) C dX12_nextToken_124 (by decide) ?_
                    exact ih88 _ hf
            exact k88 lpN _ hf
        · refine s_aload_n C dX12_nextToken_65 rfl ?_
          refine s_iconst C dX12_nextToken_66 (v := (0 : Int32)) (by decide) ?_
          refine s_putI C fl_X12_336 (by decide) dX12_nextToken_67 hf (fun h70 hf => ?_)
          refine s_goto (tgt := 305) C dX12_nextToken_70 (by decide) ?_
          refine s_weak (lv' := [none]) trivial ?_
          exact k305 _ hf
      refine s_icmp_ge (tgt := 46) C dX12_nextToken_16 (by decide) hf (fun hf => ?_) (fun hf => ?_)
      · exact k46 hf
      · refine s_aload_n C dX12_nextToken_19 rfl ?_
        refine s_getR C fl_X12_66 dX12_nextToken_20 hf (fun v71 hf => ?_)
        refine s_aload_n C dX12_nextToken_23 rfl ?_
        refine s_getI C fl_X12_333 dX12_nextToken_24 hf (fun v72 hf => ?_)
        refine s_baload C dX12_nextToken_27 hf (fun v73 hf => ?_)
        refine s_bipush C dX12_nextToken_28 (v := (32 : Int32)) (by decide) ?_
        refine s_icmp_ne (tgt := 46) C dX12_nextToken_30 (by decide) hf (fun hf => ?_) (fun hf => ?_)
        · exact k46 hf
        · refine s_aload_n C dX12_nextToken_33 rfl ?_
          refine s_dup C dX12_nextToken_34 c1_r ?_
          refine s_getI C fl_X12_333 dX12_nextToken_35 hf (fun v74 hf => ?_)
          refine s_iconst C dX12_nextToken_38 (v := (1 : Int32)) (by decide) ?_
          refine s_iadd C dX12_nextToken_39 ?_
          refine s_putI C fl_X12_333 (by decide) dX12_nextToken_40 hf (fun h75 hf => ?_)
          refine s_goto (tgt := 8) C dX12_nextToken_43 (by decide) ?_
          exact ih8 _ hf
  exact k8 lpN _ hf
/-- HillBoxesModel.wrong()V -/
noncomputable def f_X12_wrong (o : Option Nat) (h : AH) : Option (Unit × AH) :=
  fI h [12] o 30 fun v1 =>
  jn (fun (h2 : AH) =>
    some ((), h2)) fun j15 =>
  if 0 ≤ v1 then
    j15 h
  else
    fI h [12] o 26 fun v3 =>
    pI h [12] o 30 v3 fun h4 =>
    j15 h4
set_option maxRecDepth 100000 in
set_option maxHeartbeats 4000000 in
theorem c_X12_wrong (l : Launch) (D : DT) (o : Option Nat) (h : AH) (r : Unit × AH) (hf : f_X12_wrong o h = some r) : CM l D yX12_wrong cX12_wrong 1 none 0 0 0 0 [.inr (.inr o)] h none r.2 := by
  refine CM.of (by decide) (Nat.le_of_ble_eq_true rfl) (fun X hl C hD hX hnm E => ?_)
  subst hl
  subst hD
  have C : CX X RX12 cX12_wrong 1 := C
  show WW X h 0 0 0 [some (rB (xD X).1 o)] []
  unfold f_X12_wrong at hf
  refine s_aload_n C dX12_wrong_0 rfl ?_
  refine s_getI C fl_X12_355 dX12_wrong_1 hf (fun v1 hf => ?_)
  refine s_jn hf (fun j15 e15 hf => ?_)
  have k15 : ∀ (h2 : AH), j15 h2 = some r → WW X h2 0 0 15 [none] [] := by
    intro h2 hf
    rw [e15] at hf
    exact s_return C E dX12_wrong_15 hf (Nat.le_of_ble_eq_true rfl) (Nat.le_of_ble_eq_true rfl)
  refine s_if_ge (tgt := 15) C dX12_wrong_4 (by decide) hf (fun hf => ?_) (fun hf => ?_)
  · refine s_weak (lv' := [none]) trivial ?_
    exact k15 _ hf
  · refine s_aload_n C dX12_wrong_7 rfl ?_
    refine s_aload_n C dX12_wrong_8 rfl ?_
    refine s_getI C fl_X12_333 dX12_wrong_9 hf (fun v3 hf => ?_)
    refine s_putI C fl_X12_355 (by decide) dX12_wrong_12 hf (fun h4 hf => ?_)
    refine s_weak (lv' := [none]) trivial ?_
    exact k15 _ hf
/-- HillBoxesModel.opens()Z -/
noncomputable def f_X12_opens (o : Option Nat) (h : AH) : Option (Int32 × AH) :=
  fI h [12] o 31 fun v1 =>
  if v1 = (6 : Int32) then
    rO h [12] o <| cl (f_X12_wrong o h) fun _ h5 =>
    rz (0 : Int32) h5
  else
    fI h [12] o 31 fun v2 =>
    pI h [12] o 31 (v2 + (1 : Int32)) fun h3 =>
    rO h3 [12] o <| cl (f_X12_nextToken o h3) fun _ h4 =>
    rz (1 : Int32) h4
set_option maxRecDepth 100000 in
set_option maxHeartbeats 4000000 in
theorem c_X12_opens (l : Launch) (D : DT) (o : Option Nat) (h : AH) (r : Int32 × AH) (hf : f_X12_opens o h = some r) : CM l D yX12_opens cX12_opens 1 (some .boolean) 3 62 0 0 [.inr (.inr o)] h (some (.int r.1)) r.2 := by
  refine CM.of (by decide) (Nat.le_of_ble_eq_true rfl) (fun X hl C hD hX hnm E => ?_)
  subst hl
  subst hD
  have C : CX X RX12 cX12_opens 1 := C
  show WW X h 0 0 0 [some (rB (xD X).1 o)] []
  unfold f_X12_opens at hf
  refine s_aload_n C dX12_opens_0 rfl ?_
  refine s_getI C fl_X12_364 dX12_opens_1 hf (fun v1 hf => ?_)
  refine s_bipush C dX12_opens_4 (v := (6 : Int32)) (by decide) ?_
  refine s_icmp_ne (tgt := 15) C dX12_opens_6 (by decide) hf (fun hf => ?_) (fun hf => ?_)
  · refine s_aload_n C dX12_opens_15 rfl ?_
    refine s_dup C dX12_opens_16 c1_r ?_
    refine s_getI C fl_X12_364 dX12_opens_17 hf (fun v2 hf => ?_)
    refine s_iconst C dX12_opens_20 (v := (1 : Int32)) (by decide) ?_
    refine s_iadd C dX12_opens_21 ?_
    refine s_putI C fl_X12_364 (by decide) dX12_opens_22 hf (fun h3 hf => ?_)
    refine s_aload_n C dX12_opens_25 rfl ?_
    refine s_callV (rvf := fun _ => none) (st := []) (fr := 2) (lo := 42) (mc := 0) (ms := 0) C [12] wc_X12_nextToken wml_X12_370 wim_X12_nextToken wsl_12_X12_nextToken dX12_opens_26 (As := []) rfl hf (fun x h' hF => c_X12_nextToken _ _ _ _ (x, h') hF) rfl (Nat.le_of_ble_eq_true rfl) (room_ok hX (Nat.le_of_ble_eq_true rfl) (Nat.le_of_ble_eq_true rfl)) (cell_ok hX (Nat.le_of_ble_eq_true rfl) (Nat.le_of_ble_eq_true rfl)) (fun _ h4 hf => ?_)
    refine s_iconst C dX12_opens_29 (v := (1 : Int32)) (by decide) ?_
    exact s_zreturn C E dX12_opens_30 hf (Nat.le_of_ble_eq_true rfl) (Nat.le_of_ble_eq_true rfl)
  · refine s_aload_n C dX12_opens_9 rfl ?_
    refine s_callV (rvf := fun _ => none) (st := []) (fr := 0) (lo := 0) (mc := 0) (ms := 0) C [12] wc_X12_wrong wml_X12_367 wim_X12_wrong wsl_12_X12_wrong dX12_opens_10 (As := []) rfl hf (fun x h' hF => c_X12_wrong _ _ _ _ (x, h') hF) rfl (Nat.le_of_ble_eq_true rfl) (room_ok hX (Nat.le_of_ble_eq_true rfl) (Nat.le_of_ble_eq_true rfl)) (cell_ok hX (Nat.le_of_ble_eq_true rfl) (Nat.le_of_ble_eq_true rfl)) (fun _ h5 hf => ?_)
    refine s_iconst C dX12_opens_13 (v := (0 : Int32)) (by decide) ?_
    exact s_zreturn C E dX12_opens_14 hf (Nat.le_of_ble_eq_true rfl) (Nat.le_of_ble_eq_true rfl)
/-- HillBoxesModel.nameHere()I -/
noncomputable def f_X12_nameHere (o : Option Nat) (h : AH) : Option (Int32 × AH) :=
  lp (fun _ _ => none) (fun (L2 : Int32 → AH → Option (Int32 × AH)) (x1 : Int32) (h2 : AH) =>
    if (11 : Int32) ≤ x1 then
      some ((-1 : Int32), h2)
    else
      tbL tbNM x1 fun v3 =>
      rO h2 [12] o <| cl (f_X12_isWord o v3 h2) fun v5 h4 =>
      if v5 = 0 then
        L2 (x1 + 1) h4
      else
        some (x1, h4)) lpN (0 : Int32) h
set_option maxRecDepth 100000 in
set_option maxHeartbeats 4000000 in
theorem c_X12_nameHere (l : Launch) (D : DT) (o : Option Nat) (h : AH) (r : Int32 × AH) (hf : f_X12_nameHere o h = some r) : CM l D yX12_nameHere cX12_nameHere 2 (some .int) 1 25 0 0 [.inr (.inr o)] h (some (.int r.1)) r.2 := by
  refine CM.of (by decide) (Nat.le_of_ble_eq_true rfl) (fun X hl C hD hX hnm E => ?_)
  subst hl
  subst hD
  have C : CX X RX12 cX12_nameHere 2 := C
  show WW X h 0 0 0 [some (rB (xD X).1 o), none] []
  unfold f_X12_nameHere at hf
  refine s_iconst C dX12_nameHere_0 (v := (0 : Int32)) (by decide) ?_
  refine s_istore_n C dX12_nameHere_1 (by decide) (nc_r rfl) (lv' := [some (rB (xD X).1 o), some (.int (0 : Int32))]) rfl ?_
  refine s_lp2 hf (fun G2 z2 q2 hf => ?_)
  have k2 : ∀ (n : Nat) (x1 : Int32) (h2 : AH), G2 n x1 h2 = some r → WW X h2 0 0 2 [some (rB (xD X).1 o), some (.int x1)] [] := by
    intro n
    induction n with
    | zero =>
      intro x1 h2 hf
      rw [z2] at hf
      cases hf
    | succ n ih2 =>
      intro x1 h2 hf
      have hf := (q2 n x1 h2).symm.trans hf
      refine s_iload_n C dX12_nameHere_2 rfl ?_
      refine s_getsL C C.2.2.2.2.2.2.2.2.2.2.2.2.2.2.1 wfl_X12_373 dX12_nameHere_3 (fun t3 t3h => ?_)
      refine s_tblen C (v := (11 : Int32)) t3h (by decide) dX12_nameHere_6 ?_
      refine s_icmp_ge (tgt := 30) C dX12_nameHere_7 (by decide) hf (fun hf => ?_) (fun hf => ?_)
      · refine s_iconst C dX12_nameHere_30 (v := (-1 : Int32)) (by decide) ?_
        exact s_ireturn C E dX12_nameHere_31 hf (Nat.le_of_ble_eq_true rfl) (Nat.le_of_ble_eq_true rfl)
      · refine s_aload_n C dX12_nameHere_10 rfl ?_
        refine s_getsL C C.2.2.2.2.2.2.2.2.2.2.2.2.2.2.1 wfl_X12_373 dX12_nameHere_11 (fun t11 t11h => ?_)
        refine s_iload_n C dX12_nameHere_14 rfl ?_
        refine s_tbL C t11h dX12_nameHere_15 hf (fun v3 hf => ?_)
        refine s_callV (rvf := fun x => some (.int x)) (st := []) (fr := 0) (lo := 0) (mc := 0) (ms := 0) C [12] wc_X12_isWord wml_X12_376 wim_X12_isWord wsl_12_X12_isWord dX12_nameHere_16 (As := [.inr (.inl v3)]) rfl hf (fun x h' hF => c_X12_isWord _ _ _ _ _ (x, h') hF) rfl (Nat.le_of_ble_eq_true rfl) (room_ok hX (Nat.le_of_ble_eq_true rfl) (Nat.le_of_ble_eq_true rfl)) (cell_ok hX (Nat.le_of_ble_eq_true rfl) (Nat.le_of_ble_eq_true rfl)) (fun v5 h4 hf => ?_)
        refine s_if_eq (tgt := 24) C dX12_nameHere_19 (by decide) hf (fun hf => ?_) (fun hf => ?_)
        · refine s_iinc C dX12_nameHere_24 (v := (x1 + 1)) rfl rfl (by decide) (nc_r rfl) (lv' := [some (rB (xD X).1 o), some (.int (x1 + 1))]) rfl ?_
          refine s_goto (tgt := 2) C dX12_nameHere_27 (by decide) ?_
          exact ih2 _ _ hf
        · refine s_iload_n C dX12_nameHere_22 rfl ?_
          exact s_ireturn C E dX12_nameHere_23 hf (Nat.le_of_ble_eq_true rfl) (Nat.le_of_ble_eq_true rfl)
  exact k2 lpN _ _ hf
/-- HillBoxesModel.both()V, one turn -/
noncomputable def fb_X12_both (g : Nat → Option Nat → AH → Option (Unit × AH)) (o : Option Nat) (h : AH) : Option (Unit × AH) :=
  rO h [12] o <| cl (g 1 o h) fun _ h1 =>
  lp (fun _ => none) (fun (L4 : AH → Option (Unit × AH)) (h2 : AH) =>
    fI h2 [12] o 30 fun v3 =>
    jn (fun (h4 : AH) =>
      some ((), h4)) fun j38 =>
    if 0 ≤ v3 then
      j38 h2
    else
      rO h2 [12] o <| cl (f_X12_isWord o (1111 : Int64) h2) fun v6 h5 =>
      if v6 = 0 then
        j38 h5
      else
        rO h5 [12] o <| cl (f_X12_nextToken o h5) fun _ h7 =>
        rO h7 [12] o <| cl (g 1 o h7) fun _ h8 =>
        rO h8 [12] o <| cl (f_X12_lay o (5 : Int32) (0 : Int32) h8) fun _ h9 =>
        L4 h9) lpN h1
/-- HillBoxesModel.compared()V, one turn -/
noncomputable def fb_X12_compared (g : Nat → Option Nat → AH → Option (Unit × AH)) (o : Option Nat) (h : AH) : Option (Unit × AH) :=
  rO h [12] o <| cl (f_X12_isWord o (10631 : Int64) h) fun v2 h1 =>
  if v2 = 0 then
    rO h1 [12] o <| cl (g 5 o h1) fun _ h3 =>
    fI h3 [12] o 28 fun v4 =>
    fI h3 [12] o 30 fun v5 =>
    jn (
      some ((), h3)) fun j73 =>
    if 0 ≤ v5 then
      j73
    else
      jn (
        rO h3 [12] o <| cl (f_X12_nextToken o h3) fun _ h6 =>
        rO h6 [12] o <| cl (g 5 o h6) fun _ h7 =>
        jn (fun (x8 : Int32) =>
          rO h7 [12] o <| cl (f_X12_lay o x8 (0 : Int32) h7) fun _ h9 =>
          some ((), h9)) fun j107 =>
        if v4 = (60 : Int32) then
          j107 (7 : Int32)
        else
          if v4 = (61 : Int32) then
            j107 (8 : Int32)
          else
            j107 (9 : Int32)) fun j74 =>
      if v4 = (60 : Int32) then
        j74
      else
        if v4 = (61 : Int32) then
          j74
        else
          if v4 = (62 : Int32) then
            j74
          else
            j73
  else
    rO h1 [12] o <| cl (f_X12_opens o h1) fun v11 h10 =>
    if v11 = 0 then
      some ((), h10)
    else
      rO h10 [12] o <| cl (g 1 o h10) fun _ h12 =>
      fI h12 [12] o 31 fun v13 =>
      pI h12 [12] o 31 (v13 - (1 : Int32)) fun h14 =>
      rO h14 [12] o <| cl (f_X12_lay o (3 : Int32) (0 : Int32) h14) fun _ h15 =>
      some ((), h15)
/-- HillBoxesModel.either()V, one turn -/
noncomputable def fb_X12_either (g : Nat → Option Nat → AH → Option (Unit × AH)) (o : Option Nat) (h : AH) : Option (Unit × AH) :=
  rO h [12] o <| cl (g 0 o h) fun _ h1 =>
  lp (fun _ => none) (fun (L4 : AH → Option (Unit × AH)) (h2 : AH) =>
    fI h2 [12] o 30 fun v3 =>
    jn (fun (h4 : AH) =>
      some ((), h4)) fun j39 =>
    if 0 ≤ v3 then
      j39 h2
    else
      rO h2 [12] o <| cl (f_X12_isWord o (423 : Int64) h2) fun v6 h5 =>
      if v6 = 0 then
        j39 h5
      else
        rO h5 [12] o <| cl (f_X12_nextToken o h5) fun _ h7 =>
        rO h7 [12] o <| cl (g 0 o h7) fun _ h8 =>
        rO h8 [12] o <| cl (f_X12_lay o (6 : Int32) (0 : Int32) h8) fun _ h9 =>
        L4 h9) lpN h1
/-- HillBoxesModel.operand()V, one turn -/
noncomputable def fb_X12_operand (g : Nat → Option Nat → AH → Option (Unit × AH)) (o : Option Nat) (h : AH) : Option (Unit × AH) :=
  fI h [12] o 28 fun v1 =>
  jn (fun (h2 : AH) =>
    some ((), h2)) fun j151 =>
  if v1 = (2 : Int32) then
    fI h [12] o 29 fun v27 =>
    rO h [12] o <| cl (f_X12_lay o (1 : Int32) v27 h) fun _ h28 =>
    rO h28 [12] o <| cl (f_X12_nextToken o h28) fun _ h29 =>
    j151 h29
  else
    rO h [12] o <| cl (f_X12_nameHere o h) fun v4 h3 =>
    if v4 < 0 then
      fI h3 [12] o 28 fun v5 =>
      if v5 = (45 : Int32) then
        rO h3 [12] o <| cl (f_X12_opens o h3) fun v18 h17 =>
        if v18 = 0 then
          some ((), h17)
        else
          rO h17 [12] o <| cl (g 3 o h17) fun _ h19 =>
          fI h19 [12] o 31 fun v20 =>
          pI h19 [12] o 31 (v20 - (1 : Int32)) fun h21 =>
          rO h21 [12] o <| cl (f_X12_lay o (4 : Int32) (0 : Int32) h21) fun _ h22 =>
          j151 h22
      else
        fI h3 [12] o 28 fun v6 =>
        if v6 = (40 : Int32) then
          rO h3 [12] o <| cl (f_X12_opens o h3) fun v9 h8 =>
          if v9 = 0 then
            some ((), h8)
          else
            rO h8 [12] o <| cl (g 2 o h8) fun _ h10 =>
            fI h10 [12] o 30 fun v11 =>
            if v11 < 0 then
              fI h10 [12] o 28 fun v12 =>
              if v12 = (41 : Int32) then
                fI h10 [12] o 31 fun v13 =>
                pI h10 [12] o 31 (v13 - (1 : Int32)) fun h14 =>
                rO h14 [12] o <| cl (f_X12_nextToken o h14) fun _ h15 =>
                j151 h15
              else
                rO h10 [12] o <| cl (f_X12_wrong o h10) fun _ h16 =>
                some ((), h16)
            else
              some ((), h10)
        else
          rO h3 [12] o <| cl (f_X12_wrong o h3) fun _ h7 =>
          j151 h7
    else
      rO h3 [12] o <| cl (f_X12_nameHere o h3) fun v24 h23 =>
      rO h23 [12] o <| cl (f_X12_lay o (2 : Int32) v24 h23) fun _ h25 =>
      rO h25 [12] o <| cl (f_X12_nextToken o h25) fun _ h26 =>
      j151 h26
/-- HillBoxesModel.product()V, one turn -/
noncomputable def fb_X12_product (g : Nat → Option Nat → AH → Option (Unit × AH)) (o : Option Nat) (h : AH) : Option (Unit × AH) :=
  rO h [12] o <| cl (g 3 o h) fun _ h1 =>
  lp (fun _ => none) (fun (L4 : AH → Option (Unit × AH)) (h2 : AH) =>
    fI h2 [12] o 30 fun v3 =>
    jn (
      some ((), h2)) fun j60 =>
    if 0 ≤ v3 then
      j60
    else
      fI h2 [12] o 28 fun v4 =>
      jn (
        fI h2 [12] o 28 fun v5 =>
        rO h2 [12] o <| cl (f_X12_nextToken o h2) fun _ h6 =>
        rO h6 [12] o <| cl (g 3 o h6) fun _ h7 =>
        rO h7 [12] o <| cl (f_X12_lay o v5 (0 : Int32) h7) fun _ h8 =>
        L4 h8) fun j38 =>
      if v4 = (42 : Int32) then
        j38
      else
        fI h2 [12] o 28 fun v9 =>
        if v9 = (47 : Int32) then
          j38
        else
          fI h2 [12] o 28 fun v10 =>
          if v10 = (37 : Int32) then
            j38
          else
            j60) lpN h1
/-- HillBoxesModel.sum()V, one turn -/
noncomputable def fb_X12_sum (g : Nat → Option Nat → AH → Option (Unit × AH)) (o : Option Nat) (h : AH) : Option (Unit × AH) :=
  rO h [12] o <| cl (g 4 o h) fun _ h1 =>
  lp (fun _ => none) (fun (L4 : AH → Option (Unit × AH)) (h2 : AH) =>
    fI h2 [12] o 30 fun v3 =>
    jn (
      some ((), h2)) fun j51 =>
    if 0 ≤ v3 then
      j51
    else
      fI h2 [12] o 28 fun v4 =>
      jn (
        fI h2 [12] o 28 fun v5 =>
        rO h2 [12] o <| cl (f_X12_nextToken o h2) fun _ h6 =>
        rO h6 [12] o <| cl (g 4 o h6) fun _ h7 =>
        rO h7 [12] o <| cl (f_X12_lay o v5 (0 : Int32) h7) fun _ h8 =>
        L4 h8) fun j29 =>
      if v4 = (43 : Int32) then
        j29
      else
        fI h2 [12] o 28 fun v9 =>
        if v9 = (45 : Int32) then
          j29
        else
          j51) lpN h1
noncomputable def G_X12_both : Nat → Nat → Option Nat → AH → Option (Unit × AH)
  | 0 => fun _ _ _ => none
  | n + 1 => fun t p0 h => if t = 0 then fb_X12_both (G_X12_both n) p0 h else if t = 1 then fb_X12_compared (G_X12_both n) p0 h else if t = 2 then fb_X12_either (G_X12_both n) p0 h else if t = 3 then fb_X12_operand (G_X12_both n) p0 h else if t = 4 then fb_X12_product (G_X12_both n) p0 h else fb_X12_sum (G_X12_both n) p0 h
theorem eq_G_X12_both (n t : Nat) (p0 : Option Nat) (h : AH) : G_X12_both (n + 1) t p0 h = (if t = 0 then fb_X12_both (G_X12_both n) p0 h else if t = 1 then fb_X12_compared (G_X12_both n) p0 h else if t = 2 then fb_X12_either (G_X12_both n) p0 h else if t = 3 then fb_X12_operand (G_X12_both n) p0 h else if t = 4 then fb_X12_product (G_X12_both n) p0 h else fb_X12_sum (G_X12_both n) p0 h) := by first | rfl | rw [G_X12_both]
noncomputable def f_X12_both (o : Option Nat) (h : AH) : Option (Unit × AH) := G_X12_both (opq 100) 0 o h
noncomputable def f_X12_compared (o : Option Nat) (h : AH) : Option (Unit × AH) := G_X12_both (opq 100) 1 o h
noncomputable def f_X12_either (o : Option Nat) (h : AH) : Option (Unit × AH) := G_X12_both (opq 100) 2 o h
noncomputable def f_X12_operand (o : Option Nat) (h : AH) : Option (Unit × AH) := G_X12_both (opq 100) 3 o h
noncomputable def f_X12_product (o : Option Nat) (h : AH) : Option (Unit × AH) := G_X12_both (opq 100) 4 o h
noncomputable def f_X12_sum (o : Option Nat) (h : AH) : Option (Unit × AH) := G_X12_both (opq 100) 5 o h
def PG_X12_both (l : Launch) (D : DT) (n : Nat) : Prop := (∀ (p0 : Option Nat) (h : AH) (r : Unit × AH), G_X12_both n 0 p0 h = some r → CM l D yX12_both cX12_both 1 none (4 + n) (82 + 60 * n) 0 0 [.inr (.inr p0)] h none r.2) ∧ (∀ (p0 : Option Nat) (h : AH) (r : Unit × AH), G_X12_both n 1 p0 h = some r → CM l D yX12_compared cX12_compared 2 none (4 + n) (82 + 60 * n) 0 0 [.inr (.inr p0)] h none r.2) ∧ (∀ (p0 : Option Nat) (h : AH) (r : Unit × AH), G_X12_both n 2 p0 h = some r → CM l D yX12_either cX12_either 1 none (4 + n) (82 + 60 * n) 0 0 [.inr (.inr p0)] h none r.2) ∧ (∀ (p0 : Option Nat) (h : AH) (r : Unit × AH), G_X12_both n 3 p0 h = some r → CM l D yX12_operand cX12_operand 1 none (4 + n) (82 + 60 * n) 0 0 [.inr (.inr p0)] h none r.2) ∧ (∀ (p0 : Option Nat) (h : AH) (r : Unit × AH), G_X12_both n 4 p0 h = some r → CM l D yX12_product cX12_product 2 none (4 + n) (82 + 60 * n) 0 0 [.inr (.inr p0)] h none r.2) ∧ (∀ (p0 : Option Nat) (h : AH) (r : Unit × AH), G_X12_both n 5 p0 h = some r → CM l D yX12_sum cX12_sum 2 none (4 + n) (82 + 60 * n) 0 0 [.inr (.inr p0)] h none r.2)
set_option maxRecDepth 100000 in
set_option maxHeartbeats 4000000 in
theorem cs_X12_both (l : Launch) (D : DT) (nS : Nat) (ih : PG_X12_both l D nS) : ∀ (p0 : Option Nat) (h : AH) (r : Unit × AH), G_X12_both (nS + 1) 0 p0 h = some r → CM l D yX12_both cX12_both 1 none (4 + (nS + 1)) (82 + 60 * (nS + 1)) 0 0 [.inr (.inr p0)] h none r.2 := by
  unfold PG_X12_both at ih
  intro o h r hf
  rw [eq_G_X12_both] at hf
  have hf : fb_X12_both (G_X12_both nS) o h = some r := (if_pos rfl).symm.trans hf
  refine CM.of (by decide) (Nat.le_of_ble_eq_true rfl) (fun X hl C hD hX hnm E => ?_)
  subst hl
  subst hD
  have C : CX X RX12 cX12_both 1 := C
  show WW X h 0 0 0 [some (rB (xD X).1 o)] []
  unfold fb_X12_both at hf
  refine s_aload_n C dX12_both_0 rfl ?_
  refine s_callV (rvf := fun _ => none) (st := []) (fr := (4 + nS)) (lo := (82 + 60 * nS)) (mc := 0) (ms := 0) C [12] wc_X12_compared wml_X12_402 wim_X12_compared wsl_12_X12_compared dX12_both_1 (As := []) rfl hf (fun x h' hF => ih.2.1 o h (x, h') hF) rfl (Nat.le_of_ble_eq_true rfl) (room_ok hX (by omega) (by omega)) (cell_ok hX (Nat.le_of_ble_eq_true rfl) (Nat.le_of_ble_eq_true rfl)) (fun _ h1 hf => ?_)
  refine s_lp1 hf (fun G4 z4 q4 hf => ?_)
  have k4 : ∀ (n : Nat) (h2 : AH), G4 n h2 = some r → WW X h2 0 0 4 [some (rB (xD X).1 o)] [] := by
    intro n
    induction n with
    | zero =>
      intro h2 hf
      rw [z4] at hf
      cases hf
    | succ n ih4 =>
      intro h2 hf
      have hf := (q4 n h2).symm.trans hf
      refine s_aload_n C dX12_both_4 rfl ?_
      refine s_getI C fl_X12_355 dX12_both_5 hf (fun v3 hf => ?_)
      refine s_jn hf (fun j38 e38 hf => ?_)
      have k38 : ∀ (h4 : AH), j38 h4 = some r → WW X h4 0 0 38 [none] [] := by
        intro h4 hf
        rw [e38] at hf
        exact s_return C E dX12_both_38 hf (Nat.le_of_ble_eq_true rfl) (Nat.le_of_ble_eq_true rfl)
      refine s_if_ge (tgt := 38) C dX12_both_8 (by decide) hf (fun hf => ?_) (fun hf => ?_)
      · refine s_weak (lv' := [none]) trivial ?_
        exact k38 _ hf
      · refine s_aload_n C dX12_both_11 rfl ?_
        refine s_ldc2 C dX12_both_12 wk_X12_408 ?_
        refine s_callV (rvf := fun x => some (.int x)) (st := []) (fr := 0) (lo := 0) (mc := 0) (ms := 0) C [12] wc_X12_isWord wml_X12_376 wim_X12_isWord wsl_12_X12_isWord dX12_both_15 (As := [.inr (.inl (1111 : Int64))]) rfl hf (fun x h' hF => c_X12_isWord _ _ _ _ _ (x, h') hF) rfl (Nat.le_of_ble_eq_true rfl) (room_ok hX (by omega) (by omega)) (cell_ok hX (Nat.le_of_ble_eq_true rfl) (Nat.le_of_ble_eq_true rfl)) (fun v6 h5 hf => ?_)
        refine s_if_eq (tgt := 38) C dX12_both_18 (by decide) hf (fun hf => ?_) (fun hf => ?_)
        · refine s_weak (lv' := [none]) trivial ?_
          exact k38 _ hf
        · refine s_aload_n C dX12_both_21 rfl ?_
          refine s_callV (rvf := fun _ => none) (st := []) (fr := 2) (lo := 42) (mc := 0) (ms := 0) C [12] wc_X12_nextToken wml_X12_370 wim_X12_nextToken wsl_12_X12_nextToken dX12_both_22 (As := []) rfl hf (fun x h' hF => c_X12_nextToken _ _ _ _ (x, h') hF) rfl (Nat.le_of_ble_eq_true rfl) (room_ok hX (by omega) (by omega)) (cell_ok hX (Nat.le_of_ble_eq_true rfl) (Nat.le_of_ble_eq_true rfl)) (fun _ h7 hf => ?_)
          refine s_aload_n C dX12_both_25 rfl ?_
          refine s_callV (rvf := fun _ => none) (st := []) (fr := (4 + nS)) (lo := (82 + 60 * nS)) (mc := 0) (ms := 0) C [12] wc_X12_compared wml_X12_402 wim_X12_compared wsl_12_X12_compared dX12_both_26 (As := []) rfl hf (fun x h' hF => ih.2.1 o h7 (x, h') hF) rfl (Nat.le_of_ble_eq_true rfl) (room_ok hX (by omega) (by omega)) (cell_ok hX (Nat.le_of_ble_eq_true rfl) (Nat.le_of_ble_eq_true rfl)) (fun _ h8 hf => ?_)
          refine s_aload_n C dX12_both_29 rfl ?_
          refine s_iconst C dX12_both_30 (v := (5 : Int32)) (by decide) ?_
          refine s_iconst C dX12_both_31 (v := (0 : Int32)) (by decide) ?_
          refine s_callV (rvf := fun _ => none) (st := []) (fr := 0) (lo := 0) (mc := 0) (ms := 0) C [12] wc_X12_lay wml_X12_380 wim_X12_lay wsl_12_X12_lay dX12_both_32 (As := [.inl (5 : Int32), .inl (0 : Int32)]) rfl hf (fun x h' hF => c_X12_lay _ _ _ _ _ _ (x, h') hF) rfl (Nat.le_of_ble_eq_true rfl) (room_ok hX (by omega) (by omega)) (cell_ok hX (Nat.le_of_ble_eq_true rfl) (Nat.le_of_ble_eq_true rfl)) (fun _ h9 hf => ?_)
          refine s_goto (tgt := 4) C dX12_both_35 (by decide) ?_
          exact ih4 _ hf
  exact k4 lpN _ hf
set_option maxRecDepth 100000 in
set_option maxHeartbeats 4000000 in
theorem cs_X12_compared (l : Launch) (D : DT) (nS : Nat) (ih : PG_X12_both l D nS) : ∀ (p0 : Option Nat) (h : AH) (r : Unit × AH), G_X12_both (nS + 1) 1 p0 h = some r → CM l D yX12_compared cX12_compared 2 none (4 + (nS + 1)) (82 + 60 * (nS + 1)) 0 0 [.inr (.inr p0)] h none r.2 := by
  unfold PG_X12_both at ih
  intro o h r hf
  rw [eq_G_X12_both] at hf
  have hf : fb_X12_compared (G_X12_both nS) o h = some r := (if_pos rfl).symm.trans ((if_neg (by decide)).symm.trans (hf))
  refine CM.of (by decide) (Nat.le_of_ble_eq_true rfl) (fun X hl C hD hX hnm E => ?_)
  subst hl
  subst hD
  have C : CX X RX12 cX12_compared 2 := C
  show WW X h 0 0 0 [some (rB (xD X).1 o), none] []
  unfold fb_X12_compared at hf
  refine s_aload_n C dX12_compared_0 rfl ?_
  refine s_ldc2 C dX12_compared_1 wk_X12_400 ?_
  refine s_callV (rvf := fun x => some (.int x)) (st := []) (fr := 0) (lo := 0) (mc := 0) (ms := 0) C [12] wc_X12_isWord wml_X12_376 wim_X12_isWord wsl_12_X12_isWord dX12_compared_4 (As := [.inr (.inl (10631 : Int64))]) rfl hf (fun x h' hF => c_X12_isWord _ _ _ _ _ (x, h') hF) rfl (Nat.le_of_ble_eq_true rfl) (room_ok hX (by omega) (by omega)) (cell_ok hX (Nat.le_of_ble_eq_true rfl) (Nat.le_of_ble_eq_true rfl)) (fun v2 h1 hf => ?_)
  refine s_if_eq (tgt := 39) C dX12_compared_7 (by decide) hf (fun hf => ?_) (fun hf => ?_)
  · refine s_aload_n C dX12_compared_39 rfl ?_
    refine s_callV (rvf := fun _ => none) (st := []) (fr := (4 + nS)) (lo := (82 + 60 * nS)) (mc := 0) (ms := 0) C [12] wc_X12_sum wml_X12_405 wim_X12_sum wsl_12_X12_sum dX12_compared_40 (As := []) rfl hf (fun x h' hF => ih.2.2.2.2.2 o h1 (x, h') hF) rfl (Nat.le_of_ble_eq_true rfl) (room_ok hX (by omega) (by omega)) (cell_ok hX (Nat.le_of_ble_eq_true rfl) (Nat.le_of_ble_eq_true rfl)) (fun _ h3 hf => ?_)
    refine s_aload_n C dX12_compared_43 rfl ?_
    refine s_getI C fl_X12_336 dX12_compared_44 hf (fun v4 hf => ?_)
    refine s_istore_n C dX12_compared_47 (by decide) (nc_r rfl) (lv' := [some (rB (xD X).1 o), some (.int v4)]) rfl ?_
    refine s_aload_n C dX12_compared_48 rfl ?_
    refine s_getI C fl_X12_355 dX12_compared_49 hf (fun v5 hf => ?_)
    refine s_jn hf (fun j73 e73 hf => ?_)
    have k73 : j73  = some r → WW X h3 0 0 73 [none, none] [] := by
      intro  hf
      rw [e73] at hf
      exact s_return C E dX12_compared_73 hf (Nat.le_of_ble_eq_true rfl) (Nat.le_of_ble_eq_true rfl)
    refine s_if_ge (tgt := 73) C dX12_compared_52 (by decide) hf (fun hf => ?_) (fun hf => ?_)
    · refine s_weak (lv' := [none, none]) trivial ?_
      exact k73 hf
    · refine s_iload_n C dX12_compared_55 rfl ?_
      refine s_bipush C dX12_compared_56 (v := (60 : Int32)) (by decide) ?_
      refine s_jn hf (fun j74 e74 hf => ?_)
      have k74 : j74  = some r → WW X h3 0 0 74 [some (rB (xD X).1 o), some (.int v4)] [] := by
        intro  hf
        rw [e74] at hf
        refine s_aload_n C dX12_compared_74 rfl ?_
        refine s_callV (rvf := fun _ => none) (st := []) (fr := 2) (lo := 42) (mc := 0) (ms := 0) C [12] wc_X12_nextToken wml_X12_370 wim_X12_nextToken wsl_12_X12_nextToken dX12_compared_75 (As := []) rfl hf (fun x h' hF => c_X12_nextToken _ _ _ _ (x, h') hF) rfl (Nat.le_of_ble_eq_true rfl) (room_ok hX (by omega) (by omega)) (cell_ok hX (Nat.le_of_ble_eq_true rfl) (Nat.le_of_ble_eq_true rfl)) (fun _ h6 hf => ?_)
        refine s_aload_n C dX12_compared_78 rfl ?_
        refine s_callV (rvf := fun _ => none) (st := []) (fr := (4 + nS)) (lo := (82 + 60 * nS)) (mc := 0) (ms := 0) C [12] wc_X12_sum wml_X12_405 wim_X12_sum wsl_12_X12_sum dX12_compared_79 (As := []) rfl hf (fun x h' hF => ih.2.2.2.2.2 o h6 (x, h') hF) rfl (Nat.le_of_ble_eq_true rfl) (room_ok hX (by omega) (by omega)) (cell_ok hX (Nat.le_of_ble_eq_true rfl) (Nat.le_of_ble_eq_true rfl)) (fun _ h7 hf => ?_)
        refine s_aload_n C dX12_compared_82 rfl ?_
        refine s_iload_n C dX12_compared_83 rfl ?_
        refine s_bipush C dX12_compared_84 (v := (60 : Int32)) (by decide) ?_
        refine s_jn hf (fun j107 e107 hf => ?_)
        have k107 : ∀ (x8 : Int32), j107 x8 = some r → WW X h7 0 0 107 [none, none] [.int x8, rB (xD X).1 o] := by
          intro x8 hf
          rw [e107] at hf
          refine s_iconst C dX12_compared_107 (v := (0 : Int32)) (by decide) ?_
          refine s_callV (rvf := fun _ => none) (st := []) (fr := 0) (lo := 0) (mc := 0) (ms := 0) C [12] wc_X12_lay wml_X12_380 wim_X12_lay wsl_12_X12_lay dX12_compared_108 (As := [.inl x8, .inl (0 : Int32)]) rfl hf (fun x h' hF => c_X12_lay _ _ _ _ _ _ (x, h') hF) rfl (Nat.le_of_ble_eq_true rfl) (room_ok hX (by omega) (by omega)) (cell_ok hX (Nat.le_of_ble_eq_true rfl) (Nat.le_of_ble_eq_true rfl)) (fun _ h9 hf => ?_)
          exact s_return C E dX12_compared_111 hf (Nat.le_of_ble_eq_true rfl) (Nat.le_of_ble_eq_true rfl)
        refine s_icmp_ne (tgt := 94) C dX12_compared_86 (by decide) hf (fun hf => ?_) (fun hf => ?_)
        · refine s_iload_n C dX12_compared_94 rfl ?_
          refine s_bipush C dX12_compared_95 (v := (61 : Int32)) (by decide) ?_
          refine s_icmp_ne (tgt := 105) C dX12_compared_97 (by decide) hf (fun hf => ?_) (fun hf => ?_)
          · refine s_bipush C dX12_compared_105 (v := (9 : Int32)) (by decide) ?_
            refine s_weak (lv' := [none, none]) trivial ?_
            exact k107 _ hf
          · refine s_bipush C dX12_compared_100 (v := (8 : Int32)) (by decide) ?_
            refine s_goto (tgt := 107) C dX12_compared_102 (by decide) ?_
            refine s_weak (lv' := [none, none]) trivial ?_
            exact k107 _ hf
        · refine s_bipush C dX12_compared_89 (v := (7 : Int32)) (by decide) ?_
          refine s_goto (tgt := 107) C dX12_compared_91 (by decide) ?_
          refine s_weak (lv' := [none, none]) trivial ?_
          exact k107 _ hf
      refine s_icmp_eq (tgt := 74) C dX12_compared_58 (by decide) hf (fun hf => ?_) (fun hf => ?_)
      · exact k74 hf
      · refine s_iload_n C dX12_compared_61 rfl ?_
        refine s_bipush C dX12_compared_62 (v := (61 : Int32)) (by decide) ?_
        refine s_icmp_eq (tgt := 74) C dX12_compared_64 (by decide) hf (fun hf => ?_) (fun hf => ?_)
        · exact k74 hf
        · refine s_iload_n C dX12_compared_67 rfl ?_
          refine s_bipush C dX12_compared_68 (v := (62 : Int32)) (by decide) ?_
          refine s_icmp_eq (tgt := 74) C dX12_compared_70 (by decide) hf (fun hf => ?_) (fun hf => ?_)
          · exact k74 hf
          · refine s_weak (lv' := [none, none]) trivial ?_
            exact k73 hf
  · refine s_aload_n C dX12_compared_10 rfl ?_
    refine s_callV (rvf := fun x => some (.int x)) (st := []) (fr := 3) (lo := 62) (mc := 0) (ms := 0) C [12] wc_X12_opens wml_X12_387 wim_X12_opens wsl_12_X12_opens dX12_compared_11 (As := []) rfl hf (fun x h' hF => c_X12_opens _ _ _ _ (x, h') hF) rfl (Nat.le_of_ble_eq_true rfl) (room_ok hX (by omega) (by omega)) (cell_ok hX (Nat.le_of_ble_eq_true rfl) (Nat.le_of_ble_eq_true rfl)) (fun v11 h10 hf => ?_)
    refine s_if_ne (tgt := 18) C dX12_compared_14 (by decide) hf (fun hf => ?_) (fun hf => ?_)
    · refine s_aload_n C dX12_compared_18 rfl ?_
      refine s_callV (rvf := fun _ => none) (st := []) (fr := (4 + nS)) (lo := (82 + 60 * nS)) (mc := 0) (ms := 0) C [12] wc_X12_compared wml_X12_402 wim_X12_compared wsl_12_X12_compared dX12_compared_19 (As := []) rfl hf (fun x h' hF => ih.2.1 o h10 (x, h') hF) rfl (Nat.le_of_ble_eq_true rfl) (room_ok hX (by omega) (by omega)) (cell_ok hX (Nat.le_of_ble_eq_true rfl) (Nat.le_of_ble_eq_true rfl)) (fun _ h12 hf => ?_)
      refine s_aload_n C dX12_compared_22 rfl ?_
      refine s_dup C dX12_compared_23 c1_r ?_
      refine s_getI C fl_X12_364 dX12_compared_24 hf (fun v13 hf => ?_)
      refine s_iconst C dX12_compared_27 (v := (1 : Int32)) (by decide) ?_
      refine s_isub C dX12_compared_28 ?_
      refine s_putI C fl_X12_364 (by decide) dX12_compared_29 hf (fun h14 hf => ?_)
      refine s_aload_n C dX12_compared_32 rfl ?_
      refine s_iconst C dX12_compared_33 (v := (3 : Int32)) (by decide) ?_
      refine s_iconst C dX12_compared_34 (v := (0 : Int32)) (by decide) ?_
      refine s_callV (rvf := fun _ => none) (st := []) (fr := 0) (lo := 0) (mc := 0) (ms := 0) C [12] wc_X12_lay wml_X12_380 wim_X12_lay wsl_12_X12_lay dX12_compared_35 (As := [.inl (3 : Int32), .inl (0 : Int32)]) rfl hf (fun x h' hF => c_X12_lay _ _ _ _ _ _ (x, h') hF) rfl (Nat.le_of_ble_eq_true rfl) (room_ok hX (by omega) (by omega)) (cell_ok hX (Nat.le_of_ble_eq_true rfl) (Nat.le_of_ble_eq_true rfl)) (fun _ h15 hf => ?_)
      exact s_return C E dX12_compared_38 hf (Nat.le_of_ble_eq_true rfl) (Nat.le_of_ble_eq_true rfl)
    · exact s_return C E dX12_compared_17 hf (Nat.le_of_ble_eq_true rfl) (Nat.le_of_ble_eq_true rfl)
set_option maxRecDepth 100000 in
set_option maxHeartbeats 4000000 in
theorem cs_X12_either (l : Launch) (D : DT) (nS : Nat) (ih : PG_X12_both l D nS) : ∀ (p0 : Option Nat) (h : AH) (r : Unit × AH), G_X12_both (nS + 1) 2 p0 h = some r → CM l D yX12_either cX12_either 1 none (4 + (nS + 1)) (82 + 60 * (nS + 1)) 0 0 [.inr (.inr p0)] h none r.2 := by
  unfold PG_X12_both at ih
  intro o h r hf
  rw [eq_G_X12_both] at hf
  have hf : fb_X12_either (G_X12_both nS) o h = some r := (if_pos rfl).symm.trans ((if_neg (by decide)).symm.trans ((if_neg (by decide)).symm.trans (hf)))
  refine CM.of (by decide) (Nat.le_of_ble_eq_true rfl) (fun X hl C hD hX hnm E => ?_)
  subst hl
  subst hD
  have C : CX X RX12 cX12_either 1 := C
  show WW X h 0 0 0 [some (rB (xD X).1 o)] []
  unfold fb_X12_either at hf
  refine s_aload_n C dX12_either_0 rfl ?_
  refine s_callV (rvf := fun _ => none) (st := []) (fr := (4 + nS)) (lo := (82 + 60 * nS)) (mc := 0) (ms := 0) C [12] wc_X12_both wml_X12_410 wim_X12_both wsl_12_X12_both dX12_either_1 (As := []) rfl hf (fun x h' hF => ih.1 o h (x, h') hF) rfl (Nat.le_of_ble_eq_true rfl) (room_ok hX (by omega) (by omega)) (cell_ok hX (Nat.le_of_ble_eq_true rfl) (Nat.le_of_ble_eq_true rfl)) (fun _ h1 hf => ?_)
  refine s_lp1 hf (fun G4 z4 q4 hf => ?_)
  have k4 : ∀ (n : Nat) (h2 : AH), G4 n h2 = some r → WW X h2 0 0 4 [some (rB (xD X).1 o)] [] := by
    intro n
    induction n with
    | zero =>
      intro h2 hf
      rw [z4] at hf
      cases hf
    | succ n ih4 =>
      intro h2 hf
      have hf := (q4 n h2).symm.trans hf
      refine s_aload_n C dX12_either_4 rfl ?_
      refine s_getI C fl_X12_355 dX12_either_5 hf (fun v3 hf => ?_)
      refine s_jn hf (fun j39 e39 hf => ?_)
      have k39 : ∀ (h4 : AH), j39 h4 = some r → WW X h4 0 0 39 [none] [] := by
        intro h4 hf
        rw [e39] at hf
        exact s_return C E dX12_either_39 hf (Nat.le_of_ble_eq_true rfl) (Nat.le_of_ble_eq_true rfl)
      refine s_if_ge (tgt := 39) C dX12_either_8 (by decide) hf (fun hf => ?_) (fun hf => ?_)
      · refine s_weak (lv' := [none]) trivial ?_
        exact k39 _ hf
      · refine s_aload_n C dX12_either_11 rfl ?_
        refine s_ldc2 C dX12_either_12 wk_X12_413 ?_
        refine s_callV (rvf := fun x => some (.int x)) (st := []) (fr := 0) (lo := 0) (mc := 0) (ms := 0) C [12] wc_X12_isWord wml_X12_376 wim_X12_isWord wsl_12_X12_isWord dX12_either_15 (As := [.inr (.inl (423 : Int64))]) rfl hf (fun x h' hF => c_X12_isWord _ _ _ _ _ (x, h') hF) rfl (Nat.le_of_ble_eq_true rfl) (room_ok hX (by omega) (by omega)) (cell_ok hX (Nat.le_of_ble_eq_true rfl) (Nat.le_of_ble_eq_true rfl)) (fun v6 h5 hf => ?_)
        refine s_if_eq (tgt := 39) C dX12_either_18 (by decide) hf (fun hf => ?_) (fun hf => ?_)
        · refine s_weak (lv' := [none]) trivial ?_
          exact k39 _ hf
        · refine s_aload_n C dX12_either_21 rfl ?_
          refine s_callV (rvf := fun _ => none) (st := []) (fr := 2) (lo := 42) (mc := 0) (ms := 0) C [12] wc_X12_nextToken wml_X12_370 wim_X12_nextToken wsl_12_X12_nextToken dX12_either_22 (As := []) rfl hf (fun x h' hF => c_X12_nextToken _ _ _ _ (x, h') hF) rfl (Nat.le_of_ble_eq_true rfl) (room_ok hX (by omega) (by omega)) (cell_ok hX (Nat.le_of_ble_eq_true rfl) (Nat.le_of_ble_eq_true rfl)) (fun _ h7 hf => ?_)
          refine s_aload_n C dX12_either_25 rfl ?_
          refine s_callV (rvf := fun _ => none) (st := []) (fr := (4 + nS)) (lo := (82 + 60 * nS)) (mc := 0) (ms := 0) C [12] wc_X12_both wml_X12_410 wim_X12_both wsl_12_X12_both dX12_either_26 (As := []) rfl hf (fun x h' hF => ih.1 o h7 (x, h') hF) rfl (Nat.le_of_ble_eq_true rfl) (room_ok hX (by omega) (by omega)) (cell_ok hX (Nat.le_of_ble_eq_true rfl) (Nat.le_of_ble_eq_true rfl)) (fun _ h8 hf => ?_)
          refine s_aload_n C dX12_either_29 rfl ?_
          refine s_bipush C dX12_either_30 (v := (6 : Int32)) (by decide) ?_
          refine s_iconst C dX12_either_32 (v := (0 : Int32)) (by decide) ?_
          refine s_callV (rvf := fun _ => none) (st := []) (fr := 0) (lo := 0) (mc := 0) (ms := 0) C [12] wc_X12_lay wml_X12_380 wim_X12_lay wsl_12_X12_lay dX12_either_33 (As := [.inl (6 : Int32), .inl (0 : Int32)]) rfl hf (fun x h' hF => c_X12_lay _ _ _ _ _ _ (x, h') hF) rfl (Nat.le_of_ble_eq_true rfl) (room_ok hX (by omega) (by omega)) (cell_ok hX (Nat.le_of_ble_eq_true rfl) (Nat.le_of_ble_eq_true rfl)) (fun _ h9 hf => ?_)
          refine s_goto (tgt := 4) C dX12_either_36 (by decide) ?_
          exact ih4 _ hf
  exact k4 lpN _ hf
set_option maxRecDepth 100000 in
set_option maxHeartbeats 4000000 in
theorem cs_X12_operand (l : Launch) (D : DT) (nS : Nat) (ih : PG_X12_both l D nS) : ∀ (p0 : Option Nat) (h : AH) (r : Unit × AH), G_X12_both (nS + 1) 3 p0 h = some r → CM l D yX12_operand cX12_operand 1 none (4 + (nS + 1)) (82 + 60 * (nS + 1)) 0 0 [.inr (.inr p0)] h none r.2 := by
  unfold PG_X12_both at ih
  intro o h r hf
  rw [eq_G_X12_both] at hf
  have hf : fb_X12_operand (G_X12_both nS) o h = some r := (if_pos rfl).symm.trans ((if_neg (by decide)).symm.trans ((if_neg (by decide)).symm.trans ((if_neg (by decide)).symm.trans (hf))))
  refine CM.of (by decide) (Nat.le_of_ble_eq_true rfl) (fun X hl C hD hX hnm E => ?_)
  subst hl
  subst hD
  have C : CX X RX12 cX12_operand 1 := C
  show WW X h 0 0 0 [some (rB (xD X).1 o)] []
  unfold fb_X12_operand at hf
  refine s_aload_n C dX12_operand_0 rfl ?_
  refine s_getI C fl_X12_336 dX12_operand_1 hf (fun v1 hf => ?_)
  refine s_iconst C dX12_operand_4 (v := (2 : Int32)) (by decide) ?_
  refine s_jn hf (fun j151 e151 hf => ?_)
  have k151 : ∀ (h2 : AH), j151 h2 = some r → WW X h2 0 0 151 [none] [] := by
    intro h2 hf
    rw [e151] at hf
    exact s_return C E dX12_operand_151 hf (Nat.le_of_ble_eq_true rfl) (Nat.le_of_ble_eq_true rfl)
  refine s_icmp_ne (tgt := 24) C dX12_operand_5 (by decide) hf (fun hf => ?_) (fun hf => ?_)
  · refine s_aload_n C dX12_operand_24 rfl ?_
    refine s_callV (rvf := fun x => some (.int x)) (st := []) (fr := 1) (lo := 25) (mc := 0) (ms := 0) C [12] wc_X12_nameHere wml_X12_383 wim_X12_nameHere wsl_12_X12_nameHere dX12_operand_25 (As := []) rfl hf (fun x h' hF => c_X12_nameHere _ _ _ _ (x, h') hF) rfl (Nat.le_of_ble_eq_true rfl) (room_ok hX (by omega) (by omega)) (cell_ok hX (Nat.le_of_ble_eq_true rfl) (Nat.le_of_ble_eq_true rfl)) (fun v4 h3 hf => ?_)
    refine s_if_lt (tgt := 47) C dX12_operand_28 (by decide) hf (fun hf => ?_) (fun hf => ?_)
    · refine s_aload_n C dX12_operand_47 rfl ?_
      refine s_getI C fl_X12_336 dX12_operand_48 hf (fun v5 hf => ?_)
      refine s_bipush C dX12_operand_51 (v := (45 : Int32)) (by decide) ?_
      refine s_icmp_ne (tgt := 87) C dX12_operand_53 (by decide) hf (fun hf => ?_) (fun hf => ?_)
      · refine s_aload_n C dX12_operand_87 rfl ?_
        refine s_getI C fl_X12_336 dX12_operand_88 hf (fun v6 hf => ?_)
        refine s_bipush C dX12_operand_91 (v := (40 : Int32)) (by decide) ?_
        refine s_icmp_ne (tgt := 147) C dX12_operand_93 (by decide) hf (fun hf => ?_) (fun hf => ?_)
        · refine s_aload_n C dX12_operand_147 rfl ?_
          refine s_callV (rvf := fun _ => none) (st := []) (fr := 0) (lo := 0) (mc := 0) (ms := 0) C [12] wc_X12_wrong wml_X12_367 wim_X12_wrong wsl_12_X12_wrong dX12_operand_148 (As := []) rfl hf (fun x h' hF => c_X12_wrong _ _ _ _ (x, h') hF) rfl (Nat.le_of_ble_eq_true rfl) (room_ok hX (by omega) (by omega)) (cell_ok hX (Nat.le_of_ble_eq_true rfl) (Nat.le_of_ble_eq_true rfl)) (fun _ h7 hf => ?_)
          refine s_weak (lv' := [none]) trivial ?_
          exact k151 _ hf
        · refine s_aload_n C dX12_operand_96 rfl ?_
          refine s_callV (rvf := fun x => some (.int x)) (st := []) (fr := 3) (lo := 62) (mc := 0) (ms := 0) C [12] wc_X12_opens wml_X12_387 wim_X12_opens wsl_12_X12_opens dX12_operand_97 (As := []) rfl hf (fun x h' hF => c_X12_opens _ _ _ _ (x, h') hF) rfl (Nat.le_of_ble_eq_true rfl) (room_ok hX (by omega) (by omega)) (cell_ok hX (Nat.le_of_ble_eq_true rfl) (Nat.le_of_ble_eq_true rfl)) (fun v9 h8 hf => ?_)
          refine s_if_ne (tgt := 104) C dX12_operand_100 (by decide) hf (fun hf => ?_) (fun hf => ?_)
          · refine s_aload_n C dX12_operand_104 rfl ?_
            refine s_callV (rvf := fun _ => none) (st := []) (fr := (4 + nS)) (lo := (82 + 60 * nS)) (mc := 0) (ms := 0) C [12] wc_X12_either wml_X12_394 wim_X12_either wsl_12_X12_either dX12_operand_105 (As := []) rfl hf (fun x h' hF => ih.2.2.1 o h8 (x, h') hF) rfl (Nat.le_of_ble_eq_true rfl) (room_ok hX (by omega) (by omega)) (cell_ok hX (Nat.le_of_ble_eq_true rfl) (Nat.le_of_ble_eq_true rfl)) (fun _ h10 hf => ?_)
            refine s_aload_n C dX12_operand_108 rfl ?_
            refine s_getI C fl_X12_355 dX12_operand_109 hf (fun v11 hf => ?_)
            refine s_if_lt (tgt := 116) C dX12_operand_112 (by decide) hf (fun hf => ?_) (fun hf => ?_)
            · refine s_aload_n C dX12_operand_116 rfl ?_
              refine s_getI C fl_X12_336 dX12_operand_117 hf (fun v12 hf => ?_)
              refine s_bipush C dX12_operand_120 (v := (41 : Int32)) (by decide) ?_
              refine s_icmp_eq (tgt := 130) C dX12_operand_122 (by decide) hf (fun hf => ?_) (fun hf => ?_)
              · refine s_aload_n C dX12_operand_130 rfl ?_
                refine s_dup C dX12_operand_131 c1_r ?_
                refine s_getI C fl_X12_364 dX12_operand_132 hf (fun v13 hf => ?_)
                refine s_iconst C dX12_operand_135 (v := (1 : Int32)) (by decide) ?_
                refine s_isub C dX12_operand_136 ?_
                refine s_putI C fl_X12_364 (by decide) dX12_operand_137 hf (fun h14 hf => ?_)
                refine s_aload_n C dX12_operand_140 rfl ?_
                refine s_callV (rvf := fun _ => none) (st := []) (fr := 2) (lo := 42) (mc := 0) (ms := 0) C [12] wc_X12_nextToken wml_X12_370 wim_X12_nextToken wsl_12_X12_nextToken dX12_operand_141 (As := []) rfl hf (fun x h' hF => c_X12_nextToken _ _ _ _ (x, h') hF) rfl (Nat.le_of_ble_eq_true rfl) (room_ok hX (by omega) (by omega)) (cell_ok hX (Nat.le_of_ble_eq_true rfl) (Nat.le_of_ble_eq_true rfl)) (fun _ h15 hf => ?_)
                refine s_goto (tgt := 151) C dX12_operand_144 (by decide) ?_
                refine s_weak (lv' := [none]) trivial ?_
                exact k151 _ hf
              · refine s_aload_n C dX12_operand_125 rfl ?_
                refine s_callV (rvf := fun _ => none) (st := []) (fr := 0) (lo := 0) (mc := 0) (ms := 0) C [12] wc_X12_wrong wml_X12_367 wim_X12_wrong wsl_12_X12_wrong dX12_operand_126 (As := []) rfl hf (fun x h' hF => c_X12_wrong _ _ _ _ (x, h') hF) rfl (Nat.le_of_ble_eq_true rfl) (room_ok hX (by omega) (by omega)) (cell_ok hX (Nat.le_of_ble_eq_true rfl) (Nat.le_of_ble_eq_true rfl)) (fun _ h16 hf => ?_)
                exact s_return C E dX12_operand_129 hf (Nat.le_of_ble_eq_true rfl) (Nat.le_of_ble_eq_true rfl)
            · exact s_return C E dX12_operand_115 hf (Nat.le_of_ble_eq_true rfl) (Nat.le_of_ble_eq_true rfl)
          · exact s_return C E dX12_operand_103 hf (Nat.le_of_ble_eq_true rfl) (Nat.le_of_ble_eq_true rfl)
      · refine s_aload_n C dX12_operand_56 rfl ?_
        refine s_callV (rvf := fun x => some (.int x)) (st := []) (fr := 3) (lo := 62) (mc := 0) (ms := 0) C [12] wc_X12_opens wml_X12_387 wim_X12_opens wsl_12_X12_opens dX12_operand_57 (As := []) rfl hf (fun x h' hF => c_X12_opens _ _ _ _ (x, h') hF) rfl (Nat.le_of_ble_eq_true rfl) (room_ok hX (by omega) (by omega)) (cell_ok hX (Nat.le_of_ble_eq_true rfl) (Nat.le_of_ble_eq_true rfl)) (fun v18 h17 hf => ?_)
        refine s_if_ne (tgt := 64) C dX12_operand_60 (by decide) hf (fun hf => ?_) (fun hf => ?_)
        · refine s_aload_n C dX12_operand_64 rfl ?_
          refine s_callV (rvf := fun _ => none) (st := []) (fr := (4 + nS)) (lo := (82 + 60 * nS)) (mc := 0) (ms := 0) C [12] wc_X12_operand wml_X12_391 wim_X12_operand wsl_12_X12_operand dX12_operand_65 (As := []) rfl hf (fun x h' hF => ih.2.2.2.1 o h17 (x, h') hF) rfl (Nat.le_of_ble_eq_true rfl) (room_ok hX (by omega) (by omega)) (cell_ok hX (Nat.le_of_ble_eq_true rfl) (Nat.le_of_ble_eq_true rfl)) (fun _ h19 hf => ?_)
          refine s_aload_n C dX12_operand_68 rfl ?_
          refine s_dup C dX12_operand_69 c1_r ?_
          refine s_getI C fl_X12_364 dX12_operand_70 hf (fun v20 hf => ?_)
          refine s_iconst C dX12_operand_73 (v := (1 : Int32)) (by decide) ?_
          refine s_isub C dX12_operand_74 ?_
          refine s_putI C fl_X12_364 (by decide) dX12_operand_75 hf (fun h21 hf => ?_)
          refine s_aload_n C dX12_operand_78 rfl ?_
          refine s_iconst C dX12_operand_79 (v := (4 : Int32)) (by decide) ?_
          refine s_iconst C dX12_operand_80 (v := (0 : Int32)) (by decide) ?_
          refine s_callV (rvf := fun _ => none) (st := []) (fr := 0) (lo := 0) (mc := 0) (ms := 0) C [12] wc_X12_lay wml_X12_380 wim_X12_lay wsl_12_X12_lay dX12_operand_81 (As := [.inl (4 : Int32), .inl (0 : Int32)]) rfl hf (fun x h' hF => c_X12_lay _ _ _ _ _ _ (x, h') hF) rfl (Nat.le_of_ble_eq_true rfl) (room_ok hX (by omega) (by omega)) (cell_ok hX (Nat.le_of_ble_eq_true rfl) (Nat.le_of_ble_eq_true rfl)) (fun _ h22 hf => ?_)
          refine s_goto (tgt := 151) C dX12_operand_84 (by decide) ?_
          refine s_weak (lv' := [none]) trivial ?_
          exact k151 _ hf
        · exact s_return C E dX12_operand_63 hf (Nat.le_of_ble_eq_true rfl) (Nat.le_of_ble_eq_true rfl)
    · refine s_aload_n C dX12_operand_31 rfl ?_
      refine s_iconst C dX12_operand_32 (v := (2 : Int32)) (by decide) ?_
      refine s_aload_n C dX12_operand_33 rfl ?_
      refine s_callV (rvf := fun x => some (.int x)) (st := [.int (2 : Int32), rB (xD X).1 o]) (fr := 1) (lo := 25) (mc := 0) (ms := 0) C [12] wc_X12_nameHere wml_X12_383 wim_X12_nameHere wsl_12_X12_nameHere dX12_operand_34 (As := []) rfl hf (fun x h' hF => c_X12_nameHere _ _ _ _ (x, h') hF) rfl (Nat.le_of_ble_eq_true rfl) (room_ok hX (by omega) (by omega)) (cell_ok hX (Nat.le_of_ble_eq_true rfl) (Nat.le_of_ble_eq_true rfl)) (fun v24 h23 hf => ?_)
      refine s_callV (rvf := fun _ => none) (st := []) (fr := 0) (lo := 0) (mc := 0) (ms := 0) C [12] wc_X12_lay wml_X12_380 wim_X12_lay wsl_12_X12_lay dX12_operand_37 (As := [.inl (2 : Int32), .inl v24]) rfl hf (fun x h' hF => c_X12_lay _ _ _ _ _ _ (x, h') hF) rfl (Nat.le_of_ble_eq_true rfl) (room_ok hX (by omega) (by omega)) (cell_ok hX (Nat.le_of_ble_eq_true rfl) (Nat.le_of_ble_eq_true rfl)) (fun _ h25 hf => ?_)
      refine s_aload_n C dX12_operand_40 rfl ?_
      refine s_callV (rvf := fun _ => none) (st := []) (fr := 2) (lo := 42) (mc := 0) (ms := 0) C [12] wc_X12_nextToken wml_X12_370 wim_X12_nextToken wsl_12_X12_nextToken dX12_operand_41 (As := []) rfl hf (fun x h' hF => c_X12_nextToken _ _ _ _ (x, h') hF) rfl (Nat.le_of_ble_eq_true rfl) (room_ok hX (by omega) (by omega)) (cell_ok hX (Nat.le_of_ble_eq_true rfl) (Nat.le_of_ble_eq_true rfl)) (fun _ h26 hf => ?_)
      refine s_goto (tgt := 151) C dX12_operand_44 (by decide) ?_
      refine s_weak (lv' := [none]) trivial ?_
      exact k151 _ hf
  · refine s_aload_n C dX12_operand_8 rfl ?_
    refine s_iconst C dX12_operand_9 (v := (1 : Int32)) (by decide) ?_
    refine s_aload_n C dX12_operand_10 rfl ?_
    refine s_getI C fl_X12_345 dX12_operand_11 hf (fun v27 hf => ?_)
    refine s_callV (rvf := fun _ => none) (st := []) (fr := 0) (lo := 0) (mc := 0) (ms := 0) C [12] wc_X12_lay wml_X12_380 wim_X12_lay wsl_12_X12_lay dX12_operand_14 (As := [.inl (1 : Int32), .inl v27]) rfl hf (fun x h' hF => c_X12_lay _ _ _ _ _ _ (x, h') hF) rfl (Nat.le_of_ble_eq_true rfl) (room_ok hX (by omega) (by omega)) (cell_ok hX (Nat.le_of_ble_eq_true rfl) (Nat.le_of_ble_eq_true rfl)) (fun _ h28 hf => ?_)
    refine s_aload_n C dX12_operand_17 rfl ?_
    refine s_callV (rvf := fun _ => none) (st := []) (fr := 2) (lo := 42) (mc := 0) (ms := 0) C [12] wc_X12_nextToken wml_X12_370 wim_X12_nextToken wsl_12_X12_nextToken dX12_operand_18 (As := []) rfl hf (fun x h' hF => c_X12_nextToken _ _ _ _ (x, h') hF) rfl (Nat.le_of_ble_eq_true rfl) (room_ok hX (by omega) (by omega)) (cell_ok hX (Nat.le_of_ble_eq_true rfl) (Nat.le_of_ble_eq_true rfl)) (fun _ h29 hf => ?_)
    refine s_goto (tgt := 151) C dX12_operand_21 (by decide) ?_
    refine s_weak (lv' := [none]) trivial ?_
    exact k151 _ hf
set_option maxRecDepth 100000 in
set_option maxHeartbeats 4000000 in
theorem cs_X12_product (l : Launch) (D : DT) (nS : Nat) (ih : PG_X12_both l D nS) : ∀ (p0 : Option Nat) (h : AH) (r : Unit × AH), G_X12_both (nS + 1) 4 p0 h = some r → CM l D yX12_product cX12_product 2 none (4 + (nS + 1)) (82 + 60 * (nS + 1)) 0 0 [.inr (.inr p0)] h none r.2 := by
  unfold PG_X12_both at ih
  intro o h r hf
  rw [eq_G_X12_both] at hf
  have hf : fb_X12_product (G_X12_both nS) o h = some r := (if_pos rfl).symm.trans ((if_neg (by decide)).symm.trans ((if_neg (by decide)).symm.trans ((if_neg (by decide)).symm.trans ((if_neg (by decide)).symm.trans (hf)))))
  refine CM.of (by decide) (Nat.le_of_ble_eq_true rfl) (fun X hl C hD hX hnm E => ?_)
  subst hl
  subst hD
  have C : CX X RX12 cX12_product 2 := C
  show WW X h 0 0 0 [some (rB (xD X).1 o), none] []
  unfold fb_X12_product at hf
  refine s_aload_n C dX12_product_0 rfl ?_
  refine s_callV (rvf := fun _ => none) (st := []) (fr := (4 + nS)) (lo := (82 + 60 * nS)) (mc := 0) (ms := 0) C [12] wc_X12_operand wml_X12_391 wim_X12_operand wsl_12_X12_operand dX12_product_1 (As := []) rfl hf (fun x h' hF => ih.2.2.2.1 o h (x, h') hF) rfl (Nat.le_of_ble_eq_true rfl) (room_ok hX (by omega) (by omega)) (cell_ok hX (Nat.le_of_ble_eq_true rfl) (Nat.le_of_ble_eq_true rfl)) (fun _ h1 hf => ?_)
  refine s_lp1 hf (fun G4 z4 q4 hf => ?_)
  have k4 : ∀ (n : Nat) (h2 : AH), G4 n h2 = some r → WW X h2 0 0 4 [some (rB (xD X).1 o), none] [] := by
    intro n
    induction n with
    | zero =>
      intro h2 hf
      rw [z4] at hf
      cases hf
    | succ n ih4 =>
      intro h2 hf
      have hf := (q4 n h2).symm.trans hf
      refine s_aload_n C dX12_product_4 rfl ?_
      refine s_getI C fl_X12_355 dX12_product_5 hf (fun v3 hf => ?_)
      refine s_jn hf (fun j60 e60 hf => ?_)
      have k60 : j60  = some r → WW X h2 0 0 60 [none, none] [] := by
        intro  hf
        rw [e60] at hf
        exact s_return C E dX12_product_60 hf (Nat.le_of_ble_eq_true rfl) (Nat.le_of_ble_eq_true rfl)
      refine s_if_ge (tgt := 60) C dX12_product_8 (by decide) hf (fun hf => ?_) (fun hf => ?_)
      · refine s_weak (lv' := [none, none]) trivial ?_
        exact k60 hf
      · refine s_aload_n C dX12_product_11 rfl ?_
        refine s_getI C fl_X12_336 dX12_product_12 hf (fun v4 hf => ?_)
        refine s_bipush C dX12_product_15 (v := (42 : Int32)) (by decide) ?_
        refine s_jn hf (fun j38 e38 hf => ?_)
        have k38 : j38  = some r → WW X h2 0 0 38 [some (rB (xD X).1 o), none] [] := by
          intro  hf
          rw [e38] at hf
          refine s_aload_n C dX12_product_38 rfl ?_
          refine s_getI C fl_X12_336 dX12_product_39 hf (fun v5 hf => ?_)
          refine s_istore_n C dX12_product_42 (by decide) (nc_r rfl) (lv' := [some (rB (xD X).1 o), some (.int v5)]) rfl ?_
          refine s_aload_n C dX12_product_43 rfl ?_
          refine s_callV (rvf := fun _ => none) (st := []) (fr := 2) (lo := 42) (mc := 0) (ms := 0) C [12] wc_X12_nextToken wml_X12_370 wim_X12_nextToken wsl_12_X12_nextToken dX12_product_44 (As := []) rfl hf (fun x h' hF => c_X12_nextToken _ _ _ _ (x, h') hF) rfl (Nat.le_of_ble_eq_true rfl) (room_ok hX (by omega) (by omega)) (cell_ok hX (Nat.le_of_ble_eq_true rfl) (Nat.le_of_ble_eq_true rfl)) (fun _ h6 hf => ?_)
          refine s_aload_n C dX12_product_47 rfl ?_
          refine s_callV (rvf := fun _ => none) (st := []) (fr := (4 + nS)) (lo := (82 + 60 * nS)) (mc := 0) (ms := 0) C [12] wc_X12_operand wml_X12_391 wim_X12_operand wsl_12_X12_operand dX12_product_48 (As := []) rfl hf (fun x h' hF => ih.2.2.2.1 o h6 (x, h') hF) rfl (Nat.le_of_ble_eq_true rfl) (room_ok hX (by omega) (by omega)) (cell_ok hX (Nat.le_of_ble_eq_true rfl) (Nat.le_of_ble_eq_true rfl)) (fun _ h7 hf => ?_)
          refine s_aload_n C dX12_product_51 rfl ?_
          refine s_iload_n C dX12_product_52 rfl ?_
          refine s_iconst C dX12_product_53 (v := (0 : Int32)) (by decide) ?_
          refine s_callV (rvf := fun _ => none) (st := []) (fr := 0) (lo := 0) (mc := 0) (ms := 0) C [12] wc_X12_lay wml_X12_380 wim_X12_lay wsl_12_X12_lay dX12_product_54 (As := [.inl v5, .inl (0 : Int32)]) rfl hf (fun x h' hF => c_X12_lay _ _ _ _ _ _ (x, h') hF) rfl (Nat.le_of_ble_eq_true rfl) (room_ok hX (by omega) (by omega)) (cell_ok hX (Nat.le_of_ble_eq_true rfl) (Nat.le_of_ble_eq_true rfl)) (fun _ h8 hf => ?_)
          refine s_goto (tgt := 4) C dX12_product_57 (by decide) ?_
          refine s_weak (lv' := [some (rB (xD X).1 o), none]) ⟨rfl, trivial⟩ ?_
          exact ih4 _ hf
        refine s_icmp_eq (tgt := 38) C dX12_product_17 (by decide) hf (fun hf => ?_) (fun hf => ?_)
        · exact k38 hf
        · refine s_aload_n C dX12_product_20 rfl ?_
          refine s_getI C fl_X12_336 dX12_product_21 hf (fun v9 hf => ?_)
          refine s_bipush C dX12_product_24 (v := (47 : Int32)) (by decide) ?_
          refine s_icmp_eq (tgt := 38) C dX12_product_26 (by decide) hf (fun hf => ?_) (fun hf => ?_)
          · exact k38 hf
          · refine s_aload_n C dX12_product_29 rfl ?_
            refine s_getI C fl_X12_336 dX12_product_30 hf (fun v10 hf => ?_)
            refine s_bipush C dX12_product_33 (v := (37 : Int32)) (by decide) ?_
            refine s_icmp_ne (tgt := 60) C dX12_product_35 (by decide) hf (fun hf => ?_) (fun hf => ?_)
            · refine s_weak (lv' := [none, none]) trivial ?_
              exact k60 hf
            · exact k38 hf
  exact k4 lpN _ hf
set_option maxRecDepth 100000 in
set_option maxHeartbeats 4000000 in
theorem cs_X12_sum (l : Launch) (D : DT) (nS : Nat) (ih : PG_X12_both l D nS) : ∀ (p0 : Option Nat) (h : AH) (r : Unit × AH), G_X12_both (nS + 1) 5 p0 h = some r → CM l D yX12_sum cX12_sum 2 none (4 + (nS + 1)) (82 + 60 * (nS + 1)) 0 0 [.inr (.inr p0)] h none r.2 := by
  unfold PG_X12_both at ih
  intro o h r hf
  rw [eq_G_X12_both] at hf
  have hf : fb_X12_sum (G_X12_both nS) o h = some r := (if_neg (by decide)).symm.trans ((if_neg (by decide)).symm.trans ((if_neg (by decide)).symm.trans ((if_neg (by decide)).symm.trans ((if_neg (by decide)).symm.trans (hf)))))
  refine CM.of (by decide) (Nat.le_of_ble_eq_true rfl) (fun X hl C hD hX hnm E => ?_)
  subst hl
  subst hD
  have C : CX X RX12 cX12_sum 2 := C
  show WW X h 0 0 0 [some (rB (xD X).1 o), none] []
  unfold fb_X12_sum at hf
  refine s_aload_n C dX12_sum_0 rfl ?_
  refine s_callV (rvf := fun _ => none) (st := []) (fr := (4 + nS)) (lo := (82 + 60 * nS)) (mc := 0) (ms := 0) C [12] wc_X12_product wml_X12_397 wim_X12_product wsl_12_X12_product dX12_sum_1 (As := []) rfl hf (fun x h' hF => ih.2.2.2.2.1 o h (x, h') hF) rfl (Nat.le_of_ble_eq_true rfl) (room_ok hX (by omega) (by omega)) (cell_ok hX (Nat.le_of_ble_eq_true rfl) (Nat.le_of_ble_eq_true rfl)) (fun _ h1 hf => ?_)
  refine s_lp1 hf (fun G4 z4 q4 hf => ?_)
  have k4 : ∀ (n : Nat) (h2 : AH), G4 n h2 = some r → WW X h2 0 0 4 [some (rB (xD X).1 o), none] [] := by
    intro n
    induction n with
    | zero =>
      intro h2 hf
      rw [z4] at hf
      cases hf
    | succ n ih4 =>
      intro h2 hf
      have hf := (q4 n h2).symm.trans hf
      refine s_aload_n C dX12_sum_4 rfl ?_
      refine s_getI C fl_X12_355 dX12_sum_5 hf (fun v3 hf => ?_)
      refine s_jn hf (fun j51 e51 hf => ?_)
      have k51 : j51  = some r → WW X h2 0 0 51 [none, none] [] := by
        intro  hf
        rw [e51] at hf
        exact s_return C E dX12_sum_51 hf (Nat.le_of_ble_eq_true rfl) (Nat.le_of_ble_eq_true rfl)
      refine s_if_ge (tgt := 51) C dX12_sum_8 (by decide) hf (fun hf => ?_) (fun hf => ?_)
      · refine s_weak (lv' := [none, none]) trivial ?_
        exact k51 hf
      · refine s_aload_n C dX12_sum_11 rfl ?_
        refine s_getI C fl_X12_336 dX12_sum_12 hf (fun v4 hf => ?_)
        refine s_bipush C dX12_sum_15 (v := (43 : Int32)) (by decide) ?_
        refine s_jn hf (fun j29 e29 hf => ?_)
        have k29 : j29  = some r → WW X h2 0 0 29 [some (rB (xD X).1 o), none] [] := by
          intro  hf
          rw [e29] at hf
          refine s_aload_n C dX12_sum_29 rfl ?_
          refine s_getI C fl_X12_336 dX12_sum_30 hf (fun v5 hf => ?_)
          refine s_istore_n C dX12_sum_33 (by decide) (nc_r rfl) (lv' := [some (rB (xD X).1 o), some (.int v5)]) rfl ?_
          refine s_aload_n C dX12_sum_34 rfl ?_
          refine s_callV (rvf := fun _ => none) (st := []) (fr := 2) (lo := 42) (mc := 0) (ms := 0) C [12] wc_X12_nextToken wml_X12_370 wim_X12_nextToken wsl_12_X12_nextToken dX12_sum_35 (As := []) rfl hf (fun x h' hF => c_X12_nextToken _ _ _ _ (x, h') hF) rfl (Nat.le_of_ble_eq_true rfl) (room_ok hX (by omega) (by omega)) (cell_ok hX (Nat.le_of_ble_eq_true rfl) (Nat.le_of_ble_eq_true rfl)) (fun _ h6 hf => ?_)
          refine s_aload_n C dX12_sum_38 rfl ?_
          refine s_callV (rvf := fun _ => none) (st := []) (fr := (4 + nS)) (lo := (82 + 60 * nS)) (mc := 0) (ms := 0) C [12] wc_X12_product wml_X12_397 wim_X12_product wsl_12_X12_product dX12_sum_39 (As := []) rfl hf (fun x h' hF => ih.2.2.2.2.1 o h6 (x, h') hF) rfl (Nat.le_of_ble_eq_true rfl) (room_ok hX (by omega) (by omega)) (cell_ok hX (Nat.le_of_ble_eq_true rfl) (Nat.le_of_ble_eq_true rfl)) (fun _ h7 hf => ?_)
          refine s_aload_n C dX12_sum_42 rfl ?_
          refine s_iload_n C dX12_sum_43 rfl ?_
          refine s_iconst C dX12_sum_44 (v := (0 : Int32)) (by decide) ?_
          refine s_callV (rvf := fun _ => none) (st := []) (fr := 0) (lo := 0) (mc := 0) (ms := 0) C [12] wc_X12_lay wml_X12_380 wim_X12_lay wsl_12_X12_lay dX12_sum_45 (As := [.inl v5, .inl (0 : Int32)]) rfl hf (fun x h' hF => c_X12_lay _ _ _ _ _ _ (x, h') hF) rfl (Nat.le_of_ble_eq_true rfl) (room_ok hX (by omega) (by omega)) (cell_ok hX (Nat.le_of_ble_eq_true rfl) (Nat.le_of_ble_eq_true rfl)) (fun _ h8 hf => ?_)
          refine s_goto (tgt := 4) C dX12_sum_48 (by decide) ?_
          refine s_weak (lv' := [some (rB (xD X).1 o), none]) ⟨rfl, trivial⟩ ?_
          exact ih4 _ hf
        refine s_icmp_eq (tgt := 29) C dX12_sum_17 (by decide) hf (fun hf => ?_) (fun hf => ?_)
        · exact k29 hf
        · refine s_aload_n C dX12_sum_20 rfl ?_
          refine s_getI C fl_X12_336 dX12_sum_21 hf (fun v9 hf => ?_)
          refine s_bipush C dX12_sum_24 (v := (45 : Int32)) (by decide) ?_
          refine s_icmp_ne (tgt := 51) C dX12_sum_26 (by decide) hf (fun hf => ?_) (fun hf => ?_)
          · refine s_weak (lv' := [none, none]) trivial ?_
            exact k51 hf
          · exact k29 hf
  exact k4 lpN _ hf
theorem c_G_X12_both (l : Launch) (D : DT) : ∀ n : Nat, PG_X12_both l D n := by
  intro n
  induction n with
  | zero =>
    unfold PG_X12_both
    exact ⟨fun p0 h r hf => (by cases hf), fun p0 h r hf => (by cases hf), fun p0 h r hf => (by cases hf), fun p0 h r hf => (by cases hf), fun p0 h r hf => (by cases hf), fun p0 h r hf => (by cases hf)⟩
  | succ nS ih =>
    unfold PG_X12_both
    exact ⟨cs_X12_both l D nS ih, cs_X12_compared l D nS ih, cs_X12_either l D nS ih, cs_X12_operand l D nS ih, cs_X12_product l D nS ih, cs_X12_sum l D nS ih⟩
theorem c_X12_both (l : Launch) (D : DT) (o : Option Nat) (h : AH) (r : Unit × AH) (hf : f_X12_both o h = some r) : CM l D yX12_both cX12_both 1 none 104 6082 0 0 [.inr (.inr o)] h none r.2 := by
  have hc := (c_G_X12_both l D (opq 100))
  unfold PG_X12_both at hc
  have hc := hc.1 o h r hf
  rw [opq_eq] at hc
  exact hc
theorem c_X12_compared (l : Launch) (D : DT) (o : Option Nat) (h : AH) (r : Unit × AH) (hf : f_X12_compared o h = some r) : CM l D yX12_compared cX12_compared 2 none 104 6082 0 0 [.inr (.inr o)] h none r.2 := by
  have hc := (c_G_X12_both l D (opq 100))
  unfold PG_X12_both at hc
  have hc := hc.2.1 o h r hf
  rw [opq_eq] at hc
  exact hc
theorem c_X12_either (l : Launch) (D : DT) (o : Option Nat) (h : AH) (r : Unit × AH) (hf : f_X12_either o h = some r) : CM l D yX12_either cX12_either 1 none 104 6082 0 0 [.inr (.inr o)] h none r.2 := by
  have hc := (c_G_X12_both l D (opq 100))
  unfold PG_X12_both at hc
  have hc := hc.2.2.1 o h r hf
  rw [opq_eq] at hc
  exact hc
theorem c_X12_operand (l : Launch) (D : DT) (o : Option Nat) (h : AH) (r : Unit × AH) (hf : f_X12_operand o h = some r) : CM l D yX12_operand cX12_operand 1 none 104 6082 0 0 [.inr (.inr o)] h none r.2 := by
  have hc := (c_G_X12_both l D (opq 100))
  unfold PG_X12_both at hc
  have hc := hc.2.2.2.1 o h r hf
  rw [opq_eq] at hc
  exact hc
theorem c_X12_product (l : Launch) (D : DT) (o : Option Nat) (h : AH) (r : Unit × AH) (hf : f_X12_product o h = some r) : CM l D yX12_product cX12_product 2 none 104 6082 0 0 [.inr (.inr o)] h none r.2 := by
  have hc := (c_G_X12_both l D (opq 100))
  unfold PG_X12_both at hc
  have hc := hc.2.2.2.2.1 o h r hf
  rw [opq_eq] at hc
  exact hc
theorem c_X12_sum (l : Launch) (D : DT) (o : Option Nat) (h : AH) (r : Unit × AH) (hf : f_X12_sum o h = some r) : CM l D yX12_sum cX12_sum 2 none 104 6082 0 0 [.inr (.inr o)] h none r.2 := by
  have hc := (c_G_X12_both l D (opq 100))
  unfold PG_X12_both at hc
  have hc := hc.2.2.2.2.2 o h r hf
  rw [opq_eq] at hc
  exact hc
/-- HillBoxesModel.line()V -/
noncomputable def f_X12_line (o : Option Nat) (h : AH) : Option (Unit × AH) :=
  fI h [12] o 33 fun v1 =>
  fR h [12] o 37 fun v2 =>
  fI h [12] o 33 fun v3 =>
  aI h 20 v2 v3 fun v4 =>
  rO h [12] o <| cl (f_X12_isWord o (249 : Int64) h) fun v6 h5 =>
  jn (fun (x7 : Int32) (h8 : AH) =>
    fR h8 [12] o 39 fun v9 =>
    fI h8 [12] o 32 fun v10 =>
    bI h8 21 v9 (((81 : Int32) * v1) + v4) (v10.toInt16.toInt32.toInt16.toInt32) fun h11 =>
    jn (fun (h12 : AH) =>
      rO h12 [12] o <| cl (f_X12_either o h12) fun _ h13 =>
      fR h13 [12] o 38 fun v14 =>
      bI h13 22 v14 (((81 : Int32) * v1) + v4) (x7.toInt8.toInt32.toInt8.toInt32) fun h15 =>
      fR h15 [12] o 40 fun v16 =>
      fI h15 [12] o 32 fun v17 =>
      bI h15 21 v16 (((81 : Int32) * v1) + v4) (v17.toInt16.toInt32.toInt16.toInt32) fun h18 =>
      fR h18 [12] o 37 fun v19 =>
      fI h18 [12] o 33 fun v20 =>
      aI h18 20 v19 v20 fun v21 =>
      bI h18 20 v19 v20 (v21 + (1 : Int32)) fun h22 =>
      some ((), h22)) fun j108 =>
    if x7 ≤ 0 then
      j108 h11
    else
      rO h11 [12] o <| cl (f_X12_nextToken o h11) fun _ h23 =>
      rO h23 [12] o <| cl (f_X12_either o h23) fun _ h24 =>
      fI h24 [12] o 30 fun v25 =>
      if v25 < 0 then
        fI h24 [12] o 28 fun v26 =>
        if v26 = (58 : Int32) then
          fR h24 [12] o 39 fun v27 =>
          fI h24 [12] o 32 fun v28 =>
          bI h24 21 v27 (((81 : Int32) * v1) + v4) (v28.toInt16.toInt32.toInt16.toInt32) fun h29 =>
          rO h29 [12] o <| cl (f_X12_nextToken o h29) fun _ h30 =>
          j108 h30
        else
          rO h24 [12] o <| cl (f_X12_wrong o h24) fun _ h31 =>
          some ((), h31)
      else
        some ((), h24)) fun j47 =>
  if v6 = 0 then
    rO h5 [12] o <| cl (f_X12_isWord o (309007594 : Int64) h5) fun v33 h32 =>
    if v33 = 0 then
      j47 (0 : Int32) h32
    else
      j47 (2 : Int32) h32
  else
    j47 (1 : Int32) h5
set_option maxRecDepth 100000 in
set_option maxHeartbeats 4000000 in
theorem c_X12_line (l : Launch) (D : DT) (o : Option Nat) (h : AH) (r : Unit × AH) (hf : f_X12_line o h = some r) : CM l D yX12_line cX12_line 3 none 105 6102 0 0 [.inr (.inr o)] h none r.2 := by
  refine CM.of (by decide) (Nat.le_of_ble_eq_true rfl) (fun X hl C hD hX hnm E => ?_)
  subst hl
  subst hD
  have C : CX X RX12 cX12_line 3 := C
  show WW X h 0 0 0 [some (rB (xD X).1 o), none, none] []
  unfold f_X12_line at hf
  refine s_bipush C dX12_line_0 (v := (81 : Int32)) (by decide) ?_
  refine s_aload_n C dX12_line_2 rfl ?_
  refine s_getI C fl_X12_358 dX12_line_3 hf (fun v1 hf => ?_)
  refine s_imul C dX12_line_6 ?_
  refine s_aload_n C dX12_line_7 rfl ?_
  refine s_getR C fl_X12_79 dX12_line_8 hf (fun v2 hf => ?_)
  refine s_aload_n C dX12_line_11 rfl ?_
  refine s_getI C fl_X12_358 dX12_line_12 hf (fun v3 hf => ?_)
  refine s_iaload C dX12_line_15 hf (fun v4 hf => ?_)
  refine s_iadd C dX12_line_16 ?_
  refine s_istore_n C dX12_line_17 (by decide) (nc_r rfl) (lv' := [some (rB (xD X).1 o), some (.int (((81 : Int32) * v1) + v4)), none]) rfl ?_
  refine s_aload_n C dX12_line_18 rfl ?_
  refine s_ldc2 C dX12_line_19 wk_X12_415 ?_
  refine s_callV (rvf := fun x => some (.int x)) (st := []) (fr := 0) (lo := 0) (mc := 0) (ms := 0) C [12] wc_X12_isWord wml_X12_376 wim_X12_isWord wsl_12_X12_isWord dX12_line_22 (As := [.inr (.inl (249 : Int64))]) rfl hf (fun x h' hF => c_X12_isWord _ _ _ _ _ (x, h') hF) rfl (Nat.le_of_ble_eq_true rfl) (room_ok hX (Nat.le_of_ble_eq_true rfl) (Nat.le_of_ble_eq_true rfl)) (cell_ok hX (Nat.le_of_ble_eq_true rfl) (Nat.le_of_ble_eq_true rfl)) (fun v6 h5 hf => ?_)
  refine s_jn hf (fun j47 e47 hf => ?_)
  have k47 : ∀ (x7 : Int32) (h8 : AH), j47 x7 h8 = some r → WW X h8 0 0 47 [some (rB (xD X).1 o), some (.int (((81 : Int32) * v1) + v4)), none] [.int x7] := by
    intro x7 h8 hf
    rw [e47] at hf
    refine s_istore_n C dX12_line_47 (by decide) (nc_i rfl) (lv' := [some (rB (xD X).1 o), some (.int (((81 : Int32) * v1) + v4)), some (.int x7)]) rfl ?_
    refine s_aload_n C dX12_line_48 rfl ?_
    refine s_getR C fl_X12_85 dX12_line_49 hf (fun v9 hf => ?_)
    refine s_iload_n C dX12_line_52 rfl ?_
    refine s_aload_n C dX12_line_53 rfl ?_
    refine s_getI C fl_X12_361 dX12_line_54 hf (fun v10 hf => ?_)
    refine s_i2s C dX12_line_57 ?_
    refine s_sastore C dX12_line_58 hf (fun h11 hf => ?_)
    refine s_iload_n C dX12_line_59 rfl ?_
    refine s_jn hf (fun j108 e108 hf => ?_)
    have k108 : ∀ (h12 : AH), j108 h12 = some r → WW X h12 0 0 108 [some (rB (xD X).1 o), some (.int (((81 : Int32) * v1) + v4)), some (.int x7)] [] := by
      intro h12 hf
      rw [e108] at hf
      refine s_aload_n C dX12_line_108 rfl ?_
      refine s_callV (rvf := fun _ => none) (st := []) (fr := 104) (lo := 6082) (mc := 0) (ms := 0) C [12] wc_X12_either wml_X12_394 wim_X12_either wsl_12_X12_either dX12_line_109 (As := []) rfl hf (fun x h' hF => c_X12_either _ _ _ _ (x, h') hF) rfl (Nat.le_of_ble_eq_true rfl) (room_ok hX (Nat.le_of_ble_eq_true rfl) (Nat.le_of_ble_eq_true rfl)) (cell_ok hX (Nat.le_of_ble_eq_true rfl) (Nat.le_of_ble_eq_true rfl)) (fun _ h13 hf => ?_)
      refine s_aload_n C dX12_line_112 rfl ?_
      refine s_getR C fl_X12_82 dX12_line_113 hf (fun v14 hf => ?_)
      refine s_iload_n C dX12_line_116 rfl ?_
      refine s_iload_n C dX12_line_117 rfl ?_
      refine s_i2b C dX12_line_118 ?_
      refine s_bastore C dX12_line_119 hf (fun h15 hf => ?_)
      refine s_aload_n C dX12_line_120 rfl ?_
      refine s_getR C fl_X12_88 dX12_line_121 hf (fun v16 hf => ?_)
      refine s_iload_n C dX12_line_124 rfl ?_
      refine s_aload_n C dX12_line_125 rfl ?_
      refine s_getI C fl_X12_361 dX12_line_126 hf (fun v17 hf => ?_)
      refine s_i2s C dX12_line_129 ?_
      refine s_sastore C dX12_line_130 hf (fun h18 hf => ?_)
      refine s_aload_n C dX12_line_131 rfl ?_
      refine s_getR C fl_X12_79 dX12_line_132 hf (fun v19 hf => ?_)
      refine s_aload_n C dX12_line_135 rfl ?_
      refine s_getI C fl_X12_358 dX12_line_136 hf (fun v20 hf => ?_)
      refine s_dup2 C dX12_line_139 c1_i c1_r ?_
      refine s_iaload C dX12_line_140 hf (fun v21 hf => ?_)
      refine s_iconst C dX12_line_141 (v := (1 : Int32)) (by decide) ?_
      refine s_iadd C dX12_line_142 ?_
      refine s_iastore C dX12_line_143 hf (fun h22 hf => ?_)
      exact s_return C E dX12_line_144 hf (Nat.le_of_ble_eq_true rfl) (Nat.le_of_ble_eq_true rfl)
    refine s_if_le (tgt := 108) C dX12_line_60 (by decide) hf (fun hf => ?_) (fun hf => ?_)
    · exact k108 _ hf
    · refine s_aload_n C dX12_line_63 rfl ?_
      refine s_callV (rvf := fun _ => none) (st := []) (fr := 2) (lo := 42) (mc := 0) (ms := 0) C [12] wc_X12_nextToken wml_X12_370 wim_X12_nextToken wsl_12_X12_nextToken dX12_line_64 (As := []) rfl hf (fun x h' hF => c_X12_nextToken _ _ _ _ (x, h') hF) rfl (Nat.le_of_ble_eq_true rfl) (room_ok hX (Nat.le_of_ble_eq_true rfl) (Nat.le_of_ble_eq_true rfl)) (cell_ok hX (Nat.le_of_ble_eq_true rfl) (Nat.le_of_ble_eq_true rfl)) (fun _ h23 hf => ?_)
      refine s_aload_n C dX12_line_67 rfl ?_
      refine s_callV (rvf := fun _ => none) (st := []) (fr := 104) (lo := 6082) (mc := 0) (ms := 0) C [12] wc_X12_either wml_X12_394 wim_X12_either wsl_12_X12_either dX12_line_68 (As := []) rfl hf (fun x h' hF => c_X12_either _ _ _ _ (x, h') hF) rfl (Nat.le_of_ble_eq_true rfl) (room_ok hX (Nat.le_of_ble_eq_true rfl) (Nat.le_of_ble_eq_true rfl)) (cell_ok hX (Nat.le_of_ble_eq_true rfl) (Nat.le_of_ble_eq_true rfl)) (fun _ h24 hf => ?_)
      refine s_aload_n C dX12_line_71 rfl ?_
      refine s_getI C fl_X12_355 dX12_line_72 hf (fun v25 hf => ?_)
      refine s_if_lt (tgt := 79) C dX12_line_75 (by decide) hf (fun hf => ?_) (fun hf => ?_)
      · refine s_aload_n C dX12_line_79 rfl ?_
        refine s_getI C fl_X12_336 dX12_line_80 hf (fun v26 hf => ?_)
        refine s_bipush C dX12_line_83 (v := (58 : Int32)) (by decide) ?_
        refine s_icmp_eq (tgt := 93) C dX12_line_85 (by decide) hf (fun hf => ?_) (fun hf => ?_)
        · refine s_aload_n C dX12_line_93 rfl ?_
          refine s_getR C fl_X12_85 dX12_line_94 hf (fun v27 hf => ?_)
          refine s_iload_n C dX12_line_97 rfl ?_
          refine s_aload_n C dX12_line_98 rfl ?_
          refine s_getI C fl_X12_361 dX12_line_99 hf (fun v28 hf => ?_)
          refine s_i2s C dX12_line_102 ?_
          refine s_sastore C dX12_line_103 hf (fun h29 hf => ?_)
          refine s_aload_n C dX12_line_104 rfl ?_
          refine s_callV (rvf := fun _ => none) (st := []) (fr := 2) (lo := 42) (mc := 0) (ms := 0) C [12] wc_X12_nextToken wml_X12_370 wim_X12_nextToken wsl_12_X12_nextToken dX12_line_105 (As := []) rfl hf (fun x h' hF => c_X12_nextToken _ _ _ _ (x, h') hF) rfl (Nat.le_of_ble_eq_true rfl) (room_ok hX (Nat.le_of_ble_eq_true rfl) (Nat.le_of_ble_eq_true rfl)) (cell_ok hX (Nat.le_of_ble_eq_true rfl) (Nat.le_of_ble_eq_true rfl)) (fun _ h30 hf => ?_)
          exact k108 _ hf
        · refine s_aload_n C dX12_line_88 rfl ?_
          refine s_callV (rvf := fun _ => none) (st := []) (fr := 0) (lo := 0) (mc := 0) (ms := 0) C [12] wc_X12_wrong wml_X12_367 wim_X12_wrong wsl_12_X12_wrong dX12_line_89 (As := []) rfl hf (fun x h' hF => c_X12_wrong _ _ _ _ (x, h') hF) rfl (Nat.le_of_ble_eq_true rfl) (room_ok hX (Nat.le_of_ble_eq_true rfl) (Nat.le_of_ble_eq_true rfl)) (cell_ok hX (Nat.le_of_ble_eq_true rfl) (Nat.le_of_ble_eq_true rfl)) (fun _ h31 hf => ?_)
          exact s_return C E dX12_line_92 hf (Nat.le_of_ble_eq_true rfl) (Nat.le_of_ble_eq_true rfl)
      · exact s_return C E dX12_line_78 hf (Nat.le_of_ble_eq_true rfl) (Nat.le_of_ble_eq_true rfl)
  refine s_if_eq (tgt := 32) C dX12_line_25 (by decide) hf (fun hf => ?_) (fun hf => ?_)
  · refine s_aload_n C dX12_line_32 rfl ?_
    refine s_ldc2 C dX12_line_33 wk_X12_417 ?_
    refine s_callV (rvf := fun x => some (.int x)) (st := []) (fr := 0) (lo := 0) (mc := 0) (ms := 0) C [12] wc_X12_isWord wml_X12_376 wim_X12_isWord wsl_12_X12_isWord dX12_line_36 (As := [.inr (.inl (309007594 : Int64))]) rfl hf (fun x h' hF => c_X12_isWord _ _ _ _ _ (x, h') hF) rfl (Nat.le_of_ble_eq_true rfl) (room_ok hX (Nat.le_of_ble_eq_true rfl) (Nat.le_of_ble_eq_true rfl)) (cell_ok hX (Nat.le_of_ble_eq_true rfl) (Nat.le_of_ble_eq_true rfl)) (fun v33 h32 hf => ?_)
    refine s_if_eq (tgt := 46) C dX12_line_39 (by decide) hf (fun hf => ?_) (fun hf => ?_)
    · refine s_iconst C dX12_line_46 (v := (0 : Int32)) (by decide) ?_
      exact k47 _ _ hf
    · refine s_iconst C dX12_line_42 (v := (2 : Int32)) (by decide) ?_
      refine s_goto (tgt := 47) C dX12_line_43 (by decide) ?_
      exact k47 _ _ hf
  · refine s_iconst C dX12_line_28 (v := (1 : Int32)) (by decide) ?_
    refine s_goto (tgt := 47) C dX12_line_29 (by decide) ?_
    exact k47 _ _ hf
/-- HillBoxesModel.rule(II)I -/
noncomputable def f_X12_rule (o : Option Nat) (a1 : Int32) (a2 : Int32) (h : AH) : Option (Int32 × AH) :=
  cl (f_X12_isUse a1 h) fun v2 h1 =>
  jn (fun (h3 : AH) =>
    some ((-1 : Int32), h3)) fun j14 =>
  if v2 = 0 then
    j14 h1
  else
    cl (f_X12_isDay a2 h1) fun v5 h4 =>
    if v5 = 0 then
      j14 h4
    else
      fI h4 [12] o 33 fun v6 =>
      if v6 = (20 : Int32) then
        some ((-3 : Int32), h4)
      else
        pI h4 [12] o 30 (-1 : Int32) fun h7 =>
        pI h7 [12] o 31 (0 : Int32) fun h8 =>
        pI h8 [12] o 32 (0 : Int32) fun h9 =>
        pI h9 [12] o 27 (0 : Int32) fun h10 =>
        fR h10 [12] o 37 fun v11 =>
        fI h10 [12] o 33 fun v12 =>
        bI h10 20 v11 v12 (0 : Int32) fun h13 =>
        rO h13 [12] o <| cl (f_X12_nextToken o h13) fun _ h14 =>
        rO h14 [12] o <| cl (f_X12_line o h14) fun _ h15 =>
        lp (fun _ => none) (fun (L66 : AH → Option (Int32 × AH)) (h16 : AH) =>
          fI h16 [12] o 30 fun v17 =>
          jn (
            fI h16 [12] o 30 fun v18 =>
            jn (fun (h19 : AH) =>
              pI h19 [12] o 25 (0 : Int32) fun h20 =>
              fI h20 [12] o 30 fun v21 =>
              if v21 < 0 then
                fR h20 [12] o 34 fun v22 =>
                fI h20 [12] o 33 fun v23 =>
                bI h20 20 v22 v23 a1 fun h24 =>
                fR h24 [12] o 35 fun v25 =>
                fI h24 [12] o 33 fun v26 =>
                fI h24 [12] o 1 fun v27 =>
                bI h24 20 v25 v26 v27 fun h28 =>
                fR h28 [12] o 36 fun v29 =>
                fI h28 [12] o 33 fun v30 =>
                bI h28 20 v29 v30 a2 fun h31 =>
                fI h31 [12] o 33 fun v32 =>
                pI h31 [12] o 33 (v32 + (1 : Int32)) fun h33 =>
                fI h33 [12] o 33 fun v34 =>
                some ((v34 - (1 : Int32)), h33)
              else
                fI h20 [12] o 30 fun v35 =>
                some (((-100 : Int32) - v35), h20)) fun j111 =>
            if 0 ≤ v18 then
              j111 h16
            else
              fI h16 [12] o 28 fun v36 =>
              if v36 = 0 then
                j111 h16
              else
                rO h16 [12] o <| cl (f_X12_wrong o h16) fun _ h37 =>
                j111 h37) fun j93 =>
          if 0 ≤ v17 then
            j93
          else
            fI h16 [12] o 28 fun v38 =>
            if v38 = (59 : Int32) then
              rO h16 [12] o <| cl (f_X12_nextToken o h16) fun _ h39 =>
              rO h39 [12] o <| cl (f_X12_line o h39) fun _ h40 =>
              L66 h40
            else
              j93) lpN h15
set_option maxRecDepth 100000 in
set_option maxHeartbeats 4000000 in
theorem c_X12_rule (l : Launch) (D : DT) (o : Option Nat) (a1 : Int32) (a2 : Int32) (h : AH) (r : Int32 × AH) (hf : f_X12_rule o a1 a2 h = some r) : CM l D yX12_rule cX12_rule 3 (some .int) 106 6124 0 0 [.inr (.inr o), .inl a1, .inl a2] h (some (.int r.1)) r.2 := by
  refine CM.of (by decide) (Nat.le_of_ble_eq_true rfl) (fun X hl C hD hX hnm E => ?_)
  subst hl
  subst hD
  have C : CX X RX12 cX12_rule 3 := C
  show WW X h 0 0 0 [some (rB (xD X).1 o), some (.int a1), some (.int a2)] []
  unfold f_X12_rule at hf
  refine s_iload_n C dX12_rule_0 rfl ?_
  refine s_callS (rvf := fun x => some (.int x)) (st := []) (fr := 1) (lo := 22) (mc := 0) (ms := 0) C wc_X12_isUse wml_X12_419 wst_X12_isUse dX12_rule_1 (As := [.inl a1]) rfl hf (fun x h' hF => c_X12_isUse _ _ _ _ (x, h') hF) rfl (Nat.le_of_ble_eq_true rfl) (room_ok hX (Nat.le_of_ble_eq_true rfl) (Nat.le_of_ble_eq_true rfl)) (cell_ok hX (Nat.le_of_ble_eq_true rfl) (Nat.le_of_ble_eq_true rfl)) (fun v2 h1 hf => ?_)
  refine s_jn hf (fun j14 e14 hf => ?_)
  have k14 : ∀ (h3 : AH), j14 h3 = some r → WW X h3 0 0 14 [none, none, none] [] := by
    intro h3 hf
    rw [e14] at hf
    refine s_iconst C dX12_rule_14 (v := (-1 : Int32)) (by decide) ?_
    exact s_ireturn C E dX12_rule_15 hf (Nat.le_of_ble_eq_true rfl) (Nat.le_of_ble_eq_true rfl)
  refine s_if_eq (tgt := 14) C dX12_rule_4 (by decide) hf (fun hf => ?_) (fun hf => ?_)
  · refine s_weak (lv' := [none, none, none]) trivial ?_
    exact k14 _ hf
  · refine s_iload_n C dX12_rule_7 rfl ?_
    refine s_callS (rvf := fun x => some (.int x)) (st := []) (fr := 1) (lo := 22) (mc := 0) (ms := 0) C wc_X12_isDay wml_X12_245 wst_X12_isDay dX12_rule_8 (As := [.inl a2]) rfl hf (fun x h' hF => c_X12_isDay _ _ _ _ (x, h') hF) rfl (Nat.le_of_ble_eq_true rfl) (room_ok hX (Nat.le_of_ble_eq_true rfl) (Nat.le_of_ble_eq_true rfl)) (cell_ok hX (Nat.le_of_ble_eq_true rfl) (Nat.le_of_ble_eq_true rfl)) (fun v5 h4 hf => ?_)
    refine s_if_ne (tgt := 16) C dX12_rule_11 (by decide) hf (fun hf => ?_) (fun hf => ?_)
    · refine s_aload_n C dX12_rule_16 rfl ?_
      refine s_getI C fl_X12_358 dX12_rule_17 hf (fun v6 hf => ?_)
      refine s_bipush C dX12_rule_20 (v := (20 : Int32)) (by decide) ?_
      refine s_icmp_ne (tgt := 28) C dX12_rule_22 (by decide) hf (fun hf => ?_) (fun hf => ?_)
      · refine s_aload_n C dX12_rule_28 rfl ?_
        refine s_iconst C dX12_rule_29 (v := (-1 : Int32)) (by decide) ?_
        refine s_putI C fl_X12_355 (by decide) dX12_rule_30 hf (fun h7 hf => ?_)
        refine s_aload_n C dX12_rule_33 rfl ?_
        refine s_iconst C dX12_rule_34 (v := (0 : Int32)) (by decide) ?_
        refine s_putI C fl_X12_364 (by decide) dX12_rule_35 hf (fun h8 hf => ?_)
        refine s_aload_n C dX12_rule_38 rfl ?_
        refine s_iconst C dX12_rule_39 (v := (0 : Int32)) (by decide) ?_
        refine s_putI C fl_X12_361 (by decide) dX12_rule_40 hf (fun h9 hf => ?_)
        refine s_aload_n C dX12_rule_43 rfl ?_
        refine s_iconst C dX12_rule_44 (v := (0 : Int32)) (by decide) ?_
        refine s_putI C fl_X12_330 (by decide) dX12_rule_45 hf (fun h10 hf => ?_)
        refine s_aload_n C dX12_rule_48 rfl ?_
        refine s_getR C fl_X12_79 dX12_rule_49 hf (fun v11 hf => ?_)
        refine s_aload_n C dX12_rule_52 rfl ?_
        refine s_getI C fl_X12_358 dX12_rule_53 hf (fun v12 hf => ?_)
        refine s_iconst C dX12_rule_56 (v := (0 : Int32)) (by decide) ?_
        refine s_iastore C dX12_rule_57 hf (fun h13 hf => ?_)
        refine s_aload_n C dX12_rule_58 rfl ?_
        refine s_callV (rvf := fun _ => none) (st := []) (fr := 2) (lo := 42) (mc := 0) (ms := 0) C [12] wc_X12_nextToken wml_X12_370 wim_X12_nextToken wsl_12_X12_nextToken dX12_rule_59 (As := []) rfl hf (fun x h' hF => c_X12_nextToken _ _ _ _ (x, h') hF) rfl (Nat.le_of_ble_eq_true rfl) (room_ok hX (Nat.le_of_ble_eq_true rfl) (Nat.le_of_ble_eq_true rfl)) (cell_ok hX (Nat.le_of_ble_eq_true rfl) (Nat.le_of_ble_eq_true rfl)) (fun _ h14 hf => ?_)
        refine s_aload_n C dX12_rule_62 rfl ?_
        refine s_callV (rvf := fun _ => none) (st := []) (fr := 105) (lo := 6102) (mc := 0) (ms := 0) C [12] wc_X12_line wml_X12_422 wim_X12_line wsl_12_X12_line dX12_rule_63 (As := []) rfl hf (fun x h' hF => c_X12_line _ _ _ _ (x, h') hF) rfl (Nat.le_of_ble_eq_true rfl) (room_ok hX (Nat.le_of_ble_eq_true rfl) (Nat.le_of_ble_eq_true rfl)) (cell_ok hX (Nat.le_of_ble_eq_true rfl) (Nat.le_of_ble_eq_true rfl)) (fun _ h15 hf => ?_)
        refine s_lp1 hf (fun G66 z66 q66 hf => ?_)
        have k66 : ∀ (n : Nat) (h16 : AH), G66 n h16 = some r → WW X h16 0 0 66 [some (rB (xD X).1 o), some (.int a1), some (.int a2)] [] := by
          intro n
          induction n with
          | zero =>
            intro h16 hf
            rw [z66] at hf
            cases hf
          | succ n ih66 =>
            intro h16 hf
            have hf := (q66 n h16).symm.trans hf
            refine s_aload_n C dX12_rule_66 rfl ?_
            refine s_getI C fl_X12_355 dX12_rule_67 hf (fun v17 hf => ?_)
            refine s_jn hf (fun j93 e93 hf => ?_)
            have k93 : j93  = some r → WW X h16 0 0 93 [some (rB (xD X).1 o), some (.int a1), some (.int a2)] [] := by
              intro  hf
              rw [e93] at hf
              refine s_aload_n C dX12_rule_93 rfl ?_
              refine s_getI C fl_X12_355 dX12_rule_94 hf (fun v18 hf => ?_)
              refine s_jn hf (fun j111 e111 hf => ?_)
              have k111 : ∀ (h19 : AH), j111 h19 = some r → WW X h19 0 0 111 [some (rB (xD X).1 o), some (.int a1), some (.int a2)] [] := by
                intro h19 hf
                rw [e111] at hf
                refine s_aload_n C dX12_rule_111 rfl ?_
                refine s_iconst C dX12_rule_112 (v := (0 : Int32)) (by decide) ?_
                refine s_putI C fl_X12_327 (by decide) dX12_rule_113 hf (fun h20 hf => ?_)
                refine s_aload_n C dX12_rule_116 rfl ?_
                refine s_getI C fl_X12_355 dX12_rule_117 hf (fun v21 hf => ?_)
                refine s_if_lt (tgt := 131) C dX12_rule_120 (by decide) hf (fun hf => ?_) (fun hf => ?_)
                · refine s_aload_n C dX12_rule_131 rfl ?_
                  refine s_getR C fl_X12_70 dX12_rule_132 hf (fun v22 hf => ?_)
                  refine s_aload_n C dX12_rule_135 rfl ?_
                  refine s_getI C fl_X12_358 dX12_rule_136 hf (fun v23 hf => ?_)
                  refine s_iload_n C dX12_rule_139 rfl ?_
                  refine s_iastore C dX12_rule_140 hf (fun h24 hf => ?_)
                  refine s_aload_n C dX12_rule_141 rfl ?_
                  refine s_getR C fl_X12_73 dX12_rule_142 hf (fun v25 hf => ?_)
                  refine s_aload_n C dX12_rule_145 rfl ?_
                  refine s_getI C fl_X12_358 dX12_rule_146 hf (fun v26 hf => ?_)
                  refine s_aload_n C dX12_rule_149 rfl ?_
                  refine s_getI C fl_X12_203 dX12_rule_150 hf (fun v27 hf => ?_)
                  refine s_iastore C dX12_rule_153 hf (fun h28 hf => ?_)
                  refine s_aload_n C dX12_rule_154 rfl ?_
                  refine s_getR C fl_X12_76 dX12_rule_155 hf (fun v29 hf => ?_)
                  refine s_aload_n C dX12_rule_158 rfl ?_
                  refine s_getI C fl_X12_358 dX12_rule_159 hf (fun v30 hf => ?_)
                  refine s_iload_n C dX12_rule_162 rfl ?_
                  refine s_iastore C dX12_rule_163 hf (fun h31 hf => ?_)
                  refine s_aload_n C dX12_rule_164 rfl ?_
                  refine s_dup C dX12_rule_165 c1_r ?_
                  refine s_getI C fl_X12_358 dX12_rule_166 hf (fun v32 hf => ?_)
                  refine s_iconst C dX12_rule_169 (v := (1 : Int32)) (by decide) ?_
                  refine s_iadd C dX12_rule_170 ?_
                  refine s_putI C fl_X12_358 (by decide) dX12_rule_171 hf (fun h33 hf => ?_)
                  refine s_aload_n C dX12_rule_174 rfl ?_
                  refine s_getI C fl_X12_358 dX12_rule_175 hf (fun v34 hf => ?_)
                  refine s_iconst C dX12_rule_178 (v := (1 : Int32)) (by decide) ?_
                  refine s_isub C dX12_rule_179 ?_
                  exact s_ireturn C E dX12_rule_180 hf (Nat.le_of_ble_eq_true rfl) (Nat.le_of_ble_eq_true rfl)
                · refine s_bipush C dX12_rule_123 (v := (-100 : Int32)) (by decide) ?_
                  refine s_aload_n C dX12_rule_125 rfl ?_
                  refine s_getI C fl_X12_355 dX12_rule_126 hf (fun v35 hf => ?_)
                  refine s_isub C dX12_rule_129 ?_
                  exact s_ireturn C E dX12_rule_130 hf (Nat.le_of_ble_eq_true rfl) (Nat.le_of_ble_eq_true rfl)
              refine s_if_ge (tgt := 111) C dX12_rule_97 (by decide) hf (fun hf => ?_) (fun hf => ?_)
              · exact k111 _ hf
              · refine s_aload_n C dX12_rule_100 rfl ?_
                refine s_getI C fl_X12_336 dX12_rule_101 hf (fun v36 hf => ?_)
                refine s_if_eq (tgt := 111) C dX12_rule_104 (by decide) hf (fun hf => ?_) (fun hf => ?_)
                · exact k111 _ hf
                · refine s_aload_n C dX12_rule_107 rfl ?_
                  refine s_callV (rvf := fun _ => none) (st := []) (fr := 0) (lo := 0) (mc := 0) (ms := 0) C [12] wc_X12_wrong wml_X12_367 wim_X12_wrong wsl_12_X12_wrong dX12_rule_108 (As := []) rfl hf (fun x h' hF => c_X12_wrong _ _ _ _ (x, h') hF) rfl (Nat.le_of_ble_eq_true rfl) (room_ok hX (Nat.le_of_ble_eq_true rfl) (Nat.le_of_ble_eq_true rfl)) (cell_ok hX (Nat.le_of_ble_eq_true rfl) (Nat.le_of_ble_eq_true rfl)) (fun _ h37 hf => ?_)
                  exact k111 _ hf
            refine s_if_ge (tgt := 93) C dX12_rule_70 (by decide) hf (fun hf => ?_) (fun hf => ?_)
            · exact k93 hf
            · refine s_aload_n C dX12_rule_73 rfl ?_
              refine s_getI C fl_X12_336 dX12_rule_74 hf (fun v38 hf => ?_)
              refine s_bipush C dX12_rule_77 (v := (59 : Int32)) (by decide) ?_
              refine s_icmp_ne (tgt := 93) C dX12_rule_79 (by decide) hf (fun hf => ?_) (fun hf => ?_)
              · exact k93 hf
              · refine s_aload_n C dX12_rule_82 rfl ?_
                refine s_callV (rvf := fun _ => none) (st := []) (fr := 2) (lo := 42) (mc := 0) (ms := 0) C [12] wc_X12_nextToken wml_X12_370 wim_X12_nextToken wsl_12_X12_nextToken dX12_rule_83 (As := []) rfl hf (fun x h' hF => c_X12_nextToken _ _ _ _ (x, h') hF) rfl (Nat.le_of_ble_eq_true rfl) (room_ok hX (Nat.le_of_ble_eq_true rfl) (Nat.le_of_ble_eq_true rfl)) (cell_ok hX (Nat.le_of_ble_eq_true rfl) (Nat.le_of_ble_eq_true rfl)) (fun _ h39 hf => ?_)
                refine s_aload_n C dX12_rule_86 rfl ?_
                refine s_callV (rvf := fun _ => none) (st := []) (fr := 105) (lo := 6102) (mc := 0) (ms := 0) C [12] wc_X12_line wml_X12_422 wim_X12_line wsl_12_X12_line dX12_rule_87 (As := []) rfl hf (fun x h' hF => c_X12_line _ _ _ _ (x, h') hF) rfl (Nat.le_of_ble_eq_true rfl) (room_ok hX (Nat.le_of_ble_eq_true rfl) (Nat.le_of_ble_eq_true rfl)) (cell_ok hX (Nat.le_of_ble_eq_true rfl) (Nat.le_of_ble_eq_true rfl)) (fun _ h40 hf => ?_)
                refine s_goto (tgt := 66) C dX12_rule_90 (by decide) ?_
                exact ih66 _ hf
        exact k66 lpN _ hf
      · refine s_bipush C dX12_rule_25 (v := (-3 : Int32)) (by decide) ?_
        exact s_ireturn C E dX12_rule_27 hf (Nat.le_of_ble_eq_true rfl) (Nat.le_of_ble_eq_true rfl)
    · refine s_weak (lv' := [none, none, none]) trivial ?_
      exact k14 _ hf
/-- HillBoxesModel.says(IIII)I -/
noncomputable def f_X12_says (o : Option Nat) (a1 : Int32) (a2 : Int32) (a3 : Int32) (a4 : Int32) (h : AH) : Option (Int32 × AH) :=
  cl (f_X12_in a4 (0 : Int32) (1 : Int32) h) fun v2 h1 =>
  jn (fun (h3 : AH) =>
    some ((-2000000000 : Int32), h3)) fun j30 =>
  if v2 = 0 then
    j30 h1
  else
    if a1 = (10 : Int32) then
      j30 h1
    else
      cl (f_X12_in a1 (0 : Int32) (4 : Int32) h1) fun v5 h4 =>
      if v5 = 0 then
        j30 h4
      else
        if a1 = (2 : Int32) then
          j30 h4
        else
          jn (fun (h6 : AH) =>
            some ((-2000000000 : Int32), h6)) fun j108 =>
          jn (
            jn (fun (h7 : AH) =>
              jn (fun (h8 : AH) =>
                jn (fun (h9 : AH) =>
                  jn (fun (x10 : Int32) (h11 : AH) =>
                    jn (fun (x12 : Int32) =>
                      some (x12, h11)) fun j172 =>
                    if a4 = 0 then
                      j172 x10
                    else
                      fI h11 [12] o 45 fun v13 =>
                      j172 v13) fun j156 =>
                  if a1 = 0 then
                    rO h9 [12] o <| cl (f_X12_nearNow o h9) fun v21 h20 =>
                    j156 v21 h20
                  else
                    if a1 = (1 : Int32) then
                      rO h9 [12] o <| cl (f_X12_hideBy o a2 a3 (0 : Int32) h9) fun v19 h18 =>
                      j156 v19 h18
                    else
                      if a1 = (3 : Int32) then
                        rO h9 [12] o <| cl (f_X12_downOf o a3 h9) fun v17 h16 =>
                        j156 v17 h16
                      else
                        rO h9 [12] o <| cl (f_X12_shownTo o a2 a3 h9) fun v15 h14 =>
                        j156 v15 h14) fun j111 =>
                if a1 = (4 : Int32) then
                  rO h8 [12] o <| cl (f_X12_isFinder o a2 h8) fun v23 h22 =>
                  if v23 = 0 then
                    j108 h22
                  else
                    rO h22 [12] o <| cl (f_X12_isBox o a3 h22) fun v25 h24 =>
                    if v25 = 0 then
                      j108 h24
                    else
                      j111 h24
                else
                  j111 h8) fun j87 =>
              if a1 = (3 : Int32) then
                if a2 = (-1 : Int32) then
                  rO h7 [12] o <| cl (f_X12_isBox o a3 h7) fun v27 h26 =>
                  if v27 = 0 then
                    j108 h26
                  else
                    j87 h26
                else
                  j108 h7
              else
                j87 h7) fun j69 =>
            if a1 = (1 : Int32) then
              rO h4 [12] o <| cl (f_X12_isFinder o a2 h4) fun v29 h28 =>
              if v29 = 0 then
                j108 h28
              else
                cl (f_X12_in a3 (1 : Int32) (5 : Int32) h28) fun v31 h30 =>
                if v31 = 0 then
                  j108 h30
                else
                  j69 h30
            else
              j69 h4) fun j47 =>
          if a1 = 0 then
            if a2 = (-1 : Int32) then
              if a3 = (-1 : Int32) then
                j47
              else
                j108 h4
            else
              j108 h4
          else
            j47
set_option maxRecDepth 100000 in
set_option maxHeartbeats 4000000 in
theorem c_X12_says (l : Launch) (D : DT) (o : Option Nat) (a1 : Int32) (a2 : Int32) (a3 : Int32) (a4 : Int32) (h : AH) (r : Int32 × AH) (hf : f_X12_says o a1 a2 a3 a4 h = some r) : CM l D yX12_says cX12_says 6 (some .int) 7 153 0 0 [.inr (.inr o), .inl a1, .inl a2, .inl a3, .inl a4] h (some (.int r.1)) r.2 := by
  refine CM.of (by decide) (Nat.le_of_ble_eq_true rfl) (fun X hl C hD hX hnm E => ?_)
  subst hl
  subst hD
  have C : CX X RX12 cX12_says 6 := C
  show WW X h 0 0 0 [some (rB (xD X).1 o), some (.int a1), some (.int a2), some (.int a3), some (.int a4), none] []
  unfold f_X12_says at hf
  refine s_iload C dX12_says_0 rfl ?_
  refine s_iconst C dX12_says_2 (v := (0 : Int32)) (by decide) ?_
  refine s_iconst C dX12_says_3 (v := (1 : Int32)) (by decide) ?_
  refine s_callS (rvf := fun x => some (.int x)) (st := []) (fr := 0) (lo := 0) (mc := 0) (ms := 0) C wc_X12_in wml_X12_195 wst_X12_in dX12_says_4 (As := [.inl a4, .inl (0 : Int32), .inl (1 : Int32)]) rfl hf (fun x h' hF => c_X12_in _ _ _ _ _ _ (x, h') hF) rfl (Nat.le_of_ble_eq_true rfl) (room_ok hX (Nat.le_of_ble_eq_true rfl) (Nat.le_of_ble_eq_true rfl)) (cell_ok hX (Nat.le_of_ble_eq_true rfl) (Nat.le_of_ble_eq_true rfl)) (fun v2 h1 hf => ?_)
  refine s_jn hf (fun j30 e30 hf => ?_)
  have k30 : ∀ (h3 : AH), j30 h3 = some r → WW X h3 0 0 30 [none, none, none, none, none, none] [] := by
    intro h3 hf
    rw [e30] at hf
    refine s_ldc C dX12_says_30 wk_X12_210 ?_
    exact s_ireturn C E dX12_says_32 hf (Nat.le_of_ble_eq_true rfl) (Nat.le_of_ble_eq_true rfl)
  refine s_if_eq (tgt := 30) C dX12_says_7 (by decide) hf (fun hf => ?_) (fun hf => ?_)
  · refine s_weak (lv' := [none, none, none, none, none, none]) trivial ?_
    exact k30 _ hf
  · refine s_iload_n C dX12_says_10 rfl ?_
    refine s_bipush C dX12_says_11 (v := (10 : Int32)) (by decide) ?_
    refine s_icmp_eq (tgt := 30) C dX12_says_13 (by decide) hf (fun hf => ?_) (fun hf => ?_)
    · refine s_weak (lv' := [none, none, none, none, none, none]) trivial ?_
      exact k30 _ hf
    · refine s_iload_n C dX12_says_16 rfl ?_
      refine s_iconst C dX12_says_17 (v := (0 : Int32)) (by decide) ?_
      refine s_iconst C dX12_says_18 (v := (4 : Int32)) (by decide) ?_
      refine s_callS (rvf := fun x => some (.int x)) (st := []) (fr := 0) (lo := 0) (mc := 0) (ms := 0) C wc_X12_in wml_X12_195 wst_X12_in dX12_says_19 (As := [.inl a1, .inl (0 : Int32), .inl (4 : Int32)]) rfl hf (fun x h' hF => c_X12_in _ _ _ _ _ _ (x, h') hF) rfl (Nat.le_of_ble_eq_true rfl) (room_ok hX (Nat.le_of_ble_eq_true rfl) (Nat.le_of_ble_eq_true rfl)) (cell_ok hX (Nat.le_of_ble_eq_true rfl) (Nat.le_of_ble_eq_true rfl)) (fun v5 h4 hf => ?_)
      refine s_if_eq (tgt := 30) C dX12_says_22 (by decide) hf (fun hf => ?_) (fun hf => ?_)
      · refine s_weak (lv' := [none, none, none, none, none, none]) trivial ?_
        exact k30 _ hf
      · refine s_iload_n C dX12_says_25 rfl ?_
        refine s_iconst C dX12_says_26 (v := (2 : Int32)) (by decide) ?_
        refine s_icmp_ne (tgt := 33) C dX12_says_27 (by decide) hf (fun hf => ?_) (fun hf => ?_)
        · refine s_iload_n C dX12_says_33 rfl ?_
          refine s_jn hf (fun j108 e108 hf => ?_)
          have k108 : ∀ (h6 : AH), j108 h6 = some r → WW X h6 0 0 108 [none, none, none, none, none, none] [] := by
            intro h6 hf
            rw [e108] at hf
            refine s_ldc C dX12_says_108 wk_X12_210 ?_
            exact s_ireturn C E dX12_says_110 hf (Nat.le_of_ble_eq_true rfl) (Nat.le_of_ble_eq_true rfl)
          refine s_jn hf (fun j47 e47 hf => ?_)
          have k47 : j47  = some r → WW X h4 0 0 47 [some (rB (xD X).1 o), some (.int a1), some (.int a2), some (.int a3), some (.int a4), none] [] := by
            intro  hf
            rw [e47] at hf
            refine s_iload_n C dX12_says_47 rfl ?_
            refine s_iconst C dX12_says_48 (v := (1 : Int32)) (by decide) ?_
            refine s_jn hf (fun j69 e69 hf => ?_)
            have k69 : ∀ (h7 : AH), j69 h7 = some r → WW X h7 0 0 69 [some (rB (xD X).1 o), some (.int a1), some (.int a2), some (.int a3), some (.int a4), none] [] := by
              intro h7 hf
              rw [e69] at hf
              refine s_iload_n C dX12_says_69 rfl ?_
              refine s_iconst C dX12_says_70 (v := (3 : Int32)) (by decide) ?_
              refine s_jn hf (fun j87 e87 hf => ?_)
              have k87 : ∀ (h8 : AH), j87 h8 = some r → WW X h8 0 0 87 [some (rB (xD X).1 o), some (.int a1), some (.int a2), some (.int a3), some (.int a4), none] [] := by
                intro h8 hf
                rw [e87] at hf
                refine s_iload_n C dX12_says_87 rfl ?_
                refine s_iconst C dX12_says_88 (v := (4 : Int32)) (by decide) ?_
                refine s_jn hf (fun j111 e111 hf => ?_)
                have k111 : ∀ (h9 : AH), j111 h9 = some r → WW X h9 0 0 111 [some (rB (xD X).1 o), some (.int a1), some (.int a2), some (.int a3), some (.int a4), none] [] := by
                  intro h9 hf
                  rw [e111] at hf
                  refine s_iload_n C dX12_says_111 rfl ?_
                  refine s_jn hf (fun j156 e156 hf => ?_)
                  have k156 : ∀ (x10 : Int32) (h11 : AH), j156 x10 h11 = some r → WW X h11 0 0 156 [some (rB (xD X).1 o), none, none, none, some (.int a4), none] [.int x10] := by
                    intro x10 h11 hf
                    rw [e156] at hf
                    refine s_istore C dX12_says_156 (by decide) (nc_i rfl) (lv' := [some (rB (xD X).1 o), none, none, none, some (.int a4), some (.int x10)]) rfl ?_
                    refine s_iload C dX12_says_158 rfl ?_
                    refine s_jn hf (fun j172 e172 hf => ?_)
                    have k172 : ∀ (x12 : Int32), j172 x12 = some r → WW X h11 0 0 172 [none, none, none, none, none, none] [.int x12] := by
                      intro x12 hf
                      rw [e172] at hf
                      exact s_ireturn C E dX12_says_172 hf (Nat.le_of_ble_eq_true rfl) (Nat.le_of_ble_eq_true rfl)
                    refine s_if_ne (tgt := 168) C dX12_says_160 (by decide) hf (fun hf => ?_) (fun hf => ?_)
                    · refine s_aload_n C dX12_says_168 rfl ?_
                      refine s_getI C fl_X12_435 dX12_says_169 hf (fun v13 hf => ?_)
                      refine s_weak (lv' := [none, none, none, none, none, none]) trivial ?_
                      exact k172 _ hf
                    · refine s_iload C dX12_says_163 rfl ?_
                      refine s_goto (tgt := 172) C dX12_says_165 (by decide) ?_
                      refine s_weak (lv' := [none, none, none, none, none, none]) trivial ?_
                      exact k172 _ hf
                  refine s_if_ne (tgt := 122) C dX12_says_112 (by decide) hf (fun hf => ?_) (fun hf => ?_)
                  · refine s_iload_n C dX12_says_122 rfl ?_
                    refine s_iconst C dX12_says_123 (v := (1 : Int32)) (by decide) ?_
                    refine s_icmp_ne (tgt := 137) C dX12_says_124 (by decide) hf (fun hf => ?_) (fun hf => ?_)
                    · refine s_iload_n C dX12_says_137 rfl ?_
                      refine s_iconst C dX12_says_138 (v := (3 : Int32)) (by decide) ?_
                      refine s_icmp_ne (tgt := 150) C dX12_says_139 (by decide) hf (fun hf => ?_) (fun hf => ?_)
                      · refine s_aload_n C dX12_says_150 rfl ?_
                        refine s_iload_n C dX12_says_151 rfl ?_
                        refine s_iload_n C dX12_says_152 rfl ?_
                        refine s_callV (rvf := fun x => some (.int x)) (st := []) (fr := 6) (lo := 130) (mc := 0) (ms := 0) C [12] wc_X12_shownTo wml_X12_451 wim_X12_shownTo wsl_12_X12_shownTo dX12_says_153 (As := [.inl a2, .inl a3]) rfl hf (fun x h' hF => c_X12_shownTo _ _ _ _ _ _ (x, h') hF) rfl (Nat.le_of_ble_eq_true rfl) (room_ok hX (Nat.le_of_ble_eq_true rfl) (Nat.le_of_ble_eq_true rfl)) (cell_ok hX (Nat.le_of_ble_eq_true rfl) (Nat.le_of_ble_eq_true rfl)) (fun v15 h14 hf => ?_)
                        refine s_weak (lv' := [some (rB (xD X).1 o), none, none, none, some (.int a4), none]) ⟨rfl, ⟨rfl, trivial⟩⟩ ?_
                        exact k156 _ _ hf
                      · refine s_aload_n C dX12_says_142 rfl ?_
                        refine s_iload_n C dX12_says_143 rfl ?_
                        refine s_callV (rvf := fun x => some (.int x)) (st := []) (fr := 4) (lo := 97) (mc := 0) (ms := 0) C [12] wc_X12_downOf wml_X12_448 wim_X12_downOf wsl_12_X12_downOf dX12_says_144 (As := [.inl a3]) rfl hf (fun x h' hF => c_X12_downOf _ _ _ _ _ (x, h') hF) rfl (Nat.le_of_ble_eq_true rfl) (room_ok hX (Nat.le_of_ble_eq_true rfl) (Nat.le_of_ble_eq_true rfl)) (cell_ok hX (Nat.le_of_ble_eq_true rfl) (Nat.le_of_ble_eq_true rfl)) (fun v17 h16 hf => ?_)
                        refine s_goto (tgt := 156) C dX12_says_147 (by decide) ?_
                        refine s_weak (lv' := [some (rB (xD X).1 o), none, none, none, some (.int a4), none]) ⟨rfl, ⟨rfl, trivial⟩⟩ ?_
                        exact k156 _ _ hf
                    · refine s_aload_n C dX12_says_127 rfl ?_
                      refine s_iload_n C dX12_says_128 rfl ?_
                      refine s_iload_n C dX12_says_129 rfl ?_
                      refine s_iconst C dX12_says_130 (v := (0 : Int32)) (by decide) ?_
                      refine s_callV (rvf := fun x => some (.int x)) (st := []) (fr := 6) (lo := 130) (mc := 0) (ms := 0) C [12] wc_X12_hideBy wml_X12_445 wim_X12_hideBy wsl_12_X12_hideBy dX12_says_131 (As := [.inl a2, .inl a3, .inl (0 : Int32)]) rfl hf (fun x h' hF => c_X12_hideBy _ _ _ _ _ _ _ (x, h') hF) rfl (Nat.le_of_ble_eq_true rfl) (room_ok hX (Nat.le_of_ble_eq_true rfl) (Nat.le_of_ble_eq_true rfl)) (cell_ok hX (Nat.le_of_ble_eq_true rfl) (Nat.le_of_ble_eq_true rfl)) (fun v19 h18 hf => ?_)
                      refine s_goto (tgt := 156) C dX12_says_134 (by decide) ?_
                      refine s_weak (lv' := [some (rB (xD X).1 o), none, none, none, some (.int a4), none]) ⟨rfl, ⟨rfl, trivial⟩⟩ ?_
                      exact k156 _ _ hf
                  · refine s_aload_n C dX12_says_115 rfl ?_
                    refine s_callV (rvf := fun x => some (.int x)) (st := []) (fr := 4) (lo := 97) (mc := 0) (ms := 0) C [12] wc_X12_nearNow wml_X12_442 wim_X12_nearNow wsl_12_X12_nearNow dX12_says_116 (As := []) rfl hf (fun x h' hF => c_X12_nearNow _ _ _ _ (x, h') hF) rfl (Nat.le_of_ble_eq_true rfl) (room_ok hX (Nat.le_of_ble_eq_true rfl) (Nat.le_of_ble_eq_true rfl)) (cell_ok hX (Nat.le_of_ble_eq_true rfl) (Nat.le_of_ble_eq_true rfl)) (fun v21 h20 hf => ?_)
                    refine s_goto (tgt := 156) C dX12_says_119 (by decide) ?_
                    refine s_weak (lv' := [some (rB (xD X).1 o), none, none, none, some (.int a4), none]) ⟨rfl, ⟨rfl, trivial⟩⟩ ?_
                    exact k156 _ _ hf
                refine s_icmp_ne (tgt := 111) C dX12_says_89 (by decide) hf (fun hf => ?_) (fun hf => ?_)
                · exact k111 _ hf
                · refine s_aload_n C dX12_says_92 rfl ?_
                  refine s_iload_n C dX12_says_93 rfl ?_
                  refine s_callV (rvf := fun x => some (.int x)) (st := []) (fr := 2) (lo := 43) (mc := 0) (ms := 0) C [12] wc_X12_isFinder wml_X12_230 wim_X12_isFinder wsl_12_X12_isFinder dX12_says_94 (As := [.inl a2]) rfl hf (fun x h' hF => c_X12_isFinder _ _ _ _ _ (x, h') hF) rfl (Nat.le_of_ble_eq_true rfl) (room_ok hX (Nat.le_of_ble_eq_true rfl) (Nat.le_of_ble_eq_true rfl)) (cell_ok hX (Nat.le_of_ble_eq_true rfl) (Nat.le_of_ble_eq_true rfl)) (fun v23 h22 hf => ?_)
                  refine s_if_eq (tgt := 108) C dX12_says_97 (by decide) hf (fun hf => ?_) (fun hf => ?_)
                  · refine s_weak (lv' := [none, none, none, none, none, none]) trivial ?_
                    exact k108 _ hf
                  · refine s_aload_n C dX12_says_100 rfl ?_
                    refine s_iload_n C dX12_says_101 rfl ?_
                    refine s_callV (rvf := fun x => some (.int x)) (st := []) (fr := 2) (lo := 43) (mc := 0) (ms := 0) C [12] wc_X12_isBox wml_X12_224 wim_X12_isBox wsl_12_X12_isBox dX12_says_102 (As := [.inl a3]) rfl hf (fun x h' hF => c_X12_isBox _ _ _ _ _ (x, h') hF) rfl (Nat.le_of_ble_eq_true rfl) (room_ok hX (Nat.le_of_ble_eq_true rfl) (Nat.le_of_ble_eq_true rfl)) (cell_ok hX (Nat.le_of_ble_eq_true rfl) (Nat.le_of_ble_eq_true rfl)) (fun v25 h24 hf => ?_)
                    refine s_if_ne (tgt := 111) C dX12_says_105 (by decide) hf (fun hf => ?_) (fun hf => ?_)
                    · exact k111 _ hf
                    · refine s_weak (lv' := [none, none, none, none, none, none]) trivial ?_
                      exact k108 _ hf
              refine s_icmp_ne (tgt := 87) C dX12_says_71 (by decide) hf (fun hf => ?_) (fun hf => ?_)
              · exact k87 _ hf
              · refine s_iload_n C dX12_says_74 rfl ?_
                refine s_iconst C dX12_says_75 (v := (-1 : Int32)) (by decide) ?_
                refine s_icmp_ne (tgt := 108) C dX12_says_76 (by decide) hf (fun hf => ?_) (fun hf => ?_)
                · refine s_weak (lv' := [none, none, none, none, none, none]) trivial ?_
                  exact k108 _ hf
                · refine s_aload_n C dX12_says_79 rfl ?_
                  refine s_iload_n C dX12_says_80 rfl ?_
                  refine s_callV (rvf := fun x => some (.int x)) (st := []) (fr := 2) (lo := 43) (mc := 0) (ms := 0) C [12] wc_X12_isBox wml_X12_224 wim_X12_isBox wsl_12_X12_isBox dX12_says_81 (As := [.inl a3]) rfl hf (fun x h' hF => c_X12_isBox _ _ _ _ _ (x, h') hF) rfl (Nat.le_of_ble_eq_true rfl) (room_ok hX (Nat.le_of_ble_eq_true rfl) (Nat.le_of_ble_eq_true rfl)) (cell_ok hX (Nat.le_of_ble_eq_true rfl) (Nat.le_of_ble_eq_true rfl)) (fun v27 h26 hf => ?_)
                  refine s_if_eq (tgt := 108) C dX12_says_84 (by decide) hf (fun hf => ?_) (fun hf => ?_)
                  · refine s_weak (lv' := [none, none, none, none, none, none]) trivial ?_
                    exact k108 _ hf
                  · exact k87 _ hf
            refine s_icmp_ne (tgt := 69) C dX12_says_49 (by decide) hf (fun hf => ?_) (fun hf => ?_)
            · exact k69 _ hf
            · refine s_aload_n C dX12_says_52 rfl ?_
              refine s_iload_n C dX12_says_53 rfl ?_
              refine s_callV (rvf := fun x => some (.int x)) (st := []) (fr := 2) (lo := 43) (mc := 0) (ms := 0) C [12] wc_X12_isFinder wml_X12_230 wim_X12_isFinder wsl_12_X12_isFinder dX12_says_54 (As := [.inl a2]) rfl hf (fun x h' hF => c_X12_isFinder _ _ _ _ _ (x, h') hF) rfl (Nat.le_of_ble_eq_true rfl) (room_ok hX (Nat.le_of_ble_eq_true rfl) (Nat.le_of_ble_eq_true rfl)) (cell_ok hX (Nat.le_of_ble_eq_true rfl) (Nat.le_of_ble_eq_true rfl)) (fun v29 h28 hf => ?_)
              refine s_if_eq (tgt := 108) C dX12_says_57 (by decide) hf (fun hf => ?_) (fun hf => ?_)
              · refine s_weak (lv' := [none, none, none, none, none, none]) trivial ?_
                exact k108 _ hf
              · refine s_iload_n C dX12_says_60 rfl ?_
                refine s_iconst C dX12_says_61 (v := (1 : Int32)) (by decide) ?_
                refine s_iconst C dX12_says_62 (v := (5 : Int32)) (by decide) ?_
                refine s_callS (rvf := fun x => some (.int x)) (st := []) (fr := 0) (lo := 0) (mc := 0) (ms := 0) C wc_X12_in wml_X12_195 wst_X12_in dX12_says_63 (As := [.inl a3, .inl (1 : Int32), .inl (5 : Int32)]) rfl hf (fun x h' hF => c_X12_in _ _ _ _ _ _ (x, h') hF) rfl (Nat.le_of_ble_eq_true rfl) (room_ok hX (Nat.le_of_ble_eq_true rfl) (Nat.le_of_ble_eq_true rfl)) (cell_ok hX (Nat.le_of_ble_eq_true rfl) (Nat.le_of_ble_eq_true rfl)) (fun v31 h30 hf => ?_)
                refine s_if_eq (tgt := 108) C dX12_says_66 (by decide) hf (fun hf => ?_) (fun hf => ?_)
                · refine s_weak (lv' := [none, none, none, none, none, none]) trivial ?_
                  exact k108 _ hf
                · exact k69 _ hf
          refine s_if_ne (tgt := 47) C dX12_says_34 (by decide) hf (fun hf => ?_) (fun hf => ?_)
          · exact k47 hf
          · refine s_iload_n C dX12_says_37 rfl ?_
            refine s_iconst C dX12_says_38 (v := (-1 : Int32)) (by decide) ?_
            refine s_icmp_ne (tgt := 108) C dX12_says_39 (by decide) hf (fun hf => ?_) (fun hf => ?_)
            · refine s_weak (lv' := [none, none, none, none, none, none]) trivial ?_
              exact k108 _ hf
            · refine s_iload_n C dX12_says_42 rfl ?_
              refine s_iconst C dX12_says_43 (v := (-1 : Int32)) (by decide) ?_
              refine s_icmp_ne (tgt := 108) C dX12_says_44 (by decide) hf (fun hf => ?_) (fun hf => ?_)
              · refine s_weak (lv' := [none, none, none, none, none, none]) trivial ?_
                exact k108 _ hf
              · exact k47 hf
        · refine s_weak (lv' := [none, none, none, none, none, none]) trivial ?_
          exact k30 _ hf
/-- HillBoxesModel.shift(IIIII)I -/
noncomputable def f_X12_shift (o : Option Nat) (a1 : Int32) (a2 : Int32) (a3 : Int32) (a4 : Int32) (a5 : Int32) (h : AH) : Option (Int32 × AH) :=
  cl (f_X12_isShelf a1 h) fun v2 h1 =>
  jn (fun (h3 : AH) =>
    some ((-1 : Int32), h3)) fun j14 =>
  if v2 = 0 then
    j14 h1
  else
    cl (f_X12_isShelf a3 h1) fun v5 h4 =>
    if v5 = 0 then
      j14 h4
    else
      fR h4 [12] o 86 fun v6 =>
      aI h4 20 v6 a1 fun v7 =>
      jn (
        some ((-11 : Int32), h4)) fun j36 =>
      if v7 = (-1 : Int32) then
        j36
      else
        fR h4 [12] o 86 fun v8 =>
        aI h4 20 v8 a3 fun v9 =>
        if v9 = (-1 : Int32) then
          j36
        else
          fR h4 [12] o 86 fun v10 =>
          aI h4 20 v10 a1 fun v11 =>
          jn (
            some ((-12 : Int32), h4)) fun j63 =>
          if 0 ≤ v11 then
            j63
          else
            fR h4 [12] o 86 fun v12 =>
            aI h4 20 v12 a1 fun v13 =>
            fR h4 [12] o 86 fun v14 =>
            aI h4 20 v14 a3 fun v15 =>
            if v13 = v15 then
              jn (
                some ((-13 : Int32), h4)) fun j107 =>
              if a5 < 0 then
                j107
              else
                if a2 < 0 then
                  j107
                else
                  if a4 < 0 then
                    j107
                  else
                    fR h4 [12] o 87 fun v16 =>
                    aI h4 20 v16 a1 fun v17 =>
                    if (v17 - a5) < a2 then
                      j107
                    else
                      fR h4 [12] o 87 fun v18 =>
                      aI h4 20 v18 a3 fun v19 =>
                      if a4 ≤ (v19 - a5) then
                        lp (fun _ _ => none) (fun (L113 : Int32 → AH → Option (Int32 × AH)) (x20 : Int32) (h21 : AH) =>
                          if a5 ≤ x20 then
                            lp (fun _ _ => none) (fun (L150 : Int32 → AH → Option (Int32 × AH)) (x22 : Int32) (h23 : AH) =>
                              if a5 ≤ x22 then
                                some (a5, h23)
                              else
                                fR h23 [12] o 88 fun v24 =>
                                fR h23 [12] o 89 fun v25 =>
                                aL h23 24 v25 x22 fun v26 =>
                                bL h23 24 v24 ((((60 : Int32) * a3) + a4) + x22) v26 fun h27 =>
                                L150 (x22 + 1) h27) lpN (0 : Int32) h21
                          else
                            fR h21 [12] o 89 fun v28 =>
                            fR h21 [12] o 88 fun v29 =>
                            aL h21 24 v29 ((((60 : Int32) * a1) + a2) + x20) fun v30 =>
                            bL h21 24 v28 x20 v30 fun h31 =>
                            L113 (x20 + 1) h31) lpN (0 : Int32) h4
                      else
                        j107
            else
              j63
set_option maxRecDepth 100000 in
set_option maxHeartbeats 4000000 in
theorem c_X12_shift (l : Launch) (D : DT) (o : Option Nat) (a1 : Int32) (a2 : Int32) (a3 : Int32) (a4 : Int32) (a5 : Int32) (h : AH) (r : Int32 × AH) (hf : f_X12_shift o a1 a2 a3 a4 a5 h = some r) : CM l D yX12_shift cX12_shift 7 (some .int) 2 42 0 0 [.inr (.inr o), .inl a1, .inl a2, .inl a3, .inl a4, .inl a5] h (some (.int r.1)) r.2 := by
  refine CM.of (by decide) (Nat.le_of_ble_eq_true rfl) (fun X hl C hD hX hnm E => ?_)
  subst hl
  subst hD
  have C : CX X RX12 cX12_shift 7 := C
  show WW X h 0 0 0 [some (rB (xD X).1 o), some (.int a1), some (.int a2), some (.int a3), some (.int a4), some (.int a5), none] []
  unfold f_X12_shift at hf
  refine s_iload_n C dX12_shift_0 rfl ?_
  refine s_callS (rvf := fun x => some (.int x)) (st := []) (fr := 1) (lo := 22) (mc := 0) (ms := 0) C wc_X12_isShelf wml_X12_276 wst_X12_isShelf dX12_shift_1 (As := [.inl a1]) rfl hf (fun x h' hF => c_X12_isShelf _ _ _ _ (x, h') hF) rfl (Nat.le_of_ble_eq_true rfl) (room_ok hX (Nat.le_of_ble_eq_true rfl) (Nat.le_of_ble_eq_true rfl)) (cell_ok hX (Nat.le_of_ble_eq_true rfl) (Nat.le_of_ble_eq_true rfl)) (fun v2 h1 hf => ?_)
  refine s_jn hf (fun j14 e14 hf => ?_)
  have k14 : ∀ (h3 : AH), j14 h3 = some r → WW X h3 0 0 14 [none, none, none, none, none, none, none] [] := by
    intro h3 hf
    rw [e14] at hf
    refine s_iconst C dX12_shift_14 (v := (-1 : Int32)) (by decide) ?_
    exact s_ireturn C E dX12_shift_15 hf (Nat.le_of_ble_eq_true rfl) (Nat.le_of_ble_eq_true rfl)
  refine s_if_eq (tgt := 14) C dX12_shift_4 (by decide) hf (fun hf => ?_) (fun hf => ?_)
  · refine s_weak (lv' := [none, none, none, none, none, none, none]) trivial ?_
    exact k14 _ hf
  · refine s_iload_n C dX12_shift_7 rfl ?_
    refine s_callS (rvf := fun x => some (.int x)) (st := []) (fr := 1) (lo := 22) (mc := 0) (ms := 0) C wc_X12_isShelf wml_X12_276 wst_X12_isShelf dX12_shift_8 (As := [.inl a3]) rfl hf (fun x h' hF => c_X12_isShelf _ _ _ _ (x, h') hF) rfl (Nat.le_of_ble_eq_true rfl) (room_ok hX (Nat.le_of_ble_eq_true rfl) (Nat.le_of_ble_eq_true rfl)) (cell_ok hX (Nat.le_of_ble_eq_true rfl) (Nat.le_of_ble_eq_true rfl)) (fun v5 h4 hf => ?_)
    refine s_if_ne (tgt := 16) C dX12_shift_11 (by decide) hf (fun hf => ?_) (fun hf => ?_)
    · refine s_aload_n C dX12_shift_16 rfl ?_
      refine s_getR C fl_X12_180 dX12_shift_17 hf (fun v6 hf => ?_)
      refine s_iload_n C dX12_shift_20 rfl ?_
      refine s_iaload C dX12_shift_21 hf (fun v7 hf => ?_)
      refine s_iconst C dX12_shift_22 (v := (-1 : Int32)) (by decide) ?_
      refine s_jn hf (fun j36 e36 hf => ?_)
      have k36 : j36  = some r → WW X h4 0 0 36 [none, none, none, none, none, none, none] [] := by
        intro  hf
        rw [e36] at hf
        refine s_bipush C dX12_shift_36 (v := (-11 : Int32)) (by decide) ?_
        exact s_ireturn C E dX12_shift_38 hf (Nat.le_of_ble_eq_true rfl) (Nat.le_of_ble_eq_true rfl)
      refine s_icmp_eq (tgt := 36) C dX12_shift_23 (by decide) hf (fun hf => ?_) (fun hf => ?_)
      · refine s_weak (lv' := [none, none, none, none, none, none, none]) trivial ?_
        exact k36 hf
      · refine s_aload_n C dX12_shift_26 rfl ?_
        refine s_getR C fl_X12_180 dX12_shift_27 hf (fun v8 hf => ?_)
        refine s_iload_n C dX12_shift_30 rfl ?_
        refine s_iaload C dX12_shift_31 hf (fun v9 hf => ?_)
        refine s_iconst C dX12_shift_32 (v := (-1 : Int32)) (by decide) ?_
        refine s_icmp_ne (tgt := 39) C dX12_shift_33 (by decide) hf (fun hf => ?_) (fun hf => ?_)
        · refine s_aload_n C dX12_shift_39 rfl ?_
          refine s_getR C fl_X12_180 dX12_shift_40 hf (fun v10 hf => ?_)
          refine s_iload_n C dX12_shift_43 rfl ?_
          refine s_iaload C dX12_shift_44 hf (fun v11 hf => ?_)
          refine s_jn hf (fun j63 e63 hf => ?_)
          have k63 : j63  = some r → WW X h4 0 0 63 [none, none, none, none, none, none, none] [] := by
            intro  hf
            rw [e63] at hf
            refine s_bipush C dX12_shift_63 (v := (-12 : Int32)) (by decide) ?_
            exact s_ireturn C E dX12_shift_65 hf (Nat.le_of_ble_eq_true rfl) (Nat.le_of_ble_eq_true rfl)
          refine s_if_ge (tgt := 63) C dX12_shift_45 (by decide) hf (fun hf => ?_) (fun hf => ?_)
          · refine s_weak (lv' := [none, none, none, none, none, none, none]) trivial ?_
            exact k63 hf
          · refine s_aload_n C dX12_shift_48 rfl ?_
            refine s_getR C fl_X12_180 dX12_shift_49 hf (fun v12 hf => ?_)
            refine s_iload_n C dX12_shift_52 rfl ?_
            refine s_iaload C dX12_shift_53 hf (fun v13 hf => ?_)
            refine s_aload_n C dX12_shift_54 rfl ?_
            refine s_getR C fl_X12_180 dX12_shift_55 hf (fun v14 hf => ?_)
            refine s_iload_n C dX12_shift_58 rfl ?_
            refine s_iaload C dX12_shift_59 hf (fun v15 hf => ?_)
            refine s_icmp_eq (tgt := 66) C dX12_shift_60 (by decide) hf (fun hf => ?_) (fun hf => ?_)
            · refine s_iload C dX12_shift_66 rfl ?_
              refine s_jn hf (fun j107 e107 hf => ?_)
              have k107 : j107  = some r → WW X h4 0 0 107 [none, none, none, none, none, none, none] [] := by
                intro  hf
                rw [e107] at hf
                refine s_bipush C dX12_shift_107 (v := (-13 : Int32)) (by decide) ?_
                exact s_ireturn C E dX12_shift_109 hf (Nat.le_of_ble_eq_true rfl) (Nat.le_of_ble_eq_true rfl)
              refine s_if_lt (tgt := 107) C dX12_shift_68 (by decide) hf (fun hf => ?_) (fun hf => ?_)
              · refine s_weak (lv' := [none, none, none, none, none, none, none]) trivial ?_
                exact k107 hf
              · refine s_iload_n C dX12_shift_71 rfl ?_
                refine s_if_lt (tgt := 107) C dX12_shift_72 (by decide) hf (fun hf => ?_) (fun hf => ?_)
                · refine s_weak (lv' := [none, none, none, none, none, none, none]) trivial ?_
                  exact k107 hf
                · refine s_iload C dX12_shift_75 rfl ?_
                  refine s_if_lt (tgt := 107) C dX12_shift_77 (by decide) hf (fun hf => ?_) (fun hf => ?_)
                  · refine s_weak (lv' := [none, none, none, none, none, none, none]) trivial ?_
                    exact k107 hf
                  · refine s_iload_n C dX12_shift_80 rfl ?_
                    refine s_aload_n C dX12_shift_81 rfl ?_
                    refine s_getR C fl_X12_183 dX12_shift_82 hf (fun v16 hf => ?_)
                    refine s_iload_n C dX12_shift_85 rfl ?_
                    refine s_iaload C dX12_shift_86 hf (fun v17 hf => ?_)
                    refine s_iload C dX12_shift_87 rfl ?_
                    refine s_isub C dX12_shift_89 ?_
                    refine s_icmp_gt (tgt := 107) C dX12_shift_90 (by decide) hf (fun hf => ?_) (fun hf => ?_)
                    · refine s_weak (lv' := [none, none, none, none, none, none, none]) trivial ?_
                      exact k107 hf
                    · refine s_iload C dX12_shift_93 rfl ?_
                      refine s_aload_n C dX12_shift_95 rfl ?_
                      refine s_getR C fl_X12_183 dX12_shift_96 hf (fun v18 hf => ?_)
                      refine s_iload_n C dX12_shift_99 rfl ?_
                      refine s_iaload C dX12_shift_100 hf (fun v19 hf => ?_)
                      refine s_iload C dX12_shift_101 rfl ?_
                      refine s_isub C dX12_shift_103 ?_
                      refine s_icmp_le (tgt := 110) C dX12_shift_104 (by decide) hf (fun hf => ?_) (fun hf => ?_)
                      · refine s_iconst C dX12_shift_110 (v := (0 : Int32)) (by decide) ?_
                        refine s_istore C dX12_shift_111 (by decide) (nc_i rfl) (lv' := [some (rB (xD X).1 o), some (.int a1), some (.int a2), some (.int a3), some (.int a4), some (.int a5), some (.int (0 : Int32))]) rfl ?_
                        refine s_lp2 hf (fun G113 z113 q113 hf => ?_)
                        have k113 : ∀ (n : Nat) (x20 : Int32) (h21 : AH), G113 n x20 h21 = some r → WW X h21 0 0 113 [some (rB (xD X).1 o), some (.int a1), some (.int a2), some (.int a3), some (.int a4), some (.int a5), some (.int x20)] [] := by
                          intro n
                          induction n with
                          | zero =>
                            intro x20 h21 hf
                            rw [z113] at hf
                            cases hf
                          | succ n ih113 =>
                            intro x20 h21 hf
                            have hf := (q113 n x20 h21).symm.trans hf
                            refine s_iload C dX12_shift_113 rfl ?_
                            refine s_iload C dX12_shift_115 rfl ?_
                            refine s_icmp_ge (tgt := 147) C dX12_shift_117 (by decide) hf (fun hf => ?_) (fun hf => ?_)
                            · refine s_iconst C dX12_shift_147 (v := (0 : Int32)) (by decide) ?_
                              refine s_istore C dX12_shift_148 (by decide) (nc_i rfl) (lv' := [some (rB (xD X).1 o), some (.int a1), some (.int a2), some (.int a3), some (.int a4), some (.int a5), some (.int (0 : Int32))]) rfl ?_
                              refine s_lp2 hf (fun G150 z150 q150 hf => ?_)
                              have k150 : ∀ (n : Nat) (x22 : Int32) (h23 : AH), G150 n x22 h23 = some r → WW X h23 0 0 150 [some (rB (xD X).1 o), none, none, some (.int a3), some (.int a4), some (.int a5), some (.int x22)] [] := by
                                intro n
                                induction n with
                                | zero =>
                                  intro x22 h23 hf
                                  rw [z150] at hf
                                  cases hf
                                | succ n ih150 =>
                                  intro x22 h23 hf
                                  have hf := (q150 n x22 h23).symm.trans hf
                                  refine s_iload C dX12_shift_150 rfl ?_
                                  refine s_iload C dX12_shift_152 rfl ?_
                                  refine s_icmp_ge (tgt := 185) C dX12_shift_154 (by decide) hf (fun hf => ?_) (fun hf => ?_)
                                  · refine s_iload C dX12_shift_185 rfl ?_
                                    exact s_ireturn C E dX12_shift_187 hf (Nat.le_of_ble_eq_true rfl) (Nat.le_of_ble_eq_true rfl)
                                  · refine s_aload_n C dX12_shift_157 rfl ?_
                                    refine s_getR C fl_X12_186 dX12_shift_158 hf (fun v24 hf => ?_)
                                    refine s_bipush C dX12_shift_161 (v := (60 : Int32)) (by decide) ?_
                                    refine s_iload_n C dX12_shift_163 rfl ?_
                                    refine s_imul C dX12_shift_164 ?_
                                    refine s_iload C dX12_shift_165 rfl ?_
                                    refine s_iadd C dX12_shift_167 ?_
                                    refine s_iload C dX12_shift_168 rfl ?_
                                    refine s_iadd C dX12_shift_170 ?_
                                    refine s_aload_n C dX12_shift_171 rfl ?_
                                    refine s_getR C fl_X12_189 dX12_shift_172 hf (fun v25 hf => ?_)
                                    refine s_iload C dX12_shift_175 rfl ?_
                                    refine s_laload C dX12_shift_177 hf (fun v26 hf => ?_)
                                    refine s_lastore C dX12_shift_178 hf (fun h27 hf => ?_)
                                    refine s_iinc C dX12_shift_179 (v := (x22 + 1)) rfl rfl (by decide) (nc_i rfl) (lv' := [some (rB (xD X).1 o), none, none, some (.int a3), some (.int a4), some (.int a5), some (.int (x22 + 1))]) rfl ?_
                                    refine s_goto (tgt := 150) C dX12_shift_182 (by decide) ?_
                                    exact ih150 _ _ hf
                              refine s_weak (lv' := [some (rB (xD X).1 o), none, none, some (.int a3), some (.int a4), some (.int a5), some (.int (0 : Int32))]) ⟨rfl, ⟨rfl, ⟨rfl, ⟨rfl, ⟨rfl, trivial⟩⟩⟩⟩⟩ ?_
                              exact k150 lpN _ _ hf
                            · refine s_aload_n C dX12_shift_120 rfl ?_
                              refine s_getR C fl_X12_189 dX12_shift_121 hf (fun v28 hf => ?_)
                              refine s_iload C dX12_shift_124 rfl ?_
                              refine s_aload_n C dX12_shift_126 rfl ?_
                              refine s_getR C fl_X12_186 dX12_shift_127 hf (fun v29 hf => ?_)
                              refine s_bipush C dX12_shift_130 (v := (60 : Int32)) (by decide) ?_
                              refine s_iload_n C dX12_shift_132 rfl ?_
                              refine s_imul C dX12_shift_133 ?_
                              refine s_iload_n C dX12_shift_134 rfl ?_
                              refine s_iadd C dX12_shift_135 ?_
                              refine s_iload C dX12_shift_136 rfl ?_
                              refine s_iadd C dX12_shift_138 ?_
                              refine s_laload C dX12_shift_139 hf (fun v30 hf => ?_)
                              refine s_lastore C dX12_shift_140 hf (fun h31 hf => ?_)
                              refine s_iinc C dX12_shift_141 (v := (x20 + 1)) rfl rfl (by decide) (nc_i rfl) (lv' := [some (rB (xD X).1 o), some (.int a1), some (.int a2), some (.int a3), some (.int a4), some (.int a5), some (.int (x20 + 1))]) rfl ?_
                              refine s_goto (tgt := 113) C dX12_shift_144 (by decide) ?_
                              exact ih113 _ _ hf
                        exact k113 lpN _ _ hf
                      · refine s_weak (lv' := [none, none, none, none, none, none, none]) trivial ?_
                        exact k107 hf
            · refine s_weak (lv' := [none, none, none, none, none, none, none]) trivial ?_
              exact k63 hf
        · refine s_weak (lv' := [none, none, none, none, none, none, none]) trivial ?_
          exact k36 hf
    · refine s_weak (lv' := [none, none, none, none, none, none, none]) trivial ?_
      exact k14 _ hf
