/-! THE LAW'S OWN METHODS -/
/-- HillBoxesLaw.far(II)I -/
noncomputable def f_L_far (a0 : Int32) (a1 : Int32) (h : AH) : Option (Int32 × AH) :=
  nz (10 : Int32) <|
  nz (10 : Int32) <|
  nz (10 : Int32) <|
  nz (10 : Int32) <|
  some (((if 0 ≤ ((a0 / (10 : Int32)) - (a1 / (10 : Int32))) then ((a0 / (10 : Int32)) - (a1 / (10 : Int32))) else 0 - ((a0 / (10 : Int32)) - (a1 / (10 : Int32)))) + (if 0 ≤ ((a0 - a0 / (10 : Int32) * (10 : Int32)) - (a1 - a1 / (10 : Int32) * (10 : Int32))) then ((a0 - a0 / (10 : Int32) * (10 : Int32)) - (a1 - a1 / (10 : Int32) * (10 : Int32))) else 0 - ((a0 - a0 / (10 : Int32) * (10 : Int32)) - (a1 - a1 / (10 : Int32) * (10 : Int32))))), h)
set_option maxRecDepth 100000 in
set_option maxHeartbeats 4000000 in
theorem c_L_far (l : Launch) (D : DT) (a0 : Int32) (a1 : Int32) (h : AH) (r : Int32 × AH) (hf : f_L_far a0 a1 h = some r) : CM l D yL_far cL_far 2 (some .int) 1 21 0 0 [.inl a0, .inl a1] h (some (.int r.1)) r.2 := by
  refine CM.of (by decide) (Nat.le_of_ble_eq_true rfl) (fun X hl C hD hX hnm E => ?_)
  subst hl
  subst hD
  have C : CX X RL cL_far 2 := C
  show WW X h 0 0 0 [some (.int a0), some (.int a1)] []
  unfold f_L_far at hf
  refine s_iload_n C dL_far_0 rfl ?_
  refine s_bipush C dL_far_1 (v := (10 : Int32)) (by decide) ?_
  refine s_idiv C dL_far_3 hf (fun hf => ?_)
  refine s_iload_n C dL_far_4 rfl ?_
  refine s_bipush C dL_far_5 (v := (10 : Int32)) (by decide) ?_
  refine s_idiv C dL_far_7 hf (fun hf => ?_)
  refine s_isub C dL_far_8 ?_
  refine s_mabs C wml_L_23 wst_mabs wini_math wcd_mabs dL_far_9 (Nat.le_of_ble_eq_true rfl) (room_n hX (Nat.le_of_ble_eq_true rfl) (Nat.le_of_ble_eq_true rfl)) (cell_ok hX (Nat.le_of_ble_eq_true rfl) (Nat.le_of_ble_eq_true rfl)) ?_
  refine s_iload_n C dL_far_12 rfl ?_
  refine s_bipush C dL_far_13 (v := (10 : Int32)) (by decide) ?_
  refine s_irem C dL_far_15 hf (fun hf => ?_)
  refine s_iload_n C dL_far_16 rfl ?_
  refine s_bipush C dL_far_17 (v := (10 : Int32)) (by decide) ?_
  refine s_irem C dL_far_19 hf (fun hf => ?_)
  refine s_isub C dL_far_20 ?_
  refine s_mabs C wml_L_23 wst_mabs wini_math wcd_mabs dL_far_21 (Nat.le_of_ble_eq_true rfl) (room_n hX (Nat.le_of_ble_eq_true rfl) (Nat.le_of_ble_eq_true rfl)) (cell_ok hX (Nat.le_of_ble_eq_true rfl) (Nat.le_of_ble_eq_true rfl)) ?_
  refine s_iadd C dL_far_24 ?_
  exact s_ireturn C E dL_far_25 hf (Nat.le_of_ble_eq_true rfl) (Nat.le_of_ble_eq_true rfl)
/-- the law's own tell: feeds a text to the tape -/
noncomputable def f_L_tell (a0 : Option Nat) (a1 : Option Nat) (a2 : Int32) (h : AH) : Option (Int32 × AH) :=
  lp (fun _ _ => none) (fun (L2 : Int32 → AH → Option (Int32 × AH)) (x1 : Int32) (h2 : AH) =>
    if a2 ≤ x1 then
      rO h2 [11] a0 <| cl (f_X11_count a0 (7 : Int32) h2) fun v4 h3 =>
      jn (fun (x5 : Int32) =>
        rz x5 h3) fun j90 =>
      if v4 = a2 then
        j90 (1 : Int32)
      else
        j90 (0 : Int32)
    else
      lp (fun _ _ _ _ => none) (fun (L22 : Int32 → Int32 → Int32 → AH → Option (Int32 × AH)) (x6 : Int32) (x7 : Int32) (x8 : Int32) (h9 : AH) =>
        if (if (a2 - x1) < (4 : Int32) then (a2 - x1) else (4 : Int32)) ≤ x8 then
          rO h9 [11] a0 <| cl (f_X11_feed a0 (if (a2 - x1) < (4 : Int32) then (a2 - x1) else (4 : Int32)) x7 h9) fun v11 h10 =>
          if v11 = (x6 + (if (a2 - x1) < (4 : Int32) then (a2 - x1) else (4 : Int32))) then
            L2 (x6 + 4) h10
          else
            rz (0 : Int32) h10
        else
          aF h a1 (x6 + x8) fun v12 =>
          L22 x6 (x7 ||| (v12 <<< (((8 : Int32) * x8) &&& 31))) (x8 + 1) h9) lpN x1 (0 : Int32) (0 : Int32) h2) lpN (0 : Int32) h
set_option maxRecDepth 100000 in
set_option maxHeartbeats 4000000 in
theorem c_L_tell (l : Launch) (D D0 : DT) (a0 : Option Nat) (a1 : Option Nat) (a2 : Int32) (h : AH) (hD0 : D = sFD D0 h) (r : Int32 × AH) (hf : f_L_tell a0 a1 a2 h = some r) : CM l D yL_tell cL_tell 7 (some .boolean) 3 67 0 0 [.inr (.inr a0), .inr (.inr a1), .inl a2] h (some (.int r.1)) r.2 := by
  refine CM.of (by decide) (Nat.le_of_ble_eq_true rfl) (fun X hl C hD hX hnm E => ?_)
  subst hl
  subst hD
  have C : CX X RL cL_tell 7 := C
  show WW X h 0 0 0 [some (rB (xD X).1 a0), some (rB (xD X).1 a1), some (.int a2), none, none, none, none] []
  unfold f_L_tell at hf
  refine s_iconst C dL_tell_0 (v := (0 : Int32)) (by decide) ?_
  refine s_istore_n C dL_tell_1 (by decide) (nc_i rfl) (lv' := [some (rB (xD X).1 a0), some (rB (xD X).1 a1), some (.int a2), some (.int (0 : Int32)), none, none, none]) rfl ?_
  refine s_lp2 hf (fun G2 z2 q2 hf => ?_)
  have k2 : ∀ (n : Nat) (x1 : Int32) (h2 : AH), G2 n x1 h2 = some r → WW X h2 0 0 2 [some (rB (xD X).1 a0), some (rB (xD X).1 a1), some (.int a2), some (.int x1), none, none, none] [] := by
    intro n
    induction n with
    | zero =>
      intro x1 h2 hf
      rw [z2] at hf
      cases hf
    | succ n ih2 =>
      intro x1 h2 hf
      have hf := (q2 n x1 h2).symm.trans hf
      refine s_iload_n C dL_tell_2 rfl ?_
      refine s_iload_n C dL_tell_3 rfl ?_
      refine s_icmp_ge (tgt := 75) C dL_tell_4 (by decide) hf (fun hf => ?_) (fun hf => ?_)
      · refine s_aload_n C dL_tell_75 rfl ?_
        refine s_bipush C dL_tell_76 (v := (7 : Int32)) (by decide) ?_
        refine s_callV (rvf := fun x => some (.int x)) (st := []) (fr := 2) (lo := 46) (mc := 0) (ms := 0) C [11] wc_X11_count wml_L_18 wim_X11_count wsl_11_X11_count dL_tell_78 (As := [.inl (7 : Int32)]) rfl hf (fun x h' hF => c_X11_count _ _ _ _ _ (x, h') hF) rfl (Nat.le_of_ble_eq_true rfl) (room_ok hX (Nat.le_of_ble_eq_true rfl) (Nat.le_of_ble_eq_true rfl)) (cell_ok hX (Nat.le_of_ble_eq_true rfl) (Nat.le_of_ble_eq_true rfl)) (fun v4 h3 hf => ?_)
        refine s_iload_n C dL_tell_81 rfl ?_
        refine s_jn hf (fun j90 e90 hf => ?_)
        have k90 : ∀ (x5 : Int32), j90 x5 = some r → WW X h3 0 0 90 [none, none, none, none, none, none, none] [.int x5] := by
          intro x5 hf
          rw [e90] at hf
          exact s_zreturn C E dL_tell_90 hf (Nat.le_of_ble_eq_true rfl) (Nat.le_of_ble_eq_true rfl)
        refine s_icmp_ne (tgt := 89) C dL_tell_82 (by decide) hf (fun hf => ?_) (fun hf => ?_)
        · refine s_iconst C dL_tell_89 (v := (0 : Int32)) (by decide) ?_
          refine s_weak (lv' := [none, none, none, none, none, none, none]) trivial ?_
          exact k90 _ hf
        · refine s_iconst C dL_tell_85 (v := (1 : Int32)) (by decide) ?_
          refine s_goto (tgt := 90) C dL_tell_86 (by decide) ?_
          refine s_weak (lv' := [none, none, none, none, none, none, none]) trivial ?_
          exact k90 _ hf
      · refine s_iconst C dL_tell_7 (v := (4 : Int32)) (by decide) ?_
        refine s_iload_n C dL_tell_8 rfl ?_
        refine s_iload_n C dL_tell_9 rfl ?_
        refine s_isub C dL_tell_10 ?_
        refine s_mmin C wml_L_7 wst_mmin wini_math wcd_mmin dL_tell_11 (Nat.le_of_ble_eq_true rfl) (room_n hX (Nat.le_of_ble_eq_true rfl) (Nat.le_of_ble_eq_true rfl)) (cell_ok hX (Nat.le_of_ble_eq_true rfl) (Nat.le_of_ble_eq_true rfl)) ?_
        refine s_istore C dL_tell_14 (by decide) (nc_i rfl) (lv' := [some (rB (xD X).1 a0), some (rB (xD X).1 a1), some (.int a2), some (.int x1), some (.int (if (a2 - x1) < (4 : Int32) then (a2 - x1) else (4 : Int32))), none, none]) rfl ?_
        refine s_iconst C dL_tell_16 (v := (0 : Int32)) (by decide) ?_
        refine s_istore C dL_tell_17 (by decide) (nc_i rfl) (lv' := [some (rB (xD X).1 a0), some (rB (xD X).1 a1), some (.int a2), some (.int x1), some (.int (if (a2 - x1) < (4 : Int32) then (a2 - x1) else (4 : Int32))), some (.int (0 : Int32)), none]) rfl ?_
        refine s_iconst C dL_tell_19 (v := (0 : Int32)) (by decide) ?_
        refine s_istore C dL_tell_20 (by decide) (nc_i rfl) (lv' := [some (rB (xD X).1 a0), some (rB (xD X).1 a1), some (.int a2), some (.int x1), some (.int (if (a2 - x1) < (4 : Int32) then (a2 - x1) else (4 : Int32))), some (.int (0 : Int32)), some (.int (0 : Int32))]) rfl ?_
        refine s_lp4 hf (fun G22 z22 q22 hf => ?_)
        have k22 : ∀ (n : Nat) (x6 : Int32) (x7 : Int32) (x8 : Int32) (h9 : AH), G22 n x6 x7 x8 h9 = some r → WW X h9 0 0 22 [some (rB (xD X).1 a0), some (rB (xD X).1 a1), some (.int a2), some (.int x6), some (.int (if (a2 - x1) < (4 : Int32) then (a2 - x1) else (4 : Int32))), some (.int x7), some (.int x8)] [] := by
          intro n
          induction n with
          | zero =>
            intro x6 x7 x8 h9 hf
            rw [z22] at hf
            cases hf
          | succ n ih22 =>
            intro x6 x7 x8 h9 hf
            have hf := (q22 n x6 x7 x8 h9).symm.trans hf
            refine s_iload C dL_tell_22 rfl ?_
            refine s_iload C dL_tell_24 rfl ?_
            refine s_icmp_ge (tgt := 52) C dL_tell_26 (by decide) hf (fun hf => ?_) (fun hf => ?_)
            · refine s_aload_n C dL_tell_52 rfl ?_
              refine s_iload C dL_tell_53 rfl ?_
              refine s_iload C dL_tell_55 rfl ?_
              refine s_callV (rvf := fun x => some (.int x)) (st := []) (fr := 1) (lo := 21) (mc := 0) (ms := 0) C [11] wc_X11_feed wml_L_13 wim_X11_feed wsl_11_X11_feed dL_tell_57 (As := [.inl (if (a2 - x1) < (4 : Int32) then (a2 - x1) else (4 : Int32)), .inl x7]) rfl hf (fun x h' hF => c_X11_feed _ _ _ _ _ _ (x, h') hF) rfl (Nat.le_of_ble_eq_true rfl) (room_ok hX (Nat.le_of_ble_eq_true rfl) (Nat.le_of_ble_eq_true rfl)) (cell_ok hX (Nat.le_of_ble_eq_true rfl) (Nat.le_of_ble_eq_true rfl)) (fun v11 h10 hf => ?_)
              refine s_iload_n C dL_tell_60 rfl ?_
              refine s_iload C dL_tell_61 rfl ?_
              refine s_iadd C dL_tell_63 ?_
              refine s_icmp_eq (tgt := 69) C dL_tell_64 (by decide) hf (fun hf => ?_) (fun hf => ?_)
              · refine s_iinc C dL_tell_69 (v := (x6 + 4)) rfl rfl (by decide) (nc_i rfl) (lv' := [some (rB (xD X).1 a0), some (rB (xD X).1 a1), some (.int a2), some (.int (x6 + 4)), some (.int (if (a2 - x1) < (4 : Int32) then (a2 - x1) else (4 : Int32))), some (.int x7), some (.int x8)]) rfl ?_
                refine s_goto (tgt := 2) C dL_tell_72 (by decide) ?_
                refine s_weak (lv' := [some (rB (xD X).1 a0), some (rB (xD X).1 a1), some (.int a2), some (.int (x6 + 4)), none, none, none]) ⟨rfl, ⟨rfl, ⟨rfl, ⟨rfl, trivial⟩⟩⟩⟩ ?_
                exact ih2 _ _ hf
              · refine s_iconst C dL_tell_67 (v := (0 : Int32)) (by decide) ?_
                exact s_zreturn C E dL_tell_68 hf (Nat.le_of_ble_eq_true rfl) (Nat.le_of_ble_eq_true rfl)
            · refine s_iload C dL_tell_29 rfl ?_
              refine s_aload_n C dL_tell_31 rfl ?_
              refine s_iload_n C dL_tell_32 rfl ?_
              refine s_iload C dL_tell_33 rfl ?_
              refine s_iadd C dL_tell_35 ?_
              refine s_ialoadF C hD0 dL_tell_36 hf (fun v12 hf => ?_)
              refine s_bipush C dL_tell_37 (v := (8 : Int32)) (by decide) ?_
              refine s_iload C dL_tell_39 rfl ?_
              refine s_imul C dL_tell_41 ?_
              refine s_ishl C dL_tell_42 ?_
              refine s_ior C dL_tell_43 ?_
              refine s_istore C dL_tell_44 (by decide) (nc_i rfl) (lv' := [some (rB (xD X).1 a0), some (rB (xD X).1 a1), some (.int a2), some (.int x6), some (.int (if (a2 - x1) < (4 : Int32) then (a2 - x1) else (4 : Int32))), some (.int (x7 ||| (v12 <<< (((8 : Int32) * x8) &&& 31)))), some (.int x8)]) rfl ?_
              refine s_iinc C dL_tell_46 (v := (x8 + 1)) rfl rfl (by decide) (nc_i rfl) (lv' := [some (rB (xD X).1 a0), some (rB (xD X).1 a1), some (.int a2), some (.int x6), some (.int (if (a2 - x1) < (4 : Int32) then (a2 - x1) else (4 : Int32))), some (.int (x7 ||| (v12 <<< (((8 : Int32) * x8) &&& 31)))), some (.int (x8 + 1))]) rfl ?_
              refine s_goto (tgt := 22) C dL_tell_49 (by decide) ?_
              exact ih22 _ _ _ _ hf
        exact k22 lpN _ _ _ _ hf
  exact k2 lpN _ _ hf
set_option maxRecDepth 100000 in
theorem c_L_cell (l : Launch) (D : DT) (b : Nat) (tb : List Int32) (i : Int32) (h : AH) (v : Int32) (hf : cellF tb i = some v) : CMB l D b tb yL_cell cL_cell 2 (some .int) 0 0 [.ref b, .int i] h (some (.int v)) := by
  refine CMB.of (by decide) rfl (Nat.le_refl 2) (fun X hl C hD hX E hx => ?_)
  subst hl
  subst hD
  have C : CX X RL cL_cell 2 := C
  show WW X h 0 0 0 [some (.ref b), some (.int i)] []
  unfold cellF at hf
  refine s_iload_n C dL_cell_0 rfl ?_
  refine r_aload C dL_cell_1 rfl ?_
  refine s_tblen C (v := nI tb.length) hx rfl dL_cell_2 ?_
  refine s_icmp_ge (tgt := 15) C dL_cell_3 (by decide) hf (fun hf => ?_) (fun hf => ?_)
  · cases hf
    refine s_iload_n C dL_cell_15 rfl ?_
    refine s_sipush C dL_cell_16 (v := (6577 : Int32)) (by decide) ?_
    refine s_imul C dL_cell_19 ?_
    exact s_ireturn (r := (i * 6577, h)) C E dL_cell_20 rfl (by decide) (by decide)
  · refine r_aload C dL_cell_6 rfl ?_
    refine s_iload_n C dL_cell_7 rfl ?_
    refine s_tbI C hx dL_cell_8 hf (fun x hf => ?_)
    cases hf
    refine s_ldc C dL_cell_9 wk_RL_22 ?_
    refine s_iand C dL_cell_11 ?_
    refine s_goto (tgt := 20) C dL_cell_12 (by decide) ?_
    exact s_ireturn (r := (x &&& 16777215, h)) C E dL_cell_20 rfl (by decide) (by decide)
theorem rst_grow (h : AH) (t n : Nat) : rst h (grow h t n) = grow h t n := by
  have eS : rstS (hS h) (hS (grow h t n)) = hS (grow h t n) := by
    rw [hS_grow]
    refine rstS_eq _ _ (by rw [List.length_append]; omega) (fun k q e _ => ?_)
    rw [List.getElem?_append_left (List.getElem?_eq_some_iff.mp e).1]
    exact e
  have hlt : ∀ k, isL h k = true → k ≠ h.1.length := fun k e => by
    obtain ⟨q, hq, -⟩ := isL_iff.mp e
    have : k < (Jvm.Pilot.@@N@@.hS h).length := (List.getElem?_eq_some_iff.mp hq).1
    exact Nat.ne_of_lt this
  have e1 : (fun k j => if isL h k = true then Jvm.Pilot.@@N@@.hI h k j else Jvm.Pilot.@@N@@.hI (grow h t n) k j) = Jvm.Pilot.@@N@@.hI (grow h t n) := by
    funext k j
    by_cases c : isL h k = true
    · rw [if_pos c]; exact (if_neg (hlt k c)).symm
    · rw [if_neg c]
  have e2 : (fun k j => if isL h k = true then Jvm.Pilot.@@N@@.hL h k j else Jvm.Pilot.@@N@@.hL (grow h t n) k j) = Jvm.Pilot.@@N@@.hL (grow h t n) := by
    funext k j
    by_cases c : isL h k = true
    · rw [if_pos c]; exact (if_neg (hlt k c)).symm
    · rw [if_neg c]
  have e3 : (fun k j => if isL h k = true then Jvm.Pilot.@@N@@.hR h k j else Jvm.Pilot.@@N@@.hR (grow h t n) k j) = Jvm.Pilot.@@N@@.hR (grow h t n) := by
    funext k j
    by_cases c : isL h k = true
    · rw [if_pos c]; exact (if_neg (hlt k c)).symm
    · rw [if_neg c]
  unfold rst
  rw [eS, e1, e2, e3]
  rfl
section LAWROWS4
variable {X : XT} {own : String} {cc : ByteArray} {nL pc cells slots mc ms : Nat} {h : AH} {lv lv' : List (Option Value)} {st : List Value} {ρ : Type} {r : ρ}
theorem L_new (C : CX (sF X h) own cc nL) {idx t n : Nat} (ht : t < 13) (hoc : okC t) (hn : NXX t = n) (w1 : Cond.classLink own idx (RXX t) ∈ lw_big) (w2 : Cond.instantiable (RXX t) (NXX t) ∈ lw_big) (w3 : Cond.initialized (RXX t) ∈ lw_big) (d : decode cc pc = .ok (.new idx, 3)) {K : Option Nat → AH → Option ρ} (hf : nO h t n K = some r) (hc : cells + 1 ≤ (xR X).cells) (hs : slots + n ≤ (xR X).slots) (kk : ∀ v h', K v h' = some r → WW (sF X h') h' (cells + 1) (slots + n) (pc + 3) lv (rB (xD X).1 v :: st)) : WW (sF X h) h cells slots pc lv st := by
  have hf2 : nO h t n (fun v h2 => K v (rst h h2)) = some r := by
    unfold nO at *
    show K _ (rst h (grow h t n)) = _
    rw [rst_grow]
    exact hf
  exact s_new (X := sF X h) C ht hoc hn w1 w2 w3 d hf2 hc hs (fun v h2 hk => WL.rst (kk v _ hk))
end LAWROWS4
theorem nc_t {lv : List (Option Value)} {n q : Nat} (h : lv[n - 1]? = some (some (.ref q))) : nc lv n := fun w hw => Or.inr (by rw [h] at hw; cases hw; rfl)
/-- how the law's walk ends -/
def EL (X : XT) (b : Nat) : Prop := (xM X).sig.returnType = ret ∧ X.1.2.2.2.1 = room_1 ∧ xa X = #[.ref b] ∧ X.2.2.2 = lw_Z X.2.1.2.2.1 #[Value.ref b] (xs X) ∧ (xD X).1 = (xs X).heap.size
section LAWROWS3
variable {X : XT} {own : String} {cc : ByteArray} {nL pc cells slots mc ms : Nat} {h : AH} {lv lv' : List (Option Value)} {st : List Value} {ρ : Type} {r : ρ}
theorem L_lawret {b : Nat} (C : CX X RL cL_law nL) (E : EL X b) {r : Int32 × AH} (h1 : r.1 = 1) {v : Int32} (d : decode cL_law pc = .ok (.ireturn, 1)) (hf : rz v h = some r) (hc : cells ≤ 600000) (hs : slots ≤ 7302249) : WW (sF X h) h cells slots pc lv [.int v] := by
  have hv : v = 1 := by
    unfold rz at hf
    split at hf
    · cases hf; exact h1
    · cases hf
  subst hv
  intro H locs ls hR hS hl
  obtain ⟨⟨p, l, e, R, s⟩, ⟨m, a, below, meth, c⟩, D, Q⟩ := X
  obtain ⟨E1, E2, E3, E4, E5⟩ := E
  dsimp only at E1 E2 E3 E4 E5
  subst E2
  obtain rfl : a = #[.ref b] := E3
  have E4 : Q = lw_Z below #[Value.ref b] s := E4
  have E5 : D.1 = s.heap.size := E5
  show W p l e room_1 s m #[Value.ref b] below meth c H locs cells slots Q _
  rw [E4]
  refine va_forget (fun q hq => Nat.le_trans (Nat.le_of_eq E5.symm) (hS.2.2 q hq)) ?_
  refine W.widen hc hs ?_
  exact lw_ret C.1 C.2.1 E1 C.2.2.2.2.2.2.2.2.1 d
theorem L_cell (C : CX (sF X h) own cc nL) {b : Nat} {tb : List Int32} (hx : scr b tb (xD X).1 (xs X)) {idx : Nat} (w : CWd yL_cell cL_cell 2 (some .int) 2) (wl : Cond.methodLink own idx yL_cell ∈ lw_big) (wi : Cond.static yL_cell ∈ lw_big) (d : decode cc pc = .ok (.invokestatic idx, 3)) {i : Int32} {stk : List Value} (hstk : stk = [Value.ref b, .int i].reverse ++ st) {K : Int32 → Option ρ} (hf : clC (cellF tb i) K = some r) (hst : st.length ≤ 4) (hroom : 0 + 1 ≤ (xR X).frames ∧ 8 + (2 + 11) + 0 ≤ (xR X).locals) (hcl : cells ≤ (xR X).cells ∧ slots ≤ (xR X).slots) (kk : ∀ v, K v = some r → WW (sF X h) h cells slots (pc + 3) lv (.int v :: st)) : WW (sF X h) h cells slots pc lv stk := by
  unfold clC at hf
  cases e : cellF tb i with
  | none => rw [e] at hf; cases hf
  | some v =>
    rw [e] at hf
    exact r_callB (X := sF X h) C hx w wl wi d rfl (c_L_cell _ _ b tb i h v e) hstk hst hroom hcl (kk v hf)
theorem cell1k {F c s L x : Nat} (hX : xR X = { frames := F, cells := c, slots := s, locals := L }) (h1 : x ≤ c) : x ≤ (xR X).cells := by rw [hX]; exact h1
theorem cell2k {F c s L x : Nat} (hX : xR X = { frames := F, cells := c, slots := s, locals := L }) (h1 : x ≤ s) : x ≤ (xR X).slots := by rw [hX]; exact h1
end LAWROWS3
