/-- HillBoxes$Rules.ofTwo(III)I -/
noncomputable def f_X6_ofTwo (a0 : Int32) (a1 : Int32) (a2 : Int32) (h : AH) : Option (Int32 × AH) :=
  if a0 = -30 then
    jn (fun (x1 : Int32) =>
      some (x1, h)) fun j152 =>
    if a2 = 0 then
      j152 (0 : Int32)
    else
      nz a2 <|
      j152 (a1 - a1 / a2 * a2)
  else
  if a0 = -29 then
    jn (fun (x2 : Int32) =>
      some (x2, h)) fun j140 =>
    if a2 = 0 then
      j140 (0 : Int32)
    else
      nz a2 <|
      j140 (a1 / a2)
  else
  if a0 = -28 then
    some ((a1 * a2), h)
  else
  if a0 = -27 then
    some ((a1 - a2), h)
  else
  if a0 = -26 then
    some ((a1 + a2), h)
  else
  if a0 = -25 then
    jn (fun (x3 : Int32) =>
      some (x3, h)) fun j116 =>
    if a1 ≤ a2 then
      j116 (0 : Int32)
    else
      j116 (1 : Int32)
  else
  if a0 = -24 then
    jn (fun (x4 : Int32) =>
      some (x4, h)) fun j105 =>
    if a1 = a2 then
      j105 (1 : Int32)
    else
      j105 (0 : Int32)
  else
  if a0 = -23 then
    jn (fun (x5 : Int32) =>
      some (x5, h)) fun j94 =>
    if a2 ≤ a1 then
      j94 (0 : Int32)
    else
      j94 (1 : Int32)
  else
  if a0 = -22 then
    jn (fun (x6 : Int32) =>
      some (x6, h)) fun j83 =>
    jn (
      j83 (0 : Int32)) fun j82 =>
    if a1 = 0 then
      j82
    else
      if a2 = 0 then
        j82
      else
        j83 (1 : Int32)
  else
  if a0 = -21 then
    jn (fun (x7 : Int32) =>
      some (x7, h)) fun j69 =>
    jn (
      j69 (1 : Int32)) fun j64 =>
    if a1 = 0 then
      if a2 = 0 then
        j69 (0 : Int32)
      else
        j64
    else
      j64
  else
    some ((0 : Int32), h)
set_option maxRecDepth 100000 in
set_option maxHeartbeats 4000000 in
theorem c_X6_ofTwo (l : Launch) (D : DT) (a0 : Int32) (a1 : Int32) (a2 : Int32) (h : AH) (r : Int32 × AH) (hf : f_X6_ofTwo a0 a1 a2 h = some r) : CM l D yX6_ofTwo cX6_ofTwo 3 (some .int) 0 0 0 0 [.inl a0, .inl a1, .inl a2] h (some (.int r.1)) r.2 := by
  refine CM.of (by decide) (Nat.le_of_ble_eq_true rfl) (fun X hl C hD hX hnm E => ?_)
  subst hl
  subst hD
  have C : CX X RX6 cX6_ofTwo 3 := C
  show WW X h 0 0 0 [some (.int a0), some (.int a1), some (.int a2)] []
  unfold f_X6_ofTwo at hf
  refine s_iload_n C dX6_ofTwo_0 rfl ?_
  refine s_ite hf (fun e hf => ?_) (fun n0 hf => ?_)
  · refine s_tsw1 (tgt := 141) C dX6_ofTwo_1 e (by decide) (by decide) rfl (by decide) ?_
    refine s_iload_n C dX6_ofTwo_141 rfl ?_
    refine s_jn hf (fun j152 e152 hf => ?_)
    have k152 : ∀ (x1 : Int32), j152 x1 = some r → WW X h 0 0 152 [none, none, none] [.int x1] := by
      intro x1 hf
      rw [e152] at hf
      exact s_ireturn C E dX6_ofTwo_152 hf (Nat.le_of_ble_eq_true rfl) (Nat.le_of_ble_eq_true rfl)
    refine s_if_ne (tgt := 149) C dX6_ofTwo_142 (by decide) hf (fun hf => ?_) (fun hf => ?_)
    · refine s_iload_n C dX6_ofTwo_149 rfl ?_
      refine s_iload_n C dX6_ofTwo_150 rfl ?_
      refine s_irem C dX6_ofTwo_151 hf (fun hf => ?_)
      refine s_weak (lv' := [none, none, none]) trivial ?_
      exact k152 _ hf
    · refine s_iconst C dX6_ofTwo_145 (v := (0 : Int32)) (by decide) ?_
      refine s_goto (tgt := 152) C dX6_ofTwo_146 (by decide) ?_
      refine s_weak (lv' := [none, none, none]) trivial ?_
      exact k152 _ hf
  refine s_ite hf (fun e hf => ?_) (fun n1 hf => ?_)
  · refine s_tsw1 (tgt := 129) C dX6_ofTwo_1 e (by decide) (by decide) rfl (by decide) ?_
    refine s_iload_n C dX6_ofTwo_129 rfl ?_
    refine s_jn hf (fun j140 e140 hf => ?_)
    have k140 : ∀ (x2 : Int32), j140 x2 = some r → WW X h 0 0 140 [none, none, none] [.int x2] := by
      intro x2 hf
      rw [e140] at hf
      exact s_ireturn C E dX6_ofTwo_140 hf (Nat.le_of_ble_eq_true rfl) (Nat.le_of_ble_eq_true rfl)
    refine s_if_ne (tgt := 137) C dX6_ofTwo_130 (by decide) hf (fun hf => ?_) (fun hf => ?_)
    · refine s_iload_n C dX6_ofTwo_137 rfl ?_
      refine s_iload_n C dX6_ofTwo_138 rfl ?_
      refine s_idiv C dX6_ofTwo_139 hf (fun hf => ?_)
      refine s_weak (lv' := [none, none, none]) trivial ?_
      exact k140 _ hf
    · refine s_iconst C dX6_ofTwo_133 (v := (0 : Int32)) (by decide) ?_
      refine s_goto (tgt := 140) C dX6_ofTwo_134 (by decide) ?_
      refine s_weak (lv' := [none, none, none]) trivial ?_
      exact k140 _ hf
  refine s_ite hf (fun e hf => ?_) (fun n2 hf => ?_)
  · refine s_tsw1 (tgt := 125) C dX6_ofTwo_1 e (by decide) (by decide) rfl (by decide) ?_
    refine s_iload_n C dX6_ofTwo_125 rfl ?_
    refine s_iload_n C dX6_ofTwo_126 rfl ?_
    refine s_imul C dX6_ofTwo_127 ?_
    exact s_ireturn C E dX6_ofTwo_128 hf (Nat.le_of_ble_eq_true rfl) (Nat.le_of_ble_eq_true rfl)
  refine s_ite hf (fun e hf => ?_) (fun n3 hf => ?_)
  · refine s_tsw1 (tgt := 121) C dX6_ofTwo_1 e (by decide) (by decide) rfl (by decide) ?_
    refine s_iload_n C dX6_ofTwo_121 rfl ?_
    refine s_iload_n C dX6_ofTwo_122 rfl ?_
    refine s_isub C dX6_ofTwo_123 ?_
    exact s_ireturn C E dX6_ofTwo_124 hf (Nat.le_of_ble_eq_true rfl) (Nat.le_of_ble_eq_true rfl)
  refine s_ite hf (fun e hf => ?_) (fun n4 hf => ?_)
  · refine s_tsw1 (tgt := 117) C dX6_ofTwo_1 e (by decide) (by decide) rfl (by decide) ?_
    refine s_iload_n C dX6_ofTwo_117 rfl ?_
    refine s_iload_n C dX6_ofTwo_118 rfl ?_
    refine s_iadd C dX6_ofTwo_119 ?_
    exact s_ireturn C E dX6_ofTwo_120 hf (Nat.le_of_ble_eq_true rfl) (Nat.le_of_ble_eq_true rfl)
  refine s_ite hf (fun e hf => ?_) (fun n5 hf => ?_)
  · refine s_tsw1 (tgt := 106) C dX6_ofTwo_1 e (by decide) (by decide) rfl (by decide) ?_
    refine s_iload_n C dX6_ofTwo_106 rfl ?_
    refine s_iload_n C dX6_ofTwo_107 rfl ?_
    refine s_jn hf (fun j116 e116 hf => ?_)
    have k116 : ∀ (x3 : Int32), j116 x3 = some r → WW X h 0 0 116 [none, none, none] [.int x3] := by
      intro x3 hf
      rw [e116] at hf
      exact s_ireturn C E dX6_ofTwo_116 hf (Nat.le_of_ble_eq_true rfl) (Nat.le_of_ble_eq_true rfl)
    refine s_icmp_le (tgt := 115) C dX6_ofTwo_108 (by decide) hf (fun hf => ?_) (fun hf => ?_)
    · refine s_iconst C dX6_ofTwo_115 (v := (0 : Int32)) (by decide) ?_
      refine s_weak (lv' := [none, none, none]) trivial ?_
      exact k116 _ hf
    · refine s_iconst C dX6_ofTwo_111 (v := (1 : Int32)) (by decide) ?_
      refine s_goto (tgt := 116) C dX6_ofTwo_112 (by decide) ?_
      refine s_weak (lv' := [none, none, none]) trivial ?_
      exact k116 _ hf
  refine s_ite hf (fun e hf => ?_) (fun n6 hf => ?_)
  · refine s_tsw1 (tgt := 95) C dX6_ofTwo_1 e (by decide) (by decide) rfl (by decide) ?_
    refine s_iload_n C dX6_ofTwo_95 rfl ?_
    refine s_iload_n C dX6_ofTwo_96 rfl ?_
    refine s_jn hf (fun j105 e105 hf => ?_)
    have k105 : ∀ (x4 : Int32), j105 x4 = some r → WW X h 0 0 105 [none, none, none] [.int x4] := by
      intro x4 hf
      rw [e105] at hf
      exact s_ireturn C E dX6_ofTwo_105 hf (Nat.le_of_ble_eq_true rfl) (Nat.le_of_ble_eq_true rfl)
    refine s_icmp_ne (tgt := 104) C dX6_ofTwo_97 (by decide) hf (fun hf => ?_) (fun hf => ?_)
    · refine s_iconst C dX6_ofTwo_104 (v := (0 : Int32)) (by decide) ?_
      refine s_weak (lv' := [none, none, none]) trivial ?_
      exact k105 _ hf
    · refine s_iconst C dX6_ofTwo_100 (v := (1 : Int32)) (by decide) ?_
      refine s_goto (tgt := 105) C dX6_ofTwo_101 (by decide) ?_
      refine s_weak (lv' := [none, none, none]) trivial ?_
      exact k105 _ hf
  refine s_ite hf (fun e hf => ?_) (fun n7 hf => ?_)
  · refine s_tsw1 (tgt := 84) C dX6_ofTwo_1 e (by decide) (by decide) rfl (by decide) ?_
    refine s_iload_n C dX6_ofTwo_84 rfl ?_
    refine s_iload_n C dX6_ofTwo_85 rfl ?_
    refine s_jn hf (fun j94 e94 hf => ?_)
    have k94 : ∀ (x5 : Int32), j94 x5 = some r → WW X h 0 0 94 [none, none, none] [.int x5] := by
      intro x5 hf
      rw [e94] at hf
      exact s_ireturn C E dX6_ofTwo_94 hf (Nat.le_of_ble_eq_true rfl) (Nat.le_of_ble_eq_true rfl)
    refine s_icmp_ge (tgt := 93) C dX6_ofTwo_86 (by decide) hf (fun hf => ?_) (fun hf => ?_)
    · refine s_iconst C dX6_ofTwo_93 (v := (0 : Int32)) (by decide) ?_
      refine s_weak (lv' := [none, none, none]) trivial ?_
      exact k94 _ hf
    · refine s_iconst C dX6_ofTwo_89 (v := (1 : Int32)) (by decide) ?_
      refine s_goto (tgt := 94) C dX6_ofTwo_90 (by decide) ?_
      refine s_weak (lv' := [none, none, none]) trivial ?_
      exact k94 _ hf
  refine s_ite hf (fun e hf => ?_) (fun n8 hf => ?_)
  · refine s_tsw1 (tgt := 70) C dX6_ofTwo_1 e (by decide) (by decide) rfl (by decide) ?_
    refine s_iload_n C dX6_ofTwo_70 rfl ?_
    refine s_jn hf (fun j83 e83 hf => ?_)
    have k83 : ∀ (x6 : Int32), j83 x6 = some r → WW X h 0 0 83 [none, none, none] [.int x6] := by
      intro x6 hf
      rw [e83] at hf
      exact s_ireturn C E dX6_ofTwo_83 hf (Nat.le_of_ble_eq_true rfl) (Nat.le_of_ble_eq_true rfl)
    refine s_jn hf (fun j82 e82 hf => ?_)
    have k82 : j82  = some r → WW X h 0 0 82 [none, none, none] [] := by
      intro  hf
      rw [e82] at hf
      refine s_iconst C dX6_ofTwo_82 (v := (0 : Int32)) (by decide) ?_
      exact k83 _ hf
    refine s_if_eq (tgt := 82) C dX6_ofTwo_71 (by decide) hf (fun hf => ?_) (fun hf => ?_)
    · refine s_weak (lv' := [none, none, none]) trivial ?_
      exact k82 hf
    · refine s_iload_n C dX6_ofTwo_74 rfl ?_
      refine s_if_eq (tgt := 82) C dX6_ofTwo_75 (by decide) hf (fun hf => ?_) (fun hf => ?_)
      · refine s_weak (lv' := [none, none, none]) trivial ?_
        exact k82 hf
      · refine s_iconst C dX6_ofTwo_78 (v := (1 : Int32)) (by decide) ?_
        refine s_goto (tgt := 83) C dX6_ofTwo_79 (by decide) ?_
        refine s_weak (lv' := [none, none, none]) trivial ?_
        exact k83 _ hf
  refine s_ite hf (fun e hf => ?_) (fun n9 hf => ?_)
  · refine s_tsw1 (tgt := 56) C dX6_ofTwo_1 e (by decide) (by decide) rfl (by decide) ?_
    refine s_iload_n C dX6_ofTwo_56 rfl ?_
    refine s_jn hf (fun j69 e69 hf => ?_)
    have k69 : ∀ (x7 : Int32), j69 x7 = some r → WW X h 0 0 69 [none, none, none] [.int x7] := by
      intro x7 hf
      rw [e69] at hf
      exact s_ireturn C E dX6_ofTwo_69 hf (Nat.le_of_ble_eq_true rfl) (Nat.le_of_ble_eq_true rfl)
    refine s_jn hf (fun j64 e64 hf => ?_)
    have k64 : j64  = some r → WW X h 0 0 64 [none, none, none] [] := by
      intro  hf
      rw [e64] at hf
      refine s_iconst C dX6_ofTwo_64 (v := (1 : Int32)) (by decide) ?_
      refine s_goto (tgt := 69) C dX6_ofTwo_65 (by decide) ?_
      exact k69 _ hf
    refine s_if_ne (tgt := 64) C dX6_ofTwo_57 (by decide) hf (fun hf => ?_) (fun hf => ?_)
    · refine s_weak (lv' := [none, none, none]) trivial ?_
      exact k64 hf
    · refine s_iload_n C dX6_ofTwo_60 rfl ?_
      refine s_if_eq (tgt := 68) C dX6_ofTwo_61 (by decide) hf (fun hf => ?_) (fun hf => ?_)
      · refine s_iconst C dX6_ofTwo_68 (v := (0 : Int32)) (by decide) ?_
        refine s_weak (lv' := [none, none, none]) trivial ?_
        exact k69 _ hf
      · refine s_weak (lv' := [none, none, none]) trivial ?_
        exact k64 hf
  refine s_tswD (tgt := 153) C dX6_ofTwo_1 (by have n0x := n32 (i := -30) n0 rfl; have n1x := n32 (i := -29) n1 rfl; have n2x := n32 (i := -28) n2 rfl; have n3x := n32 (i := -27) n3 rfl; have n4x := n32 (i := -26) n4 rfl; have n5x := n32 (i := -25) n5 rfl; have n6x := n32 (i := -24) n6 rfl; have n7x := n32 (i := -23) n7 rfl; have n8x := n32 (i := -22) n8 rfl; have n9x := n32 (i := -21) n9 rfl; omega) (by decide) ?_
  refine s_iconst C dX6_ofTwo_153 (v := (0 : Int32)) (by decide) ?_
  exact s_ireturn C E dX6_ofTwo_154 hf (Nat.le_of_ble_eq_true rfl) (Nat.le_of_ble_eq_true rfl)
/-- HillBoxes$Rules.push(II)I -/
noncomputable def f_X6_push (o : Option Nat) (a1 : Int32) (a2 : Int32) (h : AH) : Option (Int32 × AH) :=
  jn (fun (h1 : AH) =>
    some ((a1 + (1 : Int32)), h1)) fun j17 =>
  if a1 < 0 then
    j17 h
  else
    if (64 : Int32) ≤ a1 then
      j17 h
    else
      fR h [6] o 9 fun v2 =>
      bI h 20 v2 a1 a2 fun h3 =>
      j17 h3
set_option maxRecDepth 100000 in
set_option maxHeartbeats 4000000 in
theorem c_X6_push (l : Launch) (D : DT) (o : Option Nat) (a1 : Int32) (a2 : Int32) (h : AH) (r : Int32 × AH) (hf : f_X6_push o a1 a2 h = some r) : CM l D yX6_push cX6_push 3 (some .int) 0 0 0 0 [.inr (.inr o), .inl a1, .inl a2] h (some (.int r.1)) r.2 := by
  refine CM.of (by decide) (Nat.le_of_ble_eq_true rfl) (fun X hl C hD hX hnm E => ?_)
  subst hl
  subst hD
  have C : CX X RX6 cX6_push 3 := C
  show WW X h 0 0 0 [some (rB (xD X).1 o), some (.int a1), some (.int a2)] []
  unfold f_X6_push at hf
  refine s_iload_n C dX6_push_0 rfl ?_
  refine s_jn hf (fun j17 e17 hf => ?_)
  have k17 : ∀ (h1 : AH), j17 h1 = some r → WW X h1 0 0 17 [none, some (.int a1), none] [] := by
    intro h1 hf
    rw [e17] at hf
    refine s_iload_n C dX6_push_17 rfl ?_
    refine s_iconst C dX6_push_18 (v := (1 : Int32)) (by decide) ?_
    refine s_iadd C dX6_push_19 ?_
    exact s_ireturn C E dX6_push_20 hf (Nat.le_of_ble_eq_true rfl) (Nat.le_of_ble_eq_true rfl)
  refine s_if_lt (tgt := 17) C dX6_push_1 (by decide) hf (fun hf => ?_) (fun hf => ?_)
  · refine s_weak (lv' := [none, some (.int a1), none]) ⟨rfl, trivial⟩ ?_
    exact k17 _ hf
  · refine s_iload_n C dX6_push_4 rfl ?_
    refine s_bipush C dX6_push_5 (v := (64 : Int32)) (by decide) ?_
    refine s_icmp_ge (tgt := 17) C dX6_push_7 (by decide) hf (fun hf => ?_) (fun hf => ?_)
    · refine s_weak (lv' := [none, some (.int a1), none]) ⟨rfl, trivial⟩ ?_
      exact k17 _ hf
    · refine s_aload_n C dX6_push_10 rfl ?_
      refine s_getR C fl_X6_38 dX6_push_11 hf (fun v2 hf => ?_)
      refine s_iload_n C dX6_push_14 rfl ?_
      refine s_iload_n C dX6_push_15 rfl ?_
      refine s_iastore C dX6_push_16 hf (fun h3 hf => ?_)
      refine s_weak (lv' := [none, some (.int a1), none]) ⟨rfl, trivial⟩ ?_
      exact k17 _ hf
/-- HillBoxes$Rules.read(I)I -/
noncomputable def f_X6_read (o : Option Nat) (a1 : Int32) (h : AH) : Option (Int32 × AH) :=
  jn (fun (x1 : Int32) =>
    some (x1, h)) fun j20 =>
  jn (
    j20 (0 : Int32)) fun j10 =>
  if a1 < 0 then
    j10
  else
    if a1 < (64 : Int32) then
      fR h [6] o 9 fun v2 =>
      aI h 20 v2 a1 fun v3 =>
      j20 v3
    else
      j10
set_option maxRecDepth 100000 in
set_option maxHeartbeats 4000000 in
theorem c_X6_read (l : Launch) (D : DT) (o : Option Nat) (a1 : Int32) (h : AH) (r : Int32 × AH) (hf : f_X6_read o a1 h = some r) : CM l D yX6_read cX6_read 2 (some .int) 0 0 0 0 [.inr (.inr o), .inl a1] h (some (.int r.1)) r.2 := by
  refine CM.of (by decide) (Nat.le_of_ble_eq_true rfl) (fun X hl C hD hX hnm E => ?_)
  subst hl
  subst hD
  have C : CX X RX6 cX6_read 2 := C
  show WW X h 0 0 0 [some (rB (xD X).1 o), some (.int a1)] []
  unfold f_X6_read at hf
  refine s_iload_n C dX6_read_0 rfl ?_
  refine s_jn hf (fun j20 e20 hf => ?_)
  have k20 : ∀ (x1 : Int32), j20 x1 = some r → WW X h 0 0 20 [none, none] [.int x1] := by
    intro x1 hf
    rw [e20] at hf
    exact s_ireturn C E dX6_read_20 hf (Nat.le_of_ble_eq_true rfl) (Nat.le_of_ble_eq_true rfl)
  refine s_jn hf (fun j10 e10 hf => ?_)
  have k10 : j10  = some r → WW X h 0 0 10 [none, none] [] := by
    intro  hf
    rw [e10] at hf
    refine s_iconst C dX6_read_10 (v := (0 : Int32)) (by decide) ?_
    refine s_goto (tgt := 20) C dX6_read_11 (by decide) ?_
    exact k20 _ hf
  refine s_if_lt (tgt := 10) C dX6_read_1 (by decide) hf (fun hf => ?_) (fun hf => ?_)
  · refine s_weak (lv' := [none, none]) trivial ?_
    exact k10 hf
  · refine s_iload_n C dX6_read_4 rfl ?_
    refine s_bipush C dX6_read_5 (v := (64 : Int32)) (by decide) ?_
    refine s_icmp_lt (tgt := 14) C dX6_read_7 (by decide) hf (fun hf => ?_) (fun hf => ?_)
    · refine s_aload_n C dX6_read_14 rfl ?_
      refine s_getR C fl_X6_38 dX6_read_15 hf (fun v2 hf => ?_)
      refine s_iload_n C dX6_read_18 rfl ?_
      refine s_iaload C dX6_read_19 hf (fun v3 hf => ?_)
      refine s_weak (lv' := [none, none]) trivial ?_
      exact k20 _ hf
    · refine s_weak (lv' := [none, none]) trivial ?_
      exact k10 hf
/-- HillBoxes$Rules.work(I)I -/
noncomputable def f_X6_work (o : Option Nat) (a1 : Int32) (h : AH) : Option (Int32 × AH) :=
  pI h [6] o 2 (-1 : Int32) fun h1 =>
  jn (
    some ((0 : Int32), h1)) fun j17 =>
  if a1 < 0 then
    j17
  else
    fI h1 [6] o 1 fun v2 =>
    if a1 < v2 then
      fR h1 [6] o 8 fun v3 =>
      aI h1 20 v3 a1 fun v4 =>
      lp (fun _ _ _ _ _ => none) (fun (L46 : Int32 → Int32 → Int32 → Int32 → AH → Option (Int32 × AH)) (x5 : Int32) (x6 : Int32) (x7 : Int32) (x8 : Int32) (h9 : AH) =>
        jn (
          some ((0 : Int32), h9)) fun j299 =>
        if ((a1 * (161 : Int32)) + v4) ≤ x8 then
          j299
        else
          fR h9 [6] o 7 fun v10 =>
          aN h9 20 v10 fun v11 =>
          if v11 ≤ x8 then
            j299
          else
            fR h9 [6] o 7 fun v12 =>
            aI h9 20 v12 x8 fun v13 =>
            jn (fun (x14 : Int32) (x15 : Int32) (x16 : Int32) (h17 : AH) =>
              L46 x14 x15 x16 (x8 + 1) h17) fun j293 =>
            if v13 ≤ (-20 : Int32) then
              jn (
                jn (fun (x18 : Int32) (h19 : AH) =>
                  rO h19 [6] o <| cl (f_X6_push o (x5 - (1 : Int32)) x18 h19) fun v21 h20 =>
                  j293 v21 x6 x7 h20) fun j161 =>
                if v13 = (-31 : Int32) then
                  rO h9 [6] o <| cl (f_X6_read o (x5 - (1 : Int32)) h9) fun v25 h24 =>
                  j161 (-v25) h24
                else
                  rO h9 [6] o <| cl (f_X6_read o (x5 - (1 : Int32)) h9) fun v23 h22 =>
                  if v23 = 0 then
                    j161 (1 : Int32) h22
                  else
                    j161 (0 : Int32) h22) fun j121 =>
              if v13 = (-31 : Int32) then
                j121
              else
                if v13 = (-32 : Int32) then
                  j121
                else
                  jn (
                    rO h9 [6] o <| cl (f_X6_read o (x5 + (-1)) h9) fun v27 h26 =>
                    jn (fun (x28 : Int32) =>
                      jn (fun (x29 : Int32) =>
                        jn (fun (x30 : Int32) =>
                          j293 (x5 + (-1)) x6 x30 h26) fun j220 =>
                        if x28 = x29 then
                          j220 (1 : Int32)
                        else
                          j220 (0 : Int32)) fun j212 =>
                      if v13 = (-33 : Int32) then
                        j212 (1 : Int32)
                      else
                        j212 (0 : Int32)) fun j200 =>
                    if v27 = 0 then
                      j200 (0 : Int32)
                    else
                      j200 (1 : Int32)) fun j183 =>
                  if v13 = (-33 : Int32) then
                    j183
                  else
                    if v13 = (-34 : Int32) then
                      j183
                    else
                      if v13 = (-35 : Int32) then
                        if x7 = 0 then
                          j293 (x5 + (-1)) (x6 + 1) (1 : Int32) h9
                        else
                          pI h9 [6] o 2 x6 fun h39 =>
                          rO h39 [6] o <| cl (f_X6_read o (x5 + (-1)) h39) fun v41 h40 =>
                          some (v41, h40)
                      else
                        rO h9 [6] o <| cl (f_X6_read o (x5 - (2 : Int32)) h9) fun v32 h31 =>
                        rO h31 [6] o <| cl (f_X6_read o (x5 - (1 : Int32)) h31) fun v34 h33 =>
                        cl (f_X6_ofTwo v13 v32 v34 h33) fun v36 h35 =>
                        rO h35 [6] o <| cl (f_X6_push o (x5 - (2 : Int32)) v36 h35) fun v38 h37 =>
                        j293 v38 x6 x7 h37
            else
              jn (fun (x42 : Int32) (h43 : AH) =>
                rO h43 [6] o <| cl (f_X6_push o x5 x42 h43) fun v45 h44 =>
                j293 v45 x6 x7 h44) fun j99 =>
              if v13 < 0 then
                rO h9 [6] o <| cl (f_X6_numberOf o ((-1 : Int32) - v13) h9) fun v47 h46 =>
                j99 v47 h46
              else
                j99 v13 h9) lpN (0 : Int32) (0 : Int32) (1 : Int32) (a1 * (161 : Int32)) h1
    else
      j17
set_option maxRecDepth 100000 in
set_option maxHeartbeats 4000000 in
theorem c_X6_work (l : Launch) (D : DT) (o : Option Nat) (a1 : Int32) (h : AH) (r : Int32 × AH) (hf : f_X6_work o a1 h = some r) : CM l D yX6_work cX6_work 9 (some .int) 3 69 0 0 [.inr (.inr o), .inl a1] h (some (.int r.1)) r.2 := by
  refine CM.of (by decide) (Nat.le_of_ble_eq_true rfl) (fun X hl C hD hX hnm E => ?_)
  subst hl
  subst hD
  have C : CX X RX6 cX6_work 9 := C
  show WW X h 0 0 0 [some (rB (xD X).1 o), some (.int a1), none, none, none, none, none, none, none] []
  unfold f_X6_work at hf
  refine s_aload_n C dX6_work_0 rfl ?_
  refine s_iconst C dX6_work_1 (v := (-1 : Int32)) (by decide) ?_
  refine s_putI C fl_X6_18 (by decide) dX6_work_2 hf (fun h1 hf => ?_)
  refine s_iload_n C dX6_work_5 rfl ?_
  refine s_jn hf (fun j17 e17 hf => ?_)
  have k17 : j17  = some r → WW X h1 0 0 17 [none, none, none, none, none, none, none, none, none] [] := by
    intro  hf
    rw [e17] at hf
    refine s_iconst C dX6_work_17 (v := (0 : Int32)) (by decide) ?_
    exact s_ireturn C E dX6_work_18 hf (Nat.le_of_ble_eq_true rfl) (Nat.le_of_ble_eq_true rfl)
  refine s_if_lt (tgt := 17) C dX6_work_6 (by decide) hf (fun hf => ?_) (fun hf => ?_)
  · refine s_weak (lv' := [none, none, none, none, none, none, none, none, none]) trivial ?_
    exact k17 hf
  · refine s_iload_n C dX6_work_9 rfl ?_
    refine s_aload_n C dX6_work_10 rfl ?_
    refine s_getI C fl_X6_45 dX6_work_11 hf (fun v2 hf => ?_)
    refine s_icmp_lt (tgt := 19) C dX6_work_14 (by decide) hf (fun hf => ?_) (fun hf => ?_)
    · refine s_iload_n C dX6_work_19 rfl ?_
      refine s_sipush C dX6_work_20 (v := (161 : Int32)) (by decide) ?_
      refine s_imul C dX6_work_23 ?_
      refine s_istore_n C dX6_work_24 (by decide) (nc_i rfl) (lv' := [some (rB (xD X).1 o), some (.int a1), some (.int (a1 * (161 : Int32))), none, none, none, none, none, none]) rfl ?_
      refine s_iload_n C dX6_work_25 rfl ?_
      refine s_aload_n C dX6_work_26 rfl ?_
      refine s_getR C fl_X6_35 dX6_work_27 hf (fun v3 hf => ?_)
      refine s_iload_n C dX6_work_30 rfl ?_
      refine s_iaload C dX6_work_31 hf (fun v4 hf => ?_)
      refine s_iadd C dX6_work_32 ?_
      refine s_istore_n C dX6_work_33 (by decide) (nc_i rfl) (lv' := [some (rB (xD X).1 o), some (.int a1), some (.int (a1 * (161 : Int32))), some (.int ((a1 * (161 : Int32)) + v4)), none, none, none, none, none]) rfl ?_
      refine s_iconst C dX6_work_34 (v := (0 : Int32)) (by decide) ?_
      refine s_istore C dX6_work_35 (by decide) (nc_i rfl) (lv' := [some (rB (xD X).1 o), some (.int a1), some (.int (a1 * (161 : Int32))), some (.int ((a1 * (161 : Int32)) + v4)), some (.int (0 : Int32)), none, none, none, none]) rfl ?_
      refine s_iconst C dX6_work_37 (v := (0 : Int32)) (by decide) ?_
      refine s_istore C dX6_work_38 (by decide) (nc_i rfl) (lv' := [some (rB (xD X).1 o), some (.int a1), some (.int (a1 * (161 : Int32))), some (.int ((a1 * (161 : Int32)) + v4)), some (.int (0 : Int32)), some (.int (0 : Int32)), none, none, none]) rfl ?_
      refine s_iconst C dX6_work_40 (v := (1 : Int32)) (by decide) ?_
      refine s_istore C dX6_work_41 (by decide) (nc_i rfl) (lv' := [some (rB (xD X).1 o), some (.int a1), some (.int (a1 * (161 : Int32))), some (.int ((a1 * (161 : Int32)) + v4)), some (.int (0 : Int32)), some (.int (0 : Int32)), some (.int (1 : Int32)), none, none]) rfl ?_
      refine s_iload_n C dX6_work_43 rfl ?_
      refine s_istore C dX6_work_44 (by decide) (nc_i rfl) (lv' := [some (rB (xD X).1 o), some (.int a1), some (.int (a1 * (161 : Int32))), some (.int ((a1 * (161 : Int32)) + v4)), some (.int (0 : Int32)), some (.int (0 : Int32)), some (.int (1 : Int32)), some (.int (a1 * (161 : Int32))), none]) rfl ?_
      refine s_lp5 hf (fun G46 z46 q46 hf => ?_)
      have k46 : ∀ (n : Nat) (x5 : Int32) (x6 : Int32) (x7 : Int32) (x8 : Int32) (h9 : AH), G46 n x5 x6 x7 x8 h9 = some r → WW X h9 0 0 46 [some (rB (xD X).1 o), none, none, some (.int ((a1 * (161 : Int32)) + v4)), some (.int x5), some (.int x6), some (.int x7), some (.int x8), none] [] := by
        intro n
        induction n with
        | zero =>
          intro x5 x6 x7 x8 h9 hf
          rw [z46] at hf
          cases hf
        | succ n ih46 =>
          intro x5 x6 x7 x8 h9 hf
          have hf := (q46 n x5 x6 x7 x8 h9).symm.trans hf
          refine s_iload C dX6_work_46 rfl ?_
          refine s_iload_n C dX6_work_48 rfl ?_
          refine s_jn hf (fun j299 e299 hf => ?_)
          have k299 : j299  = some r → WW X h9 0 0 299 [none, none, none, none, none, none, none, none, none] [] := by
            intro  hf
            rw [e299] at hf
            refine s_iconst C dX6_work_299 (v := (0 : Int32)) (by decide) ?_
            exact s_ireturn C E dX6_work_300 hf (Nat.le_of_ble_eq_true rfl) (Nat.le_of_ble_eq_true rfl)
          refine s_icmp_ge (tgt := 299) C dX6_work_49 (by decide) hf (fun hf => ?_) (fun hf => ?_)
          · refine s_weak (lv' := [none, none, none, none, none, none, none, none, none]) trivial ?_
            exact k299 hf
          · refine s_iload C dX6_work_52 rfl ?_
            refine s_aload_n C dX6_work_54 rfl ?_
            refine s_getR C fl_X6_32 dX6_work_55 hf (fun v10 hf => ?_)
            refine s_alen C dX6_work_58 (t := 20) (by decide) hf (fun v11 hf => ?_)
            refine s_icmp_ge (tgt := 299) C dX6_work_59 (by decide) hf (fun hf => ?_) (fun hf => ?_)
            · refine s_weak (lv' := [none, none, none, none, none, none, none, none, none]) trivial ?_
              exact k299 hf
            · refine s_aload_n C dX6_work_62 rfl ?_
              refine s_getR C fl_X6_32 dX6_work_63 hf (fun v12 hf => ?_)
              refine s_iload C dX6_work_66 rfl ?_
              refine s_iaload C dX6_work_68 hf (fun v13 hf => ?_)
              refine s_istore C dX6_work_69 (by decide) (nc_i rfl) (lv' := [some (rB (xD X).1 o), none, none, some (.int ((a1 * (161 : Int32)) + v4)), some (.int x5), some (.int x6), some (.int x7), some (.int x8), some (.int v13)]) rfl ?_
              refine s_iload C dX6_work_71 rfl ?_
              refine s_bipush C dX6_work_73 (v := (-20 : Int32)) (by decide) ?_
              refine s_jn hf (fun j293 e293 hf => ?_)
              have k293 : ∀ (x14 : Int32) (x15 : Int32) (x16 : Int32) (h17 : AH), j293 x14 x15 x16 h17 = some r → WW X h17 0 0 293 [some (rB (xD X).1 o), none, none, some (.int ((a1 * (161 : Int32)) + v4)), some (.int x14), some (.int x15), some (.int x16), some (.int x8), none] [] := by
                intro x14 x15 x16 h17 hf
                rw [e293] at hf
                refine s_iinc C dX6_work_293 (v := (x8 + 1)) rfl rfl (by decide) (nc_i rfl) (lv' := [some (rB (xD X).1 o), none, none, some (.int ((a1 * (161 : Int32)) + v4)), some (.int x14), some (.int x15), some (.int x16), some (.int (x8 + 1)), none]) rfl ?_
                refine s_goto (tgt := 46) C dX6_work_296 (by decide) ?_
                exact ih46 _ _ _ _ _ hf
              refine s_icmp_le (tgt := 107) C dX6_work_75 (by decide) hf (fun hf => ?_) (fun hf => ?_)
              · refine s_iload C dX6_work_107 rfl ?_
                refine s_bipush C dX6_work_109 (v := (-31 : Int32)) (by decide) ?_
                refine s_jn hf (fun j121 e121 hf => ?_)
                have k121 : j121  = some r → WW X h9 0 0 121 [some (rB (xD X).1 o), none, none, some (.int ((a1 * (161 : Int32)) + v4)), some (.int x5), some (.int x6), some (.int x7), some (.int x8), some (.int v13)] [] := by
                  intro  hf
                  rw [e121] at hf
                  refine s_aload_n C dX6_work_121 rfl ?_
                  refine s_iload C dX6_work_122 rfl ?_
                  refine s_iconst C dX6_work_124 (v := (1 : Int32)) (by decide) ?_
                  refine s_isub C dX6_work_125 ?_
                  refine s_iload C dX6_work_126 rfl ?_
                  refine s_bipush C dX6_work_128 (v := (-31 : Int32)) (by decide) ?_
                  refine s_jn hf (fun j161 e161 hf => ?_)
                  have k161 : ∀ (x18 : Int32) (h19 : AH), j161 x18 h19 = some r → WW X h19 0 0 161 [some (rB (xD X).1 o), none, none, some (.int ((a1 * (161 : Int32)) + v4)), none, some (.int x6), some (.int x7), some (.int x8), none] [.int x18, .int (x5 - (1 : Int32)), rB (xD X).1 o] := by
                    intro x18 h19 hf
                    rw [e161] at hf
                    refine s_callV (rvf := fun x => some (.int x)) (st := []) (fr := 0) (lo := 0) (mc := 0) (ms := 0) C [6] wc_X6_push wml_X6_177 wim_X6_push wsl_6_X6_push dX6_work_161 (As := [.inl (x5 - (1 : Int32)), .inl x18]) rfl hf (fun x h' hF => c_X6_push _ _ _ _ _ _ (x, h') hF) rfl (Nat.le_of_ble_eq_true rfl) (room_ok hX (Nat.le_of_ble_eq_true rfl) (Nat.le_of_ble_eq_true rfl)) (cell_ok hX (Nat.le_of_ble_eq_true rfl) (Nat.le_of_ble_eq_true rfl)) (fun v21 h20 hf => ?_)
                    refine s_istore C dX6_work_164 (by decide) (nc_i rfl) (lv' := [some (rB (xD X).1 o), none, none, some (.int ((a1 * (161 : Int32)) + v4)), some (.int v21), some (.int x6), some (.int x7), some (.int x8), none]) rfl ?_
                    refine s_goto (tgt := 293) C dX6_work_166 (by decide) ?_
                    exact k293 _ _ _ _ hf
                  refine s_icmp_ne (tgt := 145) C dX6_work_130 (by decide) hf (fun hf => ?_) (fun hf => ?_)
                  · refine s_aload_n C dX6_work_145 rfl ?_
                    refine s_iload C dX6_work_146 rfl ?_
                    refine s_iconst C dX6_work_148 (v := (1 : Int32)) (by decide) ?_
                    refine s_isub C dX6_work_149 ?_
                    refine s_callV (rvf := fun x => some (.int x)) (st := [.int (x5 - (1 : Int32)), rB (xD X).1 o]) (fr := 0) (lo := 0) (mc := 0) (ms := 0) C [6] wc_X6_read wml_X6_180 wim_X6_read wsl_6_X6_read dX6_work_150 (As := [.inl (x5 - (1 : Int32))]) rfl hf (fun x h' hF => c_X6_read _ _ _ _ _ (x, h') hF) rfl (Nat.le_of_ble_eq_true rfl) (room_ok hX (Nat.le_of_ble_eq_true rfl) (Nat.le_of_ble_eq_true rfl)) (cell_ok hX (Nat.le_of_ble_eq_true rfl) (Nat.le_of_ble_eq_true rfl)) (fun v23 h22 hf => ?_)
                    refine s_if_ne (tgt := 160) C dX6_work_153 (by decide) hf (fun hf => ?_) (fun hf => ?_)
                    · refine s_iconst C dX6_work_160 (v := (0 : Int32)) (by decide) ?_
                      refine s_weak (lv' := [some (rB (xD X).1 o), none, none, some (.int ((a1 * (161 : Int32)) + v4)), none, some (.int x6), some (.int x7), some (.int x8), none]) ⟨rfl, ⟨rfl, ⟨rfl, ⟨rfl, ⟨rfl, trivial⟩⟩⟩⟩⟩ ?_
                      exact k161 _ _ hf
                    · refine s_iconst C dX6_work_156 (v := (1 : Int32)) (by decide) ?_
                      refine s_goto (tgt := 161) C dX6_work_157 (by decide) ?_
                      refine s_weak (lv' := [some (rB (xD X).1 o), none, none, some (.int ((a1 * (161 : Int32)) + v4)), none, some (.int x6), some (.int x7), some (.int x8), none]) ⟨rfl, ⟨rfl, ⟨rfl, ⟨rfl, ⟨rfl, trivial⟩⟩⟩⟩⟩ ?_
                      exact k161 _ _ hf
                  · refine s_aload_n C dX6_work_133 rfl ?_
                    refine s_iload C dX6_work_134 rfl ?_
                    refine s_iconst C dX6_work_136 (v := (1 : Int32)) (by decide) ?_
                    refine s_isub C dX6_work_137 ?_
                    refine s_callV (rvf := fun x => some (.int x)) (st := [.int (x5 - (1 : Int32)), rB (xD X).1 o]) (fr := 0) (lo := 0) (mc := 0) (ms := 0) C [6] wc_X6_read wml_X6_180 wim_X6_read wsl_6_X6_read dX6_work_138 (As := [.inl (x5 - (1 : Int32))]) rfl hf (fun x h' hF => c_X6_read _ _ _ _ _ (x, h') hF) rfl (Nat.le_of_ble_eq_true rfl) (room_ok hX (Nat.le_of_ble_eq_true rfl) (Nat.le_of_ble_eq_true rfl)) (cell_ok hX (Nat.le_of_ble_eq_true rfl) (Nat.le_of_ble_eq_true rfl)) (fun v25 h24 hf => ?_)
                    refine s_ineg C dX6_work_141 ?_
                    refine s_goto (tgt := 161) C dX6_work_142 (by decide) ?_
                    refine s_weak (lv' := [some (rB (xD X).1 o), none, none, some (.int ((a1 * (161 : Int32)) + v4)), none, some (.int x6), some (.int x7), some (.int x8), none]) ⟨rfl, ⟨rfl, ⟨rfl, ⟨rfl, ⟨rfl, trivial⟩⟩⟩⟩⟩ ?_
                    exact k161 _ _ hf
                refine s_icmp_eq (tgt := 121) C dX6_work_111 (by decide) hf (fun hf => ?_) (fun hf => ?_)
                · exact k121 hf
                · refine s_iload C dX6_work_114 rfl ?_
                  refine s_bipush C dX6_work_116 (v := (-32 : Int32)) (by decide) ?_
                  refine s_icmp_ne (tgt := 169) C dX6_work_118 (by decide) hf (fun hf => ?_) (fun hf => ?_)
                  · refine s_iload C dX6_work_169 rfl ?_
                    refine s_bipush C dX6_work_171 (v := (-33 : Int32)) (by decide) ?_
                    refine s_jn hf (fun j183 e183 hf => ?_)
                    have k183 : j183  = some r → WW X h9 0 0 183 [some (rB (xD X).1 o), none, none, some (.int ((a1 * (161 : Int32)) + v4)), some (.int x5), some (.int x6), none, some (.int x8), some (.int v13)] [] := by
                      intro  hf
                      rw [e183] at hf
                      refine s_iinc C dX6_work_183 (v := (x5 + (-1))) rfl rfl (by decide) (nc_i rfl) (lv' := [some (rB (xD X).1 o), none, none, some (.int ((a1 * (161 : Int32)) + v4)), some (.int (x5 + (-1))), some (.int x6), none, some (.int x8), some (.int v13)]) rfl ?_
                      refine s_aload_n C dX6_work_186 rfl ?_
                      refine s_iload C dX6_work_187 rfl ?_
                      refine s_callV (rvf := fun x => some (.int x)) (st := []) (fr := 0) (lo := 0) (mc := 0) (ms := 0) C [6] wc_X6_read wml_X6_180 wim_X6_read wsl_6_X6_read dX6_work_189 (As := [.inl (x5 + (-1))]) rfl hf (fun x h' hF => c_X6_read _ _ _ _ _ (x, h') hF) rfl (Nat.le_of_ble_eq_true rfl) (room_ok hX (Nat.le_of_ble_eq_true rfl) (Nat.le_of_ble_eq_true rfl)) (cell_ok hX (Nat.le_of_ble_eq_true rfl) (Nat.le_of_ble_eq_true rfl)) (fun v27 h26 hf => ?_)
                      refine s_jn hf (fun j200 e200 hf => ?_)
                      have k200 : ∀ (x28 : Int32), j200 x28 = some r → WW X h26 0 0 200 [some (rB (xD X).1 o), none, none, some (.int ((a1 * (161 : Int32)) + v4)), some (.int (x5 + (-1))), some (.int x6), none, some (.int x8), some (.int v13)] [.int x28] := by
                        intro x28 hf
                        rw [e200] at hf
                        refine s_iload C dX6_work_200 rfl ?_
                        refine s_bipush C dX6_work_202 (v := (-33 : Int32)) (by decide) ?_
                        refine s_jn hf (fun j212 e212 hf => ?_)
                        have k212 : ∀ (x29 : Int32), j212 x29 = some r → WW X h26 0 0 212 [some (rB (xD X).1 o), none, none, some (.int ((a1 * (161 : Int32)) + v4)), some (.int (x5 + (-1))), some (.int x6), none, some (.int x8), none] [.int x29, .int x28] := by
                          intro x29 hf
                          rw [e212] at hf
                          refine s_jn hf (fun j220 e220 hf => ?_)
                          have k220 : ∀ (x30 : Int32), j220 x30 = some r → WW X h26 0 0 220 [some (rB (xD X).1 o), none, none, some (.int ((a1 * (161 : Int32)) + v4)), some (.int (x5 + (-1))), some (.int x6), none, some (.int x8), none] [.int x30] := by
                            intro x30 hf
                            rw [e220] at hf
                            refine s_istore C dX6_work_220 (by decide) (nc_i rfl) (lv' := [some (rB (xD X).1 o), none, none, some (.int ((a1 * (161 : Int32)) + v4)), some (.int (x5 + (-1))), some (.int x6), some (.int x30), some (.int x8), none]) rfl ?_
                            refine s_goto (tgt := 293) C dX6_work_222 (by decide) ?_
                            exact k293 _ _ _ _ hf
                          refine s_icmp_ne (tgt := 219) C dX6_work_212 (by decide) hf (fun hf => ?_) (fun hf => ?_)
                          · refine s_iconst C dX6_work_219 (v := (0 : Int32)) (by decide) ?_
                            exact k220 _ hf
                          · refine s_iconst C dX6_work_215 (v := (1 : Int32)) (by decide) ?_
                            refine s_goto (tgt := 220) C dX6_work_216 (by decide) ?_
                            exact k220 _ hf
                        refine s_icmp_ne (tgt := 211) C dX6_work_204 (by decide) hf (fun hf => ?_) (fun hf => ?_)
                        · refine s_iconst C dX6_work_211 (v := (0 : Int32)) (by decide) ?_
                          refine s_weak (lv' := [some (rB (xD X).1 o), none, none, some (.int ((a1 * (161 : Int32)) + v4)), some (.int (x5 + (-1))), some (.int x6), none, some (.int x8), none]) ⟨rfl, ⟨rfl, ⟨rfl, ⟨rfl, ⟨rfl, trivial⟩⟩⟩⟩⟩ ?_
                          exact k212 _ hf
                        · refine s_iconst C dX6_work_207 (v := (1 : Int32)) (by decide) ?_
                          refine s_goto (tgt := 212) C dX6_work_208 (by decide) ?_
                          refine s_weak (lv' := [some (rB (xD X).1 o), none, none, some (.int ((a1 * (161 : Int32)) + v4)), some (.int (x5 + (-1))), some (.int x6), none, some (.int x8), none]) ⟨rfl, ⟨rfl, ⟨rfl, ⟨rfl, ⟨rfl, trivial⟩⟩⟩⟩⟩ ?_
                          exact k212 _ hf
                      refine s_if_eq (tgt := 199) C dX6_work_192 (by decide) hf (fun hf => ?_) (fun hf => ?_)
                      · refine s_iconst C dX6_work_199 (v := (0 : Int32)) (by decide) ?_
                        exact k200 _ hf
                      · refine s_iconst C dX6_work_195 (v := (1 : Int32)) (by decide) ?_
                        refine s_goto (tgt := 200) C dX6_work_196 (by decide) ?_
                        exact k200 _ hf
                    refine s_icmp_eq (tgt := 183) C dX6_work_173 (by decide) hf (fun hf => ?_) (fun hf => ?_)
                    · refine s_weak (lv' := [some (rB (xD X).1 o), none, none, some (.int ((a1 * (161 : Int32)) + v4)), some (.int x5), some (.int x6), none, some (.int x8), some (.int v13)]) ⟨rfl, ⟨rfl, ⟨rfl, ⟨rfl, ⟨rfl, ⟨rfl, trivial⟩⟩⟩⟩⟩⟩ ?_
                      exact k183 hf
                    · refine s_iload C dX6_work_176 rfl ?_
                      refine s_bipush C dX6_work_178 (v := (-34 : Int32)) (by decide) ?_
                      refine s_icmp_ne (tgt := 225) C dX6_work_180 (by decide) hf (fun hf => ?_) (fun hf => ?_)
                      · refine s_iload C dX6_work_225 rfl ?_
                        refine s_bipush C dX6_work_227 (v := (-35 : Int32)) (by decide) ?_
                        refine s_icmp_ne (tgt := 262) C dX6_work_229 (by decide) hf (fun hf => ?_) (fun hf => ?_)
                        · refine s_aload_n C dX6_work_262 rfl ?_
                          refine s_iload C dX6_work_263 rfl ?_
                          refine s_iconst C dX6_work_265 (v := (2 : Int32)) (by decide) ?_
                          refine s_isub C dX6_work_266 ?_
                          refine s_iload C dX6_work_267 rfl ?_
                          refine s_aload_n C dX6_work_269 rfl ?_
                          refine s_iload C dX6_work_270 rfl ?_
                          refine s_iconst C dX6_work_272 (v := (2 : Int32)) (by decide) ?_
                          refine s_isub C dX6_work_273 ?_
                          refine s_callV (rvf := fun x => some (.int x)) (st := [.int v13, .int (x5 - (2 : Int32)), rB (xD X).1 o]) (fr := 0) (lo := 0) (mc := 0) (ms := 0) C [6] wc_X6_read wml_X6_180 wim_X6_read wsl_6_X6_read dX6_work_274 (As := [.inl (x5 - (2 : Int32))]) rfl hf (fun x h' hF => c_X6_read _ _ _ _ _ (x, h') hF) rfl (Nat.le_of_ble_eq_true rfl) (room_ok hX (Nat.le_of_ble_eq_true rfl) (Nat.le_of_ble_eq_true rfl)) (cell_ok hX (Nat.le_of_ble_eq_true rfl) (Nat.le_of_ble_eq_true rfl)) (fun v32 h31 hf => ?_)
                          refine s_aload_n C dX6_work_277 rfl ?_
                          refine s_iload C dX6_work_278 rfl ?_
                          refine s_iconst C dX6_work_280 (v := (1 : Int32)) (by decide) ?_
                          refine s_isub C dX6_work_281 ?_
                          refine s_callV (rvf := fun x => some (.int x)) (st := [.int v32, .int v13, .int (x5 - (2 : Int32)), rB (xD X).1 o]) (fr := 0) (lo := 0) (mc := 0) (ms := 0) C [6] wc_X6_read wml_X6_180 wim_X6_read wsl_6_X6_read dX6_work_282 (As := [.inl (x5 - (1 : Int32))]) rfl hf (fun x h' hF => c_X6_read _ _ _ _ _ (x, h') hF) rfl (Nat.le_of_ble_eq_true rfl) (room_ok hX (Nat.le_of_ble_eq_true rfl) (Nat.le_of_ble_eq_true rfl)) (cell_ok hX (Nat.le_of_ble_eq_true rfl) (Nat.le_of_ble_eq_true rfl)) (fun v34 h33 hf => ?_)
                          refine s_callS (rvf := fun x => some (.int x)) (st := [.int (x5 - (2 : Int32)), rB (xD X).1 o]) (fr := 0) (lo := 0) (mc := 0) (ms := 0) C wc_X6_ofTwo wml_X6_183 wst_X6_ofTwo dX6_work_285 (As := [.inl v13, .inl v32, .inl v34]) rfl hf (fun x h' hF => c_X6_ofTwo _ _ _ _ _ _ (x, h') hF) rfl (Nat.le_of_ble_eq_true rfl) (room_ok hX (Nat.le_of_ble_eq_true rfl) (Nat.le_of_ble_eq_true rfl)) (cell_ok hX (Nat.le_of_ble_eq_true rfl) (Nat.le_of_ble_eq_true rfl)) (fun v36 h35 hf => ?_)
                          refine s_callV (rvf := fun x => some (.int x)) (st := []) (fr := 0) (lo := 0) (mc := 0) (ms := 0) C [6] wc_X6_push wml_X6_177 wim_X6_push wsl_6_X6_push dX6_work_288 (As := [.inl (x5 - (2 : Int32)), .inl v36]) rfl hf (fun x h' hF => c_X6_push _ _ _ _ _ _ (x, h') hF) rfl (Nat.le_of_ble_eq_true rfl) (room_ok hX (Nat.le_of_ble_eq_true rfl) (Nat.le_of_ble_eq_true rfl)) (cell_ok hX (Nat.le_of_ble_eq_true rfl) (Nat.le_of_ble_eq_true rfl)) (fun v38 h37 hf => ?_)
                          refine s_istore C dX6_work_291 (by decide) (nc_i rfl) (lv' := [some (rB (xD X).1 o), none, none, some (.int ((a1 * (161 : Int32)) + v4)), some (.int v38), some (.int x6), some (.int x7), some (.int x8), some (.int v13)]) rfl ?_
                          refine s_weak (lv' := [some (rB (xD X).1 o), none, none, some (.int ((a1 * (161 : Int32)) + v4)), some (.int v38), some (.int x6), some (.int x7), some (.int x8), none]) ⟨rfl, ⟨rfl, ⟨rfl, ⟨rfl, ⟨rfl, ⟨rfl, trivial⟩⟩⟩⟩⟩⟩ ?_
                          exact k293 _ _ _ _ hf
                        · refine s_iinc C dX6_work_232 (v := (x5 + (-1))) rfl rfl (by decide) (nc_i rfl) (lv' := [some (rB (xD X).1 o), none, none, some (.int ((a1 * (161 : Int32)) + v4)), some (.int (x5 + (-1))), some (.int x6), some (.int x7), some (.int x8), some (.int v13)]) rfl ?_
                          refine s_iload C dX6_work_235 rfl ?_
                          refine s_if_eq (tgt := 253) C dX6_work_237 (by decide) hf (fun hf => ?_) (fun hf => ?_)
                          · refine s_iinc C dX6_work_253 (v := (x6 + 1)) rfl rfl (by decide) (nc_i rfl) (lv' := [some (rB (xD X).1 o), none, none, some (.int ((a1 * (161 : Int32)) + v4)), some (.int (x5 + (-1))), some (.int (x6 + 1)), some (.int x7), some (.int x8), some (.int v13)]) rfl ?_
                            refine s_iconst C dX6_work_256 (v := (1 : Int32)) (by decide) ?_
                            refine s_istore C dX6_work_257 (by decide) (nc_i rfl) (lv' := [some (rB (xD X).1 o), none, none, some (.int ((a1 * (161 : Int32)) + v4)), some (.int (x5 + (-1))), some (.int (x6 + 1)), some (.int (1 : Int32)), some (.int x8), some (.int v13)]) rfl ?_
                            refine s_goto (tgt := 293) C dX6_work_259 (by decide) ?_
                            refine s_weak (lv' := [some (rB (xD X).1 o), none, none, some (.int ((a1 * (161 : Int32)) + v4)), some (.int (x5 + (-1))), some (.int (x6 + 1)), some (.int (1 : Int32)), some (.int x8), none]) ⟨rfl, ⟨rfl, ⟨rfl, ⟨rfl, ⟨rfl, ⟨rfl, trivial⟩⟩⟩⟩⟩⟩ ?_
                            exact k293 _ _ _ _ hf
                          · refine s_aload_n C dX6_work_240 rfl ?_
                            refine s_iload C dX6_work_241 rfl ?_
                            refine s_putI C fl_X6_18 (by decide) dX6_work_243 hf (fun h39 hf => ?_)
                            refine s_aload_n C dX6_work_246 rfl ?_
                            refine s_iload C dX6_work_247 rfl ?_
                            refine s_callV (rvf := fun x => some (.int x)) (st := []) (fr := 0) (lo := 0) (mc := 0) (ms := 0) C [6] wc_X6_read wml_X6_180 wim_X6_read wsl_6_X6_read dX6_work_249 (As := [.inl (x5 + (-1))]) rfl hf (fun x h' hF => c_X6_read _ _ _ _ _ (x, h') hF) rfl (Nat.le_of_ble_eq_true rfl) (room_ok hX (Nat.le_of_ble_eq_true rfl) (Nat.le_of_ble_eq_true rfl)) (cell_ok hX (Nat.le_of_ble_eq_true rfl) (Nat.le_of_ble_eq_true rfl)) (fun v41 h40 hf => ?_)
                            exact s_ireturn C E dX6_work_252 hf (Nat.le_of_ble_eq_true rfl) (Nat.le_of_ble_eq_true rfl)
                      · refine s_weak (lv' := [some (rB (xD X).1 o), none, none, some (.int ((a1 * (161 : Int32)) + v4)), some (.int x5), some (.int x6), none, some (.int x8), some (.int v13)]) ⟨rfl, ⟨rfl, ⟨rfl, ⟨rfl, ⟨rfl, ⟨rfl, trivial⟩⟩⟩⟩⟩⟩ ?_
                        exact k183 hf
                  · exact k121 hf
              · refine s_aload_n C dX6_work_78 rfl ?_
                refine s_iload C dX6_work_79 rfl ?_
                refine s_iload C dX6_work_81 rfl ?_
                refine s_jn hf (fun j99 e99 hf => ?_)
                have k99 : ∀ (x42 : Int32) (h43 : AH), j99 x42 h43 = some r → WW X h43 0 0 99 [some (rB (xD X).1 o), none, none, some (.int ((a1 * (161 : Int32)) + v4)), none, some (.int x6), some (.int x7), some (.int x8), none] [.int x42, .int x5, rB (xD X).1 o] := by
                  intro x42 h43 hf
                  rw [e99] at hf
                  refine s_callV (rvf := fun x => some (.int x)) (st := []) (fr := 0) (lo := 0) (mc := 0) (ms := 0) C [6] wc_X6_push wml_X6_177 wim_X6_push wsl_6_X6_push dX6_work_99 (As := [.inl x5, .inl x42]) rfl hf (fun x h' hF => c_X6_push _ _ _ _ _ _ (x, h') hF) rfl (Nat.le_of_ble_eq_true rfl) (room_ok hX (Nat.le_of_ble_eq_true rfl) (Nat.le_of_ble_eq_true rfl)) (cell_ok hX (Nat.le_of_ble_eq_true rfl) (Nat.le_of_ble_eq_true rfl)) (fun v45 h44 hf => ?_)
                  refine s_istore C dX6_work_102 (by decide) (nc_i rfl) (lv' := [some (rB (xD X).1 o), none, none, some (.int ((a1 * (161 : Int32)) + v4)), some (.int v45), some (.int x6), some (.int x7), some (.int x8), none]) rfl ?_
                  refine s_goto (tgt := 293) C dX6_work_104 (by decide) ?_
                  exact k293 _ _ _ _ hf
                refine s_if_lt (tgt := 91) C dX6_work_83 (by decide) hf (fun hf => ?_) (fun hf => ?_)
                · refine s_aload_n C dX6_work_91 rfl ?_
                  refine s_iconst C dX6_work_92 (v := (-1 : Int32)) (by decide) ?_
                  refine s_iload C dX6_work_93 rfl ?_
                  refine s_isub C dX6_work_95 ?_
                  refine s_callV (rvf := fun x => some (.int x)) (st := [.int x5, rB (xD X).1 o]) (fr := 2) (lo := 46) (mc := 0) (ms := 0) C [6] wc_X6_numberOf wml_X6_174 wim_X6_numberOf wsl_6_X6_numberOf dX6_work_96 (As := [.inl ((-1 : Int32) - v13)]) rfl hf (fun x h' hF => c_X6_numberOf _ _ _ _ _ (x, h') hF) rfl (Nat.le_of_ble_eq_true rfl) (room_ok hX (Nat.le_of_ble_eq_true rfl) (Nat.le_of_ble_eq_true rfl)) (cell_ok hX (Nat.le_of_ble_eq_true rfl) (Nat.le_of_ble_eq_true rfl)) (fun v47 h46 hf => ?_)
                  refine s_weak (lv' := [some (rB (xD X).1 o), none, none, some (.int ((a1 * (161 : Int32)) + v4)), none, some (.int x6), some (.int x7), some (.int x8), none]) ⟨rfl, ⟨rfl, ⟨rfl, ⟨rfl, ⟨rfl, trivial⟩⟩⟩⟩⟩ ?_
                  exact k99 _ _ hf
                · refine s_iload C dX6_work_86 rfl ?_
                  refine s_goto (tgt := 99) C dX6_work_88 (by decide) ?_
                  refine s_weak (lv' := [some (rB (xD X).1 o), none, none, some (.int ((a1 * (161 : Int32)) + v4)), none, some (.int x6), some (.int x7), some (.int x8), none]) ⟨rfl, ⟨rfl, ⟨rfl, ⟨rfl, ⟨rfl, trivial⟩⟩⟩⟩⟩ ?_
                  exact k99 _ _ hf
      refine s_weak (lv' := [some (rB (xD X).1 o), none, none, some (.int ((a1 * (161 : Int32)) + v4)), some (.int (0 : Int32)), some (.int (0 : Int32)), some (.int (1 : Int32)), some (.int (a1 * (161 : Int32))), none]) ⟨rfl, ⟨rfl, ⟨rfl, ⟨rfl, ⟨rfl, ⟨rfl, trivial⟩⟩⟩⟩⟩⟩ ?_
      exact k46 lpN _ _ _ _ _ hf
    · refine s_weak (lv' := [none, none, none, none, none, none, none, none, none]) trivial ?_
      exact k17 hf
/-- HillBoxes$Rules.answer(II)I -/
noncomputable def f_X6_answer (o : Option Nat) (a1 : Int32) (a2 : Int32) (h : AH) : Option (Int32 × AH) :=
  fR h [6] o 3 fun v1 =>
  fI h [3] v1 0 fun v2 =>
  rO h [6] o <| cl (f_X6_ruleFor o a1 a2 v2 h) fun v4 h3 =>
  if 0 ≤ v4 then
    rO h3 [6] o <| cl (f_X6_work o v4 h3) fun v6 h5 =>
    jn (fun (x7 : Int32) =>
      some (x7, h5)) fun j72 =>
    if a1 = 0 then
      j72 (if (0 : Int32) < (if v6 < (15 : Int32) then v6 else (15 : Int32)) then (if v6 < (15 : Int32) then v6 else (15 : Int32)) else (0 : Int32))
    else
      j72 v6
  else
    pI h3 [6] o 2 (-1 : Int32) fun h8 =>
    jn (fun (x9 : Int32) =>
      some (x9, h8)) fun j44 =>
    jn (
      j44 (0 : Int32)) fun j43 =>
    if a1 < 0 then
      j43
    else
      if (5 : Int32) ≤ a1 then
        j43
      else
        tbI tbUN a1 fun v10 =>
        j44 v10
set_option maxRecDepth 100000 in
set_option maxHeartbeats 4000000 in
theorem c_X6_answer (l : Launch) (D : DT) (o : Option Nat) (a1 : Int32) (a2 : Int32) (h : AH) (r : Int32 × AH) (hf : f_X6_answer o a1 a2 h = some r) : CM l D yX6_answer cX6_answer 5 (some .int) 4 97 0 0 [.inr (.inr o), .inl a1, .inl a2] h (some (.int r.1)) r.2 := by
  refine CM.of (by decide) (Nat.le_of_ble_eq_true rfl) (fun X hl C hD hX hnm E => ?_)
  subst hl
  subst hD
  have C : CX X RX6 cX6_answer 5 := C
  show WW X h 0 0 0 [some (rB (xD X).1 o), some (.int a1), some (.int a2), none, none] []
  unfold f_X6_answer at hf
  refine s_aload_n C dX6_answer_0 rfl ?_
  refine s_iload_n C dX6_answer_1 rfl ?_
  refine s_iload_n C dX6_answer_2 rfl ?_
  refine s_aload_n C dX6_answer_3 rfl ?_
  refine s_getR C fl_X6_41 dX6_answer_4 hf (fun v1 hf => ?_)
  refine s_getI C fl_X6_55 dX6_answer_7 hf (fun v2 hf => ?_)
  refine s_callV (rvf := fun x => some (.int x)) (st := []) (fr := 0) (lo := 0) (mc := 0) (ms := 0) C [6] wc_X6_ruleFor wml_X6_92 wim_X6_ruleFor wsl_6_X6_ruleFor dX6_answer_10 (As := [.inl a1, .inl a2, .inl v2]) rfl hf (fun x h' hF => c_X6_ruleFor _ _ _ _ _ _ _ (x, h') hF) rfl (Nat.le_of_ble_eq_true rfl) (room_ok hX (Nat.le_of_ble_eq_true rfl) (Nat.le_of_ble_eq_true rfl)) (cell_ok hX (Nat.le_of_ble_eq_true rfl) (Nat.le_of_ble_eq_true rfl)) (fun v4 h3 hf => ?_)
  refine s_istore_n C dX6_answer_13 (by decide) (nc_i rfl) (lv' := [some (rB (xD X).1 o), some (.int a1), some (.int a2), some (.int v4), none]) rfl ?_
  refine s_iload_n C dX6_answer_14 rfl ?_
  refine s_if_ge (tgt := 45) C dX6_answer_15 (by decide) hf (fun hf => ?_) (fun hf => ?_)
  · refine s_aload_n C dX6_answer_45 rfl ?_
    refine s_iload_n C dX6_answer_46 rfl ?_
    refine s_callV (rvf := fun x => some (.int x)) (st := []) (fr := 3) (lo := 69) (mc := 0) (ms := 0) C [6] wc_X6_work wml_X6_99 wim_X6_work wsl_6_X6_work dX6_answer_47 (As := [.inl v4]) rfl hf (fun x h' hF => c_X6_work _ _ _ _ _ (x, h') hF) rfl (Nat.le_of_ble_eq_true rfl) (room_ok hX (Nat.le_of_ble_eq_true rfl) (Nat.le_of_ble_eq_true rfl)) (cell_ok hX (Nat.le_of_ble_eq_true rfl) (Nat.le_of_ble_eq_true rfl)) (fun v6 h5 hf => ?_)
    refine s_istore C dX6_answer_50 (by decide) (nc_i rfl) (lv' := [some (rB (xD X).1 o), some (.int a1), some (.int a2), some (.int v4), some (.int v6)]) rfl ?_
    refine s_iload_n C dX6_answer_52 rfl ?_
    refine s_jn hf (fun j72 e72 hf => ?_)
    have k72 : ∀ (x7 : Int32), j72 x7 = some r → WW X h5 0 0 72 [none, none, none, none, none] [.int x7] := by
      intro x7 hf
      rw [e72] at hf
      exact s_ireturn C E dX6_answer_72 hf (Nat.le_of_ble_eq_true rfl) (Nat.le_of_ble_eq_true rfl)
    refine s_if_ne (tgt := 70) C dX6_answer_53 (by decide) hf (fun hf => ?_) (fun hf => ?_)
    · refine s_iload C dX6_answer_70 rfl ?_
      refine s_weak (lv' := [none, none, none, none, none]) trivial ?_
      exact k72 _ hf
    · refine s_iconst C dX6_answer_56 (v := (0 : Int32)) (by decide) ?_
      refine s_bipush C dX6_answer_57 (v := (15 : Int32)) (by decide) ?_
      refine s_iload C dX6_answer_59 rfl ?_
      refine s_mmin C wml_X6_103 wst_mmin wini_math wcd_mmin dX6_answer_61 (Nat.le_of_ble_eq_true rfl) (room_n hX (Nat.le_of_ble_eq_true rfl) (Nat.le_of_ble_eq_true rfl)) (cell_ok hX (Nat.le_of_ble_eq_true rfl) (Nat.le_of_ble_eq_true rfl)) ?_
      refine s_mmax C wml_X6_109 wst_mmax wini_math wcd_mmax dX6_answer_64 (Nat.le_of_ble_eq_true rfl) (room_n hX (Nat.le_of_ble_eq_true rfl) (Nat.le_of_ble_eq_true rfl)) (cell_ok hX (Nat.le_of_ble_eq_true rfl) (Nat.le_of_ble_eq_true rfl)) ?_
      refine s_goto (tgt := 72) C dX6_answer_67 (by decide) ?_
      refine s_weak (lv' := [none, none, none, none, none]) trivial ?_
      exact k72 _ hf
  · refine s_aload_n C dX6_answer_18 rfl ?_
    refine s_iconst C dX6_answer_19 (v := (-1 : Int32)) (by decide) ?_
    refine s_putI C fl_X6_18 (by decide) dX6_answer_20 hf (fun h8 hf => ?_)
    refine s_iload_n C dX6_answer_23 rfl ?_
    refine s_jn hf (fun j44 e44 hf => ?_)
    have k44 : ∀ (x9 : Int32), j44 x9 = some r → WW X h8 0 0 44 [none, none, none, none, none] [.int x9] := by
      intro x9 hf
      rw [e44] at hf
      exact s_ireturn C E dX6_answer_44 hf (Nat.le_of_ble_eq_true rfl) (Nat.le_of_ble_eq_true rfl)
    refine s_jn hf (fun j43 e43 hf => ?_)
    have k43 : j43  = some r → WW X h8 0 0 43 [none, none, none, none, none] [] := by
      intro  hf
      rw [e43] at hf
      refine s_iconst C dX6_answer_43 (v := (0 : Int32)) (by decide) ?_
      exact k44 _ hf
    refine s_if_lt (tgt := 43) C dX6_answer_24 (by decide) hf (fun hf => ?_) (fun hf => ?_)
    · refine s_weak (lv' := [none, none, none, none, none]) trivial ?_
      exact k43 hf
    · refine s_iload_n C dX6_answer_27 rfl ?_
      refine s_getsI C C.2.2.2.2.2.2.2.2.2.2.2.1 wfl_X6_96 dX6_answer_28 (fun t28 t28h => ?_)
      refine s_tblen C (v := (5 : Int32)) t28h (by decide) dX6_answer_31 ?_
      refine s_icmp_ge (tgt := 43) C dX6_answer_32 (by decide) hf (fun hf => ?_) (fun hf => ?_)
      · refine s_weak (lv' := [none, none, none, none, none]) trivial ?_
        exact k43 hf
      · refine s_getsI C C.2.2.2.2.2.2.2.2.2.2.2.1 wfl_X6_96 dX6_answer_35 (fun t35 t35h => ?_)
        refine s_iload_n C dX6_answer_38 rfl ?_
        refine s_tbI C t35h dX6_answer_39 hf (fun v10 hf => ?_)
        refine s_goto (tgt := 44) C dX6_answer_40 (by decide) ?_
        refine s_weak (lv' := [none, none, none, none, none]) trivial ?_
        exact k44 _ hf
/-- HillBoxes$Rules.askForBox(ILHillBoxes$Finder;LHillBoxes$Box;I)V -/
noncomputable def f_X6_askForBox (o : Option Nat) (a1 : Int32) (a2 : Option Nat) (a3 : Option Nat) (a4 : Int32) (h : AH) : Option (Unit × AH) :=
  pI h [6] o 10 a1 fun h1 =>
  pR h1 [6] o 11 a2 fun h2 =>
  pR h2 [6] o 12 a3 fun h3 =>
  jn (fun (x4 : Int32) =>
    pI h3 [6] o 13 x4 fun h5 =>
    jn (fun (x6 : Int32) =>
      pI h5 [6] o 14 x6 fun h7 =>
      pI h7 [6] o 15 a4 fun h8 =>
      some ((), h8)) fun j44 =>
    if a3 = none then
      j44 (-1 : Int32)
    else
      fI h5 [1] a3 9 fun v9 =>
      j44 v9) fun j28 =>
  if a3 = none then
    j28 (0 : Int32)
  else
    fI h3 [1] a3 1 fun v10 =>
    j28 v10
set_option maxRecDepth 100000 in
set_option maxHeartbeats 4000000 in
theorem c_X6_askForBox (l : Launch) (D : DT) (o : Option Nat) (a1 : Int32) (a2 : Option Nat) (a3 : Option Nat) (a4 : Int32) (h : AH) (r : Unit × AH) (hf : f_X6_askForBox o a1 a2 a3 a4 h = some r) : CM l D yX6_askForBox cX6_askForBox 5 none 0 0 0 0 [.inr (.inr o), .inl a1, .inr (.inr a2), .inr (.inr a3), .inl a4] h none r.2 := by
  refine CM.of (by decide) (Nat.le_of_ble_eq_true rfl) (fun X hl C hD hX hnm E => ?_)
  subst hl
  subst hD
  have C : CX X RX6 cX6_askForBox 5 := C
  show WW X h 0 0 0 [some (rB (xD X).1 o), some (.int a1), some (rB (xD X).1 a2), some (rB (xD X).1 a3), some (.int a4)] []
  unfold f_X6_askForBox at hf
  refine s_aload_n C dX6_askForBox_0 rfl ?_
  refine s_iload_n C dX6_askForBox_1 rfl ?_
  refine s_putI C fl_X6_64 (by decide) dX6_askForBox_2 hf (fun h1 hf => ?_)
  refine s_aload_n C dX6_askForBox_5 rfl ?_
  refine s_aload_n C dX6_askForBox_6 rfl ?_
  refine s_putR C fl_X6_67 dX6_askForBox_7 hf (fun h2 hf => ?_)
  refine s_aload_n C dX6_askForBox_10 rfl ?_
  refine s_aload_n C dX6_askForBox_11 rfl ?_
  refine s_putR C fl_X6_71 dX6_askForBox_12 hf (fun h3 hf => ?_)
  refine s_aload_n C dX6_askForBox_15 rfl ?_
  refine s_aload_n C dX6_askForBox_16 rfl ?_
  refine s_jn hf (fun j28 e28 hf => ?_)
  have k28 : ∀ (x4 : Int32), j28 x4 = some r → WW X h3 0 0 28 [some (rB (xD X).1 o), none, none, some (rB (xD X).1 a3), some (.int a4)] [.int x4, rB (xD X).1 o] := by
    intro x4 hf
    rw [e28] at hf
    refine s_putI C fl_X6_80 (by decide) dX6_askForBox_28 hf (fun h5 hf => ?_)
    refine s_aload_n C dX6_askForBox_31 rfl ?_
    refine s_aload_n C dX6_askForBox_32 rfl ?_
    refine s_jn hf (fun j44 e44 hf => ?_)
    have k44 : ∀ (x6 : Int32), j44 x6 = some r → WW X h5 0 0 44 [some (rB (xD X).1 o), none, none, none, some (.int a4)] [.int x6, rB (xD X).1 o] := by
      intro x6 hf
      rw [e44] at hf
      refine s_putI C fl_X6_86 (by decide) dX6_askForBox_44 hf (fun h7 hf => ?_)
      refine s_aload_n C dX6_askForBox_47 rfl ?_
      refine s_iload C dX6_askForBox_48 rfl ?_
      refine s_putI C fl_X6_89 (by decide) dX6_askForBox_50 hf (fun h8 hf => ?_)
      exact s_return C E dX6_askForBox_53 hf (Nat.le_of_ble_eq_true rfl) (Nat.le_of_ble_eq_true rfl)
    refine s_ifnonnull (tgt := 40) C dX6_askForBox_33 (by decide) hf (fun hf => ?_) (fun hf => ?_)
    · refine s_aload_n C dX6_askForBox_40 rfl ?_
      refine s_getI C fl_X6_83 dX6_askForBox_41 hf (fun v9 hf => ?_)
      refine s_weak (lv' := [some (rB (xD X).1 o), none, none, none, some (.int a4)]) ⟨rfl, ⟨rfl, trivial⟩⟩ ?_
      exact k44 _ hf
    · refine s_iconst C dX6_askForBox_36 (v := (-1 : Int32)) (by decide) ?_
      refine s_goto (tgt := 44) C dX6_askForBox_37 (by decide) ?_
      refine s_weak (lv' := [some (rB (xD X).1 o), none, none, none, some (.int a4)]) ⟨rfl, ⟨rfl, trivial⟩⟩ ?_
      exact k44 _ hf
  refine s_ifnonnull (tgt := 24) C dX6_askForBox_17 (by decide) hf (fun hf => ?_) (fun hf => ?_)
  · refine s_aload_n C dX6_askForBox_24 rfl ?_
    refine s_getI C fl_X6_75 dX6_askForBox_25 hf (fun v10 hf => ?_)
    refine s_weak (lv' := [some (rB (xD X).1 o), none, none, some (rB (xD X).1 a3), some (.int a4)]) ⟨rfl, ⟨rfl, ⟨rfl, trivial⟩⟩⟩ ?_
    exact k28 _ hf
  · refine s_iconst C dX6_askForBox_20 (v := (0 : Int32)) (by decide) ?_
    refine s_goto (tgt := 28) C dX6_askForBox_21 (by decide) ?_
    refine s_weak (lv' := [some (rB (xD X).1 o), none, none, some (rB (xD X).1 a3), some (.int a4)]) ⟨rfl, ⟨rfl, ⟨rfl, trivial⟩⟩⟩ ?_
    exact k28 _ hf
/-- HillBoxes$Rules.counts(IIII)Z -/
noncomputable def f_X6_counts (o : Option Nat) (a1 : Int32) (a2 : Int32) (a3 : Int32) (a4 : Int32) (h : AH) : Option (Int32 × AH) :=
  nz (24 : Int32) <|
  fR h [6] o 3 fun v1 =>
  rO h [3] v1 <| cl (f_X3_finderAt v1 a1 h) fun v3 h2 =>
  fR h2 [6] o 3 fun v4 =>
  rO h2 [3] v4 <| cl (f_X3_boxAt v4 a2 h2) fun v6 h5 =>
  nz (24 : Int32) <|
  rO h5 [6] o <| cl (f_X6_askForBox o (a3 / (24 : Int32)) v3 v6 (a3 - a3 / (24 : Int32) * (24 : Int32)) h5) fun _ h7 =>
  jn (fun (x8 : Int32) (h9 : AH) =>
    jn (fun (x10 : Int32) =>
      rz x10 h9) fun j61 =>
    if x8 = 0 then
      j61 (0 : Int32)
    else
      j61 (1 : Int32)) fun j53 =>
  if 0 ≤ a4 then
    rO h7 [6] o <| cl (f_X6_work o a4 h7) fun v12 h11 =>
    j53 v12 h11
  else
    rO h7 [6] o <| cl (f_X6_answer o (2 : Int32) (a3 / (24 : Int32)) h7) fun v14 h13 =>
    j53 v14 h13
set_option maxRecDepth 100000 in
set_option maxHeartbeats 4000000 in
theorem c_X6_counts (l : Launch) (D : DT) (o : Option Nat) (a1 : Int32) (a2 : Int32) (a3 : Int32) (a4 : Int32) (h : AH) (r : Int32 × AH) (hf : f_X6_counts o a1 a2 a3 a4 h = some r) : CM l D yX6_counts cX6_counts 6 (some .boolean) 5 121 0 0 [.inr (.inr o), .inl a1, .inl a2, .inl a3, .inl a4] h (some (.int r.1)) r.2 := by
  refine CM.of (by decide) (Nat.le_of_ble_eq_true rfl) (fun X hl C hD hX hnm E => ?_)
  subst hl
  subst hD
  have C : CX X RX6 cX6_counts 6 := C
  show WW X h 0 0 0 [some (rB (xD X).1 o), some (.int a1), some (.int a2), some (.int a3), some (.int a4), none] []
  unfold f_X6_counts at hf
  refine s_iload_n C dX6_counts_0 rfl ?_
  refine s_bipush C dX6_counts_1 (v := (24 : Int32)) (by decide) ?_
  refine s_idiv C dX6_counts_3 hf (fun hf => ?_)
  refine s_istore C dX6_counts_4 (by decide) (nc_i rfl) (lv' := [some (rB (xD X).1 o), some (.int a1), some (.int a2), some (.int a3), some (.int a4), some (.int (a3 / (24 : Int32)))]) rfl ?_
  refine s_aload_n C dX6_counts_6 rfl ?_
  refine s_iload C dX6_counts_7 rfl ?_
  refine s_aload_n C dX6_counts_9 rfl ?_
  refine s_getR C fl_X6_41 dX6_counts_10 hf (fun v1 hf => ?_)
  refine s_iload_n C dX6_counts_13 rfl ?_
  refine s_callV (rvf := fun x => some (rB (xD X).1 x)) (st := [.int (a3 / (24 : Int32)), rB (xD X).1 o]) (fr := 0) (lo := 0) (mc := 0) (ms := 0) C [3] wc_X3_finderAt wml_X6_123 wim_X3_finderAt wsl_3_X3_finderAt dX6_counts_14 (As := [.inl a1]) rfl hf (fun x h' hF => c_X3_finderAt _ _ _ _ _ (x, h') hF) rfl (Nat.le_of_ble_eq_true rfl) (room_ok hX (Nat.le_of_ble_eq_true rfl) (Nat.le_of_ble_eq_true rfl)) (cell_ok hX (Nat.le_of_ble_eq_true rfl) (Nat.le_of_ble_eq_true rfl)) (fun v3 h2 hf => ?_)
  refine s_aload_n C dX6_counts_17 rfl ?_
  refine s_getR C fl_X6_41 dX6_counts_18 hf (fun v4 hf => ?_)
  refine s_iload_n C dX6_counts_21 rfl ?_
  refine s_callV (rvf := fun x => some (rB (xD X).1 x)) (st := [rB (xD X).1 v3, .int (a3 / (24 : Int32)), rB (xD X).1 o]) (fr := 0) (lo := 0) (mc := 0) (ms := 0) C [3] wc_X3_boxAt wml_X6_127 wim_X3_boxAt wsl_3_X3_boxAt dX6_counts_22 (As := [.inl a2]) rfl hf (fun x h' hF => c_X3_boxAt _ _ _ _ _ (x, h') hF) rfl (Nat.le_of_ble_eq_true rfl) (room_ok hX (Nat.le_of_ble_eq_true rfl) (Nat.le_of_ble_eq_true rfl)) (cell_ok hX (Nat.le_of_ble_eq_true rfl) (Nat.le_of_ble_eq_true rfl)) (fun v6 h5 hf => ?_)
  refine s_iload_n C dX6_counts_25 rfl ?_
  refine s_bipush C dX6_counts_26 (v := (24 : Int32)) (by decide) ?_
  refine s_irem C dX6_counts_28 hf (fun hf => ?_)
  refine s_callV (rvf := fun _ => none) (st := []) (fr := 0) (lo := 0) (mc := 0) (ms := 0) C [6] wc_X6_askForBox wml_X6_119 wim_X6_askForBox wsl_6_X6_askForBox dX6_counts_29 (As := [.inl (a3 / (24 : Int32)), .inr (.inr v3), .inr (.inr v6), .inl (a3 - a3 / (24 : Int32) * (24 : Int32))]) rfl hf (fun x h' hF => c_X6_askForBox _ _ _ _ _ _ _ _ (x, h') hF) rfl (Nat.le_of_ble_eq_true rfl) (room_ok hX (Nat.le_of_ble_eq_true rfl) (Nat.le_of_ble_eq_true rfl)) (cell_ok hX (Nat.le_of_ble_eq_true rfl) (Nat.le_of_ble_eq_true rfl)) (fun _ h7 hf => ?_)
  refine s_iload C dX6_counts_32 rfl ?_
  refine s_jn hf (fun j53 e53 hf => ?_)
  have k53 : ∀ (x8 : Int32) (h9 : AH), j53 x8 h9 = some r → WW X h9 0 0 53 [none, none, none, none, none, none] [.int x8] := by
    intro x8 h9 hf
    rw [e53] at hf
    refine s_jn hf (fun j61 e61 hf => ?_)
    have k61 : ∀ (x10 : Int32), j61 x10 = some r → WW X h9 0 0 61 [none, none, none, none, none, none] [.int x10] := by
      intro x10 hf
      rw [e61] at hf
      exact s_zreturn C E dX6_counts_61 hf (Nat.le_of_ble_eq_true rfl) (Nat.le_of_ble_eq_true rfl)
    refine s_if_eq (tgt := 60) C dX6_counts_53 (by decide) hf (fun hf => ?_) (fun hf => ?_)
    · refine s_iconst C dX6_counts_60 (v := (0 : Int32)) (by decide) ?_
      exact k61 _ hf
    · refine s_iconst C dX6_counts_56 (v := (1 : Int32)) (by decide) ?_
      refine s_goto (tgt := 61) C dX6_counts_57 (by decide) ?_
      exact k61 _ hf
  refine s_if_ge (tgt := 47) C dX6_counts_34 (by decide) hf (fun hf => ?_) (fun hf => ?_)
  · refine s_aload_n C dX6_counts_47 rfl ?_
    refine s_iload C dX6_counts_48 rfl ?_
    refine s_callV (rvf := fun x => some (.int x)) (st := []) (fr := 3) (lo := 69) (mc := 0) (ms := 0) C [6] wc_X6_work wml_X6_99 wim_X6_work wsl_6_X6_work dX6_counts_50 (As := [.inl a4]) rfl hf (fun x h' hF => c_X6_work _ _ _ _ _ (x, h') hF) rfl (Nat.le_of_ble_eq_true rfl) (room_ok hX (Nat.le_of_ble_eq_true rfl) (Nat.le_of_ble_eq_true rfl)) (cell_ok hX (Nat.le_of_ble_eq_true rfl) (Nat.le_of_ble_eq_true rfl)) (fun v12 h11 hf => ?_)
    refine s_weak (lv' := [none, none, none, none, none, none]) trivial ?_
    exact k53 _ _ hf
  · refine s_aload_n C dX6_counts_37 rfl ?_
    refine s_iconst C dX6_counts_38 (v := (2 : Int32)) (by decide) ?_
    refine s_iload C dX6_counts_39 rfl ?_
    refine s_callV (rvf := fun x => some (.int x)) (st := []) (fr := 4) (lo := 97) (mc := 0) (ms := 0) C [6] wc_X6_answer wml_X6_116 wim_X6_answer wsl_6_X6_answer dX6_counts_41 (As := [.inl (2 : Int32), .inl (a3 / (24 : Int32))]) rfl hf (fun x h' hF => c_X6_answer _ _ _ _ _ _ (x, h') hF) rfl (Nat.le_of_ble_eq_true rfl) (room_ok hX (Nat.le_of_ble_eq_true rfl) (Nat.le_of_ble_eq_true rfl)) (cell_ok hX (Nat.le_of_ble_eq_true rfl) (Nat.le_of_ble_eq_true rfl)) (fun v14 h13 hf => ?_)
    refine s_goto (tgt := 53) C dX6_counts_44 (by decide) ?_
    refine s_weak (lv' := [none, none, none, none, none, none]) trivial ?_
    exact k53 _ _ hf
/-- HillBoxes$Logs.firstThatCounts(I)I -/
noncomputable def f_X4_firstThatCounts (o : Option Nat) (a1 : Int32) (h : AH) : Option (Int32 × AH) :=
  lp (fun _ _ _ => none) (fun (L4 : Int32 → Int32 → AH → Option (Int32 × AH)) (x1 : Int32) (x2 : Int32) (h3 : AH) =>
    fI h3 [4] o 2 fun v4 =>
    if v4 ≤ x2 then
      some (x1, h3)
    else
      fR h3 [4] o 4 fun v5 =>
      aI h3 20 v5 x2 fun v6 =>
      jn (fun (x7 : Int32) (h8 : AH) =>
        jn (fun (x9 : Int32) (h10 : AH) =>
          L4 x9 (x2 + 1) h10) fun j82 =>
        if x7 = 0 then
          j82 x1 h8
        else
          fR h8 [4] o 8 fun v11 =>
          fR h8 [4] o 0 fun v12 =>
          aI h8 20 v12 x2 fun v13 =>
          fR h8 [4] o 5 fun v14 =>
          aI h8 20 v14 x2 fun v15 =>
          rO h8 [6] v11 <| cl (f_X6_counts v11 v13 a1 v15 (-1 : Int32) h8) fun v17 h16 =>
          if v17 = 0 then
            j82 x1 h16
          else
            j82 x2 h16) fun j49 =>
      jn (fun (h18 : AH) =>
        j49 (0 : Int32) h18) fun j48 =>
      if v6 = a1 then
        fR h3 [4] o 1 fun v19 =>
        aI h3 23 v19 x2 fun v20 =>
        if v20 = 0 then
          j48 h3
        else
          jn (fun (h21 : AH) =>
            j49 (1 : Int32) h21) fun j44 =>
          if x1 < 0 then
            j44 h3
          else
            rO h3 [4] o <| cl (f_X4_isBehind o x1 x2 h3) fun v23 h22 =>
            if v23 = 0 then
              j48 h22
            else
              j44 h22
      else
        j48 h3) lpN (-1 : Int32) (0 : Int32) h
set_option maxRecDepth 100000 in
set_option maxHeartbeats 4000000 in
theorem c_X4_firstThatCounts (l : Launch) (D : DT) (o : Option Nat) (a1 : Int32) (h : AH) (r : Int32 × AH) (hf : f_X4_firstThatCounts o a1 h = some r) : CM l D yX4_firstThatCounts cX4_firstThatCounts 5 (some .int) 6 146 0 0 [.inr (.inr o), .inl a1] h (some (.int r.1)) r.2 := by
  refine CM.of (by decide) (Nat.le_of_ble_eq_true rfl) (fun X hl C hD hX hnm E => ?_)
  subst hl
  subst hD
  have C : CX X RX4 cX4_firstThatCounts 5 := C
  show WW X h 0 0 0 [some (rB (xD X).1 o), some (.int a1), none, none, none] []
  unfold f_X4_firstThatCounts at hf
  refine s_iconst C dX4_firstThatCounts_0 (v := (-1 : Int32)) (by decide) ?_
  refine s_istore_n C dX4_firstThatCounts_1 (by decide) (nc_i rfl) (lv' := [some (rB (xD X).1 o), some (.int a1), some (.int (-1 : Int32)), none, none]) rfl ?_
  refine s_iconst C dX4_firstThatCounts_2 (v := (0 : Int32)) (by decide) ?_
  refine s_istore_n C dX4_firstThatCounts_3 (by decide) (nc_i rfl) (lv' := [some (rB (xD X).1 o), some (.int a1), some (.int (-1 : Int32)), some (.int (0 : Int32)), none]) rfl ?_
  refine s_lp3 hf (fun G4 z4 q4 hf => ?_)
  have k4 : ∀ (n : Nat) (x1 : Int32) (x2 : Int32) (h3 : AH), G4 n x1 x2 h3 = some r → WW X h3 0 0 4 [some (rB (xD X).1 o), some (.int a1), some (.int x1), some (.int x2), none] [] := by
    intro n
    induction n with
    | zero =>
      intro x1 x2 h3 hf
      rw [z4] at hf
      cases hf
    | succ n ih4 =>
      intro x1 x2 h3 hf
      have hf := (q4 n x1 x2 h3).symm.trans hf
      refine s_iload_n C dX4_firstThatCounts_4 rfl ?_
      refine s_aload_n C dX4_firstThatCounts_5 rfl ?_
      refine s_getI C fl_X4_39 dX4_firstThatCounts_6 hf (fun v4 hf => ?_)
      refine s_icmp_ge (tgt := 88) C dX4_firstThatCounts_9 (by decide) hf (fun hf => ?_) (fun hf => ?_)
      · refine s_iload_n C dX4_firstThatCounts_88 rfl ?_
        exact s_ireturn C E dX4_firstThatCounts_89 hf (Nat.le_of_ble_eq_true rfl) (Nat.le_of_ble_eq_true rfl)
      · refine s_aload_n C dX4_firstThatCounts_12 rfl ?_
        refine s_getR C fl_X4_22 dX4_firstThatCounts_13 hf (fun v5 hf => ?_)
        refine s_iload_n C dX4_firstThatCounts_16 rfl ?_
        refine s_iaload C dX4_firstThatCounts_17 hf (fun v6 hf => ?_)
        refine s_iload_n C dX4_firstThatCounts_18 rfl ?_
        refine s_jn hf (fun j49 e49 hf => ?_)
        have k49 : ∀ (x7 : Int32) (h8 : AH), j49 x7 h8 = some r → WW X h8 0 0 49 [some (rB (xD X).1 o), some (.int a1), some (.int x1), some (.int x2), none] [.int x7] := by
          intro x7 h8 hf
          rw [e49] at hf
          refine s_istore C dX4_firstThatCounts_49 (by decide) (nc_i rfl) (lv' := [some (rB (xD X).1 o), some (.int a1), some (.int x1), some (.int x2), some (.int x7)]) rfl ?_
          refine s_iload C dX4_firstThatCounts_51 rfl ?_
          refine s_jn hf (fun j82 e82 hf => ?_)
          have k82 : ∀ (x9 : Int32) (h10 : AH), j82 x9 h10 = some r → WW X h10 0 0 82 [some (rB (xD X).1 o), some (.int a1), some (.int x9), some (.int x2), none] [] := by
            intro x9 h10 hf
            rw [e82] at hf
            refine s_iinc C dX4_firstThatCounts_82 (v := (x2 + 1)) rfl rfl (by decide) (nc_i rfl) (lv' := [some (rB (xD X).1 o), some (.int a1), some (.int x9), some (.int (x2 + 1)), none]) rfl ?_
            refine s_goto (tgt := 4) C dX4_firstThatCounts_85 (by decide) ?_
            exact ih4 _ _ _ hf
          refine s_if_eq (tgt := 82) C dX4_firstThatCounts_53 (by decide) hf (fun hf => ?_) (fun hf => ?_)
          · refine s_weak (lv' := [some (rB (xD X).1 o), some (.int a1), some (.int x1), some (.int x2), none]) ⟨rfl, ⟨rfl, ⟨rfl, ⟨rfl, trivial⟩⟩⟩⟩ ?_
            exact k82 _ _ hf
          · refine s_aload_n C dX4_firstThatCounts_56 rfl ?_
            refine s_getR C fl_X4_35 dX4_firstThatCounts_57 hf (fun v11 hf => ?_)
            refine s_aload_n C dX4_firstThatCounts_60 rfl ?_
            refine s_getR C fl_X4_9 dX4_firstThatCounts_61 hf (fun v12 hf => ?_)
            refine s_iload_n C dX4_firstThatCounts_64 rfl ?_
            refine s_iaload C dX4_firstThatCounts_65 hf (fun v13 hf => ?_)
            refine s_iload_n C dX4_firstThatCounts_66 rfl ?_
            refine s_aload_n C dX4_firstThatCounts_67 rfl ?_
            refine s_getR C fl_X4_25 dX4_firstThatCounts_68 hf (fun v14 hf => ?_)
            refine s_iload_n C dX4_firstThatCounts_71 rfl ?_
            refine s_iaload C dX4_firstThatCounts_72 hf (fun v15 hf => ?_)
            refine s_iconst C dX4_firstThatCounts_73 (v := (-1 : Int32)) (by decide) ?_
            refine s_callV (rvf := fun x => some (.int x)) (st := []) (fr := 5) (lo := 121) (mc := 0) (ms := 0) C [6] wc_X6_counts wml_X4_79 wim_X6_counts wsl_6_X6_counts dX4_firstThatCounts_74 (As := [.inl v13, .inl a1, .inl v15, .inl (-1 : Int32)]) rfl hf (fun x h' hF => c_X6_counts _ _ _ _ _ _ _ _ (x, h') hF) rfl (Nat.le_of_ble_eq_true rfl) (room_ok hX (Nat.le_of_ble_eq_true rfl) (Nat.le_of_ble_eq_true rfl)) (cell_ok hX (Nat.le_of_ble_eq_true rfl) (Nat.le_of_ble_eq_true rfl)) (fun v17 h16 hf => ?_)
            refine s_if_eq (tgt := 82) C dX4_firstThatCounts_77 (by decide) hf (fun hf => ?_) (fun hf => ?_)
            · refine s_weak (lv' := [some (rB (xD X).1 o), some (.int a1), some (.int x1), some (.int x2), none]) ⟨rfl, ⟨rfl, ⟨rfl, ⟨rfl, trivial⟩⟩⟩⟩ ?_
              exact k82 _ _ hf
            · refine s_iload_n C dX4_firstThatCounts_80 rfl ?_
              refine s_istore_n C dX4_firstThatCounts_81 (by decide) (nc_i rfl) (lv' := [some (rB (xD X).1 o), some (.int a1), some (.int x2), some (.int x2), some (.int x7)]) rfl ?_
              refine s_weak (lv' := [some (rB (xD X).1 o), some (.int a1), some (.int x2), some (.int x2), none]) ⟨rfl, ⟨rfl, ⟨rfl, ⟨rfl, trivial⟩⟩⟩⟩ ?_
              exact k82 _ _ hf
        refine s_jn hf (fun j48 e48 hf => ?_)
        have k48 : ∀ (h18 : AH), j48 h18 = some r → WW X h18 0 0 48 [some (rB (xD X).1 o), some (.int a1), some (.int x1), some (.int x2), none] [] := by
          intro h18 hf
          rw [e48] at hf
          refine s_iconst C dX4_firstThatCounts_48 (v := (0 : Int32)) (by decide) ?_
          exact k49 _ _ hf
        refine s_icmp_ne (tgt := 48) C dX4_firstThatCounts_19 (by decide) hf (fun hf => ?_) (fun hf => ?_)
        · exact k48 _ hf
        · refine s_aload_n C dX4_firstThatCounts_22 rfl ?_
          refine s_getR C fl_X4_15 dX4_firstThatCounts_23 hf (fun v19 hf => ?_)
          refine s_iload_n C dX4_firstThatCounts_26 rfl ?_
          refine s_zaload C dX4_firstThatCounts_27 hf (fun v20 hf => ?_)
          refine s_if_eq (tgt := 48) C dX4_firstThatCounts_28 (by decide) hf (fun hf => ?_) (fun hf => ?_)
          · exact k48 _ hf
          · refine s_iload_n C dX4_firstThatCounts_31 rfl ?_
            refine s_jn hf (fun j44 e44 hf => ?_)
            have k44 : ∀ (h21 : AH), j44 h21 = some r → WW X h21 0 0 44 [some (rB (xD X).1 o), some (.int a1), some (.int x1), some (.int x2), none] [] := by
              intro h21 hf
              rw [e44] at hf
              refine s_iconst C dX4_firstThatCounts_44 (v := (1 : Int32)) (by decide) ?_
              refine s_goto (tgt := 49) C dX4_firstThatCounts_45 (by decide) ?_
              exact k49 _ _ hf
            refine s_if_lt (tgt := 44) C dX4_firstThatCounts_32 (by decide) hf (fun hf => ?_) (fun hf => ?_)
            · exact k44 _ hf
            · refine s_aload_n C dX4_firstThatCounts_35 rfl ?_
              refine s_iload_n C dX4_firstThatCounts_36 rfl ?_
              refine s_iload_n C dX4_firstThatCounts_37 rfl ?_
              refine s_callV (rvf := fun x => some (.int x)) (st := []) (fr := 0) (lo := 0) (mc := 0) (ms := 0) C [4] wc_X4_isBehind wml_X4_67 wim_X4_isBehind wsl_4_X4_isBehind dX4_firstThatCounts_38 (As := [.inl x1, .inl x2]) rfl hf (fun x h' hF => c_X4_isBehind _ _ _ _ _ _ (x, h') hF) rfl (Nat.le_of_ble_eq_true rfl) (room_ok hX (Nat.le_of_ble_eq_true rfl) (Nat.le_of_ble_eq_true rfl)) (cell_ok hX (Nat.le_of_ble_eq_true rfl) (Nat.le_of_ble_eq_true rfl)) (fun v23 h22 hf => ?_)
              refine s_if_eq (tgt := 48) C dX4_firstThatCounts_41 (by decide) hf (fun hf => ?_) (fun hf => ?_)
              · exact k48 _ hf
              · exact k44 _ hf
  exact k4 lpN _ _ _ hf
/-- HillBoxes.first(I)I -/
noncomputable def f_X11_first (o : Option Nat) (a1 : Int32) (h : AH) : Option (Int32 × AH) :=
  fR h [11] o 0 fun v1 =>
  rO h [3] v1 <| cl (f_X3_boxAt v1 a1 h) fun v3 h2 =>
  if v3 = none then
    some ((-1 : Int32), h2)
  else
    fI h2 [1] v3 15 fun v4 =>
    if v4 ≤ 0 then
      fR h2 [11] o 2 fun v5 =>
      rO h2 [4] v5 <| cl (f_X4_firstThatCounts v5 a1 h2) fun v7 h6 =>
      jn (fun (x8 : Int32) =>
        some (x8, h6)) fun j56 =>
      if 0 ≤ v7 then
        fR h6 [11] o 2 fun v9 =>
        fR h6 [4] v9 0 fun v10 =>
        aI h6 20 v10 v7 fun v11 =>
        j56 v11
      else
        j56 (-2 : Int32)
    else
      fR h2 [1] v3 5 fun v12 =>
      aI h2 20 v12 (0 : Int32) fun v13 =>
      some (v13, h2)
set_option maxRecDepth 100000 in
set_option maxHeartbeats 4000000 in
theorem c_X11_first (l : Launch) (D : DT) (o : Option Nat) (a1 : Int32) (h : AH) (r : Int32 × AH) (hf : f_X11_first o a1 h = some r) : CM l D yX11_first cX11_first 4 (some .int) 7 170 0 0 [.inr (.inr o), .inl a1] h (some (.int r.1)) r.2 := by
  refine CM.of (by decide) (Nat.le_of_ble_eq_true rfl) (fun X hl C hD hX hnm E => ?_)
  subst hl
  subst hD
  have C : CX X RX11 cX11_first 4 := C
  show WW X h 0 0 0 [some (rB (xD X).1 o), some (.int a1), none, none] []
  unfold f_X11_first at hf
  refine s_aload_n C dX11_first_0 rfl ?_
  refine s_getR C fl_X11_10 dX11_first_1 hf (fun v1 hf => ?_)
  refine s_iload_n C dX11_first_4 rfl ?_
  refine s_callV (rvf := fun x => some (rB (xD X).1 x)) (st := []) (fr := 0) (lo := 0) (mc := 0) (ms := 0) C [3] wc_X3_boxAt wml_X11_130 wim_X3_boxAt wsl_3_X3_boxAt dX11_first_5 (As := [.inl a1]) rfl hf (fun x h' hF => c_X3_boxAt _ _ _ _ _ (x, h') hF) rfl (Nat.le_of_ble_eq_true rfl) (room_ok hX (Nat.le_of_ble_eq_true rfl) (Nat.le_of_ble_eq_true rfl)) (cell_ok hX (Nat.le_of_ble_eq_true rfl) (Nat.le_of_ble_eq_true rfl)) (fun v3 h2 hf => ?_)
  refine s_astore_n C dX11_first_8 (by decide) (nc_i rfl) (lv' := [some (rB (xD X).1 o), some (.int a1), some (rB (xD X).1 v3), none]) rfl ?_
  refine s_aload_n C dX11_first_9 rfl ?_
  refine s_ifnonnull (tgt := 15) C dX11_first_10 (by decide) hf (fun hf => ?_) (fun hf => ?_)
  · refine s_aload_n C dX11_first_15 rfl ?_
    refine s_getI C fl_X11_289 dX11_first_16 hf (fun v4 hf => ?_)
    refine s_if_le (tgt := 29) C dX11_first_19 (by decide) hf (fun hf => ?_) (fun hf => ?_)
    · refine s_aload_n C dX11_first_29 rfl ?_
      refine s_getR C fl_X11_30 dX11_first_30 hf (fun v5 hf => ?_)
      refine s_iload_n C dX11_first_33 rfl ?_
      refine s_callV (rvf := fun x => some (.int x)) (st := []) (fr := 6) (lo := 146) (mc := 0) (ms := 0) C [4] wc_X4_firstThatCounts wml_X11_307 wim_X4_firstThatCounts wsl_4_X4_firstThatCounts dX11_first_34 (As := [.inl a1]) rfl hf (fun x h' hF => c_X4_firstThatCounts _ _ _ _ _ (x, h') hF) rfl (Nat.le_of_ble_eq_true rfl) (room_ok hX (Nat.le_of_ble_eq_true rfl) (Nat.le_of_ble_eq_true rfl)) (cell_ok hX (Nat.le_of_ble_eq_true rfl) (Nat.le_of_ble_eq_true rfl)) (fun v7 h6 hf => ?_)
      refine s_istore_n C dX11_first_37 (by decide) (nc_r rfl) (lv' := [some (rB (xD X).1 o), some (.int a1), some (rB (xD X).1 v3), some (.int v7)]) rfl ?_
      refine s_iload_n C dX11_first_38 rfl ?_
      refine s_jn hf (fun j56 e56 hf => ?_)
      have k56 : ∀ (x8 : Int32), j56 x8 = some r → WW X h6 0 0 56 [none, none, none, none] [.int x8] := by
        intro x8 hf
        rw [e56] at hf
        exact s_ireturn C E dX11_first_56 hf (Nat.le_of_ble_eq_true rfl) (Nat.le_of_ble_eq_true rfl)
      refine s_if_ge (tgt := 47) C dX11_first_39 (by decide) hf (fun hf => ?_) (fun hf => ?_)
      · refine s_aload_n C dX11_first_47 rfl ?_
        refine s_getR C fl_X11_30 dX11_first_48 hf (fun v9 hf => ?_)
        refine s_getR C fl_X11_310 dX11_first_51 hf (fun v10 hf => ?_)
        refine s_iload_n C dX11_first_54 rfl ?_
        refine s_iaload C dX11_first_55 hf (fun v11 hf => ?_)
        refine s_weak (lv' := [none, none, none, none]) trivial ?_
        exact k56 _ hf
      · refine s_bipush C dX11_first_42 (v := (-2 : Int32)) (by decide) ?_
        refine s_goto (tgt := 56) C dX11_first_44 (by decide) ?_
        refine s_weak (lv' := [none, none, none, none]) trivial ?_
        exact k56 _ hf
    · refine s_aload_n C dX11_first_22 rfl ?_
      refine s_getR C fl_X11_300 dX11_first_23 hf (fun v12 hf => ?_)
      refine s_iconst C dX11_first_26 (v := (0 : Int32)) (by decide) ?_
      refine s_iaload C dX11_first_27 hf (fun v13 hf => ?_)
      exact s_ireturn C E dX11_first_28 hf (Nat.le_of_ble_eq_true rfl) (Nat.le_of_ble_eq_true rfl)
  · refine s_iconst C dX11_first_13 (v := (-1 : Int32)) (by decide) ?_
    exact s_ireturn C E dX11_first_14 hf (Nat.le_of_ble_eq_true rfl) (Nat.le_of_ble_eq_true rfl)
/-- HillBoxes$Logs.goneFrom(LHillBoxes$Box;)I -/
noncomputable def f_X4_goneFrom (o : Option Nat) (a1 : Option Nat) (h : AH) : Option (Int32 × AH) :=
  fI h [1] a1 14 fun v1 =>
  jn (fun (x2 : Int32) =>
    some (x2, h)) fun j26 =>
  if 0 ≤ v1 then
    fR h [4] o 5 fun v3 =>
    fI h [1] a1 14 fun v4 =>
    aI h 20 v3 v4 fun v5 =>
    j26 v5
  else
    fI h [1] a1 2 fun v6 =>
    j26 ((24 : Int32) * v6)
set_option maxRecDepth 100000 in
set_option maxHeartbeats 4000000 in
theorem c_X4_goneFrom (l : Launch) (D : DT) (o : Option Nat) (a1 : Option Nat) (h : AH) (r : Int32 × AH) (hf : f_X4_goneFrom o a1 h = some r) : CM l D yX4_goneFrom cX4_goneFrom 2 (some .int) 0 0 0 0 [.inr (.inr o), .inr (.inr a1)] h (some (.int r.1)) r.2 := by
  refine CM.of (by decide) (Nat.le_of_ble_eq_true rfl) (fun X hl C hD hX hnm E => ?_)
  subst hl
  subst hD
  have C : CX X RX4 cX4_goneFrom 2 := C
  show WW X h 0 0 0 [some (rB (xD X).1 o), some (rB (xD X).1 a1)] []
  unfold f_X4_goneFrom at hf
  refine s_aload_n C dX4_goneFrom_0 rfl ?_
  refine s_getI C fl_X4_61 dX4_goneFrom_1 hf (fun v1 hf => ?_)
  refine s_jn hf (fun j26 e26 hf => ?_)
  have k26 : ∀ (x2 : Int32), j26 x2 = some r → WW X h 0 0 26 [none, none] [.int x2] := by
    intro x2 hf
    rw [e26] at hf
    exact s_ireturn C E dX4_goneFrom_26 hf (Nat.le_of_ble_eq_true rfl) (Nat.le_of_ble_eq_true rfl)
  refine s_if_ge (tgt := 17) C dX4_goneFrom_4 (by decide) hf (fun hf => ?_) (fun hf => ?_)
  · refine s_aload_n C dX4_goneFrom_17 rfl ?_
    refine s_getR C fl_X4_25 dX4_goneFrom_18 hf (fun v3 hf => ?_)
    refine s_aload_n C dX4_goneFrom_21 rfl ?_
    refine s_getI C fl_X4_61 dX4_goneFrom_22 hf (fun v4 hf => ?_)
    refine s_iaload C dX4_goneFrom_25 hf (fun v5 hf => ?_)
    refine s_weak (lv' := [none, none]) trivial ?_
    exact k26 _ hf
  · refine s_bipush C dX4_goneFrom_7 (v := (24 : Int32)) (by decide) ?_
    refine s_aload_n C dX4_goneFrom_9 rfl ?_
    refine s_getI C fl_X4_121 dX4_goneFrom_10 hf (fun v6 hf => ?_)
    refine s_imul C dX4_goneFrom_13 ?_
    refine s_goto (tgt := 26) C dX4_goneFrom_14 (by decide) ?_
    refine s_weak (lv' := [none, none]) trivial ?_
    exact k26 _ hf
/-- HillBoxes$Logs.isMissBehindFound(ILHillBoxes$Box;)Z -/
noncomputable def f_X4_isMissBehindFound (o : Option Nat) (a1 : Int32) (a2 : Option Nat) (h : AH) : Option (Int32 × AH) :=
  fR h [4] o 4 fun v1 =>
  aI h 20 v1 a1 fun v2 =>
  fI h [1] a2 0 fun v3 =>
  jn (fun (x4 : Int32) (h5 : AH) =>
    rz x4 h5) fun j46 =>
  jn (fun (h6 : AH) =>
    j46 (0 : Int32) h6) fun j45 =>
  if v2 = v3 then
    fR h [4] o 1 fun v7 =>
    aI h 23 v7 a1 fun v8 =>
    if v8 = 0 then
      fI h [1] a2 14 fun v9 =>
      jn (fun (h10 : AH) =>
        j46 (1 : Int32) h10) fun j41 =>
      if v9 < 0 then
        j41 h
      else
        fI h [1] a2 14 fun v11 =>
        rO h [4] o <| cl (f_X4_isBehind o a1 v11 h) fun v13 h12 =>
        if v13 = 0 then
          j45 h12
        else
          j41 h12
    else
      j45 h
  else
    j45 h
set_option maxRecDepth 100000 in
set_option maxHeartbeats 4000000 in
theorem c_X4_isMissBehindFound (l : Launch) (D : DT) (o : Option Nat) (a1 : Int32) (a2 : Option Nat) (h : AH) (r : Int32 × AH) (hf : f_X4_isMissBehindFound o a1 a2 h = some r) : CM l D yX4_isMissBehindFound cX4_isMissBehindFound 3 (some .boolean) 1 22 0 0 [.inr (.inr o), .inl a1, .inr (.inr a2)] h (some (.int r.1)) r.2 := by
  refine CM.of (by decide) (Nat.le_of_ble_eq_true rfl) (fun X hl C hD hX hnm E => ?_)
  subst hl
  subst hD
  have C : CX X RX4 cX4_isMissBehindFound 3 := C
  show WW X h 0 0 0 [some (rB (xD X).1 o), some (.int a1), some (rB (xD X).1 a2)] []
  unfold f_X4_isMissBehindFound at hf
  refine s_aload_n C dX4_isMissBehindFound_0 rfl ?_
  refine s_getR C fl_X4_22 dX4_isMissBehindFound_1 hf (fun v1 hf => ?_)
  refine s_iload_n C dX4_isMissBehindFound_4 rfl ?_
  refine s_iaload C dX4_isMissBehindFound_5 hf (fun v2 hf => ?_)
  refine s_aload_n C dX4_isMissBehindFound_6 rfl ?_
  refine s_getI C fl_X4_64 dX4_isMissBehindFound_7 hf (fun v3 hf => ?_)
  refine s_jn hf (fun j46 e46 hf => ?_)
  have k46 : ∀ (x4 : Int32) (h5 : AH), j46 x4 h5 = some r → WW X h5 0 0 46 [none, none, none] [.int x4] := by
    intro x4 h5 hf
    rw [e46] at hf
    exact s_zreturn C E dX4_isMissBehindFound_46 hf (Nat.le_of_ble_eq_true rfl) (Nat.le_of_ble_eq_true rfl)
  refine s_jn hf (fun j45 e45 hf => ?_)
  have k45 : ∀ (h6 : AH), j45 h6 = some r → WW X h6 0 0 45 [none, none, none] [] := by
    intro h6 hf
    rw [e45] at hf
    refine s_iconst C dX4_isMissBehindFound_45 (v := (0 : Int32)) (by decide) ?_
    exact k46 _ _ hf
  refine s_icmp_ne (tgt := 45) C dX4_isMissBehindFound_10 (by decide) hf (fun hf => ?_) (fun hf => ?_)
  · refine s_weak (lv' := [none, none, none]) trivial ?_
    exact k45 _ hf
  · refine s_aload_n C dX4_isMissBehindFound_13 rfl ?_
    refine s_getR C fl_X4_15 dX4_isMissBehindFound_14 hf (fun v7 hf => ?_)
    refine s_iload_n C dX4_isMissBehindFound_17 rfl ?_
    refine s_zaload C dX4_isMissBehindFound_18 hf (fun v8 hf => ?_)
    refine s_if_ne (tgt := 45) C dX4_isMissBehindFound_19 (by decide) hf (fun hf => ?_) (fun hf => ?_)
    · refine s_weak (lv' := [none, none, none]) trivial ?_
      exact k45 _ hf
    · refine s_aload_n C dX4_isMissBehindFound_22 rfl ?_
      refine s_getI C fl_X4_61 dX4_isMissBehindFound_23 hf (fun v9 hf => ?_)
      refine s_jn hf (fun j41 e41 hf => ?_)
      have k41 : ∀ (h10 : AH), j41 h10 = some r → WW X h10 0 0 41 [none, none, none] [] := by
        intro h10 hf
        rw [e41] at hf
        refine s_iconst C dX4_isMissBehindFound_41 (v := (1 : Int32)) (by decide) ?_
        refine s_goto (tgt := 46) C dX4_isMissBehindFound_42 (by decide) ?_
        exact k46 _ _ hf
      refine s_if_lt (tgt := 41) C dX4_isMissBehindFound_26 (by decide) hf (fun hf => ?_) (fun hf => ?_)
      · refine s_weak (lv' := [none, none, none]) trivial ?_
        exact k41 _ hf
      · refine s_aload_n C dX4_isMissBehindFound_29 rfl ?_
        refine s_iload_n C dX4_isMissBehindFound_30 rfl ?_
        refine s_aload_n C dX4_isMissBehindFound_31 rfl ?_
        refine s_getI C fl_X4_61 dX4_isMissBehindFound_32 hf (fun v11 hf => ?_)
        refine s_callV (rvf := fun x => some (.int x)) (st := []) (fr := 0) (lo := 0) (mc := 0) (ms := 0) C [4] wc_X4_isBehind wml_X4_67 wim_X4_isBehind wsl_4_X4_isBehind dX4_isMissBehindFound_35 (As := [.inl a1, .inl v11]) rfl hf (fun x h' hF => c_X4_isBehind _ _ _ _ _ _ (x, h') hF) rfl (Nat.le_of_ble_eq_true rfl) (room_ok hX (Nat.le_of_ble_eq_true rfl) (Nat.le_of_ble_eq_true rfl)) (cell_ok hX (Nat.le_of_ble_eq_true rfl) (Nat.le_of_ble_eq_true rfl)) (fun v13 h12 hf => ?_)
        refine s_if_eq (tgt := 45) C dX4_isMissBehindFound_38 (by decide) hf (fun hf => ?_) (fun hf => ?_)
        · refine s_weak (lv' := [none, none, none]) trivial ?_
          exact k45 _ hf
        · refine s_weak (lv' := [none, none, none]) trivial ?_
          exact k41 _ hf
/-- HillBoxes$Logs.goneTo(LHillBoxes$Box;)I -/
noncomputable def f_X4_goneTo (o : Option Nat) (a1 : Option Nat) (h : AH) : Option (Int32 × AH) :=
  lp (fun _ _ _ => none) (fun (L4 : Int32 → Int32 → AH → Option (Int32 × AH)) (x1 : Int32) (x2 : Int32) (h3 : AH) =>
    fI h3 [4] o 2 fun v4 =>
    if v4 ≤ x2 then
      some (x1, h3)
    else
      rO h3 [4] o <| cl (f_X4_isMissBehindFound o x2 a1 h3) fun v6 h5 =>
      jn (fun (x7 : Int32) =>
        L4 x7 (x2 + 1) h5) fun j42 =>
      if v6 = 0 then
        j42 x1
      else
        jn (
          fR h5 [4] o 5 fun v8 =>
          aI h5 20 v8 x2 fun v9 =>
          j42 v9) fun j35 =>
        if x1 < 0 then
          j35
        else
          fR h5 [4] o 5 fun v10 =>
          aI h5 20 v10 x2 fun v11 =>
          if x1 ≤ v11 then
            j42 x1
          else
            j35) lpN (-1 : Int32) (0 : Int32) h
set_option maxRecDepth 100000 in
set_option maxHeartbeats 4000000 in
theorem c_X4_goneTo (l : Launch) (D : DT) (o : Option Nat) (a1 : Option Nat) (h : AH) (r : Int32 × AH) (hf : f_X4_goneTo o a1 h = some r) : CM l D yX4_goneTo cX4_goneTo 4 (some .int) 2 44 0 0 [.inr (.inr o), .inr (.inr a1)] h (some (.int r.1)) r.2 := by
  refine CM.of (by decide) (Nat.le_of_ble_eq_true rfl) (fun X hl C hD hX hnm E => ?_)
  subst hl
  subst hD
  have C : CX X RX4 cX4_goneTo 4 := C
  show WW X h 0 0 0 [some (rB (xD X).1 o), some (rB (xD X).1 a1), none, none] []
  unfold f_X4_goneTo at hf
  refine s_iconst C dX4_goneTo_0 (v := (-1 : Int32)) (by decide) ?_
  refine s_istore_n C dX4_goneTo_1 (by decide) (nc_r rfl) (lv' := [some (rB (xD X).1 o), some (rB (xD X).1 a1), some (.int (-1 : Int32)), none]) rfl ?_
  refine s_iconst C dX4_goneTo_2 (v := (0 : Int32)) (by decide) ?_
  refine s_istore_n C dX4_goneTo_3 (by decide) (nc_i rfl) (lv' := [some (rB (xD X).1 o), some (rB (xD X).1 a1), some (.int (-1 : Int32)), some (.int (0 : Int32))]) rfl ?_
  refine s_lp3 hf (fun G4 z4 q4 hf => ?_)
  have k4 : ∀ (n : Nat) (x1 : Int32) (x2 : Int32) (h3 : AH), G4 n x1 x2 h3 = some r → WW X h3 0 0 4 [some (rB (xD X).1 o), some (rB (xD X).1 a1), some (.int x1), some (.int x2)] [] := by
    intro n
    induction n with
    | zero =>
      intro x1 x2 h3 hf
      rw [z4] at hf
      cases hf
    | succ n ih4 =>
      intro x1 x2 h3 hf
      have hf := (q4 n x1 x2 h3).symm.trans hf
      refine s_iload_n C dX4_goneTo_4 rfl ?_
      refine s_aload_n C dX4_goneTo_5 rfl ?_
      refine s_getI C fl_X4_39 dX4_goneTo_6 hf (fun v4 hf => ?_)
      refine s_icmp_ge (tgt := 48) C dX4_goneTo_9 (by decide) hf (fun hf => ?_) (fun hf => ?_)
      · refine s_iload_n C dX4_goneTo_48 rfl ?_
        exact s_ireturn C E dX4_goneTo_49 hf (Nat.le_of_ble_eq_true rfl) (Nat.le_of_ble_eq_true rfl)
      · refine s_aload_n C dX4_goneTo_12 rfl ?_
        refine s_iload_n C dX4_goneTo_13 rfl ?_
        refine s_aload_n C dX4_goneTo_14 rfl ?_
        refine s_callV (rvf := fun x => some (.int x)) (st := []) (fr := 1) (lo := 22) (mc := 0) (ms := 0) C [4] wc_X4_isMissBehindFound wml_X4_71 wim_X4_isMissBehindFound wsl_4_X4_isMissBehindFound dX4_goneTo_15 (As := [.inl x2, .inr (.inr a1)]) rfl hf (fun x h' hF => c_X4_isMissBehindFound _ _ _ _ _ _ (x, h') hF) rfl (Nat.le_of_ble_eq_true rfl) (room_ok hX (Nat.le_of_ble_eq_true rfl) (Nat.le_of_ble_eq_true rfl)) (cell_ok hX (Nat.le_of_ble_eq_true rfl) (Nat.le_of_ble_eq_true rfl)) (fun v6 h5 hf => ?_)
        refine s_jn hf (fun j42 e42 hf => ?_)
        have k42 : ∀ (x7 : Int32), j42 x7 = some r → WW X h5 0 0 42 [some (rB (xD X).1 o), some (rB (xD X).1 a1), some (.int x7), some (.int x2)] [] := by
          intro x7 hf
          rw [e42] at hf
          refine s_iinc C dX4_goneTo_42 (v := (x2 + 1)) rfl rfl (by decide) (nc_i rfl) (lv' := [some (rB (xD X).1 o), some (rB (xD X).1 a1), some (.int x7), some (.int (x2 + 1))]) rfl ?_
          refine s_goto (tgt := 4) C dX4_goneTo_45 (by decide) ?_
          exact ih4 _ _ _ hf
        refine s_if_eq (tgt := 42) C dX4_goneTo_18 (by decide) hf (fun hf => ?_) (fun hf => ?_)
        · exact k42 _ hf
        · refine s_iload_n C dX4_goneTo_21 rfl ?_
          refine s_jn hf (fun j35 e35 hf => ?_)
          have k35 : j35  = some r → WW X h5 0 0 35 [some (rB (xD X).1 o), some (rB (xD X).1 a1), none, some (.int x2)] [] := by
            intro  hf
            rw [e35] at hf
            refine s_aload_n C dX4_goneTo_35 rfl ?_
            refine s_getR C fl_X4_25 dX4_goneTo_36 hf (fun v8 hf => ?_)
            refine s_iload_n C dX4_goneTo_39 rfl ?_
            refine s_iaload C dX4_goneTo_40 hf (fun v9 hf => ?_)
            refine s_istore_n C dX4_goneTo_41 (by decide) (nc_r rfl) (lv' := [some (rB (xD X).1 o), some (rB (xD X).1 a1), some (.int v9), some (.int x2)]) rfl ?_
            exact k42 _ hf
          refine s_if_lt (tgt := 35) C dX4_goneTo_22 (by decide) hf (fun hf => ?_) (fun hf => ?_)
          · refine s_weak (lv' := [some (rB (xD X).1 o), some (rB (xD X).1 a1), none, some (.int x2)]) ⟨rfl, ⟨rfl, ⟨rfl, trivial⟩⟩⟩ ?_
            exact k35 hf
          · refine s_aload_n C dX4_goneTo_25 rfl ?_
            refine s_getR C fl_X4_25 dX4_goneTo_26 hf (fun v10 hf => ?_)
            refine s_iload_n C dX4_goneTo_29 rfl ?_
            refine s_iaload C dX4_goneTo_30 hf (fun v11 hf => ?_)
            refine s_iload_n C dX4_goneTo_31 rfl ?_
            refine s_icmp_ge (tgt := 42) C dX4_goneTo_32 (by decide) hf (fun hf => ?_) (fun hf => ?_)
            · exact k42 _ hf
            · refine s_weak (lv' := [some (rB (xD X).1 o), some (rB (xD X).1 a1), none, some (.int x2)]) ⟨rfl, ⟨rfl, ⟨rfl, trivial⟩⟩⟩ ?_
              exact k35 hf
  exact k4 lpN _ _ _ hf
/-- HillBoxes.gone(II)I -/
noncomputable def f_X11_gone (o : Option Nat) (a1 : Int32) (a2 : Int32) (h : AH) : Option (Int32 × AH) :=
  fR h [11] o 0 fun v1 =>
  rO h [3] v1 <| cl (f_X3_boxAt v1 a1 h) fun v3 h2 =>
  jn (
    some ((-1 : Int32), h2)) fun j22 =>
  if v3 = none then
    j22
  else
    if a2 < 0 then
      j22
    else
      if a2 ≤ (2 : Int32) then
        fI h2 [1] v3 13 fun v4 =>
        jn (fun (x5 : Int32) =>
          if a2 = 0 then
            some (x5, h2)
          else
            if x5 = (2 : Int32) then
              jn (fun (x6 : Int32) (h7 : AH) =>
                some (x6, h7)) fun j90 =>
              if a2 = (1 : Int32) then
                fR h2 [11] o 2 fun v11 =>
                rO h2 [4] v11 <| cl (f_X4_goneFrom v11 v3 h2) fun v13 h12 =>
                j90 v13 h12
              else
                fR h2 [11] o 2 fun v8 =>
                rO h2 [4] v8 <| cl (f_X4_goneTo v8 v3 h2) fun v10 h9 =>
                j90 v10 h9
            else
              some ((-2 : Int32), h2)) fun j48 =>
        if v4 < (3 : Int32) then
          fI h2 [1] v3 13 fun v14 =>
          if v14 ≤ 0 then
            j48 (0 : Int32)
          else
            j48 (1 : Int32)
        else
          j48 (2 : Int32)
      else
        j22
set_option maxRecDepth 100000 in
set_option maxHeartbeats 4000000 in
theorem c_X11_gone (l : Launch) (D : DT) (o : Option Nat) (a1 : Int32) (a2 : Int32) (h : AH) (r : Int32 × AH) (hf : f_X11_gone o a1 a2 h = some r) : CM l D yX11_gone cX11_gone 5 (some .int) 3 67 0 0 [.inr (.inr o), .inl a1, .inl a2] h (some (.int r.1)) r.2 := by
  refine CM.of (by decide) (Nat.le_of_ble_eq_true rfl) (fun X hl C hD hX hnm E => ?_)
  subst hl
  subst hD
  have C : CX X RX11 cX11_gone 5 := C
  show WW X h 0 0 0 [some (rB (xD X).1 o), some (.int a1), some (.int a2), none, none] []
  unfold f_X11_gone at hf
  refine s_aload_n C dX11_gone_0 rfl ?_
  refine s_getR C fl_X11_10 dX11_gone_1 hf (fun v1 hf => ?_)
  refine s_iload_n C dX11_gone_4 rfl ?_
  refine s_callV (rvf := fun x => some (rB (xD X).1 x)) (st := []) (fr := 0) (lo := 0) (mc := 0) (ms := 0) C [3] wc_X3_boxAt wml_X11_130 wim_X3_boxAt wsl_3_X3_boxAt dX11_gone_5 (As := [.inl a1]) rfl hf (fun x h' hF => c_X3_boxAt _ _ _ _ _ (x, h') hF) rfl (Nat.le_of_ble_eq_true rfl) (room_ok hX (Nat.le_of_ble_eq_true rfl) (Nat.le_of_ble_eq_true rfl)) (cell_ok hX (Nat.le_of_ble_eq_true rfl) (Nat.le_of_ble_eq_true rfl)) (fun v3 h2 hf => ?_)
  refine s_astore_n C dX11_gone_8 (by decide) (nc_i rfl) (lv' := [some (rB (xD X).1 o), some (.int a1), some (.int a2), some (rB (xD X).1 v3), none]) rfl ?_
  refine s_aload_n C dX11_gone_9 rfl ?_
  refine s_jn hf (fun j22 e22 hf => ?_)
  have k22 : j22  = some r → WW X h2 0 0 22 [none, none, none, none, none] [] := by
    intro  hf
    rw [e22] at hf
    refine s_iconst C dX11_gone_22 (v := (-1 : Int32)) (by decide) ?_
    exact s_ireturn C E dX11_gone_23 hf (Nat.le_of_ble_eq_true rfl) (Nat.le_of_ble_eq_true rfl)
  refine s_ifnull (tgt := 22) C dX11_gone_10 (by decide) hf (fun hf => ?_) (fun hf => ?_)
  · refine s_weak (lv' := [none, none, none, none, none]) trivial ?_
    exact k22 hf
  · refine s_iload_n C dX11_gone_13 rfl ?_
    refine s_if_lt (tgt := 22) C dX11_gone_14 (by decide) hf (fun hf => ?_) (fun hf => ?_)
    · refine s_weak (lv' := [none, none, none, none, none]) trivial ?_
      exact k22 hf
    · refine s_iload_n C dX11_gone_17 rfl ?_
      refine s_iconst C dX11_gone_18 (v := (2 : Int32)) (by decide) ?_
      refine s_icmp_le (tgt := 24) C dX11_gone_19 (by decide) hf (fun hf => ?_) (fun hf => ?_)
      · refine s_aload_n C dX11_gone_24 rfl ?_
        refine s_getI C fl_X11_322 dX11_gone_25 hf (fun v4 hf => ?_)
        refine s_iconst C dX11_gone_28 (v := (3 : Int32)) (by decide) ?_
        refine s_jn hf (fun j48 e48 hf => ?_)
        have k48 : ∀ (x5 : Int32), j48 x5 = some r → WW X h2 0 0 48 [some (rB (xD X).1 o), none, some (.int a2), some (rB (xD X).1 v3), none] [.int x5] := by
          intro x5 hf
          rw [e48] at hf
          refine s_istore C dX11_gone_48 (by decide) (nc_r rfl) (lv' := [some (rB (xD X).1 o), none, some (.int a2), some (rB (xD X).1 v3), some (.int x5)]) rfl ?_
          refine s_iload_n C dX11_gone_50 rfl ?_
          refine s_if_ne (tgt := 57) C dX11_gone_51 (by decide) hf (fun hf => ?_) (fun hf => ?_)
          · refine s_iload C dX11_gone_57 rfl ?_
            refine s_iconst C dX11_gone_59 (v := (2 : Int32)) (by decide) ?_
            refine s_icmp_eq (tgt := 66) C dX11_gone_60 (by decide) hf (fun hf => ?_) (fun hf => ?_)
            · refine s_iload_n C dX11_gone_66 rfl ?_
              refine s_iconst C dX11_gone_67 (v := (1 : Int32)) (by decide) ?_
              refine s_jn hf (fun j90 e90 hf => ?_)
              have k90 : ∀ (x6 : Int32) (h7 : AH), j90 x6 h7 = some r → WW X h7 0 0 90 [none, none, none, none, none] [.int x6] := by
                intro x6 h7 hf
                rw [e90] at hf
                exact s_ireturn C E dX11_gone_90 hf (Nat.le_of_ble_eq_true rfl) (Nat.le_of_ble_eq_true rfl)
              refine s_icmp_ne (tgt := 82) C dX11_gone_68 (by decide) hf (fun hf => ?_) (fun hf => ?_)
              · refine s_aload_n C dX11_gone_82 rfl ?_
                refine s_getR C fl_X11_30 dX11_gone_83 hf (fun v8 hf => ?_)
                refine s_aload_n C dX11_gone_86 rfl ?_
                refine s_callV (rvf := fun x => some (.int x)) (st := []) (fr := 2) (lo := 44) (mc := 0) (ms := 0) C [4] wc_X4_goneTo wml_X11_329 wim_X4_goneTo wsl_4_X4_goneTo dX11_gone_87 (As := [.inr (.inr v3)]) rfl hf (fun x h' hF => c_X4_goneTo _ _ _ _ _ (x, h') hF) rfl (Nat.le_of_ble_eq_true rfl) (room_ok hX (Nat.le_of_ble_eq_true rfl) (Nat.le_of_ble_eq_true rfl)) (cell_ok hX (Nat.le_of_ble_eq_true rfl) (Nat.le_of_ble_eq_true rfl)) (fun v10 h9 hf => ?_)
                refine s_weak (lv' := [none, none, none, none, none]) trivial ?_
                exact k90 _ _ hf
              · refine s_aload_n C dX11_gone_71 rfl ?_
                refine s_getR C fl_X11_30 dX11_gone_72 hf (fun v11 hf => ?_)
                refine s_aload_n C dX11_gone_75 rfl ?_
                refine s_callV (rvf := fun x => some (.int x)) (st := []) (fr := 0) (lo := 0) (mc := 0) (ms := 0) C [4] wc_X4_goneFrom wml_X11_325 wim_X4_goneFrom wsl_4_X4_goneFrom dX11_gone_76 (As := [.inr (.inr v3)]) rfl hf (fun x h' hF => c_X4_goneFrom _ _ _ _ _ (x, h') hF) rfl (Nat.le_of_ble_eq_true rfl) (room_ok hX (Nat.le_of_ble_eq_true rfl) (Nat.le_of_ble_eq_true rfl)) (cell_ok hX (Nat.le_of_ble_eq_true rfl) (Nat.le_of_ble_eq_true rfl)) (fun v13 h12 hf => ?_)
                refine s_goto (tgt := 90) C dX11_gone_79 (by decide) ?_
                refine s_weak (lv' := [none, none, none, none, none]) trivial ?_
                exact k90 _ _ hf
            · refine s_bipush C dX11_gone_63 (v := (-2 : Int32)) (by decide) ?_
              exact s_ireturn C E dX11_gone_65 hf (Nat.le_of_ble_eq_true rfl) (Nat.le_of_ble_eq_true rfl)
          · refine s_iload C dX11_gone_54 rfl ?_
            exact s_ireturn C E dX11_gone_56 hf (Nat.le_of_ble_eq_true rfl) (Nat.le_of_ble_eq_true rfl)
        refine s_icmp_lt (tgt := 36) C dX11_gone_29 (by decide) hf (fun hf => ?_) (fun hf => ?_)
        · refine s_aload_n C dX11_gone_36 rfl ?_
          refine s_getI C fl_X11_322 dX11_gone_37 hf (fun v14 hf => ?_)
          refine s_if_le (tgt := 47) C dX11_gone_40 (by decide) hf (fun hf => ?_) (fun hf => ?_)
          · refine s_iconst C dX11_gone_47 (v := (0 : Int32)) (by decide) ?_
            refine s_weak (lv' := [some (rB (xD X).1 o), none, some (.int a2), some (rB (xD X).1 v3), none]) ⟨rfl, ⟨rfl, ⟨rfl, trivial⟩⟩⟩ ?_
            exact k48 _ hf
          · refine s_iconst C dX11_gone_43 (v := (1 : Int32)) (by decide) ?_
            refine s_goto (tgt := 48) C dX11_gone_44 (by decide) ?_
            refine s_weak (lv' := [some (rB (xD X).1 o), none, some (.int a2), some (rB (xD X).1 v3), none]) ⟨rfl, ⟨rfl, ⟨rfl, trivial⟩⟩⟩ ?_
            exact k48 _ hf
        · refine s_iconst C dX11_gone_32 (v := (2 : Int32)) (by decide) ?_
          refine s_goto (tgt := 48) C dX11_gone_33 (by decide) ?_
          refine s_weak (lv' := [some (rB (xD X).1 o), none, some (.int a2), some (rB (xD X).1 v3), none]) ⟨rfl, ⟨rfl, ⟨rfl, trivial⟩⟩⟩ ?_
          exact k48 _ hf
      · refine s_weak (lv' := [none, none, none, none, none]) trivial ?_
        exact k22 hf
/-- HillBoxes.asToldToTheAsker(I)I -/
noncomputable def f_X11_asToldToTheAsker (a0 : Int32) (h : AH) : Option (Int32 × AH) :=
  jn (fun (x1 : Int32) =>
    some (x1, h)) fun j10 =>
  if a0 = (4 : Int32) then
    j10 (3 : Int32)
  else
    j10 a0
set_option maxRecDepth 100000 in
set_option maxHeartbeats 4000000 in
theorem c_X11_asToldToTheAsker (l : Launch) (D : DT) (a0 : Int32) (h : AH) (r : Int32 × AH) (hf : f_X11_asToldToTheAsker a0 h = some r) : CM l D yX11_asToldToTheAsker cX11_asToldToTheAsker 1 (some .int) 0 0 0 0 [.inl a0] h (some (.int r.1)) r.2 := by
  refine CM.of (by decide) (Nat.le_of_ble_eq_true rfl) (fun X hl C hD hX hnm E => ?_)
  subst hl
  subst hD
  have C : CX X RX11 cX11_asToldToTheAsker 1 := C
  show WW X h 0 0 0 [some (.int a0)] []
  unfold f_X11_asToldToTheAsker at hf
  refine s_iload_n C dX11_asToldToTheAsker_0 rfl ?_
  refine s_iconst C dX11_asToldToTheAsker_1 (v := (4 : Int32)) (by decide) ?_
  refine s_jn hf (fun j10 e10 hf => ?_)
  have k10 : ∀ (x1 : Int32), j10 x1 = some r → WW X h 0 0 10 [none] [.int x1] := by
    intro x1 hf
    rw [e10] at hf
    exact s_ireturn C E dX11_asToldToTheAsker_10 hf (Nat.le_of_ble_eq_true rfl) (Nat.le_of_ble_eq_true rfl)
  refine s_icmp_ne (tgt := 9) C dX11_asToldToTheAsker_2 (by decide) hf (fun hf => ?_) (fun hf => ?_)
  · refine s_iload_n C dX11_asToldToTheAsker_9 rfl ?_
    refine s_weak (lv' := [none]) trivial ?_
    exact k10 _ hf
  · refine s_iconst C dX11_asToldToTheAsker_5 (v := (3 : Int32)) (by decide) ?_
    refine s_goto (tgt := 10) C dX11_asToldToTheAsker_6 (by decide) ?_
    refine s_weak (lv' := [none]) trivial ?_
    exact k10 _ hf
/-- HillBoxes.isKindOfBox(I)Z -/
noncomputable def f_X11_isKindOfBox (a0 : Int32) (h : AH) : Option (Int32 × AH) :=
  jn (fun (x1 : Int32) =>
    rz x1 h) fun j15 =>
  jn (
    j15 (0 : Int32)) fun j14 =>
  if a0 < (1 : Int32) then
    j14
  else
    if (5 : Int32) < a0 then
      j14
    else
      j15 (1 : Int32)
set_option maxRecDepth 100000 in
set_option maxHeartbeats 4000000 in
theorem c_X11_isKindOfBox (l : Launch) (D : DT) (a0 : Int32) (h : AH) (r : Int32 × AH) (hf : f_X11_isKindOfBox a0 h = some r) : CM l D yX11_isKindOfBox cX11_isKindOfBox 1 (some .boolean) 0 0 0 0 [.inl a0] h (some (.int r.1)) r.2 := by
  refine CM.of (by decide) (Nat.le_of_ble_eq_true rfl) (fun X hl C hD hX hnm E => ?_)
  subst hl
  subst hD
  have C : CX X RX11 cX11_isKindOfBox 1 := C
  show WW X h 0 0 0 [some (.int a0)] []
  unfold f_X11_isKindOfBox at hf
  refine s_iload_n C dX11_isKindOfBox_0 rfl ?_
  refine s_iconst C dX11_isKindOfBox_1 (v := (1 : Int32)) (by decide) ?_
  refine s_jn hf (fun j15 e15 hf => ?_)
  have k15 : ∀ (x1 : Int32), j15 x1 = some r → WW X h 0 0 15 [none] [.int x1] := by
    intro x1 hf
    rw [e15] at hf
    exact s_zreturn C E dX11_isKindOfBox_15 hf (Nat.le_of_ble_eq_true rfl) (Nat.le_of_ble_eq_true rfl)
  refine s_jn hf (fun j14 e14 hf => ?_)
  have k14 : j14  = some r → WW X h 0 0 14 [none] [] := by
    intro  hf
    rw [e14] at hf
    refine s_iconst C dX11_isKindOfBox_14 (v := (0 : Int32)) (by decide) ?_
    exact k15 _ hf
  refine s_icmp_lt (tgt := 14) C dX11_isKindOfBox_2 (by decide) hf (fun hf => ?_) (fun hf => ?_)
  · refine s_weak (lv' := [none]) trivial ?_
    exact k14 hf
  · refine s_iload_n C dX11_isKindOfBox_5 rfl ?_
    refine s_iconst C dX11_isKindOfBox_6 (v := (5 : Int32)) (by decide) ?_
    refine s_icmp_gt (tgt := 14) C dX11_isKindOfBox_7 (by decide) hf (fun hf => ?_) (fun hf => ?_)
    · refine s_weak (lv' := [none]) trivial ?_
      exact k14 hf
    · refine s_iconst C dX11_isKindOfBox_10 (v := (1 : Int32)) (by decide) ?_
      refine s_goto (tgt := 15) C dX11_isKindOfBox_11 (by decide) ?_
      refine s_weak (lv' := [none]) trivial ?_
      exact k15 _ hf
/-- HillBoxes.mayBeAsked(II)Z -/
noncomputable def f_X11_mayBeAsked (o : Option Nat) (a1 : Int32) (a2 : Int32) (h : AH) : Option (Int32 × AH) :=
  cl (f_X11_isKindOfBox a1 h) fun v2 h1 =>
  jn (fun (x3 : Int32) (h4 : AH) =>
    rz x3 h4) fun j34 =>
  jn (fun (h5 : AH) =>
    j34 (0 : Int32) h5) fun j33 =>
  if v2 = 0 then
    j33 h1
  else
    cl (f_X11_isCell a2 h1) fun v7 h6 =>
    if v7 = 0 then
      j33 h6
    else
      jn (
        j34 (1 : Int32) h6) fun j29 =>
      if a1 = (3 : Int32) then
        fR h6 [11] o 0 fun v8 =>
        fI h6 [3] v8 5 fun v9 =>
        if v9 ≤ 0 then
          j33 h6
        else
          j29
      else
        j29
set_option maxRecDepth 100000 in
set_option maxHeartbeats 4000000 in
theorem c_X11_mayBeAsked (l : Launch) (D : DT) (o : Option Nat) (a1 : Int32) (a2 : Int32) (h : AH) (r : Int32 × AH) (hf : f_X11_mayBeAsked o a1 a2 h = some r) : CM l D yX11_mayBeAsked cX11_mayBeAsked 3 (some .boolean) 1 20 0 0 [.inr (.inr o), .inl a1, .inl a2] h (some (.int r.1)) r.2 := by
  refine CM.of (by decide) (Nat.le_of_ble_eq_true rfl) (fun X hl C hD hX hnm E => ?_)
  subst hl
  subst hD
  have C : CX X RX11 cX11_mayBeAsked 3 := C
  show WW X h 0 0 0 [some (rB (xD X).1 o), some (.int a1), some (.int a2)] []
  unfold f_X11_mayBeAsked at hf
  refine s_iload_n C dX11_mayBeAsked_0 rfl ?_
  refine s_callS (rvf := fun x => some (.int x)) (st := []) (fr := 0) (lo := 0) (mc := 0) (ms := 0) C wc_X11_isKindOfBox wml_X11_493 wst_X11_isKindOfBox dX11_mayBeAsked_1 (As := [.inl a1]) rfl hf (fun x h' hF => c_X11_isKindOfBox _ _ _ _ (x, h') hF) rfl (Nat.le_of_ble_eq_true rfl) (room_ok hX (Nat.le_of_ble_eq_true rfl) (Nat.le_of_ble_eq_true rfl)) (cell_ok hX (Nat.le_of_ble_eq_true rfl) (Nat.le_of_ble_eq_true rfl)) (fun v2 h1 hf => ?_)
  refine s_jn hf (fun j34 e34 hf => ?_)
  have k34 : ∀ (x3 : Int32) (h4 : AH), j34 x3 h4 = some r → WW X h4 0 0 34 [none, none, none] [.int x3] := by
    intro x3 h4 hf
    rw [e34] at hf
    exact s_zreturn C E dX11_mayBeAsked_34 hf (Nat.le_of_ble_eq_true rfl) (Nat.le_of_ble_eq_true rfl)
  refine s_jn hf (fun j33 e33 hf => ?_)
  have k33 : ∀ (h5 : AH), j33 h5 = some r → WW X h5 0 0 33 [none, none, none] [] := by
    intro h5 hf
    rw [e33] at hf
    refine s_iconst C dX11_mayBeAsked_33 (v := (0 : Int32)) (by decide) ?_
    exact k34 _ _ hf
  refine s_if_eq (tgt := 33) C dX11_mayBeAsked_4 (by decide) hf (fun hf => ?_) (fun hf => ?_)
  · refine s_weak (lv' := [none, none, none]) trivial ?_
    exact k33 _ hf
  · refine s_iload_n C dX11_mayBeAsked_7 rfl ?_
    refine s_callS (rvf := fun x => some (.int x)) (st := []) (fr := 0) (lo := 0) (mc := 0) (ms := 0) C wc_X11_isCell wml_X11_56 wst_X11_isCell dX11_mayBeAsked_8 (As := [.inl a2]) rfl hf (fun x h' hF => c_X11_isCell _ _ _ _ (x, h') hF) rfl (Nat.le_of_ble_eq_true rfl) (room_ok hX (Nat.le_of_ble_eq_true rfl) (Nat.le_of_ble_eq_true rfl)) (cell_ok hX (Nat.le_of_ble_eq_true rfl) (Nat.le_of_ble_eq_true rfl)) (fun v7 h6 hf => ?_)
    refine s_if_eq (tgt := 33) C dX11_mayBeAsked_11 (by decide) hf (fun hf => ?_) (fun hf => ?_)
    · refine s_weak (lv' := [none, none, none]) trivial ?_
      exact k33 _ hf
    · refine s_iload_n C dX11_mayBeAsked_14 rfl ?_
      refine s_iconst C dX11_mayBeAsked_15 (v := (3 : Int32)) (by decide) ?_
      refine s_jn hf (fun j29 e29 hf => ?_)
      have k29 : j29  = some r → WW X h6 0 0 29 [none, none, none] [] := by
        intro  hf
        rw [e29] at hf
        refine s_iconst C dX11_mayBeAsked_29 (v := (1 : Int32)) (by decide) ?_
        refine s_goto (tgt := 34) C dX11_mayBeAsked_30 (by decide) ?_
        exact k34 _ _ hf
      refine s_icmp_ne (tgt := 29) C dX11_mayBeAsked_16 (by decide) hf (fun hf => ?_) (fun hf => ?_)
      · refine s_weak (lv' := [none, none, none]) trivial ?_
        exact k29 hf
      · refine s_aload_n C dX11_mayBeAsked_19 rfl ?_
        refine s_getR C fl_X11_10 dX11_mayBeAsked_20 hf (fun v8 hf => ?_)
        refine s_getI C fl_X11_100 dX11_mayBeAsked_23 hf (fun v9 hf => ?_)
        refine s_if_le (tgt := 33) C dX11_mayBeAsked_26 (by decide) hf (fun hf => ?_) (fun hf => ?_)
        · refine s_weak (lv' := [none, none, none]) trivial ?_
          exact k33 _ hf
        · refine s_weak (lv' := [none, none, none]) trivial ?_
          exact k29 hf
/-- HillBoxes$Riddle.<init>()V -/
noncomputable def f_X5_init (o : Option Nat) (h : AH) : Option (Unit × AH) :=
  rO h [5] o <|
  nO h 20 8 fun v1 h2 =>
  pR h2 [5] o 3 v1 fun h3 =>
  nO h3 20 8 fun v4 h5 =>
  pR h5 [5] o 4 v4 fun h6 =>
  nO h6 20 8 fun v7 h8 =>
  pR h8 [5] o 5 v7 fun h9 =>
  nO h9 20 8 fun v10 h11 =>
  pR h11 [5] o 6 v10 fun h12 =>
  nO h12 20 8 fun v13 h14 =>
  pR h14 [5] o 7 v13 fun h15 =>
  pI h15 [5] o 10 (-1 : Int32) fun h16 =>
  pI h16 [5] o 11 (-1 : Int32) fun h17 =>
  nO h17 20 6 fun v18 h19 =>
  pR h19 [5] o 12 v18 fun h20 =>
  some ((), h20)
set_option maxRecDepth 100000 in
set_option maxHeartbeats 4000000 in
theorem c_X5_init (l : Launch) (D : DT) (o : Option Nat) (h : AH) (r : Unit × AH) (hf : f_X5_init o h = some r) : CM l D yX5_init cX5_init 1 none 1 20 6 46 [.inr (.inr o)] h none r.2 := by
  refine CM.of (by decide) (Nat.le_of_ble_eq_true rfl) (fun X hl C hD hX hnm E => ?_)
  subst hl
  subst hD
  have C : CX X RX5 cX5_init 1 := C
  show WW X h 0 0 0 [some (rB (xD X).1 o)] []
  unfold f_X5_init at hf
  refine s_aload_n C dX5_init_0 rfl ?_
  refine s_objInit C wml_X5_3 wim_obj wcd_obj dX5_init_1 (cs := [5]) hf (Nat.le_of_ble_eq_true rfl) (room_n hX (Nat.le_of_ble_eq_true rfl) (Nat.le_of_ble_eq_true rfl)) (fun hf => ?_)
  refine s_aload_n C dX5_init_4 rfl ?_
  refine s_bipush C dX5_init_5 (v := (8 : Int32)) (by decide) ?_
  refine s_newarray C (t := 20) (N := 8) rfl (by decide) wac_20 dX5_init_7 (by decide) (by decide) (Nat.le_of_ble_eq_true rfl) hf (cell1 hX (Nat.le_of_ble_eq_true rfl)) (cell2 hX (Nat.le_of_ble_eq_true rfl)) (fun v1 h2 hf => ?_)
  refine s_putFR C fl_X5_11 (by decide +kernel) hnm dX5_init_9 hf (fun h3 hf => ?_)
  refine s_aload_n C dX5_init_12 rfl ?_
  refine s_bipush C dX5_init_13 (v := (8 : Int32)) (by decide) ?_
  refine s_newarray C (t := 20) (N := 8) rfl (by decide) wac_20 dX5_init_15 (by decide) (by decide) (Nat.le_of_ble_eq_true rfl) hf (cell1 hX (Nat.le_of_ble_eq_true rfl)) (cell2 hX (Nat.le_of_ble_eq_true rfl)) (fun v4 h5 hf => ?_)
  refine s_putFR C fl_X5_15 (by decide +kernel) hnm dX5_init_17 hf (fun h6 hf => ?_)
  refine s_aload_n C dX5_init_20 rfl ?_
  refine s_bipush C dX5_init_21 (v := (8 : Int32)) (by decide) ?_
  refine s_newarray C (t := 20) (N := 8) rfl (by decide) wac_20 dX5_init_23 (by decide) (by decide) (Nat.le_of_ble_eq_true rfl) hf (cell1 hX (Nat.le_of_ble_eq_true rfl)) (cell2 hX (Nat.le_of_ble_eq_true rfl)) (fun v7 h8 hf => ?_)
  refine s_putFR C fl_X5_18 (by decide +kernel) hnm dX5_init_25 hf (fun h9 hf => ?_)
  refine s_aload_n C dX5_init_28 rfl ?_
  refine s_bipush C dX5_init_29 (v := (8 : Int32)) (by decide) ?_
  refine s_newarray C (t := 20) (N := 8) rfl (by decide) wac_20 dX5_init_31 (by decide) (by decide) (Nat.le_of_ble_eq_true rfl) hf (cell1 hX (Nat.le_of_ble_eq_true rfl)) (cell2 hX (Nat.le_of_ble_eq_true rfl)) (fun v10 h11 hf => ?_)
  refine s_putFR C fl_X5_21 (by decide +kernel) hnm dX5_init_33 hf (fun h12 hf => ?_)
  refine s_aload_n C dX5_init_36 rfl ?_
  refine s_bipush C dX5_init_37 (v := (8 : Int32)) (by decide) ?_
  refine s_newarray C (t := 20) (N := 8) rfl (by decide) wac_20 dX5_init_39 (by decide) (by decide) (Nat.le_of_ble_eq_true rfl) hf (cell1 hX (Nat.le_of_ble_eq_true rfl)) (cell2 hX (Nat.le_of_ble_eq_true rfl)) (fun v13 h14 hf => ?_)
  refine s_putFR C fl_X5_24 (by decide +kernel) hnm dX5_init_41 hf (fun h15 hf => ?_)
  refine s_aload_n C dX5_init_44 rfl ?_
  refine s_iconst C dX5_init_45 (v := (-1 : Int32)) (by decide) ?_
  refine s_putI C fl_X5_27 (by decide) dX5_init_46 hf (fun h16 hf => ?_)
  refine s_aload_n C dX5_init_49 rfl ?_
  refine s_iconst C dX5_init_50 (v := (-1 : Int32)) (by decide) ?_
  refine s_putI C fl_X5_31 (by decide) dX5_init_51 hf (fun h17 hf => ?_)
  refine s_aload_n C dX5_init_54 rfl ?_
  refine s_bipush C dX5_init_55 (v := (6 : Int32)) (by decide) ?_
  refine s_newarray C (t := 20) (N := 6) rfl (by decide) wac_20 dX5_init_57 (by decide) (by decide) (Nat.le_of_ble_eq_true rfl) hf (cell1 hX (Nat.le_of_ble_eq_true rfl)) (cell2 hX (Nat.le_of_ble_eq_true rfl)) (fun v18 h19 hf => ?_)
  refine s_putFR C fl_X5_34 (by decide +kernel) hnm dX5_init_59 hf (fun h20 hf => ?_)
  exact s_return C E dX5_init_62 hf (Nat.le_of_ble_eq_true rfl) (Nat.le_of_ble_eq_true rfl)
/-- HillBoxes$Box.<init>(IIIII)V -/
noncomputable def f_X1_init (o : Option Nat) (a1 : Int32) (a2 : Int32) (a3 : Int32) (a4 : Int32) (a5 : Int32) (h : AH) : Option (Unit × AH) :=
  rO h [1] o <| cl (f_X0_init o a1 a2 h) fun _ h1 =>
  nO h1 20 4 fun v2 h3 =>
  pR h3 [1] o 4 v2 fun h4 =>
  nO h4 20 40 fun v5 h6 =>
  pR h6 [1] o 5 v5 fun h7 =>
  nO h7 20 8 fun v8 h9 =>
  pR h9 [1] o 6 v8 fun h10 =>
  pI h10 [1] o 11 (-1 : Int32) fun h11 =>
  pI h11 [1] o 14 (-1 : Int32) fun h12 =>
  pI h12 [1] o 18 (-1 : Int32) fun h13 =>
  pI h13 [1] o 8 a3 fun h14 =>
  pI h14 [1] o 9 a4 fun h15 =>
  pI h15 [1] o 3 a4 fun h16 =>
  pI h16 [1] o 2 a5 fun h17 =>
  jn (fun (x18 : Option Nat) (h19 : AH) =>
    pR h19 [1] o 7 x18 fun h20 =>
    some ((), h20)) fun j89 =>
  jn (
    nO h17 5 15 fun v21 h22 =>
    rO h22 [5] v21 <| cl (f_X5_init v21 h22) fun _ h23 =>
    j89 v21 h23) fun j78 =>
  if a2 = (2 : Int32) then
    j78
  else
    if a2 = (5 : Int32) then
      j78
    else
      j89 none h17
set_option maxRecDepth 100000 in
set_option maxHeartbeats 4000000 in
theorem c_X1_init (l : Launch) (D : DT) (o : Option Nat) (a1 : Int32) (a2 : Int32) (a3 : Int32) (a4 : Int32) (a5 : Int32) (h : AH) (r : Unit × AH) (hf : f_X1_init o a1 a2 a3 a4 a5 h = some r) : CM l D yX1_init cX1_init 6 none 2 42 10 113 [.inr (.inr o), .inl a1, .inl a2, .inl a3, .inl a4, .inl a5] h none r.2 := by
  refine CM.of (by decide) (Nat.le_of_ble_eq_true rfl) (fun X hl C hD hX hnm E => ?_)
  subst hl
  subst hD
  have C : CX X RX1 cX1_init 6 := C
  show WW X h 0 0 0 [some (rB (xD X).1 o), some (.int a1), some (.int a2), some (.int a3), some (.int a4), some (.int a5)] []
  unfold f_X1_init at hf
  refine s_aload_n C dX1_init_0 rfl ?_
  refine s_iload_n C dX1_init_1 rfl ?_
  refine s_iload_n C dX1_init_2 rfl ?_
  refine s_callI (st := []) (fr := 1) (lo := 20) (mc := 0) (ms := 0) C wc_X0_init wml_X1_3 wim_X0_init rfl dX1_init_3 (As := [.inl a1, .inl a2]) rfl (a0 := 1) hf (fun h' hF => c_X0_init _ _ _ _ _ _ ((), h') hF) rfl (Nat.le_of_ble_eq_true rfl) (room_ok hX (Nat.le_of_ble_eq_true rfl) (Nat.le_of_ble_eq_true rfl)) (cell_ok hX (Nat.le_of_ble_eq_true rfl) (Nat.le_of_ble_eq_true rfl)) (fun h1 hf => ?_)
  refine s_aload_n C dX1_init_6 rfl ?_
  refine s_iconst C dX1_init_7 (v := (4 : Int32)) (by decide) ?_
  refine s_newarray C (t := 20) (N := 4) rfl (by decide) wac_20 dX1_init_8 (by decide) (by decide) (Nat.le_of_ble_eq_true rfl) hf (cell1 hX (Nat.le_of_ble_eq_true rfl)) (cell2 hX (Nat.le_of_ble_eq_true rfl)) (fun v2 h3 hf => ?_)
  refine s_putFR C fl_X1_9 (by decide +kernel) hnm dX1_init_10 hf (fun h4 hf => ?_)
  refine s_aload_n C dX1_init_13 rfl ?_
  refine s_bipush C dX1_init_14 (v := (40 : Int32)) (by decide) ?_
  refine s_newarray C (t := 20) (N := 40) rfl (by decide) wac_20 dX1_init_16 (by decide) (by decide) (Nat.le_of_ble_eq_true rfl) hf (cell1 hX (Nat.le_of_ble_eq_true rfl)) (cell2 hX (Nat.le_of_ble_eq_true rfl)) (fun v5 h6 hf => ?_)
  refine s_putFR C fl_X1_15 (by decide +kernel) hnm dX1_init_18 hf (fun h7 hf => ?_)
  refine s_aload_n C dX1_init_21 rfl ?_
  refine s_bipush C dX1_init_22 (v := (8 : Int32)) (by decide) ?_
  refine s_newarray C (t := 20) (N := 8) rfl (by decide) wac_20 dX1_init_24 (by decide) (by decide) (Nat.le_of_ble_eq_true rfl) hf (cell1 hX (Nat.le_of_ble_eq_true rfl)) (cell2 hX (Nat.le_of_ble_eq_true rfl)) (fun v8 h9 hf => ?_)
  refine s_putFR C fl_X1_18 (by decide +kernel) hnm dX1_init_26 hf (fun h10 hf => ?_)
  refine s_aload_n C dX1_init_29 rfl ?_
  refine s_iconst C dX1_init_30 (v := (-1 : Int32)) (by decide) ?_
  refine s_putI C fl_X1_21 (by decide) dX1_init_31 hf (fun h11 hf => ?_)
  refine s_aload_n C dX1_init_34 rfl ?_
  refine s_iconst C dX1_init_35 (v := (-1 : Int32)) (by decide) ?_
  refine s_putI C fl_X1_25 (by decide) dX1_init_36 hf (fun h12 hf => ?_)
  refine s_aload_n C dX1_init_39 rfl ?_
  refine s_iconst C dX1_init_40 (v := (-1 : Int32)) (by decide) ?_
  refine s_putI C fl_X1_28 (by decide) dX1_init_41 hf (fun h13 hf => ?_)
  refine s_aload_n C dX1_init_44 rfl ?_
  refine s_iload_n C dX1_init_45 rfl ?_
  refine s_putI C fl_X1_31 (by decide) dX1_init_46 hf (fun h14 hf => ?_)
  refine s_aload_n C dX1_init_49 rfl ?_
  refine s_iload C dX1_init_50 rfl ?_
  refine s_putI C fl_X1_34 (by decide) dX1_init_52 hf (fun h15 hf => ?_)
  refine s_aload_n C dX1_init_55 rfl ?_
  refine s_iload C dX1_init_56 rfl ?_
  refine s_putFI C fl_X1_37 (by decide) (by decide +kernel) hnm dX1_init_58 hf (fun h16 hf => ?_)
  refine s_aload_n C dX1_init_61 rfl ?_
  refine s_iload C dX1_init_62 rfl ?_
  refine s_putFI C fl_X1_40 (by decide) (by decide +kernel) hnm dX1_init_64 hf (fun h17 hf => ?_)
  refine s_aload_n C dX1_init_67 rfl ?_
  refine s_iload_n C dX1_init_68 rfl ?_
  refine s_iconst C dX1_init_69 (v := (2 : Int32)) (by decide) ?_
  refine s_jn hf (fun j89 e89 hf => ?_)
  have k89 : ∀ (x18 : Option Nat) (h19 : AH), j89 x18 h19 = some r → WW X h19 10 113 89 [none, none, none, none, none, none] [rB (xD X).1 x18, rB (xD X).1 o] := by
    intro x18 h19 hf
    rw [e89] at hf
    refine s_putFR C fl_X1_48 (by decide +kernel) hnm dX1_init_89 hf (fun h20 hf => ?_)
    exact s_return C E dX1_init_92 hf (Nat.le_of_ble_eq_true rfl) (Nat.le_of_ble_eq_true rfl)
  refine s_jn hf (fun j78 e78 hf => ?_)
  have k78 : j78  = some r → WW X h17 3 52 78 [none, none, none, none, none, none] [rB (xD X).1 o] := by
    intro  hf
    rw [e78] at hf
    refine s_new C (t := 5) (n := 15) (by decide) rfl wcl_X1_43 wins_X5 wini_X5 dX1_init_78 hf (cell1 hX (Nat.le_of_ble_eq_true rfl)) (cell2 hX (Nat.le_of_ble_eq_true rfl)) (fun v21 h22 hf => ?_)
    refine s_dup C dX1_init_81 c1_r ?_
    refine s_callIN (st := [rB (xD X).1 v21, rB (xD X).1 o]) (fr := 1) (lo := 20) (mc := 6) (ms := 46) C wc_X5_init wmn_X1_45 wim_X5_init rfl dX1_init_82 (As := []) rfl (a0 := 5) hf (fun h' hF => c_X5_init _ _ _ _ ((), h') hF) rfl (Nat.le_of_ble_eq_true rfl) (room_ok hX (Nat.le_of_ble_eq_true rfl) (Nat.le_of_ble_eq_true rfl)) (cell_ok hX (Nat.le_of_ble_eq_true rfl) (Nat.le_of_ble_eq_true rfl)) (fun h23 hf => ?_)
    refine s_goto (tgt := 89) C dX1_init_85 (by decide) ?_
    exact k89 _ _ hf
  refine s_icmp_eq (tgt := 78) C dX1_init_70 (by decide) hf (fun hf => ?_) (fun hf => ?_)
  · refine s_weak (lv' := [none, none, none, none, none, none]) trivial ?_
    exact k78 hf
  · refine s_iload_n C dX1_init_73 rfl ?_
    refine s_iconst C dX1_init_74 (v := (5 : Int32)) (by decide) ?_
    refine s_icmp_ne (tgt := 88) C dX1_init_75 (by decide) hf (fun hf => ?_) (fun hf => ?_)
    · refine s_null C dX1_init_88 ?_
      refine s_widen (c := 10) (s := 113) (Nat.le_of_ble_eq_true rfl) (Nat.le_of_ble_eq_true rfl) ?_
      refine s_weak (lv' := [none, none, none, none, none, none]) trivial ?_
      exact k89 _ _ hf
    · refine s_weak (lv' := [none, none, none, none, none, none]) trivial ?_
      exact k78 hf
/-- HillBoxes$Box.takeSteps([II)V -/
noncomputable def f_X1_takeSteps (o : Option Nat) (a1 : Option Nat) (a2 : Int32) (h : AH) : Option (Unit × AH) :=
  lp (fun _ _ => none) (fun (L2 : Int32 → AH → Option (Unit × AH)) (x1 : Int32) (h2 : AH) =>
    jn (
      some ((), h2)) fun j40 =>
    if a2 ≤ x1 then
      j40
    else
      if (4 : Int32) ≤ x1 then
        j40
      else
        aN h2 20 a1 fun v3 =>
        if v3 ≤ x1 then
          j40
        else
          fR h2 [1] o 4 fun v4 =>
          aI h2 20 a1 x1 fun v5 =>
          bI h2 20 v4 x1 v5 fun h6 =>
          pI h6 [1] o 10 (x1 + (1 : Int32)) fun h7 =>
          L2 (x1 + 1) h7) lpN (0 : Int32) h
set_option maxRecDepth 100000 in
set_option maxHeartbeats 4000000 in
theorem c_X1_takeSteps (l : Launch) (D : DT) (o : Option Nat) (a1 : Option Nat) (a2 : Int32) (h : AH) (r : Unit × AH) (hf : f_X1_takeSteps o a1 a2 h = some r) : CM l D yX1_takeSteps cX1_takeSteps 4 none 0 0 0 0 [.inr (.inr o), .inr (.inr a1), .inl a2] h none r.2 := by
  refine CM.of (by decide) (Nat.le_of_ble_eq_true rfl) (fun X hl C hD hX hnm E => ?_)
  subst hl
  subst hD
  have C : CX X RX1 cX1_takeSteps 4 := C
  show WW X h 0 0 0 [some (rB (xD X).1 o), some (rB (xD X).1 a1), some (.int a2), none] []
  unfold f_X1_takeSteps at hf
  refine s_iconst C dX1_takeSteps_0 (v := (0 : Int32)) (by decide) ?_
  refine s_istore_n C dX1_takeSteps_1 (by decide) (nc_i rfl) (lv' := [some (rB (xD X).1 o), some (rB (xD X).1 a1), some (.int a2), some (.int (0 : Int32))]) rfl ?_
  refine s_lp2 hf (fun G2 z2 q2 hf => ?_)
  have k2 : ∀ (n : Nat) (x1 : Int32) (h2 : AH), G2 n x1 h2 = some r → WW X h2 0 0 2 [some (rB (xD X).1 o), some (rB (xD X).1 a1), some (.int a2), some (.int x1)] [] := by
    intro n
    induction n with
    | zero =>
      intro x1 h2 hf
      rw [z2] at hf
      cases hf
    | succ n ih2 =>
      intro x1 h2 hf
      have hf := (q2 n x1 h2).symm.trans hf
      refine s_iload_n C dX1_takeSteps_2 rfl ?_
      refine s_iload_n C dX1_takeSteps_3 rfl ?_
      refine s_jn hf (fun j40 e40 hf => ?_)
      have k40 : j40  = some r → WW X h2 0 0 40 [none, none, none, none] [] := by
        intro  hf
        rw [e40] at hf
        exact s_return C E dX1_takeSteps_40 hf (Nat.le_of_ble_eq_true rfl) (Nat.le_of_ble_eq_true rfl)
      refine s_icmp_ge (tgt := 40) C dX1_takeSteps_4 (by decide) hf (fun hf => ?_) (fun hf => ?_)
      · refine s_weak (lv' := [none, none, none, none]) trivial ?_
        exact k40 hf
      · refine s_iload_n C dX1_takeSteps_7 rfl ?_
        refine s_iconst C dX1_takeSteps_8 (v := (4 : Int32)) (by decide) ?_
        refine s_icmp_ge (tgt := 40) C dX1_takeSteps_9 (by decide) hf (fun hf => ?_) (fun hf => ?_)
        · refine s_weak (lv' := [none, none, none, none]) trivial ?_
          exact k40 hf
        · refine s_iload_n C dX1_takeSteps_12 rfl ?_
          refine s_aload_n C dX1_takeSteps_13 rfl ?_
          refine s_alen C dX1_takeSteps_14 (t := 20) (by decide) hf (fun v3 hf => ?_)
          refine s_icmp_ge (tgt := 40) C dX1_takeSteps_15 (by decide) hf (fun hf => ?_) (fun hf => ?_)
          · refine s_weak (lv' := [none, none, none, none]) trivial ?_
            exact k40 hf
          · refine s_aload_n C dX1_takeSteps_18 rfl ?_
            refine s_getR C fl_X1_9 dX1_takeSteps_19 hf (fun v4 hf => ?_)
            refine s_iload_n C dX1_takeSteps_22 rfl ?_
            refine s_aload_n C dX1_takeSteps_23 rfl ?_
            refine s_iload_n C dX1_takeSteps_24 rfl ?_
            refine s_iaload C dX1_takeSteps_25 hf (fun v5 hf => ?_)
            refine s_iastore C dX1_takeSteps_26 hf (fun h6 hf => ?_)
            refine s_aload_n C dX1_takeSteps_27 rfl ?_
            refine s_iload_n C dX1_takeSteps_28 rfl ?_
            refine s_iconst C dX1_takeSteps_29 (v := (1 : Int32)) (by decide) ?_
            refine s_iadd C dX1_takeSteps_30 ?_
            refine s_putI C fl_X1_52 (by decide) dX1_takeSteps_31 hf (fun h7 hf => ?_)
            refine s_iinc C dX1_takeSteps_34 (v := (x1 + 1)) rfl rfl (by decide) (nc_i rfl) (lv' := [some (rB (xD X).1 o), some (rB (xD X).1 a1), some (.int a2), some (.int (x1 + 1))]) rfl ?_
            refine s_goto (tgt := 2) C dX1_takeSteps_37 (by decide) ?_
            exact ih2 _ _ hf
  exact k2 lpN _ _ hf
/-- HillBoxes$Rules.isNearKnown(II)Z -/
noncomputable def f_X6_isNearKnown (o : Option Nat) (a1 : Int32) (a2 : Int32) (h : AH) : Option (Int32 × AH) :=
  lp (fun _ _ => none) (fun (L2 : Int32 → AH → Option (Int32 × AH)) (x1 : Int32) (h2 : AH) =>
    fR h2 [6] o 3 fun v3 =>
    fI h2 [3] v3 3 fun v4 =>
    if v4 ≤ x1 then
      rz (0 : Int32) h2
    else
      fR h2 [6] o 3 fun v5 =>
      rO h2 [3] v5 <| cl (f_X3_boxAt v5 x1 h2) fun v7 h6 =>
      jn (fun (h8 : AH) =>
        L2 (x1 + 1) h8) fun j64 =>
      if v7 = none then
        j64 h6
      else
        rO h6 [1] v7 <| cl (f_X1_isDown v7 h6) fun v10 h9 =>
        if v10 = 0 then
          rO h9 [1] v7 <| cl (f_X1_liesNow v7 h9) fun v12 h11 =>
          cl (f_X11_far a1 v12 h11) fun v14 h13 =>
          jn (fun (h15 : AH) =>
            rz (1 : Int32) h15) fun j62 =>
          if v14 < a2 then
            j62 h13
          else
            fI h13 [1] v7 9 fun v16 =>
            cl (f_X11_far a1 v16 h13) fun v18 h17 =>
            if a2 ≤ v18 then
              j64 h17
            else
              j62 h17
        else
          j64 h9) lpN (0 : Int32) h
set_option maxRecDepth 100000 in
set_option maxHeartbeats 4000000 in
theorem c_X6_isNearKnown (l : Launch) (D : DT) (o : Option Nat) (a1 : Int32) (a2 : Int32) (h : AH) (r : Int32 × AH) (hf : f_X6_isNearKnown o a1 a2 h = some r) : CM l D yX6_isNearKnown cX6_isNearKnown 5 (some .boolean) 2 42 0 0 [.inr (.inr o), .inl a1, .inl a2] h (some (.int r.1)) r.2 := by
  refine CM.of (by decide) (Nat.le_of_ble_eq_true rfl) (fun X hl C hD hX hnm E => ?_)
  subst hl
  subst hD
  have C : CX X RX6 cX6_isNearKnown 5 := C
  show WW X h 0 0 0 [some (rB (xD X).1 o), some (.int a1), some (.int a2), none, none] []
  unfold f_X6_isNearKnown at hf
  refine s_iconst C dX6_isNearKnown_0 (v := (0 : Int32)) (by decide) ?_
  refine s_istore_n C dX6_isNearKnown_1 (by decide) (nc_i rfl) (lv' := [some (rB (xD X).1 o), some (.int a1), some (.int a2), some (.int (0 : Int32)), none]) rfl ?_
  refine s_lp2 hf (fun G2 z2 q2 hf => ?_)
  have k2 : ∀ (n : Nat) (x1 : Int32) (h2 : AH), G2 n x1 h2 = some r → WW X h2 0 0 2 [some (rB (xD X).1 o), some (.int a1), some (.int a2), some (.int x1), none] [] := by
    intro n
    induction n with
    | zero =>
      intro x1 h2 hf
      rw [z2] at hf
      cases hf
    | succ n ih2 =>
      intro x1 h2 hf
      have hf := (q2 n x1 h2).symm.trans hf
      refine s_iload_n C dX6_isNearKnown_2 rfl ?_
      refine s_aload_n C dX6_isNearKnown_3 rfl ?_
      refine s_getR C fl_X6_41 dX6_isNearKnown_4 hf (fun v3 hf => ?_)
      refine s_getI C fl_X6_160 dX6_isNearKnown_7 hf (fun v4 hf => ?_)
      refine s_icmp_ge (tgt := 70) C dX6_isNearKnown_10 (by decide) hf (fun hf => ?_) (fun hf => ?_)
      · refine s_iconst C dX6_isNearKnown_70 (v := (0 : Int32)) (by decide) ?_
        exact s_zreturn C E dX6_isNearKnown_71 hf (Nat.le_of_ble_eq_true rfl) (Nat.le_of_ble_eq_true rfl)
      · refine s_aload_n C dX6_isNearKnown_13 rfl ?_
        refine s_getR C fl_X6_41 dX6_isNearKnown_14 hf (fun v5 hf => ?_)
        refine s_iload_n C dX6_isNearKnown_17 rfl ?_
        refine s_callV (rvf := fun x => some (rB (xD X).1 x)) (st := []) (fr := 0) (lo := 0) (mc := 0) (ms := 0) C [3] wc_X3_boxAt wml_X6_127 wim_X3_boxAt wsl_3_X3_boxAt dX6_isNearKnown_18 (As := [.inl x1]) rfl hf (fun x h' hF => c_X3_boxAt _ _ _ _ _ (x, h') hF) rfl (Nat.le_of_ble_eq_true rfl) (room_ok hX (Nat.le_of_ble_eq_true rfl) (Nat.le_of_ble_eq_true rfl)) (cell_ok hX (Nat.le_of_ble_eq_true rfl) (Nat.le_of_ble_eq_true rfl)) (fun v7 h6 hf => ?_)
        refine s_astore C dX6_isNearKnown_21 (by decide) (nc_i rfl) (lv' := [some (rB (xD X).1 o), some (.int a1), some (.int a2), some (.int x1), some (rB (xD X).1 v7)]) rfl ?_
        refine s_aload C dX6_isNearKnown_23 rfl ?_
        refine s_jn hf (fun j64 e64 hf => ?_)
        have k64 : ∀ (h8 : AH), j64 h8 = some r → WW X h8 0 0 64 [some (rB (xD X).1 o), some (.int a1), some (.int a2), some (.int x1), none] [] := by
          intro h8 hf
          rw [e64] at hf
          refine s_iinc C dX6_isNearKnown_64 (v := (x1 + 1)) rfl rfl (by decide) (nc_i rfl) (lv' := [some (rB (xD X).1 o), some (.int a1), some (.int a2), some (.int (x1 + 1)), none]) rfl ?_
          refine s_goto (tgt := 2) C dX6_isNearKnown_67 (by decide) ?_
          exact ih2 _ _ hf
        refine s_ifnull (tgt := 64) C dX6_isNearKnown_25 (by decide) hf (fun hf => ?_) (fun hf => ?_)
        · refine s_weak (lv' := [some (rB (xD X).1 o), some (.int a1), some (.int a2), some (.int x1), none]) ⟨rfl, ⟨rfl, ⟨rfl, ⟨rfl, trivial⟩⟩⟩⟩ ?_
          exact k64 _ hf
        · refine s_aload C dX6_isNearKnown_28 rfl ?_
          refine s_callV (rvf := fun x => some (.int x)) (st := []) (fr := 0) (lo := 0) (mc := 0) (ms := 0) C [1] wc_X1_isDown wml_X6_163 wim_X1_isDown wsl_1_X1_isDown dX6_isNearKnown_30 (As := []) rfl hf (fun x h' hF => c_X1_isDown _ _ _ _ (x, h') hF) rfl (Nat.le_of_ble_eq_true rfl) (room_ok hX (Nat.le_of_ble_eq_true rfl) (Nat.le_of_ble_eq_true rfl)) (cell_ok hX (Nat.le_of_ble_eq_true rfl) (Nat.le_of_ble_eq_true rfl)) (fun v10 h9 hf => ?_)
          refine s_if_ne (tgt := 64) C dX6_isNearKnown_33 (by decide) hf (fun hf => ?_) (fun hf => ?_)
          · refine s_weak (lv' := [some (rB (xD X).1 o), some (.int a1), some (.int a2), some (.int x1), none]) ⟨rfl, ⟨rfl, ⟨rfl, ⟨rfl, trivial⟩⟩⟩⟩ ?_
            exact k64 _ hf
          · refine s_iload_n C dX6_isNearKnown_36 rfl ?_
            refine s_aload C dX6_isNearKnown_37 rfl ?_
            refine s_callV (rvf := fun x => some (.int x)) (st := [.int a1]) (fr := 0) (lo := 0) (mc := 0) (ms := 0) C [1] wc_X1_liesNow wml_X6_166 wim_X1_liesNow wsl_1_X1_liesNow dX6_isNearKnown_39 (As := []) rfl hf (fun x h' hF => c_X1_liesNow _ _ _ _ (x, h') hF) rfl (Nat.le_of_ble_eq_true rfl) (room_ok hX (Nat.le_of_ble_eq_true rfl) (Nat.le_of_ble_eq_true rfl)) (cell_ok hX (Nat.le_of_ble_eq_true rfl) (Nat.le_of_ble_eq_true rfl)) (fun v12 h11 hf => ?_)
            refine s_callSN (rvf := fun x => some (.int x)) (st := []) (fr := 1) (lo := 21) (mc := 0) (ms := 0) C wc_X11_far wmn_X6_169 wst_X11_far dX6_isNearKnown_42 (As := [.inl a1, .inl v12]) rfl hf (fun x h' hF => c_X11_far _ _ _ _ _ (x, h') hF) rfl (Nat.le_of_ble_eq_true rfl) (room_ok hX (Nat.le_of_ble_eq_true rfl) (Nat.le_of_ble_eq_true rfl)) (cell_ok hX (Nat.le_of_ble_eq_true rfl) (Nat.le_of_ble_eq_true rfl)) (fun v14 h13 hf => ?_)
            refine s_iload_n C dX6_isNearKnown_45 rfl ?_
            refine s_jn hf (fun j62 e62 hf => ?_)
            have k62 : ∀ (h15 : AH), j62 h15 = some r → WW X h15 0 0 62 [none, none, none, none, none] [] := by
              intro h15 hf
              rw [e62] at hf
              refine s_iconst C dX6_isNearKnown_62 (v := (1 : Int32)) (by decide) ?_
              exact s_zreturn C E dX6_isNearKnown_63 hf (Nat.le_of_ble_eq_true rfl) (Nat.le_of_ble_eq_true rfl)
            refine s_icmp_lt (tgt := 62) C dX6_isNearKnown_46 (by decide) hf (fun hf => ?_) (fun hf => ?_)
            · refine s_weak (lv' := [none, none, none, none, none]) trivial ?_
              exact k62 _ hf
            · refine s_iload_n C dX6_isNearKnown_49 rfl ?_
              refine s_aload C dX6_isNearKnown_50 rfl ?_
              refine s_getI C fl_X6_83 dX6_isNearKnown_52 hf (fun v16 hf => ?_)
              refine s_callSN (rvf := fun x => some (.int x)) (st := []) (fr := 1) (lo := 21) (mc := 0) (ms := 0) C wc_X11_far wmn_X6_169 wst_X11_far dX6_isNearKnown_55 (As := [.inl a1, .inl v16]) rfl hf (fun x h' hF => c_X11_far _ _ _ _ _ (x, h') hF) rfl (Nat.le_of_ble_eq_true rfl) (room_ok hX (Nat.le_of_ble_eq_true rfl) (Nat.le_of_ble_eq_true rfl)) (cell_ok hX (Nat.le_of_ble_eq_true rfl) (Nat.le_of_ble_eq_true rfl)) (fun v18 h17 hf => ?_)
              refine s_iload_n C dX6_isNearKnown_58 rfl ?_
              refine s_icmp_ge (tgt := 64) C dX6_isNearKnown_59 (by decide) hf (fun hf => ?_) (fun hf => ?_)
              · refine s_weak (lv' := [some (rB (xD X).1 o), some (.int a1), some (.int a2), some (.int x1), none]) ⟨rfl, ⟨rfl, ⟨rfl, ⟨rfl, trivial⟩⟩⟩⟩ ?_
                exact k64 _ hf
              · refine s_weak (lv' := [none, none, none, none, none]) trivial ?_
                exact k62 _ hf
  exact k2 lpN _ _ hf
