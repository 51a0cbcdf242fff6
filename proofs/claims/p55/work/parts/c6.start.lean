/-! THE START: the heap behind both constructors -/
def h0 : AH := ([], fun _ _ => 0, fun _ _ => 0, fun _ _ => none)
def aft (o : Nat) : List (Nat × Nat × Nat) → AH → AH
  | [], h => h
  | x :: r, h => aft o r (wR (grow h x.1 x.2.1) o x.2.2 (some (hS h).length))
noncomputable def runI (cs : List Nat) (o : Nat) : List (Nat × Nat × Nat) → AH → (AH → Option (Unit × AH)) → Option (Unit × AH)
  | [], h, K => K h
  | x :: r, h, K => nO h x.1 x.2.1 fun v h2 => pR h2 cs (some o) x.2.2 v fun h3 => runI cs o r h3 K
theorem okT_grow {h : AH} {cs : List Nat} {o : Nat} (ok : okT h cs (some o) = true) (t n : Nat) : okT (grow h t n) cs (some o) = true := by
  rw [q_okT] at *
  have e : ∀ q, (hS h)[o]? = some q → (hS (grow h t n))[o]? = some q := by
    intro q hq
    have lt : o < (hS h).length := (List.getElem?_eq_some_iff.mp hq).1
    show (hS h ++ [(t, n)])[o]? = some q
    rw [List.getElem?_append_left lt]; exact hq
  cases hq : (hS h)[o]? with
  | none => rw [hq] at ok; cases ok
  | some q => rw [hq] at ok; rw [e q hq]; exact ok
theorem wp_runI {cs : List Nat} {o : Nat} : ∀ (r : List (Nat × Nat × Nat)) (h : AH) (K : AH → Option (Unit × AH)) (Q : Unit → AH → Prop), okT h cs (some o) = true → (wp (K (aft o r h)) Q → wp (runI cs o r h K) Q) := by
  intro r
  induction r with
  | nil => intro h K Q _ k; exact k
  | cons x r ih =>
    intro h K Q ok k
    have ok2 := okT_grow ok x.1 x.2.1
    refine wp_nO.mpr (wp_pR.mpr ⟨ok2, ?_⟩)
    exact ih _ K Q ok2 k
def Zr (h : AH) : Prop := ∀ a, (hS h).length ≤ a → ∀ k, hI h a k = 0
theorem Zr.gr {h : AH} (z : Zr h) (t n : Nat) : Zr (grow h t n) ∧ hI (grow h t n) = hI h := by
  have e : hI (grow h t n) = hI h := by
    funext a k
    show (uR h.2.1 h.1.length (fun _ => 0)) a k = _
    unfold uR
    by_cases c : a = h.1.length
    · rw [if_pos c]; exact (z a (by rw [c]; exact Nat.le_refl _) k).symm
    · rw [if_neg c]; rfl
  refine ⟨fun a ha k => ?_, e⟩
  rw [e]
  refine z a ?_ k
  have : (hS (grow h t n)).length = (hS h).length + 1 := by
    show (h.1 ++ [(t, n)]).length = _
    rw [List.length_append]; rfl
  omega
theorem Zr.aft {o : Nat} : ∀ (r : List (Nat × Nat × Nat)) {h : AH}, Zr h → Zr (aft o r h) ∧ hI (aft o r h) = hI h := by
  intro r
  induction r with
  | nil => intro h z; exact ⟨z, rfl⟩
  | cons x r ih =>
    intro h z
    obtain ⟨z1, e1⟩ := z.gr x.1 x.2.1
    have z2 : Zr (wR (grow h x.1 x.2.1) o x.2.2 (some (hS h).length)) := z1
    obtain ⟨z3, e3⟩ := ih z2
    exact ⟨z3, e3.trans e1⟩
theorem Zr.w {h : AH} (z : Zr h) {a : Nat} (ha : a < (hS h).length) (k : Nat) (v : Int32) : Zr (wI h a k v) := fun b hb j => by
  rw [q_ne (by have : (hS h).length ≤ b := hb; omega)]
  exact z b hb j
theorem wI_cg {h g : AH} (e : hI h = hI g) (a k : Nat) (v : Int32) : hI (wI h a k v) = hI (wI g a k v) := by
  funext b j
  rw [q_II, q_II, e]
def s_s0 : AH := grow h0 11 6
def s_s1 : AH := grow s_s0 3 10
def s_s2 : AH := aft 1 [(20, 60, 1), (25, 150, 2), (20, 4, 4), (20, 200, 6), (20, 200, 7), (20, 200, 8)] s_s1
def s_s3 : AH := fillI s_s2 2 60 (-1)
def s_s4 : AH := wR s_s3 0 0 (some 1)
def s_s5 : AH := grow s_s4 6 16
def s_s6 : AH := grow s_s5 8 11
def s_s7 : AH := aft 9 [(20, 160, 1), (20, 161, 2), (20, 161, 3), (20, 161, 4), (20, 161, 9)] s_s6
def s_s8 : AH := wI (wR s_s7 8 0 (some 9)) 8 2 (-1)
def s_s9 : AH := aft 8 [(20, 20, 4), (20, 20, 5), (20, 20, 6), (20, 3220, 7), (20, 20, 8), (20, 64, 9)] s_s8
def s_s10 : AH := wR s_s9 8 3 (some 1)
def s_s11 : AH := wR s_s10 0 1 (some 8)
def s_s12 : AH := grow s_s11 4 9
def s_s13 : AH := aft 21 [(20, 300, 0), (23, 300, 1), (20, 150, 3), (20, 300, 4), (20, 300, 5), (23, 300, 6)] s_s12
def s_s14 : AH := wR (wR s_s13 21 7 (some 1)) 21 8 (some 8)
def s_s15 : AH := wR s_s14 0 2 (some 21)
def s_s16 : AH := grow s_s15 10 16
def s_s17 : AH := aft 28 [(20, 7, 3), (26, 7, 4), (20, 7, 5), (20, 7, 6), (20, 7, 7), (20, 7, 9)] (wI s_s16 28 1 (-1))
def s_s18 : AH := wR s_s17 0 3 (some 28)
def s_s19 : AH := grow s_s18 27 6
def s_s20 : AH := wR s_s19 0 4 (some 35)
def s_sh : Nat → AH
  | 0 => s_s20
  | j + 1 => wR (aft (36 + 2 * j) [(24, 60, 4)] (grow (s_sh j) 7 5)) 35 j (some (36 + 2 * j))
def s_s21 : AH := grow (s_sh 6) 20 25
def s_s22 : AH := wR s_s21 0 5 (some 48)
theorem i_X3 : wp (f_X3_init (some 1) s_s1) (fun _ h' => h' = s_s3) := by
  unfold f_X3_init
  refine wp_rO.mpr ⟨by decide +kernel, ?_⟩
  refine wp_runI (cs := [3]) (o := 1) [(20, 60, 1), (25, 150, 2), (20, 4, 4), (20, 200, 6), (20, 200, 7), (20, 200, 8)] s_s1 (fun h18 => fR h18 [3] (some 1) 1 fun v19 => cl (f_J7_fill_53178 v19 (-1 : Int32) h18) fun _ h20 => some ((), h20)) _ (by decide +kernel) ?_
  show wp (fR s_s2 [3] (some 1) 1 fun v19 => cl (f_J7_fill_53178 v19 (-1 : Int32) s_s2) fun _ h20 => some ((), h20)) _
  refine wp_fR.mpr ⟨by decide +kernel, ?_⟩
  rw [show gR s_s2 (some 1) 1 = some 2 by decide +kernel]
  refine wp_cl.mpr (wp_mono (t_fillI (h := s_s2) (a := 2) (n := 60) (-1) (by decide +kernel) (by omega)) ?_)
  rintro _ h' rfl
  exact wp_some.mpr rfl
theorem i_X8 : wp (f_X8_init (some 9) s_s6) (fun _ h' => h' = s_s7) := by
  unfold f_X8_init
  refine wp_rO.mpr ⟨by decide +kernel, ?_⟩
  refine wp_runI (cs := [8]) (o := 9) [(20, 160, 1), (20, 161, 2), (20, 161, 3), (20, 161, 4), (20, 161, 9)] s_s6 (fun h => some ((), h)) _ (by decide +kernel) ?_
  exact wp_some.mpr rfl
theorem i_X6 : wp (f_X6_init (some 8) (some 1) s_s5) (fun _ h' => h' = s_s10) := by
  unfold f_X6_init
  refine wp_rO.mpr ⟨by decide +kernel, wp_nO.mpr ?_⟩
  show wp (rO s_s6 [8] (some 9) <| cl (f_X8_init (some 9) s_s6) _) _
  refine wp_rO.mpr ⟨by decide +kernel, wp_cl.mpr (wp_mono i_X8 ?_)⟩
  rintro _ h3 rfl
  refine wp_pR.mpr ⟨by decide +kernel, wp_pI.mpr ⟨by decide +kernel, ?_⟩⟩
  refine wp_runI (cs := [6]) (o := 8) [(20, 20, 4), (20, 20, 5), (20, 20, 6), (20, 3220, 7), (20, 20, 8), (20, 64, 9)] s_s8 (fun h23 => pR h23 [6] (some 8) 3 (some 1) fun h24 => some ((), h24)) _ (by decide +kernel) ?_
  show wp (pR s_s9 [6] (some 8) 3 (some 1) fun h24 => some ((), h24)) _
  exact wp_pR.mpr ⟨by decide +kernel, wp_some.mpr rfl⟩
theorem i_X4 : wp (f_X4_init (some 21) (some 1) (some 8) s_s12) (fun _ h' => h' = s_s14) := by
  unfold f_X4_init
  refine wp_rO.mpr ⟨by decide +kernel, ?_⟩
  refine wp_runI (cs := [4]) (o := 21) [(20, 300, 0), (23, 300, 1), (20, 150, 3), (20, 300, 4), (20, 300, 5), (23, 300, 6)] s_s12 (fun h18 => pR h18 [4] (some 21) 7 (some 1) fun h19 => pR h19 [4] (some 21) 8 (some 8) fun h20 => some ((), h20)) _ (by decide +kernel) ?_
  show wp (pR s_s13 [4] (some 21) 7 (some 1) fun h19 => pR h19 [4] (some 21) 8 (some 8) fun h20 => some ((), h20)) _
  exact wp_pR.mpr ⟨by decide +kernel, wp_pR.mpr ⟨by decide +kernel, wp_some.mpr rfl⟩⟩
theorem i_X10 : wp (f_X10_init (some 28) s_s16) (fun _ h' => h' = s_s17) := by
  unfold f_X10_init
  refine wp_rO.mpr ⟨by decide +kernel, wp_pI.mpr ⟨by decide +kernel, ?_⟩⟩
  refine wp_runI (cs := [10]) (o := 28) [(20, 7, 3), (26, 7, 4), (20, 7, 5), (20, 7, 6), (20, 7, 7), (20, 7, 9)] (wI s_s16 28 1 (-1)) (fun h => some ((), h)) _ (by decide +kernel) ?_
  exact wp_some.mpr rfl
theorem i_X7 {h : AH} {o : Nat} (ok : okT h [7] (some o) = true) : wp (f_X7_init (some o) h) (fun _ h' => h' = aft o [(24, 60, 4)] h) := by
  unfold f_X7_init
  refine wp_rO.mpr ⟨ok, ?_⟩
  refine wp_runI (cs := [7]) (o := o) [(24, 60, 4)] h (fun h => some ((), h)) _ ok ?_
  exact wp_some.mpr rfl
theorem sh_ok : ∀ j : Nat, j < 6 → (hS (s_sh j)).length = 36 + 2 * j ∧ okT (s_sh j) [11] (some 0) = true ∧ gR (s_sh j) (some 0) 4 = some 35 ∧ okT (grow (s_sh j) 7 5) [7] (some (36 + 2 * j)) = true ∧ okA (aft (36 + 2 * j) [(24, 60, 4)] (grow (s_sh j) 7 5)) 27 (some 35) (nI j) = true ∧ okT (aft (36 + 2 * j) [(24, 60, 4)] (grow (s_sh j) 7 5)) [7] (some (36 + 2 * j)) = true := by decide +kernel
theorem i_X11 : wp (f_X11_init (some 0) s_s0) (fun _ h' => h' = s_s22) := by
  unfold f_X11_init
  refine wp_rO.mpr ⟨by decide +kernel, wp_nO.mpr ?_⟩
  show wp (rO s_s1 [3] (some 1) <| cl (f_X3_init (some 1) s_s1) _) _
  refine wp_rO.mpr ⟨by decide +kernel, wp_cl.mpr (wp_mono i_X3 ?_)⟩
  rintro _ _ rfl
  refine wp_pR.mpr ⟨by decide +kernel, wp_nO.mpr ?_⟩
  show wp (fR s_s5 [11] (some 0) 0 fun v7 => rO s_s5 [6] (some 8) <| cl (f_X6_init (some 8) v7 s_s5) _) _
  refine wp_fR.mpr ⟨by decide +kernel, ?_⟩
  rw [show gR s_s5 (some 0) 0 = some 1 by decide +kernel]
  refine wp_rO.mpr ⟨by decide +kernel, wp_cl.mpr (wp_mono i_X6 ?_)⟩
  rintro _ _ rfl
  refine wp_pR.mpr ⟨by decide +kernel, wp_nO.mpr ?_⟩
  show wp (fR s_s12 [11] (some 0) 0 fun v12 => fR s_s12 [11] (some 0) 1 fun v13 => rO s_s12 [4] (some 21) <| cl (f_X4_init (some 21) v12 v13 s_s12) _) _
  refine wp_fR.mpr ⟨by decide +kernel, wp_fR.mpr ⟨by decide +kernel, ?_⟩⟩
  rw [show gR s_s12 (some 0) 0 = some 1 by decide +kernel, show gR s_s12 (some 0) 1 = some 8 by decide +kernel]
  refine wp_rO.mpr ⟨by decide +kernel, wp_cl.mpr (wp_mono i_X4 ?_)⟩
  rintro _ _ rfl
  refine wp_pR.mpr ⟨by decide +kernel, wp_nO.mpr ?_⟩
  show wp (rO s_s16 [10] (some 28) <| cl (f_X10_init (some 28) s_s16) _) _
  refine wp_rO.mpr ⟨by decide +kernel, wp_cl.mpr (wp_mono i_X10 ?_)⟩
  rintro _ _ rfl
  refine wp_pR.mpr ⟨by decide +kernel, wp_nO.mpr (wp_pR.mpr ⟨by decide +kernel, ?_⟩)⟩
  refine wp_g2 6 (fun j x h => x = nI j ∧ h = s_sh j) ⟨rfl, rfl⟩ (by omega) ?_ ?_
  · rintro G x h ⟨rfl, rfl⟩
    rw [if_pos (by decide)]
    refine wp_nO.mpr (wp_pR.mpr ⟨by decide +kernel, wp_some.mpr rfl⟩)
  · rintro G j x h hj ⟨rfl, rfl⟩ ih
    obtain ⟨o1, o2, o3, o4, o5, o6⟩ := sh_ok j hj
    have g : ¬ (6 : Int32) ≤ nI j := by rw [show (6 : Int32) = nI 6 from rfl, nI_leI (by omega) (by omega)]; omega
    rw [if_neg g]
    refine wp_fR.mpr ⟨o2, ?_⟩
    rw [o3]
    refine wp_nO.mpr ?_
    rw [o1]
    refine wp_rO.mpr ⟨o4, wp_cl.mpr (wp_mono (i_X7 o4) ?_)⟩
    rintro _ _ rfl
    refine wp_bR.mpr ⟨⟨o5, o6⟩, ?_⟩
    have cj : (nI j).toNatClampNeg = j := nI_clamp (by omega)
    rw [cj]
    exact ih _ _ ⟨nI_add _ 1, rfl⟩
