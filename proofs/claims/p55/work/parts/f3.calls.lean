/-! THE CALLS AS THE LAW MAKES THEM: the class's world, the law's own cells as they were -/
theorem WWo.i {w : AH} (W : WWo w) : WWi w := fun i hi => (W i hi).1
def Zs (h w : AH) (P : Nat → Prog) : Prop := (∃ ad, RC h w P ad) ∧ WF w P
def LQ (h h2 : AH) : Prop := (hS h).length ≤ (hS h2).length ∧ ∀ a q, (hS h)[a]? = some q → 28 ≤ q.1 → (hS h2)[a]? = some q ∧ hI h2 a = hI h a ∧ hR h2 a = hR h a
theorem LQ.refl (h : AH) : LQ h h := ⟨Nat.le_refl _, fun _ _ e _ => ⟨e, rfl, rfl⟩⟩
theorem LQ.trans {h h1 h2 : AH} (a : LQ h h1) (b : LQ h1 h2) : LQ h h2 := ⟨Nat.le_trans a.1 b.1, fun x q e c => by
  obtain ⟨a1, a2, a3⟩ := a.2 x q e c
  obtain ⟨b1, b2, b3⟩ := b.2 x q a1 c
  exact ⟨b1, b2.trans a2, b3.trans a3⟩⟩
theorem rst_LQ {h h' : AH} (s : SM h h') : LQ h (rst h h') := by
  obtain ⟨M, eM⟩ := s
  have eS : hS (Jvm.Pilot.@@N@@.rst h h') = hS h' := rstS_eq _ _ (by rw [eM, List.length_append]; omega) (fun k q e _ => by
    rw [eM, List.getElem?_append_left (List.getElem?_eq_some_iff.mp e).1]
    exact e)
  refine ⟨by rw [eS, eM, List.length_append]; omega, fun a q e c => ?_⟩
  have e1 : isL h a = true := isL_iff.mpr ⟨q, e, c⟩
  exact ⟨by rw [eS, eM, List.getElem?_append_left (List.getElem?_eq_some_iff.mp e).1]; exact e, rst_I1 e1, rst_R1 e1⟩
section
variable {β : Type} {h w : AH} {P : Nat → Prog} {Q : β → AH → Prop}
theorem Zs.l (Z : Zs h w P) : Lay h := by
  obtain ⟨⟨ad, R⟩, -⟩ := Z
  exact R.l
theorem z_call {α : Type} {w' : AH} {P' : Nat → Prog} {A : Option (α × AH)} {v : α} {K : α → AH → Option (β × AH)} (c : wp A (fun r h' => r = v ∧ (∃ ad', RC h' w' P' ad') ∧ SM h h')) (G : WF w' P') (k : ∀ h2, Zs h2 w' P' → LQ h h2 → wp (K v h2) Q) : wp (clR h A K) Q := by
  refine wp_clR.mpr (wp_mono c ?_)
  rintro r h' ⟨rfl, ⟨ad', R⟩, s⟩
  obtain ⟨-, ad2, R2⟩ := R.rst G.WH G.WWo.i s
  exact k _ ⟨⟨ad2, R2⟩, G⟩ (rst_LQ s)
theorem z_owner (Z : Zs h w P) (c o : Int32) {K : Int32 → AH → Option (β × AH)} (k : ∀ h2, Zs h2 (s_owner w c o).2 P → LQ h h2 → wp (K (s_owner w c o).1 h2) Q) : wp (rO h [11] (some 0) <| clR h (f_X11_owner (some 0) c o h) K) Q := by
  obtain ⟨⟨ad, R⟩, G⟩ := Z
  exact wp_rO.mpr ⟨okT0 R.l, z_call (wp_mono (c_owner R c o) (by rintro _ _ ⟨rfl, R', s⟩; exact ⟨rfl, ⟨_, R'⟩, s⟩)) (kp_owner G c o) k⟩
theorem z_step (Z : Zs h w P) (c : Int32) {K : Int32 → AH → Option (β × AH)} (k : ∀ h2, Zs h2 (s_step w c).2 P → LQ h h2 → wp (K (s_step w c).1 h2) Q) : wp (rO h [11] (some 0) <| clR h (f_X11_step (some 0) c h) K) Q := by
  obtain ⟨⟨ad, R⟩, G⟩ := Z
  exact wp_rO.mpr ⟨okT0 R.l, z_call (wp_mono (c_step R G.WN c) (by rintro _ _ ⟨rfl, R', s⟩; exact ⟨rfl, ⟨_, R'⟩, s⟩)) (kp_step G c) k⟩
theorem z_down (Z : Zs h w P) (b : Int32) {K : Int32 → AH → Option (β × AH)} (k : ∀ h2, Zs h2 (s_down w b).2 P → LQ h h2 → wp (K (s_down w b).1 h2) Q) : wp (rO h [11] (some 0) <| clR h (f_X11_down (some 0) b h) K) Q := by
  obtain ⟨⟨ad, R⟩, G⟩ := Z
  exact wp_rO.mpr ⟨okT0 R.l, z_call (wp_mono (c_down R G.WN b) (by rintro _ _ ⟨rfl, R', s⟩; exact ⟨rfl, ⟨_, R'⟩, s⟩)) (kp_down G b) k⟩
theorem z_finder (Z : Zs h w P) (c : Int32) {K : Int32 → AH → Option (β × AH)} (k : ∀ h2, Zs h2 (s_finder w c).2 P → LQ h h2 → wp (K (s_finder w c).1 h2) Q) : wp (rO h [11] (some 0) <| clR h (f_X11_finder (some 0) c h) K) Q := by
  obtain ⟨⟨ad, R⟩, G⟩ := Z
  exact wp_rO.mpr ⟨okT0 R.l, z_call (c_finder R G.WN G.WM G.WL G.WH G.WWo.i G.WK G.WZr c) (kp_finder G c) k⟩
theorem z_hide (Z : Zs h w P) (f x c : Int32) {K : Int32 → AH → Option (β × AH)} (k : ∀ h2, Zs h2 (s_hide w P f x c).2 P → LQ h h2 → wp (K (s_hide w P f x c).1 h2) Q) : wp (rO h [11] (some 0) <| clR h (f_X11_hide (some 0) f x c h) K) Q := by
  obtain ⟨⟨ad, R⟩, G⟩ := Z
  exact wp_rO.mpr ⟨okT0 R.l, z_call (c_hide R G.WN G.WB G.WM G.WL G.WP G.WS G.WG G.WH G.WWo.i G.WK G.WZr f x c) (kp_hide G f x c) k⟩
theorem z_why (Z : Zs h w P) (f x c y : Int32) {K : Int32 → AH → Option (β × AH)} (k : ∀ h2, Zs h2 w P → LQ h h2 → wp (K (s_why w P f x c y) h2) Q) : wp (rO h [11] (some 0) <| clR h (f_X11_why (some 0) f x c y h) K) Q := by
  obtain ⟨⟨ad, R⟩, G⟩ := Z
  exact wp_rO.mpr ⟨okT0 R.l, z_call (wp_mono (c_why R G.WN G.WB G.WM G.WP G.WS G.WG f x c y) (by rintro _ _ ⟨rfl, s⟩; exact ⟨rfl, ⟨_, R.sc s⟩, s.SM⟩)) G k⟩
theorem z_ofBody (Z : Zs h w P) (b x : Int32) {K : Int32 → AH → Option (β × AH)} (k : ∀ h2, Zs h2 w P → LQ h h2 → wp (K (s_ofBody w b x) h2) Q) : wp (rO h [11] (some 0) <| clR h (f_X11_ofBody (some 0) b x h) K) Q := by
  obtain ⟨⟨ad, R⟩, G⟩ := Z
  exact wp_rO.mpr ⟨okT0 R.l, z_call (wp_mono (c_ofBody R G.WN G.WB G.WT b x) (by rintro _ _ ⟨rfl, rfl⟩; exact ⟨rfl, ⟨_, R⟩, SM.refl _⟩)) G k⟩
theorem z_count (Z : Zs h w P) (x : Int32) {K : Int32 → AH → Option (β × AH)} (k : ∀ h2, Zs h2 w P → LQ h h2 → wp (K (s_count w x) h2) Q) : wp (rO h [11] (some 0) <| clR h (f_X11_count (some 0) x h) K) Q := by
  obtain ⟨⟨ad, R⟩, G⟩ := Z
  exact wp_rO.mpr ⟨okT0 R.l, z_call (wp_mono (c_count R G.WN x) (by rintro _ _ ⟨rfl, rfl⟩; exact ⟨rfl, ⟨_, R⟩, SM.refl _⟩)) G k⟩
theorem z_rule (Z : Zs h w P) {q : Prog} {j : Nat} (e : tkT w = .ok (j, q)) (hq : q.all lineB = true) (ht : nT w < 20) {use : Int32} (hu : isUse_ use = true) {K : Int32 → AH → Option (β × AH)} (k : ∀ h2, Zs h2 (ruleW w use 0) (ruleP w P q) → LQ h h2 → wp (K (nI (nT w)) h2) Q) : wp (rO h [11] (some 0) <| clR h (f_X11_rule (some 0) use 0 h) K) Q := by
  obtain ⟨⟨ad, R⟩, G⟩ := Z
  refine wp_rO.mpr ⟨okT0 R.l, wp_clR.mpr (wp_mono (rule_ok R G e hq ht hu) ?_)⟩
  rintro r h' ⟨rfl, s, R', G'⟩
  obtain ⟨-, ad2, R2⟩ := R'.rst G'.WH G'.WWo.i s
  exact k _ ⟨⟨ad2, R2⟩, G'⟩ (rst_LQ s)
theorem z_tell (Z : Zs h w P) {b n : Nat} (hb : (hS h)[b]? = some (28, n)) (hn1 : 1 ≤ n) (hn : n ≤ 160) (e25 : hI w 49 25 = 0) {K : Int32 → AH → Option (β × AH)} (k : ∀ h2 w2, Zs h2 w2 P → LQ h h2 → TP w w2 (hI h b) n n → wp (K 1 h2) Q) : wp (clR h (f_L_tell (some 0) (some b) (nI n) h) K) Q := by
  obtain ⟨⟨ad, R⟩, G⟩ := Z
  refine wp_clR.mpr (wp_mono (tell_ok R G hb hn1 hn e25) ?_)
  rintro r h' ⟨rfl, s, w2, R', G', T⟩
  obtain ⟨-, ad2, R2⟩ := R'.rst G'.WH G'.WWo.i s
  exact k _ w2 ⟨⟨ad2, R2⟩, G'⟩ (rst_LQ s) T
theorem rst_self (h : AH) : rst h h = h := by
  have eS : rstS (hS h) (hS h) = hS h := rstS_eq _ _ (Nat.le_refl _) (fun _ _ e _ => e)
  unfold rst
  rw [eS]
  simp only [ite_self]
  rfl
theorem z_far (a b : Int32) {K : Int32 → AH → Option (β × AH)} (k : wp (K (far_ a b) h) Q) : wp (clR h (f_L_far a b h) K) Q := by
  refine wp_clR.mpr ?_
  unfold f_L_far
  refine wp_nz.mpr ⟨by decide, wp_nz.mpr ⟨by decide, wp_nz.mpr ⟨by decide, wp_nz.mpr ⟨by decide, wp_some.mpr ?_⟩⟩⟩⟩
  rw [rst_self]
  exact k
end
/-! the law's own writes -/
theorem Zs.wI {h w : AH} {P : Nat → Prog} (Z : Zs h w P) {a : Nat} {q : Nat × Nat} (e : (hS h)[a]? = some q) (c : 28 ≤ q.1) (i : Nat) (v : Int32) : Zs (wI h a i v) w P := by
  obtain ⟨⟨ad, R⟩, G⟩ := Z
  refine ⟨⟨_, R.ext (M := []) G.WH G.WWo.i (by rw [q_SI, List.append_nil]) (fun x p hp hc => ?_)⟩, G⟩
  have : x ≠ a := fun z => by
    rw [z, e] at hp
    cases hp
    omega
  exact ⟨q_ne this, rfl, rfl⟩
theorem Zs.grow {h w : AH} {P : Nat → Prog} (Z : Zs h w P) (t n : Nat) : Zs (grow h t n) w P := by
  obtain ⟨⟨ad, R⟩, G⟩ := Z
  refine ⟨⟨_, R.ext G.WH G.WWo.i hS_grow (fun x p hp hc => ?_)⟩, G⟩
  have : x ≠ (hS h).length := by have := (List.getElem?_eq_some_iff.mp hp).1; omega
  exact ⟨gI_ne this, gL_ne this, gR_ne this⟩
theorem grR_c (h : AH) : ∀ n x, x < (hS h).length → hI (grR h n) x = hI h x ∧ hL (grR h n) x = hL h x ∧ hR (grR h n) x = hR h x
  | 0, _, _ => ⟨rfl, rfl, rfl⟩
  | n + 1, x, hx => by
    obtain ⟨i1, i2, i3⟩ := grR_c h n x hx
    have : x ≠ (hS (grR h n)).length := by rw [grR_S, List.length_append]; omega
    exact ⟨(gI_ne this).trans i1, (gL_ne this).trans i2, (gR_ne this).trans i3⟩
theorem mulN_c (h : AH) (m x : Nat) (hx : x < (hS h).length) : hI (mulN h m) x = hI h x ∧ hL (mulN h m) x = hL h x ∧ hR (mulN h m) x = hR h x := by
  have hl : x < (hS (grow h 29 m)).length := by rw [hS_grow, List.length_append]; omega
  obtain ⟨i1, i2, i3⟩ := grR_c (grow h 29 m) m x hl
  have hne : x ≠ (hS h).length := by omega
  exact ⟨i1.trans (gI_ne hne), i2.trans (gL_ne hne), by rw [mulN_R, if_neg hne]; exact i3.trans (gR_ne hne)⟩
theorem Zs.mul {h w : AH} {P : Nat → Prog} (Z : Zs h w P) (m : Nat) : Zs (mulN h m) w P := by
  obtain ⟨⟨ad, R⟩, G⟩ := Z
  refine ⟨⟨_, R.ext G.WH G.WWo.i (mulN_S h m) (fun x p hp hc => ?_)⟩, G⟩
  exact mulN_c h m x (List.getElem?_eq_some_iff.mp hp).1
/-- what a law's cell holds after a write into one -/
theorem LQ.grow (h : AH) (t n : Nat) : LQ h (grow h t n) := by
  refine ⟨by rw [hS_grow, List.length_append]; omega, fun a q e c => ?_⟩
  have hlt := (List.getElem?_eq_some_iff.mp e).1
  exact ⟨by rw [hS_grow, List.getElem?_append_left hlt]; exact e, gI_ne (by omega), gR_ne (by omega)⟩
theorem LQ.mul (h : AH) (m : Nat) : LQ h (mulN h m) := by
  refine ⟨by rw [mulN_S, List.length_append]; omega, fun a q e c => ?_⟩
  have hlt := (List.getElem?_eq_some_iff.mp e).1
  obtain ⟨i1, -, i3⟩ := mulN_c h m a hlt
  exact ⟨by rw [mulN_S, List.getElem?_append_left hlt]; exact e, i1, i3⟩
