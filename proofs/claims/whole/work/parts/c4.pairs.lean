/-! EACH CALL ON BOTH SIDES -/
def Inv (h : AH) : Prop := ∃ w P ad, RC h w P ad ∧ RMx h w P ∧ WF w P
theorem RMx.SM' {h w h1 : AH} {P : Nat → Prog} (mx : RMx h w P) (l : Lay h1) (s : SM h h1) : RMx h1 w P := ⟨RM.SM mx.1 s l, mx.2.fr (fun a h1 h2 => funext fun k => s.1 a k (by omega) (by omega)) rfl⟩
theorem pair_w {α : Type} {h w w' : AH} {P P' : Nat → Prog} {v : α} {A1 : Option (α × AH)} {A2 : AH → Option (α × AH)} (mx : RMx h w P) (G' : WF w' P') (c : wp A1 (fun r h' => r = v ∧ (∃ ad', RC h' w' P' ad') ∧ SM h h')) (r : ∀ h1, RMx h1 w P → wp (A2 h1) (fun r h' => r = v ∧ RMx h' w' P' ∧ SC h1 h')) : wp A1 (fun r h1 => Lay h1 ∧ wp (A2 h1) (fun r2 h2 => r2 = r ∧ Inv h2)) := by
  refine wp_mono c ?_
  rintro r1 h1 ⟨rfl, ⟨ad', R1⟩, s⟩
  refine ⟨R1.l, wp_mono (r h1 (mx.SM' R1.l s)) ?_⟩
  rintro r2 h2 ⟨rfl, m2, sc⟩
  exact ⟨rfl, w', P', ad', R1.SC sc, m2, G'⟩
section
variable {α : Type} {h w : AH} {P : Nat → Prog} {ad : Nat → Nat} {v : α} {A : Option (α × AH)}
theorem ce (R : RC h w P ad) (c : wp A (fun r h' => r = v ∧ h' = h)) : wp A (fun r h' => r = v ∧ (∃ ad', RC h' w P ad') ∧ SM h h') := wp_mono c (by rintro _ _ ⟨rfl, rfl⟩; exact ⟨rfl, ⟨ad, R⟩, SM.refl _⟩)
theorem cSd (R : RC h w P ad) (c : wp A (fun r h' => r = v ∧ Sd h h')) : wp A (fun r h' => r = v ∧ (∃ ad', RC h' w P ad') ∧ SM h h') := wp_mono c (by rintro _ _ ⟨rfl, s⟩; exact ⟨rfl, ⟨ad, R.sd s⟩, s.SM⟩)
theorem cSc (R : RC h w P ad) (c : wp A (fun r h' => r = v ∧ Sc h h')) : wp A (fun r h' => r = v ∧ (∃ ad', RC h' w P ad') ∧ SM h h') := cSd R (wp_mono c (by rintro _ _ ⟨rfl, s⟩; exact ⟨rfl, s.sd⟩))
theorem cRC {w' : AH} {P' : Nat → Prog} (c : wp A (fun r h' => r = v ∧ RC h' w' P' ad ∧ SM h h')) : wp A (fun r h' => r = v ∧ (∃ ad', RC h' w' P' ad') ∧ SM h h') := wp_mono c (by rintro _ _ ⟨rfl, R, s⟩; exact ⟨rfl, ⟨ad, R⟩, s⟩)
theorem re (m : RMx h w P) (c : wp A (fun r h' => r = v ∧ h' = h)) : wp A (fun r h' => r = v ∧ RMx h' w P ∧ SC h h') := wp_mono c (by rintro _ _ ⟨rfl, rfl⟩; exact ⟨rfl, m, ⟨rfl, rfl, fun _ _ _ => rfl, fun _ _ _ => rfl⟩⟩)
theorem rSv (m : RMx h w P) (c : wp A (fun r h' => r = v ∧ Sv h h')) : wp A (fun r h' => r = v ∧ RMx h' w P ∧ SC h h') := wp_mono c (by rintro _ _ ⟨rfl, s⟩; exact ⟨rfl, m.sv s, s.SC⟩)
theorem rSm (m : RMx h w P) (c : wp A (fun r h' => r = v ∧ Sm h h')) : wp A (fun r h' => r = v ∧ RMx h' w P ∧ SC h h') := rSv m (wp_mono c (by rintro _ _ ⟨rfl, s⟩; exact ⟨rfl, s.sv⟩))
end
theorem b_days {h : AH} (I : Inv h) (a0 : Int32) : wp (f_X11_days (some 0) a0 h) (fun r h1 => Lay h1 ∧ wp (f_X12_days (some 49) a0 h1) (fun r2 h2 => r2 = r ∧ Inv h2)) := by
  obtain ⟨w, P, ad, R, mx, G⟩ := I
  exact pair_w mx (kp_days G a0) (cRC (c_days R a0)) (fun h1 m1 => r_days m1 a0)
theorem b_owner {h : AH} (I : Inv h) (a0 : Int32) (a1 : Int32) : wp (f_X11_owner (some 0) a0 a1 h) (fun r h1 => Lay h1 ∧ wp (f_X12_owner (some 49) a0 a1 h1) (fun r2 h2 => r2 = r ∧ Inv h2)) := by
  obtain ⟨w, P, ad, R, mx, G⟩ := I
  exact pair_w mx (kp_owner G a0 a1) (cRC (c_owner R a0 a1)) (fun h1 m1 => r_owner m1 a0 a1)
theorem b_body {h : AH} (I : Inv h) (a0 : Int32) : wp (f_X11_body (some 0) a0 h) (fun r h1 => Lay h1 ∧ wp (f_X12_body (some 49) a0 h1) (fun r2 h2 => r2 = r ∧ Inv h2)) := by
  obtain ⟨w, P, ad, R, mx, G⟩ := I
  exact pair_w mx (kp_body G a0) (c_body R G.WN G.WM G.WL G.WH G.WWo.i G.WK G.WZr a0) (fun h1 m1 => r_body m1 G.WN a0)
theorem b_finder {h : AH} (I : Inv h) (a0 : Int32) : wp (f_X11_finder (some 0) a0 h) (fun r h1 => Lay h1 ∧ wp (f_X12_finder (some 49) a0 h1) (fun r2 h2 => r2 = r ∧ Inv h2)) := by
  obtain ⟨w, P, ad, R, mx, G⟩ := I
  exact pair_w mx (kp_finder G a0) (c_finder R G.WN G.WM G.WL G.WH G.WWo.i G.WK G.WZr a0) (fun h1 m1 => r_finder m1 G.WN a0)
theorem b_leaves {h : AH} (I : Inv h) (a0 : Int32) : wp (f_X11_leaves (some 0) a0 h) (fun r h1 => Lay h1 ∧ wp (f_X12_leaves (some 49) a0 h1) (fun r2 h2 => r2 = r ∧ Inv h2)) := by
  obtain ⟨w, P, ad, R, mx, G⟩ := I
  exact pair_w mx (kp_leaves G a0) (cRC (c_leaves R G.WN a0)) (fun h1 m1 => r_leaves m1 G.WN a0)
theorem b_step {h : AH} (I : Inv h) (a0 : Int32) : wp (f_X11_step (some 0) a0 h) (fun r h1 => Lay h1 ∧ wp (f_X12_step (some 49) a0 h1) (fun r2 h2 => r2 = r ∧ Inv h2)) := by
  obtain ⟨w, P, ad, R, mx, G⟩ := I
  exact pair_w mx (kp_step G a0) (cRC (c_step R G.WN a0)) (fun h1 m1 => r_step m1 G.WN a0)
theorem b_why {h : AH} (I : Inv h) (a0 : Int32) (a1 : Int32) (a2 : Int32) (a3 : Int32) : wp (f_X11_why (some 0) a0 a1 a2 a3 h) (fun r h1 => Lay h1 ∧ wp (f_X12_why (some 49) a0 a1 a2 a3 h1) (fun r2 h2 => r2 = r ∧ Inv h2)) := by
  obtain ⟨w, P, ad, R, mx, G⟩ := I
  exact pair_w mx G (cSc R (c_why R G.WN G.WB G.WM G.WP G.WS G.WG a0 a1 a2 a3)) (fun h1 m1 => rSm m1 (r_why m1 G.WN G.WB G.WS G.WG a0 a1 a2 a3))
theorem b_hide {h : AH} (I : Inv h) (a0 : Int32) (a1 : Int32) (a2 : Int32) : wp (f_X11_hide (some 0) a0 a1 a2 h) (fun r h1 => Lay h1 ∧ wp (f_X12_hide (some 49) a0 a1 a2 h1) (fun r2 h2 => r2 = r ∧ Inv h2)) := by
  obtain ⟨w, P, ad, R, mx, G⟩ := I
  exact pair_w mx (kp_hide G a0 a1 a2) (c_hide R G.WN G.WB G.WM G.WL G.WP G.WS G.WG G.WH G.WWo.i G.WK G.WZr a0 a1 a2) (fun h1 m1 => r_hide m1 G.WN G.WB G.WS G.WG a0 a1 a2)
theorem b_move {h : AH} (I : Inv h) (a0 : Int32) (a1 : Int32) (a2 : Int32) : wp (f_X11_move (some 0) a0 a1 a2 h) (fun r h1 => Lay h1 ∧ wp (f_X12_move (some 49) a0 a1 a2 h1) (fun r2 h2 => r2 = r ∧ Inv h2)) := by
  obtain ⟨w, P, ad, R, mx, G⟩ := I
  exact pair_w mx (kp_move G a0 a1 a2) (cRC (c_move R G.WN a0 a1 a2)) (fun h1 m1 => r_move m1 G.WN a0 a1 a2)
theorem b_down {h : AH} (I : Inv h) (a0 : Int32) : wp (f_X11_down (some 0) a0 h) (fun r h1 => Lay h1 ∧ wp (f_X12_down (some 49) a0 h1) (fun r2 h2 => r2 = r ∧ Inv h2)) := by
  obtain ⟨w, P, ad, R, mx, G⟩ := I
  exact pair_w mx (kp_down G a0) (cRC (c_down R G.WN a0)) (fun h1 m1 => r_down m1 G.WN a0)
theorem b_ofBody {h : AH} (I : Inv h) (a0 : Int32) (a1 : Int32) : wp (f_X11_ofBody (some 0) a0 a1 h) (fun r h1 => Lay h1 ∧ wp (f_X12_ofBody (some 49) a0 a1 h1) (fun r2 h2 => r2 = r ∧ Inv h2)) := by
  obtain ⟨w, P, ad, R, mx, G⟩ := I
  exact pair_w mx G (ce R (c_ofBody R G.WN G.WB G.WT a0 a1)) (fun h1 m1 => re m1 (r_ofBody m1.1 G.WN G.WB G.WT a0 a1))
theorem b_liesAt {h : AH} (I : Inv h) (a0 : Int32) (a1 : Int32) (a2 : Int32) : wp (f_X11_liesAt (some 0) a0 a1 a2 h) (fun r h1 => Lay h1 ∧ wp (f_X12_liesAt (some 49) a0 a1 a2 h1) (fun r2 h2 => r2 = r ∧ Inv h2)) := by
  obtain ⟨w, P, ad, R, mx, G⟩ := I
  exact pair_w mx G (ce R (c_liesAt R G.WN G.WB G.WM a0 a1 a2)) (fun h1 m1 => re m1 (r_liesAt m1.1 G.WN G.WB a0 a1 a2))
theorem b_feed {h : AH} (I : Inv h) (a0 : Int32) (a1 : Int32) : wp (f_X11_feed (some 0) a0 a1 h) (fun r h1 => Lay h1 ∧ wp (f_X12_feed (some 49) a0 a1 h1) (fun r2 h2 => r2 = r ∧ Inv h2)) := by
  obtain ⟨w, P, ad, R, mx, G⟩ := I
  exact pair_w mx (kp_feed G a0 a1) (cRC (c_feed R G.WF1 a0 a1)) (fun h1 m1 => r_feed m1 G.WF1 a0 a1)
theorem b_rule {h : AH} (I : Inv h) (a0 : Int32) (a1 : Int32) : wp (f_X11_rule (some 0) a0 a1 h) (fun r h1 => Lay h1 ∧ wp (f_X12_rule (some 49) a0 a1 h1) (fun r2 h2 => r2 = r ∧ Inv h2)) := by
  obtain ⟨w, P, ad, R, mx, G⟩ := I
  exact pair_w mx (kp_rule G a0 a1) (cRC (c_rule R G.WN G.WF1 G.WBy a0 a1)) (fun h1 m1 => r_rule m1 G.WN G.WF1 G.WBy a0 a1)
theorem b_inForce {h : AH} (I : Inv h) (a0 : Int32) (a1 : Int32) (a2 : Int32) : wp (f_X11_inForce (some 0) a0 a1 a2 h) (fun r h1 => Lay h1 ∧ wp (f_X12_inForce (some 49) a0 a1 a2 h1) (fun r2 h2 => r2 = r ∧ Inv h2)) := by
  obtain ⟨w, P, ad, R, mx, G⟩ := I
  exact pair_w mx G (ce R (c_inForce R G.WN a0 a1 a2)) (fun h1 m1 => re m1 (r_inForce m1.1 G.WN a0 a1 a2))
theorem b_says {h : AH} (I : Inv h) (a0 : Int32) (a1 : Int32) (a2 : Int32) (a3 : Int32) : wp (f_X11_says (some 0) a0 a1 a2 a3 h) (fun r h1 => Lay h1 ∧ wp (f_X12_says (some 49) a0 a1 a2 a3 h1) (fun r2 h2 => r2 = r ∧ Inv h2)) := by
  obtain ⟨w, P, ad, R, mx, G⟩ := I
  exact pair_w mx G (cSc R (c_says R G.WN G.WP G.WG a0 a1 a2 a3)) (fun h1 m1 => rSm m1 (r_says m1 G.WN G.WB G.WM G.WP G.WG a0 a1 a2 a3))
theorem b_nearest {h : AH} (I : Inv h) (a0 : Int32) (a1 : Int32) : wp (f_X11_nearest (some 0) a0 a1 h) (fun r h1 => Lay h1 ∧ wp (f_X12_nearest (some 49) a0 a1 h1) (fun r2 h2 => r2 = r ∧ Inv h2)) := by
  obtain ⟨w, P, ad, R, mx, G⟩ := I
  exact pair_w mx G (cSc R (c_nearest R G.WN G.WP G.WG a0 a1)) (fun h1 m1 => rSm m1 (r_nearest m1 G.WN G.WB G.WM G.WP G.WG a0 a1))
theorem b_riddle {h : AH} (I : Inv h) (a0 : Int32) (a1 : Int32) (a2 : Int32) (a3 : Int32) : wp (f_X11_riddle (some 0) a0 a1 a2 a3 h) (fun r h1 => Lay h1 ∧ wp (f_X12_riddle (some 49) a0 a1 a2 a3 h1) (fun r2 h2 => r2 = r ∧ Inv h2)) := by
  obtain ⟨w, P, ad, R, mx, G⟩ := I
  exact pair_w mx (kp_riddle G a0 a1 a2 a3) (cRC (c_riddle R G.WN G.WH G.WD a0 a1 a2 a3)) (fun h1 m1 => r_riddle m1 G.WN G.WH a0 a1 a2 a3)
theorem b_solve {h : AH} (I : Inv h) (a0 : Int32) (a1 : Int32) : wp (f_X11_solve (some 0) a0 a1 h) (fun r h1 => Lay h1 ∧ wp (f_X12_solve (some 49) a0 a1 h1) (fun r2 h2 => r2 = r ∧ Inv h2)) := by
  obtain ⟨w, P, ad, R, mx, G⟩ := I
  exact pair_w mx G (cRC (c_solve R G.WN G.WD a0 a1)) (fun h1 m1 => rSv m1 (r_solve m1.1 G.WN G.WD a0 a1))
theorem b_solved {h : AH} (I : Inv h) (a0 : Int32) (a1 : Int32) : wp (f_X11_solved (some 0) a0 a1 h) (fun r h1 => Lay h1 ∧ wp (f_X12_solved (some 49) a0 a1 h1) (fun r2 h2 => r2 = r ∧ Inv h2)) := by
  obtain ⟨w, P, ad, R, mx, G⟩ := I
  exact pair_w mx G (cRC (c_solved R G.WN G.WD a0 a1)) (fun h1 m1 => rSv m1 (r_solved m1.1 G.WN G.WD a0 a1))
theorem b_others {h : AH} (I : Inv h) (a0 : Int32) (a1 : Int32) : wp (f_X11_others (some 0) a0 a1 h) (fun r h1 => Lay h1 ∧ wp (f_X12_others (some 49) a0 a1 h1) (fun r2 h2 => r2 = r ∧ Inv h2)) := by
  obtain ⟨w, P, ad, R, mx, G⟩ := I
  exact pair_w mx G (cRC (c_others R G.WN G.WB G.WM G.WD a0 a1)) (fun h1 m1 => rSv m1 (r_others m1.1 G.WN G.WD a0 a1))
theorem b_log {h : AH} (I : Inv h) (a0 : Int32) (a1 : Int32) (a2 : Int32) (a3 : Int32) : wp (f_X11_log (some 0) a0 a1 a2 a3 h) (fun r h1 => Lay h1 ∧ wp (f_X12_log (some 49) a0 a1 a2 a3 h1) (fun r2 h2 => r2 = r ∧ Inv h2)) := by
  obtain ⟨w, P, ad, R, mx, G⟩ := I
  exact pair_w mx (kp_log G a0 a1 a2 a3) (cRC (c_log R G.WN a0 a1 a2 a3)) (fun h1 m1 => r_log m1 G.WN a0 a1 a2 a3)
theorem b_paper {h : AH} (I : Inv h) (a0 : Int32) (a1 : Int32) (a2 : Int32) (a3 : Int32) : wp (f_X11_paper (some 0) a0 a1 a2 a3 h) (fun r h1 => Lay h1 ∧ wp (f_X12_paper (some 49) a0 a1 a2 a3 h1) (fun r2 h2 => r2 = r ∧ Inv h2)) := by
  obtain ⟨w, P, ad, R, mx, G⟩ := I
  exact pair_w mx (kp_paper G a0 a1 a2 a3) (cRC (c_paper R G.WN G.WH a0 a1 a2 a3)) (fun h1 m1 => r_paper m1 G.WN G.WH a0 a1 a2 a3)
theorem b_join {h : AH} (I : Inv h) (a0 : Int32) (a1 : Int32) (a2 : Int32) : wp (f_X11_join (some 0) a0 a1 a2 h) (fun r h1 => Lay h1 ∧ wp (f_X12_join (some 49) a0 a1 a2 h1) (fun r2 h2 => r2 = r ∧ Inv h2)) := by
  obtain ⟨w, P, ad, R, mx, G⟩ := I
  exact pair_w mx G (ce R (c_join R G.WN G.WP a0 a1 a2)) (fun h1 m1 => re m1 (r_join m1.1 G.WN G.WP a0 a1 a2))
theorem b_first {h : AH} (I : Inv h) (a0 : Int32) : wp (f_X11_first (some 0) a0 h) (fun r h1 => Lay h1 ∧ wp (f_X12_first (some 49) a0 h1) (fun r2 h2 => r2 = r ∧ Inv h2)) := by
  obtain ⟨w, P, ad, R, mx, G⟩ := I
  exact pair_w mx G (cSc R (c_first R G.WN G.WL G.WP G.WG a0)) (fun h1 m1 => rSm m1 (r_first m1 G.WN G.WB G.WM G.WL G.WP G.WG a0))
theorem b_isFalse {h : AH} (I : Inv h) (a0 : Int32) (a1 : Int32) : wp (f_X11_isFalse (some 0) a0 a1 h) (fun r h1 => Lay h1 ∧ wp (f_X12_isFalse (some 49) a0 a1 h1) (fun r2 h2 => r2 = r ∧ Inv h2)) := by
  obtain ⟨w, P, ad, R, mx, G⟩ := I
  exact pair_w mx G (ce R (c_isFalse R G.WN G.WB G.WM G.WL G.WP a0 a1)) (fun h1 m1 => re m1 (r_isFalse m1.1 G.WN G.WB G.WL G.WP a0 a1))
theorem b_gone {h : AH} (I : Inv h) (a0 : Int32) (a1 : Int32) : wp (f_X11_gone (some 0) a0 a1 h) (fun r h1 => Lay h1 ∧ wp (f_X12_gone (some 49) a0 a1 h1) (fun r2 h2 => r2 = r ∧ Inv h2)) := by
  obtain ⟨w, P, ad, R, mx, G⟩ := I
  exact pair_w mx G (ce R (c_gone R G.WN G.WL a0 a1)) (fun h1 m1 => re m1 (r_gone m1.1 G.WN a0 a1))
theorem b_chance {h : AH} (I : Inv h) (a0 : Int32) : wp (f_X11_chance (some 0) a0 h) (fun r h1 => Lay h1 ∧ wp (f_X12_chance (some 49) a0 h1) (fun r2 h2 => r2 = r ∧ Inv h2)) := by
  obtain ⟨w, P, ad, R, mx, G⟩ := I
  exact pair_w mx G (ce R (c_chance R G.WN G.WB G.WM G.WL G.WP a0)) (fun h1 m1 => re m1 (r_chance m1.1 G.WN G.WB G.WL G.WP a0))
theorem b_tell {h : AH} (I : Inv h) (a0 : Int32) (a1 : Int32) (a2 : Int32) : wp (f_X11_tell (some 0) a0 a1 a2 h) (fun r h1 => Lay h1 ∧ wp (f_X12_tell (some 49) a0 a1 a2 h1) (fun r2 h2 => r2 = r ∧ Inv h2)) := by
  obtain ⟨w, P, ad, R, mx, G⟩ := I
  exact pair_w mx (kp_tell G a0 a1 a2) (cRC (c_tell R G.WN G.WT a0 a1 a2)) (fun h1 m1 => r_tell m1 G.WN G.WT a0 a1 a2)
theorem b_jump {h : AH} (I : Inv h) (a0 : Int32) (a1 : Int32) : wp (f_X11_jump (some 0) a0 a1 h) (fun r h1 => Lay h1 ∧ wp (f_X12_jump (some 49) a0 a1 h1) (fun r2 h2 => r2 = r ∧ Inv h2)) := by
  obtain ⟨w, P, ad, R, mx, G⟩ := I
  exact pair_w mx G (ce R (c_jump R G.WN G.WT a0 a1)) (fun h1 m1 => re m1 (r_jump m1.1 G.WN G.WT a0 a1))
theorem b_chain {h : AH} (I : Inv h) (a0 : Int32) : wp (f_X11_chain (some 0) a0 h) (fun r h1 => Lay h1 ∧ wp (f_X12_chain (some 49) a0 h1) (fun r2 h2 => r2 = r ∧ Inv h2)) := by
  obtain ⟨w, P, ad, R, mx, G⟩ := I
  exact pair_w mx G (ce R (c_chain R G.WN G.WB G.WM G.WL G.WT a0)) (fun h1 m1 => re m1 (r_chain m1.1 G.WN G.WB G.WL G.WT a0))
theorem b_asks {h : AH} (I : Inv h) (a0 : Int32) (a1 : Int32) : wp (f_X11_asks (some 0) a0 a1 h) (fun r h1 => Lay h1 ∧ wp (f_X12_asks (some 49) a0 a1 h1) (fun r2 h2 => r2 = r ∧ Inv h2)) := by
  obtain ⟨w, P, ad, R, mx, G⟩ := I
  exact pair_w mx (kp_asks G a0 a1) (cRC (c_asks R G.WN G.WB G.WA a0 a1)) (fun h1 m1 => r_asks m1 G.WN G.WB G.WA a0 a1)
theorem b_taker {h : AH} (I : Inv h) (a0 : Int32) : wp (f_X11_taker (some 0) a0 h) (fun r h1 => Lay h1 ∧ wp (f_X12_taker (some 49) a0 h1) (fun r2 h2 => r2 = r ∧ Inv h2)) := by
  obtain ⟨w, P, ad, R, mx, G⟩ := I
  exact pair_w mx G (cSc R (c_taker R G.WN G.WB G.WP G.WA G.WG a0)) (fun h1 m1 => rSm m1 (r_taker m1 G.WN G.WB G.WM G.WP G.WA G.WG a0))
theorem b_take {h : AH} (I : Inv h) (a0 : Int32) : wp (f_X11_take (some 0) a0 h) (fun r h1 => Lay h1 ∧ wp (f_X12_take (some 49) a0 h1) (fun r2 h2 => r2 = r ∧ Inv h2)) := by
  obtain ⟨w, P, ad, R, mx, G⟩ := I
  exact pair_w mx (kp_take G a0) (cRC (c_take R G.WN G.WB G.WP G.WA G.WG a0)) (fun h1 m1 => r_take m1 G.WN G.WB G.WM G.WP G.WA G.WG a0)
theorem b_toPut {h : AH} (I : Inv h) (a0 : Int32) : wp (f_X11_toPut (some 0) a0 h) (fun r h1 => Lay h1 ∧ wp (f_X12_toPut (some 49) a0 h1) (fun r2 h2 => r2 = r ∧ Inv h2)) := by
  obtain ⟨w, P, ad, R, mx, G⟩ := I
  exact pair_w mx G (cSc R (c_toPut R G.WN G.WP G.WG a0)) (fun h1 m1 => rSm m1 (r_toPut m1 G.WN G.WG a0))
theorem b_putAll {h : AH} (I : Inv h) : wp (f_X11_putAll (some 0) h) (fun r h1 => Lay h1 ∧ wp (f_X12_putAll (some 49) h1) (fun r2 h2 => r2 = r ∧ Inv h2)) := by
  obtain ⟨w, P, ad, R, mx, G⟩ := I
  exact pair_w mx (kp_putAll G) (cRC (c_putAll R G.WN G.WP G.WG)) (fun h1 m1 => r_putAll m1 G.WN G.WG)
theorem b_wish {h : AH} (I : Inv h) (a0 : Int32) (a1 : Int32) (a2 : Int32) : wp (f_X11_wish (some 0) a0 a1 a2 h) (fun r h1 => Lay h1 ∧ wp (f_X12_wish (some 49) a0 a1 a2 h1) (fun r2 h2 => r2 = r ∧ Inv h2)) := by
  obtain ⟨w, P, ad, R, mx, G⟩ := I
  exact pair_w mx (kp_wish G a0 a1 a2) (cRC (c_wish R G.WN G.WWo.i a0 a1 a2)) (fun h1 m1 => r_wish m1 G.WN a0 a1 a2)
theorem b_walk {h : AH} (I : Inv h) (a0 : Int32) (a1 : Int32) : wp (f_X11_walk (some 0) a0 a1 h) (fun r h1 => Lay h1 ∧ wp (f_X12_walk (some 49) a0 a1 h1) (fun r2 h2 => r2 = r ∧ Inv h2)) := by
  obtain ⟨w, P, ad, R, mx, G⟩ := I
  have ok : ∀ x y : Nat, x < 1440 → y ≤ 48 → okBst (told_w w (x / 24) (x % 24) y) (bestW w x y) := fun x y hx hy => by
    obtain ⟨_, -, -, -, o⟩ := t_X10_findBest R G.WN G.WB G.WM G.WWo hx hy
    exact o
  exact pair_w mx (kp_walk G a0 a1 ok) (cRC (c_walk R G.WN G.WB G.WM G.WWo a0 a1)) (fun h1 m1 => r_walk m1 G.WN G.WB G.WM G.WWo a0 a1)
theorem b_walked {h : AH} (I : Inv h) (a0 : Int32) : wp (f_X11_walked (some 0) a0 h) (fun r h1 => Lay h1 ∧ wp (f_X12_walked (some 49) a0 h1) (fun r2 h2 => r2 = r ∧ Inv h2)) := by
  obtain ⟨w, P, ad, R, mx, G⟩ := I
  exact pair_w mx G (ce R (c_walked R G.WV a0)) (fun h1 m1 => re m1 (r_walked m1.1 G.WV a0))
theorem b_judge {h : AH} (I : Inv h) (a0 : Int32) (a1 : Int32) (a2 : Int32) : wp (f_X11_judge (some 0) a0 a1 a2 h) (fun r h1 => Lay h1 ∧ wp (f_X12_judge (some 49) a0 a1 a2 h1) (fun r2 h2 => r2 = r ∧ Inv h2)) := by
  obtain ⟨w, P, ad, R, mx, G⟩ := I
  exact pair_w mx G (cSd R (c_judge R G.WN G.WB G.WM G.WWo a0 a1 a2)) (fun h1 m1 => rSv m1 (r_judge m1 G.WN G.WB G.WM G.WWo a0 a1 a2))
theorem b_lookAt {h : AH} (I : Inv h) (a0 : Int32) (a1 : Int32) : wp (f_X11_lookAt (some 0) a0 a1 h) (fun r h1 => Lay h1 ∧ wp (f_X12_lookAt (some 49) a0 a1 h1) (fun r2 h2 => r2 = r ∧ Inv h2)) := by
  obtain ⟨w, P, ad, R, mx, G⟩ := I
  exact pair_w mx (kp_lookAt G a0 a1) (cRC (c_lookAt R G.WN G.WK a0 a1)) (fun h1 m1 => r_lookAt m1 G.WN G.WK a0 a1)
theorem b_nobody {h : AH} (I : Inv h) (a0 : Int32) : wp (f_X11_nobody (some 0) a0 h) (fun r h1 => Lay h1 ∧ wp (f_X12_nobody (some 49) a0 h1) (fun r2 h2 => r2 = r ∧ Inv h2)) := by
  obtain ⟨w, P, ad, R, mx, G⟩ := I
  exact pair_w mx G (ce R (c_nobody R G.WN G.WK a0)) (fun h1 m1 => rSv m1 (r_nobody m1 G.WN G.WK a0))
theorem b_rank {h : AH} (I : Inv h) (a0 : Int32) (a1 : Int32) (a2 : Int32) (a3 : Int32) : wp (f_X11_rank (some 0) a0 a1 a2 a3 h) (fun r h1 => Lay h1 ∧ wp (f_X12_rank (some 49) a0 a1 a2 a3 h1) (fun r2 h2 => r2 = r ∧ Inv h2)) := by
  obtain ⟨w, P, ad, R, mx, G⟩ := I
  exact pair_w mx G (cSd R (c_rank R G.WN G.WB G.WM G.WL G.WP G.WG a0 a1 a2 a3)) (fun h1 m1 => rSv m1 (r_rank m1 G.WN G.WB G.WM G.WL G.WP G.WG a0 a1 a2 a3))
theorem b_act {h : AH} (I : Inv h) (a0 : Int32) (a1 : Int32) (a2 : Int32) : wp (f_X11_act (some 0) a0 a1 a2 h) (fun r h1 => Lay h1 ∧ wp (f_X12_act (some 49) a0 a1 a2 h1) (fun r2 h2 => r2 = r ∧ Inv h2)) := by
  obtain ⟨w, P, ad, R, mx, G⟩ := I
  exact pair_w mx (kp_act G a0 a1 a2) (cRC (c_act R G.WN a0 a1 a2)) (fun h1 m1 => r_act m1 G.WN a0 a1 a2)
theorem b_trace {h : AH} (I : Inv h) (a0 : Int32) : wp (f_X11_trace (some 0) a0 h) (fun r h1 => Lay h1 ∧ wp (f_X12_trace (some 49) a0 h1) (fun r2 h2 => r2 = r ∧ Inv h2)) := by
  obtain ⟨w, P, ad, R, mx, G⟩ := I
  exact pair_w mx G (ce R (c_trace R a0)) (fun h1 m1 => re m1 (r_trace m1.1 a0))
theorem b_keep {h : AH} (I : Inv h) (a0 : Int32) (a1 : Int32) : wp (f_X11_keep (some 0) a0 a1 h) (fun r h1 => Lay h1 ∧ wp (f_X12_keep (some 49) a0 a1 h1) (fun r2 h2 => r2 = r ∧ Inv h2)) := by
  obtain ⟨w, P, ad, R, mx, G⟩ := I
  exact pair_w mx (kp_keep G a0 a1) (cRC (c_keep R G.WN a0 a1)) (fun h1 m1 => r_keep m1 G.WN a0 a1)
theorem b_row {h : AH} (I : Inv h) (a0 : Int32) (a1 : Int32) (a2 : Int32) : wp (f_X11_row (some 0) a0 a1 a2 h) (fun r h1 => Lay h1 ∧ wp (f_X12_row (some 49) a0 a1 a2 h1) (fun r2 h2 => r2 = r ∧ Inv h2)) := by
  obtain ⟨w, P, ad, R, mx, G⟩ := I
  exact pair_w mx (kp_row G a0 a1 a2) (cRC (c_row R a0 a1 a2)) (fun h1 m1 => r_row m1 a0 a1 a2)
theorem b_put {h : AH} (I : Inv h) (a0 : Int32) (a1 : Int32) (a2 : Int64) : wp (f_X11_put (some 0) a0 a1 a2 h) (fun r h1 => Lay h1 ∧ wp (f_X12_put (some 49) a0 a1 a2 h1) (fun r2 h2 => r2 = r ∧ Inv h2)) := by
  obtain ⟨w, P, ad, R, mx, G⟩ := I
  exact pair_w mx (kp_put G a0 a1 a2) (cRC (c_put R G.WN G.WH a0 a1 a2)) (fun h1 m1 => r_put m1 G.WN G.WH a0 a1 a2)
theorem b_element {h : AH} (I : Inv h) (a0 : Int32) (a1 : Int32) : wp (f_X11_element (some 0) a0 a1 h) (fun r h1 => Lay h1 ∧ wp (f_X12_element (some 49) a0 a1 h1) (fun r2 h2 => r2 = r ∧ Inv h2)) := by
  obtain ⟨w, P, ad, R, mx, G⟩ := I
  exact pair_w mx G (ce R (c_element R G.WN G.WH a0 a1)) (fun h1 m1 => re m1 (r_element m1.1 G.WN G.WH a0 a1))
theorem b_shift {h : AH} (I : Inv h) (a0 : Int32) (a1 : Int32) (a2 : Int32) (a3 : Int32) (a4 : Int32) : wp (f_X11_shift (some 0) a0 a1 a2 a3 a4 h) (fun r h1 => Lay h1 ∧ wp (f_X12_shift (some 49) a0 a1 a2 a3 a4 h1) (fun r2 h2 => r2 = r ∧ Inv h2)) := by
  obtain ⟨w, P, ad, R, mx, G⟩ := I
  exact pair_w mx (kp_shift G a0 a1 a2 a3 a4) (cRC (c_shift R G.WN G.WH a0 a1 a2 a3 a4)) (fun h1 m1 => r_shift m1 G.WN G.WH a0 a1 a2 a3 a4)
theorem b_taken {h : AH} (I : Inv h) (a0 : Int32) (a1 : Int32) : wp (f_X11_taken (some 0) a0 a1 h) (fun r h1 => Lay h1 ∧ wp (f_X12_taken (some 49) a0 a1 h1) (fun r2 h2 => r2 = r ∧ Inv h2)) := by
  obtain ⟨w, P, ad, R, mx, G⟩ := I
  exact pair_w mx G (ce R (c_taken R G.WN G.WH a0 a1)) (fun h1 m1 => re m1 (r_taken m1.1 G.WN G.WH a0 a1))
theorem b_count {h : AH} (I : Inv h) (a0 : Int32) : wp (f_X11_count (some 0) a0 h) (fun r h1 => Lay h1 ∧ wp (f_X12_count (some 49) a0 h1) (fun r2 h2 => r2 = r ∧ Inv h2)) := by
  obtain ⟨w, P, ad, R, mx, G⟩ := I
  exact pair_w mx G (ce R (c_count R G.WN a0)) (fun h1 m1 => re m1 (r_count m1.1 G.WN a0))
