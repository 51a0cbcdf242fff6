/-! the call act: the class's way -/
def rnC (h : AH) (v : Int32) : AH := wI (wI h 48 (hI h 48 24).toNatClampNeg v) 48 24 (hI h 48 24 + 1)
def rnsC (h : AH) (L : List Int32) : AH := L.foldl rnC h
theorem rnsC_app (h : AH) (L M : List Int32) : rnsC (rnsC h L) M = rnsC h (L ++ M) := (List.foldl_append).symm
theorem rnsC_cons (h : AH) (v : Int32) (L : List Int32) : rnsC (rnC h v) L = rnsC h (v :: L) := rfl
def GC (a b : Nat) (K c : Int32) (h : AH) (t : Nat) : Prop := hI h 48 24 = nI t ∧ (hS h)[48]? = some (20, 25) ∧ 107 ≤ a ∧ okT h [0, 1, 2, 9] (some a) = true ∧ hI h a 0 = nI b ∧ hI h a 1 = K ∧ (boxK K = true → okT h [1] (some a) = true ∧ hI h a 9 = c)
theorem okT_w (h : AH) (a k : Nat) (v : Int32) (cs : List Nat) (r : Option Nat) : okT (wI h a k v) cs r = okT h cs r := id rfl
theorem GC.rn {a b : Nat} {K c : Int32} {h : AH} {t : Nat} (G : GC a b K c h t) (v : Int32) : GC a b K c (rnC h v) (t + 1) := by
  obtain ⟨e, s, ha, o, e0, e1, x⟩ := G
  unfold rnC
  refine ⟨by rw [q_at, e]; exact nI_1 t, s, ha, o, by rw [q_ne (by omega), q_ne (by omega)]; exact e0, by rw [q_ne (by omega), q_ne (by omega)]; exact e1, fun z => ⟨(x z).1, by rw [q_ne (by omega), q_ne (by omega)]; exact (x z).2⟩⟩
theorem GC.rns {a b : Nat} {K c : Int32} (L : List Int32) : ∀ {h : AH} {t : Nat}, GC a b K c h t → GC a b K c (rnsC h L) (t + L.length) := by
  induction L with
  | nil => intro h t G; exact G
  | cons v L ih =>
    intro h t G
    have := ih (G.rn v)
    rw [show t + (v :: L).length = t + 1 + L.length by simp only [List.length_cons]; omega]
    exact this
def bodyOf (f A : Int32) : Int32 := if A = 0 then (if f = 4 then 50 else if boxK f = true then 20 else 1) else if A = 1 then (if f = 5 then 61 else if f = 7 then 80 else if f = 2 then 30 else 10) else if A = 2 then (if f = 3 then 40 else if f = 5 then 60 else 11) else (if f = 4 then 51 else if f = 6 then 70 else 2)
def abovOf (f A : Int32) : Int32 := if A = 0 then (if f = 4 then 1 else if boxK f = true then 0 else -1) else if A = 1 then (if f = 5 then 2 else if f = 7 then 0 else if f = 2 then 1 else -1) else if A = 2 then (if f = 3 then 1 else if f = 5 then 2 else -1) else (if f = 4 then 1 else if f = 6 then 0 else -1)
theorem t_res {a b : Nat} {K c : Int32} {h : AH} {t : Nat} (G : GC a b K c h t) (ht : t < 24) {d : Nat} (hd : d ≤ 40) {f A : Int32} (hf : f = 0 ∨ f = 1 ∨ f = 2 ∨ f = 3 ∨ f = 4 ∨ f = 5 ∨ f = 6 ∨ f = 7) (hA : A = 0 ∨ A = 1 ∨ A = 2 ∨ A = 3) (x : Int32) (n : Nat) {Q : Int32 → AH → Prop} (k : wp (G_X0_run n 1 (some a) (some 48) (bodyOf f A) (abovOf f A) x (nI (d + 1)) (rnC h (bodyOf f A))) Q) : wp (G_X0_run (n + 1) 0 (some a) (some 48) f A x (nI d) h) Q := by
  obtain ⟨e, s, ha, o, e0, e1, -⟩ := G
  have cl : (nI t).toNatClampNeg = t := nI_clamp (by omega)
  unfold rnC at k
  rw [e, cl, ← nI_1 d] at k
  have l40 : nI d ≤ 40 := by rw [show (40 : Int32) = nI 40 from rfl, nI_leI (by omega) (by omega)]; omega
  have l24 : ¬ (24 : Int32) ≤ nI t := by rw [show (24 : Int32) = nI 24 from rfl, nI_leI (by omega) (by omega)]; omega
  have l0 : ¬ nI t < 0 := nI_pos (by omega)
  have l25 : ¬ 25 ≤ t := by omega
  have e2 : ∀ v, hI (wI h 48 t v) 48 24 = nI t := fun v => by rw [q_II, if_neg (by omega)]; exact e
  have up : ∀ (F : (Int32 → Int32 → Option (Int32 × AH)) → Int32 → Int32 → Option (Int32 × AH)) (N : Nat) (x y : Int32) (Q : Int32 → AH → Prop), wp (F (lp (fun _ _ => none) F N) x y) Q → wp (lp (fun _ _ => none) F (N + 1) x y) Q := fun _ _ _ _ _ h => h
  have htb : tbKA = [-1, 0, 1, 1, 1, 2, 0, 0] := by first | rfl | decide
  have htc : tbBA = [1, 10, 11, 2, 20, 0, 0, 0, 0, 30, 0, 0, 0, 0, 40, 0, 50, 0, 0, 51, 0, 61, 60, 0, 0, 0, 0, 70, 0, 80, 0, 0] := by first | rfl | decide
  have c24 : Int32.toNatClampNeg 24 = 24 := by decide
  rw [eq_G_X0_run, if_pos rfl]
  unfold fb_X0_run
  rw [lpN_eq]
  rw [show (1000000 : Nat) = 999990 + 1 + 1 + 1 + 1 + 1 + 1 + 1 + 1 + 1 + 1 from rfl]
  rcases hf with rfl | rfl | rfl | rfl | rfl | rfl | rfl | rfl <;> rcases hA with rfl | rfl | rfl | rfl <;> (repeat (refine up _ _ _ _ _ ?_; simp (config := {decide := true}) only [↓reduceIte, ↓wp_some, ↓wp_none, wp_ite, ↓wp_cl, ↓wp_rz, ↓wp_nz, ↓wp_nzL, ↓wp_fI, ↓wp_fL, ↓wp_fR, ↓wp_pI, ↓wp_pL, ↓wp_pR, ↓wp_pZ, ↓wp_aI, ↓wp_aL, ↓wp_aR, ↓wp_bI, ↓wp_bL, ↓wp_bR, ↓wp_rO, ↓wp_cO, ↓wp_nO, ↓wp_iO, ↓wp_tbI, ↓wp_tbL, ↓wp_jn, q_okA, q_gI, q_gL, q_gR, q_sI, q_sL, q_sR, q_SI, q_SL, q_SR, q_IL, q_IR, q_LI, q_LR, q_RI, q_RL, List.contains_cons, List.contains_nil, Nat.reduceBEq, Nat.reduceEqDiff, beq_self_eq_true, Bool.or_false, Bool.false_or, Bool.true_or, Bool.or_true, Bool.and_true, Bool.true_and, Bool.false_and, Bool.and_false, if_true, if_false, Bool.false_eq_true, true_and, and_true, false_and, and_false, and_self, not_true, not_false_iff, reduceCtorEq, forall_const, false_imp_iff, true_imp_iff, true_or, or_true, false_or, or_false, htb, htc, okT_w, o, s, c24, e, e2, cl, l40, l24, l0, l25])) <;> exact k
/-- from such fuel on, running such an act gives S and what ran -/
def RunT (a b : Nat) (K c : Int32) (m : Nat) (f A x : Int32) (S : Int32 × List Int32) : Prop := ∀ n, m ≤ n → ∀ (h : AH) (t d : Nat), GC a b K c h t → t + S.2.length ≤ 24 → d + m ≤ 40 → wp (G_X0_run n 0 (some a) (some 48) f A x (nI d) h) (fun r h' => r = S.1 ∧ h' = rnsC h S.2)
theorem RunT.mono {a b : Nat} {K c : Int32} {m m2 : Nat} {f A x : Int32} {S : Int32 × List Int32} (r : RunT a b K c m f A x S) (h : m ≤ m2) : RunT a b K c m2 f A x S := fun n hn h0 t d G h1 h2 => r n (by omega) h0 t d G h1 (by omega)
