theorem vB_wI1 {b : Nat} {h : AH} {a k : Nat} {v : Int32} (j i f : Nat) (e : j ≠ a) : vB b (wI h a k v) j i f = vB b h j i f := by
  unfold vB
  split <;> simp [hI, hL, hR, wI, u2, e]
theorem vB_wI2 {b : Nat} {h : AH} {a k : Nat} {v : Int32} (i f : Nat) (e : i ≠ k) : vB b (wI h a k v) a i f = vB b h a i f := by
  unfold vB
  split <;> simp [hI, hL, hR, wI, u2, e]
theorem vB_wI3 {b : Nat} {h : AH} {a k : Nat} {v : Int32} : vB b (wI h a k v) a k 0 = .int v := by simp [vB, hI, wI, u2]
theorem vB_wL1 {b : Nat} {h : AH} {a k : Nat} {v : Int64} (j i f : Nat) (e : j ≠ a) : vB b (wL h a k v) j i f = vB b h j i f := by
  unfold vB
  split <;> simp [hI, hL, hR, wL, u2, e]
theorem vB_wL2 {b : Nat} {h : AH} {a k : Nat} {v : Int64} (i f : Nat) (e : i ≠ k) : vB b (wL h a k v) a i f = vB b h a i f := by
  unfold vB
  split <;> simp [hI, hL, hR, wL, u2, e]
theorem vB_wL3 {b : Nat} {h : AH} {a k : Nat} {v : Int64} : vB b (wL h a k v) a k 1 = .long v := by simp [vB, hL, wL, u2]
theorem vB_wR1 {b : Nat} {h : AH} {a k : Nat} {v : Option Nat} (j i f : Nat) (e : j ≠ a) : vB b (wR h a k v) j i f = vB b h j i f := by
  unfold vB
  split <;> simp [hI, hL, hR, wR, u2, e]
theorem vB_wR2 {b : Nat} {h : AH} {a k : Nat} {v : Option Nat} (i f : Nat) (e : i ≠ k) : vB b (wR h a k v) a i f = vB b h a i f := by
  unfold vB
  split <;> simp [hI, hL, hR, wR, u2, e]
theorem vB_wR3 {b : Nat} {h : AH} {a k : Nat} {v : Option Nat} : vB b (wR h a k v) a k 2 = rB b v := by simp [vB, hR, wR, u2]
theorem fk2 {ty : FieldType} (h : fk ty = 2) : (∃ C, ty = .object C) ∨ ∃ t, ty = .array t := by
  cases ty <;> first | exact Or.inl ⟨_, rfl⟩ | exact Or.inr ⟨_, rfl⟩ | cases h
theorem fit_r {ty : FieldType} {b : Nat} {v : Option Nat} (h : fk ty = 2) : narrow ty (rB b v) = rB b v ∧ fits ty (rB b v) = true := by
  rcases fk2 h with ⟨C, rfl⟩ | ⟨t, rfl⟩ <;> cases v <;> exact ⟨rfl, rfl⟩
theorem fit_l {ty : FieldType} {v : Int64} (h : fk ty = 1) : narrow ty (.long v) = .long v ∧ fits ty (.long v) = true := by
  cases ty <;> first | exact ⟨rfl, rfl⟩ | cases h
section HEAP2
variable {X : XT} {own : String} {cc : ByteArray} {nL pc cells slots : Nat} {h : AH} {lv lv' : List (Option Value)} {st : List Value} {ρ : Type} {r : ρ}
theorem s_putI (C : CX X own cc nL) {idx k : Nat} {cs : List Nat} (F : FLk own idx cs k 0 false) (ty : ∀ t ∈ cs, tyXX t k = .int) (d : decode cc pc = .ok (.putfield idx, 3)) {r0 : Option Nat} {v : Int32} {K : AH → Option ρ} (hf : pI h cs r0 k v K = some r) (kk : ∀ h', K h' = some r → WW X h' cells slots (pc + 3) lv st) : WW X h cells slots pc lv (.int v :: rB (xD X).1 r0 :: st) := by
  unfold pI at hf
  split at hf
  · rename_i e
    obtain ⟨a, t, n, rfl, hq, ht⟩ := okT_spec e
    exact s_putG C F d hq ht (fun _ => ⟨by rw [ty t ht]; rfl, by rw [ty t ht]; rfl⟩) (h' := wI h a k v) rfl (vB_wI1) (vB_wI2) vB_wI3 (kk _ hf)
  · cases hf
theorem s_putZ (C : CX X own cc nL) {idx k : Nat} {cs : List Nat} (F : FLk own idx cs k 0 false) (ty : ∀ t ∈ cs, tyXX t k = .boolean) (d : decode cc pc = .ok (.putfield idx, 3)) {r0 : Option Nat} {v : Int32} {K : AH → Option ρ} (hf : pZ h cs r0 k v K = some r) (kk : ∀ h', K h' = some r → WW X h' cells slots (pc + 3) lv st) : WW X h cells slots pc lv (.int v :: rB (xD X).1 r0 :: st) := by
  unfold pZ at hf
  split at hf
  · rename_i e
    obtain ⟨a, t, n, rfl, hq, ht⟩ := okT_spec e.1
    exact s_putG C F d hq ht (fun _ => by rw [ty t ht]; rcases e.2 with rfl | rfl <;> exact ⟨rfl, rfl⟩) (h' := wI h a k v) rfl (vB_wI1) (vB_wI2) vB_wI3 (kk _ hf)
  · cases hf
theorem s_putL (C : CX X own cc nL) {idx k : Nat} {cs : List Nat} (F : FLk own idx cs k 1 false) (d : decode cc pc = .ok (.putfield idx, 3)) {r0 : Option Nat} {v : Int64} {K : AH → Option ρ} (hf : pL h cs r0 k v K = some r) (kk : ∀ h', K h' = some r → WW X h' cells slots (pc + 3) lv st) : WW X h cells slots pc lv (.long v :: rB (xD X).1 r0 :: st) := by
  unfold pL at hf
  split at hf
  · rename_i e
    obtain ⟨a, t, n, rfl, hq, ht⟩ := okT_spec e
    have hk := fun hoc => fit_l (v := v) (F.choose_spec.choose_spec.choose_spec.2.2 t ht hoc).2.2.2.2.2.1
    exact s_putG C F d hq ht hk (h' := wL h a k v) rfl (vB_wL1) (vB_wL2) vB_wL3 (kk _ hf)
  · cases hf
theorem s_putR (C : CX X own cc nL) {idx k : Nat} {cs : List Nat} (F : FLk own idx cs k 2 false) (d : decode cc pc = .ok (.putfield idx, 3)) {r0 v : Option Nat} {K : AH → Option ρ} (hf : pR h cs r0 k v K = some r) (kk : ∀ h', K h' = some r → WW X h' cells slots (pc + 3) lv st) : WW X h cells slots pc lv (rB (xD X).1 v :: rB (xD X).1 r0 :: st) := by
  unfold pR at hf
  split at hf
  · rename_i e
    obtain ⟨a, t, n, rfl, hq, ht⟩ := okT_spec e
    have hk := fun hoc => fit_r (b := (xD X).1) (v := v) (F.choose_spec.choose_spec.choose_spec.2.2 t ht hoc).2.2.2.2.2.1
    exact s_putG C F d hq ht hk (h' := wR h a k v) rfl (vB_wR1) (vB_wR2) vB_wR3 (kk _ hf)
  · cases hf
theorem s_putFI (C : CX X own cc nL) {idx k : Nat} {cs : List Nat} (F : FLk own idx cs k 0 true) (ty : ∀ t ∈ cs, tyXX t k = .int) (hown : ∀ t ∈ cs, okC t → (TXX t k).1 = own) (hinit : (xM X).name = "<init>") (d : decode cc pc = .ok (.putfield idx, 3)) {r0 : Option Nat} {v : Int32} {K : AH → Option ρ} (hf : pI h cs r0 k v K = some r) (kk : ∀ h', K h' = some r → WW X h' cells slots (pc + 3) lv st) : WW X h cells slots pc lv (.int v :: rB (xD X).1 r0 :: st) := by
  unfold pI at hf
  split at hf
  · rename_i e
    obtain ⟨a, t, n, rfl, hq, ht⟩ := okT_spec e
    exact s_putFG C F hown hinit d hq ht (fun _ => ⟨by rw [ty t ht]; rfl, by rw [ty t ht]; rfl⟩) (h' := wI h a k v) rfl (vB_wI1) (vB_wI2) vB_wI3 (kk _ hf)
  · cases hf
theorem s_putFR (C : CX X own cc nL) {idx k : Nat} {cs : List Nat} (F : FLk own idx cs k 2 true) (hown : ∀ t ∈ cs, okC t → (TXX t k).1 = own) (hinit : (xM X).name = "<init>") (d : decode cc pc = .ok (.putfield idx, 3)) {r0 v : Option Nat} {K : AH → Option ρ} (hf : pR h cs r0 k v K = some r) (kk : ∀ h', K h' = some r → WW X h' cells slots (pc + 3) lv st) : WW X h cells slots pc lv (rB (xD X).1 v :: rB (xD X).1 r0 :: st) := by
  unfold pR at hf
  split at hf
  · rename_i e
    obtain ⟨a, t, n, rfl, hq, ht⟩ := okT_spec e
    have hk := fun hoc => fit_r (b := (xD X).1) (v := v) (F.choose_spec.choose_spec.choose_spec.2.2 t ht hoc).2.2.2.2.2.1
    exact s_putFG C F hown hinit d hq ht hk (h' := wR h a k v) rfl (vB_wR1) (vB_wR2) vB_wR3 (kk _ hf)
  · cases hf
-- arrays
theorem s_iaload (C : CX X own cc nL) (d : decode cc pc = .ok (.iaload, 1)) {r0 : Option Nat} {i : Int32} {K : Int32 → Option ρ} (hf : aI h 20 r0 i K = some r) (kk : ∀ v, K v = some r → WW X h cells slots (pc + 1) lv (.int v :: st)) : WW X h cells slots pc lv (.int i :: rB (xD X).1 r0 :: st) := by
  unfold aI at hf
  split at hf
  · rename_i e
    obtain ⟨a, n, rfl, hq, hin⟩ := okA_spec e
    intro H locs ls hR hS hl
    exact W.iald (v := .int (gI h (some a) i.toNatClampNeg)) C.1 C.2.1 (a := (xD X).1 + a) ((hR.2.1 a _ hq).ar (by decide) (by decide)) ((C.2.2.2.2.2.1.2.1 20 (by decide) (by decide)).1 n _) (fun q => by cases q) (by rw [arrV_size]; exact hin) (by rw [arrV_read _ _ (Nat.not_le.mp fun q => hin (Or.inr q))]; rfl) rfl rfl d (kk _ hf H locs ls hR hS hl)
  · cases hf
theorem s_baload (C : CX X own cc nL) (d : decode cc pc = .ok (.baload, 1)) {r0 : Option Nat} {i : Int32} {K : Int32 → Option ρ} (hf : aI h 22 r0 i K = some r) (kk : ∀ v, K v = some r → WW X h cells slots (pc + 1) lv (.int v :: st)) : WW X h cells slots pc lv (.int i :: rB (xD X).1 r0 :: st) := by
  unfold aI at hf
  split at hf
  · rename_i e
    obtain ⟨a, n, rfl, hq, hin⟩ := okA_spec e
    intro H locs ls hR hS hl
    exact W.bald (v := .int (gI h (some a) i.toNatClampNeg)) C.1 C.2.1 (a := (xD X).1 + a) ((hR.2.1 a _ hq).ar (by decide) (by decide)) ((C.2.2.2.2.2.1.2.1 22 (by decide) (by decide)).1 n _) (fun q => by cases q) (by rw [arrV_size]; exact hin) (by rw [arrV_read _ _ (Nat.not_le.mp fun q => hin (Or.inr q))]; rfl) rfl rfl d (kk _ hf H locs ls hR hS hl)
  · cases hf
theorem s_zaload (C : CX X own cc nL) (d : decode cc pc = .ok (.baload, 1)) {r0 : Option Nat} {i : Int32} {K : Int32 → Option ρ} (hf : aI h 23 r0 i K = some r) (kk : ∀ v, K v = some r → WW X h cells slots (pc + 1) lv (.int v :: st)) : WW X h cells slots pc lv (.int i :: rB (xD X).1 r0 :: st) := by
  unfold aI at hf
  split at hf
  · rename_i e
    obtain ⟨a, n, rfl, hq, hin⟩ := okA_spec e
    intro H locs ls hR hS hl
    exact W.zald (v := .int (gI h (some a) i.toNatClampNeg)) C.1 C.2.1 (a := (xD X).1 + a) ((hR.2.1 a _ hq).ar (by decide) (by decide)) ((C.2.2.2.2.2.1.2.1 23 (by decide) (by decide)).1 n _) (fun q => by cases q) (by rw [arrV_size]; exact hin) (by rw [arrV_read _ _ (Nat.not_le.mp fun q => hin (Or.inr q))]; rfl) rfl rfl d (kk _ hf H locs ls hR hS hl)
  · cases hf
theorem s_laload (C : CX X own cc nL) (d : decode cc pc = .ok (.laload, 1)) {r0 : Option Nat} {i : Int32} {K : Int64 → Option ρ} (hf : aL h 24 r0 i K = some r) (kk : ∀ v, K v = some r → WW X h cells slots (pc + 1) lv (.long v :: st)) : WW X h cells slots pc lv (.int i :: rB (xD X).1 r0 :: st) := by
  unfold aL at hf
  split at hf
  · rename_i e
    obtain ⟨a, n, rfl, hq, hin⟩ := okA_spec e
    intro H locs ls hR hS hl
    exact W.lald (v := .long (gL h (some a) i.toNatClampNeg)) C.1 C.2.1 (a := (xD X).1 + a) ((hR.2.1 a _ hq).ar (by decide) (by decide)) ((C.2.2.2.2.2.1.2.1 24 (by decide) (by decide)).1 n _) (fun q => by cases q) (by rw [arrV_size]; exact hin) (by rw [arrV_read _ _ (Nat.not_le.mp fun q => hin (Or.inr q))]; rfl) rfl rfl d (kk _ hf H locs ls hR hS hl)
  · cases hf
theorem s_aaload (C : CX X own cc nL) (d : decode cc pc = .ok (.aaload, 1)) {t : Nat} (ht : 25 ≤ t ∧ t < 28) {r0 : Option Nat} {i : Int32} {K : Option Nat → Option ρ} (hf : aR h t r0 i K = some r) (kk : ∀ v, K v = some r → WW X h cells slots (pc + 1) lv (rB (xD X).1 v :: st)) : WW X h cells slots pc lv (.int i :: rB (xD X).1 r0 :: st) := by
  unfold aR at hf
  split at hf
  · rename_i e
    obtain ⟨a, n, rfl, hq, hin⟩ := okA_spec e
    have h3 : t = 25 ∨ t = 26 ∨ t = 27 := by omega
    intro H locs ls hR hS hl
    refine W.aald (v := rB (xD X).1 (gR h (some a) i.toNatClampNeg)) (ty := aty t) C.1 C.2.1 (a := (xD X).1 + a) ((hR.2.1 a _ hq).ar (by omega) (by omega)) ((C.2.2.2.2.2.1.2.1 t (by omega) (by omega)).1 n _) (by rcases h3 with rfl | rfl | rfl <;> rfl) (fun q => by cases q) (by rw [arrV_size]; exact hin) ?_ rfl rfl d (kk _ hf H locs ls hR hS hl)
    rw [arrV_read _ _ (Nat.not_le.mp fun q => hin (Or.inr q))]
    rcases h3 with rfl | rfl | rfl <;> rfl
  · cases hf
theorem atC.upd {D : DT} {h h' : AH} {k t n : Nat} {H1 : Heap} {i : Nat} {v : Value} (ht : ¬ t < 13) (h28 : t < 28) (e1 : H1[D.1 + k]? = some ((arrV (D.2.2.2.1 t) n (ac D.1 h t k)).setSlot i v)) (h2 : ∀ j, j ≠ i → ac D.1 h' t k j = ac D.1 h t k j) (h3 : ac D.1 h' t k i = v) : atC D h' k (t, n) H1 := by
  unfold atC
  rw [if_neg ht, if_pos h28, e1, arrV_store]
  congr 2
  funext j
  by_cases e : j = i
  · subst e; simp [updV, h3]
  · simp [updV, e, h2 j e]
theorem s_iastore (C : CX X own cc nL) (d : decode cc pc = .ok (.iastore, 1)) {r0 : Option Nat} {i v : Int32} {K : AH → Option ρ} (hf : bI h 20 r0 i v K = some r) (kk : ∀ h', K h' = some r → WW X h' cells slots (pc + 1) lv st) : WW X h cells slots pc lv (.int v :: .int i :: rB (xD X).1 r0 :: st) := by
  unfold bI at hf
  split at hf
  · rename_i e
    obtain ⟨a, n, rfl, hq, hin⟩ := okA_spec e
    intro H locs ls hR hS hl
    refine W.iast C.1 C.2.1 (a := (xD X).1 + a) ((hR.2.1 a _ hq).ar (by decide) (by decide)) ((C.2.2.2.2.2.1.2.1 20 (by decide) (by decide)).1 n _) (fun q => by cases q) (by rw [arrV_size]; exact hin) rfl rfl d fun H1 e1 e2 e3 => ?_
    exact kk _ hf H1 _ ls (hR.put (h' := wI h a i.toNatClampNeg v) rfl hq e2 e3 (atC.upd (by decide) (by decide) e1 (fun j hj => vB_wI2 j _ hj) vB_wI3) vB_wI1) (hS.putD e2 e3) hl
  · cases hf
theorem s_bastore (C : CX X own cc nL) (d : decode cc pc = .ok (.bastore, 1)) {r0 : Option Nat} {i v : Int32} {K : AH → Option ρ} (hf : bI h 22 r0 i v.toInt8.toInt32 K = some r) (kk : ∀ h', K h' = some r → WW X h' cells slots (pc + 1) lv st) : WW X h cells slots pc lv (.int v :: .int i :: rB (xD X).1 r0 :: st) := by
  unfold bI at hf
  split at hf
  · rename_i e
    obtain ⟨a, n, rfl, hq, hin⟩ := okA_spec e
    intro H locs ls hR hS hl
    refine W.bast C.1 C.2.1 (a := (xD X).1 + a) ((hR.2.1 a _ hq).ar (by decide) (by decide)) ((C.2.2.2.2.2.1.2.1 22 (by decide) (by decide)).1 n _) (fun q => by cases q) (by rw [arrV_size]; exact hin) rfl rfl d fun H1 e1 e2 e3 => ?_
    exact kk _ hf H1 _ ls (hR.put (h' := wI h a i.toNatClampNeg v.toInt8.toInt32) rfl hq e2 e3 (atC.upd (by decide) (by decide) e1 (fun j hj => vB_wI2 j _ hj) vB_wI3) vB_wI1) (hS.putD e2 e3) hl
  · cases hf
theorem s_zastore (C : CX X own cc nL) (d : decode cc pc = .ok (.bastore, 1)) {r0 : Option Nat} {i v : Int32} {K : AH → Option ρ} (hf : bI h 23 r0 i (v &&& 1) K = some r) (kk : ∀ h', K h' = some r → WW X h' cells slots (pc + 1) lv st) : WW X h cells slots pc lv (.int v :: .int i :: rB (xD X).1 r0 :: st) := by
  unfold bI at hf
  split at hf
  · rename_i e
    obtain ⟨a, n, rfl, hq, hin⟩ := okA_spec e
    intro H locs ls hR hS hl
    refine W.zast C.1 C.2.1 (a := (xD X).1 + a) ((hR.2.1 a _ hq).ar (by decide) (by decide)) ((C.2.2.2.2.2.1.2.1 23 (by decide) (by decide)).1 n _) (fun q => by cases q) (by rw [arrV_size]; exact hin) rfl rfl d fun H1 e1 e2 e3 => ?_
    exact kk _ hf H1 _ ls (hR.put (h' := wI h a i.toNatClampNeg (v &&& 1)) rfl hq e2 e3 (atC.upd (by decide) (by decide) e1 (fun j hj => vB_wI2 j _ hj) vB_wI3) vB_wI1) (hS.putD e2 e3) hl
  · cases hf
theorem s_lastore (C : CX X own cc nL) (d : decode cc pc = .ok (.lastore, 1)) {r0 : Option Nat} {i : Int32} {v : Int64} {K : AH → Option ρ} (hf : bL h 24 r0 i v K = some r) (kk : ∀ h', K h' = some r → WW X h' cells slots (pc + 1) lv st) : WW X h cells slots pc lv (.long v :: .int i :: rB (xD X).1 r0 :: st) := by
  unfold bL at hf
  split at hf
  · rename_i e
    obtain ⟨a, n, rfl, hq, hin⟩ := okA_spec e
    intro H locs ls hR hS hl
    refine W.last C.1 C.2.1 (a := (xD X).1 + a) ((hR.2.1 a _ hq).ar (by decide) (by decide)) ((C.2.2.2.2.2.1.2.1 24 (by decide) (by decide)).1 n _) (fun q => by cases q) (by rw [arrV_size]; exact hin) rfl rfl d fun H1 e1 e2 e3 => ?_
    exact kk _ hf H1 _ ls (hR.put (h' := wL h a i.toNatClampNeg v) rfl hq e2 e3 (atC.upd (by decide) (by decide) e1 (fun j hj => vB_wL2 j _ hj) vB_wL3) vB_wL1) (hS.putD e2 e3) hl
  · cases hf
theorem s_alen (C : CX X own cc nL) (d : decode cc pc = .ok (.arraylength, 1)) {t : Nat} (ht : 20 ≤ t ∧ t < 28) {r0 : Option Nat} {K : Int32 → Option ρ} (hf : aN h t r0 K = some r) (kk : ∀ v, K v = some r → WW X h cells slots (pc + 1) lv (.int v :: st)) : WW X h cells slots pc lv (rB (xD X).1 r0 :: st) := by
  unfold aN at hf
  cases r0 with
  | none => cases hf
  | some a =>
    cases hq : (hS h)[a]? with
    | none => simp [hq] at hf
    | some q =>
      obtain ⟨t', n⟩ := q
      simp only [hq] at hf
      split at hf
      · rename_i e
        subst e
        intro H locs ls hR hS hl
        exact W.alen (n := nI n) C.1 C.2.1 (a := (xD X).1 + a) ((hR.2.1 a _ hq).ar (by omega) (by omega)) ((C.2.2.2.2.2.1.2.1 t' ht.1 (by omega)).1 n _) (by rw [arrV_size]; rfl) rfl rfl d (kk _ hf H locs ls hR hS hl)
      · cases hf
end HEAP2
