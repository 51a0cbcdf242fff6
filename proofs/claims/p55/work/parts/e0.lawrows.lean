/-! THE LAW'S OWN CELLS (sorts 28 int[], 29 int[][], 30 boolean[]): held by D while the class works, by h while the law works -/
def lawc (h : AH) (k : Nat) : Option (Nat × Nat) := match (hS h)[k]? with | none => none | some q => if 28 ≤ q.1 then some q else none
def contL (b : Nat) (h : AH) (k : Nat) : Nat → Value := fun j => vB b h k j (fk (aty (match lawc h k with | none => 28 | some q => q.1)))
abbrev sFD (D : DT) (h : AH) : DT := (D.1, D.2.1, D.2.2.1, D.2.2.2.1, (hS h).length, lawc h, contL D.1 h)
abbrev sF (X : XT) (h : AH) : XT := (X.1, X.2.1, sFD X.2.2.1 h, X.2.2.2)
theorem lawc_iff {h : AH} {k : Nat} {q : Nat × Nat} : lawc h k = some q ↔ ((hS h)[k]? = some q ∧ 28 ≤ q.1) := by
  unfold lawc
  cases e : (hS h)[k]? with
  | none => simp
  | some p =>
    simp only
    by_cases c : 28 ≤ p.1
    · rw [if_pos c]
      refine ⟨fun z => ?_, fun z => z.1⟩
      cases z
      exact ⟨rfl, c⟩
    · rw [if_neg c]
      refine ⟨fun z => (by cases z), fun z => ?_⟩
      have z1 := z.1
      cases z1
      exact absurd z.2 c
theorem LW_self (D : DT) (h : AH) : LW (sFD D h) (hS h) := ⟨Nat.le_refl _, fun _ _ => lawc_iff⟩
def atL (D : DT) (h : AH) (k : Nat) (q : Nat × Nat) (H : Heap) : Prop := if q.1 < 13 then okC q.1 ∧ t_OB (D.1 + k) (D.2.1 q.1) (NXX q.1) (D.2.2.1 q.1) H (oc D.1 h q.1 k) else H[D.1 + k]? = some (arrV (D.2.2.2.1 q.1) q.2 (ac D.1 h q.1 k))
def RepL (D : DT) (h : AH) (H : Heap) : Prop := H.size = D.1 + (hS h).length ∧ ∀ (k : Nat) (q : Nat × Nat), (hS h)[k]? = some q → atL D h k q H
theorem contL_at {b : Nat} {h : AH} {k : Nat} {q : Nat × Nat} (e : (hS h)[k]? = some q) (c : 28 ≤ q.1) : contL b h k = ac b h q.1 k := by
  funext j
  unfold contL
  rw [lawc_iff.mpr ⟨e, c⟩]
  rfl
theorem RepL_iff {D : DT} {h : AH} {H : Heap} : RepH (sFD D h) h H ↔ RepL D h H := by
  have key : ∀ (k : Nat) (q : Nat × Nat), (hS h)[k]? = some q → (atC (sFD D h) h k q H ↔ atL D h k q H) := by
    intro k q hq
    unfold atC atL
    by_cases c : q.1 < 13
    · rw [if_pos c, if_pos c]
    · rw [if_neg c, if_neg c]
      by_cases c2 : q.1 < 28
      · rw [if_pos c2]
      · rw [if_neg c2]
        show H[D.1 + k]? = some (arrV (D.2.2.2.1 q.1) q.2 (contL D.1 h k)) ↔ _
        rw [contL_at hq (by omega)]
  exact ⟨fun r => ⟨r.1, fun k q hq => (key k q hq).mp (r.2.1 k q hq)⟩, fun r => ⟨r.1, fun k q hq => (key k q hq).mpr (r.2 k q hq), LW_self D h⟩⟩
theorem atL.ar {D : DT} {h : AH} {k t n : Nat} {H : Heap} (hc : atL D h k (t, n) H) (ht : ¬ t < 13) : H[D.1 + k]? = some (arrV (D.2.2.2.1 t) n (ac D.1 h t k)) := by
  unfold atL at hc
  rwa [if_neg ht] at hc
theorem atL.upd {D : DT} {h h' : AH} {k t n : Nat} {H1 : Heap} {i : Nat} {v : Value} (ht : ¬ t < 13) (e1 : H1[D.1 + k]? = some ((arrV (D.2.2.2.1 t) n (ac D.1 h t k)).setSlot i v)) (h2 : ∀ j, j ≠ i → ac D.1 h' t k j = ac D.1 h t k j) (h3 : ac D.1 h' t k i = v) : atL D h' k (t, n) H1 := by
  unfold atL
  rw [if_neg ht, e1, arrV_store]
  congr 2
  funext j
  by_cases e : j = i
  · subst e; simp [updV, h3]
  · simp [updV, e, h2 j e]
theorem RepL.put {D : DT} {h h' : AH} {H H1 : Heap} (hR : RepL D h H) (hs : hS h' = hS h) {k : Nat} {q : Nat × Nat} (hk : (hS h)[k]? = some q) (hz : H1.size = H.size) (hq : ∀ x, x ≠ D.1 + k → H1[x]? = H[x]?) (hc : atL D h' k q H1) (ho : ∀ j i f, j ≠ k → vB D.1 h' j i f = vB D.1 h j i f) : RepL D h' H1 := by
  refine ⟨by rw [hz, hs]; exact hR.1, fun j p hj => ?_⟩
  rw [hs] at hj
  by_cases e : j = k
  · subst e
    rw [hk] at hj
    cases hj
    exact hc
  · have h1 := hR.2 j p hj
    have hne : D.1 + j ≠ D.1 + k := by omega
    unfold atL at h1 ⊢
    split
    · rename_i hlt
      rw [if_pos hlt] at h1
      exact ⟨h1.1, (h1.2.kept (hq _ hne)).to (fun i _ => (ho j i _ e).symm)⟩
    · rename_i hlt
      rw [if_neg hlt] at h1
      rw [hq _ hne, h1]
      have : ac D.1 h p.1 j = ac D.1 h' p.1 j := by funext i; exact (ho j i _ e).symm
      rw [this]
theorem RepL.grow {D : DT} {h : AH} {t n : Nat} {H H1 : Heap} (hR : RepL D h H) (z : H1.size = H.size + 1) (o : ∀ q, q < H.size → H1[q]? = H[q]?) (hc : atL D (grow h t n) (hS h).length (t, n) H1) : RepL D (grow h t n) H1 := by
  refine ⟨by rw [z, hR.1, hS_grow, List.length_append]; rfl, fun j p hj => ?_⟩
  rw [hS_grow] at hj
  by_cases hl : j < (hS h).length
  · rw [List.getElem?_append_left hl] at hj
    have h1 := hR.2 j p hj
    have hlt : D.1 + j < H.size := by rw [hR.1]; omega
    unfold atL at h1 ⊢
    split
    · rename_i ht
      rw [if_pos ht] at h1
      exact ⟨h1.1, (h1.2.kept (o _ hlt)).to (fun i _ => (vB_grow j i _ hl).symm)⟩
    · rename_i ht
      rw [if_neg ht] at h1
      rw [o _ hlt, h1]
      have : ac D.1 h p.1 j = ac D.1 (Jvm.Pilot.@@N@@.grow h t n) p.1 j := by funext i; exact (vB_grow j i _ hl).symm
      rw [this]
  · rw [List.getElem?_append_right (by omega)] at hj
    have hz : j - (hS h).length < 1 := (List.getElem?_eq_some_iff.mp hj).1
    have ej : j = (hS h).length := by omega
    subst ej
    rw [Nat.sub_self] at hj
    cases hj
    exact hc
/-! behind a call of the class: the law's cells as they were -/
def isL (h : AH) (k : Nat) : Bool := (lawc h k).isSome
def rstS : List (Nat × Nat) → List (Nat × Nat) → List (Nat × Nat)
  | [], l => l
  | q :: r, [] => q :: r
  | q :: r, p :: s => (if 28 ≤ q.1 then q else p) :: rstS r s
def rst (h h2 : AH) : AH := (rstS (hS h) (hS h2), (fun k j => if isL h k = true then hI h k j else hI h2 k j), (fun k j => if isL h k = true then hL h k j else hL h2 k j), (fun k j => if isL h k = true then hR h k j else hR h2 k j))
theorem rstS_eq : ∀ (S S2 : List (Nat × Nat)), S.length ≤ S2.length → (∀ (k : Nat) (q : Nat × Nat), S[k]? = some q → 28 ≤ q.1 → S2[k]? = some q) → rstS S S2 = S2
  | [], l, _, _ => rfl
  | q :: r, [], hl, _ => by simp at hl
  | q :: r, p :: s, hl, hk => by
    unfold rstS
    have e1 : (if 28 ≤ q.1 then q else p) = p := by
      by_cases c : 28 ≤ q.1
      · rw [if_pos c]
        have := hk 0 q rfl c
        simp at this
        exact this.symm
      · rw [if_neg c]
    rw [e1, rstS_eq r s (by simpa using hl) (fun k x hx c => by
      have := hk (k + 1) x (by simpa using hx) c
      simpa using this)]
theorem rstS_law : ∀ (S S2 : List (Nat × Nat)) (k : Nat) (q : Nat × Nat), S[k]? = some q → 28 ≤ q.1 → (rstS S S2)[k]? = some q
  | [], _, _, _, h, _ => by simp at h
  | q :: r, [], k, x, h, _ => h
  | q :: r, p :: s, 0, x, h, c => by
    simp at h
    subst h
    show ((if 28 ≤ q.1 then q else p) :: rstS r s)[0]? = some q
    rw [if_pos c]
    rfl
  | q :: r, p :: s, k + 1, x, h, c => by
    have := rstS_law r s k x (by simpa using h) c
    show ((if 28 ≤ q.1 then q else p) :: rstS r s)[k + 1]? = some x
    simpa using this
theorem rstS_own : ∀ (S S2 : List (Nat × Nat)) (k : Nat) (q : Nat × Nat), S2[k]? = some q → (∀ p, S[k]? = some p → ¬ 28 ≤ p.1) → (rstS S S2)[k]? = some q
  | [], _, _, _, h, _ => h
  | q :: r, [], k, x, h, _ => by simp at h
  | q :: r, p :: s, 0, x, h, c => by
    simp at h
    subst h
    show ((if 28 ≤ q.1 then q else p) :: rstS r s)[0]? = some p
    rw [if_neg (c q rfl)]
    rfl
  | q :: r, p :: s, k + 1, x, h, c => by
    have := rstS_own r s k x (by simpa using h) (fun y hy => c y (by simpa using hy))
    show ((if 28 ≤ q.1 then q else p) :: rstS r s)[k + 1]? = some x
    simpa using this
theorem rstS_len : ∀ (S S2 : List (Nat × Nat)), S.length ≤ S2.length → (rstS S S2).length = S2.length
  | [], _, _ => rfl
  | q :: r, [], h => by simp at h
  | q :: r, p :: s, h => by
    show (_ :: rstS r s).length = _
    simp [rstS_len r s (by simpa using h)]
theorem isL_iff {h : AH} {k : Nat} : isL h k = true ↔ ∃ q, (hS h)[k]? = some q ∧ 28 ≤ q.1 := by
  unfold isL
  rw [Option.isSome_iff_exists]
  exact ⟨fun ⟨q, hq⟩ => ⟨q, lawc_iff.mp hq⟩, fun ⟨q, hq⟩ => ⟨q, lawc_iff.mpr hq⟩⟩
theorem rst_I1 {h h2 : AH} {k : Nat} (e : isL h k = true) : hI (rst h h2) k = hI h k := by
  funext j; exact if_pos e
theorem rst_L1 {h h2 : AH} {k : Nat} (e : isL h k = true) : hL (rst h h2) k = hL h k := by
  funext j; exact if_pos e
theorem rst_R1 {h h2 : AH} {k : Nat} (e : isL h k = true) : hR (rst h h2) k = hR h k := by
  funext j; exact if_pos e
theorem rst_I0 {h h2 : AH} {k : Nat} (e : isL h k = false) : hI (rst h h2) k = hI h2 k := by
  funext j; exact if_neg (by rw [e]; decide)
theorem rst_L0 {h h2 : AH} {k : Nat} (e : isL h k = false) : hL (rst h h2) k = hL h2 k := by
  funext j; exact if_neg (by rw [e]; decide)
theorem rst_R0 {h h2 : AH} {k : Nat} (e : isL h k = false) : hR (rst h h2) k = hR h2 k := by
  funext j; exact if_neg (by rw [e]; decide)
theorem RepH.rst {D : DT} {h h2 : AH} {H : Heap} (hR : RepH (sFD D h) h2 H) : RepL D (rst h h2) H := by
  obtain ⟨h1, h2', hl, hw⟩ := hR
  have eS : hS (Jvm.Pilot.@@N@@.rst h h2) = hS h2 := rstS_eq _ _ hl (fun k q e c => ((hw k q).mp (lawc_iff.mpr ⟨e, c⟩)).1)
  refine ⟨by rw [eS]; exact h1, fun k q hq => ?_⟩
  rw [eS] at hq
  have hc := h2' k q hq
  unfold atC at hc
  unfold atL
  by_cases c : 28 ≤ q.1
  · rw [if_neg (by omega), if_neg (by omega)] at hc
    rw [if_neg (by omega), hc]
    have e0 : lawc h k = some q := (hw k q).mpr ⟨hq, c⟩
    have e1 : isL h k = true := by unfold isL; rw [e0]; rfl
    congr 2
    show contL D.1 h k = _
    rw [contL_at (lawc_iff.mp e0).1 c]
    funext j
    show vB D.1 h k j _ = vB D.1 (Jvm.Pilot.@@N@@.rst h h2) k j _
    unfold vB
    rw [rst_I1 e1, rst_L1 e1, rst_R1 e1]
  · have e1 : isL h k = false := by
      cases e : isL h k with
      | false => rfl
      | true =>
        obtain ⟨p, hp⟩ := isL_iff.mp e
        have := (hw k p).mp (lawc_iff.mpr hp)
        rw [hq] at this
        cases this.1
        exact absurd hp.2 c
    have e2 : ∀ j f, vB D.1 (Jvm.Pilot.@@N@@.rst h h2) k j f = vB D.1 h2 k j f := by
      intro j f
      unfold vB
      rw [rst_I0 e1, rst_L0 e1, rst_R0 e1]
    by_cases c1 : q.1 < 13
    · rw [if_pos c1] at hc ⊢
      exact ⟨hc.1, hc.2.to (fun i _ => (e2 i _).symm)⟩
    · rw [if_neg c1, if_pos (by omega)] at hc
      rw [if_neg c1, hc]
      congr 2
      funext j
      exact (e2 j _).symm
def clR {α ρ : Type} (h : AH) (o : Option (α × AH)) (K : α → AH → Option ρ) : Option ρ := cl o (fun x h2 => K x (rst h h2))
section LAWROWS
variable {X : XT} {own : String} {cc : ByteArray} {nL pc cells slots mc ms : Nat} {h : AH} {lv lv' : List (Option Value)} {st : List Value} {ρ : Type} {r : ρ}
theorem WL.of (k : ∀ (H : Heap) (locs : List Loc) (ls : Array Slot), RepL (xD X) h H → va_S (fun q => (xD X).1 ≤ q) (xs X).heap H locs → LV ls (xc X).maxLocals lv → WX X H locs cells slots (F0 (xm X) pc ls st)) : WW (sF X h) h cells slots pc lv st :=
  fun H locs ls hR hS hl => k H locs ls (RepL_iff.mp hR) hS hl
theorem WL.use (k : WW (sF X h) h cells slots pc lv st) (H : Heap) (locs : List Loc) (ls : Array Slot) (hR : RepL (xD X) h H) (hS : va_S (fun q => (xD X).1 ≤ q) (xs X).heap H locs) (hl : LV ls (xc X).maxLocals lv) : WX X H locs cells slots (F0 (xm X) pc ls st) := k H locs ls (RepL_iff.mpr hR) hS hl
theorem WL.rst {h2 : AH} (k : WW (sF X (rst h h2)) (rst h h2) cells slots pc lv st) : WW (sF X h) h2 cells slots pc lv st :=
  fun H locs ls hR hS hl => WL.use k H locs ls (RepH.rst hR) hS hl
theorem CX.sF (C : CX X own cc nL) (g : AH) : CX (sF X g) own cc nL := C
theorem L_iaload (C : CX X own cc nL) (d : decode cc pc = .ok (.iaload, 1)) {r0 : Option Nat} {i : Int32} {K : Int32 → Option ρ} (hf : aI h 28 r0 i K = some r) (kk : ∀ v, K v = some r → WW (sF X h) h cells slots (pc + 1) lv (.int v :: st)) : WW (sF X h) h cells slots pc lv (.int i :: rB (xD X).1 r0 :: st) := by
  unfold aI at hf
  split at hf
  · rename_i e
    obtain ⟨a, n, rfl, hq, hin⟩ := okA_spec e
    refine WL.of fun H locs ls hR hS hl => ?_
    exact W.iald (v := .int (gI h (some a) i.toNatClampNeg)) C.1 C.2.1 (a := (xD X).1 + a) ((hR.2 a _ hq).ar (by decide)) ((C.2.2.2.2.2.1.2.1 28 (by decide) (by decide)).1 n _) (fun q => by cases q) (by rw [arrV_size]; exact hin) (by rw [arrV_read _ _ (Nat.not_le.mp fun q => hin (Or.inr q))]; rfl) rfl rfl d (WL.use (kk _ hf) H locs ls hR hS hl)
  · cases hf
theorem L_zaload (C : CX X own cc nL) (d : decode cc pc = .ok (.baload, 1)) {r0 : Option Nat} {i : Int32} {K : Int32 → Option ρ} (hf : aI h 30 r0 i K = some r) (kk : ∀ v, K v = some r → WW (sF X h) h cells slots (pc + 1) lv (.int v :: st)) : WW (sF X h) h cells slots pc lv (.int i :: rB (xD X).1 r0 :: st) := by
  unfold aI at hf
  split at hf
  · rename_i e
    obtain ⟨a, n, rfl, hq, hin⟩ := okA_spec e
    refine WL.of fun H locs ls hR hS hl => ?_
    exact W.zald (v := .int (gI h (some a) i.toNatClampNeg)) C.1 C.2.1 (a := (xD X).1 + a) ((hR.2 a _ hq).ar (by decide)) ((C.2.2.2.2.2.1.2.1 30 (by decide) (by decide)).1 n _) (fun q => by cases q) (by rw [arrV_size]; exact hin) (by rw [arrV_read _ _ (Nat.not_le.mp fun q => hin (Or.inr q))]; rfl) rfl rfl d (WL.use (kk _ hf) H locs ls hR hS hl)
  · cases hf
theorem L_aaload (C : CX X own cc nL) (d : decode cc pc = .ok (.aaload, 1)) {r0 : Option Nat} {i : Int32} {K : Option Nat → Option ρ} (hf : aR h 29 r0 i K = some r) (kk : ∀ v, K v = some r → WW (sF X h) h cells slots (pc + 1) lv (rB (xD X).1 v :: st)) : WW (sF X h) h cells slots pc lv (.int i :: rB (xD X).1 r0 :: st) := by
  unfold aR at hf
  split at hf
  · rename_i e
    obtain ⟨a, n, rfl, hq, hin⟩ := okA_spec e
    refine WL.of fun H locs ls hR hS hl => ?_
    refine W.aald (v := rB (xD X).1 (gR h (some a) i.toNatClampNeg)) (ty := aty 29) C.1 C.2.1 (a := (xD X).1 + a) ((hR.2 a _ hq).ar (by decide)) ((C.2.2.2.2.2.1.2.1 29 (by decide) (by decide)).1 n _) rfl (fun q => by cases q) (by rw [arrV_size]; exact hin) ?_ rfl rfl d (WL.use (kk _ hf) H locs ls hR hS hl)
    rw [arrV_read _ _ (Nat.not_le.mp fun q => hin (Or.inr q))]
    rfl
  · cases hf
theorem L_iastore (C : CX X own cc nL) (d : decode cc pc = .ok (.iastore, 1)) {r0 : Option Nat} {i v : Int32} {K : AH → Option ρ} (hf : bI h 28 r0 i v K = some r) (kk : ∀ h', K h' = some r → WW (sF X h') h' cells slots (pc + 1) lv st) : WW (sF X h) h cells slots pc lv (.int v :: .int i :: rB (xD X).1 r0 :: st) := by
  unfold bI at hf
  split at hf
  · rename_i e
    obtain ⟨a, n, rfl, hq, hin⟩ := okA_spec e
    refine WL.of fun H locs ls hR hS hl => ?_
    refine W.iast C.1 C.2.1 (a := (xD X).1 + a) ((hR.2 a _ hq).ar (by decide)) ((C.2.2.2.2.2.1.2.1 28 (by decide) (by decide)).1 n _) (fun q => by cases q) (by rw [arrV_size]; exact hin) rfl rfl d fun H1 e1 e2 e3 => ?_
    exact WL.use (kk _ hf) H1 _ ls (hR.put (h' := wI h a i.toNatClampNeg v) rfl hq e2 e3 (atL.upd (by decide) e1 (fun j hj => vB_wI2 j _ hj) vB_wI3) vB_wI1) (hS.putD e2 e3) hl
  · cases hf
theorem L_zastore (C : CX X own cc nL) (d : decode cc pc = .ok (.bastore, 1)) {r0 : Option Nat} {i v : Int32} {K : AH → Option ρ} (hf : bI h 30 r0 i (v &&& 1) K = some r) (kk : ∀ h', K h' = some r → WW (sF X h') h' cells slots (pc + 1) lv st) : WW (sF X h) h cells slots pc lv (.int v :: .int i :: rB (xD X).1 r0 :: st) := by
  unfold bI at hf
  split at hf
  · rename_i e
    obtain ⟨a, n, rfl, hq, hin⟩ := okA_spec e
    refine WL.of fun H locs ls hR hS hl => ?_
    refine W.zast C.1 C.2.1 (a := (xD X).1 + a) ((hR.2 a _ hq).ar (by decide)) ((C.2.2.2.2.2.1.2.1 30 (by decide) (by decide)).1 n _) (fun q => by cases q) (by rw [arrV_size]; exact hin) rfl rfl d fun H1 e1 e2 e3 => ?_
    exact WL.use (kk _ hf) H1 _ ls (hR.put (h' := wI h a i.toNatClampNeg (v &&& 1)) rfl hq e2 e3 (atL.upd (by decide) e1 (fun j hj => vB_wI2 j _ hj) vB_wI3) vB_wI1) (hS.putD e2 e3) hl
  · cases hf
theorem L_alen (C : CX X own cc nL) (d : decode cc pc = .ok (.arraylength, 1)) {r0 : Option Nat} {K : Int32 → Option ρ} (hf : aN h 28 r0 K = some r) (kk : ∀ v, K v = some r → WW (sF X h) h cells slots (pc + 1) lv (.int v :: st)) : WW (sF X h) h cells slots pc lv (rB (xD X).1 r0 :: st) := by
  unfold aN at hf
  cases r0 with
  | none => cases hf
  | some a =>
    cases hq : (hS h)[a]? with
    | none => simp [hq] at hf
    | some q =>
      obtain ⟨t', n⟩ := q
      simp only [hq] at hf
      split at hf
      · rename_i e
        subst e
        refine WL.of fun H locs ls hR hS hl => ?_
        exact W.alen (n := nI n) C.1 C.2.1 (a := (xD X).1 + a) ((hR.2 a _ hq).ar (by decide)) ((C.2.2.2.2.2.1.2.1 28 (by decide) (by decide)).1 n _) (by rw [arrV_size]; rfl) rfl rfl d (WL.use (kk _ hf) H locs ls hR hS hl)
      · cases hf
theorem L_newarray (C : CX X own cc nL) {t N : Nat} {atype : ArrayType} {x : Int32} (hty : newarray.typeOf atype = aty t) (ht : t = 28 ∨ t = 30) (w1 : Cond.arrayClass (aty t) ∈ lw_big) (d : decode cc pc = .ok (.newarray atype, 2)) (hx : ¬ x < 0) (hN : x.toNatClampNeg = N) (hbytes : N * componentBytes (aty t) ≤ 536870912) {K : Option Nat → AH → Option ρ} (hf : nO h t N K = some r) (hc : cells + 1 ≤ (xR X).cells) (hs : slots + N ≤ (xR X).slots) (kk : ∀ v h', K v h' = some r → WW (sF X h') h' (cells + 1) (slots + N) (pc + 2) lv (rB (xD X).1 v :: st)) : WW (sF X h) h cells slots pc lv (.int x :: st) := by
  subst hN
  refine WL.of fun H locs ls hR hS hl => ?_
  have hts := C.2.2.2.2.1
  refine W.newa C.1 C.2.1 (by rw [hty]; exact hts _ w1) rfl d rfl hx (by rw [hty]; exact hbytes) hc hs fun cA kA comp h1 h2 h3 => ?_
  rw [hty] at h1 h3 ⊢
  have hra := (C.2.2.2.2.2.1.2.1 t (by omega) (by omega)).2
  have ecA : cA = (xD X).2.2.2.1 t := by
    have hra' : (xs X).vm.findClass ("[" ++ (aty t).toString) = some ((xD X).2.2.2.1 t) := by
      rcases ht with rfl | rfl <;> exact hra
    exact Option.some.inj (h1.symm.trans hra')
  subst ecA
  generalize hH1 : H.push ({ cls := (xD X).2.2.2.1 t, slots := Array.replicate x.toNatClampNeg (defaultValue (aty t)), vm := .none } : Cell) = H1
  have z1 : H1.size = H.size + 1 := by rw [← hH1, Array.size_push]
  have e1 : H1[H.size]? = some (arrV ((xD X).2.2.2.1 t) x.toNatClampNeg (fun _ => defaultValue (aty t))) := by rw [← hH1, Array.getElem?_push_size, ← arrV_new]
  have o1 : ∀ q : Nat, q < H.size → H1[q]? = H[q]? := fun q hq => by rw [← hH1, Array.getElem?_push, if_neg (Nat.ne_of_lt hq)]
  have e : H.size = (xD X).1 + (Jvm.Pilot.@@N@@.hS h).length := hR.1
  have hat : atL (xD X) (grow h t x.toNatClampNeg) (Jvm.Pilot.@@N@@.hS h).length (t, x.toNatClampNeg) H1 := by
    unfold atL
    rw [if_neg (by show ¬ t < 13; omega), ac_grow0 (by rcases ht with rfl | rfl <;> rfl), ← e]
    exact e1
  have := WL.use (kk _ _ hf) H1 locs ls (hR.grow z1 o1 hat) (hS.grown z1 o1) hl
  rw [e]
  exact this
end LAWROWS
