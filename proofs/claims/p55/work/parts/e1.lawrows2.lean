/-! THE LAW'S ROWS: new T[60][5], calls, the law's own methods' contracts -/
def rwR (h : AH) (a : Nat) (g : Nat → Option Nat) : AH := (h.1, h.2.1, h.2.2.1, uR h.2.2.2 a g)
def grR (h : AH) : Nat → AH
  | 0 => h
  | n + 1 => grow (grR h n) 28 5
def mulN (h : AH) (m : Nat) : AH := rwR (grR (grow h 29 m) m) (hS h).length (fun i => if i < m then some ((hS h).length + 1 + i) else none)
def mM {ρ : Type} (h : AH) (K : Option Nat → AH → Option ρ) : Option ρ := K (some (hS h).length) (mulN h 60)
theorem grR_S (h : AH) : ∀ n, hS (grR h n) = hS h ++ List.replicate n (28, 5)
  | 0 => by simp [grR]
  | n + 1 => by
    show hS (grow (grR h n) 28 5) = _
    rw [hS_grow, grR_S h n, List.append_assoc, List.replicate_succ']
theorem grR_old (b : Nat) (h : AH) : ∀ n j i f, j < (hS h).length → vB b (grR h n) j i f = vB b h j i f
  | 0, _, _, _, _ => rfl
  | n + 1, j, i, f, hj => by
    show vB b (grow (grR h n) 28 5) j i f = _
    rw [vB_grow j i f (by rw [grR_S, List.length_append]; omega), grR_old b h n j i f hj]
theorem grR_new (b : Nat) (h : AH) : ∀ n j i, (hS h).length ≤ j → j < (hS h).length + n → vB b (grR h n) j i 0 = .int 0
  | 0, _, _, h1, h2 => by omega
  | n + 1, j, i, h1, h2 => by
    have hl : (hS (grR h n)).length = (hS h).length + n := by rw [grR_S, List.length_append, List.length_replicate]
    show vB b (grow (grR h n) 28 5) j i 0 = _
    by_cases e : j = (hS h).length + n
    · rw [e, ← hl]
      exact vB_grow0 i 0
    · rw [vB_grow j i 0 (by rw [hl]; omega)]
      exact grR_new b h n j i h1 (by omega)
theorem mulN_S (h : AH) (m : Nat) : hS (mulN h m) = hS h ++ ((29, m) :: List.replicate m (28, 5)) := by
  show hS (grR (grow h 29 m) m) = _
  rw [grR_S, hS_grow, List.append_assoc]
  rfl
theorem mulN_R (h : AH) (m : Nat) (j : Nat) : hR (mulN h m) j = if j = (hS h).length then (fun i => if i < m then some ((hS h).length + 1 + i) else none) else hR (grR (grow h 29 m) m) j := by
  have e0 : Jvm.Pilot.@@N@@.hR (mulN h m) = uR (Jvm.Pilot.@@N@@.hR (grR (grow h 29 m) m)) (Jvm.Pilot.@@N@@.hS h).length (fun i => if i < m then some ((Jvm.Pilot.@@N@@.hS h).length + 1 + i) else none) := rfl
  rw [e0]
  funext i
  unfold uR
  by_cases e : j = (Jvm.Pilot.@@N@@.hS h).length
  · rw [if_pos e, if_pos e]
  · rw [if_neg e, if_neg e]
theorem mulN_I (h : AH) (m : Nat) : hI (mulN h m) = hI (grR (grow h 29 m) m) := rfl
theorem mulN_L (h : AH) (m : Nat) : hL (mulN h m) = hL (grR (grow h 29 m) m) := rfl
theorem mulN_ne (b : Nat) (h : AH) (m j i f : Nat) (e : j ≠ (hS h).length) : vB b (mulN h m) j i f = vB b (grR (grow h 29 m) m) j i f := by
  unfold vB
  rw [mulN_R, if_neg e, mulN_I, mulN_L]
theorem RepL.mul {D : DT} {h : AH} {m : Nat} {H H1 : Heap} (hR : RepL D h H) (z : H1.size = H.size + 1 + m) (o : ∀ q, q < H.size → H1[q]? = H[q]?) (hc : H1[H.size]? = some (arrV (D.2.2.2.1 29) m (fun j => va_rf (if j < m then some (H.size + 1 + j) else none)))) (hi : ∀ j, j < m → H1[H.size + 1 + j]? = some (arrV (D.2.2.2.1 28) 5 (fun _ => .int 0))) : RepL D (mulN h m) H1 := by
  have hl : (Jvm.Pilot.@@N@@.hS h).length + D.1 = H.size := by rw [hR.1]; omega
  have c29 : ¬ (29 : Nat) < 13 := by decide
  have c28 : ¬ (28 : Nat) < 13 := by decide
  refine ⟨by rw [z, hR.1, mulN_S, List.length_append, List.length_cons, List.length_replicate]; omega, fun j p hj => ?_⟩
  rw [mulN_S] at hj
  rcases Nat.lt_trichotomy j (Jvm.Pilot.@@N@@.hS h).length with c | c | c
  · rw [List.getElem?_append_left c] at hj
    have h1 := hR.2 j p hj
    have hv : ∀ i f, vB D.1 h j i f = vB D.1 (mulN h m) j i f := fun i f => by
      rw [mulN_ne _ _ _ _ _ _ (by omega), grR_old _ _ _ _ _ _ (by rw [hS_grow, List.length_append]; omega), vB_grow j i f c]
    unfold atL at h1 ⊢
    split
    · rename_i ht
      rw [if_pos ht] at h1
      exact ⟨h1.1, (h1.2.kept (o _ (by omega))).to (fun i _ => hv i _)⟩
    · rename_i ht
      rw [if_neg ht] at h1
      rw [o _ (by omega), h1]
      have : ac D.1 h p.1 j = ac D.1 (mulN h m) p.1 j := by funext i; exact hv i _
      rw [this]
  · subst c
    rw [List.getElem?_append_right (by omega), Nat.sub_self] at hj
    cases hj
    unfold atL
    rw [if_neg c29, show D.1 + (Jvm.Pilot.@@N@@.hS h).length = H.size by omega, hc]
    congr 2
    funext i
    show _ = rB D.1 (Jvm.Pilot.@@N@@.hR (mulN h m) (Jvm.Pilot.@@N@@.hS h).length i)
    rw [mulN_R, if_pos rfl]
    by_cases c : i < m
    · show va_rf (if i < m then _ else _) = rB D.1 (if i < m then _ else _)
      rw [if_pos c, if_pos c]
      show va_rf (some (H.size + 1 + i)) = va_rf (some (D.1 + ((Jvm.Pilot.@@N@@.hS h).length + 1 + i)))
      rw [show H.size + 1 + i = D.1 + ((Jvm.Pilot.@@N@@.hS h).length + 1 + i) by omega]
    · show va_rf (if i < m then _ else _) = rB D.1 (if i < m then _ else _)
      rw [if_neg c, if_neg c]
      rfl
  · rw [List.getElem?_append_right (by omega)] at hj
    have e : j - (Jvm.Pilot.@@N@@.hS h).length = (j - (Jvm.Pilot.@@N@@.hS h).length - 1) + 1 := by omega
    rw [e, List.getElem?_cons_succ] at hj
    have hlt := (List.getElem?_eq_some_iff.mp hj).1
    rw [List.length_replicate] at hlt
    have hp : p = (28, 5) := by
      rw [List.getElem?_replicate, if_pos hlt] at hj
      exact (Option.some.inj hj).symm
    subst hp
    unfold atL
    rw [if_neg c28, show D.1 + j = H.size + 1 + (j - (Jvm.Pilot.@@N@@.hS h).length - 1) by omega, hi _ hlt]
    congr 2
    funext i
    show _ = vB D.1 (mulN h m) j i 0
    rw [mulN_ne _ _ _ _ _ _ (by omega), grR_new _ _ _ _ _ (by rw [hS_grow, List.length_append]; show _ + 1 ≤ _; omega) (by rw [hS_grow, List.length_append]; show _ < _ + 1 + m; omega)]
/-- reading a cell of the law's own while a method of the law works: as it was at the method's start, g -/
def aF {ρ : Type} (g : AH) (r : Option Nat) (i : Int32) (K : Int32 → Option ρ) : Option ρ := if okA g 28 r i = true then K (gI g r i.toNatClampNeg) else none
def cellF (tb : List Int32) (i : Int32) : Option Int32 := if nI tb.length ≤ i then some (i * 6577) else tbI tb i (fun v => some (v &&& 16777215))
def clC {ρ : Type} (o : Option Int32) (K : Int32 → Option ρ) : Option ρ := match o with | none => none | some v => K v
section LAWROWS2
variable {X : XT} {own : String} {cc : ByteArray} {nL pc cells slots mc ms : Nat} {h : AH} {lv lv' : List (Option Value)} {st : List Value} {ρ : Type} {r : ρ}
theorem s_ialoadF (C : CX X own cc nL) {D0 : DT} {g : AH} (hD : xD X = sFD D0 g) (d : decode cc pc = .ok (.iaload, 1)) {r0 : Option Nat} {i : Int32} {K : Int32 → Option ρ} (hf : aF g r0 i K = some r) (kk : ∀ v, K v = some r → WW X h cells slots (pc + 1) lv (.int v :: st)) : WW X h cells slots pc lv (.int i :: rB (xD X).1 r0 :: st) := by
  unfold aF at hf
  split at hf
  · rename_i e
    obtain ⟨a, n, rfl, hq, hin⟩ := okA_spec e
    intro H locs ls hR hS hl
    have e0 : (xD X).2.2.2.2.2.1 a = some (28, n) := by rw [hD]; exact lawc_iff.mpr ⟨hq, Nat.le_refl _⟩
    have e1 := ((hR.2.2.2 a (28, n)).mp e0).1
    have hc := hR.2.1 a _ e1
    unfold atC at hc
    rw [if_neg (show ¬ (28 : Nat) < 13 by decide), if_neg (show ¬ (28 : Nat) < 28 by decide)] at hc
    have e2 : (xD X).2.2.2.2.2.2 a = ac (xD X).1 g 28 a := by
      rw [hD]
      exact contL_at hq (Nat.le_refl _)
    rw [e2] at hc
    exact W.iald (v := .int (gI g (some a) i.toNatClampNeg)) C.1 C.2.1 (a := (xD X).1 + a) hc ((C.2.2.2.2.2.1.2.1 28 (by decide) (by decide)).1 n _) (fun q => by cases q) (by rw [arrV_size]; exact hin) (by rw [arrV_read _ _ (Nat.not_le.mp fun q => hin (Or.inr q))]; rfl) rfl rfl d (kk _ hf H locs ls hR hS hl)
  · cases hf
theorem L_multi (C : CX X own cc nL) {idx : Nat} (w1 : Cond.classLink own idx "[[I" ∈ lw_big) (w2 : (Cond.arrayOver (.array .int)).before (xa X) (xs X) = true) (w3 : Cond.arrayClass .int ∈ lw_big) (d : decode cc pc = .ok (.multianewarray idx 2, 4)) {K : Option Nat → AH → Option ρ} (hf : mM h K = some r) (hc : cells + 61 ≤ (xR X).cells) (hs : slots + 360 ≤ (xR X).slots) (kk : ∀ v h', K v h' = some r → WW (sF X h') h' (cells + 61) (slots + 360) (pc + 4) lv (rB (xD X).1 v :: st)) : WW (sF X h) h cells slots pc lv (.int 5 :: .int 60 :: st) := by
  refine WL.of fun H locs ls hR hS hl => ?_
  have hts := C.2.2.2.2.1
  intro T hT X0
  have e60 : (60 : Int32).toNatClampNeg = 60 := by decide
  have e5 : (5 : Int32).toNatClampNeg = 5 := by decide
  obtain ⟨vm₁, cA, comp, -, fA, fC, -, -, X', step⟩ := Stand.multianewarray2F X0 C.1 (own := own) (index := idx) (ty := .int) C.2.2.2.1 (hts _ w1) w2 (hts _ w3) (g := F0 (xm X) pc ls (.int 5 :: .int 60 :: st)) rfl (by rw [C.2.1]; exact d) (n := 60) (k := 5) rfl (by decide) (by decide) (by decide) (by decide) (by decide) rfl rfl (by rw [e60]; exact hc) (by rw [e60, e5]; exact hs)
  rw [e60, e5] at X' step
  have eA : cA = (xD X).2.2.2.1 29 := Option.some.inj (fA.symm.trans (C.2.2.2.2.2.1.2.1 29 (by decide) (by decide)).2)
  have eC : comp = (xD X).2.2.2.1 28 := Option.some.inj (fC.symm.trans (C.2.2.2.2.2.1.2.1 28 (by decide) (by decide)).2)
  subst eA
  subst eC
  generalize hF : Jvm.Free.Multi.fill (T.setVm vm₁) ((xD X).2.2.2.1 29) ((xD X).2.2.2.1 28) 60 5 (defaultValue .int) 60 = F at X' step
  have hTh : (T.setVm vm₁).heap = H := hT
  obtain ⟨f1, f2, -, -⟩ := Jvm.Free.Multi.fill_facts (T.setVm vm₁) ((xD X).2.2.2.1 29) ((xD X).2.2.2.1 28) 60 5 (defaultValue .int) 60
  rw [hF, hTh] at f1 f2
  have hold : ∀ x : Nat, x < H.size → F.heap[x]? = H[x]? := fun x hx => by
    have := Jvm.Free.Multi.fill_old (T.setVm vm₁) ((xD X).2.2.2.1 29) ((xD X).2.2.2.1 28) 60 5 (defaultValue .int) (a := x) (by rw [hTh]; exact hx) 60
    rw [hF, hTh] at this
    exact this
  have hrow : ∀ j : Nat, j < 60 → F.heap[H.size + 1 + j]? = some (arrV ((xD X).2.2.2.1 28) 5 (fun _ => .int 0)) := fun j hj => by
    have := Jvm.Free.Multi.fill_inner (T.setVm vm₁) ((xD X).2.2.2.1 29) ((xD X).2.2.2.1 28) 60 5 (defaultValue .int) 60 j hj
    rw [hF, hTh] at this
    rw [this, ← arrV_new]
    rfl
  rw [vr_outer] at f2
  have hRep : RepL (xD X) (mulN h 60) F.heap := hR.mul f1 hold f2 hrow
  have e : H.size = (xD X).1 + (Jvm.Pilot.@@N@@.hS h).length := hR.1
  have hle : H.size ≤ F.heap.size := by rw [f1]; omega
  obtain ⟨t2, a1, b1⟩ := WL.use (kk _ _ hf) F.heap locs ls hRep ⟨Nat.le_trans hS.1 hle, fun q h1 h2 => by rw [hold q (Nat.lt_of_lt_of_le h1 hS.1)]; exact hS.2.1 q h1 h2, hS.2.2⟩ hl F rfl X'
  refine ⟨t2, step t2 ?_, b1⟩
  rw [show T.heap.size = (xD X).1 + (Jvm.Pilot.@@N@@.hS h).length by rw [hT]; exact e]
  exact a1

theorem s_callVL {α : Type} {rvf : α → Option Value} (C : CX (sF X h) own cc nL) {y : MethodName} {bytes : ByteArray} {maxL idx n fr lo : Nat} {ret : Option FieldType} (cs : List Nat) (w : CWd y bytes maxL ret n) (wl : Cond.methodLink own idx y ∈ lw_big) (wi : Cond.instanceMethod y ∈ lw_big) (hcs : ∀ t ∈ cs, t < 13 ∧ Cond.selects (RXX t) y y ∈ lw_big) (d : decode cc pc = .ok (.invokevirtual idx, 3)) {As : List AV} (hn : As.length = n) {r0 : Option Nat} {F : Option (α × AH)} {K : α → AH → Option ρ} (hf : rO h cs r0 (clR h F K) = some r) (hM : ∀ x h', F = some (x, h') → CM X.1.2.1 (sFD (xD X) h) y bytes maxL ret fr lo mc ms (.inr (.inr r0) :: As) h (rvf x) h') {stk : List Value} (hstk : stk = (As.map (avV (xD X).1)).reverse ++ rB (xD X).1 r0 :: st) (hst : st.length ≤ 4) (hroom : fr + 1 ≤ (xR X).frames ∧ 8 + (maxL + 11) + lo ≤ (xR X).locals) (hcl : cells + mc ≤ (xR X).cells ∧ slots + ms ≤ (xR X).slots) (kk : ∀ x h', K x h' = some r → WW (sF X h') h' (cells + mc) (slots + ms) (pc + 3) lv ((rvf x).toList ++ st)) : WW (sF X h) h cells slots pc lv stk :=
  s_callV (X := sF X h) C cs w wl wi hcs d hn hf hM hstk hst hroom hcl (fun x h2 hk => WL.rst (kk x _ hk))

theorem s_callIL (C : CX (sF X h) own cc nL) {y : MethodName} {bytes : ByteArray} {maxL idx n fr lo : Nat} (w : CWd y bytes maxL none n) (wl : Cond.methodLink own idx y ∈ lw_big) (wi : Cond.instanceMethod y ∈ lw_big) (hy1 : y.name = "<init>") (d : decode cc pc = .ok (.invokespecial idx, 3)) {As : List AV} (hn : As.length = n) {a0 : Nat} {r0 : Option Nat} {F : Option (Unit × AH)} {K : Unit → AH → Option ρ} (hf : rO h [a0] r0 (clR h F K) = some r) (hM : ∀ h', F = some ((), h') → CM X.1.2.1 (sFD (xD X) h) y bytes maxL none fr lo mc ms (.inr (.inr r0) :: As) h none h') {stk : List Value} (hstk : stk = (As.map (avV (xD X).1)).reverse ++ rB (xD X).1 r0 :: st) (hst : st.length ≤ 4) (hroom : fr + 1 ≤ (xR X).frames ∧ 8 + (maxL + 11) + lo ≤ (xR X).locals) (hcl : cells + mc ≤ (xR X).cells ∧ slots + ms ≤ (xR X).slots) (kk : ∀ h', K () h' = some r → WW (sF X h') h' (cells + mc) (slots + ms) (pc + 3) lv st) : WW (sF X h) h cells slots pc lv stk :=
  s_callI (X := sF X h) C w wl wi hy1 d hn (K := fun x h2 => K x (rst h h2)) hf hM hstk hst hroom hcl (fun h2 hk => WL.rst (kk _ hk))

theorem s_callSL {α : Type} {rvf : α → Option Value} (C : CX (sF X h) own cc nL) {y : MethodName} {bytes : ByteArray} {maxL idx n fr lo : Nat} {ret : Option FieldType} (w : CWd y bytes maxL ret n) (wl : Cond.methodLink own idx y ∈ lw_big) (wi : Cond.static y ∈ lw_big) (d : decode cc pc = .ok (.invokestatic idx, 3)) {As : List AV} (hn : As.length = n) {F : Option (α × AH)} {K : α → AH → Option ρ} (hf : clR h F K = some r) (hM : ∀ x h', F = some (x, h') → CM X.1.2.1 (sFD (xD X) h) y bytes maxL ret fr lo mc ms As h (rvf x) h') {stk : List Value} (hstk : stk = (As.map (avV (xD X).1)).reverse ++ st) (hst : st.length ≤ 4) (hroom : fr + 1 ≤ (xR X).frames ∧ 8 + (maxL + 11) + lo ≤ (xR X).locals) (hcl : cells + mc ≤ (xR X).cells ∧ slots + ms ≤ (xR X).slots) (kk : ∀ x h', K x h' = some r → WW (sF X h') h' (cells + mc) (slots + ms) (pc + 3) lv ((rvf x).toList ++ st)) : WW (sF X h) h cells slots pc lv stk :=
  s_callS (X := sF X h) C w wl wi d hn hf hM hstk hst hroom hcl (fun x h2 hk => WL.rst (kk x _ hk))

/-- the script: an array of ints below the picture -/
def scr (b : Nat) (tb : List Int32) (D1 : Nat) (U : State) : Prop := va_T .int b tb.length (fun j => .int (tb.getD j 0)) (fun q => D1 ≤ q) U U.heap
theorem scr.moved {b : Nat} {tb : List Int32} {D1 : Nat} {u U : State} (hA : u.vm.Alike U.vm) (hq : ∀ a : Nat, a < u.heap.size → ¬ D1 ≤ a → U.heap[a]? = u.heap[a]?) (h : scr b tb D1 u) : scr b tb D1 U := by
  have h' : va_T .int b tb.length (fun j => .int (tb.getD j 0)) (fun q => D1 ≤ q) u u.heap := h
  exact (h'.moved hA).kept hq
def PcB (D : DT) (b : Nat) (tb : List Int32) (vs : List Value) (h : AH) : Array Value → State → Prop := fun v U => v = vs.toArray ∧ RepH D h U.heap ∧ KC D U ∧ KG U ∧ D.1 ≤ U.heap.size ∧ KS D.1 U ∧ scr b tb D.1 U
def CMB (l : Launch) (D : DT) (b : Nat) (tb : List Int32) (y : MethodName) (bytes : ByteArray) (maxL : Nat) (ret : Option FieldType) (fr lo : Nat) (vs : List Value) (h : AH) (rv : Option Value) : Prop := Met l y (wv y bytes maxL ret) { frames := fr, cells := 0, slots := 0, locals := lo } (PcB D b tb vs h) (QcX D rv h) 0 0 (fun q => D.1 ≤ q)
theorem CMB.of {l : Launch} {D : DT} {b : Nat} {tb : List Int32} {y : MethodName} {bytes : ByteArray} {maxL : Nat} {ret : Option FieldType} {fr lo : Nat} {vs : List Value} {h : AH} {rv : Option Value} (hy : plainName y.cls = true) (hc : vs.all (fun v => v.category == 1) = true) (hlen : vs.length ≤ maxL)
    (body : ∀ X : XT, X.1.2.1 = l → CX X y.cls bytes maxL → xD X = D → xR X = { frames := fr, cells := 0, slots := 0, locals := lo } → RT X ret rv h 0 0 → scr b tb (xD X).1 (xs X) → WW X h 0 0 0 (lvR maxL vs) []) : CMB l D b tb y bytes maxL ret fr lo vs h rv := by
  refine Met.ofW (cc := bytes) (maxL := maxL) (ret := ret) hy rfl ?_
  intro p e s m args below meth c s₁ B hml hv
  obtain ⟨rfl, hRep, hKC, hKG, hbase, hKS, htx⟩ := hv
  have hts := atoms_spec (ws := wv y bytes maxL ret) B.pre
  have hc' : ∀ v ∈ vs, v.category = 1 := fun v hv => by simpa using List.all_eq_true.mp hc v hv
  rw [lg_entry_eq]
  have hl := LV.entryR maxL vs hc' hlen
  have hk := body ((p, l, e, { frames := fr, cells := 0, slots := 0, locals := lo }, s), (m, vs.toArray, below, meth, c), D, MQ below (QcX D rv h) vs.toArray s 0 0 (fun q => D.1 ≤ q)) rfl ⟨B.exec, B.bytes, hml, findClass_of_methodNamed B.named, fun w hw => hts w (List.mem_cons_of_mem _ hw), hKC, hKG, hbase, B.notSynchronized, hKS⟩ rfl rfl ⟨B.returns, rfl⟩ htx
  exact hk s.heap [] _ hRep va_S.rf (by show LV _ c.maxLocals _; rw [hml]; exact hl)
theorem PcB.blind {D : DT} {b : Nat} {tb : List Int32} {vs : List Value} {h : AH} : FrameBlind (PcB D b tb vs h) := by
  intro a U g mk ⟨h1, h2, h3, h4, h5, h6, h7⟩
  exact ⟨h1, h2, h3.moved (u := U) (U := U.calling g mk a) (Vm.Alike.refl U.vm), h4.same (s := U) (U := U.calling g mk a) rfl, h5, h6.same (u := U) (U := U.calling g mk a) rfl rfl, h7.moved (u := U) (U := U.calling g mk a) (Vm.Alike.refl U.vm) (fun _ _ _ => rfl)⟩
theorem PcB.at (C : CX X own cc nL) {b : Nat} {tb : List Int32} (hx : scr b tb (xD X).1 (xs X)) {vs : List Value} {H : Heap} {locs : List Loc} (hR : RepH (xD X) h H) (hS : va_S (fun q => (xD X).1 ≤ q) (xs X).heap H locs) : ∀ U : State, U.heap = H → (xs X).WarmedH U.vm → PcB (xD X) b tb vs h vs.toArray U := by
  intro U hU hW
  refine ⟨rfl, by rw [hU]; exact hR, C.2.2.2.2.2.1.moved hW.alike, C.2.2.2.2.2.2.1.warm hW, by rw [hU]; exact Nat.le_trans C.2.2.2.2.2.2.2.1 hS.1, C.2.2.2.2.2.2.2.2.2.moved hW (fun a h1 h2 => by rw [hU]; exact hS.2.1 a h1 h2), hx.moved hW.alike (fun a h1 h2 => by rw [hU]; exact hS.2.1 a h1 h2)⟩
theorem r_callB (C : CX X own cc nL) {b : Nat} {tb : List Int32} (hx : scr b tb (xD X).1 (xs X)) {y : MethodName} {bytes : ByteArray} {maxL idx n fr lo : Nat} {ret : Option FieldType} {rv : Option Value} (w : CWd y bytes maxL ret n) (wl : Cond.methodLink own idx y ∈ lw_big) (wi : Cond.static y ∈ lw_big) (d : decode cc pc = .ok (.invokestatic idx, 3)) {As : List Value} (hn : As.length = n) (hM : CMB X.1.2.1 (xD X) b tb y bytes maxL ret fr lo As h rv) {stk : List Value} (hstk : stk = As.reverse ++ st) (hst : st.length ≤ 4) (hroom : fr + 1 ≤ (xR X).frames ∧ 8 + (maxL + 11) + lo ≤ (xR X).locals) (hcl : cells ≤ (xR X).cells ∧ slots ≤ (xR X).slots) (kk : WW X h cells slots (pc + 3) lv (rv.toList ++ st)) : WW X h cells slots pc lv stk := by
  subst hstk
  intro H locs ls hR hS hl
  have hts := C.2.2.2.2.1
  exact run_go (lv := lv) (mc := 0) (ms := 0) (va_runS (As := As) (rest := st) ⟨C.1, C.2.1, C.2.2.1, C.2.2.2.1, hts⟩ hM ⟨callB_of n hts (wv_good w.1) rfl rfl rfl (hts _ w.2.1) (hts _ wl) w.2.2 hroom, hts _ wi⟩ ⟨PcB.blind, PcB.at C hx hR hS⟩ rfl hn (by rw [← C.2.2.1]; exact hl.1) rfl (lv_room (cat_sum _ hst)) d hcl) hS hl kk
end LAWROWS2
