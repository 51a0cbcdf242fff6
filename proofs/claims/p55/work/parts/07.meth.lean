/-! METHODS: a contract, its start, its ends, calls -/
abbrev AV : Type := Int32 ⊕ Int64 ⊕ Option Nat
def avV (b : Nat) (x : AV) : Value := match x with | .inl i => .int i | .inr (.inl l) => .long l | .inr (.inr r) => rB b r
def lvE (b : Nat) : List AV → List (Option Value)
  | [] => []
  | .inl i :: v => some (.int i) :: lvE b v
  | .inr (.inl l) :: v => some (.long l) :: none :: lvE b v
  | .inr (.inr r) :: v => some (rB b r) :: lvE b v
def lvF (b n : Nat) (av : List AV) : List (Option Value) := lvE b av ++ List.replicate (n - (lvE b av).length) none
theorem lg_sl_c (v : Value) (vs : List Value) : (lg_sl (v :: vs)).length = (if v.category = 2 then 2 else 1) + (lg_sl vs).length := by
  unfold lg_sl
  rw [List.flatMap_cons, List.length_append]
  split <;> rfl
theorem lvE_sl (b : Nat) : ∀ av : List AV, (lg_sl (av.map (avV b))).length = (lvE b av).length
  | [] => rfl
  | .inl i :: v => by
    rw [List.map_cons, lg_sl_c, lvE_sl b v, show (avV b (.inl i)).category = 1 from rfl, if_neg (by decide), lvE, List.length_cons, Nat.add_comm]
  | .inr (.inl l) :: v => by
    rw [List.map_cons, lg_sl_c, lvE_sl b v, show (avV b (.inr (.inl l))).category = 2 from rfl, if_pos rfl, lvE, List.length_cons, List.length_cons, Nat.add_comm]
  | .inr (.inr r) :: v => by
    rw [List.map_cons, lg_sl_c, lvE_sl b v, show (avV b (.inr (.inr r))).category = 1 from rB_cat b r, if_neg (by decide), lvE, List.length_cons, Nat.add_comm]
theorem lvE_args (b : Nat) : ∀ (av : List AV) (k i : Nat) (w : Value), (lvE b av)[i]? = some (some w) → (k + i, w) ∈ lv_args k (av.map (avV b))
  | [], k, i, w, h => by simp [lvE] at h
  | .inl x :: v, k, i, w, h => by
    simp only [List.map_cons, lv_args]
    cases i with
    | zero =>
      simp [lvE] at h
      subst h
      exact List.mem_cons_self
    | succ i =>
      simp only [lvE, List.getElem?_cons_succ] at h
      have := lvE_args b v (k + 1) i w h
      refine List.mem_cons_of_mem _ ?_
      rw [show (avV b (.inl x)).category = 1 from rfl, if_neg (by decide)]
      rwa [show k + (i + 1) = k + 1 + i by omega]
  | .inr (.inl x) :: v, k, i, w, h => by
    simp only [List.map_cons, lv_args]
    match i with
    | 0 =>
      simp [lvE] at h
      subst h
      exact List.mem_cons_self
    | 1 => simp [lvE] at h
    | i + 2 =>
      simp only [lvE, List.getElem?_cons_succ] at h
      have := lvE_args b v (k + 2) i w h
      refine List.mem_cons_of_mem _ ?_
      rw [show (avV b (.inr (.inl x))).category = 2 from rfl, if_pos rfl]
      rwa [show k + (i + 2) = k + 2 + i by omega]
  | .inr (.inr x) :: v, k, i, w, h => by
    simp only [List.map_cons, lv_args]
    cases i with
    | zero =>
      simp [lvE] at h
      subst h
      exact List.mem_cons_self
    | succ i =>
      simp only [lvE, List.getElem?_cons_succ] at h
      have := lvE_args b v (k + 1) i w h
      refine List.mem_cons_of_mem _ ?_
      rw [show (avV b (.inr (.inr x))).category = 1 from rB_cat b x, if_neg (by decide)]
      rwa [show k + (i + 1) = k + 1 + i by omega]
theorem LV.entry (b n : Nat) (av : List AV) (hn : (lvE b av).length ≤ n) : LV ((lg_sl (av.map (avV b)) ++ List.replicate (n - (lg_sl (av.map (avV b))).length) Slot.unset).toArray) n (lvF b n av) := by
  have hl := lv_entry (av.map (avV b)) (n := n) (by rw [lvE_sl]; exact hn)
  refine ⟨hl.1, hl.2.1, fun i v hi => ?_⟩
  unfold lvF at hi
  by_cases hlt : i < (lvE b av).length
  · rw [List.getElem?_append_left hlt] at hi
    have := hl.2.2 _ (lvE_args b av 0 i v hi)
    simpa using this
  · rw [List.getElem?_append_right (by omega), List.getElem?_replicate] at hi
    split at hi <;> cases hi
def PcX (D : DT) (av : List AV) (h : AH) : Array Value → State → Prop := fun v U => v = (av.map (avV D.1)).toArray ∧ RepH D h U.heap ∧ KC D U ∧ KG U ∧ D.1 ≤ U.heap.size ∧ KS D.1 U
def QcX (D : DT) (rv : Option Value) (h' : AH) : Array Value → State → Outcome → State → Prop := fun _ st oc t => oc = .returned rv ∧ RepH D h' t.heap ∧ va_F (fun q => D.1 ≤ q) st t
def wv (y : MethodName) (bytes : ByteArray) (maxL : Nat) (ret : Option FieldType) : List Cond := Cond.code y bytes maxL ret :: lw_big
def CM (l : Launch) (D : DT) (y : MethodName) (bytes : ByteArray) (maxL : Nat) (ret : Option FieldType) (fr lo mc ms : Nat) (av : List AV) (h : AH) (rv : Option Value) (h' : AH) : Prop := Met l y (wv y bytes maxL ret) { frames := fr, cells := mc, slots := ms, locals := lo } (PcX D av h) (QcX D rv h') mc ms (fun q => D.1 ≤ q)
/-- how a walk must end -/
def RT (X : XT) (ret : Option FieldType) (rv : Option Value) (h' : AH) (mc ms : Nat) : Prop := (xM X).sig.returnType = ret ∧ X.2.2.2 = MQ X.2.1.2.2.1 (QcX (xD X) rv h') (xa X) (xs X) mc ms (fun q => (xD X).1 ≤ q)
theorem CM.of {l : Launch} {D : DT} {y : MethodName} {bytes : ByteArray} {maxL : Nat} {ret : Option FieldType} {fr lo mc ms : Nat} {av : List AV} {h : AH} {rv : Option Value} {h' : AH} (hy : plainName y.cls = true) (hlen : (lvE D.1 av).length ≤ maxL)
    (body : ∀ X : XT, X.1.2.1 = l → CX X y.cls bytes maxL → xD X = D → xR X = { frames := fr, cells := mc, slots := ms, locals := lo } → (xM X).name = y.name → RT X ret rv h' mc ms → WW X h 0 0 0 (lvF (xD X).1 maxL av) []) : CM l D y bytes maxL ret fr lo mc ms av h rv h' := by
  refine Met.ofW (cc := bytes) (maxL := maxL) (ret := ret) hy rfl ?_
  intro p e s m args below meth c s₁ B hml hv
  obtain ⟨rfl, hRep, hKC, hKG, hbase, hKS⟩ := hv
  have hts := atoms_spec (ws := wv y bytes maxL ret) B.pre
  have hin : meth.name = y.name := (name_of_methodNamed B.named B.method).1
  rw [lg_entry_eq]
  have hl := LV.entry D.1 maxL av hlen
  have hk := body ((p, l, e, { frames := fr, cells := mc, slots := ms, locals := lo }, s), (m, (av.map (avV D.1)).toArray, below, meth, c), D, MQ below (QcX D rv h') (av.map (avV D.1)).toArray s mc ms (fun q => D.1 ≤ q)) rfl ⟨B.exec, B.bytes, hml, findClass_of_methodNamed B.named, fun w hw => hts w (List.mem_cons_of_mem _ hw), hKC, hKG, hbase, B.notSynchronized, hKS⟩ rfl rfl hin ⟨B.returns, rfl⟩
  exact hk s.heap [] _ hRep va_S.rf (by show LV _ c.maxLocals _; rw [hml]; exact hl)
section ENDS
variable {X : XT} {own : String} {cc : ByteArray} {nL pc cells slots mc ms : Nat} {h : AH} {lv lv' : List (Option Value)} {st : List Value} {ρ : Type}
theorem QcX.of {v : Option Value} {H : Heap} {locs : List Loc} (hR : RepH (xD X) h H) (hS : va_S (fun q => (xD X).1 ≤ q) (xs X).heap H locs) : ∀ t : State, t.heap = H → (xs X).WarmedH t.vm → QcX (xD X) v h (xa X) (xs X) (.returned v) t := by
  intro t ht _
  refine ⟨rfl, by rw [ht]; exact hR, by rw [ht]; exact hS.1, fun q h1 h2 => by rw [ht]; exact hS.2.1 q h1 h2⟩
theorem s_ireturn (C : CX X own cc nL) {r : Int32 × AH} (E : RT X (some .int) (some (.int r.1)) r.2 mc ms) {v : Int32} (d : decode cc pc = .ok (.ireturn, 1)) (hf : some (v, h) = some r) (hc : cells ≤ mc) (hs : slots ≤ ms) : WW X h cells slots pc lv [.int v] := by
  cases hf
  intro H locs ls hR hS hl
  refine W.widen hc hs ?_
  show W _ _ _ _ _ _ _ _ _ _ _ _ _ _ X.2.2.2 _
  rw [E.2]
  exact W.iret C.1 C.2.1 E.1 (QcX.of hR hS) hS.2.2 d C.2.2.2.2.2.2.2.2.1
theorem s_zreturn (C : CX X own cc nL) {r : Int32 × AH} (E : RT X (some .boolean) (some (.int r.1)) r.2 mc ms) {v : Int32} (d : decode cc pc = .ok (.ireturn, 1)) (hf : rz v h = some r) (hc : cells ≤ mc) (hs : slots ≤ ms) : WW X h cells slots pc lv [.int v] := by
  unfold rz at hf
  split at hf
  · rename_i e
    have hz : narrow .boolean (.int v) = .int v := by rcases e with rfl | rfl <;> rfl
    cases hf
    intro H locs ls hR hS hl
    refine W.widen hc hs ?_
    show W _ _ _ _ _ _ _ _ _ _ _ _ _ _ X.2.2.2 _
    rw [E.2]
    exact W.zret C.1 C.2.1 E.1 hz (QcX.of hR hS) hS.2.2 d C.2.2.2.2.2.2.2.2.1
  · cases hf
theorem s_lreturn (C : CX X own cc nL) {r : Int64 × AH} (E : RT X (some .long) (some (.long r.1)) r.2 mc ms) {v : Int64} (d : decode cc pc = .ok (.lreturn, 1)) (hf : some (v, h) = some r) (hc : cells ≤ mc) (hs : slots ≤ ms) : WW X h cells slots pc lv [.long v] := by
  cases hf
  intro H locs ls hR hS hl
  refine W.widen hc hs ?_
  show W _ _ _ _ _ _ _ _ _ _ _ _ _ _ X.2.2.2 _
  rw [E.2]
  exact W.lret C.1 C.2.1 E.1 (QcX.of hR hS) hS.2.2 d C.2.2.2.2.2.2.2.2.1
theorem s_areturn (C : CX X own cc nL) {r : Option Nat × AH} {Cn : String} (E : RT X (some (.object Cn)) (some (rB (xD X).1 r.1)) r.2 mc ms) {v : Option Nat} (d : decode cc pc = .ok (.areturn, 1)) (hf : some (v, h) = some r) (hc : cells ≤ mc) (hs : slots ≤ ms) : WW X h cells slots pc lv [rB (xD X).1 v] := by
  cases hf
  intro H locs ls hR hS hl
  refine W.widen hc hs ?_
  show W _ _ _ _ _ _ _ _ _ _ _ _ _ _ X.2.2.2 _
  rw [E.2]
  exact W.aret C.1 C.2.1 E.1 (Or.inl ⟨_, rfl⟩) (by cases v <;> first | exact Or.inl rfl | exact Or.inr ⟨_, rfl⟩) (QcX.of hR hS) hS.2.2 d C.2.2.2.2.2.2.2.2.1
theorem s_return (C : CX X own cc nL) {r : Unit × AH} (E : RT X none none r.2 mc ms) (d : decode cc pc = .ok (.return_, 1)) (hf : some ((), h) = some r) (hc : cells ≤ mc) (hs : slots ≤ ms) : WW X h cells slots pc lv [] := by
  cases hf
  intro H locs ls hR hS hl
  refine W.widen hc hs ?_
  show W _ _ _ _ _ _ _ _ _ _ _ _ _ _ X.2.2.2 _
  rw [E.2]
  exact W.vret C.1 C.2.1 E.1 (QcX.of hR hS) hS.2.2 d C.2.2.2.2.2.2.2.2.1
-- calls
variable {r : ρ}
theorem PcX.blind {D : DT} {av : List AV} {h : AH} : FrameBlind (PcX D av h) := by
  intro a U g mk ⟨h1, h2, h3, h4, h5, h6⟩
  exact ⟨h1, h2, h3.moved (u := U) (U := U.calling g mk a) (Vm.Alike.refl U.vm), h4.same (s := U) (U := U.calling g mk a) rfl, h5, h6.same (u := U) (U := U.calling g mk a) rfl rfl⟩
theorem PcX.at {own : String} {cc : ByteArray} {nL : Nat} (C : CX X own cc nL) {av : List AV} {H : Heap} {locs : List Loc} (hR : RepH (xD X) h H) (hS : va_S (fun q => (xD X).1 ≤ q) (xs X).heap H locs) : ∀ U : State, U.heap = H → (xs X).WarmedH U.vm → PcX (xD X) av h (av.map (avV (xD X).1)).toArray U := by
  intro U hU hW
  refine ⟨rfl, by rw [hU]; exact hR, C.2.2.2.2.2.1.moved hW.alike, C.2.2.2.2.2.2.1.warm hW, by rw [hU]; exact Nat.le_trans C.2.2.2.2.2.2.2.1 hS.1, C.2.2.2.2.2.2.2.2.2.moved hW (fun a h1 h2 => by rw [hU]; exact hS.2.1 a h1 h2)⟩
theorem run_go {rv : Option Value} {h' : AH} {a : Array Value} {H : Heap} {locs : List Loc} {ls : Array Slot} {stk rest : List Value} (hr : va_Run X.1.1 X.1.2.1 X.1.2.2.1 X.1.2.2.2.1 X.1.2.2.2.2 X.2.1.1 X.2.1.2.1 X.2.1.2.2.1 X.2.1.2.2.2.1 X.2.1.2.2.2.2 H locs cells slots mc ms (F0 (xm X) pc ls stk) rest (QcX (xD X) rv h' a) (fun q => (xD X).1 ≤ q)) (hS : va_S (fun q => (xD X).1 ≤ q) (xs X).heap H locs) (hl : LV ls (xc X).maxLocals lv) (kk : WW X h' (cells + mc) (slots + ms) (pc + 3) lv (rv.toList ++ rest)) : WX X H locs cells slots (F0 (xm X) pc ls stk) := by
  intro T hT X0
  obtain ⟨v, st₀, t, T', L, h0, X1, hL, e1, e2, ⟨hv, hRep, hz, hk⟩, st⟩ := hr T hT X0
  cases hv
  rw [h0] at hz hk
  obtain ⟨t2, a1, b1⟩ := kk T'.heap (locs ++ L) ls (by rw [e1]; exact hRep) ⟨Nat.le_trans hS.1 (by rw [e1]; exact hz), fun q h1 h2 => by rw [e1, hk q (Nat.lt_of_lt_of_le h1 hS.1) h2]; exact hS.2.1 q h1 h2, fun q hq => by
      rcases List.mem_append.mp hq with h | h
      · exact hS.2.2 q h
      · exact hL q h⟩ hl T' rfl X1
  exact ⟨t2, st t2 a1, b1⟩
/-- the words of a call, but for the link -/
def CWd (y : MethodName) (bytes : ByteArray) (maxL : Nat) (ret : Option FieldType) (n : Nat) : Prop := Cond.code y bytes maxL ret ∈ lw_big ∧ Cond.initialized y.cls ∈ lw_big ∧ y.cls ≠ "java/lang/invoke/MethodHandle" ∧ y.cls ≠ "java/lang/invoke/VarHandle" ∧ (parseMethodDescriptor y.desc).map (fun d => d.parameters.length) = some n
theorem wv_good {y : MethodName} {bytes : ByteArray} {maxL : Nat} {ret : Option FieldType} (h : Cond.code y bytes maxL ret ∈ lw_big) : GoodIn lw_big (wv y bytes maxL ret) := by
  intro w hw
  rcases List.mem_cons.mp hw with rfl | hw
  · exact big_good _ h
  · exact big_good _ hw
theorem cat_le (v : Value) : v.category ≤ 2 := by
  rcases lv_cat v with h | h <;> omega
theorem cat_sum : ∀ l : List Value, l.length ≤ 4 → (l.map fun v => v.category).sum ≤ 8
  | [], _ => by simp
  | [a], _ => by have := cat_le a; simp; omega
  | [a, b], _ => by have := cat_le a; have := cat_le b; simp; omega
  | [a, b, c], _ => by have := cat_le a; have := cat_le b; have := cat_le c; simp; omega
  | [a, b, c, d], _ => by have := cat_le a; have := cat_le b; have := cat_le c; have := cat_le d; simp; omega
  | a :: b :: c :: d :: e :: l, h => by simp at h
theorem s_callV {α : Type} {rvf : α → Option Value} (C : CX X own cc nL) {y : MethodName} {bytes : ByteArray} {maxL idx n fr lo : Nat} {ret : Option FieldType} (cs : List Nat) (w : CWd y bytes maxL ret n) (wl : Cond.methodLink own idx y ∈ lw_big) (wi : Cond.instanceMethod y ∈ lw_big) (hcs : ∀ t ∈ cs, t < 13 ∧ Cond.selects (RXX t) y y ∈ lw_big) (d : decode cc pc = .ok (.invokevirtual idx, 3)) {As : List AV} (hn : As.length = n) {r0 : Option Nat} {F : Option (α × AH)} {K : α → AH → Option ρ} (hf : rO h cs r0 (cl F K) = some r) (hM : ∀ x h', F = some (x, h') → CM X.1.2.1 (xD X) y bytes maxL ret fr lo mc ms (.inr (.inr r0) :: As) h (rvf x) h') {stk : List Value} (hstk : stk = (As.map (avV (xD X).1)).reverse ++ rB (xD X).1 r0 :: st) (hst : st.length ≤ 4) (hroom : fr + 1 ≤ (xR X).frames ∧ 8 + (maxL + 11) + lo ≤ (xR X).locals) (hcl : cells + mc ≤ (xR X).cells ∧ slots + ms ≤ (xR X).slots) (kk : ∀ x h', K x h' = some r → WW X h' (cells + mc) (slots + ms) (pc + 3) lv ((rvf x).toList ++ st)) : WW X h cells slots pc lv stk := by
  subst hstk
  unfold rO at hf
  split at hf
  · rename_i e
    obtain ⟨a, t, nn, rfl, hq, ht⟩ := okT_spec e
    obtain ⟨h13, wsel⟩ := hcs t ht
    unfold cl at hf
    cases hF : F with
    | none => rw [hF] at hf; cases hf
    | some x =>
      rw [hF] at hf
      intro H locs ls hR hS hl
      have hts := C.2.2.2.2.1
      obtain ⟨hoc, cv, g1, g2, g3⟩ := obj_at hR hq h13
      have hcC := (C.2.2.2.2.2.1.1 t h13 hoc).2
      refine run_go (lv := lv) (va_runV (C := RXX t) (As := As.map (avV (xD X).1)) (rest := st) ⟨C.1, C.2.1, C.2.2.1, C.2.2.2.1, hts⟩ (hM x.1 x.2 hF) ⟨callB_of n hts (wv_good w.1) rfl rfl rfl (hts _ w.2.1) (hts _ wl) w.2.2 hroom, hts _ wi, hts _ wsel⟩ ⟨PcX.blind, ⟨cv, g1, by rw [g3]; rfl, by rw [g2]; exact hcC.1⟩, PcX.at (av := .inr (.inr (some a)) :: As) C hR hS⟩ rfl (by rw [List.length_map]; exact hn) (by rw [← C.2.2.1]; exact hl.1) rfl (lv_room (cat_sum _ hst)) d hcl) hS hl (kk _ _ hf)
  · cases hf
theorem s_callI (C : CX X own cc nL) {y : MethodName} {bytes : ByteArray} {maxL idx n fr lo : Nat} (w : CWd y bytes maxL none n) (wl : Cond.methodLink own idx y ∈ lw_big) (wi : Cond.instanceMethod y ∈ lw_big) (hy1 : y.name = "<init>") (d : decode cc pc = .ok (.invokespecial idx, 3)) {As : List AV} (hn : As.length = n) {a0 : Nat} {r0 : Option Nat} {F : Option (Unit × AH)} {K : Unit → AH → Option ρ} (hf : rO h [a0] r0 (cl F K) = some r) (hM : ∀ h', F = some ((), h') → CM X.1.2.1 (xD X) y bytes maxL none fr lo mc ms (.inr (.inr r0) :: As) h none h') {stk : List Value} (hstk : stk = (As.map (avV (xD X).1)).reverse ++ rB (xD X).1 r0 :: st) (hst : st.length ≤ 4) (hroom : fr + 1 ≤ (xR X).frames ∧ 8 + (maxL + 11) + lo ≤ (xR X).locals) (hcl : cells + mc ≤ (xR X).cells ∧ slots + ms ≤ (xR X).slots) (kk : ∀ h', K () h' = some r → WW X h' (cells + mc) (slots + ms) (pc + 3) lv st) : WW X h cells slots pc lv stk := by
  subst hstk
  unfold rO at hf
  split at hf
  · rename_i e
    obtain ⟨a, t, nn, rfl, hq, ht⟩ := okT_spec e
    unfold cl at hf
    cases hF : F with
    | none => rw [hF] at hf; cases hf
    | some x =>
      rw [hF] at hf
      intro H locs ls hR hS hl
      have hts := C.2.2.2.2.1
      exact run_go (lv := lv) (va_runI (As := As.map (avV (xD X).1)) (rest := st) ⟨C.1, C.2.1, C.2.2.1, C.2.2.2.1, hts⟩ (hM x.2 hF) ⟨callB_of n hts (wv_good w.1) rfl rfl rfl (hts _ w.2.1) (hts _ wl) w.2.2 hroom, hy1, hts _ wi⟩ ⟨PcX.blind, PcX.at (av := .inr (.inr (some a)) :: As) C hR hS⟩ rfl (by rw [List.length_map]; exact hn) (by rw [← C.2.2.1]; exact hl.1) rfl (lv_room (cat_sum _ hst)) d hcl) hS hl (kk _ hf)
  · cases hf
theorem s_callIN (C : CX X own cc nL) {y : MethodName} {bytes : ByteArray} {host : String} {maxL idx n fr lo : Nat} (w : CWd y bytes maxL none n) (wl : Cond.methodLinkNest own idx y host ∈ xtraW) (wi : Cond.instanceMethod y ∈ lw_big) (hy1 : y.name = "<init>") (d : decode cc pc = .ok (.invokespecial idx, 3)) {As : List AV} (hn : As.length = n) {a0 : Nat} {r0 : Option Nat} {F : Option (Unit × AH)} {K : Unit → AH → Option ρ} (hf : rO h [a0] r0 (cl F K) = some r) (hM : ∀ h', F = some ((), h') → CM X.1.2.1 (xD X) y bytes maxL none fr lo mc ms (.inr (.inr r0) :: As) h none h') {stk : List Value} (hstk : stk = (As.map (avV (xD X).1)).reverse ++ rB (xD X).1 r0 :: st) (hst : st.length ≤ 4) (hroom : fr + 1 ≤ (xR X).frames ∧ 8 + (maxL + 11) + lo ≤ (xR X).locals) (hcl : cells + mc ≤ (xR X).cells ∧ slots + ms ≤ (xR X).slots) (kk : ∀ h', K () h' = some r → WW X h' (cells + mc) (slots + ms) (pc + 3) lv st) : WW X h cells slots pc lv stk := by
  subst hstk
  unfold rO at hf
  split at hf
  · rename_i e
    obtain ⟨a, t, nn, rfl, hq, ht⟩ := okT_spec e
    unfold cl at hf
    cases hF : F with
    | none => rw [hF] at hf; cases hf
    | some x =>
      rw [hF] at hf
      intro H locs ls hR hS hl
      have hts := C.2.2.2.2.1
      exact run_go (lv := lv) (va_runIN (As := As.map (avV (xD X).1)) (rest := st) ⟨C.1, C.2.1, C.2.2.1, C.2.2.2.1, hts⟩ (hM x.2 hF) ⟨va_cnB n hts (wv_good w.1) rfl rfl rfl (C.2.2.2.2.2.2.1.1 _ wl) (hts _ w.2.1) w.2.2 hroom, hy1, hts _ wi⟩ ⟨PcX.blind, PcX.at (av := .inr (.inr (some a)) :: As) C hR hS⟩ rfl (by rw [List.length_map]; exact hn) (by rw [← C.2.2.1]; exact hl.1) rfl (lv_room (cat_sum _ hst)) d hcl) hS hl (kk _ hf)
  · cases hf
theorem s_callS {α : Type} {rvf : α → Option Value} (C : CX X own cc nL) {y : MethodName} {bytes : ByteArray} {maxL idx n fr lo : Nat} {ret : Option FieldType} (w : CWd y bytes maxL ret n) (wl : Cond.methodLink own idx y ∈ lw_big) (wi : Cond.static y ∈ lw_big) (d : decode cc pc = .ok (.invokestatic idx, 3)) {As : List AV} (hn : As.length = n) {F : Option (α × AH)} {K : α → AH → Option ρ} (hf : cl F K = some r) (hM : ∀ x h', F = some (x, h') → CM X.1.2.1 (xD X) y bytes maxL ret fr lo mc ms As h (rvf x) h') {stk : List Value} (hstk : stk = (As.map (avV (xD X).1)).reverse ++ st) (hst : st.length ≤ 4) (hroom : fr + 1 ≤ (xR X).frames ∧ 8 + (maxL + 11) + lo ≤ (xR X).locals) (hcl : cells + mc ≤ (xR X).cells ∧ slots + ms ≤ (xR X).slots) (kk : ∀ x h', K x h' = some r → WW X h' (cells + mc) (slots + ms) (pc + 3) lv ((rvf x).toList ++ st)) : WW X h cells slots pc lv stk := by
  subst hstk
  unfold cl at hf
  cases hF : F with
  | none => rw [hF] at hf; cases hf
  | some x =>
    rw [hF] at hf
    intro H locs ls hR hS hl
    have hts := C.2.2.2.2.1
    exact run_go (lv := lv) (va_runS (As := As.map (avV (xD X).1)) (rest := st) ⟨C.1, C.2.1, C.2.2.1, C.2.2.2.1, hts⟩ (hM x.1 x.2 hF) ⟨callB_of n hts (wv_good w.1) rfl rfl rfl (hts _ w.2.1) (hts _ wl) w.2.2 hroom, hts _ wi⟩ ⟨PcX.blind, PcX.at (av := As) C hR hS⟩ rfl (by rw [List.length_map]; exact hn) (by rw [← C.2.2.1]; exact hl.1) rfl (lv_room (cat_sum _ hst)) d hcl) hS hl (kk _ _ hf)
theorem s_callSN {α : Type} {rvf : α → Option Value} (C : CX X own cc nL) {y : MethodName} {bytes : ByteArray} {host : String} {maxL idx n fr lo : Nat} {ret : Option FieldType} (w : CWd y bytes maxL ret n) (wl : Cond.methodLinkNest own idx y host ∈ xtraW) (wi : Cond.static y ∈ lw_big) (d : decode cc pc = .ok (.invokestatic idx, 3)) {As : List AV} (hn : As.length = n) {F : Option (α × AH)} {K : α → AH → Option ρ} (hf : cl F K = some r) (hM : ∀ x h', F = some (x, h') → CM X.1.2.1 (xD X) y bytes maxL ret fr lo mc ms As h (rvf x) h') {stk : List Value} (hstk : stk = (As.map (avV (xD X).1)).reverse ++ st) (hst : st.length ≤ 4) (hroom : fr + 1 ≤ (xR X).frames ∧ 8 + (maxL + 11) + lo ≤ (xR X).locals) (hcl : cells + mc ≤ (xR X).cells ∧ slots + ms ≤ (xR X).slots) (kk : ∀ x h', K x h' = some r → WW X h' (cells + mc) (slots + ms) (pc + 3) lv ((rvf x).toList ++ st)) : WW X h cells slots pc lv stk := by
  subst hstk
  unfold cl at hf
  cases hF : F with
  | none => rw [hF] at hf; cases hf
  | some x =>
    rw [hF] at hf
    intro H locs ls hR hS hl
    have hts := C.2.2.2.2.1
    exact run_go (lv := lv) (va_runSN (As := As.map (avV (xD X).1)) (rest := st) ⟨C.1, C.2.1, C.2.2.1, C.2.2.2.1, hts⟩ (hM x.1 x.2 hF) ⟨va_cnB n hts (wv_good w.1) rfl rfl rfl (C.2.2.2.2.2.2.1.1 _ wl) (hts _ w.2.1) w.2.2 hroom, hts _ wi, trivial⟩ ⟨PcX.blind, PcX.at (av := As) C hR hS⟩ rfl (by rw [List.length_map]; exact hn) (by rw [← C.2.2.1]; exact hl.1) rfl (lv_room (cat_sum _ hst)) d hcl) hS hl (kk _ _ hf)
end ENDS
