/-! CONSTANT TABLES, Math, arraycopy, switches; the joins and loops of a printed method -/
def tbI {ρ : Type} (tb : List Int32) (i : Int32) (K : Int32 → Option ρ) : Option ρ := if i < 0 ∨ tb.length ≤ i.toNatClampNeg then none else K (tb.getD i.toNatClampNeg 0)
def tbL {ρ : Type} (tb : List Int64) (i : Int32) (K : Int64 → Option ρ) : Option ρ := if i < 0 ∨ tb.length ≤ i.toNatClampNeg then none else K (tb.getD i.toNatClampNeg 0)
def cpR0 (h : AH) (r0 : Option Nat) (sp : Int32) (b : Nat) (dp n : Int32) : AH := rwI h b (va_cpy (gI h r0) (hI h b) sp.toNatClampNeg dp.toNatClampNeg n.toNatClampNeg)
theorem cpOk_spec {h : AH} {t : Nat} {r0 r1 : Option Nat} {sp dp n : Int32} (e : cpOk h t r0 sp r1 dp n = true) : ∃ a b p q, r0 = some a ∧ r1 = some b ∧ (hS h)[a]? = some (t, p) ∧ (hS h)[b]? = some (t, q) ∧ ¬ sp < 0 ∧ ¬ dp < 0 ∧ ¬ n < 0 ∧ sp.toNatClampNeg + n.toNatClampNeg ≤ p ∧ dp.toNatClampNeg + n.toNatClampNeg ≤ q := by
  unfold cpOk at e
  split at e
  · rename_i a b
    split at e
    · rename_i p q hp hq
      simp only [Bool.and_eq_true, beq_iff_eq, decide_eq_true_eq] at e
      obtain ⟨⟨⟨⟨⟨⟨e1, e2⟩, e3⟩, e4⟩, e5⟩, e6⟩, e7⟩ := e
      exact ⟨a, b, p.2, q.2, rfl, rfl, by rw [hp, ← e1], by rw [hq, ← e2], e3, e4, e5, e6, e7⟩
    · cases e
  · cases e
section MORE
variable {X : XT} {own : String} {cc : ByteArray} {nL pc cells slots : Nat} {h : AH} {lv lv' : List (Option Value)} {st : List Value} {ρ : Type} {r : ρ}
theorem s_getsI (C : CX X own cc nL) {idx : Nat} {Cn n : String} {tb : List Int32} (hT : stI Cn n tb (xD X).1 (xs X)) (w : Cond.fieldLink own idx Cn n "[I" ∈ lw_big) (d : decode cc pc = .ok (.getstatic idx, 3)) (kk : ∀ t : Nat, va_T .int t tb.length (fun j => .int (tb.getD j 0)) (fun q => (xD X).1 ≤ q) (xs X) (xs X).heap → WW X h cells slots (pc + 3) lv (.ref t :: st)) : WW X h cells slots pc lv st := by
  obtain ⟨t, h1, h2⟩ := hT
  exact fun H locs ls hR hS hl => va_gets C.1 C.2.1 h1 hS C.2.2.2.1 (C.2.2.2.2.1 _ w) (fun _ h => h) d (kk t h2 H locs ls hR hS hl)
theorem s_getsL (C : CX X own cc nL) {idx : Nat} {Cn n : String} {tb : List Int64} (hT : stL Cn n tb (xD X).1 (xs X)) (w : Cond.fieldLink own idx Cn n "[J" ∈ lw_big) (d : decode cc pc = .ok (.getstatic idx, 3)) (kk : ∀ t : Nat, va_T .long t tb.length (fun j => .long (tb.getD j 0)) (fun q => (xD X).1 ≤ q) (xs X) (xs X).heap → WW X h cells slots (pc + 3) lv (.ref t :: st)) : WW X h cells slots pc lv st := by
  obtain ⟨t, h1, h2⟩ := hT
  exact fun H locs ls hR hS hl => va_gets C.1 C.2.1 h1 hS C.2.2.2.1 (C.2.2.2.2.1 _ w) (fun _ h => h) d (kk t h2 H locs ls hR hS hl)
theorem s_getsIN (C : CX X own cc nL) {idx : Nat} {Cn n host : String} {tb : List Int32} (hT : stI Cn n tb (xD X).1 (xs X)) (w : Cond.fieldLinkNest own idx Cn n "[I" host ∈ xtraW) (d : decode cc pc = .ok (.getstatic idx, 3)) (kk : ∀ t : Nat, va_T .int t tb.length (fun j => .int (tb.getD j 0)) (fun q => (xD X).1 ≤ q) (xs X) (xs X).heap → WW X h cells slots (pc + 3) lv (.ref t :: st)) : WW X h cells slots pc lv st := by
  obtain ⟨t, h1, h2⟩ := hT
  exact fun H locs ls hR hS hl => va_getsN C.1 C.2.1 h1 hS C.2.2.2.1 (va_Nw.use rfl (C.2.2.2.2.2.2.1.1 _ w)) (fun _ h => h) d (kk t h2 H locs ls hR hS hl)
theorem s_tbI (C : CX X own cc nL) {tb : List Int32} {t : Nat} (hT : va_T .int t tb.length (fun j => .int (tb.getD j 0)) (fun q => (xD X).1 ≤ q) (xs X) (xs X).heap) (d : decode cc pc = .ok (.iaload, 1)) {i : Int32} {K : Int32 → Option ρ} (hf : tbI tb i K = some r) (kk : ∀ v, K v = some r → WW X h cells slots (pc + 1) lv (.int v :: st)) : WW X h cells slots pc lv (.int i :: .ref t :: st) := by
  unfold tbI at hf
  split at hf
  · cases hf
  · rename_i hin
    exact fun H locs ls hR hS hl => va_ti C.1 C.2.1 hT hS hin rfl d (kk _ hf H locs ls hR hS hl)
theorem s_tbL (C : CX X own cc nL) {tb : List Int64} {t : Nat} (hT : va_T .long t tb.length (fun j => .long (tb.getD j 0)) (fun q => (xD X).1 ≤ q) (xs X) (xs X).heap) (d : decode cc pc = .ok (.laload, 1)) {i : Int32} {K : Int64 → Option ρ} (hf : tbL tb i K = some r) (kk : ∀ v, K v = some r → WW X h cells slots (pc + 1) lv (.long v :: st)) : WW X h cells slots pc lv (.int i :: .ref t :: st) := by
  unfold tbL at hf
  split at hf
  · cases hf
  · rename_i hin
    exact fun H locs ls hR hS hl => va_tl C.1 C.2.1 hT hS hin rfl d (kk _ hf H locs ls hR hS hl)
theorem s_tblen (C : CX X own cc nL) {ty : FieldType} {N t : Nat} {f : Nat → Value} {v : Int32} (hT : va_T ty t N f (fun q => (xD X).1 ≤ q) (xs X) (xs X).heap) (hv : nI N = v) (d : decode cc pc = .ok (.arraylength, 1)) (kk : WW X h cells slots (pc + 1) lv (.int v :: st)) : WW X h cells slots pc lv (.ref t :: st) :=
  fun H locs ls hR hS hl => va_tlen C.1 C.2.1 hT hS hv d (kk H locs ls hR hS hl)
theorem sum4 (hst : st.length ≤ 4) {n k : Nat} (h : 8 + n ≤ k) : (st.map fun v => v.category).sum + n ≤ k := by
  have := cat_sum st hst
  omega
theorem s_mabs (C : CX X own cc nL) {idx : Nat} (w1 : Cond.methodLink own idx Lib.Math.abs.name ∈ lw_big) (w2 : Cond.static Lib.Math.abs.name ∈ lw_big) (w3 : Cond.initialized "java/lang/Math" ∈ lw_big) (w4 : Cond.code Lib.Math.abs.name Lib.Math.abs.code 1 (some .int) ∈ lw_big) (d : decode cc pc = .ok (.invokestatic idx, 3)) {x : Int32} (hst : st.length ≤ 4) (hroom : 1 ≤ (xR X).frames ∧ 21 ≤ (xR X).locals) (hcl : cells ≤ (xR X).cells ∧ slots ≤ (xR X).slots) (kk : WW X h cells slots (pc + 3) lv (.int (if 0 ≤ x then x else 0 - x) :: st)) : WW X h cells slots pc lv (.int x :: st) :=
  fun H locs ls hR hS hl => va_mabs C.1 C.2.1 hl.1.symm C.2.2.2.1 (C.2.2.2.2.1 _ w1) (C.2.2.2.2.1 _ w2) (C.2.2.2.2.1 _ w3) (C.2.2.2.2.1 _ w4) hroom.1 (sum4 hst hroom.2) hcl.1 hcl.2 d (kk H locs ls hR hS hl)
theorem s_mmax (C : CX X own cc nL) {idx : Nat} (w1 : Cond.methodLink own idx Lib.Math.max.name ∈ lw_big) (w2 : Cond.static Lib.Math.max.name ∈ lw_big) (w3 : Cond.initialized "java/lang/Math" ∈ lw_big) (w4 : Cond.code Lib.Math.max.name Lib.Math.max.code 2 (some .int) ∈ lw_big) (d : decode cc pc = .ok (.invokestatic idx, 3)) {x y : Int32} (hst : st.length ≤ 4) (hroom : 1 ≤ (xR X).frames ∧ 21 ≤ (xR X).locals) (hcl : cells ≤ (xR X).cells ∧ slots ≤ (xR X).slots) (kk : WW X h cells slots (pc + 3) lv (.int (if x < y then y else x) :: st)) : WW X h cells slots pc lv (.int y :: .int x :: st) :=
  fun H locs ls hR hS hl => va_mmax C.1 C.2.1 hl.1.symm C.2.2.2.1 (C.2.2.2.2.1 _ w1) (C.2.2.2.2.1 _ w2) (C.2.2.2.2.1 _ w3) (C.2.2.2.2.1 _ w4) hroom.1 (sum4 hst hroom.2) hcl.1 hcl.2 d (kk H locs ls hR hS hl)
theorem s_mmin (C : CX X own cc nL) {idx : Nat} (w1 : Cond.methodLink own idx Lib.Math.min.name ∈ lw_big) (w2 : Cond.static Lib.Math.min.name ∈ lw_big) (w3 : Cond.initialized "java/lang/Math" ∈ lw_big) (w4 : Cond.code Lib.Math.min.name Lib.Math.min.code 2 (some .int) ∈ lw_big) (d : decode cc pc = .ok (.invokestatic idx, 3)) {x y : Int32} (hst : st.length ≤ 4) (hroom : 1 ≤ (xR X).frames ∧ 21 ≤ (xR X).locals) (hcl : cells ≤ (xR X).cells ∧ slots ≤ (xR X).slots) (kk : WW X h cells slots (pc + 3) lv (.int (if y < x then y else x) :: st)) : WW X h cells slots pc lv (.int y :: .int x :: st) :=
  fun H locs ls hR hS hl => va_mmin C.1 C.2.1 hl.1.symm C.2.2.2.1 (C.2.2.2.2.1 _ w1) (C.2.2.2.2.1 _ w2) (C.2.2.2.2.1 _ w3) (C.2.2.2.2.1 _ w4) hroom.1 (sum4 hst hroom.2) hcl.1 hcl.2 d (kk H locs ls hR hS hl)
theorem nn32 (z : Int32) (hz : ¬ z < 0) : z.toInt = (z.toNatClampNeg : Int) := by
  have hz0 : (0 : Int) ≤ z.toInt := by
    have := Int32.not_lt.mp hz
    simpa using Int32.le_iff_toInt_le.mp this
  show z.toInt = ((z.toInt.toNat : Nat) : Int)
  omega
theorem s_copyG (C : CX X own cc nL) {idx t a b p q : Nat} (ht : t = 20 ∨ t = 24) (w1 : Cond.methodLink own idx arraycopyName ∈ lw_big) (w2 : Cond.native arraycopyName ∈ lw_big) (w3 : Cond.static arraycopyName ∈ lw_big) (w4 : Cond.initialized "java/lang/System" ∈ lw_big) (d : decode cc pc = .ok (.invokestatic idx, 3)) {sp dp n : Int32} (ha : (hS h)[a]? = some (t, p)) (hb : (hS h)[b]? = some (t, q)) (h1 : ¬ sp < 0) (h2 : ¬ dp < 0) (h3 : ¬ n < 0) (h4 : sp.toNatClampNeg + n.toNatClampNeg ≤ p) (h5 : dp.toNatClampNeg + n.toNatClampNeg ≤ q) {h' : AH} (e1 : hS h' = hS h) (e2 : ∀ j i f, j ≠ b → vB (xD X).1 h' j i f = vB (xD X).1 h j i f) (e3 : ac (xD X).1 h' t b = va_cpy (ac (xD X).1 h t a) (ac (xD X).1 h t b) sp.toNatClampNeg dp.toNatClampNeg n.toNatClampNeg) (hst : st.length ≤ 4) (hroom : 1 ≤ (xR X).frames ∧ 26 ≤ (xR X).locals) (kk : WW X h' cells slots (pc + 3) lv st) : WW X h cells slots pc lv (.int n :: .int dp :: rB (xD X).1 (some b) :: .int sp :: rB (xD X).1 (some a) :: st) := by
  intro H locs ls hR hS hl T hT X0
  have hts := C.2.2.2.2.1
  have hc0 := (hR.2.1 a _ ha).ar (by omega) (by omega)
  have hc1 := (hR.2.1 b _ hb).ar (by omega) (by omega)
  have hArr := (C.2.2.2.2.2.1.2.1 t (by omega) (by omega)).1
  obtain ⟨-, k0, hk0, cm0, hkk0⟩ := hArr p (ac (xD X).1 h t a)
  obtain ⟨-, k1, hk1, cm1, hkk1⟩ := hArr q (ac (xD X).1 h t b)
  have hval : ∀ i, i < n.toNatClampNeg → (arrV ((xD X).2.2.2.1 t) p (ac (xD X).1 h t a)).slots.getD (sp.toNatClampNeg + i) .null = ac (xD X).1 h t a (sp.toNatClampNeg + i) := by
    intro i hi
    rw [Array.getD_eq_getD_getElem?, arrV_read _ _ (by omega)]
    rfl
  obtain ⟨vm', X', step⟩ := X0.arraycopy C.1 C.2.2.2.1 (hts _ w1) (hts _ w2) (hts _ w3) (hts _ w4) (src := (xD X).1 + a) (dst := (xD X).1 + b) (cs := arrV ((xD X).2.2.2.1 t) p (ac (xD X).1 h t a)) (cd := arrV ((xD X).2.2.2.1 t) q (ac (xD X).1 h t b)) (srcPos := sp) (destPos := dp) (n := n) (by rw [hT]; exact hc0) (by rw [hT]; exact hc1)
    (fun _ h => by cases h) (fun _ h => by cases h) (fun h => by cases h) (fun h => by cases h) hk0 hk1 hkk0 hkk1 (by rcases ht with rfl | rfl <;> rfl) h1 h2 h3
    (by rw [nn32 sp h1, nn32 n h3, arrV_size]; omega)
    (by rw [nn32 dp h2, nn32 n h3, arrV_size]; omega)
    (fun vm₁ _ i hi => by
      rw [hval i hi]
      rcases ht with rfl | rfl <;> exact ⟨rfl, trivial⟩)
    (g := F0 (xm X) pc ls (.int n :: .int dp :: rB (xD X).1 (some b) :: .int sp :: rB (xD X).1 (some a) :: st)) rfl (by show ls.size = _; exact hl.1) (rest := st) rfl (by rw [C.2.1]; exact d) hroom.1 (by have := cat_sum st hst; have h26 : 26 ≤ X.1.2.2.2.1.locals := hroom.2; show 2 * 0 + _ + (nativeFrameWords "java/lang/System" "arraycopy" 5 + 11) ≤ _; rw [show nativeFrameWords "java/lang/System" "arraycopy" 5 = 7 by decide]; omega)
  have ecp : copied (arrV ((xD X).2.2.2.1 t) p (ac (xD X).1 h t a)) (arrV ((xD X).2.2.2.1 t) q (ac (xD X).1 h t b)) sp dp n = arrV ((xD X).2.2.2.1 t) q (ac (xD X).1 h' t b) := by
    rw [e3]
    exact va_copied (fun z => z) ((xD X).2.2.2.1 t) ((xD X).2.2.2.1 t) (ac (xD X).1 h t a) (ac (xD X).1 h t b) h4
  rw [ecp] at X' step
  generalize hcell : arrV ((xD X).2.2.2.1 t) q (ac (xD X).1 h' t b) = cell at X' step
  have hlt : (xD X).1 + b < H.size := (Array.getElem?_eq_some_iff.mp hc1).1
  have hheap : ((T.setVm vm').setCell ((xD X).1 + b) cell).heap = H.setIfInBounds ((xD X).1 + b) cell := by rw [← hT]; rfl
  have oq : ∀ x : Nat, x ≠ (xD X).1 + b → (H.setIfInBounds ((xD X).1 + b) cell)[x]? = H[x]? := fun x hx => by simp [Array.getElem?_setIfInBounds, Ne.symm hx]
  have hz : (H.setIfInBounds ((xD X).1 + b) cell).size = H.size := by simp
  have hat : atC (xD X) h' b (t, q) (H.setIfInBounds ((xD X).1 + b) cell) := by
    unfold atC
    rw [if_neg (by show ¬ t < 13; omega), if_pos (by show t < 28; omega), ← hcell]
    simp [Array.getElem?_setIfInBounds, hlt, hcell]
  obtain ⟨t2, a1, b1⟩ := kk _ _ ls (hR.put e1 hb hz oq hat e2) ⟨by rw [hz]; exact hS.1, fun x g1 g2 => by
      rw [oq x (fun e => g2 (by rw [e]; exact Nat.le_add_right _ _))]
      exact hS.2.1 x g1 g2, fun x hx => by
      rcases List.mem_append.mp hx with h | h
      · exact hS.2.2 x h
      · obtain ⟨z, -, hz⟩ := List.mem_map.mp h
        rw [← hz]
        exact Nat.le_add_right _ _⟩ hl _ hheap X'
  exact ⟨t2, step t2 a1, b1⟩
theorem vB_rwI1 {b : Nat} {h : AH} {a : Nat} {g : Nat → Int32} (j i f : Nat) (e : j ≠ a) : vB b (rwI h a g) j i f = vB b h j i f := by
  unfold vB
  split <;> simp [hI, hL, hR, rwI, uR, e]
theorem vB_rwL1 {b : Nat} {h : AH} {a : Nat} {g : Nat → Int64} (j i f : Nat) (e : j ≠ a) : vB b (rwL h a g) j i f = vB b h j i f := by
  unfold vB
  split <;> simp [hI, hL, hR, rwL, uR, e]
theorem s_copyI (C : CX X own cc nL) {idx : Nat} (w1 : Cond.methodLink own idx arraycopyName ∈ lw_big) (w2 : Cond.native arraycopyName ∈ lw_big) (w3 : Cond.static arraycopyName ∈ lw_big) (w4 : Cond.initialized "java/lang/System" ∈ lw_big) (d : decode cc pc = .ok (.invokestatic idx, 3)) {sp dp n : Int32} {r0 r1 : Option Nat} {K : AH → Option ρ} (hf : cpI h r0 sp r1 dp n K = some r) (hst : st.length ≤ 4) (hroom : 1 ≤ (xR X).frames ∧ 26 ≤ (xR X).locals) (kk : ∀ h', K h' = some r → WW X h' cells slots (pc + 3) lv st) : WW X h cells slots pc lv (.int n :: .int dp :: rB (xD X).1 r1 :: .int sp :: rB (xD X).1 r0 :: st) := by
  unfold cpI at hf
  split at hf
  · rename_i e
    obtain ⟨a, b, p, q, rfl, rfl, ha, hb, h1, h2, h3, h4, h5⟩ := cpOk_spec e
    refine s_copyG C (Or.inl rfl) w1 w2 w3 w4 d ha hb h1 h2 h3 h4 h5 (h' := rwI h b (va_cpy (gI h (some a)) (hI h b) sp.toNatClampNeg dp.toNatClampNeg n.toNatClampNeg)) rfl vB_rwI1 ?_ hst hroom (kk _ hf)
    funext i
    show Value.int _ = va_cpy (fun j => Value.int _) (fun j => Value.int _) _ _ _ _
    simp only [hI, rwI, uR, va_cpy, if_pos]
    split <;> rfl
  · cases hf
theorem s_copyL (C : CX X own cc nL) {idx : Nat} (w1 : Cond.methodLink own idx arraycopyName ∈ lw_big) (w2 : Cond.native arraycopyName ∈ lw_big) (w3 : Cond.static arraycopyName ∈ lw_big) (w4 : Cond.initialized "java/lang/System" ∈ lw_big) (d : decode cc pc = .ok (.invokestatic idx, 3)) {sp dp n : Int32} {r0 r1 : Option Nat} {K : AH → Option ρ} (hf : cpL h r0 sp r1 dp n K = some r) (hst : st.length ≤ 4) (hroom : 1 ≤ (xR X).frames ∧ 26 ≤ (xR X).locals) (kk : ∀ h', K h' = some r → WW X h' cells slots (pc + 3) lv st) : WW X h cells slots pc lv (.int n :: .int dp :: rB (xD X).1 r1 :: .int sp :: rB (xD X).1 r0 :: st) := by
  unfold cpL at hf
  split at hf
  · rename_i e
    obtain ⟨a, b, p, q, rfl, rfl, ha, hb, h1, h2, h3, h4, h5⟩ := cpOk_spec e
    refine s_copyG C (Or.inr rfl) w1 w2 w3 w4 d ha hb h1 h2 h3 h4 h5 (h' := rwL h b (va_cpy (gL h (some a)) (hL h b) sp.toNatClampNeg dp.toNatClampNeg n.toNatClampNeg)) rfl vB_rwL1 ?_ hst hroom (kk _ hf)
    funext i
    show Value.long _ = va_cpy (fun j => Value.long _) (fun j => Value.long _) _ _ _ _
    simp only [hL, rwL, uR, va_cpy, if_pos]
    split <;> rfl
  · cases hf
/-- a switch: the numbers in order, each with what follows -/
def swN {ρ : Type} (x : Int32) (b : Option ρ) : List (Int × Option ρ) → Option ρ
  | [] => b
  | q :: l => if x.toInt = q.1 then q.2 else swN x b l
theorem s_tswitch (C : CX X own cc nL) {x : Int32} {dflt lo hi : Int} {offs : Array Int} {len : Nat} (d : decode cc pc = .ok (.tableswitch dflt lo hi offs, len)) (tgt : Int → Nat) (hin : ∀ z : Int, lo ≤ z → z ≤ hi → ∃ off, offs[(z - lo).toNat]? = some off ∧ (pc : Int) + off = (tgt z : Int)) {td : Nat} (hd : (pc : Int) + dflt = (td : Int)) (k1 : ∀ z : Int, lo ≤ z → z ≤ hi → x.toInt = z → WW X h cells slots (tgt z) lv st) (k2 : (x.toInt < lo ∨ hi < x.toInt) → WW X h cells slots td lv st) : WW X h cells slots pc lv (.int x :: st) := by
  intro H locs ls hR hS hl
  by_cases e1 : x.toInt < lo
  · exact lv_tableOut C.1 C.2.1 d (Or.inl e1) hd (k2 (Or.inl e1) H locs ls hR hS hl)
  · by_cases e2 : hi < x.toInt
    · exact lv_tableOut C.1 C.2.1 d (Or.inr e2) hd (k2 (Or.inr e2) H locs ls hR hS hl)
    · obtain ⟨off, o1, o2⟩ := hin x.toInt (by omega) (by omega)
      exact lv_tableIn C.1 C.2.1 d e1 e2 o1 o2 (k1 x.toInt (by omega) (by omega) rfl H locs ls hR hS hl)
theorem s_lswitch (C : CX X own cc nL) {x : Int32} {dflt : Int} {ps : Array (Int × Int)} {len : Nat} (d : decode cc pc = .ok (.lookupswitch dflt ps, len)) (hp : (ps.toList.zip (ps.toList.drop 1)).all (fun (a, next) => a.1 < next.1) = true) {off : Int} {tgt : Nat} (ho : Op.lookupswitch.offset ps.toList dflt x.toInt = off) (ht : (pc : Int) + off = (tgt : Int)) (k : WW X h cells slots tgt lv st) : WW X h cells slots pc lv (.int x :: st) :=
  fun H locs ls hR hS hl => lv_lookup C.1 C.2.1 d hp ho ht (k H locs ls hR hS hl)
/-- a join: what follows it is walked once -/
theorem s_jn {α : Type} {b : α} {K : α → Option ρ} {P : Prop} (hf : jn b K = some r) (k : ∀ j : α, j = b → K j = some r → P) : P := k b rfl hf
end MORE
