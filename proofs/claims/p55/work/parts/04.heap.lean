/-! FIELDS, ARRAYS, NEW CELLS -/
theorem allX {P : Nat → Prop} (h0 : P 0) (h1 : P 1) (h2 : P 2) (h3 : P 3) (h4 : P 4) (h5 : P 5) (h6 : P 6) (h7 : P 7) (h8 : P 8) (h9 : P 9) (h10 : P 10) (h11 : P 11) (h12 : P 12) : ∀ t, t < 13 → P t := by
  intro t ht
  match t, ht with
  | 0, _ => exact h0
  | 1, _ => exact h1
  | 2, _ => exact h2
  | 3, _ => exact h3
  | 4, _ => exact h4
  | 5, _ => exact h5
  | 6, _ => exact h6
  | 7, _ => exact h7
  | 8, _ => exact h8
  | 9, _ => exact h9
  | 10, _ => exact h10
  | 11, _ => exact h11
  | 12, _ => exact h12
  | t + 13, h => exact absurd h (by omega)
theorem inXX : ∀ t, t < 13 → ∀ w ∈ u_ws (RXX t) (TXX t) (NXX t), w ∈ lw_big := allX inX0 inX1 inX2 inX3 inX4 inX5 inX6 inX7 inX8 inX9 inX10 inX11 inX12
theorem nmXX : ∀ t, t < 13 → ∀ a, a < NXX t → ∀ b, b < NXX t → a ≠ b → (TXX t a).2.1 ≠ (TXX t b).2.1 := allX nmX0 nmX1 nmX2 nmX3 nmX4 nmX5 nmX6 nmX7 nmX8 nmX9 nmX10 nmX11 nmX12
theorem tyXX_ok : ∀ t, t < 13 → ∀ k, k < NXX t → parseFieldDescriptor (TXX t k).2.2.1 = some (tyXX t k) := allX tyX0_ok tyX1_ok tyX2_ok tyX3_ok tyX4_ok tyX5_ok tyX6_ok tyX7_ok tyX8_ok tyX9_ok tyX10_ok tyX11_ok tyX12_ok
/-- a field of the constant pool: which place of which classes it is, of which kind, final or not -/
def FLk (own : String) (idx : Nat) (cs : List Nat) (k kd : Nat) (fin : Bool) : Prop := ∃ ref n d, Cond.fieldLink own idx ref n d ∈ lw_big ∧ (∀ t ∈ cs, t < 13) ∧ ∀ t ∈ cs, okC t → t < 13 ∧ k < NXX t ∧ (TXX t k).2.1 = n ∧ (TXX t k).2.2.1 = d ∧ (TXX t k).2.2.2 = fin ∧ fk (tyXX t k) = kd ∧ ((TXX t k).1 = ref ∨ Cond.sameField ref (TXX t k).1 n d ∈ lw_big)
theorem okT_spec {h : AH} {cs : List Nat} {r : Option Nat} (e : okT h cs r = true) : ∃ a t n, r = some a ∧ (hS h)[a]? = some (t, n) ∧ t ∈ cs := by
  unfold okT at e
  cases r with
  | none => cases e
  | some a =>
    cases hq : (hS h)[a]? with
    | none => simp [hq] at e
    | some q =>
      obtain ⟨t, n⟩ := q
      simp only [hq, List.contains_eq_mem, decide_eq_true_eq] at e
      exact ⟨a, t, n, rfl, hq, e⟩
theorem okA_spec {h : AH} {t : Nat} {r : Option Nat} {i : Int32} (e : okA h t r i = true) : ∃ a n, r = some a ∧ (hS h)[a]? = some (t, n) ∧ ¬ (i < 0 ∨ n ≤ i.toNatClampNeg) := by
  unfold okA at e
  cases r with
  | none => cases e
  | some a =>
    cases hq : (hS h)[a]? with
    | none => simp [hq] at e
    | some q =>
      obtain ⟨t', n⟩ := q
      simp only [hq, Bool.and_eq_true, beq_iff_eq, Bool.not_eq_true', Bool.or_eq_false_iff, decide_eq_false_iff_not] at e
      obtain ⟨rfl, e1, e2⟩ := e
      exact ⟨a, n, rfl, hq, fun z => z.elim e1 e2⟩
theorem atC.ob {D : DT} {h : AH} {k t n : Nat} {H : Heap} (hc : atC D h k (t, n) H) (ht : t < 13) : okC t ∧ t_OB (D.1 + k) (D.2.1 t) (NXX t) (D.2.2.1 t) H (oc D.1 h t k) := by
  unfold atC at hc
  rwa [if_pos ht] at hc
theorem atC.ar {D : DT} {h : AH} {k t n : Nat} {H : Heap} (hc : atC D h k (t, n) H) (ht : ¬ t < 13) (h28 : t < 28) : H[D.1 + k]? = some (arrV (D.2.2.2.1 t) n (ac D.1 h t k)) := by
  unfold atC at hc
  rwa [if_neg ht, if_pos h28] at hc
theorem atC.okc {D : DT} {h : AH} {k t n : Nat} {H : Heap} (hc : atC D h k (t, n) H) (ht : t < 13) : okC t := (hc.ob ht).1
section HEAP
variable {X : XT} {own : String} {cc : ByteArray} {nL pc cells slots : Nat} {h : AH} {lv lv' : List (Option Value)} {st : List Value} {ρ : Type} {r : ρ}
theorem s_getG (C : CX X own cc nL) {idx k kd t n a : Nat} {cs : List Nat} {fin : Bool} (F : FLk own idx cs k kd fin) (d : decode cc pc = .ok (.getfield idx, 3)) (hq : (hS h)[a]? = some (t, n)) (ht : t ∈ cs) (kk : WW X h cells slots (pc + 3) lv (vB (xD X).1 h a k kd :: st)) : WW X h cells slots pc lv (rB (xD X).1 (some a) :: st) := by
  intro H locs ls hR hS hl
  obtain ⟨ref, nm, ds, hlk, hcs, F⟩ := F
  have hoc := (hR.2.1 a _ hq).okc (hcs t ht)
  obtain ⟨h13, hk, en, ed, ef, ek, es⟩ := F t ht hoc
  subst en; subst ed
  obtain ⟨cell, q1, q2, q3, q4⟩ := ((hR.2.1 a _ hq).ob h13).2
  obtain ⟨hSl, hfc, kC, hkC, hkind⟩ := C.2.2.2.2.2.1.1 t h13 hoc
  obtain ⟨cf, kf, fi, f, hi, hsl⟩ := hSl k hk
  have hts := C.2.2.2.2.1
  have hin := inXX t h13
  have hsame : (xs X).fieldFound? ref (TXX t k).2.1 (TXX t k).2.2.1 = some (cf, kf, fi, f) := by
    rcases es with e | e
    · rw [← e]; exact hi
    · exact u_same (hts _ e) _ hi
  refine W.getf C.1 C.2.1 C.2.2.2.1 (hts _ hlk) hsame (u_facts hfc hkC (u_lays hts hin hk) hi).1 (a := (xD X).1 + a) q1 (by rw [q3]; exact fun h => by cases h) (v := vB (xD X).1 h a k kd) ?_ rfl rfl d (kk H locs ls hR hS hl)
  rw [hsl, q4 k hk]
  show some (vB _ _ _ _ (fk (tyXX t k))) = _
  rw [ek]
theorem s_getI (C : CX X own cc nL) {idx k : Nat} {cs : List Nat} {fin : Bool} (F : FLk own idx cs k 0 fin) (d : decode cc pc = .ok (.getfield idx, 3)) {r0 : Option Nat} {K : Int32 → Option ρ} (hf : fI h cs r0 k K = some r) (kk : ∀ v, K v = some r → WW X h cells slots (pc + 3) lv (.int v :: st)) : WW X h cells slots pc lv (rB (xD X).1 r0 :: st) := by
  unfold fI at hf
  split at hf
  · rename_i e
    obtain ⟨a, t, n, rfl, hq, ht⟩ := okT_spec e
    exact s_getG C F d hq ht (kk _ hf)
  · cases hf
theorem s_getL (C : CX X own cc nL) {idx k : Nat} {cs : List Nat} {fin : Bool} (F : FLk own idx cs k 1 fin) (d : decode cc pc = .ok (.getfield idx, 3)) {r0 : Option Nat} {K : Int64 → Option ρ} (hf : fL h cs r0 k K = some r) (kk : ∀ v, K v = some r → WW X h cells slots (pc + 3) lv (.long v :: st)) : WW X h cells slots pc lv (rB (xD X).1 r0 :: st) := by
  unfold fL at hf
  split at hf
  · rename_i e
    obtain ⟨a, t, n, rfl, hq, ht⟩ := okT_spec e
    exact s_getG C F d hq ht (kk _ hf)
  · cases hf
theorem s_getR (C : CX X own cc nL) {idx k : Nat} {cs : List Nat} {fin : Bool} (F : FLk own idx cs k 2 fin) (d : decode cc pc = .ok (.getfield idx, 3)) {r0 : Option Nat} {K : Option Nat → Option ρ} (hf : fR h cs r0 k K = some r) (kk : ∀ v, K v = some r → WW X h cells slots (pc + 3) lv (rB (xD X).1 v :: st)) : WW X h cells slots pc lv (rB (xD X).1 r0 :: st) := by
  unfold fR at hf
  split at hf
  · rename_i e
    obtain ⟨a, t, n, rfl, hq, ht⟩ := okT_spec e
    exact s_getG C F d hq ht (kk _ hf)
  · cases hf
theorem va_S.putD {b : Nat} {H0 H H1 : Heap} {locs : List Loc} {a k : Nat} (hS : va_S (fun q => b ≤ q) H0 H locs) (z : H1.size = H.size) (oq : ∀ q : Nat, q ≠ b + a → H1[q]? = H[q]?) : va_S (fun q => b ≤ q) H0 H1 (locs ++ [⟨b + a, k⟩]) := hS.put z oq (Nat.le_add_right _ _)
theorem s_putG (C : CX X own cc nL) {idx k kd t n a : Nat} {cs : List Nat} (F : FLk own idx cs k kd false) (d : decode cc pc = .ok (.putfield idx, 3)) (hq : (hS h)[a]? = some (t, n)) (ht : t ∈ cs) {v : Value} {h' : AH} (hnv : okC t → narrow (tyXX t k) v = v ∧ fits (tyXX t k) v = true) (hs : hS h' = hS h) (ho : ∀ j i f, j ≠ a → vB (xD X).1 h' j i f = vB (xD X).1 h j i f) (ho2 : ∀ i f, i ≠ k → vB (xD X).1 h' a i f = vB (xD X).1 h a i f) (ho3 : vB (xD X).1 h' a k kd = v) (kk : WW X h' cells slots (pc + 3) lv st) : WW X h cells slots pc lv (v :: rB (xD X).1 (some a) :: st) := by
  intro H locs ls hR hS hl
  obtain ⟨ref, nm, ds, hlk, hcs, F⟩ := F
  have hoc := (hR.2.1 a _ hq).okc (hcs t ht)
  obtain ⟨h13, hk, en, ed, ef, ek, es⟩ := F t ht hoc
  obtain ⟨hn, hv⟩ := hnv hoc
  subst en; subst ed
  have hob := ((hR.2.1 a _ hq).ob h13).2
  obtain ⟨cell, q1, q2, q3, q4⟩ := hob
  obtain ⟨hSl, hfc, kC, hkC, hkind⟩ := C.2.2.2.2.2.1.1 t h13 hoc
  obtain ⟨cf, kf, fi, f, hi, hsl⟩ := hSl k hk
  have hts := C.2.2.2.2.1
  have hin := inXX t h13
  have hsame : (xs X).fieldFound? ref (TXX t k).2.1 (TXX t k).2.2.1 = some (cf, kf, fi, f) := by
    rcases es with e | e
    · rw [← e]; exact hi
    · exact u_same (hts _ e) _ hi
  have hlay := hts _ (hin _ (u_in_lay hk))
  unfold u_lay at hlay
  rw [if_neg (by rw [ef]; decide)] at hlay
  have hst := (u_facts hfc hkC (u_lays hts hin hk) hi).1
  have h6 := u_store hfc hkC hkind hlay hi (tyXX_ok t h13 k hk) hn hv
  have hap : ∀ x y, x < NXX t → y < NXX t → x ≠ y → ((xD X).2.2.1 t) x ≠ ((xD X).2.2.1 t) y := by
    intro x y hx hy hne
    obtain ⟨_, _, _, fa, hia, ea⟩ := hSl x hx
    obtain ⟨_, _, _, fb, hib, eb⟩ := hSl y hy
    rw [← ea, ← eb]
    refine u_apart (u_lays hts hin hx) (u_lays hts hin hy) hia hib ?_
    rw [(State.fieldFound?_type hia (tyXX_ok t h13 x hx)).1, (State.fieldFound?_type hib (tyXX_ok t h13 y hy)).1]
    exact nmXX t h13 x hx y hy hne
  refine W.putK C.1 C.2.1 (f := f) ⟨C.2.2.2.1, hts _ hlk, ⟨_, _, _, hsame⟩, hst⟩ (a := (xD X).1 + a) (by rw [q2]; exact h6) q1 q3 (by rw [hsl]; exact k2_hasslot (q4 k hk)) rfl rfl d fun H' e1 e2 e3 => ?_
  rw [hsl] at e1 ⊢
  refine kk H' _ ls (hR.put hs hq e2 e3 ?_ ho) (hS.putD e2 e3) hl
  show (if t < 13 then _ else _)
  rw [if_pos h13]
  refine ⟨hoc, ?_⟩
  refine t_OB.to (V := updV (oc (xD X).1 h t a) k v) ⟨_, e1, q2, q3, t_set q4 hap hk v⟩ (fun j hj => ?_)
  by_cases e : j = k
  · subst e
    simp only [updV, if_pos rfl]
    show v = vB _ _ _ _ (fk (tyXX t j))
    rw [ek, ho3]
  · simp only [updV, if_neg e]
    exact (ho2 j _ e).symm
theorem s_putFG (C : CX X own cc nL) {idx k kd t n a : Nat} {cs : List Nat} (F : FLk own idx cs k kd true) (hown : ∀ t ∈ cs, okC t → (TXX t k).1 = own) (hinit : (xM X).name = "<init>") (d : decode cc pc = .ok (.putfield idx, 3)) (hq : (hS h)[a]? = some (t, n)) (ht : t ∈ cs) {v : Value} {h' : AH} (hnv : okC t → narrow (tyXX t k) v = v ∧ fits (tyXX t k) v = true) (hs : hS h' = hS h) (ho : ∀ j i f, j ≠ a → vB (xD X).1 h' j i f = vB (xD X).1 h j i f) (ho2 : ∀ i f, i ≠ k → vB (xD X).1 h' a i f = vB (xD X).1 h a i f) (ho3 : vB (xD X).1 h' a k kd = v) (kk : WW X h' cells slots (pc + 3) lv st) : WW X h cells slots pc lv (v :: rB (xD X).1 (some a) :: st) := by
  intro H locs ls hR hS hl
  obtain ⟨ref, nm, ds, hlk, hcs, F⟩ := F
  have hoc := (hR.2.1 a _ hq).okc (hcs t ht)
  obtain ⟨h13, hk, en, ed, ef, ek, es⟩ := F t ht hoc
  obtain ⟨hn, hv⟩ := hnv hoc
  subst en; subst ed
  have hob := ((hR.2.1 a _ hq).ob h13).2
  obtain ⟨cell, q1, q2, q3, q4⟩ := hob
  obtain ⟨hSl, hfc, kC, hkC, hkind⟩ := C.2.2.2.2.2.1.1 t h13 hoc
  obtain ⟨cf, kf, fi, f, hi, hsl⟩ := hSl k hk
  have hts := C.2.2.2.2.1
  have hin := inXX t h13
  have hsame : (xs X).fieldFound? ref (TXX t k).2.1 (TXX t k).2.2.1 = some (cf, kf, fi, f) := by
    rcases es with e | e
    · rw [← e]; exact hi
    · exact u_same (hts _ e) _ hi
  have hlay := hts _ (hin _ (u_in_lay hk))
  unfold u_lay at hlay
  rw [if_pos ef] at hlay
  have hst := (u_facts hfc hkC (u_lays hts hin hk) hi).1
  have hcf : (xm X).cls = cf := by
    obtain ⟨_, _, c', _, _, _, -, -, hf', -, -, -, hown2, -⟩ := Cond.laysFinal_spec hlay
    have e1 : c' = cf := by have := hi.symm.trans hf'; simp at this; exact this.1.symm
    rw [hown t ht hoc] at hown2
    rw [← e1]; exact Option.some.inj (C.2.2.2.1.symm.trans hown2)
  have h6 := u_fits hfc hkC hkind (Or.inr hlay) hi (tyXX_ok t h13 k hk) hn hv
  have hap : ∀ x y, x < NXX t → y < NXX t → x ≠ y → ((xD X).2.2.1 t) x ≠ ((xD X).2.2.1 t) y := by
    intro x y hx hy hne
    obtain ⟨_, _, _, fa, hia, ea⟩ := hSl x hx
    obtain ⟨_, _, _, fb, hib, eb⟩ := hSl y hy
    rw [← ea, ← eb]
    refine u_apart (u_lays hts hin hx) (u_lays hts hin hy) hia hib ?_
    rw [(State.fieldFound?_type hia (tyXX_ok t h13 x hx)).1, (State.fieldFound?_type hib (tyXX_ok t h13 y hy)).1]
    exact nmXX t h13 x hx y hy hne
  refine W.putFinK C.1 C.2.1 C.2.2.2.1 (hts _ hlk) hsame hst hcf hinit (a := (xD X).1 + a) (by rw [q2]; exact h6) q1 q3 (by rw [hsl]; exact k2_hasslot (q4 k hk)) rfl rfl d fun H' e1 e2 e3 => ?_
  rw [hsl] at e1 ⊢
  refine kk H' _ ls (hR.put hs hq e2 e3 ?_ ho) (hS.putD e2 e3) hl
  show (if t < 13 then _ else _)
  rw [if_pos h13]
  refine ⟨hoc, ?_⟩
  refine t_OB.to (V := updV (oc (xD X).1 h t a) k v) ⟨_, e1, q2, q3, t_set q4 hap hk v⟩ (fun j hj => ?_)
  by_cases e : j = k
  · subst e
    simp only [updV, if_pos rfl]
    show v = vB _ _ _ _ (fk (tyXX t j))
    rw [ek, ho3]
  · simp only [updV, if_neg e]
    exact (ho2 j _ e).symm
end HEAP
