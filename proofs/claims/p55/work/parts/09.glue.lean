/-! GLUE of the printed walks: weaker locals, more room, loops, switches, Object's start -/
section GLUE
variable {X : XT} {own : String} {cc : ByteArray} {nL pc cells slots : Nat} {h : AH} {lv lv' : List (Option Value)} {st : List Value} {ρ : Type} {r : ρ}
theorem s_widen {c s : Nat} (h1 : cells ≤ c) (h2 : slots ≤ s) (k : WW X h c s pc lv st) : WW X h cells slots pc lv st := fun H locs ls hR hS hl => W.widen h1 h2 (k H locs ls hR hS hl)
/-- the first list says less -/
def lvle : List (Option Value) → List (Option Value) → Prop
  | [], [] => True
  | none :: a, _ :: b => lvle a b
  | some v :: a, w :: b => w = some v ∧ lvle a b
  | _, _ => False
theorem lvle_at : ∀ (a b : List (Option Value)), lvle a b → ∀ (i : Nat) (v : Value), a[i]? = some (some v) → b[i]? = some (some v)
  | [], [], _, i, v, e => by simp at e
  | none :: a, w :: b, hl, i, v, e => by
    cases i with
    | zero => simp at e
    | succ i => simpa using lvle_at a b hl i v (by simpa using e)
  | some u :: a, w :: b, hl, i, v, e => by
    cases i with
    | zero =>
      simp at e
      subst e
      simp [hl.1]
    | succ i => simpa using lvle_at a b hl.2 i v (by simpa using e)
  | none :: _, [], hl, _, _, _ => hl.elim
  | some _ :: _, [], hl, _, _, _ => hl.elim
  | [], _ :: _, hl, _, _, _ => hl.elim
theorem s_weak (hl : lvle lv' lv) (k : WW X h cells slots pc lv' st) : WW X h cells slots pc lv st := fun H locs ls hR hS hL => k H locs ls hR hS ⟨hL.1, hL.2.1, fun i v e => hL.2.2 i v (lvle_at _ _ hl i v e)⟩
theorem s_ite {c : Prop} [Decidable c] {A B : Option ρ} (hf : (if c then A else B) = some r) {P : Prop} (kt : c → A = some r → P) (kf : ¬ c → B = some r → P) : P := by
  by_cases e : c
  · exact kt e (by rwa [if_pos e] at hf)
  · exact kf e (by rwa [if_neg e] at hf)
theorem n32 {x z : Int32} {i : Int} (e : ¬ x = z) (hz : z.toInt = i) : x.toInt ≠ i := fun q => e (Int32.toInt_inj.mp (q.trans hz.symm))
theorem s_tsw1 (C : CX X own cc nL) {x z : Int32} {dflt lo hi off : Int} {offs : Array Int} {len tgt : Nat} (d : decode cc pc = .ok (.tableswitch dflt lo hi offs, len)) (e : x = z) (h1 : ¬ z.toInt < lo) (h2 : ¬ hi < z.toInt) (o1 : offs[(z.toInt - lo).toNat]? = some off) (o2 : (pc : Int) + off = (tgt : Int)) (k : WW X h cells slots tgt lv st) : WW X h cells slots pc lv (.int x :: st) := by
  subst e
  exact fun H locs ls hR hS hl => lv_tableIn C.1 C.2.1 d h1 h2 o1 o2 (k H locs ls hR hS hl)
theorem s_tswD (C : CX X own cc nL) {x : Int32} {dflt lo hi : Int} {offs : Array Int} {len tgt : Nat} (d : decode cc pc = .ok (.tableswitch dflt lo hi offs, len)) (h1 : x.toInt < lo ∨ hi < x.toInt) (o2 : (pc : Int) + dflt = (tgt : Int)) (k : WW X h cells slots tgt lv st) : WW X h cells slots pc lv (.int x :: st) :=
  fun H locs ls hR hS hl => lv_tableOut C.1 C.2.1 d h1 o2 (k H locs ls hR hS hl)
theorem s_lsw1 (C : CX X own cc nL) {x z : Int32} {dflt off : Int} {ps : Array (Int × Int)} {len tgt : Nat} (d : decode cc pc = .ok (.lookupswitch dflt ps, len)) (hp : (ps.toList.zip (ps.toList.drop 1)).all (fun (a, next) => a.1 < next.1) = true) (e : x = z) (ho : Op.lookupswitch.offset ps.toList dflt z.toInt = off) (ht : (pc : Int) + off = (tgt : Int)) (k : WW X h cells slots tgt lv st) : WW X h cells slots pc lv (.int x :: st) := by
  subst e
  exact fun H locs ls hR hS hl => lv_lookup C.1 C.2.1 d hp ho ht (k H locs ls hR hS hl)
theorem s_objInit (C : CX X own cc nL) {idx : Nat} (w1 : Cond.methodLink own idx Lib.objectInit ∈ lw_big) (w2 : Cond.instanceMethod Lib.objectInit ∈ lw_big) (w3 : Cond.code Lib.objectInit ⟨#[0xb1]⟩ 1 none ∈ lw_big) (d : decode cc pc = .ok (.invokespecial idx, 3)) {cs : List Nat} {r0 : Option Nat} {K : Option ρ} (hf : rO h cs r0 K = some r) (hst : st.length ≤ 4) (hroom : 1 ≤ (xR X).frames ∧ 20 ≤ (xR X).locals) (kk : K = some r → WW X h cells slots (pc + 3) lv st) : WW X h cells slots pc lv (rB (xD X).1 r0 :: st) := by
  unfold rO at hf
  split at hf
  · rename_i e
    obtain ⟨a, t, n, rfl, -, -⟩ := okT_spec e
    intro H locs ls hR hS hl
    have hts := C.2.2.2.2.1
    exact W.objInit C.1 C.2.1 C.2.2.2.1 (hts _ w1) (hts _ w2) (hts _ w3) rfl (by show ls.size = _; exact hl.1) (a := (xD X).1 + a) (rest := st) rfl d hroom.1 (by have := cat_sum st hst; have h20 : 20 ≤ X.1.2.2.2.1.locals := hroom.2; show 2 * 0 + _ + 12 ≤ _; omega) (kk hf H locs ls hR hS hl)
  · cases hf
theorem room_ok {F c s L fr lo n : Nat} (hX : xR X = { frames := F, cells := c, slots := s, locals := L }) (h1 : fr + 1 ≤ F) (h2 : 8 + (n + 11) + lo ≤ L) : fr + 1 ≤ (xR X).frames ∧ 8 + (n + 11) + lo ≤ (xR X).locals := by rw [hX]; exact ⟨h1, h2⟩
theorem room_n {F c s L a b : Nat} (hX : xR X = { frames := F, cells := c, slots := s, locals := L }) (h1 : a ≤ F) (h2 : b ≤ L) : a ≤ (xR X).frames ∧ b ≤ (xR X).locals := by rw [hX]; exact ⟨h1, h2⟩
theorem cell_ok {F c s L a b : Nat} (hX : xR X = { frames := F, cells := c, slots := s, locals := L }) (h1 : a ≤ c) (h2 : b ≤ s) : a ≤ (xR X).cells ∧ b ≤ (xR X).slots := by rw [hX]; exact ⟨h1, h2⟩
theorem FLk.mk0 {own : String} {idx : Nat} {cs : List Nat} {k kd : Nat} {fin : Bool} (ref n d : String) (w : Cond.fieldLink own idx ref n d ∈ lw_big) (e : ∀ t ∈ cs, t < 13 ∧ (okC t → k < NXX t ∧ (TXX t k).1 = ref ∧ (TXX t k).2.1 = n ∧ (TXX t k).2.2.1 = d ∧ (TXX t k).2.2.2 = fin ∧ fk (tyXX t k) = kd)) : FLk own idx cs k kd fin :=
  ⟨ref, n, d, w, fun t ht => (e t ht).1, fun t ht ho => by have a1 := (e t ht).1; obtain ⟨a2, a3, a4, a5, a6, a7⟩ := (e t ht).2 ho; exact ⟨a1, a2, a4, a5, a6, a7, Or.inl a3⟩⟩
theorem FLk.mk1 {own : String} {idx : Nat} {cs : List Nat} {k kd : Nat} {fin : Bool} (ref o n d : String) (w : Cond.fieldLink own idx ref n d ∈ lw_big) (w2 : Cond.sameField ref o n d ∈ lw_big) (e : ∀ t ∈ cs, t < 13 ∧ (okC t → k < NXX t ∧ (TXX t k).1 = o ∧ (TXX t k).2.1 = n ∧ (TXX t k).2.2.1 = d ∧ (TXX t k).2.2.2 = fin ∧ fk (tyXX t k) = kd)) : FLk own idx cs k kd fin :=
  ⟨ref, n, d, w, fun t ht => (e t ht).1, fun t ht ho => by have a1 := (e t ht).1; obtain ⟨a2, a3, a4, a5, a6, a7⟩ := (e t ht).2 ho; exact ⟨a1, a2, a4, a5, a6, a7, Or.inr (by rw [a3]; exact w2)⟩⟩
theorem s_lp1 {A0 : Type} {F : (A0 → Option ρ) → A0 → Option ρ} {N : Nat} {a0 : A0} (hf : lp (fun _ => none) F N a0 = some r) {P : Prop} (k : ∀ G : Nat → A0 → Option ρ, (∀ (a0 : A0), G 0 a0 = none) → (∀ n (a0 : A0), G (n + 1) a0 = F (G n) a0) → G N a0 = some r → P) : P :=
  k (fun n => lp (fun _ => none) F n) (fun _ => rfl) (fun n _ => rfl) hf
theorem s_lp2 {A0 A1 : Type} {F : (A0 → A1 → Option ρ) → A0 → A1 → Option ρ} {N : Nat} {a0 : A0} {a1 : A1} (hf : lp (fun _ _ => none) F N a0 a1 = some r) {P : Prop} (k : ∀ G : Nat → A0 → A1 → Option ρ, (∀ (a0 : A0) (a1 : A1), G 0 a0 a1 = none) → (∀ n (a0 : A0) (a1 : A1), G (n + 1) a0 a1 = F (G n) a0 a1) → G N a0 a1 = some r → P) : P :=
  k (fun n => lp (fun _ _ => none) F n) (fun _ _ => rfl) (fun n _ _ => rfl) hf
theorem s_lp3 {A0 A1 A2 : Type} {F : (A0 → A1 → A2 → Option ρ) → A0 → A1 → A2 → Option ρ} {N : Nat} {a0 : A0} {a1 : A1} {a2 : A2} (hf : lp (fun _ _ _ => none) F N a0 a1 a2 = some r) {P : Prop} (k : ∀ G : Nat → A0 → A1 → A2 → Option ρ, (∀ (a0 : A0) (a1 : A1) (a2 : A2), G 0 a0 a1 a2 = none) → (∀ n (a0 : A0) (a1 : A1) (a2 : A2), G (n + 1) a0 a1 a2 = F (G n) a0 a1 a2) → G N a0 a1 a2 = some r → P) : P :=
  k (fun n => lp (fun _ _ _ => none) F n) (fun _ _ _ => rfl) (fun n _ _ _ => rfl) hf
theorem s_lp4 {A0 A1 A2 A3 : Type} {F : (A0 → A1 → A2 → A3 → Option ρ) → A0 → A1 → A2 → A3 → Option ρ} {N : Nat} {a0 : A0} {a1 : A1} {a2 : A2} {a3 : A3} (hf : lp (fun _ _ _ _ => none) F N a0 a1 a2 a3 = some r) {P : Prop} (k : ∀ G : Nat → A0 → A1 → A2 → A3 → Option ρ, (∀ (a0 : A0) (a1 : A1) (a2 : A2) (a3 : A3), G 0 a0 a1 a2 a3 = none) → (∀ n (a0 : A0) (a1 : A1) (a2 : A2) (a3 : A3), G (n + 1) a0 a1 a2 a3 = F (G n) a0 a1 a2 a3) → G N a0 a1 a2 a3 = some r → P) : P :=
  k (fun n => lp (fun _ _ _ _ => none) F n) (fun _ _ _ _ => rfl) (fun n _ _ _ _ => rfl) hf
theorem s_lp5 {A0 A1 A2 A3 A4 : Type} {F : (A0 → A1 → A2 → A3 → A4 → Option ρ) → A0 → A1 → A2 → A3 → A4 → Option ρ} {N : Nat} {a0 : A0} {a1 : A1} {a2 : A2} {a3 : A3} {a4 : A4} (hf : lp (fun _ _ _ _ _ => none) F N a0 a1 a2 a3 a4 = some r) {P : Prop} (k : ∀ G : Nat → A0 → A1 → A2 → A3 → A4 → Option ρ, (∀ (a0 : A0) (a1 : A1) (a2 : A2) (a3 : A3) (a4 : A4), G 0 a0 a1 a2 a3 a4 = none) → (∀ n (a0 : A0) (a1 : A1) (a2 : A2) (a3 : A3) (a4 : A4), G (n + 1) a0 a1 a2 a3 a4 = F (G n) a0 a1 a2 a3 a4) → G N a0 a1 a2 a3 a4 = some r → P) : P :=
  k (fun n => lp (fun _ _ _ _ _ => none) F n) (fun _ _ _ _ _ => rfl) (fun n _ _ _ _ _ => rfl) hf
theorem s_lp6 {A0 A1 A2 A3 A4 A5 : Type} {F : (A0 → A1 → A2 → A3 → A4 → A5 → Option ρ) → A0 → A1 → A2 → A3 → A4 → A5 → Option ρ} {N : Nat} {a0 : A0} {a1 : A1} {a2 : A2} {a3 : A3} {a4 : A4} {a5 : A5} (hf : lp (fun _ _ _ _ _ _ => none) F N a0 a1 a2 a3 a4 a5 = some r) {P : Prop} (k : ∀ G : Nat → A0 → A1 → A2 → A3 → A4 → A5 → Option ρ, (∀ (a0 : A0) (a1 : A1) (a2 : A2) (a3 : A3) (a4 : A4) (a5 : A5), G 0 a0 a1 a2 a3 a4 a5 = none) → (∀ n (a0 : A0) (a1 : A1) (a2 : A2) (a3 : A3) (a4 : A4) (a5 : A5), G (n + 1) a0 a1 a2 a3 a4 a5 = F (G n) a0 a1 a2 a3 a4 a5) → G N a0 a1 a2 a3 a4 a5 = some r → P) : P :=
  k (fun n => lp (fun _ _ _ _ _ _ => none) F n) (fun _ _ _ _ _ _ => rfl) (fun n _ _ _ _ _ _ => rfl) hf
theorem s_lp7 {A0 A1 A2 A3 A4 A5 A6 : Type} {F : (A0 → A1 → A2 → A3 → A4 → A5 → A6 → Option ρ) → A0 → A1 → A2 → A3 → A4 → A5 → A6 → Option ρ} {N : Nat} {a0 : A0} {a1 : A1} {a2 : A2} {a3 : A3} {a4 : A4} {a5 : A5} {a6 : A6} (hf : lp (fun _ _ _ _ _ _ _ => none) F N a0 a1 a2 a3 a4 a5 a6 = some r) {P : Prop} (k : ∀ G : Nat → A0 → A1 → A2 → A3 → A4 → A5 → A6 → Option ρ, (∀ (a0 : A0) (a1 : A1) (a2 : A2) (a3 : A3) (a4 : A4) (a5 : A5) (a6 : A6), G 0 a0 a1 a2 a3 a4 a5 a6 = none) → (∀ n (a0 : A0) (a1 : A1) (a2 : A2) (a3 : A3) (a4 : A4) (a5 : A5) (a6 : A6), G (n + 1) a0 a1 a2 a3 a4 a5 a6 = F (G n) a0 a1 a2 a3 a4 a5 a6) → G N a0 a1 a2 a3 a4 a5 a6 = some r → P) : P :=
  k (fun n => lp (fun _ _ _ _ _ _ _ => none) F n) (fun _ _ _ _ _ _ _ => rfl) (fun n _ _ _ _ _ _ _ => rfl) hf
theorem s_lp8 {A0 A1 A2 A3 A4 A5 A6 A7 : Type} {F : (A0 → A1 → A2 → A3 → A4 → A5 → A6 → A7 → Option ρ) → A0 → A1 → A2 → A3 → A4 → A5 → A6 → A7 → Option ρ} {N : Nat} {a0 : A0} {a1 : A1} {a2 : A2} {a3 : A3} {a4 : A4} {a5 : A5} {a6 : A6} {a7 : A7} (hf : lp (fun _ _ _ _ _ _ _ _ => none) F N a0 a1 a2 a3 a4 a5 a6 a7 = some r) {P : Prop} (k : ∀ G : Nat → A0 → A1 → A2 → A3 → A4 → A5 → A6 → A7 → Option ρ, (∀ (a0 : A0) (a1 : A1) (a2 : A2) (a3 : A3) (a4 : A4) (a5 : A5) (a6 : A6) (a7 : A7), G 0 a0 a1 a2 a3 a4 a5 a6 a7 = none) → (∀ n (a0 : A0) (a1 : A1) (a2 : A2) (a3 : A3) (a4 : A4) (a5 : A5) (a6 : A6) (a7 : A7), G (n + 1) a0 a1 a2 a3 a4 a5 a6 a7 = F (G n) a0 a1 a2 a3 a4 a5 a6 a7) → G N a0 a1 a2 a3 a4 a5 a6 a7 = some r → P) : P :=
  k (fun n => lp (fun _ _ _ _ _ _ _ _ => none) F n) (fun _ _ _ _ _ _ _ _ => rfl) (fun n _ _ _ _ _ _ _ _ => rfl) hf
theorem s_lp9 {A0 A1 A2 A3 A4 A5 A6 A7 A8 : Type} {F : (A0 → A1 → A2 → A3 → A4 → A5 → A6 → A7 → A8 → Option ρ) → A0 → A1 → A2 → A3 → A4 → A5 → A6 → A7 → A8 → Option ρ} {N : Nat} {a0 : A0} {a1 : A1} {a2 : A2} {a3 : A3} {a4 : A4} {a5 : A5} {a6 : A6} {a7 : A7} {a8 : A8} (hf : lp (fun _ _ _ _ _ _ _ _ _ => none) F N a0 a1 a2 a3 a4 a5 a6 a7 a8 = some r) {P : Prop} (k : ∀ G : Nat → A0 → A1 → A2 → A3 → A4 → A5 → A6 → A7 → A8 → Option ρ, (∀ (a0 : A0) (a1 : A1) (a2 : A2) (a3 : A3) (a4 : A4) (a5 : A5) (a6 : A6) (a7 : A7) (a8 : A8), G 0 a0 a1 a2 a3 a4 a5 a6 a7 a8 = none) → (∀ n (a0 : A0) (a1 : A1) (a2 : A2) (a3 : A3) (a4 : A4) (a5 : A5) (a6 : A6) (a7 : A7) (a8 : A8), G (n + 1) a0 a1 a2 a3 a4 a5 a6 a7 a8 = F (G n) a0 a1 a2 a3 a4 a5 a6 a7 a8) → G N a0 a1 a2 a3 a4 a5 a6 a7 a8 = some r → P) : P :=
  k (fun n => lp (fun _ _ _ _ _ _ _ _ _ => none) F n) (fun _ _ _ _ _ _ _ _ _ => rfl) (fun n _ _ _ _ _ _ _ _ _ => rfl) hf
theorem s_lp10 {A0 A1 A2 A3 A4 A5 A6 A7 A8 A9 : Type} {F : (A0 → A1 → A2 → A3 → A4 → A5 → A6 → A7 → A8 → A9 → Option ρ) → A0 → A1 → A2 → A3 → A4 → A5 → A6 → A7 → A8 → A9 → Option ρ} {N : Nat} {a0 : A0} {a1 : A1} {a2 : A2} {a3 : A3} {a4 : A4} {a5 : A5} {a6 : A6} {a7 : A7} {a8 : A8} {a9 : A9} (hf : lp (fun _ _ _ _ _ _ _ _ _ _ => none) F N a0 a1 a2 a3 a4 a5 a6 a7 a8 a9 = some r) {P : Prop} (k : ∀ G : Nat → A0 → A1 → A2 → A3 → A4 → A5 → A6 → A7 → A8 → A9 → Option ρ, (∀ (a0 : A0) (a1 : A1) (a2 : A2) (a3 : A3) (a4 : A4) (a5 : A5) (a6 : A6) (a7 : A7) (a8 : A8) (a9 : A9), G 0 a0 a1 a2 a3 a4 a5 a6 a7 a8 a9 = none) → (∀ n (a0 : A0) (a1 : A1) (a2 : A2) (a3 : A3) (a4 : A4) (a5 : A5) (a6 : A6) (a7 : A7) (a8 : A8) (a9 : A9), G (n + 1) a0 a1 a2 a3 a4 a5 a6 a7 a8 a9 = F (G n) a0 a1 a2 a3 a4 a5 a6 a7 a8 a9) → G N a0 a1 a2 a3 a4 a5 a6 a7 a8 a9 = some r → P) : P :=
  k (fun n => lp (fun _ _ _ _ _ _ _ _ _ _ => none) F n) (fun _ _ _ _ _ _ _ _ _ _ => rfl) (fun n _ _ _ _ _ _ _ _ _ _ => rfl) hf
theorem s_lp11 {A0 A1 A2 A3 A4 A5 A6 A7 A8 A9 A10 : Type} {F : (A0 → A1 → A2 → A3 → A4 → A5 → A6 → A7 → A8 → A9 → A10 → Option ρ) → A0 → A1 → A2 → A3 → A4 → A5 → A6 → A7 → A8 → A9 → A10 → Option ρ} {N : Nat} {a0 : A0} {a1 : A1} {a2 : A2} {a3 : A3} {a4 : A4} {a5 : A5} {a6 : A6} {a7 : A7} {a8 : A8} {a9 : A9} {a10 : A10} (hf : lp (fun _ _ _ _ _ _ _ _ _ _ _ => none) F N a0 a1 a2 a3 a4 a5 a6 a7 a8 a9 a10 = some r) {P : Prop} (k : ∀ G : Nat → A0 → A1 → A2 → A3 → A4 → A5 → A6 → A7 → A8 → A9 → A10 → Option ρ, (∀ (a0 : A0) (a1 : A1) (a2 : A2) (a3 : A3) (a4 : A4) (a5 : A5) (a6 : A6) (a7 : A7) (a8 : A8) (a9 : A9) (a10 : A10), G 0 a0 a1 a2 a3 a4 a5 a6 a7 a8 a9 a10 = none) → (∀ n (a0 : A0) (a1 : A1) (a2 : A2) (a3 : A3) (a4 : A4) (a5 : A5) (a6 : A6) (a7 : A7) (a8 : A8) (a9 : A9) (a10 : A10), G (n + 1) a0 a1 a2 a3 a4 a5 a6 a7 a8 a9 a10 = F (G n) a0 a1 a2 a3 a4 a5 a6 a7 a8 a9 a10) → G N a0 a1 a2 a3 a4 a5 a6 a7 a8 a9 a10 = some r → P) : P :=
  k (fun n => lp (fun _ _ _ _ _ _ _ _ _ _ _ => none) F n) (fun _ _ _ _ _ _ _ _ _ _ _ => rfl) (fun n _ _ _ _ _ _ _ _ _ _ _ => rfl) hf
theorem s_lp12 {A0 A1 A2 A3 A4 A5 A6 A7 A8 A9 A10 A11 : Type} {F : (A0 → A1 → A2 → A3 → A4 → A5 → A6 → A7 → A8 → A9 → A10 → A11 → Option ρ) → A0 → A1 → A2 → A3 → A4 → A5 → A6 → A7 → A8 → A9 → A10 → A11 → Option ρ} {N : Nat} {a0 : A0} {a1 : A1} {a2 : A2} {a3 : A3} {a4 : A4} {a5 : A5} {a6 : A6} {a7 : A7} {a8 : A8} {a9 : A9} {a10 : A10} {a11 : A11} (hf : lp (fun _ _ _ _ _ _ _ _ _ _ _ _ => none) F N a0 a1 a2 a3 a4 a5 a6 a7 a8 a9 a10 a11 = some r) {P : Prop} (k : ∀ G : Nat → A0 → A1 → A2 → A3 → A4 → A5 → A6 → A7 → A8 → A9 → A10 → A11 → Option ρ, (∀ (a0 : A0) (a1 : A1) (a2 : A2) (a3 : A3) (a4 : A4) (a5 : A5) (a6 : A6) (a7 : A7) (a8 : A8) (a9 : A9) (a10 : A10) (a11 : A11), G 0 a0 a1 a2 a3 a4 a5 a6 a7 a8 a9 a10 a11 = none) → (∀ n (a0 : A0) (a1 : A1) (a2 : A2) (a3 : A3) (a4 : A4) (a5 : A5) (a6 : A6) (a7 : A7) (a8 : A8) (a9 : A9) (a10 : A10) (a11 : A11), G (n + 1) a0 a1 a2 a3 a4 a5 a6 a7 a8 a9 a10 a11 = F (G n) a0 a1 a2 a3 a4 a5 a6 a7 a8 a9 a10 a11) → G N a0 a1 a2 a3 a4 a5 a6 a7 a8 a9 a10 a11 = some r → P) : P :=
  k (fun n => lp (fun _ _ _ _ _ _ _ _ _ _ _ _ => none) F n) (fun _ _ _ _ _ _ _ _ _ _ _ _ => rfl) (fun n _ _ _ _ _ _ _ _ _ _ _ _ => rfl) hf
end GLUE
