/-! NEW CELLS, CASTS, CONSTANTS -/
theorem vB_grow {b : Nat} {h : AH} {t n : Nat} (j i f : Nat) (e : j < (hS h).length) : vB b (grow h t n) j i f = vB b h j i f := by
  have e' : ¬ j = h.1.length := Nat.ne_of_lt e
  unfold vB
  split <;> simp [hI, hL, hR, grow, uR, e']
theorem vB_grow0 {b : Nat} {h : AH} {t n : Nat} (i f : Nat) : vB b (grow h t n) (hS h).length i f = match f with | 0 => .int 0 | 1 => .long 0 | _ => .null := by
  unfold vB
  split <;> simp [hI, hL, hR, grow, uR, hS, rB, va_rf]
theorem hS_grow {h : AH} {t n : Nat} : hS (grow h t n) = hS h ++ [(t, n)] := rfl
theorem dvXX : ∀ t, t < 13 → ∀ k, k < NXX t → defaultValue (tyXX t k) = (match fk (tyXX t k) with | 0 => Value.int 0 | 1 => .long 0 | _ => .null) := allX (by decide +kernel) (by decide +kernel) (by decide +kernel) (by decide +kernel) (by decide +kernel) (by decide +kernel) (by decide +kernel) (by decide +kernel) (by decide +kernel) (by decide +kernel) (by decide +kernel) (by decide +kernel) (by decide +kernel)
theorem LW.app {D : DT} {S : List (Nat × Nat)} {t n : Nat} (h : LW D S) (h28 : t < 28) : LW D (S ++ [(t, n)]) := by
  refine ⟨by rw [List.length_append]; have := h.1; omega, fun k q => ?_⟩
  rw [h.2 k q]
  by_cases e : k < S.length
  · rw [List.getElem?_append_left e]
  · rw [List.getElem?_eq_none (by omega), List.getElem?_append_right (by omega)]
    refine ⟨fun z => (by cases z.1), fun z => ?_⟩
    have hz : k - S.length < 1 := (List.getElem?_eq_some_iff.mp z.1).1
    have e0 : k - S.length = 0 := by omega
    rw [e0] at z
    have := z.1
    cases this
    exact absurd z.2 (by show ¬ 28 ≤ t; omega)
theorem RepH.grow {D : DT} {h : AH} {t n : Nat} {H H1 : Heap} (hR : RepH D h H) (z : H1.size = H.size + 1) (o : ∀ q, q < H.size → H1[q]? = H[q]?) (h28 : t < 28) (hc : atC D (grow h t n) (hS h).length (t, n) H1) : RepH D (grow h t n) H1 := by
  refine ⟨by rw [z, hR.1, hS_grow, List.length_append]; rfl, fun j p hj => ?_, by rw [hS_grow]; exact hR.2.2.app h28⟩
  rw [hS_grow] at hj
  by_cases hl : j < (hS h).length
  · rw [List.getElem?_append_left hl] at hj
    have h1 := hR.2.1 j p hj
    have hlt : D.1 + j < H.size := by rw [hR.1]; omega
    unfold atC at h1 ⊢
    split
    · rename_i ht
      rw [if_pos ht] at h1
      exact ⟨h1.1, (h1.2.kept (o _ hlt)).to (fun i _ => (vB_grow j i _ hl).symm)⟩
    · rename_i ht
      rw [if_neg ht] at h1
      rw [o _ hlt, h1]
      have : ac D.1 h p.1 j = ac D.1 (Jvm.Pilot.@@N@@.grow h t n) p.1 j := by funext i; exact (vB_grow j i _ hl).symm
      rw [this]
  · rw [List.getElem?_append_right (by omega)] at hj
    have hz : j - (hS h).length < 1 := (List.getElem?_eq_some_iff.mp hj).1
    have ej : j = (hS h).length := by omega
    subst ej
    rw [Nat.sub_self] at hj
    cases hj
    exact hc
theorem va_S.grown {b : Nat} {H0 H H1 : Heap} {locs : List Loc} (hS : va_S (fun q => b ≤ q) H0 H locs) (z : H1.size = H.size + 1) (o : ∀ q, q < H.size → H1[q]? = H[q]?) : va_S (fun q => b ≤ q) H0 H1 locs :=
  ⟨Nat.le_trans hS.1 (by omega), fun x h1 h2 => (o x (Nat.lt_of_lt_of_le h1 hS.1)).trans (hS.2.1 x h1 h2), hS.2.2⟩
section NEWS
variable {X : XT} {own : String} {cc : ByteArray} {nL pc cells slots : Nat} {h : AH} {lv lv' : List (Option Value)} {st : List Value} {ρ : Type} {r : ρ}
theorem s_new (C : CX X own cc nL) {idx t n : Nat} (ht : t < 13) (hoc : okC t) (hn : NXX t = n) (w1 : Cond.classLink own idx (RXX t) ∈ lw_big) (w2 : Cond.instantiable (RXX t) (NXX t) ∈ lw_big) (w3 : Cond.initialized (RXX t) ∈ lw_big) (d : decode cc pc = .ok (.new idx, 3)) {K : Option Nat → AH → Option ρ} (hf : nO h t n K = some r) (hc : cells + 1 ≤ (xR X).cells) (hs : slots + n ≤ (xR X).slots) (kk : ∀ v h', K v h' = some r → WW X h' (cells + 1) (slots + n) (pc + 3) lv (rB (xD X).1 v :: st)) : WW X h cells slots pc lv st := by
  subst hn
  intro H locs ls hR hS hl
  have hts := C.2.2.2.2.1
  obtain ⟨hSl, hfc, -⟩ := C.2.2.2.2.2.1.1 t ht hoc
  refine W.newcK C.1 C.2.1 C.2.2.2.1 (hts _ w1) (hts _ w2) (hts _ w3) rfl d hc hs hfc rfl fun H1 kC hkC e1 z1 o1 => ?_
  have hb := u_born (tyXX t) hts (inXX t ht) (C.2.2.2.2.2.1.1 t ht hoc) hkC e1 (tyXX_ok t ht)
  have e : H.size = (xD X).1 + (Jvm.Pilot.@@N@@.hS h).length := hR.1
  rw [e] at hb
  have hat : atC (xD X) (grow h t (NXX t)) (Jvm.Pilot.@@N@@.hS h).length (t, NXX t) H1 := by
    unfold atC
    rw [if_pos ht]
    refine ⟨hoc, ?_⟩
    exact hb.to (fun k hk => by rw [dvXX t ht k hk]; exact (vB_grow0 k _).symm)
  have := kk _ _ hf H1 locs ls (hR.grow z1 o1 (by omega) hat) (hS.grown z1 o1) hl
  rw [e]
  exact this
theorem ac_grow0 {b : Nat} {h : AH} {t n : Nat} (hd : defaultValue (aty t) = (match fk (aty t) with | 0 => Value.int 0 | 1 => .long 0 | _ => .null)) : ac b (grow h t n) t (hS h).length = fun _ => defaultValue (aty t) := by
  funext i
  rw [hd]
  exact vB_grow0 i _
theorem s_newarray (C : CX X own cc nL) {t N : Nat} {atype : ArrayType} {x : Int32} (hty : newarray.typeOf atype = aty t) (ht : 20 ≤ t ∧ t < 25) (w1 : Cond.arrayClass (aty t) ∈ lw_big) (d : decode cc pc = .ok (.newarray atype, 2)) (hx : ¬ x < 0) (hN : x.toNatClampNeg = N) (hbytes : N * componentBytes (aty t) ≤ 536870912) {K : Option Nat → AH → Option ρ} (hf : nO h t N K = some r) (hc : cells + 1 ≤ (xR X).cells) (hs : slots + N ≤ (xR X).slots) (kk : ∀ v h', K v h' = some r → WW X h' (cells + 1) (slots + N) (pc + 2) lv (rB (xD X).1 v :: st)) : WW X h cells slots pc lv (.int x :: st) := by
  subst hN
  intro H locs ls hR hS hl
  have hts := C.2.2.2.2.1
  refine W.newa C.1 C.2.1 (by rw [hty]; exact hts _ w1) rfl d rfl hx (by rw [hty]; exact hbytes) hc hs fun cA kA comp h1 h2 h3 => ?_
  rw [hty] at h1 h3 ⊢
  have hra := (C.2.2.2.2.2.1.2.1 t (by omega) (by omega)).2
  have ecA : cA = (xD X).2.2.2.1 t := by
    have h5 : t = 20 ∨ t = 21 ∨ t = 22 ∨ t = 23 ∨ t = 24 := by omega
    have hra' : (xs X).vm.findClass ("[" ++ (aty t).toString) = some ((xD X).2.2.2.1 t) := by
      rcases h5 with rfl | rfl | rfl | rfl | rfl <;> exact hra
    exact Option.some.inj (h1.symm.trans hra')
  subst ecA
  generalize hH1 : H.push ({ cls := (xD X).2.2.2.1 t, slots := Array.replicate x.toNatClampNeg (defaultValue (aty t)), vm := .none } : Cell) = H1
  have z1 : H1.size = H.size + 1 := by rw [← hH1, Array.size_push]
  have e1 : H1[H.size]? = some (arrV ((xD X).2.2.2.1 t) x.toNatClampNeg (fun _ => defaultValue (aty t))) := by rw [← hH1, Array.getElem?_push_size, ← arrV_new]
  have o1 : ∀ q : Nat, q < H.size → H1[q]? = H[q]? := fun q hq => by rw [← hH1, Array.getElem?_push, if_neg (Nat.ne_of_lt hq)]
  have e : H.size = (xD X).1 + (Jvm.Pilot.@@N@@.hS h).length := hR.1
  have hat : atC (xD X) (grow h t x.toNatClampNeg) (Jvm.Pilot.@@N@@.hS h).length (t, x.toNatClampNeg) H1 := by
    unfold atC
    rw [if_neg (by show ¬ t < 13; omega), if_pos (by show t < 28; omega), ac_grow0 (by have h5 : t = 20 ∨ t = 21 ∨ t = 22 ∨ t = 23 ∨ t = 24 := (by omega); rcases h5 with rfl | rfl | rfl | rfl | rfl <;> rfl), ← e]
    exact e1
  have := kk _ _ hf H1 locs ls (hR.grow z1 o1 (by omega) hat) (hS.grown z1 o1) hl
  rw [e]
  exact this
theorem s_anewarray (C : CX X own cc nL) {t N idx : Nat} {Cn : String} {x : Int32} (hty : aty t = .object Cn) (ht : 25 ≤ t ∧ t < 28) (w1 : Cond.classLink own idx Cn ∈ lw_big) (w2 : va_AO Cn (xs X)) (d : decode cc pc = .ok (.anewarray idx, 3)) (hx : ¬ x < 0) (hN : x.toNatClampNeg = N) (hbytes : N * 4 ≤ 536870912) {K : Option Nat → AH → Option ρ} (hf : nO h t N K = some r) (hc : cells + 1 ≤ (xR X).cells) (hs : slots + N ≤ (xR X).slots) (kk : ∀ v h', K v h' = some r → WW X h' (cells + 1) (slots + N) (pc + 3) lv (rB (xD X).1 v :: st)) : WW X h cells slots pc lv (.int x :: st) := by
  subst hN
  intro H locs ls hR hS hl
  have hts := C.2.2.2.2.1
  refine W.anew C.1 C.2.1 C.2.2.2.1 (hts _ w1) (va_AO.use w2) rfl d rfl hx hbytes hc hs fun cA kA comp h1 h2 h3 h4 => ?_
  have hra := (C.2.2.2.2.2.1.2.1 t (by omega) (by omega)).2
  rw [hty] at hra
  obtain ⟨_, _, _, _, _, hra'⟩ := hra
  have ecA : cA = (xD X).2.2.2.1 t := Option.some.inj (h1.symm.trans hra')
  subst ecA
  generalize hH1 : H.push ({ cls := (xD X).2.2.2.1 t, slots := Array.replicate x.toNatClampNeg .null, vm := .none } : Cell) = H1
  have z1 : H1.size = H.size + 1 := by rw [← hH1, Array.size_push]
  have e1 : H1[H.size]? = some (arrV ((xD X).2.2.2.1 t) x.toNatClampNeg (fun _ => .null)) := by rw [← hH1, Array.getElem?_push_size, ← arrV_new]
  have o1 : ∀ q : Nat, q < H.size → H1[q]? = H[q]? := fun q hq => by rw [← hH1, Array.getElem?_push, if_neg (Nat.ne_of_lt hq)]
  have e : H.size = (xD X).1 + (Jvm.Pilot.@@N@@.hS h).length := hR.1
  have hat : atC (xD X) (grow h t x.toNatClampNeg) (Jvm.Pilot.@@N@@.hS h).length (t, x.toNatClampNeg) H1 := by
    unfold atC
    rw [if_neg (by show ¬ t < 13; omega), if_pos (by show t < 28; omega), ac_grow0 (by rw [hty]; rfl), ← e, hty]
    exact e1
  have := kk _ _ hf H1 locs ls (hR.grow z1 o1 (by omega) hat) (hS.grown z1 o1) hl
  rw [e]
  exact this
/-- which classes' objects an array of references may hold -/
def elX (t : Nat) : List Nat := match t with | 25 => [0, 1, 2, 9] | 26 => [1] | _ => [7]
theorem obj_at {D : DT} {h : AH} {H : Heap} {a t n : Nat} (hR : RepH D h H) (hq : (hS h)[a]? = some (t, n)) (h13 : t < 13) : okC t ∧ ∃ cell : Cell, H[D.1 + a]? = some cell ∧ cell.cls = D.2.1 t ∧ cell.vm = .none := by
  obtain ⟨hoc, cell, q1, q2, q3, -⟩ := (hR.2.1 a _ hq).ob h13
  exact ⟨hoc, cell, q1, q2, q3⟩
theorem s_aastore (C : CX X own cc nL) {t : Nat} (ht : 25 ≤ t ∧ t < 28) (hcast : ∀ q ∈ [1, 2], va_Nw (.castable (RXX q) (RXX 0)) (xs X)) (d : decode cc pc = .ok (.aastore, 1)) {r0 v : Option Nat} {i : Int32} {K : AH → Option ρ} (hf : bR h t (elX t) r0 i v K = some r) (kk : ∀ h', K h' = some r → WW X h' cells slots (pc + 1) lv st) : WW X h cells slots pc lv (rB (xD X).1 v :: .int i :: rB (xD X).1 r0 :: st) := by
  unfold bR at hf
  split at hf
  · rename_i e
    obtain ⟨a, n, rfl, hq, hin⟩ := okA_spec e.1
    obtain ⟨b, tv, nv, rfl, hqv, htv⟩ := okT_spec e.2
    have h3 : t = 25 ∨ t = 26 ∨ t = 27 := by omega
    have htv13 : tv < 13 := by
      rcases h3 with rfl | rfl | rfl <;> simp [elX] at htv <;> omega
    intro H locs ls hR hS hl
    obtain ⟨hoc, cv, g1, g2, g3⟩ := obj_at hR hqv htv13
    obtain ⟨tc, htc, hatc⟩ : ∃ tc, tc < 13 ∧ aty t = .object (RXX tc) ∧ ((tv = tc ∧ okC tc) ∨ (tc = 0 ∧ tv ∈ [1, 2])) := by
      rcases h3 with rfl | rfl | rfl
      · refine ⟨0, by decide, rfl, ?_⟩
        simp [elX] at htv
        rcases htv with rfl | rfl | rfl | rfl
        · exact absurd rfl hoc.1
        · exact Or.inr ⟨rfl, by decide⟩
        · exact Or.inr ⟨rfl, by decide⟩
        · exact absurd rfl hoc.2.1
      · simp [elX] at htv
        exact ⟨1, by decide, rfl, Or.inl ⟨htv, by decide⟩⟩
      · simp [elX] at htv
        exact ⟨7, by decide, rfl, Or.inl ⟨htv, by decide⟩⟩
    have hra := (C.2.2.2.2.2.1.2.1 t (by omega) (by omega)).2
    rw [hatc.1] at hra
    obtain ⟨kA, comp, k1, k2, k3, -⟩ := hra
    have hcv := (C.2.2.2.2.2.1.1 tv htv13 hoc).2
    obtain ⟨kV, hkV, -⟩ := hcv.2
    obtain ⟨hkC, hasg⟩ : (∃ kC, (xs X).vm.classes[comp]? = some kC) ∧ (xs X).vm.assignable ((xD X).2.1 tv) comp = true := by
      rcases hatc.2 with ⟨e, e2⟩ | ⟨e, e2⟩
      · subst e
        have ecomp : comp = (xD X).2.1 tv := Option.some.inj (k3.symm.trans hcv.1)
        subst ecomp
        exact ⟨⟨kV, hkV⟩, va_assign hcv⟩
      · subst e
        have ecomp : comp = (xD X).2.1 0 := Option.some.inj (k3.symm.trans C.2.2.2.2.2.1.2.2.1)
        subst ecomp
        have hz := hcast tv e2
        obtain ⟨c, t2, f1, f2, f3⟩ := Cond.castable_spec hz
        cases hcv.1.symm.trans f1
        cases C.2.2.2.2.2.1.2.2.1.symm.trans f2
        exact ⟨C.2.2.2.2.2.1.2.2.2, f3⟩
    obtain ⟨kC, hkC⟩ := hkC
    refine W.aast C.1 C.2.1 (a := (xD X).1 + a) (v := (xD X).1 + b) ((hR.2.1 a _ hq).ar (by omega) (by omega)) (fun q h => by cases h) (fun h => by cases h) k1 k2 rfl hkC ⟨fun q => hin (Or.inl q), by rw [arrV_size]; exact Nat.not_le.mp fun q => hin (Or.inr q)⟩ g1 (fun q h => by rw [g3] at h; cases h) (by rw [g2]; exact hkV) (by rw [g2]; exact hasg) rfl rfl d fun H1 e1 e2 e3 => ?_
    refine kk _ hf H1 _ ls (hR.put (h' := wR h a i.toNatClampNeg (some b)) rfl hq e2 e3 (atC.upd (by omega) (by omega) e1 (fun j hj => vB_wR2 j _ hj) ?_) vB_wR1) (hS.putD e2 e3) hl
    show vB _ _ _ _ (fk (aty t)) = _
    rw [hatc.1]
    exact vB_wR3
  · cases hf
theorem s_instof (C : CX X own cc nL) {idx t : Nat} (ht : t ∈ [1, 2, 9]) (w1 : Cond.classLink own idx (RXX t) ∈ lw_big) (d : decode cc pc = .ok (.instanceof idx, 3)) {r0 : Option Nat} {K : Int32 → Option ρ} (hf : iO h [t] r0 K = some r) (kk : ∀ v, K v = some r → WW X h cells slots (pc + 3) lv (.int v :: st)) : WW X h cells slots pc lv (rB (xD X).1 r0 :: st) := by
  intro H locs ls hR hS hl
  unfold iO at hf
  split at hf
  · rename_i e
    subst e
    exact lv_instN C.1 C.2.1 d (kk _ hf H locs ls hR hS hl)
  · split at hf
    · rename_i e
      obtain ⟨a, t', n, rfl, hq, ht'⟩ := okT_spec e
      have : t' = t := by simpa using ht'
      subst this
      have h13 : t' < 13 := by simp at ht; omega
      obtain ⟨hoc, cv, g1, g2, g3⟩ := obj_at hR hq h13
      have hc := (C.2.2.2.2.2.1.1 t' h13 hoc).2
      exact va_instS C.1 C.2.1 C.2.2.2.1 (C.2.2.2.2.1 _ w1) hc ⟨cv, g1, by rw [g3]; rfl, by rw [g2]; exact hc.1⟩ d (kk _ hf H locs ls hR hS hl)
    · rename_i hne
      split at hf
      · rename_i e
        obtain ⟨a, t', n, rfl, hq, ht'⟩ := okT_spec e
        have hnt : t' ≠ t := by
          intro q
          subst q
          apply hne
          simp [okT, hq]
        have h13 : t' < 13 := by simp at ht'; omega
        obtain ⟨hoc, cv, g1, g2, g3⟩ := obj_at hR hq h13
        have hc := (C.2.2.2.2.2.1.1 t' h13 hoc).2
        exact va_instNo C.1 C.2.1 C.2.2.2.1 (C.2.2.2.2.1 _ w1) (C.2.2.2.2.2.2.1.2.1 t' (by have h1 := hoc.1; have h2 := hoc.2.1; simp at ht' ⊢; omega) t ht hnt) ⟨cv, g1, by rw [g3]; rfl, by rw [g2]; exact hc.1⟩ d (kk _ hf H locs ls hR hS hl)
      · cases hf
theorem s_cast (C : CX X own cc nL) {idx t : Nat} (h13 : t < 13) (w1 : Cond.classLink own idx (RXX t) ∈ lw_big) (d : decode cc pc = .ok (.checkcast idx, 3)) {r0 : Option Nat} {K : Option ρ} (hf : cO h [t] r0 K = some r) (kk : K = some r → WW X h cells slots (pc + 3) lv (rB (xD X).1 r0 :: st)) : WW X h cells slots pc lv (rB (xD X).1 r0 :: st) := by
  intro H locs ls hR hS hl
  unfold cO at hf
  split at hf
  · rename_i e
    cases r0 with
    | none => exact lv_castN C.1 C.2.1 d (kk hf H locs ls hR hS hl)
    | some b =>
      rcases e with e | e
      · cases e
      obtain ⟨a, t', n, h1, hq, ht'⟩ := okT_spec e
      cases h1
      have : t' = t := by simpa using ht'
      subst this
      obtain ⟨hoc, cv, g1, g2, g3⟩ := obj_at hR hq h13
      have hc := (C.2.2.2.2.2.1.1 t' h13 hoc).2
      exact va_castS C.1 C.2.1 C.2.2.2.1 (C.2.2.2.2.1 _ w1) hc ⟨cv, g1, by rw [g3]; rfl, by rw [g2]; exact hc.1⟩ d (kk hf H locs ls hR hS hl)
  · cases hf
end NEWS
