/-! rule: what is laid is as the rules' answers ask of a text -/
/-- from a depth d + a to d + b, if there is room -/
def gd (n a b : Nat) (r : Prs) : Prop := ∀ j c, r = .ok (j, c) → (∀ e ∈ c, insOk e) ∧ ∀ d rest, d + n ≤ 40 → chk (d + a) (c ++ rest) = chk (d + b) rest
theorem gd.le {n m a b : Nat} {r : Prs} (g : gd n a b r) (h : n ≤ m) : gd m a b r := fun j c e => ⟨(g j c e).1, fun d rest hd => (g j c e).2 d rest (by omega)⟩
theorem gd.up {n a b : Nat} {r : Prs} (g : gd n a b r) : gd (n + 1) (a + 1) (b + 1) r := fun j c e => ⟨(g j c e).1, fun d rest hd => by
  have := (g j c e).2 (d + 1) rest (by omega)
  rw [show d + (a + 1) = d + 1 + a by omega, show d + (b + 1) = d + 1 + b by omega]
  exact this⟩
theorem gd_err {n a b i : Nat} : gd n a b (.error i) := fun j c e => by cases e
theorem gd_nil {n a i : Nat} : gd n a a (.ok (i, [])) := fun j c e => by
  cases e
  exact ⟨fun e he => (List.not_mem_nil he).elim, fun d rest _ => rfl⟩
theorem gd_bd {n a b k : Nat} {r : Prs} {F : Nat → Prs} (g : gd n a b r) (f : ∀ i, gd n b k (F i)) : gd n a k (pbd r F) := by
  intro j c e
  cases r with
  | error p => cases e
  | ok x =>
    obtain ⟨i, c1⟩ := x
    rw [pbd_ok] at e
    cases q : F i with
    | error p => rw [q] at e; cases e
    | ok y =>
      obtain ⟨j2, c2⟩ := y
      rw [q] at e
      cases e
      obtain ⟨g1, g2⟩ := g i c1 rfl
      obtain ⟨f1, f2⟩ := f i j c2 q
      refine ⟨fun e he => (List.mem_append.mp he).elim (g1 e) (f1 e), fun d rest hd => ?_⟩
      rw [List.append_assoc, g2 d _ hd, f2 d rest hd]
theorem gd_two {n i k : Nat} (h1 : 2 ≤ k) (h2 : k < 12) : gd n 2 1 (pLay (k, 0) i) := by
  intro j c e
  cases e
  refine ⟨fun e he => ?_, fun d rest hd => ?_⟩
  · rw [List.mem_singleton.mp he]
    exact ⟨by show k ≤ 13; omega, fun h => absurd h (by show ¬ k = 0; omega), fun h => absurd h (by show ¬ k = 1; omega)⟩
  · show (if k < 2 then _ else if 12 ≤ k then _ else if 2 ≤ d + 2 then chk (d + 2 - 1) rest else none) = _
    rw [if_neg (by omega), if_neg (by omega), if_pos (by omega)]; rfl
theorem gd_one {n i k : Nat} (h1 : 12 ≤ k) (h2 : k ≤ 13) : gd n 1 1 (pLay (k, 0) i) := by
  intro j c e
  cases e
  refine ⟨fun e he => ?_, fun d rest hd => ?_⟩
  · rw [List.mem_singleton.mp he]
    exact ⟨h2, fun h => absurd h (by show ¬ k = 0; omega), fun h => absurd h (by show ¬ k = 1; omega)⟩
  · show (if k < 2 then _ else if 12 ≤ k then (if 1 ≤ d + 1 then chk (d + 1) rest else none) else _) = _
    rw [if_neg (by omega), if_pos (by omega), if_pos (by omega)]
theorem gd_many {S : Nat → Int32} {op : Int32 → Option Ins} {X : Nat → Prs} {n : Nat} (ho : ∀ t e, op t = some e → 2 ≤ e.1 ∧ e.1 < 12 ∧ e.2 = 0) (g : ∀ i, gd n 0 1 (X i)) : ∀ f i, gd (n + 1) 1 1 (pMany S op X f i) := by
  intro f
  induction f with
  | zero => intro i; exact gd_nil
  | succ f ih =>
    intro i
    cases h : op (S i) with
    | none => rw [pMany_none h]; exact gd_nil
    | some e =>
      rw [pMany_some h]
      obtain ⟨h1, h2, h3⟩ := ho _ _ h
      obtain ⟨e1, e2⟩ := e
      have h3 : e2 = 0 := h3
      subst h3
      refine gd_bd (b := 1) (gd_bd (b := 2) (gd_bd (b := 1) ?_ (fun i => (g i).up)) (fun i => gd_two h1 h2)) ih
      exact gd_nil
theorem gd_loop {S : Nat → Int32} {op : Int32 → Option Ins} {X : Nat → Prs} {n f : Nat} (ho : ∀ t e, op t = some e → 2 ≤ e.1 ∧ e.1 < 12 ∧ e.2 = 0) (g : ∀ i, gd n 0 1 (X i)) (i : Nat) : gd (n + 1) 0 1 (pbd (X i) (pMany S op X f)) := gd_bd ((g i).le (by omega)) (gd_many ho g f)
theorem opP_b : ∀ t e, opP t = some e → 2 ≤ e.1 ∧ e.1 < 12 ∧ e.2 = 0 := by
  intro t e h
  unfold opP at h
  split at h
  · cases h; decide
  · split at h
    · cases h; decide
    · split at h
      · cases h; decide
      · cases h
theorem opS_b : ∀ t e, opS t = some e → 2 ≤ e.1 ∧ e.1 < 12 ∧ e.2 = 0 := by
  intro t e h
  unfold opS at h
  split at h
  · cases h; decide
  · split at h
    · cases h; decide
    · cases h
theorem opC_b : ∀ t e, opC t = some e → 2 ≤ e.1 ∧ e.1 < 12 ∧ e.2 = 0 := by
  intro t e h
  unfold opC at h
  split at h
  · cases h; decide
  · split at h
    · cases h; decide
    · split at h
      · cases h; decide
      · cases h
theorem opA_b : ∀ t e, opA t = some e → 2 ≤ e.1 ∧ e.1 < 12 ∧ e.2 = 0 := by
  intro t e h
  unfold opA at h
  split at h
  · cases h; decide
  · cases h
theorem opO_b : ∀ t e, opO t = some e → 2 ≤ e.1 ∧ e.1 < 12 ∧ e.2 = 0 := by
  intro t e h
  unfold opO at h
  split at h
  · cases h; decide
  · cases h
section
variable {S : Nat → Int32} {V : Nat → Ins}
theorem gd_exp {n a i : Nat} {sg : Int32} : gd n a a (pExp S sg i) := by
  unfold pExp
  split
  · exact gd_nil
  · exact gd_err
theorem gd_pOne (hV : ∀ i, S i = 2 ∨ S i = 3 → (V i).1 < 2 ∧ insOk (V i)) {E : Nat → Nat → Prs} {n : Nat} (hn : 1 ≤ n) (g : ∀ r i, gd n 0 1 (E r i)) : ∀ r i, gd n 0 1 (pOne S V E r i) := by
  have num : ∀ i, S i = 2 ∨ S i = 3 → gd n 0 1 (.ok (i + 1, [V i])) := by
    intro i h j c e
    cases e
    obtain ⟨h1, h2⟩ := hV i h
    refine ⟨fun e he => by rw [List.mem_singleton.mp he]; exact h2, fun d rest hd => ?_⟩
    show (if (V i).1 < 2 then (if d + 0 < 40 then chk (d + 0 + 1) rest else none) else _) = _
    rw [if_pos h1, if_pos (by omega)]
  intro r
  induction r with
  | zero =>
    intro i
    show gd n 0 1 (if S i = 2 ∨ S i = 3 then _ else _)
    split
    · next h => exact num i h
    · exact gd_err
  | succ r ih =>
    intro i
    show gd n 0 1 (if S i = 45 then _ else if S i = 2 ∨ S i = 3 then _ else if S i = 40 then _ else _)
    split
    · exact gd_bd (b := 1) (gd_bd (b := 0) gd_nil (fun i => ih i)) (fun i => gd_one (by omega) (by omega))
    · split
      · next h => exact num i h
      · split
        · exact gd_bd (b := 1) (gd_bd (b := 0) gd_nil (fun i => g r i)) (fun i => gd_exp)
        · exact gd_err
theorem gd_pDen {E : Nat → Nat → Prs} {n : Nat} (g : ∀ r i, gd n 0 1 (pCmp S V E r i)) : ∀ r i, gd n 0 1 (pDen S V E r i) := by
  intro r
  induction r with
  | zero =>
    intro i
    show gd n 0 1 (if S i = 313 then _ else _)
    split
    · exact gd_err
    · exact g 0 i
  | succ r ih =>
    intro i
    show gd n 0 1 (if S i = 313 then _ else _)
    split
    · exact gd_bd (b := 1) (gd_bd (b := 0) gd_nil (fun i => ih i)) (fun i => gd_one (by omega) (by omega))
    · exact g (r + 1) i
theorem gd_pEi (hV : ∀ i, S i = 2 ∨ S i = 3 → (V i).1 < 2 ∧ insOk (V i)) : ∀ k r i, gd (5 * k + 1) 0 1 (pEi S V k r i) := by
  intro k
  induction k with
  | zero => intro r i; exact gd_err
  | succ k ih =>
    have one := gd_pOne hV (n := 5 * k + 1) (by omega) ih
    have prod : ∀ r i, gd (5 * k + 2) 0 1 (pProd S V (pEi S V k) r i) := fun r i => gd_loop opP_b (one r) i
    have sum : ∀ r i, gd (5 * k + 3) 0 1 (pSum S V (pEi S V k) r i) := fun r i => gd_loop opS_b (prod r) i
    have cmp : ∀ r i, gd (5 * k + 4) 0 1 (pCmp S V (pEi S V k) r i) := fun r i => gd_loop opC_b (sum r) i
    have both : ∀ r i, gd (5 * k + 5) 0 1 (pBoth S V (pEi S V k) r i) := fun r i => gd_loop opA_b (gd_pDen cmp r) i
    intro r i
    exact gd_loop opO_b (both r) i
end
/-- the number of up to five digits -/
theorem valN_n {w : AH} {b : Nat} : ∀ n, n ≤ 5 → (∀ i, i < n → isDig (byN w (b + i)) = true) → ∃ v : Nat, v < 10 ^ n ∧ valN w b n = nI v := by
  intro n
  induction n with
  | zero => intro _ _; exact ⟨0, by decide, rfl⟩
  | succ n ih =>
    intro hn h
    obtain ⟨v, hv, e⟩ := ih (by omega) (fun i hi => h i (by omega))
    have d := h n (by omega)
    unfold isDig at d
    have d := of_decide_eq_true d
    refine ⟨10 * v + (byN w (b + n) - 48), by rw [Nat.pow_succ]; omega, ?_⟩
    show 10 * valN w b n + nI (byN w (b + n)) - 48 = _
    rw [e, show (10 : Int32) = nI 10 from rfl, show (48 : Int32) = nI 48 from rfl, nI_mul, nI_add, nI_sub (by omega)]
    congr 1; omega
theorem tokV_ok {w : AH} (F : WF1 w) (Y : WBy w) (i : Nat) (h : tokS w i = 2 ∨ tokS w i = 3) : (tokV w i).1 < 2 ∧ insOk (tokV w i) := by
  have lt := (lenT_eq F).1
  have p2 := (pos_le (w := w) i).2
  by_cases c : tokS w i = 2
  · have eV : tokV w i = (0, tkVal w (plc w i)) := by unfold tokV; rw [if_pos c]
    have d : plc w i < lenT w ∧ isLet (byN w (plc w i)) = false ∧ isDig (byN w (plc w i)) = true := by
      rcases tok_cases F Y p2 with ⟨k, hk, e1, -, e2, -⟩ | ⟨e1, -, e2⟩ | ⟨e1, e2, d⟩ | ⟨e1, e2⟩ | ⟨q, hq, e1, e2⟩ | ⟨e1, e2⟩
      · exfalso
        have : ∀ k : Nat, k < 16 → (if k < 11 then (3 : Int32) else nI (300 + k)) ≠ 2 := by decide +kernel
        exact this k hk (e2.symm.trans c)
      · exact absurd (e2.symm.trans c) (by decide)
      · exact d
      · exact absurd (e2.symm.trans c) (by decide)
      · exact absurd (e2.symm.trans c) (sign_tok hq).1
      · exact absurd (e2.symm.trans c) (by decide)
    have g5 : runTo (digQ w) 160 (plc w i) ≤ plc w i + 5 := by
      by_cases q : runTo (digQ w) 160 (plc w i) ≤ plc w i + 5
      · exact q
      · exfalso
        have : tokS w i = 1 := by
          unfold tokS tkSort
          rw [if_pos d.1, if_neg (by rw [d.2.1]; decide), if_pos d.2.2, if_neg q]
        rw [this] at c
        exact absurd c (by decide)
    have ev : tkVal w (plc w i) = valN w (plc w i) (runTo (digQ w) 160 (plc w i) - plc w i) := by
      unfold tkVal m5
      rw [if_neg (by rw [d.2.1]; decide), if_pos (by omega)]
    obtain ⟨v, hv, e⟩ := valN_n (w := w) (b := plc w i) (runTo (digQ w) 160 (plc w i) - plc w i) (by omega) (fun k hk => by
      have := runTo_q (q := digQ w) 160 (plc w i) (plc w i + k) (by omega) (by omega)
      unfold digQ at this
      exact (Bool.and_eq_true_iff.mp this).2)
    have hv5 : v < 100000 := Nat.lt_of_lt_of_le hv (Nat.le_trans (Nat.pow_le_pow_right (by omega) (show runTo (digQ w) 160 (plc w i) - plc w i ≤ 5 by omega)) (by decide))
    rw [eV]
    refine ⟨(show (0 : Nat) < 2 by omega), (show (0 : Nat) ≤ 13 by omega), fun _ => ?_, fun q => absurd q (show ¬ (0 : Nat) = 1 by omega)⟩
    show 0 ≤ tkVal w (plc w i) ∧ tkVal w (plc w i) ≤ 99999
    rw [ev, e]
    exact ⟨nI_pos' (by omega), by rw [show (99999 : Int32) = nI 99999 from rfl, nI_leI (by omega) (by omega)]; omega⟩
  · have c3 : tokS w i = 3 := h.resolve_left c
    have eV : tokV w i = (1, -1 - tkVal w (plc w i)) := by unfold tokV; rw [if_neg c]
    rcases kd_name F Y p2 with ⟨a1, a2, a3, k, hk, a4⟩ | ⟨a1, a2⟩
    · rw [eV]
      refine ⟨(show (1 : Nat) < 2 by omega), (show (1 : Nat) ≤ 13 by omega), fun q => absurd q (show ¬ (1 : Nat) = 0 by omega), fun _ => ?_⟩
      show 0 ≤ -1 - tkVal w (plc w i) ∧ -1 - tkVal w (plc w i) ≤ 10
      rw [← a2, a4]
      exact ⟨nI_pos' (by omega), by rw [show (10 : Int32) = nI 10 from rfl, nI_leI (by omega) (by omega)]; omega⟩
    · exact absurd c3 a1
theorem ei_ok {w : AH} (F : WF1 w) (Y : WBy w) {i j : Nat} {c : List Ins} (h : pEi (tokS w) (tokV w) 7 6 i = .ok (j, c)) : chk 0 c = some 1 ∧ ∀ e ∈ c, insOk e := by
  obtain ⟨g1, g2⟩ := gd_pEi (S := tokS w) (V := tokV w) (tokV_ok F Y) 7 6 i j c h
  have := g2 0 [] (by omega)
  rw [List.append_nil] at this
  exact ⟨this, g1⟩
theorem tkL_ok {w : AH} (F : WF1 w) (Y : WBy w) {i j : Nat} {l : Line} (h : tkL w i = .ok (j, l)) : lineOk l := by
  unfold tkL pLn at h
  split at h
  · next hc =>
    cases e1 : pEi (tokS w) (tokV w) 7 6 (i + 1) with
    | error p => rw [e1] at h; cases h
    | ok x =>
      obtain ⟨j1, a⟩ := x
      rw [e1] at h
      simp only at h
      split at h
      · cases e2 : pEi (tokS w) (tokV w) 7 6 (j1 + 1) with
        | error p => rw [e2] at h; cases h
        | ok y =>
          obtain ⟨j2, b⟩ := y
          rw [e2] at h
          cases h
          obtain ⟨a1, a2⟩ := ei_ok F Y e1
          obtain ⟨b1, b2⟩ := ei_ok F Y e2
          refine ⟨?_, fun q => ?_, fun _ => a1, b1, a2, b2⟩
          · show (if tokS w i = 314 then 1 else 2) ≤ 2
            split <;> omega
          · have q : (if tokS w i = 314 then 1 else 2) = 0 := q
            split at q <;> omega
      · cases h
  · cases e1 : pEi (tokS w) (tokV w) 7 6 i with
    | error p => rw [e1] at h; cases h
    | ok x =>
      obtain ⟨j1, b⟩ := x
      rw [e1] at h
      cases h
      obtain ⟨b1, b2⟩ := ei_ok F Y e1
      exact ⟨by show 0 ≤ 2; omega, fun _ => rfl, fun q => absurd rfl q, b1, fun e he => (by cases he), b2⟩
theorem lineOk_len {l : Line} (h : lineOk l) : 1 ≤ (l.2.1 ++ l.2.2).length := by
  have := h.2.2.2.1
  rw [List.length_append]
  cases e : l.2.2 with
  | nil => rw [e] at this; cases this
  | cons x y => simp; omega
theorem flatP_ge : ∀ (q : Prog), (∀ l ∈ q, lineOk l) → q.length ≤ (flatP q).length := by
  intro q
  induction q with
  | nil => intro _; exact Nat.le_refl _
  | cons l q ih =>
    intro h
    have h1 := ih (fun x hx => h x (List.mem_cons_of_mem _ hx))
    have h2 := lineOk_len (h l List.mem_cons_self)
    unfold flatP at *
    rw [List.flatMap_cons, List.length_append, List.length_cons]
    omega
theorem pMo_ok {w : AH} (F : WF1 w) (Y : WBy w) : ∀ f i j q, pMo (tokS w) (tkL w) f i = .ok (j, q) → ∀ l ∈ q, lineOk l := by
  intro f
  induction f with
  | zero =>
    intro i j q h l hl
    cases h; cases hl
  | succ f ih =>
    intro i j q h l hl
    have h : (if tokS w i = 59 then
      match tkL w (i + 1) with
      | .error p => .error p
      | .ok (j, l) => match pMo (tokS w) (tkL w) f j with
        | .error p => .error p
        | .ok (k, q) => .ok (k, l :: q)
    else .ok (i, []) : PrP) = .ok (j, q) := h
    split at h
    · cases e1 : tkL w (i + 1) with
      | error p => rw [e1] at h; cases h
      | ok x =>
        obtain ⟨j1, l1⟩ := x
        rw [e1] at h
        simp only at h
        cases e2 : pMo (tokS w) (tkL w) f j1 with
        | error p => rw [e2] at h; cases h
        | ok y =>
          obtain ⟨j2, q2⟩ := y
          rw [e2] at h
          cases h
          rcases List.mem_cons.mp hl with rfl | hl
          · exact tkL_ok F Y e1
          · exact ih _ _ _ e2 l hl
    · cases h; cases hl
theorem tkT_ok {w : AH} (F : WF1 w) (Y : WBy w) {j : Nat} {q : Prog} (h : tkT w = .ok (j, q)) : ∀ l ∈ q, lineOk l := by
  unfold tkT pTx at h
  cases e1 : tkL w 0 with
  | error p => rw [e1] at h; cases h
  | ok x =>
    obtain ⟨j1, l1⟩ := x
    rw [e1] at h
    simp only at h
    cases e2 : pMo (tokS w) (tkL w) 160 j1 with
    | error p => rw [e2] at h; cases h
    | ok y =>
      obtain ⟨j2, q2⟩ := y
      rw [e2] at h
      simp only at h
      split at h
      · cases h
        intro l hl
        rcases List.mem_cons.mp hl with rfl | hl
        · exact tkL_ok F Y e1
        · exact pMo_ok F Y _ _ _ _ e2 l hl
      · cases h
theorem WG.rule {w : AH} {P : Nat → Prog} (G : WG w P) (F : WF1 w) (Y : WBy w) {j : Nat} {q : Prog} (h : tkT w = .ok (j, q)) {w1 : AH} (e : nT w1 ≤ nT w + 1) : WG w1 (ruleP w P q) := by
  intro t ht l hl
  unfold ruleP at hl
  by_cases c : t = nT w
  · rw [if_pos c] at hl
    exact tkT_ok F Y h l hl
  · rw [if_neg c] at hl
    exact G t (by omega) l hl
