/-! THE THREE TEXTS: what the tape's bytes alone decide, and what they are -/
section
variable {w u : AH}
theorem g_blankQ (hb : byN w = byN u) (hl : lenT w = lenT u) : blankQ w = blankQ u := by funext i; unfold blankQ; rw [hb, hl]
theorem g_digQ (hb : byN w = byN u) (hl : lenT w = lenT u) : digQ w = digQ u := by funext i; unfold digQ; rw [hb, hl]
theorem g_letQ (hb : byN w = byN u) (hl : lenT w = lenT u) : letQ w = letQ u := by funext i; unfold letQ; rw [hb, hl]
theorem g_valN (hb : byN w = byN u) : valN w = valN u := by funext b n; unfold valN; rw [hb]
theorem g_wEq (hb : byN w = byN u) : wEq w = wEq u := by funext s b n; unfold wEq; rw [hb]
theorem g_mAt (hb : byN w = byN u) : mAt w = mAt u := by funext b n j; unfold mAt; rw [g_wEq hb]
theorem g_wordNo (hb : byN w = byN u) : wordNo w = wordNo u := by funext b n; unfold wordNo; rw [g_mAt hb]
theorem g_tkSort (hb : byN w = byN u) (hl : lenT w = lenT u) : tkSort w = tkSort u := by funext b; unfold tkSort; rw [hb, hl, g_wordNo hb, g_letQ hb hl, g_digQ hb hl]
theorem g_tkVal (hb : byN w = byN u) (hl : lenT w = lenT u) : tkVal w = tkVal u := by funext b; unfold tkVal; rw [hb, g_wordNo hb, g_letQ hb hl, g_digQ hb hl, g_valN hb]
theorem g_tkEnd (hb : byN w = byN u) (hl : lenT w = lenT u) : tkEnd w = tkEnd u := by funext b; unfold tkEnd; rw [hb, hl, g_letQ hb hl, g_digQ hb hl]
theorem g_pos (hb : byN w = byN u) (hl : lenT w = lenT u) : pos w = pos u := by
  funext i
  induction i with
  | zero => rfl
  | succ i ih => unfold pos; rw [ih, g_tkEnd hb hl, g_blankQ hb hl]
theorem g_plc (hb : byN w = byN u) (hl : lenT w = lenT u) : plc w = plc u := by funext i; unfold plc; rw [g_pos hb hl, g_blankQ hb hl]
theorem g_tokS (hb : byN w = byN u) (hl : lenT w = lenT u) : tokS w = tokS u := by funext i; unfold tokS; rw [g_plc hb hl, g_tkSort hb hl]
theorem g_tokV (hb : byN w = byN u) (hl : lenT w = lenT u) : tokV w = tokV u := by funext i; unfold tokV; rw [g_tokS hb hl, g_plc hb hl, g_tkVal hb hl]
theorem g_tkL (hb : byN w = byN u) (hl : lenT w = lenT u) : tkL w = tkL u := by funext i; unfold tkL; rw [g_tokS hb hl, g_tokV hb hl]
theorem g_tkT (hb : byN w = byN u) (hl : lenT w = lenT u) : tkT w = tkT u := by unfold tkT; rw [g_tokS hb hl, g_tkL hb hl]
end
theorem vv_g {L K : Nat → Int32} {i : Nat} : ∀ {m : Nat}, (∀ j, i ≤ j → j < i + m → L j = K j) → vv L i m = vv K i m
  | 0, _ => rfl
  | m + 1, h => by
    show vv L i m ||| _ = vv K i m ||| _
    rw [vv_g (fun j h1 h2 => h j h1 (by omega)), h (i + m) (by omega) (by omega)]
theorem tpL_g {L K : Nat → Int32} {n j : Nat} (h : ∀ j, j < n → L j = K j) (hj : j < n) : tpL L n j = tpL K n j := by
  unfold tpL
  rw [vv_g (K := K) (fun x h1 h2 => h x (by omega))]
/-- a world with that text on the tape alone -/
def wc (l : List Int32) : AH := ([], (fun a k => if a = 68 then (if k < l.length then tpL (fun i => l.getD i 0) l.length k else 0) else if k = 25 then nI l.length else 0), (fun _ _ => 0), (fun _ _ => none))
theorem wc_tkT {w w' : AH} {l : List Int32} {L : Nat → Int32} (T : TP w w' L l.length l.length) (hL : ∀ j, j < l.length → L j = l.getD j 0) (h0 : ∀ j, l.length ≤ j → hI w 68 j = 0) (hn : l.length ≤ 160) : tkT w' = tkT (wc l) := by
  refine g_tkT (funext fun j => ?_) ?_
  · unfold byN
    have e : hI (wc l) 68 j = if j < l.length then tpL (fun i => l.getD i 0) l.length j else 0 := rfl
    rw [e]
    by_cases c : j < l.length
    · rw [if_pos c, T.2.2.2.1 j c, tpL_g hL c]
    · rw [if_neg c, T.2.2.2.2 j (by omega), h0 j (by omega)]
  · unfold lenT
    rw [T.2.2.1]
    rfl
def okP (w : AH) (q : Prog) : Bool := match tkT w with
  | .ok (_, p) => decide (p = q)
  | .error _ => false
theorem okP_spec {w : AH} {q : Prog} (h : okP w q = true) : ∃ j, tkT w = .ok (j, q) := by
  unfold okP at h
  cases e : tkT w with
  | error p => rw [e] at h; cases h
  | ok x =>
    rw [e] at h
    obtain ⟨j, p⟩ := x
    have : p = q := of_decide_eq_true h
    exact ⟨j, by rw [this]⟩
def tx1 (k : Nat) : List Int32 := [48 + nI k]
def tx2 : List Int32 := [107, 105, 110, 100, 61, 49, 32, 111, 114, 32, 104, 111, 109, 101, 60, 52]
def tx3 : List Int32 := [117, 110, 108, 101, 115, 115, 32, 111, 119, 110, 60, 51, 58, 48, 59, 49]
def pg1 (k : Nat) : Prog := [(0, [], [(0, nI k)])]
def pg2 : Prog := [(0, [], [(1, 1), (0, 1), (5, 0), (1, 8), (0, 4), (4, 0), (2, 0)])]
def pg3 : Prog := [(2, [(1, 2), (0, 3), (4, 0)], [(0, 0)]), (0, [], [(0, 1)])]
set_option maxRecDepth 100000 in
theorem ok1 : ∀ k, k < 8 → okP (wc (tx1 k)) (pg1 k) = true := by decide +kernel
set_option maxRecDepth 100000 in
theorem ok2 : okP (wc tx2) pg2 = true := by decide +kernel
set_option maxRecDepth 100000 in
theorem ok3 : okP (wc tx3) pg3 = true := by decide +kernel
def lineB (l : Line) : Bool := decide (l.1 ≤ 2) && (decide (l.1 = 0 → l.2.1 = [])) && decide (l.1 ≠ 0 → chk 0 l.2.1 = some 1) && decide (chk 0 l.2.2 = some 1) && l.2.1.all (fun i => decide (i.1 ≤ 13 ∧ (i.1 = 0 → 0 ≤ i.2 ∧ i.2 ≤ 99999) ∧ (i.1 = 1 → 0 ≤ i.2 ∧ i.2 ≤ 10))) && l.2.2.all (fun i => decide (i.1 ≤ 13 ∧ (i.1 = 0 → 0 ≤ i.2 ∧ i.2 ≤ 99999) ∧ (i.1 = 1 → 0 ≤ i.2 ∧ i.2 ≤ 10)))
theorem lineB_ok {l : Line} (h : lineB l = true) : lineOk l := by
  unfold lineB at h
  simp only [Bool.and_eq_true, decide_eq_true_eq, List.all_eq_true] at h
  obtain ⟨⟨⟨⟨⟨h1, h2⟩, h3⟩, h4⟩, h5⟩, h6⟩ := h
  exact ⟨h1, h2, h3, h4, h5, h6⟩
theorem pgB_ok {q : Prog} (h : q.all lineB = true) : ∀ l ∈ q, lineOk l := fun l hl => lineB_ok (List.all_eq_true.mp h l hl)
theorem lk1 : ∀ k, k < 8 → (pg1 k).all lineB = true := by decide +kernel
theorem lk2 : pg2.all lineB = true := by decide +kernel
theorem lk3 : pg3.all lineB = true := by decide +kernel
theorem WG.add {w w1 : AH} {P : Nat → Prog} (G : WG w P) {q : Prog} (hq : ∀ l ∈ q, lineOk l) (e : nT w1 ≤ nT w + 1) : WG w1 (ruleP w P q) := by
  intro t ht l hl
  unfold ruleP at hl
  by_cases c : t = nT w
  · rw [if_pos c] at hl
    exact hq l hl
  · rw [if_neg c] at hl
    exact G t (by omega) l hl
theorem rule_ok {h w : AH} {P : Nat → Prog} {ad : Nat → Nat} (R : RC h w P ad) (G : WF w P) {q : Prog} {j : Nat} (e : tkT w = .ok (j, q)) (hq : q.all lineB = true) (ht : nT w < 20) {use : Int32} (hu : isUse_ use = true) : wp (f_X11_rule (some 0) use 0 h) (fun r h' => r = nI (nT w) ∧ SM h h' ∧ RC h' (ruleW w use 0) (ruleP w P q) ad ∧ WF (ruleW w use 0) (ruleP w P q)) := by
  have es : s_rule w P use 0 = (nI (nT w), ruleW w use 0, ruleP w P q) := by
    unfold s_rule
    rw [if_pos ⟨hu, by decide, by decide⟩, if_neg (by omega), e]
  have eT : nT (ruleW w use 0) = nT w + 1 := by
    show (hI (ruleW w use 0) 49 33).toNatClampNeg = _
    rw [show hI (ruleW w use 0) 49 33 = nI (nT w + 1) from q_at, nI_clamp (by omega)]
  have kp := kp_rule G use 0 (fun j' q' e' => by
    rw [e] at e'
    cases e'
    exact G.WG.add (pgB_ok hq) (by omega))
  refine wp_mono (c_rule R G.WN G.WF1 G.WBy use 0) ?_
  rintro r h' ⟨rfl, R', s⟩
  rw [es] at kp R' ⊢
  exact ⟨rfl, s, R', kp⟩
