/-! THE PURE PART. wp o Q: o answers, and Q holds of its answer and heap -/
def wp {α : Type} (o : Option (α × AH)) (Q : α → AH → Prop) : Prop := ∃ x, o = some x ∧ Q x.1 x.2
theorem lpN_eq : lpN = 1000000 := opq_eq _
theorem wp_some {α : Type} {v : α} {h : AH} {Q : α → AH → Prop} : wp (some (v, h)) Q ↔ Q v h := ⟨fun ⟨x, e, q⟩ => (by cases e; exact q), fun q => ⟨_, rfl, q⟩⟩
theorem wp_none {α : Type} {Q : α → AH → Prop} : wp (none : Option (α × AH)) Q ↔ False := ⟨fun ⟨x, e, _⟩ => (by cases e), fun h => h.elim⟩
theorem wp_ite {α : Type} {c : Prop} {d : Decidable c} {A B : Option (α × AH)} {Q : α → AH → Prop} : wp (if c then A else B) Q ↔ (c → wp A Q) ∧ (¬ c → wp B Q) := by
  by_cases h : c
  · simp [h]
  · simp [h]
theorem wp_mono {α : Type} {o : Option (α × AH)} {P Q : α → AH → Prop} (h : wp o P) (k : ∀ v h', P v h' → Q v h') : wp o Q := by
  obtain ⟨x, e, q⟩ := h
  exact ⟨x, e, k _ _ q⟩
theorem wp_cl {α β : Type} {o : Option (α × AH)} {K : α → AH → Option (β × AH)} {Q : β → AH → Prop} : wp (cl o K) Q ↔ wp o (fun v h => wp (K v h) Q) := by
  unfold cl
  cases o with
  | none => exact ⟨fun ⟨x, e, _⟩ => (by cases e), fun ⟨x, e, _⟩ => (by cases e)⟩
  | some x => exact ⟨fun h => ⟨x, rfl, h⟩, fun ⟨y, e, h⟩ => by cases e; exact h⟩
theorem wp_gd {α : Type} {c : Prop} {d : Decidable c} {A : Option (α × AH)} {Q : α → AH → Prop} : wp (if c then A else none) Q ↔ c ∧ wp A Q := by
  by_cases h : c
  · simp [h]
  · simp [h, wp_none]
theorem wp_rz {v : Int32} {h : AH} {Q : Int32 → AH → Prop} : wp (rz v h) Q ↔ (v = 0 ∨ v = 1) ∧ Q v h := by
  exact wp_gd.trans (and_congr_right fun _ => wp_some)
theorem wp_nz {α : Type} {y : Int32} {K : Option (α × AH)} {Q : α → AH → Prop} : wp (nz y K) Q ↔ y ≠ 0 ∧ wp K Q := by
  unfold nz
  by_cases e : y = 0
  · simp [e, wp_none]
  · simp [e]
theorem wp_nzL {α : Type} {y : Int64} {K : Option (α × AH)} {Q : α → AH → Prop} : wp (nzL y K) Q ↔ y ≠ 0 ∧ wp K Q := by
  unfold nzL
  by_cases e : y = 0
  · simp [e, wp_none]
  · simp [e]
theorem wp_fI {α : Type} {h : AH} {cs : List Nat} {r : Option Nat} {k : Nat} {K : Int32 → Option (α × AH)} {Q : α → AH → Prop} : wp (fI h cs r k K) Q ↔ okT h cs r = true ∧ wp (K (gI h r k)) Q := wp_gd
theorem wp_fL {α : Type} {h : AH} {cs : List Nat} {r : Option Nat} {k : Nat} {K : Int64 → Option (α × AH)} {Q : α → AH → Prop} : wp (fL h cs r k K) Q ↔ okT h cs r = true ∧ wp (K (gL h r k)) Q := wp_gd
theorem wp_fR {α : Type} {h : AH} {cs : List Nat} {r : Option Nat} {k : Nat} {K : Option Nat → Option (α × AH)} {Q : α → AH → Prop} : wp (fR h cs r k K) Q ↔ okT h cs r = true ∧ wp (K (gR h r k)) Q := wp_gd
theorem wp_pI {α : Type} {h : AH} {cs : List Nat} {r : Option Nat} {k : Nat} {v : Int32} {K : AH → Option (α × AH)} {Q : α → AH → Prop} : wp (pI h cs r k v K) Q ↔ okT h cs r = true ∧ wp (K (sI h r k v)) Q := wp_gd
theorem wp_pL {α : Type} {h : AH} {cs : List Nat} {r : Option Nat} {k : Nat} {v : Int64} {K : AH → Option (α × AH)} {Q : α → AH → Prop} : wp (pL h cs r k v K) Q ↔ okT h cs r = true ∧ wp (K (sL h r k v)) Q := wp_gd
theorem wp_pR {α : Type} {h : AH} {cs : List Nat} {r : Option Nat} {k : Nat} {v : Option Nat} {K : AH → Option (α × AH)} {Q : α → AH → Prop} : wp (pR h cs r k v K) Q ↔ okT h cs r = true ∧ wp (K (sR h r k v)) Q := wp_gd
theorem wp_pZ {α : Type} {h : AH} {cs : List Nat} {r : Option Nat} {k : Nat} {v : Int32} {K : AH → Option (α × AH)} {Q : α → AH → Prop} : wp (pZ h cs r k v K) Q ↔ (okT h cs r = true ∧ (v = 0 ∨ v = 1)) ∧ wp (K (sI h r k v)) Q := wp_gd
theorem wp_aI {α : Type} {h : AH} {t : Nat} {r : Option Nat} {i : Int32} {K : Int32 → Option (α × AH)} {Q : α → AH → Prop} : wp (aI h t r i K) Q ↔ okA h t r i = true ∧ wp (K (gI h r i.toNatClampNeg)) Q := wp_gd
theorem wp_aL {α : Type} {h : AH} {t : Nat} {r : Option Nat} {i : Int32} {K : Int64 → Option (α × AH)} {Q : α → AH → Prop} : wp (aL h t r i K) Q ↔ okA h t r i = true ∧ wp (K (gL h r i.toNatClampNeg)) Q := wp_gd
theorem wp_aR {α : Type} {h : AH} {t : Nat} {r : Option Nat} {i : Int32} {K : Option Nat → Option (α × AH)} {Q : α → AH → Prop} : wp (aR h t r i K) Q ↔ okA h t r i = true ∧ wp (K (gR h r i.toNatClampNeg)) Q := wp_gd
theorem wp_bI {α : Type} {h : AH} {t : Nat} {r : Option Nat} {i : Int32} {v : Int32} {K : AH → Option (α × AH)} {Q : α → AH → Prop} : wp (bI h t r i v K) Q ↔ okA h t r i = true ∧ wp (K (sI h r i.toNatClampNeg v)) Q := wp_gd
theorem wp_bL {α : Type} {h : AH} {t : Nat} {r : Option Nat} {i : Int32} {v : Int64} {K : AH → Option (α × AH)} {Q : α → AH → Prop} : wp (bL h t r i v K) Q ↔ okA h t r i = true ∧ wp (K (sL h r i.toNatClampNeg v)) Q := wp_gd
theorem wp_bR {α : Type} {h : AH} {t : Nat} {cs : List Nat} {r : Option Nat} {i : Int32} {v : Option Nat} {K : AH → Option (α × AH)} {Q : α → AH → Prop} : wp (bR h t cs r i v K) Q ↔ (okA h t r i = true ∧ okT h cs v = true) ∧ wp (K (sR h r i.toNatClampNeg v)) Q := wp_gd
theorem wp_rO {α : Type} {h : AH} {cs : List Nat} {r : Option Nat} {K : Option (α × AH)} {Q : α → AH → Prop} : wp (rO h cs r K) Q ↔ okT h cs r = true ∧ wp K Q := wp_gd
theorem wp_cO {α : Type} {h : AH} {cs : List Nat} {r : Option Nat} {K : Option (α × AH)} {Q : α → AH → Prop} : wp (cO h cs r K) Q ↔ (r = none ∨ okT h cs r = true) ∧ wp K Q := wp_gd
theorem wp_nO {α : Type} {h : AH} {t n : Nat} {K : Option Nat → AH → Option (α × AH)} {Q : α → AH → Prop} : wp (nO h t n K) Q ↔ wp (K (some (hS h).length) (grow h t n)) Q := Iff.rfl
theorem wp_iO {α : Type} {h : AH} {cs : List Nat} {r : Option Nat} {K : Int32 → Option (α × AH)} {Q : α → AH → Prop} : wp (iO h cs r K) Q ↔ (r = none → wp (K 0) Q) ∧ (r ≠ none → (okT h cs r = true → wp (K 1) Q) ∧ (¬ okT h cs r = true → okT h [0, 1, 2, 9] r = true ∧ wp (K 0) Q)) := by
  unfold iO
  rw [wp_ite, wp_ite, wp_gd]
theorem wp_aN {α : Type} {h : AH} {t a n : Nat} {K : Int32 → Option (α × AH)} {Q : α → AH → Prop} (e : (hS h)[a]? = some (t, n)) : wp (aN h t (some a) K) Q ↔ wp (K (nI n)) Q := by
  simp [aN, e]
theorem wp_tbI {α : Type} {tb : List Int32} {i : Int32} {K : Int32 → Option (α × AH)} {Q : α → AH → Prop} : wp (tbI tb i K) Q ↔ ¬ (i < 0 ∨ tb.length ≤ i.toNatClampNeg) ∧ wp (K (tb.getD i.toNatClampNeg 0)) Q := by
  unfold tbI
  rw [wp_ite, wp_none]
  exact ⟨fun ⟨a, b⟩ => ⟨a, b a⟩, fun ⟨a, b⟩ => ⟨a, fun _ => b⟩⟩
theorem wp_tbL {α : Type} {tb : List Int64} {i : Int32} {K : Int64 → Option (α × AH)} {Q : α → AH → Prop} : wp (tbL tb i K) Q ↔ ¬ (i < 0 ∨ tb.length ≤ i.toNatClampNeg) ∧ wp (K (tb.getD i.toNatClampNeg 0)) Q := by
  unfold tbL
  rw [wp_ite, wp_none]
  exact ⟨fun ⟨a, b⟩ => ⟨a, b a⟩, fun ⟨a, b⟩ => ⟨a, fun _ => b⟩⟩
theorem wp_jn {α β : Type} {b : β} {K : β → Option (α × AH)} {Q : α → AH → Prop} : wp (jn b K) Q ↔ wp (K b) Q := Iff.rfl
/-- a join that isn't opened: what is needed of it, once -/
theorem wp_jnP {α β : Type} {b : β} {K : β → Option (α × AH)} {Q : α → AH → Prop} (P : β → Prop) (h1 : P b) (h2 : ∀ j, P j → wp (K j) Q) : wp (jn b K) Q := h2 b h1
-- reading behind writing
theorem q_okT (h : AH) (cs : List Nat) (a : Nat) : okT h cs (some a) = (match (hS h)[a]? with | none => false | some q => cs.contains q.1) := id rfl
theorem q_okA (h : AH) (t a : Nat) (i : Int32) : okA h t (some a) i = (match (hS h)[a]? with | none => false | some q => q.1 == t && !(decide (i < 0) || decide (q.2 ≤ i.toNatClampNeg))) := id rfl
theorem q_gI (h : AH) (a k : Nat) : gI h (some a) k = hI h a k := id rfl
theorem q_gL (h : AH) (a k : Nat) : gL h (some a) k = hL h a k := id rfl
theorem q_gR (h : AH) (a k : Nat) : gR h (some a) k = hR h a k := id rfl
theorem q_sI (h : AH) (a k : Nat) (v : Int32) : sI h (some a) k v = wI h a k v := id rfl
theorem q_sL (h : AH) (a k : Nat) (v : Int64) : sL h (some a) k v = wL h a k v := id rfl
theorem q_sR (h : AH) (a k : Nat) (v : Option Nat) : sR h (some a) k v = wR h a k v := id rfl
theorem q_SI (h : AH) (a k : Nat) (v : Int32) : hS (wI h a k v) = hS h := id rfl
theorem q_II (h : AH) (a k : Nat) (v : Int32) (b j : Nat) : hI (wI h a k v) b j = if b = a ∧ j = k then v else hI h b j := rfl
theorem q_LI (h : AH) (a k : Nat) (v : Int32) : hL (wI h a k v) = hL h := rfl
theorem q_RI (h : AH) (a k : Nat) (v : Int32) : hR (wI h a k v) = hR h := rfl
theorem q_SL (h : AH) (a k : Nat) (v : Int64) : hS (wL h a k v) = hS h := id rfl
theorem q_IL (h : AH) (a k : Nat) (v : Int64) : hI (wL h a k v) = hI h := rfl
theorem q_LL (h : AH) (a k : Nat) (v : Int64) (b j : Nat) : hL (wL h a k v) b j = if b = a ∧ j = k then v else hL h b j := rfl
theorem q_RL (h : AH) (a k : Nat) (v : Int64) : hR (wL h a k v) = hR h := rfl
theorem q_SR (h : AH) (a k : Nat) (v : Option Nat) : hS (wR h a k v) = hS h := id rfl
theorem q_IR (h : AH) (a k : Nat) (v : Option Nat) : hI (wR h a k v) = hI h := rfl
theorem q_LR (h : AH) (a k : Nat) (v : Option Nat) : hL (wR h a k v) = hL h := rfl
theorem q_RR (h : AH) (a k : Nat) (v : Option Nat) (b j : Nat) : hR (wR h a k v) b j = if b = a ∧ j = k then v else hR h b j := rfl
/-- all of a row from a place to one before another is one number -/
def fillI (h : AH) (a n : Nat) (v : Int32) : AH := (h.1, fun b j => if b = a ∧ j < n then v else h.2.1 b j, h.2.2.1, h.2.2.2)
theorem q_SfI (h : AH) (a n : Nat) (v : Int32) : hS (fillI h a n v) = hS h := id rfl
theorem fillI_0 (h : AH) (a : Nat) (v : Int32) : fillI h a 0 v = h := by simp [fillI]
theorem fillI_s (h : AH) (a n : Nat) (v : Int32) : wI (fillI h a n v) a n v = fillI h a (n + 1) v := by
  unfold wI fillI u2
  simp only [Prod.mk.injEq, true_and, and_true]
  funext b j
  by_cases h1 : b = a ∧ j = n
  · rw [if_pos h1, if_pos ⟨h1.1, by omega⟩]
  · rw [if_neg h1]
    by_cases h2 : b = a ∧ j < n
    · rw [if_pos h2, if_pos ⟨h2.1, by omega⟩]
    · rw [if_neg h2, if_neg (fun q => (Nat.lt_succ_iff_lt_or_eq.mp q.2).elim (fun z => h2 ⟨q.1, z⟩) (fun z => h1 ⟨q.1, z⟩))]
