/-! THE PURE PART. wp o Q: o answers, and Q holds of its answer and heap -/
def wp {α : Type} (o : Option (α × AH)) (Q : α → AH → Prop) : Prop := ∃ x, o = some x ∧ Q x.1 x.2
theorem lpN_eq : lpN = 1000000 := opq_eq _
theorem wp_some {α : Type} {v : α} {h : AH} {Q : α → AH → Prop} : wp (some (v, h)) Q ↔ Q v h := ⟨fun ⟨x, e, q⟩ => (by cases e; exact q), fun q => ⟨_, rfl, q⟩⟩
theorem wp_none {α : Type} {Q : α → AH → Prop} : wp (none : Option (α × AH)) Q ↔ False := ⟨fun ⟨x, e, _⟩ => (by cases e), fun h => h.elim⟩
theorem wp_ite {α : Type} {c : Prop} {d : Decidable c} {A B : Option (α × AH)} {Q : α → AH → Prop} : wp (if c then A else B) Q ↔ (c → wp A Q) ∧ (¬ c → wp B Q) := by
  by_cases h : c
  · simp [h]
  · simp [h]
theorem wp_mono {α : Type} {o : Option (α × AH)} {P Q : α → AH → Prop} (h : wp o P) (k : ∀ v h', P v h' → Q v h') : wp o Q := by
  obtain ⟨x, e, q⟩ := h
  exact ⟨x, e, k _ _ q⟩
theorem wp_cl {α β : Type} {o : Option (α × AH)} {K : α → AH → Option (β × AH)} {Q : β → AH → Prop} : wp (cl o K) Q ↔ wp o (fun v h => wp (K v h) Q) := by
  unfold cl
  cases o with
  | none => exact ⟨fun ⟨x, e, _⟩ => (by cases e), fun ⟨x, e, _⟩ => (by cases e)⟩
  | some x => exact ⟨fun h => ⟨x, rfl, h⟩, fun ⟨y, e, h⟩ => by cases e; exact h⟩
theorem wp_gd {α : Type} {c : Prop} {d : Decidable c} {A : Option (α × AH)} {Q : α → AH → Prop} : wp (if c then A else none) Q ↔ c ∧ wp A Q := by
  by_cases h : c
  · simp [h]
  · simp [h, wp_none]
theorem wp_rz {v : Int32} {h : AH} {Q : Int32 → AH → Prop} : wp (rz v h) Q ↔ (v = 0 ∨ v = 1) ∧ Q v h := by
  exact wp_gd.trans (and_congr_right fun _ => wp_some)
theorem wp_nz {α : Type} {y : Int32} {K : Option (α × AH)} {Q : α → AH → Prop} : wp (nz y K) Q ↔ y ≠ 0 ∧ wp K Q := by
  unfold nz
  by_cases e : y = 0
  · simp [e, wp_none]
  · simp [e]
theorem wp_nzL {α : Type} {y : Int64} {K : Option (α × AH)} {Q : α → AH → Prop} : wp (nzL y K) Q ↔ y ≠ 0 ∧ wp K Q := by
  unfold nzL
  by_cases e : y = 0
  · simp [e, wp_none]
  · simp [e]
theorem wp_fI {α : Type} {h : AH} {cs : List Nat} {r : Option Nat} {k : Nat} {K : Int32 → Option (α × AH)} {Q : α → AH → Prop} : wp (fI h cs r k K) Q ↔ okT h cs r = true ∧ wp (K (gI h r k)) Q := wp_gd
theorem wp_fL {α : Type} {h : AH} {cs : List Nat} {r : Option Nat} {k : Nat} {K : Int64 → Option (α × AH)} {Q : α → AH → Prop} : wp (fL h cs r k K) Q ↔ okT h cs r = true ∧ wp (K (gL h r k)) Q := wp_gd
theorem wp_fR {α : Type} {h : AH} {cs : List Nat} {r : Option Nat} {k : Nat} {K : Option Nat → Option (α × AH)} {Q : α → AH → Prop} : wp (fR h cs r k K) Q ↔ okT h cs r = true ∧ wp (K (gR h r k)) Q := wp_gd
theorem wp_pI {α : Type} {h : AH} {cs : List Nat} {r : Option Nat} {k : Nat} {v : Int32} {K : AH → Option (α × AH)} {Q : α → AH → Prop} : wp (pI h cs r k v K) Q ↔ okT h cs r = true ∧ wp (K (sI h r k v)) Q := wp_gd
theorem wp_pL {α : Type} {h : AH} {cs : List Nat} {r : Option Nat} {k : Nat} {v : Int64} {K : AH → Option (α × AH)} {Q : α → AH → Prop} : wp (pL h cs r k v K) Q ↔ okT h cs r = true ∧ wp (K (sL h r k v)) Q := wp_gd
theorem wp_pR {α : Type} {h : AH} {cs : List Nat} {r : Option Nat} {k : Nat} {v : Option Nat} {K : AH → Option (α × AH)} {Q : α → AH → Prop} : wp (pR h cs r k v K) Q ↔ okT h cs r = true ∧ wp (K (sR h r k v)) Q := wp_gd
theorem wp_pZ {α : Type} {h : AH} {cs : List Nat} {r : Option Nat} {k : Nat} {v : Int32} {K : AH → Option (α × AH)} {Q : α → AH → Prop} : wp (pZ h cs r k v K) Q ↔ (okT h cs r = true ∧ (v = 0 ∨ v = 1)) ∧ wp (K (sI h r k v)) Q := wp_gd
theorem wp_aI {α : Type} {h : AH} {t : Nat} {r : Option Nat} {i : Int32} {K : Int32 → Option (α × AH)} {Q : α → AH → Prop} : wp (aI h t r i K) Q ↔ okA h t r i = true ∧ wp (K (gI h r i.toNatClampNeg)) Q := wp_gd
theorem wp_aL {α : Type} {h : AH} {t : Nat} {r : Option Nat} {i : Int32} {K : Int64 → Option (α × AH)} {Q : α → AH → Prop} : wp (aL h t r i K) Q ↔ okA h t r i = true ∧ wp (K (gL h r i.toNatClampNeg)) Q := wp_gd
theorem wp_aR {α : Type} {h : AH} {t : Nat} {r : Option Nat} {i : Int32} {K : Option Nat → Option (α × AH)} {Q : α → AH → Prop} : wp (aR h t r i K) Q ↔ okA h t r i = true ∧ wp (K (gR h r i.toNatClampNeg)) Q := wp_gd
theorem wp_bI {α : Type} {h : AH} {t : Nat} {r : Option Nat} {i : Int32} {v : Int32} {K : AH → Option (α × AH)} {Q : α → AH → Prop} : wp (bI h t r i v K) Q ↔ okA h t r i = true ∧ wp (K (sI h r i.toNatClampNeg v)) Q := wp_gd
theorem wp_bL {α : Type} {h : AH} {t : Nat} {r : Option Nat} {i : Int32} {v : Int64} {K : AH → Option (α × AH)} {Q : α → AH → Prop} : wp (bL h t r i v K) Q ↔ okA h t r i = true ∧ wp (K (sL h r i.toNatClampNeg v)) Q := wp_gd
theorem wp_bR {α : Type} {h : AH} {t : Nat} {cs : List Nat} {r : Option Nat} {i : Int32} {v : Option Nat} {K : AH → Option (α × AH)} {Q : α → AH → Prop} : wp (bR h t cs r i v K) Q ↔ (okA h t r i = true ∧ okT h cs v = true) ∧ wp (K (sR h r i.toNatClampNeg v)) Q := wp_gd
theorem wp_rO {α : Type} {h : AH} {cs : List Nat} {r : Option Nat} {K : Option (α × AH)} {Q : α → AH → Prop} : wp (rO h cs r K) Q ↔ okT h cs r = true ∧ wp K Q := wp_gd
theorem wp_cO {α : Type} {h : AH} {cs : List Nat} {r : Option Nat} {K : Option (α × AH)} {Q : α → AH → Prop} : wp (cO h cs r K) Q ↔ (r = none ∨ okT h cs r = true) ∧ wp K Q := wp_gd
theorem wp_nO {α : Type} {h : AH} {t n : Nat} {K : Option Nat → AH → Option (α × AH)} {Q : α → AH → Prop} : wp (nO h t n K) Q ↔ wp (K (some (hS h).length) (grow h t n)) Q := Iff.rfl
theorem wp_iO {α : Type} {h : AH} {cs : List Nat} {r : Option Nat} {K : Int32 → Option (α × AH)} {Q : α → AH → Prop} : wp (iO h cs r K) Q ↔ (r = none → wp (K 0) Q) ∧ (r ≠ none → (okT h cs r = true → wp (K 1) Q) ∧ (¬ okT h cs r = true → okT h [0, 1, 2, 9] r = true ∧ wp (K 0) Q)) := by
  unfold iO
  rw [wp_ite, wp_ite, wp_gd]
theorem wp_aN {α : Type} {h : AH} {t a n : Nat} {K : Int32 → Option (α × AH)} {Q : α → AH → Prop} (e : (hS h)[a]? = some (t, n)) : wp (aN h t (some a) K) Q ↔ wp (K (nI n)) Q := by
  simp [aN, e]
theorem wp_tbI {α : Type} {tb : List Int32} {i : Int32} {K : Int32 → Option (α × AH)} {Q : α → AH → Prop} : wp (tbI tb i K) Q ↔ ¬ (i < 0 ∨ tb.length ≤ i.toNatClampNeg) ∧ wp (K (tb.getD i.toNatClampNeg 0)) Q := by
  unfold tbI
  rw [wp_ite, wp_none]
  exact ⟨fun ⟨a, b⟩ => ⟨a, b a⟩, fun ⟨a, b⟩ => ⟨a, fun _ => b⟩⟩
theorem wp_tbL {α : Type} {tb : List Int64} {i : Int32} {K : Int64 → Option (α × AH)} {Q : α → AH → Prop} : wp (tbL tb i K) Q ↔ ¬ (i < 0 ∨ tb.length ≤ i.toNatClampNeg) ∧ wp (K (tb.getD i.toNatClampNeg 0)) Q := by
  unfold tbL
  rw [wp_ite, wp_none]
  exact ⟨fun ⟨a, b⟩ => ⟨a, b a⟩, fun ⟨a, b⟩ => ⟨a, fun _ => b⟩⟩
theorem wp_lp1 {α A0 : Type} {F : (A0 → Option (α × AH)) → A0 → Option (α × AH)} {Q : α → AH → Prop} (I : A0 → Prop) (m : A0 → Nat) (step : ∀ (G : A0 → Option (α × AH)) (x0 : A0), I x0 → (∀ (y0 : A0), I y0 → m y0 < m x0 → wp (G y0) Q) → wp (F G x0) Q) {N : Nat} {a0 : A0} (h0 : I a0) (hN : m a0 < N) : wp (lp (fun _ => none) F N a0) Q := by
  induction N generalizing a0 with
  | zero => omega
  | succ n ih => exact step (lp (fun _ => none) F n) a0 h0 (fun y0 hy hm => ih hy (by omega))
theorem wp_lp2 {α A0 A1 : Type} {F : (A0 → A1 → Option (α × AH)) → A0 → A1 → Option (α × AH)} {Q : α → AH → Prop} (I : A0 → A1 → Prop) (m : A0 → A1 → Nat) (step : ∀ (G : A0 → A1 → Option (α × AH)) (x0 : A0) (x1 : A1), I x0 x1 → (∀ (y0 : A0) (y1 : A1), I y0 y1 → m y0 y1 < m x0 x1 → wp (G y0 y1) Q) → wp (F G x0 x1) Q) {N : Nat} {a0 : A0} {a1 : A1} (h0 : I a0 a1) (hN : m a0 a1 < N) : wp (lp (fun _ _ => none) F N a0 a1) Q := by
  induction N generalizing a0 a1 with
  | zero => omega
  | succ n ih => exact step (lp (fun _ _ => none) F n) a0 a1 h0 (fun y0 y1 hy hm => ih hy (by omega))
theorem wp_lp3 {α A0 A1 A2 : Type} {F : (A0 → A1 → A2 → Option (α × AH)) → A0 → A1 → A2 → Option (α × AH)} {Q : α → AH → Prop} (I : A0 → A1 → A2 → Prop) (m : A0 → A1 → A2 → Nat) (step : ∀ (G : A0 → A1 → A2 → Option (α × AH)) (x0 : A0) (x1 : A1) (x2 : A2), I x0 x1 x2 → (∀ (y0 : A0) (y1 : A1) (y2 : A2), I y0 y1 y2 → m y0 y1 y2 < m x0 x1 x2 → wp (G y0 y1 y2) Q) → wp (F G x0 x1 x2) Q) {N : Nat} {a0 : A0} {a1 : A1} {a2 : A2} (h0 : I a0 a1 a2) (hN : m a0 a1 a2 < N) : wp (lp (fun _ _ _ => none) F N a0 a1 a2) Q := by
  induction N generalizing a0 a1 a2 with
  | zero => omega
  | succ n ih => exact step (lp (fun _ _ _ => none) F n) a0 a1 a2 h0 (fun y0 y1 y2 hy hm => ih hy (by omega))
theorem wp_lp4 {α A0 A1 A2 A3 : Type} {F : (A0 → A1 → A2 → A3 → Option (α × AH)) → A0 → A1 → A2 → A3 → Option (α × AH)} {Q : α → AH → Prop} (I : A0 → A1 → A2 → A3 → Prop) (m : A0 → A1 → A2 → A3 → Nat) (step : ∀ (G : A0 → A1 → A2 → A3 → Option (α × AH)) (x0 : A0) (x1 : A1) (x2 : A2) (x3 : A3), I x0 x1 x2 x3 → (∀ (y0 : A0) (y1 : A1) (y2 : A2) (y3 : A3), I y0 y1 y2 y3 → m y0 y1 y2 y3 < m x0 x1 x2 x3 → wp (G y0 y1 y2 y3) Q) → wp (F G x0 x1 x2 x3) Q) {N : Nat} {a0 : A0} {a1 : A1} {a2 : A2} {a3 : A3} (h0 : I a0 a1 a2 a3) (hN : m a0 a1 a2 a3 < N) : wp (lp (fun _ _ _ _ => none) F N a0 a1 a2 a3) Q := by
  induction N generalizing a0 a1 a2 a3 with
  | zero => omega
  | succ n ih => exact step (lp (fun _ _ _ _ => none) F n) a0 a1 a2 a3 h0 (fun y0 y1 y2 y3 hy hm => ih hy (by omega))
theorem wp_lp5 {α A0 A1 A2 A3 A4 : Type} {F : (A0 → A1 → A2 → A3 → A4 → Option (α × AH)) → A0 → A1 → A2 → A3 → A4 → Option (α × AH)} {Q : α → AH → Prop} (I : A0 → A1 → A2 → A3 → A4 → Prop) (m : A0 → A1 → A2 → A3 → A4 → Nat) (step : ∀ (G : A0 → A1 → A2 → A3 → A4 → Option (α × AH)) (x0 : A0) (x1 : A1) (x2 : A2) (x3 : A3) (x4 : A4), I x0 x1 x2 x3 x4 → (∀ (y0 : A0) (y1 : A1) (y2 : A2) (y3 : A3) (y4 : A4), I y0 y1 y2 y3 y4 → m y0 y1 y2 y3 y4 < m x0 x1 x2 x3 x4 → wp (G y0 y1 y2 y3 y4) Q) → wp (F G x0 x1 x2 x3 x4) Q) {N : Nat} {a0 : A0} {a1 : A1} {a2 : A2} {a3 : A3} {a4 : A4} (h0 : I a0 a1 a2 a3 a4) (hN : m a0 a1 a2 a3 a4 < N) : wp (lp (fun _ _ _ _ _ => none) F N a0 a1 a2 a3 a4) Q := by
  induction N generalizing a0 a1 a2 a3 a4 with
  | zero => omega
  | succ n ih => exact step (lp (fun _ _ _ _ _ => none) F n) a0 a1 a2 a3 a4 h0 (fun y0 y1 y2 y3 y4 hy hm => ih hy (by omega))
theorem wp_lp6 {α A0 A1 A2 A3 A4 A5 : Type} {F : (A0 → A1 → A2 → A3 → A4 → A5 → Option (α × AH)) → A0 → A1 → A2 → A3 → A4 → A5 → Option (α × AH)} {Q : α → AH → Prop} (I : A0 → A1 → A2 → A3 → A4 → A5 → Prop) (m : A0 → A1 → A2 → A3 → A4 → A5 → Nat) (step : ∀ (G : A0 → A1 → A2 → A3 → A4 → A5 → Option (α × AH)) (x0 : A0) (x1 : A1) (x2 : A2) (x3 : A3) (x4 : A4) (x5 : A5), I x0 x1 x2 x3 x4 x5 → (∀ (y0 : A0) (y1 : A1) (y2 : A2) (y3 : A3) (y4 : A4) (y5 : A5), I y0 y1 y2 y3 y4 y5 → m y0 y1 y2 y3 y4 y5 < m x0 x1 x2 x3 x4 x5 → wp (G y0 y1 y2 y3 y4 y5) Q) → wp (F G x0 x1 x2 x3 x4 x5) Q) {N : Nat} {a0 : A0} {a1 : A1} {a2 : A2} {a3 : A3} {a4 : A4} {a5 : A5} (h0 : I a0 a1 a2 a3 a4 a5) (hN : m a0 a1 a2 a3 a4 a5 < N) : wp (lp (fun _ _ _ _ _ _ => none) F N a0 a1 a2 a3 a4 a5) Q := by
  induction N generalizing a0 a1 a2 a3 a4 a5 with
  | zero => omega
  | succ n ih => exact step (lp (fun _ _ _ _ _ _ => none) F n) a0 a1 a2 a3 a4 a5 h0 (fun y0 y1 y2 y3 y4 y5 hy hm => ih hy (by omega))
theorem wp_lp7 {α A0 A1 A2 A3 A4 A5 A6 : Type} {F : (A0 → A1 → A2 → A3 → A4 → A5 → A6 → Option (α × AH)) → A0 → A1 → A2 → A3 → A4 → A5 → A6 → Option (α × AH)} {Q : α → AH → Prop} (I : A0 → A1 → A2 → A3 → A4 → A5 → A6 → Prop) (m : A0 → A1 → A2 → A3 → A4 → A5 → A6 → Nat) (step : ∀ (G : A0 → A1 → A2 → A3 → A4 → A5 → A6 → Option (α × AH)) (x0 : A0) (x1 : A1) (x2 : A2) (x3 : A3) (x4 : A4) (x5 : A5) (x6 : A6), I x0 x1 x2 x3 x4 x5 x6 → (∀ (y0 : A0) (y1 : A1) (y2 : A2) (y3 : A3) (y4 : A4) (y5 : A5) (y6 : A6), I y0 y1 y2 y3 y4 y5 y6 → m y0 y1 y2 y3 y4 y5 y6 < m x0 x1 x2 x3 x4 x5 x6 → wp (G y0 y1 y2 y3 y4 y5 y6) Q) → wp (F G x0 x1 x2 x3 x4 x5 x6) Q) {N : Nat} {a0 : A0} {a1 : A1} {a2 : A2} {a3 : A3} {a4 : A4} {a5 : A5} {a6 : A6} (h0 : I a0 a1 a2 a3 a4 a5 a6) (hN : m a0 a1 a2 a3 a4 a5 a6 < N) : wp (lp (fun _ _ _ _ _ _ _ => none) F N a0 a1 a2 a3 a4 a5 a6) Q := by
  induction N generalizing a0 a1 a2 a3 a4 a5 a6 with
  | zero => omega
  | succ n ih => exact step (lp (fun _ _ _ _ _ _ _ => none) F n) a0 a1 a2 a3 a4 a5 a6 h0 (fun y0 y1 y2 y3 y4 y5 y6 hy hm => ih hy (by omega))
theorem wp_lp8 {α A0 A1 A2 A3 A4 A5 A6 A7 : Type} {F : (A0 → A1 → A2 → A3 → A4 → A5 → A6 → A7 → Option (α × AH)) → A0 → A1 → A2 → A3 → A4 → A5 → A6 → A7 → Option (α × AH)} {Q : α → AH → Prop} (I : A0 → A1 → A2 → A3 → A4 → A5 → A6 → A7 → Prop) (m : A0 → A1 → A2 → A3 → A4 → A5 → A6 → A7 → Nat) (step : ∀ (G : A0 → A1 → A2 → A3 → A4 → A5 → A6 → A7 → Option (α × AH)) (x0 : A0) (x1 : A1) (x2 : A2) (x3 : A3) (x4 : A4) (x5 : A5) (x6 : A6) (x7 : A7), I x0 x1 x2 x3 x4 x5 x6 x7 → (∀ (y0 : A0) (y1 : A1) (y2 : A2) (y3 : A3) (y4 : A4) (y5 : A5) (y6 : A6) (y7 : A7), I y0 y1 y2 y3 y4 y5 y6 y7 → m y0 y1 y2 y3 y4 y5 y6 y7 < m x0 x1 x2 x3 x4 x5 x6 x7 → wp (G y0 y1 y2 y3 y4 y5 y6 y7) Q) → wp (F G x0 x1 x2 x3 x4 x5 x6 x7) Q) {N : Nat} {a0 : A0} {a1 : A1} {a2 : A2} {a3 : A3} {a4 : A4} {a5 : A5} {a6 : A6} {a7 : A7} (h0 : I a0 a1 a2 a3 a4 a5 a6 a7) (hN : m a0 a1 a2 a3 a4 a5 a6 a7 < N) : wp (lp (fun _ _ _ _ _ _ _ _ => none) F N a0 a1 a2 a3 a4 a5 a6 a7) Q := by
  induction N generalizing a0 a1 a2 a3 a4 a5 a6 a7 with
  | zero => omega
  | succ n ih => exact step (lp (fun _ _ _ _ _ _ _ _ => none) F n) a0 a1 a2 a3 a4 a5 a6 a7 h0 (fun y0 y1 y2 y3 y4 y5 y6 y7 hy hm => ih hy (by omega))
theorem wp_lp9 {α A0 A1 A2 A3 A4 A5 A6 A7 A8 : Type} {F : (A0 → A1 → A2 → A3 → A4 → A5 → A6 → A7 → A8 → Option (α × AH)) → A0 → A1 → A2 → A3 → A4 → A5 → A6 → A7 → A8 → Option (α × AH)} {Q : α → AH → Prop} (I : A0 → A1 → A2 → A3 → A4 → A5 → A6 → A7 → A8 → Prop) (m : A0 → A1 → A2 → A3 → A4 → A5 → A6 → A7 → A8 → Nat) (step : ∀ (G : A0 → A1 → A2 → A3 → A4 → A5 → A6 → A7 → A8 → Option (α × AH)) (x0 : A0) (x1 : A1) (x2 : A2) (x3 : A3) (x4 : A4) (x5 : A5) (x6 : A6) (x7 : A7) (x8 : A8), I x0 x1 x2 x3 x4 x5 x6 x7 x8 → (∀ (y0 : A0) (y1 : A1) (y2 : A2) (y3 : A3) (y4 : A4) (y5 : A5) (y6 : A6) (y7 : A7) (y8 : A8), I y0 y1 y2 y3 y4 y5 y6 y7 y8 → m y0 y1 y2 y3 y4 y5 y6 y7 y8 < m x0 x1 x2 x3 x4 x5 x6 x7 x8 → wp (G y0 y1 y2 y3 y4 y5 y6 y7 y8) Q) → wp (F G x0 x1 x2 x3 x4 x5 x6 x7 x8) Q) {N : Nat} {a0 : A0} {a1 : A1} {a2 : A2} {a3 : A3} {a4 : A4} {a5 : A5} {a6 : A6} {a7 : A7} {a8 : A8} (h0 : I a0 a1 a2 a3 a4 a5 a6 a7 a8) (hN : m a0 a1 a2 a3 a4 a5 a6 a7 a8 < N) : wp (lp (fun _ _ _ _ _ _ _ _ _ => none) F N a0 a1 a2 a3 a4 a5 a6 a7 a8) Q := by
  induction N generalizing a0 a1 a2 a3 a4 a5 a6 a7 a8 with
  | zero => omega
  | succ n ih => exact step (lp (fun _ _ _ _ _ _ _ _ _ => none) F n) a0 a1 a2 a3 a4 a5 a6 a7 a8 h0 (fun y0 y1 y2 y3 y4 y5 y6 y7 y8 hy hm => ih hy (by omega))
theorem wp_lp10 {α A0 A1 A2 A3 A4 A5 A6 A7 A8 A9 : Type} {F : (A0 → A1 → A2 → A3 → A4 → A5 → A6 → A7 → A8 → A9 → Option (α × AH)) → A0 → A1 → A2 → A3 → A4 → A5 → A6 → A7 → A8 → A9 → Option (α × AH)} {Q : α → AH → Prop} (I : A0 → A1 → A2 → A3 → A4 → A5 → A6 → A7 → A8 → A9 → Prop) (m : A0 → A1 → A2 → A3 → A4 → A5 → A6 → A7 → A8 → A9 → Nat) (step : ∀ (G : A0 → A1 → A2 → A3 → A4 → A5 → A6 → A7 → A8 → A9 → Option (α × AH)) (x0 : A0) (x1 : A1) (x2 : A2) (x3 : A3) (x4 : A4) (x5 : A5) (x6 : A6) (x7 : A7) (x8 : A8) (x9 : A9), I x0 x1 x2 x3 x4 x5 x6 x7 x8 x9 → (∀ (y0 : A0) (y1 : A1) (y2 : A2) (y3 : A3) (y4 : A4) (y5 : A5) (y6 : A6) (y7 : A7) (y8 : A8) (y9 : A9), I y0 y1 y2 y3 y4 y5 y6 y7 y8 y9 → m y0 y1 y2 y3 y4 y5 y6 y7 y8 y9 < m x0 x1 x2 x3 x4 x5 x6 x7 x8 x9 → wp (G y0 y1 y2 y3 y4 y5 y6 y7 y8 y9) Q) → wp (F G x0 x1 x2 x3 x4 x5 x6 x7 x8 x9) Q) {N : Nat} {a0 : A0} {a1 : A1} {a2 : A2} {a3 : A3} {a4 : A4} {a5 : A5} {a6 : A6} {a7 : A7} {a8 : A8} {a9 : A9} (h0 : I a0 a1 a2 a3 a4 a5 a6 a7 a8 a9) (hN : m a0 a1 a2 a3 a4 a5 a6 a7 a8 a9 < N) : wp (lp (fun _ _ _ _ _ _ _ _ _ _ => none) F N a0 a1 a2 a3 a4 a5 a6 a7 a8 a9) Q := by
  induction N generalizing a0 a1 a2 a3 a4 a5 a6 a7 a8 a9 with
  | zero => omega
  | succ n ih => exact step (lp (fun _ _ _ _ _ _ _ _ _ _ => none) F n) a0 a1 a2 a3 a4 a5 a6 a7 a8 a9 h0 (fun y0 y1 y2 y3 y4 y5 y6 y7 y8 y9 hy hm => ih hy (by omega))
theorem wp_lp11 {α A0 A1 A2 A3 A4 A5 A6 A7 A8 A9 A10 : Type} {F : (A0 → A1 → A2 → A3 → A4 → A5 → A6 → A7 → A8 → A9 → A10 → Option (α × AH)) → A0 → A1 → A2 → A3 → A4 → A5 → A6 → A7 → A8 → A9 → A10 → Option (α × AH)} {Q : α → AH → Prop} (I : A0 → A1 → A2 → A3 → A4 → A5 → A6 → A7 → A8 → A9 → A10 → Prop) (m : A0 → A1 → A2 → A3 → A4 → A5 → A6 → A7 → A8 → A9 → A10 → Nat) (step : ∀ (G : A0 → A1 → A2 → A3 → A4 → A5 → A6 → A7 → A8 → A9 → A10 → Option (α × AH)) (x0 : A0) (x1 : A1) (x2 : A2) (x3 : A3) (x4 : A4) (x5 : A5) (x6 : A6) (x7 : A7) (x8 : A8) (x9 : A9) (x10 : A10), I x0 x1 x2 x3 x4 x5 x6 x7 x8 x9 x10 → (∀ (y0 : A0) (y1 : A1) (y2 : A2) (y3 : A3) (y4 : A4) (y5 : A5) (y6 : A6) (y7 : A7) (y8 : A8) (y9 : A9) (y10 : A10), I y0 y1 y2 y3 y4 y5 y6 y7 y8 y9 y10 → m y0 y1 y2 y3 y4 y5 y6 y7 y8 y9 y10 < m x0 x1 x2 x3 x4 x5 x6 x7 x8 x9 x10 → wp (G y0 y1 y2 y3 y4 y5 y6 y7 y8 y9 y10) Q) → wp (F G x0 x1 x2 x3 x4 x5 x6 x7 x8 x9 x10) Q) {N : Nat} {a0 : A0} {a1 : A1} {a2 : A2} {a3 : A3} {a4 : A4} {a5 : A5} {a6 : A6} {a7 : A7} {a8 : A8} {a9 : A9} {a10 : A10} (h0 : I a0 a1 a2 a3 a4 a5 a6 a7 a8 a9 a10) (hN : m a0 a1 a2 a3 a4 a5 a6 a7 a8 a9 a10 < N) : wp (lp (fun _ _ _ _ _ _ _ _ _ _ _ => none) F N a0 a1 a2 a3 a4 a5 a6 a7 a8 a9 a10) Q := by
  induction N generalizing a0 a1 a2 a3 a4 a5 a6 a7 a8 a9 a10 with
  | zero => omega
  | succ n ih => exact step (lp (fun _ _ _ _ _ _ _ _ _ _ _ => none) F n) a0 a1 a2 a3 a4 a5 a6 a7 a8 a9 a10 h0 (fun y0 y1 y2 y3 y4 y5 y6 y7 y8 y9 y10 hy hm => ih hy (by omega))
theorem wp_lp12 {α A0 A1 A2 A3 A4 A5 A6 A7 A8 A9 A10 A11 : Type} {F : (A0 → A1 → A2 → A3 → A4 → A5 → A6 → A7 → A8 → A9 → A10 → A11 → Option (α × AH)) → A0 → A1 → A2 → A3 → A4 → A5 → A6 → A7 → A8 → A9 → A10 → A11 → Option (α × AH)} {Q : α → AH → Prop} (I : A0 → A1 → A2 → A3 → A4 → A5 → A6 → A7 → A8 → A9 → A10 → A11 → Prop) (m : A0 → A1 → A2 → A3 → A4 → A5 → A6 → A7 → A8 → A9 → A10 → A11 → Nat) (step : ∀ (G : A0 → A1 → A2 → A3 → A4 → A5 → A6 → A7 → A8 → A9 → A10 → A11 → Option (α × AH)) (x0 : A0) (x1 : A1) (x2 : A2) (x3 : A3) (x4 : A4) (x5 : A5) (x6 : A6) (x7 : A7) (x8 : A8) (x9 : A9) (x10 : A10) (x11 : A11), I x0 x1 x2 x3 x4 x5 x6 x7 x8 x9 x10 x11 → (∀ (y0 : A0) (y1 : A1) (y2 : A2) (y3 : A3) (y4 : A4) (y5 : A5) (y6 : A6) (y7 : A7) (y8 : A8) (y9 : A9) (y10 : A10) (y11 : A11), I y0 y1 y2 y3 y4 y5 y6 y7 y8 y9 y10 y11 → m y0 y1 y2 y3 y4 y5 y6 y7 y8 y9 y10 y11 < m x0 x1 x2 x3 x4 x5 x6 x7 x8 x9 x10 x11 → wp (G y0 y1 y2 y3 y4 y5 y6 y7 y8 y9 y10 y11) Q) → wp (F G x0 x1 x2 x3 x4 x5 x6 x7 x8 x9 x10 x11) Q) {N : Nat} {a0 : A0} {a1 : A1} {a2 : A2} {a3 : A3} {a4 : A4} {a5 : A5} {a6 : A6} {a7 : A7} {a8 : A8} {a9 : A9} {a10 : A10} {a11 : A11} (h0 : I a0 a1 a2 a3 a4 a5 a6 a7 a8 a9 a10 a11) (hN : m a0 a1 a2 a3 a4 a5 a6 a7 a8 a9 a10 a11 < N) : wp (lp (fun _ _ _ _ _ _ _ _ _ _ _ _ => none) F N a0 a1 a2 a3 a4 a5 a6 a7 a8 a9 a10 a11) Q := by
  induction N generalizing a0 a1 a2 a3 a4 a5 a6 a7 a8 a9 a10 a11 with
  | zero => omega
  | succ n ih => exact step (lp (fun _ _ _ _ _ _ _ _ _ _ _ _ => none) F n) a0 a1 a2 a3 a4 a5 a6 a7 a8 a9 a10 a11 h0 (fun y0 y1 y2 y3 y4 y5 y6 y7 y8 y9 y10 y11 hy hm => ih hy (by omega))
theorem wp_jn {α β : Type} {b : β} {K : β → Option (α × AH)} {Q : α → AH → Prop} : wp (jn b K) Q ↔ wp (K b) Q := Iff.rfl
/-- a join that isn't opened: what is needed of it, once -/
theorem wp_jnP {α β : Type} {b : β} {K : β → Option (α × AH)} {Q : α → AH → Prop} (P : β → Prop) (h1 : P b) (h2 : ∀ j, P j → wp (K j) Q) : wp (jn b K) Q := h2 b h1
-- reading behind writing
theorem q_okT (h : AH) (cs : List Nat) (a : Nat) : okT h cs (some a) = (match (hS h)[a]? with | none => false | some q => cs.contains q.1) := id rfl
theorem q_okA (h : AH) (t a : Nat) (i : Int32) : okA h t (some a) i = (match (hS h)[a]? with | none => false | some q => q.1 == t && !(decide (i < 0) || decide (q.2 ≤ i.toNatClampNeg))) := id rfl
theorem q_gI (h : AH) (a k : Nat) : gI h (some a) k = hI h a k := id rfl
theorem q_gL (h : AH) (a k : Nat) : gL h (some a) k = hL h a k := id rfl
theorem q_gR (h : AH) (a k : Nat) : gR h (some a) k = hR h a k := id rfl
theorem q_sI (h : AH) (a k : Nat) (v : Int32) : sI h (some a) k v = wI h a k v := id rfl
theorem q_sL (h : AH) (a k : Nat) (v : Int64) : sL h (some a) k v = wL h a k v := id rfl
theorem q_sR (h : AH) (a k : Nat) (v : Option Nat) : sR h (some a) k v = wR h a k v := id rfl
theorem q_SI (h : AH) (a k : Nat) (v : Int32) : hS (wI h a k v) = hS h := id rfl
theorem q_II (h : AH) (a k : Nat) (v : Int32) (b j : Nat) : hI (wI h a k v) b j = if b = a ∧ j = k then v else hI h b j := rfl
theorem q_LI (h : AH) (a k : Nat) (v : Int32) : hL (wI h a k v) = hL h := rfl
theorem q_RI (h : AH) (a k : Nat) (v : Int32) : hR (wI h a k v) = hR h := rfl
theorem q_SL (h : AH) (a k : Nat) (v : Int64) : hS (wL h a k v) = hS h := id rfl
theorem q_IL (h : AH) (a k : Nat) (v : Int64) : hI (wL h a k v) = hI h := rfl
theorem q_LL (h : AH) (a k : Nat) (v : Int64) (b j : Nat) : hL (wL h a k v) b j = if b = a ∧ j = k then v else hL h b j := rfl
theorem q_RL (h : AH) (a k : Nat) (v : Int64) : hR (wL h a k v) = hR h := rfl
theorem q_SR (h : AH) (a k : Nat) (v : Option Nat) : hS (wR h a k v) = hS h := id rfl
theorem q_IR (h : AH) (a k : Nat) (v : Option Nat) : hI (wR h a k v) = hI h := rfl
theorem q_LR (h : AH) (a k : Nat) (v : Option Nat) : hL (wR h a k v) = hL h := rfl
theorem q_RR (h : AH) (a k : Nat) (v : Option Nat) (b j : Nat) : hR (wR h a k v) b j = if b = a ∧ j = k then v else hR h b j := rfl
/-- all of a row from a place to one before another is one number -/
def fillI (h : AH) (a n : Nat) (v : Int32) : AH := (h.1, fun b j => if b = a ∧ j < n then v else h.2.1 b j, h.2.2.1, h.2.2.2)
def fillL (h : AH) (a n : Nat) (v : Int64) : AH := (h.1, h.2.1, fun b j => if b = a ∧ j < n then v else h.2.2.1 b j, h.2.2.2)
theorem q_SfI (h : AH) (a n : Nat) (v : Int32) : hS (fillI h a n v) = hS h := id rfl
theorem q_IfI (h : AH) (a n : Nat) (v : Int32) (b j : Nat) : hI (fillI h a n v) b j = if b = a ∧ j < n then v else hI h b j := id rfl
theorem q_LfI (h : AH) (a n : Nat) (v : Int32) : hL (fillI h a n v) = hL h := id rfl
theorem q_RfI (h : AH) (a n : Nat) (v : Int32) : hR (fillI h a n v) = hR h := id rfl
theorem q_SfL (h : AH) (a n : Nat) (v : Int64) : hS (fillL h a n v) = hS h := id rfl
theorem q_IfL (h : AH) (a n : Nat) (v : Int64) : hI (fillL h a n v) = hI h := id rfl
theorem q_LfL (h : AH) (a n : Nat) (v : Int64) (b j : Nat) : hL (fillL h a n v) b j = if b = a ∧ j < n then v else hL h b j := id rfl
theorem q_RfL (h : AH) (a n : Nat) (v : Int64) : hR (fillL h a n v) = hR h := id rfl
theorem fillI_0 (h : AH) (a : Nat) (v : Int32) : fillI h a 0 v = h := by simp [fillI]
theorem fillL_0 (h : AH) (a : Nat) (v : Int64) : fillL h a 0 v = h := by simp [fillL]
theorem fillI_s (h : AH) (a n : Nat) (v : Int32) : wI (fillI h a n v) a n v = fillI h a (n + 1) v := by
  unfold wI fillI u2
  simp only [Prod.mk.injEq, true_and, and_true]
  funext b j
  by_cases h1 : b = a ∧ j = n
  · rw [if_pos h1, if_pos ⟨h1.1, by omega⟩]
  · rw [if_neg h1]
    by_cases h2 : b = a ∧ j < n
    · rw [if_pos h2, if_pos ⟨h2.1, by omega⟩]
    · rw [if_neg h2, if_neg (fun q => (Nat.lt_succ_iff_lt_or_eq.mp q.2).elim (fun z => h2 ⟨q.1, z⟩) (fun z => h1 ⟨q.1, z⟩))]
theorem fillL_s (h : AH) (a n : Nat) (v : Int64) : wL (fillL h a n v) a n v = fillL h a (n + 1) v := by
  unfold wL fillL u2
  simp only [Prod.mk.injEq, true_and, and_true]
  funext b j
  by_cases h1 : b = a ∧ j = n
  · rw [if_pos h1, if_pos ⟨h1.1, by omega⟩]
  · rw [if_neg h1]
    by_cases h2 : b = a ∧ j < n
    · rw [if_pos h2, if_pos ⟨h2.1, by omega⟩]
    · rw [if_neg h2, if_neg (fun q => (Nat.lt_succ_iff_lt_or_eq.mp q.2).elim (fun z => h2 ⟨q.1, z⟩) (fun z => h1 ⟨q.1, z⟩))]
