/-! THE HEAP IN PLAIN NUMBERS: cells by number, each of a sort and a length; what stands in them by cell and place -/
/-- sorts: 0 .. 12 an object of that class (vwCl), 20 int[], 21 short[], 22 byte[], 23 boolean[], 24 long[], 25 Body[], 26 Box[], 27 Shelf[] -/
abbrev AH : Type := List (Nat × Nat) × (Nat → Nat → Int32) × (Nat → Nat → Int64) × (Nat → Nat → Option Nat)
def hS (h : AH) : List (Nat × Nat) := h.1
def hI (h : AH) : Nat → Nat → Int32 := h.2.1
def hL (h : AH) : Nat → Nat → Int64 := h.2.2.1
def hR (h : AH) : Nat → Nat → Option Nat := h.2.2.2
def u2 {α : Type} (f : Nat → Nat → α) (a i : Nat) (v : α) : Nat → Nat → α := fun b j => if b = a ∧ j = i then v else f b j
def uR {α : Type} (f : Nat → Nat → α) (a : Nat) (g : Nat → α) : Nat → Nat → α := fun b j => if b = a then g j else f b j
def wI (h : AH) (a i : Nat) (v : Int32) : AH := (h.1, u2 h.2.1 a i v, h.2.2.1, h.2.2.2)
def wL (h : AH) (a i : Nat) (v : Int64) : AH := (h.1, h.2.1, u2 h.2.2.1 a i v, h.2.2.2)
def wR (h : AH) (a i : Nat) (v : Option Nat) : AH := (h.1, h.2.1, h.2.2.1, u2 h.2.2.2 a i v)
def rwI (h : AH) (a : Nat) (g : Nat → Int32) : AH := (h.1, uR h.2.1 a g, h.2.2.1, h.2.2.2)
def rwL (h : AH) (a : Nat) (g : Nat → Int64) : AH := (h.1, h.2.1, uR h.2.2.1 a g, h.2.2.2)
def grow (h : AH) (t n : Nat) : AH := (h.1 ++ [(t, n)], uR h.2.1 h.1.length (fun _ => 0), uR h.2.2.1 h.1.length (fun _ => 0), uR h.2.2.2 h.1.length (fun _ => none))
-- reading, by a reference that may be null
def gI (h : AH) (r : Option Nat) (k : Nat) : Int32 := match r with | none => 0 | some a => hI h a k
def gL (h : AH) (r : Option Nat) (k : Nat) : Int64 := match r with | none => 0 | some a => hL h a k
def gR (h : AH) (r : Option Nat) (k : Nat) : Option Nat := match r with | none => none | some a => hR h a k
def sI (h : AH) (r : Option Nat) (k : Nat) (v : Int32) : AH := match r with | none => h | some a => wI h a k v
def sL (h : AH) (r : Option Nat) (k : Nat) (v : Int64) : AH := match r with | none => h | some a => wL h a k v
def sR (h : AH) (r : Option Nat) (k : Nat) (v : Option Nat) : AH := match r with | none => h | some a => wR h a k v
def okT (h : AH) (cs : List Nat) (r : Option Nat) : Bool := match r with | none => false | some a => match (hS h)[a]? with | none => false | some q => cs.contains q.1
def okA (h : AH) (t : Nat) (r : Option Nat) (i : Int32) : Bool := match r with | none => false | some a => match (hS h)[a]? with | none => false | some q => q.1 == t && !(decide (i < 0) || decide (q.2 ≤ i.toNatClampNeg))
-- the steps of a printed method, each with what comes after it
def fI {ρ : Type} (h : AH) (cs : List Nat) (r : Option Nat) (k : Nat) (K : Int32 → Option ρ) : Option ρ := if okT h cs r = true then K (gI h r k) else none
def fL {ρ : Type} (h : AH) (cs : List Nat) (r : Option Nat) (k : Nat) (K : Int64 → Option ρ) : Option ρ := if okT h cs r = true then K (gL h r k) else none
def fR {ρ : Type} (h : AH) (cs : List Nat) (r : Option Nat) (k : Nat) (K : Option Nat → Option ρ) : Option ρ := if okT h cs r = true then K (gR h r k) else none
def pI {ρ : Type} (h : AH) (cs : List Nat) (r : Option Nat) (k : Nat) (v : Int32) (K : AH → Option ρ) : Option ρ := if okT h cs r = true then K (sI h r k v) else none
def pZ {ρ : Type} (h : AH) (cs : List Nat) (r : Option Nat) (k : Nat) (v : Int32) (K : AH → Option ρ) : Option ρ := if okT h cs r = true ∧ (v = 0 ∨ v = 1) then K (sI h r k v) else none
def pL {ρ : Type} (h : AH) (cs : List Nat) (r : Option Nat) (k : Nat) (v : Int64) (K : AH → Option ρ) : Option ρ := if okT h cs r = true then K (sL h r k v) else none
def pR {ρ : Type} (h : AH) (cs : List Nat) (r : Option Nat) (k : Nat) (v : Option Nat) (K : AH → Option ρ) : Option ρ := if okT h cs r = true then K (sR h r k v) else none
def aI {ρ : Type} (h : AH) (t : Nat) (r : Option Nat) (i : Int32) (K : Int32 → Option ρ) : Option ρ := if okA h t r i = true then K (gI h r i.toNatClampNeg) else none
def aL {ρ : Type} (h : AH) (t : Nat) (r : Option Nat) (i : Int32) (K : Int64 → Option ρ) : Option ρ := if okA h t r i = true then K (gL h r i.toNatClampNeg) else none
def aR {ρ : Type} (h : AH) (t : Nat) (r : Option Nat) (i : Int32) (K : Option Nat → Option ρ) : Option ρ := if okA h t r i = true then K (gR h r i.toNatClampNeg) else none
def bI {ρ : Type} (h : AH) (t : Nat) (r : Option Nat) (i : Int32) (v : Int32) (K : AH → Option ρ) : Option ρ := if okA h t r i = true then K (sI h r i.toNatClampNeg v) else none
def bL {ρ : Type} (h : AH) (t : Nat) (r : Option Nat) (i : Int32) (v : Int64) (K : AH → Option ρ) : Option ρ := if okA h t r i = true then K (sL h r i.toNatClampNeg v) else none
def bR {ρ : Type} (h : AH) (t : Nat) (cs : List Nat) (r : Option Nat) (i : Int32) (v : Option Nat) (K : AH → Option ρ) : Option ρ := if okA h t r i = true ∧ okT h cs v = true then K (sR h r i.toNatClampNeg v) else none
def aN {ρ : Type} (h : AH) (t : Nat) (r : Option Nat) (K : Int32 → Option ρ) : Option ρ := match r with | none => none | some a => match (hS h)[a]? with | none => none | some q => if q.1 = t then K (nI q.2) else none
def iO {ρ : Type} (h : AH) (cs : List Nat) (r : Option Nat) (K : Int32 → Option ρ) : Option ρ := if r = none then K 0 else if okT h cs r = true then K 1 else if okT h [0, 1, 2, 9] r = true then K 0 else none
def cO {ρ : Type} (h : AH) (cs : List Nat) (r : Option Nat) (K : Option ρ) : Option ρ := if r = none ∨ okT h cs r = true then K else none
def rO {ρ : Type} (h : AH) (cs : List Nat) (r : Option Nat) (K : Option ρ) : Option ρ := if okT h cs r = true then K else none
def nO {ρ : Type} (h : AH) (t n : Nat) (K : Option Nat → AH → Option ρ) : Option ρ := K (some (hS h).length) (grow h t n)
def nz {ρ : Type} (y : Int32) (K : Option ρ) : Option ρ := if y = 0 then none else K
def nzL {ρ : Type} (y : Int64) (K : Option ρ) : Option ρ := if y = 0 then none else K
def rz (v : Int32) (h : AH) : Option (Int32 × AH) := if v = 0 ∨ v = 1 then some (v, h) else none
def cl {α ρ : Type} (o : Option (α × AH)) (K : α → AH → Option ρ) : Option ρ := match o with | none => none | some x => K x.1 x.2
def jn {α β : Type} (b : α) (K : α → β) : β := K b
def lp {T : Type} (bot : T) (F : T → T) : Nat → T
  | 0 => bot
  | n + 1 => F (lp bot F n)
/-- a number that nothing computes with by itself -/
noncomputable def opq (n : Nat) : Nat := Classical.choose (⟨n, rfl⟩ : ∃ k : Nat, k = n)
theorem opq_eq (n : Nat) : opq n = n := Classical.choose_spec (⟨n, rfl⟩ : ∃ k : Nat, k = n)
noncomputable def lpN : Nat := opq 1000000
def cpOk (h : AH) (t : Nat) (r0 : Option Nat) (sp : Int32) (r1 : Option Nat) (dp n : Int32) : Bool := match r0, r1 with
  | some a, some b => (match (hS h)[a]?, (hS h)[b]? with
    | some p, some q => p.1 == t && q.1 == t && decide (¬ sp < 0) && decide (¬ dp < 0) && decide (¬ n < 0) && decide (sp.toNatClampNeg + n.toNatClampNeg ≤ p.2) && decide (dp.toNatClampNeg + n.toNatClampNeg ≤ q.2)
    | _, _ => false)
  | _, _ => false
def cpI {ρ : Type} (h : AH) (r0 : Option Nat) (sp : Int32) (r1 : Option Nat) (dp n : Int32) (K : AH → Option ρ) : Option ρ := if cpOk h 20 r0 sp r1 dp n = true then K (match r1 with | none => h | some b => rwI h b (va_cpy (gI h r0) (hI h b) sp.toNatClampNeg dp.toNatClampNeg n.toNatClampNeg)) else none
def cpL {ρ : Type} (h : AH) (r0 : Option Nat) (sp : Int32) (r1 : Option Nat) (dp n : Int32) (K : AH → Option ρ) : Option ρ := if cpOk h 24 r0 sp r1 dp n = true then K (match r1 with | none => h | some b => rwL h b (va_cpy (gL h r0) (hL h b) sp.toNatClampNeg dp.toNatClampNeg n.toNatClampNeg)) else none
/-! THE HEAP OF THE MACHINE that such a heap is a picture of -/
/-- where the cells begin; the classes' numbers; their fields' slots; the array classes' numbers -/
abbrev DT : Type := Nat × (Nat → ClassId) × (Nat → Nat → Nat) × (Nat → ClassId) × Nat × (Nat → Option (Nat × Nat)) × (Nat → Nat → Value)
def TXX (t : Nat) : u_T := match t with | 0 => TX0 | 1 => TX1 | 2 => TX2 | 3 => TX3 | 4 => TX4 | 5 => TX5 | 6 => TX6 | 7 => TX7 | 8 => TX8 | 9 => TX9 | 10 => TX10 | 11 => TX11 | _ => TX12
def RXX (t : Nat) : String := match t with | 0 => RX0 | 1 => RX1 | 2 => RX2 | 3 => RX3 | 4 => RX4 | 5 => RX5 | 6 => RX6 | 7 => RX7 | 8 => RX8 | 9 => RX9 | 10 => RX10 | 11 => RX11 | _ => RX12
def NXX (t : Nat) : Nat := match t with | 0 => 0 | 1 => 19 | 2 => 5 | 3 => 10 | 4 => 9 | 5 => 15 | 6 => 16 | 7 => 5 | 8 => 11 | 9 => 0 | 10 => 16 | 11 => 6 | _ => 0
def tyXX (t : Nat) : Nat → FieldType := match t with | 0 => tyX0 | 1 => tyX1 | 2 => tyX2 | 3 => tyX3 | 4 => tyX4 | 5 => tyX5 | 6 => tyX6 | 7 => tyX7 | 8 => tyX8 | 9 => tyX9 | 10 => tyX10 | 11 => tyX11 | _ => tyX12
def aty (t : Nat) : FieldType := match t with | 20 => .int | 21 => .int | 22 => .byte | 23 => .boolean | 24 => .long | 25 => .object "HillBoxes$Body" | 26 => .object "HillBoxes$Box" | 28 => .int | 29 => .array .int | 30 => .boolean | _ => .object "HillBoxes$Shelf"
/-- what a field is: 0 one of the ints, 1 a long, 2 a reference -/
def fk (ty : FieldType) : Nat := match ty with | .long => 1 | .object _ => 2 | .array _ => 2 | _ => 0
def rB (b : Nat) (r : Option Nat) : Value := va_rf (r.map (fun k => b + k))
def vB (b : Nat) (h : AH) (k j : Nat) (f : Nat) : Value := match f with | 0 => .int (hI h k j) | 1 => .long (hL h k j) | _ => rB b (hR h k j)
def oc (b : Nat) (h : AH) (t k : Nat) : Nat → Value := fun j => vB b h k j (fk (tyXX t j))
def ac (b : Nat) (h : AH) (t k : Nat) : Nat → Value := fun j => vB b h k j (fk (aty t))
/-- classes whose objects can be -/
abbrev okC (t : Nat) : Prop := t ≠ 0 ∧ t ≠ 9 ∧ t ≠ 12
def atC (D : DT) (h : AH) (k : Nat) (q : Nat × Nat) (H : Heap) : Prop := if q.1 < 13 then okC q.1 ∧ t_OB (D.1 + k) (D.2.1 q.1) (NXX q.1) (D.2.2.1 q.1) H (oc D.1 h q.1 k) else H[D.1 + k]? = some (arrV (D.2.2.2.1 q.1) q.2 (if q.1 < 28 then ac D.1 h q.1 k else D.2.2.2.2.2.2 k))
/-- the cells of the law's own (sorts from 28 on): so many cells in all when it last looked, which these are; what stands in them is held by D alone -/
def LW (D : DT) (S : List (Nat × Nat)) : Prop := D.2.2.2.2.1 ≤ S.length ∧ ∀ k q, D.2.2.2.2.2.1 k = some q ↔ (S[k]? = some q ∧ 28 ≤ q.1)
def RepH (D : DT) (h : AH) (H : Heap) : Prop := H.size = D.1 + (hS h).length ∧ (∀ (k : Nat) (q : Nat × Nat), (hS h)[k]? = some q → atC D h k q H) ∧ LW D (hS h)
/-- what is known of the classes -/
def KC (D : DT) (U : State) : Prop := (∀ t, t < 13 → okC t → u_Kn U (RXX t) (TXX t) (NXX t) (D.2.1 t) (D.2.2.1 t)) ∧ (∀ t, 20 ≤ t → t < 31 → ArrOfT U (D.2.2.2.1 t) (aty t) ∧ va_RA U (D.2.2.2.1 t) (aty t)) ∧ U.vm.findClass RX0 = some (D.2.1 0) ∧ ∃ k0, U.vm.classes[D.2.1 0]? = some k0
theorem KC.moved {D : DT} {u U : State} (hvm : u.vm.Alike U.vm) (h : KC D u) : KC D U := by
  obtain ⟨k, hk⟩ := h.2.2.2
  obtain ⟨k', hk', -⟩ := hvm.2.2 _ _ hk
  exact ⟨fun t ht ho => u_Kn_moved hvm (h.1 t ht ho), fun t h1 h2 => ⟨arrOfT_moved hvm (h.2.1 t h1 h2).1, (h.2.1 t h1 h2).2.moved hvm⟩, by rw [hvm.findClass]; exact h.2.2.1, k', hk'⟩
theorem RepH.kept {D : DT} {h : AH} {H H1 : Heap} (hR : RepH D h H) (hz : H1.size = H.size) (hq : ∀ q, D.1 ≤ q → H1[q]? = H[q]?) : RepH D h H1 := by
  refine ⟨hz.trans hR.1, fun k q hk => ?_, hR.2.2⟩
  have h1 := hR.2.1 k q hk
  unfold atC at h1 ⊢
  split
  · rename_i hlt
    rw [if_pos hlt] at h1
    exact ⟨h1.1, h1.2.kept (hq _ (Nat.le_add_right _ _))⟩
  · rename_i hlt
    rw [if_neg hlt] at h1
    rw [hq _ (Nat.le_add_right _ _)]
    exact h1
/-- a cell k is written: the others stay -/
theorem RepH.put {D : DT} {h h' : AH} {H H1 : Heap} (hR : RepH D h H) (hs : hS h' = hS h) {k : Nat} {q : Nat × Nat} (hk : (hS h)[k]? = some q) (hz : H1.size = H.size) (hq : ∀ x, x ≠ D.1 + k → H1[x]? = H[x]?) (hc : atC D h' k q H1) (ho : ∀ j i f, j ≠ k → vB D.1 h' j i f = vB D.1 h j i f) : RepH D h' H1 := by
  refine ⟨by rw [hz, hs]; exact hR.1, fun j p hj => ?_, by rw [hs]; exact hR.2.2⟩
  rw [hs] at hj
  by_cases e : j = k
  · subst e
    rw [hk] at hj
    cases hj
    exact hc
  · have h1 := hR.2.1 j p hj
    have hne : D.1 + j ≠ D.1 + k := by omega
    unfold atC at h1 ⊢
    split
    · rename_i hlt
      rw [if_pos hlt] at h1
      exact ⟨h1.1, (h1.2.kept (hq _ hne)).to (fun i _ => (ho j i _ e).symm)⟩
    · rename_i hlt
      rw [if_neg hlt] at h1
      rw [hq _ hne, h1]
      have : ac D.1 h p.1 j = ac D.1 h' p.1 j := by funext i; exact (ho j i _ e).symm
      rw [this]
