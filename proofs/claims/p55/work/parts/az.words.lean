/-! rule: the words of both sides are the same -/
def wdT : List (List Nat) := [[100, 97, 121], [107, 105, 110, 100], [111, 119, 110], [115, 105, 110, 99, 101], [97, 103, 101], [102, 105, 110, 100, 115], [109, 105, 115, 115, 101, 115], [104, 111, 117, 114], [104, 111, 109, 101], [112, 97, 112, 101, 114], [109, 105, 110, 101], [111, 114], [97, 110, 100], [110, 111, 116], [105, 102], [117, 110, 108, 101, 115, 115]]
def wd (k : Nat) : List Nat := wdT.getD k []
def wdE : List Nat := [3, 8, 12, 18, 22, 28, 35, 40, 45, 51, 56, 59, 63, 67, 70, 77]
def wdK : List Nat := [2968, 223456, 11570, 10284818, 923, 3376126, 191706742, 168984, 168755, 8534556, 262823, 423, 1111, 10631, 249, 309007594]
def Lw (w : AH) (b n : Nat) : List Nat := (List.range n).map (fun i => byN w (b + i))
theorem Lw_len (w : AH) (b n : Nat) : (Lw w b n).length = n := by unfold Lw; simp
theorem Lw_s (w : AH) (b n : Nat) : Lw w b (n + 1) = Lw w b n ++ [byN w (b + n)] := by unfold Lw; rw [List.range_succ, List.map_append]; rfl
theorem Lw_at {w : AH} {b n i : Nat} (hi : i < n) : (Lw w b n)[i]? = some (byN w (b + i)) := by
  unfold Lw
  rw [List.getElem?_map, List.getElem?_range hi]; rfl
theorem wd_ok : ∀ k : Nat, k < 16 → txW.getD (wdE.getD k 0) 0 = 32 ∧ (wSt (wdE.getD k 0)).1 = k ∧ (wSt (wdE.getD k 0)).2 + (wd k).length = wdE.getD k 0 ∧ wdE.getD k 0 < 78 ∧ (wd k).length ≤ 7 ∧ ∀ i : Nat, i < (wd k).length → txW.getD ((wSt (wdE.getD k 0)).2 + i) 0 = nI ((wd k).getD i 0) ∧ (wd k).getD i 0 < 256 := by decide +kernel
theorem wd_end : ∀ j : Nat, j < 78 → txW.getD j 0 = 32 → (wSt j).1 < 16 ∧ wdE.getD (wSt j).1 0 = j := by decide +kernel
theorem wd_ne : ∀ k : Nat, k < 16 → ∀ l : Nat, l < 16 → wd k = wd l → k = l := by decide +kernel
theorem mAt_iff {w : AH} {b n j : Nat} (hb : ∀ i, i < n → byN w (b + i) < 256) (hj : j < 78) : mAt w b n j = true ↔ (txW.getD j 0 = 32 ∧ Lw w b n = wd (wSt j).1) := by
  unfold mAt
  rw [Bool.and_eq_true_iff, decide_eq_true_iff]
  by_cases c : txW.getD j 0 = 32
  · obtain ⟨k16, ej⟩ := wd_end j hj c
    obtain ⟨-, -, o3, -, -, o6⟩ := wd_ok (wSt j).1 k16
    rw [ej] at o3 o6
    have key : (wEq w (wSt j).2 b n = true) = ∀ i, i < n → txW.getD ((wSt j).2 + i) 0 = nI (byN w (b + i)) := by
      unfold wEq
      refine propext ⟨fun h i hi => ?_, fun h => ?_⟩
      · by_cases q : txW.getD ((wSt j).2 + i) 0 = nI (byN w (b + i))
        · exact q
        · have := anyN_at (p := fun i => !decide (txW.getD ((wSt j).2 + i) 0 = nI (byN w (b + i)))) hi (by rw [decide_eq_false q]; rfl)
          rw [this] at h; cases h
      · rw [anyN_none (p := fun i => !decide (txW.getD ((wSt j).2 + i) 0 = nI (byN w (b + i)))) (fun i hi => by rw [decide_eq_true (h i hi)]; rfl)]; rfl
    rw [key]
    constructor
    · rintro ⟨⟨-, h1⟩, h2⟩
      refine ⟨c, ?_⟩
      have hn : n = (wd (wSt j).1).length := by omega
      refine List.ext_getElem? (fun i => ?_)
      by_cases hi : i < n
      · rw [Lw_at hi, List.getElem?_eq_getElem (by omega)]
        have t := h2 i hi
        obtain ⟨o7, o8⟩ := o6 i (by omega)
        rw [o7, nI_eq (by omega) (by have := hb i hi; omega)] at t
        rw [← t, List.getD_eq_getElem?_getD, List.getElem?_eq_getElem (by omega)]; rfl
      · rw [List.getElem?_eq_none (by rw [Lw_len]; omega), List.getElem?_eq_none (by omega)]
    · rintro ⟨-, h⟩
      have hn : n = (wd (wSt j).1).length := by rw [← h, Lw_len]
      refine ⟨⟨c, by omega⟩, fun i hi => ?_⟩
      rw [(o6 i (by omega)).1, ← h, List.getD_eq_getElem?_getD, Lw_at hi]; rfl
  · exact ⟨fun h => absurd h.1.1 c, fun h => absurd h.1 c⟩
theorem wordNo_at {w : AH} {b n k : Nat} (hb : ∀ i, i < n → byN w (b + i) < 256) (hk : k < 16) (e : Lw w b n = wd k) : wordNo w b n = nI k := by
  obtain ⟨o1, o2, o3, o4, -, -⟩ := wd_ok k hk
  have fo : firstOf (mAt w b n) 78 = nI (wdE.getD k 0) := by
    refine firstOf_at (by omega) o4 (fun j hj => ?_) ((mAt_iff hb o4).mpr ⟨o1, by rw [o2]; exact e⟩)
    cases q : mAt w b n j with
    | false => rfl
    | true =>
      obtain ⟨q1, q2⟩ := (mAt_iff hb (by omega)).mp q
      obtain ⟨k16, ej⟩ := wd_end j (by omega) q1
      have := wd_ne _ k16 k hk (by rw [← q2, e])
      rw [this] at ej
      omega
  unfold wordNo
  rw [fo, if_neg (by rw [nI_neg1 (by omega)]; exact id), nI_clamp (by omega), o2]
theorem wordNo_no {w : AH} {b n : Nat} (hb : ∀ i, i < n → byN w (b + i) < 256) (e : ∀ k, k < 16 → Lw w b n ≠ wd k) : wordNo w b n = -1 := by
  unfold wordNo
  rw [if_pos]
  refine firstOf_none (fun j hj => ?_)
  cases q : mAt w b n j with
  | false => rfl
  | true =>
    obtain ⟨q1, q2⟩ := (mAt_iff hb hj).mp q
    exact absurd q2 (e _ (wd_end j hj q1).1)
/-- letters as a number -/
def codeN (l : List Nat) : Nat := l.foldl (fun v x => 27 * v + (x - 96)) 0
theorem codeN_s (l : List Nat) (x : Nat) : codeN (l ++ [x]) = 27 * codeN l + (x - 96) := by unfold codeN; rw [List.foldl_append]; rfl
theorem rev_ind {α : Type} {C : List α → Prop} (h0 : C []) (h1 : ∀ l x, C l → C (l ++ [x])) (l : List α) : C l := by
  have : ∀ (n : Nat) (l : List α), l.length = n → C l := by
    intro n
    induction n with
    | zero => intro l hl; rw [List.length_eq_zero_iff.mp hl]; exact h0
    | succ n ih =>
      intro l hl
      rcases List.eq_nil_or_concat l with rfl | ⟨k, y, rfl⟩
      · exact h0
      · rw [List.concat_eq_append] at hl ⊢
        rw [List.length_append, List.length_singleton] at hl
        exact h1 k y (ih k (by omega))
  exact this l.length l rfl
theorem codeN_lt : ∀ (l : List Nat), (∀ x ∈ l, x ≤ 122) → codeN l < 27 ^ l.length := by
  refine rev_ind (C := fun l => (∀ x ∈ l, x ≤ 122) → codeN l < 27 ^ l.length) (fun _ => by decide) (fun l x ih h => ?_)
  have h1 := ih (fun y hy => h y (List.mem_append_left _ hy))
  have h2 := h x (List.mem_append_right _ (List.mem_singleton.mpr rfl))
  rw [codeN_s, List.length_append, List.length_singleton, Nat.pow_succ]
  omega
theorem codeN_inj : ∀ (l k : List Nat), (∀ x ∈ l, 97 ≤ x ∧ x ≤ 122) → (∀ x ∈ k, 97 ≤ x ∧ x ≤ 122) → codeN l = codeN k → l = k := by
  have c0 : codeN [] = 0 := rfl
  refine rev_ind (C := fun l => ∀ k, (∀ x ∈ l, 97 ≤ x ∧ x ≤ 122) → (∀ x ∈ k, 97 ≤ x ∧ x ≤ 122) → codeN l = codeN k → l = k) (fun k _ hk e => ?_) (fun l x ih k hl hk e => ?_)
  · rcases List.eq_nil_or_concat k with rfl | ⟨k', y, rfl⟩
    · rfl
    · rw [List.concat_eq_append] at hk e
      have := hk y (List.mem_append_right _ (List.mem_singleton.mpr rfl))
      rw [codeN_s] at e
      omega
  · have hx := hl x (List.mem_append_right _ (List.mem_singleton.mpr rfl))
    rcases List.eq_nil_or_concat k with rfl | ⟨k', y, rfl⟩
    · rw [codeN_s] at e
      omega
    · rw [List.concat_eq_append] at hk e ⊢
      have hy := hk y (List.mem_append_right _ (List.mem_singleton.mpr rfl))
      rw [codeN_s, codeN_s] at e
      have e1 : x = y := by omega
      have e2 : codeN l = codeN k' := by omega
      rw [e1, ih k' (fun z hz => hl z (List.mem_append_left _ hz)) (fun z hz => hk z (List.mem_append_left _ hz)) e2]
theorem wd_code : ∀ k : Nat, k < 16 → codeN (wd k) = wdK.getD k 0 ∧ (∀ x ∈ wd k, 97 ≤ x ∧ x ≤ 122) := by decide +kernel
theorem l64_step (a x : Nat) (hx : 96 ≤ x) : (27 : Int64) * Int64.ofNat a + Int64.ofNat x - 96 = Int64.ofNat (27 * a + (x - 96)) := by
  have e : Int64.ofNat (27 * a + (x - 96)) + Int64.ofNat 96 = (27 : Int64) * Int64.ofNat a + Int64.ofNat x := by
    rw [← Int64.ofNat_add, show 27 * a + (x - 96) + 96 = 27 * a + x by omega, Int64.ofNat_add, Int64.ofNat_mul]; rfl
  rw [← e]
  exact Int64.add_sub_cancel _ _
theorem nI_64b : ∀ x : Nat, x < 128 → (nI x).toInt64 = Int64.ofNat x := by decide +kernel
theorem sgn_s : ∀ b : Nat, b < 128 → sgn b = nI b := by decide +kernel
theorem codeW_N {w : AH} {b : Nat} (Y : WBy w) : ∀ (n : Nat), b + n ≤ 160 → (∀ i, i < n → 97 ≤ byN w (b + i) ∧ byN w (b + i) ≤ 122) → codeW w b n = Int64.ofNat (codeN (Lw w b n)) := by
  intro n
  induction n with
  | zero => intro _ _; rfl
  | succ n ih =>
    intro hb h
    have h1 := ih (by omega) (fun i hi => h i (by omega))
    have h2 := h n (by omega)
    have e : codeW w b (n + 1) = 27 * codeW w b n + (hI w 68 (b + n)).toInt64 - 96 := rfl
    rw [e, h1, (Y.at (i := b + n) (by omega)).2.1, sgn_s _ (by omega), nI_64b _ (by omega), l64_step _ _ (by omega), Lw_s, codeN_s]
theorem ofNat64_inj {a c : Nat} (ha : a < 2 ^ 63) (hc : c < 2 ^ 63) (h : Int64.ofNat a = Int64.ofNat c) : a = c := by
  have h2 := congrArg Int64.toInt h
  rw [Int64.toInt_ofNat_of_lt ha, Int64.toInt_ofNat_of_lt hc] at h2
  omega
/-- a word that the reference asks for, by its number -/
theorem isW_iff {w : AH} (Y : WBy w) {b n k : Nat} (hb : b + n ≤ 160) (hl : ∀ i, i < n → 97 ≤ byN w (b + i) ∧ byN w (b + i) ≤ 122) (hk : k < 16) : isW w b (b + n) 1 (Int64.ofNat (wdK.getD k 0)) = decide (Lw w b n = wd k) := by
  have hm : ∀ x ∈ Lw w b n, 97 ≤ x ∧ x ≤ 122 := by
    intro x hx
    unfold Lw at hx
    obtain ⟨i, hi, rfl⟩ := List.mem_map.mp hx
    exact hl i (List.mem_range.mp hi)
  obtain ⟨c1, c2⟩ := wd_code k hk
  have l7 := (wd_ok k hk).2.2.2.2.1
  unfold isW
  rw [show b + n - b = n by omega]
  by_cases q : Lw w b n = wd k
  · have hn : n = (wd k).length := by rw [← q, Lw_len]
    rw [decide_eq_true q, decide_eq_true]
    exact ⟨rfl, by omega, by rw [codeW_N Y n hb hl, q, c1]⟩
  · rw [decide_eq_false q, decide_eq_false]
    rintro ⟨-, h1, h2⟩
    rw [codeW_N Y n hb hl, ← c1] at h2
    refine q (codeN_inj _ _ hm c2 (ofNat64_inj ?_ ?_ h2))
    · have := codeN_lt (Lw w b n) (fun x hx => (hm x hx).2)
      rw [Lw_len] at this
      have : 27 ^ n ≤ 27 ^ 12 := Nat.pow_le_pow_right (by omega) (by omega)
      have : 27 ^ 12 < 2 ^ 63 := by decide
      omega
    · have := codeN_lt (wd k) (fun x hx => (c2 x hx).2)
      have : 27 ^ (wd k).length ≤ 27 ^ 12 := Nat.pow_le_pow_right (by omega) (by omega)
      have : 27 ^ 12 < 2 ^ 63 := by decide
      omega
