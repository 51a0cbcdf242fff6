/-! NUMBERS of the script -/
theorem shr_nn {v s : Int32} (h : 0 ≤ v) : 0 ≤ v >>> s := by
  rw [Int32.le_iff_toInt_le] at *
  have e : (v >>> s).toInt = v.toBitVec.toInt >>> (s.toBitVec.smod 32).toNat := by
    show (BitVec.sshiftRight' v.toBitVec (s.toBitVec.smod 32)).toInt = _
    rw [BitVec.toInt_sshiftRight']
  rw [e, Int.shiftRight_eq_div_pow]
  have h0 : (0 : Int32).toInt = 0 := by decide
  rw [h0] at *
  exact Int.ediv_nonneg h (by exact_mod_cast Nat.zero_le _)
theorem nn_ex {v : Int32} (h : 0 ≤ v) : ∃ V, V < 2 ^ 31 ∧ v = nI V := ⟨v.toNatClampNeg, v.toNatClampNeg_lt, nI_self h⟩
theorem and_ex (x : Int32) {m : Nat} (hm : m < 2 ^ 31) : ∃ a, a ≤ m ∧ x &&& nI m = nI a := by
  refine ⟨(x.toBitVec &&& BitVec.ofNat 32 m).toNat, ?_, ?_⟩
  · rw [BitVec.toNat_and]
    refine Nat.le_trans Nat.and_le_right ?_
    rw [BitVec.toNat_ofNat, Nat.mod_eq_of_lt (by omega)]
    exact Nat.le_refl _
  · refine Int32.toBitVec_inj.mp ?_
    show x.toBitVec &&& BitVec.ofNat 32 m = BitVec.ofNat 32 _
    rw [BitVec.ofNat_toNat, BitVec.setWidth_eq]
theorem mod_nI {V m : Nat} (h : V < 2 ^ 31) (hm : m < 2 ^ 31) : nI V - nI V / nI m * nI m = nI (V % m) := by
  have e1 : nI V / nI m = nI (V / m) := (Int32.ofNat_div h hm).symm
  have hle : V / m * m ≤ V := Nat.div_mul_le_self V m
  rw [e1, nI_mul, nI_sub hle]
  congr 1
  have := Nat.div_add_mod V m
  rw [Nat.mul_comm] at this
  omega
theorem mod_ex {v : Int32} (h : 0 ≤ v) {m : Nat} (h0 : 0 < m) (hm : m < 2 ^ 31) : ∃ a, a < m ∧ v - v / nI m * nI m = nI a := by
  obtain ⟨V, hV, rfl⟩ := nn_ex h
  exact ⟨V % m, Nat.mod_lt _ h0, mod_nI hV hm⟩
theorem cell_ex {tb : List Int32} (hL : tb.length ≤ 260) {i : Nat} (hi : i < 80) : ∃ v, 0 ≤ v ∧ cellF tb (nI i) = some v := by
  unfold cellF
  by_cases c : nI tb.length ≤ nI i
  · rw [if_pos c]
    refine ⟨_, ?_, rfl⟩
    rw [show nI i * 6577 = nI (i * 6577) from nI_mul i 6577]
    exact nI_pos' (by omega)
  · rw [if_neg c]
    rw [nI_leI (by omega) (by omega)] at c
    unfold tbI
    rw [if_neg (show ¬ (nI i < 0 ∨ tb.length ≤ (nI i).toNatClampNeg) by
      rw [nI_clamp (by omega)]
      exact fun z => z.elim (nI_pos (by omega)) (by omega))]
    obtain ⟨a, ha, e⟩ := and_ex (tb.getD (nI i).toNatClampNeg 0) (m := 16777215) (by omega)
    exact ⟨_, by rw [show (16777215 : Int32) = nI 16777215 from rfl, e]; exact nI_pos' (by omega), rfl⟩
