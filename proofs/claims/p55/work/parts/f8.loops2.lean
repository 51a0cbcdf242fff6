/-! which boxes are too near -/
section
variable {β : Type} {k n : Nat} {h w : AH} {P : Nat → Prog} {Q : β → AH → Prop}
/-- what the law's rows say of the box x -/
theorem LI.bx (I : LI k h w P n) {x : Nat} (hx : x < n) : ∃ sz, sz ≤ 4 ∧ hI h 119 x = nI sz ∧ (hI w 56 (3 + x)).toNatClampNeg = sz ∧ (0 < sz ↔ hI w 51 (3 + x) = 3) ∧ bxOk h w x := by
  obtain ⟨Z, W, A, O, N, B⟩ := I
  have b := B.1 x hx
  obtain ⟨-, -, b3, b0⟩ := Z.2.WB (3 + x) (by rw [W.2.2.1.2.2]; omega) (W.2.2.2.2 x hx)
  by_cases c : hI w 51 (3 + x) = 3
  · obtain ⟨s, s1, s4, es, -⟩ := b3 c
    exact ⟨s, s4, by rw [b.2.1, es], by rw [es, nI_clamp (by omega)], ⟨fun _ => c, fun _ => by omega⟩, b⟩
  · exact ⟨0, by omega, by rw [b.2.1, b0 c]; rfl, by rw [b0 c]; rfl, ⟨fun z => absurd z (by omega), fun z => absurd z c⟩, b⟩
theorem b2i_ite {c : Prop} [Decidable c] : (if c then (1 : Int32) else 0) = b2i (decide c) := by
  by_cases h : c
  · rw [if_pos h, decide_eq_true h]; rfl
  · rw [if_neg h, decide_eq_false h]; rfl
set_option maxHeartbeats 8000000 in
theorem lp772 (hn : n ≤ 60) (I : LI k h w P n) {lie : Int32} {EX : Int32 → Int32 → AH → Option (β × AH)} (ex : wp (EX (b2i (anyN (fun x => knownB w lie (nI k) (3 + x)) n)) (b2i (anyN (fun x => secretB w lie (nI k) (3 + x)) n)) h) Q) :
    wp (lp (fun _ _ _ _ => none) (fun (L772 : Int32 → Int32 → Int32 → AH → Option (β × AH)) (x105 : Int32) (x106 : Int32) (x107 : Int32) (h108 : AH) =>
      if nI n ≤ x107 then EX x105 x106 h108
      else
        aI h108 30 (some 120) x107 fun v145 =>
        jn (fun (x146 : Int32) (x147 : Int32) (h148 : AH) => L772 x146 x147 (x107 + 1) h148) fun j884 =>
        if v145 = 0 then
          aI h108 28 (some 56) x107 fun v149 =>
          clR h108 (f_L_far lie v149 h108) fun v151 h150 =>
          jn (fun (x152 : Int32) (h153 : AH) =>
            lp (fun _ _ _ => none) (fun (L841 : Int32 → Int32 → AH → Option (β × AH)) (x154 : Int32) (x155 : Int32) (h156 : AH) =>
              aI h156 28 (some 119) x107 fun v157 =>
              if v157 ≤ x155 then
                j884 (x105 ||| x152) x154 h156
              else
                aR h156 29 (some 58) x107 fun v158 =>
                aI h156 28 v158 x155 fun v159 =>
                clR h156 (f_L_far lie v159 h156) fun v161 h160 =>
                jn (fun (x162 : Int32) => L841 (x154 ||| x162) (x155 + 1) h160) fun j875 =>
                if nI k ≤ v161 then j875 (0 : Int32) else j875 (1 : Int32)) lpN x106 (1 : Int32) h153) fun j835 =>
          jn (fun (h163 : AH) => j835 (1 : Int32) h163) fun j830 =>
          if v151 < nI k then j830 h150
          else
            aI h150 28 (some 119) x107 fun v164 =>
            jn (fun (h165 : AH) => j835 (0 : Int32) h165) fun j834 =>
            if v164 ≤ 0 then j834 h150
            else
              aR h150 29 (some 58) x107 fun v166 =>
              aI h150 28 v166 (0 : Int32) fun v167 =>
              clR h150 (f_L_far lie v167 h150) fun v169 h168 =>
              if nI k ≤ v169 then j834 h168 else j830 h168
        else j884 x105 x106 h108) lpN (0 : Int32) (0 : Int32) (0 : Int32) h) Q := by
  have A := I.2.2.1
  refine wp_g4 n (fun i x y z g => x = b2i (anyN (fun x => knownB w lie (nI k) (3 + x)) i) ∧ y = b2i (anyN (fun x => secretB w lie (nI k) (3 + x)) i) ∧ z = nI i ∧ g = h) ⟨rfl, rfl, rfl, rfl⟩ (by omega) ?_ ?_
  · rintro L x y z g ⟨rfl, rfl, rfl, rfl⟩
    rw [if_pos (Int32.le_refl _)]
    exact ex
  · rintro L i x y z g hi ⟨rfl, rfl, rfl, rfl⟩ ih
    rw [if_neg (show ¬ nI n ≤ nI i by rw [nI_leI (by omega) (by omega)]; omega)]
    obtain ⟨sz, sz4, e119, e56, k3, b1, b2, b3, b4, b5⟩ := I.bx hi
    have hbox := I.2.1.2.2.2.2 i hi
    obtain ⟨rS, rR⟩ := A.2 i (by omega)
    have hrow : ∀ s, 1 ≤ s → s ≤ sz → hI g (59 + i) s = hI w 57 (4 * (3 + i) + (s - 1)) := fun s s1 s2 => b4 s s1 (by omega)
    have ok56 := okA_in A.1.2.1 (show i < 60 by omega) (by omega)
    have ok119 := okA_in A.1.2.2.2.2.1 (show i < 60 by omega) (by omega)
    have ok120 := okA_in A.1.2.2.2.2.2 (show i < 60 by omega) (by omega)
    have ok58 := okA_in A.1.2.2.2.1 (show i < 60 by omega) (by omega)
    refine wp_aI.mpr ⟨ok120, ?_⟩
    rw [nI_clamp (by omega), q_gI, b5]
    refine wp_jnP (fun j => ∀ a b, a = knownB w lie (nI k) (3 + i) → b = secretB w lie (nI k) (3 + i) → wp (j (b2i (anyN (fun x => knownB w lie (nI k) (3 + x)) i || a)) (b2i (anyN (fun x => secretB w lie (nI k) (3 + x)) i || b)) g) Q) (fun a b ha hb => ?_) (fun j884 h884 => ?_)
    · exact ih _ _ _ _ ⟨by rw [ha]; rfl, by rw [hb]; rfl, nI_1 i, rfl⟩
    · by_cases c : hI w 54 (3 + i) < 0
      · rw [if_pos c, if_pos rfl]
        have kB : knownB w lie (nI k) (3 + i) = (decide (far_ lie (liesNow_ w (3 + i)) < nI k) || (decide (0 < sz) && decide (far_ lie (hI w 52 (3 + i)) < nI k))) := by
          unfold knownB
          rw [hbox, decide_eq_true c, decide_eq_decide.mpr k3.symm]
          rfl
        have sB' : secretB w lie (nI k) (3 + i) = (decide (0 < sz) && anyN (secretS w lie (nI k) (3 + i)) (sz - 1)) := by
          unfold secretB
          rw [hbox, decide_eq_true c, decide_eq_decide.mpr k3.symm, e56]
          rfl
        refine wp_aI.mpr ⟨ok56, ?_⟩
        rw [nI_clamp (by omega), q_gI, b1]
        refine z_far _ _ ?_
        refine wp_jnP (fun j => ∀ a, a = knownB w lie (nI k) (3 + i) → wp (j (b2i a) g) Q) (fun a ha => ?_) (fun j835 h835 => ?_)
        · refine wp_g3 (sz - 1) (fun s x y g' => x = b2i (anyN (fun x => secretB w lie (nI k) (3 + x)) i || anyN (secretS w lie (nI k) (3 + i)) s) ∧ y = nI (s + 1) ∧ g' = g) ⟨by show _ = b2i (_ || false); rw [Bool.or_false], rfl, rfl⟩ (by omega) ?_ ?_
          · rintro L1 x y g' ⟨rfl, rfl, rfl⟩
            refine wp_aI.mpr ⟨ok119, ?_⟩
            rw [nI_clamp (by omega), q_gI, e119]
            rw [if_pos (show nI sz ≤ nI (sz - 1 + 1) by rw [nI_leI (by omega) (by omega)]; omega), b2i_or]
            refine h884 _ _ ha ?_
            rw [sB']
            by_cases z : 0 < sz
            · rw [decide_eq_true z]; rfl
            · rw [decide_eq_false z, show sz - 1 = 0 by omega]; rfl
          · rintro L1 s x y g' hs ⟨rfl, rfl, rfl⟩ ih1
            refine wp_aI.mpr ⟨ok119, ?_⟩
            rw [nI_clamp (by omega), q_gI, e119]
            rw [if_neg (show ¬ nI sz ≤ nI (s + 1) by rw [nI_leI (by omega) (by omega)]; omega)]
            refine wp_aR.mpr ⟨ok58, ?_⟩
            rw [nI_clamp (by omega), q_gR, rR]
            refine wp_aI.mpr ⟨okA_in rS (show s + 1 < 5 by omega) (by omega), ?_⟩
            rw [nI_clamp (by omega), q_gI, hrow (s + 1) (by omega) (by omega)]
            refine z_far _ _ ?_
            have fin : ∀ b, b = secretS w lie (nI k) (3 + i) s → wp (L1 (b2i (anyN (fun x => secretB w lie (nI k) (3 + x)) i || anyN (secretS w lie (nI k) (3 + i)) s) ||| b2i b) (nI (s + 1) + 1) g') Q := fun b hb => by
              refine ih1 _ _ _ ⟨?_, nI_1 _, rfl⟩
              rw [b2i_or, hb, Bool.or_assoc]
              rfl
            refine wp_jnP (fun j => ∀ b, b = secretS w lie (nI k) (3 + i) s → wp (j (b2i b)) Q) fin (fun j875 h875 => ?_)
            by_cases d : nI k ≤ far_ lie (hI w 57 (4 * (3 + i) + (s + 1 - 1)))
            · rw [if_pos d]
              exact h875 false (by unfold secretS; exact (decide_eq_false (Int32.not_lt.mpr d)).symm)
            · rw [if_neg d]
              exact h875 true (by unfold secretS; exact (decide_eq_true (Int32.not_le.mp d)).symm)
        · refine wp_jnP (fun j => knownB w lie (nI k) (3 + i) = true → wp (j g) Q) (fun hb => h835 true hb.symm) (fun j830 h830 => ?_)
          by_cases d : far_ lie (liesNow_ w (3 + i)) < nI k
          · rw [if_pos d]
            exact h830 (by rw [kB, decide_eq_true d]; rfl)
          · rw [if_neg d]
            refine wp_aI.mpr ⟨ok119, ?_⟩
            rw [nI_clamp (by omega), q_gI, e119]
            refine wp_jnP (fun j => knownB w lie (nI k) (3 + i) = false → wp (j g) Q) (fun hb => h835 false hb.symm) (fun j834 h834 => ?_)
            by_cases z : 0 < sz
            · rw [if_neg (show ¬ nI sz ≤ (0 : Int32) by show ¬ nI sz ≤ nI 0; rw [nI_leI (by omega) (by omega)]; omega)]
              refine wp_aR.mpr ⟨ok58, ?_⟩
              rw [nI_clamp (by omega), q_gR, rR]
              refine wp_aI.mpr ⟨okA_in (i := 0) rS (by omega) (by omega), ?_⟩
              rw [show ((0 : Int32)).toNatClampNeg = 0 from rfl, q_gI, b3]
              refine z_far _ _ ?_
              by_cases f : nI k ≤ far_ lie (hI w 52 (3 + i))
              · rw [if_pos f]
                exact h834 (by rw [kB, decide_eq_false d, decide_eq_false (Int32.not_lt.mpr f)]; simp)
              · rw [if_neg f]
                exact h830 (by rw [kB, decide_eq_true (Int32.not_le.mp f), decide_eq_true z]; simp)
            · rw [if_pos (show nI sz ≤ (0 : Int32) by show nI sz ≤ nI 0; rw [nI_leI (by omega) (by omega)]; omega)]
              exact h834 (by rw [kB, decide_eq_false d, decide_eq_false z]; rfl)
      · rw [if_neg c, if_neg (by decide)]
        have := h884 false false (by unfold knownB; rw [decide_eq_false c]; simp) (by unfold secretB; rw [decide_eq_false c]; simp)
        rw [Bool.or_false, Bool.or_false] at this
        exact this
end
