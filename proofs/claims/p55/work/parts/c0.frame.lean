/-! WHAT THE INVARIANTS READ; all of them together -/
theorem WN.fr {w w1 : AH} (W : WN w) (s3 : hI w1 49 3 = hI w 49 3) (s13 : hI w1 49 13 = hI w 49 13) (s17 : hI w1 49 17 = hI w 49 17) (s33 : hI w1 49 33 = hI w 49 33) (s11 : hI w1 49 11 = hI w 49 11) (s65 : hI w1 49 65 = hI w 49 65) (s1 : hI w1 49 1 = hI w 49 1) (e51 : hI w1 51 = hI w 51) : WN w1 := by
  unfold WN nB nM nL nT nS nW at *
  simp only [s3, s13, s17, s33, s11, s65, s1, e51]
  exact W
theorem WB.fr {w w1 : AH} (W : WB w) (s3 : hI w1 49 3 = hI w 49 3) (e51 : hI w1 51 = hI w 51) (e55 : hI w1 55 = hI w 55) (e52 : hI w1 52 = hI w 52) (e56 : hI w1 56 = hI w 56) (e57 : hI w1 57 = hI w 57) : WB w1 := by
  unfold WB nB at *
  simp only [s3, e51, e55, e52, e56, e57]
  exact W
theorem WM.fr {w w1 : AH} (W : WM w) (s3 : hI w1 49 3 = hI w 49 3) (s13 : hI w1 49 13 = hI w 49 13) (e51 : hI w1 51 = hI w 51) (e59 : hI w1 59 = hI w 59) (e60 : hI w1 60 = hI w 60) : WM w1 := by
  unfold WM nB nM at *
  simp only [s3, s13, e51, e59, e60]
  exact W
theorem WL.fr {w w1 : AH} (W : WL w) (s3 : hI w1 49 3 = hI w 49 3) (s17 : hI w1 49 17 = hI w 49 17) (e51 : hI w1 51 = hI w 51) (e62 : hI w1 62 = hI w 62) (e63 : hI w1 63 = hI w 63) (e64 : hI w1 64 = hI w 64) (e65 : hI w1 65 = hI w 65) : WL w1 := by
  unfold WL nB nL at *
  simp only [s3, s17, e51, e62, e63, e64, e65]
  exact W
theorem WP.fr {w w1 : AH} (W : WP w) (s3 : hI w1 49 3 = hI w 49 3) (e51 : hI w1 51 = hI w 51) (e66 : hI w1 66 = hI w 66) (e67 : hI w1 67 = hI w 67) : WP w1 := by
  unfold WP nB at *
  simp only [s3, e51, e66, e67]
  exact W
theorem WA.fr {w w1 : AH} (W : WA w) (s3 : hI w1 49 3 = hI w 49 3) (e51 : hI w1 51 = hI w 51) (e89 : hI w1 89 = hI w 89) (e90 : hI w1 90 = hI w 90) : WA w1 := by
  unfold WA nB at *
  simp only [s3, e51, e89, e90]
  exact W
theorem WT.fr {w w1 : AH} (W : WT w) (s3 : hI w1 49 3 = hI w 49 3) (s17 : hI w1 49 17 = hI w 49 17) (e51 : hI w1 51 = hI w 51) (e86 : hI w1 86 = hI w 86) (e87 : hI w1 87 = hI w 87) (e88 : hI w1 88 = hI w 88) : WT w1 := by
  unfold WT nB nL at *
  simp only [s3, s17, e51, e86, e87, e88]
  exact W
theorem WS.fr {w w1 : AH} (W : WS w) (s11 : hI w1 49 11 = hI w 49 11) (e50 : hI w1 50 = hI w 50) (e58 : hI w1 58 = hI w 58) : WS w1 := by
  unfold WS nS at *
  simp only [s11, e50, e58]
  exact W
theorem WV.fr {w w1 : AH} (W : WV w) (s75 : hI w1 49 75 = hI w 49 75) (s76 : hI w1 49 76 = hI w 49 76) : WV w1 := by
  unfold WV  at *
  simp only [s75, s76]
  exact W
theorem WH.fr {w w1 : AH} (W : WH w) (s3 : hI w1 49 3 = hI w 49 3) (e103 : hI w1 103 = hI w 103) (e104 : hI w1 104 = hI w 104) : WH w1 := by
  unfold WH nB at *
  simp only [s3, e103, e104]
  exact W
theorem WG.fr {w w1 : AH} {P : Nat → Prog} (W : WG w P) (s33 : hI w1 49 33 = hI w 49 33) : WG w1 P := by
  unfold WG nT at *
  simp only [s33]
  exact W
theorem WK.fr {w w1 : AH} (W : WK w) (s3 : hI w1 49 3 = hI w 49 3) (e51 : hI w1 51 = hI w 51) (e98 : hI w1 98 = hI w 98) : WK w1 := by
  unfold WK nB at *
  simp only [s3, e51, e98]
  exact W
theorem WF1.fr {w w1 : AH} (W : WF1 w) (s25 : hI w1 49 25 = hI w 49 25) : WF1 w1 := by
  unfold WF1  at *
  simp only [s25]
  exact W
theorem WBy.fr {w w1 : AH} (W : WBy w) (e68 : hI w1 68 = hI w 68) : WBy w1 := by
  unfold WBy  at *
  simp only [e68]
  exact W
theorem WD.fr {w w1 : AH} (W : WD w) (s3 : hI w1 49 3 = hI w 49 3) (e51 : hI w1 51 = hI w 51) (e80 : hI w1 80 = hI w 80) (e81 : hI w1 81 = hI w 81) (e82 : hI w1 82 = hI w 82) (e83 : hI w1 83 = hI w 83) (e84 : hI w1 84 = hI w 84) : WD w1 := by
  unfold WD nB at *
  simp only [s3, e51, e80, e81, e82, e83, e84]
  exact W
theorem WWo.fr {w w1 : AH} (W : WWo w) (s3 : hI w1 49 3 = hI w 49 3) (s65 : hI w1 49 65 = hI w 49 65) (e51 : hI w1 51 = hI w 51) (e92 : hI w1 92 = hI w 92) (e93 : hI w1 93 = hI w 93) (e94 : hI w1 94 = hI w 94) : WWo w1 := by
  unfold WWo nB nW at *
  simp only [s3, s65, e51, e92, e93, e94]
  exact W
theorem WZr.fr {w w1 : AH} (W : WZr w) (s3 : hI w1 49 3 = hI w 49 3) (e80 : hI w1 80 = hI w 80) (e86 : hI w1 86 = hI w 86) (e89 : hI w1 89 = hI w 89) : WZr w1 := by
  unfold WZr nB at *
  simp only [s3, e80, e86, e89]
  exact W
def WF (w : AH) (P : Nat → Prog) : Prop := WN w ∧ WB w ∧ WM w ∧ WL w ∧ WP w ∧ WA w ∧ WT w ∧ WS w ∧ WV w ∧ WH w ∧ WG w P ∧ WK w ∧ WF1 w ∧ WBy w ∧ WD w ∧ WWo w ∧ WZr w
theorem WF.WN {w : AH} {P : Nat → Prog} (G : WF w P) : WN w := G.1
theorem WF.WB {w : AH} {P : Nat → Prog} (G : WF w P) : WB w := G.2.1
theorem WF.WM {w : AH} {P : Nat → Prog} (G : WF w P) : WM w := G.2.2.1
theorem WF.WL {w : AH} {P : Nat → Prog} (G : WF w P) : WL w := G.2.2.2.1
theorem WF.WP {w : AH} {P : Nat → Prog} (G : WF w P) : WP w := G.2.2.2.2.1
theorem WF.WA {w : AH} {P : Nat → Prog} (G : WF w P) : WA w := G.2.2.2.2.2.1
theorem WF.WT {w : AH} {P : Nat → Prog} (G : WF w P) : WT w := G.2.2.2.2.2.2.1
theorem WF.WS {w : AH} {P : Nat → Prog} (G : WF w P) : WS w := G.2.2.2.2.2.2.2.1
theorem WF.WV {w : AH} {P : Nat → Prog} (G : WF w P) : WV w := G.2.2.2.2.2.2.2.2.1
theorem WF.WH {w : AH} {P : Nat → Prog} (G : WF w P) : WH w := G.2.2.2.2.2.2.2.2.2.1
theorem WF.WG {w : AH} {P : Nat → Prog} (G : WF w P) : WG w P := G.2.2.2.2.2.2.2.2.2.2.1
theorem WF.WK {w : AH} {P : Nat → Prog} (G : WF w P) : WK w := G.2.2.2.2.2.2.2.2.2.2.2.1
theorem WF.WF1 {w : AH} {P : Nat → Prog} (G : WF w P) : WF1 w := G.2.2.2.2.2.2.2.2.2.2.2.2.1
theorem WF.WBy {w : AH} {P : Nat → Prog} (G : WF w P) : WBy w := G.2.2.2.2.2.2.2.2.2.2.2.2.2.1
theorem WF.WD {w : AH} {P : Nat → Prog} (G : WF w P) : WD w := G.2.2.2.2.2.2.2.2.2.2.2.2.2.2.1
theorem WF.WWo {w : AH} {P : Nat → Prog} (G : WF w P) : WWo w := G.2.2.2.2.2.2.2.2.2.2.2.2.2.2.2.1
theorem WF.WZr {w : AH} {P : Nat → Prog} (G : WF w P) : WZr w := G.2.2.2.2.2.2.2.2.2.2.2.2.2.2.2.2
theorem WF.fr {w w1 : AH} {P : Nat → Prog} (G : WF w P) (s : ∀ k, k ∈ [1, 3, 11, 13, 17, 25, 33, 65, 75, 76] → hI w1 49 k = hI w 49 k) (e : ∀ a, a ∈ [50, 51, 52, 55, 56, 57, 58, 59, 60, 62, 63, 64, 65, 66, 67, 68, 80, 81, 82, 83, 84, 86, 87, 88, 89, 90, 92, 93, 94, 98, 103, 104] → hI w1 a = hI w a) : WF w1 P :=
  ⟨G.WN.fr (s 3 (by decide)) (s 13 (by decide)) (s 17 (by decide)) (s 33 (by decide)) (s 11 (by decide)) (s 65 (by decide)) (s 1 (by decide)) (e 51 (by decide)), G.WB.fr (s 3 (by decide)) (e 51 (by decide)) (e 55 (by decide)) (e 52 (by decide)) (e 56 (by decide)) (e 57 (by decide)), G.WM.fr (s 3 (by decide)) (s 13 (by decide)) (e 51 (by decide)) (e 59 (by decide)) (e 60 (by decide)), G.WL.fr (s 3 (by decide)) (s 17 (by decide)) (e 51 (by decide)) (e 62 (by decide)) (e 63 (by decide)) (e 64 (by decide)) (e 65 (by decide)), G.WP.fr (s 3 (by decide)) (e 51 (by decide)) (e 66 (by decide)) (e 67 (by decide)), G.WA.fr (s 3 (by decide)) (e 51 (by decide)) (e 89 (by decide)) (e 90 (by decide)), G.WT.fr (s 3 (by decide)) (s 17 (by decide)) (e 51 (by decide)) (e 86 (by decide)) (e 87 (by decide)) (e 88 (by decide)), G.WS.fr (s 11 (by decide)) (e 50 (by decide)) (e 58 (by decide)), G.WV.fr (s 75 (by decide)) (s 76 (by decide)), G.WH.fr (s 3 (by decide)) (e 103 (by decide)) (e 104 (by decide)), G.WG.fr (s 33 (by decide)), G.WK.fr (s 3 (by decide)) (e 51 (by decide)) (e 98 (by decide)), G.WF1.fr (s 25 (by decide)), G.WBy.fr (e 68 (by decide)), G.WD.fr (s 3 (by decide)) (e 51 (by decide)) (e 80 (by decide)) (e 81 (by decide)) (e 82 (by decide)) (e 83 (by decide)) (e 84 (by decide)), G.WWo.fr (s 3 (by decide)) (s 65 (by decide)) (e 51 (by decide)) (e 92 (by decide)) (e 93 (by decide)) (e 94 (by decide)), G.WZr.fr (s 3 (by decide)) (e 80 (by decide)) (e 86 (by decide)) (e 89 (by decide))⟩
