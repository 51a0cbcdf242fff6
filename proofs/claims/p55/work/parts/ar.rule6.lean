/-! rule: the reference's words -/
def codeW (w : AH) (b n : Nat) : Int64 := foldN (fun k v => 27 * v + (hI w 68 (b + k)).toInt64 - 96) 0 n
