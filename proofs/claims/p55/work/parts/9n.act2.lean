/-! the call act: the class's way -/
theorem okT_w (h : AH) (a k : Nat) (v : Int32) (cs : List Nat) (r : Option Nat) : okT (wI h a k v) cs r = okT h cs r := id rfl
