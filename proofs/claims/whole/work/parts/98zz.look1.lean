/-! ===== LOOK: words of the throws ===== -/
def yIo : String := "java/lang/IndexOutOfBoundsException"
def yNo : String := "java/util/NoSuchElementException"
def yRt : String := "java/lang/RuntimeException"
def yNx : List String := ["java/lang/Exception"]
def yB7 : ByteArray := ⟨#[0x2a, 0x2b, 0xb7, 0x00, 0x07, 0xb1]⟩
def yB13 : ByteArray := ⟨#[0x2a, 0x2b, 0xb7, 0x00, 0x0d, 0xb1]⟩
/-- the words that warming keeps by laws of their own -/
def yBad : List Cond := [.castable yIo yIo, .castable yNo yNo, .declares (Bundle.initS yRt), .declares (Bundle.initS "java/lang/Exception"), .declares (Bundle.initS Bundle.tN)]
set_option maxRecDepth 100000 in
theorem yW1 : (Cond.classLink "SkyChairs" 129 yIo :: Cond.initialized yIo :: yAtS "SkyChairs" 133 yIo yRt 7 yB7 yNx).all (fun w => decide (w ∈ yBad) || (goodWord w && decide (w ∈ lw_tbl))) = true := by decide +kernel
set_option maxRecDepth 100000 in
theorem yW2 : (Cond.classLink "SkyChairs" 152 yNo :: Cond.initialized yNo :: yAtS "SkyChairs" 156 yNo yRt 13 yB13 yNx).all (fun w => decide (w ∈ yBad) || (goodWord w && decide (w ∈ lw_tbl))) = true := by decide +kernel
