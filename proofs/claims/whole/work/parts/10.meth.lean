/-! ===== METHODS: what the tables say of each (written by a program) ===== -/
def zMeV (M' : zMd) (n ci : Nat) : Prop := zCode M' ∈ zG ∧ plainFor M'.2.1 = true ∧ Cond.instanceMethod M'.2.1 ∈ zG ∧ Cond.selects M'.2.1.cls M'.2.1 M'.2.1 ∈ zG ∧ Cond.initialized M'.2.1.cls ∈ zG ∧ ci < 11 ∧ zC ci = M'.2.1.cls ∧ zDesc M' n
def zMeS (M' : zMd) (n : Nat) : Prop := zCode M' ∈ zG ∧ plainFor M'.2.1 = true ∧ Cond.static M'.2.1 ∈ zG ∧ Cond.initialized M'.2.1.cls ∈ zG ∧ zDesc M' n
def zMeI (M' : zMd) (n : Nat) : Prop := zCode M' ∈ zG ∧ plainFor M'.2.1 = true ∧ Cond.instanceMethod M'.2.1 ∈ zG ∧ Cond.initialized M'.2.1.cls ∈ zG ∧ M'.2.1.name = "<init>" ∧ M'.2.2.2.2 = none ∧ zDesc M' n
section ZM
variable {w : zP} {M M' : zMd} {R R' : Room} {Q : Option Value → zMem → Prop} {kc ks pc : Nat} {lv : zLoc} {st : List Value} {μ : zMem}
theorem z_cV {i ci idx : Nat} (As rest : List Value) (me : zMeV M' As.length ci) (lk : Cond.methodLink M.2.1.cls idx M'.2.1 ∈ zG) (hd : decode M.2.2.1 pc = .ok (.invokevirtual idx, 3)) (hln : (lg_sl (.ref i :: As)).length ≤ M'.2.2.2.1) (hfit : zFit R R' M' kc ks (rest.map fun v => v.category).sum) (hst : st = As.reverse ++ .ref i :: rest) (hsh : μ.1[i]? = some (.inr ci)) (h : zXM w M' R' (.ref i :: As) μ (fun v μ' => zX w M R Q (kc + R'.cells) (ks + R'.slots) (pc + 3) lv (v.toList ++ rest) μ')) : zX w M R Q kc ks pc lv st μ :=
  z_callV hd me.1 me.2.1 hln hfit lk me.2.2.1 me.2.2.2.1 me.2.2.2.2.1 me.2.2.2.2.2.1 me.2.2.2.2.2.2.1 hsh me.2.2.2.2.2.2.2 hst h
theorem z_cS {idx : Nat} (As rest : List Value) (me : zMeS M' As.length) (lk : Cond.methodLink M.2.1.cls idx M'.2.1 ∈ zG) (hd : decode M.2.2.1 pc = .ok (.invokestatic idx, 3)) (hln : (lg_sl As).length ≤ M'.2.2.2.1) (hfit : zFit R R' M' kc ks (rest.map fun v => v.category).sum) (hst : st = As.reverse ++ rest) (h : zXM w M' R' As μ (fun v μ' => zX w M R Q (kc + R'.cells) (ks + R'.slots) (pc + 3) lv (v.toList ++ rest) μ')) : zX w M R Q kc ks pc lv st μ :=
  z_callS hd me.1 me.2.1 hln hfit lk me.2.2.1 me.2.2.2.1 me.2.2.2.2 hst h
theorem z_cI {i idx : Nat} (As rest : List Value) (me : zMeI M' As.length) (lk : Cond.methodLink M.2.1.cls idx M'.2.1 ∈ zG) (hd : decode M.2.2.1 pc = .ok (.invokespecial idx, 3)) (hln : (lg_sl (.ref i :: As)).length ≤ M'.2.2.2.1) (hfit : zFit R R' M' kc ks (rest.map fun v => v.category).sum) (hst : st = As.reverse ++ .ref i :: rest) (h : zXM w M' R' (.ref i :: As) μ (fun v μ' => zX w M R Q (kc + R'.cells) (ks + R'.slots) (pc + 3) lv (v.toList ++ rest) μ')) : zX w M R Q kc ks pc lv st μ :=
  z_callI hd me.2.2.2.2.2.1 me.2.2.2.2.1 me.1 me.2.1 hln hfit lk me.2.2.1 me.2.2.2.1 me.2.2.2.2.2.2 hst h
theorem z_cIN {i idx : Nat} {host : String} (As rest : List Value) (me : zMeI M' As.length) (lk : ∀ (U : State) (H : Heap), zex w U H → va_Nw (.methodLinkNest M.2.1.cls idx M'.2.1 host) U) (hd : decode M.2.2.1 pc = .ok (.invokespecial idx, 3)) (hln : (lg_sl (.ref i :: As)).length ≤ M'.2.2.2.1) (hfit : zFit R R' M' kc ks (rest.map fun v => v.category).sum) (hst : st = As.reverse ++ .ref i :: rest) (h : zXM w M' R' (.ref i :: As) μ (fun v μ' => zX w M R Q (kc + R'.cells) (ks + R'.slots) (pc + 3) lv (v.toList ++ rest) μ')) : zX w M R Q kc ks pc lv st μ :=
  z_callIN hd me.2.2.2.2.2.1 me.2.2.2.2.1 me.1 me.2.1 hln hfit lk me.2.2.1 me.2.2.2.1 me.2.2.2.2.2.2 hst h
theorem z_cSN {idx : Nat} {host : String} (As rest : List Value) (me : zMeS M' As.length) (lk : ∀ (U : State) (H : Heap), zex w U H → va_Nw (.methodLinkNest M.2.1.cls idx M'.2.1 host) U) (hd : decode M.2.2.1 pc = .ok (.invokestatic idx, 3)) (hln : (lg_sl As).length ≤ M'.2.2.2.1) (hfit : zFit R R' M' kc ks (rest.map fun v => v.category).sum) (hst : st = As.reverse ++ rest) (h : zXM w M' R' As μ (fun v μ' => zX w M R Q (kc + R'.cells) (ks + R'.slots) (pc + 3) lv (v.toList ++ rest) μ')) : zX w M R Q kc ks pc lv st μ :=
  z_callSN hd me.1 me.2.1 hln hfit lk me.2.2.1 me.2.2.2.1 me.2.2.2.2 hst h
end ZM
def mX0_init : zMd := (0, yX0_init, cX0_init, 1, (Option.none : Option Jvm.ClassFile.FieldType))
def rX0_init : Room := { frames := 1, cells := 0, slots := 0, locals := 20 }
theorem eX0_init : zMeI mX0_init 0 := ⟨zt2 114 (rfl) rfl, plainFor_of_name (by decide +kernel), zt2 113 (by decide +kernel) rfl, zt1 12 (by decide +kernel) rfl, rfl, rfl, ⟨by decide +kernel, by decide +kernel, by decide +kernel⟩⟩
def mX0_addDay : zMd := (0, yX0_addDay, cX0_addDay, 3, (Option.some .int))
def rX0_addDay : Room := { frames := 1, cells := 0, slots := 0, locals := 23 }
theorem eX0_addDay : zMeV mX0_addDay 2 0 := ⟨zt5 82 (rfl) rfl, plainFor_of_name (by decide +kernel), zt5 80 (by decide +kernel) rfl, zt5 81 (by decide +kernel) rfl, zt1 12 (by decide +kernel) rfl, by decide, rfl, ⟨by decide +kernel, by decide +kernel, by decide +kernel⟩⟩
def mX0_addStrike : zMd := (0, yX0_addStrike, cX0_addStrike, 2, (Option.some .int))
def rX0_addStrike : Room := { frames := 1, cells := 0, slots := 0, locals := 23 }
theorem eX0_addStrike : zMeV mX0_addStrike 1 0 := ⟨zt5 94 (rfl) rfl, plainFor_of_name (by decide +kernel), zt5 92 (by decide +kernel) rfl, zt5 93 (by decide +kernel) rfl, zt1 12 (by decide +kernel) rfl, by decide, rfl, ⟨by decide +kernel, by decide +kernel, by decide +kernel⟩⟩
def mX0_write : zMd := (0, yX0_write, cX0_write, 4, (Option.some .int))
def rX0_write : Room := { frames := 0, cells := 0, slots := 0, locals := 0 }
theorem eX0_write : zMeV mX0_write 3 0 := ⟨zt5 86 (rfl) rfl, plainFor_of_name (by decide +kernel), zt5 85 (by decide +kernel) rfl, zp3 13 rfl, zt1 12 (by decide +kernel) rfl, by decide, rfl, ⟨by decide +kernel, by decide +kernel, by decide +kernel⟩⟩
def mX0_knownCount : zMd := (0, yX0_knownCount, cX0_knownCount, 1, (Option.some .int))
def rX0_knownCount : Room := { frames := 1, cells := 0, slots := 0, locals := 21 }
theorem eX0_knownCount : zMeV mX0_knownCount 0 0 := ⟨zt5 115 (rfl) rfl, plainFor_of_name (by decide +kernel), zt5 113 (by decide +kernel) rfl, zt5 114 (by decide +kernel) rfl, zt1 12 (by decide +kernel) rfl, by decide, rfl, ⟨by decide +kernel, by decide +kernel, by decide +kernel⟩⟩
def mX0_rightOf : zMd := (0, yX0_rightOf, cX0_rightOf, 6, (Option.some .int))
def rX0_rightOf : Room := { frames := 2, cells := 0, slots := 0, locals := 41 }
theorem eX0_rightOf : zMeV mX0_rightOf 3 0 := ⟨zt5 110 (rfl) rfl, plainFor_of_name (by decide +kernel), zt5 108 (by decide +kernel) rfl, zt5 109 (by decide +kernel) rfl, zt1 12 (by decide +kernel) rfl, by decide, rfl, ⟨by decide +kernel, by decide +kernel, by decide +kernel⟩⟩
def mX0_isThere : zMd := (0, yX0_isThere, cX0_isThere, 6, (Option.some .boolean))
def rX0_isThere : Room := { frames := 0, cells := 0, slots := 0, locals := 0 }
theorem eX0_isThere : zMeS mX0_isThere 4 := ⟨zt5 119 (rfl) rfl, plainFor_of_name (by decide +kernel), zt5 118 (by decide +kernel) rfl, zt1 12 (by decide +kernel) rfl, ⟨by decide +kernel, by decide +kernel, by decide +kernel⟩⟩
def mX1_init : zMd := (1, yX1_init, cX1_init, 1, (Option.none : Option Jvm.ClassFile.FieldType))
def rX1_init : Room := { frames := 1, cells := 0, slots := 0, locals := 20 }
theorem eX1_init : zMeI mX1_init 0 := ⟨zt2 91 (rfl) rfl, plainFor_of_name (by decide +kernel), zt2 90 (by decide +kernel) rfl, zt1 11 (by decide +kernel) rfl, rfl, rfl, ⟨by decide +kernel, by decide +kernel, by decide +kernel⟩⟩
def mX1_noteChairs : zMd := (1, yX1_noteChairs, cX1_noteChairs, 5, (Option.none : Option Jvm.ClassFile.FieldType))
def rX1_noteChairs : Room := { frames := 2, cells := 0, slots := 0, locals := 60 }
theorem eX1_noteChairs : zMeV mX1_noteChairs 3 1 := ⟨zt4 104 (rfl) rfl, plainFor_of_name (by decide +kernel), zt4 102 (by decide +kernel) rfl, zt4 103 (by decide +kernel) rfl, zt1 11 (by decide +kernel) rfl, by decide, rfl, ⟨by decide +kernel, by decide +kernel, by decide +kernel⟩⟩
def mX1_noteRoute : zMd := (1, yX1_noteRoute, cX1_noteRoute, 2, (Option.none : Option Jvm.ClassFile.FieldType))
def rX1_noteRoute : Room := { frames := 2, cells := 0, slots := 0, locals := 60 }
theorem eX1_noteRoute : zMeV mX1_noteRoute 1 1 := ⟨zt4 129 (rfl) rfl, plainFor_of_name (by decide +kernel), zt4 127 (by decide +kernel) rfl, zt4 128 (by decide +kernel) rfl, zt1 11 (by decide +kernel) rfl, by decide, rfl, ⟨by decide +kernel, by decide +kernel, by decide +kernel⟩⟩
def mX1_makeRoom : zMd := (1, yX1_makeRoom, cX1_makeRoom, 1, (Option.none : Option Jvm.ClassFile.FieldType))
def rX1_makeRoom : Room := { frames := 1, cells := 0, slots := 0, locals := 40 }
theorem eX1_makeRoom : zMeV mX1_makeRoom 0 1 := ⟨zt4 108 (rfl) rfl, plainFor_of_name (by decide +kernel), zt4 107 (by decide +kernel) rfl, zp2 12 rfl, zt1 11 (by decide +kernel) rfl, by decide, rfl, ⟨by decide +kernel, by decide +kernel, by decide +kernel⟩⟩
def mX1_takeBack : zMd := (1, yX1_takeBack, cX1_takeBack, 3, (Option.none : Option Jvm.ClassFile.FieldType))
def rX1_takeBack : Room := { frames := 2, cells := 0, slots := 0, locals := 42 }
theorem eX1_takeBack : zMeV mX1_takeBack 1 1 := ⟨zt5 157 (rfl) rfl, plainFor_of_name (by decide +kernel), zt5 155 (by decide +kernel) rfl, zt5 156 (by decide +kernel) rfl, zt1 11 (by decide +kernel) rfl, by decide, rfl, ⟨by decide +kernel, by decide +kernel, by decide +kernel⟩⟩
def mX2_init : zMd := (2, yX2_init, cX2_init, 1, (Option.none : Option Jvm.ClassFile.FieldType))
def rX2_init : Room := { frames := 1, cells := 0, slots := 0, locals := 20 }
theorem eX2_init : zMeI mX2_init 0 := ⟨zt1 218 (rfl) rfl, plainFor_of_name (by decide +kernel), zt1 217 (by decide +kernel) rfl, zt1 9 (by decide +kernel) rfl, rfl, rfl, ⟨by decide +kernel, by decide +kernel, by decide +kernel⟩⟩
def mX2_clear : zMd := (2, yX2_clear, cX2_clear, 3, (Option.none : Option Jvm.ClassFile.FieldType))
def rX2_clear : Room := { frames := 1, cells := 0, slots := 0, locals := 23 }
theorem eX2_clear : zMeV mX2_clear 2 2 := ⟨zt3 44 (rfl) rfl, plainFor_of_name (by decide +kernel), zt3 42 (by decide +kernel) rfl, zt3 43 (by decide +kernel) rfl, zt1 9 (by decide +kernel) rfl, by decide, rfl, ⟨by decide +kernel, by decide +kernel, by decide +kernel⟩⟩
def mX2_copyFrom : zMd := (2, yX2_copyFrom, cX2_copyFrom, 2, (Option.none : Option Jvm.ClassFile.FieldType))
def rX2_copyFrom : Room := { frames := 1, cells := 0, slots := 0, locals := 40 }
theorem eX2_copyFrom : zMeV mX2_copyFrom 1 2 := ⟨zt5 15 (rfl) rfl, plainFor_of_name (by decide +kernel), zt5 13 (by decide +kernel) rfl, zt5 14 (by decide +kernel) rfl, zt1 9 (by decide +kernel) rfl, by decide, rfl, ⟨by decide +kernel, by decide +kernel, by decide +kernel⟩⟩
def mX2_following : zMd := (2, yX2_following, cX2_following, 2, (Option.some .long))
def rX2_following : Room := { frames := 0, cells := 0, slots := 0, locals := 0 }
theorem eX2_following : zMeS mX2_following 1 := ⟨zt4 227 (rfl) rfl, plainFor_of_name (by decide +kernel), zt4 226 (by decide +kernel) rfl, zt1 9 (by decide +kernel) rfl, ⟨by decide +kernel, by decide +kernel, by decide +kernel⟩⟩
def mX2_numberOf : zMd := (2, yX2_numberOf, cX2_numberOf, 2, (Option.some .long))
def rX2_numberOf : Room := { frames := 0, cells := 0, slots := 0, locals := 0 }
theorem eX2_numberOf : zMeS mX2_numberOf 1 := ⟨zt4 233 (rfl) rfl, plainFor_of_name (by decide +kernel), zt4 232 (by decide +kernel) rfl, zt1 9 (by decide +kernel) rfl, ⟨by decide +kernel, by decide +kernel, by decide +kernel⟩⟩
def mX2_setRoute : zMd := (2, yX2_setRoute, cX2_setRoute, 4, (Option.none : Option Jvm.ClassFile.FieldType))
def rX2_setRoute : Room := { frames := 0, cells := 0, slots := 0, locals := 0 }
theorem eX2_setRoute : zMeV mX2_setRoute 2 2 := ⟨zt3 49 (rfl) rfl, plainFor_of_name (by decide +kernel), zt3 47 (by decide +kernel) rfl, zt3 48 (by decide +kernel) rfl, zt1 9 (by decide +kernel) rfl, by decide, rfl, ⟨by decide +kernel, by decide +kernel, by decide +kernel⟩⟩
def mX2_balance : zMd := (2, yX2_balance, cX2_balance, 2, (Option.some .int))
def rX2_balance : Room := { frames := 0, cells := 0, slots := 0, locals := 0 }
theorem eX2_balance : zMeV mX2_balance 1 2 := ⟨zt5 2 (rfl) rfl, plainFor_of_name (by decide +kernel), zt5 0 (by decide +kernel) rfl, zt5 1 (by decide +kernel) rfl, zt1 9 (by decide +kernel) rfl, by decide, rfl, ⟨by decide +kernel, by decide +kernel, by decide +kernel⟩⟩
def mX2_isPlace : zMd := (2, yX2_isPlace, cX2_isPlace, 1, (Option.some .boolean))
def rX2_isPlace : Room := { frames := 0, cells := 0, slots := 0, locals := 0 }
theorem eX2_isPlace : zMeS mX2_isPlace 1 := ⟨zt4 90 (rfl) rfl, plainFor_of_name (by decide +kernel), zt4 89 (by decide +kernel) rfl, zt1 9 (by decide +kernel) rfl, ⟨by decide +kernel, by decide +kernel, by decide +kernel⟩⟩
def mX2_putOut : zMd := (2, yX2_putOut, cX2_putOut, 7, (Option.some .long))
def rX2_putOut : Room := { frames := 2, cells := 0, slots := 0, locals := 42 }
theorem eX2_putOut : zMeV mX2_putOut 2 2 := ⟨zt4 83 (rfl) rfl, plainFor_of_name (by decide +kernel), zt4 81 (by decide +kernel) rfl, zt4 82 (by decide +kernel) rfl, zt1 9 (by decide +kernel) rfl, by decide, rfl, ⟨by decide +kernel, by decide +kernel, by decide +kernel⟩⟩
def mX2_bringIn : zMd := (2, yX2_bringIn, cX2_bringIn, 7, (Option.some .long))
def rX2_bringIn : Room := { frames := 2, cells := 0, slots := 0, locals := 41 }
theorem eX2_bringIn : zMeV mX2_bringIn 2 2 := ⟨zt4 117 (rfl) rfl, plainFor_of_name (by decide +kernel), zt4 115 (by decide +kernel) rfl, zt4 116 (by decide +kernel) rfl, zt1 9 (by decide +kernel) rfl, by decide, rfl, ⟨by decide +kernel, by decide +kernel, by decide +kernel⟩⟩
def mX2_bringAll : zMd := (2, yX2_bringAll, cX2_bringAll, 2, (Option.none : Option Jvm.ClassFile.FieldType))
def rX2_bringAll : Room := { frames := 2, cells := 0, slots := 0, locals := 41 }
theorem eX2_bringAll : zMeV mX2_bringAll 0 2 := ⟨zt4 146 (rfl) rfl, plainFor_of_name (by decide +kernel), zt4 144 (by decide +kernel) rfl, zt4 145 (by decide +kernel) rfl, zt1 9 (by decide +kernel) rfl, by decide, rfl, ⟨by decide +kernel, by decide +kernel, by decide +kernel⟩⟩
def mX2_setOut : zMd := (2, yX2_setOut, cX2_setOut, 3, (Option.none : Option Jvm.ClassFile.FieldType))
def rX2_setOut : Room := { frames := 1, cells := 0, slots := 0, locals := 20 }
theorem eX2_setOut : zMeV mX2_setOut 2 2 := ⟨zt4 87 (rfl) rfl, plainFor_of_name (by decide +kernel), zt4 85 (by decide +kernel) rfl, zt4 86 (by decide +kernel) rfl, zt1 9 (by decide +kernel) rfl, by decide, rfl, ⟨by decide +kernel, by decide +kernel, by decide +kernel⟩⟩
def mX2_setStacked : zMd := (2, yX2_setStacked, cX2_setStacked, 2, (Option.none : Option Jvm.ClassFile.FieldType))
def rX2_setStacked : Room := { frames := 1, cells := 0, slots := 0, locals := 20 }
theorem eX2_setStacked : zMeV mX2_setStacked 1 2 := ⟨zt4 121 (rfl) rfl, plainFor_of_name (by decide +kernel), zt4 119 (by decide +kernel) rfl, zt4 120 (by decide +kernel) rfl, zt1 9 (by decide +kernel) rfl, by decide, rfl, ⟨by decide +kernel, by decide +kernel, by decide +kernel⟩⟩
def mX2_seatOne : zMd := (2, yX2_seatOne, cX2_seatOne, 4, (Option.none : Option Jvm.ClassFile.FieldType))
def rX2_seatOne : Room := { frames := 1, cells := 0, slots := 0, locals := 20 }
theorem eX2_seatOne : zMeV mX2_seatOne 2 2 := ⟨zt4 213 (rfl) rfl, plainFor_of_name (by decide +kernel), zt4 211 (by decide +kernel) rfl, zt4 212 (by decide +kernel) rfl, zt1 9 (by decide +kernel) rfl, by decide, rfl, ⟨by decide +kernel, by decide +kernel, by decide +kernel⟩⟩
def mX2_unseat : zMd := (2, yX2_unseat, cX2_unseat, 2, (Option.none : Option Jvm.ClassFile.FieldType))
def rX2_unseat : Room := { frames := 1, cells := 0, slots := 0, locals := 20 }
theorem eX2_unseat : zMeV mX2_unseat 1 2 := ⟨zt4 167 (rfl) rfl, plainFor_of_name (by decide +kernel), zt4 165 (by decide +kernel) rfl, zt4 166 (by decide +kernel) rfl, zt1 9 (by decide +kernel) rfl, by decide, rfl, ⟨by decide +kernel, by decide +kernel, by decide +kernel⟩⟩
def mX2_lose : zMd := (2, yX2_lose, cX2_lose, 2, (Option.none : Option Jvm.ClassFile.FieldType))
def rX2_lose : Room := { frames := 2, cells := 0, slots := 0, locals := 41 }
theorem eX2_lose : zMeV mX2_lose 1 2 := ⟨zt4 163 (rfl) rfl, plainFor_of_name (by decide +kernel), zt4 161 (by decide +kernel) rfl, zt4 162 (by decide +kernel) rfl, zt1 9 (by decide +kernel) rfl, by decide, rfl, ⟨by decide +kernel, by decide +kernel, by decide +kernel⟩⟩
def mX2_loseAll : zMd := (2, yX2_loseAll, cX2_loseAll, 3, (Option.none : Option Jvm.ClassFile.FieldType))
def rX2_loseAll : Room := { frames := 3, cells := 0, slots := 0, locals := 62 }
theorem eX2_loseAll : zMeV mX2_loseAll 1 2 := ⟨zt4 159 (rfl) rfl, plainFor_of_name (by decide +kernel), zt4 157 (by decide +kernel) rfl, zt4 158 (by decide +kernel) rfl, zt1 9 (by decide +kernel) rfl, by decide, rfl, ⟨by decide +kernel, by decide +kernel, by decide +kernel⟩⟩
def mX3_init : zMd := (3, yX3_init, cX3_init, 1, (Option.none : Option Jvm.ClassFile.FieldType))
def rX3_init : Room := { frames := 1, cells := 0, slots := 0, locals := 20 }
theorem eX3_init : zMeI mX3_init 0 := ⟨zt2 142 (rfl) rfl, plainFor_of_name (by decide +kernel), zt2 141 (by decide +kernel) rfl, zt1 13 (by decide +kernel) rfl, rfl, rfl, ⟨by decide +kernel, by decide +kernel, by decide +kernel⟩⟩
def mX3_start : zMd := (3, yX3_start, cX3_start, 3, (Option.none : Option Jvm.ClassFile.FieldType))
def rX3_start : Room := { frames := 1, cells := 0, slots := 0, locals := 21 }
theorem eX3_start : zMeV mX3_start 1 3 := ⟨zt5 36 (rfl) rfl, plainFor_of_name (by decide +kernel), zt5 34 (by decide +kernel) rfl, zt5 35 (by decide +kernel) rfl, zt1 13 (by decide +kernel) rfl, by decide, rfl, ⟨by decide +kernel, by decide +kernel, by decide +kernel⟩⟩
def mX3_step : zMd := (3, yX3_step, cX3_step, 5, (Option.some .boolean))
def rX3_step : Room := { frames := 1, cells := 0, slots := 0, locals := 23 }
theorem eX3_step : zMeV mX3_step 0 3 := ⟨zt5 46 (rfl) rfl, plainFor_of_name (by decide +kernel), zt5 44 (by decide +kernel) rfl, zt5 45 (by decide +kernel) rfl, zt1 13 (by decide +kernel) rfl, by decide, rfl, ⟨by decide +kernel, by decide +kernel, by decide +kernel⟩⟩
def mX3_swap : zMd := (3, yX3_swap, cX3_swap, 4, (Option.none : Option Jvm.ClassFile.FieldType))
def rX3_swap : Room := { frames := 0, cells := 0, slots := 0, locals := 0 }
theorem eX3_swap : zMeV mX3_swap 2 3 := ⟨zt5 50 (rfl) rfl, plainFor_of_name (by decide +kernel), zt5 49 (by decide +kernel) rfl, zp3 10 rfl, zt1 13 (by decide +kernel) rfl, by decide, rfl, ⟨by decide +kernel, by decide +kernel, by decide +kernel⟩⟩
def mX3_packed : zMd := (3, yX3_packed, cX3_packed, 3, (Option.some .int))
def rX3_packed : Room := { frames := 0, cells := 0, slots := 0, locals := 0 }
theorem eX3_packed : zMeV mX3_packed 0 3 := ⟨zt5 42 (rfl) rfl, plainFor_of_name (by decide +kernel), zt5 40 (by decide +kernel) rfl, zt5 41 (by decide +kernel) rfl, zt1 13 (by decide +kernel) rfl, by decide, rfl, ⟨by decide +kernel, by decide +kernel, by decide +kernel⟩⟩
def mX4_init : zMd := (4, yX4_init, cX4_init, 1, (Option.none : Option Jvm.ClassFile.FieldType))
def rX4_init : Room := { frames := 2, cells := 0, slots := 0, locals := 60 }
theorem eX4_init : zMeI mX4_init 0 := ⟨zt2 157 (rfl) rfl, plainFor_of_name (by decide +kernel), zt2 156 (by decide +kernel) rfl, zt1 14 (by decide +kernel) rfl, rfl, rfl, ⟨by decide +kernel, by decide +kernel, by decide +kernel⟩⟩
def mX4_clear : zMd := (4, yX4_clear, cX4_clear, 1, (Option.none : Option Jvm.ClassFile.FieldType))
def rX4_clear : Room := { frames := 1, cells := 0, slots := 0, locals := 40 }
theorem eX4_clear : zMeV mX4_clear 0 4 := ⟨zt2 162 (rfl) rfl, plainFor_of_name (by decide +kernel), zt2 160 (by decide +kernel) rfl, zt2 161 (by decide +kernel) rfl, zt1 14 (by decide +kernel) rfl, by decide, rfl, ⟨by decide +kernel, by decide +kernel, by decide +kernel⟩⟩
def mX4_settleSkies : zMd := (4, yX4_settleSkies, cX4_settleSkies, 3, (Option.none : Option Jvm.ClassFile.FieldType))
def rX4_settleSkies : Room := { frames := 0, cells := 0, slots := 0, locals := 0 }
theorem eX4_settleSkies : zMeV mX4_settleSkies 0 4 := ⟨zt2 174 (rfl) rfl, plainFor_of_name (by decide +kernel), zt2 172 (by decide +kernel) rfl, zt2 173 (by decide +kernel) rfl, zt1 14 (by decide +kernel) rfl, by decide, rfl, ⟨by decide +kernel, by decide +kernel, by decide +kernel⟩⟩
def mX4_hasPlace : zMd := (4, yX4_hasPlace, cX4_hasPlace, 2, (Option.some .boolean))
def rX4_hasPlace : Room := { frames := 0, cells := 0, slots := 0, locals := 0 }
theorem eX4_hasPlace : zMeV mX4_hasPlace 1 4 := ⟨zt4 38 (rfl) rfl, plainFor_of_name (by decide +kernel), zt4 36 (by decide +kernel) rfl, zt4 37 (by decide +kernel) rfl, zt1 14 (by decide +kernel) rfl, by decide, rfl, ⟨by decide +kernel, by decide +kernel, by decide +kernel⟩⟩
def mX4_hasSign : zMd := (4, yX4_hasSign, cX4_hasSign, 2, (Option.some .boolean))
def rX4_hasSign : Room := { frames := 0, cells := 0, slots := 0, locals := 0 }
theorem eX4_hasSign : zMeV mX4_hasSign 1 4 := ⟨zt5 106 (rfl) rfl, plainFor_of_name (by decide +kernel), zt5 104 (by decide +kernel) rfl, zt5 105 (by decide +kernel) rfl, zt1 14 (by decide +kernel) rfl, by decide, rfl, ⟨by decide +kernel, by decide +kernel, by decide +kernel⟩⟩
def mX4_hasLaw : zMd := (4, yX4_hasLaw, cX4_hasLaw, 2, (Option.some .boolean))
def rX4_hasLaw : Room := { frames := 0, cells := 0, slots := 0, locals := 0 }
theorem eX4_hasLaw : zMeV mX4_hasLaw 1 4 := ⟨zt3 206 (rfl) rfl, plainFor_of_name (by decide +kernel), zt3 204 (by decide +kernel) rfl, zt3 205 (by decide +kernel) rfl, zt1 14 (by decide +kernel) rfl, by decide, rfl, ⟨by decide +kernel, by decide +kernel, by decide +kernel⟩⟩
def mX4_placeNamed : zMd := (4, yX4_placeNamed, cX4_placeNamed, 3, (Option.some .int))
def rX4_placeNamed : Room := { frames := 0, cells := 0, slots := 0, locals := 0 }
theorem eX4_placeNamed : zMeV mX4_placeNamed 1 4 := ⟨zt3 174 (rfl) rfl, plainFor_of_name (by decide +kernel), zt3 172 (by decide +kernel) rfl, zt3 173 (by decide +kernel) rfl, zt1 14 (by decide +kernel) rfl, by decide, rfl, ⟨by decide +kernel, by decide +kernel, by decide +kernel⟩⟩
def mX4_signNamed : zMd := (4, yX4_signNamed, cX4_signNamed, 3, (Option.some .int))
def rX4_signNamed : Room := { frames := 0, cells := 0, slots := 0, locals := 0 }
theorem eX4_signNamed : zMeV mX4_signNamed 1 4 := ⟨zt3 198 (rfl) rfl, plainFor_of_name (by decide +kernel), zt3 196 (by decide +kernel) rfl, zt3 197 (by decide +kernel) rfl, zt1 14 (by decide +kernel) rfl, by decide, rfl, ⟨by decide +kernel, by decide +kernel, by decide +kernel⟩⟩
def mX4_isFlooded : zMd := (4, yX4_isFlooded, cX4_isFlooded, 3, (Option.some .boolean))
def rX4_isFlooded : Room := { frames := 1, cells := 0, slots := 0, locals := 21 }
theorem eX4_isFlooded : zMeV mX4_isFlooded 2 4 := ⟨zt4 154 (rfl) rfl, plainFor_of_name (by decide +kernel), zt4 152 (by decide +kernel) rfl, zt4 153 (by decide +kernel) rfl, zt1 14 (by decide +kernel) rfl, by decide, rfl, ⟨by decide +kernel, by decide +kernel, by decide +kernel⟩⟩
def mX4_hasBand : zMd := (4, yX4_hasBand, cX4_hasBand, 4, (Option.some .boolean))
def rX4_hasBand : Room := { frames := 0, cells := 0, slots := 0, locals := 0 }
theorem eX4_hasBand : zMeV mX4_hasBand 2 4 := ⟨zt4 67 (rfl) rfl, plainFor_of_name (by decide +kernel), zt4 65 (by decide +kernel) rfl, zt4 66 (by decide +kernel) rfl, zt1 14 (by decide +kernel) rfl, by decide, rfl, ⟨by decide +kernel, by decide +kernel, by decide +kernel⟩⟩
def mX4_comersOn : zMd := (4, yX4_comersOn, cX4_comersOn, 5, (Option.some .int))
def rX4_comersOn : Room := { frames := 0, cells := 0, slots := 0, locals := 0 }
theorem eX4_comersOn : zMeV mX4_comersOn 2 4 := ⟨zt4 189 (rfl) rfl, plainFor_of_name (by decide +kernel), zt4 187 (by decide +kernel) rfl, zt4 188 (by decide +kernel) rfl, zt1 14 (by decide +kernel) rfl, by decide, rfl, ⟨by decide +kernel, by decide +kernel, by decide +kernel⟩⟩
def mX5_init : zMd := (5, yX5_init, cX5_init, 2, (Option.none : Option Jvm.ClassFile.FieldType))
def rX5_init : Room := { frames := 1, cells := 0, slots := 0, locals := 20 }
theorem eX5_init : zMeI mX5_init 1 := ⟨zt1 126 (rfl) rfl, plainFor_of_name (by decide +kernel), zt1 125 (by decide +kernel) rfl, zt1 7 (by decide +kernel) rfl, rfl, rfl, ⟨by decide +kernel, by decide +kernel, by decide +kernel⟩⟩
def mX5_readAll : zMd := (5, yX5_readAll, cX5_readAll, 4, (Option.some .boolean))
def rX5_readAll : Room := { frames := 6, cells := 0, slots := 0, locals := 128 }
theorem eX5_readAll : zMeV mX5_readAll 2 5 := ⟨zt3 111 (rfl) rfl, plainFor_of_name (by decide +kernel), zt3 109 (by decide +kernel) rfl, zt3 110 (by decide +kernel) rfl, zt1 7 (by decide +kernel) rfl, by decide, rfl, ⟨by decide +kernel, by decide +kernel, by decide +kernel⟩⟩
def mX5_fail : zMd := (5, yX5_fail, cX5_fail, 2, (Option.some .boolean))
def rX5_fail : Room := { frames := 0, cells := 0, slots := 0, locals := 0 }
theorem eX5_fail : zMeV mX5_fail 1 5 := ⟨zt3 169 (rfl) rfl, plainFor_of_name (by decide +kernel), zt3 168 (by decide +kernel) rfl, zp1 8 rfl, zt1 7 (by decide +kernel) rfl, by decide, rfl, ⟨by decide +kernel, by decide +kernel, by decide +kernel⟩⟩
def mX5_pass : zMd := (5, yX5_pass, cX5_pass, 2, (Option.some .boolean))
def rX5_pass : Room := { frames := 3, cells := 0, slots := 0, locals := 62 }
theorem eX5_pass : zMeV mX5_pass 1 5 := ⟨zt4 19 (rfl) rfl, plainFor_of_name (by decide +kernel), zt4 18 (by decide +kernel) rfl, zp2 8 rfl, zt1 7 (by decide +kernel) rfl, by decide, rfl, ⟨by decide +kernel, by decide +kernel, by decide +kernel⟩⟩
def mX5_readLine : zMd := (5, yX5_readLine, cX5_readLine, 1, (Option.some .boolean))
def rX5_readLine : Room := { frames := 5, cells := 0, slots := 0, locals := 108 }
theorem eX5_readLine : zMeV mX5_readLine 0 5 := ⟨zt3 157 (rfl) rfl, plainFor_of_name (by decide +kernel), zt3 156 (by decide +kernel) rfl, zp1 5 rfl, zt1 7 (by decide +kernel) rfl, by decide, rfl, ⟨by decide +kernel, by decide +kernel, by decide +kernel⟩⟩
def mX5_passWord : zMd := (5, yX5_passWord, cX5_passWord, 3, (Option.some .boolean))
def rX5_passWord : Room := { frames := 3, cells := 0, slots := 0, locals := 62 }
theorem eX5_passWord : zMeV mX5_passWord 2 5 := ⟨zt3 165 (rfl) rfl, plainFor_of_name (by decide +kernel), zt3 164 (by decide +kernel) rfl, zp1 7 rfl, zt1 7 (by decide +kernel) rfl, by decide, rfl, ⟨by decide +kernel, by decide +kernel, by decide +kernel⟩⟩
def mX5_number : zMd := (5, yX5_number, cX5_number, 4, (Option.some .int))
def rX5_number : Room := { frames := 3, cells := 0, slots := 0, locals := 62 }
theorem eX5_number : zMeV mX5_number 2 5 := ⟨zt3 178 (rfl) rfl, plainFor_of_name (by decide +kernel), zt3 177 (by decide +kernel) rfl, zp1 9 rfl, zt1 7 (by decide +kernel) rfl, by decide, rfl, ⟨by decide +kernel, by decide +kernel, by decide +kernel⟩⟩
def mX5_readPlace : zMd := (5, yX5_readPlace, cX5_readPlace, 2, (Option.some .boolean))
def rX5_readPlace : Room := { frames := 4, cells := 0, slots := 0, locals := 85 }
theorem eX5_readPlace : zMeV mX5_readPlace 0 5 := ⟨zt3 161 (rfl) rfl, plainFor_of_name (by decide +kernel), zt3 160 (by decide +kernel) rfl, zp1 6 rfl, zt1 7 (by decide +kernel) rfl, by decide, rfl, ⟨by decide +kernel, by decide +kernel, by decide +kernel⟩⟩
def mX5_readCome : zMd := (5, yX5_readCome, cX5_readCome, 2, (Option.some .boolean))
def rX5_readCome : Room := { frames := 4, cells := 0, slots := 0, locals := 85 }
theorem eX5_readCome : zMeV mX5_readCome 0 5 := ⟨zt3 182 (rfl) rfl, plainFor_of_name (by decide +kernel), zt3 181 (by decide +kernel) rfl, zp1 10 rfl, zt1 7 (by decide +kernel) rfl, by decide, rfl, ⟨by decide +kernel, by decide +kernel, by decide +kernel⟩⟩
def mX5_readSky : zMd := (5, yX5_readSky, cX5_readSky, 2, (Option.some .boolean))
def rX5_readSky : Room := { frames := 4, cells := 0, slots := 0, locals := 85 }
theorem eX5_readSky : zMeV mX5_readSky 0 5 := ⟨zt3 186 (rfl) rfl, plainFor_of_name (by decide +kernel), zt3 185 (by decide +kernel) rfl, zp1 11 rfl, zt1 7 (by decide +kernel) rfl, by decide, rfl, ⟨by decide +kernel, by decide +kernel, by decide +kernel⟩⟩
def mX5_readBand : zMd := (5, yX5_readBand, cX5_readBand, 2, (Option.some .boolean))
def rX5_readBand : Room := { frames := 4, cells := 0, slots := 0, locals := 85 }
theorem eX5_readBand : zMeV mX5_readBand 0 5 := ⟨zt3 190 (rfl) rfl, plainFor_of_name (by decide +kernel), zt3 189 (by decide +kernel) rfl, zp1 12 rfl, zt1 7 (by decide +kernel) rfl, by decide, rfl, ⟨by decide +kernel, by decide +kernel, by decide +kernel⟩⟩
def mX5_readSign : zMd := (5, yX5_readSign, cX5_readSign, 2, (Option.some .boolean))
def rX5_readSign : Room := { frames := 4, cells := 0, slots := 0, locals := 84 }
theorem eX5_readSign : zMeV mX5_readSign 0 5 := ⟨zt3 194 (rfl) rfl, plainFor_of_name (by decide +kernel), zt3 193 (by decide +kernel) rfl, zp1 13 rfl, zt1 7 (by decide +kernel) rfl, by decide, rfl, ⟨by decide +kernel, by decide +kernel, by decide +kernel⟩⟩
def mX5_readSet : zMd := (5, yX5_readSet, cX5_readSet, 2, (Option.some .boolean))
def rX5_readSet : Room := { frames := 4, cells := 0, slots := 0, locals := 85 }
theorem eX5_readSet : zMeV mX5_readSet 1 5 := ⟨zt4 11 (rfl) rfl, plainFor_of_name (by decide +kernel), zt4 10 (by decide +kernel) rfl, zp2 7 rfl, zt1 7 (by decide +kernel) rfl, by decide, rfl, ⟨by decide +kernel, by decide +kernel, by decide +kernel⟩⟩
def mX5_readLaw : zMd := (5, yX5_readLaw, cX5_readLaw, 2, (Option.some .boolean))
def rX5_readLaw : Room := { frames := 4, cells := 0, slots := 0, locals := 87 }
theorem eX5_readLaw : zMeV mX5_readLaw 0 5 := ⟨zt3 202 (rfl) rfl, plainFor_of_name (by decide +kernel), zt3 201 (by decide +kernel) rfl, zp1 14 rfl, zt1 7 (by decide +kernel) rfl, by decide, rfl, ⟨by decide +kernel, by decide +kernel, by decide +kernel⟩⟩
def mX5_readFormula : zMd := (5, yX5_readFormula, cX5_readFormula, 4, (Option.some .boolean))
def rX5_readFormula : Room := { frames := 3, cells := 0, slots := 0, locals := 64 }
theorem eX5_readFormula : zMeV mX5_readFormula 0 5 := ⟨zt3 210 (rfl) rfl, plainFor_of_name (by decide +kernel), zt3 209 (by decide +kernel) rfl, zp1 15 rfl, zt1 7 (by decide +kernel) rfl, by decide, rfl, ⟨by decide +kernel, by decide +kernel, by decide +kernel⟩⟩
def mX5_readOperand : zMd := (5, yX5_readOperand, cX5_readOperand, 2, (Option.some .boolean))
def rX5_readOperand : Room := { frames := 2, cells := 0, slots := 0, locals := 43 }
theorem eX5_readOperand : zMeV mX5_readOperand 0 5 := ⟨zt3 214 (rfl) rfl, plainFor_of_name (by decide +kernel), zt3 213 (by decide +kernel) rfl, zp2 0 rfl, zt1 7 (by decide +kernel) rfl, by decide, rfl, ⟨by decide +kernel, by decide +kernel, by decide +kernel⟩⟩
def mX5_readJoint : zMd := (5, yX5_readJoint, cX5_readJoint, 2, (Option.some .boolean))
def rX5_readJoint : Room := { frames := 2, cells := 0, slots := 0, locals := 43 }
theorem eX5_readJoint : zMeV mX5_readJoint 0 5 := ⟨zt4 1 (rfl) rfl, plainFor_of_name (by decide +kernel), zt4 0 (by decide +kernel) rfl, zp2 6 rfl, zt1 7 (by decide +kernel) rfl, by decide, rfl, ⟨by decide +kernel, by decide +kernel, by decide +kernel⟩⟩
def mX5_countKnot : zMd := (5, yX5_countKnot, cX5_countKnot, 1, (Option.some .boolean))
def rX5_countKnot : Room := { frames := 1, cells := 0, slots := 0, locals := 21 }
theorem eX5_countKnot : zMeV mX5_countKnot 0 5 := ⟨zt3 218 (rfl) rfl, plainFor_of_name (by decide +kernel), zt3 217 (by decide +kernel) rfl, zp2 1 rfl, zt1 7 (by decide +kernel) rfl, by decide, rfl, ⟨by decide +kernel, by decide +kernel, by decide +kernel⟩⟩
def mX5_push : zMd := (5, yX5_push, cX5_push, 3, (Option.some .boolean))
def rX5_push : Room := { frames := 1, cells := 0, slots := 0, locals := 21 }
theorem eX5_push : zMeV mX5_push 2 5 := ⟨zt3 233 (rfl) rfl, plainFor_of_name (by decide +kernel), zt3 232 (by decide +kernel) rfl, zp2 4 rfl, zt1 7 (by decide +kernel) rfl, by decide, rfl, ⟨by decide +kernel, by decide +kernel, by decide +kernel⟩⟩
def mX5_write : zMd := (5, yX5_write, cX5_write, 2, (Option.some .boolean))
def rX5_write : Room := { frames := 0, cells := 0, slots := 0, locals := 0 }
theorem eX5_write : zMeV mX5_write 1 5 := ⟨zt3 222 (rfl) rfl, plainFor_of_name (by decide +kernel), zt3 221 (by decide +kernel) rfl, zp2 2 rfl, zt1 7 (by decide +kernel) rfl, by decide, rfl, ⟨by decide +kernel, by decide +kernel, by decide +kernel⟩⟩
def mX5_writeJoints : zMd := (5, yX5_writeJoints, cX5_writeJoints, 3, (Option.none : Option Jvm.ClassFile.FieldType))
def rX5_writeJoints : Room := { frames := 1, cells := 0, slots := 0, locals := 21 }
theorem eX5_writeJoints : zMeV mX5_writeJoints 1 5 := ⟨zt3 237 (rfl) rfl, plainFor_of_name (by decide +kernel), zt3 236 (by decide +kernel) rfl, zp2 5 rfl, zt1 7 (by decide +kernel) rfl, by decide, rfl, ⟨by decide +kernel, by decide +kernel, by decide +kernel⟩⟩
def mX5_topRank : zMd := (5, yX5_topRank, cX5_topRank, 1, (Option.some .int))
def rX5_topRank : Room := { frames := 0, cells := 0, slots := 0, locals := 0 }
theorem eX5_topRank : zMeV mX5_topRank 0 5 := ⟨zt3 229 (rfl) rfl, plainFor_of_name (by decide +kernel), zt3 228 (by decide +kernel) rfl, zp2 3 rfl, zt1 7 (by decide +kernel) rfl, by decide, rfl, ⟨by decide +kernel, by decide +kernel, by decide +kernel⟩⟩
def mX5_rankOf : zMd := (5, yX5_rankOf, cX5_rankOf, 1, (Option.some .int))
def rX5_rankOf : Room := { frames := 0, cells := 0, slots := 0, locals := 0 }
theorem eX5_rankOf : zMeS mX5_rankOf 1 := ⟨zt4 7 (rfl) rfl, plainFor_of_name (by decide +kernel), zt4 6 (by decide +kernel) rfl, zt1 7 (by decide +kernel) rfl, ⟨by decide +kernel, by decide +kernel, by decide +kernel⟩⟩
def mX6_init : zMd := (6, yX6_init, cX6_init, 1, (Option.none : Option Jvm.ClassFile.FieldType))
def rX6_init : Room := { frames := 1, cells := 0, slots := 0, locals := 20 }
theorem eX6_init : zMeI mX6_init 0 := ⟨zt1 172 (rfl) rfl, plainFor_of_name (by decide +kernel), zt1 171 (by decide +kernel) rfl, zt1 8 (by decide +kernel) rfl, rfl, rfl, ⟨by decide +kernel, by decide +kernel, by decide +kernel⟩⟩
def mX6_clear : zMd := (6, yX6_clear, cX6_clear, 2, (Option.none : Option Jvm.ClassFile.FieldType))
def rX6_clear : Room := { frames := 0, cells := 0, slots := 0, locals := 0 }
theorem eX6_clear : zMeV mX6_clear 1 6 := ⟨zt3 40 (rfl) rfl, plainFor_of_name (by decide +kernel), zt3 38 (by decide +kernel) rfl, zt3 39 (by decide +kernel) rfl, zt1 8 (by decide +kernel) rfl, by decide, rfl, ⟨by decide +kernel, by decide +kernel, by decide +kernel⟩⟩
def mX6_change : zMd := (6, yX6_change, cX6_change, 3, (Option.none : Option Jvm.ClassFile.FieldType))
def rX6_change : Room := { frames := 0, cells := 0, slots := 0, locals := 0 }
theorem eX6_change : zMeV mX6_change 2 6 := ⟨zt5 143 (rfl) rfl, plainFor_of_name (by decide +kernel), zt5 141 (by decide +kernel) rfl, zt5 142 (by decide +kernel) rfl, zt1 8 (by decide +kernel) rfl, by decide, rfl, ⟨by decide +kernel, by decide +kernel, by decide +kernel⟩⟩
def mX7_init : zMd := (7, yX7_init, cX7_init, 4, (Option.none : Option Jvm.ClassFile.FieldType))
def rX7_init : Room := { frames := 5, cells := 0, slots := 0, locals := 106 }
theorem eX7_init : zMeI mX7_init 0 := ⟨zt1 37 (rfl) rfl, plainFor_of_name (by decide +kernel), zt1 36 (by decide +kernel) rfl, zt1 2 (by decide +kernel) rfl, rfl, rfl, ⟨by decide +kernel, by decide +kernel, by decide +kernel⟩⟩
def mX7_letterAt : zMd := (7, yX7_letterAt, cX7_letterAt, 2, (Option.some .int))
def rX7_letterAt : Room := { frames := 0, cells := 0, slots := 0, locals := 0 }
theorem eX7_letterAt : zMeS mX7_letterAt 2 := ⟨zt1 90 (rfl) rfl, plainFor_of_name (by decide +kernel), zt1 89 (by decide +kernel) rfl, zt1 2 (by decide +kernel) rfl, ⟨by decide +kernel, by decide +kernel, by decide +kernel⟩⟩
def mX7_append : zMd := (7, yX7_append, cX7_append, 3, (Option.none : Option Jvm.ClassFile.FieldType))
def rX7_append : Room := { frames := 0, cells := 0, slots := 0, locals := 0 }
theorem eX7_append : zMeV mX7_append 1 7 := ⟨zt3 103 (rfl) rfl, plainFor_of_name (by decide +kernel), zt3 101 (by decide +kernel) rfl, zt3 102 (by decide +kernel) rfl, zt1 2 (by decide +kernel) rfl, by decide, rfl, ⟨by decide +kernel, by decide +kernel, by decide +kernel⟩⟩
def mX7_start : zMd := (7, yX7_start, cX7_start, 2, (Option.none : Option Jvm.ClassFile.FieldType))
def rX7_start : Room := { frames := 3, cells := 0, slots := 0, locals := 62 }
theorem eX7_start : zMeV mX7_start 1 7 := ⟨zt3 117 (rfl) rfl, plainFor_of_name (by decide +kernel), zt3 115 (by decide +kernel) rfl, zt3 116 (by decide +kernel) rfl, zt1 2 (by decide +kernel) rfl, by decide, rfl, ⟨by decide +kernel, by decide +kernel, by decide +kernel⟩⟩
def mX7_advance : zMd := (7, yX7_advance, cX7_advance, 1, (Option.none : Option Jvm.ClassFile.FieldType))
def rX7_advance : Room := { frames := 2, cells := 0, slots := 0, locals := 42 }
theorem eX7_advance : zMeV mX7_advance 0 7 := ⟨zt3 124 (rfl) rfl, plainFor_of_name (by decide +kernel), zt3 122 (by decide +kernel) rfl, zt3 123 (by decide +kernel) rfl, zt1 2 (by decide +kernel) rfl, by decide, rfl, ⟨by decide +kernel, by decide +kernel, by decide +kernel⟩⟩
def mX7_isLetter : zMd := (7, yX7_isLetter, cX7_isLetter, 1, (Option.some .boolean))
def rX7_isLetter : Room := { frames := 0, cells := 0, slots := 0, locals := 0 }
theorem eX7_isLetter : zMeS mX7_isLetter 1 := ⟨zt3 127 (rfl) rfl, plainFor_of_name (by decide +kernel), zt3 126 (by decide +kernel) rfl, zt1 2 (by decide +kernel) rfl, ⟨by decide +kernel, by decide +kernel, by decide +kernel⟩⟩
def mX7_isDigit : zMd := (7, yX7_isDigit, cX7_isDigit, 1, (Option.some .boolean))
def rX7_isDigit : Room := { frames := 0, cells := 0, slots := 0, locals := 0 }
theorem eX7_isDigit : zMeS mX7_isDigit 1 := ⟨zt3 138 (rfl) rfl, plainFor_of_name (by decide +kernel), zt3 137 (by decide +kernel) rfl, zt1 2 (by decide +kernel) rfl, ⟨by decide +kernel, by decide +kernel, by decide +kernel⟩⟩
def mX7_readWord : zMd := (7, yX7_readWord, cX7_readWord, 2, (Option.none : Option Jvm.ClassFile.FieldType))
def rX7_readWord : Room := { frames := 1, cells := 0, slots := 0, locals := 21 }
theorem eX7_readWord : zMeV mX7_readWord 0 7 := ⟨zt3 131 (rfl) rfl, plainFor_of_name (by decide +kernel), zt3 130 (by decide +kernel) rfl, zp1 1 rfl, zt1 2 (by decide +kernel) rfl, by decide, rfl, ⟨by decide +kernel, by decide +kernel, by decide +kernel⟩⟩
def mX7_wordKind : zMd := (7, yX7_wordKind, cX7_wordKind, 2, (Option.some .int))
def rX7_wordKind : Room := { frames := 0, cells := 0, slots := 0, locals := 0 }
theorem eX7_wordKind : zMeV mX7_wordKind 0 7 := ⟨zt3 135 (rfl) rfl, plainFor_of_name (by decide +kernel), zt3 134 (by decide +kernel) rfl, zp1 2 rfl, zt1 2 (by decide +kernel) rfl, by decide, rfl, ⟨by decide +kernel, by decide +kernel, by decide +kernel⟩⟩
def mX7_readNumber : zMd := (7, yX7_readNumber, cX7_readNumber, 1, (Option.none : Option Jvm.ClassFile.FieldType))
def rX7_readNumber : Room := { frames := 1, cells := 0, slots := 0, locals := 21 }
theorem eX7_readNumber : zMeV mX7_readNumber 0 7 := ⟨zt3 142 (rfl) rfl, plainFor_of_name (by decide +kernel), zt3 141 (by decide +kernel) rfl, zp1 3 rfl, zt1 2 (by decide +kernel) rfl, by decide, rfl, ⟨by decide +kernel, by decide +kernel, by decide +kernel⟩⟩
def mX7_readMark : zMd := (7, yX7_readMark, cX7_readMark, 2, (Option.none : Option Jvm.ClassFile.FieldType))
def rX7_readMark : Room := { frames := 1, cells := 0, slots := 0, locals := 21 }
theorem eX7_readMark : zMeV mX7_readMark 1 7 := ⟨zt3 147 (rfl) rfl, plainFor_of_name (by decide +kernel), zt3 146 (by decide +kernel) rfl, zp1 4 rfl, zt1 2 (by decide +kernel) rfl, by decide, rfl, ⟨by decide +kernel, by decide +kernel, by decide +kernel⟩⟩
def mX7_comparison : zMd := (7, yX7_comparison, cX7_comparison, 2, (Option.some .int))
def rX7_comparison : Room := { frames := 0, cells := 0, slots := 0, locals := 0 }
theorem eX7_comparison : zMeS mX7_comparison 2 := ⟨zt3 150 (rfl) rfl, plainFor_of_name (by decide +kernel), zt3 149 (by decide +kernel) rfl, zt1 2 (by decide +kernel) rfl, ⟨by decide +kernel, by decide +kernel, by decide +kernel⟩⟩
def mX7_markKind : zMd := (7, yX7_markKind, cX7_markKind, 1, (Option.some .int))
def rX7_markKind : Room := { frames := 0, cells := 0, slots := 0, locals := 0 }
theorem eX7_markKind : zMeS mX7_markKind 1 := ⟨zt3 153 (rfl) rfl, plainFor_of_name (by decide +kernel), zt3 152 (by decide +kernel) rfl, zt1 2 (by decide +kernel) rfl, ⟨by decide +kernel, by decide +kernel, by decide +kernel⟩⟩
def mX8_init : zMd := (8, yX8_init, cX8_init, 3, (Option.none : Option Jvm.ClassFile.FieldType))
def rX8_init : Room := { frames := 1, cells := 0, slots := 0, locals := 20 }
theorem eX8_init : zMeI mX8_init 2 := ⟨zt2 67 (rfl) rfl, plainFor_of_name (by decide +kernel), zt2 66 (by decide +kernel) rfl, zt1 10 (by decide +kernel) rfl, rfl, rfl, ⟨by decide +kernel, by decide +kernel, by decide +kernel⟩⟩
def mX8_advance : zMd := (8, yX8_advance, cX8_advance, 4, (Option.none : Option Jvm.ClassFile.FieldType))
def rX8_advance : Room := { frames := 5, cells := 0, slots := 0, locals := 119 }
theorem eX8_advance : zMeV mX8_advance 1 8 := ⟨zt4 142 (rfl) rfl, plainFor_of_name (by decide +kernel), zt4 140 (by decide +kernel) rfl, zt4 141 (by decide +kernel) rfl, zt1 10 (by decide +kernel) rfl, by decide, rfl, ⟨by decide +kernel, by decide +kernel, by decide +kernel⟩⟩
def mX8_skyNow : zMd := (8, yX8_skyNow, cX8_skyNow, 3, (Option.some .int))
def rX8_skyNow : Room := { frames := 0, cells := 0, slots := 0, locals := 0 }
theorem eX8_skyNow : zMeV mX8_skyNow 0 8 := ⟨zt4 63 (rfl) rfl, plainFor_of_name (by decide +kernel), zt4 62 (by decide +kernel) rfl, zp2 10 rfl, zt1 10 (by decide +kernel) rfl, by decide, rfl, ⟨by decide +kernel, by decide +kernel, by decide +kernel⟩⟩
def mX8_letTideCome : zMd := (8, yX8_letTideCome, cX8_letTideCome, 2, (Option.none : Option Jvm.ClassFile.FieldType))
def rX8_letTideCome : Room := { frames := 4, cells := 0, slots := 0, locals := 84 }
theorem eX8_letTideCome : zMeV mX8_letTideCome 0 8 := ⟨zt4 150 (rfl) rfl, plainFor_of_name (by decide +kernel), zt4 149 (by decide +kernel) rfl, zp2 14 rfl, zt1 10 (by decide +kernel) rfl, by decide, rfl, ⟨by decide +kernel, by decide +kernel, by decide +kernel⟩⟩
def mX8_letRainFall : zMd := (8, yX8_letRainFall, cX8_letRainFall, 2, (Option.none : Option Jvm.ClassFile.FieldType))
def rX8_letRainFall : Room := { frames := 4, cells := 0, slots := 0, locals := 83 }
theorem eX8_letRainFall : zMeV mX8_letRainFall 0 8 := ⟨zt4 171 (rfl) rfl, plainFor_of_name (by decide +kernel), zt4 170 (by decide +kernel) rfl, zp2 15 rfl, zt1 10 (by decide +kernel) rfl, by decide, rfl, ⟨by decide +kernel, by decide +kernel, by decide +kernel⟩⟩
def mX8_wet : zMd := (8, yX8_wet, cX8_wet, 2, (Option.none : Option Jvm.ClassFile.FieldType))
def rX8_wet : Room := { frames := 3, cells := 0, slots := 0, locals := 62 }
theorem eX8_wet : zMeV mX8_wet 1 8 := ⟨zt4 176 (rfl) rfl, plainFor_of_name (by decide +kernel), zt4 175 (by decide +kernel) rfl, zp3 0 rfl, zt1 10 (by decide +kernel) rfl, by decide, rfl, ⟨by decide +kernel, by decide +kernel, by decide +kernel⟩⟩
def mX8_letSittersGo : zMd := (8, yX8_letSittersGo, cX8_letSittersGo, 2, (Option.none : Option Jvm.ClassFile.FieldType))
def rX8_letSittersGo : Room := { frames := 2, cells := 0, slots := 0, locals := 41 }
theorem eX8_letSittersGo : zMeV mX8_letSittersGo 0 8 := ⟨zt4 181 (rfl) rfl, plainFor_of_name (by decide +kernel), zt4 180 (by decide +kernel) rfl, zp3 1 rfl, zt1 10 (by decide +kernel) rfl, by decide, rfl, ⟨by decide +kernel, by decide +kernel, by decide +kernel⟩⟩
def mX8_letSittersCome : zMd := (8, yX8_letSittersCome, cX8_letSittersCome, 4, (Option.none : Option Jvm.ClassFile.FieldType))
def rX8_letSittersCome : Room := { frames := 4, cells := 0, slots := 0, locals := 96 }
theorem eX8_letSittersCome : zMeV mX8_letSittersCome 0 8 := ⟨zt4 185 (rfl) rfl, plainFor_of_name (by decide +kernel), zt4 184 (by decide +kernel) rfl, zp3 2 rfl, zt1 10 (by decide +kernel) rfl, by decide, rfl, ⟨by decide +kernel, by decide +kernel, by decide +kernel⟩⟩
def mX8_weigh : zMd := (8, yX8_weigh, cX8_weigh, 4, (Option.none : Option Jvm.ClassFile.FieldType))
def rX8_weigh : Room := { frames := 3, cells := 0, slots := 0, locals := 73 }
theorem eX8_weigh : zMeV mX8_weigh 1 8 := ⟨zt4 193 (rfl) rfl, plainFor_of_name (by decide +kernel), zt4 192 (by decide +kernel) rfl, zp3 3 rfl, zt1 10 (by decide +kernel) rfl, by decide, rfl, ⟨by decide +kernel, by decide +kernel, by decide +kernel⟩⟩
def mX8_dearestPlace : zMd := (8, yX8_dearestPlace, cX8_dearestPlace, 4, (Option.some .int))
def rX8_dearestPlace : Room := { frames := 0, cells := 0, slots := 0, locals := 0 }
theorem eX8_dearestPlace : zMeV mX8_dearestPlace 0 8 := ⟨zt4 198 (rfl) rfl, plainFor_of_name (by decide +kernel), zt4 197 (by decide +kernel) rfl, zp3 4 rfl, zt1 10 (by decide +kernel) rfl, by decide, rfl, ⟨by decide +kernel, by decide +kernel, by decide +kernel⟩⟩
def mX8_stayAt : zMd := (8, yX8_stayAt, cX8_stayAt, 4, (Option.some .int))
def rX8_stayAt : Room := { frames := 3, cells := 0, slots := 0, locals := 73 }
theorem eX8_stayAt : zMeV mX8_stayAt 1 8 := ⟨zt4 202 (rfl) rfl, plainFor_of_name (by decide +kernel), zt4 201 (by decide +kernel) rfl, zp3 5 rfl, zt1 10 (by decide +kernel) rfl, by decide, rfl, ⟨by decide +kernel, by decide +kernel, by decide +kernel⟩⟩
def mX8_goRound : zMd := (8, yX8_goRound, cX8_goRound, 3, (Option.none : Option Jvm.ClassFile.FieldType))
def rX8_goRound : Room := { frames := 4, cells := 0, slots := 0, locals := 97 }
theorem eX8_goRound : zMeV mX8_goRound 0 8 := ⟨zt4 217 (rfl) rfl, plainFor_of_name (by decide +kernel), zt4 216 (by decide +kernel) rfl, zp3 6 rfl, zt1 10 (by decide +kernel) rfl, by decide, rfl, ⟨by decide +kernel, by decide +kernel, by decide +kernel⟩⟩
def mX8_askAt : zMd := (8, yX8_askAt, cX8_askAt, 5, (Option.none : Option Jvm.ClassFile.FieldType))
def rX8_askAt : Room := { frames := 3, cells := 0, slots := 0, locals := 73 }
theorem eX8_askAt : zMeV mX8_askAt 1 8 := ⟨zt4 224 (rfl) rfl, plainFor_of_name (by decide +kernel), zt4 223 (by decide +kernel) rfl, zp3 7 rfl, zt1 10 (by decide +kernel) rfl, by decide, rfl, ⟨by decide +kernel, by decide +kernel, by decide +kernel⟩⟩
def mX8_valueOf : zMd := (8, yX8_valueOf, cX8_valueOf, 8, (Option.some .long))
def rX8_valueOf : Room := { frames := 2, cells := 0, slots := 0, locals := 46 }
theorem eX8_valueOf : zMeV mX8_valueOf 2 8 := ⟨zt4 51 (rfl) rfl, plainFor_of_name (by decide +kernel), zt4 49 (by decide +kernel) rfl, zt4 50 (by decide +kernel) rfl, zt1 10 (by decide +kernel) rfl, by decide, rfl, ⟨by decide +kernel, by decide +kernel, by decide +kernel⟩⟩
def mX8_nameValue : zMd := (8, yX8_nameValue, cX8_nameValue, 3, (Option.some .long))
def rX8_nameValue : Room := { frames := 1, cells := 0, slots := 0, locals := 23 }
theorem eX8_nameValue : zMeV mX8_nameValue 2 8 := ⟨zt4 59 (rfl) rfl, plainFor_of_name (by decide +kernel), zt4 58 (by decide +kernel) rfl, zp2 9 rfl, zt1 10 (by decide +kernel) rfl, by decide, rfl, ⟨by decide +kernel, by decide +kernel, by decide +kernel⟩⟩
def mX8_join : zMd := (8, yX8_join, cX8_join, 6, (Option.some .long))
def rX8_join : Room := { frames := 1, cells := 0, slots := 0, locals := 21 }
theorem eX8_join : zMeS mX8_join 3 := ⟨zt4 70 (rfl) rfl, plainFor_of_name (by decide +kernel), zt4 69 (by decide +kernel) rfl, zt1 10 (by decide +kernel) rfl, ⟨by decide +kernel, by decide +kernel, by decide +kernel⟩⟩
def mX9_init : zMd := (9, yX9_init, cX9_init, 1, (Option.none : Option Jvm.ClassFile.FieldType))
def rX9_init : Room := { frames := 6, cells := 0, slots := 0, locals := 129 }
theorem eX9_init : zMeI mX9_init 0 := ⟨zt1 29 (rfl) rfl, plainFor_of_name (by decide +kernel), zt1 28 (by decide +kernel) rfl, zt1 1 (by decide +kernel) rfl, rfl, rfl, ⟨by decide +kernel, by decide +kernel, by decide +kernel⟩⟩
def mX9_feed : zMd := (9, yX9_feed, cX9_feed, 6, (Option.some .int))
def rX9_feed : Room := { frames := 1, cells := 0, slots := 0, locals := 22 }
theorem eX9_feed : zMeV mX9_feed 5 9 := ⟨zt3 99 (rfl) rfl, plainFor_of_name (by decide +kernel), zt3 97 (by decide +kernel) rfl, zt3 98 (by decide +kernel) rfl, zt1 1 (by decide +kernel) rfl, by decide, rfl, ⟨by decide +kernel, by decide +kernel, by decide +kernel⟩⟩
def mX9_text : zMd := (9, yX9_text, cX9_text, 4, (Option.some .int))
def rX9_text : Room := { frames := 7, cells := 0, slots := 0, locals := 151 }
theorem eX9_text : zMeV mX9_text 1 9 := ⟨zt3 107 (rfl) rfl, plainFor_of_name (by decide +kernel), zt3 105 (by decide +kernel) rfl, zt3 106 (by decide +kernel) rfl, zt1 1 (by decide +kernel) rfl, by decide, rfl, ⟨by decide +kernel, by decide +kernel, by decide +kernel⟩⟩
def mX9_fault : zMd := (9, yX9_fault, cX9_fault, 2, (Option.some .int))
def rX9_fault : Room := { frames := 0, cells := 0, slots := 0, locals := 0 }
theorem eX9_fault : zMeV mX9_fault 1 9 := ⟨zt4 24 (rfl) rfl, plainFor_of_name (by decide +kernel), zt4 22 (by decide +kernel) rfl, zt4 23 (by decide +kernel) rfl, zt1 1 (by decide +kernel) rfl, by decide, rfl, ⟨by decide +kernel, by decide +kernel, by decide +kernel⟩⟩
def mX9_named : zMd := (9, yX9_named, cX9_named, 3, (Option.some .int))
def rX9_named : Room := { frames := 1, cells := 0, slots := 0, locals := 22 }
theorem eX9_named : zMeV mX9_named 2 9 := ⟨zt4 28 (rfl) rfl, plainFor_of_name (by decide +kernel), zt4 26 (by decide +kernel) rfl, zt4 27 (by decide +kernel) rfl, zt1 1 (by decide +kernel) rfl, by decide, rfl, ⟨by decide +kernel, by decide +kernel, by decide +kernel⟩⟩
def mX9_look : zMd := (9, yX9_look, cX9_look, 3, (Option.some .int))
def rX9_look : Room := { frames := 1, cells := 0, slots := 0, locals := 40 }
theorem eX9_look : zMeV mX9_look 2 9 := ⟨zt5 183 (rfl) rfl, plainFor_of_name (by decide +kernel), zt5 181 (by decide +kernel) rfl, zt5 182 (by decide +kernel) rfl, zt1 1 (by decide +kernel) rfl, by decide, rfl, ⟨by decide +kernel, by decide +kernel, by decide +kernel⟩⟩
def mX9_place : zMd := (9, yX9_place, cX9_place, 3, (Option.some .int))
def rX9_place : Room := { frames := 1, cells := 0, slots := 0, locals := 21 }
theorem eX9_place : zMeV mX9_place 2 9 := ⟨zt4 34 (rfl) rfl, plainFor_of_name (by decide +kernel), zt4 32 (by decide +kernel) rfl, zt4 33 (by decide +kernel) rfl, zt1 1 (by decide +kernel) rfl, by decide, rfl, ⟨by decide +kernel, by decide +kernel, by decide +kernel⟩⟩
def mX9_sky : zMd := (9, yX9_sky, cX9_sky, 2, (Option.some .int))
def rX9_sky : Room := { frames := 0, cells := 0, slots := 0, locals := 0 }
theorem eX9_sky : zMeV mX9_sky 1 9 := ⟨zt4 42 (rfl) rfl, plainFor_of_name (by decide +kernel), zt4 40 (by decide +kernel) rfl, zt4 41 (by decide +kernel) rfl, zt1 1 (by decide +kernel) rfl, by decide, rfl, ⟨by decide +kernel, by decide +kernel, by decide +kernel⟩⟩
def mX9_law : zMd := (9, yX9_law, cX9_law, 3, (Option.some .long))
def rX9_law : Room := { frames := 3, cells := 0, slots := 0, locals := 73 }
theorem eX9_law : zMeV mX9_law 2 9 := ⟨zt4 46 (rfl) rfl, plainFor_of_name (by decide +kernel), zt4 44 (by decide +kernel) rfl, zt4 45 (by decide +kernel) rfl, zt1 1 (by decide +kernel) rfl, by decide, rfl, ⟨by decide +kernel, by decide +kernel, by decide +kernel⟩⟩
def mX9_put : zMd := (9, yX9_put, cX9_put, 6, (Option.some .int))
def rX9_put : Room := { frames := 4, cells := 0, slots := 0, locals := 109 }
theorem eX9_put : zMeV mX9_put 2 9 := ⟨zt4 78 (rfl) rfl, plainFor_of_name (by decide +kernel), zt4 76 (by decide +kernel) rfl, zt4 77 (by decide +kernel) rfl, zt1 1 (by decide +kernel) rfl, by decide, rfl, ⟨by decide +kernel, by decide +kernel, by decide +kernel⟩⟩
def mX9_bring : zMd := (9, yX9_bring, cX9_bring, 6, (Option.some .int))
def rX9_bring : Room := { frames := 4, cells := 0, slots := 0, locals := 109 }
theorem eX9_bring : zMeV mX9_bring 2 9 := ⟨zt4 113 (rfl) rfl, plainFor_of_name (by decide +kernel), zt4 111 (by decide +kernel) rfl, zt4 112 (by decide +kernel) rfl, zt1 1 (by decide +kernel) rfl, by decide, rfl, ⟨by decide +kernel, by decide +kernel, by decide +kernel⟩⟩
def mX9_route : zMd := (9, yX9_route, cX9_route, 5, (Option.some .boolean))
def rX9_route : Room := { frames := 3, cells := 0, slots := 0, locals := 81 }
theorem eX9_route : zMeV mX9_route 2 9 := ⟨zt4 125 (rfl) rfl, plainFor_of_name (by decide +kernel), zt4 123 (by decide +kernel) rfl, zt4 124 (by decide +kernel) rfl, zt1 1 (by decide +kernel) rfl, by decide, rfl, ⟨by decide +kernel, by decide +kernel, by decide +kernel⟩⟩
def mX9_ticks : zMd := (9, yX9_ticks, cX9_ticks, 2, (Option.some .int))
def rX9_ticks : Room := { frames := 6, cells := 0, slots := 0, locals := 142 }
theorem eX9_ticks : zMeV mX9_ticks 1 9 := ⟨zt4 134 (rfl) rfl, plainFor_of_name (by decide +kernel), zt4 132 (by decide +kernel) rfl, zt4 133 (by decide +kernel) rfl, zt1 1 (by decide +kernel) rfl, by decide, rfl, ⟨by decide +kernel, by decide +kernel, by decide +kernel⟩⟩
def mX9_sum : zMd := (9, yX9_sum, cX9_sum, 2, (Option.some .int))
def rX9_sum : Room := { frames := 1, cells := 0, slots := 0, locals := 21 }
theorem eX9_sum : zMeV mX9_sum 1 9 := ⟨zt4 238 (rfl) rfl, plainFor_of_name (by decide +kernel), zt4 236 (by decide +kernel) rfl, zt4 237 (by decide +kernel) rfl, zt1 1 (by decide +kernel) rfl, by decide, rfl, ⟨by decide +kernel, by decide +kernel, by decide +kernel⟩⟩
def mX9_run : zMd := (9, yX9_run, cX9_run, 2, (Option.some .int))
def rX9_run : Room := { frames := 7, cells := 0, slots := 0, locals := 163 }
theorem eX9_run : zMeV mX9_run 1 9 := ⟨zt5 6 (rfl) rfl, plainFor_of_name (by decide +kernel), zt5 4 (by decide +kernel) rfl, zt5 5 (by decide +kernel) rfl, zt1 1 (by decide +kernel) rfl, by decide, rfl, ⟨by decide +kernel, by decide +kernel, by decide +kernel⟩⟩
def mX9_many : zMd := (9, yX9_many, cX9_many, 8, (Option.some .int))
def rX9_many : Room := { frames := 7, cells := 0, slots := 0, locals := 163 }
theorem eX9_many : zMeV mX9_many 3 9 := ⟨zt5 24 (rfl) rfl, plainFor_of_name (by decide +kernel), zt5 22 (by decide +kernel) rfl, zt5 23 (by decide +kernel) rfl, zt1 1 (by decide +kernel) rfl, by decide, rfl, ⟨by decide +kernel, by decide +kernel, by decide +kernel⟩⟩
def mX9_when : zMd := (9, yX9_when, cX9_when, 7, (Option.some .int))
def rX9_when : Room := { frames := 7, cells := 0, slots := 0, locals := 163 }
theorem eX9_when : zMeV mX9_when 2 9 := ⟨zt5 28 (rfl) rfl, plainFor_of_name (by decide +kernel), zt5 26 (by decide +kernel) rfl, zt5 27 (by decide +kernel) rfl, zt1 1 (by decide +kernel) rfl, by decide, rfl, ⟨by decide +kernel, by decide +kernel, by decide +kernel⟩⟩
def mX9_way : zMd := (9, yX9_way, cX9_way, 6, (Option.some .int))
def rX9_way : Room := { frames := 6, cells := 0, slots := 0, locals := 142 }
theorem eX9_way : zMeV mX9_way 2 9 := ⟨zt5 32 (rfl) rfl, plainFor_of_name (by decide +kernel), zt5 30 (by decide +kernel) rfl, zt5 31 (by decide +kernel) rfl, zt1 1 (by decide +kernel) rfl, by decide, rfl, ⟨by decide +kernel, by decide +kernel, by decide +kernel⟩⟩
def mX9_best : zMd := (9, yX9_best, cX9_best, 7, (Option.some .int))
def rX9_best : Room := { frames := 7, cells := 0, slots := 0, locals := 163 }
theorem eX9_best : zMeV mX9_best 2 9 := ⟨zt5 54 (rfl) rfl, plainFor_of_name (by decide +kernel), zt5 52 (by decide +kernel) rfl, zt5 53 (by decide +kernel) rfl, zt1 1 (by decide +kernel) rfl, by decide, rfl, ⟨by decide +kernel, by decide +kernel, by decide +kernel⟩⟩
def mX9_second : zMd := (9, yX9_second, cX9_second, 3, (Option.some .int))
def rX9_second : Room := { frames := 7, cells := 0, slots := 0, locals := 163 }
theorem eX9_second : zMeV mX9_second 1 9 := ⟨zt5 58 (rfl) rfl, plainFor_of_name (by decide +kernel), zt5 56 (by decide +kernel) rfl, zt5 57 (by decide +kernel) rfl, zt1 1 (by decide +kernel) rfl, by decide, rfl, ⟨by decide +kernel, by decide +kernel, by decide +kernel⟩⟩
def mX9_gather : zMd := (9, yX9_gather, cX9_gather, 8, (Option.some .int))
def rX9_gather : Room := { frames := 3, cells := 0, slots := 0, locals := 67 }
theorem eX9_gather : zMeV mX9_gather 1 9 := ⟨zt5 62 (rfl) rfl, plainFor_of_name (by decide +kernel), zt5 60 (by decide +kernel) rfl, zt5 61 (by decide +kernel) rfl, zt1 1 (by decide +kernel) rfl, by decide, rfl, ⟨by decide +kernel, by decide +kernel, by decide +kernel⟩⟩
def mX9_day : zMd := (9, yX9_day, cX9_day, 3, (Option.some .int))
def rX9_day : Room := { frames := 2, cells := 0, slots := 0, locals := 45 }
theorem eX9_day : zMeV mX9_day 2 9 := ⟨zt5 78 (rfl) rfl, plainFor_of_name (by decide +kernel), zt5 76 (by decide +kernel) rfl, zt5 77 (by decide +kernel) rfl, zt1 1 (by decide +kernel) rfl, by decide, rfl, ⟨by decide +kernel, by decide +kernel, by decide +kernel⟩⟩
def mX9_strike : zMd := (9, yX9_strike, cX9_strike, 2, (Option.some .int))
def rX9_strike : Room := { frames := 2, cells := 0, slots := 0, locals := 44 }
theorem eX9_strike : zMeV mX9_strike 1 9 := ⟨zt5 90 (rfl) rfl, plainFor_of_name (by decide +kernel), zt5 88 (by decide +kernel) rfl, zt5 89 (by decide +kernel) rfl, zt1 1 (by decide +kernel) rfl, by decide, rfl, ⟨by decide +kernel, by decide +kernel, by decide +kernel⟩⟩
def mX9_known : zMd := (9, yX9_known, cX9_known, 2, (Option.some .boolean))
def rX9_known : Room := { frames := 0, cells := 0, slots := 0, locals := 0 }
theorem eX9_known : zMeV mX9_known 1 9 := ⟨zt5 98 (rfl) rfl, plainFor_of_name (by decide +kernel), zt5 96 (by decide +kernel) rfl, zt5 97 (by decide +kernel) rfl, zt1 1 (by decide +kernel) rfl, by decide, rfl, ⟨by decide +kernel, by decide +kernel, by decide +kernel⟩⟩
def mX9_right : zMd := (9, yX9_right, cX9_right, 2, (Option.some .int))
def rX9_right : Room := { frames := 3, cells := 0, slots := 0, locals := 66 }
theorem eX9_right : zMeV mX9_right 1 9 := ⟨zt5 102 (rfl) rfl, plainFor_of_name (by decide +kernel), zt5 100 (by decide +kernel) rfl, zt5 101 (by decide +kernel) rfl, zt1 1 (by decide +kernel) rfl, by decide, rfl, ⟨by decide +kernel, by decide +kernel, by decide +kernel⟩⟩
def mX9_tells : zMd := (9, yX9_tells, cX9_tells, 5, (Option.some .int))
def rX9_tells : Room := { frames := 3, cells := 0, slots := 0, locals := 66 }
theorem eX9_tells : zMeV mX9_tells 0 9 := ⟨zt5 123 (rfl) rfl, plainFor_of_name (by decide +kernel), zt5 121 (by decide +kernel) rfl, zt5 122 (by decide +kernel) rfl, zt1 1 (by decide +kernel) rfl, by decide, rfl, ⟨by decide +kernel, by decide +kernel, by decide +kernel⟩⟩
def mX9_joined : zMd := (9, yX9_joined, cX9_joined, 4, (Option.some .int))
def rX9_joined : Room := { frames := 3, cells := 0, slots := 0, locals := 66 }
theorem eX9_joined : zMeV mX9_joined 3 9 := ⟨zt5 127 (rfl) rfl, plainFor_of_name (by decide +kernel), zt5 125 (by decide +kernel) rfl, zt5 126 (by decide +kernel) rfl, zt1 1 (by decide +kernel) rfl, by decide, rfl, ⟨by decide +kernel, by decide +kernel, by decide +kernel⟩⟩
def mX9_dodgers : zMd := (9, yX9_dodgers, cX9_dodgers, 6, (Option.some .int))
def rX9_dodgers : Room := { frames := 0, cells := 0, slots := 0, locals := 0 }
theorem eX9_dodgers : zMeV mX9_dodgers 4 9 := ⟨zt5 131 (rfl) rfl, plainFor_of_name (by decide +kernel), zt5 129 (by decide +kernel) rfl, zt5 130 (by decide +kernel) rfl, zt1 1 (by decide +kernel) rfl, by decide, rfl, ⟨by decide +kernel, by decide +kernel, by decide +kernel⟩⟩
def mX9_tried : zMd := (9, yX9_tried, cX9_tried, 4, (Option.some .int))
def rX9_tried : Room := { frames := 7, cells := 0, slots := 0, locals := 163 }
theorem eX9_tried : zMeV mX9_tried 3 9 := ⟨zt5 135 (rfl) rfl, plainFor_of_name (by decide +kernel), zt5 133 (by decide +kernel) rfl, zt5 134 (by decide +kernel) rfl, zt1 1 (by decide +kernel) rfl, by decide, rfl, ⟨by decide +kernel, by decide +kernel, by decide +kernel⟩⟩
def mX9_chance : zMd := (9, yX9_chance, cX9_chance, 8, (Option.some .int))
def rX9_chance : Room := { frames := 7, cells := 0, slots := 0, locals := 163 }
theorem eX9_chance : zMeV mX9_chance 3 9 := ⟨zt5 147 (rfl) rfl, plainFor_of_name (by decide +kernel), zt5 145 (by decide +kernel) rfl, zt5 146 (by decide +kernel) rfl, zt1 1 (by decide +kernel) rfl, by decide, rfl, ⟨by decide +kernel, by decide +kernel, by decide +kernel⟩⟩
def mX9_undo : zMd := (9, yX9_undo, cX9_undo, 1, (Option.some .int))
def rX9_undo : Room := { frames := 3, cells := 0, slots := 0, locals := 64 }
theorem eX9_undo : zMeV mX9_undo 0 9 := ⟨zt5 153 (rfl) rfl, plainFor_of_name (by decide +kernel), zt5 151 (by decide +kernel) rfl, zt5 152 (by decide +kernel) rfl, zt1 1 (by decide +kernel) rfl, by decide, rfl, ⟨by decide +kernel, by decide +kernel, by decide +kernel⟩⟩
def mX9_keep : zMd := (9, yX9_keep, cX9_keep, 1, (Option.some .int))
def rX9_keep : Room := { frames := 2, cells := 0, slots := 0, locals := 61 }
theorem eX9_keep : zMeV mX9_keep 0 9 := ⟨zt5 165 (rfl) rfl, plainFor_of_name (by decide +kernel), zt5 163 (by decide +kernel) rfl, zt5 164 (by decide +kernel) rfl, zt1 1 (by decide +kernel) rfl, by decide, rfl, ⟨by decide +kernel, by decide +kernel, by decide +kernel⟩⟩
def mX9_back : zMd := (9, yX9_back, cX9_back, 1, (Option.some .int))
def rX9_back : Room := { frames := 2, cells := 0, slots := 0, locals := 61 }
theorem eX9_back : zMeV mX9_back 0 9 := ⟨zt5 169 (rfl) rfl, plainFor_of_name (by decide +kernel), zt5 167 (by decide +kernel) rfl, zt5 168 (by decide +kernel) rfl, zt1 1 (by decide +kernel) rfl, by decide, rfl, ⟨by decide +kernel, by decide +kernel, by decide +kernel⟩⟩
def mX9_count : zMd := (9, yX9_count, cX9_count, 2, (Option.some .int))
def rX9_count : Room := { frames := 2, cells := 0, slots := 0, locals := 41 }
theorem eX9_count : zMeV mX9_count 1 9 := ⟨zt5 173 (rfl) rfl, plainFor_of_name (by decide +kernel), zt5 171 (by decide +kernel) rfl, zt5 172 (by decide +kernel) rfl, zt1 1 (by decide +kernel) rfl, by decide, rfl, ⟨by decide +kernel, by decide +kernel, by decide +kernel⟩⟩
def mX9_begin : zMd := (9, yX9_begin, cX9_begin, 1, (Option.none : Option Jvm.ClassFile.FieldType))
def rX9_begin : Room := { frames := 2, cells := 0, slots := 0, locals := 45 }
theorem eX9_begin : zMeV mX9_begin 0 9 := ⟨zt3 36 (rfl) rfl, plainFor_of_name (by decide +kernel), zt3 35 (by decide +kernel) rfl, zp1 0 rfl, zt1 1 (by decide +kernel) rfl, by decide, rfl, ⟨by decide +kernel, by decide +kernel, by decide +kernel⟩⟩
def mX9_isNameOfLaw : zMd := (9, yX9_isNameOfLaw, cX9_isNameOfLaw, 1, (Option.some .boolean))
def rX9_isNameOfLaw : Room := { frames := 0, cells := 0, slots := 0, locals := 0 }
theorem eX9_isNameOfLaw : zMeS mX9_isNameOfLaw 1 := ⟨zt3 225 (rfl) rfl, plainFor_of_name (by decide +kernel), zt3 224 (by decide +kernel) rfl, zt1 1 (by decide +kernel) rfl, ⟨by decide +kernel, by decide +kernel, by decide +kernel⟩⟩
def mX9_hasRun : zMd := (9, yX9_hasRun, cX9_hasRun, 2, (Option.some .boolean))
def rX9_hasRun : Room := { frames := 0, cells := 0, slots := 0, locals := 0 }
theorem eX9_hasRun : zMeV mX9_hasRun 1 9 := ⟨zt4 138 (rfl) rfl, plainFor_of_name (by decide +kernel), zt4 137 (by decide +kernel) rfl, zp2 13 rfl, zt1 1 (by decide +kernel) rfl, by decide, rfl, ⟨by decide +kernel, by decide +kernel, by decide +kernel⟩⟩
def mX9_prepare : zMd := (9, yX9_prepare, cX9_prepare, 1, (Option.none : Option Jvm.ClassFile.FieldType))
def rX9_prepare : Room := { frames := 2, cells := 0, slots := 0, locals := 61 }
theorem eX9_prepare : zMeV mX9_prepare 0 9 := ⟨zt5 11 (rfl) rfl, plainFor_of_name (by decide +kernel), zt5 10 (by decide +kernel) rfl, zp3 8 rfl, zt1 1 (by decide +kernel) rfl, by decide, rfl, ⟨by decide +kernel, by decide +kernel, by decide +kernel⟩⟩
def mX9_balanceAfter : zMd := (9, yX9_balanceAfter, cX9_balanceAfter, 2, (Option.some .int))
def rX9_balanceAfter : Room := { frames := 6, cells := 0, slots := 0, locals := 142 }
theorem eX9_balanceAfter : zMeV mX9_balanceAfter 1 9 := ⟨zt5 20 (rfl) rfl, plainFor_of_name (by decide +kernel), zt5 19 (by decide +kernel) rfl, zp3 9 rfl, zt1 1 (by decide +kernel) rfl, by decide, rfl, ⟨by decide +kernel, by decide +kernel, by decide +kernel⟩⟩
def mX9_carried : zMd := (9, yX9_carried, cX9_carried, 6, (Option.some .int))
def rX9_carried : Room := { frames := 3, cells := 0, slots := 0, locals := 84 }
theorem eX9_carried : zMeV mX9_carried 3 9 := ⟨zt4 94 (rfl) rfl, plainFor_of_name (by decide +kernel), zt4 93 (by decide +kernel) rfl, zp2 11 rfl, zt1 1 (by decide +kernel) rfl, by decide, rfl, ⟨by decide +kernel, by decide +kernel, by decide +kernel⟩⟩
def mX9_canTry : zMd := (9, yX9_canTry, cX9_canTry, 3, (Option.some .boolean))
def rX9_canTry : Room := { frames := 1, cells := 0, slots := 0, locals := 21 }
theorem eX9_canTry : zMeV mX9_canTry 2 9 := ⟨zt5 139 (rfl) rfl, plainFor_of_name (by decide +kernel), zt5 138 (by decide +kernel) rfl, zp3 14 rfl, zt1 1 (by decide +kernel) rfl, by decide, rfl, ⟨by decide +kernel, by decide +kernel, by decide +kernel⟩⟩
def mX9_savedBy : zMd := (9, yX9_savedBy, cX9_savedBy, 5, (Option.some .int))
def rX9_savedBy : Room := { frames := 2, cells := 0, slots := 0, locals := 43 }
theorem eX9_savedBy : zMeV mX9_savedBy 1 9 := ⟨zt5 66 (rfl) rfl, plainFor_of_name (by decide +kernel), zt5 65 (by decide +kernel) rfl, zp3 11 rfl, zt1 1 (by decide +kernel) rfl, by decide, rfl, ⟨by decide +kernel, by decide +kernel, by decide +kernel⟩⟩
def mX9_walkOf : zMd := (9, yX9_walkOf, cX9_walkOf, 6, (Option.some .int))
def rX9_walkOf : Room := { frames := 1, cells := 0, slots := 0, locals := 20 }
theorem eX9_walkOf : zMeV mX9_walkOf 1 9 := ⟨zt5 71 (rfl) rfl, plainFor_of_name (by decide +kernel), zt5 70 (by decide +kernel) rfl, zp3 12 rfl, zt1 1 (by decide +kernel) rfl, by decide, rfl, ⟨by decide +kernel, by decide +kernel, by decide +kernel⟩⟩
def mX10_init : zMd := (10, yX10_init, cX10_init, 1, (Option.none : Option Jvm.ClassFile.FieldType))
def rX10_init : Room := { frames := 2, cells := 0, slots := 0, locals := 43 }
theorem eX10_init : zMeI mX10_init 0 := ⟨zt6 30 (rfl) rfl, plainFor_of_name (by decide +kernel), zt6 29 (by decide +kernel) rfl, zt1 17 (by decide +kernel) rfl, rfl, rfl, ⟨by decide +kernel, by decide +kernel, by decide +kernel⟩⟩
def mX10_thrown : zMd := (10, yX10_thrown, cX10_thrown, 1, (Option.some .int))
def rX10_thrown : Room := { frames := 0, cells := 0, slots := 0, locals := 0 }
theorem eX10_thrown : zMeV mX10_thrown 0 10 := ⟨zt7 120 (rfl) rfl, plainFor_of_name (by decide +kernel), zt7 118 (by decide +kernel) rfl, zt7 119 (by decide +kernel) rfl, zt1 17 (by decide +kernel) rfl, by decide, rfl, ⟨by decide +kernel, by decide +kernel, by decide +kernel⟩⟩
def mX10_feed : zMd := (10, yX10_feed, cX10_feed, 8, (Option.some .int))
def rX10_feed : Room := { frames := 0, cells := 0, slots := 0, locals := 0 }
theorem eX10_feed : zMeV mX10_feed 5 10 := ⟨zt7 124 (rfl) rfl, plainFor_of_name (by decide +kernel), zt7 122 (by decide +kernel) rfl, zt7 123 (by decide +kernel) rfl, zt1 17 (by decide +kernel) rfl, by decide, rfl, ⟨by decide +kernel, by decide +kernel, by decide +kernel⟩⟩
def mX10_isIn : zMd := (10, yX10_isIn, cX10_isIn, 3, (Option.some .boolean))
def rX10_isIn : Room := { frames := 0, cells := 0, slots := 0, locals := 0 }
theorem eX10_isIn : zMeS mX10_isIn 3 := ⟨zt7 179 (rfl) rfl, plainFor_of_name (by decide +kernel), zt7 178 (by decide +kernel) rfl, zt1 17 (by decide +kernel) rfl, ⟨by decide +kernel, by decide +kernel, by decide +kernel⟩⟩
def mX10_isOf : zMd := (10, yX10_isOf, cX10_isOf, 2, (Option.some .boolean))
def rX10_isOf : Room := { frames := 0, cells := 0, slots := 0, locals := 0 }
theorem eX10_isOf : zMeS mX10_isOf 2 := ⟨zt9 38 (rfl) rfl, plainFor_of_name (by decide +kernel), zt9 37 (by decide +kernel) rfl, zt1 17 (by decide +kernel) rfl, ⟨by decide +kernel, by decide +kernel, by decide +kernel⟩⟩
def mX10_wrong : zMd := (10, yX10_wrong, cX10_wrong, 2, (Option.some .boolean))
def rX10_wrong : Room := { frames := 0, cells := 0, slots := 0, locals := 0 }
theorem eX10_wrong : zMeV mX10_wrong 1 10 := ⟨zt7 161 (rfl) rfl, plainFor_of_name (by decide +kernel), zt7 160 (by decide +kernel) rfl, zp4 10 rfl, zt1 17 (by decide +kernel) rfl, by decide, rfl, ⟨by decide +kernel, by decide +kernel, by decide +kernel⟩⟩
def mX10_wordAt : zMd := (10, yX10_wordAt, cX10_wordAt, 8, (Option.some .int))
def rX10_wordAt : Room := { frames := 0, cells := 0, slots := 0, locals := 0 }
theorem eX10_wordAt : zMeV mX10_wordAt 2 10 := ⟨zt7 140 (rfl) rfl, plainFor_of_name (by decide +kernel), zt7 139 (by decide +kernel) rfl, zp4 5 rfl, zt1 17 (by decide +kernel) rfl, by decide, rfl, ⟨by decide +kernel, by decide +kernel, by decide +kernel⟩⟩
def mX10_isSmall : zMd := (10, yX10_isSmall, cX10_isSmall, 2, (Option.some .boolean))
def rX10_isSmall : Room := { frames := 0, cells := 0, slots := 0, locals := 0 }
theorem eX10_isSmall : zMeV mX10_isSmall 1 10 := ⟨zt7 136 (rfl) rfl, plainFor_of_name (by decide +kernel), zt7 135 (by decide +kernel) rfl, zp4 4 rfl, zt1 17 (by decide +kernel) rfl, by decide, rfl, ⟨by decide +kernel, by decide +kernel, by decide +kernel⟩⟩
def mX10_isDigit : zMd := (10, yX10_isDigit, cX10_isDigit, 2, (Option.some .boolean))
def rX10_isDigit : Room := { frames := 0, cells := 0, slots := 0, locals := 0 }
theorem eX10_isDigit : zMeV mX10_isDigit 1 10 := ⟨zt7 148 (rfl) rfl, plainFor_of_name (by decide +kernel), zt7 147 (by decide +kernel) rfl, zp4 7 rfl, zt1 17 (by decide +kernel) rfl, by decide, rfl, ⟨by decide +kernel, by decide +kernel, by decide +kernel⟩⟩
def mX10_token : zMd := (10, yX10_token, cX10_token, 1, (Option.none : Option Jvm.ClassFile.FieldType))
def rX10_token : Room := { frames := 1, cells := 0, slots := 0, locals := 27 }
theorem eX10_token : zMeV mX10_token 0 10 := ⟨zt7 132 (rfl) rfl, plainFor_of_name (by decide +kernel), zt7 131 (by decide +kernel) rfl, zp4 3 rfl, zt1 17 (by decide +kernel) rfl, by decide, rfl, ⟨by decide +kernel, by decide +kernel, by decide +kernel⟩⟩
def mX10_signToken : zMd := (10, yX10_signToken, cX10_signToken, 4, (Option.none : Option Jvm.ClassFile.FieldType))
def rX10_signToken : Room := { frames := 0, cells := 0, slots := 0, locals := 0 }
theorem eX10_signToken : zMeV mX10_signToken 0 10 := ⟨zt7 153 (rfl) rfl, plainFor_of_name (by decide +kernel), zt7 152 (by decide +kernel) rfl, zp4 8 rfl, zt1 17 (by decide +kernel) rfl, by decide, rfl, ⟨by decide +kernel, by decide +kernel, by decide +kernel⟩⟩
def mX10_packed : zMd := (10, yX10_packed, cX10_packed, 5, (Option.some .int))
def rX10_packed : Room := { frames := 0, cells := 0, slots := 0, locals := 0 }
theorem eX10_packed : zMeV mX10_packed 2 10 := ⟨zt7 144 (rfl) rfl, plainFor_of_name (by decide +kernel), zt7 143 (by decide +kernel) rfl, zp4 6 rfl, zt1 17 (by decide +kernel) rfl, by decide, rfl, ⟨by decide +kernel, by decide +kernel, by decide +kernel⟩⟩
def mX10_isKey : zMd := (10, yX10_isKey, cX10_isKey, 2, (Option.some .boolean))
def rX10_isKey : Room := { frames := 0, cells := 0, slots := 0, locals := 0 }
theorem eX10_isKey : zMeV mX10_isKey 1 10 := ⟨zt7 183 (rfl) rfl, plainFor_of_name (by decide +kernel), zt7 182 (by decide +kernel) rfl, zp4 14 rfl, zt1 17 (by decide +kernel) rfl, by decide, rfl, ⟨by decide +kernel, by decide +kernel, by decide +kernel⟩⟩
def mX10_isSign : zMd := (10, yX10_isSign, cX10_isSign, 2, (Option.some .boolean))
def rX10_isSign : Room := { frames := 0, cells := 0, slots := 0, locals := 0 }
theorem eX10_isSign : zMeV mX10_isSign 1 10 := ⟨zt7 207 (rfl) rfl, plainFor_of_name (by decide +kernel), zt7 206 (by decide +kernel) rfl, zp5 4 rfl, zt1 17 (by decide +kernel) rfl, by decide, rfl, ⟨by decide +kernel, by decide +kernel, by decide +kernel⟩⟩
def mX10_number : zMd := (10, yX10_number, cX10_number, 3, (Option.some .boolean))
def rX10_number : Room := { frames := 2, cells := 0, slots := 0, locals := 47 }
theorem eX10_number : zMeV mX10_number 2 10 := ⟨zt7 176 (rfl) rfl, plainFor_of_name (by decide +kernel), zt7 175 (by decide +kernel) rfl, zp4 13 rfl, zt1 17 (by decide +kernel) rfl, by decide, rfl, ⟨by decide +kernel, by decide +kernel, by decide +kernel⟩⟩
def mX10_plain : zMd := (10, yX10_plain, cX10_plain, 2, (Option.none : Option Jvm.ClassFile.FieldType))
def rX10_plain : Room := { frames := 0, cells := 0, slots := 0, locals := 0 }
theorem eX10_plain : zMeV mX10_plain 0 10 := ⟨zt6 35 (rfl) rfl, plainFor_of_name (by decide +kernel), zt6 34 (by decide +kernel) rfl, zp4 0 rfl, zt1 17 (by decide +kernel) rfl, by decide, rfl, ⟨by decide +kernel, by decide +kernel, by decide +kernel⟩⟩
def mX10_copies : zMd := (10, yX10_copies, cX10_copies, 3, (Option.none : Option Jvm.ClassFile.FieldType))
def rX10_copies : Room := { frames := 0, cells := 0, slots := 0, locals := 0 }
theorem eX10_copies : zMeS mX10_copies 2 := ⟨zt6 42 (rfl) rfl, plainFor_of_name (by decide +kernel), zt6 41 (by decide +kernel) rfl, zt1 17 (by decide +kernel) rfl, ⟨by decide +kernel, by decide +kernel, by decide +kernel⟩⟩
def mX10_keepText : zMd := (10, yX10_keepText, cX10_keepText, 2, (Option.none : Option Jvm.ClassFile.FieldType))
def rX10_keepText : Room := { frames := 1, cells := 0, slots := 0, locals := 22 }
theorem eX10_keepText : zMeV mX10_keepText 0 10 := ⟨zt6 39 (rfl) rfl, plainFor_of_name (by decide +kernel), zt6 38 (by decide +kernel) rfl, zp4 1 rfl, zt1 17 (by decide +kernel) rfl, by decide, rfl, ⟨by decide +kernel, by decide +kernel, by decide +kernel⟩⟩
def mX10_find : zMd := (10, yX10_find, cX10_find, 5, (Option.some .int))
def rX10_find : Room := { frames := 0, cells := 0, slots := 0, locals := 0 }
theorem eX10_find : zMeS mX10_find 4 := ⟨zt7 172 (rfl) rfl, plainFor_of_name (by decide +kernel), zt7 171 (by decide +kernel) rfl, zt1 17 (by decide +kernel) rfl, ⟨by decide +kernel, by decide +kernel, by decide +kernel⟩⟩
def mX10_newName : zMd := (10, yX10_newName, cX10_newName, 4, (Option.some .boolean))
def rX10_newName : Room := { frames := 2, cells := 0, slots := 0, locals := 47 }
theorem eX10_newName : zMeV mX10_newName 3 10 := ⟨zt7 169 (rfl) rfl, plainFor_of_name (by decide +kernel), zt7 168 (by decide +kernel) rfl, zp4 12 rfl, zt1 17 (by decide +kernel) rfl, by decide, rfl, ⟨by decide +kernel, by decide +kernel, by decide +kernel⟩⟩
def mX10_placeLine : zMd := (10, yX10_placeLine, cX10_placeLine, 2, (Option.some .boolean))
def rX10_placeLine : Room := { frames := 3, cells := 0, slots := 0, locals := 70 }
theorem eX10_placeLine : zMeV mX10_placeLine 0 10 := ⟨zt7 165 (rfl) rfl, plainFor_of_name (by decide +kernel), zt7 164 (by decide +kernel) rfl, zp4 11 rfl, zt1 17 (by decide +kernel) rfl, by decide, rfl, ⟨by decide +kernel, by decide +kernel, by decide +kernel⟩⟩
def mX10_comeLine : zMd := (10, yX10_comeLine, cX10_comeLine, 1, (Option.some .boolean))
def rX10_comeLine : Room := { frames := 3, cells := 0, slots := 0, locals := 69 }
theorem eX10_comeLine : zMeV mX10_comeLine 0 10 := ⟨zt7 187 (rfl) rfl, plainFor_of_name (by decide +kernel), zt7 186 (by decide +kernel) rfl, zp4 15 rfl, zt1 17 (by decide +kernel) rfl, by decide, rfl, ⟨by decide +kernel, by decide +kernel, by decide +kernel⟩⟩
def mX10_skyLine : zMd := (10, yX10_skyLine, cX10_skyLine, 3, (Option.some .boolean))
def rX10_skyLine : Room := { frames := 3, cells := 0, slots := 0, locals := 69 }
theorem eX10_skyLine : zMeV mX10_skyLine 0 10 := ⟨zt7 191 (rfl) rfl, plainFor_of_name (by decide +kernel), zt7 190 (by decide +kernel) rfl, zp5 0 rfl, zt1 17 (by decide +kernel) rfl, by decide, rfl, ⟨by decide +kernel, by decide +kernel, by decide +kernel⟩⟩
def mX10_bandLine : zMd := (10, yX10_bandLine, cX10_bandLine, 1, (Option.some .boolean))
def rX10_bandLine : Room := { frames := 3, cells := 0, slots := 0, locals := 69 }
theorem eX10_bandLine : zMeV mX10_bandLine 0 10 := ⟨zt7 195 (rfl) rfl, plainFor_of_name (by decide +kernel), zt7 194 (by decide +kernel) rfl, zp5 1 rfl, zt1 17 (by decide +kernel) rfl, by decide, rfl, ⟨by decide +kernel, by decide +kernel, by decide +kernel⟩⟩
def mX10_onceLine : zMd := (10, yX10_onceLine, cX10_onceLine, 4, (Option.some .boolean))
def rX10_onceLine : Room := { frames := 3, cells := 0, slots := 0, locals := 69 }
theorem eX10_onceLine : zMeV mX10_onceLine 1 10 := ⟨zt8 6 (rfl) rfl, plainFor_of_name (by decide +kernel), zt8 5 (by decide +kernel) rfl, zp5 13 rfl, zt1 17 (by decide +kernel) rfl, by decide, rfl, ⟨by decide +kernel, by decide +kernel, by decide +kernel⟩⟩
def mX10_lawLine : zMd := (10, yX10_lawLine, cX10_lawLine, 2, (Option.some .boolean))
def rX10_lawLine : Room := { frames := 4, cells := 0, slots := 0, locals := 88 }
theorem eX10_lawLine : zMeV mX10_lawLine 0 10 := ⟨zt7 199 (rfl) rfl, plainFor_of_name (by decide +kernel), zt7 198 (by decide +kernel) rfl, zp5 2 rfl, zt1 17 (by decide +kernel) rfl, by decide, rfl, ⟨by decide +kernel, by decide +kernel, by decide +kernel⟩⟩
def mX10_lineRead : zMd := (10, yX10_lineRead, cX10_lineRead, 2, (Option.some .boolean))
def rX10_lineRead : Room := { frames := 5, cells := 0, slots := 0, locals := 109 }
theorem eX10_lineRead : zMeV mX10_lineRead 0 10 := ⟨zt7 157 (rfl) rfl, plainFor_of_name (by decide +kernel), zt7 156 (by decide +kernel) rfl, zp4 9 rfl, zt1 17 (by decide +kernel) rfl, by decide, rfl, ⟨by decide +kernel, by decide +kernel, by decide +kernel⟩⟩
def mX10_text : zMd := (10, yX10_text, cX10_text, 3, (Option.some .int))
def rX10_text : Room := { frames := 6, cells := 0, slots := 0, locals := 130 }
theorem eX10_text : zMeV mX10_text 1 10 := ⟨zt7 128 (rfl) rfl, plainFor_of_name (by decide +kernel), zt7 126 (by decide +kernel) rfl, zt7 127 (by decide +kernel) rfl, zt1 17 (by decide +kernel) rfl, by decide, rfl, ⟨by decide +kernel, by decide +kernel, by decide +kernel⟩⟩
def mX10_fault : zMd := (10, yX10_fault, cX10_fault, 2, (Option.some .int))
def rX10_fault : Room := { frames := 0, cells := 0, slots := 0, locals := 0 }
theorem eX10_fault : zMeV mX10_fault 1 10 := ⟨zt8 10 (rfl) rfl, plainFor_of_name (by decide +kernel), zt8 8 (by decide +kernel) rfl, zt8 9 (by decide +kernel) rfl, zt1 17 (by decide +kernel) rfl, by decide, rfl, ⟨by decide +kernel, by decide +kernel, by decide +kernel⟩⟩
def mX10_named : zMd := (10, yX10_named, cX10_named, 3, (Option.some .int))
def rX10_named : Room := { frames := 1, cells := 0, slots := 0, locals := 24 }
theorem eX10_named : zMeV mX10_named 2 10 := ⟨zt8 14 (rfl) rfl, plainFor_of_name (by decide +kernel), zt8 12 (by decide +kernel) rfl, zt8 13 (by decide +kernel) rfl, zt1 17 (by decide +kernel) rfl, by decide, rfl, ⟨by decide +kernel, by decide +kernel, by decide +kernel⟩⟩
def mX10_rank : zMd := (10, yX10_rank, cX10_rank, 1, (Option.some .int))
def rX10_rank : Room := { frames := 0, cells := 0, slots := 0, locals := 0 }
theorem eX10_rank : zMeS mX10_rank 1 := ⟨zt7 238 (rfl) rfl, plainFor_of_name (by decide +kernel), zt7 237 (by decide +kernel) rfl, zt1 17 (by decide +kernel) rfl, ⟨by decide +kernel, by decide +kernel, by decide +kernel⟩⟩
def mX10_grown : zMd := (10, yX10_grown, cX10_grown, 4, (Option.none : Option Jvm.ClassFile.FieldType))
def rX10_grown : Room := { frames := 0, cells := 0, slots := 0, locals := 0 }
theorem eX10_grown : zMeV mX10_grown 3 10 := ⟨zt7 227 (rfl) rfl, plainFor_of_name (by decide +kernel), zt7 226 (by decide +kernel) rfl, zp5 9 rfl, zt1 17 (by decide +kernel) rfl, by decide, rfl, ⟨by decide +kernel, by decide +kernel, by decide +kernel⟩⟩
def mX10_dropHeld : zMd := (10, yX10_dropHeld, cX10_dropHeld, 1, (Option.some .int))
def rX10_dropHeld : Room := { frames := 0, cells := 0, slots := 0, locals := 0 }
theorem eX10_dropHeld : zMeV mX10_dropHeld 0 10 := ⟨zt8 2 (rfl) rfl, plainFor_of_name (by decide +kernel), zt8 1 (by decide +kernel) rfl, zp5 12 rfl, zt1 17 (by decide +kernel) rfl, by decide, rfl, ⟨by decide +kernel, by decide +kernel, by decide +kernel⟩⟩
def mX10_bind : zMd := (10, yX10_bind, cX10_bind, 5, (Option.none : Option Jvm.ClassFile.FieldType))
def rX10_bind : Room := { frames := 1, cells := 0, slots := 0, locals := 23 }
theorem eX10_bind : zMeV mX10_bind 1 10 := ⟨zt7 235 (rfl) rfl, plainFor_of_name (by decide +kernel), zt7 234 (by decide +kernel) rfl, zp5 11 rfl, zt1 17 (by decide +kernel) rfl, by decide, rfl, ⟨by decide +kernel, by decide +kernel, by decide +kernel⟩⟩
def mX10_isCounted : zMd := (10, yX10_isCounted, cX10_isCounted, 1, (Option.some .boolean))
def rX10_isCounted : Room := { frames := 1, cells := 0, slots := 0, locals := 21 }
theorem eX10_isCounted : zMeV mX10_isCounted 0 10 := ⟨zt7 219 (rfl) rfl, plainFor_of_name (by decide +kernel), zt7 218 (by decide +kernel) rfl, zp5 7 rfl, zt1 17 (by decide +kernel) rfl, by decide, rfl, ⟨by decide +kernel, by decide +kernel, by decide +kernel⟩⟩
def mX10_waitsFor : zMd := (10, yX10_waitsFor, cX10_waitsFor, 2, (Option.none : Option Jvm.ClassFile.FieldType))
def rX10_waitsFor : Room := { frames := 0, cells := 0, slots := 0, locals := 0 }
theorem eX10_waitsFor : zMeV mX10_waitsFor 1 10 := ⟨zt7 215 (rfl) rfl, plainFor_of_name (by decide +kernel), zt7 214 (by decide +kernel) rfl, zp5 6 rfl, zt1 17 (by decide +kernel) rfl, by decide, rfl, ⟨by decide +kernel, by decide +kernel, by decide +kernel⟩⟩
def mX10_nameMet : zMd := (10, yX10_nameMet, cX10_nameMet, 1, (Option.some .int))
def rX10_nameMet : Room := { frames := 0, cells := 0, slots := 0, locals := 0 }
theorem eX10_nameMet : zMeV mX10_nameMet 0 10 := ⟨zt7 223 (rfl) rfl, plainFor_of_name (by decide +kernel), zt7 222 (by decide +kernel) rfl, zp5 8 rfl, zt1 17 (by decide +kernel) rfl, by decide, rfl, ⟨by decide +kernel, by decide +kernel, by decide +kernel⟩⟩
def mX10_leafRead : zMd := (10, yX10_leafRead, cX10_leafRead, 2, (Option.some .boolean))
def rX10_leafRead : Room := { frames := 2, cells := 0, slots := 0, locals := 47 }
theorem eX10_leafRead : zMeV mX10_leafRead 0 10 := ⟨zt7 211 (rfl) rfl, plainFor_of_name (by decide +kernel), zt7 210 (by decide +kernel) rfl, zp5 5 rfl, zt1 17 (by decide +kernel) rfl, by decide, rfl, ⟨by decide +kernel, by decide +kernel, by decide +kernel⟩⟩
def mX10_signs : zMd := (10, yX10_signs, cX10_signs, 2, (Option.some .boolean))
def rX10_signs : Room := { frames := 2, cells := 0, slots := 0, locals := 47 }
theorem eX10_signs : zMeV mX10_signs 0 10 := ⟨zt7 231 (rfl) rfl, plainFor_of_name (by decide +kernel), zt7 230 (by decide +kernel) rfl, zp5 10 rfl, zt1 17 (by decide +kernel) rfl, by decide, rfl, ⟨by decide +kernel, by decide +kernel, by decide +kernel⟩⟩
def mX10_sumRead : zMd := (10, yX10_sumRead, cX10_sumRead, 1, (Option.some .boolean))
def rX10_sumRead : Room := { frames := 3, cells := 0, slots := 0, locals := 68 }
theorem eX10_sumRead : zMeV mX10_sumRead 0 10 := ⟨zt7 203 (rfl) rfl, plainFor_of_name (by decide +kernel), zt7 202 (by decide +kernel) rfl, zp5 3 rfl, zt1 17 (by decide +kernel) rfl, by decide, rfl, ⟨by decide +kernel, by decide +kernel, by decide +kernel⟩⟩
def mX10_bounded : zMd := (10, yX10_bounded, cX10_bounded, 3, (Option.some .long))
def rX10_bounded : Room := { frames := 0, cells := 0, slots := 0, locals := 0 }
theorem eX10_bounded : zMeV mX10_bounded 1 10 := ⟨zt8 71 (rfl) rfl, plainFor_of_name (by decide +kernel), zt8 70 (by decide +kernel) rfl, zp6 7 rfl, zt1 17 (by decide +kernel) rfl, by decide, rfl, ⟨by decide +kernel, by decide +kernel, by decide +kernel⟩⟩
def mX10_compares : zMd := (10, yX10_compares, cX10_compares, 5, (Option.some .boolean))
def rX10_compares : Room := { frames := 0, cells := 0, slots := 0, locals := 0 }
theorem eX10_compares : zMeS mX10_compares 3 := ⟨zt8 80 (rfl) rfl, plainFor_of_name (by decide +kernel), zt8 79 (by decide +kernel) rfl, zt1 17 (by decide +kernel) rfl, ⟨by decide +kernel, by decide +kernel, by decide +kernel⟩⟩
def mX10_times : zMd := (10, yX10_times, cX10_times, 6, (Option.some .long))
def rX10_times : Room := { frames := 0, cells := 0, slots := 0, locals := 0 }
theorem eX10_times : zMeV mX10_times 2 10 := ⟨zt8 77 (rfl) rfl, plainFor_of_name (by decide +kernel), zt8 76 (by decide +kernel) rfl, zp6 8 rfl, zt1 17 (by decide +kernel) rfl, by decide, rfl, ⟨by decide +kernel, by decide +kernel, by decide +kernel⟩⟩
def mX10_valueOf : zMd := (10, yX10_valueOf, cX10_valueOf, 6, (Option.some .long))
def rX10_valueOf : Room := { frames := 1, cells := 0, slots := 0, locals := 25 }
theorem eX10_valueOf : zMeV mX10_valueOf 1 10 := ⟨zt8 67 (rfl) rfl, plainFor_of_name (by decide +kernel), zt8 66 (by decide +kernel) rfl, zp6 6 rfl, zt1 17 (by decide +kernel) rfl, by decide, rfl, ⟨by decide +kernel, by decide +kernel, by decide +kernel⟩⟩
def mX10_begin : zMd := (10, yX10_begin, cX10_begin, 2, (Option.none : Option Jvm.ClassFile.FieldType))
def rX10_begin : Room := { frames := 0, cells := 0, slots := 0, locals := 0 }
theorem eX10_begin : zMeV mX10_begin 0 10 := ⟨zt6 46 (rfl) rfl, plainFor_of_name (by decide +kernel), zt6 45 (by decide +kernel) rfl, zp4 2 rfl, zt1 17 (by decide +kernel) rfl, by decide, rfl, ⟨by decide +kernel, by decide +kernel, by decide +kernel⟩⟩
def mX10_plainRun : zMd := (10, yX10_plainRun, cX10_plainRun, 2, (Option.none : Option Jvm.ClassFile.FieldType))
def rX10_plainRun : Room := { frames := 0, cells := 0, slots := 0, locals := 0 }
theorem eX10_plainRun : zMeV mX10_plainRun 0 10 := ⟨zt8 46 (rfl) rfl, plainFor_of_name (by decide +kernel), zt8 45 (by decide +kernel) rfl, zp6 2 rfl, zt1 17 (by decide +kernel) rfl, by decide, rfl, ⟨by decide +kernel, by decide +kernel, by decide +kernel⟩⟩
def mX10_layRun : zMd := (10, yX10_layRun, cX10_layRun, 2, (Option.none : Option Jvm.ClassFile.FieldType))
def rX10_layRun : Room := { frames := 0, cells := 0, slots := 0, locals := 0 }
theorem eX10_layRun : zMeV mX10_layRun 0 10 := ⟨zt8 183 (rfl) rfl, plainFor_of_name (by decide +kernel), zt8 182 (by decide +kernel) rfl, zp7 9 rfl, zt1 17 (by decide +kernel) rfl, by decide, rfl, ⟨by decide +kernel, by decide +kernel, by decide +kernel⟩⟩
def mX10_skyOn : zMd := (10, yX10_skyOn, cX10_skyOn, 5, (Option.some .int))
def rX10_skyOn : Room := { frames := 0, cells := 0, slots := 0, locals := 0 }
theorem eX10_skyOn : zMeV mX10_skyOn 1 10 := ⟨zt8 50 (rfl) rfl, plainFor_of_name (by decide +kernel), zt8 49 (by decide +kernel) rfl, zp6 3 rfl, zt1 17 (by decide +kernel) rfl, by decide, rfl, ⟨by decide +kernel, by decide +kernel, by decide +kernel⟩⟩
def mX10_isMusic : zMd := (10, yX10_isMusic, cX10_isMusic, 4, (Option.some .boolean))
def rX10_isMusic : Room := { frames := 1, cells := 0, slots := 0, locals := 22 }
theorem eX10_isMusic : zMeV mX10_isMusic 2 10 := ⟨zt8 63 (rfl) rfl, plainFor_of_name (by decide +kernel), zt8 62 (by decide +kernel) rfl, zp6 5 rfl, zt1 17 (by decide +kernel) rfl, by decide, rfl, ⟨by decide +kernel, by decide +kernel, by decide +kernel⟩⟩
def mX10_manyAt : zMd := (10, yX10_manyAt, cX10_manyAt, 6, (Option.some .int))
def rX10_manyAt : Room := { frames := 0, cells := 0, slots := 0, locals := 0 }
theorem eX10_manyAt : zMeV mX10_manyAt 3 10 := ⟨zt8 38 (rfl) rfl, plainFor_of_name (by decide +kernel), zt8 37 (by decide +kernel) rfl, zp6 1 rfl, zt1 17 (by decide +kernel) rfl, by decide, rfl, ⟨by decide +kernel, by decide +kernel, by decide +kernel⟩⟩
def mX10_lawOf : zMd := (10, yX10_lawOf, cX10_lawOf, 6, (Option.some .long))
def rX10_lawOf : Room := { frames := 2, cells := 0, slots := 0, locals := 50 }
theorem eX10_lawOf : zMeV mX10_lawOf 4 10 := ⟨zt8 59 (rfl) rfl, plainFor_of_name (by decide +kernel), zt8 58 (by decide +kernel) rfl, zp6 4 rfl, zt1 17 (by decide +kernel) rfl, by decide, rfl, ⟨by decide +kernel, by decide +kernel, by decide +kernel⟩⟩
def mX10_boundLaw : zMd := (10, yX10_boundLaw, cX10_boundLaw, 10, (Option.some .int))
def rX10_boundLaw : Room := { frames := 3, cells := 0, slots := 0, locals := 75 }
theorem eX10_boundLaw : zMeV mX10_boundLaw 7 10 := ⟨zt8 157 (rfl) rfl, plainFor_of_name (by decide +kernel), zt8 156 (by decide +kernel) rfl, zp7 6 rfl, zt1 17 (by decide +kernel) rfl, by decide, rfl, ⟨by decide +kernel, by decide +kernel, by decide +kernel⟩⟩
def mX10_goesOff : zMd := (10, yX10_goesOff, cX10_goesOff, 3, (Option.none : Option Jvm.ClassFile.FieldType))
def rX10_goesOff : Room := { frames := 0, cells := 0, slots := 0, locals := 0 }
theorem eX10_goesOff : zMeV mX10_goesOff 2 10 := ⟨zt8 137 (rfl) rfl, plainFor_of_name (by decide +kernel), zt8 136 (by decide +kernel) rfl, zp7 1 rfl, zt1 17 (by decide +kernel) rfl, by decide, rfl, ⟨by decide +kernel, by decide +kernel, by decide +kernel⟩⟩
def mX10_loses : zMd := (10, yX10_loses, cX10_loses, 3, (Option.none : Option Jvm.ClassFile.FieldType))
def rX10_loses : Room := { frames := 1, cells := 0, slots := 0, locals := 22 }
theorem eX10_loses : zMeV mX10_loses 2 10 := ⟨zt8 133 (rfl) rfl, plainFor_of_name (by decide +kernel), zt8 132 (by decide +kernel) rfl, zp7 0 rfl, zt1 17 (by decide +kernel) rfl, by decide, rfl, ⟨by decide +kernel, by decide +kernel, by decide +kernel⟩⟩
def mX10_isFront : zMd := (10, yX10_isFront, cX10_isFront, 3, (Option.some .boolean))
def rX10_isFront : Room := { frames := 0, cells := 0, slots := 0, locals := 0 }
theorem eX10_isFront : zMeV mX10_isFront 2 10 := ⟨zt8 129 (rfl) rfl, plainFor_of_name (by decide +kernel), zt8 128 (by decide +kernel) rfl, zp6 15 rfl, zt1 17 (by decide +kernel) rfl, by decide, rfl, ⟨by decide +kernel, by decide +kernel, by decide +kernel⟩⟩
def mX10_tideOn : zMd := (10, yX10_tideOn, cX10_tideOn, 5, (Option.none : Option Jvm.ClassFile.FieldType))
def rX10_tideOn : Room := { frames := 2, cells := 0, slots := 0, locals := 44 }
theorem eX10_tideOn : zMeV mX10_tideOn 2 10 := ⟨zt8 125 (rfl) rfl, plainFor_of_name (by decide +kernel), zt8 124 (by decide +kernel) rfl, zp6 14 rfl, zt1 17 (by decide +kernel) rfl, by decide, rfl, ⟨by decide +kernel, by decide +kernel, by decide +kernel⟩⟩
def mX10_rainOn : zMd := (10, yX10_rainOn, cX10_rainOn, 4, (Option.none : Option Jvm.ClassFile.FieldType))
def rX10_rainOn : Room := { frames := 2, cells := 0, slots := 0, locals := 44 }
theorem eX10_rainOn : zMeV mX10_rainOn 1 10 := ⟨zt8 141 (rfl) rfl, plainFor_of_name (by decide +kernel), zt8 140 (by decide +kernel) rfl, zp7 2 rfl, zt1 17 (by decide +kernel) rfl, by decide, rfl, ⟨by decide +kernel, by decide +kernel, by decide +kernel⟩⟩
def mX10_goesOn : zMd := (10, yX10_goesOn, cX10_goesOn, 5, (Option.none : Option Jvm.ClassFile.FieldType))
def rX10_goesOn : Room := { frames := 1, cells := 0, slots := 0, locals := 22 }
theorem eX10_goesOn : zMeV mX10_goesOn 2 10 := ⟨zt8 145 (rfl) rfl, plainFor_of_name (by decide +kernel), zt8 144 (by decide +kernel) rfl, zp7 3 rfl, zt1 17 (by decide +kernel) rfl, by decide, rfl, ⟨by decide +kernel, by decide +kernel, by decide +kernel⟩⟩
def mX10_bestPlace : zMd := (10, yX10_bestPlace, cX10_bestPlace, 9, (Option.some .int))
def rX10_bestPlace : Room := { frames := 3, cells := 0, slots := 0, locals := 75 }
theorem eX10_bestPlace : zMeV mX10_bestPlace 2 10 := ⟨zt8 153 (rfl) rfl, plainFor_of_name (by decide +kernel), zt8 152 (by decide +kernel) rfl, zp7 5 rfl, zt1 17 (by decide +kernel) rfl, by decide, rfl, ⟨by decide +kernel, by decide +kernel, by decide +kernel⟩⟩
def mX10_comesOn : zMd := (10, yX10_comesOn, cX10_comesOn, 6, (Option.none : Option Jvm.ClassFile.FieldType))
def rX10_comesOn : Room := { frames := 4, cells := 0, slots := 0, locals := 104 }
theorem eX10_comesOn : zMeV mX10_comesOn 2 10 := ⟨zt8 149 (rfl) rfl, plainFor_of_name (by decide +kernel), zt8 148 (by decide +kernel) rfl, zp7 4 rfl, zt1 17 (by decide +kernel) rfl, by decide, rfl, ⟨by decide +kernel, by decide +kernel, by decide +kernel⟩⟩
def mX10_roundOn : zMd := (10, yX10_roundOn, cX10_roundOn, 7, (Option.none : Option Jvm.ClassFile.FieldType))
def rX10_roundOn : Room := { frames := 4, cells := 0, slots := 0, locals := 104 }
theorem eX10_roundOn : zMeV mX10_roundOn 3 10 := ⟨zt8 161 (rfl) rfl, plainFor_of_name (by decide +kernel), zt8 160 (by decide +kernel) rfl, zp7 7 rfl, zt1 17 (by decide +kernel) rfl, by decide, rfl, ⟨by decide +kernel, by decide +kernel, by decide +kernel⟩⟩
def mX10_step : zMd := (10, yX10_step, cX10_step, 6, (Option.none : Option Jvm.ClassFile.FieldType))
def rX10_step : Room := { frames := 5, cells := 0, slots := 0, locals := 130 }
theorem eX10_step : zMeV mX10_step 2 10 := ⟨zt8 121 (rfl) rfl, plainFor_of_name (by decide +kernel), zt8 120 (by decide +kernel) rfl, zp6 13 rfl, zt1 17 (by decide +kernel) rfl, by decide, rfl, ⟨by decide +kernel, by decide +kernel, by decide +kernel⟩⟩
def mX10_balanceOf : zMd := (10, yX10_balanceOf, cX10_balanceOf, 2, (Option.some .int))
def rX10_balanceOf : Room := { frames := 0, cells := 0, slots := 0, locals := 0 }
theorem eX10_balanceOf : zMeV mX10_balanceOf 1 10 := ⟨zt8 174 (rfl) rfl, plainFor_of_name (by decide +kernel), zt8 173 (by decide +kernel) rfl, zp7 8 rfl, zt1 17 (by decide +kernel) rfl, by decide, rfl, ⟨by decide +kernel, by decide +kernel, by decide +kernel⟩⟩
def mX10_runs : zMd := (10, yX10_runs, cX10_runs, 3, (Option.some .int))
def rX10_runs : Room := { frames := 6, cells := 0, slots := 0, locals := 155 }
theorem eX10_runs : zMeV mX10_runs 1 10 := ⟨zt8 187 (rfl) rfl, plainFor_of_name (by decide +kernel), zt8 186 (by decide +kernel) rfl, zp7 10 rfl, zt1 17 (by decide +kernel) rfl, by decide, rfl, ⟨by decide +kernel, by decide +kernel, by decide +kernel⟩⟩
def mX10_isChair : zMd := (10, yX10_isChair, cX10_isChair, 2, (Option.some .boolean))
def rX10_isChair : Room := { frames := 0, cells := 0, slots := 0, locals := 0 }
theorem eX10_isChair : zMeV mX10_isChair 1 10 := ⟨zt8 22 (rfl) rfl, plainFor_of_name (by decide +kernel), zt8 21 (by decide +kernel) rfl, zp5 14 rfl, zt1 17 (by decide +kernel) rfl, by decide, rfl, ⟨by decide +kernel, by decide +kernel, by decide +kernel⟩⟩
def mX10_isPlace : zMd := (10, yX10_isPlace, cX10_isPlace, 2, (Option.some .boolean))
def rX10_isPlace : Room := { frames := 0, cells := 0, slots := 0, locals := 0 }
theorem eX10_isPlace : zMeV mX10_isPlace 1 10 := ⟨zt8 34 (rfl) rfl, plainFor_of_name (by decide +kernel), zt8 33 (by decide +kernel) rfl, zp6 0 rfl, zt1 17 (by decide +kernel) rfl, by decide, rfl, ⟨by decide +kernel, by decide +kernel, by decide +kernel⟩⟩
def mX10_isRun : zMd := (10, yX10_isRun, cX10_isRun, 2, (Option.some .boolean))
def rX10_isRun : Room := { frames := 1, cells := 0, slots := 0, locals := 22 }
theorem eX10_isRun : zMeV mX10_isRun 1 10 := ⟨zt8 117 (rfl) rfl, plainFor_of_name (by decide +kernel), zt8 116 (by decide +kernel) rfl, zp6 12 rfl, zt1 17 (by decide +kernel) rfl, by decide, rfl, ⟨by decide +kernel, by decide +kernel, by decide +kernel⟩⟩
def mX10_fails : zMd := (10, yX10_fails, cX10_fails, 2, (Option.some .int))
def rX10_fails : Room := { frames := 0, cells := 0, slots := 0, locals := 0 }
theorem eX10_fails : zMeV mX10_fails 1 10 := ⟨zt8 26 (rfl) rfl, plainFor_of_name (by decide +kernel), zt8 25 (by decide +kernel) rfl, zp5 15 rfl, zt1 17 (by decide +kernel) rfl, by decide, rfl, ⟨by decide +kernel, by decide +kernel, by decide +kernel⟩⟩
def mX10_look : zMd := (10, yX10_look, cX10_look, 3, (Option.some .int))
def rX10_look : Room := { frames := 1, cells := 0, slots := 0, locals := 21 }
theorem eX10_look : zMeV mX10_look 2 10 := ⟨zt8 18 (rfl) rfl, plainFor_of_name (by decide +kernel), zt8 16 (by decide +kernel) rfl, zt8 17 (by decide +kernel) rfl, zt1 17 (by decide +kernel) rfl, by decide, rfl, ⟨by decide +kernel, by decide +kernel, by decide +kernel⟩⟩
def mX10_place : zMd := (10, yX10_place, cX10_place, 3, (Option.some .int))
def rX10_place : Room := { frames := 1, cells := 0, slots := 0, locals := 25 }
theorem eX10_place : zMeV mX10_place 2 10 := ⟨zt8 30 (rfl) rfl, plainFor_of_name (by decide +kernel), zt8 28 (by decide +kernel) rfl, zt8 29 (by decide +kernel) rfl, zt1 17 (by decide +kernel) rfl, by decide, rfl, ⟨by decide +kernel, by decide +kernel, by decide +kernel⟩⟩
def mX10_sky : zMd := (10, yX10_sky, cX10_sky, 2, (Option.some .int))
def rX10_sky : Room := { frames := 1, cells := 0, slots := 0, locals := 24 }
theorem eX10_sky : zMeV mX10_sky 1 10 := ⟨zt8 42 (rfl) rfl, plainFor_of_name (by decide +kernel), zt8 40 (by decide +kernel) rfl, zt8 41 (by decide +kernel) rfl, zt1 17 (by decide +kernel) rfl, by decide, rfl, ⟨by decide +kernel, by decide +kernel, by decide +kernel⟩⟩
def mX10_law : zMd := (10, yX10_law, cX10_law, 5, (Option.some .long))
def rX10_law : Room := { frames := 3, cells := 0, slots := 0, locals := 75 }
theorem eX10_law : zMeV mX10_law 2 10 := ⟨zt8 54 (rfl) rfl, plainFor_of_name (by decide +kernel), zt8 52 (by decide +kernel) rfl, zt8 53 (by decide +kernel) rfl, zt1 17 (by decide +kernel) rfl, by decide, rfl, ⟨by decide +kernel, by decide +kernel, by decide +kernel⟩⟩
def mX10_remember : zMd := (10, yX10_remember, cX10_remember, 2, (Option.none : Option Jvm.ClassFile.FieldType))
def rX10_remember : Room := { frames := 0, cells := 0, slots := 0, locals := 0 }
theorem eX10_remember : zMeV mX10_remember 0 10 := ⟨zt8 92 (rfl) rfl, plainFor_of_name (by decide +kernel), zt8 91 (by decide +kernel) rfl, zp6 10 rfl, zt1 17 (by decide +kernel) rfl, by decide, rfl, ⟨by decide +kernel, by decide +kernel, by decide +kernel⟩⟩
def mX10_lays : zMd := (10, yX10_lays, cX10_lays, 8, (Option.some .int))
def rX10_lays : Room := { frames := 0, cells := 0, slots := 0, locals := 0 }
theorem eX10_lays : zMeV mX10_lays 5 10 := ⟨zt8 96 (rfl) rfl, plainFor_of_name (by decide +kernel), zt8 95 (by decide +kernel) rfl, zp6 11 rfl, zt1 17 (by decide +kernel) rfl, by decide, rfl, ⟨by decide +kernel, by decide +kernel, by decide +kernel⟩⟩
def mX10_leftOf : zMd := (10, yX10_leftOf, cX10_leftOf, 4, (Option.some .int))
def rX10_leftOf : Room := { frames := 0, cells := 0, slots := 0, locals := 0 }
theorem eX10_leftOf : zMeV mX10_leftOf 2 10 := ⟨zt8 88 (rfl) rfl, plainFor_of_name (by decide +kernel), zt8 87 (by decide +kernel) rfl, zp6 9 rfl, zt1 17 (by decide +kernel) rfl, by decide, rfl, ⟨by decide +kernel, by decide +kernel, by decide +kernel⟩⟩
def mX10_put : zMd := (10, yX10_put, cX10_put, 4, (Option.some .int))
def rX10_put : Room := { frames := 1, cells := 0, slots := 0, locals := 27 }
theorem eX10_put : zMeV mX10_put 2 10 := ⟨zt8 84 (rfl) rfl, plainFor_of_name (by decide +kernel), zt8 82 (by decide +kernel) rfl, zt8 83 (by decide +kernel) rfl, zt1 17 (by decide +kernel) rfl, by decide, rfl, ⟨by decide +kernel, by decide +kernel, by decide +kernel⟩⟩
def mX10_bring : zMd := (10, yX10_bring, cX10_bring, 4, (Option.some .int))
def rX10_bring : Room := { frames := 1, cells := 0, slots := 0, locals := 27 }
theorem eX10_bring : zMeV mX10_bring 2 10 := ⟨zt8 100 (rfl) rfl, plainFor_of_name (by decide +kernel), zt8 98 (by decide +kernel) rfl, zt8 99 (by decide +kernel) rfl, zt1 17 (by decide +kernel) rfl, by decide, rfl, ⟨by decide +kernel, by decide +kernel, by decide +kernel⟩⟩
def mX10_route : zMd := (10, yX10_route, cX10_route, 5, (Option.some .boolean))
def rX10_route : Room := { frames := 1, cells := 0, slots := 0, locals := 22 }
theorem eX10_route : zMeV mX10_route 2 10 := ⟨zt8 104 (rfl) rfl, plainFor_of_name (by decide +kernel), zt8 102 (by decide +kernel) rfl, zt8 103 (by decide +kernel) rfl, zt1 17 (by decide +kernel) rfl, by decide, rfl, ⟨by decide +kernel, by decide +kernel, by decide +kernel⟩⟩
def mX10_undo : zMd := (10, yX10_undo, cX10_undo, 2, (Option.some .int))
def rX10_undo : Room := { frames := 0, cells := 0, slots := 0, locals := 0 }
theorem eX10_undo : zMeV mX10_undo 0 10 := ⟨zt8 109 (rfl) rfl, plainFor_of_name (by decide +kernel), zt8 107 (by decide +kernel) rfl, zt8 108 (by decide +kernel) rfl, zt1 17 (by decide +kernel) rfl, by decide, rfl, ⟨by decide +kernel, by decide +kernel, by decide +kernel⟩⟩
def mX10_ticks : zMd := (10, yX10_ticks, cX10_ticks, 3, (Option.some .int))
def rX10_ticks : Room := { frames := 6, cells := 0, slots := 0, locals := 155 }
theorem eX10_ticks : zMeV mX10_ticks 1 10 := ⟨zt8 113 (rfl) rfl, plainFor_of_name (by decide +kernel), zt8 111 (by decide +kernel) rfl, zt8 112 (by decide +kernel) rfl, zt1 17 (by decide +kernel) rfl, by decide, rfl, ⟨by decide +kernel, by decide +kernel, by decide +kernel⟩⟩
def mX10_sum : zMd := (10, yX10_sum, cX10_sum, 2, (Option.some .int))
def rX10_sum : Room := { frames := 1, cells := 0, slots := 0, locals := 22 }
theorem eX10_sum : zMeV mX10_sum 1 10 := ⟨zt8 170 (rfl) rfl, plainFor_of_name (by decide +kernel), zt8 168 (by decide +kernel) rfl, zt8 169 (by decide +kernel) rfl, zt1 17 (by decide +kernel) rfl, by decide, rfl, ⟨by decide +kernel, by decide +kernel, by decide +kernel⟩⟩
def mX10_run : zMd := (10, yX10_run, cX10_run, 2, (Option.some .int))
def rX10_run : Room := { frames := 7, cells := 0, slots := 0, locals := 177 }
theorem eX10_run : zMeV mX10_run 1 10 := ⟨zt8 178 (rfl) rfl, plainFor_of_name (by decide +kernel), zt8 176 (by decide +kernel) rfl, zt8 177 (by decide +kernel) rfl, zt1 17 (by decide +kernel) rfl, by decide, rfl, ⟨by decide +kernel, by decide +kernel, by decide +kernel⟩⟩
def mX10_many : zMd := (10, yX10_many, cX10_many, 10, (Option.some .int))
def rX10_many : Room := { frames := 7, cells := 0, slots := 0, locals := 177 }
theorem eX10_many : zMeV mX10_many 3 10 := ⟨zt8 191 (rfl) rfl, plainFor_of_name (by decide +kernel), zt8 189 (by decide +kernel) rfl, zt8 190 (by decide +kernel) rfl, zt1 17 (by decide +kernel) rfl, by decide, rfl, ⟨by decide +kernel, by decide +kernel, by decide +kernel⟩⟩
def mX10_when : zMd := (10, yX10_when, cX10_when, 8, (Option.some .int))
def rX10_when : Room := { frames := 6, cells := 0, slots := 0, locals := 155 }
theorem eX10_when : zMeV mX10_when 2 10 := ⟨zt8 195 (rfl) rfl, plainFor_of_name (by decide +kernel), zt8 193 (by decide +kernel) rfl, zt8 194 (by decide +kernel) rfl, zt1 17 (by decide +kernel) rfl, by decide, rfl, ⟨by decide +kernel, by decide +kernel, by decide +kernel⟩⟩
def mX10_bringAll : zMd := (10, yX10_bringAll, cX10_bringAll, 2, (Option.none : Option Jvm.ClassFile.FieldType))
def rX10_bringAll : Room := { frames := 0, cells := 0, slots := 0, locals := 0 }
theorem eX10_bringAll : zMeV mX10_bringAll 0 10 := ⟨zt8 199 (rfl) rfl, plainFor_of_name (by decide +kernel), zt8 198 (by decide +kernel) rfl, zp7 11 rfl, zt1 17 (by decide +kernel) rfl, by decide, rfl, ⟨by decide +kernel, by decide +kernel, by decide +kernel⟩⟩
def mX10_firstOrder : zMd := (10, yX10_firstOrder, cX10_firstOrder, 2, (Option.none : Option Jvm.ClassFile.FieldType))
def rX10_firstOrder : Room := { frames := 0, cells := 0, slots := 0, locals := 0 }
theorem eX10_firstOrder : zMeV mX10_firstOrder 0 10 := ⟨zt8 207 (rfl) rfl, plainFor_of_name (by decide +kernel), zt8 206 (by decide +kernel) rfl, zp7 12 rfl, zt1 17 (by decide +kernel) rfl, by decide, rfl, ⟨by decide +kernel, by decide +kernel, by decide +kernel⟩⟩
def mX10_turn : zMd := (10, yX10_turn, cX10_turn, 4, (Option.none : Option Jvm.ClassFile.FieldType))
def rX10_turn : Room := { frames := 0, cells := 0, slots := 0, locals := 0 }
theorem eX10_turn : zMeV mX10_turn 2 10 := ⟨zt8 219 (rfl) rfl, plainFor_of_name (by decide +kernel), zt8 218 (by decide +kernel) rfl, zp7 15 rfl, zt1 17 (by decide +kernel) rfl, by decide, rfl, ⟨by decide +kernel, by decide +kernel, by decide +kernel⟩⟩
def mX10_nextOrder : zMd := (10, yX10_nextOrder, cX10_nextOrder, 5, (Option.some .boolean))
def rX10_nextOrder : Room := { frames := 1, cells := 0, slots := 0, locals := 23 }
theorem eX10_nextOrder : zMeV mX10_nextOrder 0 10 := ⟨zt8 215 (rfl) rfl, plainFor_of_name (by decide +kernel), zt8 214 (by decide +kernel) rfl, zp7 14 rfl, zt1 17 (by decide +kernel) rfl, by decide, rfl, ⟨by decide +kernel, by decide +kernel, by decide +kernel⟩⟩
def mX10_packed_ : zMd := (10, yX10_packed_, cX10_packed_, 3, (Option.some .int))
def rX10_packed_ : Room := { frames := 0, cells := 0, slots := 0, locals := 0 }
theorem eX10_packed_ : zMeV mX10_packed_ 0 10 := ⟨zt8 211 (rfl) rfl, plainFor_of_name (by decide +kernel), zt8 210 (by decide +kernel) rfl, zp7 13 rfl, zt1 17 (by decide +kernel) rfl, by decide, rfl, ⟨by decide +kernel, by decide +kernel, by decide +kernel⟩⟩
def mX10_way : zMd := (10, yX10_way, cX10_way, 7, (Option.some .int))
def rX10_way : Room := { frames := 7, cells := 0, slots := 0, locals := 177 }
theorem eX10_way : zMeV mX10_way 2 10 := ⟨zt8 203 (rfl) rfl, plainFor_of_name (by decide +kernel), zt8 201 (by decide +kernel) rfl, zt8 202 (by decide +kernel) rfl, zt1 17 (by decide +kernel) rfl, by decide, rfl, ⟨by decide +kernel, by decide +kernel, by decide +kernel⟩⟩
def mX10_best : zMd := (10, yX10_best, cX10_best, 7, (Option.some .int))
def rX10_best : Room := { frames := 7, cells := 0, slots := 0, locals := 177 }
theorem eX10_best : zMeV mX10_best 2 10 := ⟨zt8 223 (rfl) rfl, plainFor_of_name (by decide +kernel), zt8 221 (by decide +kernel) rfl, zt8 222 (by decide +kernel) rfl, zt1 17 (by decide +kernel) rfl, by decide, rfl, ⟨by decide +kernel, by decide +kernel, by decide +kernel⟩⟩
def mX10_second : zMd := (10, yX10_second, cX10_second, 3, (Option.some .int))
def rX10_second : Room := { frames := 7, cells := 0, slots := 0, locals := 177 }
theorem eX10_second : zMeV mX10_second 1 10 := ⟨zt8 227 (rfl) rfl, plainFor_of_name (by decide +kernel), zt8 225 (by decide +kernel) rfl, zt8 226 (by decide +kernel) rfl, zt1 17 (by decide +kernel) rfl, by decide, rfl, ⟨by decide +kernel, by decide +kernel, by decide +kernel⟩⟩
def mX10_savedBy : zMd := (10, yX10_savedBy, cX10_savedBy, 4, (Option.some .int))
def rX10_savedBy : Room := { frames := 1, cells := 0, slots := 0, locals := 25 }
theorem eX10_savedBy : zMeV mX10_savedBy 0 10 := ⟨zt8 235 (rfl) rfl, plainFor_of_name (by decide +kernel), zt8 234 (by decide +kernel) rfl, zp8 0 rfl, zt1 17 (by decide +kernel) rfl, by decide, rfl, ⟨by decide +kernel, by decide +kernel, by decide +kernel⟩⟩
def mX10_walkBy : zMd := (10, yX10_walkBy, cX10_walkBy, 5, (Option.some .int))
def rX10_walkBy : Room := { frames := 0, cells := 0, slots := 0, locals := 0 }
theorem eX10_walkBy : zMeV mX10_walkBy 0 10 := ⟨zt8 239 (rfl) rfl, plainFor_of_name (by decide +kernel), zt8 238 (by decide +kernel) rfl, zp8 1 rfl, zt1 17 (by decide +kernel) rfl, by decide, rfl, ⟨by decide +kernel, by decide +kernel, by decide +kernel⟩⟩
def mX10_gather : zMd := (10, yX10_gather, cX10_gather, 8, (Option.some .int))
def rX10_gather : Room := { frames := 2, cells := 0, slots := 0, locals := 48 }
theorem eX10_gather : zMeV mX10_gather 1 10 := ⟨zt8 231 (rfl) rfl, plainFor_of_name (by decide +kernel), zt8 229 (by decide +kernel) rfl, zt8 230 (by decide +kernel) rfl, zt1 17 (by decide +kernel) rfl, by decide, rfl, ⟨by decide +kernel, by decide +kernel, by decide +kernel⟩⟩
def mX10_intoBook : zMd := (10, yX10_intoBook, cX10_intoBook, 3, (Option.some .int))
def rX10_intoBook : Room := { frames := 0, cells := 0, slots := 0, locals := 0 }
theorem eX10_intoBook : zMeV mX10_intoBook 2 10 := ⟨zt9 7 (rfl) rfl, plainFor_of_name (by decide +kernel), zt9 6 (by decide +kernel) rfl, zp8 2 rfl, zt1 17 (by decide +kernel) rfl, by decide, rfl, ⟨by decide +kernel, by decide +kernel, by decide +kernel⟩⟩
def mX10_day : zMd := (10, yX10_day, cX10_day, 3, (Option.some .int))
def rX10_day : Room := { frames := 1, cells := 0, slots := 0, locals := 22 }
theorem eX10_day : zMeV mX10_day 2 10 := ⟨zt9 3 (rfl) rfl, plainFor_of_name (by decide +kernel), zt9 1 (by decide +kernel) rfl, zt9 2 (by decide +kernel) rfl, zt1 17 (by decide +kernel) rfl, by decide, rfl, ⟨by decide +kernel, by decide +kernel, by decide +kernel⟩⟩
def mX10_strike : zMd := (10, yX10_strike, cX10_strike, 2, (Option.some .int))
def rX10_strike : Room := { frames := 1, cells := 0, slots := 0, locals := 22 }
theorem eX10_strike : zMeV mX10_strike 1 10 := ⟨zt9 11 (rfl) rfl, plainFor_of_name (by decide +kernel), zt9 9 (by decide +kernel) rfl, zt9 10 (by decide +kernel) rfl, zt1 17 (by decide +kernel) rfl, by decide, rfl, ⟨by decide +kernel, by decide +kernel, by decide +kernel⟩⟩
def mX10_known : zMd := (10, yX10_known, cX10_known, 2, (Option.some .boolean))
def rX10_known : Room := { frames := 1, cells := 0, slots := 0, locals := 22 }
theorem eX10_known : zMeV mX10_known 1 10 := ⟨zt9 15 (rfl) rfl, plainFor_of_name (by decide +kernel), zt9 13 (by decide +kernel) rfl, zt9 14 (by decide +kernel) rfl, zt1 17 (by decide +kernel) rfl, by decide, rfl, ⟨by decide +kernel, by decide +kernel, by decide +kernel⟩⟩
def mX10_knownBy : zMd := (10, yX10_knownBy, cX10_knownBy, 1, (Option.some .int))
def rX10_knownBy : Room := { frames := 0, cells := 0, slots := 0, locals := 0 }
theorem eX10_knownBy : zMeV mX10_knownBy 0 10 := ⟨zt9 35 (rfl) rfl, plainFor_of_name (by decide +kernel), zt9 34 (by decide +kernel) rfl, zp8 6 rfl, zt1 17 (by decide +kernel) rfl, by decide, rfl, ⟨by decide +kernel, by decide +kernel, by decide +kernel⟩⟩
def mX10_layCounts : zMd := (10, yX10_layCounts, cX10_layCounts, 2, (Option.none : Option Jvm.ClassFile.FieldType))
def rX10_layCounts : Room := { frames := 1, cells := 0, slots := 0, locals := 20 }
theorem eX10_layCounts : zMeV mX10_layCounts 0 10 := ⟨zt9 31 (rfl) rfl, plainFor_of_name (by decide +kernel), zt9 30 (by decide +kernel) rfl, zp8 5 rfl, zt1 17 (by decide +kernel) rfl, by decide, rfl, ⟨by decide +kernel, by decide +kernel, by decide +kernel⟩⟩
def mX10_rightOf : zMd := (10, yX10_rightOf, cX10_rightOf, 8, (Option.some .int))
def rX10_rightOf : Room := { frames := 2, cells := 0, slots := 0, locals := 41 }
theorem eX10_rightOf : zMeV mX10_rightOf 3 10 := ⟨zt9 27 (rfl) rfl, plainFor_of_name (by decide +kernel), zt9 26 (by decide +kernel) rfl, zp8 4 rfl, zt1 17 (by decide +kernel) rfl, by decide, rfl, ⟨by decide +kernel, by decide +kernel, by decide +kernel⟩⟩
def mX10_isSigned : zMd := (10, yX10_isSigned, cX10_isSigned, 2, (Option.some .boolean))
def rX10_isSigned : Room := { frames := 0, cells := 0, slots := 0, locals := 0 }
theorem eX10_isSigned : zMeV mX10_isSigned 1 10 := ⟨zt9 23 (rfl) rfl, plainFor_of_name (by decide +kernel), zt9 22 (by decide +kernel) rfl, zp8 3 rfl, zt1 17 (by decide +kernel) rfl, by decide, rfl, ⟨by decide +kernel, by decide +kernel, by decide +kernel⟩⟩
def mX10_right : zMd := (10, yX10_right, cX10_right, 2, (Option.some .int))
def rX10_right : Room := { frames := 3, cells := 0, slots := 0, locals := 68 }
theorem eX10_right : zMeV mX10_right 1 10 := ⟨zt9 19 (rfl) rfl, plainFor_of_name (by decide +kernel), zt9 17 (by decide +kernel) rfl, zt9 18 (by decide +kernel) rfl, zt1 17 (by decide +kernel) rfl, by decide, rfl, ⟨by decide +kernel, by decide +kernel, by decide +kernel⟩⟩
def mX10_tells : zMd := (10, yX10_tells, cX10_tells, 5, (Option.some .int))
def rX10_tells : Room := { frames := 3, cells := 0, slots := 0, locals := 68 }
theorem eX10_tells : zMeV mX10_tells 0 10 := ⟨zt9 42 (rfl) rfl, plainFor_of_name (by decide +kernel), zt9 40 (by decide +kernel) rfl, zt9 41 (by decide +kernel) rfl, zt1 17 (by decide +kernel) rfl, by decide, rfl, ⟨by decide +kernel, by decide +kernel, by decide +kernel⟩⟩
def mX10_joined : zMd := (10, yX10_joined, cX10_joined, 4, (Option.some .int))
def rX10_joined : Room := { frames := 3, cells := 0, slots := 0, locals := 68 }
theorem eX10_joined : zMeV mX10_joined 3 10 := ⟨zt9 46 (rfl) rfl, plainFor_of_name (by decide +kernel), zt9 44 (by decide +kernel) rfl, zt9 45 (by decide +kernel) rfl, zt1 17 (by decide +kernel) rfl, by decide, rfl, ⟨by decide +kernel, by decide +kernel, by decide +kernel⟩⟩
def mX10_dodgers : zMd := (10, yX10_dodgers, cX10_dodgers, 5, (Option.some .int))
def rX10_dodgers : Room := { frames := 1, cells := 0, slots := 0, locals := 22 }
theorem eX10_dodgers : zMeV mX10_dodgers 4 10 := ⟨zt9 50 (rfl) rfl, plainFor_of_name (by decide +kernel), zt9 48 (by decide +kernel) rfl, zt9 49 (by decide +kernel) rfl, zt1 17 (by decide +kernel) rfl, by decide, rfl, ⟨by decide +kernel, by decide +kernel, by decide +kernel⟩⟩
def mX10_triesIt : zMd := (10, yX10_triesIt, cX10_triesIt, 3, (Option.some .boolean))
def rX10_triesIt : Room := { frames := 1, cells := 0, slots := 0, locals := 21 }
theorem eX10_triesIt : zMeV mX10_triesIt 2 10 := ⟨zt9 58 (rfl) rfl, plainFor_of_name (by decide +kernel), zt9 57 (by decide +kernel) rfl, zp8 7 rfl, zt1 17 (by decide +kernel) rfl, by decide, rfl, ⟨by decide +kernel, by decide +kernel, by decide +kernel⟩⟩
def mX10_tried : zMd := (10, yX10_tried, cX10_tried, 4, (Option.some .int))
def rX10_tried : Room := { frames := 7, cells := 0, slots := 0, locals := 177 }
theorem eX10_tried : zMeV mX10_tried 3 10 := ⟨zt9 54 (rfl) rfl, plainFor_of_name (by decide +kernel), zt9 52 (by decide +kernel) rfl, zt9 53 (by decide +kernel) rfl, zt1 17 (by decide +kernel) rfl, by decide, rfl, ⟨by decide +kernel, by decide +kernel, by decide +kernel⟩⟩
def mX10_chance : zMd := (10, yX10_chance, cX10_chance, 8, (Option.some .int))
def rX10_chance : Room := { frames := 7, cells := 0, slots := 0, locals := 177 }
theorem eX10_chance : zMeV mX10_chance 3 10 := ⟨zt9 62 (rfl) rfl, plainFor_of_name (by decide +kernel), zt9 60 (by decide +kernel) rfl, zt9 61 (by decide +kernel) rfl, zt1 17 (by decide +kernel) rfl, by decide, rfl, ⟨by decide +kernel, by decide +kernel, by decide +kernel⟩⟩
def mX10_keep : zMd := (10, yX10_keep, cX10_keep, 2, (Option.some .int))
def rX10_keep : Room := { frames := 0, cells := 0, slots := 0, locals := 0 }
theorem eX10_keep : zMeV mX10_keep 0 10 := ⟨zt9 66 (rfl) rfl, plainFor_of_name (by decide +kernel), zt9 64 (by decide +kernel) rfl, zt9 65 (by decide +kernel) rfl, zt1 17 (by decide +kernel) rfl, by decide, rfl, ⟨by decide +kernel, by decide +kernel, by decide +kernel⟩⟩
def mX10_back : zMd := (10, yX10_back, cX10_back, 2, (Option.some .int))
def rX10_back : Room := { frames := 0, cells := 0, slots := 0, locals := 0 }
theorem eX10_back : zMeV mX10_back 0 10 := ⟨zt9 70 (rfl) rfl, plainFor_of_name (by decide +kernel), zt9 68 (by decide +kernel) rfl, zt9 69 (by decide +kernel) rfl, zt1 17 (by decide +kernel) rfl, by decide, rfl, ⟨by decide +kernel, by decide +kernel, by decide +kernel⟩⟩
def mX10_count : zMd := (10, yX10_count, cX10_count, 2, (Option.some .int))
def rX10_count : Room := { frames := 1, cells := 0, slots := 0, locals := 25 }
theorem eX10_count : zMeV mX10_count 1 10 := ⟨zt9 74 (rfl) rfl, plainFor_of_name (by decide +kernel), zt9 72 (by decide +kernel) rfl, zt9 73 (by decide +kernel) rfl, zt1 17 (by decide +kernel) rfl, by decide, rfl, ⟨by decide +kernel, by decide +kernel, by decide +kernel⟩⟩
def mJ13_bitCount_95d88 : zMd := (12, yJ13_bitCount_95d88, cJ13_bitCount_95d88, 2, (Option.some .int))
def rJ13_bitCount_95d88 : Room := { frames := 0, cells := 0, slots := 0, locals := 0 }
theorem eJ13_bitCount_95d88 : zMeS mJ13_bitCount_95d88 1 := ⟨zt4 97 (rfl) rfl, plainFor_of_name (by decide +kernel), zt4 96 (by decide +kernel) rfl, zt1 24 (by decide +kernel) rfl, ⟨by decide +kernel, by decide +kernel, by decide +kernel⟩⟩
def mJ9_floorMod_7cf53 : zMd := (13, yJ9_floorMod_7cf53, cJ9_floorMod_7cf53, 3, (Option.some .int))
def rJ9_floorMod_7cf53 : Room := { frames := 0, cells := 0, slots := 0, locals := 0 }
theorem eJ9_floorMod_7cf53 : zMeS mJ9_floorMod_7cf53 2 := ⟨zt4 220 (rfl) rfl, by decide +kernel, zt4 219 (by decide +kernel) rfl, zt1 18 (by decide +kernel) rfl, ⟨by decide +kernel, by decide +kernel, by decide +kernel⟩⟩
def mJ9_abs_0f7a4 : zMd := (13, yJ9_abs_0f7a4, cJ9_abs_0f7a4, 1, (Option.some .int))
def rJ9_abs_0f7a4 : Room := { frames := 0, cells := 0, slots := 0, locals := 0 }
theorem eJ9_abs_0f7a4 : zMeS mJ9_abs_0f7a4 1 := ⟨zt5 74 (rfl) rfl, by decide +kernel, zt5 73 (by decide +kernel) rfl, zt1 18 (by decide +kernel) rfl, ⟨by decide +kernel, by decide +kernel, by decide +kernel⟩⟩
def mJ9_abs_067f4 : zMd := (13, yJ9_abs_067f4, cJ9_abs_067f4, 2, (Option.some .long))
def rJ9_abs_067f4 : Room := { frames := 0, cells := 0, slots := 0, locals := 0 }
theorem eJ9_abs_067f4 : zMeS mJ9_abs_067f4 1 := ⟨zt4 73 (rfl) rfl, by decide +kernel, zt4 72 (by decide +kernel) rfl, zt1 18 (by decide +kernel) rfl, ⟨by decide +kernel, by decide +kernel, by decide +kernel⟩⟩
def mJ9_max_7cf53 : zMd := (13, yJ9_max_7cf53, cJ9_max_7cf53, 2, (Option.some .int))
def rJ9_max_7cf53 : Room := { frames := 0, cells := 0, slots := 0, locals := 0 }
theorem eJ9_max_7cf53 : zMeS mJ9_max_7cf53 2 := ⟨zt4 4 (rfl) rfl, by decide +kernel, zt4 3 (by decide +kernel) rfl, zt1 18 (by decide +kernel) rfl, ⟨by decide +kernel, by decide +kernel, by decide +kernel⟩⟩
def mJ9_max_f86c9 : zMd := (13, yJ9_max_f86c9, cJ9_max_f86c9, 4, (Option.some .long))
def rJ9_max_f86c9 : Room := { frames := 0, cells := 0, slots := 0, locals := 0 }
theorem eJ9_max_f86c9 : zMeS mJ9_max_f86c9 2 := ⟨zt4 209 (rfl) rfl, by decide +kernel, zt4 208 (by decide +kernel) rfl, zt1 18 (by decide +kernel) rfl, ⟨by decide +kernel, by decide +kernel, by decide +kernel⟩⟩
def mJ9_min_7cf53 : zMd := (13, yJ9_min_7cf53, cJ9_min_7cf53, 2, (Option.some .int))
def rJ9_min_7cf53 : Room := { frames := 0, cells := 0, slots := 0, locals := 0 }
theorem eJ9_min_7cf53 : zMeS mJ9_min_7cf53 2 := ⟨zt3 120 (rfl) rfl, by decide +kernel, zt3 119 (by decide +kernel) rfl, zt1 18 (by decide +kernel) rfl, ⟨by decide +kernel, by decide +kernel, by decide +kernel⟩⟩
def mJ9_min_f86c9 : zMd := (13, yJ9_min_f86c9, cJ9_min_f86c9, 4, (Option.some .long))
def rJ9_min_f86c9 : Room := { frames := 0, cells := 0, slots := 0, locals := 0 }
theorem eJ9_min_f86c9 : zMeS mJ9_min_f86c9 2 := ⟨zt4 206 (rfl) rfl, by decide +kernel, zt4 205 (by decide +kernel) rfl, zt1 18 (by decide +kernel) rfl, ⟨by decide +kernel, by decide +kernel, by decide +kernel⟩⟩
def mJ7_fill_53178 : zMd := (14, yJ7_fill_53178, cJ7_fill_53178, 4, (Option.none : Option Jvm.ClassFile.FieldType))
def rJ7_fill_53178 : Room := { frames := 0, cells := 0, slots := 0, locals := 0 }
theorem eJ7_fill_53178 : zMeS mJ7_fill_53178 2 := ⟨zt2 165 (rfl) rfl, plainFor_of_name (by decide +kernel), zt2 164 (by decide +kernel) rfl, zt1 15 (by decide +kernel) rfl, ⟨by decide +kernel, by decide +kernel, by decide +kernel⟩⟩
theorem k0_3 : Cond.methodLink (zOwn 0) 3 Lib.objectInit ∈ zG := zt2 115 (by decide +kernel) rfl
theorem k0_29 : Cond.methodLink (zOwn 0) 29 yX0_write ∈ zG := zt5 83 (by decide +kernel) rfl
theorem k0_36 : Cond.methodLink (zOwn 0) 36 yJ9_min_7cf53 ∈ zG := zt5 116 (by decide +kernel) rfl
theorem k0_42 : Cond.methodLink (zOwn 0) 42 yJ7_fill_53178 ∈ zG := zt5 111 (by decide +kernel) rfl
theorem k0_48 : Cond.methodLink (zOwn 0) 48 yX0_knownCount ∈ zG := zt5 112 (by decide +kernel) rfl
theorem k0_52 : Cond.methodLink (zOwn 0) 52 yX0_isThere ∈ zG := zt5 117 (by decide +kernel) rfl
theorem k1_3 : Cond.methodLink (zOwn 1) 3 Lib.objectInit ∈ zG := zt2 92 (by decide +kernel) rfl
theorem k1_25 : Cond.methodLink (zOwn 1) 25 yX1_makeRoom ∈ zG := zt4 105 (by decide +kernel) rfl
theorem k1_50 : Cond.methodLink (zOwn 1) 50 yX2_setRoute ∈ zG := zt5 158 (by decide +kernel) rfl
theorem k1_57 : Cond.methodLink (zOwn 1) 57 yX2_setStacked ∈ zG := zt5 159 (by decide +kernel) rfl
theorem k1_61 : Cond.methodLink (zOwn 1) 61 yX2_setOut ∈ zG := zt5 160 (by decide +kernel) rfl
theorem k1_68 : Cond.methodLink (zOwn 1) 68 yJ13_bitCount_95d88 ∈ zG := zt5 161 (by decide +kernel) rfl
theorem k2_3 : Cond.methodLink (zOwn 2) 3 Lib.objectInit ∈ zG := zt1 219 (by decide +kernel) rfl
theorem k2_36 : Cond.methodLink (zOwn 2) 36 yJ7_fill_53178 ∈ zG := zt3 45 (by decide +kernel) rfl
theorem k2_55 : Cond.methodLink (zOwn 2) 55 yX2_setRoute ∈ zG := zt3 46 (by decide +kernel) rfl
theorem k2_84 : Cond.methodLink (zOwn 2) 84 yX2_setOut ∈ zG := zt4 84 (by decide +kernel) rfl
theorem k2_88 : Cond.methodLink (zOwn 2) 88 yX2_setStacked ∈ zG := zt4 118 (by decide +kernel) rfl
theorem k2_92 : Cond.methodLink (zOwn 2) 92 yX2_isPlace ∈ zG := zt4 88 (by decide +kernel) rfl
theorem k2_96 : Cond.methodLink (zOwn 2) 96 yX2_unseat ∈ zG := zt4 164 (by decide +kernel) rfl
theorem k2_99 : Cond.methodLink (zOwn 2) 99 yX2_lose ∈ zG := zt4 160 (by decide +kernel) rfl
theorem k3_3 : Cond.methodLink (zOwn 3) 3 Lib.objectInit ∈ zG := zt2 143 (by decide +kernel) rfl
theorem k3_15 : Cond.methodLink (zOwn 3) 15 yJ9_min_7cf53 ∈ zG := zt5 37 (by decide +kernel) rfl
theorem k3_21 : Cond.methodLink (zOwn 3) 21 yJ9_max_7cf53 ∈ zG := zt5 38 (by decide +kernel) rfl
theorem k3_28 : Cond.methodLink (zOwn 3) 28 yX3_swap ∈ zG := zt5 47 (by decide +kernel) rfl
theorem k4_3 : Cond.methodLink (zOwn 4) 3 Lib.objectInit ∈ zG := zt2 158 (by decide +kernel) rfl
theorem k4_57 : Cond.methodLink (zOwn 4) 57 yX4_clear ∈ zG := zt2 159 (by decide +kernel) rfl
theorem k4_60 : Cond.methodLink (zOwn 4) 60 yX4_settleSkies ∈ zG := zt2 171 (by decide +kernel) rfl
theorem k4_79 : Cond.methodLink (zOwn 4) 79 yJ7_fill_53178 ∈ zG := zt2 163 (by decide +kernel) rfl
theorem k4_94 : Cond.methodLink (zOwn 4) 94 yX4_hasPlace ∈ zG := zt4 155 (by decide +kernel) rfl
theorem k5_3 : Cond.methodLink (zOwn 5) 3 Lib.objectInit ∈ zG := zt1 127 (by decide +kernel) rfl
theorem k5_33 : Cond.methodLink (zOwn 5) 33 yX4_clear ∈ zG := zt3 112 (by decide +kernel) rfl
theorem k5_38 : Cond.methodLink (zOwn 5) 38 yJ7_fill_53178 ∈ zG := zt3 113 (by decide +kernel) rfl
theorem k5_56 : Cond.methodLink (zOwn 5) 56 yX7_start ∈ zG := zt3 114 (by decide +kernel) rfl
theorem k5_65 : Cond.methodLink (zOwn 5) 65 yX5_readLine ∈ zG := zt3 154 (by decide +kernel) rfl
theorem k5_69 : Cond.methodLink (zOwn 5) 69 yX5_pass ∈ zG := zt4 16 (by decide +kernel) rfl
theorem k5_73 : Cond.methodLink (zOwn 5) 73 yX4_settleSkies ∈ zG := zt4 20 (by decide +kernel) rfl
theorem k5_78 : Cond.methodLink (zOwn 5) 78 yX5_fail ∈ zG := zt3 166 (by decide +kernel) rfl
theorem k5_81 : Cond.methodLink (zOwn 5) 81 yX7_advance ∈ zG := zt3 170 (by decide +kernel) rfl
theorem k5_84 : Cond.methodLink (zOwn 5) 84 yX5_readPlace ∈ zG := zt3 158 (by decide +kernel) rfl
theorem k5_87 : Cond.methodLink (zOwn 5) 87 yX5_readCome ∈ zG := zt3 179 (by decide +kernel) rfl
theorem k5_90 : Cond.methodLink (zOwn 5) 90 yX5_readSky ∈ zG := zt3 183 (by decide +kernel) rfl
theorem k5_93 : Cond.methodLink (zOwn 5) 93 yX5_readBand ∈ zG := zt3 187 (by decide +kernel) rfl
theorem k5_96 : Cond.methodLink (zOwn 5) 96 yX5_readSign ∈ zG := zt3 191 (by decide +kernel) rfl
theorem k5_99 : Cond.methodLink (zOwn 5) 99 yX5_readLaw ∈ zG := zt3 199 (by decide +kernel) rfl
theorem k5_102 : Cond.methodLink (zOwn 5) 102 yX5_readSet ∈ zG := zt4 8 (by decide +kernel) rfl
theorem k5_111 : Cond.methodLink (zOwn 5) 111 yX5_passWord ∈ zG := zt3 162 (by decide +kernel) rfl
theorem k5_115 : Cond.methodLink (zOwn 5) 115 yX4_placeNamed ∈ zG := zt3 171 (by decide +kernel) rfl
theorem k5_125 : Cond.methodLink (zOwn 5) 125 yX5_number ∈ zG := zt3 175 (by decide +kernel) rfl
theorem k5_162 : Cond.methodLink (zOwn 5) 162 yX4_signNamed ∈ zG := zt3 195 (by decide +kernel) rfl
theorem k5_177 : Cond.methodLink (zOwn 5) 177 yX4_hasLaw ∈ zG := zt3 203 (by decide +kernel) rfl
theorem k5_183 : Cond.methodLink (zOwn 5) 183 yX5_readFormula ∈ zG := zt3 207 (by decide +kernel) rfl
theorem k5_195 : Cond.methodLink (zOwn 5) 195 yX5_readOperand ∈ zG := zt3 211 (by decide +kernel) rfl
theorem k5_198 : Cond.methodLink (zOwn 5) 198 yX5_writeJoints ∈ zG := zt3 234 (by decide +kernel) rfl
theorem k5_201 : Cond.methodLink (zOwn 5) 201 yX5_readJoint ∈ zG := zt3 238 (by decide +kernel) rfl
theorem k5_204 : Cond.methodLink (zOwn 5) 204 yX5_countKnot ∈ zG := zt3 215 (by decide +kernel) rfl
theorem k5_207 : Cond.methodLink (zOwn 5) 207 yX5_write ∈ zG := zt3 219 (by decide +kernel) rfl
theorem k5_213 : Cond.methodLink (zOwn 5) 213 yX5_topRank ∈ zG := zt3 226 (by decide +kernel) rfl
theorem k5_217 : Cond.methodLink (zOwn 5) 217 yX5_push ∈ zG := zt3 230 (by decide +kernel) rfl
theorem k5_220 : Cond.methodLink (zOwn 5) 220 yJ9_max_7cf53 ∈ zG := zt4 2 (by decide +kernel) rfl
theorem k5_225 : Cond.methodLink (zOwn 5) 225 yX5_rankOf ∈ zG := zt4 5 (by decide +kernel) rfl
theorem k6_3 : Cond.methodLink (zOwn 6) 3 Lib.objectInit ∈ zG := zt1 173 (by decide +kernel) rfl
theorem k7_3 : Cond.methodLink (zOwn 7) 3 Lib.objectInit ∈ zG := zt1 38 (by decide +kernel) rfl
theorem k7_21 : Cond.methodLink (zOwn 7) 21 yJ0_length_8abf5 ∈ zG := zt1 40 (by decide +kernel) rfl
theorem k7_27 : Cond.methodLink (zOwn 7) 27 yJ0_charAt_5068e ∈ zG := zt1 50 (by decide +kernel) rfl
theorem k7_31 : Cond.methodLink (zOwn 7) 31 yX7_letterAt ∈ zG := zt1 88 (by decide +kernel) rfl
theorem k7_39 : Cond.methodLink (zOwn 7) 39 yJ9_min_7cf53 ∈ zG := zt3 118 (by decide +kernel) rfl
theorem k7_49 : Cond.methodLink (zOwn 7) 49 yX7_advance ∈ zG := zt3 121 (by decide +kernel) rfl
theorem k7_61 : Cond.methodLink (zOwn 7) 61 yX7_isLetter ∈ zG := zt3 125 (by decide +kernel) rfl
theorem k7_65 : Cond.methodLink (zOwn 7) 65 yX7_readWord ∈ zG := zt3 128 (by decide +kernel) rfl
theorem k7_68 : Cond.methodLink (zOwn 7) 68 yX7_isDigit ∈ zG := zt3 136 (by decide +kernel) rfl
theorem k7_71 : Cond.methodLink (zOwn 7) 71 yX7_readNumber ∈ zG := zt3 139 (by decide +kernel) rfl
theorem k7_74 : Cond.methodLink (zOwn 7) 74 yX7_readMark ∈ zG := zt3 144 (by decide +kernel) rfl
theorem k7_78 : Cond.methodLink (zOwn 7) 78 yX7_wordKind ∈ zG := zt3 132 (by decide +kernel) rfl
theorem k7_82 : Cond.methodLink (zOwn 7) 82 yX7_comparison ∈ zG := zt3 148 (by decide +kernel) rfl
theorem k7_85 : Cond.methodLink (zOwn 7) 85 yX7_markKind ∈ zG := zt3 151 (by decide +kernel) rfl
theorem k8_3 : Cond.methodLink (zOwn 8) 3 Lib.objectInit ∈ zG := zt2 68 (by decide +kernel) rfl
theorem k8_37 : Cond.methodLink (zOwn 8) 37 yX2_bringAll ∈ zG := zt4 143 (by decide +kernel) rfl
theorem k8_40 : Cond.methodLink (zOwn 8) 40 yX8_letTideCome ∈ zG := zt4 147 (by decide +kernel) rfl
theorem k8_43 : Cond.methodLink (zOwn 8) 43 yX8_skyNow ∈ zG := zt4 60 (by decide +kernel) rfl
theorem k8_47 : Cond.methodLink (zOwn 8) 47 yX8_letRainFall ∈ zG := zt4 168 (by decide +kernel) rfl
theorem k8_50 : Cond.methodLink (zOwn 8) 50 yX8_letSittersGo ∈ zG := zt4 178 (by decide +kernel) rfl
theorem k8_53 : Cond.methodLink (zOwn 8) 53 yX8_letSittersCome ∈ zG := zt4 182 (by decide +kernel) rfl
theorem k8_56 : Cond.methodLink (zOwn 8) 56 yX8_goRound ∈ zG := zt4 214 (by decide +kernel) rfl
theorem k8_85 : Cond.methodLink (zOwn 8) 85 yX4_isFlooded ∈ zG := zt4 151 (by decide +kernel) rfl
theorem k8_89 : Cond.methodLink (zOwn 8) 89 yX2_loseAll ∈ zG := zt4 156 (by decide +kernel) rfl
theorem k8_99 : Cond.methodLink (zOwn 8) 99 yX2_unseat ∈ zG := zt4 172 (by decide +kernel) rfl
theorem k8_105 : Cond.methodLink (zOwn 8) 105 yX8_wet ∈ zG := zt4 173 (by decide +kernel) rfl
theorem k8_114 : Cond.methodLink (zOwn 8) 114 yX2_lose ∈ zG := zt4 177 (by decide +kernel) rfl
theorem k8_126 : Cond.methodLink (zOwn 8) 126 yX4_comersOn ∈ zG := zt4 186 (by decide +kernel) rfl
theorem k8_130 : Cond.methodLink (zOwn 8) 130 yX8_weigh ∈ zG := zt4 190 (by decide +kernel) rfl
theorem k8_133 : Cond.methodLink (zOwn 8) 133 yX8_dearestPlace ∈ zG := zt4 195 (by decide +kernel) rfl
theorem k8_136 : Cond.methodLink (zOwn 8) 136 yX8_stayAt ∈ zG := zt4 199 (by decide +kernel) rfl
theorem k8_140 : Cond.methodLink (zOwn 8) 140 yX2_seatOne ∈ zG := zt4 210 (by decide +kernel) rfl
theorem k8_144 : Cond.methodLink (zOwn 8) 144 yX4_hasLaw ∈ zG := zt4 52 (by decide +kernel) rfl
theorem k8_148 : Cond.methodLink (zOwn 8) 148 yX8_valueOf ∈ zG := zt4 194 (by decide +kernel) rfl
theorem k8_162 : Cond.methodLink (zOwn 8) 162 yJ9_min_f86c9 ∈ zG := zt4 204 (by decide +kernel) rfl
theorem k8_168 : Cond.methodLink (zOwn 8) 168 yJ9_max_f86c9 ∈ zG := zt4 207 (by decide +kernel) rfl
theorem k8_177 : Cond.methodLink (zOwn 8) 177 yJ9_floorMod_7cf53 ∈ zG := zt4 218 (by decide +kernel) rfl
theorem k8_184 : Cond.methodLink (zOwn 8) 184 yX8_askAt ∈ zG := zt4 221 (by decide +kernel) rfl
theorem k8_190 : Cond.methodLink (zOwn 8) 190 yX4_hasPlace ∈ zG := zt4 53 (by decide +kernel) rfl
theorem k8_205 : Cond.methodLink (zOwn 8) 205 yX2_following ∈ zG := zt4 225 (by decide +kernel) rfl
theorem k8_209 : Cond.methodLink (zOwn 8) 209 yX2_numberOf ∈ zG := zt4 231 (by decide +kernel) rfl
theorem k8_229 : Cond.methodLink (zOwn 8) 229 yX8_nameValue ∈ zG := zt4 56 (by decide +kernel) rfl
theorem k8_232 : Cond.methodLink (zOwn 8) 232 yX8_join ∈ zG := zt4 68 (by decide +kernel) rfl
theorem k8_242 : Cond.methodLink (zOwn 8) 242 yX4_hasBand ∈ zG := zt4 64 (by decide +kernel) rfl
theorem k8_245 : Cond.methodLink (zOwn 8) 245 yJ9_abs_067f4 ∈ zG := zt4 71 (by decide +kernel) rfl
theorem k9_5 : Cond.methodLink (zOwn 9) 5 Lib.objectInit ∈ zG := zt1 30 (by decide +kernel) rfl
theorem k9_13 : Cond.methodLink (zOwn 9) 13 yX7_init ∈ zG := zt1 35 (by decide +kernel) rfl
theorem k9_22 : Cond.methodLink (zOwn 9) 22 yX5_init ∈ zG := zt1 124 (by decide +kernel) rfl
theorem k9_54 : Cond.methodLink (zOwn 9) 54 yX8_init ∈ zG := zt2 65 (by decide +kernel) rfl
theorem k9_87 : Cond.methodLink (zOwn 9) 87 yX4_init ∈ zG := zt2 155 (by decide +kernel) rfl
theorem k9_95 : Cond.methodLink (zOwn 9) 95 yX9_begin ∈ zG := zt3 33 (by decide +kernel) rfl
theorem k9_102 : Cond.methodLink (zOwn 9) 102 yX7_append ∈ zG := zt3 100 (by decide +kernel) rfl
theorem k9_106 : Cond.methodLink (zOwn 9) 106 yX5_readAll ∈ zG := zt3 108 (by decide +kernel) rfl
theorem k9_119 : Cond.methodLink (zOwn 9) 119 yX4_placeNamed ∈ zG := zt4 29 (by decide +kernel) rfl
theorem k9_123 : Cond.methodLink (zOwn 9) 123 yX4_signNamed ∈ zG := zt4 30 (by decide +kernel) rfl
theorem k9_157 : Cond.methodLink (zOwn 9) 157 yX4_hasPlace ∈ zG := zt4 35 (by decide +kernel) rfl
theorem k9_184 : Cond.methodLink (zOwn 9) 184 yX8_valueOf ∈ zG := zt4 48 (by decide +kernel) rfl
theorem k9_194 : Cond.methodLink (zOwn 9) 194 yJ9_min_7cf53 ∈ zG := zt4 79 (by decide +kernel) rfl
theorem k9_200 : Cond.methodLink (zOwn 9) 200 yX2_putOut ∈ zG := zt4 80 (by decide +kernel) rfl
theorem k9_203 : Cond.methodLink (zOwn 9) 203 yX9_carried ∈ zG := zt4 91 (by decide +kernel) rfl
theorem k9_206 : Cond.methodLink (zOwn 9) 206 yX2_bringIn ∈ zG := zt4 114 (by decide +kernel) rfl
theorem k9_209 : Cond.methodLink (zOwn 9) 209 yX1_noteRoute ∈ zG := zt4 126 (by decide +kernel) rfl
theorem k9_213 : Cond.methodLink (zOwn 9) 213 yX2_setRoute ∈ zG := zt4 130 (by decide +kernel) rfl
theorem k9_217 : Cond.methodLink (zOwn 9) 217 yX9_hasRun ∈ zG := zt4 135 (by decide +kernel) rfl
theorem k9_220 : Cond.methodLink (zOwn 9) 220 yX8_advance ∈ zG := zt4 139 (by decide +kernel) rfl
theorem k9_226 : Cond.methodLink (zOwn 9) 226 yX2_balance ∈ zG := zt4 239 (by decide +kernel) rfl
theorem k9_233 : Cond.methodLink (zOwn 9) 233 yX9_prepare ∈ zG := zt5 8 (by decide +kernel) rfl
theorem k9_236 : Cond.methodLink (zOwn 9) 236 yX9_balanceAfter ∈ zG := zt5 17 (by decide +kernel) rfl
theorem k9_248 : Cond.methodLink (zOwn 9) 248 yX3_start ∈ zG := zt5 33 (by decide +kernel) rfl
theorem k9_251 : Cond.methodLink (zOwn 9) 251 yX3_packed ∈ zG := zt5 39 (by decide +kernel) rfl
theorem k9_255 : Cond.methodLink (zOwn 9) 255 yX3_step ∈ zG := zt5 43 (by decide +kernel) rfl
theorem k9_269 : Cond.methodLink (zOwn 9) 269 yX9_savedBy ∈ zG := zt5 63 (by decide +kernel) rfl
theorem k9_273 : Cond.methodLink (zOwn 9) 273 yX9_walkOf ∈ zG := zt5 68 (by decide +kernel) rfl
theorem k9_279 : Cond.methodLink (zOwn 9) 279 yX0_addDay ∈ zG := zt5 79 (by decide +kernel) rfl
theorem k9_283 : Cond.methodLink (zOwn 9) 283 yX0_addStrike ∈ zG := zt5 91 (by decide +kernel) rfl
theorem k9_290 : Cond.methodLink (zOwn 9) 290 yX4_hasSign ∈ zG := zt5 103 (by decide +kernel) rfl
theorem k9_293 : Cond.methodLink (zOwn 9) 293 yX0_rightOf ∈ zG := zt5 107 (by decide +kernel) rfl
theorem k9_297 : Cond.methodLink (zOwn 9) 297 yX9_canTry ∈ zG := zt5 136 (by decide +kernel) rfl
theorem k9_301 : Cond.methodLink (zOwn 9) 301 yX6_change ∈ zG := zt5 140 (by decide +kernel) rfl
theorem k9_305 : Cond.methodLink (zOwn 9) 305 yX2_following ∈ zG := zt5 148 (by decide +kernel) rfl
theorem k9_309 : Cond.methodLink (zOwn 9) 309 yX2_numberOf ∈ zG := zt5 149 (by decide +kernel) rfl
theorem k9_316 : Cond.methodLink (zOwn 9) 316 yX1_takeBack ∈ zG := zt5 154 (by decide +kernel) rfl
theorem k9_319 : Cond.methodLink (zOwn 9) 319 yX2_copyFrom ∈ zG := zt5 12 (by decide +kernel) rfl
theorem k9_331 : Cond.methodLink (zOwn 9) 331 yX0_knownCount ∈ zG := zt5 174 (by decide +kernel) rfl
theorem k9_335 : Cond.methodLink (zOwn 9) 335 yX6_clear ∈ zG := zt3 37 (by decide +kernel) rfl
theorem k9_338 : Cond.methodLink (zOwn 9) 338 yX2_clear ∈ zG := zt3 41 (by decide +kernel) rfl
theorem k9_340 : Cond.methodLink (zOwn 9) 340 yJ13_bitCount_95d88 ∈ zG := zt4 95 (by decide +kernel) rfl
theorem k9_344 : Cond.methodLink (zOwn 9) 344 yX1_noteChairs ∈ zG := zt4 101 (by decide +kernel) rfl
theorem k9_354 : Cond.methodLink (zOwn 9) 354 yX4_isFlooded ∈ zG := zt5 67 (by decide +kernel) rfl
theorem k9_357 : Cond.methodLink (zOwn 9) 357 yJ9_abs_0f7a4 ∈ zG := zt5 72 (by decide +kernel) rfl
theorem k10_1 : Cond.methodLink (zOwn 10) 1 Lib.objectInit ∈ zG := zt6 31 (by decide +kernel) rfl
theorem k10_172 : Cond.methodLink (zOwn 10) 172 yX10_plain ∈ zG := zt6 32 (by decide +kernel) rfl
theorem k10_175 : Cond.methodLink (zOwn 10) 175 yX10_keepText ∈ zG := zt6 36 (by decide +kernel) rfl
theorem k10_199 : Cond.methodLink (zOwn 10) 199 yX10_isSmall ∈ zG := zt7 133 (by decide +kernel) rfl
theorem k10_203 : Cond.methodLink (zOwn 10) 203 yX10_wordAt ∈ zG := zt7 137 (by decide +kernel) rfl
theorem k10_210 : Cond.methodLink (zOwn 10) 210 yX10_packed ∈ zG := zt7 141 (by decide +kernel) rfl
theorem k10_213 : Cond.methodLink (zOwn 10) 213 yX10_isDigit ∈ zG := zt7 145 (by decide +kernel) rfl
theorem k10_217 : Cond.methodLink (zOwn 10) 217 yX10_signToken ∈ zG := zt7 150 (by decide +kernel) rfl
theorem k10_220 : Cond.methodLink (zOwn 10) 220 yX10_wrong ∈ zG := zt7 158 (by decide +kernel) rfl
theorem k10_223 : Cond.methodLink (zOwn 10) 223 yX10_isIn ∈ zG := zt7 177 (by decide +kernel) rfl
theorem k10_230 : Cond.methodLink (zOwn 10) 230 yX10_token ∈ zG := zt7 129 (by decide +kernel) rfl
theorem k10_233 : Cond.methodLink (zOwn 10) 233 yX10_isSign ∈ zG := zt7 204 (by decide +kernel) rfl
theorem k10_236 : Cond.methodLink (zOwn 10) 236 yX10_number ∈ zG := zt7 173 (by decide +kernel) rfl
theorem k10_279 : Cond.methodLink (zOwn 10) 279 yX10_copies ∈ zG := zt6 40 (by decide +kernel) rfl
theorem k10_283 : Cond.methodLink (zOwn 10) 283 yX10_begin ∈ zG := zt6 43 (by decide +kernel) rfl
theorem k10_286 : Cond.methodLink (zOwn 10) 286 yX10_find ∈ zG := zt7 170 (by decide +kernel) rfl
theorem k10_290 : Cond.methodLink (zOwn 10) 290 yX10_newName ∈ zG := zt7 166 (by decide +kernel) rfl
theorem k10_294 : Cond.methodLink (zOwn 10) 294 yX10_isKey ∈ zG := zt7 180 (by decide +kernel) rfl
theorem k10_297 : Cond.methodLink (zOwn 10) 297 yX10_sumRead ∈ zG := zt7 200 (by decide +kernel) rfl
theorem k10_301 : Cond.methodLink (zOwn 10) 301 yX10_placeLine ∈ zG := zt7 162 (by decide +kernel) rfl
theorem k10_304 : Cond.methodLink (zOwn 10) 304 yX10_comeLine ∈ zG := zt7 184 (by decide +kernel) rfl
theorem k10_307 : Cond.methodLink (zOwn 10) 307 yX10_skyLine ∈ zG := zt7 188 (by decide +kernel) rfl
theorem k10_310 : Cond.methodLink (zOwn 10) 310 yX10_bandLine ∈ zG := zt7 192 (by decide +kernel) rfl
theorem k10_313 : Cond.methodLink (zOwn 10) 313 yX10_lawLine ∈ zG := zt7 196 (by decide +kernel) rfl
theorem k10_316 : Cond.methodLink (zOwn 10) 316 yX10_onceLine ∈ zG := zt8 3 (by decide +kernel) rfl
theorem k10_319 : Cond.methodLink (zOwn 10) 319 yX10_lineRead ∈ zG := zt7 154 (by decide +kernel) rfl
theorem k10_328 : Cond.methodLink (zOwn 10) 328 yX10_rank ∈ zG := zt7 236 (by decide +kernel) rfl
theorem k10_332 : Cond.methodLink (zOwn 10) 332 yX10_dropHeld ∈ zG := zt7 239 (by decide +kernel) rfl
theorem k10_336 : Cond.methodLink (zOwn 10) 336 yX10_grown ∈ zG := zt7 224 (by decide +kernel) rfl
theorem k10_343 : Cond.methodLink (zOwn 10) 343 yX10_waitsFor ∈ zG := zt7 212 (by decide +kernel) rfl
theorem k10_351 : Cond.methodLink (zOwn 10) 351 yX10_isCounted ∈ zG := zt7 216 (by decide +kernel) rfl
theorem k10_354 : Cond.methodLink (zOwn 10) 354 yX10_nameMet ∈ zG := zt7 220 (by decide +kernel) rfl
theorem k10_360 : Cond.methodLink (zOwn 10) 360 yX10_bind ∈ zG := zt7 232 (by decide +kernel) rfl
theorem k10_363 : Cond.methodLink (zOwn 10) 363 yX10_leafRead ∈ zG := zt7 208 (by decide +kernel) rfl
theorem k10_366 : Cond.methodLink (zOwn 10) 366 yX10_signs ∈ zG := zt7 228 (by decide +kernel) rfl
theorem k10_375 : Cond.methodLink (zOwn 10) 375 yX10_bounded ∈ zG := zt8 68 (by decide +kernel) rfl
theorem k10_379 : Cond.methodLink (zOwn 10) 379 yX10_times ∈ zG := zt8 74 (by decide +kernel) rfl
theorem k10_383 : Cond.methodLink (zOwn 10) 383 yX10_compares ∈ zG := zt8 78 (by decide +kernel) rfl
theorem k10_438 : Cond.methodLink (zOwn 10) 438 yX10_skyOn ∈ zG := zt8 47 (by decide +kernel) rfl
theorem k10_441 : Cond.methodLink (zOwn 10) 441 yX10_isMusic ∈ zG := zt8 60 (by decide +kernel) rfl
theorem k10_444 : Cond.methodLink (zOwn 10) 444 yX10_manyAt ∈ zG := zt8 35 (by decide +kernel) rfl
theorem k10_448 : Cond.methodLink (zOwn 10) 448 yX10_valueOf ∈ zG := zt8 64 (by decide +kernel) rfl
theorem k10_452 : Cond.methodLink (zOwn 10) 452 yX10_lawOf ∈ zG := zt8 56 (by decide +kernel) rfl
theorem k10_456 : Cond.methodLink (zOwn 10) 456 yX10_goesOff ∈ zG := zt8 134 (by decide +kernel) rfl
theorem k10_460 : Cond.methodLink (zOwn 10) 460 yX10_isFront ∈ zG := zt8 126 (by decide +kernel) rfl
theorem k10_463 : Cond.methodLink (zOwn 10) 463 yX10_loses ∈ zG := zt8 130 (by decide +kernel) rfl
theorem k10_466 : Cond.methodLink (zOwn 10) 466 yX10_bestPlace ∈ zG := zt8 150 (by decide +kernel) rfl
theorem k10_469 : Cond.methodLink (zOwn 10) 469 yX10_boundLaw ∈ zG := zt8 154 (by decide +kernel) rfl
theorem k10_483 : Cond.methodLink (zOwn 10) 483 yX10_tideOn ∈ zG := zt8 122 (by decide +kernel) rfl
theorem k10_486 : Cond.methodLink (zOwn 10) 486 yX10_rainOn ∈ zG := zt8 138 (by decide +kernel) rfl
theorem k10_489 : Cond.methodLink (zOwn 10) 489 yX10_goesOn ∈ zG := zt8 142 (by decide +kernel) rfl
theorem k10_492 : Cond.methodLink (zOwn 10) 492 yX10_comesOn ∈ zG := zt8 146 (by decide +kernel) rfl
theorem k10_495 : Cond.methodLink (zOwn 10) 495 yX10_roundOn ∈ zG := zt8 158 (by decide +kernel) rfl
theorem k10_498 : Cond.methodLink (zOwn 10) 498 yX10_step ∈ zG := zt8 118 (by decide +kernel) rfl
theorem k10_501 : Cond.methodLink (zOwn 10) 501 yX10_balanceOf ∈ zG := zt8 171 (by decide +kernel) rfl
theorem k10_504 : Cond.methodLink (zOwn 10) 504 yX10_isChair ∈ zG := zt8 19 (by decide +kernel) rfl
theorem k10_507 : Cond.methodLink (zOwn 10) 507 yX10_fails ∈ zG := zt8 23 (by decide +kernel) rfl
theorem k10_510 : Cond.methodLink (zOwn 10) 510 yX10_isPlace ∈ zG := zt8 31 (by decide +kernel) rfl
theorem k10_513 : Cond.methodLink (zOwn 10) 513 yX10_plainRun ∈ zG := zt8 43 (by decide +kernel) rfl
theorem k10_518 : Cond.methodLink (zOwn 10) 518 yX10_leftOf ∈ zG := zt8 85 (by decide +kernel) rfl
theorem k10_521 : Cond.methodLink (zOwn 10) 521 yX10_remember ∈ zG := zt8 89 (by decide +kernel) rfl
theorem k10_524 : Cond.methodLink (zOwn 10) 524 yX10_lays ∈ zG := zt8 93 (by decide +kernel) rfl
theorem k10_530 : Cond.methodLink (zOwn 10) 530 yX10_isRun ∈ zG := zt8 114 (by decide +kernel) rfl
theorem k10_534 : Cond.methodLink (zOwn 10) 534 yX10_layRun ∈ zG := zt8 180 (by decide +kernel) rfl
theorem k10_537 : Cond.methodLink (zOwn 10) 537 yX10_runs ∈ zG := zt8 184 (by decide +kernel) rfl
theorem k10_540 : Cond.methodLink (zOwn 10) 540 yX10_bringAll ∈ zG := zt8 196 (by decide +kernel) rfl
theorem k10_543 : Cond.methodLink (zOwn 10) 543 yX10_turn ∈ zG := zt8 216 (by decide +kernel) rfl
theorem k10_546 : Cond.methodLink (zOwn 10) 546 yX10_firstOrder ∈ zG := zt8 204 (by decide +kernel) rfl
theorem k10_549 : Cond.methodLink (zOwn 10) 549 yX10_packed_ ∈ zG := zt8 208 (by decide +kernel) rfl
theorem k10_551 : Cond.methodLink (zOwn 10) 551 yX10_nextOrder ∈ zG := zt8 212 (by decide +kernel) rfl
theorem k10_554 : Cond.methodLink (zOwn 10) 554 yX10_savedBy ∈ zG := zt8 232 (by decide +kernel) rfl
theorem k10_557 : Cond.methodLink (zOwn 10) 557 yX10_walkBy ∈ zG := zt8 236 (by decide +kernel) rfl
theorem k10_560 : Cond.methodLink (zOwn 10) 560 yX10_intoBook ∈ zG := zt9 4 (by decide +kernel) rfl
theorem k10_563 : Cond.methodLink (zOwn 10) 563 yX10_knownBy ∈ zG := zt9 32 (by decide +kernel) rfl
theorem k10_566 : Cond.methodLink (zOwn 10) 566 yX10_layCounts ∈ zG := zt9 28 (by decide +kernel) rfl
theorem k10_569 : Cond.methodLink (zOwn 10) 569 yX10_isOf ∈ zG := zt9 36 (by decide +kernel) rfl
theorem k10_572 : Cond.methodLink (zOwn 10) 572 yX10_isSigned ∈ zG := zt9 20 (by decide +kernel) rfl
theorem k10_575 : Cond.methodLink (zOwn 10) 575 yX10_rightOf ∈ zG := zt9 24 (by decide +kernel) rfl
theorem k10_578 : Cond.methodLink (zOwn 10) 578 yX10_triesIt ∈ zG := zt9 55 (by decide +kernel) rfl
theorem k11_7 : Cond.methodLink (zOwn 11) 7 yX9_look ∈ zG := zt5 180 (by decide +kernel) rfl
theorem k11_17 : Cond.methodLink (zOwn 11) 17 yX9_init ∈ zG := zt1 27 (by decide +kernel) rfl
theorem k11_20 : Cond.methodLink (zOwn 11) 20 yX10_init ∈ zG := zt6 28 (by decide +kernel) rfl
theorem k11_21 : Cond.methodLink (zOwn 11) 21 yX9_feed ∈ zG := zt3 96 (by decide +kernel) rfl
theorem k11_25 : Cond.methodLink (zOwn 11) 25 yX10_feed ∈ zG := zt7 121 (by decide +kernel) rfl
theorem k11_26 : Cond.methodLink (zOwn 11) 26 yX9_text ∈ zG := zt3 104 (by decide +kernel) rfl
theorem k11_30 : Cond.methodLink (zOwn 11) 30 yX10_text ∈ zG := zt7 125 (by decide +kernel) rfl
theorem k11_31 : Cond.methodLink (zOwn 11) 31 yX9_fault ∈ zG := zt4 21 (by decide +kernel) rfl
theorem k11_34 : Cond.methodLink (zOwn 11) 34 yX10_fault ∈ zG := zt8 7 (by decide +kernel) rfl
theorem k11_35 : Cond.methodLink (zOwn 11) 35 yX9_named ∈ zG := zt4 25 (by decide +kernel) rfl
theorem k11_38 : Cond.methodLink (zOwn 11) 38 yX10_named ∈ zG := zt8 11 (by decide +kernel) rfl
theorem k11_44 : Cond.methodLink (zOwn 11) 44 yX10_look ∈ zG := zt8 15 (by decide +kernel) rfl
theorem k11_45 : Cond.methodLink (zOwn 11) 45 yX10_thrown ∈ zG := zt7 117 (by decide +kernel) rfl
theorem k11_49 : Cond.methodLink (zOwn 11) 49 yX9_place ∈ zG := zt4 31 (by decide +kernel) rfl
theorem k11_52 : Cond.methodLink (zOwn 11) 52 yX10_place ∈ zG := zt8 27 (by decide +kernel) rfl
theorem k11_53 : Cond.methodLink (zOwn 11) 53 yX9_sky ∈ zG := zt4 39 (by decide +kernel) rfl
theorem k11_56 : Cond.methodLink (zOwn 11) 56 yX10_sky ∈ zG := zt8 39 (by decide +kernel) rfl
theorem k11_57 : Cond.methodLink (zOwn 11) 57 yX9_law ∈ zG := zt4 43 (by decide +kernel) rfl
theorem k11_61 : Cond.methodLink (zOwn 11) 61 yX10_law ∈ zG := zt8 51 (by decide +kernel) rfl
theorem k11_62 : Cond.methodLink (zOwn 11) 62 yX9_put ∈ zG := zt4 75 (by decide +kernel) rfl
theorem k11_65 : Cond.methodLink (zOwn 11) 65 yX10_put ∈ zG := zt8 81 (by decide +kernel) rfl
theorem k11_66 : Cond.methodLink (zOwn 11) 66 yX9_bring ∈ zG := zt4 110 (by decide +kernel) rfl
theorem k11_69 : Cond.methodLink (zOwn 11) 69 yX10_bring ∈ zG := zt8 97 (by decide +kernel) rfl
theorem k11_72 : Cond.methodLink (zOwn 11) 72 yX9_route ∈ zG := zt4 122 (by decide +kernel) rfl
theorem k11_76 : Cond.methodLink (zOwn 11) 76 yX10_route ∈ zG := zt8 101 (by decide +kernel) rfl
theorem k11_77 : Cond.methodLink (zOwn 11) 77 yX9_ticks ∈ zG := zt4 131 (by decide +kernel) rfl
theorem k11_80 : Cond.methodLink (zOwn 11) 80 yX10_ticks ∈ zG := zt8 110 (by decide +kernel) rfl
theorem k11_81 : Cond.methodLink (zOwn 11) 81 yX9_sum ∈ zG := zt4 235 (by decide +kernel) rfl
theorem k11_84 : Cond.methodLink (zOwn 11) 84 yX10_sum ∈ zG := zt8 167 (by decide +kernel) rfl
theorem k11_85 : Cond.methodLink (zOwn 11) 85 yX9_run ∈ zG := zt5 3 (by decide +kernel) rfl
theorem k11_88 : Cond.methodLink (zOwn 11) 88 yX10_run ∈ zG := zt8 175 (by decide +kernel) rfl
theorem k11_89 : Cond.methodLink (zOwn 11) 89 yX9_many ∈ zG := zt5 21 (by decide +kernel) rfl
theorem k11_93 : Cond.methodLink (zOwn 11) 93 yX10_many ∈ zG := zt8 188 (by decide +kernel) rfl
theorem k11_94 : Cond.methodLink (zOwn 11) 94 yX9_when ∈ zG := zt5 25 (by decide +kernel) rfl
theorem k11_97 : Cond.methodLink (zOwn 11) 97 yX10_when ∈ zG := zt8 192 (by decide +kernel) rfl
theorem k11_98 : Cond.methodLink (zOwn 11) 98 yX9_way ∈ zG := zt5 29 (by decide +kernel) rfl
theorem k11_101 : Cond.methodLink (zOwn 11) 101 yX10_way ∈ zG := zt8 200 (by decide +kernel) rfl
theorem k11_102 : Cond.methodLink (zOwn 11) 102 yX9_best ∈ zG := zt5 51 (by decide +kernel) rfl
theorem k11_105 : Cond.methodLink (zOwn 11) 105 yX10_best ∈ zG := zt8 220 (by decide +kernel) rfl
theorem k11_106 : Cond.methodLink (zOwn 11) 106 yX9_second ∈ zG := zt5 55 (by decide +kernel) rfl
theorem k11_109 : Cond.methodLink (zOwn 11) 109 yX10_second ∈ zG := zt8 224 (by decide +kernel) rfl
theorem k11_110 : Cond.methodLink (zOwn 11) 110 yX9_gather ∈ zG := zt5 59 (by decide +kernel) rfl
theorem k11_113 : Cond.methodLink (zOwn 11) 113 yX10_gather ∈ zG := zt8 228 (by decide +kernel) rfl
theorem k11_114 : Cond.methodLink (zOwn 11) 114 yX9_day ∈ zG := zt5 75 (by decide +kernel) rfl
theorem k11_118 : Cond.methodLink (zOwn 11) 118 yX10_day ∈ zG := zt9 0 (by decide +kernel) rfl
theorem k11_119 : Cond.methodLink (zOwn 11) 119 yX9_strike ∈ zG := zt5 87 (by decide +kernel) rfl
theorem k11_122 : Cond.methodLink (zOwn 11) 122 yX10_strike ∈ zG := zt9 8 (by decide +kernel) rfl
theorem k11_123 : Cond.methodLink (zOwn 11) 123 yX9_known ∈ zG := zt5 95 (by decide +kernel) rfl
theorem k11_127 : Cond.methodLink (zOwn 11) 127 yX10_known ∈ zG := zt9 12 (by decide +kernel) rfl
theorem k11_128 : Cond.methodLink (zOwn 11) 128 yX9_right ∈ zG := zt5 99 (by decide +kernel) rfl
theorem k11_131 : Cond.methodLink (zOwn 11) 131 yX10_right ∈ zG := zt9 16 (by decide +kernel) rfl
theorem k11_132 : Cond.methodLink (zOwn 11) 132 yX9_tells ∈ zG := zt5 120 (by decide +kernel) rfl
theorem k11_135 : Cond.methodLink (zOwn 11) 135 yX10_tells ∈ zG := zt9 39 (by decide +kernel) rfl
theorem k11_136 : Cond.methodLink (zOwn 11) 136 yX9_joined ∈ zG := zt5 124 (by decide +kernel) rfl
theorem k11_139 : Cond.methodLink (zOwn 11) 139 yX10_joined ∈ zG := zt9 43 (by decide +kernel) rfl
theorem k11_140 : Cond.methodLink (zOwn 11) 140 yX9_dodgers ∈ zG := zt5 128 (by decide +kernel) rfl
theorem k11_144 : Cond.methodLink (zOwn 11) 144 yX10_dodgers ∈ zG := zt9 47 (by decide +kernel) rfl
theorem k11_145 : Cond.methodLink (zOwn 11) 145 yX9_tried ∈ zG := zt5 132 (by decide +kernel) rfl
theorem k11_148 : Cond.methodLink (zOwn 11) 148 yX10_tried ∈ zG := zt9 51 (by decide +kernel) rfl
theorem k11_149 : Cond.methodLink (zOwn 11) 149 yX9_chance ∈ zG := zt5 144 (by decide +kernel) rfl
theorem k11_152 : Cond.methodLink (zOwn 11) 152 yX10_chance ∈ zG := zt9 59 (by decide +kernel) rfl
theorem k11_153 : Cond.methodLink (zOwn 11) 153 yX9_undo ∈ zG := zt5 150 (by decide +kernel) rfl
theorem k11_156 : Cond.methodLink (zOwn 11) 156 yX10_undo ∈ zG := zt8 106 (by decide +kernel) rfl
theorem k11_157 : Cond.methodLink (zOwn 11) 157 yX9_keep ∈ zG := zt5 162 (by decide +kernel) rfl
theorem k11_160 : Cond.methodLink (zOwn 11) 160 yX10_keep ∈ zG := zt9 63 (by decide +kernel) rfl
theorem k11_161 : Cond.methodLink (zOwn 11) 161 yX9_back ∈ zG := zt5 166 (by decide +kernel) rfl
theorem k11_164 : Cond.methodLink (zOwn 11) 164 yX10_back ∈ zG := zt9 67 (by decide +kernel) rfl
theorem k11_165 : Cond.methodLink (zOwn 11) 165 yX9_count ∈ zG := zt5 170 (by decide +kernel) rfl
theorem k11_168 : Cond.methodLink (zOwn 11) 168 yX10_count ∈ zG := zt9 71 (by decide +kernel) rfl
