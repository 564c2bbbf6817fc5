section ZKR
variable {w : zP} {M : zMd} {R : Room} {Q : Option Value → zMem → Prop} {kc ks pc nL : Nat} {lv : zLoc} {st : List Value} {μ : zMem} {rt : Option FieldType} {fin : Bool} {T : List (Nat × List zI)} {blk : List zI}
/-- the block that stands here, and those that it jumps into -/
theorem zBlkR (n : Nat) (hc : zChk false M.1 M.2.2.1 pc blk = true) (hT : zChks false M.1 M.2.2.1 T) (ho : M.2.1.cls = zOwn M.1) (h1 : M.2.2.2.1 = nL) (h2 : M.2.2.2.2 = rt) (hkc : kc ≤ R.cells) (hks : ks ≤ R.slots) (h : zRun false nL rt Q (zKn false nL rt Q T (fun pc' lv st μ => zX w M R Q kc ks pc' lv st μ) n) pc blk lv st μ) : zX w M R Q kc ks pc lv st μ := by
  subst h1; subst h2
  exact zRun_ok ho (fun h => by cases h) hkc hks (zKn_ok ho (fun h => by cases h) hkc hks hT n) blk pc lv st μ hc h
theorem zBlkRC (n : Nat) (hc : zChk true M.1 M.2.2.1 pc blk = true) (hT : zChks true M.1 M.2.2.1 T) (ho : M.2.1.cls = zOwn M.1) (h1 : M.2.2.2.1 = nL) (h2 : M.2.2.2.2 = rt) (hkc : kc ≤ R.cells) (hks : ks ≤ R.slots) (hn : M.2.1.name = "<init>") (h : zRun true nL rt Q (zKn true nL rt Q T (fun pc' lv st μ => zX w M R Q kc ks pc' lv st μ) n) pc blk lv st μ) : zX w M R Q kc ks pc lv st μ := by
  subst h1; subst h2
  exact zRun_ok ho (fun _ => hn) hkc hks (zKn_ok ho (fun _ => hn) hkc hks hT n) blk pc lv st μ hc h
end ZKR
