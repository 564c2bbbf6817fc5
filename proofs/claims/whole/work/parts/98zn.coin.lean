/-! ===== COINS: how many at most ===== -/
section ZN98zn
variable {V : Nat → Nat → Int32} {P : oPn} {m : oTm} {rt : oRt} {t n c ch q : Nat} {d : Int64} {S : oS} {lw : Nat → Nat → Nat → Nat → Option Int64} {pr : Nat}
theorem co_off : oOff c V 8 0 = V 8 0 := by
  unfold oOff
  simp only [zu_at]
  simp
  split <;> simp [zu_at]
theorem co_lose : oLose c V 8 0 = V 8 0 := by
  unfold oLose
  simp only [zu_at]
  simp
  exact co_off
theorem co_tide {hit : Int32 → Bool} : oTide hit c V 8 0 = V 8 0 := by
  unfold oTide; split
  · exact co_lose
  · rfl
theorem co_wet {nw : Bool} : oWet nw c V 8 0 = V 8 0 := by unfold oWet; simp [zu_at]
theorem co_rain {nw : Bool} {wm : Int32} : oRain nw wm c V 8 0 = V 8 0 := by
  unfold oRain
  split
  · split
    · simp only [zu_at]; simp; rw [co_off, co_wet]
    · simp only [zu_at]; simp; rw [co_lose, co_wet]
  · rfl
theorem co_go {x : Int32} : oGo x c V 8 0 = V 8 0 := by
  unfold oGo
  split
  · simp only [zu_at]; simp; exact co_off
  · rfl
theorem co_iter {f : Nat → (Nat → Nat → Int32) → Nat → Nat → Int32} (h : ∀ c V, f c V 8 0 = V 8 0) : ∀ n V, zIter f n V 8 0 = V 8 0
  | 0, V => rfl
  | n + 1, V => by rw [zIter, h, co_iter h n V]
theorem co_come {t0 : Bool} {vw : Nat → Int32} {sh : Int32} {np : Nat} {x : Int32} : oCome lw t0 vw sh np ch x V 8 0 = V 8 0 := by
  unfold oCome
  generalize oBest (oOpen V sh ch) (oWthV lw t0 vw ch V) np = o
  cases o <;> simp [oSeat, zu_at]
theorem co_v4 : oV4 P m t V 8 0 = V 8 0 := by
  unfold oV4 oV1
  split
  · rw [co_iter (fun c V => co_go), co_iter (fun c V => co_rain), co_iter (fun c V => co_tide)]
  · rw [co_iter (f := fun _ => oCm P m t) (fun c V => by unfold oCm; exact co_come), co_iter (fun c V => co_go), co_iter (fun c V => co_tide)]
theorem co_ask1 {odds : Int32} (h : ∃ a, S.1 8 0 = nI a ∧ a ≤ n) : ∃ a, (oAsk1 odds (nI pr) q c S).1 8 0 = nI a ∧ a ≤ n + pr := by
  obtain ⟨a, h1, h2⟩ := h
  unfold oAsk1
  split
  · split
    · exact ⟨a, by simp [zu_at]; exact h1, by omega⟩
    · refine ⟨a + pr, ?_, by omega⟩
      simp [zu_at]
      rw [h1, nI_add]
  · exact ⟨a, h1, by omega⟩
theorem co_asks {odds : Int32} : ∀ (k : Nat) {n : Nat} {S : oS}, (∃ a, S.1 8 0 = nI a ∧ a ≤ n) → ∃ a, (zIter (oAsk1 odds (nI pr) q) k S).1 8 0 = nI a ∧ a ≤ n + pr * k
  | 0, n, S, h => by obtain ⟨a, g1, g2⟩ := h; exact ⟨a, g1, by omega⟩
  | k + 1, n, S, h => by
    rw [zIter]
    have h1 := co_ask1 (odds := odds) (pr := pr) (q := q) (c := k) (co_asks (odds := odds) k h)
    obtain ⟨a, g1, g2⟩ := h1
    exact ⟨a, g1, by rw [Nat.mul_succ]; omega⟩
theorem co_askAt {nd : Bool} (hch : ch ≤ 40) (hpr : pr ≤ 99) (h : ∃ a, S.1 8 0 = nI a ∧ a ≤ n) : ∃ a, (oAskAt lw nd (nI pr) ch q S).1 8 0 = nI a ∧ a ≤ n + 4000 := by
  unfold oAskAt
  obtain ⟨a, g1, g2⟩ := co_asks (odds := oOdds lw nd ch q S.1) (pr := pr) (q := q) ch h
  have : pr * ch ≤ 99 * 40 := Nat.mul_le_mul hpr hch
  exact ⟨a, g1, by omega⟩
theorem co_G (hch : pCh P ≤ 40) (hpr : pr ≤ 99) (hm : mPr m = nI pr) (h : oCoin S.1 t) : oCoin (oG P m rt t S).1 (t + 1) := by
  obtain ⟨a, h1, h2⟩ := h
  have h0 : ∃ a, (oV4 P m t S.1, S.2).1 8 0 = nI a ∧ a ≤ 8000 * t := ⟨a, by show oV4 P m t S.1 8 0 = _; rw [co_v4]; exact h1, h2⟩
  unfold oG oRound oCoin
  rw [hm]
  split
  · obtain ⟨b, g1, g2⟩ := h0; exact ⟨b, g1, by omega⟩
  · split
    · obtain ⟨b, g1, g2⟩ := co_askAt (lw := lwP P m (nI t)) (nd := mNd m) (q := rt.2.2 (rt.1 - 1 - (t - rt.2.1) % rt.1)) hch hpr (co_askAt (lw := lwP P m (nI t)) (nd := mNd m) (q := rt.2.2 ((t - rt.2.1) % rt.1)) hch hpr h0)
      exact ⟨b, g1, by omega⟩
    · obtain ⟨b, g1, g2⟩ := co_askAt (lw := lwP P m (nI t)) (nd := mNd m) (q := rt.2.2 ((t - rt.2.1) % rt.1)) hch hpr h0
      exact ⟨b, g1, by omega⟩
theorem co_Gs (hch : pCh P ≤ 40) (hpr : pr ≤ 99) (hm : mPr m = nI pr) (h : oCoin S.1 t) : ∀ n, oCoin (oGs P m rt t n S).1 (t + n)
  | 0 => h
  | n + 1 => by
    have := co_Gs hch hpr hm h n
    unfold oGs at this ⊢
    rw [zIter]
    exact co_G hch hpr hm this
theorem co_way (hch : pCh P ≤ 40) (hp : ∃ n, n ≤ 99 ∧ pR P 102 5 = nI n) (h : oCoin V t) : ∀ n, t + n ≤ 96 → (-1 : Int32) < fWay P V d t n (List.range (pNp P)) := by
  intro n hn
  obtain ⟨pr, h1, h2⟩ := hp
  obtain ⟨a, g1, g2⟩ := co_Gs (m := mTold P) (rt := rtO (pNp P) t (List.range (pNp P))) (S := (V, d)) hch h1 h2 h n
  unfold fWay
  rw [g1, Int32.lt_iff_toInt_lt, nI_toInt (by omega)]
  show (-1 : Int) < _
  omega
theorem co_puts : ∀ (n l : Nat), (zIter (oPutS q) n (l, V, 0)).2.1 8 0 = V 8 0
  | 0, l => rfl
  | n + 1, l => by
    rw [zIter]
    unfold oPutS
    split
    · unfold oPutC
      split
      · simp [zu_at]; exact co_puts n l
      · exact co_puts n l
    · exact co_puts n l
theorem co_bris : ∀ (n l : Nat), (zIter (oBriS q) n (l, V, 0)).2.1 8 0 = V 8 0
  | 0, l => rfl
  | n + 1, l => by
    rw [zIter]
    unfold oBriS
    split
    · unfold oStack
      split
      · simp [zu_at]; exact co_bris n l
      · exact co_bris n l
    · exact co_bris n l
end ZN98zn
