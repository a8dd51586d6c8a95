/-! THE LAW's CALLS: both sides answer the same (written by genlaw.py) -/
def lzX (T : pm_T) (as : List Int32) (A : Ab) (v : Int32) (A' : Ab) : Prop := ∀ M, MX M A → T (.ref 0 :: as.map .int) M (fun r M' => r = some (.int v) ∧ MX M' A' ∧ okA A')
def lzY (T : pm_T) (as : List Int32) (A : Ab) (v : Int32) (A' : Ab) : Prop := ∀ M, MY M A → T (.ref 0 :: as.map .int) M (fun r M' => r = some (.int v) ∧ MY M' A')
theorem lz_begin {A : Ab} (hA : okA A) (a : Int32) (b : Int32) (c : Int32) (d : Int32) (e : Int32) : lzX tt_X6_begin [a, b, c, d, e] A (fBegin A a b c d e).1 (fBegin A a b c d e).2 ∧ lzY tt_X7_begin [a, b, c, d, e] A (fBegin A a b c d e).1 (fBegin A a b c d e).2 := ⟨fun M h => ⟨A, hA, h, fun M' h' => ⟨rfl, h', hA.begin a b c d e⟩⟩, fun M h => ⟨A, hA, h, fun M' h' => ⟨rfl, h'⟩⟩⟩
theorem lz_lay {A : Ab} (hA : okA A) (a : Int32) (b : Int32) (c : Int32) : lzX tt_X6_lay [a, b, c] A (fLay A a b c).1 (fLay A a b c).2 ∧ lzY tt_X7_lay [a, b, c] A (fLay A a b c).1 (fLay A a b c).2 := ⟨fun M h => ⟨A, hA, h, fun M' h' => ⟨rfl, h', hA.lay a b c⟩⟩, fun M h => ⟨A, hA, h, fun M' h' => ⟨rfl, h'⟩⟩⟩
theorem lz_make {A : Ab} (hA : okA A) (a : Int32) : lzX tt_X6_make [a] A (fMake A a).1 (fMake A a).2 ∧ lzY tt_X7_make [a] A (fMake A a).1 (fMake A a).2 := ⟨fun M h => ⟨A, hA, h, fun M' h' => ⟨rfl, h', hA.make a⟩⟩, fun M h => ⟨A, hA, h, fun M' h' => ⟨rfl, h'⟩⟩⟩
theorem lz_move {A : Ab} (hA : okA A) (a : Int32) (b : Int32) : lzX tt_X6_move [a, b] A (fMove A a b).1 (fMove A a b).2 ∧ lzY tt_X7_move [a, b] A (fMove A a b).1 (fMove A a b).2 := ⟨fun M h => ⟨A, hA, h, fun M' h' => ⟨rfl, h', hA.move a b⟩⟩, fun M h => ⟨A, hA, h, fun M' h' => ⟨rfl, h'⟩⟩⟩
theorem lz_why {A : Ab} (hA : okA A) : lzX tt_X6_why [] A (nI (aW A)) A ∧ lzY tt_X7_why [] A (nI (aW A)) A := ⟨fun M h => ⟨by rw [h.2.2.2.2.1], h, hA⟩, fun M h => ⟨by rw [h.2.2.2.2.1], h⟩⟩
theorem lz_carry {A : Ab} (hA : okA A) (a : Int32) (b : Int32) (c : Int32) : lzX tt_X6_carry [a, b, c] A (fCarry A a b c).1 (fCarry A a b c).2 ∧ lzY tt_X7_carry [a, b, c] A (fCarry A a b c).1 (fCarry A a b c).2 := ⟨fun M h => ⟨A, hA, h, fun M' h' => ⟨rfl, h', hA.carry a b c⟩⟩, fun M h => ⟨A, hA, h, fun M' h' => ⟨rfl, h'⟩⟩⟩
theorem lz_auto {A : Ab} (hA : okA A) : lzX tt_X6_auto [] A (fAuto A).1 (fAuto A).2 ∧ lzY tt_X7_auto [] A (fAuto A).1 (fAuto A).2 := ⟨fun M h => ⟨A, hA, h, fun M' h' => ⟨rfl, h', hA.auto⟩⟩, fun M h => ⟨A, hA, h, fun M' h' => ⟨rfl, h'⟩⟩⟩
theorem lz_undo {A : Ab} (hA : okA A) : lzX tt_X6_undo [] A (fUndo A).1 (fUndo A).2 ∧ lzY tt_X7_undo [] A (fUndo A).1 (fUndo A).2 := ⟨fun M h => ⟨A, hA, h, fun M' h' => ⟨rfl, h', hA.undo⟩⟩, fun M h => ⟨A, hA, h, fun M' h' => ⟨rfl, h'⟩⟩⟩
theorem lz_redo {A : Ab} (hA : okA A) : lzX tt_X6_redo [] A (fRedo A).1 (fRedo A).2 ∧ lzY tt_X7_redo [] A (fRedo A).1 (fRedo A).2 := ⟨fun M h => ⟨A, hA, h, fun M' h' => ⟨rfl, h', hA.redo⟩⟩, fun M h => ⟨A, hA, h, fun M' h' => ⟨rfl, h'⟩⟩⟩
theorem lz_count {A : Ab} (hA : okA A) (a : Int32) : lzX tt_X6_count [a] A (fCount A a) A ∧ lzY tt_X7_count [a] A (fCount A a) A := ⟨fun M h => ⟨A, hA, h, rfl, h, hA⟩, fun M h => ⟨A, hA, h, fun M' h' => ⟨rfl, h'⟩⟩⟩
theorem lz_card {A : Ab} (hA : okA A) (a : Int32) (b : Int32) : lzX tt_X6_card [a, b] A (fCard A a b) A ∧ lzY tt_X7_card [a, b] A (fCard A a b) A := by
  have h7 := hA.1.2.2.2.2.2.2.1
  have l12 := WF.l12 hA.1 hA.wf
  refine ⟨fun M h => ⟨_, aS A, aP A, h.2.1, h.1, hA.wf.inDk, fun i hi e => ⟨fun j hj e2 => ⟨?_, h, hA⟩, fun hn => ⟨?_, h, hA⟩⟩, fun hn => ⟨?_, h, hA⟩⟩, fun M h => ⟨A, hA, h, rfl, h⟩⟩
  · have := l12 i (by omega)
    unfold fCard colOK
    rw [e, e2, ni_sub (by omega), wi_n (by omega) (by decide) (by omega), if_pos (by simp; omega), tn_n (by omega), ni_sub (by omega), wi_n (by omega) (by decide) (by omega), if_pos (by simp; omega), tn_n (by omega)]
  · have := l12 i (by omega)
    unfold fCard colOK
    rw [e, ni_sub (by omega), wi_n (by omega) (by decide) (by omega), if_pos (by simp; omega), tn_n (by omega), if_neg (fun w => ?_)]
    obtain ⟨w1, w2⟩ := wi_lt (by omega) w
    exact hn _ w2 w1
  · unfold fCard
    rw [if_neg (fun w => ?_)]
    obtain ⟨w1, w2⟩ := colOK_e hA.1 w
    exact hn _ w2 w1
theorem lz_cell {A : Ab} (hA : okA A) (a : Int32) : lzX tt_X6_cell [a] A (fCell A a) A ∧ lzY tt_X7_cell [a] A (fCell A a) A := by
  refine ⟨fun M h => ⟨_, aS A, aP A, h.2.1, h.1, hA.wf.inDk, fun i hi e => ⟨?_, h, hA⟩, fun hn => ⟨?_, h, hA⟩⟩, fun M h => ⟨A, hA, h, rfl, h⟩⟩
  · have h2 := hA.1.2.2.2.2.2.2.2.1
    unfold fCell
    rw [e, ni_sub (by omega), wi_n (by omega) (by decide) (by omega), if_pos (by simp; omega), tn_n (by omega)]
  · unfold fCell
    rw [if_neg (fun w => ?_)]
    obtain ⟨w1, w2⟩ := wi_lt (by have := hA.1.2.2.2.2.2.2.2.1; omega) w
    exact hn _ w2 w1
theorem lz_house {A : Ab} (hA : okA A) (a : Int32) : lzX tt_X6_house [a] A (fHouse A a) A ∧ lzY tt_X7_house [a] A (fHouse A a) A := by
  refine ⟨fun M h => ⟨_, aS A, aP A, h.2.1, h.1, fun i hi e => ⟨?_, h, hA⟩, fun hn => ⟨?_, h, hA⟩⟩, fun M h => ⟨A, hA, h, rfl, h⟩⟩
  · have h1 := hA.1.1
    have h2 := hA.1.2.1
    unfold fHouse
    rw [e, ni_sub h1, wi_n (by omega) (by decide) (by omega), if_pos (by simp; omega), tn_n (by omega)]
  · unfold fHouse
    rw [if_neg (fun w => ?_)]
    obtain ⟨w1, w2⟩ := wi_lt (by have := hA.1.2.1; omega) w
    exact hn _ w2 w1
theorem lz_lets {A : Ab} (hA : okA A) (a : Int32) (b : Int32) : lzX tt_X6_lets [a, b] A (fLets A a b) A ∧ lzY tt_X7_lets [a, b] A (fLets A a b) A := ⟨fun M h => ⟨A, hA, h, rfl, h, hA⟩, fun M h => ⟨A, hA, h, rfl, h⟩⟩
theorem lz_solve {A : Ab} (hA : okA A) (a : Int32) : lzX tt_X6_solve [a] A (fSolve A a).1 (fSolve A a).2 ∧ lzY tt_X7_solve [a] A (fSolve A a).1 (fSolve A a).2 := ⟨fun M h => ⟨A, hA, h, fun M' h0 h' => ⟨rfl, h', h0⟩⟩, fun M h => ⟨A, hA, h, fun M' h' => ⟨rfl, h'⟩⟩⟩
theorem lz_plan {A : Ab} (hA : okA A) (a : Int32) (b : Int32) : lzX tt_X6_plan [a, b] A (fPlan A a b) A ∧ lzY tt_X7_plan [a, b] A (fPlan A a b) A := ⟨fun M h => ⟨A, hA, h, rfl, h, hA⟩, fun M h => ⟨A, hA, h, rfl, h⟩⟩
theorem lz_needs {A : Ab} (hA : okA A) (a : Int32) : lzX tt_X6_needs [a] A (fNeeds A a) A ∧ lzY tt_X7_needs [a] A (fNeeds A a) A := ⟨fun M h => ⟨A, hA, h, fun M' h' => ⟨rfl, h', hA⟩⟩, fun M h => ⟨A, hA, h, fun M' h' => ⟨rfl, h'⟩⟩⟩
theorem lz_form {A : Ab} (hA : okA A) (a : Int32) : lzX tt_X6_form [a] A (fForm A a) A ∧ lzY tt_X7_form [a] A (fForm A a) A := ⟨fun M h => ⟨A, hA, h, fun M' h' => ⟨rfl, h', hA⟩⟩, fun M h => ⟨A, hA, h, fun M' h' => ⟨rfl, h'⟩⟩⟩
theorem lz_put {A : Ab} (hA : okA A) (a : Int32) (b : Int32) (c : Int32) : lzX tt_X6_put [a, b, c] A (fPut A a b c).1 (fPut A a b c).2 ∧ lzY tt_X7_put [a, b, c] A (fPut A a b c).1 (fPut A a b c).2 := ⟨fun M h => ⟨A, hA, h, fun M' h' => ⟨rfl, h', hA.put a b c⟩⟩, fun M h => ⟨A, hA, h, fun M' h' => ⟨rfl, h'⟩⟩⟩
theorem lz_forge {A : Ab} (hA : okA A) (a : Int32) (b : Int32) (c : Int32) : lzX tt_X6_forge [a, b, c] A (fForge A a b c).1 (fForge A a b c).2 ∧ lzY tt_X7_forge [a, b, c] A (fForge A a b c).1 (fForge A a b c).2 := ⟨fun M h => ⟨A, hA, h, fun M' h' => ⟨rfl, h', hA.forge a b c⟩⟩, fun M h => ⟨A, hA, h, fun M' h' => ⟨rfl, h'⟩⟩⟩
theorem lz_status {A : Ab} (hA : okA A) : lzX tt_X6_status [] A (nI (aQ A)) A ∧ lzY tt_X7_status [] A (nI (aQ A)) A := ⟨fun M h => ⟨by rw [h.2.2.2.2.2.1], h, hA⟩, fun M h => ⟨by rw [h.2.2.2.2.2.2.2.2], h⟩⟩
theorem MY_0 : MY M0y A0 := by
  refine ⟨⟨by unfold okP; decide, rfl, rfl, rfl, rfl, rfl⟩, ⟨fun i hi => ⟨rfl, rfl, fun j hj => absurd hj (Nat.not_lt_zero j)⟩, fun j hj => ?_⟩, fun c hc => ?_, rfl, rfl, ⟨rfl, rfl, fun i h1 h2 => ?_⟩, ⟨rfl, fun i hi => absurd hi (Nat.not_lt_zero i)⟩, fun t ht => ⟨rfl, rfl, fun j hj => absurd hj (Nat.not_lt_zero j)⟩, rfl⟩
  · rfl
  · show (0 : Int32) = pb (lcd P00 (fun _ => false) c)
    unfold lcd; simp [pb]
  · exfalso
    have h1' : i ≤ 0 := h1
    have h2' : i ≠ 0 ∨ 0 < 0 := h2
    omega
theorem okA_0 : okA A0 := by
  have hw : WF P00 0 (fun _ => false) st00 := by
    refine ⟨fun i _ _ => rfl, fun j _ _ => rfl, fun t ht => Nat.zero_le _, fun i hi d hd => (by cases hd), fun j hj => Nat.zero_le _, fun n n1 n2 => ?_⟩
    have e : n = 1 := by have h : n ≤ 1 := n2; omega
    subst e; decide
  refine ⟨by unfold okP; decide, fun n h => (by cases h), ⟨Nat.le_refl _, Nat.zero_le _⟩, rfl, fun i _ => hw, fun h => absurd h (Nat.lt_irrefl 0), ⟨Nat.zero_le _, fun x hx => (by cases hx)⟩, fun t ht => ⟨Nat.zero_le _, Nat.zero_le _, Nat.zero_le _, fun x hx => (by cases hx)⟩, Nat.zero_le _, Nat.zero_le _⟩
