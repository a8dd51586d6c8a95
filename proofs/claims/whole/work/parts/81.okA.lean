/-! WHAT THE FUNCTIONS KEEP -/
theorem cc_up {S : St} {i : Nat} (hi : i < 4) (l : List Nat) (n : Nat) : cc n (up S.1 i l, S.2.1, S.2.2) + (S.1 i).count n = cc n S + l.count n := by
  unfold cc
  rcases (show i = 0 ∨ i = 1 ∨ i = 2 ∨ i = 3 by omega) with rfl | rfl | rfl | rfl <;> simp [up] <;> omega
theorem WF.totC {P : Pm} {ec : Nat} {Ld : Nat → Bool} {S : St} (h : WF P ec Ld S) : tot S ≤ cnt (pS P * pR P) (fun i => Ld (i + 1)) := by
  obtain ⟨-, -, -, hd, hc, hn⟩ := h
  have h1 : ∀ N, N ≤ pS P * pR P → sumN N (fun k => cc (0 + k + 1) S) ≤ cnt N (fun i => Ld (i + 1)) := by
    intro N
    induction N with
    | zero => intro _; exact Nat.le_refl _
    | succ N ih =>
      intro hN
      have := ih (by omega)
      rw [sumN_s, cnt_s]
      have := hn (0 + N + 1) (by omega) (by omega)
      rw [show 0 + N + 1 = N + 1 by omega] at *
      split at this
      · next z => rw [if_pos z]; omega
      · next z => rw [if_neg z]; omega
  have e : ∀ i, i < 4 → sumN (pS P * pR P) (fun k => (S.1 i).count (0 + k + 1)) = (S.1 i).length := fun i hi => by
    rw [sum_count]; exact countP_all (fun d hdd => by have := hd i hi d hdd; simp; omega)
  have e2 : ∀ j, j < 2 → sumN (pS P * pR P) (fun k => if S.2.1 j = 0 + k + 1 then 1 else 0) = if S.2.1 j = 0 then 0 else 1 := fun j hj => by
    rw [sum_ind]
    have := hc j hj
    by_cases z : S.2.1 j = 0
    · rw [if_neg (by omega), if_pos z]
    · rw [if_pos (by omega), if_neg z]
  have h2 : sumN (pS P * pR P) (fun k => cc (0 + k + 1) S) = tot S := by
    unfold cc
    rw [sumN_add, sumN_add, sumN_add, sumN_add, sumN_add, e 0 (by decide), e 1 (by decide), e 2 (by decide), e 3 (by decide), e2 0 (by decide), e2 1 (by decide)]
    rfl
  have := h1 _ (Nat.le_refl _)
  omega
/-- a card is wanting: there is room -/
theorem WF.room {P : Pm} {ec : Nat} {Ld : Nat → Bool} {S : St} (hP : okP P) (h : WF P ec Ld S) {d : Nat} (d1 : 1 ≤ d) (d2 : d ≤ pS P * pR P) (hl : Ld d = false) : tot S < 12 := by
  have h1 := h.totC
  have h2 := cnt_le (pS P * pR P) (fun i => Ld (i + 1))
  have h12 := hP.2.2.2.2.1
  by_cases z : cnt (pS P * pR P) (fun i => Ld (i + 1)) = pS P * pR P
  · have := (cnt_iff _ _).mp z (d - 1) (by omega)
    rw [show d - 1 + 1 = d by omega, hl] at this
    exact absurd this (by simp)
  · omega
theorem len_tot (S : St) {i : Nat} (hi : i < 4) : (S.1 i).length ≤ tot S := by
  unfold tot
  rcases (show i = 0 ∨ i = 1 ∨ i = 2 ∨ i = 3 by omega) with rfl | rfl | rfl | rfl <;> omega
/-- a card more in a column -/
theorem WF.put {P : Pm} {ec : Nat} {Ld : Nat → Bool} {S : St} (hP : okP P) (h : WF P ec Ld S) {i d : Nat} (hi : i < pC P) (d1 : 1 ≤ d) (d2 : d ≤ pS P * pR P) (hl : Ld d = false) {l : List Nat} (hc : ∀ n, l.count n = (S.1 i).count n + (if d = n then 1 else 0)) (hm : ∀ x ∈ l, x = d ∨ x ∈ S.1 i) : WF P ec (up Ld d true) (up S.1 i l, S.2.1, S.2.2) := by
  have h7 := hP.2.2.2.2.2.2.1
  obtain ⟨w1, w2, w3, w4, w5, w6⟩ := h
  refine ⟨fun j hj hjc => ?_, w2, w3, fun j hj x hx => ?_, w5, fun n n1 n2 => ?_⟩
  · simp only [up_n S.1 l (show j ≠ i by omega)]; exact w1 j hj hjc
  · by_cases z : j = i
    · subst z; simp only [up_s] at hx
      rcases hm x hx with q | q
      · rw [q]; exact ⟨d1, d2⟩
      · exact w4 j hj x q
    · simp only [up_n S.1 l z] at hx; exact w4 j hj x hx
  · have e := cc_up (S := S) (show i < 4 by omega) l n
    rw [hc n] at e
    have w := w6 n n1 n2
    have e2 : inHo P (up S.1 i l, S.2.1, S.2.2) n = inHo P S n := rfl
    rw [e2]
    by_cases z : d = n
    · subst z
      rw [if_pos rfl] at e
      rw [hl, if_neg (by simp)] at w
      rw [up_s, if_pos rfl]; omega
    · rw [if_neg z] at e
      rw [up_n _ _ (fun y => z y.symm), ← w]; omega
theorem WF.push {P : Pm} {ec : Nat} {Ld : Nat → Bool} {S : St} (hP : okP P) (h : WF P ec Ld S) {i d : Nat} (hi : i < pC P) (d1 : 1 ≤ d) (d2 : d ≤ pS P * pR P) (hl : Ld d = false) : WF P ec (up Ld d true) (aPush S i d) := by
  refine h.put hP hi d1 d2 hl (fun n => ?_) (fun x hx => ?_)
  · rw [List.count_append, List.count_singleton]; congr 1; by_cases z : d = n <;> simp [z]
  · rcases List.mem_append.mp hx with q | q
    · exact Or.inr q
    · exact Or.inl (List.mem_singleton.mp q)
theorem WF.ins {P : Pm} {ec : Nat} {Ld : Nat → Bool} {S : St} (hP : okP P) (h : WF P ec Ld S) {i d k : Nat} (hi : i < pC P) (d1 : 1 ≤ d) (d2 : d ≤ pS P * pR P) (hl : Ld d = false) : WF P ec (up Ld d true) (aIns S i d k) := by
  refine h.put hP hi d1 d2 hl (fun n => ?_) (fun x hx => ?_)
  · have e : (S.1 i).count n = ((S.1 i).take ((S.1 i).length - k)).count n + ((S.1 i).drop ((S.1 i).length - k)).count n := by
      rw [← List.count_append, List.take_append_drop]
    rw [List.count_append, List.count_append, List.count_singleton, e]
    by_cases z : d = n <;> simp [z] <;> omega
  · rcases List.mem_append.mp hx with q | q
    · rcases List.mem_append.mp q with q | q
      · exact Or.inr (List.mem_of_mem_take q)
      · exact Or.inl (List.mem_singleton.mp q)
    · exact Or.inr (List.mem_of_mem_drop q)
theorem WF.row {P : Pm} {ec : Nat} {Ld : Nat → Bool} {S : St} (hP : okP P) (h : WF P ec Ld S) {a b k : Nat} (ha : a < pC P) (hb : b < pC P) (hab : a ≠ b) : WF P ec Ld (aRow S a b k) := by
  have h7 := hP.2.2.2.2.2.2.1
  obtain ⟨w1, w2, w3, w4, w5, w6⟩ := h
  refine ⟨fun j hj hjc => ?_, w2, w3, fun j hj x hx => ?_, w5, fun n n1 n2 => ?_⟩
  · simp only [aRow]
    rw [up_n _ _ (by omega), up_n _ _ (by omega)]; exact w1 j hj hjc
  · simp only [aRow] at hx
    by_cases z : j = b
    · rw [z, up_s] at hx
      rcases List.mem_append.mp hx with q | q
      · exact w4 b (by omega) x q
      · exact w4 a (by omega) x (List.mem_of_mem_drop q)
    · rw [up_n _ _ z] at hx
      by_cases y : j = a
      · rw [y, up_s] at hx; exact w4 a (by omega) x (List.mem_of_mem_take hx)
      · rw [up_n _ _ y] at hx; exact w4 j hj x hx
  · rw [← w6 n n1 n2]
    have e1 := cc_up (S := S) (show a < 4 by omega) ((S.1 a).take ((S.1 a).length - k)) n
    have e2 := cc_up (S := (up S.1 a ((S.1 a).take ((S.1 a).length - k)), S.2.1, S.2.2)) (show b < 4 by omega) (S.1 b ++ (S.1 a).drop ((S.1 a).length - k)) n
    simp only [up_n S.1 _ (fun y => hab y.symm)] at e2
    have e : (S.1 a).count n = ((S.1 a).take ((S.1 a).length - k)).count n + ((S.1 a).drop ((S.1 a).length - k)).count n := by
      rw [← List.count_append, List.take_append_drop]
    rw [List.count_append] at e2
    have e3 : inHo P (aRow S a b k) n = inHo P S n := rfl
    rw [e3]
    unfold aRow
    omega
theorem WF.zero {P : Pm} {ec : Nat} {Ld : Nat → Bool} (hl : ∀ n, 1 ≤ n → n ≤ pS P * pR P → Ld n = false) : WF P ec Ld st00 := by
  refine ⟨fun _ _ _ => rfl, fun _ _ _ => rfl, fun t _ => Nat.zero_le _, fun i _ d hd => (by cases hd), fun j _ => Nat.zero_le _, fun n n1 n2 => ?_⟩
  have := ra_ge (r := pR P) (n := n)
  rw [hl n n1 n2]
  have e1 : cc n st00 = 0 := by
    unfold cc st00; simp only [List.count_nil]
    rw [if_neg (by omega)]
  have e2 : inHo P st00 n = 0 := by
    unfold inHo st00; rw [if_neg (by simp only; omega)]
  rw [e1, e2]; rfl
theorem tn_n {j : Nat} (h : j < 2 ^ 31) : tn (nI j) = j := ni_cl h
theorem wi_tn {x : Int32} {a b : Nat} (ha : a < 2 ^ 31) (hb : b < 2 ^ 31) (h : wi x (nI a) (nI b) = true) : x = nI (tn x) ∧ a ≤ tn x ∧ tn x ≤ b := by
  obtain ⟨j, rfl, j1, j2⟩ := wi_ex ha hb h
  rw [tn_n (by omega)]; exact ⟨rfl, j1, j2⟩
/-- within 0 .. n - 1 -/
theorem wi_lt {x : Int32} {n : Nat} (hn : n < 2 ^ 31) (h : wi x (nI 0) (nI n - nI 1) = true) : x = nI (tn x) ∧ tn x < n := by
  rcases Nat.eq_zero_or_pos n with z | z
  · subst z; rw [wi_neg] at h; exact absurd h (by simp)
  · rw [ni_sub z] at h
    obtain ⟨h1, h2, h3⟩ := wi_tn (by decide) (by omega) h
    exact ⟨h1, by omega⟩
theorem wi_ge {x : Int32} {n : Nat} (hn : n < 2 ^ 31) (h : wi x (nI 0) (nI n - nI 1) = false) {j : Nat} (hj : j < n) : x ≠ nI j := by
  rw [ni_sub (by omega)] at h
  exact wi_no (by decide) (by omega) h (by omega) (by omega)
theorem wi_in {j n : Nat} (hn : n < 2 ^ 31) (hj : j < n) : wi (nI j) (nI 0) (nI n - nI 1) = true := by
  rw [ni_sub (by omega), wi_n (by omega) (by decide) (by omega)]
  simp; omega
theorem colOK_e {P : Pm} (hP : okP P) {x : Int32} (h : colOK P x = true) : x = nI (tn x) ∧ tn x < pC P := wi_lt (by have := hP.2.2.2.2.2.2.1; omega) h
theorem okA.begin {A : Ab} (h : okA A) (s r c e l : Int32) : okA (fBegin A s r c e l).2 := by
  unfold fBegin
  split
  · next q =>
    simp only [Bool.and_eq_true, Bool.not_eq_true', decide_eq_false_iff_not] at q
    obtain ⟨⟨⟨⟨q1, q2⟩, q3⟩, q4, q5⟩, q6⟩ := q
    obtain ⟨s1, s2, s3⟩ := wi_tn (by decide) (by decide) q1
    obtain ⟨r1, r2, r3⟩ := wi_tn (by decide) (by decide) q2
    obtain ⟨c1, c2, c3⟩ := wi_tn (by decide) (by decide) q4
    obtain ⟨e1, e2, e3⟩ := wi_tn (by decide) (by decide) q5
    obtain ⟨l1, l2, l3⟩ := wi_tn (by decide) (by decide) q6
    have hm : tn s * tn r ≤ 4 * 6 := Nat.mul_le_mul s3 r3
    have h12 : tn s * tn r ≤ 12 := by
      rw [s1, r1, ni_mul, ni_lt (by decide) (by omega)] at q3; omega
    refine ⟨⟨s2, s3, r2, r3, h12, c2, c3, e3, l3⟩, fun n hn => absurd hn (by simp), ⟨Nat.le_refl _, (by show 0 ≤ 64; decide)⟩, rfl, fun i _ => WF.zero (fun _ _ _ => rfl), fun z => absurd z (Nat.lt_irrefl 0), ⟨(by show 0 ≤ 4000; decide), fun x hx => by cases hx⟩, h.2.2.2.2.2.2.2.1, Nat.zero_le _, h.2.2.2.2.2.2.2.2.2⟩
  · exact h
theorem okA.lay {A : Ab} (h : okA A) (x y z : Int32) : okA (fLay A x y z).2 := by
  unfold fLay
  split
  · next q =>
    simp only [Bool.and_eq_true] at q
    obtain ⟨q1, q2, q3⟩ := q
    have hP := h.1
    obtain ⟨x1, x2⟩ := colOK_e hP q1
    obtain ⟨h1, h2, h3, h4, h5, h6, h7, h8, h9⟩ := id hP
    obtain ⟨y1, y2⟩ := wi_lt (by omega) q2
    obtain ⟨z1, z2, z3⟩ := wi_tn (by decide) (by omega) q3
    have hd := card_le y2 z3
    split
    · exact h
    · next w =>
      have w' : aL A (tn y * pR (aP A) + tn z) = false := by simpa using w
      have hw := h.wf.push hP x2 (by omega) hd w'
      refine ⟨hP, fun n hn => ?_, ⟨Nat.le_refl _, (by show 0 ≤ 64; decide)⟩, rfl, fun i _ => hw, fun z => absurd z (Nat.lt_irrefl 0), h.2.2.2.2.2.2.1, h.2.2.2.2.2.2.2.1, h.2.2.2.2.2.2.2.2⟩
      have hn' : up (aL A) (tn y * pR (aP A) + tn z) true n = true := hn
      by_cases q : n = tn y * pR (aP A) + tn z
      · rw [q]; exact ⟨by omega, hd⟩
      · rw [up_n _ _ q] at hn'; exact h.2.1 n hn'
  · exact h
/-- which cards are laid when t suits of the rank k + 1 are -/
def Lmk (P : Pm) (k t n : Nat) : Bool := decide (1 ≤ n) && decide (n ≤ pS P * pR P) && (decide (ra (pR P) n ≤ k) || (decide (ra (pR P) n = k + 1) && decide (su (pR P) n < t)))
theorem Lmk_no {P : Pm} {k t : Nat} (hk : k < pR P) (ht : t < pS P) : Lmk P k t (t * pR P + (k + 1)) = false := by
  unfold Lmk
  rw [ra_of (by omega) (by omega), su_of (by omega) (by omega)]
  simp
theorem mkc_lt {P : Pm} (hP : okP P) (s : Int32) : mkc P s < pC P := Nat.mod_lt _ hP.2.2.2.2.2.1
theorem mk_s {P : Pm} {ec : Nat} (hP : okP P) {k t : Nat} (hk : k < pR P) (ht : t < pS P) {q : Int32 × St} (h : WF P ec (Lmk P k t) q.2) : WF P ec (Lmk P k (t + 1)) (mk1 P q (t * pR P + (k + 1))).2 := by
  have hd := card_le (r := pR P) (k := k + 1) ht (by omega)
  have hw := h.ins (k := min (mkb q.1) (q.2.1 (mkc P q.1)).length) hP (mkc_lt hP q.1) (show 1 ≤ t * pR P + (k + 1) by omega) hd (Lmk_no hk ht)
  refine WF.imp hw (fun n n1 n2 => ?_)
  by_cases z : n = t * pR P + (k + 1)
  · rw [z, up_s]; unfold Lmk
    rw [ra_of (by omega) (by omega), su_of (by omega) (by omega)]; simp; omega
  · rw [up_n _ _ z]
    have hne : ¬ (ra (pR P) n = k + 1 ∧ su (pR P) n = t) := fun y => z (by rw [← su_ra (r := pR P) n1, y.1, y.2])
    unfold Lmk
    congr 2
    by_cases y : ra (pR P) n = k + 1
    · simp [y]; omega
    · simp [y]
theorem mk_C {P : Pm} {ec : Nat} (hP : okP P) {k : Nat} (hk : k < pR P) {q : Int32 × St} (h : WF P ec (Lmk P k 0) q.2) : ∀ t, t ≤ pS P → WF P ec (Lmk P k t) (mkC P q (k + 1) t).2
  | 0, _ => h
  | t + 1, ht => mk_s hP hk (by omega) (mk_C hP hk h t (by omega))
theorem mk_R {P : Pm} {ec : Nat} (hP : okP P) (seed : Int32) : ∀ k, k ≤ pR P → WF P ec (Lmk P k 0) (mkR P seed k).2
  | 0, _ => WF.zero (fun n n1 n2 => by have := ra_ge (r := pR P) (n := n); unfold Lmk; simp; omega)
  | k + 1, hk => by
    have := mk_C hP (show k < pR P by omega) (mk_R (ec := ec) hP seed k (by omega)) (pS P) (Nat.le_refl _)
    refine WF.imp this (fun n n1 n2 => ?_)
    have := su_lt hP.2.2.1 n1 n2
    unfold Lmk
    congr 1
    by_cases y : ra (pR P) n = k + 1
    · simp [y, this]
    · simp [y]; omega
theorem mk_WF {P : Pm} {ec : Nat} (hP : okP P) (seed : Int32) : WF P ec (fun n => decide (1 ≤ n ∧ n ≤ pS P * pR P)) (mkR P seed (pR P)).2 := by
  refine WF.imp (mk_R hP seed (pR P) (Nat.le_refl _)) (fun n n1 n2 => ?_)
  have := ra_le (n := n) hP.2.2.1
  unfold Lmk
  simp [n1, n2, this]
theorem okA.make {A : Ab} (h : okA A) (x : Int32) : okA (fMake A x).2 := by
  refine ⟨h.1, fun n hn => of_decide_eq_true hn, ⟨Nat.le_refl _, by show 0 ≤ 64; omega⟩, rfl, fun i _ => mk_WF h.1 x, fun z => absurd z (Nat.lt_irrefl 0), ⟨by show 0 ≤ 4000; omega, fun x hx => by cases hx⟩, h.2.2.2.2.2.2.2.1, Nat.zero_le _, h.2.2.2.2.2.2.2.2.2⟩
theorem okA.kp {A : Ab} (h : okA A) (hl : alL A = true) {S : St} {w : Nat} (hS : WF (aP A) (pE (aP A)) (aL A) S) (hw : w ≤ 5) : okA (kpA A S w) := by
  obtain ⟨a, b, ⟨c1, c2⟩, d, e, f, g, i, j, k⟩ := id h
  refine ⟨a, b, ⟨Nat.le_refl _, by show min _ _ ≤ 64; omega⟩, ?_, fun t ht => ?_, fun _ => h.al.mp hl, g, i, hw, k⟩
  · show kpH (aH A) (aPr A) S (min (aPr A + 1) 64) = S
    unfold kpH; split
    · rw [show min (aPr A + 1) 64 = aPr A + 1 by omega, up_s]
    · rw [show min (aPr A + 1) 64 = 64 by omega, up_s]
  · have ht' : t ≤ min (aPr A + 1) 64 := ht
    show WF (aP A) (pE (aP A)) (aL A) (kpH (aH A) (aPr A) S t)
    unfold kpH; split
    · by_cases z : t = aPr A + 1
      · rw [z, up_s]; exact hS
      · rw [up_n _ _ z]; exact e t (by omega)
    · by_cases z : t = 64
      · rw [z, up_s]; exact hS
      · rw [up_n _ _ z]; exact e (t + 1) (by omega)
theorem nmF_tn {P : Pm} (hP : okP P) {ec : Nat} (he : ec ≤ 2) {x y : Int32} (h : nmF (nI (pC P)) (nI ec) x y = true) : x = nI (tn x) ∧ tn x < 6 ∧ y = nI (tn y) ∧ tn y < 6 ∧ nmN P ec (tn x) (tn y) = true := by
  obtain ⟨h1, h2, h3, h4, h5, h6, h7, h8, h9⟩ := id hP
  have hx : x = nI (tn x) ∧ tn x < 6 := by
    unfold nmF at h
    have two : wi x (nI 0) (nI (pC P) - nI 1) = true ∨ wi x (nI 4) (nI 4 + nI ec - nI 1) = true := by
      split at h
      · exact Or.inl h
      · simp only [Bool.and_eq_true, Bool.or_eq_true] at h; exact h.1
    rcases two with q | q
    · have := wi_lt (by omega) q; exact ⟨this.1, by omega⟩
    · rw [ni_add, ni_sub (by omega)] at q
      obtain ⟨q1, q2, q3⟩ := wi_tn (by decide) (by omega) q
      exact ⟨q1, by omega⟩
  have hy : y = nI (tn y) ∧ tn y < 6 := by
    unfold nmF at h
    split at h
    · next z => rw [z]; exact ⟨rfl, by decide⟩
    · simp only [Bool.and_eq_true, Bool.or_eq_true, decide_eq_true_eq] at h
      rcases h.2 with q | q
      · have := wi_lt (by omega) q.1; exact ⟨this.1, by omega⟩
      · rw [q]; exact ⟨rfl, by decide⟩
  refine ⟨hx.1, hx.2, hy.1, hy.2, ?_⟩
  rw [← nmF_n hP he (by omega) (by omega), ← hx.1, ← hy.1]; exact h
theorem okA.move {A : Ab} (h : okA A) (x y : Int32) : okA (fMove A x y).2 := by
  unfold fMove
  have hE := h.1.2.2.2.2.2.2.2.1
  split
  · next q =>
    obtain ⟨x1, x2, y1, y2, hn⟩ := nmF_tn h.1 hE q
    split
    · next hl =>
      split
      · next hw =>
        exact h.kp hl (WF.mv h.1 hE h.wf y2 (by unfold canN; rw [hn, hw]; rfl)) (by omega)
      · exact ⟨h.1, h.2.1, h.2.2.1, h.2.2.2.1, h.2.2.2.2.1, h.2.2.2.2.2.1, h.2.2.2.2.2.2.1, h.2.2.2.2.2.2.2.1, whyF_le _ _ _ _ _, h.2.2.2.2.2.2.2.2.2⟩
    · exact h
  · exact h
theorem okA.carry {A : Ab} (h : okA A) (x y z : Int32) : okA (fCarry A x y z).2 := by
  unfold fCarry
  split
  · next q =>
    simp only [Bool.and_eq_true, Bool.not_eq_true', decide_eq_false_iff_not] at q
    obtain ⟨⟨⟨q1, q2⟩, q3⟩, q4⟩ := q
    obtain ⟨x1, x2⟩ := colOK_e h.1 q1
    obtain ⟨y1, y2⟩ := colOK_e h.1 q2
    split
    · next hl =>
      split
      · exact h.kp hl (h.wf.row h.1 x2 y2 (fun e => q3 (by rw [x1, y1, e]))) h.2.2.2.2.2.2.2.2.1
      · exact h
    · exact h
  · exact h
theorem goes_can {P : Pm} {ec : Nat} {S : St} {a : Nat} (h : goesN P ec S a = true) : canN P ec S a 5 = true := by
  unfold goesN at h; rw [Bool.and_eq_true] at h; exact h.1
theorem fstG_e {P : Pm} {ec : Nat} {S : St} : (fstG P ec S = 6 ∧ ∀ a, a < 6 → goesN P ec S a = false) ∨ (fstG P ec S < 6 ∧ goesN P ec S (fstG P ec S) = true ∧ ∀ b, b < fstG P ec S → goesN P ec S b = false) := by
  unfold fstG
  by_cases g0 : goesN P ec S 0 = true
  · rw [if_pos g0]; exact Or.inr ⟨by decide, g0, fun b hb => by omega⟩
  rw [if_neg g0]
  have g0' : goesN P ec S 0 = false := by simpa using g0
  by_cases g1 : goesN P ec S 1 = true
  · rw [if_pos g1]; exact Or.inr ⟨by decide, g1, fun b hb => by rcases (show b = 0 by omega) with rfl; exact g0'⟩
  rw [if_neg g1]
  have g1' : goesN P ec S 1 = false := by simpa using g1
  by_cases g2 : goesN P ec S 2 = true
  · rw [if_pos g2]; exact Or.inr ⟨by decide, g2, fun b hb => by rcases (show b = 0 ∨ b = 1 by omega) with rfl | rfl <;> assumption⟩
  rw [if_neg g2]
  have g2' : goesN P ec S 2 = false := by simpa using g2
  by_cases g3 : goesN P ec S 3 = true
  · rw [if_pos g3]; exact Or.inr ⟨by decide, g3, fun b hb => by rcases (show b = 0 ∨ b = 1 ∨ b = 2 by omega) with rfl | rfl | rfl <;> assumption⟩
  rw [if_neg g3]
  have g3' : goesN P ec S 3 = false := by simpa using g3
  by_cases g4 : goesN P ec S 4 = true
  · rw [if_pos g4]; exact Or.inr ⟨by decide, g4, fun b hb => by rcases (show b = 0 ∨ b = 1 ∨ b = 2 ∨ b = 3 by omega) with rfl | rfl | rfl | rfl <;> assumption⟩
  rw [if_neg g4]
  have g4' : goesN P ec S 4 = false := by simpa using g4
  by_cases g5 : goesN P ec S 5 = true
  · rw [if_pos g5]; exact Or.inr ⟨by decide, g5, fun b hb => by rcases (show b = 0 ∨ b = 1 ∨ b = 2 ∨ b = 3 ∨ b = 4 by omega) with rfl | rfl | rfl | rfl | rfl <;> assumption⟩
  rw [if_neg g5]
  have g5' : goesN P ec S 5 = false := by simpa using g5
  exact Or.inl ⟨rfl, fun a ha => by rcases (show a = 0 ∨ a = 1 ∨ a = 2 ∨ a = 3 ∨ a = 4 ∨ a = 5 by omega) with rfl | rfl | rfl | rfl | rfl | rfl <;> assumption⟩
theorem auN_wf {P : Pm} {ec : Nat} {L : Nat → Bool} (hP : okP P) (he : ec ≤ 2) : ∀ (f : Nat) {S : St}, WF P ec L S → WF P ec L (auN P ec f S).2
  | 0, S, h => h
  | f + 1, S, h => by
    show WF P ec L (if fstG P ec S = 6 then (0, S) else _).2
    rcases fstG_e (P := P) (ec := ec) (S := S) with ⟨q, -⟩ | ⟨q1, q2, -⟩
    · rw [if_pos q]; exact h
    · rw [if_neg (by omega)]; exact auN_wf hP he f (WF.mv hP he h (by decide) (goes_can q2))
theorem auN_le (P : Pm) (ec : Nat) : ∀ (f : Nat) (S : St), (auN P ec f S).1 ≤ f
  | 0, S => Nat.le_refl _
  | f + 1, S => by
    show (if fstG P ec S = 6 then (0, S) else _).1 ≤ f + 1
    by_cases z : fstG P ec S = 6
    · rw [if_pos z]; exact Nat.zero_le _
    · rw [if_neg z]; have := auN_le P ec f (aMv P ec S (fstG P ec S) 5); simp only; omega
theorem okA.auto {A : Ab} (h : okA A) : okA (fAuto A).2 := by
  unfold fAuto
  split
  · next hl =>
    split
    · exact h
    · exact h.kp hl (auN_wf h.1 h.1.2.2.2.2.2.2.2.1 12 h.wf) h.2.2.2.2.2.2.2.2.1
  · exact h
theorem okA.undo {A : Ab} (h : okA A) : okA (fUndo A).2 := by
  obtain ⟨a, b, ⟨c1, c2⟩, d⟩ := id h
  unfold fUndo
  split
  · exact h
  · exact ⟨a, b, ⟨by show aPr A - 1 ≤ aLa A; omega, c2⟩, rfl, d.2⟩
theorem okA.redo {A : Ab} (h : okA A) : okA (fRedo A).2 := by
  obtain ⟨a, b, ⟨c1, c2⟩, d⟩ := id h
  unfold fRedo
  split
  · next q => exact ⟨a, b, ⟨by show aPr A + 1 ≤ aLa A; omega, c2⟩, rfl, d.2⟩
  · exact h
theorem okA.setQ {A : Ab} (h : okA A) {q : Nat} (hq : q ≤ 15) : okA (setQ A q) := ⟨h.1, h.2.1, h.2.2.1, h.2.2.2.1, h.2.2.2.2.1, h.2.2.2.2.2.1, h.2.2.2.2.2.2.1, h.2.2.2.2.2.2.2.1, h.2.2.2.2.2.2.2.2.1, hq⟩
theorem fgN_le (T : Nat × Nat × List Nat) (w : Nat) (n : Int32) : (fgN T w n).2 ≤ 15 := by
  unfold fgN
  repeat' split
  all_goals first | decide | exact Nat.zero_le _
theorem okA.forge {A : Ab} (h : okA A) (x y z : Int32) : okA (fForge A x y z).2 := by
  unfold fForge
  split
  · exact h.setQ (fgN_le _ _ _)
  · exact h.setQ (by decide)
theorem WF.c12 {P : Pm} {ec : Nat} {Ld : Nat → Bool} {S : St} (hP : okP P) (h : WF P ec Ld S) : (S.1 0).length + (S.1 1).length + (S.1 2).length + (S.1 3).length ≤ 12 := by
  have := h.t12 hP; unfold tot at this; omega
theorem frL_ok {P : Pm} {ec : Nat} {Ld : Nat → Bool} {S : St} (hP : okP P) (h : WF P ec Ld S) : (frL P ec S).length ≤ 18 ∧ ∀ x ∈ frL P ec S, x < 32 := by
  have h4 := frC_len P S 4
  have hd := dlen_4 S
  have hc := h.c12 hP
  have hI := h.inDk
  unfold frL
  constructor
  · rw [List.length_append]
    have : (frE P ec S).length ≤ 2 := by
      unfold frE; by_cases q1 : ec = 2 <;> by_cases q2 : 0 < ec <;> simp [q1, q2]
    omega
  · intro x hx
    rcases List.mem_append.mp hx with q | q
    · unfold frC at q
      rw [List.mem_flatMap] at q
      obtain ⟨i, i1, i2⟩ := q
      have hi : i < 4 := by
        unfold tbO at i1
        rw [List.mem_filter, List.mem_map] at i1
        obtain ⟨⟨j, -, e⟩, -⟩ := i1
        rw [← e]; exact sg_lt S j
      rcases List.mem_cons.mp i2 with y | y
      · rw [y]; have := len_tot S hi; have := h.t12 hP; omega
      · obtain ⟨d, d1, d2⟩ := List.mem_map.mp y
        rw [← d2]; exact cdN_le hP (hI.1 i hi d d1)
    · have c0 := hI.2 0 (by decide)
      have c1 := hI.2 1 (by decide)
      unfold frE at q
      rcases List.mem_append.mp q with y | y
      · split at y
        · rw [List.mem_singleton.mp y]; exact cdN_le hP (by omega)
        · cases y
      · split at y
        · rw [List.mem_singleton.mp y]; exact cdN_le hP (by omega)
        · cases y
theorem okA.put {A : Ab} (h : okA A) (x y z : Int32) : okA (fPut A x y z).2 := by
  unfold fPut
  split
  · next q =>
    simp only [Bool.and_eq_true, Bool.or_eq_true, Bool.not_eq_true', decide_eq_false_iff_not] at q
    obtain ⟨⟨q1, q2⟩, q3⟩ := q
    have hP := h.1
    have hw := h.wf
    have hfr := frL_ok hP hw
    refine ⟨h.1, h.2.1, h.2.2.1, h.2.2.2.1, h.2.2.2.2.1, h.2.2.2.2.2.1, h.2.2.2.2.2.2.1, fun t ht => ?_, h.2.2.2.2.2.2.2.2.1, Nat.zero_le _⟩
    show okT (up (aT A) (tn x) (thg A (tn y) (tn z)) t)
    by_cases e : t = tn x
    · rw [e, up_s]
      unfold thg
      split
      · exact ⟨(by show 1 ≤ 4; decide), h.1.2.2.2.2.2.2.2.2, by simp, fun x hx => by cases hx⟩
      · split
        · next y2 =>
          obtain ⟨y1, -, -⟩ := wi_tn (by decide) (by decide) q2
          have hz := q3.resolve_left (fun n => n (by rw [y1, y2]))
          obtain ⟨z1, z2⟩ := colOK_e hP hz
          have h7 := hP.2.2.2.2.2.2.1
          refine ⟨by show 2 ≤ 4; decide, by show 0 ≤ 4; decide, ?_, fun v hv => ?_⟩
          · show (((aS A).1 (tn z)).map (cdN (pR (aP A)))).length ≤ 32
            rw [List.length_map]
            have := len_tot (aS A) (show tn z < 4 by omega); have := hw.t12 hP; omega
          · obtain ⟨d, d1, d2⟩ := List.mem_map.mp hv
            rw [← d2]; exact cdN_le hP (hw.inDk.1 (tn z) (by omega) d d1)
        · split
          · exact ⟨by show 3 ≤ 4; decide, by show 0 ≤ 4; decide, by show (frL _ _ _).length ≤ 32; omega, hfr.2⟩
          · split
            · refine ⟨by show 4 ≤ 4; decide, by show 0 ≤ 4; decide, by show (truL _ _).length ≤ 32; simp [truL], fun v hv => ?_⟩
              have hv' : v ∈ truL (aP A) (aS A) := hv
              unfold truL at hv'
              obtain ⟨c, -, c2⟩ := List.mem_map.mp hv'
              rw [← c2]; split <;> decide
            · exact ⟨by decide, by decide, by simp, fun x hx => by cases hx⟩
    · rw [up_n _ _ e]; exact h.2.2.2.2.2.2.2.1 t ht
  · exact h.setQ (by decide)
