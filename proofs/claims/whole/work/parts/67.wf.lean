/-! STANDS OF A DECK: how often each card lies somewhere -/
theorem sumN_add (n : Nat) (f g : Nat → Nat) : sumN n (fun i => f i + g i) = sumN n f + sumN n g := by
  induction n with
  | zero => rfl
  | succ n ih => rw [sumN_s, sumN_s, sumN_s, ih]; omega
theorem sum_ind (b d : Nat) : ∀ N, sumN N (fun k => if d = b + k + 1 then 1 else 0) = if b + 1 ≤ d ∧ d ≤ b + N then 1 else 0
  | 0 => by rw [if_neg (by omega)]; rfl
  | N + 1 => by
    rw [sumN_s, sum_ind b d N]
    by_cases h : d = b + N + 1
    · rw [if_neg (by omega), if_pos h, if_pos (by omega)]
    · rw [if_neg h]
      by_cases h2 : b + 1 ≤ d ∧ d ≤ b + N
      · rw [if_pos h2, if_pos (by omega)]
      · rw [if_neg h2, if_neg (by omega)]
theorem sum_count (b N : Nat) : ∀ l : List Nat, sumN N (fun k => l.count (b + k + 1)) = l.countP (fun d => decide (b + 1 ≤ d ∧ d ≤ b + N))
  | [] => by
    have : sumN N (fun _ => 0) = 0 := by have := sumN_le (f := fun _ => 0) (m := 0) N (fun _ _ => Nat.le_refl _); omega
    simpa using this
  | d :: l => by
    rw [show (fun k => (d :: l).count (b + k + 1)) = (fun k => l.count (b + k + 1) + (if d = b + k + 1 then 1 else 0)) from by
      funext k; rw [List.count_cons]; congr 1; by_cases h : d = b + k + 1 <;> simp [h]]
    rw [sumN_add, sum_count b N l, sum_ind, List.countP_cons]
    congr 1
    by_cases h : b + 1 ≤ d ∧ d ≤ b + N <;> simp [h]
theorem su_iff {r t d : Nat} (hr : 1 ≤ r) : (t * r + 1 ≤ d ∧ d ≤ t * r + r) ↔ (d ≠ 0 ∧ su r d = t) := by
  constructor
  · intro h
    refine ⟨by omega, ?_⟩
    have := su_of (r := r) (s := t) (k := d - t * r) (by omega) (by omega)
    rwa [show t * r + (d - t * r) = d by omega] at this
  · rintro ⟨h1, h2⟩
    have e := su_ra (r := r) (n := d) (by omega)
    have e1 := ra_le (n := d) hr
    have e2 := ra_ge (r := r) (n := d)
    rw [h2] at e
    omega
theorem sum_cP {r : Nat} (hr : 1 ≤ r) (t : Nat) (l : List Nat) : sumN r (fun k => l.count (t * r + k + 1)) = cP r t l := by
  rw [sum_count]; unfold cP
  apply List.countP_congr
  intro d _
  have := su_iff (r := r) (t := t) (d := d) hr
  simp only [decide_eq_true_eq, Bool.and_eq_true]
  exact this
/-- how often the card n lies in columns and cells -/
def cc (n : Nat) (S : St) : Nat := (S.1 0).count n + (S.1 1).count n + (S.1 2).count n + (S.1 3).count n + (if S.2.1 0 = n then 1 else 0) + (if S.2.1 1 = n then 1 else 0)
def inHo (P : Pm) (S : St) (n : Nat) : Nat := if ra (pR P) n ≤ S.2.2 (su (pR P) n) then 1 else 0
/-- a stand of the deck with ec cells: the cards Ld lie there, each once -/
def WF (P : Pm) (ec : Nat) (Ld : Nat → Bool) (S : St) : Prop :=
  (∀ i, i < 4 → pC P ≤ i → S.1 i = []) ∧ (∀ j, j < 2 → ec ≤ j → S.2.1 j = 0) ∧ (∀ t, t < 4 → S.2.2 t ≤ if t < pS P then pR P else 0) ∧
  (∀ i, i < 4 → ∀ d ∈ S.1 i, 1 ≤ d ∧ d ≤ pS P * pR P) ∧ (∀ j, j < 2 → S.2.1 j ≤ pS P * pR P) ∧
  ∀ n, 1 ≤ n → n ≤ pS P * pR P → cc n S + inHo P S n = if Ld n = true then 1 else 0
theorem countP_all {l : List Nat} {p : Nat → Bool} (h : ∀ d ∈ l, p d = true) : l.countP p = l.length := List.countP_eq_length.mpr h
theorem WF.totL {P : Pm} {ec : Nat} {Ld : Nat → Bool} {S : St} (h : WF P ec Ld S) : tot S ≤ pS P * pR P := by
  obtain ⟨-, -, -, hd, hc, hn⟩ := h
  have h1 : sumN (pS P * pR P) (fun k => cc (0 + k + 1) S) ≤ pS P * pR P * 1 := sumN_le _ (fun i hi => by
    have := hn (0 + i + 1) (by omega) (by omega)
    split at this <;> omega)
  have e : ∀ i, i < 4 → sumN (pS P * pR P) (fun k => (S.1 i).count (0 + k + 1)) = (S.1 i).length := fun i hi => by
    rw [sum_count]; exact countP_all (fun d hdd => by have := hd i hi d hdd; simp; omega)
  have e2 : ∀ j, j < 2 → sumN (pS P * pR P) (fun k => if S.2.1 j = 0 + k + 1 then 1 else 0) = if S.2.1 j = 0 then 0 else 1 := fun j hj => by
    rw [sum_ind]
    have := hc j hj
    by_cases z : S.2.1 j = 0
    · rw [if_neg (by omega), if_pos z]
    · rw [if_pos (by omega), if_neg z]
  have h2 : sumN (pS P * pR P) (fun k => cc (0 + k + 1) S) = tot S := by
    unfold cc
    rw [sumN_add, sumN_add, sumN_add, sumN_add, sumN_add, e 0 (by decide), e 1 (by decide), e 2 (by decide), e 3 (by decide), e2 0 (by decide), e2 1 (by decide)]
    rfl
  omega
theorem WF.ok {P : Pm} {ec : Nat} {Ld : Nat → Bool} {S : St} (hP : okP P) (h : WF P ec Ld S) : okS S := by
  have ht := h.totL
  obtain ⟨h1, h2, h3, h4, h5, h6, h7, h8, h9⟩ := hP
  obtain ⟨-, -, hh, hd, hc, -⟩ := h
  unfold tot at ht
  refine ⟨fun i hi => ⟨?_, fun d hdd => ?_⟩, fun j hj => ?_, fun i hi => ?_⟩
  · rcases (show i = 0 ∨ i = 1 ∨ i = 2 ∨ i = 3 by omega) with rfl | rfl | rfl | rfl <;> omega
  · have := hd i hi d hdd; omega
  · have := hc j hj; omega
  · have := hh i hi; split at this <;> omega
theorem WF.t12 {P : Pm} {ec : Nat} {Ld : Nat → Bool} {S : St} (hP : okP P) (h : WF P ec Ld S) : tot S ≤ 12 := Nat.le_trans h.totL hP.2.2.2.2.1
theorem WF.inDk {P : Pm} {ec : Nat} {Ld : Nat → Bool} {S : St} (h : WF P ec Ld S) : inD P S := ⟨fun i hi d hd => (h.2.2.2.1 i hi d hd).2, h.2.2.2.2.1⟩
theorem cP_rev (r t : Nat) (l : List Nat) : cP r t l.reverse = cP r t l := by unfold cP; exact List.countP_reverse
theorem cP_0 (r t : Nat) (l : List Nat) : cP r t (0 :: l) = cP r t l := by unfold cP; simp
theorem cP_dg (r t : Nat) (c : List Nat) (cs : List (List Nat)) : cP r t (dgC (c :: cs)) = cP r t c + cP r t (dgC cs) := by
  show cP r t (c.reverse ++ 0 :: dgC cs) = _
  rw [cP_app, cP_rev, cP_0]
theorem cP_DS (r t : Nat) (S : St) : cP r t (DS S) = cP r t (S.1 0) + cP r t (S.1 1) + cP r t (S.1 2) + cP r t (S.1 3) + cP r t [S.2.1 0] + cP r t [S.2.1 1] := by
  unfold DS
  rw [cP_app, cPmm, show colsO S 4 = [S.1 (sg S 0), S.1 (sg S 1), S.1 (sg S 2), S.1 (sg S 3)] from rfl, cP_dg, cP_dg, cP_dg, cP_dg]
  have := sg_sum S (fun i => cP r t (S.1 i))
  have e : cP r t (dgC []) = 0 := rfl
  rw [e]
  omega
theorem sum_le_ind (h : Nat) : ∀ R, h ≤ R → sumN R (fun k => if k + 1 ≤ h then 1 else 0) = h
  | 0, hh => by rw [show h = 0 by omega]; rfl
  | R + 1, hh => by
    rw [sumN_s]
    by_cases z : h = R + 1
    · subst z
      have : sumN R (fun k => if k + 1 ≤ R + 1 then 1 else 0) = sumN R (fun k => if k + 1 ≤ R then 1 else 0) := sumN_congr (fun k hk => by rw [if_pos (by omega), if_pos (by omega)])
      rw [this, sum_le_ind R R (Nat.le_refl _), if_pos (by omega)]
    · rw [sum_le_ind h R (by omega), if_neg (by omega)]; rfl
theorem sumN_1 : ∀ n, sumN n (fun _ => 1) = n
  | 0 => rfl
  | n + 1 => by rw [sumN_s, sumN_1 n]
theorem cP_none {r s t : Nat} (hr : 1 ≤ r) (ht : s ≤ t) {l : List Nat} (h : ∀ d ∈ l, d ≤ s * r) : cP r t l = 0 := by
  unfold cP
  rw [List.countP_eq_zero]
  intro d hd hx
  simp only [Bool.and_eq_true, decide_eq_true_eq] at hx
  have := su_lt hr (show 1 ≤ d by omega) (h d hd)
  omega
theorem WF.allK {P : Pm} {ec : Nat} {Ld : Nat → Bool} {S : St} (hP : okP P) (h : WF P ec Ld S) (hl : ∀ n, 1 ≤ n → n ≤ pS P * pR P → Ld n = true) : allS P S := by
  obtain ⟨h1, h2, h3, h4, h5, h6, h7, h8, h9⟩ := hP
  obtain ⟨-, -, hh, hd, hc, hn⟩ := h
  intro t ht
  have hht := hh t ht
  by_cases hts : t < pS P
  · rw [if_pos hts] at hht ⊢
    have e1 : sumN (pR P) (fun k => cc (t * pR P + k + 1) S + inHo P S (t * pR P + k + 1)) = pR P := by
      refine Eq.trans (sumN_congr (q := fun _ => 1) (fun k hk => ?_)) (sumN_1 (pR P))
      have := card_le (s := pS P) (r := pR P) (a := t) (k := k + 1) hts (by omega)
      rw [hn _ (by omega) (by omega), hl _ (by omega) (by omega), if_pos rfl]
    have e2 : sumN (pR P) (fun k => inHo P S (t * pR P + k + 1)) = S.2.2 t := by
      refine Eq.trans (sumN_congr (q := fun k => if k + 1 ≤ S.2.2 t then 1 else 0) (fun k hk => ?_)) (sum_le_ind (S.2.2 t) (pR P) hht)
      unfold inHo
      rw [Nat.add_assoc, ra_of (by omega) (by omega), su_of (by omega) (by omega)]
    rw [sumN_add, e2] at e1
    have e3 : sumN (pR P) (fun k => cc (t * pR P + k + 1) S) = cP (pR P) t (DS S) := by
      unfold cc
      rw [sumN_add, sumN_add, sumN_add, sumN_add, sumN_add, sum_cP h3, sum_cP h3, sum_cP h3, sum_cP h3, sum_ind, sum_ind, cP_DS, cP_1, cP_1]
      congr 1
      · congr 1
        by_cases z : S.2.1 0 ≠ 0 ∧ su (pR P) (S.2.1 0) = t
        · rw [if_pos z, if_pos ((su_iff h3).mpr z)]
        · rw [if_neg z, if_neg (fun y => z ((su_iff h3).mp y))]
      · by_cases z : S.2.1 1 ≠ 0 ∧ su (pR P) (S.2.1 1) = t
        · rw [if_pos z, if_pos ((su_iff h3).mpr z)]
        · rw [if_neg z, if_neg (fun y => z ((su_iff h3).mp y))]
    rw [e3] at e1
    omega
  · rw [if_neg hts] at hht ⊢
    have z : ∀ l : List Nat, (∀ d ∈ l, d ≤ pS P * pR P) → cP (pR P) t l = 0 := fun l hl => cP_none h3 (by omega) hl
    rw [cP_DS, z _ (fun d q => (hd 0 (by decide) d q).2), z _ (fun d q => (hd 1 (by decide) d q).2), z _ (fun d q => (hd 2 (by decide) d q).2), z _ (fun d q => (hd 3 (by decide) d q).2), z _ (fun d q => by simp at q; rw [q]; exact hc 0 (by decide)), z _ (fun d q => by simp at q; rw [q]; exact hc 1 (by decide))]
    omega
theorem WF.wfK {P : Pm} {ec : Nat} {Ld : Nat → Bool} {S : St} (hP : okP P) (h : WF P ec Ld S) (hl : ∀ n, 1 ≤ n → n ≤ pS P * pR P → Ld n = true) : wfS P S := ⟨h.ok hP, h.inDk, h.t12 hP, h.allK hP hl⟩
