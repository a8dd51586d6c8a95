/-! MOVES KEEP A STAND OF THE DECK -/
def ind (p : Prop) [Decidable p] : Nat := if p then 1 else 0
theorem count_dl {l : List Nat} (n : Nat) (h : l ≠ []) : l.dropLast.count n + (if lastC l = n then 1 else 0) = l.count n := by
  conv => rhs; rw [← lastC_dl h]
  rw [List.count_append, List.count_singleton]
  congr 1
  by_cases z : lastC l = n <;> simp [z]
theorem lastC_ne {l : List Nat} (h : lastC l ≠ 0) : l ≠ [] := fun e => h (by rw [e]; rfl)
theorem lastC_mem {l : List Nat} (h : l ≠ []) : lastC l ∈ l := by
  have e := lastC_dl h
  have : lastC l ∈ l.dropLast ++ [lastC l] := by simp
  rwa [e] at this
theorem cc_take {S : St} {a : Nat} (ha : a < 6) (h0 : cardF S a ≠ 0) {n : Nat} (hn : 1 ≤ n) : cc n (aTake S a) + (if cardF S a = n then 1 else 0) = cc n S := by
  by_cases h4 : a < 4
  · have e : cardF S a = lastC (S.1 a) := by simp [cardF, h4]
    rw [e] at h0 ⊢
    have hd := count_dl n (lastC_ne h0)
    have et : aTake S a = aPop S a := by simp [aTake, h4]
    rw [et]
    unfold cc aPop
    rcases (show a = 0 ∨ a = 1 ∨ a = 2 ∨ a = 3 by omega) with rfl | rfl | rfl | rfl <;> simp [up] <;> omega
  · have e : cardF S a = S.2.1 (a - 4) := by simp [cardF, h4]
    have et : aTake S a = (S.1, up S.2.1 (a - 4) 0, S.2.2) := by simp [aTake, h4]
    rw [e] at h0 ⊢
    rw [et]
    unfold cc
    rcases (show a = 4 ∨ a = 5 by omega) with rfl | rfl
    · simp [up, show ¬ 0 = n by omega]; omega
    · simp [up, show ¬ 0 = n by omega]
theorem cc_push {S : St} {b d : Nat} (hb : b < 4) (n : Nat) : cc n (aPush S b d) = cc n S + (if d = n then 1 else 0) := by
  have e : ∀ l : List Nat, (l ++ [d]).count n = l.count n + (if d = n then 1 else 0) := fun l => by
    rw [List.count_append, List.count_singleton]; congr 1; by_cases z : d = n <;> simp [z]
  unfold cc aPush
  rcases (show b = 0 ∨ b = 1 ∨ b = 2 ∨ b = 3 by omega) with rfl | rfl | rfl | rfl <;> simp only [up_s, up_n S.1 _ (show (0 : Nat) ≠ 1 by decide), up_n S.1 _ (show (0 : Nat) ≠ 2 by decide), up_n S.1 _ (show (0 : Nat) ≠ 3 by decide), up_n S.1 _ (show (1 : Nat) ≠ 0 by decide), up_n S.1 _ (show (1 : Nat) ≠ 2 by decide), up_n S.1 _ (show (1 : Nat) ≠ 3 by decide), up_n S.1 _ (show (2 : Nat) ≠ 0 by decide), up_n S.1 _ (show (2 : Nat) ≠ 1 by decide), up_n S.1 _ (show (2 : Nat) ≠ 3 by decide), up_n S.1 _ (show (3 : Nat) ≠ 0 by decide), up_n S.1 _ (show (3 : Nat) ≠ 1 by decide), up_n S.1 _ (show (3 : Nat) ≠ 2 by decide), e] <;> omega
theorem cc_cell {S : St} {j d : Nat} (hj : j < 2) (h0 : S.2.1 j = 0) {n : Nat} (hn : 1 ≤ n) : cc n (S.1, up S.2.1 j d, S.2.2) = cc n S + (if d = n then 1 else 0) := by
  unfold cc
  rcases (show j = 0 ∨ j = 1 by omega) with rfl | rfl
  · simp [up, h0, show ¬ 0 = n by omega]; omega
  · simp [up, h0, show ¬ 0 = n by omega]
/-- what a move that can be is like -/
theorem can_nm {P : Pm} {ec : Nat} {S : St} {a b : Nat} (h : canN P ec S a b = true) : (a < pC P ∨ (4 ≤ a ∧ a < 4 + ec)) ∧ cardF S a ≠ 0 ∧ (b = 4 → a < pC P ∧ ffc ec S ≠ 2) ∧ (b = 5 → S.2.2 (su (pR P) (cardF S a)) + 1 = ra (pR P) (cardF S a)) ∧ (b ≠ 4 → b ≠ 5 → b < pC P ∧ b ≠ a ∧ letF P (cardF S a) (lastC (S.1 b)) = true) := by
  unfold canN at h
  rw [Bool.and_eq_true, decide_eq_true_eq] at h
  obtain ⟨hn, hw⟩ := h
  have hc : cardF S a ≠ 0 := fun z => by unfold whyF at hw; rw [if_pos z] at hw; exact absurd hw (by decide)
  unfold nmN at hn
  unfold whyF at hw
  rw [if_neg hc] at hw
  by_cases h4 : b = 4
  · rw [if_pos h4] at hn hw
    simp only [decide_eq_true_eq] at hn
    refine ⟨Or.inl hn, hc, fun _ => ⟨hn, fun z => ?_⟩, fun z => by omega, fun z => absurd h4 z⟩
    rw [if_pos z] at hw; exact absurd hw (by decide)
  · rw [if_neg h4] at hn hw
    simp only [Bool.and_eq_true, Bool.or_eq_true, decide_eq_true_eq, Bool.not_eq_true', decide_eq_false_iff_not] at hn
    refine ⟨hn.1, hc, fun z => absurd z h4, fun h5 => ?_, fun _ h5 => ?_⟩
    · rw [if_pos h5] at hw
      by_cases z : S.2.2 (su (pR P) (cardF S a)) + 1 = ra (pR P) (cardF S a)
      · exact z
      · rw [if_neg z] at hw; exact absurd hw (by decide)
    · rw [if_neg h5] at hw
      have hb := hn.2.resolve_right h5
      refine ⟨hb.1, hb.2, ?_⟩
      by_cases z : letF P (cardF S a) (lastC (S.1 b)) = true
      · exact z
      · rw [if_neg z] at hw; split at hw <;> exact absurd hw (by decide)
theorem ffc_take {ec : Nat} {S : St} {a : Nat} (ha : a < 4) : ffc ec (aTake S a) = ffc ec S := by
  simp [aTake, ha, aPop, ffc]
theorem ffc_ec {ec : Nat} {S : St} (h : ffc ec S ≠ 2) : ffc ec S < ec := by
  unfold ffc at *
  split at h
  · next q => rw [if_pos q]; exact q.1
  · next q =>
    rw [if_neg q]
    split at h
    · next q2 => rw [if_pos q2]; exact q2.1
    · exact absurd rfl h
theorem WF.a6 {P : Pm} {ec : Nat} {a : Nat} (hP : okP P) (he : ec ≤ 2) (h : a < pC P ∨ (4 ≤ a ∧ a < 4 + ec)) : a < 6 := by
  have := hP.2.2.2.2.2.2.1; omega
/-- the stand behind a move -/
theorem aMv_h {P : Pm} {ec : Nat} {S : St} {a : Nat} : aMv P ec S a 5 = ((aTake S a).1, (aTake S a).2.1, up S.2.2 (su (pR P) (cardF S a)) (S.2.2 (su (pR P) (cardF S a)) + 1)) := by
  unfold aMv aPut; rw [if_pos rfl, aTake_h]
theorem WF.takeC {P : Pm} {ec : Nat} {Ld : Nat → Bool} {S : St} (h : WF P ec Ld S) (a : Nat) : (∀ i, i < 4 → pC P ≤ i → (aTake S a).1 i = []) ∧ (∀ j, j < 2 → ec ≤ j → (aTake S a).2.1 j = 0) ∧ (∀ i, i < 4 → ∀ d ∈ (aTake S a).1 i, 1 ≤ d ∧ d ≤ pS P * pR P) ∧ (∀ j, j < 2 → (aTake S a).2.1 j ≤ pS P * pR P) := by
  obtain ⟨w1, w2, w3, w4, w5, w6⟩ := h
  unfold aTake
  split
  · next q =>
    refine ⟨fun i hi hc => ?_, w2, fun i hi d hd => ?_, w5⟩
    · simp only [aPop]
      by_cases z : i = a
      · subst z; rw [up_s, w1 i hi hc]; rfl
      · rw [up_n _ _ z]; exact w1 i hi hc
    · simp only [aPop] at hd
      by_cases z : i = a
      · subst z; rw [up_s] at hd; exact w4 i hi d ((List.dropLast_sublist _).subset hd)
      · rw [up_n _ _ z] at hd; exact w4 i hi d hd
  · refine ⟨w1, fun j hj hc => ?_, w4, fun j hj => ?_⟩
    · by_cases z : j = a - 4
      · subst z; simp only [up_s]
      · simp only [up_n _ _ z]; exact w2 j hj hc
    · by_cases z : j = a - 4
      · subst z; simp only [up_s]; omega
      · simp only [up_n _ _ z]; exact w5 j hj
theorem WF.cardL {P : Pm} {ec : Nat} {Ld : Nat → Bool} {S : St} (h : WF P ec Ld S) {a : Nat} (ha : a < 6) : cardF S a ≤ pS P * pR P := cardF_le h.inDk ha
theorem WF.mv {P : Pm} {ec : Nat} {Ld : Nat → Bool} {S : St} (hP : okP P) (he : ec ≤ 2) (h : WF P ec Ld S) {a b : Nat} (hb : b < 6) (hc : canN P ec S a b = true) : WF P ec Ld (aMv P ec S a b) := by
  obtain ⟨k1, k2, k3, k4, k5⟩ := can_nm hc
  have ha : a < 6 := WF.a6 hP he k1
  have hcl := h.cardL ha
  obtain ⟨h1, h2, h3, h4, h5, h6, h7, h8, h9⟩ := hP
  obtain ⟨t1, t2, t3, t4⟩ := h.takeC a
  have w3 := h.2.2.1
  have w6 := h.2.2.2.2.2
  have ct := fun {n : Nat} (hn : 1 ≤ n) => cc_take ha k2 hn
  generalize hcd : cardF S a = d at *
  have un := su_lt h3 (show 1 ≤ d by omega) hcl
  by_cases b5 : b = 5
  · subst b5
    rw [aMv_h, hcd]
    have k := k4 rfl
    have rl := ra_le (n := d) h3
    refine ⟨t1, t2, fun t ht => ?_, t3, t4, fun n n1 n2 => ?_⟩
    · by_cases z : t = su (pR P) d
      · subst z; simp only [up_s]; rw [if_pos un]; omega
      · simp only [up_n _ _ z]; exact w3 t ht
    · have := ct n1
      have w := w6 n n1 n2
      rw [← w, ← this]
      show cc n (aTake S a) + inHo P _ n = _
      have e : inHo P ((aTake S a).1, (aTake S a).2.1, up S.2.2 (su (pR P) d) (S.2.2 (su (pR P) d) + 1)) n = inHo P S n + (if d = n then 1 else 0) := by
        unfold inHo
        by_cases z : su (pR P) n = su (pR P) d
        · simp only [z, up_s]
          by_cases y : d = n
          · subst y; rw [if_pos (by omega), if_neg (by omega), if_pos rfl]
          · have : ra (pR P) n ≠ ra (pR P) d := fun q => y (card_inj (by omega) n1 z.symm q.symm)
            rw [if_neg y]
            by_cases x : ra (pR P) n ≤ S.2.2 (su (pR P) d)
            · rw [if_pos (by omega), if_pos x]
            · rw [if_neg (by omega), if_neg x]
        · simp only [up_n _ _ z]
          rw [if_neg (show ¬ d = n from fun y => z (by rw [y])), Nat.add_zero]
      rw [e]; omega
  · by_cases b4 : b = 4
    · subst b4
      obtain ⟨k31, k32⟩ := k3 rfl
      have ef := ffc_take (ec := ec) (S := S) (show a < 4 by omega)
      have eM : aMv P ec S a 4 = ((aTake S a).1, up (aTake S a).2.1 (ffc ec S) d, (aTake S a).2.2) := by
        unfold aMv aPut; rw [if_neg (by decide), if_pos rfl, ef, if_neg k32, hcd]
      have hff := ffc_free (ec := ec) (S := aTake S a) (by rw [ef]; exact k32)
      rw [ef] at hff
      have hfe := ffc_ec k32
      rw [eM]
      refine ⟨t1, fun j hj hjj => ?_, fun t ht => by rw [show (((aTake S a).1, up (aTake S a).2.1 (ffc ec S) d, (aTake S a).2.2) : St).2.2 = S.2.2 from aTake_h S a]; exact w3 t ht, t3, fun j hj => ?_, fun n n1 n2 => ?_⟩
      · simp only [up_n (aTake S a).2.1 d (show j ≠ ffc ec S by omega)]; exact t2 j hj hjj
      · by_cases z : j = ffc ec S
        · subst z; simp only [up_s]; exact hcl
        · simp only [up_n _ _ z]; exact t4 j hj
      · rw [cc_cell hff.1 hff.2 n1, ← w6 n n1 n2, ← ct n1]
        have e : inHo P ((aTake S a).1, up (aTake S a).2.1 (ffc ec S) d, (aTake S a).2.2) n = inHo P S n := by unfold inHo; simp only [aTake_h]
        rw [e]
    · obtain ⟨k51, k52, k53⟩ := k5 b4 b5
      have hb4 : b < 4 := by omega
      have eM : aMv P ec S a b = aPush (aTake S a) b d := by
        unfold aMv aPut; rw [if_neg b5, if_neg b4, hcd]
      rw [eM]
      refine ⟨fun i hi hcc => ?_, t2, fun t ht => by rw [show (aPush (aTake S a) b d).2.2 = S.2.2 from aTake_h S a]; exact w3 t ht, fun i hi e hE => ?_, t4, fun n n1 n2 => ?_⟩
      · simp only [aPush]; rw [up_n _ _ (by omega)]; exact t1 i hi hcc
      · simp only [aPush] at hE
        by_cases z : i = b
        · subst z; rw [up_s] at hE
          rcases List.mem_append.mp hE with q | q
          · exact t3 i hi e q
          · simp at q; subst q; exact ⟨by omega, hcl⟩
        · rw [up_n _ _ z] at hE; exact t3 i hi e hE
      · rw [cc_push hb4, ← w6 n n1 n2, ← ct n1]
        have e : inHo P (aPush (aTake S a) b d) n = inHo P S n := by unfold inHo aPush; simp only [aTake_h]
        rw [e]
theorem cc_col {S : St} {i : Nat} (hi : i < 4) {n : Nat} (h : n ∈ S.1 i) : 1 ≤ cc n S := by
  have := List.count_pos_iff.mpr h
  unfold cc
  rcases (show i = 0 ∨ i = 1 ∨ i = 2 ∨ i = 3 by omega) with rfl | rfl | rfl | rfl <;> omega
theorem WF.mvK {P : Pm} {ec : Nat} {Ld : Nat → Bool} {S : St} (hP : okP P) (he : ec ≤ 2) (h : WF P ec Ld S) {a b : Nat} (hb : b < 6) (hc : canN P ec S a b = true) : mvOk P ec S a b := by
  obtain ⟨k1, k2, k3, k4, k5⟩ := can_nm hc
  have ha : a < 6 := WF.a6 hP he k1
  have hcl := h.cardL ha
  have ht := h.totL
  obtain ⟨h1, h2, h3, h4, h5, h6, h7, h8, h9⟩ := hP
  have w6 := h.2.2.2.2.2 (cardF S a) (by omega) hcl
  refine ⟨ha, hb, fun q => ?_, k2, fun q => ?_, fun q => ?_, fun q => ⟨?_, (k3 q).2, fun j hj z => ?_⟩⟩
  · have := k5 (by omega) (by omega); omega
  · have := k4 q; have := ra_le (n := cardF S a) h3; omega
  · have hab := (k5 (by omega) (by omega)).2.1
    by_cases a4 : a < 4
    · have e : cardF S a = lastC (S.1 a) := by simp [cardF, a4]
      rw [e] at k2
      have := List.length_pos_iff.mpr (lastC_ne k2)
      unfold tot at ht
      rcases (show a = 0 ∨ a = 1 ∨ a = 2 ∨ a = 3 by omega) with rfl | rfl | rfl | rfl <;> rcases (show b = 0 ∨ b = 1 ∨ b = 2 ∨ b = 3 by omega) with rfl | rfl | rfl | rfl <;> omega
    · have e : cardF S a = S.2.1 (a - 4) := by simp [cardF, a4]
      rw [e] at k2
      unfold tot at ht
      rcases (show a = 4 ∨ a = 5 by omega) with rfl | rfl
      · rw [if_neg (c := S.2.1 0 = 0) k2] at ht
        rcases (show b = 0 ∨ b = 1 ∨ b = 2 ∨ b = 3 by omega) with rfl | rfl | rfl | rfl <;> omega
      · rw [if_neg (c := S.2.1 1 = 0) k2] at ht
        rcases (show b = 0 ∨ b = 1 ∨ b = 2 ∨ b = 3 by omega) with rfl | rfl | rfl | rfl <;> omega
  · have := (k3 q).1; omega
  · have a4 : a < 4 := by have := (k3 q).1; omega
    have e : cardF S a = lastC (S.1 a) := by simp [cardF, a4]
    have hm : cardF S a ∈ S.1 a := by rw [e]; exact lastC_mem (lastC_ne (by rw [← e]; exact k2))
    have c1 := List.count_pos_iff.mpr hm
    have c2 : cc (cardF S a) S ≤ 1 := by split at w6 <;> omega
    unfold cc at c2
    rcases (show j = 0 ∨ j = 1 by omega) with rfl | rfl
    · rw [if_pos z] at c2
      rcases (show a = 0 ∨ a = 1 ∨ a = 2 ∨ a = 3 by omega) with rfl | rfl | rfl | rfl <;> omega
    · rw [if_pos z] at c2
      rcases (show a = 0 ∨ a = 1 ∨ a = 2 ∨ a = 3 by omega) with rfl | rfl | rfl | rfl <;> omega
