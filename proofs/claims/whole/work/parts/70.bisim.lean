/-! LIKE STANDS HAVE LIKE MOVES -/
abbrev FW (P : Pm) (ec : Nat) (S : St) : Prop := WF P ec (fun _ => true) S
theorem FW.allK {P : Pm} {ec : Nat} {S : St} (hP : okP P) (h : FW P ec S) : allS P S := WF.allK hP h (fun _ _ _ => rfl)
theorem can_mk {P : Pm} {ec : Nat} {S : St} {a b : Nat} (k1 : a < pC P ∨ (4 ≤ a ∧ a < 4 + ec)) (k2 : cardF S a ≠ 0) (k3 : b = 4 → a < pC P ∧ ffc ec S ≠ 2) (k4 : b = 5 → S.2.2 (su (pR P) (cardF S a)) + 1 = ra (pR P) (cardF S a)) (k5 : b ≠ 4 → b ≠ 5 → b < pC P ∧ b ≠ a ∧ letF P (cardF S a) (lastC (S.1 b)) = true) : canN P ec S a b = true := by
  unfold canN
  rw [Bool.and_eq_true, decide_eq_true_eq]
  unfold nmN whyF
  rw [if_neg k2]
  by_cases h4 : b = 4
  · rw [if_pos h4, if_pos h4, if_neg (k3 h4).2]
    exact ⟨by simpa using (k3 h4).1, rfl⟩
  · rw [if_neg h4, if_neg h4]
    simp only [Bool.and_eq_true, Bool.or_eq_true, decide_eq_true_eq, Bool.not_eq_true', decide_eq_false_iff_not]
    by_cases h5 : b = 5
    · rw [if_pos h5, if_pos (k4 h5)]
      exact ⟨⟨k1, Or.inr h5⟩, rfl⟩
    · obtain ⟨q1, q2, q3⟩ := k5 h4 h5
      rw [if_neg h5, if_pos q3]
      exact ⟨⟨k1, Or.inl ⟨q1, q2⟩⟩, rfl⟩
theorem bs_take {P : Pm} {ec : Nat} {S S' : St} (hP : okP P) (he : ec ≤ 2) (h' : FW P ec S') (m : msE S S') (ce : ceE S S') {a : Nat} (k1 : a < pC P ∨ (4 ≤ a ∧ a < 4 + ec)) (k2 : cardF S a ≠ 0) : ∃ a', (a' < pC P ∨ (4 ≤ a' ∧ a' < 4 + ec)) ∧ (a < pC P → a' < pC P ∧ S'.1 a' = S.1 a) ∧ (4 ≤ a → 4 ≤ a') ∧ cardF S' a' = cardF S a ∧ msE (aTake S a) (aTake S' a') ∧ ceE (aTake S a) (aTake S' a') := by
  have h7 := hP.2.2.2.2.2.2.1
  by_cases a4 : a < 4
  · have e : cardF S a = lastC (S.1 a) := by simp [cardF, a4]
    obtain ⟨a', b1, b2⟩ := ms_ex m a4
    have b3 : a' < pC P := by
      refine Classical.byContradiction (fun z => k2 ?_)
      rw [e, ← b2, h'.1 a' b1 (by omega)]; rfl
    refine ⟨a', Or.inl b3, fun _ => ⟨b3, b2⟩, fun z => by omega, by simp [cardF, a4, b1, b2], fun f => ?_, ?_⟩
    · have t1 : aTake S a = aPop S a := by simp [aTake, a4]
      have t2 : aTake S' a' = aPop S' a' := by simp [aTake, b1]
      rw [t1, t2]
      have u1 := sum4_up S.1 f a4 (S.1 a).dropLast
      have u2 := sum4_up S'.1 f b1 (S'.1 a').dropLast
      have u3 := m f
      unfold aPop
      simp only
      rw [b2] at u2 ⊢
      omega
    · have t1 : (aTake S a).2.1 = S.2.1 := by simp [aTake, a4, aPop]
      have t2 : (aTake S' a').2.1 = S'.2.1 := by simp [aTake, b1, aPop]
      unfold ceE; rw [t1, t2]; exact ce
  · have k1' := k1.resolve_left (by omega)
    have e : cardF S a = S.2.1 (a - 4) := by simp [cardF, a4]
    obtain ⟨c1, c2⟩ := ce
    rw [e] at k2
    have hj : ∃ j', j' < 2 ∧ S'.2.1 j' = S.2.1 (a - 4) ∧ max (up S.2.1 (a - 4) 0 0) (up S.2.1 (a - 4) 0 1) = max (up S'.2.1 j' 0 0) (up S'.2.1 j' 0 1) ∧ min (up S.2.1 (a - 4) 0 0) (up S.2.1 (a - 4) 0 1) = min (up S'.2.1 j' 0 0) (up S'.2.1 j' 0 1) := by
      rcases (show a = 4 ∨ a = 5 by omega) with rfl | rfl
      · by_cases z : S'.2.1 0 = S.2.1 0
        · exact ⟨0, by decide, z, by simp [up]; omega, by simp [up]⟩
        · exact ⟨1, by decide, by show S'.2.1 1 = S.2.1 0; omega, by simp [up]; omega, by simp [up]⟩
      · by_cases z : S'.2.1 0 = S.2.1 1
        · exact ⟨0, by decide, z, by simp [up]; omega, by simp [up]⟩
        · exact ⟨1, by decide, by show S'.2.1 1 = S.2.1 1; omega, by simp [up]; omega, by simp [up]⟩
    obtain ⟨j', q1, q2, q3⟩ := hj
    have q4 : j' < ec := by
      refine Classical.byContradiction (fun z => k2 ?_)
      rw [← q2]; exact h'.2.1 j' q1 (by omega)
    have t1 : aTake S a = (S.1, up S.2.1 (a - 4) 0, S.2.2) := by simp [aTake, a4]
    have t2 : aTake S' (4 + j') = (S'.1, up S'.2.1 j' 0, S'.2.2) := by simp [aTake, show ¬ 4 + j' < 4 by omega]
    refine ⟨4 + j', Or.inr ⟨by omega, by omega⟩, fun z => by omega, fun _ => by omega, by rw [e]; simp [cardF, q2, show ¬ 4 + j' < 4 by omega], ?_, ?_⟩
    · rw [t1, t2]; exact m
    · rw [t1, t2]; exact q3
theorem WF.two {P : Pm} {ec : Nat} {Ld : Nat → Bool} {S : St} (h : WF P ec Ld S) {a b n : Nat} (ha : a < 4) (hb : b < 4) (hab : a ≠ b) (h1 : n ∈ S.1 a) (h2 : n ∈ S.1 b) : False := by
  have c1 := List.count_pos_iff.mpr h1
  have c2 := List.count_pos_iff.mpr h2
  have hn := h.2.2.2.1 a ha n h1
  have w := h.2.2.2.2.2 n hn.1 hn.2
  have c3 : cc n S ≤ 1 := by split at w <;> omega
  unfold cc at c3
  rcases (show a = 0 ∨ a = 1 ∨ a = 2 ∨ a = 3 by omega) with rfl | rfl | rfl | rfl <;> rcases (show b = 0 ∨ b = 1 ∨ b = 2 ∨ b = 3 by omega) with rfl | rfl | rfl | rfl <;> omega
theorem bisim {P : Pm} {ec : Nat} {S S' : St} (hP : okP P) (he : ec ≤ 2) (h : FW P ec S) (h' : FW P ec S') (e : fkN S = fkN S') {a b : Nat} (hb : b < 6) (hc : canN P ec S a b = true) : ∃ a' b', b' < 6 ∧ canN P ec S' a' b' = true ∧ fkN (aMv P ec S a b) = fkN (aMv P ec S' a' b') := by
  obtain ⟨k1, k2, k3, k4, k5⟩ := can_nm hc
  have hok := h.ok hP
  have hok' := h'.ok hP
  obtain ⟨m, ce⟩ := like_ms hok hok' e
  obtain ⟨a', q1, q2, q3, q4, q5, q6⟩ := bs_take hP he h' m ce k1 k2
  have h7 := hP.2.2.2.2.2.2.1
  have ha6 : a < 6 := WF.a6 hP he k1
  have hcl := h.cardL ha6
  have un := su_lt hP.2.2.1 (show 1 ≤ cardF S a by omega) hcl
  have hs4 := hP.2.1
  have fin : ∀ b', b' < 6 → canN P ec S' a' b' = true → msE (aMv P ec S a b) (aMv P ec S' a' b') → ceE (aMv P ec S a b) (aMv P ec S' a' b') → ∃ a' b', b' < 6 ∧ canN P ec S' a' b' = true ∧ fkN (aMv P ec S a b) = fkN (aMv P ec S' a' b') := by
    intro b' r1 r2 r3 r4
    exact ⟨a', b', r1, r2, ms_like ((h.mv hP he hb hc).ok hP) ((h'.mv hP he r1 r2).ok hP) r3 r4⟩
  by_cases b5 : b = 5
  · subst b5
    refine fin 5 (by decide) (can_mk q1 (by rw [q4]; exact k2) (fun z => absurd z (by decide)) (fun _ => ?_) (fun _ z => absurd rfl z)) ?_ ?_
    · rw [q4, ← like_ho hok hok' (h.allK hP) (h'.allK hP) e (by omega)]; exact k4 rfl
    · rw [aMv_h, aMv_h]; exact q5
    · rw [aMv_h, aMv_h]; exact q6
  · by_cases b4 : b = 4
    · subst b4
      obtain ⟨k31, k32⟩ := k3 rfl
      obtain ⟨q21, q22⟩ := q2 k31
      have ef := ffc_take (ec := ec) (S := S) (show a < 4 by omega)
      have ef' := ffc_take (ec := ec) (S := S') (show a' < 4 by omega)
      have f1 := ffc_free k32
      have f2 := ffc_ec k32
      obtain ⟨c1, c2⟩ := ce
      have k32' : ffc ec S' ≠ 2 := by
        intro z
        have w1 := h'.2.1 1 (by decide)
        have w0 := h.2.1 1 (by decide)
        unfold ffc at z
        split at z
        · exact absurd z (by decide)
        · next y1 =>
          split at z
          · exact absurd z (by decide)
          · next y2 =>
            rcases (show ffc ec S = 0 ∨ ffc ec S = 1 by omega) with g | g
            · rw [g] at f1 f2
              by_cases g2 : ec = 1
              · have := w1 (by omega); have := w0 (by omega); omega
              · omega
            · rw [g] at f1 f2; omega
      have f1' := ffc_free k32'
      have eM : aMv P ec S a 4 = ((aTake S a).1, up S.2.1 (ffc ec S) (cardF S a), (aTake S a).2.2) := by
        unfold aMv aPut; rw [if_neg (by decide), if_pos rfl, ef, if_neg k32]; simp [aTake, show a < 4 by omega, aPop]
      have eM' : aMv P ec S' a' 4 = ((aTake S' a').1, up S'.2.1 (ffc ec S') (cardF S' a'), (aTake S' a').2.2) := by
        unfold aMv aPut; rw [if_neg (by decide), if_pos rfl, ef', if_neg k32']; simp [aTake, show a' < 4 by omega, aPop]
      refine fin 4 (by decide) (can_mk q1 (by rw [q4]; exact k2) (fun _ => ⟨q21, k32'⟩) (fun z => absurd z (by decide)) (fun z => absurd rfl z)) ?_ ?_
      · rw [eM, eM']; exact q5
      · rw [eM, eM', q4]
        generalize cardF S a = d at *
        unfold ceE
        simp only
        rcases (show ffc ec S = 0 ∨ ffc ec S = 1 by omega) with g | g <;> rcases (show ffc ec S' = 0 ∨ ffc ec S' = 1 by omega) with g' | g' <;> rw [g] at f1 ⊢ <;> rw [g'] at f1' ⊢ <;> simp [up] <;> omega
    · obtain ⟨k51, k52, k53⟩ := k5 b4 b5
      have hb' : ∃ b', b' < pC P ∧ S'.1 b' = S.1 b ∧ b' ≠ a' := by
        by_cases em : S.1 b = []
        · obtain ⟨b', r1, r2⟩ := ms_em hP h.1 m k51 em
          refine ⟨b', r1, by rw [r2, em], fun z => ?_⟩
          subst z
          have : cardF S' b' = 0 := by simp [cardF, show b' < 4 by omega, r2, lastC]
          rw [q4] at this; exact k2 this
        · obtain ⟨b', r1, r2⟩ := ms_ex m (show b < 4 by omega)
          have r3 : b' < pC P := by
            refine Classical.byContradiction (fun z => em ?_)
            rw [← r2]; exact h'.1 b' r1 (by omega)
          refine ⟨b', r3, r2, fun z => ?_⟩
          subst z
          by_cases a4 : a < 4
          · have ac : a < pC P := by omega
            have y := (q2 ac).2
            rw [r2] at y
            have e1 : cardF S a = lastC (S.1 a) := by simp [cardF, a4]
            have hm : cardF S a ∈ S.1 a := by rw [e1]; exact lastC_mem (lastC_ne (by rw [← e1]; exact k2))
            exact h.two a4 (by omega) (fun z => k52 z.symm) hm (by rw [y]; exact hm)
          · have := q3 (by omega); omega
      obtain ⟨b', r1, r2, r3⟩ := hb'
      have eM : aMv P ec S a b = aPush (aTake S a) b (cardF S a) := by
        unfold aMv aPut; rw [if_neg b5, if_neg b4]
      have eM' : aMv P ec S' a' b' = aPush (aTake S' a') b' (cardF S' a') := by
        unfold aMv aPut; rw [if_neg (by omega), if_neg (by omega)]
      refine fin b' (by omega) (can_mk q1 (by rw [q4]; exact k2) (fun z => by omega) (fun z => by omega) (fun _ _ => ⟨r1, r3, by rw [q4, r2]; exact k53⟩)) ?_ ?_
      · rw [eM, eM', q4]
        intro f
        have u1 := sum4_up (aTake S a).1 f (show b < 4 by omega) ((aTake S a).1 b ++ [cardF S a])
        have u2 := sum4_up (aTake S' a').1 f (show b' < 4 by omega) ((aTake S' a').1 b' ++ [cardF S a])
        have u3 := q5 f
        rw [aTake_c k52] at u1
        rw [aTake_c r3, r2] at u2
        unfold aPush
        simp only
        rw [aTake_c k52, aTake_c r3, r2]
        omega
      · rw [eM, eM']; exact q6
theorem like_done {P : Pm} {ec : Nat} {S S' : St} (hP : okP P) (h : FW P ec S) (h' : FW P ec S') (e : fkN S = fkN S') : hoS S = hoS S' := by
  have q := fun {t : Nat} (ht : t < 4) => like_ho (h.ok hP) (h'.ok hP) (h.allK hP) (h'.allK hP) e ht
  unfold hoS
  rw [q (show 0 < 4 by decide), q (show 1 < 4 by decide), q (show 2 < 4 by decide), q (show 3 < 4 by decide)]
