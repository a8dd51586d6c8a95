/-! THE ORDER IN WHICH STANDS ARE MET: the row of moves that first comes to a form is the least one -/
def LX (P : Pm) (ec : Nat) (S0 : St) (d lo hi i c n : Nat) (R : Nat → St) (pi : Nat → List Nat) : Prop :=
  (∀ j, j < n → run P ec (pi j) S0 = some (R j)) ∧
  (∀ l T j, l.length < d → run P ec l S0 = some T → j < hi → fkN (R j) = fkN T → (pi j).length = l.length → ¬ lxlt l (pi j)) ∧
  (∀ j k, lo ≤ j → j < k → k < hi → lxlt (pi j) (pi k)) ∧ (∀ j k, hi ≤ j → j < k → k < n → lxlt (pi j) (pi k)) ∧
  (∀ k, hi ≤ k → k < n → ∃ j x, lo ≤ j ∧ j < hi ∧ trd i c j x ∧ pi k = pi j ++ [x]) ∧
  (∀ j x k, lo ≤ j → j < hi → trd i c j x → canN P ec (R j) (x / 8) (x % 8) = true → hi ≤ k → k < n → fkN (R k) = fkN (aMv P ec (R j) (x / 8) (x % 8)) → ¬ lxlt (pi j ++ [x]) (pi k))
theorem trd.up {i c c' j x : Nat} (h : trd i c j x) (hc : c ≤ c') : trd i c' j x := h.imp id (fun h => ⟨h.1, by omega⟩)
theorem LX.init {P : Pm} {ec : Nat} {S0 : St} {R : Nat → St} {pi : Nat → List Nat} (hR : R 0 = S0) (hp : pi 0 = []) : LX P ec S0 1 0 1 0 0 1 R pi := by
  refine ⟨fun j hj => ?_, fun l T j h1 _ h3 _ _ h6 => ?_, fun j k _ _ _ => by omega, fun j k _ _ _ => by omega, fun k _ _ => by omega, fun j x k _ _ h => ?_⟩
  · have : j = 0 := by omega
    subst this; rw [hR, hp]; rfl
  · have e : l = [] := List.length_eq_zero_iff.mp (by omega)
    subst e; exact h6
  · rcases h with h | h <;> omega
/-- what has been tried comes ahead of what is tried -/
theorem lx_trd {lo hi i c : Nat} {pi : Nat → List Nat} (hs : ∀ j k, lo ≤ j → j < k → k < hi → lxlt (pi j) (pi k)) (hi' : i < hi) {j x : Nat} (hj : lo ≤ j) (h : trd i c j x) : lxlt (pi j ++ [x]) (pi i ++ [c]) := by
  rcases h with h | ⟨h, h2⟩
  · exact lx_app _ _ _ _ (hs j i hj h hi')
  · subst h; exact lx_last _ h2
theorem LX.old {P : Pm} {ec : Nat} {S0 : St} {d lo hi i c n c' : Nat} {R : Nat → St} {pi : Nat → List Nat} (h : LX P ec S0 d lo hi i c n R pi) (hi' : i < hi) (hcc : c ≤ c') : LX P ec S0 d lo hi i c' n R pi := by
  obtain ⟨a, b, e1, e2, f, g⟩ := h
  refine ⟨a, b, e1, e2, fun k h1 h2 => ?_, fun j x k h1 h2 h3 h4 h5 h6 h7 h8 => ?_⟩
  · obtain ⟨j, x, q1, q2, q3, q4⟩ := f k h1 h2
    exact ⟨j, x, q1, q2, q3.up hcc, q4⟩
  · obtain ⟨j', x', q1, q2, q3, q4⟩ := f k h5 h6
    by_cases z : trd i c j x
    · exact g j x k h1 h2 z h4 h5 h6 h7 h8
    · -- the move is later than all that has been tried
      have hl := lx_trd e1 hi' q1 q3
      rw [← q4] at hl
      have hj : j = i ∧ c ≤ x := by
        unfold trd at z h3; omega
      obtain ⟨rfl, hx⟩ := hj
      rcases Nat.lt_or_ge c x with y | y
      · exact lx_asym _ _ (lx_trans _ _ _ hl (lx_last _ y)) h8
      · have : x = c := by omega
        subst this; exact lx_asym _ _ hl h8
theorem LX.new {P : Pm} {ec : Nat} {S0 : St} {d lo hi i c n : Nat} {R R' : Nat → St} {pi pi' : Nat → List Nat} (h : LX P ec S0 d lo hi i c n R pi) (hlo : lo ≤ i) (hi' : i < hi) (hhn : hi ≤ n) (hc : canN P ec (R i) (c / 8) (c % 8) = true) (hno : ∀ k, k < n → fkN (R k) ≠ fkN (aMv P ec (R i) (c / 8) (c % 8))) (hinj : ∀ j x, lo ≤ j → j < hi → trd i c j x → canN P ec (R j) (x / 8) (x % 8) = true → ∃ k, k < n ∧ fkN (R k) = fkN (aMv P ec (R j) (x / 8) (x % 8))) (hR : ∀ j, j < n → R' j = R j) (hRn : R' n = aMv P ec (R i) (c / 8) (c % 8)) (hv : ∀ j, j < n → pi' j = pi j) (hvn : pi' n = pi i ++ [c]) : LX P ec S0 d lo hi i (c + 1) (n + 1) R' pi' := by
  obtain ⟨a, b, e1, e2, f, g⟩ := h
  refine ⟨fun j hj => ?_, fun l T j h1 h2 h3 h4 h5 => ?_, fun j k h1 h2 h3 => ?_, fun j k h1 h2 h3 => ?_, fun k h1 h2 => ?_, fun j x k h1 h2 h3 h4 h5 h6 h7 => ?_⟩
  · by_cases z : j = n
    · rw [z, hRn, hvn]; exact run_snoc (a i (by omega)) hc
    · rw [hR j (by omega), hv j (by omega)]; exact a j (by omega)
  · rw [hR j (by omega)] at h4
    rw [hv j (by omega)] at h5 ⊢
    exact b l T j h1 h2 h3 h4 h5
  · rw [hv j (by omega), hv k (by omega)]; exact e1 j k h1 h2 h3
  · by_cases z : k = n
    · rw [z, hvn, hv j (by omega)]
      obtain ⟨j', x', q1, q2, q3, q4⟩ := f j h1 (by omega)
      rw [q4]; exact lx_trd e1 hi' q1 q3
    · rw [hv j (by omega), hv k (by omega)]; exact e2 j k h1 h2 (by omega)
  · by_cases z : k = n
    · exact ⟨i, c, hlo, hi', Or.inr ⟨rfl, by omega⟩, by rw [z, hvn, hv i (by omega)]⟩
    · obtain ⟨j, x, q1, q2, q3, q4⟩ := f k h1 (by omega)
      exact ⟨j, x, q1, q2, q3.up (by omega), by rw [hv k (by omega), hv j (by omega)]; exact q4⟩
  · rw [hR j (by omega)] at h4 h7
    rw [hv j (by omega)]
    by_cases y : trd i c j x
    · by_cases z : k = n
      · -- its form was known
        rw [z, hRn] at h7
        obtain ⟨k', s1, s2⟩ := hinj j x h1 h2 y h4
        exact absurd (by rw [s2, ← h7]) (hno k' s1)
      · rw [hR k (by omega)] at h7
        rw [hv k (by omega)]
        exact g j x k h1 h2 y h4 h5 (by omega) h7
    · have hj : j = i ∧ x = c := by
        unfold trd at y h3; omega
      obtain ⟨rfl, rfl⟩ := hj
      by_cases z : k = n
      · rw [z, hvn]; exact lx_irr _
      · rw [hR k (by omega)] at h7; exact absurd h7 (hno k (by omega))
theorem LX.next {P : Pm} {ec : Nat} {S0 : St} {d lo hi i c n : Nat} {R : Nat → St} {pi : Nat → List Nat} (hP : okP P) (he : ec ≤ 2) (h : LX P ec S0 d lo hi i c n R pi) (hc : 48 ≤ c) : LX P ec S0 d lo hi (i + 1) 0 n R pi := by
  obtain ⟨a, b, e1, e2, f, g⟩ := h
  refine ⟨a, b, e1, e2, fun k h1 h2 => ?_, fun j x k h1 h2 h3 h4 h5 h6 h7 => ?_⟩
  · obtain ⟨j, x, q1, q2, q3, q4⟩ := f k h1 h2
    exact ⟨j, x, q1, q2, Or.inl (by unfold trd at q3; omega), q4⟩
  · have hx := can_c48 hP he h4
    exact g j x k h1 h2 (by unfold trd at h3 ⊢; omega) h4 h5 h6 h7
theorem LX.level {P : Pm} {ec : Nat} {S0 : St} {m d lo hi n : Nat} {R : Nat → St} {pi : Nat → List Nat} (hP : okP P) (he : ec ≤ 2) (h0 : FW P ec S0) (hB : BJ P ec S0 m d lo hi hi 0 n R (fun j => (pi j).length) false) (h : LX P ec S0 d lo hi hi 0 n R pi) : LX P ec S0 (d + 1) hi n hi 0 n R pi := by
  obtain ⟨a, b, e1, e2, f, g⟩ := h
  obtain ⟨ha, hb, hb2, hinj, hcv, hg, -⟩ := id hB
  refine ⟨a, fun l T j h1 h2 h3 h4 h5 => ?_, e2, fun j k h1 h2 h3 => by omega, fun k h1 h2 => by omega, fun j x k h1 h2 h3 => ?_⟩
  · rcases Nat.lt_or_ge j hi with z | z
    · refine b l T j ?_ h2 z h4 h5
      have := hb2 j (by omega)
      rcases Nat.lt_or_ge j lo with t | t
      · have := this.1 t; simp only at this; omega
      · have := this.2.1 t z; simp only at this; omega
    · have hlj := (hb2 j h3).2.2 z
      simp only at hlj
      rcases List.eq_nil_or_concat l with q | ⟨l', x, q⟩
      · subst q; rw [List.length_nil] at h5; omega
      · rw [List.concat_eq_append] at q
        subst q
        have hl' : l'.length + 1 = d := by simp at h5; omega
        obtain ⟨U, u1, u2, u3⟩ := run_unsnoc h2
        obtain ⟨p, p1, p2, p3⟩ := hcv l' U (by omega) u1
        obtain ⟨r1, r2, -⟩ := hb p (by omega)
        have hFU := run_fw hP he h0 u1
        rcases Nat.lt_or_ge p lo with w | w
        · -- then the form would have been met earlier
          exfalso
          obtain ⟨x', y1, y2⟩ := bisim_c hP he hFU r1 p2.symm u2
          have hlv := (hb2 p (by omega)).1 w
          simp only at hlv
          have e3 : run P ec (pi p ++ [x']) S0 = some (aMv P ec (R p) (x' / 8) (x' % 8)) := run_snoc (a p (by omega)) y1
          obtain ⟨k, k1, k2, k3⟩ := hcv _ _ (by simp; omega) e3
          have : k = j := hinj k j (by omega) h3 (by rw [k2, ← y2, ← u3, h4])
          omega
        · have hlv := (hb2 p (by omega)).2.1 w p1
          simp only at hlv
          have hne := b l' U p (by omega) u1 p1 p2 (by omega)
          rcases lx_tri (pi p) l' (by omega) with q | q | q
          · -- the same row of moves
            have hU : U = R p := by
              have := a p (by omega)
              rw [q, u1] at this; exact Option.some.inj this
            rw [hU] at u2 u3
            rw [← q]
            exact g p x j w p1 (Or.inl p1) u2 z h3 (by rw [h4, u3])
          · obtain ⟨x', y1, y2⟩ := bisim_c hP he hFU r1 p2.symm u2
            have g1 := g p x' j w p1 (Or.inl p1) y1 z h3 (by rw [h4, u3, y2])
            intro hlt
            rcases lx_tri (pi p ++ [x']) (pi j) (by simp; omega) with s | s | s
            · rw [← s] at hlt
              exact lx_asym _ _ hlt (lx_app _ _ _ _ q)
            · exact g1 s
            · exact lx_asym _ _ (lx_trans _ _ _ s (lx_app (pi p) l' [x'] [x] q)) hlt
          · exact absurd q hne
  · rcases h3 with h3 | h3 <;> omega
theorem LX.found {P : Pm} {ec : Nat} {S0 : St} {m d lo hi i c n : Nat} {R : Nat → St} {pi : Nat → List Nat} {sp : Bool} (hP : okP P) (he : ec ≤ 2) (h0 : FW P ec S0) (hB : BJ P ec S0 m d lo hi i c n R (fun j => (pi j).length) sp) (h : LX P ec S0 d lo hi i c n R pi) (hi' : i < hi) (hc : canN P ec (R i) (c / 8) (c % 8) = true) (hd : dnS P (aMv P ec (R i) (c / 8) (c % 8))) : isPl P ec S0 (pi i ++ [c]) ∧ (pi i ++ [c]).length = d := by
  have hcN := (hB.covN hP he h0).1
  obtain ⟨a, b, e1, e2, f, g⟩ := h
  obtain ⟨ha, hb, hb2, hinj, hcv, hg, -⟩ := id hB
  have hli := (hb2 i (by omega)).2.1 (by omega) hi'
  simp only at hli
  have hlen : (pi i ++ [c]).length = d := by simp; omega
  refine ⟨⟨⟨_, run_snoc (a i (by omega)) hc, hd⟩, fun l' T h1 h2 => hcN l' T (by omega) h2, fun l T h1 h2 h3 hlt => ?_⟩, hlen⟩
  rcases List.eq_nil_or_concat l with q | ⟨l', x, q⟩
  · subst q; simp at h1
  · rw [List.concat_eq_append] at q
    subst q
    have hl' : l'.length + 1 = d := by simp at h1 hlen; omega
    obtain ⟨U, u1, u2, u3⟩ := run_unsnoc h2
    obtain ⟨p, p1, p2, p3⟩ := hcv l' U (by omega) u1
    obtain ⟨r1, r2, -⟩ := hb p (by omega)
    have hFU := run_fw hP he h0 u1
    have dn : ∀ x', canN P ec (R p) (x' / 8) (x' % 8) = true → fkN (aMv P ec U (x / 8) (x % 8)) = fkN (aMv P ec (R p) (x' / 8) (x' % 8)) → dnS P (aMv P ec (R p) (x' / 8) (x' % 8)) := fun x' y1 y2 => by
      unfold dnS at h3 ⊢
      rw [← h3, u3]
      exact (like_done hP (WF.mv hP he hFU (can_b6 hP u2) u2) (WF.mv hP he r1 (can_b6 hP y1) y1) y2).symm
    rcases Nat.lt_or_ge p lo with w | w
    · obtain ⟨x', y1, y2⟩ := bisim_c hP he hFU r1 p2.symm u2
      have hlv := (hb2 p (by omega)).1 w
      simp only at hlv
      exact hcN _ _ (by simp; omega) (run_snoc (a p (by omega)) y1) (dn x' y1 y2)
    · have hlv := (hb2 p (by omega)).2.1 w p1
      simp only at hlv
      have hne := b l' U p (by omega) u1 p1 p2 (by omega)
      -- what is done has not been tried
      have late : ∀ x', canN P ec (R p) (x' / 8) (x' % 8) = true → dnS P (aMv P ec (R p) (x' / 8) (x' % 8)) → ¬ lxlt (pi p ++ [x']) (pi i ++ [c]) := fun x' y1 y2 hl => by
        by_cases z : trd i c p x'
        · exact (hg p x' w p1 z y1).1 y2
        · rcases Nat.lt_trichotomy p i with t | t | t
          · exact z (Or.inl t)
          · subst t
            rcases Nat.lt_trichotomy x' c with s | s | s
            · exact z (Or.inr ⟨rfl, s⟩)
            · subst s; exact lx_irr _ hl
            · exact lx_asym _ _ (lx_last (pi p) s) hl
          · exact lx_asym _ _ (lx_app _ _ _ _ (e1 i p (by omega) t p1)) hl
      rcases lx_tri (pi p) l' (by omega) with q | q | q
      · have hU : U = R p := by
          have := a p (by omega)
          rw [q, u1] at this; exact Option.some.inj this
        rw [hU] at u2 u3
        rw [← q] at hlt
        exact late x u2 (by rw [← u3]; exact h3) hlt
      · obtain ⟨x', y1, y2⟩ := bisim_c hP he hFU r1 p2.symm u2
        exact late x' y1 (dn x' y1 y2) (lx_trans _ _ _ (lx_app (pi p) l' [x'] [x] q) hlt)
      · exact hne q
