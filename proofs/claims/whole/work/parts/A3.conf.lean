/-! SAFE CARDS GO IN ANY ORDER -/
theorem up_comm {α : Type} (f : Nat → α) {i j : Nat} (h : i ≠ j) (v w : α) : up (up f i v) j w = up (up f j w) i v := by
  funext k
  by_cases z : k = j
  · subst z; rw [up_s, up_n _ _ (fun e => h e.symm), up_s]
  · rw [up_n _ _ z]
    by_cases y : k = i
    · subst y; rw [up_s, up_s]
    · rw [up_n _ _ y, up_n _ _ y, up_n _ _ z]
theorem take_card {S : St} {a b : Nat} (hb : b < 6) (h : b ≠ a) : cardF (aTake S a) b = cardF S b := by
  unfold cardF
  by_cases b4 : b < 4
  · rw [if_pos b4, if_pos b4, aTake_c h]
  · rw [if_neg b4, if_neg b4]
    unfold aTake; split
    · rfl
    · simp only; rw [up_n _ _ (by omega)]
theorem take_comm {S : St} {a b : Nat} (h : a ≠ b) : aTake (aTake S a) b = aTake (aTake S b) a := by
  unfold aTake
  by_cases a4 : a < 4
  · by_cases b4 : b < 4
    · simp only [a4, b4, if_true]
      unfold aPop
      simp only [up_n S.1 _ h, up_n S.1 _ (fun e => h (Eq.symm e))]
      rw [up_comm S.1 h]
    · simp only [a4, b4, if_true, if_false]; rfl
  · by_cases b4 : b < 4
    · simp only [a4, b4, if_true, if_false]; rfl
    · simp only [a4, b4, if_false]
      rw [up_comm S.2.1 (by omega)]
theorem mv5 {P : Pm} {ec : Nat} {S : St} {a : Nat} : aMv P ec S a 5 = ((aTake S a).1, (aTake S a).2.1, up S.2.2 (su (pR P) (cardF S a)) (S.2.2 (su (pR P) (cardF S a)) + 1)) := aMv_h
theorem cardF_mv5 {P : Pm} {ec : Nat} {S : St} {a b : Nat} (hb : b < 6) (h : b ≠ a) : cardF (aMv P ec S a 5) b = cardF S b := by
  rw [← take_card (S := S) hb h, mv5]; rfl
theorem card_two {P : Pm} {ec : Nat} {L : Nat → Bool} {S : St} (hW : WF P ec L S) {a b : Nat} (ha : a < 6) (hb : b < 6) (h : a ≠ b) (h0 : cardF S a ≠ 0) : cardF S a ≠ cardF S b := by
  intro e
  have hcl := hW.cardL ha
  have w := hW.2.2.2.2.2 (cardF S a) (by omega) hcl
  have c1 : cc (cardF S a) S ≤ 1 := by split at w <;> omega
  have t1 := cc_take ha h0 (n := cardF S a) (by omega)
  rw [if_pos rfl] at t1
  have h0' : cardF (aTake S a) b ≠ 0 := by rw [take_card hb (fun z => h z.symm), ← e]; exact h0
  have t2 := cc_take hb h0' (n := cardF S a) (by omega)
  rw [take_card hb (fun z => h z.symm), ← e, if_pos rfl] at t2
  omega
theorem safe_mono {P : Pm} {S S' : St} {d : Nat} (h : safeF P S d = true) (hm : ∀ t, S.2.2 t ≤ S'.2.2 t) : safeF P S' d = true := by
  unfold safeF at *
  split at h
  · next q => rw [if_pos q]
  · next q =>
    rw [if_neg q]
    split at h
    · next q2 =>
      rw [if_pos q2]
      simp only [Bool.not_eq_true'] at h ⊢
      refine anyN_no (fun t ht => ?_)
      cases hh : ((decide (pL P = 0) || !decide (t % 2 = su (pR P) d % 2)) && decide (S'.2.2 t < ra (pR P) d - 1)) with
      | false => rfl
      | true =>
        rw [Bool.and_eq_true, decide_eq_true_eq] at hh
        have := hm t
        have : anyN (pS P) (fun t => (decide (pL P = 0) || !decide (t % 2 = su (pR P) d % 2)) && decide (S.2.2 t < ra (pR P) d - 1)) = true := anyN_iff.mpr ⟨t, ht, by rw [hh.1, decide_eq_true (by omega)]; rfl⟩
        rw [this] at h; exact absurd h (by simp)
    · exact absurd h (by simp)
theorem goes_mv {P : Pm} {ec : Nat} {L : Nat → Bool} {S : St} (hP : okP P) (he : ec ≤ 2) (hW : WF P ec L S) {a b : Nat} (ha : a < 6) (hb : b < 6) (h : a ≠ b) (ga : goesN P ec S a = true) (gb : goesN P ec S b = true) : goesN P ec (aMv P ec S a 5) b = true ∧ aMv P ec (aMv P ec S a 5) b 5 = aMv P ec (aMv P ec S b 5) a 5 := by
  have ca := goes_can ga
  have cb := goes_can gb
  obtain ⟨a1, a2, -, a4, -⟩ := can_nm ca
  obtain ⟨b1, b2, -, b4, -⟩ := can_nm cb
  have e1 := a4 rfl
  have e2 := b4 rfl
  have hne := card_two hW ha hb h a2
  have hcb : cardF (aMv P ec S a 5) b = cardF S b := cardF_mv5 hb (fun z => h z.symm)
  have hca : cardF (aMv P ec S b 5) a = cardF S a := cardF_mv5 ha h
  have hsu : su (pR P) (cardF S b) ≠ su (pR P) (cardF S a) := fun z => by
    rw [z] at e2
    exact hne (card_inj (r := pR P) (by omega) (by omega) z.symm (by omega))
  constructor
  · unfold goesN
    rw [Bool.and_eq_true]
    constructor
    · refine can_mk b1 (by rw [hcb]; exact b2) (fun z => absurd z (by decide)) (fun _ => ?_) (fun _ z => absurd rfl z)
      rw [hcb, mv5]
      simp only [up_n S.2.2 _ hsu]; exact e2
    · rw [hcb]
      unfold goesN at gb
      rw [Bool.and_eq_true] at gb
      refine safe_mono gb.2 (fun t => ?_)
      rw [mv5]
      by_cases z : t = su (pR P) (cardF S a)
      · rw [z]; simp only [up_s]; omega
      · simp only [up_n S.2.2 _ z]; exact Nat.le_refl _
  · rw [mv5, mv5 (S := aMv P ec S b 5), hcb, hca]
    have t1 : ∀ x, aTake (aMv P ec S a 5) x = ((aTake (aTake S a) x).1, (aTake (aTake S a) x).2.1, (aMv P ec S a 5).2.2) := fun x => by
      rw [mv5]; unfold aTake; split <;> split <;> rfl
    have t2 : ∀ x, aTake (aMv P ec S b 5) x = ((aTake (aTake S b) x).1, (aTake (aTake S b) x).2.1, (aMv P ec S b 5).2.2) := fun x => by
      rw [mv5]; unfold aTake; split <;> split <;> rfl
    rw [t1, t2, take_comm h]
    rw [mv5, mv5]
    simp only [up_n S.2.2 _ hsu, up_n S.2.2 _ (fun z => hsu (Eq.symm z))]
    rw [up_comm S.2.2 (fun z => hsu (Eq.symm z))]
/-- n safe cards went, E is left, and no more can -/
def mxs (P : Pm) (ec : Nat) : Nat → St → St → Prop
  | 0, S, E => E = S ∧ ∀ a, a < 6 → goesN P ec S a = false
  | n + 1, S, E => ∃ a, a < 6 ∧ goesN P ec S a = true ∧ mxs P ec n (aMv P ec S a 5) E
theorem ho_mv5 {P : Pm} {ec : Nat} {L : Nat → Bool} {S : St} (hP : okP P) (hW : WF P ec L S) {a : Nat} (ha : a < 6) (ga : goesN P ec S a = true) : hoS (aMv P ec S a 5) = hoS S + 1 := by
  obtain ⟨a1, a2, -, a4, -⟩ := can_nm (goes_can ga)
  have un := su_lt hP.2.2.1 (show 1 ≤ cardF S a by omega) (hW.cardL ha)
  have hs := hP.2.1
  rw [mv5]; unfold hoS
  generalize su (pR P) (cardF S a) = t at *
  rcases (show t = 0 ∨ t = 1 ∨ t = 2 ∨ t = 3 by omega) with rfl | rfl | rfl | rfl <;> simp [up] <;> omega
theorem ho_le {P : Pm} {ec : Nat} {L : Nat → Bool} {S : St} (hP : okP P) (hW : WF P ec L S) : hoS S ≤ 12 := by
  have w := hW.2.2.1
  have w0 := w 0 (by decide)
  have w1 := w 1 (by decide)
  have w2 := w 2 (by decide)
  have w3 := w 3 (by decide)
  obtain ⟨h1, h2, h3, h4, h5, -⟩ := hP
  unfold hoS
  rcases (show pS P = 1 ∨ pS P = 2 ∨ pS P = 3 ∨ pS P = 4 by omega) with e | e | e | e <;> rw [e] at w0 w1 w2 w3 h5 <;> simp at w0 w1 w2 w3 <;> omega
theorem mxs_ex {P : Pm} {ec : Nat} {L : Nat → Bool} (hP : okP P) (he : ec ≤ 2) : ∀ (f : Nat) {S : St}, WF P ec L S → 12 ≤ hoS S + f → ∃ n E, mxs P ec n S E
  | f, S, hW, hf => by
    rcases fstG_e (P := P) (ec := ec) (S := S) with ⟨-, q⟩ | ⟨q1, q2, -⟩
    · exact ⟨0, S, rfl, q⟩
    · have hW' := WF.mv hP he hW (by decide) (goes_can q2)
      have h1 := ho_mv5 hP hW q1 q2
      have h2 := ho_le hP hW'
      cases f with
      | zero => omega
      | succ f =>
        obtain ⟨n, E, h⟩ := mxs_ex hP he f hW' (by omega)
        exact ⟨n + 1, E, _, q1, q2, h⟩
theorem mxs_uniq {P : Pm} {ec : Nat} {L : Nat → Bool} (hP : okP P) (he : ec ≤ 2) : ∀ (n : Nat) {m : Nat} {S E F : St}, WF P ec L S → mxs P ec n S E → mxs P ec m S F → n = m ∧ E = F
  | 0, m, S, E, F, hW, h, h' => by
    cases m with
    | zero => exact ⟨rfl, by rw [h.1, h'.1]⟩
    | succ m =>
      obtain ⟨a, a1, a2, -⟩ := h'
      rw [h.2 a a1] at a2; exact absurd a2 (by simp)
  | n + 1, m, S, E, F, hW, h, h' => by
    obtain ⟨a, a1, a2, a3⟩ := h
    cases m with
    | zero => rw [h'.2 a a1] at a2; exact absurd a2 (by simp)
    | succ m =>
      obtain ⟨b, b1, b2, b3⟩ := h'
      have hWa := WF.mv hP he hW (by decide) (goes_can a2)
      have hWb := WF.mv hP he hW (by decide) (goes_can b2)
      by_cases z : a = b
      · subst z
        have := mxs_uniq hP he n hWa a3 b3
        exact ⟨by omega, this.2⟩
      · obtain ⟨g1, g2⟩ := goes_mv hP he hW a1 b1 z a2 b2
        obtain ⟨g3, -⟩ := goes_mv hP he hW b1 a1 (fun e => z e.symm) b2 a2
        have hWab := WF.mv hP he hWa (by decide) (goes_can g1)
        obtain ⟨p, G, hp⟩ := mxs_ex hP he 12 hWab (by omega)
        have u1 := mxs_uniq hP he n hWa a3 (show mxs P ec (p + 1) _ G from ⟨b, b1, g1, hp⟩)
        have hpb : mxs P ec (p + 1) (aMv P ec S b 5) G := ⟨a, a1, g3, by rw [← g2]; exact hp⟩
        have u2 := mxs_uniq hP he n (m := m) hWb (by rw [u1.1]; exact hpb) b3
        exact ⟨by omega, by rw [u1.2, u2.2]⟩
theorem mxs_ho {P : Pm} {ec : Nat} {L : Nat → Bool} (hP : okP P) (he : ec ≤ 2) : ∀ (n : Nat) {S E : St}, WF P ec L S → mxs P ec n S E → hoS E = hoS S + n ∧ WF P ec L E
  | 0, S, E, hW, h => by rw [h.1]; exact ⟨rfl, hW⟩
  | n + 1, S, E, hW, h => by
    obtain ⟨a, a1, a2, a3⟩ := h
    have := mxs_ho hP he n (WF.mv hP he hW (by decide) (goes_can a2)) a3
    rw [ho_mv5 hP hW a1 a2] at this
    exact ⟨by omega, this.2⟩
theorem mxs_step {P : Pm} {ec : Nat} {L : Nat → Bool} (hP : okP P) (he : ec ≤ 2) {n : Nat} {S E : St} (hW : WF P ec L S) (h : mxs P ec n S E) {a : Nat} (ha : a < 6) (ga : goesN P ec S a = true) : 1 ≤ n ∧ mxs P ec (n - 1) (aMv P ec S a 5) E := by
  obtain ⟨p, G, hp⟩ := mxs_ex hP he 12 (WF.mv hP he hW (by decide) (goes_can ga)) (by omega)
  have := mxs_uniq hP he n hW h (show mxs P ec (p + 1) S G from ⟨a, ha, ga, hp⟩)
  rw [this.1, this.2, Nat.add_sub_cancel]
  exact ⟨by omega, hp⟩
theorem mxs_auN {P : Pm} {ec : Nat} {L : Nat → Bool} (hP : okP P) (he : ec ≤ 2) : ∀ (f : Nat) {n : Nat} {S E : St}, WF P ec L S → mxs P ec n S E → n ≤ f → auN P ec f S = (n, E)
  | 0, n, S, E, hW, h, hf => by
    have : n = 0 := by omega
    subst this
    rw [h.1]; rfl
  | f + 1, n, S, E, hW, h, hf => by
    show (if fstG P ec S = 6 then (0, S) else _) = (n, E)
    rcases fstG_e (P := P) (ec := ec) (S := S) with ⟨q, q'⟩ | ⟨q1, q2, -⟩
    · rw [if_pos q]
      have := mxs_uniq hP he n hW h (show mxs P ec 0 S S from ⟨rfl, q'⟩)
      rw [this.1, this.2]
    · rw [if_neg (by omega)]
      obtain ⟨h1, h2⟩ := mxs_step hP he hW h q1 q2
      have ih := mxs_auN hP he f (WF.mv hP he hW (by decide) (goes_can q2)) h2 (by omega)
      rw [ih]; simp only
      rw [show n - 1 + 1 = n by omega]
theorem mxs_12 {P : Pm} {ec : Nat} {L : Nat → Bool} (hP : okP P) (he : ec ≤ 2) {n : Nat} {S E : St} (hW : WF P ec L S) (h : mxs P ec n S E) : n ≤ 12 := by
  obtain ⟨h1, h2⟩ := mxs_ho hP he n hW h
  have := ho_le hP h2
  omega
