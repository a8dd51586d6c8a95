/-! THE SEARCH, LEVEL BY LEVEL -/
/-- which moves of this level have been tried -/
def trd (i c j x : Nat) : Prop := j < i ∨ (j = i ∧ x < c)
/-- n stands R are known, the first hi of them of levels below d (from lo on: of level d - 1), the rest of level d; the moves ahead of the move c of the stand i have been tried; sp: there was no room for a new one -/
def BJ (P : Pm) (ec : Nat) (S0 : St) (m d lo hi i c n : Nat) (R : Nat → St) (lv : Nat → Nat) (sp : Bool) : Prop :=
  (lo ≤ i ∧ i ≤ hi ∧ hi ≤ n ∧ n ≤ m ∧ 1 ≤ d) ∧
  (∀ j, j < n → FW P ec (R j) ∧ ¬ dnS P (R j) ∧ ∃ l T, l.length = lv j ∧ run P ec l S0 = some T ∧ fkN T = fkN (R j)) ∧
  (∀ j, j < n → (j < lo → lv j + 1 < d) ∧ (lo ≤ j → j < hi → lv j + 1 = d) ∧ (hi ≤ j → lv j = d)) ∧
  (∀ j k, j < n → k < n → fkN (R j) = fkN (R k) → j = k) ∧
  (∀ l T, l.length < d → run P ec l S0 = some T → ∃ j, j < hi ∧ fkN (R j) = fkN T ∧ lv j ≤ l.length) ∧
  (∀ j x, lo ≤ j → j < hi → trd i c j x → canN P ec (R j) (x / 8) (x % 8) = true → ¬ dnS P (aMv P ec (R j) (x / 8) (x % 8)) ∧ (sp = true ∨ ∃ k, k < n ∧ fkN (R k) = fkN (aMv P ec (R j) (x / 8) (x % 8)))) ∧
  (sp = true → m ≤ n ∧ ∃ l T, l.length ≤ d ∧ run P ec l S0 = some T ∧ ∀ k, k < n → fkN (R k) ≠ fkN T)
theorem BJ.init {P : Pm} {ec : Nat} {S0 S : St} {m : Nat} {R : Nat → St} {lv : Nat → Nat} (hm : 1 ≤ m) (hF : FW P ec S) (hd : ¬ dnS P S) (hR : R 0 = S) (hk : fkN S = fkN S0) (hl : lv 0 = 0) : BJ P ec S0 m 1 0 1 0 0 1 R lv false := by
  refine ⟨⟨by omega, by omega, by omega, hm, by omega⟩, fun j hj => ?_, fun j hj => ?_, fun j k hj hk _ => by omega, fun l T h1 h2 => ?_, fun j x _ _ h => ?_, fun h => absurd h (by simp)⟩
  · have : j = 0 := by omega
    subst this
    rw [hR, hl]
    exact ⟨hF, hd, [], S0, rfl, rfl, hk.symm⟩
  · have : j = 0 := by omega
    subst this
    rw [hl]
    exact ⟨fun h => by omega, fun _ _ => rfl, fun h => by omega⟩
  · have e : l = [] := List.length_eq_zero_iff.mp (by omega)
    subst e
    have := Option.some.inj h2
    exact ⟨0, by omega, by rw [hR, hk, this], by omega⟩
  · rcases h with h | h <;> omega
/-- moves that can't be are passed over -/
theorem BJ.skip {P : Pm} {ec : Nat} {S0 : St} {m d lo hi i c n : Nat} {R : Nat → St} {lv : Nat → Nat} {sp : Bool} (h : BJ P ec S0 m d lo hi i c n R lv sp) {c' : Nat} (hc : ∀ x, c ≤ x → x < c' → canN P ec (R i) (x / 8) (x % 8) = false) : BJ P ec S0 m d lo hi i c' n R lv sp := by
  obtain ⟨a, b, b2, e, f, g, k⟩ := h
  refine ⟨a, b, b2, e, f, fun j x h1 h2 h3 h4 => ?_, k⟩
  rcases h3 with h3 | ⟨h3, h5⟩
  · exact g j x h1 h2 (Or.inl h3) h4
  · rcases Nat.lt_or_ge x c with q | q
    · exact g j x h1 h2 (Or.inr ⟨h3, q⟩) h4
    · subst h3; rw [hc x q h5] at h4; exact absurd h4 (by simp)
theorem BJ.old {P : Pm} {ec : Nat} {S0 : St} {m d lo hi i c n : Nat} {R : Nat → St} {lv : Nat → Nat} {sp : Bool} (h : BJ P ec S0 m d lo hi i c n R lv sp) (hd : ¬ dnS P (aMv P ec (R i) (c / 8) (c % 8))) (ho : sp = true ∨ ∃ k, k < n ∧ fkN (R k) = fkN (aMv P ec (R i) (c / 8) (c % 8))) : BJ P ec S0 m d lo hi i (c + 1) n R lv sp := by
  obtain ⟨a, b, b2, e, f, g, k⟩ := h
  refine ⟨a, b, b2, e, f, fun j x h1 h2 h3 h4 => ?_, k⟩
  rcases h3 with h3 | ⟨h3, h5⟩
  · exact g j x h1 h2 (Or.inl h3) h4
  · rcases Nat.lt_or_ge x c with q | q
    · exact g j x h1 h2 (Or.inr ⟨h3, q⟩) h4
    · have : x = c := by omega
      subst this; subst h3
      exact ⟨hd, ho⟩
theorem BJ.path {P : Pm} {ec : Nat} {S0 : St} {m d lo hi i c n : Nat} {R : Nat → St} {lv : Nat → Nat} {sp : Bool} (hP : okP P) (he : ec ≤ 2) (h0 : FW P ec S0) (h : BJ P ec S0 m d lo hi i c n R lv sp) {j x : Nat} (hj : j < n) (hc : canN P ec (R j) (x / 8) (x % 8) = true) : ∃ l T, l.length = lv j + 1 ∧ run P ec l S0 = some T ∧ fkN T = fkN (aMv P ec (R j) (x / 8) (x % 8)) := by
  obtain ⟨q1, q2, l, T, q3, q4, q5⟩ := h.2.1 j hj
  obtain ⟨x', y1, y2⟩ := bisim_c hP he q1 (run_fw hP he h0 q4) q5.symm hc
  exact ⟨l ++ [x'], _, by simp [q3], run_snoc q4 y1, y2.symm⟩
theorem BJ.full {P : Pm} {ec : Nat} {S0 : St} {m d lo hi i c n : Nat} {R : Nat → St} {lv : Nat → Nat} {sp : Bool} (hP : okP P) (he : ec ≤ 2) (h0 : FW P ec S0) (h : BJ P ec S0 m d lo hi i c n R lv sp) (hi' : i < hi) (hc : canN P ec (R i) (c / 8) (c % 8) = true) (hd : ¬ dnS P (aMv P ec (R i) (c / 8) (c % 8))) (hn : m ≤ n) (ho : ∀ k, k < n → fkN (R k) ≠ fkN (aMv P ec (R i) (c / 8) (c % 8))) : BJ P ec S0 m d lo hi i (c + 1) n R lv true := by
  have hp := h.path hP he h0 (show i < n by have := h.1; omega) hc
  obtain ⟨a, b, b2, e, f, g, k⟩ := h
  have hl := (b2 i (by omega)).2.1 (by omega) hi'
  refine ⟨a, b, b2, e, f, fun j x h1 h2 h3 h4 => ?_, fun _ => ⟨hn, ?_⟩⟩
  · rcases h3 with h3 | ⟨h3, h5⟩
    · exact ⟨(g j x h1 h2 (Or.inl h3) h4).1, Or.inl rfl⟩
    · rcases Nat.lt_or_ge x c with q | q
      · exact ⟨(g j x h1 h2 (Or.inr ⟨h3, q⟩) h4).1, Or.inl rfl⟩
      · have : x = c := by omega
        subst this; subst h3
        exact ⟨hd, Or.inl rfl⟩
  · obtain ⟨l, T, r1, r2, r3⟩ := hp
    exact ⟨l, T, by omega, r2, fun k hk => by rw [r3]; exact ho k hk⟩
theorem BJ.new {P : Pm} {ec : Nat} {S0 : St} {m d lo hi i c n : Nat} {R R' : Nat → St} {lv lv' : Nat → Nat} {T : St} (hP : okP P) (he : ec ≤ 2) (h0 : FW P ec S0) (h : BJ P ec S0 m d lo hi i c n R lv false) (hi' : i < hi) (hc : canN P ec (R i) (c / 8) (c % 8) = true) (hd : ¬ dnS P (aMv P ec (R i) (c / 8) (c % 8))) (hn : n < m) (ho : ∀ k, k < n → fkN (R k) ≠ fkN (aMv P ec (R i) (c / 8) (c % 8))) (hT : FW P ec T) (hTk : fkN T = fkN (aMv P ec (R i) (c / 8) (c % 8))) (hR : ∀ j, j < n → R' j = R j) (hRn : R' n = T) (hv : ∀ j, j < n → lv' j = lv j) (hvn : lv' n = d) : BJ P ec S0 m d lo hi i (c + 1) (n + 1) R' lv' false := by
  have hp := h.path hP he h0 (show i < n by have := h.1; omega) hc
  obtain ⟨a, b, b2, e, f, g, k⟩ := h
  have hl := (b2 i (by omega)).2.1 (by omega) hi'
  have hFi := (b i (by omega)).1
  refine ⟨by omega, fun j hj => ?_, fun j hj => ?_, fun j k' hj hk hjk => ?_, fun l T h1 h2 => ?_, fun j x h1 h2 h3 h4 => ?_, fun z => absurd z (by simp)⟩
  · by_cases z : j = n
    · subst z
      rw [hRn, hvn]
      refine ⟨hT, ?_, ?_⟩
      · intro q; apply hd
        unfold dnS at q ⊢
        rw [← q]; exact (like_done hP hT (WF.mv hP he hFi (can_b6 hP hc) hc) hTk).symm
      · obtain ⟨l, U, r1, r2, r3⟩ := hp
        exact ⟨l, U, by omega, r2, by rw [r3, hTk]⟩
    · rw [hR j (by omega), hv j (by omega)]; exact b j (by omega)
  · by_cases z : j = n
    · subst z; rw [hvn]; exact ⟨fun q => by omega, fun _ q => by omega, fun _ => rfl⟩
    · rw [hv j (by omega)]; exact b2 j (by omega)
  · by_cases z : j = n
    · by_cases y : k' = n
      · omega
      · rw [z, hRn, hR k' (by omega), hTk] at hjk; exact absurd hjk.symm (ho k' (by omega))
    · by_cases y : k' = n
      · rw [y, hRn, hR j (by omega), hTk] at hjk; exact absurd hjk (ho j (by omega))
      · rw [hR j (by omega), hR k' (by omega)] at hjk; exact e j k' (by omega) (by omega) hjk
  · obtain ⟨j, q1, q2, q3⟩ := f l T h1 h2
    exact ⟨j, q1, by rw [hR j (by omega)]; exact q2, by rw [hv j (by omega)]; exact q3⟩
  · rw [hR j (by omega)] at h4 ⊢
    have old : trd i c j x → ¬ dnS P (aMv P ec (R j) (x / 8) (x % 8)) ∧ (false = true ∨ ∃ k, k < n + 1 ∧ fkN (R' k) = fkN (aMv P ec (R j) (x / 8) (x % 8))) := fun ht => by
      obtain ⟨r1, r2⟩ := g j x h1 h2 ht h4
      refine ⟨r1, r2.imp id (fun ⟨k, s1, s2⟩ => ⟨k, by omega, by rw [hR k s1]; exact s2⟩)⟩
    rcases h3 with h3 | ⟨h3, h5⟩
    · exact old (Or.inl h3)
    · rcases Nat.lt_or_ge x c with q | q
      · exact old (Or.inr ⟨h3, q⟩)
      · have : x = c := by omega
        subst this; subst h3
        exact ⟨hd, Or.inr ⟨n, by omega, by rw [hRn, hTk]⟩⟩
theorem BJ.next {P : Pm} {ec : Nat} {S0 : St} {m d lo hi i c n : Nat} {R : Nat → St} {lv : Nat → Nat} {sp : Bool} (hP : okP P) (he : ec ≤ 2) (h : BJ P ec S0 m d lo hi i c n R lv sp) (hc : 48 ≤ c) (hi' : i < hi) : BJ P ec S0 m d lo hi (i + 1) 0 n R lv sp := by
  obtain ⟨a, b, b2, e, f, g, k⟩ := h
  refine ⟨by omega, b, b2, e, f, fun j x h1 h2 h3 h4 => ?_, k⟩
  rcases h3 with h3 | h3
  · by_cases z : j = i
    · exact g j x h1 h2 (Or.inr ⟨z, by have := can_c48 hP he h4; omega⟩) h4
    · exact g j x h1 h2 (Or.inl (by omega)) h4
  · omega
/-- a stand that a row of d moves comes to -/
theorem BJ.cover {P : Pm} {ec : Nat} {S0 : St} {m d lo hi n : Nat} {R : Nat → St} {lv : Nat → Nat} {sp : Bool} (hP : okP P) (he : ec ≤ 2) (h0 : FW P ec S0) (h : BJ P ec S0 m d lo hi hi 0 n R lv sp) {l : List Nat} {T : St} (hl : l.length ≤ d) (hr : run P ec l S0 = some T) : ¬ dnS P T ∧ (sp = true ∨ ∃ k, k < n ∧ fkN (R k) = fkN T ∧ lv k ≤ l.length) := by
  have hc := h
  obtain ⟨a, b, b2, e, f, g, k⟩ := h
  have nd : ∀ l T, l.length < d → run P ec l S0 = some T → ¬ dnS P T := fun l T h1 h2 q => by
    obtain ⟨j, q1, q2, q3⟩ := f l T h1 h2
    obtain ⟨r1, r2, -⟩ := b j (by omega)
    apply r2
    unfold dnS at q ⊢
    rw [← q]; exact like_done hP r1 (run_fw hP he h0 h2) q2
  rcases Nat.lt_or_ge l.length d with z | z
  · refine ⟨nd l T z hr, Or.inr ?_⟩
    obtain ⟨j, q1, q2, q3⟩ := f l T z hr
    exact ⟨j, by omega, q2, q3⟩
  · rcases List.eq_nil_or_concat l with q | ⟨l', x, q⟩
    · subst q; simp at z; omega
    · rw [List.concat_eq_append] at q
      subst q
      have hl' : l'.length + 1 = d := by simp at hl z; omega
      obtain ⟨U, u1, u2, u3⟩ := run_unsnoc hr
      obtain ⟨j, j1, j2, j3⟩ := f l' U (by omega) u1
      obtain ⟨r1, r2, -⟩ := b j (by omega)
      have hFU := run_fw hP he h0 u1
      obtain ⟨x', y1, y2⟩ := bisim_c hP he hFU r1 j2.symm u2
      rcases Nat.lt_or_ge j lo with w | w
      · -- an elder one: its moves come to stands that are met below d
        have hlv := (b2 j (by omega)).1 w
        obtain ⟨l2, T2, p1, p2, p3⟩ := hc.path hP he h0 (show j < n by omega) y1
        obtain ⟨k, k1, k2, k3⟩ := f l2 T2 (by omega) p2
        have e3 : fkN (R k) = fkN T := by rw [k2, p3, ← y2, u3]
        have hk := b k (by omega)
        refine ⟨fun q => hk.2.1 ?_, Or.inr ⟨k, by omega, e3, by simp; omega⟩⟩
        unfold dnS at q ⊢
        rw [← q]; exact like_done hP hk.1 (run_fw hP he h0 hr) e3
      · have hlv := (b2 j (by omega)).2.1 w j1
        obtain ⟨g1, g2⟩ := g j x' w j1 (Or.inl j1) y1
        have hF2 := WF.mv hP he r1 (can_b6 hP y1) y1
        have e2 : fkN (aMv P ec (R j) (x' / 8) (x' % 8)) = fkN T := by rw [← y2, u3]
        refine ⟨fun q => g1 ?_, g2.imp id (fun ⟨k, k1, k2⟩ => ⟨k, k1, by rw [k2, e2], ?_⟩)⟩
        · unfold dnS at q ⊢
          rw [← q]; exact like_done hP hF2 (run_fw hP he h0 hr) e2
        · have := b2 k k1
          simp only [List.length_append, List.length_singleton]
          rcases Nat.lt_or_ge k hi with s | s
          · rcases Nat.lt_or_ge k lo with t | t
            · have := this.1 t; omega
            · have := this.2.1 t s; omega
          · have := this.2.2 s; omega
theorem BJ.level {P : Pm} {ec : Nat} {S0 : St} {m d lo hi n : Nat} {R : Nat → St} {lv : Nat → Nat} (hP : okP P) (he : ec ≤ 2) (h0 : FW P ec S0) (h : BJ P ec S0 m d lo hi hi 0 n R lv false) : BJ P ec S0 m (d + 1) hi n hi 0 n R lv false := by
  have hcv := fun l T (h1 : List.length l ≤ d) (h2 : run P ec l S0 = some T) => h.cover hP he h0 h1 h2
  obtain ⟨a, b, b2, e, f, g, k⟩ := h
  refine ⟨by omega, b, fun j hj => ?_, e, fun l T h1 h2 => ?_, fun j x h1 h2 h3 => ?_, fun z => absurd z (by simp)⟩
  · obtain ⟨q1, q2, q3⟩ := b2 j hj
    refine ⟨fun z => ?_, fun z _ => by have := q3 z; omega, fun z => by omega⟩
    rcases Nat.lt_or_ge j lo with w | w
    · have := q1 w; omega
    · have := q2 w z; omega
  · obtain ⟨-, q⟩ := hcv l T (by omega) h2
    rcases q with q | ⟨k, k1, k2, k3⟩
    · exact absurd q (by simp)
    · exact ⟨k, k1, k2, k3⟩
  · rcases h3 with h3 | h3 <;> omega
theorem BJ.spent {P : Pm} {ec : Nat} {S0 : St} {m d lo hi n : Nat} {R : Nat → St} {lv : Nat → Nat} (hP : okP P) (he : ec ≤ 2) (h0 : FW P ec S0) (h : BJ P ec S0 m d lo hi hi 0 n R lv true) : solX P ec S0 m := by
  have hcv := fun l T (h1 : List.length l ≤ d) (h2 : run P ec l S0 = some T) => (h.cover hP he h0 h1 h2).1
  obtain ⟨a, b, b2, e, f, g, k⟩ := h
  obtain ⟨k1, l, T, k2, k3, k4⟩ := k rfl
  refine ⟨d, hcv, fkN T :: (List.range n).map (fun j => fkN (R j)), ?_, by simp; omega, fun x hx => ?_⟩
  · refine List.nodup_cons.mpr ⟨fun hm => ?_, ?_⟩
    · obtain ⟨j, j1, j2⟩ := List.mem_map.mp hm
      exact k4 j (List.mem_range.mp j1) j2
    · rw [List.nodup_iff_pairwise_ne, List.pairwise_map]
      have := List.nodup_range (n := n)
      rw [List.nodup_iff_pairwise_ne] at this
      refine this.imp_of_mem (fun {i j} hi hj hne q => hne ?_)
      exact e i j (List.mem_range.mp hi) (List.mem_range.mp hj) q
  · rcases List.mem_cons.mp hx with z | z
    · exact ⟨l, T, k2, k3, z.symm⟩
    · obtain ⟨j, j1, j2⟩ := List.mem_map.mp z
      rw [List.mem_range] at j1
      obtain ⟨-, -, l', T', r1, r2, r3⟩ := b j j1
      refine ⟨l', T', ?_, r2, by rw [r3]; exact j2⟩
      obtain ⟨q1, q2, q3⟩ := b2 j j1
      rcases Nat.lt_or_ge j hi with s | s
      · rcases Nat.lt_or_ge j lo with t | t
        · have := q1 t; omega
        · have := q2 t s; omega
      · have := q3 s; omega
theorem BJ.covN {P : Pm} {ec : Nat} {S0 : St} {m d lo hi i c n : Nat} {R : Nat → St} {lv : Nat → Nat} {sp : Bool} (hP : okP P) (he : ec ≤ 2) (h0 : FW P ec S0) (h : BJ P ec S0 m d lo hi i c n R lv sp) : (∀ l T, l.length < d → run P ec l S0 = some T → ¬ dnS P T) ∧ ∃ F : List Nat, F.length ≤ m ∧ ∀ l T, l.length < d → run P ec l S0 = some T → fkN T ∈ F := by
  obtain ⟨a, b, b2, e, f, g, k⟩ := h
  refine ⟨fun l T h1 h2 q => ?_, (List.range n).map (fun j => fkN (R j)), by simp; omega, fun l T h1 h2 => ?_⟩
  · obtain ⟨j, q1, q2, q3⟩ := f l T h1 h2
    obtain ⟨r1, r2, -⟩ := b j (by omega)
    apply r2
    unfold dnS at q ⊢
    rw [← q]; exact like_done hP r1 (run_fw hP he h0 h2) q2
  · obtain ⟨j, q1, q2, q3⟩ := f l T h1 h2
    exact List.mem_map.mpr ⟨j, List.mem_range.mpr (by omega), q2⟩
theorem BJ.none {P : Pm} {ec : Nat} {S0 : St} {m d lo hi : Nat} {R : Nat → St} {lv : Nat → Nat} (hP : okP P) (he : ec ≤ 2) (h0 : FW P ec S0) (h : BJ P ec S0 m d lo hi hi 0 hi R lv false) : solN P ec S0 m := by
  -- the next levels are empty
  have hall : ∀ k, ∃ lo, BJ P ec S0 m (d + k) lo hi hi 0 hi R lv false := by
    intro k
    induction k with
    | zero => exact ⟨lo, h⟩
    | succ k ih => obtain ⟨lo', h'⟩ := ih; exact ⟨hi, h'.level hP he h0⟩
  refine ⟨fun l T hr => ?_, (List.range hi).map (fun j => fkN (R j)), by have := h.1; simp; omega, fun l T hr => ?_⟩
  · obtain ⟨lo', h'⟩ := hall l.length
    exact (h'.covN hP he h0).1 l T (by have := h.1; omega) hr
  · obtain ⟨lo', h'⟩ := hall l.length
    obtain ⟨j, q1, q2, q3⟩ := h'.2.2.2.2.1 l T (by have := h.1; omega) hr
    exact List.mem_map.mpr ⟨j, List.mem_range.mpr q1, q2⟩
theorem BJ.found {P : Pm} {ec : Nat} {S0 : St} {m d lo hi i c n : Nat} {R : Nat → St} {lv : Nat → Nat} {sp : Bool} (hP : okP P) (he : ec ≤ 2) (h0 : FW P ec S0) (h : BJ P ec S0 m d lo hi i c n R lv sp) (hi' : i < hi) (hc : canN P ec (R i) (c / 8) (c % 8) = true) (hd : dnS P (aMv P ec (R i) (c / 8) (c % 8))) : solD P ec S0 m d := by
  obtain ⟨l, T, r1, r2, r3⟩ := h.path hP he h0 (show i < n by have := h.1; omega) hc
  obtain ⟨c1, c2⟩ := h.covN hP he h0
  have hb := h.2.1 i (by have := h.1; omega)
  have hl := (h.2.2.1 i (by have := h.1; omega)).2.1 (by have := h.1; omega) hi'
  refine ⟨⟨l, T, by omega, r2, ?_⟩, c1, Or.inr c2⟩
  unfold dnS at hd ⊢
  rw [← hd]; exact like_done hP (run_fw hP he h0 r2) (WF.mv hP he hb.1 (can_b6 hP hc) hc) r3
/-- there are at least d stands when level d begins -/
theorem BJ.ge {P : Pm} {ec : Nat} {S0 : St} {m d lo hi i c n : Nat} {R : Nat → St} {lv : Nat → Nat} {sp : Bool} (h : BJ P ec S0 m d lo hi i c n R lv sp) (hh : d ≤ hi) : d ≤ m := by have := h.1; omega
