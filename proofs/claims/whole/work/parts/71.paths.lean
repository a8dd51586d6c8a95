/-! ROWS OF MOVES, and what is asked of a solution -/
/-- a row of moves, each 8 from and to -/
def run (P : Pm) (ec : Nat) : List Nat → St → Option St
  | [], S => some S
  | m :: l, S => if canN P ec S (m / 8) (m % 8) = true then run P ec l (aMv P ec S (m / 8) (m % 8)) else none
def dnS (P : Pm) (S : St) : Prop := hoS S = pS P * pR P
theorem can_b6 {P : Pm} (hP : okP P) {ec : Nat} {S : St} {a b : Nat} (h : canN P ec S a b = true) : b < 6 := by
  obtain ⟨-, -, -, -, k5⟩ := can_nm h
  have := hP.2.2.2.2.2.2.1
  by_cases h4 : b = 4
  · omega
  · by_cases h5 : b = 5
    · omega
    · have := (k5 h4 h5).1; omega
theorem can_c48 {P : Pm} (hP : okP P) {ec : Nat} (he : ec ≤ 2) {S : St} {m : Nat} (h : canN P ec S (m / 8) (m % 8) = true) : m < 48 := by
  obtain ⟨k1, -⟩ := can_nm h
  have := WF.a6 hP he k1
  omega
theorem run_app {P : Pm} {ec : Nat} (m : Nat) : ∀ (l : List Nat) (S : St), run P ec (l ++ [m]) S = (run P ec l S).bind (fun T => if canN P ec T (m / 8) (m % 8) = true then some (aMv P ec T (m / 8) (m % 8)) else none)
  | [], S => by
    show (if canN P ec S (m / 8) (m % 8) = true then run P ec [] (aMv P ec S (m / 8) (m % 8)) else none) = _
    rfl
  | x :: l, S => by
    show (if canN P ec S (x / 8) (x % 8) = true then run P ec (l ++ [m]) (aMv P ec S (x / 8) (x % 8)) else none) = Option.bind (if canN P ec S (x / 8) (x % 8) = true then run P ec l (aMv P ec S (x / 8) (x % 8)) else none) _
    by_cases h : canN P ec S (x / 8) (x % 8) = true
    · rw [if_pos h, if_pos h, run_app m l]
    · rw [if_neg h, if_neg h]; rfl
theorem run_snoc {P : Pm} {ec m : Nat} {l : List Nat} {S T : St} (h : run P ec l S = some T) (hc : canN P ec T (m / 8) (m % 8) = true) : run P ec (l ++ [m]) S = some (aMv P ec T (m / 8) (m % 8)) := by
  rw [run_app, h]; show (if _ then _ else _) = _; rw [if_pos hc]
theorem run_unsnoc {P : Pm} {ec m : Nat} {l : List Nat} {S T : St} (h : run P ec (l ++ [m]) S = some T) : ∃ U, run P ec l S = some U ∧ canN P ec U (m / 8) (m % 8) = true ∧ T = aMv P ec U (m / 8) (m % 8) := by
  rw [run_app] at h
  cases hr : run P ec l S with
  | none => rw [hr] at h; exact absurd h (by simp)
  | some U =>
    rw [hr] at h
    have h' : (if canN P ec U (m / 8) (m % 8) = true then some (aMv P ec U (m / 8) (m % 8)) else none) = some T := h
    by_cases hc : canN P ec U (m / 8) (m % 8) = true
    · rw [if_pos hc] at h'; exact ⟨U, rfl, hc, (Option.some.inj h').symm⟩
    · rw [if_neg hc] at h'; exact absurd h' (by simp)
theorem run_fw {P : Pm} {ec : Nat} (hP : okP P) (he : ec ≤ 2) : ∀ {l : List Nat} {S T : St}, FW P ec S → run P ec l S = some T → FW P ec T
  | [], S, T, h, e => by have := Option.some.inj e; rw [← this]; exact h
  | m :: l, S, T, h, e => by
    have e' : (if canN P ec S (m / 8) (m % 8) = true then run P ec l (aMv P ec S (m / 8) (m % 8)) else none) = some T := e
    by_cases hc : canN P ec S (m / 8) (m % 8) = true
    · rw [if_pos hc] at e'
      exact run_fw hP he (WF.mv hP he h (can_b6 hP hc) hc) e'
    · rw [if_neg hc] at e'; exact absurd e' (by simp)
theorem bisim_c {P : Pm} {ec : Nat} {S S' : St} (hP : okP P) (he : ec ≤ 2) (h : FW P ec S) (h' : FW P ec S') (e : fkN S = fkN S') {m : Nat} (hc : canN P ec S (m / 8) (m % 8) = true) : ∃ m', canN P ec S' (m' / 8) (m' % 8) = true ∧ fkN (aMv P ec S (m / 8) (m % 8)) = fkN (aMv P ec S' (m' / 8) (m' % 8)) := by
  obtain ⟨a', b', q1, q2, q3⟩ := bisim hP he h h' e (can_b6 hP hc) hc
  refine ⟨8 * a' + b', ?_, ?_⟩
  · rw [show (8 * a' + b') / 8 = a' by omega, show (8 * a' + b') % 8 = b' by omega]; exact q2
  · rw [show (8 * a' + b') / 8 = a' by omega, show (8 * a' + b') % 8 = b' by omega]; exact q3
theorem bisim_run {P : Pm} {ec : Nat} (hP : okP P) (he : ec ≤ 2) : ∀ {l : List Nat} {S S' T : St}, FW P ec S → FW P ec S' → fkN S = fkN S' → run P ec l S = some T → ∃ l' T', l'.length = l.length ∧ run P ec l' S' = some T' ∧ fkN T = fkN T'
  | [], S, S', T, h, h', e, hr => ⟨[], S', rfl, rfl, by have := Option.some.inj hr; rw [← this]; exact e⟩
  | m :: l, S, S', T, h, h', e, hr => by
    have hr' : (if canN P ec S (m / 8) (m % 8) = true then run P ec l (aMv P ec S (m / 8) (m % 8)) else none) = some T := hr
    by_cases hc : canN P ec S (m / 8) (m % 8) = true
    · rw [if_pos hc] at hr'
      obtain ⟨m', q1, q2⟩ := bisim_c hP he h h' e hc
      obtain ⟨l', T', r1, r2, r3⟩ := bisim_run hP he (WF.mv hP he h (can_b6 hP hc) hc) (WF.mv hP he h' (can_b6 hP q1) q1) q2 hr'
      refine ⟨m' :: l', T', by simp [r1], ?_, r3⟩
      show (if canN P ec S' (m' / 8) (m' % 8) = true then run P ec l' (aMv P ec S' (m' / 8) (m' % 8)) else none) = some T'
      rw [if_pos q1]; exact r2
    · rw [if_neg hc] at hr'; exact absurd hr' (by simp)
theorem nd_le : ∀ (F G : List Nat), F.Nodup → (∀ x ∈ F, x ∈ G) → F.length ≤ G.length
  | [], _, _, _ => Nat.zero_le _
  | a :: F, G, hn, hs => by
    have ha : a ∈ G := hs a List.mem_cons_self
    have hn' := List.nodup_cons.mp hn
    have ih := nd_le F (G.erase a) hn'.2 (fun x hx => (List.mem_erase_of_ne (fun (e : x = a) => hn'.1 (by rw [← e]; exact hx))).mpr (hs x (List.mem_cons_of_mem _ hx)))
    have hl := List.length_erase_of_mem ha
    have := List.length_pos_of_mem ha
    simp only [List.length_cons]
    omega
-- the three answers
def solD (P : Pm) (ec : Nat) (S : St) (m d : Nat) : Prop := (∃ l T, l.length = d ∧ run P ec l S = some T ∧ dnS P T) ∧ (∀ l T, l.length < d → run P ec l S = some T → ¬ dnS P T) ∧ (d = 0 ∨ ∃ F : List Nat, F.length ≤ m ∧ ∀ l T, l.length < d → run P ec l S = some T → fkN T ∈ F)
def solN (P : Pm) (ec : Nat) (S : St) (m : Nat) : Prop := (∀ l T, run P ec l S = some T → ¬ dnS P T) ∧ ∃ F : List Nat, F.length ≤ m ∧ ∀ l T, run P ec l S = some T → fkN T ∈ F
def solX (P : Pm) (ec : Nat) (S : St) (m : Nat) : Prop := ∃ k, (∀ l T, l.length ≤ k → run P ec l S = some T → ¬ dnS P T) ∧ ∃ F : List Nat, F.Nodup ∧ m < F.length ∧ ∀ f ∈ F, ∃ l T, l.length ≤ k ∧ run P ec l S = some T ∧ fkN T = f
def slv (P : Pm) (ec : Nat) (S : St) (m : Nat) (x : Int32) : Prop := (∃ d, x = nI d ∧ d ≤ 4000 ∧ solD P ec S m d) ∨ (x = -nI 1 ∧ solN P ec S m) ∨ (x = -nI 3 ∧ solX P ec S m)
theorem slv_DD {P : Pm} {ec : Nat} {S : St} {m d e : Nat} (h : solD P ec S m d) (h' : solD P ec S m e) : d = e := by
  obtain ⟨⟨l, T, a1, a2, a3⟩, b, -⟩ := h
  obtain ⟨⟨l', T', a1', a2', a3'⟩, b', -⟩ := h'
  rcases Nat.lt_trichotomy d e with z | z | z
  · exact absurd a3 (b' l T (by omega) a2)
  · exact z
  · exact absurd a3' (b l' T' (by omega) a2')
theorem slv_DN {P : Pm} {ec : Nat} {S : St} {m d : Nat} (h : solD P ec S m d) (h' : solN P ec S m) : False := by
  obtain ⟨⟨l, T, a1, a2, a3⟩, -⟩ := h
  exact h'.1 l T a2 a3
theorem slv_DX {P : Pm} {ec : Nat} {S : St} {m d : Nat} (h : solD P ec S m d) (h' : solX P ec S m) : False := by
  obtain ⟨⟨l, T, a1, a2, a3⟩, -, c⟩ := h
  obtain ⟨k, b, F, f1, f2, f3⟩ := h'
  have hk : k < d := by
    refine Classical.byContradiction (fun z => ?_)
    exact b l T (by omega) a2 a3
  rcases c with c | ⟨G, g1, g2⟩
  · omega
  · have := nd_le F G f1 (fun x hx => by
      obtain ⟨l, T, q1, q2, q3⟩ := f3 x hx
      rw [← q3]; exact g2 l T (by omega) q2)
    omega
theorem slv_NX {P : Pm} {ec : Nat} {S : St} {m : Nat} (h : solN P ec S m) (h' : solX P ec S m) : False := by
  obtain ⟨-, G, g1, g2⟩ := h
  obtain ⟨k, b, F, f1, f2, f3⟩ := h'
  have := nd_le F G f1 (fun x hx => by
    obtain ⟨l, T, q1, q2, q3⟩ := f3 x hx
    rw [← q3]; exact g2 l T q2)
  omega
theorem slv_uniq {P : Pm} {ec : Nat} {S : St} {m : Nat} {x y : Int32} (h : slv P ec S m x) (h' : slv P ec S m y) : x = y := by
  rcases h with ⟨d, rfl, -, h⟩ | ⟨rfl, h⟩ | ⟨rfl, h⟩ <;> rcases h' with ⟨e, rfl, -, h'⟩ | ⟨rfl, h'⟩ | ⟨rfl, h'⟩
  · rw [slv_DD h h']
  · exact (slv_DN h h').elim
  · exact (slv_DX h h').elim
  · exact (slv_DN h' h).elim
  · rfl
  · exact (slv_NX h h').elim
  · exact (slv_DX h' h).elim
  · exact (slv_NX h' h).elim
  · rfl
-- the order of rows of moves
def lxlt : List Nat → List Nat → Prop
  | x :: l, y :: m => x < y ∨ (x = y ∧ lxlt l m)
  | _, _ => False
theorem lx_irr : ∀ l, ¬ lxlt l l
  | [] => fun h => h
  | x :: l => fun h => by
    rcases h with h | ⟨-, h⟩
    · omega
    · exact lx_irr l h
theorem lx_tri : ∀ l m : List Nat, l.length = m.length → l = m ∨ lxlt l m ∨ lxlt m l
  | [], [], _ => Or.inl rfl
  | [], _ :: _, h => absurd h (by simp)
  | _ :: _, [], h => absurd h (by simp)
  | x :: l, y :: m, h => by
    rcases Nat.lt_trichotomy x y with z | z | z
    · exact Or.inr (Or.inl (Or.inl z))
    · rcases lx_tri l m (by simpa using h) with q | q | q
      · exact Or.inl (by rw [z, q])
      · exact Or.inr (Or.inl (Or.inr ⟨z, q⟩))
      · exact Or.inr (Or.inr (Or.inr ⟨z.symm, q⟩))
    · exact Or.inr (Or.inr (Or.inl z))
theorem lx_asym : ∀ l m : List Nat, lxlt l m → ¬ lxlt m l
  | x :: l, y :: m, h, h' => by
    rcases h with h | ⟨e, h⟩ <;> rcases h' with h' | ⟨e', h'⟩
    · omega
    · omega
    · omega
    · exact lx_asym l m h h'
  | [], _, h, _ => h
  | _ :: _, [], h, _ => h
theorem lx_trans : ∀ l m n : List Nat, lxlt l m → lxlt m n → lxlt l n
  | x :: l, y :: m, z :: n, h, h' => by
    rcases h with h | ⟨e, h⟩ <;> rcases h' with h' | ⟨e', h'⟩
    · exact Or.inl (by omega)
    · exact Or.inl (by omega)
    · exact Or.inl (by omega)
    · exact Or.inr ⟨by omega, lx_trans l m n h h'⟩
  | [], _, _, h, _ => h.elim
  | _ :: _, [], _, h, _ => h.elim
  | _ :: _, _ :: _, [], _, h => h.elim
theorem lx_app : ∀ (l m a b : List Nat), lxlt l m → lxlt (l ++ a) (m ++ b)
  | x :: l, y :: m, a, b, h => by
    rcases h with h | ⟨e, h⟩
    · exact Or.inl h
    · exact Or.inr ⟨e, lx_app l m a b h⟩
  | [], _, _, _, h => h.elim
  | _ :: _, [], _, _, h => h.elim
theorem lx_last : ∀ (l : List Nat) {x y : Nat}, x < y → lxlt (l ++ [x]) (l ++ [y])
  | [], _, _, h => Or.inl h
  | _ :: l, _, _, h => Or.inr ⟨rfl, lx_last l h⟩
/-- the plan: the first of the shortest rows behind which all is done -/
def isPl (P : Pm) (ec : Nat) (S : St) (l : List Nat) : Prop := (∃ T, run P ec l S = some T ∧ dnS P T) ∧ (∀ l' T, l'.length < l.length → run P ec l' S = some T → ¬ dnS P T) ∧ ∀ l' T, l'.length = l.length → run P ec l' S = some T → dnS P T → ¬ lxlt l' l
theorem isPl_uniq {P : Pm} {ec : Nat} {S : St} {l l' : List Nat} (h : isPl P ec S l) (h' : isPl P ec S l') : l = l' := by
  obtain ⟨⟨T, a1, a2⟩, b, c⟩ := h
  obtain ⟨⟨T', a1', a2'⟩, b', c'⟩ := h'
  have e : l.length = l'.length := by
    rcases Nat.lt_trichotomy l.length l'.length with z | z | z
    · exact absurd a2 (b' l T z a1)
    · exact z
    · exact absurd a2' (b l' T' z a1')
  rcases lx_tri l l' e with q | q | q
  · exact q
  · exact absurd q (c' l T e a1 a2)
  · exact absurd q (c l' T' e.symm a1' a2')
