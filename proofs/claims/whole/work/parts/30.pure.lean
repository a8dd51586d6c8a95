/-! CARDS, LAWS, STANDS: the mathematics that both sides are tied to. A card is a number 1 .. s * r; 0 is none. -/
/-- suits, ranks, columns, cells, law -/
abbrev Pm : Type := Nat × Nat × Nat × Nat × Nat
abbrev pS (P : Pm) : Nat := P.1
abbrev pR (P : Pm) : Nat := P.2.1
abbrev pC (P : Pm) : Nat := P.2.2.1
abbrev pE (P : Pm) : Nat := P.2.2.2.1
abbrev pL (P : Pm) : Nat := P.2.2.2.2
def okP (P : Pm) : Prop := 1 ≤ pS P ∧ pS P ≤ 4 ∧ 1 ≤ pR P ∧ pR P ≤ 6 ∧ pS P * pR P ≤ 12 ∧ 1 ≤ pC P ∧ pC P ≤ 4 ∧ pE P ≤ 2 ∧ pL P ≤ 4
def su (r n : Nat) : Nat := (n - 1) / r
def ra (r n : Nat) : Nat := (n - 1) % r + 1
/-- the card onto the other, or onto an empty column (0) -/
def letF (P : Pm) (n o : Nat) : Bool :=
  if o = 0 then (!decide (pL P = 4) || decide (ra (pR P) n = pR P))
  else if pL P = 1 then decide (ra (pR P) o = ra (pR P) n + 1) && decide (su (pR P) o = su (pR P) n)
  else if pL P = 3 then decide (su (pR P) o = su (pR P) n) && (decide (ra (pR P) o = ra (pR P) n + 1) || (decide (1 < pR P) && decide (ra (pR P) n = pR P) && decide (ra (pR P) o = 1)))
  else if pL P = 2 ∨ pL P = 4 then decide (ra (pR P) o = ra (pR P) n + 1) && !decide (su (pR P) n % 2 = su (pR P) o % 2)
  else decide (ra (pR P) o = ra (pR P) n + 1)
theorem su_lt {s r n : Nat} (hr : 1 ≤ r) (h1 : 1 ≤ n) (h2 : n ≤ s * r) : su r n < s := by
  unfold su
  rw [Nat.div_lt_iff_lt_mul (by omega)]; omega
theorem ra_le {r n : Nat} (hr : 1 ≤ r) : ra r n ≤ r := by
  unfold ra; have := Nat.mod_lt (n - 1) (show r > 0 by omega); omega
theorem ra_ge {r n : Nat} : 1 ≤ ra r n := by unfold ra; omega
theorem su_ra {r n : Nat} (h1 : 1 ≤ n) : su r n * r + ra r n = n := by
  unfold su ra; have := Nat.div_add_mod (n - 1) r; rw [Nat.mul_comm] at this; omega
theorem su_of {r s k : Nat} (h1 : 1 ≤ k) (h2 : k ≤ r) : su r (s * r + k) = s := by
  unfold su
  rw [show s * r + k - 1 = (k - 1) + s * r by omega, Nat.add_mul_div_right _ _ (by omega), Nat.div_eq_of_lt (by omega)]; omega
theorem ra_of {r s k : Nat} (h1 : 1 ≤ k) (h2 : k ≤ r) : ra r (s * r + k) = k := by
  unfold ra
  rw [show s * r + k - 1 = (k - 1) + s * r by omega, Nat.add_mul_mod_self_right, Nat.mod_eq_of_lt (by omega)]; omega
theorem card_le {s r a k : Nat} (ha : a < s) (h2 : k ≤ r) : a * r + k ≤ s * r := by
  have : (a + 1) * r ≤ s * r := Nat.mul_le_mul_right r ha
  rw [Nat.succ_mul] at this; omega
theorem card_inj {r n o : Nat} (h1 : 1 ≤ n) (h2 : 1 ≤ o) (hs : su r n = su r o) (hr : ra r n = ra r o) : n = o := by
  rw [← su_ra (r := r) h1, ← su_ra (r := r) h2, hs, hr]
/-- columns, cells, houses -/
abbrev St : Type := (Nat → List Nat) × (Nat → Nat) × (Nat → Nat)
def up {α : Type} (f : Nat → α) (i : Nat) (v : α) : Nat → α := fun j => if j = i then v else f j
theorem up_s {α : Type} (f : Nat → α) (i : Nat) (v : α) : up f i v i = v := by simp [up]
theorem up_n {α : Type} (f : Nat → α) {i j : Nat} (v : α) (h : j ≠ i) : up f i v j = f j := by simp [up, h]
theorem rev_ind {motive : List Nat → Prop} (nil : motive []) (snoc : ∀ l d, motive l → motive (l ++ [d])) (l : List Nat) : motive l := by
  have h : ∀ l : List Nat, motive l.reverse := by
    intro l
    induction l with
    | nil => exact nil
    | cons d l ih => rw [List.reverse_cons]; exact snoc _ d ih
  have := h l.reverse
  rwa [List.reverse_reverse] at this
/-- the digits of a column, four bits a card, the last one lowest -/
def pq (l : List Nat) : Nat := l.foldl (fun a d => 16 * a + d) 0
theorem pq_nil : pq [] = 0 := rfl
theorem pq_app (l : List Nat) (d : Nat) : pq (l ++ [d]) = 16 * pq l + d := by simp [pq]
theorem pq_fold (l : List Nat) : ∀ a, l.foldl (fun a d => 16 * a + d) a = a * 16 ^ l.length + pq l := by
  induction l with
  | nil => intro a; simp [pq]
  | cons d l ih =>
    intro a
    show l.foldl _ (16 * a + d) = a * 16 ^ (l.length + 1) + l.foldl _ (16 * 0 + d)
    rw [ih, ih (16 * 0 + d), Nat.pow_succ, Nat.add_mul, Nat.add_mul]
    have : 16 * a * 16 ^ l.length = a * (16 ^ l.length * 16) := by rw [Nat.mul_comm 16 a, Nat.mul_assoc, Nat.mul_comm 16]
    omega
theorem pq_append (l m : List Nat) : pq (l ++ m) = pq l * 16 ^ m.length + pq m := by
  unfold pq; rw [List.foldl_append]; exact pq_fold m _
theorem pq_lt {l : List Nat} (h : ∀ d ∈ l, d < 16) : pq l < 16 ^ l.length := by
  induction l using rev_ind with
  | nil => simp [pq]
  | snoc l d ih =>
    rw [pq_app, List.length_append, List.length_singleton, Nat.pow_succ]
    have h1 := ih (fun x hx => h x (List.mem_append_left _ hx))
    have h2 := h d (by simp)
    omega
/-- the last card of a column, or 0 -/
def lastC (l : List Nat) : Nat := l.getLast?.getD 0
theorem lastC_pq {l : List Nat} (h : ∀ d ∈ l, d < 16) : pq l % 16 = lastC l := by
  induction l using rev_ind with
  | nil => rfl
  | snoc l d ih =>
    have h2 := h d (by simp)
    rw [pq_app]; simp [lastC]; omega
theorem dropLast_pq {l : List Nat} (h : ∀ d ∈ l, d < 16) : pq l / 16 = pq l.dropLast := by
  induction l using rev_ind with
  | nil => rfl
  | snoc l d ih =>
    have h2 := h d (by simp)
    rw [pq_app]; simp; omega
theorem lastC_0 {l : List Nat} (h : ∀ d ∈ l, 1 ≤ d) : lastC l = 0 ↔ l = [] := by
  induction l using rev_ind with
  | nil => simp [lastC]
  | snoc l d ih =>
    have h2 := h d (by simp)
    simp [lastC]; omega
theorem pq_take {l : List Nat} (h : ∀ d ∈ l, d < 16) {n : Nat} (hn : n ≤ l.length) : pq l / 16 ^ n = pq (l.take (l.length - n)) := by
  have e : l = l.take (l.length - n) ++ l.drop (l.length - n) := (List.take_append_drop _ _).symm
  have hl : (l.drop (l.length - n)).length = n := by rw [List.length_drop]; omega
  have hd : pq (l.drop (l.length - n)) < 16 ^ n := by
    have := pq_lt (l := l.drop (l.length - n)) (fun d hd => h d (List.mem_of_mem_drop hd))
    rwa [hl] at this
  conv => lhs; rw [e, pq_append, hl]
  rw [Nat.add_comm, Nat.add_mul_div_right _ _ (Nat.pow_pos (by omega)), Nat.div_eq_of_lt hd]; omega
theorem pq_drop {l : List Nat} (h : ∀ d ∈ l, d < 16) {n : Nat} (hn : n ≤ l.length) : pq l % 16 ^ n = pq (l.drop (l.length - n)) := by
  have e : l = l.take (l.length - n) ++ l.drop (l.length - n) := (List.take_append_drop _ _).symm
  have hl : (l.drop (l.length - n)).length = n := by rw [List.length_drop]; omega
  have hd : pq (l.drop (l.length - n)) < 16 ^ n := by
    have := pq_lt (l := l.drop (l.length - n)) (fun d hd => h d (List.mem_of_mem_drop hd))
    rwa [hl] at this
  conv => lhs; rw [e, pq_append, hl]
  rw [Nat.add_comm, Nat.add_mul_mod_self_right, Nat.mod_eq_of_lt hd]
theorem pq_at {l : List Nat} (h : ∀ d ∈ l, d < 16) {i : Nat} (hi : i < l.length) : pq l / 16 ^ (l.length - 1 - i) % 16 = l.getD i 0 := by
  rw [pq_take h (by omega), lastC_pq (fun d hd => h d (List.mem_of_mem_take hd))]
  have e : l.length - (l.length - 1 - i) = i + 1 := by omega
  rw [e]
  simp [lastC, List.getLast?_take, hi]
theorem pq_inj {l m : List Nat} (hl : ∀ d ∈ l, 1 ≤ d ∧ d < 16) (hm : ∀ d ∈ m, 1 ≤ d ∧ d < 16) (h : pq l = pq m) : l = m := by
  induction l using rev_ind generalizing m with
  | nil =>
    cases m using rev_ind with
    | nil => rfl
    | snoc m d => rw [pq_app, pq_nil] at h; have := hm d (by simp); omega
  | snoc l d ih =>
    cases m using rev_ind with
    | nil => rw [pq_app, pq_nil] at h; have := hl d (by simp); omega
    | snoc m e =>
      rw [pq_app, pq_app] at h
      have h1 := hl d (by simp)
      have h2 := hm e (by simp)
      have e1 : d = e := by omega
      have e2 : pq l = pq m := by omega
      rw [ih (fun x hx => hl x (List.mem_append_left _ hx)) (fun x hx => hm x (List.mem_append_left _ hx)) e2, e1]
