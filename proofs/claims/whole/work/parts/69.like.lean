/-! STANDS THAT ARE LIKE: one form -/
theorem leN_split : ∀ (c c' r r' : List Nat), (∀ d ∈ c, 1 ≤ d ∧ d < 16) → (∀ d ∈ c', 1 ≤ d ∧ d < 16) → leN (c ++ 0 :: r) = leN (c' ++ 0 :: r') → c = c' ∧ leN r = leN r'
  | [], [], r, r', _, _, h => by
    refine ⟨rfl, ?_⟩
    have h' : 0 + 16 * leN r = 0 + 16 * leN r' := h
    omega
  | [], d :: c', r, r', _, h2, h => by
    have h' : 0 + 16 * leN r = d + 16 * leN (c' ++ 0 :: r') := h
    have := h2 d List.mem_cons_self
    omega
  | d :: c, [], r, r', h1, _, h => by
    have h' : d + 16 * leN (c ++ 0 :: r) = 0 + 16 * leN r' := h
    have := h1 d List.mem_cons_self
    omega
  | d :: c, e :: c', r, r', h1, h2, h => by
    have h' : d + 16 * leN (c ++ 0 :: r) = e + 16 * leN (c' ++ 0 :: r') := h
    have q1 := h1 d List.mem_cons_self
    have q2 := h2 e List.mem_cons_self
    have ih := leN_split c c' r r' (fun x hx => h1 x (List.mem_cons_of_mem _ hx)) (fun x hx => h2 x (List.mem_cons_of_mem _ hx)) (by omega)
    rw [show d = e by omega, ih.1]
    exact ⟨rfl, ih.2⟩
theorem okS.dg {S : St} (h : okS S) {i : Nat} (hi : i < 4) : ∀ d ∈ (S.1 i).reverse, 1 ≤ d ∧ d < 16 := fun d hd => by
  have := (h.1 i hi).2 d (List.mem_reverse.mp hd); omega
theorem fk_inj {S S' : St} (h : okS S) (h' : okS S') (e : fkN S = fkN S') : (∀ j, j < 4 → S.1 (sg S j) = S'.1 (sg S' j)) ∧ max (S.2.1 0) (S.2.1 1) = max (S'.2.1 0) (S'.2.1 1) ∧ min (S.2.1 0) (S.2.1 1) = min (S'.2.1 0) (S'.2.1 1) := by
  have c0 := h.2.1 0 (by decide)
  have c1 := h.2.1 1 (by decide)
  have c0' := h'.2.1 0 (by decide)
  have c1' := h'.2.1 1 (by decide)
  have e0 : leN (DR S 0) = leN (DR S' 0) := e
  rw [DR_s S (by decide), DR_s S' (by decide)] at e0
  obtain ⟨a0, e1⟩ := leN_split _ _ _ _ (h.dg (sg_lt S 0)) (h'.dg (sg_lt S' 0)) e0
  rw [DR_s S (by decide), DR_s S' (by decide)] at e1
  obtain ⟨a1, e2⟩ := leN_split _ _ _ _ (h.dg (sg_lt S 1)) (h'.dg (sg_lt S' 1)) e1
  rw [DR_s S (by decide), DR_s S' (by decide)] at e2
  obtain ⟨a2, e3⟩ := leN_split _ _ _ _ (h.dg (sg_lt S 2)) (h'.dg (sg_lt S' 2)) e2
  rw [DR_s S (by decide), DR_s S' (by decide)] at e3
  obtain ⟨a3, e4⟩ := leN_split _ _ _ _ (h.dg (sg_lt S 3)) (h'.dg (sg_lt S' 3)) e3
  rw [DR_4, DR_4] at e4
  have e5 : max (S.2.1 0) (S.2.1 1) + 16 * (min (S.2.1 0) (S.2.1 1) + 16 * 0) = max (S'.2.1 0) (S'.2.1 1) + 16 * (min (S'.2.1 0) (S'.2.1 1) + 16 * 0) := e4
  refine ⟨fun j hj => ?_, by omega, by omega⟩
  rcases (show j = 0 ∨ j = 1 ∨ j = 2 ∨ j = 3 by omega) with rfl | rfl | rfl | rfl
  · exact List.reverse_inj.mp a0
  · exact List.reverse_inj.mp a1
  · exact List.reverse_inj.mp a2
  · exact List.reverse_inj.mp a3
/-- the same columns, each as often -/
def msE (S S' : St) : Prop := ∀ f : List Nat → Nat, f (S.1 0) + f (S.1 1) + f (S.1 2) + f (S.1 3) = f (S'.1 0) + f (S'.1 1) + f (S'.1 2) + f (S'.1 3)
/-- the same cells, in any order -/
def ceE (S S' : St) : Prop := max (S.2.1 0) (S.2.1 1) = max (S'.2.1 0) (S'.2.1 1) ∧ min (S.2.1 0) (S.2.1 1) = min (S'.2.1 0) (S'.2.1 1)
theorem like_ms {S S' : St} (h : okS S) (h' : okS S') (e : fkN S = fkN S') : msE S S' ∧ ceE S S' := by
  obtain ⟨a, b⟩ := fk_inj h h' e
  refine ⟨fun f => ?_, b⟩
  rw [← sg_sum S (fun i => f (S.1 i)), ← sg_sum S' (fun i => f (S'.1 i))]
  simp only [a 0 (by decide), a 1 (by decide), a 2 (by decide), a 3 (by decide)]
theorem srt_uniq2 : ∀ (l m : List Nat), l.Perm m → l.Pairwise (· ≤ ·) → m.Pairwise (· ≤ ·) → l = m
  | [], m, hp, _, _ => (List.nil_perm.mp hp).symm
  | a :: l, [], hp, _, _ => absurd hp.length_eq (by simp)
  | a :: l, b :: m, hp, h1, h2 => by
    have h1' := List.pairwise_cons.mp h1
    have h2' := List.pairwise_cons.mp h2
    have e : a = b := by
      have ha : a ∈ b :: m := hp.subset List.mem_cons_self
      have hb : b ∈ a :: l := hp.symm.subset List.mem_cons_self
      rcases List.mem_cons.mp ha with x | x
      · exact x
      · rcases List.mem_cons.mp hb with y | y
        · exact y.symm
        · have := h2'.1 a x
          have := h1'.1 b y
          omega
    subst e
    rw [srt_uniq2 l m ((List.perm_cons a).mp hp) h1'.2 h2'.2]
theorem pq_inj2 {l m : List Nat} (hl : ∀ d ∈ l, d < 16) (hm : ∀ d ∈ m, d < 16) (hn : l.length = m.length) (h : pq l = pq m) : l = m := by
  induction l using rev_ind generalizing m with
  | nil => exact (List.length_eq_zero_iff.mp hn.symm).symm
  | snoc l d ih =>
    cases m using rev_ind with
    | nil => simp at hn
    | snoc m e =>
      rw [pq_app, pq_app] at h
      have h1 := hl d (by simp)
      have h2 := hm e (by simp)
      have e1 : d = e := by omega
      have e2 : pq l = pq m := by omega
      rw [ih (fun x hx => hl x (List.mem_append_left _ hx)) (fun x hx => hm x (List.mem_append_left _ hx)) (by simpa using hn) e2, e1]
theorem pq_zeros (l : List Nat) : ∀ k, pq (l ++ List.replicate k 0) = pq l * 16 ^ k
  | 0 => by simp
  | k + 1 => by
    rw [List.replicate_succ', ← List.append_assoc, pq_app, pq_zeros l k, Nat.pow_succ]
    rw [Nat.mul_comm 16 (pq l * 16 ^ k), Nat.mul_assoc]; rfl
theorem al_pq {l : List Nat} : al l = pq (l ++ List.replicate (12 - l.length) 0) := by rw [pq_zeros]; rfl
theorem strip0 {l : List Nat} (h : ∀ d ∈ l, 1 ≤ d) (k : Nat) : (l ++ List.replicate k 0).filter (fun d => decide (1 ≤ d)) = l := by
  rw [List.filter_append, List.filter_eq_self.mpr (fun d hd => by simpa using h d hd)]
  have : (List.replicate k 0).filter (fun d => decide (1 ≤ d)) = [] := by
    rw [List.filter_eq_nil_iff]; intro d hd; rw [List.mem_replicate] at hd; simp [hd.2]
  rw [this, List.append_nil]
theorem al_inj {l m : List Nat} (hl : ∀ d ∈ l, 1 ≤ d ∧ d < 16) (hm : ∀ d ∈ m, 1 ≤ d ∧ d < 16) (l12 : l.length ≤ 12) (m12 : m.length ≤ 12) (h : al l = al m) : l = m := by
  rw [al_pq, al_pq] at h
  have z : ∀ (n : List Nat) (k : Nat), (∀ d ∈ n, 1 ≤ d ∧ d < 16) → ∀ d ∈ n ++ List.replicate k 0, d < 16 := fun n k hn d hd => by
    rcases List.mem_append.mp hd with q | q
    · exact (hn d q).2
    · rw [List.mem_replicate] at q; omega
  have e := pq_inj2 (z l _ hl) (z m _ hm) (by simp; omega) h
  rw [← strip0 (l := l) (fun d hd => (hl d hd).1) (12 - l.length), e, strip0 (fun d hd => (hm d hd).1)]
def alO (S : St) : List Nat := [al (S.1 (sg S 0)), al (S.1 (sg S 1)), al (S.1 (sg S 2)), al (S.1 (sg S 3))]
theorem alO_sorted (S : St) : (alO S).Pairwise (· ≤ ·) := by
  have hp := oL_sorted S
  have l4 := oL_len S
  rw [List.pairwise_iff_getElem] at hp
  have key : ∀ i j, i < j → j < 4 → al (S.1 (sg S i)) ≤ al (S.1 (sg S j)) := by
    intro i j hij hj
    have h := hp i j (by omega) (by omega) hij
    have ei : (oL S)[i]'(by omega) = ky S (sg S i) := by rw [← oL_at S (show i < 4 by omega), List.getD_eq_getElem?_getD, List.getElem?_eq_getElem (by omega)]; rfl
    have ej : (oL S)[j]'(by omega) = ky S (sg S j) := by rw [← oL_at S hj, List.getD_eq_getElem?_getD, List.getElem?_eq_getElem (by omega)]; rfl
    rw [ei, ej] at h
    have := sg_lt S i
    have := sg_lt S j
    unfold ky at h
    omega
  unfold alO
  simp only [List.pairwise_cons, List.mem_cons, List.not_mem_nil, or_false, forall_eq_or_imp, forall_eq, List.Pairwise.nil, and_true]
  exact ⟨⟨key 0 1 (by decide) (by decide), key 0 2 (by decide) (by decide), key 0 3 (by decide) (by decide)⟩, ⟨key 1 2 (by decide) (by decide), key 1 3 (by decide) (by decide)⟩, key 2 3 (by decide) (by decide), fun a h => h.elim⟩
theorem count4 (v a b c d : Nat) : [a, b, c, d].count v = (if a = v then 1 else 0) + (if b = v then 1 else 0) + (if c = v then 1 else 0) + (if d = v then 1 else 0) := by
  simp only [List.count_cons, List.count_nil, beq_iff_eq]
  omega
theorem ms_like {S S' : St} (h : okS S) (h' : okS S') (hm : msE S S') (hc : ceE S S') : fkN S = fkN S' := by
  have ep : (alO S).Perm (alO S') := by
    rw [List.perm_iff_count]
    intro v
    unfold alO
    rw [count4, count4]
    have e := hm (fun l => if al l = v then 1 else 0)
    have q1 := sg_sum S (fun i => if al (S.1 i) = v then 1 else 0)
    have q2 := sg_sum S' (fun i => if al (S'.1 i) = v then 1 else 0)
    omega
  have ea := srt_uniq2 _ _ ep (alO_sorted S) (alO_sorted S')
  unfold alO at ea
  simp only [List.cons.injEq, and_true] at ea
  obtain ⟨a0, a1, a2, a3⟩ := ea
  have inj : ∀ j, al (S.1 (sg S j)) = al (S'.1 (sg S' j)) → S.1 (sg S j) = S'.1 (sg S' j) := fun j e => by
    have g := sg_lt S j
    have g' := sg_lt S' j
    exact al_inj (fun d hd => by have := (h.1 _ g).2 d hd; omega) (fun d hd => by have := (h'.1 _ g').2 d hd; omega) (h.1 _ g).1 (h'.1 _ g').1 e
  unfold fkN
  rw [show colsO S 4 = [S.1 (sg S 0), S.1 (sg S 1), S.1 (sg S 2), S.1 (sg S 3)] from rfl, show colsO S' 4 = [S'.1 (sg S' 0), S'.1 (sg S' 1), S'.1 (sg S' 2), S'.1 (sg S' 3)] from rfl, inj 0 a0, inj 1 a1, inj 2 a2, inj 3 a3, hc.1, hc.2]
theorem like_ho {P : Pm} {S S' : St} (h : okS S) (h' : okS S') (hA : allS P S) (hA' : allS P S') (e : fkN S = fkN S') {t : Nat} (ht : t < 4) : S.2.2 t = S'.2.2 t := by
  obtain ⟨m, c1, c2⟩ := like_ms h h' e
  have a := hA t ht
  have a' := hA' t ht
  rw [cP_DS] at a a'
  have q := m (fun l => cP (pR P) t l)
  have qc := cPmm (pR P) t (S.2.1 0) (S.2.1 1)
  have qc' := cPmm (pR P) t (S'.2.1 0) (S'.2.1 1)
  rw [c1, c2] at qc
  omega
theorem sum4_up {α : Type} (g : Nat → α) (f : α → Nat) {a : Nat} (ha : a < 4) (x : α) : f (up g a x 0) + f (up g a x 1) + f (up g a x 2) + f (up g a x 3) + f (g a) = f (g 0) + f (g 1) + f (g 2) + f (g 3) + f x := by
  rcases (show a = 0 ∨ a = 1 ∨ a = 2 ∨ a = 3 by omega) with rfl | rfl | rfl | rfl <;> simp [up] <;> omega
theorem ms_ex {S S' : St} (h : msE S S') {a : Nat} (ha : a < 4) : ∃ a', a' < 4 ∧ S'.1 a' = S.1 a := by
  have e := h (fun l => if l = S.1 a then 1 else 0)
  have h1 : 1 ≤ (if S.1 0 = S.1 a then 1 else 0) + (if S.1 1 = S.1 a then 1 else 0) + (if S.1 2 = S.1 a then 1 else 0) + (if S.1 3 = S.1 a then 1 else 0) := by
    rcases (show a = 0 ∨ a = 1 ∨ a = 2 ∨ a = 3 by omega) with rfl | rfl | rfl | rfl <;> simp <;> omega
  by_cases z0 : S'.1 0 = S.1 a
  · exact ⟨0, by decide, z0⟩
  by_cases z1 : S'.1 1 = S.1 a
  · exact ⟨1, by decide, z1⟩
  by_cases z2 : S'.1 2 = S.1 a
  · exact ⟨2, by decide, z2⟩
  by_cases z3 : S'.1 3 = S.1 a
  · exact ⟨3, by decide, z3⟩
  rw [if_neg z0, if_neg z1, if_neg z2, if_neg z3] at e
  omega
/-- an empty column of the table -/
theorem ms_em {P : Pm} (hP : okP P) {S S' : St} (w : ∀ i, i < 4 → pC P ≤ i → S.1 i = []) (h : msE S S') {b : Nat} (hb : b < pC P) (he : S.1 b = []) : ∃ b', b' < pC P ∧ S'.1 b' = [] := by
  obtain ⟨h1, h2, h3, h4, h5, h6, h7, h8, h9⟩ := hP
  have e := h (fun l => if l = [] then 1 else 0)
  refine Classical.byContradiction (fun hn => ?_)
  have hn' : ∀ i, i < pC P → ¬ S'.1 i = [] := fun i hi z => hn ⟨i, hi, z⟩
  rcases (show pC P = 1 ∨ pC P = 2 ∨ pC P = 3 ∨ pC P = 4 by omega) with q | q | q | q
  · have b0 : b = 0 := by omega
    subst b0
    rw [if_pos he, if_pos (w 1 (by omega) (by omega)), if_pos (w 2 (by omega) (by omega)), if_pos (w 3 (by omega) (by omega)), if_neg (hn' 0 (by omega))] at e
    have := (Nat.le_of_lt_succ (show (if S'.1 1 = [] then 1 else 0) < 2 by split <;> omega))
    have := (Nat.le_of_lt_succ (show (if S'.1 2 = [] then 1 else 0) < 2 by split <;> omega))
    have := (Nat.le_of_lt_succ (show (if S'.1 3 = [] then 1 else 0) < 2 by split <;> omega))
    omega
  · rw [if_pos (w 2 (by omega) (by omega)), if_pos (w 3 (by omega) (by omega)), if_neg (hn' 0 (by omega)), if_neg (hn' 1 (by omega))] at e
    have := (Nat.le_of_lt_succ (show (if S'.1 2 = [] then 1 else 0) < 2 by split <;> omega))
    have := (Nat.le_of_lt_succ (show (if S'.1 3 = [] then 1 else 0) < 2 by split <;> omega))
    rcases (show b = 0 ∨ b = 1 by omega) with rfl | rfl <;> rw [if_pos he] at e <;> omega
  · rw [if_pos (w 3 (by omega) (by omega)), if_neg (hn' 0 (by omega)), if_neg (hn' 1 (by omega)), if_neg (hn' 2 (by omega))] at e
    have := (Nat.le_of_lt_succ (show (if S'.1 3 = [] then 1 else 0) < 2 by split <;> omega))
    rcases (show b = 0 ∨ b = 1 ∨ b = 2 by omega) with rfl | rfl | rfl <;> rw [if_pos he] at e <;> omega
  · rw [if_neg (hn' 0 (by omega)), if_neg (hn' 1 (by omega)), if_neg (hn' 2 (by omega)), if_neg (hn' 3 (by omega))] at e
    rcases (show b = 0 ∨ b = 1 ∨ b = 2 ∨ b = 3 by omega) with rfl | rfl | rfl | rfl <;> rw [if_pos he] at e <;> omega
