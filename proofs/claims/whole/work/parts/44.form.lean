/-! THE FORM OF A STAND, as digits, the lowest first -/
theorem srt_uniq : ∀ (l m : List Nat), l.Perm m → l.Pairwise (· < ·) → m.Pairwise (· < ·) → l = m
  | [], m, hp, _, _ => (List.nil_perm.mp hp).symm
  | a :: l, [], hp, _, _ => absurd hp.length_eq (by simp)
  | a :: l, b :: m, hp, h1, h2 => by
    have h1' := List.pairwise_cons.mp h1
    have h2' := List.pairwise_cons.mp h2
    have e : a = b := by
      have ha : a ∈ b :: m := hp.subset List.mem_cons_self
      have hb : b ∈ a :: l := hp.symm.subset List.mem_cons_self
      rcases List.mem_cons.mp ha with x | x
      · exact x
      · rcases List.mem_cons.mp hb with y | y
        · exact y.symm
        · have := h2'.1 a x
          have := h1'.1 b y
          omega
    subst e
    rw [srt_uniq l m ((List.perm_cons a).mp hp) h1'.2 h2'.2]
def insN (v : Nat) : List Nat → List Nat
  | [] => [v]
  | a :: l => if v < a then v :: a :: l else a :: insN v l
theorem insN_perm (v : Nat) : ∀ l : List Nat, (insN v l).Perm (v :: l)
  | [] => List.Perm.refl _
  | a :: l => by
    unfold insN; split
    · exact List.Perm.refl _
    · exact ((insN_perm v l).cons a).trans (List.Perm.swap v a l)
theorem insN_sorted {v : Nat} : ∀ {l : List Nat}, l.Pairwise (· < ·) → v ∉ l → (insN v l).Pairwise (· < ·)
  | [], _, _ => List.pairwise_singleton _ _
  | a :: l, h, hv => by
    have h' := List.pairwise_cons.mp h
    have hva : v ≠ a := fun e => hv (by simp [e])
    unfold insN; split
    · next q =>
      refine List.pairwise_cons.mpr ⟨fun x hx => ?_, h⟩
      rcases List.mem_cons.mp hx with z | z
      · omega
      · have := h'.1 x z; omega
    · next q =>
      refine List.pairwise_cons.mpr ⟨fun x hx => ?_, insN_sorted h'.2 (fun z => hv (List.mem_cons_of_mem _ z))⟩
      rcases List.mem_cons.mp ((insN_perm v l).subset hx) with z | z
      · omega
      · exact h'.1 x z
/-- the keys in their order -/
def oL (S : St) : List Nat := insN (ky S 0) (insN (ky S 1) (insN (ky S 2) (insN (ky S 3) [])))
theorem ky_mod (S : St) {i : Nat} (h : i < 4) : ky S i % 4 = i := by unfold ky; omega
theorem oL_perm (S : St) : (oL S).Perm [ky S 0, ky S 1, ky S 2, ky S 3] := by
  unfold oL
  refine (insN_perm _ _).trans (List.Perm.cons _ ?_)
  refine (insN_perm _ _).trans (List.Perm.cons _ ?_)
  exact (insN_perm _ _).trans (List.Perm.cons _ (List.Perm.refl _))
theorem ky_ne (S : St) {i j : Nat} (hi : i < 4) (hj : j < 4) (h : i ≠ j) : ky S i ≠ ky S j := fun e => h (by rw [← ky_mod S hi, ← ky_mod S hj, e])
theorem oL_sorted (S : St) : (oL S).Pairwise (· < ·) := by
  unfold oL
  have n01 := ky_ne S (i := 0) (j := 1) (by decide) (by decide) (by decide)
  have n02 := ky_ne S (i := 0) (j := 2) (by decide) (by decide) (by decide)
  have n03 := ky_ne S (i := 0) (j := 3) (by decide) (by decide) (by decide)
  have n12 := ky_ne S (i := 1) (j := 2) (by decide) (by decide) (by decide)
  have n13 := ky_ne S (i := 1) (j := 3) (by decide) (by decide) (by decide)
  have n23 := ky_ne S (i := 2) (j := 3) (by decide) (by decide) (by decide)
  have s3 : (insN (ky S 3) []).Pairwise (· < ·) := insN_sorted List.Pairwise.nil (by simp)
  have s2 : (insN (ky S 2) (insN (ky S 3) [])).Pairwise (· < ·) := insN_sorted s3 (by simp [insN, n23])
  have s1 : (insN (ky S 1) (insN (ky S 2) (insN (ky S 3) []))).Pairwise (· < ·) := insN_sorted s2 (fun h => by
    have := ((insN_perm _ _).trans (List.Perm.cons _ (insN_perm _ _))).subset h
    simp [n12, n13] at this)
  exact insN_sorted s1 (fun h => by
    have := ((insN_perm _ _).trans (List.Perm.cons _ ((insN_perm _ _).trans (List.Perm.cons _ (insN_perm _ _))))).subset h
    simp [n01, n02, n03] at this)
theorem oL_len (S : St) : (oL S).length = 4 := (oL_perm S).length_eq
/-- which column stands at the place j of the order -/
def sg (S : St) (j : Nat) : Nat := (oL S).getD j 0 % 4
theorem sg_lt (S : St) (j : Nat) : sg S j < 4 := Nat.mod_lt _ (by decide)
theorem oL_at (S : St) {j : Nat} (h : j < 4) : (oL S).getD j 0 = ky S (sg S j) := by
  have hm : (oL S).getD j 0 ∈ oL S := getD_mem (by rw [oL_len]; exact h)
  have := (oL_perm S).subset hm
  simp only [List.mem_cons, List.not_mem_nil, or_false] at this
  unfold sg
  rcases this with e | e | e | e <;> rw [e] <;> rw [ky_mod S (by decide)]
theorem sg_inj (S : St) {i j : Nat} (hi : i < 4) (hj : j < 4) (h : sg S i = sg S j) : i = j := by
  have e : (oL S).getD i 0 = (oL S).getD j 0 := by rw [oL_at S hi, oL_at S hj, h]
  have hp := oL_sorted S
  rw [List.pairwise_iff_getElem] at hp
  have l4 := oL_len S
  rw [List.getD_eq_getElem?_getD, List.getD_eq_getElem?_getD, List.getElem?_eq_getElem (by omega), List.getElem?_eq_getElem (by omega)] at e
  simp only [Option.getD_some] at e
  rcases Nat.lt_trichotomy i j with z | z | z
  · have := hp i j (by omega) (by omega) z; omega
  · exact z
  · have := hp j i (by omega) (by omega) z; omega
theorem oL_uniq {S : St} {L : List Nat} (h1 : L.Perm [ky S 0, ky S 1, ky S 2, ky S 3]) (h2 : L.Pairwise (· < ·)) : L = oL S := srt_uniq _ _ (h1.trans (oL_perm S).symm) h2 (oL_sorted S)
def leN : List Nat → Nat
  | [] => 0
  | d :: l => d + 16 * leN l
theorem leN_app : ∀ (l m : List Nat), leN (l ++ m) = leN l + 16 ^ l.length * leN m
  | [], m => by simp [leN]
  | d :: l, m => by
    show d + 16 * leN (l ++ m) = d + 16 * leN l + 16 ^ (l.length + 1) * leN m
    have e : 16 ^ l.length * 16 * leN m = 16 * (16 ^ l.length * leN m) := by rw [Nat.mul_comm (16 ^ l.length) 16, Nat.mul_assoc]
    rw [leN_app l m, Nat.pow_succ, e]
    omega
theorem leN_rev (l : List Nat) : leN l.reverse = pq l := by
  induction l using rev_ind with
  | nil => rfl
  | snoc l d ih => rw [List.reverse_append, pq_app]; show d + 16 * leN (l.reverse) = _; rw [ih]; omega
theorem leN_lt : ∀ {l : List Nat}, (∀ d ∈ l, d < 16) → leN l < 16 ^ l.length
  | [], _ => by simp [leN]
  | d :: l, h => by
    have h1 := leN_lt (l := l) (fun x hx => h x (List.mem_cons_of_mem _ hx))
    have h2 := h d List.mem_cons_self
    show d + 16 * leN l < 16 ^ (l.length + 1)
    rw [Nat.pow_succ]; omega
/-- the columns behind one another, the last card of each first, 0 behind each -/
def dgC : List (List Nat) → List Nat
  | [] => []
  | c :: cs => c.reverse ++ 0 :: dgC cs
theorem dgC_app : ∀ (a b : List (List Nat)), dgC (a ++ b) = dgC a ++ dgC b
  | [], _ => rfl
  | c :: a, b => by show c.reverse ++ 0 :: dgC (a ++ b) = (c.reverse ++ 0 :: dgC a) ++ dgC b; rw [dgC_app a b]; simp
/-- the columns in their order -/
def colsO (S : St) (n : Nat) : List (List Nat) := (List.range n).map (fun j => S.1 (sg S j))
def fkN (S : St) : Nat := leN (dgC (colsO S 4) ++ [max (S.2.1 0) (S.2.1 1), min (S.2.1 0) (S.2.1 1)])
def tt_X4_inOrder : pm_T := fun args M k => match args with
  | [.ref p, .int x] => ∃ j L, isSt p ∧ x = nI j ∧ j < 4 ∧ L < 2 ^ 63 ∧ M.2 (p + 5) j = lN L ∧ k (some (.int (nI (L % 4)))) M
  | _ => False
abbrev ct_X4_inOrder : List pm_C := []
set_option maxHeartbeats 4000000 in
theorem sm_X4_inOrder  : pm_Sem SHx yX4_inOrder cX4_inOrder 2 (some .int) 1 tt_X4_inOrder := by
  refine pm_Sem_intro bl_X4_inOrder ct_X4_inOrder cs_X4_inOrder rfl (fun _ h => absurd h List.not_mem_nil) ck_X4_inOrder (by decide +kernel) (by decide) ?_
  intro X k hX args M hT
  have hb0 := hX 0 bk_X4_inOrder_0 (List.mem_of_getElem? (i := 0) rfl)
  clear hX
  unfold tt_X4_inOrder at hT; split at hT
  · next p x =>
    obtain ⟨j, L, hp, rfl, hj, hL, hm, hT⟩ := hT
    refine ⟨by simp [lg_sl, Value.category], ?_⟩
    refine hb0 _ _ _ ?_
    simp (maxSteps := 2000000) [bk_X4_inOrder_0, pm_arr, pm_e_c0, pm_e_c1, pm_e_cti, pm_e_ctl, pm_e_ctr, pm_e_go, pm_e_ii, pm_e_l, pm_e_ldi, pm_e_ldr, pm_e_lk, pm_e_r, pm_e_ri, pm_e_rm0, pm_e_rm1, pm_e_rs0, pm_e_rs1, pm_e_wp0, pm_e_wp1, pm_f2, pm_f3, pm_fld, pm_fv, pm_obj, pm_s_aload_n, pm_s_getfield, pm_s_iand, pm_s_iconst, pm_s_iload_n, pm_s_ireturn, pm_s_l2i, pm_s_laload, ct_X4_inOrder, pS, pR, pC, pE, pL, -Int32.not_le, -Int32.not_lt, -Int64.not_le, -Int64.not_lt, -List.getD_eq_getElem?_getD, lv_args, st_0 hp, st_5 hp]
    simp (disch := omega) only [ni_in, ni_cl, ni_add, ni_mul, ni_sub, ni_lt, ni_le, ni_eq, ni_eq0, ni_lt0, ni_0le, ni_0lt, ni_le0, ni_a1, ni_a3, ni_a7, ni_a15, hm, ln_i]
    refine ⟨by omega, ?_⟩
    rw [show nI L &&& nI 3 = nI (L % 4) from (pk_and _ 2 (by decide)).trans (by rw [show (nI L).toBitVec.toNat = L % 2 ^ 32 from rfl]; congr 1; omega)]
    exact hT
  · exact hT.elim
