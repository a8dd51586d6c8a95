/-! COUNTS -/
def cnt : Nat → (Nat → Bool) → Nat
  | 0, _ => 0
  | n + 1, p => cnt n p + (if p n = true then 1 else 0)
def sumN : Nat → (Nat → Nat) → Nat
  | 0, _ => 0
  | n + 1, f => sumN n f + f n
def anyN : Nat → (Nat → Bool) → Bool
  | 0, _ => false
  | n + 1, p => anyN n p || p n
theorem cnt_le (n : Nat) (p : Nat → Bool) : cnt n p ≤ n := by
  induction n with
  | zero => exact Nat.le_refl 0
  | succ n ih => unfold cnt; split <;> omega
theorem sumN_le {m : Nat} {f : Nat → Nat} (n : Nat) (h : ∀ i, i < n → f i ≤ m) : sumN n f ≤ n * m := by
  induction n with
  | zero => simp [sumN]
  | succ n ih =>
    have h1 := ih (fun i hi => h i (by omega))
    have h2 := h n (by omega)
    unfold sumN; rw [Nat.succ_mul]; omega
theorem anyN_iff {n : Nat} {p : Nat → Bool} : anyN n p = true ↔ ∃ a, a < n ∧ p a = true := by
  induction n with
  | zero => simp [anyN]
  | succ n ih =>
    simp only [anyN, Bool.or_eq_true, ih]
    constructor
    · rintro (⟨a, h1, h2⟩ | h)
      · exact ⟨a, by omega, h2⟩
      · exact ⟨n, by omega, h⟩
    · rintro ⟨a, h1, h2⟩
      rcases Nat.lt_or_ge a n with q | q
      · exact Or.inl ⟨a, q, h2⟩
      · have : a = n := by omega
        subst this; exact Or.inr h2
theorem anyN_no {n : Nat} {p : Nat → Bool} (h : ∀ a, a < n → p a = false) : anyN n p = false := by
  cases hh : anyN n p with
  | false => rfl
  | true =>
    obtain ⟨a, h1, h2⟩ := anyN_iff.mp hh
    rw [h a h1] at h2; cases h2
theorem cnt_congr {n : Nat} {p q : Nat → Bool} (h : ∀ i, i < n → p i = q i) : cnt n p = cnt n q := by
  induction n with
  | zero => rfl
  | succ n ih => unfold cnt; rw [ih (fun i hi => h i (by omega)), h n (by omega)]
theorem sumN_congr {n : Nat} {p q : Nat → Nat} (h : ∀ i, i < n → p i = q i) : sumN n p = sumN n q := by
  induction n with
  | zero => rfl
  | succ n ih => unfold sumN; rw [ih (fun i hi => h i (by omega)), h n (by omega)]
def tt_X4_emptyColumns : pm_T := fun args M k => match args with
  | [.ref p] => ∃ ec S P, isSt p ∧ SdX M p ec S ∧ DkX M P ∧ k (some (.int (nI (cnt (pC P) (fun i => decide (S.1 i = [])))))) M
  | _ => False
abbrev ct_X4_emptyColumns : List pm_C := []
set_option maxHeartbeats 4000000 in
theorem sm_X4_emptyColumns  : pm_Sem SHx yX4_emptyColumns cX4_emptyColumns 3 (some .int) 1 tt_X4_emptyColumns := by
  refine pm_Sem_intro bl_X4_emptyColumns ct_X4_emptyColumns cs_X4_emptyColumns rfl (fun _ h => absurd h List.not_mem_nil) ck_X4_emptyColumns (by decide +kernel) (by decide) ?_
  intro X k hX args M hT
  have hb0 := hX 0 bk_X4_emptyColumns_0 (List.mem_of_getElem? (i := 0) rfl)
  have hb4 := hX 4 bk_X4_emptyColumns_4 (List.mem_of_getElem? (i := 1) rfl)
  have hb29 := hX 29 bk_X4_emptyColumns_29 (List.mem_of_getElem? (i := 2) rfl)
  have hb30 := hX 30 bk_X4_emptyColumns_30 (List.mem_of_getElem? (i := 3) rfl)
  have hb38 := hX 38 bk_X4_emptyColumns_38 (List.mem_of_getElem? (i := 4) rfl)
  clear hX
  unfold tt_X4_emptyColumns at hT; split at hT
  · next p =>
    obtain ⟨ec, S, ⟨s, r, c, e, w⟩, hp, hS, hD, hT⟩ := hT
    have hP := hD.1.1
    have m5 := hD.1.2.1.2.2.1
    obtain ⟨h1, h2, h3, h4, h5, h6, h7, h8, h9⟩ := hP
    dsimp only [pS, pR, pC, pE, pL] at *
    refine ⟨by simp [lg_sl, Value.category], ?_⟩
    have loop : ∀ (f i : Nat), c ≤ i + f → i ≤ c → X 4 [(0, .ref p), (1, .int (nI (cnt i (fun i => decide (S.1 i = []))))), (2, .int (nI i))] [] M := by
      intro f
      have out : X 38 [(1, .int (nI (cnt c (fun i => decide (S.1 i = [])))))] [] M := by
        refine hb38 _ _ _ ?_
        simp (maxSteps := 2000000) [bk_X4_emptyColumns_0, bk_X4_emptyColumns_4, bk_X4_emptyColumns_29, bk_X4_emptyColumns_30, bk_X4_emptyColumns_38, pm_arr, pm_e_c0, pm_e_c1, pm_e_cti, pm_e_ctl, pm_e_ctr, pm_e_go, pm_e_i, pm_e_ii, pm_e_ldi, pm_e_ldr, pm_e_lk, pm_e_r, pm_e_ri, pm_e_rm0, pm_e_rm1, pm_e_rs0, pm_e_rs1, pm_e_wp0, pm_e_wp1, pm_f2, pm_f3, pm_fld, pm_fv, pm_obj, pm_s_aload_n, pm_s_getfield, pm_s_goto, pm_s_iadd, pm_s_iaload, pm_s_iconst, pm_s_ifCond_ne, pm_s_if_icmp_ge, pm_s_iinc, pm_s_iload_n, pm_s_ireturn, pm_s_istore_n, ct_X4_emptyColumns, pS, pR, pC, pE, pL, -Int32.not_le, -Int32.not_lt, -Int64.not_le, -Int64.not_lt, -List.getD_eq_getElem?_getD]
        exact hT
      induction f with
      | zero =>
        intro i f1 f2
        have e1 : i = c := by omega
        subst e1
        refine hb4 _ _ _ ?_
        simp (maxSteps := 2000000) [bk_X4_emptyColumns_0, bk_X4_emptyColumns_4, bk_X4_emptyColumns_29, bk_X4_emptyColumns_30, bk_X4_emptyColumns_38, pm_arr, pm_e_c0, pm_e_c1, pm_e_cti, pm_e_ctl, pm_e_ctr, pm_e_go, pm_e_i, pm_e_ii, pm_e_ldi, pm_e_ldr, pm_e_lk, pm_e_r, pm_e_ri, pm_e_rm0, pm_e_rm1, pm_e_rs0, pm_e_rs1, pm_e_wp0, pm_e_wp1, pm_f2, pm_f3, pm_fld, pm_fv, pm_obj, pm_s_aload_n, pm_s_getfield, pm_s_goto, pm_s_iadd, pm_s_iaload, pm_s_iconst, pm_s_ifCond_ne, pm_s_if_icmp_ge, pm_s_iinc, pm_s_iload_n, pm_s_ireturn, pm_s_istore_n, ct_X4_emptyColumns, pS, pR, pC, pE, pL, -Int32.not_le, -Int32.not_lt, -Int64.not_le, -Int64.not_lt, -List.getD_eq_getElem?_getD, st_0 hp, st_2 hp, sx_1, m5]
        exact out
      | succ f ih =>
        intro i f1 f2
        refine hb4 _ _ _ ?_
        simp (maxSteps := 2000000) [bk_X4_emptyColumns_0, bk_X4_emptyColumns_4, bk_X4_emptyColumns_29, bk_X4_emptyColumns_30, bk_X4_emptyColumns_38, pm_arr, pm_e_c0, pm_e_c1, pm_e_cti, pm_e_ctl, pm_e_ctr, pm_e_go, pm_e_i, pm_e_ii, pm_e_ldi, pm_e_ldr, pm_e_lk, pm_e_r, pm_e_ri, pm_e_rm0, pm_e_rm1, pm_e_rs0, pm_e_rs1, pm_e_wp0, pm_e_wp1, pm_f2, pm_f3, pm_fld, pm_fv, pm_obj, pm_s_aload_n, pm_s_getfield, pm_s_goto, pm_s_iadd, pm_s_iaload, pm_s_iconst, pm_s_ifCond_ne, pm_s_if_icmp_ge, pm_s_iinc, pm_s_iload_n, pm_s_ireturn, pm_s_istore_n, ct_X4_emptyColumns, pS, pR, pC, pE, pL, -Int32.not_le, -Int32.not_lt, -Int64.not_le, -Int64.not_lt, -List.getD_eq_getElem?_getD, st_0 hp, st_2 hp, sx_1, m5]
        by_cases hi : i < c
        · have hl := hS.len (show i < 4 by omega)
          simp (disch := omega) only [ni_in, ni_cl, ni_add, ni_mul, ni_sub, ni_lt, ni_le, ni_eq, ni_eq0, ni_lt0, ni_0le, ni_0lt, ni_le0, ni_a1, ni_a3, ni_a7, ni_a15, hS.n (show i < 4 by omega)]
          refine ⟨fun h => by omega, fun _ => ⟨by omega, fun h => ?_, fun h => ?_⟩⟩
          · refine hb29 _ _ _ ?_
            simp (maxSteps := 2000000) [bk_X4_emptyColumns_0, bk_X4_emptyColumns_4, bk_X4_emptyColumns_29, bk_X4_emptyColumns_30, bk_X4_emptyColumns_38, pm_arr, pm_e_c0, pm_e_c1, pm_e_cti, pm_e_ctl, pm_e_ctr, pm_e_go, pm_e_i, pm_e_ii, pm_e_ldi, pm_e_ldr, pm_e_lk, pm_e_r, pm_e_ri, pm_e_rm0, pm_e_rm1, pm_e_rs0, pm_e_rs1, pm_e_wp0, pm_e_wp1, pm_f2, pm_f3, pm_fld, pm_fv, pm_obj, pm_s_aload_n, pm_s_getfield, pm_s_goto, pm_s_iadd, pm_s_iaload, pm_s_iconst, pm_s_ifCond_ne, pm_s_if_icmp_ge, pm_s_iinc, pm_s_iload_n, pm_s_ireturn, pm_s_istore_n, ct_X4_emptyColumns, pS, pR, pC, pE, pL, -Int32.not_le, -Int32.not_lt, -Int64.not_le, -Int64.not_lt, -List.getD_eq_getElem?_getD]
            refine hb30 _ _ _ ?_
            simp (maxSteps := 2000000) [bk_X4_emptyColumns_0, bk_X4_emptyColumns_4, bk_X4_emptyColumns_29, bk_X4_emptyColumns_30, bk_X4_emptyColumns_38, pm_arr, pm_e_c0, pm_e_c1, pm_e_cti, pm_e_ctl, pm_e_ctr, pm_e_go, pm_e_i, pm_e_ii, pm_e_ldi, pm_e_ldr, pm_e_lk, pm_e_r, pm_e_ri, pm_e_rm0, pm_e_rm1, pm_e_rs0, pm_e_rs1, pm_e_wp0, pm_e_wp1, pm_f2, pm_f3, pm_fld, pm_fv, pm_obj, pm_s_aload_n, pm_s_getfield, pm_s_goto, pm_s_iadd, pm_s_iaload, pm_s_iconst, pm_s_ifCond_ne, pm_s_if_icmp_ge, pm_s_iinc, pm_s_iload_n, pm_s_ireturn, pm_s_istore_n, ct_X4_emptyColumns, pS, pR, pC, pE, pL, -Int32.not_le, -Int32.not_lt, -Int64.not_le, -Int64.not_lt, -List.getD_eq_getElem?_getD]
            simp only [ni_add]
            have := ih (i + 1) (by omega) (by omega)
            have hne : ¬ S.1 i = [] := fun z => h (by rw [z]; rfl)
            simpa [cnt, hne] using this
          · refine hb30 _ _ _ ?_
            simp (maxSteps := 2000000) [bk_X4_emptyColumns_0, bk_X4_emptyColumns_4, bk_X4_emptyColumns_29, bk_X4_emptyColumns_30, bk_X4_emptyColumns_38, pm_arr, pm_e_c0, pm_e_c1, pm_e_cti, pm_e_ctl, pm_e_ctr, pm_e_go, pm_e_i, pm_e_ii, pm_e_ldi, pm_e_ldr, pm_e_lk, pm_e_r, pm_e_ri, pm_e_rm0, pm_e_rm1, pm_e_rs0, pm_e_rs1, pm_e_wp0, pm_e_wp1, pm_f2, pm_f3, pm_fld, pm_fv, pm_obj, pm_s_aload_n, pm_s_getfield, pm_s_goto, pm_s_iadd, pm_s_iaload, pm_s_iconst, pm_s_ifCond_ne, pm_s_if_icmp_ge, pm_s_iinc, pm_s_iload_n, pm_s_ireturn, pm_s_istore_n, ct_X4_emptyColumns, pS, pR, pC, pE, pL, -Int32.not_le, -Int32.not_lt, -Int64.not_le, -Int64.not_lt, -List.getD_eq_getElem?_getD]
            simp only [ni_add]
            have := ih (i + 1) (by omega) (by omega)
            have hne : S.1 i = [] := List.length_eq_zero_iff.mp h
            simpa [cnt, hne] using this
        · have e1 : i = c := by omega
          subst e1
          exact ⟨fun _ => out, fun h => absurd (Int32.le_refl _) h⟩
    refine hb0 _ _ _ ?_
    simp (maxSteps := 2000000) [bk_X4_emptyColumns_0, bk_X4_emptyColumns_4, bk_X4_emptyColumns_29, bk_X4_emptyColumns_30, bk_X4_emptyColumns_38, pm_arr, pm_e_c0, pm_e_c1, pm_e_cti, pm_e_ctl, pm_e_ctr, pm_e_go, pm_e_i, pm_e_ii, pm_e_ldi, pm_e_ldr, pm_e_lk, pm_e_r, pm_e_ri, pm_e_rm0, pm_e_rm1, pm_e_rs0, pm_e_rs1, pm_e_wp0, pm_e_wp1, pm_f2, pm_f3, pm_fld, pm_fv, pm_obj, pm_s_aload_n, pm_s_getfield, pm_s_goto, pm_s_iadd, pm_s_iaload, pm_s_iconst, pm_s_ifCond_ne, pm_s_if_icmp_ge, pm_s_iinc, pm_s_iload_n, pm_s_ireturn, pm_s_istore_n, ct_X4_emptyColumns, pS, pR, pC, pE, pL, -Int32.not_le, -Int32.not_lt, -Int64.not_le, -Int64.not_lt, -List.getD_eq_getElem?_getD, lv_args]
    exact loop c 0 (by omega) (by omega)
  · exact hT.elim
/-- is the card at j buried: one ahead of it has its suit and is lower -/
def bury (r : Nat) (l : List Nat) (j : Nat) : Bool := anyN j (fun a => decide (su r (l.getD a 0) = su r (l.getD j 0)) && decide (ra r (l.getD a 0) < ra r (l.getD j 0)))
def tt_X4_isBuried : pm_T := fun args M k => match args with
  | [.ref p, .int x, .int y] => ∃ ec S P i j, isSt p ∧ x = nI i ∧ y = nI j ∧ SdX M p ec S ∧ DkX M P ∧ inD P S ∧ i < 4 ∧ j < (S.1 i).length ∧ k (some (.int (pb (bury (pR P) (S.1 i) j)))) M
  | _ => False
theorem getD_mem {l : List Nat} {j : Nat} (h : j < l.length) : l.getD j 0 ∈ l := by
  rw [List.getD_eq_getElem?_getD, List.getElem?_eq_getElem h]; exact List.getElem_mem h
abbrev ct_X4_isBuried : List pm_C := [(false, 70, 4, 3, (some .int), tt_X4_cardAt)]
set_option maxHeartbeats 4000000 in
theorem sm_X4_isBuried  : pm_Sem SHx yX4_isBuried cX4_isBuried 6 (some .boolean) 3 tt_X4_isBuried := by
  refine pm_Sem_intro bl_X4_isBuried ct_X4_isBuried cs_X4_isBuried rfl (List.forall_mem_cons.mpr ⟨⟨_, _, _, _, sm_X4_cardAt, by decide, cm_X4_cardAt, by decide +kernel⟩, fun _ h => absurd h List.not_mem_nil⟩) ck_X4_isBuried (by decide +kernel) (by decide) ?_
  intro X k hX args M hT
  have hb0 := hX 0 bk_X4_isBuried_0 (List.mem_of_getElem? (i := 0) rfl)
  have hb10 := hX 10 bk_X4_isBuried_10 (List.mem_of_getElem? (i := 1) rfl)
  have hb71 := hX 71 bk_X4_isBuried_71 (List.mem_of_getElem? (i := 2) rfl)
  have hb77 := hX 77 bk_X4_isBuried_77 (List.mem_of_getElem? (i := 3) rfl)
  clear hX
  unfold tt_X4_isBuried at hT; split at hT
  · next p x y =>
    obtain ⟨ec, S, ⟨s, r, c, e, w⟩, i, j, hp, rfl, rfl, hS, hD, hI, hi, hj, hT⟩ := hT
    have hP := hD.1.1
    have hd := hD.1.2.2
    obtain ⟨h1, h2, h3, h4, h5, h6, h7, h8, h9⟩ := hP
    have hI1 := hI.1 i hi
    dsimp only [pS, pR, pC, pE, pL] at *
    have hlen := hS.len hi
    have hcard : ∀ a, a < (S.1 i).length → 1 ≤ (S.1 i).getD a 0 ∧ (S.1 i).getD a 0 ≤ s * r := fun a ha => ⟨((hS.1.1 i hi).2 _ (getD_mem ha)).1, hI1 _ (getD_mem ha)⟩
    have cj := hcard j hj
    have mj := hd _ cj.1 cj.2
    have sj := su_lt h3 cj.1 cj.2
    have rj := ra_le (n := (S.1 i).getD j 0) h3
    refine ⟨by simp [lg_sl, Value.category], ?_⟩
    have loop : ∀ (f a : Nat), j ≤ a + f → a ≤ j → (∀ b, b < a → (decide (su r ((S.1 i).getD b 0) = su r ((S.1 i).getD j 0)) && decide (ra r ((S.1 i).getD b 0) < ra r ((S.1 i).getD j 0))) = false) → X 10 [(0, .ref p), (1, .int (nI i)), (2, .int (nI j)), (3, .int (nI ((S.1 i).getD j 0))), (4, .int (nI a))] [] M := by
      intro f
      have out : (∀ b, b < j → (decide (su r ((S.1 i).getD b 0) = su r ((S.1 i).getD j 0)) && decide (ra r ((S.1 i).getD b 0) < ra r ((S.1 i).getD j 0))) = false) → X 77 [] [] M := by
        intro hA
        refine hb77 _ _ _ ?_
        simp (maxSteps := 2000000) [bk_X4_isBuried_0, bk_X4_isBuried_10, bk_X4_isBuried_71, bk_X4_isBuried_77, pm_arr, pm_call, pm_e_c0, pm_e_c1, pm_e_cti, pm_e_ctl, pm_e_ctr, pm_e_go, pm_e_i, pm_e_ii, pm_e_ldi, pm_e_ldr, pm_e_lk, pm_e_r, pm_e_ri, pm_e_rm0, pm_e_rm1, pm_e_rs0, pm_e_rs1, pm_e_wp0, pm_e_wp1, pm_f2, pm_f3, pm_fld, pm_fv, pm_obj, pm_recv, pm_s_aload_n, pm_s_getfield, pm_s_goto, pm_s_iaload, pm_s_iconst, pm_s_if_icmp_ge, pm_s_if_icmp_ne, pm_s_iinc, pm_s_iload, pm_s_iload_n, pm_s_invokevirtual, pm_s_ireturn, pm_s_istore, pm_s_istore_n, ct_X4_isBuried, pS, pR, pC, pE, pL, -Int32.not_le, -Int32.not_lt, -Int64.not_le, -Int64.not_lt, -List.getD_eq_getElem?_getD, ni_0]
        have : bury r (S.1 i) j = false := anyN_no hA
        rw [this] at hT; exact hT
      induction f with
      | zero =>
        intro a f1 f2 hA
        have e1 : a = j := by omega
        subst e1
        refine hb10 _ _ _ ?_
        simp (maxSteps := 2000000) [bk_X4_isBuried_0, bk_X4_isBuried_10, bk_X4_isBuried_71, bk_X4_isBuried_77, pm_arr, pm_call, pm_e_c0, pm_e_c1, pm_e_cti, pm_e_ctl, pm_e_ctr, pm_e_go, pm_e_i, pm_e_ii, pm_e_ldi, pm_e_ldr, pm_e_lk, pm_e_r, pm_e_ri, pm_e_rm0, pm_e_rm1, pm_e_rs0, pm_e_rs1, pm_e_wp0, pm_e_wp1, pm_f2, pm_f3, pm_fld, pm_fv, pm_obj, pm_recv, pm_s_aload_n, pm_s_getfield, pm_s_goto, pm_s_iaload, pm_s_iconst, pm_s_if_icmp_ge, pm_s_if_icmp_ne, pm_s_iinc, pm_s_iload, pm_s_iload_n, pm_s_invokevirtual, pm_s_ireturn, pm_s_istore, pm_s_istore_n, ct_X4_isBuried, pS, pR, pC, pE, pL, -Int32.not_le, -Int32.not_lt, -Int64.not_le, -Int64.not_lt, -List.getD_eq_getElem?_getD]
        exact out hA
      | succ f ih =>
        intro a f1 f2 hA
        refine hb10 _ _ _ ?_
        simp [bk_X4_isBuried_10, pm_e_wp1, pm_e_wp0, pm_s_iload, pm_s_iload_n, pm_s_aload_n, pm_e_ldi, pm_e_ldr, pm_e_lk, pm_f2, pm_f3, pm_s_if_icmp_ge, pm_e_ii, pm_e_go, pm_e_rs0, pm_e_rs1, pm_e_cti, pm_e_ctr, pm_s_invokevirtual, ct_X4_isBuried, pm_call, pm_recv, pm_obj, st_0 hp, -Int32.not_le, -Int32.not_lt, -List.getD_eq_getElem?_getD]
        by_cases ha : a < j
        · simp (disch := omega) only [ni_in, ni_cl, ni_add, ni_mul, ni_sub, ni_lt, ni_le, ni_eq, ni_eq0, ni_lt0, ni_0le, ni_0lt, ni_le0, ni_a1, ni_a3, ni_a7, ni_a15]
          refine ⟨fun h => by omega, fun _ => ?_⟩
          have ca := hcard a (by omega)
          have ma := hd _ ca.1 ca.2
          have sa := su_lt h3 ca.1 ca.2
          have ra' := ra_le (n := (S.1 i).getD a 0) h3
          refine ⟨ec, S, i, hp, rfl, hS, hi, fun b hb eb => ?_, fun h => absurd rfl (h a (by omega))⟩
          rw [ni_eq (by omega) (by omega)] at eb
          subst eb
          simp (maxSteps := 2000000) [bk_X4_isBuried_0, bk_X4_isBuried_10, bk_X4_isBuried_71, bk_X4_isBuried_77, pm_arr, pm_call, pm_e_c0, pm_e_c1, pm_e_cti, pm_e_ctl, pm_e_ctr, pm_e_go, pm_e_i, pm_e_ii, pm_e_ldi, pm_e_ldr, pm_e_lk, pm_e_r, pm_e_ri, pm_e_rm0, pm_e_rm1, pm_e_rs0, pm_e_rs1, pm_e_wp0, pm_e_wp1, pm_f2, pm_f3, pm_fld, pm_fv, pm_obj, pm_recv, pm_s_aload_n, pm_s_getfield, pm_s_goto, pm_s_iaload, pm_s_iconst, pm_s_if_icmp_ge, pm_s_if_icmp_ne, pm_s_iinc, pm_s_iload, pm_s_iload_n, pm_s_invokevirtual, pm_s_ireturn, pm_s_istore, pm_s_istore_n, ct_X4_isBuried, pS, pR, pC, pE, pL, -Int32.not_le, -Int32.not_lt, -Int64.not_le, -Int64.not_lt, -List.getD_eq_getElem?_getD, st_0 hp, sx_1, sx_2, sx_3]
          simp (disch := omega) only [ni_in, ni_cl, ni_add, ni_mul, ni_sub, ni_lt, ni_le, ni_eq, ni_eq0, ni_lt0, ni_0le, ni_0lt, ni_le0, ni_a1, ni_a3, ni_a7, ni_a15, ma.1, ma.2, mj.1, mj.2]
          have h71 : (decide (su r ((S.1 i).getD a 0) = su r ((S.1 i).getD j 0)) && decide (ra r ((S.1 i).getD a 0) < ra r ((S.1 i).getD j 0))) = false → X 71 [(0, .ref p), (1, .int (nI i)), (2, .int (nI j)), (3, .int (nI ((S.1 i).getD j 0))), (4, .int (nI a))] [] M := by
            intro hq
            refine hb71 _ _ _ ?_
            simp (maxSteps := 2000000) [bk_X4_isBuried_0, bk_X4_isBuried_10, bk_X4_isBuried_71, bk_X4_isBuried_77, pm_arr, pm_call, pm_e_c0, pm_e_c1, pm_e_cti, pm_e_ctl, pm_e_ctr, pm_e_go, pm_e_i, pm_e_ii, pm_e_ldi, pm_e_ldr, pm_e_lk, pm_e_r, pm_e_ri, pm_e_rm0, pm_e_rm1, pm_e_rs0, pm_e_rs1, pm_e_wp0, pm_e_wp1, pm_f2, pm_f3, pm_fld, pm_fv, pm_obj, pm_recv, pm_s_aload_n, pm_s_getfield, pm_s_goto, pm_s_iaload, pm_s_iconst, pm_s_if_icmp_ge, pm_s_if_icmp_ne, pm_s_iinc, pm_s_iload, pm_s_iload_n, pm_s_invokevirtual, pm_s_ireturn, pm_s_istore, pm_s_istore_n, ct_X4_isBuried, pS, pR, pC, pE, pL, -Int32.not_le, -Int32.not_lt, -Int64.not_le, -Int64.not_lt, -List.getD_eq_getElem?_getD]
            simp only [ni_add]
            refine ih (a + 1) (by omega) (by omega) (fun b hb => ?_)
            rcases Nat.lt_or_ge b a with q | q
            · exact hA b q
            · have : b = a := by omega
              subst this; exact hq
          repeat refine ⟨by omega, ?_⟩
          refine ⟨fun h => h71 (by rw [decide_eq_false h]; rfl), fun h => ?_⟩
          repeat refine ⟨by omega, ?_⟩
          refine ⟨fun h' => h71 (by rw [decide_eq_false (show ¬ ra r ((S.1 i).getD a 0) < ra r ((S.1 i).getD j 0) by omega)]; simp), fun h' => ?_⟩
          have : bury r (S.1 i) j = true := anyN_iff.mpr ⟨a, ha, by rw [decide_eq_true h, decide_eq_true (by omega)]; rfl⟩
          rw [this] at hT
          first | exact hT | exact ⟨Or.inr rfl, hT⟩
        · have e1 : a = j := by omega
          subst e1
          simp (disch := omega) only [ni_in, ni_cl, ni_add, ni_mul, ni_sub, ni_lt, ni_le, ni_eq, ni_eq0, ni_lt0, ni_0le, ni_0lt, ni_le0, ni_a1, ni_a3, ni_a7, ni_a15]
          exact ⟨fun _ => out hA, fun h => by omega⟩
    refine hb0 _ _ _ ?_
    simp (maxSteps := 2000000) [bk_X4_isBuried_0, bk_X4_isBuried_10, bk_X4_isBuried_71, bk_X4_isBuried_77, pm_arr, pm_call, pm_e_c0, pm_e_c1, pm_e_cti, pm_e_ctl, pm_e_ctr, pm_e_go, pm_e_i, pm_e_ii, pm_e_ldi, pm_e_ldr, pm_e_lk, pm_e_r, pm_e_ri, pm_e_rm0, pm_e_rm1, pm_e_rs0, pm_e_rs1, pm_e_wp0, pm_e_wp1, pm_f2, pm_f3, pm_fld, pm_fv, pm_obj, pm_recv, pm_s_aload_n, pm_s_getfield, pm_s_goto, pm_s_iaload, pm_s_iconst, pm_s_if_icmp_ge, pm_s_if_icmp_ne, pm_s_iinc, pm_s_iload, pm_s_iload_n, pm_s_invokevirtual, pm_s_ireturn, pm_s_istore, pm_s_istore_n, ct_X4_isBuried, pS, pR, pC, pE, pL, -Int32.not_le, -Int32.not_lt, -Int64.not_le, -Int64.not_lt, -List.getD_eq_getElem?_getD, lv_args, st_0 hp]
    refine ⟨ec, S, i, hp, rfl, hS, hi, fun b hb eb => ?_, fun h => absurd rfl (h j hj)⟩
    rw [ni_eq (by omega) (by omega)] at eb
    subst eb
    simp (maxSteps := 2000000) [bk_X4_isBuried_0, bk_X4_isBuried_10, bk_X4_isBuried_71, bk_X4_isBuried_77, pm_arr, pm_call, pm_e_c0, pm_e_c1, pm_e_cti, pm_e_ctl, pm_e_ctr, pm_e_go, pm_e_i, pm_e_ii, pm_e_ldi, pm_e_ldr, pm_e_lk, pm_e_r, pm_e_ri, pm_e_rm0, pm_e_rm1, pm_e_rs0, pm_e_rs1, pm_e_wp0, pm_e_wp1, pm_f2, pm_f3, pm_fld, pm_fv, pm_obj, pm_recv, pm_s_aload_n, pm_s_getfield, pm_s_goto, pm_s_iaload, pm_s_iconst, pm_s_if_icmp_ge, pm_s_if_icmp_ne, pm_s_iinc, pm_s_iload, pm_s_iload_n, pm_s_invokevirtual, pm_s_ireturn, pm_s_istore, pm_s_istore_n, ct_X4_isBuried, pS, pR, pC, pE, pL, -Int32.not_le, -Int32.not_lt, -Int64.not_le, -Int64.not_lt, -List.getD_eq_getElem?_getD]
    exact loop j 0 (by omega) (by omega) (fun b hb => by omega)
  · exact hT.elim
