def tt_X7_keepsTried : pm_T := fun args M k => match args with
  | [.ref 0] => ∀ M', cpY M M' 10 0 2 0 → keY M M' 2 0 → yfr [2, 3, 4, 5] [] M M' → k none M'
  | _ => False
abbrev ct_X7_keepsTried : List pm_C := []
set_option maxHeartbeats 4000000 in
theorem sm_X7_keepsTried  : pm_Sem SHy yX7_keepsTried cX7_keepsTried 2 none 1 tt_X7_keepsTried := by
  refine pm_Sem_intro bl_X7_keepsTried ct_X7_keepsTried cs_X7_keepsTried rfl (fun _ h => absurd h List.not_mem_nil) ck_X7_keepsTried (by decide +kernel) (by decide) ?_
  intro X k hX args M hT
  have hb0 := hX 0 bk_X7_keepsTried_0 (List.mem_of_getElem? (i := 0) rfl)
  have hb2 := hX 2 bk_X7_keepsTried_2 (List.mem_of_getElem? (i := 1) rfl)
  have hb37 := hX 37 bk_X7_keepsTried_37 (List.mem_of_getElem? (i := 2) rfl)
  have hb39 := hX 39 bk_X7_keepsTried_39 (List.mem_of_getElem? (i := 3) rfl)
  have hb63 := hX 63 bk_X7_keepsTried_63 (List.mem_of_getElem? (i := 4) rfl)
  clear hX
  unfold tt_X7_keepsTried at hT; split at hT
  · skip
    refine ⟨by simp [lg_sl, Value.category], ?_⟩
    have out : ∀ M1 : pm_M, (∀ j, j < 4 → M1.1 2 (j) = M.1 10 (j) ∧ M1.1 5 (j) = M.1 13 (j)) → (∀ y, ¬ (0 ≤ y ∧ y < 4) → M1.1 2 y = M.1 2 y ∧ M1.1 5 y = M.1 5 y) → (∀ j, j < 48 → M1.1 3 (j) = M.1 11 (j)) → (∀ y, ¬ (0 ≤ y ∧ y < 48) → M1.1 3 y = M.1 3 y) → M1.1 4 = M.1 4 → yfr [2, 3, 4, 5] [] M M1 → X 63 [(0, .ref 0)] [] M1 := by
      intro M1 q1 o1 q2 o2 q3 f1
      refine hb63 _ _ _ ?_
      simp (maxSteps := 2000000) [bk_X7_keepsTried_0, bk_X7_keepsTried_2, bk_X7_keepsTried_37, bk_X7_keepsTried_39, bk_X7_keepsTried_63, pm_arr, pm_e_c0, pm_e_c1, pm_e_cti, pm_e_ctl, pm_e_ctr, pm_e_go, pm_e_i, pm_e_ii, pm_e_ldi, pm_e_ldr, pm_e_lk, pm_e_r, pm_e_ri, pm_e_rii, pm_e_rm0, pm_e_rm1, pm_e_rs0, pm_e_rs1, pm_e_wp0, pm_e_wp1, pm_f2, pm_f3, pm_fld, pm_fv, pm_obj, pm_s_aload_n, pm_s_bipush, pm_s_getfield, pm_s_goto, pm_s_iaload, pm_s_iastore, pm_s_iconst, pm_s_if_icmp_ge, pm_s_iinc, pm_s_iload_n, pm_s_istore_n, pm_s_return, ct_X7_keepsTried, pS, pR, pC, pE, pL, -Int32.not_le, -Int32.not_lt, -Int64.not_le, -Int64.not_lt, -List.getD_eq_getElem?_getD, sy_0, sy_2, sy_3, sy_4, sy_5, sy_10, sy_11, sy_12, sy_13]
      simp (disch := omega) only [ni_in, ni_cl, ni_add, ni_mul, ni_sub, ni_lt, ni_le, ni_eq, ni_eq0, ni_lt0, ni_0le, ni_0lt, ni_le0, ni_a1, ni_a3, ni_a7, ni_a15]
      repeat refine ⟨by omega, ?_⟩
      have e0 : M1.1 12 (0) = M.1 12 (0) := by exact f1.i (by decide) (by decide) _
      have e1 : (pm_set M1 4 (0) (M1.1 12 (0))).1 12 (1) = M.1 12 (1) := by
        simp [pm_set]; exact f1.i (by decide) (by decide) _
      rw [e1, e0]
      refine hT _ ⟨fun i hi => ⟨?_, ?_⟩, fun x hx => ?_, fun j hj => ?_⟩ ⟨fun y hy => ⟨?_, ?_⟩, fun y hy => ?_, fun y hy => ?_⟩ ?_
      · have := (q1 i hi).1; simp only [me_1]; simp; simpa using this
      · have := (q1 i hi).2; simp only [me_1]; simp; simpa using this
      · have := q2 x hx; simp only [me_1]; simp; simpa using this
      · rcases (show j = 0 ∨ j = 1 by omega) with rfl | rfl <;> simp [pm_set]
      · have := (o1 y (by omega)).1; simp only [me_1]; simp; exact this
      · have := (o1 y (by omega)).2; simp only [me_1]; simp; exact this
      · have := o2 y (by omega); simp only [me_1]; simp; exact this
      · have hyy : M1.1 4 y = M.1 4 y := by rw [q3]
        simp only [me_1]; simp; rw [if_neg (by omega), if_neg (by omega)]; exact hyy
      · exact ((f1.mono (by decide) (by decide)).set (q := 4) (by decide) (by decide)).set (q := 4) (by decide) (by decide)
    have loop2 : ∀ (f i : Nat) (M1 : pm_M), 48 ≤ i + f → i ≤ 48 → (∀ j, j < 4 → M1.1 2 (j) = M.1 10 (j) ∧ M1.1 5 (j) = M.1 13 (j)) → (∀ y, ¬ (0 ≤ y ∧ y < 4) → M1.1 2 y = M.1 2 y ∧ M1.1 5 y = M.1 5 y) → (∀ j, j < i → M1.1 3 (j) = M.1 11 (j)) → (∀ y, ¬ (0 ≤ y ∧ y < i) → M1.1 3 y = M.1 3 y) → M1.1 4 = M.1 4 → yfr [2, 3, 4, 5] [] M M1 → X 39 [(0, .ref 0), (1, .int (nI i))] [] M1 := by
      intro f
      induction f with
      | zero =>
        intro i M1 g1 g2 q1 o1 q2 o2 q3 f1
        have e : i = 48 := by omega
        subst e
        refine hb39 _ _ _ ?_
        simp (maxSteps := 2000000) [bk_X7_keepsTried_0, bk_X7_keepsTried_2, bk_X7_keepsTried_37, bk_X7_keepsTried_39, bk_X7_keepsTried_63, pm_arr, pm_e_c0, pm_e_c1, pm_e_cti, pm_e_ctl, pm_e_ctr, pm_e_go, pm_e_i, pm_e_ii, pm_e_ldi, pm_e_ldr, pm_e_lk, pm_e_r, pm_e_ri, pm_e_rii, pm_e_rm0, pm_e_rm1, pm_e_rs0, pm_e_rs1, pm_e_wp0, pm_e_wp1, pm_f2, pm_f3, pm_fld, pm_fv, pm_obj, pm_s_aload_n, pm_s_bipush, pm_s_getfield, pm_s_goto, pm_s_iaload, pm_s_iastore, pm_s_iconst, pm_s_if_icmp_ge, pm_s_iinc, pm_s_iload_n, pm_s_istore_n, pm_s_return, ct_X7_keepsTried, pS, pR, pC, pE, pL, -Int32.not_le, -Int32.not_lt, -Int64.not_le, -Int64.not_lt, -List.getD_eq_getElem?_getD]
        exact out M1 q1 o1 q2 o2 q3 f1
      | succ f ih =>
        intro i M1 g1 g2 q1 o1 q2 o2 q3 f1
        by_cases hi : i < 48
        · refine hb39 _ _ _ ?_
          simp (maxSteps := 2000000) [bk_X7_keepsTried_0, bk_X7_keepsTried_2, bk_X7_keepsTried_37, bk_X7_keepsTried_39, bk_X7_keepsTried_63, pm_arr, pm_e_c0, pm_e_c1, pm_e_cti, pm_e_ctl, pm_e_ctr, pm_e_go, pm_e_i, pm_e_ii, pm_e_ldi, pm_e_ldr, pm_e_lk, pm_e_r, pm_e_ri, pm_e_rii, pm_e_rm0, pm_e_rm1, pm_e_rs0, pm_e_rs1, pm_e_wp0, pm_e_wp1, pm_f2, pm_f3, pm_fld, pm_fv, pm_obj, pm_s_aload_n, pm_s_bipush, pm_s_getfield, pm_s_goto, pm_s_iaload, pm_s_iastore, pm_s_iconst, pm_s_if_icmp_ge, pm_s_iinc, pm_s_iload_n, pm_s_istore_n, pm_s_return, ct_X7_keepsTried, pS, pR, pC, pE, pL, -Int32.not_le, -Int32.not_lt, -Int64.not_le, -Int64.not_lt, -List.getD_eq_getElem?_getD, sy_0, sy_2, sy_3, sy_4, sy_5, sy_10, sy_11, sy_12, sy_13]
          simp (disch := omega) only [ni_in, ni_cl, ni_add, ni_mul, ni_sub, ni_lt, ni_le, ni_eq, ni_eq0, ni_lt0, ni_0le, ni_0lt, ni_le0, ni_a1, ni_a3, ni_a7, ni_a15]
          refine ⟨fun h => by omega, fun _ => ?_⟩
          repeat refine ⟨by omega, ?_⟩
          have e0 : M1.1 11 (i) = M.1 11 (i) := f1.i (by decide) (by decide) _
          rw [e0]
          refine ih (i + 1) _ (by omega) (by omega) (fun j hj => ?_) (fun y hy => ?_) (fun j hj => ?_) (fun y hy => ?_) ?_ (f1.set (by decide) (by decide))
          · have := q1 j hj; simp only [me_1]; simp; exact this
          · have := o1 y hy; simp only [me_1]; simp; exact this
          · rw [me_1s]
            by_cases z : j = i
            · rw [z, if_pos rfl]
            · rw [if_neg (by omega)]; exact q2 j (by omega)
          · rw [me_1s, if_neg (by omega)]; exact o2 y (by omega)
          · rw [← q3]; funext y; simp [pm_set]
        · have e : i = 48 := by omega
          subst e
          refine hb39 _ _ _ ?_
          simp (maxSteps := 2000000) [bk_X7_keepsTried_0, bk_X7_keepsTried_2, bk_X7_keepsTried_37, bk_X7_keepsTried_39, bk_X7_keepsTried_63, pm_arr, pm_e_c0, pm_e_c1, pm_e_cti, pm_e_ctl, pm_e_ctr, pm_e_go, pm_e_i, pm_e_ii, pm_e_ldi, pm_e_ldr, pm_e_lk, pm_e_r, pm_e_ri, pm_e_rii, pm_e_rm0, pm_e_rm1, pm_e_rs0, pm_e_rs1, pm_e_wp0, pm_e_wp1, pm_f2, pm_f3, pm_fld, pm_fv, pm_obj, pm_s_aload_n, pm_s_bipush, pm_s_getfield, pm_s_goto, pm_s_iaload, pm_s_iastore, pm_s_iconst, pm_s_if_icmp_ge, pm_s_iinc, pm_s_iload_n, pm_s_istore_n, pm_s_return, ct_X7_keepsTried, pS, pR, pC, pE, pL, -Int32.not_le, -Int32.not_lt, -Int64.not_le, -Int64.not_lt, -List.getD_eq_getElem?_getD]
          exact out M1 q1 o1 q2 o2 q3 f1
    have hmid : ∀ M1 : pm_M, (∀ j, j < 4 → M1.1 2 (j) = M.1 10 (j) ∧ M1.1 5 (j) = M.1 13 (j)) → (∀ y, ¬ (0 ≤ y ∧ y < 4) → M1.1 2 y = M.1 2 y ∧ M1.1 5 y = M.1 5 y) → M1.1 3 = M.1 3 → M1.1 4 = M.1 4 → yfr [2, 3, 4, 5] [] M M1 → X 37 [(0, .ref 0)] [] M1 := by
      intro M1 q1 o1 q2 q3 f1
      refine hb37 _ _ _ ?_
      simp (maxSteps := 2000000) [bk_X7_keepsTried_0, bk_X7_keepsTried_2, bk_X7_keepsTried_37, bk_X7_keepsTried_39, bk_X7_keepsTried_63, pm_arr, pm_e_c0, pm_e_c1, pm_e_cti, pm_e_ctl, pm_e_ctr, pm_e_go, pm_e_i, pm_e_ii, pm_e_ldi, pm_e_ldr, pm_e_lk, pm_e_r, pm_e_ri, pm_e_rii, pm_e_rm0, pm_e_rm1, pm_e_rs0, pm_e_rs1, pm_e_wp0, pm_e_wp1, pm_f2, pm_f3, pm_fld, pm_fv, pm_obj, pm_s_aload_n, pm_s_bipush, pm_s_getfield, pm_s_goto, pm_s_iaload, pm_s_iastore, pm_s_iconst, pm_s_if_icmp_ge, pm_s_iinc, pm_s_iload_n, pm_s_istore_n, pm_s_return, ct_X7_keepsTried, pS, pR, pC, pE, pL, -Int32.not_le, -Int32.not_lt, -Int64.not_le, -Int64.not_lt, -List.getD_eq_getElem?_getD]
      exact loop2 48 0 M1 (by omega) (by omega) q1 o1 (fun j hj => by omega) (fun y _ => by rw [q2]) q3 f1
    have loop1 : ∀ (f i : Nat) (M1 : pm_M), 4 ≤ i + f → i ≤ 4 → (∀ j, j < i → M1.1 2 (j) = M.1 10 (j) ∧ M1.1 5 (j) = M.1 13 (j)) → (∀ y, ¬ (0 ≤ y ∧ y < i) → M1.1 2 y = M.1 2 y ∧ M1.1 5 y = M.1 5 y) → M1.1 3 = M.1 3 → M1.1 4 = M.1 4 → yfr [2, 3, 4, 5] [] M M1 → X 2 [(0, .ref 0), (1, .int (nI i))] [] M1 := by
      intro f
      induction f with
      | zero =>
        intro i M1 g1 g2 q1 o1 q2 q3 f1
        have e : i = 4 := by omega
        subst e
        refine hb2 _ _ _ ?_
        simp (maxSteps := 2000000) [bk_X7_keepsTried_0, bk_X7_keepsTried_2, bk_X7_keepsTried_37, bk_X7_keepsTried_39, bk_X7_keepsTried_63, pm_arr, pm_e_c0, pm_e_c1, pm_e_cti, pm_e_ctl, pm_e_ctr, pm_e_go, pm_e_i, pm_e_ii, pm_e_ldi, pm_e_ldr, pm_e_lk, pm_e_r, pm_e_ri, pm_e_rii, pm_e_rm0, pm_e_rm1, pm_e_rs0, pm_e_rs1, pm_e_wp0, pm_e_wp1, pm_f2, pm_f3, pm_fld, pm_fv, pm_obj, pm_s_aload_n, pm_s_bipush, pm_s_getfield, pm_s_goto, pm_s_iaload, pm_s_iastore, pm_s_iconst, pm_s_if_icmp_ge, pm_s_iinc, pm_s_iload_n, pm_s_istore_n, pm_s_return, ct_X7_keepsTried, pS, pR, pC, pE, pL, -Int32.not_le, -Int32.not_lt, -Int64.not_le, -Int64.not_lt, -List.getD_eq_getElem?_getD]
        exact hmid M1 q1 o1 q2 q3 f1
      | succ f ih =>
        intro i M1 g1 g2 q1 o1 q2 q3 f1
        by_cases hi : i < 4
        · refine hb2 _ _ _ ?_
          simp (maxSteps := 2000000) [bk_X7_keepsTried_0, bk_X7_keepsTried_2, bk_X7_keepsTried_37, bk_X7_keepsTried_39, bk_X7_keepsTried_63, pm_arr, pm_e_c0, pm_e_c1, pm_e_cti, pm_e_ctl, pm_e_ctr, pm_e_go, pm_e_i, pm_e_ii, pm_e_ldi, pm_e_ldr, pm_e_lk, pm_e_r, pm_e_ri, pm_e_rii, pm_e_rm0, pm_e_rm1, pm_e_rs0, pm_e_rs1, pm_e_wp0, pm_e_wp1, pm_f2, pm_f3, pm_fld, pm_fv, pm_obj, pm_s_aload_n, pm_s_bipush, pm_s_getfield, pm_s_goto, pm_s_iaload, pm_s_iastore, pm_s_iconst, pm_s_if_icmp_ge, pm_s_iinc, pm_s_iload_n, pm_s_istore_n, pm_s_return, ct_X7_keepsTried, pS, pR, pC, pE, pL, -Int32.not_le, -Int32.not_lt, -Int64.not_le, -Int64.not_lt, -List.getD_eq_getElem?_getD, sy_0, sy_2, sy_3, sy_4, sy_5, sy_10, sy_11, sy_12, sy_13]
          simp (disch := omega) only [ni_in, ni_cl, ni_add, ni_mul, ni_sub, ni_lt, ni_le, ni_eq, ni_eq0, ni_lt0, ni_0le, ni_0lt, ni_le0, ni_a1, ni_a3, ni_a7, ni_a15]
          refine ⟨fun h => by omega, fun _ => ?_⟩
          repeat refine ⟨by omega, ?_⟩
          have e0 : M1.1 10 (i) = M.1 10 (i) := f1.i (by decide) (by decide) _
          have e1 : (pm_set M1 2 (i) (M1.1 10 (i))).1 13 (i) = M.1 13 (i) := by
            simp [pm_set]; exact f1.i (by decide) (by decide) _
          rw [e1, e0]
          refine ih (i + 1) _ (by omega) (by omega) (fun j hj => ?_) (fun y hy => ?_) ?_ ?_ ((f1.set (by decide) (by decide)).set (by decide) (by decide))
          · simp only [me_1]; simp
            by_cases z : j = i
            · simp [z]
            · simp [z]; exact q1 j (by omega)
          · simp only [me_1]; simp
            rw [if_neg (by omega), if_neg (by omega)]; exact o1 y (by omega)
          · rw [← q2]; funext y; simp [pm_set]
          · rw [← q3]; funext y; simp [pm_set]
        · have e : i = 4 := by omega
          subst e
          refine hb2 _ _ _ ?_
          simp (maxSteps := 2000000) [bk_X7_keepsTried_0, bk_X7_keepsTried_2, bk_X7_keepsTried_37, bk_X7_keepsTried_39, bk_X7_keepsTried_63, pm_arr, pm_e_c0, pm_e_c1, pm_e_cti, pm_e_ctl, pm_e_ctr, pm_e_go, pm_e_i, pm_e_ii, pm_e_ldi, pm_e_ldr, pm_e_lk, pm_e_r, pm_e_ri, pm_e_rii, pm_e_rm0, pm_e_rm1, pm_e_rs0, pm_e_rs1, pm_e_wp0, pm_e_wp1, pm_f2, pm_f3, pm_fld, pm_fv, pm_obj, pm_s_aload_n, pm_s_bipush, pm_s_getfield, pm_s_goto, pm_s_iaload, pm_s_iastore, pm_s_iconst, pm_s_if_icmp_ge, pm_s_iinc, pm_s_iload_n, pm_s_istore_n, pm_s_return, ct_X7_keepsTried, pS, pR, pC, pE, pL, -Int32.not_le, -Int32.not_lt, -Int64.not_le, -Int64.not_lt, -List.getD_eq_getElem?_getD]
          exact hmid M1 q1 o1 q2 q3 f1
    refine hb0 _ _ _ ?_
    simp (maxSteps := 2000000) [bk_X7_keepsTried_0, bk_X7_keepsTried_2, bk_X7_keepsTried_37, bk_X7_keepsTried_39, bk_X7_keepsTried_63, pm_arr, pm_e_c0, pm_e_c1, pm_e_cti, pm_e_ctl, pm_e_ctr, pm_e_go, pm_e_i, pm_e_ii, pm_e_ldi, pm_e_ldr, pm_e_lk, pm_e_r, pm_e_ri, pm_e_rii, pm_e_rm0, pm_e_rm1, pm_e_rs0, pm_e_rs1, pm_e_wp0, pm_e_wp1, pm_f2, pm_f3, pm_fld, pm_fv, pm_obj, pm_s_aload_n, pm_s_bipush, pm_s_getfield, pm_s_goto, pm_s_iaload, pm_s_iastore, pm_s_iconst, pm_s_if_icmp_ge, pm_s_iinc, pm_s_iload_n, pm_s_istore_n, pm_s_return, ct_X7_keepsTried, pS, pR, pC, pE, pL, -Int32.not_le, -Int32.not_lt, -Int64.not_le, -Int64.not_lt, -List.getD_eq_getElem?_getD, lv_args]
    exact loop1 4 0 M (by omega) (by omega) (fun j hj => by omega) (fun _ _ => ⟨rfl, rfl⟩) rfl rfl yfr.rfl
  · exact hT.elim
def tt_X7_remember : pm_T := fun args M k => match args with
  | [.ref 0] => ∀ M', cpY M M' 10 0 26 0 → keY M M' 26 0 → yfr [26, 27, 28, 29] [] M M' → k none M'
  | _ => False
abbrev ct_X7_remember : List pm_C := []
set_option maxHeartbeats 4000000 in
theorem sm_X7_remember  : pm_Sem SHy yX7_remember cX7_remember 2 none 1 tt_X7_remember := by
  refine pm_Sem_intro bl_X7_remember ct_X7_remember cs_X7_remember rfl (fun _ h => absurd h List.not_mem_nil) ck_X7_remember (by decide +kernel) (by decide) ?_
  intro X k hX args M hT
  have hb0 := hX 0 bk_X7_remember_0 (List.mem_of_getElem? (i := 0) rfl)
  have hb2 := hX 2 bk_X7_remember_2 (List.mem_of_getElem? (i := 1) rfl)
  have hb37 := hX 37 bk_X7_remember_37 (List.mem_of_getElem? (i := 2) rfl)
  have hb39 := hX 39 bk_X7_remember_39 (List.mem_of_getElem? (i := 3) rfl)
  have hb63 := hX 63 bk_X7_remember_63 (List.mem_of_getElem? (i := 4) rfl)
  clear hX
  unfold tt_X7_remember at hT; split at hT
  · skip
    refine ⟨by simp [lg_sl, Value.category], ?_⟩
    have out : ∀ M1 : pm_M, (∀ j, j < 4 → M1.1 26 (j) = M.1 10 (j) ∧ M1.1 29 (j) = M.1 13 (j)) → (∀ y, ¬ (0 ≤ y ∧ y < 4) → M1.1 26 y = M.1 26 y ∧ M1.1 29 y = M.1 29 y) → (∀ j, j < 48 → M1.1 27 (j) = M.1 11 (j)) → (∀ y, ¬ (0 ≤ y ∧ y < 48) → M1.1 27 y = M.1 27 y) → M1.1 28 = M.1 28 → yfr [26, 27, 28, 29] [] M M1 → X 63 [(0, .ref 0)] [] M1 := by
      intro M1 q1 o1 q2 o2 q3 f1
      refine hb63 _ _ _ ?_
      simp (maxSteps := 2000000) [bk_X7_remember_0, bk_X7_remember_2, bk_X7_remember_37, bk_X7_remember_39, bk_X7_remember_63, pm_arr, pm_e_c0, pm_e_c1, pm_e_cti, pm_e_ctl, pm_e_ctr, pm_e_go, pm_e_i, pm_e_ii, pm_e_ldi, pm_e_ldr, pm_e_lk, pm_e_r, pm_e_ri, pm_e_rii, pm_e_rm0, pm_e_rm1, pm_e_rs0, pm_e_rs1, pm_e_wp0, pm_e_wp1, pm_f2, pm_f3, pm_fld, pm_fv, pm_obj, pm_s_aload_n, pm_s_bipush, pm_s_getfield, pm_s_goto, pm_s_iaload, pm_s_iastore, pm_s_iconst, pm_s_if_icmp_ge, pm_s_iinc, pm_s_iload_n, pm_s_istore_n, pm_s_return, ct_X7_remember, pS, pR, pC, pE, pL, -Int32.not_le, -Int32.not_lt, -Int64.not_le, -Int64.not_lt, -List.getD_eq_getElem?_getD, sy_0, sy_10, sy_11, sy_12, sy_13, sy_26, sy_27, sy_28, sy_29]
      simp (disch := omega) only [ni_in, ni_cl, ni_add, ni_mul, ni_sub, ni_lt, ni_le, ni_eq, ni_eq0, ni_lt0, ni_0le, ni_0lt, ni_le0, ni_a1, ni_a3, ni_a7, ni_a15]
      repeat refine ⟨by omega, ?_⟩
      have e0 : M1.1 12 (0) = M.1 12 (0) := by exact f1.i (by decide) (by decide) _
      have e1 : (pm_set M1 28 (0) (M1.1 12 (0))).1 12 (1) = M.1 12 (1) := by
        simp [pm_set]; exact f1.i (by decide) (by decide) _
      rw [e1, e0]
      refine hT _ ⟨fun i hi => ⟨?_, ?_⟩, fun x hx => ?_, fun j hj => ?_⟩ ⟨fun y hy => ⟨?_, ?_⟩, fun y hy => ?_, fun y hy => ?_⟩ ?_
      · have := (q1 i hi).1; simp only [me_1]; simp; simpa using this
      · have := (q1 i hi).2; simp only [me_1]; simp; simpa using this
      · have := q2 x hx; simp only [me_1]; simp; simpa using this
      · rcases (show j = 0 ∨ j = 1 by omega) with rfl | rfl <;> simp [pm_set]
      · have := (o1 y (by omega)).1; simp only [me_1]; simp; exact this
      · have := (o1 y (by omega)).2; simp only [me_1]; simp; exact this
      · have := o2 y (by omega); simp only [me_1]; simp; exact this
      · have hyy : M1.1 28 y = M.1 28 y := by rw [q3]
        simp only [me_1]; simp; rw [if_neg (by omega), if_neg (by omega)]; exact hyy
      · exact ((f1.mono (by decide) (by decide)).set (q := 28) (by decide) (by decide)).set (q := 28) (by decide) (by decide)
    have loop2 : ∀ (f i : Nat) (M1 : pm_M), 48 ≤ i + f → i ≤ 48 → (∀ j, j < 4 → M1.1 26 (j) = M.1 10 (j) ∧ M1.1 29 (j) = M.1 13 (j)) → (∀ y, ¬ (0 ≤ y ∧ y < 4) → M1.1 26 y = M.1 26 y ∧ M1.1 29 y = M.1 29 y) → (∀ j, j < i → M1.1 27 (j) = M.1 11 (j)) → (∀ y, ¬ (0 ≤ y ∧ y < i) → M1.1 27 y = M.1 27 y) → M1.1 28 = M.1 28 → yfr [26, 27, 28, 29] [] M M1 → X 39 [(0, .ref 0), (1, .int (nI i))] [] M1 := by
      intro f
      induction f with
      | zero =>
        intro i M1 g1 g2 q1 o1 q2 o2 q3 f1
        have e : i = 48 := by omega
        subst e
        refine hb39 _ _ _ ?_
        simp (maxSteps := 2000000) [bk_X7_remember_0, bk_X7_remember_2, bk_X7_remember_37, bk_X7_remember_39, bk_X7_remember_63, pm_arr, pm_e_c0, pm_e_c1, pm_e_cti, pm_e_ctl, pm_e_ctr, pm_e_go, pm_e_i, pm_e_ii, pm_e_ldi, pm_e_ldr, pm_e_lk, pm_e_r, pm_e_ri, pm_e_rii, pm_e_rm0, pm_e_rm1, pm_e_rs0, pm_e_rs1, pm_e_wp0, pm_e_wp1, pm_f2, pm_f3, pm_fld, pm_fv, pm_obj, pm_s_aload_n, pm_s_bipush, pm_s_getfield, pm_s_goto, pm_s_iaload, pm_s_iastore, pm_s_iconst, pm_s_if_icmp_ge, pm_s_iinc, pm_s_iload_n, pm_s_istore_n, pm_s_return, ct_X7_remember, pS, pR, pC, pE, pL, -Int32.not_le, -Int32.not_lt, -Int64.not_le, -Int64.not_lt, -List.getD_eq_getElem?_getD]
        exact out M1 q1 o1 q2 o2 q3 f1
      | succ f ih =>
        intro i M1 g1 g2 q1 o1 q2 o2 q3 f1
        by_cases hi : i < 48
        · refine hb39 _ _ _ ?_
          simp (maxSteps := 2000000) [bk_X7_remember_0, bk_X7_remember_2, bk_X7_remember_37, bk_X7_remember_39, bk_X7_remember_63, pm_arr, pm_e_c0, pm_e_c1, pm_e_cti, pm_e_ctl, pm_e_ctr, pm_e_go, pm_e_i, pm_e_ii, pm_e_ldi, pm_e_ldr, pm_e_lk, pm_e_r, pm_e_ri, pm_e_rii, pm_e_rm0, pm_e_rm1, pm_e_rs0, pm_e_rs1, pm_e_wp0, pm_e_wp1, pm_f2, pm_f3, pm_fld, pm_fv, pm_obj, pm_s_aload_n, pm_s_bipush, pm_s_getfield, pm_s_goto, pm_s_iaload, pm_s_iastore, pm_s_iconst, pm_s_if_icmp_ge, pm_s_iinc, pm_s_iload_n, pm_s_istore_n, pm_s_return, ct_X7_remember, pS, pR, pC, pE, pL, -Int32.not_le, -Int32.not_lt, -Int64.not_le, -Int64.not_lt, -List.getD_eq_getElem?_getD, sy_0, sy_10, sy_11, sy_12, sy_13, sy_26, sy_27, sy_28, sy_29]
          simp (disch := omega) only [ni_in, ni_cl, ni_add, ni_mul, ni_sub, ni_lt, ni_le, ni_eq, ni_eq0, ni_lt0, ni_0le, ni_0lt, ni_le0, ni_a1, ni_a3, ni_a7, ni_a15]
          refine ⟨fun h => by omega, fun _ => ?_⟩
          repeat refine ⟨by omega, ?_⟩
          have e0 : M1.1 11 (i) = M.1 11 (i) := f1.i (by decide) (by decide) _
          rw [e0]
          refine ih (i + 1) _ (by omega) (by omega) (fun j hj => ?_) (fun y hy => ?_) (fun j hj => ?_) (fun y hy => ?_) ?_ (f1.set (by decide) (by decide))
          · have := q1 j hj; simp only [me_1]; simp; exact this
          · have := o1 y hy; simp only [me_1]; simp; exact this
          · rw [me_1s]
            by_cases z : j = i
            · rw [z, if_pos rfl]
            · rw [if_neg (by omega)]; exact q2 j (by omega)
          · rw [me_1s, if_neg (by omega)]; exact o2 y (by omega)
          · rw [← q3]; funext y; simp [pm_set]
        · have e : i = 48 := by omega
          subst e
          refine hb39 _ _ _ ?_
          simp (maxSteps := 2000000) [bk_X7_remember_0, bk_X7_remember_2, bk_X7_remember_37, bk_X7_remember_39, bk_X7_remember_63, pm_arr, pm_e_c0, pm_e_c1, pm_e_cti, pm_e_ctl, pm_e_ctr, pm_e_go, pm_e_i, pm_e_ii, pm_e_ldi, pm_e_ldr, pm_e_lk, pm_e_r, pm_e_ri, pm_e_rii, pm_e_rm0, pm_e_rm1, pm_e_rs0, pm_e_rs1, pm_e_wp0, pm_e_wp1, pm_f2, pm_f3, pm_fld, pm_fv, pm_obj, pm_s_aload_n, pm_s_bipush, pm_s_getfield, pm_s_goto, pm_s_iaload, pm_s_iastore, pm_s_iconst, pm_s_if_icmp_ge, pm_s_iinc, pm_s_iload_n, pm_s_istore_n, pm_s_return, ct_X7_remember, pS, pR, pC, pE, pL, -Int32.not_le, -Int32.not_lt, -Int64.not_le, -Int64.not_lt, -List.getD_eq_getElem?_getD]
          exact out M1 q1 o1 q2 o2 q3 f1
    have hmid : ∀ M1 : pm_M, (∀ j, j < 4 → M1.1 26 (j) = M.1 10 (j) ∧ M1.1 29 (j) = M.1 13 (j)) → (∀ y, ¬ (0 ≤ y ∧ y < 4) → M1.1 26 y = M.1 26 y ∧ M1.1 29 y = M.1 29 y) → M1.1 27 = M.1 27 → M1.1 28 = M.1 28 → yfr [26, 27, 28, 29] [] M M1 → X 37 [(0, .ref 0)] [] M1 := by
      intro M1 q1 o1 q2 q3 f1
      refine hb37 _ _ _ ?_
      simp (maxSteps := 2000000) [bk_X7_remember_0, bk_X7_remember_2, bk_X7_remember_37, bk_X7_remember_39, bk_X7_remember_63, pm_arr, pm_e_c0, pm_e_c1, pm_e_cti, pm_e_ctl, pm_e_ctr, pm_e_go, pm_e_i, pm_e_ii, pm_e_ldi, pm_e_ldr, pm_e_lk, pm_e_r, pm_e_ri, pm_e_rii, pm_e_rm0, pm_e_rm1, pm_e_rs0, pm_e_rs1, pm_e_wp0, pm_e_wp1, pm_f2, pm_f3, pm_fld, pm_fv, pm_obj, pm_s_aload_n, pm_s_bipush, pm_s_getfield, pm_s_goto, pm_s_iaload, pm_s_iastore, pm_s_iconst, pm_s_if_icmp_ge, pm_s_iinc, pm_s_iload_n, pm_s_istore_n, pm_s_return, ct_X7_remember, pS, pR, pC, pE, pL, -Int32.not_le, -Int32.not_lt, -Int64.not_le, -Int64.not_lt, -List.getD_eq_getElem?_getD]
      exact loop2 48 0 M1 (by omega) (by omega) q1 o1 (fun j hj => by omega) (fun y _ => by rw [q2]) q3 f1
    have loop1 : ∀ (f i : Nat) (M1 : pm_M), 4 ≤ i + f → i ≤ 4 → (∀ j, j < i → M1.1 26 (j) = M.1 10 (j) ∧ M1.1 29 (j) = M.1 13 (j)) → (∀ y, ¬ (0 ≤ y ∧ y < i) → M1.1 26 y = M.1 26 y ∧ M1.1 29 y = M.1 29 y) → M1.1 27 = M.1 27 → M1.1 28 = M.1 28 → yfr [26, 27, 28, 29] [] M M1 → X 2 [(0, .ref 0), (1, .int (nI i))] [] M1 := by
      intro f
      induction f with
      | zero =>
        intro i M1 g1 g2 q1 o1 q2 q3 f1
        have e : i = 4 := by omega
        subst e
        refine hb2 _ _ _ ?_
        simp (maxSteps := 2000000) [bk_X7_remember_0, bk_X7_remember_2, bk_X7_remember_37, bk_X7_remember_39, bk_X7_remember_63, pm_arr, pm_e_c0, pm_e_c1, pm_e_cti, pm_e_ctl, pm_e_ctr, pm_e_go, pm_e_i, pm_e_ii, pm_e_ldi, pm_e_ldr, pm_e_lk, pm_e_r, pm_e_ri, pm_e_rii, pm_e_rm0, pm_e_rm1, pm_e_rs0, pm_e_rs1, pm_e_wp0, pm_e_wp1, pm_f2, pm_f3, pm_fld, pm_fv, pm_obj, pm_s_aload_n, pm_s_bipush, pm_s_getfield, pm_s_goto, pm_s_iaload, pm_s_iastore, pm_s_iconst, pm_s_if_icmp_ge, pm_s_iinc, pm_s_iload_n, pm_s_istore_n, pm_s_return, ct_X7_remember, pS, pR, pC, pE, pL, -Int32.not_le, -Int32.not_lt, -Int64.not_le, -Int64.not_lt, -List.getD_eq_getElem?_getD]
        exact hmid M1 q1 o1 q2 q3 f1
      | succ f ih =>
        intro i M1 g1 g2 q1 o1 q2 q3 f1
        by_cases hi : i < 4
        · refine hb2 _ _ _ ?_
          simp (maxSteps := 2000000) [bk_X7_remember_0, bk_X7_remember_2, bk_X7_remember_37, bk_X7_remember_39, bk_X7_remember_63, pm_arr, pm_e_c0, pm_e_c1, pm_e_cti, pm_e_ctl, pm_e_ctr, pm_e_go, pm_e_i, pm_e_ii, pm_e_ldi, pm_e_ldr, pm_e_lk, pm_e_r, pm_e_ri, pm_e_rii, pm_e_rm0, pm_e_rm1, pm_e_rs0, pm_e_rs1, pm_e_wp0, pm_e_wp1, pm_f2, pm_f3, pm_fld, pm_fv, pm_obj, pm_s_aload_n, pm_s_bipush, pm_s_getfield, pm_s_goto, pm_s_iaload, pm_s_iastore, pm_s_iconst, pm_s_if_icmp_ge, pm_s_iinc, pm_s_iload_n, pm_s_istore_n, pm_s_return, ct_X7_remember, pS, pR, pC, pE, pL, -Int32.not_le, -Int32.not_lt, -Int64.not_le, -Int64.not_lt, -List.getD_eq_getElem?_getD, sy_0, sy_10, sy_11, sy_12, sy_13, sy_26, sy_27, sy_28, sy_29]
          simp (disch := omega) only [ni_in, ni_cl, ni_add, ni_mul, ni_sub, ni_lt, ni_le, ni_eq, ni_eq0, ni_lt0, ni_0le, ni_0lt, ni_le0, ni_a1, ni_a3, ni_a7, ni_a15]
          refine ⟨fun h => by omega, fun _ => ?_⟩
          repeat refine ⟨by omega, ?_⟩
          have e0 : M1.1 10 (i) = M.1 10 (i) := f1.i (by decide) (by decide) _
          have e1 : (pm_set M1 26 (i) (M1.1 10 (i))).1 13 (i) = M.1 13 (i) := by
            simp [pm_set]; exact f1.i (by decide) (by decide) _
          rw [e1, e0]
          refine ih (i + 1) _ (by omega) (by omega) (fun j hj => ?_) (fun y hy => ?_) ?_ ?_ ((f1.set (by decide) (by decide)).set (by decide) (by decide))
          · simp only [me_1]; simp
            by_cases z : j = i
            · simp [z]
            · simp [z]; exact q1 j (by omega)
          · simp only [me_1]; simp
            rw [if_neg (by omega), if_neg (by omega)]; exact o1 y (by omega)
          · rw [← q2]; funext y; simp [pm_set]
          · rw [← q3]; funext y; simp [pm_set]
        · have e : i = 4 := by omega
          subst e
          refine hb2 _ _ _ ?_
          simp (maxSteps := 2000000) [bk_X7_remember_0, bk_X7_remember_2, bk_X7_remember_37, bk_X7_remember_39, bk_X7_remember_63, pm_arr, pm_e_c0, pm_e_c1, pm_e_cti, pm_e_ctl, pm_e_ctr, pm_e_go, pm_e_i, pm_e_ii, pm_e_ldi, pm_e_ldr, pm_e_lk, pm_e_r, pm_e_ri, pm_e_rii, pm_e_rm0, pm_e_rm1, pm_e_rs0, pm_e_rs1, pm_e_wp0, pm_e_wp1, pm_f2, pm_f3, pm_fld, pm_fv, pm_obj, pm_s_aload_n, pm_s_bipush, pm_s_getfield, pm_s_goto, pm_s_iaload, pm_s_iastore, pm_s_iconst, pm_s_if_icmp_ge, pm_s_iinc, pm_s_iload_n, pm_s_istore_n, pm_s_return, ct_X7_remember, pS, pR, pC, pE, pL, -Int32.not_le, -Int32.not_lt, -Int64.not_le, -Int64.not_lt, -List.getD_eq_getElem?_getD]
          exact hmid M1 q1 o1 q2 q3 f1
    refine hb0 _ _ _ ?_
    simp (maxSteps := 2000000) [bk_X7_remember_0, bk_X7_remember_2, bk_X7_remember_37, bk_X7_remember_39, bk_X7_remember_63, pm_arr, pm_e_c0, pm_e_c1, pm_e_cti, pm_e_ctl, pm_e_ctr, pm_e_go, pm_e_i, pm_e_ii, pm_e_ldi, pm_e_ldr, pm_e_lk, pm_e_r, pm_e_ri, pm_e_rii, pm_e_rm0, pm_e_rm1, pm_e_rs0, pm_e_rs1, pm_e_wp0, pm_e_wp1, pm_f2, pm_f3, pm_fld, pm_fv, pm_obj, pm_s_aload_n, pm_s_bipush, pm_s_getfield, pm_s_goto, pm_s_iaload, pm_s_iastore, pm_s_iconst, pm_s_if_icmp_ge, pm_s_iinc, pm_s_iload_n, pm_s_istore_n, pm_s_return, ct_X7_remember, pS, pR, pC, pE, pL, -Int32.not_le, -Int32.not_lt, -Int64.not_le, -Int64.not_lt, -List.getD_eq_getElem?_getD, lv_args]
    exact loop1 4 0 M (by omega) (by omega) (fun j hj => by omega) (fun _ _ => ⟨rfl, rfl⟩) rfl rfl yfr.rfl
  · exact hT.elim
def tt_X7_recall : pm_T := fun args M k => match args with
  | [.ref 0] => ∀ M', cpY M M' 26 0 10 0 → keY M M' 10 0 → yfr [10, 11, 12, 13] [] M M' → k none M'
  | _ => False
abbrev ct_X7_recall : List pm_C := []
set_option maxHeartbeats 4000000 in
theorem sm_X7_recall  : pm_Sem SHy yX7_recall cX7_recall 2 none 1 tt_X7_recall := by
  refine pm_Sem_intro bl_X7_recall ct_X7_recall cs_X7_recall rfl (fun _ h => absurd h List.not_mem_nil) ck_X7_recall (by decide +kernel) (by decide) ?_
  intro X k hX args M hT
  have hb0 := hX 0 bk_X7_recall_0 (List.mem_of_getElem? (i := 0) rfl)
  have hb2 := hX 2 bk_X7_recall_2 (List.mem_of_getElem? (i := 1) rfl)
  have hb37 := hX 37 bk_X7_recall_37 (List.mem_of_getElem? (i := 2) rfl)
  have hb39 := hX 39 bk_X7_recall_39 (List.mem_of_getElem? (i := 3) rfl)
  have hb63 := hX 63 bk_X7_recall_63 (List.mem_of_getElem? (i := 4) rfl)
  clear hX
  unfold tt_X7_recall at hT; split at hT
  · skip
    refine ⟨by simp [lg_sl, Value.category], ?_⟩
    have out : ∀ M1 : pm_M, (∀ j, j < 4 → M1.1 10 (j) = M.1 26 (j) ∧ M1.1 13 (j) = M.1 29 (j)) → (∀ y, ¬ (0 ≤ y ∧ y < 4) → M1.1 10 y = M.1 10 y ∧ M1.1 13 y = M.1 13 y) → (∀ j, j < 48 → M1.1 11 (j) = M.1 27 (j)) → (∀ y, ¬ (0 ≤ y ∧ y < 48) → M1.1 11 y = M.1 11 y) → M1.1 12 = M.1 12 → yfr [10, 11, 12, 13] [] M M1 → X 63 [(0, .ref 0)] [] M1 := by
      intro M1 q1 o1 q2 o2 q3 f1
      refine hb63 _ _ _ ?_
      simp (maxSteps := 2000000) [bk_X7_recall_0, bk_X7_recall_2, bk_X7_recall_37, bk_X7_recall_39, bk_X7_recall_63, pm_arr, pm_e_c0, pm_e_c1, pm_e_cti, pm_e_ctl, pm_e_ctr, pm_e_go, pm_e_i, pm_e_ii, pm_e_ldi, pm_e_ldr, pm_e_lk, pm_e_r, pm_e_ri, pm_e_rii, pm_e_rm0, pm_e_rm1, pm_e_rs0, pm_e_rs1, pm_e_wp0, pm_e_wp1, pm_f2, pm_f3, pm_fld, pm_fv, pm_obj, pm_s_aload_n, pm_s_bipush, pm_s_getfield, pm_s_goto, pm_s_iaload, pm_s_iastore, pm_s_iconst, pm_s_if_icmp_ge, pm_s_iinc, pm_s_iload_n, pm_s_istore_n, pm_s_return, ct_X7_recall, pS, pR, pC, pE, pL, -Int32.not_le, -Int32.not_lt, -Int64.not_le, -Int64.not_lt, -List.getD_eq_getElem?_getD, sy_0, sy_10, sy_11, sy_12, sy_13, sy_26, sy_27, sy_28, sy_29]
      simp (disch := omega) only [ni_in, ni_cl, ni_add, ni_mul, ni_sub, ni_lt, ni_le, ni_eq, ni_eq0, ni_lt0, ni_0le, ni_0lt, ni_le0, ni_a1, ni_a3, ni_a7, ni_a15]
      repeat refine ⟨by omega, ?_⟩
      have e0 : M1.1 28 (0) = M.1 28 (0) := by exact f1.i (by decide) (by decide) _
      have e1 : (pm_set M1 12 (0) (M1.1 28 (0))).1 28 (1) = M.1 28 (1) := by
        simp [pm_set]; exact f1.i (by decide) (by decide) _
      rw [e1, e0]
      refine hT _ ⟨fun i hi => ⟨?_, ?_⟩, fun x hx => ?_, fun j hj => ?_⟩ ⟨fun y hy => ⟨?_, ?_⟩, fun y hy => ?_, fun y hy => ?_⟩ ?_
      · have := (q1 i hi).1; simp only [me_1]; simp; simpa using this
      · have := (q1 i hi).2; simp only [me_1]; simp; simpa using this
      · have := q2 x hx; simp only [me_1]; simp; simpa using this
      · rcases (show j = 0 ∨ j = 1 by omega) with rfl | rfl <;> simp [pm_set]
      · have := (o1 y (by omega)).1; simp only [me_1]; simp; exact this
      · have := (o1 y (by omega)).2; simp only [me_1]; simp; exact this
      · have := o2 y (by omega); simp only [me_1]; simp; exact this
      · have hyy : M1.1 12 y = M.1 12 y := by rw [q3]
        simp only [me_1]; simp; rw [if_neg (by omega), if_neg (by omega)]; exact hyy
      · exact ((f1.mono (by decide) (by decide)).set (q := 12) (by decide) (by decide)).set (q := 12) (by decide) (by decide)
    have loop2 : ∀ (f i : Nat) (M1 : pm_M), 48 ≤ i + f → i ≤ 48 → (∀ j, j < 4 → M1.1 10 (j) = M.1 26 (j) ∧ M1.1 13 (j) = M.1 29 (j)) → (∀ y, ¬ (0 ≤ y ∧ y < 4) → M1.1 10 y = M.1 10 y ∧ M1.1 13 y = M.1 13 y) → (∀ j, j < i → M1.1 11 (j) = M.1 27 (j)) → (∀ y, ¬ (0 ≤ y ∧ y < i) → M1.1 11 y = M.1 11 y) → M1.1 12 = M.1 12 → yfr [10, 11, 12, 13] [] M M1 → X 39 [(0, .ref 0), (1, .int (nI i))] [] M1 := by
      intro f
      induction f with
      | zero =>
        intro i M1 g1 g2 q1 o1 q2 o2 q3 f1
        have e : i = 48 := by omega
        subst e
        refine hb39 _ _ _ ?_
        simp (maxSteps := 2000000) [bk_X7_recall_0, bk_X7_recall_2, bk_X7_recall_37, bk_X7_recall_39, bk_X7_recall_63, pm_arr, pm_e_c0, pm_e_c1, pm_e_cti, pm_e_ctl, pm_e_ctr, pm_e_go, pm_e_i, pm_e_ii, pm_e_ldi, pm_e_ldr, pm_e_lk, pm_e_r, pm_e_ri, pm_e_rii, pm_e_rm0, pm_e_rm1, pm_e_rs0, pm_e_rs1, pm_e_wp0, pm_e_wp1, pm_f2, pm_f3, pm_fld, pm_fv, pm_obj, pm_s_aload_n, pm_s_bipush, pm_s_getfield, pm_s_goto, pm_s_iaload, pm_s_iastore, pm_s_iconst, pm_s_if_icmp_ge, pm_s_iinc, pm_s_iload_n, pm_s_istore_n, pm_s_return, ct_X7_recall, pS, pR, pC, pE, pL, -Int32.not_le, -Int32.not_lt, -Int64.not_le, -Int64.not_lt, -List.getD_eq_getElem?_getD]
        exact out M1 q1 o1 q2 o2 q3 f1
      | succ f ih =>
        intro i M1 g1 g2 q1 o1 q2 o2 q3 f1
        by_cases hi : i < 48
        · refine hb39 _ _ _ ?_
          simp (maxSteps := 2000000) [bk_X7_recall_0, bk_X7_recall_2, bk_X7_recall_37, bk_X7_recall_39, bk_X7_recall_63, pm_arr, pm_e_c0, pm_e_c1, pm_e_cti, pm_e_ctl, pm_e_ctr, pm_e_go, pm_e_i, pm_e_ii, pm_e_ldi, pm_e_ldr, pm_e_lk, pm_e_r, pm_e_ri, pm_e_rii, pm_e_rm0, pm_e_rm1, pm_e_rs0, pm_e_rs1, pm_e_wp0, pm_e_wp1, pm_f2, pm_f3, pm_fld, pm_fv, pm_obj, pm_s_aload_n, pm_s_bipush, pm_s_getfield, pm_s_goto, pm_s_iaload, pm_s_iastore, pm_s_iconst, pm_s_if_icmp_ge, pm_s_iinc, pm_s_iload_n, pm_s_istore_n, pm_s_return, ct_X7_recall, pS, pR, pC, pE, pL, -Int32.not_le, -Int32.not_lt, -Int64.not_le, -Int64.not_lt, -List.getD_eq_getElem?_getD, sy_0, sy_10, sy_11, sy_12, sy_13, sy_26, sy_27, sy_28, sy_29]
          simp (disch := omega) only [ni_in, ni_cl, ni_add, ni_mul, ni_sub, ni_lt, ni_le, ni_eq, ni_eq0, ni_lt0, ni_0le, ni_0lt, ni_le0, ni_a1, ni_a3, ni_a7, ni_a15]
          refine ⟨fun h => by omega, fun _ => ?_⟩
          repeat refine ⟨by omega, ?_⟩
          have e0 : M1.1 27 (i) = M.1 27 (i) := f1.i (by decide) (by decide) _
          rw [e0]
          refine ih (i + 1) _ (by omega) (by omega) (fun j hj => ?_) (fun y hy => ?_) (fun j hj => ?_) (fun y hy => ?_) ?_ (f1.set (by decide) (by decide))
          · have := q1 j hj; simp only [me_1]; simp; exact this
          · have := o1 y hy; simp only [me_1]; simp; exact this
          · rw [me_1s]
            by_cases z : j = i
            · rw [z, if_pos rfl]
            · rw [if_neg (by omega)]; exact q2 j (by omega)
          · rw [me_1s, if_neg (by omega)]; exact o2 y (by omega)
          · rw [← q3]; funext y; simp [pm_set]
        · have e : i = 48 := by omega
          subst e
          refine hb39 _ _ _ ?_
          simp (maxSteps := 2000000) [bk_X7_recall_0, bk_X7_recall_2, bk_X7_recall_37, bk_X7_recall_39, bk_X7_recall_63, pm_arr, pm_e_c0, pm_e_c1, pm_e_cti, pm_e_ctl, pm_e_ctr, pm_e_go, pm_e_i, pm_e_ii, pm_e_ldi, pm_e_ldr, pm_e_lk, pm_e_r, pm_e_ri, pm_e_rii, pm_e_rm0, pm_e_rm1, pm_e_rs0, pm_e_rs1, pm_e_wp0, pm_e_wp1, pm_f2, pm_f3, pm_fld, pm_fv, pm_obj, pm_s_aload_n, pm_s_bipush, pm_s_getfield, pm_s_goto, pm_s_iaload, pm_s_iastore, pm_s_iconst, pm_s_if_icmp_ge, pm_s_iinc, pm_s_iload_n, pm_s_istore_n, pm_s_return, ct_X7_recall, pS, pR, pC, pE, pL, -Int32.not_le, -Int32.not_lt, -Int64.not_le, -Int64.not_lt, -List.getD_eq_getElem?_getD]
          exact out M1 q1 o1 q2 o2 q3 f1
    have hmid : ∀ M1 : pm_M, (∀ j, j < 4 → M1.1 10 (j) = M.1 26 (j) ∧ M1.1 13 (j) = M.1 29 (j)) → (∀ y, ¬ (0 ≤ y ∧ y < 4) → M1.1 10 y = M.1 10 y ∧ M1.1 13 y = M.1 13 y) → M1.1 11 = M.1 11 → M1.1 12 = M.1 12 → yfr [10, 11, 12, 13] [] M M1 → X 37 [(0, .ref 0)] [] M1 := by
      intro M1 q1 o1 q2 q3 f1
      refine hb37 _ _ _ ?_
      simp (maxSteps := 2000000) [bk_X7_recall_0, bk_X7_recall_2, bk_X7_recall_37, bk_X7_recall_39, bk_X7_recall_63, pm_arr, pm_e_c0, pm_e_c1, pm_e_cti, pm_e_ctl, pm_e_ctr, pm_e_go, pm_e_i, pm_e_ii, pm_e_ldi, pm_e_ldr, pm_e_lk, pm_e_r, pm_e_ri, pm_e_rii, pm_e_rm0, pm_e_rm1, pm_e_rs0, pm_e_rs1, pm_e_wp0, pm_e_wp1, pm_f2, pm_f3, pm_fld, pm_fv, pm_obj, pm_s_aload_n, pm_s_bipush, pm_s_getfield, pm_s_goto, pm_s_iaload, pm_s_iastore, pm_s_iconst, pm_s_if_icmp_ge, pm_s_iinc, pm_s_iload_n, pm_s_istore_n, pm_s_return, ct_X7_recall, pS, pR, pC, pE, pL, -Int32.not_le, -Int32.not_lt, -Int64.not_le, -Int64.not_lt, -List.getD_eq_getElem?_getD]
      exact loop2 48 0 M1 (by omega) (by omega) q1 o1 (fun j hj => by omega) (fun y _ => by rw [q2]) q3 f1
    have loop1 : ∀ (f i : Nat) (M1 : pm_M), 4 ≤ i + f → i ≤ 4 → (∀ j, j < i → M1.1 10 (j) = M.1 26 (j) ∧ M1.1 13 (j) = M.1 29 (j)) → (∀ y, ¬ (0 ≤ y ∧ y < i) → M1.1 10 y = M.1 10 y ∧ M1.1 13 y = M.1 13 y) → M1.1 11 = M.1 11 → M1.1 12 = M.1 12 → yfr [10, 11, 12, 13] [] M M1 → X 2 [(0, .ref 0), (1, .int (nI i))] [] M1 := by
      intro f
      induction f with
      | zero =>
        intro i M1 g1 g2 q1 o1 q2 q3 f1
        have e : i = 4 := by omega
        subst e
        refine hb2 _ _ _ ?_
        simp (maxSteps := 2000000) [bk_X7_recall_0, bk_X7_recall_2, bk_X7_recall_37, bk_X7_recall_39, bk_X7_recall_63, pm_arr, pm_e_c0, pm_e_c1, pm_e_cti, pm_e_ctl, pm_e_ctr, pm_e_go, pm_e_i, pm_e_ii, pm_e_ldi, pm_e_ldr, pm_e_lk, pm_e_r, pm_e_ri, pm_e_rii, pm_e_rm0, pm_e_rm1, pm_e_rs0, pm_e_rs1, pm_e_wp0, pm_e_wp1, pm_f2, pm_f3, pm_fld, pm_fv, pm_obj, pm_s_aload_n, pm_s_bipush, pm_s_getfield, pm_s_goto, pm_s_iaload, pm_s_iastore, pm_s_iconst, pm_s_if_icmp_ge, pm_s_iinc, pm_s_iload_n, pm_s_istore_n, pm_s_return, ct_X7_recall, pS, pR, pC, pE, pL, -Int32.not_le, -Int32.not_lt, -Int64.not_le, -Int64.not_lt, -List.getD_eq_getElem?_getD]
        exact hmid M1 q1 o1 q2 q3 f1
      | succ f ih =>
        intro i M1 g1 g2 q1 o1 q2 q3 f1
        by_cases hi : i < 4
        · refine hb2 _ _ _ ?_
          simp (maxSteps := 2000000) [bk_X7_recall_0, bk_X7_recall_2, bk_X7_recall_37, bk_X7_recall_39, bk_X7_recall_63, pm_arr, pm_e_c0, pm_e_c1, pm_e_cti, pm_e_ctl, pm_e_ctr, pm_e_go, pm_e_i, pm_e_ii, pm_e_ldi, pm_e_ldr, pm_e_lk, pm_e_r, pm_e_ri, pm_e_rii, pm_e_rm0, pm_e_rm1, pm_e_rs0, pm_e_rs1, pm_e_wp0, pm_e_wp1, pm_f2, pm_f3, pm_fld, pm_fv, pm_obj, pm_s_aload_n, pm_s_bipush, pm_s_getfield, pm_s_goto, pm_s_iaload, pm_s_iastore, pm_s_iconst, pm_s_if_icmp_ge, pm_s_iinc, pm_s_iload_n, pm_s_istore_n, pm_s_return, ct_X7_recall, pS, pR, pC, pE, pL, -Int32.not_le, -Int32.not_lt, -Int64.not_le, -Int64.not_lt, -List.getD_eq_getElem?_getD, sy_0, sy_10, sy_11, sy_12, sy_13, sy_26, sy_27, sy_28, sy_29]
          simp (disch := omega) only [ni_in, ni_cl, ni_add, ni_mul, ni_sub, ni_lt, ni_le, ni_eq, ni_eq0, ni_lt0, ni_0le, ni_0lt, ni_le0, ni_a1, ni_a3, ni_a7, ni_a15]
          refine ⟨fun h => by omega, fun _ => ?_⟩
          repeat refine ⟨by omega, ?_⟩
          have e0 : M1.1 26 (i) = M.1 26 (i) := f1.i (by decide) (by decide) _
          have e1 : (pm_set M1 10 (i) (M1.1 26 (i))).1 29 (i) = M.1 29 (i) := by
            simp [pm_set]; exact f1.i (by decide) (by decide) _
          rw [e1, e0]
          refine ih (i + 1) _ (by omega) (by omega) (fun j hj => ?_) (fun y hy => ?_) ?_ ?_ ((f1.set (by decide) (by decide)).set (by decide) (by decide))
          · simp only [me_1]; simp
            by_cases z : j = i
            · simp [z]
            · simp [z]; exact q1 j (by omega)
          · simp only [me_1]; simp
            rw [if_neg (by omega), if_neg (by omega)]; exact o1 y (by omega)
          · rw [← q2]; funext y; simp [pm_set]
          · rw [← q3]; funext y; simp [pm_set]
        · have e : i = 4 := by omega
          subst e
          refine hb2 _ _ _ ?_
          simp (maxSteps := 2000000) [bk_X7_recall_0, bk_X7_recall_2, bk_X7_recall_37, bk_X7_recall_39, bk_X7_recall_63, pm_arr, pm_e_c0, pm_e_c1, pm_e_cti, pm_e_ctl, pm_e_ctr, pm_e_go, pm_e_i, pm_e_ii, pm_e_ldi, pm_e_ldr, pm_e_lk, pm_e_r, pm_e_ri, pm_e_rii, pm_e_rm0, pm_e_rm1, pm_e_rs0, pm_e_rs1, pm_e_wp0, pm_e_wp1, pm_f2, pm_f3, pm_fld, pm_fv, pm_obj, pm_s_aload_n, pm_s_bipush, pm_s_getfield, pm_s_goto, pm_s_iaload, pm_s_iastore, pm_s_iconst, pm_s_if_icmp_ge, pm_s_iinc, pm_s_iload_n, pm_s_istore_n, pm_s_return, ct_X7_recall, pS, pR, pC, pE, pL, -Int32.not_le, -Int32.not_lt, -Int64.not_le, -Int64.not_lt, -List.getD_eq_getElem?_getD]
          exact hmid M1 q1 o1 q2 q3 f1
    refine hb0 _ _ _ ?_
    simp (maxSteps := 2000000) [bk_X7_recall_0, bk_X7_recall_2, bk_X7_recall_37, bk_X7_recall_39, bk_X7_recall_63, pm_arr, pm_e_c0, pm_e_c1, pm_e_cti, pm_e_ctl, pm_e_ctr, pm_e_go, pm_e_i, pm_e_ii, pm_e_ldi, pm_e_ldr, pm_e_lk, pm_e_r, pm_e_ri, pm_e_rii, pm_e_rm0, pm_e_rm1, pm_e_rs0, pm_e_rs1, pm_e_wp0, pm_e_wp1, pm_f2, pm_f3, pm_fld, pm_fv, pm_obj, pm_s_aload_n, pm_s_bipush, pm_s_getfield, pm_s_goto, pm_s_iaload, pm_s_iastore, pm_s_iconst, pm_s_if_icmp_ge, pm_s_iinc, pm_s_iload_n, pm_s_istore_n, pm_s_return, ct_X7_recall, pS, pR, pC, pE, pL, -Int32.not_le, -Int32.not_lt, -Int64.not_le, -Int64.not_lt, -List.getD_eq_getElem?_getD, lv_args]
    exact loop1 4 0 M (by omega) (by omega) (fun j hj => by omega) (fun _ _ => ⟨rfl, rfl⟩) rfl rfl yfr.rfl
  · exact hT.elim
def tt_X7_brings : pm_T := fun args M k => match args with
  | [.ref 0, .int x0] => ∃ ta : Nat, x0 = nI ta ∧ ta ≤ 64 ∧ ∀ M', cpY M M' 6 ta 2 0 → keY M M' 2 0 → yfr [2, 3, 4, 5] [] M M' → k none M'
  | _ => False
abbrev ct_X7_brings : List pm_C := []
set_option maxHeartbeats 4000000 in
theorem sm_X7_brings  : pm_Sem SHy yX7_brings cX7_brings 3 none 1 tt_X7_brings := by
  refine pm_Sem_intro bl_X7_brings ct_X7_brings cs_X7_brings rfl (fun _ h => absurd h List.not_mem_nil) ck_X7_brings (by decide +kernel) (by decide) ?_
  intro X k hX args M hT
  have hb0 := hX 0 bk_X7_brings_0 (List.mem_of_getElem? (i := 0) rfl)
  have hb2 := hX 2 bk_X7_brings_2 (List.mem_of_getElem? (i := 1) rfl)
  have hb45 := hX 45 bk_X7_brings_45 (List.mem_of_getElem? (i := 2) rfl)
  have hb47 := hX 47 bk_X7_brings_47 (List.mem_of_getElem? (i := 3) rfl)
  have hb76 := hX 76 bk_X7_brings_76 (List.mem_of_getElem? (i := 4) rfl)
  clear hX
  unfold tt_X7_brings at hT; split at hT
  · obtain ⟨ta, rfl, hta, hT⟩ := hT
    refine ⟨by simp [lg_sl, Value.category], ?_⟩
    have out : ∀ M1 : pm_M, (∀ j, j < 4 → M1.1 2 (j) = M.1 6 (4 * ta + j) ∧ M1.1 5 (j) = M.1 9 (4 * ta + j)) → (∀ y, ¬ (0 ≤ y ∧ y < 4) → M1.1 2 y = M.1 2 y ∧ M1.1 5 y = M.1 5 y) → (∀ j, j < 48 → M1.1 3 (j) = M.1 7 (48 * ta + j)) → (∀ y, ¬ (0 ≤ y ∧ y < 48) → M1.1 3 y = M.1 3 y) → M1.1 4 = M.1 4 → yfr [2, 3, 4, 5] [] M M1 → X 76 [(0, .ref 0), (1, .int (nI ta))] [] M1 := by
      intro M1 q1 o1 q2 o2 q3 f1
      refine hb76 _ _ _ ?_
      simp (maxSteps := 2000000) [bk_X7_brings_0, bk_X7_brings_2, bk_X7_brings_45, bk_X7_brings_47, bk_X7_brings_76, pm_arr, pm_e_c0, pm_e_c1, pm_e_cti, pm_e_ctl, pm_e_ctr, pm_e_go, pm_e_i, pm_e_ii, pm_e_ldi, pm_e_ldr, pm_e_lk, pm_e_r, pm_e_ri, pm_e_rii, pm_e_rm0, pm_e_rm1, pm_e_rs0, pm_e_rs1, pm_e_wp0, pm_e_wp1, pm_f2, pm_f3, pm_fld, pm_fv, pm_obj, pm_s_aload_n, pm_s_bipush, pm_s_getfield, pm_s_goto, pm_s_iadd, pm_s_iaload, pm_s_iastore, pm_s_iconst, pm_s_if_icmp_ge, pm_s_iinc, pm_s_iload_n, pm_s_imul, pm_s_istore_n, pm_s_return, ct_X7_brings, pS, pR, pC, pE, pL, -Int32.not_le, -Int32.not_lt, -Int64.not_le, -Int64.not_lt, -List.getD_eq_getElem?_getD, sy_0, sy_2, sy_3, sy_4, sy_5, sy_6, sy_7, sy_8, sy_9]
      simp (disch := omega) only [ni_in, ni_cl, ni_add, ni_mul, ni_sub, ni_lt, ni_le, ni_eq, ni_eq0, ni_lt0, ni_0le, ni_0lt, ni_le0, ni_a1, ni_a3, ni_a7, ni_a15]
      repeat refine ⟨by omega, ?_⟩
      have e0 : M1.1 8 (2 * ta) = M.1 8 (2 * ta) := by exact f1.i (by decide) (by decide) _
      have e1 : (pm_set M1 4 (0) (M1.1 8 (2 * ta))).1 8 (2 * ta + 1) = M.1 8 (2 * ta + 1) := by
        simp [pm_set]; exact f1.i (by decide) (by decide) _
      rw [e1, e0]
      refine hT _ ⟨fun i hi => ⟨?_, ?_⟩, fun x hx => ?_, fun j hj => ?_⟩ ⟨fun y hy => ⟨?_, ?_⟩, fun y hy => ?_, fun y hy => ?_⟩ ?_
      · have := (q1 i hi).1; simp only [me_1]; simp; simpa using this
      · have := (q1 i hi).2; simp only [me_1]; simp; simpa using this
      · have := q2 x hx; simp only [me_1]; simp; simpa using this
      · rcases (show j = 0 ∨ j = 1 by omega) with rfl | rfl <;> simp [pm_set]
      · have := (o1 y (by omega)).1; simp only [me_1]; simp; exact this
      · have := (o1 y (by omega)).2; simp only [me_1]; simp; exact this
      · have := o2 y (by omega); simp only [me_1]; simp; exact this
      · have hyy : M1.1 4 y = M.1 4 y := by rw [q3]
        simp only [me_1]; simp; rw [if_neg (by omega), if_neg (by omega)]; exact hyy
      · exact ((f1.mono (by decide) (by decide)).set (q := 4) (by decide) (by decide)).set (q := 4) (by decide) (by decide)
    have loop2 : ∀ (f i : Nat) (M1 : pm_M), 48 ≤ i + f → i ≤ 48 → (∀ j, j < 4 → M1.1 2 (j) = M.1 6 (4 * ta + j) ∧ M1.1 5 (j) = M.1 9 (4 * ta + j)) → (∀ y, ¬ (0 ≤ y ∧ y < 4) → M1.1 2 y = M.1 2 y ∧ M1.1 5 y = M.1 5 y) → (∀ j, j < i → M1.1 3 (j) = M.1 7 (48 * ta + j)) → (∀ y, ¬ (0 ≤ y ∧ y < i) → M1.1 3 y = M.1 3 y) → M1.1 4 = M.1 4 → yfr [2, 3, 4, 5] [] M M1 → X 47 [(0, .ref 0), (1, .int (nI ta)), (2, .int (nI i))] [] M1 := by
      intro f
      induction f with
      | zero =>
        intro i M1 g1 g2 q1 o1 q2 o2 q3 f1
        have e : i = 48 := by omega
        subst e
        refine hb47 _ _ _ ?_
        simp (maxSteps := 2000000) [bk_X7_brings_0, bk_X7_brings_2, bk_X7_brings_45, bk_X7_brings_47, bk_X7_brings_76, pm_arr, pm_e_c0, pm_e_c1, pm_e_cti, pm_e_ctl, pm_e_ctr, pm_e_go, pm_e_i, pm_e_ii, pm_e_ldi, pm_e_ldr, pm_e_lk, pm_e_r, pm_e_ri, pm_e_rii, pm_e_rm0, pm_e_rm1, pm_e_rs0, pm_e_rs1, pm_e_wp0, pm_e_wp1, pm_f2, pm_f3, pm_fld, pm_fv, pm_obj, pm_s_aload_n, pm_s_bipush, pm_s_getfield, pm_s_goto, pm_s_iadd, pm_s_iaload, pm_s_iastore, pm_s_iconst, pm_s_if_icmp_ge, pm_s_iinc, pm_s_iload_n, pm_s_imul, pm_s_istore_n, pm_s_return, ct_X7_brings, pS, pR, pC, pE, pL, -Int32.not_le, -Int32.not_lt, -Int64.not_le, -Int64.not_lt, -List.getD_eq_getElem?_getD]
        exact out M1 q1 o1 q2 o2 q3 f1
      | succ f ih =>
        intro i M1 g1 g2 q1 o1 q2 o2 q3 f1
        by_cases hi : i < 48
        · refine hb47 _ _ _ ?_
          simp (maxSteps := 2000000) [bk_X7_brings_0, bk_X7_brings_2, bk_X7_brings_45, bk_X7_brings_47, bk_X7_brings_76, pm_arr, pm_e_c0, pm_e_c1, pm_e_cti, pm_e_ctl, pm_e_ctr, pm_e_go, pm_e_i, pm_e_ii, pm_e_ldi, pm_e_ldr, pm_e_lk, pm_e_r, pm_e_ri, pm_e_rii, pm_e_rm0, pm_e_rm1, pm_e_rs0, pm_e_rs1, pm_e_wp0, pm_e_wp1, pm_f2, pm_f3, pm_fld, pm_fv, pm_obj, pm_s_aload_n, pm_s_bipush, pm_s_getfield, pm_s_goto, pm_s_iadd, pm_s_iaload, pm_s_iastore, pm_s_iconst, pm_s_if_icmp_ge, pm_s_iinc, pm_s_iload_n, pm_s_imul, pm_s_istore_n, pm_s_return, ct_X7_brings, pS, pR, pC, pE, pL, -Int32.not_le, -Int32.not_lt, -Int64.not_le, -Int64.not_lt, -List.getD_eq_getElem?_getD, sy_0, sy_2, sy_3, sy_4, sy_5, sy_6, sy_7, sy_8, sy_9]
          simp (disch := omega) only [ni_in, ni_cl, ni_add, ni_mul, ni_sub, ni_lt, ni_le, ni_eq, ni_eq0, ni_lt0, ni_0le, ni_0lt, ni_le0, ni_a1, ni_a3, ni_a7, ni_a15]
          refine ⟨fun h => by omega, fun _ => ?_⟩
          repeat refine ⟨by omega, ?_⟩
          have e0 : M1.1 7 (48 * ta + i) = M.1 7 (48 * ta + i) := f1.i (by decide) (by decide) _
          rw [e0]
          refine ih (i + 1) _ (by omega) (by omega) (fun j hj => ?_) (fun y hy => ?_) (fun j hj => ?_) (fun y hy => ?_) ?_ (f1.set (by decide) (by decide))
          · have := q1 j hj; simp only [me_1]; simp; exact this
          · have := o1 y hy; simp only [me_1]; simp; exact this
          · rw [me_1s]
            by_cases z : j = i
            · rw [z, if_pos rfl]
            · rw [if_neg (by omega)]; exact q2 j (by omega)
          · rw [me_1s, if_neg (by omega)]; exact o2 y (by omega)
          · rw [← q3]; funext y; simp [pm_set]
        · have e : i = 48 := by omega
          subst e
          refine hb47 _ _ _ ?_
          simp (maxSteps := 2000000) [bk_X7_brings_0, bk_X7_brings_2, bk_X7_brings_45, bk_X7_brings_47, bk_X7_brings_76, pm_arr, pm_e_c0, pm_e_c1, pm_e_cti, pm_e_ctl, pm_e_ctr, pm_e_go, pm_e_i, pm_e_ii, pm_e_ldi, pm_e_ldr, pm_e_lk, pm_e_r, pm_e_ri, pm_e_rii, pm_e_rm0, pm_e_rm1, pm_e_rs0, pm_e_rs1, pm_e_wp0, pm_e_wp1, pm_f2, pm_f3, pm_fld, pm_fv, pm_obj, pm_s_aload_n, pm_s_bipush, pm_s_getfield, pm_s_goto, pm_s_iadd, pm_s_iaload, pm_s_iastore, pm_s_iconst, pm_s_if_icmp_ge, pm_s_iinc, pm_s_iload_n, pm_s_imul, pm_s_istore_n, pm_s_return, ct_X7_brings, pS, pR, pC, pE, pL, -Int32.not_le, -Int32.not_lt, -Int64.not_le, -Int64.not_lt, -List.getD_eq_getElem?_getD]
          exact out M1 q1 o1 q2 o2 q3 f1
    have hmid : ∀ M1 : pm_M, (∀ j, j < 4 → M1.1 2 (j) = M.1 6 (4 * ta + j) ∧ M1.1 5 (j) = M.1 9 (4 * ta + j)) → (∀ y, ¬ (0 ≤ y ∧ y < 4) → M1.1 2 y = M.1 2 y ∧ M1.1 5 y = M.1 5 y) → M1.1 3 = M.1 3 → M1.1 4 = M.1 4 → yfr [2, 3, 4, 5] [] M M1 → X 45 [(0, .ref 0), (1, .int (nI ta))] [] M1 := by
      intro M1 q1 o1 q2 q3 f1
      refine hb45 _ _ _ ?_
      simp (maxSteps := 2000000) [bk_X7_brings_0, bk_X7_brings_2, bk_X7_brings_45, bk_X7_brings_47, bk_X7_brings_76, pm_arr, pm_e_c0, pm_e_c1, pm_e_cti, pm_e_ctl, pm_e_ctr, pm_e_go, pm_e_i, pm_e_ii, pm_e_ldi, pm_e_ldr, pm_e_lk, pm_e_r, pm_e_ri, pm_e_rii, pm_e_rm0, pm_e_rm1, pm_e_rs0, pm_e_rs1, pm_e_wp0, pm_e_wp1, pm_f2, pm_f3, pm_fld, pm_fv, pm_obj, pm_s_aload_n, pm_s_bipush, pm_s_getfield, pm_s_goto, pm_s_iadd, pm_s_iaload, pm_s_iastore, pm_s_iconst, pm_s_if_icmp_ge, pm_s_iinc, pm_s_iload_n, pm_s_imul, pm_s_istore_n, pm_s_return, ct_X7_brings, pS, pR, pC, pE, pL, -Int32.not_le, -Int32.not_lt, -Int64.not_le, -Int64.not_lt, -List.getD_eq_getElem?_getD]
      exact loop2 48 0 M1 (by omega) (by omega) q1 o1 (fun j hj => by omega) (fun y _ => by rw [q2]) q3 f1
    have loop1 : ∀ (f i : Nat) (M1 : pm_M), 4 ≤ i + f → i ≤ 4 → (∀ j, j < i → M1.1 2 (j) = M.1 6 (4 * ta + j) ∧ M1.1 5 (j) = M.1 9 (4 * ta + j)) → (∀ y, ¬ (0 ≤ y ∧ y < i) → M1.1 2 y = M.1 2 y ∧ M1.1 5 y = M.1 5 y) → M1.1 3 = M.1 3 → M1.1 4 = M.1 4 → yfr [2, 3, 4, 5] [] M M1 → X 2 [(0, .ref 0), (1, .int (nI ta)), (2, .int (nI i))] [] M1 := by
      intro f
      induction f with
      | zero =>
        intro i M1 g1 g2 q1 o1 q2 q3 f1
        have e : i = 4 := by omega
        subst e
        refine hb2 _ _ _ ?_
        simp (maxSteps := 2000000) [bk_X7_brings_0, bk_X7_brings_2, bk_X7_brings_45, bk_X7_brings_47, bk_X7_brings_76, pm_arr, pm_e_c0, pm_e_c1, pm_e_cti, pm_e_ctl, pm_e_ctr, pm_e_go, pm_e_i, pm_e_ii, pm_e_ldi, pm_e_ldr, pm_e_lk, pm_e_r, pm_e_ri, pm_e_rii, pm_e_rm0, pm_e_rm1, pm_e_rs0, pm_e_rs1, pm_e_wp0, pm_e_wp1, pm_f2, pm_f3, pm_fld, pm_fv, pm_obj, pm_s_aload_n, pm_s_bipush, pm_s_getfield, pm_s_goto, pm_s_iadd, pm_s_iaload, pm_s_iastore, pm_s_iconst, pm_s_if_icmp_ge, pm_s_iinc, pm_s_iload_n, pm_s_imul, pm_s_istore_n, pm_s_return, ct_X7_brings, pS, pR, pC, pE, pL, -Int32.not_le, -Int32.not_lt, -Int64.not_le, -Int64.not_lt, -List.getD_eq_getElem?_getD]
        exact hmid M1 q1 o1 q2 q3 f1
      | succ f ih =>
        intro i M1 g1 g2 q1 o1 q2 q3 f1
        by_cases hi : i < 4
        · refine hb2 _ _ _ ?_
          simp (maxSteps := 2000000) [bk_X7_brings_0, bk_X7_brings_2, bk_X7_brings_45, bk_X7_brings_47, bk_X7_brings_76, pm_arr, pm_e_c0, pm_e_c1, pm_e_cti, pm_e_ctl, pm_e_ctr, pm_e_go, pm_e_i, pm_e_ii, pm_e_ldi, pm_e_ldr, pm_e_lk, pm_e_r, pm_e_ri, pm_e_rii, pm_e_rm0, pm_e_rm1, pm_e_rs0, pm_e_rs1, pm_e_wp0, pm_e_wp1, pm_f2, pm_f3, pm_fld, pm_fv, pm_obj, pm_s_aload_n, pm_s_bipush, pm_s_getfield, pm_s_goto, pm_s_iadd, pm_s_iaload, pm_s_iastore, pm_s_iconst, pm_s_if_icmp_ge, pm_s_iinc, pm_s_iload_n, pm_s_imul, pm_s_istore_n, pm_s_return, ct_X7_brings, pS, pR, pC, pE, pL, -Int32.not_le, -Int32.not_lt, -Int64.not_le, -Int64.not_lt, -List.getD_eq_getElem?_getD, sy_0, sy_2, sy_3, sy_4, sy_5, sy_6, sy_7, sy_8, sy_9]
          simp (disch := omega) only [ni_in, ni_cl, ni_add, ni_mul, ni_sub, ni_lt, ni_le, ni_eq, ni_eq0, ni_lt0, ni_0le, ni_0lt, ni_le0, ni_a1, ni_a3, ni_a7, ni_a15]
          refine ⟨fun h => by omega, fun _ => ?_⟩
          repeat refine ⟨by omega, ?_⟩
          have e0 : M1.1 6 (4 * ta + i) = M.1 6 (4 * ta + i) := f1.i (by decide) (by decide) _
          have e1 : (pm_set M1 2 (i) (M1.1 6 (4 * ta + i))).1 9 (4 * ta + i) = M.1 9 (4 * ta + i) := by
            simp [pm_set]; exact f1.i (by decide) (by decide) _
          rw [e1, e0]
          refine ih (i + 1) _ (by omega) (by omega) (fun j hj => ?_) (fun y hy => ?_) ?_ ?_ ((f1.set (by decide) (by decide)).set (by decide) (by decide))
          · simp only [me_1]; simp
            by_cases z : j = i
            · simp [z]
            · simp [z]; exact q1 j (by omega)
          · simp only [me_1]; simp
            rw [if_neg (by omega), if_neg (by omega)]; exact o1 y (by omega)
          · rw [← q2]; funext y; simp [pm_set]
          · rw [← q3]; funext y; simp [pm_set]
        · have e : i = 4 := by omega
          subst e
          refine hb2 _ _ _ ?_
          simp (maxSteps := 2000000) [bk_X7_brings_0, bk_X7_brings_2, bk_X7_brings_45, bk_X7_brings_47, bk_X7_brings_76, pm_arr, pm_e_c0, pm_e_c1, pm_e_cti, pm_e_ctl, pm_e_ctr, pm_e_go, pm_e_i, pm_e_ii, pm_e_ldi, pm_e_ldr, pm_e_lk, pm_e_r, pm_e_ri, pm_e_rii, pm_e_rm0, pm_e_rm1, pm_e_rs0, pm_e_rs1, pm_e_wp0, pm_e_wp1, pm_f2, pm_f3, pm_fld, pm_fv, pm_obj, pm_s_aload_n, pm_s_bipush, pm_s_getfield, pm_s_goto, pm_s_iadd, pm_s_iaload, pm_s_iastore, pm_s_iconst, pm_s_if_icmp_ge, pm_s_iinc, pm_s_iload_n, pm_s_imul, pm_s_istore_n, pm_s_return, ct_X7_brings, pS, pR, pC, pE, pL, -Int32.not_le, -Int32.not_lt, -Int64.not_le, -Int64.not_lt, -List.getD_eq_getElem?_getD]
          exact hmid M1 q1 o1 q2 q3 f1
    refine hb0 _ _ _ ?_
    simp (maxSteps := 2000000) [bk_X7_brings_0, bk_X7_brings_2, bk_X7_brings_45, bk_X7_brings_47, bk_X7_brings_76, pm_arr, pm_e_c0, pm_e_c1, pm_e_cti, pm_e_ctl, pm_e_ctr, pm_e_go, pm_e_i, pm_e_ii, pm_e_ldi, pm_e_ldr, pm_e_lk, pm_e_r, pm_e_ri, pm_e_rii, pm_e_rm0, pm_e_rm1, pm_e_rs0, pm_e_rs1, pm_e_wp0, pm_e_wp1, pm_f2, pm_f3, pm_fld, pm_fv, pm_obj, pm_s_aload_n, pm_s_bipush, pm_s_getfield, pm_s_goto, pm_s_iadd, pm_s_iaload, pm_s_iastore, pm_s_iconst, pm_s_if_icmp_ge, pm_s_iinc, pm_s_iload_n, pm_s_imul, pm_s_istore_n, pm_s_return, ct_X7_brings, pS, pR, pC, pE, pL, -Int32.not_le, -Int32.not_lt, -Int64.not_le, -Int64.not_lt, -List.getD_eq_getElem?_getD, lv_args]
    exact loop1 4 0 M (by omega) (by omega) (fun j hj => by omega) (fun _ _ => ⟨rfl, rfl⟩) rfl rfl yfr.rfl
  · exact hT.elim
