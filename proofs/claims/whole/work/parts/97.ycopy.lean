/-- a stand is copied: from b, o to b', o' -/
def cpY (M M' : pm_M) (b o b' o' : Nat) : Prop := (∀ i, i < 4 → M'.1 b' (4 * o' + i) = M.1 b (4 * o + i) ∧ M'.1 (b' + 3) (4 * o' + i) = M.1 (b + 3) (4 * o + i)) ∧ (∀ x, x < 48 → M'.1 (b' + 1) (48 * o' + x) = M.1 (b + 1) (48 * o + x)) ∧ ∀ j, j < 2 → M'.1 (b' + 2) (2 * o' + j) = M.1 (b + 2) (2 * o + j)
/-- what lies elsewhere at these places stays -/
def keY (M M' : pm_M) (b o : Nat) : Prop := (∀ y, y < 4 * o ∨ 4 * o + 4 ≤ y → M'.1 b y = M.1 b y ∧ M'.1 (b + 3) y = M.1 (b + 3) y) ∧ (∀ y, y < 48 * o ∨ 48 * o + 48 ≤ y → M'.1 (b + 1) y = M.1 (b + 1) y) ∧ ∀ y, y < 2 * o ∨ 2 * o + 2 ≤ y → M'.1 (b + 2) y = M.1 (b + 2) y
theorem cpY.sd {M M' : pm_M} {b o b' o' r : Nat} {S : St} (h : cpY M M' b o b' o') (hS : SdY M b o r S) (hl : ∀ i, i < 4 → (S.1 i).length ≤ 12) : SdY M' b' o' r S := by
  refine ⟨fun i hi => ⟨?_, ?_, fun j hj => ?_⟩, fun j hj => ?_⟩
  · rw [(h.1 i hi).1]; exact (hS.1 i hi).1
  · rw [(h.1 i hi).2]; exact (hS.1 i hi).2.1
  · have := hl i hi
    rw [Nat.add_assoc, h.2.1 (12 * i + j) (by omega), ← Nat.add_assoc]; exact (hS.1 i hi).2.2 j hj
  · rw [h.2.2 j hj]; exact hS.2 j hj
theorem keY.sd {M M' : pm_M} {b o i r : Nat} {S : St} (h : keY M M' b o) (hi : i ≠ o) (hS : SdY M b i r S) (hl : ∀ i, i < 4 → (S.1 i).length ≤ 12) : SdY M' b i r S := by
  refine ⟨fun k hk => ⟨?_, ?_, fun j hj => ?_⟩, fun j hj => ?_⟩
  · rw [(h.1 _ (by omega)).1]; exact (hS.1 k hk).1
  · rw [(h.1 _ (by omega)).2]; exact (hS.1 k hk).2.1
  · have := hl k hk
    rw [h.2.1 _ (by omega)]; exact (hS.1 k hk).2.2 j hj
  · rw [h.2.2 _ (by omega)]; exact hS.2 j hj
def tt_X7_tryStand : pm_T := fun args M k => match args with
  | [.ref 0] => ∀ M', cpY M M' 2 0 10 0 → keY M M' 10 0 → M'.1 0 22 = M.1 0 3 → yfr [10, 11, 12, 13] [22] M M' → k none M'
  | _ => False
abbrev ct_X7_tryStand : List pm_C := []
set_option maxHeartbeats 4000000 in
theorem sm_X7_tryStand  : pm_Sem SHy yX7_tryStand cX7_tryStand 2 none 1 tt_X7_tryStand := by
  refine pm_Sem_intro bl_X7_tryStand ct_X7_tryStand cs_X7_tryStand rfl (fun _ h => absurd h List.not_mem_nil) ck_X7_tryStand (by decide +kernel) (by decide) ?_
  intro X k hX args M hT
  have hb0 := hX 0 bk_X7_tryStand_0 (List.mem_of_getElem? (i := 0) rfl)
  have hb2 := hX 2 bk_X7_tryStand_2 (List.mem_of_getElem? (i := 1) rfl)
  have hb37 := hX 37 bk_X7_tryStand_37 (List.mem_of_getElem? (i := 2) rfl)
  have hb39 := hX 39 bk_X7_tryStand_39 (List.mem_of_getElem? (i := 3) rfl)
  have hb63 := hX 63 bk_X7_tryStand_63 (List.mem_of_getElem? (i := 4) rfl)
  clear hX
  unfold tt_X7_tryStand at hT; split at hT
  · skip
    refine ⟨by simp [lg_sl, Value.category], ?_⟩
    have out : ∀ M1 : pm_M, (∀ j, j < 4 → M1.1 10 (j) = M.1 2 (j) ∧ M1.1 13 (j) = M.1 5 (j)) → (∀ y, ¬ (0 ≤ y ∧ y < 4) → M1.1 10 y = M.1 10 y ∧ M1.1 13 y = M.1 13 y) → (∀ j, j < 48 → M1.1 11 (j) = M.1 3 (j)) → (∀ y, ¬ (0 ≤ y ∧ y < 48) → M1.1 11 y = M.1 11 y) → M1.1 12 = M.1 12 → yfr [10, 11, 12, 13] [] M M1 → X 63 [(0, .ref 0)] [] M1 := by
      intro M1 q1 o1 q2 o2 q3 f1
      refine hb63 _ _ _ ?_
      simp (maxSteps := 2000000) [bk_X7_tryStand_0, bk_X7_tryStand_2, bk_X7_tryStand_37, bk_X7_tryStand_39, bk_X7_tryStand_63, pm_arr, pm_e_c0, pm_e_c1, pm_e_cti, pm_e_ctl, pm_e_ctr, pm_e_go, pm_e_i, pm_e_ii, pm_e_ldi, pm_e_ldr, pm_e_lk, pm_e_r, pm_e_ri, pm_e_rii, pm_e_rm0, pm_e_rm1, pm_e_rs0, pm_e_rs1, pm_e_wp0, pm_e_wp1, pm_f2, pm_f3, pm_fld, pm_fv, pm_obj, pm_s_aload_n, pm_s_bipush, pm_s_getfield, pm_s_goto, pm_s_iaload, pm_s_iastore, pm_s_iconst, pm_s_if_icmp_ge, pm_s_iinc, pm_s_iload_n, pm_s_istore_n, pm_s_putfield, pm_s_return, ct_X7_tryStand, pS, pR, pC, pE, pL, -Int32.not_le, -Int32.not_lt, -Int64.not_le, -Int64.not_lt, -List.getD_eq_getElem?_getD, sy_0, sy_2, sy_3, sy_4, sy_5, sy_10, sy_11, sy_12, sy_13]
      simp (disch := omega) only [ni_in, ni_cl, ni_add, ni_mul, ni_sub, ni_lt, ni_le, ni_eq, ni_eq0, ni_lt0, ni_0le, ni_0lt, ni_le0, ni_a1, ni_a3, ni_a7, ni_a15]
      repeat refine ⟨by omega, ?_⟩
      have e0 : M1.1 4 (0) = M.1 4 (0) := by exact f1.i (by decide) (by decide) _
      have e1 : (pm_set M1 12 (0) (M1.1 4 (0))).1 4 (1) = M.1 4 (1) := by
        simp [pm_set]; exact f1.i (by decide) (by decide) _
      rw [e1, e0]
      refine hT _ ⟨fun i hi => ⟨?_, ?_⟩, fun x hx => ?_, fun j hj => ?_⟩ ⟨fun y hy => ⟨?_, ?_⟩, fun y hy => ?_, fun y hy => ?_⟩ ?_ ?_
      · have := (q1 i hi).1; simp only [me_1]; simp; simpa using this
      · have := (q1 i hi).2; simp only [me_1]; simp; simpa using this
      · have := q2 x hx; simp only [me_1]; simp; simpa using this
      · rcases (show j = 0 ∨ j = 1 by omega) with rfl | rfl <;> simp [pm_set]
      · have := (o1 y (by omega)).1; simp only [me_1]; simp; exact this
      · have := (o1 y (by omega)).2; simp only [me_1]; simp; exact this
      · have := o2 y (by omega); simp only [me_1]; simp; exact this
      · have hyy : M1.1 12 y = M.1 12 y := by rw [q3]
        simp only [me_1]; simp; rw [if_neg (by omega), if_neg (by omega)]; exact hyy
      · have := f1.f (j := 3) (by simp); simp [pm_set]; exact this
      · exact (((f1.mono (by decide) (by decide)).set (q := 12) (by decide) (by decide)).set (q := 12) (by decide) (by decide)).set0 (by decide)
    have loop2 : ∀ (f i : Nat) (M1 : pm_M), 48 ≤ i + f → i ≤ 48 → (∀ j, j < 4 → M1.1 10 (j) = M.1 2 (j) ∧ M1.1 13 (j) = M.1 5 (j)) → (∀ y, ¬ (0 ≤ y ∧ y < 4) → M1.1 10 y = M.1 10 y ∧ M1.1 13 y = M.1 13 y) → (∀ j, j < i → M1.1 11 (j) = M.1 3 (j)) → (∀ y, ¬ (0 ≤ y ∧ y < i) → M1.1 11 y = M.1 11 y) → M1.1 12 = M.1 12 → yfr [10, 11, 12, 13] [] M M1 → X 39 [(0, .ref 0), (1, .int (nI i))] [] M1 := by
      intro f
      induction f with
      | zero =>
        intro i M1 g1 g2 q1 o1 q2 o2 q3 f1
        have e : i = 48 := by omega
        subst e
        refine hb39 _ _ _ ?_
        simp (maxSteps := 2000000) [bk_X7_tryStand_0, bk_X7_tryStand_2, bk_X7_tryStand_37, bk_X7_tryStand_39, bk_X7_tryStand_63, pm_arr, pm_e_c0, pm_e_c1, pm_e_cti, pm_e_ctl, pm_e_ctr, pm_e_go, pm_e_i, pm_e_ii, pm_e_ldi, pm_e_ldr, pm_e_lk, pm_e_r, pm_e_ri, pm_e_rii, pm_e_rm0, pm_e_rm1, pm_e_rs0, pm_e_rs1, pm_e_wp0, pm_e_wp1, pm_f2, pm_f3, pm_fld, pm_fv, pm_obj, pm_s_aload_n, pm_s_bipush, pm_s_getfield, pm_s_goto, pm_s_iaload, pm_s_iastore, pm_s_iconst, pm_s_if_icmp_ge, pm_s_iinc, pm_s_iload_n, pm_s_istore_n, pm_s_putfield, pm_s_return, ct_X7_tryStand, pS, pR, pC, pE, pL, -Int32.not_le, -Int32.not_lt, -Int64.not_le, -Int64.not_lt, -List.getD_eq_getElem?_getD]
        exact out M1 q1 o1 q2 o2 q3 f1
      | succ f ih =>
        intro i M1 g1 g2 q1 o1 q2 o2 q3 f1
        by_cases hi : i < 48
        · refine hb39 _ _ _ ?_
          simp (maxSteps := 2000000) [bk_X7_tryStand_0, bk_X7_tryStand_2, bk_X7_tryStand_37, bk_X7_tryStand_39, bk_X7_tryStand_63, pm_arr, pm_e_c0, pm_e_c1, pm_e_cti, pm_e_ctl, pm_e_ctr, pm_e_go, pm_e_i, pm_e_ii, pm_e_ldi, pm_e_ldr, pm_e_lk, pm_e_r, pm_e_ri, pm_e_rii, pm_e_rm0, pm_e_rm1, pm_e_rs0, pm_e_rs1, pm_e_wp0, pm_e_wp1, pm_f2, pm_f3, pm_fld, pm_fv, pm_obj, pm_s_aload_n, pm_s_bipush, pm_s_getfield, pm_s_goto, pm_s_iaload, pm_s_iastore, pm_s_iconst, pm_s_if_icmp_ge, pm_s_iinc, pm_s_iload_n, pm_s_istore_n, pm_s_putfield, pm_s_return, ct_X7_tryStand, pS, pR, pC, pE, pL, -Int32.not_le, -Int32.not_lt, -Int64.not_le, -Int64.not_lt, -List.getD_eq_getElem?_getD, sy_0, sy_2, sy_3, sy_4, sy_5, sy_10, sy_11, sy_12, sy_13]
          simp (disch := omega) only [ni_in, ni_cl, ni_add, ni_mul, ni_sub, ni_lt, ni_le, ni_eq, ni_eq0, ni_lt0, ni_0le, ni_0lt, ni_le0, ni_a1, ni_a3, ni_a7, ni_a15]
          refine ⟨fun h => by omega, fun _ => ?_⟩
          repeat refine ⟨by omega, ?_⟩
          have e0 : M1.1 3 (i) = M.1 3 (i) := f1.i (by decide) (by decide) _
          rw [e0]
          refine ih (i + 1) _ (by omega) (by omega) (fun j hj => ?_) (fun y hy => ?_) (fun j hj => ?_) (fun y hy => ?_) ?_ (f1.set (by decide) (by decide))
          · have := q1 j hj; simp only [me_1]; simp; exact this
          · have := o1 y hy; simp only [me_1]; simp; exact this
          · rw [me_1s]
            by_cases z : j = i
            · rw [z, if_pos rfl]
            · rw [if_neg (by omega)]; exact q2 j (by omega)
          · rw [me_1s, if_neg (by omega)]; exact o2 y (by omega)
          · rw [← q3]; funext y; simp [pm_set]
        · have e : i = 48 := by omega
          subst e
          refine hb39 _ _ _ ?_
          simp (maxSteps := 2000000) [bk_X7_tryStand_0, bk_X7_tryStand_2, bk_X7_tryStand_37, bk_X7_tryStand_39, bk_X7_tryStand_63, pm_arr, pm_e_c0, pm_e_c1, pm_e_cti, pm_e_ctl, pm_e_ctr, pm_e_go, pm_e_i, pm_e_ii, pm_e_ldi, pm_e_ldr, pm_e_lk, pm_e_r, pm_e_ri, pm_e_rii, pm_e_rm0, pm_e_rm1, pm_e_rs0, pm_e_rs1, pm_e_wp0, pm_e_wp1, pm_f2, pm_f3, pm_fld, pm_fv, pm_obj, pm_s_aload_n, pm_s_bipush, pm_s_getfield, pm_s_goto, pm_s_iaload, pm_s_iastore, pm_s_iconst, pm_s_if_icmp_ge, pm_s_iinc, pm_s_iload_n, pm_s_istore_n, pm_s_putfield, pm_s_return, ct_X7_tryStand, pS, pR, pC, pE, pL, -Int32.not_le, -Int32.not_lt, -Int64.not_le, -Int64.not_lt, -List.getD_eq_getElem?_getD]
          exact out M1 q1 o1 q2 o2 q3 f1
    have hmid : ∀ M1 : pm_M, (∀ j, j < 4 → M1.1 10 (j) = M.1 2 (j) ∧ M1.1 13 (j) = M.1 5 (j)) → (∀ y, ¬ (0 ≤ y ∧ y < 4) → M1.1 10 y = M.1 10 y ∧ M1.1 13 y = M.1 13 y) → M1.1 11 = M.1 11 → M1.1 12 = M.1 12 → yfr [10, 11, 12, 13] [] M M1 → X 37 [(0, .ref 0)] [] M1 := by
      intro M1 q1 o1 q2 q3 f1
      refine hb37 _ _ _ ?_
      simp (maxSteps := 2000000) [bk_X7_tryStand_0, bk_X7_tryStand_2, bk_X7_tryStand_37, bk_X7_tryStand_39, bk_X7_tryStand_63, pm_arr, pm_e_c0, pm_e_c1, pm_e_cti, pm_e_ctl, pm_e_ctr, pm_e_go, pm_e_i, pm_e_ii, pm_e_ldi, pm_e_ldr, pm_e_lk, pm_e_r, pm_e_ri, pm_e_rii, pm_e_rm0, pm_e_rm1, pm_e_rs0, pm_e_rs1, pm_e_wp0, pm_e_wp1, pm_f2, pm_f3, pm_fld, pm_fv, pm_obj, pm_s_aload_n, pm_s_bipush, pm_s_getfield, pm_s_goto, pm_s_iaload, pm_s_iastore, pm_s_iconst, pm_s_if_icmp_ge, pm_s_iinc, pm_s_iload_n, pm_s_istore_n, pm_s_putfield, pm_s_return, ct_X7_tryStand, pS, pR, pC, pE, pL, -Int32.not_le, -Int32.not_lt, -Int64.not_le, -Int64.not_lt, -List.getD_eq_getElem?_getD]
      exact loop2 48 0 M1 (by omega) (by omega) q1 o1 (fun j hj => by omega) (fun y _ => by rw [q2]) q3 f1
    have loop1 : ∀ (f i : Nat) (M1 : pm_M), 4 ≤ i + f → i ≤ 4 → (∀ j, j < i → M1.1 10 (j) = M.1 2 (j) ∧ M1.1 13 (j) = M.1 5 (j)) → (∀ y, ¬ (0 ≤ y ∧ y < i) → M1.1 10 y = M.1 10 y ∧ M1.1 13 y = M.1 13 y) → M1.1 11 = M.1 11 → M1.1 12 = M.1 12 → yfr [10, 11, 12, 13] [] M M1 → X 2 [(0, .ref 0), (1, .int (nI i))] [] M1 := by
      intro f
      induction f with
      | zero =>
        intro i M1 g1 g2 q1 o1 q2 q3 f1
        have e : i = 4 := by omega
        subst e
        refine hb2 _ _ _ ?_
        simp (maxSteps := 2000000) [bk_X7_tryStand_0, bk_X7_tryStand_2, bk_X7_tryStand_37, bk_X7_tryStand_39, bk_X7_tryStand_63, pm_arr, pm_e_c0, pm_e_c1, pm_e_cti, pm_e_ctl, pm_e_ctr, pm_e_go, pm_e_i, pm_e_ii, pm_e_ldi, pm_e_ldr, pm_e_lk, pm_e_r, pm_e_ri, pm_e_rii, pm_e_rm0, pm_e_rm1, pm_e_rs0, pm_e_rs1, pm_e_wp0, pm_e_wp1, pm_f2, pm_f3, pm_fld, pm_fv, pm_obj, pm_s_aload_n, pm_s_bipush, pm_s_getfield, pm_s_goto, pm_s_iaload, pm_s_iastore, pm_s_iconst, pm_s_if_icmp_ge, pm_s_iinc, pm_s_iload_n, pm_s_istore_n, pm_s_putfield, pm_s_return, ct_X7_tryStand, pS, pR, pC, pE, pL, -Int32.not_le, -Int32.not_lt, -Int64.not_le, -Int64.not_lt, -List.getD_eq_getElem?_getD]
        exact hmid M1 q1 o1 q2 q3 f1
      | succ f ih =>
        intro i M1 g1 g2 q1 o1 q2 q3 f1
        by_cases hi : i < 4
        · refine hb2 _ _ _ ?_
          simp (maxSteps := 2000000) [bk_X7_tryStand_0, bk_X7_tryStand_2, bk_X7_tryStand_37, bk_X7_tryStand_39, bk_X7_tryStand_63, pm_arr, pm_e_c0, pm_e_c1, pm_e_cti, pm_e_ctl, pm_e_ctr, pm_e_go, pm_e_i, pm_e_ii, pm_e_ldi, pm_e_ldr, pm_e_lk, pm_e_r, pm_e_ri, pm_e_rii, pm_e_rm0, pm_e_rm1, pm_e_rs0, pm_e_rs1, pm_e_wp0, pm_e_wp1, pm_f2, pm_f3, pm_fld, pm_fv, pm_obj, pm_s_aload_n, pm_s_bipush, pm_s_getfield, pm_s_goto, pm_s_iaload, pm_s_iastore, pm_s_iconst, pm_s_if_icmp_ge, pm_s_iinc, pm_s_iload_n, pm_s_istore_n, pm_s_putfield, pm_s_return, ct_X7_tryStand, pS, pR, pC, pE, pL, -Int32.not_le, -Int32.not_lt, -Int64.not_le, -Int64.not_lt, -List.getD_eq_getElem?_getD, sy_0, sy_2, sy_3, sy_4, sy_5, sy_10, sy_11, sy_12, sy_13]
          simp (disch := omega) only [ni_in, ni_cl, ni_add, ni_mul, ni_sub, ni_lt, ni_le, ni_eq, ni_eq0, ni_lt0, ni_0le, ni_0lt, ni_le0, ni_a1, ni_a3, ni_a7, ni_a15]
          refine ⟨fun h => by omega, fun _ => ?_⟩
          repeat refine ⟨by omega, ?_⟩
          have e0 : M1.1 2 (i) = M.1 2 (i) := f1.i (by decide) (by decide) _
          have e1 : (pm_set M1 10 (i) (M1.1 2 (i))).1 5 (i) = M.1 5 (i) := by
            simp [pm_set]; exact f1.i (by decide) (by decide) _
          rw [e1, e0]
          refine ih (i + 1) _ (by omega) (by omega) (fun j hj => ?_) (fun y hy => ?_) ?_ ?_ ((f1.set (by decide) (by decide)).set (by decide) (by decide))
          · simp only [me_1]; simp
            by_cases z : j = i
            · simp [z]
            · simp [z]; exact q1 j (by omega)
          · simp only [me_1]; simp
            rw [if_neg (by omega), if_neg (by omega)]; exact o1 y (by omega)
          · rw [← q2]; funext y; simp [pm_set]
          · rw [← q3]; funext y; simp [pm_set]
        · have e : i = 4 := by omega
          subst e
          refine hb2 _ _ _ ?_
          simp (maxSteps := 2000000) [bk_X7_tryStand_0, bk_X7_tryStand_2, bk_X7_tryStand_37, bk_X7_tryStand_39, bk_X7_tryStand_63, pm_arr, pm_e_c0, pm_e_c1, pm_e_cti, pm_e_ctl, pm_e_ctr, pm_e_go, pm_e_i, pm_e_ii, pm_e_ldi, pm_e_ldr, pm_e_lk, pm_e_r, pm_e_ri, pm_e_rii, pm_e_rm0, pm_e_rm1, pm_e_rs0, pm_e_rs1, pm_e_wp0, pm_e_wp1, pm_f2, pm_f3, pm_fld, pm_fv, pm_obj, pm_s_aload_n, pm_s_bipush, pm_s_getfield, pm_s_goto, pm_s_iaload, pm_s_iastore, pm_s_iconst, pm_s_if_icmp_ge, pm_s_iinc, pm_s_iload_n, pm_s_istore_n, pm_s_putfield, pm_s_return, ct_X7_tryStand, pS, pR, pC, pE, pL, -Int32.not_le, -Int32.not_lt, -Int64.not_le, -Int64.not_lt, -List.getD_eq_getElem?_getD]
          exact hmid M1 q1 o1 q2 q3 f1
    refine hb0 _ _ _ ?_
    simp (maxSteps := 2000000) [bk_X7_tryStand_0, bk_X7_tryStand_2, bk_X7_tryStand_37, bk_X7_tryStand_39, bk_X7_tryStand_63, pm_arr, pm_e_c0, pm_e_c1, pm_e_cti, pm_e_ctl, pm_e_ctr, pm_e_go, pm_e_i, pm_e_ii, pm_e_ldi, pm_e_ldr, pm_e_lk, pm_e_r, pm_e_ri, pm_e_rii, pm_e_rm0, pm_e_rm1, pm_e_rs0, pm_e_rs1, pm_e_wp0, pm_e_wp1, pm_f2, pm_f3, pm_fld, pm_fv, pm_obj, pm_s_aload_n, pm_s_bipush, pm_s_getfield, pm_s_goto, pm_s_iaload, pm_s_iastore, pm_s_iconst, pm_s_if_icmp_ge, pm_s_iinc, pm_s_iload_n, pm_s_istore_n, pm_s_putfield, pm_s_return, ct_X7_tryStand, pS, pR, pC, pE, pL, -Int32.not_le, -Int32.not_lt, -Int64.not_le, -Int64.not_lt, -List.getD_eq_getElem?_getD, lv_args]
    exact loop1 4 0 M (by omega) (by omega) (fun j hj => by omega) (fun _ _ => ⟨rfl, rfl⟩) rfl rfl yfr.rfl
  · exact hT.elim
def tt_X7_saves : pm_T := fun args M k => match args with
  | [.ref 0, .int x0] => ∃ ta : Nat, x0 = nI ta ∧ ta ≤ 64 ∧ ∀ M', cpY M M' 2 0 6 ta → keY M M' 6 ta → yfr [6, 7, 8, 9] [] M M' → k none M'
  | _ => False
abbrev ct_X7_saves : List pm_C := []
set_option maxHeartbeats 4000000 in
theorem sm_X7_saves  : pm_Sem SHy yX7_saves cX7_saves 3 none 1 tt_X7_saves := by
  refine pm_Sem_intro bl_X7_saves ct_X7_saves cs_X7_saves rfl (fun _ h => absurd h List.not_mem_nil) ck_X7_saves (by decide +kernel) (by decide) ?_
  intro X k hX args M hT
  have hb0 := hX 0 bk_X7_saves_0 (List.mem_of_getElem? (i := 0) rfl)
  have hb2 := hX 2 bk_X7_saves_2 (List.mem_of_getElem? (i := 1) rfl)
  have hb45 := hX 45 bk_X7_saves_45 (List.mem_of_getElem? (i := 2) rfl)
  have hb47 := hX 47 bk_X7_saves_47 (List.mem_of_getElem? (i := 3) rfl)
  have hb76 := hX 76 bk_X7_saves_76 (List.mem_of_getElem? (i := 4) rfl)
  clear hX
  unfold tt_X7_saves at hT; split at hT
  · obtain ⟨ta, rfl, hta, hT⟩ := hT
    refine ⟨by simp [lg_sl, Value.category], ?_⟩
    have out : ∀ M1 : pm_M, (∀ j, j < 4 → M1.1 6 (4 * ta + j) = M.1 2 (j) ∧ M1.1 9 (4 * ta + j) = M.1 5 (j)) → (∀ y, ¬ (4 * ta + 0 ≤ y ∧ y < 4 * ta + 4) → M1.1 6 y = M.1 6 y ∧ M1.1 9 y = M.1 9 y) → (∀ j, j < 48 → M1.1 7 (48 * ta + j) = M.1 3 (j)) → (∀ y, ¬ (48 * ta + 0 ≤ y ∧ y < 48 * ta + 48) → M1.1 7 y = M.1 7 y) → M1.1 8 = M.1 8 → yfr [6, 7, 8, 9] [] M M1 → X 76 [(0, .ref 0), (1, .int (nI ta))] [] M1 := by
      intro M1 q1 o1 q2 o2 q3 f1
      refine hb76 _ _ _ ?_
      simp (maxSteps := 2000000) [bk_X7_saves_0, bk_X7_saves_2, bk_X7_saves_45, bk_X7_saves_47, bk_X7_saves_76, pm_arr, pm_e_c0, pm_e_c1, pm_e_cti, pm_e_ctl, pm_e_ctr, pm_e_go, pm_e_i, pm_e_ii, pm_e_ldi, pm_e_ldr, pm_e_lk, pm_e_r, pm_e_ri, pm_e_rii, pm_e_rm0, pm_e_rm1, pm_e_rs0, pm_e_rs1, pm_e_wp0, pm_e_wp1, pm_f2, pm_f3, pm_fld, pm_fv, pm_obj, pm_s_aload_n, pm_s_bipush, pm_s_getfield, pm_s_goto, pm_s_iadd, pm_s_iaload, pm_s_iastore, pm_s_iconst, pm_s_if_icmp_ge, pm_s_iinc, pm_s_iload_n, pm_s_imul, pm_s_istore_n, pm_s_return, ct_X7_saves, pS, pR, pC, pE, pL, -Int32.not_le, -Int32.not_lt, -Int64.not_le, -Int64.not_lt, -List.getD_eq_getElem?_getD, sy_0, sy_2, sy_3, sy_4, sy_5, sy_6, sy_7, sy_8, sy_9]
      simp (disch := omega) only [ni_in, ni_cl, ni_add, ni_mul, ni_sub, ni_lt, ni_le, ni_eq, ni_eq0, ni_lt0, ni_0le, ni_0lt, ni_le0, ni_a1, ni_a3, ni_a7, ni_a15]
      repeat refine ⟨by omega, ?_⟩
      have e0 : M1.1 4 (0) = M.1 4 (0) := by exact f1.i (by decide) (by decide) _
      have e1 : (pm_set M1 8 (2 * ta) (M1.1 4 (0))).1 4 (1) = M.1 4 (1) := by
        simp [pm_set]; exact f1.i (by decide) (by decide) _
      rw [e1, e0]
      refine hT _ ⟨fun i hi => ⟨?_, ?_⟩, fun x hx => ?_, fun j hj => ?_⟩ ⟨fun y hy => ⟨?_, ?_⟩, fun y hy => ?_, fun y hy => ?_⟩ ?_
      · have := (q1 i hi).1; simp only [me_1]; simp; simpa using this
      · have := (q1 i hi).2; simp only [me_1]; simp; simpa using this
      · have := q2 x hx; simp only [me_1]; simp; simpa using this
      · rcases (show j = 0 ∨ j = 1 by omega) with rfl | rfl <;> simp [pm_set]
      · have := (o1 y (by omega)).1; simp only [me_1]; simp; exact this
      · have := (o1 y (by omega)).2; simp only [me_1]; simp; exact this
      · have := o2 y (by omega); simp only [me_1]; simp; exact this
      · have hyy : M1.1 8 y = M.1 8 y := by rw [q3]
        simp only [me_1]; simp; rw [if_neg (by omega), if_neg (by omega)]; exact hyy
      · exact ((f1.mono (by decide) (by decide)).set (q := 8) (by decide) (by decide)).set (q := 8) (by decide) (by decide)
    have loop2 : ∀ (f i : Nat) (M1 : pm_M), 48 ≤ i + f → i ≤ 48 → (∀ j, j < 4 → M1.1 6 (4 * ta + j) = M.1 2 (j) ∧ M1.1 9 (4 * ta + j) = M.1 5 (j)) → (∀ y, ¬ (4 * ta + 0 ≤ y ∧ y < 4 * ta + 4) → M1.1 6 y = M.1 6 y ∧ M1.1 9 y = M.1 9 y) → (∀ j, j < i → M1.1 7 (48 * ta + j) = M.1 3 (j)) → (∀ y, ¬ (48 * ta + 0 ≤ y ∧ y < 48 * ta + i) → M1.1 7 y = M.1 7 y) → M1.1 8 = M.1 8 → yfr [6, 7, 8, 9] [] M M1 → X 47 [(0, .ref 0), (1, .int (nI ta)), (2, .int (nI i))] [] M1 := by
      intro f
      induction f with
      | zero =>
        intro i M1 g1 g2 q1 o1 q2 o2 q3 f1
        have e : i = 48 := by omega
        subst e
        refine hb47 _ _ _ ?_
        simp (maxSteps := 2000000) [bk_X7_saves_0, bk_X7_saves_2, bk_X7_saves_45, bk_X7_saves_47, bk_X7_saves_76, pm_arr, pm_e_c0, pm_e_c1, pm_e_cti, pm_e_ctl, pm_e_ctr, pm_e_go, pm_e_i, pm_e_ii, pm_e_ldi, pm_e_ldr, pm_e_lk, pm_e_r, pm_e_ri, pm_e_rii, pm_e_rm0, pm_e_rm1, pm_e_rs0, pm_e_rs1, pm_e_wp0, pm_e_wp1, pm_f2, pm_f3, pm_fld, pm_fv, pm_obj, pm_s_aload_n, pm_s_bipush, pm_s_getfield, pm_s_goto, pm_s_iadd, pm_s_iaload, pm_s_iastore, pm_s_iconst, pm_s_if_icmp_ge, pm_s_iinc, pm_s_iload_n, pm_s_imul, pm_s_istore_n, pm_s_return, ct_X7_saves, pS, pR, pC, pE, pL, -Int32.not_le, -Int32.not_lt, -Int64.not_le, -Int64.not_lt, -List.getD_eq_getElem?_getD]
        exact out M1 q1 o1 q2 o2 q3 f1
      | succ f ih =>
        intro i M1 g1 g2 q1 o1 q2 o2 q3 f1
        by_cases hi : i < 48
        · refine hb47 _ _ _ ?_
          simp (maxSteps := 2000000) [bk_X7_saves_0, bk_X7_saves_2, bk_X7_saves_45, bk_X7_saves_47, bk_X7_saves_76, pm_arr, pm_e_c0, pm_e_c1, pm_e_cti, pm_e_ctl, pm_e_ctr, pm_e_go, pm_e_i, pm_e_ii, pm_e_ldi, pm_e_ldr, pm_e_lk, pm_e_r, pm_e_ri, pm_e_rii, pm_e_rm0, pm_e_rm1, pm_e_rs0, pm_e_rs1, pm_e_wp0, pm_e_wp1, pm_f2, pm_f3, pm_fld, pm_fv, pm_obj, pm_s_aload_n, pm_s_bipush, pm_s_getfield, pm_s_goto, pm_s_iadd, pm_s_iaload, pm_s_iastore, pm_s_iconst, pm_s_if_icmp_ge, pm_s_iinc, pm_s_iload_n, pm_s_imul, pm_s_istore_n, pm_s_return, ct_X7_saves, pS, pR, pC, pE, pL, -Int32.not_le, -Int32.not_lt, -Int64.not_le, -Int64.not_lt, -List.getD_eq_getElem?_getD, sy_0, sy_2, sy_3, sy_4, sy_5, sy_6, sy_7, sy_8, sy_9]
          simp (disch := omega) only [ni_in, ni_cl, ni_add, ni_mul, ni_sub, ni_lt, ni_le, ni_eq, ni_eq0, ni_lt0, ni_0le, ni_0lt, ni_le0, ni_a1, ni_a3, ni_a7, ni_a15]
          refine ⟨fun h => by omega, fun _ => ?_⟩
          repeat refine ⟨by omega, ?_⟩
          have e0 : M1.1 3 (i) = M.1 3 (i) := f1.i (by decide) (by decide) _
          rw [e0]
          refine ih (i + 1) _ (by omega) (by omega) (fun j hj => ?_) (fun y hy => ?_) (fun j hj => ?_) (fun y hy => ?_) ?_ (f1.set (by decide) (by decide))
          · have := q1 j hj; simp only [me_1]; simp; exact this
          · have := o1 y hy; simp only [me_1]; simp; exact this
          · rw [me_1s]
            by_cases z : j = i
            · rw [z, if_pos rfl]
            · rw [if_neg (by omega)]; exact q2 j (by omega)
          · rw [me_1s, if_neg (by omega)]; exact o2 y (by omega)
          · rw [← q3]; funext y; simp [pm_set]
        · have e : i = 48 := by omega
          subst e
          refine hb47 _ _ _ ?_
          simp (maxSteps := 2000000) [bk_X7_saves_0, bk_X7_saves_2, bk_X7_saves_45, bk_X7_saves_47, bk_X7_saves_76, pm_arr, pm_e_c0, pm_e_c1, pm_e_cti, pm_e_ctl, pm_e_ctr, pm_e_go, pm_e_i, pm_e_ii, pm_e_ldi, pm_e_ldr, pm_e_lk, pm_e_r, pm_e_ri, pm_e_rii, pm_e_rm0, pm_e_rm1, pm_e_rs0, pm_e_rs1, pm_e_wp0, pm_e_wp1, pm_f2, pm_f3, pm_fld, pm_fv, pm_obj, pm_s_aload_n, pm_s_bipush, pm_s_getfield, pm_s_goto, pm_s_iadd, pm_s_iaload, pm_s_iastore, pm_s_iconst, pm_s_if_icmp_ge, pm_s_iinc, pm_s_iload_n, pm_s_imul, pm_s_istore_n, pm_s_return, ct_X7_saves, pS, pR, pC, pE, pL, -Int32.not_le, -Int32.not_lt, -Int64.not_le, -Int64.not_lt, -List.getD_eq_getElem?_getD]
          exact out M1 q1 o1 q2 o2 q3 f1
    have hmid : ∀ M1 : pm_M, (∀ j, j < 4 → M1.1 6 (4 * ta + j) = M.1 2 (j) ∧ M1.1 9 (4 * ta + j) = M.1 5 (j)) → (∀ y, ¬ (4 * ta + 0 ≤ y ∧ y < 4 * ta + 4) → M1.1 6 y = M.1 6 y ∧ M1.1 9 y = M.1 9 y) → M1.1 7 = M.1 7 → M1.1 8 = M.1 8 → yfr [6, 7, 8, 9] [] M M1 → X 45 [(0, .ref 0), (1, .int (nI ta))] [] M1 := by
      intro M1 q1 o1 q2 q3 f1
      refine hb45 _ _ _ ?_
      simp (maxSteps := 2000000) [bk_X7_saves_0, bk_X7_saves_2, bk_X7_saves_45, bk_X7_saves_47, bk_X7_saves_76, pm_arr, pm_e_c0, pm_e_c1, pm_e_cti, pm_e_ctl, pm_e_ctr, pm_e_go, pm_e_i, pm_e_ii, pm_e_ldi, pm_e_ldr, pm_e_lk, pm_e_r, pm_e_ri, pm_e_rii, pm_e_rm0, pm_e_rm1, pm_e_rs0, pm_e_rs1, pm_e_wp0, pm_e_wp1, pm_f2, pm_f3, pm_fld, pm_fv, pm_obj, pm_s_aload_n, pm_s_bipush, pm_s_getfield, pm_s_goto, pm_s_iadd, pm_s_iaload, pm_s_iastore, pm_s_iconst, pm_s_if_icmp_ge, pm_s_iinc, pm_s_iload_n, pm_s_imul, pm_s_istore_n, pm_s_return, ct_X7_saves, pS, pR, pC, pE, pL, -Int32.not_le, -Int32.not_lt, -Int64.not_le, -Int64.not_lt, -List.getD_eq_getElem?_getD]
      exact loop2 48 0 M1 (by omega) (by omega) q1 o1 (fun j hj => by omega) (fun y _ => by rw [q2]) q3 f1
    have loop1 : ∀ (f i : Nat) (M1 : pm_M), 4 ≤ i + f → i ≤ 4 → (∀ j, j < i → M1.1 6 (4 * ta + j) = M.1 2 (j) ∧ M1.1 9 (4 * ta + j) = M.1 5 (j)) → (∀ y, ¬ (4 * ta + 0 ≤ y ∧ y < 4 * ta + i) → M1.1 6 y = M.1 6 y ∧ M1.1 9 y = M.1 9 y) → M1.1 7 = M.1 7 → M1.1 8 = M.1 8 → yfr [6, 7, 8, 9] [] M M1 → X 2 [(0, .ref 0), (1, .int (nI ta)), (2, .int (nI i))] [] M1 := by
      intro f
      induction f with
      | zero =>
        intro i M1 g1 g2 q1 o1 q2 q3 f1
        have e : i = 4 := by omega
        subst e
        refine hb2 _ _ _ ?_
        simp (maxSteps := 2000000) [bk_X7_saves_0, bk_X7_saves_2, bk_X7_saves_45, bk_X7_saves_47, bk_X7_saves_76, pm_arr, pm_e_c0, pm_e_c1, pm_e_cti, pm_e_ctl, pm_e_ctr, pm_e_go, pm_e_i, pm_e_ii, pm_e_ldi, pm_e_ldr, pm_e_lk, pm_e_r, pm_e_ri, pm_e_rii, pm_e_rm0, pm_e_rm1, pm_e_rs0, pm_e_rs1, pm_e_wp0, pm_e_wp1, pm_f2, pm_f3, pm_fld, pm_fv, pm_obj, pm_s_aload_n, pm_s_bipush, pm_s_getfield, pm_s_goto, pm_s_iadd, pm_s_iaload, pm_s_iastore, pm_s_iconst, pm_s_if_icmp_ge, pm_s_iinc, pm_s_iload_n, pm_s_imul, pm_s_istore_n, pm_s_return, ct_X7_saves, pS, pR, pC, pE, pL, -Int32.not_le, -Int32.not_lt, -Int64.not_le, -Int64.not_lt, -List.getD_eq_getElem?_getD]
        exact hmid M1 q1 o1 q2 q3 f1
      | succ f ih =>
        intro i M1 g1 g2 q1 o1 q2 q3 f1
        by_cases hi : i < 4
        · refine hb2 _ _ _ ?_
          simp (maxSteps := 2000000) [bk_X7_saves_0, bk_X7_saves_2, bk_X7_saves_45, bk_X7_saves_47, bk_X7_saves_76, pm_arr, pm_e_c0, pm_e_c1, pm_e_cti, pm_e_ctl, pm_e_ctr, pm_e_go, pm_e_i, pm_e_ii, pm_e_ldi, pm_e_ldr, pm_e_lk, pm_e_r, pm_e_ri, pm_e_rii, pm_e_rm0, pm_e_rm1, pm_e_rs0, pm_e_rs1, pm_e_wp0, pm_e_wp1, pm_f2, pm_f3, pm_fld, pm_fv, pm_obj, pm_s_aload_n, pm_s_bipush, pm_s_getfield, pm_s_goto, pm_s_iadd, pm_s_iaload, pm_s_iastore, pm_s_iconst, pm_s_if_icmp_ge, pm_s_iinc, pm_s_iload_n, pm_s_imul, pm_s_istore_n, pm_s_return, ct_X7_saves, pS, pR, pC, pE, pL, -Int32.not_le, -Int32.not_lt, -Int64.not_le, -Int64.not_lt, -List.getD_eq_getElem?_getD, sy_0, sy_2, sy_3, sy_4, sy_5, sy_6, sy_7, sy_8, sy_9]
          simp (disch := omega) only [ni_in, ni_cl, ni_add, ni_mul, ni_sub, ni_lt, ni_le, ni_eq, ni_eq0, ni_lt0, ni_0le, ni_0lt, ni_le0, ni_a1, ni_a3, ni_a7, ni_a15]
          refine ⟨fun h => by omega, fun _ => ?_⟩
          repeat refine ⟨by omega, ?_⟩
          have e0 : M1.1 2 (i) = M.1 2 (i) := f1.i (by decide) (by decide) _
          have e1 : (pm_set M1 6 (4 * ta + i) (M1.1 2 (i))).1 5 (i) = M.1 5 (i) := by
            simp [pm_set]; exact f1.i (by decide) (by decide) _
          rw [e1, e0]
          refine ih (i + 1) _ (by omega) (by omega) (fun j hj => ?_) (fun y hy => ?_) ?_ ?_ ((f1.set (by decide) (by decide)).set (by decide) (by decide))
          · simp only [me_1]; simp
            by_cases z : j = i
            · simp [z]
            · simp [z]; exact q1 j (by omega)
          · simp only [me_1]; simp
            rw [if_neg (by omega), if_neg (by omega)]; exact o1 y (by omega)
          · rw [← q2]; funext y; simp [pm_set]
          · rw [← q3]; funext y; simp [pm_set]
        · have e : i = 4 := by omega
          subst e
          refine hb2 _ _ _ ?_
          simp (maxSteps := 2000000) [bk_X7_saves_0, bk_X7_saves_2, bk_X7_saves_45, bk_X7_saves_47, bk_X7_saves_76, pm_arr, pm_e_c0, pm_e_c1, pm_e_cti, pm_e_ctl, pm_e_ctr, pm_e_go, pm_e_i, pm_e_ii, pm_e_ldi, pm_e_ldr, pm_e_lk, pm_e_r, pm_e_ri, pm_e_rii, pm_e_rm0, pm_e_rm1, pm_e_rs0, pm_e_rs1, pm_e_wp0, pm_e_wp1, pm_f2, pm_f3, pm_fld, pm_fv, pm_obj, pm_s_aload_n, pm_s_bipush, pm_s_getfield, pm_s_goto, pm_s_iadd, pm_s_iaload, pm_s_iastore, pm_s_iconst, pm_s_if_icmp_ge, pm_s_iinc, pm_s_iload_n, pm_s_imul, pm_s_istore_n, pm_s_return, ct_X7_saves, pS, pR, pC, pE, pL, -Int32.not_le, -Int32.not_lt, -Int64.not_le, -Int64.not_lt, -List.getD_eq_getElem?_getD]
          exact hmid M1 q1 o1 q2 q3 f1
    refine hb0 _ _ _ ?_
    simp (maxSteps := 2000000) [bk_X7_saves_0, bk_X7_saves_2, bk_X7_saves_45, bk_X7_saves_47, bk_X7_saves_76, pm_arr, pm_e_c0, pm_e_c1, pm_e_cti, pm_e_ctl, pm_e_ctr, pm_e_go, pm_e_i, pm_e_ii, pm_e_ldi, pm_e_ldr, pm_e_lk, pm_e_r, pm_e_ri, pm_e_rii, pm_e_rm0, pm_e_rm1, pm_e_rs0, pm_e_rs1, pm_e_wp0, pm_e_wp1, pm_f2, pm_f3, pm_fld, pm_fv, pm_obj, pm_s_aload_n, pm_s_bipush, pm_s_getfield, pm_s_goto, pm_s_iadd, pm_s_iaload, pm_s_iastore, pm_s_iconst, pm_s_if_icmp_ge, pm_s_iinc, pm_s_iload_n, pm_s_imul, pm_s_istore_n, pm_s_return, ct_X7_saves, pS, pR, pC, pE, pL, -Int32.not_le, -Int32.not_lt, -Int64.not_le, -Int64.not_lt, -List.getD_eq_getElem?_getD, lv_args]
    exact loop1 4 0 M (by omega) (by omega) (fun j hj => by omega) (fun _ _ => ⟨rfl, rfl⟩) rfl rfl yfr.rfl
  · exact hT.elim
def tt_X7_moves : pm_T := fun args M k => match args with
  | [.ref 0, .int x0, .int x1] => ∃ ta tb : Nat, x0 = nI ta ∧ ta ≤ 64 ∧ x1 = nI tb ∧ tb ≤ 64 ∧ tb ≠ ta ∧ ∀ M', cpY M M' 6 ta 6 tb → keY M M' 6 tb → yfr [6, 7, 8, 9] [] M M' → k none M'
  | _ => False
abbrev ct_X7_moves : List pm_C := []
set_option maxHeartbeats 4000000 in
theorem sm_X7_moves  : pm_Sem SHy yX7_moves cX7_moves 4 none 1 tt_X7_moves := by
  refine pm_Sem_intro bl_X7_moves ct_X7_moves cs_X7_moves rfl (fun _ h => absurd h List.not_mem_nil) ck_X7_moves (by decide +kernel) (by decide) ?_
  intro X k hX args M hT
  have hb0 := hX 0 bk_X7_moves_0 (List.mem_of_getElem? (i := 0) rfl)
  have hb2 := hX 2 bk_X7_moves_2 (List.mem_of_getElem? (i := 1) rfl)
  have hb53 := hX 53 bk_X7_moves_53 (List.mem_of_getElem? (i := 2) rfl)
  have hb55 := hX 55 bk_X7_moves_55 (List.mem_of_getElem? (i := 3) rfl)
  have hb89 := hX 89 bk_X7_moves_89 (List.mem_of_getElem? (i := 4) rfl)
  clear hX
  unfold tt_X7_moves at hT; split at hT
  · obtain ⟨ta, tb, rfl, hta, rfl, htb, hne, hT⟩ := hT
    refine ⟨by simp [lg_sl, Value.category], ?_⟩
    have out : ∀ M1 : pm_M, (∀ j, j < 4 → M1.1 6 (4 * tb + j) = M.1 6 (4 * ta + j) ∧ M1.1 9 (4 * tb + j) = M.1 9 (4 * ta + j)) → (∀ y, ¬ (4 * tb + 0 ≤ y ∧ y < 4 * tb + 4) → M1.1 6 y = M.1 6 y ∧ M1.1 9 y = M.1 9 y) → (∀ j, j < 48 → M1.1 7 (48 * tb + j) = M.1 7 (48 * ta + j)) → (∀ y, ¬ (48 * tb + 0 ≤ y ∧ y < 48 * tb + 48) → M1.1 7 y = M.1 7 y) → M1.1 8 = M.1 8 → yfr [6, 7, 8, 9] [] M M1 → X 89 [(0, .ref 0), (1, .int (nI ta)), (2, .int (nI tb))] [] M1 := by
      intro M1 q1 o1 q2 o2 q3 f1
      refine hb89 _ _ _ ?_
      simp (maxSteps := 2000000) [bk_X7_moves_0, bk_X7_moves_2, bk_X7_moves_53, bk_X7_moves_55, bk_X7_moves_89, pm_arr, pm_e_c0, pm_e_c1, pm_e_cti, pm_e_ctl, pm_e_ctr, pm_e_go, pm_e_i, pm_e_ii, pm_e_ldi, pm_e_ldr, pm_e_lk, pm_e_r, pm_e_ri, pm_e_rii, pm_e_rm0, pm_e_rm1, pm_e_rs0, pm_e_rs1, pm_e_wp0, pm_e_wp1, pm_f2, pm_f3, pm_fld, pm_fv, pm_obj, pm_s_aload_n, pm_s_bipush, pm_s_getfield, pm_s_goto, pm_s_iadd, pm_s_iaload, pm_s_iastore, pm_s_iconst, pm_s_if_icmp_ge, pm_s_iinc, pm_s_iload_n, pm_s_imul, pm_s_istore_n, pm_s_return, ct_X7_moves, pS, pR, pC, pE, pL, -Int32.not_le, -Int32.not_lt, -Int64.not_le, -Int64.not_lt, -List.getD_eq_getElem?_getD, sy_0, sy_6, sy_7, sy_8, sy_9]
      simp (disch := omega) only [ni_in, ni_cl, ni_add, ni_mul, ni_sub, ni_lt, ni_le, ni_eq, ni_eq0, ni_lt0, ni_0le, ni_0lt, ni_le0, ni_a1, ni_a3, ni_a7, ni_a15]
      repeat refine ⟨by omega, ?_⟩
      have e0 : M1.1 8 (2 * ta) = M.1 8 (2 * ta) := by rw [q3]
      have e1 : (pm_set M1 8 (2 * tb) (M1.1 8 (2 * ta))).1 8 (2 * ta + 1) = M.1 8 (2 * ta + 1) := by
        rw [me_1s, if_neg (by omega), q3]
      rw [e1, e0]
      refine hT _ ⟨fun i hi => ⟨?_, ?_⟩, fun x hx => ?_, fun j hj => ?_⟩ ⟨fun y hy => ⟨?_, ?_⟩, fun y hy => ?_, fun y hy => ?_⟩ ?_
      · have := (q1 i hi).1; simp only [me_1]; simp; simpa using this
      · have := (q1 i hi).2; simp only [me_1]; simp; simpa using this
      · have := q2 x hx; simp only [me_1]; simp; simpa using this
      · rcases (show j = 0 ∨ j = 1 by omega) with rfl | rfl <;> simp [pm_set]
      · have := (o1 y (by omega)).1; simp only [me_1]; simp; exact this
      · have := (o1 y (by omega)).2; simp only [me_1]; simp; exact this
      · have := o2 y (by omega); simp only [me_1]; simp; exact this
      · have hyy : M1.1 8 y = M.1 8 y := by rw [q3]
        simp only [me_1]; simp; rw [if_neg (by omega), if_neg (by omega)]; exact hyy
      · exact ((f1.mono (by decide) (by decide)).set (q := 8) (by decide) (by decide)).set (q := 8) (by decide) (by decide)
    have loop2 : ∀ (f i : Nat) (M1 : pm_M), 48 ≤ i + f → i ≤ 48 → (∀ j, j < 4 → M1.1 6 (4 * tb + j) = M.1 6 (4 * ta + j) ∧ M1.1 9 (4 * tb + j) = M.1 9 (4 * ta + j)) → (∀ y, ¬ (4 * tb + 0 ≤ y ∧ y < 4 * tb + 4) → M1.1 6 y = M.1 6 y ∧ M1.1 9 y = M.1 9 y) → (∀ j, j < i → M1.1 7 (48 * tb + j) = M.1 7 (48 * ta + j)) → (∀ y, ¬ (48 * tb + 0 ≤ y ∧ y < 48 * tb + i) → M1.1 7 y = M.1 7 y) → M1.1 8 = M.1 8 → yfr [6, 7, 8, 9] [] M M1 → X 55 [(0, .ref 0), (1, .int (nI ta)), (2, .int (nI tb)), (3, .int (nI i))] [] M1 := by
      intro f
      induction f with
      | zero =>
        intro i M1 g1 g2 q1 o1 q2 o2 q3 f1
        have e : i = 48 := by omega
        subst e
        refine hb55 _ _ _ ?_
        simp (maxSteps := 2000000) [bk_X7_moves_0, bk_X7_moves_2, bk_X7_moves_53, bk_X7_moves_55, bk_X7_moves_89, pm_arr, pm_e_c0, pm_e_c1, pm_e_cti, pm_e_ctl, pm_e_ctr, pm_e_go, pm_e_i, pm_e_ii, pm_e_ldi, pm_e_ldr, pm_e_lk, pm_e_r, pm_e_ri, pm_e_rii, pm_e_rm0, pm_e_rm1, pm_e_rs0, pm_e_rs1, pm_e_wp0, pm_e_wp1, pm_f2, pm_f3, pm_fld, pm_fv, pm_obj, pm_s_aload_n, pm_s_bipush, pm_s_getfield, pm_s_goto, pm_s_iadd, pm_s_iaload, pm_s_iastore, pm_s_iconst, pm_s_if_icmp_ge, pm_s_iinc, pm_s_iload_n, pm_s_imul, pm_s_istore_n, pm_s_return, ct_X7_moves, pS, pR, pC, pE, pL, -Int32.not_le, -Int32.not_lt, -Int64.not_le, -Int64.not_lt, -List.getD_eq_getElem?_getD]
        exact out M1 q1 o1 q2 o2 q3 f1
      | succ f ih =>
        intro i M1 g1 g2 q1 o1 q2 o2 q3 f1
        by_cases hi : i < 48
        · refine hb55 _ _ _ ?_
          simp (maxSteps := 2000000) [bk_X7_moves_0, bk_X7_moves_2, bk_X7_moves_53, bk_X7_moves_55, bk_X7_moves_89, pm_arr, pm_e_c0, pm_e_c1, pm_e_cti, pm_e_ctl, pm_e_ctr, pm_e_go, pm_e_i, pm_e_ii, pm_e_ldi, pm_e_ldr, pm_e_lk, pm_e_r, pm_e_ri, pm_e_rii, pm_e_rm0, pm_e_rm1, pm_e_rs0, pm_e_rs1, pm_e_wp0, pm_e_wp1, pm_f2, pm_f3, pm_fld, pm_fv, pm_obj, pm_s_aload_n, pm_s_bipush, pm_s_getfield, pm_s_goto, pm_s_iadd, pm_s_iaload, pm_s_iastore, pm_s_iconst, pm_s_if_icmp_ge, pm_s_iinc, pm_s_iload_n, pm_s_imul, pm_s_istore_n, pm_s_return, ct_X7_moves, pS, pR, pC, pE, pL, -Int32.not_le, -Int32.not_lt, -Int64.not_le, -Int64.not_lt, -List.getD_eq_getElem?_getD, sy_0, sy_6, sy_7, sy_8, sy_9]
          simp (disch := omega) only [ni_in, ni_cl, ni_add, ni_mul, ni_sub, ni_lt, ni_le, ni_eq, ni_eq0, ni_lt0, ni_0le, ni_0lt, ni_le0, ni_a1, ni_a3, ni_a7, ni_a15]
          refine ⟨fun h => by omega, fun _ => ?_⟩
          repeat refine ⟨by omega, ?_⟩
          have e0 : M1.1 7 (48 * ta + i) = M.1 7 (48 * ta + i) := o2 _ (by omega)
          rw [e0]
          refine ih (i + 1) _ (by omega) (by omega) (fun j hj => ?_) (fun y hy => ?_) (fun j hj => ?_) (fun y hy => ?_) ?_ (f1.set (by decide) (by decide))
          · have := q1 j hj; simp only [me_1]; simp; exact this
          · have := o1 y hy; simp only [me_1]; simp; exact this
          · rw [me_1s]
            by_cases z : j = i
            · rw [z, if_pos rfl]
            · rw [if_neg (by omega)]; exact q2 j (by omega)
          · rw [me_1s, if_neg (by omega)]; exact o2 y (by omega)
          · rw [← q3]; funext y; simp [pm_set]
        · have e : i = 48 := by omega
          subst e
          refine hb55 _ _ _ ?_
          simp (maxSteps := 2000000) [bk_X7_moves_0, bk_X7_moves_2, bk_X7_moves_53, bk_X7_moves_55, bk_X7_moves_89, pm_arr, pm_e_c0, pm_e_c1, pm_e_cti, pm_e_ctl, pm_e_ctr, pm_e_go, pm_e_i, pm_e_ii, pm_e_ldi, pm_e_ldr, pm_e_lk, pm_e_r, pm_e_ri, pm_e_rii, pm_e_rm0, pm_e_rm1, pm_e_rs0, pm_e_rs1, pm_e_wp0, pm_e_wp1, pm_f2, pm_f3, pm_fld, pm_fv, pm_obj, pm_s_aload_n, pm_s_bipush, pm_s_getfield, pm_s_goto, pm_s_iadd, pm_s_iaload, pm_s_iastore, pm_s_iconst, pm_s_if_icmp_ge, pm_s_iinc, pm_s_iload_n, pm_s_imul, pm_s_istore_n, pm_s_return, ct_X7_moves, pS, pR, pC, pE, pL, -Int32.not_le, -Int32.not_lt, -Int64.not_le, -Int64.not_lt, -List.getD_eq_getElem?_getD]
          exact out M1 q1 o1 q2 o2 q3 f1
    have hmid : ∀ M1 : pm_M, (∀ j, j < 4 → M1.1 6 (4 * tb + j) = M.1 6 (4 * ta + j) ∧ M1.1 9 (4 * tb + j) = M.1 9 (4 * ta + j)) → (∀ y, ¬ (4 * tb + 0 ≤ y ∧ y < 4 * tb + 4) → M1.1 6 y = M.1 6 y ∧ M1.1 9 y = M.1 9 y) → M1.1 7 = M.1 7 → M1.1 8 = M.1 8 → yfr [6, 7, 8, 9] [] M M1 → X 53 [(0, .ref 0), (1, .int (nI ta)), (2, .int (nI tb))] [] M1 := by
      intro M1 q1 o1 q2 q3 f1
      refine hb53 _ _ _ ?_
      simp (maxSteps := 2000000) [bk_X7_moves_0, bk_X7_moves_2, bk_X7_moves_53, bk_X7_moves_55, bk_X7_moves_89, pm_arr, pm_e_c0, pm_e_c1, pm_e_cti, pm_e_ctl, pm_e_ctr, pm_e_go, pm_e_i, pm_e_ii, pm_e_ldi, pm_e_ldr, pm_e_lk, pm_e_r, pm_e_ri, pm_e_rii, pm_e_rm0, pm_e_rm1, pm_e_rs0, pm_e_rs1, pm_e_wp0, pm_e_wp1, pm_f2, pm_f3, pm_fld, pm_fv, pm_obj, pm_s_aload_n, pm_s_bipush, pm_s_getfield, pm_s_goto, pm_s_iadd, pm_s_iaload, pm_s_iastore, pm_s_iconst, pm_s_if_icmp_ge, pm_s_iinc, pm_s_iload_n, pm_s_imul, pm_s_istore_n, pm_s_return, ct_X7_moves, pS, pR, pC, pE, pL, -Int32.not_le, -Int32.not_lt, -Int64.not_le, -Int64.not_lt, -List.getD_eq_getElem?_getD]
      exact loop2 48 0 M1 (by omega) (by omega) q1 o1 (fun j hj => by omega) (fun y _ => by rw [q2]) q3 f1
    have loop1 : ∀ (f i : Nat) (M1 : pm_M), 4 ≤ i + f → i ≤ 4 → (∀ j, j < i → M1.1 6 (4 * tb + j) = M.1 6 (4 * ta + j) ∧ M1.1 9 (4 * tb + j) = M.1 9 (4 * ta + j)) → (∀ y, ¬ (4 * tb + 0 ≤ y ∧ y < 4 * tb + i) → M1.1 6 y = M.1 6 y ∧ M1.1 9 y = M.1 9 y) → M1.1 7 = M.1 7 → M1.1 8 = M.1 8 → yfr [6, 7, 8, 9] [] M M1 → X 2 [(0, .ref 0), (1, .int (nI ta)), (2, .int (nI tb)), (3, .int (nI i))] [] M1 := by
      intro f
      induction f with
      | zero =>
        intro i M1 g1 g2 q1 o1 q2 q3 f1
        have e : i = 4 := by omega
        subst e
        refine hb2 _ _ _ ?_
        simp (maxSteps := 2000000) [bk_X7_moves_0, bk_X7_moves_2, bk_X7_moves_53, bk_X7_moves_55, bk_X7_moves_89, pm_arr, pm_e_c0, pm_e_c1, pm_e_cti, pm_e_ctl, pm_e_ctr, pm_e_go, pm_e_i, pm_e_ii, pm_e_ldi, pm_e_ldr, pm_e_lk, pm_e_r, pm_e_ri, pm_e_rii, pm_e_rm0, pm_e_rm1, pm_e_rs0, pm_e_rs1, pm_e_wp0, pm_e_wp1, pm_f2, pm_f3, pm_fld, pm_fv, pm_obj, pm_s_aload_n, pm_s_bipush, pm_s_getfield, pm_s_goto, pm_s_iadd, pm_s_iaload, pm_s_iastore, pm_s_iconst, pm_s_if_icmp_ge, pm_s_iinc, pm_s_iload_n, pm_s_imul, pm_s_istore_n, pm_s_return, ct_X7_moves, pS, pR, pC, pE, pL, -Int32.not_le, -Int32.not_lt, -Int64.not_le, -Int64.not_lt, -List.getD_eq_getElem?_getD]
        exact hmid M1 q1 o1 q2 q3 f1
      | succ f ih =>
        intro i M1 g1 g2 q1 o1 q2 q3 f1
        by_cases hi : i < 4
        · refine hb2 _ _ _ ?_
          simp (maxSteps := 2000000) [bk_X7_moves_0, bk_X7_moves_2, bk_X7_moves_53, bk_X7_moves_55, bk_X7_moves_89, pm_arr, pm_e_c0, pm_e_c1, pm_e_cti, pm_e_ctl, pm_e_ctr, pm_e_go, pm_e_i, pm_e_ii, pm_e_ldi, pm_e_ldr, pm_e_lk, pm_e_r, pm_e_ri, pm_e_rii, pm_e_rm0, pm_e_rm1, pm_e_rs0, pm_e_rs1, pm_e_wp0, pm_e_wp1, pm_f2, pm_f3, pm_fld, pm_fv, pm_obj, pm_s_aload_n, pm_s_bipush, pm_s_getfield, pm_s_goto, pm_s_iadd, pm_s_iaload, pm_s_iastore, pm_s_iconst, pm_s_if_icmp_ge, pm_s_iinc, pm_s_iload_n, pm_s_imul, pm_s_istore_n, pm_s_return, ct_X7_moves, pS, pR, pC, pE, pL, -Int32.not_le, -Int32.not_lt, -Int64.not_le, -Int64.not_lt, -List.getD_eq_getElem?_getD, sy_0, sy_6, sy_7, sy_8, sy_9]
          simp (disch := omega) only [ni_in, ni_cl, ni_add, ni_mul, ni_sub, ni_lt, ni_le, ni_eq, ni_eq0, ni_lt0, ni_0le, ni_0lt, ni_le0, ni_a1, ni_a3, ni_a7, ni_a15]
          refine ⟨fun h => by omega, fun _ => ?_⟩
          repeat refine ⟨by omega, ?_⟩
          have e0 : M1.1 6 (4 * ta + i) = M.1 6 (4 * ta + i) := (o1 _ (by omega)).1
          have e1 : (pm_set M1 6 (4 * tb + i) (M1.1 6 (4 * ta + i))).1 9 (4 * ta + i) = M.1 9 (4 * ta + i) := by
            simp [pm_set]; exact (o1 _ (by omega)).2
          rw [e1, e0]
          refine ih (i + 1) _ (by omega) (by omega) (fun j hj => ?_) (fun y hy => ?_) ?_ ?_ ((f1.set (by decide) (by decide)).set (by decide) (by decide))
          · simp only [me_1]; simp
            by_cases z : j = i
            · simp [z]
            · simp [z]; exact q1 j (by omega)
          · simp only [me_1]; simp
            rw [if_neg (by omega), if_neg (by omega)]; exact o1 y (by omega)
          · rw [← q2]; funext y; simp [pm_set]
          · rw [← q3]; funext y; simp [pm_set]
        · have e : i = 4 := by omega
          subst e
          refine hb2 _ _ _ ?_
          simp (maxSteps := 2000000) [bk_X7_moves_0, bk_X7_moves_2, bk_X7_moves_53, bk_X7_moves_55, bk_X7_moves_89, pm_arr, pm_e_c0, pm_e_c1, pm_e_cti, pm_e_ctl, pm_e_ctr, pm_e_go, pm_e_i, pm_e_ii, pm_e_ldi, pm_e_ldr, pm_e_lk, pm_e_r, pm_e_ri, pm_e_rii, pm_e_rm0, pm_e_rm1, pm_e_rs0, pm_e_rs1, pm_e_wp0, pm_e_wp1, pm_f2, pm_f3, pm_fld, pm_fv, pm_obj, pm_s_aload_n, pm_s_bipush, pm_s_getfield, pm_s_goto, pm_s_iadd, pm_s_iaload, pm_s_iastore, pm_s_iconst, pm_s_if_icmp_ge, pm_s_iinc, pm_s_iload_n, pm_s_imul, pm_s_istore_n, pm_s_return, ct_X7_moves, pS, pR, pC, pE, pL, -Int32.not_le, -Int32.not_lt, -Int64.not_le, -Int64.not_lt, -List.getD_eq_getElem?_getD]
          exact hmid M1 q1 o1 q2 q3 f1
    refine hb0 _ _ _ ?_
    simp (maxSteps := 2000000) [bk_X7_moves_0, bk_X7_moves_2, bk_X7_moves_53, bk_X7_moves_55, bk_X7_moves_89, pm_arr, pm_e_c0, pm_e_c1, pm_e_cti, pm_e_ctl, pm_e_ctr, pm_e_go, pm_e_i, pm_e_ii, pm_e_ldi, pm_e_ldr, pm_e_lk, pm_e_r, pm_e_ri, pm_e_rii, pm_e_rm0, pm_e_rm1, pm_e_rs0, pm_e_rs1, pm_e_wp0, pm_e_wp1, pm_f2, pm_f3, pm_fld, pm_fv, pm_obj, pm_s_aload_n, pm_s_bipush, pm_s_getfield, pm_s_goto, pm_s_iadd, pm_s_iaload, pm_s_iastore, pm_s_iconst, pm_s_if_icmp_ge, pm_s_iinc, pm_s_iload_n, pm_s_imul, pm_s_istore_n, pm_s_return, ct_X7_moves, pS, pR, pC, pE, pL, -Int32.not_le, -Int32.not_lt, -Int64.not_le, -Int64.not_lt, -List.getD_eq_getElem?_getD, lv_args]
    exact loop1 4 0 M (by omega) (by omega) (fun j hj => by omega) (fun _ _ => ⟨rfl, rfl⟩) rfl rfl yfr.rfl
  · exact hT.elim
