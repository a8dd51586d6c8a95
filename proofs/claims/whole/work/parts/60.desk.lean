/-! THE DESK's small ones -/
def tt_X6_isColumn : pm_T := fun args M k => match args with
  | [.ref 0, .int x] => k (some (.int (pb (wi x (nI 0) (M.1 1 5 - nI 1))))) M
  | _ => False
abbrev ct_X6_isColumn : List pm_C := [(true, 64, 6, 3, (some .boolean), tt_X6_isWithin)]
set_option maxHeartbeats 4000000 in
theorem sm_X6_isColumn  : pm_Sem SHx yX6_isColumn cX6_isColumn 2 (some .boolean) 2 tt_X6_isColumn := by
  refine pm_Sem_intro bl_X6_isColumn ct_X6_isColumn cs_X6_isColumn rfl (List.forall_mem_cons.mpr ⟨⟨_, _, _, _, sm_X6_isWithin, by decide, cm_X6_isWithin, by decide +kernel⟩, fun _ h => absurd h List.not_mem_nil⟩) ck_X6_isColumn (by decide +kernel) (by decide) ?_
  intro X k hX args M hT
  have hb0 := hX 0 bk_X6_isColumn_0 (List.mem_of_getElem? (i := 0) rfl)
  clear hX
  unfold tt_X6_isColumn at hT; split at hT
  · refine ⟨by simp [lg_sl, Value.category], ?_⟩
    refine hb0 _ _ _ ?_
    simp (maxSteps := 2000000) [bk_X6_isColumn_0, pm_call, pm_e_c0, pm_e_c1, pm_e_cti, pm_e_ctl, pm_e_ctr, pm_e_go, pm_e_ii, pm_e_ldi, pm_e_ldr, pm_e_lk, pm_e_r, pm_e_rm0, pm_e_rm1, pm_e_rs0, pm_e_rs1, pm_e_wp0, pm_e_wp1, pm_f2, pm_f3, pm_fld, pm_fv, pm_obj, pm_recv, pm_s_aload_n, pm_s_getfield, pm_s_iconst, pm_s_iload_n, pm_s_invokestatic, pm_s_ireturn, pm_s_isub, ct_X6_isColumn, tt_X6_isWithin, pS, pR, pC, pE, pL, -Int32.not_le, -Int32.not_lt, -Int64.not_le, -Int64.not_lt, -List.getD_eq_getElem?_getD, lv_args, sx_0, sx_1, pb_01]
    exact hT
  · exact hT.elim
def tt_X6_refuse : pm_T := fun args M k => match args with
  | [.ref 0, .int x] => k (some (.int (-nI 1))) (pm_set M 0 9 x)
  | _ => False
abbrev ct_X6_refuse : List pm_C := []
set_option maxHeartbeats 4000000 in
theorem sm_X6_refuse  : pm_Sem SHx yX6_refuse cX6_refuse 2 (some .int) 1 tt_X6_refuse := by
  refine pm_Sem_intro bl_X6_refuse ct_X6_refuse cs_X6_refuse rfl (fun _ h => absurd h List.not_mem_nil) ck_X6_refuse (by decide +kernel) (by decide) ?_
  intro X k hX args M hT
  have hb0 := hX 0 bk_X6_refuse_0 (List.mem_of_getElem? (i := 0) rfl)
  clear hX
  unfold tt_X6_refuse at hT; split at hT
  · refine ⟨by simp [lg_sl, Value.category], ?_⟩
    refine hb0 _ _ _ ?_
    simp (maxSteps := 2000000) [bk_X6_refuse_0, pm_e_c0, pm_e_c1, pm_e_cti, pm_e_ctl, pm_e_ctr, pm_e_go, pm_e_ldi, pm_e_ldr, pm_e_lk, pm_e_rm0, pm_e_rm1, pm_e_rs0, pm_e_rs1, pm_e_wp0, pm_e_wp1, pm_f2, pm_f3, pm_fld, pm_fv, pm_obj, pm_s_aload_n, pm_s_iconst, pm_s_iload_n, pm_s_ireturn, pm_s_putfield, ct_X6_refuse, pS, pR, pC, pE, pL, -Int32.not_le, -Int32.not_lt, -Int64.not_le, -Int64.not_lt, -List.getD_eq_getElem?_getD, lv_args, sx_0]
    exact hT
  · exact hT.elim
def tt_X6_why : pm_T := fun args M k => match args with
  | [.ref 0] => k (some (.int (M.1 0 8))) M
  | _ => False
abbrev ct_X6_why : List pm_C := []
set_option maxHeartbeats 4000000 in
theorem sm_X6_why  : pm_Sem SHx yX6_why cX6_why 1 (some .int) 1 tt_X6_why := by
  refine pm_Sem_intro bl_X6_why ct_X6_why cs_X6_why rfl (fun _ h => absurd h List.not_mem_nil) ck_X6_why (by decide +kernel) (by decide) ?_
  intro X k hX args M hT
  have hb0 := hX 0 bk_X6_why_0 (List.mem_of_getElem? (i := 0) rfl)
  clear hX
  unfold tt_X6_why at hT; split at hT
  · refine ⟨by simp [lg_sl, Value.category], ?_⟩
    refine hb0 _ _ _ ?_
    simp (maxSteps := 2000000) [bk_X6_why_0, pm_e_cti, pm_e_ctl, pm_e_ctr, pm_e_go, pm_e_ldr, pm_e_lk, pm_e_r, pm_e_rm0, pm_e_rm1, pm_e_rs0, pm_e_rs1, pm_e_wp0, pm_e_wp1, pm_f2, pm_f3, pm_fld, pm_fv, pm_obj, pm_s_aload_n, pm_s_getfield, pm_s_ireturn, ct_X6_why, pS, pR, pC, pE, pL, -Int32.not_le, -Int32.not_lt, -Int64.not_le, -Int64.not_lt, -List.getD_eq_getElem?_getD, lv_args, sx_0]
    exact hT
  · exact hT.elim
def tt_X6_status : pm_T := fun args M k => match args with
  | [.ref 0] => k (some (.int (M.1 0 9))) M
  | _ => False
abbrev ct_X6_status : List pm_C := []
set_option maxHeartbeats 4000000 in
theorem sm_X6_status  : pm_Sem SHx yX6_status cX6_status 1 (some .int) 1 tt_X6_status := by
  refine pm_Sem_intro bl_X6_status ct_X6_status cs_X6_status rfl (fun _ h => absurd h List.not_mem_nil) ck_X6_status (by decide +kernel) (by decide) ?_
  intro X k hX args M hT
  have hb0 := hX 0 bk_X6_status_0 (List.mem_of_getElem? (i := 0) rfl)
  clear hX
  unfold tt_X6_status at hT; split at hT
  · refine ⟨by simp [lg_sl, Value.category], ?_⟩
    refine hb0 _ _ _ ?_
    simp (maxSteps := 2000000) [bk_X6_status_0, pm_e_cti, pm_e_ctl, pm_e_ctr, pm_e_go, pm_e_ldr, pm_e_lk, pm_e_r, pm_e_rm0, pm_e_rm1, pm_e_rs0, pm_e_rs1, pm_e_wp0, pm_e_wp1, pm_f2, pm_f3, pm_fld, pm_fv, pm_obj, pm_s_aload_n, pm_s_getfield, pm_s_ireturn, ct_X6_status, pS, pR, pC, pE, pL, -Int32.not_le, -Int32.not_lt, -Int64.not_le, -Int64.not_lt, -List.getD_eq_getElem?_getD, lv_args, sx_0]
    exact hT
  · exact hT.elim
def tt_X6_allLaid : pm_T := fun args M k => match args with
  | [.ref 0] => k (some (.int (pb (decide (bcF (M.1 0 7) = M.1 1 3 * M.1 1 4))))) M
  | _ => False
abbrev ct_X6_allLaid : List pm_C := [(true, 96, 0, 1, (some .int), tt_J6_bitCount_0f7a4), (false, 68, 0, 1, (some .int), tt_X0_size)]
set_option maxHeartbeats 4000000 in
theorem sm_X6_allLaid  : pm_Sem SHx yX6_allLaid cX6_allLaid 1 (some .boolean) 2 tt_X6_allLaid := by
  refine pm_Sem_intro bl_X6_allLaid ct_X6_allLaid cs_X6_allLaid rfl (List.forall_mem_cons.mpr ⟨⟨_, _, _, _, sm_J6_bitCount_0f7a4, by decide, cm_J6_bitCount_0f7a4, by decide +kernel⟩, List.forall_mem_cons.mpr ⟨⟨_, _, _, _, sm_X0_size, by decide, cm_X0_size, by decide +kernel⟩, fun _ h => absurd h List.not_mem_nil⟩⟩) ck_X6_allLaid (by decide +kernel) (by decide) ?_
  intro X k hX args M hT
  have hb0 := hX 0 bk_X6_allLaid_0 (List.mem_of_getElem? (i := 0) rfl)
  have hb21 := hX 21 bk_X6_allLaid_21 (List.mem_of_getElem? (i := 1) rfl)
  have hb22 := hX 22 bk_X6_allLaid_22 (List.mem_of_getElem? (i := 2) rfl)
  clear hX
  unfold tt_X6_allLaid at hT; split at hT
  · refine ⟨by simp [lg_sl, Value.category], ?_⟩
    refine hb0 _ _ _ ?_
    simp (maxSteps := 2000000) [bk_X6_allLaid_0, bk_X6_allLaid_21, bk_X6_allLaid_22, pm_call, pm_e_c0, pm_e_c1, pm_e_cti, pm_e_ctl, pm_e_ctr, pm_e_go, pm_e_ii, pm_e_ldr, pm_e_lk, pm_e_r, pm_e_rm0, pm_e_rm1, pm_e_rs0, pm_e_rs1, pm_e_wp0, pm_e_wp1, pm_f2, pm_f3, pm_fld, pm_fv, pm_obj, pm_recv, pm_s_aload_n, pm_s_getfield, pm_s_goto, pm_s_iconst, pm_s_if_icmp_ne, pm_s_invokestatic, pm_s_invokevirtual, pm_s_ireturn, ct_X6_allLaid, tt_J6_bitCount_0f7a4, tt_X0_size, pS, pR, pC, pE, pL, -Int32.not_le, -Int32.not_lt, -Int64.not_le, -Int64.not_lt, -List.getD_eq_getElem?_getD, lv_args, sx_0, sx_1]
    repeat' first
      | refine ⟨fun _ => ?_, fun _ => ?_⟩
      | (refine hb21 _ _ _ ?_; simp (maxSteps := 2000000) [bk_X6_allLaid_0, bk_X6_allLaid_21, bk_X6_allLaid_22, pm_call, pm_e_c0, pm_e_c1, pm_e_cti, pm_e_ctl, pm_e_ctr, pm_e_go, pm_e_ii, pm_e_ldr, pm_e_lk, pm_e_r, pm_e_rm0, pm_e_rm1, pm_e_rs0, pm_e_rs1, pm_e_wp0, pm_e_wp1, pm_f2, pm_f3, pm_fld, pm_fv, pm_obj, pm_recv, pm_s_aload_n, pm_s_getfield, pm_s_goto, pm_s_iconst, pm_s_if_icmp_ne, pm_s_invokestatic, pm_s_invokevirtual, pm_s_ireturn, ct_X6_allLaid, tt_J6_bitCount_0f7a4, tt_X0_size, pS, pR, pC, pE, pL, -Int32.not_le, -Int32.not_lt, -Int64.not_le, -Int64.not_lt, -List.getD_eq_getElem?_getD, ni_0, ni_1])
      | (refine hb22 _ _ _ ?_; simp (maxSteps := 2000000) [bk_X6_allLaid_0, bk_X6_allLaid_21, bk_X6_allLaid_22, pm_call, pm_e_c0, pm_e_c1, pm_e_cti, pm_e_ctl, pm_e_ctr, pm_e_go, pm_e_ii, pm_e_ldr, pm_e_lk, pm_e_r, pm_e_rm0, pm_e_rm1, pm_e_rs0, pm_e_rs1, pm_e_wp0, pm_e_wp1, pm_f2, pm_f3, pm_fld, pm_fv, pm_obj, pm_recv, pm_s_aload_n, pm_s_getfield, pm_s_goto, pm_s_iconst, pm_s_if_icmp_ne, pm_s_invokestatic, pm_s_invokevirtual, pm_s_ireturn, ct_X6_allLaid, tt_J6_bitCount_0f7a4, tt_X0_size, pS, pR, pC, pE, pL, -Int32.not_le, -Int32.not_lt, -Int64.not_le, -Int64.not_lt, -List.getD_eq_getElem?_getD, ni_0, ni_1])
    all_goals simp_all [ni_0, ni_1, pb_t, pb_f, -Int32.not_le, -Int32.not_lt]
  · exact hT.elim
def tt_X6_house : pm_T := fun args M k => match args with
  | [.ref 0, .int x] => ∃ ec S P, SdX M 5 ec S ∧ DkX M P ∧ (∀ i, i < pS P → x = nI i → k (some (.int (nI (S.2.2 i)))) M) ∧ ((∀ i, i < pS P → x ≠ nI i) → k (some (.int (-nI 2))) M)
  | _ => False
abbrev ct_X6_house : List pm_C := [(true, 64, 6, 3, (some .boolean), tt_X6_isWithin)]
set_option maxHeartbeats 4000000 in
theorem sm_X6_house  : pm_Sem SHx yX6_house cX6_house 2 (some .int) 2 tt_X6_house := by
  refine pm_Sem_intro bl_X6_house ct_X6_house cs_X6_house rfl (List.forall_mem_cons.mpr ⟨⟨_, _, _, _, sm_X6_isWithin, by decide, cm_X6_isWithin, by decide +kernel⟩, fun _ h => absurd h List.not_mem_nil⟩) ck_X6_house (by decide +kernel) (by decide) ?_
  intro X k hX args M hT
  have hb0 := hX 0 bk_X6_house_0 (List.mem_of_getElem? (i := 0) rfl)
  have hb20 := hX 20 bk_X6_house_20 (List.mem_of_getElem? (i := 1) rfl)
  clear hX
  unfold tt_X6_house at hT; split at hT
  · obtain ⟨ec, S, P, hS, hD, hT1, hT2⟩ := hT
    have hP := hD.1.1
    obtain ⟨h1, h2, h3, h4, h5, h6, h7, h8, h9⟩ := hP
    have m3 := hD.1.2.1.1
    refine ⟨by simp [lg_sl, Value.category], ?_⟩
    refine hb0 _ _ _ ?_
    simp (maxSteps := 2000000) [bk_X6_house_0, bk_X6_house_20, pm_arr, pm_call, pm_e_c0, pm_e_c1, pm_e_cti, pm_e_ctl, pm_e_ctr, pm_e_go, pm_e_i, pm_e_ii, pm_e_ldi, pm_e_ldr, pm_e_lk, pm_e_r, pm_e_ri, pm_e_rm0, pm_e_rm1, pm_e_rs0, pm_e_rs1, pm_e_wp0, pm_e_wp1, pm_f2, pm_f3, pm_fld, pm_fv, pm_obj, pm_recv, pm_s_aload_n, pm_s_bipush, pm_s_getfield, pm_s_iaload, pm_s_iconst, pm_s_ifCond_ne, pm_s_iload_n, pm_s_invokestatic, pm_s_ireturn, pm_s_isub, ct_X6_house, tt_X6_isWithin, pS, pR, pC, pE, pL, -Int32.not_le, -Int32.not_lt, -Int64.not_le, -Int64.not_lt, -List.getD_eq_getElem?_getD, lv_args, sx_0, sx_1, pb_eq0, m3]
    dsimp only [pS] at h1 h2 hT1 hT2
    rw [ni_sub h1]
    refine ⟨fun hw => ?_, fun hw => ?_⟩
    · obtain ⟨i, rfl, i1, i2⟩ := wi_ex (by decide) (by omega) hw
      refine hb20 _ _ _ ?_
      simp (maxSteps := 2000000) [bk_X6_house_0, bk_X6_house_20, pm_arr, pm_call, pm_e_c0, pm_e_c1, pm_e_cti, pm_e_ctl, pm_e_ctr, pm_e_go, pm_e_i, pm_e_ii, pm_e_ldi, pm_e_ldr, pm_e_lk, pm_e_r, pm_e_ri, pm_e_rm0, pm_e_rm1, pm_e_rs0, pm_e_rs1, pm_e_wp0, pm_e_wp1, pm_f2, pm_f3, pm_fld, pm_fv, pm_obj, pm_recv, pm_s_aload_n, pm_s_bipush, pm_s_getfield, pm_s_iaload, pm_s_iconst, pm_s_ifCond_ne, pm_s_iload_n, pm_s_invokestatic, pm_s_ireturn, pm_s_isub, ct_X6_house, tt_X6_isWithin, pS, pR, pC, pE, pL, -Int32.not_le, -Int32.not_lt, -Int64.not_le, -Int64.not_lt, -List.getD_eq_getElem?_getD, sx_0, sx_5, sx_9]
      simp (disch := omega) only [ni_in, ni_cl, ni_add, ni_mul, ni_sub, ni_lt, ni_le, ni_eq, ni_eq0, ni_lt0, ni_0le, ni_0lt, ni_le0, ni_a1, ni_a3, ni_a7, ni_a15, hS.h (show i < 4 by omega)]
      exact ⟨by omega, hT1 i (by omega) rfl⟩
    · exact hT2 (fun i hi => wi_no (by decide) (by omega) hw (by omega) (by omega))
  · exact hT.elim
