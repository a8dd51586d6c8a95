def tt_X7_plan : pm_T := fun args M k => match args with
  | [.ref 0, .int x, .int y] => ∃ A, okA A ∧ MY M A ∧ k (some (.int (fPlan A x y))) M
  | _ => False
abbrev ct_X7_plan : List pm_C := [(true, 111, 7, 3, (some .boolean), tt_X7_in)]
set_option maxHeartbeats 4000000 in
theorem sm_X7_plan  : pm_Sem SHy yX7_plan cX7_plan 3 (some .int) 2 tt_X7_plan := by
  refine pm_Sem_intro bl_X7_plan ct_X7_plan cs_X7_plan rfl (List.forall_mem_cons.mpr ⟨⟨_, _, _, _, sm_X7_in, by decide, cm_X7_in, by decide +kernel⟩, fun _ h => absurd h List.not_mem_nil⟩) ck_X7_plan (by decide +kernel) (by decide) ?_
  intro X k hX args M hT
  have hb0 := hX 0 bk_X7_plan_0 (List.mem_of_getElem? (i := 0) rfl)
  have hb12 := hX 12 bk_X7_plan_12 (List.mem_of_getElem? (i := 1) rfl)
  have hb28 := hX 28 bk_X7_plan_28 (List.mem_of_getElem? (i := 2) rfl)
  have hb41 := hX 41 bk_X7_plan_41 (List.mem_of_getElem? (i := 3) rfl)
  have hb47 := hX 47 bk_X7_plan_47 (List.mem_of_getElem? (i := 4) rfl)
  clear hX
  unfold tt_X7_plan at hT; split at hT
  · next x y =>
    obtain ⟨A, hA, hM, hT⟩ := hT
    have hlen := hA.2.2.2.2.2.2.1.1
    have hPl := hM.2.2.2.2.2.2.1
    have p1 := hPl.1
    unfold fPlan at hT
    refine ⟨by simp [lg_sl, Value.category], ?_⟩
    refine hb0 _ _ _ ?_
    simp (maxSteps := 2000000) [bk_X7_plan_0, bk_X7_plan_12, bk_X7_plan_28, bk_X7_plan_41, bk_X7_plan_47, pm_arr, pm_call, pm_e_c0, pm_e_c1, pm_e_cti, pm_e_ctl, pm_e_ctr, pm_e_go, pm_e_i, pm_e_ii, pm_e_ldi, pm_e_ldr, pm_e_lk, pm_e_r, pm_e_ri, pm_e_rm0, pm_e_rm1, pm_e_rs0, pm_e_rs1, pm_e_wp0, pm_e_wp1, pm_f2, pm_f3, pm_fld, pm_fv, pm_obj, pm_recv, pm_s_aload_n, pm_s_bipush, pm_s_getfield, pm_s_goto, pm_s_iaload, pm_s_iconst, pm_s_ifCond_ne, pm_s_iload_n, pm_s_invokestatic, pm_s_ireturn, pm_s_isub, ct_X7_plan, tt_X7_in, pS, pR, pC, pE, pL, -Int32.not_le, -Int32.not_lt, -Int64.not_le, -Int64.not_lt, -List.getD_eq_getElem?_getD, lv_args, pb_eq0]
    refine ⟨fun h => ?_, fun h => ?_⟩
    · rw [if_pos h] at hT
      refine hb12 _ _ _ ?_
      simp (maxSteps := 2000000) [bk_X7_plan_0, bk_X7_plan_12, bk_X7_plan_28, bk_X7_plan_41, bk_X7_plan_47, pm_arr, pm_call, pm_e_c0, pm_e_c1, pm_e_cti, pm_e_ctl, pm_e_ctr, pm_e_go, pm_e_i, pm_e_ii, pm_e_ldi, pm_e_ldr, pm_e_lk, pm_e_r, pm_e_ri, pm_e_rm0, pm_e_rm1, pm_e_rs0, pm_e_rs1, pm_e_wp0, pm_e_wp1, pm_f2, pm_f3, pm_fld, pm_fv, pm_obj, pm_recv, pm_s_aload_n, pm_s_bipush, pm_s_getfield, pm_s_goto, pm_s_iaload, pm_s_iconst, pm_s_ifCond_ne, pm_s_iload_n, pm_s_invokestatic, pm_s_ireturn, pm_s_isub, ct_X7_plan, tt_X7_in, pS, pR, pC, pE, pL, -Int32.not_le, -Int32.not_lt, -Int64.not_le, -Int64.not_lt, -List.getD_eq_getElem?_getD, sy_0, p1, pb_eq0]
      refine ⟨fun h2 => ?_, fun h2 => ?_⟩
      · rw [if_pos h2] at hT
        obtain ⟨x1, x2⟩ := wi_lt (by omega) h2
        have pm := hPl.2 (tn x) x2
        have h47 : ∀ v, k (some (.int v)) M → X 47 [] [.int v] M := by
          intro v hv
          refine hb47 _ _ _ ?_
          simp (maxSteps := 2000000) [bk_X7_plan_0, bk_X7_plan_12, bk_X7_plan_28, bk_X7_plan_41, bk_X7_plan_47, pm_arr, pm_call, pm_e_c0, pm_e_c1, pm_e_cti, pm_e_ctl, pm_e_ctr, pm_e_go, pm_e_i, pm_e_ii, pm_e_ldi, pm_e_ldr, pm_e_lk, pm_e_r, pm_e_ri, pm_e_rm0, pm_e_rm1, pm_e_rs0, pm_e_rs1, pm_e_wp0, pm_e_wp1, pm_f2, pm_f3, pm_fld, pm_fv, pm_obj, pm_recv, pm_s_aload_n, pm_s_bipush, pm_s_getfield, pm_s_goto, pm_s_iaload, pm_s_iconst, pm_s_ifCond_ne, pm_s_iload_n, pm_s_invokestatic, pm_s_ireturn, pm_s_isub, ct_X7_plan, tt_X7_in, pS, pR, pC, pE, pL, -Int32.not_le, -Int32.not_lt, -Int64.not_le, -Int64.not_lt, -List.getD_eq_getElem?_getD]
          exact hv
        refine hb28 _ _ _ ?_
        simp (maxSteps := 2000000) [bk_X7_plan_0, bk_X7_plan_12, bk_X7_plan_28, bk_X7_plan_41, bk_X7_plan_47, pm_arr, pm_call, pm_e_c0, pm_e_c1, pm_e_cti, pm_e_ctl, pm_e_ctr, pm_e_go, pm_e_i, pm_e_ii, pm_e_ldi, pm_e_ldr, pm_e_lk, pm_e_r, pm_e_ri, pm_e_rm0, pm_e_rm1, pm_e_rs0, pm_e_rs1, pm_e_wp0, pm_e_wp1, pm_f2, pm_f3, pm_fld, pm_fv, pm_obj, pm_recv, pm_s_aload_n, pm_s_bipush, pm_s_getfield, pm_s_goto, pm_s_iaload, pm_s_iconst, pm_s_ifCond_ne, pm_s_iload_n, pm_s_invokestatic, pm_s_ireturn, pm_s_isub, ct_X7_plan, tt_X7_in, pS, pR, pC, pE, pL, -Int32.not_le, -Int32.not_lt, -Int64.not_le, -Int64.not_lt, -List.getD_eq_getElem?_getD, sy_0, sy_20]
        refine ⟨fun h3 => ?_, fun h3 => ?_⟩
        · have h3' : ¬ y = nI 0 := h3
          rw [if_neg h3'] at hT
          refine hb41 _ _ _ ?_
          simp (maxSteps := 2000000) [bk_X7_plan_0, bk_X7_plan_12, bk_X7_plan_28, bk_X7_plan_41, bk_X7_plan_47, pm_arr, pm_call, pm_e_c0, pm_e_c1, pm_e_cti, pm_e_ctl, pm_e_ctr, pm_e_go, pm_e_i, pm_e_ii, pm_e_ldi, pm_e_ldr, pm_e_lk, pm_e_r, pm_e_ri, pm_e_rm0, pm_e_rm1, pm_e_rs0, pm_e_rs1, pm_e_wp0, pm_e_wp1, pm_f2, pm_f3, pm_fld, pm_fv, pm_obj, pm_recv, pm_s_aload_n, pm_s_bipush, pm_s_getfield, pm_s_goto, pm_s_iaload, pm_s_iconst, pm_s_ifCond_ne, pm_s_iload_n, pm_s_invokestatic, pm_s_ireturn, pm_s_isub, ct_X7_plan, tt_X7_in, pS, pR, pC, pE, pL, -Int32.not_le, -Int32.not_lt, -Int64.not_le, -Int64.not_lt, -List.getD_eq_getElem?_getD, sy_0, sy_21]
          rw [x1, ni_in (by omega), ni_cl (by omega), pm.2]
          exact ⟨by omega, h47 _ hT⟩
        · have h3' : y = nI 0 := h3
          rw [if_pos h3'] at hT
          rw [x1, ni_in (by omega), ni_cl (by omega), pm.1]
          exact ⟨by omega, h47 _ hT⟩
      · rw [if_neg (by simp [h2])] at hT
        exact hT
    · rw [if_neg (by simp [h])] at hT
      exact hT
  · exact hT.elim
