def tt_X6_count : pm_T := fun args M k => match args with
  | [.ref 0, .int x] => ∃ A, okA A ∧ MX M A ∧ k (some (.int (fCount A x))) M
  | _ => False
theorem fCount_n (A : Ab) {j : Nat} (h : j < 14) : fCount A (nI j) = nI (cntN A j) := by
  unfold fCount
  rw [wi_n (by omega) (by decide) (by decide), if_pos (by simp; omega), tn_n (by omega)]
theorem toInt_nI {x : Int32} {j : Nat} (hj : j < 2 ^ 31) (h : x.toInt = (j : Int)) : x = nI j := Int32.toInt_inj.mp (by rw [h, nI_toInt hj])
theorem fCount_bad (A : Ab) {x : Int32} (h : x.toInt < 0 ∨ 13 < x.toInt) : fCount A x = -nI 2 := by
  unfold fCount
  rw [if_neg]
  intro q
  obtain ⟨j, rfl, -, j2⟩ := wi_ex (by decide) (by decide) q
  rw [nI_toInt (by omega)] at h; omega
abbrev ct_X6_count : List pm_C := [(false, 68, 0, 1, (some .int), tt_X0_size), (true, 96, 0, 1, (some .int), tt_J6_bitCount_0f7a4), (false, 151, 4, 1, (some .int), tt_X4_cardsInHouses), (false, 154, 4, 1, (some .int), tt_X4_freeCells), (false, 157, 4, 1, (some .int), tt_X4_emptyColumns), (false, 160, 4, 1, (some .int), tt_X4_buriedCards), (false, 119, 6, 1, (some .boolean), tt_X6_allLaid), (false, 163, 4, 1, (some .int), tt_X4_possibleMoves), (false, 166, 1, 1, (some .int), tt_X1_canGoBack), (false, 169, 4, 1, (some .boolean), tt_X4_isDone)]
set_option maxHeartbeats 4000000 in
theorem sm_X6_count  : pm_Sem SHx yX6_count cX6_count 2 (some .int) 5 tt_X6_count := by
  refine pm_Sem_intro bl_X6_count ct_X6_count cs_X6_count rfl (List.forall_mem_cons.mpr ⟨⟨_, _, _, _, sm_X0_size, by decide, cm_X0_size, by decide +kernel⟩, List.forall_mem_cons.mpr ⟨⟨_, _, _, _, sm_J6_bitCount_0f7a4, by decide, cm_J6_bitCount_0f7a4, by decide +kernel⟩, List.forall_mem_cons.mpr ⟨⟨_, _, _, _, sm_X4_cardsInHouses, by decide, cm_X4_cardsInHouses, by decide +kernel⟩, List.forall_mem_cons.mpr ⟨⟨_, _, _, _, sm_X4_freeCells, by decide, cm_X4_freeCells, by decide +kernel⟩, List.forall_mem_cons.mpr ⟨⟨_, _, _, _, sm_X4_emptyColumns, by decide, cm_X4_emptyColumns, by decide +kernel⟩, List.forall_mem_cons.mpr ⟨⟨_, _, _, _, sm_X4_buriedCards, by decide, cm_X4_buriedCards, by decide +kernel⟩, List.forall_mem_cons.mpr ⟨⟨_, _, _, _, sm_X6_allLaid, by decide, cm_X6_allLaid, by decide +kernel⟩, List.forall_mem_cons.mpr ⟨⟨_, _, _, _, sm_X4_possibleMoves, by decide, cm_X4_possibleMoves, by decide +kernel⟩, List.forall_mem_cons.mpr ⟨⟨_, _, _, _, sm_X1_canGoBack, by decide, cm_X1_canGoBack, by decide +kernel⟩, List.forall_mem_cons.mpr ⟨⟨_, _, _, _, sm_X4_isDone, by decide, cm_X4_isDone, by decide +kernel⟩, fun _ h => absurd h List.not_mem_nil⟩⟩⟩⟩⟩⟩⟩⟩⟩⟩) ck_X6_count (by decide +kernel) (by decide) ?_
  intro X k hX args M hT
  have hb0 := hX 0 bk_X6_count_0 (List.mem_of_getElem? (i := 0) rfl)
  have hb72 := hX 72 bk_X6_count_72 (List.mem_of_getElem? (i := 1) rfl)
  have hb80 := hX 80 bk_X6_count_80 (List.mem_of_getElem? (i := 2) rfl)
  have hb88 := hX 88 bk_X6_count_88 (List.mem_of_getElem? (i := 3) rfl)
  have hb96 := hX 96 bk_X6_count_96 (List.mem_of_getElem? (i := 4) rfl)
  have hb104 := hX 104 bk_X6_count_104 (List.mem_of_getElem? (i := 5) rfl)
  have hb112 := hX 112 bk_X6_count_112 (List.mem_of_getElem? (i := 6) rfl)
  have hb120 := hX 120 bk_X6_count_120 (List.mem_of_getElem? (i := 7) rfl)
  have hb137 := hX 137 bk_X6_count_137 (List.mem_of_getElem? (i := 8) rfl)
  have hb138 := hX 138 bk_X6_count_138 (List.mem_of_getElem? (i := 9) rfl)
  have hb139 := hX 139 bk_X6_count_139 (List.mem_of_getElem? (i := 10) rfl)
  have hb147 := hX 147 bk_X6_count_147 (List.mem_of_getElem? (i := 11) rfl)
  have hb161 := hX 161 bk_X6_count_161 (List.mem_of_getElem? (i := 12) rfl)
  have hb162 := hX 162 bk_X6_count_162 (List.mem_of_getElem? (i := 13) rfl)
  have hb163 := hX 163 bk_X6_count_163 (List.mem_of_getElem? (i := 14) rfl)
  have hb171 := hX 171 bk_X6_count_171 (List.mem_of_getElem? (i := 15) rfl)
  have hb179 := hX 179 bk_X6_count_179 (List.mem_of_getElem? (i := 16) rfl)
  have hb187 := hX 187 bk_X6_count_187 (List.mem_of_getElem? (i := 17) rfl)
  have hb195 := hX 195 bk_X6_count_195 (List.mem_of_getElem? (i := 18) rfl)
  have hb203 := hX 203 bk_X6_count_203 (List.mem_of_getElem? (i := 19) rfl)
  clear hX
  unfold tt_X6_count at hT; split at hT
  · next x =>
    obtain ⟨A, hA, hM, hT⟩ := hT
    obtain ⟨hD, hS, hH, hL, hW, hQ, hPl, hTr⟩ := id hM
    have hP := hA.1
    have hal := al_eq hA hM
    have hI := hA.wf.inDk
    obtain ⟨m3, m4, m5, m6, m7⟩ := id hD.1.2.1
    have hb7 := hL.bc
    refine ⟨by simp [lg_sl, Value.category], ?_⟩
    refine hb0 _ _ _ ?_
    simp (maxSteps := 2000000) [bk_X6_count_0, bk_X6_count_72, bk_X6_count_80, bk_X6_count_88, bk_X6_count_96, bk_X6_count_104, bk_X6_count_112, bk_X6_count_120, bk_X6_count_137, bk_X6_count_138, bk_X6_count_139, bk_X6_count_147, bk_X6_count_161, bk_X6_count_162, bk_X6_count_163, bk_X6_count_171, bk_X6_count_179, bk_X6_count_187, bk_X6_count_195, bk_X6_count_203, pm_call, pm_e_c0, pm_e_c1, pm_e_cti, pm_e_ctl, pm_e_ctr, pm_e_go, pm_e_i, pm_e_ldi, pm_e_ldr, pm_e_lk, pm_e_r, pm_e_rm0, pm_e_rm1, pm_e_rs0, pm_e_rs1, pm_e_sw0, pm_e_sw1, pm_e_wp0, pm_e_wp1, pm_f2, pm_f3, pm_fld, pm_fv, pm_obj, pm_recv, pm_s_aload_n, pm_s_bipush, pm_s_getfield, pm_s_goto, pm_s_iconst, pm_s_ifCond_eq, pm_s_iload_n, pm_s_invokestatic, pm_s_invokevirtual, pm_s_ireturn, pm_s_tableswitch, ct_X6_count, tt_X0_size, tt_J6_bitCount_0f7a4, tt_X6_allLaid, tt_X1_canGoBack, pS, pR, pC, pE, pL, -Int32.not_le, -Int32.not_lt, -Int64.not_le, -Int64.not_lt, -List.getD_eq_getElem?_getD, lv_args]
    have h138 : ∀ v, k (some (.int v)) M → X 138 [] [.int v] M := by
      intro v hv
      refine hb138 _ _ _ ?_
      simp (maxSteps := 2000000) [bk_X6_count_0, bk_X6_count_72, bk_X6_count_80, bk_X6_count_88, bk_X6_count_96, bk_X6_count_104, bk_X6_count_112, bk_X6_count_120, bk_X6_count_137, bk_X6_count_138, bk_X6_count_139, bk_X6_count_147, bk_X6_count_161, bk_X6_count_162, bk_X6_count_163, bk_X6_count_171, bk_X6_count_179, bk_X6_count_187, bk_X6_count_195, bk_X6_count_203, pm_call, pm_e_c0, pm_e_c1, pm_e_cti, pm_e_ctl, pm_e_ctr, pm_e_go, pm_e_i, pm_e_ldi, pm_e_ldr, pm_e_lk, pm_e_r, pm_e_rm0, pm_e_rm1, pm_e_rs0, pm_e_rs1, pm_e_sw0, pm_e_sw1, pm_e_wp0, pm_e_wp1, pm_f2, pm_f3, pm_fld, pm_fv, pm_obj, pm_recv, pm_s_aload_n, pm_s_bipush, pm_s_getfield, pm_s_goto, pm_s_iconst, pm_s_ifCond_eq, pm_s_iload_n, pm_s_invokestatic, pm_s_invokevirtual, pm_s_ireturn, pm_s_tableswitch, ct_X6_count, tt_X0_size, tt_J6_bitCount_0f7a4, tt_X6_allLaid, tt_X1_canGoBack, pS, pR, pC, pE, pL, -Int32.not_le, -Int32.not_lt, -Int64.not_le, -Int64.not_lt, -List.getD_eq_getElem?_getD]
      exact hv
    have h162 : ∀ v, k (some (.int v)) M → X 162 [] [.int v] M := by
      intro v hv
      refine hb162 _ _ _ ?_
      simp (maxSteps := 2000000) [bk_X6_count_0, bk_X6_count_72, bk_X6_count_80, bk_X6_count_88, bk_X6_count_96, bk_X6_count_104, bk_X6_count_112, bk_X6_count_120, bk_X6_count_137, bk_X6_count_138, bk_X6_count_139, bk_X6_count_147, bk_X6_count_161, bk_X6_count_162, bk_X6_count_163, bk_X6_count_171, bk_X6_count_179, bk_X6_count_187, bk_X6_count_195, bk_X6_count_203, pm_call, pm_e_c0, pm_e_c1, pm_e_cti, pm_e_ctl, pm_e_ctr, pm_e_go, pm_e_i, pm_e_ldi, pm_e_ldr, pm_e_lk, pm_e_r, pm_e_rm0, pm_e_rm1, pm_e_rs0, pm_e_rs1, pm_e_sw0, pm_e_sw1, pm_e_wp0, pm_e_wp1, pm_f2, pm_f3, pm_fld, pm_fv, pm_obj, pm_recv, pm_s_aload_n, pm_s_bipush, pm_s_getfield, pm_s_goto, pm_s_iconst, pm_s_ifCond_eq, pm_s_iload_n, pm_s_invokestatic, pm_s_invokevirtual, pm_s_ireturn, pm_s_tableswitch, ct_X6_count, tt_X0_size, tt_J6_bitCount_0f7a4, tt_X6_allLaid, tt_X1_canGoBack, pS, pR, pC, pE, pL, -Int32.not_le, -Int32.not_lt, -Int64.not_le, -Int64.not_lt, -List.getD_eq_getElem?_getD]
      exact hv
    refine ⟨fun h => ?_, fun h => ?_, fun h => ?_, fun h => ?_, fun h => ?_, fun h => ?_, fun h => ?_, fun h => ?_, fun h => ?_, fun h => ?_, fun h => ?_, fun h => ?_, fun h => ?_, fun h => ?_, fun h => ?_⟩
    · refine hb203 _ _ _ ?_
      simp (maxSteps := 2000000) [bk_X6_count_0, bk_X6_count_72, bk_X6_count_80, bk_X6_count_88, bk_X6_count_96, bk_X6_count_104, bk_X6_count_112, bk_X6_count_120, bk_X6_count_137, bk_X6_count_138, bk_X6_count_139, bk_X6_count_147, bk_X6_count_161, bk_X6_count_162, bk_X6_count_163, bk_X6_count_171, bk_X6_count_179, bk_X6_count_187, bk_X6_count_195, bk_X6_count_203, pm_call, pm_e_c0, pm_e_c1, pm_e_cti, pm_e_ctl, pm_e_ctr, pm_e_go, pm_e_i, pm_e_ldi, pm_e_ldr, pm_e_lk, pm_e_r, pm_e_rm0, pm_e_rm1, pm_e_rs0, pm_e_rs1, pm_e_sw0, pm_e_sw1, pm_e_wp0, pm_e_wp1, pm_f2, pm_f3, pm_fld, pm_fv, pm_obj, pm_recv, pm_s_aload_n, pm_s_bipush, pm_s_getfield, pm_s_goto, pm_s_iconst, pm_s_ifCond_eq, pm_s_iload_n, pm_s_invokestatic, pm_s_invokevirtual, pm_s_ireturn, pm_s_tableswitch, ct_X6_count, tt_X0_size, tt_J6_bitCount_0f7a4, tt_X6_allLaid, tt_X1_canGoBack, pS, pR, pC, pE, pL, -Int32.not_le, -Int32.not_lt, -Int64.not_le, -Int64.not_lt, -List.getD_eq_getElem?_getD]
      rw [fCount_bad A h] at hT; exact hT
    · have e := toInt_nI (j := 0) (by decide) h
      subst e; rw [fCount_n A (by decide)] at hT
      refine hb72 _ _ _ ?_
      simp (maxSteps := 2000000) [bk_X6_count_0, bk_X6_count_72, bk_X6_count_80, bk_X6_count_88, bk_X6_count_96, bk_X6_count_104, bk_X6_count_112, bk_X6_count_120, bk_X6_count_137, bk_X6_count_138, bk_X6_count_139, bk_X6_count_147, bk_X6_count_161, bk_X6_count_162, bk_X6_count_163, bk_X6_count_171, bk_X6_count_179, bk_X6_count_187, bk_X6_count_195, bk_X6_count_203, pm_call, pm_e_c0, pm_e_c1, pm_e_cti, pm_e_ctl, pm_e_ctr, pm_e_go, pm_e_i, pm_e_ldi, pm_e_ldr, pm_e_lk, pm_e_r, pm_e_rm0, pm_e_rm1, pm_e_rs0, pm_e_rs1, pm_e_sw0, pm_e_sw1, pm_e_wp0, pm_e_wp1, pm_f2, pm_f3, pm_fld, pm_fv, pm_obj, pm_recv, pm_s_aload_n, pm_s_bipush, pm_s_getfield, pm_s_goto, pm_s_iconst, pm_s_ifCond_eq, pm_s_iload_n, pm_s_invokestatic, pm_s_invokevirtual, pm_s_ireturn, pm_s_tableswitch, ct_X6_count, tt_X0_size, tt_J6_bitCount_0f7a4, tt_X6_allLaid, tt_X1_canGoBack, pS, pR, pC, pE, pL, -Int32.not_le, -Int32.not_lt, -Int64.not_le, -Int64.not_lt, -List.getD_eq_getElem?_getD, sx_0, sx_1, m3, m4]
      rw [ni_mul]; exact hT
    · have e := toInt_nI (j := 1) (by decide) h
      subst e; rw [fCount_n A (by decide)] at hT
      refine hb80 _ _ _ ?_
      simp (maxSteps := 2000000) [bk_X6_count_0, bk_X6_count_72, bk_X6_count_80, bk_X6_count_88, bk_X6_count_96, bk_X6_count_104, bk_X6_count_112, bk_X6_count_120, bk_X6_count_137, bk_X6_count_138, bk_X6_count_139, bk_X6_count_147, bk_X6_count_161, bk_X6_count_162, bk_X6_count_163, bk_X6_count_171, bk_X6_count_179, bk_X6_count_187, bk_X6_count_195, bk_X6_count_203, pm_call, pm_e_c0, pm_e_c1, pm_e_cti, pm_e_ctl, pm_e_ctr, pm_e_go, pm_e_i, pm_e_ldi, pm_e_ldr, pm_e_lk, pm_e_r, pm_e_rm0, pm_e_rm1, pm_e_rs0, pm_e_rs1, pm_e_sw0, pm_e_sw1, pm_e_wp0, pm_e_wp1, pm_f2, pm_f3, pm_fld, pm_fv, pm_obj, pm_recv, pm_s_aload_n, pm_s_bipush, pm_s_getfield, pm_s_goto, pm_s_iconst, pm_s_ifCond_eq, pm_s_iload_n, pm_s_invokestatic, pm_s_invokevirtual, pm_s_ireturn, pm_s_tableswitch, ct_X6_count, tt_X0_size, tt_J6_bitCount_0f7a4, tt_X6_allLaid, tt_X1_canGoBack, pS, pR, pC, pE, pL, -Int32.not_le, -Int32.not_lt, -Int64.not_le, -Int64.not_lt, -List.getD_eq_getElem?_getD, sx_0]
      rw [hb7]; exact hT
    · have e := toInt_nI (j := 2) (by decide) h
      subst e; rw [fCount_n A (by decide)] at hT
      refine hb88 _ _ _ ?_
      simp (maxSteps := 2000000) [bk_X6_count_0, bk_X6_count_72, bk_X6_count_80, bk_X6_count_88, bk_X6_count_96, bk_X6_count_104, bk_X6_count_112, bk_X6_count_120, bk_X6_count_137, bk_X6_count_138, bk_X6_count_139, bk_X6_count_147, bk_X6_count_161, bk_X6_count_162, bk_X6_count_163, bk_X6_count_171, bk_X6_count_179, bk_X6_count_187, bk_X6_count_195, bk_X6_count_203, pm_call, pm_e_c0, pm_e_c1, pm_e_cti, pm_e_ctl, pm_e_ctr, pm_e_go, pm_e_i, pm_e_ldi, pm_e_ldr, pm_e_lk, pm_e_r, pm_e_rm0, pm_e_rm1, pm_e_rs0, pm_e_rs1, pm_e_sw0, pm_e_sw1, pm_e_wp0, pm_e_wp1, pm_f2, pm_f3, pm_fld, pm_fv, pm_obj, pm_recv, pm_s_aload_n, pm_s_bipush, pm_s_getfield, pm_s_goto, pm_s_iconst, pm_s_ifCond_eq, pm_s_iload_n, pm_s_invokestatic, pm_s_invokevirtual, pm_s_ireturn, pm_s_tableswitch, ct_X6_count, tt_X0_size, tt_J6_bitCount_0f7a4, tt_X6_allLaid, tt_X1_canGoBack, pS, pR, pC, pE, pL, -Int32.not_le, -Int32.not_lt, -Int64.not_le, -Int64.not_lt, -List.getD_eq_getElem?_getD, sx_0, sx_5]
      refine ⟨_, _, Or.inl rfl, hS, ?_⟩
      simp (maxSteps := 2000000) [bk_X6_count_0, bk_X6_count_72, bk_X6_count_80, bk_X6_count_88, bk_X6_count_96, bk_X6_count_104, bk_X6_count_112, bk_X6_count_120, bk_X6_count_137, bk_X6_count_138, bk_X6_count_139, bk_X6_count_147, bk_X6_count_161, bk_X6_count_162, bk_X6_count_163, bk_X6_count_171, bk_X6_count_179, bk_X6_count_187, bk_X6_count_195, bk_X6_count_203, pm_call, pm_e_c0, pm_e_c1, pm_e_cti, pm_e_ctl, pm_e_ctr, pm_e_go, pm_e_i, pm_e_ldi, pm_e_ldr, pm_e_lk, pm_e_r, pm_e_rm0, pm_e_rm1, pm_e_rs0, pm_e_rs1, pm_e_sw0, pm_e_sw1, pm_e_wp0, pm_e_wp1, pm_f2, pm_f3, pm_fld, pm_fv, pm_obj, pm_recv, pm_s_aload_n, pm_s_bipush, pm_s_getfield, pm_s_goto, pm_s_iconst, pm_s_ifCond_eq, pm_s_iload_n, pm_s_invokestatic, pm_s_invokevirtual, pm_s_ireturn, pm_s_tableswitch, ct_X6_count, tt_X0_size, tt_J6_bitCount_0f7a4, tt_X6_allLaid, tt_X1_canGoBack, pS, pR, pC, pE, pL, -Int32.not_le, -Int32.not_lt, -Int64.not_le, -Int64.not_lt, -List.getD_eq_getElem?_getD]
      exact hT
    · have e := toInt_nI (j := 3) (by decide) h
      subst e; rw [fCount_n A (by decide)] at hT
      refine hb96 _ _ _ ?_
      simp (maxSteps := 2000000) [bk_X6_count_0, bk_X6_count_72, bk_X6_count_80, bk_X6_count_88, bk_X6_count_96, bk_X6_count_104, bk_X6_count_112, bk_X6_count_120, bk_X6_count_137, bk_X6_count_138, bk_X6_count_139, bk_X6_count_147, bk_X6_count_161, bk_X6_count_162, bk_X6_count_163, bk_X6_count_171, bk_X6_count_179, bk_X6_count_187, bk_X6_count_195, bk_X6_count_203, pm_call, pm_e_c0, pm_e_c1, pm_e_cti, pm_e_ctl, pm_e_ctr, pm_e_go, pm_e_i, pm_e_ldi, pm_e_ldr, pm_e_lk, pm_e_r, pm_e_rm0, pm_e_rm1, pm_e_rs0, pm_e_rs1, pm_e_sw0, pm_e_sw1, pm_e_wp0, pm_e_wp1, pm_f2, pm_f3, pm_fld, pm_fv, pm_obj, pm_recv, pm_s_aload_n, pm_s_bipush, pm_s_getfield, pm_s_goto, pm_s_iconst, pm_s_ifCond_eq, pm_s_iload_n, pm_s_invokestatic, pm_s_invokevirtual, pm_s_ireturn, pm_s_tableswitch, ct_X6_count, tt_X0_size, tt_J6_bitCount_0f7a4, tt_X6_allLaid, tt_X1_canGoBack, pS, pR, pC, pE, pL, -Int32.not_le, -Int32.not_lt, -Int64.not_le, -Int64.not_lt, -List.getD_eq_getElem?_getD, sx_0, sx_5]
      refine ⟨_, _, Or.inl rfl, hS, ?_⟩
      simp (maxSteps := 2000000) [bk_X6_count_0, bk_X6_count_72, bk_X6_count_80, bk_X6_count_88, bk_X6_count_96, bk_X6_count_104, bk_X6_count_112, bk_X6_count_120, bk_X6_count_137, bk_X6_count_138, bk_X6_count_139, bk_X6_count_147, bk_X6_count_161, bk_X6_count_162, bk_X6_count_163, bk_X6_count_171, bk_X6_count_179, bk_X6_count_187, bk_X6_count_195, bk_X6_count_203, pm_call, pm_e_c0, pm_e_c1, pm_e_cti, pm_e_ctl, pm_e_ctr, pm_e_go, pm_e_i, pm_e_ldi, pm_e_ldr, pm_e_lk, pm_e_r, pm_e_rm0, pm_e_rm1, pm_e_rs0, pm_e_rs1, pm_e_sw0, pm_e_sw1, pm_e_wp0, pm_e_wp1, pm_f2, pm_f3, pm_fld, pm_fv, pm_obj, pm_recv, pm_s_aload_n, pm_s_bipush, pm_s_getfield, pm_s_goto, pm_s_iconst, pm_s_ifCond_eq, pm_s_iload_n, pm_s_invokestatic, pm_s_invokevirtual, pm_s_ireturn, pm_s_tableswitch, ct_X6_count, tt_X0_size, tt_J6_bitCount_0f7a4, tt_X6_allLaid, tt_X1_canGoBack, pS, pR, pC, pE, pL, -Int32.not_le, -Int32.not_lt, -Int64.not_le, -Int64.not_lt, -List.getD_eq_getElem?_getD]
      exact hT
    · have e := toInt_nI (j := 4) (by decide) h
      subst e; rw [fCount_n A (by decide)] at hT
      refine hb104 _ _ _ ?_
      simp (maxSteps := 2000000) [bk_X6_count_0, bk_X6_count_72, bk_X6_count_80, bk_X6_count_88, bk_X6_count_96, bk_X6_count_104, bk_X6_count_112, bk_X6_count_120, bk_X6_count_137, bk_X6_count_138, bk_X6_count_139, bk_X6_count_147, bk_X6_count_161, bk_X6_count_162, bk_X6_count_163, bk_X6_count_171, bk_X6_count_179, bk_X6_count_187, bk_X6_count_195, bk_X6_count_203, pm_call, pm_e_c0, pm_e_c1, pm_e_cti, pm_e_ctl, pm_e_ctr, pm_e_go, pm_e_i, pm_e_ldi, pm_e_ldr, pm_e_lk, pm_e_r, pm_e_rm0, pm_e_rm1, pm_e_rs0, pm_e_rs1, pm_e_sw0, pm_e_sw1, pm_e_wp0, pm_e_wp1, pm_f2, pm_f3, pm_fld, pm_fv, pm_obj, pm_recv, pm_s_aload_n, pm_s_bipush, pm_s_getfield, pm_s_goto, pm_s_iconst, pm_s_ifCond_eq, pm_s_iload_n, pm_s_invokestatic, pm_s_invokevirtual, pm_s_ireturn, pm_s_tableswitch, ct_X6_count, tt_X0_size, tt_J6_bitCount_0f7a4, tt_X6_allLaid, tt_X1_canGoBack, pS, pR, pC, pE, pL, -Int32.not_le, -Int32.not_lt, -Int64.not_le, -Int64.not_lt, -List.getD_eq_getElem?_getD, sx_0, sx_5]
      refine ⟨_, _, aP A, Or.inl rfl, hS, hD, ?_⟩
      simp (maxSteps := 2000000) [bk_X6_count_0, bk_X6_count_72, bk_X6_count_80, bk_X6_count_88, bk_X6_count_96, bk_X6_count_104, bk_X6_count_112, bk_X6_count_120, bk_X6_count_137, bk_X6_count_138, bk_X6_count_139, bk_X6_count_147, bk_X6_count_161, bk_X6_count_162, bk_X6_count_163, bk_X6_count_171, bk_X6_count_179, bk_X6_count_187, bk_X6_count_195, bk_X6_count_203, pm_call, pm_e_c0, pm_e_c1, pm_e_cti, pm_e_ctl, pm_e_ctr, pm_e_go, pm_e_i, pm_e_ldi, pm_e_ldr, pm_e_lk, pm_e_r, pm_e_rm0, pm_e_rm1, pm_e_rs0, pm_e_rs1, pm_e_sw0, pm_e_sw1, pm_e_wp0, pm_e_wp1, pm_f2, pm_f3, pm_fld, pm_fv, pm_obj, pm_recv, pm_s_aload_n, pm_s_bipush, pm_s_getfield, pm_s_goto, pm_s_iconst, pm_s_ifCond_eq, pm_s_iload_n, pm_s_invokestatic, pm_s_invokevirtual, pm_s_ireturn, pm_s_tableswitch, ct_X6_count, tt_X0_size, tt_J6_bitCount_0f7a4, tt_X6_allLaid, tt_X1_canGoBack, pS, pR, pC, pE, pL, -Int32.not_le, -Int32.not_lt, -Int64.not_le, -Int64.not_lt, -List.getD_eq_getElem?_getD]
      exact hT
    · have e := toInt_nI (j := 5) (by decide) h
      subst e; rw [fCount_n A (by decide)] at hT
      refine hb112 _ _ _ ?_
      simp (maxSteps := 2000000) [bk_X6_count_0, bk_X6_count_72, bk_X6_count_80, bk_X6_count_88, bk_X6_count_96, bk_X6_count_104, bk_X6_count_112, bk_X6_count_120, bk_X6_count_137, bk_X6_count_138, bk_X6_count_139, bk_X6_count_147, bk_X6_count_161, bk_X6_count_162, bk_X6_count_163, bk_X6_count_171, bk_X6_count_179, bk_X6_count_187, bk_X6_count_195, bk_X6_count_203, pm_call, pm_e_c0, pm_e_c1, pm_e_cti, pm_e_ctl, pm_e_ctr, pm_e_go, pm_e_i, pm_e_ldi, pm_e_ldr, pm_e_lk, pm_e_r, pm_e_rm0, pm_e_rm1, pm_e_rs0, pm_e_rs1, pm_e_sw0, pm_e_sw1, pm_e_wp0, pm_e_wp1, pm_f2, pm_f3, pm_fld, pm_fv, pm_obj, pm_recv, pm_s_aload_n, pm_s_bipush, pm_s_getfield, pm_s_goto, pm_s_iconst, pm_s_ifCond_eq, pm_s_iload_n, pm_s_invokestatic, pm_s_invokevirtual, pm_s_ireturn, pm_s_tableswitch, ct_X6_count, tt_X0_size, tt_J6_bitCount_0f7a4, tt_X6_allLaid, tt_X1_canGoBack, pS, pR, pC, pE, pL, -Int32.not_le, -Int32.not_lt, -Int64.not_le, -Int64.not_lt, -List.getD_eq_getElem?_getD, sx_0, sx_5]
      refine ⟨_, _, aP A, Or.inl rfl, hS, hD, hI, ?_⟩
      simp (maxSteps := 2000000) [bk_X6_count_0, bk_X6_count_72, bk_X6_count_80, bk_X6_count_88, bk_X6_count_96, bk_X6_count_104, bk_X6_count_112, bk_X6_count_120, bk_X6_count_137, bk_X6_count_138, bk_X6_count_139, bk_X6_count_147, bk_X6_count_161, bk_X6_count_162, bk_X6_count_163, bk_X6_count_171, bk_X6_count_179, bk_X6_count_187, bk_X6_count_195, bk_X6_count_203, pm_call, pm_e_c0, pm_e_c1, pm_e_cti, pm_e_ctl, pm_e_ctr, pm_e_go, pm_e_i, pm_e_ldi, pm_e_ldr, pm_e_lk, pm_e_r, pm_e_rm0, pm_e_rm1, pm_e_rs0, pm_e_rs1, pm_e_sw0, pm_e_sw1, pm_e_wp0, pm_e_wp1, pm_f2, pm_f3, pm_fld, pm_fv, pm_obj, pm_recv, pm_s_aload_n, pm_s_bipush, pm_s_getfield, pm_s_goto, pm_s_iconst, pm_s_ifCond_eq, pm_s_iload_n, pm_s_invokestatic, pm_s_invokevirtual, pm_s_ireturn, pm_s_tableswitch, ct_X6_count, tt_X0_size, tt_J6_bitCount_0f7a4, tt_X6_allLaid, tt_X1_canGoBack, pS, pR, pC, pE, pL, -Int32.not_le, -Int32.not_lt, -Int64.not_le, -Int64.not_lt, -List.getD_eq_getElem?_getD]
      exact hT
    · have e := toInt_nI (j := 6) (by decide) h
      subst e; rw [fCount_n A (by decide)] at hT
      have hT' : k (some (.int (nI (if alL A = true then movesN (aP A) (pE (aP A)) (aS A) else 0)))) M := hT
      refine hb120 _ _ _ ?_
      simp (maxSteps := 2000000) [bk_X6_count_0, bk_X6_count_72, bk_X6_count_80, bk_X6_count_88, bk_X6_count_96, bk_X6_count_104, bk_X6_count_112, bk_X6_count_120, bk_X6_count_137, bk_X6_count_138, bk_X6_count_139, bk_X6_count_147, bk_X6_count_161, bk_X6_count_162, bk_X6_count_163, bk_X6_count_171, bk_X6_count_179, bk_X6_count_187, bk_X6_count_195, bk_X6_count_203, pm_call, pm_e_c0, pm_e_c1, pm_e_cti, pm_e_ctl, pm_e_ctr, pm_e_go, pm_e_i, pm_e_ldi, pm_e_ldr, pm_e_lk, pm_e_r, pm_e_rm0, pm_e_rm1, pm_e_rs0, pm_e_rs1, pm_e_sw0, pm_e_sw1, pm_e_wp0, pm_e_wp1, pm_f2, pm_f3, pm_fld, pm_fv, pm_obj, pm_recv, pm_s_aload_n, pm_s_bipush, pm_s_getfield, pm_s_goto, pm_s_iconst, pm_s_ifCond_eq, pm_s_iload_n, pm_s_invokestatic, pm_s_invokevirtual, pm_s_ireturn, pm_s_tableswitch, ct_X6_count, tt_X0_size, tt_J6_bitCount_0f7a4, tt_X6_allLaid, tt_X1_canGoBack, pS, pR, pC, pE, pL, -Int32.not_le, -Int32.not_lt, -Int64.not_le, -Int64.not_lt, -List.getD_eq_getElem?_getD, sx_0, sx_5, hal, pb_eq0]
      refine ⟨fun hl => ?_, fun hl => ?_⟩
      · refine hb137 _ _ _ ?_
        simp (maxSteps := 2000000) [bk_X6_count_0, bk_X6_count_72, bk_X6_count_80, bk_X6_count_88, bk_X6_count_96, bk_X6_count_104, bk_X6_count_112, bk_X6_count_120, bk_X6_count_137, bk_X6_count_138, bk_X6_count_139, bk_X6_count_147, bk_X6_count_161, bk_X6_count_162, bk_X6_count_163, bk_X6_count_171, bk_X6_count_179, bk_X6_count_187, bk_X6_count_195, bk_X6_count_203, pm_call, pm_e_c0, pm_e_c1, pm_e_cti, pm_e_ctl, pm_e_ctr, pm_e_go, pm_e_i, pm_e_ldi, pm_e_ldr, pm_e_lk, pm_e_r, pm_e_rm0, pm_e_rm1, pm_e_rs0, pm_e_rs1, pm_e_sw0, pm_e_sw1, pm_e_wp0, pm_e_wp1, pm_f2, pm_f3, pm_fld, pm_fv, pm_obj, pm_recv, pm_s_aload_n, pm_s_bipush, pm_s_getfield, pm_s_goto, pm_s_iconst, pm_s_ifCond_eq, pm_s_iload_n, pm_s_invokestatic, pm_s_invokevirtual, pm_s_ireturn, pm_s_tableswitch, ct_X6_count, tt_X0_size, tt_J6_bitCount_0f7a4, tt_X6_allLaid, tt_X1_canGoBack, pS, pR, pC, pE, pL, -Int32.not_le, -Int32.not_lt, -Int64.not_le, -Int64.not_lt, -List.getD_eq_getElem?_getD]
        rw [if_neg (by simp [hl])] at hT'
        exact h138 _ hT'
      · refine ⟨_, _, aP A, Or.inl rfl, hS, hD, hI, ?_⟩
        simp (maxSteps := 2000000) [bk_X6_count_0, bk_X6_count_72, bk_X6_count_80, bk_X6_count_88, bk_X6_count_96, bk_X6_count_104, bk_X6_count_112, bk_X6_count_120, bk_X6_count_137, bk_X6_count_138, bk_X6_count_139, bk_X6_count_147, bk_X6_count_161, bk_X6_count_162, bk_X6_count_163, bk_X6_count_171, bk_X6_count_179, bk_X6_count_187, bk_X6_count_195, bk_X6_count_203, pm_call, pm_e_c0, pm_e_c1, pm_e_cti, pm_e_ctl, pm_e_ctr, pm_e_go, pm_e_i, pm_e_ldi, pm_e_ldr, pm_e_lk, pm_e_r, pm_e_rm0, pm_e_rm1, pm_e_rs0, pm_e_rs1, pm_e_sw0, pm_e_sw1, pm_e_wp0, pm_e_wp1, pm_f2, pm_f3, pm_fld, pm_fv, pm_obj, pm_recv, pm_s_aload_n, pm_s_bipush, pm_s_getfield, pm_s_goto, pm_s_iconst, pm_s_ifCond_eq, pm_s_iload_n, pm_s_invokestatic, pm_s_invokevirtual, pm_s_ireturn, pm_s_tableswitch, ct_X6_count, tt_X0_size, tt_J6_bitCount_0f7a4, tt_X6_allLaid, tt_X1_canGoBack, pS, pR, pC, pE, pL, -Int32.not_le, -Int32.not_lt, -Int64.not_le, -Int64.not_lt, -List.getD_eq_getElem?_getD]
        rw [if_pos hl] at hT'
        exact h138 _ hT'
    · have e := toInt_nI (j := 7) (by decide) h
      subst e; rw [fCount_n A (by decide)] at hT
      refine hb139 _ _ _ ?_
      simp (maxSteps := 2000000) [bk_X6_count_0, bk_X6_count_72, bk_X6_count_80, bk_X6_count_88, bk_X6_count_96, bk_X6_count_104, bk_X6_count_112, bk_X6_count_120, bk_X6_count_137, bk_X6_count_138, bk_X6_count_139, bk_X6_count_147, bk_X6_count_161, bk_X6_count_162, bk_X6_count_163, bk_X6_count_171, bk_X6_count_179, bk_X6_count_187, bk_X6_count_195, bk_X6_count_203, pm_call, pm_e_c0, pm_e_c1, pm_e_cti, pm_e_ctl, pm_e_ctr, pm_e_go, pm_e_i, pm_e_ldi, pm_e_ldr, pm_e_lk, pm_e_r, pm_e_rm0, pm_e_rm1, pm_e_rs0, pm_e_rs1, pm_e_sw0, pm_e_sw1, pm_e_wp0, pm_e_wp1, pm_f2, pm_f3, pm_fld, pm_fv, pm_obj, pm_recv, pm_s_aload_n, pm_s_bipush, pm_s_getfield, pm_s_goto, pm_s_iconst, pm_s_ifCond_eq, pm_s_iload_n, pm_s_invokestatic, pm_s_invokevirtual, pm_s_ireturn, pm_s_tableswitch, ct_X6_count, tt_X0_size, tt_J6_bitCount_0f7a4, tt_X6_allLaid, tt_X1_canGoBack, pS, pR, pC, pE, pL, -Int32.not_le, -Int32.not_lt, -Int64.not_le, -Int64.not_lt, -List.getD_eq_getElem?_getD, sx_0, sx_11, hH.2.2.1]
      exact hT
    · have e := toInt_nI (j := 8) (by decide) h
      subst e; rw [fCount_n A (by decide)] at hT
      have hT' : k (some (.int (nI (if hoS (aS A) = pS (aP A) * pR (aP A) then 1 else 0)))) M := hT
      refine hb147 _ _ _ ?_
      simp (maxSteps := 2000000) [bk_X6_count_0, bk_X6_count_72, bk_X6_count_80, bk_X6_count_88, bk_X6_count_96, bk_X6_count_104, bk_X6_count_112, bk_X6_count_120, bk_X6_count_137, bk_X6_count_138, bk_X6_count_139, bk_X6_count_147, bk_X6_count_161, bk_X6_count_162, bk_X6_count_163, bk_X6_count_171, bk_X6_count_179, bk_X6_count_187, bk_X6_count_195, bk_X6_count_203, pm_call, pm_e_c0, pm_e_c1, pm_e_cti, pm_e_ctl, pm_e_ctr, pm_e_go, pm_e_i, pm_e_ldi, pm_e_ldr, pm_e_lk, pm_e_r, pm_e_rm0, pm_e_rm1, pm_e_rs0, pm_e_rs1, pm_e_sw0, pm_e_sw1, pm_e_wp0, pm_e_wp1, pm_f2, pm_f3, pm_fld, pm_fv, pm_obj, pm_recv, pm_s_aload_n, pm_s_bipush, pm_s_getfield, pm_s_goto, pm_s_iconst, pm_s_ifCond_eq, pm_s_iload_n, pm_s_invokestatic, pm_s_invokevirtual, pm_s_ireturn, pm_s_tableswitch, ct_X6_count, tt_X0_size, tt_J6_bitCount_0f7a4, tt_X6_allLaid, tt_X1_canGoBack, pS, pR, pC, pE, pL, -Int32.not_le, -Int32.not_lt, -Int64.not_le, -Int64.not_lt, -List.getD_eq_getElem?_getD, sx_0, sx_5]
      refine ⟨_, _, aP A, Or.inl rfl, hS, hD, ?_⟩
      simp (maxSteps := 2000000) [bk_X6_count_0, bk_X6_count_72, bk_X6_count_80, bk_X6_count_88, bk_X6_count_96, bk_X6_count_104, bk_X6_count_112, bk_X6_count_120, bk_X6_count_137, bk_X6_count_138, bk_X6_count_139, bk_X6_count_147, bk_X6_count_161, bk_X6_count_162, bk_X6_count_163, bk_X6_count_171, bk_X6_count_179, bk_X6_count_187, bk_X6_count_195, bk_X6_count_203, pm_call, pm_e_c0, pm_e_c1, pm_e_cti, pm_e_ctl, pm_e_ctr, pm_e_go, pm_e_i, pm_e_ldi, pm_e_ldr, pm_e_lk, pm_e_r, pm_e_rm0, pm_e_rm1, pm_e_rs0, pm_e_rs1, pm_e_sw0, pm_e_sw1, pm_e_wp0, pm_e_wp1, pm_f2, pm_f3, pm_fld, pm_fv, pm_obj, pm_recv, pm_s_aload_n, pm_s_bipush, pm_s_getfield, pm_s_goto, pm_s_iconst, pm_s_ifCond_eq, pm_s_iload_n, pm_s_invokestatic, pm_s_invokevirtual, pm_s_ireturn, pm_s_tableswitch, ct_X6_count, tt_X0_size, tt_J6_bitCount_0f7a4, tt_X6_allLaid, tt_X1_canGoBack, pS, pR, pC, pE, pL, -Int32.not_le, -Int32.not_lt, -Int64.not_le, -Int64.not_lt, -List.getD_eq_getElem?_getD, pb_eq0]
      refine ⟨fun hl => ?_, fun hl => ?_⟩
      · refine hb161 _ _ _ ?_
        simp (maxSteps := 2000000) [bk_X6_count_0, bk_X6_count_72, bk_X6_count_80, bk_X6_count_88, bk_X6_count_96, bk_X6_count_104, bk_X6_count_112, bk_X6_count_120, bk_X6_count_137, bk_X6_count_138, bk_X6_count_139, bk_X6_count_147, bk_X6_count_161, bk_X6_count_162, bk_X6_count_163, bk_X6_count_171, bk_X6_count_179, bk_X6_count_187, bk_X6_count_195, bk_X6_count_203, pm_call, pm_e_c0, pm_e_c1, pm_e_cti, pm_e_ctl, pm_e_ctr, pm_e_go, pm_e_i, pm_e_ldi, pm_e_ldr, pm_e_lk, pm_e_r, pm_e_rm0, pm_e_rm1, pm_e_rs0, pm_e_rs1, pm_e_sw0, pm_e_sw1, pm_e_wp0, pm_e_wp1, pm_f2, pm_f3, pm_fld, pm_fv, pm_obj, pm_recv, pm_s_aload_n, pm_s_bipush, pm_s_getfield, pm_s_goto, pm_s_iconst, pm_s_ifCond_eq, pm_s_iload_n, pm_s_invokestatic, pm_s_invokevirtual, pm_s_ireturn, pm_s_tableswitch, ct_X6_count, tt_X0_size, tt_J6_bitCount_0f7a4, tt_X6_allLaid, tt_X1_canGoBack, pS, pR, pC, pE, pL, -Int32.not_le, -Int32.not_lt, -Int64.not_le, -Int64.not_lt, -List.getD_eq_getElem?_getD]
        rw [if_neg hl] at hT'
        exact h162 _ hT'
      · rw [if_pos hl] at hT'
        exact h162 _ hT'
    · have e := toInt_nI (j := 9) (by decide) h
      subst e; rw [fCount_n A (by decide)] at hT
      refine hb163 _ _ _ ?_
      simp (maxSteps := 2000000) [bk_X6_count_0, bk_X6_count_72, bk_X6_count_80, bk_X6_count_88, bk_X6_count_96, bk_X6_count_104, bk_X6_count_112, bk_X6_count_120, bk_X6_count_137, bk_X6_count_138, bk_X6_count_139, bk_X6_count_147, bk_X6_count_161, bk_X6_count_162, bk_X6_count_163, bk_X6_count_171, bk_X6_count_179, bk_X6_count_187, bk_X6_count_195, bk_X6_count_203, pm_call, pm_e_c0, pm_e_c1, pm_e_cti, pm_e_ctl, pm_e_ctr, pm_e_go, pm_e_i, pm_e_ldi, pm_e_ldr, pm_e_lk, pm_e_r, pm_e_rm0, pm_e_rm1, pm_e_rs0, pm_e_rs1, pm_e_sw0, pm_e_sw1, pm_e_wp0, pm_e_wp1, pm_f2, pm_f3, pm_fld, pm_fv, pm_obj, pm_recv, pm_s_aload_n, pm_s_bipush, pm_s_getfield, pm_s_goto, pm_s_iconst, pm_s_ifCond_eq, pm_s_iload_n, pm_s_invokestatic, pm_s_invokevirtual, pm_s_ireturn, pm_s_tableswitch, ct_X6_count, tt_X0_size, tt_J6_bitCount_0f7a4, tt_X6_allLaid, tt_X1_canGoBack, pS, pR, pC, pE, pL, -Int32.not_le, -Int32.not_lt, -Int64.not_le, -Int64.not_lt, -List.getD_eq_getElem?_getD, sx_0, sx_1, m3]
      exact hT
    · have e := toInt_nI (j := 10) (by decide) h
      subst e; rw [fCount_n A (by decide)] at hT
      refine hb171 _ _ _ ?_
      simp (maxSteps := 2000000) [bk_X6_count_0, bk_X6_count_72, bk_X6_count_80, bk_X6_count_88, bk_X6_count_96, bk_X6_count_104, bk_X6_count_112, bk_X6_count_120, bk_X6_count_137, bk_X6_count_138, bk_X6_count_139, bk_X6_count_147, bk_X6_count_161, bk_X6_count_162, bk_X6_count_163, bk_X6_count_171, bk_X6_count_179, bk_X6_count_187, bk_X6_count_195, bk_X6_count_203, pm_call, pm_e_c0, pm_e_c1, pm_e_cti, pm_e_ctl, pm_e_ctr, pm_e_go, pm_e_i, pm_e_ldi, pm_e_ldr, pm_e_lk, pm_e_r, pm_e_rm0, pm_e_rm1, pm_e_rs0, pm_e_rs1, pm_e_sw0, pm_e_sw1, pm_e_wp0, pm_e_wp1, pm_f2, pm_f3, pm_fld, pm_fv, pm_obj, pm_recv, pm_s_aload_n, pm_s_bipush, pm_s_getfield, pm_s_goto, pm_s_iconst, pm_s_ifCond_eq, pm_s_iload_n, pm_s_invokestatic, pm_s_invokevirtual, pm_s_ireturn, pm_s_tableswitch, ct_X6_count, tt_X0_size, tt_J6_bitCount_0f7a4, tt_X6_allLaid, tt_X1_canGoBack, pS, pR, pC, pE, pL, -Int32.not_le, -Int32.not_lt, -Int64.not_le, -Int64.not_lt, -List.getD_eq_getElem?_getD, sx_0, sx_1, m4]
      exact hT
    · have e := toInt_nI (j := 11) (by decide) h
      subst e; rw [fCount_n A (by decide)] at hT
      refine hb179 _ _ _ ?_
      simp (maxSteps := 2000000) [bk_X6_count_0, bk_X6_count_72, bk_X6_count_80, bk_X6_count_88, bk_X6_count_96, bk_X6_count_104, bk_X6_count_112, bk_X6_count_120, bk_X6_count_137, bk_X6_count_138, bk_X6_count_139, bk_X6_count_147, bk_X6_count_161, bk_X6_count_162, bk_X6_count_163, bk_X6_count_171, bk_X6_count_179, bk_X6_count_187, bk_X6_count_195, bk_X6_count_203, pm_call, pm_e_c0, pm_e_c1, pm_e_cti, pm_e_ctl, pm_e_ctr, pm_e_go, pm_e_i, pm_e_ldi, pm_e_ldr, pm_e_lk, pm_e_r, pm_e_rm0, pm_e_rm1, pm_e_rs0, pm_e_rs1, pm_e_sw0, pm_e_sw1, pm_e_wp0, pm_e_wp1, pm_f2, pm_f3, pm_fld, pm_fv, pm_obj, pm_recv, pm_s_aload_n, pm_s_bipush, pm_s_getfield, pm_s_goto, pm_s_iconst, pm_s_ifCond_eq, pm_s_iload_n, pm_s_invokestatic, pm_s_invokevirtual, pm_s_ireturn, pm_s_tableswitch, ct_X6_count, tt_X0_size, tt_J6_bitCount_0f7a4, tt_X6_allLaid, tt_X1_canGoBack, pS, pR, pC, pE, pL, -Int32.not_le, -Int32.not_lt, -Int64.not_le, -Int64.not_lt, -List.getD_eq_getElem?_getD, sx_0, sx_1, m5]
      exact hT
    · have e := toInt_nI (j := 12) (by decide) h
      subst e; rw [fCount_n A (by decide)] at hT
      refine hb187 _ _ _ ?_
      simp (maxSteps := 2000000) [bk_X6_count_0, bk_X6_count_72, bk_X6_count_80, bk_X6_count_88, bk_X6_count_96, bk_X6_count_104, bk_X6_count_112, bk_X6_count_120, bk_X6_count_137, bk_X6_count_138, bk_X6_count_139, bk_X6_count_147, bk_X6_count_161, bk_X6_count_162, bk_X6_count_163, bk_X6_count_171, bk_X6_count_179, bk_X6_count_187, bk_X6_count_195, bk_X6_count_203, pm_call, pm_e_c0, pm_e_c1, pm_e_cti, pm_e_ctl, pm_e_ctr, pm_e_go, pm_e_i, pm_e_ldi, pm_e_ldr, pm_e_lk, pm_e_r, pm_e_rm0, pm_e_rm1, pm_e_rs0, pm_e_rs1, pm_e_sw0, pm_e_sw1, pm_e_wp0, pm_e_wp1, pm_f2, pm_f3, pm_fld, pm_fv, pm_obj, pm_recv, pm_s_aload_n, pm_s_bipush, pm_s_getfield, pm_s_goto, pm_s_iconst, pm_s_ifCond_eq, pm_s_iload_n, pm_s_invokestatic, pm_s_invokevirtual, pm_s_ireturn, pm_s_tableswitch, ct_X6_count, tt_X0_size, tt_J6_bitCount_0f7a4, tt_X6_allLaid, tt_X1_canGoBack, pS, pR, pC, pE, pL, -Int32.not_le, -Int32.not_lt, -Int64.not_le, -Int64.not_lt, -List.getD_eq_getElem?_getD, sx_0, sx_1, m6]
      exact hT
    · have e := toInt_nI (j := 13) (by decide) h
      subst e; rw [fCount_n A (by decide)] at hT
      refine hb195 _ _ _ ?_
      simp (maxSteps := 2000000) [bk_X6_count_0, bk_X6_count_72, bk_X6_count_80, bk_X6_count_88, bk_X6_count_96, bk_X6_count_104, bk_X6_count_112, bk_X6_count_120, bk_X6_count_137, bk_X6_count_138, bk_X6_count_139, bk_X6_count_147, bk_X6_count_161, bk_X6_count_162, bk_X6_count_163, bk_X6_count_171, bk_X6_count_179, bk_X6_count_187, bk_X6_count_195, bk_X6_count_203, pm_call, pm_e_c0, pm_e_c1, pm_e_cti, pm_e_ctl, pm_e_ctr, pm_e_go, pm_e_i, pm_e_ldi, pm_e_ldr, pm_e_lk, pm_e_r, pm_e_rm0, pm_e_rm1, pm_e_rs0, pm_e_rs1, pm_e_sw0, pm_e_sw1, pm_e_wp0, pm_e_wp1, pm_f2, pm_f3, pm_fld, pm_fv, pm_obj, pm_recv, pm_s_aload_n, pm_s_bipush, pm_s_getfield, pm_s_goto, pm_s_iconst, pm_s_ifCond_eq, pm_s_iload_n, pm_s_invokestatic, pm_s_invokevirtual, pm_s_ireturn, pm_s_tableswitch, ct_X6_count, tt_X0_size, tt_J6_bitCount_0f7a4, tt_X6_allLaid, tt_X1_canGoBack, pS, pR, pC, pE, pL, -Int32.not_le, -Int32.not_lt, -Int64.not_le, -Int64.not_lt, -List.getD_eq_getElem?_getD, sx_0, sx_1, m7]
      exact hT
  · exact hT.elim
theorem sh3 {n : Nat} (h : n < 2 ^ 31) : nI n >>> (nI 3 &&& 31) = nI (n / 8) := pk_shrN h _ 3 (by decide)
theorem sh3_neg {x : Int32} (h : x < 0) : x >>> (nI 3 &&& 31) < 0 := by
  rw [Int32.lt_iff_toInt_lt] at h ⊢
  rw [pk_shr x _ 3 (by decide)]
  have h' : x.toInt < 0 := h
  show x.toInt >>> 3 < 0
  rw [Int.shiftRight_eq_div_pow]
  have : (2 ^ 3 : Int) = 8 := by decide
  show x.toInt / ((2 ^ 3 : Nat) : Int) < 0
  have e : ((2 ^ 3 : Nat) : Int) = 8 := by decide
  rw [e]; omega
theorem wi_lo {x a b : Int32} (h : x < a) : wi x a b = false := by unfold wi; simp [h]
theorem cd_iff {P : Pm} (hP : okP P) (x : Int32) : (wi (x >>> (nI 3 &&& 31)) (nI 0) (nI (pS P) - nI 1) && wi (x &&& nI 7) (nI 1) (nI (pR P))) = cdOK P x := by
  obtain ⟨h1, h2, h3, h4, h5, h6, h7, h8, h9⟩ := hP
  by_cases hx : x < 0
  · rw [wi_lo (show x >>> (nI 3 &&& 31) < nI 0 from sh3_neg hx), Bool.false_and]
    symm; unfold cdOK
    refine anyN_no (fun c hc => ?_)
    have : ¬ x = nI c := fun e => by
      rw [e, ni_lt0 (by omega)] at hx; exact hx
    simp [this]
  · obtain ⟨n, hn, rfl⟩ := nI_of hx
    rw [sh3 hn, ni_a7 (by omega), ni_sub h1, wi_n (by omega) (by decide) (by omega), wi_n (by omega) (by decide) (by omega)]
    rw [Bool.eq_iff_iff]
    unfold cdOK
    rw [anyN_iff]
    simp only [Bool.and_eq_true, decide_eq_true_eq]
    constructor
    · intro h
      exact ⟨n, by omega, ⟨⟨rfl, by omega⟩, by omega⟩, by omega⟩
    · rintro ⟨c, hc, ⟨⟨e1, e2⟩, e3⟩, e4⟩
      rw [ni_eq hn (by omega)] at e1
      subst e1
      omega
theorem cdOK_e {P : Pm} (hP : okP P) {x : Int32} (h : cdOK P x = true) : x = nI (tn x) ∧ tn x < 32 ∧ 1 ≤ crdN P x ∧ crdN P x ≤ pS P * pR P ∧ ((x >>> (nI 3 &&& 31)) * nI (pR P) + (x &&& nI 7)) &&& nI 15 = nI (crdN P x) := by
  unfold cdOK at h
  obtain ⟨c, hc, hx⟩ := anyN_iff.mp h
  simp only [Bool.and_eq_true, decide_eq_true_eq] at hx
  obtain ⟨⟨⟨e1, e2⟩, e3⟩, e4⟩ := hx
  subst e1
  have hd := card_le (r := pR P) (k := c % 8) e2 e4
  have h5 := hP.2.2.2.2.1
  unfold crdN
  rw [tn_n (by omega)]
  refine ⟨rfl, hc, by omega, hd, ?_⟩
  rw [sh3 (by omega), ni_a7 (by omega), ni_mul, ni_add, ni_a15 (by omega), Nat.mod_eq_of_lt (by omega)]
def tt_X6_lets : pm_T := fun args M k => match args with
  | [.ref 0, .int x, .int y] => ∃ A, okA A ∧ MX M A ∧ k (some (.int (fLets A x y))) M
  | _ => False
abbrev ct_X6_lets : List pm_C := [(false, 190, 0, 2, (some .boolean), tt_X0_hasCode), (false, 193, 0, 2, (some .int), tt_X0_cardOfCode), (false, 196, 0, 3, (some .boolean), tt_X0_allows)]
set_option maxHeartbeats 4000000 in
theorem sm_X6_lets  : pm_Sem SHx yX6_lets cX6_lets 4 (some .int) 4 tt_X6_lets := by
  refine pm_Sem_intro bl_X6_lets ct_X6_lets cs_X6_lets rfl (List.forall_mem_cons.mpr ⟨⟨_, _, _, _, sm_X0_hasCode, by decide, cm_X0_hasCode, by decide +kernel⟩, List.forall_mem_cons.mpr ⟨⟨_, _, _, _, sm_X0_cardOfCode, by decide, cm_X0_cardOfCode, by decide +kernel⟩, List.forall_mem_cons.mpr ⟨⟨_, _, _, _, sm_X0_allows, by decide, cm_X0_allows, by decide +kernel⟩, fun _ h => absurd h List.not_mem_nil⟩⟩⟩) ck_X6_lets (by decide +kernel) (by decide) ?_
  intro X k hX args M hT
  have hb0 := hX 0 bk_X6_lets_0 (List.mem_of_getElem? (i := 0) rfl)
  have hb26 := hX 26 bk_X6_lets_26 (List.mem_of_getElem? (i := 1) rfl)
  have hb29 := hX 29 bk_X6_lets_29 (List.mem_of_getElem? (i := 2) rfl)
  have hb37 := hX 37 bk_X6_lets_37 (List.mem_of_getElem? (i := 3) rfl)
  have hb45 := hX 45 bk_X6_lets_45 (List.mem_of_getElem? (i := 4) rfl)
  have hb69 := hX 69 bk_X6_lets_69 (List.mem_of_getElem? (i := 5) rfl)
  have hb70 := hX 70 bk_X6_lets_70 (List.mem_of_getElem? (i := 6) rfl)
  clear hX
  unfold tt_X6_lets at hT; split at hT
  · next x y =>
    obtain ⟨A, hA, hM, hT⟩ := hT
    obtain ⟨hD, hS, hH, hL, hW, hQ, hPl, hTr⟩ := id hM
    have hP := hA.1
    obtain ⟨m3, m4, m5, m6, m7⟩ := id hD.1.2.1
    have ix := cd_iff hP x
    have iy := cd_iff hP y
    unfold fLets at hT
    refine ⟨by simp [lg_sl, Value.category], ?_⟩
    have bad : (cdOK (aP A) x && (decide (y = nI 0) || cdOK (aP A) y)) = false → X 26 [] [] M := by
      intro hf
      refine hb26 _ _ _ ?_
      simp (maxSteps := 2000000) [bk_X6_lets_0, bk_X6_lets_26, bk_X6_lets_29, bk_X6_lets_37, bk_X6_lets_45, bk_X6_lets_69, bk_X6_lets_70, pm_call, pm_e_c0, pm_e_c1, pm_e_cti, pm_e_ctl, pm_e_ctr, pm_e_go, pm_e_i, pm_e_ldi, pm_e_ldr, pm_e_lk, pm_e_r, pm_e_rm0, pm_e_rm1, pm_e_rs0, pm_e_rs1, pm_e_wp0, pm_e_wp1, pm_f2, pm_f3, pm_fld, pm_fv, pm_obj, pm_recv, pm_s_aload_n, pm_s_bipush, pm_s_getfield, pm_s_goto, pm_s_iconst, pm_s_ifCond_eq, pm_s_ifCond_ne, pm_s_iload_n, pm_s_invokevirtual, pm_s_ireturn, pm_s_istore_n, ct_X6_lets, tt_X0_hasCode, tt_X0_cardOfCode, tt_X0_allows, pS, pR, pC, pE, pL, -Int32.not_le, -Int32.not_lt, -Int64.not_le, -Int64.not_lt, -List.getD_eq_getElem?_getD]
      rw [hf, if_neg (by simp)] at hT
      exact hT
    have good : (cdOK (aP A) x && (decide (y = nI 0) || cdOK (aP A) y)) = true → X 29 [(0, .ref 0), (1, .int x), (2, .int y)] [] M := by
      intro hf
      rw [hf, if_pos rfl] at hT
      simp only [Bool.and_eq_true, Bool.or_eq_true, decide_eq_true_eq] at hf
      obtain ⟨x1, x2, x3, x4, x5⟩ := cdOK_e hP hf.1
      have h45 : ∀ o, o = (if y = nI 0 then 0 else crdN (aP A) y) → o ≤ pS (aP A) * pR (aP A) → X 45 [(0, .ref 0), (1, .int x)] [.int (nI o)] M := by
        intro o eo ho
        rw [← eo] at hT
        have hal := al_let hD x3 x4 ho
        have h70 : ∀ v, k (some (.int v)) M → X 70 [] [.int v] M := by
          intro v hv
          refine hb70 _ _ _ ?_
          simp (maxSteps := 2000000) [bk_X6_lets_0, bk_X6_lets_26, bk_X6_lets_29, bk_X6_lets_37, bk_X6_lets_45, bk_X6_lets_69, bk_X6_lets_70, pm_call, pm_e_c0, pm_e_c1, pm_e_cti, pm_e_ctl, pm_e_ctr, pm_e_go, pm_e_i, pm_e_ldi, pm_e_ldr, pm_e_lk, pm_e_r, pm_e_rm0, pm_e_rm1, pm_e_rs0, pm_e_rs1, pm_e_wp0, pm_e_wp1, pm_f2, pm_f3, pm_fld, pm_fv, pm_obj, pm_recv, pm_s_aload_n, pm_s_bipush, pm_s_getfield, pm_s_goto, pm_s_iconst, pm_s_ifCond_eq, pm_s_ifCond_ne, pm_s_iload_n, pm_s_invokevirtual, pm_s_ireturn, pm_s_istore_n, ct_X6_lets, tt_X0_hasCode, tt_X0_cardOfCode, tt_X0_allows, pS, pR, pC, pE, pL, -Int32.not_le, -Int32.not_lt, -Int64.not_le, -Int64.not_lt, -List.getD_eq_getElem?_getD]
          exact hv
        refine hb45 _ _ _ ?_
        simp (maxSteps := 2000000) [bk_X6_lets_0, bk_X6_lets_26, bk_X6_lets_29, bk_X6_lets_37, bk_X6_lets_45, bk_X6_lets_69, bk_X6_lets_70, pm_call, pm_e_c0, pm_e_c1, pm_e_cti, pm_e_ctl, pm_e_ctr, pm_e_go, pm_e_i, pm_e_ldi, pm_e_ldr, pm_e_lk, pm_e_r, pm_e_rm0, pm_e_rm1, pm_e_rs0, pm_e_rs1, pm_e_wp0, pm_e_wp1, pm_f2, pm_f3, pm_fld, pm_fv, pm_obj, pm_recv, pm_s_aload_n, pm_s_bipush, pm_s_getfield, pm_s_goto, pm_s_iconst, pm_s_ifCond_eq, pm_s_ifCond_ne, pm_s_iload_n, pm_s_invokevirtual, pm_s_ireturn, pm_s_istore_n, ct_X6_lets, tt_X0_hasCode, tt_X0_cardOfCode, tt_X0_allows, pS, pR, pC, pE, pL, -Int32.not_le, -Int32.not_lt, -Int64.not_le, -Int64.not_lt, -List.getD_eq_getElem?_getD, sx_0, sx_1, m4]
        dsimp only [pR] at x5
        rw [x5]
        have e2 : (M.1 4 (nI (crdN (aP A) x) &&& nI 15).toNatClampNeg &&& (nI 1 <<< (nI o &&& 31)) = 0) = (letF (aP A) (crdN (aP A) x) o = false) := by
          have h2 := congrArg (fun v => v = (0 : Int32)) hal
          simp only [pb_eq0] at h2
          simpa using h2
        rw [pb_eq0]
        simp only [Bool.not_eq_false', Bool.not_eq_true', decide_eq_true_eq, decide_eq_false_iff_not]
        rw [e2]
        refine ⟨fun h => ?_, fun h => ?_⟩
        · refine hb69 _ _ _ ?_
          simp (maxSteps := 2000000) [bk_X6_lets_0, bk_X6_lets_26, bk_X6_lets_29, bk_X6_lets_37, bk_X6_lets_45, bk_X6_lets_69, bk_X6_lets_70, pm_call, pm_e_c0, pm_e_c1, pm_e_cti, pm_e_ctl, pm_e_ctr, pm_e_go, pm_e_i, pm_e_ldi, pm_e_ldr, pm_e_lk, pm_e_r, pm_e_rm0, pm_e_rm1, pm_e_rs0, pm_e_rs1, pm_e_wp0, pm_e_wp1, pm_f2, pm_f3, pm_fld, pm_fv, pm_obj, pm_recv, pm_s_aload_n, pm_s_bipush, pm_s_getfield, pm_s_goto, pm_s_iconst, pm_s_ifCond_eq, pm_s_ifCond_ne, pm_s_iload_n, pm_s_invokevirtual, pm_s_ireturn, pm_s_istore_n, ct_X6_lets, tt_X0_hasCode, tt_X0_cardOfCode, tt_X0_allows, pS, pR, pC, pE, pL, -Int32.not_le, -Int32.not_lt, -Int64.not_le, -Int64.not_lt, -List.getD_eq_getElem?_getD]
          rw [if_neg (by rw [h]; simp)] at hT
          exact h70 _ hT
        · rw [if_pos (by simpa using h)] at hT
          exact h70 _ hT
      refine hb29 _ _ _ ?_
      simp (maxSteps := 2000000) [bk_X6_lets_0, bk_X6_lets_26, bk_X6_lets_29, bk_X6_lets_37, bk_X6_lets_45, bk_X6_lets_69, bk_X6_lets_70, pm_call, pm_e_c0, pm_e_c1, pm_e_cti, pm_e_ctl, pm_e_ctr, pm_e_go, pm_e_i, pm_e_ldi, pm_e_ldr, pm_e_lk, pm_e_r, pm_e_rm0, pm_e_rm1, pm_e_rs0, pm_e_rs1, pm_e_wp0, pm_e_wp1, pm_f2, pm_f3, pm_fld, pm_fv, pm_obj, pm_recv, pm_s_aload_n, pm_s_bipush, pm_s_getfield, pm_s_goto, pm_s_iconst, pm_s_ifCond_eq, pm_s_ifCond_ne, pm_s_iload_n, pm_s_invokevirtual, pm_s_ireturn, pm_s_istore_n, ct_X6_lets, tt_X0_hasCode, tt_X0_cardOfCode, tt_X0_allows, pS, pR, pC, pE, pL, -Int32.not_le, -Int32.not_lt, -Int64.not_le, -Int64.not_lt, -List.getD_eq_getElem?_getD]
      refine ⟨fun h => ?_, fun h => ?_⟩
      · refine hb37 _ _ _ ?_
        simp (maxSteps := 2000000) [bk_X6_lets_0, bk_X6_lets_26, bk_X6_lets_29, bk_X6_lets_37, bk_X6_lets_45, bk_X6_lets_69, bk_X6_lets_70, pm_call, pm_e_c0, pm_e_c1, pm_e_cti, pm_e_ctl, pm_e_ctr, pm_e_go, pm_e_i, pm_e_ldi, pm_e_ldr, pm_e_lk, pm_e_r, pm_e_rm0, pm_e_rm1, pm_e_rs0, pm_e_rs1, pm_e_wp0, pm_e_wp1, pm_f2, pm_f3, pm_fld, pm_fv, pm_obj, pm_recv, pm_s_aload_n, pm_s_bipush, pm_s_getfield, pm_s_goto, pm_s_iconst, pm_s_ifCond_eq, pm_s_ifCond_ne, pm_s_iload_n, pm_s_invokevirtual, pm_s_ireturn, pm_s_istore_n, ct_X6_lets, tt_X0_hasCode, tt_X0_cardOfCode, tt_X0_allows, pS, pR, pC, pE, pL, -Int32.not_le, -Int32.not_lt, -Int64.not_le, -Int64.not_lt, -List.getD_eq_getElem?_getD, sx_0, sx_1, m4]
        have hy0 : ¬ y = nI 0 := h
        obtain ⟨y1, y2, y3, y4, y5⟩ := cdOK_e hP (hf.2.resolve_left hy0)
        dsimp only [pR] at y5
        rw [y5]
        exact h45 _ (by rw [if_neg hy0]) y4
      · have hy0 : y = nI 0 := h
        exact h45 0 (by rw [if_pos hy0]) (Nat.zero_le _)
    refine hb0 _ _ _ ?_
    simp (maxSteps := 2000000) [bk_X6_lets_0, bk_X6_lets_26, bk_X6_lets_29, bk_X6_lets_37, bk_X6_lets_45, bk_X6_lets_69, bk_X6_lets_70, pm_call, pm_e_c0, pm_e_c1, pm_e_cti, pm_e_ctl, pm_e_ctr, pm_e_go, pm_e_i, pm_e_ldi, pm_e_ldr, pm_e_lk, pm_e_r, pm_e_rm0, pm_e_rm1, pm_e_rs0, pm_e_rs1, pm_e_wp0, pm_e_wp1, pm_f2, pm_f3, pm_fld, pm_fv, pm_obj, pm_recv, pm_s_aload_n, pm_s_bipush, pm_s_getfield, pm_s_goto, pm_s_iconst, pm_s_ifCond_eq, pm_s_ifCond_ne, pm_s_iload_n, pm_s_invokevirtual, pm_s_ireturn, pm_s_istore_n, ct_X6_lets, tt_X0_hasCode, tt_X0_cardOfCode, tt_X0_allows, pS, pR, pC, pE, pL, -Int32.not_le, -Int32.not_lt, -Int64.not_le, -Int64.not_lt, -List.getD_eq_getElem?_getD, lv_args, sx_0, sx_1, m3, m4]
    dsimp only [pS, pR] at ix iy
    rw [ix, iy]
    simp only [pb_eq0]
    refine ⟨fun h => bad (by rw [h]; rfl), fun h => ⟨fun h2 => good ?_, fun h2 => ⟨fun h3 => good ?_, fun h3 => bad ?_⟩⟩⟩
    · have h2' : y = nI 0 := h2
      simp only [Bool.not_eq_false] at h
      rw [h, decide_eq_true h2']; rfl
    · simp only [Bool.not_eq_false] at h h3
      rw [h, h3]; simp
    · have h2' : ¬ y = nI 0 := h2
      rw [decide_eq_false h2']; simp only [Bool.not_eq_false] at h
      rw [h]; simpa using h3
  · exact hT.elim
