theorem al_eq {M : pm_M} {A : Ab} (hA : okA A) (h : MX M A) : (bcF (M.1 0 7) = M.1 1 3 * M.1 1 4) = (alL A = true) := by
  rw [← al_pb hA h, decide_eq_true_eq]
def tt_X6_undo : pm_T := fun args M k => match args with
  | [.ref 0] => ∃ A, okA A ∧ MX M A ∧ ∀ M', MX M' (fUndo A).2 → k (some (.int (fUndo A).1)) M'
  | _ => False
theorem okA.wfH {A : Ab} (h : okA A) : 0 < aLa A → ∀ i, i ≤ aLa A → wfS (aP A) (aH A i) := fun hl i hi => WF.wfK h.1 (h.2.2.2.2.1 i hi) (h.2.2.2.2.2.1 hl)
abbrev ct_X6_undo : List pm_C := [(false, 144, 1, 2, (some .boolean), tt_X1_goBack)]
set_option maxHeartbeats 4000000 in
theorem sm_X6_undo  : pm_Sem SHx yX6_undo cX6_undo 1 (some .int) 4 tt_X6_undo := by
  refine pm_Sem_intro bl_X6_undo ct_X6_undo cs_X6_undo rfl (List.forall_mem_cons.mpr ⟨⟨_, _, _, _, sm_X1_goBack, by decide, cm_X1_goBack, by decide +kernel⟩, fun _ h => absurd h List.not_mem_nil⟩) ck_X6_undo (by decide +kernel) (by decide) ?_
  intro X k hX args M hT
  have hb0 := hX 0 bk_X6_undo_0 (List.mem_of_getElem? (i := 0) rfl)
  have hb18 := hX 18 bk_X6_undo_18 (List.mem_of_getElem? (i := 1) rfl)
  have hb19 := hX 19 bk_X6_undo_19 (List.mem_of_getElem? (i := 2) rfl)
  clear hX
  unfold tt_X6_undo at hT; split at hT
  · obtain ⟨A, hA, hM, hT⟩ := hT
    obtain ⟨hD, hS, hH, hL, hW, hQ, hPl, hTr⟩ := id hM
    have hE := hA.1.2.2.2.2.2.2.2.1
    unfold fUndo at hT
    refine ⟨by simp [lg_sl, Value.category], ?_⟩
    have h19 : ∀ M' v, k (some (.int v)) M' → X 19 [] [.int v] M' := by
      intro M' v hv
      refine hb19 _ _ _ ?_
      simp (maxSteps := 2000000) [bk_X6_undo_0, bk_X6_undo_18, bk_X6_undo_19, pm_call, pm_e_c0, pm_e_c1, pm_e_cti, pm_e_ctl, pm_e_ctr, pm_e_go, pm_e_i, pm_e_ldr, pm_e_lk, pm_e_r, pm_e_rm0, pm_e_rm1, pm_e_rs0, pm_e_rs1, pm_e_wp0, pm_e_wp1, pm_f2, pm_f3, pm_fld, pm_fv, pm_obj, pm_recv, pm_s_aload_n, pm_s_getfield, pm_s_goto, pm_s_iconst, pm_s_ifCond_eq, pm_s_invokevirtual, pm_s_ireturn, ct_X6_undo, pS, pR, pC, pE, pL, -Int32.not_le, -Int32.not_lt, -Int64.not_le, -Int64.not_lt, -List.getD_eq_getElem?_getD]
      exact hv
    refine hb0 _ _ _ ?_
    simp (maxSteps := 2000000) [bk_X6_undo_0, bk_X6_undo_18, bk_X6_undo_19, pm_call, pm_e_c0, pm_e_c1, pm_e_cti, pm_e_ctl, pm_e_ctr, pm_e_go, pm_e_i, pm_e_ldr, pm_e_lk, pm_e_r, pm_e_rm0, pm_e_rm1, pm_e_rs0, pm_e_rs1, pm_e_wp0, pm_e_wp1, pm_f2, pm_f3, pm_fld, pm_fv, pm_obj, pm_recv, pm_s_aload_n, pm_s_getfield, pm_s_goto, pm_s_iconst, pm_s_ifCond_eq, pm_s_invokevirtual, pm_s_ireturn, ct_X6_undo, pS, pR, pC, pE, pL, -Int32.not_le, -Int32.not_lt, -Int64.not_le, -Int64.not_lt, -List.getD_eq_getElem?_getD, lv_args, sx_0, sx_11]
    refine ⟨pE (aP A), aH A, aPr A, aLa A, aP A, hE, hS.2.2.1, hH, hD, hA.wfH, fun hp => ?_, fun hp M1 q1 q2 f1 => ?_⟩
    · simp (maxSteps := 2000000) [bk_X6_undo_0, bk_X6_undo_18, bk_X6_undo_19, pm_call, pm_e_c0, pm_e_c1, pm_e_cti, pm_e_ctl, pm_e_ctr, pm_e_go, pm_e_i, pm_e_ldr, pm_e_lk, pm_e_r, pm_e_rm0, pm_e_rm1, pm_e_rs0, pm_e_rs1, pm_e_wp0, pm_e_wp1, pm_f2, pm_f3, pm_fld, pm_fv, pm_obj, pm_recv, pm_s_aload_n, pm_s_getfield, pm_s_goto, pm_s_iconst, pm_s_ifCond_eq, pm_s_invokevirtual, pm_s_ireturn, ct_X6_undo, pS, pR, pC, pE, pL, -Int32.not_le, -Int32.not_lt, -Int64.not_le, -Int64.not_lt, -List.getD_eq_getElem?_getD]
      refine ⟨fun _ => ?_, fun h => absurd rfl h⟩
      refine hb18 _ _ _ ?_
      simp (maxSteps := 2000000) [bk_X6_undo_0, bk_X6_undo_18, bk_X6_undo_19, pm_call, pm_e_c0, pm_e_c1, pm_e_cti, pm_e_ctl, pm_e_ctr, pm_e_go, pm_e_i, pm_e_ldr, pm_e_lk, pm_e_r, pm_e_rm0, pm_e_rm1, pm_e_rs0, pm_e_rs1, pm_e_wp0, pm_e_wp1, pm_f2, pm_f3, pm_fld, pm_fv, pm_obj, pm_recv, pm_s_aload_n, pm_s_getfield, pm_s_goto, pm_s_iconst, pm_s_ifCond_eq, pm_s_invokevirtual, pm_s_ireturn, ct_X6_undo, pS, pR, pC, pE, pL, -Int32.not_le, -Int32.not_lt, -Int64.not_le, -Int64.not_lt, -List.getD_eq_getElem?_getD]
      rw [if_pos hp] at hT
      exact h19 M _ (hT M hM)
    · simp (maxSteps := 2000000) [bk_X6_undo_0, bk_X6_undo_18, bk_X6_undo_19, pm_call, pm_e_c0, pm_e_c1, pm_e_cti, pm_e_ctl, pm_e_ctr, pm_e_go, pm_e_i, pm_e_ldr, pm_e_lk, pm_e_r, pm_e_rm0, pm_e_rm1, pm_e_rs0, pm_e_rs1, pm_e_wp0, pm_e_wp1, pm_f2, pm_f3, pm_fld, pm_fv, pm_obj, pm_recv, pm_s_aload_n, pm_s_getfield, pm_s_goto, pm_s_iconst, pm_s_ifCond_eq, pm_s_invokevirtual, pm_s_ireturn, ct_X6_undo, pS, pR, pC, pE, pL, -Int32.not_le, -Int32.not_lt, -Int64.not_le, -Int64.not_lt, -List.getD_eq_getElem?_getD]
      refine ⟨fun h => absurd h (by decide), fun _ => ?_⟩
      rw [if_neg (by omega)] at hT
      exact h19 M1 _ (hT M1 ⟨hD.moved f1 (by decide), q2, q1, hL.mv f1 (by decide), by rw [f1.i (by decide)]; exact hW, by rw [f1.i (by decide)]; exact hQ, hPl.mv f1 (by decide) (by decide), trs_mv hTr f1 (by decide)⟩)
  · exact hT.elim
def tt_X6_redo : pm_T := fun args M k => match args with
  | [.ref 0] => ∃ A, okA A ∧ MX M A ∧ ∀ M', MX M' (fRedo A).2 → k (some (.int (fRedo A).1)) M'
  | _ => False
abbrev ct_X6_redo : List pm_C := [(false, 148, 1, 2, (some .boolean), tt_X1_goOn)]
set_option maxHeartbeats 4000000 in
theorem sm_X6_redo  : pm_Sem SHx yX6_redo cX6_redo 1 (some .int) 4 tt_X6_redo := by
  refine pm_Sem_intro bl_X6_redo ct_X6_redo cs_X6_redo rfl (List.forall_mem_cons.mpr ⟨⟨_, _, _, _, sm_X1_goOn, by decide, cm_X1_goOn, by decide +kernel⟩, fun _ h => absurd h List.not_mem_nil⟩) ck_X6_redo (by decide +kernel) (by decide) ?_
  intro X k hX args M hT
  have hb0 := hX 0 bk_X6_redo_0 (List.mem_of_getElem? (i := 0) rfl)
  have hb18 := hX 18 bk_X6_redo_18 (List.mem_of_getElem? (i := 1) rfl)
  have hb19 := hX 19 bk_X6_redo_19 (List.mem_of_getElem? (i := 2) rfl)
  clear hX
  unfold tt_X6_redo at hT; split at hT
  · obtain ⟨A, hA, hM, hT⟩ := hT
    obtain ⟨hD, hS, hH, hL, hW, hQ, hPl, hTr⟩ := id hM
    have hE := hA.1.2.2.2.2.2.2.2.1
    have hpl := hH.1
    unfold fRedo at hT
    refine ⟨by simp [lg_sl, Value.category], ?_⟩
    have h19 : ∀ M' v, k (some (.int v)) M' → X 19 [] [.int v] M' := by
      intro M' v hv
      refine hb19 _ _ _ ?_
      simp (maxSteps := 2000000) [bk_X6_redo_0, bk_X6_redo_18, bk_X6_redo_19, pm_call, pm_e_c0, pm_e_c1, pm_e_cti, pm_e_ctl, pm_e_ctr, pm_e_go, pm_e_i, pm_e_ldr, pm_e_lk, pm_e_r, pm_e_rm0, pm_e_rm1, pm_e_rs0, pm_e_rs1, pm_e_wp0, pm_e_wp1, pm_f2, pm_f3, pm_fld, pm_fv, pm_obj, pm_recv, pm_s_aload_n, pm_s_getfield, pm_s_goto, pm_s_iconst, pm_s_ifCond_eq, pm_s_invokevirtual, pm_s_ireturn, ct_X6_redo, pS, pR, pC, pE, pL, -Int32.not_le, -Int32.not_lt, -Int64.not_le, -Int64.not_lt, -List.getD_eq_getElem?_getD]
      exact hv
    refine hb0 _ _ _ ?_
    simp (maxSteps := 2000000) [bk_X6_redo_0, bk_X6_redo_18, bk_X6_redo_19, pm_call, pm_e_c0, pm_e_c1, pm_e_cti, pm_e_ctl, pm_e_ctr, pm_e_go, pm_e_i, pm_e_ldr, pm_e_lk, pm_e_r, pm_e_rm0, pm_e_rm1, pm_e_rs0, pm_e_rs1, pm_e_wp0, pm_e_wp1, pm_f2, pm_f3, pm_fld, pm_fv, pm_obj, pm_recv, pm_s_aload_n, pm_s_getfield, pm_s_goto, pm_s_iconst, pm_s_ifCond_eq, pm_s_invokevirtual, pm_s_ireturn, ct_X6_redo, pS, pR, pC, pE, pL, -Int32.not_le, -Int32.not_lt, -Int64.not_le, -Int64.not_lt, -List.getD_eq_getElem?_getD, lv_args, sx_0, sx_11]
    refine ⟨pE (aP A), aH A, aPr A, aLa A, aP A, hE, hS.2.2.1, hH, hD, hA.wfH, fun hp => ?_, fun hp M1 q1 q2 f1 => ?_⟩
    · simp (maxSteps := 2000000) [bk_X6_redo_0, bk_X6_redo_18, bk_X6_redo_19, pm_call, pm_e_c0, pm_e_c1, pm_e_cti, pm_e_ctl, pm_e_ctr, pm_e_go, pm_e_i, pm_e_ldr, pm_e_lk, pm_e_r, pm_e_rm0, pm_e_rm1, pm_e_rs0, pm_e_rs1, pm_e_wp0, pm_e_wp1, pm_f2, pm_f3, pm_fld, pm_fv, pm_obj, pm_recv, pm_s_aload_n, pm_s_getfield, pm_s_goto, pm_s_iconst, pm_s_ifCond_eq, pm_s_invokevirtual, pm_s_ireturn, ct_X6_redo, pS, pR, pC, pE, pL, -Int32.not_le, -Int32.not_lt, -Int64.not_le, -Int64.not_lt, -List.getD_eq_getElem?_getD]
      refine ⟨fun _ => ?_, fun h => absurd rfl h⟩
      refine hb18 _ _ _ ?_
      simp (maxSteps := 2000000) [bk_X6_redo_0, bk_X6_redo_18, bk_X6_redo_19, pm_call, pm_e_c0, pm_e_c1, pm_e_cti, pm_e_ctl, pm_e_ctr, pm_e_go, pm_e_i, pm_e_ldr, pm_e_lk, pm_e_r, pm_e_rm0, pm_e_rm1, pm_e_rs0, pm_e_rs1, pm_e_wp0, pm_e_wp1, pm_f2, pm_f3, pm_fld, pm_fv, pm_obj, pm_recv, pm_s_aload_n, pm_s_getfield, pm_s_goto, pm_s_iconst, pm_s_ifCond_eq, pm_s_invokevirtual, pm_s_ireturn, ct_X6_redo, pS, pR, pC, pE, pL, -Int32.not_le, -Int32.not_lt, -Int64.not_le, -Int64.not_lt, -List.getD_eq_getElem?_getD]
      rw [if_neg (by omega)] at hT
      exact h19 M _ (hT M hM)
    · simp (maxSteps := 2000000) [bk_X6_redo_0, bk_X6_redo_18, bk_X6_redo_19, pm_call, pm_e_c0, pm_e_c1, pm_e_cti, pm_e_ctl, pm_e_ctr, pm_e_go, pm_e_i, pm_e_ldr, pm_e_lk, pm_e_r, pm_e_rm0, pm_e_rm1, pm_e_rs0, pm_e_rs1, pm_e_wp0, pm_e_wp1, pm_f2, pm_f3, pm_fld, pm_fv, pm_obj, pm_recv, pm_s_aload_n, pm_s_getfield, pm_s_goto, pm_s_iconst, pm_s_ifCond_eq, pm_s_invokevirtual, pm_s_ireturn, ct_X6_redo, pS, pR, pC, pE, pL, -Int32.not_le, -Int32.not_lt, -Int64.not_le, -Int64.not_lt, -List.getD_eq_getElem?_getD]
      refine ⟨fun h => absurd h (by decide), fun _ => ?_⟩
      rw [if_pos hp] at hT
      exact h19 M1 _ (hT M1 ⟨hD.moved f1 (by decide), q2, q1, hL.mv f1 (by decide), by rw [f1.i (by decide)]; exact hW, by rw [f1.i (by decide)]; exact hQ, hPl.mv f1 (by decide) (by decide), trs_mv hTr f1 (by decide)⟩)
  · exact hT.elim
def tt_X6_move : pm_T := fun args M k => match args with
  | [.ref 0, .int x, .int y] => ∃ A, okA A ∧ MX M A ∧ ∀ M', MX M' (fMove A x y).2 → k (some (.int (fMove A x y).1)) M'
  | _ => False
abbrev ct_X6_move : List pm_C := [(false, 116, 4, 3, (some .boolean), tt_X4_isNamed), (false, 119, 6, 1, (some .boolean), tt_X6_allLaid), (false, 123, 4, 3, (some .int), tt_X4_whyNot), (false, 129, 4, 3, (some .int), tt_X4_shift), (false, 132, 1, 2, none, tt_X1_keep)]
set_option maxHeartbeats 4000000 in
theorem sm_X6_move  : pm_Sem SHx yX6_move cX6_move 3 (some .int) 5 tt_X6_move := by
  refine pm_Sem_intro bl_X6_move ct_X6_move cs_X6_move rfl (List.forall_mem_cons.mpr ⟨⟨_, _, _, _, sm_X4_isNamed, by decide, cm_X4_isNamed, by decide +kernel⟩, List.forall_mem_cons.mpr ⟨⟨_, _, _, _, sm_X6_allLaid, by decide, cm_X6_allLaid, by decide +kernel⟩, List.forall_mem_cons.mpr ⟨⟨_, _, _, _, sm_X4_whyNot, by decide, cm_X4_whyNot, by decide +kernel⟩, List.forall_mem_cons.mpr ⟨⟨_, _, _, _, sm_X4_shift, by decide, cm_X4_shift, by decide +kernel⟩, List.forall_mem_cons.mpr ⟨⟨_, _, _, _, sm_X1_keep, by decide, cm_X1_keep, by decide +kernel⟩, fun _ h => absurd h List.not_mem_nil⟩⟩⟩⟩⟩) ck_X6_move (by decide +kernel) (by decide) ?_
  intro X k hX args M hT
  have hb0 := hX 0 bk_X6_move_0 (List.mem_of_getElem? (i := 0) rfl)
  have hb15 := hX 15 bk_X6_move_15 (List.mem_of_getElem? (i := 1) rfl)
  have hb25 := hX 25 bk_X6_move_25 (List.mem_of_getElem? (i := 2) rfl)
  have hb47 := hX 47 bk_X6_move_47 (List.mem_of_getElem? (i := 3) rfl)
  clear hX
  unfold tt_X6_move at hT; split at hT
  · next x y =>
    obtain ⟨A, hA, hM, hT⟩ := hT
    obtain ⟨hD, hS, hH, hL, hW, hQ, hPl, hTr⟩ := id hM
    have hP := hA.1
    have hE := hP.2.2.2.2.2.2.2.1
    have m5 := hD.1.2.1.2.2.1
    have c6 := hS.2.2.1
    have hal := al_eq hA hM
    unfold fMove at hT
    refine ⟨by simp [lg_sl, Value.category], ?_⟩
    refine hb0 _ _ _ ?_
    simp (maxSteps := 2000000) [bk_X6_move_0, bk_X6_move_15, bk_X6_move_25, bk_X6_move_47, pm_call, pm_e_c0, pm_e_c1, pm_e_cti, pm_e_ctl, pm_e_ctr, pm_e_go, pm_e_i, pm_e_ldi, pm_e_ldr, pm_e_lk, pm_e_r, pm_e_rm0, pm_e_rm1, pm_e_rs0, pm_e_rs1, pm_e_v1, pm_e_wp0, pm_e_wp1, pm_f2, pm_f3, pm_fld, pm_fv, pm_obj, pm_recv, pm_s_aload_n, pm_s_bipush, pm_s_getfield, pm_s_iconst, pm_s_ifCond_eq, pm_s_ifCond_ne, pm_s_iload_n, pm_s_invokevirtual, pm_s_ireturn, pm_s_pop, pm_s_putfield, ct_X6_move, tt_X6_allLaid, pS, pR, pC, pE, pL, -Int32.not_le, -Int32.not_lt, -Int64.not_le, -Int64.not_lt, -List.getD_eq_getElem?_getD, lv_args, sx_0, sx_5]
    refine ⟨Or.inl rfl, ?_⟩
    rw [m5, c6]
    simp (maxSteps := 2000000) [bk_X6_move_0, bk_X6_move_15, bk_X6_move_25, bk_X6_move_47, pm_call, pm_e_c0, pm_e_c1, pm_e_cti, pm_e_ctl, pm_e_ctr, pm_e_go, pm_e_i, pm_e_ldi, pm_e_ldr, pm_e_lk, pm_e_r, pm_e_rm0, pm_e_rm1, pm_e_rs0, pm_e_rs1, pm_e_v1, pm_e_wp0, pm_e_wp1, pm_f2, pm_f3, pm_fld, pm_fv, pm_obj, pm_recv, pm_s_aload_n, pm_s_bipush, pm_s_getfield, pm_s_iconst, pm_s_ifCond_eq, pm_s_ifCond_ne, pm_s_iload_n, pm_s_invokevirtual, pm_s_ireturn, pm_s_pop, pm_s_putfield, ct_X6_move, tt_X6_allLaid, pS, pR, pC, pE, pL, -Int32.not_le, -Int32.not_lt, -Int64.not_le, -Int64.not_lt, -List.getD_eq_getElem?_getD, pb_eq0]
    refine ⟨fun hn => ?_, fun hn => ?_⟩
    · rw [if_pos hn] at hT
      obtain ⟨x1, x2, y1, y2, hnn⟩ := nmF_tn hP hE hn
      refine hb15 _ _ _ ?_
      simp (maxSteps := 2000000) [bk_X6_move_0, bk_X6_move_15, bk_X6_move_25, bk_X6_move_47, pm_call, pm_e_c0, pm_e_c1, pm_e_cti, pm_e_ctl, pm_e_ctr, pm_e_go, pm_e_i, pm_e_ldi, pm_e_ldr, pm_e_lk, pm_e_r, pm_e_rm0, pm_e_rm1, pm_e_rs0, pm_e_rs1, pm_e_v1, pm_e_wp0, pm_e_wp1, pm_f2, pm_f3, pm_fld, pm_fv, pm_obj, pm_recv, pm_s_aload_n, pm_s_bipush, pm_s_getfield, pm_s_iconst, pm_s_ifCond_eq, pm_s_ifCond_ne, pm_s_iload_n, pm_s_invokevirtual, pm_s_ireturn, pm_s_pop, pm_s_putfield, ct_X6_move, tt_X6_allLaid, pS, pR, pC, pE, pL, -Int32.not_le, -Int32.not_lt, -Int64.not_le, -Int64.not_lt, -List.getD_eq_getElem?_getD, sx_0, sx_1, hal, pb_eq0]
      refine ⟨fun hl => ?_, fun hl => ?_⟩
      · rw [if_pos hl] at hT
        have hfw := hA.fw hl
        have hwl := whyF_le (aP A) (pE (aP A)) (aS A) (tn x) (tn y)
        refine hb25 _ _ _ ?_
        simp (maxSteps := 2000000) [bk_X6_move_0, bk_X6_move_15, bk_X6_move_25, bk_X6_move_47, pm_call, pm_e_c0, pm_e_c1, pm_e_cti, pm_e_ctl, pm_e_ctr, pm_e_go, pm_e_i, pm_e_ldi, pm_e_ldr, pm_e_lk, pm_e_r, pm_e_rm0, pm_e_rm1, pm_e_rs0, pm_e_rs1, pm_e_v1, pm_e_wp0, pm_e_wp1, pm_f2, pm_f3, pm_fld, pm_fv, pm_obj, pm_recv, pm_s_aload_n, pm_s_bipush, pm_s_getfield, pm_s_iconst, pm_s_ifCond_eq, pm_s_ifCond_ne, pm_s_iload_n, pm_s_invokevirtual, pm_s_ireturn, pm_s_pop, pm_s_putfield, ct_X6_move, tt_X6_allLaid, pS, pR, pC, pE, pL, -Int32.not_le, -Int32.not_lt, -Int64.not_le, -Int64.not_lt, -List.getD_eq_getElem?_getD, sx_0, sx_5]
        refine ⟨pE (aP A), aS A, aP A, tn x, tn y, Or.inl rfl, x1, y1, hS, hD, hfw.inDk, x2, y2, ?_⟩
        have f1 : pm_fr [0] M (pm_set M 0 8 (nI (whyF (aP A) (pE (aP A)) (aS A) (tn x) (tn y)))) := pm_fr.rfl.set (by decide)
        have e8 : (pm_set M 0 8 (nI (whyF (aP A) (pE (aP A)) (aS A) (tn x) (tn y)))).1 0 8 = nI (whyF (aP A) (pE (aP A)) (aS A) (tn x) (tn y)) := by rw [me_1s, if_pos rfl]
        have e7 : (pm_set M 0 8 (nI (whyF (aP A) (pE (aP A)) (aS A) (tn x) (tn y)))).1 0 7 = M.1 0 7 := by rw [me_1s, if_neg (by decide)]
        have e9 : (pm_set M 0 8 (nI (whyF (aP A) (pE (aP A)) (aS A) (tn x) (tn y)))).1 0 9 = M.1 0 9 := by rw [me_1s, if_neg (by decide)]
        simp (maxSteps := 2000000) [bk_X6_move_0, bk_X6_move_15, bk_X6_move_25, bk_X6_move_47, pm_call, pm_e_c0, pm_e_c1, pm_e_cti, pm_e_ctl, pm_e_ctr, pm_e_go, pm_e_i, pm_e_ldi, pm_e_ldr, pm_e_lk, pm_e_r, pm_e_rm0, pm_e_rm1, pm_e_rs0, pm_e_rs1, pm_e_v1, pm_e_wp0, pm_e_wp1, pm_f2, pm_f3, pm_fld, pm_fv, pm_obj, pm_recv, pm_s_aload_n, pm_s_bipush, pm_s_getfield, pm_s_iconst, pm_s_ifCond_eq, pm_s_ifCond_ne, pm_s_iload_n, pm_s_invokevirtual, pm_s_ireturn, pm_s_pop, pm_s_putfield, ct_X6_move, tt_X6_allLaid, pS, pR, pC, pE, pL, -Int32.not_le, -Int32.not_lt, -Int64.not_le, -Int64.not_lt, -List.getD_eq_getElem?_getD, sx_0]
        generalize pm_set M 0 8 (nI (whyF (aP A) (pE (aP A)) (aS A) (tn x) (tn y))) = M1 at *
        rw [e8]
        simp (disch := omega) only [ni_in, ni_cl, ni_add, ni_mul, ni_sub, ni_lt, ni_le, ni_eq, ni_eq0, ni_lt0, ni_0le, ni_0lt, ni_le0, ni_a1, ni_a3, ni_a7, ni_a15]
        refine ⟨fun hw => ?_, fun hw => ?_⟩
        · rw [if_pos hw] at hT
          rw [hw] at e8
          have hcan : canN (aP A) (pE (aP A)) (aS A) (tn x) (tn y) = true := by unfold canN; rw [hnn, hw]; rfl
          have hmv := hfw.mvK hP hE y2 hcan
          have hwf := WF.mv hP hE hfw y2 hcan
          refine hb47 _ _ _ ?_
          simp (maxSteps := 2000000) [bk_X6_move_0, bk_X6_move_15, bk_X6_move_25, bk_X6_move_47, pm_call, pm_e_c0, pm_e_c1, pm_e_cti, pm_e_ctl, pm_e_ctr, pm_e_go, pm_e_i, pm_e_ldi, pm_e_ldr, pm_e_lk, pm_e_r, pm_e_rm0, pm_e_rm1, pm_e_rs0, pm_e_rs1, pm_e_v1, pm_e_wp0, pm_e_wp1, pm_f2, pm_f3, pm_fld, pm_fv, pm_obj, pm_recv, pm_s_aload_n, pm_s_bipush, pm_s_getfield, pm_s_iconst, pm_s_ifCond_eq, pm_s_ifCond_ne, pm_s_iload_n, pm_s_invokevirtual, pm_s_ireturn, pm_s_pop, pm_s_putfield, ct_X6_move, tt_X6_allLaid, pS, pR, pC, pE, pL, -Int32.not_le, -Int32.not_lt, -Int64.not_le, -Int64.not_lt, -List.getD_eq_getElem?_getD, sx_0, sx_5]
          refine ⟨pE (aP A), aS A, aP A, tn x, tn y, Or.inl rfl, x1, y1, hS.moved f1 (by decide), hD.moved f1 (by decide), hfw.inDk, x2, y2, hmv.2.2.1, hmv.2.2.2.1, hmv.2.2.2.2.1, hmv.2.2.2.2.2.1, fun M2 s2 f2 => ?_⟩
          have f2' : pm_fr [5, 6, 7, 8, 9, 10] M1 M2 := f2
          have g2 : pm_fr [0, 5, 6, 7, 8, 9, 10] M M2 := (f1.mono (by decide)).trans (f2'.mono (by decide))
          simp (maxSteps := 2000000) [bk_X6_move_0, bk_X6_move_15, bk_X6_move_25, bk_X6_move_47, pm_call, pm_e_c0, pm_e_c1, pm_e_cti, pm_e_ctl, pm_e_ctr, pm_e_go, pm_e_i, pm_e_ldi, pm_e_ldr, pm_e_lk, pm_e_r, pm_e_rm0, pm_e_rm1, pm_e_rs0, pm_e_rs1, pm_e_v1, pm_e_wp0, pm_e_wp1, pm_f2, pm_f3, pm_fld, pm_fv, pm_obj, pm_recv, pm_s_aload_n, pm_s_bipush, pm_s_getfield, pm_s_iconst, pm_s_ifCond_eq, pm_s_ifCond_ne, pm_s_iload_n, pm_s_invokevirtual, pm_s_ireturn, pm_s_pop, pm_s_putfield, ct_X6_move, tt_X6_allLaid, pS, pR, pC, pE, pL, -Int32.not_le, -Int32.not_lt, -Int64.not_le, -Int64.not_lt, -List.getD_eq_getElem?_getD, sx_0, sx_5, sx_11, Value.category]
          refine ⟨pE (aP A), _, aH A, aPr A, aLa A, s2, hwf.t12 hP, hH.mv g2 (by decide), fun M3 h3 f3 => ?_⟩
          simp (maxSteps := 2000000) [bk_X6_move_0, bk_X6_move_15, bk_X6_move_25, bk_X6_move_47, pm_call, pm_e_c0, pm_e_c1, pm_e_cti, pm_e_ctl, pm_e_ctr, pm_e_go, pm_e_i, pm_e_ldi, pm_e_ldr, pm_e_lk, pm_e_r, pm_e_rm0, pm_e_rm1, pm_e_rs0, pm_e_rs1, pm_e_v1, pm_e_wp0, pm_e_wp1, pm_f2, pm_f3, pm_fld, pm_fv, pm_obj, pm_recv, pm_s_aload_n, pm_s_bipush, pm_s_getfield, pm_s_iconst, pm_s_ifCond_eq, pm_s_ifCond_ne, pm_s_iload_n, pm_s_invokevirtual, pm_s_ireturn, pm_s_pop, pm_s_putfield, ct_X6_move, tt_X6_allLaid, pS, pR, pC, pE, pL, -Int32.not_le, -Int32.not_lt, -Int64.not_le, -Int64.not_lt, -List.getD_eq_getElem?_getD]
          refine hT M3 ⟨(hD.moved g2 (by decide)).moved f3 (by decide), s2.mv f3 (by decide), h3, ?_, ?_, ?_, (hPl.mv g2 (by decide) (by decide)).mv f3 (by decide) (by decide), trs_mv (trs_mv hTr g2 (by decide)) f3 (by decide)⟩
          · exact ((hL.eq e7).mv f2' (by decide)).mv f3 (by decide)
          · rw [f3.i (by decide), f2'.i (by decide)]; exact e8
          · rw [f3.i (by decide), f2'.i (by decide), e9]; exact hQ
        · rw [if_neg hw] at hT
          exact hT M1 ⟨hD.moved f1 (by decide), hS.moved f1 (by decide), hH.mv f1 (by decide), hL.eq e7, e8, by rw [e9]; exact hQ, hPl.mv f1 (by decide) (by decide), trs_mv hTr f1 (by decide)⟩
      · rw [if_neg (by simp [hl])] at hT
        exact hT M hM
    · rw [if_neg (by simp [hn])] at hT
      exact hT M hM
  · exact hT.elim
