/-! THE DESK's CALLS -/
def tt_X6_begin : pm_T := fun args M k => match args with
  | [.ref 0, .int s, .int r, .int c, .int e, .int l] => ∃ A, okA A ∧ MX M A ∧ ∀ M', MX M' (fBegin A s r c e l).2 → k (some (.int (fBegin A s r c e l).1)) M'
  | _ => False
abbrev ct_X6_begin : List pm_C := [(true, 64, 6, 3, (some .boolean), tt_X6_isWithin), (false, 57, 0, 6, none, tt_X0_choose), (false, 61, 6, 1, none, tt_X6_emptyTable), (false, 68, 0, 1, (some .int), tt_X0_size)]
set_option maxHeartbeats 4000000 in
theorem sm_X6_begin  : pm_Sem SHx yX6_begin cX6_begin 8 (some .int) 6 tt_X6_begin := by
  refine pm_Sem_intro bl_X6_begin ct_X6_begin cs_X6_begin rfl (List.forall_mem_cons.mpr ⟨⟨_, _, _, _, sm_X6_isWithin, by decide, cm_X6_isWithin, by decide +kernel⟩, List.forall_mem_cons.mpr ⟨⟨_, _, _, _, sm_X0_choose, by decide, cm_X0_choose, by decide +kernel⟩, List.forall_mem_cons.mpr ⟨⟨_, _, _, _, sm_X6_emptyTable, by decide, cm_X6_emptyTable, by decide +kernel⟩, List.forall_mem_cons.mpr ⟨⟨_, _, _, _, sm_X0_size, by decide, cm_X0_size, by decide +kernel⟩, fun _ h => absurd h List.not_mem_nil⟩⟩⟩⟩) ck_X6_begin (by decide +kernel) (by decide) ?_
  intro X k hX args M hT
  have hb0 := hX 0 bk_X6_begin_0 (List.mem_of_getElem? (i := 0) rfl)
  have hb31 := hX 31 bk_X6_begin_31 (List.mem_of_getElem? (i := 1) rfl)
  have hb32 := hX 32 bk_X6_begin_32 (List.mem_of_getElem? (i := 2) rfl)
  have hb57 := hX 57 bk_X6_begin_57 (List.mem_of_getElem? (i := 3) rfl)
  have hb58 := hX 58 bk_X6_begin_58 (List.mem_of_getElem? (i := 4) rfl)
  have hb80 := hX 80 bk_X6_begin_80 (List.mem_of_getElem? (i := 5) rfl)
  have hb83 := hX 83 bk_X6_begin_83 (List.mem_of_getElem? (i := 6) rfl)
  clear hX
  unfold tt_X6_begin at hT; split at hT
  · next s r c e l =>
    obtain ⟨A, hA, hM, hT⟩ := hT
    refine ⟨by simp [lg_sl, Value.category], ?_⟩
    have bad : ((wi s (nI 1) (nI 4) && wi r (nI 1) (nI 6) && !decide (nI 12 < s * r)) && (wi c (nI 1) (nI 4) && wi e (nI 0) (nI 2)) && wi l (nI 0) (nI 4)) = false → X 80 [] [] M := by
      intro hf
      refine hb80 _ _ _ ?_
      simp (maxSteps := 2000000) [bk_X6_begin_0, bk_X6_begin_31, bk_X6_begin_32, bk_X6_begin_57, bk_X6_begin_58, bk_X6_begin_80, bk_X6_begin_83, pm_call, pm_e_c0, pm_e_c1, pm_e_cti, pm_e_ctl, pm_e_ctr, pm_e_go, pm_e_i, pm_e_ii, pm_e_ldi, pm_e_ldr, pm_e_lk, pm_e_r, pm_e_rm0, pm_e_rm1, pm_e_rs0, pm_e_rs1, pm_e_wp0, pm_e_wp1, pm_f2, pm_f3, pm_fld, pm_fv, pm_obj, pm_recv, pm_s_aload_n, pm_s_bipush, pm_s_getfield, pm_s_goto, pm_s_iconst, pm_s_ifCond_eq, pm_s_ifCond_ne, pm_s_if_icmp_gt, pm_s_iload, pm_s_iload_n, pm_s_imul, pm_s_invokestatic, pm_s_invokevirtual, pm_s_ireturn, pm_s_istore, ct_X6_begin, tt_X6_isWithin, tt_X0_size, pS, pR, pC, pE, pL, -Int32.not_le, -Int32.not_lt, -Int64.not_le, -Int64.not_lt, -List.getD_eq_getElem?_getD]
      unfold fBegin at hT
      rw [hf] at hT
      exact hT M hM
    have good : ((wi s (nI 1) (nI 4) && wi r (nI 1) (nI 6) && !decide (nI 12 < s * r)) && (wi c (nI 1) (nI 4) && wi e (nI 0) (nI 2)) && wi l (nI 0) (nI 4)) = true → X 83 [(0, .ref 0), (1, .int s), (2, .int r), (3, .int c), (4, .int e), (5, .int l)] [] M := by
      intro hf
      have hok := hA.begin s r c e l
      unfold fBegin at hT hok
      rw [hf] at hT hok
      simp only [if_true] at hT hok
      simp only [Bool.and_eq_true, Bool.not_eq_true', decide_eq_false_iff_not] at hf
      obtain ⟨⟨⟨⟨q1, q2⟩, q3⟩, q4, q5⟩, q6⟩ := hf
      obtain ⟨s1, s2, s3⟩ := wi_tn (by decide) (by decide) q1
      obtain ⟨r1, r2, r3⟩ := wi_tn (by decide) (by decide) q2
      obtain ⟨c1, c2, c3⟩ := wi_tn (by decide) (by decide) q4
      obtain ⟨e1, e2, e3⟩ := wi_tn (by decide) (by decide) q5
      obtain ⟨l1, l2, l3⟩ := wi_tn (by decide) (by decide) q6
      refine hb83 _ _ _ ?_
      simp (maxSteps := 2000000) [bk_X6_begin_0, bk_X6_begin_31, bk_X6_begin_32, bk_X6_begin_57, bk_X6_begin_58, bk_X6_begin_80, bk_X6_begin_83, pm_call, pm_e_c0, pm_e_c1, pm_e_cti, pm_e_ctl, pm_e_ctr, pm_e_go, pm_e_i, pm_e_ii, pm_e_ldi, pm_e_ldr, pm_e_lk, pm_e_r, pm_e_rm0, pm_e_rm1, pm_e_rs0, pm_e_rs1, pm_e_wp0, pm_e_wp1, pm_f2, pm_f3, pm_fld, pm_fv, pm_obj, pm_recv, pm_s_aload_n, pm_s_bipush, pm_s_getfield, pm_s_goto, pm_s_iconst, pm_s_ifCond_eq, pm_s_ifCond_ne, pm_s_if_icmp_gt, pm_s_iload, pm_s_iload_n, pm_s_imul, pm_s_invokestatic, pm_s_invokevirtual, pm_s_ireturn, pm_s_istore, ct_X6_begin, tt_X6_isWithin, tt_X0_size, pS, pR, pC, pE, pL, -Int32.not_le, -Int32.not_lt, -Int64.not_le, -Int64.not_lt, -List.getD_eq_getElem?_getD, sx_0, sx_1]
      refine ⟨(tn s, tn r, tn c, tn e, tn l), s1, r1, c1, e1, l1, hok.1, fun M1 d1 f1 => ?_⟩
      simp (maxSteps := 2000000) [bk_X6_begin_0, bk_X6_begin_31, bk_X6_begin_32, bk_X6_begin_57, bk_X6_begin_58, bk_X6_begin_80, bk_X6_begin_83, pm_call, pm_e_c0, pm_e_c1, pm_e_cti, pm_e_ctl, pm_e_ctr, pm_e_go, pm_e_i, pm_e_ii, pm_e_ldi, pm_e_ldr, pm_e_lk, pm_e_r, pm_e_rm0, pm_e_rm1, pm_e_rs0, pm_e_rs1, pm_e_wp0, pm_e_wp1, pm_f2, pm_f3, pm_fld, pm_fv, pm_obj, pm_recv, pm_s_aload_n, pm_s_bipush, pm_s_getfield, pm_s_goto, pm_s_iconst, pm_s_ifCond_eq, pm_s_ifCond_ne, pm_s_if_icmp_gt, pm_s_iload, pm_s_iload_n, pm_s_imul, pm_s_invokestatic, pm_s_invokevirtual, pm_s_ireturn, pm_s_istore, ct_X6_begin, tt_X6_isWithin, tt_X0_size, pS, pR, pC, pE, pL, -Int32.not_le, -Int32.not_lt, -Int64.not_le, -Int64.not_lt, -List.getD_eq_getElem?_getD, sx_0, sx_1]
      refine ⟨(tn s, tn r, tn c, tn e, tn l), d1, fun M2 q1 q2 q3 q4 q5 q6 f2 => ?_⟩
      have d2 := d1.moved f2 (by decide)
      have g1 := d2.1.2.1.1
      have g2 := d2.1.2.1.2.1
      simp (maxSteps := 2000000) [bk_X6_begin_0, bk_X6_begin_31, bk_X6_begin_32, bk_X6_begin_57, bk_X6_begin_58, bk_X6_begin_80, bk_X6_begin_83, pm_call, pm_e_c0, pm_e_c1, pm_e_cti, pm_e_ctl, pm_e_ctr, pm_e_go, pm_e_i, pm_e_ii, pm_e_ldi, pm_e_ldr, pm_e_lk, pm_e_r, pm_e_rm0, pm_e_rm1, pm_e_rs0, pm_e_rs1, pm_e_wp0, pm_e_wp1, pm_f2, pm_f3, pm_fld, pm_fv, pm_obj, pm_recv, pm_s_aload_n, pm_s_bipush, pm_s_getfield, pm_s_goto, pm_s_iconst, pm_s_ifCond_eq, pm_s_ifCond_ne, pm_s_if_icmp_gt, pm_s_iload, pm_s_iload_n, pm_s_imul, pm_s_invokestatic, pm_s_invokevirtual, pm_s_ireturn, pm_s_istore, ct_X6_begin, tt_X6_isWithin, tt_X0_size, pS, pR, pC, pE, pL, -Int32.not_le, -Int32.not_lt, -Int64.not_le, -Int64.not_lt, -List.getD_eq_getElem?_getD, sx_0, sx_1, g1, g2]
      rw [ni_mul]
      refine hT M2 ⟨d2, q1, q2, LdX.no q3, q4, ?_, PlX.nil q5, trs_mv (trs_mv hM.2.2.2.2.2.2.2 f1 (by decide)) f2 (by decide)⟩
      rw [q6, f1.i (by decide)]; exact hM.2.2.2.2.2.1
    have h58 : ∀ a b : Bool, a = (wi s (nI 1) (nI 4) && wi r (nI 1) (nI 6) && !decide (nI 12 < s * r)) → b = (wi c (nI 1) (nI 4) && wi e (nI 0) (nI 2)) → X 58 [(0, .ref 0), (1, .int s), (2, .int r), (3, .int c), (4, .int e), (5, .int l), (6, .int (pb a))] [.int (pb b)] M := by
      intro a b ea eb
      rw [← ea, ← eb] at bad good
      refine hb58 _ _ _ ?_
      simp (maxSteps := 2000000) [bk_X6_begin_0, bk_X6_begin_31, bk_X6_begin_32, bk_X6_begin_57, bk_X6_begin_58, bk_X6_begin_80, bk_X6_begin_83, pm_call, pm_e_c0, pm_e_c1, pm_e_cti, pm_e_ctl, pm_e_ctr, pm_e_go, pm_e_i, pm_e_ii, pm_e_ldi, pm_e_ldr, pm_e_lk, pm_e_r, pm_e_rm0, pm_e_rm1, pm_e_rs0, pm_e_rs1, pm_e_wp0, pm_e_wp1, pm_f2, pm_f3, pm_fld, pm_fv, pm_obj, pm_recv, pm_s_aload_n, pm_s_bipush, pm_s_getfield, pm_s_goto, pm_s_iconst, pm_s_ifCond_eq, pm_s_ifCond_ne, pm_s_if_icmp_gt, pm_s_iload, pm_s_iload_n, pm_s_imul, pm_s_invokestatic, pm_s_invokevirtual, pm_s_ireturn, pm_s_istore, ct_X6_begin, tt_X6_isWithin, tt_X0_size, pS, pR, pC, pE, pL, -Int32.not_le, -Int32.not_lt, -Int64.not_le, -Int64.not_lt, -List.getD_eq_getElem?_getD, pb_eq0]
      refine ⟨fun h => bad (by rw [h]; simp), fun h => ⟨fun h2 => bad (by rw [h2]; simp), fun h2 => ⟨fun h3 => good (by rw [h, h2, h3]; rfl), fun h3 => bad (by rw [h3]; simp)⟩⟩⟩
    have h32 : ∀ a : Bool, a = (wi s (nI 1) (nI 4) && wi r (nI 1) (nI 6) && !decide (nI 12 < s * r)) → X 32 [(0, .ref 0), (1, .int s), (2, .int r), (3, .int c), (4, .int e), (5, .int l)] [.int (pb a)] M := by
      intro a ea
      have h57 : (wi c (nI 1) (nI 4) && wi e (nI 0) (nI 2)) = false → X 57 [(0, .ref 0), (1, .int s), (2, .int r), (3, .int c), (4, .int e), (5, .int l), (6, .int (pb a))] [] M := by
        intro hf
        refine hb57 _ _ _ ?_
        simp (maxSteps := 2000000) [bk_X6_begin_0, bk_X6_begin_31, bk_X6_begin_32, bk_X6_begin_57, bk_X6_begin_58, bk_X6_begin_80, bk_X6_begin_83, pm_call, pm_e_c0, pm_e_c1, pm_e_cti, pm_e_ctl, pm_e_ctr, pm_e_go, pm_e_i, pm_e_ii, pm_e_ldi, pm_e_ldr, pm_e_lk, pm_e_r, pm_e_rm0, pm_e_rm1, pm_e_rs0, pm_e_rs1, pm_e_wp0, pm_e_wp1, pm_f2, pm_f3, pm_fld, pm_fv, pm_obj, pm_recv, pm_s_aload_n, pm_s_bipush, pm_s_getfield, pm_s_goto, pm_s_iconst, pm_s_ifCond_eq, pm_s_ifCond_ne, pm_s_if_icmp_gt, pm_s_iload, pm_s_iload_n, pm_s_imul, pm_s_invokestatic, pm_s_invokevirtual, pm_s_ireturn, pm_s_istore, ct_X6_begin, tt_X6_isWithin, tt_X0_size, pS, pR, pC, pE, pL, -Int32.not_le, -Int32.not_lt, -Int64.not_le, -Int64.not_lt, -List.getD_eq_getElem?_getD]
        exact h58 a false ea hf.symm
      refine hb32 _ _ _ ?_
      simp (maxSteps := 2000000) [bk_X6_begin_0, bk_X6_begin_31, bk_X6_begin_32, bk_X6_begin_57, bk_X6_begin_58, bk_X6_begin_80, bk_X6_begin_83, pm_call, pm_e_c0, pm_e_c1, pm_e_cti, pm_e_ctl, pm_e_ctr, pm_e_go, pm_e_i, pm_e_ii, pm_e_ldi, pm_e_ldr, pm_e_lk, pm_e_r, pm_e_rm0, pm_e_rm1, pm_e_rs0, pm_e_rs1, pm_e_wp0, pm_e_wp1, pm_f2, pm_f3, pm_fld, pm_fv, pm_obj, pm_recv, pm_s_aload_n, pm_s_bipush, pm_s_getfield, pm_s_goto, pm_s_iconst, pm_s_ifCond_eq, pm_s_ifCond_ne, pm_s_if_icmp_gt, pm_s_iload, pm_s_iload_n, pm_s_imul, pm_s_invokestatic, pm_s_invokevirtual, pm_s_ireturn, pm_s_istore, ct_X6_begin, tt_X6_isWithin, tt_X0_size, pS, pR, pC, pE, pL, -Int32.not_le, -Int32.not_lt, -Int64.not_le, -Int64.not_lt, -List.getD_eq_getElem?_getD, pb_eq0]
      refine ⟨fun h => h57 (by rw [h]; rfl), fun h => ⟨fun h2 => h57 (by rw [h2, Bool.and_false]), fun h2 => h58 a true ea (by rw [h, h2]; rfl)⟩⟩
    have h31 : (wi s (nI 1) (nI 4) && wi r (nI 1) (nI 6) && !decide (nI 12 < s * r)) = false → X 31 [(0, .ref 0), (1, .int s), (2, .int r), (3, .int c), (4, .int e), (5, .int l)] [] M := by
      intro hf
      refine hb31 _ _ _ ?_
      simp (maxSteps := 2000000) [bk_X6_begin_0, bk_X6_begin_31, bk_X6_begin_32, bk_X6_begin_57, bk_X6_begin_58, bk_X6_begin_80, bk_X6_begin_83, pm_call, pm_e_c0, pm_e_c1, pm_e_cti, pm_e_ctl, pm_e_ctr, pm_e_go, pm_e_i, pm_e_ii, pm_e_ldi, pm_e_ldr, pm_e_lk, pm_e_r, pm_e_rm0, pm_e_rm1, pm_e_rs0, pm_e_rs1, pm_e_wp0, pm_e_wp1, pm_f2, pm_f3, pm_fld, pm_fv, pm_obj, pm_recv, pm_s_aload_n, pm_s_bipush, pm_s_getfield, pm_s_goto, pm_s_iconst, pm_s_ifCond_eq, pm_s_ifCond_ne, pm_s_if_icmp_gt, pm_s_iload, pm_s_iload_n, pm_s_imul, pm_s_invokestatic, pm_s_invokevirtual, pm_s_ireturn, pm_s_istore, ct_X6_begin, tt_X6_isWithin, tt_X0_size, pS, pR, pC, pE, pL, -Int32.not_le, -Int32.not_lt, -Int64.not_le, -Int64.not_lt, -List.getD_eq_getElem?_getD]
      exact h32 false hf.symm
    refine hb0 _ _ _ ?_
    simp (maxSteps := 2000000) [bk_X6_begin_0, bk_X6_begin_31, bk_X6_begin_32, bk_X6_begin_57, bk_X6_begin_58, bk_X6_begin_80, bk_X6_begin_83, pm_call, pm_e_c0, pm_e_c1, pm_e_cti, pm_e_ctl, pm_e_ctr, pm_e_go, pm_e_i, pm_e_ii, pm_e_ldi, pm_e_ldr, pm_e_lk, pm_e_r, pm_e_rm0, pm_e_rm1, pm_e_rs0, pm_e_rs1, pm_e_wp0, pm_e_wp1, pm_f2, pm_f3, pm_fld, pm_fv, pm_obj, pm_recv, pm_s_aload_n, pm_s_bipush, pm_s_getfield, pm_s_goto, pm_s_iconst, pm_s_ifCond_eq, pm_s_ifCond_ne, pm_s_if_icmp_gt, pm_s_iload, pm_s_iload_n, pm_s_imul, pm_s_invokestatic, pm_s_invokevirtual, pm_s_ireturn, pm_s_istore, ct_X6_begin, tt_X6_isWithin, tt_X0_size, pS, pR, pC, pE, pL, -Int32.not_le, -Int32.not_lt, -Int64.not_le, -Int64.not_lt, -List.getD_eq_getElem?_getD, lv_args, pb_eq0]
    refine ⟨fun h => h31 (by rw [h]; rfl), fun h => ⟨fun h2 => h31 (by rw [h2, Bool.and_false]; rfl), fun h2 => ⟨fun h3 => h31 (by rw [decide_eq_true h3]; simp), fun h3 => h32 true ?_⟩⟩⟩
    rw [h, h2, decide_eq_false h3]; rfl
  · exact hT.elim
def tt_X6_lay : pm_T := fun args M k => match args with
  | [.ref 0, .int x, .int y, .int z] => ∃ A, okA A ∧ MX M A ∧ ∀ M', MX M' (fLay A x y z).2 → k (some (.int (fLay A x y z).1)) M'
  | _ => False
abbrev ct_X6_lay : List pm_C := [(false, 72, 6, 2, (some .boolean), tt_X6_isColumn), (false, 76, 0, 3, (some .boolean), tt_X0_has), (false, 80, 0, 3, (some .int), tt_X0_cardOf), (false, 88, 4, 3, none, tt_X4_push), (false, 92, 1, 2, none, tt_X1_restart), (true, 96, 0, 1, (some .int), tt_J6_bitCount_0f7a4)]
set_option maxHeartbeats 4000000 in
theorem sm_X6_lay  : pm_Sem SHx yX6_lay cX6_lay 5 (some .int) 5 tt_X6_lay := by
  refine pm_Sem_intro bl_X6_lay ct_X6_lay cs_X6_lay rfl (List.forall_mem_cons.mpr ⟨⟨_, _, _, _, sm_X6_isColumn, by decide, cm_X6_isColumn, by decide +kernel⟩, List.forall_mem_cons.mpr ⟨⟨_, _, _, _, sm_X0_has, by decide, cm_X0_has, by decide +kernel⟩, List.forall_mem_cons.mpr ⟨⟨_, _, _, _, sm_X0_cardOf, by decide, cm_X0_cardOf, by decide +kernel⟩, List.forall_mem_cons.mpr ⟨⟨_, _, _, _, sm_X4_push, by decide, cm_X4_push, by decide +kernel⟩, List.forall_mem_cons.mpr ⟨⟨_, _, _, _, sm_X1_restart, by decide, cm_X1_restart, by decide +kernel⟩, List.forall_mem_cons.mpr ⟨⟨_, _, _, _, sm_J6_bitCount_0f7a4, by decide, cm_J6_bitCount_0f7a4, by decide +kernel⟩, fun _ h => absurd h List.not_mem_nil⟩⟩⟩⟩⟩⟩) ck_X6_lay (by decide +kernel) (by decide) ?_
  intro X k hX args M hT
  have hb0 := hX 0 bk_X6_lay_0 (List.mem_of_getElem? (i := 0) rfl)
  have hb20 := hX 20 bk_X6_lay_20 (List.mem_of_getElem? (i := 1) rfl)
  have hb23 := hX 23 bk_X6_lay_23 (List.mem_of_getElem? (i := 2) rfl)
  have hb49 := hX 49 bk_X6_lay_49 (List.mem_of_getElem? (i := 3) rfl)
  clear hX
  unfold tt_X6_lay at hT; split at hT
  · next x y z =>
    obtain ⟨A, hA, hM, hT⟩ := hT
    have hok := hA.lay x y z
    obtain ⟨hD, hS, hH, hL, hW, hQ, hPl, hTr⟩ := id hM
    have hP := hA.1
    obtain ⟨h1, h2, h3, h4, h5, h6, h7, h8, h9⟩ := id hP
    have m3 := hD.1.2.1.1
    have m4 := hD.1.2.1.2.1
    have m5 := hD.1.2.1.2.2.1
    unfold fLay colOK at hT
    unfold fLay colOK at hok
    refine ⟨by simp [lg_sl, Value.category], ?_⟩
    have bad : (wi x (nI 0) (nI (pC (aP A)) - nI 1) && (wi y (nI 0) (nI (pS (aP A)) - nI 1) && wi z (nI 1) (nI (pR (aP A))))) = false → X 20 [] [] M := by
      intro hf
      refine hb20 _ _ _ ?_
      simp (maxSteps := 2000000) [bk_X6_lay_0, bk_X6_lay_20, bk_X6_lay_23, bk_X6_lay_49, pm_call, pm_e_c0, pm_e_c1, pm_e_cti, pm_e_ctl, pm_e_ctr, pm_e_go, pm_e_i, pm_e_ii, pm_e_ldi, pm_e_ldr, pm_e_lk, pm_e_r, pm_e_rm0, pm_e_rm1, pm_e_rs0, pm_e_rs1, pm_e_v1, pm_e_wp0, pm_e_wp1, pm_f2, pm_f3, pm_fld, pm_fv, pm_obj, pm_recv, pm_s_aload_n, pm_s_bipush, pm_s_dup, pm_s_getfield, pm_s_iand, pm_s_iconst, pm_s_ifCond_eq, pm_s_ifCond_ne, pm_s_iload, pm_s_iload_n, pm_s_invokestatic, pm_s_invokevirtual, pm_s_ior, pm_s_ireturn, pm_s_ishl, pm_s_istore, pm_s_putfield, ct_X6_lay, tt_X6_isColumn, tt_X0_has, tt_X0_cardOf, tt_J6_bitCount_0f7a4, pS, pR, pC, pE, pL, -Int32.not_le, -Int32.not_lt, -Int64.not_le, -Int64.not_lt, -List.getD_eq_getElem?_getD]
      rw [hf] at hT
      exact hT M hM
    have good : (wi x (nI 0) (nI (pC (aP A)) - nI 1) && (wi y (nI 0) (nI (pS (aP A)) - nI 1) && wi z (nI 1) (nI (pR (aP A))))) = true → X 23 [(0, .ref 0), (1, .int x), (2, .int y), (3, .int z)] [] M := by
      intro hf
      rw [hf] at hT hok
      simp only [if_true] at hT hok
      simp only [Bool.and_eq_true] at hf
      obtain ⟨q1, q2, q3⟩ := hf
      obtain ⟨x1, x2⟩ := wi_lt (by omega) q1
      obtain ⟨y1, y2⟩ := wi_lt (by omega) q2
      obtain ⟨z1, z2, z3⟩ := wi_tn (by decide) (by omega) q3
      have hd := card_le y2 z3
      have ecd : (y * nI (pR (aP A)) + z) &&& nI 15 = nI (tn y * pR (aP A) + tn z) := by
        rw [y1, z1, ni_mul, ni_add, ni_a15 (by omega)]
        congr 1
        rw [tn_n (by omega), tn_n (by omega)]; omega
      have hbit := hL.bit (d := tn y * pR (aP A) + tn z) (by omega)
      generalize hcd : tn y * pR (aP A) + tn z = d at *
      refine hb23 _ _ _ ?_
      simp (maxSteps := 2000000) [bk_X6_lay_0, bk_X6_lay_20, bk_X6_lay_23, bk_X6_lay_49, pm_call, pm_e_c0, pm_e_c1, pm_e_cti, pm_e_ctl, pm_e_ctr, pm_e_go, pm_e_i, pm_e_ii, pm_e_ldi, pm_e_ldr, pm_e_lk, pm_e_r, pm_e_rm0, pm_e_rm1, pm_e_rs0, pm_e_rs1, pm_e_v1, pm_e_wp0, pm_e_wp1, pm_f2, pm_f3, pm_fld, pm_fv, pm_obj, pm_recv, pm_s_aload_n, pm_s_bipush, pm_s_dup, pm_s_getfield, pm_s_iand, pm_s_iconst, pm_s_ifCond_eq, pm_s_ifCond_ne, pm_s_iload, pm_s_iload_n, pm_s_invokestatic, pm_s_invokevirtual, pm_s_ior, pm_s_ireturn, pm_s_ishl, pm_s_istore, pm_s_putfield, ct_X6_lay, tt_X6_isColumn, tt_X0_has, tt_X0_cardOf, tt_J6_bitCount_0f7a4, pS, pR, pC, pE, pL, -Int32.not_le, -Int32.not_lt, -Int64.not_le, -Int64.not_lt, -List.getD_eq_getElem?_getD, sx_0, sx_1, m4]
      rw [ecd, hbit]
      refine ⟨fun hl => ?_, fun hl => ?_⟩
      · rw [if_neg (by rw [hl]; simp)] at hT hok
        refine hb49 _ _ _ ?_
        simp (maxSteps := 2000000) [bk_X6_lay_0, bk_X6_lay_20, bk_X6_lay_23, bk_X6_lay_49, pm_call, pm_e_c0, pm_e_c1, pm_e_cti, pm_e_ctl, pm_e_ctr, pm_e_go, pm_e_i, pm_e_ii, pm_e_ldi, pm_e_ldr, pm_e_lk, pm_e_r, pm_e_rm0, pm_e_rm1, pm_e_rs0, pm_e_rs1, pm_e_v1, pm_e_wp0, pm_e_wp1, pm_f2, pm_f3, pm_fld, pm_fv, pm_obj, pm_recv, pm_s_aload_n, pm_s_bipush, pm_s_dup, pm_s_getfield, pm_s_iand, pm_s_iconst, pm_s_ifCond_eq, pm_s_ifCond_ne, pm_s_iload, pm_s_iload_n, pm_s_invokestatic, pm_s_invokevirtual, pm_s_ior, pm_s_ireturn, pm_s_ishl, pm_s_istore, pm_s_putfield, ct_X6_lay, tt_X6_isColumn, tt_X0_has, tt_X0_cardOf, tt_J6_bitCount_0f7a4, pS, pR, pC, pE, pL, -Int32.not_le, -Int32.not_lt, -Int64.not_le, -Int64.not_lt, -List.getD_eq_getElem?_getD, sx_0, sx_5]
        have hroom := hA.wf.room hP (show 1 ≤ d by omega) hd hl
        refine ⟨pE (aP A), aS A, tn x, d, Or.inl rfl, x1, rfl, hS, by omega, ⟨by omega, by omega⟩, by have := len_tot (aS A) (show tn x < 4 by omega); omega, fun M1 s1 f1 => ?_⟩
        have f1' : pm_fr [5, 6, 7, 8, 9, 10] M M1 := f1
        simp (maxSteps := 2000000) [bk_X6_lay_0, bk_X6_lay_20, bk_X6_lay_23, bk_X6_lay_49, pm_call, pm_e_c0, pm_e_c1, pm_e_cti, pm_e_ctl, pm_e_ctr, pm_e_go, pm_e_i, pm_e_ii, pm_e_ldi, pm_e_ldr, pm_e_lk, pm_e_r, pm_e_rm0, pm_e_rm1, pm_e_rs0, pm_e_rs1, pm_e_v1, pm_e_wp0, pm_e_wp1, pm_f2, pm_f3, pm_fld, pm_fv, pm_obj, pm_recv, pm_s_aload_n, pm_s_bipush, pm_s_dup, pm_s_getfield, pm_s_iand, pm_s_iconst, pm_s_ifCond_eq, pm_s_ifCond_ne, pm_s_iload, pm_s_iload_n, pm_s_invokestatic, pm_s_invokevirtual, pm_s_ior, pm_s_ireturn, pm_s_ishl, pm_s_istore, pm_s_putfield, ct_X6_lay, tt_X6_isColumn, tt_X0_has, tt_X0_cardOf, tt_J6_bitCount_0f7a4, pS, pR, pC, pE, pL, -Int32.not_le, -Int32.not_lt, -Int64.not_le, -Int64.not_lt, -List.getD_eq_getElem?_getD, sx_0, sx_5, sx_11]
        have f2 : pm_fr [0] M1 (pm_set M1 0 7 (M1.1 0 7 ||| (nI 1 <<< (nI d &&& 31)))) := pm_fr.rfl.set (by decide)
        have e7 : (pm_set M1 0 7 (M1.1 0 7 ||| (nI 1 <<< (nI d &&& 31)))).1 0 7 = M.1 0 7 ||| (nI 1 <<< (nI d &&& 31)) := by
          rw [me_1s, if_pos rfl, f1'.i (by decide)]
        have e8 : (pm_set M1 0 7 (M1.1 0 7 ||| (nI 1 <<< (nI d &&& 31)))).1 0 8 = M.1 0 8 := by
          rw [me_1s, if_neg (by decide), f1'.i (by decide)]
        have e9 : (pm_set M1 0 7 (M1.1 0 7 ||| (nI 1 <<< (nI d &&& 31)))).1 0 9 = M.1 0 9 := by
          rw [me_1s, if_neg (by decide), f1'.i (by decide)]
        generalize pm_set M1 0 7 (M1.1 0 7 ||| (nI 1 <<< (nI d &&& 31))) = M2 at *
        have hw' := hok.wf
        refine ⟨pE (aP A), aPush (aS A) (tn x) d, s1.moved f2 (by decide), hw'.t12 hP, fun M3 h3 f3 => ?_⟩
        have g12 : pm_fr [0, 5, 6, 7, 8, 9, 10] M M2 := (f1'.mono (by decide)).trans (f2.mono (by decide))
        have hL3 : LdX M3 (up (aL A) d true) := (hL.set (M' := M2) (by omega) e7).mv f3 (by decide)
        have hbc := hL3.bc
        have e3 : M3.1 0 7 = M2.1 0 7 := f3.i (by decide) 7
        simp (maxSteps := 2000000) [bk_X6_lay_0, bk_X6_lay_20, bk_X6_lay_23, bk_X6_lay_49, pm_call, pm_e_c0, pm_e_c1, pm_e_cti, pm_e_ctl, pm_e_ctr, pm_e_go, pm_e_i, pm_e_ii, pm_e_ldi, pm_e_ldr, pm_e_lk, pm_e_r, pm_e_rm0, pm_e_rm1, pm_e_rs0, pm_e_rs1, pm_e_v1, pm_e_wp0, pm_e_wp1, pm_f2, pm_f3, pm_fld, pm_fv, pm_obj, pm_recv, pm_s_aload_n, pm_s_bipush, pm_s_dup, pm_s_getfield, pm_s_iand, pm_s_iconst, pm_s_ifCond_eq, pm_s_ifCond_ne, pm_s_iload, pm_s_iload_n, pm_s_invokestatic, pm_s_invokevirtual, pm_s_ior, pm_s_ireturn, pm_s_ishl, pm_s_istore, pm_s_putfield, ct_X6_lay, tt_X6_isColumn, tt_X0_has, tt_X0_cardOf, tt_J6_bitCount_0f7a4, pS, pR, pC, pE, pL, -Int32.not_le, -Int32.not_lt, -Int64.not_le, -Int64.not_lt, -List.getD_eq_getElem?_getD, sx_0]
        rw [hbc]
        have hcn : cnt 13 (up (aL A) d true) = lcn A + 1 := by
          have key : ∀ n, cnt n (up (aL A) d true) = cnt n (aL A) + (if d < n then 1 else 0) := by
            intro n
            induction n with
            | zero => rfl
            | succ n ih =>
              rw [cnt_s, cnt_s, ih]
              by_cases w : n = d
              · rw [w, up_s, hl, if_neg (by omega), if_pos rfl, if_neg (by simp), if_pos (by omega)]
              · rw [up_n _ _ w]
                by_cases v : d < n
                · rw [if_pos v, if_pos (show d < n + 1 by omega)]; omega
                · rw [if_neg v, if_neg (show ¬ d < n + 1 by omega)]; omega
          have := key 13
          rw [if_pos (by omega)] at this; exact this
        rw [hcn]
        refine hT M3 ⟨(hD.moved g12 (by decide)).moved f3 (by decide), (s1.moved f2 (by decide)).mv f3 (by decide), h3, hL3, ?_, ?_, (hPl.mv g12 (by decide) (by decide)).mv f3 (by decide) (by decide), trs_mv (trs_mv hTr g12 (by decide)) f3 (by decide)⟩
        · rw [f3.i (by decide), e8]; exact hW
        · rw [f3.i (by decide), e9]; exact hQ
      · rw [if_pos (by simpa using hl)] at hT
        exact hT M hM
    refine hb0 _ _ _ ?_
    simp (maxSteps := 2000000) [bk_X6_lay_0, bk_X6_lay_20, bk_X6_lay_23, bk_X6_lay_49, pm_call, pm_e_c0, pm_e_c1, pm_e_cti, pm_e_ctl, pm_e_ctr, pm_e_go, pm_e_i, pm_e_ii, pm_e_ldi, pm_e_ldr, pm_e_lk, pm_e_r, pm_e_rm0, pm_e_rm1, pm_e_rs0, pm_e_rs1, pm_e_v1, pm_e_wp0, pm_e_wp1, pm_f2, pm_f3, pm_fld, pm_fv, pm_obj, pm_recv, pm_s_aload_n, pm_s_bipush, pm_s_dup, pm_s_getfield, pm_s_iand, pm_s_iconst, pm_s_ifCond_eq, pm_s_ifCond_ne, pm_s_iload, pm_s_iload_n, pm_s_invokestatic, pm_s_invokevirtual, pm_s_ior, pm_s_ireturn, pm_s_ishl, pm_s_istore, pm_s_putfield, ct_X6_lay, tt_X6_isColumn, tt_X0_has, tt_X0_cardOf, tt_J6_bitCount_0f7a4, pS, pR, pC, pE, pL, -Int32.not_le, -Int32.not_lt, -Int64.not_le, -Int64.not_lt, -List.getD_eq_getElem?_getD, lv_args, sx_0, sx_1, pb_eq0, m3, m4, m5]
    refine ⟨fun h => bad (by rw [h]; rfl), fun h => ⟨fun h2 h3 => good (by rw [h]; exact Bool.and_eq_true_iff.mpr ⟨rfl, Bool.and_eq_true_iff.mpr ⟨h2, h3⟩⟩), fun h2 => bad ?_⟩⟩
    rw [h]
    cases hy : wi y (nI 0) (nI (pS (aP A)) - nI 1) with
    | false => rfl
    | true => rw [show wi z (nI 1) (nI (pR (aP A))) = false from h2 hy]; rfl
  · exact hT.elim
