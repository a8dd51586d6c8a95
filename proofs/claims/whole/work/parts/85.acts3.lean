def tt_X6_carry : pm_T := fun args M k => match args with
  | [.ref 0, .int x, .int y, .int z] => ∃ A, okA A ∧ MX M A ∧ ∀ M', MX M' (fCarry A x y z).2 → k (some (.int (fCarry A x y z).1)) M'
  | _ => False
theorem lt_tn {z : Int32} (h : ¬ z < nI 1) : z = nI (tn z) ∧ 1 ≤ tn z ∧ tn z < 2 ^ 31 := by
  have h0 : ¬ z < 0 := fun q => h (Int32.lt_trans q (by decide))
  obtain ⟨j, hj, rfl⟩ := nI_of h0
  rw [tn_n hj]
  refine ⟨rfl, ?_, hj⟩
  rw [ni_lt hj (by decide)] at h; omega
abbrev ct_X6_carry : List pm_C := [(false, 72, 6, 2, (some .boolean), tt_X6_isColumn), (false, 119, 6, 1, (some .boolean), tt_X6_allLaid), (false, 135, 4, 4, (some .boolean), tt_X4_canShiftRow), (false, 138, 4, 4, none, tt_X4_shiftRow), (false, 132, 1, 2, none, tt_X1_keep)]
set_option maxHeartbeats 4000000 in
theorem sm_X6_carry  : pm_Sem SHx yX6_carry cX6_carry 4 (some .int) 5 tt_X6_carry := by
  refine pm_Sem_intro bl_X6_carry ct_X6_carry cs_X6_carry rfl (List.forall_mem_cons.mpr ⟨⟨_, _, _, _, sm_X6_isColumn, by decide, cm_X6_isColumn, by decide +kernel⟩, List.forall_mem_cons.mpr ⟨⟨_, _, _, _, sm_X6_allLaid, by decide, cm_X6_allLaid, by decide +kernel⟩, List.forall_mem_cons.mpr ⟨⟨_, _, _, _, sm_X4_canShiftRow, by decide, cm_X4_canShiftRow, by decide +kernel⟩, List.forall_mem_cons.mpr ⟨⟨_, _, _, _, sm_X4_shiftRow, by decide, cm_X4_shiftRow, by decide +kernel⟩, List.forall_mem_cons.mpr ⟨⟨_, _, _, _, sm_X1_keep, by decide, cm_X1_keep, by decide +kernel⟩, fun _ h => absurd h List.not_mem_nil⟩⟩⟩⟩⟩) ck_X6_carry (by decide +kernel) (by decide) ?_
  intro X k hX args M hT
  have hb0 := hX 0 bk_X6_carry_0 (List.mem_of_getElem? (i := 0) rfl)
  have hb26 := hX 26 bk_X6_carry_26 (List.mem_of_getElem? (i := 1) rfl)
  have hb29 := hX 29 bk_X6_carry_29 (List.mem_of_getElem? (i := 2) rfl)
  have hb39 := hX 39 bk_X6_carry_39 (List.mem_of_getElem? (i := 3) rfl)
  have hb54 := hX 54 bk_X6_carry_54 (List.mem_of_getElem? (i := 4) rfl)
  clear hX
  unfold tt_X6_carry at hT; split at hT
  · next x y z =>
    obtain ⟨A, hA, hM, hT⟩ := hT
    obtain ⟨hD, hS, hH, hL, hW, hQ, hPl, hTr⟩ := id hM
    have hP := hA.1
    have hE := hP.2.2.2.2.2.2.2.1
    have h7 := hP.2.2.2.2.2.2.1
    have m5 := hD.1.2.1.2.2.1
    have hal := al_eq hA hM
    unfold fCarry at hT
    refine ⟨by simp [lg_sl, Value.category], ?_⟩
    have bad : (colOK (aP A) x && colOK (aP A) y && !decide (x = y) && !decide (z < nI 1)) = false → X 26 [] [] M := by
      intro hf
      refine hb26 _ _ _ ?_
      simp (maxSteps := 2000000) [bk_X6_carry_0, bk_X6_carry_26, bk_X6_carry_29, bk_X6_carry_39, bk_X6_carry_54, pm_call, pm_e_c0, pm_e_c1, pm_e_cti, pm_e_ctl, pm_e_ctr, pm_e_go, pm_e_i, pm_e_ii, pm_e_ldi, pm_e_ldr, pm_e_lk, pm_e_r, pm_e_rm0, pm_e_rm1, pm_e_rs0, pm_e_rs1, pm_e_wp0, pm_e_wp1, pm_f2, pm_f3, pm_fld, pm_fv, pm_obj, pm_recv, pm_s_aload_n, pm_s_bipush, pm_s_getfield, pm_s_iconst, pm_s_ifCond_eq, pm_s_ifCond_ne, pm_s_if_icmp_eq, pm_s_if_icmp_ge, pm_s_iload_n, pm_s_invokevirtual, pm_s_ireturn, ct_X6_carry, tt_X6_isColumn, tt_X6_allLaid, pS, pR, pC, pE, pL, -Int32.not_le, -Int32.not_lt, -Int64.not_le, -Int64.not_lt, -List.getD_eq_getElem?_getD]
      rw [hf] at hT
      exact hT M hM
    have good : (colOK (aP A) x && colOK (aP A) y && !decide (x = y) && !decide (z < nI 1)) = true → X 29 [(0, .ref 0), (1, .int x), (2, .int y), (3, .int z)] [] M := by
      intro hf
      rw [hf, if_pos rfl] at hT
      simp only [Bool.and_eq_true, Bool.not_eq_true', decide_eq_false_iff_not] at hf
      obtain ⟨⟨⟨q1, q2⟩, q3⟩, q4⟩ := hf
      obtain ⟨x1, x2⟩ := colOK_e hP q1
      obtain ⟨y1, y2⟩ := colOK_e hP q2
      obtain ⟨z1, z2, z3⟩ := lt_tn q4
      refine hb29 _ _ _ ?_
      simp (maxSteps := 2000000) [bk_X6_carry_0, bk_X6_carry_26, bk_X6_carry_29, bk_X6_carry_39, bk_X6_carry_54, pm_call, pm_e_c0, pm_e_c1, pm_e_cti, pm_e_ctl, pm_e_ctr, pm_e_go, pm_e_i, pm_e_ii, pm_e_ldi, pm_e_ldr, pm_e_lk, pm_e_r, pm_e_rm0, pm_e_rm1, pm_e_rs0, pm_e_rs1, pm_e_wp0, pm_e_wp1, pm_f2, pm_f3, pm_fld, pm_fv, pm_obj, pm_recv, pm_s_aload_n, pm_s_bipush, pm_s_getfield, pm_s_iconst, pm_s_ifCond_eq, pm_s_ifCond_ne, pm_s_if_icmp_eq, pm_s_if_icmp_ge, pm_s_iload_n, pm_s_invokevirtual, pm_s_ireturn, ct_X6_carry, tt_X6_isColumn, tt_X6_allLaid, pS, pR, pC, pE, pL, -Int32.not_le, -Int32.not_lt, -Int64.not_le, -Int64.not_lt, -List.getD_eq_getElem?_getD, sx_0, sx_1, hal, pb_eq0]
      refine ⟨fun hl => ?_, fun hl => ?_⟩
      · rw [if_pos hl] at hT
        have hfw := hA.fw hl
        refine hb39 _ _ _ ?_
        simp (maxSteps := 2000000) [bk_X6_carry_0, bk_X6_carry_26, bk_X6_carry_29, bk_X6_carry_39, bk_X6_carry_54, pm_call, pm_e_c0, pm_e_c1, pm_e_cti, pm_e_ctl, pm_e_ctr, pm_e_go, pm_e_i, pm_e_ii, pm_e_ldi, pm_e_ldr, pm_e_lk, pm_e_r, pm_e_rm0, pm_e_rm1, pm_e_rs0, pm_e_rs1, pm_e_wp0, pm_e_wp1, pm_f2, pm_f3, pm_fld, pm_fv, pm_obj, pm_recv, pm_s_aload_n, pm_s_bipush, pm_s_getfield, pm_s_iconst, pm_s_ifCond_eq, pm_s_ifCond_ne, pm_s_if_icmp_eq, pm_s_if_icmp_ge, pm_s_iload_n, pm_s_invokevirtual, pm_s_ireturn, ct_X6_carry, tt_X6_isColumn, tt_X6_allLaid, pS, pR, pC, pE, pL, -Int32.not_le, -Int32.not_lt, -Int64.not_le, -Int64.not_lt, -List.getD_eq_getElem?_getD, sx_0, sx_5]
        refine ⟨pE (aP A), aS A, aP A, tn x, tn y, tn z, Or.inl rfl, x1, y1, z1, hS, hD, hfw.inDk, by omega, by omega, z2, z3, ?_⟩
        simp (maxSteps := 2000000) [bk_X6_carry_0, bk_X6_carry_26, bk_X6_carry_29, bk_X6_carry_39, bk_X6_carry_54, pm_call, pm_e_c0, pm_e_c1, pm_e_cti, pm_e_ctl, pm_e_ctr, pm_e_go, pm_e_i, pm_e_ii, pm_e_ldi, pm_e_ldr, pm_e_lk, pm_e_r, pm_e_rm0, pm_e_rm1, pm_e_rs0, pm_e_rs1, pm_e_wp0, pm_e_wp1, pm_f2, pm_f3, pm_fld, pm_fv, pm_obj, pm_recv, pm_s_aload_n, pm_s_bipush, pm_s_getfield, pm_s_iconst, pm_s_ifCond_eq, pm_s_ifCond_ne, pm_s_if_icmp_eq, pm_s_if_icmp_ge, pm_s_iload_n, pm_s_invokevirtual, pm_s_ireturn, ct_X6_carry, tt_X6_isColumn, tt_X6_allLaid, pS, pR, pC, pE, pL, -Int32.not_le, -Int32.not_lt, -Int64.not_le, -Int64.not_lt, -List.getD_eq_getElem?_getD, pb_eq0]
        refine ⟨fun hc => ?_, fun hc => ?_⟩
        · rw [if_pos hc] at hT
          have hne : tn x ≠ tn y := fun e => q3 (by rw [x1, y1, e])
          have hle : tn z ≤ ((aS A).1 (tn x)).length := by
            unfold canF at hc
            simp only [Bool.and_eq_true, decide_eq_true_eq] at hc; exact hc.1.1.1
          have hwf := hfw.row (k := tn z) hP x2 y2 hne
          have ht := hfw.t12 hP
          have hsum : ((aS A).1 (tn x)).length + ((aS A).1 (tn y)).length ≤ 12 := by
            unfold tot at ht
            rcases (show tn x = 0 ∨ tn x = 1 ∨ tn x = 2 ∨ tn x = 3 by omega) with e | e | e | e <;> rcases (show tn y = 0 ∨ tn y = 1 ∨ tn y = 2 ∨ tn y = 3 by omega) with e' | e' | e' | e' <;> rw [e, e'] <;> first | omega | exact absurd (e.trans e'.symm) hne
          refine hb54 _ _ _ ?_
          simp (maxSteps := 2000000) [bk_X6_carry_0, bk_X6_carry_26, bk_X6_carry_29, bk_X6_carry_39, bk_X6_carry_54, pm_call, pm_e_c0, pm_e_c1, pm_e_cti, pm_e_ctl, pm_e_ctr, pm_e_go, pm_e_i, pm_e_ii, pm_e_ldi, pm_e_ldr, pm_e_lk, pm_e_r, pm_e_rm0, pm_e_rm1, pm_e_rs0, pm_e_rs1, pm_e_wp0, pm_e_wp1, pm_f2, pm_f3, pm_fld, pm_fv, pm_obj, pm_recv, pm_s_aload_n, pm_s_bipush, pm_s_getfield, pm_s_iconst, pm_s_ifCond_eq, pm_s_ifCond_ne, pm_s_if_icmp_eq, pm_s_if_icmp_ge, pm_s_iload_n, pm_s_invokevirtual, pm_s_ireturn, ct_X6_carry, tt_X6_isColumn, tt_X6_allLaid, pS, pR, pC, pE, pL, -Int32.not_le, -Int32.not_lt, -Int64.not_le, -Int64.not_lt, -List.getD_eq_getElem?_getD, sx_0, sx_5]
          refine ⟨pE (aP A), aS A, tn x, tn y, tn z, Or.inl rfl, x1, y1, z1, hS, by omega, by omega, hne, hle, by omega, fun M2 s2 f2 => ?_⟩
          have f2' : pm_fr [5, 6, 7, 8, 9, 10] M M2 := f2
          simp (maxSteps := 2000000) [bk_X6_carry_0, bk_X6_carry_26, bk_X6_carry_29, bk_X6_carry_39, bk_X6_carry_54, pm_call, pm_e_c0, pm_e_c1, pm_e_cti, pm_e_ctl, pm_e_ctr, pm_e_go, pm_e_i, pm_e_ii, pm_e_ldi, pm_e_ldr, pm_e_lk, pm_e_r, pm_e_rm0, pm_e_rm1, pm_e_rs0, pm_e_rs1, pm_e_wp0, pm_e_wp1, pm_f2, pm_f3, pm_fld, pm_fv, pm_obj, pm_recv, pm_s_aload_n, pm_s_bipush, pm_s_getfield, pm_s_iconst, pm_s_ifCond_eq, pm_s_ifCond_ne, pm_s_if_icmp_eq, pm_s_if_icmp_ge, pm_s_iload_n, pm_s_invokevirtual, pm_s_ireturn, ct_X6_carry, tt_X6_isColumn, tt_X6_allLaid, pS, pR, pC, pE, pL, -Int32.not_le, -Int32.not_lt, -Int64.not_le, -Int64.not_lt, -List.getD_eq_getElem?_getD, sx_0, sx_5, sx_11]
          refine ⟨pE (aP A), _, aH A, aPr A, aLa A, s2, hwf.t12 hP, hH.mv f2' (by decide), fun M3 h3 f3 => ?_⟩
          simp (maxSteps := 2000000) [bk_X6_carry_0, bk_X6_carry_26, bk_X6_carry_29, bk_X6_carry_39, bk_X6_carry_54, pm_call, pm_e_c0, pm_e_c1, pm_e_cti, pm_e_ctl, pm_e_ctr, pm_e_go, pm_e_i, pm_e_ii, pm_e_ldi, pm_e_ldr, pm_e_lk, pm_e_r, pm_e_rm0, pm_e_rm1, pm_e_rs0, pm_e_rs1, pm_e_wp0, pm_e_wp1, pm_f2, pm_f3, pm_fld, pm_fv, pm_obj, pm_recv, pm_s_aload_n, pm_s_bipush, pm_s_getfield, pm_s_iconst, pm_s_ifCond_eq, pm_s_ifCond_ne, pm_s_if_icmp_eq, pm_s_if_icmp_ge, pm_s_iload_n, pm_s_invokevirtual, pm_s_ireturn, ct_X6_carry, tt_X6_isColumn, tt_X6_allLaid, pS, pR, pC, pE, pL, -Int32.not_le, -Int32.not_lt, -Int64.not_le, -Int64.not_lt, -List.getD_eq_getElem?_getD]
          refine hT M3 ⟨(hD.moved f2' (by decide)).moved f3 (by decide), s2.mv f3 (by decide), h3, (hL.mv f2' (by decide)).mv f3 (by decide), ?_, ?_, (hPl.mv f2' (by decide) (by decide)).mv f3 (by decide) (by decide), trs_mv (trs_mv hTr f2' (by decide)) f3 (by decide)⟩
          · rw [f3.i (by decide), f2'.i (by decide)]; exact hW
          · rw [f3.i (by decide), f2'.i (by decide)]; exact hQ
        · rw [if_neg (by simp [hc])] at hT
          exact hT M hM
      · rw [if_neg (by simp [hl])] at hT
        exact hT M hM
    refine hb0 _ _ _ ?_
    simp (maxSteps := 2000000) [bk_X6_carry_0, bk_X6_carry_26, bk_X6_carry_29, bk_X6_carry_39, bk_X6_carry_54, pm_call, pm_e_c0, pm_e_c1, pm_e_cti, pm_e_ctl, pm_e_ctr, pm_e_go, pm_e_i, pm_e_ii, pm_e_ldi, pm_e_ldr, pm_e_lk, pm_e_r, pm_e_rm0, pm_e_rm1, pm_e_rs0, pm_e_rs1, pm_e_wp0, pm_e_wp1, pm_f2, pm_f3, pm_fld, pm_fv, pm_obj, pm_recv, pm_s_aload_n, pm_s_bipush, pm_s_getfield, pm_s_iconst, pm_s_ifCond_eq, pm_s_ifCond_ne, pm_s_if_icmp_eq, pm_s_if_icmp_ge, pm_s_iload_n, pm_s_invokevirtual, pm_s_ireturn, ct_X6_carry, tt_X6_isColumn, tt_X6_allLaid, pS, pR, pC, pE, pL, -Int32.not_le, -Int32.not_lt, -Int64.not_le, -Int64.not_lt, -List.getD_eq_getElem?_getD, lv_args, sx_0, m5, pb_eq0]
    have ex : wi x (nI 0) (nI (aP A).2.2.1 - nI 1) = colOK (aP A) x := rfl
    have ey : wi y (nI 0) (nI (aP A).2.2.1 - nI 1) = colOK (aP A) y := rfl
    rw [ex, ey]
    refine ⟨fun h => bad (by rw [h]; rfl), fun h => ⟨fun h2 => bad (by rw [h2]; simp), fun h2 => ⟨fun h3 => bad (by rw [decide_eq_true h3]; simp), fun h3 => ⟨fun h4 => good ?_, fun h4 => bad ?_⟩⟩⟩⟩
    · rw [h, h2, decide_eq_false h3, decide_eq_false (Int32.not_lt.mpr h4)]; rfl
    · rw [decide_eq_true (p := z < nI 1) (Int32.not_le.mp h4)]; simp
  · exact hT.elim
def tt_X6_auto : pm_T := fun args M k => match args with
  | [.ref 0] => ∃ A, okA A ∧ MX M A ∧ ∀ M', MX M' (fAuto A).2 → k (some (.int (fAuto A).1)) M'
  | _ => False
abbrev ct_X6_auto : List pm_C := [(false, 119, 6, 1, (some .boolean), tt_X6_allLaid), (false, 141, 4, 1, (some .boolean), tt_X4_sendSafeCard), (false, 132, 1, 2, none, tt_X1_keep)]
set_option maxHeartbeats 4000000 in
theorem sm_X6_auto  : pm_Sem SHx yX6_auto cX6_auto 2 (some .int) 5 tt_X6_auto := by
  refine pm_Sem_intro bl_X6_auto ct_X6_auto cs_X6_auto rfl (List.forall_mem_cons.mpr ⟨⟨_, _, _, _, sm_X6_allLaid, by decide, cm_X6_allLaid, by decide +kernel⟩, List.forall_mem_cons.mpr ⟨⟨_, _, _, _, sm_X4_sendSafeCard, by decide, cm_X4_sendSafeCard, by decide +kernel⟩, List.forall_mem_cons.mpr ⟨⟨_, _, _, _, sm_X1_keep, by decide, cm_X1_keep, by decide +kernel⟩, fun _ h => absurd h List.not_mem_nil⟩⟩⟩) ck_X6_auto (by decide +kernel) (by decide) ?_
  intro X k hX args M hT
  have hb0 := hX 0 bk_X6_auto_0 (List.mem_of_getElem? (i := 0) rfl)
  have hb10 := hX 10 bk_X6_auto_10 (List.mem_of_getElem? (i := 1) rfl)
  have hb12 := hX 12 bk_X6_auto_12 (List.mem_of_getElem? (i := 2) rfl)
  have hb34 := hX 34 bk_X6_auto_34 (List.mem_of_getElem? (i := 3) rfl)
  have hb49 := hX 49 bk_X6_auto_49 (List.mem_of_getElem? (i := 4) rfl)
  clear hX
  unfold tt_X6_auto at hT; split at hT
  · obtain ⟨A, hA, hM, hT⟩ := hT
    obtain ⟨hD, hS, hH, hL, hW, hQ, hPl, hTr⟩ := id hM
    have hP := hA.1
    have hE := hP.2.2.2.2.2.2.2.1
    have hal := al_eq hA hM
    unfold fAuto at hT
    refine ⟨by simp [lg_sl, Value.category], ?_⟩
    refine hb0 _ _ _ ?_
    simp (maxSteps := 2000000) [bk_X6_auto_0, bk_X6_auto_10, bk_X6_auto_12, bk_X6_auto_34, bk_X6_auto_49, pm_call, pm_e_c0, pm_e_c1, pm_e_cti, pm_e_ctl, pm_e_ctr, pm_e_go, pm_e_i, pm_e_ii, pm_e_ldi, pm_e_ldr, pm_e_lk, pm_e_r, pm_e_rm0, pm_e_rm1, pm_e_rs0, pm_e_rs1, pm_e_wp0, pm_e_wp1, pm_f2, pm_f3, pm_fld, pm_fv, pm_obj, pm_recv, pm_s_aload_n, pm_s_bipush, pm_s_getfield, pm_s_goto, pm_s_iconst, pm_s_ifCond_eq, pm_s_ifCond_le, pm_s_ifCond_ne, pm_s_if_icmp_ge, pm_s_iinc, pm_s_iload_n, pm_s_invokevirtual, pm_s_ireturn, pm_s_istore_n, ct_X6_auto, tt_X6_allLaid, pS, pR, pC, pE, pL, -Int32.not_le, -Int32.not_lt, -Int64.not_le, -Int64.not_lt, -List.getD_eq_getElem?_getD, lv_args, sx_0, hal, pb_eq0]
    refine ⟨fun hl => ?_, fun hl => ?_⟩
    · rw [if_pos hl] at hT
      have hfw := hA.fw hl
      have h49 : ∀ M' v, k (some (.int v)) M' → X 49 [(1, .int v)] [] M' := by
        intro M' v hv
        refine hb49 _ _ _ ?_
        simp (maxSteps := 2000000) [bk_X6_auto_0, bk_X6_auto_10, bk_X6_auto_12, bk_X6_auto_34, bk_X6_auto_49, pm_call, pm_e_c0, pm_e_c1, pm_e_cti, pm_e_ctl, pm_e_ctr, pm_e_go, pm_e_i, pm_e_ii, pm_e_ldi, pm_e_ldr, pm_e_lk, pm_e_r, pm_e_rm0, pm_e_rm1, pm_e_rs0, pm_e_rs1, pm_e_wp0, pm_e_wp1, pm_f2, pm_f3, pm_fld, pm_fv, pm_obj, pm_recv, pm_s_aload_n, pm_s_bipush, pm_s_getfield, pm_s_goto, pm_s_iconst, pm_s_ifCond_eq, pm_s_ifCond_le, pm_s_ifCond_ne, pm_s_if_icmp_ge, pm_s_iinc, pm_s_iload_n, pm_s_invokevirtual, pm_s_ireturn, pm_s_istore_n, ct_X6_auto, tt_X6_allLaid, pS, pR, pC, pE, pL, -Int32.not_le, -Int32.not_lt, -Int64.not_le, -Int64.not_lt, -List.getD_eq_getElem?_getD]
        exact hv
      have out : ∀ (n : Nat) (S : St) (M' : pm_M), n ≤ 12 → auN (aP A) (pE (aP A)) 12 (aS A) = (n, S) → SdX M' 5 (pE (aP A)) S → FW (aP A) (pE (aP A)) S → pm_fr [5, 6, 7, 8, 9, 10] M M' → X 34 [(0, .ref 0), (1, .int (nI n))] [] M' := by
        intro n S M' hn he hs hf f1
        rw [he] at hT
        refine hb34 _ _ _ ?_
        simp (maxSteps := 2000000) [bk_X6_auto_0, bk_X6_auto_10, bk_X6_auto_12, bk_X6_auto_34, bk_X6_auto_49, pm_call, pm_e_c0, pm_e_c1, pm_e_cti, pm_e_ctl, pm_e_ctr, pm_e_go, pm_e_i, pm_e_ii, pm_e_ldi, pm_e_ldr, pm_e_lk, pm_e_r, pm_e_rm0, pm_e_rm1, pm_e_rs0, pm_e_rs1, pm_e_wp0, pm_e_wp1, pm_f2, pm_f3, pm_fld, pm_fv, pm_obj, pm_recv, pm_s_aload_n, pm_s_bipush, pm_s_getfield, pm_s_goto, pm_s_iconst, pm_s_ifCond_eq, pm_s_ifCond_le, pm_s_ifCond_ne, pm_s_if_icmp_ge, pm_s_iinc, pm_s_iload_n, pm_s_invokevirtual, pm_s_ireturn, pm_s_istore_n, ct_X6_auto, tt_X6_allLaid, pS, pR, pC, pE, pL, -Int32.not_le, -Int32.not_lt, -Int64.not_le, -Int64.not_lt, -List.getD_eq_getElem?_getD, sx_0, sx_5, sx_11]
        simp (disch := omega) only [ni_in, ni_cl, ni_add, ni_mul, ni_sub, ni_lt, ni_le, ni_eq, ni_eq0, ni_lt0, ni_0le, ni_0lt, ni_le0, ni_a1, ni_a3, ni_a7, ni_a15]
        refine ⟨fun h => ?_, fun h => ?_⟩
        · have e1 : auN (aP A) (pE (aP A)) 12 (aS A) = (0, aS A) ∨ ¬ n = 0 := by
            rcases Nat.eq_zero_or_pos n with z | z
            · left
              have : auN (aP A) (pE (aP A)) 12 (aS A) = if fstG (aP A) (pE (aP A)) (aS A) = 6 then (0, aS A) else ((auN (aP A) (pE (aP A)) 11 (aMv (aP A) (pE (aP A)) (aS A) (fstG (aP A) (pE (aP A)) (aS A)) 5)).1 + 1, (auN (aP A) (pE (aP A)) 11 (aMv (aP A) (pE (aP A)) (aS A) (fstG (aP A) (pE (aP A)) (aS A)) 5)).2) := rfl
              rw [this] at he ⊢
              by_cases y : fstG (aP A) (pE (aP A)) (aS A) = 6
              · rw [if_pos y]
              · rw [if_neg y] at he
                have := congrArg Prod.fst he
                simp only at this; omega
            · right; omega
          rcases e1 with e1 | e1
          · have hSe : S = aS A := by
              rw [e1] at he; exact (congrArg Prod.snd he).symm
            subst hSe
            rw [if_pos h] at hT
            rw [h]
            exact h49 M' _ (hT M' ⟨hD.moved f1 (by decide), hs, hH.mv f1 (by decide), hL.mv f1 (by decide), by rw [f1.i (by decide)]; exact hW, by rw [f1.i (by decide)]; exact hQ, hPl.mv f1 (by decide) (by decide), trs_mv hTr f1 (by decide)⟩)
          · exact absurd h e1
        · rw [if_neg h] at hT
          refine ⟨pE (aP A), S, aH A, aPr A, aLa A, hs, hf.t12 hP, hH.mv f1 (by decide), fun M3 h3 f3 => ?_⟩
          simp (maxSteps := 2000000) [bk_X6_auto_0, bk_X6_auto_10, bk_X6_auto_12, bk_X6_auto_34, bk_X6_auto_49, pm_call, pm_e_c0, pm_e_c1, pm_e_cti, pm_e_ctl, pm_e_ctr, pm_e_go, pm_e_i, pm_e_ii, pm_e_ldi, pm_e_ldr, pm_e_lk, pm_e_r, pm_e_rm0, pm_e_rm1, pm_e_rs0, pm_e_rs1, pm_e_wp0, pm_e_wp1, pm_f2, pm_f3, pm_fld, pm_fv, pm_obj, pm_recv, pm_s_aload_n, pm_s_bipush, pm_s_getfield, pm_s_goto, pm_s_iconst, pm_s_ifCond_eq, pm_s_ifCond_le, pm_s_ifCond_ne, pm_s_if_icmp_ge, pm_s_iinc, pm_s_iload_n, pm_s_invokevirtual, pm_s_ireturn, pm_s_istore_n, ct_X6_auto, tt_X6_allLaid, pS, pR, pC, pE, pL, -Int32.not_le, -Int32.not_lt, -Int64.not_le, -Int64.not_lt, -List.getD_eq_getElem?_getD]
          refine h49 M3 _ (hT M3 ⟨(hD.moved f1 (by decide)).moved f3 (by decide), hs.mv f3 (by decide), h3, (hL.mv f1 (by decide)).mv f3 (by decide), ?_, ?_, (hPl.mv f1 (by decide) (by decide)).mv f3 (by decide) (by decide), trs_mv (trs_mv hTr f1 (by decide)) f3 (by decide)⟩)
          · rw [f3.i (by decide), f1.i (by decide)]; exact hW
          · rw [f3.i (by decide), f1.i (by decide)]; exact hQ
      have loop : ∀ (f n : Nat) (S : St) (M' : pm_M), n + f = 12 → auN (aP A) (pE (aP A)) 12 (aS A) = ((auN (aP A) (pE (aP A)) f S).1 + n, (auN (aP A) (pE (aP A)) f S).2) → SdX M' 5 (pE (aP A)) S → FW (aP A) (pE (aP A)) S → pm_fr [5, 6, 7, 8, 9, 10] M M' → X 12 [(0, .ref 0), (1, .int (nI n))] [] M' := by
        intro f
        induction f with
        | zero =>
          intro n S M' hn he hs hf f1
          refine hb12 _ _ _ ?_
          simp (maxSteps := 2000000) [bk_X6_auto_0, bk_X6_auto_10, bk_X6_auto_12, bk_X6_auto_34, bk_X6_auto_49, pm_call, pm_e_c0, pm_e_c1, pm_e_cti, pm_e_ctl, pm_e_ctr, pm_e_go, pm_e_i, pm_e_ii, pm_e_ldi, pm_e_ldr, pm_e_lk, pm_e_r, pm_e_rm0, pm_e_rm1, pm_e_rs0, pm_e_rs1, pm_e_wp0, pm_e_wp1, pm_f2, pm_f3, pm_fld, pm_fv, pm_obj, pm_recv, pm_s_aload_n, pm_s_bipush, pm_s_getfield, pm_s_goto, pm_s_iconst, pm_s_ifCond_eq, pm_s_ifCond_le, pm_s_ifCond_ne, pm_s_if_icmp_ge, pm_s_iinc, pm_s_iload_n, pm_s_invokevirtual, pm_s_ireturn, pm_s_istore_n, ct_X6_auto, tt_X6_allLaid, pS, pR, pC, pE, pL, -Int32.not_le, -Int32.not_lt, -Int64.not_le, -Int64.not_lt, -List.getD_eq_getElem?_getD, sx_0, sx_5]
          simp (disch := omega) only [ni_in, ni_cl, ni_add, ni_mul, ni_sub, ni_lt, ni_le, ni_eq, ni_eq0, ni_lt0, ni_0le, ni_0lt, ni_le0, ni_a1, ni_a3, ni_a7, ni_a15]
          refine ⟨fun _ => out n S M' (by omega) (by rw [he]; show (0 + n, S) = (n, S); rw [Nat.zero_add]) hs hf f1, fun h => by omega⟩
        | succ f ih =>
          intro n S M' hn he hs hf f1
          have hun : auN (aP A) (pE (aP A)) (f + 1) S = if fstG (aP A) (pE (aP A)) S = 6 then (0, S) else ((auN (aP A) (pE (aP A)) f (aMv (aP A) (pE (aP A)) S (fstG (aP A) (pE (aP A)) S) 5)).1 + 1, (auN (aP A) (pE (aP A)) f (aMv (aP A) (pE (aP A)) S (fstG (aP A) (pE (aP A)) S) 5)).2) := rfl
          refine hb12 _ _ _ ?_
          simp (maxSteps := 2000000) [bk_X6_auto_0, bk_X6_auto_10, bk_X6_auto_12, bk_X6_auto_34, bk_X6_auto_49, pm_call, pm_e_c0, pm_e_c1, pm_e_cti, pm_e_ctl, pm_e_ctr, pm_e_go, pm_e_i, pm_e_ii, pm_e_ldi, pm_e_ldr, pm_e_lk, pm_e_r, pm_e_rm0, pm_e_rm1, pm_e_rs0, pm_e_rs1, pm_e_wp0, pm_e_wp1, pm_f2, pm_f3, pm_fld, pm_fv, pm_obj, pm_recv, pm_s_aload_n, pm_s_bipush, pm_s_getfield, pm_s_goto, pm_s_iconst, pm_s_ifCond_eq, pm_s_ifCond_le, pm_s_ifCond_ne, pm_s_if_icmp_ge, pm_s_iinc, pm_s_iload_n, pm_s_invokevirtual, pm_s_ireturn, pm_s_istore_n, ct_X6_auto, tt_X6_allLaid, pS, pR, pC, pE, pL, -Int32.not_le, -Int32.not_lt, -Int64.not_le, -Int64.not_lt, -List.getD_eq_getElem?_getD, sx_0, sx_5]
          simp (disch := omega) only [ni_in, ni_cl, ni_add, ni_mul, ni_sub, ni_lt, ni_le, ni_eq, ni_eq0, ni_lt0, ni_0le, ni_0lt, ni_le0, ni_a1, ni_a3, ni_a7, ni_a15]
          refine ⟨fun h => by omega, fun _ => ?_⟩
          refine ⟨pE (aP A), S, aP A, Or.inl rfl, hs, hD.moved f1 (by decide), hf.inDk, fun a ha hg hb M2 s2 f2 => ?_, fun hno => ?_⟩
          · simp (maxSteps := 2000000) [bk_X6_auto_0, bk_X6_auto_10, bk_X6_auto_12, bk_X6_auto_34, bk_X6_auto_49, pm_call, pm_e_c0, pm_e_c1, pm_e_cti, pm_e_ctl, pm_e_ctr, pm_e_go, pm_e_i, pm_e_ii, pm_e_ldi, pm_e_ldr, pm_e_lk, pm_e_r, pm_e_rm0, pm_e_rm1, pm_e_rs0, pm_e_rs1, pm_e_wp0, pm_e_wp1, pm_f2, pm_f3, pm_fld, pm_fv, pm_obj, pm_recv, pm_s_aload_n, pm_s_bipush, pm_s_getfield, pm_s_goto, pm_s_iconst, pm_s_ifCond_eq, pm_s_ifCond_le, pm_s_ifCond_ne, pm_s_if_icmp_ge, pm_s_iinc, pm_s_iload_n, pm_s_invokevirtual, pm_s_ireturn, pm_s_istore_n, ct_X6_auto, tt_X6_allLaid, pS, pR, pC, pE, pL, -Int32.not_le, -Int32.not_lt, -Int64.not_le, -Int64.not_lt, -List.getD_eq_getElem?_getD]
            refine ⟨fun h => absurd h (by decide), fun _ => ?_⟩
            have f2' : pm_fr [5, 6, 7, 8, 9, 10] M' M2 := f2
            have efst : fstG (aP A) (pE (aP A)) S = a := by
              rcases fstG_e (P := aP A) (ec := pE (aP A)) (S := S) with ⟨-, q⟩ | ⟨q1, q2, q3⟩
              · have := q a ha; rw [hg] at this; exact absurd this (by simp)
              · rcases Nat.lt_trichotomy (fstG (aP A) (pE (aP A)) S) a with w | w | w
                · have := hb _ w; rw [q2] at this; exact absurd this (by simp)
                · exact w
                · have := q3 a w; rw [hg] at this; exact absurd this (by simp)
            rw [hun, efst, if_neg (by omega)] at he
            refine ih (n + 1) _ M2 (by omega) ?_ s2 (WF.mv hP hE hf (by decide) (goes_can hg)) (f1.trans f2')
            rw [he]; congr 1; simp only; omega
          · simp (maxSteps := 2000000) [bk_X6_auto_0, bk_X6_auto_10, bk_X6_auto_12, bk_X6_auto_34, bk_X6_auto_49, pm_call, pm_e_c0, pm_e_c1, pm_e_cti, pm_e_ctl, pm_e_ctr, pm_e_go, pm_e_i, pm_e_ii, pm_e_ldi, pm_e_ldr, pm_e_lk, pm_e_r, pm_e_rm0, pm_e_rm1, pm_e_rs0, pm_e_rs1, pm_e_wp0, pm_e_wp1, pm_f2, pm_f3, pm_fld, pm_fv, pm_obj, pm_recv, pm_s_aload_n, pm_s_bipush, pm_s_getfield, pm_s_goto, pm_s_iconst, pm_s_ifCond_eq, pm_s_ifCond_le, pm_s_ifCond_ne, pm_s_if_icmp_ge, pm_s_iinc, pm_s_iload_n, pm_s_invokevirtual, pm_s_ireturn, pm_s_istore_n, ct_X6_auto, tt_X6_allLaid, pS, pR, pC, pE, pL, -Int32.not_le, -Int32.not_lt, -Int64.not_le, -Int64.not_lt, -List.getD_eq_getElem?_getD]
            refine ⟨fun _ => ?_, fun h => absurd rfl h⟩
            have efst : fstG (aP A) (pE (aP A)) S = 6 := by
              rcases fstG_e (P := aP A) (ec := pE (aP A)) (S := S) with ⟨q, -⟩ | ⟨q1, q2, q3⟩
              · exact q
              · have := hno _ q1; rw [q2] at this; exact absurd this (by simp)
            rw [hun, efst, if_pos rfl] at he
            exact out n S M' (by omega) (by rw [he]; show (0 + n, S) = (n, S); rw [Nat.zero_add]) hs hf f1
      refine hb10 _ _ _ ?_
      simp (maxSteps := 2000000) [bk_X6_auto_0, bk_X6_auto_10, bk_X6_auto_12, bk_X6_auto_34, bk_X6_auto_49, pm_call, pm_e_c0, pm_e_c1, pm_e_cti, pm_e_ctl, pm_e_ctr, pm_e_go, pm_e_i, pm_e_ii, pm_e_ldi, pm_e_ldr, pm_e_lk, pm_e_r, pm_e_rm0, pm_e_rm1, pm_e_rs0, pm_e_rs1, pm_e_wp0, pm_e_wp1, pm_f2, pm_f3, pm_fld, pm_fv, pm_obj, pm_recv, pm_s_aload_n, pm_s_bipush, pm_s_getfield, pm_s_goto, pm_s_iconst, pm_s_ifCond_eq, pm_s_ifCond_le, pm_s_ifCond_ne, pm_s_if_icmp_ge, pm_s_iinc, pm_s_iload_n, pm_s_invokevirtual, pm_s_ireturn, pm_s_istore_n, ct_X6_auto, tt_X6_allLaid, pS, pR, pC, pE, pL, -Int32.not_le, -Int32.not_lt, -Int64.not_le, -Int64.not_lt, -List.getD_eq_getElem?_getD]
      exact loop 12 0 (aS A) M (by omega) rfl hS hfw pm_fr.rfl
    · rw [if_neg (by simp [hl])] at hT
      exact hT M hM
  · exact hT.elim
