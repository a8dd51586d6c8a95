theorem laid_lt {A : Ab} (hA : okA A) : (nI (pS (aP A) * pR (aP A)) ≤ nI (lcn A)) = (alL A = true) := by
  have h12 := hA.1.2.2.2.2.1
  have hl := hA.lcl
  rw [ni_le (by omega) (by omega)]
  unfold alL
  rw [decide_eq_true_eq]
  exact propext ⟨fun h => by omega, fun h => by omega⟩
theorem MY.kp {M M' : pm_M} {A : Ab} {S : St} {w : Nat} (h : MY M A) (hS : SdY M' 2 0 (pR (aP A)) S) (hH : HsY M' (pR (aP A)) (kpH (aH A) (aPr A) S) (min (aPr A + 1) 64) (min (aPr A + 1) 64)) (hw : M'.1 0 7 = nI w) (hf : yfr [2, 3, 4, 5, 6, 7, 8, 9, 10, 11, 12, 13] [7, 12, 13, 22] M M') : MY M' (kpA A S w) := by
  obtain ⟨hD, -, hL, h5', h7', -, hPl, hTr, hQ⟩ := h
  refine ⟨hD.mv hf (by decide), hS, hL.mv hf (by decide), ?_, hw, hH, hPl.mv hf (by decide) (by decide), try_mv hTr hf (by decide), ?_⟩
  · rw [hf.f (by decide)]; exact h5'
  · rw [hf.f (by decide)]; exact hQ
def tt_X7_move : pm_T := fun args M k => match args with
  | [.ref 0, .int x, .int y] => ∃ A, okA A ∧ MY M A ∧ ∀ M', MY M' (fMove A x y).2 → k (some (.int (fMove A x y).1)) M'
  | _ => False
abbrev ct_X7_move : List pm_C := [(false, 176, 7, 4, (some .boolean), tt_X7_isMove), (false, 139, 7, 1, (some .int), tt_X7_cards), (false, 179, 7, 1, none, tt_X7_tryStand), (false, 182, 7, 3, (some .int), tt_X7_whyNot), (false, 186, 7, 3, none, tt_X7_doMove), (false, 189, 7, 1, none, tt_X7_done)]
set_option maxHeartbeats 4000000 in
theorem sm_X7_move  : pm_Sem SHy yX7_move cX7_move 3 (some .int) 3 tt_X7_move := by
  refine pm_Sem_intro bl_X7_move ct_X7_move cs_X7_move rfl (List.forall_mem_cons.mpr ⟨⟨_, _, _, _, sm_X7_isMove, by decide, cm_X7_isMove, by decide +kernel⟩, List.forall_mem_cons.mpr ⟨⟨_, _, _, _, sm_X7_cards, by decide, cm_X7_cards, by decide +kernel⟩, List.forall_mem_cons.mpr ⟨⟨_, _, _, _, sm_X7_tryStand, by decide, cm_X7_tryStand, by decide +kernel⟩, List.forall_mem_cons.mpr ⟨⟨_, _, _, _, sm_X7_whyNot, by decide, cm_X7_whyNot, by decide +kernel⟩, List.forall_mem_cons.mpr ⟨⟨_, _, _, _, sm_X7_doMove, by decide, cm_X7_doMove, by decide +kernel⟩, List.forall_mem_cons.mpr ⟨⟨_, _, _, _, sm_X7_done, by decide, cm_X7_done, by decide +kernel⟩, fun _ h => absurd h List.not_mem_nil⟩⟩⟩⟩⟩⟩) ck_X7_move (by decide +kernel) (by decide) ?_
  intro X k hX args M hT
  have hb0 := hX 0 bk_X7_move_0 (List.mem_of_getElem? (i := 0) rfl)
  have hb16 := hX 16 bk_X7_move_16 (List.mem_of_getElem? (i := 1) rfl)
  have hb30 := hX 30 bk_X7_move_30 (List.mem_of_getElem? (i := 2) rfl)
  have hb53 := hX 53 bk_X7_move_53 (List.mem_of_getElem? (i := 3) rfl)
  clear hX
  unfold tt_X7_move at hT; split at hT
  · next x y =>
    obtain ⟨A, hA, hM, hT⟩ := hT
    obtain ⟨hD, hS, hL, h5', h7', hH, hPl, hTr, hQ⟩ := id hM
    have hP := hA.1
    have hE := hP.2.2.2.2.2.2.2.1
    obtain ⟨-, m0, m1, m2, m3, m4⟩ := id hD
    have hal := laid_lt hA
    unfold fMove at hT
    refine ⟨by simp [lg_sl, Value.category], ?_⟩
    refine hb0 _ _ _ ?_
    simp (maxSteps := 2000000) [bk_X7_move_0, bk_X7_move_16, bk_X7_move_30, bk_X7_move_53, pm_call, pm_e_c0, pm_e_c1, pm_e_cti, pm_e_ctl, pm_e_ctr, pm_e_go, pm_e_i, pm_e_ii, pm_e_ldi, pm_e_ldr, pm_e_lk, pm_e_r, pm_e_rm0, pm_e_rm1, pm_e_rs0, pm_e_rs1, pm_e_wp0, pm_e_wp1, pm_f2, pm_f3, pm_fld, pm_fv, pm_obj, pm_recv, pm_s_aload_n, pm_s_bipush, pm_s_getfield, pm_s_iconst, pm_s_ifCond_eq, pm_s_ifCond_ne, pm_s_if_icmp_ge, pm_s_iload_n, pm_s_invokevirtual, pm_s_ireturn, pm_s_putfield, ct_X7_move, tt_X7_cards, pS, pR, pC, pE, pL, -Int32.not_le, -Int32.not_lt, -Int64.not_le, -Int64.not_lt, -List.getD_eq_getElem?_getD, lv_args, sy_0]
    refine ⟨aP A, pE (aP A), hD, hE, m3, ?_⟩
    simp (maxSteps := 2000000) [bk_X7_move_0, bk_X7_move_16, bk_X7_move_30, bk_X7_move_53, pm_call, pm_e_c0, pm_e_c1, pm_e_cti, pm_e_ctl, pm_e_ctr, pm_e_go, pm_e_i, pm_e_ii, pm_e_ldi, pm_e_ldr, pm_e_lk, pm_e_r, pm_e_rm0, pm_e_rm1, pm_e_rs0, pm_e_rs1, pm_e_wp0, pm_e_wp1, pm_f2, pm_f3, pm_fld, pm_fv, pm_obj, pm_recv, pm_s_aload_n, pm_s_bipush, pm_s_getfield, pm_s_iconst, pm_s_ifCond_eq, pm_s_ifCond_ne, pm_s_if_icmp_ge, pm_s_iload_n, pm_s_invokevirtual, pm_s_ireturn, pm_s_putfield, ct_X7_move, tt_X7_cards, pS, pR, pC, pE, pL, -Int32.not_le, -Int32.not_lt, -Int64.not_le, -Int64.not_lt, -List.getD_eq_getElem?_getD, pb_eq0]
    refine ⟨fun hn => ?_, fun hn => ?_⟩
    · rw [if_pos hn] at hT
      obtain ⟨x1, x2, y1, y2, hnn⟩ := nmF_tn hP hE hn
      refine hb16 _ _ _ ?_
      simp (maxSteps := 2000000) [bk_X7_move_0, bk_X7_move_16, bk_X7_move_30, bk_X7_move_53, pm_call, pm_e_c0, pm_e_c1, pm_e_cti, pm_e_ctl, pm_e_ctr, pm_e_go, pm_e_i, pm_e_ii, pm_e_ldi, pm_e_ldr, pm_e_lk, pm_e_r, pm_e_rm0, pm_e_rm1, pm_e_rs0, pm_e_rs1, pm_e_wp0, pm_e_wp1, pm_f2, pm_f3, pm_fld, pm_fv, pm_obj, pm_recv, pm_s_aload_n, pm_s_bipush, pm_s_getfield, pm_s_iconst, pm_s_ifCond_eq, pm_s_ifCond_ne, pm_s_if_icmp_ge, pm_s_iload_n, pm_s_invokevirtual, pm_s_ireturn, pm_s_putfield, ct_X7_move, tt_X7_cards, pS, pR, pC, pE, pL, -Int32.not_le, -Int32.not_lt, -Int64.not_le, -Int64.not_lt, -List.getD_eq_getElem?_getD, sy_0, h5', m0, m1]
      dsimp only [pS, pR] at hal
      rw [ni_mul, hal]
      refine ⟨fun hl => ?_, fun hl => ?_⟩
      · rw [if_pos hl] at hT
        have hfw := hA.fw hl
        have lS := WF.l12 hP hfw
        have hwl := whyF_le (aP A) (pE (aP A)) (aS A) (tn x) (tn y)
        refine hb30 _ _ _ ?_
        simp (maxSteps := 2000000) [bk_X7_move_0, bk_X7_move_16, bk_X7_move_30, bk_X7_move_53, pm_call, pm_e_c0, pm_e_c1, pm_e_cti, pm_e_ctl, pm_e_ctr, pm_e_go, pm_e_i, pm_e_ii, pm_e_ldi, pm_e_ldr, pm_e_lk, pm_e_r, pm_e_rm0, pm_e_rm1, pm_e_rs0, pm_e_rs1, pm_e_wp0, pm_e_wp1, pm_f2, pm_f3, pm_fld, pm_fv, pm_obj, pm_recv, pm_s_aload_n, pm_s_bipush, pm_s_getfield, pm_s_iconst, pm_s_ifCond_eq, pm_s_ifCond_ne, pm_s_if_icmp_ge, pm_s_iload_n, pm_s_invokevirtual, pm_s_ireturn, pm_s_putfield, ct_X7_move, tt_X7_cards, pS, pR, pC, pE, pL, -Int32.not_le, -Int32.not_lt, -Int64.not_le, -Int64.not_lt, -List.getD_eq_getElem?_getD, sy_0]
        intro M1 c1 k1 e22 f1
        have s1 : SdY M1 10 0 (pR (aP A)) (aS A) := c1.sd hS lS
        have d1 := hD.mv f1 (by decide)
        have e22' : M1.1 0 22 = nI (pE (aP A)) := by rw [e22]; exact m3
        simp (maxSteps := 2000000) [bk_X7_move_0, bk_X7_move_16, bk_X7_move_30, bk_X7_move_53, pm_call, pm_e_c0, pm_e_c1, pm_e_cti, pm_e_ctl, pm_e_ctr, pm_e_go, pm_e_i, pm_e_ii, pm_e_ldi, pm_e_ldr, pm_e_lk, pm_e_r, pm_e_rm0, pm_e_rm1, pm_e_rs0, pm_e_rs1, pm_e_wp0, pm_e_wp1, pm_f2, pm_f3, pm_fld, pm_fv, pm_obj, pm_recv, pm_s_aload_n, pm_s_bipush, pm_s_getfield, pm_s_iconst, pm_s_ifCond_eq, pm_s_ifCond_ne, pm_s_if_icmp_ge, pm_s_iload_n, pm_s_invokevirtual, pm_s_ireturn, pm_s_putfield, ct_X7_move, tt_X7_cards, pS, pR, pC, pE, pL, -Int32.not_le, -Int32.not_lt, -Int64.not_le, -Int64.not_lt, -List.getD_eq_getElem?_getD, sy_0]
        refine ⟨aP A, pE (aP A), aS A, tn x, tn y, x1, y1, x2, y2, d1, hE, e22', s1, hfw.ok hP, hfw.inDk, ?_⟩
        simp (maxSteps := 2000000) [bk_X7_move_0, bk_X7_move_16, bk_X7_move_30, bk_X7_move_53, pm_call, pm_e_c0, pm_e_c1, pm_e_cti, pm_e_ctl, pm_e_ctr, pm_e_go, pm_e_i, pm_e_ii, pm_e_ldi, pm_e_ldr, pm_e_lk, pm_e_r, pm_e_rm0, pm_e_rm1, pm_e_rs0, pm_e_rs1, pm_e_wp0, pm_e_wp1, pm_f2, pm_f3, pm_fld, pm_fv, pm_obj, pm_recv, pm_s_aload_n, pm_s_bipush, pm_s_getfield, pm_s_iconst, pm_s_ifCond_eq, pm_s_ifCond_ne, pm_s_if_icmp_ge, pm_s_iload_n, pm_s_invokevirtual, pm_s_ireturn, pm_s_putfield, ct_X7_move, tt_X7_cards, pS, pR, pC, pE, pL, -Int32.not_le, -Int32.not_lt, -Int64.not_le, -Int64.not_lt, -List.getD_eq_getElem?_getD, sy_0]
        have g2 : yfr [] [7] M1 (pm_set M1 0 7 (nI (whyF (aP A) (pE (aP A)) (aS A) (tn x) (tn y)))) := yfr.rfl.set0 (by decide)
        have e7 : (pm_set M1 0 7 (nI (whyF (aP A) (pE (aP A)) (aS A) (tn x) (tn y)))).1 0 7 = nI (whyF (aP A) (pE (aP A)) (aS A) (tn x) (tn y)) := by simp [pm_set]
        dsimp only [pE] at g2 e7 hwl
        generalize pm_set M1 0 7 (nI (whyF (aP A) (aP A).2.2.2.1 (aS A) (tn x) (tn y))) = M2 at *
        rw [e7]
        simp (disch := omega) only [ni_in, ni_cl, ni_add, ni_mul, ni_sub, ni_lt, ni_le, ni_eq, ni_eq0, ni_lt0, ni_0le, ni_0lt, ni_le0, ni_a1, ni_a3, ni_a7, ni_a15]
        have g12 : yfr [10, 11, 12, 13] [7, 22] M M2 := (f1.mono (by decide) (by decide)).trans (g2.mono (by simp) (by decide))
        refine ⟨fun hw => ?_, fun hw => ?_⟩
        · rw [if_pos hw] at hT
          rw [hw] at e7
          have hcan : canN (aP A) (pE (aP A)) (aS A) (tn x) (tn y) = true := by unfold canN; rw [hnn]; exact decide_eq_true hw
          have hwf := WF.mv hP hE hfw y2 hcan
          refine hb53 _ _ _ ?_
          simp (maxSteps := 2000000) [bk_X7_move_0, bk_X7_move_16, bk_X7_move_30, bk_X7_move_53, pm_call, pm_e_c0, pm_e_c1, pm_e_cti, pm_e_ctl, pm_e_ctr, pm_e_go, pm_e_i, pm_e_ii, pm_e_ldi, pm_e_ldr, pm_e_lk, pm_e_r, pm_e_rm0, pm_e_rm1, pm_e_rs0, pm_e_rs1, pm_e_wp0, pm_e_wp1, pm_f2, pm_f3, pm_fld, pm_fv, pm_obj, pm_recv, pm_s_aload_n, pm_s_bipush, pm_s_getfield, pm_s_iconst, pm_s_ifCond_eq, pm_s_ifCond_ne, pm_s_if_icmp_ge, pm_s_iload_n, pm_s_invokevirtual, pm_s_ireturn, pm_s_putfield, ct_X7_move, tt_X7_cards, pS, pR, pC, pE, pL, -Int32.not_le, -Int32.not_lt, -Int64.not_le, -Int64.not_lt, -List.getD_eq_getElem?_getD, sy_0]
          refine ⟨aP A, pE (aP A), aS A, tn x, tn y, x1, y1, y2, d1.mv g2 (by decide), hE, by rw [g2.f (by decide)]; exact e22', s1.mv g2 (by decide) (by decide), hfw, hcan, fun M3 s3 f3 => ?_⟩
          simp (maxSteps := 2000000) [bk_X7_move_0, bk_X7_move_16, bk_X7_move_30, bk_X7_move_53, pm_call, pm_e_c0, pm_e_c1, pm_e_cti, pm_e_ctl, pm_e_ctr, pm_e_go, pm_e_i, pm_e_ii, pm_e_ldi, pm_e_ldr, pm_e_lk, pm_e_r, pm_e_rm0, pm_e_rm1, pm_e_rs0, pm_e_rs1, pm_e_wp0, pm_e_wp1, pm_f2, pm_f3, pm_fld, pm_fv, pm_obj, pm_recv, pm_s_aload_n, pm_s_bipush, pm_s_getfield, pm_s_iconst, pm_s_ifCond_eq, pm_s_ifCond_ne, pm_s_if_icmp_ge, pm_s_iload_n, pm_s_invokevirtual, pm_s_ireturn, pm_s_putfield, ct_X7_move, tt_X7_cards, pS, pR, pC, pE, pL, -Int32.not_le, -Int32.not_lt, -Int64.not_le, -Int64.not_lt, -List.getD_eq_getElem?_getD, sy_0]
          have g13 : yfr [10, 11, 12, 13] [7, 22] M M3 := g12.trans (f3.mono (by decide) (by simp))
          refine ⟨pR (aP A), aS A, _, aH A, aPr A, aLa A, hS.mv g13 (by decide) (by decide), s3, hH.mv g13 (by decide) (by decide), hA.2.2.2.1, lS, WF.l12 hP hwf, hA.l12H, hA.2.2.1.1, hA.2.2.1.2, fun M4 s4 h4 f4 => ?_⟩
          simp (maxSteps := 2000000) [bk_X7_move_0, bk_X7_move_16, bk_X7_move_30, bk_X7_move_53, pm_call, pm_e_c0, pm_e_c1, pm_e_cti, pm_e_ctl, pm_e_ctr, pm_e_go, pm_e_i, pm_e_ii, pm_e_ldi, pm_e_ldr, pm_e_lk, pm_e_r, pm_e_rm0, pm_e_rm1, pm_e_rs0, pm_e_rs1, pm_e_wp0, pm_e_wp1, pm_f2, pm_f3, pm_fld, pm_fv, pm_obj, pm_recv, pm_s_aload_n, pm_s_bipush, pm_s_getfield, pm_s_iconst, pm_s_ifCond_eq, pm_s_ifCond_ne, pm_s_if_icmp_ge, pm_s_iload_n, pm_s_invokevirtual, pm_s_ireturn, pm_s_putfield, ct_X7_move, tt_X7_cards, pS, pR, pC, pE, pL, -Int32.not_le, -Int32.not_lt, -Int64.not_le, -Int64.not_lt, -List.getD_eq_getElem?_getD]
          refine hT M4 (hM.kp s4 h4 ?_ ((g13.mono (by decide) (by decide)).trans (f4.mono (by decide) (by decide))))
          rw [f4.f (by decide), f3.f (by simp)]; exact e7
        · rw [if_neg hw] at hT
          refine hT M2 ⟨hD.mv g12 (by decide), hS.mv g12 (by decide) (by decide), hL.mv g12 (by decide), ?_, e7, hH.mv g12 (by decide) (by decide), hPl.mv g12 (by decide) (by decide), try_mv hTr g12 (by decide), ?_⟩
          · rw [g12.f (by decide)]; exact h5'
          · rw [g12.f (by decide)]; exact hQ
      · rw [if_neg hl] at hT
        exact hT M hM
    · rw [if_neg (by rw [show nmF (nI (pC (aP A))) (nI (pE (aP A))) x y = false from hn]; simp)] at hT
      exact hT M hM
  · exact hT.elim
def tt_X7_isSafe : pm_T := fun args M k => match args with
  | [.ref 0, .int x] => ∃ (P : Pm) (d : Nat) (S : St), x = nI (cdN (pR P) d) ∧ DkY M P ∧ SdY M 10 0 (pR P) S ∧ okS S ∧ (1 ≤ d ∧ d ≤ pS P * pR P) ∧ k (some (.int (pb (safeF P S d)))) M
  | _ => False
abbrev ct_X7_isSafe : List pm_C := []
set_option maxHeartbeats 4000000 in
theorem sm_X7_isSafe  : pm_Sem SHy yX7_isSafe cX7_isSafe 3 (some .boolean) 1 tt_X7_isSafe := by
  refine pm_Sem_intro bl_X7_isSafe ct_X7_isSafe cs_X7_isSafe rfl (fun _ h => absurd h List.not_mem_nil) ck_X7_isSafe (by decide +kernel) (by decide) ?_
  intro X k hX args M hT
  have hb0 := hX 0 bk_X7_isSafe_0 (List.mem_of_getElem? (i := 0) rfl)
  have hb10 := hX 10 bk_X7_isSafe_10 (List.mem_of_getElem? (i := 1) rfl)
  have hb20 := hX 20 bk_X7_isSafe_20 (List.mem_of_getElem? (i := 2) rfl)
  have hb22 := hX 22 bk_X7_isSafe_22 (List.mem_of_getElem? (i := 3) rfl)
  have hb51 := hX 51 bk_X7_isSafe_51 (List.mem_of_getElem? (i := 4) rfl)
  have hb68 := hX 68 bk_X7_isSafe_68 (List.mem_of_getElem? (i := 5) rfl)
  have hb74 := hX 74 bk_X7_isSafe_74 (List.mem_of_getElem? (i := 6) rfl)
  clear hX
  unfold tt_X7_isSafe at hT; split at hT
  · next x =>
    obtain ⟨P, d, S, rfl, hD, hS, hO, ⟨d1, d2⟩, hT⟩ := hT
    have hP := hD.1
    obtain ⟨h1, h2, h3, h4, h5, h6, h7, h8, h9⟩ := id hP
    obtain ⟨-, m0, m1, m2, m3, m4⟩ := id hD
    obtain ⟨c1, c2⟩ := cd_sh hP d1 d2
    have un := su_lt h3 d1 d2
    have rl := ra_le (n := d) h3
    have rg := ra_ge (r := pR P) (n := d)
    have h32 := cdN_le hP d2
    unfold safeF at hT
    dsimp only [pS, pR, pC, pE, pL] at *
    refine ⟨by simp [lg_sl, Value.category], ?_⟩
    refine hb0 _ _ _ ?_
    simp (maxSteps := 2000000) [bk_X7_isSafe_0, bk_X7_isSafe_10, bk_X7_isSafe_20, bk_X7_isSafe_22, bk_X7_isSafe_51, bk_X7_isSafe_68, bk_X7_isSafe_74, pm_arr, pm_e_c0, pm_e_c1, pm_e_cti, pm_e_ctl, pm_e_ctr, pm_e_go, pm_e_i, pm_e_ii, pm_e_ldi, pm_e_ldr, pm_e_lk, pm_e_r, pm_e_ri, pm_e_rm0, pm_e_rm1, pm_e_rs0, pm_e_rs1, pm_e_wp0, pm_e_wp1, pm_f2, pm_f3, pm_fld, pm_fv, pm_obj, pm_s_aload_n, pm_s_bipush, pm_s_getfield, pm_s_goto, pm_s_iaload, pm_s_iand, pm_s_iconst, pm_s_ifCond_ne, pm_s_if_icmp_ge, pm_s_if_icmp_le, pm_s_if_icmp_ne, pm_s_iinc, pm_s_iload_n, pm_s_ireturn, pm_s_ishr, pm_s_istore_n, pm_s_isub, pm_s_ixor, ct_X7_isSafe, pS, pR, pC, pE, pL, -Int32.not_le, -Int32.not_lt, -Int64.not_le, -Int64.not_lt, -List.getD_eq_getElem?_getD, lv_args, sy_0, m4]
    simp (disch := omega) only [ni_in, ni_cl, ni_add, ni_mul, ni_sub, ni_lt, ni_le, ni_eq, ni_eq0, ni_lt0, ni_0le, ni_0lt, ni_le0, ni_a1, ni_a3, ni_a7, ni_a15]
    refine ⟨fun hl1 => ?_, fun hl1 => ?_⟩
    · rw [if_neg hl1] at hT
      refine hb10 _ _ _ ?_
      simp (maxSteps := 2000000) [bk_X7_isSafe_0, bk_X7_isSafe_10, bk_X7_isSafe_20, bk_X7_isSafe_22, bk_X7_isSafe_51, bk_X7_isSafe_68, bk_X7_isSafe_74, pm_arr, pm_e_c0, pm_e_c1, pm_e_cti, pm_e_ctl, pm_e_ctr, pm_e_go, pm_e_i, pm_e_ii, pm_e_ldi, pm_e_ldr, pm_e_lk, pm_e_r, pm_e_ri, pm_e_rm0, pm_e_rm1, pm_e_rs0, pm_e_rs1, pm_e_wp0, pm_e_wp1, pm_f2, pm_f3, pm_fld, pm_fv, pm_obj, pm_s_aload_n, pm_s_bipush, pm_s_getfield, pm_s_goto, pm_s_iaload, pm_s_iand, pm_s_iconst, pm_s_ifCond_ne, pm_s_if_icmp_ge, pm_s_if_icmp_le, pm_s_if_icmp_ne, pm_s_iinc, pm_s_iload_n, pm_s_ireturn, pm_s_ishr, pm_s_istore_n, pm_s_isub, pm_s_ixor, ct_X7_isSafe, pS, pR, pC, pE, pL, -Int32.not_le, -Int32.not_lt, -Int64.not_le, -Int64.not_lt, -List.getD_eq_getElem?_getD, sy_0, m4]
      simp (disch := omega) only [ni_in, ni_cl, ni_add, ni_mul, ni_sub, ni_lt, ni_le, ni_eq, ni_eq0, ni_lt0, ni_0le, ni_0lt, ni_le0, ni_a1, ni_a3, ni_a7, ni_a15]
      refine ⟨fun hl2 => ?_, fun hl2 => ?_⟩
      · have hl : P.2.2.2.2 = 0 ∨ P.2.2.2.2 = 2 := by omega
        rw [if_pos hl] at hT
        have loop : ∀ (f t : Nat), P.1 ≤ t + f → t ≤ P.1 → (∀ u, u < t → ((decide (P.2.2.2.2 = 0) || !decide (u % 2 = su P.2.1 d % 2)) && decide (S.2.2 u < ra P.2.1 d - 1)) = false) → X 22 [(0, .ref 0), (1, .int (nI (cdN P.2.1 d))), (2, .int (nI t))] [] M := by
          intro f
          have out : (∀ u, u < P.1 → ((decide (P.2.2.2.2 = 0) || !decide (u % 2 = su P.2.1 d % 2)) && decide (S.2.2 u < ra P.2.1 d - 1)) = false) → X 74 [] [] M := by
            intro hn
            rw [anyN_no hn] at hT
            refine hb74 _ _ _ ?_
            simp (maxSteps := 2000000) [bk_X7_isSafe_0, bk_X7_isSafe_10, bk_X7_isSafe_20, bk_X7_isSafe_22, bk_X7_isSafe_51, bk_X7_isSafe_68, bk_X7_isSafe_74, pm_arr, pm_e_c0, pm_e_c1, pm_e_cti, pm_e_ctl, pm_e_ctr, pm_e_go, pm_e_i, pm_e_ii, pm_e_ldi, pm_e_ldr, pm_e_lk, pm_e_r, pm_e_ri, pm_e_rm0, pm_e_rm1, pm_e_rs0, pm_e_rs1, pm_e_wp0, pm_e_wp1, pm_f2, pm_f3, pm_fld, pm_fv, pm_obj, pm_s_aload_n, pm_s_bipush, pm_s_getfield, pm_s_goto, pm_s_iaload, pm_s_iand, pm_s_iconst, pm_s_ifCond_ne, pm_s_if_icmp_ge, pm_s_if_icmp_le, pm_s_if_icmp_ne, pm_s_iinc, pm_s_iload_n, pm_s_ireturn, pm_s_ishr, pm_s_istore_n, pm_s_isub, pm_s_ixor, ct_X7_isSafe, pS, pR, pC, pE, pL, -Int32.not_le, -Int32.not_lt, -Int64.not_le, -Int64.not_lt, -List.getD_eq_getElem?_getD]
            exact ⟨Or.inr rfl, hT⟩
          induction f with
          | zero =>
            intro t f1 f2 hn
            have e : t = P.1 := by omega
            subst e
            refine hb22 _ _ _ ?_
            simp (maxSteps := 2000000) [bk_X7_isSafe_0, bk_X7_isSafe_10, bk_X7_isSafe_20, bk_X7_isSafe_22, bk_X7_isSafe_51, bk_X7_isSafe_68, bk_X7_isSafe_74, pm_arr, pm_e_c0, pm_e_c1, pm_e_cti, pm_e_ctl, pm_e_ctr, pm_e_go, pm_e_i, pm_e_ii, pm_e_ldi, pm_e_ldr, pm_e_lk, pm_e_r, pm_e_ri, pm_e_rm0, pm_e_rm1, pm_e_rs0, pm_e_rs1, pm_e_wp0, pm_e_wp1, pm_f2, pm_f3, pm_fld, pm_fv, pm_obj, pm_s_aload_n, pm_s_bipush, pm_s_getfield, pm_s_goto, pm_s_iaload, pm_s_iand, pm_s_iconst, pm_s_ifCond_ne, pm_s_if_icmp_ge, pm_s_if_icmp_le, pm_s_if_icmp_ne, pm_s_iinc, pm_s_iload_n, pm_s_ireturn, pm_s_ishr, pm_s_istore_n, pm_s_isub, pm_s_ixor, ct_X7_isSafe, pS, pR, pC, pE, pL, -Int32.not_le, -Int32.not_lt, -Int64.not_le, -Int64.not_lt, -List.getD_eq_getElem?_getD, sy_0, m0]
            exact out hn
          | succ f ih =>
            intro t f1 f2 hn
            by_cases ht : t < P.1
            · have hh6 := hO.2.2 t (by omega)
              have hh : M.1 13 t = _ := hS.h (show t < 4 by omega)
              have h68 : ((decide (P.2.2.2.2 = 0) || !decide (t % 2 = su P.2.1 d % 2)) && decide (S.2.2 t < ra P.2.1 d - 1)) = false → X 68 [(0, .ref 0), (1, .int (nI (cdN P.2.1 d))), (2, .int (nI t))] [] M := by
                intro hf
                refine hb68 _ _ _ ?_
                simp (maxSteps := 2000000) [bk_X7_isSafe_0, bk_X7_isSafe_10, bk_X7_isSafe_20, bk_X7_isSafe_22, bk_X7_isSafe_51, bk_X7_isSafe_68, bk_X7_isSafe_74, pm_arr, pm_e_c0, pm_e_c1, pm_e_cti, pm_e_ctl, pm_e_ctr, pm_e_go, pm_e_i, pm_e_ii, pm_e_ldi, pm_e_ldr, pm_e_lk, pm_e_r, pm_e_ri, pm_e_rm0, pm_e_rm1, pm_e_rs0, pm_e_rs1, pm_e_wp0, pm_e_wp1, pm_f2, pm_f3, pm_fld, pm_fv, pm_obj, pm_s_aload_n, pm_s_bipush, pm_s_getfield, pm_s_goto, pm_s_iaload, pm_s_iand, pm_s_iconst, pm_s_ifCond_ne, pm_s_if_icmp_ge, pm_s_if_icmp_le, pm_s_if_icmp_ne, pm_s_iinc, pm_s_iload_n, pm_s_ireturn, pm_s_ishr, pm_s_istore_n, pm_s_isub, pm_s_ixor, ct_X7_isSafe, pS, pR, pC, pE, pL, -Int32.not_le, -Int32.not_lt, -Int64.not_le, -Int64.not_lt, -List.getD_eq_getElem?_getD]
                rw [ni_add]
                refine ih (t + 1) (by omega) (by omega) (fun u hu => ?_)
                by_cases z : u = t
                · rw [z]; exact hf
                · exact hn u (by omega)
              have h51 : (decide (P.2.2.2.2 = 0) || !decide (t % 2 = su P.2.1 d % 2)) = true → X 51 [(0, .ref 0), (1, .int (nI (cdN P.2.1 d))), (2, .int (nI t))] [] M := by
                intro hq
                refine hb51 _ _ _ ?_
                simp (maxSteps := 2000000) [bk_X7_isSafe_0, bk_X7_isSafe_10, bk_X7_isSafe_20, bk_X7_isSafe_22, bk_X7_isSafe_51, bk_X7_isSafe_68, bk_X7_isSafe_74, pm_arr, pm_e_c0, pm_e_c1, pm_e_cti, pm_e_ctl, pm_e_ctr, pm_e_go, pm_e_i, pm_e_ii, pm_e_ldi, pm_e_ldr, pm_e_lk, pm_e_r, pm_e_ri, pm_e_rm0, pm_e_rm1, pm_e_rs0, pm_e_rs1, pm_e_wp0, pm_e_wp1, pm_f2, pm_f3, pm_fld, pm_fv, pm_obj, pm_s_aload_n, pm_s_bipush, pm_s_getfield, pm_s_goto, pm_s_iaload, pm_s_iand, pm_s_iconst, pm_s_ifCond_ne, pm_s_if_icmp_ge, pm_s_if_icmp_le, pm_s_if_icmp_ne, pm_s_iinc, pm_s_iload_n, pm_s_ireturn, pm_s_ishr, pm_s_istore_n, pm_s_isub, pm_s_ixor, ct_X7_isSafe, pS, pR, pC, pE, pL, -Int32.not_le, -Int32.not_lt, -Int64.not_le, -Int64.not_lt, -List.getD_eq_getElem?_getD, sy_0, sy_13]
                rw [c2]
                simp (disch := omega) only [ni_in, ni_cl, ni_add, ni_mul, ni_sub, ni_lt, ni_le, ni_eq, ni_eq0, ni_lt0, ni_0le, ni_0lt, ni_le0, ni_a1, ni_a3, ni_a7, ni_a15, hh]
                refine ⟨by omega, fun hge => h68 (by rw [hq, decide_eq_false (by omega)]; rfl), fun hlt => ?_⟩
                have hany : anyN P.1 (fun t => (decide (P.2.2.2.2 = 0) || !decide (t % 2 = su P.2.1 d % 2)) && decide (S.2.2 t < ra P.2.1 d - 1)) = true := anyN_iff.mpr ⟨t, ht, by rw [hq, decide_eq_true (by omega)]; rfl⟩
                rw [hany] at hT
                exact ⟨Or.inl trivial, hT⟩
              refine hb22 _ _ _ ?_
              simp (maxSteps := 2000000) [bk_X7_isSafe_0, bk_X7_isSafe_10, bk_X7_isSafe_20, bk_X7_isSafe_22, bk_X7_isSafe_51, bk_X7_isSafe_68, bk_X7_isSafe_74, pm_arr, pm_e_c0, pm_e_c1, pm_e_cti, pm_e_ctl, pm_e_ctr, pm_e_go, pm_e_i, pm_e_ii, pm_e_ldi, pm_e_ldr, pm_e_lk, pm_e_r, pm_e_ri, pm_e_rm0, pm_e_rm1, pm_e_rs0, pm_e_rs1, pm_e_wp0, pm_e_wp1, pm_f2, pm_f3, pm_fld, pm_fv, pm_obj, pm_s_aload_n, pm_s_bipush, pm_s_getfield, pm_s_goto, pm_s_iaload, pm_s_iand, pm_s_iconst, pm_s_ifCond_ne, pm_s_if_icmp_ge, pm_s_if_icmp_le, pm_s_if_icmp_ne, pm_s_iinc, pm_s_iload_n, pm_s_ireturn, pm_s_ishr, pm_s_istore_n, pm_s_isub, pm_s_ixor, ct_X7_isSafe, pS, pR, pC, pE, pL, -Int32.not_le, -Int32.not_lt, -Int64.not_le, -Int64.not_lt, -List.getD_eq_getElem?_getD, sy_0, m0, m4]
              rw [c1, ni_le (by omega) (by omega), ni_eq (by omega) (by decide), xor1 _ (by omega) _ (by omega)]
              refine ⟨fun z => by omega, fun _ => ⟨fun h2 => h51 (by rw [decide_eq_true (show P.2.2.2.2 = 0 by omega)]; rfl), fun h2 => ⟨fun hx => h51 (by rw [decide_eq_false hx]; simp), fun hx => h68 (by rw [decide_eq_true hx, decide_eq_false (show ¬ P.2.2.2.2 = 0 by omega)]; rfl)⟩⟩⟩
            · have e : t = P.1 := by omega
              subst e
              refine hb22 _ _ _ ?_
              simp (maxSteps := 2000000) [bk_X7_isSafe_0, bk_X7_isSafe_10, bk_X7_isSafe_20, bk_X7_isSafe_22, bk_X7_isSafe_51, bk_X7_isSafe_68, bk_X7_isSafe_74, pm_arr, pm_e_c0, pm_e_c1, pm_e_cti, pm_e_ctl, pm_e_ctr, pm_e_go, pm_e_i, pm_e_ii, pm_e_ldi, pm_e_ldr, pm_e_lk, pm_e_r, pm_e_ri, pm_e_rm0, pm_e_rm1, pm_e_rs0, pm_e_rs1, pm_e_wp0, pm_e_wp1, pm_f2, pm_f3, pm_fld, pm_fv, pm_obj, pm_s_aload_n, pm_s_bipush, pm_s_getfield, pm_s_goto, pm_s_iaload, pm_s_iand, pm_s_iconst, pm_s_ifCond_ne, pm_s_if_icmp_ge, pm_s_if_icmp_le, pm_s_if_icmp_ne, pm_s_iinc, pm_s_iload_n, pm_s_ireturn, pm_s_ishr, pm_s_istore_n, pm_s_isub, pm_s_ixor, ct_X7_isSafe, pS, pR, pC, pE, pL, -Int32.not_le, -Int32.not_lt, -Int64.not_le, -Int64.not_lt, -List.getD_eq_getElem?_getD, sy_0, m0]
              exact out hn
        refine hb20 _ _ _ ?_
        simp (maxSteps := 2000000) [bk_X7_isSafe_0, bk_X7_isSafe_10, bk_X7_isSafe_20, bk_X7_isSafe_22, bk_X7_isSafe_51, bk_X7_isSafe_68, bk_X7_isSafe_74, pm_arr, pm_e_c0, pm_e_c1, pm_e_cti, pm_e_ctl, pm_e_ctr, pm_e_go, pm_e_i, pm_e_ii, pm_e_ldi, pm_e_ldr, pm_e_lk, pm_e_r, pm_e_ri, pm_e_rm0, pm_e_rm1, pm_e_rs0, pm_e_rs1, pm_e_wp0, pm_e_wp1, pm_f2, pm_f3, pm_fld, pm_fv, pm_obj, pm_s_aload_n, pm_s_bipush, pm_s_getfield, pm_s_goto, pm_s_iaload, pm_s_iand, pm_s_iconst, pm_s_ifCond_ne, pm_s_if_icmp_ge, pm_s_if_icmp_le, pm_s_if_icmp_ne, pm_s_iinc, pm_s_iload_n, pm_s_ireturn, pm_s_ishr, pm_s_istore_n, pm_s_isub, pm_s_ixor, ct_X7_isSafe, pS, pR, pC, pE, pL, -Int32.not_le, -Int32.not_lt, -Int64.not_le, -Int64.not_lt, -List.getD_eq_getElem?_getD]
        exact loop P.1 0 (by omega) (by omega) (fun u hu => by omega)
      · rw [if_neg (by omega)] at hT
        exact ⟨Or.inl trivial, hT⟩
    · rw [if_pos hl1] at hT
      exact ⟨Or.inr rfl, hT⟩
  · exact hT.elim
