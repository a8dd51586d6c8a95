def tt_X6_card : pm_T := fun args M k => match args with
  | [.ref 0, .int x, .int y] => ∃ ec S P, SdX M 5 ec S ∧ DkX M P ∧ inD P S ∧ (∀ i, i < pC P → x = nI i → (∀ j, j < (S.1 i).length → y = nI j → k (some (.int (nI (cdN (pR P) ((S.1 i).getD j 0))))) M) ∧ ((∀ j, j < (S.1 i).length → y ≠ nI j) → k (some (.int (nI 0))) M)) ∧ ((∀ i, i < pC P → x ≠ nI i) → k (some (.int (-nI 2))) M)
  | _ => False
abbrev ct_X6_card : List pm_C := [(false, 72, 6, 2, (some .boolean), tt_X6_isColumn), (false, 178, 4, 3, (some .int), tt_X4_cardAt), (false, 181, 0, 2, (some .int), tt_X0_codeOf)]
set_option maxHeartbeats 4000000 in
theorem sm_X6_card  : pm_Sem SHx yX6_card cX6_card 3 (some .int) 3 tt_X6_card := by
  refine pm_Sem_intro bl_X6_card ct_X6_card cs_X6_card rfl (List.forall_mem_cons.mpr ⟨⟨_, _, _, _, sm_X6_isColumn, by decide, cm_X6_isColumn, by decide +kernel⟩, List.forall_mem_cons.mpr ⟨⟨_, _, _, _, sm_X4_cardAt, by decide, cm_X4_cardAt, by decide +kernel⟩, List.forall_mem_cons.mpr ⟨⟨_, _, _, _, sm_X0_codeOf, by decide, cm_X0_codeOf, by decide +kernel⟩, fun _ h => absurd h List.not_mem_nil⟩⟩⟩) ck_X6_card (by decide +kernel) (by decide) ?_
  intro X k hX args M hT
  have hb0 := hX 0 bk_X6_card_0 (List.mem_of_getElem? (i := 0) rfl)
  have hb11 := hX 11 bk_X6_card_11 (List.mem_of_getElem? (i := 1) rfl)
  clear hX
  unfold tt_X6_card at hT; split at hT
  · next x y =>
    obtain ⟨ec, S, P, hS, hD, hI, hT1, hT2⟩ := hT
    have hP := hD.1.1
    obtain ⟨h1, h2, h3, h4, h5, h6, h7, h8, h9⟩ := hP
    have m5 := hD.1.2.1.2.2.1
    refine ⟨by simp [lg_sl, Value.category], ?_⟩
    refine hb0 _ _ _ ?_
    simp (maxSteps := 2000000) [bk_X6_card_0, bk_X6_card_11, pm_call, pm_e_c0, pm_e_c1, pm_e_cti, pm_e_ctl, pm_e_ctr, pm_e_go, pm_e_i, pm_e_ldi, pm_e_ldr, pm_e_lk, pm_e_r, pm_e_rm0, pm_e_rm1, pm_e_rs0, pm_e_rs1, pm_e_wp0, pm_e_wp1, pm_f2, pm_f3, pm_fld, pm_fv, pm_obj, pm_recv, pm_s_aload_n, pm_s_bipush, pm_s_getfield, pm_s_ifCond_ne, pm_s_iload_n, pm_s_invokevirtual, pm_s_ireturn, ct_X6_card, tt_X6_isColumn, tt_X0_codeOf, pS, pR, pC, pE, pL, -Int32.not_le, -Int32.not_lt, -Int64.not_le, -Int64.not_lt, -List.getD_eq_getElem?_getD, lv_args, sx_0, sx_1, pb_eq0, m5]
    dsimp only [pC] at h6 h7 hT1 hT2
    rw [ni_sub h6]
    refine ⟨fun hw => ?_, fun hw => ?_⟩
    · obtain ⟨i, rfl, i1, i2⟩ := wi_ex (by decide) (by omega) hw
      obtain ⟨hT3, hT4⟩ := hT1 i (by omega) rfl
      refine hb11 _ _ _ ?_
      simp (maxSteps := 2000000) [bk_X6_card_0, bk_X6_card_11, pm_call, pm_e_c0, pm_e_c1, pm_e_cti, pm_e_ctl, pm_e_ctr, pm_e_go, pm_e_i, pm_e_ldi, pm_e_ldr, pm_e_lk, pm_e_r, pm_e_rm0, pm_e_rm1, pm_e_rs0, pm_e_rs1, pm_e_wp0, pm_e_wp1, pm_f2, pm_f3, pm_fld, pm_fv, pm_obj, pm_recv, pm_s_aload_n, pm_s_bipush, pm_s_getfield, pm_s_ifCond_ne, pm_s_iload_n, pm_s_invokevirtual, pm_s_ireturn, ct_X6_card, tt_X6_isColumn, tt_X0_codeOf, pS, pR, pC, pE, pL, -Int32.not_le, -Int32.not_lt, -Int64.not_le, -Int64.not_lt, -List.getD_eq_getElem?_getD, sx_0, sx_1, sx_5]
      refine ⟨ec, S, i, Or.inl rfl, rfl, hS, by omega, fun j hj ej => ?_, fun hn => ?_⟩
      · simp (maxSteps := 2000000) [bk_X6_card_0, bk_X6_card_11, pm_call, pm_e_c0, pm_e_c1, pm_e_cti, pm_e_ctl, pm_e_ctr, pm_e_go, pm_e_i, pm_e_ldi, pm_e_ldr, pm_e_lk, pm_e_r, pm_e_rm0, pm_e_rm1, pm_e_rs0, pm_e_rs1, pm_e_wp0, pm_e_wp1, pm_f2, pm_f3, pm_fld, pm_fv, pm_obj, pm_recv, pm_s_aload_n, pm_s_bipush, pm_s_getfield, pm_s_ifCond_ne, pm_s_iload_n, pm_s_invokevirtual, pm_s_ireturn, ct_X6_card, tt_X6_isColumn, tt_X0_codeOf, pS, pR, pC, pE, pL, -Int32.not_le, -Int32.not_lt, -Int64.not_le, -Int64.not_lt, -List.getD_eq_getElem?_getD, sx_1]
        rw [code_n hD (hI.1 i (by omega) _ (getD_mem hj))]
        exact hT3 j hj ej
      · simp (maxSteps := 2000000) [bk_X6_card_0, bk_X6_card_11, pm_call, pm_e_c0, pm_e_c1, pm_e_cti, pm_e_ctl, pm_e_ctr, pm_e_go, pm_e_i, pm_e_ldi, pm_e_ldr, pm_e_lk, pm_e_r, pm_e_rm0, pm_e_rm1, pm_e_rs0, pm_e_rs1, pm_e_wp0, pm_e_wp1, pm_f2, pm_f3, pm_fld, pm_fv, pm_obj, pm_recv, pm_s_aload_n, pm_s_bipush, pm_s_getfield, pm_s_ifCond_ne, pm_s_iload_n, pm_s_invokevirtual, pm_s_ireturn, ct_X6_card, tt_X6_isColumn, tt_X0_codeOf, pS, pR, pC, pE, pL, -Int32.not_le, -Int32.not_lt, -Int64.not_le, -Int64.not_lt, -List.getD_eq_getElem?_getD, sx_1]
        exact hT4 hn
    · exact hT2 (fun i hi => wi_no (by decide) (by omega) hw (by omega) (by omega))
  · exact hT.elim
