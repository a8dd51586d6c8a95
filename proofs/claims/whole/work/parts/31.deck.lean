/-! THE DECK -/
def Dk0 (M : pm_M) (P : Pm) : Prop := okP P ∧ (M.1 1 3 = nI (pS P) ∧ M.1 1 4 = nI (pR P) ∧ M.1 1 5 = nI (pC P) ∧ M.1 1 6 = nI (pE P) ∧ M.1 1 7 = nI (pL P)) ∧ ∀ n, 1 ≤ n → n ≤ pS P * pR P → M.1 2 n = nI (su (pR P) n) ∧ M.1 3 n = nI (ra (pR P) n)
def bt0 (v : Int32) (o : Nat) : Bool := !decide (v &&& (nI 1 <<< (nI o &&& 31)) = 0)
def DkX (M : pm_M) (P : Pm) : Prop := Dk0 M P ∧ ∀ n, 1 ≤ n → n ≤ pS P * pR P → ∀ o, o ≤ pS P * pR P → bt0 (M.1 4 n) o = letF P n o
def tt_X0_lawLets : pm_T := fun args M k => match args with
  | [.ref 1, .int x, .int y] => ∃ P n o, x = nI n ∧ y = nI o ∧ Dk0 M P ∧ (1 ≤ n ∧ n ≤ pS P * pR P) ∧ (1 ≤ o ∧ o ≤ pS P * pR P) ∧ k (some (.int (pb (letF P n o)))) M
  | _ => False
abbrev ct_X0_lawLets : List pm_C := [(false, 60, 0, 3, (some .boolean), tt_X0_closesRound), (false, 63, 0, 3, (some .boolean), tt_X0_suitsTurn)]
set_option maxHeartbeats 4000000 in
theorem sm_X0_lawLets  : pm_Sem SHx yX0_lawLets cX0_lawLets 5 (some .boolean) 2 tt_X0_lawLets := by
  refine pm_Sem_intro bl_X0_lawLets ct_X0_lawLets cs_X0_lawLets rfl (List.forall_mem_cons.mpr ⟨⟨_, _, _, _, sm_X0_closesRound, by decide, cm_X0_closesRound, by decide +kernel⟩, List.forall_mem_cons.mpr ⟨⟨_, _, _, _, sm_X0_suitsTurn, by decide, cm_X0_suitsTurn, by decide +kernel⟩, fun _ h => absurd h List.not_mem_nil⟩⟩) ck_X0_lawLets (by decide +kernel) (by decide) ?_
  intro X k hX args M hT
  have hb0 := hX 0 bk_X0_lawLets_0 (List.mem_of_getElem? (i := 0) rfl)
  have hb21 := hX 21 bk_X0_lawLets_21 (List.mem_of_getElem? (i := 1) rfl)
  have hb22 := hX 22 bk_X0_lawLets_22 (List.mem_of_getElem? (i := 2) rfl)
  have hb42 := hX 42 bk_X0_lawLets_42 (List.mem_of_getElem? (i := 3) rfl)
  have hb43 := hX 43 bk_X0_lawLets_43 (List.mem_of_getElem? (i := 4) rfl)
  have hb80 := hX 80 bk_X0_lawLets_80 (List.mem_of_getElem? (i := 5) rfl)
  have hb93 := hX 93 bk_X0_lawLets_93 (List.mem_of_getElem? (i := 6) rfl)
  have hb94 := hX 94 bk_X0_lawLets_94 (List.mem_of_getElem? (i := 7) rfl)
  have hb95 := hX 95 bk_X0_lawLets_95 (List.mem_of_getElem? (i := 8) rfl)
  have hb113 := hX 113 bk_X0_lawLets_113 (List.mem_of_getElem? (i := 9) rfl)
  have hb117 := hX 117 bk_X0_lawLets_117 (List.mem_of_getElem? (i := 10) rfl)
  have hb118 := hX 118 bk_X0_lawLets_118 (List.mem_of_getElem? (i := 11) rfl)
  have hb119 := hX 119 bk_X0_lawLets_119 (List.mem_of_getElem? (i := 12) rfl)
  have hb146 := hX 146 bk_X0_lawLets_146 (List.mem_of_getElem? (i := 13) rfl)
  have hb147 := hX 147 bk_X0_lawLets_147 (List.mem_of_getElem? (i := 14) rfl)
  have hb148 := hX 148 bk_X0_lawLets_148 (List.mem_of_getElem? (i := 15) rfl)
  clear hX
  unfold tt_X0_lawLets at hT; split at hT
  · obtain ⟨⟨s, r, c, e, w⟩, n, o, rfl, rfl, ⟨⟨h1, h2, h3, h4, h5, h6, h7, h8, h9⟩, ⟨m3, m4, m5, m6, m7⟩, hd⟩, ⟨n1, n2⟩, ⟨o1, o2⟩, hT⟩ := hT
    dsimp only [pS, pR, pC, pE, pL] at *
    have mn := hd n n1 n2
    have mo := hd o o1 o2
    have qn := ra_le (n := n) h3
    have qo := ra_le (n := o) h3
    have un := su_lt h3 n1 n2
    have uo := su_lt h3 o1 o2
    refine ⟨by simp [lg_sl, Value.category], ?_⟩
    have key : ∀ (a b : Bool), a = decide (ra r o = ra r n + 1) → b = decide (su r o = su r n) → X 43 [(0, .ref 1), (1, .int (nI n)), (2, .int (nI o)), (3, .int (pb a))] [.int (pb b)] M := by
      intro a b ea eb
      refine hb43 _ _ _ ?_
      simp [bk_X0_lawLets_0, bk_X0_lawLets_21, bk_X0_lawLets_22, bk_X0_lawLets_42, bk_X0_lawLets_43, bk_X0_lawLets_80, bk_X0_lawLets_93, bk_X0_lawLets_94, bk_X0_lawLets_95, bk_X0_lawLets_113, bk_X0_lawLets_117, bk_X0_lawLets_118, bk_X0_lawLets_119, bk_X0_lawLets_146, bk_X0_lawLets_147, bk_X0_lawLets_148, pm_arr, pm_call, pm_e_c0, pm_e_c1, pm_e_cti, pm_e_ctl, pm_e_ctr, pm_e_go, pm_e_i, pm_e_ii, pm_e_ldi, pm_e_ldr, pm_e_lk, pm_e_r, pm_e_ri, pm_e_rm0, pm_e_rm1, pm_e_rs0, pm_e_rs1, pm_e_sw0, pm_e_sw1, pm_e_wp0, pm_e_wp1, pm_f2, pm_f3, pm_fld, pm_fv, pm_obj, pm_recv, pm_s_aload_n, pm_s_getfield, pm_s_goto, pm_s_iadd, pm_s_iaload, pm_s_iconst, pm_s_ifCond_eq, pm_s_ifCond_ne, pm_s_if_icmp_ne, pm_s_iload, pm_s_iload_n, pm_s_invokevirtual, pm_s_ireturn, pm_s_istore, pm_s_istore_n, pm_s_tableswitch, ct_X0_lawLets, tt_X0_closesRound, tt_X0_suitsTurn, pS, pR, pC, pE, pL, -Int32.not_le, -Int32.not_lt, -Int64.not_le, -Int64.not_lt, sx_1, m7]
      rw [nI_toInt (by omega)]
      rcases (show w = 0 ∨ w = 1 ∨ w = 2 ∨ w = 3 ∨ w = 4 by omega) with rfl | rfl | rfl | rfl | rfl
      · simp
        refine hb148 _ _ _ ?_
        simp [bk_X0_lawLets_0, bk_X0_lawLets_21, bk_X0_lawLets_22, bk_X0_lawLets_42, bk_X0_lawLets_43, bk_X0_lawLets_80, bk_X0_lawLets_93, bk_X0_lawLets_94, bk_X0_lawLets_95, bk_X0_lawLets_113, bk_X0_lawLets_117, bk_X0_lawLets_118, bk_X0_lawLets_119, bk_X0_lawLets_146, bk_X0_lawLets_147, bk_X0_lawLets_148, pm_arr, pm_call, pm_e_c0, pm_e_c1, pm_e_cti, pm_e_ctl, pm_e_ctr, pm_e_go, pm_e_i, pm_e_ii, pm_e_ldi, pm_e_ldr, pm_e_lk, pm_e_r, pm_e_ri, pm_e_rm0, pm_e_rm1, pm_e_rs0, pm_e_rs1, pm_e_sw0, pm_e_sw1, pm_e_wp0, pm_e_wp1, pm_f2, pm_f3, pm_fld, pm_fv, pm_obj, pm_recv, pm_s_aload_n, pm_s_getfield, pm_s_goto, pm_s_iadd, pm_s_iaload, pm_s_iconst, pm_s_ifCond_eq, pm_s_ifCond_ne, pm_s_if_icmp_ne, pm_s_iload, pm_s_iload_n, pm_s_invokevirtual, pm_s_ireturn, pm_s_istore, pm_s_istore_n, pm_s_tableswitch, ct_X0_lawLets, tt_X0_closesRound, tt_X0_suitsTurn, pS, pR, pC, pE, pL, -Int32.not_le, -Int32.not_lt, -Int64.not_le, -Int64.not_lt, pb_01]
        simpa [letF, pL, pR, ea, show ¬ o = 0 by omega] using hT
      · simp
        refine hb80 _ _ _ ?_
        simp [bk_X0_lawLets_0, bk_X0_lawLets_21, bk_X0_lawLets_22, bk_X0_lawLets_42, bk_X0_lawLets_43, bk_X0_lawLets_80, bk_X0_lawLets_93, bk_X0_lawLets_94, bk_X0_lawLets_95, bk_X0_lawLets_113, bk_X0_lawLets_117, bk_X0_lawLets_118, bk_X0_lawLets_119, bk_X0_lawLets_146, bk_X0_lawLets_147, bk_X0_lawLets_148, pm_arr, pm_call, pm_e_c0, pm_e_c1, pm_e_cti, pm_e_ctl, pm_e_ctr, pm_e_go, pm_e_i, pm_e_ii, pm_e_ldi, pm_e_ldr, pm_e_lk, pm_e_r, pm_e_ri, pm_e_rm0, pm_e_rm1, pm_e_rs0, pm_e_rs1, pm_e_sw0, pm_e_sw1, pm_e_wp0, pm_e_wp1, pm_f2, pm_f3, pm_fld, pm_fv, pm_obj, pm_recv, pm_s_aload_n, pm_s_getfield, pm_s_goto, pm_s_iadd, pm_s_iaload, pm_s_iconst, pm_s_ifCond_eq, pm_s_ifCond_ne, pm_s_if_icmp_ne, pm_s_iload, pm_s_iload_n, pm_s_invokevirtual, pm_s_ireturn, pm_s_istore, pm_s_istore_n, pm_s_tableswitch, ct_X0_lawLets, tt_X0_closesRound, tt_X0_suitsTurn, pS, pR, pC, pE, pL, -Int32.not_le, -Int32.not_lt, -Int64.not_le, -Int64.not_lt, pb_eq0]
        repeat' first
          | refine ⟨fun _ => ?_, fun _ => ?_⟩
          | (refine hb93 _ _ _ ?_; simp [bk_X0_lawLets_0, bk_X0_lawLets_21, bk_X0_lawLets_22, bk_X0_lawLets_42, bk_X0_lawLets_43, bk_X0_lawLets_80, bk_X0_lawLets_93, bk_X0_lawLets_94, bk_X0_lawLets_95, bk_X0_lawLets_113, bk_X0_lawLets_117, bk_X0_lawLets_118, bk_X0_lawLets_119, bk_X0_lawLets_146, bk_X0_lawLets_147, bk_X0_lawLets_148, pm_arr, pm_call, pm_e_c0, pm_e_c1, pm_e_cti, pm_e_ctl, pm_e_ctr, pm_e_go, pm_e_i, pm_e_ii, pm_e_ldi, pm_e_ldr, pm_e_lk, pm_e_r, pm_e_ri, pm_e_rm0, pm_e_rm1, pm_e_rs0, pm_e_rs1, pm_e_sw0, pm_e_sw1, pm_e_wp0, pm_e_wp1, pm_f2, pm_f3, pm_fld, pm_fv, pm_obj, pm_recv, pm_s_aload_n, pm_s_getfield, pm_s_goto, pm_s_iadd, pm_s_iaload, pm_s_iconst, pm_s_ifCond_eq, pm_s_ifCond_ne, pm_s_if_icmp_ne, pm_s_iload, pm_s_iload_n, pm_s_invokevirtual, pm_s_ireturn, pm_s_istore, pm_s_istore_n, pm_s_tableswitch, ct_X0_lawLets, tt_X0_closesRound, tt_X0_suitsTurn, pS, pR, pC, pE, pL, -Int32.not_le, -Int32.not_lt, -Int64.not_le, -Int64.not_lt, ni_0, ni_1])
          | (refine hb94 _ _ _ ?_; simp [bk_X0_lawLets_0, bk_X0_lawLets_21, bk_X0_lawLets_22, bk_X0_lawLets_42, bk_X0_lawLets_43, bk_X0_lawLets_80, bk_X0_lawLets_93, bk_X0_lawLets_94, bk_X0_lawLets_95, bk_X0_lawLets_113, bk_X0_lawLets_117, bk_X0_lawLets_118, bk_X0_lawLets_119, bk_X0_lawLets_146, bk_X0_lawLets_147, bk_X0_lawLets_148, pm_arr, pm_call, pm_e_c0, pm_e_c1, pm_e_cti, pm_e_ctl, pm_e_ctr, pm_e_go, pm_e_i, pm_e_ii, pm_e_ldi, pm_e_ldr, pm_e_lk, pm_e_r, pm_e_ri, pm_e_rm0, pm_e_rm1, pm_e_rs0, pm_e_rs1, pm_e_sw0, pm_e_sw1, pm_e_wp0, pm_e_wp1, pm_f2, pm_f3, pm_fld, pm_fv, pm_obj, pm_recv, pm_s_aload_n, pm_s_getfield, pm_s_goto, pm_s_iadd, pm_s_iaload, pm_s_iconst, pm_s_ifCond_eq, pm_s_ifCond_ne, pm_s_if_icmp_ne, pm_s_iload, pm_s_iload_n, pm_s_invokevirtual, pm_s_ireturn, pm_s_istore, pm_s_istore_n, pm_s_tableswitch, ct_X0_lawLets, tt_X0_closesRound, tt_X0_suitsTurn, pS, pR, pC, pE, pL, -Int32.not_le, -Int32.not_lt, -Int64.not_le, -Int64.not_lt, ni_0, ni_1])
        all_goals simp_all [letF, pL, pR, show ¬ o = 0 by omega, ni_0, ni_1, pb_t, pb_f]
      · simp
        refine hb119 _ _ _ ?_
        simp [bk_X0_lawLets_0, bk_X0_lawLets_21, bk_X0_lawLets_22, bk_X0_lawLets_42, bk_X0_lawLets_43, bk_X0_lawLets_80, bk_X0_lawLets_93, bk_X0_lawLets_94, bk_X0_lawLets_95, bk_X0_lawLets_113, bk_X0_lawLets_117, bk_X0_lawLets_118, bk_X0_lawLets_119, bk_X0_lawLets_146, bk_X0_lawLets_147, bk_X0_lawLets_148, pm_arr, pm_call, pm_e_c0, pm_e_c1, pm_e_cti, pm_e_ctl, pm_e_ctr, pm_e_go, pm_e_i, pm_e_ii, pm_e_ldi, pm_e_ldr, pm_e_lk, pm_e_r, pm_e_ri, pm_e_rm0, pm_e_rm1, pm_e_rs0, pm_e_rs1, pm_e_sw0, pm_e_sw1, pm_e_wp0, pm_e_wp1, pm_f2, pm_f3, pm_fld, pm_fv, pm_obj, pm_recv, pm_s_aload_n, pm_s_getfield, pm_s_goto, pm_s_iadd, pm_s_iaload, pm_s_iconst, pm_s_ifCond_eq, pm_s_ifCond_ne, pm_s_if_icmp_ne, pm_s_iload, pm_s_iload_n, pm_s_invokevirtual, pm_s_ireturn, pm_s_istore, pm_s_istore_n, pm_s_tableswitch, ct_X0_lawLets, tt_X0_closesRound, tt_X0_suitsTurn, pS, pR, pC, pE, pL, -Int32.not_le, -Int32.not_lt, -Int64.not_le, -Int64.not_lt, sx_1, sx_2, pb_eq0]
        simp (disch := omega) only [ni_in, ni_cl, ni_add, ni_mul, ni_sub, ni_lt, ni_le, ni_eq, ni_eq0, ni_lt0, ni_0le, ni_0lt, ni_le0, ni_a1, ni_a3, ni_a7, ni_a15, mn.1, mo.1]
        refine ⟨fun h => ?_, fun h => ⟨by omega, by omega, fun h2 => ?_, fun h2 => ?_⟩⟩
        · refine hb146 _ _ _ ?_
          simp [bk_X0_lawLets_0, bk_X0_lawLets_21, bk_X0_lawLets_22, bk_X0_lawLets_42, bk_X0_lawLets_43, bk_X0_lawLets_80, bk_X0_lawLets_93, bk_X0_lawLets_94, bk_X0_lawLets_95, bk_X0_lawLets_113, bk_X0_lawLets_117, bk_X0_lawLets_118, bk_X0_lawLets_119, bk_X0_lawLets_146, bk_X0_lawLets_147, bk_X0_lawLets_148, pm_arr, pm_call, pm_e_c0, pm_e_c1, pm_e_cti, pm_e_ctl, pm_e_ctr, pm_e_go, pm_e_i, pm_e_ii, pm_e_ldi, pm_e_ldr, pm_e_lk, pm_e_r, pm_e_ri, pm_e_rm0, pm_e_rm1, pm_e_rs0, pm_e_rs1, pm_e_sw0, pm_e_sw1, pm_e_wp0, pm_e_wp1, pm_f2, pm_f3, pm_fld, pm_fv, pm_obj, pm_recv, pm_s_aload_n, pm_s_getfield, pm_s_goto, pm_s_iadd, pm_s_iaload, pm_s_iconst, pm_s_ifCond_eq, pm_s_ifCond_ne, pm_s_if_icmp_ne, pm_s_iload, pm_s_iload_n, pm_s_invokevirtual, pm_s_ireturn, pm_s_istore, pm_s_istore_n, pm_s_tableswitch, ct_X0_lawLets, tt_X0_closesRound, tt_X0_suitsTurn, pS, pR, pC, pE, pL, -Int32.not_le, -Int32.not_lt, -Int64.not_le, -Int64.not_lt]
          refine hb147 _ _ _ ?_
          simp [bk_X0_lawLets_0, bk_X0_lawLets_21, bk_X0_lawLets_22, bk_X0_lawLets_42, bk_X0_lawLets_43, bk_X0_lawLets_80, bk_X0_lawLets_93, bk_X0_lawLets_94, bk_X0_lawLets_95, bk_X0_lawLets_113, bk_X0_lawLets_117, bk_X0_lawLets_118, bk_X0_lawLets_119, bk_X0_lawLets_146, bk_X0_lawLets_147, bk_X0_lawLets_148, pm_arr, pm_call, pm_e_c0, pm_e_c1, pm_e_cti, pm_e_ctl, pm_e_ctr, pm_e_go, pm_e_i, pm_e_ii, pm_e_ldi, pm_e_ldr, pm_e_lk, pm_e_r, pm_e_ri, pm_e_rm0, pm_e_rm1, pm_e_rs0, pm_e_rs1, pm_e_sw0, pm_e_sw1, pm_e_wp0, pm_e_wp1, pm_f2, pm_f3, pm_fld, pm_fv, pm_obj, pm_recv, pm_s_aload_n, pm_s_getfield, pm_s_goto, pm_s_iadd, pm_s_iaload, pm_s_iconst, pm_s_ifCond_eq, pm_s_ifCond_ne, pm_s_if_icmp_ne, pm_s_iload, pm_s_iload_n, pm_s_invokevirtual, pm_s_ireturn, pm_s_istore, pm_s_istore_n, pm_s_tableswitch, ct_X0_lawLets, tt_X0_closesRound, tt_X0_suitsTurn, pS, pR, pC, pE, pL, -Int32.not_le, -Int32.not_lt, -Int64.not_le, -Int64.not_lt, ni_0]
          simp_all [letF, pL, pR, show ¬ o = 0 by omega, ni_0, ni_1, pb_t, pb_f]
        · refine hb146 _ _ _ ?_
          simp [bk_X0_lawLets_0, bk_X0_lawLets_21, bk_X0_lawLets_22, bk_X0_lawLets_42, bk_X0_lawLets_43, bk_X0_lawLets_80, bk_X0_lawLets_93, bk_X0_lawLets_94, bk_X0_lawLets_95, bk_X0_lawLets_113, bk_X0_lawLets_117, bk_X0_lawLets_118, bk_X0_lawLets_119, bk_X0_lawLets_146, bk_X0_lawLets_147, bk_X0_lawLets_148, pm_arr, pm_call, pm_e_c0, pm_e_c1, pm_e_cti, pm_e_ctl, pm_e_ctr, pm_e_go, pm_e_i, pm_e_ii, pm_e_ldi, pm_e_ldr, pm_e_lk, pm_e_r, pm_e_ri, pm_e_rm0, pm_e_rm1, pm_e_rs0, pm_e_rs1, pm_e_sw0, pm_e_sw1, pm_e_wp0, pm_e_wp1, pm_f2, pm_f3, pm_fld, pm_fv, pm_obj, pm_recv, pm_s_aload_n, pm_s_getfield, pm_s_goto, pm_s_iadd, pm_s_iaload, pm_s_iconst, pm_s_ifCond_eq, pm_s_ifCond_ne, pm_s_if_icmp_ne, pm_s_iload, pm_s_iload_n, pm_s_invokevirtual, pm_s_ireturn, pm_s_istore, pm_s_istore_n, pm_s_tableswitch, ct_X0_lawLets, tt_X0_closesRound, tt_X0_suitsTurn, pS, pR, pC, pE, pL, -Int32.not_le, -Int32.not_lt, -Int64.not_le, -Int64.not_lt]
          refine hb147 _ _ _ ?_
          simp [bk_X0_lawLets_0, bk_X0_lawLets_21, bk_X0_lawLets_22, bk_X0_lawLets_42, bk_X0_lawLets_43, bk_X0_lawLets_80, bk_X0_lawLets_93, bk_X0_lawLets_94, bk_X0_lawLets_95, bk_X0_lawLets_113, bk_X0_lawLets_117, bk_X0_lawLets_118, bk_X0_lawLets_119, bk_X0_lawLets_146, bk_X0_lawLets_147, bk_X0_lawLets_148, pm_arr, pm_call, pm_e_c0, pm_e_c1, pm_e_cti, pm_e_ctl, pm_e_ctr, pm_e_go, pm_e_i, pm_e_ii, pm_e_ldi, pm_e_ldr, pm_e_lk, pm_e_r, pm_e_ri, pm_e_rm0, pm_e_rm1, pm_e_rs0, pm_e_rs1, pm_e_sw0, pm_e_sw1, pm_e_wp0, pm_e_wp1, pm_f2, pm_f3, pm_fld, pm_fv, pm_obj, pm_recv, pm_s_aload_n, pm_s_getfield, pm_s_goto, pm_s_iadd, pm_s_iaload, pm_s_iconst, pm_s_ifCond_eq, pm_s_ifCond_ne, pm_s_if_icmp_ne, pm_s_iload, pm_s_iload_n, pm_s_invokevirtual, pm_s_ireturn, pm_s_istore, pm_s_istore_n, pm_s_tableswitch, ct_X0_lawLets, tt_X0_closesRound, tt_X0_suitsTurn, pS, pR, pC, pE, pL, -Int32.not_le, -Int32.not_lt, -Int64.not_le, -Int64.not_lt, ni_0]
          simp_all [letF, pL, pR, show ¬ o = 0 by omega, ni_0, ni_1, pb_t, pb_f]
        · refine hb147 _ _ _ ?_
          simp [bk_X0_lawLets_0, bk_X0_lawLets_21, bk_X0_lawLets_22, bk_X0_lawLets_42, bk_X0_lawLets_43, bk_X0_lawLets_80, bk_X0_lawLets_93, bk_X0_lawLets_94, bk_X0_lawLets_95, bk_X0_lawLets_113, bk_X0_lawLets_117, bk_X0_lawLets_118, bk_X0_lawLets_119, bk_X0_lawLets_146, bk_X0_lawLets_147, bk_X0_lawLets_148, pm_arr, pm_call, pm_e_c0, pm_e_c1, pm_e_cti, pm_e_ctl, pm_e_ctr, pm_e_go, pm_e_i, pm_e_ii, pm_e_ldi, pm_e_ldr, pm_e_lk, pm_e_r, pm_e_ri, pm_e_rm0, pm_e_rm1, pm_e_rs0, pm_e_rs1, pm_e_sw0, pm_e_sw1, pm_e_wp0, pm_e_wp1, pm_f2, pm_f3, pm_fld, pm_fv, pm_obj, pm_recv, pm_s_aload_n, pm_s_getfield, pm_s_goto, pm_s_iadd, pm_s_iaload, pm_s_iconst, pm_s_ifCond_eq, pm_s_ifCond_ne, pm_s_if_icmp_ne, pm_s_iload, pm_s_iload_n, pm_s_invokevirtual, pm_s_ireturn, pm_s_istore, pm_s_istore_n, pm_s_tableswitch, ct_X0_lawLets, tt_X0_closesRound, tt_X0_suitsTurn, pS, pR, pC, pE, pL, -Int32.not_le, -Int32.not_lt, -Int64.not_le, -Int64.not_lt, ni_1]
          simp_all [letF, pL, pR, show ¬ o = 0 by omega, ni_0, ni_1, pb_t, pb_f]
      · simp
        refine hb95 _ _ _ ?_
        simp [bk_X0_lawLets_0, bk_X0_lawLets_21, bk_X0_lawLets_22, bk_X0_lawLets_42, bk_X0_lawLets_43, bk_X0_lawLets_80, bk_X0_lawLets_93, bk_X0_lawLets_94, bk_X0_lawLets_95, bk_X0_lawLets_113, bk_X0_lawLets_117, bk_X0_lawLets_118, bk_X0_lawLets_119, bk_X0_lawLets_146, bk_X0_lawLets_147, bk_X0_lawLets_148, pm_arr, pm_call, pm_e_c0, pm_e_c1, pm_e_cti, pm_e_ctl, pm_e_ctr, pm_e_go, pm_e_i, pm_e_ii, pm_e_ldi, pm_e_ldr, pm_e_lk, pm_e_r, pm_e_ri, pm_e_rm0, pm_e_rm1, pm_e_rs0, pm_e_rs1, pm_e_sw0, pm_e_sw1, pm_e_wp0, pm_e_wp1, pm_f2, pm_f3, pm_fld, pm_fv, pm_obj, pm_recv, pm_s_aload_n, pm_s_getfield, pm_s_goto, pm_s_iadd, pm_s_iaload, pm_s_iconst, pm_s_ifCond_eq, pm_s_ifCond_ne, pm_s_if_icmp_ne, pm_s_iload, pm_s_iload_n, pm_s_invokevirtual, pm_s_ireturn, pm_s_istore, pm_s_istore_n, pm_s_tableswitch, ct_X0_lawLets, tt_X0_closesRound, tt_X0_suitsTurn, pS, pR, pC, pE, pL, -Int32.not_le, -Int32.not_lt, -Int64.not_le, -Int64.not_lt, sx_1, sx_2, pb_eq0]
        simp (disch := omega) only [ni_in, ni_cl, ni_add, ni_mul, ni_sub, ni_lt, ni_le, ni_eq, ni_eq0, ni_lt0, ni_0le, ni_0lt, ni_le0, ni_a1, ni_a3, ni_a7, ni_a15, mn.1, mo.1, m4, mn.2, mo.2]
        have f117 : letF (s, r, c, e, 3) n o = false → X 117 [] [] M := by
          intro hf
          refine hb117 _ _ _ ?_
          simp [bk_X0_lawLets_0, bk_X0_lawLets_21, bk_X0_lawLets_22, bk_X0_lawLets_42, bk_X0_lawLets_43, bk_X0_lawLets_80, bk_X0_lawLets_93, bk_X0_lawLets_94, bk_X0_lawLets_95, bk_X0_lawLets_113, bk_X0_lawLets_117, bk_X0_lawLets_118, bk_X0_lawLets_119, bk_X0_lawLets_146, bk_X0_lawLets_147, bk_X0_lawLets_148, pm_arr, pm_call, pm_e_c0, pm_e_c1, pm_e_cti, pm_e_ctl, pm_e_ctr, pm_e_go, pm_e_i, pm_e_ii, pm_e_ldi, pm_e_ldr, pm_e_lk, pm_e_r, pm_e_ri, pm_e_rm0, pm_e_rm1, pm_e_rs0, pm_e_rs1, pm_e_sw0, pm_e_sw1, pm_e_wp0, pm_e_wp1, pm_f2, pm_f3, pm_fld, pm_fv, pm_obj, pm_recv, pm_s_aload_n, pm_s_getfield, pm_s_goto, pm_s_iadd, pm_s_iaload, pm_s_iconst, pm_s_ifCond_eq, pm_s_ifCond_ne, pm_s_if_icmp_ne, pm_s_iload, pm_s_iload_n, pm_s_invokevirtual, pm_s_ireturn, pm_s_istore, pm_s_istore_n, pm_s_tableswitch, ct_X0_lawLets, tt_X0_closesRound, tt_X0_suitsTurn, pS, pR, pC, pE, pL, -Int32.not_le, -Int32.not_lt, -Int64.not_le, -Int64.not_lt]
          refine hb118 _ _ _ ?_
          simp [bk_X0_lawLets_0, bk_X0_lawLets_21, bk_X0_lawLets_22, bk_X0_lawLets_42, bk_X0_lawLets_43, bk_X0_lawLets_80, bk_X0_lawLets_93, bk_X0_lawLets_94, bk_X0_lawLets_95, bk_X0_lawLets_113, bk_X0_lawLets_117, bk_X0_lawLets_118, bk_X0_lawLets_119, bk_X0_lawLets_146, bk_X0_lawLets_147, bk_X0_lawLets_148, pm_arr, pm_call, pm_e_c0, pm_e_c1, pm_e_cti, pm_e_ctl, pm_e_ctr, pm_e_go, pm_e_i, pm_e_ii, pm_e_ldi, pm_e_ldr, pm_e_lk, pm_e_r, pm_e_ri, pm_e_rm0, pm_e_rm1, pm_e_rs0, pm_e_rs1, pm_e_sw0, pm_e_sw1, pm_e_wp0, pm_e_wp1, pm_f2, pm_f3, pm_fld, pm_fv, pm_obj, pm_recv, pm_s_aload_n, pm_s_getfield, pm_s_goto, pm_s_iadd, pm_s_iaload, pm_s_iconst, pm_s_ifCond_eq, pm_s_ifCond_ne, pm_s_if_icmp_ne, pm_s_iload, pm_s_iload_n, pm_s_invokevirtual, pm_s_ireturn, pm_s_istore, pm_s_istore_n, pm_s_tableswitch, ct_X0_lawLets, tt_X0_closesRound, tt_X0_suitsTurn, pS, pR, pC, pE, pL, -Int32.not_le, -Int32.not_lt, -Int64.not_le, -Int64.not_lt, ni_0]
          rw [hf] at hT; exact hT
        have f113 : letF (s, r, c, e, 3) n o = true → X 113 [] [] M := by
          intro hf
          refine hb113 _ _ _ ?_
          simp [bk_X0_lawLets_0, bk_X0_lawLets_21, bk_X0_lawLets_22, bk_X0_lawLets_42, bk_X0_lawLets_43, bk_X0_lawLets_80, bk_X0_lawLets_93, bk_X0_lawLets_94, bk_X0_lawLets_95, bk_X0_lawLets_113, bk_X0_lawLets_117, bk_X0_lawLets_118, bk_X0_lawLets_119, bk_X0_lawLets_146, bk_X0_lawLets_147, bk_X0_lawLets_148, pm_arr, pm_call, pm_e_c0, pm_e_c1, pm_e_cti, pm_e_ctl, pm_e_ctr, pm_e_go, pm_e_i, pm_e_ii, pm_e_ldi, pm_e_ldr, pm_e_lk, pm_e_r, pm_e_ri, pm_e_rm0, pm_e_rm1, pm_e_rs0, pm_e_rs1, pm_e_sw0, pm_e_sw1, pm_e_wp0, pm_e_wp1, pm_f2, pm_f3, pm_fld, pm_fv, pm_obj, pm_recv, pm_s_aload_n, pm_s_getfield, pm_s_goto, pm_s_iadd, pm_s_iaload, pm_s_iconst, pm_s_ifCond_eq, pm_s_ifCond_ne, pm_s_if_icmp_ne, pm_s_iload, pm_s_iload_n, pm_s_invokevirtual, pm_s_ireturn, pm_s_istore, pm_s_istore_n, pm_s_tableswitch, ct_X0_lawLets, tt_X0_closesRound, tt_X0_suitsTurn, pS, pR, pC, pE, pL, -Int32.not_le, -Int32.not_lt, -Int64.not_le, -Int64.not_lt]
          refine hb118 _ _ _ ?_
          simp [bk_X0_lawLets_0, bk_X0_lawLets_21, bk_X0_lawLets_22, bk_X0_lawLets_42, bk_X0_lawLets_43, bk_X0_lawLets_80, bk_X0_lawLets_93, bk_X0_lawLets_94, bk_X0_lawLets_95, bk_X0_lawLets_113, bk_X0_lawLets_117, bk_X0_lawLets_118, bk_X0_lawLets_119, bk_X0_lawLets_146, bk_X0_lawLets_147, bk_X0_lawLets_148, pm_arr, pm_call, pm_e_c0, pm_e_c1, pm_e_cti, pm_e_ctl, pm_e_ctr, pm_e_go, pm_e_i, pm_e_ii, pm_e_ldi, pm_e_ldr, pm_e_lk, pm_e_r, pm_e_ri, pm_e_rm0, pm_e_rm1, pm_e_rs0, pm_e_rs1, pm_e_sw0, pm_e_sw1, pm_e_wp0, pm_e_wp1, pm_f2, pm_f3, pm_fld, pm_fv, pm_obj, pm_recv, pm_s_aload_n, pm_s_getfield, pm_s_goto, pm_s_iadd, pm_s_iaload, pm_s_iconst, pm_s_ifCond_eq, pm_s_ifCond_ne, pm_s_if_icmp_ne, pm_s_iload, pm_s_iload_n, pm_s_invokevirtual, pm_s_ireturn, pm_s_istore, pm_s_istore_n, pm_s_tableswitch, ct_X0_lawLets, tt_X0_closesRound, tt_X0_suitsTurn, pS, pR, pC, pE, pL, -Int32.not_le, -Int32.not_lt, -Int64.not_le, -Int64.not_lt, ni_1]
          rw [hf] at hT; exact hT
        refine ⟨fun h => f117 ?_, fun h => ⟨fun h2 => f113 ?_, fun h2 => ⟨⟨by omega, by omega⟩, fun h3 => f117 ?_, fun h3 h4 h5 => f113 ?_⟩⟩⟩
        · simp_all [letF, pL, pR, show ¬ o = 0 by omega]
        · simp_all [letF, pL, pR, show ¬ o = 0 by omega]
        · simp_all [letF, pL, pR, show ¬ o = 0 by omega]
        · simp_all [letF, pL, pR, show ¬ o = 0 by omega]
      · simp
        refine hb119 _ _ _ ?_
        simp [bk_X0_lawLets_0, bk_X0_lawLets_21, bk_X0_lawLets_22, bk_X0_lawLets_42, bk_X0_lawLets_43, bk_X0_lawLets_80, bk_X0_lawLets_93, bk_X0_lawLets_94, bk_X0_lawLets_95, bk_X0_lawLets_113, bk_X0_lawLets_117, bk_X0_lawLets_118, bk_X0_lawLets_119, bk_X0_lawLets_146, bk_X0_lawLets_147, bk_X0_lawLets_148, pm_arr, pm_call, pm_e_c0, pm_e_c1, pm_e_cti, pm_e_ctl, pm_e_ctr, pm_e_go, pm_e_i, pm_e_ii, pm_e_ldi, pm_e_ldr, pm_e_lk, pm_e_r, pm_e_ri, pm_e_rm0, pm_e_rm1, pm_e_rs0, pm_e_rs1, pm_e_sw0, pm_e_sw1, pm_e_wp0, pm_e_wp1, pm_f2, pm_f3, pm_fld, pm_fv, pm_obj, pm_recv, pm_s_aload_n, pm_s_getfield, pm_s_goto, pm_s_iadd, pm_s_iaload, pm_s_iconst, pm_s_ifCond_eq, pm_s_ifCond_ne, pm_s_if_icmp_ne, pm_s_iload, pm_s_iload_n, pm_s_invokevirtual, pm_s_ireturn, pm_s_istore, pm_s_istore_n, pm_s_tableswitch, ct_X0_lawLets, tt_X0_closesRound, tt_X0_suitsTurn, pS, pR, pC, pE, pL, -Int32.not_le, -Int32.not_lt, -Int64.not_le, -Int64.not_lt, sx_1, sx_2, pb_eq0]
        simp (disch := omega) only [ni_in, ni_cl, ni_add, ni_mul, ni_sub, ni_lt, ni_le, ni_eq, ni_eq0, ni_lt0, ni_0le, ni_0lt, ni_le0, ni_a1, ni_a3, ni_a7, ni_a15, mn.1, mo.1]
        refine ⟨fun h => ?_, fun h => ⟨by omega, by omega, fun h2 => ?_, fun h2 => ?_⟩⟩
        · refine hb146 _ _ _ ?_
          simp [bk_X0_lawLets_0, bk_X0_lawLets_21, bk_X0_lawLets_22, bk_X0_lawLets_42, bk_X0_lawLets_43, bk_X0_lawLets_80, bk_X0_lawLets_93, bk_X0_lawLets_94, bk_X0_lawLets_95, bk_X0_lawLets_113, bk_X0_lawLets_117, bk_X0_lawLets_118, bk_X0_lawLets_119, bk_X0_lawLets_146, bk_X0_lawLets_147, bk_X0_lawLets_148, pm_arr, pm_call, pm_e_c0, pm_e_c1, pm_e_cti, pm_e_ctl, pm_e_ctr, pm_e_go, pm_e_i, pm_e_ii, pm_e_ldi, pm_e_ldr, pm_e_lk, pm_e_r, pm_e_ri, pm_e_rm0, pm_e_rm1, pm_e_rs0, pm_e_rs1, pm_e_sw0, pm_e_sw1, pm_e_wp0, pm_e_wp1, pm_f2, pm_f3, pm_fld, pm_fv, pm_obj, pm_recv, pm_s_aload_n, pm_s_getfield, pm_s_goto, pm_s_iadd, pm_s_iaload, pm_s_iconst, pm_s_ifCond_eq, pm_s_ifCond_ne, pm_s_if_icmp_ne, pm_s_iload, pm_s_iload_n, pm_s_invokevirtual, pm_s_ireturn, pm_s_istore, pm_s_istore_n, pm_s_tableswitch, ct_X0_lawLets, tt_X0_closesRound, tt_X0_suitsTurn, pS, pR, pC, pE, pL, -Int32.not_le, -Int32.not_lt, -Int64.not_le, -Int64.not_lt]
          refine hb147 _ _ _ ?_
          simp [bk_X0_lawLets_0, bk_X0_lawLets_21, bk_X0_lawLets_22, bk_X0_lawLets_42, bk_X0_lawLets_43, bk_X0_lawLets_80, bk_X0_lawLets_93, bk_X0_lawLets_94, bk_X0_lawLets_95, bk_X0_lawLets_113, bk_X0_lawLets_117, bk_X0_lawLets_118, bk_X0_lawLets_119, bk_X0_lawLets_146, bk_X0_lawLets_147, bk_X0_lawLets_148, pm_arr, pm_call, pm_e_c0, pm_e_c1, pm_e_cti, pm_e_ctl, pm_e_ctr, pm_e_go, pm_e_i, pm_e_ii, pm_e_ldi, pm_e_ldr, pm_e_lk, pm_e_r, pm_e_ri, pm_e_rm0, pm_e_rm1, pm_e_rs0, pm_e_rs1, pm_e_sw0, pm_e_sw1, pm_e_wp0, pm_e_wp1, pm_f2, pm_f3, pm_fld, pm_fv, pm_obj, pm_recv, pm_s_aload_n, pm_s_getfield, pm_s_goto, pm_s_iadd, pm_s_iaload, pm_s_iconst, pm_s_ifCond_eq, pm_s_ifCond_ne, pm_s_if_icmp_ne, pm_s_iload, pm_s_iload_n, pm_s_invokevirtual, pm_s_ireturn, pm_s_istore, pm_s_istore_n, pm_s_tableswitch, ct_X0_lawLets, tt_X0_closesRound, tt_X0_suitsTurn, pS, pR, pC, pE, pL, -Int32.not_le, -Int32.not_lt, -Int64.not_le, -Int64.not_lt, ni_0]
          simp_all [letF, pL, pR, show ¬ o = 0 by omega, ni_0, ni_1, pb_t, pb_f]
        · refine hb146 _ _ _ ?_
          simp [bk_X0_lawLets_0, bk_X0_lawLets_21, bk_X0_lawLets_22, bk_X0_lawLets_42, bk_X0_lawLets_43, bk_X0_lawLets_80, bk_X0_lawLets_93, bk_X0_lawLets_94, bk_X0_lawLets_95, bk_X0_lawLets_113, bk_X0_lawLets_117, bk_X0_lawLets_118, bk_X0_lawLets_119, bk_X0_lawLets_146, bk_X0_lawLets_147, bk_X0_lawLets_148, pm_arr, pm_call, pm_e_c0, pm_e_c1, pm_e_cti, pm_e_ctl, pm_e_ctr, pm_e_go, pm_e_i, pm_e_ii, pm_e_ldi, pm_e_ldr, pm_e_lk, pm_e_r, pm_e_ri, pm_e_rm0, pm_e_rm1, pm_e_rs0, pm_e_rs1, pm_e_sw0, pm_e_sw1, pm_e_wp0, pm_e_wp1, pm_f2, pm_f3, pm_fld, pm_fv, pm_obj, pm_recv, pm_s_aload_n, pm_s_getfield, pm_s_goto, pm_s_iadd, pm_s_iaload, pm_s_iconst, pm_s_ifCond_eq, pm_s_ifCond_ne, pm_s_if_icmp_ne, pm_s_iload, pm_s_iload_n, pm_s_invokevirtual, pm_s_ireturn, pm_s_istore, pm_s_istore_n, pm_s_tableswitch, ct_X0_lawLets, tt_X0_closesRound, tt_X0_suitsTurn, pS, pR, pC, pE, pL, -Int32.not_le, -Int32.not_lt, -Int64.not_le, -Int64.not_lt]
          refine hb147 _ _ _ ?_
          simp [bk_X0_lawLets_0, bk_X0_lawLets_21, bk_X0_lawLets_22, bk_X0_lawLets_42, bk_X0_lawLets_43, bk_X0_lawLets_80, bk_X0_lawLets_93, bk_X0_lawLets_94, bk_X0_lawLets_95, bk_X0_lawLets_113, bk_X0_lawLets_117, bk_X0_lawLets_118, bk_X0_lawLets_119, bk_X0_lawLets_146, bk_X0_lawLets_147, bk_X0_lawLets_148, pm_arr, pm_call, pm_e_c0, pm_e_c1, pm_e_cti, pm_e_ctl, pm_e_ctr, pm_e_go, pm_e_i, pm_e_ii, pm_e_ldi, pm_e_ldr, pm_e_lk, pm_e_r, pm_e_ri, pm_e_rm0, pm_e_rm1, pm_e_rs0, pm_e_rs1, pm_e_sw0, pm_e_sw1, pm_e_wp0, pm_e_wp1, pm_f2, pm_f3, pm_fld, pm_fv, pm_obj, pm_recv, pm_s_aload_n, pm_s_getfield, pm_s_goto, pm_s_iadd, pm_s_iaload, pm_s_iconst, pm_s_ifCond_eq, pm_s_ifCond_ne, pm_s_if_icmp_ne, pm_s_iload, pm_s_iload_n, pm_s_invokevirtual, pm_s_ireturn, pm_s_istore, pm_s_istore_n, pm_s_tableswitch, ct_X0_lawLets, tt_X0_closesRound, tt_X0_suitsTurn, pS, pR, pC, pE, pL, -Int32.not_le, -Int32.not_lt, -Int64.not_le, -Int64.not_lt, ni_0]
          simp_all [letF, pL, pR, show ¬ o = 0 by omega, ni_0, ni_1, pb_t, pb_f]
        · refine hb147 _ _ _ ?_
          simp [bk_X0_lawLets_0, bk_X0_lawLets_21, bk_X0_lawLets_22, bk_X0_lawLets_42, bk_X0_lawLets_43, bk_X0_lawLets_80, bk_X0_lawLets_93, bk_X0_lawLets_94, bk_X0_lawLets_95, bk_X0_lawLets_113, bk_X0_lawLets_117, bk_X0_lawLets_118, bk_X0_lawLets_119, bk_X0_lawLets_146, bk_X0_lawLets_147, bk_X0_lawLets_148, pm_arr, pm_call, pm_e_c0, pm_e_c1, pm_e_cti, pm_e_ctl, pm_e_ctr, pm_e_go, pm_e_i, pm_e_ii, pm_e_ldi, pm_e_ldr, pm_e_lk, pm_e_r, pm_e_ri, pm_e_rm0, pm_e_rm1, pm_e_rs0, pm_e_rs1, pm_e_sw0, pm_e_sw1, pm_e_wp0, pm_e_wp1, pm_f2, pm_f3, pm_fld, pm_fv, pm_obj, pm_recv, pm_s_aload_n, pm_s_getfield, pm_s_goto, pm_s_iadd, pm_s_iaload, pm_s_iconst, pm_s_ifCond_eq, pm_s_ifCond_ne, pm_s_if_icmp_ne, pm_s_iload, pm_s_iload_n, pm_s_invokevirtual, pm_s_ireturn, pm_s_istore, pm_s_istore_n, pm_s_tableswitch, ct_X0_lawLets, tt_X0_closesRound, tt_X0_suitsTurn, pS, pR, pC, pE, pL, -Int32.not_le, -Int32.not_lt, -Int64.not_le, -Int64.not_lt, ni_1]
          simp_all [letF, pL, pR, show ¬ o = 0 by omega, ni_0, ni_1, pb_t, pb_f]
    have key2 : ∀ (a : Bool), a = decide (ra r o = ra r n + 1) → X 22 [(0, .ref 1), (1, .int (nI n)), (2, .int (nI o))] [.int (pb a)] M := by
      intro a ea
      refine hb22 _ _ _ ?_
      simp [bk_X0_lawLets_0, bk_X0_lawLets_21, bk_X0_lawLets_22, bk_X0_lawLets_42, bk_X0_lawLets_43, bk_X0_lawLets_80, bk_X0_lawLets_93, bk_X0_lawLets_94, bk_X0_lawLets_95, bk_X0_lawLets_113, bk_X0_lawLets_117, bk_X0_lawLets_118, bk_X0_lawLets_119, bk_X0_lawLets_146, bk_X0_lawLets_147, bk_X0_lawLets_148, pm_arr, pm_call, pm_e_c0, pm_e_c1, pm_e_cti, pm_e_ctl, pm_e_ctr, pm_e_go, pm_e_i, pm_e_ii, pm_e_ldi, pm_e_ldr, pm_e_lk, pm_e_r, pm_e_ri, pm_e_rm0, pm_e_rm1, pm_e_rs0, pm_e_rs1, pm_e_sw0, pm_e_sw1, pm_e_wp0, pm_e_wp1, pm_f2, pm_f3, pm_fld, pm_fv, pm_obj, pm_recv, pm_s_aload_n, pm_s_getfield, pm_s_goto, pm_s_iadd, pm_s_iaload, pm_s_iconst, pm_s_ifCond_eq, pm_s_ifCond_ne, pm_s_if_icmp_ne, pm_s_iload, pm_s_iload_n, pm_s_invokevirtual, pm_s_ireturn, pm_s_istore, pm_s_istore_n, pm_s_tableswitch, ct_X0_lawLets, tt_X0_closesRound, tt_X0_suitsTurn, pS, pR, pC, pE, pL, -Int32.not_le, -Int32.not_lt, -Int64.not_le, -Int64.not_lt, sx_1, sx_2]
      simp (disch := omega) only [ni_in, ni_cl, ni_add, ni_mul, ni_sub, ni_lt, ni_le, ni_eq, ni_eq0, ni_lt0, ni_0le, ni_0lt, ni_le0, ni_a1, ni_a3, ni_a7, ni_a15, mn.1, mo.1]
      refine ⟨by omega, by omega, fun h => ?_, fun h => ?_⟩
      · refine hb42 _ _ _ ?_
        simp [bk_X0_lawLets_0, bk_X0_lawLets_21, bk_X0_lawLets_22, bk_X0_lawLets_42, bk_X0_lawLets_43, bk_X0_lawLets_80, bk_X0_lawLets_93, bk_X0_lawLets_94, bk_X0_lawLets_95, bk_X0_lawLets_113, bk_X0_lawLets_117, bk_X0_lawLets_118, bk_X0_lawLets_119, bk_X0_lawLets_146, bk_X0_lawLets_147, bk_X0_lawLets_148, pm_arr, pm_call, pm_e_c0, pm_e_c1, pm_e_cti, pm_e_ctl, pm_e_ctr, pm_e_go, pm_e_i, pm_e_ii, pm_e_ldi, pm_e_ldr, pm_e_lk, pm_e_r, pm_e_ri, pm_e_rm0, pm_e_rm1, pm_e_rs0, pm_e_rs1, pm_e_sw0, pm_e_sw1, pm_e_wp0, pm_e_wp1, pm_f2, pm_f3, pm_fld, pm_fv, pm_obj, pm_recv, pm_s_aload_n, pm_s_getfield, pm_s_goto, pm_s_iadd, pm_s_iaload, pm_s_iconst, pm_s_ifCond_eq, pm_s_ifCond_ne, pm_s_if_icmp_ne, pm_s_iload, pm_s_iload_n, pm_s_invokevirtual, pm_s_ireturn, pm_s_istore, pm_s_istore_n, pm_s_tableswitch, ct_X0_lawLets, tt_X0_closesRound, tt_X0_suitsTurn, pS, pR, pC, pE, pL, -Int32.not_le, -Int32.not_lt, -Int64.not_le, -Int64.not_lt]
        exact key a false ea (by simp [h])
      · exact key a true ea (by simp [h])
    refine hb0 _ _ _ ?_
    simp [bk_X0_lawLets_0, bk_X0_lawLets_21, bk_X0_lawLets_22, bk_X0_lawLets_42, bk_X0_lawLets_43, bk_X0_lawLets_80, bk_X0_lawLets_93, bk_X0_lawLets_94, bk_X0_lawLets_95, bk_X0_lawLets_113, bk_X0_lawLets_117, bk_X0_lawLets_118, bk_X0_lawLets_119, bk_X0_lawLets_146, bk_X0_lawLets_147, bk_X0_lawLets_148, pm_arr, pm_call, pm_e_c0, pm_e_c1, pm_e_cti, pm_e_ctl, pm_e_ctr, pm_e_go, pm_e_i, pm_e_ii, pm_e_ldi, pm_e_ldr, pm_e_lk, pm_e_r, pm_e_ri, pm_e_rm0, pm_e_rm1, pm_e_rs0, pm_e_rs1, pm_e_sw0, pm_e_sw1, pm_e_wp0, pm_e_wp1, pm_f2, pm_f3, pm_fld, pm_fv, pm_obj, pm_recv, pm_s_aload_n, pm_s_getfield, pm_s_goto, pm_s_iadd, pm_s_iaload, pm_s_iconst, pm_s_ifCond_eq, pm_s_ifCond_ne, pm_s_if_icmp_ne, pm_s_iload, pm_s_iload_n, pm_s_invokevirtual, pm_s_ireturn, pm_s_istore, pm_s_istore_n, pm_s_tableswitch, ct_X0_lawLets, tt_X0_closesRound, tt_X0_suitsTurn, pS, pR, pC, pE, pL, -Int32.not_le, -Int32.not_lt, -Int64.not_le, -Int64.not_lt, lv_args, sx_1, sx_3]
    simp (disch := omega) only [ni_in, ni_cl, ni_add, ni_mul, ni_sub, ni_lt, ni_le, ni_eq, ni_eq0, ni_lt0, ni_0le, ni_0lt, ni_le0, ni_a1, ni_a3, ni_a7, ni_a15, mn.2, mo.2]
    refine ⟨by omega, by omega, fun h => ?_, fun h => ?_⟩
    · refine hb21 _ _ _ ?_
      simp [bk_X0_lawLets_0, bk_X0_lawLets_21, bk_X0_lawLets_22, bk_X0_lawLets_42, bk_X0_lawLets_43, bk_X0_lawLets_80, bk_X0_lawLets_93, bk_X0_lawLets_94, bk_X0_lawLets_95, bk_X0_lawLets_113, bk_X0_lawLets_117, bk_X0_lawLets_118, bk_X0_lawLets_119, bk_X0_lawLets_146, bk_X0_lawLets_147, bk_X0_lawLets_148, pm_arr, pm_call, pm_e_c0, pm_e_c1, pm_e_cti, pm_e_ctl, pm_e_ctr, pm_e_go, pm_e_i, pm_e_ii, pm_e_ldi, pm_e_ldr, pm_e_lk, pm_e_r, pm_e_ri, pm_e_rm0, pm_e_rm1, pm_e_rs0, pm_e_rs1, pm_e_sw0, pm_e_sw1, pm_e_wp0, pm_e_wp1, pm_f2, pm_f3, pm_fld, pm_fv, pm_obj, pm_recv, pm_s_aload_n, pm_s_getfield, pm_s_goto, pm_s_iadd, pm_s_iaload, pm_s_iconst, pm_s_ifCond_eq, pm_s_ifCond_ne, pm_s_if_icmp_ne, pm_s_iload, pm_s_iload_n, pm_s_invokevirtual, pm_s_ireturn, pm_s_istore, pm_s_istore_n, pm_s_tableswitch, ct_X0_lawLets, tt_X0_closesRound, tt_X0_suitsTurn, pS, pR, pC, pE, pL, -Int32.not_le, -Int32.not_lt, -Int64.not_le, -Int64.not_lt]
      exact key2 false (by simp [h])
    · exact key2 true (by simp [h])
  · exact hT.elim
theorem bt0_or2 (a b c : Int32) : (a ||| b) &&& c = (a &&& c) ||| (b &&& c) := by
  apply Int32.toBitVec.inj
  simp only [Int32.toBitVec_and, Int32.toBitVec_or]
  ext i
  simp [Bool.and_or_distrib_right]
theorem bt0_or0 (a b : Int32) : a ||| b = 0 ↔ a = 0 ∧ b = 0 := by
  rw [← Int32.toBitVec_inj, ← Int32.toBitVec_inj, ← Int32.toBitVec_inj, Int32.toBitVec_or]
  exact BitVec.or_eq_zero_iff
theorem bt0_ne : ∀ j, j < 13 → ∀ o, o < 13 → ((nI 1 <<< (nI j &&& 31)) &&& (nI 1 <<< (nI o &&& 31)) = 0 ↔ ¬ o = j) := by decide +kernel
theorem bt0_nz : ∀ o, o < 13 → ¬ nI 1 <<< (nI o &&& 31) = 0 := by decide +kernel
theorem bt0_or (v : Int32) {j o : Nat} (hj : j < 13) (ho : o < 13) : bt0 (v ||| (nI 1 <<< (nI j &&& 31))) o = (bt0 v o || decide (o = j)) := by
  unfold bt0
  rw [bt0_or2]
  by_cases h1 : v &&& (nI 1 <<< (nI o &&& 31)) = 0
  · by_cases h2 : o = j
    · subst h2; simp [bt0_or0, h1, bt0_nz o ho]
    · simp [bt0_or0, h1, bt0_ne j hj o ho, h2]
  · simp [bt0_or0, h1]
theorem bt0_0 : ∀ o, o < 13 → bt0 (nI 0) o = false := by decide +kernel
theorem bt0_1 : ∀ o, o < 13 → bt0 (nI 1) o = decide (o = 0) := by decide +kernel
def tt_X0_targetsOf : pm_T := fun args M k => match args with
  | [.ref 1, .int x] => ∃ P n, x = nI n ∧ Dk0 M P ∧ (1 ≤ n ∧ n ≤ pS P * pR P) ∧ ∀ v, (∀ o, o ≤ pS P * pR P → bt0 v o = letF P n o) → k (some (.int v)) M
  | _ => False
abbrev ct_X0_targetsOf : List pm_C := [(false, 41, 0, 1, (some .int), tt_X0_size), (false, 57, 0, 3, (some .boolean), tt_X0_lawLets)]
set_option maxHeartbeats 4000000 in
theorem sm_X0_targetsOf  : pm_Sem SHx yX0_targetsOf cX0_targetsOf 4 (some .int) 3 tt_X0_targetsOf := by
  refine pm_Sem_intro bl_X0_targetsOf ct_X0_targetsOf cs_X0_targetsOf rfl (List.forall_mem_cons.mpr ⟨⟨_, _, _, _, sm_X0_size, by decide, cm_X0_size, by decide +kernel⟩, List.forall_mem_cons.mpr ⟨⟨_, _, _, _, sm_X0_lawLets, by decide, cm_X0_lawLets, by decide +kernel⟩, fun _ h => absurd h List.not_mem_nil⟩⟩) ck_X0_targetsOf (by decide +kernel) (by decide) ?_
  intro X k hX args M hT
  have hb0 := hX 0 bk_X0_targetsOf_0 (List.mem_of_getElem? (i := 0) rfl)
  have hb21 := hX 21 bk_X0_targetsOf_21 (List.mem_of_getElem? (i := 1) rfl)
  have hb25 := hX 25 bk_X0_targetsOf_25 (List.mem_of_getElem? (i := 2) rfl)
  have hb26 := hX 26 bk_X0_targetsOf_26 (List.mem_of_getElem? (i := 3) rfl)
  have hb29 := hX 29 bk_X0_targetsOf_29 (List.mem_of_getElem? (i := 4) rfl)
  have hb52 := hX 52 bk_X0_targetsOf_52 (List.mem_of_getElem? (i := 5) rfl)
  have hb58 := hX 58 bk_X0_targetsOf_58 (List.mem_of_getElem? (i := 6) rfl)
  clear hX
  unfold tt_X0_targetsOf at hT; split at hT
  · obtain ⟨⟨s, r, c, e, w⟩, n, rfl, hD0, ⟨n1, n2⟩, hT⟩ := hT
    have hD := hD0
    obtain ⟨⟨h1, h2, h3, h4, h5, h6, h7, h8, h9⟩, ⟨m3, m4, m5, m6, m7⟩, hd⟩ := hD
    dsimp only [pS, pR, pC, pE, pL] at *
    have mn := hd n n1 n2
    have qn := ra_le (n := n) h3
    refine ⟨by simp [lg_sl, Value.category], ?_⟩
    have loop : ∀ (f o : Nat) (v : Int32), s * r + 1 ≤ o + f → 1 ≤ o → o ≤ s * r + 1 → (∀ j, j ≤ s * r → bt0 v j = (letF (s, r, c, e, w) n j && decide (j < o))) → X 29 [(0, .ref 1), (1, .int (nI n)), (2, .int v), (3, .int (nI o))] [] M := by
      intro f
      induction f with
      | zero =>
        intro o v f1 f2 f3 f4
        have e1 : o = s * r + 1 := by omega
        subst e1
        refine hb29 _ _ _ ?_
        simp [bk_X0_targetsOf_0, bk_X0_targetsOf_21, bk_X0_targetsOf_25, bk_X0_targetsOf_26, bk_X0_targetsOf_29, bk_X0_targetsOf_52, bk_X0_targetsOf_58, pm_arr, pm_call, pm_e_c0, pm_e_c1, pm_e_cti, pm_e_ctl, pm_e_ctr, pm_e_go, pm_e_i, pm_e_ii, pm_e_ldi, pm_e_ldr, pm_e_lk, pm_e_r, pm_e_ri, pm_e_rm0, pm_e_rm1, pm_e_rs0, pm_e_rs1, pm_e_wp0, pm_e_wp1, pm_f2, pm_f3, pm_fld, pm_fv, pm_obj, pm_recv, pm_s_aload_n, pm_s_getfield, pm_s_goto, pm_s_iaload, pm_s_iconst, pm_s_ifCond_eq, pm_s_if_icmp_gt, pm_s_if_icmp_ne, pm_s_iinc, pm_s_iload_n, pm_s_invokevirtual, pm_s_ior, pm_s_ireturn, pm_s_ishl, pm_s_istore_n, ct_X0_targetsOf, tt_X0_size, tt_X0_lawLets, pS, pR, pC, pE, pL, -Int32.not_le, -Int32.not_lt, -Int64.not_le, -Int64.not_lt, sx_1, m3, m4]
        simp (disch := omega) only [ni_in, ni_cl, ni_add, ni_mul, ni_sub, ni_lt, ni_le, ni_eq, ni_eq0, ni_lt0, ni_0le, ni_0lt, ni_le0, ni_a1, ni_a3, ni_a7, ni_a15]
        refine ⟨fun _ => ?_, fun h => by omega⟩
        refine hb58 _ _ _ ?_
        simp [bk_X0_targetsOf_0, bk_X0_targetsOf_21, bk_X0_targetsOf_25, bk_X0_targetsOf_26, bk_X0_targetsOf_29, bk_X0_targetsOf_52, bk_X0_targetsOf_58, pm_arr, pm_call, pm_e_c0, pm_e_c1, pm_e_cti, pm_e_ctl, pm_e_ctr, pm_e_go, pm_e_i, pm_e_ii, pm_e_ldi, pm_e_ldr, pm_e_lk, pm_e_r, pm_e_ri, pm_e_rm0, pm_e_rm1, pm_e_rs0, pm_e_rs1, pm_e_wp0, pm_e_wp1, pm_f2, pm_f3, pm_fld, pm_fv, pm_obj, pm_recv, pm_s_aload_n, pm_s_getfield, pm_s_goto, pm_s_iaload, pm_s_iconst, pm_s_ifCond_eq, pm_s_if_icmp_gt, pm_s_if_icmp_ne, pm_s_iinc, pm_s_iload_n, pm_s_invokevirtual, pm_s_ior, pm_s_ireturn, pm_s_ishl, pm_s_istore_n, ct_X0_targetsOf, tt_X0_size, tt_X0_lawLets, pS, pR, pC, pE, pL, -Int32.not_le, -Int32.not_lt, -Int64.not_le, -Int64.not_lt]
        exact hT v (fun j hj => by rw [f4 j hj]; simp; omega)
      | succ f ih =>
        intro o v f1 f2 f3 f4
        refine hb29 _ _ _ ?_
        simp [bk_X0_targetsOf_29, pm_e_wp1, pm_e_wp0, pm_s_iload_n, pm_s_aload_n, pm_e_ldi, pm_e_ldr, pm_e_lk, pm_f2, pm_f3, pm_s_invokevirtual, ct_X0_targetsOf, pm_call, pm_recv, pm_obj, sx_1, tt_X0_size, m3, m4, pm_s_if_icmp_gt, pm_e_ii, pm_e_go, pm_e_rs0, pm_e_rs1, pm_e_cti, pm_e_ctr]
        simp (disch := omega) only [ni_in, ni_cl, ni_add, ni_mul, ni_sub, ni_lt, ni_le, ni_eq, ni_eq0, ni_lt0, ni_0le, ni_0lt, ni_le0, ni_a1, ni_a3, ni_a7, ni_a15]
        refine ⟨fun h => ?_, fun h => ?_⟩
        · refine hb58 _ _ _ ?_
          simp [bk_X0_targetsOf_0, bk_X0_targetsOf_21, bk_X0_targetsOf_25, bk_X0_targetsOf_26, bk_X0_targetsOf_29, bk_X0_targetsOf_52, bk_X0_targetsOf_58, pm_arr, pm_call, pm_e_c0, pm_e_c1, pm_e_cti, pm_e_ctl, pm_e_ctr, pm_e_go, pm_e_i, pm_e_ii, pm_e_ldi, pm_e_ldr, pm_e_lk, pm_e_r, pm_e_ri, pm_e_rm0, pm_e_rm1, pm_e_rs0, pm_e_rs1, pm_e_wp0, pm_e_wp1, pm_f2, pm_f3, pm_fld, pm_fv, pm_obj, pm_recv, pm_s_aload_n, pm_s_getfield, pm_s_goto, pm_s_iaload, pm_s_iconst, pm_s_ifCond_eq, pm_s_if_icmp_gt, pm_s_if_icmp_ne, pm_s_iinc, pm_s_iload_n, pm_s_invokevirtual, pm_s_ior, pm_s_ireturn, pm_s_ishl, pm_s_istore_n, ct_X0_targetsOf, tt_X0_size, tt_X0_lawLets, pS, pR, pC, pE, pL, -Int32.not_le, -Int32.not_lt, -Int64.not_le, -Int64.not_lt]
          exact hT v (fun j hj => by rw [f4 j hj]; simp; omega)
        · refine ⟨(s, r, c, e, w), n, o, rfl, rfl, hD0, ⟨n1, n2⟩, ⟨f2, by omega⟩, ?_⟩
          simp [bk_X0_targetsOf_0, bk_X0_targetsOf_21, bk_X0_targetsOf_25, bk_X0_targetsOf_26, bk_X0_targetsOf_29, bk_X0_targetsOf_52, bk_X0_targetsOf_58, pm_arr, pm_call, pm_e_c0, pm_e_c1, pm_e_cti, pm_e_ctl, pm_e_ctr, pm_e_go, pm_e_i, pm_e_ii, pm_e_ldi, pm_e_ldr, pm_e_lk, pm_e_r, pm_e_ri, pm_e_rm0, pm_e_rm1, pm_e_rs0, pm_e_rs1, pm_e_wp0, pm_e_wp1, pm_f2, pm_f3, pm_fld, pm_fv, pm_obj, pm_recv, pm_s_aload_n, pm_s_getfield, pm_s_goto, pm_s_iaload, pm_s_iconst, pm_s_ifCond_eq, pm_s_if_icmp_gt, pm_s_if_icmp_ne, pm_s_iinc, pm_s_iload_n, pm_s_invokevirtual, pm_s_ior, pm_s_ireturn, pm_s_ishl, pm_s_istore_n, ct_X0_targetsOf, tt_X0_size, tt_X0_lawLets, pS, pR, pC, pE, pL, -Int32.not_le, -Int32.not_lt, -Int64.not_le, -Int64.not_lt, pb_eq0]
          have h52 : ∀ v', (∀ j, j ≤ s * r → bt0 v' j = (letF (s, r, c, e, w) n j && decide (j < o + 1))) → X 52 [(0, .ref 1), (1, .int (nI n)), (2, .int v'), (3, .int (nI o))] [] M := by
            intro v' hv'
            refine hb52 _ _ _ ?_
            simp [bk_X0_targetsOf_0, bk_X0_targetsOf_21, bk_X0_targetsOf_25, bk_X0_targetsOf_26, bk_X0_targetsOf_29, bk_X0_targetsOf_52, bk_X0_targetsOf_58, pm_arr, pm_call, pm_e_c0, pm_e_c1, pm_e_cti, pm_e_ctl, pm_e_ctr, pm_e_go, pm_e_i, pm_e_ii, pm_e_ldi, pm_e_ldr, pm_e_lk, pm_e_r, pm_e_ri, pm_e_rm0, pm_e_rm1, pm_e_rs0, pm_e_rs1, pm_e_wp0, pm_e_wp1, pm_f2, pm_f3, pm_fld, pm_fv, pm_obj, pm_recv, pm_s_aload_n, pm_s_getfield, pm_s_goto, pm_s_iaload, pm_s_iconst, pm_s_ifCond_eq, pm_s_if_icmp_gt, pm_s_if_icmp_ne, pm_s_iinc, pm_s_iload_n, pm_s_invokevirtual, pm_s_ior, pm_s_ireturn, pm_s_ishl, pm_s_istore_n, ct_X0_targetsOf, tt_X0_size, tt_X0_lawLets, pS, pR, pC, pE, pL, -Int32.not_le, -Int32.not_lt, -Int64.not_le, -Int64.not_lt]
            rw [ni_add]
            exact ih (o + 1) v' (by omega) (by omega) (by omega) hv'
          refine ⟨fun hf => h52 v (fun j hj => ?_), fun hf => h52 _ (fun j hj => ?_)⟩
          · rw [f4 j hj]
            by_cases e1 : j = o
            · subst e1; simp [hf]
            · congr 1; exact decide_eq_decide.mpr (by omega)
          · rw [bt0_or v (by omega) (by omega), f4 j hj]
            by_cases e1 : j = o
            · subst e1; simp [hf]
            · simp only [e1, decide_false, Bool.or_false]; congr 1; exact decide_eq_decide.mpr (by omega)
    have h26 : ∀ (b : Bool), b = letF (s, r, c, e, w) n 0 → X 26 [(0, .ref 1), (1, .int (nI n))] [.int (pb b)] M := by
      intro b eb
      refine hb26 _ _ _ ?_
      simp [bk_X0_targetsOf_0, bk_X0_targetsOf_21, bk_X0_targetsOf_25, bk_X0_targetsOf_26, bk_X0_targetsOf_29, bk_X0_targetsOf_52, bk_X0_targetsOf_58, pm_arr, pm_call, pm_e_c0, pm_e_c1, pm_e_cti, pm_e_ctl, pm_e_ctr, pm_e_go, pm_e_i, pm_e_ii, pm_e_ldi, pm_e_ldr, pm_e_lk, pm_e_r, pm_e_ri, pm_e_rm0, pm_e_rm1, pm_e_rs0, pm_e_rs1, pm_e_wp0, pm_e_wp1, pm_f2, pm_f3, pm_fld, pm_fv, pm_obj, pm_recv, pm_s_aload_n, pm_s_getfield, pm_s_goto, pm_s_iaload, pm_s_iconst, pm_s_ifCond_eq, pm_s_if_icmp_gt, pm_s_if_icmp_ne, pm_s_iinc, pm_s_iload_n, pm_s_invokevirtual, pm_s_ior, pm_s_ireturn, pm_s_ishl, pm_s_istore_n, ct_X0_targetsOf, tt_X0_size, tt_X0_lawLets, pS, pR, pC, pE, pL, -Int32.not_le, -Int32.not_lt, -Int64.not_le, -Int64.not_lt]
      refine loop (s * r) 1 (pb b) (by omega) (by omega) (by omega) (fun j hj => ?_)
      cases b
      · rw [pb_f, ← ni_0, bt0_0 j (by omega)]
        by_cases e1 : j = 0
        · subst e1; simp [← eb]
        · simp; omega
      · rw [pb_t, ← ni_1, bt0_1 j (by omega)]
        by_cases e1 : j = 0
        · subst e1; simp [← eb]
        · simp [e1]
    have h21 : letF (s, r, c, e, w) n 0 = true → X 21 [(0, .ref 1), (1, .int (nI n))] [] M := by
      intro hf
      refine hb21 _ _ _ ?_
      simp [bk_X0_targetsOf_0, bk_X0_targetsOf_21, bk_X0_targetsOf_25, bk_X0_targetsOf_26, bk_X0_targetsOf_29, bk_X0_targetsOf_52, bk_X0_targetsOf_58, pm_arr, pm_call, pm_e_c0, pm_e_c1, pm_e_cti, pm_e_ctl, pm_e_ctr, pm_e_go, pm_e_i, pm_e_ii, pm_e_ldi, pm_e_ldr, pm_e_lk, pm_e_r, pm_e_ri, pm_e_rm0, pm_e_rm1, pm_e_rs0, pm_e_rs1, pm_e_wp0, pm_e_wp1, pm_f2, pm_f3, pm_fld, pm_fv, pm_obj, pm_recv, pm_s_aload_n, pm_s_getfield, pm_s_goto, pm_s_iaload, pm_s_iconst, pm_s_ifCond_eq, pm_s_if_icmp_gt, pm_s_if_icmp_ne, pm_s_iinc, pm_s_iload_n, pm_s_invokevirtual, pm_s_ior, pm_s_ireturn, pm_s_ishl, pm_s_istore_n, ct_X0_targetsOf, tt_X0_size, tt_X0_lawLets, pS, pR, pC, pE, pL, -Int32.not_le, -Int32.not_lt, -Int64.not_le, -Int64.not_lt]
      exact h26 true hf.symm
    refine hb0 _ _ _ ?_
    simp [bk_X0_targetsOf_0, bk_X0_targetsOf_21, bk_X0_targetsOf_25, bk_X0_targetsOf_26, bk_X0_targetsOf_29, bk_X0_targetsOf_52, bk_X0_targetsOf_58, pm_arr, pm_call, pm_e_c0, pm_e_c1, pm_e_cti, pm_e_ctl, pm_e_ctr, pm_e_go, pm_e_i, pm_e_ii, pm_e_ldi, pm_e_ldr, pm_e_lk, pm_e_r, pm_e_ri, pm_e_rm0, pm_e_rm1, pm_e_rs0, pm_e_rs1, pm_e_wp0, pm_e_wp1, pm_f2, pm_f3, pm_fld, pm_fv, pm_obj, pm_recv, pm_s_aload_n, pm_s_getfield, pm_s_goto, pm_s_iaload, pm_s_iconst, pm_s_ifCond_eq, pm_s_if_icmp_gt, pm_s_if_icmp_ne, pm_s_iinc, pm_s_iload_n, pm_s_invokevirtual, pm_s_ior, pm_s_ireturn, pm_s_ishl, pm_s_istore_n, ct_X0_targetsOf, tt_X0_size, tt_X0_lawLets, pS, pR, pC, pE, pL, -Int32.not_le, -Int32.not_lt, -Int64.not_le, -Int64.not_lt, lv_args, sx_1, sx_3, m7, m4]
    simp (disch := omega) only [ni_in, ni_cl, ni_add, ni_mul, ni_sub, ni_lt, ni_le, ni_eq, ni_eq0, ni_lt0, ni_0le, ni_0lt, ni_le0, ni_a1, ni_a3, ni_a7, ni_a15, mn.2]
    refine ⟨fun h => h21 (by simp [letF, pL, h]), fun h => ⟨by omega, fun h' => ?_, fun h' => h21 (by simp [letF, pL, pR, h'])⟩⟩
    refine hb25 _ _ _ ?_
    simp [bk_X0_targetsOf_0, bk_X0_targetsOf_21, bk_X0_targetsOf_25, bk_X0_targetsOf_26, bk_X0_targetsOf_29, bk_X0_targetsOf_52, bk_X0_targetsOf_58, pm_arr, pm_call, pm_e_c0, pm_e_c1, pm_e_cti, pm_e_ctl, pm_e_ctr, pm_e_go, pm_e_i, pm_e_ii, pm_e_ldi, pm_e_ldr, pm_e_lk, pm_e_r, pm_e_ri, pm_e_rm0, pm_e_rm1, pm_e_rs0, pm_e_rs1, pm_e_wp0, pm_e_wp1, pm_f2, pm_f3, pm_fld, pm_fv, pm_obj, pm_recv, pm_s_aload_n, pm_s_getfield, pm_s_goto, pm_s_iaload, pm_s_iconst, pm_s_ifCond_eq, pm_s_if_icmp_gt, pm_s_if_icmp_ne, pm_s_iinc, pm_s_iload_n, pm_s_invokevirtual, pm_s_ior, pm_s_ireturn, pm_s_ishl, pm_s_istore_n, ct_X0_targetsOf, tt_X0_size, tt_X0_lawLets, pS, pR, pC, pE, pL, -Int32.not_le, -Int32.not_lt, -Int64.not_le, -Int64.not_lt]
    exact h26 false (by simp [letF, pL, pR, h, h'])
  · exact hT.elim
/-- the five numbers -/
def DkF (M : pm_M) (P : Pm) : Prop := M.1 1 3 = nI (pS P) ∧ M.1 1 4 = nI (pR P) ∧ M.1 1 5 = nI (pC P) ∧ M.1 1 6 = nI (pE P) ∧ M.1 1 7 = nI (pL P)
def tt_X0_choose : pm_T := fun args M k => match args with
  | [.ref 1, .int a, .int b, .int c, .int d, .int e] => ∃ P, a = nI (pS P) ∧ b = nI (pR P) ∧ c = nI (pC P) ∧ d = nI (pE P) ∧ e = nI (pL P) ∧ okP P ∧ ∀ M', DkX M' P → pm_fr [1, 2, 3, 4] M M' → k none M'
  | _ => False
abbrev ct_X0_choose : List pm_C := [(false, 37, 0, 3, (some .int), tt_X0_cardOf), (false, 41, 0, 1, (some .int), tt_X0_size), (false, 45, 0, 2, (some .int), tt_X0_targetsOf)]
set_option maxHeartbeats 4000000 in
theorem sm_X0_choose  : pm_Sem SHx yX0_choose cX0_choose 9 none 4 tt_X0_choose := by
  refine pm_Sem_intro bl_X0_choose ct_X0_choose cs_X0_choose rfl (List.forall_mem_cons.mpr ⟨⟨_, _, _, _, sm_X0_cardOf, by decide, cm_X0_cardOf, by decide +kernel⟩, List.forall_mem_cons.mpr ⟨⟨_, _, _, _, sm_X0_size, by decide, cm_X0_size, by decide +kernel⟩, List.forall_mem_cons.mpr ⟨⟨_, _, _, _, sm_X0_targetsOf, by decide, cm_X0_targetsOf, by decide +kernel⟩, fun _ h => absurd h List.not_mem_nil⟩⟩⟩) ck_X0_choose (by decide +kernel) (by decide) ?_
  intro X k hX args M hT
  have hb0 := hX 0 bk_X0_choose_0 (List.mem_of_getElem? (i := 0) rfl)
  have hb30 := hX 30 bk_X0_choose_30 (List.mem_of_getElem? (i := 1) rfl)
  have hb42 := hX 42 bk_X0_choose_42 (List.mem_of_getElem? (i := 2) rfl)
  have hb85 := hX 85 bk_X0_choose_85 (List.mem_of_getElem? (i := 3) rfl)
  have hb91 := hX 91 bk_X0_choose_91 (List.mem_of_getElem? (i := 4) rfl)
  have hb94 := hX 94 bk_X0_choose_94 (List.mem_of_getElem? (i := 5) rfl)
  have hb122 := hX 122 bk_X0_choose_122 (List.mem_of_getElem? (i := 6) rfl)
  clear hX
  unfold tt_X0_choose at hT; split at hT
  · obtain ⟨⟨s, r, c, e, w⟩, rfl, rfl, rfl, rfl, rfl, hP0, hT⟩ := hT
    have hP := hP0
    obtain ⟨h1, h2, h3, h4, h5, h6, h7, h8, h9⟩ := hP
    dsimp only [pS, pR, pC, pE, pL] at *
    refine ⟨by simp [lg_sl, Value.category], ?_⟩
    -- the targets
    have loop3 : ∀ (f i : Nat) (M' : pm_M), s * r + 1 ≤ i + f → 1 ≤ i → i ≤ s * r + 1 → pm_fr [1, 2, 3, 4] M M' → Dk0 M' (s, r, c, e, w) → (∀ n, 1 ≤ n → n < i → n ≤ s * r → ∀ o, o ≤ s * r → bt0 (M'.1 4 n) o = letF (s, r, c, e, w) n o) → X 94 [(0, .ref 1), (6, .int (nI i))] [] M' := by
      intro f
      induction f with
      | zero =>
        intro i M' f1 f2 f3 hf hD hA
        refine hb94 _ _ _ ?_
        simp [bk_X0_choose_94, pm_e_wp1, pm_e_wp0, pm_s_iload, pm_s_aload_n, pm_e_ldi, pm_e_ldr, pm_e_lk, pm_f2, pm_f3, pm_s_invokevirtual, ct_X0_choose, pm_call, pm_recv, pm_obj, sx_1, tt_X0_size, pm_s_if_icmp_gt, pm_e_ii, pm_e_go, pm_e_rs0, pm_e_rs1, pm_e_cti, pm_e_ctr, pS, pR, hD.2.1.1, hD.2.1.2.1]
        simp (disch := omega) only [ni_in, ni_cl, ni_add, ni_mul, ni_sub, ni_lt, ni_le, ni_eq, ni_eq0, ni_lt0, ni_0le, ni_0lt, ni_le0, ni_a1, ni_a3, ni_a7, ni_a15]
        refine ⟨fun _ => ?_, fun h => by omega⟩
        refine hb122 _ _ _ ?_
        simp [bk_X0_choose_0, bk_X0_choose_30, bk_X0_choose_42, bk_X0_choose_85, bk_X0_choose_91, bk_X0_choose_94, bk_X0_choose_122, pm_arr, pm_call, pm_e_c0, pm_e_c1, pm_e_cti, pm_e_ctl, pm_e_ctr, pm_e_go, pm_e_i, pm_e_ii, pm_e_ldi, pm_e_ldr, pm_e_lk, pm_e_r, pm_e_rii, pm_e_rm0, pm_e_rm1, pm_e_rs0, pm_e_rs1, pm_e_wp0, pm_e_wp1, pm_f2, pm_f3, pm_fld, pm_fv, pm_obj, pm_recv, pm_s_aload_n, pm_s_getfield, pm_s_goto, pm_s_iastore, pm_s_iconst, pm_s_if_icmp_ge, pm_s_if_icmp_gt, pm_s_iinc, pm_s_iload, pm_s_iload_n, pm_s_invokevirtual, pm_s_istore, pm_s_putfield, pm_s_return, ct_X0_choose, tt_X0_cardOf, tt_X0_size, tt_X0_targetsOf, pS, pR, pC, pE, pL, -Int32.not_le, -Int32.not_lt, -Int64.not_le, -Int64.not_lt]
        exact hT M' ⟨hD, fun n q1 q2 => hA n q1 (by dsimp only [pS, pR] at q2; omega) q2⟩ hf
      | succ f ih =>
        intro i M' f1 f2 f3 hf hD hA
        refine hb94 _ _ _ ?_
        simp [bk_X0_choose_94, pm_e_wp1, pm_e_wp0, pm_s_iload, pm_s_aload_n, pm_e_ldi, pm_e_ldr, pm_e_lk, pm_f2, pm_f3, pm_s_invokevirtual, ct_X0_choose, pm_call, pm_recv, pm_obj, sx_1, tt_X0_size, pm_s_if_icmp_gt, pm_e_ii, pm_e_go, pm_e_rs0, pm_e_rs1, pm_e_cti, pm_e_ctr, pm_s_getfield, pm_e_r, pm_fld, pm_fv, pS, pR, hD.2.1.1, hD.2.1.2.1]
        simp (disch := omega) only [ni_in, ni_cl, ni_add, ni_mul, ni_sub, ni_lt, ni_le, ni_eq, ni_eq0, ni_lt0, ni_0le, ni_0lt, ni_le0, ni_a1, ni_a3, ni_a7, ni_a15]
        refine ⟨fun h => ?_, fun h => ?_⟩
        · refine hb122 _ _ _ ?_
          simp [bk_X0_choose_0, bk_X0_choose_30, bk_X0_choose_42, bk_X0_choose_85, bk_X0_choose_91, bk_X0_choose_94, bk_X0_choose_122, pm_arr, pm_call, pm_e_c0, pm_e_c1, pm_e_cti, pm_e_ctl, pm_e_ctr, pm_e_go, pm_e_i, pm_e_ii, pm_e_ldi, pm_e_ldr, pm_e_lk, pm_e_r, pm_e_rii, pm_e_rm0, pm_e_rm1, pm_e_rs0, pm_e_rs1, pm_e_wp0, pm_e_wp1, pm_f2, pm_f3, pm_fld, pm_fv, pm_obj, pm_recv, pm_s_aload_n, pm_s_getfield, pm_s_goto, pm_s_iastore, pm_s_iconst, pm_s_if_icmp_ge, pm_s_if_icmp_gt, pm_s_iinc, pm_s_iload, pm_s_iload_n, pm_s_invokevirtual, pm_s_istore, pm_s_putfield, pm_s_return, ct_X0_choose, tt_X0_cardOf, tt_X0_size, tt_X0_targetsOf, pS, pR, pC, pE, pL, -Int32.not_le, -Int32.not_lt, -Int64.not_le, -Int64.not_lt]
          exact hT M' ⟨hD, fun n q1 q2 => hA n q1 (by dsimp only [pS, pR] at q2; omega) q2⟩ hf
        · refine ⟨(s, r, c, e, w), i, rfl, hD, ⟨f2, by dsimp only [pS, pR]; omega⟩, fun v hv => ?_⟩
          simp [bk_X0_choose_0, bk_X0_choose_30, bk_X0_choose_42, bk_X0_choose_85, bk_X0_choose_91, bk_X0_choose_94, bk_X0_choose_122, pm_arr, pm_call, pm_e_c0, pm_e_c1, pm_e_cti, pm_e_ctl, pm_e_ctr, pm_e_go, pm_e_i, pm_e_ii, pm_e_ldi, pm_e_ldr, pm_e_lk, pm_e_r, pm_e_rii, pm_e_rm0, pm_e_rm1, pm_e_rs0, pm_e_rs1, pm_e_wp0, pm_e_wp1, pm_f2, pm_f3, pm_fld, pm_fv, pm_obj, pm_recv, pm_s_aload_n, pm_s_getfield, pm_s_goto, pm_s_iastore, pm_s_iconst, pm_s_if_icmp_ge, pm_s_if_icmp_gt, pm_s_iinc, pm_s_iload, pm_s_iload_n, pm_s_invokevirtual, pm_s_istore, pm_s_putfield, pm_s_return, ct_X0_choose, tt_X0_cardOf, tt_X0_size, tt_X0_targetsOf, pS, pR, pC, pE, pL, -Int32.not_le, -Int32.not_lt, -Int64.not_le, -Int64.not_lt, sx_4]
          simp (disch := omega) only [ni_in, ni_cl, ni_add, ni_mul, ni_sub, ni_lt, ni_le, ni_eq, ni_eq0, ni_lt0, ni_0le, ni_0lt, ni_le0, ni_a1, ni_a3, ni_a7, ni_a15]
          refine ⟨by omega, ?_⟩
          refine ih (i + 1) _ (by omega) (by omega) (by omega) (hf.set (by simp)) ?_ ?_
          · refine ⟨hD.1, ?_, fun n q1 q2 => ?_⟩
            · simp only [me_1]; simpa using hD.2.1
            · have := hD.2.2 n q1 q2
              simp only [me_1]; simpa using this
          · intro n q1 q2 q3 o q4
            by_cases e1 : n = i
            · subst e1; simp only [me_1]; simpa using hv o q4
            · simp only [me_1]; simpa [e1] using hA n q1 (by omega) q3 o q4
    -- the cards
    have loop1 : ∀ (f i : Nat) (M' : pm_M), s ≤ i + f → i ≤ s → pm_fr [1, 2, 3, 4] M M' → DkF M' (s, r, c, e, w) → (∀ n, 1 ≤ n → n ≤ s * r → su r n < i → M'.1 2 n = nI (su r n) ∧ M'.1 3 n = nI (ra r n)) → X 30 [(0, .ref 1), (6, .int (nI i))] [] M' := by
      intro f
      induction f with
      | zero =>
        intro i M' f1 f2 hf hF hA
        refine hb30 _ _ _ ?_
        simp [bk_X0_choose_0, bk_X0_choose_30, bk_X0_choose_42, bk_X0_choose_85, bk_X0_choose_91, bk_X0_choose_94, bk_X0_choose_122, pm_arr, pm_call, pm_e_c0, pm_e_c1, pm_e_cti, pm_e_ctl, pm_e_ctr, pm_e_go, pm_e_i, pm_e_ii, pm_e_ldi, pm_e_ldr, pm_e_lk, pm_e_r, pm_e_rii, pm_e_rm0, pm_e_rm1, pm_e_rs0, pm_e_rs1, pm_e_wp0, pm_e_wp1, pm_f2, pm_f3, pm_fld, pm_fv, pm_obj, pm_recv, pm_s_aload_n, pm_s_getfield, pm_s_goto, pm_s_iastore, pm_s_iconst, pm_s_if_icmp_ge, pm_s_if_icmp_gt, pm_s_iinc, pm_s_iload, pm_s_iload_n, pm_s_invokevirtual, pm_s_istore, pm_s_putfield, pm_s_return, ct_X0_choose, tt_X0_cardOf, tt_X0_size, tt_X0_targetsOf, pS, pR, pC, pE, pL, -Int32.not_le, -Int32.not_lt, -Int64.not_le, -Int64.not_lt, sx_1, hF.1]
        simp (disch := omega) only [ni_in, ni_cl, ni_add, ni_mul, ni_sub, ni_lt, ni_le, ni_eq, ni_eq0, ni_lt0, ni_0le, ni_0lt, ni_le0, ni_a1, ni_a3, ni_a7, ni_a15]
        refine ⟨fun _ => ?_, fun h => by omega⟩
        refine hb91 _ _ _ ?_
        simp [bk_X0_choose_0, bk_X0_choose_30, bk_X0_choose_42, bk_X0_choose_85, bk_X0_choose_91, bk_X0_choose_94, bk_X0_choose_122, pm_arr, pm_call, pm_e_c0, pm_e_c1, pm_e_cti, pm_e_ctl, pm_e_ctr, pm_e_go, pm_e_i, pm_e_ii, pm_e_ldi, pm_e_ldr, pm_e_lk, pm_e_r, pm_e_rii, pm_e_rm0, pm_e_rm1, pm_e_rs0, pm_e_rs1, pm_e_wp0, pm_e_wp1, pm_f2, pm_f3, pm_fld, pm_fv, pm_obj, pm_recv, pm_s_aload_n, pm_s_getfield, pm_s_goto, pm_s_iastore, pm_s_iconst, pm_s_if_icmp_ge, pm_s_if_icmp_gt, pm_s_iinc, pm_s_iload, pm_s_iload_n, pm_s_invokevirtual, pm_s_istore, pm_s_putfield, pm_s_return, ct_X0_choose, tt_X0_cardOf, tt_X0_size, tt_X0_targetsOf, pS, pR, pC, pE, pL, -Int32.not_le, -Int32.not_lt, -Int64.not_le, -Int64.not_lt]
        exact loop3 (s * r) 1 M' (by omega) (by omega) (by omega) hf ⟨hP0, hF, fun n q1 q2 => hA n q1 q2 (by have := su_lt (s := s) h3 q1 q2; omega)⟩ (fun n q1 q2 => by omega)
      | succ f ih =>
        intro i M' f1 f2 hf hF hA
        refine hb30 _ _ _ ?_
        simp [bk_X0_choose_0, bk_X0_choose_30, bk_X0_choose_42, bk_X0_choose_85, bk_X0_choose_91, bk_X0_choose_94, bk_X0_choose_122, pm_arr, pm_call, pm_e_c0, pm_e_c1, pm_e_cti, pm_e_ctl, pm_e_ctr, pm_e_go, pm_e_i, pm_e_ii, pm_e_ldi, pm_e_ldr, pm_e_lk, pm_e_r, pm_e_rii, pm_e_rm0, pm_e_rm1, pm_e_rs0, pm_e_rs1, pm_e_wp0, pm_e_wp1, pm_f2, pm_f3, pm_fld, pm_fv, pm_obj, pm_recv, pm_s_aload_n, pm_s_getfield, pm_s_goto, pm_s_iastore, pm_s_iconst, pm_s_if_icmp_ge, pm_s_if_icmp_gt, pm_s_iinc, pm_s_iload, pm_s_iload_n, pm_s_invokevirtual, pm_s_istore, pm_s_putfield, pm_s_return, ct_X0_choose, tt_X0_cardOf, tt_X0_size, tt_X0_targetsOf, pS, pR, pC, pE, pL, -Int32.not_le, -Int32.not_lt, -Int64.not_le, -Int64.not_lt, sx_1, hF.1]
        simp (disch := omega) only [ni_in, ni_cl, ni_add, ni_mul, ni_sub, ni_lt, ni_le, ni_eq, ni_eq0, ni_lt0, ni_0le, ni_0lt, ni_le0, ni_a1, ni_a3, ni_a7, ni_a15]
        refine ⟨fun h => ?_, fun h => ?_⟩
        · refine hb91 _ _ _ ?_
          simp [bk_X0_choose_0, bk_X0_choose_30, bk_X0_choose_42, bk_X0_choose_85, bk_X0_choose_91, bk_X0_choose_94, bk_X0_choose_122, pm_arr, pm_call, pm_e_c0, pm_e_c1, pm_e_cti, pm_e_ctl, pm_e_ctr, pm_e_go, pm_e_i, pm_e_ii, pm_e_ldi, pm_e_ldr, pm_e_lk, pm_e_r, pm_e_rii, pm_e_rm0, pm_e_rm1, pm_e_rs0, pm_e_rs1, pm_e_wp0, pm_e_wp1, pm_f2, pm_f3, pm_fld, pm_fv, pm_obj, pm_recv, pm_s_aload_n, pm_s_getfield, pm_s_goto, pm_s_iastore, pm_s_iconst, pm_s_if_icmp_ge, pm_s_if_icmp_gt, pm_s_iinc, pm_s_iload, pm_s_iload_n, pm_s_invokevirtual, pm_s_istore, pm_s_putfield, pm_s_return, ct_X0_choose, tt_X0_cardOf, tt_X0_size, tt_X0_targetsOf, pS, pR, pC, pE, pL, -Int32.not_le, -Int32.not_lt, -Int64.not_le, -Int64.not_lt]
          exact loop3 (s * r) 1 M' (by omega) (by omega) (by omega) hf ⟨hP0, hF, fun n q1 q2 => hA n q1 q2 (by have := su_lt (s := s) h3 q1 q2; omega)⟩ (fun n q1 q2 => by omega)
        · have loop2 : ∀ (g j : Nat) (M' : pm_M), r + 1 ≤ j + g → 1 ≤ j → j ≤ r + 1 → pm_fr [1, 2, 3, 4] M M' → DkF M' (s, r, c, e, w) → (∀ n, 1 ≤ n → n ≤ s * r → su r n < i ∨ (su r n = i ∧ ra r n < j) → M'.1 2 n = nI (su r n) ∧ M'.1 3 n = nI (ra r n)) → X 42 [(0, .ref 1), (6, .int (nI i)), (7, .int (nI j))] [] M' := by
            intro g
            have done : ∀ (j : Nat) (M' : pm_M), r < j → pm_fr [1, 2, 3, 4] M M' → DkF M' (s, r, c, e, w) → (∀ n, 1 ≤ n → n ≤ s * r → su r n < i ∨ (su r n = i ∧ ra r n < j) → M'.1 2 n = nI (su r n) ∧ M'.1 3 n = nI (ra r n)) → X 85 [(0, .ref 1), (6, .int (nI i))] [] M' := by
              intro j M' g3 hf hF hA
              refine hb85 _ _ _ ?_
              simp [bk_X0_choose_0, bk_X0_choose_30, bk_X0_choose_42, bk_X0_choose_85, bk_X0_choose_91, bk_X0_choose_94, bk_X0_choose_122, pm_arr, pm_call, pm_e_c0, pm_e_c1, pm_e_cti, pm_e_ctl, pm_e_ctr, pm_e_go, pm_e_i, pm_e_ii, pm_e_ldi, pm_e_ldr, pm_e_lk, pm_e_r, pm_e_rii, pm_e_rm0, pm_e_rm1, pm_e_rs0, pm_e_rs1, pm_e_wp0, pm_e_wp1, pm_f2, pm_f3, pm_fld, pm_fv, pm_obj, pm_recv, pm_s_aload_n, pm_s_getfield, pm_s_goto, pm_s_iastore, pm_s_iconst, pm_s_if_icmp_ge, pm_s_if_icmp_gt, pm_s_iinc, pm_s_iload, pm_s_iload_n, pm_s_invokevirtual, pm_s_istore, pm_s_putfield, pm_s_return, ct_X0_choose, tt_X0_cardOf, tt_X0_size, tt_X0_targetsOf, pS, pR, pC, pE, pL, -Int32.not_le, -Int32.not_lt, -Int64.not_le, -Int64.not_lt]
              rw [ni_add]
              exact ih (i + 1) M' (by omega) (by omega) hf hF (fun n q1 q2 q3 => hA n q1 q2 (by have := ra_le (n := n) h3; omega))
            induction g with
            | zero =>
              intro j M' g1 g2 g3 hf hF hA
              refine hb42 _ _ _ ?_
              simp [bk_X0_choose_0, bk_X0_choose_30, bk_X0_choose_42, bk_X0_choose_85, bk_X0_choose_91, bk_X0_choose_94, bk_X0_choose_122, pm_arr, pm_call, pm_e_c0, pm_e_c1, pm_e_cti, pm_e_ctl, pm_e_ctr, pm_e_go, pm_e_i, pm_e_ii, pm_e_ldi, pm_e_ldr, pm_e_lk, pm_e_r, pm_e_rii, pm_e_rm0, pm_e_rm1, pm_e_rs0, pm_e_rs1, pm_e_wp0, pm_e_wp1, pm_f2, pm_f3, pm_fld, pm_fv, pm_obj, pm_recv, pm_s_aload_n, pm_s_getfield, pm_s_goto, pm_s_iastore, pm_s_iconst, pm_s_if_icmp_ge, pm_s_if_icmp_gt, pm_s_iinc, pm_s_iload, pm_s_iload_n, pm_s_invokevirtual, pm_s_istore, pm_s_putfield, pm_s_return, ct_X0_choose, tt_X0_cardOf, tt_X0_size, tt_X0_targetsOf, pS, pR, pC, pE, pL, -Int32.not_le, -Int32.not_lt, -Int64.not_le, -Int64.not_lt, sx_1, hF.2.1]
              simp (disch := omega) only [ni_in, ni_cl, ni_add, ni_mul, ni_sub, ni_lt, ni_le, ni_eq, ni_eq0, ni_lt0, ni_0le, ni_0lt, ni_le0, ni_a1, ni_a3, ni_a7, ni_a15]
              refine ⟨fun _ => done j M' (by omega) hf hF hA, fun h => by omega⟩
            | succ g ihg =>
              intro j M' g1 g2 g3 hf hF hA
              refine hb42 _ _ _ ?_
              have hcl : i * r + j ≤ s * r ∨ r < j := by
                rcases Nat.lt_or_ge r j with q | q
                · exact Or.inr q
                · exact Or.inl (card_le (by omega) q)
              simp [bk_X0_choose_0, bk_X0_choose_30, bk_X0_choose_42, bk_X0_choose_85, bk_X0_choose_91, bk_X0_choose_94, bk_X0_choose_122, pm_arr, pm_call, pm_e_c0, pm_e_c1, pm_e_cti, pm_e_ctl, pm_e_ctr, pm_e_go, pm_e_i, pm_e_ii, pm_e_ldi, pm_e_ldr, pm_e_lk, pm_e_r, pm_e_rii, pm_e_rm0, pm_e_rm1, pm_e_rs0, pm_e_rs1, pm_e_wp0, pm_e_wp1, pm_f2, pm_f3, pm_fld, pm_fv, pm_obj, pm_recv, pm_s_aload_n, pm_s_getfield, pm_s_goto, pm_s_iastore, pm_s_iconst, pm_s_if_icmp_ge, pm_s_if_icmp_gt, pm_s_iinc, pm_s_iload, pm_s_iload_n, pm_s_invokevirtual, pm_s_istore, pm_s_putfield, pm_s_return, ct_X0_choose, tt_X0_cardOf, tt_X0_size, tt_X0_targetsOf, pS, pR, pC, pE, pL, -Int32.not_le, -Int32.not_lt, -Int64.not_le, -Int64.not_lt, sx_1, sx_2, sx_3, hF.2.1, ni_15]
              simp (disch := omega) only [ni_in, ni_cl, ni_add, ni_mul, ni_sub, ni_lt, ni_le, ni_eq, ni_eq0, ni_lt0, ni_0le, ni_0lt, ni_le0, ni_a1, ni_a3, ni_a7, ni_a15]
              refine ⟨fun _ => done j M' (by omega) hf hF hA, fun h => ?_⟩
              have hc : i * r + j ≤ s * r := card_le (by omega) (by omega)
              have e16 : (i * r + j) % 16 = i * r + j := Nat.mod_eq_of_lt (by omega)
              rw [ni_a15 (by omega), e16, ni_cl (by omega)]
              refine ihg (j + 1) _ (by omega) (by omega) (by omega) ((hf.set (by simp)).set (by simp)) ?_ ?_
              · unfold DkF at hF ⊢; simp only [me_1]; simpa using hF
              · intro n q1 q2 q3
                by_cases e1 : n = i * r + j
                · subst e1; simp only [me_1]; simp [su_of (s := i) g2 (show j ≤ r by omega), ra_of (s := i) g2 (show j ≤ r by omega)]
                · have q4 : su r n < i ∨ (su r n = i ∧ ra r n < j) := by
                    rcases q3 with q3 | ⟨q3, q5⟩
                    · exact Or.inl q3
                    · rcases Nat.lt_or_ge (ra r n) j with q6 | q6
                      · exact Or.inr ⟨q3, q6⟩
                      · exfalso; apply e1
                        have := su_ra (r := r) q1
                        rw [q3] at this
                        omega
                  have := hA n q1 q2 q4
                  simp only [me_1]; simpa [e1] using this
          exact loop2 r 1 M' (by omega) (by omega) (by omega) hf hF (fun n q1 q2 q3 => hA n q1 q2 (by rcases q3 with q3 | ⟨_, q3⟩; exact q3; have := ra_ge (r := r) (n := n); omega))
    refine hb0 _ _ _ ?_
    simp [bk_X0_choose_0, bk_X0_choose_30, bk_X0_choose_42, bk_X0_choose_85, bk_X0_choose_91, bk_X0_choose_94, bk_X0_choose_122, pm_arr, pm_call, pm_e_c0, pm_e_c1, pm_e_cti, pm_e_ctl, pm_e_ctr, pm_e_go, pm_e_i, pm_e_ii, pm_e_ldi, pm_e_ldr, pm_e_lk, pm_e_r, pm_e_rii, pm_e_rm0, pm_e_rm1, pm_e_rs0, pm_e_rs1, pm_e_wp0, pm_e_wp1, pm_f2, pm_f3, pm_fld, pm_fv, pm_obj, pm_recv, pm_s_aload_n, pm_s_getfield, pm_s_goto, pm_s_iastore, pm_s_iconst, pm_s_if_icmp_ge, pm_s_if_icmp_gt, pm_s_iinc, pm_s_iload, pm_s_iload_n, pm_s_invokevirtual, pm_s_istore, pm_s_putfield, pm_s_return, ct_X0_choose, tt_X0_cardOf, tt_X0_size, tt_X0_targetsOf, pS, pR, pC, pE, pL, -Int32.not_le, -Int32.not_lt, -Int64.not_le, -Int64.not_lt, lv_args, sx_1]
    refine loop1 s 0 _ (by omega) (by omega) (((((pm_fr.rfl.set (by simp)).set (by simp)).set (by simp)).set (by simp)).set (by simp)) ?_ (fun n _ _ h => by omega)
    unfold DkF; simp only [me_1]; simp
  · exact hT.elim
