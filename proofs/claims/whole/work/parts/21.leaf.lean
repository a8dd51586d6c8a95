-- the JDK's and the smallest of the class
def tt_X6_isWithin : pm_T := fun args M k => match args with
  | [.int n, .int a, .int b] => k (some (.int (pb (wi n a b)))) M
  | _ => False
abbrev ct_X6_isWithin : List pm_C := []
set_option maxHeartbeats 4000000 in
theorem sm_X6_isWithin {SH : List pm_S} : pm_Sem SH yX6_isWithin cX6_isWithin 3 (some .boolean) 1 tt_X6_isWithin := by
  refine pm_Sem_intro bl_X6_isWithin ct_X6_isWithin cs_X6_isWithin rfl (fun _ h => absurd h List.not_mem_nil) ck_X6_isWithin (by decide +kernel) (by decide) ?_
  intro X k hX args M hT
  have hb0 := hX 0 bk_X6_isWithin_0 (List.mem_of_getElem? (i := 0) rfl)
  have hb14 := hX 14 bk_X6_isWithin_14 (List.mem_of_getElem? (i := 1) rfl)
  have hb15 := hX 15 bk_X6_isWithin_15 (List.mem_of_getElem? (i := 2) rfl)
  clear hX
  unfold tt_X6_isWithin wi at hT; split at hT
  · next n a b =>
    refine ⟨by simp [lg_sl, Value.category], ?_⟩
    refine hb0 _ _ _ ?_
    simp [bk_X6_isWithin_0, bk_X6_isWithin_14, bk_X6_isWithin_15, pm_e_c0, pm_e_c1, pm_e_cti, pm_e_ctl, pm_e_ctr, pm_e_go, pm_e_ii, pm_e_ldi, pm_e_lk, pm_e_rm0, pm_e_rm1, pm_e_rs0, pm_e_rs1, pm_e_wp0, pm_e_wp1, pm_f2, pm_f3, pm_s_goto, pm_s_iconst, pm_s_if_icmp_gt, pm_s_if_icmp_lt, pm_s_iload_n, pm_s_ireturn, ct_X6_isWithin, -Int32.not_le, -Int32.not_lt, -Int64.not_le, -Int64.not_lt, lv_args]
    repeat' first
      | refine ⟨fun _ => ?_, fun _ => ?_⟩
      | (refine hb14 _ _ _ ?_; simp [bk_X6_isWithin_0, bk_X6_isWithin_14, bk_X6_isWithin_15, pm_e_c0, pm_e_c1, pm_e_cti, pm_e_ctl, pm_e_ctr, pm_e_go, pm_e_ii, pm_e_ldi, pm_e_lk, pm_e_rm0, pm_e_rm1, pm_e_rs0, pm_e_rs1, pm_e_wp0, pm_e_wp1, pm_f2, pm_f3, pm_s_goto, pm_s_iconst, pm_s_if_icmp_gt, pm_s_if_icmp_lt, pm_s_iload_n, pm_s_ireturn, ct_X6_isWithin, -Int32.not_le, -Int32.not_lt, -Int64.not_le, -Int64.not_lt, ni_0, ni_1])
      | (refine hb15 _ _ _ ?_; simp [bk_X6_isWithin_0, bk_X6_isWithin_14, bk_X6_isWithin_15, pm_e_c0, pm_e_c1, pm_e_cti, pm_e_ctl, pm_e_ctr, pm_e_go, pm_e_ii, pm_e_ldi, pm_e_lk, pm_e_rm0, pm_e_rm1, pm_e_rs0, pm_e_rs1, pm_e_wp0, pm_e_wp1, pm_f2, pm_f3, pm_s_goto, pm_s_iconst, pm_s_if_icmp_gt, pm_s_if_icmp_lt, pm_s_iload_n, pm_s_ireturn, ct_X6_isWithin, -Int32.not_le, -Int32.not_lt, -Int64.not_le, -Int64.not_lt, ni_0, ni_1])
    all_goals simp_all [ni_0, ni_1, pb_t, pb_f, -Int32.not_le, -Int32.not_lt]
  · exact hT.elim
def tt_X0_size : pm_T := fun args M k => match args with
  | [.ref 1] => k (some (.int (M.1 1 3 * M.1 1 4))) M
  | _ => False
abbrev ct_X0_size : List pm_C := []
set_option maxHeartbeats 4000000 in
theorem sm_X0_size  : pm_Sem SHx yX0_size cX0_size 1 (some .int) 1 tt_X0_size := by
  refine pm_Sem_intro bl_X0_size ct_X0_size cs_X0_size rfl (fun _ h => absurd h List.not_mem_nil) ck_X0_size (by decide +kernel) (by decide) ?_
  intro X k hX args M hT
  have hb0 := hX 0 bk_X0_size_0 (List.mem_of_getElem? (i := 0) rfl)
  clear hX
  unfold tt_X0_size at hT; split at hT
  · refine ⟨by simp [lg_sl, Value.category], ?_⟩
    refine hb0 _ _ _ ?_
    simp [bk_X0_size_0, pm_e_cti, pm_e_ctl, pm_e_ctr, pm_e_go, pm_e_ii, pm_e_ldr, pm_e_lk, pm_e_r, pm_e_rm0, pm_e_rm1, pm_e_rs0, pm_e_rs1, pm_e_wp0, pm_e_wp1, pm_f2, pm_f3, pm_fld, pm_fv, pm_obj, pm_s_aload_n, pm_s_getfield, pm_s_imul, pm_s_ireturn, ct_X0_size, -Int32.not_le, -Int32.not_lt, -Int64.not_le, -Int64.not_lt, lv_args, sx_1]
    exact hT
  · exact hT.elim
def tt_X0_cardOf : pm_T := fun args M k => match args with
  | [.ref 1, .int s, .int r] => k (some (.int ((s * M.1 1 4 + r) &&& nI 15))) M
  | _ => False
abbrev ct_X0_cardOf : List pm_C := []
set_option maxHeartbeats 4000000 in
theorem sm_X0_cardOf  : pm_Sem SHx yX0_cardOf cX0_cardOf 3 (some .int) 1 tt_X0_cardOf := by
  refine pm_Sem_intro bl_X0_cardOf ct_X0_cardOf cs_X0_cardOf rfl (fun _ h => absurd h List.not_mem_nil) ck_X0_cardOf (by decide +kernel) (by decide) ?_
  intro X k hX args M hT
  have hb0 := hX 0 bk_X0_cardOf_0 (List.mem_of_getElem? (i := 0) rfl)
  clear hX
  unfold tt_X0_cardOf at hT; split at hT
  · refine ⟨by simp [lg_sl, Value.category], ?_⟩
    refine hb0 _ _ _ ?_
    simp [bk_X0_cardOf_0, pm_e_c0, pm_e_c1, pm_e_cti, pm_e_ctl, pm_e_ctr, pm_e_go, pm_e_ii, pm_e_ldi, pm_e_ldr, pm_e_lk, pm_e_r, pm_e_rm0, pm_e_rm1, pm_e_rs0, pm_e_rs1, pm_e_wp0, pm_e_wp1, pm_f2, pm_f3, pm_fld, pm_fv, pm_obj, pm_s_aload_n, pm_s_bipush, pm_s_getfield, pm_s_iadd, pm_s_iand, pm_s_iload_n, pm_s_imul, pm_s_ireturn, ct_X0_cardOf, -Int32.not_le, -Int32.not_lt, -Int64.not_le, -Int64.not_lt, lv_args, sx_1]
    exact hT
  · exact hT.elim
def tt_X0_has : pm_T := fun args M k => match args with
  | [.ref 1, .int s, .int r] => k (some (.int (pb (wi s (nI 0) (M.1 1 3 - nI 1) && wi r (nI 1) (M.1 1 4))))) M
  | _ => False
abbrev ct_X0_has : List pm_C := [(true, 49, 6, 3, (some .boolean), tt_X6_isWithin)]
set_option maxHeartbeats 4000000 in
theorem sm_X0_has  : pm_Sem SHx yX0_has cX0_has 3 (some .boolean) 2 tt_X0_has := by
  refine pm_Sem_intro bl_X0_has ct_X0_has cs_X0_has rfl (List.forall_mem_cons.mpr ⟨⟨_, _, _, _, sm_X6_isWithin, by decide, cm_X6_isWithin, by decide +kernel⟩, fun _ h => absurd h List.not_mem_nil⟩) ck_X0_has (by decide +kernel) (by decide) ?_
  intro X k hX args M hT
  have hb0 := hX 0 bk_X0_has_0 (List.mem_of_getElem? (i := 0) rfl)
  have hb30 := hX 30 bk_X0_has_30 (List.mem_of_getElem? (i := 1) rfl)
  have hb31 := hX 31 bk_X0_has_31 (List.mem_of_getElem? (i := 2) rfl)
  clear hX
  unfold tt_X0_has at hT; split at hT
  · refine ⟨by simp [lg_sl, Value.category], ?_⟩
    refine hb0 _ _ _ ?_
    simp [bk_X0_has_0, bk_X0_has_30, bk_X0_has_31, pm_call, pm_e_c0, pm_e_c1, pm_e_cti, pm_e_ctl, pm_e_ctr, pm_e_go, pm_e_i, pm_e_ii, pm_e_ldi, pm_e_ldr, pm_e_lk, pm_e_r, pm_e_rm0, pm_e_rm1, pm_e_rs0, pm_e_rs1, pm_e_wp0, pm_e_wp1, pm_f2, pm_f3, pm_fld, pm_fv, pm_obj, pm_recv, pm_s_aload_n, pm_s_getfield, pm_s_goto, pm_s_iconst, pm_s_ifCond_eq, pm_s_iload_n, pm_s_invokestatic, pm_s_ireturn, pm_s_isub, ct_X0_has, tt_X6_isWithin, -Int32.not_le, -Int32.not_lt, -Int64.not_le, -Int64.not_lt, lv_args, sx_1, pb_eq0]
    repeat' first
      | refine ⟨fun _ => ?_, fun _ => ?_⟩
      | (refine hb30 _ _ _ ?_; simp [bk_X0_has_0, bk_X0_has_30, bk_X0_has_31, pm_call, pm_e_c0, pm_e_c1, pm_e_cti, pm_e_ctl, pm_e_ctr, pm_e_go, pm_e_i, pm_e_ii, pm_e_ldi, pm_e_ldr, pm_e_lk, pm_e_r, pm_e_rm0, pm_e_rm1, pm_e_rs0, pm_e_rs1, pm_e_wp0, pm_e_wp1, pm_f2, pm_f3, pm_fld, pm_fv, pm_obj, pm_recv, pm_s_aload_n, pm_s_getfield, pm_s_goto, pm_s_iconst, pm_s_ifCond_eq, pm_s_iload_n, pm_s_invokestatic, pm_s_ireturn, pm_s_isub, ct_X0_has, tt_X6_isWithin, -Int32.not_le, -Int32.not_lt, -Int64.not_le, -Int64.not_lt, ni_0, ni_1])
      | (refine hb31 _ _ _ ?_; simp [bk_X0_has_0, bk_X0_has_30, bk_X0_has_31, pm_call, pm_e_c0, pm_e_c1, pm_e_cti, pm_e_ctl, pm_e_ctr, pm_e_go, pm_e_i, pm_e_ii, pm_e_ldi, pm_e_ldr, pm_e_lk, pm_e_r, pm_e_rm0, pm_e_rm1, pm_e_rs0, pm_e_rs1, pm_e_wp0, pm_e_wp1, pm_f2, pm_f3, pm_fld, pm_fv, pm_obj, pm_recv, pm_s_aload_n, pm_s_getfield, pm_s_goto, pm_s_iconst, pm_s_ifCond_eq, pm_s_iload_n, pm_s_invokestatic, pm_s_ireturn, pm_s_isub, ct_X0_has, tt_X6_isWithin, -Int32.not_le, -Int32.not_lt, -Int64.not_le, -Int64.not_lt, ni_0, ni_1])
    all_goals simp_all [ni_0, ni_1, pb_t, pb_f, -Int32.not_le, -Int32.not_lt]
  · exact hT.elim
def tt_X0_hasCode : pm_T := fun args M k => match args with
  | [.ref 1, .int c] => k (some (.int (pb (wi (c >>> (nI 3 &&& 31)) (nI 0) (M.1 1 3 - nI 1) && wi (c &&& nI 7) (nI 1) (M.1 1 4))))) M
  | _ => False
abbrev ct_X0_hasCode : List pm_C := [(false, 53, 0, 3, (some .boolean), tt_X0_has)]
set_option maxHeartbeats 4000000 in
theorem sm_X0_hasCode  : pm_Sem SHx yX0_hasCode cX0_hasCode 2 (some .boolean) 3 tt_X0_hasCode := by
  refine pm_Sem_intro bl_X0_hasCode ct_X0_hasCode cs_X0_hasCode rfl (List.forall_mem_cons.mpr ⟨⟨_, _, _, _, sm_X0_has, by decide, cm_X0_has, by decide +kernel⟩, fun _ h => absurd h List.not_mem_nil⟩) ck_X0_hasCode (by decide +kernel) (by decide) ?_
  intro X k hX args M hT
  have hb0 := hX 0 bk_X0_hasCode_0 (List.mem_of_getElem? (i := 0) rfl)
  clear hX
  unfold tt_X0_hasCode at hT; split at hT
  · refine ⟨by simp [lg_sl, Value.category], ?_⟩
    refine hb0 _ _ _ ?_
    simp [bk_X0_hasCode_0, pm_call, pm_e_c0, pm_e_c1, pm_e_cti, pm_e_ctl, pm_e_ctr, pm_e_go, pm_e_ii, pm_e_ldi, pm_e_ldr, pm_e_lk, pm_e_rm0, pm_e_rm1, pm_e_rs0, pm_e_rs1, pm_e_wp0, pm_e_wp1, pm_f2, pm_f3, pm_obj, pm_recv, pm_s_aload_n, pm_s_bipush, pm_s_iand, pm_s_iconst, pm_s_iload_n, pm_s_invokevirtual, pm_s_ireturn, pm_s_ishr, ct_X0_hasCode, tt_X0_has, -Int32.not_le, -Int32.not_lt, -Int64.not_le, -Int64.not_lt, lv_args, sx_1, pb_01]
    exact hT
  · exact hT.elim
def tt_X0_cardOfCode : pm_T := fun args M k => match args with
  | [.ref 1, .int c] => k (some (.int (((c >>> (nI 3 &&& 31)) * M.1 1 4 + (c &&& nI 7)) &&& nI 15))) M
  | _ => False
abbrev ct_X0_cardOfCode : List pm_C := [(false, 37, 0, 3, (some .int), tt_X0_cardOf)]
set_option maxHeartbeats 4000000 in
theorem sm_X0_cardOfCode  : pm_Sem SHx yX0_cardOfCode cX0_cardOfCode 2 (some .int) 2 tt_X0_cardOfCode := by
  refine pm_Sem_intro bl_X0_cardOfCode ct_X0_cardOfCode cs_X0_cardOfCode rfl (List.forall_mem_cons.mpr ⟨⟨_, _, _, _, sm_X0_cardOf, by decide, cm_X0_cardOf, by decide +kernel⟩, fun _ h => absurd h List.not_mem_nil⟩) ck_X0_cardOfCode (by decide +kernel) (by decide) ?_
  intro X k hX args M hT
  have hb0 := hX 0 bk_X0_cardOfCode_0 (List.mem_of_getElem? (i := 0) rfl)
  clear hX
  unfold tt_X0_cardOfCode at hT; split at hT
  · refine ⟨by simp [lg_sl, Value.category], ?_⟩
    refine hb0 _ _ _ ?_
    simp [bk_X0_cardOfCode_0, pm_call, pm_e_c0, pm_e_c1, pm_e_cti, pm_e_ctl, pm_e_ctr, pm_e_go, pm_e_ii, pm_e_ldi, pm_e_ldr, pm_e_lk, pm_e_rm0, pm_e_rm1, pm_e_rs0, pm_e_rs1, pm_e_wp0, pm_e_wp1, pm_f2, pm_f3, pm_obj, pm_recv, pm_s_aload_n, pm_s_bipush, pm_s_iand, pm_s_iconst, pm_s_iload_n, pm_s_invokevirtual, pm_s_ireturn, pm_s_ishr, ct_X0_cardOfCode, tt_X0_cardOf, -Int32.not_le, -Int32.not_lt, -Int64.not_le, -Int64.not_lt, lv_args, sx_1]
    exact hT
  · exact hT.elim
theorem ni_15 (x : Int32) : vp_in (x &&& nI 15) 16 := pk_andIn x 4 (by decide) (by decide)
def tt_X0_codeOf : pm_T := fun args M k => match args with
  | [.ref 1, .int c] => k (some (.int (if c = 0 then 0 else nI 8 * M.1 2 (c &&& nI 15).toNatClampNeg + M.1 3 (c &&& nI 15).toNatClampNeg))) M
  | _ => False
abbrev ct_X0_codeOf : List pm_C := []
set_option maxHeartbeats 4000000 in
theorem sm_X0_codeOf  : pm_Sem SHx yX0_codeOf cX0_codeOf 2 (some .int) 1 tt_X0_codeOf := by
  refine pm_Sem_intro bl_X0_codeOf ct_X0_codeOf cs_X0_codeOf rfl (fun _ h => absurd h List.not_mem_nil) ck_X0_codeOf (by decide +kernel) (by decide) ?_
  intro X k hX args M hT
  have hb0 := hX 0 bk_X0_codeOf_0 (List.mem_of_getElem? (i := 0) rfl)
  have hb8 := hX 8 bk_X0_codeOf_8 (List.mem_of_getElem? (i := 1) rfl)
  have hb30 := hX 30 bk_X0_codeOf_30 (List.mem_of_getElem? (i := 2) rfl)
  clear hX
  unfold tt_X0_codeOf at hT; split at hT
  · refine ⟨by simp [lg_sl, Value.category], ?_⟩
    refine hb0 _ _ _ ?_
    simp [bk_X0_codeOf_0, bk_X0_codeOf_8, bk_X0_codeOf_30, pm_arr, pm_e_c0, pm_e_c1, pm_e_cti, pm_e_ctl, pm_e_ctr, pm_e_go, pm_e_i, pm_e_ii, pm_e_ldi, pm_e_ldr, pm_e_lk, pm_e_r, pm_e_ri, pm_e_rm0, pm_e_rm1, pm_e_rs0, pm_e_rs1, pm_e_wp0, pm_e_wp1, pm_f2, pm_f3, pm_fld, pm_fv, pm_obj, pm_s_aload_n, pm_s_bipush, pm_s_getfield, pm_s_goto, pm_s_iadd, pm_s_iaload, pm_s_iand, pm_s_iconst, pm_s_ifCond_ne, pm_s_iload_n, pm_s_imul, pm_s_ireturn, ct_X0_codeOf, -Int32.not_le, -Int32.not_lt, -Int64.not_le, -Int64.not_lt, lv_args, sx_1, sx_2, sx_3, ni_0]
    repeat' first
      | refine ⟨fun _ => ?_, fun _ => ?_⟩
      | (refine hb8 _ _ _ ?_; simp [bk_X0_codeOf_0, bk_X0_codeOf_8, bk_X0_codeOf_30, pm_arr, pm_e_c0, pm_e_c1, pm_e_cti, pm_e_ctl, pm_e_ctr, pm_e_go, pm_e_i, pm_e_ii, pm_e_ldi, pm_e_ldr, pm_e_lk, pm_e_r, pm_e_ri, pm_e_rm0, pm_e_rm1, pm_e_rs0, pm_e_rs1, pm_e_wp0, pm_e_wp1, pm_f2, pm_f3, pm_fld, pm_fv, pm_obj, pm_s_aload_n, pm_s_bipush, pm_s_getfield, pm_s_goto, pm_s_iadd, pm_s_iaload, pm_s_iand, pm_s_iconst, pm_s_ifCond_ne, pm_s_iload_n, pm_s_imul, pm_s_ireturn, ct_X0_codeOf, -Int32.not_le, -Int32.not_lt, -Int64.not_le, -Int64.not_lt, sx_1, sx_2, sx_3, ni_0, ni_15])
      | (refine hb30 _ _ _ ?_; simp [bk_X0_codeOf_0, bk_X0_codeOf_8, bk_X0_codeOf_30, pm_arr, pm_e_c0, pm_e_c1, pm_e_cti, pm_e_ctl, pm_e_ctr, pm_e_go, pm_e_i, pm_e_ii, pm_e_ldi, pm_e_ldr, pm_e_lk, pm_e_r, pm_e_ri, pm_e_rm0, pm_e_rm1, pm_e_rs0, pm_e_rs1, pm_e_wp0, pm_e_wp1, pm_f2, pm_f3, pm_fld, pm_fv, pm_obj, pm_s_aload_n, pm_s_bipush, pm_s_getfield, pm_s_goto, pm_s_iadd, pm_s_iaload, pm_s_iand, pm_s_iconst, pm_s_ifCond_ne, pm_s_iload_n, pm_s_imul, pm_s_ireturn, ct_X0_codeOf, -Int32.not_le, -Int32.not_lt, -Int64.not_le, -Int64.not_lt, sx_1, sx_2, sx_3, ni_0, ni_15])
    all_goals simp_all [ni_0, ni_1, pb_t, pb_f, -Int32.not_le, -Int32.not_lt]
  · exact hT.elim
def tt_X0_allows : pm_T := fun args M k => match args with
  | [.ref 1, .int c, .int o] => k (some (.int (pb (!decide (M.1 4 (c &&& nI 15).toNatClampNeg &&& (nI 1 <<< (o &&& 31)) = 0))))) M
  | _ => False
abbrev ct_X0_allows : List pm_C := []
set_option maxHeartbeats 4000000 in
theorem sm_X0_allows  : pm_Sem SHx yX0_allows cX0_allows 3 (some .boolean) 1 tt_X0_allows := by
  refine pm_Sem_intro bl_X0_allows ct_X0_allows cs_X0_allows rfl (fun _ h => absurd h List.not_mem_nil) ck_X0_allows (by decide +kernel) (by decide) ?_
  intro X k hX args M hT
  have hb0 := hX 0 bk_X0_allows_0 (List.mem_of_getElem? (i := 0) rfl)
  have hb20 := hX 20 bk_X0_allows_20 (List.mem_of_getElem? (i := 1) rfl)
  have hb21 := hX 21 bk_X0_allows_21 (List.mem_of_getElem? (i := 2) rfl)
  clear hX
  unfold tt_X0_allows at hT; split at hT
  · refine ⟨by simp [lg_sl, Value.category], ?_⟩
    refine hb0 _ _ _ ?_
    simp [bk_X0_allows_0, bk_X0_allows_20, bk_X0_allows_21, pm_arr, pm_e_c0, pm_e_c1, pm_e_cti, pm_e_ctl, pm_e_ctr, pm_e_go, pm_e_i, pm_e_ii, pm_e_ldi, pm_e_ldr, pm_e_lk, pm_e_r, pm_e_ri, pm_e_rm0, pm_e_rm1, pm_e_rs0, pm_e_rs1, pm_e_wp0, pm_e_wp1, pm_f2, pm_f3, pm_fld, pm_fv, pm_obj, pm_s_aload_n, pm_s_bipush, pm_s_getfield, pm_s_goto, pm_s_iaload, pm_s_iand, pm_s_iconst, pm_s_ifCond_eq, pm_s_iload_n, pm_s_ireturn, pm_s_ishl, ct_X0_allows, -Int32.not_le, -Int32.not_lt, -Int64.not_le, -Int64.not_lt, lv_args, sx_1, sx_4, ni_15, ni_0, ni_1]
    repeat' first
      | refine ⟨fun _ => ?_, fun _ => ?_⟩
      | (refine hb20 _ _ _ ?_; simp [bk_X0_allows_0, bk_X0_allows_20, bk_X0_allows_21, pm_arr, pm_e_c0, pm_e_c1, pm_e_cti, pm_e_ctl, pm_e_ctr, pm_e_go, pm_e_i, pm_e_ii, pm_e_ldi, pm_e_ldr, pm_e_lk, pm_e_r, pm_e_ri, pm_e_rm0, pm_e_rm1, pm_e_rs0, pm_e_rs1, pm_e_wp0, pm_e_wp1, pm_f2, pm_f3, pm_fld, pm_fv, pm_obj, pm_s_aload_n, pm_s_bipush, pm_s_getfield, pm_s_goto, pm_s_iaload, pm_s_iand, pm_s_iconst, pm_s_ifCond_eq, pm_s_iload_n, pm_s_ireturn, pm_s_ishl, ct_X0_allows, -Int32.not_le, -Int32.not_lt, -Int64.not_le, -Int64.not_lt, sx_1, sx_4, ni_15, ni_0, ni_1])
      | (refine hb21 _ _ _ ?_; simp [bk_X0_allows_0, bk_X0_allows_20, bk_X0_allows_21, pm_arr, pm_e_c0, pm_e_c1, pm_e_cti, pm_e_ctl, pm_e_ctr, pm_e_go, pm_e_i, pm_e_ii, pm_e_ldi, pm_e_ldr, pm_e_lk, pm_e_r, pm_e_ri, pm_e_rm0, pm_e_rm1, pm_e_rs0, pm_e_rs1, pm_e_wp0, pm_e_wp1, pm_f2, pm_f3, pm_fld, pm_fv, pm_obj, pm_s_aload_n, pm_s_bipush, pm_s_getfield, pm_s_goto, pm_s_iaload, pm_s_iand, pm_s_iconst, pm_s_ifCond_eq, pm_s_iload_n, pm_s_ireturn, pm_s_ishl, ct_X0_allows, -Int32.not_le, -Int32.not_lt, -Int64.not_le, -Int64.not_lt, sx_1, sx_4, ni_15, ni_0, ni_1])
    all_goals simp_all [ni_0, ni_1, pb_t, pb_f, -Int32.not_le, -Int32.not_lt]
  · exact hT.elim
def tt_X0_closesRound : pm_T := fun args M k => match args with
  | [.ref 1, .int c, .int o] => (vp_in c 16 ∧ vp_in o 16) ∧ k (some (.int (pb (!decide (M.1 1 4 ≤ nI 1) && decide (M.1 3 c.toNatClampNeg = M.1 1 4) && decide (M.1 3 o.toNatClampNeg = nI 1))))) M
  | _ => False
abbrev ct_X0_closesRound : List pm_C := []
set_option maxHeartbeats 4000000 in
theorem sm_X0_closesRound  : pm_Sem SHx yX0_closesRound cX0_closesRound 3 (some .boolean) 1 tt_X0_closesRound := by
  refine pm_Sem_intro bl_X0_closesRound ct_X0_closesRound cs_X0_closesRound rfl (fun _ h => absurd h List.not_mem_nil) ck_X0_closesRound (by decide +kernel) (by decide) ?_
  intro X k hX args M hT
  have hb0 := hX 0 bk_X0_closesRound_0 (List.mem_of_getElem? (i := 0) rfl)
  have hb35 := hX 35 bk_X0_closesRound_35 (List.mem_of_getElem? (i := 1) rfl)
  have hb36 := hX 36 bk_X0_closesRound_36 (List.mem_of_getElem? (i := 2) rfl)
  clear hX
  unfold tt_X0_closesRound at hT; split at hT
  · obtain ⟨⟨hc, ho⟩, hT⟩ := hT
    refine ⟨by simp [lg_sl, Value.category], ?_⟩
    refine hb0 _ _ _ ?_
    simp [bk_X0_closesRound_0, bk_X0_closesRound_35, bk_X0_closesRound_36, pm_arr, pm_e_c0, pm_e_c1, pm_e_cti, pm_e_ctl, pm_e_ctr, pm_e_go, pm_e_ii, pm_e_ldi, pm_e_ldr, pm_e_lk, pm_e_r, pm_e_ri, pm_e_rm0, pm_e_rm1, pm_e_rs0, pm_e_rs1, pm_e_wp0, pm_e_wp1, pm_f2, pm_f3, pm_fld, pm_fv, pm_obj, pm_s_aload_n, pm_s_getfield, pm_s_goto, pm_s_iaload, pm_s_iconst, pm_s_if_icmp_le, pm_s_if_icmp_ne, pm_s_iload_n, pm_s_ireturn, ct_X0_closesRound, -Int32.not_le, -Int32.not_lt, -Int64.not_le, -Int64.not_lt, lv_args, sx_1, sx_3, hc, ho]
    repeat' first
      | refine ⟨fun _ => ?_, fun _ => ?_⟩
      | (refine hb35 _ _ _ ?_; simp [bk_X0_closesRound_0, bk_X0_closesRound_35, bk_X0_closesRound_36, pm_arr, pm_e_c0, pm_e_c1, pm_e_cti, pm_e_ctl, pm_e_ctr, pm_e_go, pm_e_ii, pm_e_ldi, pm_e_ldr, pm_e_lk, pm_e_r, pm_e_ri, pm_e_rm0, pm_e_rm1, pm_e_rs0, pm_e_rs1, pm_e_wp0, pm_e_wp1, pm_f2, pm_f3, pm_fld, pm_fv, pm_obj, pm_s_aload_n, pm_s_getfield, pm_s_goto, pm_s_iaload, pm_s_iconst, pm_s_if_icmp_le, pm_s_if_icmp_ne, pm_s_iload_n, pm_s_ireturn, ct_X0_closesRound, -Int32.not_le, -Int32.not_lt, -Int64.not_le, -Int64.not_lt, ni_0, ni_1, sx_1, sx_3])
      | (refine hb36 _ _ _ ?_; simp [bk_X0_closesRound_0, bk_X0_closesRound_35, bk_X0_closesRound_36, pm_arr, pm_e_c0, pm_e_c1, pm_e_cti, pm_e_ctl, pm_e_ctr, pm_e_go, pm_e_ii, pm_e_ldi, pm_e_ldr, pm_e_lk, pm_e_r, pm_e_ri, pm_e_rm0, pm_e_rm1, pm_e_rs0, pm_e_rs1, pm_e_wp0, pm_e_wp1, pm_f2, pm_f3, pm_fld, pm_fv, pm_obj, pm_s_aload_n, pm_s_getfield, pm_s_goto, pm_s_iaload, pm_s_iconst, pm_s_if_icmp_le, pm_s_if_icmp_ne, pm_s_iload_n, pm_s_ireturn, ct_X0_closesRound, -Int32.not_le, -Int32.not_lt, -Int64.not_le, -Int64.not_lt, ni_0, ni_1, sx_1, sx_3])
    all_goals simp_all [ni_0, ni_1, pb_t, pb_f, -Int32.not_le, -Int32.not_lt]
  · exact hT.elim
def tt_X0_suitsTurn : pm_T := fun args M k => match args with
  | [.ref _, .int c, .int o] => k (some (.int (pb (!decide ((c &&& nI 1) = (o &&& nI 1)))))) M
  | _ => False
abbrev ct_X0_suitsTurn : List pm_C := []
set_option maxHeartbeats 4000000 in
theorem sm_X0_suitsTurn {SH : List pm_S} : pm_Sem SH yX0_suitsTurn cX0_suitsTurn 3 (some .boolean) 1 tt_X0_suitsTurn := by
  refine pm_Sem_intro bl_X0_suitsTurn ct_X0_suitsTurn cs_X0_suitsTurn rfl (fun _ h => absurd h List.not_mem_nil) ck_X0_suitsTurn (by decide +kernel) (by decide) ?_
  intro X k hX args M hT
  have hb0 := hX 0 bk_X0_suitsTurn_0 (List.mem_of_getElem? (i := 0) rfl)
  have hb13 := hX 13 bk_X0_suitsTurn_13 (List.mem_of_getElem? (i := 1) rfl)
  have hb14 := hX 14 bk_X0_suitsTurn_14 (List.mem_of_getElem? (i := 2) rfl)
  clear hX
  unfold tt_X0_suitsTurn at hT; split at hT
  · refine ⟨by simp [lg_sl, Value.category], ?_⟩
    refine hb0 _ _ _ ?_
    simp [bk_X0_suitsTurn_0, bk_X0_suitsTurn_13, bk_X0_suitsTurn_14, pm_e_c0, pm_e_c1, pm_e_cti, pm_e_ctl, pm_e_ctr, pm_e_go, pm_e_ii, pm_e_ldi, pm_e_lk, pm_e_rm0, pm_e_rm1, pm_e_rs0, pm_e_rs1, pm_e_wp0, pm_e_wp1, pm_f2, pm_f3, pm_s_goto, pm_s_iand, pm_s_iconst, pm_s_if_icmp_eq, pm_s_iload_n, pm_s_ireturn, ct_X0_suitsTurn, -Int32.not_le, -Int32.not_lt, -Int64.not_le, -Int64.not_lt, lv_args]
    repeat' first
      | refine ⟨fun _ => ?_, fun _ => ?_⟩
      | (refine hb13 _ _ _ ?_; simp [bk_X0_suitsTurn_0, bk_X0_suitsTurn_13, bk_X0_suitsTurn_14, pm_e_c0, pm_e_c1, pm_e_cti, pm_e_ctl, pm_e_ctr, pm_e_go, pm_e_ii, pm_e_ldi, pm_e_lk, pm_e_rm0, pm_e_rm1, pm_e_rs0, pm_e_rs1, pm_e_wp0, pm_e_wp1, pm_f2, pm_f3, pm_s_goto, pm_s_iand, pm_s_iconst, pm_s_if_icmp_eq, pm_s_iload_n, pm_s_ireturn, ct_X0_suitsTurn, -Int32.not_le, -Int32.not_lt, -Int64.not_le, -Int64.not_lt, ni_0, ni_1])
      | (refine hb14 _ _ _ ?_; simp [bk_X0_suitsTurn_0, bk_X0_suitsTurn_13, bk_X0_suitsTurn_14, pm_e_c0, pm_e_c1, pm_e_cti, pm_e_ctl, pm_e_ctr, pm_e_go, pm_e_ii, pm_e_ldi, pm_e_lk, pm_e_rm0, pm_e_rm1, pm_e_rs0, pm_e_rs1, pm_e_wp0, pm_e_wp1, pm_f2, pm_f3, pm_s_goto, pm_s_iand, pm_s_iconst, pm_s_if_icmp_eq, pm_s_iload_n, pm_s_ireturn, ct_X0_suitsTurn, -Int32.not_le, -Int32.not_lt, -Int64.not_le, -Int64.not_lt, ni_0, ni_1])
    all_goals simp_all [ni_0, ni_1, pb_t, pb_f, -Int32.not_le, -Int32.not_lt]
  · exact hT.elim
