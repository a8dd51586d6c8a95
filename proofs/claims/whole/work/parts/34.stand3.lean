/-- the first free cell, or 2 -/
def ffc (ec : Nat) (S : St) : Nat := if 0 < ec ∧ S.2.1 0 = 0 then 0 else if 1 < ec ∧ S.2.1 1 = 0 then 1 else 2
def ffI (n : Nat) : Int32 := if n = 2 then -nI 1 else nI n
def nfc (ec : Nat) (S : St) : Nat := (if 0 < ec ∧ S.2.1 0 = 0 then 1 else 0) + (if 1 < ec ∧ S.2.1 1 = 0 then 1 else 0)
def tt_X4_firstFreeCell : pm_T := fun args M k => match args with
  | [.ref p] => ∃ ec S, isSt p ∧ SdX M p ec S ∧ k (some (.int (ffI (ffc ec S)))) M
  | _ => False
abbrev ct_X4_firstFreeCell : List pm_C := []
set_option maxHeartbeats 4000000 in
theorem sm_X4_firstFreeCell  : pm_Sem SHx yX4_firstFreeCell cX4_firstFreeCell 2 (some .int) 1 tt_X4_firstFreeCell := by
  refine pm_Sem_intro bl_X4_firstFreeCell ct_X4_firstFreeCell cs_X4_firstFreeCell rfl (fun _ h => absurd h List.not_mem_nil) ck_X4_firstFreeCell (by decide +kernel) (by decide) ?_
  intro X k hX args M hT
  have hb0 := hX 0 bk_X4_firstFreeCell_0 (List.mem_of_getElem? (i := 0) rfl)
  have hb2 := hX 2 bk_X4_firstFreeCell_2 (List.mem_of_getElem? (i := 1) rfl)
  have hb26 := hX 26 bk_X4_firstFreeCell_26 (List.mem_of_getElem? (i := 2) rfl)
  have hb32 := hX 32 bk_X4_firstFreeCell_32 (List.mem_of_getElem? (i := 3) rfl)
  clear hX
  unfold tt_X4_firstFreeCell at hT; split at hT
  · next p =>
    obtain ⟨ec, S, hp, hS, hT⟩ := hT
    have hec := hS.2.1
    have hcc := hS.2.2.1
    have b0 := hS.1.2.1 0 (by decide)
    have b1 := hS.1.2.1 1 (by decide)
    refine ⟨by simp [lg_sl, Value.category], ?_⟩
    have out : ffc ec S = 2 → X 32 [] [] M := by
      intro hf
      refine hb32 _ _ _ ?_
      simp [bk_X4_firstFreeCell_0, bk_X4_firstFreeCell_2, bk_X4_firstFreeCell_26, bk_X4_firstFreeCell_32, pm_arr, pm_e_c0, pm_e_c1, pm_e_cti, pm_e_ctl, pm_e_ctr, pm_e_go, pm_e_i, pm_e_ii, pm_e_ldi, pm_e_ldr, pm_e_lk, pm_e_r, pm_e_ri, pm_e_rm0, pm_e_rm1, pm_e_rs0, pm_e_rs1, pm_e_wp0, pm_e_wp1, pm_f2, pm_f3, pm_fld, pm_fv, pm_obj, pm_s_aload_n, pm_s_getfield, pm_s_goto, pm_s_iaload, pm_s_iconst, pm_s_ifCond_ne, pm_s_if_icmp_ge, pm_s_iinc, pm_s_iload_n, pm_s_ireturn, pm_s_istore_n, ct_X4_firstFreeCell, pS, pR, pC, pE, pL, -Int32.not_le, -Int32.not_lt, -Int64.not_le, -Int64.not_lt]
      rw [hf] at hT; exact hT
    have e2 : ffc ec S = 2 → X 2 [(0, .ref p), (1, .int (nI 2))] [] M := by
      intro hf
      refine hb2 _ _ _ ?_
      simp [bk_X4_firstFreeCell_0, bk_X4_firstFreeCell_2, bk_X4_firstFreeCell_26, bk_X4_firstFreeCell_32, pm_arr, pm_e_c0, pm_e_c1, pm_e_cti, pm_e_ctl, pm_e_ctr, pm_e_go, pm_e_i, pm_e_ii, pm_e_ldi, pm_e_ldr, pm_e_lk, pm_e_r, pm_e_ri, pm_e_rm0, pm_e_rm1, pm_e_rs0, pm_e_rs1, pm_e_wp0, pm_e_wp1, pm_f2, pm_f3, pm_fld, pm_fv, pm_obj, pm_s_aload_n, pm_s_getfield, pm_s_goto, pm_s_iaload, pm_s_iconst, pm_s_ifCond_ne, pm_s_if_icmp_ge, pm_s_iinc, pm_s_iload_n, pm_s_ireturn, pm_s_istore_n, ct_X4_firstFreeCell, pS, pR, pC, pE, pL, -Int32.not_le, -Int32.not_lt, -Int64.not_le, -Int64.not_lt, st_0 hp, st_3 hp, hcc]
      exact out hf
    have e1 : (¬ (0 < ec ∧ S.2.1 0 = 0)) → X 2 [(0, .ref p), (1, .int (nI 1))] [] M := by
      intro h0
      refine hb2 _ _ _ ?_
      simp [bk_X4_firstFreeCell_0, bk_X4_firstFreeCell_2, bk_X4_firstFreeCell_26, bk_X4_firstFreeCell_32, pm_arr, pm_e_c0, pm_e_c1, pm_e_cti, pm_e_ctl, pm_e_ctr, pm_e_go, pm_e_i, pm_e_ii, pm_e_ldi, pm_e_ldr, pm_e_lk, pm_e_r, pm_e_ri, pm_e_rm0, pm_e_rm1, pm_e_rs0, pm_e_rs1, pm_e_wp0, pm_e_wp1, pm_f2, pm_f3, pm_fld, pm_fv, pm_obj, pm_s_aload_n, pm_s_getfield, pm_s_goto, pm_s_iaload, pm_s_iconst, pm_s_ifCond_ne, pm_s_if_icmp_ge, pm_s_iinc, pm_s_iload_n, pm_s_ireturn, pm_s_istore_n, ct_X4_firstFreeCell, pS, pR, pC, pE, pL, -Int32.not_le, -Int32.not_lt, -Int64.not_le, -Int64.not_lt, st_0 hp, st_3 hp, hcc]
      simp (disch := omega) only [ni_in, ni_cl, ni_add, ni_mul, ni_sub, ni_lt, ni_le, ni_eq, ni_eq0, ni_lt0, ni_0le, ni_0lt, ni_le0, ni_a1, ni_a3, ni_a7, ni_a15, hS.e (show 1 < 2 by decide)]
      refine ⟨fun h => out ?_, fun h => ⟨fun h' => by omega, fun _ => ⟨by omega, fun h3 => ?_, fun h3 => ?_⟩⟩⟩
      · simp only [ffc, h0, if_false]; rw [if_neg (by omega)]
      · refine hb26 _ _ _ ?_
        simp [bk_X4_firstFreeCell_0, bk_X4_firstFreeCell_2, bk_X4_firstFreeCell_26, bk_X4_firstFreeCell_32, pm_arr, pm_e_c0, pm_e_c1, pm_e_cti, pm_e_ctl, pm_e_ctr, pm_e_go, pm_e_i, pm_e_ii, pm_e_ldi, pm_e_ldr, pm_e_lk, pm_e_r, pm_e_ri, pm_e_rm0, pm_e_rm1, pm_e_rs0, pm_e_rs1, pm_e_wp0, pm_e_wp1, pm_f2, pm_f3, pm_fld, pm_fv, pm_obj, pm_s_aload_n, pm_s_getfield, pm_s_goto, pm_s_iaload, pm_s_iconst, pm_s_ifCond_ne, pm_s_if_icmp_ge, pm_s_iinc, pm_s_iload_n, pm_s_ireturn, pm_s_istore_n, ct_X4_firstFreeCell, pS, pR, pC, pE, pL, -Int32.not_le, -Int32.not_lt, -Int64.not_le, -Int64.not_lt]
        rw [ni_add]
        refine e2 ?_
        simp only [ffc, h0, if_false]; rw [if_neg (by omega)]
      · have : ffc ec S = 1 := by simp only [ffc, h0, if_false]; rw [if_pos ⟨by omega, h3⟩]
        rw [this] at hT; exact hT
    refine hb0 _ _ _ ?_
    simp [bk_X4_firstFreeCell_0, bk_X4_firstFreeCell_2, bk_X4_firstFreeCell_26, bk_X4_firstFreeCell_32, pm_arr, pm_e_c0, pm_e_c1, pm_e_cti, pm_e_ctl, pm_e_ctr, pm_e_go, pm_e_i, pm_e_ii, pm_e_ldi, pm_e_ldr, pm_e_lk, pm_e_r, pm_e_ri, pm_e_rm0, pm_e_rm1, pm_e_rs0, pm_e_rs1, pm_e_wp0, pm_e_wp1, pm_f2, pm_f3, pm_fld, pm_fv, pm_obj, pm_s_aload_n, pm_s_getfield, pm_s_goto, pm_s_iaload, pm_s_iconst, pm_s_ifCond_ne, pm_s_if_icmp_ge, pm_s_iinc, pm_s_iload_n, pm_s_ireturn, pm_s_istore_n, ct_X4_firstFreeCell, pS, pR, pC, pE, pL, -Int32.not_le, -Int32.not_lt, -Int64.not_le, -Int64.not_lt, lv_args]
    refine hb2 _ _ _ ?_
    simp [bk_X4_firstFreeCell_0, bk_X4_firstFreeCell_2, bk_X4_firstFreeCell_26, bk_X4_firstFreeCell_32, pm_arr, pm_e_c0, pm_e_c1, pm_e_cti, pm_e_ctl, pm_e_ctr, pm_e_go, pm_e_i, pm_e_ii, pm_e_ldi, pm_e_ldr, pm_e_lk, pm_e_r, pm_e_ri, pm_e_rm0, pm_e_rm1, pm_e_rs0, pm_e_rs1, pm_e_wp0, pm_e_wp1, pm_f2, pm_f3, pm_fld, pm_fv, pm_obj, pm_s_aload_n, pm_s_getfield, pm_s_goto, pm_s_iaload, pm_s_iconst, pm_s_ifCond_ne, pm_s_if_icmp_ge, pm_s_iinc, pm_s_iload_n, pm_s_ireturn, pm_s_istore_n, ct_X4_firstFreeCell, pS, pR, pC, pE, pL, -Int32.not_le, -Int32.not_lt, -Int64.not_le, -Int64.not_lt, st_0 hp, st_3 hp, hcc]
    simp (disch := omega) only [ni_in, ni_cl, ni_add, ni_mul, ni_sub, ni_lt, ni_le, ni_eq, ni_eq0, ni_lt0, ni_0le, ni_0lt, ni_le0, ni_a1, ni_a3, ni_a7, ni_a15, hS.e (show 0 < 2 by decide)]
    refine ⟨fun h => out ?_, fun h => ⟨fun h' => by omega, fun _ => ⟨by omega, fun h3 => ?_, fun h3 => ?_⟩⟩⟩
    · unfold ffc; rw [if_neg (by omega), if_neg (by omega)]
    · refine hb26 _ _ _ ?_
      simp [bk_X4_firstFreeCell_0, bk_X4_firstFreeCell_2, bk_X4_firstFreeCell_26, bk_X4_firstFreeCell_32, pm_arr, pm_e_c0, pm_e_c1, pm_e_cti, pm_e_ctl, pm_e_ctr, pm_e_go, pm_e_i, pm_e_ii, pm_e_ldi, pm_e_ldr, pm_e_lk, pm_e_r, pm_e_ri, pm_e_rm0, pm_e_rm1, pm_e_rs0, pm_e_rs1, pm_e_wp0, pm_e_wp1, pm_f2, pm_f3, pm_fld, pm_fv, pm_obj, pm_s_aload_n, pm_s_getfield, pm_s_goto, pm_s_iaload, pm_s_iconst, pm_s_ifCond_ne, pm_s_if_icmp_ge, pm_s_iinc, pm_s_iload_n, pm_s_ireturn, pm_s_istore_n, ct_X4_firstFreeCell, pS, pR, pC, pE, pL, -Int32.not_le, -Int32.not_lt, -Int64.not_le, -Int64.not_lt]
      rw [ni_add]
      exact e1 (by omega)
    · have : ffc ec S = 0 := by unfold ffc; rw [if_pos ⟨by omega, h3⟩]
      rw [this] at hT; exact hT
  · exact hT.elim
def tt_X4_freeCells : pm_T := fun args M k => match args with
  | [.ref p] => ∃ ec S, isSt p ∧ SdX M p ec S ∧ k (some (.int (nI (nfc ec S)))) M
  | _ => False
abbrev ct_X4_freeCells : List pm_C := []
set_option maxHeartbeats 4000000 in
theorem sm_X4_freeCells  : pm_Sem SHx yX4_freeCells cX4_freeCells 3 (some .int) 1 tt_X4_freeCells := by
  refine pm_Sem_intro bl_X4_freeCells ct_X4_freeCells cs_X4_freeCells rfl (fun _ h => absurd h List.not_mem_nil) ck_X4_freeCells (by decide +kernel) (by decide) ?_
  intro X k hX args M hT
  have hb0 := hX 0 bk_X4_freeCells_0 (List.mem_of_getElem? (i := 0) rfl)
  have hb4 := hX 4 bk_X4_freeCells_4 (List.mem_of_getElem? (i := 1) rfl)
  have hb31 := hX 31 bk_X4_freeCells_31 (List.mem_of_getElem? (i := 2) rfl)
  have hb32 := hX 32 bk_X4_freeCells_32 (List.mem_of_getElem? (i := 3) rfl)
  have hb40 := hX 40 bk_X4_freeCells_40 (List.mem_of_getElem? (i := 4) rfl)
  clear hX
  unfold tt_X4_freeCells at hT; split at hT
  · next p =>
    obtain ⟨ec, S, hp, hS, hT⟩ := hT
    have hec := hS.2.1
    have hcc := hS.2.2.1
    have b0 := hS.1.2.1 0 (by decide)
    have b1 := hS.1.2.1 1 (by decide)
    refine ⟨by simp [lg_sl, Value.category], ?_⟩
    have out : ∀ n, n = nfc ec S → X 40 [(1, .int (nI n))] [] M := by
      intro n hn
      refine hb40 _ _ _ ?_
      simp [bk_X4_freeCells_0, bk_X4_freeCells_4, bk_X4_freeCells_31, bk_X4_freeCells_32, bk_X4_freeCells_40, pm_arr, pm_e_c0, pm_e_c1, pm_e_cti, pm_e_ctl, pm_e_ctr, pm_e_go, pm_e_i, pm_e_ii, pm_e_ldi, pm_e_ldr, pm_e_lk, pm_e_r, pm_e_ri, pm_e_rm0, pm_e_rm1, pm_e_rs0, pm_e_rs1, pm_e_wp0, pm_e_wp1, pm_f2, pm_f3, pm_fld, pm_fv, pm_obj, pm_s_aload_n, pm_s_getfield, pm_s_goto, pm_s_iadd, pm_s_iaload, pm_s_iconst, pm_s_ifCond_ne, pm_s_if_icmp_ge, pm_s_iinc, pm_s_iload_n, pm_s_ireturn, pm_s_istore_n, ct_X4_freeCells, pS, pR, pC, pE, pL, -Int32.not_le, -Int32.not_lt, -Int64.not_le, -Int64.not_lt]
      rw [hn]; exact hT
    have e2 : ∀ n, n = nfc ec S → X 4 [(0, .ref p), (1, .int (nI n)), (2, .int (nI 2))] [] M := by
      intro n hf
      refine hb4 _ _ _ ?_
      simp [bk_X4_freeCells_0, bk_X4_freeCells_4, bk_X4_freeCells_31, bk_X4_freeCells_32, bk_X4_freeCells_40, pm_arr, pm_e_c0, pm_e_c1, pm_e_cti, pm_e_ctl, pm_e_ctr, pm_e_go, pm_e_i, pm_e_ii, pm_e_ldi, pm_e_ldr, pm_e_lk, pm_e_r, pm_e_ri, pm_e_rm0, pm_e_rm1, pm_e_rs0, pm_e_rs1, pm_e_wp0, pm_e_wp1, pm_f2, pm_f3, pm_fld, pm_fv, pm_obj, pm_s_aload_n, pm_s_getfield, pm_s_goto, pm_s_iadd, pm_s_iaload, pm_s_iconst, pm_s_ifCond_ne, pm_s_if_icmp_ge, pm_s_iinc, pm_s_iload_n, pm_s_ireturn, pm_s_istore_n, ct_X4_freeCells, pS, pR, pC, pE, pL, -Int32.not_le, -Int32.not_lt, -Int64.not_le, -Int64.not_lt, st_0 hp, st_3 hp, hcc]
      exact out n hf
    have e1 : ∀ n, n = (if 0 < ec ∧ S.2.1 0 = 0 then 1 else 0) → X 4 [(0, .ref p), (1, .int (nI n)), (2, .int (nI 1))] [] M := by
      intro n hn
      refine hb4 _ _ _ ?_
      simp [bk_X4_freeCells_0, bk_X4_freeCells_4, bk_X4_freeCells_31, bk_X4_freeCells_32, bk_X4_freeCells_40, pm_arr, pm_e_c0, pm_e_c1, pm_e_cti, pm_e_ctl, pm_e_ctr, pm_e_go, pm_e_i, pm_e_ii, pm_e_ldi, pm_e_ldr, pm_e_lk, pm_e_r, pm_e_ri, pm_e_rm0, pm_e_rm1, pm_e_rs0, pm_e_rs1, pm_e_wp0, pm_e_wp1, pm_f2, pm_f3, pm_fld, pm_fv, pm_obj, pm_s_aload_n, pm_s_getfield, pm_s_goto, pm_s_iadd, pm_s_iaload, pm_s_iconst, pm_s_ifCond_ne, pm_s_if_icmp_ge, pm_s_iinc, pm_s_iload_n, pm_s_ireturn, pm_s_istore_n, ct_X4_freeCells, pS, pR, pC, pE, pL, -Int32.not_le, -Int32.not_lt, -Int64.not_le, -Int64.not_lt, st_0 hp, st_3 hp, hcc]
      simp (disch := omega) only [ni_in, ni_cl, ni_add, ni_mul, ni_sub, ni_lt, ni_le, ni_eq, ni_eq0, ni_lt0, ni_0le, ni_0lt, ni_le0, ni_a1, ni_a3, ni_a7, ni_a15, hS.e (show 1 < 2 by decide)]
      refine ⟨fun h => out n ?_, fun h => ⟨fun h' => by omega, fun _ => ⟨by omega, fun h3 => ?_, fun h3 => ?_⟩⟩⟩
      · unfold nfc; rw [← hn, if_neg (by omega)]; rfl
      · refine hb31 _ _ _ ?_
        simp [bk_X4_freeCells_0, bk_X4_freeCells_4, bk_X4_freeCells_31, bk_X4_freeCells_32, bk_X4_freeCells_40, pm_arr, pm_e_c0, pm_e_c1, pm_e_cti, pm_e_ctl, pm_e_ctr, pm_e_go, pm_e_i, pm_e_ii, pm_e_ldi, pm_e_ldr, pm_e_lk, pm_e_r, pm_e_ri, pm_e_rm0, pm_e_rm1, pm_e_rs0, pm_e_rs1, pm_e_wp0, pm_e_wp1, pm_f2, pm_f3, pm_fld, pm_fv, pm_obj, pm_s_aload_n, pm_s_getfield, pm_s_goto, pm_s_iadd, pm_s_iaload, pm_s_iconst, pm_s_ifCond_ne, pm_s_if_icmp_ge, pm_s_iinc, pm_s_iload_n, pm_s_ireturn, pm_s_istore_n, ct_X4_freeCells, pS, pR, pC, pE, pL, -Int32.not_le, -Int32.not_lt, -Int64.not_le, -Int64.not_lt]
        refine hb32 _ _ _ ?_
        simp [bk_X4_freeCells_0, bk_X4_freeCells_4, bk_X4_freeCells_31, bk_X4_freeCells_32, bk_X4_freeCells_40, pm_arr, pm_e_c0, pm_e_c1, pm_e_cti, pm_e_ctl, pm_e_ctr, pm_e_go, pm_e_i, pm_e_ii, pm_e_ldi, pm_e_ldr, pm_e_lk, pm_e_r, pm_e_ri, pm_e_rm0, pm_e_rm1, pm_e_rs0, pm_e_rs1, pm_e_wp0, pm_e_wp1, pm_f2, pm_f3, pm_fld, pm_fv, pm_obj, pm_s_aload_n, pm_s_getfield, pm_s_goto, pm_s_iadd, pm_s_iaload, pm_s_iconst, pm_s_ifCond_ne, pm_s_if_icmp_ge, pm_s_iinc, pm_s_iload_n, pm_s_ireturn, pm_s_istore_n, ct_X4_freeCells, pS, pR, pC, pE, pL, -Int32.not_le, -Int32.not_lt, -Int64.not_le, -Int64.not_lt]
        simp only [ni_add]
        exact e2 _ (by unfold nfc; rw [← hn, if_neg (by omega)])
      · refine hb32 _ _ _ ?_
        simp [bk_X4_freeCells_0, bk_X4_freeCells_4, bk_X4_freeCells_31, bk_X4_freeCells_32, bk_X4_freeCells_40, pm_arr, pm_e_c0, pm_e_c1, pm_e_cti, pm_e_ctl, pm_e_ctr, pm_e_go, pm_e_i, pm_e_ii, pm_e_ldi, pm_e_ldr, pm_e_lk, pm_e_r, pm_e_ri, pm_e_rm0, pm_e_rm1, pm_e_rs0, pm_e_rs1, pm_e_wp0, pm_e_wp1, pm_f2, pm_f3, pm_fld, pm_fv, pm_obj, pm_s_aload_n, pm_s_getfield, pm_s_goto, pm_s_iadd, pm_s_iaload, pm_s_iconst, pm_s_ifCond_ne, pm_s_if_icmp_ge, pm_s_iinc, pm_s_iload_n, pm_s_ireturn, pm_s_istore_n, ct_X4_freeCells, pS, pR, pC, pE, pL, -Int32.not_le, -Int32.not_lt, -Int64.not_le, -Int64.not_lt]
        simp only [ni_add]
        exact e2 _ (by unfold nfc; rw [← hn, if_pos ⟨by omega, h3⟩])
    refine hb0 _ _ _ ?_
    simp [bk_X4_freeCells_0, bk_X4_freeCells_4, bk_X4_freeCells_31, bk_X4_freeCells_32, bk_X4_freeCells_40, pm_arr, pm_e_c0, pm_e_c1, pm_e_cti, pm_e_ctl, pm_e_ctr, pm_e_go, pm_e_i, pm_e_ii, pm_e_ldi, pm_e_ldr, pm_e_lk, pm_e_r, pm_e_ri, pm_e_rm0, pm_e_rm1, pm_e_rs0, pm_e_rs1, pm_e_wp0, pm_e_wp1, pm_f2, pm_f3, pm_fld, pm_fv, pm_obj, pm_s_aload_n, pm_s_getfield, pm_s_goto, pm_s_iadd, pm_s_iaload, pm_s_iconst, pm_s_ifCond_ne, pm_s_if_icmp_ge, pm_s_iinc, pm_s_iload_n, pm_s_ireturn, pm_s_istore_n, ct_X4_freeCells, pS, pR, pC, pE, pL, -Int32.not_le, -Int32.not_lt, -Int64.not_le, -Int64.not_lt, lv_args]
    refine hb4 _ _ _ ?_
    simp [bk_X4_freeCells_0, bk_X4_freeCells_4, bk_X4_freeCells_31, bk_X4_freeCells_32, bk_X4_freeCells_40, pm_arr, pm_e_c0, pm_e_c1, pm_e_cti, pm_e_ctl, pm_e_ctr, pm_e_go, pm_e_i, pm_e_ii, pm_e_ldi, pm_e_ldr, pm_e_lk, pm_e_r, pm_e_ri, pm_e_rm0, pm_e_rm1, pm_e_rs0, pm_e_rs1, pm_e_wp0, pm_e_wp1, pm_f2, pm_f3, pm_fld, pm_fv, pm_obj, pm_s_aload_n, pm_s_getfield, pm_s_goto, pm_s_iadd, pm_s_iaload, pm_s_iconst, pm_s_ifCond_ne, pm_s_if_icmp_ge, pm_s_iinc, pm_s_iload_n, pm_s_ireturn, pm_s_istore_n, ct_X4_freeCells, pS, pR, pC, pE, pL, -Int32.not_le, -Int32.not_lt, -Int64.not_le, -Int64.not_lt, st_0 hp, st_3 hp, hcc]
    simp (disch := omega) only [ni_in, ni_cl, ni_add, ni_mul, ni_sub, ni_lt, ni_le, ni_eq, ni_eq0, ni_lt0, ni_0le, ni_0lt, ni_le0, ni_a1, ni_a3, ni_a7, ni_a15, hS.e (show 0 < 2 by decide)]
    refine ⟨fun h => out 0 ?_, fun h => ⟨fun h' => by omega, fun _ => ⟨by omega, fun h3 => ?_, fun h3 => ?_⟩⟩⟩
    · unfold nfc; rw [if_neg (by omega), if_neg (by omega)]
    · refine hb31 _ _ _ ?_
      simp [bk_X4_freeCells_0, bk_X4_freeCells_4, bk_X4_freeCells_31, bk_X4_freeCells_32, bk_X4_freeCells_40, pm_arr, pm_e_c0, pm_e_c1, pm_e_cti, pm_e_ctl, pm_e_ctr, pm_e_go, pm_e_i, pm_e_ii, pm_e_ldi, pm_e_ldr, pm_e_lk, pm_e_r, pm_e_ri, pm_e_rm0, pm_e_rm1, pm_e_rs0, pm_e_rs1, pm_e_wp0, pm_e_wp1, pm_f2, pm_f3, pm_fld, pm_fv, pm_obj, pm_s_aload_n, pm_s_getfield, pm_s_goto, pm_s_iadd, pm_s_iaload, pm_s_iconst, pm_s_ifCond_ne, pm_s_if_icmp_ge, pm_s_iinc, pm_s_iload_n, pm_s_ireturn, pm_s_istore_n, ct_X4_freeCells, pS, pR, pC, pE, pL, -Int32.not_le, -Int32.not_lt, -Int64.not_le, -Int64.not_lt]
      refine hb32 _ _ _ ?_
      simp [bk_X4_freeCells_0, bk_X4_freeCells_4, bk_X4_freeCells_31, bk_X4_freeCells_32, bk_X4_freeCells_40, pm_arr, pm_e_c0, pm_e_c1, pm_e_cti, pm_e_ctl, pm_e_ctr, pm_e_go, pm_e_i, pm_e_ii, pm_e_ldi, pm_e_ldr, pm_e_lk, pm_e_r, pm_e_ri, pm_e_rm0, pm_e_rm1, pm_e_rs0, pm_e_rs1, pm_e_wp0, pm_e_wp1, pm_f2, pm_f3, pm_fld, pm_fv, pm_obj, pm_s_aload_n, pm_s_getfield, pm_s_goto, pm_s_iadd, pm_s_iaload, pm_s_iconst, pm_s_ifCond_ne, pm_s_if_icmp_ge, pm_s_iinc, pm_s_iload_n, pm_s_ireturn, pm_s_istore_n, ct_X4_freeCells, pS, pR, pC, pE, pL, -Int32.not_le, -Int32.not_lt, -Int64.not_le, -Int64.not_lt]
      simp only [ni_add]
      exact e1 _ (by rw [if_neg (by omega)])
    · refine hb32 _ _ _ ?_
      simp [bk_X4_freeCells_0, bk_X4_freeCells_4, bk_X4_freeCells_31, bk_X4_freeCells_32, bk_X4_freeCells_40, pm_arr, pm_e_c0, pm_e_c1, pm_e_cti, pm_e_ctl, pm_e_ctr, pm_e_go, pm_e_i, pm_e_ii, pm_e_ldi, pm_e_ldr, pm_e_lk, pm_e_r, pm_e_ri, pm_e_rm0, pm_e_rm1, pm_e_rs0, pm_e_rs1, pm_e_wp0, pm_e_wp1, pm_f2, pm_f3, pm_fld, pm_fv, pm_obj, pm_s_aload_n, pm_s_getfield, pm_s_goto, pm_s_iadd, pm_s_iaload, pm_s_iconst, pm_s_ifCond_ne, pm_s_if_icmp_ge, pm_s_iinc, pm_s_iload_n, pm_s_ireturn, pm_s_istore_n, ct_X4_freeCells, pS, pR, pC, pE, pL, -Int32.not_le, -Int32.not_lt, -Int64.not_le, -Int64.not_lt]
      simp only [ni_add]
      exact e1 _ (by rw [if_pos ⟨by omega, h3⟩])
  · exact hT.elim
/-- the card that a move takes -/
def cardF (S : St) (a : Nat) : Nat := if a < 4 then lastC (S.1 a) else S.2.1 (a - 4)
def tt_X4_cardFrom : pm_T := fun args M k => match args with
  | [.ref p, .int x] => ∃ ec S a, isSt p ∧ x = nI a ∧ SdX M p ec S ∧ a < 6 ∧ k (some (.int (nI (cardF S a)))) M
  | _ => False
abbrev ct_X4_cardFrom : List pm_C := [(false, 79, 4, 2, (some .int), tt_X4_lastOf)]
set_option maxHeartbeats 4000000 in
theorem sm_X4_cardFrom  : pm_Sem SHx yX4_cardFrom cX4_cardFrom 2 (some .int) 2 tt_X4_cardFrom := by
  refine pm_Sem_intro bl_X4_cardFrom ct_X4_cardFrom cs_X4_cardFrom rfl (List.forall_mem_cons.mpr ⟨⟨_, _, _, _, sm_X4_lastOf, by decide, cm_X4_lastOf, by decide +kernel⟩, fun _ h => absurd h List.not_mem_nil⟩) ck_X4_cardFrom (by decide +kernel) (by decide) ?_
  intro X k hX args M hT
  have hb0 := hX 0 bk_X4_cardFrom_0 (List.mem_of_getElem? (i := 0) rfl)
  have hb13 := hX 13 bk_X4_cardFrom_13 (List.mem_of_getElem? (i := 1) rfl)
  have hb21 := hX 21 bk_X4_cardFrom_21 (List.mem_of_getElem? (i := 2) rfl)
  clear hX
  unfold tt_X4_cardFrom at hT; split at hT
  · next p x =>
    obtain ⟨ec, S, a, hp, rfl, hS, ha, hT⟩ := hT
    refine ⟨by simp [lg_sl, Value.category], ?_⟩
    have h21 : ∀ n, n = cardF S a → X 21 [] [.int (nI n)] M := by
      intro n hn
      refine hb21 _ _ _ ?_
      simp [bk_X4_cardFrom_0, bk_X4_cardFrom_13, bk_X4_cardFrom_21, pm_arr, pm_call, pm_e_c0, pm_e_c1, pm_e_cti, pm_e_ctl, pm_e_ctr, pm_e_go, pm_e_ii, pm_e_ldi, pm_e_ldr, pm_e_lk, pm_e_r, pm_e_ri, pm_e_rm0, pm_e_rm1, pm_e_rs0, pm_e_rs1, pm_e_wp0, pm_e_wp1, pm_f2, pm_f3, pm_fld, pm_fv, pm_obj, pm_recv, pm_s_aload_n, pm_s_getfield, pm_s_goto, pm_s_iaload, pm_s_iconst, pm_s_if_icmp_ge, pm_s_iload_n, pm_s_invokevirtual, pm_s_ireturn, pm_s_isub, ct_X4_cardFrom, pS, pR, pC, pE, pL, -Int32.not_le, -Int32.not_lt, -Int64.not_le, -Int64.not_lt]
      rw [hn]; exact hT
    refine hb0 _ _ _ ?_
    simp [bk_X4_cardFrom_0, bk_X4_cardFrom_13, bk_X4_cardFrom_21, pm_arr, pm_call, pm_e_c0, pm_e_c1, pm_e_cti, pm_e_ctl, pm_e_ctr, pm_e_go, pm_e_ii, pm_e_ldi, pm_e_ldr, pm_e_lk, pm_e_r, pm_e_ri, pm_e_rm0, pm_e_rm1, pm_e_rs0, pm_e_rs1, pm_e_wp0, pm_e_wp1, pm_f2, pm_f3, pm_fld, pm_fv, pm_obj, pm_recv, pm_s_aload_n, pm_s_getfield, pm_s_goto, pm_s_iaload, pm_s_iconst, pm_s_if_icmp_ge, pm_s_iload_n, pm_s_invokevirtual, pm_s_ireturn, pm_s_isub, ct_X4_cardFrom, pS, pR, pC, pE, pL, -Int32.not_le, -Int32.not_lt, -Int64.not_le, -Int64.not_lt, lv_args, st_0 hp]
    simp (disch := omega) only [ni_in, ni_cl, ni_add, ni_mul, ni_sub, ni_lt, ni_le, ni_eq, ni_eq0, ni_lt0, ni_0le, ni_0lt, ni_le0, ni_a1, ni_a3, ni_a7, ni_a15]
    refine ⟨fun h => ?_, fun h => ⟨ec, S, a, hp, rfl, hS, by omega, ?_⟩⟩
    · refine hb13 _ _ _ ?_
      simp [bk_X4_cardFrom_0, bk_X4_cardFrom_13, bk_X4_cardFrom_21, pm_arr, pm_call, pm_e_c0, pm_e_c1, pm_e_cti, pm_e_ctl, pm_e_ctr, pm_e_go, pm_e_ii, pm_e_ldi, pm_e_ldr, pm_e_lk, pm_e_r, pm_e_ri, pm_e_rm0, pm_e_rm1, pm_e_rs0, pm_e_rs1, pm_e_wp0, pm_e_wp1, pm_f2, pm_f3, pm_fld, pm_fv, pm_obj, pm_recv, pm_s_aload_n, pm_s_getfield, pm_s_goto, pm_s_iaload, pm_s_iconst, pm_s_if_icmp_ge, pm_s_iload_n, pm_s_invokevirtual, pm_s_ireturn, pm_s_isub, ct_X4_cardFrom, pS, pR, pC, pE, pL, -Int32.not_le, -Int32.not_lt, -Int64.not_le, -Int64.not_lt, st_0 hp, st_3 hp]
      simp (disch := omega) only [ni_in, ni_cl, ni_add, ni_mul, ni_sub, ni_lt, ni_le, ni_eq, ni_eq0, ni_lt0, ni_0le, ni_0lt, ni_le0, ni_a1, ni_a3, ni_a7, ni_a15, hS.e (show a - 4 < 2 by omega)]
      exact ⟨by omega, h21 _ (by simp [cardF, show ¬ a < 4 by omega])⟩
    · simp [bk_X4_cardFrom_0, bk_X4_cardFrom_13, bk_X4_cardFrom_21, pm_arr, pm_call, pm_e_c0, pm_e_c1, pm_e_cti, pm_e_ctl, pm_e_ctr, pm_e_go, pm_e_ii, pm_e_ldi, pm_e_ldr, pm_e_lk, pm_e_r, pm_e_ri, pm_e_rm0, pm_e_rm1, pm_e_rs0, pm_e_rs1, pm_e_wp0, pm_e_wp1, pm_f2, pm_f3, pm_fld, pm_fv, pm_obj, pm_recv, pm_s_aload_n, pm_s_getfield, pm_s_goto, pm_s_iaload, pm_s_iconst, pm_s_if_icmp_ge, pm_s_iload_n, pm_s_invokevirtual, pm_s_ireturn, pm_s_isub, ct_X4_cardFrom, pS, pR, pC, pE, pL, -Int32.not_le, -Int32.not_lt, -Int64.not_le, -Int64.not_lt]
      exact h21 _ (by simp [cardF, show a < 4 by omega])
  · exact hT.elim
def tt_X4_isNextInHouse : pm_T := fun args M k => match args with
  | [.ref p, .int x] => ∃ ec S P n, isSt p ∧ x = nI n ∧ SdX M p ec S ∧ DkX M P ∧ (1 ≤ n ∧ n ≤ pS P * pR P) ∧ k (some (.int (pb (decide (S.2.2 (su (pR P) n) + 1 = ra (pR P) n))))) M
  | _ => False
abbrev ct_X4_isNextInHouse : List pm_C := []
set_option maxHeartbeats 4000000 in
theorem sm_X4_isNextInHouse  : pm_Sem SHx yX4_isNextInHouse cX4_isNextInHouse 2 (some .boolean) 1 tt_X4_isNextInHouse := by
  refine pm_Sem_intro bl_X4_isNextInHouse ct_X4_isNextInHouse cs_X4_isNextInHouse rfl (fun _ h => absurd h List.not_mem_nil) ck_X4_isNextInHouse (by decide +kernel) (by decide) ?_
  intro X k hX args M hT
  have hb0 := hX 0 bk_X4_isNextInHouse_0 (List.mem_of_getElem? (i := 0) rfl)
  have hb32 := hX 32 bk_X4_isNextInHouse_32 (List.mem_of_getElem? (i := 1) rfl)
  have hb33 := hX 33 bk_X4_isNextInHouse_33 (List.mem_of_getElem? (i := 2) rfl)
  clear hX
  unfold tt_X4_isNextInHouse at hT; split at hT
  · next p x =>
    obtain ⟨ec, S, ⟨s, r, c, e, w⟩, n, hp, rfl, hS, hD, ⟨n1, n2⟩, hT⟩ := hT
    have hP := hD.1.1
    have mn := hD.1.2.2 n n1 n2
    obtain ⟨h1, h2, h3, h4, h5, h6, h7, h8, h9⟩ := hP
    dsimp only [pS, pR, pC, pE, pL] at *
    have un := su_lt h3 n1 n2
    have qn := ra_le (n := n) h3
    have gn := ra_ge (r := r) (n := n)
    have bh := hS.1.2.2 (su r n) (by omega)
    refine ⟨by simp [lg_sl, Value.category], ?_⟩
    refine hb0 _ _ _ ?_
    simp [bk_X4_isNextInHouse_0, bk_X4_isNextInHouse_32, bk_X4_isNextInHouse_33, pm_arr, pm_e_c0, pm_e_c1, pm_e_cti, pm_e_ctl, pm_e_ctr, pm_e_go, pm_e_ii, pm_e_ldi, pm_e_ldr, pm_e_lk, pm_e_r, pm_e_ri, pm_e_rm0, pm_e_rm1, pm_e_rs0, pm_e_rs1, pm_e_wp0, pm_e_wp1, pm_f2, pm_f3, pm_fld, pm_fv, pm_obj, pm_s_aload_n, pm_s_getfield, pm_s_goto, pm_s_iaload, pm_s_iconst, pm_s_if_icmp_ne, pm_s_iload_n, pm_s_ireturn, pm_s_isub, ct_X4_isNextInHouse, pS, pR, pC, pE, pL, -Int32.not_le, -Int32.not_lt, -Int64.not_le, -Int64.not_lt, lv_args, st_0 hp, st_4 hp, sx_1, sx_2, sx_3]
    simp (disch := omega) only [ni_in, ni_cl, ni_add, ni_mul, ni_sub, ni_lt, ni_le, ni_eq, ni_eq0, ni_lt0, ni_0le, ni_0lt, ni_le0, ni_a1, ni_a3, ni_a7, ni_a15, mn.1, mn.2, hS.h (show su r n < 4 by omega)]
    repeat refine ⟨by omega, ?_⟩
    refine ⟨fun h => ?_, fun h => ?_⟩
    · refine hb32 _ _ _ ?_
      simp [bk_X4_isNextInHouse_0, bk_X4_isNextInHouse_32, bk_X4_isNextInHouse_33, pm_arr, pm_e_c0, pm_e_c1, pm_e_cti, pm_e_ctl, pm_e_ctr, pm_e_go, pm_e_ii, pm_e_ldi, pm_e_ldr, pm_e_lk, pm_e_r, pm_e_ri, pm_e_rm0, pm_e_rm1, pm_e_rs0, pm_e_rs1, pm_e_wp0, pm_e_wp1, pm_f2, pm_f3, pm_fld, pm_fv, pm_obj, pm_s_aload_n, pm_s_getfield, pm_s_goto, pm_s_iaload, pm_s_iconst, pm_s_if_icmp_ne, pm_s_iload_n, pm_s_ireturn, pm_s_isub, ct_X4_isNextInHouse, pS, pR, pC, pE, pL, -Int32.not_le, -Int32.not_lt, -Int64.not_le, -Int64.not_lt]
      refine hb33 _ _ _ ?_
      simp [bk_X4_isNextInHouse_0, bk_X4_isNextInHouse_32, bk_X4_isNextInHouse_33, pm_arr, pm_e_c0, pm_e_c1, pm_e_cti, pm_e_ctl, pm_e_ctr, pm_e_go, pm_e_ii, pm_e_ldi, pm_e_ldr, pm_e_lk, pm_e_r, pm_e_ri, pm_e_rm0, pm_e_rm1, pm_e_rs0, pm_e_rs1, pm_e_wp0, pm_e_wp1, pm_f2, pm_f3, pm_fld, pm_fv, pm_obj, pm_s_aload_n, pm_s_getfield, pm_s_goto, pm_s_iaload, pm_s_iconst, pm_s_if_icmp_ne, pm_s_iload_n, pm_s_ireturn, pm_s_isub, ct_X4_isNextInHouse, pS, pR, pC, pE, pL, -Int32.not_le, -Int32.not_lt, -Int64.not_le, -Int64.not_lt, ni_0]
      rw [decide_eq_false (show ¬ S.2.2 (su r n) + 1 = ra r n by omega)] at hT; exact hT
    · refine hb33 _ _ _ ?_
      simp [bk_X4_isNextInHouse_0, bk_X4_isNextInHouse_32, bk_X4_isNextInHouse_33, pm_arr, pm_e_c0, pm_e_c1, pm_e_cti, pm_e_ctl, pm_e_ctr, pm_e_go, pm_e_ii, pm_e_ldi, pm_e_ldr, pm_e_lk, pm_e_r, pm_e_ri, pm_e_rm0, pm_e_rm1, pm_e_rs0, pm_e_rs1, pm_e_wp0, pm_e_wp1, pm_f2, pm_f3, pm_fld, pm_fv, pm_obj, pm_s_aload_n, pm_s_getfield, pm_s_goto, pm_s_iaload, pm_s_iconst, pm_s_if_icmp_ne, pm_s_iload_n, pm_s_ireturn, pm_s_isub, ct_X4_isNextInHouse, pS, pR, pC, pE, pL, -Int32.not_le, -Int32.not_lt, -Int64.not_le, -Int64.not_lt, ni_1]
      rw [decide_eq_true (show S.2.2 (su r n) + 1 = ra r n by omega)] at hT; exact hT
  · exact hT.elim
