/-! A MOVE ON THE REFERENCE's TRIED STAND (at 10) -/
def tt_X7_lastOf : pm_T := fun args M k => match args with
  | [.ref 0, .int x] => ∃ (r a : Nat) (S : St), x = nI a ∧ a < 6 ∧ SdY M 10 0 r S ∧ okS S ∧ k (some (.int (nI (cdN r (cardF S a))))) M
  | _ => False
theorem lastC_get {l : List Nat} (h : l ≠ []) : lastC l = l.getD (l.length - 1) 0 := by
  have e := lastC_dl h
  conv => rhs; rw [← e]
  have : l.length - 1 = l.dropLast.length := by simp
  rw [show (l.dropLast ++ [lastC l]).length - 1 = l.dropLast.length by simp, getD_snoc]
abbrev ct_X7_lastOf : List pm_C := []
set_option maxHeartbeats 4000000 in
theorem sm_X7_lastOf  : pm_Sem SHy yX7_lastOf cX7_lastOf 2 (some .int) 1 tt_X7_lastOf := by
  refine pm_Sem_intro bl_X7_lastOf ct_X7_lastOf cs_X7_lastOf rfl (fun _ h => absurd h List.not_mem_nil) ck_X7_lastOf (by decide +kernel) (by decide) ?_
  intro X k hX args M hT
  have hb0 := hX 0 bk_X7_lastOf_0 (List.mem_of_getElem? (i := 0) rfl)
  have hb14 := hX 14 bk_X7_lastOf_14 (List.mem_of_getElem? (i := 1) rfl)
  have hb27 := hX 27 bk_X7_lastOf_27 (List.mem_of_getElem? (i := 2) rfl)
  have hb45 := hX 45 bk_X7_lastOf_45 (List.mem_of_getElem? (i := 3) rfl)
  clear hX
  unfold tt_X7_lastOf at hT; split at hT
  · next x =>
    obtain ⟨r, a, S, rfl, ha, hS, hO, hT⟩ := hT
    refine ⟨by simp [lg_sl, Value.category], ?_⟩
    refine hb0 _ _ _ ?_
    simp (maxSteps := 2000000) [bk_X7_lastOf_0, bk_X7_lastOf_14, bk_X7_lastOf_27, bk_X7_lastOf_45, pm_arr, pm_e_c0, pm_e_c1, pm_e_cti, pm_e_ctl, pm_e_ctr, pm_e_go, pm_e_i, pm_e_ii, pm_e_ldi, pm_e_ldr, pm_e_lk, pm_e_r, pm_e_ri, pm_e_rm0, pm_e_rm1, pm_e_rs0, pm_e_rs1, pm_e_wp0, pm_e_wp1, pm_f2, pm_f3, pm_fld, pm_fv, pm_obj, pm_s_aload_n, pm_s_bipush, pm_s_getfield, pm_s_goto, pm_s_iadd, pm_s_iaload, pm_s_iconst, pm_s_ifCond_ne, pm_s_if_icmp_lt, pm_s_iload_n, pm_s_imul, pm_s_ireturn, pm_s_isub, ct_X7_lastOf, pS, pR, pC, pE, pL, -Int32.not_le, -Int32.not_lt, -Int64.not_le, -Int64.not_lt, -List.getD_eq_getElem?_getD, lv_args, sy_0, sy_12]
    simp (disch := omega) only [ni_in, ni_cl, ni_add, ni_mul, ni_sub, ni_lt, ni_le, ni_eq, ni_eq0, ni_lt0, ni_0le, ni_0lt, ni_le0, ni_a1, ni_a3, ni_a7, ni_a15]
    refine ⟨fun h4 => ?_, fun h4 => ?_⟩
    · have hl := (hO.1 a h4).1
      have hn : M.1 10 a = _ := hS.n h4
      have ec : cardF S a = lastC (S.1 a) := by simp [cardF, h4]
      have h45 : ∀ v, k (some (.int v)) M → X 45 [] [.int v] M := by
        intro v hv
        refine hb45 _ _ _ ?_
        simp (maxSteps := 2000000) [bk_X7_lastOf_0, bk_X7_lastOf_14, bk_X7_lastOf_27, bk_X7_lastOf_45, pm_arr, pm_e_c0, pm_e_c1, pm_e_cti, pm_e_ctl, pm_e_ctr, pm_e_go, pm_e_i, pm_e_ii, pm_e_ldi, pm_e_ldr, pm_e_lk, pm_e_r, pm_e_ri, pm_e_rm0, pm_e_rm1, pm_e_rs0, pm_e_rs1, pm_e_wp0, pm_e_wp1, pm_f2, pm_f3, pm_fld, pm_fv, pm_obj, pm_s_aload_n, pm_s_bipush, pm_s_getfield, pm_s_goto, pm_s_iadd, pm_s_iaload, pm_s_iconst, pm_s_ifCond_ne, pm_s_if_icmp_lt, pm_s_iload_n, pm_s_imul, pm_s_ireturn, pm_s_isub, ct_X7_lastOf, pS, pR, pC, pE, pL, -Int32.not_le, -Int32.not_lt, -Int64.not_le, -Int64.not_lt, -List.getD_eq_getElem?_getD]
        exact hv
      refine hb14 _ _ _ ?_
      simp (maxSteps := 2000000) [bk_X7_lastOf_0, bk_X7_lastOf_14, bk_X7_lastOf_27, bk_X7_lastOf_45, pm_arr, pm_e_c0, pm_e_c1, pm_e_cti, pm_e_ctl, pm_e_ctr, pm_e_go, pm_e_i, pm_e_ii, pm_e_ldi, pm_e_ldr, pm_e_lk, pm_e_r, pm_e_ri, pm_e_rm0, pm_e_rm1, pm_e_rs0, pm_e_rs1, pm_e_wp0, pm_e_wp1, pm_f2, pm_f3, pm_fld, pm_fv, pm_obj, pm_s_aload_n, pm_s_bipush, pm_s_getfield, pm_s_goto, pm_s_iadd, pm_s_iaload, pm_s_iconst, pm_s_ifCond_ne, pm_s_if_icmp_lt, pm_s_iload_n, pm_s_imul, pm_s_ireturn, pm_s_isub, ct_X7_lastOf, pS, pR, pC, pE, pL, -Int32.not_le, -Int32.not_lt, -Int64.not_le, -Int64.not_lt, -List.getD_eq_getElem?_getD, sy_0, sy_10]
      simp (disch := omega) only [ni_in, ni_cl, ni_add, ni_mul, ni_sub, ni_lt, ni_le, ni_eq, ni_eq0, ni_lt0, ni_0le, ni_0lt, ni_le0, ni_a1, ni_a3, ni_a7, ni_a15, hn]
      refine ⟨by omega, fun h => ?_, fun h => ?_⟩
      · refine hb27 _ _ _ ?_
        simp (maxSteps := 2000000) [bk_X7_lastOf_0, bk_X7_lastOf_14, bk_X7_lastOf_27, bk_X7_lastOf_45, pm_arr, pm_e_c0, pm_e_c1, pm_e_cti, pm_e_ctl, pm_e_ctr, pm_e_go, pm_e_i, pm_e_ii, pm_e_ldi, pm_e_ldr, pm_e_lk, pm_e_r, pm_e_ri, pm_e_rm0, pm_e_rm1, pm_e_rs0, pm_e_rs1, pm_e_wp0, pm_e_wp1, pm_f2, pm_f3, pm_fld, pm_fv, pm_obj, pm_s_aload_n, pm_s_bipush, pm_s_getfield, pm_s_goto, pm_s_iadd, pm_s_iaload, pm_s_iconst, pm_s_ifCond_ne, pm_s_if_icmp_lt, pm_s_iload_n, pm_s_imul, pm_s_ireturn, pm_s_isub, ct_X7_lastOf, pS, pR, pC, pE, pL, -Int32.not_le, -Int32.not_lt, -Int64.not_le, -Int64.not_lt, -List.getD_eq_getElem?_getD, sy_0, sy_10, sy_11]
        simp (disch := omega) only [ni_in, ni_cl, ni_add, ni_mul, ni_sub, ni_lt, ni_le, ni_eq, ni_eq0, ni_lt0, ni_0le, ni_0lt, ni_le0, ni_a1, ni_a3, ni_a7, ni_a15, hn]
        have hne : S.1 a ≠ [] := fun e => h (by rw [e]; rfl)
        have hc : M.1 11 (12 * a + ((S.1 a).length - 1)) = _ := hS.c h4 (j := (S.1 a).length - 1) (by omega)
        rw [show 12 * a + (S.1 a).length - 1 = 12 * a + ((S.1 a).length - 1) by omega, hc, ← lastC_get hne, ← ec]
        exact ⟨by omega, by omega, h45 _ hT⟩
      · have e0 : S.1 a = [] := List.length_eq_zero_iff.mp h
        rw [ec, e0] at hT
        exact h45 _ hT
    · have hc : M.1 12 (a - 4) = _ := hS.e (show a - 4 < 2 by omega)
      have ec : cardF S a = S.2.1 (a - 4) := by simp [cardF, h4]
      rw [ni_sub (by omega), ni_in (by omega), ni_cl (by omega), hc, ← ec]
      exact ⟨by omega, hT⟩
  · exact hT.elim
theorem cd_z {P : Pm} (hP : okP P) {d : Nat} (hd : d ≤ pS P * pR P) : (nI (cdN (pR P) d) = 0) = (d = 0) := by
  have := cdN_le hP hd
  rw [ni_eq0 (by omega)]; exact propext cdN_0
def tt_X7_freeCell : pm_T := fun args M k => match args with
  | [.ref 0] => ∃ (P : Pm) (ec : Nat) (S : St), okP P ∧ ec ≤ 2 ∧ M.1 0 22 = nI ec ∧ SdY M 10 0 (pR P) S ∧ inD P S ∧ k (some (.int (ffI (ffc ec S)))) M
  | _ => False
abbrev ct_X7_freeCell : List pm_C := []
set_option maxHeartbeats 4000000 in
theorem sm_X7_freeCell  : pm_Sem SHy yX7_freeCell cX7_freeCell 2 (some .int) 1 tt_X7_freeCell := by
  refine pm_Sem_intro bl_X7_freeCell ct_X7_freeCell cs_X7_freeCell rfl (fun _ h => absurd h List.not_mem_nil) ck_X7_freeCell (by decide +kernel) (by decide) ?_
  intro X k hX args M hT
  have hb0 := hX 0 bk_X7_freeCell_0 (List.mem_of_getElem? (i := 0) rfl)
  have hb2 := hX 2 bk_X7_freeCell_2 (List.mem_of_getElem? (i := 1) rfl)
  have hb21 := hX 21 bk_X7_freeCell_21 (List.mem_of_getElem? (i := 2) rfl)
  have hb27 := hX 27 bk_X7_freeCell_27 (List.mem_of_getElem? (i := 3) rfl)
  clear hX
  unfold tt_X7_freeCell at hT; split at hT
  · obtain ⟨P, ec, S, hP, he, hcc, hS, hI, hT⟩ := hT
    have e0 : M.1 12 0 = _ := hS.e (show 0 < 2 by decide)
    have e1 : M.1 12 1 = _ := hS.e (show 1 < 2 by decide)
    have z0 := cd_z hP (hI.2 0 (by decide))
    have z1 := cd_z hP (hI.2 1 (by decide))
    dsimp only [pR] at e0 e1 z0 z1
    refine ⟨by simp [lg_sl, Value.category], ?_⟩
    have out : ffc ec S = 2 → X 27 [] [] M := by
      intro hf
      refine hb27 _ _ _ ?_
      simp (maxSteps := 2000000) [bk_X7_freeCell_0, bk_X7_freeCell_2, bk_X7_freeCell_21, bk_X7_freeCell_27, pm_arr, pm_e_c0, pm_e_c1, pm_e_cti, pm_e_ctl, pm_e_ctr, pm_e_go, pm_e_i, pm_e_ii, pm_e_ldi, pm_e_ldr, pm_e_lk, pm_e_r, pm_e_ri, pm_e_rm0, pm_e_rm1, pm_e_rs0, pm_e_rs1, pm_e_wp0, pm_e_wp1, pm_f2, pm_f3, pm_fld, pm_fv, pm_obj, pm_s_aload_n, pm_s_getfield, pm_s_goto, pm_s_iaload, pm_s_iconst, pm_s_ifCond_ne, pm_s_if_icmp_ge, pm_s_iinc, pm_s_iload_n, pm_s_ireturn, pm_s_istore_n, ct_X7_freeCell, pS, pR, pC, pE, pL, -Int32.not_le, -Int32.not_lt, -Int64.not_le, -Int64.not_lt, -List.getD_eq_getElem?_getD]
      rw [hf] at hT; exact hT
    have l2 : ffc ec S = 2 → X 2 [(0, .ref 0), (1, .int (nI 2))] [] M := by
      intro hf
      refine hb2 _ _ _ ?_
      simp (maxSteps := 2000000) [bk_X7_freeCell_0, bk_X7_freeCell_2, bk_X7_freeCell_21, bk_X7_freeCell_27, pm_arr, pm_e_c0, pm_e_c1, pm_e_cti, pm_e_ctl, pm_e_ctr, pm_e_go, pm_e_i, pm_e_ii, pm_e_ldi, pm_e_ldr, pm_e_lk, pm_e_r, pm_e_ri, pm_e_rm0, pm_e_rm1, pm_e_rs0, pm_e_rs1, pm_e_wp0, pm_e_wp1, pm_f2, pm_f3, pm_fld, pm_fv, pm_obj, pm_s_aload_n, pm_s_getfield, pm_s_goto, pm_s_iaload, pm_s_iconst, pm_s_ifCond_ne, pm_s_if_icmp_ge, pm_s_iinc, pm_s_iload_n, pm_s_ireturn, pm_s_istore_n, ct_X7_freeCell, pS, pR, pC, pE, pL, -Int32.not_le, -Int32.not_lt, -Int64.not_le, -Int64.not_lt, -List.getD_eq_getElem?_getD, sy_0, sy_12, hcc]
      rw [ni_le (by omega) (by decide)]
      exact ⟨fun _ => out hf, fun h => by omega⟩
    have l1 : (¬ (0 < ec ∧ S.2.1 0 = 0)) → X 2 [(0, .ref 0), (1, .int (nI 1))] [] M := by
      intro h0
      refine hb2 _ _ _ ?_
      simp (maxSteps := 2000000) [bk_X7_freeCell_0, bk_X7_freeCell_2, bk_X7_freeCell_21, bk_X7_freeCell_27, pm_arr, pm_e_c0, pm_e_c1, pm_e_cti, pm_e_ctl, pm_e_ctr, pm_e_go, pm_e_i, pm_e_ii, pm_e_ldi, pm_e_ldr, pm_e_lk, pm_e_r, pm_e_ri, pm_e_rm0, pm_e_rm1, pm_e_rs0, pm_e_rs1, pm_e_wp0, pm_e_wp1, pm_f2, pm_f3, pm_fld, pm_fv, pm_obj, pm_s_aload_n, pm_s_getfield, pm_s_goto, pm_s_iaload, pm_s_iconst, pm_s_ifCond_ne, pm_s_if_icmp_ge, pm_s_iinc, pm_s_iload_n, pm_s_ireturn, pm_s_istore_n, ct_X7_freeCell, pS, pR, pC, pE, pL, -Int32.not_le, -Int32.not_lt, -Int64.not_le, -Int64.not_lt, -List.getD_eq_getElem?_getD, sy_0, sy_12, hcc]
      simp (disch := omega) only [ni_in, ni_cl, ni_add, ni_mul, ni_sub, ni_lt, ni_le, ni_eq, ni_eq0, ni_lt0, ni_0le, ni_0lt, ni_le0, ni_a1, ni_a3, ni_a7, ni_a15, e1, z1]
      refine ⟨fun h => out ?_, fun h => ⟨by omega, fun h3 => ?_, fun h3 => ?_⟩⟩
      · simp only [ffc, h0, if_false]; rw [if_neg (by omega)]
      · refine hb21 _ _ _ ?_
        simp (maxSteps := 2000000) [bk_X7_freeCell_0, bk_X7_freeCell_2, bk_X7_freeCell_21, bk_X7_freeCell_27, pm_arr, pm_e_c0, pm_e_c1, pm_e_cti, pm_e_ctl, pm_e_ctr, pm_e_go, pm_e_i, pm_e_ii, pm_e_ldi, pm_e_ldr, pm_e_lk, pm_e_r, pm_e_ri, pm_e_rm0, pm_e_rm1, pm_e_rs0, pm_e_rs1, pm_e_wp0, pm_e_wp1, pm_f2, pm_f3, pm_fld, pm_fv, pm_obj, pm_s_aload_n, pm_s_getfield, pm_s_goto, pm_s_iaload, pm_s_iconst, pm_s_ifCond_ne, pm_s_if_icmp_ge, pm_s_iinc, pm_s_iload_n, pm_s_ireturn, pm_s_istore_n, ct_X7_freeCell, pS, pR, pC, pE, pL, -Int32.not_le, -Int32.not_lt, -Int64.not_le, -Int64.not_lt, -List.getD_eq_getElem?_getD]
        rw [ni_add]
        refine l2 ?_
        simp only [ffc, h0, if_false]; rw [if_neg (by omega)]
      · have : ffc ec S = 1 := by simp only [ffc, h0, if_false]; rw [if_pos ⟨by omega, h3⟩]
        rw [this] at hT; exact hT
    refine hb0 _ _ _ ?_
    simp (maxSteps := 2000000) [bk_X7_freeCell_0, bk_X7_freeCell_2, bk_X7_freeCell_21, bk_X7_freeCell_27, pm_arr, pm_e_c0, pm_e_c1, pm_e_cti, pm_e_ctl, pm_e_ctr, pm_e_go, pm_e_i, pm_e_ii, pm_e_ldi, pm_e_ldr, pm_e_lk, pm_e_r, pm_e_ri, pm_e_rm0, pm_e_rm1, pm_e_rs0, pm_e_rs1, pm_e_wp0, pm_e_wp1, pm_f2, pm_f3, pm_fld, pm_fv, pm_obj, pm_s_aload_n, pm_s_getfield, pm_s_goto, pm_s_iaload, pm_s_iconst, pm_s_ifCond_ne, pm_s_if_icmp_ge, pm_s_iinc, pm_s_iload_n, pm_s_ireturn, pm_s_istore_n, ct_X7_freeCell, pS, pR, pC, pE, pL, -Int32.not_le, -Int32.not_lt, -Int64.not_le, -Int64.not_lt, -List.getD_eq_getElem?_getD, lv_args]
    refine hb2 _ _ _ ?_
    simp (maxSteps := 2000000) [bk_X7_freeCell_0, bk_X7_freeCell_2, bk_X7_freeCell_21, bk_X7_freeCell_27, pm_arr, pm_e_c0, pm_e_c1, pm_e_cti, pm_e_ctl, pm_e_ctr, pm_e_go, pm_e_i, pm_e_ii, pm_e_ldi, pm_e_ldr, pm_e_lk, pm_e_r, pm_e_ri, pm_e_rm0, pm_e_rm1, pm_e_rs0, pm_e_rs1, pm_e_wp0, pm_e_wp1, pm_f2, pm_f3, pm_fld, pm_fv, pm_obj, pm_s_aload_n, pm_s_getfield, pm_s_goto, pm_s_iaload, pm_s_iconst, pm_s_ifCond_ne, pm_s_if_icmp_ge, pm_s_iinc, pm_s_iload_n, pm_s_ireturn, pm_s_istore_n, ct_X7_freeCell, pS, pR, pC, pE, pL, -Int32.not_le, -Int32.not_lt, -Int64.not_le, -Int64.not_lt, -List.getD_eq_getElem?_getD, sy_0, sy_12, hcc]
    simp (disch := omega) only [ni_in, ni_cl, ni_add, ni_mul, ni_sub, ni_lt, ni_le, ni_eq, ni_eq0, ni_lt0, ni_0le, ni_0lt, ni_le0, ni_a1, ni_a3, ni_a7, ni_a15, e0, z0]
    refine ⟨fun h => out ?_, fun h => ⟨by omega, fun h3 => ?_, fun h3 => ?_⟩⟩
    · unfold ffc; rw [if_neg (by omega), if_neg (by omega)]
    · refine hb21 _ _ _ ?_
      simp (maxSteps := 2000000) [bk_X7_freeCell_0, bk_X7_freeCell_2, bk_X7_freeCell_21, bk_X7_freeCell_27, pm_arr, pm_e_c0, pm_e_c1, pm_e_cti, pm_e_ctl, pm_e_ctr, pm_e_go, pm_e_i, pm_e_ii, pm_e_ldi, pm_e_ldr, pm_e_lk, pm_e_r, pm_e_ri, pm_e_rm0, pm_e_rm1, pm_e_rs0, pm_e_rs1, pm_e_wp0, pm_e_wp1, pm_f2, pm_f3, pm_fld, pm_fv, pm_obj, pm_s_aload_n, pm_s_getfield, pm_s_goto, pm_s_iaload, pm_s_iconst, pm_s_ifCond_ne, pm_s_if_icmp_ge, pm_s_iinc, pm_s_iload_n, pm_s_ireturn, pm_s_istore_n, ct_X7_freeCell, pS, pR, pC, pE, pL, -Int32.not_le, -Int32.not_lt, -Int64.not_le, -Int64.not_lt, -List.getD_eq_getElem?_getD]
      rw [ni_add]
      exact l1 (by omega)
    · have : ffc ec S = 0 := by unfold ffc; rw [if_pos ⟨by omega, h3⟩]
      rw [this] at hT; exact hT
  · exact hT.elim
def tt_X7_whyNot : pm_T := fun args M k => match args with
  | [.ref 0, .int x, .int y] => ∃ (P : Pm) (ec : Nat) (S : St) (a b : Nat), x = nI a ∧ y = nI b ∧ a < 6 ∧ b < 6 ∧ DkY M P ∧ ec ≤ 2 ∧ M.1 0 22 = nI ec ∧ SdY M 10 0 (pR P) S ∧ okS S ∧ inD P S ∧ k (some (.int (nI (whyF P ec S a b)))) M
  | _ => False
abbrev ct_X7_whyNot : List pm_C := [(false, 155, 7, 2, (some .int), tt_X7_lastOf), (false, 159, 7, 1, (some .int), tt_X7_freeCell), (false, 148, 7, 3, (some .boolean), tt_X7_isLet)]
set_option maxHeartbeats 4000000 in
theorem sm_X7_whyNot  : pm_Sem SHy yX7_whyNot cX7_whyNot 4 (some .int) 2 tt_X7_whyNot := by
  refine pm_Sem_intro bl_X7_whyNot ct_X7_whyNot cs_X7_whyNot rfl (List.forall_mem_cons.mpr ⟨⟨_, _, _, _, sm_X7_lastOf, by decide, cm_X7_lastOf, by decide +kernel⟩, List.forall_mem_cons.mpr ⟨⟨_, _, _, _, sm_X7_freeCell, by decide, cm_X7_freeCell, by decide +kernel⟩, List.forall_mem_cons.mpr ⟨⟨_, _, _, _, sm_X7_isLet, by decide, cm_X7_isLet, by decide +kernel⟩, fun _ h => absurd h List.not_mem_nil⟩⟩⟩) ck_X7_whyNot (by decide +kernel) (by decide) ?_
  intro X k hX args M hT
  have hb0 := hX 0 bk_X7_whyNot_0 (List.mem_of_getElem? (i := 0) rfl)
  have hb12 := hX 12 bk_X7_whyNot_12 (List.mem_of_getElem? (i := 1) rfl)
  have hb29 := hX 29 bk_X7_whyNot_29 (List.mem_of_getElem? (i := 2) rfl)
  have hb30 := hX 30 bk_X7_whyNot_30 (List.mem_of_getElem? (i := 3) rfl)
  have hb31 := hX 31 bk_X7_whyNot_31 (List.mem_of_getElem? (i := 4) rfl)
  have hb57 := hX 57 bk_X7_whyNot_57 (List.mem_of_getElem? (i := 5) rfl)
  have hb58 := hX 58 bk_X7_whyNot_58 (List.mem_of_getElem? (i := 6) rfl)
  have hb59 := hX 59 bk_X7_whyNot_59 (List.mem_of_getElem? (i := 7) rfl)
  have hb98 := hX 98 bk_X7_whyNot_98 (List.mem_of_getElem? (i := 8) rfl)
  have hb99 := hX 99 bk_X7_whyNot_99 (List.mem_of_getElem? (i := 9) rfl)
  have hb100 := hX 100 bk_X7_whyNot_100 (List.mem_of_getElem? (i := 10) rfl)
  have hb113 := hX 113 bk_X7_whyNot_113 (List.mem_of_getElem? (i := 11) rfl)
  have hb114 := hX 114 bk_X7_whyNot_114 (List.mem_of_getElem? (i := 12) rfl)
  clear hX
  unfold tt_X7_whyNot at hT; split at hT
  · next x y =>
    obtain ⟨P, ec, S, a, b, rfl, rfl, ha, hb, hD, he, hcc, hS, hO, hI, hT⟩ := hT
    have hP := hD.1
    have hs4 := hP.2.1
    have hcl := cardF_le hI ha
    have h32 := cdN_le hP hcl
    have hz := cd_z hP hcl
    unfold whyF at hT
    refine ⟨by simp [lg_sl, Value.category], ?_⟩
    refine hb0 _ _ _ ?_
    simp (maxSteps := 2000000) [bk_X7_whyNot_0, bk_X7_whyNot_12, bk_X7_whyNot_29, bk_X7_whyNot_30, bk_X7_whyNot_31, bk_X7_whyNot_57, bk_X7_whyNot_58, bk_X7_whyNot_59, bk_X7_whyNot_98, bk_X7_whyNot_99, bk_X7_whyNot_100, bk_X7_whyNot_113, bk_X7_whyNot_114, pm_arr, pm_call, pm_e_c0, pm_e_c1, pm_e_cti, pm_e_ctl, pm_e_ctr, pm_e_go, pm_e_i, pm_e_ii, pm_e_ldi, pm_e_ldr, pm_e_lk, pm_e_r, pm_e_ri, pm_e_rm0, pm_e_rm1, pm_e_rs0, pm_e_rs1, pm_e_wp0, pm_e_wp1, pm_f2, pm_f3, pm_fld, pm_fv, pm_obj, pm_recv, pm_s_aload_n, pm_s_bipush, pm_s_getfield, pm_s_goto, pm_s_iadd, pm_s_iaload, pm_s_iand, pm_s_iconst, pm_s_ifCond_eq, pm_s_ifCond_le, pm_s_ifCond_ne, pm_s_if_icmp_ne, pm_s_iload_n, pm_s_imul, pm_s_invokevirtual, pm_s_ireturn, pm_s_ishr, pm_s_istore_n, pm_s_isub, ct_X7_whyNot, pS, pR, pC, pE, pL, -Int32.not_le, -Int32.not_lt, -Int64.not_le, -Int64.not_lt, -List.getD_eq_getElem?_getD, lv_args, sy_0]
    refine ⟨pR P, a, S, rfl, ha, hS, hO, ?_⟩
    simp (maxSteps := 2000000) [bk_X7_whyNot_0, bk_X7_whyNot_12, bk_X7_whyNot_29, bk_X7_whyNot_30, bk_X7_whyNot_31, bk_X7_whyNot_57, bk_X7_whyNot_58, bk_X7_whyNot_59, bk_X7_whyNot_98, bk_X7_whyNot_99, bk_X7_whyNot_100, bk_X7_whyNot_113, bk_X7_whyNot_114, pm_arr, pm_call, pm_e_c0, pm_e_c1, pm_e_cti, pm_e_ctl, pm_e_ctr, pm_e_go, pm_e_i, pm_e_ii, pm_e_ldi, pm_e_ldr, pm_e_lk, pm_e_r, pm_e_ri, pm_e_rm0, pm_e_rm1, pm_e_rs0, pm_e_rs1, pm_e_wp0, pm_e_wp1, pm_f2, pm_f3, pm_fld, pm_fv, pm_obj, pm_recv, pm_s_aload_n, pm_s_bipush, pm_s_getfield, pm_s_goto, pm_s_iadd, pm_s_iaload, pm_s_iand, pm_s_iconst, pm_s_ifCond_eq, pm_s_ifCond_le, pm_s_ifCond_ne, pm_s_if_icmp_ne, pm_s_iload_n, pm_s_imul, pm_s_invokevirtual, pm_s_ireturn, pm_s_ishr, pm_s_istore_n, pm_s_isub, ct_X7_whyNot, pS, pR, pC, pE, pL, -Int32.not_le, -Int32.not_lt, -Int64.not_le, -Int64.not_lt, -List.getD_eq_getElem?_getD]
    dsimp only [pR] at hz
    rw [hz]
    refine ⟨fun h0 => ?_, fun h0 => ?_⟩
    · rw [if_neg h0] at hT
      obtain ⟨c1, c2⟩ := cd_sh hP (show 1 ≤ cardF S a by omega) hcl
      have un := su_lt hP.2.2.1 (show 1 ≤ cardF S a by omega) hcl
      have rl := ra_le (n := cardF S a) hP.2.2.1
      have rg := ra_ge (r := pR P) (n := cardF S a)
      have r6 := hP.2.2.2.1
      refine hb12 _ _ _ ?_
      simp (maxSteps := 2000000) [bk_X7_whyNot_0, bk_X7_whyNot_12, bk_X7_whyNot_29, bk_X7_whyNot_30, bk_X7_whyNot_31, bk_X7_whyNot_57, bk_X7_whyNot_58, bk_X7_whyNot_59, bk_X7_whyNot_98, bk_X7_whyNot_99, bk_X7_whyNot_100, bk_X7_whyNot_113, bk_X7_whyNot_114, pm_arr, pm_call, pm_e_c0, pm_e_c1, pm_e_cti, pm_e_ctl, pm_e_ctr, pm_e_go, pm_e_i, pm_e_ii, pm_e_ldi, pm_e_ldr, pm_e_lk, pm_e_r, pm_e_ri, pm_e_rm0, pm_e_rm1, pm_e_rs0, pm_e_rs1, pm_e_wp0, pm_e_wp1, pm_f2, pm_f3, pm_fld, pm_fv, pm_obj, pm_recv, pm_s_aload_n, pm_s_bipush, pm_s_getfield, pm_s_goto, pm_s_iadd, pm_s_iaload, pm_s_iand, pm_s_iconst, pm_s_ifCond_eq, pm_s_ifCond_le, pm_s_ifCond_ne, pm_s_if_icmp_ne, pm_s_iload_n, pm_s_imul, pm_s_invokevirtual, pm_s_ireturn, pm_s_ishr, pm_s_istore_n, pm_s_isub, ct_X7_whyNot, pS, pR, pC, pE, pL, -Int32.not_le, -Int32.not_lt, -Int64.not_le, -Int64.not_lt, -List.getD_eq_getElem?_getD, sy_0]
      simp (disch := omega) only [ni_in, ni_cl, ni_add, ni_mul, ni_sub, ni_lt, ni_le, ni_eq, ni_eq0, ni_lt0, ni_0le, ni_0lt, ni_le0, ni_a1, ni_a3, ni_a7, ni_a15]
      refine ⟨fun h4 => ?_, fun h4 => ?_⟩
      · rw [if_neg h4] at hT
        have hh6 := hO.2.2 (su (pR P) (cardF S a)) (by omega)
        have hh : M.1 13 (su (pR P) (cardF S a)) = _ := hS.h (show su (pR P) (cardF S a) < 4 by omega)
        dsimp only [pR] at c1 c2 hh hh6 rl rg un r6
        refine hb31 _ _ _ ?_
        simp (maxSteps := 2000000) [bk_X7_whyNot_0, bk_X7_whyNot_12, bk_X7_whyNot_29, bk_X7_whyNot_30, bk_X7_whyNot_31, bk_X7_whyNot_57, bk_X7_whyNot_58, bk_X7_whyNot_59, bk_X7_whyNot_98, bk_X7_whyNot_99, bk_X7_whyNot_100, bk_X7_whyNot_113, bk_X7_whyNot_114, pm_arr, pm_call, pm_e_c0, pm_e_c1, pm_e_cti, pm_e_ctl, pm_e_ctr, pm_e_go, pm_e_i, pm_e_ii, pm_e_ldi, pm_e_ldr, pm_e_lk, pm_e_r, pm_e_ri, pm_e_rm0, pm_e_rm1, pm_e_rs0, pm_e_rs1, pm_e_wp0, pm_e_wp1, pm_f2, pm_f3, pm_fld, pm_fv, pm_obj, pm_recv, pm_s_aload_n, pm_s_bipush, pm_s_getfield, pm_s_goto, pm_s_iadd, pm_s_iaload, pm_s_iand, pm_s_iconst, pm_s_ifCond_eq, pm_s_ifCond_le, pm_s_ifCond_ne, pm_s_if_icmp_ne, pm_s_iload_n, pm_s_imul, pm_s_invokevirtual, pm_s_ireturn, pm_s_ishr, pm_s_istore_n, pm_s_isub, ct_X7_whyNot, pS, pR, pC, pE, pL, -Int32.not_le, -Int32.not_lt, -Int64.not_le, -Int64.not_lt, -List.getD_eq_getElem?_getD, sy_0, sy_13]
        rw [c1, c2]
        simp (disch := omega) only [ni_in, ni_cl, ni_add, ni_mul, ni_sub, ni_lt, ni_le, ni_eq, ni_eq0, ni_lt0, ni_0le, ni_0lt, ni_le0, ni_a1, ni_a3, ni_a7, ni_a15, hh]
        refine ⟨fun h5 => ?_, fun h5 => ?_⟩
        · rw [if_neg h5] at hT
          have hb4 : b < 4 := by omega
          have hlb := (hO.1 b hb4).1
          have hn : M.1 10 b = _ := hS.n hb4
          refine hb59 _ _ _ ?_
          simp (maxSteps := 2000000) [bk_X7_whyNot_0, bk_X7_whyNot_12, bk_X7_whyNot_29, bk_X7_whyNot_30, bk_X7_whyNot_31, bk_X7_whyNot_57, bk_X7_whyNot_58, bk_X7_whyNot_59, bk_X7_whyNot_98, bk_X7_whyNot_99, bk_X7_whyNot_100, bk_X7_whyNot_113, bk_X7_whyNot_114, pm_arr, pm_call, pm_e_c0, pm_e_c1, pm_e_cti, pm_e_ctl, pm_e_ctr, pm_e_go, pm_e_i, pm_e_ii, pm_e_ldi, pm_e_ldr, pm_e_lk, pm_e_r, pm_e_ri, pm_e_rm0, pm_e_rm1, pm_e_rs0, pm_e_rs1, pm_e_wp0, pm_e_wp1, pm_f2, pm_f3, pm_fld, pm_fv, pm_obj, pm_recv, pm_s_aload_n, pm_s_bipush, pm_s_getfield, pm_s_goto, pm_s_iadd, pm_s_iaload, pm_s_iand, pm_s_iconst, pm_s_ifCond_eq, pm_s_ifCond_le, pm_s_ifCond_ne, pm_s_if_icmp_ne, pm_s_iload_n, pm_s_imul, pm_s_invokevirtual, pm_s_ireturn, pm_s_ishr, pm_s_istore_n, pm_s_isub, ct_X7_whyNot, pS, pR, pC, pE, pL, -Int32.not_le, -Int32.not_lt, -Int64.not_le, -Int64.not_lt, -List.getD_eq_getElem?_getD, sy_0, sy_10, sy_11]
          simp (disch := omega) only [ni_in, ni_cl, ni_add, ni_mul, ni_sub, ni_lt, ni_le, ni_eq, ni_eq0, ni_lt0, ni_0le, ni_0lt, ni_le0, ni_a1, ni_a3, ni_a7, ni_a15, hn]
          refine ⟨by omega, fun hl => ?_, fun hl => ?_⟩
          · have e0 : S.1 b = [] := List.length_eq_zero_iff.mp hl
            rw [e0, show lastC [] = 0 from rfl] at hT
            have h114 : ∀ v, k (some (.int v)) M → X 114 [] [.int v] M := by
              intro v hv
              refine hb114 _ _ _ ?_
              simp (maxSteps := 2000000) [bk_X7_whyNot_0, bk_X7_whyNot_12, bk_X7_whyNot_29, bk_X7_whyNot_30, bk_X7_whyNot_31, bk_X7_whyNot_57, bk_X7_whyNot_58, bk_X7_whyNot_59, bk_X7_whyNot_98, bk_X7_whyNot_99, bk_X7_whyNot_100, bk_X7_whyNot_113, bk_X7_whyNot_114, pm_arr, pm_call, pm_e_c0, pm_e_c1, pm_e_cti, pm_e_ctl, pm_e_ctr, pm_e_go, pm_e_i, pm_e_ii, pm_e_ldi, pm_e_ldr, pm_e_lk, pm_e_r, pm_e_ri, pm_e_rm0, pm_e_rm1, pm_e_rs0, pm_e_rs1, pm_e_wp0, pm_e_wp1, pm_f2, pm_f3, pm_fld, pm_fv, pm_obj, pm_recv, pm_s_aload_n, pm_s_bipush, pm_s_getfield, pm_s_goto, pm_s_iadd, pm_s_iaload, pm_s_iand, pm_s_iconst, pm_s_ifCond_eq, pm_s_ifCond_le, pm_s_ifCond_ne, pm_s_if_icmp_ne, pm_s_iload_n, pm_s_imul, pm_s_invokevirtual, pm_s_ireturn, pm_s_ishr, pm_s_istore_n, pm_s_isub, ct_X7_whyNot, pS, pR, pC, pE, pL, -Int32.not_le, -Int32.not_lt, -Int64.not_le, -Int64.not_lt, -List.getD_eq_getElem?_getD]
              exact hv
            refine hb100 _ _ _ ?_
            simp (maxSteps := 2000000) [bk_X7_whyNot_0, bk_X7_whyNot_12, bk_X7_whyNot_29, bk_X7_whyNot_30, bk_X7_whyNot_31, bk_X7_whyNot_57, bk_X7_whyNot_58, bk_X7_whyNot_59, bk_X7_whyNot_98, bk_X7_whyNot_99, bk_X7_whyNot_100, bk_X7_whyNot_113, bk_X7_whyNot_114, pm_arr, pm_call, pm_e_c0, pm_e_c1, pm_e_cti, pm_e_ctl, pm_e_ctr, pm_e_go, pm_e_i, pm_e_ii, pm_e_ldi, pm_e_ldr, pm_e_lk, pm_e_r, pm_e_ri, pm_e_rm0, pm_e_rm1, pm_e_rs0, pm_e_rs1, pm_e_wp0, pm_e_wp1, pm_f2, pm_f3, pm_fld, pm_fv, pm_obj, pm_recv, pm_s_aload_n, pm_s_bipush, pm_s_getfield, pm_s_goto, pm_s_iadd, pm_s_iaload, pm_s_iand, pm_s_iconst, pm_s_ifCond_eq, pm_s_ifCond_le, pm_s_ifCond_ne, pm_s_if_icmp_ne, pm_s_iload_n, pm_s_imul, pm_s_invokevirtual, pm_s_ireturn, pm_s_ishr, pm_s_istore_n, pm_s_isub, ct_X7_whyNot, pS, pR, pC, pE, pL, -Int32.not_le, -Int32.not_lt, -Int64.not_le, -Int64.not_lt, -List.getD_eq_getElem?_getD, sy_0]
            refine ⟨P, cardF S a, 0, rfl, rfl, hD, ⟨by omega, hcl⟩, Nat.zero_le _, ?_⟩
            simp (maxSteps := 2000000) [bk_X7_whyNot_0, bk_X7_whyNot_12, bk_X7_whyNot_29, bk_X7_whyNot_30, bk_X7_whyNot_31, bk_X7_whyNot_57, bk_X7_whyNot_58, bk_X7_whyNot_59, bk_X7_whyNot_98, bk_X7_whyNot_99, bk_X7_whyNot_100, bk_X7_whyNot_113, bk_X7_whyNot_114, pm_arr, pm_call, pm_e_c0, pm_e_c1, pm_e_cti, pm_e_ctl, pm_e_ctr, pm_e_go, pm_e_i, pm_e_ii, pm_e_ldi, pm_e_ldr, pm_e_lk, pm_e_r, pm_e_ri, pm_e_rm0, pm_e_rm1, pm_e_rs0, pm_e_rs1, pm_e_wp0, pm_e_wp1, pm_f2, pm_f3, pm_fld, pm_fv, pm_obj, pm_recv, pm_s_aload_n, pm_s_bipush, pm_s_getfield, pm_s_goto, pm_s_iadd, pm_s_iaload, pm_s_iand, pm_s_iconst, pm_s_ifCond_eq, pm_s_ifCond_le, pm_s_ifCond_ne, pm_s_if_icmp_ne, pm_s_iload_n, pm_s_imul, pm_s_invokevirtual, pm_s_ireturn, pm_s_ishr, pm_s_istore_n, pm_s_isub, ct_X7_whyNot, pS, pR, pC, pE, pL, -Int32.not_le, -Int32.not_lt, -Int64.not_le, -Int64.not_lt, -List.getD_eq_getElem?_getD, pb_eq0]
            refine ⟨fun h => ?_, fun h => ?_⟩
            · refine hb113 _ _ _ ?_
              simp (maxSteps := 2000000) [bk_X7_whyNot_0, bk_X7_whyNot_12, bk_X7_whyNot_29, bk_X7_whyNot_30, bk_X7_whyNot_31, bk_X7_whyNot_57, bk_X7_whyNot_58, bk_X7_whyNot_59, bk_X7_whyNot_98, bk_X7_whyNot_99, bk_X7_whyNot_100, bk_X7_whyNot_113, bk_X7_whyNot_114, pm_arr, pm_call, pm_e_c0, pm_e_c1, pm_e_cti, pm_e_ctl, pm_e_ctr, pm_e_go, pm_e_i, pm_e_ii, pm_e_ldi, pm_e_ldr, pm_e_lk, pm_e_r, pm_e_ri, pm_e_rm0, pm_e_rm1, pm_e_rs0, pm_e_rs1, pm_e_wp0, pm_e_wp1, pm_f2, pm_f3, pm_fld, pm_fv, pm_obj, pm_recv, pm_s_aload_n, pm_s_bipush, pm_s_getfield, pm_s_goto, pm_s_iadd, pm_s_iaload, pm_s_iand, pm_s_iconst, pm_s_ifCond_eq, pm_s_ifCond_le, pm_s_ifCond_ne, pm_s_if_icmp_ne, pm_s_iload_n, pm_s_imul, pm_s_invokevirtual, pm_s_ireturn, pm_s_ishr, pm_s_istore_n, pm_s_isub, ct_X7_whyNot, pS, pR, pC, pE, pL, -Int32.not_le, -Int32.not_lt, -Int64.not_le, -Int64.not_lt, -List.getD_eq_getElem?_getD]
              rw [if_neg (by rw [h]; simp), if_pos rfl] at hT
              exact h114 _ hT
            · rw [if_pos h] at hT
              exact h114 _ hT
          · have hne : S.1 b ≠ [] := fun e => hl (by rw [e]; rfl)
            have hc : M.1 11 (12 * b + ((S.1 b).length - 1)) = _ := hS.c hb4 (j := (S.1 b).length - 1) (by omega)
            rw [ni_sub (by omega), ni_in (by omega), ni_cl (by omega), show 12 * b + (S.1 b).length - 1 = 12 * b + ((S.1 b).length - 1) by omega, hc, ← lastC_get hne]
            refine ⟨by omega, by omega, ?_⟩
            have h99 : ∀ v, k (some (.int v)) M → X 99 [] [.int v] M := by
              intro v hv
              refine hb99 _ _ _ ?_
              simp (maxSteps := 2000000) [bk_X7_whyNot_0, bk_X7_whyNot_12, bk_X7_whyNot_29, bk_X7_whyNot_30, bk_X7_whyNot_31, bk_X7_whyNot_57, bk_X7_whyNot_58, bk_X7_whyNot_59, bk_X7_whyNot_98, bk_X7_whyNot_99, bk_X7_whyNot_100, bk_X7_whyNot_113, bk_X7_whyNot_114, pm_arr, pm_call, pm_e_c0, pm_e_c1, pm_e_cti, pm_e_ctl, pm_e_ctr, pm_e_go, pm_e_i, pm_e_ii, pm_e_ldi, pm_e_ldr, pm_e_lk, pm_e_r, pm_e_ri, pm_e_rm0, pm_e_rm1, pm_e_rs0, pm_e_rs1, pm_e_wp0, pm_e_wp1, pm_f2, pm_f3, pm_fld, pm_fv, pm_obj, pm_recv, pm_s_aload_n, pm_s_bipush, pm_s_getfield, pm_s_goto, pm_s_iadd, pm_s_iaload, pm_s_iand, pm_s_iconst, pm_s_ifCond_eq, pm_s_ifCond_le, pm_s_ifCond_ne, pm_s_if_icmp_ne, pm_s_iload_n, pm_s_imul, pm_s_invokevirtual, pm_s_ireturn, pm_s_ishr, pm_s_istore_n, pm_s_isub, ct_X7_whyNot, pS, pR, pC, pE, pL, -Int32.not_le, -Int32.not_lt, -Int64.not_le, -Int64.not_lt, -List.getD_eq_getElem?_getD]
              exact hv
            refine ⟨P, cardF S a, lastC (S.1 b), rfl, rfl, hD, ⟨by omega, hcl⟩, lastC_in (hI.1 b hb4), ?_⟩
            simp (maxSteps := 2000000) [bk_X7_whyNot_0, bk_X7_whyNot_12, bk_X7_whyNot_29, bk_X7_whyNot_30, bk_X7_whyNot_31, bk_X7_whyNot_57, bk_X7_whyNot_58, bk_X7_whyNot_59, bk_X7_whyNot_98, bk_X7_whyNot_99, bk_X7_whyNot_100, bk_X7_whyNot_113, bk_X7_whyNot_114, pm_arr, pm_call, pm_e_c0, pm_e_c1, pm_e_cti, pm_e_ctl, pm_e_ctr, pm_e_go, pm_e_i, pm_e_ii, pm_e_ldi, pm_e_ldr, pm_e_lk, pm_e_r, pm_e_ri, pm_e_rm0, pm_e_rm1, pm_e_rs0, pm_e_rs1, pm_e_wp0, pm_e_wp1, pm_f2, pm_f3, pm_fld, pm_fv, pm_obj, pm_recv, pm_s_aload_n, pm_s_bipush, pm_s_getfield, pm_s_goto, pm_s_iadd, pm_s_iaload, pm_s_iand, pm_s_iconst, pm_s_ifCond_eq, pm_s_ifCond_le, pm_s_ifCond_ne, pm_s_if_icmp_ne, pm_s_iload_n, pm_s_imul, pm_s_invokevirtual, pm_s_ireturn, pm_s_ishr, pm_s_istore_n, pm_s_isub, ct_X7_whyNot, pS, pR, pC, pE, pL, -Int32.not_le, -Int32.not_lt, -Int64.not_le, -Int64.not_lt, -List.getD_eq_getElem?_getD, pb_eq0]
            refine ⟨fun h => ?_, fun h => ?_⟩
            · refine hb98 _ _ _ ?_
              simp (maxSteps := 2000000) [bk_X7_whyNot_0, bk_X7_whyNot_12, bk_X7_whyNot_29, bk_X7_whyNot_30, bk_X7_whyNot_31, bk_X7_whyNot_57, bk_X7_whyNot_58, bk_X7_whyNot_59, bk_X7_whyNot_98, bk_X7_whyNot_99, bk_X7_whyNot_100, bk_X7_whyNot_113, bk_X7_whyNot_114, pm_arr, pm_call, pm_e_c0, pm_e_c1, pm_e_cti, pm_e_ctl, pm_e_ctr, pm_e_go, pm_e_i, pm_e_ii, pm_e_ldi, pm_e_ldr, pm_e_lk, pm_e_r, pm_e_ri, pm_e_rm0, pm_e_rm1, pm_e_rs0, pm_e_rs1, pm_e_wp0, pm_e_wp1, pm_f2, pm_f3, pm_fld, pm_fv, pm_obj, pm_recv, pm_s_aload_n, pm_s_bipush, pm_s_getfield, pm_s_goto, pm_s_iadd, pm_s_iaload, pm_s_iand, pm_s_iconst, pm_s_ifCond_eq, pm_s_ifCond_le, pm_s_ifCond_ne, pm_s_if_icmp_ne, pm_s_iload_n, pm_s_imul, pm_s_invokevirtual, pm_s_ireturn, pm_s_ishr, pm_s_istore_n, pm_s_isub, ct_X7_whyNot, pS, pR, pC, pE, pL, -Int32.not_le, -Int32.not_lt, -Int64.not_le, -Int64.not_lt, -List.getD_eq_getElem?_getD]
              rw [if_neg (by rw [h]; simp), if_neg hne] at hT
              exact h99 _ hT
            · rw [if_pos h] at hT
              exact h99 _ hT
        · rw [if_pos h5] at hT
          have h58 : ∀ v, k (some (.int v)) M → X 58 [] [.int v] M := by
            intro v hv
            refine hb58 _ _ _ ?_
            simp (maxSteps := 2000000) [bk_X7_whyNot_0, bk_X7_whyNot_12, bk_X7_whyNot_29, bk_X7_whyNot_30, bk_X7_whyNot_31, bk_X7_whyNot_57, bk_X7_whyNot_58, bk_X7_whyNot_59, bk_X7_whyNot_98, bk_X7_whyNot_99, bk_X7_whyNot_100, bk_X7_whyNot_113, bk_X7_whyNot_114, pm_arr, pm_call, pm_e_c0, pm_e_c1, pm_e_cti, pm_e_ctl, pm_e_ctr, pm_e_go, pm_e_i, pm_e_ii, pm_e_ldi, pm_e_ldr, pm_e_lk, pm_e_r, pm_e_ri, pm_e_rm0, pm_e_rm1, pm_e_rs0, pm_e_rs1, pm_e_wp0, pm_e_wp1, pm_f2, pm_f3, pm_fld, pm_fv, pm_obj, pm_recv, pm_s_aload_n, pm_s_bipush, pm_s_getfield, pm_s_goto, pm_s_iadd, pm_s_iaload, pm_s_iand, pm_s_iconst, pm_s_ifCond_eq, pm_s_ifCond_le, pm_s_ifCond_ne, pm_s_if_icmp_ne, pm_s_iload_n, pm_s_imul, pm_s_invokevirtual, pm_s_ireturn, pm_s_ishr, pm_s_istore_n, pm_s_isub, ct_X7_whyNot, pS, pR, pC, pE, pL, -Int32.not_le, -Int32.not_lt, -Int64.not_le, -Int64.not_lt, -List.getD_eq_getElem?_getD]
            exact hv
          refine ⟨by omega, fun h => ?_, fun h => ?_⟩
          · refine hb57 _ _ _ ?_
            simp (maxSteps := 2000000) [bk_X7_whyNot_0, bk_X7_whyNot_12, bk_X7_whyNot_29, bk_X7_whyNot_30, bk_X7_whyNot_31, bk_X7_whyNot_57, bk_X7_whyNot_58, bk_X7_whyNot_59, bk_X7_whyNot_98, bk_X7_whyNot_99, bk_X7_whyNot_100, bk_X7_whyNot_113, bk_X7_whyNot_114, pm_arr, pm_call, pm_e_c0, pm_e_c1, pm_e_cti, pm_e_ctl, pm_e_ctr, pm_e_go, pm_e_i, pm_e_ii, pm_e_ldi, pm_e_ldr, pm_e_lk, pm_e_r, pm_e_ri, pm_e_rm0, pm_e_rm1, pm_e_rs0, pm_e_rs1, pm_e_wp0, pm_e_wp1, pm_f2, pm_f3, pm_fld, pm_fv, pm_obj, pm_recv, pm_s_aload_n, pm_s_bipush, pm_s_getfield, pm_s_goto, pm_s_iadd, pm_s_iaload, pm_s_iand, pm_s_iconst, pm_s_ifCond_eq, pm_s_ifCond_le, pm_s_ifCond_ne, pm_s_if_icmp_ne, pm_s_iload_n, pm_s_imul, pm_s_invokevirtual, pm_s_ireturn, pm_s_ishr, pm_s_istore_n, pm_s_isub, ct_X7_whyNot, pS, pR, pC, pE, pL, -Int32.not_le, -Int32.not_lt, -Int64.not_le, -Int64.not_lt, -List.getD_eq_getElem?_getD]
            rw [if_neg (by dsimp only [pR]; omega)] at hT
            exact h58 _ hT
          · rw [if_pos (by dsimp only [pR]; omega)] at hT
            exact h58 _ hT
      · rw [if_pos h4] at hT
        have h30 : ∀ v, k (some (.int v)) M → X 30 [] [.int v] M := by
          intro v hv
          refine hb30 _ _ _ ?_
          simp (maxSteps := 2000000) [bk_X7_whyNot_0, bk_X7_whyNot_12, bk_X7_whyNot_29, bk_X7_whyNot_30, bk_X7_whyNot_31, bk_X7_whyNot_57, bk_X7_whyNot_58, bk_X7_whyNot_59, bk_X7_whyNot_98, bk_X7_whyNot_99, bk_X7_whyNot_100, bk_X7_whyNot_113, bk_X7_whyNot_114, pm_arr, pm_call, pm_e_c0, pm_e_c1, pm_e_cti, pm_e_ctl, pm_e_ctr, pm_e_go, pm_e_i, pm_e_ii, pm_e_ldi, pm_e_ldr, pm_e_lk, pm_e_r, pm_e_ri, pm_e_rm0, pm_e_rm1, pm_e_rs0, pm_e_rs1, pm_e_wp0, pm_e_wp1, pm_f2, pm_f3, pm_fld, pm_fv, pm_obj, pm_recv, pm_s_aload_n, pm_s_bipush, pm_s_getfield, pm_s_goto, pm_s_iadd, pm_s_iaload, pm_s_iand, pm_s_iconst, pm_s_ifCond_eq, pm_s_ifCond_le, pm_s_ifCond_ne, pm_s_if_icmp_ne, pm_s_iload_n, pm_s_imul, pm_s_invokevirtual, pm_s_ireturn, pm_s_ishr, pm_s_istore_n, pm_s_isub, ct_X7_whyNot, pS, pR, pC, pE, pL, -Int32.not_le, -Int32.not_lt, -Int64.not_le, -Int64.not_lt, -List.getD_eq_getElem?_getD]
          exact hv
        refine ⟨P, ec, S, hP, he, hcc, hS, hI, ?_⟩
        simp (maxSteps := 2000000) [bk_X7_whyNot_0, bk_X7_whyNot_12, bk_X7_whyNot_29, bk_X7_whyNot_30, bk_X7_whyNot_31, bk_X7_whyNot_57, bk_X7_whyNot_58, bk_X7_whyNot_59, bk_X7_whyNot_98, bk_X7_whyNot_99, bk_X7_whyNot_100, bk_X7_whyNot_113, bk_X7_whyNot_114, pm_arr, pm_call, pm_e_c0, pm_e_c1, pm_e_cti, pm_e_ctl, pm_e_ctr, pm_e_go, pm_e_i, pm_e_ii, pm_e_ldi, pm_e_ldr, pm_e_lk, pm_e_r, pm_e_ri, pm_e_rm0, pm_e_rm1, pm_e_rs0, pm_e_rs1, pm_e_wp0, pm_e_wp1, pm_f2, pm_f3, pm_fld, pm_fv, pm_obj, pm_recv, pm_s_aload_n, pm_s_bipush, pm_s_getfield, pm_s_goto, pm_s_iadd, pm_s_iaload, pm_s_iand, pm_s_iconst, pm_s_ifCond_eq, pm_s_ifCond_le, pm_s_ifCond_ne, pm_s_if_icmp_ne, pm_s_iload_n, pm_s_imul, pm_s_invokevirtual, pm_s_ireturn, pm_s_ishr, pm_s_istore_n, pm_s_isub, ct_X7_whyNot, pS, pR, pC, pE, pL, -Int32.not_le, -Int32.not_lt, -Int64.not_le, -Int64.not_lt, -List.getD_eq_getElem?_getD]
        refine ⟨fun h => ?_, fun h => ?_⟩
        · refine hb29 _ _ _ ?_
          simp (maxSteps := 2000000) [bk_X7_whyNot_0, bk_X7_whyNot_12, bk_X7_whyNot_29, bk_X7_whyNot_30, bk_X7_whyNot_31, bk_X7_whyNot_57, bk_X7_whyNot_58, bk_X7_whyNot_59, bk_X7_whyNot_98, bk_X7_whyNot_99, bk_X7_whyNot_100, bk_X7_whyNot_113, bk_X7_whyNot_114, pm_arr, pm_call, pm_e_c0, pm_e_c1, pm_e_cti, pm_e_ctl, pm_e_ctr, pm_e_go, pm_e_i, pm_e_ii, pm_e_ldi, pm_e_ldr, pm_e_lk, pm_e_r, pm_e_ri, pm_e_rm0, pm_e_rm1, pm_e_rs0, pm_e_rs1, pm_e_wp0, pm_e_wp1, pm_f2, pm_f3, pm_fld, pm_fv, pm_obj, pm_recv, pm_s_aload_n, pm_s_bipush, pm_s_getfield, pm_s_goto, pm_s_iadd, pm_s_iaload, pm_s_iand, pm_s_iconst, pm_s_ifCond_eq, pm_s_ifCond_le, pm_s_ifCond_ne, pm_s_if_icmp_ne, pm_s_iload_n, pm_s_imul, pm_s_invokevirtual, pm_s_ireturn, pm_s_ishr, pm_s_istore_n, pm_s_isub, ct_X7_whyNot, pS, pR, pC, pE, pL, -Int32.not_le, -Int32.not_lt, -Int64.not_le, -Int64.not_lt, -List.getD_eq_getElem?_getD]
          rw [if_neg (fun z => h (by rw [z]; rfl))] at hT
          exact h30 _ hT
        · have z : ffc ec S = 2 := by
            rcases ffc_3 ec S with q | q | q
            · rw [q] at h; exact absurd h (by decide)
            · rw [q] at h; exact absurd h (by decide)
            · exact q
          rw [if_pos z] at hT
          exact h30 _ hT
    · rw [if_pos h0] at hT
      exact hT
  · exact hT.elim
