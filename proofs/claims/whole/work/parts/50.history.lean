/-! THE HISTORY (at 11: 12 forms, 13 arrangements) -/
/-- the stands H 0 .. H la are kept, the present one is H pr -/
def HsX (M : pm_M) (H : Nat → St) (pr la : Nat) : Prop := pr ≤ la ∧ la ≤ 64 ∧ M.1 11 2 = nI pr ∧ M.1 11 3 = nI la ∧ ∀ i, i ≤ la → M.2 12 i = lN (fkN (H i)) ∧ M.1 13 i = nI (arN (H i))
/-- a stand that can be brought back -/
def wfS (P : Pm) (S : St) : Prop := okS S ∧ inD P S ∧ tot S ≤ 12 ∧ allS P S
def tt_X1_write : pm_T := fun args M k => match args with
  | [.ref 11, .ref 5] => ∃ ec S pr, SdX M 5 ec S ∧ tot S ≤ 12 ∧ M.1 11 2 = nI pr ∧ pr ≤ 64 ∧ ∀ M', (∀ j, M'.2 12 j = if j = pr then lN (fkN S) else M.2 12 j) → (∀ j, M'.1 13 j = if j = pr then nI (arN S) else M.1 13 j) → pm_fr [10, 12, 13] M M' → k none M'
  | _ => False
abbrev ct_X1_write : List pm_C := [(false, 40, 4, 1, (some .long), tt_X4_formKey), (false, 44, 4, 1, (some .int), tt_X4_arrangement)]
set_option maxHeartbeats 4000000 in
theorem sm_X1_write  : pm_Sem SHx yX1_write cX1_write 2 none 3 tt_X1_write := by
  refine pm_Sem_intro bl_X1_write ct_X1_write cs_X1_write rfl (List.forall_mem_cons.mpr ⟨⟨_, _, _, _, sm_X4_formKey, by decide, cm_X4_formKey, by decide +kernel⟩, List.forall_mem_cons.mpr ⟨⟨_, _, _, _, sm_X4_arrangement, by decide, cm_X4_arrangement, by decide +kernel⟩, fun _ h => absurd h List.not_mem_nil⟩⟩) ck_X1_write (by decide +kernel) (by decide) ?_
  intro X k hX args M hT
  have hb0 := hX 0 bk_X1_write_0 (List.mem_of_getElem? (i := 0) rfl)
  clear hX
  unfold tt_X1_write at hT; split at hT
  · obtain ⟨ec, S, pr, hS, ht, hpr, hp64, hT⟩ := hT
    refine ⟨by simp [lg_sl, Value.category], ?_⟩
    refine hb0 _ _ _ ?_
    simp (maxSteps := 2000000) [bk_X1_write_0, pm_arr, pm_call, pm_e_cti, pm_e_ctl, pm_e_ctr, pm_e_go, pm_e_ldr, pm_e_lk, pm_e_r, pm_e_rii, pm_e_ril, pm_e_rm0, pm_e_rm1, pm_e_rs0, pm_e_rs1, pm_e_wp0, pm_e_wp1, pm_f2, pm_f3, pm_fld, pm_fv, pm_obj, pm_recv, pm_s_aload_n, pm_s_getfield, pm_s_iastore, pm_s_invokevirtual, pm_s_lastore, pm_s_return, ct_X1_write, pS, pR, pC, pE, pL, -Int32.not_le, -Int32.not_lt, -Int64.not_le, -Int64.not_lt, -List.getD_eq_getElem?_getD, lv_args, sx_11, sx_5, hpr]
    refine ⟨ec, S, Or.inl rfl, hS, ht, fun M1 f1 => ?_⟩
    have f1' : pm_fr [10] M M1 := f1
    simp (maxSteps := 2000000) [bk_X1_write_0, pm_arr, pm_call, pm_e_cti, pm_e_ctl, pm_e_ctr, pm_e_go, pm_e_ldr, pm_e_lk, pm_e_r, pm_e_rii, pm_e_ril, pm_e_rm0, pm_e_rm1, pm_e_rs0, pm_e_rs1, pm_e_wp0, pm_e_wp1, pm_f2, pm_f3, pm_fld, pm_fv, pm_obj, pm_recv, pm_s_aload_n, pm_s_getfield, pm_s_iastore, pm_s_invokevirtual, pm_s_lastore, pm_s_return, ct_X1_write, pS, pR, pC, pE, pL, -Int32.not_le, -Int32.not_lt, -Int64.not_le, -Int64.not_lt, -List.getD_eq_getElem?_getD, sx_11, sx_12, sx_5]
    have e1 : M1.1 11 2 = nI pr := by rw [f1'.i (by simp)]; exact hpr
    simp (disch := omega) only [ni_in, ni_cl, ni_add, ni_mul, ni_sub, ni_lt, ni_le, ni_eq, ni_eq0, ni_lt0, ni_0le, ni_0lt, ni_le0, ni_a1, ni_a3, ni_a7, ni_a15, e1, me_3]
    refine ⟨by omega, ?_⟩
    have f2 : pm_fr [10, 12] M1 (pm_setL M1 12 pr (lN (fkN S))) := pm_fr.rfl.setL (by simp)
    have hS2 : SdX (pm_setL M1 12 pr (lN (fkN S))) 5 ec S := (hS.m5 f1).moved (ps := [12]) (pm_fr.rfl.setL (by simp)) (by decide)
    refine ⟨ec, S, Or.inl rfl, hS2, fun M2 f3 => ?_⟩
    have f3' : pm_fr [10] (pm_setL M1 12 pr (lN (fkN S))) M2 := f3
    simp (maxSteps := 2000000) [bk_X1_write_0, pm_arr, pm_call, pm_e_cti, pm_e_ctl, pm_e_ctr, pm_e_go, pm_e_ldr, pm_e_lk, pm_e_r, pm_e_rii, pm_e_ril, pm_e_rm0, pm_e_rm1, pm_e_rs0, pm_e_rs1, pm_e_wp0, pm_e_wp1, pm_f2, pm_f3, pm_fld, pm_fv, pm_obj, pm_recv, pm_s_aload_n, pm_s_getfield, pm_s_iastore, pm_s_invokevirtual, pm_s_lastore, pm_s_return, ct_X1_write, pS, pR, pC, pE, pL, -Int32.not_le, -Int32.not_lt, -Int64.not_le, -Int64.not_lt, -List.getD_eq_getElem?_getD, sx_11, sx_13]
    simp (disch := omega) only [ni_in, ni_cl, ni_add, ni_mul, ni_sub, ni_lt, ni_le, ni_eq, ni_eq0, ni_lt0, ni_0le, ni_0lt, ni_le0, ni_a1, ni_a3, ni_a7, ni_a15]
    refine ⟨by omega, hT _ (fun j => ?_) (fun j => ?_) ?_⟩
    · rw [me_2, f3'.l (by simp), me_4s]
      by_cases z : j = pr
      · rw [if_pos z, if_pos z]
      · rw [if_neg z, if_neg z, f1'.l (by simp)]
    · rw [me_1s, f3'.i (by simp), me_3, f1'.i (by simp)]
    · refine pm_fr.set ?_ (by simp)
      exact ((f1'.mono (by simp)).trans (pm_fr.rfl.setL (q := 12) (by simp))).trans (f3'.mono (by simp))
  · exact hT.elim
def tt_X1_restart : pm_T := fun args M k => match args with
  | [.ref 11, .ref 5] => ∃ ec S, SdX M 5 ec S ∧ tot S ≤ 12 ∧ ∀ M', HsX M' (fun _ => S) 0 0 → pm_fr [10, 11, 12, 13] M M' → k none M'
  | _ => False
abbrev ct_X1_restart : List pm_C := [(false, 24, 1, 2, none, tt_X1_write)]
set_option maxHeartbeats 4000000 in
theorem sm_X1_restart  : pm_Sem SHx yX1_restart cX1_restart 2 none 4 tt_X1_restart := by
  refine pm_Sem_intro bl_X1_restart ct_X1_restart cs_X1_restart rfl (List.forall_mem_cons.mpr ⟨⟨_, _, _, _, sm_X1_write, by decide, cm_X1_write, by decide +kernel⟩, fun _ h => absurd h List.not_mem_nil⟩) ck_X1_restart (by decide +kernel) (by decide) ?_
  intro X k hX args M hT
  have hb0 := hX 0 bk_X1_restart_0 (List.mem_of_getElem? (i := 0) rfl)
  clear hX
  unfold tt_X1_restart at hT; split at hT
  · obtain ⟨ec, S, hS, ht, hT⟩ := hT
    refine ⟨by simp [lg_sl, Value.category], ?_⟩
    refine hb0 _ _ _ ?_
    simp (maxSteps := 2000000) [bk_X1_restart_0, pm_call, pm_e_c0, pm_e_c1, pm_e_cti, pm_e_ctl, pm_e_ctr, pm_e_go, pm_e_ldr, pm_e_lk, pm_e_rm0, pm_e_rm1, pm_e_rs0, pm_e_rs1, pm_e_wp0, pm_e_wp1, pm_f2, pm_f3, pm_fld, pm_fv, pm_obj, pm_recv, pm_s_aload_n, pm_s_iconst, pm_s_invokevirtual, pm_s_putfield, pm_s_return, ct_X1_restart, pS, pR, pC, pE, pL, -Int32.not_le, -Int32.not_lt, -Int64.not_le, -Int64.not_lt, -List.getD_eq_getElem?_getD, lv_args, sx_11]
    have f1 : pm_fr [11] M (pm_set (pm_set M 11 2 (nI 0)) 11 3 (nI 0)) := (pm_fr.rfl.set (by simp)).set (by simp)
    refine ⟨ec, S, 0, hS.moved f1 (by decide), ht, by simp [pm_set], by decide, fun M1 g1 g2 f2 => ?_⟩
    simp (maxSteps := 2000000) [bk_X1_restart_0, pm_call, pm_e_c0, pm_e_c1, pm_e_cti, pm_e_ctl, pm_e_ctr, pm_e_go, pm_e_ldr, pm_e_lk, pm_e_rm0, pm_e_rm1, pm_e_rs0, pm_e_rs1, pm_e_wp0, pm_e_wp1, pm_f2, pm_f3, pm_fld, pm_fv, pm_obj, pm_recv, pm_s_aload_n, pm_s_iconst, pm_s_invokevirtual, pm_s_putfield, pm_s_return, ct_X1_restart, pS, pR, pC, pE, pL, -Int32.not_le, -Int32.not_lt, -Int64.not_le, -Int64.not_lt, -List.getD_eq_getElem?_getD]
    refine hT M1 ⟨Nat.le_refl _, by decide, ?_, ?_, fun i hi => ?_⟩ ((f1.mono (by simp)).trans (f2.mono (by simp)))
    · rw [f2.i (by simp)]; simp [pm_set]
    · rw [f2.i (by simp)]; simp [pm_set]
    · rw [g1 i, g2 i, if_pos (by omega), if_pos (by omega)]; exact ⟨rfl, rfl⟩
  · exact hT.elim
def tt_X1_canGoBack : pm_T := fun args M k => match args with
  | [.ref 11] => k (some (.int (M.1 11 2))) M
  | _ => False
abbrev ct_X1_canGoBack : List pm_C := []
set_option maxHeartbeats 4000000 in
theorem sm_X1_canGoBack  : pm_Sem SHx yX1_canGoBack cX1_canGoBack 1 (some .int) 1 tt_X1_canGoBack := by
  refine pm_Sem_intro bl_X1_canGoBack ct_X1_canGoBack cs_X1_canGoBack rfl (fun _ h => absurd h List.not_mem_nil) ck_X1_canGoBack (by decide +kernel) (by decide) ?_
  intro X k hX args M hT
  have hb0 := hX 0 bk_X1_canGoBack_0 (List.mem_of_getElem? (i := 0) rfl)
  clear hX
  unfold tt_X1_canGoBack at hT; split at hT
  · refine ⟨by simp [lg_sl, Value.category], ?_⟩
    refine hb0 _ _ _ ?_
    simp (maxSteps := 2000000) [bk_X1_canGoBack_0, pm_e_cti, pm_e_ctl, pm_e_ctr, pm_e_go, pm_e_ldr, pm_e_lk, pm_e_r, pm_e_rm0, pm_e_rm1, pm_e_rs0, pm_e_rs1, pm_e_wp0, pm_e_wp1, pm_f2, pm_f3, pm_fld, pm_fv, pm_obj, pm_s_aload_n, pm_s_getfield, pm_s_ireturn, ct_X1_canGoBack, pS, pR, pC, pE, pL, -Int32.not_le, -Int32.not_lt, -Int64.not_le, -Int64.not_lt, -List.getD_eq_getElem?_getD, lv_args, sx_11]
    exact hT
  · exact hT.elim
def tt_X1_goBack : pm_T := fun args M k => match args with
  | [.ref 11, .ref 5] => ∃ ec H pr la P, ec ≤ 2 ∧ M.1 5 6 = nI ec ∧ HsX M H pr la ∧ DkX M P ∧ (0 < la → ∀ i, i ≤ la → wfS P (H i)) ∧ (pr = 0 → k (some (.int (nI 0))) M) ∧ (0 < pr → ∀ M', HsX M' H (pr - 1) la → SdX M' 5 ec (H (pr - 1)) → pm_fr [5, 6, 7, 8, 9, 10, 11] M M' → k (some (.int (nI 1))) M')
  | _ => False
abbrev ct_X1_goBack : List pm_C := [(false, 34, 4, 3, none, tt_X4_unpack)]
set_option maxHeartbeats 4000000 in
theorem sm_X1_goBack  : pm_Sem SHx yX1_goBack cX1_goBack 2 (some .boolean) 3 tt_X1_goBack := by
  refine pm_Sem_intro bl_X1_goBack ct_X1_goBack cs_X1_goBack rfl (List.forall_mem_cons.mpr ⟨⟨_, _, _, _, sm_X4_unpack, by decide, cm_X4_unpack, by decide +kernel⟩, fun _ h => absurd h List.not_mem_nil⟩) ck_X1_goBack (by decide +kernel) (by decide) ?_
  intro X k hX args M hT
  have hb0 := hX 0 bk_X1_goBack_0 (List.mem_of_getElem? (i := 0) rfl)
  have hb9 := hX 9 bk_X1_goBack_9 (List.mem_of_getElem? (i := 1) rfl)
  clear hX
  unfold tt_X1_goBack at hT; split at hT
  · obtain ⟨ec, H, pr, la, P, he, hcc, hH, hD, hW, hT0, hT1⟩ := hT
    obtain ⟨l1, l2, m2, m3, hk⟩ := id hH
    refine ⟨by simp [lg_sl, Value.category], ?_⟩
    refine hb0 _ _ _ ?_
    simp (maxSteps := 2000000) [bk_X1_goBack_0, bk_X1_goBack_9, pm_arr, pm_call, pm_e_c0, pm_e_c1, pm_e_cti, pm_e_ctl, pm_e_ctr, pm_e_go, pm_e_i, pm_e_ii, pm_e_ldr, pm_e_lk, pm_e_r, pm_e_ri, pm_e_rm0, pm_e_rm1, pm_e_rs0, pm_e_rs1, pm_e_v1, pm_e_wp0, pm_e_wp1, pm_f2, pm_f3, pm_fld, pm_fv, pm_obj, pm_recv, pm_s_aload_n, pm_s_dup, pm_s_getfield, pm_s_iaload, pm_s_iconst, pm_s_ifCond_ne, pm_s_invokevirtual, pm_s_ireturn, pm_s_isub, pm_s_laload, pm_s_putfield, ct_X1_goBack, pS, pR, pC, pE, pL, -Int32.not_le, -Int32.not_lt, -Int64.not_le, -Int64.not_lt, -List.getD_eq_getElem?_getD, lv_args, sx_11, m2]
    simp (disch := omega) only [ni_in, ni_cl, ni_add, ni_mul, ni_sub, ni_lt, ni_le, ni_eq, ni_eq0, ni_lt0, ni_0le, ni_0lt, ni_le0, ni_a1, ni_a3, ni_a7, ni_a15]
    refine ⟨fun h => ?_, fun h => ?_⟩
    · refine hb9 _ _ _ ?_
      simp (maxSteps := 2000000) [bk_X1_goBack_0, bk_X1_goBack_9, pm_arr, pm_call, pm_e_c0, pm_e_c1, pm_e_cti, pm_e_ctl, pm_e_ctr, pm_e_go, pm_e_i, pm_e_ii, pm_e_ldr, pm_e_lk, pm_e_r, pm_e_ri, pm_e_rm0, pm_e_rm1, pm_e_rs0, pm_e_rs1, pm_e_v1, pm_e_wp0, pm_e_wp1, pm_f2, pm_f3, pm_fld, pm_fv, pm_obj, pm_recv, pm_s_aload_n, pm_s_dup, pm_s_getfield, pm_s_iaload, pm_s_iconst, pm_s_ifCond_ne, pm_s_invokevirtual, pm_s_ireturn, pm_s_isub, pm_s_laload, pm_s_putfield, ct_X1_goBack, pS, pR, pC, pE, pL, -Int32.not_le, -Int32.not_lt, -Int64.not_le, -Int64.not_lt, -List.getD_eq_getElem?_getD, sx_11, sx_12, sx_13, sx_5, m2]
      have f1 : pm_fr [11] M (pm_set M 11 2 (nI (pr - 1))) := pm_fr.rfl.set (by simp)
      rw [ni_sub (by omega)]
      have e1 : (pm_set M 11 2 (nI (pr - 1))).1 11 2 = nI (pr - 1) := by simp [pm_set]
      have w := hk (pr - 1) (by omega)
      have e2 : (pm_set M 11 2 (nI (pr - 1))).1 13 (pr - 1) = nI (arN (H (pr - 1))) := by rw [f1.i (by simp)]; exact w.2
      simp (disch := omega) only [ni_in, ni_cl, ni_add, ni_mul, ni_sub, ni_lt, ni_le, ni_eq, ni_eq0, ni_lt0, ni_0le, ni_0lt, ni_le0, ni_a1, ni_a3, ni_a7, ni_a15, e1, me_2, w.1, e2]
      refine ⟨by omega, ?_⟩
      obtain ⟨wo, wi', wt, wa⟩ := hW (by omega) (pr - 1) (by omega)
      refine ⟨ec, H (pr - 1), P, Or.inl rfl, rfl, rfl, he, by rw [f1.i (by simp)]; exact hcc, hD.moved f1 (by decide), wo, wi', wt, wa, fun M1 q1 q2 => ?_⟩
      simp (maxSteps := 2000000) [bk_X1_goBack_0, bk_X1_goBack_9, pm_arr, pm_call, pm_e_c0, pm_e_c1, pm_e_cti, pm_e_ctl, pm_e_ctr, pm_e_go, pm_e_i, pm_e_ii, pm_e_ldr, pm_e_lk, pm_e_r, pm_e_ri, pm_e_rm0, pm_e_rm1, pm_e_rs0, pm_e_rs1, pm_e_v1, pm_e_wp0, pm_e_wp1, pm_f2, pm_f3, pm_fld, pm_fv, pm_obj, pm_recv, pm_s_aload_n, pm_s_dup, pm_s_getfield, pm_s_iaload, pm_s_iconst, pm_s_ifCond_ne, pm_s_invokevirtual, pm_s_ireturn, pm_s_isub, pm_s_laload, pm_s_putfield, ct_X1_goBack, pS, pR, pC, pE, pL, -Int32.not_le, -Int32.not_lt, -Int64.not_le, -Int64.not_lt, -List.getD_eq_getElem?_getD]
      refine ⟨Or.inr rfl, hT1 (by omega) M1 ⟨by omega, l2, ?_, ?_, fun i hi => ?_⟩ q1 ?_⟩
      · rw [q2.i (by decide)]; exact e1
      · rw [q2.i (by decide)]; simpa [pm_set] using m3
      · have w2 := hk i hi
        rw [q2.l (by decide), q2.i (by decide), f1.i (by simp)]
        exact w2
      · exact (f1.mono (by simp)).trans (q2.mono (by decide))
    · exact ⟨Or.inl trivial, hT0 h⟩
  · exact hT.elim
def tt_X1_goOn : pm_T := fun args M k => match args with
  | [.ref 11, .ref 5] => ∃ ec H pr la P, ec ≤ 2 ∧ M.1 5 6 = nI ec ∧ HsX M H pr la ∧ DkX M P ∧ (0 < la → ∀ i, i ≤ la → wfS P (H i)) ∧ (pr = la → k (some (.int (nI 0))) M) ∧ (pr < la → ∀ M', HsX M' H (pr + 1) la → SdX M' 5 ec (H (pr + 1)) → pm_fr [5, 6, 7, 8, 9, 10, 11] M M' → k (some (.int (nI 1))) M')
  | _ => False
abbrev ct_X1_goOn : List pm_C := [(false, 34, 4, 3, none, tt_X4_unpack)]
set_option maxHeartbeats 4000000 in
theorem sm_X1_goOn  : pm_Sem SHx yX1_goOn cX1_goOn 2 (some .boolean) 3 tt_X1_goOn := by
  refine pm_Sem_intro bl_X1_goOn ct_X1_goOn cs_X1_goOn rfl (List.forall_mem_cons.mpr ⟨⟨_, _, _, _, sm_X4_unpack, by decide, cm_X4_unpack, by decide +kernel⟩, fun _ h => absurd h List.not_mem_nil⟩) ck_X1_goOn (by decide +kernel) (by decide) ?_
  intro X k hX args M hT
  have hb0 := hX 0 bk_X1_goOn_0 (List.mem_of_getElem? (i := 0) rfl)
  have hb13 := hX 13 bk_X1_goOn_13 (List.mem_of_getElem? (i := 1) rfl)
  clear hX
  unfold tt_X1_goOn at hT; split at hT
  · obtain ⟨ec, H, pr, la, P, he, hcc, hH, hD, hW, hT0, hT1⟩ := hT
    obtain ⟨l1, l2, m2, m3, hk⟩ := id hH
    refine ⟨by simp [lg_sl, Value.category], ?_⟩
    refine hb0 _ _ _ ?_
    simp (maxSteps := 2000000) [bk_X1_goOn_0, bk_X1_goOn_13, pm_arr, pm_call, pm_e_c0, pm_e_c1, pm_e_cti, pm_e_ctl, pm_e_ctr, pm_e_go, pm_e_ii, pm_e_ldr, pm_e_lk, pm_e_r, pm_e_ri, pm_e_rm0, pm_e_rm1, pm_e_rs0, pm_e_rs1, pm_e_v1, pm_e_wp0, pm_e_wp1, pm_f2, pm_f3, pm_fld, pm_fv, pm_obj, pm_recv, pm_s_aload_n, pm_s_dup, pm_s_getfield, pm_s_iadd, pm_s_iaload, pm_s_iconst, pm_s_if_icmp_lt, pm_s_invokevirtual, pm_s_ireturn, pm_s_laload, pm_s_putfield, ct_X1_goOn, pS, pR, pC, pE, pL, -Int32.not_le, -Int32.not_lt, -Int64.not_le, -Int64.not_lt, -List.getD_eq_getElem?_getD, lv_args, sx_11, m2, m3]
    simp (disch := omega) only [ni_in, ni_cl, ni_add, ni_mul, ni_sub, ni_lt, ni_le, ni_eq, ni_eq0, ni_lt0, ni_0le, ni_0lt, ni_le0, ni_a1, ni_a3, ni_a7, ni_a15]
    refine ⟨fun h => ?_, fun h => ?_⟩
    · refine hb13 _ _ _ ?_
      simp (maxSteps := 2000000) [bk_X1_goOn_0, bk_X1_goOn_13, pm_arr, pm_call, pm_e_c0, pm_e_c1, pm_e_cti, pm_e_ctl, pm_e_ctr, pm_e_go, pm_e_ii, pm_e_ldr, pm_e_lk, pm_e_r, pm_e_ri, pm_e_rm0, pm_e_rm1, pm_e_rs0, pm_e_rs1, pm_e_v1, pm_e_wp0, pm_e_wp1, pm_f2, pm_f3, pm_fld, pm_fv, pm_obj, pm_recv, pm_s_aload_n, pm_s_dup, pm_s_getfield, pm_s_iadd, pm_s_iaload, pm_s_iconst, pm_s_if_icmp_lt, pm_s_invokevirtual, pm_s_ireturn, pm_s_laload, pm_s_putfield, ct_X1_goOn, pS, pR, pC, pE, pL, -Int32.not_le, -Int32.not_lt, -Int64.not_le, -Int64.not_lt, -List.getD_eq_getElem?_getD, sx_11, sx_12, sx_13, sx_5, m2]
      have f1 : pm_fr [11] M (pm_set M 11 2 (nI (pr + 1))) := pm_fr.rfl.set (by simp)
      rw [ni_add]
      have e1 : (pm_set M 11 2 (nI (pr + 1))).1 11 2 = nI (pr + 1) := by simp [pm_set]
      have w := hk (pr + 1) (by omega)
      have e2 : (pm_set M 11 2 (nI (pr + 1))).1 13 (pr + 1) = nI (arN (H (pr + 1))) := by rw [f1.i (by simp)]; exact w.2
      simp (disch := omega) only [ni_in, ni_cl, ni_add, ni_mul, ni_sub, ni_lt, ni_le, ni_eq, ni_eq0, ni_lt0, ni_0le, ni_0lt, ni_le0, ni_a1, ni_a3, ni_a7, ni_a15, e1, me_2, w.1, e2]
      refine ⟨by omega, ?_⟩
      obtain ⟨wo, wi', wt, wa⟩ := hW (by omega) (pr + 1) (by omega)
      refine ⟨ec, H (pr + 1), P, Or.inl rfl, rfl, rfl, he, by rw [f1.i (by simp)]; exact hcc, hD.moved f1 (by decide), wo, wi', wt, wa, fun M1 q1 q2 => ?_⟩
      simp (maxSteps := 2000000) [bk_X1_goOn_0, bk_X1_goOn_13, pm_arr, pm_call, pm_e_c0, pm_e_c1, pm_e_cti, pm_e_ctl, pm_e_ctr, pm_e_go, pm_e_ii, pm_e_ldr, pm_e_lk, pm_e_r, pm_e_ri, pm_e_rm0, pm_e_rm1, pm_e_rs0, pm_e_rs1, pm_e_v1, pm_e_wp0, pm_e_wp1, pm_f2, pm_f3, pm_fld, pm_fv, pm_obj, pm_recv, pm_s_aload_n, pm_s_dup, pm_s_getfield, pm_s_iadd, pm_s_iaload, pm_s_iconst, pm_s_if_icmp_lt, pm_s_invokevirtual, pm_s_ireturn, pm_s_laload, pm_s_putfield, ct_X1_goOn, pS, pR, pC, pE, pL, -Int32.not_le, -Int32.not_lt, -Int64.not_le, -Int64.not_lt, -List.getD_eq_getElem?_getD]
      refine ⟨Or.inr rfl, hT1 (by omega) M1 ⟨by omega, l2, ?_, ?_, fun i hi => ?_⟩ q1 ?_⟩
      · rw [q2.i (by decide)]; exact e1
      · rw [q2.i (by decide)]; simpa [pm_set] using m3
      · have w2 := hk i hi
        rw [q2.l (by decide), q2.i (by decide), f1.i (by simp)]
        exact w2
      · exact (f1.mono (by simp)).trans (q2.mono (by decide))
    · exact ⟨Or.inl trivial, hT0 (by omega)⟩
  · exact hT.elim
