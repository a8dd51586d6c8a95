def Z0 (S : St) : Zs := (1, fun _ => S, fun _ => 0, fun _ => 0, fun _ => [], false)
theorem CZ.init {P : Pm} {ec : Nat} {S0 : St} {m : Nat} (hm : 1 ≤ m) (h0 : FW P ec S0) (hd : ¬ dnS P S0) : CZ P ec S0 m 1 0 1 0 0 (Z0 S0) := ⟨BJ.init hm h0 hd rfl rfl rfl, LX.init rfl rfl, rfl, fun k k1 k2 => by have : k < 1 := k2; omega⟩
def tt_X3_restart : pm_T := fun args M k => match args with
  | [.ref 28, .ref 5, .int x, .int y] => ∃ P ec e0 S0 m, x = nI ec ∧ y = nI m ∧ ec ≤ 2 ∧ 1 ≤ m ∧ m ≤ 4000 ∧ DkX M P ∧ SdX M 5 e0 S0 ∧ wfS P S0 ∧ ∀ M', SZ M' P m (Z0 S0) → SdX M' 32 ec S0 → pm_fr (10 :: frS) M M' → k none M'
  | _ => False
abbrev ct_X3_restart : List pm_C := [(true, 51, 0, 2, none, tt_J7_fill_fb410 SHx), (true, 57, 0, 2, (some .int), tt_J9_min_7cf53), (false, 69, 4, 1, (some .long), tt_X4_formKey), (false, 73, 4, 1, (some .int), tt_X4_arrangement), (false, 77, 4, 3, none, tt_X4_unpack), (false, 81, 3, 3, none, tt_X3_meet)]
set_option maxHeartbeats 4000000 in
theorem sm_X3_restart  : pm_Sem SHx yX3_restart cX3_restart 4 none 4 tt_X3_restart := by
  refine pm_Sem_intro bl_X3_restart ct_X3_restart cs_X3_restart rfl (List.forall_mem_cons.mpr ⟨⟨_, _, _, _, sm_J7_fill_fb410, by decide, cm_J7_fill_fb410, by decide +kernel⟩, List.forall_mem_cons.mpr ⟨⟨_, _, _, _, sm_J9_min_7cf53, by decide, cm_J9_min_7cf53, by decide +kernel⟩, List.forall_mem_cons.mpr ⟨⟨_, _, _, _, sm_X4_formKey, by decide, cm_X4_formKey, by decide +kernel⟩, List.forall_mem_cons.mpr ⟨⟨_, _, _, _, sm_X4_arrangement, by decide, cm_X4_arrangement, by decide +kernel⟩, List.forall_mem_cons.mpr ⟨⟨_, _, _, _, sm_X4_unpack, by decide, cm_X4_unpack, by decide +kernel⟩, List.forall_mem_cons.mpr ⟨⟨_, _, _, _, sm_X3_meet, by decide, cm_X3_meet, by decide +kernel⟩, fun _ h => absurd h List.not_mem_nil⟩⟩⟩⟩⟩⟩) ck_X3_restart (by decide +kernel) (by decide) ?_
  intro X k hX args M hT
  have hb0 := hX 0 bk_X3_restart_0 (List.mem_of_getElem? (i := 0) rfl)
  clear hX
  unfold tt_X3_restart at hT; split at hT
  · obtain ⟨P, ec, e0, S0, m, rfl, rfl, he, m1, m2, hD, hS, hw, hT⟩ := hT
    refine ⟨by simp [lg_sl, Value.category], ?_⟩
    refine hb0 _ _ _ ?_
    simp (maxSteps := 2000000) [bk_X3_restart_0, pm_call, pm_e_c0, pm_e_c1, pm_e_cti, pm_e_ctl, pm_e_ctr, pm_e_go, pm_e_ldi, pm_e_ldr, pm_e_lk, pm_e_r, pm_e_rm0, pm_e_rm1, pm_e_rs0, pm_e_rs1, pm_e_wp0, pm_e_wp1, pm_f2, pm_f3, pm_fld, pm_fv, pm_obj, pm_recv, pm_s_aload_n, pm_s_getfield, pm_s_iconst, pm_s_iload_n, pm_s_invokestatic, pm_s_invokevirtual, pm_s_putfield, pm_s_return, pm_s_sipush, ct_X3_restart, tt_J9_min_7cf53, pS, pR, pC, pE, pL, -Int32.not_le, -Int32.not_lt, -Int64.not_le, -Int64.not_lt, -List.getD_eq_getElem?_getD, lv_args, sx_28, sx_31, sx_32, sx_5]
    refine ⟨1024, sx_31, by decide, by decide, ?_⟩
    simp (maxSteps := 2000000) [bk_X3_restart_0, pm_call, pm_e_c0, pm_e_c1, pm_e_cti, pm_e_ctl, pm_e_ctr, pm_e_go, pm_e_ldi, pm_e_ldr, pm_e_lk, pm_e_r, pm_e_rm0, pm_e_rm1, pm_e_rs0, pm_e_rs1, pm_e_wp0, pm_e_wp1, pm_f2, pm_f3, pm_fld, pm_fv, pm_obj, pm_recv, pm_s_aload_n, pm_s_getfield, pm_s_iconst, pm_s_iload_n, pm_s_invokestatic, pm_s_invokevirtual, pm_s_putfield, pm_s_return, pm_s_sipush, ct_X3_restart, tt_J9_min_7cf53, pS, pR, pC, pE, pL, -Int32.not_le, -Int32.not_lt, -Int64.not_le, -Int64.not_lt, -List.getD_eq_getElem?_getD, sx_28, sx_32, sx_5]
    rw [mnF_n (by omega) (by omega), Nat.min_eq_left m2]
    have g1 : pm_fr [28, 31, 32] M (pm_set (pm_set (pm_set (pm_set (pm_fill M 31 1024 (nI 0)) 28 4 (nI 0)) 28 5 (nI m)) 28 6 (nI 0)) 32 6 (nI ec)) := ((((pm_fr.rfl.fill (by decide)).set (by decide)).set (by decide)).set (by decide)).set (by decide)
    have k1 : (pm_set (pm_set (pm_set (pm_set (pm_fill M 31 1024 (nI 0)) 28 4 (nI 0)) 28 5 (nI m)) 28 6 (nI 0)) 32 6 (nI ec)).1 32 6 = nI ec := by simp [pm_set]
    have k2 : SrX (pm_set (pm_set (pm_set (pm_set (pm_fill M 31 1024 (nI 0)) 28 4 (nI 0)) 28 5 (nI m)) 28 6 (nI 0)) 32 6 (nI ec)) P m 0 (fun _ => S0) (fun _ => 0) (fun _ => 0) false := by
      refine ⟨⟨by omega, m2⟩, ⟨by simp [pm_set], by simp [pm_set], by simp [pm_set, pb_f, ni_0]⟩, fun i hi => by omega, fun _ => 0, fun _ => 0, fun i hi => by omega, fun c hc => ⟨?_, Nat.le_refl _⟩, fun i hi => by omega⟩
      simp [pm_set, pm_fill, hc]
    generalize pm_set (pm_set (pm_set (pm_set (pm_fill M 31 1024 (nI 0)) 28 4 (nI 0)) 28 5 (nI m)) 28 6 (nI 0)) 32 6 (nI ec) = MA at *
    have hSA := hS.moved g1 (by decide)
    have hDA := hD.moved g1 (by decide)
    refine ⟨Or.inl rfl, e0, S0, Or.inl rfl, hSA, hw.2.2.1, fun M1 f1 => ?_⟩
    have f1' : pm_fr [10] MA M1 := f1
    simp (maxSteps := 2000000) [bk_X3_restart_0, pm_call, pm_e_c0, pm_e_c1, pm_e_cti, pm_e_ctl, pm_e_ctr, pm_e_go, pm_e_ldi, pm_e_ldr, pm_e_lk, pm_e_r, pm_e_rm0, pm_e_rm1, pm_e_rs0, pm_e_rs1, pm_e_wp0, pm_e_wp1, pm_f2, pm_f3, pm_fld, pm_fv, pm_obj, pm_recv, pm_s_aload_n, pm_s_getfield, pm_s_iconst, pm_s_iload_n, pm_s_invokestatic, pm_s_invokevirtual, pm_s_putfield, pm_s_return, pm_s_sipush, ct_X3_restart, tt_J9_min_7cf53, pS, pR, pC, pE, pL, -Int32.not_le, -Int32.not_lt, -Int64.not_le, -Int64.not_lt, -List.getD_eq_getElem?_getD, sx_28, sx_32, sx_5]
    refine ⟨e0, S0, Or.inl rfl, hSA.m5 f1, fun M2 f2 => ?_⟩
    have f2' : pm_fr [10] M1 M2 := f2
    have f12 := f1'.trans f2'
    simp (maxSteps := 2000000) [bk_X3_restart_0, pm_call, pm_e_c0, pm_e_c1, pm_e_cti, pm_e_ctl, pm_e_ctr, pm_e_go, pm_e_ldi, pm_e_ldr, pm_e_lk, pm_e_r, pm_e_rm0, pm_e_rm1, pm_e_rs0, pm_e_rs1, pm_e_wp0, pm_e_wp1, pm_f2, pm_f3, pm_fld, pm_fv, pm_obj, pm_recv, pm_s_aload_n, pm_s_getfield, pm_s_iconst, pm_s_iload_n, pm_s_invokestatic, pm_s_invokevirtual, pm_s_putfield, pm_s_return, pm_s_sipush, ct_X3_restart, tt_J9_min_7cf53, pS, pR, pC, pE, pL, -Int32.not_le, -Int32.not_lt, -Int64.not_le, -Int64.not_lt, -List.getD_eq_getElem?_getD, sx_28, sx_32, sx_5]
    refine ⟨ec, S0, P, Or.inr rfl, rfl, rfl, he, by rw [f12.i (by decide)]; exact k1, hDA.moved f12 (by decide), hw.1, hw.2.1, hw.2.2.1, hw.2.2.2, fun M3 q3 f3 => ?_⟩
    have f3' : pm_fr [32, 33, 34, 35, 36, 37] M2 M3 := f3
    simp (maxSteps := 2000000) [bk_X3_restart_0, pm_call, pm_e_c0, pm_e_c1, pm_e_cti, pm_e_ctl, pm_e_ctr, pm_e_go, pm_e_ldi, pm_e_ldr, pm_e_lk, pm_e_r, pm_e_rm0, pm_e_rm1, pm_e_rs0, pm_e_rs1, pm_e_wp0, pm_e_wp1, pm_f2, pm_f3, pm_fld, pm_fv, pm_obj, pm_recv, pm_s_aload_n, pm_s_getfield, pm_s_iconst, pm_s_iload_n, pm_s_invokestatic, pm_s_invokevirtual, pm_s_putfield, pm_s_return, pm_s_sipush, ct_X3_restart, tt_J9_min_7cf53, pS, pR, pC, pE, pL, -Int32.not_le, -Int32.not_lt, -Int64.not_le, -Int64.not_lt, -List.getD_eq_getElem?_getD, sx_28]
    refine ⟨P, m, 0, fun _ => S0, fun _ => 0, fun _ => 0, false, ec, S0, 0, 0, rfl, rfl, by decide, by decide, (k2.mv f12 (by decide)).mv f3' (by decide), q3, hw, fun h => absurd h (by simp [metF, anyN]), fun _ h => by omega, fun _ _ M4 q4 f4 => ?_⟩
    simp (maxSteps := 2000000) [bk_X3_restart_0, pm_call, pm_e_c0, pm_e_c1, pm_e_cti, pm_e_ctl, pm_e_ctr, pm_e_go, pm_e_ldi, pm_e_ldr, pm_e_lk, pm_e_r, pm_e_rm0, pm_e_rm1, pm_e_rs0, pm_e_rs1, pm_e_wp0, pm_e_wp1, pm_f2, pm_f3, pm_fld, pm_fv, pm_obj, pm_recv, pm_s_aload_n, pm_s_getfield, pm_s_iconst, pm_s_iload_n, pm_s_invokestatic, pm_s_invokevirtual, pm_s_putfield, pm_s_return, pm_s_sipush, ct_X3_restart, tt_J9_min_7cf53, pS, pR, pC, pE, pL, -Int32.not_le, -Int32.not_lt, -Int64.not_le, -Int64.not_lt, -List.getD_eq_getElem?_getD]
    refine hT M4 ?_ (q3.mv f4 (by decide)) ((((g1.mono (by decide)).trans (f12.mono (by decide))).trans (f3'.mono (by decide))).trans (f4.mono (by decide)))
    have e1 : up (fun _ : Nat => S0) 0 S0 = fun _ => S0 := by funext j; by_cases z : j = 0 <;> simp [up, z]
    have e2 : up (fun _ : Nat => (0 : Nat)) 0 0 = fun _ => 0 := by funext j; by_cases z : j = 0 <;> simp [up, z]
    rw [e1, e2] at q4
    exact q4
  · exact hT.elim
/-- what the search left of the row l that it found -/
def PT (M : pm_M) (P : Pm) (l : List Nat) : Prop := ∃ m Z i c, SZ M P m Z ∧ i < zn Z ∧ M.1 28 7 = nI i ∧ M.1 28 8 = nI c ∧ c < 64 ∧ l = zw Z i ++ [c] ∧ zw Z 0 = [] ∧ ∀ k, 0 < k → k < zn Z → zw Z k = zw Z (zp Z k) ++ [zm Z k] ∧ zp Z k < k
def tt_X3_fewestMoves : pm_T := fun args M k => match args with
  | [.ref 28, .ref 5, .int x, .int y] => ∃ P ec e0 S0 m, x = nI ec ∧ y = nI m ∧ ec ≤ 2 ∧ 1 ≤ m ∧ m ≤ 4000 ∧ DkX M P ∧ SdX M 5 e0 S0 ∧ FW P ec S0 ∧
      (dnS P S0 → k (some (.int (nI 0))) M) ∧
      (¬ dnS P S0 → ∀ M' d l, solD P ec S0 m d → isPl P ec S0 l → l.length = d → d ≤ 4000 → PT M' P l → pm_fr (10 :: frS) M M' → k (some (.int (nI d))) M') ∧
      (¬ dnS P S0 → ∀ M', solN P ec S0 m → pm_fr (10 :: frS) M M' → k (some (.int (-nI 1))) M') ∧
      (¬ dnS P S0 → ∀ M', solX P ec S0 m → pm_fr (10 :: frS) M M' → k (some (.int (-nI 3))) M')
  | _ => False
abbrev ct_X3_fewestMoves : List pm_C := [(false, 31, 4, 1, (some .boolean), tt_X4_isDone), (false, 35, 3, 4, none, tt_X3_restart), (false, 43, 3, 2, (some .boolean), tt_X3_leadsToEnd)]
set_option maxHeartbeats 4000000 in
theorem sm_X3_fewestMoves  : pm_Sem SHx yX3_fewestMoves cX3_fewestMoves 7 (some .int) 6 tt_X3_fewestMoves := by
  refine pm_Sem_intro bl_X3_fewestMoves ct_X3_fewestMoves cs_X3_fewestMoves rfl (List.forall_mem_cons.mpr ⟨⟨_, _, _, _, sm_X4_isDone, by decide, cm_X4_isDone, by decide +kernel⟩, List.forall_mem_cons.mpr ⟨⟨_, _, _, _, sm_X3_restart, by decide, cm_X3_restart, by decide +kernel⟩, List.forall_mem_cons.mpr ⟨⟨_, _, _, _, sm_X3_leadsToEnd, by decide, cm_X3_leadsToEnd, by decide +kernel⟩, fun _ h => absurd h List.not_mem_nil⟩⟩⟩) ck_X3_fewestMoves (by decide +kernel) (by decide) ?_
  intro X k hX args M hT
  have hb0 := hX 0 bk_X3_fewestMoves_0 (List.mem_of_getElem? (i := 0) rfl)
  have hb9 := hX 9 bk_X3_fewestMoves_9 (List.mem_of_getElem? (i := 1) rfl)
  have hb22 := hX 22 bk_X3_fewestMoves_22 (List.mem_of_getElem? (i := 2) rfl)
  have hb36 := hX 36 bk_X3_fewestMoves_36 (List.mem_of_getElem? (i := 3) rfl)
  have hb55 := hX 55 bk_X3_fewestMoves_55 (List.mem_of_getElem? (i := 4) rfl)
  have hb61 := hX 61 bk_X3_fewestMoves_61 (List.mem_of_getElem? (i := 5) rfl)
  have hb71 := hX 71 bk_X3_fewestMoves_71 (List.mem_of_getElem? (i := 6) rfl)
  have hb82 := hX 82 bk_X3_fewestMoves_82 (List.mem_of_getElem? (i := 7) rfl)
  have hb88 := hX 88 bk_X3_fewestMoves_88 (List.mem_of_getElem? (i := 8) rfl)
  clear hX
  unfold tt_X3_fewestMoves at hT; split at hT
  · obtain ⟨P, ec, e0, S0, m, rfl, rfl, he, m1, m2, hD, hS, h0, hT0, hT1, hT2, hT3⟩ := hT
    have hP := hD.1.1
    refine ⟨by simp [lg_sl, Value.category], ?_⟩
    refine hb0 _ _ _ ?_
    simp (maxSteps := 2000000) [bk_X3_fewestMoves_0, bk_X3_fewestMoves_9, bk_X3_fewestMoves_22, bk_X3_fewestMoves_36, bk_X3_fewestMoves_55, bk_X3_fewestMoves_61, bk_X3_fewestMoves_71, bk_X3_fewestMoves_82, bk_X3_fewestMoves_88, pm_call, pm_e_c0, pm_e_c1, pm_e_cti, pm_e_ctl, pm_e_ctr, pm_e_go, pm_e_i, pm_e_ii, pm_e_ldi, pm_e_ldr, pm_e_lk, pm_e_r, pm_e_rm0, pm_e_rm1, pm_e_rs0, pm_e_rs1, pm_e_wp0, pm_e_wp1, pm_f2, pm_f3, pm_fld, pm_fv, pm_obj, pm_recv, pm_s_aload_n, pm_s_bipush, pm_s_getfield, pm_s_goto, pm_s_iconst, pm_s_ifCond_eq, pm_s_if_icmp_ge, pm_s_if_icmp_gt, pm_s_if_icmp_ne, pm_s_iinc, pm_s_iload, pm_s_iload_n, pm_s_invokevirtual, pm_s_ireturn, pm_s_istore, pm_s_sipush, ct_X3_fewestMoves, pS, pR, pC, pE, pL, -Int32.not_le, -Int32.not_lt, -Int64.not_le, -Int64.not_lt, -List.getD_eq_getElem?_getD, lv_args, sx_5]
    refine ⟨e0, S0, P, Or.inl rfl, hS, hD, ?_⟩
    simp (maxSteps := 2000000) [bk_X3_fewestMoves_0, bk_X3_fewestMoves_9, bk_X3_fewestMoves_22, bk_X3_fewestMoves_36, bk_X3_fewestMoves_55, bk_X3_fewestMoves_61, bk_X3_fewestMoves_71, bk_X3_fewestMoves_82, bk_X3_fewestMoves_88, pm_call, pm_e_c0, pm_e_c1, pm_e_cti, pm_e_ctl, pm_e_ctr, pm_e_go, pm_e_i, pm_e_ii, pm_e_ldi, pm_e_ldr, pm_e_lk, pm_e_r, pm_e_rm0, pm_e_rm1, pm_e_rs0, pm_e_rs1, pm_e_wp0, pm_e_wp1, pm_f2, pm_f3, pm_fld, pm_fv, pm_obj, pm_recv, pm_s_aload_n, pm_s_bipush, pm_s_getfield, pm_s_goto, pm_s_iconst, pm_s_ifCond_eq, pm_s_if_icmp_ge, pm_s_if_icmp_gt, pm_s_if_icmp_ne, pm_s_iinc, pm_s_iload, pm_s_iload_n, pm_s_invokevirtual, pm_s_ireturn, pm_s_istore, pm_s_sipush, ct_X3_fewestMoves, pS, pR, pC, pE, pL, -Int32.not_le, -Int32.not_lt, -Int64.not_le, -Int64.not_lt, -List.getD_eq_getElem?_getD, pb_eq0]
    refine ⟨fun hn => ?_, fun hd => hT0 hd⟩
    have hnd : ¬ dnS P S0 := hn
    replace hT1 := hT1 hnd
    replace hT2 := hT2 hnd
    replace hT3 := hT3 hnd
    refine hb9 _ _ _ ?_
    simp (maxSteps := 2000000) [bk_X3_fewestMoves_0, bk_X3_fewestMoves_9, bk_X3_fewestMoves_22, bk_X3_fewestMoves_36, bk_X3_fewestMoves_55, bk_X3_fewestMoves_61, bk_X3_fewestMoves_71, bk_X3_fewestMoves_82, bk_X3_fewestMoves_88, pm_call, pm_e_c0, pm_e_c1, pm_e_cti, pm_e_ctl, pm_e_ctr, pm_e_go, pm_e_i, pm_e_ii, pm_e_ldi, pm_e_ldr, pm_e_lk, pm_e_r, pm_e_rm0, pm_e_rm1, pm_e_rs0, pm_e_rs1, pm_e_wp0, pm_e_wp1, pm_f2, pm_f3, pm_fld, pm_fv, pm_obj, pm_recv, pm_s_aload_n, pm_s_bipush, pm_s_getfield, pm_s_goto, pm_s_iconst, pm_s_ifCond_eq, pm_s_if_icmp_ge, pm_s_if_icmp_gt, pm_s_if_icmp_ne, pm_s_iinc, pm_s_iload, pm_s_iload_n, pm_s_invokevirtual, pm_s_ireturn, pm_s_istore, pm_s_sipush, ct_X3_fewestMoves, pS, pR, pC, pE, pL, -Int32.not_le, -Int32.not_lt, -Int64.not_le, -Int64.not_lt, -List.getD_eq_getElem?_getD, sx_28]
    refine ⟨P, ec, e0, S0, m, rfl, rfl, he, m1, m2, hD, hS, WF.wfK hP h0 (fun _ _ _ => rfl), fun M1 q1 q2 f1 => ?_⟩
    simp (maxSteps := 2000000) [bk_X3_fewestMoves_0, bk_X3_fewestMoves_9, bk_X3_fewestMoves_22, bk_X3_fewestMoves_36, bk_X3_fewestMoves_55, bk_X3_fewestMoves_61, bk_X3_fewestMoves_71, bk_X3_fewestMoves_82, bk_X3_fewestMoves_88, pm_call, pm_e_c0, pm_e_c1, pm_e_cti, pm_e_ctl, pm_e_ctr, pm_e_go, pm_e_i, pm_e_ii, pm_e_ldi, pm_e_ldr, pm_e_lk, pm_e_r, pm_e_rm0, pm_e_rm1, pm_e_rs0, pm_e_rs1, pm_e_wp0, pm_e_wp1, pm_f2, pm_f3, pm_fld, pm_fv, pm_obj, pm_recv, pm_s_aload_n, pm_s_bipush, pm_s_getfield, pm_s_goto, pm_s_iconst, pm_s_ifCond_eq, pm_s_if_icmp_ge, pm_s_if_icmp_gt, pm_s_if_icmp_ne, pm_s_iinc, pm_s_iload, pm_s_iload_n, pm_s_invokevirtual, pm_s_ireturn, pm_s_istore, pm_s_sipush, ct_X3_fewestMoves, pS, pR, pC, pE, pL, -Int32.not_le, -Int32.not_lt, -Int64.not_le, -Int64.not_lt, -List.getD_eq_getElem?_getD]
    have loop : ∀ (f d lo : Nat) (M' : pm_M) (Z : Zs), 4001 ≤ d + f → CZ P ec S0 m d lo (zn Z) lo 0 Z → zs Z = false → d ≤ zn Z → SZ M' P m Z → M'.1 32 6 = nI ec → DkX M' P → pm_fr (10 :: frS) M M' → X 22 [(0, .ref 28), (4, .int (nI lo)), (5, .int (nI d))] [] M' := by
      intro f
      induction f with
      | zero =>
        intro d lo M' Z f1 hC
        have := hC.1.1
        omega
      | succ f ih =>
        intro d lo M' Z f1 hC hs hdn hZ hcc hD' hf
        have ha := hC.1.1
        have m4 := hZ.2.1.1
        -- over the stands of a level
        have inner : ∀ (g i : Nat) (M' : pm_M) (Z' : Zs) (hi : Nat), hi ≤ i + g → CZ P ec S0 m d lo hi i 0 Z' → d ≤ hi → SZ M' P m Z' → M'.1 32 6 = nI ec → DkX M' P → pm_fr (10 :: frS) M M' → X 36 [(0, .ref 28), (4, .int (nI i)), (5, .int (nI d)), (6, .int (nI hi))] [] M' := by
          intro g
          have out : ∀ (M' : pm_M) (Z' : Zs) (hi : Nat), CZ P ec S0 m d lo hi hi 0 Z' → d ≤ hi → SZ M' P m Z' → M'.1 32 6 = nI ec → DkX M' P → pm_fr (10 :: frS) M M' → X 61 [(0, .ref 28), (4, .int (nI hi)), (5, .int (nI d)), (6, .int (nI hi))] [] M' := by
            intro M' Z' hi r1 r2 r3 r4 r5 r6
            have ra := r1.1.1
            have n4 := r3.2.1.1
            have n6 := r3.2.1.2.2
            refine hb61 _ _ _ ?_
            simp (maxSteps := 2000000) [bk_X3_fewestMoves_0, bk_X3_fewestMoves_9, bk_X3_fewestMoves_22, bk_X3_fewestMoves_36, bk_X3_fewestMoves_55, bk_X3_fewestMoves_61, bk_X3_fewestMoves_71, bk_X3_fewestMoves_82, bk_X3_fewestMoves_88, pm_call, pm_e_c0, pm_e_c1, pm_e_cti, pm_e_ctl, pm_e_ctr, pm_e_go, pm_e_i, pm_e_ii, pm_e_ldi, pm_e_ldr, pm_e_lk, pm_e_r, pm_e_rm0, pm_e_rm1, pm_e_rs0, pm_e_rs1, pm_e_wp0, pm_e_wp1, pm_f2, pm_f3, pm_fld, pm_fv, pm_obj, pm_recv, pm_s_aload_n, pm_s_bipush, pm_s_getfield, pm_s_goto, pm_s_iconst, pm_s_ifCond_eq, pm_s_if_icmp_ge, pm_s_if_icmp_gt, pm_s_if_icmp_ne, pm_s_iinc, pm_s_iload, pm_s_iload_n, pm_s_invokevirtual, pm_s_ireturn, pm_s_istore, pm_s_sipush, ct_X3_fewestMoves, pS, pR, pC, pE, pL, -Int32.not_le, -Int32.not_lt, -Int64.not_le, -Int64.not_lt, -List.getD_eq_getElem?_getD, sx_28, n6, pb_eq0]
            refine ⟨fun hsf => ?_, fun hst => ?_⟩
            · refine hb71 _ _ _ ?_
              simp (maxSteps := 2000000) [bk_X3_fewestMoves_0, bk_X3_fewestMoves_9, bk_X3_fewestMoves_22, bk_X3_fewestMoves_36, bk_X3_fewestMoves_55, bk_X3_fewestMoves_61, bk_X3_fewestMoves_71, bk_X3_fewestMoves_82, bk_X3_fewestMoves_88, pm_call, pm_e_c0, pm_e_c1, pm_e_cti, pm_e_ctl, pm_e_ctr, pm_e_go, pm_e_i, pm_e_ii, pm_e_ldi, pm_e_ldr, pm_e_lk, pm_e_r, pm_e_rm0, pm_e_rm1, pm_e_rs0, pm_e_rs1, pm_e_wp0, pm_e_wp1, pm_f2, pm_f3, pm_fld, pm_fv, pm_obj, pm_recv, pm_s_aload_n, pm_s_bipush, pm_s_getfield, pm_s_goto, pm_s_iconst, pm_s_ifCond_eq, pm_s_if_icmp_ge, pm_s_if_icmp_gt, pm_s_if_icmp_ne, pm_s_iinc, pm_s_iload, pm_s_iload_n, pm_s_invokevirtual, pm_s_ireturn, pm_s_istore, pm_s_sipush, ct_X3_fewestMoves, pS, pR, pC, pE, pL, -Int32.not_le, -Int32.not_lt, -Int64.not_le, -Int64.not_lt, -List.getD_eq_getElem?_getD, sx_28, n4]
              simp (disch := omega) only [ni_in, ni_cl, ni_add, ni_mul, ni_sub, ni_lt, ni_le, ni_eq, ni_eq0, ni_lt0, ni_0le, ni_0lt, ni_le0, ni_a1, ni_a3, ni_a7, ni_a15]
              refine ⟨fun hne => ?_, fun heq => ?_⟩
              · refine hb82 _ _ _ ?_
                simp (maxSteps := 2000000) [bk_X3_fewestMoves_0, bk_X3_fewestMoves_9, bk_X3_fewestMoves_22, bk_X3_fewestMoves_36, bk_X3_fewestMoves_55, bk_X3_fewestMoves_61, bk_X3_fewestMoves_71, bk_X3_fewestMoves_82, bk_X3_fewestMoves_88, pm_call, pm_e_c0, pm_e_c1, pm_e_cti, pm_e_ctl, pm_e_ctr, pm_e_go, pm_e_i, pm_e_ii, pm_e_ldi, pm_e_ldr, pm_e_lk, pm_e_r, pm_e_rm0, pm_e_rm1, pm_e_rs0, pm_e_rs1, pm_e_wp0, pm_e_wp1, pm_f2, pm_f3, pm_fld, pm_fv, pm_obj, pm_recv, pm_s_aload_n, pm_s_bipush, pm_s_getfield, pm_s_goto, pm_s_iconst, pm_s_ifCond_eq, pm_s_if_icmp_ge, pm_s_if_icmp_gt, pm_s_if_icmp_ne, pm_s_iinc, pm_s_iload, pm_s_iload_n, pm_s_invokevirtual, pm_s_ireturn, pm_s_istore, pm_s_sipush, ct_X3_fewestMoves, pS, pR, pC, pE, pL, -Int32.not_le, -Int32.not_lt, -Int64.not_le, -Int64.not_lt, -List.getD_eq_getElem?_getD]
                rw [ni_add]
                exact ih (d + 1) hi M' Z' (by omega) (r1.level hP he h0 hsf) hsf (by omega) r3 r4 r5 r6
              · refine hT2 M' ?_ r6
                have hB := r1.1
                rw [hsf] at hB
                have hB' : BJ P ec S0 m d lo hi hi 0 hi (zR Z') (fun j => (zw Z' j).length) false := by
                  have e : zn Z' = hi := heq
                  rw [e] at hB; exact hB
                exact hB'.none hP he h0
            · refine hT3 M' ?_ r6
              have hB := r1.1
              rw [hst] at hB
              exact hB.spent hP he h0
          induction g with
          | zero =>
            intro i M' Z' hi g1 r1 r2 r3 r4 r5 r6
            have ra := r1.1.1
            have e1 : i = hi := by omega
            subst e1
            refine hb36 _ _ _ ?_
            simp (maxSteps := 2000000) [bk_X3_fewestMoves_0, bk_X3_fewestMoves_9, bk_X3_fewestMoves_22, bk_X3_fewestMoves_36, bk_X3_fewestMoves_55, bk_X3_fewestMoves_61, bk_X3_fewestMoves_71, bk_X3_fewestMoves_82, bk_X3_fewestMoves_88, pm_call, pm_e_c0, pm_e_c1, pm_e_cti, pm_e_ctl, pm_e_ctr, pm_e_go, pm_e_i, pm_e_ii, pm_e_ldi, pm_e_ldr, pm_e_lk, pm_e_r, pm_e_rm0, pm_e_rm1, pm_e_rs0, pm_e_rs1, pm_e_wp0, pm_e_wp1, pm_f2, pm_f3, pm_fld, pm_fv, pm_obj, pm_recv, pm_s_aload_n, pm_s_bipush, pm_s_getfield, pm_s_goto, pm_s_iconst, pm_s_ifCond_eq, pm_s_if_icmp_ge, pm_s_if_icmp_gt, pm_s_if_icmp_ne, pm_s_iinc, pm_s_iload, pm_s_iload_n, pm_s_invokevirtual, pm_s_ireturn, pm_s_istore, pm_s_sipush, ct_X3_fewestMoves, pS, pR, pC, pE, pL, -Int32.not_le, -Int32.not_lt, -Int64.not_le, -Int64.not_lt, -List.getD_eq_getElem?_getD]
            exact out M' Z' i r1 r2 r3 r4 r5 r6
          | succ g ihg =>
            intro i M' Z' hi g1 r1 r2 r3 r4 r5 r6
            have ra := r1.1.1
            by_cases hh : i < hi
            · refine hb36 _ _ _ ?_
              simp (maxSteps := 2000000) [bk_X3_fewestMoves_0, bk_X3_fewestMoves_9, bk_X3_fewestMoves_22, bk_X3_fewestMoves_36, bk_X3_fewestMoves_55, bk_X3_fewestMoves_61, bk_X3_fewestMoves_71, bk_X3_fewestMoves_82, bk_X3_fewestMoves_88, pm_call, pm_e_c0, pm_e_c1, pm_e_cti, pm_e_ctl, pm_e_ctr, pm_e_go, pm_e_i, pm_e_ii, pm_e_ldi, pm_e_ldr, pm_e_lk, pm_e_r, pm_e_rm0, pm_e_rm1, pm_e_rs0, pm_e_rs1, pm_e_wp0, pm_e_wp1, pm_f2, pm_f3, pm_fld, pm_fv, pm_obj, pm_recv, pm_s_aload_n, pm_s_bipush, pm_s_getfield, pm_s_goto, pm_s_iconst, pm_s_ifCond_eq, pm_s_if_icmp_ge, pm_s_if_icmp_gt, pm_s_if_icmp_ne, pm_s_iinc, pm_s_iload, pm_s_iload_n, pm_s_invokevirtual, pm_s_ireturn, pm_s_istore, pm_s_sipush, ct_X3_fewestMoves, pS, pR, pC, pE, pL, -Int32.not_le, -Int32.not_lt, -Int64.not_le, -Int64.not_lt, -List.getD_eq_getElem?_getD, sx_28]
              simp (disch := omega) only [ni_in, ni_cl, ni_add, ni_mul, ni_sub, ni_lt, ni_le, ni_eq, ni_eq0, ni_lt0, ni_0le, ni_0lt, ni_le0, ni_a1, ni_a3, ni_a7, ni_a15]
              refine ⟨fun h => by omega, fun _ => ?_⟩
              refine ⟨P, ec, S0, m, d, lo, hi, i, Z', rfl, hP, he, h0, r1, r3, r5, r4, hh, fun M2 Z2 c s1 s2 s3 s4 s5 s6 s7 => ?_, fun M2 Z2 s1 s2 s3 s4 => ?_⟩
              · simp (maxSteps := 2000000) [bk_X3_fewestMoves_0, bk_X3_fewestMoves_9, bk_X3_fewestMoves_22, bk_X3_fewestMoves_36, bk_X3_fewestMoves_55, bk_X3_fewestMoves_61, bk_X3_fewestMoves_71, bk_X3_fewestMoves_82, bk_X3_fewestMoves_88, pm_call, pm_e_c0, pm_e_c1, pm_e_cti, pm_e_ctl, pm_e_ctr, pm_e_go, pm_e_i, pm_e_ii, pm_e_ldi, pm_e_ldr, pm_e_lk, pm_e_r, pm_e_rm0, pm_e_rm1, pm_e_rs0, pm_e_rs1, pm_e_wp0, pm_e_wp1, pm_f2, pm_f3, pm_fld, pm_fv, pm_obj, pm_recv, pm_s_aload_n, pm_s_bipush, pm_s_getfield, pm_s_goto, pm_s_iconst, pm_s_ifCond_eq, pm_s_if_icmp_ge, pm_s_if_icmp_gt, pm_s_if_icmp_ne, pm_s_iinc, pm_s_iload, pm_s_iload_n, pm_s_invokevirtual, pm_s_ireturn, pm_s_istore, pm_s_sipush, ct_X3_fewestMoves, pS, pR, pC, pE, pL, -Int32.not_le, -Int32.not_lt, -Int64.not_le, -Int64.not_lt, -List.getD_eq_getElem?_getD]
                refine ⟨fun h => absurd h (by decide), fun _ => ?_⟩
                have hL := s1.2.1.found hP he h0 s1.1 hh s3 s4
                have sa := s1.1.1
                exact hT1 M2 d (zw Z2 i ++ [c]) (s1.1.found hP he h0 hh s3 s4) hL.1 hL.2 (by omega) ⟨m, Z2, i, c, s2, by omega, s5, s6, by have := can_c48 hP he s3; omega, rfl, s1.2.2.1, s1.2.2.2⟩ (r6.trans (s7.mono (by decide)))
              · simp (maxSteps := 2000000) [bk_X3_fewestMoves_0, bk_X3_fewestMoves_9, bk_X3_fewestMoves_22, bk_X3_fewestMoves_36, bk_X3_fewestMoves_55, bk_X3_fewestMoves_61, bk_X3_fewestMoves_71, bk_X3_fewestMoves_82, bk_X3_fewestMoves_88, pm_call, pm_e_c0, pm_e_c1, pm_e_cti, pm_e_ctl, pm_e_ctr, pm_e_go, pm_e_i, pm_e_ii, pm_e_ldi, pm_e_ldr, pm_e_lk, pm_e_r, pm_e_rm0, pm_e_rm1, pm_e_rs0, pm_e_rs1, pm_e_wp0, pm_e_wp1, pm_f2, pm_f3, pm_fld, pm_fv, pm_obj, pm_recv, pm_s_aload_n, pm_s_bipush, pm_s_getfield, pm_s_goto, pm_s_iconst, pm_s_ifCond_eq, pm_s_if_icmp_ge, pm_s_if_icmp_gt, pm_s_if_icmp_ne, pm_s_iinc, pm_s_iload, pm_s_iload_n, pm_s_invokevirtual, pm_s_ireturn, pm_s_istore, pm_s_sipush, ct_X3_fewestMoves, pS, pR, pC, pE, pL, -Int32.not_le, -Int32.not_lt, -Int64.not_le, -Int64.not_lt, -List.getD_eq_getElem?_getD]
                refine ⟨fun _ => ?_, fun h => absurd rfl h⟩
                refine hb55 _ _ _ ?_
                simp (maxSteps := 2000000) [bk_X3_fewestMoves_0, bk_X3_fewestMoves_9, bk_X3_fewestMoves_22, bk_X3_fewestMoves_36, bk_X3_fewestMoves_55, bk_X3_fewestMoves_61, bk_X3_fewestMoves_71, bk_X3_fewestMoves_82, bk_X3_fewestMoves_88, pm_call, pm_e_c0, pm_e_c1, pm_e_cti, pm_e_ctl, pm_e_ctr, pm_e_go, pm_e_i, pm_e_ii, pm_e_ldi, pm_e_ldr, pm_e_lk, pm_e_r, pm_e_rm0, pm_e_rm1, pm_e_rs0, pm_e_rs1, pm_e_wp0, pm_e_wp1, pm_f2, pm_f3, pm_fld, pm_fv, pm_obj, pm_recv, pm_s_aload_n, pm_s_bipush, pm_s_getfield, pm_s_goto, pm_s_iconst, pm_s_ifCond_eq, pm_s_if_icmp_ge, pm_s_if_icmp_gt, pm_s_if_icmp_ne, pm_s_iinc, pm_s_iload, pm_s_iload_n, pm_s_invokevirtual, pm_s_ireturn, pm_s_istore, pm_s_sipush, ct_X3_fewestMoves, pS, pR, pC, pE, pL, -Int32.not_le, -Int32.not_lt, -Int64.not_le, -Int64.not_lt, -List.getD_eq_getElem?_getD]
                rw [ni_add]
                exact ihg (i + 1) M2 Z2 hi (by omega) s1 r2 s2 s3 (r5.moved s4 (by decide)) (r6.trans (s4.mono (by decide)))
            · have e1 : i = hi := by omega
              subst e1
              refine hb36 _ _ _ ?_
              simp (maxSteps := 2000000) [bk_X3_fewestMoves_0, bk_X3_fewestMoves_9, bk_X3_fewestMoves_22, bk_X3_fewestMoves_36, bk_X3_fewestMoves_55, bk_X3_fewestMoves_61, bk_X3_fewestMoves_71, bk_X3_fewestMoves_82, bk_X3_fewestMoves_88, pm_call, pm_e_c0, pm_e_c1, pm_e_cti, pm_e_ctl, pm_e_ctr, pm_e_go, pm_e_i, pm_e_ii, pm_e_ldi, pm_e_ldr, pm_e_lk, pm_e_r, pm_e_rm0, pm_e_rm1, pm_e_rs0, pm_e_rs1, pm_e_wp0, pm_e_wp1, pm_f2, pm_f3, pm_fld, pm_fv, pm_obj, pm_recv, pm_s_aload_n, pm_s_bipush, pm_s_getfield, pm_s_goto, pm_s_iconst, pm_s_ifCond_eq, pm_s_if_icmp_ge, pm_s_if_icmp_gt, pm_s_if_icmp_ne, pm_s_iinc, pm_s_iload, pm_s_iload_n, pm_s_invokevirtual, pm_s_ireturn, pm_s_istore, pm_s_sipush, ct_X3_fewestMoves, pS, pR, pC, pE, pL, -Int32.not_le, -Int32.not_lt, -Int64.not_le, -Int64.not_lt, -List.getD_eq_getElem?_getD]
              exact out M' Z' i r1 r2 r3 r4 r5 r6
        refine hb22 _ _ _ ?_
        simp (maxSteps := 2000000) [bk_X3_fewestMoves_0, bk_X3_fewestMoves_9, bk_X3_fewestMoves_22, bk_X3_fewestMoves_36, bk_X3_fewestMoves_55, bk_X3_fewestMoves_61, bk_X3_fewestMoves_71, bk_X3_fewestMoves_82, bk_X3_fewestMoves_88, pm_call, pm_e_c0, pm_e_c1, pm_e_cti, pm_e_ctl, pm_e_ctr, pm_e_go, pm_e_i, pm_e_ii, pm_e_ldi, pm_e_ldr, pm_e_lk, pm_e_r, pm_e_rm0, pm_e_rm1, pm_e_rs0, pm_e_rs1, pm_e_wp0, pm_e_wp1, pm_f2, pm_f3, pm_fld, pm_fv, pm_obj, pm_recv, pm_s_aload_n, pm_s_bipush, pm_s_getfield, pm_s_goto, pm_s_iconst, pm_s_ifCond_eq, pm_s_if_icmp_ge, pm_s_if_icmp_gt, pm_s_if_icmp_ne, pm_s_iinc, pm_s_iload, pm_s_iload_n, pm_s_invokevirtual, pm_s_ireturn, pm_s_istore, pm_s_sipush, ct_X3_fewestMoves, pS, pR, pC, pE, pL, -Int32.not_le, -Int32.not_lt, -Int64.not_le, -Int64.not_lt, -List.getD_eq_getElem?_getD, sx_28, m4]
        simp (disch := omega) only [ni_in, ni_cl, ni_add, ni_mul, ni_sub, ni_lt, ni_le, ni_eq, ni_eq0, ni_lt0, ni_0le, ni_0lt, ni_le0, ni_a1, ni_a3, ni_a7, ni_a15]
        refine ⟨fun h => by omega, fun _ => ?_⟩
        exact inner (zn Z) lo M' Z (zn Z) (by omega) hC hdn hZ hcc hD' hf
    exact loop 4001 1 0 M1 (Z0 S0) (by omega) (CZ.init m1 h0 hnd) rfl (Nat.le_refl _) q1 q2.2.2.1 (hD.moved f1 (by decide)) f1
  · exact hT.elim
def tt_X3_writePlan : pm_T := fun args M k => match args with
  | [.ref 28, .ref 38, .int x] => ∃ P l, x = nI l.length ∧ l.length ≤ 4000 ∧ (l = [] ∨ PT M P l) ∧ ∀ M', M'.1 38 1 = nI l.length → (∀ i, i < l.length → pmv M' i = l.getD i 0) → pm_fr [38, 39] M M' → k none M'
  | _ => False
theorem getD_snoc {l : List Nat} {a : Nat} : (l ++ [a]).getD l.length 0 = a := by simp [List.getD_eq_getElem?_getD]
abbrev ct_X3_writePlan : List pm_C := [(false, 124, 2, 3, none, tt_X2_write)]
set_option maxHeartbeats 4000000 in
theorem sm_X3_writePlan  : pm_Sem SHx yX3_writePlan cX3_writePlan 6 none 2 tt_X3_writePlan := by
  refine pm_Sem_intro bl_X3_writePlan ct_X3_writePlan cs_X3_writePlan rfl (List.forall_mem_cons.mpr ⟨⟨_, _, _, _, sm_X2_write, by decide, cm_X2_write, by decide +kernel⟩, fun _ h => absurd h List.not_mem_nil⟩) ck_X3_writePlan (by decide +kernel) (by decide) ?_
  intro X k hX args M hT
  have hb0 := hX 0 bk_X3_writePlan_0 (List.mem_of_getElem? (i := 0) rfl)
  have hb21 := hX 21 bk_X3_writePlan_21 (List.mem_of_getElem? (i := 1) rfl)
  have hb67 := hX 67 bk_X3_writePlan_67 (List.mem_of_getElem? (i := 2) rfl)
  clear hX
  unfold tt_X3_writePlan at hT; split at hT
  · obtain ⟨P, l, rfl, hl, hPT, hT⟩ := hT
    refine ⟨by simp [lg_sl, Value.category], ?_⟩
    have f0 : pm_fr [38] M (pm_set M 38 1 (nI l.length)) := pm_fr.rfl.set (by decide)
    have out : ∀ M', M'.1 38 1 = nI l.length → (∀ i, i < l.length → pmv M' i = l.getD i 0) → pm_fr [38, 39] M M' → X 67 [] [] M' := by
      intro M' q1 q2 q3
      refine hb67 _ _ _ ?_
      simp (maxSteps := 2000000) [bk_X3_writePlan_0, bk_X3_writePlan_21, bk_X3_writePlan_67, pm_arr, pm_call, pm_e_c0, pm_e_c1, pm_e_cti, pm_e_ctl, pm_e_ctr, pm_e_go, pm_e_i, pm_e_ii, pm_e_l, pm_e_ldi, pm_e_ldr, pm_e_li, pm_e_lk, pm_e_r, pm_e_ri, pm_e_rm0, pm_e_rm1, pm_e_rs0, pm_e_rs1, pm_e_wp0, pm_e_wp1, pm_f2, pm_f3, pm_fld, pm_fv, pm_obj, pm_recv, pm_s_aload_n, pm_s_bipush, pm_s_getfield, pm_s_goto, pm_s_iand, pm_s_iconst, pm_s_ifCond_lt, pm_s_iinc, pm_s_iload, pm_s_iload_n, pm_s_invokevirtual, pm_s_istore, pm_s_istore_n, pm_s_isub, pm_s_l2i, pm_s_laload, pm_s_lushr, pm_s_putfield, pm_s_return, pm_s_sipush, ct_X3_writePlan, pS, pR, pC, pE, pL, -Int32.not_le, -Int32.not_lt, -Int64.not_le, -Int64.not_lt, -List.getD_eq_getElem?_getD]
      exact hT M' q1 q2 q3
    have e1 : (pm_set M 38 1 (nI l.length)).1 38 1 = nI l.length := by simp [pm_set]
    refine hb0 _ _ _ ?_
    simp (maxSteps := 2000000) [bk_X3_writePlan_0, bk_X3_writePlan_21, bk_X3_writePlan_67, pm_arr, pm_call, pm_e_c0, pm_e_c1, pm_e_cti, pm_e_ctl, pm_e_ctr, pm_e_go, pm_e_i, pm_e_ii, pm_e_l, pm_e_ldi, pm_e_ldr, pm_e_li, pm_e_lk, pm_e_r, pm_e_ri, pm_e_rm0, pm_e_rm1, pm_e_rs0, pm_e_rs1, pm_e_wp0, pm_e_wp1, pm_f2, pm_f3, pm_fld, pm_fv, pm_obj, pm_recv, pm_s_aload_n, pm_s_bipush, pm_s_getfield, pm_s_goto, pm_s_iand, pm_s_iconst, pm_s_ifCond_lt, pm_s_iinc, pm_s_iload, pm_s_iload_n, pm_s_invokevirtual, pm_s_istore, pm_s_istore_n, pm_s_isub, pm_s_l2i, pm_s_laload, pm_s_lushr, pm_s_putfield, pm_s_return, pm_s_sipush, ct_X3_writePlan, pS, pR, pC, pE, pL, -Int32.not_le, -Int32.not_lt, -Int64.not_le, -Int64.not_lt, -List.getD_eq_getElem?_getD, lv_args, sx_28, sx_38]
    rcases hPT with rfl | ⟨m, Z, i, c, hZ, hi, k7, k8, hc, el, hw0, hwk⟩
    · refine hb21 _ _ _ ?_
      simp (maxSteps := 2000000) [bk_X3_writePlan_0, bk_X3_writePlan_21, bk_X3_writePlan_67, pm_arr, pm_call, pm_e_c0, pm_e_c1, pm_e_cti, pm_e_ctl, pm_e_ctr, pm_e_go, pm_e_i, pm_e_ii, pm_e_l, pm_e_ldi, pm_e_ldr, pm_e_li, pm_e_lk, pm_e_r, pm_e_ri, pm_e_rm0, pm_e_rm1, pm_e_rs0, pm_e_rs1, pm_e_wp0, pm_e_wp1, pm_f2, pm_f3, pm_fld, pm_fv, pm_obj, pm_recv, pm_s_aload_n, pm_s_bipush, pm_s_getfield, pm_s_goto, pm_s_iand, pm_s_iconst, pm_s_ifCond_lt, pm_s_iinc, pm_s_iload, pm_s_iload_n, pm_s_invokevirtual, pm_s_istore, pm_s_istore_n, pm_s_isub, pm_s_l2i, pm_s_laload, pm_s_lushr, pm_s_putfield, pm_s_return, pm_s_sipush, ct_X3_writePlan, pS, pR, pC, pE, pL, -Int32.not_le, -Int32.not_lt, -Int64.not_le, -Int64.not_lt, -List.getD_eq_getElem?_getD]
      refine ⟨fun _ => out _ e1 (fun i hi => by simp at hi) (f0.mono (by decide)), fun h => absurd (by decide) h⟩
    · obtain ⟨⟨b1, b2⟩, ⟨m4, m5, m6⟩, hw, nx, ch, hr, hcn, hch⟩ := id hZ
      have loop : ∀ (t j : Nat) (M' : pm_M), t < l.length → j < zn Z → zw Z j = l.take t → M'.1 38 1 = nI l.length → (∀ u, t < u → u < l.length → pmv M' u = l.getD u 0) → pm_fr [38, 39] M M' → X 21 [(0, .ref 28), (1, .ref 38), (3, .int (nI j)), (4, .int (nI (l.getD t 0))), (5, .int (nI t))] [] M' := by
        intro t
        have hmv : ∀ u, u < l.length → l.getD u 0 < 64 := by
          have key : ∀ j, j < zn Z → ∀ x ∈ zw Z j, x < 64 := by
            intro j
            induction j using Nat.strongRecOn with
            | _ j ihj =>
              intro hj x hx
              rcases Nat.eq_zero_or_pos j with z | z
              · subst z; rw [hw0] at hx; cases hx
              · obtain ⟨q1, q2⟩ := hwk j z hj
                rw [q1] at hx
                rcases List.mem_append.mp hx with y | y
                · exact ihj _ q2 (by omega) x y
                · simp at y; rw [y]; exact (hw j hj).2.2
          intro u hu
          have hm : l.getD u 0 ∈ l := getD_mem hu
          rw [el] at hm
          rcases List.mem_append.mp hm with y | y
          · rw [← el] at y; exact key i hi _ y
          · have y' := List.mem_singleton.mp y; rw [← el] at y'; omega
        induction t with
        | zero =>
          intro j M' t1 t2 t3 t4 t5 t6
          have hrj := hr j t2
          have h64 := hmv 0 t1
          refine hb21 _ _ _ ?_
          simp (maxSteps := 2000000) [bk_X3_writePlan_0, bk_X3_writePlan_21, bk_X3_writePlan_67, pm_arr, pm_call, pm_e_c0, pm_e_c1, pm_e_cti, pm_e_ctl, pm_e_ctr, pm_e_go, pm_e_i, pm_e_ii, pm_e_l, pm_e_ldi, pm_e_ldr, pm_e_li, pm_e_lk, pm_e_r, pm_e_ri, pm_e_rm0, pm_e_rm1, pm_e_rs0, pm_e_rs1, pm_e_wp0, pm_e_wp1, pm_f2, pm_f3, pm_fld, pm_fv, pm_obj, pm_recv, pm_s_aload_n, pm_s_bipush, pm_s_getfield, pm_s_goto, pm_s_iand, pm_s_iconst, pm_s_ifCond_lt, pm_s_iinc, pm_s_iload, pm_s_iload_n, pm_s_invokevirtual, pm_s_istore, pm_s_istore_n, pm_s_isub, pm_s_l2i, pm_s_laload, pm_s_lushr, pm_s_putfield, pm_s_return, pm_s_sipush, ct_X3_writePlan, pS, pR, pC, pE, pL, -Int32.not_le, -Int32.not_lt, -Int64.not_le, -Int64.not_lt, -List.getD_eq_getElem?_getD, sx_28, sx_38, sx_30]
          refine ⟨fun h => absurd h (by decide), fun _ => ⟨0, l.getD 0 0, rfl, rfl, by decide, by omega, fun M2 q1 q2 => ?_⟩⟩
          simp (maxSteps := 2000000) [bk_X3_writePlan_0, bk_X3_writePlan_21, bk_X3_writePlan_67, pm_arr, pm_call, pm_e_c0, pm_e_c1, pm_e_cti, pm_e_ctl, pm_e_ctr, pm_e_go, pm_e_i, pm_e_ii, pm_e_l, pm_e_ldi, pm_e_ldr, pm_e_li, pm_e_lk, pm_e_r, pm_e_ri, pm_e_rm0, pm_e_rm1, pm_e_rs0, pm_e_rs1, pm_e_wp0, pm_e_wp1, pm_f2, pm_f3, pm_fld, pm_fv, pm_obj, pm_recv, pm_s_aload_n, pm_s_bipush, pm_s_getfield, pm_s_goto, pm_s_iand, pm_s_iconst, pm_s_ifCond_lt, pm_s_iinc, pm_s_iload, pm_s_iload_n, pm_s_invokevirtual, pm_s_istore, pm_s_istore_n, pm_s_isub, pm_s_l2i, pm_s_laload, pm_s_lushr, pm_s_putfield, pm_s_return, pm_s_sipush, ct_X3_writePlan, pS, pR, pC, pE, pL, -Int32.not_le, -Int32.not_lt, -Int64.not_le, -Int64.not_lt, -List.getD_eq_getElem?_getD, sx_28, sx_30]
          simp (disch := omega) only [ni_in, ni_cl, ni_add, ni_mul, ni_sub, ni_lt, ni_le, ni_eq, ni_eq0, ni_lt0, ni_0le, ni_0lt, ni_le0, ni_a1, ni_a3, ni_a7, ni_a15]
          refine ⟨by omega, ?_⟩
          refine hb21 _ _ _ ?_
          simp (maxSteps := 2000000) [bk_X3_writePlan_0, bk_X3_writePlan_21, bk_X3_writePlan_67, pm_arr, pm_call, pm_e_c0, pm_e_c1, pm_e_cti, pm_e_ctl, pm_e_ctr, pm_e_go, pm_e_i, pm_e_ii, pm_e_l, pm_e_ldi, pm_e_ldr, pm_e_li, pm_e_lk, pm_e_r, pm_e_ri, pm_e_rm0, pm_e_rm1, pm_e_rs0, pm_e_rs1, pm_e_wp0, pm_e_wp1, pm_f2, pm_f3, pm_fld, pm_fv, pm_obj, pm_recv, pm_s_aload_n, pm_s_bipush, pm_s_getfield, pm_s_goto, pm_s_iand, pm_s_iconst, pm_s_ifCond_lt, pm_s_iinc, pm_s_iload, pm_s_iload_n, pm_s_invokevirtual, pm_s_istore, pm_s_istore_n, pm_s_isub, pm_s_l2i, pm_s_laload, pm_s_lushr, pm_s_putfield, pm_s_return, pm_s_sipush, ct_X3_writePlan, pS, pR, pC, pE, pL, -Int32.not_le, -Int32.not_lt, -Int64.not_le, -Int64.not_lt, -List.getD_eq_getElem?_getD, sx_28, sx_38, sx_30]
          refine ⟨fun _ => out M2 ?_ (fun u hu => ?_) (t6.trans (q2.mono (by decide))), fun h => absurd (by decide) h⟩
          · rw [q2.i (by decide)]; exact t4
          · rw [q1 u (by omega)]
            by_cases z : u = 0
            · rw [if_pos z, z]
            · rw [if_neg z]; exact t5 u (by omega) hu
        | succ t iht =>
          intro j M' t1 t2 t3 t4 t5 t6
          have hj0 : 0 < j := by
            rcases Nat.eq_zero_or_pos j with z | z
            · subst z; rw [hw0] at t3
              have := congrArg List.length t3
              simp at this; omega
            · exact z
          obtain ⟨w1, w2⟩ := hwk j hj0 t2
          have hrj := hr j t2
          have hwj := hw j t2
          have h64 := hmv (t + 1) t1
          have e3 : l.take (t + 1) = l.take t ++ [l.getD t 0] := by
            rw [List.take_succ, List.getD_eq_getElem?_getD, List.getElem?_eq_getElem (by omega)]; rfl
          rw [w1, e3] at t3
          obtain ⟨v1, v2⟩ := List.append_inj' t3 rfl
          simp only [List.cons.injEq, and_true] at v2
          refine hb21 _ _ _ ?_
          simp (maxSteps := 2000000) [bk_X3_writePlan_0, bk_X3_writePlan_21, bk_X3_writePlan_67, pm_arr, pm_call, pm_e_c0, pm_e_c1, pm_e_cti, pm_e_ctl, pm_e_ctr, pm_e_go, pm_e_i, pm_e_ii, pm_e_l, pm_e_ldi, pm_e_ldr, pm_e_li, pm_e_lk, pm_e_r, pm_e_ri, pm_e_rm0, pm_e_rm1, pm_e_rs0, pm_e_rs1, pm_e_wp0, pm_e_wp1, pm_f2, pm_f3, pm_fld, pm_fv, pm_obj, pm_recv, pm_s_aload_n, pm_s_bipush, pm_s_getfield, pm_s_goto, pm_s_iand, pm_s_iconst, pm_s_ifCond_lt, pm_s_iinc, pm_s_iload, pm_s_iload_n, pm_s_invokevirtual, pm_s_istore, pm_s_istore_n, pm_s_isub, pm_s_l2i, pm_s_laload, pm_s_lushr, pm_s_putfield, pm_s_return, pm_s_sipush, ct_X3_writePlan, pS, pR, pC, pE, pL, -Int32.not_le, -Int32.not_lt, -Int64.not_le, -Int64.not_lt, -List.getD_eq_getElem?_getD, sx_28, sx_38, sx_30]
          rw [ni_lt0 (by omega)]
          refine ⟨fun h => h.elim, fun _ => ⟨t + 1, l.getD (t + 1) 0, rfl, rfl, by omega, by omega, fun M2 q1 q2 => ?_⟩⟩
          have hrj2 : M2.2 30 j = lN (twd (nx j) (arN (zR Z j)) (zp Z j) (zm Z j)) := by
            rw [q2.l (by decide), t6.l (by decide)]; exact hrj.2.1
          simp (maxSteps := 2000000) [bk_X3_writePlan_0, bk_X3_writePlan_21, bk_X3_writePlan_67, pm_arr, pm_call, pm_e_c0, pm_e_c1, pm_e_cti, pm_e_ctl, pm_e_ctr, pm_e_go, pm_e_i, pm_e_ii, pm_e_l, pm_e_ldi, pm_e_ldr, pm_e_li, pm_e_lk, pm_e_r, pm_e_ri, pm_e_rm0, pm_e_rm1, pm_e_rs0, pm_e_rs1, pm_e_wp0, pm_e_wp1, pm_f2, pm_f3, pm_fld, pm_fv, pm_obj, pm_recv, pm_s_aload_n, pm_s_bipush, pm_s_getfield, pm_s_goto, pm_s_iand, pm_s_iconst, pm_s_ifCond_lt, pm_s_iinc, pm_s_iload, pm_s_iload_n, pm_s_invokevirtual, pm_s_istore, pm_s_istore_n, pm_s_isub, pm_s_l2i, pm_s_laload, pm_s_lushr, pm_s_putfield, pm_s_return, pm_s_sipush, ct_X3_writePlan, pS, pR, pC, pE, pL, -Int32.not_le, -Int32.not_lt, -Int64.not_le, -Int64.not_lt, -List.getD_eq_getElem?_getD, sx_28, sx_30]
          simp (disch := omega) only [ni_in, ni_cl, ni_add, ni_mul, ni_sub, ni_lt, ni_le, ni_eq, ni_eq0, ni_lt0, ni_0le, ni_0lt, ni_le0, ni_a1, ni_a3, ni_a7, ni_a15, hrj2]
          refine ⟨by omega, ?_⟩
          have har := arN_lt (zR Z j)
          have hnx := hrj.2.2
          have hlt : twd (nx j) (arN (zR Z j)) (zp Z j) (zm Z j) < 2 ^ 64 := by unfold twd; omega
          have g1 : (lN (twd (nx j) (arN (zR Z j)) (zp Z j) (zm Z j))).toInt32 &&& nI 63 = nI (l.getD t 0) := by
            rw [ln_i]
            refine (pk_and _ 6 (by decide)).trans ?_
            rw [show (nI (twd (nx j) (arN (zR Z j)) (zp Z j) (zm Z j))).toBitVec.toNat = twd (nx j) (arN (zR Z j)) (zp Z j) (zm Z j) % 2 ^ 32 from rfl, Nat.mod_mod_of_dvd _ (by decide), ← v2]
            congr 1
            exact twd_m hwj.2.2
          have g2 : ((lN (twd (nx j) (arN (zR Z j)) (zp Z j) (zm Z j))).toUInt64 >>> ((nI 6).toInt64.toUInt64 &&& Int64.toUInt64 63)).toInt64.toInt32 &&& nI 4095 = nI (zp Z j) := by
            rw [wb_shr hlt (by decide), ln_i]
            refine (pk_and _ 12 (by decide)).trans ?_
            rw [show (nI (twd (nx j) (arN (zR Z j)) (zp Z j) (zm Z j) / 2 ^ 6)).toBitVec.toNat = twd (nx j) (arN (zR Z j)) (zp Z j) (zm Z j) / 2 ^ 6 % 2 ^ 32 from rfl, Nat.mod_mod_of_dvd _ (by decide)]
            congr 1
            exact twd_p (by omega) hwj.2.2
          rw [g1, g2, ni_m1]
          refine iht (zp Z j) M2 (by omega) (by omega) v1 ?_ (fun u u1 u2 => ?_) (t6.trans (q2.mono (by decide)))
          · rw [q2.i (by decide)]; exact t4
          · rw [q1 u (by omega)]
            by_cases z : u = t + 1
            · rw [if_pos z, z]
            · rw [if_neg z]; exact t5 u (by omega) u2
      have hll : l.length = (zw Z i).length + 1 := by rw [el]; simp
      have e7 : (pm_set M 38 1 (nI l.length)).1 28 7 = nI i := by rw [f0.i (by decide)]; exact k7
      have e8 : (pm_set M 38 1 (nI l.length)).1 28 8 = nI c := by rw [f0.i (by decide)]; exact k8
      rw [e7, e8, ni_sub (by omega)]
      have ec : l.getD (l.length - 1) 0 = c := by
        rw [hll, Nat.add_sub_cancel]
        conv => lhs; rw [el]
        exact getD_snoc
      have := loop (l.length - 1) i (pm_set M 38 1 (nI l.length)) (by omega) hi ?_ e1 (fun u u1 u2 => by omega) (f0.mono (by decide))
      · rw [ec] at this; exact this
      · rw [hll, Nat.add_sub_cancel]
        conv => rhs; rw [el]
        simp
  · exact hT.elim
