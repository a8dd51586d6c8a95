def tt_X6_sumOfCopy : pm_T := fun args M k => match args with
  | [.ref 0, .ref p, .int z] => ∃ t T j, t < 6 ∧ p = 15 + 2 * t ∧ j < 201 ∧ z = nI j - nI 100 ∧ TrX M t T ∧ okT T ∧ ansK k M (fgN T 5 z)
  | _ => False
theorem z_neg {j : Nat} (h : j < 201) : (nI j - nI 100 < 0) = (j < 100) := propext (by
  rw [Int32.lt_iff_toInt_lt]
  by_cases q : j < 100
  · have : ∀ j, j < 100 → (nI j - nI 100).toInt < (0 : Int32).toInt := by decide +kernel
    exact ⟨fun _ => q, fun _ => this j q⟩
  · rw [ni_sub (by omega), nI_toInt (by omega)]
    constructor
    · intro z; have z' : ((j - 100 : Nat) : Int) < 0 := z
      omega
    · intro z; exact absurd z q)
abbrev ct_X6_sumOfCopy : List pm_C := [(false, 268, 6, 3, (some .int), tt_X6_refusalOf), (false, 219, 6, 2, (some .int), tt_X6_refuse)]
set_option maxHeartbeats 4000000 in
theorem sm_X6_sumOfCopy  : pm_Sem SHx yX6_sumOfCopy cX6_sumOfCopy 6 (some .int) 2 tt_X6_sumOfCopy := by
  refine pm_Sem_intro bl_X6_sumOfCopy ct_X6_sumOfCopy cs_X6_sumOfCopy rfl (List.forall_mem_cons.mpr ⟨⟨_, _, _, _, sm_X6_refusalOf, by decide, cm_X6_refusalOf, by decide +kernel⟩, List.forall_mem_cons.mpr ⟨⟨_, _, _, _, sm_X6_refuse, by decide, cm_X6_refuse, by decide +kernel⟩, fun _ h => absurd h List.not_mem_nil⟩⟩) ck_X6_sumOfCopy (by decide +kernel) (by decide) ?_
  intro X k hX args M hT
  have hb0 := hX 0 bk_X6_sumOfCopy_0 (List.mem_of_getElem? (i := 0) rfl)
  have hb17 := hX 17 bk_X6_sumOfCopy_17 (List.mem_of_getElem? (i := 1) rfl)
  have hb39 := hX 39 bk_X6_sumOfCopy_39 (List.mem_of_getElem? (i := 2) rfl)
  have hb46 := hX 46 bk_X6_sumOfCopy_46 (List.mem_of_getElem? (i := 3) rfl)
  have hb52 := hX 52 bk_X6_sumOfCopy_52 (List.mem_of_getElem? (i := 4) rfl)
  have hb76 := hX 76 bk_X6_sumOfCopy_76 (List.mem_of_getElem? (i := 5) rfl)
  clear hX
  unfold tt_X6_sumOfCopy at hT; split at hT
  · next p z =>
    obtain ⟨t, T, j, ht, rfl, hj, hz, hTr, hO, hT⟩ := hT
    obtain ⟨x1, x2, x3, x4⟩ := tr_sx ht
    have e1 := hTr.1
    have e3 := hTr.2.2.1
    have o1 := hO.1
    have o3 := hO.2.2.1
    have eF : fgN T 5 z = (if T.1 = 0 then (-nI 1, 10) else if T.1 = 2 then (if z < 0 ∨ T.2.2.length < tn z + 1 ∨ 7 < tn z + tn z then (-nI 1, 12) else (nI (sumN (tn z) (fun i => T.2.2.getD (i + 1) 0)), 0)) else (-nI 1, 11)) := rfl
    rw [eF] at hT
    refine ⟨by simp [lg_sl, Value.category], ?_⟩
    refine hb0 _ _ _ ?_
    simp (maxSteps := 2000000) [bk_X6_sumOfCopy_0, bk_X6_sumOfCopy_17, bk_X6_sumOfCopy_39, bk_X6_sumOfCopy_46, bk_X6_sumOfCopy_52, bk_X6_sumOfCopy_76, pm_arr, pm_call, pm_e_c0, pm_e_c1, pm_e_cti, pm_e_ctl, pm_e_ctr, pm_e_go, pm_e_i, pm_e_ii, pm_e_ldi, pm_e_ldr, pm_e_lk, pm_e_r, pm_e_ri, pm_e_rm0, pm_e_rm1, pm_e_rs0, pm_e_rs1, pm_e_wp0, pm_e_wp1, pm_f2, pm_f3, pm_fld, pm_fv, pm_obj, pm_recv, pm_s_aload_n, pm_s_bipush, pm_s_getfield, pm_s_goto, pm_s_iadd, pm_s_iconst, pm_s_ifCond_eq, pm_s_ifCond_lt, pm_s_if_icmp_gt, pm_s_if_icmp_le, pm_s_iinc, pm_s_iload, pm_s_iload_n, pm_s_invokevirtual, pm_s_ireturn, pm_s_istore, pm_s_istore_n, pm_s_saload, ct_X6_sumOfCopy, tt_X6_refuse, pS, pR, pC, pE, pL, -Int32.not_le, -Int32.not_lt, -Int64.not_le, -Int64.not_lt, -List.getD_eq_getElem?_getD, lv_args, sx_0]
    refine ⟨t, T, 2, ht, rfl, rfl, by decide, hTr, hO, ?_⟩
    simp (maxSteps := 2000000) [bk_X6_sumOfCopy_0, bk_X6_sumOfCopy_17, bk_X6_sumOfCopy_39, bk_X6_sumOfCopy_46, bk_X6_sumOfCopy_52, bk_X6_sumOfCopy_76, pm_arr, pm_call, pm_e_c0, pm_e_c1, pm_e_cti, pm_e_ctl, pm_e_ctr, pm_e_go, pm_e_i, pm_e_ii, pm_e_ldi, pm_e_ldr, pm_e_lk, pm_e_r, pm_e_ri, pm_e_rm0, pm_e_rm1, pm_e_rs0, pm_e_rs1, pm_e_wp0, pm_e_wp1, pm_f2, pm_f3, pm_fld, pm_fv, pm_obj, pm_recv, pm_s_aload_n, pm_s_bipush, pm_s_getfield, pm_s_goto, pm_s_iadd, pm_s_iconst, pm_s_ifCond_eq, pm_s_ifCond_lt, pm_s_if_icmp_gt, pm_s_if_icmp_le, pm_s_iinc, pm_s_iload, pm_s_iload_n, pm_s_invokevirtual, pm_s_ireturn, pm_s_istore, pm_s_istore_n, pm_s_saload, ct_X6_sumOfCopy, tt_X6_refuse, pS, pR, pC, pE, pL, -Int32.not_le, -Int32.not_lt, -Int64.not_le, -Int64.not_lt, -List.getD_eq_getElem?_getD, sx_0]
    have hr := rfN_le T.1 2
    simp (disch := omega) only [ni_in, ni_cl, ni_add, ni_mul, ni_sub, ni_lt, ni_le, ni_eq, ni_eq0, ni_lt0, ni_0le, ni_0lt, ni_le0, ni_a1, ni_a3, ni_a7, ni_a15]
    refine ⟨fun h => ?_, fun h => ?_⟩
    · have h1 : T.1 = 2 := by
        unfold rfN at h; split at h
        · exact absurd h (by decide)
        · split at h
          · assumption
          · exact absurd h (by decide)
      rw [if_neg (by omega), if_pos h1] at hT
      have h39 : (z < 0 ∨ T.2.2.length < tn z + 1 ∨ 7 < tn z + tn z) → X 39 [(0, .ref 0)] [] M := by
        intro hn
        rw [if_pos hn] at hT
        refine hb39 _ _ _ ?_
        simp (maxSteps := 2000000) [bk_X6_sumOfCopy_0, bk_X6_sumOfCopy_17, bk_X6_sumOfCopy_39, bk_X6_sumOfCopy_46, bk_X6_sumOfCopy_52, bk_X6_sumOfCopy_76, pm_arr, pm_call, pm_e_c0, pm_e_c1, pm_e_cti, pm_e_ctl, pm_e_ctr, pm_e_go, pm_e_i, pm_e_ii, pm_e_ldi, pm_e_ldr, pm_e_lk, pm_e_r, pm_e_ri, pm_e_rm0, pm_e_rm1, pm_e_rs0, pm_e_rs1, pm_e_wp0, pm_e_wp1, pm_f2, pm_f3, pm_fld, pm_fv, pm_obj, pm_recv, pm_s_aload_n, pm_s_bipush, pm_s_getfield, pm_s_goto, pm_s_iadd, pm_s_iconst, pm_s_ifCond_eq, pm_s_ifCond_lt, pm_s_if_icmp_gt, pm_s_if_icmp_le, pm_s_iinc, pm_s_iload, pm_s_iload_n, pm_s_invokevirtual, pm_s_ireturn, pm_s_istore, pm_s_istore_n, pm_s_saload, ct_X6_sumOfCopy, tt_X6_refuse, pS, pR, pC, pE, pL, -Int32.not_le, -Int32.not_lt, -Int64.not_le, -Int64.not_lt, -List.getD_eq_getElem?_getD, sx_0]
        exact ansK_n (by decide) hT
      refine hb17 _ _ _ ?_
      simp (maxSteps := 2000000) [bk_X6_sumOfCopy_0, bk_X6_sumOfCopy_17, bk_X6_sumOfCopy_39, bk_X6_sumOfCopy_46, bk_X6_sumOfCopy_52, bk_X6_sumOfCopy_76, pm_arr, pm_call, pm_e_c0, pm_e_c1, pm_e_cti, pm_e_ctl, pm_e_ctr, pm_e_go, pm_e_i, pm_e_ii, pm_e_ldi, pm_e_ldr, pm_e_lk, pm_e_r, pm_e_ri, pm_e_rm0, pm_e_rm1, pm_e_rs0, pm_e_rs1, pm_e_wp0, pm_e_wp1, pm_f2, pm_f3, pm_fld, pm_fv, pm_obj, pm_recv, pm_s_aload_n, pm_s_bipush, pm_s_getfield, pm_s_goto, pm_s_iadd, pm_s_iconst, pm_s_ifCond_eq, pm_s_ifCond_lt, pm_s_if_icmp_gt, pm_s_if_icmp_le, pm_s_iinc, pm_s_iload, pm_s_iload_n, pm_s_invokevirtual, pm_s_ireturn, pm_s_istore, pm_s_istore_n, pm_s_saload, ct_X6_sumOfCopy, tt_X6_refuse, pS, pR, pC, pE, pL, -Int32.not_le, -Int32.not_lt, -Int64.not_le, -Int64.not_lt, -List.getD_eq_getElem?_getD, x1, e3]
      by_cases hneg : z < 0
      · exact ⟨fun _ => h39 (Or.inl hneg), fun q => absurd hneg q⟩
      · have hj100 : 100 ≤ j := by rw [hz, z_neg hj] at hneg; omega
        have ez : z = nI (j - 100) := by rw [hz, ni_sub hj100]
        have etn : tn z = j - 100 := by rw [ez, tn_n (by omega)]
        rw [etn] at hT h39
        have hn100 : j - 100 ≤ 100 := by omega
        generalize j - 100 = n at *
        subst ez
        simp (disch := omega) only [ni_in, ni_cl, ni_add, ni_mul, ni_sub, ni_lt, ni_le, ni_eq, ni_eq0, ni_lt0, ni_0le, ni_0lt, ni_le0, ni_a1, ni_a3, ni_a7, ni_a15]
        refine ⟨fun q => q.elim, fun _ => ⟨fun q => h39 (Or.inr (Or.inl (by omega))), fun q => ⟨fun q2 => ?_, fun q2 => h39 (Or.inr (Or.inr (by omega)))⟩⟩⟩
        rw [if_neg (by
          rintro (h | h | h)
          · rw [ni_lt0 (by omega)] at h; exact h
          · omega
          · omega)] at hT
        have loop : ∀ (f i : Nat), n ≤ i + f → i ≤ n → X 52 [(1, .ref (15 + 2 * t)), (2, .int (nI n)), (4, .int (nI (sumN i (fun i => T.2.2.getD (i + 1) 0)))), (5, .int (nI (i + 1)))] [] M := by
          intro f
          have out : X 76 [(4, .int (nI (sumN n (fun i => T.2.2.getD (i + 1) 0))))] [] M := by
            refine hb76 _ _ _ ?_
            simp (maxSteps := 2000000) [bk_X6_sumOfCopy_0, bk_X6_sumOfCopy_17, bk_X6_sumOfCopy_39, bk_X6_sumOfCopy_46, bk_X6_sumOfCopy_52, bk_X6_sumOfCopy_76, pm_arr, pm_call, pm_e_c0, pm_e_c1, pm_e_cti, pm_e_ctl, pm_e_ctr, pm_e_go, pm_e_i, pm_e_ii, pm_e_ldi, pm_e_ldr, pm_e_lk, pm_e_r, pm_e_ri, pm_e_rm0, pm_e_rm1, pm_e_rs0, pm_e_rs1, pm_e_wp0, pm_e_wp1, pm_f2, pm_f3, pm_fld, pm_fv, pm_obj, pm_recv, pm_s_aload_n, pm_s_bipush, pm_s_getfield, pm_s_goto, pm_s_iadd, pm_s_iconst, pm_s_ifCond_eq, pm_s_ifCond_lt, pm_s_if_icmp_gt, pm_s_if_icmp_le, pm_s_iinc, pm_s_iload, pm_s_iload_n, pm_s_invokevirtual, pm_s_ireturn, pm_s_istore, pm_s_istore_n, pm_s_saload, ct_X6_sumOfCopy, tt_X6_refuse, pS, pR, pC, pE, pL, -Int32.not_le, -Int32.not_lt, -Int64.not_le, -Int64.not_lt, -List.getD_eq_getElem?_getD]
            exact ansK_0 hT
          induction f with
          | zero =>
            intro i f1 f2
            have : i = n := by omega
            subst this
            refine hb52 _ _ _ ?_
            simp (maxSteps := 2000000) [bk_X6_sumOfCopy_0, bk_X6_sumOfCopy_17, bk_X6_sumOfCopy_39, bk_X6_sumOfCopy_46, bk_X6_sumOfCopy_52, bk_X6_sumOfCopy_76, pm_arr, pm_call, pm_e_c0, pm_e_c1, pm_e_cti, pm_e_ctl, pm_e_ctr, pm_e_go, pm_e_i, pm_e_ii, pm_e_ldi, pm_e_ldr, pm_e_lk, pm_e_r, pm_e_ri, pm_e_rm0, pm_e_rm1, pm_e_rs0, pm_e_rs1, pm_e_wp0, pm_e_wp1, pm_f2, pm_f3, pm_fld, pm_fv, pm_obj, pm_recv, pm_s_aload_n, pm_s_bipush, pm_s_getfield, pm_s_goto, pm_s_iadd, pm_s_iconst, pm_s_ifCond_eq, pm_s_ifCond_lt, pm_s_if_icmp_gt, pm_s_if_icmp_le, pm_s_iinc, pm_s_iload, pm_s_iload_n, pm_s_invokevirtual, pm_s_ireturn, pm_s_istore, pm_s_istore_n, pm_s_saload, ct_X6_sumOfCopy, tt_X6_refuse, pS, pR, pC, pE, pL, -Int32.not_le, -Int32.not_lt, -Int64.not_le, -Int64.not_lt, -List.getD_eq_getElem?_getD, x1, x2]
            simp (disch := omega) only [ni_in, ni_cl, ni_add, ni_mul, ni_sub, ni_lt, ni_le, ni_eq, ni_eq0, ni_lt0, ni_0le, ni_0lt, ni_le0, ni_a1, ni_a3, ni_a7, ni_a15]
            exact ⟨fun _ => out, fun q => by omega⟩
          | succ f ih =>
            intro i f1 f2
            refine hb52 _ _ _ ?_
            simp (maxSteps := 2000000) [bk_X6_sumOfCopy_0, bk_X6_sumOfCopy_17, bk_X6_sumOfCopy_39, bk_X6_sumOfCopy_46, bk_X6_sumOfCopy_52, bk_X6_sumOfCopy_76, pm_arr, pm_call, pm_e_c0, pm_e_c1, pm_e_cti, pm_e_ctl, pm_e_ctr, pm_e_go, pm_e_i, pm_e_ii, pm_e_ldi, pm_e_ldr, pm_e_lk, pm_e_r, pm_e_ri, pm_e_rm0, pm_e_rm1, pm_e_rs0, pm_e_rs1, pm_e_wp0, pm_e_wp1, pm_f2, pm_f3, pm_fld, pm_fv, pm_obj, pm_recv, pm_s_aload_n, pm_s_bipush, pm_s_getfield, pm_s_goto, pm_s_iadd, pm_s_iconst, pm_s_ifCond_eq, pm_s_ifCond_lt, pm_s_if_icmp_gt, pm_s_if_icmp_le, pm_s_iinc, pm_s_iload, pm_s_iload_n, pm_s_invokevirtual, pm_s_ireturn, pm_s_istore, pm_s_istore_n, pm_s_saload, ct_X6_sumOfCopy, tt_X6_refuse, pS, pR, pC, pE, pL, -Int32.not_le, -Int32.not_lt, -Int64.not_le, -Int64.not_lt, -List.getD_eq_getElem?_getD, x1, x2]
            rw [ni_lt (by omega) (by omega), ni_in (by omega), ni_cl (by omega)]
            refine ⟨fun q => ?_, fun q => ⟨by omega, ?_⟩⟩
            · have : i = n := by omega
              subst this; exact out
            · rw [hTr.2.2.2 (i + 1) (by omega), ni_add, ni_add]
              exact ih (i + 1) (by omega) (by omega)
        refine hb46 _ _ _ ?_
        simp (maxSteps := 2000000) [bk_X6_sumOfCopy_0, bk_X6_sumOfCopy_17, bk_X6_sumOfCopy_39, bk_X6_sumOfCopy_46, bk_X6_sumOfCopy_52, bk_X6_sumOfCopy_76, pm_arr, pm_call, pm_e_c0, pm_e_c1, pm_e_cti, pm_e_ctl, pm_e_ctr, pm_e_go, pm_e_i, pm_e_ii, pm_e_ldi, pm_e_ldr, pm_e_lk, pm_e_r, pm_e_ri, pm_e_rm0, pm_e_rm1, pm_e_rs0, pm_e_rs1, pm_e_wp0, pm_e_wp1, pm_f2, pm_f3, pm_fld, pm_fv, pm_obj, pm_recv, pm_s_aload_n, pm_s_bipush, pm_s_getfield, pm_s_goto, pm_s_iadd, pm_s_iconst, pm_s_ifCond_eq, pm_s_ifCond_lt, pm_s_if_icmp_gt, pm_s_if_icmp_le, pm_s_iinc, pm_s_iload, pm_s_iload_n, pm_s_invokevirtual, pm_s_ireturn, pm_s_istore, pm_s_istore_n, pm_s_saload, ct_X6_sumOfCopy, tt_X6_refuse, pS, pR, pC, pE, pL, -Int32.not_le, -Int32.not_lt, -Int64.not_le, -Int64.not_lt, -List.getD_eq_getElem?_getD]
        exact loop n 0 (by omega) (by omega)
    · have hq : ansK k M (-nI 1, rfN T.1 2) := by
        unfold rfN at h ⊢
        by_cases z0 : T.1 = 0
        · rw [if_pos z0] at hT ⊢; exact hT
        · by_cases z1 : T.1 = 2
          · rw [if_neg z0, if_pos z1] at h; exact absurd rfl h
          · rw [if_neg z0, if_neg z1] at hT ⊢; exact hT
      exact ansK_n h hq
  · exact hT.elim
theorem ansK_imp {k k' : Option Value → pm_M → Prop} {M : pm_M} {r : Int32 × Nat} (h : ∀ v M', k (some (.int v)) M' → k' (some (.int v)) M') (hk : ansK k M r) : ansK k' M r := by
  unfold ansK at *
  split
  · next q => rw [if_pos q] at hk; exact h _ _ hk
  · next q => rw [if_neg q] at hk; exact h _ _ hk
theorem MX.setQ {M M' : pm_M} {A : Ab} {q : Nat} (h : MX M A) (hf : pm_fr [0] M M') (e7 : M'.1 0 7 = M.1 0 7) (e8 : M'.1 0 8 = M.1 0 8) (e9 : M'.1 0 9 = nI q) : MX M' (setQ A q) := by
  obtain ⟨hD, hS, hH, hL, hW, hQ, hPl, hTr⟩ := h
  exact ⟨hD.moved hf (by decide), hS.moved hf (by decide), hH.mv hf (by decide), hL.eq e7, by rw [e8]; exact hW, e9, hPl.mv hf (by decide) (by decide), trs_mv hTr hf (by decide)⟩
def tt_X6_forge : pm_T := fun args M k => match args with
  | [.ref 0, .int x, .int y, .int z] => ∃ A, okA A ∧ MX M A ∧ ∀ M', MX M' (fForge A x y z).2 → k (some (.int (fForge A x y z).1)) M'
  | _ => False
abbrev ct_X6_forge : List pm_C := [(true, 64, 6, 3, (some .boolean), tt_X6_isWithin), (false, 219, 6, 2, (some .int), tt_X6_refuse), (true, 229, 0, 2, (some .int), tt_J9_floorMod_7cf53), (false, 234, 6, 3, (some .int), tt_X6_kindTakenFor), (false, 238, 6, 4, (some .int), tt_X6_numberTakenFrom), (false, 242, 6, 3, (some .int), tt_X6_sumOfCopy), (false, 245, 6, 2, (some .int), tt_X6_kindInSuitedRow)]
set_option maxHeartbeats 4000000 in
theorem sm_X6_forge  : pm_Sem SHx yX6_forge cX6_forge 5 (some .int) 3 tt_X6_forge := by
  refine pm_Sem_intro bl_X6_forge ct_X6_forge cs_X6_forge rfl (List.forall_mem_cons.mpr ⟨⟨_, _, _, _, sm_X6_isWithin, by decide, cm_X6_isWithin, by decide +kernel⟩, List.forall_mem_cons.mpr ⟨⟨_, _, _, _, sm_X6_refuse, by decide, cm_X6_refuse, by decide +kernel⟩, List.forall_mem_cons.mpr ⟨⟨_, _, _, _, sm_J9_floorMod_7cf53, by decide, cm_J9_floorMod_7cf53, by decide +kernel⟩, List.forall_mem_cons.mpr ⟨⟨_, _, _, _, sm_X6_kindTakenFor, by decide, cm_X6_kindTakenFor, by decide +kernel⟩, List.forall_mem_cons.mpr ⟨⟨_, _, _, _, sm_X6_numberTakenFrom, by decide, cm_X6_numberTakenFrom, by decide +kernel⟩, List.forall_mem_cons.mpr ⟨⟨_, _, _, _, sm_X6_sumOfCopy, by decide, cm_X6_sumOfCopy, by decide +kernel⟩, List.forall_mem_cons.mpr ⟨⟨_, _, _, _, sm_X6_kindInSuitedRow, by decide, cm_X6_kindInSuitedRow, by decide +kernel⟩, fun _ h => absurd h List.not_mem_nil⟩⟩⟩⟩⟩⟩⟩) ck_X6_forge (by decide +kernel) (by decide) ?_
  intro X k hX args M hT
  have hb0 := hX 0 bk_X6_forge_0 (List.mem_of_getElem? (i := 0) rfl)
  have hb20 := hX 20 bk_X6_forge_20 (List.mem_of_getElem? (i := 1) rfl)
  have hb26 := hX 26 bk_X6_forge_26 (List.mem_of_getElem? (i := 2) rfl)
  have hb92 := hX 92 bk_X6_forge_92 (List.mem_of_getElem? (i := 3) rfl)
  have hb104 := hX 104 bk_X6_forge_104 (List.mem_of_getElem? (i := 4) rfl)
  have hb113 := hX 113 bk_X6_forge_113 (List.mem_of_getElem? (i := 5) rfl)
  have hb122 := hX 122 bk_X6_forge_122 (List.mem_of_getElem? (i := 6) rfl)
  have hb131 := hX 131 bk_X6_forge_131 (List.mem_of_getElem? (i := 7) rfl)
  have hb144 := hX 144 bk_X6_forge_144 (List.mem_of_getElem? (i := 8) rfl)
  have hb145 := hX 145 bk_X6_forge_145 (List.mem_of_getElem? (i := 9) rfl)
  have hb146 := hX 146 bk_X6_forge_146 (List.mem_of_getElem? (i := 10) rfl)
  have hb154 := hX 154 bk_X6_forge_154 (List.mem_of_getElem? (i := 11) rfl)
  have hb161 := hX 161 bk_X6_forge_161 (List.mem_of_getElem? (i := 12) rfl)
  have hb174 := hX 174 bk_X6_forge_174 (List.mem_of_getElem? (i := 13) rfl)
  have hb179 := hX 179 bk_X6_forge_179 (List.mem_of_getElem? (i := 14) rfl)
  have hb180 := hX 180 bk_X6_forge_180 (List.mem_of_getElem? (i := 15) rfl)
  have hb187 := hX 187 bk_X6_forge_187 (List.mem_of_getElem? (i := 16) rfl)
  clear hX
  unfold tt_X6_forge at hT; split at hT
  · next x y z =>
    obtain ⟨A, hA, hM, hT⟩ := hT
    unfold fForge at hT
    refine ⟨by simp [lg_sl, Value.category], ?_⟩
    have bad : ∀ M', (wi x (nI 0) (nI 5) && wi y (nI 0) (nI 8) && wi z (-nI 100) (nI 100)) = false → pm_fr [0] M M' → M'.1 0 7 = M.1 0 7 → M'.1 0 8 = M.1 0 8 → k (some (.int (-nI 1))) (pm_set M' 0 9 (nI 1)) := by
      intro M' hf f1 e7 e8
      rw [hf] at hT
      refine hT _ (hM.setQ (f1.set (by decide)) ?_ ?_ ?_)
      · rw [me_1s, if_neg (by decide)]; exact e7
      · rw [me_1s, if_neg (by decide)]; exact e8
      · rw [me_1s, if_pos rfl]
    have h20 : (wi x (nI 0) (nI 5) && wi y (nI 0) (nI 8) && wi z (-nI 100) (nI 100)) = false → X 20 [(0, .ref 0)] [] M := by
      intro hf
      refine hb20 _ _ _ ?_
      simp (maxSteps := 2000000) [bk_X6_forge_0, bk_X6_forge_20, bk_X6_forge_26, bk_X6_forge_92, bk_X6_forge_104, bk_X6_forge_113, bk_X6_forge_122, bk_X6_forge_131, bk_X6_forge_144, bk_X6_forge_145, bk_X6_forge_146, bk_X6_forge_154, bk_X6_forge_161, bk_X6_forge_174, bk_X6_forge_179, bk_X6_forge_180, bk_X6_forge_187, pm_arr, pm_call, pm_e_c0, pm_e_c1, pm_e_cti, pm_e_ctl, pm_e_ctr, pm_e_go, pm_e_i, pm_e_ii, pm_e_ldi, pm_e_ldr, pm_e_lk, pm_e_r, pm_e_ri, pm_e_rm0, pm_e_rm1, pm_e_rs0, pm_e_rs1, pm_e_sw0, pm_e_sw1, pm_e_wp0, pm_e_wp1, pm_f2, pm_f3, pm_fld, pm_fv, pm_obj, pm_recv, pm_refs, pm_s_aaload, pm_s_aload, pm_s_aload_n, pm_s_astore, pm_s_bipush, pm_s_getfield, pm_s_goto, pm_s_iconst, pm_s_idiv, pm_s_ifCond_eq, pm_s_ifCond_ge, pm_s_ifCond_ne, pm_s_iload_n, pm_s_invokestatic, pm_s_invokevirtual, pm_s_ireturn, pm_s_putfield, pm_s_sipush, pm_s_tableswitch, ct_X6_forge, tt_X6_isWithin, tt_X6_refuse, tt_J9_floorMod_7cf53, pS, pR, pC, pE, pL, -Int32.not_le, -Int32.not_lt, -Int64.not_le, -Int64.not_lt, -List.getD_eq_getElem?_getD, sx_0]
      exact bad M hf pm_fr.rfl rfl rfl
    refine hb0 _ _ _ ?_
    simp (maxSteps := 2000000) [bk_X6_forge_0, bk_X6_forge_20, bk_X6_forge_26, bk_X6_forge_92, bk_X6_forge_104, bk_X6_forge_113, bk_X6_forge_122, bk_X6_forge_131, bk_X6_forge_144, bk_X6_forge_145, bk_X6_forge_146, bk_X6_forge_154, bk_X6_forge_161, bk_X6_forge_174, bk_X6_forge_179, bk_X6_forge_180, bk_X6_forge_187, pm_arr, pm_call, pm_e_c0, pm_e_c1, pm_e_cti, pm_e_ctl, pm_e_ctr, pm_e_go, pm_e_i, pm_e_ii, pm_e_ldi, pm_e_ldr, pm_e_lk, pm_e_r, pm_e_ri, pm_e_rm0, pm_e_rm1, pm_e_rs0, pm_e_rs1, pm_e_sw0, pm_e_sw1, pm_e_wp0, pm_e_wp1, pm_f2, pm_f3, pm_fld, pm_fv, pm_obj, pm_recv, pm_refs, pm_s_aaload, pm_s_aload, pm_s_aload_n, pm_s_astore, pm_s_bipush, pm_s_getfield, pm_s_goto, pm_s_iconst, pm_s_idiv, pm_s_ifCond_eq, pm_s_ifCond_ge, pm_s_ifCond_ne, pm_s_iload_n, pm_s_invokestatic, pm_s_invokevirtual, pm_s_ireturn, pm_s_putfield, pm_s_sipush, pm_s_tableswitch, ct_X6_forge, tt_X6_isWithin, tt_X6_refuse, tt_J9_floorMod_7cf53, pS, pR, pC, pE, pL, -Int32.not_le, -Int32.not_lt, -Int64.not_le, -Int64.not_lt, -List.getD_eq_getElem?_getD, lv_args, pb_eq0]
    refine ⟨fun h => h20 (by rw [h]; rfl), fun hx => ⟨fun hz => ?_, fun h => h20 (by rw [h]; simp)⟩⟩
    obtain ⟨x1, x2, x3⟩ := wi_tn (by decide) (by decide) hx
    obtain ⟨j, hj, ezj⟩ := z100 hz
    obtain ⟨s1, s2, s3, s4⟩ := tr_sx (show tn x < 6 by omega)
    rw [hx, hz] at hT bad
    simp only [Bool.true_and, Bool.and_true] at hT bad
    refine hb26 _ _ _ ?_
    simp (maxSteps := 2000000) [bk_X6_forge_0, bk_X6_forge_20, bk_X6_forge_26, bk_X6_forge_92, bk_X6_forge_104, bk_X6_forge_113, bk_X6_forge_122, bk_X6_forge_131, bk_X6_forge_144, bk_X6_forge_145, bk_X6_forge_146, bk_X6_forge_154, bk_X6_forge_161, bk_X6_forge_174, bk_X6_forge_179, bk_X6_forge_180, bk_X6_forge_187, pm_arr, pm_call, pm_e_c0, pm_e_c1, pm_e_cti, pm_e_ctl, pm_e_ctr, pm_e_go, pm_e_i, pm_e_ii, pm_e_ldi, pm_e_ldr, pm_e_lk, pm_e_r, pm_e_ri, pm_e_rm0, pm_e_rm1, pm_e_rs0, pm_e_rs1, pm_e_sw0, pm_e_sw1, pm_e_wp0, pm_e_wp1, pm_f2, pm_f3, pm_fld, pm_fv, pm_obj, pm_recv, pm_refs, pm_s_aaload, pm_s_aload, pm_s_aload_n, pm_s_astore, pm_s_bipush, pm_s_getfield, pm_s_goto, pm_s_iconst, pm_s_idiv, pm_s_ifCond_eq, pm_s_ifCond_ge, pm_s_ifCond_ne, pm_s_iload_n, pm_s_invokestatic, pm_s_invokevirtual, pm_s_ireturn, pm_s_putfield, pm_s_sipush, pm_s_tableswitch, ct_X6_forge, tt_X6_isWithin, tt_X6_refuse, tt_J9_floorMod_7cf53, pS, pR, pC, pE, pL, -Int32.not_le, -Int32.not_lt, -Int64.not_le, -Int64.not_lt, -List.getD_eq_getElem?_getD, sx_0, sx_14]
    have f1 : pm_fr [0] M (pm_set M 0 9 (nI 0)) := pm_fr.rfl.set (by decide)
    have e7 : (pm_set M 0 9 (nI 0)).1 0 7 = M.1 0 7 := by rw [me_1s, if_neg (by decide)]
    have e8 : (pm_set M 0 9 (nI 0)).1 0 8 = M.1 0 8 := by rw [me_1s, if_neg (by decide)]
    have e9 : (pm_set M 0 9 (nI 0)).1 0 9 = nI 0 := by rw [me_1s, if_pos rfl]
    have ht6 : tn x < 6 := by omega
    have hin : vp_in x 6 := by rw [x1, ni_in (by omega)]; omega
    have s3' : [15, 17, 19, 21, 23, 25].getD x.toNatClampNeg 0 = 15 + 2 * tn x := s3
    rw [s3']
    refine ⟨hin, ?_⟩
    have hTr := trs_mv hM.2.2.2.2.2.2.2 f1 (by decide) (tn x) (by omega)
    have hO := hA.2.2.2.2.2.2.2.1 (tn x) (by omega)
    generalize hM1 : pm_set M 0 9 (nI 0) = M1 at *
    -- an answer by its number
    have ak : ∀ w, y = nI w → w < 9 → ansK k M1 (fgN (aT A (tn x)) w z) := by
      intro w ey hw
      have hy : wi y (nI 0) (nI 8) = true := by
        rw [ey, wi_n (by omega) (by decide) (by decide)]; simp; omega
      rw [hy, if_pos rfl] at hT
      have etn : tn y = w := by rw [ey, tn_n (by omega)]
      rw [etn] at hT
      unfold ansK
      split
      · next q => exact hT M1 (hM.setQ f1 e7 e8 (by rw [e9, q]))
      · refine hT _ (hM.setQ (f1.set (by decide)) ?_ ?_ ?_)
        · rw [me_1s, if_neg (by decide)]; exact e7
        · rw [me_1s, if_neg (by decide)]; exact e8
        · rw [me_1s, if_pos rfl]
    refine ⟨fun h => ?_, fun h => ?_, fun h => ?_, fun h => ?_, fun h => ?_, fun h => ?_, fun h => ?_, fun h => ?_, fun h => ?_, fun h => ?_⟩
    · refine hb187 _ _ _ ?_
      simp (maxSteps := 2000000) [bk_X6_forge_0, bk_X6_forge_20, bk_X6_forge_26, bk_X6_forge_92, bk_X6_forge_104, bk_X6_forge_113, bk_X6_forge_122, bk_X6_forge_131, bk_X6_forge_144, bk_X6_forge_145, bk_X6_forge_146, bk_X6_forge_154, bk_X6_forge_161, bk_X6_forge_174, bk_X6_forge_179, bk_X6_forge_180, bk_X6_forge_187, pm_arr, pm_call, pm_e_c0, pm_e_c1, pm_e_cti, pm_e_ctl, pm_e_ctr, pm_e_go, pm_e_i, pm_e_ii, pm_e_ldi, pm_e_ldr, pm_e_lk, pm_e_r, pm_e_ri, pm_e_rm0, pm_e_rm1, pm_e_rs0, pm_e_rs1, pm_e_sw0, pm_e_sw1, pm_e_wp0, pm_e_wp1, pm_f2, pm_f3, pm_fld, pm_fv, pm_obj, pm_recv, pm_refs, pm_s_aaload, pm_s_aload, pm_s_aload_n, pm_s_astore, pm_s_bipush, pm_s_getfield, pm_s_goto, pm_s_iconst, pm_s_idiv, pm_s_ifCond_eq, pm_s_ifCond_ge, pm_s_ifCond_ne, pm_s_iload_n, pm_s_invokestatic, pm_s_invokevirtual, pm_s_ireturn, pm_s_putfield, pm_s_sipush, pm_s_tableswitch, ct_X6_forge, tt_X6_isWithin, tt_X6_refuse, tt_J9_floorMod_7cf53, pS, pR, pC, pE, pL, -Int32.not_le, -Int32.not_lt, -Int64.not_le, -Int64.not_lt, -List.getD_eq_getElem?_getD, sx_0]
      refine bad M1 ?_ f1 e7 e8
      cases q : wi y (nI 0) (nI 8) with
      | false => rfl
      | true =>
        obtain ⟨i, rfl, -, i2⟩ := wi_ex (by decide) (by decide) q
        rw [nI_toInt (by omega)] at h; omega
    · have hk := ak 0 (toInt_nI (by decide) h) (by decide)
      obtain ⟨m1, m2⟩ := kmod_n j hj
      rw [← ezj] at m1 m2
      refine hb92 _ _ _ ?_
      simp (maxSteps := 2000000) [bk_X6_forge_0, bk_X6_forge_20, bk_X6_forge_26, bk_X6_forge_92, bk_X6_forge_104, bk_X6_forge_113, bk_X6_forge_122, bk_X6_forge_131, bk_X6_forge_144, bk_X6_forge_145, bk_X6_forge_146, bk_X6_forge_154, bk_X6_forge_161, bk_X6_forge_174, bk_X6_forge_179, bk_X6_forge_180, bk_X6_forge_187, pm_arr, pm_call, pm_e_c0, pm_e_c1, pm_e_cti, pm_e_ctl, pm_e_ctr, pm_e_go, pm_e_i, pm_e_ii, pm_e_ldi, pm_e_ldr, pm_e_lk, pm_e_r, pm_e_ri, pm_e_rm0, pm_e_rm1, pm_e_rs0, pm_e_rs1, pm_e_sw0, pm_e_sw1, pm_e_wp0, pm_e_wp1, pm_f2, pm_f3, pm_fld, pm_fv, pm_obj, pm_recv, pm_refs, pm_s_aaload, pm_s_aload, pm_s_aload_n, pm_s_astore, pm_s_bipush, pm_s_getfield, pm_s_goto, pm_s_iconst, pm_s_idiv, pm_s_ifCond_eq, pm_s_ifCond_ge, pm_s_ifCond_ne, pm_s_iload_n, pm_s_invokestatic, pm_s_invokevirtual, pm_s_ireturn, pm_s_putfield, pm_s_sipush, pm_s_tableswitch, ct_X6_forge, tt_X6_isWithin, tt_X6_refuse, tt_J9_floorMod_7cf53, pS, pR, pC, pE, pL, -Int32.not_le, -Int32.not_lt, -Int64.not_le, -Int64.not_lt, -List.getD_eq_getElem?_getD, sx_0, show ¬ nI 5 = 0 by decide]
      rw [m2]
      refine ⟨tn x, _, z, ht6, rfl, m1, rfl, hTr, hO, ?_⟩
      refine ansK_imp (fun v M' hv => ?_) hk
      simp (maxSteps := 2000000) [bk_X6_forge_0, bk_X6_forge_20, bk_X6_forge_26, bk_X6_forge_92, bk_X6_forge_104, bk_X6_forge_113, bk_X6_forge_122, bk_X6_forge_131, bk_X6_forge_144, bk_X6_forge_145, bk_X6_forge_146, bk_X6_forge_154, bk_X6_forge_161, bk_X6_forge_174, bk_X6_forge_179, bk_X6_forge_180, bk_X6_forge_187, pm_arr, pm_call, pm_e_c0, pm_e_c1, pm_e_cti, pm_e_ctl, pm_e_ctr, pm_e_go, pm_e_i, pm_e_ii, pm_e_ldi, pm_e_ldr, pm_e_lk, pm_e_r, pm_e_ri, pm_e_rm0, pm_e_rm1, pm_e_rs0, pm_e_rs1, pm_e_sw0, pm_e_sw1, pm_e_wp0, pm_e_wp1, pm_f2, pm_f3, pm_fld, pm_fv, pm_obj, pm_recv, pm_refs, pm_s_aaload, pm_s_aload, pm_s_aload_n, pm_s_astore, pm_s_bipush, pm_s_getfield, pm_s_goto, pm_s_iconst, pm_s_idiv, pm_s_ifCond_eq, pm_s_ifCond_ge, pm_s_ifCond_ne, pm_s_iload_n, pm_s_invokestatic, pm_s_invokevirtual, pm_s_ireturn, pm_s_putfield, pm_s_sipush, pm_s_tableswitch, ct_X6_forge, tt_X6_isWithin, tt_X6_refuse, tt_J9_floorMod_7cf53, pS, pR, pC, pE, pL, -Int32.not_le, -Int32.not_lt, -Int64.not_le, -Int64.not_lt, -List.getD_eq_getElem?_getD]
      exact hv
    · have hk := ak 1 (toInt_nI (by decide) h) (by decide)
      refine hb104 _ _ _ ?_
      simp (maxSteps := 2000000) [bk_X6_forge_0, bk_X6_forge_20, bk_X6_forge_26, bk_X6_forge_92, bk_X6_forge_104, bk_X6_forge_113, bk_X6_forge_122, bk_X6_forge_131, bk_X6_forge_144, bk_X6_forge_145, bk_X6_forge_146, bk_X6_forge_154, bk_X6_forge_161, bk_X6_forge_174, bk_X6_forge_179, bk_X6_forge_180, bk_X6_forge_187, pm_arr, pm_call, pm_e_c0, pm_e_c1, pm_e_cti, pm_e_ctl, pm_e_ctr, pm_e_go, pm_e_i, pm_e_ii, pm_e_ldi, pm_e_ldr, pm_e_lk, pm_e_r, pm_e_ri, pm_e_rm0, pm_e_rm1, pm_e_rs0, pm_e_rs1, pm_e_sw0, pm_e_sw1, pm_e_wp0, pm_e_wp1, pm_f2, pm_f3, pm_fld, pm_fv, pm_obj, pm_recv, pm_refs, pm_s_aaload, pm_s_aload, pm_s_aload_n, pm_s_astore, pm_s_bipush, pm_s_getfield, pm_s_goto, pm_s_iconst, pm_s_idiv, pm_s_ifCond_eq, pm_s_ifCond_ge, pm_s_ifCond_ne, pm_s_iload_n, pm_s_invokestatic, pm_s_invokevirtual, pm_s_ireturn, pm_s_putfield, pm_s_sipush, pm_s_tableswitch, ct_X6_forge, tt_X6_isWithin, tt_X6_refuse, tt_J9_floorMod_7cf53, pS, pR, pC, pE, pL, -Int32.not_le, -Int32.not_lt, -Int64.not_le, -Int64.not_lt, -List.getD_eq_getElem?_getD, sx_0]
      refine ⟨tn x, _, 1, ht6, rfl, Or.inl rfl, rfl, hTr, hO, ?_⟩
      refine ansK_imp (fun v M' hv => ?_) hk
      simp (maxSteps := 2000000) [bk_X6_forge_0, bk_X6_forge_20, bk_X6_forge_26, bk_X6_forge_92, bk_X6_forge_104, bk_X6_forge_113, bk_X6_forge_122, bk_X6_forge_131, bk_X6_forge_144, bk_X6_forge_145, bk_X6_forge_146, bk_X6_forge_154, bk_X6_forge_161, bk_X6_forge_174, bk_X6_forge_179, bk_X6_forge_180, bk_X6_forge_187, pm_arr, pm_call, pm_e_c0, pm_e_c1, pm_e_cti, pm_e_ctl, pm_e_ctr, pm_e_go, pm_e_i, pm_e_ii, pm_e_ldi, pm_e_ldr, pm_e_lk, pm_e_r, pm_e_ri, pm_e_rm0, pm_e_rm1, pm_e_rs0, pm_e_rs1, pm_e_sw0, pm_e_sw1, pm_e_wp0, pm_e_wp1, pm_f2, pm_f3, pm_fld, pm_fv, pm_obj, pm_recv, pm_refs, pm_s_aaload, pm_s_aload, pm_s_aload_n, pm_s_astore, pm_s_bipush, pm_s_getfield, pm_s_goto, pm_s_iconst, pm_s_idiv, pm_s_ifCond_eq, pm_s_ifCond_ge, pm_s_ifCond_ne, pm_s_iload_n, pm_s_invokestatic, pm_s_invokevirtual, pm_s_ireturn, pm_s_putfield, pm_s_sipush, pm_s_tableswitch, ct_X6_forge, tt_X6_isWithin, tt_X6_refuse, tt_J9_floorMod_7cf53, pS, pR, pC, pE, pL, -Int32.not_le, -Int32.not_lt, -Int64.not_le, -Int64.not_lt, -List.getD_eq_getElem?_getD]
      exact hv
    · have hk := ak 2 (toInt_nI (by decide) h) (by decide)
      refine hb113 _ _ _ ?_
      simp (maxSteps := 2000000) [bk_X6_forge_0, bk_X6_forge_20, bk_X6_forge_26, bk_X6_forge_92, bk_X6_forge_104, bk_X6_forge_113, bk_X6_forge_122, bk_X6_forge_131, bk_X6_forge_144, bk_X6_forge_145, bk_X6_forge_146, bk_X6_forge_154, bk_X6_forge_161, bk_X6_forge_174, bk_X6_forge_179, bk_X6_forge_180, bk_X6_forge_187, pm_arr, pm_call, pm_e_c0, pm_e_c1, pm_e_cti, pm_e_ctl, pm_e_ctr, pm_e_go, pm_e_i, pm_e_ii, pm_e_ldi, pm_e_ldr, pm_e_lk, pm_e_r, pm_e_ri, pm_e_rm0, pm_e_rm1, pm_e_rs0, pm_e_rs1, pm_e_sw0, pm_e_sw1, pm_e_wp0, pm_e_wp1, pm_f2, pm_f3, pm_fld, pm_fv, pm_obj, pm_recv, pm_refs, pm_s_aaload, pm_s_aload, pm_s_aload_n, pm_s_astore, pm_s_bipush, pm_s_getfield, pm_s_goto, pm_s_iconst, pm_s_idiv, pm_s_ifCond_eq, pm_s_ifCond_ge, pm_s_ifCond_ne, pm_s_iload_n, pm_s_invokestatic, pm_s_invokevirtual, pm_s_ireturn, pm_s_putfield, pm_s_sipush, pm_s_tableswitch, ct_X6_forge, tt_X6_isWithin, tt_X6_refuse, tt_J9_floorMod_7cf53, pS, pR, pC, pE, pL, -Int32.not_le, -Int32.not_lt, -Int64.not_le, -Int64.not_lt, -List.getD_eq_getElem?_getD, sx_0]
      refine ⟨tn x, _, 2, ht6, rfl, Or.inr (Or.inl rfl), rfl, hTr, hO, ?_⟩
      refine ansK_imp (fun v M' hv => ?_) hk
      simp (maxSteps := 2000000) [bk_X6_forge_0, bk_X6_forge_20, bk_X6_forge_26, bk_X6_forge_92, bk_X6_forge_104, bk_X6_forge_113, bk_X6_forge_122, bk_X6_forge_131, bk_X6_forge_144, bk_X6_forge_145, bk_X6_forge_146, bk_X6_forge_154, bk_X6_forge_161, bk_X6_forge_174, bk_X6_forge_179, bk_X6_forge_180, bk_X6_forge_187, pm_arr, pm_call, pm_e_c0, pm_e_c1, pm_e_cti, pm_e_ctl, pm_e_ctr, pm_e_go, pm_e_i, pm_e_ii, pm_e_ldi, pm_e_ldr, pm_e_lk, pm_e_r, pm_e_ri, pm_e_rm0, pm_e_rm1, pm_e_rs0, pm_e_rs1, pm_e_sw0, pm_e_sw1, pm_e_wp0, pm_e_wp1, pm_f2, pm_f3, pm_fld, pm_fv, pm_obj, pm_recv, pm_refs, pm_s_aaload, pm_s_aload, pm_s_aload_n, pm_s_astore, pm_s_bipush, pm_s_getfield, pm_s_goto, pm_s_iconst, pm_s_idiv, pm_s_ifCond_eq, pm_s_ifCond_ge, pm_s_ifCond_ne, pm_s_iload_n, pm_s_invokestatic, pm_s_invokevirtual, pm_s_ireturn, pm_s_putfield, pm_s_sipush, pm_s_tableswitch, ct_X6_forge, tt_X6_isWithin, tt_X6_refuse, tt_J9_floorMod_7cf53, pS, pR, pC, pE, pL, -Int32.not_le, -Int32.not_lt, -Int64.not_le, -Int64.not_lt, -List.getD_eq_getElem?_getD]
      exact hv
    · have hk := ak 3 (toInt_nI (by decide) h) (by decide)
      refine hb122 _ _ _ ?_
      simp (maxSteps := 2000000) [bk_X6_forge_0, bk_X6_forge_20, bk_X6_forge_26, bk_X6_forge_92, bk_X6_forge_104, bk_X6_forge_113, bk_X6_forge_122, bk_X6_forge_131, bk_X6_forge_144, bk_X6_forge_145, bk_X6_forge_146, bk_X6_forge_154, bk_X6_forge_161, bk_X6_forge_174, bk_X6_forge_179, bk_X6_forge_180, bk_X6_forge_187, pm_arr, pm_call, pm_e_c0, pm_e_c1, pm_e_cti, pm_e_ctl, pm_e_ctr, pm_e_go, pm_e_i, pm_e_ii, pm_e_ldi, pm_e_ldr, pm_e_lk, pm_e_r, pm_e_ri, pm_e_rm0, pm_e_rm1, pm_e_rs0, pm_e_rs1, pm_e_sw0, pm_e_sw1, pm_e_wp0, pm_e_wp1, pm_f2, pm_f3, pm_fld, pm_fv, pm_obj, pm_recv, pm_refs, pm_s_aaload, pm_s_aload, pm_s_aload_n, pm_s_astore, pm_s_bipush, pm_s_getfield, pm_s_goto, pm_s_iconst, pm_s_idiv, pm_s_ifCond_eq, pm_s_ifCond_ge, pm_s_ifCond_ne, pm_s_iload_n, pm_s_invokestatic, pm_s_invokevirtual, pm_s_ireturn, pm_s_putfield, pm_s_sipush, pm_s_tableswitch, ct_X6_forge, tt_X6_isWithin, tt_X6_refuse, tt_J9_floorMod_7cf53, pS, pR, pC, pE, pL, -Int32.not_le, -Int32.not_lt, -Int64.not_le, -Int64.not_lt, -List.getD_eq_getElem?_getD, sx_0]
      refine ⟨tn x, _, 3, ht6, rfl, Or.inr (Or.inr rfl), rfl, hTr, hO, ?_⟩
      refine ansK_imp (fun v M' hv => ?_) hk
      simp (maxSteps := 2000000) [bk_X6_forge_0, bk_X6_forge_20, bk_X6_forge_26, bk_X6_forge_92, bk_X6_forge_104, bk_X6_forge_113, bk_X6_forge_122, bk_X6_forge_131, bk_X6_forge_144, bk_X6_forge_145, bk_X6_forge_146, bk_X6_forge_154, bk_X6_forge_161, bk_X6_forge_174, bk_X6_forge_179, bk_X6_forge_180, bk_X6_forge_187, pm_arr, pm_call, pm_e_c0, pm_e_c1, pm_e_cti, pm_e_ctl, pm_e_ctr, pm_e_go, pm_e_i, pm_e_ii, pm_e_ldi, pm_e_ldr, pm_e_lk, pm_e_r, pm_e_ri, pm_e_rm0, pm_e_rm1, pm_e_rs0, pm_e_rs1, pm_e_sw0, pm_e_sw1, pm_e_wp0, pm_e_wp1, pm_f2, pm_f3, pm_fld, pm_fv, pm_obj, pm_recv, pm_refs, pm_s_aaload, pm_s_aload, pm_s_aload_n, pm_s_astore, pm_s_bipush, pm_s_getfield, pm_s_goto, pm_s_iconst, pm_s_idiv, pm_s_ifCond_eq, pm_s_ifCond_ge, pm_s_ifCond_ne, pm_s_iload_n, pm_s_invokestatic, pm_s_invokevirtual, pm_s_ireturn, pm_s_putfield, pm_s_sipush, pm_s_tableswitch, ct_X6_forge, tt_X6_isWithin, tt_X6_refuse, tt_J9_floorMod_7cf53, pS, pR, pC, pE, pL, -Int32.not_le, -Int32.not_lt, -Int64.not_le, -Int64.not_lt, -List.getD_eq_getElem?_getD]
      exact hv
    · have hk := ak 4 (toInt_nI (by decide) h) (by decide)
      have eF : fgN (aT A (tn x)) 4 z = (if z < 0 then (-nI 1, 13) else (z, 0)) := rfl
      rw [eF] at hk
      have h145 : ∀ M' v, k (some (.int v)) M' → X 145 [] [.int v] M' := by
        intro M' v hv
        refine hb145 _ _ _ ?_
        simp (maxSteps := 2000000) [bk_X6_forge_0, bk_X6_forge_20, bk_X6_forge_26, bk_X6_forge_92, bk_X6_forge_104, bk_X6_forge_113, bk_X6_forge_122, bk_X6_forge_131, bk_X6_forge_144, bk_X6_forge_145, bk_X6_forge_146, bk_X6_forge_154, bk_X6_forge_161, bk_X6_forge_174, bk_X6_forge_179, bk_X6_forge_180, bk_X6_forge_187, pm_arr, pm_call, pm_e_c0, pm_e_c1, pm_e_cti, pm_e_ctl, pm_e_ctr, pm_e_go, pm_e_i, pm_e_ii, pm_e_ldi, pm_e_ldr, pm_e_lk, pm_e_r, pm_e_ri, pm_e_rm0, pm_e_rm1, pm_e_rs0, pm_e_rs1, pm_e_sw0, pm_e_sw1, pm_e_wp0, pm_e_wp1, pm_f2, pm_f3, pm_fld, pm_fv, pm_obj, pm_recv, pm_refs, pm_s_aaload, pm_s_aload, pm_s_aload_n, pm_s_astore, pm_s_bipush, pm_s_getfield, pm_s_goto, pm_s_iconst, pm_s_idiv, pm_s_ifCond_eq, pm_s_ifCond_ge, pm_s_ifCond_ne, pm_s_iload_n, pm_s_invokestatic, pm_s_invokevirtual, pm_s_ireturn, pm_s_putfield, pm_s_sipush, pm_s_tableswitch, ct_X6_forge, tt_X6_isWithin, tt_X6_refuse, tt_J9_floorMod_7cf53, pS, pR, pC, pE, pL, -Int32.not_le, -Int32.not_lt, -Int64.not_le, -Int64.not_lt, -List.getD_eq_getElem?_getD]
        exact hv
      refine hb131 _ _ _ ?_
      simp (maxSteps := 2000000) [bk_X6_forge_0, bk_X6_forge_20, bk_X6_forge_26, bk_X6_forge_92, bk_X6_forge_104, bk_X6_forge_113, bk_X6_forge_122, bk_X6_forge_131, bk_X6_forge_144, bk_X6_forge_145, bk_X6_forge_146, bk_X6_forge_154, bk_X6_forge_161, bk_X6_forge_174, bk_X6_forge_179, bk_X6_forge_180, bk_X6_forge_187, pm_arr, pm_call, pm_e_c0, pm_e_c1, pm_e_cti, pm_e_ctl, pm_e_ctr, pm_e_go, pm_e_i, pm_e_ii, pm_e_ldi, pm_e_ldr, pm_e_lk, pm_e_r, pm_e_ri, pm_e_rm0, pm_e_rm1, pm_e_rs0, pm_e_rs1, pm_e_sw0, pm_e_sw1, pm_e_wp0, pm_e_wp1, pm_f2, pm_f3, pm_fld, pm_fv, pm_obj, pm_recv, pm_refs, pm_s_aaload, pm_s_aload, pm_s_aload_n, pm_s_astore, pm_s_bipush, pm_s_getfield, pm_s_goto, pm_s_iconst, pm_s_idiv, pm_s_ifCond_eq, pm_s_ifCond_ge, pm_s_ifCond_ne, pm_s_iload_n, pm_s_invokestatic, pm_s_invokevirtual, pm_s_ireturn, pm_s_putfield, pm_s_sipush, pm_s_tableswitch, ct_X6_forge, tt_X6_isWithin, tt_X6_refuse, tt_J9_floorMod_7cf53, pS, pR, pC, pE, pL, -Int32.not_le, -Int32.not_lt, -Int64.not_le, -Int64.not_lt, -List.getD_eq_getElem?_getD, sx_0]
      refine ⟨fun q => ?_, fun q => ?_⟩
      · rw [if_neg (Int32.not_lt.mpr q)] at hk
        refine hb144 _ _ _ ?_
        simp (maxSteps := 2000000) [bk_X6_forge_0, bk_X6_forge_20, bk_X6_forge_26, bk_X6_forge_92, bk_X6_forge_104, bk_X6_forge_113, bk_X6_forge_122, bk_X6_forge_131, bk_X6_forge_144, bk_X6_forge_145, bk_X6_forge_146, bk_X6_forge_154, bk_X6_forge_161, bk_X6_forge_174, bk_X6_forge_179, bk_X6_forge_180, bk_X6_forge_187, pm_arr, pm_call, pm_e_c0, pm_e_c1, pm_e_cti, pm_e_ctl, pm_e_ctr, pm_e_go, pm_e_i, pm_e_ii, pm_e_ldi, pm_e_ldr, pm_e_lk, pm_e_r, pm_e_ri, pm_e_rm0, pm_e_rm1, pm_e_rs0, pm_e_rs1, pm_e_sw0, pm_e_sw1, pm_e_wp0, pm_e_wp1, pm_f2, pm_f3, pm_fld, pm_fv, pm_obj, pm_recv, pm_refs, pm_s_aaload, pm_s_aload, pm_s_aload_n, pm_s_astore, pm_s_bipush, pm_s_getfield, pm_s_goto, pm_s_iconst, pm_s_idiv, pm_s_ifCond_eq, pm_s_ifCond_ge, pm_s_ifCond_ne, pm_s_iload_n, pm_s_invokestatic, pm_s_invokevirtual, pm_s_ireturn, pm_s_putfield, pm_s_sipush, pm_s_tableswitch, ct_X6_forge, tt_X6_isWithin, tt_X6_refuse, tt_J9_floorMod_7cf53, pS, pR, pC, pE, pL, -Int32.not_le, -Int32.not_lt, -Int64.not_le, -Int64.not_lt, -List.getD_eq_getElem?_getD]
        exact h145 _ _ (ansK_0 hk)
      · rw [if_pos (Int32.not_le.mp q)] at hk
        exact h145 _ _ (ansK_n (by decide) hk)
    · have hk := ak 5 (toInt_nI (by decide) h) (by decide)
      refine hb146 _ _ _ ?_
      simp (maxSteps := 2000000) [bk_X6_forge_0, bk_X6_forge_20, bk_X6_forge_26, bk_X6_forge_92, bk_X6_forge_104, bk_X6_forge_113, bk_X6_forge_122, bk_X6_forge_131, bk_X6_forge_144, bk_X6_forge_145, bk_X6_forge_146, bk_X6_forge_154, bk_X6_forge_161, bk_X6_forge_174, bk_X6_forge_179, bk_X6_forge_180, bk_X6_forge_187, pm_arr, pm_call, pm_e_c0, pm_e_c1, pm_e_cti, pm_e_ctl, pm_e_ctr, pm_e_go, pm_e_i, pm_e_ii, pm_e_ldi, pm_e_ldr, pm_e_lk, pm_e_r, pm_e_ri, pm_e_rm0, pm_e_rm1, pm_e_rs0, pm_e_rs1, pm_e_sw0, pm_e_sw1, pm_e_wp0, pm_e_wp1, pm_f2, pm_f3, pm_fld, pm_fv, pm_obj, pm_recv, pm_refs, pm_s_aaload, pm_s_aload, pm_s_aload_n, pm_s_astore, pm_s_bipush, pm_s_getfield, pm_s_goto, pm_s_iconst, pm_s_idiv, pm_s_ifCond_eq, pm_s_ifCond_ge, pm_s_ifCond_ne, pm_s_iload_n, pm_s_invokestatic, pm_s_invokevirtual, pm_s_ireturn, pm_s_putfield, pm_s_sipush, pm_s_tableswitch, ct_X6_forge, tt_X6_isWithin, tt_X6_refuse, tt_J9_floorMod_7cf53, pS, pR, pC, pE, pL, -Int32.not_le, -Int32.not_lt, -Int64.not_le, -Int64.not_lt, -List.getD_eq_getElem?_getD, sx_0]
      refine ⟨tn x, _, j, ht6, rfl, hj, ezj, hTr, hO, ?_⟩
      refine ansK_imp (fun v M' hv => ?_) hk
      simp (maxSteps := 2000000) [bk_X6_forge_0, bk_X6_forge_20, bk_X6_forge_26, bk_X6_forge_92, bk_X6_forge_104, bk_X6_forge_113, bk_X6_forge_122, bk_X6_forge_131, bk_X6_forge_144, bk_X6_forge_145, bk_X6_forge_146, bk_X6_forge_154, bk_X6_forge_161, bk_X6_forge_174, bk_X6_forge_179, bk_X6_forge_180, bk_X6_forge_187, pm_arr, pm_call, pm_e_c0, pm_e_c1, pm_e_cti, pm_e_ctl, pm_e_ctr, pm_e_go, pm_e_i, pm_e_ii, pm_e_ldi, pm_e_ldr, pm_e_lk, pm_e_r, pm_e_ri, pm_e_rm0, pm_e_rm1, pm_e_rs0, pm_e_rs1, pm_e_sw0, pm_e_sw1, pm_e_wp0, pm_e_wp1, pm_f2, pm_f3, pm_fld, pm_fv, pm_obj, pm_recv, pm_refs, pm_s_aaload, pm_s_aload, pm_s_aload_n, pm_s_astore, pm_s_bipush, pm_s_getfield, pm_s_goto, pm_s_iconst, pm_s_idiv, pm_s_ifCond_eq, pm_s_ifCond_ge, pm_s_ifCond_ne, pm_s_iload_n, pm_s_invokestatic, pm_s_invokevirtual, pm_s_ireturn, pm_s_putfield, pm_s_sipush, pm_s_tableswitch, ct_X6_forge, tt_X6_isWithin, tt_X6_refuse, tt_J9_floorMod_7cf53, pS, pR, pC, pE, pL, -Int32.not_le, -Int32.not_lt, -Int64.not_le, -Int64.not_lt, -List.getD_eq_getElem?_getD]
      exact hv
    · have hk := ak 6 (toInt_nI (by decide) h) (by decide)
      refine hb154 _ _ _ ?_
      simp (maxSteps := 2000000) [bk_X6_forge_0, bk_X6_forge_20, bk_X6_forge_26, bk_X6_forge_92, bk_X6_forge_104, bk_X6_forge_113, bk_X6_forge_122, bk_X6_forge_131, bk_X6_forge_144, bk_X6_forge_145, bk_X6_forge_146, bk_X6_forge_154, bk_X6_forge_161, bk_X6_forge_174, bk_X6_forge_179, bk_X6_forge_180, bk_X6_forge_187, pm_arr, pm_call, pm_e_c0, pm_e_c1, pm_e_cti, pm_e_ctl, pm_e_ctr, pm_e_go, pm_e_i, pm_e_ii, pm_e_ldi, pm_e_ldr, pm_e_lk, pm_e_r, pm_e_ri, pm_e_rm0, pm_e_rm1, pm_e_rs0, pm_e_rs1, pm_e_sw0, pm_e_sw1, pm_e_wp0, pm_e_wp1, pm_f2, pm_f3, pm_fld, pm_fv, pm_obj, pm_recv, pm_refs, pm_s_aaload, pm_s_aload, pm_s_aload_n, pm_s_astore, pm_s_bipush, pm_s_getfield, pm_s_goto, pm_s_iconst, pm_s_idiv, pm_s_ifCond_eq, pm_s_ifCond_ge, pm_s_ifCond_ne, pm_s_iload_n, pm_s_invokestatic, pm_s_invokevirtual, pm_s_ireturn, pm_s_putfield, pm_s_sipush, pm_s_tableswitch, ct_X6_forge, tt_X6_isWithin, tt_X6_refuse, tt_J9_floorMod_7cf53, pS, pR, pC, pE, pL, -Int32.not_le, -Int32.not_lt, -Int64.not_le, -Int64.not_lt, -List.getD_eq_getElem?_getD, sx_0]
      refine ⟨tn x, _, z, ht6, rfl, hTr, hO, ?_⟩
      refine ansK_imp (fun v M' hv => ?_) hk
      simp (maxSteps := 2000000) [bk_X6_forge_0, bk_X6_forge_20, bk_X6_forge_26, bk_X6_forge_92, bk_X6_forge_104, bk_X6_forge_113, bk_X6_forge_122, bk_X6_forge_131, bk_X6_forge_144, bk_X6_forge_145, bk_X6_forge_146, bk_X6_forge_154, bk_X6_forge_161, bk_X6_forge_174, bk_X6_forge_179, bk_X6_forge_180, bk_X6_forge_187, pm_arr, pm_call, pm_e_c0, pm_e_c1, pm_e_cti, pm_e_ctl, pm_e_ctr, pm_e_go, pm_e_i, pm_e_ii, pm_e_ldi, pm_e_ldr, pm_e_lk, pm_e_r, pm_e_ri, pm_e_rm0, pm_e_rm1, pm_e_rs0, pm_e_rs1, pm_e_sw0, pm_e_sw1, pm_e_wp0, pm_e_wp1, pm_f2, pm_f3, pm_fld, pm_fv, pm_obj, pm_recv, pm_refs, pm_s_aaload, pm_s_aload, pm_s_aload_n, pm_s_astore, pm_s_bipush, pm_s_getfield, pm_s_goto, pm_s_iconst, pm_s_idiv, pm_s_ifCond_eq, pm_s_ifCond_ge, pm_s_ifCond_ne, pm_s_iload_n, pm_s_invokestatic, pm_s_invokevirtual, pm_s_ireturn, pm_s_putfield, pm_s_sipush, pm_s_tableswitch, ct_X6_forge, tt_X6_isWithin, tt_X6_refuse, tt_J9_floorMod_7cf53, pS, pR, pC, pE, pL, -Int32.not_le, -Int32.not_lt, -Int64.not_le, -Int64.not_lt, -List.getD_eq_getElem?_getD]
      exact hv
    · have hk := ak 7 (toInt_nI (by decide) h) (by decide)
      have eF : fgN (aT A (tn x)) 7 z = (if z = 0 then (-nI 1, 15) else (nI 1000 / z, 0)) := rfl
      rw [eF] at hk
      have h179 : ∀ M' v, k (some (.int v)) M' → X 179 [] [.int v] M' := by
        intro M' v hv
        refine hb179 _ _ _ ?_
        simp (maxSteps := 2000000) [bk_X6_forge_0, bk_X6_forge_20, bk_X6_forge_26, bk_X6_forge_92, bk_X6_forge_104, bk_X6_forge_113, bk_X6_forge_122, bk_X6_forge_131, bk_X6_forge_144, bk_X6_forge_145, bk_X6_forge_146, bk_X6_forge_154, bk_X6_forge_161, bk_X6_forge_174, bk_X6_forge_179, bk_X6_forge_180, bk_X6_forge_187, pm_arr, pm_call, pm_e_c0, pm_e_c1, pm_e_cti, pm_e_ctl, pm_e_ctr, pm_e_go, pm_e_i, pm_e_ii, pm_e_ldi, pm_e_ldr, pm_e_lk, pm_e_r, pm_e_ri, pm_e_rm0, pm_e_rm1, pm_e_rs0, pm_e_rs1, pm_e_sw0, pm_e_sw1, pm_e_wp0, pm_e_wp1, pm_f2, pm_f3, pm_fld, pm_fv, pm_obj, pm_recv, pm_refs, pm_s_aaload, pm_s_aload, pm_s_aload_n, pm_s_astore, pm_s_bipush, pm_s_getfield, pm_s_goto, pm_s_iconst, pm_s_idiv, pm_s_ifCond_eq, pm_s_ifCond_ge, pm_s_ifCond_ne, pm_s_iload_n, pm_s_invokestatic, pm_s_invokevirtual, pm_s_ireturn, pm_s_putfield, pm_s_sipush, pm_s_tableswitch, ct_X6_forge, tt_X6_isWithin, tt_X6_refuse, tt_J9_floorMod_7cf53, pS, pR, pC, pE, pL, -Int32.not_le, -Int32.not_lt, -Int64.not_le, -Int64.not_lt, -List.getD_eq_getElem?_getD]
        exact hv
      refine hb161 _ _ _ ?_
      simp (maxSteps := 2000000) [bk_X6_forge_0, bk_X6_forge_20, bk_X6_forge_26, bk_X6_forge_92, bk_X6_forge_104, bk_X6_forge_113, bk_X6_forge_122, bk_X6_forge_131, bk_X6_forge_144, bk_X6_forge_145, bk_X6_forge_146, bk_X6_forge_154, bk_X6_forge_161, bk_X6_forge_174, bk_X6_forge_179, bk_X6_forge_180, bk_X6_forge_187, pm_arr, pm_call, pm_e_c0, pm_e_c1, pm_e_cti, pm_e_ctl, pm_e_ctr, pm_e_go, pm_e_i, pm_e_ii, pm_e_ldi, pm_e_ldr, pm_e_lk, pm_e_r, pm_e_ri, pm_e_rm0, pm_e_rm1, pm_e_rs0, pm_e_rs1, pm_e_sw0, pm_e_sw1, pm_e_wp0, pm_e_wp1, pm_f2, pm_f3, pm_fld, pm_fv, pm_obj, pm_recv, pm_refs, pm_s_aaload, pm_s_aload, pm_s_aload_n, pm_s_astore, pm_s_bipush, pm_s_getfield, pm_s_goto, pm_s_iconst, pm_s_idiv, pm_s_ifCond_eq, pm_s_ifCond_ge, pm_s_ifCond_ne, pm_s_iload_n, pm_s_invokestatic, pm_s_invokevirtual, pm_s_ireturn, pm_s_putfield, pm_s_sipush, pm_s_tableswitch, ct_X6_forge, tt_X6_isWithin, tt_X6_refuse, tt_J9_floorMod_7cf53, pS, pR, pC, pE, pL, -Int32.not_le, -Int32.not_lt, -Int64.not_le, -Int64.not_lt, -List.getD_eq_getElem?_getD, sx_0]
      refine ⟨fun q => ?_, fun q => ?_⟩
      · rw [if_neg q] at hk
        refine hb174 _ _ _ ?_
        simp (maxSteps := 2000000) [bk_X6_forge_0, bk_X6_forge_20, bk_X6_forge_26, bk_X6_forge_92, bk_X6_forge_104, bk_X6_forge_113, bk_X6_forge_122, bk_X6_forge_131, bk_X6_forge_144, bk_X6_forge_145, bk_X6_forge_146, bk_X6_forge_154, bk_X6_forge_161, bk_X6_forge_174, bk_X6_forge_179, bk_X6_forge_180, bk_X6_forge_187, pm_arr, pm_call, pm_e_c0, pm_e_c1, pm_e_cti, pm_e_ctl, pm_e_ctr, pm_e_go, pm_e_i, pm_e_ii, pm_e_ldi, pm_e_ldr, pm_e_lk, pm_e_r, pm_e_ri, pm_e_rm0, pm_e_rm1, pm_e_rs0, pm_e_rs1, pm_e_sw0, pm_e_sw1, pm_e_wp0, pm_e_wp1, pm_f2, pm_f3, pm_fld, pm_fv, pm_obj, pm_recv, pm_refs, pm_s_aaload, pm_s_aload, pm_s_aload_n, pm_s_astore, pm_s_bipush, pm_s_getfield, pm_s_goto, pm_s_iconst, pm_s_idiv, pm_s_ifCond_eq, pm_s_ifCond_ge, pm_s_ifCond_ne, pm_s_iload_n, pm_s_invokestatic, pm_s_invokevirtual, pm_s_ireturn, pm_s_putfield, pm_s_sipush, pm_s_tableswitch, ct_X6_forge, tt_X6_isWithin, tt_X6_refuse, tt_J9_floorMod_7cf53, pS, pR, pC, pE, pL, -Int32.not_le, -Int32.not_lt, -Int64.not_le, -Int64.not_lt, -List.getD_eq_getElem?_getD]
        exact ⟨q, h179 _ _ (ansK_0 hk)⟩
      · rw [if_pos q] at hk
        exact h179 _ _ (ansK_n (by decide) hk)
    · have hk := ak 8 (toInt_nI (by decide) h) (by decide)
      have eF : fgN (aT A (tn x)) 8 z = (-nI 1, 10) := rfl
      rw [eF] at hk
      refine hb180 _ _ _ ?_
      simp (maxSteps := 2000000) [bk_X6_forge_0, bk_X6_forge_20, bk_X6_forge_26, bk_X6_forge_92, bk_X6_forge_104, bk_X6_forge_113, bk_X6_forge_122, bk_X6_forge_131, bk_X6_forge_144, bk_X6_forge_145, bk_X6_forge_146, bk_X6_forge_154, bk_X6_forge_161, bk_X6_forge_174, bk_X6_forge_179, bk_X6_forge_180, bk_X6_forge_187, pm_arr, pm_call, pm_e_c0, pm_e_c1, pm_e_cti, pm_e_ctl, pm_e_ctr, pm_e_go, pm_e_i, pm_e_ii, pm_e_ldi, pm_e_ldr, pm_e_lk, pm_e_r, pm_e_ri, pm_e_rm0, pm_e_rm1, pm_e_rs0, pm_e_rs1, pm_e_sw0, pm_e_sw1, pm_e_wp0, pm_e_wp1, pm_f2, pm_f3, pm_fld, pm_fv, pm_obj, pm_recv, pm_refs, pm_s_aaload, pm_s_aload, pm_s_aload_n, pm_s_astore, pm_s_bipush, pm_s_getfield, pm_s_goto, pm_s_iconst, pm_s_idiv, pm_s_ifCond_eq, pm_s_ifCond_ge, pm_s_ifCond_ne, pm_s_iload_n, pm_s_invokestatic, pm_s_invokevirtual, pm_s_ireturn, pm_s_putfield, pm_s_sipush, pm_s_tableswitch, ct_X6_forge, tt_X6_isWithin, tt_X6_refuse, tt_J9_floorMod_7cf53, pS, pR, pC, pE, pL, -Int32.not_le, -Int32.not_lt, -Int64.not_le, -Int64.not_lt, -List.getD_eq_getElem?_getD, sx_0]
      exact ansK_n (by decide) hk
  · exact hT.elim
