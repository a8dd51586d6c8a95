/-- a stand more is kept: 64 to go back to -/
def kpH (H : Nat → St) (pr : Nat) (S : St) : Nat → St := if pr < 64 then up H (pr + 1) S else up (fun i => H (i + 1)) 64 S
def tt_X1_keep : pm_T := fun args M k => match args with
  | [.ref 11, .ref 5] => ∃ ec S H pr la, SdX M 5 ec S ∧ tot S ≤ 12 ∧ HsX M H pr la ∧ ∀ M', HsX M' (kpH H pr S) (min (pr + 1) 64) (min (pr + 1) 64) → pm_fr [10, 11, 12, 13] M M' → k none M'
  | _ => False
abbrev ct_X1_keep : List pm_C := [(false, 24, 1, 2, none, tt_X1_write)]
set_option maxHeartbeats 4000000 in
theorem sm_X1_keep  : pm_Sem SHx yX1_keep cX1_keep 2 none 4 tt_X1_keep := by
  refine pm_Sem_intro bl_X1_keep ct_X1_keep cs_X1_keep rfl (List.forall_mem_cons.mpr ⟨⟨_, _, _, _, sm_X1_write, by decide, cm_X1_write, by decide +kernel⟩, fun _ h => absurd h List.not_mem_nil⟩) ck_X1_keep (by decide +kernel) (by decide) ?_
  intro X k hX args M hT
  have hb0 := hX 0 bk_X1_keep_0 (List.mem_of_getElem? (i := 0) rfl)
  have hb22 := hX 22 bk_X1_keep_22 (List.mem_of_getElem? (i := 1) rfl)
  have hb52 := hX 52 bk_X1_keep_52 (List.mem_of_getElem? (i := 2) rfl)
  clear hX
  unfold tt_X1_keep at hT; split at hT
  · obtain ⟨ec, S, H, pr, la, hS, ht, hH, hT⟩ := hT
    obtain ⟨l1, l2, m2, m3, hk⟩ := id hH
    refine ⟨by simp [lg_sl, Value.category], ?_⟩
    have h52 : ∀ M1, M1.1 11 2 = nI (min (pr + 1) 64) → (∀ i, i < min (pr + 1) 64 → M1.2 12 i = lN (fkN (kpH H pr S i)) ∧ M1.1 13 i = nI (arN (kpH H pr S i))) → pm_fr [11, 12, 13] M M1 → X 52 [(0, .ref 11), (1, .ref 5)] [] M1 := by
      intro M1 e1 e2 f1
      have eS : kpH H pr S (min (pr + 1) 64) = S := by
        unfold kpH; split
        · next q => rw [show min (pr + 1) 64 = pr + 1 by omega, up_s]
        · next q => rw [show min (pr + 1) 64 = 64 by omega, up_s]
      refine hb52 _ _ _ ?_
      simp (maxSteps := 2000000) [bk_X1_keep_0, bk_X1_keep_22, bk_X1_keep_52, pm_arr, pm_call, pm_e_c0, pm_e_c1, pm_e_cp, pm_e_cti, pm_e_ctl, pm_e_ctr, pm_e_go, pm_e_ii, pm_e_ldr, pm_e_lk, pm_e_r, pm_e_rm0, pm_e_rm1, pm_e_rs0, pm_e_rs1, pm_e_v1, pm_e_wp0, pm_e_wp1, pm_f2, pm_f3, pm_fld, pm_fv, pm_obj, pm_recv, pm_s_aload_n, pm_s_bipush, pm_s_copy, pm_s_copyL, pm_s_dup, pm_s_getfield, pm_s_goto, pm_s_iadd, pm_s_iconst, pm_s_if_icmp_ge, pm_s_invokestatic, pm_s_invokevirtual, pm_s_putfield, pm_s_return, ct_X1_keep, pS, pR, pC, pE, pL, -Int32.not_le, -Int32.not_lt, -Int64.not_le, -Int64.not_lt, -List.getD_eq_getElem?_getD, sx_11, e1]
      have f2 : pm_fr [11] M1 (pm_set M1 11 3 (nI (min (pr + 1) 64))) := pm_fr.rfl.set (by simp)
      refine ⟨ec, S, min (pr + 1) 64, (hS.moved f1 (by decide)).moved f2 (by decide), ht, by simpa [pm_set] using e1, by omega, fun M2 g1 g2 f3 => ?_⟩
      simp (maxSteps := 2000000) [bk_X1_keep_0, bk_X1_keep_22, bk_X1_keep_52, pm_arr, pm_call, pm_e_c0, pm_e_c1, pm_e_cp, pm_e_cti, pm_e_ctl, pm_e_ctr, pm_e_go, pm_e_ii, pm_e_ldr, pm_e_lk, pm_e_r, pm_e_rm0, pm_e_rm1, pm_e_rs0, pm_e_rs1, pm_e_v1, pm_e_wp0, pm_e_wp1, pm_f2, pm_f3, pm_fld, pm_fv, pm_obj, pm_recv, pm_s_aload_n, pm_s_bipush, pm_s_copy, pm_s_copyL, pm_s_dup, pm_s_getfield, pm_s_goto, pm_s_iadd, pm_s_iconst, pm_s_if_icmp_ge, pm_s_invokestatic, pm_s_invokevirtual, pm_s_putfield, pm_s_return, ct_X1_keep, pS, pR, pC, pE, pL, -Int32.not_le, -Int32.not_lt, -Int64.not_le, -Int64.not_lt, -List.getD_eq_getElem?_getD]
      refine hT M2 ⟨Nat.le_refl _, by omega, ?_, ?_, fun i hi => ?_⟩ (((f1.mono (by simp)).trans (f2.mono (by simp))).trans (f3.mono (by simp)))
      · rw [f3.i (by simp)]; simpa [pm_set] using e1
      · rw [f3.i (by simp)]; simp [pm_set]
      · rw [g1 i, g2 i]
        by_cases z : i = min (pr + 1) 64
        · rw [if_pos z, if_pos z, z, eS]; exact ⟨rfl, rfl⟩
        · rw [if_neg z, if_neg z, f2.l (by simp), f2.i (by simp)]; exact e2 i (by omega)
    refine hb0 _ _ _ ?_
    simp (maxSteps := 2000000) [bk_X1_keep_0, bk_X1_keep_22, bk_X1_keep_52, pm_arr, pm_call, pm_e_c0, pm_e_c1, pm_e_cp, pm_e_cti, pm_e_ctl, pm_e_ctr, pm_e_go, pm_e_ii, pm_e_ldr, pm_e_lk, pm_e_r, pm_e_rm0, pm_e_rm1, pm_e_rs0, pm_e_rs1, pm_e_v1, pm_e_wp0, pm_e_wp1, pm_f2, pm_f3, pm_fld, pm_fv, pm_obj, pm_recv, pm_s_aload_n, pm_s_bipush, pm_s_copy, pm_s_copyL, pm_s_dup, pm_s_getfield, pm_s_goto, pm_s_iadd, pm_s_iconst, pm_s_if_icmp_ge, pm_s_invokestatic, pm_s_invokevirtual, pm_s_putfield, pm_s_return, ct_X1_keep, pS, pR, pC, pE, pL, -Int32.not_le, -Int32.not_lt, -Int64.not_le, -Int64.not_lt, -List.getD_eq_getElem?_getD, lv_args, sx_11, m2]
    simp (disch := omega) only [ni_in, ni_cl, ni_add, ni_mul, ni_sub, ni_lt, ni_le, ni_eq, ni_eq0, ni_lt0, ni_0le, ni_0lt, ni_le0, ni_a1, ni_a3, ni_a7, ni_a15]
    refine ⟨fun h => ?_, fun h => ?_⟩
    · have e64 : pr = 64 := by omega
      refine hb22 _ _ _ ?_
      simp (maxSteps := 2000000) [bk_X1_keep_0, bk_X1_keep_22, bk_X1_keep_52, pm_arr, pm_call, pm_e_c0, pm_e_c1, pm_e_cp, pm_e_cti, pm_e_ctl, pm_e_ctr, pm_e_go, pm_e_ii, pm_e_ldr, pm_e_lk, pm_e_r, pm_e_rm0, pm_e_rm1, pm_e_rs0, pm_e_rs1, pm_e_v1, pm_e_wp0, pm_e_wp1, pm_f2, pm_f3, pm_fld, pm_fv, pm_obj, pm_recv, pm_s_aload_n, pm_s_bipush, pm_s_copy, pm_s_copyL, pm_s_dup, pm_s_getfield, pm_s_goto, pm_s_iadd, pm_s_iconst, pm_s_if_icmp_ge, pm_s_invokestatic, pm_s_invokevirtual, pm_s_putfield, pm_s_return, ct_X1_keep, pS, pR, pC, pE, pL, -Int32.not_le, -Int32.not_lt, -Int64.not_le, -Int64.not_lt, -List.getD_eq_getElem?_getD, sx_11, sx_12, sx_13, show ¬ nI 1 < 0 by decide, show ¬ nI 0 < 0 by decide, show ¬ nI 64 < 0 by decide, show (nI 1).toNatClampNeg = 1 by decide, show (nI 0).toNatClampNeg = 0 by decide, show (nI 64).toNatClampNeg = 64 by decide]
      refine h52 _ ?_ (fun i hi => ?_) ?_
      · show M.1 11 2 = _
        rw [m2]; congr 1; omega
      · have hi64 : i < 64 := by omega
        have w := hk (i + 1) (by omega)
        have eH : kpH H pr S i = H (i + 1) := by unfold kpH; rw [if_neg (by omega), up_n _ _ (by omega)]
        rw [eH]
        constructor
        · show (if 12 = 12 ∧ 0 ≤ i ∧ i < 0 + 64 then M.2 12 (1 + (i - 0)) else M.2 12 i) = _
          rw [if_pos ⟨rfl, by omega, by omega⟩, show 1 + (i - 0) = i + 1 by omega]; exact w.1
        · show (if 13 = 13 ∧ 0 ≤ i ∧ i < 0 + 64 then M.1 13 (1 + (i - 0)) else M.1 13 i) = _
          rw [if_pos ⟨rfl, by omega, by omega⟩, show 1 + (i - 0) = i + 1 by omega]; exact w.2
      · intro q hq
        have h12 : q ≠ 12 := fun z => hq (by simp [z])
        have h13 : q ≠ 13 := fun z => hq (by simp [z])
        constructor
        · funext j; simp [pm_cpy, pm_cpyL, h13]
        · funext j; simp [pm_cpy, pm_cpyL, h12]
    · have f1 : pm_fr [11] M (pm_set M 11 2 (nI (pr + 1))) := pm_fr.rfl.set (by simp)
      refine h52 _ ?_ (fun i hi => ?_) (f1.mono (by simp))
      · rw [me_1s, if_pos rfl]; congr 1; omega
      · have w := hk i (by omega)
        rw [f1.l (by simp), f1.i (by simp)]
        have : kpH H pr S i = H i := by unfold kpH; rw [if_pos (by omega), up_n _ _ (by omega)]
        rw [this]; exact w
  · exact hT.elim
