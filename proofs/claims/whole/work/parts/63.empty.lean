theorem SdX.mv {M M' : pm_M} {p ec : Nat} {S : St} {ps : List Nat} (h : SdX M p ec S) (hf : pm_fr ps M M') (hp : ∀ q ∈ [p, p + 1, p + 2, p + 3, p + 4], q ∉ ps) : SdX M' p ec S := by
  obtain ⟨a, b, c, d, e⟩ := h
  refine ⟨a, b, ?_, fun i hi => ⟨?_, ?_, ?_⟩, fun j hj => ?_⟩
  · rw [hf.i (hp _ (by simp))]; exact c
  · rw [hf.l (hp _ (by simp))]; exact (d i hi).1
  · rw [hf.i (hp _ (by simp))]; exact (d i hi).2.1
  · rw [hf.i (hp _ (by simp))]; exact (d i hi).2.2
  · rw [hf.i (hp _ (by simp))]; exact e j hj
theorem HsX.mv {M M' : pm_M} {H : Nat → St} {pr la : Nat} {ps : List Nat} (h : HsX M H pr la) (hf : pm_fr ps M M') (hp : ∀ q ∈ [11, 12, 13], q ∉ ps) : HsX M' H pr la := by
  obtain ⟨a, b, c, d, e⟩ := h
  refine ⟨a, b, ?_, ?_, fun i hi => ⟨?_, ?_⟩⟩
  · rw [hf.i (hp _ (by simp))]; exact c
  · rw [hf.i (hp _ (by simp))]; exact d
  · rw [hf.l (hp _ (by simp))]; exact (e i hi).1
  · rw [hf.i (hp _ (by simp))]; exact (e i hi).2
def tt_X6_emptyTable : pm_T := fun args M k => match args with
  | [.ref 0] => ∃ P, DkX M P ∧ ∀ M', SdX M' 5 (pE P) st00 → HsX M' (fun _ => st00) 0 0 → M'.1 0 7 = nI 0 → M'.1 0 8 = nI 0 → M'.1 38 1 = nI 0 → M'.1 0 9 = M.1 0 9 → pm_fr [0, 5, 6, 7, 8, 9, 10, 11, 12, 13, 38] M M' → k none M'
  | _ => False
abbrev ct_X6_emptyTable : List pm_C := [(false, 249, 4, 2, none, tt_X4_clear), (false, 92, 1, 2, none, tt_X1_restart)]
set_option maxHeartbeats 4000000 in
theorem sm_X6_emptyTable  : pm_Sem SHx yX6_emptyTable cX6_emptyTable 1 none 5 tt_X6_emptyTable := by
  refine pm_Sem_intro bl_X6_emptyTable ct_X6_emptyTable cs_X6_emptyTable rfl (List.forall_mem_cons.mpr ⟨⟨_, _, _, _, sm_X4_clear, by decide, cm_X4_clear, by decide +kernel⟩, List.forall_mem_cons.mpr ⟨⟨_, _, _, _, sm_X1_restart, by decide, cm_X1_restart, by decide +kernel⟩, fun _ h => absurd h List.not_mem_nil⟩⟩) ck_X6_emptyTable (by decide +kernel) (by decide) ?_
  intro X k hX args M hT
  have hb0 := hX 0 bk_X6_emptyTable_0 (List.mem_of_getElem? (i := 0) rfl)
  clear hX
  unfold tt_X6_emptyTable at hT; split at hT
  · obtain ⟨P, hD, hT⟩ := hT
    have he : pE P ≤ 2 := hD.1.1.2.2.2.2.2.2.2.1
    have m6 := hD.1.2.1.2.2.2.1
    refine ⟨by simp [lg_sl, Value.category], ?_⟩
    refine hb0 _ _ _ ?_
    simp (maxSteps := 2000000) [bk_X6_emptyTable_0, pm_call, pm_e_c0, pm_e_c1, pm_e_cti, pm_e_ctl, pm_e_ctr, pm_e_go, pm_e_ldr, pm_e_lk, pm_e_r, pm_e_rm0, pm_e_rm1, pm_e_rs0, pm_e_rs1, pm_e_wp0, pm_e_wp1, pm_f2, pm_f3, pm_fld, pm_fv, pm_obj, pm_recv, pm_s_aload_n, pm_s_getfield, pm_s_iconst, pm_s_invokevirtual, pm_s_putfield, pm_s_return, ct_X6_emptyTable, pS, pR, pC, pE, pL, -Int32.not_le, -Int32.not_lt, -Int64.not_le, -Int64.not_lt, -List.getD_eq_getElem?_getD, lv_args, sx_0, sx_1, sx_5, sx_11, m6]
    refine ⟨pE P, Or.inl rfl, rfl, he, fun M1 q1 f1 => ?_⟩
    simp (maxSteps := 2000000) [bk_X6_emptyTable_0, pm_call, pm_e_c0, pm_e_c1, pm_e_cti, pm_e_ctl, pm_e_ctr, pm_e_go, pm_e_ldr, pm_e_lk, pm_e_r, pm_e_rm0, pm_e_rm1, pm_e_rs0, pm_e_rs1, pm_e_wp0, pm_e_wp1, pm_f2, pm_f3, pm_fld, pm_fv, pm_obj, pm_recv, pm_s_aload_n, pm_s_getfield, pm_s_iconst, pm_s_invokevirtual, pm_s_putfield, pm_s_return, ct_X6_emptyTable, pS, pR, pC, pE, pL, -Int32.not_le, -Int32.not_lt, -Int64.not_le, -Int64.not_lt, -List.getD_eq_getElem?_getD, sx_0, sx_1, sx_5, sx_11]
    refine ⟨pE P, st00, q1, by decide, fun M2 q2 f2 => ?_⟩
    simp (maxSteps := 2000000) [bk_X6_emptyTable_0, pm_call, pm_e_c0, pm_e_c1, pm_e_cti, pm_e_ctl, pm_e_ctr, pm_e_go, pm_e_ldr, pm_e_lk, pm_e_r, pm_e_rm0, pm_e_rm1, pm_e_rs0, pm_e_rs1, pm_e_wp0, pm_e_wp1, pm_f2, pm_f3, pm_fld, pm_fv, pm_obj, pm_recv, pm_s_aload_n, pm_s_getfield, pm_s_iconst, pm_s_invokevirtual, pm_s_putfield, pm_s_return, ct_X6_emptyTable, pS, pR, pC, pE, pL, -Int32.not_le, -Int32.not_lt, -Int64.not_le, -Int64.not_lt, -List.getD_eq_getElem?_getD, sx_0, sx_38]
    have f1' : pm_fr [5, 6, 7, 8, 9, 10] M M1 := f1
    have f3 : pm_fr [0, 38] M2 (pm_set (pm_set (pm_set M2 0 7 (nI 0)) 0 8 (nI 0)) 38 1 (nI 0)) := ((pm_fr.rfl.set (by simp)).set (by simp)).set (by simp)
    refine hT _ ((q1.mv f2 (by decide)).mv f3 (by decide)) (q2.mv f3 (by decide)) ?_ ?_ ?_ ?_ (((f1'.mono (by decide)).trans (f2.mono (by decide))).trans (f3.mono (by decide)))
    · simp [pm_set]
    · simp [pm_set]
    · simp [pm_set]
    · have e1 : M2.1 0 9 = M.1 0 9 := by rw [f2.i (by decide), f1'.i (by decide)]
      simpa [pm_set] using e1
  · exact hT.elim
