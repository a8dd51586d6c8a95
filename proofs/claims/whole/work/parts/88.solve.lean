def tt_X6_plan : pm_T := fun args M k => match args with
  | [.ref 0, .int x, .int y] => ∃ A, okA A ∧ MX M A ∧ k (some (.int (fPlan A x y))) M
  | _ => False
abbrev ct_X6_plan : List pm_C := [(true, 64, 6, 3, (some .boolean), tt_X6_isWithin), (false, 209, 2, 2, (some .int), tt_X2_fromAt), (false, 212, 2, 2, (some .int), tt_X2_toAt)]
set_option maxHeartbeats 4000000 in
theorem sm_X6_plan  : pm_Sem SHx yX6_plan cX6_plan 3 (some .int) 3 tt_X6_plan := by
  refine pm_Sem_intro bl_X6_plan ct_X6_plan cs_X6_plan rfl (List.forall_mem_cons.mpr ⟨⟨_, _, _, _, sm_X6_isWithin, by decide, cm_X6_isWithin, by decide +kernel⟩, List.forall_mem_cons.mpr ⟨⟨_, _, _, _, sm_X2_fromAt, by decide, cm_X2_fromAt, by decide +kernel⟩, List.forall_mem_cons.mpr ⟨⟨_, _, _, _, sm_X2_toAt, by decide, cm_X2_toAt, by decide +kernel⟩, fun _ h => absurd h List.not_mem_nil⟩⟩⟩) ck_X6_plan (by decide +kernel) (by decide) ?_
  intro X k hX args M hT
  have hb0 := hX 0 bk_X6_plan_0 (List.mem_of_getElem? (i := 0) rfl)
  have hb12 := hX 12 bk_X6_plan_12 (List.mem_of_getElem? (i := 1) rfl)
  have hb31 := hX 31 bk_X6_plan_31 (List.mem_of_getElem? (i := 2) rfl)
  have hb46 := hX 46 bk_X6_plan_46 (List.mem_of_getElem? (i := 3) rfl)
  have hb54 := hX 54 bk_X6_plan_54 (List.mem_of_getElem? (i := 4) rfl)
  clear hX
  unfold tt_X6_plan at hT; split at hT
  · next x y =>
    obtain ⟨A, hA, hM, hT⟩ := hT
    obtain ⟨hD, hS, hH, hL, hW, hQ, hPl, hTr⟩ := id hM
    have hlen := hA.2.2.2.2.2.2.1.1
    have p1 := hPl.1
    unfold fPlan at hT
    refine ⟨by simp [lg_sl, Value.category], ?_⟩
    refine hb0 _ _ _ ?_
    simp (maxSteps := 2000000) [bk_X6_plan_0, bk_X6_plan_12, bk_X6_plan_31, bk_X6_plan_46, bk_X6_plan_54, pm_call, pm_e_c0, pm_e_c1, pm_e_cti, pm_e_ctl, pm_e_ctr, pm_e_go, pm_e_i, pm_e_ii, pm_e_ldi, pm_e_ldr, pm_e_lk, pm_e_r, pm_e_rm0, pm_e_rm1, pm_e_rs0, pm_e_rs1, pm_e_wp0, pm_e_wp1, pm_f2, pm_f3, pm_fld, pm_fv, pm_obj, pm_recv, pm_s_aload_n, pm_s_bipush, pm_s_getfield, pm_s_goto, pm_s_iconst, pm_s_ifCond_ne, pm_s_iload_n, pm_s_invokestatic, pm_s_invokevirtual, pm_s_ireturn, pm_s_isub, ct_X6_plan, tt_X6_isWithin, pS, pR, pC, pE, pL, -Int32.not_le, -Int32.not_lt, -Int64.not_le, -Int64.not_lt, -List.getD_eq_getElem?_getD, lv_args, pb_eq0]
    refine ⟨fun h => ?_, fun h => ?_⟩
    · rw [if_pos h] at hT
      refine hb12 _ _ _ ?_
      simp (maxSteps := 2000000) [bk_X6_plan_0, bk_X6_plan_12, bk_X6_plan_31, bk_X6_plan_46, bk_X6_plan_54, pm_call, pm_e_c0, pm_e_c1, pm_e_cti, pm_e_ctl, pm_e_ctr, pm_e_go, pm_e_i, pm_e_ii, pm_e_ldi, pm_e_ldr, pm_e_lk, pm_e_r, pm_e_rm0, pm_e_rm1, pm_e_rs0, pm_e_rs1, pm_e_wp0, pm_e_wp1, pm_f2, pm_f3, pm_fld, pm_fv, pm_obj, pm_recv, pm_s_aload_n, pm_s_bipush, pm_s_getfield, pm_s_goto, pm_s_iconst, pm_s_ifCond_ne, pm_s_iload_n, pm_s_invokestatic, pm_s_invokevirtual, pm_s_ireturn, pm_s_isub, ct_X6_plan, tt_X6_isWithin, pS, pR, pC, pE, pL, -Int32.not_le, -Int32.not_lt, -Int64.not_le, -Int64.not_lt, -List.getD_eq_getElem?_getD, sx_0, sx_38, p1, pb_eq0]
      refine ⟨fun h2 => ?_, fun h2 => ?_⟩
      · rw [if_pos h2] at hT
        obtain ⟨x1, x2⟩ := wi_lt (by omega) h2
        have pm := hPl.2 (tn x) x2
        have h54 : ∀ v, k (some (.int v)) M → X 54 [] [.int v] M := by
          intro v hv
          refine hb54 _ _ _ ?_
          simp (maxSteps := 2000000) [bk_X6_plan_0, bk_X6_plan_12, bk_X6_plan_31, bk_X6_plan_46, bk_X6_plan_54, pm_call, pm_e_c0, pm_e_c1, pm_e_cti, pm_e_ctl, pm_e_ctr, pm_e_go, pm_e_i, pm_e_ii, pm_e_ldi, pm_e_ldr, pm_e_lk, pm_e_r, pm_e_rm0, pm_e_rm1, pm_e_rs0, pm_e_rs1, pm_e_wp0, pm_e_wp1, pm_f2, pm_f3, pm_fld, pm_fv, pm_obj, pm_recv, pm_s_aload_n, pm_s_bipush, pm_s_getfield, pm_s_goto, pm_s_iconst, pm_s_ifCond_ne, pm_s_iload_n, pm_s_invokestatic, pm_s_invokevirtual, pm_s_ireturn, pm_s_isub, ct_X6_plan, tt_X6_isWithin, pS, pR, pC, pE, pL, -Int32.not_le, -Int32.not_lt, -Int64.not_le, -Int64.not_lt, -List.getD_eq_getElem?_getD]
          exact hv
        refine hb31 _ _ _ ?_
        simp (maxSteps := 2000000) [bk_X6_plan_0, bk_X6_plan_12, bk_X6_plan_31, bk_X6_plan_46, bk_X6_plan_54, pm_call, pm_e_c0, pm_e_c1, pm_e_cti, pm_e_ctl, pm_e_ctr, pm_e_go, pm_e_i, pm_e_ii, pm_e_ldi, pm_e_ldr, pm_e_lk, pm_e_r, pm_e_rm0, pm_e_rm1, pm_e_rs0, pm_e_rs1, pm_e_wp0, pm_e_wp1, pm_f2, pm_f3, pm_fld, pm_fv, pm_obj, pm_recv, pm_s_aload_n, pm_s_bipush, pm_s_getfield, pm_s_goto, pm_s_iconst, pm_s_ifCond_ne, pm_s_iload_n, pm_s_invokestatic, pm_s_invokevirtual, pm_s_ireturn, pm_s_isub, ct_X6_plan, tt_X6_isWithin, pS, pR, pC, pE, pL, -Int32.not_le, -Int32.not_lt, -Int64.not_le, -Int64.not_lt, -List.getD_eq_getElem?_getD, sx_0, sx_38]
        refine ⟨fun h3 => ?_, fun h3 => ?_⟩
        · have h3' : ¬ y = nI 0 := h3
          rw [if_neg h3'] at hT
          refine hb46 _ _ _ ?_
          simp (maxSteps := 2000000) [bk_X6_plan_0, bk_X6_plan_12, bk_X6_plan_31, bk_X6_plan_46, bk_X6_plan_54, pm_call, pm_e_c0, pm_e_c1, pm_e_cti, pm_e_ctl, pm_e_ctr, pm_e_go, pm_e_i, pm_e_ii, pm_e_ldi, pm_e_ldr, pm_e_lk, pm_e_r, pm_e_rm0, pm_e_rm1, pm_e_rs0, pm_e_rs1, pm_e_wp0, pm_e_wp1, pm_f2, pm_f3, pm_fld, pm_fv, pm_obj, pm_recv, pm_s_aload_n, pm_s_bipush, pm_s_getfield, pm_s_goto, pm_s_iconst, pm_s_ifCond_ne, pm_s_iload_n, pm_s_invokestatic, pm_s_invokevirtual, pm_s_ireturn, pm_s_isub, ct_X6_plan, tt_X6_isWithin, pS, pR, pC, pE, pL, -Int32.not_le, -Int32.not_lt, -Int64.not_le, -Int64.not_lt, -List.getD_eq_getElem?_getD, sx_0, sx_38]
          refine ⟨tn x, x1, by omega, ?_⟩
          simp (maxSteps := 2000000) [bk_X6_plan_0, bk_X6_plan_12, bk_X6_plan_31, bk_X6_plan_46, bk_X6_plan_54, pm_call, pm_e_c0, pm_e_c1, pm_e_cti, pm_e_ctl, pm_e_ctr, pm_e_go, pm_e_i, pm_e_ii, pm_e_ldi, pm_e_ldr, pm_e_lk, pm_e_r, pm_e_rm0, pm_e_rm1, pm_e_rs0, pm_e_rs1, pm_e_wp0, pm_e_wp1, pm_f2, pm_f3, pm_fld, pm_fv, pm_obj, pm_recv, pm_s_aload_n, pm_s_bipush, pm_s_getfield, pm_s_goto, pm_s_iconst, pm_s_ifCond_ne, pm_s_iload_n, pm_s_invokestatic, pm_s_invokevirtual, pm_s_ireturn, pm_s_isub, ct_X6_plan, tt_X6_isWithin, pS, pR, pC, pE, pL, -Int32.not_le, -Int32.not_lt, -Int64.not_le, -Int64.not_lt, -List.getD_eq_getElem?_getD]
          rw [pm]; exact h54 _ hT
        · have h3' : y = nI 0 := h3
          rw [if_pos h3'] at hT
          refine ⟨tn x, x1, by omega, ?_⟩
          simp (maxSteps := 2000000) [bk_X6_plan_0, bk_X6_plan_12, bk_X6_plan_31, bk_X6_plan_46, bk_X6_plan_54, pm_call, pm_e_c0, pm_e_c1, pm_e_cti, pm_e_ctl, pm_e_ctr, pm_e_go, pm_e_i, pm_e_ii, pm_e_ldi, pm_e_ldr, pm_e_lk, pm_e_r, pm_e_rm0, pm_e_rm1, pm_e_rs0, pm_e_rs1, pm_e_wp0, pm_e_wp1, pm_f2, pm_f3, pm_fld, pm_fv, pm_obj, pm_recv, pm_s_aload_n, pm_s_bipush, pm_s_getfield, pm_s_goto, pm_s_iconst, pm_s_ifCond_ne, pm_s_iload_n, pm_s_invokestatic, pm_s_invokevirtual, pm_s_ireturn, pm_s_isub, ct_X6_plan, tt_X6_isWithin, pS, pR, pC, pE, pL, -Int32.not_le, -Int32.not_lt, -Int64.not_le, -Int64.not_lt, -List.getD_eq_getElem?_getD]
          rw [pm]; exact h54 _ hT
      · rw [if_neg (by simp [h2])] at hT
        exact hT
    · rw [if_neg (by simp [h])] at hT
      exact hT
  · exact hT.elim
def tt_X6_form : pm_T := fun args M k => match args with
  | [.ref 0, .int x] => ∃ A, okA A ∧ MX M A ∧ ∀ M', MX M' A → k (some (.int (fForm A x))) M'
  | _ => False
theorem MX.scr {M M' : pm_M} {A : Ab} (h : MX M A) {ps : List Nat} (hf : pm_fr ps M M') (hp : ps.all (fun q => decide (q = 10) || (decide (27 ≤ q) && decide (q ≤ 37))) = true) : MX M' A := by
  have hn : ∀ q, q ∈ ps → q = 10 ∨ (27 ≤ q ∧ q ≤ 37) := fun q hq => by
    have := List.all_eq_true.mp hp q hq
    simpa using this
  have no : ∀ q, ¬ (q = 10 ∨ (27 ≤ q ∧ q ≤ 37)) → q ∉ ps := fun q h1 h2 => h1 (hn q h2)
  obtain ⟨hD, hS, hH, hL, hW, hQ, hPl, hTr⟩ := h
  refine ⟨hD.moved hf (fun q hq => no q ?_), hS.mv hf (fun q hq => no q ?_), hH.mv hf (fun q hq => no q ?_), hL.mv hf (no _ (by omega)), ?_, ?_, hPl.mv hf (no _ (by omega)) (no _ (by omega)), fun t ht => (hTr t ht).mv hf (no _ (by omega)) (no _ (by omega))⟩
  · simp at hq; omega
  · simp at hq; omega
  · simp at hq; omega
  · rw [hf.i (no _ (by omega))]; exact hW
  · rw [hf.i (no _ (by omega))]; exact hQ
abbrev ct_X6_form : List pm_C := [(false, 215, 4, 2, (some .int), tt_X4_writeForm), (true, 64, 6, 3, (some .boolean), tt_X6_isWithin)]
set_option maxHeartbeats 4000000 in
theorem sm_X6_form  : pm_Sem SHx yX6_form cX6_form 3 (some .int) 5 tt_X6_form := by
  refine pm_Sem_intro bl_X6_form ct_X6_form cs_X6_form rfl (List.forall_mem_cons.mpr ⟨⟨_, _, _, _, sm_X4_writeForm, by decide, cm_X4_writeForm, by decide +kernel⟩, List.forall_mem_cons.mpr ⟨⟨_, _, _, _, sm_X6_isWithin, by decide, cm_X6_isWithin, by decide +kernel⟩, fun _ h => absurd h List.not_mem_nil⟩⟩) ck_X6_form (by decide +kernel) (by decide) ?_
  intro X k hX args M hT
  have hb0 := hX 0 bk_X6_form_0 (List.mem_of_getElem? (i := 0) rfl)
  have hb32 := hX 32 bk_X6_form_32 (List.mem_of_getElem? (i := 1) rfl)
  have hb33 := hX 33 bk_X6_form_33 (List.mem_of_getElem? (i := 2) rfl)
  clear hX
  unfold tt_X6_form at hT; split at hT
  · next x =>
    obtain ⟨A, hA, hM, hT⟩ := hT
    obtain ⟨hD, hS, hH, hL, hW, hQ, hPl, hTr⟩ := id hM
    have hP := hA.1
    have hfr := (frL_ok hP hA.wf).1
    unfold fForm at hT
    refine ⟨by simp [lg_sl, Value.category], ?_⟩
    refine hb0 _ _ _ ?_
    simp (maxSteps := 2000000) [bk_X6_form_0, bk_X6_form_32, bk_X6_form_33, pm_arr, pm_call, pm_e_c0, pm_e_c1, pm_e_cti, pm_e_ctl, pm_e_ctr, pm_e_go, pm_e_i, pm_e_ii, pm_e_ldi, pm_e_ldr, pm_e_lk, pm_e_r, pm_e_ri, pm_e_rm0, pm_e_rm1, pm_e_rs0, pm_e_rs1, pm_e_wp0, pm_e_wp1, pm_f2, pm_f3, pm_fld, pm_fv, pm_obj, pm_recv, pm_s_aload_n, pm_s_getfield, pm_s_goto, pm_s_iconst, pm_s_ifCond_eq, pm_s_iload_n, pm_s_invokestatic, pm_s_invokevirtual, pm_s_ireturn, pm_s_istore_n, pm_s_isub, pm_s_saload, ct_X6_form, tt_X6_isWithin, pS, pR, pC, pE, pL, -Int32.not_le, -Int32.not_lt, -Int64.not_le, -Int64.not_lt, -List.getD_eq_getElem?_getD, lv_args, sx_0, sx_5]
    refine ⟨pE (aP A), aS A, aP A, by unfold isRw; omega, hS, hD, hA.wf.inDk, hA.wf.c12 hP, fun M1 r1 f1 => ?_⟩
    have hM1 := hM.scr f1 (by decide)
    have h33 : ∀ v, k (some (.int v)) M1 → X 33 [] [.int v] M1 := by
      intro v hv
      refine hb33 _ _ _ ?_
      simp (maxSteps := 2000000) [bk_X6_form_0, bk_X6_form_32, bk_X6_form_33, pm_arr, pm_call, pm_e_c0, pm_e_c1, pm_e_cti, pm_e_ctl, pm_e_ctr, pm_e_go, pm_e_i, pm_e_ii, pm_e_ldi, pm_e_ldr, pm_e_lk, pm_e_r, pm_e_ri, pm_e_rm0, pm_e_rm1, pm_e_rs0, pm_e_rs1, pm_e_wp0, pm_e_wp1, pm_f2, pm_f3, pm_fld, pm_fv, pm_obj, pm_recv, pm_s_aload_n, pm_s_getfield, pm_s_goto, pm_s_iconst, pm_s_ifCond_eq, pm_s_iload_n, pm_s_invokestatic, pm_s_invokevirtual, pm_s_ireturn, pm_s_istore_n, pm_s_isub, pm_s_saload, ct_X6_form, tt_X6_isWithin, pS, pR, pC, pE, pL, -Int32.not_le, -Int32.not_lt, -Int64.not_le, -Int64.not_lt, -List.getD_eq_getElem?_getD]
      exact hv
    simp (maxSteps := 2000000) [bk_X6_form_0, bk_X6_form_32, bk_X6_form_33, pm_arr, pm_call, pm_e_c0, pm_e_c1, pm_e_cti, pm_e_ctl, pm_e_ctr, pm_e_go, pm_e_i, pm_e_ii, pm_e_ldi, pm_e_ldr, pm_e_lk, pm_e_r, pm_e_ri, pm_e_rm0, pm_e_rm1, pm_e_rs0, pm_e_rs1, pm_e_wp0, pm_e_wp1, pm_f2, pm_f3, pm_fld, pm_fv, pm_obj, pm_recv, pm_s_aload_n, pm_s_getfield, pm_s_goto, pm_s_iconst, pm_s_ifCond_eq, pm_s_iload_n, pm_s_invokestatic, pm_s_invokevirtual, pm_s_ireturn, pm_s_istore_n, pm_s_isub, pm_s_saload, ct_X6_form, tt_X6_isWithin, pS, pR, pC, pE, pL, -Int32.not_le, -Int32.not_lt, -Int64.not_le, -Int64.not_lt, -List.getD_eq_getElem?_getD, sx_0, sx_27, pb_eq0]
    refine ⟨fun h => ?_, fun h => ?_⟩
    · refine hb32 _ _ _ ?_
      simp (maxSteps := 2000000) [bk_X6_form_0, bk_X6_form_32, bk_X6_form_33, pm_arr, pm_call, pm_e_c0, pm_e_c1, pm_e_cti, pm_e_ctl, pm_e_ctr, pm_e_go, pm_e_i, pm_e_ii, pm_e_ldi, pm_e_ldr, pm_e_lk, pm_e_r, pm_e_ri, pm_e_rm0, pm_e_rm1, pm_e_rs0, pm_e_rs1, pm_e_wp0, pm_e_wp1, pm_f2, pm_f3, pm_fld, pm_fv, pm_obj, pm_recv, pm_s_aload_n, pm_s_getfield, pm_s_goto, pm_s_iconst, pm_s_ifCond_eq, pm_s_iload_n, pm_s_invokestatic, pm_s_invokevirtual, pm_s_ireturn, pm_s_istore_n, pm_s_isub, pm_s_saload, ct_X6_form, tt_X6_isWithin, pS, pR, pC, pE, pL, -Int32.not_le, -Int32.not_lt, -Int64.not_le, -Int64.not_lt, -List.getD_eq_getElem?_getD]
      rw [if_neg (by simp [h])] at hT
      exact h33 _ (hT M1 hM1)
    · rw [if_pos h] at hT
      obtain ⟨x1, x2⟩ := wi_lt (n := (frL (aP A) (pE (aP A)) (aS A)).length) (by omega) h
      rw [x1, ni_in (by omega), ni_cl (by omega), r1 _ x2]
      exact ⟨by omega, h33 _ (hT M1 hM1)⟩
  · exact hT.elim
theorem slv_D0 {P : Pm} {ec : Nat} {S : St} {m : Nat} (h : dnS P S) : slv P ec S m (nI 0) ∧ isPl P ec S [] := by
  refine ⟨Or.inl ⟨0, rfl, by omega, ⟨[], S, rfl, rfl, h⟩, fun l T h1 => by omega, Or.inl rfl⟩, ⟨S, rfl, h⟩, fun l T h1 => by simp at h1, fun l' T h1 _ _ h4 => ?_⟩
  have : l' = [] := List.length_eq_zero_iff.mp (by simpa using h1)
  rw [this] at h4; exact h4
theorem isPl_64 {P : Pm} {ec : Nat} (hP : okP P) (he : ec ≤ 2) : ∀ {l : List Nat} {S T : St}, run P ec l S = some T → ∀ x ∈ l, x < 64
  | [], _, _, _, x, hx => by cases hx
  | m :: l, S, T, h, x, hx => by
    have e' : (if canN P ec S (m / 8) (m % 8) = true then run P ec l (aMv P ec S (m / 8) (m % 8)) else none) = some T := h
    by_cases hc : canN P ec S (m / 8) (m % 8) = true
    · rw [if_pos hc] at e'
      rcases List.mem_cons.mp hx with z | z
      · rw [z]; have := can_c48 hP he hc; omega
      · exact isPl_64 hP he e' x z
    · rw [if_neg hc] at e'; exact absurd e' (by simp)
def tt_X6_solve : pm_T := fun args M k => match args with
  | [.ref 0, .int x] => ∃ A, okA A ∧ MX M A ∧ ∀ M', okA (fSolve A x).2 → MX M' (fSolve A x).2 → k (some (.int (fSolve A x).1)) M'
  | _ => False
abbrev ct_X6_solve : List pm_C := [(true, 64, 6, 3, (some .boolean), tt_X6_isWithin), (false, 119, 6, 1, (some .boolean), tt_X6_allLaid), (false, 199, 3, 4, (some .int), tt_X3_fewestMoves), (false, 203, 3, 3, none, tt_X3_writePlan)]
set_option maxHeartbeats 4000000 in
theorem sm_X6_solve  : pm_Sem SHx yX6_solve cX6_solve 3 (some .int) 7 tt_X6_solve := by
  refine pm_Sem_intro bl_X6_solve ct_X6_solve cs_X6_solve rfl (List.forall_mem_cons.mpr ⟨⟨_, _, _, _, sm_X6_isWithin, by decide, cm_X6_isWithin, by decide +kernel⟩, List.forall_mem_cons.mpr ⟨⟨_, _, _, _, sm_X6_allLaid, by decide, cm_X6_allLaid, by decide +kernel⟩, List.forall_mem_cons.mpr ⟨⟨_, _, _, _, sm_X3_fewestMoves, by decide, cm_X3_fewestMoves, by decide +kernel⟩, List.forall_mem_cons.mpr ⟨⟨_, _, _, _, sm_X3_writePlan, by decide, cm_X3_writePlan, by decide +kernel⟩, fun _ h => absurd h List.not_mem_nil⟩⟩⟩⟩) ck_X6_solve (by decide +kernel) (by decide) ?_
  intro X k hX args M hT
  have hb0 := hX 0 bk_X6_solve_0 (List.mem_of_getElem? (i := 0) rfl)
  have hb14 := hX 14 bk_X6_solve_14 (List.mem_of_getElem? (i := 1) rfl)
  have hb24 := hX 24 bk_X6_solve_24 (List.mem_of_getElem? (i := 2) rfl)
  have hb60 := hX 60 bk_X6_solve_60 (List.mem_of_getElem? (i := 3) rfl)
  clear hX
  unfold tt_X6_solve at hT; split at hT
  · next x =>
    obtain ⟨A, hA, hM, hT⟩ := hT
    obtain ⟨hD, hS, hH, hL, hW, hQ, hPl, hTr⟩ := id hM
    have hP := hA.1
    have hE := hP.2.2.2.2.2.2.2.1
    have hal := al_eq hA hM
    have m6 := hD.1.2.1.2.2.2.1
    unfold fSolve at hT
    refine ⟨by simp [lg_sl, Value.category], ?_⟩
    refine hb0 _ _ _ ?_
    simp (maxSteps := 2000000) [bk_X6_solve_0, bk_X6_solve_14, bk_X6_solve_24, bk_X6_solve_60, pm_call, pm_e_c0, pm_e_c1, pm_e_cti, pm_e_ctl, pm_e_ctr, pm_e_go, pm_e_i, pm_e_ldi, pm_e_ldr, pm_e_lk, pm_e_r, pm_e_rm0, pm_e_rm1, pm_e_rs0, pm_e_rs1, pm_e_wp0, pm_e_wp1, pm_f2, pm_f3, pm_fld, pm_fv, pm_obj, pm_recv, pm_s_aload_n, pm_s_bipush, pm_s_getfield, pm_s_iconst, pm_s_ifCond_lt, pm_s_ifCond_ne, pm_s_iload_n, pm_s_invokestatic, pm_s_invokevirtual, pm_s_ireturn, pm_s_istore_n, pm_s_sipush, ct_X6_solve, tt_X6_isWithin, tt_X6_allLaid, pS, pR, pC, pE, pL, -Int32.not_le, -Int32.not_lt, -Int64.not_le, -Int64.not_lt, -List.getD_eq_getElem?_getD, lv_args, pb_eq0]
    refine ⟨fun h => ?_, fun h => ?_⟩
    · rw [if_pos h] at hT
      obtain ⟨x1, x2, x3⟩ := wi_tn (by decide) (by decide) h
      refine hb14 _ _ _ ?_
      simp (maxSteps := 2000000) [bk_X6_solve_0, bk_X6_solve_14, bk_X6_solve_24, bk_X6_solve_60, pm_call, pm_e_c0, pm_e_c1, pm_e_cti, pm_e_ctl, pm_e_ctr, pm_e_go, pm_e_i, pm_e_ldi, pm_e_ldr, pm_e_lk, pm_e_r, pm_e_rm0, pm_e_rm1, pm_e_rs0, pm_e_rs1, pm_e_wp0, pm_e_wp1, pm_f2, pm_f3, pm_fld, pm_fv, pm_obj, pm_recv, pm_s_aload_n, pm_s_bipush, pm_s_getfield, pm_s_iconst, pm_s_ifCond_lt, pm_s_ifCond_ne, pm_s_iload_n, pm_s_invokestatic, pm_s_invokevirtual, pm_s_ireturn, pm_s_istore_n, pm_s_sipush, ct_X6_solve, tt_X6_isWithin, tt_X6_allLaid, pS, pR, pC, pE, pL, -Int32.not_le, -Int32.not_lt, -Int64.not_le, -Int64.not_lt, -List.getD_eq_getElem?_getD, sx_0, sx_1, hal, pb_eq0]
      refine ⟨fun hl => ?_, fun hl => ?_⟩
      · rw [if_pos hl] at hT
        have hfw := hA.fw hl
        have h60 : ∀ M' v, k (some (.int v)) M' → X 60 [(2, .int v)] [] M' := by
          intro M' v hv
          refine hb60 _ _ _ ?_
          simp (maxSteps := 2000000) [bk_X6_solve_0, bk_X6_solve_14, bk_X6_solve_24, bk_X6_solve_60, pm_call, pm_e_c0, pm_e_c1, pm_e_cti, pm_e_ctl, pm_e_ctr, pm_e_go, pm_e_i, pm_e_ldi, pm_e_ldr, pm_e_lk, pm_e_r, pm_e_rm0, pm_e_rm1, pm_e_rs0, pm_e_rs1, pm_e_wp0, pm_e_wp1, pm_f2, pm_f3, pm_fld, pm_fv, pm_obj, pm_recv, pm_s_aload_n, pm_s_bipush, pm_s_getfield, pm_s_iconst, pm_s_ifCond_lt, pm_s_ifCond_ne, pm_s_iload_n, pm_s_invokestatic, pm_s_invokevirtual, pm_s_ireturn, pm_s_istore_n, pm_s_sipush, ct_X6_solve, tt_X6_isWithin, tt_X6_allLaid, pS, pR, pC, pE, pL, -Int32.not_le, -Int32.not_lt, -Int64.not_le, -Int64.not_lt, -List.getD_eq_getElem?_getD]
          exact hv
        -- what a plan leaves
        have wr : ∀ (M1 : pm_M) (d : Nat) (l : List Nat), slv (aP A) (pE (aP A)) (aS A) (tn x) (nI d) → isPl (aP A) (pE (aP A)) (aS A) l → l.length = d → d ≤ 4000 → (l = [] ∨ PT M1 (aP A) l) → MX M1 A → tt_X3_writePlan [.ref 28, .ref 38, .int (nI d)] M1 (fun r M' => X 60 [(2, .int (nI d))] r.toList M') := by
          intro M1 d l s1 s2 s3 s4 s5 s6
          refine ⟨aP A, l, by rw [s3], by omega, s5, fun M2 w1 w2 f2 => ?_⟩
          have e1 := slvA_e s1
          have e2 := plnA_e s2
          rw [e1, e2, if_pos (by rw [ni_0le (by omega)]; trivial)] at hT
          have hok : okA (aP A, aS A, aL A, aW A, aH A, aPr A, aLa A, l, aT A, aQ A) := by
            obtain ⟨a, b, c, dd, e, f, -, g⟩ := hA
            obtain ⟨T, t1, t2⟩ := s2.1
            exact ⟨a, b, c, dd, e, f, ⟨by show l.length ≤ 4000; omega, isPl_64 hP hE t1⟩, g⟩
          obtain ⟨gD, gS, gH, gL, gW, gQ, gPl, gTr⟩ := s6
          exact h60 M2 _ (hT M2 hok ⟨gD.moved f2 (by decide), gS.mv f2 (by decide), gH.mv f2 (by decide), gL.mv f2 (by decide), by rw [f2.i (by decide)]; exact gW, by rw [f2.i (by decide)]; exact gQ, ⟨w1, w2⟩, trs_mv gTr f2 (by decide)⟩)
        have neg : ∀ (M1 : pm_M) (v : Int32), v = -nI 1 ∨ v = -nI 3 → slv (aP A) (pE (aP A)) (aS A) (tn x) v → MX M1 A → X 60 [(2, .int v)] [] M1 := by
          intro M1 v hv s1 s6
          have e1 := slvA_e s1
          rw [e1, if_neg (by rcases hv with rfl | rfl <;> decide)] at hT
          exact h60 M1 _ (hT M1 hA s6)
        refine hb24 _ _ _ ?_
        simp (maxSteps := 2000000) [bk_X6_solve_0, bk_X6_solve_14, bk_X6_solve_24, bk_X6_solve_60, pm_call, pm_e_c0, pm_e_c1, pm_e_cti, pm_e_ctl, pm_e_ctr, pm_e_go, pm_e_i, pm_e_ldi, pm_e_ldr, pm_e_lk, pm_e_r, pm_e_rm0, pm_e_rm1, pm_e_rs0, pm_e_rs1, pm_e_wp0, pm_e_wp1, pm_f2, pm_f3, pm_fld, pm_fv, pm_obj, pm_recv, pm_s_aload_n, pm_s_bipush, pm_s_getfield, pm_s_iconst, pm_s_ifCond_lt, pm_s_ifCond_ne, pm_s_iload_n, pm_s_invokestatic, pm_s_invokevirtual, pm_s_ireturn, pm_s_istore_n, pm_s_sipush, ct_X6_solve, tt_X6_isWithin, tt_X6_allLaid, pS, pR, pC, pE, pL, -Int32.not_le, -Int32.not_lt, -Int64.not_le, -Int64.not_lt, -List.getD_eq_getElem?_getD, sx_0, sx_1, sx_28, m6]
        refine ⟨aP A, pE (aP A), pE (aP A), aS A, tn x, rfl, x1, hE, x2, x3, hD, hS, hfw, fun hd => ?_, fun hnd M1 d l s1 s2 s3 s4 s5 f1 => ?_, fun hnd M1 s1 f1 => ?_, fun hnd M1 s1 f1 => ?_⟩
        · simp (maxSteps := 2000000) [bk_X6_solve_0, bk_X6_solve_14, bk_X6_solve_24, bk_X6_solve_60, pm_call, pm_e_c0, pm_e_c1, pm_e_cti, pm_e_ctl, pm_e_ctr, pm_e_go, pm_e_i, pm_e_ldi, pm_e_ldr, pm_e_lk, pm_e_r, pm_e_rm0, pm_e_rm1, pm_e_rs0, pm_e_rs1, pm_e_wp0, pm_e_wp1, pm_f2, pm_f3, pm_fld, pm_fv, pm_obj, pm_recv, pm_s_aload_n, pm_s_bipush, pm_s_getfield, pm_s_iconst, pm_s_ifCond_lt, pm_s_ifCond_ne, pm_s_iload_n, pm_s_invokestatic, pm_s_invokevirtual, pm_s_ireturn, pm_s_istore_n, pm_s_sipush, ct_X6_solve, tt_X6_isWithin, tt_X6_allLaid, pS, pR, pC, pE, pL, -Int32.not_le, -Int32.not_lt, -Int64.not_le, -Int64.not_lt, -List.getD_eq_getElem?_getD, sx_0, sx_28]
          refine ⟨fun h => absurd h (by decide), fun _ => ?_⟩
          have := slv_D0 (ec := pE (aP A)) (m := tn x) hd
          exact wr M 0 [] this.1 this.2 rfl (by omega) (Or.inl rfl) hM
        · simp (maxSteps := 2000000) [bk_X6_solve_0, bk_X6_solve_14, bk_X6_solve_24, bk_X6_solve_60, pm_call, pm_e_c0, pm_e_c1, pm_e_cti, pm_e_ctl, pm_e_ctr, pm_e_go, pm_e_i, pm_e_ldi, pm_e_ldr, pm_e_lk, pm_e_r, pm_e_rm0, pm_e_rm1, pm_e_rs0, pm_e_rs1, pm_e_wp0, pm_e_wp1, pm_f2, pm_f3, pm_fld, pm_fv, pm_obj, pm_recv, pm_s_aload_n, pm_s_bipush, pm_s_getfield, pm_s_iconst, pm_s_ifCond_lt, pm_s_ifCond_ne, pm_s_iload_n, pm_s_invokestatic, pm_s_invokevirtual, pm_s_ireturn, pm_s_istore_n, pm_s_sipush, ct_X6_solve, tt_X6_isWithin, tt_X6_allLaid, pS, pR, pC, pE, pL, -Int32.not_le, -Int32.not_lt, -Int64.not_le, -Int64.not_lt, -List.getD_eq_getElem?_getD, sx_0, sx_28]
          rw [ni_lt0 (by omega)]
          refine ⟨fun h => h.elim, fun _ => ?_⟩
          exact wr M1 d l (Or.inl ⟨d, rfl, s4, s1⟩) s2 s3 s4 (Or.inr s5) (hM.scr f1 (by decide))
        · simp (maxSteps := 2000000) [bk_X6_solve_0, bk_X6_solve_14, bk_X6_solve_24, bk_X6_solve_60, pm_call, pm_e_c0, pm_e_c1, pm_e_cti, pm_e_ctl, pm_e_ctr, pm_e_go, pm_e_i, pm_e_ldi, pm_e_ldr, pm_e_lk, pm_e_r, pm_e_rm0, pm_e_rm1, pm_e_rs0, pm_e_rs1, pm_e_wp0, pm_e_wp1, pm_f2, pm_f3, pm_fld, pm_fv, pm_obj, pm_recv, pm_s_aload_n, pm_s_bipush, pm_s_getfield, pm_s_iconst, pm_s_ifCond_lt, pm_s_ifCond_ne, pm_s_iload_n, pm_s_invokestatic, pm_s_invokevirtual, pm_s_ireturn, pm_s_istore_n, pm_s_sipush, ct_X6_solve, tt_X6_isWithin, tt_X6_allLaid, pS, pR, pC, pE, pL, -Int32.not_le, -Int32.not_lt, -Int64.not_le, -Int64.not_lt, -List.getD_eq_getElem?_getD, sx_0, sx_28]
          refine ⟨fun _ => neg M1 _ (Or.inl rfl) (Or.inr (Or.inl ⟨rfl, s1⟩)) (hM.scr f1 (by decide)), fun h => absurd (by decide) h⟩
        · simp (maxSteps := 2000000) [bk_X6_solve_0, bk_X6_solve_14, bk_X6_solve_24, bk_X6_solve_60, pm_call, pm_e_c0, pm_e_c1, pm_e_cti, pm_e_ctl, pm_e_ctr, pm_e_go, pm_e_i, pm_e_ldi, pm_e_ldr, pm_e_lk, pm_e_r, pm_e_rm0, pm_e_rm1, pm_e_rs0, pm_e_rs1, pm_e_wp0, pm_e_wp1, pm_f2, pm_f3, pm_fld, pm_fv, pm_obj, pm_recv, pm_s_aload_n, pm_s_bipush, pm_s_getfield, pm_s_iconst, pm_s_ifCond_lt, pm_s_ifCond_ne, pm_s_iload_n, pm_s_invokestatic, pm_s_invokevirtual, pm_s_ireturn, pm_s_istore_n, pm_s_sipush, ct_X6_solve, tt_X6_isWithin, tt_X6_allLaid, pS, pR, pC, pE, pL, -Int32.not_le, -Int32.not_lt, -Int64.not_le, -Int64.not_lt, -List.getD_eq_getElem?_getD, sx_0, sx_28]
          refine ⟨fun _ => neg M1 _ (Or.inr rfl) (Or.inr (Or.inr ⟨rfl, s1⟩)) (hM.scr f1 (by decide)), fun h => absurd (by decide) h⟩
      · rw [if_neg (by simp [hl])] at hT
        exact hT M hA hM
    · rw [if_neg (by simp [h])] at hT
      exact hT M hA hM
  · exact hT.elim
def tt_X6_needs : pm_T := fun args M k => match args with
  | [.ref 0, .int x] => ∃ A, okA A ∧ MX M A ∧ ∀ M', MX M' A → k (some (.int (fNeeds A x))) M'
  | _ => False
theorem nfc_full {A : Ab} (hA : okA A) : (pE (aP A) ≤ nfc (pE (aP A)) (aS A)) ↔ ((aS A).2.1 0 = 0 ∧ (aS A).2.1 1 = 0) := by
  have h8 := hA.1.2.2.2.2.2.2.2.1
  have w := hA.wf.2.1
  have w0 := w 0 (by decide)
  have w1 := w 1 (by decide)
  unfold nfc
  rcases (show pE (aP A) = 0 ∨ pE (aP A) = 1 ∨ pE (aP A) = 2 by omega) with e | e | e <;> rw [e] at w0 w1 ⊢ <;> by_cases z0 : (aS A).2.1 0 = 0 <;> by_cases z1 : (aS A).2.1 1 = 0 <;> simp [z0, z1] at w0 w1 ⊢
theorem FW.cells {P : Pm} {ec : Nat} {S : St} (h : FW P ec S) (h0 : S.2.1 0 = 0) (h1 : S.2.1 1 = 0) (e : Nat) : FW P e S := by
  obtain ⟨a, b, c⟩ := h
  refine ⟨a, fun j hj _ => ?_, c⟩
  rcases (show j = 0 ∨ j = 1 by omega) with rfl | rfl
  · exact h0
  · exact h1
abbrev ct_X6_needs : List pm_C := [(true, 64, 6, 3, (some .boolean), tt_X6_isWithin), (false, 119, 6, 1, (some .boolean), tt_X6_allLaid), (false, 154, 4, 1, (some .int), tt_X4_freeCells), (false, 199, 3, 4, (some .int), tt_X3_fewestMoves)]
set_option maxHeartbeats 4000000 in
theorem sm_X6_needs  : pm_Sem SHx yX6_needs cX6_needs 4 (some .int) 7 tt_X6_needs := by
  refine pm_Sem_intro bl_X6_needs ct_X6_needs cs_X6_needs rfl (List.forall_mem_cons.mpr ⟨⟨_, _, _, _, sm_X6_isWithin, by decide, cm_X6_isWithin, by decide +kernel⟩, List.forall_mem_cons.mpr ⟨⟨_, _, _, _, sm_X6_allLaid, by decide, cm_X6_allLaid, by decide +kernel⟩, List.forall_mem_cons.mpr ⟨⟨_, _, _, _, sm_X4_freeCells, by decide, cm_X4_freeCells, by decide +kernel⟩, List.forall_mem_cons.mpr ⟨⟨_, _, _, _, sm_X3_fewestMoves, by decide, cm_X3_fewestMoves, by decide +kernel⟩, fun _ h => absurd h List.not_mem_nil⟩⟩⟩⟩) ck_X6_needs (by decide +kernel) (by decide) ?_
  intro X k hX args M hT
  have hb0 := hX 0 bk_X6_needs_0 (List.mem_of_getElem? (i := 0) rfl)
  have hb14 := hX 14 bk_X6_needs_14 (List.mem_of_getElem? (i := 1) rfl)
  have hb38 := hX 38 bk_X6_needs_38 (List.mem_of_getElem? (i := 2) rfl)
  have hb41 := hX 41 bk_X6_needs_41 (List.mem_of_getElem? (i := 3) rfl)
  have hb43 := hX 43 bk_X6_needs_43 (List.mem_of_getElem? (i := 4) rfl)
  have hb78 := hX 78 bk_X6_needs_78 (List.mem_of_getElem? (i := 5) rfl)
  have hb79 := hX 79 bk_X6_needs_79 (List.mem_of_getElem? (i := 6) rfl)
  have hb80 := hX 80 bk_X6_needs_80 (List.mem_of_getElem? (i := 7) rfl)
  have hb86 := hX 86 bk_X6_needs_86 (List.mem_of_getElem? (i := 8) rfl)
  clear hX
  unfold tt_X6_needs at hT; split at hT
  · next x =>
    obtain ⟨A, hA, hM, hT⟩ := hT
    obtain ⟨hD, hS, hH, hL, hW, hQ, hPl, hTr⟩ := id hM
    have hP := hA.1
    have hE := hP.2.2.2.2.2.2.2.1
    have hal := al_eq hA hM
    have m6 := hD.1.2.1.2.2.2.1
    have hfull := nfc_full hA
    have hnl := nfc_le (pE (aP A)) (aS A)
    unfold fNeeds at hT
    refine ⟨by simp [lg_sl, Value.category], ?_⟩
    refine hb0 _ _ _ ?_
    simp (maxSteps := 2000000) [bk_X6_needs_0, bk_X6_needs_14, bk_X6_needs_38, bk_X6_needs_41, bk_X6_needs_43, bk_X6_needs_78, bk_X6_needs_79, bk_X6_needs_80, bk_X6_needs_86, pm_call, pm_e_c0, pm_e_c1, pm_e_cti, pm_e_ctl, pm_e_ctr, pm_e_go, pm_e_i, pm_e_ii, pm_e_ldi, pm_e_ldr, pm_e_lk, pm_e_r, pm_e_rm0, pm_e_rm1, pm_e_rs0, pm_e_rs1, pm_e_wp0, pm_e_wp1, pm_f2, pm_f3, pm_fld, pm_fv, pm_obj, pm_recv, pm_s_aload_n, pm_s_bipush, pm_s_getfield, pm_s_goto, pm_s_iconst, pm_s_ifCond_eq, pm_s_ifCond_ne, pm_s_if_icmp_eq, pm_s_if_icmp_ge, pm_s_if_icmp_gt, pm_s_if_icmp_ne, pm_s_iinc, pm_s_iload_n, pm_s_invokestatic, pm_s_invokevirtual, pm_s_ireturn, pm_s_istore_n, pm_s_sipush, ct_X6_needs, tt_X6_isWithin, tt_X6_allLaid, pS, pR, pC, pE, pL, -Int32.not_le, -Int32.not_lt, -Int64.not_le, -Int64.not_lt, -List.getD_eq_getElem?_getD, lv_args, pb_eq0]
    refine ⟨fun h => ?_, fun h => ?_⟩
    · rw [if_pos h] at hT
      obtain ⟨x1, x2, x3⟩ := wi_tn (by decide) (by decide) h
      have bad : (alL A && decide ((aS A).2.1 0 = 0) && decide ((aS A).2.1 1 = 0)) = false → X 38 [] [] M := by
        intro hf
        refine hb38 _ _ _ ?_
        simp (maxSteps := 2000000) [bk_X6_needs_0, bk_X6_needs_14, bk_X6_needs_38, bk_X6_needs_41, bk_X6_needs_43, bk_X6_needs_78, bk_X6_needs_79, bk_X6_needs_80, bk_X6_needs_86, pm_call, pm_e_c0, pm_e_c1, pm_e_cti, pm_e_ctl, pm_e_ctr, pm_e_go, pm_e_i, pm_e_ii, pm_e_ldi, pm_e_ldr, pm_e_lk, pm_e_r, pm_e_rm0, pm_e_rm1, pm_e_rs0, pm_e_rs1, pm_e_wp0, pm_e_wp1, pm_f2, pm_f3, pm_fld, pm_fv, pm_obj, pm_recv, pm_s_aload_n, pm_s_bipush, pm_s_getfield, pm_s_goto, pm_s_iconst, pm_s_ifCond_eq, pm_s_ifCond_ne, pm_s_if_icmp_eq, pm_s_if_icmp_ge, pm_s_if_icmp_gt, pm_s_if_icmp_ne, pm_s_iinc, pm_s_iload_n, pm_s_invokestatic, pm_s_invokevirtual, pm_s_ireturn, pm_s_istore_n, pm_s_sipush, ct_X6_needs, tt_X6_isWithin, tt_X6_allLaid, pS, pR, pC, pE, pL, -Int32.not_le, -Int32.not_lt, -Int64.not_le, -Int64.not_lt, -List.getD_eq_getElem?_getD]
        rw [hf, if_neg (by simp)] at hT
        exact hT M hM
      refine hb14 _ _ _ ?_
      simp (maxSteps := 2000000) [bk_X6_needs_0, bk_X6_needs_14, bk_X6_needs_38, bk_X6_needs_41, bk_X6_needs_43, bk_X6_needs_78, bk_X6_needs_79, bk_X6_needs_80, bk_X6_needs_86, pm_call, pm_e_c0, pm_e_c1, pm_e_cti, pm_e_ctl, pm_e_ctr, pm_e_go, pm_e_i, pm_e_ii, pm_e_ldi, pm_e_ldr, pm_e_lk, pm_e_r, pm_e_rm0, pm_e_rm1, pm_e_rs0, pm_e_rs1, pm_e_wp0, pm_e_wp1, pm_f2, pm_f3, pm_fld, pm_fv, pm_obj, pm_recv, pm_s_aload_n, pm_s_bipush, pm_s_getfield, pm_s_goto, pm_s_iconst, pm_s_ifCond_eq, pm_s_ifCond_ne, pm_s_if_icmp_eq, pm_s_if_icmp_ge, pm_s_if_icmp_gt, pm_s_if_icmp_ne, pm_s_iinc, pm_s_iload_n, pm_s_invokestatic, pm_s_invokevirtual, pm_s_ireturn, pm_s_istore_n, pm_s_sipush, ct_X6_needs, tt_X6_isWithin, tt_X6_allLaid, pS, pR, pC, pE, pL, -Int32.not_le, -Int32.not_lt, -Int64.not_le, -Int64.not_lt, -List.getD_eq_getElem?_getD, sx_0, sx_1, sx_5, hal, pb_eq0, m6]
      refine ⟨fun hl => bad (by rw [hl]; rfl), fun hl => ?_⟩
      refine ⟨_, _, Or.inl rfl, hS, ?_⟩
      simp (maxSteps := 2000000) [bk_X6_needs_0, bk_X6_needs_14, bk_X6_needs_38, bk_X6_needs_41, bk_X6_needs_43, bk_X6_needs_78, bk_X6_needs_79, bk_X6_needs_80, bk_X6_needs_86, pm_call, pm_e_c0, pm_e_c1, pm_e_cti, pm_e_ctl, pm_e_ctr, pm_e_go, pm_e_i, pm_e_ii, pm_e_ldi, pm_e_ldr, pm_e_lk, pm_e_r, pm_e_rm0, pm_e_rm1, pm_e_rs0, pm_e_rs1, pm_e_wp0, pm_e_wp1, pm_f2, pm_f3, pm_fld, pm_fv, pm_obj, pm_recv, pm_s_aload_n, pm_s_bipush, pm_s_getfield, pm_s_goto, pm_s_iconst, pm_s_ifCond_eq, pm_s_ifCond_ne, pm_s_if_icmp_eq, pm_s_if_icmp_ge, pm_s_if_icmp_gt, pm_s_if_icmp_ne, pm_s_iinc, pm_s_iload_n, pm_s_invokestatic, pm_s_invokevirtual, pm_s_ireturn, pm_s_istore_n, pm_s_sipush, ct_X6_needs, tt_X6_isWithin, tt_X6_allLaid, pS, pR, pC, pE, pL, -Int32.not_le, -Int32.not_lt, -Int64.not_le, -Int64.not_lt, -List.getD_eq_getElem?_getD, sx_0, sx_1, m6]
      dsimp only [pE] at hE hfull hnl
      simp (disch := omega) only [ni_in, ni_cl, ni_add, ni_mul, ni_sub, ni_lt, ni_le, ni_eq, ni_eq0, ni_lt0, ni_0le, ni_0lt, ni_le0, ni_a1, ni_a3, ni_a7, ni_a15]
      refine ⟨fun hn => ?_, fun hn => bad ?_⟩
      · have hz := hfull.mp hn
        have hf : (alL A && decide ((aS A).2.1 0 = 0) && decide ((aS A).2.1 1 = 0)) = true := by rw [hl, decide_eq_true hz.1, decide_eq_true hz.2]; rfl
        rw [hf, if_pos rfl] at hT
        have hfw := hA.fw hl
        have h79 : ∀ M' v, k (some (.int v)) M' → X 79 [] [.int v] M' := by
          intro M' v hv
          refine hb79 _ _ _ ?_
          simp (maxSteps := 2000000) [bk_X6_needs_0, bk_X6_needs_14, bk_X6_needs_38, bk_X6_needs_41, bk_X6_needs_43, bk_X6_needs_78, bk_X6_needs_79, bk_X6_needs_80, bk_X6_needs_86, pm_call, pm_e_c0, pm_e_c1, pm_e_cti, pm_e_ctl, pm_e_ctr, pm_e_go, pm_e_i, pm_e_ii, pm_e_ldi, pm_e_ldr, pm_e_lk, pm_e_r, pm_e_rm0, pm_e_rm1, pm_e_rs0, pm_e_rs1, pm_e_wp0, pm_e_wp1, pm_f2, pm_f3, pm_fld, pm_fv, pm_obj, pm_recv, pm_s_aload_n, pm_s_bipush, pm_s_getfield, pm_s_goto, pm_s_iconst, pm_s_ifCond_eq, pm_s_ifCond_ne, pm_s_if_icmp_eq, pm_s_if_icmp_ge, pm_s_if_icmp_gt, pm_s_if_icmp_ne, pm_s_iinc, pm_s_iload_n, pm_s_invokestatic, pm_s_invokevirtual, pm_s_ireturn, pm_s_istore_n, pm_s_sipush, ct_X6_needs, tt_X6_isWithin, tt_X6_allLaid, pS, pR, pC, pE, pL, -Int32.not_le, -Int32.not_lt, -Int64.not_le, -Int64.not_lt, -List.getD_eq_getElem?_getD]
          exact hv
        -- one number of cells: what it answers, or the next
        have stp : ∀ (e : Nat) (M' : pm_M), e ≤ 2 → MX M' A → (slvA (aP A) e (aS A) (tn x) = -nI 3 → ∀ M'', MX M'' A → k (some (.int (-nI 3))) M'') → (slvA (aP A) e (aS A) (tn x) ≠ -nI 1 → slvA (aP A) e (aS A) (tn x) ≠ -nI 3 → ∀ M'', MX M'' A → k (some (.int (nI e))) M'') → (slvA (aP A) e (aS A) (tn x) = -nI 1 → ∀ M'', MX M'' A → X 43 [(0, .ref 0), (1, .int x), (2, .int (nI (e + 1)))] [] M'') → X 43 [(0, .ref 0), (1, .int x), (2, .int (nI e))] [] M' := by
          intro e M' he hM' k3 kd k1
          obtain ⟨gD, gS, gH, gL, gW, gQ, gPl, gTr⟩ := id hM'
          have dn : ∀ (M1 : pm_M) (d : Nat), slv (aP A) e (aS A) (tn x) (nI d) → d ≤ 4000 → MX M1 A → (nI d = -nI 1 → X 80 [(0, .ref 0), (1, .int x), (2, .int (nI e))] [] M1) ∧ (¬ nI d = -nI 1 → (¬ nI d = -nI 3 → X 78 [(2, .int (nI e))] [] M1) ∧ (nI d = -nI 3 → X 79 [] [.int (-nI 3)] M1)) := by
            intro M1 d s1 s2 s3
            have e1 := slvA_e s1
            have n1 : ¬ nI d = -nI 1 := by rw [ni_eq_neg (by decide) (by omega) (by decide)]; exact id
            have n3 : ¬ nI d = -nI 3 := by rw [ni_eq_neg (by decide) (by omega) (by decide)]; exact id
            refine ⟨fun h => absurd h n1, fun _ => ⟨fun _ => ?_, fun h => absurd h n3⟩⟩
            refine hb78 _ _ _ ?_
            simp (maxSteps := 2000000) [bk_X6_needs_0, bk_X6_needs_14, bk_X6_needs_38, bk_X6_needs_41, bk_X6_needs_43, bk_X6_needs_78, bk_X6_needs_79, bk_X6_needs_80, bk_X6_needs_86, pm_call, pm_e_c0, pm_e_c1, pm_e_cti, pm_e_ctl, pm_e_ctr, pm_e_go, pm_e_i, pm_e_ii, pm_e_ldi, pm_e_ldr, pm_e_lk, pm_e_r, pm_e_rm0, pm_e_rm1, pm_e_rs0, pm_e_rs1, pm_e_wp0, pm_e_wp1, pm_f2, pm_f3, pm_fld, pm_fv, pm_obj, pm_recv, pm_s_aload_n, pm_s_bipush, pm_s_getfield, pm_s_goto, pm_s_iconst, pm_s_ifCond_eq, pm_s_ifCond_ne, pm_s_if_icmp_eq, pm_s_if_icmp_ge, pm_s_if_icmp_gt, pm_s_if_icmp_ne, pm_s_iinc, pm_s_iload_n, pm_s_invokestatic, pm_s_invokevirtual, pm_s_ireturn, pm_s_istore_n, pm_s_sipush, ct_X6_needs, tt_X6_isWithin, tt_X6_allLaid, pS, pR, pC, pE, pL, -Int32.not_le, -Int32.not_lt, -Int64.not_le, -Int64.not_lt, -List.getD_eq_getElem?_getD]
            exact h79 M1 _ (kd (by rw [e1]; exact n1) (by rw [e1]; exact n3) M1 s3)
          refine hb43 _ _ _ ?_
          simp (maxSteps := 2000000) [bk_X6_needs_0, bk_X6_needs_14, bk_X6_needs_38, bk_X6_needs_41, bk_X6_needs_43, bk_X6_needs_78, bk_X6_needs_79, bk_X6_needs_80, bk_X6_needs_86, pm_call, pm_e_c0, pm_e_c1, pm_e_cti, pm_e_ctl, pm_e_ctr, pm_e_go, pm_e_i, pm_e_ii, pm_e_ldi, pm_e_ldr, pm_e_lk, pm_e_r, pm_e_rm0, pm_e_rm1, pm_e_rs0, pm_e_rs1, pm_e_wp0, pm_e_wp1, pm_f2, pm_f3, pm_fld, pm_fv, pm_obj, pm_recv, pm_s_aload_n, pm_s_bipush, pm_s_getfield, pm_s_goto, pm_s_iconst, pm_s_ifCond_eq, pm_s_ifCond_ne, pm_s_if_icmp_eq, pm_s_if_icmp_ge, pm_s_if_icmp_gt, pm_s_if_icmp_ne, pm_s_iinc, pm_s_iload_n, pm_s_invokestatic, pm_s_invokevirtual, pm_s_ireturn, pm_s_istore_n, pm_s_sipush, ct_X6_needs, tt_X6_isWithin, tt_X6_allLaid, pS, pR, pC, pE, pL, -Int32.not_le, -Int32.not_lt, -Int64.not_le, -Int64.not_lt, -List.getD_eq_getElem?_getD, sx_0, sx_28]
          rw [ni_lt (by decide) (by omega)]
          refine ⟨fun h => by omega, fun _ => ?_⟩
          refine ⟨aP A, e, pE (aP A), aS A, tn x, rfl, x1, he, x2, x3, gD, gS, hfw.cells hz.1 hz.2 e, fun hd => ?_, fun hnd M1 d l s1 s2 s3 s4 s5 f1 => ?_, fun hnd M1 s1 f1 => ?_, fun hnd M1 s1 f1 => ?_⟩
          · simp (maxSteps := 2000000) [bk_X6_needs_0, bk_X6_needs_14, bk_X6_needs_38, bk_X6_needs_41, bk_X6_needs_43, bk_X6_needs_78, bk_X6_needs_79, bk_X6_needs_80, bk_X6_needs_86, pm_call, pm_e_c0, pm_e_c1, pm_e_cti, pm_e_ctl, pm_e_ctr, pm_e_go, pm_e_i, pm_e_ii, pm_e_ldi, pm_e_ldr, pm_e_lk, pm_e_r, pm_e_rm0, pm_e_rm1, pm_e_rs0, pm_e_rs1, pm_e_wp0, pm_e_wp1, pm_f2, pm_f3, pm_fld, pm_fv, pm_obj, pm_recv, pm_s_aload_n, pm_s_bipush, pm_s_getfield, pm_s_goto, pm_s_iconst, pm_s_ifCond_eq, pm_s_ifCond_ne, pm_s_if_icmp_eq, pm_s_if_icmp_ge, pm_s_if_icmp_gt, pm_s_if_icmp_ne, pm_s_iinc, pm_s_iload_n, pm_s_invokestatic, pm_s_invokevirtual, pm_s_ireturn, pm_s_istore_n, pm_s_sipush, ct_X6_needs, tt_X6_isWithin, tt_X6_allLaid, pS, pR, pC, pE, pL, -Int32.not_le, -Int32.not_lt, -Int64.not_le, -Int64.not_lt, -List.getD_eq_getElem?_getD]
            exact dn M' 0 (slv_D0 hd).1 (by omega) hM'
          · simp (maxSteps := 2000000) [bk_X6_needs_0, bk_X6_needs_14, bk_X6_needs_38, bk_X6_needs_41, bk_X6_needs_43, bk_X6_needs_78, bk_X6_needs_79, bk_X6_needs_80, bk_X6_needs_86, pm_call, pm_e_c0, pm_e_c1, pm_e_cti, pm_e_ctl, pm_e_ctr, pm_e_go, pm_e_i, pm_e_ii, pm_e_ldi, pm_e_ldr, pm_e_lk, pm_e_r, pm_e_rm0, pm_e_rm1, pm_e_rs0, pm_e_rs1, pm_e_wp0, pm_e_wp1, pm_f2, pm_f3, pm_fld, pm_fv, pm_obj, pm_recv, pm_s_aload_n, pm_s_bipush, pm_s_getfield, pm_s_goto, pm_s_iconst, pm_s_ifCond_eq, pm_s_ifCond_ne, pm_s_if_icmp_eq, pm_s_if_icmp_ge, pm_s_if_icmp_gt, pm_s_if_icmp_ne, pm_s_iinc, pm_s_iload_n, pm_s_invokestatic, pm_s_invokevirtual, pm_s_ireturn, pm_s_istore_n, pm_s_sipush, ct_X6_needs, tt_X6_isWithin, tt_X6_allLaid, pS, pR, pC, pE, pL, -Int32.not_le, -Int32.not_lt, -Int64.not_le, -Int64.not_lt, -List.getD_eq_getElem?_getD]
            exact dn M1 d (Or.inl ⟨d, rfl, s4, s1⟩) s4 (hM'.scr f1 (by decide))
          · simp (maxSteps := 2000000) [bk_X6_needs_0, bk_X6_needs_14, bk_X6_needs_38, bk_X6_needs_41, bk_X6_needs_43, bk_X6_needs_78, bk_X6_needs_79, bk_X6_needs_80, bk_X6_needs_86, pm_call, pm_e_c0, pm_e_c1, pm_e_cti, pm_e_ctl, pm_e_ctr, pm_e_go, pm_e_i, pm_e_ii, pm_e_ldi, pm_e_ldr, pm_e_lk, pm_e_r, pm_e_rm0, pm_e_rm1, pm_e_rs0, pm_e_rs1, pm_e_wp0, pm_e_wp1, pm_f2, pm_f3, pm_fld, pm_fv, pm_obj, pm_recv, pm_s_aload_n, pm_s_bipush, pm_s_getfield, pm_s_goto, pm_s_iconst, pm_s_ifCond_eq, pm_s_ifCond_ne, pm_s_if_icmp_eq, pm_s_if_icmp_ge, pm_s_if_icmp_gt, pm_s_if_icmp_ne, pm_s_iinc, pm_s_iload_n, pm_s_invokestatic, pm_s_invokevirtual, pm_s_ireturn, pm_s_istore_n, pm_s_sipush, ct_X6_needs, tt_X6_isWithin, tt_X6_allLaid, pS, pR, pC, pE, pL, -Int32.not_le, -Int32.not_lt, -Int64.not_le, -Int64.not_lt, -List.getD_eq_getElem?_getD]
            have e1 := slvA_e (Or.inr (Or.inl ⟨rfl, s1⟩) : slv (aP A) e (aS A) (tn x) (-nI 1))
            refine hb80 _ _ _ ?_
            simp (maxSteps := 2000000) [bk_X6_needs_0, bk_X6_needs_14, bk_X6_needs_38, bk_X6_needs_41, bk_X6_needs_43, bk_X6_needs_78, bk_X6_needs_79, bk_X6_needs_80, bk_X6_needs_86, pm_call, pm_e_c0, pm_e_c1, pm_e_cti, pm_e_ctl, pm_e_ctr, pm_e_go, pm_e_i, pm_e_ii, pm_e_ldi, pm_e_ldr, pm_e_lk, pm_e_r, pm_e_rm0, pm_e_rm1, pm_e_rs0, pm_e_rs1, pm_e_wp0, pm_e_wp1, pm_f2, pm_f3, pm_fld, pm_fv, pm_obj, pm_recv, pm_s_aload_n, pm_s_bipush, pm_s_getfield, pm_s_goto, pm_s_iconst, pm_s_ifCond_eq, pm_s_ifCond_ne, pm_s_if_icmp_eq, pm_s_if_icmp_ge, pm_s_if_icmp_gt, pm_s_if_icmp_ne, pm_s_iinc, pm_s_iload_n, pm_s_invokestatic, pm_s_invokevirtual, pm_s_ireturn, pm_s_istore_n, pm_s_sipush, ct_X6_needs, tt_X6_isWithin, tt_X6_allLaid, pS, pR, pC, pE, pL, -Int32.not_le, -Int32.not_lt, -Int64.not_le, -Int64.not_lt, -List.getD_eq_getElem?_getD]
            rw [ni_add]
            exact k1 e1 M1 (hM'.scr f1 (by decide))
          · simp (maxSteps := 2000000) [bk_X6_needs_0, bk_X6_needs_14, bk_X6_needs_38, bk_X6_needs_41, bk_X6_needs_43, bk_X6_needs_78, bk_X6_needs_79, bk_X6_needs_80, bk_X6_needs_86, pm_call, pm_e_c0, pm_e_c1, pm_e_cti, pm_e_ctl, pm_e_ctr, pm_e_go, pm_e_i, pm_e_ii, pm_e_ldi, pm_e_ldr, pm_e_lk, pm_e_r, pm_e_rm0, pm_e_rm1, pm_e_rs0, pm_e_rs1, pm_e_wp0, pm_e_wp1, pm_f2, pm_f3, pm_fld, pm_fv, pm_obj, pm_recv, pm_s_aload_n, pm_s_bipush, pm_s_getfield, pm_s_goto, pm_s_iconst, pm_s_ifCond_eq, pm_s_ifCond_ne, pm_s_if_icmp_eq, pm_s_if_icmp_ge, pm_s_if_icmp_gt, pm_s_if_icmp_ne, pm_s_iinc, pm_s_iload_n, pm_s_invokestatic, pm_s_invokevirtual, pm_s_ireturn, pm_s_istore_n, pm_s_sipush, ct_X6_needs, tt_X6_isWithin, tt_X6_allLaid, pS, pR, pC, pE, pL, -Int32.not_le, -Int32.not_lt, -Int64.not_le, -Int64.not_lt, -List.getD_eq_getElem?_getD, show ¬ (-nI 3 : Int32) = -nI 1 by decide]
            have e1 := slvA_e (Or.inr (Or.inr ⟨rfl, s1⟩) : slv (aP A) e (aS A) (tn x) (-nI 3))
            exact h79 M1 _ (k3 e1 M1 (hM'.scr f1 (by decide)))
        refine hb41 _ _ _ ?_
        simp (maxSteps := 2000000) [bk_X6_needs_0, bk_X6_needs_14, bk_X6_needs_38, bk_X6_needs_41, bk_X6_needs_43, bk_X6_needs_78, bk_X6_needs_79, bk_X6_needs_80, bk_X6_needs_86, pm_call, pm_e_c0, pm_e_c1, pm_e_cti, pm_e_ctl, pm_e_ctr, pm_e_go, pm_e_i, pm_e_ii, pm_e_ldi, pm_e_ldr, pm_e_lk, pm_e_r, pm_e_rm0, pm_e_rm1, pm_e_rs0, pm_e_rs1, pm_e_wp0, pm_e_wp1, pm_f2, pm_f3, pm_fld, pm_fv, pm_obj, pm_recv, pm_s_aload_n, pm_s_bipush, pm_s_getfield, pm_s_goto, pm_s_iconst, pm_s_ifCond_eq, pm_s_ifCond_ne, pm_s_if_icmp_eq, pm_s_if_icmp_ge, pm_s_if_icmp_gt, pm_s_if_icmp_ne, pm_s_iinc, pm_s_iload_n, pm_s_invokestatic, pm_s_invokevirtual, pm_s_ireturn, pm_s_istore_n, pm_s_sipush, ct_X6_needs, tt_X6_isWithin, tt_X6_allLaid, pS, pR, pC, pE, pL, -Int32.not_le, -Int32.not_lt, -Int64.not_le, -Int64.not_lt, -List.getD_eq_getElem?_getD]
        refine stp 0 M (by decide) hM (fun q M1 g => ?_) (fun q q' M1 g => ?_) (fun q M1 g => ?_)
        · rw [if_pos (by rw [q]; decide), if_pos q] at hT; exact hT M1 g
        · rw [if_pos q, if_neg q'] at hT; exact hT M1 g
        · rw [if_neg (fun z => z q)] at hT
          refine stp 1 M1 (by decide) g (fun q M1 g => ?_) (fun q q' M1 g => ?_) (fun q M1 g => ?_)
          · rw [if_pos (by rw [q]; decide), if_pos q] at hT; exact hT M1 g
          · rw [if_pos q, if_neg q'] at hT; exact hT M1 g
          · rw [if_neg (fun z => z q)] at hT
            refine stp 2 M1 (by decide) g (fun q M1 g => ?_) (fun q q' M1 g => ?_) (fun q M1 g => ?_)
            · rw [if_pos (by rw [q]; decide), if_pos q] at hT; exact hT M1 g
            · rw [if_pos q, if_neg q'] at hT; exact hT M1 g
            · rw [if_neg (fun z => z q)] at hT
              refine hb43 _ _ _ ?_
              simp (maxSteps := 2000000) [bk_X6_needs_0, bk_X6_needs_14, bk_X6_needs_38, bk_X6_needs_41, bk_X6_needs_43, bk_X6_needs_78, bk_X6_needs_79, bk_X6_needs_80, bk_X6_needs_86, pm_call, pm_e_c0, pm_e_c1, pm_e_cti, pm_e_ctl, pm_e_ctr, pm_e_go, pm_e_i, pm_e_ii, pm_e_ldi, pm_e_ldr, pm_e_lk, pm_e_r, pm_e_rm0, pm_e_rm1, pm_e_rs0, pm_e_rs1, pm_e_wp0, pm_e_wp1, pm_f2, pm_f3, pm_fld, pm_fv, pm_obj, pm_recv, pm_s_aload_n, pm_s_bipush, pm_s_getfield, pm_s_goto, pm_s_iconst, pm_s_ifCond_eq, pm_s_ifCond_ne, pm_s_if_icmp_eq, pm_s_if_icmp_ge, pm_s_if_icmp_gt, pm_s_if_icmp_ne, pm_s_iinc, pm_s_iload_n, pm_s_invokestatic, pm_s_invokevirtual, pm_s_ireturn, pm_s_istore_n, pm_s_sipush, ct_X6_needs, tt_X6_isWithin, tt_X6_allLaid, pS, pR, pC, pE, pL, -Int32.not_le, -Int32.not_lt, -Int64.not_le, -Int64.not_lt, -List.getD_eq_getElem?_getD]
              refine ⟨fun _ => ?_, fun h => absurd (by decide) h⟩
              refine hb86 _ _ _ ?_
              simp (maxSteps := 2000000) [bk_X6_needs_0, bk_X6_needs_14, bk_X6_needs_38, bk_X6_needs_41, bk_X6_needs_43, bk_X6_needs_78, bk_X6_needs_79, bk_X6_needs_80, bk_X6_needs_86, pm_call, pm_e_c0, pm_e_c1, pm_e_cti, pm_e_ctl, pm_e_ctr, pm_e_go, pm_e_i, pm_e_ii, pm_e_ldi, pm_e_ldr, pm_e_lk, pm_e_r, pm_e_rm0, pm_e_rm1, pm_e_rs0, pm_e_rs1, pm_e_wp0, pm_e_wp1, pm_f2, pm_f3, pm_fld, pm_fv, pm_obj, pm_recv, pm_s_aload_n, pm_s_bipush, pm_s_getfield, pm_s_goto, pm_s_iconst, pm_s_ifCond_eq, pm_s_ifCond_ne, pm_s_if_icmp_eq, pm_s_if_icmp_ge, pm_s_if_icmp_gt, pm_s_if_icmp_ne, pm_s_iinc, pm_s_iload_n, pm_s_invokestatic, pm_s_invokevirtual, pm_s_ireturn, pm_s_istore_n, pm_s_sipush, ct_X6_needs, tt_X6_isWithin, tt_X6_allLaid, pS, pR, pC, pE, pL, -Int32.not_le, -Int32.not_lt, -Int64.not_le, -Int64.not_lt, -List.getD_eq_getElem?_getD]
              exact hT M1 g
      · rw [hl]
        by_cases z0 : (aS A).2.1 0 = 0
        · by_cases z1 : (aS A).2.1 1 = 0
          · exact absurd (hfull.mpr ⟨z0, z1⟩) (by omega)
          · rw [decide_eq_false z1, Bool.and_false]
        · rw [decide_eq_false z0]; rfl
    · rw [if_neg (by simp [h])] at hT
      exact hT M hM
  · exact hT.elim
