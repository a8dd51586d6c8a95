theorem MX.tray {M M' : pm_M} {A : Ab} {t : Nat} (ht : t < 6) {T : Nat × Nat × List Nat} (h : MX M A) (hf : pm_fr [10, 15 + 2 * t, 16 + 2 * t] M M') (hT : TrX M' t T) : MX M' (aP A, aS A, aL A, aW A, aH A, aPr A, aLa A, aPl A, up (aT A) t T, aQ A) := by
  obtain ⟨hD, hS, hH, hL, hW, hQ, hPl, hTr⟩ := h
  have no : ∀ q, q < 15 → q ≠ 10 → q ∉ [10, 15 + 2 * t, 16 + 2 * t] := fun q h1 h2 h3 => by simp at h3; omega
  have no2 : ∀ q, 26 < q → q ∉ [10, 15 + 2 * t, 16 + 2 * t] := fun q h1 h3 => by simp at h3; omega
  refine ⟨hD.moved hf (fun q hq => no q ?_ ?_), hS.mv hf (fun q hq => no q ?_ ?_), hH.mv hf (fun q hq => no q ?_ ?_), hL.mv hf (no _ (by decide) (by decide)), ?_, ?_, hPl.mv hf (no2 _ (by decide)) (no2 _ (by decide)), fun u hu => ?_⟩
  · simp at hq; omega
  · simp at hq; omega
  · simp at hq; omega
  · simp at hq; omega
  · simp at hq; omega
  · simp at hq; omega
  · rw [hf.i (no _ (by decide) (by decide))]; exact hW
  · rw [hf.i (no _ (by decide) (by decide))]; exact hQ
  · show TrX M' u (up (aT A) t T u)
    by_cases z : u = t
    · rw [z, up_s]; exact hT
    · rw [up_n _ _ z]
      exact (hTr u hu).mv hf (fun q => by simp at q; omega) (fun q => by simp at q; omega)
def tt_X6_fill : pm_T := fun args M k => match args with
  | [.ref 0, .ref p, .int y, .int z] => ∃ (A : Ab) (t w : Nat), okA A ∧ MX M A ∧ t < 6 ∧ p = 15 + 2 * t ∧ y = nI w ∧ w ≤ 4 ∧ (w = 2 → z = nI (tn z) ∧ tn z < pC (aP A)) ∧ ∀ M', TrX M' t (thg A w (tn z)) → pm_fr [10, 15 + 2 * t, 16 + 2 * t] M M' → k none M'
  | _ => False
abbrev ct_X6_fill : List pm_C := [(false, 261, 4, 4, (some .int), tt_X4_writeColumn), (false, 215, 4, 2, (some .int), tt_X4_writeForm), (false, 265, 4, 2, (some .int), tt_X4_writeHoused)]
set_option maxHeartbeats 4000000 in
theorem sm_X6_fill  : pm_Sem SHx yX6_fill cX6_fill 4 none 5 tt_X6_fill := by
  refine pm_Sem_intro bl_X6_fill ct_X6_fill cs_X6_fill rfl (List.forall_mem_cons.mpr ⟨⟨_, _, _, _, sm_X4_writeColumn, by decide, cm_X4_writeColumn, by decide +kernel⟩, List.forall_mem_cons.mpr ⟨⟨_, _, _, _, sm_X4_writeForm, by decide, cm_X4_writeForm, by decide +kernel⟩, List.forall_mem_cons.mpr ⟨⟨_, _, _, _, sm_X4_writeHoused, by decide, cm_X4_writeHoused, by decide +kernel⟩, fun _ h => absurd h List.not_mem_nil⟩⟩⟩) ck_X6_fill (by decide +kernel) (by decide) ?_
  intro X k hX args M hT
  have hb0 := hX 0 bk_X6_fill_0 (List.mem_of_getElem? (i := 0) rfl)
  have hb40 := hX 40 bk_X6_fill_40 (List.mem_of_getElem? (i := 1) rfl)
  have hb54 := hX 54 bk_X6_fill_54 (List.mem_of_getElem? (i := 2) rfl)
  have hb74 := hX 74 bk_X6_fill_74 (List.mem_of_getElem? (i := 3) rfl)
  have hb92 := hX 92 bk_X6_fill_92 (List.mem_of_getElem? (i := 4) rfl)
  have hb110 := hX 110 bk_X6_fill_110 (List.mem_of_getElem? (i := 5) rfl)
  clear hX
  unfold tt_X6_fill at hT; split at hT
  · next p y z =>
    obtain ⟨A, t, w, hA, hM, ht, rfl, rfl, hw, hz, hT⟩ := hT
    obtain ⟨x1, x2, x3, x4⟩ := tr_sx ht
    obtain ⟨hD, hS, hH, hL, hW, hQ, hPl, hTr⟩ := id hM
    have hP := hA.1
    have hI := hA.wf.inDk
    have h7 := hP.2.2.2.2.2.2.1
    refine ⟨by simp [lg_sl, Value.category], ?_⟩
    have h110 : ∀ M', TrX M' t (thg A w (tn z)) → pm_fr [10, 15 + 2 * t, 16 + 2 * t] M M' → X 110 [] [] M' := by
      intro M' q1 q2
      refine hb110 _ _ _ ?_
      simp (maxSteps := 2000000) [bk_X6_fill_0, bk_X6_fill_40, bk_X6_fill_54, bk_X6_fill_74, bk_X6_fill_92, bk_X6_fill_110, pm_call, pm_e_c0, pm_e_c1, pm_e_cti, pm_e_ctl, pm_e_ctr, pm_e_go, pm_e_i, pm_e_ldi, pm_e_ldr, pm_e_lk, pm_e_r, pm_e_rm0, pm_e_rm1, pm_e_rs0, pm_e_rs1, pm_e_sw0, pm_e_sw1, pm_e_wp0, pm_e_wp1, pm_f2, pm_f3, pm_fld, pm_fv, pm_obj, pm_recv, pm_s_aload_n, pm_s_getfield, pm_s_goto, pm_s_iconst, pm_s_iload_n, pm_s_invokevirtual, pm_s_putfield, pm_s_return, pm_s_tableswitch, ct_X6_fill, pS, pR, pC, pE, pL, -Int32.not_le, -Int32.not_lt, -Int64.not_le, -Int64.not_lt, -List.getD_eq_getElem?_getD]
      exact hT M' q1 q2
    have f1 : pm_fr [15 + 2 * t] M (pm_set (pm_set M (15 + 2 * t) 1 (nI w)) (15 + 2 * t) 3 (nI 0)) := (pm_fr.rfl.set (by simp)).set (by simp)
    have g1 : (pm_set (pm_set M (15 + 2 * t) 1 (nI w)) (15 + 2 * t) 3 (nI 0)).1 (15 + 2 * t) 1 = nI w := by rw [me_1s, if_neg (by decide), me_1s, if_pos rfl]
    have g3 : (pm_set (pm_set M (15 + 2 * t) 1 (nI w)) (15 + 2 * t) 3 (nI 0)).1 (15 + 2 * t) 3 = nI 0 := by rw [me_1s, if_pos rfl]
    refine hb0 _ _ _ ?_
    simp (maxSteps := 2000000) [bk_X6_fill_0, bk_X6_fill_40, bk_X6_fill_54, bk_X6_fill_74, bk_X6_fill_92, bk_X6_fill_110, pm_call, pm_e_c0, pm_e_c1, pm_e_cti, pm_e_ctl, pm_e_ctr, pm_e_go, pm_e_i, pm_e_ldi, pm_e_ldr, pm_e_lk, pm_e_r, pm_e_rm0, pm_e_rm1, pm_e_rs0, pm_e_rs1, pm_e_sw0, pm_e_sw1, pm_e_wp0, pm_e_wp1, pm_f2, pm_f3, pm_fld, pm_fv, pm_obj, pm_recv, pm_s_aload_n, pm_s_getfield, pm_s_goto, pm_s_iconst, pm_s_iload_n, pm_s_invokevirtual, pm_s_putfield, pm_s_return, pm_s_tableswitch, ct_X6_fill, pS, pR, pC, pE, pL, -Int32.not_le, -Int32.not_lt, -Int64.not_le, -Int64.not_lt, -List.getD_eq_getElem?_getD, lv_args, x1]
    generalize pm_set (pm_set M (15 + 2 * t) 1 (nI w)) (15 + 2 * t) 3 (nI 0) = M1 at *
    have f1' : pm_fr [10, 15 + 2 * t, 16 + 2 * t] M M1 := f1.mono (by simp)
    have no : ∀ q : Nat, q < 15 → q ∉ [15 + 2 * t] := fun q h1 h3 => by simp at h3; omega
    have hD1 : DkX M1 (aP A) := hD.moved f1 (fun q hq => no q (by simp at hq; omega))
    have hS1 : SdX M1 5 (pE (aP A)) (aS A) := hS.moved f1 (fun q hq => no q (by simp at hq; omega))
    rw [nI_toInt (by omega)]
    -- the size behind the numbers
    have fin : ∀ (M2 : pm_M) (L : List Nat), thg A w (tn z) = (w, 0, L) → w ≠ 1 → rowIs M2 (16 + 2 * t) L → pm_fr [10, 16 + 2 * t] M1 M2 → X 110 [] [] (pm_set M2 (15 + 2 * t) 3 (nI L.length)) := by
      intro M2 L eT w1 r1 f2
      refine h110 _ ?_ ((f1'.trans (f2.mono (by intro q hq; simp at hq ⊢; omega))).set (by simp))
      rw [eT]
      refine ⟨?_, fun h => absurd h w1, ?_, ?_⟩
      · rw [me_1s, if_neg (by decide), f2.i (fun q => by simp at q; omega)]; exact g1
      · rw [me_1s, if_pos rfl]
      · exact r1.mv (ps := [15 + 2 * t]) (pm_fr.rfl.set (by simp)) (fun q => by simp at q)
    rcases (show w = 0 ∨ w = 1 ∨ w = 2 ∨ w = 3 ∨ w = 4 by omega) with rfl | rfl | rfl | rfl | rfl
    · simp
      refine h110 M1 ⟨g1, fun h => absurd h (by simp [thg]), g3, fun j hj => ?_⟩ f1'
      simp [thg] at hj
    · simp
      refine hb40 _ _ _ ?_
      have m7 := hD1.1.2.1.2.2.2.2
      simp (maxSteps := 2000000) [bk_X6_fill_0, bk_X6_fill_40, bk_X6_fill_54, bk_X6_fill_74, bk_X6_fill_92, bk_X6_fill_110, pm_call, pm_e_c0, pm_e_c1, pm_e_cti, pm_e_ctl, pm_e_ctr, pm_e_go, pm_e_i, pm_e_ldi, pm_e_ldr, pm_e_lk, pm_e_r, pm_e_rm0, pm_e_rm1, pm_e_rs0, pm_e_rs1, pm_e_sw0, pm_e_sw1, pm_e_wp0, pm_e_wp1, pm_f2, pm_f3, pm_fld, pm_fv, pm_obj, pm_recv, pm_s_aload_n, pm_s_getfield, pm_s_goto, pm_s_iconst, pm_s_iload_n, pm_s_invokevirtual, pm_s_putfield, pm_s_return, pm_s_tableswitch, ct_X6_fill, pS, pR, pC, pE, pL, -Int32.not_le, -Int32.not_lt, -Int64.not_le, -Int64.not_lt, -List.getD_eq_getElem?_getD, x1, sx_0, sx_1, m7]
      refine h110 _ ⟨?_, fun _ => ?_, ?_, fun j hj => ?_⟩ (f1'.set (by simp))
      · rw [me_1s, if_neg (by decide)]; exact g1
      · rw [me_1s, if_pos rfl]; rfl
      · rw [me_1s, if_neg (by decide)]; exact g3
      · simp [thg] at hj
    · simp
      obtain ⟨z1, z2⟩ := hz rfl
      refine hb54 _ _ _ ?_
      simp (maxSteps := 2000000) [bk_X6_fill_0, bk_X6_fill_40, bk_X6_fill_54, bk_X6_fill_74, bk_X6_fill_92, bk_X6_fill_110, pm_call, pm_e_c0, pm_e_c1, pm_e_cti, pm_e_ctl, pm_e_ctr, pm_e_go, pm_e_i, pm_e_ldi, pm_e_ldr, pm_e_lk, pm_e_r, pm_e_rm0, pm_e_rm1, pm_e_rs0, pm_e_rs1, pm_e_sw0, pm_e_sw1, pm_e_wp0, pm_e_wp1, pm_f2, pm_f3, pm_fld, pm_fv, pm_obj, pm_recv, pm_s_aload_n, pm_s_getfield, pm_s_goto, pm_s_iconst, pm_s_iload_n, pm_s_invokevirtual, pm_s_putfield, pm_s_return, pm_s_tableswitch, ct_X6_fill, pS, pR, pC, pE, pL, -Int32.not_le, -Int32.not_lt, -Int64.not_le, -Int64.not_lt, -List.getD_eq_getElem?_getD, x1, sx_0, sx_5]
      have hl12 := hS.len (show tn z < 4 by omega)
      refine ⟨pE (aP A), aS A, aP A, tn z, [], x4, z1, rfl, hS1, hD1, hI, by omega, by unfold rwN; split <;> simp <;> omega, fun j hj => (by cases hj), fun M2 r1 f2 => ?_⟩
      simp (maxSteps := 2000000) [bk_X6_fill_0, bk_X6_fill_40, bk_X6_fill_54, bk_X6_fill_74, bk_X6_fill_92, bk_X6_fill_110, pm_call, pm_e_c0, pm_e_c1, pm_e_cti, pm_e_ctl, pm_e_ctr, pm_e_go, pm_e_i, pm_e_ldi, pm_e_ldr, pm_e_lk, pm_e_r, pm_e_rm0, pm_e_rm1, pm_e_rs0, pm_e_rs1, pm_e_sw0, pm_e_sw1, pm_e_wp0, pm_e_wp1, pm_f2, pm_f3, pm_fld, pm_fv, pm_obj, pm_recv, pm_s_aload_n, pm_s_getfield, pm_s_goto, pm_s_iconst, pm_s_iload_n, pm_s_invokevirtual, pm_s_putfield, pm_s_return, pm_s_tableswitch, ct_X6_fill, pS, pR, pC, pE, pL, -Int32.not_le, -Int32.not_lt, -Int64.not_le, -Int64.not_lt, -List.getD_eq_getElem?_getD, x1]
      have e2 : (List.map (cdN (pR (aP A))) ((aS A).1 (tn z))).length = ((aS A).1 (tn z)).length := List.length_map _
      have := fin M2 _ rfl (by decide) r1 (f2.mono (by simp))
      simpa using this
    · simp
      refine hb74 _ _ _ ?_
      simp (maxSteps := 2000000) [bk_X6_fill_0, bk_X6_fill_40, bk_X6_fill_54, bk_X6_fill_74, bk_X6_fill_92, bk_X6_fill_110, pm_call, pm_e_c0, pm_e_c1, pm_e_cti, pm_e_ctl, pm_e_ctr, pm_e_go, pm_e_i, pm_e_ldi, pm_e_ldr, pm_e_lk, pm_e_r, pm_e_rm0, pm_e_rm1, pm_e_rs0, pm_e_rs1, pm_e_sw0, pm_e_sw1, pm_e_wp0, pm_e_wp1, pm_f2, pm_f3, pm_fld, pm_fv, pm_obj, pm_recv, pm_s_aload_n, pm_s_getfield, pm_s_goto, pm_s_iconst, pm_s_iload_n, pm_s_invokevirtual, pm_s_putfield, pm_s_return, pm_s_tableswitch, ct_X6_fill, pS, pR, pC, pE, pL, -Int32.not_le, -Int32.not_lt, -Int64.not_le, -Int64.not_lt, -List.getD_eq_getElem?_getD, x1, sx_0, sx_5]
      refine ⟨pE (aP A), aS A, aP A, x4, hS1, hD1, hI, hA.wf.c12 hP, fun M2 r1 f2 => ?_⟩
      simp (maxSteps := 2000000) [bk_X6_fill_0, bk_X6_fill_40, bk_X6_fill_54, bk_X6_fill_74, bk_X6_fill_92, bk_X6_fill_110, pm_call, pm_e_c0, pm_e_c1, pm_e_cti, pm_e_ctl, pm_e_ctr, pm_e_go, pm_e_i, pm_e_ldi, pm_e_ldr, pm_e_lk, pm_e_r, pm_e_rm0, pm_e_rm1, pm_e_rs0, pm_e_rs1, pm_e_sw0, pm_e_sw1, pm_e_wp0, pm_e_wp1, pm_f2, pm_f3, pm_fld, pm_fv, pm_obj, pm_recv, pm_s_aload_n, pm_s_getfield, pm_s_goto, pm_s_iconst, pm_s_iload_n, pm_s_invokevirtual, pm_s_putfield, pm_s_return, pm_s_tableswitch, ct_X6_fill, pS, pR, pC, pE, pL, -Int32.not_le, -Int32.not_lt, -Int64.not_le, -Int64.not_lt, -List.getD_eq_getElem?_getD, x1]
      exact fin M2 _ rfl (by decide) r1 f2
    · simp
      refine hb92 _ _ _ ?_
      simp (maxSteps := 2000000) [bk_X6_fill_0, bk_X6_fill_40, bk_X6_fill_54, bk_X6_fill_74, bk_X6_fill_92, bk_X6_fill_110, pm_call, pm_e_c0, pm_e_c1, pm_e_cti, pm_e_ctl, pm_e_ctr, pm_e_go, pm_e_i, pm_e_ldi, pm_e_ldr, pm_e_lk, pm_e_r, pm_e_rm0, pm_e_rm1, pm_e_rs0, pm_e_rs1, pm_e_sw0, pm_e_sw1, pm_e_wp0, pm_e_wp1, pm_f2, pm_f3, pm_fld, pm_fv, pm_obj, pm_recv, pm_s_aload_n, pm_s_getfield, pm_s_goto, pm_s_iconst, pm_s_iload_n, pm_s_invokevirtual, pm_s_putfield, pm_s_return, pm_s_tableswitch, ct_X6_fill, pS, pR, pC, pE, pL, -Int32.not_le, -Int32.not_lt, -Int64.not_le, -Int64.not_lt, -List.getD_eq_getElem?_getD, x1, sx_0, sx_5]
      refine ⟨pE (aP A), aS A, aP A, x4, (show (16 + 2 * t : Nat) ≠ 27 by omega), hS1, hD1, fun M2 r1 f2 => ?_⟩
      simp (maxSteps := 2000000) [bk_X6_fill_0, bk_X6_fill_40, bk_X6_fill_54, bk_X6_fill_74, bk_X6_fill_92, bk_X6_fill_110, pm_call, pm_e_c0, pm_e_c1, pm_e_cti, pm_e_ctl, pm_e_ctr, pm_e_go, pm_e_i, pm_e_ldi, pm_e_ldr, pm_e_lk, pm_e_r, pm_e_rm0, pm_e_rm1, pm_e_rs0, pm_e_rs1, pm_e_sw0, pm_e_sw1, pm_e_wp0, pm_e_wp1, pm_f2, pm_f3, pm_fld, pm_fv, pm_obj, pm_recv, pm_s_aload_n, pm_s_getfield, pm_s_goto, pm_s_iconst, pm_s_iload_n, pm_s_invokevirtual, pm_s_putfield, pm_s_return, pm_s_tableswitch, ct_X6_fill, pS, pR, pC, pE, pL, -Int32.not_le, -Int32.not_lt, -Int64.not_le, -Int64.not_lt, -List.getD_eq_getElem?_getD, x1]
      have := fin M2 _ rfl (by decide) r1 (f2.mono (by simp))
      rw [show (truL (aP A) (aS A)).length = 32 by simp [truL]] at this
      exact this
  · exact hT.elim
def tt_X6_put : pm_T := fun args M k => match args with
  | [.ref 0, .int x, .int y, .int z] => ∃ A, okA A ∧ MX M A ∧ ∀ M', MX M' (fPut A x y z).2 → k (some (.int (fPut A x y z).1)) M'
  | _ => False
abbrev ct_X6_put : List pm_C := [(true, 64, 6, 3, (some .boolean), tt_X6_isWithin), (false, 72, 6, 2, (some .boolean), tt_X6_isColumn), (false, 219, 6, 2, (some .int), tt_X6_refuse), (false, 222, 6, 4, none, tt_X6_fill)]
set_option maxHeartbeats 4000000 in
theorem sm_X6_put  : pm_Sem SHx yX6_put cX6_put 5 (some .int) 6 tt_X6_put := by
  refine pm_Sem_intro bl_X6_put ct_X6_put cs_X6_put rfl (List.forall_mem_cons.mpr ⟨⟨_, _, _, _, sm_X6_isWithin, by decide, cm_X6_isWithin, by decide +kernel⟩, List.forall_mem_cons.mpr ⟨⟨_, _, _, _, sm_X6_isColumn, by decide, cm_X6_isColumn, by decide +kernel⟩, List.forall_mem_cons.mpr ⟨⟨_, _, _, _, sm_X6_refuse, by decide, cm_X6_refuse, by decide +kernel⟩, List.forall_mem_cons.mpr ⟨⟨_, _, _, _, sm_X6_fill, by decide, cm_X6_fill, by decide +kernel⟩, fun _ h => absurd h List.not_mem_nil⟩⟩⟩⟩) ck_X6_put (by decide +kernel) (by decide) ?_
  intro X k hX args M hT
  have hb0 := hX 0 bk_X6_put_0 (List.mem_of_getElem? (i := 0) rfl)
  have hb31 := hX 31 bk_X6_put_31 (List.mem_of_getElem? (i := 1) rfl)
  have hb35 := hX 35 bk_X6_put_35 (List.mem_of_getElem? (i := 2) rfl)
  have hb36 := hX 36 bk_X6_put_36 (List.mem_of_getElem? (i := 3) rfl)
  have hb49 := hX 49 bk_X6_put_49 (List.mem_of_getElem? (i := 4) rfl)
  clear hX
  unfold tt_X6_put at hT; split at hT
  · next x y z =>
    obtain ⟨A, hA, hM, hT⟩ := hT
    have m5 := hM.1.1.2.1.2.2.1
    unfold fPut at hT
    refine ⟨by simp [lg_sl, Value.category], ?_⟩
    have h36 : ∀ b : Bool, b = (wi x (nI 0) (nI 5) && wi y (nI 0) (nI 4) && (!decide (y = nI 2) || colOK (aP A) z)) → X 36 [(0, .ref 0), (1, .int x), (2, .int y), (3, .int z)] [.int (pb b)] M := by
      intro b eb
      rw [← eb] at hT
      refine hb36 _ _ _ ?_
      simp (maxSteps := 2000000) [bk_X6_put_0, bk_X6_put_31, bk_X6_put_35, bk_X6_put_36, bk_X6_put_49, pm_arr, pm_call, pm_e_c0, pm_e_c1, pm_e_cti, pm_e_ctl, pm_e_ctr, pm_e_go, pm_e_i, pm_e_ii, pm_e_ldi, pm_e_ldr, pm_e_lk, pm_e_r, pm_e_ri, pm_e_rm0, pm_e_rm1, pm_e_rs0, pm_e_rs1, pm_e_wp0, pm_e_wp1, pm_f2, pm_f3, pm_fld, pm_fv, pm_obj, pm_recv, pm_refs, pm_s_aaload, pm_s_aload_n, pm_s_getfield, pm_s_goto, pm_s_iconst, pm_s_ifCond_eq, pm_s_ifCond_ne, pm_s_if_icmp_ne, pm_s_iload, pm_s_iload_n, pm_s_invokestatic, pm_s_invokevirtual, pm_s_ireturn, pm_s_istore, pm_s_putfield, ct_X6_put, tt_X6_isWithin, tt_X6_isColumn, tt_X6_refuse, pS, pR, pC, pE, pL, -Int32.not_le, -Int32.not_lt, -Int64.not_le, -Int64.not_lt, -List.getD_eq_getElem?_getD, sx_0, pb_eq0]
      refine ⟨fun hb => ?_, fun hb => ?_⟩
      · rw [hb] at hT eb
        simp only [if_true] at hT
        have eb' := eb.symm
        simp only [Bool.and_eq_true, Bool.or_eq_true, Bool.not_eq_true', decide_eq_false_iff_not] at eb'
        obtain ⟨⟨q1, q2⟩, q3⟩ := eb'
        obtain ⟨x1, x2, x3⟩ := wi_tn (by decide) (by decide) q1
        obtain ⟨y1, y2, y3⟩ := wi_tn (by decide) (by decide) q2
        have ht6 : tn x < 6 := by omega
        obtain ⟨s1, s2, s3, s4⟩ := tr_sx ht6
        have hin : vp_in x 6 := by rw [x1, ni_in (by omega)]; omega
        have s3' : [15, 17, 19, 21, 23, 25].getD x.toNatClampNeg 0 = 15 + 2 * tn x := s3
        refine hb49 _ _ _ ?_
        simp (maxSteps := 2000000) [bk_X6_put_0, bk_X6_put_31, bk_X6_put_35, bk_X6_put_36, bk_X6_put_49, pm_arr, pm_call, pm_e_c0, pm_e_c1, pm_e_cti, pm_e_ctl, pm_e_ctr, pm_e_go, pm_e_i, pm_e_ii, pm_e_ldi, pm_e_ldr, pm_e_lk, pm_e_r, pm_e_ri, pm_e_rm0, pm_e_rm1, pm_e_rs0, pm_e_rs1, pm_e_wp0, pm_e_wp1, pm_f2, pm_f3, pm_fld, pm_fv, pm_obj, pm_recv, pm_refs, pm_s_aaload, pm_s_aload_n, pm_s_getfield, pm_s_goto, pm_s_iconst, pm_s_ifCond_eq, pm_s_ifCond_ne, pm_s_if_icmp_ne, pm_s_iload, pm_s_iload_n, pm_s_invokestatic, pm_s_invokevirtual, pm_s_ireturn, pm_s_istore, pm_s_putfield, ct_X6_put, tt_X6_isWithin, tt_X6_isColumn, tt_X6_refuse, pS, pR, pC, pE, pL, -Int32.not_le, -Int32.not_lt, -Int64.not_le, -Int64.not_lt, -List.getD_eq_getElem?_getD, sx_0, sx_14]
        rw [s3']
        refine ⟨hin, ?_⟩
        refine ⟨A, tn x, tn y, hA, hM, ht6, rfl, y1, y3, fun e => ?_, fun M1 r1 f1 => ?_⟩
        · have hz := q3.resolve_left (fun n => n (by rw [y1, e]))
          exact colOK_e hA.1 hz
        · have hM1 := hM.tray ht6 f1 r1
          simp (maxSteps := 2000000) [bk_X6_put_0, bk_X6_put_31, bk_X6_put_35, bk_X6_put_36, bk_X6_put_49, pm_arr, pm_call, pm_e_c0, pm_e_c1, pm_e_cti, pm_e_ctl, pm_e_ctr, pm_e_go, pm_e_i, pm_e_ii, pm_e_ldi, pm_e_ldr, pm_e_lk, pm_e_r, pm_e_ri, pm_e_rm0, pm_e_rm1, pm_e_rs0, pm_e_rs1, pm_e_wp0, pm_e_wp1, pm_f2, pm_f3, pm_fld, pm_fv, pm_obj, pm_recv, pm_refs, pm_s_aaload, pm_s_aload_n, pm_s_getfield, pm_s_goto, pm_s_iconst, pm_s_ifCond_eq, pm_s_ifCond_ne, pm_s_if_icmp_ne, pm_s_iload, pm_s_iload_n, pm_s_invokestatic, pm_s_invokevirtual, pm_s_ireturn, pm_s_istore, pm_s_putfield, ct_X6_put, tt_X6_isWithin, tt_X6_isColumn, tt_X6_refuse, pS, pR, pC, pE, pL, -Int32.not_le, -Int32.not_lt, -Int64.not_le, -Int64.not_lt, -List.getD_eq_getElem?_getD, sx_0]
          refine hT _ (hM1.setQ (q := 0) (pm_fr.rfl.set (by decide)) ?_ ?_ ?_)
          · rw [me_1s, if_neg (by decide)]
          · rw [me_1s, if_neg (by decide)]
          · rw [me_1s, if_pos rfl]
      · rw [hb] at hT
        refine hT _ (hM.setQ (pm_fr.rfl.set (by decide)) ?_ ?_ ?_)
        · rw [me_1s, if_neg (by decide)]
        · rw [me_1s, if_neg (by decide)]
        · rw [me_1s, if_pos rfl]
    have h35 : (wi x (nI 0) (nI 5) && wi y (nI 0) (nI 4) && (!decide (y = nI 2) || colOK (aP A) z)) = false → X 35 [(0, .ref 0), (1, .int x), (2, .int y), (3, .int z)] [] M := by
      intro hf
      refine hb35 _ _ _ ?_
      simp (maxSteps := 2000000) [bk_X6_put_0, bk_X6_put_31, bk_X6_put_35, bk_X6_put_36, bk_X6_put_49, pm_arr, pm_call, pm_e_c0, pm_e_c1, pm_e_cti, pm_e_ctl, pm_e_ctr, pm_e_go, pm_e_i, pm_e_ii, pm_e_ldi, pm_e_ldr, pm_e_lk, pm_e_r, pm_e_ri, pm_e_rm0, pm_e_rm1, pm_e_rs0, pm_e_rs1, pm_e_wp0, pm_e_wp1, pm_f2, pm_f3, pm_fld, pm_fv, pm_obj, pm_recv, pm_refs, pm_s_aaload, pm_s_aload_n, pm_s_getfield, pm_s_goto, pm_s_iconst, pm_s_ifCond_eq, pm_s_ifCond_ne, pm_s_if_icmp_ne, pm_s_iload, pm_s_iload_n, pm_s_invokestatic, pm_s_invokevirtual, pm_s_ireturn, pm_s_istore, pm_s_putfield, ct_X6_put, tt_X6_isWithin, tt_X6_isColumn, tt_X6_refuse, pS, pR, pC, pE, pL, -Int32.not_le, -Int32.not_lt, -Int64.not_le, -Int64.not_lt, -List.getD_eq_getElem?_getD]
      exact h36 false hf.symm
    have h31 : (wi x (nI 0) (nI 5) && wi y (nI 0) (nI 4) && (!decide (y = nI 2) || colOK (aP A) z)) = true → X 31 [(0, .ref 0), (1, .int x), (2, .int y), (3, .int z)] [] M := by
      intro hf
      refine hb31 _ _ _ ?_
      simp (maxSteps := 2000000) [bk_X6_put_0, bk_X6_put_31, bk_X6_put_35, bk_X6_put_36, bk_X6_put_49, pm_arr, pm_call, pm_e_c0, pm_e_c1, pm_e_cti, pm_e_ctl, pm_e_ctr, pm_e_go, pm_e_i, pm_e_ii, pm_e_ldi, pm_e_ldr, pm_e_lk, pm_e_r, pm_e_ri, pm_e_rm0, pm_e_rm1, pm_e_rs0, pm_e_rs1, pm_e_wp0, pm_e_wp1, pm_f2, pm_f3, pm_fld, pm_fv, pm_obj, pm_recv, pm_refs, pm_s_aaload, pm_s_aload_n, pm_s_getfield, pm_s_goto, pm_s_iconst, pm_s_ifCond_eq, pm_s_ifCond_ne, pm_s_if_icmp_ne, pm_s_iload, pm_s_iload_n, pm_s_invokestatic, pm_s_invokevirtual, pm_s_ireturn, pm_s_istore, pm_s_putfield, ct_X6_put, tt_X6_isWithin, tt_X6_isColumn, tt_X6_refuse, pS, pR, pC, pE, pL, -Int32.not_le, -Int32.not_lt, -Int64.not_le, -Int64.not_lt, -List.getD_eq_getElem?_getD]
      exact h36 true hf.symm
    refine hb0 _ _ _ ?_
    simp (maxSteps := 2000000) [bk_X6_put_0, bk_X6_put_31, bk_X6_put_35, bk_X6_put_36, bk_X6_put_49, pm_arr, pm_call, pm_e_c0, pm_e_c1, pm_e_cti, pm_e_ctl, pm_e_ctr, pm_e_go, pm_e_i, pm_e_ii, pm_e_ldi, pm_e_ldr, pm_e_lk, pm_e_r, pm_e_ri, pm_e_rm0, pm_e_rm1, pm_e_rs0, pm_e_rs1, pm_e_wp0, pm_e_wp1, pm_f2, pm_f3, pm_fld, pm_fv, pm_obj, pm_recv, pm_refs, pm_s_aaload, pm_s_aload_n, pm_s_getfield, pm_s_goto, pm_s_iconst, pm_s_ifCond_eq, pm_s_ifCond_ne, pm_s_if_icmp_ne, pm_s_iload, pm_s_iload_n, pm_s_invokestatic, pm_s_invokevirtual, pm_s_ireturn, pm_s_istore, pm_s_putfield, ct_X6_put, tt_X6_isWithin, tt_X6_isColumn, tt_X6_refuse, pS, pR, pC, pE, pL, -Int32.not_le, -Int32.not_lt, -Int64.not_le, -Int64.not_lt, -List.getD_eq_getElem?_getD, lv_args, sx_0, m5, pb_eq0]
    have ez : wi z (nI 0) (nI (aP A).2.2.1 - nI 1) = colOK (aP A) z := rfl
    rw [ez]
    refine ⟨fun h => h35 (by rw [h]; rfl), fun h => ⟨fun h2 => h35 (by rw [h2]; simp), fun h2 => ⟨fun h3 => h31 (by rw [h, h2, decide_eq_false h3]; rfl), fun h3 => ⟨fun h4 => h35 (by rw [decide_eq_true h3, h4]; simp), fun h4 => h31 (by rw [h, h2, h4]; simp)⟩⟩⟩⟩
  · exact hT.elim
