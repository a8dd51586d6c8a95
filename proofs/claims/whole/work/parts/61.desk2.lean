/-- a card's code -/
def cdN (r d : Nat) : Nat := if d = 0 then 0 else 8 * su r d + ra r d
theorem cdN_le {P : Pm} (hP : okP P) {d : Nat} (hd : d ≤ pS P * pR P) : cdN (pR P) d < 32 := by
  obtain ⟨h1, h2, h3, h4, h5, h6, h7, h8, h9⟩ := hP
  unfold cdN; split
  · decide
  · next q =>
    have := su_lt h3 (show 1 ≤ d by omega) hd
    have := ra_le (n := d) h3
    omega
theorem code_n {M : pm_M} {P : Pm} (hD : DkX M P) {d : Nat} (hd : d ≤ pS P * pR P) : (if nI d = 0 then (0 : Int32) else nI 8 * M.1 2 (nI d &&& nI 15).toNatClampNeg + M.1 3 (nI d &&& nI 15).toNatClampNeg) = nI (cdN (pR P) d) := by
  have hP := hD.1.1
  obtain ⟨h1, h2, h3, h4, h5, h6, h7, h8, h9⟩ := hP
  by_cases d0 : d = 0
  · subst d0; rfl
  · have md := hD.1.2.2 d (by omega) hd
    rw [if_neg (by rw [ni_eq0 (by omega)]; exact d0), ni_a15 (by omega), Nat.mod_eq_of_lt (by omega), ni_cl (by omega), md.1, md.2, ni_mul, ni_add]
    unfold cdN; rw [if_neg d0]
def tt_X6_cell : pm_T := fun args M k => match args with
  | [.ref 0, .int x] => ∃ ec S P, SdX M 5 ec S ∧ DkX M P ∧ inD P S ∧ (∀ i, i < pE P → x = nI i → k (some (.int (nI (cdN (pR P) (S.2.1 i))))) M) ∧ ((∀ i, i < pE P → x ≠ nI i) → k (some (.int (-nI 2))) M)
  | _ => False
theorem wi_neg {x : Int32} : wi x (nI 0) (nI 0 - nI 1) = false := by
  cases h : wi x (nI 0) (nI 0 - nI 1) with
  | false => rfl
  | true =>
    simp only [wi, Bool.and_eq_true, Bool.not_eq_true', decide_eq_false_iff_not, Int32.not_lt] at h
    exact absurd (Int32.le_trans h.1 h.2) (by decide)
abbrev ct_X6_cell : List pm_C := [(true, 64, 6, 3, (some .boolean), tt_X6_isWithin), (false, 181, 0, 2, (some .int), tt_X0_codeOf)]
set_option maxHeartbeats 4000000 in
theorem sm_X6_cell  : pm_Sem SHx yX6_cell cX6_cell 2 (some .int) 2 tt_X6_cell := by
  refine pm_Sem_intro bl_X6_cell ct_X6_cell cs_X6_cell rfl (List.forall_mem_cons.mpr ⟨⟨_, _, _, _, sm_X6_isWithin, by decide, cm_X6_isWithin, by decide +kernel⟩, List.forall_mem_cons.mpr ⟨⟨_, _, _, _, sm_X0_codeOf, by decide, cm_X0_codeOf, by decide +kernel⟩, fun _ h => absurd h List.not_mem_nil⟩⟩) ck_X6_cell (by decide +kernel) (by decide) ?_
  intro X k hX args M hT
  have hb0 := hX 0 bk_X6_cell_0 (List.mem_of_getElem? (i := 0) rfl)
  have hb20 := hX 20 bk_X6_cell_20 (List.mem_of_getElem? (i := 1) rfl)
  clear hX
  unfold tt_X6_cell at hT; split at hT
  · next x =>
    obtain ⟨ec, S, P, hS, hD, hI, hT1, hT2⟩ := hT
    have hP := hD.1.1
    obtain ⟨h1, h2, h3, h4, h5, h6, h7, h8, h9⟩ := hP
    have m6 := hD.1.2.1.2.2.2.1
    refine ⟨by simp [lg_sl, Value.category], ?_⟩
    refine hb0 _ _ _ ?_
    simp (maxSteps := 2000000) [bk_X6_cell_0, bk_X6_cell_20, pm_arr, pm_call, pm_e_c0, pm_e_c1, pm_e_cti, pm_e_ctl, pm_e_ctr, pm_e_go, pm_e_i, pm_e_ii, pm_e_ldi, pm_e_ldr, pm_e_lk, pm_e_r, pm_e_ri, pm_e_rm0, pm_e_rm1, pm_e_rs0, pm_e_rs1, pm_e_wp0, pm_e_wp1, pm_f2, pm_f3, pm_fld, pm_fv, pm_obj, pm_recv, pm_s_aload_n, pm_s_bipush, pm_s_getfield, pm_s_iaload, pm_s_iconst, pm_s_ifCond_ne, pm_s_iload_n, pm_s_invokestatic, pm_s_invokevirtual, pm_s_ireturn, pm_s_isub, ct_X6_cell, tt_X6_isWithin, tt_X0_codeOf, pS, pR, pC, pE, pL, -Int32.not_le, -Int32.not_lt, -Int64.not_le, -Int64.not_lt, -List.getD_eq_getElem?_getD, lv_args, sx_0, sx_1, pb_eq0, m6]
    dsimp only [pE] at h8 hT1 hT2
    by_cases e0 : P.2.2.2.1 = 0
    · rw [e0, wi_neg]
      refine ⟨fun h => absurd h (by simp), fun _ => hT2 (fun i hi => by omega)⟩
    · rw [ni_sub (by omega)]
      refine ⟨fun hw => ?_, fun hw => ?_⟩
      · obtain ⟨i, rfl, i1, i2⟩ := wi_ex (by decide) (by omega) hw
        refine hb20 _ _ _ ?_
        simp (maxSteps := 2000000) [bk_X6_cell_0, bk_X6_cell_20, pm_arr, pm_call, pm_e_c0, pm_e_c1, pm_e_cti, pm_e_ctl, pm_e_ctr, pm_e_go, pm_e_i, pm_e_ii, pm_e_ldi, pm_e_ldr, pm_e_lk, pm_e_r, pm_e_ri, pm_e_rm0, pm_e_rm1, pm_e_rs0, pm_e_rs1, pm_e_wp0, pm_e_wp1, pm_f2, pm_f3, pm_fld, pm_fv, pm_obj, pm_recv, pm_s_aload_n, pm_s_bipush, pm_s_getfield, pm_s_iaload, pm_s_iconst, pm_s_ifCond_ne, pm_s_iload_n, pm_s_invokestatic, pm_s_invokevirtual, pm_s_ireturn, pm_s_isub, ct_X6_cell, tt_X6_isWithin, tt_X0_codeOf, pS, pR, pC, pE, pL, -Int32.not_le, -Int32.not_lt, -Int64.not_le, -Int64.not_lt, -List.getD_eq_getElem?_getD, sx_0, sx_1, sx_5, sx_8]
        simp (disch := omega) only [ni_in, ni_cl, ni_add, ni_mul, ni_sub, ni_lt, ni_le, ni_eq, ni_eq0, ni_lt0, ni_0le, ni_0lt, ni_le0, ni_a1, ni_a3, ni_a7, ni_a15, hS.e (show i < 2 by omega)]
        refine ⟨by omega, ?_⟩
        rw [code_n hD (hI.2 i (by omega))]
        exact hT1 i (by omega) rfl
      · exact hT2 (fun i hi => wi_no (by decide) (by omega) hw (by omega) (by omega))
  · exact hT.elim
