/-! THE FORM AS IT IS TOLD -/
/-- the table's columns in their order: the first n places -/
def tbO (P : Pm) (S : St) (n : Nat) : List Nat := ((List.range n).map (sg S)).filter (fun i => decide (i < pC P))
def frC (P : Pm) (S : St) (l : List Nat) : List Nat := l.flatMap (fun i => (S.1 i).length :: (S.1 i).map (cdN (pR P)))
def frE (P : Pm) (ec : Nat) (S : St) : List Nat := (if ec = 2 then [cdN (pR P) (min (S.2.1 0) (S.2.1 1))] else []) ++ (if 0 < ec then [cdN (pR P) (max (S.2.1 0) (S.2.1 1))] else [])
def frL (P : Pm) (ec : Nat) (S : St) : List Nat := frC P S (tbO P S 4) ++ frE P ec S
theorem tbO_s (P : Pm) (S : St) (n : Nat) : tbO P S (n + 1) = tbO P S n ++ (if sg S n < pC P then [sg S n] else []) := by
  unfold tbO
  rw [List.range_succ, List.map_append, List.filter_append]
  congr 1
  by_cases h : sg S n < pC P <;> simp [h]
theorem frC_app (P : Pm) (S : St) (l m : List Nat) : frC P S (l ++ m) = frC P S l ++ frC P S m := by unfold frC; rw [List.flatMap_append]
theorem frC_1 (P : Pm) (S : St) (i : Nat) : frC P S [i] = (S.1 i).length :: (S.1 i).map (cdN (pR P)) := by simp [frC]
theorem frC_len (P : Pm) (S : St) : ∀ n, (frC P S (tbO P S n)).length ≤ dlen S n
  | 0 => Nat.le_refl _
  | n + 1 => by
    have := frC_len P S n
    rw [tbO_s, frC_app, dlen_s]
    split
    · rw [frC_1]; simp; omega
    · simp [frC] at this ⊢; omega
def tt_X4_writeForm : pm_T := fun args M k => match args with
  | [.ref 5, .ref q] => ∃ ec S P, isRw q ∧ SdX M 5 ec S ∧ DkX M P ∧ inD P S ∧ (S.1 0).length + (S.1 1).length + (S.1 2).length + (S.1 3).length ≤ 12 ∧ ∀ M', rowIs M' q (frL P ec S) → pm_fr [10, q] M M' → k (some (.int (nI (frL P ec S).length))) M'
  | _ => False
theorem code_n2 {M : pm_M} {P : Pm} (hD : DkX M P) {d : Nat} (hd : d ≤ pS P * pR P) : (if d = 0 then (0 : Int32) else nI 8 * M.1 2 (d % 16) + M.1 3 (d % 16)) = nI (cdN (pR P) d) := by
  have hP := hD.1.1
  obtain ⟨h1, h2, h3, h4, h5, h6, h7, h8, h9⟩ := hP
  by_cases d0 : d = 0
  · subst d0; rfl
  · have md := hD.1.2.2 d (by omega) hd
    rw [if_neg d0, Nat.mod_eq_of_lt (by omega), md.1, md.2, ni_mul, ni_add]
    unfold cdN; rw [if_neg d0]
theorem i16n {v : Nat} (h : v < 32) : (nI v).toInt16.toInt32 = nI v := i16 v h
theorem rw_10 {q : Nat} (h : isRw q) : ∀ z ∈ [5, 6, 7, 8, 9], z ∉ [10, q] := by rcases h with rfl | rfl | rfl | rfl | rfl | rfl | rfl <;> decide
theorem rw_d10 {q : Nat} (h : isRw q) : ∀ z ∈ [1, 2, 3, 4], z ∉ [10, q] := by rcases h with rfl | rfl | rfl | rfl | rfl | rfl | rfl <;> decide
theorem rw_18 {q : Nat} : 18 ≤ rwN q := by unfold rwN; split <;> decide
theorem rw_n10 {q : Nat} (h : isRw q) : 10 ∉ [q] := by rcases h with rfl | rfl | rfl | rfl | rfl | rfl | rfl <;> decide
abbrev ct_X4_writeForm : List pm_C := [(false, 143, 4, 1, none, tt_X4_sortColumns), (false, 146, 4, 2, (some .int), tt_X4_inOrder), (false, 149, 4, 4, (some .int), tt_X4_writeColumn), (true, 45, 0, 2, (some .int), tt_J9_min_7cf53), (false, 137, 0, 2, (some .int), tt_X0_codeOf), (true, 153, 0, 2, (some .int), tt_J9_max_7cf53)]
set_option maxHeartbeats 4000000 in
theorem sm_X4_writeForm  : pm_Sem SHx yX4_writeForm cX4_writeForm 5 (some .int) 4 tt_X4_writeForm := by
  refine pm_Sem_intro bl_X4_writeForm ct_X4_writeForm cs_X4_writeForm rfl (List.forall_mem_cons.mpr ⟨⟨_, _, _, _, sm_X4_sortColumns, by decide, cm_X4_sortColumns, by decide +kernel⟩, List.forall_mem_cons.mpr ⟨⟨_, _, _, _, sm_X4_inOrder, by decide, cm_X4_inOrder, by decide +kernel⟩, List.forall_mem_cons.mpr ⟨⟨_, _, _, _, sm_X4_writeColumn, by decide, cm_X4_writeColumn, by decide +kernel⟩, List.forall_mem_cons.mpr ⟨⟨_, _, _, _, sm_J9_min_7cf53, by decide, cm_J9_min_7cf53, by decide +kernel⟩, List.forall_mem_cons.mpr ⟨⟨_, _, _, _, sm_X0_codeOf, by decide, cm_X0_codeOf, by decide +kernel⟩, List.forall_mem_cons.mpr ⟨⟨_, _, _, _, sm_J9_max_7cf53, by decide, cm_J9_max_7cf53, by decide +kernel⟩, fun _ h => absurd h List.not_mem_nil⟩⟩⟩⟩⟩⟩) ck_X4_writeForm (by decide +kernel) (by decide) ?_
  intro X k hX args M hT
  have hb0 := hX 0 bk_X4_writeForm_0 (List.mem_of_getElem? (i := 0) rfl)
  have hb8 := hX 8 bk_X4_writeForm_8 (List.mem_of_getElem? (i := 1) rfl)
  have hb54 := hX 54 bk_X4_writeForm_54 (List.mem_of_getElem? (i := 2) rfl)
  have hb60 := hX 60 bk_X4_writeForm_60 (List.mem_of_getElem? (i := 3) rfl)
  have hb97 := hX 97 bk_X4_writeForm_97 (List.mem_of_getElem? (i := 4) rfl)
  have hb133 := hX 133 bk_X4_writeForm_133 (List.mem_of_getElem? (i := 5) rfl)
  clear hX
  unfold tt_X4_writeForm at hT; split at hT
  · next q =>
    obtain ⟨ec, S, P, hq, hS, hD, hI, ht, hT⟩ := hT
    have hec := hS.2.1
    have hP := hD.1.1
    obtain ⟨h1, h2, h3, h4, h5, h6, h7, h8, h9⟩ := hP
    have hd4 := dlen_4 S
    have h18 := rw_18 (q := q)
    have hfl4 := frC_len P S 4
    have c0 := hI.2 0 (by decide)
    have c1 := hI.2 1 (by decide)
    have mvS : ∀ M', pm_fr [10, q] M M' → SdX M' 5 ec S := fun M' hf => hS.mv hf (rw_10 hq)
    have mvD : ∀ M', pm_fr [10, q] M M' → DkX M' P := fun M' hf => hD.moved hf (rw_d10 hq)
    refine ⟨by simp [lg_sl, Value.category], ?_⟩
    have out : ∀ M', rowIs M' q (frL P ec S) → pm_fr [10, q] M M' → X 133 [(2, .int (nI (frL P ec S).length))] [] M' := by
      intro M' r1 r2
      refine hb133 _ _ _ ?_
      simp (maxSteps := 2000000) [bk_X4_writeForm_0, bk_X4_writeForm_8, bk_X4_writeForm_54, bk_X4_writeForm_60, bk_X4_writeForm_97, bk_X4_writeForm_133, pm_arr, pm_call, pm_e_c0, pm_e_c1, pm_e_cti, pm_e_ctl, pm_e_ctr, pm_e_go, pm_e_i, pm_e_ii, pm_e_ldi, pm_e_ldr, pm_e_lk, pm_e_r, pm_e_ri, pm_e_rii, pm_e_rm0, pm_e_rm1, pm_e_rs0, pm_e_rs1, pm_e_wp0, pm_e_wp1, pm_f2, pm_f3, pm_fld, pm_fv, pm_obj, pm_recv, pm_s_aload_n, pm_s_getfield, pm_s_goto, pm_s_i2s, pm_s_iadd, pm_s_iaload, pm_s_iconst, pm_s_ifCond_le, pm_s_if_icmp_ge, pm_s_if_icmp_ne, pm_s_iinc, pm_s_iload, pm_s_iload_n, pm_s_invokestatic, pm_s_invokevirtual, pm_s_ireturn, pm_s_istore, pm_s_istore_n, pm_s_sastore, ct_X4_writeForm, tt_J9_min_7cf53, tt_X0_codeOf, tt_J9_max_7cf53, pS, pR, pC, pE, pL, -Int32.not_le, -Int32.not_lt, -Int64.not_le, -Int64.not_lt, -List.getD_eq_getElem?_getD]
      exact hT M' r1 r2
    have hmx : max (S.2.1 0) (S.2.1 1) ≤ pS P * pR P := by omega
    have hmn : min (S.2.1 0) (S.2.1 1) ≤ pS P * pR P := by omega
    have h97 : ∀ (M' : pm_M) (L : List Nat), L = frC P S (tbO P S 4) ++ (if ec = 2 then [cdN (pR P) (min (S.2.1 0) (S.2.1 1))] else []) → rowIs M' q L → pm_fr [10, q] M M' → X 97 [(0, .ref 5), (1, .ref q), (2, .int (nI L.length))] [] M' := by
      intro M' L eL r1 r2
      have hS' := mvS M' r2
      have hD' := mvD M' r2
      have hcc := hS'.2.2.1
      have hLl : L.length ≤ 17 := by
        rw [eL]; by_cases z : ec = 2 <;> simp [z] <;> omega
      refine hb97 _ _ _ ?_
      simp (maxSteps := 2000000) [bk_X4_writeForm_0, bk_X4_writeForm_8, bk_X4_writeForm_54, bk_X4_writeForm_60, bk_X4_writeForm_97, bk_X4_writeForm_133, pm_arr, pm_call, pm_e_c0, pm_e_c1, pm_e_cti, pm_e_ctl, pm_e_ctr, pm_e_go, pm_e_i, pm_e_ii, pm_e_ldi, pm_e_ldr, pm_e_lk, pm_e_r, pm_e_ri, pm_e_rii, pm_e_rm0, pm_e_rm1, pm_e_rs0, pm_e_rs1, pm_e_wp0, pm_e_wp1, pm_f2, pm_f3, pm_fld, pm_fv, pm_obj, pm_recv, pm_s_aload_n, pm_s_getfield, pm_s_goto, pm_s_i2s, pm_s_iadd, pm_s_iaload, pm_s_iconst, pm_s_ifCond_le, pm_s_if_icmp_ge, pm_s_if_icmp_ne, pm_s_iinc, pm_s_iload, pm_s_iload_n, pm_s_invokestatic, pm_s_invokevirtual, pm_s_ireturn, pm_s_istore, pm_s_istore_n, pm_s_sastore, ct_X4_writeForm, tt_J9_min_7cf53, tt_X0_codeOf, tt_J9_max_7cf53, pS, pR, pC, pE, pL, -Int32.not_le, -Int32.not_lt, -Int64.not_le, -Int64.not_lt, -List.getD_eq_getElem?_getD, sx_5, sx_1, sx_8, rw_sx hq, hcc]
      have e0 := hS'.e (show 0 < 2 by decide)
      have e1 := hS'.e (show 1 < 2 by decide)
      simp (disch := omega) only [ni_in, ni_cl, ni_add, ni_mul, ni_sub, ni_lt, ni_le, ni_eq, ni_eq0, ni_lt0, ni_0le, ni_0lt, ni_le0, ni_a1, ni_a3, ni_a7, ni_a15, e0, e1, mxF_n]
      refine ⟨fun h => ?_, fun h => ⟨by omega, by omega, ?_⟩⟩
      · have e : frL P ec S = L := by rw [eL]; unfold frL frE; simp [h]
        rw [← e] at r1 ⊢
        exact out M' r1 r2
      · rw [code_n2 hD' hmx, i16n (cdN_le hD.1.1 hmx)]
        refine ⟨by omega, ?_⟩
        have e : frL P ec S = L ++ [cdN (pR P) (max (S.2.1 0) (S.2.1 1))] := by
          rw [eL]; unfold frL frE; rw [if_pos (show 0 < ec by omega), List.append_assoc]
        have r3 := r1.app (v := cdN (pR P) (max (S.2.1 0) (S.2.1 1)))
        rw [← e] at r3
        have := out _ r3 (r2.set (by simp))
        rw [e, List.length_append, List.length_singleton] at this
        exact this
    have h60 : ∀ (M' : pm_M), rowIs M' q (frC P S (tbO P S 4)) → pm_fr [10, q] M M' → X 60 [(0, .ref 5), (1, .ref q), (2, .int (nI (frC P S (tbO P S 4)).length))] [] M' := by
      intro M' r1 r2
      have hS' := mvS M' r2
      have hD' := mvD M' r2
      have hcc := hS'.2.2.1
      refine hb60 _ _ _ ?_
      simp (maxSteps := 2000000) [bk_X4_writeForm_0, bk_X4_writeForm_8, bk_X4_writeForm_54, bk_X4_writeForm_60, bk_X4_writeForm_97, bk_X4_writeForm_133, pm_arr, pm_call, pm_e_c0, pm_e_c1, pm_e_cti, pm_e_ctl, pm_e_ctr, pm_e_go, pm_e_i, pm_e_ii, pm_e_ldi, pm_e_ldr, pm_e_lk, pm_e_r, pm_e_ri, pm_e_rii, pm_e_rm0, pm_e_rm1, pm_e_rs0, pm_e_rs1, pm_e_wp0, pm_e_wp1, pm_f2, pm_f3, pm_fld, pm_fv, pm_obj, pm_recv, pm_s_aload_n, pm_s_getfield, pm_s_goto, pm_s_i2s, pm_s_iadd, pm_s_iaload, pm_s_iconst, pm_s_ifCond_le, pm_s_if_icmp_ge, pm_s_if_icmp_ne, pm_s_iinc, pm_s_iload, pm_s_iload_n, pm_s_invokestatic, pm_s_invokevirtual, pm_s_ireturn, pm_s_istore, pm_s_istore_n, pm_s_sastore, ct_X4_writeForm, tt_J9_min_7cf53, tt_X0_codeOf, tt_J9_max_7cf53, pS, pR, pC, pE, pL, -Int32.not_le, -Int32.not_lt, -Int64.not_le, -Int64.not_lt, -List.getD_eq_getElem?_getD, sx_5, sx_1, sx_8, rw_sx hq, hcc]
      have e0 := hS'.e (show 0 < 2 by decide)
      have e1 := hS'.e (show 1 < 2 by decide)
      simp (disch := omega) only [ni_in, ni_cl, ni_add, ni_mul, ni_sub, ni_lt, ni_le, ni_eq, ni_eq0, ni_lt0, ni_0le, ni_0lt, ni_le0, ni_a1, ni_a3, ni_a7, ni_a15, e0, e1, mnF_n]
      refine ⟨fun h => ?_, fun h => ⟨by omega, by omega, ?_⟩⟩
      · exact h97 M' _ (by rw [if_neg h, List.append_nil]) r1 r2
      · rw [code_n2 hD' hmn, i16n (cdN_le hD.1.1 hmn)]
        refine ⟨by omega, ?_⟩
        have r3 := r1.app (v := cdN (pR P) (min (S.2.1 0) (S.2.1 1)))
        have := h97 _ _ (by rw [if_pos h]) r3 (r2.set (by simp))
        rw [List.length_append, List.length_singleton] at this
        exact this
    refine hb0 _ _ _ ?_
    simp (maxSteps := 2000000) [bk_X4_writeForm_0, bk_X4_writeForm_8, bk_X4_writeForm_54, bk_X4_writeForm_60, bk_X4_writeForm_97, bk_X4_writeForm_133, pm_arr, pm_call, pm_e_c0, pm_e_c1, pm_e_cti, pm_e_ctl, pm_e_ctr, pm_e_go, pm_e_i, pm_e_ii, pm_e_ldi, pm_e_ldr, pm_e_lk, pm_e_r, pm_e_ri, pm_e_rii, pm_e_rm0, pm_e_rm1, pm_e_rs0, pm_e_rs1, pm_e_wp0, pm_e_wp1, pm_f2, pm_f3, pm_fld, pm_fv, pm_obj, pm_recv, pm_s_aload_n, pm_s_getfield, pm_s_goto, pm_s_i2s, pm_s_iadd, pm_s_iaload, pm_s_iconst, pm_s_ifCond_le, pm_s_if_icmp_ge, pm_s_if_icmp_ne, pm_s_iinc, pm_s_iload, pm_s_iload_n, pm_s_invokestatic, pm_s_invokevirtual, pm_s_ireturn, pm_s_istore, pm_s_istore_n, pm_s_sastore, ct_X4_writeForm, tt_J9_min_7cf53, tt_X0_codeOf, tt_J9_max_7cf53, pS, pR, pC, pE, pL, -Int32.not_le, -Int32.not_lt, -Int64.not_le, -Int64.not_lt, -List.getD_eq_getElem?_getD, lv_args, sx_5]
    refine ⟨ec, S, Or.inl rfl, hS, fun M1 L l1 l2 l3 hf => ?_⟩
    rw [oL_uniq l1 l2] at l3
    have l3' : ∀ j, j < 4 → M1.2 10 j = lN ((oL S).getD j 0) := l3
    have hf' : pm_fr [10] M M1 := hf
    simp (maxSteps := 2000000) [bk_X4_writeForm_0, bk_X4_writeForm_8, bk_X4_writeForm_54, bk_X4_writeForm_60, bk_X4_writeForm_97, bk_X4_writeForm_133, pm_arr, pm_call, pm_e_c0, pm_e_c1, pm_e_cti, pm_e_ctl, pm_e_ctr, pm_e_go, pm_e_i, pm_e_ii, pm_e_ldi, pm_e_ldr, pm_e_lk, pm_e_r, pm_e_ri, pm_e_rii, pm_e_rm0, pm_e_rm1, pm_e_rs0, pm_e_rs1, pm_e_wp0, pm_e_wp1, pm_f2, pm_f3, pm_fld, pm_fv, pm_obj, pm_recv, pm_s_aload_n, pm_s_getfield, pm_s_goto, pm_s_i2s, pm_s_iadd, pm_s_iaload, pm_s_iconst, pm_s_ifCond_le, pm_s_if_icmp_ge, pm_s_if_icmp_ne, pm_s_iinc, pm_s_iload, pm_s_iload_n, pm_s_invokestatic, pm_s_invokevirtual, pm_s_ireturn, pm_s_istore, pm_s_istore_n, pm_s_sastore, ct_X4_writeForm, tt_J9_min_7cf53, tt_X0_codeOf, tt_J9_max_7cf53, pS, pR, pC, pE, pL, -Int32.not_le, -Int32.not_lt, -Int64.not_le, -Int64.not_lt, -List.getD_eq_getElem?_getD]
    have loop : ∀ (f j : Nat) (M' : pm_M), 4 ≤ j + f → j ≤ 4 → rowIs M' q (frC P S (tbO P S j)) → pm_fr [q] M1 M' → X 8 [(0, .ref 5), (1, .ref q), (2, .int (nI (frC P S (tbO P S j)).length)), (3, .int (nI j))] [] M' := by
      intro f
      induction f with
      | zero =>
        intro j M' f1 f2 r1 r2
        have e1 : j = 4 := by omega
        subst e1
        refine hb8 _ _ _ ?_
        simp (maxSteps := 2000000) [bk_X4_writeForm_0, bk_X4_writeForm_8, bk_X4_writeForm_54, bk_X4_writeForm_60, bk_X4_writeForm_97, bk_X4_writeForm_133, pm_arr, pm_call, pm_e_c0, pm_e_c1, pm_e_cti, pm_e_ctl, pm_e_ctr, pm_e_go, pm_e_i, pm_e_ii, pm_e_ldi, pm_e_ldr, pm_e_lk, pm_e_r, pm_e_ri, pm_e_rii, pm_e_rm0, pm_e_rm1, pm_e_rs0, pm_e_rs1, pm_e_wp0, pm_e_wp1, pm_f2, pm_f3, pm_fld, pm_fv, pm_obj, pm_recv, pm_s_aload_n, pm_s_getfield, pm_s_goto, pm_s_i2s, pm_s_iadd, pm_s_iaload, pm_s_iconst, pm_s_ifCond_le, pm_s_if_icmp_ge, pm_s_if_icmp_ne, pm_s_iinc, pm_s_iload, pm_s_iload_n, pm_s_invokestatic, pm_s_invokevirtual, pm_s_ireturn, pm_s_istore, pm_s_istore_n, pm_s_sastore, ct_X4_writeForm, tt_J9_min_7cf53, tt_X0_codeOf, tt_J9_max_7cf53, pS, pR, pC, pE, pL, -Int32.not_le, -Int32.not_lt, -Int64.not_le, -Int64.not_lt, -List.getD_eq_getElem?_getD]
        exact h60 M' r1 ((hf'.mono (by simp)).trans (r2.mono (by simp)))
      | succ f ih =>
        intro j M' f1 f2 r1 r2
        have r2' : pm_fr [10, q] M M' := (hf'.mono (by simp)).trans (r2.mono (by simp))
        by_cases hj : j < 4
        · have hS' := mvS M' r2'
          have hD' := mvD M' r2'
          have hg := sg_lt S j
          have hkl : ky S (sg S j) < 2 ^ 63 := by have := al_lt (hS.d16 hg) (hS.len hg); unfold ky; omega
          have m5 := hD'.1.2.1.2.2.1
          have hm1 := dlen_mono S (n := j + 1) (m := 4) (by omega)
          rw [dlen_s] at hm1
          have hflj := frC_len P S j
          have hl12 := hS.len hg
          refine hb8 _ _ _ ?_
          simp (maxSteps := 2000000) [bk_X4_writeForm_0, bk_X4_writeForm_8, bk_X4_writeForm_54, bk_X4_writeForm_60, bk_X4_writeForm_97, bk_X4_writeForm_133, pm_arr, pm_call, pm_e_c0, pm_e_c1, pm_e_cti, pm_e_ctl, pm_e_ctr, pm_e_go, pm_e_i, pm_e_ii, pm_e_ldi, pm_e_ldr, pm_e_lk, pm_e_r, pm_e_ri, pm_e_rii, pm_e_rm0, pm_e_rm1, pm_e_rs0, pm_e_rs1, pm_e_wp0, pm_e_wp1, pm_f2, pm_f3, pm_fld, pm_fv, pm_obj, pm_recv, pm_s_aload_n, pm_s_getfield, pm_s_goto, pm_s_i2s, pm_s_iadd, pm_s_iaload, pm_s_iconst, pm_s_ifCond_le, pm_s_if_icmp_ge, pm_s_if_icmp_ne, pm_s_iinc, pm_s_iload, pm_s_iload_n, pm_s_invokestatic, pm_s_invokevirtual, pm_s_ireturn, pm_s_istore, pm_s_istore_n, pm_s_sastore, ct_X4_writeForm, tt_J9_min_7cf53, tt_X0_codeOf, tt_J9_max_7cf53, pS, pR, pC, pE, pL, -Int32.not_le, -Int32.not_lt, -Int64.not_le, -Int64.not_lt, -List.getD_eq_getElem?_getD, sx_5]
          simp (disch := omega) only [ni_in, ni_cl, ni_add, ni_mul, ni_sub, ni_lt, ni_le, ni_eq, ni_eq0, ni_lt0, ni_0le, ni_0lt, ni_le0, ni_a1, ni_a3, ni_a7, ni_a15]
          refine ⟨fun h => by omega, fun _ => ?_⟩
          refine ⟨j, ky S (sg S j), Or.inl rfl, rfl, hj, hkl, by show M'.2 10 j = _; rw [r2.l (rw_n10 hq), l3' j hj, oL_at S hj], ?_⟩
          rw [ky_mod S hg]
          have h54 : ∀ (M' : pm_M), rowIs M' q (frC P S (tbO P S (j + 1))) → pm_fr [q] M1 M' → X 54 [(0, .ref 5), (1, .ref q), (2, .int (nI (frC P S (tbO P S (j + 1))).length)), (3, .int (nI j))] [] M' := by
            intro M' q1 q2
            refine hb54 _ _ _ ?_
            simp (maxSteps := 2000000) [bk_X4_writeForm_0, bk_X4_writeForm_8, bk_X4_writeForm_54, bk_X4_writeForm_60, bk_X4_writeForm_97, bk_X4_writeForm_133, pm_arr, pm_call, pm_e_c0, pm_e_c1, pm_e_cti, pm_e_ctl, pm_e_ctr, pm_e_go, pm_e_i, pm_e_ii, pm_e_ldi, pm_e_ldr, pm_e_lk, pm_e_r, pm_e_ri, pm_e_rii, pm_e_rm0, pm_e_rm1, pm_e_rs0, pm_e_rs1, pm_e_wp0, pm_e_wp1, pm_f2, pm_f3, pm_fld, pm_fv, pm_obj, pm_recv, pm_s_aload_n, pm_s_getfield, pm_s_goto, pm_s_i2s, pm_s_iadd, pm_s_iaload, pm_s_iconst, pm_s_ifCond_le, pm_s_if_icmp_ge, pm_s_if_icmp_ne, pm_s_iinc, pm_s_iload, pm_s_iload_n, pm_s_invokestatic, pm_s_invokevirtual, pm_s_ireturn, pm_s_istore, pm_s_istore_n, pm_s_sastore, ct_X4_writeForm, tt_J9_min_7cf53, tt_X0_codeOf, tt_J9_max_7cf53, pS, pR, pC, pE, pL, -Int32.not_le, -Int32.not_lt, -Int64.not_le, -Int64.not_lt, -List.getD_eq_getElem?_getD]
            rw [ni_add]
            exact ih (j + 1) M' (by omega) (by omega) q1 q2
          simp (maxSteps := 2000000) [bk_X4_writeForm_0, bk_X4_writeForm_8, bk_X4_writeForm_54, bk_X4_writeForm_60, bk_X4_writeForm_97, bk_X4_writeForm_133, pm_arr, pm_call, pm_e_c0, pm_e_c1, pm_e_cti, pm_e_ctl, pm_e_ctr, pm_e_go, pm_e_i, pm_e_ii, pm_e_ldi, pm_e_ldr, pm_e_lk, pm_e_r, pm_e_ri, pm_e_rii, pm_e_rm0, pm_e_rm1, pm_e_rs0, pm_e_rs1, pm_e_wp0, pm_e_wp1, pm_f2, pm_f3, pm_fld, pm_fv, pm_obj, pm_recv, pm_s_aload_n, pm_s_getfield, pm_s_goto, pm_s_i2s, pm_s_iadd, pm_s_iaload, pm_s_iconst, pm_s_ifCond_le, pm_s_if_icmp_ge, pm_s_if_icmp_ne, pm_s_iinc, pm_s_iload, pm_s_iload_n, pm_s_invokestatic, pm_s_invokevirtual, pm_s_ireturn, pm_s_istore, pm_s_istore_n, pm_s_sastore, ct_X4_writeForm, tt_J9_min_7cf53, tt_X0_codeOf, tt_J9_max_7cf53, pS, pR, pC, pE, pL, -Int32.not_le, -Int32.not_lt, -Int64.not_le, -Int64.not_lt, -List.getD_eq_getElem?_getD, sx_5, sx_1, sx_7, rw_sx hq, m5]
          dsimp only [pC] at h6 h7
          have hsn := hS'.n hg
          simp (disch := omega) only [ni_in, ni_cl, ni_add, ni_mul, ni_sub, ni_lt, ni_le, ni_eq, ni_eq0, ni_lt0, ni_0le, ni_0lt, ni_le0, ni_a1, ni_a3, ni_a7, ni_a15, hsn]
          refine ⟨fun h => ?_, fun h => ⟨by omega, ?_⟩⟩
          · have e : tbO P S (j + 1) = tbO P S j := by rw [tbO_s, if_neg (by dsimp only [pC]; omega), List.append_nil]
            rw [e] at h54
            exact h54 M' r1 r2
          · have e : frC P S (tbO P S (j + 1)) = (frC P S (tbO P S j) ++ [(S.1 (sg S j)).length]) ++ (S.1 (sg S j)).map (cdN (pR P)) := by
              rw [tbO_s, if_pos (by dsimp only [pC]; omega), frC_app, frC_1]; simp
            rw [i16n (show (S.1 (sg S j)).length < 32 by omega)]
            refine ⟨by omega, ?_⟩
            have r3 := r1.app (v := (S.1 (sg S j)).length)
            have r4 : pm_fr [10, q] M (pm_set M' q (frC P S (tbO P S j)).length (nI (S.1 (sg S j)).length)) := r2'.set (by simp)
            refine ⟨ec, S, P, sg S j, frC P S (tbO P S j) ++ [(S.1 (sg S j)).length], hq, rfl, by rw [List.length_append, List.length_singleton], mvS _ r4, mvD _ r4, hI, hg, by rw [List.length_append, List.length_singleton]; omega, r3, fun M2 q1 q2 => ?_⟩
            simp (maxSteps := 2000000) [bk_X4_writeForm_0, bk_X4_writeForm_8, bk_X4_writeForm_54, bk_X4_writeForm_60, bk_X4_writeForm_97, bk_X4_writeForm_133, pm_arr, pm_call, pm_e_c0, pm_e_c1, pm_e_cti, pm_e_ctl, pm_e_ctr, pm_e_go, pm_e_i, pm_e_ii, pm_e_ldi, pm_e_ldr, pm_e_lk, pm_e_r, pm_e_ri, pm_e_rii, pm_e_rm0, pm_e_rm1, pm_e_rs0, pm_e_rs1, pm_e_wp0, pm_e_wp1, pm_f2, pm_f3, pm_fld, pm_fv, pm_obj, pm_recv, pm_s_aload_n, pm_s_getfield, pm_s_goto, pm_s_i2s, pm_s_iadd, pm_s_iaload, pm_s_iconst, pm_s_ifCond_le, pm_s_if_icmp_ge, pm_s_if_icmp_ne, pm_s_iinc, pm_s_iload, pm_s_iload_n, pm_s_invokestatic, pm_s_invokevirtual, pm_s_ireturn, pm_s_istore, pm_s_istore_n, pm_s_sastore, ct_X4_writeForm, tt_J9_min_7cf53, tt_X0_codeOf, tt_J9_max_7cf53, pS, pR, pC, pE, pL, -Int32.not_le, -Int32.not_lt, -Int64.not_le, -Int64.not_lt, -List.getD_eq_getElem?_getD]
            rw [← e] at q1
            have := h54 M2 q1 ((r2.set (by simp)).trans q2)
            rw [e] at this
            simp only [List.length_append, List.length_singleton, List.length_map] at this ⊢
            exact this
        · have e1 : j = 4 := by omega
          subst e1
          refine hb8 _ _ _ ?_
          simp (maxSteps := 2000000) [bk_X4_writeForm_0, bk_X4_writeForm_8, bk_X4_writeForm_54, bk_X4_writeForm_60, bk_X4_writeForm_97, bk_X4_writeForm_133, pm_arr, pm_call, pm_e_c0, pm_e_c1, pm_e_cti, pm_e_ctl, pm_e_ctr, pm_e_go, pm_e_i, pm_e_ii, pm_e_ldi, pm_e_ldr, pm_e_lk, pm_e_r, pm_e_ri, pm_e_rii, pm_e_rm0, pm_e_rm1, pm_e_rs0, pm_e_rs1, pm_e_wp0, pm_e_wp1, pm_f2, pm_f3, pm_fld, pm_fv, pm_obj, pm_recv, pm_s_aload_n, pm_s_getfield, pm_s_goto, pm_s_i2s, pm_s_iadd, pm_s_iaload, pm_s_iconst, pm_s_ifCond_le, pm_s_if_icmp_ge, pm_s_if_icmp_ne, pm_s_iinc, pm_s_iload, pm_s_iload_n, pm_s_invokestatic, pm_s_invokevirtual, pm_s_ireturn, pm_s_istore, pm_s_istore_n, pm_s_sastore, ct_X4_writeForm, tt_J9_min_7cf53, tt_X0_codeOf, tt_J9_max_7cf53, pS, pR, pC, pE, pL, -Int32.not_le, -Int32.not_lt, -Int64.not_le, -Int64.not_lt, -List.getD_eq_getElem?_getD]
          exact h60 M' r1 r2'
    refine loop 4 0 M1 (by omega) (by omega) (fun j hj => by simp [frC, tbO] at hj) pm_fr.rfl
  · exact hT.elim
