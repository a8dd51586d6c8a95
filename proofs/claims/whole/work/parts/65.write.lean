/-! ROWS OF NUMBERS THAT ARE TOLD (formRow at 27, the trays' at 16 .. 26) -/
def isRw (q : Nat) : Prop := q = 16 ∨ q = 18 ∨ q = 20 ∨ q = 22 ∨ q = 24 ∨ q = 26 ∨ q = 27
def rwN (q : Nat) : Nat := if q = 27 then 18 else 32
theorem rw_sx {q : Nat} (h : isRw q) : SHx[q]? = some (.inl (3, rwN q)) := by rcases h with rfl | rfl | rfl | rfl | rfl | rfl | rfl <;> rfl
theorem rw_no {q : Nat} (h : isRw q) : ∀ x ∈ [0, 1, 2, 3, 4, 5, 6, 7, 8, 9, 10, 11, 12, 13, 14], x ≠ q := by rcases h with rfl | rfl | rfl | rfl | rfl | rfl | rfl <;> decide
theorem rw_st {q : Nat} (h : isRw q) : ∀ z ∈ stF 5, z ∉ [q] := by rcases h with rfl | rfl | rfl | rfl | rfl | rfl | rfl <;> decide
theorem rw_dk {q : Nat} (h : isRw q) : ∀ z ∈ [1, 2, 3, 4], z ∉ [q] := by rcases h with rfl | rfl | rfl | rfl | rfl | rfl | rfl <;> decide
theorem rw_n {q : Nat} : rwN q ≤ 32 := by unfold rwN; split <;> decide
/-- the row begins with these numbers -/
def rowIs (M : pm_M) (q : Nat) (L : List Nat) : Prop := ∀ j, j < L.length → M.1 q j = nI (L.getD j 0)
theorem rowIs.app {M : pm_M} {q v : Nat} {L : List Nat} (h : rowIs M q L) : rowIs (pm_set M q L.length (nI v)) q (L ++ [v]) := by
  intro j hj
  rw [me_1s]
  by_cases e : j = L.length
  · subst e; simp [List.getD_eq_getElem?_getD]
  · have hj' : j < L.length := by simp at hj; omega
    rw [if_neg e, h j hj']
    simp [List.getD_eq_getElem?_getD, List.getElem?_append_left hj']
theorem i16 : ∀ v, v < 32 → (nI v).toInt16.toInt32 = nI v := by decide +kernel
theorem rowIs.mv {M M' : pm_M} {q : Nat} {L : List Nat} {ps : List Nat} (h : rowIs M q L) (hf : pm_fr ps M M') (hq : q ∉ ps) : rowIs M' q L := fun j hj => by rw [hf.i hq]; exact h j hj
theorem fr_sub {M M' : pm_M} {q : Nat} {ps : List Nat} (h : pm_fr [q] M M') (hq : q ∈ ps) : pm_fr ps M M' := h.mono (by simpa using hq)
def tt_X4_writeColumn : pm_T := fun args M k => match args with
  | [.ref 5, .int x, .ref q, .int y] => ∃ ec S P i L, isRw q ∧ x = nI i ∧ y = nI L.length ∧ SdX M 5 ec S ∧ DkX M P ∧ inD P S ∧ i < 4 ∧ L.length + (S.1 i).length ≤ rwN q ∧ rowIs M q L ∧ ∀ M', rowIs M' q (L ++ (S.1 i).map (cdN (pR P))) → pm_fr [q] M M' → k (some (.int (nI (L.length + (S.1 i).length)))) M'
  | _ => False
abbrev ct_X4_writeColumn : List pm_C := [(false, 70, 4, 3, (some .int), tt_X4_cardAt), (false, 137, 0, 2, (some .int), tt_X0_codeOf)]
set_option maxHeartbeats 4000000 in
theorem sm_X4_writeColumn  : pm_Sem SHx yX4_writeColumn cX4_writeColumn 5 (some .int) 3 tt_X4_writeColumn := by
  refine pm_Sem_intro bl_X4_writeColumn ct_X4_writeColumn cs_X4_writeColumn rfl (List.forall_mem_cons.mpr ⟨⟨_, _, _, _, sm_X4_cardAt, by decide, cm_X4_cardAt, by decide +kernel⟩, List.forall_mem_cons.mpr ⟨⟨_, _, _, _, sm_X0_codeOf, by decide, cm_X0_codeOf, by decide +kernel⟩, fun _ h => absurd h List.not_mem_nil⟩⟩) ck_X4_writeColumn (by decide +kernel) (by decide) ?_
  intro X k hX args M hT
  have hb0 := hX 0 bk_X4_writeColumn_0 (List.mem_of_getElem? (i := 0) rfl)
  have hb3 := hX 3 bk_X4_writeColumn_3 (List.mem_of_getElem? (i := 1) rfl)
  have hb50 := hX 50 bk_X4_writeColumn_50 (List.mem_of_getElem? (i := 2) rfl)
  clear hX
  unfold tt_X4_writeColumn at hT; split at hT
  · next x q y =>
    obtain ⟨ec, S, P, i, L, hq, rfl, rfl, hS, hD, hI, hi, hl, hL, hT⟩ := hT
    have h32 := rw_n (q := q)
    have hlen := hS.len hi
    refine ⟨by simp [lg_sl, Value.category], ?_⟩
    have out : ∀ M', SdX M' 5 ec S → rowIs M' q (L ++ (S.1 i).map (cdN (pR P))) → pm_fr [q] M M' → X 50 [(0, .ref 5), (1, .int (nI i)), (3, .int (nI L.length))] [] M' := by
      intro M' hS' r1 r2
      refine hb50 _ _ _ ?_
      simp (maxSteps := 2000000) [bk_X4_writeColumn_0, bk_X4_writeColumn_3, bk_X4_writeColumn_50, pm_arr, pm_call, pm_e_c0, pm_e_c1, pm_e_cti, pm_e_ctl, pm_e_ctr, pm_e_go, pm_e_i, pm_e_ii, pm_e_ldi, pm_e_ldr, pm_e_lk, pm_e_r, pm_e_ri, pm_e_rii, pm_e_rm0, pm_e_rm1, pm_e_rs0, pm_e_rs1, pm_e_wp0, pm_e_wp1, pm_f2, pm_f3, pm_fld, pm_fv, pm_obj, pm_recv, pm_s_aload_n, pm_s_arraylength, pm_s_getfield, pm_s_goto, pm_s_i2s, pm_s_iadd, pm_s_iaload, pm_s_iconst, pm_s_if_icmp_ge, pm_s_iinc, pm_s_iload, pm_s_iload_n, pm_s_invokevirtual, pm_s_ireturn, pm_s_istore, pm_s_sastore, ct_X4_writeColumn, tt_X0_codeOf, pS, pR, pC, pE, pL, -Int32.not_le, -Int32.not_lt, -Int64.not_le, -Int64.not_lt, -List.getD_eq_getElem?_getD, sx_5, sx_7]
      have hsn := hS'.n hi
      simp (disch := omega) only [ni_in, ni_cl, ni_add, ni_mul, ni_sub, ni_lt, ni_le, ni_eq, ni_eq0, ni_lt0, ni_0le, ni_0lt, ni_le0, ni_a1, ni_a3, ni_a7, ni_a15, hsn]
      exact ⟨by omega, hT M' r1 r2⟩
    have loop : ∀ (f j : Nat) (M' : pm_M), (S.1 i).length ≤ j + f → j ≤ (S.1 i).length → rowIs M' q (L ++ ((S.1 i).take j).map (cdN (pR P))) → pm_fr [q] M M' → X 3 [(0, .ref 5), (1, .int (nI i)), (2, .ref q), (3, .int (nI L.length)), (4, .int (nI j))] [] M' := by
      intro f
      induction f with
      | zero =>
        intro j M' f1 f2 r1 r2
        have hS' := hS.moved r2 (rw_st hq)
        have e : j = (S.1 i).length := by omega
        subst e
        rw [List.take_length] at r1
        refine hb3 _ _ _ ?_
        simp (maxSteps := 2000000) [bk_X4_writeColumn_0, bk_X4_writeColumn_3, bk_X4_writeColumn_50, pm_arr, pm_call, pm_e_c0, pm_e_c1, pm_e_cti, pm_e_ctl, pm_e_ctr, pm_e_go, pm_e_i, pm_e_ii, pm_e_ldi, pm_e_ldr, pm_e_lk, pm_e_r, pm_e_ri, pm_e_rii, pm_e_rm0, pm_e_rm1, pm_e_rs0, pm_e_rs1, pm_e_wp0, pm_e_wp1, pm_f2, pm_f3, pm_fld, pm_fv, pm_obj, pm_recv, pm_s_aload_n, pm_s_arraylength, pm_s_getfield, pm_s_goto, pm_s_i2s, pm_s_iadd, pm_s_iaload, pm_s_iconst, pm_s_if_icmp_ge, pm_s_iinc, pm_s_iload, pm_s_iload_n, pm_s_invokevirtual, pm_s_ireturn, pm_s_istore, pm_s_sastore, ct_X4_writeColumn, tt_X0_codeOf, pS, pR, pC, pE, pL, -Int32.not_le, -Int32.not_lt, -Int64.not_le, -Int64.not_lt, -List.getD_eq_getElem?_getD, sx_5, sx_7]
        have hsn := hS'.n hi
        simp (disch := omega) only [ni_in, ni_cl, ni_add, ni_mul, ni_sub, ni_lt, ni_le, ni_eq, ni_eq0, ni_lt0, ni_0le, ni_0lt, ni_le0, ni_a1, ni_a3, ni_a7, ni_a15, hsn]
        exact ⟨by omega, fun _ => out M' hS' r1 r2, fun h => by omega⟩
      | succ f ih =>
        intro j M' f1 f2 r1 r2
        have hS' := hS.moved r2 (rw_st hq)
        have hD' := hD.moved r2 (rw_dk hq)
        have hsn := hS'.n hi
        refine hb3 _ _ _ ?_
        simp (maxSteps := 2000000) [bk_X4_writeColumn_0, bk_X4_writeColumn_3, bk_X4_writeColumn_50, pm_arr, pm_call, pm_e_c0, pm_e_c1, pm_e_cti, pm_e_ctl, pm_e_ctr, pm_e_go, pm_e_i, pm_e_ii, pm_e_ldi, pm_e_ldr, pm_e_lk, pm_e_r, pm_e_ri, pm_e_rii, pm_e_rm0, pm_e_rm1, pm_e_rs0, pm_e_rs1, pm_e_wp0, pm_e_wp1, pm_f2, pm_f3, pm_fld, pm_fv, pm_obj, pm_recv, pm_s_aload_n, pm_s_arraylength, pm_s_getfield, pm_s_goto, pm_s_i2s, pm_s_iadd, pm_s_iaload, pm_s_iconst, pm_s_if_icmp_ge, pm_s_iinc, pm_s_iload, pm_s_iload_n, pm_s_invokevirtual, pm_s_ireturn, pm_s_istore, pm_s_sastore, ct_X4_writeColumn, tt_X0_codeOf, pS, pR, pC, pE, pL, -Int32.not_le, -Int32.not_lt, -Int64.not_le, -Int64.not_lt, -List.getD_eq_getElem?_getD, sx_5, sx_7, sx_1, rw_sx hq]
        simp (disch := omega) only [ni_in, ni_cl, ni_add, ni_mul, ni_sub, ni_lt, ni_le, ni_eq, ni_eq0, ni_lt0, ni_0le, ni_0lt, ni_le0, ni_a1, ni_a3, ni_a7, ni_a15, hsn]
        refine ⟨by omega, fun h => ?_, fun h => ⟨fun h' => by omega, fun _ => ?_⟩⟩
        · have e : j = (S.1 i).length := by omega
          subst e
          rw [List.take_length] at r1
          exact out M' hS' r1 r2
        · refine ⟨ec, S, i, Or.inl rfl, rfl, hS', hi, fun j' hj' ej => ?_, fun hno => absurd rfl (hno j (by omega))⟩
          have ej' : j = j' := by rw [← nI_eq (show j < 2 ^ 31 by omega) (show j' < 2 ^ 31 by omega)]; exact ej
          subst ej'
          have hcd : (S.1 i).getD j 0 ≤ pS P * pR P := hI.1 i hi _ (getD_mem hj')
          have hc32 := cdN_le hD.1.1 hcd
          simp (maxSteps := 2000000) [bk_X4_writeColumn_0, bk_X4_writeColumn_3, bk_X4_writeColumn_50, pm_arr, pm_call, pm_e_c0, pm_e_c1, pm_e_cti, pm_e_ctl, pm_e_ctr, pm_e_go, pm_e_i, pm_e_ii, pm_e_ldi, pm_e_ldr, pm_e_lk, pm_e_r, pm_e_ri, pm_e_rii, pm_e_rm0, pm_e_rm1, pm_e_rs0, pm_e_rs1, pm_e_wp0, pm_e_wp1, pm_f2, pm_f3, pm_fld, pm_fv, pm_obj, pm_recv, pm_s_aload_n, pm_s_arraylength, pm_s_getfield, pm_s_goto, pm_s_i2s, pm_s_iadd, pm_s_iaload, pm_s_iconst, pm_s_if_icmp_ge, pm_s_iinc, pm_s_iload, pm_s_iload_n, pm_s_invokevirtual, pm_s_ireturn, pm_s_istore, pm_s_sastore, ct_X4_writeColumn, tt_X0_codeOf, pS, pR, pC, pE, pL, -Int32.not_le, -Int32.not_lt, -Int64.not_le, -Int64.not_lt, -List.getD_eq_getElem?_getD, sx_1, rw_sx hq]
          rw [code_n hD' hcd, i16 _ hc32]
          simp (disch := omega) only [ni_in, ni_cl, ni_add, ni_mul, ni_sub, ni_lt, ni_le, ni_eq, ni_eq0, ni_lt0, ni_0le, ni_0lt, ni_le0, ni_a1, ni_a3, ni_a7, ni_a15]
          refine ⟨by omega, ?_⟩
          refine ih (j + 1) _ (by omega) (by omega) ?_ (r2.set (by simp))
          have e1 : L ++ ((S.1 i).take (j + 1)).map (cdN (pR P)) = (L ++ ((S.1 i).take j).map (cdN (pR P))) ++ [cdN (pR P) ((S.1 i).getD j 0)] := by
            rw [List.take_succ, List.map_append, List.append_assoc]
            congr 2
            rw [List.getD_eq_getElem?_getD, List.getElem?_eq_getElem hj']; rfl
          rw [e1]
          have := r1.app (v := cdN (pR P) ((S.1 i).getD j 0))
          rw [show (L ++ ((S.1 i).take j).map (cdN (pR P))).length = L.length + j from by simp; omega] at this
          exact this
    refine hb0 _ _ _ ?_
    simp (maxSteps := 2000000) [bk_X4_writeColumn_0, bk_X4_writeColumn_3, bk_X4_writeColumn_50, pm_arr, pm_call, pm_e_c0, pm_e_c1, pm_e_cti, pm_e_ctl, pm_e_ctr, pm_e_go, pm_e_i, pm_e_ii, pm_e_ldi, pm_e_ldr, pm_e_lk, pm_e_r, pm_e_ri, pm_e_rii, pm_e_rm0, pm_e_rm1, pm_e_rs0, pm_e_rs1, pm_e_wp0, pm_e_wp1, pm_f2, pm_f3, pm_fld, pm_fv, pm_obj, pm_recv, pm_s_aload_n, pm_s_arraylength, pm_s_getfield, pm_s_goto, pm_s_i2s, pm_s_iadd, pm_s_iaload, pm_s_iconst, pm_s_if_icmp_ge, pm_s_iinc, pm_s_iload, pm_s_iload_n, pm_s_invokevirtual, pm_s_ireturn, pm_s_istore, pm_s_sastore, ct_X4_writeColumn, tt_X0_codeOf, pS, pR, pC, pE, pL, -Int32.not_le, -Int32.not_lt, -Int64.not_le, -Int64.not_lt, -List.getD_eq_getElem?_getD, lv_args]
    exact loop (S.1 i).length 0 M (by omega) (by omega) (by simpa using hL) pm_fr.rfl
  · exact hT.elim
/-- which codes are in houses -/
def truL (P : Pm) (S : St) : List Nat := (List.range 32).map (fun c => if c / 8 < pS P ∧ 1 ≤ c % 8 ∧ c % 8 ≤ S.2.2 (c / 8) ∧ c % 8 ≤ 6 then 1 else 0)
def tt_X4_writeHoused : pm_T := fun args M k => match args with
  | [.ref 5, .ref q] => ∃ ec S P, isRw q ∧ q ≠ 27 ∧ SdX M 5 ec S ∧ DkX M P ∧ ∀ M', rowIs M' q (truL P S) → pm_fr [q] M M' → k (some (.int (nI 32))) M'
  | _ => False
abbrev ct_X4_writeHoused : List pm_C := [(true, 140, 0, 2, none, tt_J7_fill_fb410 SHx)]
set_option maxHeartbeats 4000000 in
theorem sm_X4_writeHoused  : pm_Sem SHx yX4_writeHoused cX4_writeHoused 4 (some .int) 2 tt_X4_writeHoused := by
  refine pm_Sem_intro bl_X4_writeHoused ct_X4_writeHoused cs_X4_writeHoused rfl (List.forall_mem_cons.mpr ⟨⟨_, _, _, _, sm_J7_fill_fb410, by decide, cm_J7_fill_fb410, by decide +kernel⟩, fun _ h => absurd h List.not_mem_nil⟩) ck_X4_writeHoused (by decide +kernel) (by decide) ?_
  intro X k hX args M hT
  have hb0 := hX 0 bk_X4_writeHoused_0 (List.mem_of_getElem? (i := 0) rfl)
  have hb7 := hX 7 bk_X4_writeHoused_7 (List.mem_of_getElem? (i := 1) rfl)
  have hb20 := hX 20 bk_X4_writeHoused_20 (List.mem_of_getElem? (i := 2) rfl)
  have hb51 := hX 51 bk_X4_writeHoused_51 (List.mem_of_getElem? (i := 3) rfl)
  have hb57 := hX 57 bk_X4_writeHoused_57 (List.mem_of_getElem? (i := 4) rfl)
  clear hX
  unfold tt_X4_writeHoused at hT; split at hT
  · next q =>
    obtain ⟨ec, S, ⟨s, r, c, e, w⟩, hq, hq27, hS, hD, hT⟩ := hT
    have h32 : rwN q = 32 := by unfold rwN; rw [if_neg hq27]
    have hsx : SHx[q]? = some (.inl (3, 32)) := by rw [rw_sx hq, h32]
    have hP := hD.1.1
    obtain ⟨h1, h2, h3, h4, h5, h6, h7, h8, h9⟩ := hP
    dsimp only [pS, pR, pC, pE, pL] at *
    refine ⟨by simp [lg_sl, Value.category], ?_⟩
    have mvS : ∀ M', pm_fr [q] M M' → SdX M' 5 ec S := fun M' hf => hS.moved hf (rw_st hq)
    have mvD : ∀ M', pm_fr [q] M M' → DkX M' (s, r, c, e, w) := fun M' hf => hD.moved hf (rw_dk hq)
    -- up to the suit t and its rank k
    have loop : ∀ (f t : Nat) (M' : pm_M), s ≤ t + f → t ≤ s → (∀ j, j < 32 → M'.1 q j = nI (if j / 8 < t ∧ 1 ≤ j % 8 ∧ j % 8 ≤ S.2.2 (j / 8) ∧ j % 8 ≤ 6 then 1 else 0)) → pm_fr [q] M M' → X 7 [(0, .ref 5), (1, .ref q), (2, .int (nI t))] [] M' := by
      intro f
      have fin : ∀ (t : Nat) (M' : pm_M), t = s → (∀ j, j < 32 → M'.1 q j = nI (if j / 8 < t ∧ 1 ≤ j % 8 ∧ j % 8 ≤ S.2.2 (j / 8) ∧ j % 8 ≤ 6 then 1 else 0)) → pm_fr [q] M M' → X 57 [] [] M' := by
        intro t M' et r1 r2
        refine hb57 _ _ _ ?_
        simp (maxSteps := 2000000) [bk_X4_writeHoused_0, bk_X4_writeHoused_7, bk_X4_writeHoused_20, bk_X4_writeHoused_51, bk_X4_writeHoused_57, pm_arr, pm_call, pm_e_c0, pm_e_c1, pm_e_cti, pm_e_ctl, pm_e_ctr, pm_e_go, pm_e_i, pm_e_ii, pm_e_ldi, pm_e_ldr, pm_e_lk, pm_e_r, pm_e_ri, pm_e_rii, pm_e_rm0, pm_e_rm1, pm_e_rs0, pm_e_rs1, pm_e_wp0, pm_e_wp1, pm_f2, pm_f3, pm_fld, pm_fv, pm_obj, pm_recv, pm_s_aload_n, pm_s_bipush, pm_s_getfield, pm_s_goto, pm_s_iadd, pm_s_iaload, pm_s_iconst, pm_s_if_icmp_ge, pm_s_if_icmp_gt, pm_s_iinc, pm_s_iload_n, pm_s_imul, pm_s_invokestatic, pm_s_ireturn, pm_s_istore_n, pm_s_sastore, ct_X4_writeHoused, pS, pR, pC, pE, pL, -Int32.not_le, -Int32.not_lt, -Int64.not_le, -Int64.not_lt, -List.getD_eq_getElem?_getD]
        refine hT M' (fun j hj => ?_) r2
        have hj32 : j < 32 := by simpa [truL] using hj
        rw [r1 j hj32, et]
        unfold truL
        rw [List.getD_eq_getElem?_getD, List.getElem?_map, List.getElem?_range hj32]
        rfl
      induction f with
      | zero =>
        intro t M' f1 f2 r1 r2
        have et : t = s := by omega
        have hD' := mvD M' r2
        refine hb7 _ _ _ ?_
        simp (maxSteps := 2000000) [bk_X4_writeHoused_0, bk_X4_writeHoused_7, bk_X4_writeHoused_20, bk_X4_writeHoused_51, bk_X4_writeHoused_57, pm_arr, pm_call, pm_e_c0, pm_e_c1, pm_e_cti, pm_e_ctl, pm_e_ctr, pm_e_go, pm_e_i, pm_e_ii, pm_e_ldi, pm_e_ldr, pm_e_lk, pm_e_r, pm_e_ri, pm_e_rii, pm_e_rm0, pm_e_rm1, pm_e_rs0, pm_e_rs1, pm_e_wp0, pm_e_wp1, pm_f2, pm_f3, pm_fld, pm_fv, pm_obj, pm_recv, pm_s_aload_n, pm_s_bipush, pm_s_getfield, pm_s_goto, pm_s_iadd, pm_s_iaload, pm_s_iconst, pm_s_if_icmp_ge, pm_s_if_icmp_gt, pm_s_iinc, pm_s_iload_n, pm_s_imul, pm_s_invokestatic, pm_s_ireturn, pm_s_istore_n, pm_s_sastore, ct_X4_writeHoused, pS, pR, pC, pE, pL, -Int32.not_le, -Int32.not_lt, -Int64.not_le, -Int64.not_lt, -List.getD_eq_getElem?_getD, sx_5, sx_1, hD'.1.2.1.1]
        simp (disch := omega) only [ni_in, ni_cl, ni_add, ni_mul, ni_sub, ni_lt, ni_le, ni_eq, ni_eq0, ni_lt0, ni_0le, ni_0lt, ni_le0, ni_a1, ni_a3, ni_a7, ni_a15]
        exact ⟨fun _ => fin t M' et r1 r2, fun h => by omega⟩
      | succ f ih =>
        intro t M' f1 f2 r1 r2
        have hD' := mvD M' r2
        refine hb7 _ _ _ ?_
        simp (maxSteps := 2000000) [bk_X4_writeHoused_0, bk_X4_writeHoused_7, bk_X4_writeHoused_20, bk_X4_writeHoused_51, bk_X4_writeHoused_57, pm_arr, pm_call, pm_e_c0, pm_e_c1, pm_e_cti, pm_e_ctl, pm_e_ctr, pm_e_go, pm_e_i, pm_e_ii, pm_e_ldi, pm_e_ldr, pm_e_lk, pm_e_r, pm_e_ri, pm_e_rii, pm_e_rm0, pm_e_rm1, pm_e_rs0, pm_e_rs1, pm_e_wp0, pm_e_wp1, pm_f2, pm_f3, pm_fld, pm_fv, pm_obj, pm_recv, pm_s_aload_n, pm_s_bipush, pm_s_getfield, pm_s_goto, pm_s_iadd, pm_s_iaload, pm_s_iconst, pm_s_if_icmp_ge, pm_s_if_icmp_gt, pm_s_iinc, pm_s_iload_n, pm_s_imul, pm_s_invokestatic, pm_s_ireturn, pm_s_istore_n, pm_s_sastore, ct_X4_writeHoused, pS, pR, pC, pE, pL, -Int32.not_le, -Int32.not_lt, -Int64.not_le, -Int64.not_lt, -List.getD_eq_getElem?_getD, sx_5, sx_1, hD'.1.2.1.1]
        simp (disch := omega) only [ni_in, ni_cl, ni_add, ni_mul, ni_sub, ni_lt, ni_le, ni_eq, ni_eq0, ni_lt0, ni_0le, ni_0lt, ni_le0, ni_a1, ni_a3, ni_a7, ni_a15]
        refine ⟨fun h => fin t M' (by omega) r1 r2, fun h => ?_⟩
        have hh6 := hS.1.2.2 t (by omega)
        have inner : ∀ (g k : Nat) (M' : pm_M), 7 ≤ k + g → 1 ≤ k → k ≤ S.2.2 t + 1 → (∀ j, j < 32 → M'.1 q j = nI (if (j / 8 < t ∧ 1 ≤ j % 8 ∧ j % 8 ≤ S.2.2 (j / 8) ∧ j % 8 ≤ 6) ∨ (j / 8 = t ∧ 1 ≤ j % 8 ∧ j % 8 < k) then 1 else 0)) → pm_fr [q] M M' → X 20 [(0, .ref 5), (1, .ref q), (2, .int (nI t)), (3, .int (nI k))] [] M' := by
          intro g
          have fin2 : ∀ (k : Nat) (M' : pm_M), k = S.2.2 t + 1 → (∀ j, j < 32 → M'.1 q j = nI (if (j / 8 < t ∧ 1 ≤ j % 8 ∧ j % 8 ≤ S.2.2 (j / 8) ∧ j % 8 ≤ 6) ∨ (j / 8 = t ∧ 1 ≤ j % 8 ∧ j % 8 < k) then 1 else 0)) → pm_fr [q] M M' → X 51 [(0, .ref 5), (1, .ref q), (2, .int (nI t))] [] M' := by
            intro k M' ek r1 r2
            refine hb51 _ _ _ ?_
            simp (maxSteps := 2000000) [bk_X4_writeHoused_0, bk_X4_writeHoused_7, bk_X4_writeHoused_20, bk_X4_writeHoused_51, bk_X4_writeHoused_57, pm_arr, pm_call, pm_e_c0, pm_e_c1, pm_e_cti, pm_e_ctl, pm_e_ctr, pm_e_go, pm_e_i, pm_e_ii, pm_e_ldi, pm_e_ldr, pm_e_lk, pm_e_r, pm_e_ri, pm_e_rii, pm_e_rm0, pm_e_rm1, pm_e_rs0, pm_e_rs1, pm_e_wp0, pm_e_wp1, pm_f2, pm_f3, pm_fld, pm_fv, pm_obj, pm_recv, pm_s_aload_n, pm_s_bipush, pm_s_getfield, pm_s_goto, pm_s_iadd, pm_s_iaload, pm_s_iconst, pm_s_if_icmp_ge, pm_s_if_icmp_gt, pm_s_iinc, pm_s_iload_n, pm_s_imul, pm_s_invokestatic, pm_s_ireturn, pm_s_istore_n, pm_s_sastore, ct_X4_writeHoused, pS, pR, pC, pE, pL, -Int32.not_le, -Int32.not_lt, -Int64.not_le, -Int64.not_lt, -List.getD_eq_getElem?_getD]
            rw [ni_add]
            refine ih (t + 1) M' (by omega) (by omega) (fun j hj => ?_) r2
            rw [r1 j hj]
            congr 1
            by_cases ej : j / 8 = t
            · rw [ej]
              by_cases z : 1 ≤ j % 8 ∧ j % 8 < k
              · rw [if_pos (Or.inr ⟨rfl, z⟩), if_pos ⟨by omega, by omega, by omega, by omega⟩]
              · rw [if_neg (by omega), if_neg (by omega)]
            · by_cases z : j / 8 < t ∧ 1 ≤ j % 8 ∧ j % 8 ≤ S.2.2 (j / 8) ∧ j % 8 ≤ 6
              · rw [if_pos (Or.inl z), if_pos ⟨by omega, z.2⟩]
              · rw [if_neg (by rintro (y | y); exact z y; exact ej y.1), if_neg (fun y => z ⟨by omega, y.2⟩)]
          induction g with
          | zero =>
            intro k M' g1 g2 g3 r1 r2
            have hS' := mvS M' r2
            refine hb20 _ _ _ ?_
            simp (maxSteps := 2000000) [bk_X4_writeHoused_0, bk_X4_writeHoused_7, bk_X4_writeHoused_20, bk_X4_writeHoused_51, bk_X4_writeHoused_57, pm_arr, pm_call, pm_e_c0, pm_e_c1, pm_e_cti, pm_e_ctl, pm_e_ctr, pm_e_go, pm_e_i, pm_e_ii, pm_e_ldi, pm_e_ldr, pm_e_lk, pm_e_r, pm_e_ri, pm_e_rii, pm_e_rm0, pm_e_rm1, pm_e_rs0, pm_e_rs1, pm_e_wp0, pm_e_wp1, pm_f2, pm_f3, pm_fld, pm_fv, pm_obj, pm_recv, pm_s_aload_n, pm_s_bipush, pm_s_getfield, pm_s_goto, pm_s_iadd, pm_s_iaload, pm_s_iconst, pm_s_if_icmp_ge, pm_s_if_icmp_gt, pm_s_iinc, pm_s_iload_n, pm_s_imul, pm_s_invokestatic, pm_s_ireturn, pm_s_istore_n, pm_s_sastore, ct_X4_writeHoused, pS, pR, pC, pE, pL, -Int32.not_le, -Int32.not_lt, -Int64.not_le, -Int64.not_lt, -List.getD_eq_getElem?_getD, sx_5, sx_9]
            have hsh := hS'.h (show t < 4 by omega)
            simp (disch := omega) only [ni_in, ni_cl, ni_add, ni_mul, ni_sub, ni_lt, ni_le, ni_eq, ni_eq0, ni_lt0, ni_0le, ni_0lt, ni_le0, ni_a1, ni_a3, ni_a7, ni_a15, hsh]
            exact ⟨by omega, fun _ => fin2 k M' (by omega) r1 r2, fun h => by omega⟩
          | succ g ihg =>
            intro k M' g1 g2 g3 r1 r2
            have hS' := mvS M' r2
            refine hb20 _ _ _ ?_
            simp (maxSteps := 2000000) [bk_X4_writeHoused_0, bk_X4_writeHoused_7, bk_X4_writeHoused_20, bk_X4_writeHoused_51, bk_X4_writeHoused_57, pm_arr, pm_call, pm_e_c0, pm_e_c1, pm_e_cti, pm_e_ctl, pm_e_ctr, pm_e_go, pm_e_i, pm_e_ii, pm_e_ldi, pm_e_ldr, pm_e_lk, pm_e_r, pm_e_ri, pm_e_rii, pm_e_rm0, pm_e_rm1, pm_e_rs0, pm_e_rs1, pm_e_wp0, pm_e_wp1, pm_f2, pm_f3, pm_fld, pm_fv, pm_obj, pm_recv, pm_s_aload_n, pm_s_bipush, pm_s_getfield, pm_s_goto, pm_s_iadd, pm_s_iaload, pm_s_iconst, pm_s_if_icmp_ge, pm_s_if_icmp_gt, pm_s_iinc, pm_s_iload_n, pm_s_imul, pm_s_invokestatic, pm_s_ireturn, pm_s_istore_n, pm_s_sastore, ct_X4_writeHoused, pS, pR, pC, pE, pL, -Int32.not_le, -Int32.not_lt, -Int64.not_le, -Int64.not_lt, -List.getD_eq_getElem?_getD, sx_5, sx_9, hsx, show (nI 1).toInt16.toInt32 = nI 1 by decide]
            have hsh := hS'.h (show t < 4 by omega)
            simp (disch := omega) only [ni_in, ni_cl, ni_add, ni_mul, ni_sub, ni_lt, ni_le, ni_eq, ni_eq0, ni_lt0, ni_0le, ni_0lt, ni_le0, ni_a1, ni_a3, ni_a7, ni_a15, hsh]
            refine ⟨by omega, fun h => fin2 k M' (by omega) r1 r2, fun h => ⟨fun h' => by omega, fun h' => ⟨by omega, ?_⟩⟩⟩
            refine ihg (k + 1) _ (by omega) (by omega) (by omega) (fun j hj => ?_) (r2.set (by simp))
            rw [me_1s]
            by_cases ej : j = 8 * t + k
            · rw [if_pos ej, if_pos (Or.inr ⟨by omega, by omega, by omega⟩)]
            · rw [if_neg ej, r1 j hj]
              congr 1
              by_cases z : (j / 8 < t ∧ 1 ≤ j % 8 ∧ j % 8 ≤ S.2.2 (j / 8) ∧ j % 8 ≤ 6) ∨ (j / 8 = t ∧ 1 ≤ j % 8 ∧ j % 8 < k)
              · rw [if_pos z, if_pos (z.imp id (fun y => ⟨y.1, y.2.1, by omega⟩))]
              · rw [if_neg z, if_neg (fun y => z (y.imp id (fun y => ⟨y.1, y.2.1, by omega⟩)))]
        refine inner 6 1 M' (by omega) (by omega) (by omega) (fun j hj => ?_) r2
        rw [r1 j hj]
        congr 1
        by_cases z : j / 8 < t ∧ 1 ≤ j % 8 ∧ j % 8 ≤ S.2.2 (j / 8) ∧ j % 8 ≤ 6
        · rw [if_pos z, if_pos (Or.inl z)]
        · rw [if_neg z, if_neg (by rintro (y | y); exact z y; omega)]
    refine hb0 _ _ _ ?_
    simp (maxSteps := 2000000) [bk_X4_writeHoused_0, bk_X4_writeHoused_7, bk_X4_writeHoused_20, bk_X4_writeHoused_51, bk_X4_writeHoused_57, pm_arr, pm_call, pm_e_c0, pm_e_c1, pm_e_cti, pm_e_ctl, pm_e_ctr, pm_e_go, pm_e_i, pm_e_ii, pm_e_ldi, pm_e_ldr, pm_e_lk, pm_e_r, pm_e_ri, pm_e_rii, pm_e_rm0, pm_e_rm1, pm_e_rs0, pm_e_rs1, pm_e_wp0, pm_e_wp1, pm_f2, pm_f3, pm_fld, pm_fv, pm_obj, pm_recv, pm_s_aload_n, pm_s_bipush, pm_s_getfield, pm_s_goto, pm_s_iadd, pm_s_iaload, pm_s_iconst, pm_s_if_icmp_ge, pm_s_if_icmp_gt, pm_s_iinc, pm_s_iload_n, pm_s_imul, pm_s_invokestatic, pm_s_ireturn, pm_s_istore_n, pm_s_sastore, ct_X4_writeHoused, pS, pR, pC, pE, pL, -Int32.not_le, -Int32.not_lt, -Int64.not_le, -Int64.not_lt, -List.getD_eq_getElem?_getD, lv_args]
    refine ⟨32, hsx, by decide, by decide, ?_⟩
    simp (maxSteps := 2000000) [bk_X4_writeHoused_0, bk_X4_writeHoused_7, bk_X4_writeHoused_20, bk_X4_writeHoused_51, bk_X4_writeHoused_57, pm_arr, pm_call, pm_e_c0, pm_e_c1, pm_e_cti, pm_e_ctl, pm_e_ctr, pm_e_go, pm_e_i, pm_e_ii, pm_e_ldi, pm_e_ldr, pm_e_lk, pm_e_r, pm_e_ri, pm_e_rii, pm_e_rm0, pm_e_rm1, pm_e_rs0, pm_e_rs1, pm_e_wp0, pm_e_wp1, pm_f2, pm_f3, pm_fld, pm_fv, pm_obj, pm_recv, pm_s_aload_n, pm_s_bipush, pm_s_getfield, pm_s_goto, pm_s_iadd, pm_s_iaload, pm_s_iconst, pm_s_if_icmp_ge, pm_s_if_icmp_gt, pm_s_iinc, pm_s_iload_n, pm_s_imul, pm_s_invokestatic, pm_s_ireturn, pm_s_istore_n, pm_s_sastore, ct_X4_writeHoused, pS, pR, pC, pE, pL, -Int32.not_le, -Int32.not_lt, -Int64.not_le, -Int64.not_lt, -List.getD_eq_getElem?_getD]
    refine loop s 0 _ (by omega) (by omega) (fun j hj => ?_) (pm_fr.rfl.fill (by simp))
    simp [pm_fill, hj]
  · exact hT.elim
