/-- which moves have a name -/
def nmF (C E a b : Int32) : Bool :=
  if b = nI 4 then wi a (nI 0) (C - nI 1)
  else (wi a (nI 0) (C - nI 1) || wi a (nI 4) (nI 4 + E - nI 1)) && ((wi b (nI 0) (C - nI 1) && !decide (b = a)) || decide (b = nI 5))
def tt_X4_isNamed : pm_T := fun args M k => match args with
  | [.ref p, .int a, .int b] => isSt p ∧ k (some (.int (pb (nmF (M.1 1 5) (M.1 p 6) a b)))) M
  | _ => False
abbrev ct_X4_isNamed : List pm_C := [(true, 51, 6, 3, (some .boolean), tt_X6_isWithin)]
set_option maxHeartbeats 4000000 in
theorem sm_X4_isNamed  : pm_Sem SHx yX4_isNamed cX4_isNamed 6 (some .boolean) 2 tt_X4_isNamed := by
  refine pm_Sem_intro bl_X4_isNamed ct_X4_isNamed cs_X4_isNamed rfl (List.forall_mem_cons.mpr ⟨⟨_, _, _, _, sm_X6_isWithin, by decide, cm_X6_isWithin, by decide +kernel⟩, fun _ h => absurd h List.not_mem_nil⟩) ck_X4_isNamed (by decide +kernel) (by decide) ?_
  intro X k hX args M hT
  have hb0 := hX 0 bk_X4_isNamed_0 (List.mem_of_getElem? (i := 0) rfl)
  have hb37 := hX 37 bk_X4_isNamed_37 (List.mem_of_getElem? (i := 1) rfl)
  have hb63 := hX 63 bk_X4_isNamed_63 (List.mem_of_getElem? (i := 2) rfl)
  have hb64 := hX 64 bk_X4_isNamed_64 (List.mem_of_getElem? (i := 3) rfl)
  have hb75 := hX 75 bk_X4_isNamed_75 (List.mem_of_getElem? (i := 4) rfl)
  have hb85 := hX 85 bk_X4_isNamed_85 (List.mem_of_getElem? (i := 5) rfl)
  have hb89 := hX 89 bk_X4_isNamed_89 (List.mem_of_getElem? (i := 6) rfl)
  have hb90 := hX 90 bk_X4_isNamed_90 (List.mem_of_getElem? (i := 7) rfl)
  clear hX
  unfold tt_X4_isNamed at hT; split at hT
  · next p a b =>
    obtain ⟨hp, hT⟩ := hT
    unfold nmF at hT
    refine ⟨by simp [lg_sl, Value.category], ?_⟩
    generalize hA : wi a (nI 0) (M.1 1 5 - nI 1) = A at hT
    generalize hB : wi a (nI 4) (nI 4 + M.1 p 6 - nI 1) = B at hT
    generalize hC : wi b (nI 0) (M.1 1 5 - nI 1) = C at hT
    refine hb0 _ _ _ ?_
    simp [bk_X4_isNamed_0, bk_X4_isNamed_37, bk_X4_isNamed_63, bk_X4_isNamed_64, bk_X4_isNamed_75, bk_X4_isNamed_85, bk_X4_isNamed_89, bk_X4_isNamed_90, pm_call, pm_e_c0, pm_e_c1, pm_e_cti, pm_e_ctl, pm_e_ctr, pm_e_go, pm_e_i, pm_e_ii, pm_e_ldi, pm_e_ldr, pm_e_lk, pm_e_r, pm_e_rm0, pm_e_rm1, pm_e_rs0, pm_e_rs1, pm_e_wp0, pm_e_wp1, pm_f2, pm_f3, pm_fld, pm_fv, pm_obj, pm_recv, pm_s_aload_n, pm_s_getfield, pm_s_goto, pm_s_iadd, pm_s_iconst, pm_s_ifCond_eq, pm_s_ifCond_ne, pm_s_if_icmp_eq, pm_s_if_icmp_ne, pm_s_iload, pm_s_iload_n, pm_s_invokestatic, pm_s_ireturn, pm_s_istore, pm_s_istore_n, pm_s_isub, ct_X4_isNamed, tt_X6_isWithin, pS, pR, pC, pE, pL, -Int32.not_le, -Int32.not_lt, -Int64.not_le, -Int64.not_lt, lv_args, st_0 hp, sx_1, hA, hB, pb_01]
    refine ⟨fun h4 => ?_, fun h4 => ?_⟩
    · refine hb37 _ _ _ ?_
      simp [bk_X4_isNamed_0, bk_X4_isNamed_37, bk_X4_isNamed_63, bk_X4_isNamed_64, bk_X4_isNamed_75, bk_X4_isNamed_85, bk_X4_isNamed_89, bk_X4_isNamed_90, pm_call, pm_e_c0, pm_e_c1, pm_e_cti, pm_e_ctl, pm_e_ctr, pm_e_go, pm_e_i, pm_e_ii, pm_e_ldi, pm_e_ldr, pm_e_lk, pm_e_r, pm_e_rm0, pm_e_rm1, pm_e_rs0, pm_e_rs1, pm_e_wp0, pm_e_wp1, pm_f2, pm_f3, pm_fld, pm_fv, pm_obj, pm_recv, pm_s_aload_n, pm_s_getfield, pm_s_goto, pm_s_iadd, pm_s_iconst, pm_s_ifCond_eq, pm_s_ifCond_ne, pm_s_if_icmp_eq, pm_s_if_icmp_ne, pm_s_iload, pm_s_iload_n, pm_s_invokestatic, pm_s_ireturn, pm_s_istore, pm_s_istore_n, pm_s_isub, ct_X4_isNamed, tt_X6_isWithin, pS, pR, pC, pE, pL, -Int32.not_le, -Int32.not_lt, -Int64.not_le, -Int64.not_lt, lv_args, st_0 hp, sx_1, hC, pb_eq0]
      repeat' first
        | refine ⟨fun _ => ?_, fun _ => ?_⟩
        | (refine hb63 _ _ _ ?_; simp [bk_X4_isNamed_0, bk_X4_isNamed_37, bk_X4_isNamed_63, bk_X4_isNamed_64, bk_X4_isNamed_75, bk_X4_isNamed_85, bk_X4_isNamed_89, bk_X4_isNamed_90, pm_call, pm_e_c0, pm_e_c1, pm_e_cti, pm_e_ctl, pm_e_ctr, pm_e_go, pm_e_i, pm_e_ii, pm_e_ldi, pm_e_ldr, pm_e_lk, pm_e_r, pm_e_rm0, pm_e_rm1, pm_e_rs0, pm_e_rs1, pm_e_wp0, pm_e_wp1, pm_f2, pm_f3, pm_fld, pm_fv, pm_obj, pm_recv, pm_s_aload_n, pm_s_getfield, pm_s_goto, pm_s_iadd, pm_s_iconst, pm_s_ifCond_eq, pm_s_ifCond_ne, pm_s_if_icmp_eq, pm_s_if_icmp_ne, pm_s_iload, pm_s_iload_n, pm_s_invokestatic, pm_s_ireturn, pm_s_istore, pm_s_istore_n, pm_s_isub, ct_X4_isNamed, tt_X6_isWithin, pS, pR, pC, pE, pL, -Int32.not_le, -Int32.not_lt, -Int64.not_le, -Int64.not_lt, pb_eq0, ni_0, ni_1])
        | (refine hb64 _ _ _ ?_; simp [bk_X4_isNamed_0, bk_X4_isNamed_37, bk_X4_isNamed_63, bk_X4_isNamed_64, bk_X4_isNamed_75, bk_X4_isNamed_85, bk_X4_isNamed_89, bk_X4_isNamed_90, pm_call, pm_e_c0, pm_e_c1, pm_e_cti, pm_e_ctl, pm_e_ctr, pm_e_go, pm_e_i, pm_e_ii, pm_e_ldi, pm_e_ldr, pm_e_lk, pm_e_r, pm_e_rm0, pm_e_rm1, pm_e_rs0, pm_e_rs1, pm_e_wp0, pm_e_wp1, pm_f2, pm_f3, pm_fld, pm_fv, pm_obj, pm_recv, pm_s_aload_n, pm_s_getfield, pm_s_goto, pm_s_iadd, pm_s_iconst, pm_s_ifCond_eq, pm_s_ifCond_ne, pm_s_if_icmp_eq, pm_s_if_icmp_ne, pm_s_iload, pm_s_iload_n, pm_s_invokestatic, pm_s_ireturn, pm_s_istore, pm_s_istore_n, pm_s_isub, ct_X4_isNamed, tt_X6_isWithin, pS, pR, pC, pE, pL, -Int32.not_le, -Int32.not_lt, -Int64.not_le, -Int64.not_lt, pb_eq0, ni_0, ni_1])
        | (refine hb75 _ _ _ ?_; simp [bk_X4_isNamed_0, bk_X4_isNamed_37, bk_X4_isNamed_63, bk_X4_isNamed_64, bk_X4_isNamed_75, bk_X4_isNamed_85, bk_X4_isNamed_89, bk_X4_isNamed_90, pm_call, pm_e_c0, pm_e_c1, pm_e_cti, pm_e_ctl, pm_e_ctr, pm_e_go, pm_e_i, pm_e_ii, pm_e_ldi, pm_e_ldr, pm_e_lk, pm_e_r, pm_e_rm0, pm_e_rm1, pm_e_rs0, pm_e_rs1, pm_e_wp0, pm_e_wp1, pm_f2, pm_f3, pm_fld, pm_fv, pm_obj, pm_recv, pm_s_aload_n, pm_s_getfield, pm_s_goto, pm_s_iadd, pm_s_iconst, pm_s_ifCond_eq, pm_s_ifCond_ne, pm_s_if_icmp_eq, pm_s_if_icmp_ne, pm_s_iload, pm_s_iload_n, pm_s_invokestatic, pm_s_ireturn, pm_s_istore, pm_s_istore_n, pm_s_isub, ct_X4_isNamed, tt_X6_isWithin, pS, pR, pC, pE, pL, -Int32.not_le, -Int32.not_lt, -Int64.not_le, -Int64.not_lt, pb_eq0, ni_0, ni_1])
        | (refine hb85 _ _ _ ?_; simp [bk_X4_isNamed_0, bk_X4_isNamed_37, bk_X4_isNamed_63, bk_X4_isNamed_64, bk_X4_isNamed_75, bk_X4_isNamed_85, bk_X4_isNamed_89, bk_X4_isNamed_90, pm_call, pm_e_c0, pm_e_c1, pm_e_cti, pm_e_ctl, pm_e_ctr, pm_e_go, pm_e_i, pm_e_ii, pm_e_ldi, pm_e_ldr, pm_e_lk, pm_e_r, pm_e_rm0, pm_e_rm1, pm_e_rs0, pm_e_rs1, pm_e_wp0, pm_e_wp1, pm_f2, pm_f3, pm_fld, pm_fv, pm_obj, pm_recv, pm_s_aload_n, pm_s_getfield, pm_s_goto, pm_s_iadd, pm_s_iconst, pm_s_ifCond_eq, pm_s_ifCond_ne, pm_s_if_icmp_eq, pm_s_if_icmp_ne, pm_s_iload, pm_s_iload_n, pm_s_invokestatic, pm_s_ireturn, pm_s_istore, pm_s_istore_n, pm_s_isub, ct_X4_isNamed, tt_X6_isWithin, pS, pR, pC, pE, pL, -Int32.not_le, -Int32.not_lt, -Int64.not_le, -Int64.not_lt, pb_eq0, ni_0, ni_1])
        | (refine hb89 _ _ _ ?_; simp [bk_X4_isNamed_0, bk_X4_isNamed_37, bk_X4_isNamed_63, bk_X4_isNamed_64, bk_X4_isNamed_75, bk_X4_isNamed_85, bk_X4_isNamed_89, bk_X4_isNamed_90, pm_call, pm_e_c0, pm_e_c1, pm_e_cti, pm_e_ctl, pm_e_ctr, pm_e_go, pm_e_i, pm_e_ii, pm_e_ldi, pm_e_ldr, pm_e_lk, pm_e_r, pm_e_rm0, pm_e_rm1, pm_e_rs0, pm_e_rs1, pm_e_wp0, pm_e_wp1, pm_f2, pm_f3, pm_fld, pm_fv, pm_obj, pm_recv, pm_s_aload_n, pm_s_getfield, pm_s_goto, pm_s_iadd, pm_s_iconst, pm_s_ifCond_eq, pm_s_ifCond_ne, pm_s_if_icmp_eq, pm_s_if_icmp_ne, pm_s_iload, pm_s_iload_n, pm_s_invokestatic, pm_s_ireturn, pm_s_istore, pm_s_istore_n, pm_s_isub, ct_X4_isNamed, tt_X6_isWithin, pS, pR, pC, pE, pL, -Int32.not_le, -Int32.not_lt, -Int64.not_le, -Int64.not_lt, pb_eq0, ni_0, ni_1])
        | (refine hb90 _ _ _ ?_; simp [bk_X4_isNamed_0, bk_X4_isNamed_37, bk_X4_isNamed_63, bk_X4_isNamed_64, bk_X4_isNamed_75, bk_X4_isNamed_85, bk_X4_isNamed_89, bk_X4_isNamed_90, pm_call, pm_e_c0, pm_e_c1, pm_e_cti, pm_e_ctl, pm_e_ctr, pm_e_go, pm_e_i, pm_e_ii, pm_e_ldi, pm_e_ldr, pm_e_lk, pm_e_r, pm_e_rm0, pm_e_rm1, pm_e_rs0, pm_e_rs1, pm_e_wp0, pm_e_wp1, pm_f2, pm_f3, pm_fld, pm_fv, pm_obj, pm_recv, pm_s_aload_n, pm_s_getfield, pm_s_goto, pm_s_iadd, pm_s_iconst, pm_s_ifCond_eq, pm_s_ifCond_ne, pm_s_if_icmp_eq, pm_s_if_icmp_ne, pm_s_iload, pm_s_iload_n, pm_s_invokestatic, pm_s_ireturn, pm_s_istore, pm_s_istore_n, pm_s_isub, ct_X4_isNamed, tt_X6_isWithin, pS, pR, pC, pE, pL, -Int32.not_le, -Int32.not_lt, -Int64.not_le, -Int64.not_lt, pb_eq0, ni_0, ni_1])
      all_goals simp_all [ni_0, ni_1, pb_t, pb_f, -Int32.not_le, -Int32.not_lt]
    · simp_all
  · exact hT.elim
/-- why a move can't be: 0 it can -/
def whyF (P : Pm) (ec : Nat) (S : St) (a b : Nat) : Nat :=
  if cardF S a = 0 then 1
  else if b = 4 then (if ffc ec S = 2 then 2 else 0)
  else if b = 5 then (if S.2.2 (su (pR P) (cardF S a)) + 1 = ra (pR P) (cardF S a) then 0 else 3)
  else if letF P (cardF S a) (lastC (S.1 b)) = true then 0 else if S.1 b = [] then 5 else 4
/-- all cards of a stand are the deck's -/
def inD (P : Pm) (S : St) : Prop := (∀ i, i < 4 → ∀ d ∈ S.1 i, d ≤ pS P * pR P) ∧ ∀ j, j < 2 → S.2.1 j ≤ pS P * pR P
theorem lastC_in {l : List Nat} {m : Nat} (h : ∀ d ∈ l, d ≤ m) : lastC l ≤ m := by
  induction l using rev_ind with
  | nil => simp [lastC]
  | snoc l d ih => simp [lastC]; exact h d (by simp)
theorem cardF_le {P : Pm} {S : St} (h : inD P S) {a : Nat} (ha : a < 6) : cardF S a ≤ pS P * pR P := by
  unfold cardF; split
  · next q => exact lastC_in (h.1 a q)
  · exact h.2 _ (by omega)
theorem al_let {M : pm_M} {P : Pm} (hD : DkX M P) {n o : Nat} (n1 : 1 ≤ n) (n2 : n ≤ pS P * pR P) (o2 : o ≤ pS P * pR P) : pb (!decide (M.1 4 (nI n &&& nI 15).toNatClampNeg &&& (nI 1 <<< (nI o &&& 31)) = 0)) = pb (letF P n o) := by
  obtain ⟨⟨⟨h1, h2, h3, h4, h5, h6, h7, h8, h9⟩, -, -⟩, hd⟩ := hD
  rw [ni_a15 (by omega), Nat.mod_eq_of_lt (by omega), ni_cl (by omega), ← hd n n1 n2 o o2]; rfl
def tt_X4_whyNot : pm_T := fun args M k => match args with
  | [.ref p, .int x, .int y] => ∃ ec S P a b, isSt p ∧ x = nI a ∧ y = nI b ∧ SdX M p ec S ∧ DkX M P ∧ inD P S ∧ a < 6 ∧ b < 6 ∧ k (some (.int (nI (whyF P ec S a b)))) M
  | _ => False
abbrev ct_X4_whyNot : List pm_C := [(false, 83, 4, 2, (some .int), tt_X4_cardFrom), (false, 86, 4, 1, (some .int), tt_X4_firstFreeCell), (false, 89, 4, 2, (some .boolean), tt_X4_isNextInHouse), (false, 79, 4, 2, (some .int), tt_X4_lastOf), (false, 93, 0, 3, (some .boolean), tt_X0_allows)]
set_option maxHeartbeats 4000000 in
theorem sm_X4_whyNot  : pm_Sem SHx yX4_whyNot cX4_whyNot 4 (some .int) 3 tt_X4_whyNot := by
  refine pm_Sem_intro bl_X4_whyNot ct_X4_whyNot cs_X4_whyNot rfl (List.forall_mem_cons.mpr ⟨⟨_, _, _, _, sm_X4_cardFrom, by decide, cm_X4_cardFrom, by decide +kernel⟩, List.forall_mem_cons.mpr ⟨⟨_, _, _, _, sm_X4_firstFreeCell, by decide, cm_X4_firstFreeCell, by decide +kernel⟩, List.forall_mem_cons.mpr ⟨⟨_, _, _, _, sm_X4_isNextInHouse, by decide, cm_X4_isNextInHouse, by decide +kernel⟩, List.forall_mem_cons.mpr ⟨⟨_, _, _, _, sm_X4_lastOf, by decide, cm_X4_lastOf, by decide +kernel⟩, List.forall_mem_cons.mpr ⟨⟨_, _, _, _, sm_X0_allows, by decide, cm_X0_allows, by decide +kernel⟩, fun _ h => absurd h List.not_mem_nil⟩⟩⟩⟩⟩) ck_X4_whyNot (by decide +kernel) (by decide) ?_
  intro X k hX args M hT
  have hb0 := hX 0 bk_X4_whyNot_0 (List.mem_of_getElem? (i := 0) rfl)
  have hb12 := hX 12 bk_X4_whyNot_12 (List.mem_of_getElem? (i := 1) rfl)
  have hb29 := hX 29 bk_X4_whyNot_29 (List.mem_of_getElem? (i := 2) rfl)
  have hb30 := hX 30 bk_X4_whyNot_30 (List.mem_of_getElem? (i := 3) rfl)
  have hb31 := hX 31 bk_X4_whyNot_31 (List.mem_of_getElem? (i := 4) rfl)
  have hb48 := hX 48 bk_X4_whyNot_48 (List.mem_of_getElem? (i := 5) rfl)
  have hb49 := hX 49 bk_X4_whyNot_49 (List.mem_of_getElem? (i := 6) rfl)
  have hb50 := hX 50 bk_X4_whyNot_50 (List.mem_of_getElem? (i := 7) rfl)
  have hb68 := hX 68 bk_X4_whyNot_68 (List.mem_of_getElem? (i := 8) rfl)
  have hb81 := hX 81 bk_X4_whyNot_81 (List.mem_of_getElem? (i := 9) rfl)
  have hb82 := hX 82 bk_X4_whyNot_82 (List.mem_of_getElem? (i := 10) rfl)
  clear hX
  unfold tt_X4_whyNot at hT; split at hT
  · next p x y =>
    obtain ⟨ec, S, P, a, b, hp, rfl, rfl, hS, hD, hI, ha, hb, hT⟩ := hT
    have hP := hD.1.1
    obtain ⟨h1, h2, h3, h4, h5, h6, h7, h8, h9⟩ := hP
    have hcl := cardF_le hI ha
    refine ⟨by simp [lg_sl, Value.category], ?_⟩
    refine hb0 _ _ _ ?_
    simp [bk_X4_whyNot_0, bk_X4_whyNot_12, bk_X4_whyNot_29, bk_X4_whyNot_30, bk_X4_whyNot_31, bk_X4_whyNot_48, bk_X4_whyNot_49, bk_X4_whyNot_50, bk_X4_whyNot_68, bk_X4_whyNot_81, bk_X4_whyNot_82, pm_arr, pm_call, pm_e_c0, pm_e_c1, pm_e_cti, pm_e_ctl, pm_e_ctr, pm_e_go, pm_e_i, pm_e_ii, pm_e_ldi, pm_e_ldr, pm_e_lk, pm_e_r, pm_e_ri, pm_e_rm0, pm_e_rm1, pm_e_rs0, pm_e_rs1, pm_e_wp0, pm_e_wp1, pm_f2, pm_f3, pm_fld, pm_fv, pm_obj, pm_recv, pm_s_aload_n, pm_s_getfield, pm_s_goto, pm_s_iaload, pm_s_iconst, pm_s_ifCond_eq, pm_s_ifCond_ne, pm_s_if_icmp_ne, pm_s_iload_n, pm_s_invokevirtual, pm_s_ireturn, pm_s_istore_n, ct_X4_whyNot, tt_X0_allows, pS, pR, pC, pE, pL, -Int32.not_le, -Int32.not_lt, -Int64.not_le, -Int64.not_lt, lv_args, st_0 hp]
    refine ⟨ec, S, a, hp, rfl, hS, ha, ?_⟩
    simp [bk_X4_whyNot_0, bk_X4_whyNot_12, bk_X4_whyNot_29, bk_X4_whyNot_30, bk_X4_whyNot_31, bk_X4_whyNot_48, bk_X4_whyNot_49, bk_X4_whyNot_50, bk_X4_whyNot_68, bk_X4_whyNot_81, bk_X4_whyNot_82, pm_arr, pm_call, pm_e_c0, pm_e_c1, pm_e_cti, pm_e_ctl, pm_e_ctr, pm_e_go, pm_e_i, pm_e_ii, pm_e_ldi, pm_e_ldr, pm_e_lk, pm_e_r, pm_e_ri, pm_e_rm0, pm_e_rm1, pm_e_rs0, pm_e_rs1, pm_e_wp0, pm_e_wp1, pm_f2, pm_f3, pm_fld, pm_fv, pm_obj, pm_recv, pm_s_aload_n, pm_s_getfield, pm_s_goto, pm_s_iaload, pm_s_iconst, pm_s_ifCond_eq, pm_s_ifCond_ne, pm_s_if_icmp_ne, pm_s_iload_n, pm_s_invokevirtual, pm_s_ireturn, pm_s_istore_n, ct_X4_whyNot, tt_X0_allows, pS, pR, pC, pE, pL, -Int32.not_le, -Int32.not_lt, -Int64.not_le, -Int64.not_lt]
    simp (disch := omega) only [ni_in, ni_cl, ni_add, ni_mul, ni_sub, ni_lt, ni_le, ni_eq, ni_eq0, ni_lt0, ni_0le, ni_0lt, ni_le0, ni_a1, ni_a3, ni_a7, ni_a15]
    refine ⟨fun hc0 => ?_, fun hc0 => ?_⟩
    · refine hb12 _ _ _ ?_
      simp [bk_X4_whyNot_0, bk_X4_whyNot_12, bk_X4_whyNot_29, bk_X4_whyNot_30, bk_X4_whyNot_31, bk_X4_whyNot_48, bk_X4_whyNot_49, bk_X4_whyNot_50, bk_X4_whyNot_68, bk_X4_whyNot_81, bk_X4_whyNot_82, pm_arr, pm_call, pm_e_c0, pm_e_c1, pm_e_cti, pm_e_ctl, pm_e_ctr, pm_e_go, pm_e_i, pm_e_ii, pm_e_ldi, pm_e_ldr, pm_e_lk, pm_e_r, pm_e_ri, pm_e_rm0, pm_e_rm1, pm_e_rs0, pm_e_rs1, pm_e_wp0, pm_e_wp1, pm_f2, pm_f3, pm_fld, pm_fv, pm_obj, pm_recv, pm_s_aload_n, pm_s_getfield, pm_s_goto, pm_s_iaload, pm_s_iconst, pm_s_ifCond_eq, pm_s_ifCond_ne, pm_s_if_icmp_ne, pm_s_iload_n, pm_s_invokevirtual, pm_s_ireturn, pm_s_istore_n, ct_X4_whyNot, tt_X0_allows, pS, pR, pC, pE, pL, -Int32.not_le, -Int32.not_lt, -Int64.not_le, -Int64.not_lt, st_0 hp]
      simp (disch := omega) only [ni_in, ni_cl, ni_add, ni_mul, ni_sub, ni_lt, ni_le, ni_eq, ni_eq0, ni_lt0, ni_0le, ni_0lt, ni_le0, ni_a1, ni_a3, ni_a7, ni_a15]
      refine ⟨fun hb4 => ?_, fun hb4 => ?_⟩
      · refine hb31 _ _ _ ?_
        simp [bk_X4_whyNot_0, bk_X4_whyNot_12, bk_X4_whyNot_29, bk_X4_whyNot_30, bk_X4_whyNot_31, bk_X4_whyNot_48, bk_X4_whyNot_49, bk_X4_whyNot_50, bk_X4_whyNot_68, bk_X4_whyNot_81, bk_X4_whyNot_82, pm_arr, pm_call, pm_e_c0, pm_e_c1, pm_e_cti, pm_e_ctl, pm_e_ctr, pm_e_go, pm_e_i, pm_e_ii, pm_e_ldi, pm_e_ldr, pm_e_lk, pm_e_r, pm_e_ri, pm_e_rm0, pm_e_rm1, pm_e_rs0, pm_e_rs1, pm_e_wp0, pm_e_wp1, pm_f2, pm_f3, pm_fld, pm_fv, pm_obj, pm_recv, pm_s_aload_n, pm_s_getfield, pm_s_goto, pm_s_iaload, pm_s_iconst, pm_s_ifCond_eq, pm_s_ifCond_ne, pm_s_if_icmp_ne, pm_s_iload_n, pm_s_invokevirtual, pm_s_ireturn, pm_s_istore_n, ct_X4_whyNot, tt_X0_allows, pS, pR, pC, pE, pL, -Int32.not_le, -Int32.not_lt, -Int64.not_le, -Int64.not_lt, st_0 hp]
        simp (disch := omega) only [ni_in, ni_cl, ni_add, ni_mul, ni_sub, ni_lt, ni_le, ni_eq, ni_eq0, ni_lt0, ni_0le, ni_0lt, ni_le0, ni_a1, ni_a3, ni_a7, ni_a15]
        refine ⟨fun hb5 => ?_, fun hb5 => ?_⟩
        · refine hb50 _ _ _ ?_
          simp [bk_X4_whyNot_0, bk_X4_whyNot_12, bk_X4_whyNot_29, bk_X4_whyNot_30, bk_X4_whyNot_31, bk_X4_whyNot_48, bk_X4_whyNot_49, bk_X4_whyNot_50, bk_X4_whyNot_68, bk_X4_whyNot_81, bk_X4_whyNot_82, pm_arr, pm_call, pm_e_c0, pm_e_c1, pm_e_cti, pm_e_ctl, pm_e_ctr, pm_e_go, pm_e_i, pm_e_ii, pm_e_ldi, pm_e_ldr, pm_e_lk, pm_e_r, pm_e_ri, pm_e_rm0, pm_e_rm1, pm_e_rs0, pm_e_rs1, pm_e_wp0, pm_e_wp1, pm_f2, pm_f3, pm_fld, pm_fv, pm_obj, pm_recv, pm_s_aload_n, pm_s_getfield, pm_s_goto, pm_s_iaload, pm_s_iconst, pm_s_ifCond_eq, pm_s_ifCond_ne, pm_s_if_icmp_ne, pm_s_iload_n, pm_s_invokevirtual, pm_s_ireturn, pm_s_istore_n, ct_X4_whyNot, tt_X0_allows, pS, pR, pC, pE, pL, -Int32.not_le, -Int32.not_lt, -Int64.not_le, -Int64.not_lt, st_0 hp]
          refine ⟨ec, S, b, hp, rfl, hS, by omega, ?_⟩
          simp [bk_X4_whyNot_0, bk_X4_whyNot_12, bk_X4_whyNot_29, bk_X4_whyNot_30, bk_X4_whyNot_31, bk_X4_whyNot_48, bk_X4_whyNot_49, bk_X4_whyNot_50, bk_X4_whyNot_68, bk_X4_whyNot_81, bk_X4_whyNot_82, pm_arr, pm_call, pm_e_c0, pm_e_c1, pm_e_cti, pm_e_ctl, pm_e_ctr, pm_e_go, pm_e_i, pm_e_ii, pm_e_ldi, pm_e_ldr, pm_e_lk, pm_e_r, pm_e_ri, pm_e_rm0, pm_e_rm1, pm_e_rs0, pm_e_rs1, pm_e_wp0, pm_e_wp1, pm_f2, pm_f3, pm_fld, pm_fv, pm_obj, pm_recv, pm_s_aload_n, pm_s_getfield, pm_s_goto, pm_s_iaload, pm_s_iconst, pm_s_ifCond_eq, pm_s_ifCond_ne, pm_s_if_icmp_ne, pm_s_iload_n, pm_s_invokevirtual, pm_s_ireturn, pm_s_istore_n, ct_X4_whyNot, tt_X0_allows, pS, pR, pC, pE, pL, -Int32.not_le, -Int32.not_lt, -Int64.not_le, -Int64.not_lt, sx_1]
          rw [al_let hD (by omega) hcl (lastC_in (hI.1 b (by omega))), pb_eq0]
          refine ⟨fun hl => ?_, fun hl => ?_⟩
          · refine hb68 _ _ _ ?_
            simp [bk_X4_whyNot_0, bk_X4_whyNot_12, bk_X4_whyNot_29, bk_X4_whyNot_30, bk_X4_whyNot_31, bk_X4_whyNot_48, bk_X4_whyNot_49, bk_X4_whyNot_50, bk_X4_whyNot_68, bk_X4_whyNot_81, bk_X4_whyNot_82, pm_arr, pm_call, pm_e_c0, pm_e_c1, pm_e_cti, pm_e_ctl, pm_e_ctr, pm_e_go, pm_e_i, pm_e_ii, pm_e_ldi, pm_e_ldr, pm_e_lk, pm_e_r, pm_e_ri, pm_e_rm0, pm_e_rm1, pm_e_rs0, pm_e_rs1, pm_e_wp0, pm_e_wp1, pm_f2, pm_f3, pm_fld, pm_fv, pm_obj, pm_recv, pm_s_aload_n, pm_s_getfield, pm_s_goto, pm_s_iaload, pm_s_iconst, pm_s_ifCond_eq, pm_s_ifCond_ne, pm_s_if_icmp_ne, pm_s_iload_n, pm_s_invokevirtual, pm_s_ireturn, pm_s_istore_n, ct_X4_whyNot, tt_X0_allows, pS, pR, pC, pE, pL, -Int32.not_le, -Int32.not_lt, -Int64.not_le, -Int64.not_lt, st_0 hp, st_2 hp]
            have hlen := hS.len (show b < 4 by omega)
            simp (disch := omega) only [ni_in, ni_cl, ni_add, ni_mul, ni_sub, ni_lt, ni_le, ni_eq, ni_eq0, ni_lt0, ni_0le, ni_0lt, ni_le0, ni_a1, ni_a3, ni_a7, ni_a15, hS.n (show b < 4 by omega)]
            refine ⟨by omega, fun h0 => ?_, fun h0 => ?_⟩
            · refine hb81 _ _ _ ?_
              simp [bk_X4_whyNot_0, bk_X4_whyNot_12, bk_X4_whyNot_29, bk_X4_whyNot_30, bk_X4_whyNot_31, bk_X4_whyNot_48, bk_X4_whyNot_49, bk_X4_whyNot_50, bk_X4_whyNot_68, bk_X4_whyNot_81, bk_X4_whyNot_82, pm_arr, pm_call, pm_e_c0, pm_e_c1, pm_e_cti, pm_e_ctl, pm_e_ctr, pm_e_go, pm_e_i, pm_e_ii, pm_e_ldi, pm_e_ldr, pm_e_lk, pm_e_r, pm_e_ri, pm_e_rm0, pm_e_rm1, pm_e_rs0, pm_e_rs1, pm_e_wp0, pm_e_wp1, pm_f2, pm_f3, pm_fld, pm_fv, pm_obj, pm_recv, pm_s_aload_n, pm_s_getfield, pm_s_goto, pm_s_iaload, pm_s_iconst, pm_s_ifCond_eq, pm_s_ifCond_ne, pm_s_if_icmp_ne, pm_s_iload_n, pm_s_invokevirtual, pm_s_ireturn, pm_s_istore_n, ct_X4_whyNot, tt_X0_allows, pS, pR, pC, pE, pL, -Int32.not_le, -Int32.not_lt, -Int64.not_le, -Int64.not_lt]
              refine hb82 _ _ _ ?_
              simp [bk_X4_whyNot_0, bk_X4_whyNot_12, bk_X4_whyNot_29, bk_X4_whyNot_30, bk_X4_whyNot_31, bk_X4_whyNot_48, bk_X4_whyNot_49, bk_X4_whyNot_50, bk_X4_whyNot_68, bk_X4_whyNot_81, bk_X4_whyNot_82, pm_arr, pm_call, pm_e_c0, pm_e_c1, pm_e_cti, pm_e_ctl, pm_e_ctr, pm_e_go, pm_e_i, pm_e_ii, pm_e_ldi, pm_e_ldr, pm_e_lk, pm_e_r, pm_e_ri, pm_e_rm0, pm_e_rm1, pm_e_rs0, pm_e_rs1, pm_e_wp0, pm_e_wp1, pm_f2, pm_f3, pm_fld, pm_fv, pm_obj, pm_recv, pm_s_aload_n, pm_s_getfield, pm_s_goto, pm_s_iaload, pm_s_iconst, pm_s_ifCond_eq, pm_s_ifCond_ne, pm_s_if_icmp_ne, pm_s_iload_n, pm_s_invokevirtual, pm_s_ireturn, pm_s_istore_n, ct_X4_whyNot, tt_X0_allows, pS, pR, pC, pE, pL, -Int32.not_le, -Int32.not_lt, -Int64.not_le, -Int64.not_lt]
              have : ¬ S.1 b = [] := fun z => h0 (by rw [z]; rfl)
              simpa [whyF, hc0, hb4, hb5, hl, this] using hT
            · refine hb82 _ _ _ ?_
              simp [bk_X4_whyNot_0, bk_X4_whyNot_12, bk_X4_whyNot_29, bk_X4_whyNot_30, bk_X4_whyNot_31, bk_X4_whyNot_48, bk_X4_whyNot_49, bk_X4_whyNot_50, bk_X4_whyNot_68, bk_X4_whyNot_81, bk_X4_whyNot_82, pm_arr, pm_call, pm_e_c0, pm_e_c1, pm_e_cti, pm_e_ctl, pm_e_ctr, pm_e_go, pm_e_i, pm_e_ii, pm_e_ldi, pm_e_ldr, pm_e_lk, pm_e_r, pm_e_ri, pm_e_rm0, pm_e_rm1, pm_e_rs0, pm_e_rs1, pm_e_wp0, pm_e_wp1, pm_f2, pm_f3, pm_fld, pm_fv, pm_obj, pm_recv, pm_s_aload_n, pm_s_getfield, pm_s_goto, pm_s_iaload, pm_s_iconst, pm_s_ifCond_eq, pm_s_ifCond_ne, pm_s_if_icmp_ne, pm_s_iload_n, pm_s_invokevirtual, pm_s_ireturn, pm_s_istore_n, ct_X4_whyNot, tt_X0_allows, pS, pR, pC, pE, pL, -Int32.not_le, -Int32.not_lt, -Int64.not_le, -Int64.not_lt]
              have : S.1 b = [] := List.length_eq_zero_iff.mp h0
              rw [this] at hl
              simpa [whyF, hc0, hb4, hb5, hl, this] using hT
          · have hl' : letF P (cardF S a) (lastC (S.1 b)) = true := by simpa using hl
            simpa [whyF, hc0, hb4, hb5, hl'] using hT
        · refine ⟨ec, S, P, cardF S a, hp, rfl, hS, hD, ⟨by omega, hcl⟩, ?_⟩
          simp [bk_X4_whyNot_0, bk_X4_whyNot_12, bk_X4_whyNot_29, bk_X4_whyNot_30, bk_X4_whyNot_31, bk_X4_whyNot_48, bk_X4_whyNot_49, bk_X4_whyNot_50, bk_X4_whyNot_68, bk_X4_whyNot_81, bk_X4_whyNot_82, pm_arr, pm_call, pm_e_c0, pm_e_c1, pm_e_cti, pm_e_ctl, pm_e_ctr, pm_e_go, pm_e_i, pm_e_ii, pm_e_ldi, pm_e_ldr, pm_e_lk, pm_e_r, pm_e_ri, pm_e_rm0, pm_e_rm1, pm_e_rs0, pm_e_rs1, pm_e_wp0, pm_e_wp1, pm_f2, pm_f3, pm_fld, pm_fv, pm_obj, pm_recv, pm_s_aload_n, pm_s_getfield, pm_s_goto, pm_s_iaload, pm_s_iconst, pm_s_ifCond_eq, pm_s_ifCond_ne, pm_s_if_icmp_ne, pm_s_iload_n, pm_s_invokevirtual, pm_s_ireturn, pm_s_istore_n, ct_X4_whyNot, tt_X0_allows, pS, pR, pC, pE, pL, -Int32.not_le, -Int32.not_lt, -Int64.not_le, -Int64.not_lt, pb_eq0]
          refine ⟨fun hn => ?_, fun hn => ?_⟩
          · refine hb48 _ _ _ ?_
            simp [bk_X4_whyNot_0, bk_X4_whyNot_12, bk_X4_whyNot_29, bk_X4_whyNot_30, bk_X4_whyNot_31, bk_X4_whyNot_48, bk_X4_whyNot_49, bk_X4_whyNot_50, bk_X4_whyNot_68, bk_X4_whyNot_81, bk_X4_whyNot_82, pm_arr, pm_call, pm_e_c0, pm_e_c1, pm_e_cti, pm_e_ctl, pm_e_ctr, pm_e_go, pm_e_i, pm_e_ii, pm_e_ldi, pm_e_ldr, pm_e_lk, pm_e_r, pm_e_ri, pm_e_rm0, pm_e_rm1, pm_e_rs0, pm_e_rs1, pm_e_wp0, pm_e_wp1, pm_f2, pm_f3, pm_fld, pm_fv, pm_obj, pm_recv, pm_s_aload_n, pm_s_getfield, pm_s_goto, pm_s_iaload, pm_s_iconst, pm_s_ifCond_eq, pm_s_ifCond_ne, pm_s_if_icmp_ne, pm_s_iload_n, pm_s_invokevirtual, pm_s_ireturn, pm_s_istore_n, ct_X4_whyNot, tt_X0_allows, pS, pR, pC, pE, pL, -Int32.not_le, -Int32.not_lt, -Int64.not_le, -Int64.not_lt]
            refine hb49 _ _ _ ?_
            simp [bk_X4_whyNot_0, bk_X4_whyNot_12, bk_X4_whyNot_29, bk_X4_whyNot_30, bk_X4_whyNot_31, bk_X4_whyNot_48, bk_X4_whyNot_49, bk_X4_whyNot_50, bk_X4_whyNot_68, bk_X4_whyNot_81, bk_X4_whyNot_82, pm_arr, pm_call, pm_e_c0, pm_e_c1, pm_e_cti, pm_e_ctl, pm_e_ctr, pm_e_go, pm_e_i, pm_e_ii, pm_e_ldi, pm_e_ldr, pm_e_lk, pm_e_r, pm_e_ri, pm_e_rm0, pm_e_rm1, pm_e_rs0, pm_e_rs1, pm_e_wp0, pm_e_wp1, pm_f2, pm_f3, pm_fld, pm_fv, pm_obj, pm_recv, pm_s_aload_n, pm_s_getfield, pm_s_goto, pm_s_iaload, pm_s_iconst, pm_s_ifCond_eq, pm_s_ifCond_ne, pm_s_if_icmp_ne, pm_s_iload_n, pm_s_invokevirtual, pm_s_ireturn, pm_s_istore_n, ct_X4_whyNot, tt_X0_allows, pS, pR, pC, pE, pL, -Int32.not_le, -Int32.not_lt, -Int64.not_le, -Int64.not_lt]
            simpa [whyF, hc0, hb4, hb5, hn] using hT
          · refine hb49 _ _ _ ?_
            simp [bk_X4_whyNot_0, bk_X4_whyNot_12, bk_X4_whyNot_29, bk_X4_whyNot_30, bk_X4_whyNot_31, bk_X4_whyNot_48, bk_X4_whyNot_49, bk_X4_whyNot_50, bk_X4_whyNot_68, bk_X4_whyNot_81, bk_X4_whyNot_82, pm_arr, pm_call, pm_e_c0, pm_e_c1, pm_e_cti, pm_e_ctl, pm_e_ctr, pm_e_go, pm_e_i, pm_e_ii, pm_e_ldi, pm_e_ldr, pm_e_lk, pm_e_r, pm_e_ri, pm_e_rm0, pm_e_rm1, pm_e_rs0, pm_e_rs1, pm_e_wp0, pm_e_wp1, pm_f2, pm_f3, pm_fld, pm_fv, pm_obj, pm_recv, pm_s_aload_n, pm_s_getfield, pm_s_goto, pm_s_iaload, pm_s_iconst, pm_s_ifCond_eq, pm_s_ifCond_ne, pm_s_if_icmp_ne, pm_s_iload_n, pm_s_invokevirtual, pm_s_ireturn, pm_s_istore_n, ct_X4_whyNot, tt_X0_allows, pS, pR, pC, pE, pL, -Int32.not_le, -Int32.not_lt, -Int64.not_le, -Int64.not_lt]
            simpa [whyF, hc0, hb4, hb5, hn] using hT
      · refine ⟨ec, S, hp, hS, ?_⟩
        simp [bk_X4_whyNot_0, bk_X4_whyNot_12, bk_X4_whyNot_29, bk_X4_whyNot_30, bk_X4_whyNot_31, bk_X4_whyNot_48, bk_X4_whyNot_49, bk_X4_whyNot_50, bk_X4_whyNot_68, bk_X4_whyNot_81, bk_X4_whyNot_82, pm_arr, pm_call, pm_e_c0, pm_e_c1, pm_e_cti, pm_e_ctl, pm_e_ctr, pm_e_go, pm_e_i, pm_e_ii, pm_e_ldi, pm_e_ldr, pm_e_lk, pm_e_r, pm_e_ri, pm_e_rm0, pm_e_rm1, pm_e_rs0, pm_e_rs1, pm_e_wp0, pm_e_wp1, pm_f2, pm_f3, pm_fld, pm_fv, pm_obj, pm_recv, pm_s_aload_n, pm_s_getfield, pm_s_goto, pm_s_iaload, pm_s_iconst, pm_s_ifCond_eq, pm_s_ifCond_ne, pm_s_if_icmp_ne, pm_s_iload_n, pm_s_invokevirtual, pm_s_ireturn, pm_s_istore_n, ct_X4_whyNot, tt_X0_allows, pS, pR, pC, pE, pL, -Int32.not_le, -Int32.not_lt, -Int64.not_le, -Int64.not_lt]
        have hff : (ffI (ffc ec S) = -nI 1) ↔ ffc ec S = 2 := by
          have : ffc ec S = 0 ∨ ffc ec S = 1 ∨ ffc ec S = 2 := by unfold ffc; split <;> (try split) <;> simp
          rcases this with e | e | e <;> rw [e] <;> decide
        refine ⟨fun hn => ?_, fun hn => ?_⟩
        · refine hb29 _ _ _ ?_
          simp [bk_X4_whyNot_0, bk_X4_whyNot_12, bk_X4_whyNot_29, bk_X4_whyNot_30, bk_X4_whyNot_31, bk_X4_whyNot_48, bk_X4_whyNot_49, bk_X4_whyNot_50, bk_X4_whyNot_68, bk_X4_whyNot_81, bk_X4_whyNot_82, pm_arr, pm_call, pm_e_c0, pm_e_c1, pm_e_cti, pm_e_ctl, pm_e_ctr, pm_e_go, pm_e_i, pm_e_ii, pm_e_ldi, pm_e_ldr, pm_e_lk, pm_e_r, pm_e_ri, pm_e_rm0, pm_e_rm1, pm_e_rs0, pm_e_rs1, pm_e_wp0, pm_e_wp1, pm_f2, pm_f3, pm_fld, pm_fv, pm_obj, pm_recv, pm_s_aload_n, pm_s_getfield, pm_s_goto, pm_s_iaload, pm_s_iconst, pm_s_ifCond_eq, pm_s_ifCond_ne, pm_s_if_icmp_ne, pm_s_iload_n, pm_s_invokevirtual, pm_s_ireturn, pm_s_istore_n, ct_X4_whyNot, tt_X0_allows, pS, pR, pC, pE, pL, -Int32.not_le, -Int32.not_lt, -Int64.not_le, -Int64.not_lt]
          refine hb30 _ _ _ ?_
          simp [bk_X4_whyNot_0, bk_X4_whyNot_12, bk_X4_whyNot_29, bk_X4_whyNot_30, bk_X4_whyNot_31, bk_X4_whyNot_48, bk_X4_whyNot_49, bk_X4_whyNot_50, bk_X4_whyNot_68, bk_X4_whyNot_81, bk_X4_whyNot_82, pm_arr, pm_call, pm_e_c0, pm_e_c1, pm_e_cti, pm_e_ctl, pm_e_ctr, pm_e_go, pm_e_i, pm_e_ii, pm_e_ldi, pm_e_ldr, pm_e_lk, pm_e_r, pm_e_ri, pm_e_rm0, pm_e_rm1, pm_e_rs0, pm_e_rs1, pm_e_wp0, pm_e_wp1, pm_f2, pm_f3, pm_fld, pm_fv, pm_obj, pm_recv, pm_s_aload_n, pm_s_getfield, pm_s_goto, pm_s_iaload, pm_s_iconst, pm_s_ifCond_eq, pm_s_ifCond_ne, pm_s_if_icmp_ne, pm_s_iload_n, pm_s_invokevirtual, pm_s_ireturn, pm_s_istore_n, ct_X4_whyNot, tt_X0_allows, pS, pR, pC, pE, pL, -Int32.not_le, -Int32.not_lt, -Int64.not_le, -Int64.not_lt]
          rw [hff] at hn
          simpa [whyF, hc0, hb4, hn] using hT
        · refine hb30 _ _ _ ?_
          simp [bk_X4_whyNot_0, bk_X4_whyNot_12, bk_X4_whyNot_29, bk_X4_whyNot_30, bk_X4_whyNot_31, bk_X4_whyNot_48, bk_X4_whyNot_49, bk_X4_whyNot_50, bk_X4_whyNot_68, bk_X4_whyNot_81, bk_X4_whyNot_82, pm_arr, pm_call, pm_e_c0, pm_e_c1, pm_e_cti, pm_e_ctl, pm_e_ctr, pm_e_go, pm_e_i, pm_e_ii, pm_e_ldi, pm_e_ldr, pm_e_lk, pm_e_r, pm_e_ri, pm_e_rm0, pm_e_rm1, pm_e_rs0, pm_e_rs1, pm_e_wp0, pm_e_wp1, pm_f2, pm_f3, pm_fld, pm_fv, pm_obj, pm_recv, pm_s_aload_n, pm_s_getfield, pm_s_goto, pm_s_iaload, pm_s_iconst, pm_s_ifCond_eq, pm_s_ifCond_ne, pm_s_if_icmp_ne, pm_s_iload_n, pm_s_invokevirtual, pm_s_ireturn, pm_s_istore_n, ct_X4_whyNot, tt_X0_allows, pS, pR, pC, pE, pL, -Int32.not_le, -Int32.not_lt, -Int64.not_le, -Int64.not_lt]
          rw [hff] at hn
          simpa [whyF, hc0, hb4, hn] using hT
    · simpa [whyF, hc0] using hT
  · exact hT.elim
