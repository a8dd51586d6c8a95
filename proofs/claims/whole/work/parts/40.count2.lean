theorem cnt_s (n : Nat) (p : Nat → Bool) : cnt (n + 1) p = cnt n p + (if p n = true then 1 else 0) := rfl
theorem sumN_s (n : Nat) (f : Nat → Nat) : sumN (n + 1) f = sumN n f + f n := rfl
def buryN (P : Pm) (S : St) : Nat := sumN (pC P) (fun i => cnt (S.1 i).length (fun j => bury (pR P) (S.1 i) j))
def tt_X4_buriedCards : pm_T := fun args M k => match args with
  | [.ref p] => ∃ ec S P, isSt p ∧ SdX M p ec S ∧ DkX M P ∧ inD P S ∧ k (some (.int (nI (buryN P S)))) M
  | _ => False
abbrev ct_X4_buriedCards : List pm_C := [(false, 66, 4, 3, (some .boolean), tt_X4_isBuried)]
set_option maxHeartbeats 4000000 in
theorem sm_X4_buriedCards  : pm_Sem SHx yX4_buriedCards cX4_buriedCards 4 (some .int) 4 tt_X4_buriedCards := by
  refine pm_Sem_intro bl_X4_buriedCards ct_X4_buriedCards cs_X4_buriedCards rfl (List.forall_mem_cons.mpr ⟨⟨_, _, _, _, sm_X4_isBuried, by decide, cm_X4_isBuried, by decide +kernel⟩, fun _ h => absurd h List.not_mem_nil⟩) ck_X4_buriedCards (by decide +kernel) (by decide) ?_
  intro X k hX args M hT
  have hb0 := hX 0 bk_X4_buriedCards_0 (List.mem_of_getElem? (i := 0) rfl)
  have hb4 := hX 4 bk_X4_buriedCards_4 (List.mem_of_getElem? (i := 1) rfl)
  have hb17 := hX 17 bk_X4_buriedCards_17 (List.mem_of_getElem? (i := 2) rfl)
  have hb41 := hX 41 bk_X4_buriedCards_41 (List.mem_of_getElem? (i := 3) rfl)
  have hb42 := hX 42 bk_X4_buriedCards_42 (List.mem_of_getElem? (i := 4) rfl)
  have hb50 := hX 50 bk_X4_buriedCards_50 (List.mem_of_getElem? (i := 5) rfl)
  have hb56 := hX 56 bk_X4_buriedCards_56 (List.mem_of_getElem? (i := 6) rfl)
  clear hX
  unfold tt_X4_buriedCards at hT; split at hT
  · next p =>
    obtain ⟨ec, S, ⟨s, r, c, e, w⟩, hp, hS, hD, hI, hT⟩ := hT
    have hP := hD.1.1
    have m5 := hD.1.2.1.2.2.1
    obtain ⟨h1, h2, h3, h4, h5, h6, h7, h8, h9⟩ := hP
    unfold buryN at hT
    dsimp only [pS, pR, pC, pE, pL] at *
    refine ⟨by simp [lg_sl, Value.category], ?_⟩
    have out : X 56 [(1, .int (nI (sumN c (fun i => cnt (S.1 i).length (fun j => bury r (S.1 i) j)))))] [] M := by
      refine hb56 _ _ _ ?_
      simp (maxSteps := 2000000) [bk_X4_buriedCards_0, bk_X4_buriedCards_4, bk_X4_buriedCards_17, bk_X4_buriedCards_41, bk_X4_buriedCards_42, bk_X4_buriedCards_50, bk_X4_buriedCards_56, pm_arr, pm_call, pm_e_c0, pm_e_c1, pm_e_cti, pm_e_ctl, pm_e_ctr, pm_e_go, pm_e_i, pm_e_ii, pm_e_ldi, pm_e_ldr, pm_e_lk, pm_e_r, pm_e_ri, pm_e_rm0, pm_e_rm1, pm_e_rs0, pm_e_rs1, pm_e_wp0, pm_e_wp1, pm_f2, pm_f3, pm_fld, pm_fv, pm_obj, pm_recv, pm_s_aload_n, pm_s_getfield, pm_s_goto, pm_s_iadd, pm_s_iaload, pm_s_iconst, pm_s_ifCond_eq, pm_s_if_icmp_ge, pm_s_iinc, pm_s_iload_n, pm_s_invokevirtual, pm_s_ireturn, pm_s_istore_n, ct_X4_buriedCards, pS, pR, pC, pE, pL, -Int32.not_le, -Int32.not_lt, -Int64.not_le, -Int64.not_lt, -List.getD_eq_getElem?_getD]
      exact hT
    have loop : ∀ (f i : Nat), c ≤ i + f → i ≤ c → X 4 [(0, .ref p), (1, .int (nI (sumN i (fun i => cnt (S.1 i).length (fun j => bury r (S.1 i) j))))), (2, .int (nI i))] [] M := by
      intro f
      induction f with
      | zero =>
        intro i f1 f2
        have e1 : i = c := by omega
        subst e1
        refine hb4 _ _ _ ?_
        simp (maxSteps := 2000000) [bk_X4_buriedCards_0, bk_X4_buriedCards_4, bk_X4_buriedCards_17, bk_X4_buriedCards_41, bk_X4_buriedCards_42, bk_X4_buriedCards_50, bk_X4_buriedCards_56, pm_arr, pm_call, pm_e_c0, pm_e_c1, pm_e_cti, pm_e_ctl, pm_e_ctr, pm_e_go, pm_e_i, pm_e_ii, pm_e_ldi, pm_e_ldr, pm_e_lk, pm_e_r, pm_e_ri, pm_e_rm0, pm_e_rm1, pm_e_rs0, pm_e_rs1, pm_e_wp0, pm_e_wp1, pm_f2, pm_f3, pm_fld, pm_fv, pm_obj, pm_recv, pm_s_aload_n, pm_s_getfield, pm_s_goto, pm_s_iadd, pm_s_iaload, pm_s_iconst, pm_s_ifCond_eq, pm_s_if_icmp_ge, pm_s_iinc, pm_s_iload_n, pm_s_invokevirtual, pm_s_ireturn, pm_s_istore_n, ct_X4_buriedCards, pS, pR, pC, pE, pL, -Int32.not_le, -Int32.not_lt, -Int64.not_le, -Int64.not_lt, -List.getD_eq_getElem?_getD, st_0 hp, sx_1, m5]
        exact out
      | succ f ih =>
        intro i f1 f2
        refine hb4 _ _ _ ?_
        simp (maxSteps := 2000000) [bk_X4_buriedCards_0, bk_X4_buriedCards_4, bk_X4_buriedCards_17, bk_X4_buriedCards_41, bk_X4_buriedCards_42, bk_X4_buriedCards_50, bk_X4_buriedCards_56, pm_arr, pm_call, pm_e_c0, pm_e_c1, pm_e_cti, pm_e_ctl, pm_e_ctr, pm_e_go, pm_e_i, pm_e_ii, pm_e_ldi, pm_e_ldr, pm_e_lk, pm_e_r, pm_e_ri, pm_e_rm0, pm_e_rm1, pm_e_rs0, pm_e_rs1, pm_e_wp0, pm_e_wp1, pm_f2, pm_f3, pm_fld, pm_fv, pm_obj, pm_recv, pm_s_aload_n, pm_s_getfield, pm_s_goto, pm_s_iadd, pm_s_iaload, pm_s_iconst, pm_s_ifCond_eq, pm_s_if_icmp_ge, pm_s_iinc, pm_s_iload_n, pm_s_invokevirtual, pm_s_ireturn, pm_s_istore_n, ct_X4_buriedCards, pS, pR, pC, pE, pL, -Int32.not_le, -Int32.not_lt, -Int64.not_le, -Int64.not_lt, -List.getD_eq_getElem?_getD, st_0 hp, sx_1, m5]
        by_cases hi : i < c
        · have hl := hS.len (show i < 4 by omega)
          simp (disch := omega) only [ni_in, ni_cl, ni_add, ni_mul, ni_sub, ni_lt, ni_le, ni_eq, ni_eq0, ni_lt0, ni_0le, ni_0lt, ni_le0, ni_a1, ni_a3, ni_a7, ni_a15]
          refine ⟨fun h => by omega, fun _ => ?_⟩
          have inner : ∀ (g j : Nat), (S.1 i).length ≤ j + g → 1 ≤ j → (j ≤ (S.1 i).length ∨ ((S.1 i).length = 0 ∧ j = 1)) → X 17 [(0, .ref p), (1, .int (nI (sumN i (fun i => cnt (S.1 i).length (fun j => bury r (S.1 i) j)) + cnt j (fun j => bury r (S.1 i) j)))), (2, .int (nI i)), (3, .int (nI j))] [] M := by
            intro g
            have done : ∀ j, (S.1 i).length ≤ j → (j ≤ (S.1 i).length ∨ ((S.1 i).length = 0 ∧ j = 1)) → X 50 [(0, .ref p), (1, .int (nI (sumN i (fun i => cnt (S.1 i).length (fun j => bury r (S.1 i) j)) + cnt j (fun j => bury r (S.1 i) j)))), (2, .int (nI i))] [] M := by
              intro j g1 g2
              refine hb50 _ _ _ ?_
              simp (maxSteps := 2000000) [bk_X4_buriedCards_0, bk_X4_buriedCards_4, bk_X4_buriedCards_17, bk_X4_buriedCards_41, bk_X4_buriedCards_42, bk_X4_buriedCards_50, bk_X4_buriedCards_56, pm_arr, pm_call, pm_e_c0, pm_e_c1, pm_e_cti, pm_e_ctl, pm_e_ctr, pm_e_go, pm_e_i, pm_e_ii, pm_e_ldi, pm_e_ldr, pm_e_lk, pm_e_r, pm_e_ri, pm_e_rm0, pm_e_rm1, pm_e_rs0, pm_e_rs1, pm_e_wp0, pm_e_wp1, pm_f2, pm_f3, pm_fld, pm_fv, pm_obj, pm_recv, pm_s_aload_n, pm_s_getfield, pm_s_goto, pm_s_iadd, pm_s_iaload, pm_s_iconst, pm_s_ifCond_eq, pm_s_if_icmp_ge, pm_s_iinc, pm_s_iload_n, pm_s_invokevirtual, pm_s_ireturn, pm_s_istore_n, ct_X4_buriedCards, pS, pR, pC, pE, pL, -Int32.not_le, -Int32.not_lt, -Int64.not_le, -Int64.not_lt, -List.getD_eq_getElem?_getD]
              simp only [ni_add]
              have := ih (i + 1) (by omega) (by omega)
              have e1 : cnt (S.1 i).length (fun j => bury r (S.1 i) j) = cnt j (fun j => bury r (S.1 i) j) := by
                rcases g2 with q | ⟨q1, q2⟩
                · rw [show j = (S.1 i).length by omega]
                · rw [q1, q2]; rfl
              rw [sumN_s i] at this
              rw [e1] at this
              exact this
            induction g with
            | zero =>
              intro j g1 g2 g3
              refine hb17 _ _ _ ?_
              simp (maxSteps := 2000000) [bk_X4_buriedCards_0, bk_X4_buriedCards_4, bk_X4_buriedCards_17, bk_X4_buriedCards_41, bk_X4_buriedCards_42, bk_X4_buriedCards_50, bk_X4_buriedCards_56, pm_arr, pm_call, pm_e_c0, pm_e_c1, pm_e_cti, pm_e_ctl, pm_e_ctr, pm_e_go, pm_e_i, pm_e_ii, pm_e_ldi, pm_e_ldr, pm_e_lk, pm_e_r, pm_e_ri, pm_e_rm0, pm_e_rm1, pm_e_rs0, pm_e_rs1, pm_e_wp0, pm_e_wp1, pm_f2, pm_f3, pm_fld, pm_fv, pm_obj, pm_recv, pm_s_aload_n, pm_s_getfield, pm_s_goto, pm_s_iadd, pm_s_iaload, pm_s_iconst, pm_s_ifCond_eq, pm_s_if_icmp_ge, pm_s_iinc, pm_s_iload_n, pm_s_invokevirtual, pm_s_ireturn, pm_s_istore_n, ct_X4_buriedCards, pS, pR, pC, pE, pL, -Int32.not_le, -Int32.not_lt, -Int64.not_le, -Int64.not_lt, -List.getD_eq_getElem?_getD, st_0 hp, st_2 hp]
              simp (disch := omega) only [ni_in, ni_cl, ni_add, ni_mul, ni_sub, ni_lt, ni_le, ni_eq, ni_eq0, ni_lt0, ni_0le, ni_0lt, ni_le0, ni_a1, ni_a3, ni_a7, ni_a15, hS.n (show i < 4 by omega)]
              exact ⟨by omega, fun _ => done j g1 g3, fun h => by omega⟩
            | succ g ihg =>
              intro j g1 g2 g3
              refine hb17 _ _ _ ?_
              simp (maxSteps := 2000000) [bk_X4_buriedCards_0, bk_X4_buriedCards_4, bk_X4_buriedCards_17, bk_X4_buriedCards_41, bk_X4_buriedCards_42, bk_X4_buriedCards_50, bk_X4_buriedCards_56, pm_arr, pm_call, pm_e_c0, pm_e_c1, pm_e_cti, pm_e_ctl, pm_e_ctr, pm_e_go, pm_e_i, pm_e_ii, pm_e_ldi, pm_e_ldr, pm_e_lk, pm_e_r, pm_e_ri, pm_e_rm0, pm_e_rm1, pm_e_rs0, pm_e_rs1, pm_e_wp0, pm_e_wp1, pm_f2, pm_f3, pm_fld, pm_fv, pm_obj, pm_recv, pm_s_aload_n, pm_s_getfield, pm_s_goto, pm_s_iadd, pm_s_iaload, pm_s_iconst, pm_s_ifCond_eq, pm_s_if_icmp_ge, pm_s_iinc, pm_s_iload_n, pm_s_invokevirtual, pm_s_ireturn, pm_s_istore_n, ct_X4_buriedCards, pS, pR, pC, pE, pL, -Int32.not_le, -Int32.not_lt, -Int64.not_le, -Int64.not_lt, -List.getD_eq_getElem?_getD, st_0 hp, st_2 hp]
              simp (disch := omega) only [ni_in, ni_cl, ni_add, ni_mul, ni_sub, ni_lt, ni_le, ni_eq, ni_eq0, ni_lt0, ni_0le, ni_0lt, ni_le0, ni_a1, ni_a3, ni_a7, ni_a15, hS.n (show i < 4 by omega)]
              refine ⟨by omega, fun h => done j (by omega) g3, fun h => ?_⟩
              refine ⟨ec, S, (s, r, c, e, w), i, j, hp, rfl, rfl, hS, hD, hI, by omega, by omega, ?_⟩
              simp (maxSteps := 2000000) [bk_X4_buriedCards_0, bk_X4_buriedCards_4, bk_X4_buriedCards_17, bk_X4_buriedCards_41, bk_X4_buriedCards_42, bk_X4_buriedCards_50, bk_X4_buriedCards_56, pm_arr, pm_call, pm_e_c0, pm_e_c1, pm_e_cti, pm_e_ctl, pm_e_ctr, pm_e_go, pm_e_i, pm_e_ii, pm_e_ldi, pm_e_ldr, pm_e_lk, pm_e_r, pm_e_ri, pm_e_rm0, pm_e_rm1, pm_e_rs0, pm_e_rs1, pm_e_wp0, pm_e_wp1, pm_f2, pm_f3, pm_fld, pm_fv, pm_obj, pm_recv, pm_s_aload_n, pm_s_getfield, pm_s_goto, pm_s_iadd, pm_s_iaload, pm_s_iconst, pm_s_ifCond_eq, pm_s_if_icmp_ge, pm_s_iinc, pm_s_iload_n, pm_s_invokevirtual, pm_s_ireturn, pm_s_istore_n, ct_X4_buriedCards, pS, pR, pC, pE, pL, -Int32.not_le, -Int32.not_lt, -Int64.not_le, -Int64.not_lt, -List.getD_eq_getElem?_getD, pb_eq0]
              refine ⟨fun hb => ?_, fun hb => ?_⟩
              · refine hb41 _ _ _ ?_
                simp (maxSteps := 2000000) [bk_X4_buriedCards_0, bk_X4_buriedCards_4, bk_X4_buriedCards_17, bk_X4_buriedCards_41, bk_X4_buriedCards_42, bk_X4_buriedCards_50, bk_X4_buriedCards_56, pm_arr, pm_call, pm_e_c0, pm_e_c1, pm_e_cti, pm_e_ctl, pm_e_ctr, pm_e_go, pm_e_i, pm_e_ii, pm_e_ldi, pm_e_ldr, pm_e_lk, pm_e_r, pm_e_ri, pm_e_rm0, pm_e_rm1, pm_e_rs0, pm_e_rs1, pm_e_wp0, pm_e_wp1, pm_f2, pm_f3, pm_fld, pm_fv, pm_obj, pm_recv, pm_s_aload_n, pm_s_getfield, pm_s_goto, pm_s_iadd, pm_s_iaload, pm_s_iconst, pm_s_ifCond_eq, pm_s_if_icmp_ge, pm_s_iinc, pm_s_iload_n, pm_s_invokevirtual, pm_s_ireturn, pm_s_istore_n, ct_X4_buriedCards, pS, pR, pC, pE, pL, -Int32.not_le, -Int32.not_lt, -Int64.not_le, -Int64.not_lt, -List.getD_eq_getElem?_getD]
                refine hb42 _ _ _ ?_
                simp (maxSteps := 2000000) [bk_X4_buriedCards_0, bk_X4_buriedCards_4, bk_X4_buriedCards_17, bk_X4_buriedCards_41, bk_X4_buriedCards_42, bk_X4_buriedCards_50, bk_X4_buriedCards_56, pm_arr, pm_call, pm_e_c0, pm_e_c1, pm_e_cti, pm_e_ctl, pm_e_ctr, pm_e_go, pm_e_i, pm_e_ii, pm_e_ldi, pm_e_ldr, pm_e_lk, pm_e_r, pm_e_ri, pm_e_rm0, pm_e_rm1, pm_e_rs0, pm_e_rs1, pm_e_wp0, pm_e_wp1, pm_f2, pm_f3, pm_fld, pm_fv, pm_obj, pm_recv, pm_s_aload_n, pm_s_getfield, pm_s_goto, pm_s_iadd, pm_s_iaload, pm_s_iconst, pm_s_ifCond_eq, pm_s_if_icmp_ge, pm_s_iinc, pm_s_iload_n, pm_s_invokevirtual, pm_s_ireturn, pm_s_istore_n, ct_X4_buriedCards, pS, pR, pC, pE, pL, -Int32.not_le, -Int32.not_lt, -Int64.not_le, -Int64.not_lt, -List.getD_eq_getElem?_getD]
                simp only [ni_add]
                have := ihg (j + 1) (by omega) (by omega) (by omega)
                rw [cnt_s j] at this
                rw [if_neg (by rw [hb]; decide)] at this
                exact this
              · refine hb42 _ _ _ ?_
                simp (maxSteps := 2000000) [bk_X4_buriedCards_0, bk_X4_buriedCards_4, bk_X4_buriedCards_17, bk_X4_buriedCards_41, bk_X4_buriedCards_42, bk_X4_buriedCards_50, bk_X4_buriedCards_56, pm_arr, pm_call, pm_e_c0, pm_e_c1, pm_e_cti, pm_e_ctl, pm_e_ctr, pm_e_go, pm_e_i, pm_e_ii, pm_e_ldi, pm_e_ldr, pm_e_lk, pm_e_r, pm_e_ri, pm_e_rm0, pm_e_rm1, pm_e_rs0, pm_e_rs1, pm_e_wp0, pm_e_wp1, pm_f2, pm_f3, pm_fld, pm_fv, pm_obj, pm_recv, pm_s_aload_n, pm_s_getfield, pm_s_goto, pm_s_iadd, pm_s_iaload, pm_s_iconst, pm_s_ifCond_eq, pm_s_if_icmp_ge, pm_s_iinc, pm_s_iload_n, pm_s_invokevirtual, pm_s_ireturn, pm_s_istore_n, ct_X4_buriedCards, pS, pR, pC, pE, pL, -Int32.not_le, -Int32.not_lt, -Int64.not_le, -Int64.not_lt, -List.getD_eq_getElem?_getD]
                simp only [ni_add]
                have := ihg (j + 1) (by omega) (by omega) (by omega)
                rw [cnt_s j] at this
                rw [if_pos hb, ← Nat.add_assoc] at this
                exact this
          have := inner (S.1 i).length 1 (by omega) (by omega) (by omega)
          have e0 : cnt 1 (fun j => bury r (S.1 i) j) = 0 := by simp [cnt, bury, anyN]
          rw [e0] at this
          exact this
        · have e1 : i = c := by omega
          subst e1
          simp (disch := omega) only [ni_in, ni_cl, ni_add, ni_mul, ni_sub, ni_lt, ni_le, ni_eq, ni_eq0, ni_lt0, ni_0le, ni_0lt, ni_le0, ni_a1, ni_a3, ni_a7, ni_a15]
          exact ⟨fun _ => out, fun h => by omega⟩
    refine hb0 _ _ _ ?_
    simp (maxSteps := 2000000) [bk_X4_buriedCards_0, bk_X4_buriedCards_4, bk_X4_buriedCards_17, bk_X4_buriedCards_41, bk_X4_buriedCards_42, bk_X4_buriedCards_50, bk_X4_buriedCards_56, pm_arr, pm_call, pm_e_c0, pm_e_c1, pm_e_cti, pm_e_ctl, pm_e_ctr, pm_e_go, pm_e_i, pm_e_ii, pm_e_ldi, pm_e_ldr, pm_e_lk, pm_e_r, pm_e_ri, pm_e_rm0, pm_e_rm1, pm_e_rs0, pm_e_rs1, pm_e_wp0, pm_e_wp1, pm_f2, pm_f3, pm_fld, pm_fv, pm_obj, pm_recv, pm_s_aload_n, pm_s_getfield, pm_s_goto, pm_s_iadd, pm_s_iaload, pm_s_iconst, pm_s_ifCond_eq, pm_s_if_icmp_ge, pm_s_iinc, pm_s_iload_n, pm_s_invokevirtual, pm_s_ireturn, pm_s_istore_n, ct_X4_buriedCards, pS, pR, pC, pE, pL, -Int32.not_le, -Int32.not_lt, -Int64.not_le, -Int64.not_lt, -List.getD_eq_getElem?_getD, lv_args]
    exact loop c 0 (by omega) (by omega)
  · exact hT.elim
def safeF (P : Pm) (S : St) (d : Nat) : Bool :=
  if pL P = 1 then true else if pL P = 0 ∨ pL P = 2 then !(anyN (pS P) (fun t => (decide (pL P = 0) || !decide (t % 2 = su (pR P) d % 2)) && decide (S.2.2 t < ra (pR P) d - 1))) else false
def tt_X4_isSafe : pm_T := fun args M k => match args with
  | [.ref p, .int x] => ∃ ec S P d, isSt p ∧ x = nI d ∧ SdX M p ec S ∧ DkX M P ∧ (1 ≤ d ∧ d ≤ pS P * pR P) ∧ k (some (.int (pb (safeF P S d)))) M
  | _ => False
abbrev ct_X4_isSafe : List pm_C := [(false, 134, 0, 3, (some .boolean), tt_X0_suitsTurn)]
set_option maxHeartbeats 4000000 in
theorem sm_X4_isSafe  : pm_Sem SHx yX4_isSafe cX4_isSafe 4 (some .boolean) 2 tt_X4_isSafe := by
  refine pm_Sem_intro bl_X4_isSafe ct_X4_isSafe cs_X4_isSafe rfl (List.forall_mem_cons.mpr ⟨⟨_, _, _, _, sm_X0_suitsTurn, by decide, cm_X0_suitsTurn, by decide +kernel⟩, fun _ h => absurd h List.not_mem_nil⟩) ck_X4_isSafe (by decide +kernel) (by decide) ?_
  intro X k hX args M hT
  have hb0 := hX 0 bk_X4_isSafe_0 (List.mem_of_getElem? (i := 0) rfl)
  have hb13 := hX 13 bk_X4_isSafe_13 (List.mem_of_getElem? (i := 1) rfl)
  have hb36 := hX 36 bk_X4_isSafe_36 (List.mem_of_getElem? (i := 2) rfl)
  have hb38 := hX 38 bk_X4_isSafe_38 (List.mem_of_getElem? (i := 3) rfl)
  have hb79 := hX 79 bk_X4_isSafe_79 (List.mem_of_getElem? (i := 4) rfl)
  have hb83 := hX 83 bk_X4_isSafe_83 (List.mem_of_getElem? (i := 5) rfl)
  have hb84 := hX 84 bk_X4_isSafe_84 (List.mem_of_getElem? (i := 6) rfl)
  have hb111 := hX 111 bk_X4_isSafe_111 (List.mem_of_getElem? (i := 7) rfl)
  have hb117 := hX 117 bk_X4_isSafe_117 (List.mem_of_getElem? (i := 8) rfl)
  clear hX
  unfold tt_X4_isSafe at hT; split at hT
  · next p x =>
    obtain ⟨ec, S, ⟨s, r, c, e, w⟩, d, hp, rfl, hS, hD, ⟨d1, d2⟩, hT⟩ := hT
    have hP := hD.1.1
    obtain ⟨m3, m4, m5, m6, m7⟩ := hD.1.2.1
    have md := hD.1.2.2 d d1 d2
    obtain ⟨h1, h2, h3, h4, h5, h6, h7, h8, h9⟩ := hP
    unfold safeF at hT
    dsimp only [pS, pR, pC, pE, pL] at *
    have sd := su_lt h3 d1 d2
    have rd := ra_le (n := d) h3
    have gd := ra_ge (r := r) (n := d)
    refine ⟨by simp [lg_sl, Value.category], ?_⟩
    have h36 : w = 0 ∨ w = 2 → X 36 [(0, .ref p), (1, .int (nI d))] [] M := by
      intro hw
      rw [if_neg (by omega), if_pos hw] at hT
      generalize hq : (fun t => (decide (w = 0) || !decide (t % 2 = su r d % 2)) && decide (S.2.2 t < ra r d - 1)) = q at hT
      have hqt : ∀ t, q t = ((decide (w = 0) || !decide (t % 2 = su r d % 2)) && decide (S.2.2 t < ra r d - 1)) := fun t => by rw [← hq]
      have loop : ∀ (f t : Nat), s ≤ t + f → t ≤ s → (∀ b, b < t → q b = false) → X 38 [(0, .ref p), (1, .int (nI d)), (2, .int (nI t))] [] M := by
        intro f
        have out : (∀ b, b < s → q b = false) → X 117 [] [] M := by
          intro hA
          refine hb117 _ _ _ ?_
          simp (maxSteps := 2000000) [bk_X4_isSafe_0, bk_X4_isSafe_13, bk_X4_isSafe_36, bk_X4_isSafe_38, bk_X4_isSafe_79, bk_X4_isSafe_83, bk_X4_isSafe_84, bk_X4_isSafe_111, bk_X4_isSafe_117, pm_arr, pm_call, pm_e_c0, pm_e_c1, pm_e_cti, pm_e_ctl, pm_e_ctr, pm_e_go, pm_e_i, pm_e_ii, pm_e_ldi, pm_e_ldr, pm_e_lk, pm_e_r, pm_e_ri, pm_e_rm0, pm_e_rm1, pm_e_rs0, pm_e_rs1, pm_e_wp0, pm_e_wp1, pm_f2, pm_f3, pm_fld, pm_fv, pm_obj, pm_recv, pm_s_aload_n, pm_s_getfield, pm_s_goto, pm_s_iaload, pm_s_iconst, pm_s_ifCond_eq, pm_s_if_icmp_eq, pm_s_if_icmp_ge, pm_s_if_icmp_ne, pm_s_iinc, pm_s_iload_n, pm_s_invokevirtual, pm_s_ireturn, pm_s_istore_n, pm_s_isub, ct_X4_isSafe, tt_X0_suitsTurn, pS, pR, pC, pE, pL, -Int32.not_le, -Int32.not_lt, -Int64.not_le, -Int64.not_lt, -List.getD_eq_getElem?_getD, ni_1]
          rw [anyN_no hA] at hT; exact hT
        induction f with
        | zero =>
          intro t f1 f2 hA
          have e1 : t = s := by omega
          subst e1
          refine hb38 _ _ _ ?_
          simp (maxSteps := 2000000) [bk_X4_isSafe_0, bk_X4_isSafe_13, bk_X4_isSafe_36, bk_X4_isSafe_38, bk_X4_isSafe_79, bk_X4_isSafe_83, bk_X4_isSafe_84, bk_X4_isSafe_111, bk_X4_isSafe_117, pm_arr, pm_call, pm_e_c0, pm_e_c1, pm_e_cti, pm_e_ctl, pm_e_ctr, pm_e_go, pm_e_i, pm_e_ii, pm_e_ldi, pm_e_ldr, pm_e_lk, pm_e_r, pm_e_ri, pm_e_rm0, pm_e_rm1, pm_e_rs0, pm_e_rs1, pm_e_wp0, pm_e_wp1, pm_f2, pm_f3, pm_fld, pm_fv, pm_obj, pm_recv, pm_s_aload_n, pm_s_getfield, pm_s_goto, pm_s_iaload, pm_s_iconst, pm_s_ifCond_eq, pm_s_if_icmp_eq, pm_s_if_icmp_ge, pm_s_if_icmp_ne, pm_s_iinc, pm_s_iload_n, pm_s_invokevirtual, pm_s_ireturn, pm_s_istore_n, pm_s_isub, ct_X4_isSafe, tt_X0_suitsTurn, pS, pR, pC, pE, pL, -Int32.not_le, -Int32.not_lt, -Int64.not_le, -Int64.not_lt, -List.getD_eq_getElem?_getD, st_0 hp, sx_1, m3]
          exact out hA
        | succ f ih =>
          intro t f1 f2 hA
          by_cases ht : t < s
          · have hh := hS.1.2.2 t (by omega)
            have h111 : q t = false → X 111 [(0, .ref p), (1, .int (nI d)), (2, .int (nI t))] [] M := by
              intro hq
              refine hb111 _ _ _ ?_
              simp (maxSteps := 2000000) [bk_X4_isSafe_0, bk_X4_isSafe_13, bk_X4_isSafe_36, bk_X4_isSafe_38, bk_X4_isSafe_79, bk_X4_isSafe_83, bk_X4_isSafe_84, bk_X4_isSafe_111, bk_X4_isSafe_117, pm_arr, pm_call, pm_e_c0, pm_e_c1, pm_e_cti, pm_e_ctl, pm_e_ctr, pm_e_go, pm_e_i, pm_e_ii, pm_e_ldi, pm_e_ldr, pm_e_lk, pm_e_r, pm_e_ri, pm_e_rm0, pm_e_rm1, pm_e_rs0, pm_e_rs1, pm_e_wp0, pm_e_wp1, pm_f2, pm_f3, pm_fld, pm_fv, pm_obj, pm_recv, pm_s_aload_n, pm_s_getfield, pm_s_goto, pm_s_iaload, pm_s_iconst, pm_s_ifCond_eq, pm_s_if_icmp_eq, pm_s_if_icmp_ge, pm_s_if_icmp_ne, pm_s_iinc, pm_s_iload_n, pm_s_invokevirtual, pm_s_ireturn, pm_s_istore_n, pm_s_isub, ct_X4_isSafe, tt_X0_suitsTurn, pS, pR, pC, pE, pL, -Int32.not_le, -Int32.not_lt, -Int64.not_le, -Int64.not_lt, -List.getD_eq_getElem?_getD]
              simp only [ni_add]
              refine ih (t + 1) (by omega) (by omega) (fun b hb => ?_)
              rcases Nat.lt_or_ge b t with z | z
              · exact hA b z
              · have : b = t := by omega
                subst this; exact hq
            have h84 : ∀ b : Bool, b = (decide (w = 0) || !decide (t % 2 = su r d % 2)) → X 84 [(0, .ref p), (1, .int (nI d)), (2, .int (nI t))] [.int (pb b)] M := by
              intro b eb
              refine hb84 _ _ _ ?_
              simp (maxSteps := 2000000) [bk_X4_isSafe_0, bk_X4_isSafe_13, bk_X4_isSafe_36, bk_X4_isSafe_38, bk_X4_isSafe_79, bk_X4_isSafe_83, bk_X4_isSafe_84, bk_X4_isSafe_111, bk_X4_isSafe_117, pm_arr, pm_call, pm_e_c0, pm_e_c1, pm_e_cti, pm_e_ctl, pm_e_ctr, pm_e_go, pm_e_i, pm_e_ii, pm_e_ldi, pm_e_ldr, pm_e_lk, pm_e_r, pm_e_ri, pm_e_rm0, pm_e_rm1, pm_e_rs0, pm_e_rs1, pm_e_wp0, pm_e_wp1, pm_f2, pm_f3, pm_fld, pm_fv, pm_obj, pm_recv, pm_s_aload_n, pm_s_getfield, pm_s_goto, pm_s_iaload, pm_s_iconst, pm_s_ifCond_eq, pm_s_if_icmp_eq, pm_s_if_icmp_ge, pm_s_if_icmp_ne, pm_s_iinc, pm_s_iload_n, pm_s_invokevirtual, pm_s_ireturn, pm_s_istore_n, pm_s_isub, ct_X4_isSafe, tt_X0_suitsTurn, pS, pR, pC, pE, pL, -Int32.not_le, -Int32.not_lt, -Int64.not_le, -Int64.not_lt, -List.getD_eq_getElem?_getD, pb_eq0, st_0 hp, st_4 hp, sx_1, sx_3]
              simp (disch := omega) only [ni_in, ni_cl, ni_add, ni_mul, ni_sub, ni_lt, ni_le, ni_eq, ni_eq0, ni_lt0, ni_0le, ni_0lt, ni_le0, ni_a1, ni_a3, ni_a7, ni_a15, hS.h (show t < 4 by omega), md.2]
              refine ⟨fun hb => h111 (by rw [hqt, ← eb, hb]; rfl), fun hb => ?_⟩
              repeat refine ⟨by omega, ?_⟩
              refine ⟨fun h => h111 (by rw [hqt, ← eb, hb, decide_eq_false (by omega)]; rfl), fun h => ?_⟩
              have : anyN s q = true := anyN_iff.mpr ⟨t, ht, by rw [hqt, ← eb, hb, decide_eq_true (by omega)]; rfl⟩
              rw [this] at hT
              first | exact hT | exact ⟨Or.inl rfl, hT⟩ | exact ⟨Or.inr rfl, hT⟩ | exact ⟨Or.inl trivial, hT⟩ | exact ⟨Or.inr trivial, hT⟩
            refine hb38 _ _ _ ?_
            simp (maxSteps := 2000000) [bk_X4_isSafe_0, bk_X4_isSafe_13, bk_X4_isSafe_36, bk_X4_isSafe_38, bk_X4_isSafe_79, bk_X4_isSafe_83, bk_X4_isSafe_84, bk_X4_isSafe_111, bk_X4_isSafe_117, pm_arr, pm_call, pm_e_c0, pm_e_c1, pm_e_cti, pm_e_ctl, pm_e_ctr, pm_e_go, pm_e_i, pm_e_ii, pm_e_ldi, pm_e_ldr, pm_e_lk, pm_e_r, pm_e_ri, pm_e_rm0, pm_e_rm1, pm_e_rs0, pm_e_rs1, pm_e_wp0, pm_e_wp1, pm_f2, pm_f3, pm_fld, pm_fv, pm_obj, pm_recv, pm_s_aload_n, pm_s_getfield, pm_s_goto, pm_s_iaload, pm_s_iconst, pm_s_ifCond_eq, pm_s_if_icmp_eq, pm_s_if_icmp_ge, pm_s_if_icmp_ne, pm_s_iinc, pm_s_iload_n, pm_s_invokevirtual, pm_s_ireturn, pm_s_istore_n, pm_s_isub, ct_X4_isSafe, tt_X0_suitsTurn, pS, pR, pC, pE, pL, -Int32.not_le, -Int32.not_lt, -Int64.not_le, -Int64.not_lt, -List.getD_eq_getElem?_getD, st_0 hp, sx_1, sx_2, m3, m7]
            simp (disch := omega) only [ni_in, ni_cl, ni_add, ni_mul, ni_sub, ni_lt, ni_le, ni_eq, ni_eq0, ni_lt0, ni_0le, ni_0lt, ni_le0, ni_a1, ni_a3, ni_a7, ni_a15, md.1]
            refine ⟨fun h => by omega, fun _ => ⟨fun h => ?_, fun h => ?_⟩⟩
            · refine hb79 _ _ _ ?_
              simp (maxSteps := 2000000) [bk_X4_isSafe_0, bk_X4_isSafe_13, bk_X4_isSafe_36, bk_X4_isSafe_38, bk_X4_isSafe_79, bk_X4_isSafe_83, bk_X4_isSafe_84, bk_X4_isSafe_111, bk_X4_isSafe_117, pm_arr, pm_call, pm_e_c0, pm_e_c1, pm_e_cti, pm_e_ctl, pm_e_ctr, pm_e_go, pm_e_i, pm_e_ii, pm_e_ldi, pm_e_ldr, pm_e_lk, pm_e_r, pm_e_ri, pm_e_rm0, pm_e_rm1, pm_e_rs0, pm_e_rs1, pm_e_wp0, pm_e_wp1, pm_f2, pm_f3, pm_fld, pm_fv, pm_obj, pm_recv, pm_s_aload_n, pm_s_getfield, pm_s_goto, pm_s_iaload, pm_s_iconst, pm_s_ifCond_eq, pm_s_if_icmp_eq, pm_s_if_icmp_ge, pm_s_if_icmp_ne, pm_s_iinc, pm_s_iload_n, pm_s_invokevirtual, pm_s_ireturn, pm_s_istore_n, pm_s_isub, ct_X4_isSafe, tt_X0_suitsTurn, pS, pR, pC, pE, pL, -Int32.not_le, -Int32.not_lt, -Int64.not_le, -Int64.not_lt, -List.getD_eq_getElem?_getD]
              exact h84 true (by simp [h])
            · refine ⟨by omega, ?_⟩
              simp only [pb_eq0]
              refine ⟨fun h' => ?_, fun h' => ?_⟩
              · refine hb83 _ _ _ ?_
                simp (maxSteps := 2000000) [bk_X4_isSafe_0, bk_X4_isSafe_13, bk_X4_isSafe_36, bk_X4_isSafe_38, bk_X4_isSafe_79, bk_X4_isSafe_83, bk_X4_isSafe_84, bk_X4_isSafe_111, bk_X4_isSafe_117, pm_arr, pm_call, pm_e_c0, pm_e_c1, pm_e_cti, pm_e_ctl, pm_e_ctr, pm_e_go, pm_e_i, pm_e_ii, pm_e_ldi, pm_e_ldr, pm_e_lk, pm_e_r, pm_e_ri, pm_e_rm0, pm_e_rm1, pm_e_rs0, pm_e_rs1, pm_e_wp0, pm_e_wp1, pm_f2, pm_f3, pm_fld, pm_fv, pm_obj, pm_recv, pm_s_aload_n, pm_s_getfield, pm_s_goto, pm_s_iaload, pm_s_iconst, pm_s_ifCond_eq, pm_s_if_icmp_eq, pm_s_if_icmp_ge, pm_s_if_icmp_ne, pm_s_iinc, pm_s_iload_n, pm_s_invokevirtual, pm_s_ireturn, pm_s_istore_n, pm_s_isub, ct_X4_isSafe, tt_X0_suitsTurn, pS, pR, pC, pE, pL, -Int32.not_le, -Int32.not_lt, -Int64.not_le, -Int64.not_lt, -List.getD_eq_getElem?_getD]
                exact h84 false (by rw [decide_eq_false h, Bool.false_or, h'])
              · refine hb79 _ _ _ ?_
                simp (maxSteps := 2000000) [bk_X4_isSafe_0, bk_X4_isSafe_13, bk_X4_isSafe_36, bk_X4_isSafe_38, bk_X4_isSafe_79, bk_X4_isSafe_83, bk_X4_isSafe_84, bk_X4_isSafe_111, bk_X4_isSafe_117, pm_arr, pm_call, pm_e_c0, pm_e_c1, pm_e_cti, pm_e_ctl, pm_e_ctr, pm_e_go, pm_e_i, pm_e_ii, pm_e_ldi, pm_e_ldr, pm_e_lk, pm_e_r, pm_e_ri, pm_e_rm0, pm_e_rm1, pm_e_rs0, pm_e_rs1, pm_e_wp0, pm_e_wp1, pm_f2, pm_f3, pm_fld, pm_fv, pm_obj, pm_recv, pm_s_aload_n, pm_s_getfield, pm_s_goto, pm_s_iaload, pm_s_iconst, pm_s_ifCond_eq, pm_s_if_icmp_eq, pm_s_if_icmp_ge, pm_s_if_icmp_ne, pm_s_iinc, pm_s_iload_n, pm_s_invokevirtual, pm_s_ireturn, pm_s_istore_n, pm_s_isub, ct_X4_isSafe, tt_X0_suitsTurn, pS, pR, pC, pE, pL, -Int32.not_le, -Int32.not_lt, -Int64.not_le, -Int64.not_lt, -List.getD_eq_getElem?_getD]
                have h'' : (!decide (t % 2 = su r d % 2)) = true := by simpa using h'
                exact h84 true (by rw [h'']; simp)
          · have e1 : t = s := by omega
            subst e1
            refine hb38 _ _ _ ?_
            simp (maxSteps := 2000000) [bk_X4_isSafe_0, bk_X4_isSafe_13, bk_X4_isSafe_36, bk_X4_isSafe_38, bk_X4_isSafe_79, bk_X4_isSafe_83, bk_X4_isSafe_84, bk_X4_isSafe_111, bk_X4_isSafe_117, pm_arr, pm_call, pm_e_c0, pm_e_c1, pm_e_cti, pm_e_ctl, pm_e_ctr, pm_e_go, pm_e_i, pm_e_ii, pm_e_ldi, pm_e_ldr, pm_e_lk, pm_e_r, pm_e_ri, pm_e_rm0, pm_e_rm1, pm_e_rs0, pm_e_rs1, pm_e_wp0, pm_e_wp1, pm_f2, pm_f3, pm_fld, pm_fv, pm_obj, pm_recv, pm_s_aload_n, pm_s_getfield, pm_s_goto, pm_s_iaload, pm_s_iconst, pm_s_ifCond_eq, pm_s_if_icmp_eq, pm_s_if_icmp_ge, pm_s_if_icmp_ne, pm_s_iinc, pm_s_iload_n, pm_s_invokevirtual, pm_s_ireturn, pm_s_istore_n, pm_s_isub, ct_X4_isSafe, tt_X0_suitsTurn, pS, pR, pC, pE, pL, -Int32.not_le, -Int32.not_lt, -Int64.not_le, -Int64.not_lt, -List.getD_eq_getElem?_getD, st_0 hp, sx_1, m3]
            exact out hA
      refine hb36 _ _ _ ?_
      simp (maxSteps := 2000000) [bk_X4_isSafe_0, bk_X4_isSafe_13, bk_X4_isSafe_36, bk_X4_isSafe_38, bk_X4_isSafe_79, bk_X4_isSafe_83, bk_X4_isSafe_84, bk_X4_isSafe_111, bk_X4_isSafe_117, pm_arr, pm_call, pm_e_c0, pm_e_c1, pm_e_cti, pm_e_ctl, pm_e_ctr, pm_e_go, pm_e_i, pm_e_ii, pm_e_ldi, pm_e_ldr, pm_e_lk, pm_e_r, pm_e_ri, pm_e_rm0, pm_e_rm1, pm_e_rs0, pm_e_rs1, pm_e_wp0, pm_e_wp1, pm_f2, pm_f3, pm_fld, pm_fv, pm_obj, pm_recv, pm_s_aload_n, pm_s_getfield, pm_s_goto, pm_s_iaload, pm_s_iconst, pm_s_ifCond_eq, pm_s_if_icmp_eq, pm_s_if_icmp_ge, pm_s_if_icmp_ne, pm_s_iinc, pm_s_iload_n, pm_s_invokevirtual, pm_s_ireturn, pm_s_istore_n, pm_s_isub, ct_X4_isSafe, tt_X0_suitsTurn, pS, pR, pC, pE, pL, -Int32.not_le, -Int32.not_lt, -Int64.not_le, -Int64.not_lt, -List.getD_eq_getElem?_getD]
      exact loop s 0 (by omega) (by omega) (fun b hb => by omega)
    refine hb0 _ _ _ ?_
    simp (maxSteps := 2000000) [bk_X4_isSafe_0, bk_X4_isSafe_13, bk_X4_isSafe_36, bk_X4_isSafe_38, bk_X4_isSafe_79, bk_X4_isSafe_83, bk_X4_isSafe_84, bk_X4_isSafe_111, bk_X4_isSafe_117, pm_arr, pm_call, pm_e_c0, pm_e_c1, pm_e_cti, pm_e_ctl, pm_e_ctr, pm_e_go, pm_e_i, pm_e_ii, pm_e_ldi, pm_e_ldr, pm_e_lk, pm_e_r, pm_e_ri, pm_e_rm0, pm_e_rm1, pm_e_rs0, pm_e_rs1, pm_e_wp0, pm_e_wp1, pm_f2, pm_f3, pm_fld, pm_fv, pm_obj, pm_recv, pm_s_aload_n, pm_s_getfield, pm_s_goto, pm_s_iaload, pm_s_iconst, pm_s_ifCond_eq, pm_s_if_icmp_eq, pm_s_if_icmp_ge, pm_s_if_icmp_ne, pm_s_iinc, pm_s_iload_n, pm_s_invokevirtual, pm_s_ireturn, pm_s_istore_n, pm_s_isub, ct_X4_isSafe, tt_X0_suitsTurn, pS, pR, pC, pE, pL, -Int32.not_le, -Int32.not_lt, -Int64.not_le, -Int64.not_lt, -List.getD_eq_getElem?_getD, lv_args, st_0 hp, sx_1, m7]
    simp (disch := omega) only [ni_in, ni_cl, ni_add, ni_mul, ni_sub, ni_lt, ni_le, ni_eq, ni_eq0, ni_lt0, ni_0le, ni_0lt, ni_le0, ni_a1, ni_a3, ni_a7, ni_a15]
    refine ⟨fun hw1 => ?_, fun hw1 => ?_⟩
    · refine hb13 _ _ _ ?_
      simp (maxSteps := 2000000) [bk_X4_isSafe_0, bk_X4_isSafe_13, bk_X4_isSafe_36, bk_X4_isSafe_38, bk_X4_isSafe_79, bk_X4_isSafe_83, bk_X4_isSafe_84, bk_X4_isSafe_111, bk_X4_isSafe_117, pm_arr, pm_call, pm_e_c0, pm_e_c1, pm_e_cti, pm_e_ctl, pm_e_ctr, pm_e_go, pm_e_i, pm_e_ii, pm_e_ldi, pm_e_ldr, pm_e_lk, pm_e_r, pm_e_ri, pm_e_rm0, pm_e_rm1, pm_e_rs0, pm_e_rs1, pm_e_wp0, pm_e_wp1, pm_f2, pm_f3, pm_fld, pm_fv, pm_obj, pm_recv, pm_s_aload_n, pm_s_getfield, pm_s_goto, pm_s_iaload, pm_s_iconst, pm_s_ifCond_eq, pm_s_if_icmp_eq, pm_s_if_icmp_ge, pm_s_if_icmp_ne, pm_s_iinc, pm_s_iload_n, pm_s_invokevirtual, pm_s_ireturn, pm_s_istore_n, pm_s_isub, ct_X4_isSafe, tt_X0_suitsTurn, pS, pR, pC, pE, pL, -Int32.not_le, -Int32.not_lt, -Int64.not_le, -Int64.not_lt, -List.getD_eq_getElem?_getD, st_0 hp, sx_1, m7]
      simp (disch := omega) only [ni_in, ni_cl, ni_add, ni_mul, ni_sub, ni_lt, ni_le, ni_eq, ni_eq0, ni_lt0, ni_0le, ni_0lt, ni_le0, ni_a1, ni_a3, ni_a7, ni_a15]
      refine ⟨fun h => h36 (Or.inl h), fun h => ⟨fun h' => h36 (Or.inr h'), fun h' => ?_⟩⟩
      rw [if_neg hw1, if_neg (by omega)] at hT
      first | exact hT | exact ⟨Or.inl rfl, hT⟩ | exact ⟨Or.inr rfl, hT⟩ | exact ⟨Or.inl trivial, hT⟩ | exact ⟨Or.inr trivial, hT⟩
    · rw [if_pos hw1] at hT
      first | exact hT | exact ⟨Or.inl rfl, hT⟩ | exact ⟨Or.inr rfl, hT⟩ | exact ⟨Or.inl trivial, hT⟩ | exact ⟨Or.inr trivial, hT⟩
  · exact hT.elim
