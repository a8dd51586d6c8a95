/-- a move's name, for small numbers -/
def nmN (P : Pm) (ec a b : Nat) : Bool :=
  if b = 4 then decide (a < pC P)
  else (decide (a < pC P) || (decide (4 ≤ a) && decide (a < 4 + ec))) && ((decide (b < pC P) && !decide (b = a)) || decide (b = 5))
theorem nmF_n {P : Pm} (hP : okP P) {ec a b : Nat} (he : ec ≤ 2) (ha : a < 2 ^ 30) (hb : b < 2 ^ 30) : nmF (nI (pC P)) (nI ec) (nI a) (nI b) = nmN P ec a b := by
  obtain ⟨h1, h2, h3, h4, h5, h6, h7, h8, h9⟩ := hP
  have e1 : wi (nI a) (nI 0) (nI (pC P) - nI 1) = decide (a < pC P) := by
    rw [ni_sub h6, wi_n (by omega) (by omega) (by omega)]
    by_cases q : a < pC P <;> simp [q] <;> omega
  have e2 : wi (nI b) (nI 0) (nI (pC P) - nI 1) = decide (b < pC P) := by
    rw [ni_sub h6, wi_n (by omega) (by omega) (by omega)]
    by_cases q : b < pC P <;> simp [q] <;> omega
  have e3 : wi (nI a) (nI 4) (nI 4 + nI ec - nI 1) = (decide (4 ≤ a) && decide (a < 4 + ec)) := by
    rw [ni_add, ni_sub (by omega), wi_n (by omega) (by omega) (by omega)]
    congr 1; exact decide_eq_decide.mpr (by omega)
  unfold nmF nmN
  simp only [e1, e2, e3, ni_eq (show b < 2 ^ 31 by omega) (show 4 < 2 ^ 31 by omega), ni_eq (show b < 2 ^ 31 by omega) (show a < 2 ^ 31 by omega), ni_eq (show b < 2 ^ 31 by omega) (show 5 < 2 ^ 31 by omega)]
def canN (P : Pm) (ec : Nat) (S : St) (a b : Nat) : Bool := nmN P ec a b && decide (whyF P ec S a b = 0)
theorem whyF_le (P : Pm) (ec : Nat) (S : St) (a b : Nat) : whyF P ec S a b ≤ 5 := by
  unfold whyF; repeat' split
  all_goals omega
def movesN (P : Pm) (ec : Nat) (S : St) : Nat := sumN 6 (fun a => cnt 6 (fun b => canN P ec S a b))
def tt_X4_possibleMoves : pm_T := fun args M k => match args with
  | [.ref p] => ∃ ec S P, isSt p ∧ SdX M p ec S ∧ DkX M P ∧ inD P S ∧ k (some (.int (nI (movesN P ec S)))) M
  | _ => False
abbrev ct_X4_possibleMoves : List pm_C := [(false, 96, 4, 3, (some .boolean), tt_X4_isNamed), (false, 99, 4, 3, (some .int), tt_X4_whyNot)]
set_option maxHeartbeats 4000000 in
theorem sm_X4_possibleMoves  : pm_Sem SHx yX4_possibleMoves cX4_possibleMoves 4 (some .int) 4 tt_X4_possibleMoves := by
  refine pm_Sem_intro bl_X4_possibleMoves ct_X4_possibleMoves cs_X4_possibleMoves rfl (List.forall_mem_cons.mpr ⟨⟨_, _, _, _, sm_X4_isNamed, by decide, cm_X4_isNamed, by decide +kernel⟩, List.forall_mem_cons.mpr ⟨⟨_, _, _, _, sm_X4_whyNot, by decide, cm_X4_whyNot, by decide +kernel⟩, fun _ h => absurd h List.not_mem_nil⟩⟩) ck_X4_possibleMoves (by decide +kernel) (by decide) ?_
  intro X k hX args M hT
  have hb0 := hX 0 bk_X4_possibleMoves_0 (List.mem_of_getElem? (i := 0) rfl)
  have hb4 := hX 4 bk_X4_possibleMoves_4 (List.mem_of_getElem? (i := 1) rfl)
  have hb12 := hX 12 bk_X4_possibleMoves_12 (List.mem_of_getElem? (i := 2) rfl)
  have hb41 := hX 41 bk_X4_possibleMoves_41 (List.mem_of_getElem? (i := 3) rfl)
  have hb42 := hX 42 bk_X4_possibleMoves_42 (List.mem_of_getElem? (i := 4) rfl)
  have hb50 := hX 50 bk_X4_possibleMoves_50 (List.mem_of_getElem? (i := 5) rfl)
  have hb56 := hX 56 bk_X4_possibleMoves_56 (List.mem_of_getElem? (i := 6) rfl)
  clear hX
  unfold tt_X4_possibleMoves at hT; split at hT
  · next p =>
    obtain ⟨ec, S, P, hp, hS, hD, hI, hT⟩ := hT
    have hP := hD.1.1
    have m5 := hD.1.2.1.2.2.1
    have hcc := hS.2.2.1
    unfold movesN at hT
    refine ⟨by simp [lg_sl, Value.category], ?_⟩
    have out : X 56 [(1, .int (nI (sumN 6 (fun a => cnt 6 (fun b => canN P ec S a b)))))] [] M := by
      refine hb56 _ _ _ ?_
      simp (maxSteps := 2000000) [bk_X4_possibleMoves_0, bk_X4_possibleMoves_4, bk_X4_possibleMoves_12, bk_X4_possibleMoves_41, bk_X4_possibleMoves_42, bk_X4_possibleMoves_50, bk_X4_possibleMoves_56, pm_call, pm_e_c0, pm_e_c1, pm_e_cti, pm_e_ctl, pm_e_ctr, pm_e_go, pm_e_i, pm_e_ii, pm_e_ldi, pm_e_ldr, pm_e_lk, pm_e_rm0, pm_e_rm1, pm_e_rs0, pm_e_rs1, pm_e_wp0, pm_e_wp1, pm_f2, pm_f3, pm_obj, pm_recv, pm_s_aload_n, pm_s_bipush, pm_s_goto, pm_s_iadd, pm_s_iconst, pm_s_ifCond_eq, pm_s_ifCond_ne, pm_s_if_icmp_ge, pm_s_iinc, pm_s_iload_n, pm_s_invokevirtual, pm_s_ireturn, pm_s_istore_n, ct_X4_possibleMoves, pS, pR, pC, pE, pL, -Int32.not_le, -Int32.not_lt, -Int64.not_le, -Int64.not_lt, -List.getD_eq_getElem?_getD]
      exact hT
    have loop : ∀ (f a : Nat), 6 ≤ a + f → a ≤ 6 → X 4 [(0, .ref p), (1, .int (nI (sumN a (fun a => cnt 6 (fun b => canN P ec S a b))))), (2, .int (nI a))] [] M := by
      intro f
      induction f with
      | zero =>
        intro a f1 f2
        have e1 : a = 6 := by omega
        subst e1
        refine hb4 _ _ _ ?_
        simp (maxSteps := 2000000) [bk_X4_possibleMoves_0, bk_X4_possibleMoves_4, bk_X4_possibleMoves_12, bk_X4_possibleMoves_41, bk_X4_possibleMoves_42, bk_X4_possibleMoves_50, bk_X4_possibleMoves_56, pm_call, pm_e_c0, pm_e_c1, pm_e_cti, pm_e_ctl, pm_e_ctr, pm_e_go, pm_e_i, pm_e_ii, pm_e_ldi, pm_e_ldr, pm_e_lk, pm_e_rm0, pm_e_rm1, pm_e_rs0, pm_e_rs1, pm_e_wp0, pm_e_wp1, pm_f2, pm_f3, pm_obj, pm_recv, pm_s_aload_n, pm_s_bipush, pm_s_goto, pm_s_iadd, pm_s_iconst, pm_s_ifCond_eq, pm_s_ifCond_ne, pm_s_if_icmp_ge, pm_s_iinc, pm_s_iload_n, pm_s_invokevirtual, pm_s_ireturn, pm_s_istore_n, ct_X4_possibleMoves, pS, pR, pC, pE, pL, -Int32.not_le, -Int32.not_lt, -Int64.not_le, -Int64.not_lt, -List.getD_eq_getElem?_getD]
        exact out
      | succ f ih =>
        intro a f1 f2
        refine hb4 _ _ _ ?_
        simp (maxSteps := 2000000) [bk_X4_possibleMoves_0, bk_X4_possibleMoves_4, bk_X4_possibleMoves_12, bk_X4_possibleMoves_41, bk_X4_possibleMoves_42, bk_X4_possibleMoves_50, bk_X4_possibleMoves_56, pm_call, pm_e_c0, pm_e_c1, pm_e_cti, pm_e_ctl, pm_e_ctr, pm_e_go, pm_e_i, pm_e_ii, pm_e_ldi, pm_e_ldr, pm_e_lk, pm_e_rm0, pm_e_rm1, pm_e_rs0, pm_e_rs1, pm_e_wp0, pm_e_wp1, pm_f2, pm_f3, pm_obj, pm_recv, pm_s_aload_n, pm_s_bipush, pm_s_goto, pm_s_iadd, pm_s_iconst, pm_s_ifCond_eq, pm_s_ifCond_ne, pm_s_if_icmp_ge, pm_s_iinc, pm_s_iload_n, pm_s_invokevirtual, pm_s_ireturn, pm_s_istore_n, ct_X4_possibleMoves, pS, pR, pC, pE, pL, -Int32.not_le, -Int32.not_lt, -Int64.not_le, -Int64.not_lt, -List.getD_eq_getElem?_getD]
        by_cases ha : a < 6
        · simp (disch := omega) only [ni_in, ni_cl, ni_add, ni_mul, ni_sub, ni_lt, ni_le, ni_eq, ni_eq0, ni_lt0, ni_0le, ni_0lt, ni_le0, ni_a1, ni_a3, ni_a7, ni_a15]
          refine ⟨fun h => by omega, fun _ => ?_⟩
          have inner : ∀ (g b : Nat), 6 ≤ b + g → b ≤ 6 → X 12 [(0, .ref p), (1, .int (nI (sumN a (fun a => cnt 6 (fun b => canN P ec S a b)) + cnt b (fun b => canN P ec S a b)))), (2, .int (nI a)), (3, .int (nI b))] [] M := by
            intro g
            have done : X 50 [(0, .ref p), (1, .int (nI (sumN a (fun a => cnt 6 (fun b => canN P ec S a b)) + cnt 6 (fun b => canN P ec S a b)))), (2, .int (nI a))] [] M := by
              refine hb50 _ _ _ ?_
              simp (maxSteps := 2000000) [bk_X4_possibleMoves_0, bk_X4_possibleMoves_4, bk_X4_possibleMoves_12, bk_X4_possibleMoves_41, bk_X4_possibleMoves_42, bk_X4_possibleMoves_50, bk_X4_possibleMoves_56, pm_call, pm_e_c0, pm_e_c1, pm_e_cti, pm_e_ctl, pm_e_ctr, pm_e_go, pm_e_i, pm_e_ii, pm_e_ldi, pm_e_ldr, pm_e_lk, pm_e_rm0, pm_e_rm1, pm_e_rs0, pm_e_rs1, pm_e_wp0, pm_e_wp1, pm_f2, pm_f3, pm_obj, pm_recv, pm_s_aload_n, pm_s_bipush, pm_s_goto, pm_s_iadd, pm_s_iconst, pm_s_ifCond_eq, pm_s_ifCond_ne, pm_s_if_icmp_ge, pm_s_iinc, pm_s_iload_n, pm_s_invokevirtual, pm_s_ireturn, pm_s_istore_n, ct_X4_possibleMoves, pS, pR, pC, pE, pL, -Int32.not_le, -Int32.not_lt, -Int64.not_le, -Int64.not_lt, -List.getD_eq_getElem?_getD]
              simp only [ni_add]
              exact ih (a + 1) (by omega) (by omega)
            induction g with
            | zero =>
              intro b g1 g2
              have e1 : b = 6 := by omega
              subst e1
              refine hb12 _ _ _ ?_
              simp (maxSteps := 2000000) [bk_X4_possibleMoves_0, bk_X4_possibleMoves_4, bk_X4_possibleMoves_12, bk_X4_possibleMoves_41, bk_X4_possibleMoves_42, bk_X4_possibleMoves_50, bk_X4_possibleMoves_56, pm_call, pm_e_c0, pm_e_c1, pm_e_cti, pm_e_ctl, pm_e_ctr, pm_e_go, pm_e_i, pm_e_ii, pm_e_ldi, pm_e_ldr, pm_e_lk, pm_e_rm0, pm_e_rm1, pm_e_rs0, pm_e_rs1, pm_e_wp0, pm_e_wp1, pm_f2, pm_f3, pm_obj, pm_recv, pm_s_aload_n, pm_s_bipush, pm_s_goto, pm_s_iadd, pm_s_iconst, pm_s_ifCond_eq, pm_s_ifCond_ne, pm_s_if_icmp_ge, pm_s_iinc, pm_s_iload_n, pm_s_invokevirtual, pm_s_ireturn, pm_s_istore_n, ct_X4_possibleMoves, pS, pR, pC, pE, pL, -Int32.not_le, -Int32.not_lt, -Int64.not_le, -Int64.not_lt, -List.getD_eq_getElem?_getD]
              exact done
            | succ g ihg =>
              intro b g1 g2
              by_cases hb : b < 6
              · refine hb12 _ _ _ ?_
                simp [bk_X4_possibleMoves_12, pm_e_wp1, pm_e_wp0, pm_s_iload, pm_s_iload_n, pm_s_bipush, pm_e_c0, pm_s_aload_n, pm_e_ldi, pm_e_ldr, pm_e_lk, pm_f2, pm_f3, pm_s_if_icmp_ge, pm_e_ii, pm_e_go, pm_e_rs0, pm_e_rs1, pm_e_cti, pm_e_ctr, pm_s_invokevirtual, ct_X4_possibleMoves, pm_call, pm_recv, pm_obj, st_0 hp, -Int32.not_le, -Int32.not_lt]
                simp (disch := omega) only [ni_in, ni_cl, ni_add, ni_mul, ni_sub, ni_lt, ni_le, ni_eq, ni_eq0, ni_lt0, ni_0le, ni_0lt, ni_le0, ni_a1, ni_a3, ni_a7, ni_a15]
                refine ⟨fun h => by omega, fun _ => ?_⟩
                refine ⟨hp, ?_⟩
                rw [m5, hcc, nmF_n hP hS.2.1 (by omega) (by omega)]
                have h42 : ∀ q : Bool, q = canN P ec S a b → X 42 [(0, .ref p), (2, .int (nI a)), (3, .int (nI b))] [.int (pb q), .int (nI (sumN a (fun a => cnt 6 (fun b => canN P ec S a b)) + cnt b (fun b => canN P ec S a b)))] M := by
                  intro q hq
                  refine hb42 _ _ _ ?_
                  have e2 : pb q = nI (if canN P ec S a b = true then 1 else 0) := by rw [← hq]; cases q <;> rfl
                  simp (maxSteps := 2000000) [bk_X4_possibleMoves_0, bk_X4_possibleMoves_4, bk_X4_possibleMoves_12, bk_X4_possibleMoves_41, bk_X4_possibleMoves_42, bk_X4_possibleMoves_50, bk_X4_possibleMoves_56, pm_call, pm_e_c0, pm_e_c1, pm_e_cti, pm_e_ctl, pm_e_ctr, pm_e_go, pm_e_i, pm_e_ii, pm_e_ldi, pm_e_ldr, pm_e_lk, pm_e_rm0, pm_e_rm1, pm_e_rs0, pm_e_rs1, pm_e_wp0, pm_e_wp1, pm_f2, pm_f3, pm_obj, pm_recv, pm_s_aload_n, pm_s_bipush, pm_s_goto, pm_s_iadd, pm_s_iconst, pm_s_ifCond_eq, pm_s_ifCond_ne, pm_s_if_icmp_ge, pm_s_iinc, pm_s_iload_n, pm_s_invokevirtual, pm_s_ireturn, pm_s_istore_n, ct_X4_possibleMoves, pS, pR, pC, pE, pL, -Int32.not_le, -Int32.not_lt, -Int64.not_le, -Int64.not_lt, -List.getD_eq_getElem?_getD, e2]
                  simp only [ni_add]
                  have := ihg (b + 1) (by omega) (by omega)
                  rw [cnt_s b, ← Nat.add_assoc] at this
                  exact this
                have h41 : canN P ec S a b = false → X 41 [(0, .ref p), (2, .int (nI a)), (3, .int (nI b))] [.int (nI (sumN a (fun a => cnt 6 (fun b => canN P ec S a b)) + cnt b (fun b => canN P ec S a b)))] M := by
                  intro hq
                  refine hb41 _ _ _ ?_
                  simp (maxSteps := 2000000) [bk_X4_possibleMoves_0, bk_X4_possibleMoves_4, bk_X4_possibleMoves_12, bk_X4_possibleMoves_41, bk_X4_possibleMoves_42, bk_X4_possibleMoves_50, bk_X4_possibleMoves_56, pm_call, pm_e_c0, pm_e_c1, pm_e_cti, pm_e_ctl, pm_e_ctr, pm_e_go, pm_e_i, pm_e_ii, pm_e_ldi, pm_e_ldr, pm_e_lk, pm_e_rm0, pm_e_rm1, pm_e_rs0, pm_e_rs1, pm_e_wp0, pm_e_wp1, pm_f2, pm_f3, pm_obj, pm_recv, pm_s_aload_n, pm_s_bipush, pm_s_goto, pm_s_iadd, pm_s_iconst, pm_s_ifCond_eq, pm_s_ifCond_ne, pm_s_if_icmp_ge, pm_s_iinc, pm_s_iload_n, pm_s_invokevirtual, pm_s_ireturn, pm_s_istore_n, ct_X4_possibleMoves, pS, pR, pC, pE, pL, -Int32.not_le, -Int32.not_lt, -Int64.not_le, -Int64.not_lt, -List.getD_eq_getElem?_getD]
                  exact h42 false hq.symm
                have hwl := whyF_le P ec S a b
                simp (maxSteps := 2000000) [bk_X4_possibleMoves_0, bk_X4_possibleMoves_4, bk_X4_possibleMoves_12, bk_X4_possibleMoves_41, bk_X4_possibleMoves_42, bk_X4_possibleMoves_50, bk_X4_possibleMoves_56, pm_call, pm_e_c0, pm_e_c1, pm_e_cti, pm_e_ctl, pm_e_ctr, pm_e_go, pm_e_i, pm_e_ii, pm_e_ldi, pm_e_ldr, pm_e_lk, pm_e_rm0, pm_e_rm1, pm_e_rs0, pm_e_rs1, pm_e_wp0, pm_e_wp1, pm_f2, pm_f3, pm_obj, pm_recv, pm_s_aload_n, pm_s_bipush, pm_s_goto, pm_s_iadd, pm_s_iconst, pm_s_ifCond_eq, pm_s_ifCond_ne, pm_s_if_icmp_ge, pm_s_iinc, pm_s_iload_n, pm_s_invokevirtual, pm_s_ireturn, pm_s_istore_n, ct_X4_possibleMoves, pS, pR, pC, pE, pL, -Int32.not_le, -Int32.not_lt, -Int64.not_le, -Int64.not_lt, -List.getD_eq_getElem?_getD, pb_eq0, st_0 hp]
                refine ⟨fun h => h41 (by simp [canN, h]), fun h => ?_⟩
                refine ⟨ec, S, P, a, b, hp, rfl, rfl, hS, hD, hI, ha, hb, ?_⟩
                simp (maxSteps := 2000000) [bk_X4_possibleMoves_0, bk_X4_possibleMoves_4, bk_X4_possibleMoves_12, bk_X4_possibleMoves_41, bk_X4_possibleMoves_42, bk_X4_possibleMoves_50, bk_X4_possibleMoves_56, pm_call, pm_e_c0, pm_e_c1, pm_e_cti, pm_e_ctl, pm_e_ctr, pm_e_go, pm_e_i, pm_e_ii, pm_e_ldi, pm_e_ldr, pm_e_lk, pm_e_rm0, pm_e_rm1, pm_e_rs0, pm_e_rs1, pm_e_wp0, pm_e_wp1, pm_f2, pm_f3, pm_obj, pm_recv, pm_s_aload_n, pm_s_bipush, pm_s_goto, pm_s_iadd, pm_s_iconst, pm_s_ifCond_eq, pm_s_ifCond_ne, pm_s_if_icmp_ge, pm_s_iinc, pm_s_iload_n, pm_s_invokevirtual, pm_s_ireturn, pm_s_istore_n, ct_X4_possibleMoves, pS, pR, pC, pE, pL, -Int32.not_le, -Int32.not_lt, -Int64.not_le, -Int64.not_lt, -List.getD_eq_getElem?_getD]
                simp (disch := omega) only [ni_in, ni_cl, ni_add, ni_mul, ni_sub, ni_lt, ni_le, ni_eq, ni_eq0, ni_lt0, ni_0le, ni_0lt, ni_le0, ni_a1, ni_a3, ni_a7, ni_a15]
                exact ⟨fun h' => h41 (by simp [canN, h']), fun h' => h42 true (by simp [canN, h, h'])⟩
              · have e1 : b = 6 := by omega
                subst e1
                refine hb12 _ _ _ ?_
                simp (maxSteps := 2000000) [bk_X4_possibleMoves_0, bk_X4_possibleMoves_4, bk_X4_possibleMoves_12, bk_X4_possibleMoves_41, bk_X4_possibleMoves_42, bk_X4_possibleMoves_50, bk_X4_possibleMoves_56, pm_call, pm_e_c0, pm_e_c1, pm_e_cti, pm_e_ctl, pm_e_ctr, pm_e_go, pm_e_i, pm_e_ii, pm_e_ldi, pm_e_ldr, pm_e_lk, pm_e_rm0, pm_e_rm1, pm_e_rs0, pm_e_rs1, pm_e_wp0, pm_e_wp1, pm_f2, pm_f3, pm_obj, pm_recv, pm_s_aload_n, pm_s_bipush, pm_s_goto, pm_s_iadd, pm_s_iconst, pm_s_ifCond_eq, pm_s_ifCond_ne, pm_s_if_icmp_ge, pm_s_iinc, pm_s_iload_n, pm_s_invokevirtual, pm_s_ireturn, pm_s_istore_n, ct_X4_possibleMoves, pS, pR, pC, pE, pL, -Int32.not_le, -Int32.not_lt, -Int64.not_le, -Int64.not_lt, -List.getD_eq_getElem?_getD]
                exact done
          exact inner 6 0 (by omega) (by omega)
        · have e1 : a = 6 := by omega
          subst e1
          simp (disch := omega) only [ni_in, ni_cl, ni_add, ni_mul, ni_sub, ni_lt, ni_le, ni_eq, ni_eq0, ni_lt0, ni_0le, ni_0lt, ni_le0, ni_a1, ni_a3, ni_a7, ni_a15]
          exact ⟨fun _ => out, fun h => by omega⟩
    refine hb0 _ _ _ ?_
    simp (maxSteps := 2000000) [bk_X4_possibleMoves_0, bk_X4_possibleMoves_4, bk_X4_possibleMoves_12, bk_X4_possibleMoves_41, bk_X4_possibleMoves_42, bk_X4_possibleMoves_50, bk_X4_possibleMoves_56, pm_call, pm_e_c0, pm_e_c1, pm_e_cti, pm_e_ctl, pm_e_ctr, pm_e_go, pm_e_i, pm_e_ii, pm_e_ldi, pm_e_ldr, pm_e_lk, pm_e_rm0, pm_e_rm1, pm_e_rs0, pm_e_rs1, pm_e_wp0, pm_e_wp1, pm_f2, pm_f3, pm_obj, pm_recv, pm_s_aload_n, pm_s_bipush, pm_s_goto, pm_s_iadd, pm_s_iconst, pm_s_ifCond_eq, pm_s_ifCond_ne, pm_s_if_icmp_ge, pm_s_iinc, pm_s_iload_n, pm_s_invokevirtual, pm_s_ireturn, pm_s_istore_n, ct_X4_possibleMoves, pS, pR, pC, pE, pL, -Int32.not_le, -Int32.not_lt, -Int64.not_le, -Int64.not_lt, -List.getD_eq_getElem?_getD, lv_args]
    exact loop 6 0 (by omega) (by omega)
  · exact hT.elim
/-- may the last card of a by itself go to its house -/
def goesN (P : Pm) (ec : Nat) (S : St) (a : Nat) : Bool := canN P ec S a 5 && safeF P S (cardF S a)
theorem whyF_5 {P : Pm} {ec : Nat} {S : St} {a : Nat} (h : whyF P ec S a 5 = 0) : cardF S a ≠ 0 ∧ S.2.2 (su (pR P) (cardF S a)) + 1 = ra (pR P) (cardF S a) := by
  unfold whyF at h
  split at h
  · cases h
  · next q =>
    rw [if_neg (by decide), if_pos rfl] at h
    split at h
    · next z => exact ⟨q, z⟩
    · cases h
def tt_X4_sendSafeCard : pm_T := fun args M k => match args with
  | [.ref p] => ∃ ec S P, isSt p ∧ SdX M p ec S ∧ DkX M P ∧ inD P S ∧ (∀ a, a < 6 → goesN P ec S a = true → (∀ b, b < a → goesN P ec S b = false) → ∀ M', SdX M' p ec (aMv P ec S a 5) → pm_fr (stF p) M M' → k (some (.int (nI 1))) M') ∧ ((∀ a, a < 6 → goesN P ec S a = false) → k (some (.int (nI 0))) M)
  | _ => False
abbrev ct_X4_sendSafeCard : List pm_C := [(false, 96, 4, 3, (some .boolean), tt_X4_isNamed), (false, 99, 4, 3, (some .int), tt_X4_whyNot), (false, 83, 4, 2, (some .int), tt_X4_cardFrom), (false, 125, 4, 2, (some .boolean), tt_X4_isSafe), (false, 128, 4, 3, (some .int), tt_X4_shift)]
set_option maxHeartbeats 4000000 in
theorem sm_X4_sendSafeCard  : pm_Sem SHx yX4_sendSafeCard cX4_sendSafeCard 3 (some .boolean) 4 tt_X4_sendSafeCard := by
  refine pm_Sem_intro bl_X4_sendSafeCard ct_X4_sendSafeCard cs_X4_sendSafeCard rfl (List.forall_mem_cons.mpr ⟨⟨_, _, _, _, sm_X4_isNamed, by decide, cm_X4_isNamed, by decide +kernel⟩, List.forall_mem_cons.mpr ⟨⟨_, _, _, _, sm_X4_whyNot, by decide, cm_X4_whyNot, by decide +kernel⟩, List.forall_mem_cons.mpr ⟨⟨_, _, _, _, sm_X4_cardFrom, by decide, cm_X4_cardFrom, by decide +kernel⟩, List.forall_mem_cons.mpr ⟨⟨_, _, _, _, sm_X4_isSafe, by decide, cm_X4_isSafe, by decide +kernel⟩, List.forall_mem_cons.mpr ⟨⟨_, _, _, _, sm_X4_shift, by decide, cm_X4_shift, by decide +kernel⟩, fun _ h => absurd h List.not_mem_nil⟩⟩⟩⟩⟩) ck_X4_sendSafeCard (by decide +kernel) (by decide) ?_
  intro X k hX args M hT
  have hb0 := hX 0 bk_X4_sendSafeCard_0 (List.mem_of_getElem? (i := 0) rfl)
  have hb2 := hX 2 bk_X4_sendSafeCard_2 (List.mem_of_getElem? (i := 1) rfl)
  have hb30 := hX 30 bk_X4_sendSafeCard_30 (List.mem_of_getElem? (i := 2) rfl)
  have hb31 := hX 31 bk_X4_sendSafeCard_31 (List.mem_of_getElem? (i := 3) rfl)
  have hb57 := hX 57 bk_X4_sendSafeCard_57 (List.mem_of_getElem? (i := 4) rfl)
  have hb63 := hX 63 bk_X4_sendSafeCard_63 (List.mem_of_getElem? (i := 5) rfl)
  clear hX
  unfold tt_X4_sendSafeCard at hT; split at hT
  · next p =>
    obtain ⟨ec, S, P, hp, hS, hD, hI, hT1, hT2⟩ := hT
    have hP := hD.1.1
    have m5 := hD.1.2.1.2.2.1
    have hcc := hS.2.2.1
    refine ⟨by simp [lg_sl, Value.category], ?_⟩
    have out : (∀ b, b < 6 → goesN P ec S b = false) → X 63 [] [] M := by
      intro hA
      refine hb63 _ _ _ ?_
      simp (maxSteps := 2000000) [bk_X4_sendSafeCard_0, bk_X4_sendSafeCard_2, bk_X4_sendSafeCard_30, bk_X4_sendSafeCard_31, bk_X4_sendSafeCard_57, bk_X4_sendSafeCard_63, pm_call, pm_e_c0, pm_e_c1, pm_e_cti, pm_e_ctl, pm_e_ctr, pm_e_go, pm_e_i, pm_e_ii, pm_e_ldi, pm_e_ldr, pm_e_lk, pm_e_rm0, pm_e_rm1, pm_e_rs0, pm_e_rs1, pm_e_v1, pm_e_wp0, pm_e_wp1, pm_f2, pm_f3, pm_obj, pm_recv, pm_s_aload_n, pm_s_bipush, pm_s_goto, pm_s_iconst, pm_s_ifCond_eq, pm_s_ifCond_ne, pm_s_if_icmp_ge, pm_s_iinc, pm_s_iload_n, pm_s_invokevirtual, pm_s_ireturn, pm_s_istore_n, pm_s_pop, ct_X4_sendSafeCard, pS, pR, pC, pE, pL, -Int32.not_le, -Int32.not_lt, -Int64.not_le, -Int64.not_lt, -List.getD_eq_getElem?_getD]
      exact ⟨Or.inl rfl, hT2 hA⟩
    have loop : ∀ (f a : Nat), 6 ≤ a + f → a ≤ 6 → (∀ b, b < a → goesN P ec S b = false) → X 2 [(0, .ref p), (1, .int (nI a))] [] M := by
      intro f
      induction f with
      | zero =>
        intro a f1 f2 hA
        have e1 : a = 6 := by omega
        subst e1
        refine hb2 _ _ _ ?_
        simp (maxSteps := 2000000) [bk_X4_sendSafeCard_0, bk_X4_sendSafeCard_2, bk_X4_sendSafeCard_30, bk_X4_sendSafeCard_31, bk_X4_sendSafeCard_57, bk_X4_sendSafeCard_63, pm_call, pm_e_c0, pm_e_c1, pm_e_cti, pm_e_ctl, pm_e_ctr, pm_e_go, pm_e_i, pm_e_ii, pm_e_ldi, pm_e_ldr, pm_e_lk, pm_e_rm0, pm_e_rm1, pm_e_rs0, pm_e_rs1, pm_e_v1, pm_e_wp0, pm_e_wp1, pm_f2, pm_f3, pm_obj, pm_recv, pm_s_aload_n, pm_s_bipush, pm_s_goto, pm_s_iconst, pm_s_ifCond_eq, pm_s_ifCond_ne, pm_s_if_icmp_ge, pm_s_iinc, pm_s_iload_n, pm_s_invokevirtual, pm_s_ireturn, pm_s_istore_n, pm_s_pop, ct_X4_sendSafeCard, pS, pR, pC, pE, pL, -Int32.not_le, -Int32.not_lt, -Int64.not_le, -Int64.not_lt, -List.getD_eq_getElem?_getD]
        exact out hA
      | succ f ih =>
        intro a f1 f2 hA
        by_cases ha : a < 6
        · have h57 : goesN P ec S a = false → X 57 [(0, .ref p), (1, .int (nI a))] [] M := by
            intro hq
            refine hb57 _ _ _ ?_
            simp (maxSteps := 2000000) [bk_X4_sendSafeCard_0, bk_X4_sendSafeCard_2, bk_X4_sendSafeCard_30, bk_X4_sendSafeCard_31, bk_X4_sendSafeCard_57, bk_X4_sendSafeCard_63, pm_call, pm_e_c0, pm_e_c1, pm_e_cti, pm_e_ctl, pm_e_ctr, pm_e_go, pm_e_i, pm_e_ii, pm_e_ldi, pm_e_ldr, pm_e_lk, pm_e_rm0, pm_e_rm1, pm_e_rs0, pm_e_rs1, pm_e_v1, pm_e_wp0, pm_e_wp1, pm_f2, pm_f3, pm_obj, pm_recv, pm_s_aload_n, pm_s_bipush, pm_s_goto, pm_s_iconst, pm_s_ifCond_eq, pm_s_ifCond_ne, pm_s_if_icmp_ge, pm_s_iinc, pm_s_iload_n, pm_s_invokevirtual, pm_s_ireturn, pm_s_istore_n, pm_s_pop, ct_X4_sendSafeCard, pS, pR, pC, pE, pL, -Int32.not_le, -Int32.not_lt, -Int64.not_le, -Int64.not_lt, -List.getD_eq_getElem?_getD]
            simp only [ni_add]
            refine ih (a + 1) (by omega) (by omega) (fun b hb => ?_)
            rcases Nat.lt_or_ge b a with z | z
            · exact hA b z
            · have : b = a := by omega
              subst this; exact hq
          have h31 : ∀ q : Bool, q = canN P ec S a 5 → X 31 [(0, .ref p), (1, .int (nI a))] [.int (pb q)] M := by
            intro q hq
            refine hb31 _ _ _ ?_
            simp (maxSteps := 2000000) [bk_X4_sendSafeCard_0, bk_X4_sendSafeCard_2, bk_X4_sendSafeCard_30, bk_X4_sendSafeCard_31, bk_X4_sendSafeCard_57, bk_X4_sendSafeCard_63, pm_call, pm_e_c0, pm_e_c1, pm_e_cti, pm_e_ctl, pm_e_ctr, pm_e_go, pm_e_i, pm_e_ii, pm_e_ldi, pm_e_ldr, pm_e_lk, pm_e_rm0, pm_e_rm1, pm_e_rs0, pm_e_rs1, pm_e_v1, pm_e_wp0, pm_e_wp1, pm_f2, pm_f3, pm_obj, pm_recv, pm_s_aload_n, pm_s_bipush, pm_s_goto, pm_s_iconst, pm_s_ifCond_eq, pm_s_ifCond_ne, pm_s_if_icmp_ge, pm_s_iinc, pm_s_iload_n, pm_s_invokevirtual, pm_s_ireturn, pm_s_istore_n, pm_s_pop, ct_X4_sendSafeCard, pS, pR, pC, pE, pL, -Int32.not_le, -Int32.not_lt, -Int64.not_le, -Int64.not_lt, -List.getD_eq_getElem?_getD, pb_eq0, st_0 hp]
            refine ⟨fun h => h57 (by rw [goesN, ← hq, h]; rfl), fun h => ?_⟩
            refine ⟨ec, S, a, hp, rfl, hS, ha, ?_⟩
            simp (maxSteps := 2000000) [bk_X4_sendSafeCard_0, bk_X4_sendSafeCard_2, bk_X4_sendSafeCard_30, bk_X4_sendSafeCard_31, bk_X4_sendSafeCard_57, bk_X4_sendSafeCard_63, pm_call, pm_e_c0, pm_e_c1, pm_e_cti, pm_e_ctl, pm_e_ctr, pm_e_go, pm_e_i, pm_e_ii, pm_e_ldi, pm_e_ldr, pm_e_lk, pm_e_rm0, pm_e_rm1, pm_e_rs0, pm_e_rs1, pm_e_v1, pm_e_wp0, pm_e_wp1, pm_f2, pm_f3, pm_obj, pm_recv, pm_s_aload_n, pm_s_bipush, pm_s_goto, pm_s_iconst, pm_s_ifCond_eq, pm_s_ifCond_ne, pm_s_if_icmp_ge, pm_s_iinc, pm_s_iload_n, pm_s_invokevirtual, pm_s_ireturn, pm_s_istore_n, pm_s_pop, ct_X4_sendSafeCard, pS, pR, pC, pE, pL, -Int32.not_le, -Int32.not_lt, -Int64.not_le, -Int64.not_lt, -List.getD_eq_getElem?_getD, st_0 hp]
            have hcan : whyF P ec S a 5 = 0 := by
              have : canN P ec S a 5 = true := by rw [← hq]; exact h
              unfold canN at this
              simp at this
              exact this.2
            obtain ⟨c0, c1⟩ := whyF_5 hcan
            have hcl := cardF_le hI ha
            refine ⟨ec, S, P, cardF S a, hp, rfl, hS, hD, ⟨by omega, hcl⟩, ?_⟩
            simp (maxSteps := 2000000) [bk_X4_sendSafeCard_0, bk_X4_sendSafeCard_2, bk_X4_sendSafeCard_30, bk_X4_sendSafeCard_31, bk_X4_sendSafeCard_57, bk_X4_sendSafeCard_63, pm_call, pm_e_c0, pm_e_c1, pm_e_cti, pm_e_ctl, pm_e_ctr, pm_e_go, pm_e_i, pm_e_ii, pm_e_ldi, pm_e_ldr, pm_e_lk, pm_e_rm0, pm_e_rm1, pm_e_rs0, pm_e_rs1, pm_e_v1, pm_e_wp0, pm_e_wp1, pm_f2, pm_f3, pm_obj, pm_recv, pm_s_aload_n, pm_s_bipush, pm_s_goto, pm_s_iconst, pm_s_ifCond_eq, pm_s_ifCond_ne, pm_s_if_icmp_ge, pm_s_iinc, pm_s_iload_n, pm_s_invokevirtual, pm_s_ireturn, pm_s_istore_n, pm_s_pop, ct_X4_sendSafeCard, pS, pR, pC, pE, pL, -Int32.not_le, -Int32.not_lt, -Int64.not_le, -Int64.not_lt, -List.getD_eq_getElem?_getD, pb_eq0, st_0 hp]
            refine ⟨fun h' => h57 (by rw [goesN, h']; simp), fun h' => ?_⟩
            have hg : goesN P ec S a = true := by rw [goesN, ← hq, h, h']; rfl
            have hr6 : ra (pR P) (cardF S a) ≤ 6 := by
              have := ra_le (n := cardF S a) hP.2.2.1
              have := hP.2.2.2.1
              omega
            refine ⟨ec, S, P, a, 5, hp, rfl, rfl, hS, hD, hI, ha, by decide, fun z => by omega, c0, fun _ => by omega, fun z => by omega, fun M' r1 r2 => ?_⟩
            simp (maxSteps := 2000000) [bk_X4_sendSafeCard_0, bk_X4_sendSafeCard_2, bk_X4_sendSafeCard_30, bk_X4_sendSafeCard_31, bk_X4_sendSafeCard_57, bk_X4_sendSafeCard_63, pm_call, pm_e_c0, pm_e_c1, pm_e_cti, pm_e_ctl, pm_e_ctr, pm_e_go, pm_e_i, pm_e_ii, pm_e_ldi, pm_e_ldr, pm_e_lk, pm_e_rm0, pm_e_rm1, pm_e_rs0, pm_e_rs1, pm_e_v1, pm_e_wp0, pm_e_wp1, pm_f2, pm_f3, pm_obj, pm_recv, pm_s_aload_n, pm_s_bipush, pm_s_goto, pm_s_iconst, pm_s_ifCond_eq, pm_s_ifCond_ne, pm_s_if_icmp_ge, pm_s_iinc, pm_s_iload_n, pm_s_invokevirtual, pm_s_ireturn, pm_s_istore_n, pm_s_pop, ct_X4_sendSafeCard, pS, pR, pC, pE, pL, -Int32.not_le, -Int32.not_lt, -Int64.not_le, -Int64.not_lt, -List.getD_eq_getElem?_getD]
            exact ⟨Or.inr rfl, hT1 a ha hg hA M' r1 r2⟩
          refine hb2 _ _ _ ?_
          simp [bk_X4_sendSafeCard_2, pm_e_wp1, pm_e_wp0, pm_s_iload, pm_s_iload_n, pm_s_iconst, pm_s_bipush, pm_e_c0, pm_s_aload_n, pm_e_ldi, pm_e_ldr, pm_e_lk, pm_f2, pm_f3, pm_s_if_icmp_ge, pm_e_ii, pm_e_go, pm_e_rs0, pm_e_rs1, pm_e_cti, pm_e_ctr, pm_s_invokevirtual, ct_X4_sendSafeCard, pm_call, pm_recv, pm_obj, st_0 hp, -Int32.not_le, -Int32.not_lt]
          simp (disch := omega) only [ni_in, ni_cl, ni_add, ni_mul, ni_sub, ni_lt, ni_le, ni_eq, ni_eq0, ni_lt0, ni_0le, ni_0lt, ni_le0, ni_a1, ni_a3, ni_a7, ni_a15]
          refine ⟨fun h => by omega, fun _ => ⟨hp, ?_⟩⟩
          rw [m5, hcc, nmF_n hP hS.2.1 (by omega) (by omega)]
          have h30 : canN P ec S a 5 = false → X 30 [(0, .ref p), (1, .int (nI a))] [] M := by
            intro hq
            refine hb30 _ _ _ ?_
            simp (maxSteps := 2000000) [bk_X4_sendSafeCard_0, bk_X4_sendSafeCard_2, bk_X4_sendSafeCard_30, bk_X4_sendSafeCard_31, bk_X4_sendSafeCard_57, bk_X4_sendSafeCard_63, pm_call, pm_e_c0, pm_e_c1, pm_e_cti, pm_e_ctl, pm_e_ctr, pm_e_go, pm_e_i, pm_e_ii, pm_e_ldi, pm_e_ldr, pm_e_lk, pm_e_rm0, pm_e_rm1, pm_e_rs0, pm_e_rs1, pm_e_v1, pm_e_wp0, pm_e_wp1, pm_f2, pm_f3, pm_obj, pm_recv, pm_s_aload_n, pm_s_bipush, pm_s_goto, pm_s_iconst, pm_s_ifCond_eq, pm_s_ifCond_ne, pm_s_if_icmp_ge, pm_s_iinc, pm_s_iload_n, pm_s_invokevirtual, pm_s_ireturn, pm_s_istore_n, pm_s_pop, ct_X4_sendSafeCard, pS, pR, pC, pE, pL, -Int32.not_le, -Int32.not_lt, -Int64.not_le, -Int64.not_lt, -List.getD_eq_getElem?_getD]
            exact h31 false hq.symm
          have hwl := whyF_le P ec S a 5
          simp (maxSteps := 2000000) [bk_X4_sendSafeCard_0, bk_X4_sendSafeCard_2, bk_X4_sendSafeCard_30, bk_X4_sendSafeCard_31, bk_X4_sendSafeCard_57, bk_X4_sendSafeCard_63, pm_call, pm_e_c0, pm_e_c1, pm_e_cti, pm_e_ctl, pm_e_ctr, pm_e_go, pm_e_i, pm_e_ii, pm_e_ldi, pm_e_ldr, pm_e_lk, pm_e_rm0, pm_e_rm1, pm_e_rs0, pm_e_rs1, pm_e_v1, pm_e_wp0, pm_e_wp1, pm_f2, pm_f3, pm_obj, pm_recv, pm_s_aload_n, pm_s_bipush, pm_s_goto, pm_s_iconst, pm_s_ifCond_eq, pm_s_ifCond_ne, pm_s_if_icmp_ge, pm_s_iinc, pm_s_iload_n, pm_s_invokevirtual, pm_s_ireturn, pm_s_istore_n, pm_s_pop, ct_X4_sendSafeCard, pS, pR, pC, pE, pL, -Int32.not_le, -Int32.not_lt, -Int64.not_le, -Int64.not_lt, -List.getD_eq_getElem?_getD, pb_eq0, st_0 hp]
          refine ⟨fun h => h30 (by simp [canN, h]), fun h => ?_⟩
          refine ⟨ec, S, P, a, 5, hp, rfl, rfl, hS, hD, hI, ha, by decide, ?_⟩
          simp (maxSteps := 2000000) [bk_X4_sendSafeCard_0, bk_X4_sendSafeCard_2, bk_X4_sendSafeCard_30, bk_X4_sendSafeCard_31, bk_X4_sendSafeCard_57, bk_X4_sendSafeCard_63, pm_call, pm_e_c0, pm_e_c1, pm_e_cti, pm_e_ctl, pm_e_ctr, pm_e_go, pm_e_i, pm_e_ii, pm_e_ldi, pm_e_ldr, pm_e_lk, pm_e_rm0, pm_e_rm1, pm_e_rs0, pm_e_rs1, pm_e_v1, pm_e_wp0, pm_e_wp1, pm_f2, pm_f3, pm_obj, pm_recv, pm_s_aload_n, pm_s_bipush, pm_s_goto, pm_s_iconst, pm_s_ifCond_eq, pm_s_ifCond_ne, pm_s_if_icmp_ge, pm_s_iinc, pm_s_iload_n, pm_s_invokevirtual, pm_s_ireturn, pm_s_istore_n, pm_s_pop, ct_X4_sendSafeCard, pS, pR, pC, pE, pL, -Int32.not_le, -Int32.not_lt, -Int64.not_le, -Int64.not_lt, -List.getD_eq_getElem?_getD]
          simp (disch := omega) only [ni_in, ni_cl, ni_add, ni_mul, ni_sub, ni_lt, ni_le, ni_eq, ni_eq0, ni_lt0, ni_0le, ni_0lt, ni_le0, ni_a1, ni_a3, ni_a7, ni_a15]
          exact ⟨fun h' => h30 (by simp [canN, h']), fun h' => h31 true (by simp [canN, h, h'])⟩
        · have e1 : a = 6 := by omega
          subst e1
          refine hb2 _ _ _ ?_
          simp (maxSteps := 2000000) [bk_X4_sendSafeCard_0, bk_X4_sendSafeCard_2, bk_X4_sendSafeCard_30, bk_X4_sendSafeCard_31, bk_X4_sendSafeCard_57, bk_X4_sendSafeCard_63, pm_call, pm_e_c0, pm_e_c1, pm_e_cti, pm_e_ctl, pm_e_ctr, pm_e_go, pm_e_i, pm_e_ii, pm_e_ldi, pm_e_ldr, pm_e_lk, pm_e_rm0, pm_e_rm1, pm_e_rs0, pm_e_rs1, pm_e_v1, pm_e_wp0, pm_e_wp1, pm_f2, pm_f3, pm_obj, pm_recv, pm_s_aload_n, pm_s_bipush, pm_s_goto, pm_s_iconst, pm_s_ifCond_eq, pm_s_ifCond_ne, pm_s_if_icmp_ge, pm_s_iinc, pm_s_iload_n, pm_s_invokevirtual, pm_s_ireturn, pm_s_istore_n, pm_s_pop, ct_X4_sendSafeCard, pS, pR, pC, pE, pL, -Int32.not_le, -Int32.not_lt, -Int64.not_le, -Int64.not_lt, -List.getD_eq_getElem?_getD]
          exact out hA
    refine hb0 _ _ _ ?_
    simp (maxSteps := 2000000) [bk_X4_sendSafeCard_0, bk_X4_sendSafeCard_2, bk_X4_sendSafeCard_30, bk_X4_sendSafeCard_31, bk_X4_sendSafeCard_57, bk_X4_sendSafeCard_63, pm_call, pm_e_c0, pm_e_c1, pm_e_cti, pm_e_ctl, pm_e_ctr, pm_e_go, pm_e_i, pm_e_ii, pm_e_ldi, pm_e_ldr, pm_e_lk, pm_e_rm0, pm_e_rm1, pm_e_rs0, pm_e_rs1, pm_e_v1, pm_e_wp0, pm_e_wp1, pm_f2, pm_f3, pm_obj, pm_recv, pm_s_aload_n, pm_s_bipush, pm_s_goto, pm_s_iconst, pm_s_ifCond_eq, pm_s_ifCond_ne, pm_s_if_icmp_ge, pm_s_iinc, pm_s_iload_n, pm_s_invokevirtual, pm_s_ireturn, pm_s_istore_n, pm_s_pop, ct_X4_sendSafeCard, pS, pR, pC, pE, pL, -Int32.not_le, -Int32.not_lt, -Int64.not_le, -Int64.not_lt, -List.getD_eq_getElem?_getD, lv_args]
    exact loop 6 0 (by omega) (by omega) (fun b hb => by omega)
  · exact hT.elim
