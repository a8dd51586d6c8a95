def helpF (P : Pm) (S : St) (a b i : Nat) : Bool := !decide (i = a) && !decide (i = b) && decide (S.1 i = []) && !decide (pL P = 4)
def longF (P : Pm) (ec : Nat) (S : St) (a b : Nat) : Nat := (nfc ec S + 1) * 2 ^ cnt (pC P) (helpF P S a b)
def tt_X4_longestRow : pm_T := fun args M k => match args with
  | [.ref p, .int x, .int y] => ∃ ec S P a b, isSt p ∧ x = nI a ∧ y = nI b ∧ SdX M p ec S ∧ DkX M P ∧ a < 4 ∧ b < 4 ∧ k (some (.int (nI (longF P ec S a b)))) M
  | _ => False
theorem nfc_le (ec : Nat) (S : St) : nfc ec S ≤ 2 := by unfold nfc; split <;> split <;> omega
theorem pow_le16 {n : Nat} (h : n ≤ 4) : 2 ^ n ≤ 16 := (Nat.pow_le_pow_right (by decide : 2 > 0) h : 2 ^ n ≤ 2 ^ 4)
abbrev ct_X4_longestRow : List pm_C := [(false, 119, 4, 1, (some .int), tt_X4_freeCells)]
set_option maxHeartbeats 4000000 in
theorem sm_X4_longestRow  : pm_Sem SHx yX4_longestRow cX4_longestRow 6 (some .int) 2 tt_X4_longestRow := by
  refine pm_Sem_intro bl_X4_longestRow ct_X4_longestRow cs_X4_longestRow rfl (List.forall_mem_cons.mpr ⟨⟨_, _, _, _, sm_X4_freeCells, by decide, cm_X4_freeCells, by decide +kernel⟩, fun _ h => absurd h List.not_mem_nil⟩) ck_X4_longestRow (by decide +kernel) (by decide) ?_
  intro X k hX args M hT
  have hb0 := hX 0 bk_X4_longestRow_0 (List.mem_of_getElem? (i := 0) rfl)
  have hb10 := hX 10 bk_X4_longestRow_10 (List.mem_of_getElem? (i := 1) rfl)
  have hb48 := hX 48 bk_X4_longestRow_48 (List.mem_of_getElem? (i := 2) rfl)
  have hb49 := hX 49 bk_X4_longestRow_49 (List.mem_of_getElem? (i := 3) rfl)
  have hb71 := hX 71 bk_X4_longestRow_71 (List.mem_of_getElem? (i := 4) rfl)
  have hb77 := hX 77 bk_X4_longestRow_77 (List.mem_of_getElem? (i := 5) rfl)
  clear hX
  unfold tt_X4_longestRow at hT; split at hT
  · next p x y =>
    obtain ⟨ec, S, ⟨s, r, c, e, w⟩, a, b, hp, rfl, rfl, hS, hD, ha, hb, hT⟩ := hT
    have hP := hD.1.1
    obtain ⟨m3, m4, m5, m6, m7⟩ := hD.1.2.1
    obtain ⟨h1, h2, h3, h4, h5, h6, h7, h8, h9⟩ := hP
    have hn := nfc_le ec S
    dsimp only [pS, pR, pC, pE, pL] at *
    refine ⟨by simp [lg_sl, Value.category], ?_⟩
    have out : X 77 [(3, .int (nI ((nfc ec S + 1) * 2 ^ cnt c (helpF (s, r, c, e, w) S a b))))] [] M := by
      refine hb77 _ _ _ ?_
      simp (maxSteps := 2000000) [bk_X4_longestRow_0, bk_X4_longestRow_10, bk_X4_longestRow_48, bk_X4_longestRow_49, bk_X4_longestRow_71, bk_X4_longestRow_77, pm_arr, pm_call, pm_e_c0, pm_e_c1, pm_e_cti, pm_e_ctl, pm_e_ctr, pm_e_go, pm_e_i, pm_e_ii, pm_e_ldi, pm_e_ldr, pm_e_lk, pm_e_r, pm_e_ri, pm_e_rm0, pm_e_rm1, pm_e_rs0, pm_e_rs1, pm_e_wp0, pm_e_wp1, pm_f2, pm_f3, pm_fld, pm_fv, pm_obj, pm_recv, pm_s_aload_n, pm_s_getfield, pm_s_goto, pm_s_iadd, pm_s_iaload, pm_s_iconst, pm_s_ifCond_eq, pm_s_ifCond_ne, pm_s_if_icmp_eq, pm_s_if_icmp_ge, pm_s_iinc, pm_s_iload, pm_s_iload_n, pm_s_imul, pm_s_invokevirtual, pm_s_ireturn, pm_s_istore, pm_s_istore_n, ct_X4_longestRow, pS, pR, pC, pE, pL, -Int32.not_le, -Int32.not_lt, -Int64.not_le, -Int64.not_lt, -List.getD_eq_getElem?_getD]
      exact hT
    have loop : ∀ (f i : Nat), c ≤ i + f → i ≤ c → X 10 [(0, .ref p), (1, .int (nI a)), (2, .int (nI b)), (3, .int (nI ((nfc ec S + 1) * 2 ^ cnt i (helpF (s, r, c, e, w) S a b)))), (4, .int (nI i))] [] M := by
      intro f
      induction f with
      | zero =>
        intro i f1 f2
        have e1 : i = c := by omega
        subst e1
        refine hb10 _ _ _ ?_
        simp (maxSteps := 2000000) [bk_X4_longestRow_0, bk_X4_longestRow_10, bk_X4_longestRow_48, bk_X4_longestRow_49, bk_X4_longestRow_71, bk_X4_longestRow_77, pm_arr, pm_call, pm_e_c0, pm_e_c1, pm_e_cti, pm_e_ctl, pm_e_ctr, pm_e_go, pm_e_i, pm_e_ii, pm_e_ldi, pm_e_ldr, pm_e_lk, pm_e_r, pm_e_ri, pm_e_rm0, pm_e_rm1, pm_e_rs0, pm_e_rs1, pm_e_wp0, pm_e_wp1, pm_f2, pm_f3, pm_fld, pm_fv, pm_obj, pm_recv, pm_s_aload_n, pm_s_getfield, pm_s_goto, pm_s_iadd, pm_s_iaload, pm_s_iconst, pm_s_ifCond_eq, pm_s_ifCond_ne, pm_s_if_icmp_eq, pm_s_if_icmp_ge, pm_s_iinc, pm_s_iload, pm_s_iload_n, pm_s_imul, pm_s_invokevirtual, pm_s_ireturn, pm_s_istore, pm_s_istore_n, ct_X4_longestRow, pS, pR, pC, pE, pL, -Int32.not_le, -Int32.not_lt, -Int64.not_le, -Int64.not_lt, -List.getD_eq_getElem?_getD, st_0 hp, sx_1, m5]
        exact out
      | succ f ih =>
        intro i f1 f2
        by_cases hi : i < c
        · have hl := hS.len (show i < 4 by omega)
          have next : ∀ v, v = (nfc ec S + 1) * 2 ^ cnt (i + 1) (helpF (s, r, c, e, w) S a b) → X 71 [(0, .ref p), (1, .int (nI a)), (2, .int (nI b)), (3, .int (nI v)), (4, .int (nI i))] [] M := by
            intro v hv
            refine hb71 _ _ _ ?_
            simp (maxSteps := 2000000) [bk_X4_longestRow_0, bk_X4_longestRow_10, bk_X4_longestRow_48, bk_X4_longestRow_49, bk_X4_longestRow_71, bk_X4_longestRow_77, pm_arr, pm_call, pm_e_c0, pm_e_c1, pm_e_cti, pm_e_ctl, pm_e_ctr, pm_e_go, pm_e_i, pm_e_ii, pm_e_ldi, pm_e_ldr, pm_e_lk, pm_e_r, pm_e_ri, pm_e_rm0, pm_e_rm1, pm_e_rs0, pm_e_rs1, pm_e_wp0, pm_e_wp1, pm_f2, pm_f3, pm_fld, pm_fv, pm_obj, pm_recv, pm_s_aload_n, pm_s_getfield, pm_s_goto, pm_s_iadd, pm_s_iaload, pm_s_iconst, pm_s_ifCond_eq, pm_s_ifCond_ne, pm_s_if_icmp_eq, pm_s_if_icmp_ge, pm_s_iinc, pm_s_iload, pm_s_iload_n, pm_s_imul, pm_s_invokevirtual, pm_s_ireturn, pm_s_istore, pm_s_istore_n, ct_X4_longestRow, pS, pR, pC, pE, pL, -Int32.not_le, -Int32.not_lt, -Int64.not_le, -Int64.not_lt, -List.getD_eq_getElem?_getD]
            simp only [ni_add]
            rw [hv]
            exact ih (i + 1) (by omega) (by omega)
          have h49 : ∀ q : Bool, q = (!decide (i = a) && !decide (i = b) && decide (S.1 i = [])) → X 49 [(0, .ref p), (1, .int (nI a)), (2, .int (nI b)), (3, .int (nI ((nfc ec S + 1) * 2 ^ cnt i (helpF (s, r, c, e, w) S a b)))), (4, .int (nI i))] [.int (pb q)] M := by
            intro q hq
            refine hb49 _ _ _ ?_
            simp (maxSteps := 2000000) [bk_X4_longestRow_0, bk_X4_longestRow_10, bk_X4_longestRow_48, bk_X4_longestRow_49, bk_X4_longestRow_71, bk_X4_longestRow_77, pm_arr, pm_call, pm_e_c0, pm_e_c1, pm_e_cti, pm_e_ctl, pm_e_ctr, pm_e_go, pm_e_i, pm_e_ii, pm_e_ldi, pm_e_ldr, pm_e_lk, pm_e_r, pm_e_ri, pm_e_rm0, pm_e_rm1, pm_e_rs0, pm_e_rs1, pm_e_wp0, pm_e_wp1, pm_f2, pm_f3, pm_fld, pm_fv, pm_obj, pm_recv, pm_s_aload_n, pm_s_getfield, pm_s_goto, pm_s_iadd, pm_s_iaload, pm_s_iconst, pm_s_ifCond_eq, pm_s_ifCond_ne, pm_s_if_icmp_eq, pm_s_if_icmp_ge, pm_s_iinc, pm_s_iload, pm_s_iload_n, pm_s_imul, pm_s_invokevirtual, pm_s_ireturn, pm_s_istore, pm_s_istore_n, ct_X4_longestRow, pS, pR, pC, pE, pL, -Int32.not_le, -Int32.not_lt, -Int64.not_le, -Int64.not_lt, -List.getD_eq_getElem?_getD, pb_eq0, st_0 hp, sx_1, m7]
            simp (disch := omega) only [ni_in, ni_cl, ni_add, ni_mul, ni_sub, ni_lt, ni_le, ni_eq, ni_eq0, ni_lt0, ni_0le, ni_0lt, ni_le0, ni_a1, ni_a3, ni_a7, ni_a15]
            refine ⟨fun h => next _ ?_, fun h => ⟨fun h' => next _ ?_, fun h' => ?_⟩⟩
            · rw [cnt_s i, helpF, ← hq, h]; simp
            · rw [cnt_s i, helpF]; simp [pL, h']
            · refine next _ ?_
              rw [cnt_s i, helpF, ← hq, h]
              simp [pL, h', Nat.pow_succ, Nat.mul_assoc]
          have h48 : (!decide (i = a) && !decide (i = b) && decide (S.1 i = [])) = false → X 48 [(0, .ref p), (1, .int (nI a)), (2, .int (nI b)), (3, .int (nI ((nfc ec S + 1) * 2 ^ cnt i (helpF (s, r, c, e, w) S a b)))), (4, .int (nI i))] [] M := by
            intro hq
            refine hb48 _ _ _ ?_
            simp (maxSteps := 2000000) [bk_X4_longestRow_0, bk_X4_longestRow_10, bk_X4_longestRow_48, bk_X4_longestRow_49, bk_X4_longestRow_71, bk_X4_longestRow_77, pm_arr, pm_call, pm_e_c0, pm_e_c1, pm_e_cti, pm_e_ctl, pm_e_ctr, pm_e_go, pm_e_i, pm_e_ii, pm_e_ldi, pm_e_ldr, pm_e_lk, pm_e_r, pm_e_ri, pm_e_rm0, pm_e_rm1, pm_e_rs0, pm_e_rs1, pm_e_wp0, pm_e_wp1, pm_f2, pm_f3, pm_fld, pm_fv, pm_obj, pm_recv, pm_s_aload_n, pm_s_getfield, pm_s_goto, pm_s_iadd, pm_s_iaload, pm_s_iconst, pm_s_ifCond_eq, pm_s_ifCond_ne, pm_s_if_icmp_eq, pm_s_if_icmp_ge, pm_s_iinc, pm_s_iload, pm_s_iload_n, pm_s_imul, pm_s_invokevirtual, pm_s_ireturn, pm_s_istore, pm_s_istore_n, ct_X4_longestRow, pS, pR, pC, pE, pL, -Int32.not_le, -Int32.not_lt, -Int64.not_le, -Int64.not_lt, -List.getD_eq_getElem?_getD]
            exact h49 false hq.symm
          refine hb10 _ _ _ ?_
          simp (maxSteps := 2000000) [bk_X4_longestRow_0, bk_X4_longestRow_10, bk_X4_longestRow_48, bk_X4_longestRow_49, bk_X4_longestRow_71, bk_X4_longestRow_77, pm_arr, pm_call, pm_e_c0, pm_e_c1, pm_e_cti, pm_e_ctl, pm_e_ctr, pm_e_go, pm_e_i, pm_e_ii, pm_e_ldi, pm_e_ldr, pm_e_lk, pm_e_r, pm_e_ri, pm_e_rm0, pm_e_rm1, pm_e_rs0, pm_e_rs1, pm_e_wp0, pm_e_wp1, pm_f2, pm_f3, pm_fld, pm_fv, pm_obj, pm_recv, pm_s_aload_n, pm_s_getfield, pm_s_goto, pm_s_iadd, pm_s_iaload, pm_s_iconst, pm_s_ifCond_eq, pm_s_ifCond_ne, pm_s_if_icmp_eq, pm_s_if_icmp_ge, pm_s_iinc, pm_s_iload, pm_s_iload_n, pm_s_imul, pm_s_invokevirtual, pm_s_ireturn, pm_s_istore, pm_s_istore_n, ct_X4_longestRow, pS, pR, pC, pE, pL, -Int32.not_le, -Int32.not_lt, -Int64.not_le, -Int64.not_lt, -List.getD_eq_getElem?_getD, st_0 hp, st_2 hp, sx_1, m5]
          simp (disch := omega) only [ni_in, ni_cl, ni_add, ni_mul, ni_sub, ni_lt, ni_le, ni_eq, ni_eq0, ni_lt0, ni_0le, ni_0lt, ni_le0, ni_a1, ni_a3, ni_a7, ni_a15, hS.n (show i < 4 by omega)]
          refine ⟨fun h => by omega, fun _ => ⟨fun h => h48 (by simp [h]), fun h => ⟨fun h' => h48 (by simp [h']), fun h' => ⟨by omega, fun h'' => h48 ?_, fun h'' => ?_⟩⟩⟩⟩
          · have : ¬ S.1 i = [] := fun z => h'' (by rw [z]; rfl)
            simp [this]
          · have : S.1 i = [] := List.length_eq_zero_iff.mp h''
            exact h49 true (by simp [h, h', this])
        · have e1 : i = c := by omega
          subst e1
          refine hb10 _ _ _ ?_
          simp (maxSteps := 2000000) [bk_X4_longestRow_0, bk_X4_longestRow_10, bk_X4_longestRow_48, bk_X4_longestRow_49, bk_X4_longestRow_71, bk_X4_longestRow_77, pm_arr, pm_call, pm_e_c0, pm_e_c1, pm_e_cti, pm_e_ctl, pm_e_ctr, pm_e_go, pm_e_i, pm_e_ii, pm_e_ldi, pm_e_ldr, pm_e_lk, pm_e_r, pm_e_ri, pm_e_rm0, pm_e_rm1, pm_e_rs0, pm_e_rs1, pm_e_wp0, pm_e_wp1, pm_f2, pm_f3, pm_fld, pm_fv, pm_obj, pm_recv, pm_s_aload_n, pm_s_getfield, pm_s_goto, pm_s_iadd, pm_s_iaload, pm_s_iconst, pm_s_ifCond_eq, pm_s_ifCond_ne, pm_s_if_icmp_eq, pm_s_if_icmp_ge, pm_s_iinc, pm_s_iload, pm_s_iload_n, pm_s_imul, pm_s_invokevirtual, pm_s_ireturn, pm_s_istore, pm_s_istore_n, ct_X4_longestRow, pS, pR, pC, pE, pL, -Int32.not_le, -Int32.not_lt, -Int64.not_le, -Int64.not_lt, -List.getD_eq_getElem?_getD, st_0 hp, sx_1, m5]
          exact out
    refine hb0 _ _ _ ?_
    simp (maxSteps := 2000000) [bk_X4_longestRow_0, bk_X4_longestRow_10, bk_X4_longestRow_48, bk_X4_longestRow_49, bk_X4_longestRow_71, bk_X4_longestRow_77, pm_arr, pm_call, pm_e_c0, pm_e_c1, pm_e_cti, pm_e_ctl, pm_e_ctr, pm_e_go, pm_e_i, pm_e_ii, pm_e_ldi, pm_e_ldr, pm_e_lk, pm_e_r, pm_e_ri, pm_e_rm0, pm_e_rm1, pm_e_rs0, pm_e_rs1, pm_e_wp0, pm_e_wp1, pm_f2, pm_f3, pm_fld, pm_fv, pm_obj, pm_recv, pm_s_aload_n, pm_s_getfield, pm_s_goto, pm_s_iadd, pm_s_iaload, pm_s_iconst, pm_s_ifCond_eq, pm_s_ifCond_ne, pm_s_if_icmp_eq, pm_s_if_icmp_ge, pm_s_iinc, pm_s_iload, pm_s_iload_n, pm_s_imul, pm_s_invokevirtual, pm_s_ireturn, pm_s_istore, pm_s_istore_n, ct_X4_longestRow, pS, pR, pC, pE, pL, -Int32.not_le, -Int32.not_lt, -Int64.not_le, -Int64.not_lt, -List.getD_eq_getElem?_getD, lv_args, st_0 hp]
    refine ⟨ec, S, hp, hS, ?_⟩
    simp (maxSteps := 2000000) [bk_X4_longestRow_0, bk_X4_longestRow_10, bk_X4_longestRow_48, bk_X4_longestRow_49, bk_X4_longestRow_71, bk_X4_longestRow_77, pm_arr, pm_call, pm_e_c0, pm_e_c1, pm_e_cti, pm_e_ctl, pm_e_ctr, pm_e_go, pm_e_i, pm_e_ii, pm_e_ldi, pm_e_ldr, pm_e_lk, pm_e_r, pm_e_ri, pm_e_rm0, pm_e_rm1, pm_e_rs0, pm_e_rs1, pm_e_wp0, pm_e_wp1, pm_f2, pm_f3, pm_fld, pm_fv, pm_obj, pm_recv, pm_s_aload_n, pm_s_getfield, pm_s_goto, pm_s_iadd, pm_s_iaload, pm_s_iconst, pm_s_ifCond_eq, pm_s_ifCond_ne, pm_s_if_icmp_eq, pm_s_if_icmp_ge, pm_s_iinc, pm_s_iload, pm_s_iload_n, pm_s_imul, pm_s_invokevirtual, pm_s_ireturn, pm_s_istore, pm_s_istore_n, ct_X4_longestRow, pS, pR, pC, pE, pL, -Int32.not_le, -Int32.not_lt, -Int64.not_le, -Int64.not_lt, -List.getD_eq_getElem?_getD]
    simp only [ni_add]
    have := loop c 0 (by omega) (by omega)
    rw [show cnt 0 (helpF (s, r, c, e, w) S a b) = 0 from rfl, Nat.pow_zero, Nat.mul_one] at this
    exact this
  · exact hT.elim
/-- may the last n cards of a go onto b as a row -/
def canF (P : Pm) (ec : Nat) (S : St) (a b n : Nat) : Bool :=
  decide (n ≤ (S.1 a).length) && decide (n ≤ longF P ec S a b) && !(anyN (S.1 a).length (fun i => decide ((S.1 a).length - n < i) && !letF P ((S.1 a).getD i 0) ((S.1 a).getD (i - 1) 0))) && letF P ((S.1 a).getD ((S.1 a).length - n) 0) (lastC (S.1 b))
theorem longF_le {P : Pm} (hP : okP P) (ec : Nat) (S : St) (a b : Nat) : longF P ec S a b ≤ 48 := by
  have h1 := nfc_le ec S
  have h2 := pow_le16 (n := cnt (pC P) (helpF P S a b)) (by have := cnt_le (pC P) (helpF P S a b); have := hP.2.2.2.2.2.2.1; omega)
  unfold longF
  calc _ ≤ 3 * 16 := Nat.mul_le_mul (by omega) h2
    _ = 48 := rfl
def tt_X4_canShiftRow : pm_T := fun args M k => match args with
  | [.ref p, .int x, .int y, .int z] => ∃ ec S P a b n, isSt p ∧ x = nI a ∧ y = nI b ∧ z = nI n ∧ SdX M p ec S ∧ DkX M P ∧ inD P S ∧ a < 4 ∧ b < 4 ∧ 1 ≤ n ∧ n < 2 ^ 31 ∧ k (some (.int (pb (canF P ec S a b n)))) M
  | _ => False
abbrev ct_X4_canShiftRow : List pm_C := [(false, 116, 4, 3, (some .int), tt_X4_longestRow), (false, 70, 4, 3, (some .int), tt_X4_cardAt), (false, 93, 0, 3, (some .boolean), tt_X0_allows), (false, 79, 4, 2, (some .int), tt_X4_lastOf)]
set_option maxHeartbeats 4000000 in
theorem sm_X4_canShiftRow  : pm_Sem SHx yX4_canShiftRow cX4_canShiftRow 6 (some .boolean) 3 tt_X4_canShiftRow := by
  refine pm_Sem_intro bl_X4_canShiftRow ct_X4_canShiftRow cs_X4_canShiftRow rfl (List.forall_mem_cons.mpr ⟨⟨_, _, _, _, sm_X4_longestRow, by decide, cm_X4_longestRow, by decide +kernel⟩, List.forall_mem_cons.mpr ⟨⟨_, _, _, _, sm_X4_cardAt, by decide, cm_X4_cardAt, by decide +kernel⟩, List.forall_mem_cons.mpr ⟨⟨_, _, _, _, sm_X0_allows, by decide, cm_X0_allows, by decide +kernel⟩, List.forall_mem_cons.mpr ⟨⟨_, _, _, _, sm_X4_lastOf, by decide, cm_X4_lastOf, by decide +kernel⟩, fun _ h => absurd h List.not_mem_nil⟩⟩⟩⟩) ck_X4_canShiftRow (by decide +kernel) (by decide) ?_
  intro X k hX args M hT
  have hb0 := hX 0 bk_X4_canShiftRow_0 (List.mem_of_getElem? (i := 0) rfl)
  have hb25 := hX 25 bk_X4_canShiftRow_25 (List.mem_of_getElem? (i := 1) rfl)
  have hb27 := hX 27 bk_X4_canShiftRow_27 (List.mem_of_getElem? (i := 2) rfl)
  have hb33 := hX 33 bk_X4_canShiftRow_33 (List.mem_of_getElem? (i := 3) rfl)
  have hb72 := hX 72 bk_X4_canShiftRow_72 (List.mem_of_getElem? (i := 4) rfl)
  have hb78 := hX 78 bk_X4_canShiftRow_78 (List.mem_of_getElem? (i := 5) rfl)
  clear hX
  unfold tt_X4_canShiftRow at hT; split at hT
  · next p x y z =>
    obtain ⟨ec, S, P, a, b, n, hp, rfl, rfl, rfl, hS, hD, hI, ha, hb, n1, n2, hT⟩ := hT
    have hP := hD.1.1
    have hlen := hS.len ha
    have hlong := longF_le hP ec S a b
    have hcard : ∀ i, i < (S.1 a).length → 1 ≤ (S.1 a).getD i 0 ∧ (S.1 a).getD i 0 ≤ pS P * pR P := fun i hi => ⟨((hS.1.1 a ha).2 _ (getD_mem hi)).1, hI.1 a ha _ (getD_mem hi)⟩
    refine ⟨by simp [lg_sl, Value.category], ?_⟩
    have no : canF P ec S a b n = false → X 25 [] [] M := by
      intro hq
      refine hb25 _ _ _ ?_
      simp (maxSteps := 2000000) [bk_X4_canShiftRow_0, bk_X4_canShiftRow_25, bk_X4_canShiftRow_27, bk_X4_canShiftRow_33, bk_X4_canShiftRow_72, bk_X4_canShiftRow_78, pm_arr, pm_call, pm_e_c0, pm_e_c1, pm_e_cti, pm_e_ctl, pm_e_ctr, pm_e_go, pm_e_i, pm_e_ii, pm_e_ldi, pm_e_ldr, pm_e_lk, pm_e_r, pm_e_ri, pm_e_rm0, pm_e_rm1, pm_e_rs0, pm_e_rs1, pm_e_wp0, pm_e_wp1, pm_f2, pm_f3, pm_fld, pm_fv, pm_obj, pm_recv, pm_s_aload_n, pm_s_getfield, pm_s_goto, pm_s_iadd, pm_s_iaload, pm_s_iconst, pm_s_ifCond_lt, pm_s_ifCond_ne, pm_s_if_icmp_ge, pm_s_if_icmp_le, pm_s_iinc, pm_s_iload, pm_s_iload_n, pm_s_invokevirtual, pm_s_ireturn, pm_s_istore, pm_s_isub, ct_X4_canShiftRow, tt_X0_allows, pS, pR, pC, pE, pL, -Int32.not_le, -Int32.not_lt, -Int64.not_le, -Int64.not_lt, -List.getD_eq_getElem?_getD, ni_0]
      rw [hq] at hT
      first | exact hT | exact ⟨Or.inl rfl, hT⟩ | exact ⟨Or.inr rfl, hT⟩ | exact ⟨Or.inl trivial, hT⟩ | exact ⟨Or.inr trivial, hT⟩
    generalize hql : (fun i => decide ((S.1 a).length - n < i) && !letF P ((S.1 a).getD i 0) ((S.1 a).getD (i - 1) 0)) = q at *
    have hqi : ∀ i, q i = (decide ((S.1 a).length - n < i) && !letF P ((S.1 a).getD i 0) ((S.1 a).getD (i - 1) 0)) := fun i => by rw [← hql]
    have h27 : n ≤ (S.1 a).length → n ≤ longF P ec S a b → X 27 [(0, .ref p), (1, .int (nI a)), (2, .int (nI b)), (4, .int (nI ((S.1 a).length - n)))] [] M := by
      intro hn hn2
      have hcf : canF P ec S a b n = (!(anyN (S.1 a).length q) && letF P ((S.1 a).getD ((S.1 a).length - n) 0) (lastC (S.1 b))) := by
        unfold canF; rw [decide_eq_true hn, decide_eq_true hn2, hql]; rfl
      rw [hcf] at hT
      have out : (∀ i, i < (S.1 a).length → q i = false) → X 78 [(0, .ref p), (1, .int (nI a)), (2, .int (nI b)), (4, .int (nI ((S.1 a).length - n)))] [] M := by
        intro hA
        rw [anyN_no hA] at hT
        refine hb78 _ _ _ ?_
        simp (maxSteps := 2000000) [bk_X4_canShiftRow_0, bk_X4_canShiftRow_25, bk_X4_canShiftRow_27, bk_X4_canShiftRow_33, bk_X4_canShiftRow_72, bk_X4_canShiftRow_78, pm_arr, pm_call, pm_e_c0, pm_e_c1, pm_e_cti, pm_e_ctl, pm_e_ctr, pm_e_go, pm_e_i, pm_e_ii, pm_e_ldi, pm_e_ldr, pm_e_lk, pm_e_r, pm_e_ri, pm_e_rm0, pm_e_rm1, pm_e_rs0, pm_e_rs1, pm_e_wp0, pm_e_wp1, pm_f2, pm_f3, pm_fld, pm_fv, pm_obj, pm_recv, pm_s_aload_n, pm_s_getfield, pm_s_goto, pm_s_iadd, pm_s_iaload, pm_s_iconst, pm_s_ifCond_lt, pm_s_ifCond_ne, pm_s_if_icmp_ge, pm_s_if_icmp_le, pm_s_iinc, pm_s_iload, pm_s_iload_n, pm_s_invokevirtual, pm_s_ireturn, pm_s_istore, pm_s_isub, ct_X4_canShiftRow, tt_X0_allows, pS, pR, pC, pE, pL, -Int32.not_le, -Int32.not_lt, -Int64.not_le, -Int64.not_lt, -List.getD_eq_getElem?_getD, st_0 hp, sx_1]
        refine ⟨ec, S, a, hp, rfl, hS, ha, fun j hj ej => ?_, fun h => absurd rfl (h _ (by omega))⟩
        rw [ni_eq (by omega) (by omega)] at ej
        subst ej
        simp (maxSteps := 2000000) [bk_X4_canShiftRow_0, bk_X4_canShiftRow_25, bk_X4_canShiftRow_27, bk_X4_canShiftRow_33, bk_X4_canShiftRow_72, bk_X4_canShiftRow_78, pm_arr, pm_call, pm_e_c0, pm_e_c1, pm_e_cti, pm_e_ctl, pm_e_ctr, pm_e_go, pm_e_i, pm_e_ii, pm_e_ldi, pm_e_ldr, pm_e_lk, pm_e_r, pm_e_ri, pm_e_rm0, pm_e_rm1, pm_e_rs0, pm_e_rs1, pm_e_wp0, pm_e_wp1, pm_f2, pm_f3, pm_fld, pm_fv, pm_obj, pm_recv, pm_s_aload_n, pm_s_getfield, pm_s_goto, pm_s_iadd, pm_s_iaload, pm_s_iconst, pm_s_ifCond_lt, pm_s_ifCond_ne, pm_s_if_icmp_ge, pm_s_if_icmp_le, pm_s_iinc, pm_s_iload, pm_s_iload_n, pm_s_invokevirtual, pm_s_ireturn, pm_s_istore, pm_s_isub, ct_X4_canShiftRow, tt_X0_allows, pS, pR, pC, pE, pL, -Int32.not_le, -Int32.not_lt, -Int64.not_le, -Int64.not_lt, -List.getD_eq_getElem?_getD, st_0 hp, sx_1]
        refine ⟨ec, S, b, hp, rfl, hS, hb, ?_⟩
        simp (maxSteps := 2000000) [bk_X4_canShiftRow_0, bk_X4_canShiftRow_25, bk_X4_canShiftRow_27, bk_X4_canShiftRow_33, bk_X4_canShiftRow_72, bk_X4_canShiftRow_78, pm_arr, pm_call, pm_e_c0, pm_e_c1, pm_e_cti, pm_e_ctl, pm_e_ctr, pm_e_go, pm_e_i, pm_e_ii, pm_e_ldi, pm_e_ldr, pm_e_lk, pm_e_r, pm_e_ri, pm_e_rm0, pm_e_rm1, pm_e_rs0, pm_e_rs1, pm_e_wp0, pm_e_wp1, pm_f2, pm_f3, pm_fld, pm_fv, pm_obj, pm_recv, pm_s_aload_n, pm_s_getfield, pm_s_goto, pm_s_iadd, pm_s_iaload, pm_s_iconst, pm_s_ifCond_lt, pm_s_ifCond_ne, pm_s_if_icmp_ge, pm_s_if_icmp_le, pm_s_iinc, pm_s_iload, pm_s_iload_n, pm_s_invokevirtual, pm_s_ireturn, pm_s_istore, pm_s_isub, ct_X4_canShiftRow, tt_X0_allows, pS, pR, pC, pE, pL, -Int32.not_le, -Int32.not_lt, -Int64.not_le, -Int64.not_lt, -List.getD_eq_getElem?_getD, sx_1]
        have hc := hcard ((S.1 a).length - n) (by omega)
        rw [al_let hD hc.1 hc.2 (lastC_in (hI.1 b hb))]
        refine ⟨?_, hT⟩
        first | exact (pb_01 ▸ trivial) | (rw [pb_01]; trivial) | trivial
      have loop : ∀ (f i : Nat), (S.1 a).length ≤ i + f → (S.1 a).length - n + 1 ≤ i → i ≤ (S.1 a).length → (∀ j, j < i → q j = false) → X 33 [(0, .ref p), (1, .int (nI a)), (2, .int (nI b)), (4, .int (nI ((S.1 a).length - n))), (5, .int (nI i))] [] M := by
        intro f
        induction f with
        | zero =>
          intro i f1 f2 f3 hA
          refine hb33 _ _ _ ?_
          simp (maxSteps := 2000000) [bk_X4_canShiftRow_0, bk_X4_canShiftRow_25, bk_X4_canShiftRow_27, bk_X4_canShiftRow_33, bk_X4_canShiftRow_72, bk_X4_canShiftRow_78, pm_arr, pm_call, pm_e_c0, pm_e_c1, pm_e_cti, pm_e_ctl, pm_e_ctr, pm_e_go, pm_e_i, pm_e_ii, pm_e_ldi, pm_e_ldr, pm_e_lk, pm_e_r, pm_e_ri, pm_e_rm0, pm_e_rm1, pm_e_rs0, pm_e_rs1, pm_e_wp0, pm_e_wp1, pm_f2, pm_f3, pm_fld, pm_fv, pm_obj, pm_recv, pm_s_aload_n, pm_s_getfield, pm_s_goto, pm_s_iadd, pm_s_iaload, pm_s_iconst, pm_s_ifCond_lt, pm_s_ifCond_ne, pm_s_if_icmp_ge, pm_s_if_icmp_le, pm_s_iinc, pm_s_iload, pm_s_iload_n, pm_s_invokevirtual, pm_s_ireturn, pm_s_istore, pm_s_isub, ct_X4_canShiftRow, tt_X0_allows, pS, pR, pC, pE, pL, -Int32.not_le, -Int32.not_lt, -Int64.not_le, -Int64.not_lt, -List.getD_eq_getElem?_getD, st_0 hp, st_2 hp]
          simp (disch := omega) only [ni_in, ni_cl, ni_add, ni_mul, ni_sub, ni_lt, ni_le, ni_eq, ni_eq0, ni_lt0, ni_0le, ni_0lt, ni_le0, ni_a1, ni_a3, ni_a7, ni_a15, hS.n ha]
          exact ⟨by omega, fun _ => out (fun j hj => hA j (by omega)), fun h => by omega⟩
        | succ f ih =>
          intro i f1 f2 f3 hA
          refine hb33 _ _ _ ?_
          simp (maxSteps := 2000000) [bk_X4_canShiftRow_0, bk_X4_canShiftRow_25, bk_X4_canShiftRow_27, bk_X4_canShiftRow_33, bk_X4_canShiftRow_72, bk_X4_canShiftRow_78, pm_arr, pm_call, pm_e_c0, pm_e_c1, pm_e_cti, pm_e_ctl, pm_e_ctr, pm_e_go, pm_e_i, pm_e_ii, pm_e_ldi, pm_e_ldr, pm_e_lk, pm_e_r, pm_e_ri, pm_e_rm0, pm_e_rm1, pm_e_rs0, pm_e_rs1, pm_e_wp0, pm_e_wp1, pm_f2, pm_f3, pm_fld, pm_fv, pm_obj, pm_recv, pm_s_aload_n, pm_s_getfield, pm_s_goto, pm_s_iadd, pm_s_iaload, pm_s_iconst, pm_s_ifCond_lt, pm_s_ifCond_ne, pm_s_if_icmp_ge, pm_s_if_icmp_le, pm_s_iinc, pm_s_iload, pm_s_iload_n, pm_s_invokevirtual, pm_s_ireturn, pm_s_istore, pm_s_isub, ct_X4_canShiftRow, tt_X0_allows, pS, pR, pC, pE, pL, -Int32.not_le, -Int32.not_lt, -Int64.not_le, -Int64.not_lt, -List.getD_eq_getElem?_getD, st_0 hp, st_2 hp]
          simp (disch := omega) only [ni_in, ni_cl, ni_add, ni_mul, ni_sub, ni_lt, ni_le, ni_eq, ni_eq0, ni_lt0, ni_0le, ni_0lt, ni_le0, ni_a1, ni_a3, ni_a7, ni_a15, hS.n ha]
          refine ⟨by omega, fun _ => out (fun j hj => hA j (by omega)), fun h => ?_⟩
          refine ⟨ec, S, a, hp, rfl, hS, ha, fun j hj ej => ?_, fun h => absurd rfl (h i (by omega))⟩
          rw [ni_eq (by omega) (by omega)] at ej
          subst ej
          simp (maxSteps := 2000000) [bk_X4_canShiftRow_0, bk_X4_canShiftRow_25, bk_X4_canShiftRow_27, bk_X4_canShiftRow_33, bk_X4_canShiftRow_72, bk_X4_canShiftRow_78, pm_arr, pm_call, pm_e_c0, pm_e_c1, pm_e_cti, pm_e_ctl, pm_e_ctr, pm_e_go, pm_e_i, pm_e_ii, pm_e_ldi, pm_e_ldr, pm_e_lk, pm_e_r, pm_e_ri, pm_e_rm0, pm_e_rm1, pm_e_rs0, pm_e_rs1, pm_e_wp0, pm_e_wp1, pm_f2, pm_f3, pm_fld, pm_fv, pm_obj, pm_recv, pm_s_aload_n, pm_s_getfield, pm_s_goto, pm_s_iadd, pm_s_iaload, pm_s_iconst, pm_s_ifCond_lt, pm_s_ifCond_ne, pm_s_if_icmp_ge, pm_s_if_icmp_le, pm_s_iinc, pm_s_iload, pm_s_iload_n, pm_s_invokevirtual, pm_s_ireturn, pm_s_istore, pm_s_isub, ct_X4_canShiftRow, tt_X0_allows, pS, pR, pC, pE, pL, -Int32.not_le, -Int32.not_lt, -Int64.not_le, -Int64.not_lt, -List.getD_eq_getElem?_getD, st_0 hp, sx_1]
          refine ⟨ec, S, a, hp, rfl, hS, ha, fun j hj ej => ?_, fun h => absurd rfl (h (i - 1) (by omega))⟩
          rw [ni_eq (by omega) (by omega)] at ej
          subst ej
          simp (maxSteps := 2000000) [bk_X4_canShiftRow_0, bk_X4_canShiftRow_25, bk_X4_canShiftRow_27, bk_X4_canShiftRow_33, bk_X4_canShiftRow_72, bk_X4_canShiftRow_78, pm_arr, pm_call, pm_e_c0, pm_e_c1, pm_e_cti, pm_e_ctl, pm_e_ctr, pm_e_go, pm_e_i, pm_e_ii, pm_e_ldi, pm_e_ldr, pm_e_lk, pm_e_r, pm_e_ri, pm_e_rm0, pm_e_rm1, pm_e_rs0, pm_e_rs1, pm_e_wp0, pm_e_wp1, pm_f2, pm_f3, pm_fld, pm_fv, pm_obj, pm_recv, pm_s_aload_n, pm_s_getfield, pm_s_goto, pm_s_iadd, pm_s_iaload, pm_s_iconst, pm_s_ifCond_lt, pm_s_ifCond_ne, pm_s_if_icmp_ge, pm_s_if_icmp_le, pm_s_iinc, pm_s_iload, pm_s_iload_n, pm_s_invokevirtual, pm_s_ireturn, pm_s_istore, pm_s_isub, ct_X4_canShiftRow, tt_X0_allows, pS, pR, pC, pE, pL, -Int32.not_le, -Int32.not_lt, -Int64.not_le, -Int64.not_lt, -List.getD_eq_getElem?_getD, sx_1]
          have hc := hcard i (by omega)
          have hc' := hcard (i - 1) (by omega)
          rw [al_let hD hc.1 hc.2 hc'.2, pb_eq0]
          refine ⟨fun h' => ?_, fun h' => ?_⟩
          · refine hb72 _ _ _ ?_
            simp (maxSteps := 2000000) [bk_X4_canShiftRow_0, bk_X4_canShiftRow_25, bk_X4_canShiftRow_27, bk_X4_canShiftRow_33, bk_X4_canShiftRow_72, bk_X4_canShiftRow_78, pm_arr, pm_call, pm_e_c0, pm_e_c1, pm_e_cti, pm_e_ctl, pm_e_ctr, pm_e_go, pm_e_i, pm_e_ii, pm_e_ldi, pm_e_ldr, pm_e_lk, pm_e_r, pm_e_ri, pm_e_rm0, pm_e_rm1, pm_e_rs0, pm_e_rs1, pm_e_wp0, pm_e_wp1, pm_f2, pm_f3, pm_fld, pm_fv, pm_obj, pm_recv, pm_s_aload_n, pm_s_getfield, pm_s_goto, pm_s_iadd, pm_s_iaload, pm_s_iconst, pm_s_ifCond_lt, pm_s_ifCond_ne, pm_s_if_icmp_ge, pm_s_if_icmp_le, pm_s_iinc, pm_s_iload, pm_s_iload_n, pm_s_invokevirtual, pm_s_ireturn, pm_s_istore, pm_s_isub, ct_X4_canShiftRow, tt_X0_allows, pS, pR, pC, pE, pL, -Int32.not_le, -Int32.not_lt, -Int64.not_le, -Int64.not_lt, -List.getD_eq_getElem?_getD]
            simp only [ni_add]
            refine ih (i + 1) (by omega) (by omega) (by omega) (fun j hj => ?_)
            rcases Nat.lt_or_ge j i with z | z
            · exact hA j z
            · have : j = i := by omega
              subst this
              rw [hqi]; simp at h'; simp [h']
          · have : anyN (S.1 a).length q = true := anyN_iff.mpr ⟨i, by omega, by rw [hqi, h', decide_eq_true (by omega)]; rfl⟩
            rw [this] at hT
            first | exact hT | exact ⟨Or.inl rfl, hT⟩ | exact ⟨Or.inr rfl, hT⟩ | exact ⟨Or.inl trivial, hT⟩ | exact ⟨Or.inr trivial, hT⟩
      refine hb27 _ _ _ ?_
      simp (maxSteps := 2000000) [bk_X4_canShiftRow_0, bk_X4_canShiftRow_25, bk_X4_canShiftRow_27, bk_X4_canShiftRow_33, bk_X4_canShiftRow_72, bk_X4_canShiftRow_78, pm_arr, pm_call, pm_e_c0, pm_e_c1, pm_e_cti, pm_e_ctl, pm_e_ctr, pm_e_go, pm_e_i, pm_e_ii, pm_e_ldi, pm_e_ldr, pm_e_lk, pm_e_r, pm_e_ri, pm_e_rm0, pm_e_rm1, pm_e_rs0, pm_e_rs1, pm_e_wp0, pm_e_wp1, pm_f2, pm_f3, pm_fld, pm_fv, pm_obj, pm_recv, pm_s_aload_n, pm_s_getfield, pm_s_goto, pm_s_iadd, pm_s_iaload, pm_s_iconst, pm_s_ifCond_lt, pm_s_ifCond_ne, pm_s_if_icmp_ge, pm_s_if_icmp_le, pm_s_iinc, pm_s_iload, pm_s_iload_n, pm_s_invokevirtual, pm_s_ireturn, pm_s_istore, pm_s_isub, ct_X4_canShiftRow, tt_X0_allows, pS, pR, pC, pE, pL, -Int32.not_le, -Int32.not_lt, -Int64.not_le, -Int64.not_lt, -List.getD_eq_getElem?_getD]
      simp only [ni_add]
      refine loop n _ (by omega) (by omega) (by omega) (fun j hj => ?_)
      rw [hqi, decide_eq_false (by omega)]; rfl
    refine hb0 _ _ _ ?_
    simp (maxSteps := 2000000) [bk_X4_canShiftRow_0, bk_X4_canShiftRow_25, bk_X4_canShiftRow_27, bk_X4_canShiftRow_33, bk_X4_canShiftRow_72, bk_X4_canShiftRow_78, pm_arr, pm_call, pm_e_c0, pm_e_c1, pm_e_cti, pm_e_ctl, pm_e_ctr, pm_e_go, pm_e_i, pm_e_ii, pm_e_ldi, pm_e_ldr, pm_e_lk, pm_e_r, pm_e_ri, pm_e_rm0, pm_e_rm1, pm_e_rs0, pm_e_rs1, pm_e_wp0, pm_e_wp1, pm_f2, pm_f3, pm_fld, pm_fv, pm_obj, pm_recv, pm_s_aload_n, pm_s_getfield, pm_s_goto, pm_s_iadd, pm_s_iaload, pm_s_iconst, pm_s_ifCond_lt, pm_s_ifCond_ne, pm_s_if_icmp_ge, pm_s_if_icmp_le, pm_s_iinc, pm_s_iload, pm_s_iload_n, pm_s_invokevirtual, pm_s_ireturn, pm_s_istore, pm_s_isub, ct_X4_canShiftRow, tt_X0_allows, pS, pR, pC, pE, pL, -Int32.not_le, -Int32.not_lt, -Int64.not_le, -Int64.not_lt, -List.getD_eq_getElem?_getD, lv_args, st_0 hp, st_2 hp]
    simp (disch := omega) only [ni_in, ni_cl, ni_add, ni_mul, ni_sub, ni_lt, ni_le, ni_eq, ni_eq0, ni_lt0, ni_0le, ni_0lt, ni_le0, ni_a1, ni_a3, ni_a7, ni_a15, hS.n ha]
    refine ⟨by omega, ?_⟩
    by_cases hn : n ≤ (S.1 a).length
    · rw [ni_sub hn, ni_lt0 (by omega)]
      refine ⟨fun h => h.elim, fun _ => ?_⟩
      refine ⟨ec, S, P, a, b, hp, rfl, rfl, hS, hD, ha, hb, ?_⟩
      simp (maxSteps := 2000000) [bk_X4_canShiftRow_0, bk_X4_canShiftRow_25, bk_X4_canShiftRow_27, bk_X4_canShiftRow_33, bk_X4_canShiftRow_72, bk_X4_canShiftRow_78, pm_arr, pm_call, pm_e_c0, pm_e_c1, pm_e_cti, pm_e_ctl, pm_e_ctr, pm_e_go, pm_e_i, pm_e_ii, pm_e_ldi, pm_e_ldr, pm_e_lk, pm_e_r, pm_e_ri, pm_e_rm0, pm_e_rm1, pm_e_rs0, pm_e_rs1, pm_e_wp0, pm_e_wp1, pm_f2, pm_f3, pm_fld, pm_fv, pm_obj, pm_recv, pm_s_aload_n, pm_s_getfield, pm_s_goto, pm_s_iadd, pm_s_iaload, pm_s_iconst, pm_s_ifCond_lt, pm_s_ifCond_ne, pm_s_if_icmp_ge, pm_s_if_icmp_le, pm_s_iinc, pm_s_iload, pm_s_iload_n, pm_s_invokevirtual, pm_s_ireturn, pm_s_istore, pm_s_isub, ct_X4_canShiftRow, tt_X0_allows, pS, pR, pC, pE, pL, -Int32.not_le, -Int32.not_lt, -Int64.not_le, -Int64.not_lt, -List.getD_eq_getElem?_getD]
      simp (disch := omega) only [ni_in, ni_cl, ni_add, ni_mul, ni_sub, ni_lt, ni_le, ni_eq, ni_eq0, ni_lt0, ni_0le, ni_0lt, ni_le0, ni_a1, ni_a3, ni_a7, ni_a15]
      refine ⟨fun h => h27 hn h, fun h => no ?_⟩
      unfold canF; rw [decide_eq_false h]; simp
    · have hneg : nI (S.1 a).length - nI n < 0 := by
        rw [Int32.lt_iff_toInt_lt, Int32.toInt_sub, nI_toInt (by omega), nI_toInt n2, Int.bmod_def, show (0 : Int32).toInt = 0 from rfl]
        split <;> omega
      refine ⟨fun _ => no ?_, fun h => absurd hneg h⟩
      unfold canF; rw [decide_eq_false hn]; simp
  · exact hT.elim
