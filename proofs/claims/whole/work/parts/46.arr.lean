/-- which column and which cell is which -/
def arN (S : St) : Nat := sg S 0 + 4 * sg S 1 + 16 * sg S 2 + 64 * sg S 3 + (if S.2.1 0 < S.2.1 1 then 256 else 0)
def arS (S : St) : Nat → Nat
  | 0 => 0
  | n + 1 => arS S n + 4 ^ n * sg S n
theorem arS_4 (S : St) : arS S 4 = sg S 0 + 4 * sg S 1 + 16 * sg S 2 + 64 * sg S 3 := by simp [arS]
theorem arS_lt (S : St) : ∀ n, arS S n < 4 ^ n
  | 0 => by simp [arS]
  | n + 1 => by
    have h1 := arS_lt S n
    have h2 := sg_lt S n
    show arS S n + 4 ^ n * sg S n < 4 ^ (n + 1)
    have h3 : 4 ^ n * sg S n ≤ 4 ^ n * 3 := Nat.mul_le_mul_left _ (by omega)
    rw [Nat.pow_succ]; omega
theorem ni_or {a b k : Nat} (hb : b < 2 ^ k) (h : a * 2 ^ k + b < 2 ^ 31) : nI (a * 2 ^ k) ||| nI b = nI (a * 2 ^ k + b) := by
  have hp : 0 < 2 ^ k := Nat.pow_pos (by decide)
  have e : nI (a * 2 ^ k) ||| nI b = nI (a * 2 ^ k ||| b) := by
    apply Int32.toBitVec.inj
    show BitVec.ofNat 32 (a * 2 ^ k) ||| BitVec.ofNat 32 b = BitVec.ofNat 32 (a * 2 ^ k ||| b)
    exact BitVec.ofNat_or.symm
  rw [e]; congr 1
  rw [Nat.mul_comm]
  exact (Nat.two_pow_add_eq_or_of_lt hb a).symm
theorem ni_or2 {a b k : Nat} (hb : b < 2 ^ k) (h : a * 2 ^ k + b < 2 ^ 31) : nI b ||| nI (a * 2 ^ k) = nI (a * 2 ^ k + b) := by
  rw [← ni_or hb h]
  apply Int32.toBitVec.inj
  rw [Int32.toBitVec_or, Int32.toBitVec_or, BitVec.or_comm]
theorem ni_sh31 : ∀ k, k < 32 → ((nI k &&& 31).toBitVec.smod 32).toNat = k := by decide +kernel
theorem ni_shl {a k : Nat} (hk : k < 31) (h : a * 2 ^ k < 2 ^ 32) : nI a <<< (nI k &&& 31) = nI (a * 2 ^ k) := pk_shlN _ k (ni_sh31 k (by omega)) h
def tt_X4_arrangement : pm_T := fun args M k => match args with
  | [.ref p] => ∃ ec S, isSt p ∧ SdX M p ec S ∧ ∀ M', pm_fr [p + 5] M M' → k (some (.int (nI (arN S)))) M'
  | _ => False
abbrev ct_X4_arrangement : List pm_C := [(false, 143, 4, 1, none, tt_X4_sortColumns), (false, 146, 4, 2, (some .int), tt_X4_inOrder)]
set_option maxHeartbeats 4000000 in
theorem sm_X4_arrangement  : pm_Sem SHx yX4_arrangement cX4_arrangement 3 (some .int) 2 tt_X4_arrangement := by
  refine pm_Sem_intro bl_X4_arrangement ct_X4_arrangement cs_X4_arrangement rfl (List.forall_mem_cons.mpr ⟨⟨_, _, _, _, sm_X4_sortColumns, by decide, cm_X4_sortColumns, by decide +kernel⟩, List.forall_mem_cons.mpr ⟨⟨_, _, _, _, sm_X4_inOrder, by decide, cm_X4_inOrder, by decide +kernel⟩, fun _ h => absurd h List.not_mem_nil⟩⟩) ck_X4_arrangement (by decide +kernel) (by decide) ?_
  intro X k hX args M hT
  have hb0 := hX 0 bk_X4_arrangement_0 (List.mem_of_getElem? (i := 0) rfl)
  have hb8 := hX 8 bk_X4_arrangement_8 (List.mem_of_getElem? (i := 1) rfl)
  have hb31 := hX 31 bk_X4_arrangement_31 (List.mem_of_getElem? (i := 2) rfl)
  have hb50 := hX 50 bk_X4_arrangement_50 (List.mem_of_getElem? (i := 3) rfl)
  have hb51 := hX 51 bk_X4_arrangement_51 (List.mem_of_getElem? (i := 4) rfl)
  clear hX
  unfold tt_X4_arrangement at hT; split at hT
  · next p =>
    obtain ⟨ec, S, hp, hS, hT⟩ := hT
    refine ⟨by simp [lg_sl, Value.category], ?_⟩
    refine hb0 _ _ _ ?_
    simp (maxSteps := 2000000) [bk_X4_arrangement_0, bk_X4_arrangement_8, bk_X4_arrangement_31, bk_X4_arrangement_50, bk_X4_arrangement_51, pm_arr, pm_call, pm_e_c0, pm_e_c1, pm_e_cti, pm_e_ctl, pm_e_ctr, pm_e_go, pm_e_i, pm_e_ii, pm_e_ldi, pm_e_ldr, pm_e_lk, pm_e_r, pm_e_ri, pm_e_rm0, pm_e_rm1, pm_e_rs0, pm_e_rs1, pm_e_wp0, pm_e_wp1, pm_f2, pm_f3, pm_fld, pm_fv, pm_obj, pm_recv, pm_s_aload_n, pm_s_bipush, pm_s_getfield, pm_s_goto, pm_s_iaload, pm_s_iconst, pm_s_if_icmp_ge, pm_s_iinc, pm_s_iload_n, pm_s_imul, pm_s_invokevirtual, pm_s_ior, pm_s_ireturn, pm_s_ishl, pm_s_istore_n, ct_X4_arrangement, pS, pR, pC, pE, pL, -Int32.not_le, -Int32.not_lt, -Int64.not_le, -Int64.not_lt, -List.getD_eq_getElem?_getD, lv_args, st_0 hp]
    refine ⟨ec, S, hp, hS, fun M' L l1 l2 l3 hf => ?_⟩
    rw [oL_uniq l1 l2] at l3
    have hS' := hS.m5 hf
    simp (maxSteps := 2000000) [bk_X4_arrangement_0, bk_X4_arrangement_8, bk_X4_arrangement_31, bk_X4_arrangement_50, bk_X4_arrangement_51, pm_arr, pm_call, pm_e_c0, pm_e_c1, pm_e_cti, pm_e_ctl, pm_e_ctr, pm_e_go, pm_e_i, pm_e_ii, pm_e_ldi, pm_e_ldr, pm_e_lk, pm_e_r, pm_e_ri, pm_e_rm0, pm_e_rm1, pm_e_rs0, pm_e_rs1, pm_e_wp0, pm_e_wp1, pm_f2, pm_f3, pm_fld, pm_fv, pm_obj, pm_recv, pm_s_aload_n, pm_s_bipush, pm_s_getfield, pm_s_goto, pm_s_iaload, pm_s_iconst, pm_s_if_icmp_ge, pm_s_iinc, pm_s_iload_n, pm_s_imul, pm_s_invokevirtual, pm_s_ior, pm_s_ireturn, pm_s_ishl, pm_s_istore_n, ct_X4_arrangement, pS, pR, pC, pE, pL, -Int32.not_le, -Int32.not_lt, -Int64.not_le, -Int64.not_lt, -List.getD_eq_getElem?_getD]
    have c0 := hS.1.2.1 0 (by decide)
    have c1 := hS.1.2.1 1 (by decide)
    have h51 : ∀ q : Bool, q = decide (S.2.1 0 < S.2.1 1) → X 51 [(1, .int (nI (arS S 4)))] [.int (pb q)] M' := by
      intro q hq
      refine hb51 _ _ _ ?_
      simp (maxSteps := 2000000) [bk_X4_arrangement_0, bk_X4_arrangement_8, bk_X4_arrangement_31, bk_X4_arrangement_50, bk_X4_arrangement_51, pm_arr, pm_call, pm_e_c0, pm_e_c1, pm_e_cti, pm_e_ctl, pm_e_ctr, pm_e_go, pm_e_i, pm_e_ii, pm_e_ldi, pm_e_ldr, pm_e_lk, pm_e_r, pm_e_ri, pm_e_rm0, pm_e_rm1, pm_e_rs0, pm_e_rs1, pm_e_wp0, pm_e_wp1, pm_f2, pm_f3, pm_fld, pm_fv, pm_obj, pm_recv, pm_s_aload_n, pm_s_bipush, pm_s_getfield, pm_s_goto, pm_s_iaload, pm_s_iconst, pm_s_if_icmp_ge, pm_s_iinc, pm_s_iload_n, pm_s_imul, pm_s_invokevirtual, pm_s_ior, pm_s_ireturn, pm_s_ishl, pm_s_istore_n, ct_X4_arrangement, pS, pR, pC, pE, pL, -Int32.not_le, -Int32.not_lt, -Int64.not_le, -Int64.not_lt, -List.getD_eq_getElem?_getD]
      have hlt := arS_lt S 4
      have e1 : (pb q <<< (nI 8 &&& 31)) ||| nI (arS S 4) = nI (arN S) := by
        have e2 : pb q = nI (if S.2.1 0 < S.2.1 1 then 1 else 0) := by
          rw [hq]; by_cases z : S.2.1 0 < S.2.1 1 <;> simp [z, pb, ni_0, ni_1]
        have b1 : (if S.2.1 0 < S.2.1 1 then 1 else 0) ≤ 1 := by split <;> omega
        rw [e2, ni_shl (by decide) (by omega), ni_or (k := 8) hlt (by have : arS S 4 < 256 := hlt; omega)]
        congr 1
        rw [arS_4, arN]; split <;> omega
      rw [e1]
      exact hT M' hf
    have out : X 31 [(0, .ref p), (1, .int (nI (arS S 4)))] [] M' := by
      refine hb31 _ _ _ ?_
      simp (maxSteps := 2000000) [bk_X4_arrangement_0, bk_X4_arrangement_8, bk_X4_arrangement_31, bk_X4_arrangement_50, bk_X4_arrangement_51, pm_arr, pm_call, pm_e_c0, pm_e_c1, pm_e_cti, pm_e_ctl, pm_e_ctr, pm_e_go, pm_e_i, pm_e_ii, pm_e_ldi, pm_e_ldr, pm_e_lk, pm_e_r, pm_e_ri, pm_e_rm0, pm_e_rm1, pm_e_rs0, pm_e_rs1, pm_e_wp0, pm_e_wp1, pm_f2, pm_f3, pm_fld, pm_fv, pm_obj, pm_recv, pm_s_aload_n, pm_s_bipush, pm_s_getfield, pm_s_goto, pm_s_iaload, pm_s_iconst, pm_s_if_icmp_ge, pm_s_iinc, pm_s_iload_n, pm_s_imul, pm_s_invokevirtual, pm_s_ior, pm_s_ireturn, pm_s_ishl, pm_s_istore_n, ct_X4_arrangement, pS, pR, pC, pE, pL, -Int32.not_le, -Int32.not_lt, -Int64.not_le, -Int64.not_lt, -List.getD_eq_getElem?_getD, st_0 hp, st_3 hp]
      simp (disch := omega) only [ni_in, ni_cl, ni_add, ni_mul, ni_sub, ni_lt, ni_le, ni_eq, ni_eq0, ni_lt0, ni_0le, ni_0lt, ni_le0, ni_a1, ni_a3, ni_a7, ni_a15, hS'.e (show 0 < 2 by decide), hS'.e (show 1 < 2 by decide)]
      repeat refine ⟨by omega, ?_⟩
      refine ⟨fun h => ?_, fun h => ?_⟩
      · refine hb50 _ _ _ ?_
        simp (maxSteps := 2000000) [bk_X4_arrangement_0, bk_X4_arrangement_8, bk_X4_arrangement_31, bk_X4_arrangement_50, bk_X4_arrangement_51, pm_arr, pm_call, pm_e_c0, pm_e_c1, pm_e_cti, pm_e_ctl, pm_e_ctr, pm_e_go, pm_e_i, pm_e_ii, pm_e_ldi, pm_e_ldr, pm_e_lk, pm_e_r, pm_e_ri, pm_e_rm0, pm_e_rm1, pm_e_rs0, pm_e_rs1, pm_e_wp0, pm_e_wp1, pm_f2, pm_f3, pm_fld, pm_fv, pm_obj, pm_recv, pm_s_aload_n, pm_s_bipush, pm_s_getfield, pm_s_goto, pm_s_iaload, pm_s_iconst, pm_s_if_icmp_ge, pm_s_iinc, pm_s_iload_n, pm_s_imul, pm_s_invokevirtual, pm_s_ior, pm_s_ireturn, pm_s_ishl, pm_s_istore_n, ct_X4_arrangement, pS, pR, pC, pE, pL, -Int32.not_le, -Int32.not_lt, -Int64.not_le, -Int64.not_lt, -List.getD_eq_getElem?_getD]
        exact h51 false (by rw [decide_eq_false (by omega)])
      · exact h51 true (by rw [decide_eq_true (by omega)])
    have loop : ∀ (f j : Nat), 4 ≤ j + f → j ≤ 4 → X 8 [(0, .ref p), (1, .int (nI (arS S j))), (2, .int (nI j))] [] M' := by
      intro f
      induction f with
      | zero =>
        intro j f1 f2
        have e1 : j = 4 := by omega
        subst e1
        refine hb8 _ _ _ ?_
        simp (maxSteps := 2000000) [bk_X4_arrangement_0, bk_X4_arrangement_8, bk_X4_arrangement_31, bk_X4_arrangement_50, bk_X4_arrangement_51, pm_arr, pm_call, pm_e_c0, pm_e_c1, pm_e_cti, pm_e_ctl, pm_e_ctr, pm_e_go, pm_e_i, pm_e_ii, pm_e_ldi, pm_e_ldr, pm_e_lk, pm_e_r, pm_e_ri, pm_e_rm0, pm_e_rm1, pm_e_rs0, pm_e_rs1, pm_e_wp0, pm_e_wp1, pm_f2, pm_f3, pm_fld, pm_fv, pm_obj, pm_recv, pm_s_aload_n, pm_s_bipush, pm_s_getfield, pm_s_goto, pm_s_iaload, pm_s_iconst, pm_s_if_icmp_ge, pm_s_iinc, pm_s_iload_n, pm_s_imul, pm_s_invokevirtual, pm_s_ior, pm_s_ireturn, pm_s_ishl, pm_s_istore_n, ct_X4_arrangement, pS, pR, pC, pE, pL, -Int32.not_le, -Int32.not_lt, -Int64.not_le, -Int64.not_lt, -List.getD_eq_getElem?_getD]
        exact out
      | succ f ih =>
        intro j f1 f2
        by_cases hj : j < 4
        · refine hb8 _ _ _ ?_
          simp [bk_X4_arrangement_8, pm_e_wp1, pm_e_wp0, pm_s_iload, pm_s_iload_n, pm_s_iconst, pm_s_bipush, pm_e_c0, pm_s_aload_n, pm_e_ldi, pm_e_ldr, pm_e_lk, pm_f2, pm_f3, pm_s_if_icmp_ge, pm_e_ii, pm_e_go, pm_e_rs0, pm_e_rs1, pm_e_cti, pm_e_ctr, pm_s_invokevirtual, ct_X4_arrangement, pm_call, pm_recv, pm_obj, st_0 hp, -Int32.not_le, -Int32.not_lt]
          simp (disch := omega) only [ni_in, ni_cl, ni_add, ni_mul, ni_sub, ni_lt, ni_le, ni_eq, ni_eq0, ni_lt0, ni_0le, ni_0lt, ni_le0, ni_a1, ni_a3, ni_a7, ni_a15]
          refine ⟨fun h => by omega, fun _ => ?_⟩
          have hg := sg_lt S j
          have hkl : ky S (sg S j) < 2 ^ 63 := by have := al_lt (hS.d16 hg) (hS.len hg); unfold ky; omega
          refine ⟨j, ky S (sg S j), hp, rfl, hj, hkl, by rw [l3 j hj, oL_at S hj], ?_⟩
          rw [ky_mod S hg]
          simp (maxSteps := 2000000) [bk_X4_arrangement_0, bk_X4_arrangement_8, bk_X4_arrangement_31, bk_X4_arrangement_50, bk_X4_arrangement_51, pm_arr, pm_call, pm_e_c0, pm_e_c1, pm_e_cti, pm_e_ctl, pm_e_ctr, pm_e_go, pm_e_i, pm_e_ii, pm_e_ldi, pm_e_ldr, pm_e_lk, pm_e_r, pm_e_ri, pm_e_rm0, pm_e_rm1, pm_e_rs0, pm_e_rs1, pm_e_wp0, pm_e_wp1, pm_f2, pm_f3, pm_fld, pm_fv, pm_obj, pm_recv, pm_s_aload_n, pm_s_bipush, pm_s_getfield, pm_s_goto, pm_s_iaload, pm_s_iconst, pm_s_if_icmp_ge, pm_s_iinc, pm_s_iload_n, pm_s_imul, pm_s_invokevirtual, pm_s_ior, pm_s_ireturn, pm_s_ishl, pm_s_istore_n, ct_X4_arrangement, pS, pR, pC, pE, pL, -Int32.not_le, -Int32.not_lt, -Int64.not_le, -Int64.not_lt, -List.getD_eq_getElem?_getD]
          have hlt := arS_lt S j
          have e4 : (2 : Nat) ^ (2 * j) = 4 ^ j := by rw [Nat.pow_mul]
          have hp4 : 4 ^ j ≤ 64 := (Nat.pow_le_pow_right (by decide : 4 > 0) (show j ≤ 3 by omega) : 4 ^ j ≤ 4 ^ 3)
          have hm3 : sg S j * 4 ^ j ≤ 3 * 64 := Nat.mul_le_mul (by omega) hp4
          simp only [ni_mul, ni_add]
          rw [ni_shl (by omega) (by rw [e4]; omega), ni_or2 (by rw [e4]; exact hlt) (by rw [e4]; omega), e4]
          have := ih (j + 1) (by omega) (by omega)
          rw [show arS S (j + 1) = sg S j * 4 ^ j + arS S j from by show arS S j + 4 ^ j * sg S j = _; rw [Nat.mul_comm, Nat.add_comm]] at this
          exact this
        · have e1 : j = 4 := by omega
          subst e1
          refine hb8 _ _ _ ?_
          simp (maxSteps := 2000000) [bk_X4_arrangement_0, bk_X4_arrangement_8, bk_X4_arrangement_31, bk_X4_arrangement_50, bk_X4_arrangement_51, pm_arr, pm_call, pm_e_c0, pm_e_c1, pm_e_cti, pm_e_ctl, pm_e_ctr, pm_e_go, pm_e_i, pm_e_ii, pm_e_ldi, pm_e_ldr, pm_e_lk, pm_e_r, pm_e_ri, pm_e_rm0, pm_e_rm1, pm_e_rs0, pm_e_rs1, pm_e_wp0, pm_e_wp1, pm_f2, pm_f3, pm_fld, pm_fv, pm_obj, pm_recv, pm_s_aload_n, pm_s_bipush, pm_s_getfield, pm_s_goto, pm_s_iaload, pm_s_iconst, pm_s_if_icmp_ge, pm_s_iinc, pm_s_iload_n, pm_s_imul, pm_s_invokevirtual, pm_s_ior, pm_s_ireturn, pm_s_ishl, pm_s_istore_n, ct_X4_arrangement, pS, pR, pC, pE, pL, -Int32.not_le, -Int32.not_lt, -Int64.not_le, -Int64.not_lt, -List.getD_eq_getElem?_getD]
          exact out
    exact loop 4 0 (by omega) (by omega)
  · exact hT.elim
