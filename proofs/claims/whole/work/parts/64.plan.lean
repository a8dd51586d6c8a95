/-! THE PLAN (at 38: 39 eight moves a long) -/
/-- the byte k of a long -/
def bz (v : Int64) (k : Nat) : Nat := v.toBitVec.toNat / 2 ^ (8 * k) % 2 ^ 8
theorem bz_tb (v : Int64) (k b : Nat) : (bz v k).testBit b = (decide (b < 8) && v.toBitVec.toNat.testBit (8 * k + b)) := by
  unfold bz
  rw [Nat.testBit_mod_two_pow, ← Nat.shiftRight_eq_div_pow, Nat.testBit_shiftRight]
theorem bz_lt (v : Int64) (k : Nat) : bz v k < 256 := Nat.mod_lt _ (by decide)
theorem wb_xorN {a b : Nat} (ha : a < 2 ^ 64) (hb : b < 2 ^ 64) : lN a ^^^ lN b = lN (a ^^^ b) := by
  apply wb_inj
  rw [Int64.toBitVec_xor, wb_tb, wb_tb, wb_tb]
  apply BitVec.eq_of_toNat_eq
  rw [BitVec.toNat_xor, BitVec.toNat_ofNat, BitVec.toNat_ofNat, BitVec.toNat_ofNat, Nat.mod_eq_of_lt ha, Nat.mod_eq_of_lt hb, Nat.mod_eq_of_lt (Nat.xor_lt_two_pow ha hb)]
theorem tb_mul (a n i : Nat) : (a * 2 ^ n).testBit i = (decide (n ≤ i) && a.testBit (i - n)) := by
  rw [← Nat.shiftLeft_eq, Nat.testBit_shiftLeft]
theorem bz_set (v : Int64) {k k' m : Nat} (hk : k < 8) (hk' : k' < 8) (hm : m < 256) : bz ((v &&& ((lN 255 <<< ((nI (8 * k)).toInt64 &&& 63)) ^^^ lN 18446744073709551615)) ||| (lN m <<< ((nI (8 * k)).toInt64 &&& 63))) k' = if k' = k then m else bz v k' := by
  obtain ⟨n, hn, rfl⟩ := wb_of v
  have hp : 2 ^ (8 * k) ≤ 2 ^ 56 := Nat.pow_le_pow_right (by decide) (by omega)
  have h255 : 255 * 2 ^ (8 * k) < 2 ^ 64 := by omega
  have hmm : m * 2 ^ (8 * k) < 2 ^ 64 := by
    have : m * 2 ^ (8 * k) ≤ 255 * 2 ^ (8 * k) := Nat.mul_le_mul_right _ (by omega)
    omega
  have hx : (255 * 2 ^ (8 * k)) ^^^ 18446744073709551615 < 2 ^ 64 := Nat.xor_lt_two_pow h255 (by decide)
  have ha : n &&& ((255 * 2 ^ (8 * k)) ^^^ 18446744073709551615) < 2 ^ 64 := Nat.and_lt_two_pow _ hx
  rw [wb_shl _ (by omega), wb_shl _ (by omega), wb_xorN h255 (by decide), wb_and hn hx, wb_or ha hmm]
  apply Nat.eq_of_testBit_eq
  intro b
  rw [bz_tb, wb_tn (Nat.or_lt_two_pow ha hmm), Nat.testBit_or, Nat.testBit_and, Nat.testBit_xor, tb_mul, tb_mul, show (255 : Nat) = 2 ^ 8 - 1 from rfl, show (18446744073709551615 : Nat) = 2 ^ 64 - 1 from rfl, Nat.testBit_two_pow_sub_one, Nat.testBit_two_pow_sub_one]
  by_cases hb : b < 8
  · have h64 : 8 * k' + b < 64 := by omega
    by_cases e : k' = k
    · subst e
      rw [if_pos rfl, show 8 * k' + b - 8 * k' = b by omega]
      simp [hb, h64]
    · rw [if_neg e, bz_tb, wb_tn hn]
      rcases Nat.lt_or_ge k' k with q | q
      · simp [hb, h64, show ¬ 8 * k ≤ 8 * k' + b by omega]
      · have h3 : ¬ 8 * k' + b - 8 * k < 8 := by omega
        have h4 : m.testBit (8 * k' + b - 8 * k) = false := Nat.testBit_lt_two_pow (Nat.lt_of_lt_of_le hm (show 2 ^ 8 ≤ 2 ^ (8 * k' + b - 8 * k) from Nat.pow_le_pow_right (by decide) (by omega)))
        simp [hb, h64, h3, h4]
  · have h2 : 256 ≤ 2 ^ b := (Nat.pow_le_pow_right (by decide : 2 > 0) (show 8 ≤ b by omega) : 2 ^ 8 ≤ 2 ^ b)
    have h1 : (if k' = k then m else bz (lN n) k').testBit b = false := by
      apply Nat.testBit_lt_two_pow
      split
      · omega
      · have := bz_lt (lN n) k'; omega
    rw [h1]; simp [hb]
theorem bz_get (v : Int64) {k : Nat} (hk : k < 8) : (v.toUInt64 >>> ((nI (8 * k)).toInt64.toUInt64 &&& Int64.toUInt64 63)).toInt64.toInt32 &&& nI 255 = nI (bz v k) := by
  obtain ⟨n, hn, rfl⟩ := wb_of v
  rw [wb_shr hn (by omega), ln_i]
  refine (pk_and _ 8 (by decide)).trans ?_
  rw [show (nI (n / 2 ^ (8 * k))).toBitVec.toNat = (n / 2 ^ (8 * k)) % 2 ^ 32 from rfl]
  unfold bz
  rw [wb_tn hn]
  congr 1
  exact Nat.mod_mod_of_dvd _ (by decide)
/-- the move i of the plan's row, as 8 from and to -/
def pmv (M : pm_M) (i : Nat) : Nat := bz (M.2 39 (i / 8)) (i % 8)
def tt_X2_write : pm_T := fun args M k => match args with
  | [.ref 38, .int x, .int y] => ∃ i m, x = nI i ∧ y = nI m ∧ i < 4000 ∧ m < 256 ∧ ∀ M', (∀ j, j < 4000 → pmv M' j = if j = i then m else pmv M j) → pm_fr [39] M M' → k none M'
  | _ => False
abbrev ct_X2_write : List pm_C := []
set_option maxHeartbeats 4000000 in
theorem sm_X2_write  : pm_Sem SHx yX2_write cX2_write 6 none 1 tt_X2_write := by
  refine pm_Sem_intro bl_X2_write ct_X2_write cs_X2_write rfl (fun _ h => absurd h List.not_mem_nil) ck_X2_write (by decide +kernel) (by decide) ?_
  intro X k hX args M hT
  have hb0 := hX 0 bk_X2_write_0 (List.mem_of_getElem? (i := 0) rfl)
  clear hX
  unfold tt_X2_write at hT; split at hT
  · obtain ⟨i, m, rfl, rfl, hi, hm, hT⟩ := hT
    refine ⟨by simp [lg_sl, Value.category], ?_⟩
    refine hb0 _ _ _ ?_
    simp (maxSteps := 2000000) [bk_X2_write_0, pm_arr, pm_e_c0, pm_e_c1, pm_e_cti, pm_e_ctl, pm_e_ctr, pm_e_go, pm_e_i, pm_e_ii, pm_e_l, pm_e_ldi, pm_e_ldl, pm_e_ldr, pm_e_li, pm_e_lk, pm_e_ll, pm_e_r, pm_e_ri, pm_e_ril, pm_e_rm0, pm_e_rm1, pm_e_rs0, pm_e_rs1, pm_e_wp0, pm_e_wp1, pm_f2, pm_f3, pm_fld, pm_fv, pm_obj, pm_s_aload_n, pm_s_bipush, pm_s_getfield, pm_s_i2l, pm_s_idiv, pm_s_iload_n, pm_s_imul, pm_s_irem, pm_s_istore_n, pm_s_laload, pm_s_land, pm_s_lastore, pm_s_ldc2_w, pm_s_lload, pm_s_lor, pm_s_lshl, pm_s_lstore, pm_s_lxor, pm_s_return, ct_X2_write, pS, pR, pC, pE, pL, -Int32.not_le, -Int32.not_lt, -Int64.not_le, -Int64.not_lt, -List.getD_eq_getElem?_getD, lv_args, sx_38, sx_39]
    simp (disch := omega) only [ni_in, ni_cl, ni_add, ni_mul, ni_sub, ni_lt, ni_le, ni_eq, ni_eq0, ni_lt0, ni_0le, ni_0lt, ni_le0, ni_a1, ni_a3, ni_a7, ni_a15, ni_rem, ni_div]
    repeat refine ⟨by omega, ?_⟩
    rw [ni_l (n := m) (by omega), show i - i / 8 * 8 = i % 8 by omega]
    refine hT _ (fun j hj => ?_) (pm_fr.rfl.setL (by simp))
    unfold pmv
    rw [me_4s]
    by_cases e : j / 8 = i / 8
    · rw [if_pos e, bz_set _ (by omega) (by omega) hm, e]
      by_cases e2 : j = i
      · rw [if_pos e2, if_pos (by rw [e2])]
      · rw [if_neg e2, if_neg (by omega)]
    · rw [if_neg e, if_neg (fun z => e (by rw [z]))]
  · exact hT.elim
def tt_X2_moveAt : pm_T := fun args M k => match args with
  | [.ref 38, .int x] => ∃ i, x = nI i ∧ i < 4000 ∧ k (some (.int (nI (pmv M i)))) M
  | _ => False
abbrev ct_X2_moveAt : List pm_C := []
set_option maxHeartbeats 4000000 in
theorem sm_X2_moveAt  : pm_Sem SHx yX2_moveAt cX2_moveAt 2 (some .int) 1 tt_X2_moveAt := by
  refine pm_Sem_intro bl_X2_moveAt ct_X2_moveAt cs_X2_moveAt rfl (fun _ h => absurd h List.not_mem_nil) ck_X2_moveAt (by decide +kernel) (by decide) ?_
  intro X k hX args M hT
  have hb0 := hX 0 bk_X2_moveAt_0 (List.mem_of_getElem? (i := 0) rfl)
  clear hX
  unfold tt_X2_moveAt at hT; split at hT
  · obtain ⟨i, rfl, hi, hT⟩ := hT
    refine ⟨by simp [lg_sl, Value.category], ?_⟩
    refine hb0 _ _ _ ?_
    simp (maxSteps := 2000000) [bk_X2_moveAt_0, pm_arr, pm_e_c0, pm_e_c1, pm_e_cti, pm_e_ctl, pm_e_ctr, pm_e_go, pm_e_ii, pm_e_l, pm_e_ldi, pm_e_ldr, pm_e_li, pm_e_lk, pm_e_r, pm_e_ri, pm_e_rm0, pm_e_rm1, pm_e_rs0, pm_e_rs1, pm_e_wp0, pm_e_wp1, pm_f2, pm_f3, pm_fld, pm_fv, pm_obj, pm_s_aload_n, pm_s_bipush, pm_s_getfield, pm_s_iand, pm_s_idiv, pm_s_iload_n, pm_s_imul, pm_s_irem, pm_s_ireturn, pm_s_l2i, pm_s_laload, pm_s_lushr, pm_s_sipush, ct_X2_moveAt, pS, pR, pC, pE, pL, -Int32.not_le, -Int32.not_lt, -Int64.not_le, -Int64.not_lt, -List.getD_eq_getElem?_getD, lv_args, sx_38, sx_39]
    simp (disch := omega) only [ni_in, ni_cl, ni_add, ni_mul, ni_sub, ni_lt, ni_le, ni_eq, ni_eq0, ni_lt0, ni_0le, ni_0lt, ni_le0, ni_a1, ni_a3, ni_a7, ni_a15, ni_rem, ni_div]
    repeat refine ⟨by omega, ?_⟩
    rw [show i - i / 8 * 8 = i % 8 by omega, bz_get _ (by omega)]
    exact hT
  · exact hT.elim
def tt_X2_fromAt : pm_T := fun args M k => match args with
  | [.ref 38, .int x] => ∃ i, x = nI i ∧ i < 4000 ∧ k (some (.int (nI (pmv M i / 8)))) M
  | _ => False
theorem ni_shr3 : ∀ m, m < 256 → nI m >>> (nI 3 &&& 31) = nI (m / 8) := by decide +kernel
abbrev ct_X2_fromAt : List pm_C := [(false, 19, 2, 2, (some .int), tt_X2_moveAt)]
set_option maxHeartbeats 4000000 in
theorem sm_X2_fromAt  : pm_Sem SHx yX2_fromAt cX2_fromAt 2 (some .int) 2 tt_X2_fromAt := by
  refine pm_Sem_intro bl_X2_fromAt ct_X2_fromAt cs_X2_fromAt rfl (List.forall_mem_cons.mpr ⟨⟨_, _, _, _, sm_X2_moveAt, by decide, cm_X2_moveAt, by decide +kernel⟩, fun _ h => absurd h List.not_mem_nil⟩) ck_X2_fromAt (by decide +kernel) (by decide) ?_
  intro X k hX args M hT
  have hb0 := hX 0 bk_X2_fromAt_0 (List.mem_of_getElem? (i := 0) rfl)
  clear hX
  unfold tt_X2_fromAt at hT; split at hT
  · obtain ⟨i, rfl, hi, hT⟩ := hT
    refine ⟨by simp [lg_sl, Value.category], ?_⟩
    refine hb0 _ _ _ ?_
    simp (maxSteps := 2000000) [bk_X2_fromAt_0, pm_call, pm_e_c0, pm_e_c1, pm_e_cti, pm_e_ctl, pm_e_ctr, pm_e_go, pm_e_ii, pm_e_ldi, pm_e_ldr, pm_e_lk, pm_e_rm0, pm_e_rm1, pm_e_rs0, pm_e_rs1, pm_e_wp0, pm_e_wp1, pm_f2, pm_f3, pm_obj, pm_recv, pm_s_aload_n, pm_s_iconst, pm_s_iload_n, pm_s_invokevirtual, pm_s_ireturn, pm_s_ishr, ct_X2_fromAt, pS, pR, pC, pE, pL, -Int32.not_le, -Int32.not_lt, -Int64.not_le, -Int64.not_lt, -List.getD_eq_getElem?_getD, lv_args, sx_38]
    refine ⟨i, rfl, hi, ?_⟩
    simp (maxSteps := 2000000) [bk_X2_fromAt_0, pm_call, pm_e_c0, pm_e_c1, pm_e_cti, pm_e_ctl, pm_e_ctr, pm_e_go, pm_e_ii, pm_e_ldi, pm_e_ldr, pm_e_lk, pm_e_rm0, pm_e_rm1, pm_e_rs0, pm_e_rs1, pm_e_wp0, pm_e_wp1, pm_f2, pm_f3, pm_obj, pm_recv, pm_s_aload_n, pm_s_iconst, pm_s_iload_n, pm_s_invokevirtual, pm_s_ireturn, pm_s_ishr, ct_X2_fromAt, pS, pR, pC, pE, pL, -Int32.not_le, -Int32.not_lt, -Int64.not_le, -Int64.not_lt, -List.getD_eq_getElem?_getD]
    rw [ni_shr3 (pmv M i) (bz_lt _ _)]
    exact hT
  · exact hT.elim
def tt_X2_toAt : pm_T := fun args M k => match args with
  | [.ref 38, .int x] => ∃ i, x = nI i ∧ i < 4000 ∧ k (some (.int (nI (pmv M i % 8)))) M
  | _ => False
abbrev ct_X2_toAt : List pm_C := [(false, 19, 2, 2, (some .int), tt_X2_moveAt)]
set_option maxHeartbeats 4000000 in
theorem sm_X2_toAt  : pm_Sem SHx yX2_toAt cX2_toAt 2 (some .int) 2 tt_X2_toAt := by
  refine pm_Sem_intro bl_X2_toAt ct_X2_toAt cs_X2_toAt rfl (List.forall_mem_cons.mpr ⟨⟨_, _, _, _, sm_X2_moveAt, by decide, cm_X2_moveAt, by decide +kernel⟩, fun _ h => absurd h List.not_mem_nil⟩) ck_X2_toAt (by decide +kernel) (by decide) ?_
  intro X k hX args M hT
  have hb0 := hX 0 bk_X2_toAt_0 (List.mem_of_getElem? (i := 0) rfl)
  clear hX
  unfold tt_X2_toAt at hT; split at hT
  · obtain ⟨i, rfl, hi, hT⟩ := hT
    refine ⟨by simp [lg_sl, Value.category], ?_⟩
    refine hb0 _ _ _ ?_
    simp (maxSteps := 2000000) [bk_X2_toAt_0, pm_call, pm_e_c0, pm_e_c1, pm_e_cti, pm_e_ctl, pm_e_ctr, pm_e_go, pm_e_ii, pm_e_ldi, pm_e_ldr, pm_e_lk, pm_e_rm0, pm_e_rm1, pm_e_rs0, pm_e_rs1, pm_e_wp0, pm_e_wp1, pm_f2, pm_f3, pm_obj, pm_recv, pm_s_aload_n, pm_s_bipush, pm_s_iand, pm_s_iload_n, pm_s_invokevirtual, pm_s_ireturn, ct_X2_toAt, pS, pR, pC, pE, pL, -Int32.not_le, -Int32.not_lt, -Int64.not_le, -Int64.not_lt, -List.getD_eq_getElem?_getD, lv_args, sx_38]
    refine ⟨i, rfl, hi, ?_⟩
    simp (maxSteps := 2000000) [bk_X2_toAt_0, pm_call, pm_e_c0, pm_e_c1, pm_e_cti, pm_e_ctl, pm_e_ctr, pm_e_go, pm_e_ii, pm_e_ldi, pm_e_ldr, pm_e_lk, pm_e_rm0, pm_e_rm1, pm_e_rs0, pm_e_rs1, pm_e_wp0, pm_e_wp1, pm_f2, pm_f3, pm_obj, pm_recv, pm_s_aload_n, pm_s_bipush, pm_s_iand, pm_s_iload_n, pm_s_invokevirtual, pm_s_ireturn, ct_X2_toAt, pS, pR, pC, pE, pL, -Int32.not_le, -Int32.not_lt, -Int64.not_le, -Int64.not_lt, -List.getD_eq_getElem?_getD]
    have := bz_lt (M.2 39 (i / 8)) (i % 8)
    rw [ni_a7 (by unfold pmv; omega)]
    exact hT
  · exact hT.elim
