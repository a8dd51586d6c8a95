/-- how many cards lie in columns and cells -/
def tot (S : St) : Nat := (S.1 0).length + (S.1 1).length + (S.1 2).length + (S.1 3).length + (if S.2.1 0 = 0 then 0 else 1) + (if S.2.1 1 = 0 then 0 else 1)
theorem dgC_len (S : St) : ∀ n, (dgC (colsO S n)).length = sumN n (fun j => (S.1 (sg S j)).length + 1)
  | 0 => rfl
  | n + 1 => by
    have e : colsO S (n + 1) = colsO S n ++ [S.1 (sg S n)] := by unfold colsO; rw [List.range_succ, List.map_append]; rfl
    rw [e, dgC_app, List.length_append, dgC_len S n, sumN_s]
    simp [dgC]
theorem colsO_s (S : St) (n : Nat) : colsO S (n + 1) = colsO S n ++ [S.1 (sg S n)] := by unfold colsO; rw [List.range_succ, List.map_append]; rfl
theorem sg_sum (S : St) (f : Nat → Nat) : f (sg S 0) + f (sg S 1) + f (sg S 2) + f (sg S 3) = f 0 + f 1 + f 2 + f 3 := by
  have h0 := sg_lt S 0
  have h1 := sg_lt S 1
  have h2 := sg_lt S 2
  have h3 := sg_lt S 3
  have n01 : sg S 0 ≠ sg S 1 := fun e => absurd (sg_inj S (by decide) (by decide) e) (by decide)
  have n02 : sg S 0 ≠ sg S 2 := fun e => absurd (sg_inj S (by decide) (by decide) e) (by decide)
  have n03 : sg S 0 ≠ sg S 3 := fun e => absurd (sg_inj S (by decide) (by decide) e) (by decide)
  have n12 : sg S 1 ≠ sg S 2 := fun e => absurd (sg_inj S (by decide) (by decide) e) (by decide)
  have n13 : sg S 1 ≠ sg S 3 := fun e => absurd (sg_inj S (by decide) (by decide) e) (by decide)
  have n23 : sg S 2 ≠ sg S 3 := fun e => absurd (sg_inj S (by decide) (by decide) e) (by decide)
  generalize sg S 0 = a at *
  generalize sg S 1 = b at *
  generalize sg S 2 = c at *
  generalize sg S 3 = d at *
  have ha : a = 0 ∨ a = 1 ∨ a = 2 ∨ a = 3 := by omega
  have hb : b = 0 ∨ b = 1 ∨ b = 2 ∨ b = 3 := by omega
  have hc : c = 0 ∨ c = 1 ∨ c = 2 ∨ c = 3 := by omega
  have hd : d = 6 - a - b - c := by
    rcases ha with rfl | rfl | rfl | rfl <;> rcases hb with rfl | rfl | rfl | rfl <;> rcases hc with rfl | rfl | rfl | rfl <;> omega
  rcases ha with rfl | rfl | rfl | rfl <;> rcases hb with rfl | rfl | rfl | rfl <;> rcases hc with rfl | rfl | rfl | rfl <;> first | (exact absurd rfl n01) | (exact absurd rfl n02) | (exact absurd rfl n12) | (subst hd; simp only [Nat.sub_zero, Nat.reduceSub] <;> omega)
def dlen (S : St) (n : Nat) : Nat := sumN n (fun j => (S.1 (sg S j)).length + 1)
theorem dlen_4 (S : St) : dlen S 4 = (S.1 0).length + (S.1 1).length + (S.1 2).length + (S.1 3).length + 4 := by
  have := sg_sum S (fun i => (S.1 i).length)
  have e : dlen S 4 = 0 + ((S.1 (sg S 0)).length + 1) + ((S.1 (sg S 1)).length + 1) + ((S.1 (sg S 2)).length + 1) + ((S.1 (sg S 3)).length + 1) := rfl
  rw [e]; omega
theorem dlen_s (S : St) (n : Nat) : dlen S (n + 1) = dlen S n + ((S.1 (sg S n)).length + 1) := rfl
theorem dlen_mono (S : St) : ∀ {n m : Nat}, n ≤ m → dlen S n ≤ dlen S m
  | n, 0, h => by rw [show n = 0 by omega]; exact Nat.le_refl _
  | n, m + 1, h => by
    rcases Nat.lt_or_ge n (m + 1) with q | q
    · have := dlen_mono S (n := n) (m := m) (by omega)
      rw [dlen_s]; omega
    · rw [show n = m + 1 by omega]; exact Nat.le_refl _
theorem dgC_16 {S : St} (h : okS S) : ∀ n, ∀ d ∈ dgC (colsO S n), d < 16
  | 0, d, hd => by simp [colsO, dgC] at hd
  | n + 1, d, hd => by
    rw [colsO_s, dgC_app] at hd
    rcases List.mem_append.mp hd with q | q
    · exact dgC_16 h n d q
    · simp only [dgC, List.mem_append, List.mem_reverse, List.mem_cons, List.not_mem_nil, or_false] at q
      rcases q with q | q
      · have := (h.1 (sg S n) (sg_lt S n)).2 d q; omega
      · omega
theorem ln_or2 {a b k : Nat} (ha : a < 2 ^ k) (h : a + b * 2 ^ k < 2 ^ 64) : lN a ||| lN (b * 2 ^ k) = lN (a + b * 2 ^ k) := g_or' rfl ha h
theorem pw16 (n : Nat) : 2 ^ (4 * n) = 16 ^ n := by rw [Nat.pow_mul]
theorem pw16_le {n : Nat} (h : n ≤ 16) : 16 ^ n ≤ 2 ^ 64 := (Nat.pow_le_pow_right (by decide : 16 > 0) h : 16 ^ n ≤ 16 ^ 16)
/-- a digit string and what stands behind it -/
theorem ln_dig {a b n m : Nat} (ha : a < 16 ^ n) (hb : b < 16 ^ m) (hn : n ≤ 15) (hm : n + m ≤ 16) : lN a ||| (lN b <<< ((nI (4 * n)).toInt64 &&& 63)) = lN (a + 16 ^ n * b) := by
  have h1 : a + b * 16 ^ n < 2 ^ 64 := by
    have h2 : (b + 1) * 16 ^ n ≤ 16 ^ m * 16 ^ n := Nat.mul_le_mul_right _ hb
    rw [Nat.succ_mul, ← Nat.pow_add] at h2
    have h3 := pw16_le (n := m + n) (by omega)
    omega
  rw [wb_shl _ (by omega), pw16, ← pw16, ln_or2 (by rw [pw16]; exact ha) (by rw [pw16]; exact h1), pw16, Nat.mul_comm]
theorem fk_step {S : St} (h : okS S) {j : Nat} (hd : dlen S j + (S.1 (sg S j)).length ≤ 15) : lN (leN (dgC (colsO S j))) ||| (lN (pq (S.1 (sg S j))) <<< ((nI (4 * dlen S j)).toInt64 &&& 63)) = lN (leN (dgC (colsO S (j + 1)))) := by
  have hlow := leN_lt (dgC_16 h j)
  rw [dgC_len, ← dlen] at hlow
  have hc := (h.1 (sg S j) (sg_lt S j)).2
  rw [ln_dig hlow (pq_lt (fun d hd => by have := hc d hd; omega)) (by omega) (by omega)]
  congr 1
  rw [colsO_s, dgC_app, leN_app, dgC_len, ← dlen]
  congr 2
  show pq _ = leN ((S.1 (sg S j)).reverse ++ [0])
  rw [leN_app, leN_rev]; rfl
theorem fk_end {S : St} (h : okS S) (ht : tot S ≤ 12) : lN (leN (dgC (colsO S 4))) ||| (((lN (min (S.2.1 0) (S.2.1 1)) <<< ((nI 4).toInt64 &&& 63)) ||| lN (max (S.2.1 0) (S.2.1 1))) <<< ((nI (4 * dlen S 4)).toInt64 &&& 63)) = lN (fkN S) := by
  have c0 := h.2.1 0 (by decide)
  have c1 := h.2.1 1 (by decide)
  have hd4 := dlen_4 S
  have hlow := leN_lt (dgC_16 h 4)
  rw [dgC_len, ← dlen] at hlow
  have ein : (lN (min (S.2.1 0) (S.2.1 1)) <<< ((nI 4).toInt64 &&& 63)) ||| lN (max (S.2.1 0) (S.2.1 1)) = lN (min (S.2.1 0) (S.2.1 1) * 16 + max (S.2.1 0) (S.2.1 1)) := by
    rw [wb_shl _ (by decide), ln_or (k := 4) (by omega) (by omega)]
  have efk : fkN S = leN (dgC (colsO S 4)) + 16 ^ dlen S 4 * (min (S.2.1 0) (S.2.1 1) * 16 + max (S.2.1 0) (S.2.1 1)) := by
    unfold fkN
    rw [leN_app, dgC_len, ← dlen]
    congr 2
    show max _ _ + 16 * (min _ _ + 16 * 0) = _
    omega
  rw [ein, efk]
  unfold tot at ht
  by_cases hz : S.2.1 0 = 0 ∧ S.2.1 1 = 0
  · rw [hz.1, hz.2]
    rw [show min 0 0 * 16 + max 0 0 = 0 from rfl, Nat.mul_zero, Nat.add_zero]
    have e0 : lN 0 <<< ((nI (4 * dlen S 4)).toInt64 &&& 63) = lN 0 := by
      have : ∀ n, n < 17 → lN 0 <<< ((nI (4 * n)).toInt64 &&& 63) = lN 0 := by decide +kernel
      exact this _ (by split at ht <;> split at ht <;> omega)
    have hle := pw16_le (n := dlen S 4) (by split at ht <;> split at ht <;> omega)
    rw [e0, wb_or (by omega) (by decide), Nat.or_zero]
  · by_cases ho : S.2.1 0 = 0 ∨ S.2.1 1 = 0
    · refine ln_dig (m := 1) hlow (by omega) ?_ ?_
      · rcases ho with q | q <;> simp [q] at ht hz <;> (try simp [hz] at ht) <;> omega
      · rcases ho with q | q <;> simp [q] at ht hz <;> (try simp [hz] at ht) <;> omega
    · have q0 : ¬ S.2.1 0 = 0 := fun z => ho (Or.inl z)
      have q1 : ¬ S.2.1 1 = 0 := fun z => ho (Or.inr z)
      rw [if_neg q0, if_neg q1] at ht
      exact ln_dig (m := 2) hlow (by omega) (by omega) (by omega)
def tt_X4_formKey : pm_T := fun args M k => match args with
  | [.ref p] => ∃ ec S, isSt p ∧ SdX M p ec S ∧ tot S ≤ 12 ∧ ∀ M', pm_fr [p + 5] M M' → k (some (.long (lN (fkN S)))) M'
  | _ => False
abbrev ct_X4_formKey : List pm_C := [(false, 143, 4, 1, none, tt_X4_sortColumns), (false, 146, 4, 2, (some .int), tt_X4_inOrder), (true, 153, 0, 2, (some .int), tt_J9_max_7cf53), (true, 45, 0, 2, (some .int), tt_J9_min_7cf53)]
set_option maxHeartbeats 4000000 in
theorem sm_X4_formKey  : pm_Sem SHx yX4_formKey cX4_formKey 8 (some .long) 2 tt_X4_formKey := by
  refine pm_Sem_intro bl_X4_formKey ct_X4_formKey cs_X4_formKey rfl (List.forall_mem_cons.mpr ⟨⟨_, _, _, _, sm_X4_sortColumns, by decide, cm_X4_sortColumns, by decide +kernel⟩, List.forall_mem_cons.mpr ⟨⟨_, _, _, _, sm_X4_inOrder, by decide, cm_X4_inOrder, by decide +kernel⟩, List.forall_mem_cons.mpr ⟨⟨_, _, _, _, sm_J9_max_7cf53, by decide, cm_J9_max_7cf53, by decide +kernel⟩, List.forall_mem_cons.mpr ⟨⟨_, _, _, _, sm_J9_min_7cf53, by decide, cm_J9_min_7cf53, by decide +kernel⟩, fun _ h => absurd h List.not_mem_nil⟩⟩⟩⟩) ck_X4_formKey (by decide +kernel) (by decide) ?_
  intro X k hX args M hT
  have hb0 := hX 0 bk_X4_formKey_0 (List.mem_of_getElem? (i := 0) rfl)
  have hb11 := hX 11 bk_X4_formKey_11 (List.mem_of_getElem? (i := 1) rfl)
  have hb57 := hX 57 bk_X4_formKey_57 (List.mem_of_getElem? (i := 2) rfl)
  clear hX
  unfold tt_X4_formKey at hT; split at hT
  · next p =>
    obtain ⟨ec, S, hp, hS, ht, hT⟩ := hT
    have hd4 := dlen_4 S
    have hcards : (S.1 0).length + (S.1 1).length + (S.1 2).length + (S.1 3).length ≤ 12 := by unfold tot at ht; omega
    refine ⟨by simp [lg_sl, Value.category], ?_⟩
    refine hb0 _ _ _ ?_
    simp (maxSteps := 2000000) [bk_X4_formKey_0, bk_X4_formKey_11, bk_X4_formKey_57, pm_arr, pm_call, pm_e_c0, pm_e_c1, pm_e_cti, pm_e_ctl, pm_e_ctr, pm_e_go, pm_e_i, pm_e_ii, pm_e_l, pm_e_ldi, pm_e_ldl, pm_e_ldr, pm_e_li, pm_e_lk, pm_e_ll, pm_e_r, pm_e_ri, pm_e_rm0, pm_e_rm1, pm_e_rs0, pm_e_rs1, pm_e_wp0, pm_e_wp1, pm_f2, pm_f3, pm_fld, pm_fv, pm_obj, pm_recv, pm_s_aload_n, pm_s_getfield, pm_s_goto, pm_s_i2l, pm_s_iadd, pm_s_iaload, pm_s_iconst, pm_s_if_icmp_ge, pm_s_iinc, pm_s_iload, pm_s_iload_n, pm_s_imul, pm_s_invokestatic, pm_s_invokevirtual, pm_s_istore, pm_s_istore_n, pm_s_laload, pm_s_lconst, pm_s_lload, pm_s_lload_n, pm_s_lor, pm_s_lreturn, pm_s_lshl, pm_s_lstore, pm_s_lstore_n, ct_X4_formKey, tt_J9_max_7cf53, tt_J9_min_7cf53, pS, pR, pC, pE, pL, -Int32.not_le, -Int32.not_lt, -Int64.not_le, -Int64.not_lt, -List.getD_eq_getElem?_getD, lv_args, st_0 hp]
    refine ⟨ec, S, hp, hS, fun M' L l1 l2 l3 hf => ?_⟩
    rw [oL_uniq l1 l2] at l3
    have hS' := hS.m5 hf
    simp (maxSteps := 2000000) [bk_X4_formKey_0, bk_X4_formKey_11, bk_X4_formKey_57, pm_arr, pm_call, pm_e_c0, pm_e_c1, pm_e_cti, pm_e_ctl, pm_e_ctr, pm_e_go, pm_e_i, pm_e_ii, pm_e_l, pm_e_ldi, pm_e_ldl, pm_e_ldr, pm_e_li, pm_e_lk, pm_e_ll, pm_e_r, pm_e_ri, pm_e_rm0, pm_e_rm1, pm_e_rs0, pm_e_rs1, pm_e_wp0, pm_e_wp1, pm_f2, pm_f3, pm_fld, pm_fv, pm_obj, pm_recv, pm_s_aload_n, pm_s_getfield, pm_s_goto, pm_s_i2l, pm_s_iadd, pm_s_iaload, pm_s_iconst, pm_s_if_icmp_ge, pm_s_iinc, pm_s_iload, pm_s_iload_n, pm_s_imul, pm_s_invokestatic, pm_s_invokevirtual, pm_s_istore, pm_s_istore_n, pm_s_laload, pm_s_lconst, pm_s_lload, pm_s_lload_n, pm_s_lor, pm_s_lreturn, pm_s_lshl, pm_s_lstore, pm_s_lstore_n, ct_X4_formKey, tt_J9_max_7cf53, tt_J9_min_7cf53, pS, pR, pC, pE, pL, -Int32.not_le, -Int32.not_lt, -Int64.not_le, -Int64.not_lt, -List.getD_eq_getElem?_getD]
    have c0 := hS.1.2.1 0 (by decide)
    have c1 := hS.1.2.1 1 (by decide)
    have out : X 57 [(0, .ref p), (1, .long (lN (leN (dgC (colsO S 4))))), (3, .int (nI (4 * dlen S 4)))] [] M' := by
      refine hb57 _ _ _ ?_
      simp (maxSteps := 2000000) [bk_X4_formKey_0, bk_X4_formKey_11, bk_X4_formKey_57, pm_arr, pm_call, pm_e_c0, pm_e_c1, pm_e_cti, pm_e_ctl, pm_e_ctr, pm_e_go, pm_e_i, pm_e_ii, pm_e_l, pm_e_ldi, pm_e_ldl, pm_e_ldr, pm_e_li, pm_e_lk, pm_e_ll, pm_e_r, pm_e_ri, pm_e_rm0, pm_e_rm1, pm_e_rs0, pm_e_rs1, pm_e_wp0, pm_e_wp1, pm_f2, pm_f3, pm_fld, pm_fv, pm_obj, pm_recv, pm_s_aload_n, pm_s_getfield, pm_s_goto, pm_s_i2l, pm_s_iadd, pm_s_iaload, pm_s_iconst, pm_s_if_icmp_ge, pm_s_iinc, pm_s_iload, pm_s_iload_n, pm_s_imul, pm_s_invokestatic, pm_s_invokevirtual, pm_s_istore, pm_s_istore_n, pm_s_laload, pm_s_lconst, pm_s_lload, pm_s_lload_n, pm_s_lor, pm_s_lreturn, pm_s_lshl, pm_s_lstore, pm_s_lstore_n, ct_X4_formKey, tt_J9_max_7cf53, tt_J9_min_7cf53, pS, pR, pC, pE, pL, -Int32.not_le, -Int32.not_lt, -Int64.not_le, -Int64.not_lt, -List.getD_eq_getElem?_getD, st_0 hp, st_3 hp]
      simp (disch := omega) only [ni_in, ni_cl, ni_add, ni_mul, ni_sub, ni_lt, ni_le, ni_eq, ni_eq0, ni_lt0, ni_0le, ni_0lt, ni_le0, ni_a1, ni_a3, ni_a7, ni_a15, hS'.e (show 0 < 2 by decide), hS'.e (show 1 < 2 by decide), mxF_n, mnF_n]
      rw [ni_l (n := max (S.2.1 0) (S.2.1 1)) (by omega), ni_l (n := min (S.2.1 0) (S.2.1 1)) (by omega), fk_end hS.1 ht]
      repeat refine ⟨by omega, ?_⟩
      exact hT M' hf
    have loop : ∀ (f j : Nat), 4 ≤ j + f → j ≤ 4 → X 11 [(0, .ref p), (1, .long (lN (leN (dgC (colsO S j))))), (3, .int (nI (4 * dlen S j))), (4, .int (nI j))] [] M' := by
      intro f
      induction f with
      | zero =>
        intro j f1 f2
        have e1 : j = 4 := by omega
        subst e1
        refine hb11 _ _ _ ?_
        simp (maxSteps := 2000000) [bk_X4_formKey_0, bk_X4_formKey_11, bk_X4_formKey_57, pm_arr, pm_call, pm_e_c0, pm_e_c1, pm_e_cti, pm_e_ctl, pm_e_ctr, pm_e_go, pm_e_i, pm_e_ii, pm_e_l, pm_e_ldi, pm_e_ldl, pm_e_ldr, pm_e_li, pm_e_lk, pm_e_ll, pm_e_r, pm_e_ri, pm_e_rm0, pm_e_rm1, pm_e_rs0, pm_e_rs1, pm_e_wp0, pm_e_wp1, pm_f2, pm_f3, pm_fld, pm_fv, pm_obj, pm_recv, pm_s_aload_n, pm_s_getfield, pm_s_goto, pm_s_i2l, pm_s_iadd, pm_s_iaload, pm_s_iconst, pm_s_if_icmp_ge, pm_s_iinc, pm_s_iload, pm_s_iload_n, pm_s_imul, pm_s_invokestatic, pm_s_invokevirtual, pm_s_istore, pm_s_istore_n, pm_s_laload, pm_s_lconst, pm_s_lload, pm_s_lload_n, pm_s_lor, pm_s_lreturn, pm_s_lshl, pm_s_lstore, pm_s_lstore_n, ct_X4_formKey, tt_J9_max_7cf53, tt_J9_min_7cf53, pS, pR, pC, pE, pL, -Int32.not_le, -Int32.not_lt, -Int64.not_le, -Int64.not_lt, -List.getD_eq_getElem?_getD]
        exact out
      | succ f ih =>
        intro j f1 f2
        by_cases hj : j < 4
        · refine hb11 _ _ _ ?_
          simp [bk_X4_formKey_11, pm_e_wp1, pm_e_wp0, pm_s_iload, pm_s_iload_n, pm_s_iconst, pm_s_bipush, pm_e_c0, pm_s_aload_n, pm_e_ldi, pm_e_ldr, pm_e_lk, pm_f2, pm_f3, pm_s_if_icmp_ge, pm_e_ii, pm_e_go, pm_e_rs0, pm_e_rs1, pm_e_cti, pm_e_ctr, pm_s_invokevirtual, ct_X4_formKey, pm_call, pm_recv, pm_obj, st_0 hp, -Int32.not_le, -Int32.not_lt]
          simp (disch := omega) only [ni_in, ni_cl, ni_add, ni_mul, ni_sub, ni_lt, ni_le, ni_eq, ni_eq0, ni_lt0, ni_0le, ni_0lt, ni_le0, ni_a1, ni_a3, ni_a7, ni_a15]
          refine ⟨fun h => by omega, fun _ => ?_⟩
          have hg := sg_lt S j
          have hkl : ky S (sg S j) < 2 ^ 63 := by have := al_lt (hS.d16 hg) (hS.len hg); unfold ky; omega
          refine ⟨j, ky S (sg S j), hp, rfl, hj, hkl, by rw [l3 j hj, oL_at S hj], ?_⟩
          rw [ky_mod S hg]
          simp (maxSteps := 2000000) [bk_X4_formKey_0, bk_X4_formKey_11, bk_X4_formKey_57, pm_arr, pm_call, pm_e_c0, pm_e_c1, pm_e_cti, pm_e_ctl, pm_e_ctr, pm_e_go, pm_e_i, pm_e_ii, pm_e_l, pm_e_ldi, pm_e_ldl, pm_e_ldr, pm_e_li, pm_e_lk, pm_e_ll, pm_e_r, pm_e_ri, pm_e_rm0, pm_e_rm1, pm_e_rs0, pm_e_rs1, pm_e_wp0, pm_e_wp1, pm_f2, pm_f3, pm_fld, pm_fv, pm_obj, pm_recv, pm_s_aload_n, pm_s_getfield, pm_s_goto, pm_s_i2l, pm_s_iadd, pm_s_iaload, pm_s_iconst, pm_s_if_icmp_ge, pm_s_iinc, pm_s_iload, pm_s_iload_n, pm_s_imul, pm_s_invokestatic, pm_s_invokevirtual, pm_s_istore, pm_s_istore_n, pm_s_laload, pm_s_lconst, pm_s_lload, pm_s_lload_n, pm_s_lor, pm_s_lreturn, pm_s_lshl, pm_s_lstore, pm_s_lstore_n, ct_X4_formKey, tt_J9_max_7cf53, tt_J9_min_7cf53, pS, pR, pC, pE, pL, -Int32.not_le, -Int32.not_lt, -Int64.not_le, -Int64.not_lt, -List.getD_eq_getElem?_getD, st_0 hp, st_1 hp, st_2 hp]
          have hl12 := hS.len hg
          simp (disch := omega) only [ni_in, ni_cl, ni_add, ni_mul, ni_sub, ni_lt, ni_le, ni_eq, ni_eq0, ni_lt0, ni_0le, ni_0lt, ni_le0, ni_a1, ni_a3, ni_a7, ni_a15, hS'.c hg, hS'.n hg]
          repeat refine ⟨by omega, ?_⟩
          have hm1 := dlen_mono S (n := j + 1) (m := 4) (by omega)
          rw [dlen_s] at hm1
          have hlow := leN_lt (dgC_16 hS.1 j)
          rw [dgC_len, ← dlen] at hlow
          have hpq := pq_lt (hS.d16 hg)
          rw [fk_step hS.1 (by omega)]
          have := ih (j + 1) (by omega) (by omega)
          rw [dlen_s, Nat.mul_add] at this
          exact this
        · have e1 : j = 4 := by omega
          subst e1
          refine hb11 _ _ _ ?_
          simp (maxSteps := 2000000) [bk_X4_formKey_0, bk_X4_formKey_11, bk_X4_formKey_57, pm_arr, pm_call, pm_e_c0, pm_e_c1, pm_e_cti, pm_e_ctl, pm_e_ctr, pm_e_go, pm_e_i, pm_e_ii, pm_e_l, pm_e_ldi, pm_e_ldl, pm_e_ldr, pm_e_li, pm_e_lk, pm_e_ll, pm_e_r, pm_e_ri, pm_e_rm0, pm_e_rm1, pm_e_rs0, pm_e_rs1, pm_e_wp0, pm_e_wp1, pm_f2, pm_f3, pm_fld, pm_fv, pm_obj, pm_recv, pm_s_aload_n, pm_s_getfield, pm_s_goto, pm_s_i2l, pm_s_iadd, pm_s_iaload, pm_s_iconst, pm_s_if_icmp_ge, pm_s_iinc, pm_s_iload, pm_s_iload_n, pm_s_imul, pm_s_invokestatic, pm_s_invokevirtual, pm_s_istore, pm_s_istore_n, pm_s_laload, pm_s_lconst, pm_s_lload, pm_s_lload_n, pm_s_lor, pm_s_lreturn, pm_s_lshl, pm_s_lstore, pm_s_lstore_n, ct_X4_formKey, tt_J9_max_7cf53, tt_J9_min_7cf53, pS, pR, pC, pE, pL, -Int32.not_le, -Int32.not_lt, -Int64.not_le, -Int64.not_lt, -List.getD_eq_getElem?_getD]
          exact out
    exact loop 4 0 (by omega) (by omega)
  · exact hT.elim
