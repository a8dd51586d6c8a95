theorem fk_lt {S : St} (h : okS S) (ht : tot S ≤ 12) : leN (DS S) < 2 ^ 64 := by
  have c0 := h.2.1 0 (by decide)
  have c1 := h.2.1 1 (by decide)
  have hd4 := dlen_4 S
  have hlow := leN_lt (dgC_16 h 4)
  rw [dgC_len, ← dlen] at hlow
  have efk : leN (DS S) = leN (dgC (colsO S 4)) + 16 ^ dlen S 4 * (min (S.2.1 0) (S.2.1 1) * 16 + max (S.2.1 0) (S.2.1 1)) := by
    unfold DS
    rw [leN_app, dgC_len, ← dlen]
    congr 2
    show max _ _ + 16 * (min _ _ + 16 * 0) = _
    omega
  have key : ∀ m v, v < 16 ^ m → dlen S 4 + m ≤ 16 → leN (dgC (colsO S 4)) + 16 ^ dlen S 4 * v < 2 ^ 64 := by
    intro m v hv hm
    have h2 : 16 ^ dlen S 4 * (v + 1) ≤ 16 ^ dlen S 4 * 16 ^ m := Nat.mul_le_mul_left _ hv
    rw [Nat.mul_succ, ← Nat.pow_add] at h2
    have h3 := pw16_le (n := dlen S 4 + m) hm
    omega
  rw [efk]
  unfold tot at ht
  by_cases hz : S.2.1 0 = 0 ∧ S.2.1 1 = 0
  · rw [hz.1, hz.2]
    exact key 0 _ (by decide) (by rw [if_pos hz.1, if_pos hz.2] at ht; omega)
  · by_cases ho : S.2.1 0 = 0 ∨ S.2.1 1 = 0
    · refine key 1 _ (by omega) ?_
      rcases ho with q | q <;> simp [q] at ht hz <;> (try simp [hz] at ht) <;> omega
    · have q0 : ¬ S.2.1 0 = 0 := fun z => ho (Or.inl z)
      have q1 : ¬ S.2.1 1 = 0 := fun z => ho (Or.inr z)
      rw [if_neg q0, if_neg q1] at ht
      exact key 2 _ (by omega) (by omega)
theorem DR_lt {S : St} (h : okS S) (ht : tot S ≤ 12) {i : Nat} (hi : i ≤ 4) : leN (DR S i) < 2 ^ 64 := by
  have h1 := fk_lt h ht
  rw [← DR_app S i hi, leN_app] at h1
  have h2 : 1 * leN (DR S i) ≤ 16 ^ (dgC (colsO S i)).length * leN (DR S i) := Nat.mul_le_mul_right _ (Nat.pow_pos (by decide))
  omega
theorem ni_ush31 : ∀ k, k < 32 → (((nI k).toUInt32 &&& Int32.toUInt32 31).toBitVec % 32).toNat = k := by decide +kernel
theorem ni_ushr {a k : Nat} (ha : a < 2 ^ 32) (hk : k < 32) : ((nI a).toUInt32 >>> ((nI k).toUInt32 &&& Int32.toUInt32 31)).toInt32 = nI (a / 2 ^ k) := pk_ushrN ha _ k (ni_ush31 k hk)
theorem arN_lt (S : St) : arN S < 512 := by
  have h0 := sg_lt S 0
  have h1 := sg_lt S 1
  have h2 := sg_lt S 2
  have h3 := sg_lt S 3
  unfold arN; split <;> omega
theorem arN_at (S : St) {i : Nat} (h : i < 4) : arN S / 2 ^ (2 * i) % 4 = sg S i := by
  have h0 := sg_lt S 0
  have h1 := sg_lt S 1
  have h2 := sg_lt S 2
  have h3 := sg_lt S 3
  rcases (show i = 0 ∨ i = 1 ∨ i = 2 ∨ i = 3 by omega) with rfl | rfl | rfl | rfl <;> unfold arN <;> split <;> simp <;> omega
theorem lgc0 : ∀ a, a < 16 → ((lg_cmp (lN a) (lN 0) = 0) ↔ a = 0) := by decide +kernel
theorem getD_rev {c l : List Nat} {t : Nat} (h : t < c.length) : (c.reverse ++ 0 :: l).getD t 0 = c.reverse.getD t 0 := by
  rw [List.getD_eq_getElem?_getD, List.getD_eq_getElem?_getD, List.getElem?_append_left (by simpa using h)]
theorem getD_sep {c l : List Nat} : (c.reverse ++ 0 :: l).getD c.length 0 = 0 := by
  rw [List.getD_eq_getElem?_getD, List.getElem?_append_right (by simp)]; simp
theorem ln_dg {R n : Nat} (hR : R < 2 ^ 64) (hn : 4 * n < 64) : ((lN R).toUInt64 >>> ((nI (4 * n)).toInt64.toUInt64 &&& Int64.toUInt64 63)).toInt64 = lN (R / 16 ^ n) := by
  rw [wb_shr hR hn, pw16]
theorem ni_dg (x : Nat) : nI x &&& nI 15 = nI (x % 16) := (pk_and _ 4 (by decide)).trans (by rw [show (nI x).toBitVec.toNat = x % 2 ^ 32 from rfl]; congr 1; omega)
theorem cPmm (r t a b : Nat) : cP r t [max a b, min a b] = cP r t [a] + cP r t [b] := by
  rw [show [max a b, min a b] = [max a b] ++ [min a b] from rfl, cP_app]
  rcases Nat.le_total a b with h | h
  · rw [Nat.max_eq_right h, Nat.min_eq_left h, Nat.add_comm]
  · rw [Nat.max_eq_left h, Nat.min_eq_right h]
theorem sg_surj (S : St) {i : Nat} (hi : i < 4) : ∃ j, j < 4 ∧ sg S j = i := by
  have hm : ky S i ∈ oL S := (oL_perm S).symm.subset (by rcases (show i = 0 ∨ i = 1 ∨ i = 2 ∨ i = 3 by omega) with rfl | rfl | rfl | rfl <;> simp)
  obtain ⟨j, hj, e⟩ := List.getElem_of_mem hm
  rw [oL_len] at hj
  refine ⟨j, hj, ?_⟩
  unfold sg
  rw [List.getD_eq_getElem?_getD, List.getElem?_eq_getElem (by rw [oL_len]; exact hj), Option.getD_some, e, ky_mod S hi]
abbrev F4 (p : Nat) : List Nat := [p + 1, p + 2, p + 3, p + 4]
def tt_X4_unpack : pm_T := fun args M k => match args with
  | [.ref p, .long x, .int y] => ∃ ec S P, isSt p ∧ x = lN (fkN S) ∧ y = nI (arN S) ∧ ec ≤ 2 ∧ M.1 p 6 = nI ec ∧ DkX M P ∧ okS S ∧ inD P S ∧ tot S ≤ 12 ∧ allS P S ∧ ∀ M', SdX M' p ec S → pm_fr (stF p) M M' → k none M'
  | _ => False
abbrev ct_X4_unpack : List pm_C := [(false, 161, 4, 2, none, tt_X4_takeFromHouse)]
set_option maxHeartbeats 4000000 in
theorem sm_X4_unpack  : pm_Sem SHx yX4_unpack cX4_unpack 9 none 2 tt_X4_unpack := by
  refine pm_Sem_intro bl_X4_unpack ct_X4_unpack cs_X4_unpack rfl (List.forall_mem_cons.mpr ⟨⟨_, _, _, _, sm_X4_takeFromHouse, by decide, cm_X4_takeFromHouse, by decide +kernel⟩, fun _ h => absurd h List.not_mem_nil⟩) ck_X4_unpack (by decide +kernel) (by decide) ?_
  intro X k hX args M hT
  have hb0 := hX 0 bk_X4_unpack_0 (List.mem_of_getElem? (i := 0) rfl)
  have hb3 := hX 3 bk_X4_unpack_3 (List.mem_of_getElem? (i := 1) rfl)
  have hb37 := hX 37 bk_X4_unpack_37 (List.mem_of_getElem? (i := 2) rfl)
  have hb38 := hX 38 bk_X4_unpack_38 (List.mem_of_getElem? (i := 3) rfl)
  have hb45 := hX 45 bk_X4_unpack_45 (List.mem_of_getElem? (i := 4) rfl)
  have hb51 := hX 51 bk_X4_unpack_51 (List.mem_of_getElem? (i := 5) rfl)
  have hb70 := hX 70 bk_X4_unpack_70 (List.mem_of_getElem? (i := 6) rfl)
  have hb110 := hX 110 bk_X4_unpack_110 (List.mem_of_getElem? (i := 7) rfl)
  have hb152 := hX 152 bk_X4_unpack_152 (List.mem_of_getElem? (i := 8) rfl)
  clear hX
  unfold tt_X4_unpack at hT; split at hT
  · next p x y =>
    obtain ⟨ec, S, P, hp, rfl, rfl, he, hcc, hD, hO, hI, ht, hA, hT⟩ := hT
    have hP := hD.1.1
    obtain ⟨h1, h2, h3, h4, h5, h6, h7, h8, h9⟩ := hP
    obtain ⟨m3, m4, m5, m6, m7⟩ := hD.1.2.1
    have hdkm : ∀ {M' : pm_M}, pm_fr (F4 p) M M' → DkX M' P := fun hf => hD.moved hf (by rcases hp with rfl | rfl <;> decide)
    have har := arN_lt S
    refine ⟨by simp [lg_sl, Value.category], ?_⟩
    have cards : ∀ i, i ≤ 4 → ∀ t, t < 4 → cP (pR P) t (dgC (colsO S i)) + cP (pR P) t (DR S i) ≤ (if t < pS P then pR P else 0) := by
      intro i hi t ht4
      have := hA t ht4
      rw [← DR_app S i hi, cP_app] at this
      omega
    -- the cells, and the end
    have h152 : ∀ M', HoX M' p P (dgC (colsO S 4)) → (∀ j, j < 4 → M'.2 (p + 1) (sg S j) = lN (pq (S.1 (sg S j))) ∧ M'.1 (p + 2) (sg S j) = nI (S.1 (sg S j)).length) → pm_fr (F4 p) M M' → X 152 [(0, .ref p), (3, .int (nI (arN S))), (4, .long (lN (leN (DR S 4))))] [] M' := by
      intro M' q1 q2 q3
      have c0 := hO.2.1 0 (by decide)
      have c1 := hO.2.1 1 (by decide)
      have hlt := DR_lt hO ht (i := 4) (by decide)
      have h16 := DR_16 hO (i := 4) (by decide)
      have e5 : leN (DR S 4) = max (S.2.1 0) (S.2.1 1) + 16 * min (S.2.1 0) (S.2.1 1) := by rw [DR_4]; show max _ _ + 16 * (min _ _ + 16 * 0) = _; omega
      have ehi : (lN (leN (DR S 4))).toInt32 &&& nI 15 = nI (max (S.2.1 0) (S.2.1 1)) := by rw [ln_i, ni_dg]; congr 1; omega
      have elo : ((lN (leN (DR S 4))).toUInt64 >>> ((nI 4).toInt64.toUInt64 &&& Int64.toUInt64 63)).toInt64.toInt32 &&& nI 15 = nI (min (S.2.1 0) (S.2.1 1)) := by
        have := ln_dg (n := 1) hlt (by decide)
        rw [show 4 * 1 = 4 from rfl] at this
        rw [this, ln_i, ni_dg]; congr 1; omega
      have etu : ((nI (arN S)).toUInt32 >>> ((nI 8).toUInt32 &&& Int32.toUInt32 31)).toInt32 &&& nI 1 = nI (if S.2.1 0 < S.2.1 1 then 1 else 0) := by
        rw [ni_ushr (by omega) (by decide), ni_a1 (by omega)]
        congr 1
        have h0 := sg_lt S 0
        have h1 := sg_lt S 1
        have h2 := sg_lt S 2
        have h3 := sg_lt S 3
        unfold arN; split <;> omega
      refine hb152 _ _ _ ?_
      simp (maxSteps := 2000000) [bk_X4_unpack_0, bk_X4_unpack_3, bk_X4_unpack_37, bk_X4_unpack_38, bk_X4_unpack_45, bk_X4_unpack_51, bk_X4_unpack_70, bk_X4_unpack_110, bk_X4_unpack_152, pm_arr, pm_call, pm_e_c0, pm_e_c1, pm_e_cti, pm_e_ctl, pm_e_ctr, pm_e_go, pm_e_i, pm_e_ii, pm_e_l, pm_e_ldi, pm_e_ldl, pm_e_ldr, pm_e_li, pm_e_lk, pm_e_ll, pm_e_r, pm_e_ri, pm_e_rii, pm_e_ril, pm_e_rm0, pm_e_rm1, pm_e_rs0, pm_e_rs1, pm_e_wp0, pm_e_wp1, pm_f2, pm_f3, pm_fld, pm_fv, pm_obj, pm_recv, pm_s_aload_n, pm_s_bipush, pm_s_getfield, pm_s_goto, pm_s_iadd, pm_s_iaload, pm_s_iand, pm_s_iastore, pm_s_iconst, pm_s_idiv, pm_s_ifCond_eq, pm_s_if_icmp_ge, pm_s_iinc, pm_s_iload, pm_s_iload_n, pm_s_imul, pm_s_invokevirtual, pm_s_istore, pm_s_isub, pm_s_iushr, pm_s_l2i, pm_s_land, pm_s_lastore, pm_s_lcmp, pm_s_lconst, pm_s_ldc2_w, pm_s_lload, pm_s_lload_n, pm_s_lshl, pm_s_lstore, pm_s_lsub, pm_s_lushr, pm_s_return, ct_X4_unpack, pS, pR, pC, pE, pL, -Int32.not_le, -Int32.not_lt, -Int64.not_le, -Int64.not_lt, -List.getD_eq_getElem?_getD, st_0 hp, st_3 hp, etu, ehi, elo]
      by_cases z : S.2.1 0 < S.2.1 1
      · simp only [if_pos z]
        simp (disch := omega) only [ni_in, ni_cl, ni_add, ni_mul, ni_sub, ni_lt, ni_le, ni_eq, ni_eq0, ni_lt0, ni_0le, ni_0lt, ni_le0, ni_a1, ni_a3, ni_a7, ni_a15]
        refine ⟨by omega, by omega, by omega, ?_⟩
        generalize hM1 : pm_set (pm_set M' (p + 3) 1 (nI (max (S.2.1 0) (S.2.1 1)))) (p + 3) (1 - 1) (nI (min (S.2.1 0) (S.2.1 1))) = M1
        have f0 : M1.1 (p + 3) 0 = nI (S.2.1 0) := by rw [← hM1, me_1s, if_pos rfl]; congr 1; omega
        have f1 : M1.1 (p + 3) 1 = nI (S.2.1 1) := by rw [← hM1, me_1s, if_neg (by decide), me_1s, if_pos rfl]; congr 1; omega
        have fr1 : pm_fr [p + 3] M' M1 := by rw [← hM1]; exact (pm_fr.rfl.set (by simp)).set (by simp)
        have f4 : pm_fr (F4 p) M M1 := q3.trans (fr1.mono (by intro q hq; simp at hq; simp [hq]))
        have hb2 : ∀ t, t < 4 → cP (pR P) t (dgC (colsO S 4)) + (cP (pR P) t [S.2.1 0] + cP (pR P) t [S.2.1 1]) + S.2.2 t = if t < pS P then pR P else 0 := by
          intro t ht4
          have := hA t ht4
          unfold DS at this
          rw [cP_app, cPmm] at this
          omega
        rw [f0]
        refine ⟨P, dgC (colsO S 4), S.2.1 0, hp, rfl, hI.2 0 (by decide), hdkm f4, fun t ht4 => ?_, fun t ht4 => ?_, fun M2 r1 r2 => ?_⟩
        · have := q1 t ht4
          rw [show M1.1 (p + 4) t = M'.1 (p + 4) t from fr1.i (by simp) t]; exact this
        · have := hb2 t ht4
          rw [cP_app]; omega
        simp (maxSteps := 2000000) [bk_X4_unpack_0, bk_X4_unpack_3, bk_X4_unpack_37, bk_X4_unpack_38, bk_X4_unpack_45, bk_X4_unpack_51, bk_X4_unpack_70, bk_X4_unpack_110, bk_X4_unpack_152, pm_arr, pm_call, pm_e_c0, pm_e_c1, pm_e_cti, pm_e_ctl, pm_e_ctr, pm_e_go, pm_e_i, pm_e_ii, pm_e_l, pm_e_ldi, pm_e_ldl, pm_e_ldr, pm_e_li, pm_e_lk, pm_e_ll, pm_e_r, pm_e_ri, pm_e_rii, pm_e_ril, pm_e_rm0, pm_e_rm1, pm_e_rs0, pm_e_rs1, pm_e_wp0, pm_e_wp1, pm_f2, pm_f3, pm_fld, pm_fv, pm_obj, pm_recv, pm_s_aload_n, pm_s_bipush, pm_s_getfield, pm_s_goto, pm_s_iadd, pm_s_iaload, pm_s_iand, pm_s_iastore, pm_s_iconst, pm_s_idiv, pm_s_ifCond_eq, pm_s_if_icmp_ge, pm_s_iinc, pm_s_iload, pm_s_iload_n, pm_s_imul, pm_s_invokevirtual, pm_s_istore, pm_s_isub, pm_s_iushr, pm_s_l2i, pm_s_land, pm_s_lastore, pm_s_lcmp, pm_s_lconst, pm_s_ldc2_w, pm_s_lload, pm_s_lload_n, pm_s_lshl, pm_s_lstore, pm_s_lsub, pm_s_lushr, pm_s_return, ct_X4_unpack, pS, pR, pC, pE, pL, -Int32.not_le, -Int32.not_lt, -Int64.not_le, -Int64.not_lt, -List.getD_eq_getElem?_getD, st_0 hp]
        rw [show M2.1 (p + 3) 1 = nI (S.2.1 1) from by rw [r2.i (by simp)]; exact f1]
        have f5 : pm_fr (F4 p) M M2 := f4.trans (r2.mono (by intro q hq; simp at hq; simp [hq]))
        refine ⟨P, dgC (colsO S 4) ++ [S.2.1 0], S.2.1 1, hp, rfl, hI.2 1 (by decide), hdkm f5, r1, fun t ht4 => ?_, fun M3 r3 r4 => ?_⟩
        · have := hb2 t ht4
          rw [cP_app, cP_app]; omega
        simp (maxSteps := 2000000) [bk_X4_unpack_0, bk_X4_unpack_3, bk_X4_unpack_37, bk_X4_unpack_38, bk_X4_unpack_45, bk_X4_unpack_51, bk_X4_unpack_70, bk_X4_unpack_110, bk_X4_unpack_152, pm_arr, pm_call, pm_e_c0, pm_e_c1, pm_e_cti, pm_e_ctl, pm_e_ctr, pm_e_go, pm_e_i, pm_e_ii, pm_e_l, pm_e_ldi, pm_e_ldl, pm_e_ldr, pm_e_li, pm_e_lk, pm_e_ll, pm_e_r, pm_e_ri, pm_e_rii, pm_e_ril, pm_e_rm0, pm_e_rm1, pm_e_rs0, pm_e_rs1, pm_e_wp0, pm_e_wp1, pm_f2, pm_f3, pm_fld, pm_fv, pm_obj, pm_recv, pm_s_aload_n, pm_s_bipush, pm_s_getfield, pm_s_goto, pm_s_iadd, pm_s_iaload, pm_s_iand, pm_s_iastore, pm_s_iconst, pm_s_idiv, pm_s_ifCond_eq, pm_s_if_icmp_ge, pm_s_iinc, pm_s_iload, pm_s_iload_n, pm_s_imul, pm_s_invokevirtual, pm_s_istore, pm_s_isub, pm_s_iushr, pm_s_l2i, pm_s_land, pm_s_lastore, pm_s_lcmp, pm_s_lconst, pm_s_ldc2_w, pm_s_lload, pm_s_lload_n, pm_s_lshl, pm_s_lstore, pm_s_lsub, pm_s_lushr, pm_s_return, ct_X4_unpack, pS, pR, pC, pE, pL, -Int32.not_le, -Int32.not_lt, -Int64.not_le, -Int64.not_lt, -List.getD_eq_getElem?_getD]
        have f6 : pm_fr (F4 p) M M3 := f5.trans (r4.mono (by intro q hq; simp at hq; simp [hq]))
        refine hT M3 ⟨hO, he, ?_, fun i hi => ?_, fun j hj => ?_⟩ (f6.mono (by intro q hq; simp at hq; simp; omega))
        · rw [f6.i (by simp)]; exact hcc
        · obtain ⟨j, hj, ej⟩ := sg_surj S hi
          have w := q2 j hj
          rw [ej] at w
          refine ⟨?_, ?_, ?_⟩
          · rw [r4.l (by simp), r2.l (by simp), fr1.l (by simp)]; exact w.1
          · rw [r4.i (by simp), r2.i (by simp), fr1.i (by simp)]; exact w.2
          · have w2 := (r3 i hi).2
            have w3 := hb2 i hi
            rw [w2]; congr 1
            rw [cP_app, cP_app]; omega
        · rw [r4.i (by simp), r2.i (by simp)]
          rcases (show j = 0 ∨ j = 1 by omega) with rfl | rfl
          · exact f0
          · exact f1
      · simp only [if_neg z]
        simp (disch := omega) only [ni_in, ni_cl, ni_add, ni_mul, ni_sub, ni_lt, ni_le, ni_eq, ni_eq0, ni_lt0, ni_0le, ni_0lt, ni_le0, ni_a1, ni_a3, ni_a7, ni_a15]
        refine ⟨by omega, by omega, by omega, ?_⟩
        generalize hM1 : pm_set (pm_set M' (p + 3) 0 (nI (max (S.2.1 0) (S.2.1 1)))) (p + 3) (1 - 0) (nI (min (S.2.1 0) (S.2.1 1))) = M1
        have f0 : M1.1 (p + 3) 0 = nI (S.2.1 0) := by rw [← hM1, me_1s, if_neg (by decide), me_1s, if_pos rfl]; congr 1; omega
        have f1 : M1.1 (p + 3) 1 = nI (S.2.1 1) := by rw [← hM1, me_1s, if_pos rfl]; congr 1; omega
        have fr1 : pm_fr [p + 3] M' M1 := by rw [← hM1]; exact (pm_fr.rfl.set (by simp)).set (by simp)
        have f4 : pm_fr (F4 p) M M1 := q3.trans (fr1.mono (by intro q hq; simp at hq; simp [hq]))
        have hb2 : ∀ t, t < 4 → cP (pR P) t (dgC (colsO S 4)) + (cP (pR P) t [S.2.1 0] + cP (pR P) t [S.2.1 1]) + S.2.2 t = if t < pS P then pR P else 0 := by
          intro t ht4
          have := hA t ht4
          unfold DS at this
          rw [cP_app, cPmm] at this
          omega
        rw [f0]
        refine ⟨P, dgC (colsO S 4), S.2.1 0, hp, rfl, hI.2 0 (by decide), hdkm f4, fun t ht4 => ?_, fun t ht4 => ?_, fun M2 r1 r2 => ?_⟩
        · have := q1 t ht4
          rw [show M1.1 (p + 4) t = M'.1 (p + 4) t from fr1.i (by simp) t]; exact this
        · have := hb2 t ht4
          rw [cP_app]; omega
        simp (maxSteps := 2000000) [bk_X4_unpack_0, bk_X4_unpack_3, bk_X4_unpack_37, bk_X4_unpack_38, bk_X4_unpack_45, bk_X4_unpack_51, bk_X4_unpack_70, bk_X4_unpack_110, bk_X4_unpack_152, pm_arr, pm_call, pm_e_c0, pm_e_c1, pm_e_cti, pm_e_ctl, pm_e_ctr, pm_e_go, pm_e_i, pm_e_ii, pm_e_l, pm_e_ldi, pm_e_ldl, pm_e_ldr, pm_e_li, pm_e_lk, pm_e_ll, pm_e_r, pm_e_ri, pm_e_rii, pm_e_ril, pm_e_rm0, pm_e_rm1, pm_e_rs0, pm_e_rs1, pm_e_wp0, pm_e_wp1, pm_f2, pm_f3, pm_fld, pm_fv, pm_obj, pm_recv, pm_s_aload_n, pm_s_bipush, pm_s_getfield, pm_s_goto, pm_s_iadd, pm_s_iaload, pm_s_iand, pm_s_iastore, pm_s_iconst, pm_s_idiv, pm_s_ifCond_eq, pm_s_if_icmp_ge, pm_s_iinc, pm_s_iload, pm_s_iload_n, pm_s_imul, pm_s_invokevirtual, pm_s_istore, pm_s_isub, pm_s_iushr, pm_s_l2i, pm_s_land, pm_s_lastore, pm_s_lcmp, pm_s_lconst, pm_s_ldc2_w, pm_s_lload, pm_s_lload_n, pm_s_lshl, pm_s_lstore, pm_s_lsub, pm_s_lushr, pm_s_return, ct_X4_unpack, pS, pR, pC, pE, pL, -Int32.not_le, -Int32.not_lt, -Int64.not_le, -Int64.not_lt, -List.getD_eq_getElem?_getD, st_0 hp]
        rw [show M2.1 (p + 3) 1 = nI (S.2.1 1) from by rw [r2.i (by simp)]; exact f1]
        have f5 : pm_fr (F4 p) M M2 := f4.trans (r2.mono (by intro q hq; simp at hq; simp [hq]))
        refine ⟨P, dgC (colsO S 4) ++ [S.2.1 0], S.2.1 1, hp, rfl, hI.2 1 (by decide), hdkm f5, r1, fun t ht4 => ?_, fun M3 r3 r4 => ?_⟩
        · have := hb2 t ht4
          rw [cP_app, cP_app]; omega
        simp (maxSteps := 2000000) [bk_X4_unpack_0, bk_X4_unpack_3, bk_X4_unpack_37, bk_X4_unpack_38, bk_X4_unpack_45, bk_X4_unpack_51, bk_X4_unpack_70, bk_X4_unpack_110, bk_X4_unpack_152, pm_arr, pm_call, pm_e_c0, pm_e_c1, pm_e_cti, pm_e_ctl, pm_e_ctr, pm_e_go, pm_e_i, pm_e_ii, pm_e_l, pm_e_ldi, pm_e_ldl, pm_e_ldr, pm_e_li, pm_e_lk, pm_e_ll, pm_e_r, pm_e_ri, pm_e_rii, pm_e_ril, pm_e_rm0, pm_e_rm1, pm_e_rs0, pm_e_rs1, pm_e_wp0, pm_e_wp1, pm_f2, pm_f3, pm_fld, pm_fv, pm_obj, pm_recv, pm_s_aload_n, pm_s_bipush, pm_s_getfield, pm_s_goto, pm_s_iadd, pm_s_iaload, pm_s_iand, pm_s_iastore, pm_s_iconst, pm_s_idiv, pm_s_ifCond_eq, pm_s_if_icmp_ge, pm_s_iinc, pm_s_iload, pm_s_iload_n, pm_s_imul, pm_s_invokevirtual, pm_s_istore, pm_s_isub, pm_s_iushr, pm_s_l2i, pm_s_land, pm_s_lastore, pm_s_lcmp, pm_s_lconst, pm_s_ldc2_w, pm_s_lload, pm_s_lload_n, pm_s_lshl, pm_s_lstore, pm_s_lsub, pm_s_lushr, pm_s_return, ct_X4_unpack, pS, pR, pC, pE, pL, -Int32.not_le, -Int32.not_lt, -Int64.not_le, -Int64.not_lt, -List.getD_eq_getElem?_getD]
        have f6 : pm_fr (F4 p) M M3 := f5.trans (r4.mono (by intro q hq; simp at hq; simp [hq]))
        refine hT M3 ⟨hO, he, ?_, fun i hi => ?_, fun j hj => ?_⟩ (f6.mono (by intro q hq; simp at hq; simp; omega))
        · rw [f6.i (by simp)]; exact hcc
        · obtain ⟨j, hj, ej⟩ := sg_surj S hi
          have w := q2 j hj
          rw [ej] at w
          refine ⟨?_, ?_, ?_⟩
          · rw [r4.l (by simp), r2.l (by simp), fr1.l (by simp)]; exact w.1
          · rw [r4.i (by simp), r2.i (by simp), fr1.i (by simp)]; exact w.2
          · have w2 := (r3 i hi).2
            have w3 := hb2 i hi
            rw [w2]; congr 1
            rw [cP_app, cP_app]; omega
        · rw [r4.i (by simp), r2.i (by simp)]
          rcases (show j = 0 ∨ j = 1 by omega) with rfl | rfl
          · exact f0
          · exact f1
    have loop : ∀ (f i : Nat) (M' : pm_M), 4 ≤ i + f → i ≤ 4 → HoX M' p P (dgC (colsO S i)) → (∀ j, j < i → M'.2 (p + 1) (sg S j) = lN (pq (S.1 (sg S j))) ∧ M'.1 (p + 2) (sg S j) = nI (S.1 (sg S j)).length) → pm_fr (F4 p) M M' → X 51 [(0, .ref p), (3, .int (nI (arN S))), (4, .long (lN (leN (DR S i)))), (6, .int (nI i))] [] M' := by
      intro f
      induction f with
      | zero =>
        intro i M' f1 f2 q1 q2 q3
        have e1 : i = 4 := by omega
        subst e1
        refine hb51 _ _ _ ?_
        simp (maxSteps := 2000000) [bk_X4_unpack_0, bk_X4_unpack_3, bk_X4_unpack_37, bk_X4_unpack_38, bk_X4_unpack_45, bk_X4_unpack_51, bk_X4_unpack_70, bk_X4_unpack_110, bk_X4_unpack_152, pm_arr, pm_call, pm_e_c0, pm_e_c1, pm_e_cti, pm_e_ctl, pm_e_ctr, pm_e_go, pm_e_i, pm_e_ii, pm_e_l, pm_e_ldi, pm_e_ldl, pm_e_ldr, pm_e_li, pm_e_lk, pm_e_ll, pm_e_r, pm_e_ri, pm_e_rii, pm_e_ril, pm_e_rm0, pm_e_rm1, pm_e_rs0, pm_e_rs1, pm_e_wp0, pm_e_wp1, pm_f2, pm_f3, pm_fld, pm_fv, pm_obj, pm_recv, pm_s_aload_n, pm_s_bipush, pm_s_getfield, pm_s_goto, pm_s_iadd, pm_s_iaload, pm_s_iand, pm_s_iastore, pm_s_iconst, pm_s_idiv, pm_s_ifCond_eq, pm_s_if_icmp_ge, pm_s_iinc, pm_s_iload, pm_s_iload_n, pm_s_imul, pm_s_invokevirtual, pm_s_istore, pm_s_isub, pm_s_iushr, pm_s_l2i, pm_s_land, pm_s_lastore, pm_s_lcmp, pm_s_lconst, pm_s_ldc2_w, pm_s_lload, pm_s_lload_n, pm_s_lshl, pm_s_lstore, pm_s_lsub, pm_s_lushr, pm_s_return, ct_X4_unpack, pS, pR, pC, pE, pL, -Int32.not_le, -Int32.not_lt, -Int64.not_le, -Int64.not_lt, -List.getD_eq_getElem?_getD]
        exact h152 M' q1 q2 q3
      | succ f ih =>
        intro i M' f1 f2 q1 q2 q3
        by_cases hi : i < 4
        · have hg := sg_lt S i
          have hlt := DR_lt hO ht (show i ≤ 4 by omega)
          have h16 := DR_16 hO (show i ≤ 4 by omega)
          have hc12 := (hO.1 (sg S i) hg).1
          have hcd := (hO.1 (sg S i) hg).2
          have eDR := DR_s S hi
          have h110 : ∀ M', HoX M' p P (dgC (colsO S i) ++ (S.1 (sg S i)).reverse) → (∀ j, j < i → M'.2 (p + 1) (sg S j) = lN (pq (S.1 (sg S j))) ∧ M'.1 (p + 2) (sg S j) = nI (S.1 (sg S j)).length) → pm_fr (F4 p) M M' → X 110 [(0, .ref p), (3, .int (nI (arN S))), (4, .long (lN (leN (DR S i)))), (6, .int (nI i)), (7, .int (nI (sg S i))), (8, .int (nI (4 * (S.1 (sg S i)).length)))] [] M' := by
            intro M' q1 q2 q3
            refine hb110 _ _ _ ?_
            simp (maxSteps := 2000000) [bk_X4_unpack_0, bk_X4_unpack_3, bk_X4_unpack_37, bk_X4_unpack_38, bk_X4_unpack_45, bk_X4_unpack_51, bk_X4_unpack_70, bk_X4_unpack_110, bk_X4_unpack_152, pm_arr, pm_call, pm_e_c0, pm_e_c1, pm_e_cti, pm_e_ctl, pm_e_ctr, pm_e_go, pm_e_i, pm_e_ii, pm_e_l, pm_e_ldi, pm_e_ldl, pm_e_ldr, pm_e_li, pm_e_lk, pm_e_ll, pm_e_r, pm_e_ri, pm_e_rii, pm_e_ril, pm_e_rm0, pm_e_rm1, pm_e_rs0, pm_e_rs1, pm_e_wp0, pm_e_wp1, pm_f2, pm_f3, pm_fld, pm_fv, pm_obj, pm_recv, pm_s_aload_n, pm_s_bipush, pm_s_getfield, pm_s_goto, pm_s_iadd, pm_s_iaload, pm_s_iand, pm_s_iastore, pm_s_iconst, pm_s_idiv, pm_s_ifCond_eq, pm_s_if_icmp_ge, pm_s_iinc, pm_s_iload, pm_s_iload_n, pm_s_imul, pm_s_invokevirtual, pm_s_istore, pm_s_isub, pm_s_iushr, pm_s_l2i, pm_s_land, pm_s_lastore, pm_s_lcmp, pm_s_lconst, pm_s_ldc2_w, pm_s_lload, pm_s_lload_n, pm_s_lshl, pm_s_lstore, pm_s_lsub, pm_s_lushr, pm_s_return, ct_X4_unpack, pS, pR, pC, pE, pL, -Int32.not_le, -Int32.not_lt, -Int64.not_le, -Int64.not_lt, -List.getD_eq_getElem?_getD, st_0 hp, st_1 hp, st_2 hp]
            simp (disch := omega) only [ni_in, ni_cl, ni_add, ni_mul, ni_sub, ni_lt, ni_le, ni_eq, ni_eq0, ni_lt0, ni_0le, ni_0lt, ni_le0, ni_a1, ni_a3, ni_a7, ni_a15, ni_div]
            repeat refine ⟨by omega, ?_⟩
            have e1 : lN (leN (DR S i)) &&& ((lN 1 <<< ((nI (4 * (S.1 (sg S i)).length)).toInt64 &&& 63)) - lN 1) = lN (pq (S.1 (sg S i))) := by
              rw [ln_pow (by omega), wb_mask hlt (by omega), pw16, leN_take _ _ h16, eDR, List.take_append_of_le_length (by simp), List.take_of_length_le (by simp), leN_rev]
            have e2 : ((lN (leN (DR S i))).toUInt64 >>> ((nI (4 * (S.1 (sg S i)).length + 4)).toInt64.toUInt64 &&& Int64.toUInt64 63)).toInt64 = lN (leN (DR S (i + 1))) := by
              rw [show 4 * (S.1 (sg S i)).length + 4 = 4 * ((S.1 (sg S i)).length + 1) by omega, ln_dg hlt (by omega), leN_drop _ _ h16, eDR]
              congr 1
              rw [List.drop_append, List.drop_eq_nil_of_le (by simp)]
              simp
            have e3 : 4 * (S.1 (sg S i)).length / 4 = (S.1 (sg S i)).length := by omega
            rw [e1, e2, e3]
            refine ih (i + 1) _ (by omega) (by omega) ?_ ?_ ((q3.setL (by simp)).set (by simp))
            · intro t ht4
              have := q1 t ht4
              rw [colsO_s, dgC_app]
              have e0 : cP (pR P) t (dgC (colsO S i) ++ dgC [S.1 (sg S i)]) = cP (pR P) t (dgC (colsO S i) ++ (S.1 (sg S i)).reverse) := by
                show cP (pR P) t (dgC (colsO S i) ++ ((S.1 (sg S i)).reverse ++ [0])) = _
                rw [← List.append_assoc, cP_app _ _ _ [0], cP_1, if_neg (by simp), Nat.add_zero]
              rw [e0]
              simp only [me_1, me_2, me_3]
              simpa using this
            · intro j hj
              by_cases ej : j = i
              · subst ej
                simp only [me_1, me_2, me_3, me_4]
                simp
              · have hne : sg S j ≠ sg S i := fun z => ej (sg_inj S (by omega) hi z)
                have := q2 j (by omega)
                simp only [me_1, me_2, me_3, me_4]
                simp [hne, this]
          have inner : ∀ (g t : Nat) (M' : pm_M), (S.1 (sg S i)).length ≤ t + g → t ≤ (S.1 (sg S i)).length → HoX M' p P (dgC (colsO S i) ++ (S.1 (sg S i)).reverse.take t) → (∀ j, j < i → M'.2 (p + 1) (sg S j) = lN (pq (S.1 (sg S j))) ∧ M'.1 (p + 2) (sg S j) = nI (S.1 (sg S j)).length) → pm_fr (F4 p) M M' → X 70 [(0, .ref p), (3, .int (nI (arN S))), (4, .long (lN (leN (DR S i)))), (6, .int (nI i)), (7, .int (nI (sg S i))), (8, .int (nI (4 * t)))] [] M' := by
            have hcr : ∀ t, t < (S.1 (sg S i)).length → (DR S i).getD t 0 = (S.1 (sg S i)).reverse.getD t 0 ∧ 1 ≤ (S.1 (sg S i)).reverse.getD t 0 ∧ (S.1 (sg S i)).reverse.getD t 0 ≤ pS P * pR P := by
              intro t ht
              have hm : (S.1 (sg S i)).reverse.getD t 0 ∈ S.1 (sg S i) := List.mem_reverse.mp (getD_mem (by simpa using ht))
              exact ⟨by rw [eDR, getD_rev ht], (hcd _ hm).1, hI.1 (sg S i) hg _ hm⟩
            have hsep : (DR S i).getD (S.1 (sg S i)).length 0 = 0 := by rw [eDR]; exact getD_sep
            have hdig : ∀ t, t ≤ (S.1 (sg S i)).length → ((lN (leN (DR S i))).toUInt64 >>> ((nI (4 * t)).toInt64.toUInt64 &&& Int64.toUInt64 63)).toInt64 &&& lN 15 = lN ((DR S i).getD t 0) := by
              intro t ht
              have hle : leN (DR S i) / 16 ^ t ≤ leN (DR S i) := Nat.div_le_self _ _
              rw [ln_dg hlt (by omega), ← leN_get _ t h16]
              exact wb_mask (k := 4) (by omega) (by decide)
            have end110 : ∀ M', HoX M' p P (dgC (colsO S i) ++ (S.1 (sg S i)).reverse.take (S.1 (sg S i)).length) → (∀ j, j < i → M'.2 (p + 1) (sg S j) = lN (pq (S.1 (sg S j))) ∧ M'.1 (p + 2) (sg S j) = nI (S.1 (sg S j)).length) → pm_fr (F4 p) M M' → X 70 [(0, .ref p), (3, .int (nI (arN S))), (4, .long (lN (leN (DR S i)))), (6, .int (nI i)), (7, .int (nI (sg S i))), (8, .int (nI (4 * (S.1 (sg S i)).length)))] [] M' := by
              intro M' q1 q2 q3
              rw [List.take_of_length_le (by simp)] at q1
              refine hb70 _ _ _ ?_
              simp (maxSteps := 2000000) [bk_X4_unpack_0, bk_X4_unpack_3, bk_X4_unpack_37, bk_X4_unpack_38, bk_X4_unpack_45, bk_X4_unpack_51, bk_X4_unpack_70, bk_X4_unpack_110, bk_X4_unpack_152, pm_arr, pm_call, pm_e_c0, pm_e_c1, pm_e_cti, pm_e_ctl, pm_e_ctr, pm_e_go, pm_e_i, pm_e_ii, pm_e_l, pm_e_ldi, pm_e_ldl, pm_e_ldr, pm_e_li, pm_e_lk, pm_e_ll, pm_e_r, pm_e_ri, pm_e_rii, pm_e_ril, pm_e_rm0, pm_e_rm1, pm_e_rs0, pm_e_rs1, pm_e_wp0, pm_e_wp1, pm_f2, pm_f3, pm_fld, pm_fv, pm_obj, pm_recv, pm_s_aload_n, pm_s_bipush, pm_s_getfield, pm_s_goto, pm_s_iadd, pm_s_iaload, pm_s_iand, pm_s_iastore, pm_s_iconst, pm_s_idiv, pm_s_ifCond_eq, pm_s_if_icmp_ge, pm_s_iinc, pm_s_iload, pm_s_iload_n, pm_s_imul, pm_s_invokevirtual, pm_s_istore, pm_s_isub, pm_s_iushr, pm_s_l2i, pm_s_land, pm_s_lastore, pm_s_lcmp, pm_s_lconst, pm_s_ldc2_w, pm_s_lload, pm_s_lload_n, pm_s_lshl, pm_s_lstore, pm_s_lsub, pm_s_lushr, pm_s_return, ct_X4_unpack, pS, pR, pC, pE, pL, -Int32.not_le, -Int32.not_lt, -Int64.not_le, -Int64.not_lt, -List.getD_eq_getElem?_getD, st_0 hp]
              rw [hdig _ (Nat.le_refl _), hsep]
              exact ⟨fun _ => h110 M' q1 q2 q3, fun _ => ⟨fun _ => h110 M' q1 q2 q3, fun h => absurd (by decide) h⟩⟩
            intro g
            induction g with
            | zero =>
              intro t M' g1 g2 q1 q2 q3
              have e1 : t = (S.1 (sg S i)).length := by omega
              subst e1
              exact end110 M' q1 q2 q3
            | succ g ihg =>
              intro t M' g1 g2 q1 q2 q3
              by_cases htl : t < (S.1 (sg S i)).length
              · obtain ⟨d1, d2, d3⟩ := hcr t htl
                refine hb70 _ _ _ ?_
                simp (maxSteps := 2000000) [bk_X4_unpack_0, bk_X4_unpack_3, bk_X4_unpack_37, bk_X4_unpack_38, bk_X4_unpack_45, bk_X4_unpack_51, bk_X4_unpack_70, bk_X4_unpack_110, bk_X4_unpack_152, pm_arr, pm_call, pm_e_c0, pm_e_c1, pm_e_cti, pm_e_ctl, pm_e_ctr, pm_e_go, pm_e_i, pm_e_ii, pm_e_l, pm_e_ldi, pm_e_ldl, pm_e_ldr, pm_e_li, pm_e_lk, pm_e_ll, pm_e_r, pm_e_ri, pm_e_rii, pm_e_ril, pm_e_rm0, pm_e_rm1, pm_e_rs0, pm_e_rs1, pm_e_wp0, pm_e_wp1, pm_f2, pm_f3, pm_fld, pm_fv, pm_obj, pm_recv, pm_s_aload_n, pm_s_bipush, pm_s_getfield, pm_s_goto, pm_s_iadd, pm_s_iaload, pm_s_iand, pm_s_iastore, pm_s_iconst, pm_s_idiv, pm_s_ifCond_eq, pm_s_if_icmp_ge, pm_s_iinc, pm_s_iload, pm_s_iload_n, pm_s_imul, pm_s_invokevirtual, pm_s_istore, pm_s_isub, pm_s_iushr, pm_s_l2i, pm_s_land, pm_s_lastore, pm_s_lcmp, pm_s_lconst, pm_s_ldc2_w, pm_s_lload, pm_s_lload_n, pm_s_lshl, pm_s_lstore, pm_s_lsub, pm_s_lushr, pm_s_return, ct_X4_unpack, pS, pR, pC, pE, pL, -Int32.not_le, -Int32.not_lt, -Int64.not_le, -Int64.not_lt, -List.getD_eq_getElem?_getD, st_0 hp]
                rw [hdig t (by omega), d1, lgc0 _ (by have := hcd _ (List.mem_reverse.mp (getD_mem (l := (S.1 (sg S i)).reverse) (j := t) (by simpa using htl))); omega)]
                simp (disch := omega) only [ni_in, ni_cl, ni_add, ni_mul, ni_sub, ni_lt, ni_le, ni_eq, ni_eq0, ni_lt0, ni_0le, ni_0lt, ni_le0, ni_a1, ni_a3, ni_a7, ni_a15]
                refine ⟨fun h => by omega, fun _ => ⟨fun h => by omega, fun _ => ?_⟩⟩
                rw [ln_dg hlt (by omega), ln_i, ni_dg, leN_get _ t h16, d1]
                have etk : (S.1 (sg S i)).reverse.take t ++ [(S.1 (sg S i)).reverse.getD t 0] = (S.1 (sg S i)).reverse.take (t + 1) := by
                  rw [List.take_succ, List.getD_eq_getElem?_getD, List.getElem?_eq_getElem (by simpa using htl)]; rfl
                refine ⟨P, dgC (colsO S i) ++ (S.1 (sg S i)).reverse.take t, (S.1 (sg S i)).reverse.getD t 0, hp, rfl, d3, hdkm q3, q1, fun u hu => ?_, fun M'' r1 r2 => ?_⟩
                · have hc := cards i (by omega) u hu
                  rw [eDR, ← List.take_append_drop (t + 1) (S.1 (sg S i)).reverse, List.append_assoc, cP_app _ _ (List.take _ _)] at hc
                  rw [List.append_assoc, etk, cP_app]
                  omega
                · simp (maxSteps := 2000000) [bk_X4_unpack_0, bk_X4_unpack_3, bk_X4_unpack_37, bk_X4_unpack_38, bk_X4_unpack_45, bk_X4_unpack_51, bk_X4_unpack_70, bk_X4_unpack_110, bk_X4_unpack_152, pm_arr, pm_call, pm_e_c0, pm_e_c1, pm_e_cti, pm_e_ctl, pm_e_ctr, pm_e_go, pm_e_i, pm_e_ii, pm_e_l, pm_e_ldi, pm_e_ldl, pm_e_ldr, pm_e_li, pm_e_lk, pm_e_ll, pm_e_r, pm_e_ri, pm_e_rii, pm_e_ril, pm_e_rm0, pm_e_rm1, pm_e_rs0, pm_e_rs1, pm_e_wp0, pm_e_wp1, pm_f2, pm_f3, pm_fld, pm_fv, pm_obj, pm_recv, pm_s_aload_n, pm_s_bipush, pm_s_getfield, pm_s_goto, pm_s_iadd, pm_s_iaload, pm_s_iand, pm_s_iastore, pm_s_iconst, pm_s_idiv, pm_s_ifCond_eq, pm_s_if_icmp_ge, pm_s_iinc, pm_s_iload, pm_s_iload_n, pm_s_imul, pm_s_invokevirtual, pm_s_istore, pm_s_isub, pm_s_iushr, pm_s_l2i, pm_s_land, pm_s_lastore, pm_s_lcmp, pm_s_lconst, pm_s_ldc2_w, pm_s_lload, pm_s_lload_n, pm_s_lshl, pm_s_lstore, pm_s_lsub, pm_s_lushr, pm_s_return, ct_X4_unpack, pS, pR, pC, pE, pL, -Int32.not_le, -Int32.not_lt, -Int64.not_le, -Int64.not_lt, -List.getD_eq_getElem?_getD]
                  rw [List.append_assoc, etk] at r1
                  have := ihg (t + 1) M'' (by omega) (by omega) r1 (fun j hj => ?_) (q3.trans (r2.mono (by intro q hq; simp at hq; simp [hq])))
                  · rw [Nat.mul_add] at this
                    exact this
                  · rw [r2.l (by simp), r2.i (by simp)]; exact q2 j hj
              · have e1 : t = (S.1 (sg S i)).length := by omega
                subst e1
                exact end110 M' q1 q2 q3
          refine hb51 _ _ _ ?_
          simp (maxSteps := 2000000) [bk_X4_unpack_0, bk_X4_unpack_3, bk_X4_unpack_37, bk_X4_unpack_38, bk_X4_unpack_45, bk_X4_unpack_51, bk_X4_unpack_70, bk_X4_unpack_110, bk_X4_unpack_152, pm_arr, pm_call, pm_e_c0, pm_e_c1, pm_e_cti, pm_e_ctl, pm_e_ctr, pm_e_go, pm_e_i, pm_e_ii, pm_e_l, pm_e_ldi, pm_e_ldl, pm_e_ldr, pm_e_li, pm_e_lk, pm_e_ll, pm_e_r, pm_e_ri, pm_e_rii, pm_e_ril, pm_e_rm0, pm_e_rm1, pm_e_rs0, pm_e_rs1, pm_e_wp0, pm_e_wp1, pm_f2, pm_f3, pm_fld, pm_fv, pm_obj, pm_recv, pm_s_aload_n, pm_s_bipush, pm_s_getfield, pm_s_goto, pm_s_iadd, pm_s_iaload, pm_s_iand, pm_s_iastore, pm_s_iconst, pm_s_idiv, pm_s_ifCond_eq, pm_s_if_icmp_ge, pm_s_iinc, pm_s_iload, pm_s_iload_n, pm_s_imul, pm_s_invokevirtual, pm_s_istore, pm_s_isub, pm_s_iushr, pm_s_l2i, pm_s_land, pm_s_lastore, pm_s_lcmp, pm_s_lconst, pm_s_ldc2_w, pm_s_lload, pm_s_lload_n, pm_s_lshl, pm_s_lstore, pm_s_lsub, pm_s_lushr, pm_s_return, ct_X4_unpack, pS, pR, pC, pE, pL, -Int32.not_le, -Int32.not_lt, -Int64.not_le, -Int64.not_lt, -List.getD_eq_getElem?_getD]
          simp (disch := omega) only [ni_in, ni_cl, ni_add, ni_mul, ni_sub, ni_lt, ni_le, ni_eq, ni_eq0, ni_lt0, ni_0le, ni_0lt, ni_le0, ni_a1, ni_a3, ni_a7, ni_a15]
          refine ⟨fun h => by omega, fun _ => ?_⟩
          rw [show (nI 2).toUInt32 * (nI i).toUInt32 = (nI (2 * i)).toUInt32 from by rw [← Int32.toUInt32_mul, ni_mul], ni_ushr (by omega) (by omega), ni_a3 (by have : arN S / 2 ^ (2 * i) ≤ arN S := Nat.div_le_self _ _; omega), arN_at S hi]
          exact inner (S.1 (sg S i)).length 0 M' (by omega) (by omega) (by simpa using q1) q2 q3
        · have e1 : i = 4 := by omega
          subst e1
          refine hb51 _ _ _ ?_
          simp (maxSteps := 2000000) [bk_X4_unpack_0, bk_X4_unpack_3, bk_X4_unpack_37, bk_X4_unpack_38, bk_X4_unpack_45, bk_X4_unpack_51, bk_X4_unpack_70, bk_X4_unpack_110, bk_X4_unpack_152, pm_arr, pm_call, pm_e_c0, pm_e_c1, pm_e_cti, pm_e_ctl, pm_e_ctr, pm_e_go, pm_e_i, pm_e_ii, pm_e_l, pm_e_ldi, pm_e_ldl, pm_e_ldr, pm_e_li, pm_e_lk, pm_e_ll, pm_e_r, pm_e_ri, pm_e_rii, pm_e_ril, pm_e_rm0, pm_e_rm1, pm_e_rs0, pm_e_rs1, pm_e_wp0, pm_e_wp1, pm_f2, pm_f3, pm_fld, pm_fv, pm_obj, pm_recv, pm_s_aload_n, pm_s_bipush, pm_s_getfield, pm_s_goto, pm_s_iadd, pm_s_iaload, pm_s_iand, pm_s_iastore, pm_s_iconst, pm_s_idiv, pm_s_ifCond_eq, pm_s_if_icmp_ge, pm_s_iinc, pm_s_iload, pm_s_iload_n, pm_s_imul, pm_s_invokevirtual, pm_s_istore, pm_s_isub, pm_s_iushr, pm_s_l2i, pm_s_land, pm_s_lastore, pm_s_lcmp, pm_s_lconst, pm_s_ldc2_w, pm_s_lload, pm_s_lload_n, pm_s_lshl, pm_s_lstore, pm_s_lsub, pm_s_lushr, pm_s_return, ct_X4_unpack, pS, pR, pC, pE, pL, -Int32.not_le, -Int32.not_lt, -Int64.not_le, -Int64.not_lt, -List.getD_eq_getElem?_getD]
          exact h152 M' q1 q2 q3
    have first : ∀ (f i : Nat) (M' : pm_M), 4 ≤ i + f → i ≤ 4 → (∀ t, t < i → M'.1 (p + 4) t = nI (if t < pS P then pR P else 0)) → pm_fr (F4 p) M M' → X 3 [(0, .ref p), (1, .long (lN (fkN S))), (3, .int (nI (arN S))), (4, .int (nI i))] [] M' := by
      intro f
      have out : ∀ M', (∀ t, t < 4 → M'.1 (p + 4) t = nI (if t < pS P then pR P else 0)) → pm_fr (F4 p) M M' → X 45 [(0, .ref p), (1, .long (lN (fkN S))), (3, .int (nI (arN S)))] [] M' := by
        intro M' q1 q2
        refine hb45 _ _ _ ?_
        simp (maxSteps := 2000000) [bk_X4_unpack_0, bk_X4_unpack_3, bk_X4_unpack_37, bk_X4_unpack_38, bk_X4_unpack_45, bk_X4_unpack_51, bk_X4_unpack_70, bk_X4_unpack_110, bk_X4_unpack_152, pm_arr, pm_call, pm_e_c0, pm_e_c1, pm_e_cti, pm_e_ctl, pm_e_ctr, pm_e_go, pm_e_i, pm_e_ii, pm_e_l, pm_e_ldi, pm_e_ldl, pm_e_ldr, pm_e_li, pm_e_lk, pm_e_ll, pm_e_r, pm_e_ri, pm_e_rii, pm_e_ril, pm_e_rm0, pm_e_rm1, pm_e_rs0, pm_e_rs1, pm_e_wp0, pm_e_wp1, pm_f2, pm_f3, pm_fld, pm_fv, pm_obj, pm_recv, pm_s_aload_n, pm_s_bipush, pm_s_getfield, pm_s_goto, pm_s_iadd, pm_s_iaload, pm_s_iand, pm_s_iastore, pm_s_iconst, pm_s_idiv, pm_s_ifCond_eq, pm_s_if_icmp_ge, pm_s_iinc, pm_s_iload, pm_s_iload_n, pm_s_imul, pm_s_invokevirtual, pm_s_istore, pm_s_isub, pm_s_iushr, pm_s_l2i, pm_s_land, pm_s_lastore, pm_s_lcmp, pm_s_lconst, pm_s_ldc2_w, pm_s_lload, pm_s_lload_n, pm_s_lshl, pm_s_lstore, pm_s_lsub, pm_s_lushr, pm_s_return, ct_X4_unpack, pS, pR, pC, pE, pL, -Int32.not_le, -Int32.not_lt, -Int64.not_le, -Int64.not_lt, -List.getD_eq_getElem?_getD]
        exact loop 4 0 M' (by omega) (by omega) (fun t ht4 => ⟨Nat.zero_le _, q1 t ht4⟩) (fun j hj => by omega) q2
      induction f with
      | zero =>
        intro i M' f1 f2 q1 q2
        have e1 : i = 4 := by omega
        subst e1
        refine hb3 _ _ _ ?_
        simp (maxSteps := 2000000) [bk_X4_unpack_0, bk_X4_unpack_3, bk_X4_unpack_37, bk_X4_unpack_38, bk_X4_unpack_45, bk_X4_unpack_51, bk_X4_unpack_70, bk_X4_unpack_110, bk_X4_unpack_152, pm_arr, pm_call, pm_e_c0, pm_e_c1, pm_e_cti, pm_e_ctl, pm_e_ctr, pm_e_go, pm_e_i, pm_e_ii, pm_e_l, pm_e_ldi, pm_e_ldl, pm_e_ldr, pm_e_li, pm_e_lk, pm_e_ll, pm_e_r, pm_e_ri, pm_e_rii, pm_e_ril, pm_e_rm0, pm_e_rm1, pm_e_rs0, pm_e_rs1, pm_e_wp0, pm_e_wp1, pm_f2, pm_f3, pm_fld, pm_fv, pm_obj, pm_recv, pm_s_aload_n, pm_s_bipush, pm_s_getfield, pm_s_goto, pm_s_iadd, pm_s_iaload, pm_s_iand, pm_s_iastore, pm_s_iconst, pm_s_idiv, pm_s_ifCond_eq, pm_s_if_icmp_ge, pm_s_iinc, pm_s_iload, pm_s_iload_n, pm_s_imul, pm_s_invokevirtual, pm_s_istore, pm_s_isub, pm_s_iushr, pm_s_l2i, pm_s_land, pm_s_lastore, pm_s_lcmp, pm_s_lconst, pm_s_ldc2_w, pm_s_lload, pm_s_lload_n, pm_s_lshl, pm_s_lstore, pm_s_lsub, pm_s_lushr, pm_s_return, ct_X4_unpack, pS, pR, pC, pE, pL, -Int32.not_le, -Int32.not_lt, -Int64.not_le, -Int64.not_lt, -List.getD_eq_getElem?_getD]
        exact out M' q1 q2
      | succ f ih =>
        intro i M' f1 f2 q1 q2
        by_cases hi : i < 4
        · have hDm := hdkm q2
          have h38 : ∀ v, v = (if i < pS P then pR P else 0) → X 38 [(0, .ref p), (1, .long (lN (fkN S))), (3, .int (nI (arN S))), (4, .int (nI i))] [.int (nI v), .int (nI i), .ref (p + 4)] M' := by
            intro v hv
            refine hb38 _ _ _ ?_
            simp (maxSteps := 2000000) [bk_X4_unpack_0, bk_X4_unpack_3, bk_X4_unpack_37, bk_X4_unpack_38, bk_X4_unpack_45, bk_X4_unpack_51, bk_X4_unpack_70, bk_X4_unpack_110, bk_X4_unpack_152, pm_arr, pm_call, pm_e_c0, pm_e_c1, pm_e_cti, pm_e_ctl, pm_e_ctr, pm_e_go, pm_e_i, pm_e_ii, pm_e_l, pm_e_ldi, pm_e_ldl, pm_e_ldr, pm_e_li, pm_e_lk, pm_e_ll, pm_e_r, pm_e_ri, pm_e_rii, pm_e_ril, pm_e_rm0, pm_e_rm1, pm_e_rs0, pm_e_rs1, pm_e_wp0, pm_e_wp1, pm_f2, pm_f3, pm_fld, pm_fv, pm_obj, pm_recv, pm_s_aload_n, pm_s_bipush, pm_s_getfield, pm_s_goto, pm_s_iadd, pm_s_iaload, pm_s_iand, pm_s_iastore, pm_s_iconst, pm_s_idiv, pm_s_ifCond_eq, pm_s_if_icmp_ge, pm_s_iinc, pm_s_iload, pm_s_iload_n, pm_s_imul, pm_s_invokevirtual, pm_s_istore, pm_s_isub, pm_s_iushr, pm_s_l2i, pm_s_land, pm_s_lastore, pm_s_lcmp, pm_s_lconst, pm_s_ldc2_w, pm_s_lload, pm_s_lload_n, pm_s_lshl, pm_s_lstore, pm_s_lsub, pm_s_lushr, pm_s_return, ct_X4_unpack, pS, pR, pC, pE, pL, -Int32.not_le, -Int32.not_lt, -Int64.not_le, -Int64.not_lt, -List.getD_eq_getElem?_getD, st_4 hp]
            simp (disch := omega) only [ni_in, ni_cl, ni_add, ni_mul, ni_sub, ni_lt, ni_le, ni_eq, ni_eq0, ni_lt0, ni_0le, ni_0lt, ni_le0, ni_a1, ni_a3, ni_a7, ni_a15]
            refine ⟨by omega, ih (i + 1) _ (by omega) (by omega) (fun t ht4 => ?_) (q2.set (by simp))⟩
            rw [me_1s]
            by_cases z : t = i
            · rw [if_pos z, z, hv]
            · rw [if_neg z]; exact q1 t (by omega)
          refine hb3 _ _ _ ?_
          simp (maxSteps := 2000000) [bk_X4_unpack_0, bk_X4_unpack_3, bk_X4_unpack_37, bk_X4_unpack_38, bk_X4_unpack_45, bk_X4_unpack_51, bk_X4_unpack_70, bk_X4_unpack_110, bk_X4_unpack_152, pm_arr, pm_call, pm_e_c0, pm_e_c1, pm_e_cti, pm_e_ctl, pm_e_ctr, pm_e_go, pm_e_i, pm_e_ii, pm_e_l, pm_e_ldi, pm_e_ldl, pm_e_ldr, pm_e_li, pm_e_lk, pm_e_ll, pm_e_r, pm_e_ri, pm_e_rii, pm_e_ril, pm_e_rm0, pm_e_rm1, pm_e_rs0, pm_e_rs1, pm_e_wp0, pm_e_wp1, pm_f2, pm_f3, pm_fld, pm_fv, pm_obj, pm_recv, pm_s_aload_n, pm_s_bipush, pm_s_getfield, pm_s_goto, pm_s_iadd, pm_s_iaload, pm_s_iand, pm_s_iastore, pm_s_iconst, pm_s_idiv, pm_s_ifCond_eq, pm_s_if_icmp_ge, pm_s_iinc, pm_s_iload, pm_s_iload_n, pm_s_imul, pm_s_invokevirtual, pm_s_istore, pm_s_isub, pm_s_iushr, pm_s_l2i, pm_s_land, pm_s_lastore, pm_s_lcmp, pm_s_lconst, pm_s_ldc2_w, pm_s_lload, pm_s_lload_n, pm_s_lshl, pm_s_lstore, pm_s_lsub, pm_s_lushr, pm_s_return, ct_X4_unpack, pS, pR, pC, pE, pL, -Int32.not_le, -Int32.not_lt, -Int64.not_le, -Int64.not_lt, -List.getD_eq_getElem?_getD, st_0 hp, sx_1, hDm.1.2.1.1, hDm.1.2.1.2.1]
          dsimp only [pS, pR] at *
          simp (disch := omega) only [ni_in, ni_cl, ni_add, ni_mul, ni_sub, ni_lt, ni_le, ni_eq, ni_eq0, ni_lt0, ni_0le, ni_0lt, ni_le0, ni_a1, ni_a3, ni_a7, ni_a15]
          refine ⟨fun h => by omega, fun _ => ⟨fun h => ?_, fun h => ?_⟩⟩
          · refine hb37 _ _ _ ?_
            simp (maxSteps := 2000000) [bk_X4_unpack_0, bk_X4_unpack_3, bk_X4_unpack_37, bk_X4_unpack_38, bk_X4_unpack_45, bk_X4_unpack_51, bk_X4_unpack_70, bk_X4_unpack_110, bk_X4_unpack_152, pm_arr, pm_call, pm_e_c0, pm_e_c1, pm_e_cti, pm_e_ctl, pm_e_ctr, pm_e_go, pm_e_i, pm_e_ii, pm_e_l, pm_e_ldi, pm_e_ldl, pm_e_ldr, pm_e_li, pm_e_lk, pm_e_ll, pm_e_r, pm_e_ri, pm_e_rii, pm_e_ril, pm_e_rm0, pm_e_rm1, pm_e_rs0, pm_e_rs1, pm_e_wp0, pm_e_wp1, pm_f2, pm_f3, pm_fld, pm_fv, pm_obj, pm_recv, pm_s_aload_n, pm_s_bipush, pm_s_getfield, pm_s_goto, pm_s_iadd, pm_s_iaload, pm_s_iand, pm_s_iastore, pm_s_iconst, pm_s_idiv, pm_s_ifCond_eq, pm_s_if_icmp_ge, pm_s_iinc, pm_s_iload, pm_s_iload_n, pm_s_imul, pm_s_invokevirtual, pm_s_istore, pm_s_isub, pm_s_iushr, pm_s_l2i, pm_s_land, pm_s_lastore, pm_s_lcmp, pm_s_lconst, pm_s_ldc2_w, pm_s_lload, pm_s_lload_n, pm_s_lshl, pm_s_lstore, pm_s_lsub, pm_s_lushr, pm_s_return, ct_X4_unpack, pS, pR, pC, pE, pL, -Int32.not_le, -Int32.not_lt, -Int64.not_le, -Int64.not_lt, -List.getD_eq_getElem?_getD]
            exact h38 0 (by rw [if_neg (by omega)])
          · exact h38 _ (by rw [if_pos (by omega)])
        · have e1 : i = 4 := by omega
          subst e1
          refine hb3 _ _ _ ?_
          simp (maxSteps := 2000000) [bk_X4_unpack_0, bk_X4_unpack_3, bk_X4_unpack_37, bk_X4_unpack_38, bk_X4_unpack_45, bk_X4_unpack_51, bk_X4_unpack_70, bk_X4_unpack_110, bk_X4_unpack_152, pm_arr, pm_call, pm_e_c0, pm_e_c1, pm_e_cti, pm_e_ctl, pm_e_ctr, pm_e_go, pm_e_i, pm_e_ii, pm_e_l, pm_e_ldi, pm_e_ldl, pm_e_ldr, pm_e_li, pm_e_lk, pm_e_ll, pm_e_r, pm_e_ri, pm_e_rii, pm_e_ril, pm_e_rm0, pm_e_rm1, pm_e_rs0, pm_e_rs1, pm_e_wp0, pm_e_wp1, pm_f2, pm_f3, pm_fld, pm_fv, pm_obj, pm_recv, pm_s_aload_n, pm_s_bipush, pm_s_getfield, pm_s_goto, pm_s_iadd, pm_s_iaload, pm_s_iand, pm_s_iastore, pm_s_iconst, pm_s_idiv, pm_s_ifCond_eq, pm_s_if_icmp_ge, pm_s_iinc, pm_s_iload, pm_s_iload_n, pm_s_imul, pm_s_invokevirtual, pm_s_istore, pm_s_isub, pm_s_iushr, pm_s_l2i, pm_s_land, pm_s_lastore, pm_s_lcmp, pm_s_lconst, pm_s_ldc2_w, pm_s_lload, pm_s_lload_n, pm_s_lshl, pm_s_lstore, pm_s_lsub, pm_s_lushr, pm_s_return, ct_X4_unpack, pS, pR, pC, pE, pL, -Int32.not_le, -Int32.not_lt, -Int64.not_le, -Int64.not_lt, -List.getD_eq_getElem?_getD]
          exact out M' q1 q2
    refine hb0 _ _ _ ?_
    simp (maxSteps := 2000000) [bk_X4_unpack_0, bk_X4_unpack_3, bk_X4_unpack_37, bk_X4_unpack_38, bk_X4_unpack_45, bk_X4_unpack_51, bk_X4_unpack_70, bk_X4_unpack_110, bk_X4_unpack_152, pm_arr, pm_call, pm_e_c0, pm_e_c1, pm_e_cti, pm_e_ctl, pm_e_ctr, pm_e_go, pm_e_i, pm_e_ii, pm_e_l, pm_e_ldi, pm_e_ldl, pm_e_ldr, pm_e_li, pm_e_lk, pm_e_ll, pm_e_r, pm_e_ri, pm_e_rii, pm_e_ril, pm_e_rm0, pm_e_rm1, pm_e_rs0, pm_e_rs1, pm_e_wp0, pm_e_wp1, pm_f2, pm_f3, pm_fld, pm_fv, pm_obj, pm_recv, pm_s_aload_n, pm_s_bipush, pm_s_getfield, pm_s_goto, pm_s_iadd, pm_s_iaload, pm_s_iand, pm_s_iastore, pm_s_iconst, pm_s_idiv, pm_s_ifCond_eq, pm_s_if_icmp_ge, pm_s_iinc, pm_s_iload, pm_s_iload_n, pm_s_imul, pm_s_invokevirtual, pm_s_istore, pm_s_isub, pm_s_iushr, pm_s_l2i, pm_s_land, pm_s_lastore, pm_s_lcmp, pm_s_lconst, pm_s_ldc2_w, pm_s_lload, pm_s_lload_n, pm_s_lshl, pm_s_lstore, pm_s_lsub, pm_s_lushr, pm_s_return, ct_X4_unpack, pS, pR, pC, pE, pL, -Int32.not_le, -Int32.not_lt, -Int64.not_le, -Int64.not_lt, -List.getD_eq_getElem?_getD, lv_args]
    exact first 4 0 M (by omega) (by omega) (fun t ht4 => by omega) pm_fr.rfl
  · exact hT.elim
