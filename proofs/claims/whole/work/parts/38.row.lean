def aIns (S : St) (i d n : Nat) : St := (up S.1 i ((S.1 i).take ((S.1 i).length - n) ++ [d] ++ (S.1 i).drop ((S.1 i).length - n)), S.2.1, S.2.2)
theorem ln_low {l : List Nat} (h : ∀ d ∈ l, d < 16) {n : Nat} (hn : n ≤ l.length) (h12 : l.length ≤ 12) : lN (pq l) &&& ((lN 1 <<< ((nI (4 * n)).toInt64 &&& 63)) - lN 1) = lN (pq (l.drop (l.length - n))) := by
  rw [ln_pow (by omega), wb_mask (by have := pq_48 h h12; omega) (by omega), Nat.pow_mul, show (2 : Nat) ^ 4 = 16 from rfl, pq_drop h hn]
theorem ln_high {l : List Nat} (h : ∀ d ∈ l, d < 16) {n : Nat} (hn : n ≤ l.length) (h12 : l.length ≤ 12) : ((lN (pq l)).toUInt64 >>> ((nI (4 * n)).toInt64.toUInt64 &&& Int64.toUInt64 63)).toInt64 = lN (pq (l.take (l.length - n))) := by
  rw [wb_shr (by have := pq_48 h h12; omega) (by omega), Nat.pow_mul, show (2 : Nat) ^ 4 = 16 from rfl, pq_take h hn]
theorem ln_cat {l m : List Nat} (hl : ∀ d ∈ l, d < 16) (hm : ∀ d ∈ m, d < 16) (h12 : l.length + m.length ≤ 12) : (lN (pq l) <<< ((nI (4 * m.length)).toInt64 &&& 63)) ||| lN (pq m) = lN (pq (l ++ m)) := by
  have e : (2 : Nat) ^ (4 * m.length) = 16 ^ m.length := by rw [Nat.pow_mul]
  have h1 := pq_lt hm
  have h2 := pq_48 (l := l ++ m) (fun d hd => by rcases List.mem_append.mp hd with q | q; exact hl d q; exact hm d q) (by simp; omega)
  rw [pq_append] at h2
  rw [wb_shl _ (by omega), ln_or (by rw [e]; exact h1) (by rw [e]; omega), e, ← pq_append]
theorem SdX.setC {M : pm_M} {p ec : Nat} {S : St} (h : SdX M p ec S) {i : Nat} {l : List Nat} (hl : l.length ≤ 12) (hd : ∀ d ∈ l, 1 ≤ d ∧ d ≤ 12) : SdX (pm_set (pm_setL M (p + 1) i (lN (pq l))) (p + 2) i (nI l.length)) p ec (up S.1 i l, S.2.1, S.2.2) := by
  obtain ⟨a, b, c, dd, e⟩ := h
  refine ⟨⟨fun j hj => ?_, a.2⟩, b, ?_, fun j hj => ?_, fun j hj => ?_⟩
  · by_cases ej : j = i
    · subst ej; simp only [up_s]; exact ⟨hl, hd⟩
    · simp only [up_n _ _ ej]; exact a.1 j hj
  · simp only [me_1, me_3]; simpa using c
  · have := dd j hj
    by_cases ej : j = i
    · subst ej; simp only [me_1, me_2, me_3, me_4, up_s]; simp [this.2.2]
    · simp only [me_1, me_2, me_3, me_4, up_n _ _ ej]; simp [ej, this]
  · simp only [me_1, me_2, me_3]; simpa using e j hj
def tt_X4_insert : pm_T := fun args M k => match args with
  | [.ref p, .int x, .int y, .int z] => ∃ ec S i d n, isSt p ∧ x = nI i ∧ y = nI d ∧ z = nI n ∧ SdX M p ec S ∧ i < 4 ∧ (1 ≤ d ∧ d ≤ 12) ∧ (S.1 i).length < 12 ∧ n < 2 ^ 31 ∧ ∀ M', SdX M' p ec (aIns S i d (min n (S.1 i).length)) → pm_fr (stF p) M M' → k none M'
  | _ => False
abbrev ct_X4_insert : List pm_C := [(true, 45, 0, 2, (some .int), tt_J9_min_7cf53)]
theorem mnF_n {a b : Nat} (ha : a < 2 ^ 31) (hb : b < 2 ^ 31) : mnF (nI a) (nI b) = nI (min a b) := by
  unfold mnF; simp only [ni_lt hb ha]; split
  · congr 1; omega
  · congr 1; omega
theorem mxF_n {a b : Nat} (ha : a < 2 ^ 31) (hb : b < 2 ^ 31) : mxF (nI a) (nI b) = nI (max a b) := by
  unfold mxF; simp only [ni_lt ha hb]; split
  · congr 1; omega
  · congr 1; omega
set_option maxHeartbeats 4000000 in
theorem sm_X4_insert  : pm_Sem SHx yX4_insert cX4_insert 7 none 2 tt_X4_insert := by
  refine pm_Sem_intro bl_X4_insert ct_X4_insert cs_X4_insert rfl (List.forall_mem_cons.mpr ⟨⟨_, _, _, _, sm_J9_min_7cf53, by decide, cm_J9_min_7cf53, by decide +kernel⟩, fun _ h => absurd h List.not_mem_nil⟩) ck_X4_insert (by decide +kernel) (by decide) ?_
  intro X k hX args M hT
  have hb0 := hX 0 bk_X4_insert_0 (List.mem_of_getElem? (i := 0) rfl)
  clear hX
  unfold tt_X4_insert at hT; split at hT
  · next p x y z =>
    obtain ⟨ec, S, i, d, n, hp, rfl, rfl, rfl, hS, hi, ⟨d1, d2⟩, hl, hn, hT⟩ := hT
    refine ⟨by simp [lg_sl, Value.category], ?_⟩
    refine hb0 _ _ _ ?_
    simp (maxSteps := 2000000) [bk_X4_insert_0, pm_arr, pm_call, pm_e_c0, pm_e_c1, pm_e_cti, pm_e_ctl, pm_e_ctr, pm_e_go, pm_e_i, pm_e_ii, pm_e_l, pm_e_ldi, pm_e_ldl, pm_e_ldr, pm_e_li, pm_e_lk, pm_e_ll, pm_e_r, pm_e_ri, pm_e_rii, pm_e_ril, pm_e_rm0, pm_e_rm1, pm_e_rs0, pm_e_rs1, pm_e_v2, pm_e_wp0, pm_e_wp1, pm_f2, pm_f3, pm_fld, pm_fv, pm_obj, pm_recv, pm_s_aload_n, pm_s_dup2, pm_s_getfield, pm_s_i2l, pm_s_iadd, pm_s_iaload, pm_s_iastore, pm_s_iconst, pm_s_iload, pm_s_iload_n, pm_s_imul, pm_s_invokestatic, pm_s_istore, pm_s_laload, pm_s_land, pm_s_lastore, pm_s_lconst, pm_s_lload, pm_s_lor, pm_s_lshl, pm_s_lstore, pm_s_lsub, pm_s_lushr, pm_s_return, ct_X4_insert, tt_J9_min_7cf53, pS, pR, pC, pE, pL, -Int32.not_le, -Int32.not_lt, -Int64.not_le, -Int64.not_lt, lv_args, st_0 hp, st_1 hp, st_2 hp]
    simp (disch := omega) only [ni_in, ni_cl, ni_add, ni_mul, ni_sub, ni_lt, ni_le, ni_eq, ni_eq0, ni_lt0, ni_0le, ni_0lt, ni_le0, ni_a1, ni_a3, ni_a7, ni_a15, hS.n hi, hS.c hi, mnF_n, me_3]
    repeat refine ⟨by omega, ?_⟩
    have hm : min n (S.1 i).length ≤ (S.1 i).length := by omega
    generalize min n (S.1 i).length = m at *
    have h16 := hS.d16 hi
    have t16 : ∀ z ∈ (S.1 i).take ((S.1 i).length - m), z < 16 := fun z hz => h16 z (List.mem_of_mem_take hz)
    have r16 : ∀ z ∈ (S.1 i).drop ((S.1 i).length - m), z < 16 := fun z hz => h16 z (List.mem_of_mem_drop hz)
    rw [ln_high h16 hm (by omega), ln_low h16 hm (by omega)]
    have e1 : (lN (pq ((S.1 i).take ((S.1 i).length - m))) <<< ((nI 4).toInt64 &&& 63)) ||| (nI d).toInt64 = lN (pq ((S.1 i).take ((S.1 i).length - m) ++ [d])) := by
      have := ln_cat (l := (S.1 i).take ((S.1 i).length - m)) (m := [d]) t16 (by intro z hz; simp at hz; omega) (by simp; omega)
      rw [ni_l (n := d) (by omega)]; simpa [pq] using this
    rw [e1]
    have e2 := ln_cat (l := (S.1 i).take ((S.1 i).length - m) ++ [d]) (m := (S.1 i).drop ((S.1 i).length - m)) (by intro z hz; rcases List.mem_append.mp hz with q | q; exact t16 z q; simp at q; omega) r16 (by simp; omega)
    rw [show ((S.1 i).drop ((S.1 i).length - m)).length = m by simp; omega] at e2
    rw [e2]
    refine hT _ ?_ ((pm_fr.rfl.setL (by simp)).set (by simp))
    have := hS.setC (i := i) (l := (S.1 i).take ((S.1 i).length - m) ++ [d] ++ (S.1 i).drop ((S.1 i).length - m)) (by simp; omega) (by
      intro z hz
      rcases List.mem_append.mp hz with q | q
      · rcases List.mem_append.mp q with q | q
        · exact (hS.1.1 i hi).2 z (List.mem_of_mem_take q)
        · simp at q; omega
      · exact (hS.1.1 i hi).2 z (List.mem_of_mem_drop q))
    rw [show ((S.1 i).take ((S.1 i).length - m) ++ [d] ++ (S.1 i).drop ((S.1 i).length - m)).length = (S.1 i).length + 1 by simp; omega] at this
    exact this
  · exact hT.elim
def aRow (S : St) (a b n : Nat) : St := (up (up S.1 a ((S.1 a).take ((S.1 a).length - n))) b (S.1 b ++ (S.1 a).drop ((S.1 a).length - n)), S.2.1, S.2.2)
def tt_X4_shiftRow : pm_T := fun args M k => match args with
  | [.ref p, .int x, .int y, .int z] => ∃ ec S a b n, isSt p ∧ x = nI a ∧ y = nI b ∧ z = nI n ∧ SdX M p ec S ∧ a < 4 ∧ b < 4 ∧ a ≠ b ∧ n ≤ (S.1 a).length ∧ (S.1 b).length + n ≤ 12 ∧ ∀ M', SdX M' p ec (aRow S a b n) → pm_fr (stF p) M M' → k none M'
  | _ => False
abbrev ct_X4_shiftRow : List pm_C := []
set_option maxHeartbeats 4000000 in
theorem sm_X4_shiftRow  : pm_Sem SHx yX4_shiftRow cX4_shiftRow 7 none 1 tt_X4_shiftRow := by
  refine pm_Sem_intro bl_X4_shiftRow ct_X4_shiftRow cs_X4_shiftRow rfl (fun _ h => absurd h List.not_mem_nil) ck_X4_shiftRow (by decide +kernel) (by decide) ?_
  intro X k hX args M hT
  have hb0 := hX 0 bk_X4_shiftRow_0 (List.mem_of_getElem? (i := 0) rfl)
  clear hX
  unfold tt_X4_shiftRow at hT; split at hT
  · next p x y z =>
    obtain ⟨ec, S, a, b, n, hp, rfl, rfl, rfl, hS, ha, hb, hab, hn, hbn, hT⟩ := hT
    have hla := hS.len ha
    refine ⟨by simp [lg_sl, Value.category], ?_⟩
    refine hb0 _ _ _ ?_
    simp (maxSteps := 2000000) [bk_X4_shiftRow_0, pm_arr, pm_e_c0, pm_e_c1, pm_e_cti, pm_e_ctl, pm_e_ctr, pm_e_go, pm_e_i, pm_e_ii, pm_e_l, pm_e_ldi, pm_e_ldl, pm_e_ldr, pm_e_li, pm_e_lk, pm_e_ll, pm_e_r, pm_e_ri, pm_e_rii, pm_e_ril, pm_e_rm0, pm_e_rm1, pm_e_rs0, pm_e_rs1, pm_e_v2, pm_e_wp0, pm_e_wp1, pm_f2, pm_f3, pm_fld, pm_fv, pm_obj, pm_s_aload_n, pm_s_dup2, pm_s_getfield, pm_s_iadd, pm_s_iaload, pm_s_iastore, pm_s_iconst, pm_s_iload, pm_s_iload_n, pm_s_imul, pm_s_istore, pm_s_isub, pm_s_laload, pm_s_land, pm_s_lastore, pm_s_lconst, pm_s_lload, pm_s_lor, pm_s_lshl, pm_s_lstore, pm_s_lsub, pm_s_lushr, pm_s_return, ct_X4_shiftRow, pS, pR, pC, pE, pL, -Int32.not_le, -Int32.not_lt, -Int64.not_le, -Int64.not_lt, lv_args, st_0 hp, st_1 hp, st_2 hp]
    simp (disch := omega) only [ni_in, ni_cl, ni_add, ni_mul, ni_sub, ni_lt, ni_le, ni_eq, ni_eq0, ni_lt0, ni_0le, ni_0lt, ni_le0, ni_a1, ni_a3, ni_a7, ni_a15, hS.n ha, hS.c ha, me_1, me_2, me_3, me_4]
    repeat refine ⟨by omega, ?_⟩
    have hba : ¬ b = a := fun e => hab e.symm
    simp only [hba, and_false, if_false]
    simp (disch := omega) only [ni_in, ni_cl, ni_add, ni_mul, ni_sub, ni_lt, ni_le, ni_eq, ni_eq0, ni_lt0, ni_0le, ni_0lt, ni_le0, ni_a1, ni_a3, ni_a7, ni_a15, hS.n hb, hS.c hb]
    rw [ln_high (hS.d16 ha) hn hla, ln_low (hS.d16 ha) hn hla]
    have e2 := ln_cat (l := S.1 b) (m := (S.1 a).drop ((S.1 a).length - n)) (hS.d16 hb) (fun z hz => hS.d16 ha z (List.mem_of_mem_drop hz)) (by simp; omega)
    rw [show ((S.1 a).drop ((S.1 a).length - n)).length = n by simp; omega] at e2
    rw [e2]
    refine hT _ ?_ ((((pm_fr.rfl.setL (by simp)).set (by simp)).setL (by simp)).set (by simp))
    have s1 := hS.setC (i := a) (l := (S.1 a).take ((S.1 a).length - n)) (by simp; omega) (fun z hz => (hS.1.1 a ha).2 z (List.mem_of_mem_take hz))
    have s2 := s1.setC (i := b) (l := S.1 b ++ (S.1 a).drop ((S.1 a).length - n)) (by simp; omega) (by
      intro z hz
      rcases List.mem_append.mp hz with q | q
      · exact (hS.1.1 b hb).2 z q
      · exact (hS.1.1 a ha).2 z (List.mem_of_mem_drop q))
    rw [show ((S.1 a).take ((S.1 a).length - n)).length = (S.1 a).length - n by simp, show (S.1 b ++ (S.1 a).drop ((S.1 a).length - n)).length = (S.1 b).length + n by simp; omega] at s2
    exact s2
  · exact hT.elim
