/-! THE TRAYS -/
theorem tr_sx {t : Nat} (h : t < 6) : SHx[15 + 2 * t]? = some (.inr (.inr (5, [some (16 + 2 * t), none, none, none]))) ∧ SHx[16 + 2 * t]? = some (.inl (3, 32)) ∧ [15, 17, 19, 21, 23, 25].getD t 0 = 15 + 2 * t ∧ isRw (16 + 2 * t) := by
  rcases (show t = 0 ∨ t = 1 ∨ t = 2 ∨ t = 3 ∨ t = 4 ∨ t = 5 by omega) with rfl | rfl | rfl | rfl | rfl | rfl <;> exact ⟨rfl, rfl, rfl, by unfold isRw; omega⟩
def rfN (h kd : Nat) : Nat := if h = 0 then 10 else if h = kd then 0 else 11
theorem rfN_le (h c : Nat) : rfN h c ≤ 11 := by
  unfold rfN
  repeat' split
  all_goals decide
def tt_X6_refusalOf : pm_T := fun args M k => match args with
  | [.ref 0, .ref p, .int z] => ∃ t T c, t < 6 ∧ p = 15 + 2 * t ∧ z = nI c ∧ c ≤ 4 ∧ TrX M t T ∧ okT T ∧ k (some (.int (nI (rfN T.1 c)))) M
  | _ => False
abbrev ct_X6_refusalOf : List pm_C := []
set_option maxHeartbeats 4000000 in
theorem sm_X6_refusalOf  : pm_Sem SHx yX6_refusalOf cX6_refusalOf 3 (some .int) 1 tt_X6_refusalOf := by
  refine pm_Sem_intro bl_X6_refusalOf ct_X6_refusalOf cs_X6_refusalOf rfl (fun _ h => absurd h List.not_mem_nil) ck_X6_refusalOf (by decide +kernel) (by decide) ?_
  intro X k hX args M hT
  have hb0 := hX 0 bk_X6_refusalOf_0 (List.mem_of_getElem? (i := 0) rfl)
  have hb10 := hX 10 bk_X6_refusalOf_10 (List.mem_of_getElem? (i := 1) rfl)
  have hb22 := hX 22 bk_X6_refusalOf_22 (List.mem_of_getElem? (i := 2) rfl)
  have hb24 := hX 24 bk_X6_refusalOf_24 (List.mem_of_getElem? (i := 3) rfl)
  clear hX
  unfold tt_X6_refusalOf at hT; split at hT
  · next p z =>
    obtain ⟨t, T, c, ht, rfl, rfl, hc, hTr, hO, hT⟩ := hT
    obtain ⟨x1, x2, x3, x4⟩ := tr_sx ht
    have e1 := hTr.1
    have o1 := hO.1
    unfold rfN at hT
    refine ⟨by simp [lg_sl, Value.category], ?_⟩
    have h24 : ∀ v, k (some (.int v)) M → X 24 [] [.int v] M := by
      intro v hv
      refine hb24 _ _ _ ?_
      simp (maxSteps := 2000000) [bk_X6_refusalOf_0, bk_X6_refusalOf_10, bk_X6_refusalOf_22, bk_X6_refusalOf_24, pm_e_c0, pm_e_c1, pm_e_cti, pm_e_ctl, pm_e_ctr, pm_e_go, pm_e_i, pm_e_ii, pm_e_ldi, pm_e_ldr, pm_e_lk, pm_e_r, pm_e_rm0, pm_e_rm1, pm_e_rs0, pm_e_rs1, pm_e_wp0, pm_e_wp1, pm_f2, pm_f3, pm_fld, pm_fv, pm_obj, pm_s_aload_n, pm_s_bipush, pm_s_getfield, pm_s_goto, pm_s_iconst, pm_s_ifCond_ne, pm_s_if_icmp_ne, pm_s_iload_n, pm_s_ireturn, ct_X6_refusalOf, pS, pR, pC, pE, pL, -Int32.not_le, -Int32.not_lt, -Int64.not_le, -Int64.not_lt, -List.getD_eq_getElem?_getD]
      exact hv
    refine hb0 _ _ _ ?_
    simp (maxSteps := 2000000) [bk_X6_refusalOf_0, bk_X6_refusalOf_10, bk_X6_refusalOf_22, bk_X6_refusalOf_24, pm_e_c0, pm_e_c1, pm_e_cti, pm_e_ctl, pm_e_ctr, pm_e_go, pm_e_i, pm_e_ii, pm_e_ldi, pm_e_ldr, pm_e_lk, pm_e_r, pm_e_rm0, pm_e_rm1, pm_e_rs0, pm_e_rs1, pm_e_wp0, pm_e_wp1, pm_f2, pm_f3, pm_fld, pm_fv, pm_obj, pm_s_aload_n, pm_s_bipush, pm_s_getfield, pm_s_goto, pm_s_iconst, pm_s_ifCond_ne, pm_s_if_icmp_ne, pm_s_iload_n, pm_s_ireturn, ct_X6_refusalOf, pS, pR, pC, pE, pL, -Int32.not_le, -Int32.not_lt, -Int64.not_le, -Int64.not_lt, -List.getD_eq_getElem?_getD, lv_args, x1, e1]
    simp (disch := omega) only [ni_in, ni_cl, ni_add, ni_mul, ni_sub, ni_lt, ni_le, ni_eq, ni_eq0, ni_lt0, ni_0le, ni_0lt, ni_le0, ni_a1, ni_a3, ni_a7, ni_a15]
    refine ⟨fun h => ?_, fun h => ?_⟩
    · rw [if_neg h] at hT
      refine hb10 _ _ _ ?_
      simp (maxSteps := 2000000) [bk_X6_refusalOf_0, bk_X6_refusalOf_10, bk_X6_refusalOf_22, bk_X6_refusalOf_24, pm_e_c0, pm_e_c1, pm_e_cti, pm_e_ctl, pm_e_ctr, pm_e_go, pm_e_i, pm_e_ii, pm_e_ldi, pm_e_ldr, pm_e_lk, pm_e_r, pm_e_rm0, pm_e_rm1, pm_e_rs0, pm_e_rs1, pm_e_wp0, pm_e_wp1, pm_f2, pm_f3, pm_fld, pm_fv, pm_obj, pm_s_aload_n, pm_s_bipush, pm_s_getfield, pm_s_goto, pm_s_iconst, pm_s_ifCond_ne, pm_s_if_icmp_ne, pm_s_iload_n, pm_s_ireturn, ct_X6_refusalOf, pS, pR, pC, pE, pL, -Int32.not_le, -Int32.not_lt, -Int64.not_le, -Int64.not_lt, -List.getD_eq_getElem?_getD, x1, e1]
      simp (disch := omega) only [ni_in, ni_cl, ni_add, ni_mul, ni_sub, ni_lt, ni_le, ni_eq, ni_eq0, ni_lt0, ni_0le, ni_0lt, ni_le0, ni_a1, ni_a3, ni_a7, ni_a15]
      refine ⟨fun h2 => ?_, fun h2 => ?_⟩
      · rw [if_neg h2] at hT
        refine hb22 _ _ _ ?_
        simp (maxSteps := 2000000) [bk_X6_refusalOf_0, bk_X6_refusalOf_10, bk_X6_refusalOf_22, bk_X6_refusalOf_24, pm_e_c0, pm_e_c1, pm_e_cti, pm_e_ctl, pm_e_ctr, pm_e_go, pm_e_i, pm_e_ii, pm_e_ldi, pm_e_ldr, pm_e_lk, pm_e_r, pm_e_rm0, pm_e_rm1, pm_e_rs0, pm_e_rs1, pm_e_wp0, pm_e_wp1, pm_f2, pm_f3, pm_fld, pm_fv, pm_obj, pm_s_aload_n, pm_s_bipush, pm_s_getfield, pm_s_goto, pm_s_iconst, pm_s_ifCond_ne, pm_s_if_icmp_ne, pm_s_iload_n, pm_s_ireturn, ct_X6_refusalOf, pS, pR, pC, pE, pL, -Int32.not_le, -Int32.not_lt, -Int64.not_le, -Int64.not_lt, -List.getD_eq_getElem?_getD]
        exact h24 _ hT
      · rw [if_pos h2] at hT
        exact h24 _ hT
    · rw [if_pos h] at hT
      exact hT
  · exact hT.elim
/-- an answer, or a refusal -/
def ansK (k : Option Value → pm_M → Prop) (M : pm_M) (r : Int32 × Nat) : Prop := if r.2 = 0 then k (some (.int r.1)) M else k (some (.int r.1)) (pm_set M 0 9 (nI r.2))
theorem ansK_0 {k : Option Value → pm_M → Prop} {M : pm_M} {v : Int32} (h : ansK k M (v, 0)) : k (some (.int v)) M := h
theorem ansK_n {k : Option Value → pm_M → Prop} {M : pm_M} {v : Int32} {q : Nat} (hq : q ≠ 0) (h : ansK k M (v, q)) : k (some (.int v)) (pm_set M 0 9 (nI q)) := by
  unfold ansK at h; rw [if_neg hq] at h; exact h
theorem laws_bit : ∀ l, l < 5 → ∀ c, c < 5 → (pm_laws.getD l 0 &&& (nI 1 <<< (nI c &&& 31)) = 0 ↔ undr l c = false) := by decide +kernel
theorem kmod_n : ∀ j, j < 201 → kmod (nI j - nI 100) < 5 ∧ fmF (nI j - nI 100) (nI 5) = nI (kmod (nI j - nI 100)) := by decide +kernel
theorem z100 {z : Int32} (h : wi z (-nI 100) (nI 100) = true) : ∃ j, j < 201 ∧ z = nI j - nI 100 := by
  unfold wi at h
  simp only [Bool.and_eq_true, Bool.not_eq_true', decide_eq_false_iff_not, Int32.lt_iff_toInt_lt] at h
  obtain ⟨h1, h2⟩ := h
  have e1 : (-nI 100 : Int32).toInt = -100 := by decide
  have e2 : (nI 100 : Int32).toInt = 100 := by decide
  rw [e1] at h1; rw [e2] at h2
  refine ⟨(z.toInt + 100).toNat, by omega, ?_⟩
  have : nI (z.toInt + 100).toNat = z + nI 100 := by
    apply Int32.toInt_inj.mp
    rw [nI_toInt (by omega), Int32.toInt_add, e2]
    have : (z.toInt + 100).bmod (2 ^ 32) = z.toInt + 100 := Int.bmod_eq_of_le (by omega) (by omega)
    rw [this]; omega
  rw [this, Int32.add_sub_cancel]
def tt_X6_kindTakenFor : pm_T := fun args M k => match args with
  | [.ref 0, .ref p, .int z] => ∃ t T n, t < 6 ∧ p = 15 + 2 * t ∧ kmod n < 5 ∧ z = nI (kmod n) ∧ TrX M t T ∧ okT T ∧ ansK k M (fgN T 0 n)
  | _ => False
abbrev ct_X6_kindTakenFor : List pm_C := [(false, 268, 6, 3, (some .int), tt_X6_refusalOf), (false, 219, 6, 2, (some .int), tt_X6_refuse)]
set_option maxHeartbeats 4000000 in
theorem sm_X6_kindTakenFor  : pm_Sem SHx yX6_kindTakenFor cX6_kindTakenFor 5 (some .int) 2 tt_X6_kindTakenFor := by
  refine pm_Sem_intro bl_X6_kindTakenFor ct_X6_kindTakenFor cs_X6_kindTakenFor rfl (List.forall_mem_cons.mpr ⟨⟨_, _, _, _, sm_X6_refusalOf, by decide, cm_X6_refusalOf, by decide +kernel⟩, List.forall_mem_cons.mpr ⟨⟨_, _, _, _, sm_X6_refuse, by decide, cm_X6_refuse, by decide +kernel⟩, fun _ h => absurd h List.not_mem_nil⟩⟩) ck_X6_kindTakenFor (by decide +kernel) (by decide) ?_
  intro X k hX args M hT
  have hb0 := hX 0 bk_X6_kindTakenFor_0 (List.mem_of_getElem? (i := 0) rfl)
  have hb17 := hX 17 bk_X6_kindTakenFor_17 (List.mem_of_getElem? (i := 1) rfl)
  have hb36 := hX 36 bk_X6_kindTakenFor_36 (List.mem_of_getElem? (i := 2) rfl)
  have hb37 := hX 37 bk_X6_kindTakenFor_37 (List.mem_of_getElem? (i := 3) rfl)
  have hb51 := hX 51 bk_X6_kindTakenFor_51 (List.mem_of_getElem? (i := 4) rfl)
  have hb57 := hX 57 bk_X6_kindTakenFor_57 (List.mem_of_getElem? (i := 5) rfl)
  clear hX
  unfold tt_X6_kindTakenFor at hT; split at hT
  · next p z =>
    obtain ⟨t, T, n, ht, rfl, hc, rfl, hTr, hO, hT⟩ := hT
    obtain ⟨x1, x2, x3, x4⟩ := tr_sx ht
    have e1 := hTr.1
    have o1 := hO.1
    have o2 := hO.2.1
    have eF : fgN T 0 n = (if T.1 = 0 then (-nI 1, 10) else if T.1 = 1 then (if undr T.2.1 (kmod n) = true then (nI T.2.1, 0) else (-nI 1, 11)) else (-nI 1, 11)) := rfl
    rw [eF] at hT
    refine ⟨by simp [lg_sl, Value.category], ?_⟩
    refine hb0 _ _ _ ?_
    simp (maxSteps := 2000000) [bk_X6_kindTakenFor_0, bk_X6_kindTakenFor_17, bk_X6_kindTakenFor_36, bk_X6_kindTakenFor_37, bk_X6_kindTakenFor_51, bk_X6_kindTakenFor_57, pm_arr, pm_call, pm_e_c0, pm_e_c1, pm_e_cti, pm_e_ctl, pm_e_ctr, pm_e_go, pm_e_i, pm_e_ii, pm_e_ldi, pm_e_ldr, pm_e_lk, pm_e_r, pm_e_ri, pm_e_rm0, pm_e_rm1, pm_e_rs0, pm_e_rs1, pm_e_si, pm_e_wp0, pm_e_wp1, pm_f2, pm_f3, pm_fld, pm_fv, pm_obj, pm_recv, pm_s_aload_n, pm_s_bipush, pm_s_getfield, pm_s_getstatic, pm_s_goto, pm_s_iaload, pm_s_iaload1, pm_s_iand, pm_s_iconst, pm_s_ifCond_eq, pm_s_iload, pm_s_iload_n, pm_s_invokevirtual, pm_s_ireturn, pm_s_ishl, pm_s_istore, pm_s_istore_n, ct_X6_kindTakenFor, tt_X6_refuse, pS, pR, pC, pE, pL, -Int32.not_le, -Int32.not_lt, -Int64.not_le, -Int64.not_lt, -List.getD_eq_getElem?_getD, lv_args, sx_0]
    refine ⟨t, T, 1, ht, rfl, rfl, by decide, hTr, hO, ?_⟩
    simp (maxSteps := 2000000) [bk_X6_kindTakenFor_0, bk_X6_kindTakenFor_17, bk_X6_kindTakenFor_36, bk_X6_kindTakenFor_37, bk_X6_kindTakenFor_51, bk_X6_kindTakenFor_57, pm_arr, pm_call, pm_e_c0, pm_e_c1, pm_e_cti, pm_e_ctl, pm_e_ctr, pm_e_go, pm_e_i, pm_e_ii, pm_e_ldi, pm_e_ldr, pm_e_lk, pm_e_r, pm_e_ri, pm_e_rm0, pm_e_rm1, pm_e_rs0, pm_e_rs1, pm_e_si, pm_e_wp0, pm_e_wp1, pm_f2, pm_f3, pm_fld, pm_fv, pm_obj, pm_recv, pm_s_aload_n, pm_s_bipush, pm_s_getfield, pm_s_getstatic, pm_s_goto, pm_s_iaload, pm_s_iaload1, pm_s_iand, pm_s_iconst, pm_s_ifCond_eq, pm_s_iload, pm_s_iload_n, pm_s_invokevirtual, pm_s_ireturn, pm_s_ishl, pm_s_istore, pm_s_istore_n, ct_X6_kindTakenFor, tt_X6_refuse, pS, pR, pC, pE, pL, -Int32.not_le, -Int32.not_lt, -Int64.not_le, -Int64.not_lt, -List.getD_eq_getElem?_getD, sx_0]
    have hr := rfN_le T.1 1
    simp (disch := omega) only [ni_in, ni_cl, ni_add, ni_mul, ni_sub, ni_lt, ni_le, ni_eq, ni_eq0, ni_lt0, ni_0le, ni_0lt, ni_le0, ni_a1, ni_a3, ni_a7, ni_a15]
    refine ⟨fun h => ?_, fun h => ?_⟩
    · have h1 : T.1 = 1 := by
        unfold rfN at h; split at h
        · exact absurd h (by decide)
        · split at h
          · assumption
          · exact absurd h (by decide)
      rw [if_neg (by omega), if_pos h1] at hT
      have e2 := hTr.2.1 h1
      have h57 : ∀ M' v, k (some (.int v)) M' → X 57 [] [.int v] M' := by
        intro M' v hv
        refine hb57 _ _ _ ?_
        simp (maxSteps := 2000000) [bk_X6_kindTakenFor_0, bk_X6_kindTakenFor_17, bk_X6_kindTakenFor_36, bk_X6_kindTakenFor_37, bk_X6_kindTakenFor_51, bk_X6_kindTakenFor_57, pm_arr, pm_call, pm_e_c0, pm_e_c1, pm_e_cti, pm_e_ctl, pm_e_ctr, pm_e_go, pm_e_i, pm_e_ii, pm_e_ldi, pm_e_ldr, pm_e_lk, pm_e_r, pm_e_ri, pm_e_rm0, pm_e_rm1, pm_e_rs0, pm_e_rs1, pm_e_si, pm_e_wp0, pm_e_wp1, pm_f2, pm_f3, pm_fld, pm_fv, pm_obj, pm_recv, pm_s_aload_n, pm_s_bipush, pm_s_getfield, pm_s_getstatic, pm_s_goto, pm_s_iaload, pm_s_iaload1, pm_s_iand, pm_s_iconst, pm_s_ifCond_eq, pm_s_iload, pm_s_iload_n, pm_s_invokevirtual, pm_s_ireturn, pm_s_ishl, pm_s_istore, pm_s_istore_n, ct_X6_kindTakenFor, tt_X6_refuse, pS, pR, pC, pE, pL, -Int32.not_le, -Int32.not_lt, -Int64.not_le, -Int64.not_lt, -List.getD_eq_getElem?_getD]
        exact hv
      have hlw := laws_bit T.2.1 (by omega) (kmod n) hc
      have h37 : ∀ b : Bool, b = undr T.2.1 (kmod n) → X 37 [(0, .ref 0), (1, .ref (15 + 2 * t))] [.int (pb b)] M := by
        intro b eb
        rw [← eb] at hT
        refine hb37 _ _ _ ?_
        simp (maxSteps := 2000000) [bk_X6_kindTakenFor_0, bk_X6_kindTakenFor_17, bk_X6_kindTakenFor_36, bk_X6_kindTakenFor_37, bk_X6_kindTakenFor_51, bk_X6_kindTakenFor_57, pm_arr, pm_call, pm_e_c0, pm_e_c1, pm_e_cti, pm_e_ctl, pm_e_ctr, pm_e_go, pm_e_i, pm_e_ii, pm_e_ldi, pm_e_ldr, pm_e_lk, pm_e_r, pm_e_ri, pm_e_rm0, pm_e_rm1, pm_e_rs0, pm_e_rs1, pm_e_si, pm_e_wp0, pm_e_wp1, pm_f2, pm_f3, pm_fld, pm_fv, pm_obj, pm_recv, pm_s_aload_n, pm_s_bipush, pm_s_getfield, pm_s_getstatic, pm_s_goto, pm_s_iaload, pm_s_iaload1, pm_s_iand, pm_s_iconst, pm_s_ifCond_eq, pm_s_iload, pm_s_iload_n, pm_s_invokevirtual, pm_s_ireturn, pm_s_ishl, pm_s_istore, pm_s_istore_n, ct_X6_kindTakenFor, tt_X6_refuse, pS, pR, pC, pE, pL, -Int32.not_le, -Int32.not_lt, -Int64.not_le, -Int64.not_lt, -List.getD_eq_getElem?_getD, x1, e2, pb_eq0]
        refine ⟨fun hb => ?_, fun hb => ?_⟩
        · rw [if_neg (by rw [hb]; simp)] at hT
          refine hb51 _ _ _ ?_
          simp (maxSteps := 2000000) [bk_X6_kindTakenFor_0, bk_X6_kindTakenFor_17, bk_X6_kindTakenFor_36, bk_X6_kindTakenFor_37, bk_X6_kindTakenFor_51, bk_X6_kindTakenFor_57, pm_arr, pm_call, pm_e_c0, pm_e_c1, pm_e_cti, pm_e_ctl, pm_e_ctr, pm_e_go, pm_e_i, pm_e_ii, pm_e_ldi, pm_e_ldr, pm_e_lk, pm_e_r, pm_e_ri, pm_e_rm0, pm_e_rm1, pm_e_rs0, pm_e_rs1, pm_e_si, pm_e_wp0, pm_e_wp1, pm_f2, pm_f3, pm_fld, pm_fv, pm_obj, pm_recv, pm_s_aload_n, pm_s_bipush, pm_s_getfield, pm_s_getstatic, pm_s_goto, pm_s_iaload, pm_s_iaload1, pm_s_iand, pm_s_iconst, pm_s_ifCond_eq, pm_s_iload, pm_s_iload_n, pm_s_invokevirtual, pm_s_ireturn, pm_s_ishl, pm_s_istore, pm_s_istore_n, ct_X6_kindTakenFor, tt_X6_refuse, pS, pR, pC, pE, pL, -Int32.not_le, -Int32.not_lt, -Int64.not_le, -Int64.not_lt, -List.getD_eq_getElem?_getD, sx_0]
          exact h57 _ _ (ansK_n (by decide) hT)
        · rw [if_pos hb] at hT
          exact h57 _ _ (ansK_0 hT)
      refine hb17 _ _ _ ?_
      simp (maxSteps := 2000000) [bk_X6_kindTakenFor_0, bk_X6_kindTakenFor_17, bk_X6_kindTakenFor_36, bk_X6_kindTakenFor_37, bk_X6_kindTakenFor_51, bk_X6_kindTakenFor_57, pm_arr, pm_call, pm_e_c0, pm_e_c1, pm_e_cti, pm_e_ctl, pm_e_ctr, pm_e_go, pm_e_i, pm_e_ii, pm_e_ldi, pm_e_ldr, pm_e_lk, pm_e_r, pm_e_ri, pm_e_rm0, pm_e_rm1, pm_e_rs0, pm_e_rs1, pm_e_si, pm_e_wp0, pm_e_wp1, pm_f2, pm_f3, pm_fld, pm_fv, pm_obj, pm_recv, pm_s_aload_n, pm_s_bipush, pm_s_getfield, pm_s_getstatic, pm_s_goto, pm_s_iaload, pm_s_iaload1, pm_s_iand, pm_s_iconst, pm_s_ifCond_eq, pm_s_iload, pm_s_iload_n, pm_s_invokevirtual, pm_s_ireturn, pm_s_ishl, pm_s_istore, pm_s_istore_n, ct_X6_kindTakenFor, tt_X6_refuse, pS, pR, pC, pE, pL, -Int32.not_le, -Int32.not_lt, -Int64.not_le, -Int64.not_lt, -List.getD_eq_getElem?_getD, x1, e2]
      rw [ni_in (by omega), ni_cl (by omega), hlw]
      refine ⟨by omega, fun hb => ?_, fun hb => ?_⟩
      · refine hb36 _ _ _ ?_
        simp (maxSteps := 2000000) [bk_X6_kindTakenFor_0, bk_X6_kindTakenFor_17, bk_X6_kindTakenFor_36, bk_X6_kindTakenFor_37, bk_X6_kindTakenFor_51, bk_X6_kindTakenFor_57, pm_arr, pm_call, pm_e_c0, pm_e_c1, pm_e_cti, pm_e_ctl, pm_e_ctr, pm_e_go, pm_e_i, pm_e_ii, pm_e_ldi, pm_e_ldr, pm_e_lk, pm_e_r, pm_e_ri, pm_e_rm0, pm_e_rm1, pm_e_rs0, pm_e_rs1, pm_e_si, pm_e_wp0, pm_e_wp1, pm_f2, pm_f3, pm_fld, pm_fv, pm_obj, pm_recv, pm_s_aload_n, pm_s_bipush, pm_s_getfield, pm_s_getstatic, pm_s_goto, pm_s_iaload, pm_s_iaload1, pm_s_iand, pm_s_iconst, pm_s_ifCond_eq, pm_s_iload, pm_s_iload_n, pm_s_invokevirtual, pm_s_ireturn, pm_s_ishl, pm_s_istore, pm_s_istore_n, ct_X6_kindTakenFor, tt_X6_refuse, pS, pR, pC, pE, pL, -Int32.not_le, -Int32.not_lt, -Int64.not_le, -Int64.not_lt, -List.getD_eq_getElem?_getD]
        exact h37 false hb.symm
      · exact h37 true (by simpa using hb)
    · have hq : ansK k M (-nI 1, rfN T.1 1) := by
        unfold rfN at h ⊢
        by_cases z0 : T.1 = 0
        · rw [if_pos z0] at hT ⊢; exact hT
        · by_cases z1 : T.1 = 1
          · rw [if_neg z0, if_pos z1] at h; exact absurd rfl h
          · rw [if_neg z0, if_neg z1] at hT ⊢; exact hT
      exact ansK_n h hq
  · exact hT.elim
def tt_X6_numberTakenFrom : pm_T := fun args M k => match args with
  | [.ref 0, .ref p, .int y, .int z] => ∃ t T w, t < 6 ∧ p = 15 + 2 * t ∧ (w = 1 ∨ w = 2 ∨ w = 3) ∧ y = nI (w + 1) ∧ TrX M t T ∧ okT T ∧ ansK k M (fgN T w z)
  | _ => False
abbrev ct_X6_numberTakenFrom : List pm_C := [(false, 268, 6, 3, (some .int), tt_X6_refusalOf), (false, 219, 6, 2, (some .int), tt_X6_refuse), (true, 64, 6, 3, (some .boolean), tt_X6_isWithin)]
set_option maxHeartbeats 4000000 in
theorem sm_X6_numberTakenFrom  : pm_Sem SHx yX6_numberTakenFrom cX6_numberTakenFrom 5 (some .int) 2 tt_X6_numberTakenFrom := by
  refine pm_Sem_intro bl_X6_numberTakenFrom ct_X6_numberTakenFrom cs_X6_numberTakenFrom rfl (List.forall_mem_cons.mpr ⟨⟨_, _, _, _, sm_X6_refusalOf, by decide, cm_X6_refusalOf, by decide +kernel⟩, List.forall_mem_cons.mpr ⟨⟨_, _, _, _, sm_X6_refuse, by decide, cm_X6_refuse, by decide +kernel⟩, List.forall_mem_cons.mpr ⟨⟨_, _, _, _, sm_X6_isWithin, by decide, cm_X6_isWithin, by decide +kernel⟩, fun _ h => absurd h List.not_mem_nil⟩⟩⟩) ck_X6_numberTakenFrom (by decide +kernel) (by decide) ?_
  intro X k hX args M hT
  have hb0 := hX 0 bk_X6_numberTakenFrom_0 (List.mem_of_getElem? (i := 0) rfl)
  have hb20 := hX 20 bk_X6_numberTakenFrom_20 (List.mem_of_getElem? (i := 1) rfl)
  have hb43 := hX 43 bk_X6_numberTakenFrom_43 (List.mem_of_getElem? (i := 2) rfl)
  have hb49 := hX 49 bk_X6_numberTakenFrom_49 (List.mem_of_getElem? (i := 3) rfl)
  clear hX
  unfold tt_X6_numberTakenFrom at hT; split at hT
  · next p y z =>
    obtain ⟨t, T, w, ht, rfl, hw, rfl, hTr, hO, hT⟩ := hT
    obtain ⟨x1, x2, x3, x4⟩ := tr_sx ht
    have e1 := hTr.1
    have e3 := hTr.2.2.1
    have o1 := hO.1
    have o3 := hO.2.2.1
    have eF : fgN T w z = (if T.1 = 0 then (-nI 1, 10) else if T.1 = w + 1 then (if wi z (nI 0) (nI T.2.2.length - nI 1) = true then (nI (T.2.2.getD (tn z) 0), 0) else (-nI 1, 12)) else (-nI 1, 11)) := by
      unfold fgN; rw [if_neg (by omega), if_pos hw]
    rw [eF] at hT
    refine ⟨by simp [lg_sl, Value.category], ?_⟩
    refine hb0 _ _ _ ?_
    simp (maxSteps := 2000000) [bk_X6_numberTakenFrom_0, bk_X6_numberTakenFrom_20, bk_X6_numberTakenFrom_43, bk_X6_numberTakenFrom_49, pm_arr, pm_call, pm_e_c0, pm_e_c1, pm_e_cti, pm_e_ctl, pm_e_ctr, pm_e_go, pm_e_i, pm_e_ii, pm_e_ldi, pm_e_ldr, pm_e_lk, pm_e_r, pm_e_ri, pm_e_rm0, pm_e_rm1, pm_e_rs0, pm_e_rs1, pm_e_wp0, pm_e_wp1, pm_f2, pm_f3, pm_fld, pm_fv, pm_obj, pm_recv, pm_s_aload_n, pm_s_bipush, pm_s_getfield, pm_s_goto, pm_s_iconst, pm_s_ifCond_eq, pm_s_iload, pm_s_iload_n, pm_s_invokestatic, pm_s_invokevirtual, pm_s_ireturn, pm_s_istore, pm_s_isub, pm_s_saload, ct_X6_numberTakenFrom, tt_X6_refuse, tt_X6_isWithin, pS, pR, pC, pE, pL, -Int32.not_le, -Int32.not_lt, -Int64.not_le, -Int64.not_lt, -List.getD_eq_getElem?_getD, lv_args, sx_0]
    refine ⟨t, T, w + 1, ht, rfl, rfl, by omega, hTr, hO, ?_⟩
    simp (maxSteps := 2000000) [bk_X6_numberTakenFrom_0, bk_X6_numberTakenFrom_20, bk_X6_numberTakenFrom_43, bk_X6_numberTakenFrom_49, pm_arr, pm_call, pm_e_c0, pm_e_c1, pm_e_cti, pm_e_ctl, pm_e_ctr, pm_e_go, pm_e_i, pm_e_ii, pm_e_ldi, pm_e_ldr, pm_e_lk, pm_e_r, pm_e_ri, pm_e_rm0, pm_e_rm1, pm_e_rs0, pm_e_rs1, pm_e_wp0, pm_e_wp1, pm_f2, pm_f3, pm_fld, pm_fv, pm_obj, pm_recv, pm_s_aload_n, pm_s_bipush, pm_s_getfield, pm_s_goto, pm_s_iconst, pm_s_ifCond_eq, pm_s_iload, pm_s_iload_n, pm_s_invokestatic, pm_s_invokevirtual, pm_s_ireturn, pm_s_istore, pm_s_isub, pm_s_saload, ct_X6_numberTakenFrom, tt_X6_refuse, tt_X6_isWithin, pS, pR, pC, pE, pL, -Int32.not_le, -Int32.not_lt, -Int64.not_le, -Int64.not_lt, -List.getD_eq_getElem?_getD, sx_0]
    have hr := rfN_le T.1 (w + 1)
    simp (disch := omega) only [ni_in, ni_cl, ni_add, ni_mul, ni_sub, ni_lt, ni_le, ni_eq, ni_eq0, ni_lt0, ni_0le, ni_0lt, ni_le0, ni_a1, ni_a3, ni_a7, ni_a15]
    refine ⟨fun h => ?_, fun h => ?_⟩
    · have h1 : T.1 = w + 1 := by
        unfold rfN at h; split at h
        · exact absurd h (by decide)
        · split at h
          · assumption
          · exact absurd h (by decide)
      rw [if_neg (by omega), if_pos h1] at hT
      have h49 : ∀ M' v, k (some (.int v)) M' → X 49 [] [.int v] M' := by
        intro M' v hv
        refine hb49 _ _ _ ?_
        simp (maxSteps := 2000000) [bk_X6_numberTakenFrom_0, bk_X6_numberTakenFrom_20, bk_X6_numberTakenFrom_43, bk_X6_numberTakenFrom_49, pm_arr, pm_call, pm_e_c0, pm_e_c1, pm_e_cti, pm_e_ctl, pm_e_ctr, pm_e_go, pm_e_i, pm_e_ii, pm_e_ldi, pm_e_ldr, pm_e_lk, pm_e_r, pm_e_ri, pm_e_rm0, pm_e_rm1, pm_e_rs0, pm_e_rs1, pm_e_wp0, pm_e_wp1, pm_f2, pm_f3, pm_fld, pm_fv, pm_obj, pm_recv, pm_s_aload_n, pm_s_bipush, pm_s_getfield, pm_s_goto, pm_s_iconst, pm_s_ifCond_eq, pm_s_iload, pm_s_iload_n, pm_s_invokestatic, pm_s_invokevirtual, pm_s_ireturn, pm_s_istore, pm_s_isub, pm_s_saload, ct_X6_numberTakenFrom, tt_X6_refuse, tt_X6_isWithin, pS, pR, pC, pE, pL, -Int32.not_le, -Int32.not_lt, -Int64.not_le, -Int64.not_lt, -List.getD_eq_getElem?_getD]
        exact hv
      refine hb20 _ _ _ ?_
      simp (maxSteps := 2000000) [bk_X6_numberTakenFrom_0, bk_X6_numberTakenFrom_20, bk_X6_numberTakenFrom_43, bk_X6_numberTakenFrom_49, pm_arr, pm_call, pm_e_c0, pm_e_c1, pm_e_cti, pm_e_ctl, pm_e_ctr, pm_e_go, pm_e_i, pm_e_ii, pm_e_ldi, pm_e_ldr, pm_e_lk, pm_e_r, pm_e_ri, pm_e_rm0, pm_e_rm1, pm_e_rs0, pm_e_rs1, pm_e_wp0, pm_e_wp1, pm_f2, pm_f3, pm_fld, pm_fv, pm_obj, pm_recv, pm_s_aload_n, pm_s_bipush, pm_s_getfield, pm_s_goto, pm_s_iconst, pm_s_ifCond_eq, pm_s_iload, pm_s_iload_n, pm_s_invokestatic, pm_s_invokevirtual, pm_s_ireturn, pm_s_istore, pm_s_isub, pm_s_saload, ct_X6_numberTakenFrom, tt_X6_refuse, tt_X6_isWithin, pS, pR, pC, pE, pL, -Int32.not_le, -Int32.not_lt, -Int64.not_le, -Int64.not_lt, -List.getD_eq_getElem?_getD, x1, x2, e3, pb_eq0]
      refine ⟨fun hb => ?_, fun hb => ?_⟩
      · rw [if_neg (by rw [hb]; simp)] at hT
        refine hb43 _ _ _ ?_
        simp (maxSteps := 2000000) [bk_X6_numberTakenFrom_0, bk_X6_numberTakenFrom_20, bk_X6_numberTakenFrom_43, bk_X6_numberTakenFrom_49, pm_arr, pm_call, pm_e_c0, pm_e_c1, pm_e_cti, pm_e_ctl, pm_e_ctr, pm_e_go, pm_e_i, pm_e_ii, pm_e_ldi, pm_e_ldr, pm_e_lk, pm_e_r, pm_e_ri, pm_e_rm0, pm_e_rm1, pm_e_rs0, pm_e_rs1, pm_e_wp0, pm_e_wp1, pm_f2, pm_f3, pm_fld, pm_fv, pm_obj, pm_recv, pm_s_aload_n, pm_s_bipush, pm_s_getfield, pm_s_goto, pm_s_iconst, pm_s_ifCond_eq, pm_s_iload, pm_s_iload_n, pm_s_invokestatic, pm_s_invokevirtual, pm_s_ireturn, pm_s_istore, pm_s_isub, pm_s_saload, ct_X6_numberTakenFrom, tt_X6_refuse, tt_X6_isWithin, pS, pR, pC, pE, pL, -Int32.not_le, -Int32.not_lt, -Int64.not_le, -Int64.not_lt, -List.getD_eq_getElem?_getD, sx_0]
        exact h49 _ _ (ansK_n (by decide) hT)
      · rw [if_pos hb] at hT
        obtain ⟨z1, z2⟩ := wi_lt (by omega) hb
        rw [z1, ni_in (by omega), ni_cl (by omega), hTr.2.2.2 _ z2]
        exact ⟨by omega, h49 _ _ (ansK_0 hT)⟩
    · have hq : ansK k M (-nI 1, rfN T.1 (w + 1)) := by
        unfold rfN at h ⊢
        by_cases z0 : T.1 = 0
        · rw [if_pos z0] at hT ⊢; exact hT
        · by_cases z1 : T.1 = w + 1
          · rw [if_neg z0, if_pos z1] at h; exact absurd rfl h
          · rw [if_neg z0, if_neg z1] at hT ⊢; exact hT
      exact ansK_n h hq
  · exact hT.elim
def tt_X6_kindInSuitedRow : pm_T := fun args M k => match args with
  | [.ref 0, .ref p] => ∃ t T n, t < 6 ∧ p = 15 + 2 * t ∧ TrX M t T ∧ okT T ∧ ansK k M (fgN T 6 n)
  | _ => False
theorem laws_2 : ∀ l, l < 5 → (pm_laws.getD l 0 &&& nI 2 = 0 ↔ ¬ (l = 1 ∨ l = 3)) := by decide +kernel
abbrev ct_X6_kindInSuitedRow : List pm_C := [(false, 219, 6, 2, (some .int), tt_X6_refuse)]
set_option maxHeartbeats 4000000 in
theorem sm_X6_kindInSuitedRow  : pm_Sem SHx yX6_kindInSuitedRow cX6_kindInSuitedRow 3 (some .int) 2 tt_X6_kindInSuitedRow := by
  refine pm_Sem_intro bl_X6_kindInSuitedRow ct_X6_kindInSuitedRow cs_X6_kindInSuitedRow rfl (List.forall_mem_cons.mpr ⟨⟨_, _, _, _, sm_X6_refuse, by decide, cm_X6_refuse, by decide +kernel⟩, fun _ h => absurd h List.not_mem_nil⟩) ck_X6_kindInSuitedRow (by decide +kernel) (by decide) ?_
  intro X k hX args M hT
  have hb0 := hX 0 bk_X6_kindInSuitedRow_0 (List.mem_of_getElem? (i := 0) rfl)
  have hb9 := hX 9 bk_X6_kindInSuitedRow_9 (List.mem_of_getElem? (i := 1) rfl)
  have hb34 := hX 34 bk_X6_kindInSuitedRow_34 (List.mem_of_getElem? (i := 2) rfl)
  have hb35 := hX 35 bk_X6_kindInSuitedRow_35 (List.mem_of_getElem? (i := 3) rfl)
  have hb47 := hX 47 bk_X6_kindInSuitedRow_47 (List.mem_of_getElem? (i := 4) rfl)
  have hb53 := hX 53 bk_X6_kindInSuitedRow_53 (List.mem_of_getElem? (i := 5) rfl)
  clear hX
  unfold tt_X6_kindInSuitedRow at hT; split at hT
  · next p =>
    obtain ⟨t, T, n, ht, rfl, hTr, hO, hT⟩ := hT
    obtain ⟨x1, x2, x3, x4⟩ := tr_sx ht
    have e1 := hTr.1
    have o1 := hO.1
    have o2 := hO.2.1
    have eF : fgN T 6 n = (if T.1 = 0 then (nI 0, 0) else if T.1 = 1 ∧ (T.2.1 = 1 ∨ T.2.1 = 3) then (nI T.2.1, 0) else (-nI 1, 14)) := rfl
    rw [eF] at hT
    refine ⟨by simp [lg_sl, Value.category], ?_⟩
    have h53 : ∀ M' v, k (some (.int v)) M' → X 53 [] [.int v] M' := by
      intro M' v hv
      refine hb53 _ _ _ ?_
      simp (maxSteps := 2000000) [bk_X6_kindInSuitedRow_0, bk_X6_kindInSuitedRow_9, bk_X6_kindInSuitedRow_34, bk_X6_kindInSuitedRow_35, bk_X6_kindInSuitedRow_47, bk_X6_kindInSuitedRow_53, pm_arr, pm_call, pm_e_c0, pm_e_c1, pm_e_cti, pm_e_ctl, pm_e_ctr, pm_e_go, pm_e_i, pm_e_ii, pm_e_ldi, pm_e_ldr, pm_e_lk, pm_e_r, pm_e_ri, pm_e_rm0, pm_e_rm1, pm_e_rs0, pm_e_rs1, pm_e_si, pm_e_wp0, pm_e_wp1, pm_f2, pm_f3, pm_fld, pm_fv, pm_obj, pm_recv, pm_s_aload_n, pm_s_bipush, pm_s_getfield, pm_s_getstatic, pm_s_goto, pm_s_iaload, pm_s_iaload1, pm_s_iand, pm_s_iconst, pm_s_ifCond_eq, pm_s_ifCond_ne, pm_s_if_icmp_ne, pm_s_iload_n, pm_s_invokevirtual, pm_s_ireturn, pm_s_istore_n, ct_X6_kindInSuitedRow, tt_X6_refuse, pS, pR, pC, pE, pL, -Int32.not_le, -Int32.not_lt, -Int64.not_le, -Int64.not_lt, -List.getD_eq_getElem?_getD]
      exact hv
    refine hb0 _ _ _ ?_
    simp (maxSteps := 2000000) [bk_X6_kindInSuitedRow_0, bk_X6_kindInSuitedRow_9, bk_X6_kindInSuitedRow_34, bk_X6_kindInSuitedRow_35, bk_X6_kindInSuitedRow_47, bk_X6_kindInSuitedRow_53, pm_arr, pm_call, pm_e_c0, pm_e_c1, pm_e_cti, pm_e_ctl, pm_e_ctr, pm_e_go, pm_e_i, pm_e_ii, pm_e_ldi, pm_e_ldr, pm_e_lk, pm_e_r, pm_e_ri, pm_e_rm0, pm_e_rm1, pm_e_rs0, pm_e_rs1, pm_e_si, pm_e_wp0, pm_e_wp1, pm_f2, pm_f3, pm_fld, pm_fv, pm_obj, pm_recv, pm_s_aload_n, pm_s_bipush, pm_s_getfield, pm_s_getstatic, pm_s_goto, pm_s_iaload, pm_s_iaload1, pm_s_iand, pm_s_iconst, pm_s_ifCond_eq, pm_s_ifCond_ne, pm_s_if_icmp_ne, pm_s_iload_n, pm_s_invokevirtual, pm_s_ireturn, pm_s_istore_n, ct_X6_kindInSuitedRow, tt_X6_refuse, pS, pR, pC, pE, pL, -Int32.not_le, -Int32.not_lt, -Int64.not_le, -Int64.not_lt, -List.getD_eq_getElem?_getD, lv_args, x1, e1]
    simp (disch := omega) only [ni_in, ni_cl, ni_add, ni_mul, ni_sub, ni_lt, ni_le, ni_eq, ni_eq0, ni_lt0, ni_0le, ni_0lt, ni_le0, ni_a1, ni_a3, ni_a7, ni_a15]
    refine ⟨fun h => ?_, fun h => ?_⟩
    · rw [if_neg h] at hT
      have no : ¬ (T.1 = 1 ∧ (T.2.1 = 1 ∨ T.2.1 = 3)) → X 34 [(0, .ref 0), (1, .ref (15 + 2 * t))] [] M := by
        intro hn
        rw [if_neg hn] at hT
        refine hb34 _ _ _ ?_
        simp (maxSteps := 2000000) [bk_X6_kindInSuitedRow_0, bk_X6_kindInSuitedRow_9, bk_X6_kindInSuitedRow_34, bk_X6_kindInSuitedRow_35, bk_X6_kindInSuitedRow_47, bk_X6_kindInSuitedRow_53, pm_arr, pm_call, pm_e_c0, pm_e_c1, pm_e_cti, pm_e_ctl, pm_e_ctr, pm_e_go, pm_e_i, pm_e_ii, pm_e_ldi, pm_e_ldr, pm_e_lk, pm_e_r, pm_e_ri, pm_e_rm0, pm_e_rm1, pm_e_rs0, pm_e_rs1, pm_e_si, pm_e_wp0, pm_e_wp1, pm_f2, pm_f3, pm_fld, pm_fv, pm_obj, pm_recv, pm_s_aload_n, pm_s_bipush, pm_s_getfield, pm_s_getstatic, pm_s_goto, pm_s_iaload, pm_s_iaload1, pm_s_iand, pm_s_iconst, pm_s_ifCond_eq, pm_s_ifCond_ne, pm_s_if_icmp_ne, pm_s_iload_n, pm_s_invokevirtual, pm_s_ireturn, pm_s_istore_n, ct_X6_kindInSuitedRow, tt_X6_refuse, pS, pR, pC, pE, pL, -Int32.not_le, -Int32.not_lt, -Int64.not_le, -Int64.not_lt, -List.getD_eq_getElem?_getD]
        refine hb35 _ _ _ ?_
        simp (maxSteps := 2000000) [bk_X6_kindInSuitedRow_0, bk_X6_kindInSuitedRow_9, bk_X6_kindInSuitedRow_34, bk_X6_kindInSuitedRow_35, bk_X6_kindInSuitedRow_47, bk_X6_kindInSuitedRow_53, pm_arr, pm_call, pm_e_c0, pm_e_c1, pm_e_cti, pm_e_ctl, pm_e_ctr, pm_e_go, pm_e_i, pm_e_ii, pm_e_ldi, pm_e_ldr, pm_e_lk, pm_e_r, pm_e_ri, pm_e_rm0, pm_e_rm1, pm_e_rs0, pm_e_rs1, pm_e_si, pm_e_wp0, pm_e_wp1, pm_f2, pm_f3, pm_fld, pm_fv, pm_obj, pm_recv, pm_s_aload_n, pm_s_bipush, pm_s_getfield, pm_s_getstatic, pm_s_goto, pm_s_iaload, pm_s_iaload1, pm_s_iand, pm_s_iconst, pm_s_ifCond_eq, pm_s_ifCond_ne, pm_s_if_icmp_ne, pm_s_iload_n, pm_s_invokevirtual, pm_s_ireturn, pm_s_istore_n, ct_X6_kindInSuitedRow, tt_X6_refuse, pS, pR, pC, pE, pL, -Int32.not_le, -Int32.not_lt, -Int64.not_le, -Int64.not_lt, -List.getD_eq_getElem?_getD, x1]
        refine ⟨fun _ => ?_, fun h => absurd rfl h⟩
        refine hb47 _ _ _ ?_
        simp (maxSteps := 2000000) [bk_X6_kindInSuitedRow_0, bk_X6_kindInSuitedRow_9, bk_X6_kindInSuitedRow_34, bk_X6_kindInSuitedRow_35, bk_X6_kindInSuitedRow_47, bk_X6_kindInSuitedRow_53, pm_arr, pm_call, pm_e_c0, pm_e_c1, pm_e_cti, pm_e_ctl, pm_e_ctr, pm_e_go, pm_e_i, pm_e_ii, pm_e_ldi, pm_e_ldr, pm_e_lk, pm_e_r, pm_e_ri, pm_e_rm0, pm_e_rm1, pm_e_rs0, pm_e_rs1, pm_e_si, pm_e_wp0, pm_e_wp1, pm_f2, pm_f3, pm_fld, pm_fv, pm_obj, pm_recv, pm_s_aload_n, pm_s_bipush, pm_s_getfield, pm_s_getstatic, pm_s_goto, pm_s_iaload, pm_s_iaload1, pm_s_iand, pm_s_iconst, pm_s_ifCond_eq, pm_s_ifCond_ne, pm_s_if_icmp_ne, pm_s_iload_n, pm_s_invokevirtual, pm_s_ireturn, pm_s_istore_n, ct_X6_kindInSuitedRow, tt_X6_refuse, pS, pR, pC, pE, pL, -Int32.not_le, -Int32.not_lt, -Int64.not_le, -Int64.not_lt, -List.getD_eq_getElem?_getD, sx_0]
        exact h53 _ _ (ansK_n (by decide) hT)
      refine hb9 _ _ _ ?_
      simp (maxSteps := 2000000) [bk_X6_kindInSuitedRow_0, bk_X6_kindInSuitedRow_9, bk_X6_kindInSuitedRow_34, bk_X6_kindInSuitedRow_35, bk_X6_kindInSuitedRow_47, bk_X6_kindInSuitedRow_53, pm_arr, pm_call, pm_e_c0, pm_e_c1, pm_e_cti, pm_e_ctl, pm_e_ctr, pm_e_go, pm_e_i, pm_e_ii, pm_e_ldi, pm_e_ldr, pm_e_lk, pm_e_r, pm_e_ri, pm_e_rm0, pm_e_rm1, pm_e_rs0, pm_e_rs1, pm_e_si, pm_e_wp0, pm_e_wp1, pm_f2, pm_f3, pm_fld, pm_fv, pm_obj, pm_recv, pm_s_aload_n, pm_s_bipush, pm_s_getfield, pm_s_getstatic, pm_s_goto, pm_s_iaload, pm_s_iaload1, pm_s_iand, pm_s_iconst, pm_s_ifCond_eq, pm_s_ifCond_ne, pm_s_if_icmp_ne, pm_s_iload_n, pm_s_invokevirtual, pm_s_ireturn, pm_s_istore_n, ct_X6_kindInSuitedRow, tt_X6_refuse, pS, pR, pC, pE, pL, -Int32.not_le, -Int32.not_lt, -Int64.not_le, -Int64.not_lt, -List.getD_eq_getElem?_getD, x1, e1]
      by_cases h1 : T.1 = 1
      · have e2 := hTr.2.1 h1
        have hlw := laws_2 T.2.1 (by omega)
        rw [e2, ni_in (by omega), ni_cl (by omega), hlw, ni_eq (by omega) (by decide)]
        refine ⟨fun z => absurd h1 z, fun _ => ⟨by omega, fun hb => no (fun z => hb z.2), fun hb => ?_⟩⟩
        have hb' : T.2.1 = 1 ∨ T.2.1 = 3 := Classical.not_not.mp hb
        rw [if_pos ⟨h1, hb'⟩] at hT
        refine hb35 _ _ _ ?_
        simp (maxSteps := 2000000) [bk_X6_kindInSuitedRow_0, bk_X6_kindInSuitedRow_9, bk_X6_kindInSuitedRow_34, bk_X6_kindInSuitedRow_35, bk_X6_kindInSuitedRow_47, bk_X6_kindInSuitedRow_53, pm_arr, pm_call, pm_e_c0, pm_e_c1, pm_e_cti, pm_e_ctl, pm_e_ctr, pm_e_go, pm_e_i, pm_e_ii, pm_e_ldi, pm_e_ldr, pm_e_lk, pm_e_r, pm_e_ri, pm_e_rm0, pm_e_rm1, pm_e_rs0, pm_e_rs1, pm_e_si, pm_e_wp0, pm_e_wp1, pm_f2, pm_f3, pm_fld, pm_fv, pm_obj, pm_recv, pm_s_aload_n, pm_s_bipush, pm_s_getfield, pm_s_getstatic, pm_s_goto, pm_s_iaload, pm_s_iaload1, pm_s_iand, pm_s_iconst, pm_s_ifCond_eq, pm_s_ifCond_ne, pm_s_if_icmp_ne, pm_s_iload_n, pm_s_invokevirtual, pm_s_ireturn, pm_s_istore_n, ct_X6_kindInSuitedRow, tt_X6_refuse, pS, pR, pC, pE, pL, -Int32.not_le, -Int32.not_lt, -Int64.not_le, -Int64.not_lt, -List.getD_eq_getElem?_getD, x1, e2]
        refine ⟨fun h => absurd h (by decide), fun _ => h53 _ _ (ansK_0 hT)⟩
      · rw [ni_eq (by omega) (by decide)]
        refine ⟨fun _ => no (fun z => h1 z.1), fun z => absurd z h1⟩
    · rw [if_pos h] at hT
      exact ansK_0 hT
  · exact hT.elim
