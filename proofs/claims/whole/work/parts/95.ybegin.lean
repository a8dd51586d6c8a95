def tt_X7_empties : pm_T := fun args M k => match args with
  | [.ref 0] => ∀ M', M'.1 0 5 = nI 0 → M'.1 0 7 = nI 0 → M'.1 0 12 = nI 0 → M'.1 0 13 = nI 0 → M'.1 0 30 = nI 0 → (∀ c, c < 32 → M'.1 1 c = nI 0) → (∀ r, SdY M' 2 0 r st00) → yfr [1, 2, 4, 5] [5, 7, 12, 13, 30] M M' → k none M'
  | _ => False
abbrev ct_X7_empties : List pm_C := []
set_option maxHeartbeats 4000000 in
theorem sm_X7_empties  : pm_Sem SHy yX7_empties cX7_empties 2 none 1 tt_X7_empties := by
  refine pm_Sem_intro bl_X7_empties ct_X7_empties cs_X7_empties rfl (fun _ h => absurd h List.not_mem_nil) ck_X7_empties (by decide +kernel) (by decide) ?_
  intro X k hX args M hT
  have hb0 := hX 0 bk_X7_empties_0 (List.mem_of_getElem? (i := 0) rfl)
  have hb27 := hX 27 bk_X7_empties_27 (List.mem_of_getElem? (i := 1) rfl)
  have hb46 := hX 46 bk_X7_empties_46 (List.mem_of_getElem? (i := 2) rfl)
  have hb48 := hX 48 bk_X7_empties_48 (List.mem_of_getElem? (i := 3) rfl)
  have hb73 := hX 73 bk_X7_empties_73 (List.mem_of_getElem? (i := 4) rfl)
  clear hX
  unfold tt_X7_empties at hT; split at hT
  · refine ⟨by simp [lg_sl, Value.category], ?_⟩
    have out : ∀ M1, (∀ j ∈ [5, 7, 12, 13, 30], M1.1 0 j = nI 0) → (∀ c, c < 32 → M1.1 1 c = nI 0) → (∀ i, i < 4 → M1.1 2 i = nI 0 ∧ M1.1 5 i = nI 0) → yfr [1, 2, 4, 5] [5, 7, 12, 13, 30] M M1 → X 73 [(0, .ref 0)] [] M1 := by
      intro M1 q1 q2 q3 q4
      refine hb73 _ _ _ ?_
      simp (maxSteps := 2000000) [bk_X7_empties_0, bk_X7_empties_27, bk_X7_empties_46, bk_X7_empties_48, bk_X7_empties_73, pm_arr, pm_e_c0, pm_e_c1, pm_e_cti, pm_e_ctl, pm_e_ctr, pm_e_go, pm_e_i, pm_e_ii, pm_e_ldi, pm_e_ldr, pm_e_lk, pm_e_r, pm_e_rii, pm_e_rm0, pm_e_rm1, pm_e_rs0, pm_e_rs1, pm_e_wp0, pm_e_wp1, pm_f2, pm_f3, pm_fld, pm_fv, pm_obj, pm_s_aload_n, pm_s_bastore, pm_s_bipush, pm_s_getfield, pm_s_goto, pm_s_iastore, pm_s_iconst, pm_s_if_icmp_ge, pm_s_iinc, pm_s_iload_n, pm_s_istore_n, pm_s_putfield, pm_s_return, ct_X7_empties, pS, pR, pC, pE, pL, -Int32.not_le, -Int32.not_lt, -Int64.not_le, -Int64.not_lt, -List.getD_eq_getElem?_getD, sy_0, sy_4]
      simp (disch := omega) only [ni_in, ni_cl, ni_add, ni_mul, ni_sub, ni_lt, ni_le, ni_eq, ni_eq0, ni_lt0, ni_0le, ni_0lt, ni_le0, ni_a1, ni_a3, ni_a7, ni_a15]
      have f2 : yfr [4] [] M1 (pm_set (pm_set M1 4 0 (nI 0)) 4 1 (nI 0)) := (yfr.rfl.set (by decide) (by decide)).set (by decide) (by decide)
      refine ⟨by decide, by decide, hT _ ?_ ?_ ?_ ?_ ?_ (fun c hc => ?_) (fun r => ⟨fun i hi => ⟨?_, ?_, fun j hj => by cases hj⟩, fun j hj => ?_⟩) (q4.trans (f2.mono (by decide) (by decide)))⟩
      · rw [f2.f (by decide)]; exact q1 5 (by decide)
      · rw [f2.f (by decide)]; exact q1 7 (by decide)
      · rw [f2.f (by decide)]; exact q1 12 (by decide)
      · rw [f2.f (by decide)]; exact q1 13 (by decide)
      · rw [f2.f (by decide)]; exact q1 30 (by decide)
      · rw [f2.i (by decide) (by decide)]; exact q2 c hc
      · rw [f2.i (by decide) (by decide), show 4 * 0 + i = i by omega]; exact (q3 i hi).1
      · rw [f2.i (by decide) (by decide), show 4 * 0 + i = i by omega]; exact (q3 i hi).2
      · rw [show 2 * 0 + j = j by omega]
        show (pm_set (pm_set M1 4 0 (nI 0)) 4 1 (nI 0)).1 4 j = nI 0
        rw [me_1s, me_1s]
        rcases (show j = 0 ∨ j = 1 by omega) with rfl | rfl <;> simp
    have loop2 : ∀ (f i : Nat) (M1 : pm_M), 4 ≤ i + f → i ≤ 4 → (∀ j ∈ [5, 7, 12, 13, 30], M1.1 0 j = nI 0) → (∀ c, c < 32 → M1.1 1 c = nI 0) → (∀ j, j < i → M1.1 2 j = nI 0 ∧ M1.1 5 j = nI 0) → yfr [1, 2, 4, 5] [5, 7, 12, 13, 30] M M1 → X 48 [(0, .ref 0), (1, .int (nI i))] [] M1 := by
      intro f
      induction f with
      | zero =>
        intro i M1 f1 f2 q1 q2 q3 q4
        have e : i = 4 := by omega
        subst e
        refine hb48 _ _ _ ?_
        simp (maxSteps := 2000000) [bk_X7_empties_0, bk_X7_empties_27, bk_X7_empties_46, bk_X7_empties_48, bk_X7_empties_73, pm_arr, pm_e_c0, pm_e_c1, pm_e_cti, pm_e_ctl, pm_e_ctr, pm_e_go, pm_e_i, pm_e_ii, pm_e_ldi, pm_e_ldr, pm_e_lk, pm_e_r, pm_e_rii, pm_e_rm0, pm_e_rm1, pm_e_rs0, pm_e_rs1, pm_e_wp0, pm_e_wp1, pm_f2, pm_f3, pm_fld, pm_fv, pm_obj, pm_s_aload_n, pm_s_bastore, pm_s_bipush, pm_s_getfield, pm_s_goto, pm_s_iastore, pm_s_iconst, pm_s_if_icmp_ge, pm_s_iinc, pm_s_iload_n, pm_s_istore_n, pm_s_putfield, pm_s_return, ct_X7_empties, pS, pR, pC, pE, pL, -Int32.not_le, -Int32.not_lt, -Int64.not_le, -Int64.not_lt, -List.getD_eq_getElem?_getD]
        exact out M1 q1 q2 q3 q4
      | succ f ih =>
        intro i M1 f1 f2 q1 q2 q3 q4
        by_cases hi : i < 4
        · refine hb48 _ _ _ ?_
          simp (maxSteps := 2000000) [bk_X7_empties_0, bk_X7_empties_27, bk_X7_empties_46, bk_X7_empties_48, bk_X7_empties_73, pm_arr, pm_e_c0, pm_e_c1, pm_e_cti, pm_e_ctl, pm_e_ctr, pm_e_go, pm_e_i, pm_e_ii, pm_e_ldi, pm_e_ldr, pm_e_lk, pm_e_r, pm_e_rii, pm_e_rm0, pm_e_rm1, pm_e_rs0, pm_e_rs1, pm_e_wp0, pm_e_wp1, pm_f2, pm_f3, pm_fld, pm_fv, pm_obj, pm_s_aload_n, pm_s_bastore, pm_s_bipush, pm_s_getfield, pm_s_goto, pm_s_iastore, pm_s_iconst, pm_s_if_icmp_ge, pm_s_iinc, pm_s_iload_n, pm_s_istore_n, pm_s_putfield, pm_s_return, ct_X7_empties, pS, pR, pC, pE, pL, -Int32.not_le, -Int32.not_lt, -Int64.not_le, -Int64.not_lt, -List.getD_eq_getElem?_getD, sy_0, sy_2, sy_5]
          simp (disch := omega) only [ni_in, ni_cl, ni_add, ni_mul, ni_sub, ni_lt, ni_le, ni_eq, ni_eq0, ni_lt0, ni_0le, ni_0lt, ni_le0, ni_a1, ni_a3, ni_a7, ni_a15]
          refine ⟨fun h => by omega, fun _ => ⟨by omega, ?_⟩⟩
          have g : yfr [2, 5] [] M1 (pm_set (pm_set M1 2 i (nI 0)) 5 i (nI 0)) := (yfr.rfl.set (by decide) (by decide)).set (by decide) (by decide)
          refine ih (i + 1) _ (by omega) (by omega) (fun j hj => by rw [g.f (by simp)]; exact q1 j hj) (fun c hc => by rw [g.i (by decide) (by decide)]; exact q2 c hc) (fun j hj => ?_) (q4.trans (g.mono (by decide) (by decide)))
          by_cases z : j = i
          · subst z; simp [pm_set]
          · have := q3 j (by omega)
            simp [pm_set, z, this]
        · have e : i = 4 := by omega
          subst e
          refine hb48 _ _ _ ?_
          simp (maxSteps := 2000000) [bk_X7_empties_0, bk_X7_empties_27, bk_X7_empties_46, bk_X7_empties_48, bk_X7_empties_73, pm_arr, pm_e_c0, pm_e_c1, pm_e_cti, pm_e_ctl, pm_e_ctr, pm_e_go, pm_e_i, pm_e_ii, pm_e_ldi, pm_e_ldr, pm_e_lk, pm_e_r, pm_e_rii, pm_e_rm0, pm_e_rm1, pm_e_rs0, pm_e_rs1, pm_e_wp0, pm_e_wp1, pm_f2, pm_f3, pm_fld, pm_fv, pm_obj, pm_s_aload_n, pm_s_bastore, pm_s_bipush, pm_s_getfield, pm_s_goto, pm_s_iastore, pm_s_iconst, pm_s_if_icmp_ge, pm_s_iinc, pm_s_iload_n, pm_s_istore_n, pm_s_putfield, pm_s_return, ct_X7_empties, pS, pR, pC, pE, pL, -Int32.not_le, -Int32.not_lt, -Int64.not_le, -Int64.not_lt, -List.getD_eq_getElem?_getD]
          exact out M1 q1 q2 q3 q4
    have loop1 : ∀ (f i : Nat) (M1 : pm_M), 32 ≤ i + f → i ≤ 32 → (∀ j ∈ [5, 7, 12, 13, 30], M1.1 0 j = nI 0) → (∀ c, c < i → M1.1 1 c = nI 0) → yfr [1, 2, 4, 5] [5, 7, 12, 13, 30] M M1 → X 27 [(0, .ref 0), (1, .int (nI i))] [] M1 := by
      intro f
      have fin : ∀ (M1 : pm_M), (∀ j ∈ [5, 7, 12, 13, 30], M1.1 0 j = nI 0) → (∀ c, c < 32 → M1.1 1 c = nI 0) → yfr [1, 2, 4, 5] [5, 7, 12, 13, 30] M M1 → X 46 [(0, .ref 0)] [] M1 := by
        intro M1 q1 q2 q4
        refine hb46 _ _ _ ?_
        simp (maxSteps := 2000000) [bk_X7_empties_0, bk_X7_empties_27, bk_X7_empties_46, bk_X7_empties_48, bk_X7_empties_73, pm_arr, pm_e_c0, pm_e_c1, pm_e_cti, pm_e_ctl, pm_e_ctr, pm_e_go, pm_e_i, pm_e_ii, pm_e_ldi, pm_e_ldr, pm_e_lk, pm_e_r, pm_e_rii, pm_e_rm0, pm_e_rm1, pm_e_rs0, pm_e_rs1, pm_e_wp0, pm_e_wp1, pm_f2, pm_f3, pm_fld, pm_fv, pm_obj, pm_s_aload_n, pm_s_bastore, pm_s_bipush, pm_s_getfield, pm_s_goto, pm_s_iastore, pm_s_iconst, pm_s_if_icmp_ge, pm_s_iinc, pm_s_iload_n, pm_s_istore_n, pm_s_putfield, pm_s_return, ct_X7_empties, pS, pR, pC, pE, pL, -Int32.not_le, -Int32.not_lt, -Int64.not_le, -Int64.not_lt, -List.getD_eq_getElem?_getD]
        exact loop2 4 0 M1 (by omega) (by omega) q1 q2 (fun j hj => by omega) q4
      induction f with
      | zero =>
        intro i M1 f1 f2 q1 q2 q4
        have e : i = 32 := by omega
        subst e
        refine hb27 _ _ _ ?_
        simp (maxSteps := 2000000) [bk_X7_empties_0, bk_X7_empties_27, bk_X7_empties_46, bk_X7_empties_48, bk_X7_empties_73, pm_arr, pm_e_c0, pm_e_c1, pm_e_cti, pm_e_ctl, pm_e_ctr, pm_e_go, pm_e_i, pm_e_ii, pm_e_ldi, pm_e_ldr, pm_e_lk, pm_e_r, pm_e_rii, pm_e_rm0, pm_e_rm1, pm_e_rs0, pm_e_rs1, pm_e_wp0, pm_e_wp1, pm_f2, pm_f3, pm_fld, pm_fv, pm_obj, pm_s_aload_n, pm_s_bastore, pm_s_bipush, pm_s_getfield, pm_s_goto, pm_s_iastore, pm_s_iconst, pm_s_if_icmp_ge, pm_s_iinc, pm_s_iload_n, pm_s_istore_n, pm_s_putfield, pm_s_return, ct_X7_empties, pS, pR, pC, pE, pL, -Int32.not_le, -Int32.not_lt, -Int64.not_le, -Int64.not_lt, -List.getD_eq_getElem?_getD]
        exact fin M1 q1 q2 q4
      | succ f ih =>
        intro i M1 f1 f2 q1 q2 q4
        by_cases hi : i < 32
        · refine hb27 _ _ _ ?_
          simp (maxSteps := 2000000) [bk_X7_empties_0, bk_X7_empties_27, bk_X7_empties_46, bk_X7_empties_48, bk_X7_empties_73, pm_arr, pm_e_c0, pm_e_c1, pm_e_cti, pm_e_ctl, pm_e_ctr, pm_e_go, pm_e_i, pm_e_ii, pm_e_ldi, pm_e_ldr, pm_e_lk, pm_e_r, pm_e_rii, pm_e_rm0, pm_e_rm1, pm_e_rs0, pm_e_rs1, pm_e_wp0, pm_e_wp1, pm_f2, pm_f3, pm_fld, pm_fv, pm_obj, pm_s_aload_n, pm_s_bastore, pm_s_bipush, pm_s_getfield, pm_s_goto, pm_s_iastore, pm_s_iconst, pm_s_if_icmp_ge, pm_s_iinc, pm_s_iload_n, pm_s_istore_n, pm_s_putfield, pm_s_return, ct_X7_empties, pS, pR, pC, pE, pL, -Int32.not_le, -Int32.not_lt, -Int64.not_le, -Int64.not_lt, -List.getD_eq_getElem?_getD, sy_0, sy_1, ni_0]
          simp (disch := omega) only [ni_in, ni_cl, ni_add, ni_mul, ni_sub, ni_lt, ni_le, ni_eq, ni_eq0, ni_lt0, ni_0le, ni_0lt, ni_le0, ni_a1, ni_a3, ni_a7, ni_a15]
          refine ⟨fun h => by omega, fun _ => ⟨by omega, ?_⟩⟩
          have g : yfr [1] [] M1 (pm_set M1 1 i 0) := yfr.rfl.set (by decide) (by decide)
          refine ih (i + 1) _ (by omega) (by omega) (fun j hj => by rw [g.f (by simp)]; exact q1 j hj) (fun c hc => ?_) (q4.trans (g.mono (by decide) (by decide)))
          rw [me_1s]
          by_cases z : c = i
          · rw [if_pos z]; rfl
          · rw [if_neg z]; exact q2 c (by omega)
        · have e : i = 32 := by omega
          subst e
          refine hb27 _ _ _ ?_
          simp (maxSteps := 2000000) [bk_X7_empties_0, bk_X7_empties_27, bk_X7_empties_46, bk_X7_empties_48, bk_X7_empties_73, pm_arr, pm_e_c0, pm_e_c1, pm_e_cti, pm_e_ctl, pm_e_ctr, pm_e_go, pm_e_i, pm_e_ii, pm_e_ldi, pm_e_ldr, pm_e_lk, pm_e_r, pm_e_rii, pm_e_rm0, pm_e_rm1, pm_e_rs0, pm_e_rs1, pm_e_wp0, pm_e_wp1, pm_f2, pm_f3, pm_fld, pm_fv, pm_obj, pm_s_aload_n, pm_s_bastore, pm_s_bipush, pm_s_getfield, pm_s_goto, pm_s_iastore, pm_s_iconst, pm_s_if_icmp_ge, pm_s_iinc, pm_s_iload_n, pm_s_istore_n, pm_s_putfield, pm_s_return, ct_X7_empties, pS, pR, pC, pE, pL, -Int32.not_le, -Int32.not_lt, -Int64.not_le, -Int64.not_lt, -List.getD_eq_getElem?_getD]
          exact fin M1 q1 q2 q4
    refine hb0 _ _ _ ?_
    simp (maxSteps := 2000000) [bk_X7_empties_0, bk_X7_empties_27, bk_X7_empties_46, bk_X7_empties_48, bk_X7_empties_73, pm_arr, pm_e_c0, pm_e_c1, pm_e_cti, pm_e_ctl, pm_e_ctr, pm_e_go, pm_e_i, pm_e_ii, pm_e_ldi, pm_e_ldr, pm_e_lk, pm_e_r, pm_e_rii, pm_e_rm0, pm_e_rm1, pm_e_rs0, pm_e_rs1, pm_e_wp0, pm_e_wp1, pm_f2, pm_f3, pm_fld, pm_fv, pm_obj, pm_s_aload_n, pm_s_bastore, pm_s_bipush, pm_s_getfield, pm_s_goto, pm_s_iastore, pm_s_iconst, pm_s_if_icmp_ge, pm_s_iinc, pm_s_iload_n, pm_s_istore_n, pm_s_putfield, pm_s_return, ct_X7_empties, pS, pR, pC, pE, pL, -Int32.not_le, -Int32.not_lt, -Int64.not_le, -Int64.not_lt, -List.getD_eq_getElem?_getD, lv_args, sy_0]
    refine loop1 32 0 _ (by omega) (by omega) (fun j hj => ?_) (fun c hc => by omega) (((((yfr.rfl.set0 (by decide)).set0 (by decide)).set0 (by decide)).set0 (by decide)).set0 (by decide))
    simp only [List.mem_cons, List.not_mem_nil, or_false] at hj
    rcases hj with rfl | rfl | rfl | rfl | rfl <;> simp [pm_set]
  · exact hT.elim
theorem LdY.no {M : pm_M} {P : Pm} (h : ∀ c, c < 32 → M.1 1 c = nI 0) : LdY M P (fun _ => false) := fun c hc => by rw [h c hc]; unfold lcd; simp [pb_f, ni_0]
theorem HsY.no {M : pm_M} {r : Nat} {H : Nat → St} (h1 : M.1 0 12 = nI 0) (h2 : M.1 0 13 = nI 0) : HsY M r H 0 0 := ⟨h1, h2, fun i h3 h4 => by omega⟩
theorem PlY.nil {M : pm_M} (h : M.1 0 30 = nI 0) : PlY M [] := ⟨h, fun i hi => by cases hi⟩
theorem lcn0 : cnt 13 (fun _ => false) = 0 := rfl
def tt_X7_begin : pm_T := fun args M k => match args with
  | [.ref 0, .int s, .int r, .int c, .int e, .int l] => ∃ A, okA A ∧ MY M A ∧ ∀ M', MY M' (fBegin A s r c e l).2 → k (some (.int (fBegin A s r c e l).1)) M'
  | _ => False
abbrev ct_X7_begin : List pm_C := [(true, 111, 7, 3, (some .boolean), tt_X7_in), (false, 136, 7, 1, none, tt_X7_empties), (false, 139, 7, 1, (some .int), tt_X7_cards)]
set_option maxHeartbeats 4000000 in
theorem sm_X7_begin  : pm_Sem SHy yX7_begin cX7_begin 6 (some .int) 2 tt_X7_begin := by
  refine pm_Sem_intro bl_X7_begin ct_X7_begin cs_X7_begin rfl (List.forall_mem_cons.mpr ⟨⟨_, _, _, _, sm_X7_in, by decide, cm_X7_in, by decide +kernel⟩, List.forall_mem_cons.mpr ⟨⟨_, _, _, _, sm_X7_empties, by decide, cm_X7_empties, by decide +kernel⟩, List.forall_mem_cons.mpr ⟨⟨_, _, _, _, sm_X7_cards, by decide, cm_X7_cards, by decide +kernel⟩, fun _ h => absurd h List.not_mem_nil⟩⟩⟩) ck_X7_begin (by decide +kernel) (by decide) ?_
  intro X k hX args M hT
  have hb0 := hX 0 bk_X7_begin_0 (List.mem_of_getElem? (i := 0) rfl)
  have hb56 := hX 56 bk_X7_begin_56 (List.mem_of_getElem? (i := 1) rfl)
  have hb59 := hX 59 bk_X7_begin_59 (List.mem_of_getElem? (i := 2) rfl)
  clear hX
  unfold tt_X7_begin at hT; split at hT
  · next s r c e l =>
    obtain ⟨A, hA, hM, hT⟩ := hT
    refine ⟨by simp [lg_sl, Value.category], ?_⟩
    have bad : ((wi s (nI 1) (nI 4) && wi r (nI 1) (nI 6) && !decide (nI 12 < s * r)) && (wi c (nI 1) (nI 4) && wi e (nI 0) (nI 2)) && wi l (nI 0) (nI 4)) = false → X 56 [] [] M := by
      intro hf
      refine hb56 _ _ _ ?_
      simp (maxSteps := 2000000) [bk_X7_begin_0, bk_X7_begin_56, bk_X7_begin_59, pm_call, pm_e_c0, pm_e_c1, pm_e_cti, pm_e_ctl, pm_e_ctr, pm_e_go, pm_e_i, pm_e_ii, pm_e_ldi, pm_e_ldr, pm_e_lk, pm_e_rm0, pm_e_rm1, pm_e_rs0, pm_e_rs1, pm_e_wp0, pm_e_wp1, pm_f2, pm_f3, pm_fld, pm_fv, pm_obj, pm_recv, pm_s_aload_n, pm_s_bipush, pm_s_iconst, pm_s_ifCond_eq, pm_s_ifCond_ne, pm_s_if_icmp_gt, pm_s_iload, pm_s_iload_n, pm_s_imul, pm_s_invokestatic, pm_s_invokevirtual, pm_s_ireturn, pm_s_putfield, ct_X7_begin, tt_X7_in, tt_X7_cards, pS, pR, pC, pE, pL, -Int32.not_le, -Int32.not_lt, -Int64.not_le, -Int64.not_lt, -List.getD_eq_getElem?_getD]
      unfold fBegin at hT
      rw [hf] at hT
      exact hT M hM
    have good : ((wi s (nI 1) (nI 4) && wi r (nI 1) (nI 6) && !decide (nI 12 < s * r)) && (wi c (nI 1) (nI 4) && wi e (nI 0) (nI 2)) && wi l (nI 0) (nI 4)) = true → X 59 [(0, .ref 0), (1, .int s), (2, .int r), (3, .int c), (4, .int e), (5, .int l)] [] M := by
      intro hf
      have hok := hA.begin s r c e l
      unfold fBegin at hT hok
      rw [hf] at hT hok
      simp only [if_true] at hT hok
      simp only [Bool.and_eq_true, Bool.not_eq_true', decide_eq_false_iff_not] at hf
      obtain ⟨⟨⟨⟨q1, q2⟩, q3⟩, q4, q5⟩, q6⟩ := hf
      obtain ⟨s1, s2, s3⟩ := wi_tn (by decide) (by decide) q1
      obtain ⟨r1, r2, r3⟩ := wi_tn (by decide) (by decide) q2
      obtain ⟨c1, c2, c3⟩ := wi_tn (by decide) (by decide) q4
      obtain ⟨e1, e2, e3⟩ := wi_tn (by decide) (by decide) q5
      obtain ⟨l1, l2, l3⟩ := wi_tn (by decide) (by decide) q6
      refine hb59 _ _ _ ?_
      simp (maxSteps := 2000000) [bk_X7_begin_0, bk_X7_begin_56, bk_X7_begin_59, pm_call, pm_e_c0, pm_e_c1, pm_e_cti, pm_e_ctl, pm_e_ctr, pm_e_go, pm_e_i, pm_e_ii, pm_e_ldi, pm_e_ldr, pm_e_lk, pm_e_rm0, pm_e_rm1, pm_e_rs0, pm_e_rs1, pm_e_wp0, pm_e_wp1, pm_f2, pm_f3, pm_fld, pm_fv, pm_obj, pm_recv, pm_s_aload_n, pm_s_bipush, pm_s_iconst, pm_s_ifCond_eq, pm_s_ifCond_ne, pm_s_if_icmp_gt, pm_s_iload, pm_s_iload_n, pm_s_imul, pm_s_invokestatic, pm_s_invokevirtual, pm_s_ireturn, pm_s_putfield, ct_X7_begin, tt_X7_in, tt_X7_cards, pS, pR, pC, pE, pL, -Int32.not_le, -Int32.not_lt, -Int64.not_le, -Int64.not_lt, -List.getD_eq_getElem?_getD, sy_0]
      have f1 : yfr [] [0, 1, 2, 3, 4] M (pm_set (pm_set (pm_set (pm_set (pm_set M 0 0 s) 0 1 r) 0 2 c) 0 3 e) 0 4 l) := ((((yfr.rfl.set0 (by decide)).set0 (by decide)).set0 (by decide)).set0 (by decide)).set0 (by decide)
      have d1 : DkY (pm_set (pm_set (pm_set (pm_set (pm_set M 0 0 s) 0 1 r) 0 2 c) 0 3 e) 0 4 l) (tn s, tn r, tn c, tn e, tn l) := ⟨hok.1, by simp [pm_set]; exact s1, by simp [pm_set]; exact r1, by simp [pm_set]; exact c1, by simp [pm_set]; exact e1, by simp [pm_set]; exact l1⟩
      generalize pm_set (pm_set (pm_set (pm_set (pm_set M 0 0 s) 0 1 r) 0 2 c) 0 3 e) 0 4 l = M1 at *
      intro M2 z5 z7 z12 z13 z30 zl zs f2
      have d2 := d1.mv f2 (by decide)
      have g1 := d2.2.1
      have g2 := d2.2.2.1
      simp (maxSteps := 2000000) [bk_X7_begin_0, bk_X7_begin_56, bk_X7_begin_59, pm_call, pm_e_c0, pm_e_c1, pm_e_cti, pm_e_ctl, pm_e_ctr, pm_e_go, pm_e_i, pm_e_ii, pm_e_ldi, pm_e_ldr, pm_e_lk, pm_e_rm0, pm_e_rm1, pm_e_rs0, pm_e_rs1, pm_e_wp0, pm_e_wp1, pm_f2, pm_f3, pm_fld, pm_fv, pm_obj, pm_recv, pm_s_aload_n, pm_s_bipush, pm_s_iconst, pm_s_ifCond_eq, pm_s_ifCond_ne, pm_s_if_icmp_gt, pm_s_iload, pm_s_iload_n, pm_s_imul, pm_s_invokestatic, pm_s_invokevirtual, pm_s_ireturn, pm_s_putfield, ct_X7_begin, tt_X7_in, tt_X7_cards, pS, pR, pC, pE, pL, -Int32.not_le, -Int32.not_lt, -Int64.not_le, -Int64.not_lt, -List.getD_eq_getElem?_getD, sy_0, g1, g2]
      rw [ni_mul]
      refine hT M2 ⟨d2, zs _, LdY.no zl, by rw [z5]; rfl, z7, HsY.no z12 z13, PlY.nil z30, try_mv (try_mv hM.2.2.2.2.2.2.2.1 f1 (by decide)) f2 (by decide), ?_⟩
      rw [f2.f (by decide), f1.f (by decide)]; exact hM.2.2.2.2.2.2.2.2
    refine hb0 _ _ _ ?_
    simp (maxSteps := 2000000) [bk_X7_begin_0, bk_X7_begin_56, bk_X7_begin_59, pm_call, pm_e_c0, pm_e_c1, pm_e_cti, pm_e_ctl, pm_e_ctr, pm_e_go, pm_e_i, pm_e_ii, pm_e_ldi, pm_e_ldr, pm_e_lk, pm_e_rm0, pm_e_rm1, pm_e_rs0, pm_e_rs1, pm_e_wp0, pm_e_wp1, pm_f2, pm_f3, pm_fld, pm_fv, pm_obj, pm_recv, pm_s_aload_n, pm_s_bipush, pm_s_iconst, pm_s_ifCond_eq, pm_s_ifCond_ne, pm_s_if_icmp_gt, pm_s_iload, pm_s_iload_n, pm_s_imul, pm_s_invokestatic, pm_s_invokevirtual, pm_s_ireturn, pm_s_putfield, ct_X7_begin, tt_X7_in, tt_X7_cards, pS, pR, pC, pE, pL, -Int32.not_le, -Int32.not_lt, -Int64.not_le, -Int64.not_lt, -List.getD_eq_getElem?_getD, lv_args, pb_eq0]
    refine ⟨fun h => bad (by rw [h]; rfl), fun h => ⟨fun h2 => bad (by rw [h2, Bool.and_false]; rfl), fun h2 => ⟨fun h3 => bad (by rw [decide_eq_true h3]; simp), fun h3 => ⟨fun h4 => bad (by rw [h4]; simp), fun h4 => ⟨fun h5 => bad (by rw [h5]; simp), fun h5 => ⟨fun h6 => good (by rw [h, h2, decide_eq_false h3, h4, h5, h6]; rfl), fun h6 => bad (by rw [h6]; simp)⟩⟩⟩⟩⟩⟩
  · exact hT.elim
/-- a column is another list -/
theorem SdY.col {M M' : pm_M} {b r : Nat} {S : St} (h : SdY M b 0 r S) {i : Nat} (hi : i < 4) {l : List Nat} (h12 : l.length ≤ 12) (hl : ∀ j, j < 4 → (S.1 j).length ≤ 12) (e0 : ∀ j, j < 4 → M'.1 b j = if j = i then nI l.length else M.1 b j) (e1 : ∀ j, j < l.length → M'.1 (b + 1) (12 * i + j) = nI (cdN r (l.getD j 0))) (e2 : ∀ x, x < 12 * i ∨ 12 * i + 12 ≤ x → M'.1 (b + 1) x = M.1 (b + 1) x) (e3 : M'.1 (b + 2) = M.1 (b + 2)) (e4 : M'.1 (b + 3) = M.1 (b + 3)) : SdY M' b 0 r (up S.1 i l, S.2.1, S.2.2) := by
  refine ⟨fun k hk => ⟨?_, ?_, fun j hj => ?_⟩, fun j hj => ?_⟩
  · rw [show 4 * 0 + k = k by omega, e0 k hk]
    by_cases z : k = i
    · rw [if_pos z, z]; simp only [up_s]
    · rw [if_neg z]; simp only [up_n S.1 l z]; exact h.n hk
  · rw [e4]; exact (h.1 k hk).2.1
  · rw [show 48 * 0 + 12 * k + j = 12 * k + j by omega]
    by_cases z : k = i
    · rw [z] at hj ⊢; simp only [up_s] at hj ⊢; exact e1 j hj
    · simp only [up_n S.1 l z] at hj ⊢
      have := hl k hk
      rw [e2 _ (by omega)]; exact h.c hk hj
  · rw [e3]; exact h.2 j hj
theorem lcd_up {P : Pm} (hP : okP P) {L : Nat → Bool} {t k : Nat} (ht : t < pS P) (k1 : 1 ≤ k) (k2 : k ≤ pR P) (c : Nat) : lcd P (up L (t * pR P + k) true) c = if c = 8 * t + k then true else lcd P L c := by
  have h6 := hP.2.2.2.1
  by_cases z : c = 8 * t + k
  · rw [if_pos z]; unfold lcd
    rw [show c / 8 = t by omega, show c % 8 = k by omega, up_s]
    simp [ht, k1, k2]
  · rw [if_neg z]; unfold lcd
    by_cases q : c / 8 < pS P ∧ 1 ≤ c % 8 ∧ c % 8 ≤ pR P
    · have : c / 8 * pR P + c % 8 ≠ t * pR P + k := fun e => by
        have e1 := su_of (r := pR P) (s := c / 8) (k := c % 8) q.2.1 q.2.2
        have e2 := su_of (r := pR P) (s := t) (k := k) k1 k2
        have e3 := ra_of (r := pR P) (s := c / 8) (k := c % 8) q.2.1 q.2.2
        have e4 := ra_of (r := pR P) (s := t) (k := k) k1 k2
        rw [e] at e1 e3
        omega
      rw [up_n _ _ this]
    · by_cases q1 : c / 8 < pS P
      · by_cases q2 : 1 ≤ c % 8
        · have q3 : ¬ c % 8 ≤ pR P := fun y => q ⟨q1, q2, y⟩
          simp [q3]
        · simp [q2]
      · simp [q1]
theorem lcn_up {L : Nat → Bool} {d : Nat} (hd : d < 13) (hl : L d = false) : cnt 13 (up L d true) = cnt 13 L + 1 := by
  have key : ∀ n, cnt n (up L d true) = cnt n L + (if d < n then 1 else 0) := by
    intro n
    induction n with
    | zero => rfl
    | succ n ih =>
      rw [cnt_s, cnt_s, ih]
      by_cases w : n = d
      · rw [w, up_s, hl, if_neg (by omega), if_pos rfl, if_neg (by simp), if_pos (by omega)]
      · rw [up_n _ _ w]
        by_cases v : d < n
        · rw [if_pos v, if_pos (show d < n + 1 by omega)]; omega
        · rw [if_neg v, if_neg (show ¬ d < n + 1 by omega)]; omega
  have := key 13
  rw [if_pos hd] at this; exact this
def tt_X7_lay : pm_T := fun args M k => match args with
  | [.ref 0, .int x, .int y, .int z] => ∃ A, okA A ∧ MY M A ∧ ∀ M', MY M' (fLay A x y z).2 → k (some (.int (fLay A x y z).1)) M'
  | _ => False
abbrev ct_X7_lay : List pm_C := [(true, 111, 7, 3, (some .boolean), tt_X7_in)]
set_option maxHeartbeats 4000000 in
theorem sm_X7_lay  : pm_Sem SHy yX7_lay cX7_lay 5 (some .int) 2 tt_X7_lay := by
  refine pm_Sem_intro bl_X7_lay ct_X7_lay cs_X7_lay rfl (List.forall_mem_cons.mpr ⟨⟨_, _, _, _, sm_X7_in, by decide, cm_X7_in, by decide +kernel⟩, fun _ h => absurd h List.not_mem_nil⟩) ck_X7_lay (by decide +kernel) (by decide) ?_
  intro X k hX args M hT
  have hb0 := hX 0 bk_X7_lay_0 (List.mem_of_getElem? (i := 0) rfl)
  have hb40 := hX 40 bk_X7_lay_40 (List.mem_of_getElem? (i := 1) rfl)
  have hb43 := hX 43 bk_X7_lay_43 (List.mem_of_getElem? (i := 2) rfl)
  have hb64 := hX 64 bk_X7_lay_64 (List.mem_of_getElem? (i := 3) rfl)
  clear hX
  unfold tt_X7_lay at hT; split at hT
  · next x y z =>
    obtain ⟨A, hA, hM, hT⟩ := hT
    obtain ⟨hD, hS, hL, h5', h7', hH, hPl, hTr, hQ⟩ := id hM
    have hP := hA.1
    obtain ⟨h1, h2, h3, h4, h5, h6, h7, h8, h9⟩ := id hP
    obtain ⟨-, m0, m1, m2, m3, m4⟩ := id hD
    unfold fLay colOK at hT
    refine ⟨by simp [lg_sl, Value.category], ?_⟩
    have bad : (wi x (nI 0) (nI (pC (aP A)) - nI 1) && (wi y (nI 0) (nI (pS (aP A)) - nI 1) && wi z (nI 1) (nI (pR (aP A))))) = false → X 40 [] [] M := by
      intro hf
      refine hb40 _ _ _ ?_
      simp (maxSteps := 2000000) [bk_X7_lay_0, bk_X7_lay_40, bk_X7_lay_43, bk_X7_lay_64, pm_arr, pm_call, pm_e_c0, pm_e_c1, pm_e_cti, pm_e_ctl, pm_e_ctr, pm_e_go, pm_e_i, pm_e_ii, pm_e_ldi, pm_e_ldr, pm_e_lk, pm_e_r, pm_e_ri, pm_e_rii, pm_e_rm0, pm_e_rm1, pm_e_rs0, pm_e_rs1, pm_e_v1, pm_e_v2, pm_e_v3, pm_e_wp0, pm_e_wp1, pm_f2, pm_f3, pm_fld, pm_fv, pm_obj, pm_recv, pm_s_aload_n, pm_s_baload, pm_s_bastore, pm_s_bipush, pm_s_dup, pm_s_dup2, pm_s_dup_x1, pm_s_dup_x2, pm_s_getfield, pm_s_iadd, pm_s_iaload, pm_s_iastore, pm_s_iconst, pm_s_ifCond_eq, pm_s_ifCond_ne, pm_s_iload, pm_s_iload_n, pm_s_imul, pm_s_invokestatic, pm_s_ireturn, pm_s_istore, pm_s_isub, pm_s_putfield, ct_X7_lay, tt_X7_in, pS, pR, pC, pE, pL, -Int32.not_le, -Int32.not_lt, -Int64.not_le, -Int64.not_lt, -List.getD_eq_getElem?_getD]
      rw [hf] at hT
      exact hT M hM
    have good : (wi x (nI 0) (nI (pC (aP A)) - nI 1) && (wi y (nI 0) (nI (pS (aP A)) - nI 1) && wi z (nI 1) (nI (pR (aP A))))) = true → X 43 [(0, .ref 0), (1, .int x), (2, .int y), (3, .int z)] [] M := by
      intro hf
      rw [hf] at hT
      simp only [if_true] at hT
      simp only [Bool.and_eq_true] at hf
      obtain ⟨q1, q2, q3⟩ := hf
      obtain ⟨x1, x2⟩ := wi_lt (by omega) q1
      obtain ⟨y1, y2⟩ := wi_lt (by omega) q2
      obtain ⟨z1, z2, z3⟩ := wi_tn (by decide) (by omega) q3
      have hd := card_le y2 z3
      have ecd : nI 8 * y + z = nI (8 * tn y + tn z) := by
        conv => lhs; rw [y1, z1, ni_mul, ni_add]
      have hlc : lcd (aP A) (aL A) (8 * tn y + tn z) = aL A (tn y * pR (aP A) + tn z) := by
        unfold lcd
        rw [show (8 * tn y + tn z) / 8 = tn y by omega, show (8 * tn y + tn z) % 8 = tn z by omega]
        simp [y2, z2, z3]
      have hbit := hL (8 * tn y + tn z) (by omega)
      rw [hlc] at hbit
      refine hb43 _ _ _ ?_
      simp (maxSteps := 2000000) [bk_X7_lay_0, bk_X7_lay_40, bk_X7_lay_43, bk_X7_lay_64, pm_arr, pm_call, pm_e_c0, pm_e_c1, pm_e_cti, pm_e_ctl, pm_e_ctr, pm_e_go, pm_e_i, pm_e_ii, pm_e_ldi, pm_e_ldr, pm_e_lk, pm_e_r, pm_e_ri, pm_e_rii, pm_e_rm0, pm_e_rm1, pm_e_rs0, pm_e_rs1, pm_e_v1, pm_e_v2, pm_e_v3, pm_e_wp0, pm_e_wp1, pm_f2, pm_f3, pm_fld, pm_fv, pm_obj, pm_recv, pm_s_aload_n, pm_s_baload, pm_s_bastore, pm_s_bipush, pm_s_dup, pm_s_dup2, pm_s_dup_x1, pm_s_dup_x2, pm_s_getfield, pm_s_iadd, pm_s_iaload, pm_s_iastore, pm_s_iconst, pm_s_ifCond_eq, pm_s_ifCond_ne, pm_s_iload, pm_s_iload_n, pm_s_imul, pm_s_invokestatic, pm_s_ireturn, pm_s_istore, pm_s_isub, pm_s_putfield, ct_X7_lay, tt_X7_in, pS, pR, pC, pE, pL, -Int32.not_le, -Int32.not_lt, -Int64.not_le, -Int64.not_lt, -List.getD_eq_getElem?_getD, sy_0, sy_1]
      rw [ecd, ni_in (by omega), ni_cl (by omega), hbit, pb_eq0]
      refine ⟨by omega, fun hl => ?_, fun hl => ?_⟩
      · rw [if_neg (by rw [hl]; simp)] at hT
        have hroom := hA.wf.room hP (show 1 ≤ tn y * pR (aP A) + tn z by omega) hd hl
        have hlen := len_tot (aS A) (show tn x < 4 by omega)
        have hn : M.1 2 (tn x) = _ := hS.n (show tn x < 4 by omega)
        have hcd : cdN (pR (aP A)) (tn y * pR (aP A) + tn z) = 8 * tn y + tn z := by
          unfold cdN; rw [if_neg (by omega), su_of z2 z3, ra_of z2 z3]
        refine hb64 _ _ _ ?_
        simp (maxSteps := 2000000) [bk_X7_lay_0, bk_X7_lay_40, bk_X7_lay_43, bk_X7_lay_64, pm_arr, pm_call, pm_e_c0, pm_e_c1, pm_e_cti, pm_e_ctl, pm_e_ctr, pm_e_go, pm_e_i, pm_e_ii, pm_e_ldi, pm_e_ldr, pm_e_lk, pm_e_r, pm_e_ri, pm_e_rii, pm_e_rm0, pm_e_rm1, pm_e_rs0, pm_e_rs1, pm_e_v1, pm_e_v2, pm_e_v3, pm_e_wp0, pm_e_wp1, pm_f2, pm_f3, pm_fld, pm_fv, pm_obj, pm_recv, pm_s_aload_n, pm_s_baload, pm_s_bastore, pm_s_bipush, pm_s_dup, pm_s_dup2, pm_s_dup_x1, pm_s_dup_x2, pm_s_getfield, pm_s_iadd, pm_s_iaload, pm_s_iastore, pm_s_iconst, pm_s_ifCond_eq, pm_s_ifCond_ne, pm_s_iload, pm_s_iload_n, pm_s_imul, pm_s_invokestatic, pm_s_ireturn, pm_s_istore, pm_s_isub, pm_s_putfield, ct_X7_lay, tt_X7_in, pS, pR, pC, pE, pL, -Int32.not_le, -Int32.not_lt, -Int64.not_le, -Int64.not_lt, -List.getD_eq_getElem?_getD, sy_0, sy_1, sy_2, sy_3, Value.category]
        rw [x1, ni_in (by omega), ni_in (by omega), ni_cl (by omega), ni_cl (by omega)]
        have f0 : yfr [1] [] M (pm_set M 1 (8 * tn y + tn z) (nI 1)) := yfr.rfl.set (by decide) (by decide)
        have hn1 : (pm_set M 1 (8 * tn y + tn z) (nI 1)).1 2 (tn x) = nI ((aS A).1 (tn x)).length := by rw [f0.i (by decide) (by decide)]; exact hn
        have e5 : M.1 0 5 = nI (lcn A) := h5'
        rw [hn1, ni_mul, ni_add, ni_add, ni_in (by omega), ni_cl (by omega)]
        refine ⟨Or.inr rfl, by omega, by omega, by omega, ?_⟩
        have e5' : (pm_set (pm_set (pm_set (pm_set (pm_set M 1 (8 * tn y + tn z) (nI 1)) 2 (tn x) (nI (((aS A).1 (tn x)).length + 1))) 3 (12 * tn x + ((aS A).1 (tn x)).length) (nI (8 * tn y + tn z))) 0 12 (nI 0)) 0 13 (nI 0)).1 0 5 = nI (lcn A) := by simp [pm_set]; exact e5
        rw [e5', ni_add]
        have g : yfr [1, 2, 3] [5, 12, 13] M (pm_set (pm_set (pm_set (pm_set (pm_set (pm_set M 1 (8 * tn y + tn z) (nI 1)) 2 (tn x) (nI (((aS A).1 (tn x)).length + 1))) 3 (12 * tn x + ((aS A).1 (tn x)).length) (nI (8 * tn y + tn z))) 0 12 (nI 0)) 0 13 (nI 0)) 0 5 (nI (lcn A + 1))) := (((((yfr.rfl.set (by decide) (by decide)).set (by decide) (by decide)).set (by decide) (by decide)).set0 (by decide)).set0 (by decide)).set0 (by decide)
        have a5 : (pm_set (pm_set (pm_set (pm_set (pm_set (pm_set M 1 (8 * tn y + tn z) (nI 1)) 2 (tn x) (nI (((aS A).1 (tn x)).length + 1))) 3 (12 * tn x + ((aS A).1 (tn x)).length) (nI (8 * tn y + tn z))) 0 12 (nI 0)) 0 13 (nI 0)) 0 5 (nI (lcn A + 1))).1 0 5 = nI (lcn A + 1) := by simp [pm_set]
        have a12 : (pm_set (pm_set (pm_set (pm_set (pm_set (pm_set M 1 (8 * tn y + tn z) (nI 1)) 2 (tn x) (nI (((aS A).1 (tn x)).length + 1))) 3 (12 * tn x + ((aS A).1 (tn x)).length) (nI (8 * tn y + tn z))) 0 12 (nI 0)) 0 13 (nI 0)) 0 5 (nI (lcn A + 1))).1 0 12 = nI 0 := by simp [pm_set]
        have a13 : (pm_set (pm_set (pm_set (pm_set (pm_set (pm_set M 1 (8 * tn y + tn z) (nI 1)) 2 (tn x) (nI (((aS A).1 (tn x)).length + 1))) 3 (12 * tn x + ((aS A).1 (tn x)).length) (nI (8 * tn y + tn z))) 0 12 (nI 0)) 0 13 (nI 0)) 0 5 (nI (lcn A + 1))).1 0 13 = nI 0 := by simp [pm_set]
        have b1 : ∀ c, (pm_set (pm_set (pm_set (pm_set (pm_set (pm_set M 1 (8 * tn y + tn z) (nI 1)) 2 (tn x) (nI (((aS A).1 (tn x)).length + 1))) 3 (12 * tn x + ((aS A).1 (tn x)).length) (nI (8 * tn y + tn z))) 0 12 (nI 0)) 0 13 (nI 0)) 0 5 (nI (lcn A + 1))).1 1 c = if c = 8 * tn y + tn z then nI 1 else M.1 1 c := fun c => by simp [pm_set]
        have b2 : ∀ c, (pm_set (pm_set (pm_set (pm_set (pm_set (pm_set M 1 (8 * tn y + tn z) (nI 1)) 2 (tn x) (nI (((aS A).1 (tn x)).length + 1))) 3 (12 * tn x + ((aS A).1 (tn x)).length) (nI (8 * tn y + tn z))) 0 12 (nI 0)) 0 13 (nI 0)) 0 5 (nI (lcn A + 1))).1 2 c = if c = tn x then nI (((aS A).1 (tn x)).length + 1) else M.1 2 c := fun c => by simp [pm_set]
        have b3 : ∀ c, (pm_set (pm_set (pm_set (pm_set (pm_set (pm_set M 1 (8 * tn y + tn z) (nI 1)) 2 (tn x) (nI (((aS A).1 (tn x)).length + 1))) 3 (12 * tn x + ((aS A).1 (tn x)).length) (nI (8 * tn y + tn z))) 0 12 (nI 0)) 0 13 (nI 0)) 0 5 (nI (lcn A + 1))).1 3 c = if c = 12 * tn x + ((aS A).1 (tn x)).length then nI (8 * tn y + tn z) else M.1 3 c := fun c => by simp [pm_set]
        generalize pm_set (pm_set (pm_set (pm_set (pm_set (pm_set M 1 (8 * tn y + tn z) (nI 1)) 2 (tn x) (nI (((aS A).1 (tn x)).length + 1))) 3 (12 * tn x + ((aS A).1 (tn x)).length) (nI (8 * tn y + tn z))) 0 12 (nI 0)) 0 13 (nI 0)) 0 5 (nI (lcn A + 1)) = M' at *
        refine hT M' ⟨hD.mv g (by decide), ?_, fun c hc => ?_, ?_, ?_, HsY.no a12 a13, hPl.mv g (by decide) (by decide), try_mv hTr g (by decide), ?_⟩
        · refine hS.col (l := (aS A).1 (tn x) ++ [tn y * pR (aP A) + tn z]) (by omega) (by simp; omega) (fun j hj => by have := len_tot (aS A) hj; omega) (fun j hj => ?_) (fun j hj => ?_) (fun q hq => ?_) ?_ ?_
          · rw [b2]; simp
          · show M'.1 3 _ = _
            rw [b3]
            by_cases w : j = ((aS A).1 (tn x)).length
            · rw [if_pos (by rw [w]), w, getD_snoc, hcd]
            · have hj' : j < ((aS A).1 (tn x)).length := by simp at hj; omega
              have hc3 : M.1 3 (12 * tn x + j) = _ := hS.c (show tn x < 4 by omega) hj'
              rw [if_neg (by omega), hc3]
              congr 2
              simp [List.getD_eq_getElem?_getD, List.getElem?_append_left hj']
          · show M'.1 3 q = M.1 3 q
            rw [b3, if_neg (by omega)]
          · exact g.1 4 (by decide) (by decide)
          · exact g.1 5 (by decide) (by decide)
        · rw [b1, lcd_up hP y2 z2 z3]
          by_cases w : c = 8 * tn y + tn z
          · rw [if_pos w, if_pos w]; rfl
          · rw [if_neg w, if_neg w]; exact hL c hc
        · rw [a5]
          show nI (cnt 13 (aL A) + 1) = nI (cnt 13 (up (aL A) (tn y * pR (aP A) + tn z) true))
          rw [lcn_up (by omega) hl]
        · rw [g.f (by decide)]; exact h7'
        · rw [g.f (by decide)]; exact hQ
      · rw [if_pos (by simpa using hl)] at hT
        exact hT M hM
    refine hb0 _ _ _ ?_
    simp (maxSteps := 2000000) [bk_X7_lay_0, bk_X7_lay_40, bk_X7_lay_43, bk_X7_lay_64, pm_arr, pm_call, pm_e_c0, pm_e_c1, pm_e_cti, pm_e_ctl, pm_e_ctr, pm_e_go, pm_e_i, pm_e_ii, pm_e_ldi, pm_e_ldr, pm_e_lk, pm_e_r, pm_e_ri, pm_e_rii, pm_e_rm0, pm_e_rm1, pm_e_rs0, pm_e_rs1, pm_e_v1, pm_e_v2, pm_e_v3, pm_e_wp0, pm_e_wp1, pm_f2, pm_f3, pm_fld, pm_fv, pm_obj, pm_recv, pm_s_aload_n, pm_s_baload, pm_s_bastore, pm_s_bipush, pm_s_dup, pm_s_dup2, pm_s_dup_x1, pm_s_dup_x2, pm_s_getfield, pm_s_iadd, pm_s_iaload, pm_s_iastore, pm_s_iconst, pm_s_ifCond_eq, pm_s_ifCond_ne, pm_s_iload, pm_s_iload_n, pm_s_imul, pm_s_invokestatic, pm_s_ireturn, pm_s_istore, pm_s_isub, pm_s_putfield, ct_X7_lay, tt_X7_in, pS, pR, pC, pE, pL, -Int32.not_le, -Int32.not_lt, -Int64.not_le, -Int64.not_lt, -List.getD_eq_getElem?_getD, lv_args, sy_0, pb_eq0, m0, m1, m2]
    refine ⟨fun h => bad (by rw [show wi x (nI 0) (nI (pC (aP A)) - nI 1) = false from h]; rfl), fun h => ⟨fun h2 => bad (by rw [show wi y (nI 0) (nI (pS (aP A)) - nI 1) = false from h2]; simp), fun h2 => ⟨fun h3 => good ?_, fun h3 => bad (by rw [show wi z (nI 1) (nI (pR (aP A))) = false from h3]; simp)⟩⟩⟩
    exact Bool.and_eq_true_iff.mpr ⟨h, Bool.and_eq_true_iff.mpr ⟨h2, h3⟩⟩
  · exact hT.elim
