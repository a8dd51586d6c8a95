/-! MOVES OF A STAND -/
def aTake (S : St) (a : Nat) : St := if a < 4 then aPop S a else (S.1, up S.2.1 (a - 4) 0, S.2.2)
/-- the card d comes to the place b -/
def aPut (P : Pm) (ec : Nat) (S : St) (b d : Nat) : St :=
  if b = 5 then (S.1, S.2.1, up S.2.2 (su (pR P) d) (S.2.2 (su (pR P) d) + 1))
  else if b = 4 then (S.1, if ffc ec S = 2 then S.2.1 else up S.2.1 (ffc ec S) d, S.2.2)
  else aPush S b d
def aMv (P : Pm) (ec : Nat) (S : St) (a b : Nat) : St := aPut P ec (aTake S a) b (cardF S a)
theorem SdX.setE {M : pm_M} {p ec : Nat} {S : St} (h : SdX M p ec S) {j d : Nat} (hj : j < 2) (hd : d ≤ 12) : SdX (pm_set M (p + 3) j (nI d)) p ec (S.1, up S.2.1 j d, S.2.2) := by
  obtain ⟨a, b, c, dd, e⟩ := h
  refine ⟨⟨a.1, fun i hi => ?_, a.2.2⟩, b, ?_, fun i hi => ?_, fun i hi => ?_⟩
  · by_cases q : i = j
    · subst q; simp only [up_s]; exact hd
    · simp only [up_n _ _ q]; exact a.2.1 i hi
  · simp only [me_1]; simpa using c
  · simp only [me_1, me_2]; simpa using dd i hi
  · by_cases q : i = j
    · subst q; simp [me_1, up_s]
    · simp [me_1, up_n _ _ q, q, e i hi]
theorem SdX.setH {M : pm_M} {p ec : Nat} {S : St} (h : SdX M p ec S) {j d : Nat} (hd : d ≤ 6) : SdX (pm_set M (p + 4) j (nI d)) p ec (S.1, S.2.1, up S.2.2 j d) := by
  obtain ⟨a, b, c, dd, e⟩ := h
  refine ⟨⟨a.1, a.2.1, fun i hi => ?_⟩, b, ?_, fun i hi => ?_, fun i hi => ?_⟩
  · by_cases q : i = j
    · subst q; simp only [up_s]; exact hd
    · simp only [up_n _ _ q]; exact a.2.2 i hi
  · simp only [me_1]; simpa using c
  · have := dd i hi
    by_cases q : i = j
    · subst q; simp [me_1, me_2, up_s, this]
    · simp [me_1, me_2, up_n _ _ q, q, this]
  · simp only [me_1]; simpa using e i hi
def tt_X4_fillFreeCell : pm_T := fun args M k => match args with
  | [.ref p, .int x] => ∃ ec S d, isSt p ∧ x = nI d ∧ SdX M p ec S ∧ d ≤ 12 ∧ ∀ M', SdX M' p ec (S.1, if ffc ec S = 2 then S.2.1 else up S.2.1 (ffc ec S) d, S.2.2) → pm_fr (stF p) M M' → k none M'
  | _ => False
theorem ffc_3 (ec : Nat) (S : St) : ffc ec S = 0 ∨ ffc ec S = 1 ∨ ffc ec S = 2 := by unfold ffc; split <;> (try split) <;> simp
abbrev ct_X4_fillFreeCell : List pm_C := [(false, 86, 4, 1, (some .int), tt_X4_firstFreeCell)]
set_option maxHeartbeats 4000000 in
theorem sm_X4_fillFreeCell  : pm_Sem SHx yX4_fillFreeCell cX4_fillFreeCell 3 none 2 tt_X4_fillFreeCell := by
  refine pm_Sem_intro bl_X4_fillFreeCell ct_X4_fillFreeCell cs_X4_fillFreeCell rfl (List.forall_mem_cons.mpr ⟨⟨_, _, _, _, sm_X4_firstFreeCell, by decide, cm_X4_firstFreeCell, by decide +kernel⟩, fun _ h => absurd h List.not_mem_nil⟩) ck_X4_fillFreeCell (by decide +kernel) (by decide) ?_
  intro X k hX args M hT
  have hb0 := hX 0 bk_X4_fillFreeCell_0 (List.mem_of_getElem? (i := 0) rfl)
  have hb17 := hX 17 bk_X4_fillFreeCell_17 (List.mem_of_getElem? (i := 1) rfl)
  clear hX
  unfold tt_X4_fillFreeCell at hT; split at hT
  · next p x =>
    obtain ⟨ec, S, d, hp, rfl, hS, hd, hT⟩ := hT
    refine ⟨by simp [lg_sl, Value.category], ?_⟩
    refine hb0 _ _ _ ?_
    simp (maxSteps := 2000000) [bk_X4_fillFreeCell_0, bk_X4_fillFreeCell_17, pm_arr, pm_call, pm_e_c0, pm_e_c1, pm_e_cti, pm_e_ctl, pm_e_ctr, pm_e_go, pm_e_i, pm_e_ii, pm_e_ldi, pm_e_ldr, pm_e_lk, pm_e_r, pm_e_rii, pm_e_rm0, pm_e_rm1, pm_e_rs0, pm_e_rs1, pm_e_wp0, pm_e_wp1, pm_f2, pm_f3, pm_fld, pm_fv, pm_obj, pm_recv, pm_s_aload_n, pm_s_getfield, pm_s_iastore, pm_s_iconst, pm_s_if_icmp_eq, pm_s_iload_n, pm_s_invokevirtual, pm_s_istore_n, pm_s_return, ct_X4_fillFreeCell, pS, pR, pC, pE, pL, -Int32.not_le, -Int32.not_lt, -Int64.not_le, -Int64.not_lt, -List.getD_eq_getElem?_getD, lv_args, st_0 hp]
    refine ⟨ec, S, hp, hS, ?_⟩
    simp (maxSteps := 2000000) [bk_X4_fillFreeCell_0, bk_X4_fillFreeCell_17, pm_arr, pm_call, pm_e_c0, pm_e_c1, pm_e_cti, pm_e_ctl, pm_e_ctr, pm_e_go, pm_e_i, pm_e_ii, pm_e_ldi, pm_e_ldr, pm_e_lk, pm_e_r, pm_e_rii, pm_e_rm0, pm_e_rm1, pm_e_rs0, pm_e_rs1, pm_e_wp0, pm_e_wp1, pm_f2, pm_f3, pm_fld, pm_fv, pm_obj, pm_recv, pm_s_aload_n, pm_s_getfield, pm_s_iastore, pm_s_iconst, pm_s_if_icmp_eq, pm_s_iload_n, pm_s_invokevirtual, pm_s_istore_n, pm_s_return, ct_X4_fillFreeCell, pS, pR, pC, pE, pL, -Int32.not_le, -Int32.not_lt, -Int64.not_le, -Int64.not_lt, -List.getD_eq_getElem?_getD, st_0 hp, st_3 hp]
    have h17 : ∀ M', SdX M' p ec (S.1, if ffc ec S = 2 then S.2.1 else up S.2.1 (ffc ec S) d, S.2.2) → pm_fr (stF p) M M' → X 17 [] [] M' := by
      intro M' h1 h2
      refine hb17 _ _ _ ?_
      simp (maxSteps := 2000000) [bk_X4_fillFreeCell_0, bk_X4_fillFreeCell_17, pm_arr, pm_call, pm_e_c0, pm_e_c1, pm_e_cti, pm_e_ctl, pm_e_ctr, pm_e_go, pm_e_i, pm_e_ii, pm_e_ldi, pm_e_ldr, pm_e_lk, pm_e_r, pm_e_rii, pm_e_rm0, pm_e_rm1, pm_e_rs0, pm_e_rs1, pm_e_wp0, pm_e_wp1, pm_f2, pm_f3, pm_fld, pm_fv, pm_obj, pm_recv, pm_s_aload_n, pm_s_getfield, pm_s_iastore, pm_s_iconst, pm_s_if_icmp_eq, pm_s_iload_n, pm_s_invokevirtual, pm_s_istore_n, pm_s_return, ct_X4_fillFreeCell, pS, pR, pC, pE, pL, -Int32.not_le, -Int32.not_lt, -Int64.not_le, -Int64.not_lt, -List.getD_eq_getElem?_getD]
      exact hT M' h1 h2
    rcases ffc_3 ec S with e | e | e <;> rw [e] at h17 ⊢
    · refine ⟨fun h => absurd h (by decide), fun _ => ⟨by simp only [vp_in, ffI]; decide, ?_⟩⟩
      exact h17 _ (hS.setE (by decide) hd) (pm_fr.rfl.set (by simp))
    · refine ⟨fun h => absurd h (by decide), fun _ => ⟨by simp only [vp_in, ffI]; decide, ?_⟩⟩
      exact h17 _ (hS.setE (by decide) hd) (pm_fr.rfl.set (by simp))
    · refine ⟨fun _ => h17 M hS pm_fr.rfl, fun h => absurd rfl h⟩
  · exact hT.elim
def tt_X4_emptyCellOf : pm_T := fun args M k => match args with
  | [.ref p, .int x] => ∃ ec S d, isSt p ∧ x = nI d ∧ SdX M p ec S ∧ d ≤ 12 ∧ ∀ M' T, (∀ j, j < 2 → T j = if S.2.1 j = d then 0 else S.2.1 j) → SdX M' p ec (S.1, T, S.2.2) → pm_fr (stF p) M M' → k none M'
  | _ => False
abbrev ct_X4_emptyCellOf : List pm_C := []
set_option maxHeartbeats 4000000 in
theorem sm_X4_emptyCellOf  : pm_Sem SHx yX4_emptyCellOf cX4_emptyCellOf 3 none 1 tt_X4_emptyCellOf := by
  refine pm_Sem_intro bl_X4_emptyCellOf ct_X4_emptyCellOf cs_X4_emptyCellOf rfl (fun _ h => absurd h List.not_mem_nil) ck_X4_emptyCellOf (by decide +kernel) (by decide) ?_
  intro X k hX args M hT
  have hb0 := hX 0 bk_X4_emptyCellOf_0 (List.mem_of_getElem? (i := 0) rfl)
  have hb2 := hX 2 bk_X4_emptyCellOf_2 (List.mem_of_getElem? (i := 1) rfl)
  have hb24 := hX 24 bk_X4_emptyCellOf_24 (List.mem_of_getElem? (i := 2) rfl)
  have hb30 := hX 30 bk_X4_emptyCellOf_30 (List.mem_of_getElem? (i := 3) rfl)
  clear hX
  unfold tt_X4_emptyCellOf at hT; split at hT
  · next p x =>
    obtain ⟨ec, S, d, hp, rfl, hS, hd, hT⟩ := hT
    refine ⟨by simp [lg_sl, Value.category], ?_⟩
    have e2 : ∀ M' T, (∀ j, j < 2 → T j = if S.2.1 j = d then 0 else S.2.1 j) → SdX M' p ec (S.1, T, S.2.2) → pm_fr (stF p) M M' → X 2 [(0, .ref p), (1, .int (nI d)), (2, .int (nI 2))] [] M' := by
      intro M' T h0 h1 h2
      refine hb2 _ _ _ ?_
      simp (maxSteps := 2000000) [bk_X4_emptyCellOf_0, bk_X4_emptyCellOf_2, bk_X4_emptyCellOf_24, bk_X4_emptyCellOf_30, pm_arr, pm_e_c0, pm_e_c1, pm_e_cti, pm_e_ctl, pm_e_ctr, pm_e_go, pm_e_i, pm_e_ii, pm_e_ldi, pm_e_ldr, pm_e_lk, pm_e_r, pm_e_ri, pm_e_rii, pm_e_rm0, pm_e_rm1, pm_e_rs0, pm_e_rs1, pm_e_wp0, pm_e_wp1, pm_f2, pm_f3, pm_fld, pm_fv, pm_obj, pm_s_aload_n, pm_s_getfield, pm_s_goto, pm_s_iaload, pm_s_iastore, pm_s_iconst, pm_s_if_icmp_ge, pm_s_if_icmp_ne, pm_s_iinc, pm_s_iload_n, pm_s_istore_n, pm_s_return, ct_X4_emptyCellOf, pS, pR, pC, pE, pL, -Int32.not_le, -Int32.not_lt, -Int64.not_le, -Int64.not_lt, -List.getD_eq_getElem?_getD]
      refine hb30 _ _ _ ?_
      simp (maxSteps := 2000000) [bk_X4_emptyCellOf_0, bk_X4_emptyCellOf_2, bk_X4_emptyCellOf_24, bk_X4_emptyCellOf_30, pm_arr, pm_e_c0, pm_e_c1, pm_e_cti, pm_e_ctl, pm_e_ctr, pm_e_go, pm_e_i, pm_e_ii, pm_e_ldi, pm_e_ldr, pm_e_lk, pm_e_r, pm_e_ri, pm_e_rii, pm_e_rm0, pm_e_rm1, pm_e_rs0, pm_e_rs1, pm_e_wp0, pm_e_wp1, pm_f2, pm_f3, pm_fld, pm_fv, pm_obj, pm_s_aload_n, pm_s_getfield, pm_s_goto, pm_s_iaload, pm_s_iastore, pm_s_iconst, pm_s_if_icmp_ge, pm_s_if_icmp_ne, pm_s_iinc, pm_s_iload_n, pm_s_istore_n, pm_s_return, ct_X4_emptyCellOf, pS, pR, pC, pE, pL, -Int32.not_le, -Int32.not_lt, -Int64.not_le, -Int64.not_lt, -List.getD_eq_getElem?_getD]
      exact hT M' T h0 h1 h2
    have e1 : ∀ M' T, (T 0 = if S.2.1 0 = d then 0 else S.2.1 0) → T 1 = S.2.1 1 → SdX M' p ec (S.1, T, S.2.2) → pm_fr (stF p) M M' → X 2 [(0, .ref p), (1, .int (nI d)), (2, .int (nI 1))] [] M' := by
      intro M' T h0 h1 hS' hf
      have b1 : T 1 ≤ 12 := hS'.1.2.1 1 (by decide)
      refine hb2 _ _ _ ?_
      simp (maxSteps := 2000000) [bk_X4_emptyCellOf_0, bk_X4_emptyCellOf_2, bk_X4_emptyCellOf_24, bk_X4_emptyCellOf_30, pm_arr, pm_e_c0, pm_e_c1, pm_e_cti, pm_e_ctl, pm_e_ctr, pm_e_go, pm_e_i, pm_e_ii, pm_e_ldi, pm_e_ldr, pm_e_lk, pm_e_r, pm_e_ri, pm_e_rii, pm_e_rm0, pm_e_rm1, pm_e_rs0, pm_e_rs1, pm_e_wp0, pm_e_wp1, pm_f2, pm_f3, pm_fld, pm_fv, pm_obj, pm_s_aload_n, pm_s_getfield, pm_s_goto, pm_s_iaload, pm_s_iastore, pm_s_iconst, pm_s_if_icmp_ge, pm_s_if_icmp_ne, pm_s_iinc, pm_s_iload_n, pm_s_istore_n, pm_s_return, ct_X4_emptyCellOf, pS, pR, pC, pE, pL, -Int32.not_le, -Int32.not_lt, -Int64.not_le, -Int64.not_lt, -List.getD_eq_getElem?_getD, st_0 hp, st_3 hp]
      simp (disch := omega) only [ni_in, ni_cl, ni_add, ni_mul, ni_sub, ni_lt, ni_le, ni_eq, ni_eq0, ni_lt0, ni_0le, ni_0lt, ni_le0, ni_a1, ni_a3, ni_a7, ni_a15, hS'.e (show 1 < 2 by decide)]
      have h24 : ∀ M' T, (∀ j, j < 2 → T j = if S.2.1 j = d then 0 else S.2.1 j) → SdX M' p ec (S.1, T, S.2.2) → pm_fr (stF p) M M' → X 24 [(0, .ref p), (1, .int (nI d)), (2, .int (nI 1))] [] M' := by
        intro M' T h0 h1 h2
        refine hb24 _ _ _ ?_
        simp (maxSteps := 2000000) [bk_X4_emptyCellOf_0, bk_X4_emptyCellOf_2, bk_X4_emptyCellOf_24, bk_X4_emptyCellOf_30, pm_arr, pm_e_c0, pm_e_c1, pm_e_cti, pm_e_ctl, pm_e_ctr, pm_e_go, pm_e_i, pm_e_ii, pm_e_ldi, pm_e_ldr, pm_e_lk, pm_e_r, pm_e_ri, pm_e_rii, pm_e_rm0, pm_e_rm1, pm_e_rs0, pm_e_rs1, pm_e_wp0, pm_e_wp1, pm_f2, pm_f3, pm_fld, pm_fv, pm_obj, pm_s_aload_n, pm_s_getfield, pm_s_goto, pm_s_iaload, pm_s_iastore, pm_s_iconst, pm_s_if_icmp_ge, pm_s_if_icmp_ne, pm_s_iinc, pm_s_iload_n, pm_s_istore_n, pm_s_return, ct_X4_emptyCellOf, pS, pR, pC, pE, pL, -Int32.not_le, -Int32.not_lt, -Int64.not_le, -Int64.not_lt, -List.getD_eq_getElem?_getD]
        rw [ni_add]
        exact e2 M' T h0 h1 h2
      refine ⟨fun h => by omega, fun _ => ⟨by omega, fun h => ?_, fun h => ?_⟩⟩
      · refine h24 M' T (fun j hj => ?_) hS' hf
        rcases (show j = 0 ∨ j = 1 by omega) with rfl | rfl
        · exact h0
        · rw [h1, if_neg (by rw [← h1]; exact h)]
      · repeat refine ⟨by omega, ?_⟩
        refine h24 _ (up T 1 0) (fun j hj => ?_) (hS'.setE (j := 1) (d := 0) (by decide) (by decide)) (hf.set (by simp))
        rcases (show j = 0 ∨ j = 1 by omega) with rfl | rfl
        · rw [up_n _ _ (by decide)]; exact h0
        · rw [up_s, if_pos (by rw [← h1]; exact h)]
    refine hb0 _ _ _ ?_
    simp (maxSteps := 2000000) [bk_X4_emptyCellOf_0, bk_X4_emptyCellOf_2, bk_X4_emptyCellOf_24, bk_X4_emptyCellOf_30, pm_arr, pm_e_c0, pm_e_c1, pm_e_cti, pm_e_ctl, pm_e_ctr, pm_e_go, pm_e_i, pm_e_ii, pm_e_ldi, pm_e_ldr, pm_e_lk, pm_e_r, pm_e_ri, pm_e_rii, pm_e_rm0, pm_e_rm1, pm_e_rs0, pm_e_rs1, pm_e_wp0, pm_e_wp1, pm_f2, pm_f3, pm_fld, pm_fv, pm_obj, pm_s_aload_n, pm_s_getfield, pm_s_goto, pm_s_iaload, pm_s_iastore, pm_s_iconst, pm_s_if_icmp_ge, pm_s_if_icmp_ne, pm_s_iinc, pm_s_iload_n, pm_s_istore_n, pm_s_return, ct_X4_emptyCellOf, pS, pR, pC, pE, pL, -Int32.not_le, -Int32.not_lt, -Int64.not_le, -Int64.not_lt, -List.getD_eq_getElem?_getD, lv_args]
    refine hb2 _ _ _ ?_
    have b0 := hS.1.2.1 0 (by decide)
    simp (maxSteps := 2000000) [bk_X4_emptyCellOf_0, bk_X4_emptyCellOf_2, bk_X4_emptyCellOf_24, bk_X4_emptyCellOf_30, pm_arr, pm_e_c0, pm_e_c1, pm_e_cti, pm_e_ctl, pm_e_ctr, pm_e_go, pm_e_i, pm_e_ii, pm_e_ldi, pm_e_ldr, pm_e_lk, pm_e_r, pm_e_ri, pm_e_rii, pm_e_rm0, pm_e_rm1, pm_e_rs0, pm_e_rs1, pm_e_wp0, pm_e_wp1, pm_f2, pm_f3, pm_fld, pm_fv, pm_obj, pm_s_aload_n, pm_s_getfield, pm_s_goto, pm_s_iaload, pm_s_iastore, pm_s_iconst, pm_s_if_icmp_ge, pm_s_if_icmp_ne, pm_s_iinc, pm_s_iload_n, pm_s_istore_n, pm_s_return, ct_X4_emptyCellOf, pS, pR, pC, pE, pL, -Int32.not_le, -Int32.not_lt, -Int64.not_le, -Int64.not_lt, -List.getD_eq_getElem?_getD, st_0 hp, st_3 hp]
    simp (disch := omega) only [ni_in, ni_cl, ni_add, ni_mul, ni_sub, ni_lt, ni_le, ni_eq, ni_eq0, ni_lt0, ni_0le, ni_0lt, ni_le0, ni_a1, ni_a3, ni_a7, ni_a15, hS.e (show 0 < 2 by decide)]
    have h24 : ∀ M' T, (T 0 = if S.2.1 0 = d then 0 else S.2.1 0) → T 1 = S.2.1 1 → SdX M' p ec (S.1, T, S.2.2) → pm_fr (stF p) M M' → X 24 [(0, .ref p), (1, .int (nI d)), (2, .int (nI 0))] [] M' := by
      intro M' T h0 h1 h2 h3
      refine hb24 _ _ _ ?_
      simp (maxSteps := 2000000) [bk_X4_emptyCellOf_0, bk_X4_emptyCellOf_2, bk_X4_emptyCellOf_24, bk_X4_emptyCellOf_30, pm_arr, pm_e_c0, pm_e_c1, pm_e_cti, pm_e_ctl, pm_e_ctr, pm_e_go, pm_e_i, pm_e_ii, pm_e_ldi, pm_e_ldr, pm_e_lk, pm_e_r, pm_e_ri, pm_e_rii, pm_e_rm0, pm_e_rm1, pm_e_rs0, pm_e_rs1, pm_e_wp0, pm_e_wp1, pm_f2, pm_f3, pm_fld, pm_fv, pm_obj, pm_s_aload_n, pm_s_getfield, pm_s_goto, pm_s_iaload, pm_s_iastore, pm_s_iconst, pm_s_if_icmp_ge, pm_s_if_icmp_ne, pm_s_iinc, pm_s_iload_n, pm_s_istore_n, pm_s_return, ct_X4_emptyCellOf, pS, pR, pC, pE, pL, -Int32.not_le, -Int32.not_lt, -Int64.not_le, -Int64.not_lt, -List.getD_eq_getElem?_getD]
      rw [ni_add]
      exact e1 M' T h0 h1 h2 h3
    refine ⟨fun h => by omega, fun _ => ⟨by omega, fun h => ?_, fun h => ?_⟩⟩
    · exact h24 M S.2.1 (by rw [if_neg h]) rfl hS pm_fr.rfl
    · repeat refine ⟨by omega, ?_⟩
      exact h24 _ _ (by rw [up_s, if_pos h]) (up_n _ _ (by decide)) (hS.setE (d := 0) (by decide) (by decide)) (pm_fr.rfl.set (by simp))
  · exact hT.elim
theorem aTake_h (S : St) (a : Nat) : (aTake S a).2.2 = S.2.2 := by unfold aTake; split <;> rfl
theorem aTake_c {S : St} {a b : Nat} (h : b ≠ a) : (aTake S a).1 b = S.1 b := by
  unfold aTake; split
  · simp [aPop, up_n _ _ h]
  · rfl
def tt_X4_shift : pm_T := fun args M k => match args with
  | [.ref p, .int x, .int y] => ∃ ec S P a b, isSt p ∧ x = nI a ∧ y = nI b ∧ SdX M p ec S ∧ DkX M P ∧ inD P S ∧ a < 6 ∧ b < 6 ∧ (b < 4 → a ≠ b) ∧ cardF S a ≠ 0 ∧ (b = 5 → S.2.2 (su (pR P) (cardF S a)) < 6) ∧ (b < 4 → (S.1 b).length < 12) ∧ ∀ M', SdX M' p ec (aMv P ec S a b) → pm_fr (stF p) M M' → k (some (.int (nI (cardF S a)))) M'
  | _ => False
theorem DkX.moved {M M' : pm_M} {P : Pm} {ps : List Nat} (h : DkX M P) (hf : pm_fr ps M M') (hp : ∀ q ∈ [1, 2, 3, 4], q ∉ ps) : DkX M' P := by
  obtain ⟨⟨a, b, c⟩, d⟩ := h
  have e1 := fun j => hf.i (hp 1 (by simp)) j
  have e2 := fun j => hf.i (hp 2 (by simp)) j
  have e3 := fun j => hf.i (hp 3 (by simp)) j
  have e4 := fun j => hf.i (hp 4 (by simp)) j
  refine ⟨⟨a, ?_, fun n h1 h2 => ?_⟩, fun n h1 h2 o h3 => ?_⟩
  · simp only [e1]; exact b
  · simp only [e2, e3]; exact c n h1 h2
  · simp only [e4]; exact d n h1 h2 o h3
theorem st_dk {p : Nat} (h : isSt p) : ∀ q ∈ [1, 2, 3, 4], q ∉ stF p := by
  rcases h with rfl | rfl <;> decide
abbrev ct_X4_shift : List pm_C := [(false, 83, 4, 2, (some .int), tt_X4_cardFrom), (false, 102, 4, 2, none, tt_X4_pop), (false, 106, 4, 2, none, tt_X4_fillFreeCell), (false, 109, 4, 3, none, tt_X4_push)]
set_option maxHeartbeats 4000000 in
theorem sm_X4_shift  : pm_Sem SHx yX4_shift cX4_shift 4 (some .int) 3 tt_X4_shift := by
  refine pm_Sem_intro bl_X4_shift ct_X4_shift cs_X4_shift rfl (List.forall_mem_cons.mpr ⟨⟨_, _, _, _, sm_X4_cardFrom, by decide, cm_X4_cardFrom, by decide +kernel⟩, List.forall_mem_cons.mpr ⟨⟨_, _, _, _, sm_X4_pop, by decide, cm_X4_pop, by decide +kernel⟩, List.forall_mem_cons.mpr ⟨⟨_, _, _, _, sm_X4_fillFreeCell, by decide, cm_X4_fillFreeCell, by decide +kernel⟩, List.forall_mem_cons.mpr ⟨⟨_, _, _, _, sm_X4_push, by decide, cm_X4_push, by decide +kernel⟩, fun _ h => absurd h List.not_mem_nil⟩⟩⟩⟩) ck_X4_shift (by decide +kernel) (by decide) ?_
  intro X k hX args M hT
  have hb0 := hX 0 bk_X4_shift_0 (List.mem_of_getElem? (i := 0) rfl)
  have hb19 := hX 19 bk_X4_shift_19 (List.mem_of_getElem? (i := 1) rfl)
  have hb28 := hX 28 bk_X4_shift_28 (List.mem_of_getElem? (i := 2) rfl)
  have hb54 := hX 54 bk_X4_shift_54 (List.mem_of_getElem? (i := 3) rfl)
  have hb67 := hX 67 bk_X4_shift_67 (List.mem_of_getElem? (i := 4) rfl)
  have hb73 := hX 73 bk_X4_shift_73 (List.mem_of_getElem? (i := 5) rfl)
  clear hX
  unfold tt_X4_shift at hT; split at hT
  · next p x y =>
    obtain ⟨ec, S, P, a, b, hp, rfl, rfl, hS, hD, hI, ha, hb, hab, hc0, hh, hl, hT⟩ := hT
    have hP := hD.1.1
    obtain ⟨h1, h2, h3, h4, h5, h6, h7, h8, h9⟩ := hP
    have hcl := cardF_le hI ha
    generalize hcd : cardF S a = d at *
    have un := su_lt h3 (show 1 ≤ d by omega) hcl
    have b12 : d ≤ 12 := by omega
    refine ⟨by simp [lg_sl, Value.category], ?_⟩
    have h73 : ∀ M', SdX M' p ec (aMv P ec S a b) → pm_fr (stF p) M M' → X 73 [(3, .int (nI d))] [] M' := by
      intro M' q1 q2
      refine hb73 _ _ _ ?_
      simp (maxSteps := 2000000) [bk_X4_shift_0, bk_X4_shift_19, bk_X4_shift_28, bk_X4_shift_54, bk_X4_shift_67, bk_X4_shift_73, pm_arr, pm_call, pm_e_c0, pm_e_c1, pm_e_cti, pm_e_ctl, pm_e_ctr, pm_e_go, pm_e_i, pm_e_ii, pm_e_ldi, pm_e_ldr, pm_e_lk, pm_e_r, pm_e_ri, pm_e_rii, pm_e_rm0, pm_e_rm1, pm_e_rs0, pm_e_rs1, pm_e_v2, pm_e_wp0, pm_e_wp1, pm_f2, pm_f3, pm_fld, pm_fv, pm_obj, pm_recv, pm_s_aload_n, pm_s_dup2, pm_s_getfield, pm_s_goto, pm_s_iadd, pm_s_iaload, pm_s_iastore, pm_s_iconst, pm_s_if_icmp_ge, pm_s_if_icmp_ne, pm_s_iload_n, pm_s_invokevirtual, pm_s_ireturn, pm_s_istore_n, pm_s_isub, ct_X4_shift, pS, pR, pC, pE, pL, -Int32.not_le, -Int32.not_lt, -Int64.not_le, -Int64.not_lt, -List.getD_eq_getElem?_getD]
      exact hT M' q1 q2
    have h28 : ∀ M', SdX M' p ec (aTake S a) → pm_fr (stF p) M M' → X 28 [(0, .ref p), (2, .int (nI b)), (3, .int (nI d))] [] M' := by
      intro M' q1 q2
      have hD' := hD.moved q2 (st_dk hp)
      have mn := hD'.1.2.2 d (by omega) hcl
      refine hb28 _ _ _ ?_
      simp (maxSteps := 2000000) [bk_X4_shift_0, bk_X4_shift_19, bk_X4_shift_28, bk_X4_shift_54, bk_X4_shift_67, bk_X4_shift_73, pm_arr, pm_call, pm_e_c0, pm_e_c1, pm_e_cti, pm_e_ctl, pm_e_ctr, pm_e_go, pm_e_i, pm_e_ii, pm_e_ldi, pm_e_ldr, pm_e_lk, pm_e_r, pm_e_ri, pm_e_rii, pm_e_rm0, pm_e_rm1, pm_e_rs0, pm_e_rs1, pm_e_v2, pm_e_wp0, pm_e_wp1, pm_f2, pm_f3, pm_fld, pm_fv, pm_obj, pm_recv, pm_s_aload_n, pm_s_dup2, pm_s_getfield, pm_s_goto, pm_s_iadd, pm_s_iaload, pm_s_iastore, pm_s_iconst, pm_s_if_icmp_ge, pm_s_if_icmp_ne, pm_s_iload_n, pm_s_invokevirtual, pm_s_ireturn, pm_s_istore_n, pm_s_isub, ct_X4_shift, pS, pR, pC, pE, pL, -Int32.not_le, -Int32.not_lt, -Int64.not_le, -Int64.not_lt, -List.getD_eq_getElem?_getD, st_0 hp, st_4 hp, sx_1, sx_2]
      have hhs : (aTake S a).2.2 (su P.2.1 d) ≤ 6 := q1.1.2.2 _ (by dsimp only [pS, pR] at *; omega)
      simp (disch := omega) only [ni_in, ni_cl, ni_add, ni_mul, ni_sub, ni_lt, ni_le, ni_eq, ni_eq0, ni_lt0, ni_0le, ni_0lt, ni_le0, ni_a1, ni_a3, ni_a7, ni_a15, mn.1, q1.h (show su (pR P) d < 4 by omega)]
      refine ⟨fun hb5 => ?_, fun hb5 => ?_⟩
      · refine hb54 _ _ _ ?_
        simp (maxSteps := 2000000) [bk_X4_shift_0, bk_X4_shift_19, bk_X4_shift_28, bk_X4_shift_54, bk_X4_shift_67, bk_X4_shift_73, pm_arr, pm_call, pm_e_c0, pm_e_c1, pm_e_cti, pm_e_ctl, pm_e_ctr, pm_e_go, pm_e_i, pm_e_ii, pm_e_ldi, pm_e_ldr, pm_e_lk, pm_e_r, pm_e_ri, pm_e_rii, pm_e_rm0, pm_e_rm1, pm_e_rs0, pm_e_rs1, pm_e_v2, pm_e_wp0, pm_e_wp1, pm_f2, pm_f3, pm_fld, pm_fv, pm_obj, pm_recv, pm_s_aload_n, pm_s_dup2, pm_s_getfield, pm_s_goto, pm_s_iadd, pm_s_iaload, pm_s_iastore, pm_s_iconst, pm_s_if_icmp_ge, pm_s_if_icmp_ne, pm_s_iload_n, pm_s_invokevirtual, pm_s_ireturn, pm_s_istore_n, pm_s_isub, ct_X4_shift, pS, pR, pC, pE, pL, -Int32.not_le, -Int32.not_lt, -Int64.not_le, -Int64.not_lt, -List.getD_eq_getElem?_getD, st_0 hp]
        simp (disch := omega) only [ni_in, ni_cl, ni_add, ni_mul, ni_sub, ni_lt, ni_le, ni_eq, ni_eq0, ni_lt0, ni_0le, ni_0lt, ni_le0, ni_a1, ni_a3, ni_a7, ni_a15]
        refine ⟨fun hb4 => ?_, fun hb4 => ?_⟩
        · refine hb67 _ _ _ ?_
          simp (maxSteps := 2000000) [bk_X4_shift_0, bk_X4_shift_19, bk_X4_shift_28, bk_X4_shift_54, bk_X4_shift_67, bk_X4_shift_73, pm_arr, pm_call, pm_e_c0, pm_e_c1, pm_e_cti, pm_e_ctl, pm_e_ctr, pm_e_go, pm_e_i, pm_e_ii, pm_e_ldi, pm_e_ldr, pm_e_lk, pm_e_r, pm_e_ri, pm_e_rii, pm_e_rm0, pm_e_rm1, pm_e_rs0, pm_e_rs1, pm_e_v2, pm_e_wp0, pm_e_wp1, pm_f2, pm_f3, pm_fld, pm_fv, pm_obj, pm_recv, pm_s_aload_n, pm_s_dup2, pm_s_getfield, pm_s_goto, pm_s_iadd, pm_s_iaload, pm_s_iastore, pm_s_iconst, pm_s_if_icmp_ge, pm_s_if_icmp_ne, pm_s_iload_n, pm_s_invokevirtual, pm_s_ireturn, pm_s_istore_n, pm_s_isub, ct_X4_shift, pS, pR, pC, pE, pL, -Int32.not_le, -Int32.not_lt, -Int64.not_le, -Int64.not_lt, -List.getD_eq_getElem?_getD, st_0 hp]
          refine ⟨ec, aTake S a, b, d, hp, rfl, rfl, q1, by omega, ⟨by omega, b12⟩, by rw [aTake_c (fun e => hab (by omega) e.symm)]; exact hl (by omega), fun M'' r1 r2 => ?_⟩
          simp (maxSteps := 2000000) [bk_X4_shift_0, bk_X4_shift_19, bk_X4_shift_28, bk_X4_shift_54, bk_X4_shift_67, bk_X4_shift_73, pm_arr, pm_call, pm_e_c0, pm_e_c1, pm_e_cti, pm_e_ctl, pm_e_ctr, pm_e_go, pm_e_i, pm_e_ii, pm_e_ldi, pm_e_ldr, pm_e_lk, pm_e_r, pm_e_ri, pm_e_rii, pm_e_rm0, pm_e_rm1, pm_e_rs0, pm_e_rs1, pm_e_v2, pm_e_wp0, pm_e_wp1, pm_f2, pm_f3, pm_fld, pm_fv, pm_obj, pm_recv, pm_s_aload_n, pm_s_dup2, pm_s_getfield, pm_s_goto, pm_s_iadd, pm_s_iaload, pm_s_iastore, pm_s_iconst, pm_s_if_icmp_ge, pm_s_if_icmp_ne, pm_s_iload_n, pm_s_invokevirtual, pm_s_ireturn, pm_s_istore_n, pm_s_isub, ct_X4_shift, pS, pR, pC, pE, pL, -Int32.not_le, -Int32.not_lt, -Int64.not_le, -Int64.not_lt, -List.getD_eq_getElem?_getD]
          refine h73 M'' ?_ (q2.trans r2)
          simpa [aMv, aPut, hb5, hb4, hcd] using r1
        · refine ⟨ec, aTake S a, d, hp, rfl, q1, b12, fun M'' r1 r2 => ?_⟩
          simp (maxSteps := 2000000) [bk_X4_shift_0, bk_X4_shift_19, bk_X4_shift_28, bk_X4_shift_54, bk_X4_shift_67, bk_X4_shift_73, pm_arr, pm_call, pm_e_c0, pm_e_c1, pm_e_cti, pm_e_ctl, pm_e_ctr, pm_e_go, pm_e_i, pm_e_ii, pm_e_ldi, pm_e_ldr, pm_e_lk, pm_e_r, pm_e_ri, pm_e_rii, pm_e_rm0, pm_e_rm1, pm_e_rs0, pm_e_rs1, pm_e_v2, pm_e_wp0, pm_e_wp1, pm_f2, pm_f3, pm_fld, pm_fv, pm_obj, pm_recv, pm_s_aload_n, pm_s_dup2, pm_s_getfield, pm_s_goto, pm_s_iadd, pm_s_iaload, pm_s_iastore, pm_s_iconst, pm_s_if_icmp_ge, pm_s_if_icmp_ne, pm_s_iload_n, pm_s_invokevirtual, pm_s_ireturn, pm_s_istore_n, pm_s_isub, ct_X4_shift, pS, pR, pC, pE, pL, -Int32.not_le, -Int32.not_lt, -Int64.not_le, -Int64.not_lt, -List.getD_eq_getElem?_getD]
          refine h73 M'' ?_ (q2.trans r2)
          simpa [aMv, aPut, hb5, hb4, hcd] using r1
      · repeat refine ⟨by omega, ?_⟩
        refine h73 _ ?_ (q2.set (by simp))
        have := q1.setH (j := su (pR P) d) (d := (aTake S a).2.2 (su (pR P) d) + 1) (by rw [aTake_h]; have := hh hb5; omega)
        simpa [aMv, aPut, hb5, hcd] using this
    refine hb0 _ _ _ ?_
    simp (maxSteps := 2000000) [bk_X4_shift_0, bk_X4_shift_19, bk_X4_shift_28, bk_X4_shift_54, bk_X4_shift_67, bk_X4_shift_73, pm_arr, pm_call, pm_e_c0, pm_e_c1, pm_e_cti, pm_e_ctl, pm_e_ctr, pm_e_go, pm_e_i, pm_e_ii, pm_e_ldi, pm_e_ldr, pm_e_lk, pm_e_r, pm_e_ri, pm_e_rii, pm_e_rm0, pm_e_rm1, pm_e_rs0, pm_e_rs1, pm_e_v2, pm_e_wp0, pm_e_wp1, pm_f2, pm_f3, pm_fld, pm_fv, pm_obj, pm_recv, pm_s_aload_n, pm_s_dup2, pm_s_getfield, pm_s_goto, pm_s_iadd, pm_s_iaload, pm_s_iastore, pm_s_iconst, pm_s_if_icmp_ge, pm_s_if_icmp_ne, pm_s_iload_n, pm_s_invokevirtual, pm_s_ireturn, pm_s_istore_n, pm_s_isub, ct_X4_shift, pS, pR, pC, pE, pL, -Int32.not_le, -Int32.not_lt, -Int64.not_le, -Int64.not_lt, -List.getD_eq_getElem?_getD, lv_args, st_0 hp]
    refine ⟨ec, S, a, hp, rfl, hS, ha, ?_⟩
    simp (maxSteps := 2000000) [bk_X4_shift_0, bk_X4_shift_19, bk_X4_shift_28, bk_X4_shift_54, bk_X4_shift_67, bk_X4_shift_73, pm_arr, pm_call, pm_e_c0, pm_e_c1, pm_e_cti, pm_e_ctl, pm_e_ctr, pm_e_go, pm_e_i, pm_e_ii, pm_e_ldi, pm_e_ldr, pm_e_lk, pm_e_r, pm_e_ri, pm_e_rii, pm_e_rm0, pm_e_rm1, pm_e_rs0, pm_e_rs1, pm_e_v2, pm_e_wp0, pm_e_wp1, pm_f2, pm_f3, pm_fld, pm_fv, pm_obj, pm_recv, pm_s_aload_n, pm_s_dup2, pm_s_getfield, pm_s_goto, pm_s_iadd, pm_s_iaload, pm_s_iastore, pm_s_iconst, pm_s_if_icmp_ge, pm_s_if_icmp_ne, pm_s_iload_n, pm_s_invokevirtual, pm_s_ireturn, pm_s_istore_n, pm_s_isub, ct_X4_shift, pS, pR, pC, pE, pL, -Int32.not_le, -Int32.not_lt, -Int64.not_le, -Int64.not_lt, -List.getD_eq_getElem?_getD, st_0 hp]
    simp (disch := omega) only [ni_in, ni_cl, ni_add, ni_mul, ni_sub, ni_lt, ni_le, ni_eq, ni_eq0, ni_lt0, ni_0le, ni_0lt, ni_le0, ni_a1, ni_a3, ni_a7, ni_a15, hcd]
    refine ⟨fun h => ?_, fun h => ⟨ec, S, a, hp, rfl, hS, by omega, ?_, fun M' r1 r2 => ?_⟩⟩
    · refine hb19 _ _ _ ?_
      simp (maxSteps := 2000000) [bk_X4_shift_0, bk_X4_shift_19, bk_X4_shift_28, bk_X4_shift_54, bk_X4_shift_67, bk_X4_shift_73, pm_arr, pm_call, pm_e_c0, pm_e_c1, pm_e_cti, pm_e_ctl, pm_e_ctr, pm_e_go, pm_e_i, pm_e_ii, pm_e_ldi, pm_e_ldr, pm_e_lk, pm_e_r, pm_e_ri, pm_e_rii, pm_e_rm0, pm_e_rm1, pm_e_rs0, pm_e_rs1, pm_e_v2, pm_e_wp0, pm_e_wp1, pm_f2, pm_f3, pm_fld, pm_fv, pm_obj, pm_recv, pm_s_aload_n, pm_s_dup2, pm_s_getfield, pm_s_goto, pm_s_iadd, pm_s_iaload, pm_s_iastore, pm_s_iconst, pm_s_if_icmp_ge, pm_s_if_icmp_ne, pm_s_iload_n, pm_s_invokevirtual, pm_s_ireturn, pm_s_istore_n, pm_s_isub, ct_X4_shift, pS, pR, pC, pE, pL, -Int32.not_le, -Int32.not_lt, -Int64.not_le, -Int64.not_lt, -List.getD_eq_getElem?_getD, st_0 hp, st_3 hp]
      simp (disch := omega) only [ni_in, ni_cl, ni_add, ni_mul, ni_sub, ni_lt, ni_le, ni_eq, ni_eq0, ni_lt0, ni_0le, ni_0lt, ni_le0, ni_a1, ni_a3, ni_a7, ni_a15]
      refine ⟨by omega, h28 _ ?_ (pm_fr.rfl.set (by simp))⟩
      have := hS.setE (j := a - 4) (d := 0) (by omega) (by decide)
      simpa [aTake, show ¬ a < 4 by omega] using this
    · intro e; apply hc0; rw [← hcd]; simp [cardF, show a < 4 by omega, e, lastC]
    · simp (maxSteps := 2000000) [bk_X4_shift_0, bk_X4_shift_19, bk_X4_shift_28, bk_X4_shift_54, bk_X4_shift_67, bk_X4_shift_73, pm_arr, pm_call, pm_e_c0, pm_e_c1, pm_e_cti, pm_e_ctl, pm_e_ctr, pm_e_go, pm_e_i, pm_e_ii, pm_e_ldi, pm_e_ldr, pm_e_lk, pm_e_r, pm_e_ri, pm_e_rii, pm_e_rm0, pm_e_rm1, pm_e_rs0, pm_e_rs1, pm_e_v2, pm_e_wp0, pm_e_wp1, pm_f2, pm_f3, pm_fld, pm_fv, pm_obj, pm_recv, pm_s_aload_n, pm_s_dup2, pm_s_getfield, pm_s_goto, pm_s_iadd, pm_s_iaload, pm_s_iastore, pm_s_iconst, pm_s_if_icmp_ge, pm_s_if_icmp_ne, pm_s_iload_n, pm_s_invokevirtual, pm_s_ireturn, pm_s_istore_n, pm_s_isub, ct_X4_shift, pS, pR, pC, pE, pL, -Int32.not_le, -Int32.not_lt, -Int64.not_le, -Int64.not_lt, -List.getD_eq_getElem?_getD]
      exact h28 M' (by simpa [aTake, show a < 4 by omega] using r1) r2
  · exact hT.elim
