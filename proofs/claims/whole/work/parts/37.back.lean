theorem up_up {α : Type} (f : Nat → α) (i : Nat) (v w : α) : up (up f i v) i w = up f i w := by funext j; by_cases h : j = i <;> simp [up, h]
theorem up_id {α : Type} (f : Nat → α) (i : Nat) : up f i (f i) = f := by funext j; by_cases h : j = i <;> simp [up, h]
theorem up_id2 {α : Type} (f : Nat → α) (i : Nat) {v : α} (h : v = f i) : up f i v = f := by rw [h, up_id]
theorem SdX.congr {M : pm_M} {p ec : Nat} {S S' : St} (h : SdX M p ec S) (h1 : ∀ i, i < 4 → S'.1 i = S.1 i) (h2 : ∀ j, j < 2 → S'.2.1 j = S.2.1 j) (h3 : ∀ i, i < 4 → S'.2.2 i = S.2.2 i) : SdX M p ec S' := by
  obtain ⟨a, b, c, dd, e⟩ := h
  refine ⟨⟨fun i hi => ?_, fun j hj => ?_, fun i hi => ?_⟩, b, c, fun i hi => ?_, fun j hj => ?_⟩
  · rw [h1 i hi]; exact a.1 i hi
  · rw [h2 j hj]; exact a.2.1 j hj
  · rw [h3 i hi]; exact a.2.2 i hi
  · rw [h1 i hi, h3 i hi]; exact dd i hi
  · rw [h2 j hj]; exact e j hj
theorem lastC_dl {l : List Nat} (h : l ≠ []) : l.dropLast ++ [lastC l] = l := by
  induction l using rev_ind with
  | nil => exact absurd rfl h
  | snoc l d ih => simp [lastC]
/-- what a move must be like to be taken back -/
def mvOk (P : Pm) (ec : Nat) (S : St) (a b : Nat) : Prop := a < 6 ∧ b < 6 ∧ (b < 4 → a ≠ b) ∧ cardF S a ≠ 0 ∧ (b = 5 → S.2.2 (su (pR P) (cardF S a)) < 6) ∧ (b < 4 → (S.1 b).length < 12) ∧ (b = 4 → a < 4 ∧ ffc ec S ≠ 2 ∧ ∀ j, j < 2 → S.2.1 j ≠ cardF S a)
theorem ffc_free {ec : Nat} {S : St} (h : ffc ec S ≠ 2) : ffc ec S < 2 ∧ S.2.1 (ffc ec S) = 0 := by
  unfold ffc at *
  split at h
  · next q => rw [if_pos q]; exact ⟨by decide, q.2⟩
  · next q =>
    rw [if_neg q]
    split at h
    · next q2 => rw [if_pos q2]; exact ⟨by decide, q2.2⟩
    · exact absurd rfl h
def tt_X4_shiftBack : pm_T := fun args M k => match args with
  | [.ref p, .int z, .int x, .int y] => ∃ ec S P a b, isSt p ∧ z = nI (cardF S a) ∧ x = nI a ∧ y = nI b ∧ SdX M p ec (aMv P ec S a b) ∧ DkX M P ∧ okS S ∧ inD P S ∧ mvOk P ec S a b ∧ ∀ M', SdX M' p ec S → pm_fr (stF p) M M' → k none M'
  | _ => False
abbrev ct_X4_shiftBack : List pm_C := [(false, 113, 4, 2, none, tt_X4_emptyCellOf), (false, 102, 4, 2, none, tt_X4_pop), (false, 109, 4, 3, none, tt_X4_push)]
set_option maxHeartbeats 4000000 in
theorem sm_X4_shiftBack  : pm_Sem SHx yX4_shiftBack cX4_shiftBack 4 none 2 tt_X4_shiftBack := by
  refine pm_Sem_intro bl_X4_shiftBack ct_X4_shiftBack cs_X4_shiftBack rfl (List.forall_mem_cons.mpr ⟨⟨_, _, _, _, sm_X4_emptyCellOf, by decide, cm_X4_emptyCellOf, by decide +kernel⟩, List.forall_mem_cons.mpr ⟨⟨_, _, _, _, sm_X4_pop, by decide, cm_X4_pop, by decide +kernel⟩, List.forall_mem_cons.mpr ⟨⟨_, _, _, _, sm_X4_push, by decide, cm_X4_push, by decide +kernel⟩, fun _ h => absurd h List.not_mem_nil⟩⟩⟩) ck_X4_shiftBack (by decide +kernel) (by decide) ?_
  intro X k hX args M hT
  have hb0 := hX 0 bk_X4_shiftBack_0 (List.mem_of_getElem? (i := 0) rfl)
  have hb26 := hX 26 bk_X4_shiftBack_26 (List.mem_of_getElem? (i := 1) rfl)
  have hb39 := hX 39 bk_X4_shiftBack_39 (List.mem_of_getElem? (i := 2) rfl)
  have hb44 := hX 44 bk_X4_shiftBack_44 (List.mem_of_getElem? (i := 3) rfl)
  have hb58 := hX 58 bk_X4_shiftBack_58 (List.mem_of_getElem? (i := 4) rfl)
  have hb67 := hX 67 bk_X4_shiftBack_67 (List.mem_of_getElem? (i := 5) rfl)
  clear hX
  unfold tt_X4_shiftBack at hT; split at hT
  · next p z x y =>
    obtain ⟨ec, S, P, a, b, hp, rfl, rfl, rfl, hS, hD, hO, hI, ⟨ha, hb, hab, hc0, hh, hl, h44⟩, hT⟩ := hT
    have hP := hD.1.1
    obtain ⟨h1, h2, h3, h4, h5, h6, h7, h8, h9⟩ := hP
    have hcl := cardF_le hI ha
    have mn := hD.1.2.2 (cardF S a) (by omega) hcl
    generalize hcd : cardF S a = d at *
    have un := su_lt h3 (show 1 ≤ d by omega) hcl
    have b12 : d ≤ 12 := by omega
    refine ⟨by simp [lg_sl, Value.category], ?_⟩
    have h67 : ∀ M', SdX M' p ec S → pm_fr (stF p) M M' → X 67 [] [] M' := by
      intro M' q1 q2
      refine hb67 _ _ _ ?_
      simp (maxSteps := 2000000) [bk_X4_shiftBack_0, bk_X4_shiftBack_26, bk_X4_shiftBack_39, bk_X4_shiftBack_44, bk_X4_shiftBack_58, bk_X4_shiftBack_67, pm_arr, pm_call, pm_e_c0, pm_e_c1, pm_e_cti, pm_e_ctl, pm_e_ctr, pm_e_go, pm_e_ii, pm_e_ldi, pm_e_ldr, pm_e_lk, pm_e_r, pm_e_ri, pm_e_rii, pm_e_rm0, pm_e_rm1, pm_e_rs0, pm_e_rs1, pm_e_v2, pm_e_wp0, pm_e_wp1, pm_f2, pm_f3, pm_fld, pm_fv, pm_obj, pm_recv, pm_s_aload_n, pm_s_dup2, pm_s_getfield, pm_s_goto, pm_s_iaload, pm_s_iastore, pm_s_iconst, pm_s_if_icmp_ge, pm_s_if_icmp_ne, pm_s_iload_n, pm_s_invokevirtual, pm_s_isub, pm_s_return, ct_X4_shiftBack, pS, pR, pC, pE, pL, -Int32.not_le, -Int32.not_lt, -Int64.not_le, -Int64.not_lt, -List.getD_eq_getElem?_getD]
      exact hT M' q1 q2
    have h44' : ∀ M', SdX M' p ec (aTake S a) → pm_fr (stF p) M M' → X 44 [(0, .ref p), (1, .int (nI d)), (2, .int (nI a))] [] M' := by
      intro M' q1 q2
      refine hb44 _ _ _ ?_
      simp (maxSteps := 2000000) [bk_X4_shiftBack_0, bk_X4_shiftBack_26, bk_X4_shiftBack_39, bk_X4_shiftBack_44, bk_X4_shiftBack_58, bk_X4_shiftBack_67, pm_arr, pm_call, pm_e_c0, pm_e_c1, pm_e_cti, pm_e_ctl, pm_e_ctr, pm_e_go, pm_e_ii, pm_e_ldi, pm_e_ldr, pm_e_lk, pm_e_r, pm_e_ri, pm_e_rii, pm_e_rm0, pm_e_rm1, pm_e_rs0, pm_e_rs1, pm_e_v2, pm_e_wp0, pm_e_wp1, pm_f2, pm_f3, pm_fld, pm_fv, pm_obj, pm_recv, pm_s_aload_n, pm_s_dup2, pm_s_getfield, pm_s_goto, pm_s_iaload, pm_s_iastore, pm_s_iconst, pm_s_if_icmp_ge, pm_s_if_icmp_ne, pm_s_iload_n, pm_s_invokevirtual, pm_s_isub, pm_s_return, ct_X4_shiftBack, pS, pR, pC, pE, pL, -Int32.not_le, -Int32.not_lt, -Int64.not_le, -Int64.not_lt, -List.getD_eq_getElem?_getD, st_0 hp]
      simp (disch := omega) only [ni_in, ni_cl, ni_add, ni_mul, ni_sub, ni_lt, ni_le, ni_eq, ni_eq0, ni_lt0, ni_0le, ni_0lt, ni_le0, ni_a1, ni_a3, ni_a7, ni_a15]
      refine ⟨fun h => ?_, fun h => ?_⟩
      · refine hb58 _ _ _ ?_
        simp (maxSteps := 2000000) [bk_X4_shiftBack_0, bk_X4_shiftBack_26, bk_X4_shiftBack_39, bk_X4_shiftBack_44, bk_X4_shiftBack_58, bk_X4_shiftBack_67, pm_arr, pm_call, pm_e_c0, pm_e_c1, pm_e_cti, pm_e_ctl, pm_e_ctr, pm_e_go, pm_e_ii, pm_e_ldi, pm_e_ldr, pm_e_lk, pm_e_r, pm_e_ri, pm_e_rii, pm_e_rm0, pm_e_rm1, pm_e_rs0, pm_e_rs1, pm_e_v2, pm_e_wp0, pm_e_wp1, pm_f2, pm_f3, pm_fld, pm_fv, pm_obj, pm_recv, pm_s_aload_n, pm_s_dup2, pm_s_getfield, pm_s_goto, pm_s_iaload, pm_s_iastore, pm_s_iconst, pm_s_if_icmp_ge, pm_s_if_icmp_ne, pm_s_iload_n, pm_s_invokevirtual, pm_s_isub, pm_s_return, ct_X4_shiftBack, pS, pR, pC, pE, pL, -Int32.not_le, -Int32.not_lt, -Int64.not_le, -Int64.not_lt, -List.getD_eq_getElem?_getD, st_0 hp, st_3 hp]
        simp (disch := omega) only [ni_in, ni_cl, ni_add, ni_mul, ni_sub, ni_lt, ni_le, ni_eq, ni_eq0, ni_lt0, ni_0le, ni_0lt, ni_le0, ni_a1, ni_a3, ni_a7, ni_a15]
        refine ⟨by omega, h67 _ ?_ (q2.set (by simp))⟩
        have := q1.setE (j := a - 4) (d := d) (by omega) b12
        have e : d = S.2.1 (a - 4) := by rw [← hcd]; simp [cardF, show ¬ a < 4 by omega]
        refine this.congr (fun i _ => ?_) (fun j _ => ?_) (fun i _ => ?_)
        · simp [aTake, show ¬ a < 4 by omega]
        · simp only [aTake, show ¬ a < 4 by omega, if_false, up_up]; rw [up_id2 _ _ e]
        · simp [aTake, show ¬ a < 4 by omega]
      · have hne : S.1 a ≠ [] := by
          intro e; apply hc0; rw [← hcd]; simp [cardF, show a < 4 by omega, e, lastC]
        have e : cardF S a = lastC (S.1 a) := by simp [cardF, show a < 4 by omega]
        have hlen := (hO.1 a (by omega)).1
        have hpos := List.length_pos_iff.mpr hne
        refine ⟨ec, aTake S a, a, d, hp, rfl, rfl, q1, by omega, ⟨by omega, b12⟩, ?_, fun M'' r1 r2 => ?_⟩
        · simp [aTake, show a < 4 by omega, aPop, up_s]; omega
        · simp (maxSteps := 2000000) [bk_X4_shiftBack_0, bk_X4_shiftBack_26, bk_X4_shiftBack_39, bk_X4_shiftBack_44, bk_X4_shiftBack_58, bk_X4_shiftBack_67, pm_arr, pm_call, pm_e_c0, pm_e_c1, pm_e_cti, pm_e_ctl, pm_e_ctr, pm_e_go, pm_e_ii, pm_e_ldi, pm_e_ldr, pm_e_lk, pm_e_r, pm_e_ri, pm_e_rii, pm_e_rm0, pm_e_rm1, pm_e_rs0, pm_e_rs1, pm_e_v2, pm_e_wp0, pm_e_wp1, pm_f2, pm_f3, pm_fld, pm_fv, pm_obj, pm_recv, pm_s_aload_n, pm_s_dup2, pm_s_getfield, pm_s_goto, pm_s_iaload, pm_s_iastore, pm_s_iconst, pm_s_if_icmp_ge, pm_s_if_icmp_ne, pm_s_iload_n, pm_s_invokevirtual, pm_s_isub, pm_s_return, ct_X4_shiftBack, pS, pR, pC, pE, pL, -Int32.not_le, -Int32.not_lt, -Int64.not_le, -Int64.not_lt, -List.getD_eq_getElem?_getD]
          refine h67 M'' ?_ (q2.trans r2)
          rw [← hcd, e] at r1
          simpa [aTake, show a < 4 by omega, aPop, aPush, up_s, up_up, lastC_dl hne, up_id] using r1
    refine hb0 _ _ _ ?_
    simp (maxSteps := 2000000) [bk_X4_shiftBack_0, bk_X4_shiftBack_26, bk_X4_shiftBack_39, bk_X4_shiftBack_44, bk_X4_shiftBack_58, bk_X4_shiftBack_67, pm_arr, pm_call, pm_e_c0, pm_e_c1, pm_e_cti, pm_e_ctl, pm_e_ctr, pm_e_go, pm_e_ii, pm_e_ldi, pm_e_ldr, pm_e_lk, pm_e_r, pm_e_ri, pm_e_rii, pm_e_rm0, pm_e_rm1, pm_e_rs0, pm_e_rs1, pm_e_v2, pm_e_wp0, pm_e_wp1, pm_f2, pm_f3, pm_fld, pm_fv, pm_obj, pm_recv, pm_s_aload_n, pm_s_dup2, pm_s_getfield, pm_s_goto, pm_s_iaload, pm_s_iastore, pm_s_iconst, pm_s_if_icmp_ge, pm_s_if_icmp_ne, pm_s_iload_n, pm_s_invokevirtual, pm_s_isub, pm_s_return, ct_X4_shiftBack, pS, pR, pC, pE, pL, -Int32.not_le, -Int32.not_lt, -Int64.not_le, -Int64.not_lt, -List.getD_eq_getElem?_getD, lv_args, st_0 hp, st_4 hp, sx_1, sx_2]
    have hhs : (aMv P ec S a b).2.2 (su P.2.1 d) ≤ 6 := hS.1.2.2 _ (by dsimp only [pS, pR] at *; omega)
    by_cases hb5 : b = 5
    · have hput : (aMv P ec S a b).2.2 (su P.2.1 d) = S.2.2 (su P.2.1 d) + 1 := by simp [aMv, aPut, hb5, hcd, aTake_h, up_s, pR]
      simp (disch := omega) only [ni_in, ni_cl, ni_add, ni_mul, ni_sub, ni_lt, ni_le, ni_eq, ni_eq0, ni_lt0, ni_0le, ni_0lt, ni_le0, ni_a1, ni_a3, ni_a7, ni_a15, mn.1, hS.h (show su (pR P) d < 4 by omega), hput]
      refine ⟨fun h => absurd hb5 h, fun _ => ?_⟩
      repeat refine ⟨by omega, ?_⟩
      refine h44' _ ?_ (pm_fr.rfl.set (by simp))
      have := hS.setH (j := su (pR P) d) (d := S.2.2 (su (pR P) d) + 1 - 1) (by have := hh hb5; omega)
      refine this.congr (fun i _ => ?_) (fun j _ => ?_) (fun i _ => ?_)
      · simp [aMv, aPut, hb5]
      · simp [aMv, aPut, hb5]
      · simp [aMv, aPut, hb5, hcd, up_up, aTake_h]
        rw [up_id2]; rfl
    · simp (disch := omega) only [ni_in, ni_cl, ni_add, ni_mul, ni_sub, ni_lt, ni_le, ni_eq, ni_eq0, ni_lt0, ni_0le, ni_0lt, ni_le0, ni_a1, ni_a3, ni_a7, ni_a15]
      refine ⟨fun _ => ?_, fun h => absurd h hb5⟩
      refine hb26 _ _ _ ?_
      simp (maxSteps := 2000000) [bk_X4_shiftBack_0, bk_X4_shiftBack_26, bk_X4_shiftBack_39, bk_X4_shiftBack_44, bk_X4_shiftBack_58, bk_X4_shiftBack_67, pm_arr, pm_call, pm_e_c0, pm_e_c1, pm_e_cti, pm_e_ctl, pm_e_ctr, pm_e_go, pm_e_ii, pm_e_ldi, pm_e_ldr, pm_e_lk, pm_e_r, pm_e_ri, pm_e_rii, pm_e_rm0, pm_e_rm1, pm_e_rs0, pm_e_rs1, pm_e_v2, pm_e_wp0, pm_e_wp1, pm_f2, pm_f3, pm_fld, pm_fv, pm_obj, pm_recv, pm_s_aload_n, pm_s_dup2, pm_s_getfield, pm_s_goto, pm_s_iaload, pm_s_iastore, pm_s_iconst, pm_s_if_icmp_ge, pm_s_if_icmp_ne, pm_s_iload_n, pm_s_invokevirtual, pm_s_isub, pm_s_return, ct_X4_shiftBack, pS, pR, pC, pE, pL, -Int32.not_le, -Int32.not_lt, -Int64.not_le, -Int64.not_lt, -List.getD_eq_getElem?_getD, st_0 hp]
      simp (disch := omega) only [ni_in, ni_cl, ni_add, ni_mul, ni_sub, ni_lt, ni_le, ni_eq, ni_eq0, ni_lt0, ni_0le, ni_0lt, ni_le0, ni_a1, ni_a3, ni_a7, ni_a15]
      refine ⟨fun hb4 => ?_, fun hb4 => ?_⟩
      · refine hb39 _ _ _ ?_
        simp (maxSteps := 2000000) [bk_X4_shiftBack_0, bk_X4_shiftBack_26, bk_X4_shiftBack_39, bk_X4_shiftBack_44, bk_X4_shiftBack_58, bk_X4_shiftBack_67, pm_arr, pm_call, pm_e_c0, pm_e_c1, pm_e_cti, pm_e_ctl, pm_e_ctr, pm_e_go, pm_e_ii, pm_e_ldi, pm_e_ldr, pm_e_lk, pm_e_r, pm_e_ri, pm_e_rii, pm_e_rm0, pm_e_rm1, pm_e_rs0, pm_e_rs1, pm_e_v2, pm_e_wp0, pm_e_wp1, pm_f2, pm_f3, pm_fld, pm_fv, pm_obj, pm_recv, pm_s_aload_n, pm_s_dup2, pm_s_getfield, pm_s_goto, pm_s_iaload, pm_s_iastore, pm_s_iconst, pm_s_if_icmp_ge, pm_s_if_icmp_ne, pm_s_iload_n, pm_s_invokevirtual, pm_s_isub, pm_s_return, ct_X4_shiftBack, pS, pR, pC, pE, pL, -Int32.not_le, -Int32.not_lt, -Int64.not_le, -Int64.not_lt, -List.getD_eq_getElem?_getD, st_0 hp]
        refine ⟨ec, aMv P ec S a b, b, hp, rfl, hS, by omega, ?_, fun M'' r1 r2 => ?_⟩
        · simp [aMv, aPut, hb5, hb4, aPush, up_s]
        · simp (maxSteps := 2000000) [bk_X4_shiftBack_0, bk_X4_shiftBack_26, bk_X4_shiftBack_39, bk_X4_shiftBack_44, bk_X4_shiftBack_58, bk_X4_shiftBack_67, pm_arr, pm_call, pm_e_c0, pm_e_c1, pm_e_cti, pm_e_ctl, pm_e_ctr, pm_e_go, pm_e_ii, pm_e_ldi, pm_e_ldr, pm_e_lk, pm_e_r, pm_e_ri, pm_e_rii, pm_e_rm0, pm_e_rm1, pm_e_rs0, pm_e_rs1, pm_e_v2, pm_e_wp0, pm_e_wp1, pm_f2, pm_f3, pm_fld, pm_fv, pm_obj, pm_recv, pm_s_aload_n, pm_s_dup2, pm_s_getfield, pm_s_goto, pm_s_iaload, pm_s_iastore, pm_s_iconst, pm_s_if_icmp_ge, pm_s_if_icmp_ne, pm_s_iload_n, pm_s_invokevirtual, pm_s_isub, pm_s_return, ct_X4_shiftBack, pS, pR, pC, pE, pL, -Int32.not_le, -Int32.not_lt, -Int64.not_le, -Int64.not_lt, -List.getD_eq_getElem?_getD]
          refine h44' M'' ?_ r2
          simpa [aMv, aPut, hb5, hb4, aPush, aPop, up_s, up_up, up_id] using r1
      · obtain ⟨a4, hff, hdis⟩ := h44 hb4
        obtain ⟨f2, f0⟩ := ffc_free hff
        have hT0 : aTake S a = aPop S a := by simp [aTake, a4]
        have hffe : ffc ec (aTake S a) = ffc ec S := by rw [hT0]; rfl
        refine ⟨ec, aMv P ec S a b, d, hp, rfl, hS, b12, fun M'' T r0 r1 r2 => ?_⟩
        simp (maxSteps := 2000000) [bk_X4_shiftBack_0, bk_X4_shiftBack_26, bk_X4_shiftBack_39, bk_X4_shiftBack_44, bk_X4_shiftBack_58, bk_X4_shiftBack_67, pm_arr, pm_call, pm_e_c0, pm_e_c1, pm_e_cti, pm_e_ctl, pm_e_ctr, pm_e_go, pm_e_ii, pm_e_ldi, pm_e_ldr, pm_e_lk, pm_e_r, pm_e_ri, pm_e_rii, pm_e_rm0, pm_e_rm1, pm_e_rs0, pm_e_rs1, pm_e_v2, pm_e_wp0, pm_e_wp1, pm_f2, pm_f3, pm_fld, pm_fv, pm_obj, pm_recv, pm_s_aload_n, pm_s_dup2, pm_s_getfield, pm_s_goto, pm_s_iaload, pm_s_iastore, pm_s_iconst, pm_s_if_icmp_ge, pm_s_if_icmp_ne, pm_s_iload_n, pm_s_invokevirtual, pm_s_isub, pm_s_return, ct_X4_shiftBack, pS, pR, pC, pE, pL, -Int32.not_le, -Int32.not_lt, -Int64.not_le, -Int64.not_lt, -List.getD_eq_getElem?_getD]
        refine h44' M'' (r1.congr (fun i _ => ?_) (fun j hj => ?_) (fun i _ => ?_)) r2
        · simp [aMv, aPut, hb4]
        · have r := r0 j hj
          show (aTake S a).2.1 j = T j
          rw [r]
          have e1 : (aMv P ec S a b).2.1 = up S.2.1 (ffc ec S) d := by
            have e2 : aMv P ec S a b = ((aTake S a).1, up (aTake S a).2.1 (ffc ec S) d, (aTake S a).2.2) := by
              unfold aMv aPut; rw [hcd, if_neg hb5, if_pos hb4, hffe, if_neg hff]
            rw [e2, hT0]; rfl
          rw [e1, hT0]
          by_cases q : j = ffc ec S
          · rw [q, up_s, if_pos rfl]; exact f0
          · rw [up_n _ _ q, if_neg (hdis j hj)]; rfl
        · simp [aMv, aPut, hb4]
  · exact hT.elim
