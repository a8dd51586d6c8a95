abbrev l12 (S : St) : Prop := ∀ i, i < 4 → (S.1 i).length ≤ 12
theorem WF.l12 {P : Pm} {ec : Nat} {Ld : Nat → Bool} {S : St} (hP : okP P) (h : WF P ec Ld S) : l12 S := fun i hi => ((h.ok hP).1 i hi).1
def tt_X7_done : pm_T := fun args M k => match args with
  | [.ref 0] => ∃ (r : Nat) (S T : St) (H : Nat → St) (pr la : Nat), SdY M 2 0 r S ∧ SdY M 10 0 r T ∧ HsY M r H pr la ∧ H pr = S ∧ l12 S ∧ l12 T ∧ (∀ i, i ≤ la → l12 (H i)) ∧ pr ≤ la ∧ la ≤ 64 ∧ ∀ M', SdY M' 2 0 r T → HsY M' r (kpH H pr T) (min (pr + 1) 64) (min (pr + 1) 64) → yfr [2, 3, 4, 5, 6, 7, 8, 9] [12, 13] M M' → k none M'
  | _ => False
abbrev ct_X7_done : List pm_C := [(false, 162, 7, 3, none, tt_X7_moves), (false, 166, 7, 2, none, tt_X7_saves), (false, 170, 7, 1, none, tt_X7_keepsTried)]
set_option maxHeartbeats 4000000 in
theorem sm_X7_done  : pm_Sem SHy yX7_done cX7_done 2 none 2 tt_X7_done := by
  refine pm_Sem_intro bl_X7_done ct_X7_done cs_X7_done rfl (List.forall_mem_cons.mpr ⟨⟨_, _, _, _, sm_X7_moves, by decide, cm_X7_moves, by decide +kernel⟩, List.forall_mem_cons.mpr ⟨⟨_, _, _, _, sm_X7_saves, by decide, cm_X7_saves, by decide +kernel⟩, List.forall_mem_cons.mpr ⟨⟨_, _, _, _, sm_X7_keepsTried, by decide, cm_X7_keepsTried, by decide +kernel⟩, fun _ h => absurd h List.not_mem_nil⟩⟩⟩) ck_X7_done (by decide +kernel) (by decide) ?_
  intro X k hX args M hT
  have hb0 := hX 0 bk_X7_done_0 (List.mem_of_getElem? (i := 0) rfl)
  have hb11 := hX 11 bk_X7_done_11 (List.mem_of_getElem? (i := 1) rfl)
  have hb31 := hX 31 bk_X7_done_31 (List.mem_of_getElem? (i := 2) rfl)
  have hb41 := hX 41 bk_X7_done_41 (List.mem_of_getElem? (i := 3) rfl)
  clear hX
  unfold tt_X7_done at hT; split at hT
  · obtain ⟨r, S, T, H, pr, la, hS, hTt, hH, hHp, lS, lT, lH, p1, p2, hT⟩ := hT
    obtain ⟨u12, u13, hh⟩ := id hH
    refine ⟨by simp [lg_sl, Value.category], ?_⟩
    have h41 : ∀ (p : Nat) (M1 : pm_M), p = min pr 63 → M1.1 0 12 = nI p → (∀ j, j < p → SdY M1 6 j r (kpH H pr T j)) → SdY M1 2 0 r S → SdY M1 10 0 r T → yfr [6, 7, 8, 9] [12] M M1 → X 41 [(0, .ref 0)] [] M1 := by
      intro p M1 ep e12 q1 q2 q3 f1
      have eK : kpH H pr T p = S ∧ kpH H pr T (p + 1) = T ∧ ∀ j, j < p → l12 (kpH H pr T j) := by
        unfold kpH
        by_cases z : pr < 64
        · have : p = pr := by omega
          subst this
          rw [if_pos z]
          refine ⟨by rw [up_n _ _ (by omega)]; exact hHp, up_s _ _ _, fun j hj => ?_⟩
          rw [up_n _ _ (by omega)]; exact lH j (by omega)
        · have : p = 63 := by omega
          subst this
          rw [if_neg z]
          refine ⟨?_, up_s _ _ _, fun j hj => ?_⟩
          · rw [up_n _ _ (by omega), ← hHp]; congr 1; omega
          · rw [up_n _ _ (by omega)]; exact lH (j + 1) (by omega)
      have e64 : min (pr + 1) 64 = p + 1 := by omega
      have p63 : p ≤ 63 := by omega
      rw [e64] at hT
      refine hb41 _ _ _ ?_
      simp (maxSteps := 2000000) [bk_X7_done_0, bk_X7_done_11, bk_X7_done_31, bk_X7_done_41, pm_call, pm_e_c0, pm_e_c1, pm_e_cti, pm_e_ctl, pm_e_ctr, pm_e_go, pm_e_i, pm_e_ii, pm_e_ldi, pm_e_ldr, pm_e_lk, pm_e_r, pm_e_rm0, pm_e_rm1, pm_e_rs0, pm_e_rs1, pm_e_v1, pm_e_v2, pm_e_wp0, pm_e_wp1, pm_f2, pm_f3, pm_fld, pm_fv, pm_obj, pm_recv, pm_s_aload_n, pm_s_bipush, pm_s_dup, pm_s_dup_x1, pm_s_getfield, pm_s_goto, pm_s_iadd, pm_s_iconst, pm_s_if_icmp_ge, pm_s_if_icmp_ne, pm_s_iinc, pm_s_iload_n, pm_s_invokevirtual, pm_s_istore_n, pm_s_isub, pm_s_putfield, pm_s_return, ct_X7_done, pS, pR, pC, pE, pL, -Int32.not_le, -Int32.not_lt, -Int64.not_le, -Int64.not_lt, -List.getD_eq_getElem?_getD, sy_0, e12, Value.category]
      rw [ni_add]
      have g1 : yfr [] [12] M1 (pm_set M1 0 12 (nI (p + 1))) := yfr.rfl.set0 (by decide)
      refine ⟨p, rfl, by omega, fun M2 c2 k2 f2 => ?_⟩
      have s2 : SdY M2 6 p r S := c2.sd (q2.mv g1 (by decide) (by decide)) lS
      have o2 : ∀ j, j < p → SdY M2 6 j r (kpH H pr T j) := fun j hj => k2.sd (by omega) ((q1 j hj).mv g1 (by decide) (by decide)) (eK.2.2 j hj)
      have t2 : SdY M2 10 0 r T := (q3.mv g1 (by decide) (by decide)).mv f2 (by decide) (by decide)
      have n2 : M2.1 0 12 = nI (p + 1) := by rw [f2.f (by simp)]; simp [pm_set]
      simp (maxSteps := 2000000) [bk_X7_done_0, bk_X7_done_11, bk_X7_done_31, bk_X7_done_41, pm_call, pm_e_c0, pm_e_c1, pm_e_cti, pm_e_ctl, pm_e_ctr, pm_e_go, pm_e_i, pm_e_ii, pm_e_ldi, pm_e_ldr, pm_e_lk, pm_e_r, pm_e_rm0, pm_e_rm1, pm_e_rs0, pm_e_rs1, pm_e_v1, pm_e_v2, pm_e_wp0, pm_e_wp1, pm_f2, pm_f3, pm_fld, pm_fv, pm_obj, pm_recv, pm_s_aload_n, pm_s_bipush, pm_s_dup, pm_s_dup_x1, pm_s_getfield, pm_s_goto, pm_s_iadd, pm_s_iconst, pm_s_if_icmp_ge, pm_s_if_icmp_ne, pm_s_iinc, pm_s_iload_n, pm_s_invokevirtual, pm_s_istore_n, pm_s_isub, pm_s_putfield, pm_s_return, ct_X7_done, pS, pR, pC, pE, pL, -Int32.not_le, -Int32.not_lt, -Int64.not_le, -Int64.not_lt, -List.getD_eq_getElem?_getD, sy_0]
      have g3 : yfr [] [13] M2 (pm_set M2 0 13 (nI 0)) := yfr.rfl.set0 (by decide)
      intro M4 c4 k4 f4
      have s4 : SdY M4 2 0 r T := c4.sd (t2.mv g3 (by decide) (by decide)) lT
      have n4 : M4.1 0 12 = nI (p + 1) := by rw [f4.f (by simp), g3.f (by decide)]; exact n2
      simp (maxSteps := 2000000) [bk_X7_done_0, bk_X7_done_11, bk_X7_done_31, bk_X7_done_41, pm_call, pm_e_c0, pm_e_c1, pm_e_cti, pm_e_ctl, pm_e_ctr, pm_e_go, pm_e_i, pm_e_ii, pm_e_ldi, pm_e_ldr, pm_e_lk, pm_e_r, pm_e_rm0, pm_e_rm1, pm_e_rs0, pm_e_rs1, pm_e_v1, pm_e_v2, pm_e_wp0, pm_e_wp1, pm_f2, pm_f3, pm_fld, pm_fv, pm_obj, pm_recv, pm_s_aload_n, pm_s_bipush, pm_s_dup, pm_s_dup_x1, pm_s_getfield, pm_s_goto, pm_s_iadd, pm_s_iconst, pm_s_if_icmp_ge, pm_s_if_icmp_ne, pm_s_iinc, pm_s_iload_n, pm_s_invokevirtual, pm_s_istore_n, pm_s_isub, pm_s_putfield, pm_s_return, ct_X7_done, pS, pR, pC, pE, pL, -Int32.not_le, -Int32.not_lt, -Int64.not_le, -Int64.not_lt, -List.getD_eq_getElem?_getD, sy_0, n4]
      refine ⟨p + 1, rfl, by omega, fun M5 c5 k5 f5 => ?_⟩
      simp (maxSteps := 2000000) [bk_X7_done_0, bk_X7_done_11, bk_X7_done_31, bk_X7_done_41, pm_call, pm_e_c0, pm_e_c1, pm_e_cti, pm_e_ctl, pm_e_ctr, pm_e_go, pm_e_i, pm_e_ii, pm_e_ldi, pm_e_ldr, pm_e_lk, pm_e_r, pm_e_rm0, pm_e_rm1, pm_e_rs0, pm_e_rs1, pm_e_v1, pm_e_v2, pm_e_wp0, pm_e_wp1, pm_f2, pm_f3, pm_fld, pm_fv, pm_obj, pm_recv, pm_s_aload_n, pm_s_bipush, pm_s_dup, pm_s_dup_x1, pm_s_getfield, pm_s_goto, pm_s_iadd, pm_s_iconst, pm_s_if_icmp_ge, pm_s_if_icmp_ne, pm_s_iinc, pm_s_iload_n, pm_s_invokevirtual, pm_s_istore_n, pm_s_isub, pm_s_putfield, pm_s_return, ct_X7_done, pS, pR, pC, pE, pL, -Int32.not_le, -Int32.not_lt, -Int64.not_le, -Int64.not_lt, -List.getD_eq_getElem?_getD]
      refine hT M5 (s4.mv f5 (by decide) (by decide)) ⟨?_, ?_, fun i i1 i2 => ?_⟩ ?_
      · rw [f5.f (by simp)]; exact n4
      · rw [f5.f (by simp), f4.f (by simp), Nat.sub_self]; simp [pm_set]
      · have i3 : i < p + 1 := by omega
        have mv45 : ∀ (U : St), l12 U → SdY M2 6 i r U → SdY M5 6 i r U := fun U lU hU => k5.sd (by omega) ((hU.mv g3 (by decide) (by decide)).mv f4 (by decide) (by decide)) lU
        by_cases z : i = p
        · rw [z] at mv45 ⊢; rw [eK.1]; exact mv45 S lS s2
        · exact mv45 _ (eK.2.2 i (by omega)) (o2 i (by omega))
      · exact ((((((f1.mono (by decide) (by decide)).trans (g1.mono (by decide) (by decide))).trans (f2.mono (by decide) (by simp))).trans (g3.mono (by decide) (by decide))).trans (f4.mono (by decide) (by simp))).trans (f5.mono (by decide) (by simp)))
    refine hb0 _ _ _ ?_
    simp (maxSteps := 2000000) [bk_X7_done_0, bk_X7_done_11, bk_X7_done_31, bk_X7_done_41, pm_call, pm_e_c0, pm_e_c1, pm_e_cti, pm_e_ctl, pm_e_ctr, pm_e_go, pm_e_i, pm_e_ii, pm_e_ldi, pm_e_ldr, pm_e_lk, pm_e_r, pm_e_rm0, pm_e_rm1, pm_e_rs0, pm_e_rs1, pm_e_v1, pm_e_v2, pm_e_wp0, pm_e_wp1, pm_f2, pm_f3, pm_fld, pm_fv, pm_obj, pm_recv, pm_s_aload_n, pm_s_bipush, pm_s_dup, pm_s_dup_x1, pm_s_getfield, pm_s_goto, pm_s_iadd, pm_s_iconst, pm_s_if_icmp_ge, pm_s_if_icmp_ne, pm_s_iinc, pm_s_iload_n, pm_s_invokevirtual, pm_s_istore_n, pm_s_isub, pm_s_putfield, pm_s_return, ct_X7_done, pS, pR, pC, pE, pL, -Int32.not_le, -Int32.not_lt, -Int64.not_le, -Int64.not_lt, -List.getD_eq_getElem?_getD, lv_args, sy_0, u12]
    simp (disch := omega) only [ni_in, ni_cl, ni_add, ni_mul, ni_sub, ni_lt, ni_le, ni_eq, ni_eq0, ni_lt0, ni_0le, ni_0lt, ni_le0, ni_a1, ni_a3, ni_a7, ni_a15]
    refine ⟨fun h => ?_, fun h => ?_⟩
    · refine h41 pr M (by omega) u12 (fun j hj => ?_) hS hTt yfr.rfl
      unfold kpH; rw [if_pos (by omega), up_n _ _ (by omega)]
      exact hh j (by omega) (Or.inl (by omega))
    · have e64 : pr = 64 := h
      have loop : ∀ (f i : Nat) (M1 : pm_M), 64 ≤ i + f → 1 ≤ i → i ≤ 64 → (∀ j, j + 1 < i → SdY M1 6 j r (H (j + 1))) → (∀ j, i ≤ j → j < 64 → SdY M1 6 j r (H j)) → yfr [6, 7, 8, 9] [] M M1 → X 11 [(0, .ref 0), (1, .int (nI i))] [] M1 := by
        intro f
        have out : ∀ (M1 : pm_M), (∀ j, j + 1 < 64 → SdY M1 6 j r (H (j + 1))) → yfr [6, 7, 8, 9] [] M M1 → X 31 [(0, .ref 0)] [] M1 := by
          intro M1 q1 f1
          have n1 : M1.1 0 12 = nI 64 := by rw [f1.f (by simp), u12, e64]
          refine hb31 _ _ _ ?_
          simp (maxSteps := 2000000) [bk_X7_done_0, bk_X7_done_11, bk_X7_done_31, bk_X7_done_41, pm_call, pm_e_c0, pm_e_c1, pm_e_cti, pm_e_ctl, pm_e_ctr, pm_e_go, pm_e_i, pm_e_ii, pm_e_ldi, pm_e_ldr, pm_e_lk, pm_e_r, pm_e_rm0, pm_e_rm1, pm_e_rs0, pm_e_rs1, pm_e_v1, pm_e_v2, pm_e_wp0, pm_e_wp1, pm_f2, pm_f3, pm_fld, pm_fv, pm_obj, pm_recv, pm_s_aload_n, pm_s_bipush, pm_s_dup, pm_s_dup_x1, pm_s_getfield, pm_s_goto, pm_s_iadd, pm_s_iconst, pm_s_if_icmp_ge, pm_s_if_icmp_ne, pm_s_iinc, pm_s_iload_n, pm_s_invokevirtual, pm_s_istore_n, pm_s_isub, pm_s_putfield, pm_s_return, ct_X7_done, pS, pR, pC, pE, pL, -Int32.not_le, -Int32.not_lt, -Int64.not_le, -Int64.not_lt, -List.getD_eq_getElem?_getD, sy_0, n1, Value.category]
          rw [ni_sub (by decide)]
          have g1 : yfr [] [12] M1 (pm_set M1 0 12 (nI (64 - 1))) := yfr.rfl.set0 (by decide)
          refine h41 63 _ (by omega) (by simp [pm_set]) (fun j hj => ?_) ((hS.mv f1 (by decide) (by decide)).mv g1 (by decide) (by decide)) ((hTt.mv f1 (by decide) (by decide)).mv g1 (by decide) (by decide)) ((f1.mono (by decide) (by simp)).trans (g1.mono (by decide) (by decide)))
          unfold kpH; rw [if_neg (by omega), up_n _ _ (by omega)]
          exact (q1 j (by omega)).mv g1 (by decide) (by decide)
        induction f with
        | zero =>
          intro i M1 g1 g2 g3 q1 q2 f1
          have e : i = 64 := by omega
          subst e
          refine hb11 _ _ _ ?_
          simp (maxSteps := 2000000) [bk_X7_done_0, bk_X7_done_11, bk_X7_done_31, bk_X7_done_41, pm_call, pm_e_c0, pm_e_c1, pm_e_cti, pm_e_ctl, pm_e_ctr, pm_e_go, pm_e_i, pm_e_ii, pm_e_ldi, pm_e_ldr, pm_e_lk, pm_e_r, pm_e_rm0, pm_e_rm1, pm_e_rs0, pm_e_rs1, pm_e_v1, pm_e_v2, pm_e_wp0, pm_e_wp1, pm_f2, pm_f3, pm_fld, pm_fv, pm_obj, pm_recv, pm_s_aload_n, pm_s_bipush, pm_s_dup, pm_s_dup_x1, pm_s_getfield, pm_s_goto, pm_s_iadd, pm_s_iconst, pm_s_if_icmp_ge, pm_s_if_icmp_ne, pm_s_iinc, pm_s_iload_n, pm_s_invokevirtual, pm_s_istore_n, pm_s_isub, pm_s_putfield, pm_s_return, ct_X7_done, pS, pR, pC, pE, pL, -Int32.not_le, -Int32.not_lt, -Int64.not_le, -Int64.not_lt, -List.getD_eq_getElem?_getD]
          exact out M1 q1 f1
        | succ f ih =>
          intro i M1 g1 g2 g3 q1 q2 f1
          by_cases hi : i < 64
          · refine hb11 _ _ _ ?_
            simp (maxSteps := 2000000) [bk_X7_done_0, bk_X7_done_11, bk_X7_done_31, bk_X7_done_41, pm_call, pm_e_c0, pm_e_c1, pm_e_cti, pm_e_ctl, pm_e_ctr, pm_e_go, pm_e_i, pm_e_ii, pm_e_ldi, pm_e_ldr, pm_e_lk, pm_e_r, pm_e_rm0, pm_e_rm1, pm_e_rs0, pm_e_rs1, pm_e_v1, pm_e_v2, pm_e_wp0, pm_e_wp1, pm_f2, pm_f3, pm_fld, pm_fv, pm_obj, pm_recv, pm_s_aload_n, pm_s_bipush, pm_s_dup, pm_s_dup_x1, pm_s_getfield, pm_s_goto, pm_s_iadd, pm_s_iconst, pm_s_if_icmp_ge, pm_s_if_icmp_ne, pm_s_iinc, pm_s_iload_n, pm_s_invokevirtual, pm_s_istore_n, pm_s_isub, pm_s_putfield, pm_s_return, ct_X7_done, pS, pR, pC, pE, pL, -Int32.not_le, -Int32.not_lt, -Int64.not_le, -Int64.not_lt, -List.getD_eq_getElem?_getD, sy_0]
            simp (disch := omega) only [ni_in, ni_cl, ni_add, ni_mul, ni_sub, ni_lt, ni_le, ni_eq, ni_eq0, ni_lt0, ni_0le, ni_0lt, ni_le0, ni_a1, ni_a3, ni_a7, ni_a15]
            refine ⟨fun z => by omega, fun _ => ⟨i, i - 1, rfl, by omega, rfl, by omega, by omega, fun M2 c2 k2 f2 => ?_⟩⟩
            simp (maxSteps := 2000000) [bk_X7_done_0, bk_X7_done_11, bk_X7_done_31, bk_X7_done_41, pm_call, pm_e_c0, pm_e_c1, pm_e_cti, pm_e_ctl, pm_e_ctr, pm_e_go, pm_e_i, pm_e_ii, pm_e_ldi, pm_e_ldr, pm_e_lk, pm_e_r, pm_e_rm0, pm_e_rm1, pm_e_rs0, pm_e_rs1, pm_e_v1, pm_e_v2, pm_e_wp0, pm_e_wp1, pm_f2, pm_f3, pm_fld, pm_fv, pm_obj, pm_recv, pm_s_aload_n, pm_s_bipush, pm_s_dup, pm_s_dup_x1, pm_s_getfield, pm_s_goto, pm_s_iadd, pm_s_iconst, pm_s_if_icmp_ge, pm_s_if_icmp_ne, pm_s_iinc, pm_s_iload_n, pm_s_invokevirtual, pm_s_istore_n, pm_s_isub, pm_s_putfield, pm_s_return, ct_X7_done, pS, pR, pC, pE, pL, -Int32.not_le, -Int32.not_lt, -Int64.not_le, -Int64.not_lt, -List.getD_eq_getElem?_getD]
            refine ih (i + 1) M2 (by omega) (by omega) (by omega) (fun j hj => ?_) (fun j j1 j2 => ?_) (f1.trans f2)
            · by_cases z : j = i - 1
              · have := c2.sd (q2 i (by omega) hi) (lH i (by omega))
                rw [z, show i - 1 + 1 = i by omega]; exact this
              · exact k2.sd z (q1 j (by omega)) (lH (j + 1) (by omega))
            · exact k2.sd (by omega) (q2 j (by omega) j2) (lH j (by omega))
          · have e : i = 64 := by omega
            subst e
            refine hb11 _ _ _ ?_
            simp (maxSteps := 2000000) [bk_X7_done_0, bk_X7_done_11, bk_X7_done_31, bk_X7_done_41, pm_call, pm_e_c0, pm_e_c1, pm_e_cti, pm_e_ctl, pm_e_ctr, pm_e_go, pm_e_i, pm_e_ii, pm_e_ldi, pm_e_ldr, pm_e_lk, pm_e_r, pm_e_rm0, pm_e_rm1, pm_e_rs0, pm_e_rs1, pm_e_v1, pm_e_v2, pm_e_wp0, pm_e_wp1, pm_f2, pm_f3, pm_fld, pm_fv, pm_obj, pm_recv, pm_s_aload_n, pm_s_bipush, pm_s_dup, pm_s_dup_x1, pm_s_getfield, pm_s_goto, pm_s_iadd, pm_s_iconst, pm_s_if_icmp_ge, pm_s_if_icmp_ne, pm_s_iinc, pm_s_iload_n, pm_s_invokevirtual, pm_s_istore_n, pm_s_isub, pm_s_putfield, pm_s_return, ct_X7_done, pS, pR, pC, pE, pL, -Int32.not_le, -Int32.not_lt, -Int64.not_le, -Int64.not_lt, -List.getD_eq_getElem?_getD]
            exact out M1 q1 f1
      exact loop 63 1 M (by omega) (by omega) (by omega) (fun j hj => by omega) (fun j j1 j2 => hh j (by omega) (Or.inl (by omega))) yfr.rfl
  · exact hT.elim
theorem okA.l12H {A : Ab} (h : okA A) : ∀ i, i ≤ aLa A → l12 (aH A i) := fun i hi => WF.l12 h.1 (h.2.2.2.2.1 i hi)
def tt_X7_undo : pm_T := fun args M k => match args with
  | [.ref 0] => ∃ A, okA A ∧ MY M A ∧ ∀ M', MY M' (fUndo A).2 → k (some (.int (fUndo A).1)) M'
  | _ => False
abbrev ct_X7_undo : List pm_C := [(false, 166, 7, 2, none, tt_X7_saves), (false, 173, 7, 2, none, tt_X7_brings)]
set_option maxHeartbeats 4000000 in
theorem sm_X7_undo  : pm_Sem SHy yX7_undo cX7_undo 1 (some .int) 2 tt_X7_undo := by
  refine pm_Sem_intro bl_X7_undo ct_X7_undo cs_X7_undo rfl (List.forall_mem_cons.mpr ⟨⟨_, _, _, _, sm_X7_saves, by decide, cm_X7_saves, by decide +kernel⟩, List.forall_mem_cons.mpr ⟨⟨_, _, _, _, sm_X7_brings, by decide, cm_X7_brings, by decide +kernel⟩, fun _ h => absurd h List.not_mem_nil⟩⟩) ck_X7_undo (by decide +kernel) (by decide) ?_
  intro X k hX args M hT
  have hb0 := hX 0 bk_X7_undo_0 (List.mem_of_getElem? (i := 0) rfl)
  have hb9 := hX 9 bk_X7_undo_9 (List.mem_of_getElem? (i := 1) rfl)
  clear hX
  unfold tt_X7_undo at hT; split at hT
  · obtain ⟨A, hA, hM, hT⟩ := hT
    obtain ⟨hD, hS, hL, h5', h7', hH, hPl, hTr, hQ⟩ := id hM
    obtain ⟨u12, u13, hh⟩ := id hH
    obtain ⟨p1, p2⟩ := hA.2.2.1
    have lS := WF.l12 hA.1 hA.wf
    unfold fUndo at hT
    refine ⟨by simp [lg_sl, Value.category], ?_⟩
    refine hb0 _ _ _ ?_
    simp (maxSteps := 2000000) [bk_X7_undo_0, bk_X7_undo_9, pm_call, pm_e_c0, pm_e_c1, pm_e_cti, pm_e_ctl, pm_e_ctr, pm_e_go, pm_e_i, pm_e_ii, pm_e_ldr, pm_e_lk, pm_e_r, pm_e_rm0, pm_e_rm1, pm_e_rs0, pm_e_rs1, pm_e_v1, pm_e_wp0, pm_e_wp1, pm_f2, pm_f3, pm_fld, pm_fv, pm_obj, pm_recv, pm_s_aload_n, pm_s_dup, pm_s_getfield, pm_s_iadd, pm_s_iconst, pm_s_ifCond_ne, pm_s_invokevirtual, pm_s_ireturn, pm_s_isub, pm_s_putfield, ct_X7_undo, pS, pR, pC, pE, pL, -Int32.not_le, -Int32.not_lt, -Int64.not_le, -Int64.not_lt, -List.getD_eq_getElem?_getD, lv_args, sy_0, u12]
    simp (disch := omega) only [ni_in, ni_cl, ni_add, ni_mul, ni_sub, ni_lt, ni_le, ni_eq, ni_eq0, ni_lt0, ni_0le, ni_0lt, ni_le0, ni_a1, ni_a3, ni_a7, ni_a15]
    refine ⟨fun h => ?_, fun h => ?_⟩
    · rw [if_neg h] at hT
      refine hb9 _ _ _ ?_
      simp (maxSteps := 2000000) [bk_X7_undo_0, bk_X7_undo_9, pm_call, pm_e_c0, pm_e_c1, pm_e_cti, pm_e_ctl, pm_e_ctr, pm_e_go, pm_e_i, pm_e_ii, pm_e_ldr, pm_e_lk, pm_e_r, pm_e_rm0, pm_e_rm1, pm_e_rs0, pm_e_rs1, pm_e_v1, pm_e_wp0, pm_e_wp1, pm_f2, pm_f3, pm_fld, pm_fv, pm_obj, pm_recv, pm_s_aload_n, pm_s_dup, pm_s_getfield, pm_s_iadd, pm_s_iconst, pm_s_ifCond_ne, pm_s_invokevirtual, pm_s_ireturn, pm_s_isub, pm_s_putfield, ct_X7_undo, pS, pR, pC, pE, pL, -Int32.not_le, -Int32.not_lt, -Int64.not_le, -Int64.not_lt, -List.getD_eq_getElem?_getD, sy_0, u12]
      refine ⟨aPr A, rfl, by omega, fun M1 c1 k1 f1 => ?_⟩
      have n12 : M1.1 0 12 = nI (aPr A) := by rw [f1.f (by simp)]; exact u12
      have n13 : M1.1 0 13 = nI (aLa A - aPr A) := by rw [f1.f (by simp)]; exact u13
      have e13 : (pm_set M1 0 12 (nI (aPr A - 1))).1 0 13 = nI (aLa A - aPr A) := by simp [pm_set]; exact n13
      have e12 : (pm_set (pm_set M1 0 12 (nI (aPr A - 1))) 0 13 (nI (aLa A - aPr A + 1))).1 0 12 = nI (aPr A - 1) := by simp [pm_set]
      simp (maxSteps := 2000000) [bk_X7_undo_0, bk_X7_undo_9, pm_call, pm_e_c0, pm_e_c1, pm_e_cti, pm_e_ctl, pm_e_ctr, pm_e_go, pm_e_i, pm_e_ii, pm_e_ldr, pm_e_lk, pm_e_r, pm_e_rm0, pm_e_rm1, pm_e_rs0, pm_e_rs1, pm_e_v1, pm_e_wp0, pm_e_wp1, pm_f2, pm_f3, pm_fld, pm_fv, pm_obj, pm_recv, pm_s_aload_n, pm_s_dup, pm_s_getfield, pm_s_iadd, pm_s_iconst, pm_s_ifCond_ne, pm_s_invokevirtual, pm_s_ireturn, pm_s_isub, pm_s_putfield, ct_X7_undo, pS, pR, pC, pE, pL, -Int32.not_le, -Int32.not_lt, -Int64.not_le, -Int64.not_lt, -List.getD_eq_getElem?_getD, sy_0, n12, Value.category]
      rw [ni_sub (by omega), e13, ni_add, e12]
      have g2 : yfr [] [12, 13] M1 (pm_set (pm_set M1 0 12 (nI (aPr A - 1))) 0 13 (nI (aLa A - aPr A + 1))) := (yfr.rfl.set0 (by decide)).set0 (by decide)
      have e13' : (pm_set (pm_set M1 0 12 (nI (aPr A - 1))) 0 13 (nI (aLa A - aPr A + 1))).1 0 13 = nI (aLa A - aPr A + 1) := by simp [pm_set]
      generalize pm_set (pm_set M1 0 12 (nI (aPr A - 1))) 0 13 (nI (aLa A - aPr A + 1)) = M2 at *
      -- all stands are kept now
      have all : ∀ i, i ≤ aLa A → SdY M2 6 i (pR (aP A)) (aH A i) := fun i hi => by
        by_cases z : i = aPr A
        · have := c1.sd hS lS
          rw [← hA.2.2.2.1] at this
          rw [z]; exact this.mv g2 (by decide) (by decide)
        · exact (k1.sd z (hh i hi (Or.inl z)) (hA.l12H i hi)).mv g2 (by decide) (by decide)
      refine ⟨aPr A - 1, rfl, by omega, fun M3 c3 k3 f3 => ?_⟩
      simp (maxSteps := 2000000) [bk_X7_undo_0, bk_X7_undo_9, pm_call, pm_e_c0, pm_e_c1, pm_e_cti, pm_e_ctl, pm_e_ctr, pm_e_go, pm_e_i, pm_e_ii, pm_e_ldr, pm_e_lk, pm_e_r, pm_e_rm0, pm_e_rm1, pm_e_rs0, pm_e_rs1, pm_e_v1, pm_e_wp0, pm_e_wp1, pm_f2, pm_f3, pm_fld, pm_fv, pm_obj, pm_recv, pm_s_aload_n, pm_s_dup, pm_s_getfield, pm_s_iadd, pm_s_iconst, pm_s_ifCond_ne, pm_s_invokevirtual, pm_s_ireturn, pm_s_isub, pm_s_putfield, ct_X7_undo, pS, pR, pC, pE, pL, -Int32.not_le, -Int32.not_lt, -Int64.not_le, -Int64.not_lt, -List.getD_eq_getElem?_getD]
      have gall : yfr [2, 3, 4, 5, 6, 7, 8, 9] [12, 13] M M3 := ((f1.mono (by decide) (by simp)).trans (g2.mono (by simp) (by decide))).trans (f3.mono (by decide) (by simp))
      refine hT M3 ⟨hD.mv gall (by decide), c3.sd (all _ (by omega)) (hA.l12H _ (by omega)), hL.mv gall (by decide), ?_, ?_, ⟨?_, ?_, fun i i1 _ => (all i i1).mv f3 (by decide) (by decide)⟩, hPl.mv gall (by decide) (by decide), try_mv hTr gall (by decide), ?_⟩
      · rw [gall.f (by decide)]; exact h5'
      · rw [gall.f (by decide)]; exact h7'
      · rw [f3.f (by simp)]; exact e12
      · rw [f3.f (by simp), e13']
        show nI (aLa A - aPr A + 1) = nI (aLa A - (aPr A - 1))
        congr 1; omega
      · rw [gall.f (by decide)]; exact hQ
    · rw [if_pos h] at hT
      exact hT M hM
  · exact hT.elim
def tt_X7_redo : pm_T := fun args M k => match args with
  | [.ref 0] => ∃ A, okA A ∧ MY M A ∧ ∀ M', MY M' (fRedo A).2 → k (some (.int (fRedo A).1)) M'
  | _ => False
abbrev ct_X7_redo : List pm_C := [(false, 173, 7, 2, none, tt_X7_brings)]
set_option maxHeartbeats 4000000 in
theorem sm_X7_redo  : pm_Sem SHy yX7_redo cX7_redo 1 (some .int) 2 tt_X7_redo := by
  refine pm_Sem_intro bl_X7_redo ct_X7_redo cs_X7_redo rfl (List.forall_mem_cons.mpr ⟨⟨_, _, _, _, sm_X7_brings, by decide, cm_X7_brings, by decide +kernel⟩, fun _ h => absurd h List.not_mem_nil⟩) ck_X7_redo (by decide +kernel) (by decide) ?_
  intro X k hX args M hT
  have hb0 := hX 0 bk_X7_redo_0 (List.mem_of_getElem? (i := 0) rfl)
  have hb9 := hX 9 bk_X7_redo_9 (List.mem_of_getElem? (i := 1) rfl)
  clear hX
  unfold tt_X7_redo at hT; split at hT
  · obtain ⟨A, hA, hM, hT⟩ := hT
    obtain ⟨hD, hS, hL, h5', h7', hH, hPl, hTr, hQ⟩ := id hM
    obtain ⟨u12, u13, hh⟩ := id hH
    obtain ⟨p1, p2⟩ := hA.2.2.1
    unfold fRedo at hT
    refine ⟨by simp [lg_sl, Value.category], ?_⟩
    refine hb0 _ _ _ ?_
    simp (maxSteps := 2000000) [bk_X7_redo_0, bk_X7_redo_9, pm_call, pm_e_c0, pm_e_c1, pm_e_cti, pm_e_ctl, pm_e_ctr, pm_e_go, pm_e_i, pm_e_ii, pm_e_ldr, pm_e_lk, pm_e_r, pm_e_rm0, pm_e_rm1, pm_e_rs0, pm_e_rs1, pm_e_v1, pm_e_wp0, pm_e_wp1, pm_f2, pm_f3, pm_fld, pm_fv, pm_obj, pm_recv, pm_s_aload_n, pm_s_dup, pm_s_getfield, pm_s_iadd, pm_s_iconst, pm_s_ifCond_ne, pm_s_invokevirtual, pm_s_ireturn, pm_s_isub, pm_s_putfield, ct_X7_redo, pS, pR, pC, pE, pL, -Int32.not_le, -Int32.not_lt, -Int64.not_le, -Int64.not_lt, -List.getD_eq_getElem?_getD, lv_args, sy_0, u13]
    simp (disch := omega) only [ni_in, ni_cl, ni_add, ni_mul, ni_sub, ni_lt, ni_le, ni_eq, ni_eq0, ni_lt0, ni_0le, ni_0lt, ni_le0, ni_a1, ni_a3, ni_a7, ni_a15]
    refine ⟨fun h => ?_, fun h => ?_⟩
    · rw [if_pos (by omega)] at hT
      have e13 : (pm_set M 0 12 (nI (aPr A + 1))).1 0 13 = nI (aLa A - aPr A) := by simp [pm_set]; exact u13
      have e12 : (pm_set (pm_set M 0 12 (nI (aPr A + 1))) 0 13 (nI (aLa A - aPr A - 1))).1 0 12 = nI (aPr A + 1) := by simp [pm_set]
      refine hb9 _ _ _ ?_
      simp (maxSteps := 2000000) [bk_X7_redo_0, bk_X7_redo_9, pm_call, pm_e_c0, pm_e_c1, pm_e_cti, pm_e_ctl, pm_e_ctr, pm_e_go, pm_e_i, pm_e_ii, pm_e_ldr, pm_e_lk, pm_e_r, pm_e_rm0, pm_e_rm1, pm_e_rs0, pm_e_rs1, pm_e_v1, pm_e_wp0, pm_e_wp1, pm_f2, pm_f3, pm_fld, pm_fv, pm_obj, pm_recv, pm_s_aload_n, pm_s_dup, pm_s_getfield, pm_s_iadd, pm_s_iconst, pm_s_ifCond_ne, pm_s_invokevirtual, pm_s_ireturn, pm_s_isub, pm_s_putfield, ct_X7_redo, pS, pR, pC, pE, pL, -Int32.not_le, -Int32.not_lt, -Int64.not_le, -Int64.not_lt, -List.getD_eq_getElem?_getD, sy_0, u12, Value.category]
      rw [ni_add, e13, ni_sub (by omega), e12]
      have g2 : yfr [] [12, 13] M (pm_set (pm_set M 0 12 (nI (aPr A + 1))) 0 13 (nI (aLa A - aPr A - 1))) := (yfr.rfl.set0 (by decide)).set0 (by decide)
      have e13' : (pm_set (pm_set M 0 12 (nI (aPr A + 1))) 0 13 (nI (aLa A - aPr A - 1))).1 0 13 = nI (aLa A - aPr A - 1) := by simp [pm_set]
      generalize pm_set (pm_set M 0 12 (nI (aPr A + 1))) 0 13 (nI (aLa A - aPr A - 1)) = M2 at *
      have all : ∀ i, i ≤ aLa A → SdY M2 6 i (pR (aP A)) (aH A i) := fun i hi => (hh i hi (Or.inr (by omega))).mv g2 (by decide) (by decide)
      refine ⟨aPr A + 1, rfl, by omega, fun M3 c3 k3 f3 => ?_⟩
      simp (maxSteps := 2000000) [bk_X7_redo_0, bk_X7_redo_9, pm_call, pm_e_c0, pm_e_c1, pm_e_cti, pm_e_ctl, pm_e_ctr, pm_e_go, pm_e_i, pm_e_ii, pm_e_ldr, pm_e_lk, pm_e_r, pm_e_rm0, pm_e_rm1, pm_e_rs0, pm_e_rs1, pm_e_v1, pm_e_wp0, pm_e_wp1, pm_f2, pm_f3, pm_fld, pm_fv, pm_obj, pm_recv, pm_s_aload_n, pm_s_dup, pm_s_getfield, pm_s_iadd, pm_s_iconst, pm_s_ifCond_ne, pm_s_invokevirtual, pm_s_ireturn, pm_s_isub, pm_s_putfield, ct_X7_redo, pS, pR, pC, pE, pL, -Int32.not_le, -Int32.not_lt, -Int64.not_le, -Int64.not_lt, -List.getD_eq_getElem?_getD]
      have gall : yfr [2, 3, 4, 5] [12, 13] M M3 := (g2.mono (by simp) (by decide)).trans (f3.mono (by decide) (by simp))
      refine hT M3 ⟨hD.mv gall (by decide), c3.sd (all _ (by omega)) (hA.l12H _ (by omega)), hL.mv gall (by decide), ?_, ?_, ⟨?_, ?_, fun i i1 _ => (all i i1).mv f3 (by decide) (by decide)⟩, hPl.mv gall (by decide) (by decide), try_mv hTr gall (by decide), ?_⟩
      · rw [gall.f (by decide)]; exact h5'
      · rw [gall.f (by decide)]; exact h7'
      · rw [f3.f (by simp)]; exact e12
      · rw [f3.f (by simp), e13']
        show nI (aLa A - aPr A - 1) = nI (aLa A - (aPr A + 1))
        congr 1
      · rw [gall.f (by decide)]; exact hQ
    · rw [if_neg (by omega)] at hT
      exact hT M hM
  · exact hT.elim
