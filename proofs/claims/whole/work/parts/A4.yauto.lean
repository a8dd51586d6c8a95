def tt_X7_auto : pm_T := fun args M k => match args with
  | [.ref 0] => ∃ A, okA A ∧ MY M A ∧ ∀ M', MY M' (fAuto A).2 → k (some (.int (fAuto A).1)) M'
  | _ => False
abbrev ct_X7_auto : List pm_C := [(false, 139, 7, 1, (some .int), tt_X7_cards), (false, 179, 7, 1, none, tt_X7_tryStand), (false, 176, 7, 4, (some .boolean), tt_X7_isMove), (false, 182, 7, 3, (some .int), tt_X7_whyNot), (false, 155, 7, 2, (some .int), tt_X7_lastOf), (false, 192, 7, 2, (some .boolean), tt_X7_isSafe), (false, 186, 7, 3, none, tt_X7_doMove), (false, 189, 7, 1, none, tt_X7_done)]
set_option maxHeartbeats 4000000 in
theorem sm_X7_auto  : pm_Sem SHy yX7_auto cX7_auto 4 (some .int) 3 tt_X7_auto := by
  refine pm_Sem_intro bl_X7_auto ct_X7_auto cs_X7_auto rfl (List.forall_mem_cons.mpr ⟨⟨_, _, _, _, sm_X7_cards, by decide, cm_X7_cards, by decide +kernel⟩, List.forall_mem_cons.mpr ⟨⟨_, _, _, _, sm_X7_tryStand, by decide, cm_X7_tryStand, by decide +kernel⟩, List.forall_mem_cons.mpr ⟨⟨_, _, _, _, sm_X7_isMove, by decide, cm_X7_isMove, by decide +kernel⟩, List.forall_mem_cons.mpr ⟨⟨_, _, _, _, sm_X7_whyNot, by decide, cm_X7_whyNot, by decide +kernel⟩, List.forall_mem_cons.mpr ⟨⟨_, _, _, _, sm_X7_lastOf, by decide, cm_X7_lastOf, by decide +kernel⟩, List.forall_mem_cons.mpr ⟨⟨_, _, _, _, sm_X7_isSafe, by decide, cm_X7_isSafe, by decide +kernel⟩, List.forall_mem_cons.mpr ⟨⟨_, _, _, _, sm_X7_doMove, by decide, cm_X7_doMove, by decide +kernel⟩, List.forall_mem_cons.mpr ⟨⟨_, _, _, _, sm_X7_done, by decide, cm_X7_done, by decide +kernel⟩, fun _ h => absurd h List.not_mem_nil⟩⟩⟩⟩⟩⟩⟩⟩) ck_X7_auto (by decide +kernel) (by decide) ?_
  intro X k hX args M hT
  have hb0 := hX 0 bk_X7_auto_0 (List.mem_of_getElem? (i := 0) rfl)
  have hb14 := hX 14 bk_X7_auto_14 (List.mem_of_getElem? (i := 1) rfl)
  have hb22 := hX 22 bk_X7_auto_22 (List.mem_of_getElem? (i := 2) rfl)
  have hb30 := hX 30 bk_X7_auto_30 (List.mem_of_getElem? (i := 3) rfl)
  have hb73 := hX 73 bk_X7_auto_73 (List.mem_of_getElem? (i := 4) rfl)
  have hb84 := hX 84 bk_X7_auto_84 (List.mem_of_getElem? (i := 5) rfl)
  have hb90 := hX 90 bk_X7_auto_90 (List.mem_of_getElem? (i := 6) rfl)
  have hb93 := hX 93 bk_X7_auto_93 (List.mem_of_getElem? (i := 7) rfl)
  have hb101 := hX 101 bk_X7_auto_101 (List.mem_of_getElem? (i := 8) rfl)
  clear hX
  unfold tt_X7_auto at hT; split at hT
  · obtain ⟨A, hA, hM, hT⟩ := hT
    obtain ⟨hD, hS, hL, h5', h7', hH, hPl, hTr, hQ⟩ := id hM
    have hP := hA.1
    have hE := hP.2.2.2.2.2.2.2.1
    obtain ⟨-, m0, m1, m2, m3, m4⟩ := id hD
    have hal := laid_lt hA
    unfold fAuto at hT
    refine ⟨by simp [lg_sl, Value.category], ?_⟩
    refine hb0 _ _ _ ?_
    simp (maxSteps := 2000000) [bk_X7_auto_0, bk_X7_auto_14, bk_X7_auto_22, bk_X7_auto_30, bk_X7_auto_73, bk_X7_auto_84, bk_X7_auto_90, bk_X7_auto_93, bk_X7_auto_101, pm_call, pm_e_c0, pm_e_c1, pm_e_cti, pm_e_ctl, pm_e_ctr, pm_e_go, pm_e_i, pm_e_ii, pm_e_ldi, pm_e_ldr, pm_e_lk, pm_e_r, pm_e_rm0, pm_e_rm1, pm_e_rs0, pm_e_rs1, pm_e_wp0, pm_e_wp1, pm_f2, pm_f3, pm_fld, pm_fv, pm_obj, pm_recv, pm_s_aload_n, pm_s_bipush, pm_s_getfield, pm_s_goto, pm_s_iconst, pm_s_ifCond_eq, pm_s_ifCond_le, pm_s_ifCond_ne, pm_s_if_icmp_ge, pm_s_iinc, pm_s_iload_n, pm_s_invokevirtual, pm_s_ireturn, pm_s_istore_n, ct_X7_auto, tt_X7_cards, pS, pR, pC, pE, pL, -Int32.not_le, -Int32.not_lt, -Int64.not_le, -Int64.not_lt, -List.getD_eq_getElem?_getD, lv_args, sy_0, h5', m0, m1]
    dsimp only [pS, pR] at hal
    rw [ni_mul, hal]
    refine ⟨fun hl => ?_, fun hl => ?_⟩
    · rw [if_pos hl] at hT
      have hfw := hA.fw hl
      have lS := WF.l12 hP hfw
      obtain ⟨N, E, hmx⟩ := mxs_ex hP hE 12 hfw (by omega)
      have hN := mxs_12 hP hE hfw hmx
      have hau := mxs_auN hP hE 12 hfw hmx hN
      have hWE := (mxs_ho hP hE N hfw hmx).2
      rw [hau] at hT
      simp only at hT
      have h101 : ∀ M' v, k (some (.int v)) M' → X 101 [(1, .int v)] [] M' := by
        intro M' v hv
        refine hb101 _ _ _ ?_
        simp (maxSteps := 2000000) [bk_X7_auto_0, bk_X7_auto_14, bk_X7_auto_22, bk_X7_auto_30, bk_X7_auto_73, bk_X7_auto_84, bk_X7_auto_90, bk_X7_auto_93, bk_X7_auto_101, pm_call, pm_e_c0, pm_e_c1, pm_e_cti, pm_e_ctl, pm_e_ctr, pm_e_go, pm_e_i, pm_e_ii, pm_e_ldi, pm_e_ldr, pm_e_lk, pm_e_r, pm_e_rm0, pm_e_rm1, pm_e_rs0, pm_e_rs1, pm_e_wp0, pm_e_wp1, pm_f2, pm_f3, pm_fld, pm_fv, pm_obj, pm_recv, pm_s_aload_n, pm_s_bipush, pm_s_getfield, pm_s_goto, pm_s_iconst, pm_s_ifCond_eq, pm_s_ifCond_le, pm_s_ifCond_ne, pm_s_if_icmp_ge, pm_s_iinc, pm_s_iload_n, pm_s_invokevirtual, pm_s_ireturn, pm_s_istore_n, ct_X7_auto, tt_X7_cards, pS, pR, pC, pE, pL, -Int32.not_le, -Int32.not_lt, -Int64.not_le, -Int64.not_lt, -List.getD_eq_getElem?_getD]
        exact hv
      have out : ∀ (M1 : pm_M), SdY M1 10 0 (pR (aP A)) E → yfr [10, 11, 12, 13] [22] M M1 → X 93 [(0, .ref 0), (1, .int (nI N))] [] M1 := by
        intro M1 s1 f1
        refine hb93 _ _ _ ?_
        simp (maxSteps := 2000000) [bk_X7_auto_0, bk_X7_auto_14, bk_X7_auto_22, bk_X7_auto_30, bk_X7_auto_73, bk_X7_auto_84, bk_X7_auto_90, bk_X7_auto_93, bk_X7_auto_101, pm_call, pm_e_c0, pm_e_c1, pm_e_cti, pm_e_ctl, pm_e_ctr, pm_e_go, pm_e_i, pm_e_ii, pm_e_ldi, pm_e_ldr, pm_e_lk, pm_e_r, pm_e_rm0, pm_e_rm1, pm_e_rs0, pm_e_rs1, pm_e_wp0, pm_e_wp1, pm_f2, pm_f3, pm_fld, pm_fv, pm_obj, pm_recv, pm_s_aload_n, pm_s_bipush, pm_s_getfield, pm_s_goto, pm_s_iconst, pm_s_ifCond_eq, pm_s_ifCond_le, pm_s_ifCond_ne, pm_s_if_icmp_ge, pm_s_iinc, pm_s_iload_n, pm_s_invokevirtual, pm_s_ireturn, pm_s_istore_n, ct_X7_auto, tt_X7_cards, pS, pR, pC, pE, pL, -Int32.not_le, -Int32.not_lt, -Int64.not_le, -Int64.not_lt, -List.getD_eq_getElem?_getD, sy_0]
        simp (disch := omega) only [ni_in, ni_cl, ni_add, ni_mul, ni_sub, ni_lt, ni_le, ni_eq, ni_eq0, ni_lt0, ni_0le, ni_0lt, ni_le0, ni_a1, ni_a3, ni_a7, ni_a15]
        refine ⟨fun h => ?_, fun h => ?_⟩
        · rw [if_pos h] at hT
          rw [h]
          exact h101 M1 _ (hT M1 (hM.scr f1 (by decide) (by decide)))
        · rw [if_neg h] at hT
          refine ⟨pR (aP A), aS A, E, aH A, aPr A, aLa A, hS.mv f1 (by decide) (by decide), s1, hH.mv f1 (by decide) (by decide), hA.2.2.2.1, lS, WF.l12 hP hWE, hA.l12H, hA.2.2.1.1, hA.2.2.1.2, fun M4 s4 h4 f4 => ?_⟩
          simp (maxSteps := 2000000) [bk_X7_auto_0, bk_X7_auto_14, bk_X7_auto_22, bk_X7_auto_30, bk_X7_auto_73, bk_X7_auto_84, bk_X7_auto_90, bk_X7_auto_93, bk_X7_auto_101, pm_call, pm_e_c0, pm_e_c1, pm_e_cti, pm_e_ctl, pm_e_ctr, pm_e_go, pm_e_i, pm_e_ii, pm_e_ldi, pm_e_ldr, pm_e_lk, pm_e_r, pm_e_rm0, pm_e_rm1, pm_e_rs0, pm_e_rs1, pm_e_wp0, pm_e_wp1, pm_f2, pm_f3, pm_fld, pm_fv, pm_obj, pm_recv, pm_s_aload_n, pm_s_bipush, pm_s_getfield, pm_s_goto, pm_s_iconst, pm_s_ifCond_eq, pm_s_ifCond_le, pm_s_ifCond_ne, pm_s_if_icmp_ge, pm_s_iinc, pm_s_iload_n, pm_s_invokevirtual, pm_s_ireturn, pm_s_istore_n, ct_X7_auto, tt_X7_cards, pS, pR, pC, pE, pL, -Int32.not_le, -Int32.not_lt, -Int64.not_le, -Int64.not_lt, -List.getD_eq_getElem?_getD]
          refine h101 M4 _ (hT M4 (hM.kp s4 h4 ?_ ((f1.mono (by decide) (by decide)).trans (f4.mono (by decide) (by decide)))))
          rw [f4.f (by decide), f1.f (by decide)]; exact h7'
      -- over the sweeps
      have loop : ∀ (f n : Nat) (T : St) (M1 : pm_M), N ≤ n + f → n ≤ N → FW (aP A) (pE (aP A)) T → mxs (aP A) (pE (aP A)) (N - n) T E → SdY M1 10 0 (pR (aP A)) T → M1.1 0 22 = nI (pE (aP A)) → yfr [10, 11, 12, 13] [22] M M1 → X 22 [(0, .ref 0), (1, .int (nI n)), (2, .int (nI 1))] [] M1 := by
        intro f
        induction f using Nat.strongRecOn with
        | _ f ih =>
          intro n T M1 hf hn hW hm s1 e22 f1
          have inner : ∀ (g a n' : Nat) (T' : St) (M2 : pm_M) (b : Bool), 6 ≤ a + g → a ≤ 6 → n ≤ n' → n' ≤ N → FW (aP A) (pE (aP A)) T' → mxs (aP A) (pE (aP A)) (N - n') T' E → (b = true → n < n') → (b = false → n' = n ∧ ∀ c, c < a → goesN (aP A) (pE (aP A)) T' c = false) → SdY M2 10 0 (pR (aP A)) T' → M2.1 0 22 = nI (pE (aP A)) → yfr [10, 11, 12, 13] [22] M M2 → X 30 [(0, .ref 0), (1, .int (nI n')), (2, .int (pb b)), (3, .int (nI a))] [] M2 := by
            intro g
            have fin : ∀ (n' : Nat) (T' : St) (M2 : pm_M) (b : Bool), n ≤ n' → n' ≤ N → FW (aP A) (pE (aP A)) T' → mxs (aP A) (pE (aP A)) (N - n') T' E → (b = true → n < n') → (b = false → n' = n ∧ ∀ c, c < 6 → goesN (aP A) (pE (aP A)) T' c = false) → SdY M2 10 0 (pR (aP A)) T' → M2.1 0 22 = nI (pE (aP A)) → yfr [10, 11, 12, 13] [22] M M2 → X 90 [(0, .ref 0), (1, .int (nI n')), (2, .int (pb b))] [] M2 := by
              intro n' T' M2 b r1 r2 r3 r4 r5 r6 r7 r8 r9
              refine hb90 _ _ _ ?_
              simp (maxSteps := 2000000) [bk_X7_auto_0, bk_X7_auto_14, bk_X7_auto_22, bk_X7_auto_30, bk_X7_auto_73, bk_X7_auto_84, bk_X7_auto_90, bk_X7_auto_93, bk_X7_auto_101, pm_call, pm_e_c0, pm_e_c1, pm_e_cti, pm_e_ctl, pm_e_ctr, pm_e_go, pm_e_i, pm_e_ii, pm_e_ldi, pm_e_ldr, pm_e_lk, pm_e_r, pm_e_rm0, pm_e_rm1, pm_e_rs0, pm_e_rs1, pm_e_wp0, pm_e_wp1, pm_f2, pm_f3, pm_fld, pm_fv, pm_obj, pm_recv, pm_s_aload_n, pm_s_bipush, pm_s_getfield, pm_s_goto, pm_s_iconst, pm_s_ifCond_eq, pm_s_ifCond_le, pm_s_ifCond_ne, pm_s_if_icmp_ge, pm_s_iinc, pm_s_iload_n, pm_s_invokevirtual, pm_s_ireturn, pm_s_istore_n, ct_X7_auto, tt_X7_cards, pS, pR, pC, pE, pL, -Int32.not_le, -Int32.not_lt, -Int64.not_le, -Int64.not_lt, -List.getD_eq_getElem?_getD]
              cases b with
              | true =>
                have := r5 rfl
                exact ih (N - n') (by omega) n' T' M2 (by omega) r2 r3 r4 r7 r8 r9
              | false =>
                obtain ⟨z1, z2⟩ := r6 rfl
                have u := mxs_uniq hP hE (N - n') r3 r4 (show mxs (aP A) (pE (aP A)) 0 T' T' from ⟨rfl, z2⟩)
                have en : n' = N := by omega
                rw [en]
                have r7' : SdY M2 10 0 (pR (aP A)) E := by rw [u.2]; exact r7
                refine hb22 _ _ _ ?_
                simp (maxSteps := 2000000) [bk_X7_auto_0, bk_X7_auto_14, bk_X7_auto_22, bk_X7_auto_30, bk_X7_auto_73, bk_X7_auto_84, bk_X7_auto_90, bk_X7_auto_93, bk_X7_auto_101, pm_call, pm_e_c0, pm_e_c1, pm_e_cti, pm_e_ctl, pm_e_ctr, pm_e_go, pm_e_i, pm_e_ii, pm_e_ldi, pm_e_ldr, pm_e_lk, pm_e_r, pm_e_rm0, pm_e_rm1, pm_e_rs0, pm_e_rs1, pm_e_wp0, pm_e_wp1, pm_f2, pm_f3, pm_fld, pm_fv, pm_obj, pm_recv, pm_s_aload_n, pm_s_bipush, pm_s_getfield, pm_s_goto, pm_s_iconst, pm_s_ifCond_eq, pm_s_ifCond_le, pm_s_ifCond_ne, pm_s_if_icmp_ge, pm_s_iinc, pm_s_iload_n, pm_s_invokevirtual, pm_s_ireturn, pm_s_istore_n, ct_X7_auto, tt_X7_cards, pS, pR, pC, pE, pL, -Int32.not_le, -Int32.not_lt, -Int64.not_le, -Int64.not_lt, -List.getD_eq_getElem?_getD]
                exact ⟨fun _ => out M2 r7' r9, fun z => absurd rfl z⟩
            induction g with
            | zero =>
              intro a n' T' M2 b g1 g2 r1 r2 r3 r4 r5 r6 r7 r8 r9
              have e : a = 6 := by omega
              subst e
              refine hb30 _ _ _ ?_
              simp (maxSteps := 2000000) [bk_X7_auto_0, bk_X7_auto_14, bk_X7_auto_22, bk_X7_auto_30, bk_X7_auto_73, bk_X7_auto_84, bk_X7_auto_90, bk_X7_auto_93, bk_X7_auto_101, pm_call, pm_e_c0, pm_e_c1, pm_e_cti, pm_e_ctl, pm_e_ctr, pm_e_go, pm_e_i, pm_e_ii, pm_e_ldi, pm_e_ldr, pm_e_lk, pm_e_r, pm_e_rm0, pm_e_rm1, pm_e_rs0, pm_e_rs1, pm_e_wp0, pm_e_wp1, pm_f2, pm_f3, pm_fld, pm_fv, pm_obj, pm_recv, pm_s_aload_n, pm_s_bipush, pm_s_getfield, pm_s_goto, pm_s_iconst, pm_s_ifCond_eq, pm_s_ifCond_le, pm_s_ifCond_ne, pm_s_if_icmp_ge, pm_s_iinc, pm_s_iload_n, pm_s_invokevirtual, pm_s_ireturn, pm_s_istore_n, ct_X7_auto, tt_X7_cards, pS, pR, pC, pE, pL, -Int32.not_le, -Int32.not_lt, -Int64.not_le, -Int64.not_lt, -List.getD_eq_getElem?_getD]
              exact fin n' T' M2 b r1 r2 r3 r4 r5 r6 r7 r8 r9
            | succ g ihg =>
              intro a n' T' M2 b g1 g2 r1 r2 r3 r4 r5 r6 r7 r8 r9
              by_cases ha : a < 6
              · have hD2 := hD.mv r9 (by decide)
                have m3' := hD2.2.2.2.2.1
                have enm := nmF_n hP (ec := pE (aP A)) (a := a) (b := 5) hE (by omega) (by omega)
                have hw5 := whyF_le (aP A) (pE (aP A)) T' a 5
                have h84 : ∀ (n'' : Nat) (T'' : St) (M3 : pm_M) (b' : Bool), n ≤ n'' → n'' ≤ N → FW (aP A) (pE (aP A)) T'' → mxs (aP A) (pE (aP A)) (N - n'') T'' E → (b' = true → n < n'') → (b' = false → n'' = n ∧ ∀ c, c < a + 1 → goesN (aP A) (pE (aP A)) T'' c = false) → SdY M3 10 0 (pR (aP A)) T'' → M3.1 0 22 = nI (pE (aP A)) → yfr [10, 11, 12, 13] [22] M M3 → X 84 [(0, .ref 0), (1, .int (nI n'')), (2, .int (pb b')), (3, .int (nI a))] [] M3 := by
                  intro n'' T'' M3 b' t1 t2 t3 t4 t5 t6 t7 t8 t9
                  refine hb84 _ _ _ ?_
                  simp (maxSteps := 2000000) [bk_X7_auto_0, bk_X7_auto_14, bk_X7_auto_22, bk_X7_auto_30, bk_X7_auto_73, bk_X7_auto_84, bk_X7_auto_90, bk_X7_auto_93, bk_X7_auto_101, pm_call, pm_e_c0, pm_e_c1, pm_e_cti, pm_e_ctl, pm_e_ctr, pm_e_go, pm_e_i, pm_e_ii, pm_e_ldi, pm_e_ldr, pm_e_lk, pm_e_r, pm_e_rm0, pm_e_rm1, pm_e_rs0, pm_e_rs1, pm_e_wp0, pm_e_wp1, pm_f2, pm_f3, pm_fld, pm_fv, pm_obj, pm_recv, pm_s_aload_n, pm_s_bipush, pm_s_getfield, pm_s_goto, pm_s_iconst, pm_s_ifCond_eq, pm_s_ifCond_le, pm_s_ifCond_ne, pm_s_if_icmp_ge, pm_s_iinc, pm_s_iload_n, pm_s_invokevirtual, pm_s_ireturn, pm_s_istore_n, ct_X7_auto, tt_X7_cards, pS, pR, pC, pE, pL, -Int32.not_le, -Int32.not_lt, -Int64.not_le, -Int64.not_lt, -List.getD_eq_getElem?_getD]
                  rw [ni_add]
                  exact ihg (a + 1) n'' T'' M3 b' (by omega) (by omega) t1 t2 t3 t4 t5 t6 t7 t8 t9
                have no : goesN (aP A) (pE (aP A)) T' a = false → X 84 [(0, .ref 0), (1, .int (nI n')), (2, .int (pb b)), (3, .int (nI a))] [] M2 := by
                  intro hg
                  refine h84 n' T' M2 b r1 r2 r3 r4 r5 (fun hb => ⟨(r6 hb).1, fun c hc => ?_⟩) r7 r8 r9
                  by_cases z : c = a
                  · rw [z]; exact hg
                  · exact (r6 hb).2 c (by omega)
                refine hb30 _ _ _ ?_
                simp (maxSteps := 2000000) [bk_X7_auto_0, bk_X7_auto_14, bk_X7_auto_22, bk_X7_auto_30, bk_X7_auto_73, bk_X7_auto_84, bk_X7_auto_90, bk_X7_auto_93, bk_X7_auto_101, pm_call, pm_e_c0, pm_e_c1, pm_e_cti, pm_e_ctl, pm_e_ctr, pm_e_go, pm_e_i, pm_e_ii, pm_e_ldi, pm_e_ldr, pm_e_lk, pm_e_r, pm_e_rm0, pm_e_rm1, pm_e_rs0, pm_e_rs1, pm_e_wp0, pm_e_wp1, pm_f2, pm_f3, pm_fld, pm_fv, pm_obj, pm_recv, pm_s_aload_n, pm_s_bipush, pm_s_getfield, pm_s_goto, pm_s_iconst, pm_s_ifCond_eq, pm_s_ifCond_le, pm_s_ifCond_ne, pm_s_if_icmp_ge, pm_s_iinc, pm_s_iload_n, pm_s_invokevirtual, pm_s_ireturn, pm_s_istore_n, ct_X7_auto, tt_X7_cards, pS, pR, pC, pE, pL, -Int32.not_le, -Int32.not_lt, -Int64.not_le, -Int64.not_lt, -List.getD_eq_getElem?_getD, sy_0]
                rw [ni_le (by decide) (by omega)]
                refine ⟨fun z => by omega, fun _ => ⟨aP A, pE (aP A), hD2, hE, m3', ?_⟩⟩
                rw [enm]
                simp (maxSteps := 2000000) [bk_X7_auto_0, bk_X7_auto_14, bk_X7_auto_22, bk_X7_auto_30, bk_X7_auto_73, bk_X7_auto_84, bk_X7_auto_90, bk_X7_auto_93, bk_X7_auto_101, pm_call, pm_e_c0, pm_e_c1, pm_e_cti, pm_e_ctl, pm_e_ctr, pm_e_go, pm_e_i, pm_e_ii, pm_e_ldi, pm_e_ldr, pm_e_lk, pm_e_r, pm_e_rm0, pm_e_rm1, pm_e_rs0, pm_e_rs1, pm_e_wp0, pm_e_wp1, pm_f2, pm_f3, pm_fld, pm_fv, pm_obj, pm_recv, pm_s_aload_n, pm_s_bipush, pm_s_getfield, pm_s_goto, pm_s_iconst, pm_s_ifCond_eq, pm_s_ifCond_le, pm_s_ifCond_ne, pm_s_if_icmp_ge, pm_s_iinc, pm_s_iload_n, pm_s_invokevirtual, pm_s_ireturn, pm_s_istore_n, ct_X7_auto, tt_X7_cards, pS, pR, pC, pE, pL, -Int32.not_le, -Int32.not_lt, -Int64.not_le, -Int64.not_lt, -List.getD_eq_getElem?_getD, sy_0, pb_eq0]
                refine ⟨fun hn0 => no (by unfold goesN canN; rw [hn0]; rfl), fun hn0 => ?_⟩
                refine ⟨aP A, pE (aP A), T', a, 5, rfl, rfl, ha, by decide, hD2, hE, r8, r7, r3.ok hP, r3.inDk, ?_⟩
                simp (maxSteps := 2000000) [bk_X7_auto_0, bk_X7_auto_14, bk_X7_auto_22, bk_X7_auto_30, bk_X7_auto_73, bk_X7_auto_84, bk_X7_auto_90, bk_X7_auto_93, bk_X7_auto_101, pm_call, pm_e_c0, pm_e_c1, pm_e_cti, pm_e_ctl, pm_e_ctr, pm_e_go, pm_e_i, pm_e_ii, pm_e_ldi, pm_e_ldr, pm_e_lk, pm_e_r, pm_e_rm0, pm_e_rm1, pm_e_rs0, pm_e_rs1, pm_e_wp0, pm_e_wp1, pm_f2, pm_f3, pm_fld, pm_fv, pm_obj, pm_recv, pm_s_aload_n, pm_s_bipush, pm_s_getfield, pm_s_goto, pm_s_iconst, pm_s_ifCond_eq, pm_s_ifCond_le, pm_s_ifCond_ne, pm_s_if_icmp_ge, pm_s_iinc, pm_s_iload_n, pm_s_invokevirtual, pm_s_ireturn, pm_s_istore_n, ct_X7_auto, tt_X7_cards, pS, pR, pC, pE, pL, -Int32.not_le, -Int32.not_lt, -Int64.not_le, -Int64.not_lt, -List.getD_eq_getElem?_getD, sy_0]
                dsimp only [pE] at hw5
                rw [ni_eq0 (by omega)]
                refine ⟨fun hw => no (by unfold goesN canN; rw [decide_eq_false (show ¬ whyF (aP A) (pE (aP A)) T' a 5 = 0 from hw), Bool.and_false]; rfl), fun hw => ?_⟩
                have hcan : canN (aP A) (pE (aP A)) T' a 5 = true := by unfold canN; rw [hn0]; exact decide_eq_true hw
                have hc0 := (can_nm hcan).2.1
                have hcl := r3.cardL ha
                refine ⟨pR (aP A), a, T', rfl, ha, r7, r3.ok hP, ?_⟩
                simp (maxSteps := 2000000) [bk_X7_auto_0, bk_X7_auto_14, bk_X7_auto_22, bk_X7_auto_30, bk_X7_auto_73, bk_X7_auto_84, bk_X7_auto_90, bk_X7_auto_93, bk_X7_auto_101, pm_call, pm_e_c0, pm_e_c1, pm_e_cti, pm_e_ctl, pm_e_ctr, pm_e_go, pm_e_i, pm_e_ii, pm_e_ldi, pm_e_ldr, pm_e_lk, pm_e_r, pm_e_rm0, pm_e_rm1, pm_e_rs0, pm_e_rs1, pm_e_wp0, pm_e_wp1, pm_f2, pm_f3, pm_fld, pm_fv, pm_obj, pm_recv, pm_s_aload_n, pm_s_bipush, pm_s_getfield, pm_s_goto, pm_s_iconst, pm_s_ifCond_eq, pm_s_ifCond_le, pm_s_ifCond_ne, pm_s_if_icmp_ge, pm_s_iinc, pm_s_iload_n, pm_s_invokevirtual, pm_s_ireturn, pm_s_istore_n, ct_X7_auto, tt_X7_cards, pS, pR, pC, pE, pL, -Int32.not_le, -Int32.not_lt, -Int64.not_le, -Int64.not_lt, -List.getD_eq_getElem?_getD, sy_0]
                refine ⟨aP A, cardF T' a, T', rfl, hD2, r7, r3.ok hP, ⟨by omega, hcl⟩, ?_⟩
                simp (maxSteps := 2000000) [bk_X7_auto_0, bk_X7_auto_14, bk_X7_auto_22, bk_X7_auto_30, bk_X7_auto_73, bk_X7_auto_84, bk_X7_auto_90, bk_X7_auto_93, bk_X7_auto_101, pm_call, pm_e_c0, pm_e_c1, pm_e_cti, pm_e_ctl, pm_e_ctr, pm_e_go, pm_e_i, pm_e_ii, pm_e_ldi, pm_e_ldr, pm_e_lk, pm_e_r, pm_e_rm0, pm_e_rm1, pm_e_rs0, pm_e_rs1, pm_e_wp0, pm_e_wp1, pm_f2, pm_f3, pm_fld, pm_fv, pm_obj, pm_recv, pm_s_aload_n, pm_s_bipush, pm_s_getfield, pm_s_goto, pm_s_iconst, pm_s_ifCond_eq, pm_s_ifCond_le, pm_s_ifCond_ne, pm_s_if_icmp_ge, pm_s_iinc, pm_s_iload_n, pm_s_invokevirtual, pm_s_ireturn, pm_s_istore_n, ct_X7_auto, tt_X7_cards, pS, pR, pC, pE, pL, -Int32.not_le, -Int32.not_lt, -Int64.not_le, -Int64.not_lt, -List.getD_eq_getElem?_getD, pb_eq0]
                refine ⟨fun hs => ?_, fun hs => no (by unfold goesN; rw [hs, Bool.and_false])⟩
                have hg : goesN (aP A) (pE (aP A)) T' a = true := by unfold goesN; rw [hcan, hs]; rfl
                obtain ⟨w1, w2⟩ := mxs_step hP hE r3 r4 ha hg
                refine hb73 _ _ _ ?_
                simp (maxSteps := 2000000) [bk_X7_auto_0, bk_X7_auto_14, bk_X7_auto_22, bk_X7_auto_30, bk_X7_auto_73, bk_X7_auto_84, bk_X7_auto_90, bk_X7_auto_93, bk_X7_auto_101, pm_call, pm_e_c0, pm_e_c1, pm_e_cti, pm_e_ctl, pm_e_ctr, pm_e_go, pm_e_i, pm_e_ii, pm_e_ldi, pm_e_ldr, pm_e_lk, pm_e_r, pm_e_rm0, pm_e_rm1, pm_e_rs0, pm_e_rs1, pm_e_wp0, pm_e_wp1, pm_f2, pm_f3, pm_fld, pm_fv, pm_obj, pm_recv, pm_s_aload_n, pm_s_bipush, pm_s_getfield, pm_s_goto, pm_s_iconst, pm_s_ifCond_eq, pm_s_ifCond_le, pm_s_ifCond_ne, pm_s_if_icmp_ge, pm_s_iinc, pm_s_iload_n, pm_s_invokevirtual, pm_s_ireturn, pm_s_istore_n, ct_X7_auto, tt_X7_cards, pS, pR, pC, pE, pL, -Int32.not_le, -Int32.not_lt, -Int64.not_le, -Int64.not_lt, -List.getD_eq_getElem?_getD, sy_0]
                refine ⟨aP A, pE (aP A), T', a, 5, rfl, rfl, by decide, hD2, hE, r8, r7, r3, hcan, fun M3 s3 f3 => ?_⟩
                simp (maxSteps := 2000000) [bk_X7_auto_0, bk_X7_auto_14, bk_X7_auto_22, bk_X7_auto_30, bk_X7_auto_73, bk_X7_auto_84, bk_X7_auto_90, bk_X7_auto_93, bk_X7_auto_101, pm_call, pm_e_c0, pm_e_c1, pm_e_cti, pm_e_ctl, pm_e_ctr, pm_e_go, pm_e_i, pm_e_ii, pm_e_ldi, pm_e_ldr, pm_e_lk, pm_e_r, pm_e_rm0, pm_e_rm1, pm_e_rs0, pm_e_rs1, pm_e_wp0, pm_e_wp1, pm_f2, pm_f3, pm_fld, pm_fv, pm_obj, pm_recv, pm_s_aload_n, pm_s_bipush, pm_s_getfield, pm_s_goto, pm_s_iconst, pm_s_ifCond_eq, pm_s_ifCond_le, pm_s_ifCond_ne, pm_s_if_icmp_ge, pm_s_iinc, pm_s_iload_n, pm_s_invokevirtual, pm_s_ireturn, pm_s_istore_n, ct_X7_auto, tt_X7_cards, pS, pR, pC, pE, pL, -Int32.not_le, -Int32.not_lt, -Int64.not_le, -Int64.not_lt, -List.getD_eq_getElem?_getD]
                rw [ni_add]
                refine h84 (n' + 1) _ M3 true (by omega) (by omega) (WF.mv hP hE r3 (by decide) hcan) ?_ (fun _ => by omega) (fun z => absurd z (by simp)) s3 (by rw [f3.f (by simp)]; exact r8) (r9.trans (f3.mono (by decide) (by simp)))
                rw [show N - (n' + 1) = N - n' - 1 by omega]; exact w2
              · have e : a = 6 := by omega
                subst e
                refine hb30 _ _ _ ?_
                simp (maxSteps := 2000000) [bk_X7_auto_0, bk_X7_auto_14, bk_X7_auto_22, bk_X7_auto_30, bk_X7_auto_73, bk_X7_auto_84, bk_X7_auto_90, bk_X7_auto_93, bk_X7_auto_101, pm_call, pm_e_c0, pm_e_c1, pm_e_cti, pm_e_ctl, pm_e_ctr, pm_e_go, pm_e_i, pm_e_ii, pm_e_ldi, pm_e_ldr, pm_e_lk, pm_e_r, pm_e_rm0, pm_e_rm1, pm_e_rs0, pm_e_rs1, pm_e_wp0, pm_e_wp1, pm_f2, pm_f3, pm_fld, pm_fv, pm_obj, pm_recv, pm_s_aload_n, pm_s_bipush, pm_s_getfield, pm_s_goto, pm_s_iconst, pm_s_ifCond_eq, pm_s_ifCond_le, pm_s_ifCond_ne, pm_s_if_icmp_ge, pm_s_iinc, pm_s_iload_n, pm_s_invokevirtual, pm_s_ireturn, pm_s_istore_n, ct_X7_auto, tt_X7_cards, pS, pR, pC, pE, pL, -Int32.not_le, -Int32.not_lt, -Int64.not_le, -Int64.not_lt, -List.getD_eq_getElem?_getD]
                exact fin n' T' M2 b r1 r2 r3 r4 r5 r6 r7 r8 r9
          refine hb22 _ _ _ ?_
          simp (maxSteps := 2000000) [bk_X7_auto_0, bk_X7_auto_14, bk_X7_auto_22, bk_X7_auto_30, bk_X7_auto_73, bk_X7_auto_84, bk_X7_auto_90, bk_X7_auto_93, bk_X7_auto_101, pm_call, pm_e_c0, pm_e_c1, pm_e_cti, pm_e_ctl, pm_e_ctr, pm_e_go, pm_e_i, pm_e_ii, pm_e_ldi, pm_e_ldr, pm_e_lk, pm_e_r, pm_e_rm0, pm_e_rm1, pm_e_rs0, pm_e_rs1, pm_e_wp0, pm_e_wp1, pm_f2, pm_f3, pm_fld, pm_fv, pm_obj, pm_recv, pm_s_aload_n, pm_s_bipush, pm_s_getfield, pm_s_goto, pm_s_iconst, pm_s_ifCond_eq, pm_s_ifCond_le, pm_s_ifCond_ne, pm_s_if_icmp_ge, pm_s_iinc, pm_s_iload_n, pm_s_invokevirtual, pm_s_ireturn, pm_s_istore_n, ct_X7_auto, tt_X7_cards, pS, pR, pC, pE, pL, -Int32.not_le, -Int32.not_lt, -Int64.not_le, -Int64.not_lt, -List.getD_eq_getElem?_getD]
          refine ⟨fun z => absurd z (by decide), fun _ => ?_⟩
          exact inner 6 0 n T M1 false (by omega) (by omega) (by omega) hn hW hm (fun z => absurd z (by simp)) (fun _ => ⟨rfl, fun c hc => by omega⟩) s1 e22 f1
      refine hb14 _ _ _ ?_
      simp (maxSteps := 2000000) [bk_X7_auto_0, bk_X7_auto_14, bk_X7_auto_22, bk_X7_auto_30, bk_X7_auto_73, bk_X7_auto_84, bk_X7_auto_90, bk_X7_auto_93, bk_X7_auto_101, pm_call, pm_e_c0, pm_e_c1, pm_e_cti, pm_e_ctl, pm_e_ctr, pm_e_go, pm_e_i, pm_e_ii, pm_e_ldi, pm_e_ldr, pm_e_lk, pm_e_r, pm_e_rm0, pm_e_rm1, pm_e_rs0, pm_e_rs1, pm_e_wp0, pm_e_wp1, pm_f2, pm_f3, pm_fld, pm_fv, pm_obj, pm_recv, pm_s_aload_n, pm_s_bipush, pm_s_getfield, pm_s_goto, pm_s_iconst, pm_s_ifCond_eq, pm_s_ifCond_le, pm_s_ifCond_ne, pm_s_if_icmp_ge, pm_s_iinc, pm_s_iload_n, pm_s_invokevirtual, pm_s_ireturn, pm_s_istore_n, ct_X7_auto, tt_X7_cards, pS, pR, pC, pE, pL, -Int32.not_le, -Int32.not_lt, -Int64.not_le, -Int64.not_lt, -List.getD_eq_getElem?_getD, sy_0]
      intro M1 c1 k1 e22 f1
      simp (maxSteps := 2000000) [bk_X7_auto_0, bk_X7_auto_14, bk_X7_auto_22, bk_X7_auto_30, bk_X7_auto_73, bk_X7_auto_84, bk_X7_auto_90, bk_X7_auto_93, bk_X7_auto_101, pm_call, pm_e_c0, pm_e_c1, pm_e_cti, pm_e_ctl, pm_e_ctr, pm_e_go, pm_e_i, pm_e_ii, pm_e_ldi, pm_e_ldr, pm_e_lk, pm_e_r, pm_e_rm0, pm_e_rm1, pm_e_rs0, pm_e_rs1, pm_e_wp0, pm_e_wp1, pm_f2, pm_f3, pm_fld, pm_fv, pm_obj, pm_recv, pm_s_aload_n, pm_s_bipush, pm_s_getfield, pm_s_goto, pm_s_iconst, pm_s_ifCond_eq, pm_s_ifCond_le, pm_s_ifCond_ne, pm_s_if_icmp_ge, pm_s_iinc, pm_s_iload_n, pm_s_invokevirtual, pm_s_ireturn, pm_s_istore_n, ct_X7_auto, tt_X7_cards, pS, pR, pC, pE, pL, -Int32.not_le, -Int32.not_lt, -Int64.not_le, -Int64.not_lt, -List.getD_eq_getElem?_getD]
      exact loop N 0 (aS A) M1 (by omega) (by omega) hfw hmx (c1.sd hS lS) (by rw [e22]; exact m3) f1
    · rw [if_neg hl] at hT
      exact hT M hM
  · exact hT.elim
def tt_X7_isBuried : pm_T := fun args M k => match args with
  | [.ref 0, .int x, .int y] => ∃ (P : Pm) (S : St) (i j : Nat), x = nI i ∧ y = nI j ∧ okP P ∧ SdY M 2 0 (pR P) S ∧ okS S ∧ inD P S ∧ i < 4 ∧ j < (S.1 i).length ∧ k (some (.int (pb (bury (pR P) (S.1 i) j)))) M
  | _ => False
abbrev ct_X7_isBuried : List pm_C := []
set_option maxHeartbeats 4000000 in
theorem sm_X7_isBuried  : pm_Sem SHy yX7_isBuried cX7_isBuried 6 (some .boolean) 1 tt_X7_isBuried := by
  refine pm_Sem_intro bl_X7_isBuried ct_X7_isBuried cs_X7_isBuried rfl (fun _ h => absurd h List.not_mem_nil) ck_X7_isBuried (by decide +kernel) (by decide) ?_
  intro X k hX args M hT
  have hb0 := hX 0 bk_X7_isBuried_0 (List.mem_of_getElem? (i := 0) rfl)
  have hb15 := hX 15 bk_X7_isBuried_15 (List.mem_of_getElem? (i := 1) rfl)
  have hb53 := hX 53 bk_X7_isBuried_53 (List.mem_of_getElem? (i := 2) rfl)
  have hb59 := hX 59 bk_X7_isBuried_59 (List.mem_of_getElem? (i := 3) rfl)
  clear hX
  unfold tt_X7_isBuried at hT; split at hT
  · next x y =>
    obtain ⟨P, S, i, j, rfl, rfl, hP, hS, hO, hI, hi, hj, hT⟩ := hT
    obtain ⟨h1, h2, h3, h4, h5, h6, h7, h8, h9⟩ := id hP
    have hl := (hO.1 i hi).1
    have hcd : ∀ a, a < (S.1 i).length → 1 ≤ (S.1 i).getD a 0 ∧ (S.1 i).getD a 0 ≤ pS P * pR P := fun a ha => ⟨((hO.1 i hi).2 _ (getD_mem ha)).1, hI.1 i hi _ (getD_mem ha)⟩
    have hc : ∀ a, a < (S.1 i).length → M.1 3 (12 * i + a) = nI (cdN (pR P) ((S.1 i).getD a 0)) := fun a ha => hS.c hi ha
    obtain ⟨c1, c2⟩ := cd_sh hP (hcd j hj).1 (hcd j hj).2
    have c32 := cdN_le hP (hcd j hj).2
    have un := su_lt h3 (hcd j hj).1 (hcd j hj).2
    unfold bury at hT
    refine ⟨by simp [lg_sl, Value.category], ?_⟩
    have loop : ∀ (f a : Nat), j ≤ a + f → a ≤ j → (∀ u, u < a → (decide (su (pR P) ((S.1 i).getD u 0) = su (pR P) ((S.1 i).getD j 0)) && decide (ra (pR P) ((S.1 i).getD u 0) < ra (pR P) ((S.1 i).getD j 0))) = false) → X 15 [(0, .ref 0), (1, .int (nI i)), (2, .int (nI j)), (3, .int (nI (cdN (pR P) ((S.1 i).getD j 0)))), (4, .int (nI a))] [] M := by
      intro f
      have out : (∀ u, u < j → (decide (su (pR P) ((S.1 i).getD u 0) = su (pR P) ((S.1 i).getD j 0)) && decide (ra (pR P) ((S.1 i).getD u 0) < ra (pR P) ((S.1 i).getD j 0))) = false) → X 59 [] [] M := by
        intro hn
        rw [anyN_no hn] at hT
        refine hb59 _ _ _ ?_
        simp (maxSteps := 2000000) [bk_X7_isBuried_0, bk_X7_isBuried_15, bk_X7_isBuried_53, bk_X7_isBuried_59, pm_arr, pm_e_c0, pm_e_c1, pm_e_cti, pm_e_ctl, pm_e_ctr, pm_e_go, pm_e_i, pm_e_ii, pm_e_ldi, pm_e_ldr, pm_e_lk, pm_e_r, pm_e_ri, pm_e_rm0, pm_e_rm1, pm_e_rs0, pm_e_rs1, pm_e_wp0, pm_e_wp1, pm_f2, pm_f3, pm_fld, pm_fv, pm_obj, pm_s_aload_n, pm_s_bipush, pm_s_getfield, pm_s_goto, pm_s_iadd, pm_s_iaload, pm_s_iconst, pm_s_if_icmp_ge, pm_s_if_icmp_ne, pm_s_iinc, pm_s_iload, pm_s_iload_n, pm_s_imul, pm_s_ireturn, pm_s_ishr, pm_s_istore, pm_s_istore_n, ct_X7_isBuried, pS, pR, pC, pE, pL, -Int32.not_le, -Int32.not_lt, -Int64.not_le, -Int64.not_lt, -List.getD_eq_getElem?_getD]
        exact ⟨Or.inl rfl, hT⟩
      induction f with
      | zero =>
        intro a f1 f2 hn
        have e : a = j := by omega
        subst e
        refine hb15 _ _ _ ?_
        simp (maxSteps := 2000000) [bk_X7_isBuried_0, bk_X7_isBuried_15, bk_X7_isBuried_53, bk_X7_isBuried_59, pm_arr, pm_e_c0, pm_e_c1, pm_e_cti, pm_e_ctl, pm_e_ctr, pm_e_go, pm_e_i, pm_e_ii, pm_e_ldi, pm_e_ldr, pm_e_lk, pm_e_r, pm_e_ri, pm_e_rm0, pm_e_rm1, pm_e_rs0, pm_e_rs1, pm_e_wp0, pm_e_wp1, pm_f2, pm_f3, pm_fld, pm_fv, pm_obj, pm_s_aload_n, pm_s_bipush, pm_s_getfield, pm_s_goto, pm_s_iadd, pm_s_iaload, pm_s_iconst, pm_s_if_icmp_ge, pm_s_if_icmp_ne, pm_s_iinc, pm_s_iload, pm_s_iload_n, pm_s_imul, pm_s_ireturn, pm_s_ishr, pm_s_istore, pm_s_istore_n, ct_X7_isBuried, pS, pR, pC, pE, pL, -Int32.not_le, -Int32.not_lt, -Int64.not_le, -Int64.not_lt, -List.getD_eq_getElem?_getD]
        exact out hn
      | succ f ih =>
        intro a f1 f2 hn
        by_cases ha : a < j
        · obtain ⟨b1, b2⟩ := cd_sh hP (hcd a (by omega)).1 (hcd a (by omega)).2
          have b32 := cdN_le hP (hcd a (by omega)).2
          have ua := su_lt h3 (hcd a (by omega)).1 (hcd a (by omega)).2
          obtain ⟨e1, e2⟩ := cdN_su h3 h4 (hcd a (by omega)).1
          obtain ⟨e3, e4⟩ := cdN_su h3 h4 (hcd j hj).1
          have h53 : (decide (su (pR P) ((S.1 i).getD a 0) = su (pR P) ((S.1 i).getD j 0)) && decide (ra (pR P) ((S.1 i).getD a 0) < ra (pR P) ((S.1 i).getD j 0))) = false → X 53 [(0, .ref 0), (1, .int (nI i)), (2, .int (nI j)), (3, .int (nI (cdN (pR P) ((S.1 i).getD j 0)))), (4, .int (nI a))] [] M := by
            intro hf
            refine hb53 _ _ _ ?_
            simp (maxSteps := 2000000) [bk_X7_isBuried_0, bk_X7_isBuried_15, bk_X7_isBuried_53, bk_X7_isBuried_59, pm_arr, pm_e_c0, pm_e_c1, pm_e_cti, pm_e_ctl, pm_e_ctr, pm_e_go, pm_e_i, pm_e_ii, pm_e_ldi, pm_e_ldr, pm_e_lk, pm_e_r, pm_e_ri, pm_e_rm0, pm_e_rm1, pm_e_rs0, pm_e_rs1, pm_e_wp0, pm_e_wp1, pm_f2, pm_f3, pm_fld, pm_fv, pm_obj, pm_s_aload_n, pm_s_bipush, pm_s_getfield, pm_s_goto, pm_s_iadd, pm_s_iaload, pm_s_iconst, pm_s_if_icmp_ge, pm_s_if_icmp_ne, pm_s_iinc, pm_s_iload, pm_s_iload_n, pm_s_imul, pm_s_ireturn, pm_s_ishr, pm_s_istore, pm_s_istore_n, ct_X7_isBuried, pS, pR, pC, pE, pL, -Int32.not_le, -Int32.not_lt, -Int64.not_le, -Int64.not_lt, -List.getD_eq_getElem?_getD]
            rw [ni_add]
            refine ih (a + 1) (by omega) (by omega) (fun u hu => ?_)
            by_cases z : u = a
            · rw [z]; exact hf
            · exact hn u (by omega)
          refine hb15 _ _ _ ?_
          simp (maxSteps := 2000000) [bk_X7_isBuried_0, bk_X7_isBuried_15, bk_X7_isBuried_53, bk_X7_isBuried_59, pm_arr, pm_e_c0, pm_e_c1, pm_e_cti, pm_e_ctl, pm_e_ctr, pm_e_go, pm_e_i, pm_e_ii, pm_e_ldi, pm_e_ldr, pm_e_lk, pm_e_r, pm_e_ri, pm_e_rm0, pm_e_rm1, pm_e_rs0, pm_e_rs1, pm_e_wp0, pm_e_wp1, pm_f2, pm_f3, pm_fld, pm_fv, pm_obj, pm_s_aload_n, pm_s_bipush, pm_s_getfield, pm_s_goto, pm_s_iadd, pm_s_iaload, pm_s_iconst, pm_s_if_icmp_ge, pm_s_if_icmp_ne, pm_s_iinc, pm_s_iload, pm_s_iload_n, pm_s_imul, pm_s_ireturn, pm_s_ishr, pm_s_istore, pm_s_istore_n, ct_X7_isBuried, pS, pR, pC, pE, pL, -Int32.not_le, -Int32.not_lt, -Int64.not_le, -Int64.not_lt, -List.getD_eq_getElem?_getD, sy_0, sy_3]
          have hca := hc a (by omega)
          dsimp only [pR, pS] at *
          simp (disch := omega) only [ni_in, ni_cl, ni_add, ni_mul, ni_sub, ni_lt, ni_le, ni_eq, ni_eq0, ni_lt0, ni_0le, ni_0lt, ni_le0, ni_a1, ni_a3, ni_a7, ni_a15, hca]
          rw [b1, c1, ni_eq (by omega) (by omega)]
          refine ⟨fun z => by omega, fun _ => ⟨by omega, fun z => h53 (by rw [decide_eq_false z]; rfl), fun z => ⟨fun y => h53 (by rw [decide_eq_false (show ¬ ra P.2.1 ((S.1 i).getD a 0) < ra P.2.1 ((S.1 i).getD j 0) by omega), Bool.and_false]), fun y => ?_⟩⟩⟩
          have : anyN j (fun a => decide (su P.2.1 ((S.1 i).getD a 0) = su P.2.1 ((S.1 i).getD j 0)) && decide (ra P.2.1 ((S.1 i).getD a 0) < ra P.2.1 ((S.1 i).getD j 0))) = true := anyN_iff.mpr ⟨a, ha, by rw [decide_eq_true z, decide_eq_true (show ra P.2.1 ((S.1 i).getD a 0) < ra P.2.1 ((S.1 i).getD j 0) by omega)]; rfl⟩
          rw [this] at hT
          exact ⟨Or.inr rfl, hT⟩
        · have e : a = j := by omega
          subst e
          refine hb15 _ _ _ ?_
          simp (maxSteps := 2000000) [bk_X7_isBuried_0, bk_X7_isBuried_15, bk_X7_isBuried_53, bk_X7_isBuried_59, pm_arr, pm_e_c0, pm_e_c1, pm_e_cti, pm_e_ctl, pm_e_ctr, pm_e_go, pm_e_i, pm_e_ii, pm_e_ldi, pm_e_ldr, pm_e_lk, pm_e_r, pm_e_ri, pm_e_rm0, pm_e_rm1, pm_e_rs0, pm_e_rs1, pm_e_wp0, pm_e_wp1, pm_f2, pm_f3, pm_fld, pm_fv, pm_obj, pm_s_aload_n, pm_s_bipush, pm_s_getfield, pm_s_goto, pm_s_iadd, pm_s_iaload, pm_s_iconst, pm_s_if_icmp_ge, pm_s_if_icmp_ne, pm_s_iinc, pm_s_iload, pm_s_iload_n, pm_s_imul, pm_s_ireturn, pm_s_ishr, pm_s_istore, pm_s_istore_n, ct_X7_isBuried, pS, pR, pC, pE, pL, -Int32.not_le, -Int32.not_lt, -Int64.not_le, -Int64.not_lt, -List.getD_eq_getElem?_getD]
          exact out hn
    refine hb0 _ _ _ ?_
    simp (maxSteps := 2000000) [bk_X7_isBuried_0, bk_X7_isBuried_15, bk_X7_isBuried_53, bk_X7_isBuried_59, pm_arr, pm_e_c0, pm_e_c1, pm_e_cti, pm_e_ctl, pm_e_ctr, pm_e_go, pm_e_i, pm_e_ii, pm_e_ldi, pm_e_ldr, pm_e_lk, pm_e_r, pm_e_ri, pm_e_rm0, pm_e_rm1, pm_e_rs0, pm_e_rs1, pm_e_wp0, pm_e_wp1, pm_f2, pm_f3, pm_fld, pm_fv, pm_obj, pm_s_aload_n, pm_s_bipush, pm_s_getfield, pm_s_goto, pm_s_iadd, pm_s_iaload, pm_s_iconst, pm_s_if_icmp_ge, pm_s_if_icmp_ne, pm_s_iinc, pm_s_iload, pm_s_iload_n, pm_s_imul, pm_s_ireturn, pm_s_ishr, pm_s_istore, pm_s_istore_n, ct_X7_isBuried, pS, pR, pC, pE, pL, -Int32.not_le, -Int32.not_lt, -Int64.not_le, -Int64.not_lt, -List.getD_eq_getElem?_getD, lv_args, sy_0, sy_3]
    rw [ni_mul, ni_add, ni_in (by omega), ni_cl (by omega), hc j hj]
    exact ⟨by omega, loop j 0 (by omega) (by omega) (fun u hu => by omega)⟩
  · exact hT.elim
