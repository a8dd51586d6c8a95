theorem frC_take {P : Pm} {S : St} {T : List Nat} {k : Nat} (h : k < T.length) : frC P S (T.take (k + 1)) = frC P S (T.take k) ++ ((S.1 (T.getD k 0)).length :: (S.1 (T.getD k 0)).map (cdN (pR P))) := by
  rw [List.take_succ, frC_app]
  congr 1
  rw [List.getElem?_eq_getElem h, List.getD_eq_getElem?_getD, List.getElem?_eq_getElem h]
  simp [frC]
theorem frC_tl (P : Pm) (S : St) (T : List Nat) (k : Nat) : (frC P S (T.take k)).length ≤ (frC P S T).length := by
  conv => rhs; rw [← List.take_append_drop k T, frC_app]
  simp
def tt_X7_tells : pm_T := fun args M k => match args with
  | [.ref 0] => ∃ A, okA A ∧ MY M A ∧ ∀ M', rowIs M' 25 (frL (aP A) (pE (aP A)) (aS A)) → yfr [10, 11, 12, 13, 19, 25] [22] M M' → k (some (.int (nI (frL (aP A) (pE (aP A)) (aS A)).length))) M'
  | _ => False
theorem rowIs.yv {M M' : pm_M} {q : Nat} {L : List Nat} {ps fs : List Nat} (h : rowIs M q L) (hf : yfr ps fs M M') (h0 : q ≠ 0) (hq : q ∉ ps) : rowIs M' q L := fun j hj => by rw [hf.i h0 hq]; exact h j hj
abbrev ct_X7_tells : List pm_C := [(false, 179, 7, 1, none, tt_X7_tryStand), (false, 201, 7, 1, none, tt_X7_orders)]
set_option maxHeartbeats 4000000 in
theorem sm_X7_tells  : pm_Sem SHy yX7_tells cX7_tells 5 (some .int) 3 tt_X7_tells := by
  refine pm_Sem_intro bl_X7_tells ct_X7_tells cs_X7_tells rfl (List.forall_mem_cons.mpr ⟨⟨_, _, _, _, sm_X7_tryStand, by decide, cm_X7_tryStand, by decide +kernel⟩, List.forall_mem_cons.mpr ⟨⟨_, _, _, _, sm_X7_orders, by decide, cm_X7_orders, by decide +kernel⟩, fun _ h => absurd h List.not_mem_nil⟩⟩) ck_X7_tells (by decide +kernel) (by decide) ?_
  intro X k hX args M hT
  have hb0 := hX 0 bk_X7_tells_0 (List.mem_of_getElem? (i := 0) rfl)
  have hb12 := hX 12 bk_X7_tells_12 (List.mem_of_getElem? (i := 1) rfl)
  have hb45 := hX 45 bk_X7_tells_45 (List.mem_of_getElem? (i := 2) rfl)
  have hb83 := hX 83 bk_X7_tells_83 (List.mem_of_getElem? (i := 3) rfl)
  have hb89 := hX 89 bk_X7_tells_89 (List.mem_of_getElem? (i := 4) rfl)
  have hb116 := hX 116 bk_X7_tells_116 (List.mem_of_getElem? (i := 5) rfl)
  have hb117 := hX 117 bk_X7_tells_117 (List.mem_of_getElem? (i := 6) rfl)
  have hb120 := hX 120 bk_X7_tells_120 (List.mem_of_getElem? (i := 7) rfl)
  have hb150 := hX 150 bk_X7_tells_150 (List.mem_of_getElem? (i := 8) rfl)
  have hb151 := hX 151 bk_X7_tells_151 (List.mem_of_getElem? (i := 9) rfl)
  have hb159 := hX 159 bk_X7_tells_159 (List.mem_of_getElem? (i := 10) rfl)
  clear hX
  unfold tt_X7_tells at hT; split at hT
  · obtain ⟨A, hA, hM, hT⟩ := hT
    obtain ⟨hD, hS, hL, h5', h7', hH, hPl, hTr, hQ⟩ := id hM
    have hP := hA.1
    have hW := hA.wf
    have hO := hW.ok hP
    have hI := hW.inDk
    have lS := WF.l12 hP hW
    have hE := hP.2.2.2.2.2.2.2.1
    have hC4 := hP.2.2.2.2.2.2.1
    have h12 := hW.c12 hP
    have hfl := frC_len (aP A) (aS A) 4
    rw [dlen_4] at hfl
    have tl := tbO_len hP (aS A)
    have tc := fun v (hv : v ∈ tbO (aP A) (aS A) 4) => tbO_C hv
    have wz := hW.2.1 1 (by decide)
    obtain ⟨-, m0, m1, m2, m3, m4⟩ := id hD
    generalize hPP : aP A = P at *
    generalize hSS : aS A = S at *
    refine ⟨by simp [lg_sl, Value.category], ?_⟩
    refine hb0 _ _ _ ?_
    simp (maxSteps := 2000000) [bk_X7_tells_0, bk_X7_tells_12, bk_X7_tells_45, bk_X7_tells_83, bk_X7_tells_89, bk_X7_tells_116, bk_X7_tells_117, bk_X7_tells_120, bk_X7_tells_150, bk_X7_tells_151, bk_X7_tells_159, pm_arr, pm_call, pm_e_c0, pm_e_c1, pm_e_cti, pm_e_ctl, pm_e_ctr, pm_e_go, pm_e_i, pm_e_ii, pm_e_ldi, pm_e_ldr, pm_e_lk, pm_e_r, pm_e_ri, pm_e_rii, pm_e_rm0, pm_e_rm1, pm_e_rs0, pm_e_rs1, pm_e_wp0, pm_e_wp1, pm_f2, pm_f3, pm_fld, pm_fv, pm_obj, pm_recv, pm_s_aload_n, pm_s_bipush, pm_s_getfield, pm_s_goto, pm_s_iadd, pm_s_iaload, pm_s_iastore, pm_s_iconst, pm_s_ifCond_eq, pm_s_if_icmp_ge, pm_s_if_icmp_le, pm_s_if_icmp_ne, pm_s_iinc, pm_s_iload, pm_s_iload_n, pm_s_imul, pm_s_invokevirtual, pm_s_ireturn, pm_s_istore, pm_s_istore_n, pm_s_isub, ct_X7_tells, pS, pR, pC, pE, pL, -Int32.not_le, -Int32.not_lt, -Int64.not_le, -Int64.not_lt, -List.getD_eq_getElem?_getD, lv_args, sy_0]
    intro M1 c1 k1 e22 f1
    have s1 : SdY M1 10 0 (pR P) S := c1.sd hS lS
    have d1 := hD.mv f1 (by decide)
    simp (maxSteps := 2000000) [bk_X7_tells_0, bk_X7_tells_12, bk_X7_tells_45, bk_X7_tells_83, bk_X7_tells_89, bk_X7_tells_116, bk_X7_tells_117, bk_X7_tells_120, bk_X7_tells_150, bk_X7_tells_151, bk_X7_tells_159, pm_arr, pm_call, pm_e_c0, pm_e_c1, pm_e_cti, pm_e_ctl, pm_e_ctr, pm_e_go, pm_e_i, pm_e_ii, pm_e_ldi, pm_e_ldr, pm_e_lk, pm_e_r, pm_e_ri, pm_e_rii, pm_e_rm0, pm_e_rm1, pm_e_rs0, pm_e_rs1, pm_e_wp0, pm_e_wp1, pm_f2, pm_f3, pm_fld, pm_fv, pm_obj, pm_recv, pm_s_aload_n, pm_s_bipush, pm_s_getfield, pm_s_goto, pm_s_iadd, pm_s_iaload, pm_s_iastore, pm_s_iconst, pm_s_ifCond_eq, pm_s_if_icmp_ge, pm_s_if_icmp_le, pm_s_if_icmp_ne, pm_s_iinc, pm_s_iload, pm_s_iload_n, pm_s_imul, pm_s_invokevirtual, pm_s_ireturn, pm_s_istore, pm_s_istore_n, pm_s_isub, ct_X7_tells, pS, pR, pC, pE, pL, -Int32.not_le, -Int32.not_lt, -Int64.not_le, -Int64.not_lt, -List.getD_eq_getElem?_getD, sy_0]
    refine ⟨P, S, d1, s1, hO, hI, fun M2 o2 f2 => ?_⟩
    simp (maxSteps := 2000000) [bk_X7_tells_0, bk_X7_tells_12, bk_X7_tells_45, bk_X7_tells_83, bk_X7_tells_89, bk_X7_tells_116, bk_X7_tells_117, bk_X7_tells_120, bk_X7_tells_150, bk_X7_tells_151, bk_X7_tells_159, pm_arr, pm_call, pm_e_c0, pm_e_c1, pm_e_cti, pm_e_ctl, pm_e_ctr, pm_e_go, pm_e_i, pm_e_ii, pm_e_ldi, pm_e_ldr, pm_e_lk, pm_e_r, pm_e_ri, pm_e_rii, pm_e_rm0, pm_e_rm1, pm_e_rs0, pm_e_rs1, pm_e_wp0, pm_e_wp1, pm_f2, pm_f3, pm_fld, pm_fv, pm_obj, pm_recv, pm_s_aload_n, pm_s_bipush, pm_s_getfield, pm_s_goto, pm_s_iadd, pm_s_iaload, pm_s_iastore, pm_s_iconst, pm_s_ifCond_eq, pm_s_if_icmp_ge, pm_s_if_icmp_le, pm_s_if_icmp_ne, pm_s_iinc, pm_s_iload, pm_s_iload_n, pm_s_imul, pm_s_invokevirtual, pm_s_ireturn, pm_s_istore, pm_s_istore_n, pm_s_isub, ct_X7_tells, pS, pR, pC, pE, pL, -Int32.not_le, -Int32.not_lt, -Int64.not_le, -Int64.not_lt, -List.getD_eq_getElem?_getD]
    have g12 : yfr [10, 11, 12, 13, 19, 25] [22] M M2 := (f1.mono (by decide) (by decide)).trans (f2.mono (by decide) (by simp))
    have s2 : SdY M2 10 0 (pR P) S := s1.mv f2 (by decide) (by decide)
    have S2 : SdY M2 2 0 (pR P) S := hS.mv g12 (by decide) (by decide)
    have d2 := hD.mv g12 (by decide)
    generalize hTT : tbO P S 4 = T at *
    -- the end
    have out : ∀ M3, rowIs M3 25 (frL P (pE P) S) → yfr [25] [] M2 M3 → X 159 [(1, .int (nI (frL P (pE P) S).length))] [] M3 := by
      intro M3 r3 f3
      refine hb159 _ _ _ ?_
      simp (maxSteps := 2000000) [bk_X7_tells_0, bk_X7_tells_12, bk_X7_tells_45, bk_X7_tells_83, bk_X7_tells_89, bk_X7_tells_116, bk_X7_tells_117, bk_X7_tells_120, bk_X7_tells_150, bk_X7_tells_151, bk_X7_tells_159, pm_arr, pm_call, pm_e_c0, pm_e_c1, pm_e_cti, pm_e_ctl, pm_e_ctr, pm_e_go, pm_e_i, pm_e_ii, pm_e_ldi, pm_e_ldr, pm_e_lk, pm_e_r, pm_e_ri, pm_e_rii, pm_e_rm0, pm_e_rm1, pm_e_rs0, pm_e_rs1, pm_e_wp0, pm_e_wp1, pm_f2, pm_f3, pm_fld, pm_fv, pm_obj, pm_recv, pm_s_aload_n, pm_s_bipush, pm_s_getfield, pm_s_goto, pm_s_iadd, pm_s_iaload, pm_s_iastore, pm_s_iconst, pm_s_ifCond_eq, pm_s_if_icmp_ge, pm_s_if_icmp_le, pm_s_if_icmp_ne, pm_s_iinc, pm_s_iload, pm_s_iload_n, pm_s_imul, pm_s_invokevirtual, pm_s_ireturn, pm_s_istore, pm_s_istore_n, pm_s_isub, ct_X7_tells, pS, pR, pC, pE, pL, -Int32.not_le, -Int32.not_lt, -Int64.not_le, -Int64.not_lt, -List.getD_eq_getElem?_getD]
      exact hT M3 r3 (g12.trans (f3.mono (by decide) (by simp)))
    have e0 : ∀ M3, yfr [25] [] M2 M3 → M3.1 4 0 = nI (cdN (pR P) (S.2.1 0)) ∧ M3.1 4 1 = nI (cdN (pR P) (S.2.1 1)) ∧ M3.1 0 3 = nI (pE P) := fun M3 f3 => by
      refine ⟨?_, ?_, ?_⟩
      · rw [f3.i (by decide) (by decide)]; exact S2.e (by decide)
      · rw [f3.i (by decide) (by decide)]; exact S2.e (by decide)
      · rw [f3.f (by simp)]; exact d2.2.2.2.2.1
    have k0 := cdN_le hP (hI.2 0 (by decide))
    have k1' := cdN_le hP (hI.2 1 (by decide))
    have hci := cdN_le_iff (r := pR P) (d := S.2.1 0) (e := S.2.1 1) hP.2.2.1 hP.2.2.2.1
    -- the cells: turned or not
    have h117 : ∀ (M3 : pm_M) (b : Bool), b = (decide (pE P = 2) && decide (S.2.1 1 < S.2.1 0)) → rowIs M3 25 (frC P S T) → yfr [25] [] M2 M3 → X 117 [(0, .ref 0), (1, .int (nI (frC P S T).length))] [.int (pb b)] M3 := by
      intro M3 b eb r3 f3
      have one : ∀ (M4 : pm_M) (L : List Nat) (i v : Nat), i < pE P → v = (if b = true then S.2.1 (1 - i) else S.2.1 i) → rowIs M4 25 L → L.length < 20 → yfr [25] [] M2 M4 → (∀ M5, rowIs M5 25 (L ++ [cdN (pR P) v]) → yfr [25] [] M2 M5 → X 120 [(0, .ref 0), (1, .int (nI (L.length + 1))), (2, .int (pb b)), (3, .int (nI (i + 1)))] [] M5) → X 120 [(0, .ref 0), (1, .int (nI L.length)), (2, .int (pb b)), (3, .int (nI i))] [] M4 := by
        intro M4 L i v hi ev r4 hl f4 hk
        obtain ⟨q0, q1, q3⟩ := e0 M4 f4
        have hv : ∀ c, c = (if b = true then 1 - i else i) → M4.1 4 c = nI (cdN (pR P) v) := by
          intro c ec
          rw [ev]
          by_cases hb : b = true
          · rw [if_pos hb] at ec ⊢
            rw [ec]
            rcases (show i = 0 ∨ i = 1 by omega) with z | z <;> rw [z]
            · exact q1
            · exact q0
          · rw [if_neg hb] at ec ⊢
            rw [ec]
            rcases (show i = 0 ∨ i = 1 by omega) with z | z <;> rw [z]
            · exact q0
            · exact q1
        have h151 : ∀ c, c = (if b = true then 1 - i else i) → X 151 [(0, .ref 0), (1, .int (nI (L.length + 1))), (2, .int (pb b)), (3, .int (nI i))] [.int (nI c), .ref 4, .int (nI L.length), .ref 25] M4 := by
          intro c ec
          have hc2 : c < 2 := by rw [ec]; split <;> omega
          refine hb151 _ _ _ ?_
          simp (maxSteps := 2000000) [bk_X7_tells_0, bk_X7_tells_12, bk_X7_tells_45, bk_X7_tells_83, bk_X7_tells_89, bk_X7_tells_116, bk_X7_tells_117, bk_X7_tells_120, bk_X7_tells_150, bk_X7_tells_151, bk_X7_tells_159, pm_arr, pm_call, pm_e_c0, pm_e_c1, pm_e_cti, pm_e_ctl, pm_e_ctr, pm_e_go, pm_e_i, pm_e_ii, pm_e_ldi, pm_e_ldr, pm_e_lk, pm_e_r, pm_e_ri, pm_e_rii, pm_e_rm0, pm_e_rm1, pm_e_rs0, pm_e_rs1, pm_e_wp0, pm_e_wp1, pm_f2, pm_f3, pm_fld, pm_fv, pm_obj, pm_recv, pm_s_aload_n, pm_s_bipush, pm_s_getfield, pm_s_goto, pm_s_iadd, pm_s_iaload, pm_s_iastore, pm_s_iconst, pm_s_ifCond_eq, pm_s_if_icmp_ge, pm_s_if_icmp_le, pm_s_if_icmp_ne, pm_s_iinc, pm_s_iload, pm_s_iload_n, pm_s_imul, pm_s_invokevirtual, pm_s_ireturn, pm_s_istore, pm_s_istore_n, pm_s_isub, ct_X7_tells, pS, pR, pC, pE, pL, -Int32.not_le, -Int32.not_lt, -Int64.not_le, -Int64.not_lt, -List.getD_eq_getElem?_getD, sy_4, sy_25]
          rw [ni_in (by omega), ni_in (by omega), ni_cl (by omega), ni_cl (by omega), hv c ec, ni_add]
          exact ⟨by omega, by omega, hk _ r4.app (f4.set (by decide) (by decide))⟩
        refine hb120 _ _ _ ?_
        simp (maxSteps := 2000000) [bk_X7_tells_0, bk_X7_tells_12, bk_X7_tells_45, bk_X7_tells_83, bk_X7_tells_89, bk_X7_tells_116, bk_X7_tells_117, bk_X7_tells_120, bk_X7_tells_150, bk_X7_tells_151, bk_X7_tells_159, pm_arr, pm_call, pm_e_c0, pm_e_c1, pm_e_cti, pm_e_ctl, pm_e_ctr, pm_e_go, pm_e_i, pm_e_ii, pm_e_ldi, pm_e_ldr, pm_e_lk, pm_e_r, pm_e_ri, pm_e_rii, pm_e_rm0, pm_e_rm1, pm_e_rs0, pm_e_rs1, pm_e_wp0, pm_e_wp1, pm_f2, pm_f3, pm_fld, pm_fv, pm_obj, pm_recv, pm_s_aload_n, pm_s_bipush, pm_s_getfield, pm_s_goto, pm_s_iadd, pm_s_iaload, pm_s_iastore, pm_s_iconst, pm_s_ifCond_eq, pm_s_if_icmp_ge, pm_s_if_icmp_le, pm_s_if_icmp_ne, pm_s_iinc, pm_s_iload, pm_s_iload_n, pm_s_imul, pm_s_invokevirtual, pm_s_ireturn, pm_s_istore, pm_s_istore_n, pm_s_isub, ct_X7_tells, pS, pR, pC, pE, pL, -Int32.not_le, -Int32.not_lt, -Int64.not_le, -Int64.not_lt, -List.getD_eq_getElem?_getD, sy_0, q3, pb_eq0]
        dsimp only [pE] at hi hE
        rw [ni_le (by omega) (by omega), ni_add]
        refine ⟨fun z => by omega, fun _ => ⟨fun hb => ?_, fun hb => ?_⟩⟩
        · refine hb150 _ _ _ ?_
          simp (maxSteps := 2000000) [bk_X7_tells_0, bk_X7_tells_12, bk_X7_tells_45, bk_X7_tells_83, bk_X7_tells_89, bk_X7_tells_116, bk_X7_tells_117, bk_X7_tells_120, bk_X7_tells_150, bk_X7_tells_151, bk_X7_tells_159, pm_arr, pm_call, pm_e_c0, pm_e_c1, pm_e_cti, pm_e_ctl, pm_e_ctr, pm_e_go, pm_e_i, pm_e_ii, pm_e_ldi, pm_e_ldr, pm_e_lk, pm_e_r, pm_e_ri, pm_e_rii, pm_e_rm0, pm_e_rm1, pm_e_rs0, pm_e_rs1, pm_e_wp0, pm_e_wp1, pm_f2, pm_f3, pm_fld, pm_fv, pm_obj, pm_recv, pm_s_aload_n, pm_s_bipush, pm_s_getfield, pm_s_goto, pm_s_iadd, pm_s_iaload, pm_s_iastore, pm_s_iconst, pm_s_ifCond_eq, pm_s_if_icmp_ge, pm_s_if_icmp_le, pm_s_if_icmp_ne, pm_s_iinc, pm_s_iload, pm_s_iload_n, pm_s_imul, pm_s_invokevirtual, pm_s_ireturn, pm_s_istore, pm_s_istore_n, pm_s_isub, ct_X7_tells, pS, pR, pC, pE, pL, -Int32.not_le, -Int32.not_lt, -Int64.not_le, -Int64.not_lt, -List.getD_eq_getElem?_getD]
          exact h151 i (by rw [if_neg (by rw [hb]; simp)])
        · rw [ni_sub (by omega)]
          exact h151 (1 - i) (by rw [if_pos hb])
      have last : ∀ (M4 : pm_M), rowIs M4 25 (frL P (pE P) S) → yfr [25] [] M2 M4 → X 120 [(0, .ref 0), (1, .int (nI (frL P (pE P) S).length)), (2, .int (pb b)), (3, .int (nI (pE P)))] [] M4 := by
        intro M4 r4 f4
        obtain ⟨q0, q1, q3⟩ := e0 M4 f4
        refine hb120 _ _ _ ?_
        simp (maxSteps := 2000000) [bk_X7_tells_0, bk_X7_tells_12, bk_X7_tells_45, bk_X7_tells_83, bk_X7_tells_89, bk_X7_tells_116, bk_X7_tells_117, bk_X7_tells_120, bk_X7_tells_150, bk_X7_tells_151, bk_X7_tells_159, pm_arr, pm_call, pm_e_c0, pm_e_c1, pm_e_cti, pm_e_ctl, pm_e_ctr, pm_e_go, pm_e_i, pm_e_ii, pm_e_ldi, pm_e_ldr, pm_e_lk, pm_e_r, pm_e_ri, pm_e_rii, pm_e_rm0, pm_e_rm1, pm_e_rs0, pm_e_rs1, pm_e_wp0, pm_e_wp1, pm_f2, pm_f3, pm_fld, pm_fv, pm_obj, pm_recv, pm_s_aload_n, pm_s_bipush, pm_s_getfield, pm_s_goto, pm_s_iadd, pm_s_iaload, pm_s_iastore, pm_s_iconst, pm_s_ifCond_eq, pm_s_if_icmp_ge, pm_s_if_icmp_le, pm_s_if_icmp_ne, pm_s_iinc, pm_s_iload, pm_s_iload_n, pm_s_imul, pm_s_invokevirtual, pm_s_ireturn, pm_s_istore, pm_s_istore_n, pm_s_isub, ct_X7_tells, pS, pR, pC, pE, pL, -Int32.not_le, -Int32.not_lt, -Int64.not_le, -Int64.not_lt, -List.getD_eq_getElem?_getD, sy_0, q3]
        exact out M4 r4 f4
      refine hb117 _ _ _ ?_
      simp (maxSteps := 2000000) [bk_X7_tells_0, bk_X7_tells_12, bk_X7_tells_45, bk_X7_tells_83, bk_X7_tells_89, bk_X7_tells_116, bk_X7_tells_117, bk_X7_tells_120, bk_X7_tells_150, bk_X7_tells_151, bk_X7_tells_159, pm_arr, pm_call, pm_e_c0, pm_e_c1, pm_e_cti, pm_e_ctl, pm_e_ctr, pm_e_go, pm_e_i, pm_e_ii, pm_e_ldi, pm_e_ldr, pm_e_lk, pm_e_r, pm_e_ri, pm_e_rii, pm_e_rm0, pm_e_rm1, pm_e_rs0, pm_e_rs1, pm_e_wp0, pm_e_wp1, pm_f2, pm_f3, pm_fld, pm_fv, pm_obj, pm_recv, pm_s_aload_n, pm_s_bipush, pm_s_getfield, pm_s_goto, pm_s_iadd, pm_s_iaload, pm_s_iastore, pm_s_iconst, pm_s_ifCond_eq, pm_s_if_icmp_ge, pm_s_if_icmp_le, pm_s_if_icmp_ne, pm_s_iinc, pm_s_iload, pm_s_iload_n, pm_s_imul, pm_s_invokevirtual, pm_s_ireturn, pm_s_istore, pm_s_istore_n, pm_s_isub, ct_X7_tells, pS, pR, pC, pE, pL, -Int32.not_le, -Int32.not_lt, -Int64.not_le, -Int64.not_lt, -List.getD_eq_getElem?_getD]
      have eL : frL P (pE P) S = frC P S T ++ frE P (pE P) S := by unfold frL; rw [hTT]
      rcases (show pE P = 0 ∨ pE P = 1 ∨ pE P = 2 by omega) with hc | hc | hc
      · have e1 : frL P (pE P) S = frC P S T := by rw [eL, hc]; simp [frE]
        have := last M3 (by rw [e1]; exact r3) f3
        rw [e1, hc] at this; exact this
      · have z1 := wz (by omega)
        have hb : b = false := by rw [eb, hc]; simp
        refine one M3 _ 0 (S.2.1 0) (by omega) (by rw [hb]; simp) r3 (by omega) f3 (fun M5 r5 f5 => ?_)
        have e1 : frL P (pE P) S = frC P S T ++ [cdN (pR P) (S.2.1 0)] := by
          rw [eL, hc]; unfold frE; rw [if_neg (by decide), if_pos (by decide), z1]; simp
        have := last M5 (by rw [e1]; exact r5) f5
        rw [e1, hc, List.length_append, List.length_singleton] at this; exact this
      · have hmm : frE P 2 S = [cdN (pR P) (min (S.2.1 0) (S.2.1 1)), cdN (pR P) (max (S.2.1 0) (S.2.1 1))] := by unfold frE; simp
        have ev : ∀ (u v : Nat), u = (if b = true then S.2.1 1 else S.2.1 0) → v = (if b = true then S.2.1 0 else S.2.1 1) → u = min (S.2.1 0) (S.2.1 1) ∧ v = max (S.2.1 0) (S.2.1 1) := by
          intro u v hu hv
          rw [eb, hc] at hu hv
          by_cases z : S.2.1 1 < S.2.1 0
          · simp [z] at hu hv; omega
          · simp [z] at hu hv; omega
        obtain ⟨w1, w2⟩ := ev _ _ rfl rfl
        refine one M3 _ 0 (if b = true then S.2.1 1 else S.2.1 0) (by omega) rfl r3 (by omega) f3 (fun M5 r5 f5 => ?_)
        have hl5 : (frC P S T ++ [cdN (pR P) (if b = true then S.2.1 1 else S.2.1 0)]).length = (frC P S T).length + 1 := by simp
        rw [← hl5]
        refine one M5 _ 1 (if b = true then S.2.1 0 else S.2.1 1) (by omega) rfl r5 (by omega) f5 (fun M6 r6 f6 => ?_)
        have e1 : frL P (pE P) S = frC P S T ++ [cdN (pR P) (if b = true then S.2.1 1 else S.2.1 0)] ++ [cdN (pR P) (if b = true then S.2.1 0 else S.2.1 1)] := by
          rw [eL, hc, hmm, w1, w2]; simp
        have := last M6 (by rw [e1]; exact r6) f6
        rw [e1, hc, List.length_append, List.length_singleton] at this; exact this
    have h89 : ∀ (M3 : pm_M), rowIs M3 25 (frC P S T) → yfr [25] [] M2 M3 → X 89 [(0, .ref 0), (1, .int (nI (frC P S T).length))] [] M3 := by
      intro M3 r3 f3
      obtain ⟨q0, q1, q3⟩ := e0 M3 f3
      have h116 : (decide (pE P = 2) && decide (S.2.1 1 < S.2.1 0)) = false → X 116 [(0, .ref 0), (1, .int (nI (frC P S T).length))] [] M3 := by
        intro hf
        refine hb116 _ _ _ ?_
        simp (maxSteps := 2000000) [bk_X7_tells_0, bk_X7_tells_12, bk_X7_tells_45, bk_X7_tells_83, bk_X7_tells_89, bk_X7_tells_116, bk_X7_tells_117, bk_X7_tells_120, bk_X7_tells_150, bk_X7_tells_151, bk_X7_tells_159, pm_arr, pm_call, pm_e_c0, pm_e_c1, pm_e_cti, pm_e_ctl, pm_e_ctr, pm_e_go, pm_e_i, pm_e_ii, pm_e_ldi, pm_e_ldr, pm_e_lk, pm_e_r, pm_e_ri, pm_e_rii, pm_e_rm0, pm_e_rm1, pm_e_rs0, pm_e_rs1, pm_e_wp0, pm_e_wp1, pm_f2, pm_f3, pm_fld, pm_fv, pm_obj, pm_recv, pm_s_aload_n, pm_s_bipush, pm_s_getfield, pm_s_goto, pm_s_iadd, pm_s_iaload, pm_s_iastore, pm_s_iconst, pm_s_ifCond_eq, pm_s_if_icmp_ge, pm_s_if_icmp_le, pm_s_if_icmp_ne, pm_s_iinc, pm_s_iload, pm_s_iload_n, pm_s_imul, pm_s_invokevirtual, pm_s_ireturn, pm_s_istore, pm_s_istore_n, pm_s_isub, ct_X7_tells, pS, pR, pC, pE, pL, -Int32.not_le, -Int32.not_lt, -Int64.not_le, -Int64.not_lt, -List.getD_eq_getElem?_getD]
        exact h117 M3 false hf.symm r3 f3
      refine hb89 _ _ _ ?_
      simp (maxSteps := 2000000) [bk_X7_tells_0, bk_X7_tells_12, bk_X7_tells_45, bk_X7_tells_83, bk_X7_tells_89, bk_X7_tells_116, bk_X7_tells_117, bk_X7_tells_120, bk_X7_tells_150, bk_X7_tells_151, bk_X7_tells_159, pm_arr, pm_call, pm_e_c0, pm_e_c1, pm_e_cti, pm_e_ctl, pm_e_ctr, pm_e_go, pm_e_i, pm_e_ii, pm_e_ldi, pm_e_ldr, pm_e_lk, pm_e_r, pm_e_ri, pm_e_rii, pm_e_rm0, pm_e_rm1, pm_e_rs0, pm_e_rs1, pm_e_wp0, pm_e_wp1, pm_f2, pm_f3, pm_fld, pm_fv, pm_obj, pm_recv, pm_s_aload_n, pm_s_bipush, pm_s_getfield, pm_s_goto, pm_s_iadd, pm_s_iaload, pm_s_iastore, pm_s_iconst, pm_s_ifCond_eq, pm_s_if_icmp_ge, pm_s_if_icmp_le, pm_s_if_icmp_ne, pm_s_iinc, pm_s_iload, pm_s_iload_n, pm_s_imul, pm_s_invokevirtual, pm_s_ireturn, pm_s_istore, pm_s_istore_n, pm_s_isub, ct_X7_tells, pS, pR, pC, pE, pL, -Int32.not_le, -Int32.not_lt, -Int64.not_le, -Int64.not_lt, -List.getD_eq_getElem?_getD, sy_0, sy_4, q3]
      simp (disch := omega) only [ni_in, ni_cl, ni_add, ni_mul, ni_sub, ni_lt, ni_le, ni_eq, ni_eq0, ni_lt0, ni_0le, ni_0lt, ni_le0, ni_a1, ni_a3, ni_a7, ni_a15, q0, q1]
      dsimp only [pR] at hci
      dsimp only [pE] at hE
      rw [hci, ni_eq (show P.2.2.2.1 < 2 ^ 31 by omega) (by omega)]
      refine ⟨fun z => h116 (by rw [decide_eq_false (show ¬ pE P = 2 from z)]; rfl), fun z => ⟨by decide, by decide, fun y => h116 (by rw [decide_eq_false (show ¬ S.2.1 1 < S.2.1 0 by omega), Bool.and_false]), fun y => h117 M3 true ?_ r3 f3⟩⟩
      rw [decide_eq_true (show pE P = 2 from z), decide_eq_true (show S.2.1 1 < S.2.1 0 by omega)]; rfl
    have loop : ∀ (f i : Nat) (M3 : pm_M), pC P ≤ i + f → i ≤ pC P → rowIs M3 25 (frC P S (T.take i)) → yfr [25] [] M2 M3 → X 12 [(0, .ref 0), (1, .int (nI (frC P S (T.take i)).length)), (2, .int (nI i))] [] M3 := by
      intro f
      induction f with
      | zero =>
        intro i M3 g1 g2 r3 f3
        have e : i = pC P := by omega
        have m2' : M3.1 0 2 = nI (pC P) := by rw [f3.f (by simp)]; exact d2.2.2.2.1
        have et : T.take i = T := by rw [List.take_of_length_le (by omega)]
        rw [et] at r3 ⊢
        rw [e]
        refine hb12 _ _ _ ?_
        simp (maxSteps := 2000000) [bk_X7_tells_0, bk_X7_tells_12, bk_X7_tells_45, bk_X7_tells_83, bk_X7_tells_89, bk_X7_tells_116, bk_X7_tells_117, bk_X7_tells_120, bk_X7_tells_150, bk_X7_tells_151, bk_X7_tells_159, pm_arr, pm_call, pm_e_c0, pm_e_c1, pm_e_cti, pm_e_ctl, pm_e_ctr, pm_e_go, pm_e_i, pm_e_ii, pm_e_ldi, pm_e_ldr, pm_e_lk, pm_e_r, pm_e_ri, pm_e_rii, pm_e_rm0, pm_e_rm1, pm_e_rs0, pm_e_rs1, pm_e_wp0, pm_e_wp1, pm_f2, pm_f3, pm_fld, pm_fv, pm_obj, pm_recv, pm_s_aload_n, pm_s_bipush, pm_s_getfield, pm_s_goto, pm_s_iadd, pm_s_iaload, pm_s_iastore, pm_s_iconst, pm_s_ifCond_eq, pm_s_if_icmp_ge, pm_s_if_icmp_le, pm_s_if_icmp_ne, pm_s_iinc, pm_s_iload, pm_s_iload_n, pm_s_imul, pm_s_invokevirtual, pm_s_ireturn, pm_s_istore, pm_s_istore_n, pm_s_isub, ct_X7_tells, pS, pR, pC, pE, pL, -Int32.not_le, -Int32.not_lt, -Int64.not_le, -Int64.not_lt, -List.getD_eq_getElem?_getD, sy_0, m2']
        exact h89 M3 r3 f3
      | succ f ih =>
        intro i M3 g1 g2 r3 f3
        have m2' : M3.1 0 2 = nI (pC P) := by rw [f3.f (by simp)]; exact d2.2.2.2.1
        by_cases hi : i < pC P
        · have hoT := tc (T.getD i 0) (getD_mem (by omega))
          have ho : M3.1 19 i = nI (T.getD i 0) := by rw [f3.i (by decide) (by decide)]; exact o2 i hi
          have hft := frC_take (P := P) (S := S) (T := T) (k := i) (by omega)
          have hfl1 := frC_tl P S T (i + 1)
          rw [hft, List.length_append, List.length_cons, List.length_map] at hfl1
          generalize hoo : T.getD i 0 = o at *
          have ho4 : o < 4 := hoT.2
          have lo := lS o ho4
          have hn : ∀ M4, yfr [25] [] M2 M4 → M4.1 10 o = nI (S.1 o).length := fun M4 f4 => by rw [f4.i (by decide) (by decide)]; exact s2.n ho4
          have hc : ∀ M4 j, yfr [25] [] M2 M4 → j < (S.1 o).length → M4.1 11 (12 * o + j) = nI (cdN (pR P) ((S.1 o).getD j 0)) := fun M4 j f4 hj => by rw [f4.i (by decide) (by decide)]; exact s2.c ho4 hj
          generalize hpre : frC P S (T.take i) = L at *
          have fin : ∀ M4, rowIs M4 25 (L ++ ((S.1 o).length :: (S.1 o).map (cdN (pR P)))) → yfr [25] [] M2 M4 → X 83 [(0, .ref 0), (1, .int (nI (L.length + 1 + (S.1 o).length))), (2, .int (nI i))] [] M4 := by
            intro M4 r4 f4
            refine hb83 _ _ _ ?_
            simp (maxSteps := 2000000) [bk_X7_tells_0, bk_X7_tells_12, bk_X7_tells_45, bk_X7_tells_83, bk_X7_tells_89, bk_X7_tells_116, bk_X7_tells_117, bk_X7_tells_120, bk_X7_tells_150, bk_X7_tells_151, bk_X7_tells_159, pm_arr, pm_call, pm_e_c0, pm_e_c1, pm_e_cti, pm_e_ctl, pm_e_ctr, pm_e_go, pm_e_i, pm_e_ii, pm_e_ldi, pm_e_ldr, pm_e_lk, pm_e_r, pm_e_ri, pm_e_rii, pm_e_rm0, pm_e_rm1, pm_e_rs0, pm_e_rs1, pm_e_wp0, pm_e_wp1, pm_f2, pm_f3, pm_fld, pm_fv, pm_obj, pm_recv, pm_s_aload_n, pm_s_bipush, pm_s_getfield, pm_s_goto, pm_s_iadd, pm_s_iaload, pm_s_iastore, pm_s_iconst, pm_s_ifCond_eq, pm_s_if_icmp_ge, pm_s_if_icmp_le, pm_s_if_icmp_ne, pm_s_iinc, pm_s_iload, pm_s_iload_n, pm_s_imul, pm_s_invokevirtual, pm_s_ireturn, pm_s_istore, pm_s_istore_n, pm_s_isub, ct_X7_tells, pS, pR, pC, pE, pL, -Int32.not_le, -Int32.not_lt, -Int64.not_le, -Int64.not_lt, -List.getD_eq_getElem?_getD]
            rw [ni_add]
            have := ih (i + 1) M4 (by omega) (by omega) (by rw [hft]; exact r4) f4
            rw [hft, List.length_append, List.length_cons, List.length_map, show L.length + ((S.1 o).length + 1) = L.length + 1 + (S.1 o).length by omega] at this
            exact this
          have inner : ∀ (g j : Nat) (M4 : pm_M), (S.1 o).length ≤ j + g → j ≤ (S.1 o).length → rowIs M4 25 (L ++ ((S.1 o).length :: ((S.1 o).take j).map (cdN (pR P)))) → yfr [25] [] M2 M4 → X 45 [(0, .ref 0), (1, .int (nI (L.length + 1 + j))), (2, .int (nI i)), (3, .int (nI o)), (4, .int (nI j))] [] M4 := by
            intro g
            induction g with
            | zero =>
              intro j M4 k1 k2 r4 f4
              have e : j = (S.1 o).length := by omega
              rw [e, List.take_length] at r4
              rw [e]
              refine hb45 _ _ _ ?_
              simp (maxSteps := 2000000) [bk_X7_tells_0, bk_X7_tells_12, bk_X7_tells_45, bk_X7_tells_83, bk_X7_tells_89, bk_X7_tells_116, bk_X7_tells_117, bk_X7_tells_120, bk_X7_tells_150, bk_X7_tells_151, bk_X7_tells_159, pm_arr, pm_call, pm_e_c0, pm_e_c1, pm_e_cti, pm_e_ctl, pm_e_ctr, pm_e_go, pm_e_i, pm_e_ii, pm_e_ldi, pm_e_ldr, pm_e_lk, pm_e_r, pm_e_ri, pm_e_rii, pm_e_rm0, pm_e_rm1, pm_e_rs0, pm_e_rs1, pm_e_wp0, pm_e_wp1, pm_f2, pm_f3, pm_fld, pm_fv, pm_obj, pm_recv, pm_s_aload_n, pm_s_bipush, pm_s_getfield, pm_s_goto, pm_s_iadd, pm_s_iaload, pm_s_iastore, pm_s_iconst, pm_s_ifCond_eq, pm_s_if_icmp_ge, pm_s_if_icmp_le, pm_s_if_icmp_ne, pm_s_iinc, pm_s_iload, pm_s_iload_n, pm_s_imul, pm_s_invokevirtual, pm_s_ireturn, pm_s_istore, pm_s_istore_n, pm_s_isub, ct_X7_tells, pS, pR, pC, pE, pL, -Int32.not_le, -Int32.not_lt, -Int64.not_le, -Int64.not_lt, -List.getD_eq_getElem?_getD, sy_0, sy_10]
              rw [ni_in (by omega), ni_cl (by omega), hn M4 f4]
              exact ⟨by omega, fun _ => fin M4 r4 f4, fun z => absurd (Int32.le_refl _) z⟩
            | succ g ihg =>
              intro j M4 k1 k2 r4 f4
              by_cases hj : j < (S.1 o).length
              · refine hb45 _ _ _ ?_
                simp (maxSteps := 2000000) [bk_X7_tells_0, bk_X7_tells_12, bk_X7_tells_45, bk_X7_tells_83, bk_X7_tells_89, bk_X7_tells_116, bk_X7_tells_117, bk_X7_tells_120, bk_X7_tells_150, bk_X7_tells_151, bk_X7_tells_159, pm_arr, pm_call, pm_e_c0, pm_e_c1, pm_e_cti, pm_e_ctl, pm_e_ctr, pm_e_go, pm_e_i, pm_e_ii, pm_e_ldi, pm_e_ldr, pm_e_lk, pm_e_r, pm_e_ri, pm_e_rii, pm_e_rm0, pm_e_rm1, pm_e_rs0, pm_e_rs1, pm_e_wp0, pm_e_wp1, pm_f2, pm_f3, pm_fld, pm_fv, pm_obj, pm_recv, pm_s_aload_n, pm_s_bipush, pm_s_getfield, pm_s_goto, pm_s_iadd, pm_s_iaload, pm_s_iastore, pm_s_iconst, pm_s_ifCond_eq, pm_s_if_icmp_ge, pm_s_if_icmp_le, pm_s_if_icmp_ne, pm_s_iinc, pm_s_iload, pm_s_iload_n, pm_s_imul, pm_s_invokevirtual, pm_s_ireturn, pm_s_istore, pm_s_istore_n, pm_s_isub, ct_X7_tells, pS, pR, pC, pE, pL, -Int32.not_le, -Int32.not_lt, -Int64.not_le, -Int64.not_lt, -List.getD_eq_getElem?_getD, sy_0, sy_10, sy_11, sy_25]
                rw [ni_in (n := 4) (by omega), ni_cl (a := o) (by omega), hn M4 f4, ni_le (by omega) (by omega), ni_mul, ni_add, ni_add, ni_add, ni_in (by omega), ni_in (by omega), ni_cl (by omega), ni_cl (by omega), hc M4 j f4 hj]
                refine ⟨by omega, fun z => by omega, fun _ => ⟨by omega, by omega, ?_⟩⟩
                have r5 := r4.app (v := cdN (pR P) ((S.1 o).getD j 0))
                have el : (L ++ ((S.1 o).length :: ((S.1 o).take j).map (cdN (pR P)))).length = L.length + 1 + j := by simp; omega
                have ea : L ++ ((S.1 o).length :: ((S.1 o).take j).map (cdN (pR P))) ++ [cdN (pR P) ((S.1 o).getD j 0)] = L ++ ((S.1 o).length :: ((S.1 o).take (j + 1)).map (cdN (pR P))) := by
                  rw [List.take_succ, List.map_append, List.getElem?_eq_getElem hj, List.getD_eq_getElem?_getD, List.getElem?_eq_getElem hj]; simp
                rw [el, ea] at r5
                exact ihg (j + 1) _ (by omega) (by omega) r5 (f4.set (by decide) (by decide))
              · have e : j = (S.1 o).length := by omega
                rw [e, List.take_length] at r4
                rw [e]
                refine hb45 _ _ _ ?_
                simp (maxSteps := 2000000) [bk_X7_tells_0, bk_X7_tells_12, bk_X7_tells_45, bk_X7_tells_83, bk_X7_tells_89, bk_X7_tells_116, bk_X7_tells_117, bk_X7_tells_120, bk_X7_tells_150, bk_X7_tells_151, bk_X7_tells_159, pm_arr, pm_call, pm_e_c0, pm_e_c1, pm_e_cti, pm_e_ctl, pm_e_ctr, pm_e_go, pm_e_i, pm_e_ii, pm_e_ldi, pm_e_ldr, pm_e_lk, pm_e_r, pm_e_ri, pm_e_rii, pm_e_rm0, pm_e_rm1, pm_e_rs0, pm_e_rs1, pm_e_wp0, pm_e_wp1, pm_f2, pm_f3, pm_fld, pm_fv, pm_obj, pm_recv, pm_s_aload_n, pm_s_bipush, pm_s_getfield, pm_s_goto, pm_s_iadd, pm_s_iaload, pm_s_iastore, pm_s_iconst, pm_s_ifCond_eq, pm_s_if_icmp_ge, pm_s_if_icmp_le, pm_s_if_icmp_ne, pm_s_iinc, pm_s_iload, pm_s_iload_n, pm_s_imul, pm_s_invokevirtual, pm_s_ireturn, pm_s_istore, pm_s_istore_n, pm_s_isub, ct_X7_tells, pS, pR, pC, pE, pL, -Int32.not_le, -Int32.not_lt, -Int64.not_le, -Int64.not_lt, -List.getD_eq_getElem?_getD, sy_0, sy_10]
                rw [ni_in (by omega), ni_cl (by omega), hn M4 f4]
                exact ⟨by omega, fun _ => fin M4 r4 f4, fun z => absurd (Int32.le_refl _) z⟩
          refine hb12 _ _ _ ?_
          simp (maxSteps := 2000000) [bk_X7_tells_0, bk_X7_tells_12, bk_X7_tells_45, bk_X7_tells_83, bk_X7_tells_89, bk_X7_tells_116, bk_X7_tells_117, bk_X7_tells_120, bk_X7_tells_150, bk_X7_tells_151, bk_X7_tells_159, pm_arr, pm_call, pm_e_c0, pm_e_c1, pm_e_cti, pm_e_ctl, pm_e_ctr, pm_e_go, pm_e_i, pm_e_ii, pm_e_ldi, pm_e_ldr, pm_e_lk, pm_e_r, pm_e_ri, pm_e_rii, pm_e_rm0, pm_e_rm1, pm_e_rs0, pm_e_rs1, pm_e_wp0, pm_e_wp1, pm_f2, pm_f3, pm_fld, pm_fv, pm_obj, pm_recv, pm_s_aload_n, pm_s_bipush, pm_s_getfield, pm_s_goto, pm_s_iadd, pm_s_iaload, pm_s_iastore, pm_s_iconst, pm_s_ifCond_eq, pm_s_if_icmp_ge, pm_s_if_icmp_le, pm_s_if_icmp_ne, pm_s_iinc, pm_s_iload, pm_s_iload_n, pm_s_imul, pm_s_invokevirtual, pm_s_ireturn, pm_s_istore, pm_s_istore_n, pm_s_isub, ct_X7_tells, pS, pR, pC, pE, pL, -Int32.not_le, -Int32.not_lt, -Int64.not_le, -Int64.not_lt, -List.getD_eq_getElem?_getD, sy_0, sy_19, sy_10, sy_25, m2']
          dsimp only [pC] at hi hC4
          rw [ni_le (by omega) (by omega), ni_in (n := 4) (by omega), ni_cl (a := i) (by omega), ho, ni_in (n := 4) (by omega), ni_cl (a := o) (by omega), hn M3 f3, ni_in (by omega), ni_cl (by omega), ni_add]
          refine ⟨fun z => by omega, fun _ => ⟨by omega, by omega, by omega, ?_⟩⟩
          exact inner (S.1 o).length 0 _ (by omega) (by omega) r3.app (f3.set (by decide) (by decide))
        · have e : i = pC P := by omega
          have et : T.take i = T := by rw [List.take_of_length_le (by omega)]
          rw [et] at r3 ⊢
          rw [e]
          refine hb12 _ _ _ ?_
          simp (maxSteps := 2000000) [bk_X7_tells_0, bk_X7_tells_12, bk_X7_tells_45, bk_X7_tells_83, bk_X7_tells_89, bk_X7_tells_116, bk_X7_tells_117, bk_X7_tells_120, bk_X7_tells_150, bk_X7_tells_151, bk_X7_tells_159, pm_arr, pm_call, pm_e_c0, pm_e_c1, pm_e_cti, pm_e_ctl, pm_e_ctr, pm_e_go, pm_e_i, pm_e_ii, pm_e_ldi, pm_e_ldr, pm_e_lk, pm_e_r, pm_e_ri, pm_e_rii, pm_e_rm0, pm_e_rm1, pm_e_rs0, pm_e_rs1, pm_e_wp0, pm_e_wp1, pm_f2, pm_f3, pm_fld, pm_fv, pm_obj, pm_recv, pm_s_aload_n, pm_s_bipush, pm_s_getfield, pm_s_goto, pm_s_iadd, pm_s_iaload, pm_s_iastore, pm_s_iconst, pm_s_ifCond_eq, pm_s_if_icmp_ge, pm_s_if_icmp_le, pm_s_if_icmp_ne, pm_s_iinc, pm_s_iload, pm_s_iload_n, pm_s_imul, pm_s_invokevirtual, pm_s_ireturn, pm_s_istore, pm_s_istore_n, pm_s_isub, ct_X7_tells, pS, pR, pC, pE, pL, -Int32.not_le, -Int32.not_lt, -Int64.not_le, -Int64.not_lt, -List.getD_eq_getElem?_getD, sy_0, m2']
          exact h89 M3 r3 f3
    exact loop (pC P) 0 M2 (by omega) (by omega) (fun j hj => by simp [frC] at hj) yfr.rfl
  · exact hT.elim
def tt_X7_form : pm_T := fun args M k => match args with
  | [.ref 0, .int x] => ∃ A, okA A ∧ MY M A ∧ ∀ M', MY M' A → k (some (.int (fForm A x))) M'
  | _ => False
abbrev ct_X7_form : List pm_C := [(false, 244, 7, 1, (some .int), tt_X7_tells), (true, 111, 7, 3, (some .boolean), tt_X7_in)]
set_option maxHeartbeats 4000000 in
theorem sm_X7_form  : pm_Sem SHy yX7_form cX7_form 3 (some .int) 4 tt_X7_form := by
  refine pm_Sem_intro bl_X7_form ct_X7_form cs_X7_form rfl (List.forall_mem_cons.mpr ⟨⟨_, _, _, _, sm_X7_tells, by decide, cm_X7_tells, by decide +kernel⟩, List.forall_mem_cons.mpr ⟨⟨_, _, _, _, sm_X7_in, by decide, cm_X7_in, by decide +kernel⟩, fun _ h => absurd h List.not_mem_nil⟩⟩) ck_X7_form (by decide +kernel) (by decide) ?_
  intro X k hX args M hT
  have hb0 := hX 0 bk_X7_form_0 (List.mem_of_getElem? (i := 0) rfl)
  have hb25 := hX 25 bk_X7_form_25 (List.mem_of_getElem? (i := 1) rfl)
  have hb26 := hX 26 bk_X7_form_26 (List.mem_of_getElem? (i := 2) rfl)
  clear hX
  unfold tt_X7_form at hT; split at hT
  · next x =>
    obtain ⟨A, hA, hM, hT⟩ := hT
    have hfr := (frL_ok hA.1 hA.wf).1
    unfold fForm at hT
    refine ⟨by simp [lg_sl, Value.category], ?_⟩
    refine hb0 _ _ _ ?_
    simp (maxSteps := 2000000) [bk_X7_form_0, bk_X7_form_25, bk_X7_form_26, pm_arr, pm_call, pm_e_c0, pm_e_c1, pm_e_cti, pm_e_ctl, pm_e_ctr, pm_e_go, pm_e_i, pm_e_ii, pm_e_ldi, pm_e_ldr, pm_e_lk, pm_e_r, pm_e_ri, pm_e_rm0, pm_e_rm1, pm_e_rs0, pm_e_rs1, pm_e_wp0, pm_e_wp1, pm_f2, pm_f3, pm_fld, pm_fv, pm_obj, pm_recv, pm_s_aload_n, pm_s_getfield, pm_s_goto, pm_s_iaload, pm_s_iconst, pm_s_ifCond_eq, pm_s_iload_n, pm_s_invokestatic, pm_s_invokevirtual, pm_s_ireturn, pm_s_istore_n, pm_s_isub, ct_X7_form, tt_X7_in, pS, pR, pC, pE, pL, -Int32.not_le, -Int32.not_lt, -Int64.not_le, -Int64.not_lt, -List.getD_eq_getElem?_getD, lv_args, sy_0]
    refine ⟨A, hA, hM, fun M1 r1 f1 => ?_⟩
    have hM1 := hM.scr f1 (by decide) (by decide)
    have h26 : ∀ v, k (some (.int v)) M1 → X 26 [] [.int v] M1 := by
      intro v hv
      refine hb26 _ _ _ ?_
      simp (maxSteps := 2000000) [bk_X7_form_0, bk_X7_form_25, bk_X7_form_26, pm_arr, pm_call, pm_e_c0, pm_e_c1, pm_e_cti, pm_e_ctl, pm_e_ctr, pm_e_go, pm_e_i, pm_e_ii, pm_e_ldi, pm_e_ldr, pm_e_lk, pm_e_r, pm_e_ri, pm_e_rm0, pm_e_rm1, pm_e_rs0, pm_e_rs1, pm_e_wp0, pm_e_wp1, pm_f2, pm_f3, pm_fld, pm_fv, pm_obj, pm_recv, pm_s_aload_n, pm_s_getfield, pm_s_goto, pm_s_iaload, pm_s_iconst, pm_s_ifCond_eq, pm_s_iload_n, pm_s_invokestatic, pm_s_invokevirtual, pm_s_ireturn, pm_s_istore_n, pm_s_isub, ct_X7_form, tt_X7_in, pS, pR, pC, pE, pL, -Int32.not_le, -Int32.not_lt, -Int64.not_le, -Int64.not_lt, -List.getD_eq_getElem?_getD]
      exact hv
    simp (maxSteps := 2000000) [bk_X7_form_0, bk_X7_form_25, bk_X7_form_26, pm_arr, pm_call, pm_e_c0, pm_e_c1, pm_e_cti, pm_e_ctl, pm_e_ctr, pm_e_go, pm_e_i, pm_e_ii, pm_e_ldi, pm_e_ldr, pm_e_lk, pm_e_r, pm_e_ri, pm_e_rm0, pm_e_rm1, pm_e_rs0, pm_e_rs1, pm_e_wp0, pm_e_wp1, pm_f2, pm_f3, pm_fld, pm_fv, pm_obj, pm_recv, pm_s_aload_n, pm_s_getfield, pm_s_goto, pm_s_iaload, pm_s_iconst, pm_s_ifCond_eq, pm_s_iload_n, pm_s_invokestatic, pm_s_invokevirtual, pm_s_ireturn, pm_s_istore_n, pm_s_isub, ct_X7_form, tt_X7_in, pS, pR, pC, pE, pL, -Int32.not_le, -Int32.not_lt, -Int64.not_le, -Int64.not_lt, -List.getD_eq_getElem?_getD, sy_0, sy_25, pb_eq0]
    refine ⟨fun h => ?_, fun h => ?_⟩
    · refine hb25 _ _ _ ?_
      simp (maxSteps := 2000000) [bk_X7_form_0, bk_X7_form_25, bk_X7_form_26, pm_arr, pm_call, pm_e_c0, pm_e_c1, pm_e_cti, pm_e_ctl, pm_e_ctr, pm_e_go, pm_e_i, pm_e_ii, pm_e_ldi, pm_e_ldr, pm_e_lk, pm_e_r, pm_e_ri, pm_e_rm0, pm_e_rm1, pm_e_rs0, pm_e_rs1, pm_e_wp0, pm_e_wp1, pm_f2, pm_f3, pm_fld, pm_fv, pm_obj, pm_recv, pm_s_aload_n, pm_s_getfield, pm_s_goto, pm_s_iaload, pm_s_iconst, pm_s_ifCond_eq, pm_s_iload_n, pm_s_invokestatic, pm_s_invokevirtual, pm_s_ireturn, pm_s_istore_n, pm_s_isub, ct_X7_form, tt_X7_in, pS, pR, pC, pE, pL, -Int32.not_le, -Int32.not_lt, -Int64.not_le, -Int64.not_lt, -List.getD_eq_getElem?_getD]
      rw [if_neg (by simp [h])] at hT
      exact h26 _ (hT M1 hM1)
    · rw [if_pos h] at hT
      obtain ⟨x1, x2⟩ := wi_lt (n := (frL (aP A) (pE (aP A)) (aS A)).length) (by omega) h
      rw [x1, ni_in (by omega), ni_cl (by omega), r1 _ x2]
      exact ⟨by omega, h26 _ (hT M1 hM1)⟩
  · exact hT.elim
