def tt_X7_isLet : pm_T := fun args M k => match args with
  | [.ref 0, .int x, .int y] => ∃ P n o, x = nI (cdN (pR P) n) ∧ y = nI (cdN (pR P) o) ∧ DkY M P ∧ (1 ≤ n ∧ n ≤ pS P * pR P) ∧ o ≤ pS P * pR P ∧ k (some (.int (pb (letF P n o)))) M
  | _ => False
theorem xor1 : ∀ a, a < 4 → ∀ b, b < 4 → ((nI a ^^^ nI b) &&& nI 1 = 0 ↔ a % 2 = b % 2) := by decide +kernel
abbrev ct_X7_isLet : List pm_C := []
set_option maxHeartbeats 4000000 in
theorem sm_X7_isLet  : pm_Sem SHy yX7_isLet cX7_isLet 5 (some .boolean) 1 tt_X7_isLet := by
  refine pm_Sem_intro bl_X7_isLet ct_X7_isLet cs_X7_isLet rfl (fun _ h => absurd h List.not_mem_nil) ck_X7_isLet (by decide +kernel) (by decide) ?_
  intro X k hX args M hT
  have hb0 := hX 0 bk_X7_isLet_0 (List.mem_of_getElem? (i := 0) rfl)
  have hb23 := hX 23 bk_X7_isLet_23 (List.mem_of_getElem? (i := 1) rfl)
  have hb27 := hX 27 bk_X7_isLet_27 (List.mem_of_getElem? (i := 2) rfl)
  have hb28 := hX 28 bk_X7_isLet_28 (List.mem_of_getElem? (i := 3) rfl)
  have hb29 := hX 29 bk_X7_isLet_29 (List.mem_of_getElem? (i := 4) rfl)
  have hb46 := hX 46 bk_X7_isLet_46 (List.mem_of_getElem? (i := 5) rfl)
  have hb47 := hX 47 bk_X7_isLet_47 (List.mem_of_getElem? (i := 6) rfl)
  have hb61 := hX 61 bk_X7_isLet_61 (List.mem_of_getElem? (i := 7) rfl)
  have hb62 := hX 62 bk_X7_isLet_62 (List.mem_of_getElem? (i := 8) rfl)
  have hb100 := hX 100 bk_X7_isLet_100 (List.mem_of_getElem? (i := 9) rfl)
  have hb102 := hX 102 bk_X7_isLet_102 (List.mem_of_getElem? (i := 10) rfl)
  have hb115 := hX 115 bk_X7_isLet_115 (List.mem_of_getElem? (i := 11) rfl)
  have hb116 := hX 116 bk_X7_isLet_116 (List.mem_of_getElem? (i := 12) rfl)
  have hb117 := hX 117 bk_X7_isLet_117 (List.mem_of_getElem? (i := 13) rfl)
  have hb153 := hX 153 bk_X7_isLet_153 (List.mem_of_getElem? (i := 14) rfl)
  have hb157 := hX 157 bk_X7_isLet_157 (List.mem_of_getElem? (i := 15) rfl)
  have hb158 := hX 158 bk_X7_isLet_158 (List.mem_of_getElem? (i := 16) rfl)
  have hb159 := hX 159 bk_X7_isLet_159 (List.mem_of_getElem? (i := 17) rfl)
  have hb179 := hX 179 bk_X7_isLet_179 (List.mem_of_getElem? (i := 18) rfl)
  have hb180 := hX 180 bk_X7_isLet_180 (List.mem_of_getElem? (i := 19) rfl)
  clear hX
  unfold tt_X7_isLet at hT; split at hT
  · obtain ⟨⟨s, r, c, e, w⟩, n, o, rfl, rfl, hD, ⟨n1, n2⟩, o2, hT⟩ := hT
    have hP := hD.1
    obtain ⟨h1, h2, h3, h4, h5, h6, h7, h8, h9⟩ := id hP
    obtain ⟨-, m0, m1, m2, m3, m4⟩ := id hD
    obtain ⟨cn1, cn2⟩ := cd_sh hP n1 n2
    have n32 := cdN_le hP n2
    have o32 := cdN_le hP o2
    dsimp only [pS, pR, pC, pE, pL] at *
    have qn := ra_le (n := n) h3
    have un := su_lt h3 n1 n2
    have gn := ra_ge (r := r) (n := n)
    refine ⟨by simp [lg_sl, Value.category], ?_⟩
    have h28 : ∀ b : Bool, b = letF (s, r, c, e, w) n o → X 28 [] [.int (pb b)] M := by
      intro b eb
      refine hb28 _ _ _ ?_
      simp (maxSteps := 2000000) [bk_X7_isLet_0, bk_X7_isLet_23, bk_X7_isLet_27, bk_X7_isLet_28, bk_X7_isLet_29, bk_X7_isLet_46, bk_X7_isLet_47, bk_X7_isLet_61, bk_X7_isLet_62, bk_X7_isLet_100, bk_X7_isLet_102, bk_X7_isLet_115, bk_X7_isLet_116, bk_X7_isLet_117, bk_X7_isLet_153, bk_X7_isLet_157, bk_X7_isLet_158, bk_X7_isLet_159, bk_X7_isLet_179, bk_X7_isLet_180, pm_e_c0, pm_e_c1, pm_e_cti, pm_e_ctl, pm_e_ctr, pm_e_go, pm_e_i, pm_e_ii, pm_e_ldi, pm_e_ldr, pm_e_lk, pm_e_r, pm_e_rm0, pm_e_rm1, pm_e_rs0, pm_e_rs1, pm_e_sw0, pm_e_sw1, pm_e_wp0, pm_e_wp1, pm_f2, pm_f3, pm_fld, pm_fv, pm_obj, pm_s_aload_n, pm_s_bipush, pm_s_getfield, pm_s_goto, pm_s_iadd, pm_s_iand, pm_s_iconst, pm_s_ifCond_eq, pm_s_ifCond_ne, pm_s_if_icmp_le, pm_s_if_icmp_ne, pm_s_iload, pm_s_iload_n, pm_s_ireturn, pm_s_ishr, pm_s_istore, pm_s_istore_n, pm_s_ixor, pm_s_tableswitch, ct_X7_isLet, pS, pR, pC, pE, pL, -Int32.not_le, -Int32.not_lt, -Int64.not_le, -Int64.not_lt, -List.getD_eq_getElem?_getD, pb_01]
      rw [eb]; exact hT
    refine hb0 _ _ _ ?_
    simp (maxSteps := 2000000) [bk_X7_isLet_0, bk_X7_isLet_23, bk_X7_isLet_27, bk_X7_isLet_28, bk_X7_isLet_29, bk_X7_isLet_46, bk_X7_isLet_47, bk_X7_isLet_61, bk_X7_isLet_62, bk_X7_isLet_100, bk_X7_isLet_102, bk_X7_isLet_115, bk_X7_isLet_116, bk_X7_isLet_117, bk_X7_isLet_153, bk_X7_isLet_157, bk_X7_isLet_158, bk_X7_isLet_159, bk_X7_isLet_179, bk_X7_isLet_180, pm_e_c0, pm_e_c1, pm_e_cti, pm_e_ctl, pm_e_ctr, pm_e_go, pm_e_i, pm_e_ii, pm_e_ldi, pm_e_ldr, pm_e_lk, pm_e_r, pm_e_rm0, pm_e_rm1, pm_e_rs0, pm_e_rs1, pm_e_sw0, pm_e_sw1, pm_e_wp0, pm_e_wp1, pm_f2, pm_f3, pm_fld, pm_fv, pm_obj, pm_s_aload_n, pm_s_bipush, pm_s_getfield, pm_s_goto, pm_s_iadd, pm_s_iand, pm_s_iconst, pm_s_ifCond_eq, pm_s_ifCond_ne, pm_s_if_icmp_le, pm_s_if_icmp_ne, pm_s_iload, pm_s_iload_n, pm_s_ireturn, pm_s_ishr, pm_s_istore, pm_s_istore_n, pm_s_ixor, pm_s_tableswitch, ct_X7_isLet, pS, pR, pC, pE, pL, -Int32.not_le, -Int32.not_lt, -Int64.not_le, -Int64.not_lt, -List.getD_eq_getElem?_getD, lv_args, sy_0, m4, m1]
    rw [ni_eq0 (by omega), cn2, ni_eq (by omega) (by decide), ni_eq (by omega) (by omega), cdN_0]
    refine ⟨fun o0 => ?_, fun o0 => ?_⟩
    · obtain ⟨co1, co2⟩ := cd_sh hP (d := o) (by omega) o2
      have qo := ra_le (n := o) h3
      have uo := su_lt h3 (show 1 ≤ o by omega) o2
      have go := ra_ge (r := r) (n := o)
      dsimp only [pS, pR] at co1 co2
      have key : ∀ (a b : Bool), a = decide (ra r o = ra r n + 1) → b = decide (su r o = su r n) → X 62 [(0, .ref 0), (1, .int (nI (cdN r n))), (2, .int (nI (cdN r o))), (3, .int (pb a))] [.int (pb b)] M := by
        intro a b ea eb
        refine hb62 _ _ _ ?_
        simp (maxSteps := 2000000) [bk_X7_isLet_0, bk_X7_isLet_23, bk_X7_isLet_27, bk_X7_isLet_28, bk_X7_isLet_29, bk_X7_isLet_46, bk_X7_isLet_47, bk_X7_isLet_61, bk_X7_isLet_62, bk_X7_isLet_100, bk_X7_isLet_102, bk_X7_isLet_115, bk_X7_isLet_116, bk_X7_isLet_117, bk_X7_isLet_153, bk_X7_isLet_157, bk_X7_isLet_158, bk_X7_isLet_159, bk_X7_isLet_179, bk_X7_isLet_180, pm_e_c0, pm_e_c1, pm_e_cti, pm_e_ctl, pm_e_ctr, pm_e_go, pm_e_i, pm_e_ii, pm_e_ldi, pm_e_ldr, pm_e_lk, pm_e_r, pm_e_rm0, pm_e_rm1, pm_e_rs0, pm_e_rs1, pm_e_sw0, pm_e_sw1, pm_e_wp0, pm_e_wp1, pm_f2, pm_f3, pm_fld, pm_fv, pm_obj, pm_s_aload_n, pm_s_bipush, pm_s_getfield, pm_s_goto, pm_s_iadd, pm_s_iand, pm_s_iconst, pm_s_ifCond_eq, pm_s_ifCond_ne, pm_s_if_icmp_le, pm_s_if_icmp_ne, pm_s_iload, pm_s_iload_n, pm_s_ireturn, pm_s_ishr, pm_s_istore, pm_s_istore_n, pm_s_ixor, pm_s_tableswitch, ct_X7_isLet, pS, pR, pC, pE, pL, -Int32.not_le, -Int32.not_lt, -Int64.not_le, -Int64.not_lt, -List.getD_eq_getElem?_getD, sy_0, m4]
        rw [nI_toInt (by omega)]
        have h159 : w = 2 ∨ w = 4 → X 159 [(1, .int (nI (cdN r n))), (2, .int (nI (cdN r o))), (3, .int (pb a))] [] M := by
          intro hw
          have eL : letF (s, r, c, e, w) n o = (a && !decide (su r n % 2 = su r o % 2)) := by
            rw [ea]; unfold letF; simp only [pL, pR]
            rw [if_neg o0, if_neg (by omega), if_neg (by omega), if_pos hw]
          have h180 : ∀ b : Bool, b = letF (s, r, c, e, w) n o → X 180 [] [.int (pb b)] M := by
            intro b eb
            refine hb180 _ _ _ ?_
            simp (maxSteps := 2000000) [bk_X7_isLet_0, bk_X7_isLet_23, bk_X7_isLet_27, bk_X7_isLet_28, bk_X7_isLet_29, bk_X7_isLet_46, bk_X7_isLet_47, bk_X7_isLet_61, bk_X7_isLet_62, bk_X7_isLet_100, bk_X7_isLet_102, bk_X7_isLet_115, bk_X7_isLet_116, bk_X7_isLet_117, bk_X7_isLet_153, bk_X7_isLet_157, bk_X7_isLet_158, bk_X7_isLet_159, bk_X7_isLet_179, bk_X7_isLet_180, pm_e_c0, pm_e_c1, pm_e_cti, pm_e_ctl, pm_e_ctr, pm_e_go, pm_e_i, pm_e_ii, pm_e_ldi, pm_e_ldr, pm_e_lk, pm_e_r, pm_e_rm0, pm_e_rm1, pm_e_rs0, pm_e_rs1, pm_e_sw0, pm_e_sw1, pm_e_wp0, pm_e_wp1, pm_f2, pm_f3, pm_fld, pm_fv, pm_obj, pm_s_aload_n, pm_s_bipush, pm_s_getfield, pm_s_goto, pm_s_iadd, pm_s_iand, pm_s_iconst, pm_s_ifCond_eq, pm_s_ifCond_ne, pm_s_if_icmp_le, pm_s_if_icmp_ne, pm_s_iload, pm_s_iload_n, pm_s_ireturn, pm_s_ishr, pm_s_istore, pm_s_istore_n, pm_s_ixor, pm_s_tableswitch, ct_X7_isLet, pS, pR, pC, pE, pL, -Int32.not_le, -Int32.not_lt, -Int64.not_le, -Int64.not_lt, -List.getD_eq_getElem?_getD, pb_01]
            rw [eb]; exact hT
          have h179 : letF (s, r, c, e, w) n o = false → X 179 [] [] M := by
            intro hf
            refine hb179 _ _ _ ?_
            simp (maxSteps := 2000000) [bk_X7_isLet_0, bk_X7_isLet_23, bk_X7_isLet_27, bk_X7_isLet_28, bk_X7_isLet_29, bk_X7_isLet_46, bk_X7_isLet_47, bk_X7_isLet_61, bk_X7_isLet_62, bk_X7_isLet_100, bk_X7_isLet_102, bk_X7_isLet_115, bk_X7_isLet_116, bk_X7_isLet_117, bk_X7_isLet_153, bk_X7_isLet_157, bk_X7_isLet_158, bk_X7_isLet_159, bk_X7_isLet_179, bk_X7_isLet_180, pm_e_c0, pm_e_c1, pm_e_cti, pm_e_ctl, pm_e_ctr, pm_e_go, pm_e_i, pm_e_ii, pm_e_ldi, pm_e_ldr, pm_e_lk, pm_e_r, pm_e_rm0, pm_e_rm1, pm_e_rs0, pm_e_rs1, pm_e_sw0, pm_e_sw1, pm_e_wp0, pm_e_wp1, pm_f2, pm_f3, pm_fld, pm_fv, pm_obj, pm_s_aload_n, pm_s_bipush, pm_s_getfield, pm_s_goto, pm_s_iadd, pm_s_iand, pm_s_iconst, pm_s_ifCond_eq, pm_s_ifCond_ne, pm_s_if_icmp_le, pm_s_if_icmp_ne, pm_s_iload, pm_s_iload_n, pm_s_ireturn, pm_s_ishr, pm_s_istore, pm_s_istore_n, pm_s_ixor, pm_s_tableswitch, ct_X7_isLet, pS, pR, pC, pE, pL, -Int32.not_le, -Int32.not_lt, -Int64.not_le, -Int64.not_lt, -List.getD_eq_getElem?_getD]
            exact h180 false hf.symm
          refine hb159 _ _ _ ?_
          simp (maxSteps := 2000000) [bk_X7_isLet_0, bk_X7_isLet_23, bk_X7_isLet_27, bk_X7_isLet_28, bk_X7_isLet_29, bk_X7_isLet_46, bk_X7_isLet_47, bk_X7_isLet_61, bk_X7_isLet_62, bk_X7_isLet_100, bk_X7_isLet_102, bk_X7_isLet_115, bk_X7_isLet_116, bk_X7_isLet_117, bk_X7_isLet_153, bk_X7_isLet_157, bk_X7_isLet_158, bk_X7_isLet_159, bk_X7_isLet_179, bk_X7_isLet_180, pm_e_c0, pm_e_c1, pm_e_cti, pm_e_ctl, pm_e_ctr, pm_e_go, pm_e_i, pm_e_ii, pm_e_ldi, pm_e_ldr, pm_e_lk, pm_e_r, pm_e_rm0, pm_e_rm1, pm_e_rs0, pm_e_rs1, pm_e_sw0, pm_e_sw1, pm_e_wp0, pm_e_wp1, pm_f2, pm_f3, pm_fld, pm_fv, pm_obj, pm_s_aload_n, pm_s_bipush, pm_s_getfield, pm_s_goto, pm_s_iadd, pm_s_iand, pm_s_iconst, pm_s_ifCond_eq, pm_s_ifCond_ne, pm_s_if_icmp_le, pm_s_if_icmp_ne, pm_s_iload, pm_s_iload_n, pm_s_ireturn, pm_s_ishr, pm_s_istore, pm_s_istore_n, pm_s_ixor, pm_s_tableswitch, ct_X7_isLet, pS, pR, pC, pE, pL, -Int32.not_le, -Int32.not_lt, -Int64.not_le, -Int64.not_lt, -List.getD_eq_getElem?_getD, pb_eq0]
          rw [cn1, co1, xor1 _ (by omega) _ (by omega)]
          refine ⟨fun ha => h179 (by rw [eL, ha]; rfl), fun ha => ⟨fun hx => h179 (by rw [eL, decide_eq_true hx]; simp), fun hx => h180 true (by rw [eL, ha, decide_eq_false hx]; rfl)⟩⟩
        rcases (show w = 0 ∨ w = 1 ∨ w = 2 ∨ w = 3 ∨ w = 4 by omega) with rfl | rfl | rfl | rfl | rfl
        · simp
          refine hb100 _ _ _ ?_
          simp (maxSteps := 2000000) [bk_X7_isLet_0, bk_X7_isLet_23, bk_X7_isLet_27, bk_X7_isLet_28, bk_X7_isLet_29, bk_X7_isLet_46, bk_X7_isLet_47, bk_X7_isLet_61, bk_X7_isLet_62, bk_X7_isLet_100, bk_X7_isLet_102, bk_X7_isLet_115, bk_X7_isLet_116, bk_X7_isLet_117, bk_X7_isLet_153, bk_X7_isLet_157, bk_X7_isLet_158, bk_X7_isLet_159, bk_X7_isLet_179, bk_X7_isLet_180, pm_e_c0, pm_e_c1, pm_e_cti, pm_e_ctl, pm_e_ctr, pm_e_go, pm_e_i, pm_e_ii, pm_e_ldi, pm_e_ldr, pm_e_lk, pm_e_r, pm_e_rm0, pm_e_rm1, pm_e_rs0, pm_e_rs1, pm_e_sw0, pm_e_sw1, pm_e_wp0, pm_e_wp1, pm_f2, pm_f3, pm_fld, pm_fv, pm_obj, pm_s_aload_n, pm_s_bipush, pm_s_getfield, pm_s_goto, pm_s_iadd, pm_s_iand, pm_s_iconst, pm_s_ifCond_eq, pm_s_ifCond_ne, pm_s_if_icmp_le, pm_s_if_icmp_ne, pm_s_iload, pm_s_iload_n, pm_s_ireturn, pm_s_ishr, pm_s_istore, pm_s_istore_n, pm_s_ixor, pm_s_tableswitch, ct_X7_isLet, pS, pR, pC, pE, pL, -Int32.not_le, -Int32.not_lt, -Int64.not_le, -Int64.not_lt, -List.getD_eq_getElem?_getD, pb_01]
          simpa [letF, pL, pR, ea, o0] using hT
        · simp
          refine hb102 _ _ _ ?_
          simp (maxSteps := 2000000) [bk_X7_isLet_0, bk_X7_isLet_23, bk_X7_isLet_27, bk_X7_isLet_28, bk_X7_isLet_29, bk_X7_isLet_46, bk_X7_isLet_47, bk_X7_isLet_61, bk_X7_isLet_62, bk_X7_isLet_100, bk_X7_isLet_102, bk_X7_isLet_115, bk_X7_isLet_116, bk_X7_isLet_117, bk_X7_isLet_153, bk_X7_isLet_157, bk_X7_isLet_158, bk_X7_isLet_159, bk_X7_isLet_179, bk_X7_isLet_180, pm_e_c0, pm_e_c1, pm_e_cti, pm_e_ctl, pm_e_ctr, pm_e_go, pm_e_i, pm_e_ii, pm_e_ldi, pm_e_ldr, pm_e_lk, pm_e_r, pm_e_rm0, pm_e_rm1, pm_e_rs0, pm_e_rs1, pm_e_sw0, pm_e_sw1, pm_e_wp0, pm_e_wp1, pm_f2, pm_f3, pm_fld, pm_fv, pm_obj, pm_s_aload_n, pm_s_bipush, pm_s_getfield, pm_s_goto, pm_s_iadd, pm_s_iand, pm_s_iconst, pm_s_ifCond_eq, pm_s_ifCond_ne, pm_s_if_icmp_le, pm_s_if_icmp_ne, pm_s_iload, pm_s_iload_n, pm_s_ireturn, pm_s_ishr, pm_s_istore, pm_s_istore_n, pm_s_ixor, pm_s_tableswitch, ct_X7_isLet, pS, pR, pC, pE, pL, -Int32.not_le, -Int32.not_lt, -Int64.not_le, -Int64.not_lt, -List.getD_eq_getElem?_getD, pb_eq0]
          repeat' first
            | refine ⟨fun _ => ?_, fun _ => ?_⟩
            | (refine hb115 _ _ _ ?_; simp (maxSteps := 2000000) [bk_X7_isLet_0, bk_X7_isLet_23, bk_X7_isLet_27, bk_X7_isLet_28, bk_X7_isLet_29, bk_X7_isLet_46, bk_X7_isLet_47, bk_X7_isLet_61, bk_X7_isLet_62, bk_X7_isLet_100, bk_X7_isLet_102, bk_X7_isLet_115, bk_X7_isLet_116, bk_X7_isLet_117, bk_X7_isLet_153, bk_X7_isLet_157, bk_X7_isLet_158, bk_X7_isLet_159, bk_X7_isLet_179, bk_X7_isLet_180, pm_e_c0, pm_e_c1, pm_e_cti, pm_e_ctl, pm_e_ctr, pm_e_go, pm_e_i, pm_e_ii, pm_e_ldi, pm_e_ldr, pm_e_lk, pm_e_r, pm_e_rm0, pm_e_rm1, pm_e_rs0, pm_e_rs1, pm_e_sw0, pm_e_sw1, pm_e_wp0, pm_e_wp1, pm_f2, pm_f3, pm_fld, pm_fv, pm_obj, pm_s_aload_n, pm_s_bipush, pm_s_getfield, pm_s_goto, pm_s_iadd, pm_s_iand, pm_s_iconst, pm_s_ifCond_eq, pm_s_ifCond_ne, pm_s_if_icmp_le, pm_s_if_icmp_ne, pm_s_iload, pm_s_iload_n, pm_s_ireturn, pm_s_ishr, pm_s_istore, pm_s_istore_n, pm_s_ixor, pm_s_tableswitch, ct_X7_isLet, pS, pR, pC, pE, pL, -Int32.not_le, -Int32.not_lt, -Int64.not_le, -Int64.not_lt, -List.getD_eq_getElem?_getD, ni_0, ni_1])
            | (refine hb116 _ _ _ ?_; simp (maxSteps := 2000000) [bk_X7_isLet_0, bk_X7_isLet_23, bk_X7_isLet_27, bk_X7_isLet_28, bk_X7_isLet_29, bk_X7_isLet_46, bk_X7_isLet_47, bk_X7_isLet_61, bk_X7_isLet_62, bk_X7_isLet_100, bk_X7_isLet_102, bk_X7_isLet_115, bk_X7_isLet_116, bk_X7_isLet_117, bk_X7_isLet_153, bk_X7_isLet_157, bk_X7_isLet_158, bk_X7_isLet_159, bk_X7_isLet_179, bk_X7_isLet_180, pm_e_c0, pm_e_c1, pm_e_cti, pm_e_ctl, pm_e_ctr, pm_e_go, pm_e_i, pm_e_ii, pm_e_ldi, pm_e_ldr, pm_e_lk, pm_e_r, pm_e_rm0, pm_e_rm1, pm_e_rs0, pm_e_rs1, pm_e_sw0, pm_e_sw1, pm_e_wp0, pm_e_wp1, pm_f2, pm_f3, pm_fld, pm_fv, pm_obj, pm_s_aload_n, pm_s_bipush, pm_s_getfield, pm_s_goto, pm_s_iadd, pm_s_iand, pm_s_iconst, pm_s_ifCond_eq, pm_s_ifCond_ne, pm_s_if_icmp_le, pm_s_if_icmp_ne, pm_s_iload, pm_s_iload_n, pm_s_ireturn, pm_s_ishr, pm_s_istore, pm_s_istore_n, pm_s_ixor, pm_s_tableswitch, ct_X7_isLet, pS, pR, pC, pE, pL, -Int32.not_le, -Int32.not_lt, -Int64.not_le, -Int64.not_lt, -List.getD_eq_getElem?_getD, ni_0, ni_1])
          all_goals simp_all [letF, pL, pR, ni_0, ni_1, pb_t, pb_f]
        · simp
          exact h159 (Or.inl rfl)
        · simp
          have f157 : letF (s, r, c, e, 3) n o = false → X 157 [] [] M := by
            intro hf
            refine hb157 _ _ _ ?_
            simp (maxSteps := 2000000) [bk_X7_isLet_0, bk_X7_isLet_23, bk_X7_isLet_27, bk_X7_isLet_28, bk_X7_isLet_29, bk_X7_isLet_46, bk_X7_isLet_47, bk_X7_isLet_61, bk_X7_isLet_62, bk_X7_isLet_100, bk_X7_isLet_102, bk_X7_isLet_115, bk_X7_isLet_116, bk_X7_isLet_117, bk_X7_isLet_153, bk_X7_isLet_157, bk_X7_isLet_158, bk_X7_isLet_159, bk_X7_isLet_179, bk_X7_isLet_180, pm_e_c0, pm_e_c1, pm_e_cti, pm_e_ctl, pm_e_ctr, pm_e_go, pm_e_i, pm_e_ii, pm_e_ldi, pm_e_ldr, pm_e_lk, pm_e_r, pm_e_rm0, pm_e_rm1, pm_e_rs0, pm_e_rs1, pm_e_sw0, pm_e_sw1, pm_e_wp0, pm_e_wp1, pm_f2, pm_f3, pm_fld, pm_fv, pm_obj, pm_s_aload_n, pm_s_bipush, pm_s_getfield, pm_s_goto, pm_s_iadd, pm_s_iand, pm_s_iconst, pm_s_ifCond_eq, pm_s_ifCond_ne, pm_s_if_icmp_le, pm_s_if_icmp_ne, pm_s_iload, pm_s_iload_n, pm_s_ireturn, pm_s_ishr, pm_s_istore, pm_s_istore_n, pm_s_ixor, pm_s_tableswitch, ct_X7_isLet, pS, pR, pC, pE, pL, -Int32.not_le, -Int32.not_lt, -Int64.not_le, -Int64.not_lt, -List.getD_eq_getElem?_getD]
            refine hb158 _ _ _ ?_
            simp (maxSteps := 2000000) [bk_X7_isLet_0, bk_X7_isLet_23, bk_X7_isLet_27, bk_X7_isLet_28, bk_X7_isLet_29, bk_X7_isLet_46, bk_X7_isLet_47, bk_X7_isLet_61, bk_X7_isLet_62, bk_X7_isLet_100, bk_X7_isLet_102, bk_X7_isLet_115, bk_X7_isLet_116, bk_X7_isLet_117, bk_X7_isLet_153, bk_X7_isLet_157, bk_X7_isLet_158, bk_X7_isLet_159, bk_X7_isLet_179, bk_X7_isLet_180, pm_e_c0, pm_e_c1, pm_e_cti, pm_e_ctl, pm_e_ctr, pm_e_go, pm_e_i, pm_e_ii, pm_e_ldi, pm_e_ldr, pm_e_lk, pm_e_r, pm_e_rm0, pm_e_rm1, pm_e_rs0, pm_e_rs1, pm_e_sw0, pm_e_sw1, pm_e_wp0, pm_e_wp1, pm_f2, pm_f3, pm_fld, pm_fv, pm_obj, pm_s_aload_n, pm_s_bipush, pm_s_getfield, pm_s_goto, pm_s_iadd, pm_s_iand, pm_s_iconst, pm_s_ifCond_eq, pm_s_ifCond_ne, pm_s_if_icmp_le, pm_s_if_icmp_ne, pm_s_iload, pm_s_iload_n, pm_s_ireturn, pm_s_ishr, pm_s_istore, pm_s_istore_n, pm_s_ixor, pm_s_tableswitch, ct_X7_isLet, pS, pR, pC, pE, pL, -Int32.not_le, -Int32.not_lt, -Int64.not_le, -Int64.not_lt, -List.getD_eq_getElem?_getD, ni_0]
            rw [hf] at hT; exact hT
          have f153 : letF (s, r, c, e, 3) n o = true → X 153 [] [] M := by
            intro hf
            refine hb153 _ _ _ ?_
            simp (maxSteps := 2000000) [bk_X7_isLet_0, bk_X7_isLet_23, bk_X7_isLet_27, bk_X7_isLet_28, bk_X7_isLet_29, bk_X7_isLet_46, bk_X7_isLet_47, bk_X7_isLet_61, bk_X7_isLet_62, bk_X7_isLet_100, bk_X7_isLet_102, bk_X7_isLet_115, bk_X7_isLet_116, bk_X7_isLet_117, bk_X7_isLet_153, bk_X7_isLet_157, bk_X7_isLet_158, bk_X7_isLet_159, bk_X7_isLet_179, bk_X7_isLet_180, pm_e_c0, pm_e_c1, pm_e_cti, pm_e_ctl, pm_e_ctr, pm_e_go, pm_e_i, pm_e_ii, pm_e_ldi, pm_e_ldr, pm_e_lk, pm_e_r, pm_e_rm0, pm_e_rm1, pm_e_rs0, pm_e_rs1, pm_e_sw0, pm_e_sw1, pm_e_wp0, pm_e_wp1, pm_f2, pm_f3, pm_fld, pm_fv, pm_obj, pm_s_aload_n, pm_s_bipush, pm_s_getfield, pm_s_goto, pm_s_iadd, pm_s_iand, pm_s_iconst, pm_s_ifCond_eq, pm_s_ifCond_ne, pm_s_if_icmp_le, pm_s_if_icmp_ne, pm_s_iload, pm_s_iload_n, pm_s_ireturn, pm_s_ishr, pm_s_istore, pm_s_istore_n, pm_s_ixor, pm_s_tableswitch, ct_X7_isLet, pS, pR, pC, pE, pL, -Int32.not_le, -Int32.not_lt, -Int64.not_le, -Int64.not_lt, -List.getD_eq_getElem?_getD]
            refine hb158 _ _ _ ?_
            simp (maxSteps := 2000000) [bk_X7_isLet_0, bk_X7_isLet_23, bk_X7_isLet_27, bk_X7_isLet_28, bk_X7_isLet_29, bk_X7_isLet_46, bk_X7_isLet_47, bk_X7_isLet_61, bk_X7_isLet_62, bk_X7_isLet_100, bk_X7_isLet_102, bk_X7_isLet_115, bk_X7_isLet_116, bk_X7_isLet_117, bk_X7_isLet_153, bk_X7_isLet_157, bk_X7_isLet_158, bk_X7_isLet_159, bk_X7_isLet_179, bk_X7_isLet_180, pm_e_c0, pm_e_c1, pm_e_cti, pm_e_ctl, pm_e_ctr, pm_e_go, pm_e_i, pm_e_ii, pm_e_ldi, pm_e_ldr, pm_e_lk, pm_e_r, pm_e_rm0, pm_e_rm1, pm_e_rs0, pm_e_rs1, pm_e_sw0, pm_e_sw1, pm_e_wp0, pm_e_wp1, pm_f2, pm_f3, pm_fld, pm_fv, pm_obj, pm_s_aload_n, pm_s_bipush, pm_s_getfield, pm_s_goto, pm_s_iadd, pm_s_iand, pm_s_iconst, pm_s_ifCond_eq, pm_s_ifCond_ne, pm_s_if_icmp_le, pm_s_if_icmp_ne, pm_s_iload, pm_s_iload_n, pm_s_ireturn, pm_s_ishr, pm_s_istore, pm_s_istore_n, pm_s_ixor, pm_s_tableswitch, ct_X7_isLet, pS, pR, pC, pE, pL, -Int32.not_le, -Int32.not_lt, -Int64.not_le, -Int64.not_lt, -List.getD_eq_getElem?_getD, ni_1]
            rw [hf] at hT; exact hT
          refine hb117 _ _ _ ?_
          simp (maxSteps := 2000000) [bk_X7_isLet_0, bk_X7_isLet_23, bk_X7_isLet_27, bk_X7_isLet_28, bk_X7_isLet_29, bk_X7_isLet_46, bk_X7_isLet_47, bk_X7_isLet_61, bk_X7_isLet_62, bk_X7_isLet_100, bk_X7_isLet_102, bk_X7_isLet_115, bk_X7_isLet_116, bk_X7_isLet_117, bk_X7_isLet_153, bk_X7_isLet_157, bk_X7_isLet_158, bk_X7_isLet_159, bk_X7_isLet_179, bk_X7_isLet_180, pm_e_c0, pm_e_c1, pm_e_cti, pm_e_ctl, pm_e_ctr, pm_e_go, pm_e_i, pm_e_ii, pm_e_ldi, pm_e_ldr, pm_e_lk, pm_e_r, pm_e_rm0, pm_e_rm1, pm_e_rs0, pm_e_rs1, pm_e_sw0, pm_e_sw1, pm_e_wp0, pm_e_wp1, pm_f2, pm_f3, pm_fld, pm_fv, pm_obj, pm_s_aload_n, pm_s_bipush, pm_s_getfield, pm_s_goto, pm_s_iadd, pm_s_iand, pm_s_iconst, pm_s_ifCond_eq, pm_s_ifCond_ne, pm_s_if_icmp_le, pm_s_if_icmp_ne, pm_s_iload, pm_s_iload_n, pm_s_ireturn, pm_s_ishr, pm_s_istore, pm_s_istore_n, pm_s_ixor, pm_s_tableswitch, ct_X7_isLet, pS, pR, pC, pE, pL, -Int32.not_le, -Int32.not_lt, -Int64.not_le, -Int64.not_lt, -List.getD_eq_getElem?_getD, sy_0, m1, pb_eq0]
          rw [cn2, co2]
          simp (disch := omega) only [ni_in, ni_cl, ni_add, ni_mul, ni_sub, ni_lt, ni_le, ni_eq, ni_eq0, ni_lt0, ni_0le, ni_0lt, ni_le0, ni_a1, ni_a3, ni_a7, ni_a15]
          refine ⟨fun h => f157 ?_, fun h => ⟨fun h2 => f153 ?_, fun h2 => ⟨fun h3 => f157 ?_, fun h3 => ⟨fun h4 => f157 ?_, fun h4 => ⟨fun h5 => f157 ?_, fun h5 => f153 ?_⟩⟩⟩⟩⟩
          all_goals simp_all [letF, pL, pR]
          all_goals omega
        · simp
          exact h159 (Or.inr rfl)
      have key2 : ∀ (a : Bool), a = decide (ra r o = ra r n + 1) → X 47 [(0, .ref 0), (1, .int (nI (cdN r n))), (2, .int (nI (cdN r o)))] [.int (pb a)] M := by
        intro a ea
        refine hb47 _ _ _ ?_
        simp (maxSteps := 2000000) [bk_X7_isLet_0, bk_X7_isLet_23, bk_X7_isLet_27, bk_X7_isLet_28, bk_X7_isLet_29, bk_X7_isLet_46, bk_X7_isLet_47, bk_X7_isLet_61, bk_X7_isLet_62, bk_X7_isLet_100, bk_X7_isLet_102, bk_X7_isLet_115, bk_X7_isLet_116, bk_X7_isLet_117, bk_X7_isLet_153, bk_X7_isLet_157, bk_X7_isLet_158, bk_X7_isLet_159, bk_X7_isLet_179, bk_X7_isLet_180, pm_e_c0, pm_e_c1, pm_e_cti, pm_e_ctl, pm_e_ctr, pm_e_go, pm_e_i, pm_e_ii, pm_e_ldi, pm_e_ldr, pm_e_lk, pm_e_r, pm_e_rm0, pm_e_rm1, pm_e_rs0, pm_e_rs1, pm_e_sw0, pm_e_sw1, pm_e_wp0, pm_e_wp1, pm_f2, pm_f3, pm_fld, pm_fv, pm_obj, pm_s_aload_n, pm_s_bipush, pm_s_getfield, pm_s_goto, pm_s_iadd, pm_s_iand, pm_s_iconst, pm_s_ifCond_eq, pm_s_ifCond_ne, pm_s_if_icmp_le, pm_s_if_icmp_ne, pm_s_iload, pm_s_iload_n, pm_s_ireturn, pm_s_ishr, pm_s_istore, pm_s_istore_n, pm_s_ixor, pm_s_tableswitch, ct_X7_isLet, pS, pR, pC, pE, pL, -Int32.not_le, -Int32.not_lt, -Int64.not_le, -Int64.not_lt, -List.getD_eq_getElem?_getD]
        rw [cn1, co1, ni_eq (by omega) (by omega)]
        refine ⟨fun h => ?_, fun h => ?_⟩
        · refine hb61 _ _ _ ?_
          simp (maxSteps := 2000000) [bk_X7_isLet_0, bk_X7_isLet_23, bk_X7_isLet_27, bk_X7_isLet_28, bk_X7_isLet_29, bk_X7_isLet_46, bk_X7_isLet_47, bk_X7_isLet_61, bk_X7_isLet_62, bk_X7_isLet_100, bk_X7_isLet_102, bk_X7_isLet_115, bk_X7_isLet_116, bk_X7_isLet_117, bk_X7_isLet_153, bk_X7_isLet_157, bk_X7_isLet_158, bk_X7_isLet_159, bk_X7_isLet_179, bk_X7_isLet_180, pm_e_c0, pm_e_c1, pm_e_cti, pm_e_ctl, pm_e_ctr, pm_e_go, pm_e_i, pm_e_ii, pm_e_ldi, pm_e_ldr, pm_e_lk, pm_e_r, pm_e_rm0, pm_e_rm1, pm_e_rs0, pm_e_rs1, pm_e_sw0, pm_e_sw1, pm_e_wp0, pm_e_wp1, pm_f2, pm_f3, pm_fld, pm_fv, pm_obj, pm_s_aload_n, pm_s_bipush, pm_s_getfield, pm_s_goto, pm_s_iadd, pm_s_iand, pm_s_iconst, pm_s_ifCond_eq, pm_s_ifCond_ne, pm_s_if_icmp_le, pm_s_if_icmp_ne, pm_s_iload, pm_s_iload_n, pm_s_ireturn, pm_s_ishr, pm_s_istore, pm_s_istore_n, pm_s_ixor, pm_s_tableswitch, ct_X7_isLet, pS, pR, pC, pE, pL, -Int32.not_le, -Int32.not_lt, -Int64.not_le, -Int64.not_lt, -List.getD_eq_getElem?_getD]
          exact key a false ea (by rw [decide_eq_false (fun z => h z.symm)])
        · exact key a true ea (by rw [decide_eq_true h.symm])
      refine hb29 _ _ _ ?_
      simp (maxSteps := 2000000) [bk_X7_isLet_0, bk_X7_isLet_23, bk_X7_isLet_27, bk_X7_isLet_28, bk_X7_isLet_29, bk_X7_isLet_46, bk_X7_isLet_47, bk_X7_isLet_61, bk_X7_isLet_62, bk_X7_isLet_100, bk_X7_isLet_102, bk_X7_isLet_115, bk_X7_isLet_116, bk_X7_isLet_117, bk_X7_isLet_153, bk_X7_isLet_157, bk_X7_isLet_158, bk_X7_isLet_159, bk_X7_isLet_179, bk_X7_isLet_180, pm_e_c0, pm_e_c1, pm_e_cti, pm_e_ctl, pm_e_ctr, pm_e_go, pm_e_i, pm_e_ii, pm_e_ldi, pm_e_ldr, pm_e_lk, pm_e_r, pm_e_rm0, pm_e_rm1, pm_e_rs0, pm_e_rs1, pm_e_sw0, pm_e_sw1, pm_e_wp0, pm_e_wp1, pm_f2, pm_f3, pm_fld, pm_fv, pm_obj, pm_s_aload_n, pm_s_bipush, pm_s_getfield, pm_s_goto, pm_s_iadd, pm_s_iand, pm_s_iconst, pm_s_ifCond_eq, pm_s_ifCond_ne, pm_s_if_icmp_le, pm_s_if_icmp_ne, pm_s_iload, pm_s_iload_n, pm_s_ireturn, pm_s_ishr, pm_s_istore, pm_s_istore_n, pm_s_ixor, pm_s_tableswitch, ct_X7_isLet, pS, pR, pC, pE, pL, -Int32.not_le, -Int32.not_lt, -Int64.not_le, -Int64.not_lt, -List.getD_eq_getElem?_getD]
      rw [cn2, co2]
      simp (disch := omega) only [ni_in, ni_cl, ni_add, ni_mul, ni_sub, ni_lt, ni_le, ni_eq, ni_eq0, ni_lt0, ni_0le, ni_0lt, ni_le0, ni_a1, ni_a3, ni_a7, ni_a15]
      refine ⟨fun h => ?_, fun h => ?_⟩
      · refine hb46 _ _ _ ?_
        simp (maxSteps := 2000000) [bk_X7_isLet_0, bk_X7_isLet_23, bk_X7_isLet_27, bk_X7_isLet_28, bk_X7_isLet_29, bk_X7_isLet_46, bk_X7_isLet_47, bk_X7_isLet_61, bk_X7_isLet_62, bk_X7_isLet_100, bk_X7_isLet_102, bk_X7_isLet_115, bk_X7_isLet_116, bk_X7_isLet_117, bk_X7_isLet_153, bk_X7_isLet_157, bk_X7_isLet_158, bk_X7_isLet_159, bk_X7_isLet_179, bk_X7_isLet_180, pm_e_c0, pm_e_c1, pm_e_cti, pm_e_ctl, pm_e_ctr, pm_e_go, pm_e_i, pm_e_ii, pm_e_ldi, pm_e_ldr, pm_e_lk, pm_e_r, pm_e_rm0, pm_e_rm1, pm_e_rs0, pm_e_rs1, pm_e_sw0, pm_e_sw1, pm_e_wp0, pm_e_wp1, pm_f2, pm_f3, pm_fld, pm_fv, pm_obj, pm_s_aload_n, pm_s_bipush, pm_s_getfield, pm_s_goto, pm_s_iadd, pm_s_iand, pm_s_iconst, pm_s_ifCond_eq, pm_s_ifCond_ne, pm_s_if_icmp_le, pm_s_if_icmp_ne, pm_s_iload, pm_s_iload_n, pm_s_ireturn, pm_s_ishr, pm_s_istore, pm_s_istore_n, pm_s_ixor, pm_s_tableswitch, ct_X7_isLet, pS, pR, pC, pE, pL, -Int32.not_le, -Int32.not_lt, -Int64.not_le, -Int64.not_lt, -List.getD_eq_getElem?_getD]
        exact key2 false (by rw [decide_eq_false h])
      · exact key2 true (by rw [decide_eq_true h])
    · have f23 : letF (s, r, c, e, w) n o = true → X 23 [] [] M := by
        intro hf
        refine hb23 _ _ _ ?_
        simp (maxSteps := 2000000) [bk_X7_isLet_0, bk_X7_isLet_23, bk_X7_isLet_27, bk_X7_isLet_28, bk_X7_isLet_29, bk_X7_isLet_46, bk_X7_isLet_47, bk_X7_isLet_61, bk_X7_isLet_62, bk_X7_isLet_100, bk_X7_isLet_102, bk_X7_isLet_115, bk_X7_isLet_116, bk_X7_isLet_117, bk_X7_isLet_153, bk_X7_isLet_157, bk_X7_isLet_158, bk_X7_isLet_159, bk_X7_isLet_179, bk_X7_isLet_180, pm_e_c0, pm_e_c1, pm_e_cti, pm_e_ctl, pm_e_ctr, pm_e_go, pm_e_i, pm_e_ii, pm_e_ldi, pm_e_ldr, pm_e_lk, pm_e_r, pm_e_rm0, pm_e_rm1, pm_e_rs0, pm_e_rs1, pm_e_sw0, pm_e_sw1, pm_e_wp0, pm_e_wp1, pm_f2, pm_f3, pm_fld, pm_fv, pm_obj, pm_s_aload_n, pm_s_bipush, pm_s_getfield, pm_s_goto, pm_s_iadd, pm_s_iand, pm_s_iconst, pm_s_ifCond_eq, pm_s_ifCond_ne, pm_s_if_icmp_le, pm_s_if_icmp_ne, pm_s_iload, pm_s_iload_n, pm_s_ireturn, pm_s_ishr, pm_s_istore, pm_s_istore_n, pm_s_ixor, pm_s_tableswitch, ct_X7_isLet, pS, pR, pC, pE, pL, -Int32.not_le, -Int32.not_lt, -Int64.not_le, -Int64.not_lt, -List.getD_eq_getElem?_getD]
        exact h28 true hf.symm
      refine ⟨fun h => f23 (by simp [letF, pL, o0, h]), fun h => ⟨fun h' => ?_, fun h' => f23 (by simp [letF, pL, pR, o0, h'])⟩⟩
      refine hb27 _ _ _ ?_
      simp (maxSteps := 2000000) [bk_X7_isLet_0, bk_X7_isLet_23, bk_X7_isLet_27, bk_X7_isLet_28, bk_X7_isLet_29, bk_X7_isLet_46, bk_X7_isLet_47, bk_X7_isLet_61, bk_X7_isLet_62, bk_X7_isLet_100, bk_X7_isLet_102, bk_X7_isLet_115, bk_X7_isLet_116, bk_X7_isLet_117, bk_X7_isLet_153, bk_X7_isLet_157, bk_X7_isLet_158, bk_X7_isLet_159, bk_X7_isLet_179, bk_X7_isLet_180, pm_e_c0, pm_e_c1, pm_e_cti, pm_e_ctl, pm_e_ctr, pm_e_go, pm_e_i, pm_e_ii, pm_e_ldi, pm_e_ldr, pm_e_lk, pm_e_r, pm_e_rm0, pm_e_rm1, pm_e_rs0, pm_e_rs1, pm_e_sw0, pm_e_sw1, pm_e_wp0, pm_e_wp1, pm_f2, pm_f3, pm_fld, pm_fv, pm_obj, pm_s_aload_n, pm_s_bipush, pm_s_getfield, pm_s_goto, pm_s_iadd, pm_s_iand, pm_s_iconst, pm_s_ifCond_eq, pm_s_ifCond_ne, pm_s_if_icmp_le, pm_s_if_icmp_ne, pm_s_iload, pm_s_iload_n, pm_s_ireturn, pm_s_ishr, pm_s_istore, pm_s_istore_n, pm_s_ixor, pm_s_tableswitch, ct_X7_isLet, pS, pR, pC, pE, pL, -Int32.not_le, -Int32.not_lt, -Int64.not_le, -Int64.not_lt, -List.getD_eq_getElem?_getD]
      exact h28 false (by simp [letF, pL, pR, o0, h, h'])
  · exact hT.elim
