def tt_X7_carry : pm_T := fun args M k => match args with
  | [.ref 0, .int x, .int y, .int z] => ∃ A, okA A ∧ MY M A ∧ ∀ M', MY M' (fCarry A x y z).2 → k (some (.int (fCarry A x y z).1)) M'
  | _ => False
/-- the row's moves are let -/
def rowOK (P : Pm) (L : List Nat) (n i : Nat) : Prop := ∀ j, L.length - n < j → j < L.length - n + i → letF P (L.getD j 0) (L.getD (j - 1) 0) = true
theorem canF_e {P : Pm} {ec : Nat} {S : St} {a b n : Nat} (h1 : 1 ≤ n) (h2 : n ≤ (S.1 a).length) (h3 : n ≤ longF P ec S a b) (h4 : rowOK P (S.1 a) n n) (h5 : letF P ((S.1 a).getD ((S.1 a).length - n) 0) (lastC (S.1 b)) = true) : canF P ec S a b n = true := by
  unfold canF
  rw [decide_eq_true h2, decide_eq_true h3, h5]
  rw [anyN_no (fun i hi => ?_)]
  · rfl
  · by_cases z : (S.1 a).length - n < i
    · rw [h4 i z (by omega)]; simp
    · simp [z]
theorem canF_no1 {P : Pm} {ec : Nat} {S : St} {a b n : Nat} (h : ¬ n ≤ (S.1 a).length ∨ ¬ n ≤ longF P ec S a b) : canF P ec S a b n = false := by
  unfold canF
  rcases h with h | h
  · rw [decide_eq_false h]; rfl
  · rw [decide_eq_false h]; simp
theorem canF_no2 {P : Pm} {ec : Nat} {S : St} {a b n j : Nat} (h1 : (S.1 a).length - n < j) (h2 : j < (S.1 a).length) (h : letF P ((S.1 a).getD j 0) ((S.1 a).getD (j - 1) 0) = false) : canF P ec S a b n = false := by
  unfold canF
  rw [anyN_iff.mpr ⟨j, h2, by rw [decide_eq_true h1, h]; rfl⟩]; simp
theorem canF_no3 {P : Pm} {ec : Nat} {S : St} {a b n : Nat} (h : letF P ((S.1 a).getD ((S.1 a).length - n) 0) (lastC (S.1 b)) = false) : canF P ec S a b n = false := by
  unfold canF; rw [h]; simp
theorem lx_cons1 {a b n : Nat} (h : 1 ≤ n) (h2 : n ≤ a) : a - n + 1 - 1 = a - n := by omega
abbrev ct_X7_carry : List pm_C := [(true, 111, 7, 3, (some .boolean), tt_X7_in), (false, 139, 7, 1, (some .int), tt_X7_cards), (false, 148, 7, 3, (some .boolean), tt_X7_isLet), (false, 179, 7, 1, none, tt_X7_tryStand), (false, 189, 7, 1, none, tt_X7_done)]
set_option maxHeartbeats 4000000 in
theorem sm_X7_carry  : pm_Sem SHy yX7_carry cX7_carry 7 (some .int) 3 tt_X7_carry := by
  refine pm_Sem_intro bl_X7_carry ct_X7_carry cs_X7_carry rfl (List.forall_mem_cons.mpr ⟨⟨_, _, _, _, sm_X7_in, by decide, cm_X7_in, by decide +kernel⟩, List.forall_mem_cons.mpr ⟨⟨_, _, _, _, sm_X7_cards, by decide, cm_X7_cards, by decide +kernel⟩, List.forall_mem_cons.mpr ⟨⟨_, _, _, _, sm_X7_isLet, by decide, cm_X7_isLet, by decide +kernel⟩, List.forall_mem_cons.mpr ⟨⟨_, _, _, _, sm_X7_tryStand, by decide, cm_X7_tryStand, by decide +kernel⟩, List.forall_mem_cons.mpr ⟨⟨_, _, _, _, sm_X7_done, by decide, cm_X7_done, by decide +kernel⟩, fun _ h => absurd h List.not_mem_nil⟩⟩⟩⟩⟩) ck_X7_carry (by decide +kernel) (by decide) ?_
  intro X k hX args M hT
  have hb0 := hX 0 bk_X7_carry_0 (List.mem_of_getElem? (i := 0) rfl)
  have hb38 := hX 38 bk_X7_carry_38 (List.mem_of_getElem? (i := 1) rfl)
  have hb41 := hX 41 bk_X7_carry_41 (List.mem_of_getElem? (i := 2) rfl)
  have hb55 := hX 55 bk_X7_carry_55 (List.mem_of_getElem? (i := 3) rfl)
  have hb67 := hX 67 bk_X7_carry_67 (List.mem_of_getElem? (i := 4) rfl)
  have hb73 := hX 73 bk_X7_carry_73 (List.mem_of_getElem? (i := 5) rfl)
  have hb95 := hX 95 bk_X7_carry_95 (List.mem_of_getElem? (i := 6) rfl)
  have hb101 := hX 101 bk_X7_carry_101 (List.mem_of_getElem? (i := 7) rfl)
  have hb104 := hX 104 bk_X7_carry_104 (List.mem_of_getElem? (i := 8) rfl)
  have hb149 := hX 149 bk_X7_carry_149 (List.mem_of_getElem? (i := 9) rfl)
  have hb155 := hX 155 bk_X7_carry_155 (List.mem_of_getElem? (i := 10) rfl)
  have hb163 := hX 163 bk_X7_carry_163 (List.mem_of_getElem? (i := 11) rfl)
  have hb181 := hX 181 bk_X7_carry_181 (List.mem_of_getElem? (i := 12) rfl)
  have hb218 := hX 218 bk_X7_carry_218 (List.mem_of_getElem? (i := 13) rfl)
  have hb224 := hX 224 bk_X7_carry_224 (List.mem_of_getElem? (i := 14) rfl)
  have hb245 := hX 245 bk_X7_carry_245 (List.mem_of_getElem? (i := 15) rfl)
  have hb263 := hX 263 bk_X7_carry_263 (List.mem_of_getElem? (i := 16) rfl)
  have hb271 := hX 271 bk_X7_carry_271 (List.mem_of_getElem? (i := 17) rfl)
  have hb278 := hX 278 bk_X7_carry_278 (List.mem_of_getElem? (i := 18) rfl)
  have hb319 := hX 319 bk_X7_carry_319 (List.mem_of_getElem? (i := 19) rfl)
  clear hX
  unfold tt_X7_carry at hT; split at hT
  · next x y z =>
    obtain ⟨A, hA, hM, hT⟩ := hT
    obtain ⟨hD, hS, hL, h5', h7', hH, hPl, hTr, hQ⟩ := id hM
    have hP := hA.1
    have hE := hP.2.2.2.2.2.2.2.1
    have hC4 := hP.2.2.2.2.2.2.1
    obtain ⟨-, m0, m1, m2, m3, m4⟩ := id hD
    have hal := laid_lt hA
    unfold fCarry at hT
    refine ⟨by simp [lg_sl, Value.category], ?_⟩
    have bad : (colOK (aP A) x && colOK (aP A) y && !decide (x = y) && !decide (z < nI 1)) = false → X 38 [] [] M := by
      intro hf
      refine hb38 _ _ _ ?_
      simp (maxSteps := 2000000) [bk_X7_carry_0, bk_X7_carry_38, bk_X7_carry_41, bk_X7_carry_55, bk_X7_carry_67, bk_X7_carry_73, bk_X7_carry_95, bk_X7_carry_101, bk_X7_carry_104, bk_X7_carry_149, bk_X7_carry_155, bk_X7_carry_163, bk_X7_carry_181, bk_X7_carry_218, bk_X7_carry_224, bk_X7_carry_245, bk_X7_carry_263, bk_X7_carry_271, bk_X7_carry_278, bk_X7_carry_319, pm_arr, pm_call, pm_e_c0, pm_e_c1, pm_e_cti, pm_e_ctl, pm_e_ctr, pm_e_go, pm_e_i, pm_e_ii, pm_e_ldi, pm_e_ldr, pm_e_lk, pm_e_r, pm_e_ri, pm_e_rii, pm_e_rm0, pm_e_rm1, pm_e_rs0, pm_e_rs1, pm_e_v2, pm_e_wp0, pm_e_wp1, pm_f2, pm_f3, pm_fld, pm_fv, pm_obj, pm_recv, pm_s_aload_n, pm_s_bipush, pm_s_dup2, pm_s_getfield, pm_s_goto, pm_s_iadd, pm_s_iaload, pm_s_iastore, pm_s_iconst, pm_s_ifCond_eq, pm_s_ifCond_ne, pm_s_if_icmp_eq, pm_s_if_icmp_ge, pm_s_if_icmp_le, pm_s_iinc, pm_s_iload, pm_s_iload_n, pm_s_imul, pm_s_invokestatic, pm_s_invokevirtual, pm_s_ireturn, pm_s_istore, pm_s_isub, ct_X7_carry, tt_X7_in, tt_X7_cards, pS, pR, pC, pE, pL, -Int32.not_le, -Int32.not_lt, -Int64.not_le, -Int64.not_lt, -List.getD_eq_getElem?_getD]
      rw [hf] at hT
      exact hT M hM
    have good : (colOK (aP A) x && colOK (aP A) y && !decide (x = y) && !decide (z < nI 1)) = true → X 41 [(0, .ref 0), (1, .int x), (2, .int y), (3, .int z)] [] M := by
      intro hf
      rw [hf, if_pos rfl] at hT
      simp only [Bool.and_eq_true, Bool.not_eq_true', decide_eq_false_iff_not] at hf
      obtain ⟨⟨⟨q1, q2⟩, q3⟩, q4⟩ := hf
      obtain ⟨x1, x2⟩ := colOK_e hP q1
      obtain ⟨y1, y2⟩ := colOK_e hP q2
      obtain ⟨z1, z2, z3⟩ := lt_tn q4
      have hne : tn x ≠ tn y := fun e => q3 (by rw [x1, y1, e])
      generalize tn x = a at *
      generalize tn y = b at *
      generalize tn z = n at *
      subst x1 y1 z1
      refine hb41 _ _ _ ?_
      simp (maxSteps := 2000000) [bk_X7_carry_0, bk_X7_carry_38, bk_X7_carry_41, bk_X7_carry_55, bk_X7_carry_67, bk_X7_carry_73, bk_X7_carry_95, bk_X7_carry_101, bk_X7_carry_104, bk_X7_carry_149, bk_X7_carry_155, bk_X7_carry_163, bk_X7_carry_181, bk_X7_carry_218, bk_X7_carry_224, bk_X7_carry_245, bk_X7_carry_263, bk_X7_carry_271, bk_X7_carry_278, bk_X7_carry_319, pm_arr, pm_call, pm_e_c0, pm_e_c1, pm_e_cti, pm_e_ctl, pm_e_ctr, pm_e_go, pm_e_i, pm_e_ii, pm_e_ldi, pm_e_ldr, pm_e_lk, pm_e_r, pm_e_ri, pm_e_rii, pm_e_rm0, pm_e_rm1, pm_e_rs0, pm_e_rs1, pm_e_v2, pm_e_wp0, pm_e_wp1, pm_f2, pm_f3, pm_fld, pm_fv, pm_obj, pm_recv, pm_s_aload_n, pm_s_bipush, pm_s_dup2, pm_s_getfield, pm_s_goto, pm_s_iadd, pm_s_iaload, pm_s_iastore, pm_s_iconst, pm_s_ifCond_eq, pm_s_ifCond_ne, pm_s_if_icmp_eq, pm_s_if_icmp_ge, pm_s_if_icmp_le, pm_s_iinc, pm_s_iload, pm_s_iload_n, pm_s_imul, pm_s_invokestatic, pm_s_invokevirtual, pm_s_ireturn, pm_s_istore, pm_s_isub, ct_X7_carry, tt_X7_in, tt_X7_cards, pS, pR, pC, pE, pL, -Int32.not_le, -Int32.not_lt, -Int64.not_le, -Int64.not_lt, -List.getD_eq_getElem?_getD, sy_0, h5', m0, m1]
      dsimp only [pS, pR] at hal
      rw [ni_mul, hal]
      refine ⟨fun hl => ?_, fun hl => ?_⟩
      · rw [if_pos hl] at hT
        have hfw := hA.fw hl
        have hO := hfw.ok hP
        have hI := hfw.inDk
        have lS := WF.l12 hP hfw
        have la := lS a (by omega)
        have lb := lS b (by omega)
        have hna : M.1 2 a = nI ((aS A).1 a).length := hS.n (by omega)
        have hnb : M.1 2 b = nI ((aS A).1 b).length := hS.n (by omega)
        have no : canF (aP A) (pE (aP A)) (aS A) a b n = false → k (some (.int (nI 0))) M := by
          intro hc
          rw [if_neg (by rw [hc]; simp)] at hT
          exact hT M hM
        refine hb55 _ _ _ ?_
        simp (maxSteps := 2000000) [bk_X7_carry_0, bk_X7_carry_38, bk_X7_carry_41, bk_X7_carry_55, bk_X7_carry_67, bk_X7_carry_73, bk_X7_carry_95, bk_X7_carry_101, bk_X7_carry_104, bk_X7_carry_149, bk_X7_carry_155, bk_X7_carry_163, bk_X7_carry_181, bk_X7_carry_218, bk_X7_carry_224, bk_X7_carry_245, bk_X7_carry_263, bk_X7_carry_271, bk_X7_carry_278, bk_X7_carry_319, pm_arr, pm_call, pm_e_c0, pm_e_c1, pm_e_cti, pm_e_ctl, pm_e_ctr, pm_e_go, pm_e_i, pm_e_ii, pm_e_ldi, pm_e_ldr, pm_e_lk, pm_e_r, pm_e_ri, pm_e_rii, pm_e_rm0, pm_e_rm1, pm_e_rs0, pm_e_rs1, pm_e_v2, pm_e_wp0, pm_e_wp1, pm_f2, pm_f3, pm_fld, pm_fv, pm_obj, pm_recv, pm_s_aload_n, pm_s_bipush, pm_s_dup2, pm_s_getfield, pm_s_goto, pm_s_iadd, pm_s_iaload, pm_s_iastore, pm_s_iconst, pm_s_ifCond_eq, pm_s_ifCond_ne, pm_s_if_icmp_eq, pm_s_if_icmp_ge, pm_s_if_icmp_le, pm_s_iinc, pm_s_iload, pm_s_iload_n, pm_s_imul, pm_s_invokestatic, pm_s_invokevirtual, pm_s_ireturn, pm_s_istore, pm_s_isub, ct_X7_carry, tt_X7_in, tt_X7_cards, pS, pR, pC, pE, pL, -Int32.not_le, -Int32.not_lt, -Int64.not_le, -Int64.not_lt, -List.getD_eq_getElem?_getD, sy_0, sy_2]
        rw [ni_in (by omega), ni_cl (by omega), hna, ni_le (by omega) (by omega)]
        refine ⟨by omega, fun hle => ?_, fun hle => no (canF_no1 (Or.inl hle))⟩
        have hsum : ((aS A).1 a).length + ((aS A).1 b).length ≤ 12 := by
          have ht := hfw.t12 hP
          unfold tot at ht
          rcases (show a = 0 ∨ a = 1 ∨ a = 2 ∨ a = 3 by omega) with e | e | e | e <;> rcases (show b = 0 ∨ b = 1 ∨ b = 2 ∨ b = 3 by omega) with e' | e' | e' | e' <;> rw [e, e'] <;> first | omega | exact absurd (e.trans e'.symm) hne
        have hca : ∀ j, j < ((aS A).1 a).length → M.1 3 (12 * a + j) = nI (cdN (pR (aP A)) (((aS A).1 a).getD j 0)) := fun j hj => hS.c (by omega) hj
        have hcb : ∀ j, j < ((aS A).1 b).length → M.1 3 (12 * b + j) = nI (cdN (pR (aP A)) (((aS A).1 b).getD j 0)) := fun j hj => hS.c (by omega) hj
        have hcd : ∀ j, j < ((aS A).1 a).length → 1 ≤ ((aS A).1 a).getD j 0 ∧ ((aS A).1 a).getD j 0 ≤ pS (aP A) * pR (aP A) := fun j hj => ⟨((hO.1 a (by omega)).2 _ (getD_mem hj)).1, hI.1 a (by omega) _ (getD_mem hj)⟩
        have hlong := longF_le hP (pE (aP A)) (aS A) a b
        -- the row is carried
        have h271 : canF (aP A) (pE (aP A)) (aS A) a b n = true → X 271 [(0, .ref 0), (1, .int (nI a)), (2, .int (nI b)), (3, .int (nI n)), (5, .int (nI (12 * a + (((aS A).1 a).length - n))))] [] M := by
          intro hc
          rw [if_pos hc] at hT
          have hwf := hfw.row (k := n) hP x2 y2 hne
          refine hb271 _ _ _ ?_
          simp (maxSteps := 2000000) [bk_X7_carry_0, bk_X7_carry_38, bk_X7_carry_41, bk_X7_carry_55, bk_X7_carry_67, bk_X7_carry_73, bk_X7_carry_95, bk_X7_carry_101, bk_X7_carry_104, bk_X7_carry_149, bk_X7_carry_155, bk_X7_carry_163, bk_X7_carry_181, bk_X7_carry_218, bk_X7_carry_224, bk_X7_carry_245, bk_X7_carry_263, bk_X7_carry_271, bk_X7_carry_278, bk_X7_carry_319, pm_arr, pm_call, pm_e_c0, pm_e_c1, pm_e_cti, pm_e_ctl, pm_e_ctr, pm_e_go, pm_e_i, pm_e_ii, pm_e_ldi, pm_e_ldr, pm_e_lk, pm_e_r, pm_e_ri, pm_e_rii, pm_e_rm0, pm_e_rm1, pm_e_rs0, pm_e_rs1, pm_e_v2, pm_e_wp0, pm_e_wp1, pm_f2, pm_f3, pm_fld, pm_fv, pm_obj, pm_recv, pm_s_aload_n, pm_s_bipush, pm_s_dup2, pm_s_getfield, pm_s_goto, pm_s_iadd, pm_s_iaload, pm_s_iastore, pm_s_iconst, pm_s_ifCond_eq, pm_s_ifCond_ne, pm_s_if_icmp_eq, pm_s_if_icmp_ge, pm_s_if_icmp_le, pm_s_iinc, pm_s_iload, pm_s_iload_n, pm_s_imul, pm_s_invokestatic, pm_s_invokevirtual, pm_s_ireturn, pm_s_istore, pm_s_isub, ct_X7_carry, tt_X7_in, tt_X7_cards, pS, pR, pC, pE, pL, -Int32.not_le, -Int32.not_lt, -Int64.not_le, -Int64.not_lt, -List.getD_eq_getElem?_getD, sy_0]
          intro M1 c1 k1 e22 f1
          have s1 : SdY M1 10 0 (pR (aP A)) (aS A) := c1.sd hS lS
          have n1a : M1.1 10 a = nI ((aS A).1 a).length := s1.n (by omega)
          have n1b : M1.1 10 b = nI ((aS A).1 b).length := s1.n (by omega)
          have c1a : ∀ j, j < ((aS A).1 a).length → M1.1 11 (12 * a + j) = nI (cdN (pR (aP A)) (((aS A).1 a).getD j 0)) := fun j hj => s1.c (by omega) hj
          simp (maxSteps := 2000000) [bk_X7_carry_0, bk_X7_carry_38, bk_X7_carry_41, bk_X7_carry_55, bk_X7_carry_67, bk_X7_carry_73, bk_X7_carry_95, bk_X7_carry_101, bk_X7_carry_104, bk_X7_carry_149, bk_X7_carry_155, bk_X7_carry_163, bk_X7_carry_181, bk_X7_carry_218, bk_X7_carry_224, bk_X7_carry_245, bk_X7_carry_263, bk_X7_carry_271, bk_X7_carry_278, bk_X7_carry_319, pm_arr, pm_call, pm_e_c0, pm_e_c1, pm_e_cti, pm_e_ctl, pm_e_ctr, pm_e_go, pm_e_i, pm_e_ii, pm_e_ldi, pm_e_ldr, pm_e_lk, pm_e_r, pm_e_ri, pm_e_rii, pm_e_rm0, pm_e_rm1, pm_e_rs0, pm_e_rs1, pm_e_v2, pm_e_wp0, pm_e_wp1, pm_f2, pm_f3, pm_fld, pm_fv, pm_obj, pm_recv, pm_s_aload_n, pm_s_bipush, pm_s_dup2, pm_s_getfield, pm_s_goto, pm_s_iadd, pm_s_iaload, pm_s_iastore, pm_s_iconst, pm_s_ifCond_eq, pm_s_ifCond_ne, pm_s_if_icmp_eq, pm_s_if_icmp_ge, pm_s_if_icmp_le, pm_s_iinc, pm_s_iload, pm_s_iload_n, pm_s_imul, pm_s_invokestatic, pm_s_invokevirtual, pm_s_ireturn, pm_s_istore, pm_s_isub, ct_X7_carry, tt_X7_in, tt_X7_cards, pS, pR, pC, pE, pL, -Int32.not_le, -Int32.not_lt, -Int64.not_le, -Int64.not_lt, -List.getD_eq_getElem?_getD]
          have fin : ∀ (M2 : pm_M), (∀ i, i < n → M2.1 11 (12 * b + ((aS A).1 b).length + i) = nI (cdN (pR (aP A)) (((aS A).1 a).getD (((aS A).1 a).length - n + i) 0))) → (∀ u, ¬ (12 * b + ((aS A).1 b).length ≤ u ∧ u < 12 * b + ((aS A).1 b).length + n) → M2.1 11 u = M1.1 11 u) → yfr [11] [] M1 M2 → X 319 [(0, .ref 0), (1, .int (nI a)), (2, .int (nI b)), (3, .int (nI n))] [] M2 := by
            intro M2 w1 w2 f2
            have n2a : M2.1 10 a = nI ((aS A).1 a).length := by rw [f2.i (by decide) (by decide)]; exact n1a
            have n2b : M2.1 10 b = nI ((aS A).1 b).length := by rw [f2.i (by decide) (by decide)]; exact n1b
            refine hb319 _ _ _ ?_
            simp (maxSteps := 2000000) [bk_X7_carry_0, bk_X7_carry_38, bk_X7_carry_41, bk_X7_carry_55, bk_X7_carry_67, bk_X7_carry_73, bk_X7_carry_95, bk_X7_carry_101, bk_X7_carry_104, bk_X7_carry_149, bk_X7_carry_155, bk_X7_carry_163, bk_X7_carry_181, bk_X7_carry_218, bk_X7_carry_224, bk_X7_carry_245, bk_X7_carry_263, bk_X7_carry_271, bk_X7_carry_278, bk_X7_carry_319, pm_arr, pm_call, pm_e_c0, pm_e_c1, pm_e_cti, pm_e_ctl, pm_e_ctr, pm_e_go, pm_e_i, pm_e_ii, pm_e_ldi, pm_e_ldr, pm_e_lk, pm_e_r, pm_e_ri, pm_e_rii, pm_e_rm0, pm_e_rm1, pm_e_rs0, pm_e_rs1, pm_e_v2, pm_e_wp0, pm_e_wp1, pm_f2, pm_f3, pm_fld, pm_fv, pm_obj, pm_recv, pm_s_aload_n, pm_s_bipush, pm_s_dup2, pm_s_getfield, pm_s_goto, pm_s_iadd, pm_s_iaload, pm_s_iastore, pm_s_iconst, pm_s_ifCond_eq, pm_s_ifCond_ne, pm_s_if_icmp_eq, pm_s_if_icmp_ge, pm_s_if_icmp_le, pm_s_iinc, pm_s_iload, pm_s_iload_n, pm_s_imul, pm_s_invokestatic, pm_s_invokevirtual, pm_s_ireturn, pm_s_istore, pm_s_isub, ct_X7_carry, tt_X7_in, tt_X7_cards, pS, pR, pC, pE, pL, -Int32.not_le, -Int32.not_lt, -Int64.not_le, -Int64.not_lt, -List.getD_eq_getElem?_getD, sy_0, sy_10, Value.category]
            rw [ni_in (by omega), ni_in (by omega), ni_cl (by omega), ni_cl (by omega), n2a, ni_sub hle]
            have e1 : (pm_set M2 10 a (nI (((aS A).1 a).length - n))).1 10 b = nI ((aS A).1 b).length := by rw [me_1s, if_neg (fun e => hne e.symm)]; exact n2b
            rw [e1, ni_add]
            refine ⟨by omega, by omega, ?_⟩
            have g3 : yfr [10, 11] [] M1 (pm_set (pm_set M2 10 a (nI (((aS A).1 a).length - n))) 10 b (nI (((aS A).1 b).length + n))) := ((f2.mono (by decide) (by simp)).set (by decide) (by decide)).set (by decide) (by decide)
            have b10 : ∀ j, (pm_set (pm_set M2 10 a (nI (((aS A).1 a).length - n))) 10 b (nI (((aS A).1 b).length + n))).1 10 j = if j = b then nI (((aS A).1 b).length + n) else if j = a then nI (((aS A).1 a).length - n) else M1.1 10 j := fun j => by
              rw [me_1s, me_1s, f2.i (q := 10) (by decide) (by decide)]
            have b11 : ∀ u, (pm_set (pm_set M2 10 a (nI (((aS A).1 a).length - n))) 10 b (nI (((aS A).1 b).length + n))).1 11 u = M2.1 11 u := fun u => by simp [pm_set]
            generalize pm_set (pm_set M2 10 a (nI (((aS A).1 a).length - n))) 10 b (nI (((aS A).1 b).length + n)) = M3 at *
            have s3 : SdY M3 10 0 (pR (aP A)) (aRow (aS A) a b n) := by
              have hcol : ∀ i, (aRow (aS A) a b n).1 i = if i = b then (aS A).1 b ++ ((aS A).1 a).drop (((aS A).1 a).length - n) else if i = a then ((aS A).1 a).take (((aS A).1 a).length - n) else (aS A).1 i := fun i => by
                unfold aRow up; rfl
              refine ⟨fun i hi => ⟨?_, ?_, fun j hj => ?_⟩, fun j hj => ?_⟩
              · rw [show 4 * 0 + i = i by omega, b10, hcol]
                by_cases zb : i = b
                · rw [if_pos zb, if_pos zb]; congr 1; simp; omega
                · rw [if_neg zb, if_neg zb]
                  by_cases za : i = a
                  · rw [if_pos za, if_pos za]; congr 1; simp
                  · rw [if_neg za, if_neg za]; exact s1.n hi
              · rw [g3.i (by decide) (by decide)]; exact (s1.1 i hi).2.1
              · rw [show 48 * 0 + 12 * i + j = 12 * i + j by omega]
                show M3.1 11 _ = _
                rw [b11]
                rw [hcol] at hj ⊢
                by_cases zb : i = b
                · rw [if_pos zb] at hj ⊢
                  subst zb
                  by_cases zj : j < ((aS A).1 i).length
                  · rw [w2 _ (by omega), s1.c hi zj]
                    congr 2
                    rw [List.getD_eq_getElem?_getD, List.getD_eq_getElem?_getD, List.getElem?_append_left zj]
                  · have hj' : j - ((aS A).1 i).length < n := by simp at hj; omega
                    have := w1 (j - ((aS A).1 i).length) hj'
                    rw [show 12 * i + ((aS A).1 i).length + (j - ((aS A).1 i).length) = 12 * i + j by omega] at this
                    rw [this]
                    congr 2
                    rw [List.getD_eq_getElem?_getD, List.getD_eq_getElem?_getD, List.getElem?_append_right (by omega), List.getElem?_drop]
                · rw [if_neg zb] at hj ⊢
                  by_cases za : i = a
                  · rw [if_pos za] at hj ⊢
                    subst za
                    have hj' : j < ((aS A).1 i).length - n := by simp at hj; omega
                    rw [w2 _ (by omega), s1.c hi (by omega)]
                    congr 2
                    rw [List.getD_eq_getElem?_getD, List.getD_eq_getElem?_getD, List.getElem?_take, if_pos hj']
                  · rw [if_neg za] at hj ⊢
                    have := lS i hi
                    rw [w2 _ (by omega)]; exact s1.c hi hj
              · rw [g3.i (by decide) (by decide)]; exact s1.2 j hj
            have g03 : yfr [10, 11, 12, 13] [22] M M3 := f1.trans (g3.mono (by decide) (by simp))
            refine ⟨pR (aP A), aS A, _, aH A, aPr A, aLa A, hS.mv g03 (by decide) (by decide), s3, hH.mv g03 (by decide) (by decide), hA.2.2.2.1, lS, WF.l12 hP hwf, hA.l12H, hA.2.2.1.1, hA.2.2.1.2, fun M4 s4 h4 f4 => ?_⟩
            simp (maxSteps := 2000000) [bk_X7_carry_0, bk_X7_carry_38, bk_X7_carry_41, bk_X7_carry_55, bk_X7_carry_67, bk_X7_carry_73, bk_X7_carry_95, bk_X7_carry_101, bk_X7_carry_104, bk_X7_carry_149, bk_X7_carry_155, bk_X7_carry_163, bk_X7_carry_181, bk_X7_carry_218, bk_X7_carry_224, bk_X7_carry_245, bk_X7_carry_263, bk_X7_carry_271, bk_X7_carry_278, bk_X7_carry_319, pm_arr, pm_call, pm_e_c0, pm_e_c1, pm_e_cti, pm_e_ctl, pm_e_ctr, pm_e_go, pm_e_i, pm_e_ii, pm_e_ldi, pm_e_ldr, pm_e_lk, pm_e_r, pm_e_ri, pm_e_rii, pm_e_rm0, pm_e_rm1, pm_e_rs0, pm_e_rs1, pm_e_v2, pm_e_wp0, pm_e_wp1, pm_f2, pm_f3, pm_fld, pm_fv, pm_obj, pm_recv, pm_s_aload_n, pm_s_bipush, pm_s_dup2, pm_s_getfield, pm_s_goto, pm_s_iadd, pm_s_iaload, pm_s_iastore, pm_s_iconst, pm_s_ifCond_eq, pm_s_ifCond_ne, pm_s_if_icmp_eq, pm_s_if_icmp_ge, pm_s_if_icmp_le, pm_s_iinc, pm_s_iload, pm_s_iload_n, pm_s_imul, pm_s_invokestatic, pm_s_invokevirtual, pm_s_ireturn, pm_s_istore, pm_s_isub, ct_X7_carry, tt_X7_in, tt_X7_cards, pS, pR, pC, pE, pL, -Int32.not_le, -Int32.not_lt, -Int64.not_le, -Int64.not_lt, -List.getD_eq_getElem?_getD]
            refine hT M4 (hM.kp s4 h4 ?_ ((g03.mono (by decide) (by decide)).trans (f4.mono (by decide) (by decide))))
            rw [f4.f (by decide), g03.f (by decide)]; exact h7'
          have loop : ∀ (f i : Nat) (M2 : pm_M), n ≤ i + f → i ≤ n → (∀ j, j < i → M2.1 11 (12 * b + ((aS A).1 b).length + j) = nI (cdN (pR (aP A)) (((aS A).1 a).getD (((aS A).1 a).length - n + j) 0))) → (∀ u, ¬ (12 * b + ((aS A).1 b).length ≤ u ∧ u < 12 * b + ((aS A).1 b).length + i) → M2.1 11 u = M1.1 11 u) → yfr [11] [] M1 M2 → X 278 [(0, .ref 0), (1, .int (nI a)), (2, .int (nI b)), (3, .int (nI n)), (5, .int (nI (12 * a + (((aS A).1 a).length - n)))), (6, .int (nI i))] [] M2 := by
            intro f
            induction f with
            | zero =>
              intro i M2 g1 g2 w1 w2 f2
              have e : i = n := by omega
              rw [e] at w1 w2 ⊢
              refine hb278 _ _ _ ?_
              simp (maxSteps := 2000000) [bk_X7_carry_0, bk_X7_carry_38, bk_X7_carry_41, bk_X7_carry_55, bk_X7_carry_67, bk_X7_carry_73, bk_X7_carry_95, bk_X7_carry_101, bk_X7_carry_104, bk_X7_carry_149, bk_X7_carry_155, bk_X7_carry_163, bk_X7_carry_181, bk_X7_carry_218, bk_X7_carry_224, bk_X7_carry_245, bk_X7_carry_263, bk_X7_carry_271, bk_X7_carry_278, bk_X7_carry_319, pm_arr, pm_call, pm_e_c0, pm_e_c1, pm_e_cti, pm_e_ctl, pm_e_ctr, pm_e_go, pm_e_i, pm_e_ii, pm_e_ldi, pm_e_ldr, pm_e_lk, pm_e_r, pm_e_ri, pm_e_rii, pm_e_rm0, pm_e_rm1, pm_e_rs0, pm_e_rs1, pm_e_v2, pm_e_wp0, pm_e_wp1, pm_f2, pm_f3, pm_fld, pm_fv, pm_obj, pm_recv, pm_s_aload_n, pm_s_bipush, pm_s_dup2, pm_s_getfield, pm_s_goto, pm_s_iadd, pm_s_iaload, pm_s_iastore, pm_s_iconst, pm_s_ifCond_eq, pm_s_ifCond_ne, pm_s_if_icmp_eq, pm_s_if_icmp_ge, pm_s_if_icmp_le, pm_s_iinc, pm_s_iload, pm_s_iload_n, pm_s_imul, pm_s_invokestatic, pm_s_invokevirtual, pm_s_ireturn, pm_s_istore, pm_s_isub, ct_X7_carry, tt_X7_in, tt_X7_cards, pS, pR, pC, pE, pL, -Int32.not_le, -Int32.not_lt, -Int64.not_le, -Int64.not_lt, -List.getD_eq_getElem?_getD]
              exact fin M2 w1 w2 f2
            | succ f ih =>
              intro i M2 g1 g2 w1 w2 f2
              by_cases hi : i < n
              · have n2b : M2.1 10 b = nI ((aS A).1 b).length := by rw [f2.i (by decide) (by decide)]; exact n1b
                have hrd : M2.1 11 (12 * a + (((aS A).1 a).length - n) + i) = nI (cdN (pR (aP A)) (((aS A).1 a).getD (((aS A).1 a).length - n + i) 0)) := by
                  rw [w2 _ (by omega), Nat.add_assoc]; exact c1a _ (by omega)
                refine hb278 _ _ _ ?_
                simp (maxSteps := 2000000) [bk_X7_carry_0, bk_X7_carry_38, bk_X7_carry_41, bk_X7_carry_55, bk_X7_carry_67, bk_X7_carry_73, bk_X7_carry_95, bk_X7_carry_101, bk_X7_carry_104, bk_X7_carry_149, bk_X7_carry_155, bk_X7_carry_163, bk_X7_carry_181, bk_X7_carry_218, bk_X7_carry_224, bk_X7_carry_245, bk_X7_carry_263, bk_X7_carry_271, bk_X7_carry_278, bk_X7_carry_319, pm_arr, pm_call, pm_e_c0, pm_e_c1, pm_e_cti, pm_e_ctl, pm_e_ctr, pm_e_go, pm_e_i, pm_e_ii, pm_e_ldi, pm_e_ldr, pm_e_lk, pm_e_r, pm_e_ri, pm_e_rii, pm_e_rm0, pm_e_rm1, pm_e_rs0, pm_e_rs1, pm_e_v2, pm_e_wp0, pm_e_wp1, pm_f2, pm_f3, pm_fld, pm_fv, pm_obj, pm_recv, pm_s_aload_n, pm_s_bipush, pm_s_dup2, pm_s_getfield, pm_s_goto, pm_s_iadd, pm_s_iaload, pm_s_iastore, pm_s_iconst, pm_s_ifCond_eq, pm_s_ifCond_ne, pm_s_if_icmp_eq, pm_s_if_icmp_ge, pm_s_if_icmp_le, pm_s_iinc, pm_s_iload, pm_s_iload_n, pm_s_imul, pm_s_invokestatic, pm_s_invokevirtual, pm_s_ireturn, pm_s_istore, pm_s_isub, ct_X7_carry, tt_X7_in, tt_X7_cards, pS, pR, pC, pE, pL, -Int32.not_le, -Int32.not_lt, -Int64.not_le, -Int64.not_lt, -List.getD_eq_getElem?_getD, sy_0, sy_10, sy_11]
                rw [ni_le (by omega) (by omega), ni_in (n := 4) (by omega), ni_cl (a := b) (by omega), n2b, ni_mul, ni_add, ni_add, ni_add, ni_add, ni_in (by omega), ni_in (by omega), ni_cl (by omega), ni_cl (by omega), hrd]
                refine ⟨fun w => by omega, fun _ => ⟨by omega, by omega, by omega, ?_⟩⟩
                refine ih (i + 1) _ (by omega) (by omega) (fun j hj => ?_) (fun u hu => ?_) (f2.set (by decide) (by decide))
                · rw [me_1s]
                  by_cases w : j = i
                  · rw [w, if_pos rfl]
                  · rw [if_neg (by omega)]; exact w1 j (by omega)
                · rw [me_1s, if_neg (by omega)]; exact w2 u (by omega)
              · have e : i = n := by omega
                rw [e] at w1 w2 ⊢
                refine hb278 _ _ _ ?_
                simp (maxSteps := 2000000) [bk_X7_carry_0, bk_X7_carry_38, bk_X7_carry_41, bk_X7_carry_55, bk_X7_carry_67, bk_X7_carry_73, bk_X7_carry_95, bk_X7_carry_101, bk_X7_carry_104, bk_X7_carry_149, bk_X7_carry_155, bk_X7_carry_163, bk_X7_carry_181, bk_X7_carry_218, bk_X7_carry_224, bk_X7_carry_245, bk_X7_carry_263, bk_X7_carry_271, bk_X7_carry_278, bk_X7_carry_319, pm_arr, pm_call, pm_e_c0, pm_e_c1, pm_e_cti, pm_e_ctl, pm_e_ctr, pm_e_go, pm_e_i, pm_e_ii, pm_e_ldi, pm_e_ldr, pm_e_lk, pm_e_r, pm_e_ri, pm_e_rii, pm_e_rm0, pm_e_rm1, pm_e_rs0, pm_e_rs1, pm_e_v2, pm_e_wp0, pm_e_wp1, pm_f2, pm_f3, pm_fld, pm_fv, pm_obj, pm_recv, pm_s_aload_n, pm_s_bipush, pm_s_dup2, pm_s_getfield, pm_s_goto, pm_s_iadd, pm_s_iaload, pm_s_iastore, pm_s_iconst, pm_s_ifCond_eq, pm_s_ifCond_ne, pm_s_if_icmp_eq, pm_s_if_icmp_ge, pm_s_if_icmp_le, pm_s_iinc, pm_s_iload, pm_s_iload_n, pm_s_imul, pm_s_invokestatic, pm_s_invokevirtual, pm_s_ireturn, pm_s_istore, pm_s_isub, ct_X7_carry, tt_X7_in, tt_X7_cards, pS, pR, pC, pE, pL, -Int32.not_le, -Int32.not_lt, -Int64.not_le, -Int64.not_lt, -List.getD_eq_getElem?_getD]
                exact fin M2 w1 w2 f2
          exact loop n 0 M1 (by omega) (by omega) (fun j hj => by omega) (fun u _ => rfl) yfr.rfl
        -- is the row let
        have h263 : rowOK (aP A) ((aS A).1 a) n n → n ≤ longF (aP A) (pE (aP A)) (aS A) a b → ∀ o, o = lastC ((aS A).1 b) → X 263 [(0, .ref 0), (1, .int (nI a)), (2, .int (nI b)), (3, .int (nI n)), (5, .int (nI (12 * a + (((aS A).1 a).length - n))))] [.int (nI (cdN (pR (aP A)) o)), .int (nI (cdN (pR (aP A)) (((aS A).1 a).getD (((aS A).1 a).length - n) 0))), .ref 0] M := by
          intro hr hlg o ho
          have hk := hcd (((aS A).1 a).length - n) (by omega)
          refine hb263 _ _ _ ?_
          simp (maxSteps := 2000000) [bk_X7_carry_0, bk_X7_carry_38, bk_X7_carry_41, bk_X7_carry_55, bk_X7_carry_67, bk_X7_carry_73, bk_X7_carry_95, bk_X7_carry_101, bk_X7_carry_104, bk_X7_carry_149, bk_X7_carry_155, bk_X7_carry_163, bk_X7_carry_181, bk_X7_carry_218, bk_X7_carry_224, bk_X7_carry_245, bk_X7_carry_263, bk_X7_carry_271, bk_X7_carry_278, bk_X7_carry_319, pm_arr, pm_call, pm_e_c0, pm_e_c1, pm_e_cti, pm_e_ctl, pm_e_ctr, pm_e_go, pm_e_i, pm_e_ii, pm_e_ldi, pm_e_ldr, pm_e_lk, pm_e_r, pm_e_ri, pm_e_rii, pm_e_rm0, pm_e_rm1, pm_e_rs0, pm_e_rs1, pm_e_v2, pm_e_wp0, pm_e_wp1, pm_f2, pm_f3, pm_fld, pm_fv, pm_obj, pm_recv, pm_s_aload_n, pm_s_bipush, pm_s_dup2, pm_s_getfield, pm_s_goto, pm_s_iadd, pm_s_iaload, pm_s_iastore, pm_s_iconst, pm_s_ifCond_eq, pm_s_ifCond_ne, pm_s_if_icmp_eq, pm_s_if_icmp_ge, pm_s_if_icmp_le, pm_s_iinc, pm_s_iload, pm_s_iload_n, pm_s_imul, pm_s_invokestatic, pm_s_invokevirtual, pm_s_ireturn, pm_s_istore, pm_s_isub, ct_X7_carry, tt_X7_in, tt_X7_cards, pS, pR, pC, pE, pL, -Int32.not_le, -Int32.not_lt, -Int64.not_le, -Int64.not_lt, -List.getD_eq_getElem?_getD, sy_0]
          refine ⟨aP A, _, o, rfl, rfl, hD, hk, by rw [ho]; exact lastC_in (hI.1 b (by omega)), ?_⟩
          simp (maxSteps := 2000000) [bk_X7_carry_0, bk_X7_carry_38, bk_X7_carry_41, bk_X7_carry_55, bk_X7_carry_67, bk_X7_carry_73, bk_X7_carry_95, bk_X7_carry_101, bk_X7_carry_104, bk_X7_carry_149, bk_X7_carry_155, bk_X7_carry_163, bk_X7_carry_181, bk_X7_carry_218, bk_X7_carry_224, bk_X7_carry_245, bk_X7_carry_263, bk_X7_carry_271, bk_X7_carry_278, bk_X7_carry_319, pm_arr, pm_call, pm_e_c0, pm_e_c1, pm_e_cti, pm_e_ctl, pm_e_ctr, pm_e_go, pm_e_i, pm_e_ii, pm_e_ldi, pm_e_ldr, pm_e_lk, pm_e_r, pm_e_ri, pm_e_rii, pm_e_rm0, pm_e_rm1, pm_e_rs0, pm_e_rs1, pm_e_v2, pm_e_wp0, pm_e_wp1, pm_f2, pm_f3, pm_fld, pm_fv, pm_obj, pm_recv, pm_s_aload_n, pm_s_bipush, pm_s_dup2, pm_s_getfield, pm_s_goto, pm_s_iadd, pm_s_iaload, pm_s_iastore, pm_s_iconst, pm_s_ifCond_eq, pm_s_ifCond_ne, pm_s_if_icmp_eq, pm_s_if_icmp_ge, pm_s_if_icmp_le, pm_s_iinc, pm_s_iload, pm_s_iload_n, pm_s_imul, pm_s_invokestatic, pm_s_invokevirtual, pm_s_ireturn, pm_s_istore, pm_s_isub, ct_X7_carry, tt_X7_in, tt_X7_cards, pS, pR, pC, pE, pL, -Int32.not_le, -Int32.not_lt, -Int64.not_le, -Int64.not_lt, -List.getD_eq_getElem?_getD, pb_eq0]
          rw [ho]
          refine ⟨fun w => h271 (canF_e z2 hle hlg hr w), fun w => no (canF_no3 w)⟩
        have h224 : rowOK (aP A) ((aS A).1 a) n n → n ≤ longF (aP A) (pE (aP A)) (aS A) a b → X 224 [(0, .ref 0), (1, .int (nI a)), (2, .int (nI b)), (3, .int (nI n)), (5, .int (nI (12 * a + (((aS A).1 a).length - n))))] [] M := by
          intro hr hlg
          have hc0 := hca (((aS A).1 a).length - n) (by omega)
          have h263' := h263 hr hlg
          refine hb224 _ _ _ ?_
          simp (maxSteps := 2000000) [bk_X7_carry_0, bk_X7_carry_38, bk_X7_carry_41, bk_X7_carry_55, bk_X7_carry_67, bk_X7_carry_73, bk_X7_carry_95, bk_X7_carry_101, bk_X7_carry_104, bk_X7_carry_149, bk_X7_carry_155, bk_X7_carry_163, bk_X7_carry_181, bk_X7_carry_218, bk_X7_carry_224, bk_X7_carry_245, bk_X7_carry_263, bk_X7_carry_271, bk_X7_carry_278, bk_X7_carry_319, pm_arr, pm_call, pm_e_c0, pm_e_c1, pm_e_cti, pm_e_ctl, pm_e_ctr, pm_e_go, pm_e_i, pm_e_ii, pm_e_ldi, pm_e_ldr, pm_e_lk, pm_e_r, pm_e_ri, pm_e_rii, pm_e_rm0, pm_e_rm1, pm_e_rs0, pm_e_rs1, pm_e_v2, pm_e_wp0, pm_e_wp1, pm_f2, pm_f3, pm_fld, pm_fv, pm_obj, pm_recv, pm_s_aload_n, pm_s_bipush, pm_s_dup2, pm_s_getfield, pm_s_goto, pm_s_iadd, pm_s_iaload, pm_s_iastore, pm_s_iconst, pm_s_ifCond_eq, pm_s_ifCond_ne, pm_s_if_icmp_eq, pm_s_if_icmp_ge, pm_s_if_icmp_le, pm_s_iinc, pm_s_iload, pm_s_iload_n, pm_s_imul, pm_s_invokestatic, pm_s_invokevirtual, pm_s_ireturn, pm_s_istore, pm_s_isub, ct_X7_carry, tt_X7_in, tt_X7_cards, pS, pR, pC, pE, pL, -Int32.not_le, -Int32.not_lt, -Int64.not_le, -Int64.not_lt, -List.getD_eq_getElem?_getD, sy_0, sy_2, sy_3]
          rw [ni_in (by omega), ni_in (by omega), ni_cl (by omega), ni_cl (by omega), hc0, hnb, ni_eq0 (by omega)]
          refine ⟨by omega, by omega, fun w => ?_, fun w => ?_⟩
          · have hne' : (aS A).1 b ≠ [] := fun e => w (by rw [e]; rfl)
            have hcl := hcb (((aS A).1 b).length - 1) (by omega)
            refine hb245 _ _ _ ?_
            simp (maxSteps := 2000000) [bk_X7_carry_0, bk_X7_carry_38, bk_X7_carry_41, bk_X7_carry_55, bk_X7_carry_67, bk_X7_carry_73, bk_X7_carry_95, bk_X7_carry_101, bk_X7_carry_104, bk_X7_carry_149, bk_X7_carry_155, bk_X7_carry_163, bk_X7_carry_181, bk_X7_carry_218, bk_X7_carry_224, bk_X7_carry_245, bk_X7_carry_263, bk_X7_carry_271, bk_X7_carry_278, bk_X7_carry_319, pm_arr, pm_call, pm_e_c0, pm_e_c1, pm_e_cti, pm_e_ctl, pm_e_ctr, pm_e_go, pm_e_i, pm_e_ii, pm_e_ldi, pm_e_ldr, pm_e_lk, pm_e_r, pm_e_ri, pm_e_rii, pm_e_rm0, pm_e_rm1, pm_e_rs0, pm_e_rs1, pm_e_v2, pm_e_wp0, pm_e_wp1, pm_f2, pm_f3, pm_fld, pm_fv, pm_obj, pm_recv, pm_s_aload_n, pm_s_bipush, pm_s_dup2, pm_s_getfield, pm_s_goto, pm_s_iadd, pm_s_iaload, pm_s_iastore, pm_s_iconst, pm_s_ifCond_eq, pm_s_ifCond_ne, pm_s_if_icmp_eq, pm_s_if_icmp_ge, pm_s_if_icmp_le, pm_s_iinc, pm_s_iload, pm_s_iload_n, pm_s_imul, pm_s_invokestatic, pm_s_invokevirtual, pm_s_ireturn, pm_s_istore, pm_s_isub, ct_X7_carry, tt_X7_in, tt_X7_cards, pS, pR, pC, pE, pL, -Int32.not_le, -Int32.not_lt, -Int64.not_le, -Int64.not_lt, -List.getD_eq_getElem?_getD, sy_0, sy_2, sy_3]
            rw [ni_in (n := 4) (by omega), ni_cl (a := b) (by omega), hnb, ni_mul, ni_add, ni_sub (by omega), ni_in (by omega), ni_cl (by omega), show 12 * b + ((aS A).1 b).length - 1 = 12 * b + (((aS A).1 b).length - 1) by omega, hcl, ← lastC_get hne']
            exact ⟨by omega, by omega, h263' _ rfl⟩
          · have e0 : (aS A).1 b = [] := List.length_eq_zero_iff.mp w
            exact h263' 0 (by rw [e0]; rfl)
        have h181 : n ≤ longF (aP A) (pE (aP A)) (aS A) a b → ∀ (f i : Nat), n ≤ i + f → 1 ≤ i → i ≤ n → rowOK (aP A) ((aS A).1 a) n i → X 181 [(0, .ref 0), (1, .int (nI a)), (2, .int (nI b)), (3, .int (nI n)), (5, .int (nI (12 * a + (((aS A).1 a).length - n)))), (6, .int (nI i))] [] M := by
          intro hlg f
          induction f with
          | zero =>
            intro i g1 g2 g3 hr
            have e : i = n := by omega
            rw [e] at hr ⊢
            refine hb181 _ _ _ ?_
            simp (maxSteps := 2000000) [bk_X7_carry_0, bk_X7_carry_38, bk_X7_carry_41, bk_X7_carry_55, bk_X7_carry_67, bk_X7_carry_73, bk_X7_carry_95, bk_X7_carry_101, bk_X7_carry_104, bk_X7_carry_149, bk_X7_carry_155, bk_X7_carry_163, bk_X7_carry_181, bk_X7_carry_218, bk_X7_carry_224, bk_X7_carry_245, bk_X7_carry_263, bk_X7_carry_271, bk_X7_carry_278, bk_X7_carry_319, pm_arr, pm_call, pm_e_c0, pm_e_c1, pm_e_cti, pm_e_ctl, pm_e_ctr, pm_e_go, pm_e_i, pm_e_ii, pm_e_ldi, pm_e_ldr, pm_e_lk, pm_e_r, pm_e_ri, pm_e_rii, pm_e_rm0, pm_e_rm1, pm_e_rs0, pm_e_rs1, pm_e_v2, pm_e_wp0, pm_e_wp1, pm_f2, pm_f3, pm_fld, pm_fv, pm_obj, pm_recv, pm_s_aload_n, pm_s_bipush, pm_s_dup2, pm_s_getfield, pm_s_goto, pm_s_iadd, pm_s_iaload, pm_s_iastore, pm_s_iconst, pm_s_ifCond_eq, pm_s_ifCond_ne, pm_s_if_icmp_eq, pm_s_if_icmp_ge, pm_s_if_icmp_le, pm_s_iinc, pm_s_iload, pm_s_iload_n, pm_s_imul, pm_s_invokestatic, pm_s_invokevirtual, pm_s_ireturn, pm_s_istore, pm_s_isub, ct_X7_carry, tt_X7_in, tt_X7_cards, pS, pR, pC, pE, pL, -Int32.not_le, -Int32.not_lt, -Int64.not_le, -Int64.not_lt, -List.getD_eq_getElem?_getD]
            exact h224 hr hlg
          | succ f ih =>
            intro i g1 g2 g3 hr
            by_cases hi : i < n
            · have c0 := hca (((aS A).1 a).length - n + i) (by omega)
              have c9 := hca (((aS A).1 a).length - n + i - 1) (by omega)
              have d0 := hcd (((aS A).1 a).length - n + i) (by omega)
              have d9 := hcd (((aS A).1 a).length - n + i - 1) (by omega)
              refine hb181 _ _ _ ?_
              simp (maxSteps := 2000000) [bk_X7_carry_0, bk_X7_carry_38, bk_X7_carry_41, bk_X7_carry_55, bk_X7_carry_67, bk_X7_carry_73, bk_X7_carry_95, bk_X7_carry_101, bk_X7_carry_104, bk_X7_carry_149, bk_X7_carry_155, bk_X7_carry_163, bk_X7_carry_181, bk_X7_carry_218, bk_X7_carry_224, bk_X7_carry_245, bk_X7_carry_263, bk_X7_carry_271, bk_X7_carry_278, bk_X7_carry_319, pm_arr, pm_call, pm_e_c0, pm_e_c1, pm_e_cti, pm_e_ctl, pm_e_ctr, pm_e_go, pm_e_i, pm_e_ii, pm_e_ldi, pm_e_ldr, pm_e_lk, pm_e_r, pm_e_ri, pm_e_rii, pm_e_rm0, pm_e_rm1, pm_e_rs0, pm_e_rs1, pm_e_v2, pm_e_wp0, pm_e_wp1, pm_f2, pm_f3, pm_fld, pm_fv, pm_obj, pm_recv, pm_s_aload_n, pm_s_bipush, pm_s_dup2, pm_s_getfield, pm_s_goto, pm_s_iadd, pm_s_iaload, pm_s_iastore, pm_s_iconst, pm_s_ifCond_eq, pm_s_ifCond_ne, pm_s_if_icmp_eq, pm_s_if_icmp_ge, pm_s_if_icmp_le, pm_s_iinc, pm_s_iload, pm_s_iload_n, pm_s_imul, pm_s_invokestatic, pm_s_invokevirtual, pm_s_ireturn, pm_s_istore, pm_s_isub, ct_X7_carry, tt_X7_in, tt_X7_cards, pS, pR, pC, pE, pL, -Int32.not_le, -Int32.not_lt, -Int64.not_le, -Int64.not_lt, -List.getD_eq_getElem?_getD, sy_0, sy_3]
              rw [ni_le (by omega) (by omega), ni_add, ni_sub (by omega), ni_in (by omega), ni_in (by omega), ni_cl (by omega), ni_cl (by omega), Nat.add_assoc, c0, show 12 * a + (((aS A).1 a).length - n + i) - 1 = 12 * a + (((aS A).1 a).length - n + i - 1) by omega, c9]
              refine ⟨fun w => by omega, fun _ => ⟨by omega, by omega, aP A, _, _, rfl, rfl, hD, d0, d9.2, ?_⟩⟩
              simp (maxSteps := 2000000) [bk_X7_carry_0, bk_X7_carry_38, bk_X7_carry_41, bk_X7_carry_55, bk_X7_carry_67, bk_X7_carry_73, bk_X7_carry_95, bk_X7_carry_101, bk_X7_carry_104, bk_X7_carry_149, bk_X7_carry_155, bk_X7_carry_163, bk_X7_carry_181, bk_X7_carry_218, bk_X7_carry_224, bk_X7_carry_245, bk_X7_carry_263, bk_X7_carry_271, bk_X7_carry_278, bk_X7_carry_319, pm_arr, pm_call, pm_e_c0, pm_e_c1, pm_e_cti, pm_e_ctl, pm_e_ctr, pm_e_go, pm_e_i, pm_e_ii, pm_e_ldi, pm_e_ldr, pm_e_lk, pm_e_r, pm_e_ri, pm_e_rii, pm_e_rm0, pm_e_rm1, pm_e_rs0, pm_e_rs1, pm_e_v2, pm_e_wp0, pm_e_wp1, pm_f2, pm_f3, pm_fld, pm_fv, pm_obj, pm_recv, pm_s_aload_n, pm_s_bipush, pm_s_dup2, pm_s_getfield, pm_s_goto, pm_s_iadd, pm_s_iaload, pm_s_iastore, pm_s_iconst, pm_s_ifCond_eq, pm_s_ifCond_ne, pm_s_if_icmp_eq, pm_s_if_icmp_ge, pm_s_if_icmp_le, pm_s_iinc, pm_s_iload, pm_s_iload_n, pm_s_imul, pm_s_invokestatic, pm_s_invokevirtual, pm_s_ireturn, pm_s_istore, pm_s_isub, ct_X7_carry, tt_X7_in, tt_X7_cards, pS, pR, pC, pE, pL, -Int32.not_le, -Int32.not_lt, -Int64.not_le, -Int64.not_lt, -List.getD_eq_getElem?_getD, pb_eq0]
              refine ⟨fun w => ?_, fun w => no (canF_no2 (by omega) (by omega) w)⟩
              refine hb218 _ _ _ ?_
              simp (maxSteps := 2000000) [bk_X7_carry_0, bk_X7_carry_38, bk_X7_carry_41, bk_X7_carry_55, bk_X7_carry_67, bk_X7_carry_73, bk_X7_carry_95, bk_X7_carry_101, bk_X7_carry_104, bk_X7_carry_149, bk_X7_carry_155, bk_X7_carry_163, bk_X7_carry_181, bk_X7_carry_218, bk_X7_carry_224, bk_X7_carry_245, bk_X7_carry_263, bk_X7_carry_271, bk_X7_carry_278, bk_X7_carry_319, pm_arr, pm_call, pm_e_c0, pm_e_c1, pm_e_cti, pm_e_ctl, pm_e_ctr, pm_e_go, pm_e_i, pm_e_ii, pm_e_ldi, pm_e_ldr, pm_e_lk, pm_e_r, pm_e_ri, pm_e_rii, pm_e_rm0, pm_e_rm1, pm_e_rs0, pm_e_rs1, pm_e_v2, pm_e_wp0, pm_e_wp1, pm_f2, pm_f3, pm_fld, pm_fv, pm_obj, pm_recv, pm_s_aload_n, pm_s_bipush, pm_s_dup2, pm_s_getfield, pm_s_goto, pm_s_iadd, pm_s_iaload, pm_s_iastore, pm_s_iconst, pm_s_ifCond_eq, pm_s_ifCond_ne, pm_s_if_icmp_eq, pm_s_if_icmp_ge, pm_s_if_icmp_le, pm_s_iinc, pm_s_iload, pm_s_iload_n, pm_s_imul, pm_s_invokestatic, pm_s_invokevirtual, pm_s_ireturn, pm_s_istore, pm_s_isub, ct_X7_carry, tt_X7_in, tt_X7_cards, pS, pR, pC, pE, pL, -Int32.not_le, -Int32.not_lt, -Int64.not_le, -Int64.not_lt, -List.getD_eq_getElem?_getD]
              rw [ni_add]
              refine ih (i + 1) (by omega) (by omega) (by omega) (fun j j1 j2 => ?_)
              by_cases u : j = ((aS A).1 a).length - n + i
              · rw [u]; exact w
              · exact hr j j1 (by omega)
            · have e : i = n := by omega
              rw [e] at hr ⊢
              refine hb181 _ _ _ ?_
              simp (maxSteps := 2000000) [bk_X7_carry_0, bk_X7_carry_38, bk_X7_carry_41, bk_X7_carry_55, bk_X7_carry_67, bk_X7_carry_73, bk_X7_carry_95, bk_X7_carry_101, bk_X7_carry_104, bk_X7_carry_149, bk_X7_carry_155, bk_X7_carry_163, bk_X7_carry_181, bk_X7_carry_218, bk_X7_carry_224, bk_X7_carry_245, bk_X7_carry_263, bk_X7_carry_271, bk_X7_carry_278, bk_X7_carry_319, pm_arr, pm_call, pm_e_c0, pm_e_c1, pm_e_cti, pm_e_ctl, pm_e_ctr, pm_e_go, pm_e_i, pm_e_ii, pm_e_ldi, pm_e_ldr, pm_e_lk, pm_e_r, pm_e_ri, pm_e_rii, pm_e_rm0, pm_e_rm1, pm_e_rs0, pm_e_rs1, pm_e_v2, pm_e_wp0, pm_e_wp1, pm_f2, pm_f3, pm_fld, pm_fv, pm_obj, pm_recv, pm_s_aload_n, pm_s_bipush, pm_s_dup2, pm_s_getfield, pm_s_goto, pm_s_iadd, pm_s_iaload, pm_s_iastore, pm_s_iconst, pm_s_ifCond_eq, pm_s_ifCond_ne, pm_s_if_icmp_eq, pm_s_if_icmp_ge, pm_s_if_icmp_le, pm_s_iinc, pm_s_iload, pm_s_iload_n, pm_s_imul, pm_s_invokestatic, pm_s_invokevirtual, pm_s_ireturn, pm_s_istore, pm_s_isub, ct_X7_carry, tt_X7_in, tt_X7_cards, pS, pR, pC, pE, pL, -Int32.not_le, -Int32.not_lt, -Int64.not_le, -Int64.not_lt, -List.getD_eq_getElem?_getD]
              exact h224 hr hlg
        have h155 : X 155 [(0, .ref 0), (1, .int (nI a)), (2, .int (nI b)), (3, .int (nI n)), (4, .int (nI (longF (aP A) (pE (aP A)) (aS A) a b)))] [] M := by
          refine hb155 _ _ _ ?_
          simp (maxSteps := 2000000) [bk_X7_carry_0, bk_X7_carry_38, bk_X7_carry_41, bk_X7_carry_55, bk_X7_carry_67, bk_X7_carry_73, bk_X7_carry_95, bk_X7_carry_101, bk_X7_carry_104, bk_X7_carry_149, bk_X7_carry_155, bk_X7_carry_163, bk_X7_carry_181, bk_X7_carry_218, bk_X7_carry_224, bk_X7_carry_245, bk_X7_carry_263, bk_X7_carry_271, bk_X7_carry_278, bk_X7_carry_319, pm_arr, pm_call, pm_e_c0, pm_e_c1, pm_e_cti, pm_e_ctl, pm_e_ctr, pm_e_go, pm_e_i, pm_e_ii, pm_e_ldi, pm_e_ldr, pm_e_lk, pm_e_r, pm_e_ri, pm_e_rii, pm_e_rm0, pm_e_rm1, pm_e_rs0, pm_e_rs1, pm_e_v2, pm_e_wp0, pm_e_wp1, pm_f2, pm_f3, pm_fld, pm_fv, pm_obj, pm_recv, pm_s_aload_n, pm_s_bipush, pm_s_dup2, pm_s_getfield, pm_s_goto, pm_s_iadd, pm_s_iaload, pm_s_iastore, pm_s_iconst, pm_s_ifCond_eq, pm_s_ifCond_ne, pm_s_if_icmp_eq, pm_s_if_icmp_ge, pm_s_if_icmp_le, pm_s_iinc, pm_s_iload, pm_s_iload_n, pm_s_imul, pm_s_invokestatic, pm_s_invokevirtual, pm_s_ireturn, pm_s_istore, pm_s_isub, ct_X7_carry, tt_X7_in, tt_X7_cards, pS, pR, pC, pE, pL, -Int32.not_le, -Int32.not_lt, -Int64.not_le, -Int64.not_lt, -List.getD_eq_getElem?_getD]
          dsimp only [pE] at hlong
          rw [ni_le (by omega) (by omega)]
          refine ⟨fun w => ?_, fun w => no (canF_no1 (Or.inr w))⟩
          refine hb163 _ _ _ ?_
          simp (maxSteps := 2000000) [bk_X7_carry_0, bk_X7_carry_38, bk_X7_carry_41, bk_X7_carry_55, bk_X7_carry_67, bk_X7_carry_73, bk_X7_carry_95, bk_X7_carry_101, bk_X7_carry_104, bk_X7_carry_149, bk_X7_carry_155, bk_X7_carry_163, bk_X7_carry_181, bk_X7_carry_218, bk_X7_carry_224, bk_X7_carry_245, bk_X7_carry_263, bk_X7_carry_271, bk_X7_carry_278, bk_X7_carry_319, pm_arr, pm_call, pm_e_c0, pm_e_c1, pm_e_cti, pm_e_ctl, pm_e_ctr, pm_e_go, pm_e_i, pm_e_ii, pm_e_ldi, pm_e_ldr, pm_e_lk, pm_e_r, pm_e_ri, pm_e_rii, pm_e_rm0, pm_e_rm1, pm_e_rs0, pm_e_rs1, pm_e_v2, pm_e_wp0, pm_e_wp1, pm_f2, pm_f3, pm_fld, pm_fv, pm_obj, pm_recv, pm_s_aload_n, pm_s_bipush, pm_s_dup2, pm_s_getfield, pm_s_goto, pm_s_iadd, pm_s_iaload, pm_s_iastore, pm_s_iconst, pm_s_ifCond_eq, pm_s_ifCond_ne, pm_s_if_icmp_eq, pm_s_if_icmp_ge, pm_s_if_icmp_le, pm_s_iinc, pm_s_iload, pm_s_iload_n, pm_s_imul, pm_s_invokestatic, pm_s_invokevirtual, pm_s_ireturn, pm_s_istore, pm_s_isub, ct_X7_carry, tt_X7_in, tt_X7_cards, pS, pR, pC, pE, pL, -Int32.not_le, -Int32.not_lt, -Int64.not_le, -Int64.not_lt, -List.getD_eq_getElem?_getD, sy_0, sy_2]
          rw [ni_in (by omega), ni_cl (by omega), hna, ni_mul, ni_add, ni_sub (by omega), show 12 * a + ((aS A).1 a).length - n = 12 * a + (((aS A).1 a).length - n) by omega]
          exact ⟨by omega, h181 w n 1 (by omega) (by omega) (by omega) (fun j j1 j2 => by omega)⟩
        have h104 : ∀ (f i : Nat), pC (aP A) ≤ i + f → i ≤ pC (aP A) → X 104 [(0, .ref 0), (1, .int (nI a)), (2, .int (nI b)), (3, .int (nI n)), (4, .int (nI ((nfc (pE (aP A)) (aS A) + 1) * 2 ^ cnt i (helpF (aP A) (aS A) a b)))), (5, .int (nI i))] [] M := by
          intro f
          induction f with
          | zero =>
            intro i f1 f2
            have e : i = pC (aP A) := by omega
            rw [e]
            refine hb104 _ _ _ ?_
            simp (maxSteps := 2000000) [bk_X7_carry_0, bk_X7_carry_38, bk_X7_carry_41, bk_X7_carry_55, bk_X7_carry_67, bk_X7_carry_73, bk_X7_carry_95, bk_X7_carry_101, bk_X7_carry_104, bk_X7_carry_149, bk_X7_carry_155, bk_X7_carry_163, bk_X7_carry_181, bk_X7_carry_218, bk_X7_carry_224, bk_X7_carry_245, bk_X7_carry_263, bk_X7_carry_271, bk_X7_carry_278, bk_X7_carry_319, pm_arr, pm_call, pm_e_c0, pm_e_c1, pm_e_cti, pm_e_ctl, pm_e_ctr, pm_e_go, pm_e_i, pm_e_ii, pm_e_ldi, pm_e_ldr, pm_e_lk, pm_e_r, pm_e_ri, pm_e_rii, pm_e_rm0, pm_e_rm1, pm_e_rs0, pm_e_rs1, pm_e_v2, pm_e_wp0, pm_e_wp1, pm_f2, pm_f3, pm_fld, pm_fv, pm_obj, pm_recv, pm_s_aload_n, pm_s_bipush, pm_s_dup2, pm_s_getfield, pm_s_goto, pm_s_iadd, pm_s_iaload, pm_s_iastore, pm_s_iconst, pm_s_ifCond_eq, pm_s_ifCond_ne, pm_s_if_icmp_eq, pm_s_if_icmp_ge, pm_s_if_icmp_le, pm_s_iinc, pm_s_iload, pm_s_iload_n, pm_s_imul, pm_s_invokestatic, pm_s_invokevirtual, pm_s_ireturn, pm_s_istore, pm_s_isub, ct_X7_carry, tt_X7_in, tt_X7_cards, pS, pR, pC, pE, pL, -Int32.not_le, -Int32.not_lt, -Int64.not_le, -Int64.not_lt, -List.getD_eq_getElem?_getD, sy_0, m2]
            exact h155
          | succ f ih =>
            intro i f1 f2
            by_cases hi : i < pC (aP A)
            · have hi4 : i < 4 := by omega
              have li := lS i hi4
              have hni : M.1 2 i = nI ((aS A).1 i).length := hS.n hi4
              have h149 : ∀ v, v = (nfc (pE (aP A)) (aS A) + 1) * 2 ^ cnt (i + 1) (helpF (aP A) (aS A) a b) → X 149 [(0, .ref 0), (1, .int (nI a)), (2, .int (nI b)), (3, .int (nI n)), (4, .int (nI v)), (5, .int (nI i))] [] M := by
                intro v ev
                refine hb149 _ _ _ ?_
                simp (maxSteps := 2000000) [bk_X7_carry_0, bk_X7_carry_38, bk_X7_carry_41, bk_X7_carry_55, bk_X7_carry_67, bk_X7_carry_73, bk_X7_carry_95, bk_X7_carry_101, bk_X7_carry_104, bk_X7_carry_149, bk_X7_carry_155, bk_X7_carry_163, bk_X7_carry_181, bk_X7_carry_218, bk_X7_carry_224, bk_X7_carry_245, bk_X7_carry_263, bk_X7_carry_271, bk_X7_carry_278, bk_X7_carry_319, pm_arr, pm_call, pm_e_c0, pm_e_c1, pm_e_cti, pm_e_ctl, pm_e_ctr, pm_e_go, pm_e_i, pm_e_ii, pm_e_ldi, pm_e_ldr, pm_e_lk, pm_e_r, pm_e_ri, pm_e_rii, pm_e_rm0, pm_e_rm1, pm_e_rs0, pm_e_rs1, pm_e_v2, pm_e_wp0, pm_e_wp1, pm_f2, pm_f3, pm_fld, pm_fv, pm_obj, pm_recv, pm_s_aload_n, pm_s_bipush, pm_s_dup2, pm_s_getfield, pm_s_goto, pm_s_iadd, pm_s_iaload, pm_s_iastore, pm_s_iconst, pm_s_ifCond_eq, pm_s_ifCond_ne, pm_s_if_icmp_eq, pm_s_if_icmp_ge, pm_s_if_icmp_le, pm_s_iinc, pm_s_iload, pm_s_iload_n, pm_s_imul, pm_s_invokestatic, pm_s_invokevirtual, pm_s_ireturn, pm_s_istore, pm_s_isub, ct_X7_carry, tt_X7_in, tt_X7_cards, pS, pR, pC, pE, pL, -Int32.not_le, -Int32.not_lt, -Int64.not_le, -Int64.not_lt, -List.getD_eq_getElem?_getD]
                rw [ni_add, ev]
                exact ih (i + 1) (by omega) (by omega)
              have nh : helpF (aP A) (aS A) a b i = false → X 149 [(0, .ref 0), (1, .int (nI a)), (2, .int (nI b)), (3, .int (nI n)), (4, .int (nI ((nfc (pE (aP A)) (aS A) + 1) * 2 ^ cnt i (helpF (aP A) (aS A) a b)))), (5, .int (nI i))] [] M := by
                intro hh
                exact h149 _ (by rw [cnt_s, if_neg (by rw [hh]; simp)]; rfl)
              have h9 := hP.2.2.2.2.2.2.2.2
              have hC4' : (aP A).2.2.1 ≤ 4 := hC4
              refine hb104 _ _ _ ?_
              simp (maxSteps := 2000000) [bk_X7_carry_0, bk_X7_carry_38, bk_X7_carry_41, bk_X7_carry_55, bk_X7_carry_67, bk_X7_carry_73, bk_X7_carry_95, bk_X7_carry_101, bk_X7_carry_104, bk_X7_carry_149, bk_X7_carry_155, bk_X7_carry_163, bk_X7_carry_181, bk_X7_carry_218, bk_X7_carry_224, bk_X7_carry_245, bk_X7_carry_263, bk_X7_carry_271, bk_X7_carry_278, bk_X7_carry_319, pm_arr, pm_call, pm_e_c0, pm_e_c1, pm_e_cti, pm_e_ctl, pm_e_ctr, pm_e_go, pm_e_i, pm_e_ii, pm_e_ldi, pm_e_ldr, pm_e_lk, pm_e_r, pm_e_ri, pm_e_rii, pm_e_rm0, pm_e_rm1, pm_e_rs0, pm_e_rs1, pm_e_v2, pm_e_wp0, pm_e_wp1, pm_f2, pm_f3, pm_fld, pm_fv, pm_obj, pm_recv, pm_s_aload_n, pm_s_bipush, pm_s_dup2, pm_s_getfield, pm_s_goto, pm_s_iadd, pm_s_iaload, pm_s_iastore, pm_s_iconst, pm_s_ifCond_eq, pm_s_ifCond_ne, pm_s_if_icmp_eq, pm_s_if_icmp_ge, pm_s_if_icmp_le, pm_s_iinc, pm_s_iload, pm_s_iload_n, pm_s_imul, pm_s_invokestatic, pm_s_invokevirtual, pm_s_ireturn, pm_s_istore, pm_s_isub, ct_X7_carry, tt_X7_in, tt_X7_cards, pS, pR, pC, pE, pL, -Int32.not_le, -Int32.not_lt, -Int64.not_le, -Int64.not_lt, -List.getD_eq_getElem?_getD, sy_0, sy_2, m2, m4]
              dsimp only [pC, pL] at hi h9
              rw [ni_le (by omega) (by omega), ni_eq (by omega) (by omega), ni_eq (by omega) (by omega), ni_in (by omega), ni_cl (by omega), hni, ni_eq0 (by omega), ni_eq (by omega) (by decide), ni_mul]
              refine ⟨fun w => by omega, fun _ => ⟨fun w => nh (by unfold helpF; rw [decide_eq_true w]; rfl), fun w => ⟨fun w2 => nh (by unfold helpF; rw [decide_eq_true w2]; simp), fun w2 => ⟨by omega, fun w3 => nh (by unfold helpF; rw [decide_eq_false (p := (aS A).1 i = []) (fun e => w3 (by rw [e]; rfl))]; simp), fun w3 => ⟨fun w4 => nh (by unfold helpF; rw [decide_eq_true (p := pL (aP A) = 4) w4]; simp), fun w4 => h149 _ ?_⟩⟩⟩⟩⟩
              have hh : helpF (aP A) (aS A) a b i = true := by
                unfold helpF
                rw [decide_eq_false w, decide_eq_false w2, decide_eq_true (List.length_eq_zero_iff.mp w3), decide_eq_false (p := pL (aP A) = 4) w4]; rfl
              rw [cnt_s, if_pos hh, Nat.pow_succ, Nat.mul_assoc]
            · have e : i = pC (aP A) := by omega
              rw [e]
              refine hb104 _ _ _ ?_
              simp (maxSteps := 2000000) [bk_X7_carry_0, bk_X7_carry_38, bk_X7_carry_41, bk_X7_carry_55, bk_X7_carry_67, bk_X7_carry_73, bk_X7_carry_95, bk_X7_carry_101, bk_X7_carry_104, bk_X7_carry_149, bk_X7_carry_155, bk_X7_carry_163, bk_X7_carry_181, bk_X7_carry_218, bk_X7_carry_224, bk_X7_carry_245, bk_X7_carry_263, bk_X7_carry_271, bk_X7_carry_278, bk_X7_carry_319, pm_arr, pm_call, pm_e_c0, pm_e_c1, pm_e_cti, pm_e_ctl, pm_e_ctr, pm_e_go, pm_e_i, pm_e_ii, pm_e_ldi, pm_e_ldr, pm_e_lk, pm_e_r, pm_e_ri, pm_e_rii, pm_e_rm0, pm_e_rm1, pm_e_rs0, pm_e_rs1, pm_e_v2, pm_e_wp0, pm_e_wp1, pm_f2, pm_f3, pm_fld, pm_fv, pm_obj, pm_recv, pm_s_aload_n, pm_s_bipush, pm_s_dup2, pm_s_getfield, pm_s_goto, pm_s_iadd, pm_s_iaload, pm_s_iastore, pm_s_iconst, pm_s_ifCond_eq, pm_s_ifCond_ne, pm_s_if_icmp_eq, pm_s_if_icmp_ge, pm_s_if_icmp_le, pm_s_iinc, pm_s_iload, pm_s_iload_n, pm_s_imul, pm_s_invokestatic, pm_s_invokevirtual, pm_s_ireturn, pm_s_istore, pm_s_isub, ct_X7_carry, tt_X7_in, tt_X7_cards, pS, pR, pC, pE, pL, -Int32.not_le, -Int32.not_lt, -Int64.not_le, -Int64.not_lt, -List.getD_eq_getElem?_getD, sy_0, m2]
              exact h155
        have h73 : ∀ (f i : Nat), pE (aP A) ≤ i + f → i ≤ pE (aP A) → X 73 [(0, .ref 0), (1, .int (nI a)), (2, .int (nI b)), (3, .int (nI n)), (4, .int (nI (cnt i (fun i => decide ((aS A).2.1 i = 0)) + 1))), (5, .int (nI i))] [] M := by
          intro f
          have out : X 101 [(0, .ref 0), (1, .int (nI a)), (2, .int (nI b)), (3, .int (nI n)), (4, .int (nI (cnt (pE (aP A)) (fun i => decide ((aS A).2.1 i = 0)) + 1)))] [] M := by
            refine hb101 _ _ _ ?_
            simp (maxSteps := 2000000) [bk_X7_carry_0, bk_X7_carry_38, bk_X7_carry_41, bk_X7_carry_55, bk_X7_carry_67, bk_X7_carry_73, bk_X7_carry_95, bk_X7_carry_101, bk_X7_carry_104, bk_X7_carry_149, bk_X7_carry_155, bk_X7_carry_163, bk_X7_carry_181, bk_X7_carry_218, bk_X7_carry_224, bk_X7_carry_245, bk_X7_carry_263, bk_X7_carry_271, bk_X7_carry_278, bk_X7_carry_319, pm_arr, pm_call, pm_e_c0, pm_e_c1, pm_e_cti, pm_e_ctl, pm_e_ctr, pm_e_go, pm_e_i, pm_e_ii, pm_e_ldi, pm_e_ldr, pm_e_lk, pm_e_r, pm_e_ri, pm_e_rii, pm_e_rm0, pm_e_rm1, pm_e_rs0, pm_e_rs1, pm_e_v2, pm_e_wp0, pm_e_wp1, pm_f2, pm_f3, pm_fld, pm_fv, pm_obj, pm_recv, pm_s_aload_n, pm_s_bipush, pm_s_dup2, pm_s_getfield, pm_s_goto, pm_s_iadd, pm_s_iaload, pm_s_iastore, pm_s_iconst, pm_s_ifCond_eq, pm_s_ifCond_ne, pm_s_if_icmp_eq, pm_s_if_icmp_ge, pm_s_if_icmp_le, pm_s_iinc, pm_s_iload, pm_s_iload_n, pm_s_imul, pm_s_invokestatic, pm_s_invokevirtual, pm_s_ireturn, pm_s_istore, pm_s_isub, ct_X7_carry, tt_X7_in, tt_X7_cards, pS, pR, pC, pE, pL, -Int32.not_le, -Int32.not_lt, -Int64.not_le, -Int64.not_lt, -List.getD_eq_getElem?_getD]
            have := h104 (pC (aP A)) 0 (by omega) (by omega)
            rw [nfc_cnt (P := aP A) hE, show cnt 0 (helpF (aP A) (aS A) a b) = 0 from rfl, Nat.pow_zero, Nat.mul_one] at this
            exact this
          induction f with
          | zero =>
            intro i f1 f2
            have e : i = pE (aP A) := by omega
            rw [e]
            refine hb73 _ _ _ ?_
            simp (maxSteps := 2000000) [bk_X7_carry_0, bk_X7_carry_38, bk_X7_carry_41, bk_X7_carry_55, bk_X7_carry_67, bk_X7_carry_73, bk_X7_carry_95, bk_X7_carry_101, bk_X7_carry_104, bk_X7_carry_149, bk_X7_carry_155, bk_X7_carry_163, bk_X7_carry_181, bk_X7_carry_218, bk_X7_carry_224, bk_X7_carry_245, bk_X7_carry_263, bk_X7_carry_271, bk_X7_carry_278, bk_X7_carry_319, pm_arr, pm_call, pm_e_c0, pm_e_c1, pm_e_cti, pm_e_ctl, pm_e_ctr, pm_e_go, pm_e_i, pm_e_ii, pm_e_ldi, pm_e_ldr, pm_e_lk, pm_e_r, pm_e_ri, pm_e_rii, pm_e_rm0, pm_e_rm1, pm_e_rs0, pm_e_rs1, pm_e_v2, pm_e_wp0, pm_e_wp1, pm_f2, pm_f3, pm_fld, pm_fv, pm_obj, pm_recv, pm_s_aload_n, pm_s_bipush, pm_s_dup2, pm_s_getfield, pm_s_goto, pm_s_iadd, pm_s_iaload, pm_s_iastore, pm_s_iconst, pm_s_ifCond_eq, pm_s_ifCond_ne, pm_s_if_icmp_eq, pm_s_if_icmp_ge, pm_s_if_icmp_le, pm_s_iinc, pm_s_iload, pm_s_iload_n, pm_s_imul, pm_s_invokestatic, pm_s_invokevirtual, pm_s_ireturn, pm_s_istore, pm_s_isub, ct_X7_carry, tt_X7_in, tt_X7_cards, pS, pR, pC, pE, pL, -Int32.not_le, -Int32.not_lt, -Int64.not_le, -Int64.not_lt, -List.getD_eq_getElem?_getD, sy_0, m3]
            exact out
          | succ f ih =>
            intro i f1 f2
            by_cases hi : i < pE (aP A)
            · have hi2 : i < 2 := by omega
              have he : M.1 4 i = nI (cdN (pR (aP A)) ((aS A).2.1 i)) := hS.e hi2
              have hz := cd_z hP (hI.2 i hi2)
              have hE' : (aP A).2.2.2.1 ≤ 2 := hE
              have h95 : ∀ v, v = cnt (i + 1) (fun i => decide ((aS A).2.1 i = 0)) + 1 → X 95 [(0, .ref 0), (1, .int (nI a)), (2, .int (nI b)), (3, .int (nI n)), (4, .int (nI v)), (5, .int (nI i))] [] M := by
                intro v ev
                refine hb95 _ _ _ ?_
                simp (maxSteps := 2000000) [bk_X7_carry_0, bk_X7_carry_38, bk_X7_carry_41, bk_X7_carry_55, bk_X7_carry_67, bk_X7_carry_73, bk_X7_carry_95, bk_X7_carry_101, bk_X7_carry_104, bk_X7_carry_149, bk_X7_carry_155, bk_X7_carry_163, bk_X7_carry_181, bk_X7_carry_218, bk_X7_carry_224, bk_X7_carry_245, bk_X7_carry_263, bk_X7_carry_271, bk_X7_carry_278, bk_X7_carry_319, pm_arr, pm_call, pm_e_c0, pm_e_c1, pm_e_cti, pm_e_ctl, pm_e_ctr, pm_e_go, pm_e_i, pm_e_ii, pm_e_ldi, pm_e_ldr, pm_e_lk, pm_e_r, pm_e_ri, pm_e_rii, pm_e_rm0, pm_e_rm1, pm_e_rs0, pm_e_rs1, pm_e_v2, pm_e_wp0, pm_e_wp1, pm_f2, pm_f3, pm_fld, pm_fv, pm_obj, pm_recv, pm_s_aload_n, pm_s_bipush, pm_s_dup2, pm_s_getfield, pm_s_goto, pm_s_iadd, pm_s_iaload, pm_s_iastore, pm_s_iconst, pm_s_ifCond_eq, pm_s_ifCond_ne, pm_s_if_icmp_eq, pm_s_if_icmp_ge, pm_s_if_icmp_le, pm_s_iinc, pm_s_iload, pm_s_iload_n, pm_s_imul, pm_s_invokestatic, pm_s_invokevirtual, pm_s_ireturn, pm_s_istore, pm_s_isub, ct_X7_carry, tt_X7_in, tt_X7_cards, pS, pR, pC, pE, pL, -Int32.not_le, -Int32.not_lt, -Int64.not_le, -Int64.not_lt, -List.getD_eq_getElem?_getD]
                rw [ni_add, ev]
                exact ih (i + 1) (by omega) (by omega)
              refine hb73 _ _ _ ?_
              simp (maxSteps := 2000000) [bk_X7_carry_0, bk_X7_carry_38, bk_X7_carry_41, bk_X7_carry_55, bk_X7_carry_67, bk_X7_carry_73, bk_X7_carry_95, bk_X7_carry_101, bk_X7_carry_104, bk_X7_carry_149, bk_X7_carry_155, bk_X7_carry_163, bk_X7_carry_181, bk_X7_carry_218, bk_X7_carry_224, bk_X7_carry_245, bk_X7_carry_263, bk_X7_carry_271, bk_X7_carry_278, bk_X7_carry_319, pm_arr, pm_call, pm_e_c0, pm_e_c1, pm_e_cti, pm_e_ctl, pm_e_ctr, pm_e_go, pm_e_i, pm_e_ii, pm_e_ldi, pm_e_ldr, pm_e_lk, pm_e_r, pm_e_ri, pm_e_rii, pm_e_rm0, pm_e_rm1, pm_e_rs0, pm_e_rs1, pm_e_v2, pm_e_wp0, pm_e_wp1, pm_f2, pm_f3, pm_fld, pm_fv, pm_obj, pm_recv, pm_s_aload_n, pm_s_bipush, pm_s_dup2, pm_s_getfield, pm_s_goto, pm_s_iadd, pm_s_iaload, pm_s_iastore, pm_s_iconst, pm_s_ifCond_eq, pm_s_ifCond_ne, pm_s_if_icmp_eq, pm_s_if_icmp_ge, pm_s_if_icmp_le, pm_s_iinc, pm_s_iload, pm_s_iload_n, pm_s_imul, pm_s_invokestatic, pm_s_invokevirtual, pm_s_ireturn, pm_s_istore, pm_s_isub, ct_X7_carry, tt_X7_in, tt_X7_cards, pS, pR, pC, pE, pL, -Int32.not_le, -Int32.not_lt, -Int64.not_le, -Int64.not_lt, -List.getD_eq_getElem?_getD, sy_0, sy_4, m3]
              dsimp only [pE, pR] at hi he hz
              rw [ni_le (by omega) (by omega), ni_in (by omega), ni_cl (by omega), he, hz, ni_add]
              refine ⟨fun w => by omega, fun _ => ⟨by omega, fun w => h95 _ (by rw [cnt_s, if_neg (by simpa using w)]), fun w => h95 _ (by rw [cnt_s, if_pos (by simpa using w)])⟩⟩
            · have e : i = pE (aP A) := by omega
              rw [e]
              refine hb73 _ _ _ ?_
              simp (maxSteps := 2000000) [bk_X7_carry_0, bk_X7_carry_38, bk_X7_carry_41, bk_X7_carry_55, bk_X7_carry_67, bk_X7_carry_73, bk_X7_carry_95, bk_X7_carry_101, bk_X7_carry_104, bk_X7_carry_149, bk_X7_carry_155, bk_X7_carry_163, bk_X7_carry_181, bk_X7_carry_218, bk_X7_carry_224, bk_X7_carry_245, bk_X7_carry_263, bk_X7_carry_271, bk_X7_carry_278, bk_X7_carry_319, pm_arr, pm_call, pm_e_c0, pm_e_c1, pm_e_cti, pm_e_ctl, pm_e_ctr, pm_e_go, pm_e_i, pm_e_ii, pm_e_ldi, pm_e_ldr, pm_e_lk, pm_e_r, pm_e_ri, pm_e_rii, pm_e_rm0, pm_e_rm1, pm_e_rs0, pm_e_rs1, pm_e_v2, pm_e_wp0, pm_e_wp1, pm_f2, pm_f3, pm_fld, pm_fv, pm_obj, pm_recv, pm_s_aload_n, pm_s_bipush, pm_s_dup2, pm_s_getfield, pm_s_goto, pm_s_iadd, pm_s_iaload, pm_s_iastore, pm_s_iconst, pm_s_ifCond_eq, pm_s_ifCond_ne, pm_s_if_icmp_eq, pm_s_if_icmp_ge, pm_s_if_icmp_le, pm_s_iinc, pm_s_iload, pm_s_iload_n, pm_s_imul, pm_s_invokestatic, pm_s_invokevirtual, pm_s_ireturn, pm_s_istore, pm_s_isub, ct_X7_carry, tt_X7_in, tt_X7_cards, pS, pR, pC, pE, pL, -Int32.not_le, -Int32.not_lt, -Int64.not_le, -Int64.not_lt, -List.getD_eq_getElem?_getD, sy_0, m3]
              exact out
        refine hb67 _ _ _ ?_
        simp (maxSteps := 2000000) [bk_X7_carry_0, bk_X7_carry_38, bk_X7_carry_41, bk_X7_carry_55, bk_X7_carry_67, bk_X7_carry_73, bk_X7_carry_95, bk_X7_carry_101, bk_X7_carry_104, bk_X7_carry_149, bk_X7_carry_155, bk_X7_carry_163, bk_X7_carry_181, bk_X7_carry_218, bk_X7_carry_224, bk_X7_carry_245, bk_X7_carry_263, bk_X7_carry_271, bk_X7_carry_278, bk_X7_carry_319, pm_arr, pm_call, pm_e_c0, pm_e_c1, pm_e_cti, pm_e_ctl, pm_e_ctr, pm_e_go, pm_e_i, pm_e_ii, pm_e_ldi, pm_e_ldr, pm_e_lk, pm_e_r, pm_e_ri, pm_e_rii, pm_e_rm0, pm_e_rm1, pm_e_rs0, pm_e_rs1, pm_e_v2, pm_e_wp0, pm_e_wp1, pm_f2, pm_f3, pm_fld, pm_fv, pm_obj, pm_recv, pm_s_aload_n, pm_s_bipush, pm_s_dup2, pm_s_getfield, pm_s_goto, pm_s_iadd, pm_s_iaload, pm_s_iastore, pm_s_iconst, pm_s_ifCond_eq, pm_s_ifCond_ne, pm_s_if_icmp_eq, pm_s_if_icmp_ge, pm_s_if_icmp_le, pm_s_iinc, pm_s_iload, pm_s_iload_n, pm_s_imul, pm_s_invokestatic, pm_s_invokevirtual, pm_s_ireturn, pm_s_istore, pm_s_isub, ct_X7_carry, tt_X7_in, tt_X7_cards, pS, pR, pC, pE, pL, -Int32.not_le, -Int32.not_lt, -Int64.not_le, -Int64.not_lt, -List.getD_eq_getElem?_getD]
        exact h73 (pE (aP A)) 0 (by omega) (by omega)
      · rw [if_neg hl] at hT
        exact hT M hM
    refine hb0 _ _ _ ?_
    simp (maxSteps := 2000000) [bk_X7_carry_0, bk_X7_carry_38, bk_X7_carry_41, bk_X7_carry_55, bk_X7_carry_67, bk_X7_carry_73, bk_X7_carry_95, bk_X7_carry_101, bk_X7_carry_104, bk_X7_carry_149, bk_X7_carry_155, bk_X7_carry_163, bk_X7_carry_181, bk_X7_carry_218, bk_X7_carry_224, bk_X7_carry_245, bk_X7_carry_263, bk_X7_carry_271, bk_X7_carry_278, bk_X7_carry_319, pm_arr, pm_call, pm_e_c0, pm_e_c1, pm_e_cti, pm_e_ctl, pm_e_ctr, pm_e_go, pm_e_i, pm_e_ii, pm_e_ldi, pm_e_ldr, pm_e_lk, pm_e_r, pm_e_ri, pm_e_rii, pm_e_rm0, pm_e_rm1, pm_e_rs0, pm_e_rs1, pm_e_v2, pm_e_wp0, pm_e_wp1, pm_f2, pm_f3, pm_fld, pm_fv, pm_obj, pm_recv, pm_s_aload_n, pm_s_bipush, pm_s_dup2, pm_s_getfield, pm_s_goto, pm_s_iadd, pm_s_iaload, pm_s_iastore, pm_s_iconst, pm_s_ifCond_eq, pm_s_ifCond_ne, pm_s_if_icmp_eq, pm_s_if_icmp_ge, pm_s_if_icmp_le, pm_s_iinc, pm_s_iload, pm_s_iload_n, pm_s_imul, pm_s_invokestatic, pm_s_invokevirtual, pm_s_ireturn, pm_s_istore, pm_s_isub, ct_X7_carry, tt_X7_in, tt_X7_cards, pS, pR, pC, pE, pL, -Int32.not_le, -Int32.not_lt, -Int64.not_le, -Int64.not_lt, -List.getD_eq_getElem?_getD, lv_args, sy_0, m2, pb_eq0]
    have ex : wi x (nI 0) (nI (aP A).2.2.1 - nI 1) = colOK (aP A) x := rfl
    have ey : wi y (nI 0) (nI (aP A).2.2.1 - nI 1) = colOK (aP A) y := rfl
    rw [ex, ey]
    refine ⟨fun h => bad (by rw [h]; rfl), fun h => ⟨fun h2 => bad (by rw [h2]; simp), fun h2 => ⟨fun h3 => bad (by rw [decide_eq_true h3]; simp), fun h3 => ⟨fun h4 => good ?_, fun h4 => bad ?_⟩⟩⟩⟩
    · rw [h, h2, decide_eq_false h3, decide_eq_false (Int32.not_lt.mpr h4)]; rfl
    · rw [decide_eq_true (p := z < nI 1) (Int32.not_le.mp h4)]; simp
  · exact hT.elim
