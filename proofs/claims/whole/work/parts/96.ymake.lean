theorem cntN_all : ∀ N, N < 13 → cnt 13 (fun n => decide (1 ≤ n ∧ n ≤ N)) = N := by decide
theorem LdY.congr {M : pm_M} {P : Pm} {L L' : Nat → Bool} (h : LdY M P L) (e : ∀ n, L n = L' n) : LdY M P L' := by
  have : L = L' := funext e
  rw [← this]; exact h
theorem mn_0 {b l : Nat} (h : l ≤ 0 + b) : 0 = l - min b l := by omega
theorem mn_s {a b l : Nat} (h1 : b ≤ l - a) (h2 : l ≤ a + b) (h3 : a ≤ l) : a = l - min b l := by omega
theorem mn_le {a b l : Nat} (h : a = l - min b l) : a ≤ l := by omega
theorem mn_len (L : List Nat) (b d : Nat) : (L.take (L.length - min b L.length) ++ [d] ++ L.drop (L.length - min b L.length)).length = L.length + 1 := by
  simp; omega
def tt_X7_make : pm_T := fun args M k => match args with
  | [.ref 0, .int x] => ∃ A, okA A ∧ MY M A ∧ ∀ M', MY M' (fMake A x).2 → k (some (.int (fMake A x).1)) M'
  | _ => False
abbrev ct_X7_make : List pm_C := [(false, 136, 7, 1, none, tt_X7_empties)]
set_option maxHeartbeats 4000000 in
theorem sm_X7_make  : pm_Sem SHy yX7_make cX7_make 8 (some .int) 2 tt_X7_make := by
  refine pm_Sem_intro bl_X7_make ct_X7_make cs_X7_make rfl (List.forall_mem_cons.mpr ⟨⟨_, _, _, _, sm_X7_empties, by decide, cm_X7_empties, by decide +kernel⟩, fun _ h => absurd h List.not_mem_nil⟩) ck_X7_make (by decide +kernel) (by decide) ?_
  intro X k hX args M hT
  have hb0 := hX 0 bk_X7_make_0 (List.mem_of_getElem? (i := 0) rfl)
  have hb8 := hX 8 bk_X7_make_8 (List.mem_of_getElem? (i := 1) rfl)
  have hb19 := hX 19 bk_X7_make_19 (List.mem_of_getElem? (i := 2) rfl)
  have hb65 := hX 65 bk_X7_make_65 (List.mem_of_getElem? (i := 3) rfl)
  have hb119 := hX 119 bk_X7_make_119 (List.mem_of_getElem? (i := 4) rfl)
  have hb179 := hX 179 bk_X7_make_179 (List.mem_of_getElem? (i := 5) rfl)
  have hb185 := hX 185 bk_X7_make_185 (List.mem_of_getElem? (i := 6) rfl)
  clear hX
  unfold tt_X7_make at hT; split at hT
  · next x =>
    obtain ⟨A, hA, hM, hT⟩ := hT
    obtain ⟨hD, hS, hL, h5', h7', hH, hPl, hTr, hQ⟩ := id hM
    have hP := hA.1
    obtain ⟨h1, h2, h3, h4, h5, h6, h7, h8, h9⟩ := id hP
    unfold fMake at hT
    generalize hPP : aP A = P at *
    refine ⟨by simp [lg_sl, Value.category], ?_⟩
    refine hb0 _ _ _ ?_
    simp (maxSteps := 2000000) [bk_X7_make_0, bk_X7_make_8, bk_X7_make_19, bk_X7_make_65, bk_X7_make_119, bk_X7_make_179, bk_X7_make_185, pm_arr, pm_call, pm_e_c0, pm_e_c1, pm_e_cti, pm_e_ctl, pm_e_ctr, pm_e_go, pm_e_i, pm_e_ii, pm_e_ldi, pm_e_ldr, pm_e_lk, pm_e_r, pm_e_ri, pm_e_rii, pm_e_rm0, pm_e_rm1, pm_e_rs0, pm_e_rs1, pm_e_v1, pm_e_v2, pm_e_wp0, pm_e_wp1, pm_f2, pm_f3, pm_fld, pm_fv, pm_obj, pm_recv, pm_s_aload_n, pm_s_bastore, pm_s_bipush, pm_s_dup, pm_s_dup2, pm_s_getfield, pm_s_goto, pm_s_iadd, pm_s_iaload, pm_s_iand, pm_s_iastore, pm_s_iconst, pm_s_ifCond_le, pm_s_if_icmp_ge, pm_s_if_icmp_gt, pm_s_iinc, pm_s_iload, pm_s_iload_n, pm_s_imul, pm_s_invokevirtual, pm_s_irem, pm_s_ireturn, pm_s_istore, pm_s_istore_n, pm_s_isub, pm_s_iushr, pm_s_ldc, pm_s_putfield, pm_s_sipush, ct_X7_make, pS, pR, pC, pE, pL, -Int32.not_le, -Int32.not_lt, -Int64.not_le, -Int64.not_lt, -List.getD_eq_getElem?_getD, lv_args, sy_0]
    intro M1 z5 z7 z12 z13 z30 zl zs f1
    simp (maxSteps := 2000000) [bk_X7_make_0, bk_X7_make_8, bk_X7_make_19, bk_X7_make_65, bk_X7_make_119, bk_X7_make_179, bk_X7_make_185, pm_arr, pm_call, pm_e_c0, pm_e_c1, pm_e_cti, pm_e_ctl, pm_e_ctr, pm_e_go, pm_e_i, pm_e_ii, pm_e_ldi, pm_e_ldr, pm_e_lk, pm_e_r, pm_e_ri, pm_e_rii, pm_e_rm0, pm_e_rm1, pm_e_rs0, pm_e_rs1, pm_e_v1, pm_e_v2, pm_e_wp0, pm_e_wp1, pm_f2, pm_f3, pm_fld, pm_fv, pm_obj, pm_recv, pm_s_aload_n, pm_s_bastore, pm_s_bipush, pm_s_dup, pm_s_dup2, pm_s_getfield, pm_s_goto, pm_s_iadd, pm_s_iaload, pm_s_iand, pm_s_iastore, pm_s_iconst, pm_s_ifCond_le, pm_s_if_icmp_ge, pm_s_if_icmp_gt, pm_s_iinc, pm_s_iload, pm_s_iload_n, pm_s_imul, pm_s_invokevirtual, pm_s_irem, pm_s_ireturn, pm_s_istore, pm_s_istore_n, pm_s_isub, pm_s_iushr, pm_s_ldc, pm_s_putfield, pm_s_sipush, ct_X7_make, pS, pR, pC, pE, pL, -Int32.not_le, -Int32.not_lt, -Int64.not_le, -Int64.not_lt, -List.getD_eq_getElem?_getD]
    have hD1 := hD.mv f1 (by decide)
    have hTr1 := try_mv hTr f1 (by decide)
    have out : ∀ (M' : pm_M), SdY M' 2 0 (pR P) (mkR P x (pR P)).2 → LdY M' P (Lmk P (pR P) 0) → M'.1 0 5 = nI (cnt 13 (Lmk P (pR P) 0)) → yfr [1, 2, 3] [5] M1 M' → X 185 [(0, .ref 0)] [] M' := by
      intro M' s1 s2 s3 f2
      have eL : Lmk P (pR P) 0 = fun n => decide (1 ≤ n ∧ n ≤ pS P * pR P) := funext (fun n => Lmk_E hP n)
      rw [eL] at s2 s3
      have e5 : M'.1 0 5 = nI (pS P * pR P) := by rw [s3, cntN_all _ (by omega)]
      refine hb185 _ _ _ ?_
      simp (maxSteps := 2000000) [bk_X7_make_0, bk_X7_make_8, bk_X7_make_19, bk_X7_make_65, bk_X7_make_119, bk_X7_make_179, bk_X7_make_185, pm_arr, pm_call, pm_e_c0, pm_e_c1, pm_e_cti, pm_e_ctl, pm_e_ctr, pm_e_go, pm_e_i, pm_e_ii, pm_e_ldi, pm_e_ldr, pm_e_lk, pm_e_r, pm_e_ri, pm_e_rii, pm_e_rm0, pm_e_rm1, pm_e_rs0, pm_e_rs1, pm_e_v1, pm_e_v2, pm_e_wp0, pm_e_wp1, pm_f2, pm_f3, pm_fld, pm_fv, pm_obj, pm_recv, pm_s_aload_n, pm_s_bastore, pm_s_bipush, pm_s_dup, pm_s_dup2, pm_s_getfield, pm_s_goto, pm_s_iadd, pm_s_iaload, pm_s_iand, pm_s_iastore, pm_s_iconst, pm_s_ifCond_le, pm_s_if_icmp_ge, pm_s_if_icmp_gt, pm_s_iinc, pm_s_iload, pm_s_iload_n, pm_s_imul, pm_s_invokevirtual, pm_s_irem, pm_s_ireturn, pm_s_istore, pm_s_istore_n, pm_s_isub, pm_s_iushr, pm_s_ldc, pm_s_putfield, pm_s_sipush, ct_X7_make, pS, pR, pC, pE, pL, -Int32.not_le, -Int32.not_lt, -Int64.not_le, -Int64.not_lt, -List.getD_eq_getElem?_getD, sy_0, e5]
      refine hT M' ⟨hD1.mv f2 (by decide), s1, s2, s3, ?_, HsY.no ?_ ?_, PlY.nil ?_, try_mv hTr1 f2 (by decide), ?_⟩
      · rw [f2.f (by decide)]; exact z7
      · rw [f2.f (by decide)]; exact z12
      · rw [f2.f (by decide)]; exact z13
      · rw [f2.f (by decide)]; exact z30
      · rw [f2.f (by decide), f1.f (by decide)]; exact hQ
    have loop : ∀ (f r : Nat) (M' : pm_M), pR P ≤ r + f → r ≤ pR P → SdY M' 2 0 (pR P) (mkR P x r).2 → LdY M' P (Lmk P r 0) → M'.1 0 5 = nI (cnt 13 (Lmk P r 0)) → yfr [1, 2, 3] [5] M1 M' → X 8 [(0, .ref 0), (2, .int (mkR P x r).1), (3, .int (nI (r + 1)))] [] M' := by
      intro f
      induction f with
      | zero =>
        intro r M' e1 e2 s1 s2 s3 f2
        have hr : r = pR P := by omega
        subst hr
        have m1 := (hD1.mv f2 (by decide)).2.2.1
        refine hb8 _ _ _ ?_
        simp (maxSteps := 2000000) [bk_X7_make_0, bk_X7_make_8, bk_X7_make_19, bk_X7_make_65, bk_X7_make_119, bk_X7_make_179, bk_X7_make_185, pm_arr, pm_call, pm_e_c0, pm_e_c1, pm_e_cti, pm_e_ctl, pm_e_ctr, pm_e_go, pm_e_i, pm_e_ii, pm_e_ldi, pm_e_ldr, pm_e_lk, pm_e_r, pm_e_ri, pm_e_rii, pm_e_rm0, pm_e_rm1, pm_e_rs0, pm_e_rs1, pm_e_v1, pm_e_v2, pm_e_wp0, pm_e_wp1, pm_f2, pm_f3, pm_fld, pm_fv, pm_obj, pm_recv, pm_s_aload_n, pm_s_bastore, pm_s_bipush, pm_s_dup, pm_s_dup2, pm_s_getfield, pm_s_goto, pm_s_iadd, pm_s_iaload, pm_s_iand, pm_s_iastore, pm_s_iconst, pm_s_ifCond_le, pm_s_if_icmp_ge, pm_s_if_icmp_gt, pm_s_iinc, pm_s_iload, pm_s_iload_n, pm_s_imul, pm_s_invokevirtual, pm_s_irem, pm_s_ireturn, pm_s_istore, pm_s_istore_n, pm_s_isub, pm_s_iushr, pm_s_ldc, pm_s_putfield, pm_s_sipush, ct_X7_make, pS, pR, pC, pE, pL, -Int32.not_le, -Int32.not_lt, -Int64.not_le, -Int64.not_lt, -List.getD_eq_getElem?_getD, sy_0, m1]
        dsimp only [pR] at h3 h4
        simp (disch := omega) only [ni_in, ni_cl, ni_add, ni_mul, ni_sub, ni_lt, ni_le, ni_eq, ni_eq0, ni_lt0, ni_0le, ni_0lt, ni_le0, ni_a1, ni_a3, ni_a7, ni_a15]
        refine ⟨fun _ => out M' s1 s2 s3 f2, fun h => by omega⟩
      | succ f ih =>
        intro r M' e1 e2 s1 s2 s3 f2
        have m1 := (hD1.mv f2 (by decide)).2.2.1
        refine hb8 _ _ _ ?_
        simp (maxSteps := 2000000) [bk_X7_make_0, bk_X7_make_8, bk_X7_make_19, bk_X7_make_65, bk_X7_make_119, bk_X7_make_179, bk_X7_make_185, pm_arr, pm_call, pm_e_c0, pm_e_c1, pm_e_cti, pm_e_ctl, pm_e_ctr, pm_e_go, pm_e_i, pm_e_ii, pm_e_ldi, pm_e_ldr, pm_e_lk, pm_e_r, pm_e_ri, pm_e_rii, pm_e_rm0, pm_e_rm1, pm_e_rs0, pm_e_rs1, pm_e_v1, pm_e_v2, pm_e_wp0, pm_e_wp1, pm_f2, pm_f3, pm_fld, pm_fv, pm_obj, pm_recv, pm_s_aload_n, pm_s_bastore, pm_s_bipush, pm_s_dup, pm_s_dup2, pm_s_getfield, pm_s_goto, pm_s_iadd, pm_s_iaload, pm_s_iand, pm_s_iastore, pm_s_iconst, pm_s_ifCond_le, pm_s_if_icmp_ge, pm_s_if_icmp_gt, pm_s_iinc, pm_s_iload, pm_s_iload_n, pm_s_imul, pm_s_invokevirtual, pm_s_irem, pm_s_ireturn, pm_s_istore, pm_s_istore_n, pm_s_isub, pm_s_iushr, pm_s_ldc, pm_s_putfield, pm_s_sipush, ct_X7_make, pS, pR, pC, pE, pL, -Int32.not_le, -Int32.not_lt, -Int64.not_le, -Int64.not_lt, -List.getD_eq_getElem?_getD, sy_0, m1]
        dsimp only [pR] at h3 h4 e1 e2
        simp (disch := omega) only [ni_in, ni_cl, ni_add, ni_mul, ni_sub, ni_lt, ni_le, ni_eq, ni_eq0, ni_lt0, ni_0le, ni_0lt, ni_le0, ni_a1, ni_a3, ni_a7, ni_a15]
        refine ⟨fun h => ?_, fun h => ?_⟩
        · have hr : r = pR P := by dsimp only [pR]; omega
          subst hr
          exact out M' s1 s2 s3 f2
        · have hr : r < pR P := by dsimp only [pR]; omega
          have inner : ∀ (g t : Nat) (M' : pm_M), pS P ≤ t + g → t ≤ pS P → SdY M' 2 0 (pR P) (mkC P (mkR P x r) (r + 1) t).2 → LdY M' P (Lmk P r t) → M'.1 0 5 = nI (cnt 13 (Lmk P r t)) → yfr [1, 2, 3] [5] M1 M' → X 19 [(0, .ref 0), (2, .int (mkC P (mkR P x r) (r + 1) t).1), (3, .int (nI (r + 1))), (4, .int (nI t))] [] M' := by
            intro g
            have fin : ∀ (M' : pm_M), SdY M' 2 0 (pR P) (mkC P (mkR P x r) (r + 1) (pS P)).2 → LdY M' P (Lmk P r (pS P)) → M'.1 0 5 = nI (cnt 13 (Lmk P r (pS P))) → yfr [1, 2, 3] [5] M1 M' → X 179 [(0, .ref 0), (2, .int (mkC P (mkR P x r) (r + 1) (pS P)).1), (3, .int (nI (r + 1)))] [] M' := by
              intro M' s1 s2 s3 f2
              refine hb179 _ _ _ ?_
              simp (maxSteps := 2000000) [bk_X7_make_0, bk_X7_make_8, bk_X7_make_19, bk_X7_make_65, bk_X7_make_119, bk_X7_make_179, bk_X7_make_185, pm_arr, pm_call, pm_e_c0, pm_e_c1, pm_e_cti, pm_e_ctl, pm_e_ctr, pm_e_go, pm_e_i, pm_e_ii, pm_e_ldi, pm_e_ldr, pm_e_lk, pm_e_r, pm_e_ri, pm_e_rii, pm_e_rm0, pm_e_rm1, pm_e_rs0, pm_e_rs1, pm_e_v1, pm_e_v2, pm_e_wp0, pm_e_wp1, pm_f2, pm_f3, pm_fld, pm_fv, pm_obj, pm_recv, pm_s_aload_n, pm_s_bastore, pm_s_bipush, pm_s_dup, pm_s_dup2, pm_s_getfield, pm_s_goto, pm_s_iadd, pm_s_iaload, pm_s_iand, pm_s_iastore, pm_s_iconst, pm_s_ifCond_le, pm_s_if_icmp_ge, pm_s_if_icmp_gt, pm_s_iinc, pm_s_iload, pm_s_iload_n, pm_s_imul, pm_s_invokevirtual, pm_s_irem, pm_s_ireturn, pm_s_istore, pm_s_istore_n, pm_s_isub, pm_s_iushr, pm_s_ldc, pm_s_putfield, pm_s_sipush, ct_X7_make, pS, pR, pC, pE, pL, -Int32.not_le, -Int32.not_lt, -Int64.not_le, -Int64.not_lt, -List.getD_eq_getElem?_getD]
              rw [ni_add]
              have eL : Lmk P r (pS P) = Lmk P (r + 1) 0 := funext (fun n => Lmk_R hP n)
              rw [eL] at s2 s3
              exact ih (r + 1) M' (by dsimp only [pR]; omega) (by omega) s1 s2 s3 f2
            induction g with
            | zero =>
              intro t M' e1 e2 s1 s2 s3 f2
              have ht : t = pS P := by omega
              subst ht
              have m0 := (hD1.mv f2 (by decide)).2.1
              refine hb19 _ _ _ ?_
              simp (maxSteps := 2000000) [bk_X7_make_0, bk_X7_make_8, bk_X7_make_19, bk_X7_make_65, bk_X7_make_119, bk_X7_make_179, bk_X7_make_185, pm_arr, pm_call, pm_e_c0, pm_e_c1, pm_e_cti, pm_e_ctl, pm_e_ctr, pm_e_go, pm_e_i, pm_e_ii, pm_e_ldi, pm_e_ldr, pm_e_lk, pm_e_r, pm_e_ri, pm_e_rii, pm_e_rm0, pm_e_rm1, pm_e_rs0, pm_e_rs1, pm_e_v1, pm_e_v2, pm_e_wp0, pm_e_wp1, pm_f2, pm_f3, pm_fld, pm_fv, pm_obj, pm_recv, pm_s_aload_n, pm_s_bastore, pm_s_bipush, pm_s_dup, pm_s_dup2, pm_s_getfield, pm_s_goto, pm_s_iadd, pm_s_iaload, pm_s_iand, pm_s_iastore, pm_s_iconst, pm_s_ifCond_le, pm_s_if_icmp_ge, pm_s_if_icmp_gt, pm_s_iinc, pm_s_iload, pm_s_iload_n, pm_s_imul, pm_s_invokevirtual, pm_s_irem, pm_s_ireturn, pm_s_istore, pm_s_istore_n, pm_s_isub, pm_s_iushr, pm_s_ldc, pm_s_putfield, pm_s_sipush, ct_X7_make, pS, pR, pC, pE, pL, -Int32.not_le, -Int32.not_lt, -Int64.not_le, -Int64.not_lt, -List.getD_eq_getElem?_getD, sy_0, m0]
              exact fin M' s1 s2 s3 f2
            | succ g ihg =>
              intro t M' e1 e2 s1 s2 s3 f2
              by_cases ht : t < pS P
              · have hD2 := hD1.mv f2 (by decide)
                have m0 := hD2.2.1
                have m2 := hD2.2.2.2.1
                have hd := card_le (r := pR P) (k := r + 1) ht (by omega)
                have hd12 : t * pR P + (r + 1) ≤ 12 := by omega
                have h32 : 8 * t + (r + 1) < 32 := by omega
                have hw0 := mk_C hP hr (mk_R (ec := pE P) hP x r (by omega)) t (by omega)
                have hroom := hw0.room hP (show 1 ≤ t * pR P + (r + 1) by omega) hd (Lmk_no hr ht)
                have hok := hw0.ok hP
                have hmc := mkc_lt hP (mkC P (mkR P x r) (r + 1) t).1
                have hcol := nx_col hP (mkC P (mkR P x r) (r + 1) t).1
                have hbeh := nx_beh (mkC P (mkR P x r) (r + 1) t).1
                have hbl : mkb (mkC P (mkR P x r) (r + 1) t).1 < 4 := Nat.mod_lt _ (by decide)
                have hC0 : ¬ nI (pC P) = 0 := by rw [ni_eq0 (by omega)]; omega
                have hsucc : mkC P (mkR P x r) (r + 1) (t + 1) = mk1 P (mkC P (mkR P x r) (r + 1) t) (t * pR P + (r + 1)) := rfl
                have hcd : cdN (pR P) (t * pR P + (r + 1)) = 8 * t + (r + 1) := by
                  unfold cdN; rw [if_neg (by omega), su_of (by omega) (by omega), ra_of (by omega) (by omega)]
                unfold mk1 at hsucc
                generalize mkC P (mkR P x r) (r + 1) t = q at *
                have hi4 : mkc P q.1 < 4 := by omega
                have hlen := len_tot q.2 hi4
                have hn : M'.1 2 (mkc P q.1) = nI (q.2.1 (mkc P q.1)).length := s1.n hi4
                generalize hI : mkc P q.1 = i at *
                generalize hLL : q.2.1 i = L at *
                generalize hB : mkb q.1 = bh at *
                have hL11 : L.length ≤ 11 := by omega
                -- behind the shifting
                have h119 : ∀ (a : Nat) (M2 : pm_M), a = L.length - min bh L.length → (∀ j, j < a → M2.1 3 (12 * i + j) = nI (cdN (pR P) (L.getD j 0))) → (∀ j, a ≤ j → j < L.length → M2.1 3 (12 * i + (j + 1)) = nI (cdN (pR P) (L.getD j 0))) → (∀ u, u < 12 * i ∨ 12 * i + 12 ≤ u → M2.1 3 u = M'.1 3 u) → yfr [3] [] M' M2 → X 119 [(0, .ref 0), (2, .int (nxt q.1)), (3, .int (nI (r + 1))), (4, .int (nI t)), (5, .int (nI i)), (7, .int (nI a))] [] M2 := by
                  intro a M2 ea w1 w2 w3 g3
                  have ha := mn_le ea
                  have hn2 : M2.1 2 i = nI L.length := by rw [g3.i (by decide) (by decide)]; exact hn
                  have e5 : M2.1 0 5 = nI (cnt 13 (Lmk P r t)) := by rw [g3.f (by decide)]; exact s3
                  refine hb119 _ _ _ ?_
                  simp (maxSteps := 2000000) [bk_X7_make_0, bk_X7_make_8, bk_X7_make_19, bk_X7_make_65, bk_X7_make_119, bk_X7_make_179, bk_X7_make_185, pm_arr, pm_call, pm_e_c0, pm_e_c1, pm_e_cti, pm_e_ctl, pm_e_ctr, pm_e_go, pm_e_i, pm_e_ii, pm_e_ldi, pm_e_ldr, pm_e_lk, pm_e_r, pm_e_ri, pm_e_rii, pm_e_rm0, pm_e_rm1, pm_e_rs0, pm_e_rs1, pm_e_v1, pm_e_v2, pm_e_wp0, pm_e_wp1, pm_f2, pm_f3, pm_fld, pm_fv, pm_obj, pm_recv, pm_s_aload_n, pm_s_bastore, pm_s_bipush, pm_s_dup, pm_s_dup2, pm_s_getfield, pm_s_goto, pm_s_iadd, pm_s_iaload, pm_s_iand, pm_s_iastore, pm_s_iconst, pm_s_ifCond_le, pm_s_if_icmp_ge, pm_s_if_icmp_gt, pm_s_iinc, pm_s_iload, pm_s_iload_n, pm_s_imul, pm_s_invokevirtual, pm_s_irem, pm_s_ireturn, pm_s_istore, pm_s_istore_n, pm_s_isub, pm_s_iushr, pm_s_ldc, pm_s_putfield, pm_s_sipush, ct_X7_make, pS, pR, pC, pE, pL, -Int32.not_le, -Int32.not_lt, -Int64.not_le, -Int64.not_lt, -List.getD_eq_getElem?_getD, sy_0, sy_1, sy_2, sy_3, Value.category]
                  simp (disch := omega) only [ni_in, ni_cl, ni_add, ni_mul, ni_sub, ni_lt, ni_le, ni_eq, ni_eq0, ni_lt0, ni_0le, ni_0lt, ni_le0, ni_a1, ni_a3, ni_a7, ni_a15]
                  have e2' : (pm_set M2 3 (12 * i + a) (nI (8 * t + (r + 1)))).1 2 i = nI L.length := by simp [pm_set, hn2]
                  rw [e2', ni_add]
                  refine ⟨by omega, by omega, Or.inr rfl, by omega, ?_⟩
                  have hup : up (Lmk P r t) (t * pR P + (r + 1)) true = Lmk P r (t + 1) := funext (fun n => Lmk_s hr ht n)
                  have := ihg (t + 1) (pm_set (pm_set (pm_set (pm_set M2 3 (12 * i + a) (nI (8 * t + (r + 1)))) 2 i (nI (L.length + 1))) 1 (8 * t + (r + 1)) (nI 1)) 0 5 (nI (cnt 13 (Lmk P r t) + 1))) (by omega) (by omega) ?_ ?_ ?_ ((((((f2.trans (g3.mono (by decide) (by decide))).set (by decide) (by decide)).set (by decide) (by decide)).set (by decide) (by decide)).set0 (by decide)))
                  · rw [hsucc] at this
                    have e5' : (pm_set (pm_set (pm_set M2 3 (12 * i + a) (nI (8 * t + (r + 1)))) 2 i (nI (L.length + 1))) 1 (8 * t + (r + 1)) (nI 1)).1 0 5 = nI (cnt 13 (Lmk P r t)) := by simp [pm_set, e5]
                    rw [e5', ni_add]
                    exact this
                  · rw [hsucc]
                    show SdY _ 2 0 (pR P) (up q.2.1 i _, q.2.2.1, q.2.2.2)
                    have elen := mn_len L bh (t * pR P + (r + 1))
                    rw [hLL]
                    refine SdY.col (M := M') s1 hi4 (by rw [elen]; omega) (fun j hj => (hok.1 j hj).1) (fun j hj => ?_) (fun j hj => ?_) (fun u hu => ?_) ?_ ?_
                    · rw [elen]
                      by_cases z : j = i
                      · simp [pm_set, z]
                      · simp [pm_set, z, g3.i (q := 2) (by decide) (by decide)]
                    · rw [elen] at hj
                      rw [← ea]
                      show (pm_set (pm_set (pm_set (pm_set M2 3 (12 * i + a) (nI (8 * t + (r + 1)))) 2 i (nI (L.length + 1))) 1 (8 * t + (r + 1)) (nI 1)) 0 5 (nI (cnt 13 (Lmk P r t) + 1))).1 3 (12 * i + j) = _
                      have eg : (L.take a ++ [t * pR P + (r + 1)] ++ L.drop a).getD j 0 = if j < a then L.getD j 0 else if j = a then t * pR P + (r + 1) else L.getD (j - 1) 0 := by
                        by_cases z1 : j < a
                        · rw [if_pos z1, List.getD_eq_getElem?_getD, List.append_assoc, List.getElem?_append_left (by simp; omega), List.getElem?_take, if_pos z1, List.getD_eq_getElem?_getD]
                        · rw [if_neg z1, List.append_assoc, List.getD_eq_getElem?_getD, List.getElem?_append_right (by simp; omega), List.length_take, show min a L.length = a by omega]
                          by_cases z2 : j = a
                          · rw [if_pos z2, z2]; simp
                          · rw [if_neg z2, show j - a = (j - a - 1) + 1 by omega]
                            simp only [List.singleton_append, List.getElem?_cons_succ, List.getElem?_drop, List.getD_eq_getElem?_getD]
                            rw [show a + (j - a - 1) = j - 1 by omega]
                      rw [eg]
                      by_cases z1 : j < a
                      · rw [if_pos z1]; have := w1 j z1; simp [pm_set, show ¬ j = a by omega]; exact this
                      · by_cases z2 : j = a
                        · rw [if_neg z1, if_pos z2, hcd, z2]; simp [pm_set]
                        · rw [if_neg z1, if_neg z2]
                          have := w2 (j - 1) (by omega) (by omega)
                          rw [show j - 1 + 1 = j by omega] at this
                          simp [pm_set, z2]; exact this
                    · have := w3 u hu
                      show (pm_set (pm_set (pm_set (pm_set M2 3 (12 * i + a) (nI (8 * t + (r + 1)))) 2 i (nI (L.length + 1))) 1 (8 * t + (r + 1)) (nI 1)) 0 5 (nI (cnt 13 (Lmk P r t) + 1))).1 3 u = M'.1 3 u
                      simp [pm_set, show ¬ u = 12 * i + a by omega]; exact this
                    · show (pm_set (pm_set (pm_set (pm_set M2 3 (12 * i + a) (nI (8 * t + (r + 1)))) 2 i (nI (L.length + 1))) 1 (8 * t + (r + 1)) (nI 1)) 0 5 (nI (cnt 13 (Lmk P r t) + 1))).1 4 = M'.1 4
                      rw [← g3.1 4 (by decide) (by decide)]; funext j; simp [pm_set]
                    · show (pm_set (pm_set (pm_set (pm_set M2 3 (12 * i + a) (nI (8 * t + (r + 1)))) 2 i (nI (L.length + 1))) 1 (8 * t + (r + 1)) (nI 1)) 0 5 (nI (cnt 13 (Lmk P r t) + 1))).1 5 = M'.1 5
                      rw [← g3.1 5 (by decide) (by decide)]; funext j; simp [pm_set]
                  · rw [← hup]
                    intro c hc
                    rw [lcd_up hP ht (by omega) (by omega)]
                    have hM2c : M2.1 1 c = pb (lcd P (Lmk P r t) c) := by rw [g3.i (by decide) (by decide)]; exact s2 c hc
                    by_cases w : c = 8 * t + (r + 1)
                    · rw [if_pos w, w]; simp [pm_set, pb_t, ni_1]
                    · rw [if_neg w]; simp [pm_set, w]; exact hM2c
                  · rw [← hup, lcn_up (Nat.lt_succ_of_le hd12) (Lmk_no hr ht)]
                    simp [pm_set]
                have shf : ∀ (a : Nat) (M2 : pm_M), a ≤ L.length → L.length ≤ a + bh → (∀ j, j < a → M2.1 3 (12 * i + j) = nI (cdN (pR P) (L.getD j 0))) → (∀ j, a ≤ j → j < L.length → M2.1 3 (12 * i + (j + 1)) = nI (cdN (pR P) (L.getD j 0))) → (∀ u, u < 12 * i ∨ 12 * i + 12 ≤ u → M2.1 3 u = M'.1 3 u) → yfr [3] [] M' M2 → X 65 [(0, .ref 0), (2, .int (nxt q.1)), (3, .int (nI (r + 1))), (4, .int (nI t)), (5, .int (nI i)), (6, .int (nI bh)), (7, .int (nI a))] [] M2 := by
                  intro a
                  induction a with
                  | zero =>
                    intro M2 a1 a2 w1 w2 w3 g3
                    refine hb65 _ _ _ ?_
                    simp (maxSteps := 2000000) [bk_X7_make_0, bk_X7_make_8, bk_X7_make_19, bk_X7_make_65, bk_X7_make_119, bk_X7_make_179, bk_X7_make_185, pm_arr, pm_call, pm_e_c0, pm_e_c1, pm_e_cti, pm_e_ctl, pm_e_ctr, pm_e_go, pm_e_i, pm_e_ii, pm_e_ldi, pm_e_ldr, pm_e_lk, pm_e_r, pm_e_ri, pm_e_rii, pm_e_rm0, pm_e_rm1, pm_e_rs0, pm_e_rs1, pm_e_v1, pm_e_v2, pm_e_wp0, pm_e_wp1, pm_f2, pm_f3, pm_fld, pm_fv, pm_obj, pm_recv, pm_s_aload_n, pm_s_bastore, pm_s_bipush, pm_s_dup, pm_s_dup2, pm_s_getfield, pm_s_goto, pm_s_iadd, pm_s_iaload, pm_s_iand, pm_s_iastore, pm_s_iconst, pm_s_ifCond_le, pm_s_if_icmp_ge, pm_s_if_icmp_gt, pm_s_iinc, pm_s_iload, pm_s_iload_n, pm_s_imul, pm_s_invokevirtual, pm_s_irem, pm_s_ireturn, pm_s_istore, pm_s_istore_n, pm_s_isub, pm_s_iushr, pm_s_ldc, pm_s_putfield, pm_s_sipush, ct_X7_make, pS, pR, pC, pE, pL, -Int32.not_le, -Int32.not_lt, -Int64.not_le, -Int64.not_lt, -List.getD_eq_getElem?_getD, sy_0, sy_2, sy_3]
                    refine ⟨fun _ => h119 0 M2 (mn_0 a2) w1 w2 w3 g3, fun h => absurd (by decide) h⟩
                  | succ a iha =>
                    intro M2 a1 a2 w1 w2 w3 g3
                    have hn2 : M2.1 2 i = nI L.length := by rw [g3.i (by decide) (by decide)]; exact hn
                    refine hb65 _ _ _ ?_
                    simp (maxSteps := 2000000) [bk_X7_make_0, bk_X7_make_8, bk_X7_make_19, bk_X7_make_65, bk_X7_make_119, bk_X7_make_179, bk_X7_make_185, pm_arr, pm_call, pm_e_c0, pm_e_c1, pm_e_cti, pm_e_ctl, pm_e_ctr, pm_e_go, pm_e_i, pm_e_ii, pm_e_ldi, pm_e_ldr, pm_e_lk, pm_e_r, pm_e_ri, pm_e_rii, pm_e_rm0, pm_e_rm1, pm_e_rs0, pm_e_rs1, pm_e_v1, pm_e_v2, pm_e_wp0, pm_e_wp1, pm_f2, pm_f3, pm_fld, pm_fv, pm_obj, pm_recv, pm_s_aload_n, pm_s_bastore, pm_s_bipush, pm_s_dup, pm_s_dup2, pm_s_getfield, pm_s_goto, pm_s_iadd, pm_s_iaload, pm_s_iand, pm_s_iastore, pm_s_iconst, pm_s_ifCond_le, pm_s_if_icmp_ge, pm_s_if_icmp_gt, pm_s_iinc, pm_s_iload, pm_s_iload_n, pm_s_imul, pm_s_invokevirtual, pm_s_irem, pm_s_ireturn, pm_s_istore, pm_s_istore_n, pm_s_isub, pm_s_iushr, pm_s_ldc, pm_s_putfield, pm_s_sipush, ct_X7_make, pS, pR, pC, pE, pL, -Int32.not_le, -Int32.not_lt, -Int64.not_le, -Int64.not_lt, -List.getD_eq_getElem?_getD, sy_0, sy_2, sy_3]
                    rw [ni_in (n := 4) (by omega), ni_cl (a := i) (by omega), hn2, ni_le0 (by omega), ni_sub (by omega), ni_le (by omega) (by omega), ni_mul, ni_add, ni_sub (by omega)]
                    rw [ni_in (by omega), ni_in (by omega), ni_cl (by omega), ni_cl (by omega)]
                    refine ⟨fun h => by omega, fun _ => ⟨by omega, fun h => h119 (a + 1) M2 (mn_s h a2 a1) w1 w2 w3 g3, fun h => ⟨by omega, by omega, ?_⟩⟩⟩
                    rw [ni_m1, show 12 * i + (a + 1) - 1 = 12 * i + a by omega, w1 a (by omega)]
                    refine iha _ (by omega) (by omega) (fun j hj => ?_) (fun j j1 j2 => ?_) (fun u hu => ?_) (g3.set (by decide) (by decide))
                    · rw [me_1s, if_neg (by omega)]; exact w1 j (by omega)
                    · rw [me_1s]
                      by_cases z : j = a
                      · rw [if_pos (by omega), z]
                      · rw [if_neg (by omega)]; exact w2 j (by omega) j2
                    · rw [me_1s, if_neg (by omega)]; exact w3 u hu
                refine hb19 _ _ _ ?_
                simp (maxSteps := 2000000) [bk_X7_make_0, bk_X7_make_8, bk_X7_make_19, bk_X7_make_65, bk_X7_make_119, bk_X7_make_179, bk_X7_make_185, pm_arr, pm_call, pm_e_c0, pm_e_c1, pm_e_cti, pm_e_ctl, pm_e_ctr, pm_e_go, pm_e_i, pm_e_ii, pm_e_ldi, pm_e_ldr, pm_e_lk, pm_e_r, pm_e_ri, pm_e_rii, pm_e_rm0, pm_e_rm1, pm_e_rs0, pm_e_rs1, pm_e_v1, pm_e_v2, pm_e_wp0, pm_e_wp1, pm_f2, pm_f3, pm_fld, pm_fv, pm_obj, pm_recv, pm_s_aload_n, pm_s_bastore, pm_s_bipush, pm_s_dup, pm_s_dup2, pm_s_getfield, pm_s_goto, pm_s_iadd, pm_s_iaload, pm_s_iand, pm_s_iastore, pm_s_iconst, pm_s_ifCond_le, pm_s_if_icmp_ge, pm_s_if_icmp_gt, pm_s_iinc, pm_s_iload, pm_s_iload_n, pm_s_imul, pm_s_invokevirtual, pm_s_irem, pm_s_ireturn, pm_s_istore, pm_s_istore_n, pm_s_isub, pm_s_iushr, pm_s_ldc, pm_s_putfield, pm_s_sipush, ct_X7_make, pS, pR, pC, pE, pL, -Int32.not_le, -Int32.not_lt, -Int64.not_le, -Int64.not_lt, -List.getD_eq_getElem?_getD, sy_0, sy_2, m0, m2]
                have en : q.1 * nI 1103515245 + nI 12345 = nxt q.1 := rfl
                have eu : q.1.toUInt32 * (nI 1103515245).toUInt32 + (nI 12345).toUInt32 = (nxt q.1).toUInt32 := by unfold nxt; rw [Int32.toUInt32_add, Int32.toUInt32_mul]
                rw [en, eu]
                dsimp only [pS, pR, pC] at h1 h2 ht hcol hC0
                rw [ni_le (by omega) (by omega), hcol, hbeh]
                refine ⟨fun h => by omega, fun _ => ⟨hC0, ?_⟩⟩
                rw [ni_in (by omega), ni_cl (by omega), hn]
                refine ⟨by omega, shf L.length M' (Nat.le_refl _) (Nat.le_add_right _ _) (fun j hj => ?_) (fun j j1 j2 => by omega) (fun _ _ => rfl) yfr.rfl⟩
                have := s1.c hi4 (j := j) (by rw [hLL]; exact hj)
                rw [hLL] at this; exact this
              · have ht : t = pS P := by omega
                subst ht
                have m0 := (hD1.mv f2 (by decide)).2.1
                refine hb19 _ _ _ ?_
                simp (maxSteps := 2000000) [bk_X7_make_0, bk_X7_make_8, bk_X7_make_19, bk_X7_make_65, bk_X7_make_119, bk_X7_make_179, bk_X7_make_185, pm_arr, pm_call, pm_e_c0, pm_e_c1, pm_e_cti, pm_e_ctl, pm_e_ctr, pm_e_go, pm_e_i, pm_e_ii, pm_e_ldi, pm_e_ldr, pm_e_lk, pm_e_r, pm_e_ri, pm_e_rii, pm_e_rm0, pm_e_rm1, pm_e_rs0, pm_e_rs1, pm_e_v1, pm_e_v2, pm_e_wp0, pm_e_wp1, pm_f2, pm_f3, pm_fld, pm_fv, pm_obj, pm_recv, pm_s_aload_n, pm_s_bastore, pm_s_bipush, pm_s_dup, pm_s_dup2, pm_s_getfield, pm_s_goto, pm_s_iadd, pm_s_iaload, pm_s_iand, pm_s_iastore, pm_s_iconst, pm_s_ifCond_le, pm_s_if_icmp_ge, pm_s_if_icmp_gt, pm_s_iinc, pm_s_iload, pm_s_iload_n, pm_s_imul, pm_s_invokevirtual, pm_s_irem, pm_s_ireturn, pm_s_istore, pm_s_istore_n, pm_s_isub, pm_s_iushr, pm_s_ldc, pm_s_putfield, pm_s_sipush, ct_X7_make, pS, pR, pC, pE, pL, -Int32.not_le, -Int32.not_lt, -Int64.not_le, -Int64.not_lt, -List.getD_eq_getElem?_getD, sy_0, m0]
                exact fin M' s1 s2 s3 f2
          exact inner (pS P) 0 M' (by omega) (by omega) s1 s2 s3 f2
    have eL0 : Lmk P 0 0 = fun _ => false := funext (fun n => Lmk_0 n)
    refine loop (pR P) 0 M1 (by omega) (by omega) (zs _) ?_ ?_ yfr.rfl
    · rw [eL0]; exact LdY.no zl
    · rw [eL0, z5]; rfl
  · exact hT.elim
