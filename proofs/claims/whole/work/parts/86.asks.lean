theorem LdX.congr {M : pm_M} {L L' : Nat → Bool} (h : LdX M L) (e : ∀ i, i < 13 → L i = L' i) : LdX M L' := by
  obtain ⟨x, a, b, c⟩ := h
  exact ⟨x, a, b, fun i hi => by rw [c i hi, e i hi]⟩
theorem Lmk_s {P : Pm} {k t : Nat} (hk : k < pR P) (ht : t < pS P) (n : Nat) : up (Lmk P k t) (t * pR P + (k + 1)) true n = Lmk P k (t + 1) n := by
  have hd := card_le (r := pR P) (k := k + 1) ht (by omega)
  by_cases z : n = t * pR P + (k + 1)
  · rw [z, up_s]; unfold Lmk
    rw [ra_of (by omega) (by omega), su_of (by omega) (by omega)]; simp; omega
  · rw [up_n _ _ z]
    by_cases n1 : 1 ≤ n
    · have hne : ¬ (ra (pR P) n = k + 1 ∧ su (pR P) n = t) := fun y => z (by rw [← su_ra (r := pR P) n1, y.1, y.2])
      unfold Lmk
      congr 2
      by_cases y : ra (pR P) n = k + 1
      · simp [y]; omega
      · simp [y]
    · unfold Lmk; simp [n1]
theorem Lmk_R {P : Pm} (hP : okP P) {k : Nat} (n : Nat) : Lmk P k (pS P) n = Lmk P (k + 1) 0 n := by
  unfold Lmk
  by_cases n1 : 1 ≤ n
  · by_cases n2 : n ≤ pS P * pR P
    · have := su_lt hP.2.2.1 n1 n2
      congr 1
      by_cases y : ra (pR P) n = k + 1
      · simp [y, this]
      · simp [y]; omega
    · simp [n2]
  · simp [n1]
theorem Lmk_E {P : Pm} (hP : okP P) (n : Nat) : Lmk P (pR P) 0 n = decide (1 ≤ n ∧ n ≤ pS P * pR P) := by
  have := ra_le (n := n) hP.2.2.1
  unfold Lmk
  simp [this]
theorem Lmk_0 {P : Pm} (n : Nat) : Lmk P 0 0 n = false := by
  have := ra_ge (r := pR P) (n := n)
  unfold Lmk; simp; omega
theorem nx_n (s : Int32) : ∃ u, u < 2 ^ 32 ∧ nxt s = nI u ∧ (nxt s).toBitVec.toNat = u := by
  obtain ⟨u, hu, e⟩ := wb_of32 (nxt s)
  refine ⟨u, hu, e, ?_⟩
  rw [e]; show (BitVec.ofNat 32 u).toNat = u
  rw [BitVec.toNat_ofNat, Nat.mod_eq_of_lt hu]
theorem nx_col {P : Pm} (hP : okP P) (s : Int32) : ((nxt s).toUInt32 >>> ((nI 16).toUInt32 &&& Int32.toUInt32 31)).toInt32 - ((nxt s).toUInt32 >>> ((nI 16).toUInt32 &&& Int32.toUInt32 31)).toInt32 / nI (pC P) * nI (pC P) = nI (mkc P s) := by
  obtain ⟨u, hu, e1, e2⟩ := nx_n s
  have h6 := hP.2.2.2.2.2.1
  have h7 := hP.2.2.2.2.2.2.1
  unfold mkc
  rw [e2, e1, ni_ushr hu (by decide), ni_rem (by omega) (by omega) (by omega)]
theorem nx_beh (s : Int32) : ((nxt s).toUInt32 >>> ((nI 8).toUInt32 &&& Int32.toUInt32 31)).toInt32 &&& nI 3 = nI (mkb s) := by
  obtain ⟨u, hu, e1, e2⟩ := nx_n s
  unfold mkb
  rw [e2, e1, ni_ushr hu (by decide), ni_a3 (by omega)]
def tt_X6_make : pm_T := fun args M k => match args with
  | [.ref 0, .int x] => ∃ A, okA A ∧ MX M A ∧ ∀ M', MX M' (fMake A x).2 → k (some (.int (fMake A x).1)) M'
  | _ => False
abbrev ct_X6_make : List pm_C := [(false, 61, 6, 1, none, tt_X6_emptyTable), (false, 80, 0, 3, (some .int), tt_X0_cardOf), (false, 112, 4, 4, none, tt_X4_insert), (false, 92, 1, 2, none, tt_X1_restart), (false, 68, 0, 1, (some .int), tt_X0_size)]
set_option maxHeartbeats 4000000 in
theorem sm_X6_make  : pm_Sem SHx yX6_make cX6_make 6 (some .int) 6 tt_X6_make := by
  refine pm_Sem_intro bl_X6_make ct_X6_make cs_X6_make rfl (List.forall_mem_cons.mpr ⟨⟨_, _, _, _, sm_X6_emptyTable, by decide, cm_X6_emptyTable, by decide +kernel⟩, List.forall_mem_cons.mpr ⟨⟨_, _, _, _, sm_X0_cardOf, by decide, cm_X0_cardOf, by decide +kernel⟩, List.forall_mem_cons.mpr ⟨⟨_, _, _, _, sm_X4_insert, by decide, cm_X4_insert, by decide +kernel⟩, List.forall_mem_cons.mpr ⟨⟨_, _, _, _, sm_X1_restart, by decide, cm_X1_restart, by decide +kernel⟩, List.forall_mem_cons.mpr ⟨⟨_, _, _, _, sm_X0_size, by decide, cm_X0_size, by decide +kernel⟩, fun _ h => absurd h List.not_mem_nil⟩⟩⟩⟩⟩) ck_X6_make (by decide +kernel) (by decide) ?_
  intro X k hX args M hT
  have hb0 := hX 0 bk_X6_make_0 (List.mem_of_getElem? (i := 0) rfl)
  have hb8 := hX 8 bk_X6_make_8 (List.mem_of_getElem? (i := 1) rfl)
  have hb22 := hX 22 bk_X6_make_22 (List.mem_of_getElem? (i := 2) rfl)
  have hb101 := hX 101 bk_X6_make_101 (List.mem_of_getElem? (i := 3) rfl)
  have hb107 := hX 107 bk_X6_make_107 (List.mem_of_getElem? (i := 4) rfl)
  clear hX
  unfold tt_X6_make at hT; split at hT
  · next x =>
    obtain ⟨A, hA, hM, hT⟩ := hT
    obtain ⟨hD, hS, hH, hL, hW, hQ, hPl, hTr⟩ := id hM
    have hP := hA.1
    obtain ⟨h1, h2, h3, h4, h5, h6, h7, h8, h9⟩ := id hP
    unfold fMake at hT
    generalize hPP : aP A = P at *
    refine ⟨by simp [lg_sl, Value.category], ?_⟩
    refine hb0 _ _ _ ?_
    simp (maxSteps := 2000000) [bk_X6_make_0, bk_X6_make_8, bk_X6_make_22, bk_X6_make_101, bk_X6_make_107, pm_call, pm_e_c0, pm_e_c1, pm_e_cti, pm_e_ctl, pm_e_ctr, pm_e_go, pm_e_i, pm_e_ii, pm_e_ldi, pm_e_ldr, pm_e_lk, pm_e_r, pm_e_rm0, pm_e_rm1, pm_e_rs0, pm_e_rs1, pm_e_v1, pm_e_wp0, pm_e_wp1, pm_f2, pm_f3, pm_fld, pm_fv, pm_obj, pm_recv, pm_s_aload_n, pm_s_bipush, pm_s_dup, pm_s_getfield, pm_s_goto, pm_s_iadd, pm_s_iand, pm_s_iconst, pm_s_if_icmp_ge, pm_s_if_icmp_gt, pm_s_iinc, pm_s_iload, pm_s_iload_n, pm_s_imul, pm_s_invokevirtual, pm_s_ior, pm_s_irem, pm_s_ireturn, pm_s_ishl, pm_s_istore, pm_s_istore_n, pm_s_iushr, pm_s_ldc, pm_s_putfield, pm_s_sipush, ct_X6_make, tt_X0_cardOf, tt_X0_size, pS, pR, pC, pE, pL, -Int32.not_le, -Int32.not_lt, -Int64.not_le, -Int64.not_lt, -List.getD_eq_getElem?_getD, lv_args, sx_0]
    refine ⟨P, hD, fun M1 q1 q2 q3 q4 q5 q6 f1 => ?_⟩
    simp (maxSteps := 2000000) [bk_X6_make_0, bk_X6_make_8, bk_X6_make_22, bk_X6_make_101, bk_X6_make_107, pm_call, pm_e_c0, pm_e_c1, pm_e_cti, pm_e_ctl, pm_e_ctr, pm_e_go, pm_e_i, pm_e_ii, pm_e_ldi, pm_e_ldr, pm_e_lk, pm_e_r, pm_e_rm0, pm_e_rm1, pm_e_rs0, pm_e_rs1, pm_e_v1, pm_e_wp0, pm_e_wp1, pm_f2, pm_f3, pm_fld, pm_fv, pm_obj, pm_recv, pm_s_aload_n, pm_s_bipush, pm_s_dup, pm_s_getfield, pm_s_goto, pm_s_iadd, pm_s_iand, pm_s_iconst, pm_s_if_icmp_ge, pm_s_if_icmp_gt, pm_s_iinc, pm_s_iload, pm_s_iload_n, pm_s_imul, pm_s_invokevirtual, pm_s_ior, pm_s_irem, pm_s_ireturn, pm_s_ishl, pm_s_istore, pm_s_istore_n, pm_s_iushr, pm_s_ldc, pm_s_putfield, pm_s_sipush, ct_X6_make, tt_X0_cardOf, tt_X0_size, pS, pR, pC, pE, pL, -Int32.not_le, -Int32.not_lt, -Int64.not_le, -Int64.not_lt, -List.getD_eq_getElem?_getD]
    have hD1 := hD.moved f1 (by decide)
    have hTr1 := trs_mv hTr f1 (by decide)
    have hQ1 : M1.1 0 9 = nI (aQ A) := by rw [q6]; exact hQ
    -- what stays
    have out : ∀ (M' : pm_M), SdX M' 5 (pE P) (mkR P x (pR P)).2 → LdX M' (Lmk P (pR P) 0) → M'.1 0 8 = nI 0 → M'.1 0 9 = nI (aQ A) → pm_fr [0, 5, 6, 7, 8, 9, 10] M1 M' → X 107 [(0, .ref 0)] [] M' := by
      intro M' s1 s2 s3 s4 f2
      refine hb107 _ _ _ ?_
      simp (maxSteps := 2000000) [bk_X6_make_0, bk_X6_make_8, bk_X6_make_22, bk_X6_make_101, bk_X6_make_107, pm_call, pm_e_c0, pm_e_c1, pm_e_cti, pm_e_ctl, pm_e_ctr, pm_e_go, pm_e_i, pm_e_ii, pm_e_ldi, pm_e_ldr, pm_e_lk, pm_e_r, pm_e_rm0, pm_e_rm1, pm_e_rs0, pm_e_rs1, pm_e_v1, pm_e_wp0, pm_e_wp1, pm_f2, pm_f3, pm_fld, pm_fv, pm_obj, pm_recv, pm_s_aload_n, pm_s_bipush, pm_s_dup, pm_s_getfield, pm_s_goto, pm_s_iadd, pm_s_iand, pm_s_iconst, pm_s_if_icmp_ge, pm_s_if_icmp_gt, pm_s_iinc, pm_s_iload, pm_s_iload_n, pm_s_imul, pm_s_invokevirtual, pm_s_ior, pm_s_irem, pm_s_ireturn, pm_s_ishl, pm_s_istore, pm_s_istore_n, pm_s_iushr, pm_s_ldc, pm_s_putfield, pm_s_sipush, ct_X6_make, tt_X0_cardOf, tt_X0_size, pS, pR, pC, pE, pL, -Int32.not_le, -Int32.not_lt, -Int64.not_le, -Int64.not_lt, -List.getD_eq_getElem?_getD, sx_0, sx_11]
      refine ⟨pE P, _, s1, (mk_WF hP x (ec := pE P)).t12 hP, fun M2 r1 f3 => ?_⟩
      have hD3 := (hD1.moved f2 (by decide)).moved f3 (by decide)
      have g1 := hD3.1.2.1.1
      have g2 := hD3.1.2.1.2.1
      simp (maxSteps := 2000000) [bk_X6_make_0, bk_X6_make_8, bk_X6_make_22, bk_X6_make_101, bk_X6_make_107, pm_call, pm_e_c0, pm_e_c1, pm_e_cti, pm_e_ctl, pm_e_ctr, pm_e_go, pm_e_i, pm_e_ii, pm_e_ldi, pm_e_ldr, pm_e_lk, pm_e_r, pm_e_rm0, pm_e_rm1, pm_e_rs0, pm_e_rs1, pm_e_v1, pm_e_wp0, pm_e_wp1, pm_f2, pm_f3, pm_fld, pm_fv, pm_obj, pm_recv, pm_s_aload_n, pm_s_bipush, pm_s_dup, pm_s_getfield, pm_s_goto, pm_s_iadd, pm_s_iand, pm_s_iconst, pm_s_if_icmp_ge, pm_s_if_icmp_gt, pm_s_iinc, pm_s_iload, pm_s_iload_n, pm_s_imul, pm_s_invokevirtual, pm_s_ior, pm_s_irem, pm_s_ireturn, pm_s_ishl, pm_s_istore, pm_s_istore_n, pm_s_iushr, pm_s_ldc, pm_s_putfield, pm_s_sipush, ct_X6_make, tt_X0_cardOf, tt_X0_size, pS, pR, pC, pE, pL, -Int32.not_le, -Int32.not_lt, -Int64.not_le, -Int64.not_lt, -List.getD_eq_getElem?_getD, sx_0, sx_1, g1, g2]
      rw [ni_mul]
      refine hT M2 ⟨hD3, s1.mv f3 (by decide), r1, (s2.mv f3 (by decide)).congr (fun i _ => Lmk_E hP i), ?_, ?_, ((PlX.nil q5).mv f2 (by decide) (by decide)).mv f3 (by decide) (by decide), trs_mv (trs_mv hTr1 f2 (by decide)) f3 (by decide)⟩
      · rw [f3.i (by decide)]; exact s3
      · rw [f3.i (by decide)]; exact s4
    have loop : ∀ (f r : Nat) (M' : pm_M), pR P ≤ r + f → r ≤ pR P → SdX M' 5 (pE P) (mkR P x r).2 → LdX M' (Lmk P r 0) → M'.1 0 8 = nI 0 → M'.1 0 9 = nI (aQ A) → pm_fr [0, 5, 6, 7, 8, 9, 10] M1 M' → X 8 [(0, .ref 0), (2, .int (mkR P x r).1), (3, .int (nI (r + 1)))] [] M' := by
      intro f
      induction f with
      | zero =>
        intro r M' e1 e2 s1 s2 s3 s4 f2
        have hr : r = pR P := by omega
        subst hr
        have hD2 := hD1.moved f2 (by decide)
        have m4 := hD2.1.2.1.2.1
        refine hb8 _ _ _ ?_
        simp (maxSteps := 2000000) [bk_X6_make_0, bk_X6_make_8, bk_X6_make_22, bk_X6_make_101, bk_X6_make_107, pm_call, pm_e_c0, pm_e_c1, pm_e_cti, pm_e_ctl, pm_e_ctr, pm_e_go, pm_e_i, pm_e_ii, pm_e_ldi, pm_e_ldr, pm_e_lk, pm_e_r, pm_e_rm0, pm_e_rm1, pm_e_rs0, pm_e_rs1, pm_e_v1, pm_e_wp0, pm_e_wp1, pm_f2, pm_f3, pm_fld, pm_fv, pm_obj, pm_recv, pm_s_aload_n, pm_s_bipush, pm_s_dup, pm_s_getfield, pm_s_goto, pm_s_iadd, pm_s_iand, pm_s_iconst, pm_s_if_icmp_ge, pm_s_if_icmp_gt, pm_s_iinc, pm_s_iload, pm_s_iload_n, pm_s_imul, pm_s_invokevirtual, pm_s_ior, pm_s_irem, pm_s_ireturn, pm_s_ishl, pm_s_istore, pm_s_istore_n, pm_s_iushr, pm_s_ldc, pm_s_putfield, pm_s_sipush, ct_X6_make, tt_X0_cardOf, tt_X0_size, pS, pR, pC, pE, pL, -Int32.not_le, -Int32.not_lt, -Int64.not_le, -Int64.not_lt, -List.getD_eq_getElem?_getD, sx_0, sx_1, m4]
        dsimp only [pR] at h3 h4
        simp (disch := omega) only [ni_in, ni_cl, ni_add, ni_mul, ni_sub, ni_lt, ni_le, ni_eq, ni_eq0, ni_lt0, ni_0le, ni_0lt, ni_le0, ni_a1, ni_a3, ni_a7, ni_a15]
        refine ⟨fun _ => out M' s1 s2 s3 s4 f2, fun h => by omega⟩
      | succ f ih =>
        intro r M' e1 e2 s1 s2 s3 s4 f2
        have hD2 := hD1.moved f2 (by decide)
        have m4 := hD2.1.2.1.2.1
        refine hb8 _ _ _ ?_
        simp (maxSteps := 2000000) [bk_X6_make_0, bk_X6_make_8, bk_X6_make_22, bk_X6_make_101, bk_X6_make_107, pm_call, pm_e_c0, pm_e_c1, pm_e_cti, pm_e_ctl, pm_e_ctr, pm_e_go, pm_e_i, pm_e_ii, pm_e_ldi, pm_e_ldr, pm_e_lk, pm_e_r, pm_e_rm0, pm_e_rm1, pm_e_rs0, pm_e_rs1, pm_e_v1, pm_e_wp0, pm_e_wp1, pm_f2, pm_f3, pm_fld, pm_fv, pm_obj, pm_recv, pm_s_aload_n, pm_s_bipush, pm_s_dup, pm_s_getfield, pm_s_goto, pm_s_iadd, pm_s_iand, pm_s_iconst, pm_s_if_icmp_ge, pm_s_if_icmp_gt, pm_s_iinc, pm_s_iload, pm_s_iload_n, pm_s_imul, pm_s_invokevirtual, pm_s_ior, pm_s_irem, pm_s_ireturn, pm_s_ishl, pm_s_istore, pm_s_istore_n, pm_s_iushr, pm_s_ldc, pm_s_putfield, pm_s_sipush, ct_X6_make, tt_X0_cardOf, tt_X0_size, pS, pR, pC, pE, pL, -Int32.not_le, -Int32.not_lt, -Int64.not_le, -Int64.not_lt, -List.getD_eq_getElem?_getD, sx_0, sx_1, m4]
        dsimp only [pR] at h3 h4 e1 e2
        simp (disch := omega) only [ni_in, ni_cl, ni_add, ni_mul, ni_sub, ni_lt, ni_le, ni_eq, ni_eq0, ni_lt0, ni_0le, ni_0lt, ni_le0, ni_a1, ni_a3, ni_a7, ni_a15]
        refine ⟨fun h => ?_, fun h => ?_⟩
        · have hr : r = pR P := by dsimp only [pR]; omega
          subst hr
          exact out M' s1 s2 s3 s4 f2
        · have hr : r < pR P := by dsimp only [pR]; omega
          have inner : ∀ (g t : Nat) (M' : pm_M), pS P ≤ t + g → t ≤ pS P → SdX M' 5 (pE P) (mkC P (mkR P x r) (r + 1) t).2 → LdX M' (Lmk P r t) → M'.1 0 8 = nI 0 → M'.1 0 9 = nI (aQ A) → pm_fr [0, 5, 6, 7, 8, 9, 10] M1 M' → X 22 [(0, .ref 0), (2, .int (mkC P (mkR P x r) (r + 1) t).1), (3, .int (nI (r + 1))), (4, .int (nI t))] [] M' := by
            intro g
            have fin : ∀ (M' : pm_M), SdX M' 5 (pE P) (mkC P (mkR P x r) (r + 1) (pS P)).2 → LdX M' (Lmk P r (pS P)) → M'.1 0 8 = nI 0 → M'.1 0 9 = nI (aQ A) → pm_fr [0, 5, 6, 7, 8, 9, 10] M1 M' → X 101 [(0, .ref 0), (2, .int (mkC P (mkR P x r) (r + 1) (pS P)).1), (3, .int (nI (r + 1)))] [] M' := by
              intro M' s1 s2 s3 s4 f2
              refine hb101 _ _ _ ?_
              simp (maxSteps := 2000000) [bk_X6_make_0, bk_X6_make_8, bk_X6_make_22, bk_X6_make_101, bk_X6_make_107, pm_call, pm_e_c0, pm_e_c1, pm_e_cti, pm_e_ctl, pm_e_ctr, pm_e_go, pm_e_i, pm_e_ii, pm_e_ldi, pm_e_ldr, pm_e_lk, pm_e_r, pm_e_rm0, pm_e_rm1, pm_e_rs0, pm_e_rs1, pm_e_v1, pm_e_wp0, pm_e_wp1, pm_f2, pm_f3, pm_fld, pm_fv, pm_obj, pm_recv, pm_s_aload_n, pm_s_bipush, pm_s_dup, pm_s_getfield, pm_s_goto, pm_s_iadd, pm_s_iand, pm_s_iconst, pm_s_if_icmp_ge, pm_s_if_icmp_gt, pm_s_iinc, pm_s_iload, pm_s_iload_n, pm_s_imul, pm_s_invokevirtual, pm_s_ior, pm_s_irem, pm_s_ireturn, pm_s_ishl, pm_s_istore, pm_s_istore_n, pm_s_iushr, pm_s_ldc, pm_s_putfield, pm_s_sipush, ct_X6_make, tt_X0_cardOf, tt_X0_size, pS, pR, pC, pE, pL, -Int32.not_le, -Int32.not_lt, -Int64.not_le, -Int64.not_lt, -List.getD_eq_getElem?_getD]
              rw [ni_add]
              exact ih (r + 1) M' (by dsimp only [pR]; omega) (by omega) s1 (s2.congr (fun i _ => Lmk_R hP i)) s3 s4 f2
            induction g with
            | zero =>
              intro t M' e1 e2 s1 s2 s3 s4 f2
              have ht : t = pS P := by omega
              subst ht
              have hD2 := hD1.moved f2 (by decide)
              have m3 := hD2.1.2.1.1
              refine hb22 _ _ _ ?_
              simp (maxSteps := 2000000) [bk_X6_make_0, bk_X6_make_8, bk_X6_make_22, bk_X6_make_101, bk_X6_make_107, pm_call, pm_e_c0, pm_e_c1, pm_e_cti, pm_e_ctl, pm_e_ctr, pm_e_go, pm_e_i, pm_e_ii, pm_e_ldi, pm_e_ldr, pm_e_lk, pm_e_r, pm_e_rm0, pm_e_rm1, pm_e_rs0, pm_e_rs1, pm_e_v1, pm_e_wp0, pm_e_wp1, pm_f2, pm_f3, pm_fld, pm_fv, pm_obj, pm_recv, pm_s_aload_n, pm_s_bipush, pm_s_dup, pm_s_getfield, pm_s_goto, pm_s_iadd, pm_s_iand, pm_s_iconst, pm_s_if_icmp_ge, pm_s_if_icmp_gt, pm_s_iinc, pm_s_iload, pm_s_iload_n, pm_s_imul, pm_s_invokevirtual, pm_s_ior, pm_s_irem, pm_s_ireturn, pm_s_ishl, pm_s_istore, pm_s_istore_n, pm_s_iushr, pm_s_ldc, pm_s_putfield, pm_s_sipush, ct_X6_make, tt_X0_cardOf, tt_X0_size, pS, pR, pC, pE, pL, -Int32.not_le, -Int32.not_lt, -Int64.not_le, -Int64.not_lt, -List.getD_eq_getElem?_getD, sx_0, sx_1, m3]
              exact fin M' s1 s2 s3 s4 f2
            | succ g ihg =>
              intro t M' e1 e2 s1 s2 s3 s4 f2
              by_cases ht : t < pS P
              · have hD2 := hD1.moved f2 (by decide)
                have m3 := hD2.1.2.1.1
                have m4 := hD2.1.2.1.2.1
                have m5 := hD2.1.2.1.2.2.1
                have hd := card_le (r := pR P) (k := r + 1) ht (by omega)
                have hd12 : t * pR P + (r + 1) ≤ 12 := by omega
                have ecd : (nI t * nI (pR P) + nI (r + 1)) &&& nI 15 = nI (t * pR P + (r + 1)) := by
                  rw [ni_mul, ni_add, ni_a15 (by omega), Nat.mod_eq_of_lt (by omega)]
                have hw0 := mk_C hP hr (mk_R (ec := pE P) hP x r (by omega)) t (by omega)
                have hroom := hw0.room hP (show 1 ≤ t * pR P + (r + 1) by omega) hd (Lmk_no hr ht)
                have hmc := mkc_lt hP (mkC P (mkR P x r) (r + 1) t).1
                have hcol := nx_col hP (mkC P (mkR P x r) (r + 1) t).1
                have hbeh := nx_beh (mkC P (mkR P x r) (r + 1) t).1
                have hbl : mkb (mkC P (mkR P x r) (r + 1) t).1 < 4 := Nat.mod_lt _ (by decide)
                have hC0 : ¬ nI (pC P) = 0 := by rw [ni_eq0 (by omega)]; omega
                have hsucc : mkC P (mkR P x r) (r + 1) (t + 1) = mk1 P (mkC P (mkR P x r) (r + 1) t) (t * pR P + (r + 1)) := rfl
                unfold mk1 at hsucc
                generalize mkC P (mkR P x r) (r + 1) t = q at *
                refine hb22 _ _ _ ?_
                simp (maxSteps := 2000000) [bk_X6_make_0, bk_X6_make_8, bk_X6_make_22, bk_X6_make_101, bk_X6_make_107, pm_call, pm_e_c0, pm_e_c1, pm_e_cti, pm_e_ctl, pm_e_ctr, pm_e_go, pm_e_i, pm_e_ii, pm_e_ldi, pm_e_ldr, pm_e_lk, pm_e_r, pm_e_rm0, pm_e_rm1, pm_e_rs0, pm_e_rs1, pm_e_v1, pm_e_wp0, pm_e_wp1, pm_f2, pm_f3, pm_fld, pm_fv, pm_obj, pm_recv, pm_s_aload_n, pm_s_bipush, pm_s_dup, pm_s_getfield, pm_s_goto, pm_s_iadd, pm_s_iand, pm_s_iconst, pm_s_if_icmp_ge, pm_s_if_icmp_gt, pm_s_iinc, pm_s_iload, pm_s_iload_n, pm_s_imul, pm_s_invokevirtual, pm_s_ior, pm_s_irem, pm_s_ireturn, pm_s_ishl, pm_s_istore, pm_s_istore_n, pm_s_iushr, pm_s_ldc, pm_s_putfield, pm_s_sipush, ct_X6_make, tt_X0_cardOf, tt_X0_size, pS, pR, pC, pE, pL, -Int32.not_le, -Int32.not_lt, -Int64.not_le, -Int64.not_lt, -List.getD_eq_getElem?_getD, sx_0, sx_1, sx_5, m3, m4, m5]
                have en : q.1 * nI 1103515245 + nI 12345 = nxt q.1 := rfl
                rw [en]
                dsimp only [pS, pR, pC] at h1 h2 h3 h4 ht ecd hcol hC0 hd
                rw [ni_le (by omega) (by omega)]
                refine ⟨fun h => by omega, fun _ => ⟨hC0, ?_⟩⟩
                have eu : q.1.toUInt32 * (nI 1103515245).toUInt32 + (nI 12345).toUInt32 = (nxt q.1).toUInt32 := by unfold nxt; rw [Int32.toUInt32_add, Int32.toUInt32_mul]
                rw [eu, ecd, hcol, hbeh]
                refine ⟨pE P, q.2, mkc P q.1, t * pR P + (r + 1), mkb q.1, Or.inl rfl, rfl, rfl, rfl, s1, by omega, ⟨by omega, hd12⟩, by have := len_tot q.2 (show mkc P q.1 < 4 by omega); omega, by omega, fun M2 r1 f3 => ?_⟩
                have f3' : pm_fr [5, 6, 7, 8, 9, 10] M' M2 := f3
                simp (maxSteps := 2000000) [bk_X6_make_0, bk_X6_make_8, bk_X6_make_22, bk_X6_make_101, bk_X6_make_107, pm_call, pm_e_c0, pm_e_c1, pm_e_cti, pm_e_ctl, pm_e_ctr, pm_e_go, pm_e_i, pm_e_ii, pm_e_ldi, pm_e_ldr, pm_e_lk, pm_e_r, pm_e_rm0, pm_e_rm1, pm_e_rs0, pm_e_rs1, pm_e_v1, pm_e_wp0, pm_e_wp1, pm_f2, pm_f3, pm_fld, pm_fv, pm_obj, pm_recv, pm_s_aload_n, pm_s_bipush, pm_s_dup, pm_s_getfield, pm_s_goto, pm_s_iadd, pm_s_iand, pm_s_iconst, pm_s_if_icmp_ge, pm_s_if_icmp_gt, pm_s_iinc, pm_s_iload, pm_s_iload_n, pm_s_imul, pm_s_invokevirtual, pm_s_ior, pm_s_irem, pm_s_ireturn, pm_s_ishl, pm_s_istore, pm_s_istore_n, pm_s_iushr, pm_s_ldc, pm_s_putfield, pm_s_sipush, ct_X6_make, tt_X0_cardOf, tt_X0_size, pS, pR, pC, pE, pL, -Int32.not_le, -Int32.not_lt, -Int64.not_le, -Int64.not_lt, -List.getD_eq_getElem?_getD, sx_0]
                rw [ni_add]
                have f4 : pm_fr [0] M2 (pm_set M2 0 7 (M2.1 0 7 ||| (nI 1 <<< (nI (t * pR P + (r + 1)) &&& 31)))) := pm_fr.rfl.set (by decide)
                have e7 : (pm_set M2 0 7 (M2.1 0 7 ||| (nI 1 <<< (nI (t * pR P + (r + 1)) &&& 31)))).1 0 7 = M'.1 0 7 ||| (nI 1 <<< (nI (t * pR P + (r + 1)) &&& 31)) := by rw [me_1s, if_pos rfl, f3'.i (by decide)]
                have e8 : (pm_set M2 0 7 (M2.1 0 7 ||| (nI 1 <<< (nI (t * pR P + (r + 1)) &&& 31)))).1 0 8 = nI 0 := by rw [me_1s, if_neg (by decide), f3'.i (by decide)]; exact s3
                have e9 : (pm_set M2 0 7 (M2.1 0 7 ||| (nI 1 <<< (nI (t * pR P + (r + 1)) &&& 31)))).1 0 9 = nI (aQ A) := by rw [me_1s, if_neg (by decide), f3'.i (by decide)]; exact s4
                have := ihg (t + 1) _ (by omega) (by dsimp only [pS]; omega) ?_ ?_ e8 e9 ((f2.trans (f3'.mono (by decide))).trans (f4.mono (by decide)))
                · rw [hsucc] at this; exact this
                · rw [hsucc]; exact r1.moved f4 (by decide)
                · exact (s2.set (Nat.lt_succ_of_le hd12) e7).congr (fun i _ => Lmk_s hr ht i)
              · have ht : t = pS P := by omega
                subst ht
                have hD2 := hD1.moved f2 (by decide)
                have m3 := hD2.1.2.1.1
                refine hb22 _ _ _ ?_
                simp (maxSteps := 2000000) [bk_X6_make_0, bk_X6_make_8, bk_X6_make_22, bk_X6_make_101, bk_X6_make_107, pm_call, pm_e_c0, pm_e_c1, pm_e_cti, pm_e_ctl, pm_e_ctr, pm_e_go, pm_e_i, pm_e_ii, pm_e_ldi, pm_e_ldr, pm_e_lk, pm_e_r, pm_e_rm0, pm_e_rm1, pm_e_rs0, pm_e_rs1, pm_e_v1, pm_e_wp0, pm_e_wp1, pm_f2, pm_f3, pm_fld, pm_fv, pm_obj, pm_recv, pm_s_aload_n, pm_s_bipush, pm_s_dup, pm_s_getfield, pm_s_goto, pm_s_iadd, pm_s_iand, pm_s_iconst, pm_s_if_icmp_ge, pm_s_if_icmp_gt, pm_s_iinc, pm_s_iload, pm_s_iload_n, pm_s_imul, pm_s_invokevirtual, pm_s_ior, pm_s_irem, pm_s_ireturn, pm_s_ishl, pm_s_istore, pm_s_istore_n, pm_s_iushr, pm_s_ldc, pm_s_putfield, pm_s_sipush, ct_X6_make, tt_X0_cardOf, tt_X0_size, pS, pR, pC, pE, pL, -Int32.not_le, -Int32.not_lt, -Int64.not_le, -Int64.not_lt, -List.getD_eq_getElem?_getD, sx_0, sx_1, m3]
                exact fin M' s1 s2 s3 s4 f2
          exact inner (pS P) 0 M' (by omega) (by omega) s1 s2 s3 s4 f2
    exact loop (pR P) 0 M1 (by omega) (by omega) q1 ((LdX.no q3).congr (fun i _ => (Lmk_0 i).symm)) q4 hQ1 pm_fr.rfl
  · exact hT.elim
