theorem CZ.skip {P : Pm} {ec : Nat} {S0 : St} {m d lo hi i c : Nat} {Z : Zs} (h : CZ P ec S0 m d lo hi i c Z) (hi' : i < hi) {c' : Nat} (hcc : c ≤ c') (hc : ∀ x, c ≤ x → x < c' → canN P ec (zR Z i) (x / 8) (x % 8) = false) : CZ P ec S0 m d lo hi i c' Z := ⟨h.1.skip hc, h.2.1.old hi' hcc, h.2.2⟩
theorem CZ.next {P : Pm} {ec : Nat} {S0 : St} {m d lo hi i : Nat} {Z : Zs} (hP : okP P) (he : ec ≤ 2) (h : CZ P ec S0 m d lo hi i 48 Z) (hi' : i < hi) : CZ P ec S0 m d lo hi (i + 1) 0 Z := ⟨h.1.next hP he (by omega) hi', h.2.1.next hP he (by omega), h.2.2⟩
theorem CZ.level {P : Pm} {ec : Nat} {S0 : St} {m d lo hi : Nat} {Z : Zs} (hP : okP P) (he : ec ≤ 2) (h0 : FW P ec S0) (h : CZ P ec S0 m d lo hi hi 0 Z) (hs : zs Z = false) : CZ P ec S0 m (d + 1) hi (zn Z) hi 0 Z := by
  obtain ⟨a, b, c⟩ := h
  rw [hs] at a
  refine ⟨?_, b.level hP he h0 a, c⟩
  rw [hs]; exact a.level hP he h0
theorem can_car {P : Pm} {ec : Nat} {S : St} {a b : Nat} (h : cardF S a = 0) : canN P ec S a b = false := by
  cases q : canN P ec S a b with
  | false => rfl
  | true => exact absurd h (can_nm q).2.1
theorem can_b {P : Pm} (hP : okP P) {ec : Nat} {S : St} {a b : Nat} (h : 6 ≤ b) : canN P ec S a b = false := by
  cases q : canN P ec S a b with
  | false => rfl
  | true => have := can_b6 hP q; omega
def tt_X3_leadsToEnd : pm_T := fun args M k => match args with
  | [.ref 28, .int x] => ∃ P ec S0 m d lo hi i Z, x = nI i ∧ okP P ∧ ec ≤ 2 ∧ FW P ec S0 ∧ CZ P ec S0 m d lo hi i 0 Z ∧ SZ M P m Z ∧ DkX M P ∧ M.1 32 6 = nI ec ∧ i < hi ∧
      (∀ M' Z' c, CZ P ec S0 m d lo hi i c Z' → SZ M' P m Z' → canN P ec (zR Z' i) (c / 8) (c % 8) = true → dnS P (aMv P ec (zR Z' i) (c / 8) (c % 8)) → M'.1 28 7 = nI i → M'.1 28 8 = nI c → pm_fr frS M M' → k (some (.int (nI 1))) M') ∧
      (∀ M' Z', CZ P ec S0 m d lo hi (i + 1) 0 Z' → SZ M' P m Z' → M'.1 32 6 = nI ec → pm_fr frS M M' → k (some (.int (nI 0))) M')
  | _ => False
abbrev ct_X3_leadsToEnd : List pm_C := [(false, 77, 4, 3, none, tt_X4_unpack), (false, 85, 4, 2, (some .int), tt_X4_cardFrom), (false, 89, 4, 3, (some .boolean), tt_X4_isNamed), (false, 93, 4, 3, (some .int), tt_X4_whyNot), (false, 96, 3, 4, (some .boolean), tt_X3_endsBy)]
set_option maxHeartbeats 4000000 in
theorem sm_X3_leadsToEnd  : pm_Sem SHx yX3_leadsToEnd cX3_leadsToEnd 6 (some .boolean) 5 tt_X3_leadsToEnd := by
  refine pm_Sem_intro bl_X3_leadsToEnd ct_X3_leadsToEnd cs_X3_leadsToEnd rfl (List.forall_mem_cons.mpr ⟨⟨_, _, _, _, sm_X4_unpack, by decide, cm_X4_unpack, by decide +kernel⟩, List.forall_mem_cons.mpr ⟨⟨_, _, _, _, sm_X4_cardFrom, by decide, cm_X4_cardFrom, by decide +kernel⟩, List.forall_mem_cons.mpr ⟨⟨_, _, _, _, sm_X4_isNamed, by decide, cm_X4_isNamed, by decide +kernel⟩, List.forall_mem_cons.mpr ⟨⟨_, _, _, _, sm_X4_whyNot, by decide, cm_X4_whyNot, by decide +kernel⟩, List.forall_mem_cons.mpr ⟨⟨_, _, _, _, sm_X3_endsBy, by decide, cm_X3_endsBy, by decide +kernel⟩, fun _ h => absurd h List.not_mem_nil⟩⟩⟩⟩⟩) ck_X3_leadsToEnd (by decide +kernel) (by decide) ?_
  intro X k hX args M hT
  have hb0 := hX 0 bk_X3_leadsToEnd_0 (List.mem_of_getElem? (i := 0) rfl)
  have hb29 := hX 29 bk_X3_leadsToEnd_29 (List.mem_of_getElem? (i := 1) rfl)
  have hb50 := hX 50 bk_X3_leadsToEnd_50 (List.mem_of_getElem? (i := 2) rfl)
  have hb51 := hX 51 bk_X3_leadsToEnd_51 (List.mem_of_getElem? (i := 3) rfl)
  have hb55 := hX 55 bk_X3_leadsToEnd_55 (List.mem_of_getElem? (i := 4) rfl)
  have hb96 := hX 96 bk_X3_leadsToEnd_96 (List.mem_of_getElem? (i := 5) rfl)
  have hb97 := hX 97 bk_X3_leadsToEnd_97 (List.mem_of_getElem? (i := 6) rfl)
  have hb117 := hX 117 bk_X3_leadsToEnd_117 (List.mem_of_getElem? (i := 7) rfl)
  have hb123 := hX 123 bk_X3_leadsToEnd_123 (List.mem_of_getElem? (i := 8) rfl)
  have hb129 := hX 129 bk_X3_leadsToEnd_129 (List.mem_of_getElem? (i := 9) rfl)
  clear hX
  unfold tt_X3_leadsToEnd at hT; split at hT
  · obtain ⟨P, ec, S0, m, d, lo, hi, i, Z, rfl, hP, he, h0, hC, hZ, hD, hcc, hi', hT1, hT2⟩ := hT
    have ha := hC.1.1
    have hz4 : m ≤ 4000 := hZ.1.2
    refine ⟨by simp [lg_sl, Value.category], ?_⟩
    -- over the places from which
    have loop : ∀ (f a : Nat) (M' : pm_M) (Z' : Zs), 6 ≤ a + f → a ≤ 6 → CZ P ec S0 m d lo hi i (8 * a) Z' → SZ M' P m Z' → SdX M' 32 ec (zR Z' i) → DkX M' P → pm_fr frS M M' → X 29 [(0, .ref 28), (1, .int (nI i)), (2, .int (nI a))] [] M' := by
      intro f
      have out : ∀ (M' : pm_M) (Z' : Zs), CZ P ec S0 m d lo hi i 48 Z' → SZ M' P m Z' → SdX M' 32 ec (zR Z' i) → pm_fr frS M M' → X 129 [] [] M' := by
        intro M' Z' q1 q2 q3 q4
        refine hb129 _ _ _ ?_
        simp (maxSteps := 2000000) [bk_X3_leadsToEnd_0, bk_X3_leadsToEnd_29, bk_X3_leadsToEnd_50, bk_X3_leadsToEnd_51, bk_X3_leadsToEnd_55, bk_X3_leadsToEnd_96, bk_X3_leadsToEnd_97, bk_X3_leadsToEnd_117, bk_X3_leadsToEnd_123, bk_X3_leadsToEnd_129, pm_arr, pm_call, pm_e_c0, pm_e_c1, pm_e_cti, pm_e_ctl, pm_e_ctr, pm_e_go, pm_e_i, pm_e_ii, pm_e_l, pm_e_ldi, pm_e_ldr, pm_e_li, pm_e_lk, pm_e_r, pm_e_ri, pm_e_rm0, pm_e_rm1, pm_e_rs0, pm_e_rs1, pm_e_wp0, pm_e_wp1, pm_f2, pm_f3, pm_fld, pm_fv, pm_obj, pm_recv, pm_s_aload_n, pm_s_bipush, pm_s_getfield, pm_s_goto, pm_s_iand, pm_s_iconst, pm_s_ifCond_eq, pm_s_ifCond_ne, pm_s_if_icmp_ge, pm_s_iinc, pm_s_iload, pm_s_iload_n, pm_s_invokevirtual, pm_s_ireturn, pm_s_istore, pm_s_istore_n, pm_s_l2i, pm_s_laload, pm_s_lushr, pm_s_sipush, ct_X3_leadsToEnd, pS, pR, pC, pE, pL, -Int32.not_le, -Int32.not_lt, -Int64.not_le, -Int64.not_lt, -List.getD_eq_getElem?_getD]
        exact ⟨Or.inl rfl, hT2 M' Z' (q1.next hP he hi') q2 q3.2.2.1 q4⟩
      induction f with
      | zero =>
        intro a M' Z' f1 f2 q1 q2 q3 q4 q5
        have e1 : a = 6 := by omega
        subst e1
        refine hb29 _ _ _ ?_
        simp (maxSteps := 2000000) [bk_X3_leadsToEnd_0, bk_X3_leadsToEnd_29, bk_X3_leadsToEnd_50, bk_X3_leadsToEnd_51, bk_X3_leadsToEnd_55, bk_X3_leadsToEnd_96, bk_X3_leadsToEnd_97, bk_X3_leadsToEnd_117, bk_X3_leadsToEnd_123, bk_X3_leadsToEnd_129, pm_arr, pm_call, pm_e_c0, pm_e_c1, pm_e_cti, pm_e_ctl, pm_e_ctr, pm_e_go, pm_e_i, pm_e_ii, pm_e_l, pm_e_ldi, pm_e_ldr, pm_e_li, pm_e_lk, pm_e_r, pm_e_ri, pm_e_rm0, pm_e_rm1, pm_e_rs0, pm_e_rs1, pm_e_wp0, pm_e_wp1, pm_f2, pm_f3, pm_fld, pm_fv, pm_obj, pm_recv, pm_s_aload_n, pm_s_bipush, pm_s_getfield, pm_s_goto, pm_s_iand, pm_s_iconst, pm_s_ifCond_eq, pm_s_ifCond_ne, pm_s_if_icmp_ge, pm_s_iinc, pm_s_iload, pm_s_iload_n, pm_s_invokevirtual, pm_s_ireturn, pm_s_istore, pm_s_istore_n, pm_s_l2i, pm_s_laload, pm_s_lushr, pm_s_sipush, ct_X3_leadsToEnd, pS, pR, pC, pE, pL, -Int32.not_le, -Int32.not_lt, -Int64.not_le, -Int64.not_lt, -List.getD_eq_getElem?_getD]
        exact out M' Z' q1 q2 q3 q5
      | succ f ih =>
        intro a M' Z' f1 f2 q1 q2 q3 q4 q5
        by_cases ha6 : a < 6
        · have hfw := (q1.1.2.1 i (by have := q1.1.1; omega)).1
          have hcl := cardF_le hfw.inDk ha6
          have hP5 := hP.2.2.2.2.1
          have h123 : ∀ (M' : pm_M) (Z' : Zs), CZ P ec S0 m d lo hi i (8 * a + 8) Z' → SZ M' P m Z' → SdX M' 32 ec (zR Z' i) → DkX M' P → pm_fr frS M M' → X 123 [(0, .ref 28), (1, .int (nI i)), (2, .int (nI a))] [] M' := by
            intro M' Z' r1 r2 r3 r4 r5
            refine hb123 _ _ _ ?_
            simp (maxSteps := 2000000) [bk_X3_leadsToEnd_0, bk_X3_leadsToEnd_29, bk_X3_leadsToEnd_50, bk_X3_leadsToEnd_51, bk_X3_leadsToEnd_55, bk_X3_leadsToEnd_96, bk_X3_leadsToEnd_97, bk_X3_leadsToEnd_117, bk_X3_leadsToEnd_123, bk_X3_leadsToEnd_129, pm_arr, pm_call, pm_e_c0, pm_e_c1, pm_e_cti, pm_e_ctl, pm_e_ctr, pm_e_go, pm_e_i, pm_e_ii, pm_e_l, pm_e_ldi, pm_e_ldr, pm_e_li, pm_e_lk, pm_e_r, pm_e_ri, pm_e_rm0, pm_e_rm1, pm_e_rs0, pm_e_rs1, pm_e_wp0, pm_e_wp1, pm_f2, pm_f3, pm_fld, pm_fv, pm_obj, pm_recv, pm_s_aload_n, pm_s_bipush, pm_s_getfield, pm_s_goto, pm_s_iand, pm_s_iconst, pm_s_ifCond_eq, pm_s_ifCond_ne, pm_s_if_icmp_ge, pm_s_iinc, pm_s_iload, pm_s_iload_n, pm_s_invokevirtual, pm_s_ireturn, pm_s_istore, pm_s_istore_n, pm_s_l2i, pm_s_laload, pm_s_lushr, pm_s_sipush, ct_X3_leadsToEnd, pS, pR, pC, pE, pL, -Int32.not_le, -Int32.not_lt, -Int64.not_le, -Int64.not_lt, -List.getD_eq_getElem?_getD]
            rw [ni_add]
            exact ih (a + 1) M' Z' (by omega) (by omega) (by rw [Nat.mul_add]; exact r1) r2 r3 r4 r5
          -- over the places to which
          have inner : ∀ (g b : Nat) (M' : pm_M) (Z' : Zs), 6 ≤ b + g → b ≤ 6 → CZ P ec S0 m d lo hi i (8 * a + b) Z' → SZ M' P m Z' → SdX M' 32 ec (zR Z' i) → DkX M' P → pm_fr frS M M' → X 55 [(0, .ref 28), (1, .int (nI i)), (2, .int (nI a)), (3, .int (nI 1)), (4, .int (nI b))] [] M' := by
            intro g
            have end6 : ∀ (M' : pm_M) (Z' : Zs), CZ P ec S0 m d lo hi i (8 * a + 6) Z' → SZ M' P m Z' → SdX M' 32 ec (zR Z' i) → DkX M' P → pm_fr frS M M' → X 123 [(0, .ref 28), (1, .int (nI i)), (2, .int (nI a))] [] M' := by
              intro M' Z' r1
              refine h123 M' Z' (r1.skip hi' (by omega) (fun x x1 x2 => can_b hP (by omega)))
            induction g with
            | zero =>
              intro b M' Z' g1 g2 r1 r2 r3 r4 r5
              have e1 : b = 6 := by omega
              subst e1
              refine hb55 _ _ _ ?_
              simp (maxSteps := 2000000) [bk_X3_leadsToEnd_0, bk_X3_leadsToEnd_29, bk_X3_leadsToEnd_50, bk_X3_leadsToEnd_51, bk_X3_leadsToEnd_55, bk_X3_leadsToEnd_96, bk_X3_leadsToEnd_97, bk_X3_leadsToEnd_117, bk_X3_leadsToEnd_123, bk_X3_leadsToEnd_129, pm_arr, pm_call, pm_e_c0, pm_e_c1, pm_e_cti, pm_e_ctl, pm_e_ctr, pm_e_go, pm_e_i, pm_e_ii, pm_e_l, pm_e_ldi, pm_e_ldr, pm_e_li, pm_e_lk, pm_e_r, pm_e_ri, pm_e_rm0, pm_e_rm1, pm_e_rs0, pm_e_rs1, pm_e_wp0, pm_e_wp1, pm_f2, pm_f3, pm_fld, pm_fv, pm_obj, pm_recv, pm_s_aload_n, pm_s_bipush, pm_s_getfield, pm_s_goto, pm_s_iand, pm_s_iconst, pm_s_ifCond_eq, pm_s_ifCond_ne, pm_s_if_icmp_ge, pm_s_iinc, pm_s_iload, pm_s_iload_n, pm_s_invokevirtual, pm_s_ireturn, pm_s_istore, pm_s_istore_n, pm_s_l2i, pm_s_laload, pm_s_lushr, pm_s_sipush, ct_X3_leadsToEnd, pS, pR, pC, pE, pL, -Int32.not_le, -Int32.not_lt, -Int64.not_le, -Int64.not_lt, -List.getD_eq_getElem?_getD]
              exact end6 M' Z' r1 r2 r3 r4 r5
            | succ g ihg =>
              intro b M' Z' g1 g2 r1 r2 r3 r4 r5
              by_cases hb6 : b < 6
              · have hfw' := (r1.1.2.1 i (by have := r1.1.1; omega)).1
                have m5 := r4.1.2.1.2.2.1
                have m6 := r3.2.2.1
                have enm := nmF_n hP (ec := ec) (a := a) (b := b) he (by omega) (by omega)
                have ew := whyF_le P ec (zR Z' i) a b
                have e8 : (8 * a + b) / 8 = a := by omega
                have e8' : (8 * a + b) % 8 = b := by omega
                have h117 : ∀ (M' : pm_M) (Z' : Zs), CZ P ec S0 m d lo hi i (8 * a + b + 1) Z' → SZ M' P m Z' → SdX M' 32 ec (zR Z' i) → DkX M' P → pm_fr frS M M' → X 117 [(0, .ref 28), (1, .int (nI i)), (2, .int (nI a)), (3, .int (nI 1)), (4, .int (nI b))] [] M' := by
                  intro M' Z' s1 s2 s3 s4 s5
                  refine hb117 _ _ _ ?_
                  simp (maxSteps := 2000000) [bk_X3_leadsToEnd_0, bk_X3_leadsToEnd_29, bk_X3_leadsToEnd_50, bk_X3_leadsToEnd_51, bk_X3_leadsToEnd_55, bk_X3_leadsToEnd_96, bk_X3_leadsToEnd_97, bk_X3_leadsToEnd_117, bk_X3_leadsToEnd_123, bk_X3_leadsToEnd_129, pm_arr, pm_call, pm_e_c0, pm_e_c1, pm_e_cti, pm_e_ctl, pm_e_ctr, pm_e_go, pm_e_i, pm_e_ii, pm_e_l, pm_e_ldi, pm_e_ldr, pm_e_li, pm_e_lk, pm_e_r, pm_e_ri, pm_e_rm0, pm_e_rm1, pm_e_rs0, pm_e_rs1, pm_e_wp0, pm_e_wp1, pm_f2, pm_f3, pm_fld, pm_fv, pm_obj, pm_recv, pm_s_aload_n, pm_s_bipush, pm_s_getfield, pm_s_goto, pm_s_iand, pm_s_iconst, pm_s_ifCond_eq, pm_s_ifCond_ne, pm_s_if_icmp_ge, pm_s_iinc, pm_s_iload, pm_s_iload_n, pm_s_invokevirtual, pm_s_ireturn, pm_s_istore, pm_s_istore_n, pm_s_l2i, pm_s_laload, pm_s_lushr, pm_s_sipush, ct_X3_leadsToEnd, pS, pR, pC, pE, pL, -Int32.not_le, -Int32.not_lt, -Int64.not_le, -Int64.not_lt, -List.getD_eq_getElem?_getD]
                  rw [ni_add]
                  exact ihg (b + 1) M' Z' (by omega) (by omega) s1 s2 s3 s4 s5
                have h96 : canN P ec (zR Z' i) a b = false → X 96 [(0, .ref 28), (1, .int (nI i)), (2, .int (nI a)), (3, .int (nI 1)), (4, .int (nI b))] [] M' := by
                  intro hcf
                  refine hb96 _ _ _ ?_
                  simp (maxSteps := 2000000) [bk_X3_leadsToEnd_0, bk_X3_leadsToEnd_29, bk_X3_leadsToEnd_50, bk_X3_leadsToEnd_51, bk_X3_leadsToEnd_55, bk_X3_leadsToEnd_96, bk_X3_leadsToEnd_97, bk_X3_leadsToEnd_117, bk_X3_leadsToEnd_123, bk_X3_leadsToEnd_129, pm_arr, pm_call, pm_e_c0, pm_e_c1, pm_e_cti, pm_e_ctl, pm_e_ctr, pm_e_go, pm_e_i, pm_e_ii, pm_e_l, pm_e_ldi, pm_e_ldr, pm_e_li, pm_e_lk, pm_e_r, pm_e_ri, pm_e_rm0, pm_e_rm1, pm_e_rs0, pm_e_rs1, pm_e_wp0, pm_e_wp1, pm_f2, pm_f3, pm_fld, pm_fv, pm_obj, pm_recv, pm_s_aload_n, pm_s_bipush, pm_s_getfield, pm_s_goto, pm_s_iand, pm_s_iconst, pm_s_ifCond_eq, pm_s_ifCond_ne, pm_s_if_icmp_ge, pm_s_iinc, pm_s_iload, pm_s_iload_n, pm_s_invokevirtual, pm_s_ireturn, pm_s_istore, pm_s_istore_n, pm_s_l2i, pm_s_laload, pm_s_lushr, pm_s_sipush, ct_X3_leadsToEnd, pS, pR, pC, pE, pL, -Int32.not_le, -Int32.not_lt, -Int64.not_le, -Int64.not_lt, -List.getD_eq_getElem?_getD]
                  refine hb97 _ _ _ ?_
                  simp (maxSteps := 2000000) [bk_X3_leadsToEnd_0, bk_X3_leadsToEnd_29, bk_X3_leadsToEnd_50, bk_X3_leadsToEnd_51, bk_X3_leadsToEnd_55, bk_X3_leadsToEnd_96, bk_X3_leadsToEnd_97, bk_X3_leadsToEnd_117, bk_X3_leadsToEnd_123, bk_X3_leadsToEnd_129, pm_arr, pm_call, pm_e_c0, pm_e_c1, pm_e_cti, pm_e_ctl, pm_e_ctr, pm_e_go, pm_e_i, pm_e_ii, pm_e_l, pm_e_ldi, pm_e_ldr, pm_e_li, pm_e_lk, pm_e_r, pm_e_ri, pm_e_rm0, pm_e_rm1, pm_e_rs0, pm_e_rs1, pm_e_wp0, pm_e_wp1, pm_f2, pm_f3, pm_fld, pm_fv, pm_obj, pm_recv, pm_s_aload_n, pm_s_bipush, pm_s_getfield, pm_s_goto, pm_s_iand, pm_s_iconst, pm_s_ifCond_eq, pm_s_ifCond_ne, pm_s_if_icmp_ge, pm_s_iinc, pm_s_iload, pm_s_iload_n, pm_s_invokevirtual, pm_s_ireturn, pm_s_istore, pm_s_istore_n, pm_s_l2i, pm_s_laload, pm_s_lushr, pm_s_sipush, ct_X3_leadsToEnd, pS, pR, pC, pE, pL, -Int32.not_le, -Int32.not_lt, -Int64.not_le, -Int64.not_lt, -List.getD_eq_getElem?_getD]
                  refine ⟨fun _ => h117 M' Z' (r1.skip hi' (by omega) (fun x x1 x2 => ?_)) r2 r3 r4 r5, fun h => absurd rfl h⟩
                  have : x = 8 * a + b := by omega
                  rw [this, e8, e8']; exact hcf
                refine hb55 _ _ _ ?_
                simp (maxSteps := 2000000) [bk_X3_leadsToEnd_0, bk_X3_leadsToEnd_29, bk_X3_leadsToEnd_50, bk_X3_leadsToEnd_51, bk_X3_leadsToEnd_55, bk_X3_leadsToEnd_96, bk_X3_leadsToEnd_97, bk_X3_leadsToEnd_117, bk_X3_leadsToEnd_123, bk_X3_leadsToEnd_129, pm_arr, pm_call, pm_e_c0, pm_e_c1, pm_e_cti, pm_e_ctl, pm_e_ctr, pm_e_go, pm_e_i, pm_e_ii, pm_e_l, pm_e_ldi, pm_e_ldr, pm_e_li, pm_e_lk, pm_e_r, pm_e_ri, pm_e_rm0, pm_e_rm1, pm_e_rs0, pm_e_rs1, pm_e_wp0, pm_e_wp1, pm_f2, pm_f3, pm_fld, pm_fv, pm_obj, pm_recv, pm_s_aload_n, pm_s_bipush, pm_s_getfield, pm_s_goto, pm_s_iand, pm_s_iconst, pm_s_ifCond_eq, pm_s_ifCond_ne, pm_s_if_icmp_ge, pm_s_iinc, pm_s_iload, pm_s_iload_n, pm_s_invokevirtual, pm_s_ireturn, pm_s_istore, pm_s_istore_n, pm_s_l2i, pm_s_laload, pm_s_lushr, pm_s_sipush, ct_X3_leadsToEnd, pS, pR, pC, pE, pL, -Int32.not_le, -Int32.not_lt, -Int64.not_le, -Int64.not_lt, -List.getD_eq_getElem?_getD, sx_28, sx_32]
                simp (disch := omega) only [ni_in, ni_cl, ni_add, ni_mul, ni_sub, ni_lt, ni_le, ni_eq, ni_eq0, ni_lt0, ni_0le, ni_0lt, ni_le0, ni_a1, ni_a3, ni_a7, ni_a15]
                refine ⟨fun h => absurd h (by decide), fun _ => ⟨fun h => by omega, fun _ => ?_⟩⟩
                refine ⟨Or.inr rfl, ?_⟩
                rw [m5, m6, enm]
                simp (maxSteps := 2000000) [bk_X3_leadsToEnd_0, bk_X3_leadsToEnd_29, bk_X3_leadsToEnd_50, bk_X3_leadsToEnd_51, bk_X3_leadsToEnd_55, bk_X3_leadsToEnd_96, bk_X3_leadsToEnd_97, bk_X3_leadsToEnd_117, bk_X3_leadsToEnd_123, bk_X3_leadsToEnd_129, pm_arr, pm_call, pm_e_c0, pm_e_c1, pm_e_cti, pm_e_ctl, pm_e_ctr, pm_e_go, pm_e_i, pm_e_ii, pm_e_l, pm_e_ldi, pm_e_ldr, pm_e_li, pm_e_lk, pm_e_r, pm_e_ri, pm_e_rm0, pm_e_rm1, pm_e_rs0, pm_e_rs1, pm_e_wp0, pm_e_wp1, pm_f2, pm_f3, pm_fld, pm_fv, pm_obj, pm_recv, pm_s_aload_n, pm_s_bipush, pm_s_getfield, pm_s_goto, pm_s_iand, pm_s_iconst, pm_s_ifCond_eq, pm_s_ifCond_ne, pm_s_if_icmp_ge, pm_s_iinc, pm_s_iload, pm_s_iload_n, pm_s_invokevirtual, pm_s_ireturn, pm_s_istore, pm_s_istore_n, pm_s_l2i, pm_s_laload, pm_s_lushr, pm_s_sipush, ct_X3_leadsToEnd, pS, pR, pC, pE, pL, -Int32.not_le, -Int32.not_lt, -Int64.not_le, -Int64.not_lt, -List.getD_eq_getElem?_getD, sx_28, sx_32, pb_eq0]
                refine ⟨fun hn => h96 (by unfold canN; rw [hn]; rfl), fun hn => ?_⟩
                refine ⟨ec, zR Z' i, P, a, b, Or.inr rfl, rfl, rfl, r3, r4, hfw'.inDk, ha6, hb6, ?_⟩
                simp (maxSteps := 2000000) [bk_X3_leadsToEnd_0, bk_X3_leadsToEnd_29, bk_X3_leadsToEnd_50, bk_X3_leadsToEnd_51, bk_X3_leadsToEnd_55, bk_X3_leadsToEnd_96, bk_X3_leadsToEnd_97, bk_X3_leadsToEnd_117, bk_X3_leadsToEnd_123, bk_X3_leadsToEnd_129, pm_arr, pm_call, pm_e_c0, pm_e_c1, pm_e_cti, pm_e_ctl, pm_e_ctr, pm_e_go, pm_e_i, pm_e_ii, pm_e_l, pm_e_ldi, pm_e_ldr, pm_e_li, pm_e_lk, pm_e_r, pm_e_ri, pm_e_rm0, pm_e_rm1, pm_e_rs0, pm_e_rs1, pm_e_wp0, pm_e_wp1, pm_f2, pm_f3, pm_fld, pm_fv, pm_obj, pm_recv, pm_s_aload_n, pm_s_bipush, pm_s_getfield, pm_s_goto, pm_s_iand, pm_s_iconst, pm_s_ifCond_eq, pm_s_ifCond_ne, pm_s_if_icmp_ge, pm_s_iinc, pm_s_iload, pm_s_iload_n, pm_s_invokevirtual, pm_s_ireturn, pm_s_istore, pm_s_istore_n, pm_s_l2i, pm_s_laload, pm_s_lushr, pm_s_sipush, ct_X3_leadsToEnd, pS, pR, pC, pE, pL, -Int32.not_le, -Int32.not_lt, -Int64.not_le, -Int64.not_lt, -List.getD_eq_getElem?_getD, sx_28]
                simp (disch := omega) only [ni_in, ni_cl, ni_add, ni_mul, ni_sub, ni_lt, ni_le, ni_eq, ni_eq0, ni_lt0, ni_0le, ni_0lt, ni_le0, ni_a1, ni_a3, ni_a7, ni_a15]
                refine ⟨fun hw => h96 (by unfold canN; rw [decide_eq_false hw, Bool.and_false]), fun hw => ?_⟩
                have hcan : canN P ec (zR Z' i) a b = true := by unfold canN; rw [hn, hw]; rfl
                refine hb97 _ _ _ ?_
                simp (maxSteps := 2000000) [bk_X3_leadsToEnd_0, bk_X3_leadsToEnd_29, bk_X3_leadsToEnd_50, bk_X3_leadsToEnd_51, bk_X3_leadsToEnd_55, bk_X3_leadsToEnd_96, bk_X3_leadsToEnd_97, bk_X3_leadsToEnd_117, bk_X3_leadsToEnd_123, bk_X3_leadsToEnd_129, pm_arr, pm_call, pm_e_c0, pm_e_c1, pm_e_cti, pm_e_ctl, pm_e_ctr, pm_e_go, pm_e_i, pm_e_ii, pm_e_l, pm_e_ldi, pm_e_ldr, pm_e_li, pm_e_lk, pm_e_r, pm_e_ri, pm_e_rm0, pm_e_rm1, pm_e_rs0, pm_e_rs1, pm_e_wp0, pm_e_wp1, pm_f2, pm_f3, pm_fld, pm_fv, pm_obj, pm_recv, pm_s_aload_n, pm_s_bipush, pm_s_getfield, pm_s_goto, pm_s_iand, pm_s_iconst, pm_s_ifCond_eq, pm_s_ifCond_ne, pm_s_if_icmp_ge, pm_s_iinc, pm_s_iload, pm_s_iload_n, pm_s_invokevirtual, pm_s_ireturn, pm_s_istore, pm_s_istore_n, pm_s_l2i, pm_s_laload, pm_s_lushr, pm_s_sipush, ct_X3_leadsToEnd, pS, pR, pC, pE, pL, -Int32.not_le, -Int32.not_lt, -Int64.not_le, -Int64.not_lt, -List.getD_eq_getElem?_getD, sx_28]
                refine ⟨fun h => absurd h (by decide), fun _ => ?_⟩
                refine ⟨P, ec, S0, m, d, lo, hi, i, a, b, Z', rfl, rfl, rfl, hP, he, h0, r1, r2, r4, r3, hi', hb6, hcan, fun hdn M2 s1 s2 s3 s4 s5 => ?_, fun hdn M2 Z2 s1 s2 s3 s4 => ?_⟩
                · simp (maxSteps := 2000000) [bk_X3_leadsToEnd_0, bk_X3_leadsToEnd_29, bk_X3_leadsToEnd_50, bk_X3_leadsToEnd_51, bk_X3_leadsToEnd_55, bk_X3_leadsToEnd_96, bk_X3_leadsToEnd_97, bk_X3_leadsToEnd_117, bk_X3_leadsToEnd_123, bk_X3_leadsToEnd_129, pm_arr, pm_call, pm_e_c0, pm_e_c1, pm_e_cti, pm_e_ctl, pm_e_ctr, pm_e_go, pm_e_i, pm_e_ii, pm_e_l, pm_e_ldi, pm_e_ldr, pm_e_li, pm_e_lk, pm_e_r, pm_e_ri, pm_e_rm0, pm_e_rm1, pm_e_rs0, pm_e_rs1, pm_e_wp0, pm_e_wp1, pm_f2, pm_f3, pm_fld, pm_fv, pm_obj, pm_recv, pm_s_aload_n, pm_s_bipush, pm_s_getfield, pm_s_goto, pm_s_iand, pm_s_iconst, pm_s_ifCond_eq, pm_s_ifCond_ne, pm_s_if_icmp_ge, pm_s_iinc, pm_s_iload, pm_s_iload_n, pm_s_invokevirtual, pm_s_ireturn, pm_s_istore, pm_s_istore_n, pm_s_l2i, pm_s_laload, pm_s_lushr, pm_s_sipush, ct_X3_leadsToEnd, pS, pR, pC, pE, pL, -Int32.not_le, -Int32.not_lt, -Int64.not_le, -Int64.not_lt, -List.getD_eq_getElem?_getD]
                  refine ⟨fun h => absurd h (by decide), fun _ => ⟨Or.inr rfl, ?_⟩⟩
                  exact hT1 M2 Z' (8 * a + b) r1 s1 (by rw [e8, e8']; exact hcan) (by rw [e8, e8']; exact hdn) s3 s4 (r5.trans s5)
                · simp (maxSteps := 2000000) [bk_X3_leadsToEnd_0, bk_X3_leadsToEnd_29, bk_X3_leadsToEnd_50, bk_X3_leadsToEnd_51, bk_X3_leadsToEnd_55, bk_X3_leadsToEnd_96, bk_X3_leadsToEnd_97, bk_X3_leadsToEnd_117, bk_X3_leadsToEnd_123, bk_X3_leadsToEnd_129, pm_arr, pm_call, pm_e_c0, pm_e_c1, pm_e_cti, pm_e_ctl, pm_e_ctr, pm_e_go, pm_e_i, pm_e_ii, pm_e_l, pm_e_ldi, pm_e_ldr, pm_e_li, pm_e_lk, pm_e_r, pm_e_ri, pm_e_rm0, pm_e_rm1, pm_e_rs0, pm_e_rs1, pm_e_wp0, pm_e_wp1, pm_f2, pm_f3, pm_fld, pm_fv, pm_obj, pm_recv, pm_s_aload_n, pm_s_bipush, pm_s_getfield, pm_s_goto, pm_s_iand, pm_s_iconst, pm_s_ifCond_eq, pm_s_ifCond_ne, pm_s_if_icmp_ge, pm_s_iinc, pm_s_iload, pm_s_iload_n, pm_s_invokevirtual, pm_s_ireturn, pm_s_istore, pm_s_istore_n, pm_s_l2i, pm_s_laload, pm_s_lushr, pm_s_sipush, ct_X3_leadsToEnd, pS, pR, pC, pE, pL, -Int32.not_le, -Int32.not_lt, -Int64.not_le, -Int64.not_lt, -List.getD_eq_getElem?_getD]
                  refine ⟨fun _ => ?_, fun h => absurd rfl h⟩
                  exact h117 M2 Z2 s1 s2 s3 (r4.moved s4 (by decide)) (r5.trans s4)
              · have e1 : b = 6 := by omega
                subst e1
                refine hb55 _ _ _ ?_
                simp (maxSteps := 2000000) [bk_X3_leadsToEnd_0, bk_X3_leadsToEnd_29, bk_X3_leadsToEnd_50, bk_X3_leadsToEnd_51, bk_X3_leadsToEnd_55, bk_X3_leadsToEnd_96, bk_X3_leadsToEnd_97, bk_X3_leadsToEnd_117, bk_X3_leadsToEnd_123, bk_X3_leadsToEnd_129, pm_arr, pm_call, pm_e_c0, pm_e_c1, pm_e_cti, pm_e_ctl, pm_e_ctr, pm_e_go, pm_e_i, pm_e_ii, pm_e_l, pm_e_ldi, pm_e_ldr, pm_e_li, pm_e_lk, pm_e_r, pm_e_ri, pm_e_rm0, pm_e_rm1, pm_e_rs0, pm_e_rs1, pm_e_wp0, pm_e_wp1, pm_f2, pm_f3, pm_fld, pm_fv, pm_obj, pm_recv, pm_s_aload_n, pm_s_bipush, pm_s_getfield, pm_s_goto, pm_s_iand, pm_s_iconst, pm_s_ifCond_eq, pm_s_ifCond_ne, pm_s_if_icmp_ge, pm_s_iinc, pm_s_iload, pm_s_iload_n, pm_s_invokevirtual, pm_s_ireturn, pm_s_istore, pm_s_istore_n, pm_s_l2i, pm_s_laload, pm_s_lushr, pm_s_sipush, ct_X3_leadsToEnd, pS, pR, pC, pE, pL, -Int32.not_le, -Int32.not_lt, -Int64.not_le, -Int64.not_lt, -List.getD_eq_getElem?_getD]
                exact end6 M' Z' r1 r2 r3 r4 r5
          refine hb29 _ _ _ ?_
          simp (maxSteps := 2000000) [bk_X3_leadsToEnd_0, bk_X3_leadsToEnd_29, bk_X3_leadsToEnd_50, bk_X3_leadsToEnd_51, bk_X3_leadsToEnd_55, bk_X3_leadsToEnd_96, bk_X3_leadsToEnd_97, bk_X3_leadsToEnd_117, bk_X3_leadsToEnd_123, bk_X3_leadsToEnd_129, pm_arr, pm_call, pm_e_c0, pm_e_c1, pm_e_cti, pm_e_ctl, pm_e_ctr, pm_e_go, pm_e_i, pm_e_ii, pm_e_l, pm_e_ldi, pm_e_ldr, pm_e_li, pm_e_lk, pm_e_r, pm_e_ri, pm_e_rm0, pm_e_rm1, pm_e_rs0, pm_e_rs1, pm_e_wp0, pm_e_wp1, pm_f2, pm_f3, pm_fld, pm_fv, pm_obj, pm_recv, pm_s_aload_n, pm_s_bipush, pm_s_getfield, pm_s_goto, pm_s_iand, pm_s_iconst, pm_s_ifCond_eq, pm_s_ifCond_ne, pm_s_if_icmp_ge, pm_s_iinc, pm_s_iload, pm_s_iload_n, pm_s_invokevirtual, pm_s_ireturn, pm_s_istore, pm_s_istore_n, pm_s_l2i, pm_s_laload, pm_s_lushr, pm_s_sipush, ct_X3_leadsToEnd, pS, pR, pC, pE, pL, -Int32.not_le, -Int32.not_lt, -Int64.not_le, -Int64.not_lt, -List.getD_eq_getElem?_getD, sx_28, sx_32]
          simp (disch := omega) only [ni_in, ni_cl, ni_add, ni_mul, ni_sub, ni_lt, ni_le, ni_eq, ni_eq0, ni_lt0, ni_0le, ni_0lt, ni_le0, ni_a1, ni_a3, ni_a7, ni_a15]
          refine ⟨fun h => by omega, fun _ => ⟨ec, zR Z' i, a, Or.inr rfl, rfl, q3, ha6, ?_⟩⟩
          simp (maxSteps := 2000000) [bk_X3_leadsToEnd_0, bk_X3_leadsToEnd_29, bk_X3_leadsToEnd_50, bk_X3_leadsToEnd_51, bk_X3_leadsToEnd_55, bk_X3_leadsToEnd_96, bk_X3_leadsToEnd_97, bk_X3_leadsToEnd_117, bk_X3_leadsToEnd_123, bk_X3_leadsToEnd_129, pm_arr, pm_call, pm_e_c0, pm_e_c1, pm_e_cti, pm_e_ctl, pm_e_ctr, pm_e_go, pm_e_i, pm_e_ii, pm_e_l, pm_e_ldi, pm_e_ldr, pm_e_li, pm_e_lk, pm_e_r, pm_e_ri, pm_e_rm0, pm_e_rm1, pm_e_rs0, pm_e_rs1, pm_e_wp0, pm_e_wp1, pm_f2, pm_f3, pm_fld, pm_fv, pm_obj, pm_recv, pm_s_aload_n, pm_s_bipush, pm_s_getfield, pm_s_goto, pm_s_iand, pm_s_iconst, pm_s_ifCond_eq, pm_s_ifCond_ne, pm_s_if_icmp_ge, pm_s_iinc, pm_s_iload, pm_s_iload_n, pm_s_invokevirtual, pm_s_ireturn, pm_s_istore, pm_s_istore_n, pm_s_l2i, pm_s_laload, pm_s_lushr, pm_s_sipush, ct_X3_leadsToEnd, pS, pR, pC, pE, pL, -Int32.not_le, -Int32.not_lt, -Int64.not_le, -Int64.not_lt, -List.getD_eq_getElem?_getD]
          simp (disch := omega) only [ni_in, ni_cl, ni_add, ni_mul, ni_sub, ni_lt, ni_le, ni_eq, ni_eq0, ni_lt0, ni_0le, ni_0lt, ni_le0, ni_a1, ni_a3, ni_a7, ni_a15]
          refine ⟨fun h => ?_, fun h => ?_⟩
          · refine hb50 _ _ _ ?_
            simp (maxSteps := 2000000) [bk_X3_leadsToEnd_0, bk_X3_leadsToEnd_29, bk_X3_leadsToEnd_50, bk_X3_leadsToEnd_51, bk_X3_leadsToEnd_55, bk_X3_leadsToEnd_96, bk_X3_leadsToEnd_97, bk_X3_leadsToEnd_117, bk_X3_leadsToEnd_123, bk_X3_leadsToEnd_129, pm_arr, pm_call, pm_e_c0, pm_e_c1, pm_e_cti, pm_e_ctl, pm_e_ctr, pm_e_go, pm_e_i, pm_e_ii, pm_e_l, pm_e_ldi, pm_e_ldr, pm_e_li, pm_e_lk, pm_e_r, pm_e_ri, pm_e_rm0, pm_e_rm1, pm_e_rs0, pm_e_rs1, pm_e_wp0, pm_e_wp1, pm_f2, pm_f3, pm_fld, pm_fv, pm_obj, pm_recv, pm_s_aload_n, pm_s_bipush, pm_s_getfield, pm_s_goto, pm_s_iand, pm_s_iconst, pm_s_ifCond_eq, pm_s_ifCond_ne, pm_s_if_icmp_ge, pm_s_iinc, pm_s_iload, pm_s_iload_n, pm_s_invokevirtual, pm_s_ireturn, pm_s_istore, pm_s_istore_n, pm_s_l2i, pm_s_laload, pm_s_lushr, pm_s_sipush, ct_X3_leadsToEnd, pS, pR, pC, pE, pL, -Int32.not_le, -Int32.not_lt, -Int64.not_le, -Int64.not_lt, -List.getD_eq_getElem?_getD]
            refine hb51 _ _ _ ?_
            simp (maxSteps := 2000000) [bk_X3_leadsToEnd_0, bk_X3_leadsToEnd_29, bk_X3_leadsToEnd_50, bk_X3_leadsToEnd_51, bk_X3_leadsToEnd_55, bk_X3_leadsToEnd_96, bk_X3_leadsToEnd_97, bk_X3_leadsToEnd_117, bk_X3_leadsToEnd_123, bk_X3_leadsToEnd_129, pm_arr, pm_call, pm_e_c0, pm_e_c1, pm_e_cti, pm_e_ctl, pm_e_ctr, pm_e_go, pm_e_i, pm_e_ii, pm_e_l, pm_e_ldi, pm_e_ldr, pm_e_li, pm_e_lk, pm_e_r, pm_e_ri, pm_e_rm0, pm_e_rm1, pm_e_rs0, pm_e_rs1, pm_e_wp0, pm_e_wp1, pm_f2, pm_f3, pm_fld, pm_fv, pm_obj, pm_recv, pm_s_aload_n, pm_s_bipush, pm_s_getfield, pm_s_goto, pm_s_iand, pm_s_iconst, pm_s_ifCond_eq, pm_s_ifCond_ne, pm_s_if_icmp_ge, pm_s_iinc, pm_s_iload, pm_s_iload_n, pm_s_invokevirtual, pm_s_ireturn, pm_s_istore, pm_s_istore_n, pm_s_l2i, pm_s_laload, pm_s_lushr, pm_s_sipush, ct_X3_leadsToEnd, pS, pR, pC, pE, pL, -Int32.not_le, -Int32.not_lt, -Int64.not_le, -Int64.not_lt, -List.getD_eq_getElem?_getD]
            refine hb55 _ _ _ ?_
            simp (maxSteps := 2000000) [bk_X3_leadsToEnd_0, bk_X3_leadsToEnd_29, bk_X3_leadsToEnd_50, bk_X3_leadsToEnd_51, bk_X3_leadsToEnd_55, bk_X3_leadsToEnd_96, bk_X3_leadsToEnd_97, bk_X3_leadsToEnd_117, bk_X3_leadsToEnd_123, bk_X3_leadsToEnd_129, pm_arr, pm_call, pm_e_c0, pm_e_c1, pm_e_cti, pm_e_ctl, pm_e_ctr, pm_e_go, pm_e_i, pm_e_ii, pm_e_l, pm_e_ldi, pm_e_ldr, pm_e_li, pm_e_lk, pm_e_r, pm_e_ri, pm_e_rm0, pm_e_rm1, pm_e_rs0, pm_e_rs1, pm_e_wp0, pm_e_wp1, pm_f2, pm_f3, pm_fld, pm_fv, pm_obj, pm_recv, pm_s_aload_n, pm_s_bipush, pm_s_getfield, pm_s_goto, pm_s_iand, pm_s_iconst, pm_s_ifCond_eq, pm_s_ifCond_ne, pm_s_if_icmp_ge, pm_s_iinc, pm_s_iload, pm_s_iload_n, pm_s_invokevirtual, pm_s_ireturn, pm_s_istore, pm_s_istore_n, pm_s_l2i, pm_s_laload, pm_s_lushr, pm_s_sipush, ct_X3_leadsToEnd, pS, pR, pC, pE, pL, -Int32.not_le, -Int32.not_lt, -Int64.not_le, -Int64.not_lt, -List.getD_eq_getElem?_getD]
            refine ⟨fun _ => h123 M' Z' (q1.skip hi' (by omega) (fun x x1 x2 => ?_)) q2 q3 q4 q5, fun z => absurd rfl z⟩
            rw [show x / 8 = a by omega]; exact can_car h
          · refine hb51 _ _ _ ?_
            simp (maxSteps := 2000000) [bk_X3_leadsToEnd_0, bk_X3_leadsToEnd_29, bk_X3_leadsToEnd_50, bk_X3_leadsToEnd_51, bk_X3_leadsToEnd_55, bk_X3_leadsToEnd_96, bk_X3_leadsToEnd_97, bk_X3_leadsToEnd_117, bk_X3_leadsToEnd_123, bk_X3_leadsToEnd_129, pm_arr, pm_call, pm_e_c0, pm_e_c1, pm_e_cti, pm_e_ctl, pm_e_ctr, pm_e_go, pm_e_i, pm_e_ii, pm_e_l, pm_e_ldi, pm_e_ldr, pm_e_li, pm_e_lk, pm_e_r, pm_e_ri, pm_e_rm0, pm_e_rm1, pm_e_rs0, pm_e_rs1, pm_e_wp0, pm_e_wp1, pm_f2, pm_f3, pm_fld, pm_fv, pm_obj, pm_recv, pm_s_aload_n, pm_s_bipush, pm_s_getfield, pm_s_goto, pm_s_iand, pm_s_iconst, pm_s_ifCond_eq, pm_s_ifCond_ne, pm_s_if_icmp_ge, pm_s_iinc, pm_s_iload, pm_s_iload_n, pm_s_invokevirtual, pm_s_ireturn, pm_s_istore, pm_s_istore_n, pm_s_l2i, pm_s_laload, pm_s_lushr, pm_s_sipush, ct_X3_leadsToEnd, pS, pR, pC, pE, pL, -Int32.not_le, -Int32.not_lt, -Int64.not_le, -Int64.not_lt, -List.getD_eq_getElem?_getD]
            exact inner 6 0 M' Z' (by omega) (by omega) q1 q2 q3 q4 q5
        · have e1 : a = 6 := by omega
          subst e1
          refine hb29 _ _ _ ?_
          simp (maxSteps := 2000000) [bk_X3_leadsToEnd_0, bk_X3_leadsToEnd_29, bk_X3_leadsToEnd_50, bk_X3_leadsToEnd_51, bk_X3_leadsToEnd_55, bk_X3_leadsToEnd_96, bk_X3_leadsToEnd_97, bk_X3_leadsToEnd_117, bk_X3_leadsToEnd_123, bk_X3_leadsToEnd_129, pm_arr, pm_call, pm_e_c0, pm_e_c1, pm_e_cti, pm_e_ctl, pm_e_ctr, pm_e_go, pm_e_i, pm_e_ii, pm_e_l, pm_e_ldi, pm_e_ldr, pm_e_li, pm_e_lk, pm_e_r, pm_e_ri, pm_e_rm0, pm_e_rm1, pm_e_rs0, pm_e_rs1, pm_e_wp0, pm_e_wp1, pm_f2, pm_f3, pm_fld, pm_fv, pm_obj, pm_recv, pm_s_aload_n, pm_s_bipush, pm_s_getfield, pm_s_goto, pm_s_iand, pm_s_iconst, pm_s_ifCond_eq, pm_s_ifCond_ne, pm_s_if_icmp_ge, pm_s_iinc, pm_s_iload, pm_s_iload_n, pm_s_invokevirtual, pm_s_ireturn, pm_s_istore, pm_s_istore_n, pm_s_l2i, pm_s_laload, pm_s_lushr, pm_s_sipush, ct_X3_leadsToEnd, pS, pR, pC, pE, pL, -Int32.not_le, -Int32.not_lt, -Int64.not_le, -Int64.not_lt, -List.getD_eq_getElem?_getD]
          exact out M' Z' q1 q2 q3 q5
    obtain ⟨⟨b1, b2⟩, ⟨m4, m5, m6⟩, hw, nx, ch, hr, hc, hch⟩ := id hZ
    have hri := hr i (by omega)
    have hwi := hw i (by omega)
    refine hb0 _ _ _ ?_
    simp (maxSteps := 2000000) [bk_X3_leadsToEnd_0, bk_X3_leadsToEnd_29, bk_X3_leadsToEnd_50, bk_X3_leadsToEnd_51, bk_X3_leadsToEnd_55, bk_X3_leadsToEnd_96, bk_X3_leadsToEnd_97, bk_X3_leadsToEnd_117, bk_X3_leadsToEnd_123, bk_X3_leadsToEnd_129, pm_arr, pm_call, pm_e_c0, pm_e_c1, pm_e_cti, pm_e_ctl, pm_e_ctr, pm_e_go, pm_e_i, pm_e_ii, pm_e_l, pm_e_ldi, pm_e_ldr, pm_e_li, pm_e_lk, pm_e_r, pm_e_ri, pm_e_rm0, pm_e_rm1, pm_e_rs0, pm_e_rs1, pm_e_wp0, pm_e_wp1, pm_f2, pm_f3, pm_fld, pm_fv, pm_obj, pm_recv, pm_s_aload_n, pm_s_bipush, pm_s_getfield, pm_s_goto, pm_s_iand, pm_s_iconst, pm_s_ifCond_eq, pm_s_ifCond_ne, pm_s_if_icmp_ge, pm_s_iinc, pm_s_iload, pm_s_iload_n, pm_s_invokevirtual, pm_s_ireturn, pm_s_istore, pm_s_istore_n, pm_s_l2i, pm_s_laload, pm_s_lushr, pm_s_sipush, ct_X3_leadsToEnd, pS, pR, pC, pE, pL, -Int32.not_le, -Int32.not_lt, -Int64.not_le, -Int64.not_lt, -List.getD_eq_getElem?_getD, lv_args, sx_28, sx_29, sx_30, sx_32]
    simp (disch := omega) only [ni_in, ni_cl, ni_add, ni_mul, ni_sub, ni_lt, ni_le, ni_eq, ni_eq0, ni_lt0, ni_0le, ni_0lt, ni_le0, ni_a1, ni_a3, ni_a7, ni_a15, hri.1, hri.2.1]
    refine ⟨by omega, ?_⟩
    have har := arN_lt (zR Z i)
    have e1 : ((lN (twd (nx i) (arN (zR Z i)) (zp Z i) (zm Z i))).toUInt64 >>> ((nI 18).toInt64.toUInt64 &&& Int64.toUInt64 63)).toInt64.toInt32 &&& nI 511 = nI (arN (zR Z i)) := by
      have hlt : twd (nx i) (arN (zR Z i)) (zp Z i) (zm Z i) < 2 ^ 64 := by unfold twd; omega
      rw [wb_shr hlt (by decide), ln_i]
      refine (pk_and _ 9 (by decide)).trans ?_
      rw [show (nI (twd (nx i) (arN (zR Z i)) (zp Z i) (zm Z i) / 2 ^ 18)).toBitVec.toNat = twd (nx i) (arN (zR Z i)) (zp Z i) (zm Z i) / 2 ^ 18 % 2 ^ 32 from rfl]
      congr 1
      rw [Nat.mod_mod_of_dvd _ (by decide)]
      exact twd_ar har (by omega) hwi.2.2
    rw [e1]
    refine ⟨ec, zR Z i, P, Or.inr rfl, rfl, rfl, he, hcc, hD, hwi.1.1, hwi.1.2.1, hwi.1.2.2.1, hwi.1.2.2.2, fun M1 q1 f1 => ?_⟩
    simp (maxSteps := 2000000) [bk_X3_leadsToEnd_0, bk_X3_leadsToEnd_29, bk_X3_leadsToEnd_50, bk_X3_leadsToEnd_51, bk_X3_leadsToEnd_55, bk_X3_leadsToEnd_96, bk_X3_leadsToEnd_97, bk_X3_leadsToEnd_117, bk_X3_leadsToEnd_123, bk_X3_leadsToEnd_129, pm_arr, pm_call, pm_e_c0, pm_e_c1, pm_e_cti, pm_e_ctl, pm_e_ctr, pm_e_go, pm_e_i, pm_e_ii, pm_e_l, pm_e_ldi, pm_e_ldr, pm_e_li, pm_e_lk, pm_e_r, pm_e_ri, pm_e_rm0, pm_e_rm1, pm_e_rs0, pm_e_rs1, pm_e_wp0, pm_e_wp1, pm_f2, pm_f3, pm_fld, pm_fv, pm_obj, pm_recv, pm_s_aload_n, pm_s_bipush, pm_s_getfield, pm_s_goto, pm_s_iand, pm_s_iconst, pm_s_ifCond_eq, pm_s_ifCond_ne, pm_s_if_icmp_ge, pm_s_iinc, pm_s_iload, pm_s_iload_n, pm_s_invokevirtual, pm_s_ireturn, pm_s_istore, pm_s_istore_n, pm_s_l2i, pm_s_laload, pm_s_lushr, pm_s_sipush, ct_X3_leadsToEnd, pS, pR, pC, pE, pL, -Int32.not_le, -Int32.not_lt, -Int64.not_le, -Int64.not_lt, -List.getD_eq_getElem?_getD]
    have f1' : pm_fr [32, 33, 34, 35, 36, 37] M M1 := f1
    exact loop 6 0 M1 Z (by omega) (by omega) hC (SrX.mv hZ f1' (by decide)) q1 (hD.moved f1' (by decide)) (f1'.mono (by decide))
  · exact hT.elim
