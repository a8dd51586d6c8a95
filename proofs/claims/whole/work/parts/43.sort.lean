/-! THE ORDER OF THE COLUMNS -/
def al (l : List Nat) : Nat := pq l * 16 ^ (12 - l.length)
def ky (S : St) (i : Nat) : Nat := al (S.1 i) * 4 + i
theorem al_lt {l : List Nat} (h : ∀ d ∈ l, d < 16) (hn : l.length ≤ 12) : al l < 2 ^ 48 := by
  have h1 := pq_lt h
  unfold al
  have e : (16 : Nat) ^ l.length * 16 ^ (12 - l.length) = 2 ^ 48 := by rw [← Nat.pow_add, Nat.add_sub_cancel' hn]
  calc _ < 16 ^ l.length * 16 ^ (12 - l.length) := Nat.mul_lt_mul_of_pos_right h1 (Nat.pow_pos (by decide))
    _ = 2 ^ 48 := e
theorem SdX.m5 {M M' : pm_M} {p ec : Nat} {S : St} (h : SdX M p ec S) (hf : pm_fr [p + 5] M M') : SdX M' p ec S := by
  obtain ⟨a, b, c, d, e⟩ := h
  refine ⟨a, b, ?_, fun i hi => ⟨?_, ?_, ?_⟩, fun j hj => ?_⟩
  · rw [hf.i (by simp)]; exact c
  · rw [hf.l (by simp)]; exact (d i hi).1
  · rw [hf.i (by simp)]; exact (d i hi).2.1
  · rw [hf.i (by simp)]; exact (d i hi).2.2
  · rw [hf.i (by simp)]; exact e j hj
theorem lgc {a b : Nat} (ha : a < 2 ^ 63) (hb : b < 2 ^ 63) : (lg_cmp (lN a) (lN b) ≤ 0) = (a ≤ b) := propext ((lg_cmp_le _ _).trans (pk_lLE ha hb))
theorem ni_m1 (n : Nat) : nI (n + 1) + -nI 1 = nI n := pk_m1 n
def tt_X4_sortColumns : pm_T := fun args M k => match args with
  | [.ref p] => ∃ ec S, isSt p ∧ SdX M p ec S ∧ ∀ M' L, List.Perm L [ky S 0, ky S 1, ky S 2, ky S 3] → L.Pairwise (· < ·) → (∀ j, j < 4 → M'.2 (p + 5) j = lN (L.getD j 0)) → pm_fr [p + 5] M M' → k none M'
  | _ => False
abbrev ct_X4_sortColumns : List pm_C := []
set_option maxHeartbeats 4000000 in
theorem sm_X4_sortColumns  : pm_Sem SHx yX4_sortColumns cX4_sortColumns 7 none 1 tt_X4_sortColumns := by
  refine pm_Sem_intro bl_X4_sortColumns ct_X4_sortColumns cs_X4_sortColumns rfl (fun _ h => absurd h List.not_mem_nil) ck_X4_sortColumns (by decide +kernel) (by decide) ?_
  intro X k hX args M hT
  have hb0 := hX 0 bk_X4_sortColumns_0 (List.mem_of_getElem? (i := 0) rfl)
  have hb2 := hX 2 bk_X4_sortColumns_2 (List.mem_of_getElem? (i := 1) rfl)
  have hb37 := hX 37 bk_X4_sortColumns_37 (List.mem_of_getElem? (i := 2) rfl)
  have hb79 := hX 79 bk_X4_sortColumns_79 (List.mem_of_getElem? (i := 3) rfl)
  have hb94 := hX 94 bk_X4_sortColumns_94 (List.mem_of_getElem? (i := 4) rfl)
  clear hX
  unfold tt_X4_sortColumns at hT; split at hT
  · next p =>
    obtain ⟨ec, S, hp, hS, hT⟩ := hT
    refine ⟨by simp [lg_sl, Value.category], ?_⟩
    have hk : ∀ i, i < 4 → ky S i < 2 ^ 52 := fun i hi => by have := al_lt (hS.d16 hi) (hS.len hi); unfold ky; omega
    have out : ∀ M' L, List.Perm L ((List.range 4).map (ky S)) → L.Pairwise (· < ·) → (∀ j, j < 4 → M'.2 (p + 5) j = lN (L.getD j 0)) → pm_fr [p + 5] M M' → X 94 [] [] M' := by
      intro M' L a1 a2 a3 a4
      refine hb94 _ _ _ ?_
      simp (maxSteps := 2000000) [bk_X4_sortColumns_0, bk_X4_sortColumns_2, bk_X4_sortColumns_37, bk_X4_sortColumns_79, bk_X4_sortColumns_94, pm_arr, pm_e_c0, pm_e_c1, pm_e_cti, pm_e_ctl, pm_e_ctr, pm_e_go, pm_e_i, pm_e_ii, pm_e_l, pm_e_ldi, pm_e_ldl, pm_e_ldr, pm_e_li, pm_e_lk, pm_e_ll, pm_e_r, pm_e_ri, pm_e_ril, pm_e_rm0, pm_e_rm1, pm_e_rs0, pm_e_rs1, pm_e_wp0, pm_e_wp1, pm_f2, pm_f3, pm_fld, pm_fv, pm_obj, pm_s_aload_n, pm_s_bipush, pm_s_getfield, pm_s_goto, pm_s_i2l, pm_s_iaload, pm_s_iconst, pm_s_ifCond_le, pm_s_if_icmp_ge, pm_s_iinc, pm_s_iload, pm_s_iload_n, pm_s_imul, pm_s_istore, pm_s_istore_n, pm_s_isub, pm_s_laload, pm_s_lastore, pm_s_lcmp, pm_s_lload, pm_s_lload_n, pm_s_lor, pm_s_lshl, pm_s_lstore, pm_s_lstore_n, pm_s_return, ct_X4_sortColumns, pS, pR, pC, pE, pL, -Int32.not_le, -Int32.not_lt, -Int64.not_le, -Int64.not_lt, -List.getD_eq_getElem?_getD]
      exact hT M' L a1 a2 a3 a4
    have loop : ∀ (f i : Nat) (M' : pm_M) (L : List Nat), 4 ≤ i + f → i ≤ 4 → List.Perm L ((List.range i).map (ky S)) → L.Pairwise (· < ·) → (∀ j, j < i → M'.2 (p + 5) j = lN (L.getD j 0)) → pm_fr [p + 5] M M' → X 2 [(0, .ref p), (1, .int (nI i))] [] M' := by
      intro f
      induction f with
      | zero =>
        intro i M' L f1 f2 a1 a2 a3 a4
        have e1 : i = 4 := by omega
        subst e1
        refine hb2 _ _ _ ?_
        simp (maxSteps := 2000000) [bk_X4_sortColumns_0, bk_X4_sortColumns_2, bk_X4_sortColumns_37, bk_X4_sortColumns_79, bk_X4_sortColumns_94, pm_arr, pm_e_c0, pm_e_c1, pm_e_cti, pm_e_ctl, pm_e_ctr, pm_e_go, pm_e_i, pm_e_ii, pm_e_l, pm_e_ldi, pm_e_ldl, pm_e_ldr, pm_e_li, pm_e_lk, pm_e_ll, pm_e_r, pm_e_ri, pm_e_ril, pm_e_rm0, pm_e_rm1, pm_e_rs0, pm_e_rs1, pm_e_wp0, pm_e_wp1, pm_f2, pm_f3, pm_fld, pm_fv, pm_obj, pm_s_aload_n, pm_s_bipush, pm_s_getfield, pm_s_goto, pm_s_i2l, pm_s_iaload, pm_s_iconst, pm_s_ifCond_le, pm_s_if_icmp_ge, pm_s_iinc, pm_s_iload, pm_s_iload_n, pm_s_imul, pm_s_istore, pm_s_istore_n, pm_s_isub, pm_s_laload, pm_s_lastore, pm_s_lcmp, pm_s_lload, pm_s_lload_n, pm_s_lor, pm_s_lshl, pm_s_lstore, pm_s_lstore_n, pm_s_return, ct_X4_sortColumns, pS, pR, pC, pE, pL, -Int32.not_le, -Int32.not_lt, -Int64.not_le, -Int64.not_lt, -List.getD_eq_getElem?_getD]
        exact out M' L a1 a2 a3 a4
      | succ f ih =>
        intro i M' L f1 f2 a1 a2 a3 a4
        by_cases hi : i < 4
        · have hS' := hS.m5 a4
          have hlen := hS.len hi
          have hpq := hS.p48 hi
          have hal := al_lt (hS.d16 hi) hlen
          have hki := hk i hi
          have hLlen : L.length = i := by have := a1.length_eq; simpa using this
          have hLb : ∀ v ∈ L, v < 2 ^ 52 ∧ v ≠ ky S i := by
            intro v hv
            have := a1.subset hv
            obtain ⟨j, j1, j2⟩ := List.mem_map.mp this
            rw [List.mem_range] at j1
            refine ⟨by rw [← j2]; exact hk j (by omega), fun z => ?_⟩
            have e : ky S j = ky S i := by rw [j2, z]
            unfold ky at e
            omega
          have inner : ∀ (A B : List Nat) (M' : pm_M), A ++ B = L → (∀ j, j < A.length → M'.2 (p + 5) j = lN (A.getD j 0)) → (∀ t, t < B.length → M'.2 (p + 5) (A.length + 1 + t) = lN (B.getD t 0)) → (∀ v ∈ B, ky S i < v) → pm_fr [p + 5] M M' → X 37 [(0, .ref p), (1, .int (nI i)), (4, .long (lN (ky S i))), (6, .int (nI A.length))] [] M' := by
            intro A
            have done : ∀ (A B : List Nat) (M' : pm_M), A ++ B = L → (∀ j, j < A.length → M'.2 (p + 5) j = lN (A.getD j 0)) → (∀ t, t < B.length → M'.2 (p + 5) (A.length + 1 + t) = lN (B.getD t 0)) → (∀ v ∈ B, ky S i < v) → (∀ v ∈ A, v < ky S i) → pm_fr [p + 5] M M' → X 79 [(0, .ref p), (1, .int (nI i)), (4, .long (lN (ky S i))), (6, .int (nI A.length))] [] M' := by
              intro A B M' b1 b2 b3 b4 b5 b6
              have hl : A.length + B.length = i := by rw [← hLlen, ← b1]; simp
              refine hb79 _ _ _ ?_
              simp (maxSteps := 2000000) [bk_X4_sortColumns_0, bk_X4_sortColumns_2, bk_X4_sortColumns_37, bk_X4_sortColumns_79, bk_X4_sortColumns_94, pm_arr, pm_e_c0, pm_e_c1, pm_e_cti, pm_e_ctl, pm_e_ctr, pm_e_go, pm_e_i, pm_e_ii, pm_e_l, pm_e_ldi, pm_e_ldl, pm_e_ldr, pm_e_li, pm_e_lk, pm_e_ll, pm_e_r, pm_e_ri, pm_e_ril, pm_e_rm0, pm_e_rm1, pm_e_rs0, pm_e_rs1, pm_e_wp0, pm_e_wp1, pm_f2, pm_f3, pm_fld, pm_fv, pm_obj, pm_s_aload_n, pm_s_bipush, pm_s_getfield, pm_s_goto, pm_s_i2l, pm_s_iaload, pm_s_iconst, pm_s_ifCond_le, pm_s_if_icmp_ge, pm_s_iinc, pm_s_iload, pm_s_iload_n, pm_s_imul, pm_s_istore, pm_s_istore_n, pm_s_isub, pm_s_laload, pm_s_lastore, pm_s_lcmp, pm_s_lload, pm_s_lload_n, pm_s_lor, pm_s_lshl, pm_s_lstore, pm_s_lstore_n, pm_s_return, ct_X4_sortColumns, pS, pR, pC, pE, pL, -Int32.not_le, -Int32.not_lt, -Int64.not_le, -Int64.not_lt, -List.getD_eq_getElem?_getD, st_0 hp, st_5 hp]
              simp (disch := omega) only [ni_in, ni_cl, ni_add, ni_mul, ni_sub, ni_lt, ni_le, ni_eq, ni_eq0, ni_lt0, ni_0le, ni_0lt, ni_le0, ni_a1, ni_a3, ni_a7, ni_a15]
              refine ⟨by omega, ?_⟩
              refine ih (i + 1) _ (A ++ ky S i :: B) (by omega) (by omega) ?_ ?_ ?_ (b6.setL (by simp))
              · rw [List.range_succ, List.map_append]
                refine List.Perm.trans List.perm_middle ?_
                rw [b1]
                refine List.Perm.trans (List.Perm.cons _ a1) ?_
                exact (List.perm_append_comm (l₁ := [ky S i]))
              · rw [← b1] at a2
                rw [List.pairwise_append] at a2 ⊢
                refine ⟨a2.1, List.pairwise_cons.mpr ⟨b4, a2.2.1⟩, fun u hu v hv => ?_⟩
                rcases List.mem_cons.mp hv with z | z
                · subst z; exact b5 u hu
                · exact a2.2.2 u hu v z
              · intro j hj
                simp only [me_4]
                rcases Nat.lt_trichotomy j A.length with z | z | z
                · rw [if_neg (by omega), b2 j z]
                  congr 1
                  simp [List.getD_eq_getElem?_getD, List.getElem?_append_left z]
                · subst z
                  simp [List.getD_eq_getElem?_getD]
                · obtain ⟨t, rfl⟩ : ∃ t, j = A.length + 1 + t := ⟨j - A.length - 1, by omega⟩
                  rw [if_neg (by omega), b3 t (by omega)]
                  congr 1
                  rw [List.getD_eq_getElem?_getD, List.getD_eq_getElem?_getD, List.getElem?_append_right (by omega), show A.length + 1 + t - A.length = t + 1 by omega, List.getElem?_cons_succ]
            induction A using rev_ind with
            | nil =>
              intro B M' b1 b2 b3 b4 b6
              refine hb37 _ _ _ ?_
              simp (maxSteps := 2000000) [bk_X4_sortColumns_0, bk_X4_sortColumns_2, bk_X4_sortColumns_37, bk_X4_sortColumns_79, bk_X4_sortColumns_94, pm_arr, pm_e_c0, pm_e_c1, pm_e_cti, pm_e_ctl, pm_e_ctr, pm_e_go, pm_e_i, pm_e_ii, pm_e_l, pm_e_ldi, pm_e_ldl, pm_e_ldr, pm_e_li, pm_e_lk, pm_e_ll, pm_e_r, pm_e_ri, pm_e_ril, pm_e_rm0, pm_e_rm1, pm_e_rs0, pm_e_rs1, pm_e_wp0, pm_e_wp1, pm_f2, pm_f3, pm_fld, pm_fv, pm_obj, pm_s_aload_n, pm_s_bipush, pm_s_getfield, pm_s_goto, pm_s_i2l, pm_s_iaload, pm_s_iconst, pm_s_ifCond_le, pm_s_if_icmp_ge, pm_s_iinc, pm_s_iload, pm_s_iload_n, pm_s_imul, pm_s_istore, pm_s_istore_n, pm_s_isub, pm_s_laload, pm_s_lastore, pm_s_lcmp, pm_s_lload, pm_s_lload_n, pm_s_lor, pm_s_lshl, pm_s_lstore, pm_s_lstore_n, pm_s_return, ct_X4_sortColumns, pS, pR, pC, pE, pL, -Int32.not_le, -Int32.not_lt, -Int64.not_le, -Int64.not_lt, -List.getD_eq_getElem?_getD, st_0 hp, st_5 hp]
              have := done [] B M' b1 b2 b3 b4 (fun v hv => by cases hv) b6
              exact ⟨fun _ => this, fun h => absurd (by decide) h⟩
            | snoc A a ihA =>
              intro B M' b1 b2 b3 b4 b6
              have hl : A.length + 1 + B.length = i := by rw [← hLlen, ← b1]; simp; omega
              have haL := hLb a (by rw [← b1]; simp)
              have hoa : M'.2 (p + 5) A.length = lN a := by
                have := b2 A.length (by simp)
                rw [this]; simp [List.getD_eq_getElem?_getD]
              refine hb37 _ _ _ ?_
              simp (maxSteps := 2000000) [bk_X4_sortColumns_0, bk_X4_sortColumns_2, bk_X4_sortColumns_37, bk_X4_sortColumns_79, bk_X4_sortColumns_94, pm_arr, pm_e_c0, pm_e_c1, pm_e_cti, pm_e_ctl, pm_e_ctr, pm_e_go, pm_e_i, pm_e_ii, pm_e_l, pm_e_ldi, pm_e_ldl, pm_e_ldr, pm_e_li, pm_e_lk, pm_e_ll, pm_e_r, pm_e_ri, pm_e_ril, pm_e_rm0, pm_e_rm1, pm_e_rs0, pm_e_rs1, pm_e_wp0, pm_e_wp1, pm_f2, pm_f3, pm_fld, pm_fv, pm_obj, pm_s_aload_n, pm_s_bipush, pm_s_getfield, pm_s_goto, pm_s_i2l, pm_s_iaload, pm_s_iconst, pm_s_ifCond_le, pm_s_if_icmp_ge, pm_s_iinc, pm_s_iload, pm_s_iload_n, pm_s_imul, pm_s_istore, pm_s_istore_n, pm_s_isub, pm_s_laload, pm_s_lastore, pm_s_lcmp, pm_s_lload, pm_s_lload_n, pm_s_lor, pm_s_lshl, pm_s_lstore, pm_s_lstore_n, pm_s_return, ct_X4_sortColumns, pS, pR, pC, pE, pL, -Int32.not_le, -Int32.not_lt, -Int64.not_le, -Int64.not_lt, -List.getD_eq_getElem?_getD, st_0 hp, st_5 hp]
              simp (disch := omega) only [ni_in, ni_cl, ni_add, ni_mul, ni_sub, ni_lt, ni_le, ni_eq, ni_eq0, ni_lt0, ni_0le, ni_0lt, ni_le0, ni_a1, ni_a3, ni_a7, ni_a15, Nat.add_sub_cancel, hoa]
              rw [lgc (by omega) (by omega)]
              refine ⟨fun h => by omega, fun _ => ?_⟩
              repeat refine ⟨by omega, ?_⟩
              refine ⟨fun h => ?_, fun h => ?_⟩
              · have := done (A ++ [a]) B M' b1 b2 b3 b4 ?_ b6
                · simpa using this
                · rw [← b1, List.pairwise_append, List.pairwise_append] at a2
                  intro v hv
                  rcases List.mem_append.mp hv with z | z
                  · have := a2.1.2.2 v z a (by simp); omega
                  · simp at z; omega
              · rw [ni_m1]
                repeat refine ⟨by omega, ?_⟩
                refine ihA (a :: B) _ (by rw [← b1]; simp) (fun j hj => ?_) (fun t ht => ?_) (fun v hv => ?_) (b6.setL (q := p + 5) (List.mem_singleton.mpr rfl))
                · simp only [me_4]
                  rw [if_neg (by omega)]
                  have := b2 j (by simp; omega)
                  rw [this]; congr 1
                  simp [List.getD_eq_getElem?_getD, List.getElem?_append_left hj]
                · simp only [me_4]
                  cases t with
                  | zero => simp
                  | succ t =>
                    rw [if_neg (by omega)]
                    have := b3 t (by simpa using ht)
                    rw [show (A ++ [a]).length + 1 + t = A.length + 1 + (t + 1) by simp; omega] at this
                    rw [this]; rfl
                · rcases List.mem_cons.mp hv with z | z
                  · subst z; have := haL.2; omega
                  · exact b4 v z
          refine hb2 _ _ _ ?_
          simp (maxSteps := 2000000) [bk_X4_sortColumns_0, bk_X4_sortColumns_2, bk_X4_sortColumns_37, bk_X4_sortColumns_79, bk_X4_sortColumns_94, pm_arr, pm_e_c0, pm_e_c1, pm_e_cti, pm_e_ctl, pm_e_ctr, pm_e_go, pm_e_i, pm_e_ii, pm_e_l, pm_e_ldi, pm_e_ldl, pm_e_ldr, pm_e_li, pm_e_lk, pm_e_ll, pm_e_r, pm_e_ri, pm_e_ril, pm_e_rm0, pm_e_rm1, pm_e_rs0, pm_e_rs1, pm_e_wp0, pm_e_wp1, pm_f2, pm_f3, pm_fld, pm_fv, pm_obj, pm_s_aload_n, pm_s_bipush, pm_s_getfield, pm_s_goto, pm_s_i2l, pm_s_iaload, pm_s_iconst, pm_s_ifCond_le, pm_s_if_icmp_ge, pm_s_iinc, pm_s_iload, pm_s_iload_n, pm_s_imul, pm_s_istore, pm_s_istore_n, pm_s_isub, pm_s_laload, pm_s_lastore, pm_s_lcmp, pm_s_lload, pm_s_lload_n, pm_s_lor, pm_s_lshl, pm_s_lstore, pm_s_lstore_n, pm_s_return, ct_X4_sortColumns, pS, pR, pC, pE, pL, -Int32.not_le, -Int32.not_lt, -Int64.not_le, -Int64.not_lt, -List.getD_eq_getElem?_getD, st_0 hp, st_1 hp, st_2 hp]
          simp (disch := omega) only [ni_in, ni_cl, ni_add, ni_mul, ni_sub, ni_lt, ni_le, ni_eq, ni_eq0, ni_lt0, ni_0le, ni_0lt, ni_le0, ni_a1, ni_a3, ni_a7, ni_a15, hS'.n hi, hS'.c hi]
          refine ⟨fun h => by omega, fun _ => ?_⟩
          repeat refine ⟨by omega, ?_⟩
          have e1 : (lN (pq (S.1 i)) <<< ((nI (4 * (12 - (S.1 i).length))).toInt64 &&& 63)) <<< ((nI 2).toInt64 &&& 63) ||| (nI i).toInt64 = lN (ky S i) := by
            rw [wb_shl _ (by omega), wb_shl _ (by decide), ni_l (by omega), Nat.pow_mul, show (2 : Nat) ^ 4 = 16 from rfl, ln_or (k := 2) (by omega) (by unfold al at hal; omega)]
            rfl
          rw [e1]
          have := inner L [] M' (by simp) (fun j hj => a3 j (by omega)) (fun t ht => by simp at ht) (fun v hv => by cases hv) a4
          rw [hLlen] at this
          exact this
        · have e1 : i = 4 := by omega
          subst e1
          refine hb2 _ _ _ ?_
          simp (maxSteps := 2000000) [bk_X4_sortColumns_0, bk_X4_sortColumns_2, bk_X4_sortColumns_37, bk_X4_sortColumns_79, bk_X4_sortColumns_94, pm_arr, pm_e_c0, pm_e_c1, pm_e_cti, pm_e_ctl, pm_e_ctr, pm_e_go, pm_e_i, pm_e_ii, pm_e_l, pm_e_ldi, pm_e_ldl, pm_e_ldr, pm_e_li, pm_e_lk, pm_e_ll, pm_e_r, pm_e_ri, pm_e_ril, pm_e_rm0, pm_e_rm1, pm_e_rs0, pm_e_rs1, pm_e_wp0, pm_e_wp1, pm_f2, pm_f3, pm_fld, pm_fv, pm_obj, pm_s_aload_n, pm_s_bipush, pm_s_getfield, pm_s_goto, pm_s_i2l, pm_s_iaload, pm_s_iconst, pm_s_ifCond_le, pm_s_if_icmp_ge, pm_s_iinc, pm_s_iload, pm_s_iload_n, pm_s_imul, pm_s_istore, pm_s_istore_n, pm_s_isub, pm_s_laload, pm_s_lastore, pm_s_lcmp, pm_s_lload, pm_s_lload_n, pm_s_lor, pm_s_lshl, pm_s_lstore, pm_s_lstore_n, pm_s_return, ct_X4_sortColumns, pS, pR, pC, pE, pL, -Int32.not_le, -Int32.not_lt, -Int64.not_le, -Int64.not_lt, -List.getD_eq_getElem?_getD]
          exact out M' L a1 a2 a3 a4
    refine hb0 _ _ _ ?_
    simp (maxSteps := 2000000) [bk_X4_sortColumns_0, bk_X4_sortColumns_2, bk_X4_sortColumns_37, bk_X4_sortColumns_79, bk_X4_sortColumns_94, pm_arr, pm_e_c0, pm_e_c1, pm_e_cti, pm_e_ctl, pm_e_ctr, pm_e_go, pm_e_i, pm_e_ii, pm_e_l, pm_e_ldi, pm_e_ldl, pm_e_ldr, pm_e_li, pm_e_lk, pm_e_ll, pm_e_r, pm_e_ri, pm_e_ril, pm_e_rm0, pm_e_rm1, pm_e_rs0, pm_e_rs1, pm_e_wp0, pm_e_wp1, pm_f2, pm_f3, pm_fld, pm_fv, pm_obj, pm_s_aload_n, pm_s_bipush, pm_s_getfield, pm_s_goto, pm_s_i2l, pm_s_iaload, pm_s_iconst, pm_s_ifCond_le, pm_s_if_icmp_ge, pm_s_iinc, pm_s_iload, pm_s_iload_n, pm_s_imul, pm_s_istore, pm_s_istore_n, pm_s_isub, pm_s_laload, pm_s_lastore, pm_s_lcmp, pm_s_lload, pm_s_lload_n, pm_s_lor, pm_s_lshl, pm_s_lstore, pm_s_lstore_n, pm_s_return, ct_X4_sortColumns, pS, pR, pC, pE, pL, -Int32.not_le, -Int32.not_lt, -Int64.not_le, -Int64.not_lt, -List.getD_eq_getElem?_getD, lv_args]
    exact loop 4 0 M [] (by omega) (by omega) (List.Perm.refl _) List.Pairwise.nil (fun j hj => by omega) pm_fr.rfl
  · exact hT.elim
