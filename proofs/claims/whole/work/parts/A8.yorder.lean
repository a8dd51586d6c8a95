theorem ky_al (S : St) {k o : Nat} (hk : k < 4) (ho : o < k) : (al (S.1 k) < al (S.1 o)) ↔ ky S k < ky S o := by
  unfold ky; omega
theorem tbO_uniq {P : Pm} (hP : okP P) {S : St} {L : List Nat} (h4 : ∀ v ∈ L, v < 4) (h1 : (L.map (ky S)).Perm ((List.range (pC P)).map (ky S))) (h2 : (L.map (ky S)).Pairwise (· < ·)) : L = tbO P S 4 := by
  obtain ⟨t1, t2⟩ := tbO_keys hP S
  have e := srt_uniq _ _ (h1.trans t1.symm) h2 t2
  have key : ∀ l : List Nat, (∀ v ∈ l, v < 4) → (l.map (ky S)).map (· % 4) = l := by
    intro l hl
    rw [List.map_map]
    conv => rhs; rw [← List.map_id l]
    exact List.map_congr_left (fun v hv => ky_mod S (hl v hv))
  have ht : ∀ v ∈ tbO P S 4, v < 4 := fun v hv => by
    unfold tbO at hv
    rw [List.mem_filter, List.mem_map] at hv
    obtain ⟨⟨j, -, ej⟩, -⟩ := hv
    rw [← ej]; exact sg_lt S j
  rw [← key L h4, e, key _ ht]
theorem tbO_len {P : Pm} (hP : okP P) (S : St) : (tbO P S 4).length = pC P := by
  have := (tbO_keys hP S).1.length_eq
  simpa using this
theorem tbO_C {P : Pm} {S : St} {v : Nat} (h : v ∈ tbO P S 4) : v < pC P ∧ v < 4 := by
  unfold tbO at h
  rw [List.mem_filter, List.mem_map] at h
  obtain ⟨⟨j, -, ej⟩, h2⟩ := h
  exact ⟨by simpa using h2, by rw [← ej]; exact sg_lt S j⟩
def tt_X7_orders : pm_T := fun args M k => match args with
  | [.ref 0] => ∃ (P : Pm) (S : St), DkY M P ∧ SdY M 10 0 (pR P) S ∧ okS S ∧ inD P S ∧ ∀ M', (∀ j, j < pC P → M'.1 19 j = nI ((tbO P S 4).getD j 0)) → yfr [19] [] M M' → k none M'
  | _ => False
abbrev ct_X7_orders : List pm_C := [(false, 198, 7, 3, (some .boolean), tt_X7_isAhead)]
set_option maxHeartbeats 4000000 in
theorem sm_X7_orders  : pm_Sem SHy yX7_orders cX7_orders 3 none 2 tt_X7_orders := by
  refine pm_Sem_intro bl_X7_orders ct_X7_orders cs_X7_orders rfl (List.forall_mem_cons.mpr ⟨⟨_, _, _, _, sm_X7_isAhead, by decide, cm_X7_isAhead, by decide +kernel⟩, fun _ h => absurd h List.not_mem_nil⟩) ck_X7_orders (by decide +kernel) (by decide) ?_
  intro X k hX args M hT
  have hb0 := hX 0 bk_X7_orders_0 (List.mem_of_getElem? (i := 0) rfl)
  have hb2 := hX 2 bk_X7_orders_2 (List.mem_of_getElem? (i := 1) rfl)
  have hb12 := hX 12 bk_X7_orders_12 (List.mem_of_getElem? (i := 2) rfl)
  have hb52 := hX 52 bk_X7_orders_52 (List.mem_of_getElem? (i := 3) rfl)
  have hb65 := hX 65 bk_X7_orders_65 (List.mem_of_getElem? (i := 4) rfl)
  clear hX
  unfold tt_X7_orders at hT; split at hT
  · obtain ⟨P, S, hD, hS, hO, hI, hT⟩ := hT
    have hP := hD.1
    have h6 := hP.2.2.2.2.2.1
    have h7 := hP.2.2.2.2.2.2.1
    have m2 := hD.2.2.2.1
    refine ⟨by simp [lg_sl, Value.category], ?_⟩
    have out : ∀ (M1 : pm_M) (L : List Nat), (∀ v ∈ L, v < pC P) → (L.map (ky S)).Perm ((List.range (pC P)).map (ky S)) → (L.map (ky S)).Pairwise (· < ·) → (∀ j, j < pC P → M1.1 19 j = nI (L.getD j 0)) → yfr [19] [] M M1 → X 65 [] [] M1 := by
      intro M1 L a0 a1 a2 a3 f1
      refine hb65 _ _ _ ?_
      simp (maxSteps := 2000000) [bk_X7_orders_0, bk_X7_orders_2, bk_X7_orders_12, bk_X7_orders_52, bk_X7_orders_65, pm_arr, pm_call, pm_e_c0, pm_e_c1, pm_e_cti, pm_e_ctl, pm_e_ctr, pm_e_go, pm_e_i, pm_e_ii, pm_e_ldi, pm_e_ldr, pm_e_lk, pm_e_r, pm_e_ri, pm_e_rii, pm_e_rm0, pm_e_rm1, pm_e_rs0, pm_e_rs1, pm_e_wp0, pm_e_wp1, pm_f2, pm_f3, pm_fld, pm_fv, pm_obj, pm_recv, pm_s_aload_n, pm_s_getfield, pm_s_goto, pm_s_iaload, pm_s_iastore, pm_s_iconst, pm_s_ifCond_eq, pm_s_ifCond_le, pm_s_if_icmp_ge, pm_s_iinc, pm_s_iload_n, pm_s_invokevirtual, pm_s_istore_n, pm_s_isub, pm_s_return, ct_X7_orders, pS, pR, pC, pE, pL, -Int32.not_le, -Int32.not_lt, -Int64.not_le, -Int64.not_lt, -List.getD_eq_getElem?_getD]
      rw [tbO_uniq hP (fun v hv => by have := a0 v hv; omega) a1 a2] at a3
      exact hT M1 a3 f1
    have loop : ∀ (f i : Nat) (M1 : pm_M) (L : List Nat), pC P ≤ i + f → i ≤ pC P → (∀ v ∈ L, v < i) → (L.map (ky S)).Perm ((List.range i).map (ky S)) → (L.map (ky S)).Pairwise (· < ·) → (∀ j, j < i → M1.1 19 j = nI (L.getD j 0)) → yfr [19] [] M M1 → X 2 [(0, .ref 0), (1, .int (nI i))] [] M1 := by
      intro f
      induction f with
      | zero =>
        intro i M1 L g1 g2 a0 a1 a2 a3 f1
        have e : i = pC P := by omega
        have m2' : M1.1 0 2 = nI (pC P) := by rw [f1.f (by simp)]; exact m2
        rw [e] at a0 a1 a3 ⊢
        refine hb2 _ _ _ ?_
        simp (maxSteps := 2000000) [bk_X7_orders_0, bk_X7_orders_2, bk_X7_orders_12, bk_X7_orders_52, bk_X7_orders_65, pm_arr, pm_call, pm_e_c0, pm_e_c1, pm_e_cti, pm_e_ctl, pm_e_ctr, pm_e_go, pm_e_i, pm_e_ii, pm_e_ldi, pm_e_ldr, pm_e_lk, pm_e_r, pm_e_ri, pm_e_rii, pm_e_rm0, pm_e_rm1, pm_e_rs0, pm_e_rs1, pm_e_wp0, pm_e_wp1, pm_f2, pm_f3, pm_fld, pm_fv, pm_obj, pm_recv, pm_s_aload_n, pm_s_getfield, pm_s_goto, pm_s_iaload, pm_s_iastore, pm_s_iconst, pm_s_ifCond_eq, pm_s_ifCond_le, pm_s_if_icmp_ge, pm_s_iinc, pm_s_iload_n, pm_s_invokevirtual, pm_s_istore_n, pm_s_isub, pm_s_return, ct_X7_orders, pS, pR, pC, pE, pL, -Int32.not_le, -Int32.not_lt, -Int64.not_le, -Int64.not_lt, -List.getD_eq_getElem?_getD, sy_0, m2']
        exact out M1 L a0 a1 a2 a3 f1
      | succ f ih =>
        intro i M1 L g1 g2 a0 a1 a2 a3 f1
        have m2' : M1.1 0 2 = nI (pC P) := by rw [f1.f (by simp)]; exact m2
        by_cases hi : i < pC P
        · have hLlen : L.length = i := by have := a1.length_eq; simpa using this
          have done : ∀ (U B : List Nat) (M2 : pm_M), U ++ B = L → (∀ j, j < U.length → M2.1 19 j = nI (U.getD j 0)) → (∀ t, t < B.length → M2.1 19 (U.length + 1 + t) = nI (B.getD t 0)) → (∀ v ∈ B, ky S i < ky S v) → (∀ v ∈ U, ky S v < ky S i) → yfr [19] [] M M2 → X 52 [(0, .ref 0), (1, .int (nI i)), (2, .int (nI U.length))] [] M2 := by
            intro U B M2 b1 b2 b3 b4 b5 f2
            have hl : U.length + B.length = i := by rw [← hLlen, ← b1]; simp
            refine hb52 _ _ _ ?_
            simp (maxSteps := 2000000) [bk_X7_orders_0, bk_X7_orders_2, bk_X7_orders_12, bk_X7_orders_52, bk_X7_orders_65, pm_arr, pm_call, pm_e_c0, pm_e_c1, pm_e_cti, pm_e_ctl, pm_e_ctr, pm_e_go, pm_e_i, pm_e_ii, pm_e_ldi, pm_e_ldr, pm_e_lk, pm_e_r, pm_e_ri, pm_e_rii, pm_e_rm0, pm_e_rm1, pm_e_rs0, pm_e_rs1, pm_e_wp0, pm_e_wp1, pm_f2, pm_f3, pm_fld, pm_fv, pm_obj, pm_recv, pm_s_aload_n, pm_s_getfield, pm_s_goto, pm_s_iaload, pm_s_iastore, pm_s_iconst, pm_s_ifCond_eq, pm_s_ifCond_le, pm_s_if_icmp_ge, pm_s_iinc, pm_s_iload_n, pm_s_invokevirtual, pm_s_istore_n, pm_s_isub, pm_s_return, ct_X7_orders, pS, pR, pC, pE, pL, -Int32.not_le, -Int32.not_lt, -Int64.not_le, -Int64.not_lt, -List.getD_eq_getElem?_getD, sy_0, sy_19]
            rw [ni_in (by omega), ni_cl (by omega), ni_add]
            refine ⟨by omega, ?_⟩
            refine ih (i + 1) _ (U ++ i :: B) (by omega) (by omega) (fun v hv => ?_) ?_ ?_ (fun j hj => ?_) (f2.set (by decide) (by decide))
            · rcases List.mem_append.mp hv with q | q
              · have := a0 v (by rw [← b1]; exact List.mem_append_left _ q); omega
              · rcases List.mem_cons.mp q with q | q
                · omega
                · have := a0 v (by rw [← b1]; exact List.mem_append_right _ q); omega
            · rw [List.range_succ, List.map_append, List.map_append, List.map_cons]
              refine List.Perm.trans List.perm_middle ?_
              rw [← List.map_append, b1]
              refine List.Perm.trans (List.Perm.cons _ a1) ?_
              exact (List.perm_append_comm (l₁ := [ky S i]))
            · rw [← b1, List.map_append] at a2
              rw [List.map_append, List.map_cons]
              rw [List.pairwise_append] at a2 ⊢
              refine ⟨a2.1, List.pairwise_cons.mpr ⟨fun w hw => ?_, a2.2.1⟩, fun u hu v hv => ?_⟩
              · obtain ⟨y, y1, y2⟩ := List.mem_map.mp hw
                rw [← y2]; exact b4 y y1
              · rcases List.mem_cons.mp hv with z | z
                · obtain ⟨y, y1, y2⟩ := List.mem_map.mp hu
                  rw [z, ← y2]; exact b5 y y1
                · exact a2.2.2 u hu v z
            · rw [me_1s]
              rcases Nat.lt_trichotomy j U.length with z | z | z
              · rw [if_neg (by omega), b2 j z]
                congr 1
                simp [List.getD_eq_getElem?_getD, List.getElem?_append_left z]
              · subst z
                simp [List.getD_eq_getElem?_getD]
              · obtain ⟨t, rfl⟩ : ∃ t, j = U.length + 1 + t := ⟨j - U.length - 1, by omega⟩
                rw [if_neg (by omega), b3 t (by omega)]
                congr 1
                rw [List.getD_eq_getElem?_getD, List.getD_eq_getElem?_getD, List.getElem?_append_right (by omega), show U.length + 1 + t - U.length = t + 1 by omega, List.getElem?_cons_succ]
          have inner : ∀ (U B : List Nat) (M2 : pm_M), U ++ B = L → (∀ j, j < U.length → M2.1 19 j = nI (U.getD j 0)) → (∀ t, t < B.length → M2.1 19 (U.length + 1 + t) = nI (B.getD t 0)) → (∀ v ∈ B, ky S i < ky S v) → yfr [19] [] M M2 → X 12 [(0, .ref 0), (1, .int (nI i)), (2, .int (nI U.length))] [] M2 := by
            intro U
            induction U using rev_ind with
            | nil =>
              intro B M2 b1 b2 b3 b4 f2
              refine hb12 _ _ _ ?_
              simp (maxSteps := 2000000) [bk_X7_orders_0, bk_X7_orders_2, bk_X7_orders_12, bk_X7_orders_52, bk_X7_orders_65, pm_arr, pm_call, pm_e_c0, pm_e_c1, pm_e_cti, pm_e_ctl, pm_e_ctr, pm_e_go, pm_e_i, pm_e_ii, pm_e_ldi, pm_e_ldr, pm_e_lk, pm_e_r, pm_e_ri, pm_e_rii, pm_e_rm0, pm_e_rm1, pm_e_rs0, pm_e_rs1, pm_e_wp0, pm_e_wp1, pm_f2, pm_f3, pm_fld, pm_fv, pm_obj, pm_recv, pm_s_aload_n, pm_s_getfield, pm_s_goto, pm_s_iaload, pm_s_iastore, pm_s_iconst, pm_s_ifCond_eq, pm_s_ifCond_le, pm_s_if_icmp_ge, pm_s_iinc, pm_s_iload_n, pm_s_invokevirtual, pm_s_istore_n, pm_s_isub, pm_s_return, ct_X7_orders, pS, pR, pC, pE, pL, -Int32.not_le, -Int32.not_lt, -Int64.not_le, -Int64.not_lt, -List.getD_eq_getElem?_getD, sy_0]
              have := done [] B M2 b1 b2 b3 b4 (fun v hv => by cases hv) f2
              exact ⟨fun _ => this, fun h => absurd (by decide) h⟩
            | snoc U v ihU =>
              intro B M2 b1 b2 b3 b4 f2
              have hl : U.length + 1 + B.length = i := by rw [← hLlen, ← b1]; simp; omega
              have hvL := a0 v (by rw [← b1]; simp)
              have hov : M2.1 19 U.length = nI v := by
                have := b2 U.length (by simp)
                rw [this, getD_snoc]
              have hlen : (U ++ [v]).length = U.length + 1 := by simp
              rw [hlen]
              refine hb12 _ _ _ ?_
              simp (maxSteps := 2000000) [bk_X7_orders_0, bk_X7_orders_2, bk_X7_orders_12, bk_X7_orders_52, bk_X7_orders_65, pm_arr, pm_call, pm_e_c0, pm_e_c1, pm_e_cti, pm_e_ctl, pm_e_ctr, pm_e_go, pm_e_i, pm_e_ii, pm_e_ldi, pm_e_ldr, pm_e_lk, pm_e_r, pm_e_ri, pm_e_rii, pm_e_rm0, pm_e_rm1, pm_e_rs0, pm_e_rs1, pm_e_wp0, pm_e_wp1, pm_f2, pm_f3, pm_fld, pm_fv, pm_obj, pm_recv, pm_s_aload_n, pm_s_getfield, pm_s_goto, pm_s_iaload, pm_s_iastore, pm_s_iconst, pm_s_ifCond_eq, pm_s_ifCond_le, pm_s_if_icmp_ge, pm_s_iinc, pm_s_iload_n, pm_s_invokevirtual, pm_s_istore_n, pm_s_isub, pm_s_return, ct_X7_orders, pS, pR, pC, pE, pL, -Int32.not_le, -Int32.not_lt, -Int64.not_le, -Int64.not_lt, -List.getD_eq_getElem?_getD, sy_0, sy_19]
              rw [ni_le0 (by omega), ni_sub (by omega), Nat.add_sub_cancel, ni_in (n := 4) (by omega), ni_cl (a := U.length) (by omega), hov]
              refine ⟨fun h => by omega, fun _ => ⟨by omega, P, S, i, v, rfl, rfl, by omega, by omega, hP, hS.mv f2 (by decide) (by decide), hO, hI, ?_⟩⟩
              simp (maxSteps := 2000000) [bk_X7_orders_0, bk_X7_orders_2, bk_X7_orders_12, bk_X7_orders_52, bk_X7_orders_65, pm_arr, pm_call, pm_e_c0, pm_e_c1, pm_e_cti, pm_e_ctl, pm_e_ctr, pm_e_go, pm_e_i, pm_e_ii, pm_e_ldi, pm_e_ldr, pm_e_lk, pm_e_r, pm_e_ri, pm_e_rii, pm_e_rm0, pm_e_rm1, pm_e_rs0, pm_e_rs1, pm_e_wp0, pm_e_wp1, pm_f2, pm_f3, pm_fld, pm_fv, pm_obj, pm_recv, pm_s_aload_n, pm_s_getfield, pm_s_goto, pm_s_iaload, pm_s_iastore, pm_s_iconst, pm_s_ifCond_eq, pm_s_ifCond_le, pm_s_if_icmp_ge, pm_s_iinc, pm_s_iload_n, pm_s_invokevirtual, pm_s_istore_n, pm_s_isub, pm_s_return, ct_X7_orders, pS, pR, pC, pE, pL, -Int32.not_le, -Int32.not_lt, -Int64.not_le, -Int64.not_lt, -List.getD_eq_getElem?_getD, sy_0, sy_19, pb_eq0]
              rw [ni_cl (a := U.length + 1) (by omega), hov]
              refine ⟨fun h => ?_, fun h => ?_⟩
              · have hle : ¬ ky S i < ky S v := fun z => by have := (ky_al S (by omega) hvL).mpr z; omega
                have hnk := ky_ne S (i := i) (j := v) (by omega) (by omega) (by omega)
                have := done (U ++ [v]) B M2 b1 b2 b3 b4 (fun w hw => ?_) f2
                · rw [hlen] at this; exact this
                · rcases List.mem_append.mp hw with z | z
                  · rw [← b1, List.map_append, List.map_append, List.pairwise_append, List.pairwise_append] at a2
                    have := a2.1.2.2 (ky S w) (List.mem_map_of_mem z) (ky S v) (by simp)
                    omega
                  · rw [List.mem_singleton.mp z]; omega
              · have hlt : ky S i < ky S v := (ky_al S (by omega) hvL).mp h
                rw [ni_m1]
                have hU3 : U.length + 1 < 4 := by omega
                refine ⟨by omega, by rw [ni_in (by omega)]; exact hU3, ?_⟩
                refine ihU (v :: B) _ (by rw [← b1]; simp) (fun j hj => ?_) (fun t ht => ?_) (fun w hw => ?_) (f2.set (by decide) (by decide))
                · rw [me_1s, if_neg (by omega)]
                  have := b2 j (by simp; omega)
                  rw [this]; congr 1
                  simp [List.getD_eq_getElem?_getD, List.getElem?_append_left hj]
                · rw [me_1s]
                  cases t with
                  | zero => simp
                  | succ t =>
                    rw [if_neg (by omega)]
                    have := b3 t (by simpa using ht)
                    rw [show (U ++ [v]).length + 1 + t = U.length + 1 + (t + 1) by simp; omega] at this
                    rw [this]; rfl
                · rcases List.mem_cons.mp hw with z | z
                  · rw [z]; exact hlt
                  · exact b4 w z
          refine hb2 _ _ _ ?_
          simp (maxSteps := 2000000) [bk_X7_orders_0, bk_X7_orders_2, bk_X7_orders_12, bk_X7_orders_52, bk_X7_orders_65, pm_arr, pm_call, pm_e_c0, pm_e_c1, pm_e_cti, pm_e_ctl, pm_e_ctr, pm_e_go, pm_e_i, pm_e_ii, pm_e_ldi, pm_e_ldr, pm_e_lk, pm_e_r, pm_e_ri, pm_e_rii, pm_e_rm0, pm_e_rm1, pm_e_rs0, pm_e_rs1, pm_e_wp0, pm_e_wp1, pm_f2, pm_f3, pm_fld, pm_fv, pm_obj, pm_recv, pm_s_aload_n, pm_s_getfield, pm_s_goto, pm_s_iaload, pm_s_iastore, pm_s_iconst, pm_s_ifCond_eq, pm_s_ifCond_le, pm_s_if_icmp_ge, pm_s_iinc, pm_s_iload_n, pm_s_invokevirtual, pm_s_istore_n, pm_s_isub, pm_s_return, ct_X7_orders, pS, pR, pC, pE, pL, -Int32.not_le, -Int32.not_lt, -Int64.not_le, -Int64.not_lt, -List.getD_eq_getElem?_getD, sy_0, m2']
          dsimp only [pC] at hi h7
          rw [ni_le (by omega) (by omega)]
          refine ⟨fun h => by omega, fun _ => ?_⟩
          have := inner L [] M1 (by simp) (fun j hj => a3 j (by omega)) (fun t ht => by simp at ht) (fun v hv => by cases hv) f1
          rw [hLlen] at this
          exact this
        · have e : i = pC P := by omega
          rw [e] at a0 a1 a3 ⊢
          refine hb2 _ _ _ ?_
          simp (maxSteps := 2000000) [bk_X7_orders_0, bk_X7_orders_2, bk_X7_orders_12, bk_X7_orders_52, bk_X7_orders_65, pm_arr, pm_call, pm_e_c0, pm_e_c1, pm_e_cti, pm_e_ctl, pm_e_ctr, pm_e_go, pm_e_i, pm_e_ii, pm_e_ldi, pm_e_ldr, pm_e_lk, pm_e_r, pm_e_ri, pm_e_rii, pm_e_rm0, pm_e_rm1, pm_e_rs0, pm_e_rs1, pm_e_wp0, pm_e_wp1, pm_f2, pm_f3, pm_fld, pm_fv, pm_obj, pm_recv, pm_s_aload_n, pm_s_getfield, pm_s_goto, pm_s_iaload, pm_s_iastore, pm_s_iconst, pm_s_ifCond_eq, pm_s_ifCond_le, pm_s_if_icmp_ge, pm_s_iinc, pm_s_iload_n, pm_s_invokevirtual, pm_s_istore_n, pm_s_isub, pm_s_return, ct_X7_orders, pS, pR, pC, pE, pL, -Int32.not_le, -Int32.not_lt, -Int64.not_le, -Int64.not_lt, -List.getD_eq_getElem?_getD, sy_0, m2']
          exact out M1 L a0 a1 a2 a3 f1
    refine hb0 _ _ _ ?_
    simp (maxSteps := 2000000) [bk_X7_orders_0, bk_X7_orders_2, bk_X7_orders_12, bk_X7_orders_52, bk_X7_orders_65, pm_arr, pm_call, pm_e_c0, pm_e_c1, pm_e_cti, pm_e_ctl, pm_e_ctr, pm_e_go, pm_e_i, pm_e_ii, pm_e_ldi, pm_e_ldr, pm_e_lk, pm_e_r, pm_e_ri, pm_e_rii, pm_e_rm0, pm_e_rm1, pm_e_rs0, pm_e_rs1, pm_e_wp0, pm_e_wp1, pm_f2, pm_f3, pm_fld, pm_fv, pm_obj, pm_recv, pm_s_aload_n, pm_s_getfield, pm_s_goto, pm_s_iaload, pm_s_iastore, pm_s_iconst, pm_s_ifCond_eq, pm_s_ifCond_le, pm_s_if_icmp_ge, pm_s_iinc, pm_s_iload_n, pm_s_invokevirtual, pm_s_istore_n, pm_s_isub, pm_s_return, ct_X7_orders, pS, pR, pC, pE, pL, -Int32.not_le, -Int32.not_lt, -Int64.not_le, -Int64.not_lt, -List.getD_eq_getElem?_getD, lv_args]
    exact loop (pC P) 0 M [] (by omega) (by omega) (fun v hv => by cases hv) (List.Perm.refl _) List.Pairwise.nil (fun j hj => by omega) yfr.rfl
  · exact hT.elim
