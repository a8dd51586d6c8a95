/-! the rest of the small ones of a stand -/
def st00 : St := (fun _ => [], fun _ => 0, fun _ => 0)
def tt_X4_clear : pm_T := fun args M k => match args with
  | [.ref p, .int x] => ∃ ec, isSt p ∧ x = nI ec ∧ ec ≤ 2 ∧ ∀ M', SdX M' p ec st00 → pm_fr (stF p) M M' → k none M'
  | _ => False
abbrev ct_X4_clear : List pm_C := [(true, 36, 0, 2, none, tt_J7_fill_d0a16 SHx), (true, 42, 0, 2, none, tt_J7_fill_53178 SHx)]
theorem pm_fr.fill {ps : List Nat} {M M' : pm_M} {q n : Nat} {v : Int32} (h : pm_fr ps M M') (hq : q ∈ ps) : pm_fr ps M (pm_fill M' q n v) := fun a ha => by
  have hn : a ≠ q := fun e => ha (e ▸ hq)
  refine ⟨?_, (h a ha).2⟩
  rw [← (h a ha).1]; funext j; simp [pm_fill, hn]
theorem pm_fr.fillL {ps : List Nat} {M M' : pm_M} {q n : Nat} {v : Int64} (h : pm_fr ps M M') (hq : q ∈ ps) : pm_fr ps M (pm_fillL M' q n v) := fun a ha => by
  have hn : a ≠ q := fun e => ha (e ▸ hq)
  refine ⟨(h a ha).1, ?_⟩
  rw [← (h a ha).2]; funext j; simp [pm_fillL, hn]
set_option maxHeartbeats 4000000 in
theorem sm_X4_clear  : pm_Sem SHx yX4_clear cX4_clear 2 none 2 tt_X4_clear := by
  refine pm_Sem_intro bl_X4_clear ct_X4_clear cs_X4_clear rfl (List.forall_mem_cons.mpr ⟨⟨_, _, _, _, sm_J7_fill_d0a16, by decide, cm_J7_fill_d0a16, by decide +kernel⟩, List.forall_mem_cons.mpr ⟨⟨_, _, _, _, sm_J7_fill_53178, by decide, cm_J7_fill_53178, by decide +kernel⟩, fun _ h => absurd h List.not_mem_nil⟩⟩) ck_X4_clear (by decide +kernel) (by decide) ?_
  intro X k hX args M hT
  have hb0 := hX 0 bk_X4_clear_0 (List.mem_of_getElem? (i := 0) rfl)
  clear hX
  unfold tt_X4_clear at hT; split at hT
  · next p x =>
    obtain ⟨ec, hp, rfl, he, hT⟩ := hT
    refine ⟨by simp [lg_sl, Value.category], ?_⟩
    refine hb0 _ _ _ ?_
    simp [bk_X4_clear_0, pm_call, pm_e_c0, pm_e_c1, pm_e_cti, pm_e_ctl, pm_e_ctr, pm_e_go, pm_e_ldi, pm_e_ldr, pm_e_lk, pm_e_r, pm_e_rm0, pm_e_rm1, pm_e_rs0, pm_e_rs1, pm_e_wp0, pm_e_wp1, pm_f2, pm_f3, pm_fld, pm_fv, pm_obj, pm_recv, pm_s_aload_n, pm_s_getfield, pm_s_iconst, pm_s_iload_n, pm_s_invokestatic, pm_s_lconst, pm_s_putfield, pm_s_return, ct_X4_clear, pS, pR, pC, pE, pL, -Int32.not_le, -Int32.not_lt, -Int64.not_le, -Int64.not_lt, lv_args, st_0 hp]
    refine ⟨4, st_1 hp, by decide, ?_⟩
    simp [bk_X4_clear_0, pm_call, pm_e_c0, pm_e_c1, pm_e_cti, pm_e_ctl, pm_e_ctr, pm_e_go, pm_e_ldi, pm_e_ldr, pm_e_lk, pm_e_r, pm_e_rm0, pm_e_rm1, pm_e_rs0, pm_e_rs1, pm_e_wp0, pm_e_wp1, pm_f2, pm_f3, pm_fld, pm_fv, pm_obj, pm_recv, pm_s_aload_n, pm_s_getfield, pm_s_iconst, pm_s_iload_n, pm_s_invokestatic, pm_s_lconst, pm_s_putfield, pm_s_return, ct_X4_clear, pS, pR, pC, pE, pL, -Int32.not_le, -Int32.not_lt, -Int64.not_le, -Int64.not_lt, lv_args, st_0 hp]
    refine ⟨4, st_2 hp, by decide, ?_⟩
    simp [bk_X4_clear_0, pm_call, pm_e_c0, pm_e_c1, pm_e_cti, pm_e_ctl, pm_e_ctr, pm_e_go, pm_e_ldi, pm_e_ldr, pm_e_lk, pm_e_r, pm_e_rm0, pm_e_rm1, pm_e_rs0, pm_e_rs1, pm_e_wp0, pm_e_wp1, pm_f2, pm_f3, pm_fld, pm_fv, pm_obj, pm_recv, pm_s_aload_n, pm_s_getfield, pm_s_iconst, pm_s_iload_n, pm_s_invokestatic, pm_s_lconst, pm_s_putfield, pm_s_return, ct_X4_clear, pS, pR, pC, pE, pL, -Int32.not_le, -Int32.not_lt, -Int64.not_le, -Int64.not_lt, lv_args, st_0 hp]
    refine ⟨2, st_3 hp, by decide, ?_⟩
    simp [bk_X4_clear_0, pm_call, pm_e_c0, pm_e_c1, pm_e_cti, pm_e_ctl, pm_e_ctr, pm_e_go, pm_e_ldi, pm_e_ldr, pm_e_lk, pm_e_r, pm_e_rm0, pm_e_rm1, pm_e_rs0, pm_e_rs1, pm_e_wp0, pm_e_wp1, pm_f2, pm_f3, pm_fld, pm_fv, pm_obj, pm_recv, pm_s_aload_n, pm_s_getfield, pm_s_iconst, pm_s_iload_n, pm_s_invokestatic, pm_s_lconst, pm_s_putfield, pm_s_return, ct_X4_clear, pS, pR, pC, pE, pL, -Int32.not_le, -Int32.not_lt, -Int64.not_le, -Int64.not_lt, lv_args, st_0 hp]
    refine ⟨4, st_4 hp, by decide, ?_⟩
    simp [bk_X4_clear_0, pm_call, pm_e_c0, pm_e_c1, pm_e_cti, pm_e_ctl, pm_e_ctr, pm_e_go, pm_e_ldi, pm_e_ldr, pm_e_lk, pm_e_r, pm_e_rm0, pm_e_rm1, pm_e_rs0, pm_e_rs1, pm_e_wp0, pm_e_wp1, pm_f2, pm_f3, pm_fld, pm_fv, pm_obj, pm_recv, pm_s_aload_n, pm_s_getfield, pm_s_iconst, pm_s_iload_n, pm_s_invokestatic, pm_s_lconst, pm_s_putfield, pm_s_return, ct_X4_clear, pS, pR, pC, pE, pL, -Int32.not_le, -Int32.not_lt, -Int64.not_le, -Int64.not_lt, lv_args, st_0 hp]
    refine hT _ ?_ (((((pm_fr.rfl.set (by simp)).fillL (by simp)).fill (by simp)).fill (by simp)).fill (by simp))
    refine ⟨⟨fun i _ => ⟨by simp [st00], fun d hd => by simp [st00] at hd⟩, fun j _ => by simp [st00], fun j _ => by simp [st00]⟩, he, ?_, fun i hi => ⟨?_, ?_, ?_⟩, fun j hj => ?_⟩
    · simp [pm_fill, pm_fillL, pm_set]
    · simp [pm_fill, pm_fillL, pm_set, hi, st00, pq_nil]
    · simp [pm_fill, pm_fillL, pm_set, hi, st00]
    · simp [pm_fill, pm_fillL, pm_set, hi, st00]
    · simp [pm_fill, pm_fillL, pm_set, hj, st00]
  · exact hT.elim
/-- the card at a place of a column, or 0 -/
def tt_X4_cardAt : pm_T := fun args M k => match args with
  | [.ref p, .int x, .int y] => ∃ ec S i, isSt p ∧ x = nI i ∧ SdX M p ec S ∧ i < 4 ∧ (∀ j, j < (S.1 i).length → y = nI j → k (some (.int (nI ((S.1 i).getD j 0)))) M) ∧ ((∀ j, j < (S.1 i).length → y ≠ nI j) → k (some (.int (nI 0))) M)
  | _ => False
abbrev ct_X4_cardAt : List pm_C := [(true, 51, 6, 3, (some .boolean), tt_X6_isWithin)]
set_option maxHeartbeats 4000000 in
theorem sm_X4_cardAt  : pm_Sem SHx yX4_cardAt cX4_cardAt 3 (some .int) 2 tt_X4_cardAt := by
  refine pm_Sem_intro bl_X4_cardAt ct_X4_cardAt cs_X4_cardAt rfl (List.forall_mem_cons.mpr ⟨⟨_, _, _, _, sm_X6_isWithin, by decide, cm_X6_isWithin, by decide +kernel⟩, fun _ h => absurd h List.not_mem_nil⟩) ck_X4_cardAt (by decide +kernel) (by decide) ?_
  intro X k hX args M hT
  have hb0 := hX 0 bk_X4_cardAt_0 (List.mem_of_getElem? (i := 0) rfl)
  have hb18 := hX 18 bk_X4_cardAt_18 (List.mem_of_getElem? (i := 1) rfl)
  clear hX
  unfold tt_X4_cardAt at hT; split at hT
  · next p x y =>
    obtain ⟨ec, S, i, hp, rfl, hS, hi, hT1, hT2⟩ := hT
    have h48 := hS.p48 hi
    have hl12 := hS.len hi
    refine ⟨by simp [lg_sl, Value.category], ?_⟩
    refine hb0 _ _ _ ?_
    simp [bk_X4_cardAt_0, bk_X4_cardAt_18, pm_arr, pm_call, pm_e_c0, pm_e_c1, pm_e_cti, pm_e_ctl, pm_e_ctr, pm_e_go, pm_e_i, pm_e_ii, pm_e_l, pm_e_ldi, pm_e_ldr, pm_e_li, pm_e_lk, pm_e_r, pm_e_ri, pm_e_rm0, pm_e_rm1, pm_e_rs0, pm_e_rs1, pm_e_wp0, pm_e_wp1, pm_f2, pm_f3, pm_fld, pm_fv, pm_obj, pm_recv, pm_s_aload_n, pm_s_bipush, pm_s_getfield, pm_s_iaload, pm_s_iand, pm_s_iconst, pm_s_ifCond_ne, pm_s_iload_n, pm_s_imul, pm_s_invokestatic, pm_s_ireturn, pm_s_isub, pm_s_l2i, pm_s_laload, pm_s_lushr, ct_X4_cardAt, tt_X6_isWithin, pS, pR, pC, pE, pL, -Int32.not_le, -Int32.not_lt, -Int64.not_le, -Int64.not_lt, lv_args, st_0 hp, st_2 hp, pb_eq0]
    simp (disch := omega) only [ni_in, ni_cl, ni_add, ni_mul, ni_sub, ni_lt, ni_le, ni_eq, ni_eq0, ni_lt0, ni_0le, ni_0lt, ni_le0, ni_a1, ni_a3, ni_a7, ni_a15, hS.n hi]
    refine ⟨hi, fun hw => ?_, fun hw => ?_⟩
    · have hl0 : 0 < (S.1 i).length := by
        rcases Nat.eq_zero_or_pos (S.1 i).length with h | h
        · exfalso
          rw [h, show nI 0 - nI 1 = -nI 1 from by decide] at hw
          simp only [wi, Bool.and_eq_true, Bool.not_eq_true', decide_eq_false_iff_not, Int32.not_lt] at hw
          have h1 := Int32.le_trans hw.1 hw.2
          exact absurd h1 (by decide)
        · exact h
      rw [ni_sub (by omega)] at hw
      obtain ⟨j, rfl, j1, j2⟩ := wi_ex (by decide) (by omega) hw
      refine hb18 _ _ _ ?_
      simp [bk_X4_cardAt_0, bk_X4_cardAt_18, pm_arr, pm_call, pm_e_c0, pm_e_c1, pm_e_cti, pm_e_ctl, pm_e_ctr, pm_e_go, pm_e_i, pm_e_ii, pm_e_l, pm_e_ldi, pm_e_ldr, pm_e_li, pm_e_lk, pm_e_r, pm_e_ri, pm_e_rm0, pm_e_rm1, pm_e_rs0, pm_e_rs1, pm_e_wp0, pm_e_wp1, pm_f2, pm_f3, pm_fld, pm_fv, pm_obj, pm_recv, pm_s_aload_n, pm_s_bipush, pm_s_getfield, pm_s_iaload, pm_s_iand, pm_s_iconst, pm_s_ifCond_ne, pm_s_iload_n, pm_s_imul, pm_s_invokestatic, pm_s_ireturn, pm_s_isub, pm_s_l2i, pm_s_laload, pm_s_lushr, ct_X4_cardAt, tt_X6_isWithin, pS, pR, pC, pE, pL, -Int32.not_le, -Int32.not_lt, -Int64.not_le, -Int64.not_lt, st_0 hp, st_1 hp, st_2 hp]
      simp (disch := omega) only [ni_in, ni_cl, ni_add, ni_mul, ni_sub, ni_lt, ni_le, ni_eq, ni_eq0, ni_lt0, ni_0le, ni_0lt, ni_le0, ni_a1, ni_a3, ni_a7, ni_a15, hS.n hi, hS.c hi]
      repeat refine ⟨by omega, ?_⟩
      rw [wb_shr (by omega) (by omega), ln_i]
      have e1 : nI (pq (S.1 i) / 2 ^ (4 * ((S.1 i).length - 1 - j))) &&& nI 15 = nI ((S.1 i).getD j 0) := by
        rw [← pq_at (hS.d16 hi) (show j < (S.1 i).length by omega), show (16 : Nat) = 2 ^ 4 from rfl, ← Nat.pow_mul]
        refine (pk_and _ 4 (by decide)).trans ?_
        rw [show (nI (pq (S.1 i) / 2 ^ (4 * ((S.1 i).length - 1 - j)))).toBitVec.toNat = (pq (S.1 i) / 2 ^ (4 * ((S.1 i).length - 1 - j))) % 2 ^ 32 from rfl]
        congr 1
        exact Nat.mod_mod_of_dvd _ (by decide)
      rw [e1]
      exact hT1 j (by omega) rfl
    · refine hT2 (fun j hj => ?_)
      rw [ni_sub (by omega)] at hw
      exact wi_no (by decide) (by omega) hw (by omega) (by omega)
  · exact hT.elim
def hoS (S : St) : Nat := S.2.2 0 + S.2.2 1 + S.2.2 2 + S.2.2 3
def tt_X4_cardsInHouses : pm_T := fun args M k => match args with
  | [.ref p] => ∃ ec S, isSt p ∧ SdX M p ec S ∧ k (some (.int (nI (hoS S)))) M
  | _ => False
abbrev ct_X4_cardsInHouses : List pm_C := []
set_option maxHeartbeats 4000000 in
theorem sm_X4_cardsInHouses  : pm_Sem SHx yX4_cardsInHouses cX4_cardsInHouses 1 (some .int) 1 tt_X4_cardsInHouses := by
  refine pm_Sem_intro bl_X4_cardsInHouses ct_X4_cardsInHouses cs_X4_cardsInHouses rfl (fun _ h => absurd h List.not_mem_nil) ck_X4_cardsInHouses (by decide +kernel) (by decide) ?_
  intro X k hX args M hT
  have hb0 := hX 0 bk_X4_cardsInHouses_0 (List.mem_of_getElem? (i := 0) rfl)
  clear hX
  unfold tt_X4_cardsInHouses at hT; split at hT
  · next p =>
    obtain ⟨ec, S, hp, hS, hT⟩ := hT
    refine ⟨by simp [lg_sl, Value.category], ?_⟩
    refine hb0 _ _ _ ?_
    simp [bk_X4_cardsInHouses_0, pm_arr, pm_e_c0, pm_e_c1, pm_e_cti, pm_e_ctl, pm_e_ctr, pm_e_go, pm_e_ii, pm_e_ldr, pm_e_lk, pm_e_r, pm_e_ri, pm_e_rm0, pm_e_rm1, pm_e_rs0, pm_e_rs1, pm_e_wp0, pm_e_wp1, pm_f2, pm_f3, pm_fld, pm_fv, pm_obj, pm_s_aload_n, pm_s_getfield, pm_s_iadd, pm_s_iaload, pm_s_iconst, pm_s_ireturn, ct_X4_cardsInHouses, pS, pR, pC, pE, pL, -Int32.not_le, -Int32.not_lt, -Int64.not_le, -Int64.not_lt, lv_args, st_0 hp, st_4 hp]
    simp (disch := omega) only [ni_in, ni_cl, ni_add, ni_mul, ni_sub, ni_lt, ni_le, ni_eq, ni_eq0, ni_lt0, ni_0le, ni_0lt, ni_le0, ni_a1, ni_a3, ni_a7, ni_a15, hS.h (show 0 < 4 by decide), hS.h (show 1 < 4 by decide), hS.h (show 2 < 4 by decide), hS.h (show 3 < 4 by decide)]
    repeat refine ⟨by omega, ?_⟩
    exact hT
  · exact hT.elim
def tt_X4_isDone : pm_T := fun args M k => match args with
  | [.ref p] => ∃ ec S P, isSt p ∧ SdX M p ec S ∧ DkX M P ∧ k (some (.int (pb (decide (hoS S = pS P * pR P))))) M
  | _ => False
abbrev ct_X4_isDone : List pm_C := [(false, 55, 4, 1, (some .int), tt_X4_cardsInHouses), (false, 59, 0, 1, (some .int), tt_X0_size)]
set_option maxHeartbeats 4000000 in
theorem sm_X4_isDone  : pm_Sem SHx yX4_isDone cX4_isDone 1 (some .boolean) 2 tt_X4_isDone := by
  refine pm_Sem_intro bl_X4_isDone ct_X4_isDone cs_X4_isDone rfl (List.forall_mem_cons.mpr ⟨⟨_, _, _, _, sm_X4_cardsInHouses, by decide, cm_X4_cardsInHouses, by decide +kernel⟩, List.forall_mem_cons.mpr ⟨⟨_, _, _, _, sm_X0_size, by decide, cm_X0_size, by decide +kernel⟩, fun _ h => absurd h List.not_mem_nil⟩⟩) ck_X4_isDone (by decide +kernel) (by decide) ?_
  intro X k hX args M hT
  have hb0 := hX 0 bk_X4_isDone_0 (List.mem_of_getElem? (i := 0) rfl)
  have hb18 := hX 18 bk_X4_isDone_18 (List.mem_of_getElem? (i := 1) rfl)
  have hb19 := hX 19 bk_X4_isDone_19 (List.mem_of_getElem? (i := 2) rfl)
  clear hX
  unfold tt_X4_isDone at hT; split at hT
  · next p =>
    obtain ⟨ec, S, P, hp, hS, hD, hT⟩ := hT
    have hP := hD.1.1
    have b0 := hS.1.2.2 0 (by decide)
    have b1 := hS.1.2.2 1 (by decide)
    have b2 := hS.1.2.2 2 (by decide)
    have b3 := hS.1.2.2 3 (by decide)
    have hb : hoS S ≤ 24 := by unfold hoS; omega
    refine ⟨by simp [lg_sl, Value.category], ?_⟩
    refine hb0 _ _ _ ?_
    simp [bk_X4_isDone_0, bk_X4_isDone_18, bk_X4_isDone_19, pm_call, pm_e_c0, pm_e_c1, pm_e_cti, pm_e_ctl, pm_e_ctr, pm_e_go, pm_e_ii, pm_e_ldr, pm_e_lk, pm_e_r, pm_e_rm0, pm_e_rm1, pm_e_rs0, pm_e_rs1, pm_e_wp0, pm_e_wp1, pm_f2, pm_f3, pm_fld, pm_fv, pm_obj, pm_recv, pm_s_aload_n, pm_s_getfield, pm_s_goto, pm_s_iconst, pm_s_if_icmp_ne, pm_s_invokevirtual, pm_s_ireturn, ct_X4_isDone, tt_X0_size, pS, pR, pC, pE, pL, -Int32.not_le, -Int32.not_lt, -Int64.not_le, -Int64.not_lt, lv_args, st_0 hp, sx_1]
    refine ⟨ec, S, hp, hS, ?_⟩
    simp [bk_X4_isDone_0, bk_X4_isDone_18, bk_X4_isDone_19, pm_call, pm_e_c0, pm_e_c1, pm_e_cti, pm_e_ctl, pm_e_ctr, pm_e_go, pm_e_ii, pm_e_ldr, pm_e_lk, pm_e_r, pm_e_rm0, pm_e_rm1, pm_e_rs0, pm_e_rs1, pm_e_wp0, pm_e_wp1, pm_f2, pm_f3, pm_fld, pm_fv, pm_obj, pm_recv, pm_s_aload_n, pm_s_getfield, pm_s_goto, pm_s_iconst, pm_s_if_icmp_ne, pm_s_invokevirtual, pm_s_ireturn, ct_X4_isDone, tt_X0_size, pS, pR, pC, pE, pL, -Int32.not_le, -Int32.not_lt, -Int64.not_le, -Int64.not_lt, lv_args, st_0 hp, sx_1, hD.1.2.1.1, hD.1.2.1.2.1]
    obtain ⟨h1, h2, h3, h4, h5, h6, h7, h8, h9⟩ := hP
    dsimp only [pS, pR] at h1 h2 h3 h4 h5 hT
    simp (disch := omega) only [ni_in, ni_cl, ni_add, ni_mul, ni_sub, ni_lt, ni_le, ni_eq, ni_eq0, ni_lt0, ni_0le, ni_0lt, ni_le0, ni_a1, ni_a3, ni_a7, ni_a15]
    repeat' first
      | refine ⟨fun _ => ?_, fun _ => ?_⟩
      | (refine hb18 _ _ _ ?_; simp [bk_X4_isDone_0, bk_X4_isDone_18, bk_X4_isDone_19, pm_call, pm_e_c0, pm_e_c1, pm_e_cti, pm_e_ctl, pm_e_ctr, pm_e_go, pm_e_ii, pm_e_ldr, pm_e_lk, pm_e_r, pm_e_rm0, pm_e_rm1, pm_e_rs0, pm_e_rs1, pm_e_wp0, pm_e_wp1, pm_f2, pm_f3, pm_fld, pm_fv, pm_obj, pm_recv, pm_s_aload_n, pm_s_getfield, pm_s_goto, pm_s_iconst, pm_s_if_icmp_ne, pm_s_invokevirtual, pm_s_ireturn, ct_X4_isDone, tt_X0_size, pS, pR, pC, pE, pL, -Int32.not_le, -Int32.not_lt, -Int64.not_le, -Int64.not_lt, ni_0, ni_1])
      | (refine hb19 _ _ _ ?_; simp [bk_X4_isDone_0, bk_X4_isDone_18, bk_X4_isDone_19, pm_call, pm_e_c0, pm_e_c1, pm_e_cti, pm_e_ctl, pm_e_ctr, pm_e_go, pm_e_ii, pm_e_ldr, pm_e_lk, pm_e_r, pm_e_rm0, pm_e_rm1, pm_e_rs0, pm_e_rs1, pm_e_wp0, pm_e_wp1, pm_f2, pm_f3, pm_fld, pm_fv, pm_obj, pm_recv, pm_s_aload_n, pm_s_getfield, pm_s_goto, pm_s_iconst, pm_s_if_icmp_ne, pm_s_invokevirtual, pm_s_ireturn, ct_X4_isDone, tt_X0_size, pS, pR, pC, pE, pL, -Int32.not_le, -Int32.not_lt, -Int64.not_le, -Int64.not_lt, ni_0, ni_1])
    all_goals simp_all [ni_0, ni_1, pb_t, pb_f, -Int32.not_le, -Int32.not_lt]
  · exact hT.elim
