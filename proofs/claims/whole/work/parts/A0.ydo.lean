theorem SdY.setE {M : pm_M} {b r : Nat} {S : St} (h : SdY M b 0 r S) {j d : Nat} : SdY (pm_set M (b + 2) j (nI (cdN r d))) b 0 r (S.1, up S.2.1 j d, S.2.2) := by
  refine ⟨fun i hi => ⟨?_, ?_, fun x hx => ?_⟩, fun x hx => ?_⟩
  · simp only [me_1]; simpa using (h.1 i hi).1
  · simp only [me_1]; simpa using (h.1 i hi).2.1
  · have := (h.1 i hi).2.2 x hx
    simp only [me_1]; simpa using this
  · rw [show 2 * 0 + x = x by omega, me_1s]
    by_cases z : x = j
    · rw [if_pos z, z]; simp only [up_s]
    · rw [if_neg z]; simp only [up_n S.2.1 d z]; exact h.e hx
theorem SdY.setH {M : pm_M} {b r : Nat} {S : St} (h : SdY M b 0 r S) {t v : Nat} : SdY (pm_set M (b + 3) t (nI v)) b 0 r (S.1, S.2.1, up S.2.2 t v) := by
  refine ⟨fun i hi => ⟨?_, ?_, fun x hx => ?_⟩, fun x hx => ?_⟩
  · simp only [me_1]; simpa using (h.1 i hi).1
  · rw [show 4 * 0 + i = i by omega, me_1s]
    by_cases z : i = t
    · rw [if_pos z, z]; simp only [up_s]
    · rw [if_neg z]; simp only [up_n S.2.2 v z]; exact h.h hi
  · have := (h.1 i hi).2.2 x hx
    simp only [me_1]; simpa using this
  · have := h.2 x hx
    simp only [me_1]; simpa using this
theorem SdY.pop {M : pm_M} {b r : Nat} {S : St} (h : SdY M b 0 r S) (hl : ∀ j, j < 4 → (S.1 j).length ≤ 12) {i : Nat} (hi : i < 4) : SdY (pm_set M b i (nI ((S.1 i).length - 1))) b 0 r (aPop S i) := by
  refine SdY.col (M := M) h hi (by have := hl i hi; simp; omega) hl (fun j hj => ?_) (fun j hj => ?_) (fun x hx => ?_) ?_ ?_
  · rw [me_1s]; simp
  · have hj' : j < (S.1 i).length - 1 := by simpa using hj
    have := h.c hi (j := j) (by omega)
    simp only [me_1]; simp
    rw [this]
    congr 2
    rw [List.getD_eq_getElem?_getD, List.getElem?_dropLast, if_pos hj']
  · simp [pm_set]
  · funext j; simp [pm_set]
  · funext j; simp [pm_set]
theorem SdY.push {M : pm_M} {b r : Nat} {S : St} (h : SdY M b 0 r S) (hl : ∀ j, j < 4 → (S.1 j).length ≤ 12) {i d : Nat} (hi : i < 4) (h12 : (S.1 i).length < 12) : SdY (pm_set (pm_set M b i (nI ((S.1 i).length + 1))) (b + 1) (12 * i + (S.1 i).length) (nI (cdN r d))) b 0 r (aPush S i d) := by
  refine SdY.col (M := M) h hi (by simp; omega) hl (fun j hj => ?_) (fun j hj => ?_) (fun x hx => ?_) ?_ ?_
  · simp only [me_1]; simp
  · rw [me_1s]
    by_cases w : j = (S.1 i).length
    · rw [if_pos (by rw [w]), w, getD_snoc]
    · have hj' : j < (S.1 i).length := by simp at hj; omega
      rw [if_neg (by omega)]
      have := h.c hi hj'
      simp only [me_1]; simp
      rw [this]
      congr 2
      rw [List.getD_eq_getElem?_getD, List.getElem?_append_left hj']
  · rw [me_1s, if_neg (by omega)]; simp [pm_set]
  · funext j; simp [pm_set]
  · funext j; simp [pm_set]
def tt_X7_doMove : pm_T := fun args M k => match args with
  | [.ref 0, .int x, .int y] => ∃ (P : Pm) (ec : Nat) (S : St) (a b : Nat), x = nI a ∧ y = nI b ∧ b < 6 ∧ DkY M P ∧ ec ≤ 2 ∧ M.1 0 22 = nI ec ∧ SdY M 10 0 (pR P) S ∧ FW P ec S ∧ canN P ec S a b = true ∧ ∀ M', SdY M' 10 0 (pR P) (aMv P ec S a b) → yfr [10, 11, 12, 13] [] M M' → k none M'
  | _ => False
abbrev ct_X7_doMove : List pm_C := [(false, 155, 7, 2, (some .int), tt_X7_lastOf), (false, 159, 7, 1, (some .int), tt_X7_freeCell)]
set_option maxHeartbeats 4000000 in
theorem sm_X7_doMove  : pm_Sem SHy yX7_doMove cX7_doMove 4 none 2 tt_X7_doMove := by
  refine pm_Sem_intro bl_X7_doMove ct_X7_doMove cs_X7_doMove rfl (List.forall_mem_cons.mpr ⟨⟨_, _, _, _, sm_X7_lastOf, by decide, cm_X7_lastOf, by decide +kernel⟩, List.forall_mem_cons.mpr ⟨⟨_, _, _, _, sm_X7_freeCell, by decide, cm_X7_freeCell, by decide +kernel⟩, fun _ h => absurd h List.not_mem_nil⟩⟩) ck_X7_doMove (by decide +kernel) (by decide) ?_
  intro X k hX args M hT
  have hb0 := hX 0 bk_X7_doMove_0 (List.mem_of_getElem? (i := 0) rfl)
  have hb23 := hX 23 bk_X7_doMove_23 (List.mem_of_getElem? (i := 1) rfl)
  have hb33 := hX 33 bk_X7_doMove_33 (List.mem_of_getElem? (i := 2) rfl)
  have hb51 := hX 51 bk_X7_doMove_51 (List.mem_of_getElem? (i := 3) rfl)
  have hb71 := hX 71 bk_X7_doMove_71 (List.mem_of_getElem? (i := 4) rfl)
  have hb93 := hX 93 bk_X7_doMove_93 (List.mem_of_getElem? (i := 5) rfl)
  clear hX
  unfold tt_X7_doMove at hT; split at hT
  · next x y =>
    obtain ⟨P, ec, S, a, b, rfl, rfl, hb, hD, he, hcc, hS, hF, hc, hT⟩ := hT
    have hP := hD.1
    have hs4 := hP.2.1
    have hO := hF.ok hP
    have hI := hF.inDk
    have hmv := hF.mvK hP he hb hc
    obtain ⟨ha, -, hab, hc0, hh, hl, h44⟩ := hmv
    have hcl := cardF_le hI ha
    have h32 := cdN_le hP hcl
    obtain ⟨c1, c2⟩ := cd_sh hP (show 1 ≤ cardF S a by omega) hcl
    have un := su_lt hP.2.2.1 (show 1 ≤ cardF S a by omega) hcl
    have hl12 : ∀ j, j < 4 → (S.1 j).length ≤ 12 := fun j hj => (hO.1 j hj).1
    have tk := hF.takeC a
    generalize hcd : cardF S a = d at *
    refine ⟨by simp [lg_sl, Value.category], ?_⟩
    have h93 : ∀ M', SdY M' 10 0 (pR P) (aMv P ec S a b) → yfr [10, 11, 12, 13] [] M M' → X 93 [] [] M' := by
      intro M' q1 q2
      refine hb93 _ _ _ ?_
      simp (maxSteps := 2000000) [bk_X7_doMove_0, bk_X7_doMove_23, bk_X7_doMove_33, bk_X7_doMove_51, bk_X7_doMove_71, bk_X7_doMove_93, pm_arr, pm_call, pm_e_c0, pm_e_c1, pm_e_cti, pm_e_ctl, pm_e_ctr, pm_e_go, pm_e_i, pm_e_ii, pm_e_ldi, pm_e_ldr, pm_e_lk, pm_e_r, pm_e_ri, pm_e_rii, pm_e_rm0, pm_e_rm1, pm_e_rs0, pm_e_rs1, pm_e_v2, pm_e_v3, pm_e_wp0, pm_e_wp1, pm_f2, pm_f3, pm_fld, pm_fv, pm_obj, pm_recv, pm_s_aload_n, pm_s_bipush, pm_s_dup2, pm_s_dup_x2, pm_s_getfield, pm_s_goto, pm_s_iadd, pm_s_iaload, pm_s_iastore, pm_s_iconst, pm_s_if_icmp_lt, pm_s_if_icmp_ne, pm_s_iload_n, pm_s_imul, pm_s_invokevirtual, pm_s_ishr, pm_s_istore_n, pm_s_isub, pm_s_return, ct_X7_doMove, pS, pR, pC, pE, pL, -Int32.not_le, -Int32.not_lt, -Int64.not_le, -Int64.not_lt, -List.getD_eq_getElem?_getD]
      exact hT M' q1 q2
    have h33 : ∀ M', SdY M' 10 0 (pR P) (aTake S a) → yfr [10, 11, 12, 13] [] M M' → X 33 [(0, .ref 0), (2, .int (nI b)), (3, .int (nI (cdN (pR P) d)))] [] M' := by
      intro M' q1 q2
      have hTl : ∀ j, j < 4 → ((aTake S a).1 j).length ≤ 12 := fun j hj => by
        by_cases z : j = a
        · subst z
          have : (aTake S j).1 j = (S.1 j).dropLast := by simp [aTake, hj, aPop, up_s]
          rw [this]; have := hl12 j hj; simp; omega
        · rw [aTake_c z]; exact hl12 j hj
      refine hb33 _ _ _ ?_
      simp (maxSteps := 2000000) [bk_X7_doMove_0, bk_X7_doMove_23, bk_X7_doMove_33, bk_X7_doMove_51, bk_X7_doMove_71, bk_X7_doMove_93, pm_arr, pm_call, pm_e_c0, pm_e_c1, pm_e_cti, pm_e_ctl, pm_e_ctr, pm_e_go, pm_e_i, pm_e_ii, pm_e_ldi, pm_e_ldr, pm_e_lk, pm_e_r, pm_e_ri, pm_e_rii, pm_e_rm0, pm_e_rm1, pm_e_rs0, pm_e_rs1, pm_e_v2, pm_e_v3, pm_e_wp0, pm_e_wp1, pm_f2, pm_f3, pm_fld, pm_fv, pm_obj, pm_recv, pm_s_aload_n, pm_s_bipush, pm_s_dup2, pm_s_dup_x2, pm_s_getfield, pm_s_goto, pm_s_iadd, pm_s_iaload, pm_s_iastore, pm_s_iconst, pm_s_if_icmp_lt, pm_s_if_icmp_ne, pm_s_iload_n, pm_s_imul, pm_s_invokevirtual, pm_s_ishr, pm_s_istore_n, pm_s_isub, pm_s_return, ct_X7_doMove, pS, pR, pC, pE, pL, -Int32.not_le, -Int32.not_lt, -Int64.not_le, -Int64.not_lt, -List.getD_eq_getElem?_getD, sy_0, sy_12]
      simp (disch := omega) only [ni_in, ni_cl, ni_add, ni_mul, ni_sub, ni_lt, ni_le, ni_eq, ni_eq0, ni_lt0, ni_0le, ni_0lt, ni_le0, ni_a1, ni_a3, ni_a7, ni_a15]
      refine ⟨fun h4 => ?_, fun h4 => ?_⟩
      · refine hb51 _ _ _ ?_
        have hh6 := hO.2.2 (su (pR P) d) (by omega)
        have hhm : M'.1 13 (su (pR P) d) = nI (S.2.2 (su (pR P) d)) := by
          have := q1.h (show su (pR P) d < 4 by omega)
          rw [aTake_h] at this; exact this
        dsimp only [pR] at c1 hh6 hhm un
        simp (maxSteps := 2000000) [bk_X7_doMove_0, bk_X7_doMove_23, bk_X7_doMove_33, bk_X7_doMove_51, bk_X7_doMove_71, bk_X7_doMove_93, pm_arr, pm_call, pm_e_c0, pm_e_c1, pm_e_cti, pm_e_ctl, pm_e_ctr, pm_e_go, pm_e_i, pm_e_ii, pm_e_ldi, pm_e_ldr, pm_e_lk, pm_e_r, pm_e_ri, pm_e_rii, pm_e_rm0, pm_e_rm1, pm_e_rs0, pm_e_rs1, pm_e_v2, pm_e_v3, pm_e_wp0, pm_e_wp1, pm_f2, pm_f3, pm_fld, pm_fv, pm_obj, pm_recv, pm_s_aload_n, pm_s_bipush, pm_s_dup2, pm_s_dup_x2, pm_s_getfield, pm_s_goto, pm_s_iadd, pm_s_iaload, pm_s_iastore, pm_s_iconst, pm_s_if_icmp_lt, pm_s_if_icmp_ne, pm_s_iload_n, pm_s_imul, pm_s_invokevirtual, pm_s_ishr, pm_s_istore_n, pm_s_isub, pm_s_return, ct_X7_doMove, pS, pR, pC, pE, pL, -Int32.not_le, -Int32.not_lt, -Int64.not_le, -Int64.not_lt, -List.getD_eq_getElem?_getD, sy_0, sy_13, Value.category]
        rw [c1]
        simp (disch := omega) only [ni_in, ni_cl, ni_add, ni_mul, ni_sub, ni_lt, ni_le, ni_eq, ni_eq0, ni_lt0, ni_0le, ni_0lt, ni_le0, ni_a1, ni_a3, ni_a7, ni_a15, hhm]
        refine ⟨fun h5 => ?_, fun h5 => ?_⟩
        · have hb4 : b < 4 := by omega
          have hlb := hl hb4
          have hn : M'.1 10 b = nI (S.1 b).length := by
            have := q1.n hb4
            rw [aTake_c (fun z => hab hb4 z.symm)] at this; exact this
          refine hb71 _ _ _ ?_
          simp (maxSteps := 2000000) [bk_X7_doMove_0, bk_X7_doMove_23, bk_X7_doMove_33, bk_X7_doMove_51, bk_X7_doMove_71, bk_X7_doMove_93, pm_arr, pm_call, pm_e_c0, pm_e_c1, pm_e_cti, pm_e_ctl, pm_e_ctr, pm_e_go, pm_e_i, pm_e_ii, pm_e_ldi, pm_e_ldr, pm_e_lk, pm_e_r, pm_e_ri, pm_e_rii, pm_e_rm0, pm_e_rm1, pm_e_rs0, pm_e_rs1, pm_e_v2, pm_e_v3, pm_e_wp0, pm_e_wp1, pm_f2, pm_f3, pm_fld, pm_fv, pm_obj, pm_recv, pm_s_aload_n, pm_s_bipush, pm_s_dup2, pm_s_dup_x2, pm_s_getfield, pm_s_goto, pm_s_iadd, pm_s_iaload, pm_s_iastore, pm_s_iconst, pm_s_if_icmp_lt, pm_s_if_icmp_ne, pm_s_iload_n, pm_s_imul, pm_s_invokevirtual, pm_s_ishr, pm_s_istore_n, pm_s_isub, pm_s_return, ct_X7_doMove, pS, pR, pC, pE, pL, -Int32.not_le, -Int32.not_lt, -Int64.not_le, -Int64.not_lt, -List.getD_eq_getElem?_getD, sy_0, sy_10, sy_11, Value.category]
          simp (disch := omega) only [ni_in, ni_cl, ni_add, ni_mul, ni_sub, ni_lt, ni_le, ni_eq, ni_eq0, ni_lt0, ni_0le, ni_0lt, ni_le0, ni_a1, ni_a3, ni_a7, ni_a15, hn]
          refine ⟨by omega, by omega, h93 _ ?_ ((q2.set (by decide) (by decide)).set (by decide) (by decide))⟩
          have eb : (aTake S a).1 b = S.1 b := aTake_c (fun z => hab hb4 z.symm)
          have := q1.push (d := d) hTl hb4 (by rw [eb]; exact hlb)
          rw [eb] at this
          have eM : aMv P ec S a b = aPush (aTake S a) b d := by unfold aMv aPut; rw [if_neg h5, if_neg h4, hcd]
          rw [eM]; exact this
        · refine ⟨by omega, h93 _ ?_ (q2.set (by decide) (by decide))⟩
          have := q1.setH (t := su (pR P) d) (v := S.2.2 (su (pR P) d) + 1)
          have eM : aMv P ec S a b = ((aTake S a).1, (aTake S a).2.1, up (aTake S a).2.2 (su (pR P) d) (S.2.2 (su (pR P) d) + 1)) := by
            unfold aMv aPut; rw [if_pos h5, hcd, aTake_h]
          rw [eM]; exact this
      · obtain ⟨ha4, hff, -⟩ := h44 h4
        have ef := ffc_take (ec := ec) (S := S) ha4
        have hcc' : M'.1 0 22 = nI ec := by rw [q2.f (by simp)]; exact hcc
        refine ⟨P, ec, aTake S a, hP, he, hcc', q1, ⟨fun i hi e hE => (tk.2.2.1 i hi e hE).2, tk.2.2.2⟩, ?_⟩
        rw [ef]
        have hf2 := ffc_free hff
        have eI : ffI (ffc ec S) = nI (ffc ec S) := by unfold ffI; rw [if_neg hff]
        rw [eI]
        simp (maxSteps := 2000000) [bk_X7_doMove_0, bk_X7_doMove_23, bk_X7_doMove_33, bk_X7_doMove_51, bk_X7_doMove_71, bk_X7_doMove_93, pm_arr, pm_call, pm_e_c0, pm_e_c1, pm_e_cti, pm_e_ctl, pm_e_ctr, pm_e_go, pm_e_i, pm_e_ii, pm_e_ldi, pm_e_ldr, pm_e_lk, pm_e_r, pm_e_ri, pm_e_rii, pm_e_rm0, pm_e_rm1, pm_e_rs0, pm_e_rs1, pm_e_v2, pm_e_v3, pm_e_wp0, pm_e_wp1, pm_f2, pm_f3, pm_fld, pm_fv, pm_obj, pm_recv, pm_s_aload_n, pm_s_bipush, pm_s_dup2, pm_s_dup_x2, pm_s_getfield, pm_s_goto, pm_s_iadd, pm_s_iaload, pm_s_iastore, pm_s_iconst, pm_s_if_icmp_lt, pm_s_if_icmp_ne, pm_s_iload_n, pm_s_imul, pm_s_invokevirtual, pm_s_ishr, pm_s_istore_n, pm_s_isub, pm_s_return, ct_X7_doMove, pS, pR, pC, pE, pL, -Int32.not_le, -Int32.not_lt, -Int64.not_le, -Int64.not_lt, -List.getD_eq_getElem?_getD, sy_12]
        simp (disch := omega) only [ni_in, ni_cl, ni_add, ni_mul, ni_sub, ni_lt, ni_le, ni_eq, ni_eq0, ni_lt0, ni_0le, ni_0lt, ni_le0, ni_a1, ni_a3, ni_a7, ni_a15]
        refine ⟨by omega, h93 _ ?_ (q2.set (by decide) (by decide))⟩
        have eM : aMv P ec S a b = ((aTake S a).1, up (aTake S a).2.1 (ffc ec S) d, (aTake S a).2.2) := by
          unfold aMv aPut; rw [if_neg (by omega), if_pos h4, ef, if_neg hff, hcd]
        rw [eM]; exact q1.setE
    refine hb0 _ _ _ ?_
    simp (maxSteps := 2000000) [bk_X7_doMove_0, bk_X7_doMove_23, bk_X7_doMove_33, bk_X7_doMove_51, bk_X7_doMove_71, bk_X7_doMove_93, pm_arr, pm_call, pm_e_c0, pm_e_c1, pm_e_cti, pm_e_ctl, pm_e_ctr, pm_e_go, pm_e_i, pm_e_ii, pm_e_ldi, pm_e_ldr, pm_e_lk, pm_e_r, pm_e_ri, pm_e_rii, pm_e_rm0, pm_e_rm1, pm_e_rs0, pm_e_rs1, pm_e_v2, pm_e_v3, pm_e_wp0, pm_e_wp1, pm_f2, pm_f3, pm_fld, pm_fv, pm_obj, pm_recv, pm_s_aload_n, pm_s_bipush, pm_s_dup2, pm_s_dup_x2, pm_s_getfield, pm_s_goto, pm_s_iadd, pm_s_iaload, pm_s_iastore, pm_s_iconst, pm_s_if_icmp_lt, pm_s_if_icmp_ne, pm_s_iload_n, pm_s_imul, pm_s_invokevirtual, pm_s_ishr, pm_s_istore_n, pm_s_isub, pm_s_return, ct_X7_doMove, pS, pR, pC, pE, pL, -Int32.not_le, -Int32.not_lt, -Int64.not_le, -Int64.not_lt, -List.getD_eq_getElem?_getD, lv_args, sy_0]
    refine ⟨pR P, a, S, rfl, ha, hS, hO, ?_⟩
    rw [hcd]
    simp (maxSteps := 2000000) [bk_X7_doMove_0, bk_X7_doMove_23, bk_X7_doMove_33, bk_X7_doMove_51, bk_X7_doMove_71, bk_X7_doMove_93, pm_arr, pm_call, pm_e_c0, pm_e_c1, pm_e_cti, pm_e_ctl, pm_e_ctr, pm_e_go, pm_e_i, pm_e_ii, pm_e_ldi, pm_e_ldr, pm_e_lk, pm_e_r, pm_e_ri, pm_e_rii, pm_e_rm0, pm_e_rm1, pm_e_rs0, pm_e_rs1, pm_e_v2, pm_e_v3, pm_e_wp0, pm_e_wp1, pm_f2, pm_f3, pm_fld, pm_fv, pm_obj, pm_recv, pm_s_aload_n, pm_s_bipush, pm_s_dup2, pm_s_dup_x2, pm_s_getfield, pm_s_goto, pm_s_iadd, pm_s_iaload, pm_s_iastore, pm_s_iconst, pm_s_if_icmp_lt, pm_s_if_icmp_ne, pm_s_iload_n, pm_s_imul, pm_s_invokevirtual, pm_s_ishr, pm_s_istore_n, pm_s_isub, pm_s_return, ct_X7_doMove, pS, pR, pC, pE, pL, -Int32.not_le, -Int32.not_lt, -Int64.not_le, -Int64.not_lt, -List.getD_eq_getElem?_getD, sy_0, sy_12]
    simp (disch := omega) only [ni_in, ni_cl, ni_add, ni_mul, ni_sub, ni_lt, ni_le, ni_eq, ni_eq0, ni_lt0, ni_0le, ni_0lt, ni_le0, ni_a1, ni_a3, ni_a7, ni_a15]
    refine ⟨fun h => ?_, fun h => ?_⟩
    · have hn : M.1 10 a = _ := hS.n h
      have hla := hl12 a h
      have hpos : 0 < (S.1 a).length := by
        rcases Nat.eq_zero_or_pos (S.1 a).length with z | z
        · exfalso; apply hc0; rw [← hcd]; simp [cardF, h, List.length_eq_zero_iff.mp z, lastC]
        · exact z
      refine hb23 _ _ _ ?_
      simp (maxSteps := 2000000) [bk_X7_doMove_0, bk_X7_doMove_23, bk_X7_doMove_33, bk_X7_doMove_51, bk_X7_doMove_71, bk_X7_doMove_93, pm_arr, pm_call, pm_e_c0, pm_e_c1, pm_e_cti, pm_e_ctl, pm_e_ctr, pm_e_go, pm_e_i, pm_e_ii, pm_e_ldi, pm_e_ldr, pm_e_lk, pm_e_r, pm_e_ri, pm_e_rii, pm_e_rm0, pm_e_rm1, pm_e_rs0, pm_e_rs1, pm_e_v2, pm_e_v3, pm_e_wp0, pm_e_wp1, pm_f2, pm_f3, pm_fld, pm_fv, pm_obj, pm_recv, pm_s_aload_n, pm_s_bipush, pm_s_dup2, pm_s_dup_x2, pm_s_getfield, pm_s_goto, pm_s_iadd, pm_s_iaload, pm_s_iastore, pm_s_iconst, pm_s_if_icmp_lt, pm_s_if_icmp_ne, pm_s_iload_n, pm_s_imul, pm_s_invokevirtual, pm_s_ishr, pm_s_istore_n, pm_s_isub, pm_s_return, ct_X7_doMove, pS, pR, pC, pE, pL, -Int32.not_le, -Int32.not_lt, -Int64.not_le, -Int64.not_lt, -List.getD_eq_getElem?_getD, sy_0, sy_10, Value.category]
      simp (disch := omega) only [ni_in, ni_cl, ni_add, ni_mul, ni_sub, ni_lt, ni_le, ni_eq, ni_eq0, ni_lt0, ni_0le, ni_0lt, ni_le0, ni_a1, ni_a3, ni_a7, ni_a15, hn]
      refine ⟨by omega, h33 _ ?_ (yfr.rfl.set (by decide) (by decide))⟩
      have := hS.pop hl12 h
      have et : aTake S a = aPop S a := by simp [aTake, h]
      rw [et]; exact this
    · rw [ni_sub (by omega), ni_in (by omega), ni_cl (by omega)]
      refine ⟨by omega, h33 _ ?_ (yfr.rfl.set (by decide) (by decide))⟩
      have := hS.setE (j := a - 4) (d := 0)
      have et : aTake S a = (S.1, up S.2.1 (a - 4) 0, S.2.2) := by simp [aTake, h]
      rw [et]; exact this
  · exact hT.elim
def mvI (C E a b : Int32) : Bool := (wi a (nI 0) (C - nI 1) || wi a (nI 4) (nI 3 + E)) && (wi b (nI 0) (C - nI 1) || decide (b = nI 4) || decide (b = nI 5)) && (if a < nI 4 then !decide (a = b) else !decide (b = nI 4))
theorem mvI_nm {P : Pm} (hP : okP P) {ec : Nat} (he : ec ≤ 2) (x y : Int32) : mvI (nI (pC P)) (nI ec) x y = nmF (nI (pC P)) (nI ec) x y := by
  have h6 := hP.2.2.2.2.2.1
  have h7 := hP.2.2.2.2.2.2.1
  have e3 : nI 4 + nI ec - nI 1 = nI 3 + nI ec := by rw [ni_add, ni_add, ni_sub (by omega)]; congr 1; omega
  unfold mvI nmF
  rw [e3]
  cases hA : wi x (nI 0) (nI (pC P) - nI 1) with
  | true =>
    obtain ⟨x1, x2⟩ := wi_lt (by omega) hA
    have hx4 : x < nI 4 := by rw [x1, ni_lt (by omega) (by decide)]; omega
    have hx5 : ¬ x = nI 5 := by rw [x1, ni_eq (by omega) (by decide)]; omega
    have hxn4 : ¬ x = nI 4 := by rw [x1, ni_eq (by omega) (by decide)]; omega
    rw [if_pos hx4]
    by_cases y4 : y = nI 4
    · subst y4; simp [hxn4]
    · by_cases y5 : y = nI 5
      · subst y5; simp [hx5, y4]
      · by_cases yx : y = x
        · subst yx; simp [y4, y5]
        · have yx' : ¬ x = y := fun z => yx z.symm
          simp [y4, y5, yx, yx']
  | false =>
    cases hB : wi x (nI 4) (nI 3 + nI ec) with
    | true =>
      rw [ni_add] at hB
      obtain ⟨x1, x2, x3⟩ := wi_tn (by decide) (by omega) hB
      have hx4 : ¬ x < nI 4 := by rw [x1, ni_lt (by omega) (by decide)]; omega
      rw [if_neg hx4]
      by_cases y4 : y = nI 4
      · subst y4; simp
      · by_cases y5 : y = nI 5
        · subst y5; simp [y4]
        · cases hY : wi y (nI 0) (nI (pC P) - nI 1) with
          | true =>
            obtain ⟨y1, y2⟩ := wi_lt (by omega) hY
            have : ¬ y = x := by rw [y1, x1, ni_eq (by omega) (by omega)]; omega
            simp [y4, y5, this]
          | false => simp [y4, y5]
    | false => simp
def tt_X7_isMove : pm_T := fun args M k => match args with
  | [.ref 0, .int x, .int y, .int z] => ∃ (P : Pm) (ec : Nat), DkY M P ∧ ec ≤ 2 ∧ z = nI ec ∧ k (some (.int (pb (nmF (nI (pC P)) (nI ec) x y)))) M
  | _ => False
abbrev ct_X7_isMove : List pm_C := [(true, 111, 7, 3, (some .boolean), tt_X7_in)]
set_option maxHeartbeats 4000000 in
theorem sm_X7_isMove  : pm_Sem SHy yX7_isMove cX7_isMove 4 (some .boolean) 2 tt_X7_isMove := by
  refine pm_Sem_intro bl_X7_isMove ct_X7_isMove cs_X7_isMove rfl (List.forall_mem_cons.mpr ⟨⟨_, _, _, _, sm_X7_in, by decide, cm_X7_in, by decide +kernel⟩, fun _ h => absurd h List.not_mem_nil⟩) ck_X7_isMove (by decide +kernel) (by decide) ?_
  intro X k hX args M hT
  have hb0 := hX 0 bk_X7_isMove_0 (List.mem_of_getElem? (i := 0) rfl)
  have hb27 := hX 27 bk_X7_isMove_27 (List.mem_of_getElem? (i := 1) rfl)
  have hb53 := hX 53 bk_X7_isMove_53 (List.mem_of_getElem? (i := 2) rfl)
  have hb67 := hX 67 bk_X7_isMove_67 (List.mem_of_getElem? (i := 3) rfl)
  have hb71 := hX 71 bk_X7_isMove_71 (List.mem_of_getElem? (i := 4) rfl)
  have hb80 := hX 80 bk_X7_isMove_80 (List.mem_of_getElem? (i := 5) rfl)
  have hb81 := hX 81 bk_X7_isMove_81 (List.mem_of_getElem? (i := 6) rfl)
  clear hX
  unfold tt_X7_isMove at hT; split at hT
  · next x y z =>
    obtain ⟨P, ec, hD, he, rfl, hT⟩ := hT
    have m2 := hD.2.2.2.1
    rw [← mvI_nm hD.1 he] at hT
    unfold mvI at hT
    generalize hA : wi x (nI 0) (nI (pC P) - nI 1) = A at hT
    generalize hB : wi x (nI 4) (nI 3 + nI ec) = B at hT
    generalize hC : wi y (nI 0) (nI (pC P) - nI 1) = C at hT
    dsimp only [pC] at hA hC
    refine ⟨by simp [lg_sl, Value.category], ?_⟩
    have h81 : ∀ b : Bool, b = ((A || B) && (C || decide (y = nI 4) || decide (y = nI 5)) && (if x < nI 4 then !decide (x = y) else !decide (y = nI 4))) → X 81 [] [.int (pb b)] M := by
      intro b eb
      rw [← eb] at hT
      refine hb81 _ _ _ ?_
      simp (maxSteps := 2000000) [bk_X7_isMove_0, bk_X7_isMove_27, bk_X7_isMove_53, bk_X7_isMove_67, bk_X7_isMove_71, bk_X7_isMove_80, bk_X7_isMove_81, pm_call, pm_e_c0, pm_e_c1, pm_e_cti, pm_e_ctl, pm_e_ctr, pm_e_go, pm_e_i, pm_e_ii, pm_e_ldi, pm_e_ldr, pm_e_lk, pm_e_r, pm_e_rm0, pm_e_rm1, pm_e_rs0, pm_e_rs1, pm_e_wp0, pm_e_wp1, pm_f2, pm_f3, pm_fld, pm_fv, pm_obj, pm_recv, pm_s_aload_n, pm_s_getfield, pm_s_goto, pm_s_iadd, pm_s_iconst, pm_s_ifCond_ne, pm_s_if_icmp_eq, pm_s_if_icmp_ge, pm_s_iload_n, pm_s_invokestatic, pm_s_ireturn, pm_s_isub, ct_X7_isMove, tt_X7_in, pS, pR, pC, pE, pL, -Int32.not_le, -Int32.not_lt, -Int64.not_le, -Int64.not_lt, -List.getD_eq_getElem?_getD, pb_01]
      exact hT
    have h53 : (A || B) = true → (C || decide (y = nI 4) || decide (y = nI 5)) = true → X 53 [(1, .int x), (2, .int y)] [] M := by
      intro q1 q2
      rw [q1, q2] at h81
      refine hb53 _ _ _ ?_
      simp (maxSteps := 2000000) [bk_X7_isMove_0, bk_X7_isMove_27, bk_X7_isMove_53, bk_X7_isMove_67, bk_X7_isMove_71, bk_X7_isMove_80, bk_X7_isMove_81, pm_call, pm_e_c0, pm_e_c1, pm_e_cti, pm_e_ctl, pm_e_ctr, pm_e_go, pm_e_i, pm_e_ii, pm_e_ldi, pm_e_ldr, pm_e_lk, pm_e_r, pm_e_rm0, pm_e_rm1, pm_e_rs0, pm_e_rs1, pm_e_wp0, pm_e_wp1, pm_f2, pm_f3, pm_fld, pm_fv, pm_obj, pm_recv, pm_s_aload_n, pm_s_getfield, pm_s_goto, pm_s_iadd, pm_s_iconst, pm_s_ifCond_ne, pm_s_if_icmp_eq, pm_s_if_icmp_ge, pm_s_iload_n, pm_s_invokestatic, pm_s_ireturn, pm_s_isub, ct_X7_isMove, tt_X7_in, pS, pR, pC, pE, pL, -Int32.not_le, -Int32.not_lt, -Int64.not_le, -Int64.not_lt, -List.getD_eq_getElem?_getD]
      refine ⟨fun h => ?_, fun h => ?_⟩
      · have h' : ¬ x < nI 4 := Int32.not_lt.mpr h
        rw [if_neg h'] at h81
        refine hb71 _ _ _ ?_
        simp (maxSteps := 2000000) [bk_X7_isMove_0, bk_X7_isMove_27, bk_X7_isMove_53, bk_X7_isMove_67, bk_X7_isMove_71, bk_X7_isMove_80, bk_X7_isMove_81, pm_call, pm_e_c0, pm_e_c1, pm_e_cti, pm_e_ctl, pm_e_ctr, pm_e_go, pm_e_i, pm_e_ii, pm_e_ldi, pm_e_ldr, pm_e_lk, pm_e_r, pm_e_rm0, pm_e_rm1, pm_e_rs0, pm_e_rs1, pm_e_wp0, pm_e_wp1, pm_f2, pm_f3, pm_fld, pm_fv, pm_obj, pm_recv, pm_s_aload_n, pm_s_getfield, pm_s_goto, pm_s_iadd, pm_s_iconst, pm_s_ifCond_ne, pm_s_if_icmp_eq, pm_s_if_icmp_ge, pm_s_iload_n, pm_s_invokestatic, pm_s_ireturn, pm_s_isub, ct_X7_isMove, tt_X7_in, pS, pR, pC, pE, pL, -Int32.not_le, -Int32.not_lt, -Int64.not_le, -Int64.not_lt, -List.getD_eq_getElem?_getD]
        refine ⟨fun h2 => ?_, fun h2 => h81 true (by simp [h2])⟩
        refine hb80 _ _ _ ?_
        simp (maxSteps := 2000000) [bk_X7_isMove_0, bk_X7_isMove_27, bk_X7_isMove_53, bk_X7_isMove_67, bk_X7_isMove_71, bk_X7_isMove_80, bk_X7_isMove_81, pm_call, pm_e_c0, pm_e_c1, pm_e_cti, pm_e_ctl, pm_e_ctr, pm_e_go, pm_e_i, pm_e_ii, pm_e_ldi, pm_e_ldr, pm_e_lk, pm_e_r, pm_e_rm0, pm_e_rm1, pm_e_rs0, pm_e_rs1, pm_e_wp0, pm_e_wp1, pm_f2, pm_f3, pm_fld, pm_fv, pm_obj, pm_recv, pm_s_aload_n, pm_s_getfield, pm_s_goto, pm_s_iadd, pm_s_iconst, pm_s_ifCond_ne, pm_s_if_icmp_eq, pm_s_if_icmp_ge, pm_s_iload_n, pm_s_invokestatic, pm_s_ireturn, pm_s_isub, ct_X7_isMove, tt_X7_in, pS, pR, pC, pE, pL, -Int32.not_le, -Int32.not_lt, -Int64.not_le, -Int64.not_lt, -List.getD_eq_getElem?_getD]
        exact h81 false (by simp [h2])
      · have h' : x < nI 4 := Int32.not_le.mp h
        rw [if_pos h'] at h81
        refine ⟨fun h2 => ?_, fun h2 => h81 true (by simp [h2])⟩
        refine hb67 _ _ _ ?_
        simp (maxSteps := 2000000) [bk_X7_isMove_0, bk_X7_isMove_27, bk_X7_isMove_53, bk_X7_isMove_67, bk_X7_isMove_71, bk_X7_isMove_80, bk_X7_isMove_81, pm_call, pm_e_c0, pm_e_c1, pm_e_cti, pm_e_ctl, pm_e_ctr, pm_e_go, pm_e_i, pm_e_ii, pm_e_ldi, pm_e_ldr, pm_e_lk, pm_e_r, pm_e_rm0, pm_e_rm1, pm_e_rs0, pm_e_rs1, pm_e_wp0, pm_e_wp1, pm_f2, pm_f3, pm_fld, pm_fv, pm_obj, pm_recv, pm_s_aload_n, pm_s_getfield, pm_s_goto, pm_s_iadd, pm_s_iconst, pm_s_ifCond_ne, pm_s_if_icmp_eq, pm_s_if_icmp_ge, pm_s_iload_n, pm_s_invokestatic, pm_s_ireturn, pm_s_isub, ct_X7_isMove, tt_X7_in, pS, pR, pC, pE, pL, -Int32.not_le, -Int32.not_lt, -Int64.not_le, -Int64.not_lt, -List.getD_eq_getElem?_getD]
        exact h81 false (by simp [h2])
    have h27 : (A || B) = true → X 27 [(0, .ref 0), (1, .int x), (2, .int y)] [] M := by
      intro q1
      refine hb27 _ _ _ ?_
      simp (maxSteps := 2000000) [bk_X7_isMove_0, bk_X7_isMove_27, bk_X7_isMove_53, bk_X7_isMove_67, bk_X7_isMove_71, bk_X7_isMove_80, bk_X7_isMove_81, pm_call, pm_e_c0, pm_e_c1, pm_e_cti, pm_e_ctl, pm_e_ctr, pm_e_go, pm_e_i, pm_e_ii, pm_e_ldi, pm_e_ldr, pm_e_lk, pm_e_r, pm_e_rm0, pm_e_rm1, pm_e_rs0, pm_e_rs1, pm_e_wp0, pm_e_wp1, pm_f2, pm_f3, pm_fld, pm_fv, pm_obj, pm_recv, pm_s_aload_n, pm_s_getfield, pm_s_goto, pm_s_iadd, pm_s_iconst, pm_s_ifCond_ne, pm_s_if_icmp_eq, pm_s_if_icmp_ge, pm_s_iload_n, pm_s_invokestatic, pm_s_ireturn, pm_s_isub, ct_X7_isMove, tt_X7_in, pS, pR, pC, pE, pL, -Int32.not_le, -Int32.not_lt, -Int64.not_le, -Int64.not_lt, -List.getD_eq_getElem?_getD, sy_0, m2, hC, pb_eq0]
      refine ⟨fun h => h53 q1 (by rw [h]; rfl), fun h => ⟨fun h2 => h53 q1 (by simp [h2]), fun h2 => ⟨fun h3 => h53 q1 (by simp [h3]), fun h3 => ?_⟩⟩⟩
      rw [q1, h, decide_eq_false h2, decide_eq_false h3] at hT
      exact ⟨Or.inl rfl, hT⟩
    refine hb0 _ _ _ ?_
    simp (maxSteps := 2000000) [bk_X7_isMove_0, bk_X7_isMove_27, bk_X7_isMove_53, bk_X7_isMove_67, bk_X7_isMove_71, bk_X7_isMove_80, bk_X7_isMove_81, pm_call, pm_e_c0, pm_e_c1, pm_e_cti, pm_e_ctl, pm_e_ctr, pm_e_go, pm_e_i, pm_e_ii, pm_e_ldi, pm_e_ldr, pm_e_lk, pm_e_r, pm_e_rm0, pm_e_rm1, pm_e_rs0, pm_e_rs1, pm_e_wp0, pm_e_wp1, pm_f2, pm_f3, pm_fld, pm_fv, pm_obj, pm_recv, pm_s_aload_n, pm_s_getfield, pm_s_goto, pm_s_iadd, pm_s_iconst, pm_s_ifCond_ne, pm_s_if_icmp_eq, pm_s_if_icmp_ge, pm_s_iload_n, pm_s_invokestatic, pm_s_ireturn, pm_s_isub, ct_X7_isMove, tt_X7_in, pS, pR, pC, pE, pL, -Int32.not_le, -Int32.not_lt, -Int64.not_le, -Int64.not_lt, -List.getD_eq_getElem?_getD, lv_args, sy_0, m2, hA, hB, pb_eq0]
    refine ⟨fun h => h27 (by rw [h]; rfl), fun h => ⟨fun h2 => h27 (by rw [h2]; simp), fun h2 => ?_⟩⟩
    rw [h, h2] at hT
    exact ⟨Or.inl rfl, hT⟩
  · exact hT.elim
