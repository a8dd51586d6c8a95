theorem i8 : ∀ v, v < 32 → (nI v).toInt8.toInt32 = nI v := by decide +kernel
theorem take_s {l : List Nat} {k : Nat} (h : k < l.length) : l.take (k + 1) = l.take k ++ [l.getD k 0] := by
  rw [List.take_succ, List.getElem?_eq_getElem h, List.getD_eq_getElem?_getD, List.getElem?_eq_getElem h]; rfl
theorem getD_app1 (l : List Nat) (v j : Nat) : (l ++ [v]).getD j 0 = if j = l.length then v else l.getD j 0 := by
  rw [List.getD_eq_getElem?_getD, List.getD_eq_getElem?_getD]
  rcases Nat.lt_trichotomy j l.length with z | z | z
  · rw [if_neg (by omega), List.getElem?_append_left z]
  · rw [if_pos z, z]; simp
  · rw [if_neg (by omega), List.getElem?_eq_none (by simp; omega), List.getElem?_eq_none (by omega)]
/-- the key of the moment -/
def kR (M : pm_M) (f : Nat → Nat) : Prop := ∀ j, j < 18 → M.1 18 j = nI (f j)
def kQ (M : pm_M) (ls fl : List Nat) (lo hi : Nat) : Prop := ∀ j, j < 18 → M.1 18 j = nI (if j < 4 then ls.getD j 0 else if j < 16 then fl.getD (j - 4) 0 else if j = 16 then lo else hi)
theorem kQ.len {M : pm_M} {ls fl : List Nat} {lo hi v : Nat} (h : kQ M ls fl lo hi) (hl : ls.length < 4) : kQ (pm_set M 18 ls.length (nI v)) (ls ++ [v]) fl lo hi := fun j hj => by
  have q := h j hj
  rw [me_1s, getD_app1]
  by_cases z : j = ls.length
  · rw [if_pos z, if_pos (by omega), if_pos z]
  · rw [if_neg z, if_neg z, q]
theorem kQ.code {M : pm_M} {ls fl : List Nat} {lo hi v : Nat} (h : kQ M ls fl lo hi) (hl : fl.length < 12) : kQ (pm_set M 18 (4 + fl.length) (nI v)) ls (fl ++ [v]) lo hi := fun j hj => by
  have q := h j hj
  rw [me_1s, getD_app1]
  by_cases z : j = 4 + fl.length
  · rw [if_pos z, if_neg (by omega), if_pos (by omega), if_pos (by omega)]
  · rw [if_neg z, q]
    by_cases y : j < 4
    · rw [if_pos y, if_pos y]
    · rw [if_neg y, if_neg y, if_neg (show ¬ (j - 4 = fl.length) by omega)]
theorem kQ.l {M : pm_M} {ls fl : List Nat} {lo hi v : Nat} (h : kQ M ls fl lo hi) : kQ (pm_set M 18 16 (nI v)) ls fl v hi := fun j hj => by
  have q := h j hj
  rw [me_1s]
  by_cases z : j = 16
  · rw [if_pos z, if_neg (by omega), if_neg (by omega), if_pos z]
  · rw [if_neg z, q, if_neg z, if_neg z]
theorem kQ.h {M : pm_M} {ls fl : List Nat} {lo hi v : Nat} (h : kQ M ls fl lo hi) : kQ (pm_set M 18 17 (nI v)) ls fl lo v := fun j hj => by
  have q := h j hj
  rw [me_1s]
  by_cases z : j = 17
  · rw [if_pos z, if_neg (by omega), if_neg (by omega), if_neg (by omega)]
  · rw [if_neg z, q]
    by_cases y : j < 4
    · rw [if_pos y, if_pos y]
    · by_cases x : j < 16
      · rw [if_neg y, if_pos x, if_neg y, if_pos x]
      · rw [if_neg y, if_neg x, if_pos (by omega), if_neg y, if_neg x, if_pos (by omega)]
theorem kyF_lt {P : Pm} {ec : Nat} {S : St} (hP : okP P) (h : FW P ec S) (j : Nat) : kyF P ec S j < 32 := by
  have g : ∀ (l : List Nat), (∀ x ∈ l, x < 32) → ∀ i, l.getD i 0 < 32 := fun l hl i => by
    by_cases z : i < l.length
    · exact hl _ (getD_mem z)
    · rw [List.getD_eq_getElem?_getD, List.getElem?_eq_none (by omega)]; decide
  have o := h.ok hP
  unfold kyF kyG
  split
  · refine g _ (fun x hx => ?_) _
    obtain ⟨c, hc, rfl⟩ := List.mem_map.mp hx
    obtain ⟨i, i1, i2, rfl⟩ := colsT_mem hc
    have := (o.1 i i1).1; omega
  · split
    · refine g _ (fun x hx => ?_) _
      obtain ⟨c, hc, hx⟩ := List.mem_flatMap.mp hx
      obtain ⟨d, hd, rfl⟩ := List.mem_map.mp hx
      obtain ⟨i, i1, i2, rfl⟩ := colsT_mem hc
      exact cdN_le hP (h.2.2.2.1 i i1 d hd).2
    · have c0 := h.2.2.2.2.1 0 (by decide)
      have c1 := h.2.2.2.2.1 1 (by decide)
      unfold ceLo ceHi
      split <;> split <;> first | exact cdN_le hP c0 | exact cdN_le hP c1
def tt_X7_makeKey : pm_T := fun args M k => match args with
  | [.ref 0] => ∃ (P : Pm) (ec : Nat) (S : St), DkY M P ∧ SdY M 10 0 (pR P) S ∧ M.1 0 22 = nI ec ∧ ec ≤ 2 ∧ FW P ec S ∧ ∀ M', kR M' (kyF P ec S) → yfr [18, 19] [] M M' → k none M'
  | _ => False
abbrev ct_X7_makeKey : List pm_C := [(false, 201, 7, 1, none, tt_X7_orders)]
set_option maxHeartbeats 4000000 in
theorem sm_X7_makeKey  : pm_Sem SHy yX7_makeKey cX7_makeKey 5 none 3 tt_X7_makeKey := by
  refine pm_Sem_intro bl_X7_makeKey ct_X7_makeKey cs_X7_makeKey rfl (List.forall_mem_cons.mpr ⟨⟨_, _, _, _, sm_X7_orders, by decide, cm_X7_orders, by decide +kernel⟩, fun _ h => absurd h List.not_mem_nil⟩) ck_X7_makeKey (by decide +kernel) (by decide) ?_
  intro X k hX args M hT
  have hb0 := hX 0 bk_X7_makeKey_0 (List.mem_of_getElem? (i := 0) rfl)
  have hb6 := hX 6 bk_X7_makeKey_6 (List.mem_of_getElem? (i := 1) rfl)
  have hb25 := hX 25 bk_X7_makeKey_25 (List.mem_of_getElem? (i := 2) rfl)
  have hb29 := hX 29 bk_X7_makeKey_29 (List.mem_of_getElem? (i := 3) rfl)
  have hb60 := hX 60 bk_X7_makeKey_60 (List.mem_of_getElem? (i := 4) rfl)
  have hb99 := hX 99 bk_X7_makeKey_99 (List.mem_of_getElem? (i := 5) rfl)
  have hb105 := hX 105 bk_X7_makeKey_105 (List.mem_of_getElem? (i := 6) rfl)
  have hb132 := hX 132 bk_X7_makeKey_132 (List.mem_of_getElem? (i := 7) rfl)
  have hb133 := hX 133 bk_X7_makeKey_133 (List.mem_of_getElem? (i := 8) rfl)
  have hb153 := hX 153 bk_X7_makeKey_153 (List.mem_of_getElem? (i := 9) rfl)
  have hb159 := hX 159 bk_X7_makeKey_159 (List.mem_of_getElem? (i := 10) rfl)
  have hb180 := hX 180 bk_X7_makeKey_180 (List.mem_of_getElem? (i := 11) rfl)
  have hb186 := hX 186 bk_X7_makeKey_186 (List.mem_of_getElem? (i := 12) rfl)
  clear hX
  unfold tt_X7_makeKey at hT; split at hT
  · obtain ⟨P, ec, S, hD, hS, h22, he, hF, hT⟩ := hT
    have hP := hD.1
    have hO := hF.ok hP
    have hI := hF.inDk
    have hC4 := hP.2.2.2.2.2.2.1
    have tl := tbO_len hP S
    have tc := fun v (hv : v ∈ tbO P S 4) => tbO_C hv
    have s12 := colsT_12 hP hF
    rw [← flat_len (pR P)] at s12
    have hk : ∀ M', kQ M' ((colsT P S).map List.length) ((colsT P S).flatMap (fun c => c.map (cdN (pR P)))) (cdN (pR P) (ceLo ec S)) (cdN (pR P) (ceHi ec S)) → kR M' (kyF P ec S) := fun M' h => h
    have e1 : (colsT P S).map List.length = (tbO P S 4).map (fun i => (S.1 i).length) := by unfold colsT; rw [List.map_map]; rfl
    have e2 : (colsT P S).flatMap (fun c => c.map (cdN (pR P))) = (tbO P S 4).flatMap (fun i => (S.1 i).map (cdN (pR P))) := by unfold colsT; rw [List.flatMap_map]
    rw [e1, e2] at hk
    rw [e2] at s12
    refine ⟨by simp [lg_sl, Value.category], ?_⟩
    refine hb0 _ _ _ ?_
    simp (maxSteps := 2000000) [bk_X7_makeKey_0, bk_X7_makeKey_6, bk_X7_makeKey_25, bk_X7_makeKey_29, bk_X7_makeKey_60, bk_X7_makeKey_99, bk_X7_makeKey_105, bk_X7_makeKey_132, bk_X7_makeKey_133, bk_X7_makeKey_153, bk_X7_makeKey_159, bk_X7_makeKey_180, bk_X7_makeKey_186, pm_arr, pm_call, pm_e_c0, pm_e_c1, pm_e_cti, pm_e_ctl, pm_e_ctr, pm_e_go, pm_e_i, pm_e_ii, pm_e_ldi, pm_e_ldr, pm_e_lk, pm_e_r, pm_e_ri, pm_e_rii, pm_e_rm0, pm_e_rm1, pm_e_rs0, pm_e_rs1, pm_e_wp0, pm_e_wp1, pm_f2, pm_f3, pm_fld, pm_fv, pm_obj, pm_recv, pm_s_aload_n, pm_s_bastore, pm_s_bipush, pm_s_getfield, pm_s_goto, pm_s_i2b, pm_s_iadd, pm_s_iaload, pm_s_iconst, pm_s_ifCond_eq, pm_s_if_icmp_ge, pm_s_if_icmp_le, pm_s_if_icmp_ne, pm_s_iinc, pm_s_iload, pm_s_iload_n, pm_s_imul, pm_s_invokevirtual, pm_s_istore, pm_s_istore_n, pm_s_return, ct_X7_makeKey, pS, pR, pC, pE, pL, -Int32.not_le, -Int32.not_lt, -Int64.not_le, -Int64.not_lt, -List.getD_eq_getElem?_getD, lv_args, sy_0]
    refine ⟨P, S, hD, hS, hO, hI, fun M1 o1 f1 => ?_⟩
    simp (maxSteps := 2000000) [bk_X7_makeKey_0, bk_X7_makeKey_6, bk_X7_makeKey_25, bk_X7_makeKey_29, bk_X7_makeKey_60, bk_X7_makeKey_99, bk_X7_makeKey_105, bk_X7_makeKey_132, bk_X7_makeKey_133, bk_X7_makeKey_153, bk_X7_makeKey_159, bk_X7_makeKey_180, bk_X7_makeKey_186, pm_arr, pm_call, pm_e_c0, pm_e_c1, pm_e_cti, pm_e_ctl, pm_e_ctr, pm_e_go, pm_e_i, pm_e_ii, pm_e_ldi, pm_e_ldr, pm_e_lk, pm_e_r, pm_e_ri, pm_e_rii, pm_e_rm0, pm_e_rm1, pm_e_rs0, pm_e_rs1, pm_e_wp0, pm_e_wp1, pm_f2, pm_f3, pm_fld, pm_fv, pm_obj, pm_recv, pm_s_aload_n, pm_s_bastore, pm_s_bipush, pm_s_getfield, pm_s_goto, pm_s_i2b, pm_s_iadd, pm_s_iaload, pm_s_iconst, pm_s_ifCond_eq, pm_s_if_icmp_ge, pm_s_if_icmp_le, pm_s_if_icmp_ne, pm_s_iinc, pm_s_iload, pm_s_iload_n, pm_s_imul, pm_s_invokevirtual, pm_s_istore, pm_s_istore_n, pm_s_return, ct_X7_makeKey, pS, pR, pC, pE, pL, -Int32.not_le, -Int32.not_lt, -Int64.not_le, -Int64.not_lt, -List.getD_eq_getElem?_getD]
    generalize hTT : tbO P S 4 = T at *
    -- the cells
    have k0 := cdN_le hP (hI.2 0 (by decide))
    have k1 := cdN_le hP (hI.2 1 (by decide))
    have hci := cdN_le_iff (r := pR P) (d := S.2.1 0) (e := S.2.1 1) hP.2.2.1 hP.2.2.2.1
    have cel : ∀ M', yfr [18, 19] [] M M' → M'.1 12 0 = nI (cdN (pR P) (S.2.1 0)) ∧ M'.1 12 1 = nI (cdN (pR P) (S.2.1 1)) ∧ M'.1 0 22 = nI ec ∧ M'.1 0 2 = nI (pC P) := fun M' f => by
      have s := hS.mv f (by decide) (by decide)
      exact ⟨s.e (by decide), s.e (by decide), by rw [f.f (by simp)]; exact h22, by rw [f.f (by simp)]; exact hD.2.2.2.1⟩
    have h186 : ∀ (M2 : pm_M) (v : Nat), v < 32 → v = cdN (pR P) (ceHi ec S) → kQ M2 (T.map (fun i => (S.1 i).length)) (T.flatMap (fun i => (S.1 i).map (cdN (pR P)))) (cdN (pR P) (ceLo ec S)) 0 → yfr [18, 19] [] M M2 → X 186 [] [.int (nI v), .int (nI 17), .ref 18] M2 := by
      intro M2 v hv ev q2 f2
      refine hb186 _ _ _ ?_
      simp (maxSteps := 2000000) [bk_X7_makeKey_0, bk_X7_makeKey_6, bk_X7_makeKey_25, bk_X7_makeKey_29, bk_X7_makeKey_60, bk_X7_makeKey_99, bk_X7_makeKey_105, bk_X7_makeKey_132, bk_X7_makeKey_133, bk_X7_makeKey_153, bk_X7_makeKey_159, bk_X7_makeKey_180, bk_X7_makeKey_186, pm_arr, pm_call, pm_e_c0, pm_e_c1, pm_e_cti, pm_e_ctl, pm_e_ctr, pm_e_go, pm_e_i, pm_e_ii, pm_e_ldi, pm_e_ldr, pm_e_lk, pm_e_r, pm_e_ri, pm_e_rii, pm_e_rm0, pm_e_rm1, pm_e_rs0, pm_e_rs1, pm_e_wp0, pm_e_wp1, pm_f2, pm_f3, pm_fld, pm_fv, pm_obj, pm_recv, pm_s_aload_n, pm_s_bastore, pm_s_bipush, pm_s_getfield, pm_s_goto, pm_s_i2b, pm_s_iadd, pm_s_iaload, pm_s_iconst, pm_s_ifCond_eq, pm_s_if_icmp_ge, pm_s_if_icmp_le, pm_s_if_icmp_ne, pm_s_iinc, pm_s_iload, pm_s_iload_n, pm_s_imul, pm_s_invokevirtual, pm_s_istore, pm_s_istore_n, pm_s_return, ct_X7_makeKey, pS, pR, pC, pE, pL, -Int32.not_le, -Int32.not_lt, -Int64.not_le, -Int64.not_lt, -List.getD_eq_getElem?_getD, sy_18, i8 v hv]
      refine ⟨(by rw [ni_in (by omega)]; omega), hT _ (hk _ ?_) (f2.set (by decide) (by decide))⟩
      rw [ev]; exact q2.h
    have h133 : ∀ (M2 : pm_M) (b : Bool), b = decide (ec = 2 ∧ S.2.1 1 < S.2.1 0) → kQ M2 (T.map (fun i => (S.1 i).length)) (T.flatMap (fun i => (S.1 i).map (cdN (pR P)))) 0 0 → yfr [18, 19] [] M M2 → X 133 [(0, .ref 0)] [.int (pb b)] M2 := by
      intro M2 b eb q2 f2
      have h159 : ∀ v, v < 32 → v = cdN (pR P) (ceLo ec S) → X 159 [(0, .ref 0), (2, .int (pb b))] [.int (nI v), .int (nI 16), .ref 18] M2 := by
        intro v hv ev
        have f3 : yfr [18, 19] [] M (pm_set M2 18 16 (nI v)) := f2.set (by decide) (by decide)
        have q3 : kQ (pm_set M2 18 16 (nI v)) (T.map (fun i => (S.1 i).length)) (T.flatMap (fun i => (S.1 i).map (cdN (pR P)))) (cdN (pR P) (ceLo ec S)) 0 := by rw [ev]; exact q2.l
        obtain ⟨c0, c1, -, -⟩ := cel _ f3
        refine hb159 _ _ _ ?_
        simp (maxSteps := 2000000) [bk_X7_makeKey_0, bk_X7_makeKey_6, bk_X7_makeKey_25, bk_X7_makeKey_29, bk_X7_makeKey_60, bk_X7_makeKey_99, bk_X7_makeKey_105, bk_X7_makeKey_132, bk_X7_makeKey_133, bk_X7_makeKey_153, bk_X7_makeKey_159, bk_X7_makeKey_180, bk_X7_makeKey_186, pm_arr, pm_call, pm_e_c0, pm_e_c1, pm_e_cti, pm_e_ctl, pm_e_ctr, pm_e_go, pm_e_i, pm_e_ii, pm_e_ldi, pm_e_ldr, pm_e_lk, pm_e_r, pm_e_ri, pm_e_rii, pm_e_rm0, pm_e_rm1, pm_e_rs0, pm_e_rs1, pm_e_wp0, pm_e_wp1, pm_f2, pm_f3, pm_fld, pm_fv, pm_obj, pm_recv, pm_s_aload_n, pm_s_bastore, pm_s_bipush, pm_s_getfield, pm_s_goto, pm_s_i2b, pm_s_iadd, pm_s_iaload, pm_s_iconst, pm_s_ifCond_eq, pm_s_if_icmp_ge, pm_s_if_icmp_le, pm_s_if_icmp_ne, pm_s_iinc, pm_s_iload, pm_s_iload_n, pm_s_imul, pm_s_invokevirtual, pm_s_istore, pm_s_istore_n, pm_s_return, ct_X7_makeKey, pS, pR, pC, pE, pL, -Int32.not_le, -Int32.not_lt, -Int64.not_le, -Int64.not_lt, -List.getD_eq_getElem?_getD, sy_18, sy_0, sy_12, i8 v hv, pb_eq0]
        rw [show (nI 16).toNatClampNeg = 16 from rfl]
        refine ⟨(by rw [ni_in (by omega)]; omega), fun hb => ?_, fun hb => ⟨(by rw [ni_in (by omega)]; omega), ?_⟩⟩
        · refine hb180 _ _ _ ?_
          simp (maxSteps := 2000000) [bk_X7_makeKey_0, bk_X7_makeKey_6, bk_X7_makeKey_25, bk_X7_makeKey_29, bk_X7_makeKey_60, bk_X7_makeKey_99, bk_X7_makeKey_105, bk_X7_makeKey_132, bk_X7_makeKey_133, bk_X7_makeKey_153, bk_X7_makeKey_159, bk_X7_makeKey_180, bk_X7_makeKey_186, pm_arr, pm_call, pm_e_c0, pm_e_c1, pm_e_cti, pm_e_ctl, pm_e_ctr, pm_e_go, pm_e_i, pm_e_ii, pm_e_ldi, pm_e_ldr, pm_e_lk, pm_e_r, pm_e_ri, pm_e_rii, pm_e_rm0, pm_e_rm1, pm_e_rs0, pm_e_rs1, pm_e_wp0, pm_e_wp1, pm_f2, pm_f3, pm_fld, pm_fv, pm_obj, pm_recv, pm_s_aload_n, pm_s_bastore, pm_s_bipush, pm_s_getfield, pm_s_goto, pm_s_i2b, pm_s_iadd, pm_s_iaload, pm_s_iconst, pm_s_ifCond_eq, pm_s_if_icmp_ge, pm_s_if_icmp_le, pm_s_if_icmp_ne, pm_s_iinc, pm_s_iload, pm_s_iload_n, pm_s_imul, pm_s_invokevirtual, pm_s_istore, pm_s_istore_n, pm_s_return, ct_X7_makeKey, pS, pR, pC, pE, pL, -Int32.not_le, -Int32.not_lt, -Int64.not_le, -Int64.not_lt, -List.getD_eq_getElem?_getD, sy_0, sy_12]
          refine ⟨(by rw [ni_in (by omega)]; omega), ?_⟩
          rw [show (nI 1).toNatClampNeg = 1 from rfl, c1]
          refine h186 _ _ k1 ?_ q3 f3
          unfold ceHi
          rw [if_neg (fun q => by rw [hb] at eb; exact absurd q (of_decide_eq_false eb.symm))]
        · rw [show (nI 0).toNatClampNeg = 0 from rfl, c0]
          refine h186 _ _ k0 ?_ q3 f3
          unfold ceHi
          rw [if_pos (by rw [hb] at eb; exact of_decide_eq_true eb.symm)]
      obtain ⟨c0, c1, -, -⟩ := cel _ f2
      refine hb133 _ _ _ ?_
      simp (maxSteps := 2000000) [bk_X7_makeKey_0, bk_X7_makeKey_6, bk_X7_makeKey_25, bk_X7_makeKey_29, bk_X7_makeKey_60, bk_X7_makeKey_99, bk_X7_makeKey_105, bk_X7_makeKey_132, bk_X7_makeKey_133, bk_X7_makeKey_153, bk_X7_makeKey_159, bk_X7_makeKey_180, bk_X7_makeKey_186, pm_arr, pm_call, pm_e_c0, pm_e_c1, pm_e_cti, pm_e_ctl, pm_e_ctr, pm_e_go, pm_e_i, pm_e_ii, pm_e_ldi, pm_e_ldr, pm_e_lk, pm_e_r, pm_e_ri, pm_e_rii, pm_e_rm0, pm_e_rm1, pm_e_rs0, pm_e_rs1, pm_e_wp0, pm_e_wp1, pm_f2, pm_f3, pm_fld, pm_fv, pm_obj, pm_recv, pm_s_aload_n, pm_s_bastore, pm_s_bipush, pm_s_getfield, pm_s_goto, pm_s_i2b, pm_s_iadd, pm_s_iaload, pm_s_iconst, pm_s_ifCond_eq, pm_s_if_icmp_ge, pm_s_if_icmp_le, pm_s_if_icmp_ne, pm_s_iinc, pm_s_iload, pm_s_iload_n, pm_s_imul, pm_s_invokevirtual, pm_s_istore, pm_s_istore_n, pm_s_return, ct_X7_makeKey, pS, pR, pC, pE, pL, -Int32.not_le, -Int32.not_lt, -Int64.not_le, -Int64.not_lt, -List.getD_eq_getElem?_getD, sy_0, sy_12, pb_eq0]
      refine ⟨fun hb => ?_, fun hb => ⟨(by rw [ni_in (by omega)]; omega), ?_⟩⟩
      · refine hb153 _ _ _ ?_
        simp (maxSteps := 2000000) [bk_X7_makeKey_0, bk_X7_makeKey_6, bk_X7_makeKey_25, bk_X7_makeKey_29, bk_X7_makeKey_60, bk_X7_makeKey_99, bk_X7_makeKey_105, bk_X7_makeKey_132, bk_X7_makeKey_133, bk_X7_makeKey_153, bk_X7_makeKey_159, bk_X7_makeKey_180, bk_X7_makeKey_186, pm_arr, pm_call, pm_e_c0, pm_e_c1, pm_e_cti, pm_e_ctl, pm_e_ctr, pm_e_go, pm_e_i, pm_e_ii, pm_e_ldi, pm_e_ldr, pm_e_lk, pm_e_r, pm_e_ri, pm_e_rii, pm_e_rm0, pm_e_rm1, pm_e_rs0, pm_e_rs1, pm_e_wp0, pm_e_wp1, pm_f2, pm_f3, pm_fld, pm_fv, pm_obj, pm_recv, pm_s_aload_n, pm_s_bastore, pm_s_bipush, pm_s_getfield, pm_s_goto, pm_s_i2b, pm_s_iadd, pm_s_iaload, pm_s_iconst, pm_s_ifCond_eq, pm_s_if_icmp_ge, pm_s_if_icmp_le, pm_s_if_icmp_ne, pm_s_iinc, pm_s_iload, pm_s_iload_n, pm_s_imul, pm_s_invokevirtual, pm_s_istore, pm_s_istore_n, pm_s_return, ct_X7_makeKey, pS, pR, pC, pE, pL, -Int32.not_le, -Int32.not_lt, -Int64.not_le, -Int64.not_lt, -List.getD_eq_getElem?_getD, sy_0, sy_12]
        refine ⟨(by rw [ni_in (by omega)]; omega), ?_⟩
        rw [show (nI 0).toNatClampNeg = 0 from rfl, c0]
        refine h159 _ k0 ?_
        unfold ceLo
        rw [if_neg (fun q => by rw [hb] at eb; exact absurd q (of_decide_eq_false eb.symm))]
      · rw [show (nI 1).toNatClampNeg = 1 from rfl, c1]
        refine h159 _ k1 ?_
        unfold ceLo
        rw [if_pos (by rw [hb] at eb; exact of_decide_eq_true eb.symm)]
    have h105 : ∀ (M2 : pm_M), kQ M2 (T.map (fun i => (S.1 i).length)) (T.flatMap (fun i => (S.1 i).map (cdN (pR P)))) 0 0 → yfr [18, 19] [] M M2 → X 105 [(0, .ref 0)] [] M2 := by
      intro M2 q2 f2
      obtain ⟨c0, c1, c22, -⟩ := cel _ f2
      have h132 : ¬ (ec = 2 ∧ S.2.1 1 < S.2.1 0) → X 132 [(0, .ref 0)] [] M2 := by
        intro hn
        refine hb132 _ _ _ ?_
        simp (maxSteps := 2000000) [bk_X7_makeKey_0, bk_X7_makeKey_6, bk_X7_makeKey_25, bk_X7_makeKey_29, bk_X7_makeKey_60, bk_X7_makeKey_99, bk_X7_makeKey_105, bk_X7_makeKey_132, bk_X7_makeKey_133, bk_X7_makeKey_153, bk_X7_makeKey_159, bk_X7_makeKey_180, bk_X7_makeKey_186, pm_arr, pm_call, pm_e_c0, pm_e_c1, pm_e_cti, pm_e_ctl, pm_e_ctr, pm_e_go, pm_e_i, pm_e_ii, pm_e_ldi, pm_e_ldr, pm_e_lk, pm_e_r, pm_e_ri, pm_e_rii, pm_e_rm0, pm_e_rm1, pm_e_rs0, pm_e_rs1, pm_e_wp0, pm_e_wp1, pm_f2, pm_f3, pm_fld, pm_fv, pm_obj, pm_recv, pm_s_aload_n, pm_s_bastore, pm_s_bipush, pm_s_getfield, pm_s_goto, pm_s_i2b, pm_s_iadd, pm_s_iaload, pm_s_iconst, pm_s_ifCond_eq, pm_s_if_icmp_ge, pm_s_if_icmp_le, pm_s_if_icmp_ne, pm_s_iinc, pm_s_iload, pm_s_iload_n, pm_s_imul, pm_s_invokevirtual, pm_s_istore, pm_s_istore_n, pm_s_return, ct_X7_makeKey, pS, pR, pC, pE, pL, -Int32.not_le, -Int32.not_lt, -Int64.not_le, -Int64.not_lt, -List.getD_eq_getElem?_getD]
        exact h133 M2 false (decide_eq_false hn).symm q2 f2
      refine hb105 _ _ _ ?_
      simp (maxSteps := 2000000) [bk_X7_makeKey_0, bk_X7_makeKey_6, bk_X7_makeKey_25, bk_X7_makeKey_29, bk_X7_makeKey_60, bk_X7_makeKey_99, bk_X7_makeKey_105, bk_X7_makeKey_132, bk_X7_makeKey_133, bk_X7_makeKey_153, bk_X7_makeKey_159, bk_X7_makeKey_180, bk_X7_makeKey_186, pm_arr, pm_call, pm_e_c0, pm_e_c1, pm_e_cti, pm_e_ctl, pm_e_ctr, pm_e_go, pm_e_i, pm_e_ii, pm_e_ldi, pm_e_ldr, pm_e_lk, pm_e_r, pm_e_ri, pm_e_rii, pm_e_rm0, pm_e_rm1, pm_e_rs0, pm_e_rs1, pm_e_wp0, pm_e_wp1, pm_f2, pm_f3, pm_fld, pm_fv, pm_obj, pm_recv, pm_s_aload_n, pm_s_bastore, pm_s_bipush, pm_s_getfield, pm_s_goto, pm_s_i2b, pm_s_iadd, pm_s_iaload, pm_s_iconst, pm_s_ifCond_eq, pm_s_if_icmp_ge, pm_s_if_icmp_le, pm_s_if_icmp_ne, pm_s_iinc, pm_s_iload, pm_s_iload_n, pm_s_imul, pm_s_invokevirtual, pm_s_istore, pm_s_istore_n, pm_s_return, ct_X7_makeKey, pS, pR, pC, pE, pL, -Int32.not_le, -Int32.not_lt, -Int64.not_le, -Int64.not_lt, -List.getD_eq_getElem?_getD, sy_0, sy_12, c22]
      rw [ni_eq (by omega) (by omega), show (nI 0).toNatClampNeg = 0 from rfl, show (nI 1).toNatClampNeg = 1 from rfl, c0, c1, ni_le (by omega) (by omega), hci]
      exact ⟨fun z => h132 (by omega), fun z => ⟨(by rw [ni_in (by omega)]; omega), (by rw [ni_in (by omega)]; omega), fun y => h132 (by omega), fun y => h133 M2 true (decide_eq_true ⟨z, by omega⟩).symm q2 f2⟩⟩
    -- the columns
    have loop : ∀ (f i : Nat) (M2 : pm_M), pC P ≤ i + f → i ≤ pC P → kQ M2 ((T.take i).map (fun i => (S.1 i).length)) ((T.take i).flatMap (fun i => (S.1 i).map (cdN (pR P)))) 0 0 → yfr [18, 19] [] M M2 → (∀ j, j < pC P → M2.1 19 j = nI (T.getD j 0)) → X 29 [(0, .ref 0), (1, .int (nI (4 + ((T.take i).flatMap (fun i => (S.1 i).map (cdN (pR P)))).length))), (2, .int (nI i))] [] M2 := by
      intro f
      have stop : ∀ (M2 : pm_M), kQ M2 ((T.take (pC P)).map (fun i => (S.1 i).length)) ((T.take (pC P)).flatMap (fun i => (S.1 i).map (cdN (pR P)))) 0 0 → yfr [18, 19] [] M M2 → X 29 [(0, .ref 0), (1, .int (nI (4 + ((T.take (pC P)).flatMap (fun i => (S.1 i).map (cdN (pR P)))).length))), (2, .int (nI (pC P)))] [] M2 := by
        intro M2 q2 f2
        obtain ⟨-, -, -, m2⟩ := cel _ f2
        rw [List.take_of_length_le (by omega)] at q2
        refine hb29 _ _ _ ?_
        simp (maxSteps := 2000000) [bk_X7_makeKey_0, bk_X7_makeKey_6, bk_X7_makeKey_25, bk_X7_makeKey_29, bk_X7_makeKey_60, bk_X7_makeKey_99, bk_X7_makeKey_105, bk_X7_makeKey_132, bk_X7_makeKey_133, bk_X7_makeKey_153, bk_X7_makeKey_159, bk_X7_makeKey_180, bk_X7_makeKey_186, pm_arr, pm_call, pm_e_c0, pm_e_c1, pm_e_cti, pm_e_ctl, pm_e_ctr, pm_e_go, pm_e_i, pm_e_ii, pm_e_ldi, pm_e_ldr, pm_e_lk, pm_e_r, pm_e_ri, pm_e_rii, pm_e_rm0, pm_e_rm1, pm_e_rs0, pm_e_rs1, pm_e_wp0, pm_e_wp1, pm_f2, pm_f3, pm_fld, pm_fv, pm_obj, pm_recv, pm_s_aload_n, pm_s_bastore, pm_s_bipush, pm_s_getfield, pm_s_goto, pm_s_i2b, pm_s_iadd, pm_s_iaload, pm_s_iconst, pm_s_ifCond_eq, pm_s_if_icmp_ge, pm_s_if_icmp_le, pm_s_if_icmp_ne, pm_s_iinc, pm_s_iload, pm_s_iload_n, pm_s_imul, pm_s_invokevirtual, pm_s_istore, pm_s_istore_n, pm_s_return, ct_X7_makeKey, pS, pR, pC, pE, pL, -Int32.not_le, -Int32.not_lt, -Int64.not_le, -Int64.not_lt, -List.getD_eq_getElem?_getD, sy_0, m2]
        exact h105 M2 q2 f2
      induction f with
      | zero =>
        intro i M2 a1 a2 q2 f2 o2
        have e : i = pC P := by omega
        rw [e] at q2 ⊢
        exact stop M2 q2 f2
      | succ f ih =>
        intro i M2 a1 a2 q2 f2 o2
        by_cases hi : i < pC P
        · obtain ⟨-, -, -, m2⟩ := cel _ f2
          have hoT := tc (T.getD i 0) (getD_mem (by omega))
          have ho := o2 i hi
          have et := take_s (l := T) (k := i) (by omega)
          have hle : ((T.take (i + 1)).flatMap (fun i => (S.1 i).map (cdN (pR P)))).length ≤ 12 := by
            refine Nat.le_trans ?_ s12
            conv => rhs; rw [← List.take_append_drop (i + 1) T, List.flatMap_append]
            simp
          have ef : (T.take (i + 1)).flatMap (fun i => (S.1 i).map (cdN (pR P))) = (T.take i).flatMap (fun i => (S.1 i).map (cdN (pR P))) ++ (S.1 (T.getD i 0)).map (cdN (pR P)) := by
            rw [et, List.flatMap_append]; simp
          have en : (T.take (i + 1)).map (fun i => (S.1 i).length) = (T.take i).map (fun i => (S.1 i).length) ++ [(S.1 (T.getD i 0)).length] := by
            rw [et, List.map_append]; rfl
          have ih' := fun M3 => ih (i + 1) M3 (by omega) (by omega)
          rw [ef] at hle ih'
          rw [en] at ih'
          have el : ((T.take i).map (fun i => (S.1 i).length)).length = i := by rw [List.length_map, List.length_take]; omega
          rw [List.length_append, List.length_map] at hle
          generalize hoo : T.getD i 0 = o at *
          generalize hfl : (T.take i).flatMap (fun i => (S.1 i).map (cdN (pR P))) = L at *
          generalize hln : (T.take i).map (fun i => (S.1 i).length) = N at *
          have ho4 : o < 4 := hoT.2
          have lo := (hO.1 o ho4).1
          have fin : ∀ M3, kQ M3 (N ++ [(S.1 o).length]) (L ++ (S.1 o).map (cdN (pR P))) 0 0 → yfr [18, 19] [] M M3 → (∀ j, j < pC P → M3.1 19 j = nI (T.getD j 0)) → X 99 [(0, .ref 0), (1, .int (nI (4 + (L.length + (S.1 o).length)))), (2, .int (nI i))] [] M3 := by
            intro M3 q3 f3 o3
            refine hb99 _ _ _ ?_
            simp (maxSteps := 2000000) [bk_X7_makeKey_0, bk_X7_makeKey_6, bk_X7_makeKey_25, bk_X7_makeKey_29, bk_X7_makeKey_60, bk_X7_makeKey_99, bk_X7_makeKey_105, bk_X7_makeKey_132, bk_X7_makeKey_133, bk_X7_makeKey_153, bk_X7_makeKey_159, bk_X7_makeKey_180, bk_X7_makeKey_186, pm_arr, pm_call, pm_e_c0, pm_e_c1, pm_e_cti, pm_e_ctl, pm_e_ctr, pm_e_go, pm_e_i, pm_e_ii, pm_e_ldi, pm_e_ldr, pm_e_lk, pm_e_r, pm_e_ri, pm_e_rii, pm_e_rm0, pm_e_rm1, pm_e_rs0, pm_e_rs1, pm_e_wp0, pm_e_wp1, pm_f2, pm_f3, pm_fld, pm_fv, pm_obj, pm_recv, pm_s_aload_n, pm_s_bastore, pm_s_bipush, pm_s_getfield, pm_s_goto, pm_s_i2b, pm_s_iadd, pm_s_iaload, pm_s_iconst, pm_s_ifCond_eq, pm_s_if_icmp_ge, pm_s_if_icmp_le, pm_s_if_icmp_ne, pm_s_iinc, pm_s_iload, pm_s_iload_n, pm_s_imul, pm_s_invokevirtual, pm_s_istore, pm_s_istore_n, pm_s_return, ct_X7_makeKey, pS, pR, pC, pE, pL, -Int32.not_le, -Int32.not_lt, -Int64.not_le, -Int64.not_lt, -List.getD_eq_getElem?_getD]
            rw [ni_add]
            have := ih' M3 q3 f3 o3
            rw [List.length_append, List.length_map] at this
            exact this
          have inner : ∀ (g j : Nat) (M3 : pm_M), (S.1 o).length ≤ j + g → j ≤ (S.1 o).length → kQ M3 (N ++ [(S.1 o).length]) (L ++ ((S.1 o).take j).map (cdN (pR P))) 0 0 → yfr [18, 19] [] M M3 → (∀ j, j < pC P → M3.1 19 j = nI (T.getD j 0)) → X 60 [(0, .ref 0), (1, .int (nI (4 + (L.length + j)))), (2, .int (nI i)), (3, .int (nI o)), (4, .int (nI j))] [] M3 := by
            intro g
            have stop2 : ∀ (M3 : pm_M), kQ M3 (N ++ [(S.1 o).length]) (L ++ (S.1 o).map (cdN (pR P))) 0 0 → yfr [18, 19] [] M M3 → (∀ j, j < pC P → M3.1 19 j = nI (T.getD j 0)) → X 60 [(0, .ref 0), (1, .int (nI (4 + (L.length + (S.1 o).length)))), (2, .int (nI i)), (3, .int (nI o)), (4, .int (nI (S.1 o).length))] [] M3 := by
              intro M3 q3 f3 o3
              have hn := (hS.mv f3 (by decide) (by decide)).n ho4
              refine hb60 _ _ _ ?_
              simp (maxSteps := 2000000) [bk_X7_makeKey_0, bk_X7_makeKey_6, bk_X7_makeKey_25, bk_X7_makeKey_29, bk_X7_makeKey_60, bk_X7_makeKey_99, bk_X7_makeKey_105, bk_X7_makeKey_132, bk_X7_makeKey_133, bk_X7_makeKey_153, bk_X7_makeKey_159, bk_X7_makeKey_180, bk_X7_makeKey_186, pm_arr, pm_call, pm_e_c0, pm_e_c1, pm_e_cti, pm_e_ctl, pm_e_ctr, pm_e_go, pm_e_i, pm_e_ii, pm_e_ldi, pm_e_ldr, pm_e_lk, pm_e_r, pm_e_ri, pm_e_rii, pm_e_rm0, pm_e_rm1, pm_e_rs0, pm_e_rs1, pm_e_wp0, pm_e_wp1, pm_f2, pm_f3, pm_fld, pm_fv, pm_obj, pm_recv, pm_s_aload_n, pm_s_bastore, pm_s_bipush, pm_s_getfield, pm_s_goto, pm_s_i2b, pm_s_iadd, pm_s_iaload, pm_s_iconst, pm_s_ifCond_eq, pm_s_if_icmp_ge, pm_s_if_icmp_le, pm_s_if_icmp_ne, pm_s_iinc, pm_s_iload, pm_s_iload_n, pm_s_imul, pm_s_invokevirtual, pm_s_istore, pm_s_istore_n, pm_s_return, ct_X7_makeKey, pS, pR, pC, pE, pL, -Int32.not_le, -Int32.not_lt, -Int64.not_le, -Int64.not_lt, -List.getD_eq_getElem?_getD, sy_0, sy_10]
              rw [ni_in (by omega), ni_cl (by omega), hn]
              exact ⟨by omega, fun _ => fin M3 q3 f3 o3, fun z => absurd (Int32.le_refl _) z⟩
            induction g with
            | zero =>
              intro j M3 k1 k2 q3 f3 o3
              have e : j = (S.1 o).length := by omega
              rw [e, List.take_length] at q3
              rw [e]; exact stop2 M3 q3 f3 o3
            | succ g ihg =>
              intro j M3 k1 k2 q3 f3 o3
              by_cases hj : j < (S.1 o).length
              · have s3 := hS.mv f3 (by decide) (by decide)
                have hn := s3.n ho4
                have hc := s3.c ho4 hj
                have hv := cdN_le hP (hI.1 o ho4 _ (getD_mem hj))
                have q4 := q3.code (v := cdN (pR P) ((S.1 o).getD j 0)) (by rw [List.length_append, List.length_map, List.length_take]; omega)
                have el2 : (L ++ ((S.1 o).take j).map (cdN (pR P))).length = L.length + j := by rw [List.length_append, List.length_map, List.length_take]; omega
                have ea : L ++ ((S.1 o).take j).map (cdN (pR P)) ++ [cdN (pR P) ((S.1 o).getD j 0)] = L ++ ((S.1 o).take (j + 1)).map (cdN (pR P)) := by
                  rw [take_s hj, List.map_append, List.append_assoc]; rfl
                rw [el2, ea] at q4
                refine hb60 _ _ _ ?_
                simp (maxSteps := 2000000) [bk_X7_makeKey_0, bk_X7_makeKey_6, bk_X7_makeKey_25, bk_X7_makeKey_29, bk_X7_makeKey_60, bk_X7_makeKey_99, bk_X7_makeKey_105, bk_X7_makeKey_132, bk_X7_makeKey_133, bk_X7_makeKey_153, bk_X7_makeKey_159, bk_X7_makeKey_180, bk_X7_makeKey_186, pm_arr, pm_call, pm_e_c0, pm_e_c1, pm_e_cti, pm_e_ctl, pm_e_ctr, pm_e_go, pm_e_i, pm_e_ii, pm_e_ldi, pm_e_ldr, pm_e_lk, pm_e_r, pm_e_ri, pm_e_rii, pm_e_rm0, pm_e_rm1, pm_e_rs0, pm_e_rs1, pm_e_wp0, pm_e_wp1, pm_f2, pm_f3, pm_fld, pm_fv, pm_obj, pm_recv, pm_s_aload_n, pm_s_bastore, pm_s_bipush, pm_s_getfield, pm_s_goto, pm_s_i2b, pm_s_iadd, pm_s_iaload, pm_s_iconst, pm_s_ifCond_eq, pm_s_if_icmp_ge, pm_s_if_icmp_le, pm_s_if_icmp_ne, pm_s_iinc, pm_s_iload, pm_s_iload_n, pm_s_imul, pm_s_invokevirtual, pm_s_istore, pm_s_istore_n, pm_s_return, ct_X7_makeKey, pS, pR, pC, pE, pL, -Int32.not_le, -Int32.not_lt, -Int64.not_le, -Int64.not_lt, -List.getD_eq_getElem?_getD, sy_0, sy_10, sy_11, sy_18]
                rw [ni_in (n := 4) (by omega), ni_cl (a := o) (by omega), hn, ni_le (by omega) (by omega), ni_mul, ni_add, ni_add, ni_add, ni_in (n := 48) (by omega), ni_in (n := 18) (by omega), ni_cl (by omega), ni_cl (by omega), hc, i8 _ hv]
                exact ⟨by omega, fun z => by omega, fun _ => ⟨by omega, by omega, ihg (j + 1) _ (by omega) (by omega) q4 (f3.set (by decide) (by decide)) (fun a ha => by rw [me_1, if_neg (by omega)]; exact o3 a ha)⟩⟩
              · have e : j = (S.1 o).length := by omega
                rw [e, List.take_length] at q3
                rw [e]; exact stop2 M3 q3 f3 o3
          have hn := (hS.mv f2 (by decide) (by decide)).n ho4
          have q4 := q2.len (v := (S.1 o).length) (by omega)
          rw [el] at q4
          refine hb29 _ _ _ ?_
          simp (maxSteps := 2000000) [bk_X7_makeKey_0, bk_X7_makeKey_6, bk_X7_makeKey_25, bk_X7_makeKey_29, bk_X7_makeKey_60, bk_X7_makeKey_99, bk_X7_makeKey_105, bk_X7_makeKey_132, bk_X7_makeKey_133, bk_X7_makeKey_153, bk_X7_makeKey_159, bk_X7_makeKey_180, bk_X7_makeKey_186, pm_arr, pm_call, pm_e_c0, pm_e_c1, pm_e_cti, pm_e_ctl, pm_e_ctr, pm_e_go, pm_e_i, pm_e_ii, pm_e_ldi, pm_e_ldr, pm_e_lk, pm_e_r, pm_e_ri, pm_e_rii, pm_e_rm0, pm_e_rm1, pm_e_rs0, pm_e_rs1, pm_e_wp0, pm_e_wp1, pm_f2, pm_f3, pm_fld, pm_fv, pm_obj, pm_recv, pm_s_aload_n, pm_s_bastore, pm_s_bipush, pm_s_getfield, pm_s_goto, pm_s_i2b, pm_s_iadd, pm_s_iaload, pm_s_iconst, pm_s_ifCond_eq, pm_s_if_icmp_ge, pm_s_if_icmp_le, pm_s_if_icmp_ne, pm_s_iinc, pm_s_iload, pm_s_iload_n, pm_s_imul, pm_s_invokevirtual, pm_s_istore, pm_s_istore_n, pm_s_return, ct_X7_makeKey, pS, pR, pC, pE, pL, -Int32.not_le, -Int32.not_lt, -Int64.not_le, -Int64.not_lt, -List.getD_eq_getElem?_getD, sy_0, sy_19, sy_10, sy_18, m2]
          dsimp only [pC] at hi hC4
          rw [ni_le (by omega) (by omega), ni_in (n := 4) (by omega), ni_cl (a := i) (by omega), ho, ni_in (n := 18) (by omega), ni_in (n := 4) (by omega), ni_cl (a := o) (by omega), hn, i8 _ (by omega)]
          refine ⟨fun z => by omega, fun _ => ⟨by omega, by omega, by omega, ?_⟩⟩
          exact inner (S.1 o).length 0 _ (by omega) (by omega) (by simpa using q4) (f2.set (by decide) (by decide)) (fun a ha => by rw [me_1, if_neg (by omega)]; exact o2 a ha)
        · have e : i = pC P := by omega
          rw [e] at q2 ⊢
          exact stop M2 q2 f2
    have zero : ∀ (f i : Nat) (M2 : pm_M), 18 ≤ i + f → i ≤ 18 → (∀ j, j < i → M2.1 18 j = nI 0) → yfr [18, 19] [] M M2 → (∀ j, j < pC P → M2.1 19 j = nI (T.getD j 0)) → X 6 [(0, .ref 0), (1, .int (nI i))] [] M2 := by
      intro f
      have stop : ∀ (M2 : pm_M), (∀ j, j < 18 → M2.1 18 j = nI 0) → yfr [18, 19] [] M M2 → (∀ j, j < pC P → M2.1 19 j = nI (T.getD j 0)) → X 6 [(0, .ref 0), (1, .int (nI 18))] [] M2 := by
        intro M2 z2 f2 o2
        refine hb6 _ _ _ ?_
        simp (maxSteps := 2000000) [bk_X7_makeKey_0, bk_X7_makeKey_6, bk_X7_makeKey_25, bk_X7_makeKey_29, bk_X7_makeKey_60, bk_X7_makeKey_99, bk_X7_makeKey_105, bk_X7_makeKey_132, bk_X7_makeKey_133, bk_X7_makeKey_153, bk_X7_makeKey_159, bk_X7_makeKey_180, bk_X7_makeKey_186, pm_arr, pm_call, pm_e_c0, pm_e_c1, pm_e_cti, pm_e_ctl, pm_e_ctr, pm_e_go, pm_e_i, pm_e_ii, pm_e_ldi, pm_e_ldr, pm_e_lk, pm_e_r, pm_e_ri, pm_e_rii, pm_e_rm0, pm_e_rm1, pm_e_rs0, pm_e_rs1, pm_e_wp0, pm_e_wp1, pm_f2, pm_f3, pm_fld, pm_fv, pm_obj, pm_recv, pm_s_aload_n, pm_s_bastore, pm_s_bipush, pm_s_getfield, pm_s_goto, pm_s_i2b, pm_s_iadd, pm_s_iaload, pm_s_iconst, pm_s_ifCond_eq, pm_s_if_icmp_ge, pm_s_if_icmp_le, pm_s_if_icmp_ne, pm_s_iinc, pm_s_iload, pm_s_iload_n, pm_s_imul, pm_s_invokevirtual, pm_s_istore, pm_s_istore_n, pm_s_return, ct_X7_makeKey, pS, pR, pC, pE, pL, -Int32.not_le, -Int32.not_lt, -Int64.not_le, -Int64.not_lt, -List.getD_eq_getElem?_getD, sy_0]
        refine hb25 _ _ _ ?_
        simp (maxSteps := 2000000) [bk_X7_makeKey_0, bk_X7_makeKey_6, bk_X7_makeKey_25, bk_X7_makeKey_29, bk_X7_makeKey_60, bk_X7_makeKey_99, bk_X7_makeKey_105, bk_X7_makeKey_132, bk_X7_makeKey_133, bk_X7_makeKey_153, bk_X7_makeKey_159, bk_X7_makeKey_180, bk_X7_makeKey_186, pm_arr, pm_call, pm_e_c0, pm_e_c1, pm_e_cti, pm_e_ctl, pm_e_ctr, pm_e_go, pm_e_i, pm_e_ii, pm_e_ldi, pm_e_ldr, pm_e_lk, pm_e_r, pm_e_ri, pm_e_rii, pm_e_rm0, pm_e_rm1, pm_e_rs0, pm_e_rs1, pm_e_wp0, pm_e_wp1, pm_f2, pm_f3, pm_fld, pm_fv, pm_obj, pm_recv, pm_s_aload_n, pm_s_bastore, pm_s_bipush, pm_s_getfield, pm_s_goto, pm_s_i2b, pm_s_iadd, pm_s_iaload, pm_s_iconst, pm_s_ifCond_eq, pm_s_if_icmp_ge, pm_s_if_icmp_le, pm_s_if_icmp_ne, pm_s_iinc, pm_s_iload, pm_s_iload_n, pm_s_imul, pm_s_invokevirtual, pm_s_istore, pm_s_istore_n, pm_s_return, ct_X7_makeKey, pS, pR, pC, pE, pL, -Int32.not_le, -Int32.not_lt, -Int64.not_le, -Int64.not_lt, -List.getD_eq_getElem?_getD]
        refine loop (pC P) 0 M2 (by omega) (by omega) (fun j hj => ?_) f2 o2
        rw [z2 j hj]; simp
      induction f with
      | zero =>
        intro i M2 a1 a2 z2 f2 o2
        have e : i = 18 := by omega
        subst e; exact stop M2 z2 f2 o2
      | succ f ih =>
        intro i M2 a1 a2 z2 f2 o2
        by_cases hi : i < 18
        · refine hb6 _ _ _ ?_
          simp (maxSteps := 2000000) [bk_X7_makeKey_0, bk_X7_makeKey_6, bk_X7_makeKey_25, bk_X7_makeKey_29, bk_X7_makeKey_60, bk_X7_makeKey_99, bk_X7_makeKey_105, bk_X7_makeKey_132, bk_X7_makeKey_133, bk_X7_makeKey_153, bk_X7_makeKey_159, bk_X7_makeKey_180, bk_X7_makeKey_186, pm_arr, pm_call, pm_e_c0, pm_e_c1, pm_e_cti, pm_e_ctl, pm_e_ctr, pm_e_go, pm_e_i, pm_e_ii, pm_e_ldi, pm_e_ldr, pm_e_lk, pm_e_r, pm_e_ri, pm_e_rii, pm_e_rm0, pm_e_rm1, pm_e_rs0, pm_e_rs1, pm_e_wp0, pm_e_wp1, pm_f2, pm_f3, pm_fld, pm_fv, pm_obj, pm_recv, pm_s_aload_n, pm_s_bastore, pm_s_bipush, pm_s_getfield, pm_s_goto, pm_s_i2b, pm_s_iadd, pm_s_iaload, pm_s_iconst, pm_s_ifCond_eq, pm_s_if_icmp_ge, pm_s_if_icmp_le, pm_s_if_icmp_ne, pm_s_iinc, pm_s_iload, pm_s_iload_n, pm_s_imul, pm_s_invokevirtual, pm_s_istore, pm_s_istore_n, pm_s_return, ct_X7_makeKey, pS, pR, pC, pE, pL, -Int32.not_le, -Int32.not_lt, -Int64.not_le, -Int64.not_lt, -List.getD_eq_getElem?_getD, sy_0, sy_18]
          rw [ni_le (by omega) (by omega), ni_in (by omega), ni_cl (by omega), ni_add, i8 0 (by decide)]
          refine ⟨fun q => by omega, fun _ => ⟨by omega, ih (i + 1) _ (by omega) (by omega) (fun j hj => ?_) (f2.set (by decide) (by decide)) (fun a ha => by rw [me_1, if_neg (by omega)]; exact o2 a ha)⟩⟩
          rw [me_1s]
          by_cases y : j = i
          · rw [if_pos y]
          · rw [if_neg y]; exact z2 j (by omega)
        · have e : i = 18 := by omega
          subst e; exact stop M2 z2 f2 o2
    exact zero 18 0 M1 (by omega) (by omega) (fun j hj => by omega) (f1.mono (by decide) (by simp)) o1
  · exact hT.elim
def dnB (P : Pm) (S : St) : Bool := decide (hoS S = pS P * pR P)
theorem dnB_t {P : Pm} {S : St} (h : dnB P S = true) : dnS P S := of_decide_eq_true (p := hoS S = pS P * pR P) h
theorem dnB_f {P : Pm} {S : St} (h : dnB P S = false) : ¬ dnS P S := of_decide_eq_false (p := hoS S = pS P * pR P) h
def tt_X7_isDone : pm_T := fun args M k => match args with
  | [.ref 0] => ∃ (P : Pm) (ec : Nat) (S : St), okP P ∧ FW P ec S ∧ kR M (kyF P ec S) ∧ k (some (.int (pb (dnB P S)))) M
  | _ => False
abbrev ct_X7_isDone : List pm_C := []
set_option maxHeartbeats 4000000 in
theorem sm_X7_isDone  : pm_Sem SHy yX7_isDone cX7_isDone 1 (some .boolean) 1 tt_X7_isDone := by
  refine pm_Sem_intro bl_X7_isDone ct_X7_isDone cs_X7_isDone rfl (fun _ h => absurd h List.not_mem_nil) ck_X7_isDone (by decide +kernel) (by decide) ?_
  intro X k hX args M hT
  have hb0 := hX 0 bk_X7_isDone_0 (List.mem_of_getElem? (i := 0) rfl)
  have hb60 := hX 60 bk_X7_isDone_60 (List.mem_of_getElem? (i := 1) rfl)
  have hb61 := hX 61 bk_X7_isDone_61 (List.mem_of_getElem? (i := 2) rfl)
  clear hX
  unfold tt_X7_isDone at hT; split at hT
  · obtain ⟨P, ec, S, hP, hF, hK, hT⟩ := hT
    have hd := ky_done hP hF
    have r0 := hK 0 (by decide)
    have r1 := hK 1 (by decide)
    have r2 := hK 2 (by decide)
    have r3 := hK 3 (by decide)
    have r16 := hK 16 (by decide)
    have r17 := hK 17 (by decide)
    have b0 := kyF_lt hP hF 0
    have b1 := kyF_lt hP hF 1
    have b2 := kyF_lt hP hF 2
    have b3 := kyF_lt hP hF 3
    have b16 := kyF_lt hP hF 16
    have b17 := kyF_lt hP hF 17
    generalize kyF P ec S 0 = v0 at *
    generalize kyF P ec S 1 = v1 at *
    generalize kyF P ec S 2 = v2 at *
    generalize kyF P ec S 3 = v3 at *
    generalize kyF P ec S 16 = v16 at *
    generalize kyF P ec S 17 = v17 at *
    have h61 : ∀ b : Bool, b = dnB P S → X 61 [] [.int (pb b)] M := by
      intro b eb
      rw [← eb] at hT
      refine hb61 _ _ _ ?_
      simp (maxSteps := 2000000) [bk_X7_isDone_0, bk_X7_isDone_60, bk_X7_isDone_61, pm_arr, pm_e_c0, pm_e_c1, pm_e_cti, pm_e_ctl, pm_e_ctr, pm_e_go, pm_e_i, pm_e_ldr, pm_e_lk, pm_e_r, pm_e_ri, pm_e_rm0, pm_e_rm1, pm_e_rs0, pm_e_rs1, pm_e_wp0, pm_e_wp1, pm_f2, pm_f3, pm_fld, pm_fv, pm_obj, pm_s_aload_n, pm_s_baload, pm_s_bipush, pm_s_getfield, pm_s_goto, pm_s_iconst, pm_s_ifCond_ne, pm_s_ireturn, ct_X7_isDone, pS, pR, pC, pE, pL, -Int32.not_le, -Int32.not_lt, -Int64.not_le, -Int64.not_lt, -List.getD_eq_getElem?_getD, pb_01]
      exact hT
    have h60 : ¬ (v0 = 0 ∧ v1 = 0 ∧ v2 = 0 ∧ v3 = 0 ∧ v16 = 0 ∧ v17 = 0) → X 60 [] [] M := by
      intro hn
      refine hb60 _ _ _ ?_
      simp (maxSteps := 2000000) [bk_X7_isDone_0, bk_X7_isDone_60, bk_X7_isDone_61, pm_arr, pm_e_c0, pm_e_c1, pm_e_cti, pm_e_ctl, pm_e_ctr, pm_e_go, pm_e_i, pm_e_ldr, pm_e_lk, pm_e_r, pm_e_ri, pm_e_rm0, pm_e_rm1, pm_e_rs0, pm_e_rs1, pm_e_wp0, pm_e_wp1, pm_f2, pm_f3, pm_fld, pm_fv, pm_obj, pm_s_aload_n, pm_s_baload, pm_s_bipush, pm_s_getfield, pm_s_goto, pm_s_iconst, pm_s_ifCond_ne, pm_s_ireturn, ct_X7_isDone, pS, pR, pC, pE, pL, -Int32.not_le, -Int32.not_lt, -Int64.not_le, -Int64.not_lt, -List.getD_eq_getElem?_getD]
      exact h61 false (decide_eq_false (p := hoS S = pS P * pR P) (fun q => hn (hd.mp q))).symm
    refine ⟨by simp [lg_sl, Value.category], ?_⟩
    refine hb0 _ _ _ ?_
    simp (maxSteps := 2000000) [bk_X7_isDone_0, bk_X7_isDone_60, bk_X7_isDone_61, pm_arr, pm_e_c0, pm_e_c1, pm_e_cti, pm_e_ctl, pm_e_ctr, pm_e_go, pm_e_i, pm_e_ldr, pm_e_lk, pm_e_r, pm_e_ri, pm_e_rm0, pm_e_rm1, pm_e_rs0, pm_e_rs1, pm_e_wp0, pm_e_wp1, pm_f2, pm_f3, pm_fld, pm_fv, pm_obj, pm_s_aload_n, pm_s_baload, pm_s_bipush, pm_s_getfield, pm_s_goto, pm_s_iconst, pm_s_ifCond_ne, pm_s_ireturn, ct_X7_isDone, pS, pR, pC, pE, pL, -Int32.not_le, -Int32.not_lt, -Int64.not_le, -Int64.not_lt, -List.getD_eq_getElem?_getD, lv_args, sy_0, sy_18]
    rw [show (nI 0).toNatClampNeg = 0 from rfl, show (nI 1).toNatClampNeg = 1 from rfl, show (nI 2).toNatClampNeg = 2 from rfl, show (nI 3).toNatClampNeg = 3 from rfl, show (nI 16).toNatClampNeg = 16 from rfl, show (nI 17).toNatClampNeg = 17 from rfl, r0, r1, r2, r3, r16, r17, ni_eq0 (by omega), ni_eq0 (by omega), ni_eq0 (by omega), ni_eq0 (by omega), ni_eq0 (by omega), ni_eq0 (by omega)]
    exact ⟨(by rw [ni_in (by omega)]; omega), fun z => h60 (by omega), fun z0 => ⟨(by rw [ni_in (by omega)]; omega), fun z => h60 (by omega), fun z1 => ⟨(by rw [ni_in (by omega)]; omega), fun z => h60 (by omega), fun z2 => ⟨(by rw [ni_in (by omega)]; omega), fun z => h60 (by omega), fun z3 => ⟨(by rw [ni_in (by omega)]; omega), fun z => h60 (by omega), fun z4 => ⟨(by rw [ni_in (by omega)]; omega), fun z => h60 (by omega), fun z5 => h61 true (decide_eq_true (p := hoS S = pS P * pR P) (hd.mpr ⟨z0, z1, z2, z3, z4, z5⟩)).symm⟩⟩⟩⟩⟩⟩
  · exact hT.elim
