theorem flat_get : ∀ (C : List (List Nat)) (k i : Nat), i < (C.getD k []).length → C.flatten.getD ((C.take k).flatten.length + i) 0 = (C.getD k []).getD i 0
  | [], k, i, h => by simp at h
  | c :: C, 0, i, h => by
    have h' : i < c.length := h
    show (c ++ C.flatten).getD (0 + i) 0 = c.getD i 0
    rw [Nat.zero_add, List.getD_eq_getElem?_getD, List.getD_eq_getElem?_getD, List.getElem?_append_left h']
  | c :: C, k + 1, i, h => by
    have h' : i < (C.getD k []).length := h
    show (c ++ C.flatten).getD ((c ++ (C.take k).flatten).length + i) 0 = (C.getD k []).getD i 0
    rw [← flat_get C k i h', List.length_append, List.getD_eq_getElem?_getD, List.getD_eq_getElem?_getD, List.getElem?_append_right (by omega)]
    congr 2; omega
theorem flat_off : ∀ (C : List (List Nat)) (k : Nat), (C.take (k + 1)).flatten.length = (C.take k).flatten.length + (C.getD k []).length
  | [], k => by simp
  | c :: C, 0 => by simp
  | c :: C, k + 1 => by
    show (c ++ (C.take (k + 1)).flatten).length = (c ++ (C.take k).flatten).length + (C.getD k []).length
    rw [List.length_append, List.length_append, flat_off C k]; omega
theorem flat_le (C : List (List Nat)) (k : Nat) : (C.take k).flatten.length ≤ C.flatten.length := by
  conv => rhs; rw [← List.take_append_drop k C, List.flatten_append]
  simp
theorem flat_mp (g : Nat → Nat) (C : List (List Nat)) : C.flatMap (fun c => c.map g) = C.flatten.map g := by rw [List.map_flatten]; rfl
theorem flat_cP (r t : Nat) : ∀ C : List (List Nat), cP r t C.flatten = (C.map (cP r t)).sum
  | [] => rfl
  | c :: C => by
    rw [List.flatten_cons, List.map_cons, List.sum_cons, ← flat_cP r t C]
    unfold cP; exact List.countP_append
theorem len_getD (C : List (List Nat)) (k : Nat) : (C.map List.length).getD k 0 = (C.getD k []).length := by
  rw [List.getD_eq_getElem?_getD, List.getD_eq_getElem?_getD, List.getElem?_map]
  cases C[k]? <;> rfl
theorem map_getD0 (g : Nat → Nat) (h : g 0 = 0) (l : List Nat) (k : Nat) : (l.map g).getD k 0 = g (l.getD k 0) := by
  rw [List.getD_eq_getElem?_getD, List.getD_eq_getElem?_getD, List.getElem?_map]
  cases l[k]? <;> simp [h]
theorem cP_app1 (r t d : Nat) (l : List Nat) (hd : d ≠ 0) : cP r t (l ++ [d]) = cP r t l + if su r d = t then 1 else 0 := by
  unfold cP
  rw [List.countP_append]
  by_cases z : su r d = t
  · rw [if_pos z]; simp [hd, z]
  · rw [if_neg z]; simp [hd, z]
def hoI (M : pm_M) (P : Pm) (L : List Nat) : Prop := ∀ t, t < 4 → M.1 13 t = nI (if t < pS P then pR P else 0) - nI (cP (pR P) t L)
theorem hoI.app {M : pm_M} {P : Pm} {L : List Nat} (h : hoI M P L) {d : Nat} (hd : d ≠ 0) (h4 : su (pR P) d < 4) : hoI (pm_set M 13 (su (pR P) d) (M.1 13 (su (pR P) d) - nI 1)) P (L ++ [d]) := fun t ht => by
  rw [me_1s, cP_app1 _ _ _ _ hd]
  by_cases z : t = su (pR P) d
  · rw [if_pos z, if_pos z.symm, z, h _ h4, Int32.sub_sub, ni_add]
  · rw [if_neg z, if_neg (show ¬ su (pR P) d = t from fun q => z q.symm), h t ht]; rfl
theorem hoI.q {M M' : pm_M} {P : Pm} {L : List Nat} (h : hoI M P L) (e : ∀ t, M'.1 13 t = M.1 13 t) : hoI M' P L := fun t ht => by rw [e]; exact h t ht
def coI (M : pm_M) (r : Nat) (C : List (List Nat)) (k : Nat) : Prop := ∀ a, a < k → M.1 10 a = nI (C.getD a []).length ∧ ∀ j, j < (C.getD a []).length → M.1 11 (12 * a + j) = nI (cdN r ((C.getD a []).getD j 0))
def tt_X7_trying : pm_T := fun args M k => match args with
  | [.ref 0, .int x] => ∃ (P : Pm) (ec s : Nat) (S : St), x = nI s ∧ s < 4000 ∧ DkY M P ∧ ec ≤ 2 ∧ FW P ec S ∧ (∀ j, j < 18 → M.1 14 (18 * s + j) = nI (kyF P ec S j)) ∧ ∀ M', SdY M' 10 0 (pR P) (cnS P ec S) → yfr [10, 11, 12, 13] [] M M' → k none M'
  | _ => False
abbrev ct_X7_trying : List pm_C := []
set_option maxHeartbeats 4000000 in
theorem sm_X7_trying  : pm_Sem SHy yX7_trying cX7_trying 6 none 1 tt_X7_trying := by
  refine pm_Sem_intro bl_X7_trying ct_X7_trying cs_X7_trying rfl (fun _ h => absurd h List.not_mem_nil) ck_X7_trying (by decide +kernel) (by decide) ?_
  intro X k hX args M hT
  have hb0 := hX 0 bk_X7_trying_0 (List.mem_of_getElem? (i := 0) rfl)
  have hb12 := hX 12 bk_X7_trying_12 (List.mem_of_getElem? (i := 1) rfl)
  have hb40 := hX 40 bk_X7_trying_40 (List.mem_of_getElem? (i := 2) rfl)
  have hb41 := hX 41 bk_X7_trying_41 (List.mem_of_getElem? (i := 3) rfl)
  have hb48 := hX 48 bk_X7_trying_48 (List.mem_of_getElem? (i := 4) rfl)
  have hb51 := hX 51 bk_X7_trying_51 (List.mem_of_getElem? (i := 5) rfl)
  have hb76 := hX 76 bk_X7_trying_76 (List.mem_of_getElem? (i := 6) rfl)
  have hb133 := hX 133 bk_X7_trying_133 (List.mem_of_getElem? (i := 7) rfl)
  have hb139 := hX 139 bk_X7_trying_139 (List.mem_of_getElem? (i := 8) rfl)
  have hb142 := hX 142 bk_X7_trying_142 (List.mem_of_getElem? (i := 9) rfl)
  have hb195 := hX 195 bk_X7_trying_195 (List.mem_of_getElem? (i := 10) rfl)
  have hb201 := hX 201 bk_X7_trying_201 (List.mem_of_getElem? (i := 11) rfl)
  clear hX
  unfold tt_X7_trying at hT; split at hT
  · next x =>
    obtain ⟨P, ec, s, S, rfl, hs, hD, he, hF, hK, hT⟩ := hT
    have hP := hD.1
    have h1 := hP.1
    have h2 := hP.2.1
    have h3 := hP.2.2.2.1
    obtain ⟨-, m0, m1, -⟩ := id hD
    have hFc := cnS_fw hP he hF
    have hOc := hFc.ok hP
    have hAc := hFc.allK hP
    have kl := kyF_lt hP hF
    -- the key, in words of the columns
    have k4 : ∀ j, j < 4 → kyF P ec S j = ((colsT P S).getD j []).length := fun j hj => by unfold kyF kyG; rw [if_pos hj, len_getD]
    have kD : ∀ q, q < 12 → kyF P ec S (4 + q) = cdN (pR P) ((colsT P S).flatten.getD q 0) := fun q hq => by
      unfold kyF kyG; rw [if_neg (by omega), if_pos (by omega), show 4 + q - 4 = q by omega, flat_mp, map_getD0 _ rfl]
    have k16 : kyF P ec S 16 = cdN (pR P) (ceLo ec S) := rfl
    have k17 : kyF P ec S 17 = cdN (pR P) (ceHi ec S) := rfl
    have l12 : (colsT P S).flatten.length ≤ 12 := by
      have := colsT_12 hP hF
      rw [← flat_len (pR P), flat_mp, List.length_map] at this; exact this
    have hcd : ∀ d ∈ (colsT P S).flatten, 1 ≤ d ∧ d ≤ pS P * pR P := fun d hd => by
      obtain ⟨c, hc, hd⟩ := List.mem_flatten.mp hd
      obtain ⟨i, i1, i2, rfl⟩ := colsT_mem hc
      exact hF.2.2.2.1 i i1 d hd
    have c12 : ∀ a, a < 4 → ((colsT P S).getD a []).length ≤ 12 := fun a ha => (hOc.1 a ha).1
    have cLo : ceLo ec S ≤ pS P * pR P := hFc.2.2.2.2.1 0 (by decide)
    have cHi : ceHi ec S ≤ pS P * pR P := hFc.2.2.2.2.1 1 (by decide)
    have hsum : ∀ t, t < 4 → S.2.2 t + (cP (pR P) t (colsT P S).flatten + cP (pR P) t [ceLo ec S] + cP (pR P) t [ceHi ec S]) = if t < pS P then pR P else 0 := fun t ht => by
      have a := hAc t ht
      rw [cP_DS] at a
      have g4 := getD4 (cP (pR P) t) (colsT P S) (by rw [colsT_len hP]; exact hP.2.2.2.2.2.2.1)
      rw [flat_cP]
      have z : cP (pR P) t [] = 0 := rfl
      rw [z, Nat.mul_zero, Nat.add_zero] at g4
      rw [← g4]
      have a' : S.2.2 t + (cP (pR P) t ((colsT P S).getD 0 []) + cP (pR P) t ((colsT P S).getD 1 []) + cP (pR P) t ((colsT P S).getD 2 []) + cP (pR P) t ((colsT P S).getD 3 []) + cP (pR P) t [ceLo ec S] + cP (pR P) t [ceHi ec S]) = if t < pS P then pR P else 0 := a
      omega
    have hT' : ∀ M', coI M' (pR P) (colsT P S) 4 → M'.1 12 0 = nI (cdN (pR P) (ceLo ec S)) → M'.1 12 1 = nI (cdN (pR P) (ceHi ec S)) → (∀ t, t < 4 → M'.1 13 t = nI (S.2.2 t)) → yfr [10, 11, 12, 13] [] M M' → X 201 [] [] M' := by
      intro M' q1 q2 q3 q4 q5
      refine hb201 _ _ _ ?_
      simp (maxSteps := 2000000) [bk_X7_trying_0, bk_X7_trying_12, bk_X7_trying_40, bk_X7_trying_41, bk_X7_trying_48, bk_X7_trying_51, bk_X7_trying_76, bk_X7_trying_133, bk_X7_trying_139, bk_X7_trying_142, bk_X7_trying_195, bk_X7_trying_201, pm_arr, pm_e_c0, pm_e_c1, pm_e_cti, pm_e_ctl, pm_e_ctr, pm_e_go, pm_e_i, pm_e_ii, pm_e_ldi, pm_e_ldr, pm_e_lk, pm_e_r, pm_e_ri, pm_e_rii, pm_e_rm0, pm_e_rm1, pm_e_rs0, pm_e_rs1, pm_e_v2, pm_e_wp0, pm_e_wp1, pm_f2, pm_f3, pm_fld, pm_fv, pm_obj, pm_s_aload_n, pm_s_baload, pm_s_bipush, pm_s_dup2, pm_s_getfield, pm_s_goto, pm_s_iadd, pm_s_iaload, pm_s_iastore, pm_s_iconst, pm_s_ifCond_eq, pm_s_if_icmp_ge, pm_s_iinc, pm_s_iload, pm_s_iload_n, pm_s_imul, pm_s_ishr, pm_s_istore, pm_s_istore_n, pm_s_isub, pm_s_return, ct_X7_trying, pS, pR, pC, pE, pL, -Int32.not_le, -Int32.not_lt, -Int64.not_le, -Int64.not_lt, -List.getD_eq_getElem?_getD]
      refine hT M' ⟨fun i hi => ⟨?_, ?_, fun j hj => ?_⟩, fun j hj => ?_⟩ q5
      · rw [show 4 * 0 + i = i by omega]; exact (q1 i hi).1
      · rw [show 4 * 0 + i = i by omega]; exact q4 i hi
      · rw [show 48 * 0 + 12 * i + j = 12 * i + j by omega]; exact (q1 i hi).2 j hj
      · rw [show 2 * 0 + j = j by omega]
        rcases (show j = 0 ∨ j = 1 by omega) with rfl | rfl
        · exact q2
        · exact q3
    generalize hCC : colsT P S = C at *
    generalize hDD : C.flatten = D at *
    refine ⟨by simp [lg_sl, Value.category], ?_⟩
    have fr14 : ∀ M2, yfr [10, 11, 12, 13] [] M M2 → ∀ j, j < 18 → M2.1 14 (18 * s + j) = nI (kyF P ec S j) := fun M2 f2 j hj => by rw [f2.i (by decide) (by decide)]; exact hK j hj
    -- the cells
    have cell : ∀ (M2 : pm_M) (i d : Nat) (L : List Nat), i < 2 → d ≤ pS P * pR P → kyF P ec S (16 + i) = cdN (pR P) d → hoI M2 P L → coI M2 (pR P) C 4 → yfr [10, 11, 12, 13] [] M M2 → (∀ M3, hoI M3 P (if d = 0 then L else L ++ [d]) → M3.1 12 i = nI (cdN (pR P) d) → (∀ j, j ≠ i → M3.1 12 j = M2.1 12 j) → coI M3 (pR P) C 4 → yfr [10, 11, 12, 13] [] M M3 → X 142 [(0, .ref 0), (2, .int (nI (18 * s))), (4, .int (nI (i + 1)))] [] M3) → X 142 [(0, .ref 0), (2, .int (nI (18 * s))), (4, .int (nI i))] [] M2 := by
      intro M2 i d L hi hd ek ho co f2 hk
      have h195 : ∀ M3, hoI M3 P (if d = 0 then L else L ++ [d]) → M3.1 12 i = nI (cdN (pR P) d) → (∀ j, j ≠ i → M3.1 12 j = M2.1 12 j) → coI M3 (pR P) C 4 → yfr [10, 11, 12, 13] [] M M3 → X 195 [(0, .ref 0), (2, .int (nI (18 * s))), (4, .int (nI i))] [] M3 := by
        intro M3 q1 q2 q3 q4 q5
        refine hb195 _ _ _ ?_
        simp (maxSteps := 2000000) [bk_X7_trying_0, bk_X7_trying_12, bk_X7_trying_40, bk_X7_trying_41, bk_X7_trying_48, bk_X7_trying_51, bk_X7_trying_76, bk_X7_trying_133, bk_X7_trying_139, bk_X7_trying_142, bk_X7_trying_195, bk_X7_trying_201, pm_arr, pm_e_c0, pm_e_c1, pm_e_cti, pm_e_ctl, pm_e_ctr, pm_e_go, pm_e_i, pm_e_ii, pm_e_ldi, pm_e_ldr, pm_e_lk, pm_e_r, pm_e_ri, pm_e_rii, pm_e_rm0, pm_e_rm1, pm_e_rs0, pm_e_rs1, pm_e_v2, pm_e_wp0, pm_e_wp1, pm_f2, pm_f3, pm_fld, pm_fv, pm_obj, pm_s_aload_n, pm_s_baload, pm_s_bipush, pm_s_dup2, pm_s_getfield, pm_s_goto, pm_s_iadd, pm_s_iaload, pm_s_iastore, pm_s_iconst, pm_s_ifCond_eq, pm_s_if_icmp_ge, pm_s_iinc, pm_s_iload, pm_s_iload_n, pm_s_imul, pm_s_ishr, pm_s_istore, pm_s_istore_n, pm_s_isub, pm_s_return, ct_X7_trying, pS, pR, pC, pE, pL, -Int32.not_le, -Int32.not_lt, -Int64.not_le, -Int64.not_lt, -List.getD_eq_getElem?_getD]
        rw [ni_add]
        exact hk M3 q1 q2 q3 q4 q5
      have e14 := fr14 M2 f2 (16 + i) (by omega)
      rw [ek] at e14
      have hc := cdN_le hP hd
      have e12 : ∀ a v, (pm_set M2 12 a v).1 12 a = v := fun a v => by rw [me_1s, if_pos rfl]
      have e13 : ∀ a v b, (pm_set M2 12 a v).1 13 b = M2.1 13 b := fun a v b => by rw [me_1, if_neg (by omega)]
      have co3 : ∀ v, coI (pm_set M2 12 i v) (pR P) C 4 := fun v a ha => ⟨by rw [me_1, if_neg (by omega)]; exact (co a ha).1, fun j hj => by rw [me_1, if_neg (by omega)]; exact (co a ha).2 j hj⟩
      refine hb142 _ _ _ ?_
      simp (maxSteps := 2000000) [bk_X7_trying_0, bk_X7_trying_12, bk_X7_trying_40, bk_X7_trying_41, bk_X7_trying_48, bk_X7_trying_51, bk_X7_trying_76, bk_X7_trying_133, bk_X7_trying_139, bk_X7_trying_142, bk_X7_trying_195, bk_X7_trying_201, pm_arr, pm_e_c0, pm_e_c1, pm_e_cti, pm_e_ctl, pm_e_ctr, pm_e_go, pm_e_i, pm_e_ii, pm_e_ldi, pm_e_ldr, pm_e_lk, pm_e_r, pm_e_ri, pm_e_rii, pm_e_rm0, pm_e_rm1, pm_e_rs0, pm_e_rs1, pm_e_v2, pm_e_wp0, pm_e_wp1, pm_f2, pm_f3, pm_fld, pm_fv, pm_obj, pm_s_aload_n, pm_s_baload, pm_s_bipush, pm_s_dup2, pm_s_getfield, pm_s_goto, pm_s_iadd, pm_s_iaload, pm_s_iastore, pm_s_iconst, pm_s_ifCond_eq, pm_s_if_icmp_ge, pm_s_iinc, pm_s_iload, pm_s_iload_n, pm_s_imul, pm_s_ishr, pm_s_istore, pm_s_istore_n, pm_s_isub, pm_s_return, ct_X7_trying, pS, pR, pC, pE, pL, -Int32.not_le, -Int32.not_lt, -Int64.not_le, -Int64.not_lt, -List.getD_eq_getElem?_getD, sy_0, sy_14, sy_12, sy_13]
      rw [ni_le (by omega) (by omega), ni_add, ni_add, ni_in (n := 72036) (by omega), ni_in (n := 2) (by omega), ni_cl (a := i) (by omega), ni_cl (by omega), show 18 * s + 16 + i = 18 * s + (16 + i) by omega, e14, e12, cd_z hP hd]
      refine ⟨fun q => by omega, fun _ => ⟨by omega, by omega, fun z => ?_, fun z => ?_⟩⟩
      · refine h195 _ ?_ (e12 _ _) (fun j hj => by rw [me_1s, if_neg hj]) (co3 _) (f2.set (by decide) (by decide))
        rw [if_pos z]; exact ho.q (fun t => e13 _ _ t)
      · have hsu := su_lt hP.2.2.1 (show 1 ≤ d by omega) hd
        rw [(cd_sh hP (show 1 ≤ d by omega) hd).1, ni_in (a := su (pR P) d) (n := 4) (by omega), ni_cl (a := su (pR P) d) (by omega)]
        refine ⟨by omega, ?_⟩
        have := h195 (pm_set (pm_set M2 12 i (nI (cdN (pR P) d))) 13 (su (pR P) d) ((pm_set M2 12 i (nI (cdN (pR P) d))).1 13 (su (pR P) d) - nI 1)) (by
          rw [if_neg z]
          exact (ho.q (fun t => e13 _ _ t)).app (by omega) (by omega)) (by rw [me_1, if_neg (show ¬ (12 = 13 ∧ i = su (pR P) d) by omega)]; exact e12 _ _) (fun j hj => by rw [me_1, if_neg (show ¬ (12 = 13 ∧ j = su (pR P) d) by omega), me_1s, if_neg hj]) (fun a ha => ⟨by rw [me_1, if_neg (show ¬ (10 = 13 ∧ a = su (pR P) d) by omega)]; exact (co3 (nI (cdN (pR P) d)) a ha).1, fun j hj => by rw [me_1, if_neg (show ¬ (11 = 13 ∧ 12 * a + j = su (pR P) d) by omega)]; exact (co3 (nI (cdN (pR P) d)) a ha).2 j hj⟩) ((f2.set (by decide) (by decide)).set (by decide) (by decide))
        exact ⟨by omega, this⟩
    have h139 : ∀ (M2 : pm_M), hoI M2 P D → coI M2 (pR P) C 4 → yfr [10, 11, 12, 13] [] M M2 → X 139 [(0, .ref 0), (2, .int (nI (18 * s)))] [] M2 := by
      intro M2 ho co f2
      refine hb139 _ _ _ ?_
      simp (maxSteps := 2000000) [bk_X7_trying_0, bk_X7_trying_12, bk_X7_trying_40, bk_X7_trying_41, bk_X7_trying_48, bk_X7_trying_51, bk_X7_trying_76, bk_X7_trying_133, bk_X7_trying_139, bk_X7_trying_142, bk_X7_trying_195, bk_X7_trying_201, pm_arr, pm_e_c0, pm_e_c1, pm_e_cti, pm_e_ctl, pm_e_ctr, pm_e_go, pm_e_i, pm_e_ii, pm_e_ldi, pm_e_ldr, pm_e_lk, pm_e_r, pm_e_ri, pm_e_rii, pm_e_rm0, pm_e_rm1, pm_e_rs0, pm_e_rs1, pm_e_v2, pm_e_wp0, pm_e_wp1, pm_f2, pm_f3, pm_fld, pm_fv, pm_obj, pm_s_aload_n, pm_s_baload, pm_s_bipush, pm_s_dup2, pm_s_getfield, pm_s_goto, pm_s_iadd, pm_s_iaload, pm_s_iastore, pm_s_iconst, pm_s_ifCond_eq, pm_s_if_icmp_ge, pm_s_iinc, pm_s_iload, pm_s_iload_n, pm_s_imul, pm_s_ishr, pm_s_istore, pm_s_istore_n, pm_s_isub, pm_s_return, ct_X7_trying, pS, pR, pC, pE, pL, -Int32.not_le, -Int32.not_lt, -Int64.not_le, -Int64.not_lt, -List.getD_eq_getElem?_getD]
      refine cell M2 0 (ceLo ec S) D (by decide) cLo k16 ho co f2 (fun M3 ho3 e3 x3 co3 f3 => ?_)
      refine cell M3 1 (ceHi ec S) _ (by decide) cHi k17 ho3 co3 f3 (fun M4 ho4 e4 x4 co4 f4 => ?_)
      refine hb142 _ _ _ ?_
      simp (maxSteps := 2000000) [bk_X7_trying_0, bk_X7_trying_12, bk_X7_trying_40, bk_X7_trying_41, bk_X7_trying_48, bk_X7_trying_51, bk_X7_trying_76, bk_X7_trying_133, bk_X7_trying_139, bk_X7_trying_142, bk_X7_trying_195, bk_X7_trying_201, pm_arr, pm_e_c0, pm_e_c1, pm_e_cti, pm_e_ctl, pm_e_ctr, pm_e_go, pm_e_i, pm_e_ii, pm_e_ldi, pm_e_ldr, pm_e_lk, pm_e_r, pm_e_ri, pm_e_rii, pm_e_rm0, pm_e_rm1, pm_e_rs0, pm_e_rs1, pm_e_v2, pm_e_wp0, pm_e_wp1, pm_f2, pm_f3, pm_fld, pm_fv, pm_obj, pm_s_aload_n, pm_s_baload, pm_s_bipush, pm_s_dup2, pm_s_getfield, pm_s_goto, pm_s_iadd, pm_s_iaload, pm_s_iastore, pm_s_iconst, pm_s_ifCond_eq, pm_s_if_icmp_ge, pm_s_iinc, pm_s_iload, pm_s_iload_n, pm_s_imul, pm_s_ishr, pm_s_istore, pm_s_istore_n, pm_s_isub, pm_s_return, ct_X7_trying, pS, pR, pC, pE, pL, -Int32.not_le, -Int32.not_lt, -Int64.not_le, -Int64.not_lt, -List.getD_eq_getElem?_getD, sy_0]
      refine hT' M4 co4 (by rw [x4 0 (by decide)]; exact e3) e4 (fun t ht => ?_) f4
      have hs := hsum t ht
      have cz : ∀ (L : List Nat) (d : Nat), cP (pR P) t (if d = 0 then L else L ++ [d]) = cP (pR P) t L + cP (pR P) t [d] := by
        intro L d
        by_cases z : d = 0
        · rw [if_pos z, z]; simp [cP]
        · rw [if_neg z]; unfold cP; exact List.countP_append
      rw [ho4 t ht, cz, cz, ni_sub (by omega)]
      congr 1; omega
    -- the columns
    have loop : ∀ (f a : Nat) (M2 : pm_M), 4 ≤ a + f → a ≤ 4 → coI M2 (pR P) C a → hoI M2 P (D.take (C.take a).flatten.length) → yfr [10, 11, 12, 13] [] M M2 → X 51 [(0, .ref 0), (2, .int (nI (18 * s))), (3, .int (nI (18 * s + 4 + (C.take a).flatten.length))), (4, .int (nI a))] [] M2 := by
      intro f
      have stop : ∀ (M2 : pm_M), coI M2 (pR P) C 4 → hoI M2 P (D.take (C.take 4).flatten.length) → yfr [10, 11, 12, 13] [] M M2 → X 51 [(0, .ref 0), (2, .int (nI (18 * s))), (3, .int (nI (18 * s + 4 + (C.take 4).flatten.length))), (4, .int (nI 4))] [] M2 := by
        intro M2 co ho f2
        refine hb51 _ _ _ ?_
        simp (maxSteps := 2000000) [bk_X7_trying_0, bk_X7_trying_12, bk_X7_trying_40, bk_X7_trying_41, bk_X7_trying_48, bk_X7_trying_51, bk_X7_trying_76, bk_X7_trying_133, bk_X7_trying_139, bk_X7_trying_142, bk_X7_trying_195, bk_X7_trying_201, pm_arr, pm_e_c0, pm_e_c1, pm_e_cti, pm_e_ctl, pm_e_ctr, pm_e_go, pm_e_i, pm_e_ii, pm_e_ldi, pm_e_ldr, pm_e_lk, pm_e_r, pm_e_ri, pm_e_rii, pm_e_rm0, pm_e_rm1, pm_e_rs0, pm_e_rs1, pm_e_v2, pm_e_wp0, pm_e_wp1, pm_f2, pm_f3, pm_fld, pm_fv, pm_obj, pm_s_aload_n, pm_s_baload, pm_s_bipush, pm_s_dup2, pm_s_getfield, pm_s_goto, pm_s_iadd, pm_s_iaload, pm_s_iastore, pm_s_iconst, pm_s_ifCond_eq, pm_s_if_icmp_ge, pm_s_iinc, pm_s_iload, pm_s_iload_n, pm_s_imul, pm_s_ishr, pm_s_istore, pm_s_istore_n, pm_s_isub, pm_s_return, ct_X7_trying, pS, pR, pC, pE, pL, -Int32.not_le, -Int32.not_lt, -Int64.not_le, -Int64.not_lt, -List.getD_eq_getElem?_getD, sy_0]
        refine h139 M2 ?_ co f2
        have hcl : C.length ≤ 4 := by rw [← hCC, colsT_len hP]; exact hP.2.2.2.2.2.2.1
        rw [List.take_of_length_le hcl, hDD, List.take_length] at ho
        exact ho
      induction f with
      | zero =>
        intro a M2 a1 a2 co ho f2
        have e : a = 4 := by omega
        subst e; exact stop M2 co ho f2
      | succ f ih =>
        intro a M2 a1 a2 co ho f2
        by_cases hi : a < 4
        · have e14 := fr14 M2 f2 a (by omega)
          rw [k4 a hi] at e14
          have ca := c12 a hi
          have off := flat_off C a
          have ofl := flat_le C (a + 1)
          rw [hDD] at ofl
          have fg := flat_get C a
          rw [hDD] at fg
          have ih' := fun M3 => ih (a + 1) M3 (by omega) (by omega)
          rw [off] at ofl ih'
          generalize hA : C.getD a [] = c at *
          generalize hO : (C.take a).flatten.length = o at *
          have inner : ∀ (g i : Nat) (M3 : pm_M), c.length ≤ i + g → i ≤ c.length → coI M3 (pR P) C a → M3.1 10 a = nI c.length → (∀ j, j < i → M3.1 11 (12 * a + j) = nI (cdN (pR P) (c.getD j 0))) → hoI M3 P (D.take (o + i)) → yfr [10, 11, 12, 13] [] M M3 → X 76 [(0, .ref 0), (2, .int (nI (18 * s))), (3, .int (nI (18 * s + 4 + (o + i)))), (4, .int (nI a)), (5, .int (nI i))] [] M3 := by
            intro g
            have stop2 : ∀ (M3 : pm_M), coI M3 (pR P) C a → M3.1 10 a = nI c.length → (∀ j, j < c.length → M3.1 11 (12 * a + j) = nI (cdN (pR P) (c.getD j 0))) → hoI M3 P (D.take (o + c.length)) → yfr [10, 11, 12, 13] [] M M3 → X 76 [(0, .ref 0), (2, .int (nI (18 * s))), (3, .int (nI (18 * s + 4 + (o + c.length)))), (4, .int (nI a)), (5, .int (nI c.length))] [] M3 := by
              intro M3 co3 e10 e11 ho3 f3
              refine hb76 _ _ _ ?_
              simp (maxSteps := 2000000) [bk_X7_trying_0, bk_X7_trying_12, bk_X7_trying_40, bk_X7_trying_41, bk_X7_trying_48, bk_X7_trying_51, bk_X7_trying_76, bk_X7_trying_133, bk_X7_trying_139, bk_X7_trying_142, bk_X7_trying_195, bk_X7_trying_201, pm_arr, pm_e_c0, pm_e_c1, pm_e_cti, pm_e_ctl, pm_e_ctr, pm_e_go, pm_e_i, pm_e_ii, pm_e_ldi, pm_e_ldr, pm_e_lk, pm_e_r, pm_e_ri, pm_e_rii, pm_e_rm0, pm_e_rm1, pm_e_rs0, pm_e_rs1, pm_e_v2, pm_e_wp0, pm_e_wp1, pm_f2, pm_f3, pm_fld, pm_fv, pm_obj, pm_s_aload_n, pm_s_baload, pm_s_bipush, pm_s_dup2, pm_s_getfield, pm_s_goto, pm_s_iadd, pm_s_iaload, pm_s_iastore, pm_s_iconst, pm_s_ifCond_eq, pm_s_if_icmp_ge, pm_s_iinc, pm_s_iload, pm_s_iload_n, pm_s_imul, pm_s_ishr, pm_s_istore, pm_s_istore_n, pm_s_isub, pm_s_return, ct_X7_trying, pS, pR, pC, pE, pL, -Int32.not_le, -Int32.not_lt, -Int64.not_le, -Int64.not_lt, -List.getD_eq_getElem?_getD, sy_0, sy_10]
              rw [ni_in (by omega), ni_cl (by omega), e10]
              refine ⟨by omega, fun _ => ?_, fun z => absurd (Int32.le_refl _) z⟩
              refine hb133 _ _ _ ?_
              simp (maxSteps := 2000000) [bk_X7_trying_0, bk_X7_trying_12, bk_X7_trying_40, bk_X7_trying_41, bk_X7_trying_48, bk_X7_trying_51, bk_X7_trying_76, bk_X7_trying_133, bk_X7_trying_139, bk_X7_trying_142, bk_X7_trying_195, bk_X7_trying_201, pm_arr, pm_e_c0, pm_e_c1, pm_e_cti, pm_e_ctl, pm_e_ctr, pm_e_go, pm_e_i, pm_e_ii, pm_e_ldi, pm_e_ldr, pm_e_lk, pm_e_r, pm_e_ri, pm_e_rii, pm_e_rm0, pm_e_rm1, pm_e_rs0, pm_e_rs1, pm_e_v2, pm_e_wp0, pm_e_wp1, pm_f2, pm_f3, pm_fld, pm_fv, pm_obj, pm_s_aload_n, pm_s_baload, pm_s_bipush, pm_s_dup2, pm_s_getfield, pm_s_goto, pm_s_iadd, pm_s_iaload, pm_s_iastore, pm_s_iconst, pm_s_ifCond_eq, pm_s_if_icmp_ge, pm_s_iinc, pm_s_iload, pm_s_iload_n, pm_s_imul, pm_s_ishr, pm_s_istore, pm_s_istore_n, pm_s_isub, pm_s_return, ct_X7_trying, pS, pR, pC, pE, pL, -Int32.not_le, -Int32.not_lt, -Int64.not_le, -Int64.not_lt, -List.getD_eq_getElem?_getD]
              rw [ni_add]
              refine ih' M3 (fun b hb => ?_) ho3 f3
              by_cases z : b = a
              · rw [z, hA]; exact ⟨e10, e11⟩
              · exact co3 b (by omega)
            induction g with
            | zero =>
              intro i M3 k1 k2 co3 e10 e11 ho3 f3
              have e : i = c.length := by omega
              subst e; exact stop2 M3 co3 e10 e11 ho3 f3
            | succ g ihg =>
              intro i M3 k1 k2 co3 e10 e11 ho3 f3
              by_cases hj : i < c.length
              · have fq := fg i hj
                have e14' := fr14 M3 f3 (4 + (o + i)) (by omega)
                rw [kD _ (by omega), fq] at e14'
                have hm : D.getD (o + i) 0 ∈ D := getD_mem (by omega)
                have hd := hcd _ hm
                have et := take_s (l := D) (k := o + i) (by omega)
                rw [fq] at hd et
                have hc := cdN_le hP hd.2
                have hsu := su_lt hP.2.2.1 hd.1 hd.2
                obtain ⟨d, ed⟩ : ∃ d, d = c.getD i 0 := ⟨_, rfl⟩
                rw [← ed] at e14' hd et hc hsu
                have e14s : ∀ p v b, (pm_set M3 11 p v).1 14 b = M3.1 14 b := fun p v b => by rw [me_1, if_neg (by omega)]
                have e13s : ∀ p v b, (pm_set M3 11 p v).1 13 b = M3.1 13 b := fun p v b => by rw [me_1, if_neg (by omega)]
                have ho4 : hoI (pm_set M3 11 (12 * a + i) (nI (cdN (pR P) d))) P (D.take (o + i)) := ho3.q (fun t => e13s _ _ t)
                have ho5 := ho4.app (d := d) (by omega) (by omega)
                rw [← et, e13s] at ho5
                refine hb76 _ _ _ ?_
                simp (maxSteps := 2000000) [bk_X7_trying_0, bk_X7_trying_12, bk_X7_trying_40, bk_X7_trying_41, bk_X7_trying_48, bk_X7_trying_51, bk_X7_trying_76, bk_X7_trying_133, bk_X7_trying_139, bk_X7_trying_142, bk_X7_trying_195, bk_X7_trying_201, pm_arr, pm_e_c0, pm_e_c1, pm_e_cti, pm_e_ctl, pm_e_ctr, pm_e_go, pm_e_i, pm_e_ii, pm_e_ldi, pm_e_ldr, pm_e_lk, pm_e_r, pm_e_ri, pm_e_rii, pm_e_rm0, pm_e_rm1, pm_e_rs0, pm_e_rs1, pm_e_v2, pm_e_wp0, pm_e_wp1, pm_f2, pm_f3, pm_fld, pm_fv, pm_obj, pm_s_aload_n, pm_s_baload, pm_s_bipush, pm_s_dup2, pm_s_getfield, pm_s_goto, pm_s_iadd, pm_s_iaload, pm_s_iastore, pm_s_iconst, pm_s_ifCond_eq, pm_s_if_icmp_ge, pm_s_iinc, pm_s_iload, pm_s_iload_n, pm_s_imul, pm_s_ishr, pm_s_istore, pm_s_istore_n, pm_s_isub, pm_s_return, ct_X7_trying, pS, pR, pC, pE, pL, -Int32.not_le, -Int32.not_lt, -Int64.not_le, -Int64.not_lt, -List.getD_eq_getElem?_getD, sy_0, sy_10, sy_11, sy_13, sy_14, e14s, e13s]
                rw [ni_in (n := 4) (by omega), ni_cl (a := a) (by omega), e10, ni_le (by omega) (by omega), ni_in (n := 72036) (by omega), ni_cl (a := 18 * s + 4 + (o + i)) (by omega), ni_mul, ni_add, ni_in (n := 48) (by omega), ni_cl (a := 12 * a + i) (by omega), show 18 * s + 4 + (o + i) = 18 * s + (4 + (o + i)) by omega, e14', (cd_sh hP hd.1 hd.2).1, ni_in (n := 4) (by omega), ni_cl (a := su (pR P) d) (by omega), ni_add, ni_add]
                rw [show 18 * s + (4 + (o + i)) + 1 = 18 * s + 4 + (o + (i + 1)) by omega]
                refine ⟨by omega, fun q => by omega, fun _ => ⟨by omega, by omega, by omega, by omega, ?_⟩⟩
                refine ihg (i + 1) _ (by omega) (by omega) (fun b hb => ⟨?_, fun j hj' => ?_⟩) ?_ (fun j hj' => ?_) ho5 ((f3.set (by decide) (by decide)).set (by decide) (by decide))
                · rw [me_1, if_neg (by omega), me_1, if_neg (by omega)]; exact (co3 b hb).1
                · have := c12 b (by omega)
                  rw [me_1, if_neg (by omega), me_1, if_neg (by omega)]; exact (co3 b hb).2 j hj'
                · rw [me_1, if_neg (by omega), me_1, if_neg (by omega)]; exact e10
                · rw [me_1, if_neg (by omega), me_1s]
                  by_cases z : j = i
                  · rw [if_pos (by omega), z, ← ed]
                  · rw [if_neg (by omega)]; exact e11 j (by omega)
              · have e : i = c.length := by omega
                subst e; exact stop2 M3 co3 e10 e11 ho3 f3
          refine hb51 _ _ _ ?_
          simp (maxSteps := 2000000) [bk_X7_trying_0, bk_X7_trying_12, bk_X7_trying_40, bk_X7_trying_41, bk_X7_trying_48, bk_X7_trying_51, bk_X7_trying_76, bk_X7_trying_133, bk_X7_trying_139, bk_X7_trying_142, bk_X7_trying_195, bk_X7_trying_201, pm_arr, pm_e_c0, pm_e_c1, pm_e_cti, pm_e_ctl, pm_e_ctr, pm_e_go, pm_e_i, pm_e_ii, pm_e_ldi, pm_e_ldr, pm_e_lk, pm_e_r, pm_e_ri, pm_e_rii, pm_e_rm0, pm_e_rm1, pm_e_rs0, pm_e_rs1, pm_e_v2, pm_e_wp0, pm_e_wp1, pm_f2, pm_f3, pm_fld, pm_fv, pm_obj, pm_s_aload_n, pm_s_baload, pm_s_bipush, pm_s_dup2, pm_s_getfield, pm_s_goto, pm_s_iadd, pm_s_iaload, pm_s_iastore, pm_s_iconst, pm_s_ifCond_eq, pm_s_if_icmp_ge, pm_s_iinc, pm_s_iload, pm_s_iload_n, pm_s_imul, pm_s_ishr, pm_s_istore, pm_s_istore_n, pm_s_isub, pm_s_return, ct_X7_trying, pS, pR, pC, pE, pL, -Int32.not_le, -Int32.not_lt, -Int64.not_le, -Int64.not_lt, -List.getD_eq_getElem?_getD, sy_0, sy_10, sy_14]
          rw [ni_le (by omega) (by omega), ni_add, ni_in (n := 72036) (by omega), ni_in (n := 4) (by omega), ni_cl (a := a) (by omega), ni_cl (by omega), e14]
          refine ⟨fun q => by omega, fun _ => ⟨by omega, by omega, ?_⟩⟩
          refine inner c.length 0 _ (by omega) (by omega) (fun b hb => ⟨?_, fun j hj' => ?_⟩) (by rw [me_1s, if_pos rfl]) (fun j hj => by omega) (ho.q (fun t => by rw [me_1, if_neg (by omega)])) (f2.set (by decide) (by decide))
          · rw [me_1s, if_neg (by omega)]; exact (co b hb).1
          · rw [me_1, if_neg (by omega)]; exact (co b hb).2 j hj'
        · have e : a = 4 := by omega
          subst e; exact stop M2 co ho f2
    -- the houses
    have hous : ∀ (f t : Nat) (M2 : pm_M), 4 ≤ t + f → t ≤ 4 → (∀ u, u < t → M2.1 13 u = nI (if u < pS P then pR P else 0)) → yfr [10, 11, 12, 13] [] M M2 → X 12 [(0, .ref 0), (2, .int (nI (18 * s))), (3, .int (nI (18 * s + 4))), (4, .int (nI t))] [] M2 := by
      intro f
      have stop : ∀ (M2 : pm_M), (∀ u, u < 4 → M2.1 13 u = nI (if u < pS P then pR P else 0)) → yfr [10, 11, 12, 13] [] M M2 → X 12 [(0, .ref 0), (2, .int (nI (18 * s))), (3, .int (nI (18 * s + 4))), (4, .int (nI 4))] [] M2 := by
        intro M2 q2 f2
        refine hb12 _ _ _ ?_
        simp (maxSteps := 2000000) [bk_X7_trying_0, bk_X7_trying_12, bk_X7_trying_40, bk_X7_trying_41, bk_X7_trying_48, bk_X7_trying_51, bk_X7_trying_76, bk_X7_trying_133, bk_X7_trying_139, bk_X7_trying_142, bk_X7_trying_195, bk_X7_trying_201, pm_arr, pm_e_c0, pm_e_c1, pm_e_cti, pm_e_ctl, pm_e_ctr, pm_e_go, pm_e_i, pm_e_ii, pm_e_ldi, pm_e_ldr, pm_e_lk, pm_e_r, pm_e_ri, pm_e_rii, pm_e_rm0, pm_e_rm1, pm_e_rs0, pm_e_rs1, pm_e_v2, pm_e_wp0, pm_e_wp1, pm_f2, pm_f3, pm_fld, pm_fv, pm_obj, pm_s_aload_n, pm_s_baload, pm_s_bipush, pm_s_dup2, pm_s_getfield, pm_s_goto, pm_s_iadd, pm_s_iaload, pm_s_iastore, pm_s_iconst, pm_s_ifCond_eq, pm_s_if_icmp_ge, pm_s_iinc, pm_s_iload, pm_s_iload_n, pm_s_imul, pm_s_ishr, pm_s_istore, pm_s_istore_n, pm_s_isub, pm_s_return, ct_X7_trying, pS, pR, pC, pE, pL, -Int32.not_le, -Int32.not_lt, -Int64.not_le, -Int64.not_lt, -List.getD_eq_getElem?_getD, sy_0]
        refine hb48 _ _ _ ?_
        simp (maxSteps := 2000000) [bk_X7_trying_0, bk_X7_trying_12, bk_X7_trying_40, bk_X7_trying_41, bk_X7_trying_48, bk_X7_trying_51, bk_X7_trying_76, bk_X7_trying_133, bk_X7_trying_139, bk_X7_trying_142, bk_X7_trying_195, bk_X7_trying_201, pm_arr, pm_e_c0, pm_e_c1, pm_e_cti, pm_e_ctl, pm_e_ctr, pm_e_go, pm_e_i, pm_e_ii, pm_e_ldi, pm_e_ldr, pm_e_lk, pm_e_r, pm_e_ri, pm_e_rii, pm_e_rm0, pm_e_rm1, pm_e_rs0, pm_e_rs1, pm_e_v2, pm_e_wp0, pm_e_wp1, pm_f2, pm_f3, pm_fld, pm_fv, pm_obj, pm_s_aload_n, pm_s_baload, pm_s_bipush, pm_s_dup2, pm_s_getfield, pm_s_goto, pm_s_iadd, pm_s_iaload, pm_s_iastore, pm_s_iconst, pm_s_ifCond_eq, pm_s_if_icmp_ge, pm_s_iinc, pm_s_iload, pm_s_iload_n, pm_s_imul, pm_s_ishr, pm_s_istore, pm_s_istore_n, pm_s_isub, pm_s_return, ct_X7_trying, pS, pR, pC, pE, pL, -Int32.not_le, -Int32.not_lt, -Int64.not_le, -Int64.not_lt, -List.getD_eq_getElem?_getD]
        refine loop 4 0 M2 (by omega) (by omega) (fun b hb => by omega) (fun t ht => ?_) f2
        rw [q2 t ht]
        show _ = _ - nI 0
        rw [ni_sub (by omega)]; rfl
      induction f with
      | zero =>
        intro t M2 a1 a2 q2 f2
        have e : t = 4 := by omega
        subst e; exact stop M2 q2 f2
      | succ f ih =>
        intro t M2 a1 a2 q2 f2
        by_cases hi : t < 4
        · have m0' : M2.1 0 0 = nI (pS P) := by rw [f2.f (by simp)]; exact m0
          have m1' : M2.1 0 1 = nI (pR P) := by rw [f2.f (by simp)]; exact m1
          have h41 : ∀ v, v = (if t < pS P then pR P else 0) → X 41 [(0, .ref 0), (2, .int (nI (18 * s))), (3, .int (nI (18 * s + 4))), (4, .int (nI t))] [.int (nI v), .int (nI t), .ref 13] M2 := by
            intro v ev
            refine hb41 _ _ _ ?_
            simp (maxSteps := 2000000) [bk_X7_trying_0, bk_X7_trying_12, bk_X7_trying_40, bk_X7_trying_41, bk_X7_trying_48, bk_X7_trying_51, bk_X7_trying_76, bk_X7_trying_133, bk_X7_trying_139, bk_X7_trying_142, bk_X7_trying_195, bk_X7_trying_201, pm_arr, pm_e_c0, pm_e_c1, pm_e_cti, pm_e_ctl, pm_e_ctr, pm_e_go, pm_e_i, pm_e_ii, pm_e_ldi, pm_e_ldr, pm_e_lk, pm_e_r, pm_e_ri, pm_e_rii, pm_e_rm0, pm_e_rm1, pm_e_rs0, pm_e_rs1, pm_e_v2, pm_e_wp0, pm_e_wp1, pm_f2, pm_f3, pm_fld, pm_fv, pm_obj, pm_s_aload_n, pm_s_baload, pm_s_bipush, pm_s_dup2, pm_s_getfield, pm_s_goto, pm_s_iadd, pm_s_iaload, pm_s_iastore, pm_s_iconst, pm_s_ifCond_eq, pm_s_if_icmp_ge, pm_s_iinc, pm_s_iload, pm_s_iload_n, pm_s_imul, pm_s_ishr, pm_s_istore, pm_s_istore_n, pm_s_isub, pm_s_return, ct_X7_trying, pS, pR, pC, pE, pL, -Int32.not_le, -Int32.not_lt, -Int64.not_le, -Int64.not_lt, -List.getD_eq_getElem?_getD, sy_13]
            rw [ni_in (by omega), ni_cl (by omega), ni_add]
            refine ⟨by omega, ih (t + 1) _ (by omega) (by omega) (fun u hu => ?_) (f2.set (by decide) (by decide))⟩
            rw [me_1s]
            by_cases z : u = t
            · rw [if_pos z, ev, z]
            · rw [if_neg z]; exact q2 u (by omega)
          refine hb12 _ _ _ ?_
          simp (maxSteps := 2000000) [bk_X7_trying_0, bk_X7_trying_12, bk_X7_trying_40, bk_X7_trying_41, bk_X7_trying_48, bk_X7_trying_51, bk_X7_trying_76, bk_X7_trying_133, bk_X7_trying_139, bk_X7_trying_142, bk_X7_trying_195, bk_X7_trying_201, pm_arr, pm_e_c0, pm_e_c1, pm_e_cti, pm_e_ctl, pm_e_ctr, pm_e_go, pm_e_i, pm_e_ii, pm_e_ldi, pm_e_ldr, pm_e_lk, pm_e_r, pm_e_ri, pm_e_rii, pm_e_rm0, pm_e_rm1, pm_e_rs0, pm_e_rs1, pm_e_v2, pm_e_wp0, pm_e_wp1, pm_f2, pm_f3, pm_fld, pm_fv, pm_obj, pm_s_aload_n, pm_s_baload, pm_s_bipush, pm_s_dup2, pm_s_getfield, pm_s_goto, pm_s_iadd, pm_s_iaload, pm_s_iastore, pm_s_iconst, pm_s_ifCond_eq, pm_s_if_icmp_ge, pm_s_iinc, pm_s_iload, pm_s_iload_n, pm_s_imul, pm_s_ishr, pm_s_istore, pm_s_istore_n, pm_s_isub, pm_s_return, ct_X7_trying, pS, pR, pC, pE, pL, -Int32.not_le, -Int32.not_lt, -Int64.not_le, -Int64.not_lt, -List.getD_eq_getElem?_getD, sy_0, m0', m1']
          have h2' : P.1 ≤ 4 := h2
          rw [ni_le (by omega) (by omega), ni_le (a := P.1) (by omega) (by omega)]
          refine ⟨fun q => by omega, fun _ => ⟨fun q => ?_, fun q => h41 _ (by rw [if_pos (show t < P.1 by omega)])⟩⟩
          refine hb40 _ _ _ ?_
          simp (maxSteps := 2000000) [bk_X7_trying_0, bk_X7_trying_12, bk_X7_trying_40, bk_X7_trying_41, bk_X7_trying_48, bk_X7_trying_51, bk_X7_trying_76, bk_X7_trying_133, bk_X7_trying_139, bk_X7_trying_142, bk_X7_trying_195, bk_X7_trying_201, pm_arr, pm_e_c0, pm_e_c1, pm_e_cti, pm_e_ctl, pm_e_ctr, pm_e_go, pm_e_i, pm_e_ii, pm_e_ldi, pm_e_ldr, pm_e_lk, pm_e_r, pm_e_ri, pm_e_rii, pm_e_rm0, pm_e_rm1, pm_e_rs0, pm_e_rs1, pm_e_v2, pm_e_wp0, pm_e_wp1, pm_f2, pm_f3, pm_fld, pm_fv, pm_obj, pm_s_aload_n, pm_s_baload, pm_s_bipush, pm_s_dup2, pm_s_getfield, pm_s_goto, pm_s_iadd, pm_s_iaload, pm_s_iastore, pm_s_iconst, pm_s_ifCond_eq, pm_s_if_icmp_ge, pm_s_iinc, pm_s_iload, pm_s_iload_n, pm_s_imul, pm_s_ishr, pm_s_istore, pm_s_istore_n, pm_s_isub, pm_s_return, ct_X7_trying, pS, pR, pC, pE, pL, -Int32.not_le, -Int32.not_lt, -Int64.not_le, -Int64.not_lt, -List.getD_eq_getElem?_getD]
          exact h41 0 (by rw [if_neg (show ¬ t < P.1 by omega)])
        · have e : t = 4 := by omega
          subst e; exact stop M2 q2 f2
    refine hb0 _ _ _ ?_
    simp (maxSteps := 2000000) [bk_X7_trying_0, bk_X7_trying_12, bk_X7_trying_40, bk_X7_trying_41, bk_X7_trying_48, bk_X7_trying_51, bk_X7_trying_76, bk_X7_trying_133, bk_X7_trying_139, bk_X7_trying_142, bk_X7_trying_195, bk_X7_trying_201, pm_arr, pm_e_c0, pm_e_c1, pm_e_cti, pm_e_ctl, pm_e_ctr, pm_e_go, pm_e_i, pm_e_ii, pm_e_ldi, pm_e_ldr, pm_e_lk, pm_e_r, pm_e_ri, pm_e_rii, pm_e_rm0, pm_e_rm1, pm_e_rs0, pm_e_rs1, pm_e_v2, pm_e_wp0, pm_e_wp1, pm_f2, pm_f3, pm_fld, pm_fv, pm_obj, pm_s_aload_n, pm_s_baload, pm_s_bipush, pm_s_dup2, pm_s_getfield, pm_s_goto, pm_s_iadd, pm_s_iaload, pm_s_iastore, pm_s_iconst, pm_s_ifCond_eq, pm_s_if_icmp_ge, pm_s_iinc, pm_s_iload, pm_s_iload_n, pm_s_imul, pm_s_ishr, pm_s_istore, pm_s_istore_n, pm_s_isub, pm_s_return, ct_X7_trying, pS, pR, pC, pE, pL, -Int32.not_le, -Int32.not_lt, -Int64.not_le, -Int64.not_lt, -List.getD_eq_getElem?_getD, lv_args]
    rw [ni_mul, ni_add]
    exact hous 4 0 M (by omega) (by omega) (fun u hu => by omega) yfr.rfl
  · exact hT.elim
