theorem run_split {P : Pm} {ec : Nat} : ∀ (a b : List Nat) {S V : St}, run P ec (a ++ b) S = some V → ∃ U, run P ec a S = some U ∧ run P ec b U = some V
  | [], b, S, V, h => ⟨S, rfl, h⟩
  | m :: a, b, S, V, h => by
    have h' : (if canN P ec S (m / 8) (m % 8) = true then run P ec (a ++ b) (aMv P ec S (m / 8) (m % 8)) else none) = some V := h
    by_cases c : canN P ec S (m / 8) (m % 8) = true
    · rw [if_pos c] at h'
      obtain ⟨U, h1, h2⟩ := run_split a b h'
      refine ⟨U, ?_, h2⟩
      show (if canN P ec S (m / 8) (m % 8) = true then run P ec a (aMv P ec S (m / 8) (m % 8)) else none) = some U
      rw [if_pos c]; exact h1
    · rw [if_neg c] at h'; cases h'
theorem PlY.app {M : pm_M} {l : List Nat} (h : PlY M l) {c a b : Nat} (ha : c / 8 = a) (hb : c % 8 = b) : PlY (pm_set (pm_set (pm_set M 20 l.length (nI a)) 21 l.length (nI b)) 0 30 (nI (l.length + 1))) (l ++ [c]) := by
  refine ⟨by rw [me_1s, if_pos rfl]; simp, fun i hi => ?_⟩
  rw [List.length_append, List.length_singleton] at hi
  rw [getD_app1]
  by_cases z : i = l.length
  · rw [if_pos z, ha, hb, z]
    exact ⟨by rw [me_1, if_neg (by omega), me_1, if_neg (by omega), me_1s, if_pos rfl], by rw [me_1, if_neg (by omega), me_1s, if_pos rfl]⟩
  · rw [if_neg z]
    obtain ⟨q1, q2⟩ := h.2 i (by omega)
    exact ⟨by rw [me_1, if_neg (by omega), me_1, if_neg (by omega), me_1s, if_neg z]; exact q1, by rw [me_1, if_neg (by omega), me_1s, if_neg z, me_1, if_neg (by omega)]; exact q2⟩
/-- ahead of all other shortest ways, as far as it goes -/
def lxA (P : Pm) (ec : Nat) (S0 : St) (d : Nat) (l : List Nat) : Prop := ∀ l' T, l'.length = d → run P ec l' S0 = some T → dnS P T → l'.take l.length = l ∨ lxlt l (l'.take l.length)
theorem lxA.step {P : Pm} {ec : Nat} {S0 U : St} {d mm : Nat} {l : List Nat} (hP : okP P) (he : ec ≤ 2) (h : lxA P ec S0 d l) (hr : run P ec l S0 = some U) (hd : l.length < d) (hno : ∀ m, m < mm → ¬ (canN P ec U (m / 6) (m % 6) = true ∧ gd P ec d (aMv P ec U (m / 6) (m % 6)) (l.length + 1))) : lxA P ec S0 d (l ++ [cd6 mm]) := by
  intro l' T h1 h2 h3
  have hlen : (l ++ [cd6 mm]).length = l.length + 1 := by simp
  have et := take_s (l := l') (k := l.length) (by omega)
  rw [hlen, et]
  rcases h l' T h1 h2 h3 with e | e
  · rw [e]
    have e2 : l' = l ++ (l'.getD l.length 0 :: l'.drop (l.length + 1)) := by
      conv => lhs; rw [← List.take_append_drop (l.length + 1) l', et, e]
      simp
    generalize l'.getD l.length 0 = c at *
    have hl2 : (l'.drop (l.length + 1)).length + (l.length + 1) = d := by rw [List.length_drop]; omega
    generalize l'.drop (l.length + 1) = w at *
    rw [e2] at h2
    obtain ⟨U', u1, u2⟩ := run_split _ _ h2
    rw [hr] at u1
    have := Option.some.inj u1
    subst this
    have u2' : (if canN P ec U (c / 8) (c % 8) = true then run P ec w (aMv P ec U (c / 8) (c % 8)) else none) = some T := u2
    by_cases hc : canN P ec U (c / 8) (c % 8) = true
    · rw [if_pos hc] at u2'
      have hb := can_b6 hP hc
      have ha := WF.a6 hP he (can_nm hc).1
      have hge : ¬ 6 * (c / 8) + c % 8 < mm := fun z => hno _ z (by
        rw [show (6 * (c / 8) + c % 8) / 6 = c / 8 by omega, show (6 * (c / 8) + c % 8) % 6 = c % 8 by omega]
        exact ⟨hc, w, T, by omega, u2', h3⟩)
      have hcc : cd6 mm ≤ c := by unfold cd6; omega
      by_cases q : cd6 mm = c
      · left; rw [q]
      · right; exact lx_last l (by omega)
    · rw [if_neg hc] at u2'; cases u2'
  · right; exact lx_app _ _ _ _ e
theorem lxA.fin {P : Pm} {ec : Nat} {S0 U : St} {d n : Nat} {R : Nat → St} {lv : Nat → Nat} {l : List Nat} (h : lxA P ec S0 d l) (hr : run P ec l S0 = some U) (hd : l.length = d) (hg : gd P ec d U l.length) (hM : MK P ec S0 d n R lv) : isPl P ec S0 l := by
  obtain ⟨w, T, w1, w2, w3⟩ := hg
  have : w = [] := List.length_eq_zero_iff.mp (by omega)
  rw [this] at w2
  have e : U = T := Option.some.inj w2
  refine ⟨⟨U, hr, e ▸ w3⟩, fun l' T' q1 q2 => hM.1 l' T' (by omega) q2, fun l' T' q1 q2 q3 q4 => ?_⟩
  have := h l' T' (by omega) q2 q3
  rw [List.take_of_length_le (by omega)] at this
  rcases this with z | z
  · rw [z] at q4; exact lx_irr _ q4
  · exact lx_asym _ _ z q4
def tt_X7_plans : pm_T := fun args M k => match args with
  | [.ref 0, .int x] => ∃ (P : Pm) (S0 : St) (d n : Nat) (R : Nat → St) (lv : Nat → Nat), x = nI d ∧ d ≤ 4000 ∧ DkY M P ∧ SdY M 2 0 (pR P) S0 ∧ FW P (pE P) S0 ∧ TB M P (pE P) n R lv (fun _ => false) ∧ M.1 0 22 = nI (pE P) ∧ MK P (pE P) S0 d n (fun s => cnS P (pE P) (R s)) lv ∧ ∀ M' l, isPl P (pE P) S0 l → l.length = d → PlY M' l → yfr [10, 11, 12, 13, 16, 18, 19, 20, 21, 26, 27, 28, 29] [22, 30] M M' → k none M'
  | _ => False
abbrev ct_X7_plans : List pm_C := [(false, 229, 7, 2, none, tt_X7_marks), (false, 179, 7, 1, none, tt_X7_tryStand), (false, 176, 7, 4, (some .boolean), tt_X7_isMove), (false, 182, 7, 3, (some .int), tt_X7_whyNot), (false, 232, 7, 1, none, tt_X7_remember), (false, 186, 7, 3, none, tt_X7_doMove), (false, 210, 7, 1, none, tt_X7_makeKey), (false, 226, 7, 3, (some .boolean), tt_X7_leadsOn), (false, 235, 7, 1, none, tt_X7_recall)]
set_option maxHeartbeats 4000000 in
theorem sm_X7_plans  : pm_Sem SHy yX7_plans cX7_plans 4 none 5 tt_X7_plans := by
  refine pm_Sem_intro bl_X7_plans ct_X7_plans cs_X7_plans rfl (List.forall_mem_cons.mpr ⟨⟨_, _, _, _, sm_X7_marks, by decide, cm_X7_marks, by decide +kernel⟩, List.forall_mem_cons.mpr ⟨⟨_, _, _, _, sm_X7_tryStand, by decide, cm_X7_tryStand, by decide +kernel⟩, List.forall_mem_cons.mpr ⟨⟨_, _, _, _, sm_X7_isMove, by decide, cm_X7_isMove, by decide +kernel⟩, List.forall_mem_cons.mpr ⟨⟨_, _, _, _, sm_X7_whyNot, by decide, cm_X7_whyNot, by decide +kernel⟩, List.forall_mem_cons.mpr ⟨⟨_, _, _, _, sm_X7_remember, by decide, cm_X7_remember, by decide +kernel⟩, List.forall_mem_cons.mpr ⟨⟨_, _, _, _, sm_X7_doMove, by decide, cm_X7_doMove, by decide +kernel⟩, List.forall_mem_cons.mpr ⟨⟨_, _, _, _, sm_X7_makeKey, by decide, cm_X7_makeKey, by decide +kernel⟩, List.forall_mem_cons.mpr ⟨⟨_, _, _, _, sm_X7_leadsOn, by decide, cm_X7_leadsOn, by decide +kernel⟩, List.forall_mem_cons.mpr ⟨⟨_, _, _, _, sm_X7_recall, by decide, cm_X7_recall, by decide +kernel⟩, fun _ h => absurd h List.not_mem_nil⟩⟩⟩⟩⟩⟩⟩⟩⟩) ck_X7_plans (by decide +kernel) (by decide) ?_
  intro X k hX args M hT
  have hb0 := hX 0 bk_X7_plans_0 (List.mem_of_getElem? (i := 0) rfl)
  have hb14 := hX 14 bk_X7_plans_14 (List.mem_of_getElem? (i := 1) rfl)
  have hb26 := hX 26 bk_X7_plans_26 (List.mem_of_getElem? (i := 2) rfl)
  have hb73 := hX 73 bk_X7_plans_73 (List.mem_of_getElem? (i := 3) rfl)
  have hb148 := hX 148 bk_X7_plans_148 (List.mem_of_getElem? (i := 4) rfl)
  have hb152 := hX 152 bk_X7_plans_152 (List.mem_of_getElem? (i := 5) rfl)
  have hb158 := hX 158 bk_X7_plans_158 (List.mem_of_getElem? (i := 6) rfl)
  have hb163 := hX 163 bk_X7_plans_163 (List.mem_of_getElem? (i := 7) rfl)
  have hb166 := hX 166 bk_X7_plans_166 (List.mem_of_getElem? (i := 8) rfl)
  clear hX
  unfold tt_X7_plans at hT; split at hT
  · next x =>
    obtain ⟨P, S0, d, n, R, lv, rfl, hd4, hD, hS, hF, hB, h22, hMK, hT⟩ := hT
    have hP := hD.1
    have he : pE P ≤ 2 := hP.2.2.2.2.2.2.2.1
    have lS := WF.l12 hP hF
    have fkc : ∀ j, j < n → fkN (cnS P (pE P) (R j)) = fkN (R j) := fun j hj => cnS_fk hP he (hB.2.2.1 j hj).1
    have hinj : ∀ j k, j < n → k < n → fkN (R j) = fkN (R k) → j = k := fun j k hj hk e => hMK.2.2.2.2.1 j k hj hk (by rw [fkc j hj, fkc k hk]; exact e)
    refine ⟨by simp [lg_sl, Value.category], ?_⟩
    refine hb0 _ _ _ ?_
    simp (maxSteps := 2000000) [bk_X7_plans_0, bk_X7_plans_14, bk_X7_plans_26, bk_X7_plans_73, bk_X7_plans_148, bk_X7_plans_152, bk_X7_plans_158, bk_X7_plans_163, bk_X7_plans_166, pm_arr, pm_call, pm_e_c0, pm_e_c1, pm_e_cti, pm_e_ctl, pm_e_ctr, pm_e_go, pm_e_i, pm_e_ii, pm_e_ldi, pm_e_ldr, pm_e_lk, pm_e_r, pm_e_rii, pm_e_rm0, pm_e_rm1, pm_e_rs0, pm_e_rs1, pm_e_v1, pm_e_wp0, pm_e_wp1, pm_f2, pm_f3, pm_fld, pm_fv, pm_obj, pm_recv, pm_s_aload_n, pm_s_bipush, pm_s_dup, pm_s_getfield, pm_s_goto, pm_s_iadd, pm_s_iastore, pm_s_iconst, pm_s_idiv, pm_s_ifCond_eq, pm_s_ifCond_ne, pm_s_if_icmp_ge, pm_s_iinc, pm_s_iload_n, pm_s_invokevirtual, pm_s_irem, pm_s_istore_n, pm_s_putfield, pm_s_return, ct_X7_plans, pS, pR, pC, pE, pL, -Int32.not_le, -Int32.not_lt, -Int64.not_le, -Int64.not_lt, -List.getD_eq_getElem?_getD, lv_args, sy_0, n6]
    refine ⟨P, S0, d, n, R, lv, rfl, hd4, hD, hB, h22, hF, hMK, fun M1 g t1 hg f1 => ?_⟩
    have f1' : yfr [10, 11, 12, 13, 16, 18, 19, 20, 21, 26, 27, 28, 29] [22, 30] M M1 := f1.mono (by decide) (by simp)
    simp (maxSteps := 2000000) [bk_X7_plans_0, bk_X7_plans_14, bk_X7_plans_26, bk_X7_plans_73, bk_X7_plans_148, bk_X7_plans_152, bk_X7_plans_158, bk_X7_plans_163, bk_X7_plans_166, pm_arr, pm_call, pm_e_c0, pm_e_c1, pm_e_cti, pm_e_ctl, pm_e_ctr, pm_e_go, pm_e_i, pm_e_ii, pm_e_ldi, pm_e_ldr, pm_e_lk, pm_e_r, pm_e_rii, pm_e_rm0, pm_e_rm1, pm_e_rs0, pm_e_rs1, pm_e_v1, pm_e_wp0, pm_e_wp1, pm_f2, pm_f3, pm_fld, pm_fv, pm_obj, pm_recv, pm_s_aload_n, pm_s_bipush, pm_s_dup, pm_s_getfield, pm_s_goto, pm_s_iadd, pm_s_iastore, pm_s_iconst, pm_s_idiv, pm_s_ifCond_eq, pm_s_ifCond_ne, pm_s_if_icmp_ge, pm_s_iinc, pm_s_iload_n, pm_s_invokevirtual, pm_s_irem, pm_s_istore_n, pm_s_putfield, pm_s_return, ct_X7_plans, pS, pR, pC, pE, pL, -Int32.not_le, -Int32.not_lt, -Int64.not_le, -Int64.not_lt, -List.getD_eq_getElem?_getD, sy_0, n6]
    intro M2 c2 k2 e2 f2
    have f12 : yfr [] [30] M1 (pm_set M1 0 30 (nI 0)) := yfr.rfl.set0 (by decide)
    have f2' : yfr [10, 11, 12, 13, 16, 18, 19, 20, 21, 26, 27, 28, 29] [22, 30] M M2 := (f1'.trans (f12.mono (by simp) (by decide))).trans (f2.mono (by decide) (by decide))
    have s2 : SdY M2 10 0 (pR P) S0 := c2.sd ((hS.mv f1 (by decide) (by decide)).mv f12 (by decide) (by simp)) lS
    have t2 : TB M2 P (pE P) n R lv g := (t1.mv f12 (by simp) (by decide)).mv f2 (by decide) (by decide)
    have p2 : PlY M2 [] := ⟨by rw [f2.f (by decide), me_1s, if_pos rfl]; rfl, fun i hi => absurd hi (by simp)⟩
    have e2' : M2.1 0 22 = nI (pE P) := by
      rw [e2, f12.f (by decide), f1.f (by simp)]; exact hD.2.2.2.2.1
    simp (maxSteps := 2000000) [bk_X7_plans_0, bk_X7_plans_14, bk_X7_plans_26, bk_X7_plans_73, bk_X7_plans_148, bk_X7_plans_152, bk_X7_plans_158, bk_X7_plans_163, bk_X7_plans_166, pm_arr, pm_call, pm_e_c0, pm_e_c1, pm_e_cti, pm_e_ctl, pm_e_ctr, pm_e_go, pm_e_i, pm_e_ii, pm_e_ldi, pm_e_ldr, pm_e_lk, pm_e_r, pm_e_rii, pm_e_rm0, pm_e_rm1, pm_e_rs0, pm_e_rs1, pm_e_v1, pm_e_wp0, pm_e_wp1, pm_f2, pm_f3, pm_fld, pm_fv, pm_obj, pm_recv, pm_s_aload_n, pm_s_bipush, pm_s_dup, pm_s_getfield, pm_s_goto, pm_s_iadd, pm_s_iastore, pm_s_iconst, pm_s_idiv, pm_s_ifCond_eq, pm_s_ifCond_ne, pm_s_if_icmp_ge, pm_s_iinc, pm_s_iload_n, pm_s_invokevirtual, pm_s_irem, pm_s_istore_n, pm_s_putfield, pm_s_return, ct_X7_plans, pS, pR, pC, pE, pL, -Int32.not_le, -Int32.not_lt, -Int64.not_le, -Int64.not_lt, -List.getD_eq_getElem?_getD, n6]
    clear c2 k2 e2 f2 f12 t1 f1 f1'
    -- move by move
    have loop : ∀ (f : Nat) (l : List Nat) (U : St) (M3 : pm_M), d ≤ l.length + f → l.length ≤ d → run P (pE P) l S0 = some U → gd P (pE P) d U l.length → lxA P (pE P) S0 d l → SdY M3 10 0 (pR P) U → M3.1 0 22 = nI (pE P) → TB M3 P (pE P) n R lv g → PlY M3 l → yfr [10, 11, 12, 13, 16, 18, 19, 20, 21, 26, 27, 28, 29] [22, 30] M M3 → X 14 [(0, .ref 0), (1, .int (nI d))] [] M3 := by
      intro f
      have stop : ∀ (l : List Nat) (U : St) (M3 : pm_M), l.length = d → run P (pE P) l S0 = some U → gd P (pE P) d U l.length → lxA P (pE P) S0 d l → PlY M3 l → yfr [10, 11, 12, 13, 16, 18, 19, 20, 21, 26, 27, 28, 29] [22, 30] M M3 → X 14 [(0, .ref 0), (1, .int (nI d))] [] M3 := by
        intro l U M3 hl hr hgd hlx p3 f3
        have n3 := p3.1
        rw [hl] at n3
        refine hb14 _ _ _ ?_
        simp (maxSteps := 2000000) [bk_X7_plans_0, bk_X7_plans_14, bk_X7_plans_26, bk_X7_plans_73, bk_X7_plans_148, bk_X7_plans_152, bk_X7_plans_158, bk_X7_plans_163, bk_X7_plans_166, pm_arr, pm_call, pm_e_c0, pm_e_c1, pm_e_cti, pm_e_ctl, pm_e_ctr, pm_e_go, pm_e_i, pm_e_ii, pm_e_ldi, pm_e_ldr, pm_e_lk, pm_e_r, pm_e_rii, pm_e_rm0, pm_e_rm1, pm_e_rs0, pm_e_rs1, pm_e_v1, pm_e_wp0, pm_e_wp1, pm_f2, pm_f3, pm_fld, pm_fv, pm_obj, pm_recv, pm_s_aload_n, pm_s_bipush, pm_s_dup, pm_s_getfield, pm_s_goto, pm_s_iadd, pm_s_iastore, pm_s_iconst, pm_s_idiv, pm_s_ifCond_eq, pm_s_ifCond_ne, pm_s_if_icmp_ge, pm_s_iinc, pm_s_iload_n, pm_s_invokevirtual, pm_s_irem, pm_s_istore_n, pm_s_putfield, pm_s_return, ct_X7_plans, pS, pR, pC, pE, pL, -Int32.not_le, -Int32.not_lt, -Int64.not_le, -Int64.not_lt, -List.getD_eq_getElem?_getD, sy_0, n3, n6]
        refine hb166 _ _ _ ?_
        simp (maxSteps := 2000000) [bk_X7_plans_0, bk_X7_plans_14, bk_X7_plans_26, bk_X7_plans_73, bk_X7_plans_148, bk_X7_plans_152, bk_X7_plans_158, bk_X7_plans_163, bk_X7_plans_166, pm_arr, pm_call, pm_e_c0, pm_e_c1, pm_e_cti, pm_e_ctl, pm_e_ctr, pm_e_go, pm_e_i, pm_e_ii, pm_e_ldi, pm_e_ldr, pm_e_lk, pm_e_r, pm_e_rii, pm_e_rm0, pm_e_rm1, pm_e_rs0, pm_e_rs1, pm_e_v1, pm_e_wp0, pm_e_wp1, pm_f2, pm_f3, pm_fld, pm_fv, pm_obj, pm_recv, pm_s_aload_n, pm_s_bipush, pm_s_dup, pm_s_getfield, pm_s_goto, pm_s_iadd, pm_s_iastore, pm_s_iconst, pm_s_idiv, pm_s_ifCond_eq, pm_s_ifCond_ne, pm_s_if_icmp_ge, pm_s_iinc, pm_s_iload_n, pm_s_invokevirtual, pm_s_irem, pm_s_istore_n, pm_s_putfield, pm_s_return, ct_X7_plans, pS, pR, pC, pE, pL, -Int32.not_le, -Int32.not_lt, -Int64.not_le, -Int64.not_lt, -List.getD_eq_getElem?_getD, n6]
        exact hT M3 l (hlx.fin hr hl hgd hMK) hl p3 f3
      induction f with
      | zero =>
        intro l U M3 a1 a2 hr hgd hlx s3 e3 t3 p3 f3
        exact stop l U M3 (by omega) hr hgd hlx p3 f3
      | succ f ih =>
        intro l U M3 a1 a2 hr hgd hlx s3 e3 t3 p3 f3
        by_cases hl : l.length < d
        · have hU := run_fw hP he hF hr
          have hUo := hU.ok hP
          have lU := WF.l12 hP hU
          have hUn : ¬ dnS P U := hMK.1 l U hl hr
          have n3 := p3.1
          -- the move has been found
          have h152f : ∀ (M4 : pm_M) (mm : Nat) (l4 : List Nat) (U4 : St), l4.length = l.length + 1 → run P (pE P) l4 S0 = some U4 → gd P (pE P) d U4 l4.length → lxA P (pE P) S0 d l4 → SdY M4 10 0 (pR P) U4 → M4.1 0 22 = nI (pE P) → TB M4 P (pE P) n R lv g → PlY M4 l4 → yfr [10, 11, 12, 13, 16, 18, 19, 20, 21, 26, 27, 28, 29] [22, 30] M M4 → X 152 [(0, .ref 0), (1, .int (nI d)), (2, .int (pb true)), (3, .int (nI mm))] [] M4 := by
            intro M4 mm l4 U4 w1 w2 w3 w4 w5 w6 w7 w8 w9
            have h158 : X 158 [(0, .ref 0), (1, .int (nI d)), (2, .int (pb true))] [] M4 := by
              refine hb158 _ _ _ ?_
              simp (maxSteps := 2000000) [bk_X7_plans_0, bk_X7_plans_14, bk_X7_plans_26, bk_X7_plans_73, bk_X7_plans_148, bk_X7_plans_152, bk_X7_plans_158, bk_X7_plans_163, bk_X7_plans_166, pm_arr, pm_call, pm_e_c0, pm_e_c1, pm_e_cti, pm_e_ctl, pm_e_ctr, pm_e_go, pm_e_i, pm_e_ii, pm_e_ldi, pm_e_ldr, pm_e_lk, pm_e_r, pm_e_rii, pm_e_rm0, pm_e_rm1, pm_e_rs0, pm_e_rs1, pm_e_v1, pm_e_wp0, pm_e_wp1, pm_f2, pm_f3, pm_fld, pm_fv, pm_obj, pm_recv, pm_s_aload_n, pm_s_bipush, pm_s_dup, pm_s_getfield, pm_s_goto, pm_s_iadd, pm_s_iastore, pm_s_iconst, pm_s_idiv, pm_s_ifCond_eq, pm_s_ifCond_ne, pm_s_if_icmp_ge, pm_s_iinc, pm_s_iload_n, pm_s_invokevirtual, pm_s_irem, pm_s_istore_n, pm_s_putfield, pm_s_return, ct_X7_plans, pS, pR, pC, pE, pL, -Int32.not_le, -Int32.not_lt, -Int64.not_le, -Int64.not_lt, -List.getD_eq_getElem?_getD, pb_eq0, n6]
              refine hb163 _ _ _ ?_
              simp (maxSteps := 2000000) [bk_X7_plans_0, bk_X7_plans_14, bk_X7_plans_26, bk_X7_plans_73, bk_X7_plans_148, bk_X7_plans_152, bk_X7_plans_158, bk_X7_plans_163, bk_X7_plans_166, pm_arr, pm_call, pm_e_c0, pm_e_c1, pm_e_cti, pm_e_ctl, pm_e_ctr, pm_e_go, pm_e_i, pm_e_ii, pm_e_ldi, pm_e_ldr, pm_e_lk, pm_e_r, pm_e_rii, pm_e_rm0, pm_e_rm1, pm_e_rs0, pm_e_rs1, pm_e_v1, pm_e_wp0, pm_e_wp1, pm_f2, pm_f3, pm_fld, pm_fv, pm_obj, pm_recv, pm_s_aload_n, pm_s_bipush, pm_s_dup, pm_s_getfield, pm_s_goto, pm_s_iadd, pm_s_iastore, pm_s_iconst, pm_s_idiv, pm_s_ifCond_eq, pm_s_ifCond_ne, pm_s_if_icmp_ge, pm_s_iinc, pm_s_iload_n, pm_s_invokevirtual, pm_s_irem, pm_s_istore_n, pm_s_putfield, pm_s_return, ct_X7_plans, pS, pR, pC, pE, pL, -Int32.not_le, -Int32.not_lt, -Int64.not_le, -Int64.not_lt, -List.getD_eq_getElem?_getD, n6]
              exact ih l4 U4 M4 (by omega) (by omega) w2 w3 w4 w5 w6 w7 w8 w9
            refine hb152 _ _ _ ?_
            simp (maxSteps := 2000000) [bk_X7_plans_0, bk_X7_plans_14, bk_X7_plans_26, bk_X7_plans_73, bk_X7_plans_148, bk_X7_plans_152, bk_X7_plans_158, bk_X7_plans_163, bk_X7_plans_166, pm_arr, pm_call, pm_e_c0, pm_e_c1, pm_e_cti, pm_e_ctl, pm_e_ctr, pm_e_go, pm_e_i, pm_e_ii, pm_e_ldi, pm_e_ldr, pm_e_lk, pm_e_r, pm_e_rii, pm_e_rm0, pm_e_rm1, pm_e_rs0, pm_e_rs1, pm_e_v1, pm_e_wp0, pm_e_wp1, pm_f2, pm_f3, pm_fld, pm_fv, pm_obj, pm_recv, pm_s_aload_n, pm_s_bipush, pm_s_dup, pm_s_getfield, pm_s_goto, pm_s_iadd, pm_s_iastore, pm_s_iconst, pm_s_idiv, pm_s_ifCond_eq, pm_s_ifCond_ne, pm_s_if_icmp_ge, pm_s_iinc, pm_s_iload_n, pm_s_invokevirtual, pm_s_irem, pm_s_istore_n, pm_s_putfield, pm_s_return, ct_X7_plans, pS, pR, pC, pE, pL, -Int32.not_le, -Int32.not_lt, -Int64.not_le, -Int64.not_lt, -List.getD_eq_getElem?_getD, n6]
            refine hb26 _ _ _ ?_
            simp (maxSteps := 2000000) [bk_X7_plans_0, bk_X7_plans_14, bk_X7_plans_26, bk_X7_plans_73, bk_X7_plans_148, bk_X7_plans_152, bk_X7_plans_158, bk_X7_plans_163, bk_X7_plans_166, pm_arr, pm_call, pm_e_c0, pm_e_c1, pm_e_cti, pm_e_ctl, pm_e_ctr, pm_e_go, pm_e_i, pm_e_ii, pm_e_ldi, pm_e_ldr, pm_e_lk, pm_e_r, pm_e_rii, pm_e_rm0, pm_e_rm1, pm_e_rs0, pm_e_rs1, pm_e_v1, pm_e_wp0, pm_e_wp1, pm_f2, pm_f3, pm_fld, pm_fv, pm_obj, pm_recv, pm_s_aload_n, pm_s_bipush, pm_s_dup, pm_s_getfield, pm_s_goto, pm_s_iadd, pm_s_iastore, pm_s_iconst, pm_s_idiv, pm_s_ifCond_eq, pm_s_ifCond_ne, pm_s_if_icmp_ge, pm_s_iinc, pm_s_iload_n, pm_s_invokevirtual, pm_s_irem, pm_s_istore_n, pm_s_putfield, pm_s_return, ct_X7_plans, pS, pR, pC, pE, pL, -Int32.not_le, -Int32.not_lt, -Int64.not_le, -Int64.not_lt, -List.getD_eq_getElem?_getD, sy_0, pb_eq0, n6]
            exact h158
          have moves : ∀ (q mm : Nat) (M4 : pm_M), 36 ≤ mm + q → mm ≤ 36 → (∀ m, m < mm → ¬ (canN P (pE P) U (m / 6) (m % 6) = true ∧ gd P (pE P) d (aMv P (pE P) U (m / 6) (m % 6)) (l.length + 1))) → SdY M4 10 0 (pR P) U → M4.1 0 22 = nI (pE P) → TB M4 P (pE P) n R lv g → PlY M4 l → yfr [10, 11, 12, 13, 16, 18, 19, 20, 21, 26, 27, 28, 29] [22, 30] M M4 → X 26 [(0, .ref 0), (1, .int (nI d)), (2, .int (pb false)), (3, .int (nI mm))] [] M4 := by
            intro q
            induction q with
            | zero =>
              intro mm M4 c1 c2 hno s4 e4 t4 p4 f4
              obtain ⟨m, w1, w2⟩ := (gd_step hP he hUn).mp hgd
              exact absurd w2 (hno m (by omega))
            | succ q ihq =>
              intro mm M4 c1 c2 hno s4 e4 t4 p4 f4
              by_cases hmm : mm < 36
              · have d4 : DkY M4 P := hD.mv f4 (by decide)
                have m4 : M4.1 0 3 = nI (pE P) := d4.2.2.2.2.1
                have ha6 : mm / 6 < 6 := by omega
                have hb6 : mm % 6 < 6 := by omega
                have hcan : canN P (pE P) U (mm / 6) (mm % 6) = (nmN P (pE P) (mm / 6) (mm % 6) && decide (whyF P (pE P) U (mm / 6) (mm % 6) = 0)) := rfl
                have h152 : ∀ (M5 : pm_M), ¬ (canN P (pE P) U (mm / 6) (mm % 6) = true ∧ gd P (pE P) d (aMv P (pE P) U (mm / 6) (mm % 6)) (l.length + 1)) → SdY M5 10 0 (pR P) U → M5.1 0 22 = nI (pE P) → TB M5 P (pE P) n R lv g → PlY M5 l → yfr [10, 11, 12, 13, 16, 18, 19, 20, 21, 26, 27, 28, 29] [22, 30] M M5 → X 152 [(0, .ref 0), (1, .int (nI d)), (2, .int (pb false)), (3, .int (nI mm))] [] M5 := by
                  intro M5 hn5 s5 e5 t5 p5 f5
                  refine hb152 _ _ _ ?_
                  simp (maxSteps := 2000000) [bk_X7_plans_0, bk_X7_plans_14, bk_X7_plans_26, bk_X7_plans_73, bk_X7_plans_148, bk_X7_plans_152, bk_X7_plans_158, bk_X7_plans_163, bk_X7_plans_166, pm_arr, pm_call, pm_e_c0, pm_e_c1, pm_e_cti, pm_e_ctl, pm_e_ctr, pm_e_go, pm_e_i, pm_e_ii, pm_e_ldi, pm_e_ldr, pm_e_lk, pm_e_r, pm_e_rii, pm_e_rm0, pm_e_rm1, pm_e_rs0, pm_e_rs1, pm_e_v1, pm_e_wp0, pm_e_wp1, pm_f2, pm_f3, pm_fld, pm_fv, pm_obj, pm_recv, pm_s_aload_n, pm_s_bipush, pm_s_dup, pm_s_getfield, pm_s_goto, pm_s_iadd, pm_s_iastore, pm_s_iconst, pm_s_idiv, pm_s_ifCond_eq, pm_s_ifCond_ne, pm_s_if_icmp_ge, pm_s_iinc, pm_s_iload_n, pm_s_invokevirtual, pm_s_irem, pm_s_istore_n, pm_s_putfield, pm_s_return, ct_X7_plans, pS, pR, pC, pE, pL, -Int32.not_le, -Int32.not_lt, -Int64.not_le, -Int64.not_lt, -List.getD_eq_getElem?_getD, n6]
                  rw [ni_add]
                  refine ihq (mm + 1) M5 (by omega) (by omega) (fun m hm => ?_) s5 e5 t5 p5 f5
                  by_cases z : m = mm
                  · rw [z]; exact hn5
                  · exact hno m (by omega)
                have h73 : canN P (pE P) U (mm / 6) (mm % 6) = true → X 73 [(0, .ref 0), (1, .int (nI d)), (2, .int (pb false)), (3, .int (nI mm))] [] M4 := by
                  intro hc
                  refine hb73 _ _ _ ?_
                  simp (maxSteps := 2000000) [bk_X7_plans_0, bk_X7_plans_14, bk_X7_plans_26, bk_X7_plans_73, bk_X7_plans_148, bk_X7_plans_152, bk_X7_plans_158, bk_X7_plans_163, bk_X7_plans_166, pm_arr, pm_call, pm_e_c0, pm_e_c1, pm_e_cti, pm_e_ctl, pm_e_ctr, pm_e_go, pm_e_i, pm_e_ii, pm_e_ldi, pm_e_ldr, pm_e_lk, pm_e_r, pm_e_rii, pm_e_rm0, pm_e_rm1, pm_e_rs0, pm_e_rs1, pm_e_v1, pm_e_wp0, pm_e_wp1, pm_f2, pm_f3, pm_fld, pm_fv, pm_obj, pm_recv, pm_s_aload_n, pm_s_bipush, pm_s_dup, pm_s_getfield, pm_s_goto, pm_s_iadd, pm_s_iastore, pm_s_iconst, pm_s_idiv, pm_s_ifCond_eq, pm_s_ifCond_ne, pm_s_if_icmp_ge, pm_s_iinc, pm_s_iload_n, pm_s_invokevirtual, pm_s_irem, pm_s_istore_n, pm_s_putfield, pm_s_return, ct_X7_plans, pS, pR, pC, pE, pL, -Int32.not_le, -Int32.not_lt, -Int64.not_le, -Int64.not_lt, -List.getD_eq_getElem?_getD, sy_0, n6]
                  intro M5 c5 k5 f5
                  have s5 := s4.mv f5 (by decide) (by decide)
                  have r5 : SdY M5 26 0 (pR P) U := c5.sd s4 lU
                  have e5 : M5.1 0 22 = nI (pE P) := by rw [f5.f (by simp)]; exact e4
                  have t5 := t4.mv f5 (by decide) (by simp)
                  have p5 := p4.mv f5 (by decide) (by simp)
                  have f5' : yfr [10, 11, 12, 13, 16, 18, 19, 20, 21, 26, 27, 28, 29] [22, 30] M M5 := f4.trans (f5.mono (by decide) (by simp))
                  have d5 : DkY M5 P := hD.mv f5' (by decide)
                  simp (maxSteps := 2000000) [bk_X7_plans_0, bk_X7_plans_14, bk_X7_plans_26, bk_X7_plans_73, bk_X7_plans_148, bk_X7_plans_152, bk_X7_plans_158, bk_X7_plans_163, bk_X7_plans_166, pm_arr, pm_call, pm_e_c0, pm_e_c1, pm_e_cti, pm_e_ctl, pm_e_ctr, pm_e_go, pm_e_i, pm_e_ii, pm_e_ldi, pm_e_ldr, pm_e_lk, pm_e_r, pm_e_rii, pm_e_rm0, pm_e_rm1, pm_e_rs0, pm_e_rs1, pm_e_v1, pm_e_wp0, pm_e_wp1, pm_f2, pm_f3, pm_fld, pm_fv, pm_obj, pm_recv, pm_s_aload_n, pm_s_bipush, pm_s_dup, pm_s_getfield, pm_s_goto, pm_s_iadd, pm_s_iastore, pm_s_iconst, pm_s_idiv, pm_s_ifCond_eq, pm_s_ifCond_ne, pm_s_if_icmp_ge, pm_s_iinc, pm_s_iload_n, pm_s_invokevirtual, pm_s_irem, pm_s_istore_n, pm_s_putfield, pm_s_return, ct_X7_plans, pS, pR, pC, pE, pL, -Int32.not_le, -Int32.not_lt, -Int64.not_le, -Int64.not_lt, -List.getD_eq_getElem?_getD, sy_0, n6]
                  rw [ni_rem (by omega) (by omega) (by omega), ni_div (by omega) (by omega) (by omega)]
                  refine ⟨P, pE P, U, mm / 6, mm % 6, rfl, rfl, hb6, d5, he, e5, s5, hU, hc, fun M6 s6 f6 => ?_⟩
                  have e6 : M6.1 0 22 = nI (pE P) := by rw [f6.f (by simp)]; exact e5
                  have r6 := r5.mv f6 (by decide) (by decide)
                  have t6 := t5.mv f6 (by decide) (by simp)
                  have p6 := p5.mv f6 (by decide) (by simp)
                  have f6' : yfr [10, 11, 12, 13, 16, 18, 19, 20, 21, 26, 27, 28, 29] [22, 30] M M6 := f5'.trans (f6.mono (by decide) (by simp))
                  have hT6 : FW P (pE P) (aMv P (pE P) U (mm / 6) (mm % 6)) := WF.mv hP he hU hb6 hc
                  simp (maxSteps := 2000000) [bk_X7_plans_0, bk_X7_plans_14, bk_X7_plans_26, bk_X7_plans_73, bk_X7_plans_148, bk_X7_plans_152, bk_X7_plans_158, bk_X7_plans_163, bk_X7_plans_166, pm_arr, pm_call, pm_e_c0, pm_e_c1, pm_e_cti, pm_e_ctl, pm_e_ctr, pm_e_go, pm_e_i, pm_e_ii, pm_e_ldi, pm_e_ldr, pm_e_lk, pm_e_r, pm_e_rii, pm_e_rm0, pm_e_rm1, pm_e_rs0, pm_e_rs1, pm_e_v1, pm_e_wp0, pm_e_wp1, pm_f2, pm_f3, pm_fld, pm_fv, pm_obj, pm_recv, pm_s_aload_n, pm_s_bipush, pm_s_dup, pm_s_getfield, pm_s_goto, pm_s_iadd, pm_s_iastore, pm_s_iconst, pm_s_idiv, pm_s_ifCond_eq, pm_s_ifCond_ne, pm_s_if_icmp_ge, pm_s_iinc, pm_s_iload_n, pm_s_invokevirtual, pm_s_irem, pm_s_istore_n, pm_s_putfield, pm_s_return, ct_X7_plans, pS, pR, pC, pE, pL, -Int32.not_le, -Int32.not_lt, -Int64.not_le, -Int64.not_lt, -List.getD_eq_getElem?_getD, sy_0, n6]
                  refine ⟨P, pE P, _, hD.mv f6' (by decide), s6, e6, he, hT6, fun M7 k7 f7 => ?_⟩
                  have e7 : M7.1 0 22 = nI (pE P) := by rw [f7.f (by simp)]; exact e6
                  have s7 := s6.mv f7 (by decide) (by decide)
                  have r7 := r6.mv f7 (by decide) (by decide)
                  have t7 := t6.mv f7 (by decide) (by simp)
                  have p7 := p6.mv f7 (by decide) (by simp)
                  have f7' : yfr [10, 11, 12, 13, 16, 18, 19, 20, 21, 26, 27, 28, 29] [22, 30] M M7 := f6'.trans (f7.mono (by decide) (by simp))
                  have n7 := p7.1
                  obtain ⟨ea, eb⟩ := cd6_e mm
                  have hr7 : run P (pE P) (l ++ [cd6 mm]) S0 = some (aMv P (pE P) U (mm / 6) (mm % 6)) := by
                    have := run_snoc (m := cd6 mm) hr (by rw [ea, eb]; exact hc)
                    rw [ea, eb] at this; exact this
                  simp (maxSteps := 2000000) [bk_X7_plans_0, bk_X7_plans_14, bk_X7_plans_26, bk_X7_plans_73, bk_X7_plans_148, bk_X7_plans_152, bk_X7_plans_158, bk_X7_plans_163, bk_X7_plans_166, pm_arr, pm_call, pm_e_c0, pm_e_c1, pm_e_cti, pm_e_ctl, pm_e_ctr, pm_e_go, pm_e_i, pm_e_ii, pm_e_ldi, pm_e_ldr, pm_e_lk, pm_e_r, pm_e_rii, pm_e_rm0, pm_e_rm1, pm_e_rs0, pm_e_rs1, pm_e_v1, pm_e_wp0, pm_e_wp1, pm_f2, pm_f3, pm_fld, pm_fv, pm_obj, pm_recv, pm_s_aload_n, pm_s_bipush, pm_s_dup, pm_s_getfield, pm_s_goto, pm_s_iadd, pm_s_iastore, pm_s_iconst, pm_s_idiv, pm_s_ifCond_eq, pm_s_ifCond_ne, pm_s_if_icmp_ge, pm_s_iinc, pm_s_iload_n, pm_s_invokevirtual, pm_s_irem, pm_s_istore_n, pm_s_putfield, pm_s_return, ct_X7_plans, pS, pR, pC, pE, pL, -Int32.not_le, -Int32.not_lt, -Int64.not_le, -Int64.not_lt, -List.getD_eq_getElem?_getD, sy_0, n7, n6]
                  rw [ni_add]
                  refine ⟨P, pE P, d, n, l.length + 1, R, lv, g, _, rfl, rfl, by omega, hd4, hP, he, t7, hinj, hT6, k7, fun b hb => ?_⟩
                  have key : b = true ↔ gd P (pE P) d (aMv P (pE P) U (mm / 6) (mm % 6)) (l.length + 1) := by
                    refine hb.trans (Iff.trans ?_ (hMK.lead hP he hF hT6 (k := l.length + 1) (by omega) ⟨_, _, by simp, hr7, rfl⟩))
                    refine or_congr Iff.rfl (and_congr Iff.rfl ⟨fun ⟨t, w1, w2, w3, w4⟩ => ⟨t, w1, by show fkN (cnS P (pE P) (R t)) = _; rw [fkc t w1, w2], w3, (hg t w1).mp w4⟩, fun ⟨t, w1, w2, w3, w4⟩ => ⟨t, w1, by have w2' : fkN (cnS P (pE P) (R t)) = _ := w2; rw [fkc t w1] at w2'; exact w2', w3, (hg t w1).mpr w4⟩⟩)
                  simp (maxSteps := 2000000) [bk_X7_plans_0, bk_X7_plans_14, bk_X7_plans_26, bk_X7_plans_73, bk_X7_plans_148, bk_X7_plans_152, bk_X7_plans_158, bk_X7_plans_163, bk_X7_plans_166, pm_arr, pm_call, pm_e_c0, pm_e_c1, pm_e_cti, pm_e_ctl, pm_e_ctr, pm_e_go, pm_e_i, pm_e_ii, pm_e_ldi, pm_e_ldr, pm_e_lk, pm_e_r, pm_e_rii, pm_e_rm0, pm_e_rm1, pm_e_rs0, pm_e_rs1, pm_e_v1, pm_e_wp0, pm_e_wp1, pm_f2, pm_f3, pm_fld, pm_fv, pm_obj, pm_recv, pm_s_aload_n, pm_s_bipush, pm_s_dup, pm_s_getfield, pm_s_goto, pm_s_iadd, pm_s_iastore, pm_s_iconst, pm_s_idiv, pm_s_ifCond_eq, pm_s_ifCond_ne, pm_s_if_icmp_ge, pm_s_iinc, pm_s_iload_n, pm_s_invokevirtual, pm_s_irem, pm_s_istore_n, pm_s_putfield, pm_s_return, ct_X7_plans, pS, pR, pC, pE, pL, -Int32.not_le, -Int32.not_lt, -Int64.not_le, -Int64.not_lt, -List.getD_eq_getElem?_getD, sy_0, sy_20, sy_21, n7, me_0, pb_eq0, n6]
                  rw [ni_in (by omega), ni_cl (by omega), ni_add]
                  refine ⟨fun hbf => ?_, fun hbt => ⟨by omega, ?_⟩⟩
                  · refine hb148 _ _ _ ?_
                    simp (maxSteps := 2000000) [bk_X7_plans_0, bk_X7_plans_14, bk_X7_plans_26, bk_X7_plans_73, bk_X7_plans_148, bk_X7_plans_152, bk_X7_plans_158, bk_X7_plans_163, bk_X7_plans_166, pm_arr, pm_call, pm_e_c0, pm_e_c1, pm_e_cti, pm_e_ctl, pm_e_ctr, pm_e_go, pm_e_i, pm_e_ii, pm_e_ldi, pm_e_ldr, pm_e_lk, pm_e_r, pm_e_rii, pm_e_rm0, pm_e_rm1, pm_e_rs0, pm_e_rs1, pm_e_v1, pm_e_wp0, pm_e_wp1, pm_f2, pm_f3, pm_fld, pm_fv, pm_obj, pm_recv, pm_s_aload_n, pm_s_bipush, pm_s_dup, pm_s_getfield, pm_s_goto, pm_s_iadd, pm_s_iastore, pm_s_iconst, pm_s_idiv, pm_s_ifCond_eq, pm_s_ifCond_ne, pm_s_if_icmp_ge, pm_s_iinc, pm_s_iload_n, pm_s_invokevirtual, pm_s_irem, pm_s_istore_n, pm_s_putfield, pm_s_return, ct_X7_plans, pS, pR, pC, pE, pL, -Int32.not_le, -Int32.not_lt, -Int64.not_le, -Int64.not_lt, -List.getD_eq_getElem?_getD, sy_0, n6]
                    intro M8 c8 k8 f8
                    simp (maxSteps := 2000000) [bk_X7_plans_0, bk_X7_plans_14, bk_X7_plans_26, bk_X7_plans_73, bk_X7_plans_148, bk_X7_plans_152, bk_X7_plans_158, bk_X7_plans_163, bk_X7_plans_166, pm_arr, pm_call, pm_e_c0, pm_e_c1, pm_e_cti, pm_e_ctl, pm_e_ctr, pm_e_go, pm_e_i, pm_e_ii, pm_e_ldi, pm_e_ldr, pm_e_lk, pm_e_r, pm_e_rii, pm_e_rm0, pm_e_rm1, pm_e_rs0, pm_e_rs1, pm_e_v1, pm_e_wp0, pm_e_wp1, pm_f2, pm_f3, pm_fld, pm_fv, pm_obj, pm_recv, pm_s_aload_n, pm_s_bipush, pm_s_dup, pm_s_getfield, pm_s_goto, pm_s_iadd, pm_s_iastore, pm_s_iconst, pm_s_idiv, pm_s_ifCond_eq, pm_s_ifCond_ne, pm_s_if_icmp_ge, pm_s_iinc, pm_s_iload_n, pm_s_invokevirtual, pm_s_irem, pm_s_istore_n, pm_s_putfield, pm_s_return, ct_X7_plans, pS, pR, pC, pE, pL, -Int32.not_le, -Int32.not_lt, -Int64.not_le, -Int64.not_lt, -List.getD_eq_getElem?_getD, n6]
                    refine h152 M8 (fun w => ?_) (c8.sd r7 lU) (by rw [f8.f (by simp)]; exact e7) (t7.mv f8 (by decide) (by simp)) (p7.mv f8 (by decide) (by simp)) (f7'.trans (f8.mono (by decide) (by simp)))
                    have := key.mpr w.2
                    rw [hbf] at this; cases this
                  · have fx : yfr [20, 21] [30] M7 (pm_set (pm_set (pm_set M7 20 l.length (nI (mm / 6))) 21 l.length (nI (mm % 6))) 0 30 (nI (l.length + 1))) := ((yfr.rfl.set (by decide) (by decide)).set (by decide) (by decide)).set0 (by decide)
                    refine h152f _ mm (l ++ [cd6 mm]) _ (by simp) hr7 (by simpa using key.mp (by simpa using hbt)) (hlx.step hP he hr hl hno) (s7.mv fx (by decide) (by decide)) (by rw [fx.f (by decide)]; exact e7) (t7.mv fx (by decide) (by decide)) (p7.app ea eb) (f7'.trans (fx.mono (by decide) (by decide)))
                refine hb26 _ _ _ ?_
                simp (maxSteps := 2000000) [bk_X7_plans_0, bk_X7_plans_14, bk_X7_plans_26, bk_X7_plans_73, bk_X7_plans_148, bk_X7_plans_152, bk_X7_plans_158, bk_X7_plans_163, bk_X7_plans_166, pm_arr, pm_call, pm_e_c0, pm_e_c1, pm_e_cti, pm_e_ctl, pm_e_ctr, pm_e_go, pm_e_i, pm_e_ii, pm_e_ldi, pm_e_ldr, pm_e_lk, pm_e_r, pm_e_rii, pm_e_rm0, pm_e_rm1, pm_e_rs0, pm_e_rs1, pm_e_v1, pm_e_wp0, pm_e_wp1, pm_f2, pm_f3, pm_fld, pm_fv, pm_obj, pm_recv, pm_s_aload_n, pm_s_bipush, pm_s_dup, pm_s_getfield, pm_s_goto, pm_s_iadd, pm_s_iastore, pm_s_iconst, pm_s_idiv, pm_s_ifCond_eq, pm_s_ifCond_ne, pm_s_if_icmp_ge, pm_s_iinc, pm_s_iload_n, pm_s_invokevirtual, pm_s_irem, pm_s_istore_n, pm_s_putfield, pm_s_return, ct_X7_plans, pS, pR, pC, pE, pL, -Int32.not_le, -Int32.not_lt, -Int64.not_le, -Int64.not_lt, -List.getD_eq_getElem?_getD, sy_0, m4, pb_eq0, n6]
                rw [ni_le (by omega) (by omega), ni_rem (by omega) (by omega) (by omega), ni_div (by omega) (by omega) (by omega)]
                refine ⟨fun z => by omega, fun _ => ?_⟩
                refine ⟨P, pE P, d4, he, rfl, ?_⟩
                simp (maxSteps := 2000000) [bk_X7_plans_0, bk_X7_plans_14, bk_X7_plans_26, bk_X7_plans_73, bk_X7_plans_148, bk_X7_plans_152, bk_X7_plans_158, bk_X7_plans_163, bk_X7_plans_166, pm_arr, pm_call, pm_e_c0, pm_e_c1, pm_e_cti, pm_e_ctl, pm_e_ctr, pm_e_go, pm_e_i, pm_e_ii, pm_e_ldi, pm_e_ldr, pm_e_lk, pm_e_r, pm_e_rii, pm_e_rm0, pm_e_rm1, pm_e_rs0, pm_e_rs1, pm_e_v1, pm_e_wp0, pm_e_wp1, pm_f2, pm_f3, pm_fld, pm_fv, pm_obj, pm_recv, pm_s_aload_n, pm_s_bipush, pm_s_dup, pm_s_getfield, pm_s_goto, pm_s_iadd, pm_s_iastore, pm_s_iconst, pm_s_idiv, pm_s_ifCond_eq, pm_s_ifCond_ne, pm_s_if_icmp_ge, pm_s_iinc, pm_s_iload_n, pm_s_invokevirtual, pm_s_irem, pm_s_istore_n, pm_s_putfield, pm_s_return, ct_X7_plans, pS, pR, pC, pE, pL, -Int32.not_le, -Int32.not_lt, -Int64.not_le, -Int64.not_lt, -List.getD_eq_getElem?_getD, sy_0, pb_eq0, n6]
                rw [nmF_n hP he (by omega) (by omega)]
                refine ⟨fun hnm => h152 M4 (fun w => by have := w.1; rw [hcan, hnm] at this; cases this) s4 e4 t4 p4 f4, fun hnm => ?_⟩
                refine ⟨P, pE P, U, mm / 6, mm % 6, rfl, rfl, ha6, hb6, d4, he, e4, s4, hUo, hU.inDk, ?_⟩
                simp (maxSteps := 2000000) [bk_X7_plans_0, bk_X7_plans_14, bk_X7_plans_26, bk_X7_plans_73, bk_X7_plans_148, bk_X7_plans_152, bk_X7_plans_158, bk_X7_plans_163, bk_X7_plans_166, pm_arr, pm_call, pm_e_c0, pm_e_c1, pm_e_cti, pm_e_ctl, pm_e_ctr, pm_e_go, pm_e_i, pm_e_ii, pm_e_ldi, pm_e_ldr, pm_e_lk, pm_e_r, pm_e_rii, pm_e_rm0, pm_e_rm1, pm_e_rs0, pm_e_rs1, pm_e_v1, pm_e_wp0, pm_e_wp1, pm_f2, pm_f3, pm_fld, pm_fv, pm_obj, pm_recv, pm_s_aload_n, pm_s_bipush, pm_s_dup, pm_s_getfield, pm_s_goto, pm_s_iadd, pm_s_iastore, pm_s_iconst, pm_s_idiv, pm_s_ifCond_eq, pm_s_ifCond_ne, pm_s_if_icmp_ge, pm_s_iinc, pm_s_iload_n, pm_s_invokevirtual, pm_s_irem, pm_s_istore_n, pm_s_putfield, pm_s_return, ct_X7_plans, pS, pR, pC, pE, pL, -Int32.not_le, -Int32.not_lt, -Int64.not_le, -Int64.not_lt, -List.getD_eq_getElem?_getD, n6]
                rw [ni_eq0 (Nat.lt_of_le_of_lt (whyF_le _ _ _ _ _) (by decide))]
                exact ⟨fun hw => h73 (by rw [hcan, hnm, decide_eq_true hw]; rfl), fun hw => h152 M4 (fun w => by have := w.1; rw [hcan, hnm, decide_eq_false hw] at this; cases this) s4 e4 t4 p4 f4⟩
              · obtain ⟨m, w1, w2⟩ := (gd_step hP he hUn).mp hgd
                exact absurd w2 (hno m (by omega))
          refine hb14 _ _ _ ?_
          simp (maxSteps := 2000000) [bk_X7_plans_0, bk_X7_plans_14, bk_X7_plans_26, bk_X7_plans_73, bk_X7_plans_148, bk_X7_plans_152, bk_X7_plans_158, bk_X7_plans_163, bk_X7_plans_166, pm_arr, pm_call, pm_e_c0, pm_e_c1, pm_e_cti, pm_e_ctl, pm_e_ctr, pm_e_go, pm_e_i, pm_e_ii, pm_e_ldi, pm_e_ldr, pm_e_lk, pm_e_r, pm_e_rii, pm_e_rm0, pm_e_rm1, pm_e_rs0, pm_e_rs1, pm_e_v1, pm_e_wp0, pm_e_wp1, pm_f2, pm_f3, pm_fld, pm_fv, pm_obj, pm_recv, pm_s_aload_n, pm_s_bipush, pm_s_dup, pm_s_getfield, pm_s_goto, pm_s_iadd, pm_s_iastore, pm_s_iconst, pm_s_idiv, pm_s_ifCond_eq, pm_s_ifCond_ne, pm_s_if_icmp_ge, pm_s_iinc, pm_s_iload_n, pm_s_invokevirtual, pm_s_irem, pm_s_istore_n, pm_s_putfield, pm_s_return, ct_X7_plans, pS, pR, pC, pE, pL, -Int32.not_le, -Int32.not_lt, -Int64.not_le, -Int64.not_lt, -List.getD_eq_getElem?_getD, sy_0, n3, n6]
          rw [ni_le (by omega) (by omega)]
          exact ⟨fun z => by omega, fun _ => moves 36 0 M3 (by omega) (by omega) (fun m hm => by omega) s3 e3 t3 p3 f3⟩
        · exact stop l U M3 (by omega) hr hgd hlx p3 f3
    refine loop d [] S0 M2 (by omega) (by simp) rfl ?_ (fun l' T h1 h2 h3 => Or.inl rfl) s2 e2' t2 p2 f2'
    obtain ⟨l, T, w1, w2, w3⟩ := hMK.2.2.2.2.2
    exact ⟨l, T, by simpa using w1, w2, w3⟩
  · exact hT.elim
def tt_X7_solve : pm_T := fun args M k => match args with
  | [.ref 0, .int x] => ∃ A, okA A ∧ MY M A ∧ ∀ M', MY M' (fSolve A x).2 → k (some (.int (fSolve A x).1)) M'
  | _ => False
abbrev ct_X7_solve : List pm_C := [(true, 111, 7, 3, (some .boolean), tt_X7_in), (false, 139, 7, 1, (some .int), tt_X7_cards), (false, 238, 7, 3, (some .int), tt_X7_search), (false, 241, 7, 2, none, tt_X7_plans)]
set_option maxHeartbeats 4000000 in
theorem sm_X7_solve  : pm_Sem SHy yX7_solve cX7_solve 3 (some .int) 6 tt_X7_solve := by
  refine pm_Sem_intro bl_X7_solve ct_X7_solve cs_X7_solve rfl (List.forall_mem_cons.mpr ⟨⟨_, _, _, _, sm_X7_in, by decide, cm_X7_in, by decide +kernel⟩, List.forall_mem_cons.mpr ⟨⟨_, _, _, _, sm_X7_cards, by decide, cm_X7_cards, by decide +kernel⟩, List.forall_mem_cons.mpr ⟨⟨_, _, _, _, sm_X7_search, by decide, cm_X7_search, by decide +kernel⟩, List.forall_mem_cons.mpr ⟨⟨_, _, _, _, sm_X7_plans, by decide, cm_X7_plans, by decide +kernel⟩, fun _ h => absurd h List.not_mem_nil⟩⟩⟩⟩) ck_X7_solve (by decide +kernel) (by decide) ?_
  intro X k hX args M hT
  have hb0 := hX 0 bk_X7_solve_0 (List.mem_of_getElem? (i := 0) rfl)
  have hb14 := hX 14 bk_X7_solve_14 (List.mem_of_getElem? (i := 1) rfl)
  have hb28 := hX 28 bk_X7_solve_28 (List.mem_of_getElem? (i := 2) rfl)
  have hb47 := hX 47 bk_X7_solve_47 (List.mem_of_getElem? (i := 3) rfl)
  clear hX
  unfold tt_X7_solve at hT; split at hT
  · next x =>
    obtain ⟨A, hA, hM, hT⟩ := hT
    obtain ⟨hD, hS, hL, h5', h7', hH, hPl, hTr, hQ⟩ := id hM
    obtain ⟨hP, m0, m1, m2, m3, m4⟩ := id hD
    unfold fSolve at hT
    have h47 : ∀ M' v, k (some (.int v)) M' → X 47 [(2, .int v)] [] M' := by
      intro M' v hv
      refine hb47 _ _ _ ?_
      simp (maxSteps := 2000000) [bk_X7_solve_0, bk_X7_solve_14, bk_X7_solve_28, bk_X7_solve_47, pm_call, pm_e_c0, pm_e_c1, pm_e_cti, pm_e_ctl, pm_e_ctr, pm_e_go, pm_e_i, pm_e_ii, pm_e_ldi, pm_e_ldr, pm_e_lk, pm_e_r, pm_e_rm0, pm_e_rm1, pm_e_rs0, pm_e_rs1, pm_e_wp0, pm_e_wp1, pm_f2, pm_f3, pm_fld, pm_fv, pm_obj, pm_recv, pm_s_aload_n, pm_s_bipush, pm_s_getfield, pm_s_iconst, pm_s_ifCond_lt, pm_s_ifCond_ne, pm_s_if_icmp_ge, pm_s_iload_n, pm_s_invokestatic, pm_s_invokevirtual, pm_s_ireturn, pm_s_istore_n, pm_s_sipush, ct_X7_solve, tt_X7_in, tt_X7_cards, pS, pR, pC, pE, pL, -Int32.not_le, -Int32.not_lt, -Int64.not_le, -Int64.not_lt, -List.getD_eq_getElem?_getD]
      exact hv
    refine ⟨by simp [lg_sl, Value.category], ?_⟩
    refine hb0 _ _ _ ?_
    simp (maxSteps := 2000000) [bk_X7_solve_0, bk_X7_solve_14, bk_X7_solve_28, bk_X7_solve_47, pm_call, pm_e_c0, pm_e_c1, pm_e_cti, pm_e_ctl, pm_e_ctr, pm_e_go, pm_e_i, pm_e_ii, pm_e_ldi, pm_e_ldr, pm_e_lk, pm_e_r, pm_e_rm0, pm_e_rm1, pm_e_rs0, pm_e_rs1, pm_e_wp0, pm_e_wp1, pm_f2, pm_f3, pm_fld, pm_fv, pm_obj, pm_recv, pm_s_aload_n, pm_s_bipush, pm_s_getfield, pm_s_iconst, pm_s_ifCond_lt, pm_s_ifCond_ne, pm_s_if_icmp_ge, pm_s_iload_n, pm_s_invokestatic, pm_s_invokevirtual, pm_s_ireturn, pm_s_istore_n, pm_s_sipush, ct_X7_solve, tt_X7_in, tt_X7_cards, pS, pR, pC, pE, pL, -Int32.not_le, -Int32.not_lt, -Int64.not_le, -Int64.not_lt, -List.getD_eq_getElem?_getD, lv_args, pb_eq0]
    refine ⟨fun h => ?_, fun h => (by rw [if_neg (by rw [h]; simp)] at hT; exact hT M hM)⟩
    · rw [if_pos h] at hT
      obtain ⟨x1, x2, x3⟩ := wi_tn (by decide) (by decide) h
      refine hb14 _ _ _ ?_
      simp (maxSteps := 2000000) [bk_X7_solve_0, bk_X7_solve_14, bk_X7_solve_28, bk_X7_solve_47, pm_call, pm_e_c0, pm_e_c1, pm_e_cti, pm_e_ctl, pm_e_ctr, pm_e_go, pm_e_i, pm_e_ii, pm_e_ldi, pm_e_ldr, pm_e_lk, pm_e_r, pm_e_rm0, pm_e_rm1, pm_e_rs0, pm_e_rs1, pm_e_wp0, pm_e_wp1, pm_f2, pm_f3, pm_fld, pm_fv, pm_obj, pm_recv, pm_s_aload_n, pm_s_bipush, pm_s_getfield, pm_s_iconst, pm_s_ifCond_lt, pm_s_ifCond_ne, pm_s_if_icmp_ge, pm_s_iload_n, pm_s_invokestatic, pm_s_invokevirtual, pm_s_ireturn, pm_s_istore_n, pm_s_sipush, ct_X7_solve, tt_X7_in, tt_X7_cards, pS, pR, pC, pE, pL, -Int32.not_le, -Int32.not_lt, -Int64.not_le, -Int64.not_lt, -List.getD_eq_getElem?_getD, sy_0, m0, m1, h5']
      rw [ni_mul, laid_lt hA]
      refine ⟨fun hl => ?_, fun hl => ?_⟩
      · rw [if_pos hl] at hT
        have hF := hA.fw hl
        refine hb28 _ _ _ ?_
        simp (maxSteps := 2000000) [bk_X7_solve_0, bk_X7_solve_14, bk_X7_solve_28, bk_X7_solve_47, pm_call, pm_e_c0, pm_e_c1, pm_e_cti, pm_e_ctl, pm_e_ctr, pm_e_go, pm_e_i, pm_e_ii, pm_e_ldi, pm_e_ldr, pm_e_lk, pm_e_r, pm_e_rm0, pm_e_rm1, pm_e_rs0, pm_e_rs1, pm_e_wp0, pm_e_wp1, pm_f2, pm_f3, pm_fld, pm_fv, pm_obj, pm_recv, pm_s_aload_n, pm_s_bipush, pm_s_getfield, pm_s_iconst, pm_s_ifCond_lt, pm_s_ifCond_ne, pm_s_if_icmp_ge, pm_s_iload_n, pm_s_invokestatic, pm_s_invokevirtual, pm_s_ireturn, pm_s_istore_n, pm_s_sipush, ct_X7_solve, tt_X7_in, tt_X7_cards, pS, pR, pC, pE, pL, -Int32.not_le, -Int32.not_lt, -Int64.not_le, -Int64.not_lt, -List.getD_eq_getElem?_getD, sy_0, m3]
        refine ⟨aP A, pE (aP A), aS A, tn x, rfl, hP.2.2.2.2.2.2.2.1, x1, x2, x3, hD, hS, hF, fun M1 z hz f1 e1 ht => ?_⟩
        rw [slvA_e hz] at hT
        have hM1 := hM.scr f1 (by decide) (by decide)
        simp (maxSteps := 2000000) [bk_X7_solve_0, bk_X7_solve_14, bk_X7_solve_28, bk_X7_solve_47, pm_call, pm_e_c0, pm_e_c1, pm_e_cti, pm_e_ctl, pm_e_ctr, pm_e_go, pm_e_i, pm_e_ii, pm_e_ldi, pm_e_ldr, pm_e_lk, pm_e_r, pm_e_rm0, pm_e_rm1, pm_e_rs0, pm_e_rs1, pm_e_wp0, pm_e_wp1, pm_f2, pm_f3, pm_fld, pm_fv, pm_obj, pm_recv, pm_s_aload_n, pm_s_bipush, pm_s_getfield, pm_s_iconst, pm_s_ifCond_lt, pm_s_ifCond_ne, pm_s_if_icmp_ge, pm_s_iload_n, pm_s_invokestatic, pm_s_invokevirtual, pm_s_ireturn, pm_s_istore_n, pm_s_sipush, ct_X7_solve, tt_X7_in, tt_X7_cards, pS, pR, pC, pE, pL, -Int32.not_le, -Int32.not_lt, -Int64.not_le, -Int64.not_lt, -List.getD_eq_getElem?_getD]
        rcases hz with ⟨d, rfl, d4, hd⟩ | ⟨rfl, -⟩ | ⟨rfl, -⟩
        · rw [if_pos (by rw [ni_0le (by omega)]; trivial)] at hT
          obtain ⟨n, R, lv, tb, mk⟩ := ht d d4 rfl
          rw [ni_lt0 (by omega)]
          refine ⟨fun w => w.elim, fun _ => ?_⟩
          refine ⟨aP A, aS A, d, n, R, lv, rfl, d4, hD.mv f1 (by decide), hS.mv f1 (by decide) (by decide), hF, tb, e1, mk, fun M2 l hl hld p2 f2 => ?_⟩
          rw [plnA_e hl] at hT
          simp (maxSteps := 2000000) [bk_X7_solve_0, bk_X7_solve_14, bk_X7_solve_28, bk_X7_solve_47, pm_call, pm_e_c0, pm_e_c1, pm_e_cti, pm_e_ctl, pm_e_ctr, pm_e_go, pm_e_i, pm_e_ii, pm_e_ldi, pm_e_ldr, pm_e_lk, pm_e_r, pm_e_rm0, pm_e_rm1, pm_e_rs0, pm_e_rs1, pm_e_wp0, pm_e_wp1, pm_f2, pm_f3, pm_fld, pm_fv, pm_obj, pm_recv, pm_s_aload_n, pm_s_bipush, pm_s_getfield, pm_s_iconst, pm_s_ifCond_lt, pm_s_ifCond_ne, pm_s_if_icmp_ge, pm_s_iload_n, pm_s_invokestatic, pm_s_invokevirtual, pm_s_ireturn, pm_s_istore_n, pm_s_sipush, ct_X7_solve, tt_X7_in, tt_X7_cards, pS, pR, pC, pE, pL, -Int32.not_le, -Int32.not_lt, -Int64.not_le, -Int64.not_lt, -List.getD_eq_getElem?_getD]
          refine h47 _ _ (hT M2 ?_)
          obtain ⟨a, b, c, d', e, f, g, i, j⟩ := hM1
          exact ⟨a.mv f2 (by decide), b.mv f2 (by decide) (by decide), c.mv f2 (by decide), by rw [f2.f (by decide)]; exact d', by rw [f2.f (by decide)]; exact e, f.mv f2 (by decide) (by decide), p2, try_mv i f2 (by decide), by rw [f2.f (by decide)]; exact j⟩
        · rw [if_neg (by decide)] at hT
          exact ⟨fun _ => h47 _ _ (hT M1 hM1), fun w => absurd (by decide) w⟩
        · rw [if_neg (by decide)] at hT
          exact ⟨fun _ => h47 _ _ (hT M1 hM1), fun w => absurd (by decide) w⟩
      · rw [if_neg hl] at hT
        exact hT M hM
  · exact hT.elim
def tt_X7_needs : pm_T := fun args M k => match args with
  | [.ref 0, .int x] => ∃ A, okA A ∧ MY M A ∧ ∀ M', MY M' A → k (some (.int (fNeeds A x))) M'
  | _ => False
theorem FW.em {P : Pm} {ec : Nat} {S : St} (h : FW P ec S) (h0 : S.2.1 0 = 0) (h1 : S.2.1 1 = 0) (e : Nat) : FW P e S := by
  obtain ⟨a, b, c⟩ := h
  refine ⟨a, fun j hj _ => ?_, c⟩
  rcases (show j = 0 ∨ j = 1 by omega) with rfl | rfl
  · exact h0
  · exact h1
abbrev ct_X7_needs : List pm_C := [(true, 111, 7, 3, (some .boolean), tt_X7_in), (false, 139, 7, 1, (some .int), tt_X7_cards), (false, 238, 7, 3, (some .int), tt_X7_search)]
set_option maxHeartbeats 4000000 in
theorem sm_X7_needs  : pm_Sem SHy yX7_needs cX7_needs 4 (some .int) 5 tt_X7_needs := by
  refine pm_Sem_intro bl_X7_needs ct_X7_needs cs_X7_needs rfl (List.forall_mem_cons.mpr ⟨⟨_, _, _, _, sm_X7_in, by decide, cm_X7_in, by decide +kernel⟩, List.forall_mem_cons.mpr ⟨⟨_, _, _, _, sm_X7_cards, by decide, cm_X7_cards, by decide +kernel⟩, List.forall_mem_cons.mpr ⟨⟨_, _, _, _, sm_X7_search, by decide, cm_X7_search, by decide +kernel⟩, fun _ h => absurd h List.not_mem_nil⟩⟩⟩) ck_X7_needs (by decide +kernel) (by decide) ?_
  intro X k hX args M hT
  have hb0 := hX 0 bk_X7_needs_0 (List.mem_of_getElem? (i := 0) rfl)
  have hb14 := hX 14 bk_X7_needs_14 (List.mem_of_getElem? (i := 1) rfl)
  have hb43 := hX 43 bk_X7_needs_43 (List.mem_of_getElem? (i := 2) rfl)
  have hb46 := hX 46 bk_X7_needs_46 (List.mem_of_getElem? (i := 3) rfl)
  have hb48 := hX 48 bk_X7_needs_48 (List.mem_of_getElem? (i := 4) rfl)
  have hb66 := hX 66 bk_X7_needs_66 (List.mem_of_getElem? (i := 5) rfl)
  have hb75 := hX 75 bk_X7_needs_75 (List.mem_of_getElem? (i := 6) rfl)
  have hb81 := hX 81 bk_X7_needs_81 (List.mem_of_getElem? (i := 7) rfl)
  clear hX
  unfold tt_X7_needs at hT; split at hT
  · next x =>
    obtain ⟨A, hA, hM, hT⟩ := hT
    obtain ⟨hD, hS, hL, h5', h7', hH, hPl, hTr, hQ⟩ := id hM
    obtain ⟨hP, m0, m1, m2, m3, m4⟩ := id hD
    have hI := hA.wf.inDk
    have hcl := hA.lcl
    have h12 := hP.2.2.2.2.1
    unfold fNeeds at hT
    refine ⟨by simp [lg_sl, Value.category], ?_⟩
    refine hb0 _ _ _ ?_
    simp (maxSteps := 2000000) [bk_X7_needs_0, bk_X7_needs_14, bk_X7_needs_43, bk_X7_needs_46, bk_X7_needs_48, bk_X7_needs_66, bk_X7_needs_75, bk_X7_needs_81, pm_arr, pm_call, pm_e_c0, pm_e_c1, pm_e_cti, pm_e_ctl, pm_e_ctr, pm_e_go, pm_e_i, pm_e_ii, pm_e_ldi, pm_e_ldr, pm_e_lk, pm_e_r, pm_e_ri, pm_e_rm0, pm_e_rm1, pm_e_rs0, pm_e_rs1, pm_e_wp0, pm_e_wp1, pm_f2, pm_f3, pm_fld, pm_fv, pm_obj, pm_recv, pm_s_aload_n, pm_s_bipush, pm_s_getfield, pm_s_goto, pm_s_iaload, pm_s_iconst, pm_s_ifCond_eq, pm_s_ifCond_lt, pm_s_ifCond_ne, pm_s_if_icmp_gt, pm_s_if_icmp_lt, pm_s_if_icmp_ne, pm_s_iinc, pm_s_iload_n, pm_s_invokestatic, pm_s_invokevirtual, pm_s_ireturn, pm_s_istore_n, pm_s_sipush, ct_X7_needs, tt_X7_in, tt_X7_cards, pS, pR, pC, pE, pL, -Int32.not_le, -Int32.not_lt, -Int64.not_le, -Int64.not_lt, -List.getD_eq_getElem?_getD, lv_args, pb_eq0]
    refine ⟨fun h => ?_, fun h => (by rw [if_neg (by rw [h]; simp)] at hT; exact hT M hM)⟩
    · rw [if_pos h] at hT
      obtain ⟨x1, x2, x3⟩ := wi_tn (by decide) (by decide) h
      have h43 : (alL A && decide ((aS A).2.1 0 = 0) && decide ((aS A).2.1 1 = 0)) = false → X 43 [] [] M := by
        intro hf
        rw [if_neg (by rw [hf]; simp)] at hT
        refine hb43 _ _ _ ?_
        simp (maxSteps := 2000000) [bk_X7_needs_0, bk_X7_needs_14, bk_X7_needs_43, bk_X7_needs_46, bk_X7_needs_48, bk_X7_needs_66, bk_X7_needs_75, bk_X7_needs_81, pm_arr, pm_call, pm_e_c0, pm_e_c1, pm_e_cti, pm_e_ctl, pm_e_ctr, pm_e_go, pm_e_i, pm_e_ii, pm_e_ldi, pm_e_ldr, pm_e_lk, pm_e_r, pm_e_ri, pm_e_rm0, pm_e_rm1, pm_e_rs0, pm_e_rs1, pm_e_wp0, pm_e_wp1, pm_f2, pm_f3, pm_fld, pm_fv, pm_obj, pm_recv, pm_s_aload_n, pm_s_bipush, pm_s_getfield, pm_s_goto, pm_s_iaload, pm_s_iconst, pm_s_ifCond_eq, pm_s_ifCond_lt, pm_s_ifCond_ne, pm_s_if_icmp_gt, pm_s_if_icmp_lt, pm_s_if_icmp_ne, pm_s_iinc, pm_s_iload_n, pm_s_invokestatic, pm_s_invokevirtual, pm_s_ireturn, pm_s_istore_n, pm_s_sipush, ct_X7_needs, tt_X7_in, tt_X7_cards, pS, pR, pC, pE, pL, -Int32.not_le, -Int32.not_lt, -Int64.not_le, -Int64.not_lt, -List.getD_eq_getElem?_getD]
        exact hT M hM
      have h46 : alL A = true → (aS A).2.1 0 = 0 → (aS A).2.1 1 = 0 → X 46 [(0, .ref 0), (1, .int x)] [] M := by
        intro hl z0 z1
        rw [if_pos (by rw [hl, decide_eq_true z0, decide_eq_true z1]; rfl)] at hT
        have one : ∀ (n : Nat) (M2 : pm_M), n ≤ 2 → yfr [10, 11, 12, 13, 14, 15, 16, 17, 18, 19] [22, 23] M M2 → (slvA (aP A) n (aS A) (tn x) ≠ -nI 1 → ∀ M', MY M' A → k (some (.int (if slvA (aP A) n (aS A) (tn x) = -nI 3 then -nI 3 else nI n))) M') → (slvA (aP A) n (aS A) (tn x) = -nI 1 → ∀ M', yfr [10, 11, 12, 13, 14, 15, 16, 17, 18, 19] [22, 23] M M' → X 48 [(0, .ref 0), (1, .int x), (2, .int (nI (n + 1)))] [] M') → X 48 [(0, .ref 0), (1, .int x), (2, .int (nI n))] [] M2 := by
          intro n M2 hn f2 hk hx
          have hF := (hA.fw hl).em z0 z1 n
          refine hb48 _ _ _ ?_
          simp (maxSteps := 2000000) [bk_X7_needs_0, bk_X7_needs_14, bk_X7_needs_43, bk_X7_needs_46, bk_X7_needs_48, bk_X7_needs_66, bk_X7_needs_75, bk_X7_needs_81, pm_arr, pm_call, pm_e_c0, pm_e_c1, pm_e_cti, pm_e_ctl, pm_e_ctr, pm_e_go, pm_e_i, pm_e_ii, pm_e_ldi, pm_e_ldr, pm_e_lk, pm_e_r, pm_e_ri, pm_e_rm0, pm_e_rm1, pm_e_rs0, pm_e_rs1, pm_e_wp0, pm_e_wp1, pm_f2, pm_f3, pm_fld, pm_fv, pm_obj, pm_recv, pm_s_aload_n, pm_s_bipush, pm_s_getfield, pm_s_goto, pm_s_iaload, pm_s_iconst, pm_s_ifCond_eq, pm_s_ifCond_lt, pm_s_ifCond_ne, pm_s_if_icmp_gt, pm_s_if_icmp_lt, pm_s_if_icmp_ne, pm_s_iinc, pm_s_iload_n, pm_s_invokestatic, pm_s_invokevirtual, pm_s_ireturn, pm_s_istore_n, pm_s_sipush, ct_X7_needs, tt_X7_in, tt_X7_cards, pS, pR, pC, pE, pL, -Int32.not_le, -Int32.not_lt, -Int64.not_le, -Int64.not_lt, -List.getD_eq_getElem?_getD, sy_0]
          rw [ni_lt (by omega) (by omega)]
          refine ⟨fun w => by omega, fun _ => ?_⟩
          refine ⟨aP A, n, aS A, tn x, rfl, hn, x1, x2, x3, hD.mv f2 (by decide), hS.mv f2 (by decide) (by decide), hF, fun M3 z hz f3 e3 _ => ?_⟩
          rw [slvA_e hz] at hk hx
          have f3' := f2.trans f3
          have hM3 := hM.scr f3' (by decide) (by decide)
          simp (maxSteps := 2000000) [bk_X7_needs_0, bk_X7_needs_14, bk_X7_needs_43, bk_X7_needs_46, bk_X7_needs_48, bk_X7_needs_66, bk_X7_needs_75, bk_X7_needs_81, pm_arr, pm_call, pm_e_c0, pm_e_c1, pm_e_cti, pm_e_ctl, pm_e_ctr, pm_e_go, pm_e_i, pm_e_ii, pm_e_ldi, pm_e_ldr, pm_e_lk, pm_e_r, pm_e_ri, pm_e_rm0, pm_e_rm1, pm_e_rs0, pm_e_rs1, pm_e_wp0, pm_e_wp1, pm_f2, pm_f3, pm_fld, pm_fv, pm_obj, pm_recv, pm_s_aload_n, pm_s_bipush, pm_s_getfield, pm_s_goto, pm_s_iaload, pm_s_iconst, pm_s_ifCond_eq, pm_s_ifCond_lt, pm_s_ifCond_ne, pm_s_if_icmp_gt, pm_s_if_icmp_lt, pm_s_if_icmp_ne, pm_s_iinc, pm_s_iload_n, pm_s_invokestatic, pm_s_invokevirtual, pm_s_ireturn, pm_s_istore_n, pm_s_sipush, ct_X7_needs, tt_X7_in, tt_X7_cards, pS, pR, pC, pE, pL, -Int32.not_le, -Int32.not_lt, -Int64.not_le, -Int64.not_lt, -List.getD_eq_getElem?_getD]
          rcases hz with ⟨d, rfl, d4, hd⟩ | ⟨rfl, -⟩ | ⟨rfl, -⟩
          · rw [ni_lt0 (by omega)]
            refine ⟨fun w => w.elim, fun _ => ?_⟩
            have := hk (by rw [Ne, ni_eq_neg (by omega) (by omega) (by omega)]; exact fun w => w) M3 hM3
            rw [if_neg (by rw [ni_eq_neg (by omega) (by omega) (by omega)]; exact fun w => w)] at this
            exact this
          · refine ⟨fun _ => ?_, fun w => absurd (by decide) w⟩
            refine hb66 _ _ _ ?_
            simp (maxSteps := 2000000) [bk_X7_needs_0, bk_X7_needs_14, bk_X7_needs_43, bk_X7_needs_46, bk_X7_needs_48, bk_X7_needs_66, bk_X7_needs_75, bk_X7_needs_81, pm_arr, pm_call, pm_e_c0, pm_e_c1, pm_e_cti, pm_e_ctl, pm_e_ctr, pm_e_go, pm_e_i, pm_e_ii, pm_e_ldi, pm_e_ldr, pm_e_lk, pm_e_r, pm_e_ri, pm_e_rm0, pm_e_rm1, pm_e_rs0, pm_e_rs1, pm_e_wp0, pm_e_wp1, pm_f2, pm_f3, pm_fld, pm_fv, pm_obj, pm_recv, pm_s_aload_n, pm_s_bipush, pm_s_getfield, pm_s_goto, pm_s_iaload, pm_s_iconst, pm_s_ifCond_eq, pm_s_ifCond_lt, pm_s_ifCond_ne, pm_s_if_icmp_gt, pm_s_if_icmp_lt, pm_s_if_icmp_ne, pm_s_iinc, pm_s_iload_n, pm_s_invokestatic, pm_s_invokevirtual, pm_s_ireturn, pm_s_istore_n, pm_s_sipush, ct_X7_needs, tt_X7_in, tt_X7_cards, pS, pR, pC, pE, pL, -Int32.not_le, -Int32.not_lt, -Int64.not_le, -Int64.not_lt, -List.getD_eq_getElem?_getD]
            refine ⟨fun _ => ?_, fun w => absurd w (by decide)⟩
            refine hb75 _ _ _ ?_
            simp (maxSteps := 2000000) [bk_X7_needs_0, bk_X7_needs_14, bk_X7_needs_43, bk_X7_needs_46, bk_X7_needs_48, bk_X7_needs_66, bk_X7_needs_75, bk_X7_needs_81, pm_arr, pm_call, pm_e_c0, pm_e_c1, pm_e_cti, pm_e_ctl, pm_e_ctr, pm_e_go, pm_e_i, pm_e_ii, pm_e_ldi, pm_e_ldr, pm_e_lk, pm_e_r, pm_e_ri, pm_e_rm0, pm_e_rm1, pm_e_rs0, pm_e_rs1, pm_e_wp0, pm_e_wp1, pm_f2, pm_f3, pm_fld, pm_fv, pm_obj, pm_recv, pm_s_aload_n, pm_s_bipush, pm_s_getfield, pm_s_goto, pm_s_iaload, pm_s_iconst, pm_s_ifCond_eq, pm_s_ifCond_lt, pm_s_ifCond_ne, pm_s_if_icmp_gt, pm_s_if_icmp_lt, pm_s_if_icmp_ne, pm_s_iinc, pm_s_iload_n, pm_s_invokestatic, pm_s_invokevirtual, pm_s_ireturn, pm_s_istore_n, pm_s_sipush, ct_X7_needs, tt_X7_in, tt_X7_cards, pS, pR, pC, pE, pL, -Int32.not_le, -Int32.not_lt, -Int64.not_le, -Int64.not_lt, -List.getD_eq_getElem?_getD]
            rw [ni_add]
            exact hx rfl M3 f3'
          · refine ⟨fun _ => ?_, fun w => absurd (by decide) w⟩
            refine hb66 _ _ _ ?_
            simp (maxSteps := 2000000) [bk_X7_needs_0, bk_X7_needs_14, bk_X7_needs_43, bk_X7_needs_46, bk_X7_needs_48, bk_X7_needs_66, bk_X7_needs_75, bk_X7_needs_81, pm_arr, pm_call, pm_e_c0, pm_e_c1, pm_e_cti, pm_e_ctl, pm_e_ctr, pm_e_go, pm_e_i, pm_e_ii, pm_e_ldi, pm_e_ldr, pm_e_lk, pm_e_r, pm_e_ri, pm_e_rm0, pm_e_rm1, pm_e_rs0, pm_e_rs1, pm_e_wp0, pm_e_wp1, pm_f2, pm_f3, pm_fld, pm_fv, pm_obj, pm_recv, pm_s_aload_n, pm_s_bipush, pm_s_getfield, pm_s_goto, pm_s_iaload, pm_s_iconst, pm_s_ifCond_eq, pm_s_ifCond_lt, pm_s_ifCond_ne, pm_s_if_icmp_gt, pm_s_if_icmp_lt, pm_s_if_icmp_ne, pm_s_iinc, pm_s_iload_n, pm_s_invokestatic, pm_s_invokevirtual, pm_s_ireturn, pm_s_istore_n, pm_s_sipush, ct_X7_needs, tt_X7_in, tt_X7_cards, pS, pR, pC, pE, pL, -Int32.not_le, -Int32.not_lt, -Int64.not_le, -Int64.not_lt, -List.getD_eq_getElem?_getD]
            have := hk (by decide) M3 hM3
            rw [if_pos rfl] at this
            exact this
        refine hb46 _ _ _ ?_
        simp (maxSteps := 2000000) [bk_X7_needs_0, bk_X7_needs_14, bk_X7_needs_43, bk_X7_needs_46, bk_X7_needs_48, bk_X7_needs_66, bk_X7_needs_75, bk_X7_needs_81, pm_arr, pm_call, pm_e_c0, pm_e_c1, pm_e_cti, pm_e_ctl, pm_e_ctr, pm_e_go, pm_e_i, pm_e_ii, pm_e_ldi, pm_e_ldr, pm_e_lk, pm_e_r, pm_e_ri, pm_e_rm0, pm_e_rm1, pm_e_rs0, pm_e_rs1, pm_e_wp0, pm_e_wp1, pm_f2, pm_f3, pm_fld, pm_fv, pm_obj, pm_recv, pm_s_aload_n, pm_s_bipush, pm_s_getfield, pm_s_goto, pm_s_iaload, pm_s_iconst, pm_s_ifCond_eq, pm_s_ifCond_lt, pm_s_ifCond_ne, pm_s_if_icmp_gt, pm_s_if_icmp_lt, pm_s_if_icmp_ne, pm_s_iinc, pm_s_iload_n, pm_s_invokestatic, pm_s_invokevirtual, pm_s_ireturn, pm_s_istore_n, pm_s_sipush, ct_X7_needs, tt_X7_in, tt_X7_cards, pS, pR, pC, pE, pL, -Int32.not_le, -Int32.not_lt, -Int64.not_le, -Int64.not_lt, -List.getD_eq_getElem?_getD]
        refine one 0 M (by omega) yfr.rfl (fun q M' hM' => ?_) (fun q M' f' => ?_)
        · rw [if_pos q] at hT; exact hT M' hM'
        · rw [if_neg (fun w => w q)] at hT
          refine one 1 M' (by omega) f' (fun q M' hM' => ?_) (fun q M' f' => ?_)
          · rw [if_pos q] at hT; exact hT M' hM'
          · rw [if_neg (fun w => w q)] at hT
            refine one 2 M' (by omega) f' (fun q M' hM' => ?_) (fun q M' f' => ?_)
            · rw [if_pos q] at hT; exact hT M' hM'
            · rw [if_neg (fun w => w q)] at hT
              refine hb48 _ _ _ ?_
              simp (maxSteps := 2000000) [bk_X7_needs_0, bk_X7_needs_14, bk_X7_needs_43, bk_X7_needs_46, bk_X7_needs_48, bk_X7_needs_66, bk_X7_needs_75, bk_X7_needs_81, pm_arr, pm_call, pm_e_c0, pm_e_c1, pm_e_cti, pm_e_ctl, pm_e_ctr, pm_e_go, pm_e_i, pm_e_ii, pm_e_ldi, pm_e_ldr, pm_e_lk, pm_e_r, pm_e_ri, pm_e_rm0, pm_e_rm1, pm_e_rs0, pm_e_rs1, pm_e_wp0, pm_e_wp1, pm_f2, pm_f3, pm_fld, pm_fv, pm_obj, pm_recv, pm_s_aload_n, pm_s_bipush, pm_s_getfield, pm_s_goto, pm_s_iaload, pm_s_iconst, pm_s_ifCond_eq, pm_s_ifCond_lt, pm_s_ifCond_ne, pm_s_if_icmp_gt, pm_s_if_icmp_lt, pm_s_if_icmp_ne, pm_s_iinc, pm_s_iload_n, pm_s_invokestatic, pm_s_invokevirtual, pm_s_ireturn, pm_s_istore_n, pm_s_sipush, ct_X7_needs, tt_X7_in, tt_X7_cards, pS, pR, pC, pE, pL, -Int32.not_le, -Int32.not_lt, -Int64.not_le, -Int64.not_lt, -List.getD_eq_getElem?_getD, sy_0]
              refine ⟨fun _ => ?_, fun w => absurd (by decide) w⟩
              refine hb81 _ _ _ ?_
              simp (maxSteps := 2000000) [bk_X7_needs_0, bk_X7_needs_14, bk_X7_needs_43, bk_X7_needs_46, bk_X7_needs_48, bk_X7_needs_66, bk_X7_needs_75, bk_X7_needs_81, pm_arr, pm_call, pm_e_c0, pm_e_c1, pm_e_cti, pm_e_ctl, pm_e_ctr, pm_e_go, pm_e_i, pm_e_ii, pm_e_ldi, pm_e_ldr, pm_e_lk, pm_e_r, pm_e_ri, pm_e_rm0, pm_e_rm1, pm_e_rs0, pm_e_rs1, pm_e_wp0, pm_e_wp1, pm_f2, pm_f3, pm_fld, pm_fv, pm_obj, pm_recv, pm_s_aload_n, pm_s_bipush, pm_s_getfield, pm_s_goto, pm_s_iaload, pm_s_iconst, pm_s_ifCond_eq, pm_s_ifCond_lt, pm_s_ifCond_ne, pm_s_if_icmp_gt, pm_s_if_icmp_lt, pm_s_if_icmp_ne, pm_s_iinc, pm_s_iload_n, pm_s_invokestatic, pm_s_invokevirtual, pm_s_ireturn, pm_s_istore_n, pm_s_sipush, ct_X7_needs, tt_X7_in, tt_X7_cards, pS, pR, pC, pE, pL, -Int32.not_le, -Int32.not_lt, -Int64.not_le, -Int64.not_lt, -List.getD_eq_getElem?_getD]
              exact hT M' (hM.scr f' (by decide) (by decide))
      have c0 := hS.e (show 0 < 2 by decide)
      have c1 := hS.e (show 1 < 2 by decide)
      have ll : (nI (lcn A) < nI (pS (aP A) * pR (aP A))) = (alL A = false) := by
        rw [ni_lt (by omega) (by omega)]
        refine propext ⟨fun w => ?_, fun w => ?_⟩
        · exact decide_eq_false (by omega)
        · have := of_decide_eq_false w; omega
      refine hb14 _ _ _ ?_
      simp (maxSteps := 2000000) [bk_X7_needs_0, bk_X7_needs_14, bk_X7_needs_43, bk_X7_needs_46, bk_X7_needs_48, bk_X7_needs_66, bk_X7_needs_75, bk_X7_needs_81, pm_arr, pm_call, pm_e_c0, pm_e_c1, pm_e_cti, pm_e_ctl, pm_e_ctr, pm_e_go, pm_e_i, pm_e_ii, pm_e_ldi, pm_e_ldr, pm_e_lk, pm_e_r, pm_e_ri, pm_e_rm0, pm_e_rm1, pm_e_rs0, pm_e_rs1, pm_e_wp0, pm_e_wp1, pm_f2, pm_f3, pm_fld, pm_fv, pm_obj, pm_recv, pm_s_aload_n, pm_s_bipush, pm_s_getfield, pm_s_goto, pm_s_iaload, pm_s_iconst, pm_s_ifCond_eq, pm_s_ifCond_lt, pm_s_ifCond_ne, pm_s_if_icmp_gt, pm_s_if_icmp_lt, pm_s_if_icmp_ne, pm_s_iinc, pm_s_iload_n, pm_s_invokestatic, pm_s_invokevirtual, pm_s_ireturn, pm_s_istore_n, pm_s_sipush, ct_X7_needs, tt_X7_in, tt_X7_cards, pS, pR, pC, pE, pL, -Int32.not_le, -Int32.not_lt, -Int64.not_le, -Int64.not_lt, -List.getD_eq_getElem?_getD, sy_0, sy_4, m0, m1, h5']
      rw [ni_mul, ll, show (nI 0).toNatClampNeg = 0 from rfl, show (nI 1).toNatClampNeg = 1 from rfl, c0, c1, cd_z hP (hI.2 0 (by decide)), cd_z hP (hI.2 1 (by decide))]
      refine ⟨fun q => h43 (by rw [q]; rfl), fun q => ⟨(by rw [ni_in (by omega)]; omega), fun y => h43 (by rw [decide_eq_false y]; simp), fun y => ⟨(by rw [ni_in (by omega)]; omega), fun w => h46 ?_ y w, fun w => h43 (by rw [decide_eq_false w]; simp)⟩⟩⟩
      simpa using q
  · exact hT.elim
