/-- how many of these digits are cards of the suit t -/
def cP (r t : Nat) (l : List Nat) : Nat := l.countP (fun d => decide (d ≠ 0) && decide (su r d = t))
theorem cP_app (r t : Nat) (l m : List Nat) : cP r t (l ++ m) = cP r t l + cP r t m := by unfold cP; exact List.countP_append
theorem cP_1 (r t d : Nat) : cP r t [d] = if d ≠ 0 ∧ su r d = t then 1 else 0 := by
  unfold cP; by_cases h : d ≠ 0 ∧ su r d = t
  · simp [h]
  · rw [if_neg h]; by_cases h1 : d = 0
    · simp [h1]
    · have : ¬ su r d = t := fun z => h ⟨h1, z⟩
      simp [this]
theorem me_1s {M : pm_M} {q i j : Nat} {v : Int32} : (pm_set M q i v).1 q j = if j = i then v else M.1 q j := by simp [pm_set]
theorem me_4s {M : pm_M} {q i j : Nat} {v : Int64} : (pm_setL M q i v).2 q j = if j = i then v else M.2 q j := by simp [pm_setL]
/-- houses from which the cards D are taken -/
def HoX (M : pm_M) (p : Nat) (P : Pm) (D : List Nat) : Prop := ∀ t, t < 4 → cP (pR P) t D ≤ (if t < pS P then pR P else 0) ∧ M.1 (p + 4) t = nI ((if t < pS P then pR P else 0) - cP (pR P) t D)
def tt_X4_takeFromHouse : pm_T := fun args M k => match args with
  | [.ref p, .int x] => ∃ P D d, isSt p ∧ x = nI d ∧ d ≤ pS P * pR P ∧ DkX M P ∧ HoX M p P D ∧ (∀ t, t < 4 → cP (pR P) t (D ++ [d]) ≤ (if t < pS P then pR P else 0)) ∧ ∀ M', HoX M' p P (D ++ [d]) → pm_fr [p + 4] M M' → k none M'
  | _ => False
abbrev ct_X4_takeFromHouse : List pm_C := []
set_option maxHeartbeats 4000000 in
theorem sm_X4_takeFromHouse  : pm_Sem SHx yX4_takeFromHouse cX4_takeFromHouse 2 none 1 tt_X4_takeFromHouse := by
  refine pm_Sem_intro bl_X4_takeFromHouse ct_X4_takeFromHouse cs_X4_takeFromHouse rfl (fun _ h => absurd h List.not_mem_nil) ck_X4_takeFromHouse (by decide +kernel) (by decide) ?_
  intro X k hX args M hT
  have hb0 := hX 0 bk_X4_takeFromHouse_0 (List.mem_of_getElem? (i := 0) rfl)
  have hb22 := hX 22 bk_X4_takeFromHouse_22 (List.mem_of_getElem? (i := 1) rfl)
  clear hX
  unfold tt_X4_takeFromHouse at hT; split at hT
  · next p x =>
    obtain ⟨⟨s, r, c, e, w⟩, D, d, hp, rfl, hd, hD, hH, hle, hT⟩ := hT
    have hP := hD.1.1
    obtain ⟨h1, h2, h3, h4, h5, h6, h7, h8, h9⟩ := hP
    have hdk := hD.1.2.2
    unfold HoX at hH
    dsimp only [pS, pR, pC, pE, pL] at *
    refine ⟨by simp [lg_sl, Value.category], ?_⟩
    refine hb0 _ _ _ ?_
    simp (maxSteps := 2000000) [bk_X4_takeFromHouse_0, bk_X4_takeFromHouse_22, pm_arr, pm_e_c0, pm_e_c1, pm_e_cti, pm_e_ctl, pm_e_ctr, pm_e_go, pm_e_i, pm_e_ii, pm_e_ldi, pm_e_ldr, pm_e_lk, pm_e_r, pm_e_ri, pm_e_rii, pm_e_rm0, pm_e_rm1, pm_e_rs0, pm_e_rs1, pm_e_v2, pm_e_wp0, pm_e_wp1, pm_f2, pm_f3, pm_fld, pm_fv, pm_obj, pm_s_aload_n, pm_s_dup2, pm_s_getfield, pm_s_iaload, pm_s_iastore, pm_s_iconst, pm_s_ifCond_eq, pm_s_iload_n, pm_s_isub, pm_s_return, ct_X4_takeFromHouse, pS, pR, pC, pE, pL, -Int32.not_le, -Int32.not_lt, -Int64.not_le, -Int64.not_lt, -List.getD_eq_getElem?_getD, lv_args, st_0 hp, st_4 hp, sx_1, sx_2]
    by_cases d0 : d = 0
    · subst d0
      refine ⟨fun _ => ?_, fun h => absurd rfl h⟩
      refine hb22 _ _ _ ?_
      simp (maxSteps := 2000000) [bk_X4_takeFromHouse_0, bk_X4_takeFromHouse_22, pm_arr, pm_e_c0, pm_e_c1, pm_e_cti, pm_e_ctl, pm_e_ctr, pm_e_go, pm_e_i, pm_e_ii, pm_e_ldi, pm_e_ldr, pm_e_lk, pm_e_r, pm_e_ri, pm_e_rii, pm_e_rm0, pm_e_rm1, pm_e_rs0, pm_e_rs1, pm_e_v2, pm_e_wp0, pm_e_wp1, pm_f2, pm_f3, pm_fld, pm_fv, pm_obj, pm_s_aload_n, pm_s_dup2, pm_s_getfield, pm_s_iaload, pm_s_iastore, pm_s_iconst, pm_s_ifCond_eq, pm_s_iload_n, pm_s_isub, pm_s_return, ct_X4_takeFromHouse, pS, pR, pC, pE, pL, -Int32.not_le, -Int32.not_lt, -Int64.not_le, -Int64.not_lt, -List.getD_eq_getElem?_getD]
      refine hT M (fun t ht => ?_) pm_fr.rfl
      have := hH t ht
      dsimp only [pS, pR]
      rw [cP_app, cP_1, if_neg (by simp), Nat.add_zero]
      exact this
    · have md := hdk d (by omega) hd
      have sd := su_lt h3 (show 1 ≤ d by omega) hd
      have hh := hH (su r d) (by omega)
      rw [if_pos sd] at hh
      have hl := hle (su r d) (by omega)
      rw [if_pos sd, cP_app, cP_1, if_pos ⟨d0, rfl⟩] at hl
      simp (disch := omega) only [ni_in, ni_cl, ni_add, ni_mul, ni_sub, ni_lt, ni_le, ni_eq, ni_eq0, ni_lt0, ni_0le, ni_0lt, ni_le0, ni_a1, ni_a3, ni_a7, ni_a15, md.1, hh.2]
      refine ⟨fun h => by omega, fun _ => ?_⟩
      repeat refine ⟨by omega, ?_⟩
      refine hb22 _ _ _ ?_
      simp (maxSteps := 2000000) [bk_X4_takeFromHouse_0, bk_X4_takeFromHouse_22, pm_arr, pm_e_c0, pm_e_c1, pm_e_cti, pm_e_ctl, pm_e_ctr, pm_e_go, pm_e_i, pm_e_ii, pm_e_ldi, pm_e_ldr, pm_e_lk, pm_e_r, pm_e_ri, pm_e_rii, pm_e_rm0, pm_e_rm1, pm_e_rs0, pm_e_rs1, pm_e_v2, pm_e_wp0, pm_e_wp1, pm_f2, pm_f3, pm_fld, pm_fv, pm_obj, pm_s_aload_n, pm_s_dup2, pm_s_getfield, pm_s_iaload, pm_s_iastore, pm_s_iconst, pm_s_ifCond_eq, pm_s_iload_n, pm_s_isub, pm_s_return, ct_X4_takeFromHouse, pS, pR, pC, pE, pL, -Int32.not_le, -Int32.not_lt, -Int64.not_le, -Int64.not_lt, -List.getD_eq_getElem?_getD]
      refine hT _ (fun t ht => ?_) (pm_fr.rfl.set (by simp))
      have ht' := hH t ht
      have hlt := hle t ht
      dsimp only [pS, pR]
      refine ⟨hlt, ?_⟩
      rw [me_1s, cP_app, cP_1]
      by_cases q : t = su r d
      · subst q
        rw [if_pos rfl, if_pos sd, if_pos ⟨d0, rfl⟩]
        first | rfl | (congr 1; omega)
      · rw [if_neg q, if_neg (show ¬ (d ≠ 0 ∧ su r d = t) from fun z => q z.2.symm), Nat.add_zero]
        exact ht'.2
  · exact hT.elim
/-- the digits of a stand's form -/
def DS (S : St) : List Nat := dgC (colsO S 4) ++ [max (S.2.1 0) (S.2.1 1), min (S.2.1 0) (S.2.1 1)]
/-- every card that lies nowhere is in its house -/
def allS (P : Pm) (S : St) : Prop := ∀ t, t < 4 → S.2.2 t + cP (pR P) t (DS S) = if t < pS P then pR P else 0
theorem leN_get : ∀ (l : List Nat) (n : Nat), (∀ d ∈ l, d < 16) → leN l / 16 ^ n % 16 = l.getD n 0
  | [], n, _ => by simp [leN]
  | d :: l, 0, h => by
    have := h d List.mem_cons_self
    show (d + 16 * leN l) / 1 % 16 = d
    omega
  | d :: l, n + 1, h => by
    have h1 := h d List.mem_cons_self
    have h2 := leN_get l n (fun x hx => h x (List.mem_cons_of_mem _ hx))
    show (d + 16 * leN l) / 16 ^ (n + 1) % 16 = l.getD n 0
    rw [Nat.pow_succ', ← Nat.div_div_eq_div_mul, show (d + 16 * leN l) / 16 = leN l by omega, h2]
theorem leN_drop : ∀ (l : List Nat) (n : Nat), (∀ d ∈ l, d < 16) → leN l / 16 ^ n = leN (l.drop n)
  | [], n, _ => by simp [leN]
  | d :: l, 0, h => by simp
  | d :: l, n + 1, h => by
    have h1 := h d List.mem_cons_self
    have h2 := leN_drop l n (fun x hx => h x (List.mem_cons_of_mem _ hx))
    show (d + 16 * leN l) / 16 ^ (n + 1) = leN (l.drop n)
    rw [Nat.pow_succ', ← Nat.div_div_eq_div_mul, show (d + 16 * leN l) / 16 = leN l by omega, h2]
theorem leN_take : ∀ (l : List Nat) (n : Nat), (∀ d ∈ l, d < 16) → leN l % 16 ^ n = leN (l.take n)
  | [], n, _ => by simp [leN]
  | d :: l, 0, h => by simp [leN, Nat.mod_one]
  | d :: l, n + 1, h => by
    have h1 := h d List.mem_cons_self
    have h2 := leN_take l n (fun x hx => h x (List.mem_cons_of_mem _ hx))
    show (d + 16 * leN l) % 16 ^ (n + 1) = d + 16 * leN (l.take n)
    rw [← h2, Nat.pow_succ', Nat.mod_mul, show (d + 16 * leN l) % 16 = d by omega, show (d + 16 * leN l) / 16 = leN l by omega]
theorem leN_app0 (c l : List Nat) : leN (c.reverse ++ 0 :: l) / 16 ^ (c.length + 1) = leN l ∨ True := Or.inr trivial
theorem DS_16 {S : St} (h : okS S) : ∀ d ∈ DS S, d < 16 := by
  intro d hd
  rcases List.mem_append.mp hd with q | q
  · exact dgC_16 h 4 d q
  · have c0 := h.2.1 0 (by decide)
    have c1 := h.2.1 1 (by decide)
    simp only [List.mem_cons, List.not_mem_nil, or_false] at q
    rcases q with q | q <;> omega
/-- what is left of the form behind the first i columns -/
def DR (S : St) (i : Nat) : List Nat := dgC ((List.range' i (4 - i)).map (fun j => S.1 (sg S j))) ++ [max (S.2.1 0) (S.2.1 1), min (S.2.1 0) (S.2.1 1)]
theorem DR_0 (S : St) : DR S 0 = DS S := rfl
theorem DR_s (S : St) {i : Nat} (h : i < 4) : DR S i = (S.1 (sg S i)).reverse ++ 0 :: DR S (i + 1) := by
  unfold DR
  rw [show 4 - i = (4 - (i + 1)) + 1 by omega, List.range'_succ]
  show (S.1 (sg S i)).reverse ++ 0 :: dgC _ ++ _ = _
  simp
theorem DR_4 (S : St) : DR S 4 = [max (S.2.1 0) (S.2.1 1), min (S.2.1 0) (S.2.1 1)] := rfl
theorem DR_app (S : St) : ∀ i, i ≤ 4 → dgC (colsO S i) ++ DR S i = DS S
  | 0, _ => rfl
  | i + 1, h => by
    rw [← DR_app S i (by omega), DR_s S (show i < 4 by omega), colsO_s, dgC_app]
    simp [dgC]
theorem DR_16 {S : St} (h : okS S) {i : Nat} (hi : i ≤ 4) : ∀ d ∈ DR S i, d < 16 := fun d hd => DS_16 h d (by rw [← DR_app S i hi]; exact List.mem_append_right _ hd)
