/-! WHICH FORMS LEAD ON -/
theorem run_cat {P : Pm} {ec : Nat} : ∀ (a b : List Nat) {S U V : St}, run P ec a S = some U → run P ec b U = some V → run P ec (a ++ b) S = some V
  | [], b, S, U, V, h1, h2 => by
    have : S = U := Option.some.inj h1
    subst this; exact h2
  | m :: a, b, S, U, V, h1, h2 => by
    have h1' : (if canN P ec S (m / 8) (m % 8) = true then run P ec a (aMv P ec S (m / 8) (m % 8)) else none) = some U := h1
    show (if canN P ec S (m / 8) (m % 8) = true then run P ec (a ++ b) (aMv P ec S (m / 8) (m % 8)) else none) = some V
    by_cases c : canN P ec S (m / 8) (m % 8) = true
    · rw [if_pos c] at h1' ⊢
      exact run_cat a b h1' h2
    · rw [if_neg c] at h1'; cases h1'
/-- from U the end is d - k moves off, by some way -/
def gd (P : Pm) (ec d : Nat) (U : St) (k : Nat) : Prop := ∃ l T, l.length + k = d ∧ run P ec l U = some T ∧ dnS P T
theorem dn_like {P : Pm} {ec : Nat} {S S' : St} (hP : okP P) (h : FW P ec S) (h' : FW P ec S') (e : fkN S = fkN S') (hd : dnS P S) : dnS P S' := by
  unfold dnS at hd ⊢
  rw [← hd]; exact (like_done hP h h' e).symm
theorem gd_like {P : Pm} {ec d : Nat} (hP : okP P) (he : ec ≤ 2) {U U' : St} (h : FW P ec U) (h' : FW P ec U') (e : fkN U = fkN U') {k : Nat} (g : gd P ec d U k) : gd P ec d U' k := by
  obtain ⟨l, T, g1, g2, g3⟩ := g
  obtain ⟨l', T', q1, q2, q3⟩ := bisim_run hP he h h' e g2
  exact ⟨l', T', by omega, q2, dn_like hP (run_fw hP he h g2) (run_fw hP he h' q2) q3 g3⟩
theorem gd_step {P : Pm} {ec d : Nat} (hP : okP P) (he : ec ≤ 2) {U : St} {k : Nat} (hn : ¬ dnS P U) : gd P ec d U k ↔ ∃ m, m < 36 ∧ canN P ec U (m / 6) (m % 6) = true ∧ gd P ec d (aMv P ec U (m / 6) (m % 6)) (k + 1) := by
  constructor
  · rintro ⟨l, T, g1, g2, g3⟩
    cases l with
    | nil =>
      have : U = T := Option.some.inj g2
      exact absurd (this ▸ g3) hn
    | cons c l =>
      have g2' : (if canN P ec U (c / 8) (c % 8) = true then run P ec l (aMv P ec U (c / 8) (c % 8)) else none) = some T := g2
      by_cases hc : canN P ec U (c / 8) (c % 8) = true
      · rw [if_pos hc] at g2'
        have hb := can_b6 hP hc
        have ha := WF.a6 hP he (can_nm hc).1
        refine ⟨6 * (c / 8) + c % 8, by omega, ?_⟩
        rw [show (6 * (c / 8) + c % 8) / 6 = c / 8 by omega, show (6 * (c / 8) + c % 8) % 6 = c % 8 by omega]
        rw [List.length_cons] at g1
        exact ⟨hc, l, T, by omega, g2', g3⟩
      · rw [if_neg hc] at g2'; cases g2'
  · rintro ⟨m, hm, hc, l, T, g1, g2, g3⟩
    obtain ⟨ea, eb⟩ := cd6_e m
    refine ⟨cd6 m :: l, T, by rw [List.length_cons]; omega, ?_, g3⟩
    show (if canN P ec U (cd6 m / 8) (cd6 m % 8) = true then run P ec l (aMv P ec U (cd6 m / 8) (cd6 m % 8)) else none) = some T
    rw [ea, eb, if_pos hc]; exact g2
theorem MK.lead {P : Pm} {ec d n : Nat} {S0 T : St} {R : Nat → St} {lv : Nat → Nat} (hP : okP P) (he : ec ≤ 2) (h0 : FW P ec S0) (hM : MK P ec S0 d n R lv) (hT : FW P ec T) {k : Nat} (hk : k ≤ d) (hr : ∃ l U, l.length = k ∧ run P ec l S0 = some U ∧ fkN U = fkN T) : ((dnS P T ∧ k = d) ∨ (¬ dnS P T ∧ ∃ s, s < n ∧ fkN (R s) = fkN T ∧ lv s = k ∧ gd P ec d (R s) (lv s))) ↔ gd P ec d T k := by
  obtain ⟨m1, m2, m3, m4, m5, -⟩ := hM
  obtain ⟨l0, U, r1, r2, r3⟩ := hr
  have hU := run_fw hP he h0 r2
  constructor
  · rintro (⟨a, b⟩ | ⟨a, s, s1, s2, s3, s4⟩)
    · exact ⟨[], T, by simp; omega, rfl, a⟩
    · rw [s3] at s4
      exact gd_like hP he (m3 s s1).1 hT s2 s4
  · intro g
    by_cases hd : dnS P T
    · refine Or.inl ⟨hd, ?_⟩
      refine Classical.byContradiction (fun q => ?_)
      exact m1 l0 U (by omega) r2 (dn_like hP hT hU r3.symm hd)
    · refine Or.inr ⟨hd, ?_⟩
      obtain ⟨l, V, g1, g2, g3⟩ := id g
      have hl : l ≠ [] := fun e => by
        rw [e] at g2
        have : T = V := Option.some.inj g2
        exact hd (this ▸ g3)
      have hl1 : 1 ≤ l.length := by
        cases l with
        | nil => exact absurd rfl hl
        | cons _ _ => simp
      obtain ⟨s, s1, s2, s3⟩ := m2 l0 U (by omega) r2
      obtain ⟨f1, f2, l2, U2, u1, u2, u3⟩ := m3 s s1
      have hU2 := run_fw hP he h0 u2
      obtain ⟨l', V', q1, q2, q3⟩ := bisim_run hP he hT hU2 (by rw [u3, s2, r3]) g2
      have hge : ¬ lv s < k := fun z => by
        refine m1 (l2 ++ l') V' (by rw [List.length_append]; omega) (run_cat _ _ u2 q2) ?_
        exact dn_like hP (run_fw hP he hT g2) (run_fw hP he hU2 q2) q3 g3
      have hek : lv s = k := by omega
      exact ⟨s, s1, by rw [s2, r3], hek, by rw [hek]; exact gd_like hP he hT f1 (by rw [s2, r3]) g⟩
def tt_X7_leadsOn : pm_T := fun args M k => match args with
  | [.ref 0, .int x, .int y] => ∃ (P : Pm) (ec d n kk : Nat) (R : Nat → St) (lv : Nat → Nat) (g : Nat → Bool) (T : St), x = nI kk ∧ y = nI d ∧ kk ≤ 4001 ∧ d ≤ 4000 ∧ okP P ∧ ec ≤ 2 ∧ TB M P ec n R lv g ∧ (∀ j k, j < n → k < n → fkN (R j) = fkN (R k) → j = k) ∧ FW P ec T ∧ kR M (kyF P ec T) ∧ ∀ b : Bool, (b = true ↔ ((dnS P T ∧ kk = d) ∨ (¬ dnS P T ∧ ∃ s, s < n ∧ fkN (R s) = fkN T ∧ lv s = kk ∧ g s = true))) → k (some (.int (pb b))) M
  | _ => False
abbrev ct_X7_leadsOn : List pm_C := [(false, 213, 7, 1, (some .boolean), tt_X7_isDone), (false, 223, 7, 1, (some .int), tt_X7_place)]
set_option maxHeartbeats 4000000 in
theorem sm_X7_leadsOn  : pm_Sem SHy yX7_leadsOn cX7_leadsOn 4 (some .boolean) 3 tt_X7_leadsOn := by
  refine pm_Sem_intro bl_X7_leadsOn ct_X7_leadsOn cs_X7_leadsOn rfl (List.forall_mem_cons.mpr ⟨⟨_, _, _, _, sm_X7_isDone, by decide, cm_X7_isDone, by decide +kernel⟩, List.forall_mem_cons.mpr ⟨⟨_, _, _, _, sm_X7_place, by decide, cm_X7_place, by decide +kernel⟩, fun _ h => absurd h List.not_mem_nil⟩⟩) ck_X7_leadsOn (by decide +kernel) (by decide) ?_
  intro X k hX args M hT
  have hb0 := hX 0 bk_X7_leadsOn_0 (List.mem_of_getElem? (i := 0) rfl)
  have hb16 := hX 16 bk_X7_leadsOn_16 (List.mem_of_getElem? (i := 1) rfl)
  have hb17 := hX 17 bk_X7_leadsOn_17 (List.mem_of_getElem? (i := 2) rfl)
  have hb18 := hX 18 bk_X7_leadsOn_18 (List.mem_of_getElem? (i := 3) rfl)
  have hb69 := hX 69 bk_X7_leadsOn_69 (List.mem_of_getElem? (i := 4) rfl)
  have hb70 := hX 70 bk_X7_leadsOn_70 (List.mem_of_getElem? (i := 5) rfl)
  clear hX
  unfold tt_X7_leadsOn at hT; split at hT
  · next x y =>
    obtain ⟨P, ec, d, n, kk, R, lv, g, T, rfl, rfl, hk, hd, hP, he, hB, hinj, hF, hK, hT⟩ := hT
    refine ⟨by simp [lg_sl, Value.category], ?_⟩
    have h17 : ∀ b : Bool, (b = true ↔ kk = d) → dnS P T → X 17 [] [.int (pb b)] M := by
      intro b hb hdn
      refine hb17 _ _ _ ?_
      simp (maxSteps := 2000000) [bk_X7_leadsOn_0, bk_X7_leadsOn_16, bk_X7_leadsOn_17, bk_X7_leadsOn_18, bk_X7_leadsOn_69, bk_X7_leadsOn_70, pm_arr, pm_call, pm_e_c0, pm_e_c1, pm_e_cti, pm_e_ctl, pm_e_ctr, pm_e_go, pm_e_i, pm_e_ii, pm_e_ldi, pm_e_ldr, pm_e_lk, pm_e_r, pm_e_ri, pm_e_rm0, pm_e_rm1, pm_e_rs0, pm_e_rs1, pm_e_wp0, pm_e_wp1, pm_f2, pm_f3, pm_fld, pm_fv, pm_obj, pm_recv, pm_s_aload_n, pm_s_baload, pm_s_getfield, pm_s_goto, pm_s_iaload, pm_s_iconst, pm_s_ifCond_eq, pm_s_if_icmp_ne, pm_s_iload_n, pm_s_invokevirtual, pm_s_ireturn, pm_s_istore_n, pm_s_isub, pm_s_saload, ct_X7_leadsOn, pS, pR, pC, pE, pL, -Int32.not_le, -Int32.not_lt, -Int64.not_le, -Int64.not_lt, -List.getD_eq_getElem?_getD, pb_01]
      exact hT b (hb.trans ⟨fun q => Or.inl ⟨hdn, q⟩, fun q => q.elim (fun w => w.2) (fun w => absurd hdn w.1)⟩)
    have h70 : ∀ b : Bool, (b = true ↔ ∃ s, s < n ∧ fkN (R s) = fkN T ∧ lv s = kk ∧ g s = true) → ¬ dnS P T → X 70 [] [.int (pb b)] M := by
      intro b hb hdn
      refine hb70 _ _ _ ?_
      simp (maxSteps := 2000000) [bk_X7_leadsOn_0, bk_X7_leadsOn_16, bk_X7_leadsOn_17, bk_X7_leadsOn_18, bk_X7_leadsOn_69, bk_X7_leadsOn_70, pm_arr, pm_call, pm_e_c0, pm_e_c1, pm_e_cti, pm_e_ctl, pm_e_ctr, pm_e_go, pm_e_i, pm_e_ii, pm_e_ldi, pm_e_ldr, pm_e_lk, pm_e_r, pm_e_ri, pm_e_rm0, pm_e_rm1, pm_e_rs0, pm_e_rs1, pm_e_wp0, pm_e_wp1, pm_f2, pm_f3, pm_fld, pm_fv, pm_obj, pm_recv, pm_s_aload_n, pm_s_baload, pm_s_getfield, pm_s_goto, pm_s_iaload, pm_s_iconst, pm_s_ifCond_eq, pm_s_if_icmp_ne, pm_s_iload_n, pm_s_invokevirtual, pm_s_ireturn, pm_s_istore_n, pm_s_isub, pm_s_saload, ct_X7_leadsOn, pS, pR, pC, pE, pL, -Int32.not_le, -Int32.not_lt, -Int64.not_le, -Int64.not_lt, -List.getD_eq_getElem?_getD, pb_01]
      exact hT b (hb.trans ⟨fun q => Or.inr ⟨hdn, q⟩, fun q => q.elim (fun w => absurd w.1 hdn) (fun w => w.2)⟩)
    have h69 : (¬ ∃ s, s < n ∧ fkN (R s) = fkN T ∧ lv s = kk ∧ g s = true) → ¬ dnS P T → X 69 [] [] M := by
      intro h hdn
      refine hb69 _ _ _ ?_
      simp (maxSteps := 2000000) [bk_X7_leadsOn_0, bk_X7_leadsOn_16, bk_X7_leadsOn_17, bk_X7_leadsOn_18, bk_X7_leadsOn_69, bk_X7_leadsOn_70, pm_arr, pm_call, pm_e_c0, pm_e_c1, pm_e_cti, pm_e_ctl, pm_e_ctr, pm_e_go, pm_e_i, pm_e_ii, pm_e_ldi, pm_e_ldr, pm_e_lk, pm_e_r, pm_e_ri, pm_e_rm0, pm_e_rm1, pm_e_rs0, pm_e_rs1, pm_e_wp0, pm_e_wp1, pm_f2, pm_f3, pm_fld, pm_fv, pm_obj, pm_recv, pm_s_aload_n, pm_s_baload, pm_s_getfield, pm_s_goto, pm_s_iaload, pm_s_iconst, pm_s_ifCond_eq, pm_s_if_icmp_ne, pm_s_iload_n, pm_s_invokevirtual, pm_s_ireturn, pm_s_istore_n, pm_s_isub, pm_s_saload, ct_X7_leadsOn, pS, pR, pC, pE, pL, -Int32.not_le, -Int32.not_lt, -Int64.not_le, -Int64.not_lt, -List.getD_eq_getElem?_getD]
      exact h70 false ⟨fun q => absurd q (by decide), fun q => absurd q h⟩ hdn
    refine hb0 _ _ _ ?_
    simp (maxSteps := 2000000) [bk_X7_leadsOn_0, bk_X7_leadsOn_16, bk_X7_leadsOn_17, bk_X7_leadsOn_18, bk_X7_leadsOn_69, bk_X7_leadsOn_70, pm_arr, pm_call, pm_e_c0, pm_e_c1, pm_e_cti, pm_e_ctl, pm_e_ctr, pm_e_go, pm_e_i, pm_e_ii, pm_e_ldi, pm_e_ldr, pm_e_lk, pm_e_r, pm_e_ri, pm_e_rm0, pm_e_rm1, pm_e_rs0, pm_e_rs1, pm_e_wp0, pm_e_wp1, pm_f2, pm_f3, pm_fld, pm_fv, pm_obj, pm_recv, pm_s_aload_n, pm_s_baload, pm_s_getfield, pm_s_goto, pm_s_iaload, pm_s_iconst, pm_s_ifCond_eq, pm_s_if_icmp_ne, pm_s_iload_n, pm_s_invokevirtual, pm_s_ireturn, pm_s_istore_n, pm_s_isub, pm_s_saload, ct_X7_leadsOn, pS, pR, pC, pE, pL, -Int32.not_le, -Int32.not_lt, -Int64.not_le, -Int64.not_lt, -List.getD_eq_getElem?_getD, lv_args, sy_0]
    refine ⟨P, ec, T, hP, hF, hK, ?_⟩
    simp (maxSteps := 2000000) [bk_X7_leadsOn_0, bk_X7_leadsOn_16, bk_X7_leadsOn_17, bk_X7_leadsOn_18, bk_X7_leadsOn_69, bk_X7_leadsOn_70, pm_arr, pm_call, pm_e_c0, pm_e_c1, pm_e_cti, pm_e_ctl, pm_e_ctr, pm_e_go, pm_e_i, pm_e_ii, pm_e_ldi, pm_e_ldr, pm_e_lk, pm_e_r, pm_e_ri, pm_e_rm0, pm_e_rm1, pm_e_rs0, pm_e_rs1, pm_e_wp0, pm_e_wp1, pm_f2, pm_f3, pm_fld, pm_fv, pm_obj, pm_recv, pm_s_aload_n, pm_s_baload, pm_s_getfield, pm_s_goto, pm_s_iaload, pm_s_iconst, pm_s_ifCond_eq, pm_s_if_icmp_ne, pm_s_iload_n, pm_s_invokevirtual, pm_s_ireturn, pm_s_istore_n, pm_s_isub, pm_s_saload, ct_X7_leadsOn, pS, pR, pC, pE, pL, -Int32.not_le, -Int32.not_lt, -Int64.not_le, -Int64.not_lt, -List.getD_eq_getElem?_getD, pb_eq0]
    refine ⟨fun hdn => ?_, fun hdn => ?_⟩
    · have hnd : ¬ dnS P T := dnB_f hdn
      refine hb18 _ _ _ ?_
      simp (maxSteps := 2000000) [bk_X7_leadsOn_0, bk_X7_leadsOn_16, bk_X7_leadsOn_17, bk_X7_leadsOn_18, bk_X7_leadsOn_69, bk_X7_leadsOn_70, pm_arr, pm_call, pm_e_c0, pm_e_c1, pm_e_cti, pm_e_ctl, pm_e_ctr, pm_e_go, pm_e_i, pm_e_ii, pm_e_ldi, pm_e_ldr, pm_e_lk, pm_e_r, pm_e_ri, pm_e_rm0, pm_e_rm1, pm_e_rs0, pm_e_rs1, pm_e_wp0, pm_e_wp1, pm_f2, pm_f3, pm_fld, pm_fv, pm_obj, pm_recv, pm_s_aload_n, pm_s_baload, pm_s_getfield, pm_s_goto, pm_s_iaload, pm_s_iconst, pm_s_ifCond_eq, pm_s_if_icmp_ne, pm_s_iload_n, pm_s_invokevirtual, pm_s_ireturn, pm_s_istore_n, pm_s_isub, pm_s_saload, ct_X7_leadsOn, pS, pR, pC, pE, pL, -Int32.not_le, -Int32.not_lt, -Int64.not_le, -Int64.not_lt, -List.getD_eq_getElem?_getD, sy_0]
      refine ⟨P, ec, n, R, lv, g, T, hP, he, hB, hF, hK, fun p hp hpl => ?_⟩
      obtain ⟨-, hn4, hrows, -⟩ := id hB
      simp (maxSteps := 2000000) [bk_X7_leadsOn_0, bk_X7_leadsOn_16, bk_X7_leadsOn_17, bk_X7_leadsOn_18, bk_X7_leadsOn_69, bk_X7_leadsOn_70, pm_arr, pm_call, pm_e_c0, pm_e_c1, pm_e_cti, pm_e_ctl, pm_e_ctr, pm_e_go, pm_e_i, pm_e_ii, pm_e_ldi, pm_e_ldr, pm_e_lk, pm_e_r, pm_e_ri, pm_e_rm0, pm_e_rm1, pm_e_rs0, pm_e_rs1, pm_e_wp0, pm_e_wp1, pm_f2, pm_f3, pm_fld, pm_fv, pm_obj, pm_recv, pm_s_aload_n, pm_s_baload, pm_s_getfield, pm_s_goto, pm_s_iaload, pm_s_iconst, pm_s_ifCond_eq, pm_s_if_icmp_ne, pm_s_iload_n, pm_s_invokevirtual, pm_s_ireturn, pm_s_istore_n, pm_s_isub, pm_s_saload, ct_X7_leadsOn, pS, pR, pC, pE, pL, -Int32.not_le, -Int32.not_lt, -Int64.not_le, -Int64.not_lt, -List.getD_eq_getElem?_getD, sy_0, sy_15, sy_16, sy_17]
      rw [ni_in (n := 16384) (by omega), ni_cl (a := p) (by omega)]
      refine ⟨by omega, ?_⟩
      rcases hpl with ⟨s, s1, s2, s3⟩ | ⟨z1, z2, -⟩
      · obtain ⟨c1, c2, c3, c4, c5⟩ := hrows s s1
        have un : (∃ s, s < n ∧ fkN (R s) = fkN T ∧ lv s = kk ∧ g s = true) ↔ (lv s = kk ∧ g s = true) := by
          constructor
          · rintro ⟨t, t1, t2, t3, t4⟩
            have : t = s := hinj t s t1 s1 (by rw [t2, s3])
            subst this; exact ⟨t3, t4⟩
          · rintro ⟨t3, t4⟩
            exact ⟨s, s1, s3, t3, t4⟩
        rw [s2, ni_eq0 (by omega)]
        refine ⟨fun z => by omega, fun _ => ?_⟩
        rw [ni_sub (by omega), Nat.add_sub_cancel, ni_in (n := 4002) (by omega), ni_cl (a := s) (by omega), c3, c5, ni_eq (by omega) (by omega), pb_eq0]
        refine ⟨by omega, by omega, fun z => h69 (fun q => z (un.mp q).1) hnd, fun z => ⟨by omega, by omega, fun y => h69 (fun q => by have := (un.mp q).2; rw [y] at this; cases this) hnd, fun y => h70 true ⟨fun _ => un.mpr ⟨z, by simpa using y⟩, fun _ => rfl⟩ hnd⟩⟩
      · rw [z1, ni_eq0 (by omega)]
        exact ⟨fun _ => h69 (fun ⟨s, q1, q2, _⟩ => z2 s q1 q2) hnd, fun z => absurd rfl z⟩
    · have hd' : dnS P T := dnB_t hdn
      rw [ni_eq (by omega) (by omega)]
      refine ⟨fun z => ?_, fun z => h17 true ⟨fun _ => z, fun _ => rfl⟩ hd'⟩
      refine hb16 _ _ _ ?_
      simp (maxSteps := 2000000) [bk_X7_leadsOn_0, bk_X7_leadsOn_16, bk_X7_leadsOn_17, bk_X7_leadsOn_18, bk_X7_leadsOn_69, bk_X7_leadsOn_70, pm_arr, pm_call, pm_e_c0, pm_e_c1, pm_e_cti, pm_e_ctl, pm_e_ctr, pm_e_go, pm_e_i, pm_e_ii, pm_e_ldi, pm_e_ldr, pm_e_lk, pm_e_r, pm_e_ri, pm_e_rm0, pm_e_rm1, pm_e_rs0, pm_e_rs1, pm_e_wp0, pm_e_wp1, pm_f2, pm_f3, pm_fld, pm_fv, pm_obj, pm_recv, pm_s_aload_n, pm_s_baload, pm_s_getfield, pm_s_goto, pm_s_iaload, pm_s_iconst, pm_s_ifCond_eq, pm_s_if_icmp_ne, pm_s_iload_n, pm_s_invokevirtual, pm_s_ireturn, pm_s_istore_n, pm_s_isub, pm_s_saload, ct_X7_leadsOn, pS, pR, pC, pE, pL, -Int32.not_le, -Int32.not_lt, -Int64.not_le, -Int64.not_lt, -List.getD_eq_getElem?_getD]
      exact h17 false ⟨fun q => absurd q (by decide), fun q => absurd q z⟩ hd'
  · exact hT.elim
def tt_X7_marks : pm_T := fun args M k => match args with
  | [.ref 0, .int x] => ∃ (P : Pm) (S0 : St) (d n : Nat) (R : Nat → St) (lv : Nat → Nat), x = nI d ∧ d ≤ 4000 ∧ DkY M P ∧ TB M P (pE P) n R lv (fun _ => false) ∧ M.1 0 22 = nI (pE P) ∧ FW P (pE P) S0 ∧ MK P (pE P) S0 d n (fun s => cnS P (pE P) (R s)) lv ∧ ∀ M' g, TB M' P (pE P) n R lv g → (∀ s, s < n → (g s = true ↔ gd P (pE P) d (cnS P (pE P) (R s)) (lv s))) → yfr [10, 11, 12, 13, 16, 18, 19] [] M M' → k none M'
  | _ => False
theorem TB.good {M : pm_M} {P : Pm} {ec n : Nat} {R : Nat → St} {lv : Nat → Nat} {g : Nat → Bool} (h : TB M P ec n R lv g) {s : Nat} (b : Bool) : TB (pm_set M 16 s (pb b)) P ec n R lv (up g s b) := by
  obtain ⟨a, c, d, v, e, f⟩ := h
  refine ⟨by rw [me_1, if_neg (by omega)]; exact a, c, fun t ht => ?_, v, fun p hp => by rw [me_1, if_neg (by omega)]; exact e p hp, f⟩
  obtain ⟨c1, c2, c3, c4, c5⟩ := d t ht
  refine ⟨c1, fun j hj => by rw [me_1, if_neg (by omega)]; exact c2 j hj, by rw [me_1, if_neg (by omega)]; exact c3, c4, ?_⟩
  rw [me_1s]
  by_cases z : t = s
  · rw [if_pos z, z, up_s]
  · rw [if_neg z, up_n _ _ z]; exact c5
abbrev ct_X7_marks : List pm_C := [(false, 176, 7, 4, (some .boolean), tt_X7_isMove), (false, 220, 7, 2, none, tt_X7_trying), (false, 182, 7, 3, (some .int), tt_X7_whyNot), (false, 186, 7, 3, none, tt_X7_doMove), (false, 210, 7, 1, none, tt_X7_makeKey), (false, 226, 7, 3, (some .boolean), tt_X7_leadsOn)]
set_option maxHeartbeats 4000000 in
theorem sm_X7_marks  : pm_Sem SHy yX7_marks cX7_marks 4 none 4 tt_X7_marks := by
  refine pm_Sem_intro bl_X7_marks ct_X7_marks cs_X7_marks rfl (List.forall_mem_cons.mpr ⟨⟨_, _, _, _, sm_X7_isMove, by decide, cm_X7_isMove, by decide +kernel⟩, List.forall_mem_cons.mpr ⟨⟨_, _, _, _, sm_X7_trying, by decide, cm_X7_trying, by decide +kernel⟩, List.forall_mem_cons.mpr ⟨⟨_, _, _, _, sm_X7_whyNot, by decide, cm_X7_whyNot, by decide +kernel⟩, List.forall_mem_cons.mpr ⟨⟨_, _, _, _, sm_X7_doMove, by decide, cm_X7_doMove, by decide +kernel⟩, List.forall_mem_cons.mpr ⟨⟨_, _, _, _, sm_X7_makeKey, by decide, cm_X7_makeKey, by decide +kernel⟩, List.forall_mem_cons.mpr ⟨⟨_, _, _, _, sm_X7_leadsOn, by decide, cm_X7_leadsOn, by decide +kernel⟩, fun _ h => absurd h List.not_mem_nil⟩⟩⟩⟩⟩⟩) ck_X7_marks (by decide +kernel) (by decide) ?_
  intro X k hX args M hT
  have hb0 := hX 0 bk_X7_marks_0 (List.mem_of_getElem? (i := 0) rfl)
  have hb7 := hX 7 bk_X7_marks_7 (List.mem_of_getElem? (i := 1) rfl)
  have hb24 := hX 24 bk_X7_marks_24 (List.mem_of_getElem? (i := 2) rfl)
  have hb26 := hX 26 bk_X7_marks_26 (List.mem_of_getElem? (i := 3) rfl)
  have hb63 := hX 63 bk_X7_marks_63 (List.mem_of_getElem? (i := 4) rfl)
  have hb86 := hX 86 bk_X7_marks_86 (List.mem_of_getElem? (i := 5) rfl)
  have hb121 := hX 121 bk_X7_marks_121 (List.mem_of_getElem? (i := 6) rfl)
  have hb127 := hX 127 bk_X7_marks_127 (List.mem_of_getElem? (i := 7) rfl)
  have hb133 := hX 133 bk_X7_marks_133 (List.mem_of_getElem? (i := 8) rfl)
  clear hX
  unfold tt_X7_marks at hT; split at hT
  · next x =>
    obtain ⟨P, S0, d, n, R, lv, rfl, hd4, hD, hB, h22, h0, hMK, hT⟩ := hT
    have hP := hD.1
    have he : pE P ≤ 2 := hP.2.2.2.2.2.2.2.1
    have hn4 := hB.2.1
    have fkc : ∀ j, j < n → fkN (cnS P (pE P) (R j)) = fkN (R j) := fun j hj => cnS_fk hP he (hB.2.2.1 j hj).1
    have hinj : ∀ j k, j < n → k < n → fkN (R j) = fkN (R k) → j = k := fun j k hj hk e => hMK.2.2.2.2.1 j k hj hk (by rw [fkc j hj, fkc k hk]; exact e)
    refine ⟨by simp [lg_sl, Value.category], ?_⟩
    have loop : ∀ (j : Nat) (M2 : pm_M) (g : Nat → Bool), j ≤ n → TB M2 P (pE P) n R lv g → (∀ s, j ≤ s → s < n → (g s = true ↔ gd P (pE P) d (cnS P (pE P) (R s)) (lv s))) → (∀ s, s < j → g s = false) → yfr [10, 11, 12, 13, 16, 18, 19] [] M M2 → X 7 [(0, .ref 0), (1, .int (nI d)), (2, .int (nI j - nI 1))] [] M2 := by
      intro j
      induction j with
      | zero =>
        intro M2 g hj t2 hg hf f2
        refine hb7 _ _ _ ?_
        simp (maxSteps := 2000000) [bk_X7_marks_0, bk_X7_marks_7, bk_X7_marks_24, bk_X7_marks_26, bk_X7_marks_63, bk_X7_marks_86, bk_X7_marks_121, bk_X7_marks_127, bk_X7_marks_133, pm_arr, pm_call, pm_e_c0, pm_e_c1, pm_e_cti, pm_e_ctl, pm_e_ctr, pm_e_go, pm_e_i, pm_e_ii, pm_e_ldi, pm_e_ldr, pm_e_lk, pm_e_r, pm_e_ri, pm_e_rii, pm_e_rm0, pm_e_rm1, pm_e_rs0, pm_e_rs1, pm_e_wp0, pm_e_wp1, pm_f2, pm_f3, pm_fld, pm_fv, pm_obj, pm_recv, pm_s_aload_n, pm_s_baload, pm_s_bastore, pm_s_bipush, pm_s_getfield, pm_s_goto, pm_s_iadd, pm_s_iconst, pm_s_idiv, pm_s_ifCond_eq, pm_s_ifCond_lt, pm_s_ifCond_ne, pm_s_if_icmp_ge, pm_s_if_icmp_lt, pm_s_iinc, pm_s_iload_n, pm_s_invokevirtual, pm_s_irem, pm_s_istore_n, pm_s_isub, pm_s_return, pm_s_saload, ct_X7_marks, pS, pR, pC, pE, pL, -Int32.not_le, -Int32.not_lt, -Int64.not_le, -Int64.not_lt, -List.getD_eq_getElem?_getD, sy_0, n6]
        refine ⟨fun _ => ?_, fun q => absurd (by decide) q⟩
        refine hb133 _ _ _ ?_
        simp (maxSteps := 2000000) [bk_X7_marks_0, bk_X7_marks_7, bk_X7_marks_24, bk_X7_marks_26, bk_X7_marks_63, bk_X7_marks_86, bk_X7_marks_121, bk_X7_marks_127, bk_X7_marks_133, pm_arr, pm_call, pm_e_c0, pm_e_c1, pm_e_cti, pm_e_ctl, pm_e_ctr, pm_e_go, pm_e_i, pm_e_ii, pm_e_ldi, pm_e_ldr, pm_e_lk, pm_e_r, pm_e_ri, pm_e_rii, pm_e_rm0, pm_e_rm1, pm_e_rs0, pm_e_rs1, pm_e_wp0, pm_e_wp1, pm_f2, pm_f3, pm_fld, pm_fv, pm_obj, pm_recv, pm_s_aload_n, pm_s_baload, pm_s_bastore, pm_s_bipush, pm_s_getfield, pm_s_goto, pm_s_iadd, pm_s_iconst, pm_s_idiv, pm_s_ifCond_eq, pm_s_ifCond_lt, pm_s_ifCond_ne, pm_s_if_icmp_ge, pm_s_if_icmp_lt, pm_s_iinc, pm_s_iload_n, pm_s_invokevirtual, pm_s_irem, pm_s_istore_n, pm_s_isub, pm_s_return, pm_s_saload, ct_X7_marks, pS, pR, pC, pE, pL, -Int32.not_le, -Int32.not_lt, -Int64.not_le, -Int64.not_lt, -List.getD_eq_getElem?_getD, n6]
        exact hT M2 g t2 (fun s hs => hg s (by omega) hs) f2
      | succ s ih =>
        intro M2 g hj t2 hg hf f2
        rw [ni_sub (by omega), Nat.add_sub_cancel]
        obtain ⟨qF, qn, l0, U0, u1, u2, u3⟩ := hMK.2.2.1 s (by omega)
        have qO := qF.ok hP
        have gf := hf s (by omega)
        -- behind the stand
        have h127 : ∀ (M3 : pm_M) (b : Bool), TB M3 P (pE P) n R lv (up g s b) → (b = true ↔ gd P (pE P) d (cnS P (pE P) (R s)) (lv s)) → yfr [10, 11, 12, 13, 16, 18, 19] [] M M3 → X 127 [(0, .ref 0), (1, .int (nI d)), (2, .int (nI s))] [] M3 := by
          intro M3 b t3 hb f3
          refine hb127 _ _ _ ?_
          simp (maxSteps := 2000000) [bk_X7_marks_0, bk_X7_marks_7, bk_X7_marks_24, bk_X7_marks_26, bk_X7_marks_63, bk_X7_marks_86, bk_X7_marks_121, bk_X7_marks_127, bk_X7_marks_133, pm_arr, pm_call, pm_e_c0, pm_e_c1, pm_e_cti, pm_e_ctl, pm_e_ctr, pm_e_go, pm_e_i, pm_e_ii, pm_e_ldi, pm_e_ldr, pm_e_lk, pm_e_r, pm_e_ri, pm_e_rii, pm_e_rm0, pm_e_rm1, pm_e_rs0, pm_e_rs1, pm_e_wp0, pm_e_wp1, pm_f2, pm_f3, pm_fld, pm_fv, pm_obj, pm_recv, pm_s_aload_n, pm_s_baload, pm_s_bastore, pm_s_bipush, pm_s_getfield, pm_s_goto, pm_s_iadd, pm_s_iconst, pm_s_idiv, pm_s_ifCond_eq, pm_s_ifCond_lt, pm_s_ifCond_ne, pm_s_if_icmp_ge, pm_s_if_icmp_lt, pm_s_iinc, pm_s_iload_n, pm_s_invokevirtual, pm_s_irem, pm_s_istore_n, pm_s_isub, pm_s_return, pm_s_saload, ct_X7_marks, pS, pR, pC, pE, pL, -Int32.not_le, -Int32.not_lt, -Int64.not_le, -Int64.not_lt, -List.getD_eq_getElem?_getD, n6]
          rw [← Int32.sub_eq_add_neg]
          refine ih M3 (up g s b) (by omega) t3 (fun q h1 h2 => ?_) (fun q h1 => ?_) f3
          · by_cases z : q = s
            · rw [z, up_s]; exact hb
            · rw [up_n _ _ z]; exact hg q (by omega) h2
          · rw [up_n _ _ (by omega)]; exact hf q (by omega)
        have upf : up g s false = g := by
          funext q; unfold up; split
          · next z => rw [z, gf]
          · rfl
        have lvs := (t2.2.2.1 s (by omega)).2.2.1
        have lv4 := (t2.2.2.1 s (by omega)).2.2.2.1
        have h24 : lv s < d → X 24 [(0, .ref 0), (1, .int (nI d)), (2, .int (nI s))] [] M2 := by
          intro hlv
          have inner : ∀ (q mm : Nat) (M3 : pm_M) (b : Bool), 36 ≤ mm + q → mm ≤ 36 → TB M3 P (pE P) n R lv (up g s b) → (b = true ↔ ∃ m, m < mm ∧ canN P (pE P) (cnS P (pE P) (R s)) (m / 6) (m % 6) = true ∧ gd P (pE P) d (aMv P (pE P) (cnS P (pE P) (R s)) (m / 6) (m % 6)) (lv s + 1)) → yfr [10, 11, 12, 13, 16, 18, 19] [] M M3 → X 26 [(0, .ref 0), (1, .int (nI d)), (2, .int (nI s)), (3, .int (nI mm))] [] M3 := by
            intro q
            have stop : ∀ (M3 : pm_M) (b : Bool), TB M3 P (pE P) n R lv (up g s b) → (b = true ↔ ∃ m, m < 36 ∧ canN P (pE P) (cnS P (pE P) (R s)) (m / 6) (m % 6) = true ∧ gd P (pE P) d (aMv P (pE P) (cnS P (pE P) (R s)) (m / 6) (m % 6)) (lv s + 1)) → yfr [10, 11, 12, 13, 16, 18, 19] [] M M3 → X 26 [(0, .ref 0), (1, .int (nI d)), (2, .int (nI s)), (3, .int (nI 36))] [] M3 := by
              intro M3 b t3 hb f3
              refine hb26 _ _ _ ?_
              simp (maxSteps := 2000000) [bk_X7_marks_0, bk_X7_marks_7, bk_X7_marks_24, bk_X7_marks_26, bk_X7_marks_63, bk_X7_marks_86, bk_X7_marks_121, bk_X7_marks_127, bk_X7_marks_133, pm_arr, pm_call, pm_e_c0, pm_e_c1, pm_e_cti, pm_e_ctl, pm_e_ctr, pm_e_go, pm_e_i, pm_e_ii, pm_e_ldi, pm_e_ldr, pm_e_lk, pm_e_r, pm_e_ri, pm_e_rii, pm_e_rm0, pm_e_rm1, pm_e_rs0, pm_e_rs1, pm_e_wp0, pm_e_wp1, pm_f2, pm_f3, pm_fld, pm_fv, pm_obj, pm_recv, pm_s_aload_n, pm_s_baload, pm_s_bastore, pm_s_bipush, pm_s_getfield, pm_s_goto, pm_s_iadd, pm_s_iconst, pm_s_idiv, pm_s_ifCond_eq, pm_s_ifCond_lt, pm_s_ifCond_ne, pm_s_if_icmp_ge, pm_s_if_icmp_lt, pm_s_iinc, pm_s_iload_n, pm_s_invokevirtual, pm_s_irem, pm_s_istore_n, pm_s_isub, pm_s_return, pm_s_saload, ct_X7_marks, pS, pR, pC, pE, pL, -Int32.not_le, -Int32.not_lt, -Int64.not_le, -Int64.not_lt, -List.getD_eq_getElem?_getD, sy_0, sy_16, n6]
              exact h127 M3 b t3 (hb.trans (gd_step hP he qn).symm) f3
            induction q with
            | zero =>
              intro mm M3 b c1 c2 t3 hb f3
              have e : mm = 36 := by omega
              subst e; exact stop M3 b t3 hb f3
            | succ q ihq =>
              intro mm M3 b c1 c2 t3 hb f3
              by_cases hmm : mm < 36
              · have d3 : DkY M3 P := hD.mv f3 (by decide)
                have m3 : M3.1 0 3 = nI (pE P) := d3.2.2.2.2.1
                have hrow := t3.2.2.1 s (by omega)
                have g3 := hrow.2.2.2.2
                rw [up_s] at g3
                have ha6 : mm / 6 < 6 := by omega
                have hb6 : mm % 6 < 6 := by omega
                have hcan : canN P (pE P) (cnS P (pE P) (R s)) (mm / 6) (mm % 6) = (nmN P (pE P) (mm / 6) (mm % 6) && decide (whyF P (pE P) (cnS P (pE P) (R s)) (mm / 6) (mm % 6) = 0)) := rfl
                have h121 : ∀ (M4 : pm_M) (b4 : Bool), TB M4 P (pE P) n R lv (up g s b4) → (b4 = true ↔ ∃ m, m < mm + 1 ∧ canN P (pE P) (cnS P (pE P) (R s)) (m / 6) (m % 6) = true ∧ gd P (pE P) d (aMv P (pE P) (cnS P (pE P) (R s)) (m / 6) (m % 6)) (lv s + 1)) → yfr [10, 11, 12, 13, 16, 18, 19] [] M M4 → X 121 [(0, .ref 0), (1, .int (nI d)), (2, .int (nI s)), (3, .int (nI mm))] [] M4 := by
                  intro M4 b4 t4 hb4 f4
                  refine hb121 _ _ _ ?_
                  simp (maxSteps := 2000000) [bk_X7_marks_0, bk_X7_marks_7, bk_X7_marks_24, bk_X7_marks_26, bk_X7_marks_63, bk_X7_marks_86, bk_X7_marks_121, bk_X7_marks_127, bk_X7_marks_133, pm_arr, pm_call, pm_e_c0, pm_e_c1, pm_e_cti, pm_e_ctl, pm_e_ctr, pm_e_go, pm_e_i, pm_e_ii, pm_e_ldi, pm_e_ldr, pm_e_lk, pm_e_r, pm_e_ri, pm_e_rii, pm_e_rm0, pm_e_rm1, pm_e_rs0, pm_e_rs1, pm_e_wp0, pm_e_wp1, pm_f2, pm_f3, pm_fld, pm_fv, pm_obj, pm_recv, pm_s_aload_n, pm_s_baload, pm_s_bastore, pm_s_bipush, pm_s_getfield, pm_s_goto, pm_s_iadd, pm_s_iconst, pm_s_idiv, pm_s_ifCond_eq, pm_s_ifCond_lt, pm_s_ifCond_ne, pm_s_if_icmp_ge, pm_s_if_icmp_lt, pm_s_iinc, pm_s_iload_n, pm_s_invokevirtual, pm_s_irem, pm_s_istore_n, pm_s_isub, pm_s_return, pm_s_saload, ct_X7_marks, pS, pR, pC, pE, pL, -Int32.not_le, -Int32.not_lt, -Int64.not_le, -Int64.not_lt, -List.getD_eq_getElem?_getD, n6]
                  rw [ni_add]
                  exact ihq (mm + 1) M4 b4 (by omega) (by omega) t4 hb4 f4
                -- no such move
                have no : canN P (pE P) (cnS P (pE P) (R s)) (mm / 6) (mm % 6) = false → (b = true ↔ ∃ m, m < mm + 1 ∧ canN P (pE P) (cnS P (pE P) (R s)) (m / 6) (m % 6) = true ∧ gd P (pE P) d (aMv P (pE P) (cnS P (pE P) (R s)) (m / 6) (m % 6)) (lv s + 1)) := by
                  intro hc
                  refine hb.trans ⟨fun ⟨m, w1, w2⟩ => ⟨m, by omega, w2⟩, fun ⟨m, w1, w2, w3⟩ => ⟨m, ?_, w2, w3⟩⟩
                  by_cases z : m = mm
                  · rw [z, hc] at w2; cases w2
                  · omega
                have h63 : b = false → nmN P (pE P) (mm / 6) (mm % 6) = true → X 63 [(0, .ref 0), (1, .int (nI d)), (2, .int (nI s)), (3, .int (nI mm))] [] M3 := by
                  intro hbf hnm
                  rw [hnm, Bool.true_and] at hcan
                  refine hb63 _ _ _ ?_
                  simp (maxSteps := 2000000) [bk_X7_marks_0, bk_X7_marks_7, bk_X7_marks_24, bk_X7_marks_26, bk_X7_marks_63, bk_X7_marks_86, bk_X7_marks_121, bk_X7_marks_127, bk_X7_marks_133, pm_arr, pm_call, pm_e_c0, pm_e_c1, pm_e_cti, pm_e_ctl, pm_e_ctr, pm_e_go, pm_e_i, pm_e_ii, pm_e_ldi, pm_e_ldr, pm_e_lk, pm_e_r, pm_e_ri, pm_e_rii, pm_e_rm0, pm_e_rm1, pm_e_rs0, pm_e_rs1, pm_e_wp0, pm_e_wp1, pm_f2, pm_f3, pm_fld, pm_fv, pm_obj, pm_recv, pm_s_aload_n, pm_s_baload, pm_s_bastore, pm_s_bipush, pm_s_getfield, pm_s_goto, pm_s_iadd, pm_s_iconst, pm_s_idiv, pm_s_ifCond_eq, pm_s_ifCond_lt, pm_s_ifCond_ne, pm_s_if_icmp_ge, pm_s_if_icmp_lt, pm_s_iinc, pm_s_iload_n, pm_s_invokevirtual, pm_s_irem, pm_s_istore_n, pm_s_isub, pm_s_return, pm_s_saload, ct_X7_marks, pS, pR, pC, pE, pL, -Int32.not_le, -Int32.not_lt, -Int64.not_le, -Int64.not_lt, -List.getD_eq_getElem?_getD, sy_0, n6]
                  refine ⟨P, pE P, s, R s, rfl, by omega, d3, he, hrow.1, hrow.2.1, fun M5 s5 f5 => ?_⟩
                  have f5' : yfr [10, 11, 12, 13, 16, 18, 19] [] M M5 := f3.trans (f5.mono (by decide) (by simp))
                  have d5 : DkY M5 P := hD.mv f5' (by decide)
                  have t5 := t3.mv f5 (by decide) (by simp)
                  have e5 : M5.1 0 22 = nI (pE P) := by rw [f5'.f (by simp)]; exact h22
                  simp (maxSteps := 2000000) [bk_X7_marks_0, bk_X7_marks_7, bk_X7_marks_24, bk_X7_marks_26, bk_X7_marks_63, bk_X7_marks_86, bk_X7_marks_121, bk_X7_marks_127, bk_X7_marks_133, pm_arr, pm_call, pm_e_c0, pm_e_c1, pm_e_cti, pm_e_ctl, pm_e_ctr, pm_e_go, pm_e_i, pm_e_ii, pm_e_ldi, pm_e_ldr, pm_e_lk, pm_e_r, pm_e_ri, pm_e_rii, pm_e_rm0, pm_e_rm1, pm_e_rs0, pm_e_rs1, pm_e_wp0, pm_e_wp1, pm_f2, pm_f3, pm_fld, pm_fv, pm_obj, pm_recv, pm_s_aload_n, pm_s_baload, pm_s_bastore, pm_s_bipush, pm_s_getfield, pm_s_goto, pm_s_iadd, pm_s_iconst, pm_s_idiv, pm_s_ifCond_eq, pm_s_ifCond_lt, pm_s_ifCond_ne, pm_s_if_icmp_ge, pm_s_if_icmp_lt, pm_s_iinc, pm_s_iload_n, pm_s_invokevirtual, pm_s_irem, pm_s_istore_n, pm_s_isub, pm_s_return, pm_s_saload, ct_X7_marks, pS, pR, pC, pE, pL, -Int32.not_le, -Int32.not_lt, -Int64.not_le, -Int64.not_lt, -List.getD_eq_getElem?_getD, sy_0, n6]
                  rw [ni_rem (by omega) (by omega) (by omega), ni_div (by omega) (by omega) (by omega)]
                  refine ⟨P, pE P, cnS P (pE P) (R s), mm / 6, mm % 6, rfl, rfl, ha6, hb6, d5, he, e5, s5, qO, qF.inDk, ?_⟩
                  simp (maxSteps := 2000000) [bk_X7_marks_0, bk_X7_marks_7, bk_X7_marks_24, bk_X7_marks_26, bk_X7_marks_63, bk_X7_marks_86, bk_X7_marks_121, bk_X7_marks_127, bk_X7_marks_133, pm_arr, pm_call, pm_e_c0, pm_e_c1, pm_e_cti, pm_e_ctl, pm_e_ctr, pm_e_go, pm_e_i, pm_e_ii, pm_e_ldi, pm_e_ldr, pm_e_lk, pm_e_r, pm_e_ri, pm_e_rii, pm_e_rm0, pm_e_rm1, pm_e_rs0, pm_e_rs1, pm_e_wp0, pm_e_wp1, pm_f2, pm_f3, pm_fld, pm_fv, pm_obj, pm_recv, pm_s_aload_n, pm_s_baload, pm_s_bastore, pm_s_bipush, pm_s_getfield, pm_s_goto, pm_s_iadd, pm_s_iconst, pm_s_idiv, pm_s_ifCond_eq, pm_s_ifCond_lt, pm_s_ifCond_ne, pm_s_if_icmp_ge, pm_s_if_icmp_lt, pm_s_iinc, pm_s_iload_n, pm_s_invokevirtual, pm_s_irem, pm_s_istore_n, pm_s_isub, pm_s_return, pm_s_saload, ct_X7_marks, pS, pR, pC, pE, pL, -Int32.not_le, -Int32.not_lt, -Int64.not_le, -Int64.not_lt, -List.getD_eq_getElem?_getD, n6]
                  rw [ni_eq0 (Nat.lt_of_le_of_lt (whyF_le _ _ _ _ _) (by decide))]
                  refine ⟨fun hw => ?_, fun hw => h121 M5 b t5 (no (by rw [hcan, decide_eq_false hw])) f5'⟩
                  rw [decide_eq_true hw] at hcan
                  refine hb86 _ _ _ ?_
                  simp (maxSteps := 2000000) [bk_X7_marks_0, bk_X7_marks_7, bk_X7_marks_24, bk_X7_marks_26, bk_X7_marks_63, bk_X7_marks_86, bk_X7_marks_121, bk_X7_marks_127, bk_X7_marks_133, pm_arr, pm_call, pm_e_c0, pm_e_c1, pm_e_cti, pm_e_ctl, pm_e_ctr, pm_e_go, pm_e_i, pm_e_ii, pm_e_ldi, pm_e_ldr, pm_e_lk, pm_e_r, pm_e_ri, pm_e_rii, pm_e_rm0, pm_e_rm1, pm_e_rs0, pm_e_rs1, pm_e_wp0, pm_e_wp1, pm_f2, pm_f3, pm_fld, pm_fv, pm_obj, pm_recv, pm_s_aload_n, pm_s_baload, pm_s_bastore, pm_s_bipush, pm_s_getfield, pm_s_goto, pm_s_iadd, pm_s_iconst, pm_s_idiv, pm_s_ifCond_eq, pm_s_ifCond_lt, pm_s_ifCond_ne, pm_s_if_icmp_ge, pm_s_if_icmp_lt, pm_s_iinc, pm_s_iload_n, pm_s_invokevirtual, pm_s_irem, pm_s_istore_n, pm_s_isub, pm_s_return, pm_s_saload, ct_X7_marks, pS, pR, pC, pE, pL, -Int32.not_le, -Int32.not_lt, -Int64.not_le, -Int64.not_lt, -List.getD_eq_getElem?_getD, sy_0, n6]
                  rw [ni_rem (by omega) (by omega) (by omega), ni_div (by omega) (by omega) (by omega)]
                  refine ⟨P, pE P, cnS P (pE P) (R s), mm / 6, mm % 6, rfl, rfl, hb6, d5, he, e5, s5, qF, hcan, fun M6 s6 f6 => ?_⟩
                  have f6' : yfr [10, 11, 12, 13, 16, 18, 19] [] M M6 := f5'.trans (f6.mono (by decide) (by simp))
                  have t6 := t5.mv f6 (by decide) (by simp)
                  have hT6 : FW P (pE P) (aMv P (pE P) (cnS P (pE P) (R s)) (mm / 6) (mm % 6)) := WF.mv hP he qF hb6 hcan
                  simp (maxSteps := 2000000) [bk_X7_marks_0, bk_X7_marks_7, bk_X7_marks_24, bk_X7_marks_26, bk_X7_marks_63, bk_X7_marks_86, bk_X7_marks_121, bk_X7_marks_127, bk_X7_marks_133, pm_arr, pm_call, pm_e_c0, pm_e_c1, pm_e_cti, pm_e_ctl, pm_e_ctr, pm_e_go, pm_e_i, pm_e_ii, pm_e_ldi, pm_e_ldr, pm_e_lk, pm_e_r, pm_e_ri, pm_e_rii, pm_e_rm0, pm_e_rm1, pm_e_rs0, pm_e_rs1, pm_e_wp0, pm_e_wp1, pm_f2, pm_f3, pm_fld, pm_fv, pm_obj, pm_recv, pm_s_aload_n, pm_s_baload, pm_s_bastore, pm_s_bipush, pm_s_getfield, pm_s_goto, pm_s_iadd, pm_s_iconst, pm_s_idiv, pm_s_ifCond_eq, pm_s_ifCond_lt, pm_s_ifCond_ne, pm_s_if_icmp_ge, pm_s_if_icmp_lt, pm_s_iinc, pm_s_iload_n, pm_s_invokevirtual, pm_s_irem, pm_s_istore_n, pm_s_isub, pm_s_return, pm_s_saload, ct_X7_marks, pS, pR, pC, pE, pL, -Int32.not_le, -Int32.not_lt, -Int64.not_le, -Int64.not_lt, -List.getD_eq_getElem?_getD, sy_0, n6]
                  refine ⟨P, pE P, _, hD.mv f6' (by decide), s6, by rw [f6'.f (by simp)]; exact h22, he, hT6, fun M7 k7 f7 => ?_⟩
                  have f7' : yfr [10, 11, 12, 13, 16, 18, 19] [] M M7 := f6'.trans (f7.mono (by decide) (by simp))
                  have t7 := t6.mv f7 (by decide) (by simp)
                  have l7 := (t7.2.2.1 s (by omega)).2.2.1
                  simp (maxSteps := 2000000) [bk_X7_marks_0, bk_X7_marks_7, bk_X7_marks_24, bk_X7_marks_26, bk_X7_marks_63, bk_X7_marks_86, bk_X7_marks_121, bk_X7_marks_127, bk_X7_marks_133, pm_arr, pm_call, pm_e_c0, pm_e_c1, pm_e_cti, pm_e_ctl, pm_e_ctr, pm_e_go, pm_e_i, pm_e_ii, pm_e_ldi, pm_e_ldr, pm_e_lk, pm_e_r, pm_e_ri, pm_e_rii, pm_e_rm0, pm_e_rm1, pm_e_rs0, pm_e_rs1, pm_e_wp0, pm_e_wp1, pm_f2, pm_f3, pm_fld, pm_fv, pm_obj, pm_recv, pm_s_aload_n, pm_s_baload, pm_s_bastore, pm_s_bipush, pm_s_getfield, pm_s_goto, pm_s_iadd, pm_s_iconst, pm_s_idiv, pm_s_ifCond_eq, pm_s_ifCond_lt, pm_s_ifCond_ne, pm_s_if_icmp_ge, pm_s_if_icmp_lt, pm_s_iinc, pm_s_iload_n, pm_s_invokevirtual, pm_s_irem, pm_s_istore_n, pm_s_isub, pm_s_return, pm_s_saload, ct_X7_marks, pS, pR, pC, pE, pL, -Int32.not_le, -Int32.not_lt, -Int64.not_le, -Int64.not_lt, -List.getD_eq_getElem?_getD, sy_0, sy_15, sy_16, n6]
                  rw [ni_in (n := 4002) (by omega), ni_cl (a := s) (by omega), l7, ni_add]
                  refine ⟨by omega, P, pE P, d, n, lv s + 1, R, lv, up g s b, _, rfl, rfl, by omega, hd4, hP, he, t7, hinj, hT6, k7, fun b8 hb8 => ?_⟩
                  simp (maxSteps := 2000000) [bk_X7_marks_0, bk_X7_marks_7, bk_X7_marks_24, bk_X7_marks_26, bk_X7_marks_63, bk_X7_marks_86, bk_X7_marks_121, bk_X7_marks_127, bk_X7_marks_133, pm_arr, pm_call, pm_e_c0, pm_e_c1, pm_e_cti, pm_e_ctl, pm_e_ctr, pm_e_go, pm_e_i, pm_e_ii, pm_e_ldi, pm_e_ldr, pm_e_lk, pm_e_r, pm_e_ri, pm_e_rii, pm_e_rm0, pm_e_rm1, pm_e_rs0, pm_e_rs1, pm_e_wp0, pm_e_wp1, pm_f2, pm_f3, pm_fld, pm_fv, pm_obj, pm_recv, pm_s_aload_n, pm_s_baload, pm_s_bastore, pm_s_bipush, pm_s_getfield, pm_s_goto, pm_s_iadd, pm_s_iconst, pm_s_idiv, pm_s_ifCond_eq, pm_s_ifCond_lt, pm_s_ifCond_ne, pm_s_if_icmp_ge, pm_s_if_icmp_lt, pm_s_iinc, pm_s_iload_n, pm_s_invokevirtual, pm_s_irem, pm_s_istore_n, pm_s_isub, pm_s_return, pm_s_saload, ct_X7_marks, pS, pR, pC, pE, pL, -Int32.not_le, -Int32.not_lt, -Int64.not_le, -Int64.not_lt, -List.getD_eq_getElem?_getD, sy_16, pb_01, n6]
                  rw [ni_in (by omega), ni_cl (by omega)]
                  refine ⟨by omega, ?_⟩
                  have t8 := t7.good (s := s) b8
                  have uu : up (up g s b) s b8 = up g s b8 := by funext q; unfold up; split <;> rfl
                  rw [uu] at t8
                  refine h121 _ b8 t8 ?_ (f7'.set (by decide) (by decide))
                  -- it leads on
                  have ld := hMK.lead hP he h0 hT6 (k := lv s + 1) (by omega) (by
                    obtain ⟨ea, eb⟩ := cd6_e mm
                    obtain ⟨l', V, w1, w2, w3⟩ := bisim_run hP he qF (run_fw hP he h0 u2) u3.symm (l := [cd6 mm]) (T := aMv P (pE P) (cnS P (pE P) (R s)) (mm / 6) (mm % 6)) (by
                      show (if canN P (pE P) (cnS P (pE P) (R s)) (cd6 mm / 8) (cd6 mm % 8) = true then some (aMv P (pE P) (cnS P (pE P) (R s)) (cd6 mm / 8) (cd6 mm % 8)) else none) = _
                      rw [ea, eb, if_pos hcan])
                    exact ⟨l0 ++ l', V, by rw [List.length_append, u1, w1]; rfl, run_cat _ _ u2 w2, w3.symm⟩)
                  have key : b8 = true ↔ gd P (pE P) d (aMv P (pE P) (cnS P (pE P) (R s)) (mm / 6) (mm % 6)) (lv s + 1) := by
                    refine hb8.trans (Iff.trans ?_ ld)
                    refine or_congr Iff.rfl (and_congr Iff.rfl ⟨fun ⟨t, w1, w2, w3, w4⟩ => ⟨t, w1, by show fkN (cnS P (pE P) (R t)) = _; rw [fkc t w1, w2], w3, ?_⟩, fun ⟨t, w1, w2, w3, w4⟩ => ⟨t, w1, by have w2' : fkN (cnS P (pE P) (R t)) = _ := w2; rw [fkc t w1] at w2'; exact w2', w3, ?_⟩⟩)
                    · have hts : s < t := by
                        refine Classical.byContradiction (fun z => ?_)
                        have := hMK.2.2.2.1 t s (by omega) (by omega)
                        omega
                      rw [up_n _ _ (by omega)] at w4
                      exact (hg t (by omega) w1).mp w4
                    · have hts : s < t := by
                        refine Classical.byContradiction (fun z => ?_)
                        have := hMK.2.2.2.1 t s (by omega) (by omega)
                        omega
                      rw [up_n _ _ (by omega)]
                      exact (hg t (by omega) w1).mpr w4
                  refine key.trans ⟨fun w => ⟨mm, by omega, hcan, w⟩, fun ⟨m, w1, w2, w3⟩ => ?_⟩
                  by_cases z : m = mm
                  · rw [z] at w3; exact w3
                  · have := hb.mpr ⟨m, by omega, w2, w3⟩
                    rw [hbf] at this; cases this
                refine hb26 _ _ _ ?_
                simp (maxSteps := 2000000) [bk_X7_marks_0, bk_X7_marks_7, bk_X7_marks_24, bk_X7_marks_26, bk_X7_marks_63, bk_X7_marks_86, bk_X7_marks_121, bk_X7_marks_127, bk_X7_marks_133, pm_arr, pm_call, pm_e_c0, pm_e_c1, pm_e_cti, pm_e_ctl, pm_e_ctr, pm_e_go, pm_e_i, pm_e_ii, pm_e_ldi, pm_e_ldr, pm_e_lk, pm_e_r, pm_e_ri, pm_e_rii, pm_e_rm0, pm_e_rm1, pm_e_rs0, pm_e_rs1, pm_e_wp0, pm_e_wp1, pm_f2, pm_f3, pm_fld, pm_fv, pm_obj, pm_recv, pm_s_aload_n, pm_s_baload, pm_s_bastore, pm_s_bipush, pm_s_getfield, pm_s_goto, pm_s_iadd, pm_s_iconst, pm_s_idiv, pm_s_ifCond_eq, pm_s_ifCond_lt, pm_s_ifCond_ne, pm_s_if_icmp_ge, pm_s_if_icmp_lt, pm_s_iinc, pm_s_iload_n, pm_s_invokevirtual, pm_s_irem, pm_s_istore_n, pm_s_isub, pm_s_return, pm_s_saload, ct_X7_marks, pS, pR, pC, pE, pL, -Int32.not_le, -Int32.not_lt, -Int64.not_le, -Int64.not_lt, -List.getD_eq_getElem?_getD, sy_0, sy_16, m3, pb_eq0, n6]
                rw [ni_le (by omega) (by omega), ni_in (by omega), ni_cl (a := s) (by omega), g3, pb_eq0]
                refine ⟨fun z => by omega, fun _ => ⟨by omega, fun hbt => ?_, fun hbf => ?_⟩⟩
                · refine h127 M3 b t3 ?_ f3
                  refine ⟨fun w => (gd_step hP he qn).mpr ?_, fun _ => by simpa using hbt⟩
                  obtain ⟨m, w1, w2⟩ := hb.mp w
                  exact ⟨m, by omega, w2⟩
                · rw [ni_rem (by omega) (by omega) (by omega), ni_div (by omega) (by omega) (by omega)]
                  refine ⟨P, pE P, d3, he, rfl, ?_⟩
                  simp (maxSteps := 2000000) [bk_X7_marks_0, bk_X7_marks_7, bk_X7_marks_24, bk_X7_marks_26, bk_X7_marks_63, bk_X7_marks_86, bk_X7_marks_121, bk_X7_marks_127, bk_X7_marks_133, pm_arr, pm_call, pm_e_c0, pm_e_c1, pm_e_cti, pm_e_ctl, pm_e_ctr, pm_e_go, pm_e_i, pm_e_ii, pm_e_ldi, pm_e_ldr, pm_e_lk, pm_e_r, pm_e_ri, pm_e_rii, pm_e_rm0, pm_e_rm1, pm_e_rs0, pm_e_rs1, pm_e_wp0, pm_e_wp1, pm_f2, pm_f3, pm_fld, pm_fv, pm_obj, pm_recv, pm_s_aload_n, pm_s_baload, pm_s_bastore, pm_s_bipush, pm_s_getfield, pm_s_goto, pm_s_iadd, pm_s_iconst, pm_s_idiv, pm_s_ifCond_eq, pm_s_ifCond_lt, pm_s_ifCond_ne, pm_s_if_icmp_ge, pm_s_if_icmp_lt, pm_s_iinc, pm_s_iload_n, pm_s_invokevirtual, pm_s_irem, pm_s_istore_n, pm_s_isub, pm_s_return, pm_s_saload, ct_X7_marks, pS, pR, pC, pE, pL, -Int32.not_le, -Int32.not_lt, -Int64.not_le, -Int64.not_lt, -List.getD_eq_getElem?_getD, pb_eq0, n6]
                  rw [nmF_n hP he (by omega) (by omega)]
                  exact ⟨fun hnm => h63 hbf hnm, fun hnm => h121 M3 b t3 (no (by rw [hcan, hnm]; rfl)) f3⟩
              · have e : mm = 36 := by omega
                subst e; exact stop M3 b t3 hb f3
          refine hb24 _ _ _ ?_
          simp (maxSteps := 2000000) [bk_X7_marks_0, bk_X7_marks_7, bk_X7_marks_24, bk_X7_marks_26, bk_X7_marks_63, bk_X7_marks_86, bk_X7_marks_121, bk_X7_marks_127, bk_X7_marks_133, pm_arr, pm_call, pm_e_c0, pm_e_c1, pm_e_cti, pm_e_ctl, pm_e_ctr, pm_e_go, pm_e_i, pm_e_ii, pm_e_ldi, pm_e_ldr, pm_e_lk, pm_e_r, pm_e_ri, pm_e_rii, pm_e_rm0, pm_e_rm1, pm_e_rs0, pm_e_rs1, pm_e_wp0, pm_e_wp1, pm_f2, pm_f3, pm_fld, pm_fv, pm_obj, pm_recv, pm_s_aload_n, pm_s_baload, pm_s_bastore, pm_s_bipush, pm_s_getfield, pm_s_goto, pm_s_iadd, pm_s_iconst, pm_s_idiv, pm_s_ifCond_eq, pm_s_ifCond_lt, pm_s_ifCond_ne, pm_s_if_icmp_ge, pm_s_if_icmp_lt, pm_s_iinc, pm_s_iload_n, pm_s_invokevirtual, pm_s_irem, pm_s_istore_n, pm_s_isub, pm_s_return, pm_s_saload, ct_X7_marks, pS, pR, pC, pE, pL, -Int32.not_le, -Int32.not_lt, -Int64.not_le, -Int64.not_lt, -List.getD_eq_getElem?_getD, n6]
          exact inner 36 0 M2 false (by omega) (by omega) (by rw [upf]; exact t2) ⟨fun w => absurd w (by decide), fun ⟨m, w, _⟩ => by omega⟩ f2
        refine hb7 _ _ _ ?_
        simp (maxSteps := 2000000) [bk_X7_marks_0, bk_X7_marks_7, bk_X7_marks_24, bk_X7_marks_26, bk_X7_marks_63, bk_X7_marks_86, bk_X7_marks_121, bk_X7_marks_127, bk_X7_marks_133, pm_arr, pm_call, pm_e_c0, pm_e_c1, pm_e_cti, pm_e_ctl, pm_e_ctr, pm_e_go, pm_e_i, pm_e_ii, pm_e_ldi, pm_e_ldr, pm_e_lk, pm_e_r, pm_e_ri, pm_e_rii, pm_e_rm0, pm_e_rm1, pm_e_rs0, pm_e_rs1, pm_e_wp0, pm_e_wp1, pm_f2, pm_f3, pm_fld, pm_fv, pm_obj, pm_recv, pm_s_aload_n, pm_s_baload, pm_s_bastore, pm_s_bipush, pm_s_getfield, pm_s_goto, pm_s_iadd, pm_s_iconst, pm_s_idiv, pm_s_ifCond_eq, pm_s_ifCond_lt, pm_s_ifCond_ne, pm_s_if_icmp_ge, pm_s_if_icmp_lt, pm_s_iinc, pm_s_iload_n, pm_s_invokevirtual, pm_s_irem, pm_s_istore_n, pm_s_isub, pm_s_return, pm_s_saload, ct_X7_marks, pS, pR, pC, pE, pL, -Int32.not_le, -Int32.not_lt, -Int64.not_le, -Int64.not_lt, -List.getD_eq_getElem?_getD, sy_0, sy_15, n6]
        rw [ni_lt0 (by omega), ni_in (by omega), ni_cl (by omega), lvs, ni_lt (by omega) (by omega)]
        refine ⟨fun z => z.elim, fun _ => ⟨by omega, fun z => h24 z, fun z => ?_⟩⟩
        refine h127 M2 false (by rw [upf]; exact t2) ⟨fun w => absurd w (by decide), fun ⟨l, V, w1, w2, w3⟩ => ?_⟩ f2
        have hl : l = [] := List.length_eq_zero_iff.mp (by omega)
        rw [hl] at w2
        have : cnS P (pE P) (R s) = V := Option.some.inj w2
        rw [← this] at w3
        exact absurd w3 qn
    have n0 := hB.1
    refine hb0 _ _ _ ?_
    simp (maxSteps := 2000000) [bk_X7_marks_0, bk_X7_marks_7, bk_X7_marks_24, bk_X7_marks_26, bk_X7_marks_63, bk_X7_marks_86, bk_X7_marks_121, bk_X7_marks_127, bk_X7_marks_133, pm_arr, pm_call, pm_e_c0, pm_e_c1, pm_e_cti, pm_e_ctl, pm_e_ctr, pm_e_go, pm_e_i, pm_e_ii, pm_e_ldi, pm_e_ldr, pm_e_lk, pm_e_r, pm_e_ri, pm_e_rii, pm_e_rm0, pm_e_rm1, pm_e_rs0, pm_e_rs1, pm_e_wp0, pm_e_wp1, pm_f2, pm_f3, pm_fld, pm_fv, pm_obj, pm_recv, pm_s_aload_n, pm_s_baload, pm_s_bastore, pm_s_bipush, pm_s_getfield, pm_s_goto, pm_s_iadd, pm_s_iconst, pm_s_idiv, pm_s_ifCond_eq, pm_s_ifCond_lt, pm_s_ifCond_ne, pm_s_if_icmp_ge, pm_s_if_icmp_lt, pm_s_iinc, pm_s_iload_n, pm_s_invokevirtual, pm_s_irem, pm_s_istore_n, pm_s_isub, pm_s_return, pm_s_saload, ct_X7_marks, pS, pR, pC, pE, pL, -Int32.not_le, -Int32.not_lt, -Int64.not_le, -Int64.not_lt, -List.getD_eq_getElem?_getD, lv_args, sy_0, n0, n6]
    exact loop n M (fun _ => false) (Nat.le_refl _) hB (fun s h1 h2 => by omega) (fun s _ => rfl) yfr.rfl
  · exact hT.elim
