/-- the codes that are laid -/
def lcd (P : Pm) (L : Nat → Bool) (c : Nat) : Bool := decide (c / 8 < pS P) && decide (1 ≤ c % 8) && decide (c % 8 ≤ pR P) && L (c / 8 * pR P + c % 8)
def LdY (M : pm_M) (P : Pm) (L : Nat → Bool) : Prop := ∀ c, c < 32 → M.1 1 c = pb (lcd P L c)
def HsY (M : pm_M) (r : Nat) (H : Nat → St) (pr la : Nat) : Prop := M.1 0 12 = nI pr ∧ M.1 0 13 = nI (la - pr) ∧ ∀ i, i ≤ la → i ≠ pr ∨ pr < la → SdY M 6 i r (H i)
def PlY (M : pm_M) (l : List Nat) : Prop := M.1 0 30 = nI l.length ∧ ∀ i, i < l.length → M.1 20 i = nI (l.getD i 0 / 8) ∧ M.1 21 i = nI (l.getD i 0 % 8)
def TrY (M : pm_M) (t : Nat) (T : Nat × Nat × List Nat) : Prop := M.1 22 t = nI T.1 ∧ M.1 23 t = nI (if T.1 = 1 then T.2.1 else T.2.2.length) ∧ ∀ j, j < T.2.2.length → M.1 24 (32 * t + j) = nI (T.2.2.getD j 0)
def MY (M : pm_M) (A : Ab) : Prop := DkY M (aP A) ∧ SdY M 2 0 (pR (aP A)) (aS A) ∧ LdY M (aP A) (aL A) ∧ M.1 0 5 = nI (lcn A) ∧ M.1 0 7 = nI (aW A) ∧ HsY M (pR (aP A)) (aH A) (aPr A) (aLa A) ∧ PlY M (aPl A) ∧ (∀ t, t < 6 → TrY M t (aT A t)) ∧ M.1 0 37 = nI (aQ A)
theorem LdY.mv {M M' : pm_M} {P : Pm} {L : Nat → Bool} {ps fs : List Nat} (h : LdY M P L) (hf : yfr ps fs M M') (hn : 1 ∉ ps) : LdY M' P L := fun c hc => by rw [hf.i (by decide) hn]; exact h c hc
theorem HsY.mv {M M' : pm_M} {r : Nat} {H : Nat → St} {pr la : Nat} {ps fs : List Nat} (h : HsY M r H pr la) (hf : yfr ps fs M M') (hn : ∀ q ∈ [6, 7, 8, 9], q ∉ ps) (hg : ∀ j ∈ [12, 13], j ∉ fs) : HsY M' r H pr la := ⟨by rw [hf.f (hg 12 (by simp))]; exact h.1, by rw [hf.f (hg 13 (by simp))]; exact h.2.1, fun i h1 h2 => (h.2.2 i h1 h2).mv hf (by decide) hn⟩
theorem PlY.mv {M M' : pm_M} {l : List Nat} {ps fs : List Nat} (h : PlY M l) (hf : yfr ps fs M M') (hn : ∀ q ∈ [20, 21], q ∉ ps) (hg : 30 ∉ fs) : PlY M' l := ⟨by rw [hf.f hg]; exact h.1, fun i hi => by rw [hf.i (by decide) (hn 20 (by simp)), hf.i (by decide) (hn 21 (by simp))]; exact h.2 i hi⟩
theorem TrY.mv {M M' : pm_M} {t : Nat} {T : Nat × Nat × List Nat} {ps fs : List Nat} (h : TrY M t T) (hf : yfr ps fs M M') (hn : ∀ q ∈ [22, 23, 24], q ∉ ps) : TrY M' t T := ⟨by rw [hf.i (by decide) (hn 22 (by simp))]; exact h.1, by rw [hf.i (by decide) (hn 23 (by simp))]; exact h.2.1, fun j hj => by rw [hf.i (by decide) (hn 24 (by simp))]; exact h.2.2 j hj⟩
theorem try_mv {M M' : pm_M} {T : Nat → Nat × Nat × List Nat} {ps fs : List Nat} (h : ∀ t, t < 6 → TrY M t (T t)) (hf : yfr ps fs M M') (hn : ∀ q ∈ [22, 23, 24], q ∉ ps) : ∀ t, t < 6 → TrY M' t (T t) := fun t ht => (h t ht).mv hf hn
/-- rows that are used again and again -/
theorem MY.scr {M M' : pm_M} {A : Ab} (h : MY M A) {ps fs : List Nat} (hf : yfr ps fs M M') (hp : ps.all (fun q => (decide (10 ≤ q) && decide (q ≤ 19)) || (decide (25 ≤ q) && decide (q ≤ 29))) = true) (hg : fs.all (fun j => decide (j = 22) || decide (j = 23)) = true) : MY M' A := by
  have hn : ∀ q, ¬ ((10 ≤ q ∧ q ≤ 19) ∨ (25 ≤ q ∧ q ≤ 29)) → q ∉ ps := fun q h1 h2 => h1 (by have := List.all_eq_true.mp hp q h2; simpa using this)
  have hm : ∀ j, ¬ (j = 22 ∨ j = 23) → j ∉ fs := fun j h1 h2 => h1 (by have := List.all_eq_true.mp hg j h2; simpa using this)
  obtain ⟨a, b, c, d, e, f, g, i, j⟩ := h
  refine ⟨a.mv hf (fun q hq => hm q ?_), b.mv hf (by decide) (fun q hq => hn q ?_), c.mv hf (hn _ (by omega)), ?_, ?_, f.mv hf (fun q hq => hn q ?_) (fun q hq => hm q ?_), g.mv hf (fun q hq => hn q ?_) (hm _ (by omega)), try_mv i hf (fun q hq => hn q ?_), ?_⟩
  · simp at hq; omega
  · simp at hq; omega
  · rw [hf.f (hm _ (by omega))]; exact d
  · rw [hf.f (hm _ (by omega))]; exact e
  · simp at hq; omega
  · simp at hq; omega
  · simp at hq; omega
  · simp at hq; omega
  · rw [hf.f (hm _ (by omega))]; exact j
def tt_X7_lets : pm_T := fun args M k => match args with
  | [.ref 0, .int x, .int y] => ∃ A, okA A ∧ MY M A ∧ k (some (.int (fLets A x y))) M
  | _ => False
theorem cd_crd {P : Pm} (hP : okP P) {x : Int32} (h : cdOK P x = true) : x = nI (cdN (pR P) (crdN P x)) := by
  unfold cdOK at h
  obtain ⟨c, hc, hx⟩ := anyN_iff.mp h
  simp only [Bool.and_eq_true, decide_eq_true_eq] at hx
  obtain ⟨⟨⟨e1, e2⟩, e3⟩, e4⟩ := hx
  subst e1
  unfold crdN
  rw [tn_n (by omega)]
  congr 1
  unfold cdN
  rw [if_neg (by omega), su_of e3 e4, ra_of e3 e4]
  omega
abbrev ct_X7_lets : List pm_C := [(false, 144, 7, 2, (some .boolean), tt_X7_isCode), (false, 148, 7, 3, (some .boolean), tt_X7_isLet)]
set_option maxHeartbeats 4000000 in
theorem sm_X7_lets  : pm_Sem SHy yX7_lets cX7_lets 3 (some .int) 3 tt_X7_lets := by
  refine pm_Sem_intro bl_X7_lets ct_X7_lets cs_X7_lets rfl (List.forall_mem_cons.mpr ⟨⟨_, _, _, _, sm_X7_isCode, by decide, cm_X7_isCode, by decide +kernel⟩, List.forall_mem_cons.mpr ⟨⟨_, _, _, _, sm_X7_isLet, by decide, cm_X7_isLet, by decide +kernel⟩, fun _ h => absurd h List.not_mem_nil⟩⟩) ck_X7_lets (by decide +kernel) (by decide) ?_
  intro X k hX args M hT
  have hb0 := hX 0 bk_X7_lets_0 (List.mem_of_getElem? (i := 0) rfl)
  have hb20 := hX 20 bk_X7_lets_20 (List.mem_of_getElem? (i := 1) rfl)
  have hb23 := hX 23 bk_X7_lets_23 (List.mem_of_getElem? (i := 2) rfl)
  have hb36 := hX 36 bk_X7_lets_36 (List.mem_of_getElem? (i := 3) rfl)
  have hb37 := hX 37 bk_X7_lets_37 (List.mem_of_getElem? (i := 4) rfl)
  clear hX
  unfold tt_X7_lets at hT; split at hT
  · next x y =>
    obtain ⟨A, hA, hM, hT⟩ := hT
    have hP := hA.1
    unfold fLets at hT
    refine ⟨by simp [lg_sl, Value.category], ?_⟩
    have bad : (cdOK (aP A) x && (decide (y = nI 0) || cdOK (aP A) y)) = false → X 20 [] [] M := by
      intro hf
      refine hb20 _ _ _ ?_
      simp (maxSteps := 2000000) [bk_X7_lets_0, bk_X7_lets_20, bk_X7_lets_23, bk_X7_lets_36, bk_X7_lets_37, pm_call, pm_e_c0, pm_e_c1, pm_e_cti, pm_e_ctl, pm_e_ctr, pm_e_go, pm_e_i, pm_e_ldi, pm_e_ldr, pm_e_lk, pm_e_rm0, pm_e_rm1, pm_e_rs0, pm_e_rs1, pm_e_wp0, pm_e_wp1, pm_f2, pm_f3, pm_obj, pm_recv, pm_s_aload_n, pm_s_bipush, pm_s_goto, pm_s_iconst, pm_s_ifCond_eq, pm_s_ifCond_ne, pm_s_iload_n, pm_s_invokevirtual, pm_s_ireturn, ct_X7_lets, pS, pR, pC, pE, pL, -Int32.not_le, -Int32.not_lt, -Int64.not_le, -Int64.not_lt, -List.getD_eq_getElem?_getD]
      rw [hf, if_neg (by simp)] at hT
      exact hT
    have good : (cdOK (aP A) x && (decide (y = nI 0) || cdOK (aP A) y)) = true → X 23 [(0, .ref 0), (1, .int x), (2, .int y)] [] M := by
      intro hf
      rw [hf, if_pos rfl] at hT
      simp only [Bool.and_eq_true, Bool.or_eq_true, decide_eq_true_eq] at hf
      obtain ⟨x1, x2, x3, x4, -⟩ := cdOK_e hP hf.1
      have h37 : ∀ v, k (some (.int v)) M → X 37 [] [.int v] M := by
        intro v hv
        refine hb37 _ _ _ ?_
        simp (maxSteps := 2000000) [bk_X7_lets_0, bk_X7_lets_20, bk_X7_lets_23, bk_X7_lets_36, bk_X7_lets_37, pm_call, pm_e_c0, pm_e_c1, pm_e_cti, pm_e_ctl, pm_e_ctr, pm_e_go, pm_e_i, pm_e_ldi, pm_e_ldr, pm_e_lk, pm_e_rm0, pm_e_rm1, pm_e_rs0, pm_e_rs1, pm_e_wp0, pm_e_wp1, pm_f2, pm_f3, pm_obj, pm_recv, pm_s_aload_n, pm_s_bipush, pm_s_goto, pm_s_iconst, pm_s_ifCond_eq, pm_s_ifCond_ne, pm_s_iload_n, pm_s_invokevirtual, pm_s_ireturn, ct_X7_lets, pS, pR, pC, pE, pL, -Int32.not_le, -Int32.not_lt, -Int64.not_le, -Int64.not_lt, -List.getD_eq_getElem?_getD]
        exact hv
      have ey : y = nI (cdN (pR (aP A)) (if y = nI 0 then 0 else crdN (aP A) y)) ∧ (if y = nI 0 then 0 else crdN (aP A) y) ≤ pS (aP A) * pR (aP A) := by
        by_cases q : y = nI 0
        · rw [if_pos q]; exact ⟨q, Nat.zero_le _⟩
        · rw [if_neg q]
          have hy := hf.2.resolve_left q
          exact ⟨cd_crd hP hy, (cdOK_e hP hy).2.2.2.1⟩
      refine hb23 _ _ _ ?_
      simp (maxSteps := 2000000) [bk_X7_lets_0, bk_X7_lets_20, bk_X7_lets_23, bk_X7_lets_36, bk_X7_lets_37, pm_call, pm_e_c0, pm_e_c1, pm_e_cti, pm_e_ctl, pm_e_ctr, pm_e_go, pm_e_i, pm_e_ldi, pm_e_ldr, pm_e_lk, pm_e_rm0, pm_e_rm1, pm_e_rs0, pm_e_rs1, pm_e_wp0, pm_e_wp1, pm_f2, pm_f3, pm_obj, pm_recv, pm_s_aload_n, pm_s_bipush, pm_s_goto, pm_s_iconst, pm_s_ifCond_eq, pm_s_ifCond_ne, pm_s_iload_n, pm_s_invokevirtual, pm_s_ireturn, ct_X7_lets, pS, pR, pC, pE, pL, -Int32.not_le, -Int32.not_lt, -Int64.not_le, -Int64.not_lt, -List.getD_eq_getElem?_getD, sy_0]
      refine ⟨aP A, crdN (aP A) x, if y = nI 0 then 0 else crdN (aP A) y, cd_crd hP hf.1, ey.1, hM.1, ⟨x3, x4⟩, ey.2, ?_⟩
      simp (maxSteps := 2000000) [bk_X7_lets_0, bk_X7_lets_20, bk_X7_lets_23, bk_X7_lets_36, bk_X7_lets_37, pm_call, pm_e_c0, pm_e_c1, pm_e_cti, pm_e_ctl, pm_e_ctr, pm_e_go, pm_e_i, pm_e_ldi, pm_e_ldr, pm_e_lk, pm_e_rm0, pm_e_rm1, pm_e_rs0, pm_e_rs1, pm_e_wp0, pm_e_wp1, pm_f2, pm_f3, pm_obj, pm_recv, pm_s_aload_n, pm_s_bipush, pm_s_goto, pm_s_iconst, pm_s_ifCond_eq, pm_s_ifCond_ne, pm_s_iload_n, pm_s_invokevirtual, pm_s_ireturn, ct_X7_lets, pS, pR, pC, pE, pL, -Int32.not_le, -Int32.not_lt, -Int64.not_le, -Int64.not_lt, -List.getD_eq_getElem?_getD, pb_eq0]
      refine ⟨fun h => ?_, fun h => ?_⟩
      · refine hb36 _ _ _ ?_
        simp (maxSteps := 2000000) [bk_X7_lets_0, bk_X7_lets_20, bk_X7_lets_23, bk_X7_lets_36, bk_X7_lets_37, pm_call, pm_e_c0, pm_e_c1, pm_e_cti, pm_e_ctl, pm_e_ctr, pm_e_go, pm_e_i, pm_e_ldi, pm_e_ldr, pm_e_lk, pm_e_rm0, pm_e_rm1, pm_e_rs0, pm_e_rs1, pm_e_wp0, pm_e_wp1, pm_f2, pm_f3, pm_obj, pm_recv, pm_s_aload_n, pm_s_bipush, pm_s_goto, pm_s_iconst, pm_s_ifCond_eq, pm_s_ifCond_ne, pm_s_iload_n, pm_s_invokevirtual, pm_s_ireturn, ct_X7_lets, pS, pR, pC, pE, pL, -Int32.not_le, -Int32.not_lt, -Int64.not_le, -Int64.not_lt, -List.getD_eq_getElem?_getD]
        rw [if_neg (by rw [h]; simp)] at hT
        exact h37 _ hT
      · rw [if_pos h] at hT
        exact h37 _ hT
    refine hb0 _ _ _ ?_
    simp (maxSteps := 2000000) [bk_X7_lets_0, bk_X7_lets_20, bk_X7_lets_23, bk_X7_lets_36, bk_X7_lets_37, pm_call, pm_e_c0, pm_e_c1, pm_e_cti, pm_e_ctl, pm_e_ctr, pm_e_go, pm_e_i, pm_e_ldi, pm_e_ldr, pm_e_lk, pm_e_rm0, pm_e_rm1, pm_e_rs0, pm_e_rs1, pm_e_wp0, pm_e_wp1, pm_f2, pm_f3, pm_obj, pm_recv, pm_s_aload_n, pm_s_bipush, pm_s_goto, pm_s_iconst, pm_s_ifCond_eq, pm_s_ifCond_ne, pm_s_iload_n, pm_s_invokevirtual, pm_s_ireturn, ct_X7_lets, pS, pR, pC, pE, pL, -Int32.not_le, -Int32.not_lt, -Int64.not_le, -Int64.not_lt, -List.getD_eq_getElem?_getD, lv_args, sy_0]
    refine ⟨aP A, hM.1, ?_⟩
    simp (maxSteps := 2000000) [bk_X7_lets_0, bk_X7_lets_20, bk_X7_lets_23, bk_X7_lets_36, bk_X7_lets_37, pm_call, pm_e_c0, pm_e_c1, pm_e_cti, pm_e_ctl, pm_e_ctr, pm_e_go, pm_e_i, pm_e_ldi, pm_e_ldr, pm_e_lk, pm_e_rm0, pm_e_rm1, pm_e_rs0, pm_e_rs1, pm_e_wp0, pm_e_wp1, pm_f2, pm_f3, pm_obj, pm_recv, pm_s_aload_n, pm_s_bipush, pm_s_goto, pm_s_iconst, pm_s_ifCond_eq, pm_s_ifCond_ne, pm_s_iload_n, pm_s_invokevirtual, pm_s_ireturn, ct_X7_lets, pS, pR, pC, pE, pL, -Int32.not_le, -Int32.not_lt, -Int64.not_le, -Int64.not_lt, -List.getD_eq_getElem?_getD, sy_0, pb_eq0]
    refine ⟨fun h => bad (by rw [h]; rfl), fun h => ⟨fun h2 => good ?_, fun h2 => ⟨aP A, hM.1, ?_⟩⟩⟩
    · have h2' : y = nI 0 := h2
      rw [h, decide_eq_true h2']; rfl
    · simp (maxSteps := 2000000) [bk_X7_lets_0, bk_X7_lets_20, bk_X7_lets_23, bk_X7_lets_36, bk_X7_lets_37, pm_call, pm_e_c0, pm_e_c1, pm_e_cti, pm_e_ctl, pm_e_ctr, pm_e_go, pm_e_i, pm_e_ldi, pm_e_ldr, pm_e_lk, pm_e_rm0, pm_e_rm1, pm_e_rs0, pm_e_rs1, pm_e_wp0, pm_e_wp1, pm_f2, pm_f3, pm_obj, pm_recv, pm_s_aload_n, pm_s_bipush, pm_s_goto, pm_s_iconst, pm_s_ifCond_eq, pm_s_ifCond_ne, pm_s_iload_n, pm_s_invokevirtual, pm_s_ireturn, ct_X7_lets, pS, pR, pC, pE, pL, -Int32.not_le, -Int32.not_lt, -Int64.not_le, -Int64.not_lt, -List.getD_eq_getElem?_getD, pb_eq0]
      have h2' : ¬ y = nI 0 := h2
      refine ⟨fun h3 => good (by rw [h, h3]; simp), fun h3 => bad (by rw [h3, decide_eq_false h2']; simp)⟩
  · exact hT.elim
def tt_X7_house : pm_T := fun args M k => match args with
  | [.ref 0, .int x] => ∃ A, okA A ∧ MY M A ∧ k (some (.int (fHouse A x))) M
  | _ => False
abbrev ct_X7_house : List pm_C := [(true, 111, 7, 3, (some .boolean), tt_X7_in)]
set_option maxHeartbeats 4000000 in
theorem sm_X7_house  : pm_Sem SHy yX7_house cX7_house 2 (some .int) 2 tt_X7_house := by
  refine pm_Sem_intro bl_X7_house ct_X7_house cs_X7_house rfl (List.forall_mem_cons.mpr ⟨⟨_, _, _, _, sm_X7_in, by decide, cm_X7_in, by decide +kernel⟩, fun _ h => absurd h List.not_mem_nil⟩) ck_X7_house (by decide +kernel) (by decide) ?_
  intro X k hX args M hT
  have hb0 := hX 0 bk_X7_house_0 (List.mem_of_getElem? (i := 0) rfl)
  have hb23 := hX 23 bk_X7_house_23 (List.mem_of_getElem? (i := 1) rfl)
  have hb25 := hX 25 bk_X7_house_25 (List.mem_of_getElem? (i := 2) rfl)
  clear hX
  unfold tt_X7_house at hT; split at hT
  · next x =>
    obtain ⟨A, hA, hM, hT⟩ := hT
    have hs := hA.1.2.1
    have m0 := hM.1.2.1
    unfold fHouse at hT
    refine ⟨by simp [lg_sl, Value.category], ?_⟩
    have h25 : ∀ v, k (some (.int v)) M → X 25 [] [.int v] M := by
      intro v hv
      refine hb25 _ _ _ ?_
      simp (maxSteps := 2000000) [bk_X7_house_0, bk_X7_house_23, bk_X7_house_25, pm_arr, pm_call, pm_e_c0, pm_e_c1, pm_e_cti, pm_e_ctl, pm_e_ctr, pm_e_go, pm_e_i, pm_e_ii, pm_e_ldi, pm_e_ldr, pm_e_lk, pm_e_r, pm_e_ri, pm_e_rm0, pm_e_rm1, pm_e_rs0, pm_e_rs1, pm_e_wp0, pm_e_wp1, pm_f2, pm_f3, pm_fld, pm_fv, pm_obj, pm_recv, pm_s_aload_n, pm_s_bipush, pm_s_getfield, pm_s_goto, pm_s_iaload, pm_s_iconst, pm_s_ifCond_eq, pm_s_iload_n, pm_s_invokestatic, pm_s_ireturn, pm_s_isub, ct_X7_house, tt_X7_in, pS, pR, pC, pE, pL, -Int32.not_le, -Int32.not_lt, -Int64.not_le, -Int64.not_lt, -List.getD_eq_getElem?_getD]
      exact hv
    refine hb0 _ _ _ ?_
    simp (maxSteps := 2000000) [bk_X7_house_0, bk_X7_house_23, bk_X7_house_25, pm_arr, pm_call, pm_e_c0, pm_e_c1, pm_e_cti, pm_e_ctl, pm_e_ctr, pm_e_go, pm_e_i, pm_e_ii, pm_e_ldi, pm_e_ldr, pm_e_lk, pm_e_r, pm_e_ri, pm_e_rm0, pm_e_rm1, pm_e_rs0, pm_e_rs1, pm_e_wp0, pm_e_wp1, pm_f2, pm_f3, pm_fld, pm_fv, pm_obj, pm_recv, pm_s_aload_n, pm_s_bipush, pm_s_getfield, pm_s_goto, pm_s_iaload, pm_s_iconst, pm_s_ifCond_eq, pm_s_iload_n, pm_s_invokestatic, pm_s_ireturn, pm_s_isub, ct_X7_house, tt_X7_in, pS, pR, pC, pE, pL, -Int32.not_le, -Int32.not_lt, -Int64.not_le, -Int64.not_lt, -List.getD_eq_getElem?_getD, lv_args, sy_0, sy_5, m0, pb_eq0]
    refine ⟨fun h => ?_, fun h => ?_⟩
    · rw [if_neg (by rw [show wi x (nI 0) (nI (pS (aP A)) - nI 1) = false from h]; simp)] at hT
      refine hb23 _ _ _ ?_
      simp (maxSteps := 2000000) [bk_X7_house_0, bk_X7_house_23, bk_X7_house_25, pm_arr, pm_call, pm_e_c0, pm_e_c1, pm_e_cti, pm_e_ctl, pm_e_ctr, pm_e_go, pm_e_i, pm_e_ii, pm_e_ldi, pm_e_ldr, pm_e_lk, pm_e_r, pm_e_ri, pm_e_rm0, pm_e_rm1, pm_e_rs0, pm_e_rs1, pm_e_wp0, pm_e_wp1, pm_f2, pm_f3, pm_fld, pm_fv, pm_obj, pm_recv, pm_s_aload_n, pm_s_bipush, pm_s_getfield, pm_s_goto, pm_s_iaload, pm_s_iconst, pm_s_ifCond_eq, pm_s_iload_n, pm_s_invokestatic, pm_s_ireturn, pm_s_isub, ct_X7_house, tt_X7_in, pS, pR, pC, pE, pL, -Int32.not_le, -Int32.not_lt, -Int64.not_le, -Int64.not_lt, -List.getD_eq_getElem?_getD]
      exact h25 _ hT
    · rw [if_pos (show wi x (nI 0) (nI (pS (aP A)) - nI 1) = true from h)] at hT
      obtain ⟨x1, x2⟩ := wi_lt (n := pS (aP A)) (by omega) h
      have hh : M.1 5 (tn x) = _ := hM.2.1.h (show tn x < 4 by omega)
      rw [x1, ni_in (by omega), ni_cl (by omega), hh]
      exact ⟨by omega, h25 _ hT⟩
  · exact hT.elim
def tt_X7_cell : pm_T := fun args M k => match args with
  | [.ref 0, .int x] => ∃ A, okA A ∧ MY M A ∧ k (some (.int (fCell A x))) M
  | _ => False
abbrev ct_X7_cell : List pm_C := [(true, 111, 7, 3, (some .boolean), tt_X7_in)]
set_option maxHeartbeats 4000000 in
theorem sm_X7_cell  : pm_Sem SHy yX7_cell cX7_cell 2 (some .int) 2 tt_X7_cell := by
  refine pm_Sem_intro bl_X7_cell ct_X7_cell cs_X7_cell rfl (List.forall_mem_cons.mpr ⟨⟨_, _, _, _, sm_X7_in, by decide, cm_X7_in, by decide +kernel⟩, fun _ h => absurd h List.not_mem_nil⟩) ck_X7_cell (by decide +kernel) (by decide) ?_
  intro X k hX args M hT
  have hb0 := hX 0 bk_X7_cell_0 (List.mem_of_getElem? (i := 0) rfl)
  have hb23 := hX 23 bk_X7_cell_23 (List.mem_of_getElem? (i := 1) rfl)
  have hb25 := hX 25 bk_X7_cell_25 (List.mem_of_getElem? (i := 2) rfl)
  clear hX
  unfold tt_X7_cell at hT; split at hT
  · next x =>
    obtain ⟨A, hA, hM, hT⟩ := hT
    have hs := hA.1.2.2.2.2.2.2.2.1
    have m3 := hM.1.2.2.2.2.1
    unfold fCell at hT
    refine ⟨by simp [lg_sl, Value.category], ?_⟩
    have h25 : ∀ v, k (some (.int v)) M → X 25 [] [.int v] M := by
      intro v hv
      refine hb25 _ _ _ ?_
      simp (maxSteps := 2000000) [bk_X7_cell_0, bk_X7_cell_23, bk_X7_cell_25, pm_arr, pm_call, pm_e_c0, pm_e_c1, pm_e_cti, pm_e_ctl, pm_e_ctr, pm_e_go, pm_e_i, pm_e_ii, pm_e_ldi, pm_e_ldr, pm_e_lk, pm_e_r, pm_e_ri, pm_e_rm0, pm_e_rm1, pm_e_rs0, pm_e_rs1, pm_e_wp0, pm_e_wp1, pm_f2, pm_f3, pm_fld, pm_fv, pm_obj, pm_recv, pm_s_aload_n, pm_s_bipush, pm_s_getfield, pm_s_goto, pm_s_iaload, pm_s_iconst, pm_s_ifCond_eq, pm_s_iload_n, pm_s_invokestatic, pm_s_ireturn, pm_s_isub, ct_X7_cell, tt_X7_in, pS, pR, pC, pE, pL, -Int32.not_le, -Int32.not_lt, -Int64.not_le, -Int64.not_lt, -List.getD_eq_getElem?_getD]
      exact hv
    refine hb0 _ _ _ ?_
    simp (maxSteps := 2000000) [bk_X7_cell_0, bk_X7_cell_23, bk_X7_cell_25, pm_arr, pm_call, pm_e_c0, pm_e_c1, pm_e_cti, pm_e_ctl, pm_e_ctr, pm_e_go, pm_e_i, pm_e_ii, pm_e_ldi, pm_e_ldr, pm_e_lk, pm_e_r, pm_e_ri, pm_e_rm0, pm_e_rm1, pm_e_rs0, pm_e_rs1, pm_e_wp0, pm_e_wp1, pm_f2, pm_f3, pm_fld, pm_fv, pm_obj, pm_recv, pm_s_aload_n, pm_s_bipush, pm_s_getfield, pm_s_goto, pm_s_iaload, pm_s_iconst, pm_s_ifCond_eq, pm_s_iload_n, pm_s_invokestatic, pm_s_ireturn, pm_s_isub, ct_X7_cell, tt_X7_in, pS, pR, pC, pE, pL, -Int32.not_le, -Int32.not_lt, -Int64.not_le, -Int64.not_lt, -List.getD_eq_getElem?_getD, lv_args, sy_0, sy_4, m3, pb_eq0]
    refine ⟨fun h => ?_, fun h => ?_⟩
    · rw [if_neg (by rw [show wi x (nI 0) (nI (pE (aP A)) - nI 1) = false from h]; simp)] at hT
      refine hb23 _ _ _ ?_
      simp (maxSteps := 2000000) [bk_X7_cell_0, bk_X7_cell_23, bk_X7_cell_25, pm_arr, pm_call, pm_e_c0, pm_e_c1, pm_e_cti, pm_e_ctl, pm_e_ctr, pm_e_go, pm_e_i, pm_e_ii, pm_e_ldi, pm_e_ldr, pm_e_lk, pm_e_r, pm_e_ri, pm_e_rm0, pm_e_rm1, pm_e_rs0, pm_e_rs1, pm_e_wp0, pm_e_wp1, pm_f2, pm_f3, pm_fld, pm_fv, pm_obj, pm_recv, pm_s_aload_n, pm_s_bipush, pm_s_getfield, pm_s_goto, pm_s_iaload, pm_s_iconst, pm_s_ifCond_eq, pm_s_iload_n, pm_s_invokestatic, pm_s_ireturn, pm_s_isub, ct_X7_cell, tt_X7_in, pS, pR, pC, pE, pL, -Int32.not_le, -Int32.not_lt, -Int64.not_le, -Int64.not_lt, -List.getD_eq_getElem?_getD]
      exact h25 _ hT
    · rw [if_pos (show wi x (nI 0) (nI (pE (aP A)) - nI 1) = true from h)] at hT
      obtain ⟨x1, x2⟩ := wi_lt (n := pE (aP A)) (by omega) h
      have hh : M.1 4 (tn x) = _ := hM.2.1.e (show tn x < 2 by omega)
      rw [x1, ni_in (by omega), ni_cl (by omega), hh]
      exact ⟨by omega, h25 _ hT⟩
  · exact hT.elim
def tt_X7_card : pm_T := fun args M k => match args with
  | [.ref 0, .int x, .int y] => ∃ A, okA A ∧ MY M A ∧ k (some (.int (fCard A x y))) M
  | _ => False
abbrev ct_X7_card : List pm_C := [(true, 111, 7, 3, (some .boolean), tt_X7_in)]
set_option maxHeartbeats 4000000 in
theorem sm_X7_card  : pm_Sem SHy yX7_card cX7_card 3 (some .int) 2 tt_X7_card := by
  refine pm_Sem_intro bl_X7_card ct_X7_card cs_X7_card rfl (List.forall_mem_cons.mpr ⟨⟨_, _, _, _, sm_X7_in, by decide, cm_X7_in, by decide +kernel⟩, fun _ h => absurd h List.not_mem_nil⟩) ck_X7_card (by decide +kernel) (by decide) ?_
  intro X k hX args M hT
  have hb0 := hX 0 bk_X7_card_0 (List.mem_of_getElem? (i := 0) rfl)
  have hb17 := hX 17 bk_X7_card_17 (List.mem_of_getElem? (i := 1) rfl)
  have hb47 := hX 47 bk_X7_card_47 (List.mem_of_getElem? (i := 2) rfl)
  have hb48 := hX 48 bk_X7_card_48 (List.mem_of_getElem? (i := 3) rfl)
  clear hX
  unfold tt_X7_card at hT; split at hT
  · next x y =>
    obtain ⟨A, hA, hM, hT⟩ := hT
    have hs := hA.1.2.2.2.2.2.2.1
    have m2 := hM.1.2.2.2.1
    unfold fCard at hT
    refine ⟨by simp [lg_sl, Value.category], ?_⟩
    have h48 : ∀ v, k (some (.int v)) M → X 48 [] [.int v] M := by
      intro v hv
      refine hb48 _ _ _ ?_
      simp (maxSteps := 2000000) [bk_X7_card_0, bk_X7_card_17, bk_X7_card_47, bk_X7_card_48, pm_arr, pm_call, pm_e_c0, pm_e_c1, pm_e_cti, pm_e_ctl, pm_e_ctr, pm_e_go, pm_e_i, pm_e_ii, pm_e_ldi, pm_e_ldr, pm_e_lk, pm_e_r, pm_e_ri, pm_e_rm0, pm_e_rm1, pm_e_rs0, pm_e_rs1, pm_e_wp0, pm_e_wp1, pm_f2, pm_f3, pm_fld, pm_fv, pm_obj, pm_recv, pm_s_aload_n, pm_s_bipush, pm_s_getfield, pm_s_goto, pm_s_iadd, pm_s_iaload, pm_s_iconst, pm_s_ifCond_eq, pm_s_ifCond_ne, pm_s_iload_n, pm_s_imul, pm_s_invokestatic, pm_s_ireturn, pm_s_isub, ct_X7_card, tt_X7_in, pS, pR, pC, pE, pL, -Int32.not_le, -Int32.not_lt, -Int64.not_le, -Int64.not_lt, -List.getD_eq_getElem?_getD]
      exact hv
    refine hb0 _ _ _ ?_
    simp (maxSteps := 2000000) [bk_X7_card_0, bk_X7_card_17, bk_X7_card_47, bk_X7_card_48, pm_arr, pm_call, pm_e_c0, pm_e_c1, pm_e_cti, pm_e_ctl, pm_e_ctr, pm_e_go, pm_e_i, pm_e_ii, pm_e_ldi, pm_e_ldr, pm_e_lk, pm_e_r, pm_e_ri, pm_e_rm0, pm_e_rm1, pm_e_rs0, pm_e_rs1, pm_e_wp0, pm_e_wp1, pm_f2, pm_f3, pm_fld, pm_fv, pm_obj, pm_recv, pm_s_aload_n, pm_s_bipush, pm_s_getfield, pm_s_goto, pm_s_iadd, pm_s_iaload, pm_s_iconst, pm_s_ifCond_eq, pm_s_ifCond_ne, pm_s_iload_n, pm_s_imul, pm_s_invokestatic, pm_s_ireturn, pm_s_isub, ct_X7_card, tt_X7_in, pS, pR, pC, pE, pL, -Int32.not_le, -Int32.not_lt, -Int64.not_le, -Int64.not_lt, -List.getD_eq_getElem?_getD, lv_args, sy_0, m2, pb_eq0]
    refine ⟨fun h => ?_, fun h => ?_⟩
    · rw [if_pos (show colOK (aP A) x = true from h)] at hT
      obtain ⟨x1, x2⟩ := wi_lt (n := pC (aP A)) (by omega) h
      have hn : M.1 2 (tn x) = _ := hM.2.1.n (show tn x < 4 by omega)
      have hl12 := ((hA.wf.ok hA.1).1 (tn x) (by omega)).1
      refine hb17 _ _ _ ?_
      simp (maxSteps := 2000000) [bk_X7_card_0, bk_X7_card_17, bk_X7_card_47, bk_X7_card_48, pm_arr, pm_call, pm_e_c0, pm_e_c1, pm_e_cti, pm_e_ctl, pm_e_ctr, pm_e_go, pm_e_i, pm_e_ii, pm_e_ldi, pm_e_ldr, pm_e_lk, pm_e_r, pm_e_ri, pm_e_rm0, pm_e_rm1, pm_e_rs0, pm_e_rs1, pm_e_wp0, pm_e_wp1, pm_f2, pm_f3, pm_fld, pm_fv, pm_obj, pm_recv, pm_s_aload_n, pm_s_bipush, pm_s_getfield, pm_s_goto, pm_s_iadd, pm_s_iaload, pm_s_iconst, pm_s_ifCond_eq, pm_s_ifCond_ne, pm_s_iload_n, pm_s_imul, pm_s_invokestatic, pm_s_ireturn, pm_s_isub, ct_X7_card, tt_X7_in, pS, pR, pC, pE, pL, -Int32.not_le, -Int32.not_lt, -Int64.not_le, -Int64.not_lt, -List.getD_eq_getElem?_getD, sy_0, sy_2, sy_3, pb_eq0]
      rw [x1, ni_in (by omega), ni_cl (by omega), hn]
      refine ⟨by omega, fun h2 => ?_, fun h2 => ?_⟩
      · refine hb47 _ _ _ ?_
        simp (maxSteps := 2000000) [bk_X7_card_0, bk_X7_card_17, bk_X7_card_47, bk_X7_card_48, pm_arr, pm_call, pm_e_c0, pm_e_c1, pm_e_cti, pm_e_ctl, pm_e_ctr, pm_e_go, pm_e_i, pm_e_ii, pm_e_ldi, pm_e_ldr, pm_e_lk, pm_e_r, pm_e_ri, pm_e_rm0, pm_e_rm1, pm_e_rs0, pm_e_rs1, pm_e_wp0, pm_e_wp1, pm_f2, pm_f3, pm_fld, pm_fv, pm_obj, pm_recv, pm_s_aload_n, pm_s_bipush, pm_s_getfield, pm_s_goto, pm_s_iadd, pm_s_iaload, pm_s_iconst, pm_s_ifCond_eq, pm_s_ifCond_ne, pm_s_iload_n, pm_s_imul, pm_s_invokestatic, pm_s_ireturn, pm_s_isub, ct_X7_card, tt_X7_in, pS, pR, pC, pE, pL, -Int32.not_le, -Int32.not_lt, -Int64.not_le, -Int64.not_lt, -List.getD_eq_getElem?_getD]
        rw [if_neg (by rw [h2]; simp)] at hT
        exact h48 _ hT
      · rw [if_pos h2] at hT
        obtain ⟨y1, y2⟩ := wi_lt (by omega) h2
        have hc : M.1 3 (12 * tn x + tn y) = _ := hM.2.1.c (show tn x < 4 by omega) y2
        rw [y1, ni_mul, ni_add, ni_in (by omega), ni_cl (by omega), hc]
        exact ⟨by omega, h48 _ hT⟩
    · rw [if_neg (by rw [show colOK (aP A) x = false from h]; simp)] at hT
      exact hT
  · exact hT.elim
