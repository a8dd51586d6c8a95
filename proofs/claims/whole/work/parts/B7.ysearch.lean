/-! THE REFERENCE's SEARCH -/
/-- what the table tells of the shortest ways -/
def MK (P : Pm) (ec : Nat) (S0 : St) (d n : Nat) (R : Nat → St) (lv : Nat → Nat) : Prop :=
  (∀ l T, l.length < d → run P ec l S0 = some T → ¬ dnS P T) ∧
  (∀ l T, l.length < d → run P ec l S0 = some T → ∃ k, k < n ∧ fkN (R k) = fkN T ∧ lv k ≤ l.length) ∧
  (∀ k, k < n → FW P ec (R k) ∧ ¬ dnS P (R k) ∧ ∃ l T, l.length = lv k ∧ run P ec l S0 = some T ∧ fkN T = fkN (R k)) ∧
  (∀ j k, j ≤ k → k < n → lv j ≤ lv k) ∧ (∀ j k, j < n → k < n → fkN (R j) = fkN (R k) → j = k) ∧ ∃ l T, l.length = d ∧ run P ec l S0 = some T ∧ dnS P T
def SI (P : Pm) (ec : Nat) (S0 : St) (m : Nat) (M0 M : pm_M) (d lo hi i c n : Nat) (R : Nat → St) (lv : Nat → Nat) (sp : Bool) : Prop :=
  BJ P ec S0 m d lo hi i c n (fun s => cnS P ec (R s)) lv sp ∧ (∀ j k, j ≤ k → k < n → lv j ≤ lv k) ∧ TB M P ec n R lv (fun _ => false) ∧ M.1 0 22 = nI ec ∧ yfr [10, 11, 12, 13, 14, 15, 16, 17, 18, 19] [22, 23] M0 M
def SF (P : Pm) (ec : Nat) (S0 : St) (m : Nat) (M0 M : pm_M) (d : Nat) : Prop :=
  solD P ec S0 m d ∧ d ≤ 4000 ∧ (∃ n R lv, TB M P ec n R lv (fun _ => false) ∧ MK P ec S0 d n (fun s => cnS P ec (R s)) lv) ∧ M.1 0 22 = nI ec ∧ yfr [10, 11, 12, 13, 14, 15, 16, 17, 18, 19] [22, 23] M0 M
theorem SI.fr {P : Pm} {ec : Nat} {S0 : St} {m : Nat} {M0 M M' : pm_M} {d lo hi i c n : Nat} {R : Nat → St} {lv : Nat → Nat} {sp : Bool} (h : SI P ec S0 m M0 M d lo hi i c n R lv sp) {ps : List Nat} (hf : yfr ps [] M M') (hp : ∀ q ∈ ps, q ∈ [10, 11, 12, 13, 18, 19]) : SI P ec S0 m M0 M' d lo hi i c n R lv sp := by
  obtain ⟨a, b, c, e, f⟩ := h
  have no : ∀ q ∈ [14, 15, 16, 17], q ∉ ps := fun q hq h => by
    have := hp q h
    simp at hq this; omega
  exact ⟨a, b, c.mv hf no (by simp), by rw [hf.f (by simp)]; exact e, f.trans (hf.mono (fun q hq => by have := hp q hq; simp at this ⊢; omega) (by simp))⟩
/-- the code of the m-th pair -/
abbrev cd6 (m : Nat) : Nat := 8 * (m / 6) + m % 6
theorem SI.step {P : Pm} {ec : Nat} {S0 : St} {m : Nat} {M0 M : pm_M} {d lo hi i n mm : Nat} {R : Nat → St} {lv : Nat → Nat} {sp : Bool} (hP : okP P) (h : SI P ec S0 m M0 M d lo hi i (cd6 mm + 1) n R lv sp) : SI P ec S0 m M0 M d lo hi i (cd6 (mm + 1)) n R lv sp := by
  obtain ⟨a, b⟩ := h
  refine ⟨a.skip (fun x h1 h2 => ?_), b⟩
  cases q : canN P ec (cnS P ec (R i)) (x / 8) (x % 8) with
  | false => rfl
  | true =>
    have := can_b6 hP q
    unfold cd6 at h1 h2
    omega
theorem SI.skip {P : Pm} {ec : Nat} {S0 : St} {m : Nat} {M0 M : pm_M} {d lo hi i n mm : Nat} {R : Nat → St} {lv : Nat → Nat} {sp : Bool} (h : SI P ec S0 m M0 M d lo hi i (cd6 mm) n R lv sp) (hc : canN P ec (cnS P ec (R i)) (mm / 6) (mm % 6) = false) : SI P ec S0 m M0 M d lo hi i (cd6 mm + 1) n R lv sp := by
  obtain ⟨a, b⟩ := h
  refine ⟨a.skip (fun x h1 h2 => ?_), b⟩
  have e : x = cd6 mm := by omega
  rw [e]
  have e1 : cd6 mm / 8 = mm / 6 := by unfold cd6; omega
  have e2 : cd6 mm % 8 = mm % 6 := by unfold cd6; omega
  rw [e1, e2]; exact hc
theorem cd6_e (mm : Nat) : cd6 mm / 8 = mm / 6 ∧ cd6 mm % 8 = mm % 6 := by unfold cd6; omega
theorem up_ff (n : Nat) : up (fun _ => false) n false = fun _ => false := by
  funext j; unfold up; split <;> rfl
theorem SI.found {P : Pm} {ec : Nat} {S0 : St} {m : Nat} {M0 M : pm_M} {d lo hi i n mm : Nat} {R : Nat → St} {lv : Nat → Nat} {sp : Bool} (hP : okP P) (he : ec ≤ 2) (h0 : FW P ec S0) (hm : m ≤ 4000) (h : SI P ec S0 m M0 M d lo hi i (cd6 mm) n R lv sp) (hi' : i < hi) (hdh : d ≤ hi) (hc : canN P ec (cnS P ec (R i)) (mm / 6) (mm % 6) = true) (hd : dnS P (aMv P ec (cnS P ec (R i)) (mm / 6) (mm % 6))) : SF P ec S0 m M0 M d := by
  obtain ⟨a, b, c, e, f⟩ := h
  obtain ⟨e1, e2⟩ := cd6_e mm
  rw [← e1, ← e2] at hc hd
  have s := a.found hP he h0 hi' hc hd
  have g := a.ge hdh
  refine ⟨s, by omega, ⟨n, R, lv, c, (a.covN hP he h0).1, fun l T h1 h2 => ?_, a.2.1, b, a.2.2.2.1, s.1⟩, e, f⟩
  obtain ⟨j, j1, j2, j3⟩ := a.2.2.2.2.1 l T h1 h2
  have := a.1
  exact ⟨j, by omega, j2, j3⟩
def tt_X7_search : pm_T := fun args M k => match args with
  | [.ref 0, .int x, .int y] => ∃ (P : Pm) (ec : Nat) (S : St) (m : Nat), x = nI ec ∧ ec ≤ 2 ∧ y = nI m ∧ 1 ≤ m ∧ m ≤ 4000 ∧ DkY M P ∧ SdY M 2 0 (pR P) S ∧ FW P ec S ∧ ∀ M' z, slv P ec S m z → yfr [10, 11, 12, 13, 14, 15, 16, 17, 18, 19] [22, 23] M M' → M'.1 0 22 = nI ec → (∀ d, d ≤ 4000 → z = nI d → ∃ n R lv, TB M' P ec n R lv (fun _ => false) ∧ MK P ec S d n (fun s => cnS P ec (R s)) lv) → k (some (.int z)) M'
  | _ => False
abbrev ct_X7_search : List pm_C := [(false, 179, 7, 1, none, tt_X7_tryStand), (false, 210, 7, 1, none, tt_X7_makeKey), (false, 213, 7, 1, (some .boolean), tt_X7_isDone), (false, 217, 7, 2, none, tt_X7_stores), (false, 176, 7, 4, (some .boolean), tt_X7_isMove), (false, 220, 7, 2, none, tt_X7_trying), (false, 182, 7, 3, (some .int), tt_X7_whyNot), (false, 186, 7, 3, none, tt_X7_doMove), (false, 223, 7, 1, (some .int), tt_X7_place)]
set_option maxHeartbeats 4000000 in
theorem sm_X7_search  : pm_Sem SHy yX7_search cX7_search 10 (some .int) 4 tt_X7_search := by
  refine pm_Sem_intro bl_X7_search ct_X7_search cs_X7_search rfl (List.forall_mem_cons.mpr ⟨⟨_, _, _, _, sm_X7_tryStand, by decide, cm_X7_tryStand, by decide +kernel⟩, List.forall_mem_cons.mpr ⟨⟨_, _, _, _, sm_X7_makeKey, by decide, cm_X7_makeKey, by decide +kernel⟩, List.forall_mem_cons.mpr ⟨⟨_, _, _, _, sm_X7_isDone, by decide, cm_X7_isDone, by decide +kernel⟩, List.forall_mem_cons.mpr ⟨⟨_, _, _, _, sm_X7_stores, by decide, cm_X7_stores, by decide +kernel⟩, List.forall_mem_cons.mpr ⟨⟨_, _, _, _, sm_X7_isMove, by decide, cm_X7_isMove, by decide +kernel⟩, List.forall_mem_cons.mpr ⟨⟨_, _, _, _, sm_X7_trying, by decide, cm_X7_trying, by decide +kernel⟩, List.forall_mem_cons.mpr ⟨⟨_, _, _, _, sm_X7_whyNot, by decide, cm_X7_whyNot, by decide +kernel⟩, List.forall_mem_cons.mpr ⟨⟨_, _, _, _, sm_X7_doMove, by decide, cm_X7_doMove, by decide +kernel⟩, List.forall_mem_cons.mpr ⟨⟨_, _, _, _, sm_X7_place, by decide, cm_X7_place, by decide +kernel⟩, fun _ h => absurd h List.not_mem_nil⟩⟩⟩⟩⟩⟩⟩⟩⟩) ck_X7_search (by decide +kernel) (by decide) ?_
  intro X k hX args M hT
  have hb0 := hX 0 bk_X7_search_0 (List.mem_of_getElem? (i := 0) rfl)
  have hb7 := hX 7 bk_X7_search_7 (List.mem_of_getElem? (i := 1) rfl)
  have hb27 := hX 27 bk_X7_search_27 (List.mem_of_getElem? (i := 2) rfl)
  have hb49 := hX 49 bk_X7_search_49 (List.mem_of_getElem? (i := 3) rfl)
  have hb59 := hX 59 bk_X7_search_59 (List.mem_of_getElem? (i := 4) rfl)
  have hb82 := hX 82 bk_X7_search_82 (List.mem_of_getElem? (i := 5) rfl)
  have hb97 := hX 97 bk_X7_search_97 (List.mem_of_getElem? (i := 6) rfl)
  have hb130 := hX 130 bk_X7_search_130 (List.mem_of_getElem? (i := 7) rfl)
  have hb156 := hX 156 bk_X7_search_156 (List.mem_of_getElem? (i := 8) rfl)
  have hb187 := hX 187 bk_X7_search_187 (List.mem_of_getElem? (i := 9) rfl)
  have hb218 := hX 218 bk_X7_search_218 (List.mem_of_getElem? (i := 10) rfl)
  have hb221 := hX 221 bk_X7_search_221 (List.mem_of_getElem? (i := 11) rfl)
  have hb227 := hX 227 bk_X7_search_227 (List.mem_of_getElem? (i := 12) rfl)
  have hb233 := hX 233 bk_X7_search_233 (List.mem_of_getElem? (i := 13) rfl)
  have hb244 := hX 244 bk_X7_search_244 (List.mem_of_getElem? (i := 14) rfl)
  have hb252 := hX 252 bk_X7_search_252 (List.mem_of_getElem? (i := 15) rfl)
  have hb258 := hX 258 bk_X7_search_258 (List.mem_of_getElem? (i := 16) rfl)
  clear hX
  unfold tt_X7_search at hT; split at hT
  · next x y =>
    obtain ⟨P, ec, S, m, rfl, he, rfl, hm1, hm4, hD, hS, hF, hT⟩ := hT
    have hP := hD.1
    have lS := WF.l12 hP hF
    refine ⟨by simp [lg_sl, Value.category], ?_⟩
    -- the end has been reached
    have h233r : ∀ (M2 : pm_M) (kk e : Nat) (o : Bool), SF P ec S m M M2 (kk + 1) → X 233 [(0, .ref 0), (1, .int (nI ec)), (2, .int (nI m)), (4, .int (nI kk)), (5, .int (nI e)), (6, .int (pb o)), (7, .int (pb true))] [] M2 := by
      intro M2 kk e o hs
      obtain ⟨s1, s2, s3, s4, s5⟩ := hs
      refine hb233 _ _ _ ?_
      simp (maxSteps := 2000000) [bk_X7_search_0, bk_X7_search_7, bk_X7_search_27, bk_X7_search_49, bk_X7_search_59, bk_X7_search_82, bk_X7_search_97, bk_X7_search_130, bk_X7_search_156, bk_X7_search_187, bk_X7_search_218, bk_X7_search_221, bk_X7_search_227, bk_X7_search_233, bk_X7_search_244, bk_X7_search_252, bk_X7_search_258, pm_arr, pm_call, pm_e_c0, pm_e_c1, pm_e_cti, pm_e_ctl, pm_e_ctr, pm_e_go, pm_e_i, pm_e_ii, pm_e_ldi, pm_e_ldr, pm_e_lk, pm_e_r, pm_e_ri, pm_e_rii, pm_e_rm0, pm_e_rm1, pm_e_rs0, pm_e_rs1, pm_e_wp0, pm_e_wp1, pm_f2, pm_f3, pm_fld, pm_fv, pm_obj, pm_recv, pm_s_aload_n, pm_s_bipush, pm_s_getfield, pm_s_goto, pm_s_iadd, pm_s_iaload, pm_s_iastore, pm_s_iconst, pm_s_idiv, pm_s_ifCond_eq, pm_s_ifCond_ne, pm_s_if_icmp_ge, pm_s_iinc, pm_s_iload, pm_s_iload_n, pm_s_invokevirtual, pm_s_irem, pm_s_ireturn, pm_s_istore, pm_s_istore_n, pm_s_putfield, pm_s_sipush, ct_X7_search, pS, pR, pC, pE, pL, -Int32.not_le, -Int32.not_lt, -Int64.not_le, -Int64.not_lt, -List.getD_eq_getElem?_getD, pb_eq0, n6]
      rw [ni_add]
      refine hT M2 _ (Or.inl ⟨kk + 1, rfl, s2, s1⟩) s5 s4 (fun d hd ed => ?_)
      rw [ni_eq (by omega) (by omega)] at ed
      rw [← ed]; exact s3
    have h82r : ∀ (M2 : pm_M) (kk e i : Nat) (o : Bool), SF P ec S m M M2 (kk + 1) → X 82 [(0, .ref 0), (1, .int (nI ec)), (2, .int (nI m)), (4, .int (nI kk)), (5, .int (nI e)), (6, .int (pb o)), (7, .int (pb true)), (8, .int (nI i))] [] M2 := by
      intro M2 kk e i o hs
      refine hb82 _ _ _ ?_
      simp (maxSteps := 2000000) [bk_X7_search_0, bk_X7_search_7, bk_X7_search_27, bk_X7_search_49, bk_X7_search_59, bk_X7_search_82, bk_X7_search_97, bk_X7_search_130, bk_X7_search_156, bk_X7_search_187, bk_X7_search_218, bk_X7_search_221, bk_X7_search_227, bk_X7_search_233, bk_X7_search_244, bk_X7_search_252, bk_X7_search_258, pm_arr, pm_call, pm_e_c0, pm_e_c1, pm_e_cti, pm_e_ctl, pm_e_ctr, pm_e_go, pm_e_i, pm_e_ii, pm_e_ldi, pm_e_ldr, pm_e_lk, pm_e_r, pm_e_ri, pm_e_rii, pm_e_rm0, pm_e_rm1, pm_e_rs0, pm_e_rs1, pm_e_wp0, pm_e_wp1, pm_f2, pm_f3, pm_fld, pm_fv, pm_obj, pm_recv, pm_s_aload_n, pm_s_bipush, pm_s_getfield, pm_s_goto, pm_s_iadd, pm_s_iaload, pm_s_iastore, pm_s_iconst, pm_s_idiv, pm_s_ifCond_eq, pm_s_ifCond_ne, pm_s_if_icmp_ge, pm_s_iinc, pm_s_iload, pm_s_iload_n, pm_s_invokevirtual, pm_s_irem, pm_s_ireturn, pm_s_istore, pm_s_istore_n, pm_s_putfield, pm_s_sipush, ct_X7_search, pS, pR, pC, pE, pL, -Int32.not_le, -Int32.not_lt, -Int64.not_le, -Int64.not_lt, -List.getD_eq_getElem?_getD, pb_eq0, n6]
      exact h233r M2 kk e o hs
    have h227r : ∀ (M2 : pm_M) (kk e i : Nat) (o : Bool), SF P ec S m M M2 (kk + 1) → X 227 [(0, .ref 0), (1, .int (nI ec)), (2, .int (nI m)), (4, .int (nI kk)), (5, .int (nI e)), (6, .int (pb o)), (7, .int (pb true)), (8, .int (nI i))] [] M2 := by
      intro M2 kk e i o hs
      refine hb227 _ _ _ ?_
      simp (maxSteps := 2000000) [bk_X7_search_0, bk_X7_search_7, bk_X7_search_27, bk_X7_search_49, bk_X7_search_59, bk_X7_search_82, bk_X7_search_97, bk_X7_search_130, bk_X7_search_156, bk_X7_search_187, bk_X7_search_218, bk_X7_search_221, bk_X7_search_227, bk_X7_search_233, bk_X7_search_244, bk_X7_search_252, bk_X7_search_258, pm_arr, pm_call, pm_e_c0, pm_e_c1, pm_e_cti, pm_e_ctl, pm_e_ctr, pm_e_go, pm_e_i, pm_e_ii, pm_e_ldi, pm_e_ldr, pm_e_lk, pm_e_r, pm_e_ri, pm_e_rii, pm_e_rm0, pm_e_rm1, pm_e_rs0, pm_e_rs1, pm_e_wp0, pm_e_wp1, pm_f2, pm_f3, pm_fld, pm_fv, pm_obj, pm_recv, pm_s_aload_n, pm_s_bipush, pm_s_getfield, pm_s_goto, pm_s_iadd, pm_s_iaload, pm_s_iastore, pm_s_iconst, pm_s_idiv, pm_s_ifCond_eq, pm_s_ifCond_ne, pm_s_if_icmp_ge, pm_s_iinc, pm_s_iload, pm_s_iload_n, pm_s_invokevirtual, pm_s_irem, pm_s_ireturn, pm_s_istore, pm_s_istore_n, pm_s_putfield, pm_s_sipush, ct_X7_search, pS, pR, pC, pE, pL, -Int32.not_le, -Int32.not_lt, -Int64.not_le, -Int64.not_lt, -List.getD_eq_getElem?_getD, n6]
      rw [ni_add]
      exact h82r M2 kk e (i + 1) o hs
    have h97r : ∀ (M2 : pm_M) (kk e i mm : Nat) (o : Bool), SF P ec S m M M2 (kk + 1) → X 97 [(0, .ref 0), (1, .int (nI ec)), (2, .int (nI m)), (4, .int (nI kk)), (5, .int (nI e)), (6, .int (pb o)), (7, .int (pb true)), (8, .int (nI i)), (9, .int (nI mm))] [] M2 := by
      intro M2 kk e i mm o hs
      refine hb97 _ _ _ ?_
      simp (maxSteps := 2000000) [bk_X7_search_0, bk_X7_search_7, bk_X7_search_27, bk_X7_search_49, bk_X7_search_59, bk_X7_search_82, bk_X7_search_97, bk_X7_search_130, bk_X7_search_156, bk_X7_search_187, bk_X7_search_218, bk_X7_search_221, bk_X7_search_227, bk_X7_search_233, bk_X7_search_244, bk_X7_search_252, bk_X7_search_258, pm_arr, pm_call, pm_e_c0, pm_e_c1, pm_e_cti, pm_e_ctl, pm_e_ctr, pm_e_go, pm_e_i, pm_e_ii, pm_e_ldi, pm_e_ldr, pm_e_lk, pm_e_r, pm_e_ri, pm_e_rii, pm_e_rm0, pm_e_rm1, pm_e_rs0, pm_e_rs1, pm_e_wp0, pm_e_wp1, pm_f2, pm_f3, pm_fld, pm_fv, pm_obj, pm_recv, pm_s_aload_n, pm_s_bipush, pm_s_getfield, pm_s_goto, pm_s_iadd, pm_s_iaload, pm_s_iastore, pm_s_iconst, pm_s_idiv, pm_s_ifCond_eq, pm_s_ifCond_ne, pm_s_if_icmp_ge, pm_s_iinc, pm_s_iload, pm_s_iload_n, pm_s_invokevirtual, pm_s_irem, pm_s_ireturn, pm_s_istore, pm_s_istore_n, pm_s_putfield, pm_s_sipush, ct_X7_search, pS, pR, pC, pE, pL, -Int32.not_le, -Int32.not_lt, -Int64.not_le, -Int64.not_lt, -List.getD_eq_getElem?_getD, pb_eq0, n6]
      exact h227r M2 kk e i o hs
    have h221r : ∀ (M2 : pm_M) (kk e i mm : Nat) (o : Bool), SF P ec S m M M2 (kk + 1) → X 221 [(0, .ref 0), (1, .int (nI ec)), (2, .int (nI m)), (4, .int (nI kk)), (5, .int (nI e)), (6, .int (pb o)), (7, .int (pb true)), (8, .int (nI i)), (9, .int (nI mm))] [] M2 := by
      intro M2 kk e i mm o hs
      refine hb221 _ _ _ ?_
      simp (maxSteps := 2000000) [bk_X7_search_0, bk_X7_search_7, bk_X7_search_27, bk_X7_search_49, bk_X7_search_59, bk_X7_search_82, bk_X7_search_97, bk_X7_search_130, bk_X7_search_156, bk_X7_search_187, bk_X7_search_218, bk_X7_search_221, bk_X7_search_227, bk_X7_search_233, bk_X7_search_244, bk_X7_search_252, bk_X7_search_258, pm_arr, pm_call, pm_e_c0, pm_e_c1, pm_e_cti, pm_e_ctl, pm_e_ctr, pm_e_go, pm_e_i, pm_e_ii, pm_e_ldi, pm_e_ldr, pm_e_lk, pm_e_r, pm_e_ri, pm_e_rii, pm_e_rm0, pm_e_rm1, pm_e_rs0, pm_e_rs1, pm_e_wp0, pm_e_wp1, pm_f2, pm_f3, pm_fld, pm_fv, pm_obj, pm_recv, pm_s_aload_n, pm_s_bipush, pm_s_getfield, pm_s_goto, pm_s_iadd, pm_s_iaload, pm_s_iastore, pm_s_iconst, pm_s_idiv, pm_s_ifCond_eq, pm_s_ifCond_ne, pm_s_if_icmp_ge, pm_s_iinc, pm_s_iload, pm_s_iload_n, pm_s_invokevirtual, pm_s_irem, pm_s_ireturn, pm_s_istore, pm_s_istore_n, pm_s_putfield, pm_s_sipush, ct_X7_search, pS, pR, pC, pE, pL, -Int32.not_le, -Int32.not_lt, -Int64.not_le, -Int64.not_lt, -List.getD_eq_getElem?_getD, n6]
      rw [ni_add]
      exact h97r M2 kk e i (mm + 1) o hs
    -- the levels
    have levels : ∀ (f kk lo n : Nat) (M2 : pm_M) (R : Nat → St) (lv : Nat → Nat), 4001 ≤ kk + f → kk ≤ lo → SI P ec S m M M2 (kk + 1) lo n lo 0 n R lv false → X 59 [(0, .ref 0), (1, .int (nI ec)), (2, .int (nI m)), (3, .int (nI lo)), (4, .int (nI kk))] [] M2 := by
      intro f
      induction f with
      | zero =>
        intro kk lo n M2 R lv a1 a2 hI
        exfalso
        have := hI.1.1; omega
      | succ f ih =>
        intro kk lo n M2 R lv a1 a2 hI
        have hb1 := hI.1.1
        have n2 := hI.2.2.1.1
        by_cases hlo : lo < n
        · -- behind the level
          have h233 : ∀ (M3 : pm_M) (n3 : Nat) (R3 : Nat → St) (lv3 : Nat → Nat) (sp : Bool), SI P ec S m M M3 (kk + 1) lo n n 0 n3 R3 lv3 sp → X 233 [(0, .ref 0), (1, .int (nI ec)), (2, .int (nI m)), (4, .int (nI kk)), (5, .int (nI n)), (6, .int (pb sp)), (7, .int (pb false))] [] M3 := by
            intro M3 n3 R3 lv3 sp h3
            obtain ⟨b3, mo3, t3, e3, f3⟩ := id h3
            refine hb233 _ _ _ ?_
            simp (maxSteps := 2000000) [bk_X7_search_0, bk_X7_search_7, bk_X7_search_27, bk_X7_search_49, bk_X7_search_59, bk_X7_search_82, bk_X7_search_97, bk_X7_search_130, bk_X7_search_156, bk_X7_search_187, bk_X7_search_218, bk_X7_search_221, bk_X7_search_227, bk_X7_search_233, bk_X7_search_244, bk_X7_search_252, bk_X7_search_258, pm_arr, pm_call, pm_e_c0, pm_e_c1, pm_e_cti, pm_e_ctl, pm_e_ctr, pm_e_go, pm_e_i, pm_e_ii, pm_e_ldi, pm_e_ldr, pm_e_lk, pm_e_r, pm_e_ri, pm_e_rii, pm_e_rm0, pm_e_rm1, pm_e_rs0, pm_e_rs1, pm_e_wp0, pm_e_wp1, pm_f2, pm_f3, pm_fld, pm_fv, pm_obj, pm_recv, pm_s_aload_n, pm_s_bipush, pm_s_getfield, pm_s_goto, pm_s_iadd, pm_s_iaload, pm_s_iastore, pm_s_iconst, pm_s_idiv, pm_s_ifCond_eq, pm_s_ifCond_ne, pm_s_if_icmp_ge, pm_s_iinc, pm_s_iload, pm_s_iload_n, pm_s_invokevirtual, pm_s_irem, pm_s_ireturn, pm_s_istore, pm_s_istore_n, pm_s_putfield, pm_s_sipush, ct_X7_search, pS, pR, pC, pE, pL, -Int32.not_le, -Int32.not_lt, -Int64.not_le, -Int64.not_lt, -List.getD_eq_getElem?_getD, pb_eq0, n6]
            rw [ni_add]
            refine hb244 _ _ _ ?_
            simp (maxSteps := 2000000) [bk_X7_search_0, bk_X7_search_7, bk_X7_search_27, bk_X7_search_49, bk_X7_search_59, bk_X7_search_82, bk_X7_search_97, bk_X7_search_130, bk_X7_search_156, bk_X7_search_187, bk_X7_search_218, bk_X7_search_221, bk_X7_search_227, bk_X7_search_233, bk_X7_search_244, bk_X7_search_252, bk_X7_search_258, pm_arr, pm_call, pm_e_c0, pm_e_c1, pm_e_cti, pm_e_ctl, pm_e_ctr, pm_e_go, pm_e_i, pm_e_ii, pm_e_ldi, pm_e_ldr, pm_e_lk, pm_e_r, pm_e_ri, pm_e_rii, pm_e_rm0, pm_e_rm1, pm_e_rs0, pm_e_rs1, pm_e_wp0, pm_e_wp1, pm_f2, pm_f3, pm_fld, pm_fv, pm_obj, pm_recv, pm_s_aload_n, pm_s_bipush, pm_s_getfield, pm_s_goto, pm_s_iadd, pm_s_iaload, pm_s_iastore, pm_s_iconst, pm_s_idiv, pm_s_ifCond_eq, pm_s_ifCond_ne, pm_s_if_icmp_ge, pm_s_iinc, pm_s_iload, pm_s_iload_n, pm_s_invokevirtual, pm_s_irem, pm_s_ireturn, pm_s_istore, pm_s_istore_n, pm_s_putfield, pm_s_sipush, ct_X7_search, pS, pR, pC, pE, pL, -Int32.not_le, -Int32.not_lt, -Int64.not_le, -Int64.not_lt, -List.getD_eq_getElem?_getD, pb_eq0, n6]
            refine ⟨fun hsp => ?_, fun hsp => ?_⟩
            · refine hb252 _ _ _ ?_
              simp (maxSteps := 2000000) [bk_X7_search_0, bk_X7_search_7, bk_X7_search_27, bk_X7_search_49, bk_X7_search_59, bk_X7_search_82, bk_X7_search_97, bk_X7_search_130, bk_X7_search_156, bk_X7_search_187, bk_X7_search_218, bk_X7_search_221, bk_X7_search_227, bk_X7_search_233, bk_X7_search_244, bk_X7_search_252, bk_X7_search_258, pm_arr, pm_call, pm_e_c0, pm_e_c1, pm_e_cti, pm_e_ctl, pm_e_ctr, pm_e_go, pm_e_i, pm_e_ii, pm_e_ldi, pm_e_ldr, pm_e_lk, pm_e_r, pm_e_ri, pm_e_rii, pm_e_rm0, pm_e_rm1, pm_e_rs0, pm_e_rs1, pm_e_wp0, pm_e_wp1, pm_f2, pm_f3, pm_fld, pm_fv, pm_obj, pm_recv, pm_s_aload_n, pm_s_bipush, pm_s_getfield, pm_s_goto, pm_s_iadd, pm_s_iaload, pm_s_iastore, pm_s_iconst, pm_s_idiv, pm_s_ifCond_eq, pm_s_ifCond_ne, pm_s_if_icmp_ge, pm_s_iinc, pm_s_iload, pm_s_iload_n, pm_s_invokevirtual, pm_s_irem, pm_s_ireturn, pm_s_istore, pm_s_istore_n, pm_s_putfield, pm_s_sipush, ct_X7_search, pS, pR, pC, pE, pL, -Int32.not_le, -Int32.not_lt, -Int64.not_le, -Int64.not_lt, -List.getD_eq_getElem?_getD, n6]
              rw [hsp] at b3
              exact ih (kk + 1) n n3 M3 R3 lv3 (by omega) (by omega) ⟨b3.level hP he hF, mo3, t3, e3, f3⟩
            · rw [hsp] at b3
              refine hT M3 _ (Or.inr (Or.inr ⟨rfl, b3.spent hP he hF⟩)) f3 e3 (fun d hd ed => ?_)
              rw [ni_neg_eq (by omega) (by omega) (by omega)] at ed
              exact ed.elim
          have stands : ∀ (g i n3 : Nat) (M3 : pm_M) (R3 : Nat → St) (lv3 : Nat → Nat) (sp : Bool), n ≤ i + g → i ≤ n → SI P ec S m M M3 (kk + 1) lo n i 0 n3 R3 lv3 sp → X 82 [(0, .ref 0), (1, .int (nI ec)), (2, .int (nI m)), (4, .int (nI kk)), (5, .int (nI n)), (6, .int (pb sp)), (7, .int (pb false)), (8, .int (nI i))] [] M3 := by
            intro g
            have stop : ∀ (n3 : Nat) (M3 : pm_M) (R3 : Nat → St) (lv3 : Nat → Nat) (sp : Bool), SI P ec S m M M3 (kk + 1) lo n n 0 n3 R3 lv3 sp → X 82 [(0, .ref 0), (1, .int (nI ec)), (2, .int (nI m)), (4, .int (nI kk)), (5, .int (nI n)), (6, .int (pb sp)), (7, .int (pb false)), (8, .int (nI n))] [] M3 := by
              intro n3 M3 R3 lv3 sp h3
              refine hb82 _ _ _ ?_
              simp (maxSteps := 2000000) [bk_X7_search_0, bk_X7_search_7, bk_X7_search_27, bk_X7_search_49, bk_X7_search_59, bk_X7_search_82, bk_X7_search_97, bk_X7_search_130, bk_X7_search_156, bk_X7_search_187, bk_X7_search_218, bk_X7_search_221, bk_X7_search_227, bk_X7_search_233, bk_X7_search_244, bk_X7_search_252, bk_X7_search_258, pm_arr, pm_call, pm_e_c0, pm_e_c1, pm_e_cti, pm_e_ctl, pm_e_ctr, pm_e_go, pm_e_i, pm_e_ii, pm_e_ldi, pm_e_ldr, pm_e_lk, pm_e_r, pm_e_ri, pm_e_rii, pm_e_rm0, pm_e_rm1, pm_e_rs0, pm_e_rs1, pm_e_wp0, pm_e_wp1, pm_f2, pm_f3, pm_fld, pm_fv, pm_obj, pm_recv, pm_s_aload_n, pm_s_bipush, pm_s_getfield, pm_s_goto, pm_s_iadd, pm_s_iaload, pm_s_iastore, pm_s_iconst, pm_s_idiv, pm_s_ifCond_eq, pm_s_ifCond_ne, pm_s_if_icmp_ge, pm_s_iinc, pm_s_iload, pm_s_iload_n, pm_s_invokevirtual, pm_s_irem, pm_s_ireturn, pm_s_istore, pm_s_istore_n, pm_s_putfield, pm_s_sipush, ct_X7_search, pS, pR, pC, pE, pL, -Int32.not_le, -Int32.not_lt, -Int64.not_le, -Int64.not_lt, -List.getD_eq_getElem?_getD, pb_eq0, n6]
              exact h233 M3 n3 R3 lv3 sp h3
            induction g with
            | zero =>
              intro i n3 M3 R3 lv3 sp b1 b2 h3
              have e : i = n := by omega
              subst e; exact stop n3 M3 R3 lv3 sp h3
            | succ g ihg =>
              intro i n3 M3 R3 lv3 sp b1 b2 h3
              by_cases hi : i < n
              · have moves : ∀ (q mm n4 : Nat) (M4 : pm_M) (R4 : Nat → St) (lv4 : Nat → Nat) (sp4 : Bool), 36 ≤ mm + q → mm ≤ 36 → SI P ec S m M M4 (kk + 1) lo n i (cd6 mm) n4 R4 lv4 sp4 → X 97 [(0, .ref 0), (1, .int (nI ec)), (2, .int (nI m)), (4, .int (nI kk)), (5, .int (nI n)), (6, .int (pb sp4)), (7, .int (pb false)), (8, .int (nI i)), (9, .int (nI mm))] [] M4 := by
                  intro q
                  have stop2 : ∀ (n4 : Nat) (M4 : pm_M) (R4 : Nat → St) (lv4 : Nat → Nat) (sp4 : Bool), SI P ec S m M M4 (kk + 1) lo n i 48 n4 R4 lv4 sp4 → X 97 [(0, .ref 0), (1, .int (nI ec)), (2, .int (nI m)), (4, .int (nI kk)), (5, .int (nI n)), (6, .int (pb sp4)), (7, .int (pb false)), (8, .int (nI i)), (9, .int (nI 36))] [] M4 := by
                    intro n4 M4 R4 lv4 sp4 h4
                    refine hb97 _ _ _ ?_
                    simp (maxSteps := 2000000) [bk_X7_search_0, bk_X7_search_7, bk_X7_search_27, bk_X7_search_49, bk_X7_search_59, bk_X7_search_82, bk_X7_search_97, bk_X7_search_130, bk_X7_search_156, bk_X7_search_187, bk_X7_search_218, bk_X7_search_221, bk_X7_search_227, bk_X7_search_233, bk_X7_search_244, bk_X7_search_252, bk_X7_search_258, pm_arr, pm_call, pm_e_c0, pm_e_c1, pm_e_cti, pm_e_ctl, pm_e_ctr, pm_e_go, pm_e_i, pm_e_ii, pm_e_ldi, pm_e_ldr, pm_e_lk, pm_e_r, pm_e_ri, pm_e_rii, pm_e_rm0, pm_e_rm1, pm_e_rs0, pm_e_rs1, pm_e_wp0, pm_e_wp1, pm_f2, pm_f3, pm_fld, pm_fv, pm_obj, pm_recv, pm_s_aload_n, pm_s_bipush, pm_s_getfield, pm_s_goto, pm_s_iadd, pm_s_iaload, pm_s_iastore, pm_s_iconst, pm_s_idiv, pm_s_ifCond_eq, pm_s_ifCond_ne, pm_s_if_icmp_ge, pm_s_iinc, pm_s_iload, pm_s_iload_n, pm_s_invokevirtual, pm_s_irem, pm_s_ireturn, pm_s_istore, pm_s_istore_n, pm_s_putfield, pm_s_sipush, ct_X7_search, pS, pR, pC, pE, pL, -Int32.not_le, -Int32.not_lt, -Int64.not_le, -Int64.not_lt, -List.getD_eq_getElem?_getD, pb_eq0, n6]
                    refine hb227 _ _ _ ?_
                    simp (maxSteps := 2000000) [bk_X7_search_0, bk_X7_search_7, bk_X7_search_27, bk_X7_search_49, bk_X7_search_59, bk_X7_search_82, bk_X7_search_97, bk_X7_search_130, bk_X7_search_156, bk_X7_search_187, bk_X7_search_218, bk_X7_search_221, bk_X7_search_227, bk_X7_search_233, bk_X7_search_244, bk_X7_search_252, bk_X7_search_258, pm_arr, pm_call, pm_e_c0, pm_e_c1, pm_e_cti, pm_e_ctl, pm_e_ctr, pm_e_go, pm_e_i, pm_e_ii, pm_e_ldi, pm_e_ldr, pm_e_lk, pm_e_r, pm_e_ri, pm_e_rii, pm_e_rm0, pm_e_rm1, pm_e_rs0, pm_e_rs1, pm_e_wp0, pm_e_wp1, pm_f2, pm_f3, pm_fld, pm_fv, pm_obj, pm_recv, pm_s_aload_n, pm_s_bipush, pm_s_getfield, pm_s_goto, pm_s_iadd, pm_s_iaload, pm_s_iastore, pm_s_iconst, pm_s_idiv, pm_s_ifCond_eq, pm_s_ifCond_ne, pm_s_if_icmp_ge, pm_s_iinc, pm_s_iload, pm_s_iload_n, pm_s_invokevirtual, pm_s_irem, pm_s_ireturn, pm_s_istore, pm_s_istore_n, pm_s_putfield, pm_s_sipush, ct_X7_search, pS, pR, pC, pE, pL, -Int32.not_le, -Int32.not_lt, -Int64.not_le, -Int64.not_lt, -List.getD_eq_getElem?_getD, n6]
                    rw [ni_add]
                    exact ihg (i + 1) n4 M4 R4 lv4 sp4 (by omega) (by omega) ⟨h4.1.next hP he (by decide) hi, h4.2⟩
                  induction q with
                  | zero =>
                    intro mm n4 M4 R4 lv4 sp4 c1 c2 h4
                    have e : mm = 36 := by omega
                    subst e; exact stop2 n4 M4 R4 lv4 sp4 h4
                  | succ q ihq =>
                    intro mm n4 M4 R4 lv4 sp4 c1 c2 h4
                    by_cases hmm : mm < 36
                    · have hb4 := h4.1.1
                      have h221 : ∀ (n5 : Nat) (M5 : pm_M) (R5 : Nat → St) (lv5 : Nat → Nat) (sp5 : Bool), SI P ec S m M M5 (kk + 1) lo n i (cd6 mm + 1) n5 R5 lv5 sp5 → X 221 [(0, .ref 0), (1, .int (nI ec)), (2, .int (nI m)), (4, .int (nI kk)), (5, .int (nI n)), (6, .int (pb sp5)), (7, .int (pb false)), (8, .int (nI i)), (9, .int (nI mm))] [] M5 := by
                        intro n5 M5 R5 lv5 sp5 h5
                        refine hb221 _ _ _ ?_
                        simp (maxSteps := 2000000) [bk_X7_search_0, bk_X7_search_7, bk_X7_search_27, bk_X7_search_49, bk_X7_search_59, bk_X7_search_82, bk_X7_search_97, bk_X7_search_130, bk_X7_search_156, bk_X7_search_187, bk_X7_search_218, bk_X7_search_221, bk_X7_search_227, bk_X7_search_233, bk_X7_search_244, bk_X7_search_252, bk_X7_search_258, pm_arr, pm_call, pm_e_c0, pm_e_c1, pm_e_cti, pm_e_ctl, pm_e_ctr, pm_e_go, pm_e_i, pm_e_ii, pm_e_ldi, pm_e_ldr, pm_e_lk, pm_e_r, pm_e_ri, pm_e_rii, pm_e_rm0, pm_e_rm1, pm_e_rs0, pm_e_rs1, pm_e_wp0, pm_e_wp1, pm_f2, pm_f3, pm_fld, pm_fv, pm_obj, pm_recv, pm_s_aload_n, pm_s_bipush, pm_s_getfield, pm_s_goto, pm_s_iadd, pm_s_iaload, pm_s_iastore, pm_s_iconst, pm_s_idiv, pm_s_ifCond_eq, pm_s_ifCond_ne, pm_s_if_icmp_ge, pm_s_iinc, pm_s_iload, pm_s_iload_n, pm_s_invokevirtual, pm_s_irem, pm_s_ireturn, pm_s_istore, pm_s_istore_n, pm_s_putfield, pm_s_sipush, ct_X7_search, pS, pR, pC, pE, pL, -Int32.not_le, -Int32.not_lt, -Int64.not_le, -Int64.not_lt, -List.getD_eq_getElem?_getD, n6]
                        rw [ni_add]
                        exact ihq (mm + 1) n5 M5 R5 lv5 sp5 (by omega) (by omega) (h5.step hP)
                      have d4 : DkY M4 P := hD.mv h4.2.2.2.2 (by decide)
                      have hrow := h4.2.2.1.2.2.1 i (by omega)
                      have hQ := h4.1.2.1 i (by omega)
                      have hQo := hQ.1.ok hP
                      have hcan : canN P ec (cnS P ec (R4 i)) (mm / 6) (mm % 6) = (nmN P ec (mm / 6) (mm % 6) && decide (whyF P ec (cnS P ec (R4 i)) (mm / 6) (mm % 6) = 0)) := rfl
                      have ha6 : mm / 6 < 6 := by omega
                      have hb6 : mm % 6 < 6 := by omega
                      have h130 : nmN P ec (mm / 6) (mm % 6) = true → X 130 [(0, .ref 0), (1, .int (nI ec)), (2, .int (nI m)), (4, .int (nI kk)), (5, .int (nI n)), (6, .int (pb sp4)), (7, .int (pb false)), (8, .int (nI i)), (9, .int (nI mm))] [] M4 := by
                        intro hnm
                        rw [hnm, Bool.true_and] at hcan
                        refine hb130 _ _ _ ?_
                        simp (maxSteps := 2000000) [bk_X7_search_0, bk_X7_search_7, bk_X7_search_27, bk_X7_search_49, bk_X7_search_59, bk_X7_search_82, bk_X7_search_97, bk_X7_search_130, bk_X7_search_156, bk_X7_search_187, bk_X7_search_218, bk_X7_search_221, bk_X7_search_227, bk_X7_search_233, bk_X7_search_244, bk_X7_search_252, bk_X7_search_258, pm_arr, pm_call, pm_e_c0, pm_e_c1, pm_e_cti, pm_e_ctl, pm_e_ctr, pm_e_go, pm_e_i, pm_e_ii, pm_e_ldi, pm_e_ldr, pm_e_lk, pm_e_r, pm_e_ri, pm_e_rii, pm_e_rm0, pm_e_rm1, pm_e_rs0, pm_e_rs1, pm_e_wp0, pm_e_wp1, pm_f2, pm_f3, pm_fld, pm_fv, pm_obj, pm_recv, pm_s_aload_n, pm_s_bipush, pm_s_getfield, pm_s_goto, pm_s_iadd, pm_s_iaload, pm_s_iastore, pm_s_iconst, pm_s_idiv, pm_s_ifCond_eq, pm_s_ifCond_ne, pm_s_if_icmp_ge, pm_s_iinc, pm_s_iload, pm_s_iload_n, pm_s_invokevirtual, pm_s_irem, pm_s_ireturn, pm_s_istore, pm_s_istore_n, pm_s_putfield, pm_s_sipush, ct_X7_search, pS, pR, pC, pE, pL, -Int32.not_le, -Int32.not_lt, -Int64.not_le, -Int64.not_lt, -List.getD_eq_getElem?_getD, sy_0, n6]
                        refine ⟨P, ec, i, R4 i, rfl, by omega, d4, he, hrow.1, hrow.2.1, fun M5 s5 f5 => ?_⟩
                        have h5 := h4.fr f5 (by decide)
                        have d5 : DkY M5 P := hD.mv h5.2.2.2.2 (by decide)
                        simp (maxSteps := 2000000) [bk_X7_search_0, bk_X7_search_7, bk_X7_search_27, bk_X7_search_49, bk_X7_search_59, bk_X7_search_82, bk_X7_search_97, bk_X7_search_130, bk_X7_search_156, bk_X7_search_187, bk_X7_search_218, bk_X7_search_221, bk_X7_search_227, bk_X7_search_233, bk_X7_search_244, bk_X7_search_252, bk_X7_search_258, pm_arr, pm_call, pm_e_c0, pm_e_c1, pm_e_cti, pm_e_ctl, pm_e_ctr, pm_e_go, pm_e_i, pm_e_ii, pm_e_ldi, pm_e_ldr, pm_e_lk, pm_e_r, pm_e_ri, pm_e_rii, pm_e_rm0, pm_e_rm1, pm_e_rs0, pm_e_rs1, pm_e_wp0, pm_e_wp1, pm_f2, pm_f3, pm_fld, pm_fv, pm_obj, pm_recv, pm_s_aload_n, pm_s_bipush, pm_s_getfield, pm_s_goto, pm_s_iadd, pm_s_iaload, pm_s_iastore, pm_s_iconst, pm_s_idiv, pm_s_ifCond_eq, pm_s_ifCond_ne, pm_s_if_icmp_ge, pm_s_iinc, pm_s_iload, pm_s_iload_n, pm_s_invokevirtual, pm_s_irem, pm_s_ireturn, pm_s_istore, pm_s_istore_n, pm_s_putfield, pm_s_sipush, ct_X7_search, pS, pR, pC, pE, pL, -Int32.not_le, -Int32.not_lt, -Int64.not_le, -Int64.not_lt, -List.getD_eq_getElem?_getD, sy_0, n6]
                        rw [ni_rem (by omega) (by omega) (by omega), ni_div (by omega) (by omega) (by omega)]
                        refine ⟨P, ec, cnS P ec (R4 i), mm / 6, mm % 6, rfl, rfl, ha6, hb6, d5, he, h5.2.2.2.1, s5, hQo, hQ.1.inDk, ?_⟩
                        simp (maxSteps := 2000000) [bk_X7_search_0, bk_X7_search_7, bk_X7_search_27, bk_X7_search_49, bk_X7_search_59, bk_X7_search_82, bk_X7_search_97, bk_X7_search_130, bk_X7_search_156, bk_X7_search_187, bk_X7_search_218, bk_X7_search_221, bk_X7_search_227, bk_X7_search_233, bk_X7_search_244, bk_X7_search_252, bk_X7_search_258, pm_arr, pm_call, pm_e_c0, pm_e_c1, pm_e_cti, pm_e_ctl, pm_e_ctr, pm_e_go, pm_e_i, pm_e_ii, pm_e_ldi, pm_e_ldr, pm_e_lk, pm_e_r, pm_e_ri, pm_e_rii, pm_e_rm0, pm_e_rm1, pm_e_rs0, pm_e_rs1, pm_e_wp0, pm_e_wp1, pm_f2, pm_f3, pm_fld, pm_fv, pm_obj, pm_recv, pm_s_aload_n, pm_s_bipush, pm_s_getfield, pm_s_goto, pm_s_iadd, pm_s_iaload, pm_s_iastore, pm_s_iconst, pm_s_idiv, pm_s_ifCond_eq, pm_s_ifCond_ne, pm_s_if_icmp_ge, pm_s_iinc, pm_s_iload, pm_s_iload_n, pm_s_invokevirtual, pm_s_irem, pm_s_ireturn, pm_s_istore, pm_s_istore_n, pm_s_putfield, pm_s_sipush, ct_X7_search, pS, pR, pC, pE, pL, -Int32.not_le, -Int32.not_lt, -Int64.not_le, -Int64.not_lt, -List.getD_eq_getElem?_getD, n6]
                        rw [ni_eq0 (by have := whyF_le P ec (cnS P ec (R4 i)) (mm / 6) (mm % 6); omega)]
                        refine ⟨fun hw => ?_, fun hw => h221 n4 M5 R4 lv4 sp4 (h5.skip (by rw [hcan, decide_eq_false hw]))⟩
                        rw [decide_eq_true hw] at hcan
                        refine hb156 _ _ _ ?_
                        simp (maxSteps := 2000000) [bk_X7_search_0, bk_X7_search_7, bk_X7_search_27, bk_X7_search_49, bk_X7_search_59, bk_X7_search_82, bk_X7_search_97, bk_X7_search_130, bk_X7_search_156, bk_X7_search_187, bk_X7_search_218, bk_X7_search_221, bk_X7_search_227, bk_X7_search_233, bk_X7_search_244, bk_X7_search_252, bk_X7_search_258, pm_arr, pm_call, pm_e_c0, pm_e_c1, pm_e_cti, pm_e_ctl, pm_e_ctr, pm_e_go, pm_e_i, pm_e_ii, pm_e_ldi, pm_e_ldr, pm_e_lk, pm_e_r, pm_e_ri, pm_e_rii, pm_e_rm0, pm_e_rm1, pm_e_rs0, pm_e_rs1, pm_e_wp0, pm_e_wp1, pm_f2, pm_f3, pm_fld, pm_fv, pm_obj, pm_recv, pm_s_aload_n, pm_s_bipush, pm_s_getfield, pm_s_goto, pm_s_iadd, pm_s_iaload, pm_s_iastore, pm_s_iconst, pm_s_idiv, pm_s_ifCond_eq, pm_s_ifCond_ne, pm_s_if_icmp_ge, pm_s_iinc, pm_s_iload, pm_s_iload_n, pm_s_invokevirtual, pm_s_irem, pm_s_ireturn, pm_s_istore, pm_s_istore_n, pm_s_putfield, pm_s_sipush, ct_X7_search, pS, pR, pC, pE, pL, -Int32.not_le, -Int32.not_lt, -Int64.not_le, -Int64.not_lt, -List.getD_eq_getElem?_getD, sy_0, n6]
                        rw [ni_rem (by omega) (by omega) (by omega), ni_div (by omega) (by omega) (by omega)]
                        refine ⟨P, ec, cnS P ec (R4 i), mm / 6, mm % 6, rfl, rfl, hb6, d5, he, h5.2.2.2.1, s5, hQ.1, hcan, fun M6 s6 f6 => ?_⟩
                        have h6 := h5.fr f6 (by decide)
                        have d6 : DkY M6 P := hD.mv h6.2.2.2.2 (by decide)
                        have hT6 : FW P ec (aMv P ec (cnS P ec (R4 i)) (mm / 6) (mm % 6)) := WF.mv hP he hQ.1 hb6 hcan
                        simp (maxSteps := 2000000) [bk_X7_search_0, bk_X7_search_7, bk_X7_search_27, bk_X7_search_49, bk_X7_search_59, bk_X7_search_82, bk_X7_search_97, bk_X7_search_130, bk_X7_search_156, bk_X7_search_187, bk_X7_search_218, bk_X7_search_221, bk_X7_search_227, bk_X7_search_233, bk_X7_search_244, bk_X7_search_252, bk_X7_search_258, pm_arr, pm_call, pm_e_c0, pm_e_c1, pm_e_cti, pm_e_ctl, pm_e_ctr, pm_e_go, pm_e_i, pm_e_ii, pm_e_ldi, pm_e_ldr, pm_e_lk, pm_e_r, pm_e_ri, pm_e_rii, pm_e_rm0, pm_e_rm1, pm_e_rs0, pm_e_rs1, pm_e_wp0, pm_e_wp1, pm_f2, pm_f3, pm_fld, pm_fv, pm_obj, pm_recv, pm_s_aload_n, pm_s_bipush, pm_s_getfield, pm_s_goto, pm_s_iadd, pm_s_iaload, pm_s_iastore, pm_s_iconst, pm_s_idiv, pm_s_ifCond_eq, pm_s_ifCond_ne, pm_s_if_icmp_ge, pm_s_iinc, pm_s_iload, pm_s_iload_n, pm_s_invokevirtual, pm_s_irem, pm_s_ireturn, pm_s_istore, pm_s_istore_n, pm_s_putfield, pm_s_sipush, ct_X7_search, pS, pR, pC, pE, pL, -Int32.not_le, -Int32.not_lt, -Int64.not_le, -Int64.not_lt, -List.getD_eq_getElem?_getD, sy_0, n6]
                        refine ⟨P, ec, _, d6, s6, h6.2.2.2.1, he, hT6, fun M7 k7 f7 => ?_⟩
                        have h7 := h6.fr f7 (by decide)
                        simp (maxSteps := 2000000) [bk_X7_search_0, bk_X7_search_7, bk_X7_search_27, bk_X7_search_49, bk_X7_search_59, bk_X7_search_82, bk_X7_search_97, bk_X7_search_130, bk_X7_search_156, bk_X7_search_187, bk_X7_search_218, bk_X7_search_221, bk_X7_search_227, bk_X7_search_233, bk_X7_search_244, bk_X7_search_252, bk_X7_search_258, pm_arr, pm_call, pm_e_c0, pm_e_c1, pm_e_cti, pm_e_ctl, pm_e_ctr, pm_e_go, pm_e_i, pm_e_ii, pm_e_ldi, pm_e_ldr, pm_e_lk, pm_e_r, pm_e_ri, pm_e_rii, pm_e_rm0, pm_e_rm1, pm_e_rs0, pm_e_rs1, pm_e_wp0, pm_e_wp1, pm_f2, pm_f3, pm_fld, pm_fv, pm_obj, pm_recv, pm_s_aload_n, pm_s_bipush, pm_s_getfield, pm_s_goto, pm_s_iadd, pm_s_iaload, pm_s_iastore, pm_s_iconst, pm_s_idiv, pm_s_ifCond_eq, pm_s_ifCond_ne, pm_s_if_icmp_ge, pm_s_iinc, pm_s_iload, pm_s_iload_n, pm_s_invokevirtual, pm_s_irem, pm_s_ireturn, pm_s_istore, pm_s_istore_n, pm_s_putfield, pm_s_sipush, ct_X7_search, pS, pR, pC, pE, pL, -Int32.not_le, -Int32.not_lt, -Int64.not_le, -Int64.not_lt, -List.getD_eq_getElem?_getD, sy_0, n6]
                        refine ⟨P, ec, _, hP, hT6, k7, ?_⟩
                        simp (maxSteps := 2000000) [bk_X7_search_0, bk_X7_search_7, bk_X7_search_27, bk_X7_search_49, bk_X7_search_59, bk_X7_search_82, bk_X7_search_97, bk_X7_search_130, bk_X7_search_156, bk_X7_search_187, bk_X7_search_218, bk_X7_search_221, bk_X7_search_227, bk_X7_search_233, bk_X7_search_244, bk_X7_search_252, bk_X7_search_258, pm_arr, pm_call, pm_e_c0, pm_e_c1, pm_e_cti, pm_e_ctl, pm_e_ctr, pm_e_go, pm_e_i, pm_e_ii, pm_e_ldi, pm_e_ldr, pm_e_lk, pm_e_r, pm_e_ri, pm_e_rii, pm_e_rm0, pm_e_rm1, pm_e_rs0, pm_e_rs1, pm_e_wp0, pm_e_wp1, pm_f2, pm_f3, pm_fld, pm_fv, pm_obj, pm_recv, pm_s_aload_n, pm_s_bipush, pm_s_getfield, pm_s_goto, pm_s_iadd, pm_s_iaload, pm_s_iastore, pm_s_iconst, pm_s_idiv, pm_s_ifCond_eq, pm_s_ifCond_ne, pm_s_if_icmp_ge, pm_s_iinc, pm_s_iload, pm_s_iload_n, pm_s_invokevirtual, pm_s_irem, pm_s_ireturn, pm_s_istore, pm_s_istore_n, pm_s_putfield, pm_s_sipush, ct_X7_search, pS, pR, pC, pE, pL, -Int32.not_le, -Int32.not_lt, -Int64.not_le, -Int64.not_lt, -List.getD_eq_getElem?_getD, pb_eq0, n6]
                        refine ⟨fun hdn => ?_, fun hdn => ?_⟩
                        · -- a stand that isn't done
                          have hnd : ¬ dnS P (aMv P ec (cnS P ec (R4 i)) (mm / 6) (mm % 6)) := dnB_f hdn
                          obtain ⟨ea, eb⟩ := cd6_e mm
                          have hcan' := hcan
                          have hnd' := hnd
                          rw [← ea, ← eb] at hcan' hnd'
                          have fkc : ∀ j, j < n4 → fkN (cnS P ec (R4 j)) = fkN (R4 j) := fun j hj => cnS_fk hP he (h4.2.2.1.2.2.1 j hj).1
                          refine hb187 _ _ _ ?_
                          simp (maxSteps := 2000000) [bk_X7_search_0, bk_X7_search_7, bk_X7_search_27, bk_X7_search_49, bk_X7_search_59, bk_X7_search_82, bk_X7_search_97, bk_X7_search_130, bk_X7_search_156, bk_X7_search_187, bk_X7_search_218, bk_X7_search_221, bk_X7_search_227, bk_X7_search_233, bk_X7_search_244, bk_X7_search_252, bk_X7_search_258, pm_arr, pm_call, pm_e_c0, pm_e_c1, pm_e_cti, pm_e_ctl, pm_e_ctr, pm_e_go, pm_e_i, pm_e_ii, pm_e_ldi, pm_e_ldr, pm_e_lk, pm_e_r, pm_e_ri, pm_e_rii, pm_e_rm0, pm_e_rm1, pm_e_rs0, pm_e_rs1, pm_e_wp0, pm_e_wp1, pm_f2, pm_f3, pm_fld, pm_fv, pm_obj, pm_recv, pm_s_aload_n, pm_s_bipush, pm_s_getfield, pm_s_goto, pm_s_iadd, pm_s_iaload, pm_s_iastore, pm_s_iconst, pm_s_idiv, pm_s_ifCond_eq, pm_s_ifCond_ne, pm_s_if_icmp_ge, pm_s_iinc, pm_s_iload, pm_s_iload_n, pm_s_invokevirtual, pm_s_irem, pm_s_ireturn, pm_s_istore, pm_s_istore_n, pm_s_putfield, pm_s_sipush, ct_X7_search, pS, pR, pC, pE, pL, -Int32.not_le, -Int32.not_lt, -Int64.not_le, -Int64.not_lt, -List.getD_eq_getElem?_getD, sy_0, sy_17, n6]
                          refine ⟨P, ec, n4, R4, lv4, fun _ => false, _, hP, he, h7.2.2.1, hT6, k7, fun p hp hpl => ?_⟩
                          simp (maxSteps := 2000000) [bk_X7_search_0, bk_X7_search_7, bk_X7_search_27, bk_X7_search_49, bk_X7_search_59, bk_X7_search_82, bk_X7_search_97, bk_X7_search_130, bk_X7_search_156, bk_X7_search_187, bk_X7_search_218, bk_X7_search_221, bk_X7_search_227, bk_X7_search_233, bk_X7_search_244, bk_X7_search_252, bk_X7_search_258, pm_arr, pm_call, pm_e_c0, pm_e_c1, pm_e_cti, pm_e_ctl, pm_e_ctr, pm_e_go, pm_e_i, pm_e_ii, pm_e_ldi, pm_e_ldr, pm_e_lk, pm_e_r, pm_e_ri, pm_e_rii, pm_e_rm0, pm_e_rm1, pm_e_rs0, pm_e_rs1, pm_e_wp0, pm_e_wp1, pm_f2, pm_f3, pm_fld, pm_fv, pm_obj, pm_recv, pm_s_aload_n, pm_s_bipush, pm_s_getfield, pm_s_goto, pm_s_iadd, pm_s_iaload, pm_s_iastore, pm_s_iconst, pm_s_idiv, pm_s_ifCond_eq, pm_s_ifCond_ne, pm_s_if_icmp_ge, pm_s_iinc, pm_s_iload, pm_s_iload_n, pm_s_invokevirtual, pm_s_irem, pm_s_ireturn, pm_s_istore, pm_s_istore_n, pm_s_putfield, pm_s_sipush, ct_X7_search, pS, pR, pC, pE, pL, -Int32.not_le, -Int32.not_lt, -Int64.not_le, -Int64.not_lt, -List.getD_eq_getElem?_getD, sy_0, sy_17, n6]
                          rw [ni_in (by omega), ni_cl (by omega)]
                          refine ⟨by omega, ?_⟩
                          rcases hpl with ⟨j, j1, j2, j3⟩ | ⟨z1, z2, -⟩
                          · rw [j2, ni_eq0 (by omega)]
                            refine ⟨fun _ => h221 n4 M7 R4 lv4 sp4 ⟨h7.1.old hnd' (Or.inr ⟨j, j1, ?_⟩), h7.2⟩, fun z => by omega⟩
                            show fkN (cnS P ec (R4 j)) = _
                            rw [fkc j j1, j3, ea, eb]
                          · have hno : ∀ k, k < n4 → fkN (cnS P ec (R4 k)) ≠ fkN (aMv P ec (cnS P ec (R4 i)) (cd6 mm / 8) (cd6 mm % 8)) := fun k hk => by
                              rw [fkc k hk, ea, eb]; exact z2 k hk
                            rw [z1, ni_eq0 (by omega)]
                            refine ⟨fun z => absurd rfl z, fun _ => ?_⟩
                            have n7 := h7.2.2.1.1
                            rw [n7, ni_le (by omega) (by omega), ni_add]
                            refine ⟨fun hfull => ?_, fun hroom => ?_⟩
                            · refine hb218 _ _ _ ?_
                              simp (maxSteps := 2000000) [bk_X7_search_0, bk_X7_search_7, bk_X7_search_27, bk_X7_search_49, bk_X7_search_59, bk_X7_search_82, bk_X7_search_97, bk_X7_search_130, bk_X7_search_156, bk_X7_search_187, bk_X7_search_218, bk_X7_search_221, bk_X7_search_227, bk_X7_search_233, bk_X7_search_244, bk_X7_search_252, bk_X7_search_258, pm_arr, pm_call, pm_e_c0, pm_e_c1, pm_e_cti, pm_e_ctl, pm_e_ctr, pm_e_go, pm_e_i, pm_e_ii, pm_e_ldi, pm_e_ldr, pm_e_lk, pm_e_r, pm_e_ri, pm_e_rii, pm_e_rm0, pm_e_rm1, pm_e_rs0, pm_e_rs1, pm_e_wp0, pm_e_wp1, pm_f2, pm_f3, pm_fld, pm_fv, pm_obj, pm_recv, pm_s_aload_n, pm_s_bipush, pm_s_getfield, pm_s_goto, pm_s_iadd, pm_s_iaload, pm_s_iastore, pm_s_iconst, pm_s_idiv, pm_s_ifCond_eq, pm_s_ifCond_ne, pm_s_if_icmp_ge, pm_s_iinc, pm_s_iload, pm_s_iload_n, pm_s_invokevirtual, pm_s_irem, pm_s_ireturn, pm_s_istore, pm_s_istore_n, pm_s_putfield, pm_s_sipush, ct_X7_search, pS, pR, pC, pE, pL, -Int32.not_le, -Int32.not_lt, -Int64.not_le, -Int64.not_lt, -List.getD_eq_getElem?_getD, n6]
                              exact h221 n4 M7 R4 lv4 true ⟨h7.1.full hP he hF hi hcan' hnd' hfull hno, h7.2⟩
                            · have hsp : sp4 = false := by
                                cases sp4 with
                                | false => rfl
                                | true => have := (h7.1.2.2.2.2.2.2 rfl).1; omega
                              subst hsp
                              refine ⟨P, ec, n4, kk + 1, R4, lv4, fun _ => false, _, rfl, by omega, by omega, hP, he, h7.2.2.1, hT6, k7, z2, fun M8 t8 f8 => ?_⟩
                              simp (maxSteps := 2000000) [bk_X7_search_0, bk_X7_search_7, bk_X7_search_27, bk_X7_search_49, bk_X7_search_59, bk_X7_search_82, bk_X7_search_97, bk_X7_search_130, bk_X7_search_156, bk_X7_search_187, bk_X7_search_218, bk_X7_search_221, bk_X7_search_227, bk_X7_search_233, bk_X7_search_244, bk_X7_search_252, bk_X7_search_258, pm_arr, pm_call, pm_e_c0, pm_e_c1, pm_e_cti, pm_e_ctl, pm_e_ctr, pm_e_go, pm_e_i, pm_e_ii, pm_e_ldi, pm_e_ldr, pm_e_lk, pm_e_r, pm_e_ri, pm_e_rii, pm_e_rm0, pm_e_rm1, pm_e_rs0, pm_e_rs1, pm_e_wp0, pm_e_wp1, pm_f2, pm_f3, pm_fld, pm_fv, pm_obj, pm_recv, pm_s_aload_n, pm_s_bipush, pm_s_getfield, pm_s_goto, pm_s_iadd, pm_s_iaload, pm_s_iastore, pm_s_iconst, pm_s_idiv, pm_s_ifCond_eq, pm_s_ifCond_ne, pm_s_if_icmp_ge, pm_s_iinc, pm_s_iload, pm_s_iload_n, pm_s_invokevirtual, pm_s_irem, pm_s_ireturn, pm_s_istore, pm_s_istore_n, pm_s_putfield, pm_s_sipush, ct_X7_search, pS, pR, pC, pE, pL, -Int32.not_le, -Int32.not_lt, -Int64.not_le, -Int64.not_lt, -List.getD_eq_getElem?_getD, n6]
                              rw [up_ff] at t8
                              refine h221 (n4 + 1) M8 _ _ false ⟨?_, fun a b hab hbn => ?_, t8, by rw [f8.f (by decide)]; exact h7.2.2.2.1, h7.2.2.2.2.trans (f8.mono (by decide) (by decide))⟩
                              · refine h7.1.new hP he hF hi hcan' hnd' (by omega) hno (cnS_fw hP he hT6) ?_ (fun j hj => ?_) ?_ (fun j hj => ?_) ?_
                                · rw [cnS_fk hP he hT6, ea, eb]
                                · show cnS P ec (up R4 n4 _ j) = _
                                  rw [up_n _ _ (by omega)]
                                · show cnS P ec (up R4 n4 _ n4) = _
                                  rw [up_s]
                                · rw [up_n _ _ (by omega)]
                                · rw [up_s]
                              · by_cases zb : b = n4
                                · rw [zb, up_s]
                                  by_cases za : a = n4
                                  · rw [za, up_s]; exact Nat.le_refl _
                                  · rw [up_n _ _ za]
                                    have q3 := h7.1.2.2.1 a (by omega)
                                    rcases (show a < lo ∨ (lo ≤ a ∧ a < n) ∨ n ≤ a by omega) with w | w | w
                                    · have := q3.1 w; omega
                                    · have := q3.2.1 w.1 w.2; omega
                                    · have := q3.2.2 w; omega
                                · rw [up_n _ _ zb, up_n _ _ (by omega)]
                                  exact h7.2.1 a b hab (by omega)
                        · have hsf := h7.found hP he hF hm4 hi (by omega) hcan (dnB_t hdn)
                          exact h221r M7 kk n i mm sp4 hsf
                      refine hb97 _ _ _ ?_
                      simp (maxSteps := 2000000) [bk_X7_search_0, bk_X7_search_7, bk_X7_search_27, bk_X7_search_49, bk_X7_search_59, bk_X7_search_82, bk_X7_search_97, bk_X7_search_130, bk_X7_search_156, bk_X7_search_187, bk_X7_search_218, bk_X7_search_221, bk_X7_search_227, bk_X7_search_233, bk_X7_search_244, bk_X7_search_252, bk_X7_search_258, pm_arr, pm_call, pm_e_c0, pm_e_c1, pm_e_cti, pm_e_ctl, pm_e_ctr, pm_e_go, pm_e_i, pm_e_ii, pm_e_ldi, pm_e_ldr, pm_e_lk, pm_e_r, pm_e_ri, pm_e_rii, pm_e_rm0, pm_e_rm1, pm_e_rs0, pm_e_rs1, pm_e_wp0, pm_e_wp1, pm_f2, pm_f3, pm_fld, pm_fv, pm_obj, pm_recv, pm_s_aload_n, pm_s_bipush, pm_s_getfield, pm_s_goto, pm_s_iadd, pm_s_iaload, pm_s_iastore, pm_s_iconst, pm_s_idiv, pm_s_ifCond_eq, pm_s_ifCond_ne, pm_s_if_icmp_ge, pm_s_iinc, pm_s_iload, pm_s_iload_n, pm_s_invokevirtual, pm_s_irem, pm_s_ireturn, pm_s_istore, pm_s_istore_n, pm_s_putfield, pm_s_sipush, ct_X7_search, pS, pR, pC, pE, pL, -Int32.not_le, -Int32.not_lt, -Int64.not_le, -Int64.not_lt, -List.getD_eq_getElem?_getD, sy_0, pb_eq0, n6]
                      rw [ni_le (by omega) (by omega), ni_rem (by omega) (by omega) (by omega), ni_div (by omega) (by omega) (by omega)]
                      refine ⟨fun z => by omega, fun _ => ?_⟩
                      refine ⟨P, ec, d4, he, rfl, ?_⟩
                      simp (maxSteps := 2000000) [bk_X7_search_0, bk_X7_search_7, bk_X7_search_27, bk_X7_search_49, bk_X7_search_59, bk_X7_search_82, bk_X7_search_97, bk_X7_search_130, bk_X7_search_156, bk_X7_search_187, bk_X7_search_218, bk_X7_search_221, bk_X7_search_227, bk_X7_search_233, bk_X7_search_244, bk_X7_search_252, bk_X7_search_258, pm_arr, pm_call, pm_e_c0, pm_e_c1, pm_e_cti, pm_e_ctl, pm_e_ctr, pm_e_go, pm_e_i, pm_e_ii, pm_e_ldi, pm_e_ldr, pm_e_lk, pm_e_r, pm_e_ri, pm_e_rii, pm_e_rm0, pm_e_rm1, pm_e_rs0, pm_e_rs1, pm_e_wp0, pm_e_wp1, pm_f2, pm_f3, pm_fld, pm_fv, pm_obj, pm_recv, pm_s_aload_n, pm_s_bipush, pm_s_getfield, pm_s_goto, pm_s_iadd, pm_s_iaload, pm_s_iastore, pm_s_iconst, pm_s_idiv, pm_s_ifCond_eq, pm_s_ifCond_ne, pm_s_if_icmp_ge, pm_s_iinc, pm_s_iload, pm_s_iload_n, pm_s_invokevirtual, pm_s_irem, pm_s_ireturn, pm_s_istore, pm_s_istore_n, pm_s_putfield, pm_s_sipush, ct_X7_search, pS, pR, pC, pE, pL, -Int32.not_le, -Int32.not_lt, -Int64.not_le, -Int64.not_lt, -List.getD_eq_getElem?_getD, pb_eq0, n6]
                      rw [nmF_n hP he (by omega) (by omega)]
                      refine ⟨fun hnm => h130 hnm, fun hnm => h221 n4 M4 R4 lv4 sp4 (h4.skip (by rw [hcan, hnm]; rfl))⟩
                    · have e : mm = 36 := by omega
                      subst e; exact stop2 n4 M4 R4 lv4 sp4 h4
                refine hb82 _ _ _ ?_
                simp (maxSteps := 2000000) [bk_X7_search_0, bk_X7_search_7, bk_X7_search_27, bk_X7_search_49, bk_X7_search_59, bk_X7_search_82, bk_X7_search_97, bk_X7_search_130, bk_X7_search_156, bk_X7_search_187, bk_X7_search_218, bk_X7_search_221, bk_X7_search_227, bk_X7_search_233, bk_X7_search_244, bk_X7_search_252, bk_X7_search_258, pm_arr, pm_call, pm_e_c0, pm_e_c1, pm_e_cti, pm_e_ctl, pm_e_ctr, pm_e_go, pm_e_i, pm_e_ii, pm_e_ldi, pm_e_ldr, pm_e_lk, pm_e_r, pm_e_ri, pm_e_rii, pm_e_rm0, pm_e_rm1, pm_e_rs0, pm_e_rs1, pm_e_wp0, pm_e_wp1, pm_f2, pm_f3, pm_fld, pm_fv, pm_obj, pm_recv, pm_s_aload_n, pm_s_bipush, pm_s_getfield, pm_s_goto, pm_s_iadd, pm_s_iaload, pm_s_iastore, pm_s_iconst, pm_s_idiv, pm_s_ifCond_eq, pm_s_ifCond_ne, pm_s_if_icmp_ge, pm_s_iinc, pm_s_iload, pm_s_iload_n, pm_s_invokevirtual, pm_s_irem, pm_s_ireturn, pm_s_istore, pm_s_istore_n, pm_s_putfield, pm_s_sipush, ct_X7_search, pS, pR, pC, pE, pL, -Int32.not_le, -Int32.not_lt, -Int64.not_le, -Int64.not_lt, -List.getD_eq_getElem?_getD, pb_eq0, n6]
                have hb3 := h3.1.1
                rw [ni_le (by omega) (by omega)]
                exact ⟨fun z => by omega, fun _ => moves 36 0 n3 M3 R3 lv3 sp (by omega) (by omega) h3⟩
              · have e : i = n := by omega
                subst e; exact stop n3 M3 R3 lv3 sp h3
          refine hb59 _ _ _ ?_
          simp (maxSteps := 2000000) [bk_X7_search_0, bk_X7_search_7, bk_X7_search_27, bk_X7_search_49, bk_X7_search_59, bk_X7_search_82, bk_X7_search_97, bk_X7_search_130, bk_X7_search_156, bk_X7_search_187, bk_X7_search_218, bk_X7_search_221, bk_X7_search_227, bk_X7_search_233, bk_X7_search_244, bk_X7_search_252, bk_X7_search_258, pm_arr, pm_call, pm_e_c0, pm_e_c1, pm_e_cti, pm_e_ctl, pm_e_ctr, pm_e_go, pm_e_i, pm_e_ii, pm_e_ldi, pm_e_ldr, pm_e_lk, pm_e_r, pm_e_ri, pm_e_rii, pm_e_rm0, pm_e_rm1, pm_e_rs0, pm_e_rs1, pm_e_wp0, pm_e_wp1, pm_f2, pm_f3, pm_fld, pm_fv, pm_obj, pm_recv, pm_s_aload_n, pm_s_bipush, pm_s_getfield, pm_s_goto, pm_s_iadd, pm_s_iaload, pm_s_iastore, pm_s_iconst, pm_s_idiv, pm_s_ifCond_eq, pm_s_ifCond_ne, pm_s_if_icmp_ge, pm_s_iinc, pm_s_iload, pm_s_iload_n, pm_s_invokevirtual, pm_s_irem, pm_s_ireturn, pm_s_istore, pm_s_istore_n, pm_s_putfield, pm_s_sipush, ct_X7_search, pS, pR, pC, pE, pL, -Int32.not_le, -Int32.not_lt, -Int64.not_le, -Int64.not_lt, -List.getD_eq_getElem?_getD, sy_0, n2, n6]
          rw [ni_le (by omega) (by omega)]
          exact ⟨fun z => by omega, fun _ => stands n lo n M2 R lv false (by omega) (by omega) hI⟩
        · have e : lo = n := by omega
          subst e
          refine hb59 _ _ _ ?_
          simp (maxSteps := 2000000) [bk_X7_search_0, bk_X7_search_7, bk_X7_search_27, bk_X7_search_49, bk_X7_search_59, bk_X7_search_82, bk_X7_search_97, bk_X7_search_130, bk_X7_search_156, bk_X7_search_187, bk_X7_search_218, bk_X7_search_221, bk_X7_search_227, bk_X7_search_233, bk_X7_search_244, bk_X7_search_252, bk_X7_search_258, pm_arr, pm_call, pm_e_c0, pm_e_c1, pm_e_cti, pm_e_ctl, pm_e_ctr, pm_e_go, pm_e_i, pm_e_ii, pm_e_ldi, pm_e_ldr, pm_e_lk, pm_e_r, pm_e_ri, pm_e_rii, pm_e_rm0, pm_e_rm1, pm_e_rs0, pm_e_rs1, pm_e_wp0, pm_e_wp1, pm_f2, pm_f3, pm_fld, pm_fv, pm_obj, pm_recv, pm_s_aload_n, pm_s_bipush, pm_s_getfield, pm_s_goto, pm_s_iadd, pm_s_iaload, pm_s_iastore, pm_s_iconst, pm_s_idiv, pm_s_ifCond_eq, pm_s_ifCond_ne, pm_s_if_icmp_ge, pm_s_iinc, pm_s_iload, pm_s_iload_n, pm_s_invokevirtual, pm_s_irem, pm_s_ireturn, pm_s_istore, pm_s_istore_n, pm_s_putfield, pm_s_sipush, ct_X7_search, pS, pR, pC, pE, pL, -Int32.not_le, -Int32.not_lt, -Int64.not_le, -Int64.not_lt, -List.getD_eq_getElem?_getD, sy_0, n2, n6]
          refine hb258 _ _ _ ?_
          simp (maxSteps := 2000000) [bk_X7_search_0, bk_X7_search_7, bk_X7_search_27, bk_X7_search_49, bk_X7_search_59, bk_X7_search_82, bk_X7_search_97, bk_X7_search_130, bk_X7_search_156, bk_X7_search_187, bk_X7_search_218, bk_X7_search_221, bk_X7_search_227, bk_X7_search_233, bk_X7_search_244, bk_X7_search_252, bk_X7_search_258, pm_arr, pm_call, pm_e_c0, pm_e_c1, pm_e_cti, pm_e_ctl, pm_e_ctr, pm_e_go, pm_e_i, pm_e_ii, pm_e_ldi, pm_e_ldr, pm_e_lk, pm_e_r, pm_e_ri, pm_e_rii, pm_e_rm0, pm_e_rm1, pm_e_rs0, pm_e_rs1, pm_e_wp0, pm_e_wp1, pm_f2, pm_f3, pm_fld, pm_fv, pm_obj, pm_recv, pm_s_aload_n, pm_s_bipush, pm_s_getfield, pm_s_goto, pm_s_iadd, pm_s_iaload, pm_s_iastore, pm_s_iconst, pm_s_idiv, pm_s_ifCond_eq, pm_s_ifCond_ne, pm_s_if_icmp_ge, pm_s_iinc, pm_s_iload, pm_s_iload_n, pm_s_invokevirtual, pm_s_irem, pm_s_ireturn, pm_s_istore, pm_s_istore_n, pm_s_putfield, pm_s_sipush, ct_X7_search, pS, pR, pC, pE, pL, -Int32.not_le, -Int32.not_lt, -Int64.not_le, -Int64.not_lt, -List.getD_eq_getElem?_getD, n6]
          refine hT M2 _ (Or.inr (Or.inl ⟨rfl, hI.1.none hP he hF⟩)) hI.2.2.2.2 hI.2.2.2.1 (fun d hd ed => ?_)
          rw [ni_neg_eq (by omega) (by omega) (by omega)] at ed
          exact ed.elim
    -- the beginning
    have start : ∀ (M2 : pm_M), (∀ p, p < 16384 → M2.1 17 p = nI 0) → M2.1 0 23 = nI 0 → yfr [17] [23] M M2 → X 27 [(0, .ref 0), (1, .int (nI ec)), (2, .int (nI m))] [] M2 := by
      intro M2 z2 n2 f2
      refine hb27 _ _ _ ?_
      simp (maxSteps := 2000000) [bk_X7_search_0, bk_X7_search_7, bk_X7_search_27, bk_X7_search_49, bk_X7_search_59, bk_X7_search_82, bk_X7_search_97, bk_X7_search_130, bk_X7_search_156, bk_X7_search_187, bk_X7_search_218, bk_X7_search_221, bk_X7_search_227, bk_X7_search_233, bk_X7_search_244, bk_X7_search_252, bk_X7_search_258, pm_arr, pm_call, pm_e_c0, pm_e_c1, pm_e_cti, pm_e_ctl, pm_e_ctr, pm_e_go, pm_e_i, pm_e_ii, pm_e_ldi, pm_e_ldr, pm_e_lk, pm_e_r, pm_e_ri, pm_e_rii, pm_e_rm0, pm_e_rm1, pm_e_rs0, pm_e_rs1, pm_e_wp0, pm_e_wp1, pm_f2, pm_f3, pm_fld, pm_fv, pm_obj, pm_recv, pm_s_aload_n, pm_s_bipush, pm_s_getfield, pm_s_goto, pm_s_iadd, pm_s_iaload, pm_s_iastore, pm_s_iconst, pm_s_idiv, pm_s_ifCond_eq, pm_s_ifCond_ne, pm_s_if_icmp_ge, pm_s_iinc, pm_s_iload, pm_s_iload_n, pm_s_invokevirtual, pm_s_irem, pm_s_ireturn, pm_s_istore, pm_s_istore_n, pm_s_putfield, pm_s_sipush, ct_X7_search, pS, pR, pC, pE, pL, -Int32.not_le, -Int32.not_lt, -Int64.not_le, -Int64.not_lt, -List.getD_eq_getElem?_getD, sy_0, n6]
      intro M3 c3 k3 e3 f3
      have s3 : SdY M3 10 0 (pR P) S := c3.sd (hS.mv f2 (by decide) (by decide)) lS
      have f4 : yfr [10, 11, 12, 13, 14, 15, 16, 17, 18, 19] [22, 23] M (pm_set M3 0 22 (nI ec)) := ((f2.mono (by decide) (by decide)).trans (f3.mono (by decide) (by decide))).set0 (by decide)
      have s4 : SdY (pm_set M3 0 22 (nI ec)) 10 0 (pR P) S := s3.mv (ps := []) (fs := [22]) (yfr.rfl.set0 (by decide)) (by decide) (by simp)
      have e4 : (pm_set M3 0 22 (nI ec)).1 0 22 = nI ec := by rw [me_1s, if_pos rfl]
      have n4 : (pm_set M3 0 22 (nI ec)).1 0 23 = nI 0 := by rw [me_1s, if_neg (by decide), f3.f (by decide)]; exact n2
      have z4 : ∀ p, p < 16384 → (pm_set M3 0 22 (nI ec)).1 17 p = nI 0 := fun p hp => by rw [me_1, if_neg (by omega), f3.i (by decide) (by decide)]; exact z2 p hp
      simp (maxSteps := 2000000) [bk_X7_search_0, bk_X7_search_7, bk_X7_search_27, bk_X7_search_49, bk_X7_search_59, bk_X7_search_82, bk_X7_search_97, bk_X7_search_130, bk_X7_search_156, bk_X7_search_187, bk_X7_search_218, bk_X7_search_221, bk_X7_search_227, bk_X7_search_233, bk_X7_search_244, bk_X7_search_252, bk_X7_search_258, pm_arr, pm_call, pm_e_c0, pm_e_c1, pm_e_cti, pm_e_ctl, pm_e_ctr, pm_e_go, pm_e_i, pm_e_ii, pm_e_ldi, pm_e_ldr, pm_e_lk, pm_e_r, pm_e_ri, pm_e_rii, pm_e_rm0, pm_e_rm1, pm_e_rs0, pm_e_rs1, pm_e_wp0, pm_e_wp1, pm_f2, pm_f3, pm_fld, pm_fv, pm_obj, pm_recv, pm_s_aload_n, pm_s_bipush, pm_s_getfield, pm_s_goto, pm_s_iadd, pm_s_iaload, pm_s_iastore, pm_s_iconst, pm_s_idiv, pm_s_ifCond_eq, pm_s_ifCond_ne, pm_s_if_icmp_ge, pm_s_iinc, pm_s_iload, pm_s_iload_n, pm_s_invokevirtual, pm_s_irem, pm_s_ireturn, pm_s_istore, pm_s_istore_n, pm_s_putfield, pm_s_sipush, ct_X7_search, pS, pR, pC, pE, pL, -Int32.not_le, -Int32.not_lt, -Int64.not_le, -Int64.not_lt, -List.getD_eq_getElem?_getD, sy_0, n6]
      generalize pm_set M3 0 22 (nI ec) = M4 at *
      refine ⟨P, ec, S, hD.mv f4 (by decide), s4, e4, he, hF, fun M5 k5 f5 => ?_⟩
      have g5 : yfr [10, 11, 12, 13, 14, 15, 16, 17, 18, 19] [22, 23] M M5 := f4.trans (f5.mono (by decide) (by simp))
      have e5 : M5.1 0 22 = nI ec := by rw [f5.f (by simp)]; exact e4
      have t5 : ∀ R lv, TB M5 P ec 0 R lv (fun _ => false) := fun R lv => by
        refine ⟨by rw [f5.f (by simp)]; exact n4, by omega, fun s hs => by omega, fun _ => 0, fun p hp => ?_, fun p hp => Nat.zero_le _, fun p q _ _ _ h => absurd rfl h, fun s hs => by omega⟩
        rw [f5.i (by decide) (by decide)]; exact z4 p hp
      simp (maxSteps := 2000000) [bk_X7_search_0, bk_X7_search_7, bk_X7_search_27, bk_X7_search_49, bk_X7_search_59, bk_X7_search_82, bk_X7_search_97, bk_X7_search_130, bk_X7_search_156, bk_X7_search_187, bk_X7_search_218, bk_X7_search_221, bk_X7_search_227, bk_X7_search_233, bk_X7_search_244, bk_X7_search_252, bk_X7_search_258, pm_arr, pm_call, pm_e_c0, pm_e_c1, pm_e_cti, pm_e_ctl, pm_e_ctr, pm_e_go, pm_e_i, pm_e_ii, pm_e_ldi, pm_e_ldr, pm_e_lk, pm_e_r, pm_e_ri, pm_e_rii, pm_e_rm0, pm_e_rm1, pm_e_rs0, pm_e_rs1, pm_e_wp0, pm_e_wp1, pm_f2, pm_f3, pm_fld, pm_fv, pm_obj, pm_recv, pm_s_aload_n, pm_s_bipush, pm_s_getfield, pm_s_goto, pm_s_iadd, pm_s_iaload, pm_s_iastore, pm_s_iconst, pm_s_idiv, pm_s_ifCond_eq, pm_s_ifCond_ne, pm_s_if_icmp_ge, pm_s_iinc, pm_s_iload, pm_s_iload_n, pm_s_invokevirtual, pm_s_irem, pm_s_ireturn, pm_s_istore, pm_s_istore_n, pm_s_putfield, pm_s_sipush, ct_X7_search, pS, pR, pC, pE, pL, -Int32.not_le, -Int32.not_lt, -Int64.not_le, -Int64.not_lt, -List.getD_eq_getElem?_getD, sy_0, n6]
      refine ⟨P, ec, S, hP, hF, k5, ?_⟩
      simp (maxSteps := 2000000) [bk_X7_search_0, bk_X7_search_7, bk_X7_search_27, bk_X7_search_49, bk_X7_search_59, bk_X7_search_82, bk_X7_search_97, bk_X7_search_130, bk_X7_search_156, bk_X7_search_187, bk_X7_search_218, bk_X7_search_221, bk_X7_search_227, bk_X7_search_233, bk_X7_search_244, bk_X7_search_252, bk_X7_search_258, pm_arr, pm_call, pm_e_c0, pm_e_c1, pm_e_cti, pm_e_ctl, pm_e_ctr, pm_e_go, pm_e_i, pm_e_ii, pm_e_ldi, pm_e_ldr, pm_e_lk, pm_e_r, pm_e_ri, pm_e_rii, pm_e_rm0, pm_e_rm1, pm_e_rs0, pm_e_rs1, pm_e_wp0, pm_e_wp1, pm_f2, pm_f3, pm_fld, pm_fv, pm_obj, pm_recv, pm_s_aload_n, pm_s_bipush, pm_s_getfield, pm_s_goto, pm_s_iadd, pm_s_iaload, pm_s_iastore, pm_s_iconst, pm_s_idiv, pm_s_ifCond_eq, pm_s_ifCond_ne, pm_s_if_icmp_ge, pm_s_iinc, pm_s_iload, pm_s_iload_n, pm_s_invokevirtual, pm_s_irem, pm_s_ireturn, pm_s_istore, pm_s_istore_n, pm_s_putfield, pm_s_sipush, ct_X7_search, pS, pR, pC, pE, pL, -Int32.not_le, -Int32.not_lt, -Int64.not_le, -Int64.not_lt, -List.getD_eq_getElem?_getD, pb_eq0, n6]
      refine ⟨fun hdn => ?_, fun hdn => ?_⟩
      · have hnd : ¬ dnS P S := dnB_f hdn
        refine hb49 _ _ _ ?_
        simp (maxSteps := 2000000) [bk_X7_search_0, bk_X7_search_7, bk_X7_search_27, bk_X7_search_49, bk_X7_search_59, bk_X7_search_82, bk_X7_search_97, bk_X7_search_130, bk_X7_search_156, bk_X7_search_187, bk_X7_search_218, bk_X7_search_221, bk_X7_search_227, bk_X7_search_233, bk_X7_search_244, bk_X7_search_252, bk_X7_search_258, pm_arr, pm_call, pm_e_c0, pm_e_c1, pm_e_cti, pm_e_ctl, pm_e_ctr, pm_e_go, pm_e_i, pm_e_ii, pm_e_ldi, pm_e_ldr, pm_e_lk, pm_e_r, pm_e_ri, pm_e_rii, pm_e_rm0, pm_e_rm1, pm_e_rs0, pm_e_rs1, pm_e_wp0, pm_e_wp1, pm_f2, pm_f3, pm_fld, pm_fv, pm_obj, pm_recv, pm_s_aload_n, pm_s_bipush, pm_s_getfield, pm_s_goto, pm_s_iadd, pm_s_iaload, pm_s_iastore, pm_s_iconst, pm_s_idiv, pm_s_ifCond_eq, pm_s_ifCond_ne, pm_s_if_icmp_ge, pm_s_iinc, pm_s_iload, pm_s_iload_n, pm_s_invokevirtual, pm_s_irem, pm_s_ireturn, pm_s_istore, pm_s_istore_n, pm_s_putfield, pm_s_sipush, ct_X7_search, pS, pR, pC, pE, pL, -Int32.not_le, -Int32.not_lt, -Int64.not_le, -Int64.not_lt, -List.getD_eq_getElem?_getD, sy_0, n6]
        refine ⟨P, ec, 0, 0, fun _ => S, fun _ => 0, fun _ => false, S, rfl, by omega, by omega, hP, he, t5 _ _, hF, k5, fun s hs => by omega, fun M6 t6 f6 => ?_⟩
        simp (maxSteps := 2000000) [bk_X7_search_0, bk_X7_search_7, bk_X7_search_27, bk_X7_search_49, bk_X7_search_59, bk_X7_search_82, bk_X7_search_97, bk_X7_search_130, bk_X7_search_156, bk_X7_search_187, bk_X7_search_218, bk_X7_search_221, bk_X7_search_227, bk_X7_search_233, bk_X7_search_244, bk_X7_search_252, bk_X7_search_258, pm_arr, pm_call, pm_e_c0, pm_e_c1, pm_e_cti, pm_e_ctl, pm_e_ctr, pm_e_go, pm_e_i, pm_e_ii, pm_e_ldi, pm_e_ldr, pm_e_lk, pm_e_r, pm_e_ri, pm_e_rii, pm_e_rm0, pm_e_rm1, pm_e_rs0, pm_e_rs1, pm_e_wp0, pm_e_wp1, pm_f2, pm_f3, pm_fld, pm_fv, pm_obj, pm_recv, pm_s_aload_n, pm_s_bipush, pm_s_getfield, pm_s_goto, pm_s_iadd, pm_s_iaload, pm_s_iastore, pm_s_iconst, pm_s_idiv, pm_s_ifCond_eq, pm_s_ifCond_ne, pm_s_if_icmp_ge, pm_s_iinc, pm_s_iload, pm_s_iload_n, pm_s_invokevirtual, pm_s_irem, pm_s_ireturn, pm_s_istore, pm_s_istore_n, pm_s_putfield, pm_s_sipush, ct_X7_search, pS, pR, pC, pE, pL, -Int32.not_le, -Int32.not_lt, -Int64.not_le, -Int64.not_lt, -List.getD_eq_getElem?_getD, n6]
        rw [up_ff] at t6
        refine levels 4001 0 0 1 M6 _ _ (by omega) (by omega) ⟨?_, fun j q h1 h2 => ?_, t6, by rw [f6.f (by decide)]; exact e5, g5.trans (f6.mono (by decide) (by decide))⟩
        · refine BJ.init (S := cnS P ec S) hm1 (cnS_fw hP he hF) (fun q => hnd ?_) ?_ (cnS_fk hP he hF) (by rw [up_s])
          · unfold dnS at q ⊢
            rw [← q]; exact like_done hP hF (cnS_fw hP he hF) (cnS_fk hP he hF).symm
          · show cnS P ec (up _ 0 S 0) = _
            rw [up_s]
        · have : j = 0 := by omega
          have : q = 0 := by omega
          subst j q; exact Nat.le_refl _
      · have hd : dnS P S := dnB_t hdn
        have rn : ∀ (l : List Nat) (T : St), l.length < 0 → run P ec l S = some T → False := fun l T h _ => by omega
        refine hT M5 _ (Or.inl ⟨0, rfl, by omega, ⟨[], S, rfl, rfl, hd⟩, fun l T h1 => absurd h1 (by omega), Or.inl rfl⟩) g5 e5 (fun d hd' ed => ?_)
        rw [ni_eq (by omega) (by omega)] at ed
        subst ed
        exact ⟨0, fun _ => S, fun _ => 0, t5 _ _, fun l T h1 => absurd h1 (by omega), fun l T h1 => absurd h1 (by omega), fun k hk => by omega, fun j k _ h => by omega, fun j k h _ => by omega, [], S, rfl, rfl, hd⟩
    have zero : ∀ (f i : Nat) (M2 : pm_M), 16384 ≤ i + f → i ≤ 16384 → (∀ p, p < i → M2.1 17 p = nI 0) → M2.1 0 23 = nI 0 → yfr [17] [23] M M2 → X 7 [(0, .ref 0), (1, .int (nI ec)), (2, .int (nI m)), (3, .int (nI i))] [] M2 := by
      intro f
      have stop : ∀ (M2 : pm_M), (∀ p, p < 16384 → M2.1 17 p = nI 0) → M2.1 0 23 = nI 0 → yfr [17] [23] M M2 → X 7 [(0, .ref 0), (1, .int (nI ec)), (2, .int (nI m)), (3, .int (nI 16384))] [] M2 := by
        intro M2 z2 n2 f2
        refine hb7 _ _ _ ?_
        simp (maxSteps := 2000000) [bk_X7_search_0, bk_X7_search_7, bk_X7_search_27, bk_X7_search_49, bk_X7_search_59, bk_X7_search_82, bk_X7_search_97, bk_X7_search_130, bk_X7_search_156, bk_X7_search_187, bk_X7_search_218, bk_X7_search_221, bk_X7_search_227, bk_X7_search_233, bk_X7_search_244, bk_X7_search_252, bk_X7_search_258, pm_arr, pm_call, pm_e_c0, pm_e_c1, pm_e_cti, pm_e_ctl, pm_e_ctr, pm_e_go, pm_e_i, pm_e_ii, pm_e_ldi, pm_e_ldr, pm_e_lk, pm_e_r, pm_e_ri, pm_e_rii, pm_e_rm0, pm_e_rm1, pm_e_rs0, pm_e_rs1, pm_e_wp0, pm_e_wp1, pm_f2, pm_f3, pm_fld, pm_fv, pm_obj, pm_recv, pm_s_aload_n, pm_s_bipush, pm_s_getfield, pm_s_goto, pm_s_iadd, pm_s_iaload, pm_s_iastore, pm_s_iconst, pm_s_idiv, pm_s_ifCond_eq, pm_s_ifCond_ne, pm_s_if_icmp_ge, pm_s_iinc, pm_s_iload, pm_s_iload_n, pm_s_invokevirtual, pm_s_irem, pm_s_ireturn, pm_s_istore, pm_s_istore_n, pm_s_putfield, pm_s_sipush, ct_X7_search, pS, pR, pC, pE, pL, -Int32.not_le, -Int32.not_lt, -Int64.not_le, -Int64.not_lt, -List.getD_eq_getElem?_getD, sy_0, n6]
        exact start M2 z2 n2 f2
      induction f with
      | zero =>
        intro i M2 a1 a2 z2 n2 f2
        have e : i = 16384 := by omega
        subst e; exact stop M2 z2 n2 f2
      | succ f ih =>
        intro i M2 a1 a2 z2 n2 f2
        by_cases hi : i < 16384
        · refine hb7 _ _ _ ?_
          simp (maxSteps := 2000000) [bk_X7_search_0, bk_X7_search_7, bk_X7_search_27, bk_X7_search_49, bk_X7_search_59, bk_X7_search_82, bk_X7_search_97, bk_X7_search_130, bk_X7_search_156, bk_X7_search_187, bk_X7_search_218, bk_X7_search_221, bk_X7_search_227, bk_X7_search_233, bk_X7_search_244, bk_X7_search_252, bk_X7_search_258, pm_arr, pm_call, pm_e_c0, pm_e_c1, pm_e_cti, pm_e_ctl, pm_e_ctr, pm_e_go, pm_e_i, pm_e_ii, pm_e_ldi, pm_e_ldr, pm_e_lk, pm_e_r, pm_e_ri, pm_e_rii, pm_e_rm0, pm_e_rm1, pm_e_rs0, pm_e_rs1, pm_e_wp0, pm_e_wp1, pm_f2, pm_f3, pm_fld, pm_fv, pm_obj, pm_recv, pm_s_aload_n, pm_s_bipush, pm_s_getfield, pm_s_goto, pm_s_iadd, pm_s_iaload, pm_s_iastore, pm_s_iconst, pm_s_idiv, pm_s_ifCond_eq, pm_s_ifCond_ne, pm_s_if_icmp_ge, pm_s_iinc, pm_s_iload, pm_s_iload_n, pm_s_invokevirtual, pm_s_irem, pm_s_ireturn, pm_s_istore, pm_s_istore_n, pm_s_putfield, pm_s_sipush, ct_X7_search, pS, pR, pC, pE, pL, -Int32.not_le, -Int32.not_lt, -Int64.not_le, -Int64.not_lt, -List.getD_eq_getElem?_getD, sy_0, sy_17, n6]
          rw [ni_le (by omega) (by omega), ni_in (by omega), ni_cl (by omega), ni_add]
          refine ⟨fun q => by omega, fun _ => ⟨by omega, ih (i + 1) _ (by omega) (by omega) (fun p hp => ?_) (by rw [me_1, if_neg (by omega)]; exact n2) (f2.set (by decide) (by decide))⟩⟩
          rw [me_1s]
          by_cases y : p = i
          · rw [if_pos y]
          · rw [if_neg y]; exact z2 p (by omega)
        · have e : i = 16384 := by omega
          subst e; exact stop M2 z2 n2 f2
    refine hb0 _ _ _ ?_
    simp (maxSteps := 2000000) [bk_X7_search_0, bk_X7_search_7, bk_X7_search_27, bk_X7_search_49, bk_X7_search_59, bk_X7_search_82, bk_X7_search_97, bk_X7_search_130, bk_X7_search_156, bk_X7_search_187, bk_X7_search_218, bk_X7_search_221, bk_X7_search_227, bk_X7_search_233, bk_X7_search_244, bk_X7_search_252, bk_X7_search_258, pm_arr, pm_call, pm_e_c0, pm_e_c1, pm_e_cti, pm_e_ctl, pm_e_ctr, pm_e_go, pm_e_i, pm_e_ii, pm_e_ldi, pm_e_ldr, pm_e_lk, pm_e_r, pm_e_ri, pm_e_rii, pm_e_rm0, pm_e_rm1, pm_e_rs0, pm_e_rs1, pm_e_wp0, pm_e_wp1, pm_f2, pm_f3, pm_fld, pm_fv, pm_obj, pm_recv, pm_s_aload_n, pm_s_bipush, pm_s_getfield, pm_s_goto, pm_s_iadd, pm_s_iaload, pm_s_iastore, pm_s_iconst, pm_s_idiv, pm_s_ifCond_eq, pm_s_ifCond_ne, pm_s_if_icmp_ge, pm_s_iinc, pm_s_iload, pm_s_iload_n, pm_s_invokevirtual, pm_s_irem, pm_s_ireturn, pm_s_istore, pm_s_istore_n, pm_s_putfield, pm_s_sipush, ct_X7_search, pS, pR, pC, pE, pL, -Int32.not_le, -Int32.not_lt, -Int64.not_le, -Int64.not_lt, -List.getD_eq_getElem?_getD, lv_args, sy_0, n6]
    exact zero 16384 0 _ (by omega) (by omega) (fun p hp => by omega) (by rw [me_1s, if_pos rfl]) (yfr.rfl.set0 (by decide))
  · exact hT.elim
