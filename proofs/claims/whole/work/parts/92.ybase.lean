/-! THE REFERENCE's MEMORY -/
/-- nothing but these places, and these fields of the object, has changed -/
def yfr (ps fs : List Nat) (M M' : pm_M) : Prop := (∀ q, q ≠ 0 → q ∉ ps → M'.1 q = M.1 q) ∧ ∀ j, j ∉ fs → M'.1 0 j = M.1 0 j
theorem yfr.rfl {ps fs : List Nat} {M : pm_M} : yfr ps fs M M := ⟨fun _ _ _ => Eq.refl _, fun _ _ => Eq.refl _⟩
theorem yfr.trans {ps fs : List Nat} {M M' M'' : pm_M} (h : yfr ps fs M M') (h' : yfr ps fs M' M'') : yfr ps fs M M'' := ⟨fun q h1 h2 => (h'.1 q h1 h2).trans (h.1 q h1 h2), fun j hj => (h'.2 j hj).trans (h.2 j hj)⟩
theorem yfr.mono {ps fs qs gs : List Nat} {M M' : pm_M} (h : yfr ps fs M M') (h1 : ∀ q ∈ ps, q ∈ qs) (h2 : ∀ j ∈ fs, j ∈ gs) : yfr qs gs M M' := ⟨fun q q0 hq => h.1 q q0 (fun x => hq (h1 q x)), fun j hj => h.2 j (fun x => hj (h2 j x))⟩
theorem yfr.set {ps fs : List Nat} {M M' : pm_M} {q i : Nat} {v : Int32} (h : yfr ps fs M M') (hq : q ∈ ps) (h0 : q ≠ 0) : yfr ps fs M (pm_set M' q i v) := by
  refine ⟨fun a a0 ha => ?_, fun j hj => ?_⟩
  · have hn : a ≠ q := fun e => ha (e ▸ hq)
    rw [← h.1 a a0 ha]; funext j; simp [pm_set, hn]
  · rw [← h.2 j hj]; simp [pm_set, Ne.symm h0]
theorem yfr.set0 {ps fs : List Nat} {M M' : pm_M} {i : Nat} {v : Int32} (h : yfr ps fs M M') (hi : i ∈ fs) : yfr ps fs M (pm_set M' 0 i v) := by
  refine ⟨fun a a0 ha => ?_, fun j hj => ?_⟩
  · rw [← h.1 a a0 ha]; funext j; simp [pm_set, a0]
  · have hn : j ≠ i := fun e => hj (e ▸ hi)
    rw [← h.2 j hj]; simp [pm_set, hn]
theorem yfr.i {ps fs : List Nat} {M M' : pm_M} (h : yfr ps fs M M') {q : Nat} (h0 : q ≠ 0) (hq : q ∉ ps) (j : Nat) : M'.1 q j = M.1 q j := by rw [h.1 q h0 hq]
theorem yfr.f {ps fs : List Nat} {M M' : pm_M} (h : yfr ps fs M M') {j : Nat} (hj : j ∉ fs) : M'.1 0 j = M.1 0 j := h.2 j hj
def DkY (M : pm_M) (P : Pm) : Prop := okP P ∧ M.1 0 0 = nI (pS P) ∧ M.1 0 1 = nI (pR P) ∧ M.1 0 2 = nI (pC P) ∧ M.1 0 3 = nI (pE P) ∧ M.1 0 4 = nI (pL P)
theorem DkY.mv {M M' : pm_M} {P : Pm} {ps fs : List Nat} (h : DkY M P) (hf : yfr ps fs M M') (hn : ∀ j ∈ [0, 1, 2, 3, 4], j ∉ fs) : DkY M' P := by
  obtain ⟨a, b, c, d, e, f⟩ := h
  exact ⟨a, by rw [hf.f (hn 0 (by simp))]; exact b, by rw [hf.f (hn 1 (by simp))]; exact c, by rw [hf.f (hn 2 (by simp))]; exact d, by rw [hf.f (hn 3 (by simp))]; exact e, by rw [hf.f (hn 4 (by simp))]; exact f⟩
/-- a stand at the places b .. b + 3 (lengths, cards, cells, houses), the o-th there -/
def SdY (M : pm_M) (b o r : Nat) (S : St) : Prop := (∀ i, i < 4 → M.1 b (4 * o + i) = nI (S.1 i).length ∧ M.1 (b + 3) (4 * o + i) = nI (S.2.2 i) ∧ ∀ j, j < (S.1 i).length → M.1 (b + 1) (48 * o + 12 * i + j) = nI (cdN r ((S.1 i).getD j 0))) ∧ ∀ j, j < 2 → M.1 (b + 2) (2 * o + j) = nI (cdN r (S.2.1 j))
theorem SdY.mv {M M' : pm_M} {b o r : Nat} {S : St} {ps fs : List Nat} (h : SdY M b o r S) (hf : yfr ps fs M M') (hb : b ≠ 0) (hn : ∀ q ∈ [b, b + 1, b + 2, b + 3], q ∉ ps) : SdY M' b o r S := by
  obtain ⟨a, c⟩ := h
  refine ⟨fun i hi => ⟨?_, ?_, fun j hj => ?_⟩, fun j hj => ?_⟩
  · rw [hf.i hb (hn _ (by simp))]; exact (a i hi).1
  · rw [hf.i (by omega) (hn _ (by simp))]; exact (a i hi).2.1
  · rw [hf.i (by omega) (hn _ (by simp))]; exact (a i hi).2.2 j hj
  · rw [hf.i (by omega) (hn _ (by simp))]; exact c j hj
theorem SdY.n {M : pm_M} {b r : Nat} {S : St} (h : SdY M b 0 r S) {i : Nat} (hi : i < 4) : M.1 b i = nI (S.1 i).length := by have := (h.1 i hi).1; rwa [show 4 * 0 + i = i by omega] at this
theorem SdY.h {M : pm_M} {b r : Nat} {S : St} (h : SdY M b 0 r S) {i : Nat} (hi : i < 4) : M.1 (b + 3) i = nI (S.2.2 i) := by have := (h.1 i hi).2.1; rwa [show 4 * 0 + i = i by omega] at this
theorem SdY.c {M : pm_M} {b r : Nat} {S : St} (h : SdY M b 0 r S) {i j : Nat} (hi : i < 4) (hj : j < (S.1 i).length) : M.1 (b + 1) (12 * i + j) = nI (cdN r ((S.1 i).getD j 0)) := by have := (h.1 i hi).2.2 j hj; rwa [show 48 * 0 + 12 * i + j = 12 * i + j by omega] at this
theorem SdY.e {M : pm_M} {b r : Nat} {S : St} (h : SdY M b 0 r S) {j : Nat} (hj : j < 2) : M.1 (b + 2) j = nI (cdN r (S.2.1 j)) := by have := h.2 j hj; rwa [show 2 * 0 + j = j by omega] at this
def tt_X7_in : pm_T := fun args M k => match args with
  | [.int n, .int a, .int b] => k (some (.int (pb (wi n a b)))) M
  | _ => False
abbrev ct_X7_in : List pm_C := []
set_option maxHeartbeats 4000000 in
theorem sm_X7_in {SH : List pm_S} : pm_Sem SH yX7_in cX7_in 3 (some .boolean) 1 tt_X7_in := by
  refine pm_Sem_intro bl_X7_in ct_X7_in cs_X7_in rfl (fun _ h => absurd h List.not_mem_nil) ck_X7_in (by decide +kernel) (by decide) ?_
  intro X k hX args M hT
  have hb0 := hX 0 bk_X7_in_0 (List.mem_of_getElem? (i := 0) rfl)
  have hb14 := hX 14 bk_X7_in_14 (List.mem_of_getElem? (i := 1) rfl)
  have hb15 := hX 15 bk_X7_in_15 (List.mem_of_getElem? (i := 2) rfl)
  clear hX
  unfold tt_X7_in wi at hT; split at hT
  · next n a b =>
    refine ⟨by simp [lg_sl, Value.category], ?_⟩
    refine hb0 _ _ _ ?_
    simp (maxSteps := 2000000) [bk_X7_in_0, bk_X7_in_14, bk_X7_in_15, pm_e_c0, pm_e_c1, pm_e_cti, pm_e_ctl, pm_e_ctr, pm_e_go, pm_e_ii, pm_e_ldi, pm_e_lk, pm_e_rm0, pm_e_rm1, pm_e_rs0, pm_e_rs1, pm_e_wp0, pm_e_wp1, pm_f2, pm_f3, pm_s_goto, pm_s_iconst, pm_s_if_icmp_gt, pm_s_if_icmp_lt, pm_s_iload_n, pm_s_ireturn, ct_X7_in, pS, pR, pC, pE, pL, -Int32.not_le, -Int32.not_lt, -Int64.not_le, -Int64.not_lt, -List.getD_eq_getElem?_getD, lv_args]
    repeat' first
      | refine ⟨fun _ => ?_, fun _ => ?_⟩
      | (refine hb14 _ _ _ ?_; simp (maxSteps := 2000000) [bk_X7_in_0, bk_X7_in_14, bk_X7_in_15, pm_e_c0, pm_e_c1, pm_e_cti, pm_e_ctl, pm_e_ctr, pm_e_go, pm_e_ii, pm_e_ldi, pm_e_lk, pm_e_rm0, pm_e_rm1, pm_e_rs0, pm_e_rs1, pm_e_wp0, pm_e_wp1, pm_f2, pm_f3, pm_s_goto, pm_s_iconst, pm_s_if_icmp_gt, pm_s_if_icmp_lt, pm_s_iload_n, pm_s_ireturn, ct_X7_in, pS, pR, pC, pE, pL, -Int32.not_le, -Int32.not_lt, -Int64.not_le, -Int64.not_lt, -List.getD_eq_getElem?_getD, ni_0, ni_1])
      | (refine hb15 _ _ _ ?_; simp (maxSteps := 2000000) [bk_X7_in_0, bk_X7_in_14, bk_X7_in_15, pm_e_c0, pm_e_c1, pm_e_cti, pm_e_ctl, pm_e_ctr, pm_e_go, pm_e_ii, pm_e_ldi, pm_e_lk, pm_e_rm0, pm_e_rm1, pm_e_rs0, pm_e_rs1, pm_e_wp0, pm_e_wp1, pm_f2, pm_f3, pm_s_goto, pm_s_iconst, pm_s_if_icmp_gt, pm_s_if_icmp_lt, pm_s_iload_n, pm_s_ireturn, ct_X7_in, pS, pR, pC, pE, pL, -Int32.not_le, -Int32.not_lt, -Int64.not_le, -Int64.not_lt, -List.getD_eq_getElem?_getD, ni_0, ni_1])
    all_goals simp_all [ni_0, ni_1, pb_t, pb_f, -Int32.not_le, -Int32.not_lt]
  · exact hT.elim
def tt_X7_cards : pm_T := fun args M k => match args with
  | [.ref 0] => k (some (.int (M.1 0 0 * M.1 0 1))) M
  | _ => False
abbrev ct_X7_cards : List pm_C := []
set_option maxHeartbeats 4000000 in
theorem sm_X7_cards  : pm_Sem SHy yX7_cards cX7_cards 1 (some .int) 1 tt_X7_cards := by
  refine pm_Sem_intro bl_X7_cards ct_X7_cards cs_X7_cards rfl (fun _ h => absurd h List.not_mem_nil) ck_X7_cards (by decide +kernel) (by decide) ?_
  intro X k hX args M hT
  have hb0 := hX 0 bk_X7_cards_0 (List.mem_of_getElem? (i := 0) rfl)
  clear hX
  unfold tt_X7_cards at hT; split at hT
  · refine ⟨by simp [lg_sl, Value.category], ?_⟩
    refine hb0 _ _ _ ?_
    simp (maxSteps := 2000000) [bk_X7_cards_0, pm_e_cti, pm_e_ctl, pm_e_ctr, pm_e_go, pm_e_ii, pm_e_ldr, pm_e_lk, pm_e_r, pm_e_rm0, pm_e_rm1, pm_e_rs0, pm_e_rs1, pm_e_wp0, pm_e_wp1, pm_f2, pm_f3, pm_fld, pm_fv, pm_obj, pm_s_aload_n, pm_s_getfield, pm_s_imul, pm_s_ireturn, ct_X7_cards, pS, pR, pC, pE, pL, -Int32.not_le, -Int32.not_lt, -Int64.not_le, -Int64.not_lt, -List.getD_eq_getElem?_getD, lv_args, sy_0]
    exact hT
  · exact hT.elim
def tt_X7_refused : pm_T := fun args M k => match args with
  | [.ref 0, .int x] => k (some (.int (-nI 1))) (pm_set M 0 37 x)
  | _ => False
abbrev ct_X7_refused : List pm_C := []
set_option maxHeartbeats 4000000 in
theorem sm_X7_refused  : pm_Sem SHy yX7_refused cX7_refused 2 (some .int) 1 tt_X7_refused := by
  refine pm_Sem_intro bl_X7_refused ct_X7_refused cs_X7_refused rfl (fun _ h => absurd h List.not_mem_nil) ck_X7_refused (by decide +kernel) (by decide) ?_
  intro X k hX args M hT
  have hb0 := hX 0 bk_X7_refused_0 (List.mem_of_getElem? (i := 0) rfl)
  clear hX
  unfold tt_X7_refused at hT; split at hT
  · refine ⟨by simp [lg_sl, Value.category], ?_⟩
    refine hb0 _ _ _ ?_
    simp (maxSteps := 2000000) [bk_X7_refused_0, pm_e_c0, pm_e_c1, pm_e_cti, pm_e_ctl, pm_e_ctr, pm_e_go, pm_e_ldi, pm_e_ldr, pm_e_lk, pm_e_rm0, pm_e_rm1, pm_e_rs0, pm_e_rs1, pm_e_wp0, pm_e_wp1, pm_f2, pm_f3, pm_fld, pm_fv, pm_obj, pm_s_aload_n, pm_s_iconst, pm_s_iload_n, pm_s_ireturn, pm_s_putfield, ct_X7_refused, pS, pR, pC, pE, pL, -Int32.not_le, -Int32.not_lt, -Int64.not_le, -Int64.not_lt, -List.getD_eq_getElem?_getD, lv_args, sy_0]
    exact hT
  · exact hT.elim
def tt_X7_fine : pm_T := fun args M k => match args with
  | [.ref 0, .int x] => k (some (.int x)) (pm_set M 0 37 (nI 0))
  | _ => False
abbrev ct_X7_fine : List pm_C := []
set_option maxHeartbeats 4000000 in
theorem sm_X7_fine  : pm_Sem SHy yX7_fine cX7_fine 2 (some .int) 1 tt_X7_fine := by
  refine pm_Sem_intro bl_X7_fine ct_X7_fine cs_X7_fine rfl (fun _ h => absurd h List.not_mem_nil) ck_X7_fine (by decide +kernel) (by decide) ?_
  intro X k hX args M hT
  have hb0 := hX 0 bk_X7_fine_0 (List.mem_of_getElem? (i := 0) rfl)
  clear hX
  unfold tt_X7_fine at hT; split at hT
  · refine ⟨by simp [lg_sl, Value.category], ?_⟩
    refine hb0 _ _ _ ?_
    simp (maxSteps := 2000000) [bk_X7_fine_0, pm_e_c0, pm_e_c1, pm_e_cti, pm_e_ctl, pm_e_ctr, pm_e_go, pm_e_ldi, pm_e_ldr, pm_e_lk, pm_e_rm0, pm_e_rm1, pm_e_rs0, pm_e_rs1, pm_e_wp0, pm_e_wp1, pm_f2, pm_f3, pm_fld, pm_fv, pm_obj, pm_s_aload_n, pm_s_iconst, pm_s_iload_n, pm_s_ireturn, pm_s_putfield, ct_X7_fine, pS, pR, pC, pE, pL, -Int32.not_le, -Int32.not_lt, -Int64.not_le, -Int64.not_lt, -List.getD_eq_getElem?_getD, lv_args, sy_0]
    exact hT
  · exact hT.elim
def tt_X7_status : pm_T := fun args M k => match args with
  | [.ref 0] => k (some (.int (M.1 0 37))) M
  | _ => False
abbrev ct_X7_status : List pm_C := []
set_option maxHeartbeats 4000000 in
theorem sm_X7_status  : pm_Sem SHy yX7_status cX7_status 1 (some .int) 1 tt_X7_status := by
  refine pm_Sem_intro bl_X7_status ct_X7_status cs_X7_status rfl (fun _ h => absurd h List.not_mem_nil) ck_X7_status (by decide +kernel) (by decide) ?_
  intro X k hX args M hT
  have hb0 := hX 0 bk_X7_status_0 (List.mem_of_getElem? (i := 0) rfl)
  clear hX
  unfold tt_X7_status at hT; split at hT
  · refine ⟨by simp [lg_sl, Value.category], ?_⟩
    refine hb0 _ _ _ ?_
    simp (maxSteps := 2000000) [bk_X7_status_0, pm_e_cti, pm_e_ctl, pm_e_ctr, pm_e_go, pm_e_ldr, pm_e_lk, pm_e_r, pm_e_rm0, pm_e_rm1, pm_e_rs0, pm_e_rs1, pm_e_wp0, pm_e_wp1, pm_f2, pm_f3, pm_fld, pm_fv, pm_obj, pm_s_aload_n, pm_s_getfield, pm_s_ireturn, ct_X7_status, pS, pR, pC, pE, pL, -Int32.not_le, -Int32.not_lt, -Int64.not_le, -Int64.not_lt, -List.getD_eq_getElem?_getD, lv_args, sy_0]
    exact hT
  · exact hT.elim
def tt_X7_why : pm_T := fun args M k => match args with
  | [.ref 0] => k (some (.int (M.1 0 7))) M
  | _ => False
abbrev ct_X7_why : List pm_C := []
set_option maxHeartbeats 4000000 in
theorem sm_X7_why  : pm_Sem SHy yX7_why cX7_why 1 (some .int) 1 tt_X7_why := by
  refine pm_Sem_intro bl_X7_why ct_X7_why cs_X7_why rfl (fun _ h => absurd h List.not_mem_nil) ck_X7_why (by decide +kernel) (by decide) ?_
  intro X k hX args M hT
  have hb0 := hX 0 bk_X7_why_0 (List.mem_of_getElem? (i := 0) rfl)
  clear hX
  unfold tt_X7_why at hT; split at hT
  · refine ⟨by simp [lg_sl, Value.category], ?_⟩
    refine hb0 _ _ _ ?_
    simp (maxSteps := 2000000) [bk_X7_why_0, pm_e_cti, pm_e_ctl, pm_e_ctr, pm_e_go, pm_e_ldr, pm_e_lk, pm_e_r, pm_e_rm0, pm_e_rm1, pm_e_rs0, pm_e_rs1, pm_e_wp0, pm_e_wp1, pm_f2, pm_f3, pm_fld, pm_fv, pm_obj, pm_s_aload_n, pm_s_getfield, pm_s_ireturn, ct_X7_why, pS, pR, pC, pE, pL, -Int32.not_le, -Int32.not_lt, -Int64.not_le, -Int64.not_lt, -List.getD_eq_getElem?_getD, lv_args, sy_0]
    exact hT
  · exact hT.elim
def tt_X7_isCode : pm_T := fun args M k => match args with
  | [.ref 0, .int x] => ∃ P, DkY M P ∧ k (some (.int (pb (cdOK P x)))) M
  | _ => False
theorem sh3_lt {P : Pm} (hP : okP P) {x : Int32} (h : ¬ x < 0) : (wi (x >>> (nI 3 &&& 31)) (nI 0) (nI (pS P) - nI 1) = false) = (nI (pS P) ≤ x >>> (nI 3 &&& 31)) := by
  have h1 := hP.1
  have h2 := hP.2.1
  obtain ⟨n, hn, rfl⟩ := nI_of h
  rw [sh3 hn, ni_sub h1, wi_n (by omega) (by decide) (by omega), ni_le (by omega) (by omega)]
  simp; omega
abbrev ct_X7_isCode : List pm_C := [(true, 111, 7, 3, (some .boolean), tt_X7_in)]
set_option maxHeartbeats 4000000 in
theorem sm_X7_isCode  : pm_Sem SHy yX7_isCode cX7_isCode 2 (some .boolean) 2 tt_X7_isCode := by
  refine pm_Sem_intro bl_X7_isCode ct_X7_isCode cs_X7_isCode rfl (List.forall_mem_cons.mpr ⟨⟨_, _, _, _, sm_X7_in, by decide, cm_X7_in, by decide +kernel⟩, fun _ h => absurd h List.not_mem_nil⟩) ck_X7_isCode (by decide +kernel) (by decide) ?_
  intro X k hX args M hT
  have hb0 := hX 0 bk_X7_isCode_0 (List.mem_of_getElem? (i := 0) rfl)
  have hb33 := hX 33 bk_X7_isCode_33 (List.mem_of_getElem? (i := 1) rfl)
  have hb34 := hX 34 bk_X7_isCode_34 (List.mem_of_getElem? (i := 2) rfl)
  clear hX
  unfold tt_X7_isCode at hT; split at hT
  · next x =>
    obtain ⟨P, hD, hT⟩ := hT
    have hP := hD.1
    have m0 := hD.2.1
    have m1 := hD.2.2.1
    rw [← cd_iff hP] at hT
    have h34 : ∀ b : Bool, b = (wi (x >>> (nI 3 &&& 31)) (nI 0) (nI (pS P) - nI 1) && wi (x &&& nI 7) (nI 1) (nI (pR P))) → X 34 [] [.int (pb b)] M := by
      intro b eb
      rw [← eb] at hT
      refine hb34 _ _ _ ?_
      simp (maxSteps := 2000000) [bk_X7_isCode_0, bk_X7_isCode_33, bk_X7_isCode_34, pm_call, pm_e_c0, pm_e_c1, pm_e_cti, pm_e_ctl, pm_e_ctr, pm_e_go, pm_e_i, pm_e_ii, pm_e_ldi, pm_e_ldr, pm_e_lk, pm_e_r, pm_e_rm0, pm_e_rm1, pm_e_rs0, pm_e_rs1, pm_e_wp0, pm_e_wp1, pm_f2, pm_f3, pm_fld, pm_fv, pm_obj, pm_recv, pm_s_aload_n, pm_s_bipush, pm_s_getfield, pm_s_goto, pm_s_iand, pm_s_iconst, pm_s_ifCond_eq, pm_s_ifCond_lt, pm_s_if_icmp_ge, pm_s_iload_n, pm_s_invokestatic, pm_s_ireturn, pm_s_ishr, ct_X7_isCode, tt_X7_in, pS, pR, pC, pE, pL, -Int32.not_le, -Int32.not_lt, -Int64.not_le, -Int64.not_lt, -List.getD_eq_getElem?_getD, pb_01]
      exact hT
    have h33 : (wi (x >>> (nI 3 &&& 31)) (nI 0) (nI (pS P) - nI 1) && wi (x &&& nI 7) (nI 1) (nI (pR P))) = false → X 33 [] [] M := by
      intro hf
      refine hb33 _ _ _ ?_
      simp (maxSteps := 2000000) [bk_X7_isCode_0, bk_X7_isCode_33, bk_X7_isCode_34, pm_call, pm_e_c0, pm_e_c1, pm_e_cti, pm_e_ctl, pm_e_ctr, pm_e_go, pm_e_i, pm_e_ii, pm_e_ldi, pm_e_ldr, pm_e_lk, pm_e_r, pm_e_rm0, pm_e_rm1, pm_e_rs0, pm_e_rs1, pm_e_wp0, pm_e_wp1, pm_f2, pm_f3, pm_fld, pm_fv, pm_obj, pm_recv, pm_s_aload_n, pm_s_bipush, pm_s_getfield, pm_s_goto, pm_s_iand, pm_s_iconst, pm_s_ifCond_eq, pm_s_ifCond_lt, pm_s_if_icmp_ge, pm_s_iload_n, pm_s_invokestatic, pm_s_ireturn, pm_s_ishr, ct_X7_isCode, tt_X7_in, pS, pR, pC, pE, pL, -Int32.not_le, -Int32.not_lt, -Int64.not_le, -Int64.not_lt, -List.getD_eq_getElem?_getD]
      exact h34 false hf.symm
    refine ⟨by simp [lg_sl, Value.category], ?_⟩
    refine hb0 _ _ _ ?_
    simp (maxSteps := 2000000) [bk_X7_isCode_0, bk_X7_isCode_33, bk_X7_isCode_34, pm_call, pm_e_c0, pm_e_c1, pm_e_cti, pm_e_ctl, pm_e_ctr, pm_e_go, pm_e_i, pm_e_ii, pm_e_ldi, pm_e_ldr, pm_e_lk, pm_e_r, pm_e_rm0, pm_e_rm1, pm_e_rs0, pm_e_rs1, pm_e_wp0, pm_e_wp1, pm_f2, pm_f3, pm_fld, pm_fv, pm_obj, pm_recv, pm_s_aload_n, pm_s_bipush, pm_s_getfield, pm_s_goto, pm_s_iand, pm_s_iconst, pm_s_ifCond_eq, pm_s_ifCond_lt, pm_s_if_icmp_ge, pm_s_iload_n, pm_s_invokestatic, pm_s_ireturn, pm_s_ishr, ct_X7_isCode, tt_X7_in, pS, pR, pC, pE, pL, -Int32.not_le, -Int32.not_lt, -Int64.not_le, -Int64.not_lt, -List.getD_eq_getElem?_getD, lv_args, sy_0, m0, m1, pb_eq0]
    refine ⟨fun h => h33 (by rw [wi_lo (show x >>> (nI 3 &&& 31) < nI 0 from sh3_neg h)]; rfl), fun h => ⟨fun h2 => h33 (by rw [show wi (x &&& nI 7) (nI 1) (nI (pR P)) = false from h2, Bool.and_false]), fun h2 => ⟨fun h3 => h33 ?_, fun h3 => h34 true ?_⟩⟩⟩
    · rw [show wi (x >>> (nI 3 &&& 31)) (nI 0) (nI (pS P) - nI 1) = false from by rw [sh3_lt hP h]; exact h3]; rfl
    · have : wi (x >>> (nI 3 &&& 31)) (nI 0) (nI (pS P) - nI 1) = true := by
        cases q : wi (x >>> (nI 3 &&& 31)) (nI 0) (nI (pS P) - nI 1) with
        | true => rfl
        | false => rw [sh3_lt hP h] at q; exact absurd q h3
      rw [this, show wi (x &&& nI 7) (nI 1) (nI (pR P)) = true from h2]; rfl
  · exact hT.elim
/-- codes -/
theorem cdN_su {r d : Nat} (hr : 1 ≤ r) (h6 : r ≤ 6) (d1 : 1 ≤ d) : cdN r d / 8 = su r d ∧ cdN r d % 8 = ra r d := by
  have := ra_le (n := d) hr
  have := ra_ge (r := r) (n := d)
  unfold cdN; rw [if_neg (by omega)]
  omega
theorem cdN_0 {r d : Nat} : cdN r d = 0 ↔ d = 0 := by
  have := ra_ge (r := r) (n := d)
  unfold cdN; split
  · next h => simp [h]
  · omega
theorem cdN_inj {r d e : Nat} (hr : 1 ≤ r) (h6 : r ≤ 6) (h : cdN r d = cdN r e) : d = e := by
  by_cases d0 : d = 0
  · rw [d0, show cdN r 0 = 0 from rfl] at h
    rw [d0]; exact (cdN_0.mp h.symm).symm
  · by_cases e0 : e = 0
    · rw [e0, show cdN r 0 = 0 from rfl] at h
      rw [e0]; exact cdN_0.mp h
    · obtain ⟨a1, a2⟩ := cdN_su hr h6 (show 1 ≤ d by omega)
      obtain ⟨b1, b2⟩ := cdN_su hr h6 (show 1 ≤ e by omega)
      exact card_inj (r := r) (by omega) (by omega) (by rw [← a1, ← b1, h]) (by rw [← a2, ← b2, h])
theorem cdN_lt {r d e : Nat} (hr : 1 ≤ r) (h6 : r ≤ 6) (h : d < e) : cdN r d < cdN r e := by
  by_cases d0 : d = 0
  · subst d0
    have : cdN r e ≠ 0 := fun z => by have := cdN_0.mp z; omega
    show 0 < _; omega
  · have e1 := su_ra (r := r) (n := d) (by omega)
    have e2 := su_ra (r := r) (n := e) (by omega)
    have r1 := ra_le (n := d) hr
    have r2 := ra_le (n := e) hr
    have g1 := ra_ge (r := r) (n := d)
    have g2 := ra_ge (r := r) (n := e)
    unfold cdN; rw [if_neg d0, if_neg (by omega)]
    rcases Nat.lt_trichotomy (su r d) (su r e) with z | z | z
    · omega
    · rw [z] at e1 ⊢; omega
    · exfalso
      have : (su r e + 1) * r ≤ su r d * r := Nat.mul_le_mul_right r z
      rw [Nat.succ_mul] at this; omega
theorem cdN_le_iff {r d e : Nat} (hr : 1 ≤ r) (h6 : r ≤ 6) : cdN r d ≤ cdN r e ↔ d ≤ e := by
  constructor
  · intro h
    refine Classical.byContradiction (fun z => ?_)
    have := cdN_lt hr h6 (show e < d by omega); omega
  · intro h
    rcases Nat.lt_or_ge d e with z | z
    · exact Nat.le_of_lt (cdN_lt hr h6 z)
    · rw [show d = e by omega]; exact Nat.le_refl _
theorem cd_sh {P : Pm} (hP : okP P) {d : Nat} (d1 : 1 ≤ d) (d2 : d ≤ pS P * pR P) : nI (cdN (pR P) d) >>> (nI 3 &&& 31) = nI (su (pR P) d) ∧ nI (cdN (pR P) d) &&& nI 7 = nI (ra (pR P) d) := by
  have h32 := cdN_le hP d2
  obtain ⟨a1, a2⟩ := cdN_su hP.2.2.1 hP.2.2.2.1 d1
  rw [sh3 (by omega), ni_a7 (by omega), a1, a2]
  exact ⟨rfl, rfl⟩
