/-! A STAND (at 5, or the search's at 32) -/
def isSt (p : Nat) : Prop := p = 5 ∨ p = 32
theorem st_0 {p : Nat} (h : isSt p) : SHx[p]? = some (.inr (.inr (4, [some 1, some (p + 1), some (p + 2), some (p + 3), some (p + 4), some (p + 5), none]))) := by rcases h with rfl | rfl <;> rfl
theorem st_1 {p : Nat} (h : isSt p) : SHx[p + 1]? = some (.inl (4, 4)) := by rcases h with rfl | rfl <;> rfl
theorem st_2 {p : Nat} (h : isSt p) : SHx[p + 2]? = some (.inl (0, 4)) := by rcases h with rfl | rfl <;> rfl
theorem st_3 {p : Nat} (h : isSt p) : SHx[p + 3]? = some (.inl (0, 2)) := by rcases h with rfl | rfl <;> rfl
theorem st_4 {p : Nat} (h : isSt p) : SHx[p + 4]? = some (.inl (0, 4)) := by rcases h with rfl | rfl <;> rfl
theorem st_5 {p : Nat} (h : isSt p) : SHx[p + 5]? = some (.inl (4, 4)) := by rcases h with rfl | rfl <;> rfl
abbrev stF (p : Nat) : List Nat := [p, p + 1, p + 2, p + 3, p + 4, p + 5]
def okS (S : St) : Prop := (∀ i, i < 4 → (S.1 i).length ≤ 12 ∧ ∀ d ∈ S.1 i, 1 ≤ d ∧ d ≤ 12) ∧ (∀ j, j < 2 → S.2.1 j ≤ 12) ∧ ∀ i, i < 4 → S.2.2 i ≤ 6
def SdX (M : pm_M) (p ec : Nat) (S : St) : Prop := okS S ∧ ec ≤ 2 ∧ M.1 p 6 = nI ec ∧ (∀ i, i < 4 → M.2 (p + 1) i = lN (pq (S.1 i)) ∧ M.1 (p + 2) i = nI (S.1 i).length ∧ M.1 (p + 4) i = nI (S.2.2 i)) ∧ ∀ j, j < 2 → M.1 (p + 3) j = nI (S.2.1 j)
theorem SdX.c {M : pm_M} {p ec : Nat} {S : St} (h : SdX M p ec S) {i : Nat} (hi : i < 4) : M.2 (p + 1) i = lN (pq (S.1 i)) := (h.2.2.2.1 i hi).1
theorem SdX.n {M : pm_M} {p ec : Nat} {S : St} (h : SdX M p ec S) {i : Nat} (hi : i < 4) : M.1 (p + 2) i = nI (S.1 i).length := (h.2.2.2.1 i hi).2.1
theorem SdX.h {M : pm_M} {p ec : Nat} {S : St} (h : SdX M p ec S) {i : Nat} (hi : i < 4) : M.1 (p + 4) i = nI (S.2.2 i) := (h.2.2.2.1 i hi).2.2
theorem SdX.e {M : pm_M} {p ec : Nat} {S : St} (h : SdX M p ec S) {j : Nat} (hj : j < 2) : M.1 (p + 3) j = nI (S.2.1 j) := h.2.2.2.2 j hj
theorem SdX.d16 {M : pm_M} {p ec : Nat} {S : St} (h : SdX M p ec S) {i : Nat} (hi : i < 4) : ∀ d ∈ S.1 i, d < 16 := fun d hd => by have := (h.1.1 i hi).2 d hd; omega
theorem SdX.len {M : pm_M} {p ec : Nat} {S : St} (h : SdX M p ec S) {i : Nat} (hi : i < 4) : (S.1 i).length ≤ 12 := (h.1.1 i hi).1
theorem pq_48 {l : List Nat} (h : ∀ d ∈ l, d < 16) (hn : l.length ≤ 12) : pq l < 2 ^ 48 := by
  have h1 := pq_lt h
  have h2 : (16 : Nat) ^ l.length ≤ 16 ^ 12 := Nat.pow_le_pow_right (by decide) hn
  have e : (16 : Nat) ^ 12 = 2 ^ 48 := by decide
  omega
theorem SdX.p48 {M : pm_M} {p ec : Nat} {S : St} (h : SdX M p ec S) {i : Nat} (hi : i < 4) : pq (S.1 i) < 2 ^ 48 := pq_48 (h.d16 hi) (h.len hi)
theorem lastC_le {l : List Nat} (h : ∀ d ∈ l, d ≤ 12) : lastC l ≤ 12 := by
  induction l using rev_ind with
  | nil => simp [lastC]
  | snoc l d ih => simp [lastC]; exact h d (by simp)
theorem SdX.moved {M M' : pm_M} {p ec : Nat} {S : St} {ps : List Nat} (h : SdX M p ec S) (hf : pm_fr ps M M') (hp : ∀ q ∈ stF p, q ∉ ps) : SdX M' p ec S := by
  obtain ⟨a, b, c, d, e⟩ := h
  refine ⟨a, b, ?_, fun i hi => ⟨?_, ?_, ?_⟩, fun j hj => ?_⟩
  · rw [hf.i (hp _ (by simp))]; exact c
  · rw [hf.l (hp _ (by simp))]; exact (d i hi).1
  · rw [hf.i (hp _ (by simp))]; exact (d i hi).2.1
  · rw [hf.i (hp _ (by simp))]; exact (d i hi).2.2
  · rw [hf.i (hp _ (by simp))]; exact e j hj
def aPush (S : St) (i d : Nat) : St := (up S.1 i (S.1 i ++ [d]), S.2.1, S.2.2)
def aPop (S : St) (i : Nat) : St := (up S.1 i (S.1 i).dropLast, S.2.1, S.2.2)
def tt_X4_push : pm_T := fun args M k => match args with
  | [.ref p, .int x, .int y] => ∃ ec S i d, isSt p ∧ x = nI i ∧ y = nI d ∧ SdX M p ec S ∧ i < 4 ∧ (1 ≤ d ∧ d ≤ 12) ∧ (S.1 i).length < 12 ∧ ∀ M', SdX M' p ec (aPush S i d) → pm_fr (stF p) M M' → k none M'
  | _ => False
abbrev ct_X4_push : List pm_C := []
set_option maxHeartbeats 4000000 in
theorem sm_X4_push  : pm_Sem SHx yX4_push cX4_push 3 none 1 tt_X4_push := by
  refine pm_Sem_intro bl_X4_push ct_X4_push cs_X4_push rfl (fun _ h => absurd h List.not_mem_nil) ck_X4_push (by decide +kernel) (by decide) ?_
  intro X k hX args M hT
  have hb0 := hX 0 bk_X4_push_0 (List.mem_of_getElem? (i := 0) rfl)
  clear hX
  unfold tt_X4_push at hT; split at hT
  · next p x y =>
    obtain ⟨ec, S, i, d, hp, rfl, rfl, hS, hi, ⟨d1, d2⟩, hl, hT⟩ := hT
    refine ⟨by simp [lg_sl, Value.category], ?_⟩
    refine hb0 _ _ _ ?_
    simp [bk_X4_push_0, pm_arr, pm_e_c0, pm_e_c1, pm_e_cti, pm_e_ctl, pm_e_ctr, pm_e_go, pm_e_i, pm_e_ii, pm_e_ldi, pm_e_ldr, pm_e_li, pm_e_lk, pm_e_ll, pm_e_r, pm_e_ri, pm_e_rii, pm_e_ril, pm_e_rm0, pm_e_rm1, pm_e_rs0, pm_e_rs1, pm_e_v2, pm_e_wp0, pm_e_wp1, pm_f2, pm_f3, pm_fld, pm_fv, pm_obj, pm_s_aload_n, pm_s_dup2, pm_s_getfield, pm_s_i2l, pm_s_iadd, pm_s_iaload, pm_s_iastore, pm_s_iconst, pm_s_iload_n, pm_s_laload, pm_s_lastore, pm_s_lor, pm_s_lshl, pm_s_return, ct_X4_push, pS, pR, pC, pE, pL, -Int32.not_le, -Int32.not_lt, -Int64.not_le, -Int64.not_lt, lv_args, st_0 hp, st_1 hp, st_2 hp]
    simp (disch := omega) only [ni_in, ni_cl, ni_add, ni_mul, ni_sub, ni_lt, ni_le, ni_eq, ni_eq0, ni_lt0, ni_0le, ni_0lt, ni_le0, ni_a1, ni_a3, ni_a7, ni_a15, hS.c hi, hS.n hi, me_3]
    repeat refine ⟨by omega, ?_⟩
    refine hT _ ?_ ((pm_fr.rfl.setL (by simp)).set (by simp))
    have h48 := hS.p48 hi
    have e1 : (lN (pq (S.1 i)) <<< ((nI 4).toInt64 &&& 63)) ||| (nI d).toInt64 = lN (pq (S.1 i ++ [d])) := by
      rw [wb_shl _ (by decide), ni_l (by omega), ln_or (k := 4) (by omega) (by omega), pq_app]
      congr 1; omega
    rw [e1]
    obtain ⟨a, b, c, dd, e⟩ := hS
    refine ⟨⟨fun j hj => ?_, a.2⟩, b, ?_, fun j hj => ?_, fun j hj => ?_⟩
    · by_cases ej : j = i
      · subst ej
        simp only [aPush, up_s, List.length_append, List.length_singleton]
        refine ⟨by omega, fun z hz => ?_⟩
        rcases List.mem_append.mp hz with q | q
        · exact (a.1 j hj).2 z q
        · simp at q; omega
      · simp only [aPush, up_n _ _ ej]; exact a.1 j hj
    · simp only [me_1, me_3]; simpa using c
    · by_cases ej : j = i
      · subst ej
        simp only [me_1, me_2, me_3, me_4, aPush, up_s]
        have := dd j hj
        simp [this.2.2]
      · simp only [me_1, me_2, me_3, me_4, aPush, up_n _ _ ej]
        have := dd j hj
        simp [ej, this]
    · simp only [me_1, me_2, me_3]; simpa [aPush] using e j hj
  · exact hT.elim
def tt_X4_pop : pm_T := fun args M k => match args with
  | [.ref p, .int x] => ∃ ec S i, isSt p ∧ x = nI i ∧ SdX M p ec S ∧ i < 4 ∧ S.1 i ≠ [] ∧ ∀ M', SdX M' p ec (aPop S i) → pm_fr (stF p) M M' → k none M'
  | _ => False
abbrev ct_X4_pop : List pm_C := []
set_option maxHeartbeats 4000000 in
theorem sm_X4_pop  : pm_Sem SHx yX4_pop cX4_pop 2 none 1 tt_X4_pop := by
  refine pm_Sem_intro bl_X4_pop ct_X4_pop cs_X4_pop rfl (fun _ h => absurd h List.not_mem_nil) ck_X4_pop (by decide +kernel) (by decide) ?_
  intro X k hX args M hT
  have hb0 := hX 0 bk_X4_pop_0 (List.mem_of_getElem? (i := 0) rfl)
  clear hX
  unfold tt_X4_pop at hT; split at hT
  · next p x =>
    obtain ⟨ec, S, i, hp, rfl, hS, hi, hl, hT⟩ := hT
    have hn0 : 0 < (S.1 i).length := List.length_pos_iff.mpr hl
    refine ⟨by simp [lg_sl, Value.category], ?_⟩
    refine hb0 _ _ _ ?_
    simp [bk_X4_pop_0, pm_arr, pm_e_c0, pm_e_c1, pm_e_cti, pm_e_ctl, pm_e_ctr, pm_e_go, pm_e_ii, pm_e_ldi, pm_e_ldr, pm_e_li, pm_e_lk, pm_e_r, pm_e_ri, pm_e_rii, pm_e_ril, pm_e_rm0, pm_e_rm1, pm_e_rs0, pm_e_rs1, pm_e_v2, pm_e_wp0, pm_e_wp1, pm_f2, pm_f3, pm_fld, pm_fv, pm_obj, pm_s_aload_n, pm_s_dup2, pm_s_getfield, pm_s_iaload, pm_s_iastore, pm_s_iconst, pm_s_iload_n, pm_s_isub, pm_s_laload, pm_s_lastore, pm_s_lushr, pm_s_return, ct_X4_pop, pS, pR, pC, pE, pL, -Int32.not_le, -Int32.not_lt, -Int64.not_le, -Int64.not_lt, lv_args, st_0 hp, st_1 hp, st_2 hp]
    simp (disch := omega) only [ni_in, ni_cl, ni_add, ni_mul, ni_sub, ni_lt, ni_le, ni_eq, ni_eq0, ni_lt0, ni_0le, ni_0lt, ni_le0, ni_a1, ni_a3, ni_a7, ni_a15, hS.c hi, hS.n hi, me_3]
    repeat refine ⟨by omega, ?_⟩
    refine hT _ ?_ ((pm_fr.rfl.setL (by simp)).set (by simp))
    have h48 := hS.p48 hi
    have e1 : ((lN (pq (S.1 i))).toUInt64 >>> ((nI 4).toInt64.toUInt64 &&& Int64.toUInt64 63)).toInt64 = lN (pq (S.1 i).dropLast) := by
      rw [wb_shr (by omega) (by decide), ← dropLast_pq (hS.d16 hi)]
    rw [e1]
    obtain ⟨a, b, c, dd, e⟩ := hS
    refine ⟨⟨fun j hj => ?_, a.2⟩, b, ?_, fun j hj => ?_, fun j hj => ?_⟩
    · by_cases ej : j = i
      · subst ej
        simp only [aPop, up_s, List.length_dropLast]
        have := a.1 j hj
        exact ⟨by omega, fun z hz => this.2 z ((List.dropLast_sublist _).subset hz)⟩
      · simp only [aPop, up_n _ _ ej]; exact a.1 j hj
    · simp only [me_1, me_3]; simpa using c
    · by_cases ej : j = i
      · subst ej
        simp only [me_1, me_2, me_3, me_4, aPop, up_s]
        have := dd j hj
        simp [this.2.2]
      · simp only [me_1, me_2, me_3, me_4, aPop, up_n _ _ ej]
        have := dd j hj
        simp [ej, this]
    · simp only [me_1, me_2, me_3]; simpa [aPop] using e j hj
  · exact hT.elim
def tt_X4_lastOf : pm_T := fun args M k => match args with
  | [.ref p, .int x] => ∃ ec S i, isSt p ∧ x = nI i ∧ SdX M p ec S ∧ i < 4 ∧ k (some (.int (nI (lastC (S.1 i))))) M
  | _ => False
abbrev ct_X4_lastOf : List pm_C := []
set_option maxHeartbeats 4000000 in
theorem sm_X4_lastOf  : pm_Sem SHx yX4_lastOf cX4_lastOf 2 (some .int) 1 tt_X4_lastOf := by
  refine pm_Sem_intro bl_X4_lastOf ct_X4_lastOf cs_X4_lastOf rfl (fun _ h => absurd h List.not_mem_nil) ck_X4_lastOf (by decide +kernel) (by decide) ?_
  intro X k hX args M hT
  have hb0 := hX 0 bk_X4_lastOf_0 (List.mem_of_getElem? (i := 0) rfl)
  clear hX
  unfold tt_X4_lastOf at hT; split at hT
  · next p x =>
    obtain ⟨ec, S, i, hp, rfl, hS, hi, hT⟩ := hT
    have h48 := hS.p48 hi
    refine ⟨by simp [lg_sl, Value.category], ?_⟩
    refine hb0 _ _ _ ?_
    simp [bk_X4_lastOf_0, pm_arr, pm_e_c0, pm_e_c1, pm_e_cti, pm_e_ctl, pm_e_ctr, pm_e_go, pm_e_ii, pm_e_l, pm_e_ldi, pm_e_ldr, pm_e_lk, pm_e_r, pm_e_ri, pm_e_rm0, pm_e_rm1, pm_e_rs0, pm_e_rs1, pm_e_wp0, pm_e_wp1, pm_f2, pm_f3, pm_fld, pm_fv, pm_obj, pm_s_aload_n, pm_s_bipush, pm_s_getfield, pm_s_iand, pm_s_iload_n, pm_s_ireturn, pm_s_l2i, pm_s_laload, ct_X4_lastOf, pS, pR, pC, pE, pL, -Int32.not_le, -Int32.not_lt, -Int64.not_le, -Int64.not_lt, lv_args, st_0 hp, st_1 hp]
    simp (disch := omega) only [ni_in, ni_cl, ni_add, ni_mul, ni_sub, ni_lt, ni_le, ni_eq, ni_eq0, ni_lt0, ni_0le, ni_0lt, ni_le0, ni_a1, ni_a3, ni_a7, ni_a15, hS.c hi, ln_i]
    refine ⟨hi, ?_⟩
    rw [show nI (pq (S.1 i)) &&& nI 15 = nI (lastC (S.1 i)) from by
      rw [← lastC_pq (hS.d16 hi)]; exact pk_and _ 4 (by decide) |>.trans (by rw [show (nI (pq (S.1 i))).toBitVec.toNat = pq (S.1 i) % 2 ^ 32 from rfl]; congr 1; omega)]
    exact hT
  · exact hT.elim
