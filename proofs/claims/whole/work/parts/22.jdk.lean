def bcF (x : Int32) : Int32 :=
  let u := fun (a b : Int32) => (a.toUInt32 >>> (b.toUInt32 &&& Int32.toUInt32 31)).toInt32
  let a := x - (u x (nI 1) &&& nI 1431655765)
  let b := (a &&& nI 858993459) + (u a (nI 2) &&& nI 858993459)
  let c := (b + u b (nI 4)) &&& nI 252645135
  let d := c + u c (nI 8)
  let e := d + u d (nI 16)
  e &&& nI 63
def tt_J6_bitCount_0f7a4 : pm_T := fun args M k => match args with
  | [.int x] => k (some (.int (bcF x))) M
  | _ => False
abbrev ct_J6_bitCount_0f7a4 : List pm_C := []
set_option maxHeartbeats 4000000 in
theorem sm_J6_bitCount_0f7a4 {SH : List pm_S} : pm_Sem SH yJ6_bitCount_0f7a4 cJ6_bitCount_0f7a4 1 (some .int) 1 tt_J6_bitCount_0f7a4 := by
  refine pm_Sem_intro bl_J6_bitCount_0f7a4 ct_J6_bitCount_0f7a4 cs_J6_bitCount_0f7a4 rfl (fun _ h => absurd h List.not_mem_nil) ck_J6_bitCount_0f7a4 (by decide +kernel) (by decide) ?_
  intro X k hX args M hT
  have hb0 := hX 0 bk_J6_bitCount_0f7a4_0 (List.mem_of_getElem? (i := 0) rfl)
  clear hX
  unfold tt_J6_bitCount_0f7a4 at hT; split at hT
  · refine ⟨by simp [lg_sl, Value.category], ?_⟩
    refine hb0 _ _ _ ?_
    simp [bk_J6_bitCount_0f7a4_0, pm_e_c0, pm_e_c1, pm_e_cti, pm_e_ctl, pm_e_ctr, pm_e_go, pm_e_i, pm_e_ii, pm_e_ldi, pm_e_lk, pm_e_rm0, pm_e_rm1, pm_e_rs0, pm_e_rs1, pm_e_wp0, pm_e_wp1, pm_f2, pm_f3, pm_s_bipush, pm_s_iadd, pm_s_iand, pm_s_iconst, pm_s_iload_n, pm_s_ireturn, pm_s_istore_n, pm_s_isub, pm_s_iushr, pm_s_ldc_w, ct_J6_bitCount_0f7a4, -Int32.not_le, -Int32.not_lt, -Int64.not_le, -Int64.not_lt, lv_args]
    exact hT
  · exact hT.elim
def mxF (x y : Int32) : Int32 := if x < y then y else x
def mnF (x y : Int32) : Int32 := if y < x then y else x
def tt_J9_max_7cf53 : pm_T := fun args M k => match args with
  | [.int x, .int y] => k (some (.int (mxF x y))) M
  | _ => False
abbrev ct_J9_max_7cf53 : List pm_C := []
set_option maxHeartbeats 4000000 in
theorem sm_J9_max_7cf53 {SH : List pm_S} : pm_Sem SH yJ9_max_7cf53 cJ9_max_7cf53 2 (some .int) 1 tt_J9_max_7cf53 := by
  refine pm_Sem_intro bl_J9_max_7cf53 ct_J9_max_7cf53 cs_J9_max_7cf53 rfl (fun _ h => absurd h List.not_mem_nil) ck_J9_max_7cf53 (by decide +kernel) (by decide) ?_
  intro X k hX args M hT
  have hb0 := hX 0 bk_J9_max_7cf53_0 (List.mem_of_getElem? (i := 0) rfl)
  have hb9 := hX 9 bk_J9_max_7cf53_9 (List.mem_of_getElem? (i := 1) rfl)
  have hb10 := hX 10 bk_J9_max_7cf53_10 (List.mem_of_getElem? (i := 2) rfl)
  clear hX
  unfold tt_J9_max_7cf53 mxF at hT; split at hT
  · refine ⟨by simp [lg_sl, Value.category], ?_⟩
    refine hb0 _ _ _ ?_
    simp [bk_J9_max_7cf53_0, bk_J9_max_7cf53_9, bk_J9_max_7cf53_10, pm_e_cti, pm_e_ctl, pm_e_ctr, pm_e_go, pm_e_ii, pm_e_ldi, pm_e_lk, pm_e_rm0, pm_e_rm1, pm_e_rs0, pm_e_rs1, pm_e_wp0, pm_e_wp1, pm_f2, pm_f3, pm_s_goto, pm_s_if_icmp_lt, pm_s_iload_n, pm_s_ireturn, ct_J9_max_7cf53, -Int32.not_le, -Int32.not_lt, -Int64.not_le, -Int64.not_lt, lv_args]
    repeat' first
      | refine ⟨fun _ => ?_, fun _ => ?_⟩
      | (refine hb9 _ _ _ ?_; simp [bk_J9_max_7cf53_0, bk_J9_max_7cf53_9, bk_J9_max_7cf53_10, pm_e_cti, pm_e_ctl, pm_e_ctr, pm_e_go, pm_e_ii, pm_e_ldi, pm_e_lk, pm_e_rm0, pm_e_rm1, pm_e_rs0, pm_e_rs1, pm_e_wp0, pm_e_wp1, pm_f2, pm_f3, pm_s_goto, pm_s_if_icmp_lt, pm_s_iload_n, pm_s_ireturn, ct_J9_max_7cf53, -Int32.not_le, -Int32.not_lt, -Int64.not_le, -Int64.not_lt])
      | (refine hb10 _ _ _ ?_; simp [bk_J9_max_7cf53_0, bk_J9_max_7cf53_9, bk_J9_max_7cf53_10, pm_e_cti, pm_e_ctl, pm_e_ctr, pm_e_go, pm_e_ii, pm_e_ldi, pm_e_lk, pm_e_rm0, pm_e_rm1, pm_e_rs0, pm_e_rs1, pm_e_wp0, pm_e_wp1, pm_f2, pm_f3, pm_s_goto, pm_s_if_icmp_lt, pm_s_iload_n, pm_s_ireturn, ct_J9_max_7cf53, -Int32.not_le, -Int32.not_lt, -Int64.not_le, -Int64.not_lt])
    all_goals simp_all [ni_0, ni_1, pb_t, pb_f, -Int32.not_le, -Int32.not_lt]
  · exact hT.elim
def tt_J9_min_7cf53 : pm_T := fun args M k => match args with
  | [.int x, .int y] => k (some (.int (mnF x y))) M
  | _ => False
abbrev ct_J9_min_7cf53 : List pm_C := []
set_option maxHeartbeats 4000000 in
theorem sm_J9_min_7cf53 {SH : List pm_S} : pm_Sem SH yJ9_min_7cf53 cJ9_min_7cf53 2 (some .int) 1 tt_J9_min_7cf53 := by
  refine pm_Sem_intro bl_J9_min_7cf53 ct_J9_min_7cf53 cs_J9_min_7cf53 rfl (fun _ h => absurd h List.not_mem_nil) ck_J9_min_7cf53 (by decide +kernel) (by decide) ?_
  intro X k hX args M hT
  have hb0 := hX 0 bk_J9_min_7cf53_0 (List.mem_of_getElem? (i := 0) rfl)
  have hb9 := hX 9 bk_J9_min_7cf53_9 (List.mem_of_getElem? (i := 1) rfl)
  have hb10 := hX 10 bk_J9_min_7cf53_10 (List.mem_of_getElem? (i := 2) rfl)
  clear hX
  unfold tt_J9_min_7cf53 mnF at hT; split at hT
  · refine ⟨by simp [lg_sl, Value.category], ?_⟩
    refine hb0 _ _ _ ?_
    simp [bk_J9_min_7cf53_0, bk_J9_min_7cf53_9, bk_J9_min_7cf53_10, pm_e_cti, pm_e_ctl, pm_e_ctr, pm_e_go, pm_e_ii, pm_e_ldi, pm_e_lk, pm_e_rm0, pm_e_rm1, pm_e_rs0, pm_e_rs1, pm_e_wp0, pm_e_wp1, pm_f2, pm_f3, pm_s_goto, pm_s_if_icmp_gt, pm_s_iload_n, pm_s_ireturn, ct_J9_min_7cf53, -Int32.not_le, -Int32.not_lt, -Int64.not_le, -Int64.not_lt, lv_args]
    repeat' first
      | refine ⟨fun _ => ?_, fun _ => ?_⟩
      | (refine hb9 _ _ _ ?_; simp [bk_J9_min_7cf53_0, bk_J9_min_7cf53_9, bk_J9_min_7cf53_10, pm_e_cti, pm_e_ctl, pm_e_ctr, pm_e_go, pm_e_ii, pm_e_ldi, pm_e_lk, pm_e_rm0, pm_e_rm1, pm_e_rs0, pm_e_rs1, pm_e_wp0, pm_e_wp1, pm_f2, pm_f3, pm_s_goto, pm_s_if_icmp_gt, pm_s_iload_n, pm_s_ireturn, ct_J9_min_7cf53, -Int32.not_le, -Int32.not_lt, -Int64.not_le, -Int64.not_lt])
      | (refine hb10 _ _ _ ?_; simp [bk_J9_min_7cf53_0, bk_J9_min_7cf53_9, bk_J9_min_7cf53_10, pm_e_cti, pm_e_ctl, pm_e_ctr, pm_e_go, pm_e_ii, pm_e_ldi, pm_e_lk, pm_e_rm0, pm_e_rm1, pm_e_rs0, pm_e_rs1, pm_e_wp0, pm_e_wp1, pm_f2, pm_f3, pm_s_goto, pm_s_if_icmp_gt, pm_s_iload_n, pm_s_ireturn, ct_J9_min_7cf53, -Int32.not_le, -Int32.not_lt, -Int64.not_le, -Int64.not_lt])
    all_goals simp_all [ni_0, ni_1, pb_t, pb_f, -Int32.not_le, -Int32.not_lt]
  · exact hT.elim
def fmF (x y : Int32) : Int32 := if 0 ≤ (x ^^^ y) then x - x / y * y else if x - x / y * y = 0 then x - x / y * y else x - x / y * y + y
def tt_J9_floorMod_7cf53 : pm_T := fun args M k => match args with
  | [.int x, .int y] => ¬ y = 0 ∧ k (some (.int (fmF x y))) M
  | _ => False
abbrev ct_J9_floorMod_7cf53 : List pm_C := []
set_option maxHeartbeats 4000000 in
theorem sm_J9_floorMod_7cf53 {SH : List pm_S} : pm_Sem SH yJ9_floorMod_7cf53 cJ9_floorMod_7cf53 3 (some .int) 1 tt_J9_floorMod_7cf53 := by
  refine pm_Sem_intro bl_J9_floorMod_7cf53 ct_J9_floorMod_7cf53 cs_J9_floorMod_7cf53 rfl (fun _ h => absurd h List.not_mem_nil) ck_J9_floorMod_7cf53 (by decide +kernel) (by decide) ?_
  intro X k hX args M hT
  have hb0 := hX 0 bk_J9_floorMod_7cf53_0 (List.mem_of_getElem? (i := 0) rfl)
  have hb18 := hX 18 bk_J9_floorMod_7cf53_18 (List.mem_of_getElem? (i := 1) rfl)
  clear hX
  unfold tt_J9_floorMod_7cf53 fmF at hT; split at hT
  · obtain ⟨h0, hT⟩ := hT
    refine ⟨by simp [lg_sl, Value.category], ?_⟩
    refine hb0 _ _ _ ?_
    simp [bk_J9_floorMod_7cf53_0, bk_J9_floorMod_7cf53_18, pm_e_cti, pm_e_ctl, pm_e_ctr, pm_e_go, pm_e_i, pm_e_ii, pm_e_ldi, pm_e_lk, pm_e_rm0, pm_e_rm1, pm_e_rs0, pm_e_rs1, pm_e_wp0, pm_e_wp1, pm_f2, pm_f3, pm_s_iadd, pm_s_ifCond_eq, pm_s_ifCond_ge, pm_s_iload_n, pm_s_irem, pm_s_ireturn, pm_s_istore_n, pm_s_ixor, ct_J9_floorMod_7cf53, -Int32.not_le, -Int32.not_lt, -Int64.not_le, -Int64.not_lt, lv_args, h0]
    repeat' first
      | refine ⟨fun _ => ?_, fun _ => ?_⟩
      | (refine hb18 _ _ _ ?_; simp [bk_J9_floorMod_7cf53_0, bk_J9_floorMod_7cf53_18, pm_e_cti, pm_e_ctl, pm_e_ctr, pm_e_go, pm_e_i, pm_e_ii, pm_e_ldi, pm_e_lk, pm_e_rm0, pm_e_rm1, pm_e_rs0, pm_e_rs1, pm_e_wp0, pm_e_wp1, pm_f2, pm_f3, pm_s_iadd, pm_s_ifCond_eq, pm_s_ifCond_ge, pm_s_iload_n, pm_s_irem, pm_s_ireturn, pm_s_istore_n, pm_s_ixor, ct_J9_floorMod_7cf53, -Int32.not_le, -Int32.not_lt, -Int64.not_le, -Int64.not_lt])
    all_goals simp_all [ni_0, ni_1, pb_t, pb_f, -Int32.not_le, -Int32.not_lt]
  · exact hT.elim
-- a row is filled
def pm_fill (M : pm_M) (q n : Nat) (v : Int32) : pm_M := (fun a j => if a = q ∧ j < n then v else M.1 a j, M.2)
def pm_fillL (M : pm_M) (q n : Nat) (v : Int64) : pm_M := (M.1, fun a j => if a = q ∧ j < n then v else M.2 a j)
theorem pm_fill_0 {M : pm_M} {q : Nat} {v : Int32} : pm_fill M q 0 v = M := by simp [pm_fill]
theorem pm_fillL_0 {M : pm_M} {q : Nat} {v : Int64} : pm_fillL M q 0 v = M := by simp [pm_fillL]
theorem pm_fill_s {M : pm_M} {q n : Nat} {v : Int32} : pm_set (pm_fill M q n v) q n v = pm_fill M q (n + 1) v := by
  refine Prod.ext (funext fun a => funext fun j => ?_) rfl
  show (if a = q ∧ j = n then v else if a = q ∧ j < n then v else M.1 a j) = if a = q ∧ j < n + 1 then v else M.1 a j
  by_cases h : a = q <;> by_cases h2 : j = n <;> by_cases h3 : j < n <;> simp [h, h2, h3] <;> omega
theorem pm_fillL_s {M : pm_M} {q n : Nat} {v : Int64} : pm_setL (pm_fillL M q n v) q n v = pm_fillL M q (n + 1) v := by
  refine Prod.ext rfl (funext fun a => funext fun j => ?_)
  show (if a = q ∧ j = n then v else if a = q ∧ j < n then v else M.2 a j) = if a = q ∧ j < n + 1 then v else M.2 a j
  by_cases h : a = q <;> by_cases h2 : j = n <;> by_cases h3 : j < n <;> simp [h, h2, h3] <;> omega
def tt_J7_fill_d0a16 (SH : List pm_S) : pm_T := fun args M k => match args with
  | [.ref q, .long v] => ∃ n, SH[q]? = some (.inl (4, n)) ∧ n < 2 ^ 31 ∧ k none (pm_fillL M q n v)
  | _ => False
abbrev ct_J7_fill_d0a16 : List pm_C := []
set_option maxHeartbeats 4000000 in
theorem sm_J7_fill_d0a16 {SH : List pm_S} : pm_Sem SH yJ7_fill_d0a16 cJ7_fill_d0a16 5 none 1 (tt_J7_fill_d0a16 SH) := by
  refine pm_Sem_intro bl_J7_fill_d0a16 ct_J7_fill_d0a16 cs_J7_fill_d0a16 rfl (fun _ h => absurd h List.not_mem_nil) ck_J7_fill_d0a16 (by decide +kernel) (by decide) ?_
  intro X k hX args M hT
  have hb0 := hX 0 bk_J7_fill_d0a16_0 (List.mem_of_getElem? (i := 0) rfl)
  have hb6 := hX 6 bk_J7_fill_d0a16_6 (List.mem_of_getElem? (i := 1) rfl)
  have hb22 := hX 22 bk_J7_fill_d0a16_22 (List.mem_of_getElem? (i := 2) rfl)
  clear hX
  unfold tt_J7_fill_d0a16 at hT; split at hT
  · next q v =>
    obtain ⟨n, hq, hn, hT⟩ := hT
    have loop : ∀ (f i : Nat), n ≤ i + f → i ≤ n → X 6 [(0, .ref q), (1, .long v), (3, .int (nI i)), (4, .int (nI n))] [] (pm_fillL M q i v) := by
      intro f
      induction f with
      | zero =>
        intro i h1 h2
        have e : i = n := by omega
        subst e
        refine hb6 _ _ _ ?_
        simp [bk_J7_fill_d0a16_0, bk_J7_fill_d0a16_6, bk_J7_fill_d0a16_22, pm_arr, pm_e_c0, pm_e_c1, pm_e_cti, pm_e_ctl, pm_e_ctr, pm_e_go, pm_e_i, pm_e_ii, pm_e_ldi, pm_e_ldl, pm_e_ldr, pm_e_lk, pm_e_r, pm_e_ril, pm_e_rm0, pm_e_rm1, pm_e_rs0, pm_e_rs1, pm_e_wp0, pm_e_wp1, pm_f2, pm_f3, pm_s_aload_n, pm_s_arraylength, pm_s_goto, pm_s_iconst, pm_s_if_icmp_ge, pm_s_iinc, pm_s_iload, pm_s_iload_n, pm_s_istore, pm_s_istore_n, pm_s_lastore, pm_s_lload_n, pm_s_return, ct_J7_fill_d0a16, -Int32.not_le, -Int32.not_lt, -Int64.not_le, -Int64.not_lt]
        refine hb22 _ _ _ ?_
        simp [bk_J7_fill_d0a16_0, bk_J7_fill_d0a16_6, bk_J7_fill_d0a16_22, pm_arr, pm_e_c0, pm_e_c1, pm_e_cti, pm_e_ctl, pm_e_ctr, pm_e_go, pm_e_i, pm_e_ii, pm_e_ldi, pm_e_ldl, pm_e_ldr, pm_e_lk, pm_e_r, pm_e_ril, pm_e_rm0, pm_e_rm1, pm_e_rs0, pm_e_rs1, pm_e_wp0, pm_e_wp1, pm_f2, pm_f3, pm_s_aload_n, pm_s_arraylength, pm_s_goto, pm_s_iconst, pm_s_if_icmp_ge, pm_s_iinc, pm_s_iload, pm_s_iload_n, pm_s_istore, pm_s_istore_n, pm_s_lastore, pm_s_lload_n, pm_s_return, ct_J7_fill_d0a16, -Int32.not_le, -Int32.not_lt, -Int64.not_le, -Int64.not_lt]
        exact hT
      | succ f ih =>
        intro i h1 h2
        refine hb6 _ _ _ ?_
        simp [bk_J7_fill_d0a16_0, bk_J7_fill_d0a16_6, bk_J7_fill_d0a16_22, pm_arr, pm_e_c0, pm_e_c1, pm_e_cti, pm_e_ctl, pm_e_ctr, pm_e_go, pm_e_i, pm_e_ii, pm_e_ldi, pm_e_ldl, pm_e_ldr, pm_e_lk, pm_e_r, pm_e_ril, pm_e_rm0, pm_e_rm1, pm_e_rs0, pm_e_rs1, pm_e_wp0, pm_e_wp1, pm_f2, pm_f3, pm_s_aload_n, pm_s_arraylength, pm_s_goto, pm_s_iconst, pm_s_if_icmp_ge, pm_s_iinc, pm_s_iload, pm_s_iload_n, pm_s_istore, pm_s_istore_n, pm_s_lastore, pm_s_lload_n, pm_s_return, ct_J7_fill_d0a16, -Int32.not_le, -Int32.not_lt, -Int64.not_le, -Int64.not_lt, hq]
        rw [ni_le hn (by omega), ni_in (by omega), ni_cl (by omega)]
        refine ⟨fun h => ?_, fun h => ⟨by omega, ?_⟩⟩
        · have e : i = n := by omega
          subst e
          refine hb22 _ _ _ ?_
          simp [bk_J7_fill_d0a16_0, bk_J7_fill_d0a16_6, bk_J7_fill_d0a16_22, pm_arr, pm_e_c0, pm_e_c1, pm_e_cti, pm_e_ctl, pm_e_ctr, pm_e_go, pm_e_i, pm_e_ii, pm_e_ldi, pm_e_ldl, pm_e_ldr, pm_e_lk, pm_e_r, pm_e_ril, pm_e_rm0, pm_e_rm1, pm_e_rs0, pm_e_rs1, pm_e_wp0, pm_e_wp1, pm_f2, pm_f3, pm_s_aload_n, pm_s_arraylength, pm_s_goto, pm_s_iconst, pm_s_if_icmp_ge, pm_s_iinc, pm_s_iload, pm_s_iload_n, pm_s_istore, pm_s_istore_n, pm_s_lastore, pm_s_lload_n, pm_s_return, ct_J7_fill_d0a16, -Int32.not_le, -Int32.not_lt, -Int64.not_le, -Int64.not_lt]
          exact hT
        · rw [ni_add, pm_fillL_s]
          exact ih (i + 1) (by omega) (by omega)
    refine ⟨by simp [lg_sl, Value.category], ?_⟩
    refine hb0 _ _ _ ?_
    simp [bk_J7_fill_d0a16_0, bk_J7_fill_d0a16_6, bk_J7_fill_d0a16_22, pm_arr, pm_e_c0, pm_e_c1, pm_e_cti, pm_e_ctl, pm_e_ctr, pm_e_go, pm_e_i, pm_e_ii, pm_e_ldi, pm_e_ldl, pm_e_ldr, pm_e_lk, pm_e_r, pm_e_ril, pm_e_rm0, pm_e_rm1, pm_e_rs0, pm_e_rs1, pm_e_wp0, pm_e_wp1, pm_f2, pm_f3, pm_s_aload_n, pm_s_arraylength, pm_s_goto, pm_s_iconst, pm_s_if_icmp_ge, pm_s_iinc, pm_s_iload, pm_s_iload_n, pm_s_istore, pm_s_istore_n, pm_s_lastore, pm_s_lload_n, pm_s_return, ct_J7_fill_d0a16, -Int32.not_le, -Int32.not_lt, -Int64.not_le, -Int64.not_lt, lv_args, hq]
    have := loop n 0 (by omega) (by omega)
    rw [pm_fillL_0] at this
    exact this
  · exact hT.elim
def tt_J7_fill_53178 (SH : List pm_S) : pm_T := fun args M k => match args with
  | [.ref q, .int v] => ∃ n, SH[q]? = some (.inl (0, n)) ∧ n < 2 ^ 31 ∧ k none (pm_fill M q n v)
  | _ => False
abbrev ct_J7_fill_53178 : List pm_C := []
set_option maxHeartbeats 4000000 in
theorem sm_J7_fill_53178 {SH : List pm_S} : pm_Sem SH yJ7_fill_53178 cJ7_fill_53178 4 none 1 (tt_J7_fill_53178 SH) := by
  refine pm_Sem_intro bl_J7_fill_53178 ct_J7_fill_53178 cs_J7_fill_53178 rfl (fun _ h => absurd h List.not_mem_nil) ck_J7_fill_53178 (by decide +kernel) (by decide) ?_
  intro X k hX args M hT
  have hb0 := hX 0 bk_J7_fill_53178_0 (List.mem_of_getElem? (i := 0) rfl)
  have hb5 := hX 5 bk_J7_fill_53178_5 (List.mem_of_getElem? (i := 1) rfl)
  have hb20 := hX 20 bk_J7_fill_53178_20 (List.mem_of_getElem? (i := 2) rfl)
  clear hX
  unfold tt_J7_fill_53178 at hT; split at hT
  · next q v =>
    obtain ⟨n, hq, hn, hT⟩ := hT
    have loop : ∀ (f i : Nat), n ≤ i + f → i ≤ n → X 5 [(0, .ref q), (1, .int v), (2, .int (nI i)), (3, .int (nI n))] [] (pm_fill M q i v) := by
      intro f
      induction f with
      | zero =>
        intro i h1 h2
        have e : i = n := by omega
        subst e
        refine hb5 _ _ _ ?_
        simp [bk_J7_fill_53178_0, bk_J7_fill_53178_5, bk_J7_fill_53178_20, pm_arr, pm_e_c0, pm_e_c1, pm_e_cti, pm_e_ctl, pm_e_ctr, pm_e_go, pm_e_i, pm_e_ii, pm_e_ldi, pm_e_ldr, pm_e_lk, pm_e_r, pm_e_rii, pm_e_rm0, pm_e_rm1, pm_e_rs0, pm_e_rs1, pm_e_wp0, pm_e_wp1, pm_f2, pm_f3, pm_s_aload_n, pm_s_arraylength, pm_s_goto, pm_s_iastore, pm_s_iconst, pm_s_if_icmp_ge, pm_s_iinc, pm_s_iload_n, pm_s_istore_n, pm_s_return, ct_J7_fill_53178, -Int32.not_le, -Int32.not_lt, -Int64.not_le, -Int64.not_lt]
        refine hb20 _ _ _ ?_
        simp [bk_J7_fill_53178_0, bk_J7_fill_53178_5, bk_J7_fill_53178_20, pm_arr, pm_e_c0, pm_e_c1, pm_e_cti, pm_e_ctl, pm_e_ctr, pm_e_go, pm_e_i, pm_e_ii, pm_e_ldi, pm_e_ldr, pm_e_lk, pm_e_r, pm_e_rii, pm_e_rm0, pm_e_rm1, pm_e_rs0, pm_e_rs1, pm_e_wp0, pm_e_wp1, pm_f2, pm_f3, pm_s_aload_n, pm_s_arraylength, pm_s_goto, pm_s_iastore, pm_s_iconst, pm_s_if_icmp_ge, pm_s_iinc, pm_s_iload_n, pm_s_istore_n, pm_s_return, ct_J7_fill_53178, -Int32.not_le, -Int32.not_lt, -Int64.not_le, -Int64.not_lt]
        exact hT
      | succ f ih =>
        intro i h1 h2
        refine hb5 _ _ _ ?_
        simp [bk_J7_fill_53178_0, bk_J7_fill_53178_5, bk_J7_fill_53178_20, pm_arr, pm_e_c0, pm_e_c1, pm_e_cti, pm_e_ctl, pm_e_ctr, pm_e_go, pm_e_i, pm_e_ii, pm_e_ldi, pm_e_ldr, pm_e_lk, pm_e_r, pm_e_rii, pm_e_rm0, pm_e_rm1, pm_e_rs0, pm_e_rs1, pm_e_wp0, pm_e_wp1, pm_f2, pm_f3, pm_s_aload_n, pm_s_arraylength, pm_s_goto, pm_s_iastore, pm_s_iconst, pm_s_if_icmp_ge, pm_s_iinc, pm_s_iload_n, pm_s_istore_n, pm_s_return, ct_J7_fill_53178, -Int32.not_le, -Int32.not_lt, -Int64.not_le, -Int64.not_lt, hq]
        rw [ni_le hn (by omega), ni_in (by omega), ni_cl (by omega)]
        refine ⟨fun h => ?_, fun h => ⟨by omega, ?_⟩⟩
        · have e : i = n := by omega
          subst e
          refine hb20 _ _ _ ?_
          simp [bk_J7_fill_53178_0, bk_J7_fill_53178_5, bk_J7_fill_53178_20, pm_arr, pm_e_c0, pm_e_c1, pm_e_cti, pm_e_ctl, pm_e_ctr, pm_e_go, pm_e_i, pm_e_ii, pm_e_ldi, pm_e_ldr, pm_e_lk, pm_e_r, pm_e_rii, pm_e_rm0, pm_e_rm1, pm_e_rs0, pm_e_rs1, pm_e_wp0, pm_e_wp1, pm_f2, pm_f3, pm_s_aload_n, pm_s_arraylength, pm_s_goto, pm_s_iastore, pm_s_iconst, pm_s_if_icmp_ge, pm_s_iinc, pm_s_iload_n, pm_s_istore_n, pm_s_return, ct_J7_fill_53178, -Int32.not_le, -Int32.not_lt, -Int64.not_le, -Int64.not_lt]
          exact hT
        · rw [ni_add, pm_fill_s]
          exact ih (i + 1) (by omega) (by omega)
    refine ⟨by simp [lg_sl, Value.category], ?_⟩
    refine hb0 _ _ _ ?_
    simp [bk_J7_fill_53178_0, bk_J7_fill_53178_5, bk_J7_fill_53178_20, pm_arr, pm_e_c0, pm_e_c1, pm_e_cti, pm_e_ctl, pm_e_ctr, pm_e_go, pm_e_i, pm_e_ii, pm_e_ldi, pm_e_ldr, pm_e_lk, pm_e_r, pm_e_rii, pm_e_rm0, pm_e_rm1, pm_e_rs0, pm_e_rs1, pm_e_wp0, pm_e_wp1, pm_f2, pm_f3, pm_s_aload_n, pm_s_arraylength, pm_s_goto, pm_s_iastore, pm_s_iconst, pm_s_if_icmp_ge, pm_s_iinc, pm_s_iload_n, pm_s_istore_n, pm_s_return, ct_J7_fill_53178, -Int32.not_le, -Int32.not_lt, -Int64.not_le, -Int64.not_lt, lv_args, hq]
    have := loop n 0 (by omega) (by omega)
    rw [pm_fill_0] at this
    exact this
  · exact hT.elim
def tt_J7_fill_fb410 (SH : List pm_S) : pm_T := fun args M k => match args with
  | [.ref q, .int v] => ∃ n, SH[q]? = some (.inl (3, n)) ∧ n < 2 ^ 31 ∧ v.toInt16.toInt32 = v ∧ k none (pm_fill M q n v)
  | _ => False
abbrev ct_J7_fill_fb410 : List pm_C := []
set_option maxHeartbeats 4000000 in
theorem sm_J7_fill_fb410 {SH : List pm_S} : pm_Sem SH yJ7_fill_fb410 cJ7_fill_fb410 4 none 1 (tt_J7_fill_fb410 SH) := by
  refine pm_Sem_intro bl_J7_fill_fb410 ct_J7_fill_fb410 cs_J7_fill_fb410 rfl (fun _ h => absurd h List.not_mem_nil) ck_J7_fill_fb410 (by decide +kernel) (by decide) ?_
  intro X k hX args M hT
  have hb0 := hX 0 bk_J7_fill_fb410_0 (List.mem_of_getElem? (i := 0) rfl)
  have hb5 := hX 5 bk_J7_fill_fb410_5 (List.mem_of_getElem? (i := 1) rfl)
  have hb20 := hX 20 bk_J7_fill_fb410_20 (List.mem_of_getElem? (i := 2) rfl)
  clear hX
  unfold tt_J7_fill_fb410 at hT; split at hT
  · next q v =>
    obtain ⟨n, hq, hn, hv, hT⟩ := hT
    have loop : ∀ (f i : Nat), n ≤ i + f → i ≤ n → X 5 [(0, .ref q), (1, .int v), (2, .int (nI i)), (3, .int (nI n))] [] (pm_fill M q i v) := by
      intro f
      induction f with
      | zero =>
        intro i h1 h2
        have e : i = n := by omega
        subst e
        refine hb5 _ _ _ ?_
        simp [bk_J7_fill_fb410_0, bk_J7_fill_fb410_5, bk_J7_fill_fb410_20, pm_arr, pm_e_c0, pm_e_c1, pm_e_cti, pm_e_ctl, pm_e_ctr, pm_e_go, pm_e_i, pm_e_ii, pm_e_ldi, pm_e_ldr, pm_e_lk, pm_e_r, pm_e_rii, pm_e_rm0, pm_e_rm1, pm_e_rs0, pm_e_rs1, pm_e_wp0, pm_e_wp1, pm_f2, pm_f3, pm_s_aload_n, pm_s_arraylength, pm_s_goto, pm_s_iconst, pm_s_if_icmp_ge, pm_s_iinc, pm_s_iload_n, pm_s_istore_n, pm_s_return, pm_s_sastore, ct_J7_fill_fb410, -Int32.not_le, -Int32.not_lt, -Int64.not_le, -Int64.not_lt]
        refine hb20 _ _ _ ?_
        simp [bk_J7_fill_fb410_0, bk_J7_fill_fb410_5, bk_J7_fill_fb410_20, pm_arr, pm_e_c0, pm_e_c1, pm_e_cti, pm_e_ctl, pm_e_ctr, pm_e_go, pm_e_i, pm_e_ii, pm_e_ldi, pm_e_ldr, pm_e_lk, pm_e_r, pm_e_rii, pm_e_rm0, pm_e_rm1, pm_e_rs0, pm_e_rs1, pm_e_wp0, pm_e_wp1, pm_f2, pm_f3, pm_s_aload_n, pm_s_arraylength, pm_s_goto, pm_s_iconst, pm_s_if_icmp_ge, pm_s_iinc, pm_s_iload_n, pm_s_istore_n, pm_s_return, pm_s_sastore, ct_J7_fill_fb410, -Int32.not_le, -Int32.not_lt, -Int64.not_le, -Int64.not_lt]
        exact hT
      | succ f ih =>
        intro i h1 h2
        refine hb5 _ _ _ ?_
        simp [bk_J7_fill_fb410_0, bk_J7_fill_fb410_5, bk_J7_fill_fb410_20, pm_arr, pm_e_c0, pm_e_c1, pm_e_cti, pm_e_ctl, pm_e_ctr, pm_e_go, pm_e_i, pm_e_ii, pm_e_ldi, pm_e_ldr, pm_e_lk, pm_e_r, pm_e_rii, pm_e_rm0, pm_e_rm1, pm_e_rs0, pm_e_rs1, pm_e_wp0, pm_e_wp1, pm_f2, pm_f3, pm_s_aload_n, pm_s_arraylength, pm_s_goto, pm_s_iconst, pm_s_if_icmp_ge, pm_s_iinc, pm_s_iload_n, pm_s_istore_n, pm_s_return, pm_s_sastore, ct_J7_fill_fb410, -Int32.not_le, -Int32.not_lt, -Int64.not_le, -Int64.not_lt, hq, hv]
        rw [ni_le hn (by omega), ni_in (by omega), ni_cl (by omega)]
        refine ⟨fun h => ?_, fun h => ⟨by omega, ?_⟩⟩
        · have e : i = n := by omega
          subst e
          refine hb20 _ _ _ ?_
          simp [bk_J7_fill_fb410_0, bk_J7_fill_fb410_5, bk_J7_fill_fb410_20, pm_arr, pm_e_c0, pm_e_c1, pm_e_cti, pm_e_ctl, pm_e_ctr, pm_e_go, pm_e_i, pm_e_ii, pm_e_ldi, pm_e_ldr, pm_e_lk, pm_e_r, pm_e_rii, pm_e_rm0, pm_e_rm1, pm_e_rs0, pm_e_rs1, pm_e_wp0, pm_e_wp1, pm_f2, pm_f3, pm_s_aload_n, pm_s_arraylength, pm_s_goto, pm_s_iconst, pm_s_if_icmp_ge, pm_s_iinc, pm_s_iload_n, pm_s_istore_n, pm_s_return, pm_s_sastore, ct_J7_fill_fb410, -Int32.not_le, -Int32.not_lt, -Int64.not_le, -Int64.not_lt]
          exact hT
        · rw [ni_add, pm_fill_s]
          exact ih (i + 1) (by omega) (by omega)
    refine ⟨by simp [lg_sl, Value.category], ?_⟩
    refine hb0 _ _ _ ?_
    simp [bk_J7_fill_fb410_0, bk_J7_fill_fb410_5, bk_J7_fill_fb410_20, pm_arr, pm_e_c0, pm_e_c1, pm_e_cti, pm_e_ctl, pm_e_ctr, pm_e_go, pm_e_i, pm_e_ii, pm_e_ldi, pm_e_ldr, pm_e_lk, pm_e_r, pm_e_rii, pm_e_rm0, pm_e_rm1, pm_e_rs0, pm_e_rs1, pm_e_wp0, pm_e_wp1, pm_f2, pm_f3, pm_s_aload_n, pm_s_arraylength, pm_s_goto, pm_s_iconst, pm_s_if_icmp_ge, pm_s_iinc, pm_s_iload_n, pm_s_istore_n, pm_s_return, pm_s_sastore, ct_J7_fill_fb410, -Int32.not_le, -Int32.not_lt, -Int64.not_le, -Int64.not_lt, lv_args, hq]
    have := loop n 0 (by omega) (by omega)
    rw [pm_fill_0] at this
    exact this
  · exact hT.elim
