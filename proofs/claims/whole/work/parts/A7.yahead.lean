/-! THE ORDER OF COLUMNS, on the reference's side -/
def lxC : List Nat → List Nat → Bool
  | [], [] => false
  | [], _ :: _ => true
  | _ :: _, [] => false
  | x :: l, y :: m => if x = y then lxC l m else decide (x < y)
def alw (w : Nat) (l : List Nat) : Nat := pq l * 16 ^ (w - l.length)
theorem pq_cons (x : Nat) (l : List Nat) : pq (x :: l) = x * 16 ^ l.length + pq l := by
  have := pq_append [x] l
  have e : pq [x] = x := by show 16 * 0 + x = x; omega
  rw [e] at this; exact this
theorem alw_cons {w x : Nat} {l : List Nat} (h : l.length ≤ w) : alw (w + 1) (x :: l) = x * 16 ^ w + alw w l := by
  unfold alw
  rw [pq_cons, List.length_cons, show w + 1 - (l.length + 1) = w - l.length by omega, Nat.add_mul, Nat.mul_assoc, ← Nat.pow_add, show l.length + (w - l.length) = w by omega]
theorem alw_lt {w : Nat} {l : List Nat} (h : l.length ≤ w) (hd : ∀ d ∈ l, d < 16) : alw w l < 16 ^ w := by
  have h1 := pq_lt hd
  unfold alw
  calc pq l * 16 ^ (w - l.length) < 16 ^ l.length * 16 ^ (w - l.length) := Nat.mul_lt_mul_of_pos_right h1 (Nat.pow_pos (by decide))
    _ = 16 ^ w := by rw [← Nat.pow_add]; congr 1; omega
theorem lxC_al : ∀ (w : Nat) (l m : List Nat), l.length ≤ w → m.length ≤ w → (∀ d ∈ l, 1 ≤ d ∧ d < 16) → (∀ d ∈ m, 1 ≤ d ∧ d < 16) → lxC l m = decide (alw w l < alw w m)
  | w, [], [], _, _, _, _ => by simp [lxC]
  | w, [], y :: m, _, h2, _, hm => by
    cases w with
    | zero => simp at h2
    | succ w =>
      have hy := hm y List.mem_cons_self
      rw [alw_cons (by simpa using h2)]
      have : alw (w + 1) [] = 0 := by unfold alw; rw [pq_nil, Nat.zero_mul]
      rw [this]
      have hp : 1 * 16 ^ w ≤ y * 16 ^ w := Nat.mul_le_mul_right _ hy.1
      have hp0 : 0 < 16 ^ w := Nat.pow_pos (by decide)
      show true = _
      rw [decide_eq_true (by omega)]
  | w, x :: l, [], _, _, _, _ => by
    have : alw w [] = 0 := by unfold alw; rw [pq_nil, Nat.zero_mul]
    rw [this]
    show false = _
    rw [decide_eq_false (by omega)]
  | w, x :: l, y :: m, h1, h2, hl, hm => by
    cases w with
    | zero => simp at h1
    | succ w =>
      have hl1 : l.length ≤ w := by simpa using h1
      have hm1 : m.length ≤ w := by simpa using h2
      have hll : ∀ d ∈ l, 1 ≤ d ∧ d < 16 := fun d hd => hl d (List.mem_cons_of_mem _ hd)
      have hmm : ∀ d ∈ m, 1 ≤ d ∧ d < 16 := fun d hd => hm d (List.mem_cons_of_mem _ hd)
      have ih := lxC_al w l m hl1 hm1 hll hmm
      have b1 := alw_lt hl1 (fun d hd => (hll d hd).2)
      have b2 := alw_lt hm1 (fun d hd => (hmm d hd).2)
      rw [alw_cons hl1, alw_cons hm1]
      show (if x = y then lxC l m else decide (x < y)) = _
      by_cases z : x = y
      · rw [if_pos z, ih, z]
        exact decide_eq_decide.mpr (by omega)
      · rw [if_neg z]
        refine decide_eq_decide.mpr ⟨fun h => ?_, fun h => ?_⟩
        · have : (x + 1) * 16 ^ w ≤ y * 16 ^ w := Nat.mul_le_mul_right _ h
          rw [Nat.succ_mul] at this; omega
        · refine Classical.byContradiction (fun q => ?_)
          have : (y + 1) * 16 ^ w ≤ x * 16 ^ w := Nat.mul_le_mul_right _ (by omega)
          rw [Nat.succ_mul] at this; omega
theorem lxC_get : ∀ (i : Nat) (l m : List Nat), i < l.length → i < m.length → (∀ j, j < i → l.getD j 0 = m.getD j 0) → l.getD i 0 ≠ m.getD i 0 → lxC l m = decide (l.getD i 0 < m.getD i 0)
  | _, [], _, h, _, _, _ => by simp at h
  | _, _ :: _, [], _, h, _, _ => by simp at h
  | 0, x :: l, y :: m, _, _, _, hne => by
    show (if x = y then _ else _) = _
    rw [if_neg (by simpa using hne)]; simp
  | i + 1, x :: l, y :: m, h1, h2, he, hne => by
    have e0 : x = y := by simpa using he 0 (by omega)
    show (if x = y then lxC l m else _) = _
    rw [if_pos e0]
    have := lxC_get i l m (by simpa using h1) (by simpa using h2) (fun j hj => by simpa using he (j + 1) (by omega)) (by simpa using hne)
    rw [this]; simp
theorem lxC_len : ∀ (l m : List Nat), (∀ j, j < l.length → j < m.length → l.getD j 0 = m.getD j 0) → lxC l m = decide (l.length < m.length)
  | [], [], _ => by simp [lxC]
  | [], _ :: _, _ => by simp [lxC]
  | _ :: _, [], _ => by simp [lxC]
  | x :: l, y :: m, he => by
    have e0 : x = y := by simpa using he 0 (by simp) (by simp)
    show (if x = y then lxC l m else _) = _
    rw [if_pos e0, lxC_len l m (fun j h1 h2 => by simpa using he (j + 1) (by simpa using h1) (by simpa using h2))]
    exact decide_eq_decide.mpr (by simp)
theorem lxC_12 {S : St} (hO : okS S) {a b : Nat} (ha : a < 4) (hb : b < 4) : lxC (S.1 a) (S.1 b) = decide (al (S.1 a) < al (S.1 b)) := lxC_al 12 _ _ (hO.1 a ha).1 (hO.1 b hb).1 (fun d hd => by have := (hO.1 a ha).2 d hd; omega) (fun d hd => by have := (hO.1 b hb).2 d hd; omega)
def tt_X7_isAhead : pm_T := fun args M k => match args with
  | [.ref 0, .int x, .int y] => ∃ (P : Pm) (S : St) (a b : Nat), x = nI a ∧ y = nI b ∧ a < 4 ∧ b < 4 ∧ okP P ∧ SdY M 10 0 (pR P) S ∧ okS S ∧ inD P S ∧ k (some (.int (pb (decide (al (S.1 a) < al (S.1 b)))))) M
  | _ => False
abbrev ct_X7_isAhead : List pm_C := []
set_option maxHeartbeats 4000000 in
theorem sm_X7_isAhead  : pm_Sem SHy yX7_isAhead cX7_isAhead 4 (some .boolean) 1 tt_X7_isAhead := by
  refine pm_Sem_intro bl_X7_isAhead ct_X7_isAhead cs_X7_isAhead rfl (fun _ h => absurd h List.not_mem_nil) ck_X7_isAhead (by decide +kernel) (by decide) ?_
  intro X k hX args M hT
  have hb0 := hX 0 bk_X7_isAhead_0 (List.mem_of_getElem? (i := 0) rfl)
  have hb2 := hX 2 bk_X7_isAhead_2 (List.mem_of_getElem? (i := 1) rfl)
  have hb76 := hX 76 bk_X7_isAhead_76 (List.mem_of_getElem? (i := 2) rfl)
  have hb77 := hX 77 bk_X7_isAhead_77 (List.mem_of_getElem? (i := 3) rfl)
  have hb78 := hX 78 bk_X7_isAhead_78 (List.mem_of_getElem? (i := 4) rfl)
  have hb84 := hX 84 bk_X7_isAhead_84 (List.mem_of_getElem? (i := 5) rfl)
  have hb103 := hX 103 bk_X7_isAhead_103 (List.mem_of_getElem? (i := 6) rfl)
  have hb104 := hX 104 bk_X7_isAhead_104 (List.mem_of_getElem? (i := 7) rfl)
  clear hX
  unfold tt_X7_isAhead at hT; split at hT
  · next x y =>
    obtain ⟨P, S, a, b, rfl, rfl, ha, hb, hP, hS, hO, hI, hT⟩ := hT
    rw [← lxC_12 hO ha hb] at hT
    have la := (hO.1 a ha).1
    have lb := (hO.1 b hb).1
    have na : M.1 10 a = nI (S.1 a).length := hS.n ha
    have nb : M.1 10 b = nI (S.1 b).length := hS.n hb
    have ca : ∀ j, j < (S.1 a).length → M.1 11 (12 * a + j) = nI (cdN (pR P) ((S.1 a).getD j 0)) := fun j hj => hS.c ha hj
    have cb : ∀ j, j < (S.1 b).length → M.1 11 (12 * b + j) = nI (cdN (pR P) ((S.1 b).getD j 0)) := fun j hj => hS.c hb hj
    refine ⟨by simp [lg_sl, Value.category], ?_⟩
    have out : (∀ j, j < (S.1 a).length → j < (S.1 b).length → (S.1 a).getD j 0 = (S.1 b).getD j 0) → X 84 [(0, .ref 0), (1, .int (nI a)), (2, .int (nI b))] [] M := by
      intro he
      rw [lxC_len _ _ he] at hT
      have h104 : ∀ q : Bool, q = decide ((S.1 a).length < (S.1 b).length) → X 104 [] [.int (pb q)] M := by
        intro q eq
        rw [← eq] at hT
        refine hb104 _ _ _ ?_
        simp (maxSteps := 2000000) [bk_X7_isAhead_0, bk_X7_isAhead_2, bk_X7_isAhead_76, bk_X7_isAhead_77, bk_X7_isAhead_78, bk_X7_isAhead_84, bk_X7_isAhead_103, bk_X7_isAhead_104, pm_arr, pm_e_c0, pm_e_c1, pm_e_cti, pm_e_ctl, pm_e_ctr, pm_e_go, pm_e_i, pm_e_ii, pm_e_ldi, pm_e_ldr, pm_e_lk, pm_e_r, pm_e_ri, pm_e_rm0, pm_e_rm1, pm_e_rs0, pm_e_rs1, pm_e_wp0, pm_e_wp1, pm_f2, pm_f3, pm_fld, pm_fv, pm_obj, pm_s_aload_n, pm_s_bipush, pm_s_getfield, pm_s_goto, pm_s_iadd, pm_s_iaload, pm_s_iconst, pm_s_if_icmp_eq, pm_s_if_icmp_ge, pm_s_iinc, pm_s_iload_n, pm_s_imul, pm_s_ireturn, pm_s_istore_n, ct_X7_isAhead, pS, pR, pC, pE, pL, -Int32.not_le, -Int32.not_lt, -Int64.not_le, -Int64.not_lt, -List.getD_eq_getElem?_getD, pb_01]
        exact hT
      refine hb84 _ _ _ ?_
      simp (maxSteps := 2000000) [bk_X7_isAhead_0, bk_X7_isAhead_2, bk_X7_isAhead_76, bk_X7_isAhead_77, bk_X7_isAhead_78, bk_X7_isAhead_84, bk_X7_isAhead_103, bk_X7_isAhead_104, pm_arr, pm_e_c0, pm_e_c1, pm_e_cti, pm_e_ctl, pm_e_ctr, pm_e_go, pm_e_i, pm_e_ii, pm_e_ldi, pm_e_ldr, pm_e_lk, pm_e_r, pm_e_ri, pm_e_rm0, pm_e_rm1, pm_e_rs0, pm_e_rs1, pm_e_wp0, pm_e_wp1, pm_f2, pm_f3, pm_fld, pm_fv, pm_obj, pm_s_aload_n, pm_s_bipush, pm_s_getfield, pm_s_goto, pm_s_iadd, pm_s_iaload, pm_s_iconst, pm_s_if_icmp_eq, pm_s_if_icmp_ge, pm_s_iinc, pm_s_iload_n, pm_s_imul, pm_s_ireturn, pm_s_istore_n, ct_X7_isAhead, pS, pR, pC, pE, pL, -Int32.not_le, -Int32.not_lt, -Int64.not_le, -Int64.not_lt, -List.getD_eq_getElem?_getD, sy_0, sy_10]
      rw [ni_in (by omega), ni_in (by omega), ni_cl (by omega), ni_cl (by omega), na, nb, ni_le (by omega) (by omega)]
      refine ⟨by omega, by omega, fun h => ?_, fun h => h104 true (by rw [decide_eq_true (by omega)])⟩
      refine hb103 _ _ _ ?_
      simp (maxSteps := 2000000) [bk_X7_isAhead_0, bk_X7_isAhead_2, bk_X7_isAhead_76, bk_X7_isAhead_77, bk_X7_isAhead_78, bk_X7_isAhead_84, bk_X7_isAhead_103, bk_X7_isAhead_104, pm_arr, pm_e_c0, pm_e_c1, pm_e_cti, pm_e_ctl, pm_e_ctr, pm_e_go, pm_e_i, pm_e_ii, pm_e_ldi, pm_e_ldr, pm_e_lk, pm_e_r, pm_e_ri, pm_e_rm0, pm_e_rm1, pm_e_rs0, pm_e_rs1, pm_e_wp0, pm_e_wp1, pm_f2, pm_f3, pm_fld, pm_fv, pm_obj, pm_s_aload_n, pm_s_bipush, pm_s_getfield, pm_s_goto, pm_s_iadd, pm_s_iaload, pm_s_iconst, pm_s_if_icmp_eq, pm_s_if_icmp_ge, pm_s_iinc, pm_s_iload_n, pm_s_imul, pm_s_ireturn, pm_s_istore_n, ct_X7_isAhead, pS, pR, pC, pE, pL, -Int32.not_le, -Int32.not_lt, -Int64.not_le, -Int64.not_lt, -List.getD_eq_getElem?_getD]
      exact h104 false (by rw [decide_eq_false (by omega)])
    have loop : ∀ (f i : Nat), (S.1 a).length ≤ i + f → i ≤ (S.1 a).length → i ≤ (S.1 b).length → (∀ j, j < i → (S.1 a).getD j 0 = (S.1 b).getD j 0) → X 2 [(0, .ref 0), (1, .int (nI a)), (2, .int (nI b)), (3, .int (nI i))] [] M := by
      intro f
      induction f with
      | zero =>
        intro i f1 f2 f3 he
        refine hb2 _ _ _ ?_
        simp (maxSteps := 2000000) [bk_X7_isAhead_0, bk_X7_isAhead_2, bk_X7_isAhead_76, bk_X7_isAhead_77, bk_X7_isAhead_78, bk_X7_isAhead_84, bk_X7_isAhead_103, bk_X7_isAhead_104, pm_arr, pm_e_c0, pm_e_c1, pm_e_cti, pm_e_ctl, pm_e_ctr, pm_e_go, pm_e_i, pm_e_ii, pm_e_ldi, pm_e_ldr, pm_e_lk, pm_e_r, pm_e_ri, pm_e_rm0, pm_e_rm1, pm_e_rs0, pm_e_rs1, pm_e_wp0, pm_e_wp1, pm_f2, pm_f3, pm_fld, pm_fv, pm_obj, pm_s_aload_n, pm_s_bipush, pm_s_getfield, pm_s_goto, pm_s_iadd, pm_s_iaload, pm_s_iconst, pm_s_if_icmp_eq, pm_s_if_icmp_ge, pm_s_iinc, pm_s_iload_n, pm_s_imul, pm_s_ireturn, pm_s_istore_n, ct_X7_isAhead, pS, pR, pC, pE, pL, -Int32.not_le, -Int32.not_lt, -Int64.not_le, -Int64.not_lt, -List.getD_eq_getElem?_getD, sy_0, sy_10]
        rw [ni_in (by omega), ni_cl (by omega), na, ni_le (by omega) (by omega)]
        exact ⟨by omega, fun _ => out (fun j h1 h2 => he j (by omega)), fun h => by omega⟩
      | succ f ih =>
        intro i f1 f2 f3 he
        by_cases h1 : i < (S.1 a).length
        · by_cases h2 : i < (S.1 b).length
          · have da : (S.1 a).getD i 0 ≤ pS P * pR P := hI.1 a ha _ (getD_mem h1)
            have db : (S.1 b).getD i 0 ≤ pS P * pR P := hI.1 b hb _ (getD_mem h2)
            have c1 := cdN_le hP da
            have c2 := cdN_le hP db
            have hne : ¬ (S.1 a).getD i 0 = (S.1 b).getD i 0 → ∀ q : Bool, q = decide ((S.1 a).getD i 0 < (S.1 b).getD i 0) → X 77 [] [.int (pb q)] M := by
              intro hn q eq
              rw [lxC_get i _ _ h1 h2 he hn, ← eq] at hT
              refine hb77 _ _ _ ?_
              simp (maxSteps := 2000000) [bk_X7_isAhead_0, bk_X7_isAhead_2, bk_X7_isAhead_76, bk_X7_isAhead_77, bk_X7_isAhead_78, bk_X7_isAhead_84, bk_X7_isAhead_103, bk_X7_isAhead_104, pm_arr, pm_e_c0, pm_e_c1, pm_e_cti, pm_e_ctl, pm_e_ctr, pm_e_go, pm_e_i, pm_e_ii, pm_e_ldi, pm_e_ldr, pm_e_lk, pm_e_r, pm_e_ri, pm_e_rm0, pm_e_rm1, pm_e_rs0, pm_e_rs1, pm_e_wp0, pm_e_wp1, pm_f2, pm_f3, pm_fld, pm_fv, pm_obj, pm_s_aload_n, pm_s_bipush, pm_s_getfield, pm_s_goto, pm_s_iadd, pm_s_iaload, pm_s_iconst, pm_s_if_icmp_eq, pm_s_if_icmp_ge, pm_s_iinc, pm_s_iload_n, pm_s_imul, pm_s_ireturn, pm_s_istore_n, ct_X7_isAhead, pS, pR, pC, pE, pL, -Int32.not_le, -Int32.not_lt, -Int64.not_le, -Int64.not_lt, -List.getD_eq_getElem?_getD, pb_01]
              exact hT
            refine hb2 _ _ _ ?_
            simp (maxSteps := 2000000) [bk_X7_isAhead_0, bk_X7_isAhead_2, bk_X7_isAhead_76, bk_X7_isAhead_77, bk_X7_isAhead_78, bk_X7_isAhead_84, bk_X7_isAhead_103, bk_X7_isAhead_104, pm_arr, pm_e_c0, pm_e_c1, pm_e_cti, pm_e_ctl, pm_e_ctr, pm_e_go, pm_e_i, pm_e_ii, pm_e_ldi, pm_e_ldr, pm_e_lk, pm_e_r, pm_e_ri, pm_e_rm0, pm_e_rm1, pm_e_rs0, pm_e_rs1, pm_e_wp0, pm_e_wp1, pm_f2, pm_f3, pm_fld, pm_fv, pm_obj, pm_s_aload_n, pm_s_bipush, pm_s_getfield, pm_s_goto, pm_s_iadd, pm_s_iaload, pm_s_iconst, pm_s_if_icmp_eq, pm_s_if_icmp_ge, pm_s_iinc, pm_s_iload_n, pm_s_imul, pm_s_ireturn, pm_s_istore_n, ct_X7_isAhead, pS, pR, pC, pE, pL, -Int32.not_le, -Int32.not_lt, -Int64.not_le, -Int64.not_lt, -List.getD_eq_getElem?_getD, sy_0, sy_10, sy_11]
            rw [ni_in (n := 4) (by omega), ni_in (n := 4) (by omega), ni_cl (a := a) (by omega), ni_cl (a := b) (by omega), na, nb, ni_le (by omega) (by omega), ni_le (by omega) (by omega), ni_mul, ni_mul, ni_add, ni_add, ni_in (by omega), ni_in (by omega), ni_cl (by omega), ni_cl (by omega), ca i h1, cb i h2, ni_eq (by omega) (by omega), ni_le (by omega) (by omega), cdN_le_iff hP.2.2.1 hP.2.2.2.1]
            refine ⟨by omega, fun h => by omega, fun _ => ⟨by omega, fun h => by omega, fun _ => ⟨by omega, by omega, fun h => ?_, fun h => ?_⟩⟩⟩
            · refine hb78 _ _ _ ?_
              simp (maxSteps := 2000000) [bk_X7_isAhead_0, bk_X7_isAhead_2, bk_X7_isAhead_76, bk_X7_isAhead_77, bk_X7_isAhead_78, bk_X7_isAhead_84, bk_X7_isAhead_103, bk_X7_isAhead_104, pm_arr, pm_e_c0, pm_e_c1, pm_e_cti, pm_e_ctl, pm_e_ctr, pm_e_go, pm_e_i, pm_e_ii, pm_e_ldi, pm_e_ldr, pm_e_lk, pm_e_r, pm_e_ri, pm_e_rm0, pm_e_rm1, pm_e_rs0, pm_e_rs1, pm_e_wp0, pm_e_wp1, pm_f2, pm_f3, pm_fld, pm_fv, pm_obj, pm_s_aload_n, pm_s_bipush, pm_s_getfield, pm_s_goto, pm_s_iadd, pm_s_iaload, pm_s_iconst, pm_s_if_icmp_eq, pm_s_if_icmp_ge, pm_s_iinc, pm_s_iload_n, pm_s_imul, pm_s_ireturn, pm_s_istore_n, ct_X7_isAhead, pS, pR, pC, pE, pL, -Int32.not_le, -Int32.not_lt, -Int64.not_le, -Int64.not_lt, -List.getD_eq_getElem?_getD]
              rw [ni_add]
              refine ih (i + 1) (by omega) (by omega) (by omega) (fun j hj => ?_)
              by_cases z : j = i
              · rw [z]; exact cdN_inj hP.2.2.1 hP.2.2.2.1 h
              · exact he j (by omega)
            · have hn : ¬ (S.1 a).getD i 0 = (S.1 b).getD i 0 := fun z => h (by rw [z])
              refine ⟨by omega, by omega, fun h' => ?_, fun h' => hne hn true (by rw [decide_eq_true (by omega)])⟩
              refine hb76 _ _ _ ?_
              simp (maxSteps := 2000000) [bk_X7_isAhead_0, bk_X7_isAhead_2, bk_X7_isAhead_76, bk_X7_isAhead_77, bk_X7_isAhead_78, bk_X7_isAhead_84, bk_X7_isAhead_103, bk_X7_isAhead_104, pm_arr, pm_e_c0, pm_e_c1, pm_e_cti, pm_e_ctl, pm_e_ctr, pm_e_go, pm_e_i, pm_e_ii, pm_e_ldi, pm_e_ldr, pm_e_lk, pm_e_r, pm_e_ri, pm_e_rm0, pm_e_rm1, pm_e_rs0, pm_e_rs1, pm_e_wp0, pm_e_wp1, pm_f2, pm_f3, pm_fld, pm_fv, pm_obj, pm_s_aload_n, pm_s_bipush, pm_s_getfield, pm_s_goto, pm_s_iadd, pm_s_iaload, pm_s_iconst, pm_s_if_icmp_eq, pm_s_if_icmp_ge, pm_s_iinc, pm_s_iload_n, pm_s_imul, pm_s_ireturn, pm_s_istore_n, ct_X7_isAhead, pS, pR, pC, pE, pL, -Int32.not_le, -Int32.not_lt, -Int64.not_le, -Int64.not_lt, -List.getD_eq_getElem?_getD]
              exact hne hn false (by rw [decide_eq_false (by omega)])
          · refine hb2 _ _ _ ?_
            simp (maxSteps := 2000000) [bk_X7_isAhead_0, bk_X7_isAhead_2, bk_X7_isAhead_76, bk_X7_isAhead_77, bk_X7_isAhead_78, bk_X7_isAhead_84, bk_X7_isAhead_103, bk_X7_isAhead_104, pm_arr, pm_e_c0, pm_e_c1, pm_e_cti, pm_e_ctl, pm_e_ctr, pm_e_go, pm_e_i, pm_e_ii, pm_e_ldi, pm_e_ldr, pm_e_lk, pm_e_r, pm_e_ri, pm_e_rm0, pm_e_rm1, pm_e_rs0, pm_e_rs1, pm_e_wp0, pm_e_wp1, pm_f2, pm_f3, pm_fld, pm_fv, pm_obj, pm_s_aload_n, pm_s_bipush, pm_s_getfield, pm_s_goto, pm_s_iadd, pm_s_iaload, pm_s_iconst, pm_s_if_icmp_eq, pm_s_if_icmp_ge, pm_s_iinc, pm_s_iload_n, pm_s_imul, pm_s_ireturn, pm_s_istore_n, ct_X7_isAhead, pS, pR, pC, pE, pL, -Int32.not_le, -Int32.not_lt, -Int64.not_le, -Int64.not_lt, -List.getD_eq_getElem?_getD, sy_0, sy_10, sy_11]
            rw [ni_in (n := 4) (by omega), ni_in (n := 4) (by omega), ni_cl (a := a) (by omega), ni_cl (a := b) (by omega), na, nb, ni_le (by omega) (by omega), ni_le (by omega) (by omega)]
            exact ⟨by omega, fun h => by omega, fun _ => ⟨by omega, fun _ => out (fun j h1 h2 => he j (by omega)), fun h => by omega⟩⟩
        · refine hb2 _ _ _ ?_
          simp (maxSteps := 2000000) [bk_X7_isAhead_0, bk_X7_isAhead_2, bk_X7_isAhead_76, bk_X7_isAhead_77, bk_X7_isAhead_78, bk_X7_isAhead_84, bk_X7_isAhead_103, bk_X7_isAhead_104, pm_arr, pm_e_c0, pm_e_c1, pm_e_cti, pm_e_ctl, pm_e_ctr, pm_e_go, pm_e_i, pm_e_ii, pm_e_ldi, pm_e_ldr, pm_e_lk, pm_e_r, pm_e_ri, pm_e_rm0, pm_e_rm1, pm_e_rs0, pm_e_rs1, pm_e_wp0, pm_e_wp1, pm_f2, pm_f3, pm_fld, pm_fv, pm_obj, pm_s_aload_n, pm_s_bipush, pm_s_getfield, pm_s_goto, pm_s_iadd, pm_s_iaload, pm_s_iconst, pm_s_if_icmp_eq, pm_s_if_icmp_ge, pm_s_iinc, pm_s_iload_n, pm_s_imul, pm_s_ireturn, pm_s_istore_n, ct_X7_isAhead, pS, pR, pC, pE, pL, -Int32.not_le, -Int32.not_lt, -Int64.not_le, -Int64.not_lt, -List.getD_eq_getElem?_getD, sy_0, sy_10]
          rw [ni_in (by omega), ni_cl (by omega), na, ni_le (by omega) (by omega)]
          exact ⟨by omega, fun _ => out (fun j h1 h2 => he j (by omega)), fun h => by omega⟩
    refine hb0 _ _ _ ?_
    simp (maxSteps := 2000000) [bk_X7_isAhead_0, bk_X7_isAhead_2, bk_X7_isAhead_76, bk_X7_isAhead_77, bk_X7_isAhead_78, bk_X7_isAhead_84, bk_X7_isAhead_103, bk_X7_isAhead_104, pm_arr, pm_e_c0, pm_e_c1, pm_e_cti, pm_e_ctl, pm_e_ctr, pm_e_go, pm_e_i, pm_e_ii, pm_e_ldi, pm_e_ldr, pm_e_lk, pm_e_r, pm_e_ri, pm_e_rm0, pm_e_rm1, pm_e_rs0, pm_e_rs1, pm_e_wp0, pm_e_wp1, pm_f2, pm_f3, pm_fld, pm_fv, pm_obj, pm_s_aload_n, pm_s_bipush, pm_s_getfield, pm_s_goto, pm_s_iadd, pm_s_iaload, pm_s_iconst, pm_s_if_icmp_eq, pm_s_if_icmp_ge, pm_s_iinc, pm_s_iload_n, pm_s_imul, pm_s_ireturn, pm_s_istore_n, ct_X7_isAhead, pS, pR, pC, pE, pL, -Int32.not_le, -Int32.not_lt, -Int64.not_le, -Int64.not_lt, -List.getD_eq_getElem?_getD, lv_args]
    exact loop (S.1 a).length 0 (by omega) (by omega) (by omega) (fun j hj => by omega)
  · exact hT.elim
/-- the table's columns in their order -/
theorem tbO_keys {P : Pm} (hP : okP P) (S : St) : ((tbO P S 4).map (ky S)).Perm ((List.range (pC P)).map (ky S)) ∧ ((tbO P S 4).map (ky S)).Pairwise (· < ·) := by
  have hC := hP.2.2.2.2.2.2.1
  have h6 := hP.2.2.2.2.2.1
  have e : (List.range 4).map (sg S) = [sg S 0, sg S 1, sg S 2, sg S 3] := rfl
  have hk : ((List.range 4).map (sg S)).map (ky S) = oL S := by
    apply List.ext_getElem
    · rw [oL_len]; rfl
    · intro i h1 h2
      have hi : i < 4 := by simpa using h1
      have := oL_at S hi
      rw [List.getD_eq_getElem?_getD, List.getElem?_eq_getElem h2] at this
      simp only [Option.getD_some] at this
      rw [this]; simp
  constructor
  · have p1 : ((List.range 4).map (sg S)).Perm (List.range 4) := by
      rw [List.perm_iff_count]
      intro v
      rw [e, show List.range 4 = [0, 1, 2, 3] from rfl, count4, count4]
      have := sg_sum S (fun i => if i = v then 1 else 0)
      exact this
    have p2 := p1.filter (fun i => decide (i < pC P))
    have e2 : (List.range 4).filter (fun i => decide (i < pC P)) = List.range (pC P) := by
      rcases (show pC P = 1 ∨ pC P = 2 ∨ pC P = 3 ∨ pC P = 4 by omega) with q | q | q | q <;> rw [q] <;> rfl
    rw [e2] at p2
    exact p2.map _
  · have hs := oL_sorted S
    rw [← hk, List.pairwise_map] at hs
    rw [List.pairwise_map]
    exact hs.filter _
