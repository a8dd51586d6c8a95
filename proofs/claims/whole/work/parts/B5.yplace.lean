theorem n6 : (nI 6 = 0) = False := by rw [ni_eq0 (by decide)]; simp
theorem me_0 {M : pm_M} {q i j : Nat} {v : Int32} (h : q ≠ 0) : (pm_set M q i v).1 0 j = M.1 0 j := by rw [me_1, if_neg (fun z => h z.1.symm)]
/-! THE REFERENCE's TABLE OF FORMS -/
def eqK (a b : Nat → Nat) : Prop := ∀ j, j < 18 → a j = b j
noncomputable def eq18 (a b : Nat → Nat) : Bool := @decide (eqK a b) (Classical.propDecidable _)
theorem eq18_t {a b : Nat → Nat} : eq18 a b = true ↔ eqK a b := @decide_eq_true_iff _ (Classical.propDecidable _)
theorem eq18_f {a b : Nat → Nat} : eq18 a b = false ↔ ¬ eqK a b := @decide_eq_false_iff_not _ (Classical.propDecidable _)
def tt_X7_isKey : pm_T := fun args M k => match args with
  | [.ref 0, .int x] => ∃ (s : Nat) (a b : Nat → Nat), x = nI s ∧ s < 4002 ∧ (∀ j, j < 18 → M.1 14 (18 * s + j) = nI (a j)) ∧ (∀ j, j < 18 → a j < 32) ∧ kR M b ∧ (∀ j, j < 18 → b j < 32) ∧ k (some (.int (pb (eq18 a b)))) M
  | _ => False
abbrev ct_X7_isKey : List pm_C := []
set_option maxHeartbeats 4000000 in
theorem sm_X7_isKey  : pm_Sem SHy yX7_isKey cX7_isKey 3 (some .boolean) 1 tt_X7_isKey := by
  refine pm_Sem_intro bl_X7_isKey ct_X7_isKey cs_X7_isKey rfl (fun _ h => absurd h List.not_mem_nil) ck_X7_isKey (by decide +kernel) (by decide) ?_
  intro X k hX args M hT
  have hb0 := hX 0 bk_X7_isKey_0 (List.mem_of_getElem? (i := 0) rfl)
  have hb2 := hX 2 bk_X7_isKey_2 (List.mem_of_getElem? (i := 1) rfl)
  have hb30 := hX 30 bk_X7_isKey_30 (List.mem_of_getElem? (i := 2) rfl)
  have hb36 := hX 36 bk_X7_isKey_36 (List.mem_of_getElem? (i := 3) rfl)
  clear hX
  unfold tt_X7_isKey at hT; split at hT
  · next x =>
    obtain ⟨s, a, b, rfl, hs, ha, la, hb, lb, hT⟩ := hT
    refine ⟨by simp [lg_sl, Value.category], ?_⟩
    have loop : ∀ (f i : Nat), 18 ≤ i + f → i ≤ 18 → (∀ j, j < i → a j = b j) → X 2 [(0, .ref 0), (1, .int (nI s)), (2, .int (nI i))] [] M := by
      intro f
      have stop : (∀ j, j < 18 → a j = b j) → X 2 [(0, .ref 0), (1, .int (nI s)), (2, .int (nI 18))] [] M := by
        intro h
        refine hb2 _ _ _ ?_
        simp (maxSteps := 2000000) [bk_X7_isKey_0, bk_X7_isKey_2, bk_X7_isKey_30, bk_X7_isKey_36, pm_arr, pm_e_c0, pm_e_c1, pm_e_cti, pm_e_ctl, pm_e_ctr, pm_e_go, pm_e_i, pm_e_ii, pm_e_ldi, pm_e_ldr, pm_e_lk, pm_e_r, pm_e_ri, pm_e_rm0, pm_e_rm1, pm_e_rs0, pm_e_rs1, pm_e_wp0, pm_e_wp1, pm_f2, pm_f3, pm_fld, pm_fv, pm_obj, pm_s_aload_n, pm_s_baload, pm_s_bipush, pm_s_getfield, pm_s_goto, pm_s_iadd, pm_s_iconst, pm_s_if_icmp_eq, pm_s_if_icmp_ge, pm_s_iinc, pm_s_iload_n, pm_s_imul, pm_s_ireturn, pm_s_istore_n, ct_X7_isKey, pS, pR, pC, pE, pL, -Int32.not_le, -Int32.not_lt, -Int64.not_le, -Int64.not_lt, -List.getD_eq_getElem?_getD, sy_0]
        refine hb36 _ _ _ ?_
        simp (maxSteps := 2000000) [bk_X7_isKey_0, bk_X7_isKey_2, bk_X7_isKey_30, bk_X7_isKey_36, pm_arr, pm_e_c0, pm_e_c1, pm_e_cti, pm_e_ctl, pm_e_ctr, pm_e_go, pm_e_i, pm_e_ii, pm_e_ldi, pm_e_ldr, pm_e_lk, pm_e_r, pm_e_ri, pm_e_rm0, pm_e_rm1, pm_e_rs0, pm_e_rs1, pm_e_wp0, pm_e_wp1, pm_f2, pm_f3, pm_fld, pm_fv, pm_obj, pm_s_aload_n, pm_s_baload, pm_s_bipush, pm_s_getfield, pm_s_goto, pm_s_iadd, pm_s_iconst, pm_s_if_icmp_eq, pm_s_if_icmp_ge, pm_s_iinc, pm_s_iload_n, pm_s_imul, pm_s_ireturn, pm_s_istore_n, ct_X7_isKey, pS, pR, pC, pE, pL, -Int32.not_le, -Int32.not_lt, -Int64.not_le, -Int64.not_lt, -List.getD_eq_getElem?_getD]
        have e : eq18 a b = true := eq18_t.mpr h
        rw [e] at hT
        exact ⟨Or.inr rfl, hT⟩
      induction f with
      | zero =>
        intro i a1 a2 h
        have e : i = 18 := by omega
        subst e; exact stop h
      | succ f ih =>
        intro i a1 a2 h
        by_cases hi : i < 18
        · have h30 : a i = b i → X 30 [(0, .ref 0), (1, .int (nI s)), (2, .int (nI i))] [] M := by
            intro e
            refine hb30 _ _ _ ?_
            simp (maxSteps := 2000000) [bk_X7_isKey_0, bk_X7_isKey_2, bk_X7_isKey_30, bk_X7_isKey_36, pm_arr, pm_e_c0, pm_e_c1, pm_e_cti, pm_e_ctl, pm_e_ctr, pm_e_go, pm_e_i, pm_e_ii, pm_e_ldi, pm_e_ldr, pm_e_lk, pm_e_r, pm_e_ri, pm_e_rm0, pm_e_rm1, pm_e_rs0, pm_e_rs1, pm_e_wp0, pm_e_wp1, pm_f2, pm_f3, pm_fld, pm_fv, pm_obj, pm_s_aload_n, pm_s_baload, pm_s_bipush, pm_s_getfield, pm_s_goto, pm_s_iadd, pm_s_iconst, pm_s_if_icmp_eq, pm_s_if_icmp_ge, pm_s_iinc, pm_s_iload_n, pm_s_imul, pm_s_ireturn, pm_s_istore_n, ct_X7_isKey, pS, pR, pC, pE, pL, -Int32.not_le, -Int32.not_lt, -Int64.not_le, -Int64.not_lt, -List.getD_eq_getElem?_getD]
            rw [ni_add]
            exact ih (i + 1) (by omega) (by omega) (fun j hj => by
              by_cases z : j = i
              · rw [z]; exact e
              · exact h j (by omega))
          have l1 := la i hi
          have l2 := lb i hi
          refine hb2 _ _ _ ?_
          simp (maxSteps := 2000000) [bk_X7_isKey_0, bk_X7_isKey_2, bk_X7_isKey_30, bk_X7_isKey_36, pm_arr, pm_e_c0, pm_e_c1, pm_e_cti, pm_e_ctl, pm_e_ctr, pm_e_go, pm_e_i, pm_e_ii, pm_e_ldi, pm_e_ldr, pm_e_lk, pm_e_r, pm_e_ri, pm_e_rm0, pm_e_rm1, pm_e_rs0, pm_e_rs1, pm_e_wp0, pm_e_wp1, pm_f2, pm_f3, pm_fld, pm_fv, pm_obj, pm_s_aload_n, pm_s_baload, pm_s_bipush, pm_s_getfield, pm_s_goto, pm_s_iadd, pm_s_iconst, pm_s_if_icmp_eq, pm_s_if_icmp_ge, pm_s_iinc, pm_s_iload_n, pm_s_imul, pm_s_ireturn, pm_s_istore_n, ct_X7_isKey, pS, pR, pC, pE, pL, -Int32.not_le, -Int32.not_lt, -Int64.not_le, -Int64.not_lt, -List.getD_eq_getElem?_getD, sy_0, sy_14, sy_18]
          rw [ni_le (by omega) (by omega), ni_mul, ni_add, ni_in (by omega), ni_in (by omega), ni_cl (by omega), ni_cl (by omega), ha i hi, hb i hi, ni_eq (by omega) (by omega)]
          refine ⟨fun q => by omega, fun _ => ⟨by omega, by omega, fun q => h30 q, fun q => ?_⟩⟩
          have e : eq18 a b = false := eq18_f.mpr (fun y => q (y i hi))
          rw [e] at hT
          exact ⟨Or.inl rfl, hT⟩
        · have e : i = 18 := by omega
          subst e; exact stop h
    refine hb0 _ _ _ ?_
    simp (maxSteps := 2000000) [bk_X7_isKey_0, bk_X7_isKey_2, bk_X7_isKey_30, bk_X7_isKey_36, pm_arr, pm_e_c0, pm_e_c1, pm_e_cti, pm_e_ctl, pm_e_ctr, pm_e_go, pm_e_i, pm_e_ii, pm_e_ldi, pm_e_ldr, pm_e_lk, pm_e_r, pm_e_ri, pm_e_rm0, pm_e_rm1, pm_e_rs0, pm_e_rs1, pm_e_wp0, pm_e_wp1, pm_f2, pm_f3, pm_fld, pm_fv, pm_obj, pm_s_aload_n, pm_s_baload, pm_s_bipush, pm_s_getfield, pm_s_goto, pm_s_iadd, pm_s_iconst, pm_s_if_icmp_eq, pm_s_if_icmp_ge, pm_s_iinc, pm_s_iload_n, pm_s_imul, pm_s_ireturn, pm_s_istore_n, ct_X7_isKey, pS, pR, pC, pE, pL, -Int32.not_le, -Int32.not_lt, -Int64.not_le, -Int64.not_lt, -List.getD_eq_getElem?_getD, lv_args]
    exact loop 18 0 (by omega) (by omega) (fun j hj => by omega)
  · exact hT.elim
def hsh (f : Nat → Nat) : Nat → Int32
  | 0 => nI 7
  | i + 1 => nI 31 * hsh f i + nI (f i)
theorem hsh_congr {f g : Nat → Nat} : ∀ n, (∀ j, j < n → f j = g j) → hsh f n = hsh g n
  | 0, _ => rfl
  | n + 1, h => by unfold hsh; rw [hsh_congr n (fun j hj => h j (by omega)), h n (by omega)]
def hx (x : Int32) : Int32 := x ^^^ (x.toUInt32 >>> ((nI 15).toUInt32 &&& Int32.toUInt32 31)).toInt32
def hs0 (x : Int32) : Nat := x.toBitVec.toNat % 16384
theorem hs0_e (x : Int32) : x &&& nI 16383 = nI (hs0 x) := by
  obtain ⟨n, hn, rfl⟩ := wb_of32 x
  unfold hs0
  have e : (nI n).toBitVec.toNat = n := by show (BitVec.ofNat 32 n).toNat = n; rw [BitVec.toNat_ofNat, Nat.mod_eq_of_lt hn]
  rw [e]
  exact pk_andN hn 14 (by decide)
def hsK (f : Nat → Nat) : Nat := hs0 (hx (hsh f 18))
theorem hs_lt (f : Nat → Nat) : hsK f < 16384 := Nat.mod_lt _ (by decide)
theorem hs_congr {f g : Nat → Nat} (h : ∀ j, j < 18 → f j = g j) : hsK f = hsK g := by unfold hsK; rw [hsh_congr 18 h]
abbrev prb (h i : Nat) : Nat := (h + i) % 16384
def SLT (v : Nat → Nat) (n : Nat) (h : Nat → Nat) : Prop := (∀ p, p < 16384 → v p ≤ n) ∧ (∀ p q, p < 16384 → q < 16384 → v p = v q → v p ≠ 0 → p = q) ∧ ∀ s, s < n → ∃ i, i < 16384 ∧ v (prb (h s) i) = s + 1 ∧ ∀ i', i' < i → v (prb (h s) i') ≠ 0
theorem pigeon {N n : Nat} {v : Nat → Nat} (h1 : ∀ p, p < N → v p ≤ n) (h2 : ∀ p q, p < N → q < N → v p = v q → p = q) : N ≤ n + 1 := by
  have := nd_le ((List.range N).map v) (List.range (n + 1)) ?_ ?_
  · simpa using this
  · rw [List.Nodup, List.pairwise_map]
    refine List.Pairwise.imp_of_mem ?_ (List.pairwise_lt_range (n := N))
    intro a b ha hb hab e
    have := h2 a b (List.mem_range.mp ha) (List.mem_range.mp hb) e
    omega
  · intro x hx
    obtain ⟨p, hp, rfl⟩ := List.mem_map.mp hx
    exact List.mem_range.mpr (by have := h1 p (List.mem_range.mp hp); omega)
theorem SLT.free {v : Nat → Nat} {n : Nat} {h : Nat → Nat} (hs : SLT v n h) (hn : n ≤ 4000) {a : Nat} (hall : ∀ i, i < 16384 → v (prb a i) ≠ 0) : False := by
  have all : ∀ p, p < 16384 → v p ≠ 0 := fun p hp => by
    have := hall ((p + 16384 - a % 16384) % 16384) (Nat.mod_lt _ (by decide))
    have e : prb a ((p + 16384 - a % 16384) % 16384) = p := by unfold prb; omega
    rw [e] at this; exact this
  have := pigeon (N := 16384) (n := n) (v := v) hs.1 (fun p q hp hq e => hs.2.1 p q hp hq e (all p hp))
  omega
def TB (M : pm_M) (P : Pm) (ec n : Nat) (R : Nat → St) (lv : Nat → Nat) (g : Nat → Bool) : Prop :=
  M.1 0 23 = nI n ∧ n ≤ 4000 ∧ (∀ s, s < n → FW P ec (R s) ∧ (∀ j, j < 18 → M.1 14 (18 * s + j) = nI (kyF P ec (R s) j)) ∧ M.1 15 s = nI (lv s) ∧ lv s ≤ 4000 ∧ M.1 16 s = pb (g s)) ∧ ∃ v : Nat → Nat, (∀ p, p < 16384 → M.1 17 p = nI (v p)) ∧ SLT v n (fun s => hsK (kyF P ec (R s)))
theorem TB.mv {M M' : pm_M} {P : Pm} {ec n : Nat} {R : Nat → St} {lv : Nat → Nat} {g : Nat → Bool} {ps fs : List Nat} (h : TB M P ec n R lv g) (hf : yfr ps fs M M') (hp : ∀ q ∈ [14, 15, 16, 17], q ∉ ps) (hg : 23 ∉ fs) : TB M' P ec n R lv g := by
  obtain ⟨a, b, c, v, d, e⟩ := h
  refine ⟨by rw [hf.f hg]; exact a, b, fun s hs => ?_, v, fun p hp' => ?_, e⟩
  · obtain ⟨c1, c2, c3, c4, c5⟩ := c s hs
    exact ⟨c1, fun j hj => by rw [hf.i (by decide) (hp 14 (by simp))]; exact c2 j hj, by rw [hf.i (by decide) (hp 15 (by simp))]; exact c3, c4, by rw [hf.i (by decide) (hp 16 (by simp))]; exact c5⟩
  · rw [hf.i (by decide) (hp 17 (by simp))]; exact d p hp'
/-- where the key lies, or the place for it -/
def plc (M : pm_M) (P : Pm) (ec n : Nat) (R : Nat → St) (T : St) (p : Nat) : Prop :=
  (∃ s, s < n ∧ M.1 17 p = nI (s + 1) ∧ fkN (R s) = fkN T) ∨ (M.1 17 p = nI 0 ∧ (∀ s, s < n → fkN (R s) ≠ fkN T) ∧ ∃ i, i < 16384 ∧ p = prb (hsK (kyF P ec T)) i ∧ ∀ i', i' < i → M.1 17 (prb (hsK (kyF P ec T)) i') ≠ nI 0)
def tt_X7_place : pm_T := fun args M k => match args with
  | [.ref 0] => ∃ (P : Pm) (ec n : Nat) (R : Nat → St) (lv : Nat → Nat) (g : Nat → Bool) (T : St), okP P ∧ ec ≤ 2 ∧ TB M P ec n R lv g ∧ FW P ec T ∧ kR M (kyF P ec T) ∧ ∀ (p : Nat), p < 16384 → plc M P ec n R T p → k (some (.int (nI p))) M
  | _ => False
abbrev ct_X7_place : List pm_C := [(false, 204, 7, 2, (some .boolean), tt_X7_isKey)]
set_option maxHeartbeats 4000000 in
theorem sm_X7_place  : pm_Sem SHy yX7_place cX7_place 3 (some .int) 2 tt_X7_place := by
  refine pm_Sem_intro bl_X7_place ct_X7_place cs_X7_place rfl (List.forall_mem_cons.mpr ⟨⟨_, _, _, _, sm_X7_isKey, by decide, cm_X7_isKey, by decide +kernel⟩, fun _ h => absurd h List.not_mem_nil⟩) ck_X7_place (by decide +kernel) (by decide) ?_
  intro X k hX args M hT
  have hb0 := hX 0 bk_X7_place_0 (List.mem_of_getElem? (i := 0) rfl)
  have hb5 := hX 5 bk_X7_place_5 (List.mem_of_getElem? (i := 1) rfl)
  have hb29 := hX 29 bk_X7_place_29 (List.mem_of_getElem? (i := 2) rfl)
  have hb40 := hX 40 bk_X7_place_40 (List.mem_of_getElem? (i := 3) rfl)
  have hb75 := hX 75 bk_X7_place_75 (List.mem_of_getElem? (i := 4) rfl)
  clear hX
  unfold tt_X7_place at hT; split at hT
  · obtain ⟨P, ec, n, R, lv, g, T, hP, he, hB, hF, hK, hT⟩ := hT
    obtain ⟨hn, hn4, hrows, v, hv, hS⟩ := id hB
    refine ⟨by simp [lg_sl, Value.category], ?_⟩
    have hsl := hs_lt (kyF P ec T)
    have out : ∀ (p : Nat), p < 16384 → plc M P ec n R T p → X 75 [(2, .int (nI p))] [] M := by
      intro p hp hq
      refine hb75 _ _ _ ?_
      simp (maxSteps := 2000000) [bk_X7_place_0, bk_X7_place_5, bk_X7_place_29, bk_X7_place_40, bk_X7_place_75, pm_arr, pm_call, pm_e_c0, pm_e_c1, pm_e_cti, pm_e_ctl, pm_e_ctr, pm_e_go, pm_e_i, pm_e_ii, pm_e_ldi, pm_e_ldr, pm_e_lk, pm_e_r, pm_e_ri, pm_e_rm0, pm_e_rm1, pm_e_rs0, pm_e_rs1, pm_e_wp0, pm_e_wp1, pm_f2, pm_f3, pm_fld, pm_fv, pm_obj, pm_recv, pm_s_aload_n, pm_s_baload, pm_s_bipush, pm_s_getfield, pm_s_goto, pm_s_iadd, pm_s_iaload, pm_s_iand, pm_s_iconst, pm_s_ifCond_eq, pm_s_ifCond_ne, pm_s_if_icmp_ge, pm_s_iinc, pm_s_iload_n, pm_s_imul, pm_s_invokevirtual, pm_s_ireturn, pm_s_istore_n, pm_s_isub, pm_s_iushr, pm_s_ixor, pm_s_sipush, ct_X7_place, pS, pR, pC, pE, pL, -Int32.not_le, -Int32.not_lt, -Int64.not_le, -Int64.not_lt, -List.getD_eq_getElem?_getD]
      exact hT p hp hq
    have hke : ∀ s, s < n → fkN (R s) = fkN T → hsK (kyF P ec (R s)) = hsK (kyF P ec T) := fun s hs e => hs_congr ((ky_of hP he (hrows s hs).1 hF).mpr e)
    generalize hhh : hsK (kyF P ec T) = h at *
    have walk : ∀ (f i : Nat), 16384 ≤ i + f → (∀ i', i' < i → v (prb h i') ≠ 0 ∧ ∀ s, s < n → v (prb h i') = s + 1 → fkN (R s) ≠ fkN T) → X 40 [(0, .ref 0), (2, .int (nI (prb h i)))] [] M := by
      intro f
      induction f with
      | zero =>
        intro i a1 a2
        exact (hS.free hn4 (a := h) (fun i' hi' => (a2 i' (by omega)).1)).elim
      | succ f ih =>
        intro i a1 a2
        by_cases hi : i < 16384
        · have hp : prb h i < 16384 := Nat.mod_lt _ (by decide)
          have hvp := hv _ hp
          have hvl := hS.1 _ hp
          have hnx : (prb h i + 1) % 16384 = prb h (i + 1) := by unfold prb; omega
          have h0 : v (prb h i) = 0 → plc M P ec n R T (prb h i) := by
            intro z
            refine Or.inr ⟨by rw [hvp, z], fun s hs e => ?_, i, hi, by rw [hhh], fun i' hi' => ?_⟩
            · obtain ⟨j, j1, j2, j3⟩ := hS.2.2 s hs
              have eh : (fun s => hsK (kyF P ec (R s))) s = h := hke s hs e
              rw [eh] at j2 j3
              rcases Nat.lt_trichotomy i j with q | q | q
              · exact j3 i q z
              · rw [← q, z] at j2; omega
              · exact (a2 j q).2 s hs j2 e
            · rw [hhh, hv _ (Nat.mod_lt _ (by decide))]
              intro q
              rw [ni_eq (a := v (prb h i')) (b := 0) (by have := hS.1 (prb h i') (Nat.mod_lt _ (by decide)); omega) (by decide)] at q
              exact (a2 i' hi').1 q
          obtain ⟨p, ep⟩ : ∃ p, p = prb h i := ⟨_, rfl⟩
          rw [← ep] at hp hvp hvl hnx h0 ⊢
          refine hb40 _ _ _ ?_
          simp (maxSteps := 2000000) [bk_X7_place_0, bk_X7_place_5, bk_X7_place_29, bk_X7_place_40, bk_X7_place_75, pm_arr, pm_call, pm_e_c0, pm_e_c1, pm_e_cti, pm_e_ctl, pm_e_ctr, pm_e_go, pm_e_i, pm_e_ii, pm_e_ldi, pm_e_ldr, pm_e_lk, pm_e_r, pm_e_ri, pm_e_rm0, pm_e_rm1, pm_e_rs0, pm_e_rs1, pm_e_wp0, pm_e_wp1, pm_f2, pm_f3, pm_fld, pm_fv, pm_obj, pm_recv, pm_s_aload_n, pm_s_baload, pm_s_bipush, pm_s_getfield, pm_s_goto, pm_s_iadd, pm_s_iaload, pm_s_iand, pm_s_iconst, pm_s_ifCond_eq, pm_s_ifCond_ne, pm_s_if_icmp_ge, pm_s_iinc, pm_s_iload_n, pm_s_imul, pm_s_invokevirtual, pm_s_ireturn, pm_s_istore_n, pm_s_isub, pm_s_iushr, pm_s_ixor, pm_s_sipush, ct_X7_place, pS, pR, pC, pE, pL, -Int32.not_le, -Int32.not_lt, -Int64.not_le, -Int64.not_lt, -List.getD_eq_getElem?_getD, sy_0, sy_17]
          rw [ni_in (by omega), ni_cl (by omega), hvp, ni_eq0 (by omega)]
          refine ⟨by omega, fun z => out p hp (h0 z), fun z => ?_⟩
          obtain ⟨s, es⟩ : ∃ s, v p = s + 1 := ⟨v p - 1, by omega⟩
          rw [es] at hvp ⊢
          rw [ni_sub (by omega), Nat.add_sub_cancel]
          have hsn : s < n := by omega
          obtain ⟨c1, c2, -, -, -⟩ := hrows s hsn
          refine ⟨by omega, s, kyF P ec (R s), kyF P ec T, rfl, by omega, c2, fun j _ => kyF_lt hP c1 j, hK, fun j _ => kyF_lt hP hF j, ?_⟩
          simp (maxSteps := 2000000) [bk_X7_place_0, bk_X7_place_5, bk_X7_place_29, bk_X7_place_40, bk_X7_place_75, pm_arr, pm_call, pm_e_c0, pm_e_c1, pm_e_cti, pm_e_ctl, pm_e_ctr, pm_e_go, pm_e_i, pm_e_ii, pm_e_ldi, pm_e_ldr, pm_e_lk, pm_e_r, pm_e_ri, pm_e_rm0, pm_e_rm1, pm_e_rs0, pm_e_rs1, pm_e_wp0, pm_e_wp1, pm_f2, pm_f3, pm_fld, pm_fv, pm_obj, pm_recv, pm_s_aload_n, pm_s_baload, pm_s_bipush, pm_s_getfield, pm_s_goto, pm_s_iadd, pm_s_iaload, pm_s_iand, pm_s_iconst, pm_s_ifCond_eq, pm_s_ifCond_ne, pm_s_if_icmp_ge, pm_s_iinc, pm_s_iload_n, pm_s_imul, pm_s_invokevirtual, pm_s_ireturn, pm_s_istore_n, pm_s_isub, pm_s_iushr, pm_s_ixor, pm_s_sipush, ct_X7_place, pS, pR, pC, pE, pL, -Int32.not_le, -Int32.not_lt, -Int64.not_le, -Int64.not_lt, -List.getD_eq_getElem?_getD, pb_eq0]
          rw [ni_add, show nI (p + 1) &&& nI 16383 = nI ((p + 1) % 16384) from pk_andN (by omega) 14 (by decide), hnx]
          refine ⟨fun q => out p hp (Or.inl ⟨s, hsn, hvp, (ky_of hP he c1 hF).mp (eq18_t.mp q)⟩), fun q => ?_⟩
          refine ih (i + 1) (by omega) (fun i' hi' => ?_)
          by_cases z' : i' = i
          · rw [z', ← ep, es]
            refine ⟨by omega, fun s' hs' e' => ?_⟩
            have e2 : s' = s := by omega
            rw [e2]
            exact fun e3 => absurd ((ky_of hP he c1 hF).mpr e3) (eq18_f.mp q)
          · exact a2 i' (by omega)
        · exact (hS.free hn4 (a := h) (fun i' hi' => (a2 i' (by omega)).1)).elim
    have hash : ∀ (f i : Nat), 18 ≤ i + f → i ≤ 18 → X 5 [(0, .ref 0), (1, .int (hsh (kyF P ec T) i)), (2, .int (nI i))] [] M := by
      intro f
      have stop : X 5 [(0, .ref 0), (1, .int (hsh (kyF P ec T) 18)), (2, .int (nI 18))] [] M := by
        refine hb5 _ _ _ ?_
        simp (maxSteps := 2000000) [bk_X7_place_0, bk_X7_place_5, bk_X7_place_29, bk_X7_place_40, bk_X7_place_75, pm_arr, pm_call, pm_e_c0, pm_e_c1, pm_e_cti, pm_e_ctl, pm_e_ctr, pm_e_go, pm_e_i, pm_e_ii, pm_e_ldi, pm_e_ldr, pm_e_lk, pm_e_r, pm_e_ri, pm_e_rm0, pm_e_rm1, pm_e_rs0, pm_e_rs1, pm_e_wp0, pm_e_wp1, pm_f2, pm_f3, pm_fld, pm_fv, pm_obj, pm_recv, pm_s_aload_n, pm_s_baload, pm_s_bipush, pm_s_getfield, pm_s_goto, pm_s_iadd, pm_s_iaload, pm_s_iand, pm_s_iconst, pm_s_ifCond_eq, pm_s_ifCond_ne, pm_s_if_icmp_ge, pm_s_iinc, pm_s_iload_n, pm_s_imul, pm_s_invokevirtual, pm_s_ireturn, pm_s_istore_n, pm_s_isub, pm_s_iushr, pm_s_ixor, pm_s_sipush, ct_X7_place, pS, pR, pC, pE, pL, -Int32.not_le, -Int32.not_lt, -Int64.not_le, -Int64.not_lt, -List.getD_eq_getElem?_getD, sy_0]
        refine hb29 _ _ _ ?_
        simp (maxSteps := 2000000) [bk_X7_place_0, bk_X7_place_5, bk_X7_place_29, bk_X7_place_40, bk_X7_place_75, pm_arr, pm_call, pm_e_c0, pm_e_c1, pm_e_cti, pm_e_ctl, pm_e_ctr, pm_e_go, pm_e_i, pm_e_ii, pm_e_ldi, pm_e_ldr, pm_e_lk, pm_e_r, pm_e_ri, pm_e_rm0, pm_e_rm1, pm_e_rs0, pm_e_rs1, pm_e_wp0, pm_e_wp1, pm_f2, pm_f3, pm_fld, pm_fv, pm_obj, pm_recv, pm_s_aload_n, pm_s_baload, pm_s_bipush, pm_s_getfield, pm_s_goto, pm_s_iadd, pm_s_iaload, pm_s_iand, pm_s_iconst, pm_s_ifCond_eq, pm_s_ifCond_ne, pm_s_if_icmp_ge, pm_s_iinc, pm_s_iload_n, pm_s_imul, pm_s_invokevirtual, pm_s_ireturn, pm_s_istore_n, pm_s_isub, pm_s_iushr, pm_s_ixor, pm_s_sipush, ct_X7_place, pS, pR, pC, pE, pL, -Int32.not_le, -Int32.not_lt, -Int64.not_le, -Int64.not_lt, -List.getD_eq_getElem?_getD]
        have := walk 16384 0 (by omega) (fun i' hi' => by omega)
        rw [show prb h 0 = h by unfold prb; omega, ← hhh] at this
        unfold hsK at this
        rw [← hs0_e] at this
        exact this
      induction f with
      | zero =>
        intro i a1 a2
        have e : i = 18 := by omega
        subst e; exact stop
      | succ f ih =>
        intro i a1 a2
        by_cases hi : i < 18
        · refine hb5 _ _ _ ?_
          simp (maxSteps := 2000000) [bk_X7_place_0, bk_X7_place_5, bk_X7_place_29, bk_X7_place_40, bk_X7_place_75, pm_arr, pm_call, pm_e_c0, pm_e_c1, pm_e_cti, pm_e_ctl, pm_e_ctr, pm_e_go, pm_e_i, pm_e_ii, pm_e_ldi, pm_e_ldr, pm_e_lk, pm_e_r, pm_e_ri, pm_e_rm0, pm_e_rm1, pm_e_rs0, pm_e_rs1, pm_e_wp0, pm_e_wp1, pm_f2, pm_f3, pm_fld, pm_fv, pm_obj, pm_recv, pm_s_aload_n, pm_s_baload, pm_s_bipush, pm_s_getfield, pm_s_goto, pm_s_iadd, pm_s_iaload, pm_s_iand, pm_s_iconst, pm_s_ifCond_eq, pm_s_ifCond_ne, pm_s_if_icmp_ge, pm_s_iinc, pm_s_iload_n, pm_s_imul, pm_s_invokevirtual, pm_s_ireturn, pm_s_istore_n, pm_s_isub, pm_s_iushr, pm_s_ixor, pm_s_sipush, ct_X7_place, pS, pR, pC, pE, pL, -Int32.not_le, -Int32.not_lt, -Int64.not_le, -Int64.not_lt, -List.getD_eq_getElem?_getD, sy_0, sy_18]
          rw [ni_le (by omega) (by omega), ni_in (by omega), ni_cl (by omega), hK i hi, ni_add]
          exact ⟨fun q => by omega, fun _ => ⟨by omega, ih (i + 1) (by omega) (by omega)⟩⟩
        · have e : i = 18 := by omega
          subst e; exact stop
    refine hb0 _ _ _ ?_
    simp (maxSteps := 2000000) [bk_X7_place_0, bk_X7_place_5, bk_X7_place_29, bk_X7_place_40, bk_X7_place_75, pm_arr, pm_call, pm_e_c0, pm_e_c1, pm_e_cti, pm_e_ctl, pm_e_ctr, pm_e_go, pm_e_i, pm_e_ii, pm_e_ldi, pm_e_ldr, pm_e_lk, pm_e_r, pm_e_ri, pm_e_rm0, pm_e_rm1, pm_e_rs0, pm_e_rs1, pm_e_wp0, pm_e_wp1, pm_f2, pm_f3, pm_fld, pm_fv, pm_obj, pm_recv, pm_s_aload_n, pm_s_baload, pm_s_bipush, pm_s_getfield, pm_s_goto, pm_s_iadd, pm_s_iaload, pm_s_iand, pm_s_iconst, pm_s_ifCond_eq, pm_s_ifCond_ne, pm_s_if_icmp_ge, pm_s_iinc, pm_s_iload_n, pm_s_imul, pm_s_invokevirtual, pm_s_ireturn, pm_s_istore_n, pm_s_isub, pm_s_iushr, pm_s_ixor, pm_s_sipush, ct_X7_place, pS, pR, pC, pE, pL, -Int32.not_le, -Int32.not_lt, -Int64.not_le, -Int64.not_lt, -List.getD_eq_getElem?_getD, lv_args]
    exact hash 18 0 (by omega) (by omega)
  · exact hT.elim
theorem i16c : ∀ a, a < 64 → ∀ b, b < 64 → (nI (64 * a + b)).toInt16.toInt32 = nI (64 * a + b) := by decide +kernel
theorem i16d {v : Nat} (h : v ≤ 4000) : (nI v).toInt16.toInt32 = nI v := by
  have := i16c (v / 64) (by omega) (v % 64) (by omega)
  rwa [show 64 * (v / 64) + v % 64 = v by omega] at this
def tt_X7_stores : pm_T := fun args M k => match args with
  | [.ref 0, .int x] => ∃ (P : Pm) (ec n d : Nat) (R : Nat → St) (lv : Nat → Nat) (g : Nat → Bool) (T : St), x = nI d ∧ d ≤ 4000 ∧ n < 4000 ∧ okP P ∧ ec ≤ 2 ∧ TB M P ec n R lv g ∧ FW P ec T ∧ kR M (kyF P ec T) ∧ (∀ s, s < n → fkN (R s) ≠ fkN T) ∧ ∀ M', TB M' P ec (n + 1) (up R n T) (up lv n d) (up g n false) → yfr [14, 15, 16, 17] [23] M M' → k none M'
  | _ => False
abbrev ct_X7_stores : List pm_C := [(false, 223, 7, 1, (some .int), tt_X7_place)]
set_option maxHeartbeats 4000000 in
theorem sm_X7_stores  : pm_Sem SHy yX7_stores cX7_stores 3 none 3 tt_X7_stores := by
  refine pm_Sem_intro bl_X7_stores ct_X7_stores cs_X7_stores rfl (List.forall_mem_cons.mpr ⟨⟨_, _, _, _, sm_X7_place, by decide, cm_X7_place, by decide +kernel⟩, fun _ h => absurd h List.not_mem_nil⟩) ck_X7_stores (by decide +kernel) (by decide) ?_
  intro X k hX args M hT
  have hb0 := hX 0 bk_X7_stores_0 (List.mem_of_getElem? (i := 0) rfl)
  have hb2 := hX 2 bk_X7_stores_2 (List.mem_of_getElem? (i := 1) rfl)
  have hb34 := hX 34 bk_X7_stores_34 (List.mem_of_getElem? (i := 2) rfl)
  clear hX
  unfold tt_X7_stores at hT; split at hT
  · next x =>
    obtain ⟨P, ec, n, d, R, lv, g, T, rfl, hd, hn4, hP, he, hB, hF, hK, hno, hT⟩ := hT
    obtain ⟨hn, -, hrows, -⟩ := id hB
    have kl := kyF_lt hP hF
    refine ⟨by simp [lg_sl, Value.category], ?_⟩
    have fin : ∀ (M2 : pm_M), (∀ j, j < 18 → M2.1 14 (18 * n + j) = nI (kyF P ec T j)) → (∀ q, q < 18 * n → M2.1 14 q = M.1 14 q) → yfr [14] [] M M2 → X 34 [(0, .ref 0), (1, .int (nI d))] [] M2 := by
      intro M2 r2 o2 f2
      have n2 : M2.1 0 23 = nI n := by rw [f2.f (by simp)]; exact hn
      have f4 : yfr [15, 16] [] M2 (pm_set (pm_set M2 15 n (nI d)) 16 n (nI 0)) := (yfr.rfl.set (by decide) (by decide)).set (by decide) (by decide)
      have g4 : yfr [14, 15, 16, 17] [23] M (pm_set (pm_set M2 15 n (nI d)) 16 n (nI 0)) := (f2.mono (by decide) (by simp)).trans (f4.mono (by decide) (by simp))
      have v15 : ∀ s, (pm_set (pm_set M2 15 n (nI d)) 16 n (nI 0)).1 15 s = if s = n then nI d else M.1 15 s := fun s => by rw [me_1, if_neg (fun z => absurd z.1 (by decide)), me_1s, f2.i (by decide) (by decide)]
      have v16 : ∀ s, (pm_set (pm_set M2 15 n (nI d)) 16 n (nI 0)).1 16 s = if s = n then nI 0 else M.1 16 s := fun s => by rw [me_1s, me_1, if_neg (show ¬ (16 = 15 ∧ s = n) by omega), f2.i (by decide) (by decide)]
      have v17 : ∀ s, (pm_set (pm_set M2 15 n (nI d)) 16 n (nI 0)).1 17 s = M.1 17 s := fun s => by rw [f4.i (by decide) (by decide), f2.i (by decide) (by decide)]
      have v14 : ∀ s, (pm_set (pm_set M2 15 n (nI d)) 16 n (nI 0)).1 14 s = M2.1 14 s := fun s => by rw [f4.i (by decide) (by decide)]
      have k4 : kR (pm_set (pm_set M2 15 n (nI d)) 16 n (nI 0)) (kyF P ec T) := fun j hj => by rw [f4.i (by decide) (by decide), f2.i (by decide) (by decide)]; exact hK j hj
      have n4 : (pm_set (pm_set M2 15 n (nI d)) 16 n (nI 0)).1 0 23 = nI n := by rw [f4.f (by simp)]; exact n2
      refine hb34 _ _ _ ?_
      simp (maxSteps := 2000000) [bk_X7_stores_0, bk_X7_stores_2, bk_X7_stores_34, pm_arr, pm_call, pm_e_c0, pm_e_c1, pm_e_cti, pm_e_ctl, pm_e_ctr, pm_e_go, pm_e_i, pm_e_ii, pm_e_ldi, pm_e_ldr, pm_e_lk, pm_e_r, pm_e_ri, pm_e_rii, pm_e_rm0, pm_e_rm1, pm_e_rs0, pm_e_rs1, pm_e_v1, pm_e_v2, pm_e_wp0, pm_e_wp1, pm_f2, pm_f3, pm_fld, pm_fv, pm_obj, pm_recv, pm_s_aload_n, pm_s_baload, pm_s_bastore, pm_s_bipush, pm_s_dup, pm_s_dup_x1, pm_s_getfield, pm_s_goto, pm_s_i2s, pm_s_iadd, pm_s_iastore, pm_s_iconst, pm_s_if_icmp_ge, pm_s_iinc, pm_s_iload_n, pm_s_imul, pm_s_invokevirtual, pm_s_istore_n, pm_s_putfield, pm_s_return, pm_s_sastore, ct_X7_stores, pS, pR, pC, pE, pL, -Int32.not_le, -Int32.not_lt, -Int64.not_le, -Int64.not_lt, -List.getD_eq_getElem?_getD, sy_0, sy_15, sy_16, sy_17, n2, me_0]
      rw [ni_in (by omega), ni_cl (by omega), i16d hd]
      refine ⟨by omega, Or.inl rfl, by omega, ?_⟩
      generalize pm_set (pm_set M2 15 n (nI d)) 16 n (nI 0) = M4 at *
      have hB4 : TB M4 P ec n R lv g := by
        obtain ⟨-, -, -, v, hv, hS⟩ := hB
        refine ⟨n4, by omega, fun s hs => ?_, v, fun p hp => by rw [v17]; exact hv p hp, hS⟩
        obtain ⟨c1, c2, c3, c4, c5⟩ := hrows s hs
        exact ⟨c1, fun j hj => by rw [v14, o2 _ (by omega)]; exact c2 j hj, by rw [v15, if_neg (by omega)]; exact c3, c4, by rw [v16, if_neg (by omega)]; exact c5⟩
      refine ⟨P, ec, n, R, lv, g, T, hP, he, hB4, hF, k4, fun p hp hpl => ?_⟩
      simp (maxSteps := 2000000) [bk_X7_stores_0, bk_X7_stores_2, bk_X7_stores_34, pm_arr, pm_call, pm_e_c0, pm_e_c1, pm_e_cti, pm_e_ctl, pm_e_ctr, pm_e_go, pm_e_i, pm_e_ii, pm_e_ldi, pm_e_ldr, pm_e_lk, pm_e_r, pm_e_ri, pm_e_rii, pm_e_rm0, pm_e_rm1, pm_e_rs0, pm_e_rs1, pm_e_v1, pm_e_v2, pm_e_wp0, pm_e_wp1, pm_f2, pm_f3, pm_fld, pm_fv, pm_obj, pm_recv, pm_s_aload_n, pm_s_baload, pm_s_bastore, pm_s_bipush, pm_s_dup, pm_s_dup_x1, pm_s_getfield, pm_s_goto, pm_s_i2s, pm_s_iadd, pm_s_iastore, pm_s_iconst, pm_s_if_icmp_ge, pm_s_iinc, pm_s_iload_n, pm_s_imul, pm_s_invokevirtual, pm_s_istore_n, pm_s_putfield, pm_s_return, pm_s_sastore, ct_X7_stores, pS, pR, pC, pE, pL, -Int32.not_le, -Int32.not_lt, -Int64.not_le, -Int64.not_lt, -List.getD_eq_getElem?_getD, sy_0, sy_17, n4]
      rw [ni_in (by omega), ni_cl (by omega), ni_add]
      refine ⟨by omega, hT _ ?_ ((g4.set0 (by decide)).set (by decide) (by decide))⟩
      obtain ⟨z, -, i, hi, ep, hpath⟩ := hpl.resolve_left (fun ⟨s, hs, _, e⟩ => hno s hs e)
      obtain ⟨-, -, -, v, hv, hS⟩ := hB4
      have vp0 : v p = 0 := by
        have q := hv p hp
        rw [z, ni_eq (by decide) (by have := hS.1 p hp; omega)] at q
        exact q.symm
      refine ⟨by rw [me_1, if_neg (by omega), me_1s, if_pos rfl], by omega, fun s hs => ?_, up v p (n + 1), fun q hq => ?_, fun q hq => ?_, fun q q' hq hq' e ne => ?_, fun s hs => ?_⟩
      · by_cases y : s = n
        · subst y
          rw [up_s, up_s, up_s]
          exact ⟨hF, fun j hj => by rw [me_1, if_neg (by omega), me_1, if_neg (by omega), v14]; exact r2 j hj, by rw [me_1, if_neg (by omega), me_1, if_neg (by omega), v15, if_pos rfl], hd, by rw [me_1, if_neg (by omega), me_1, if_neg (by omega), v16, if_pos rfl]; rfl⟩
        · rw [up_n _ _ y, up_n _ _ y, up_n _ _ y]
          obtain ⟨c1, c2, c3, c4, c5⟩ := hrows s (by omega)
          exact ⟨c1, fun j hj => by rw [me_1, if_neg (by omega), me_1, if_neg (by omega), v14, o2 _ (by omega)]; exact c2 j hj, by rw [me_1, if_neg (by omega), me_1, if_neg (by omega), v15, if_neg y]; exact c3, c4, by rw [me_1, if_neg (by omega), me_1, if_neg (by omega), v16, if_neg y]; exact c5⟩
      · rw [me_1s]
        by_cases y : q = p
        · rw [if_pos y, y, up_s]
        · rw [if_neg y, up_n _ _ y, me_1, if_neg (by omega)]; exact hv q hq
      · by_cases y : q = p
        · rw [y, up_s]; omega
        · rw [up_n _ _ y]; have := hS.1 q hq; omega
      · by_cases y : q = p
        · by_cases y' : q' = p
          · rw [y, y']
          · rw [y, up_s, up_n _ _ y'] at e
            have := hS.1 q' hq'; omega
        · by_cases y' : q' = p
          · rw [y', up_s, up_n _ _ y] at e
            have := hS.1 q hq; omega
          · rw [up_n _ _ y] at e ne
            rw [up_n _ _ y'] at e
            exact hS.2.1 q q' hq hq' e ne
      · by_cases y : s = n
        · subst y
          refine ⟨i, hi, ?_, fun i' hi' => ?_⟩
          · show up v p (s + 1) (prb (hsK (kyF P ec (up R s T s))) i) = s + 1
            rw [up_s, ← ep, up_s]
          · show up v p (s + 1) (prb (hsK (kyF P ec (up R s T s))) i') ≠ 0
            rw [up_s]
            by_cases y2 : prb (hsK (kyF P ec T)) i' = p
            · rw [y2, up_s]; omega
            · rw [up_n _ _ y2]
              intro q
              apply hpath i' hi'
              rw [hv _ (Nat.mod_lt _ (by decide)), q]
        · obtain ⟨j, j1, j2, j3⟩ := hS.2.2 s (by omega)
          refine ⟨j, j1, ?_, fun i' hi' => ?_⟩
          · show up v p (n + 1) (prb (hsK (kyF P ec (up R n T s))) j) = s + 1
            rw [up_n R _ y]
            have j2' : v (prb (hsK (kyF P ec (R s))) j) = s + 1 := j2
            rw [up_n _ _ (fun q => by rw [q, vp0] at j2'; omega)]
            exact j2'
          · show up v p (n + 1) (prb (hsK (kyF P ec (up R n T s))) i') ≠ 0
            rw [up_n R _ y]
            have j3' : v (prb (hsK (kyF P ec (R s))) i') ≠ 0 := j3 i' hi'
            rw [up_n _ _ (fun q => by rw [q, vp0] at j3'; omega)]
            exact j3'
    have loop : ∀ (f i : Nat) (M2 : pm_M), 18 ≤ i + f → i ≤ 18 → (∀ j, j < i → M2.1 14 (18 * n + j) = nI (kyF P ec T j)) → (∀ q, q < 18 * n → M2.1 14 q = M.1 14 q) → yfr [14] [] M M2 → X 2 [(0, .ref 0), (1, .int (nI d)), (2, .int (nI i))] [] M2 := by
      intro f
      have stop : ∀ (M2 : pm_M), (∀ j, j < 18 → M2.1 14 (18 * n + j) = nI (kyF P ec T j)) → (∀ q, q < 18 * n → M2.1 14 q = M.1 14 q) → yfr [14] [] M M2 → X 2 [(0, .ref 0), (1, .int (nI d)), (2, .int (nI 18))] [] M2 := by
        intro M2 r2 o2 f2
        refine hb2 _ _ _ ?_
        simp (maxSteps := 2000000) [bk_X7_stores_0, bk_X7_stores_2, bk_X7_stores_34, pm_arr, pm_call, pm_e_c0, pm_e_c1, pm_e_cti, pm_e_ctl, pm_e_ctr, pm_e_go, pm_e_i, pm_e_ii, pm_e_ldi, pm_e_ldr, pm_e_lk, pm_e_r, pm_e_ri, pm_e_rii, pm_e_rm0, pm_e_rm1, pm_e_rs0, pm_e_rs1, pm_e_v1, pm_e_v2, pm_e_wp0, pm_e_wp1, pm_f2, pm_f3, pm_fld, pm_fv, pm_obj, pm_recv, pm_s_aload_n, pm_s_baload, pm_s_bastore, pm_s_bipush, pm_s_dup, pm_s_dup_x1, pm_s_getfield, pm_s_goto, pm_s_i2s, pm_s_iadd, pm_s_iastore, pm_s_iconst, pm_s_if_icmp_ge, pm_s_iinc, pm_s_iload_n, pm_s_imul, pm_s_invokevirtual, pm_s_istore_n, pm_s_putfield, pm_s_return, pm_s_sastore, ct_X7_stores, pS, pR, pC, pE, pL, -Int32.not_le, -Int32.not_lt, -Int64.not_le, -Int64.not_lt, -List.getD_eq_getElem?_getD, sy_0]
        exact fin M2 r2 o2 f2
      induction f with
      | zero =>
        intro i M2 a1 a2 r2 o2 f2
        have e : i = 18 := by omega
        subst e; exact stop M2 r2 o2 f2
      | succ f ih =>
        intro i M2 a1 a2 r2 o2 f2
        by_cases hi : i < 18
        · have n2 : M2.1 0 23 = nI n := by rw [f2.f (by simp)]; exact hn
          have ki : M2.1 18 i = nI (kyF P ec T i) := by rw [f2.i (by decide) (by decide)]; exact hK i hi
          refine hb2 _ _ _ ?_
          simp (maxSteps := 2000000) [bk_X7_stores_0, bk_X7_stores_2, bk_X7_stores_34, pm_arr, pm_call, pm_e_c0, pm_e_c1, pm_e_cti, pm_e_ctl, pm_e_ctr, pm_e_go, pm_e_i, pm_e_ii, pm_e_ldi, pm_e_ldr, pm_e_lk, pm_e_r, pm_e_ri, pm_e_rii, pm_e_rm0, pm_e_rm1, pm_e_rs0, pm_e_rs1, pm_e_v1, pm_e_v2, pm_e_wp0, pm_e_wp1, pm_f2, pm_f3, pm_fld, pm_fv, pm_obj, pm_recv, pm_s_aload_n, pm_s_baload, pm_s_bastore, pm_s_bipush, pm_s_dup, pm_s_dup_x1, pm_s_getfield, pm_s_goto, pm_s_i2s, pm_s_iadd, pm_s_iastore, pm_s_iconst, pm_s_if_icmp_ge, pm_s_iinc, pm_s_iload_n, pm_s_imul, pm_s_invokevirtual, pm_s_istore_n, pm_s_putfield, pm_s_return, pm_s_sastore, ct_X7_stores, pS, pR, pC, pE, pL, -Int32.not_le, -Int32.not_lt, -Int64.not_le, -Int64.not_lt, -List.getD_eq_getElem?_getD, sy_0, sy_14, sy_18, n2]
          rw [ni_le (by omega) (by omega), ni_mul, ni_add, ni_in (n := 18) (by omega), ni_in (by omega), ni_cl (a := i) (by omega), ni_cl (by omega), ki, i8 _ (kl i), ni_add]
          refine ⟨fun q => by omega, fun _ => ⟨by omega, by omega, ih (i + 1) _ (by omega) (by omega) (fun j hj => ?_) (fun q hq => ?_) (f2.set (by decide) (by decide))⟩⟩
          · rw [me_1s]
            by_cases y : j = i
            · rw [if_pos (by omega), y]
            · rw [if_neg (by omega)]; exact r2 j (by omega)
          · rw [me_1s, if_neg (by omega)]; exact o2 q hq
        · have e : i = 18 := by omega
          subst e; exact stop M2 r2 o2 f2
    refine hb0 _ _ _ ?_
    simp (maxSteps := 2000000) [bk_X7_stores_0, bk_X7_stores_2, bk_X7_stores_34, pm_arr, pm_call, pm_e_c0, pm_e_c1, pm_e_cti, pm_e_ctl, pm_e_ctr, pm_e_go, pm_e_i, pm_e_ii, pm_e_ldi, pm_e_ldr, pm_e_lk, pm_e_r, pm_e_ri, pm_e_rii, pm_e_rm0, pm_e_rm1, pm_e_rs0, pm_e_rs1, pm_e_v1, pm_e_v2, pm_e_wp0, pm_e_wp1, pm_f2, pm_f3, pm_fld, pm_fv, pm_obj, pm_recv, pm_s_aload_n, pm_s_baload, pm_s_bastore, pm_s_bipush, pm_s_dup, pm_s_dup_x1, pm_s_getfield, pm_s_goto, pm_s_i2s, pm_s_iadd, pm_s_iastore, pm_s_iconst, pm_s_if_icmp_ge, pm_s_iinc, pm_s_iload_n, pm_s_imul, pm_s_invokevirtual, pm_s_istore_n, pm_s_putfield, pm_s_return, pm_s_sastore, ct_X7_stores, pS, pR, pC, pE, pL, -Int32.not_le, -Int32.not_lt, -Int64.not_le, -Int64.not_lt, -List.getD_eq_getElem?_getD, lv_args]
    exact loop 18 0 M (by omega) (by omega) (fun j hj => by omega) (fun q hq => rfl) yfr.rfl
  · exact hT.elim
