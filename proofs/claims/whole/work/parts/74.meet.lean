/-! THE SEARCH's ROWS (at 28: 29 forms, 30 told, 31 chains, 32 its stand) -/
theorem nI_16 {n : Nat} (h : n < 32768) : (nI n).toInt16.toInt32 = nI n := by
  apply Int32.toInt_inj.1
  rw [Int16.toInt_toInt32, Int32.toInt_toInt16, nI_toInt (by omega), Int.bmod_eq_of_le (by omega) (by omega)]
def hhI (x : Int64) : Int32 := ((x * lN 11400714819323198485).toUInt64 >>> ((nI 54).toInt64.toUInt64 &&& Int64.toUInt64 63)).toInt64.toInt32
theorem hhI_n (x : Int64) : ∃ c, c < 1024 ∧ hhI x = nI c := by
  obtain ⟨n, hn, e⟩ := wb_of (x * lN 11400714819323198485)
  refine ⟨n / 2 ^ 54, by omega, ?_⟩
  unfold hhI
  rw [e, wb_shr hn (by decide), ln_i]
def hN (F : Nat) : Nat := (hhI (lN F)).toNatClampNeg
theorem hN_e (F : Nat) : hhI (lN F) = nI (hN F) ∧ hN F < 1024 := by
  obtain ⟨c, h1, h2⟩ := hhI_n (lN F)
  unfold hN
  rw [h2, ni_cl (by omega)]
  exact ⟨rfl, h1⟩
/-- along a chain -/
def itn (nx : Nat → Nat) : Nat → Nat → Nat
  | 0, v => v
  | t + 1, v => if itn nx t v = 0 then 0 else nx (itn nx t v - 1)
theorem itn_s (nx : Nat → Nat) (t v : Nat) : itn nx (t + 1) v = if itn nx t v = 0 then 0 else nx (itn nx t v - 1) := rfl
theorem itn_0 {nx : Nat → Nat} {t v : Nat} (h : itn nx t v = 0) : ∀ s, itn nx (t + s) v = 0
  | 0 => h
  | s + 1 => by rw [show t + (s + 1) = (t + s) + 1 by omega, itn_s, if_pos (itn_0 h s)]
theorem itn_le {nx : Nat → Nat} {n : Nat} (hx : ∀ i, i < n → nx i ≤ i) {v : Nat} (hv : v ≤ n) : ∀ t, itn nx t v ≤ n
  | 0 => hv
  | t + 1 => by
    have := itn_le hx hv t
    rw [itn_s]; split
    · omega
    · have := hx (itn nx t v - 1) (by omega); omega
theorem itn_up {nx nx' : Nat → Nat} {n : Nat} (hx : ∀ i, i < n → nx i ≤ i) (he : ∀ i, i < n → nx' i = nx i) {v : Nat} (hv : v ≤ n) : ∀ t, itn nx' t v = itn nx t v
  | 0 => rfl
  | t + 1 => by
    have := itn_le hx hv t
    rw [itn_s, itn_s, itn_up hx he hv t]
    split
    · rfl
    · exact he _ (by omega)
theorem itn_sh (nx : Nat → Nat) (v : Nat) : ∀ t, itn nx (t + 1) v = itn nx t (if v = 0 then 0 else nx (v - 1))
  | 0 => rfl
  | t + 1 => by rw [itn_s, itn_sh nx v t, itn_s]
def twd (x ar p m : Nat) : Nat := ((x * 2 ^ 9 + ar) * 2 ^ 12 + p) * 2 ^ 6 + m
theorem twd_nx {x ar p m : Nat} (ha : ar < 512) (hp : p < 4096) (hm : m < 64) : twd x ar p m / 2 ^ 27 = x := by unfold twd; omega
theorem twd_ar {x ar p m : Nat} (ha : ar < 512) (hp : p < 4096) (hm : m < 64) : twd x ar p m / 2 ^ 18 % 512 = ar := by unfold twd; omega
theorem twd_p {x ar p m : Nat} (hp : p < 4096) (hm : m < 64) : twd x ar p m / 2 ^ 6 % 4096 = p := by unfold twd; omega
theorem twd_m {x ar p m : Nat} (hm : m < 64) : twd x ar p m % 64 = m := by unfold twd; omega
theorem twd_or {x ar p m : Nat} (hx : x ≤ 4000) (ha : ar < 512) (hp : p < 4096) (hm : m < 64) : ((((nI x).toInt64 <<< ((nI 27).toInt64 &&& 63)) ||| ((nI ar).toInt64 <<< ((nI 18).toInt64 &&& 63))) ||| (nI p <<< (nI 6 &&& 31)).toInt64) ||| (nI m).toInt64 = lN (twd x ar p m) := by
  rw [ni_l (n := x) (by omega), ni_l (n := ar) (by omega), ni_l (n := m) (by omega), ni_shl (by decide) (by omega), ni_l (n := p * 2 ^ 6) (by omega), wb_shl x (by decide), wb_shl ar (by decide), ln_or (k := 27) (by omega) (by omega), show x * 2 ^ 27 + ar * 2 ^ 18 = (x * 2 ^ 9 + ar) * 2 ^ 18 by omega, ln_or (k := 18) (by omega) (by omega), show (x * 2 ^ 9 + ar) * 2 ^ 18 + p * 2 ^ 6 = ((x * 2 ^ 9 + ar) * 2 ^ 12 + p) * 2 ^ 6 by omega, ln_or (k := 6) (by omega) (by omega)]
  rfl
/-- n stands R are known, each with its elder pa and the move mo from there -/
def SrX (M : pm_M) (P : Pm) (m n : Nat) (R : Nat → St) (pa mo : Nat → Nat) (sp : Bool) : Prop :=
  (n ≤ m ∧ m ≤ 4000) ∧ (M.1 28 4 = nI n ∧ M.1 28 5 = nI m ∧ M.1 28 6 = pb sp) ∧ (∀ i, i < n → wfS P (R i) ∧ pa i < 4000 ∧ mo i < 64) ∧ ∃ nx ch : Nat → Nat,
    (∀ i, i < n → M.2 29 i = lN (fkN (R i)) ∧ M.2 30 i = lN (twd (nx i) (arN (R i)) (pa i) (mo i)) ∧ nx i ≤ i) ∧
    (∀ c, c < 1024 → M.1 31 c = nI (ch c) ∧ ch c ≤ n) ∧ ∀ i, i < n → ∃ t, itn nx t (ch (hN (fkN (R i)))) = i + 1
theorem SrX.mv {M M' : pm_M} {P : Pm} {m n : Nat} {R : Nat → St} {pa mo : Nat → Nat} {sp : Bool} (h : SrX M P m n R pa mo sp) {ps : List Nat} (hf : pm_fr ps M M') (hp : ∀ q ∈ [28, 29, 30, 31], q ∉ ps) : SrX M' P m n R pa mo sp := by
  obtain ⟨a, b, c, nx, ch, d, e, f⟩ := h
  refine ⟨a, ?_, c, nx, ch, fun i hi => ?_, fun c hc => ?_, f⟩
  · simp only [hf.i (hp 28 (by simp))]; exact b
  · rw [hf.l (hp 29 (by simp)), hf.l (hp 30 (by simp))]; exact d i hi
  · rw [hf.i (hp 31 (by simp))]; exact e c hc
theorem SrX.set78 {M : pm_M} {P : Pm} {m n : Nat} {R : Nat → St} {pa mo : Nat → Nat} {sp : Bool} (h : SrX M P m n R pa mo sp) {j : Nat} {v : Int32} (hj : 7 ≤ j) : SrX (pm_set M 28 j v) P m n R pa mo sp := by
  obtain ⟨a, b, c, nx, ch, d, e, f⟩ := h
  refine ⟨a, ?_, c, nx, ch, d, fun c hc => ?_, f⟩
  · simp only [me_1s]
    rw [if_neg (by omega), if_neg (by omega), if_neg (by omega)]; exact b
  · simpa [pm_set] using e c hc
theorem wfS.f64 {P : Pm} {S : St} (h : wfS P S) : fkN S < 2 ^ 64 := fk_lt h.1 h.2.2.1
theorem lN_inj {a b : Nat} (ha : a < 2 ^ 64) (hb : b < 2 ^ 64) : (lN a = lN b) = (a = b) := propext ⟨fun h => by
  have := congrArg (fun x => x.toBitVec.toNat) h
  simp only [wb_tn ha, wb_tn hb] at this; exact this, fun h => by rw [h]⟩
def metF (n : Nat) (R : Nat → St) (F : Nat) : Bool := anyN n (fun i => decide (fkN (R i) = F))
def tt_X3_isMet : pm_T := fun args M k => match args with
  | [.ref 28, .long x, .int c] => ∃ P m n R pa mo sp F, x = lN F ∧ F < 2 ^ 64 ∧ c = nI (hN F) ∧ SrX M P m n R pa mo sp ∧ k (some (.int (pb (metF n R F)))) M
  | _ => False
abbrev ct_X3_isMet : List pm_C := []
set_option maxHeartbeats 4000000 in
theorem sm_X3_isMet  : pm_Sem SHx yX3_isMet cX3_isMet 6 (some .boolean) 1 tt_X3_isMet := by
  refine pm_Sem_intro bl_X3_isMet ct_X3_isMet cs_X3_isMet rfl (fun _ h => absurd h List.not_mem_nil) ck_X3_isMet (by decide +kernel) (by decide) ?_
  intro X k hX args M hT
  have hb0 := hX 0 bk_X3_isMet_0 (List.mem_of_getElem? (i := 0) rfl)
  have hb13 := hX 13 bk_X3_isMet_13 (List.mem_of_getElem? (i := 1) rfl)
  have hb41 := hX 41 bk_X3_isMet_41 (List.mem_of_getElem? (i := 2) rfl)
  have hb66 := hX 66 bk_X3_isMet_66 (List.mem_of_getElem? (i := 3) rfl)
  clear hX
  unfold tt_X3_isMet at hT; split at hT
  · obtain ⟨P, m, n, R, pa, mo, sp, F, rfl, hF, rfl, hS, hT⟩ := hT
    obtain ⟨⟨b1, b2⟩, ⟨m4, m5, m6⟩, hw, nx, ch, hr, hc, hch⟩ := hS
    obtain ⟨-, hh⟩ := hN_e F
    have hc0 := hc (hN F) hh
    refine ⟨by simp [lg_sl, Value.category], ?_⟩
    have out : ∀ t, itn nx t (ch (hN F)) = 0 → (∀ s, s < t → ∀ i, itn nx s (ch (hN F)) = i + 1 → fkN (R i) ≠ F) → X 66 [] [] M := by
      intro t h1 h2
      refine hb66 _ _ _ ?_
      simp (maxSteps := 2000000) [bk_X3_isMet_0, bk_X3_isMet_13, bk_X3_isMet_41, bk_X3_isMet_66, pm_arr, pm_e_c0, pm_e_c1, pm_e_cti, pm_e_ctl, pm_e_ctr, pm_e_go, pm_e_i, pm_e_ii, pm_e_l, pm_e_ldi, pm_e_ldl, pm_e_ldr, pm_e_li, pm_e_lk, pm_e_ll, pm_e_r, pm_e_ri, pm_e_rm0, pm_e_rm1, pm_e_rs0, pm_e_rs1, pm_e_wp0, pm_e_wp1, pm_f2, pm_f3, pm_fld, pm_fv, pm_obj, pm_s_aload_n, pm_s_bipush, pm_s_getfield, pm_s_goto, pm_s_iand, pm_s_iconst, pm_s_ifCond_lt, pm_s_ifCond_ne, pm_s_if_icmp_ge, pm_s_iinc, pm_s_iload, pm_s_iload_n, pm_s_ireturn, pm_s_istore, pm_s_isub, pm_s_l2i, pm_s_laload, pm_s_lcmp, pm_s_lload_n, pm_s_lushr, pm_s_saload, pm_s_sipush, ct_X3_isMet, pS, pR, pC, pE, pL, -Int32.not_le, -Int32.not_lt, -Int64.not_le, -Int64.not_lt, -List.getD_eq_getElem?_getD]
      have : metF n R F = false := by
        unfold metF
        refine anyN_no (fun i hi => decide_eq_false (fun z => ?_))
        obtain ⟨s, hs⟩ := hch i hi
        rw [z] at hs
        rcases Nat.lt_or_ge s t with q | q
        · exact h2 s q i hs z
        · have := itn_0 h1 (s - t)
          rw [show t + (s - t) = s by omega, hs] at this
          omega
      rw [this] at hT
      exact ⟨Or.inl rfl, hT⟩
    have loop : ∀ (f t v : Nat), n ≤ t + f → v = itn nx t (ch (hN F)) → v + t ≤ n ∨ v = 0 → (∀ s, s < t → ∀ i, itn nx s (ch (hN F)) = i + 1 → fkN (R i) ≠ F) → t ≤ n → X 13 [(0, .ref 28), (1, .long (lN F)), (4, .int (nI v - nI 1)), (5, .int (nI t))] [] M := by
      intro f
      induction f with
      | zero =>
        intro t v f1 f2 f3 f4 f5
        have et : t = n := by omega
        have ev : v = 0 := by omega
        refine hb13 _ _ _ ?_
        simp (maxSteps := 2000000) [bk_X3_isMet_0, bk_X3_isMet_13, bk_X3_isMet_41, bk_X3_isMet_66, pm_arr, pm_e_c0, pm_e_c1, pm_e_cti, pm_e_ctl, pm_e_ctr, pm_e_go, pm_e_i, pm_e_ii, pm_e_l, pm_e_ldi, pm_e_ldl, pm_e_ldr, pm_e_li, pm_e_lk, pm_e_ll, pm_e_r, pm_e_ri, pm_e_rm0, pm_e_rm1, pm_e_rs0, pm_e_rs1, pm_e_wp0, pm_e_wp1, pm_f2, pm_f3, pm_fld, pm_fv, pm_obj, pm_s_aload_n, pm_s_bipush, pm_s_getfield, pm_s_goto, pm_s_iand, pm_s_iconst, pm_s_ifCond_lt, pm_s_ifCond_ne, pm_s_if_icmp_ge, pm_s_iinc, pm_s_iload, pm_s_iload_n, pm_s_ireturn, pm_s_istore, pm_s_isub, pm_s_l2i, pm_s_laload, pm_s_lcmp, pm_s_lload_n, pm_s_lushr, pm_s_saload, pm_s_sipush, ct_X3_isMet, pS, pR, pC, pE, pL, -Int32.not_le, -Int32.not_lt, -Int64.not_le, -Int64.not_lt, -List.getD_eq_getElem?_getD, sx_28, m4]
        simp (disch := omega) only [ni_in, ni_cl, ni_add, ni_mul, ni_sub, ni_lt, ni_le, ni_eq, ni_eq0, ni_lt0, ni_0le, ni_0lt, ni_le0, ni_a1, ni_a3, ni_a7, ni_a15]
        refine ⟨fun _ => out t (by rw [← f2]; exact ev) f4, fun h => by omega⟩
      | succ f ih =>
        intro t v f1 f2 f3 f4 f5
        refine hb13 _ _ _ ?_
        simp (maxSteps := 2000000) [bk_X3_isMet_0, bk_X3_isMet_13, bk_X3_isMet_41, bk_X3_isMet_66, pm_arr, pm_e_c0, pm_e_c1, pm_e_cti, pm_e_ctl, pm_e_ctr, pm_e_go, pm_e_i, pm_e_ii, pm_e_l, pm_e_ldi, pm_e_ldl, pm_e_ldr, pm_e_li, pm_e_lk, pm_e_ll, pm_e_r, pm_e_ri, pm_e_rm0, pm_e_rm1, pm_e_rs0, pm_e_rs1, pm_e_wp0, pm_e_wp1, pm_f2, pm_f3, pm_fld, pm_fv, pm_obj, pm_s_aload_n, pm_s_bipush, pm_s_getfield, pm_s_goto, pm_s_iand, pm_s_iconst, pm_s_ifCond_lt, pm_s_ifCond_ne, pm_s_if_icmp_ge, pm_s_iinc, pm_s_iload, pm_s_iload_n, pm_s_ireturn, pm_s_istore, pm_s_isub, pm_s_l2i, pm_s_laload, pm_s_lcmp, pm_s_lload_n, pm_s_lushr, pm_s_saload, pm_s_sipush, ct_X3_isMet, pS, pR, pC, pE, pL, -Int32.not_le, -Int32.not_lt, -Int64.not_le, -Int64.not_lt, -List.getD_eq_getElem?_getD, sx_28, sx_29, m4]
        cases v with
        | zero =>
          simp (disch := omega) only [ni_in, ni_cl, ni_add, ni_mul, ni_sub, ni_lt, ni_le, ni_eq, ni_eq0, ni_lt0, ni_0le, ni_0lt, ni_le0, ni_a1, ni_a3, ni_a7, ni_a15]
          refine ⟨fun _ => out t f2.symm f4, fun h => ⟨fun _ => out t f2.symm f4, fun h2 => absurd (by decide) h2⟩⟩
        | succ u =>
          have hun : u < n := by omega
          have hru := hr u hun
          have hwu := hw u hun
          have hnu := hru.2.2
          rw [ni_sub (by omega), Nat.add_sub_cancel]
          simp (disch := omega) only [ni_in, ni_cl, ni_add, ni_mul, ni_sub, ni_lt, ni_le, ni_eq, ni_eq0, ni_lt0, ni_0le, ni_0lt, ni_le0, ni_a1, ni_a3, ni_a7, ni_a15, hru.1]
          refine ⟨fun h => by omega, fun h => ⟨fun h' => h'.elim, fun _ => ⟨by omega, ?_⟩⟩⟩
          rw [lg_cmp_eq, lN_inj hwu.1.f64 hF]
          refine ⟨fun h2 => ?_, fun h2 => ?_⟩
          · refine hb41 _ _ _ ?_
            simp (maxSteps := 2000000) [bk_X3_isMet_0, bk_X3_isMet_13, bk_X3_isMet_41, bk_X3_isMet_66, pm_arr, pm_e_c0, pm_e_c1, pm_e_cti, pm_e_ctl, pm_e_ctr, pm_e_go, pm_e_i, pm_e_ii, pm_e_l, pm_e_ldi, pm_e_ldl, pm_e_ldr, pm_e_li, pm_e_lk, pm_e_ll, pm_e_r, pm_e_ri, pm_e_rm0, pm_e_rm1, pm_e_rs0, pm_e_rs1, pm_e_wp0, pm_e_wp1, pm_f2, pm_f3, pm_fld, pm_fv, pm_obj, pm_s_aload_n, pm_s_bipush, pm_s_getfield, pm_s_goto, pm_s_iand, pm_s_iconst, pm_s_ifCond_lt, pm_s_ifCond_ne, pm_s_if_icmp_ge, pm_s_iinc, pm_s_iload, pm_s_iload_n, pm_s_ireturn, pm_s_istore, pm_s_isub, pm_s_l2i, pm_s_laload, pm_s_lcmp, pm_s_lload_n, pm_s_lushr, pm_s_saload, pm_s_sipush, ct_X3_isMet, pS, pR, pC, pE, pL, -Int32.not_le, -Int32.not_lt, -Int64.not_le, -Int64.not_lt, -List.getD_eq_getElem?_getD, sx_28, sx_30]
            simp (disch := omega) only [ni_in, ni_cl, ni_add, ni_mul, ni_sub, ni_lt, ni_le, ni_eq, ni_eq0, ni_lt0, ni_0le, ni_0lt, ni_le0, ni_a1, ni_a3, ni_a7, ni_a15, hru.2.1]
            refine ⟨by omega, ?_⟩
            have har := arN_lt (R u)
            have e1 : ((lN (twd (nx u) (arN (R u)) (pa u) (mo u))).toUInt64 >>> ((nI 27).toInt64.toUInt64 &&& Int64.toUInt64 63)).toInt64.toInt32 &&& nI 4095 = nI (nx u) := by
              have hlt : twd (nx u) (arN (R u)) (pa u) (mo u) < 2 ^ 64 := by unfold twd; omega
              rw [wb_shr hlt (by decide), ln_i, twd_nx har (by omega) hwu.2.2]
              refine (pk_and _ 12 (by decide)).trans ?_
              rw [show (nI (nx u)).toBitVec.toNat = nx u % 2 ^ 32 from rfl]
              congr 1; omega
            rw [e1]
            refine ih (t + 1) (nx u) (by omega) ?_ ?_ ?_ (by omega)
            · rw [itn_s, ← f2, if_neg (by omega)]; rfl
            · omega
            · intro s hs i hi
              by_cases z : s = t
              · subst z
                rw [← f2] at hi
                have : i = u := by omega
                rw [this]; exact h2
              · exact f4 s (by omega) i hi
          · have : metF n R F = true := by
              unfold metF
              rw [anyN_iff]; exact ⟨u, hun, decide_eq_true h2⟩
            rw [this] at hT
            exact ⟨Or.inr rfl, hT⟩
    refine hb0 _ _ _ ?_
    simp (maxSteps := 2000000) [bk_X3_isMet_0, bk_X3_isMet_13, bk_X3_isMet_41, bk_X3_isMet_66, pm_arr, pm_e_c0, pm_e_c1, pm_e_cti, pm_e_ctl, pm_e_ctr, pm_e_go, pm_e_i, pm_e_ii, pm_e_l, pm_e_ldi, pm_e_ldl, pm_e_ldr, pm_e_li, pm_e_lk, pm_e_ll, pm_e_r, pm_e_ri, pm_e_rm0, pm_e_rm1, pm_e_rs0, pm_e_rs1, pm_e_wp0, pm_e_wp1, pm_f2, pm_f3, pm_fld, pm_fv, pm_obj, pm_s_aload_n, pm_s_bipush, pm_s_getfield, pm_s_goto, pm_s_iand, pm_s_iconst, pm_s_ifCond_lt, pm_s_ifCond_ne, pm_s_if_icmp_ge, pm_s_iinc, pm_s_iload, pm_s_iload_n, pm_s_ireturn, pm_s_istore, pm_s_isub, pm_s_l2i, pm_s_laload, pm_s_lcmp, pm_s_lload_n, pm_s_lushr, pm_s_saload, pm_s_sipush, ct_X3_isMet, pS, pR, pC, pE, pL, -Int32.not_le, -Int32.not_lt, -Int64.not_le, -Int64.not_lt, -List.getD_eq_getElem?_getD, lv_args, sx_28, sx_31]
    simp (disch := omega) only [ni_in, ni_cl, ni_add, ni_mul, ni_sub, ni_lt, ni_le, ni_eq, ni_eq0, ni_lt0, ni_0le, ni_0lt, ni_le0, ni_a1, ni_a3, ni_a7, ni_a15, hc0.1]
    exact ⟨hh, loop n 0 (ch (hN F)) (by omega) rfl (by omega) (fun s hs => by omega) (by omega)⟩
  · exact hT.elim
def tt_X3_meet : pm_T := fun args M k => match args with
  | [.ref 28, .int a, .int b] => ∃ P m n R pa mo sp ec T p q, a = nI p ∧ b = nI q ∧ p < 4000 ∧ q < 64 ∧ SrX M P m n R pa mo sp ∧ SdX M 32 ec T ∧ wfS P T ∧
      (metF n R (fkN T) = true → ∀ M', pm_fr [37] M M' → k none M') ∧
      (metF n R (fkN T) = false → m ≤ n → ∀ M', SrX M' P m n R pa mo true → pm_fr [28, 37] M M' → k none M') ∧
      (metF n R (fkN T) = false → n < m → ∀ M', SrX M' P m (n + 1) (up R n T) (up pa n p) (up mo n q) sp → pm_fr [28, 29, 30, 31, 37] M M' → k none M')
  | _ => False
abbrev ct_X3_meet : List pm_C := [(false, 69, 4, 1, (some .long), tt_X4_formKey), (false, 115, 3, 3, (some .boolean), tt_X3_isMet), (false, 73, 4, 1, (some .int), tt_X4_arrangement)]
set_option maxHeartbeats 4000000 in
theorem sm_X3_meet  : pm_Sem SHx yX3_meet cX3_meet 6 none 3 tt_X3_meet := by
  refine pm_Sem_intro bl_X3_meet ct_X3_meet cs_X3_meet rfl (List.forall_mem_cons.mpr ⟨⟨_, _, _, _, sm_X4_formKey, by decide, cm_X4_formKey, by decide +kernel⟩, List.forall_mem_cons.mpr ⟨⟨_, _, _, _, sm_X3_isMet, by decide, cm_X3_isMet, by decide +kernel⟩, List.forall_mem_cons.mpr ⟨⟨_, _, _, _, sm_X4_arrangement, by decide, cm_X4_arrangement, by decide +kernel⟩, fun _ h => absurd h List.not_mem_nil⟩⟩⟩) ck_X3_meet (by decide +kernel) (by decide) ?_
  intro X k hX args M hT
  have hb0 := hX 0 bk_X3_meet_0 (List.mem_of_getElem? (i := 0) rfl)
  have hb30 := hX 30 bk_X3_meet_30 (List.mem_of_getElem? (i := 1) rfl)
  have hb47 := hX 47 bk_X3_meet_47 (List.mem_of_getElem? (i := 2) rfl)
  clear hX
  unfold tt_X3_meet at hT; split at hT
  · obtain ⟨P, m, n, R, pa, mo, sp, ec, T, p, q, rfl, rfl, hp, hq, hS, hW, hwT, hT1, hT2, hT3⟩ := hT
    obtain ⟨eh, hh⟩ := hN_e (fkN T)
    refine ⟨by simp [lg_sl, Value.category], ?_⟩
    refine hb0 _ _ _ ?_
    simp (maxSteps := 2000000) [bk_X3_meet_0, bk_X3_meet_30, bk_X3_meet_47, pm_arr, pm_call, pm_e_c0, pm_e_c1, pm_e_cti, pm_e_ctl, pm_e_ctr, pm_e_go, pm_e_i, pm_e_ii, pm_e_l, pm_e_ldi, pm_e_ldl, pm_e_ldr, pm_e_li, pm_e_lk, pm_e_ll, pm_e_r, pm_e_ri, pm_e_rii, pm_e_ril, pm_e_rm0, pm_e_rm1, pm_e_rs0, pm_e_rs1, pm_e_v1, pm_e_wp0, pm_e_wp1, pm_f2, pm_f3, pm_fld, pm_fv, pm_obj, pm_recv, pm_s_aload_n, pm_s_bipush, pm_s_dup, pm_s_getfield, pm_s_i2l, pm_s_i2s, pm_s_iadd, pm_s_iconst, pm_s_ifCond_eq, pm_s_if_icmp_lt, pm_s_iload, pm_s_iload_n, pm_s_invokevirtual, pm_s_ishl, pm_s_istore, pm_s_l2i, pm_s_lastore, pm_s_ldc2_w, pm_s_lload_n, pm_s_lmul, pm_s_lor, pm_s_lshl, pm_s_lstore_n, pm_s_lushr, pm_s_putfield, pm_s_return, pm_s_saload, pm_s_sastore, ct_X3_meet, pS, pR, pC, pE, pL, -Int32.not_le, -Int32.not_lt, -Int64.not_le, -Int64.not_lt, -List.getD_eq_getElem?_getD, lv_args, sx_28, sx_32]
    refine ⟨ec, T, Or.inr rfl, hW, hwT.2.2.1, fun M1 f1 => ?_⟩
    have f1' : pm_fr [37] M M1 := f1
    have hS1 := hS.mv f1' (by decide)
    have hW1 : SdX M1 32 ec T := hW.m5 f1
    simp (maxSteps := 2000000) [bk_X3_meet_0, bk_X3_meet_30, bk_X3_meet_47, pm_arr, pm_call, pm_e_c0, pm_e_c1, pm_e_cti, pm_e_ctl, pm_e_ctr, pm_e_go, pm_e_i, pm_e_ii, pm_e_l, pm_e_ldi, pm_e_ldl, pm_e_ldr, pm_e_li, pm_e_lk, pm_e_ll, pm_e_r, pm_e_ri, pm_e_rii, pm_e_ril, pm_e_rm0, pm_e_rm1, pm_e_rs0, pm_e_rs1, pm_e_v1, pm_e_wp0, pm_e_wp1, pm_f2, pm_f3, pm_fld, pm_fv, pm_obj, pm_recv, pm_s_aload_n, pm_s_bipush, pm_s_dup, pm_s_getfield, pm_s_i2l, pm_s_i2s, pm_s_iadd, pm_s_iconst, pm_s_ifCond_eq, pm_s_if_icmp_lt, pm_s_iload, pm_s_iload_n, pm_s_invokevirtual, pm_s_ishl, pm_s_istore, pm_s_l2i, pm_s_lastore, pm_s_ldc2_w, pm_s_lload_n, pm_s_lmul, pm_s_lor, pm_s_lshl, pm_s_lstore_n, pm_s_lushr, pm_s_putfield, pm_s_return, pm_s_saload, pm_s_sastore, ct_X3_meet, pS, pR, pC, pE, pL, -Int32.not_le, -Int32.not_lt, -Int64.not_le, -Int64.not_lt, -List.getD_eq_getElem?_getD, sx_28]
    have eh' : (((lN (fkN T)).toUInt64 * (lN 11400714819323198485).toUInt64) >>> ((nI 54).toInt64.toUInt64 &&& Int64.toUInt64 63)).toInt64.toInt32 = nI (hN (fkN T)) := by rw [← Int64.toUInt64_mul]; exact eh
    rw [eh']
    refine ⟨P, m, n, R, pa, mo, sp, fkN T, rfl, hwT.f64, rfl, hS1, ?_⟩
    simp (maxSteps := 2000000) [bk_X3_meet_0, bk_X3_meet_30, bk_X3_meet_47, pm_arr, pm_call, pm_e_c0, pm_e_c1, pm_e_cti, pm_e_ctl, pm_e_ctr, pm_e_go, pm_e_i, pm_e_ii, pm_e_l, pm_e_ldi, pm_e_ldl, pm_e_ldr, pm_e_li, pm_e_lk, pm_e_ll, pm_e_r, pm_e_ri, pm_e_rii, pm_e_ril, pm_e_rm0, pm_e_rm1, pm_e_rs0, pm_e_rs1, pm_e_v1, pm_e_wp0, pm_e_wp1, pm_f2, pm_f3, pm_fld, pm_fv, pm_obj, pm_recv, pm_s_aload_n, pm_s_bipush, pm_s_dup, pm_s_getfield, pm_s_i2l, pm_s_i2s, pm_s_iadd, pm_s_iconst, pm_s_ifCond_eq, pm_s_if_icmp_lt, pm_s_iload, pm_s_iload_n, pm_s_invokevirtual, pm_s_ishl, pm_s_istore, pm_s_l2i, pm_s_lastore, pm_s_ldc2_w, pm_s_lload_n, pm_s_lmul, pm_s_lor, pm_s_lshl, pm_s_lstore_n, pm_s_lushr, pm_s_putfield, pm_s_return, pm_s_saload, pm_s_sastore, ct_X3_meet, pS, pR, pC, pE, pL, -Int32.not_le, -Int32.not_lt, -Int64.not_le, -Int64.not_lt, -List.getD_eq_getElem?_getD, pb_eq0]
    refine ⟨fun hm => ?_, fun hm => hT1 hm M1 f1'⟩
    obtain ⟨⟨b1, b2⟩, ⟨m4, m5, m6⟩, hw, nx, ch, hr, hc, hch⟩ := id hS1
    refine hb30 _ _ _ ?_
    simp (maxSteps := 2000000) [bk_X3_meet_0, bk_X3_meet_30, bk_X3_meet_47, pm_arr, pm_call, pm_e_c0, pm_e_c1, pm_e_cti, pm_e_ctl, pm_e_ctr, pm_e_go, pm_e_i, pm_e_ii, pm_e_l, pm_e_ldi, pm_e_ldl, pm_e_ldr, pm_e_li, pm_e_lk, pm_e_ll, pm_e_r, pm_e_ri, pm_e_rii, pm_e_ril, pm_e_rm0, pm_e_rm1, pm_e_rs0, pm_e_rs1, pm_e_v1, pm_e_wp0, pm_e_wp1, pm_f2, pm_f3, pm_fld, pm_fv, pm_obj, pm_recv, pm_s_aload_n, pm_s_bipush, pm_s_dup, pm_s_getfield, pm_s_i2l, pm_s_i2s, pm_s_iadd, pm_s_iconst, pm_s_ifCond_eq, pm_s_if_icmp_lt, pm_s_iload, pm_s_iload_n, pm_s_invokevirtual, pm_s_ishl, pm_s_istore, pm_s_l2i, pm_s_lastore, pm_s_ldc2_w, pm_s_lload_n, pm_s_lmul, pm_s_lor, pm_s_lshl, pm_s_lstore_n, pm_s_lushr, pm_s_putfield, pm_s_return, pm_s_saload, pm_s_sastore, ct_X3_meet, pS, pR, pC, pE, pL, -Int32.not_le, -Int32.not_lt, -Int64.not_le, -Int64.not_lt, -List.getD_eq_getElem?_getD, sx_28, m4, m5]
    simp (disch := omega) only [ni_in, ni_cl, ni_add, ni_mul, ni_sub, ni_lt, ni_le, ni_eq, ni_eq0, ni_lt0, ni_0le, ni_0lt, ni_le0, ni_a1, ni_a3, ni_a7, ni_a15]
    refine ⟨fun h => ?_, fun h => ?_⟩
    · refine hb47 _ _ _ ?_
      simp (maxSteps := 2000000) [bk_X3_meet_0, bk_X3_meet_30, bk_X3_meet_47, pm_arr, pm_call, pm_e_c0, pm_e_c1, pm_e_cti, pm_e_ctl, pm_e_ctr, pm_e_go, pm_e_i, pm_e_ii, pm_e_l, pm_e_ldi, pm_e_ldl, pm_e_ldr, pm_e_li, pm_e_lk, pm_e_ll, pm_e_r, pm_e_ri, pm_e_rii, pm_e_ril, pm_e_rm0, pm_e_rm1, pm_e_rs0, pm_e_rs1, pm_e_v1, pm_e_wp0, pm_e_wp1, pm_f2, pm_f3, pm_fld, pm_fv, pm_obj, pm_recv, pm_s_aload_n, pm_s_bipush, pm_s_dup, pm_s_getfield, pm_s_i2l, pm_s_i2s, pm_s_iadd, pm_s_iconst, pm_s_ifCond_eq, pm_s_if_icmp_lt, pm_s_iload, pm_s_iload_n, pm_s_invokevirtual, pm_s_ishl, pm_s_istore, pm_s_l2i, pm_s_lastore, pm_s_ldc2_w, pm_s_lload_n, pm_s_lmul, pm_s_lor, pm_s_lshl, pm_s_lstore_n, pm_s_lushr, pm_s_putfield, pm_s_return, pm_s_saload, pm_s_sastore, ct_X3_meet, pS, pR, pC, pE, pL, -Int32.not_le, -Int32.not_lt, -Int64.not_le, -Int64.not_lt, -List.getD_eq_getElem?_getD, sx_28, sx_29, sx_30, sx_31, sx_32, m4]
      have hc0 := hc _ hh
      have hcn := hc0.2
      simp (disch := omega) only [ni_in, ni_cl, ni_add, ni_mul, ni_sub, ni_lt, ni_le, ni_eq, ni_eq0, ni_lt0, ni_0le, ni_0lt, ni_le0, ni_a1, ni_a3, ni_a7, ni_a15, hc0.1, me_3]
      refine ⟨by omega, by omega, ?_⟩
      have f2 : pm_fr [29] M1 (pm_setL M1 29 n (lN (fkN T))) := pm_fr.rfl.setL (by simp)
      refine ⟨ec, T, Or.inr rfl, hW1.moved f2 (by decide), fun M2 f3 => ?_⟩
      have f3' : pm_fr [37] (pm_setL M1 29 n (lN (fkN T))) M2 := f3
      simp (maxSteps := 2000000) [bk_X3_meet_0, bk_X3_meet_30, bk_X3_meet_47, pm_arr, pm_call, pm_e_c0, pm_e_c1, pm_e_cti, pm_e_ctl, pm_e_ctr, pm_e_go, pm_e_i, pm_e_ii, pm_e_l, pm_e_ldi, pm_e_ldl, pm_e_ldr, pm_e_li, pm_e_lk, pm_e_ll, pm_e_r, pm_e_ri, pm_e_rii, pm_e_ril, pm_e_rm0, pm_e_rm1, pm_e_rs0, pm_e_rs1, pm_e_v1, pm_e_wp0, pm_e_wp1, pm_f2, pm_f3, pm_fld, pm_fv, pm_obj, pm_recv, pm_s_aload_n, pm_s_bipush, pm_s_dup, pm_s_getfield, pm_s_i2l, pm_s_i2s, pm_s_iadd, pm_s_iconst, pm_s_ifCond_eq, pm_s_if_icmp_lt, pm_s_iload, pm_s_iload_n, pm_s_invokevirtual, pm_s_ishl, pm_s_istore, pm_s_l2i, pm_s_lastore, pm_s_ldc2_w, pm_s_lload_n, pm_s_lmul, pm_s_lor, pm_s_lshl, pm_s_lstore_n, pm_s_lushr, pm_s_putfield, pm_s_return, pm_s_saload, pm_s_sastore, ct_X3_meet, pS, pR, pC, pE, pL, -Int32.not_le, -Int32.not_lt, -Int64.not_le, -Int64.not_lt, -List.getD_eq_getElem?_getD, sx_28, sx_30, sx_31]
      rw [twd_or (by omega) (arN_lt T) (by omega) hq]
      have e4 : M2.1 28 4 = nI n := by rw [f3'.i (by decide)]; exact m4
      simp (disch := omega) only [ni_in, ni_cl, ni_add, ni_mul, ni_sub, ni_lt, ni_le, ni_eq, ni_eq0, ni_lt0, ni_0le, ni_0lt, ni_le0, ni_a1, ni_a3, ni_a7, ni_a15, e4, m4, me_3]
      refine ⟨by omega, ?_⟩
      simp only [me_1s, if_true, if_pos]
      rw [nI_16 (by omega)]
      refine ⟨hh, hT3 hm h _ ⟨⟨by omega, b2⟩, ⟨?_, ?_, ?_⟩, fun i hi => ?_, up nx n (ch (hN (fkN T))), up ch (hN (fkN T)) (n + 1), fun i hi => ?_, fun c hcc => ?_, fun i hi => ?_⟩ ?_⟩
      · simp [pm_set, pm_setL]
      · have : M2.1 28 5 = nI m := by rw [f3'.i (by decide)]; exact m5
        simpa [pm_set, pm_setL] using this
      · have : M2.1 28 6 = pb sp := by rw [f3'.i (by decide)]; exact m6
        simpa [pm_set, pm_setL] using this
      · by_cases z : i = n
        · subst z; rw [up_s, up_s, up_s]; exact ⟨hwT, hp, hq⟩
        · rw [up_n _ _ z, up_n _ _ z, up_n _ _ z]; exact hw i (by omega)
      · have g29 : ∀ j, M2.2 29 j = if j = n then lN (fkN T) else M1.2 29 j := fun j => by rw [f3'.l (by decide), me_4s]
        have g30 : ∀ j, M2.2 30 j = M1.2 30 j := fun j => by rw [f3'.l (by decide), f2.l (by decide)]
        by_cases z : i = n
        · subst z; rw [up_s, up_s, up_s, up_s]
          refine ⟨?_, ?_, by omega⟩
          · have := g29 i; rw [if_pos rfl] at this; simpa [pm_set, pm_setL] using this
          · simp [pm_set, pm_setL]
        · rw [up_n _ _ z, up_n _ _ z, up_n _ _ z, up_n _ _ z]
          have hri := hr i (by omega)
          refine ⟨?_, ?_, hri.2.2⟩
          · have := g29 i; rw [if_neg z, hri.1] at this; simpa [pm_set, pm_setL] using this
          · have := g30 i; rw [hri.2.1] at this; simpa [pm_set, pm_setL, z] using this
      · have g31 : ∀ j, M2.1 31 j = M1.1 31 j := fun j => by rw [f3'.i (by decide), f2.i (by decide)]
        by_cases z : c = hN (fkN T)
        · subst z; rw [up_s]; simp [pm_set, pm_setL]
        · rw [up_n _ _ z]
          have := hc c hcc
          have g := g31 c
          rw [this.1] at g
          exact ⟨by simpa [pm_set, pm_setL, z] using g, by omega⟩
      · have hup : ∀ v t, v ≤ n → itn (up nx n (ch (hN (fkN T)))) t v = itn nx t v := fun v t hv => itn_up (fun j hj => (hr j hj).2.2) (fun j hj => up_n _ _ (by omega)) hv t
        by_cases z : i = n
        · subst z; rw [up_s, up_s]; exact ⟨0, rfl⟩
        · rw [up_n _ _ z]
          obtain ⟨t, ht⟩ := hch i (by omega)
          by_cases y : hN (fkN (R i)) = hN (fkN T)
          · rw [y, up_s]
            refine ⟨t + 1, ?_⟩
            rw [itn_sh, if_neg (by omega), Nat.add_sub_cancel, up_s, hup _ _ hcn, ← y]; exact ht
          · rw [up_n _ _ y]
            have hle : ch (hN (fkN (R i))) ≤ n := (hc _ (hN_e _).2).2
            exact ⟨t, by rw [hup _ _ hle]; exact ht⟩
      · refine pm_fr.set (pm_fr.set (pm_fr.setL ?_ ?_) ?_) ?_
        · exact ((f1'.mono (by decide)).trans (f2.mono (by decide))).trans (f3'.mono (by decide))
        all_goals decide
    · refine ⟨Or.inr rfl, hT2 hm (by omega) _ ⟨⟨b1, b2⟩, ⟨?_, ?_, ?_⟩, hw, nx, ch, hr, fun c hcc => ?_, hch⟩ ?_⟩
      · simpa [pm_set] using m4
      · simpa [pm_set] using m5
      · simp [pm_set, pb_t, ni_1]
      · simpa [pm_set] using hc c hcc
      · exact pm_fr.set (f1'.mono (by decide)) (by decide)
  · exact hT.elim
