/-! ONE STAND OF THE SEARCH: its moves -/
/-- how many, the stands, their elders, the moves from there, the rows of moves, whether there was no room -/
abbrev Zs : Type := Nat × (Nat → St) × (Nat → Nat) × (Nat → Nat) × (Nat → List Nat) × Bool
abbrev zn (Z : Zs) : Nat := Z.1
abbrev zR (Z : Zs) : Nat → St := Z.2.1
abbrev zp (Z : Zs) : Nat → Nat := Z.2.2.1
abbrev zm (Z : Zs) : Nat → Nat := Z.2.2.2.1
abbrev zw (Z : Zs) : Nat → List Nat := Z.2.2.2.2.1
abbrev zs (Z : Zs) : Bool := Z.2.2.2.2.2
/-- the pure part -/
def CZ (P : Pm) (ec : Nat) (S0 : St) (m d lo hi i c : Nat) (Z : Zs) : Prop :=
  BJ P ec S0 m d lo hi i c (zn Z) (zR Z) (fun j => (zw Z j).length) (zs Z) ∧ LX P ec S0 d lo hi i c (zn Z) (zR Z) (zw Z) ∧ zw Z 0 = [] ∧ ∀ k, 0 < k → k < zn Z → zw Z k = zw Z (zp Z k) ++ [zm Z k] ∧ zp Z k < k
def SZ (M : pm_M) (P : Pm) (m : Nat) (Z : Zs) : Prop := SrX M P m (zn Z) (zR Z) (zp Z) (zm Z) (zs Z)
theorem CZ.old {P : Pm} {ec : Nat} {S0 : St} {m d lo hi i c : Nat} {Z : Zs} (h : CZ P ec S0 m d lo hi i c Z) (hi' : i < hi) (hd : ¬ dnS P (aMv P ec (zR Z i) (c / 8) (c % 8))) (ho : zs Z = true ∨ metF (zn Z) (zR Z) (fkN (aMv P ec (zR Z i) (c / 8) (c % 8))) = true) : CZ P ec S0 m d lo hi i (c + 1) Z := by
  obtain ⟨a, b, e, f⟩ := h
  refine ⟨a.old hd (ho.imp id (fun z => ?_)), b.old hi' (by omega), e, f⟩
  unfold metF at z
  obtain ⟨k, k1, k2⟩ := anyN_iff.mp z
  exact ⟨k, k1, of_decide_eq_true k2⟩
theorem metF_no {n : Nat} {R : Nat → St} {F : Nat} (h : metF n R F = false) : ∀ k, k < n → fkN (R k) ≠ F := fun k hk z => by
  have : metF n R F = true := anyN_iff.mpr ⟨k, hk, decide_eq_true z⟩
  rw [h] at this; exact absurd this (by simp)
theorem CZ.full {P : Pm} {ec : Nat} {S0 : St} {m d lo hi i c : Nat} {Z : Zs} (hP : okP P) (he : ec ≤ 2) (h0 : FW P ec S0) (h : CZ P ec S0 m d lo hi i c Z) (hi' : i < hi) (hc : canN P ec (zR Z i) (c / 8) (c % 8) = true) (hd : ¬ dnS P (aMv P ec (zR Z i) (c / 8) (c % 8))) (hm : metF (zn Z) (zR Z) (fkN (aMv P ec (zR Z i) (c / 8) (c % 8))) = false) (hn : m ≤ zn Z) : CZ P ec S0 m d lo hi i (c + 1) (zn Z, zR Z, zp Z, zm Z, zw Z, true) := by
  obtain ⟨a, b, e, f⟩ := h
  exact ⟨a.full hP he h0 hi' hc hd hn (metF_no hm), b.old hi' (by omega), e, f⟩
theorem CZ.new {P : Pm} {ec : Nat} {S0 : St} {m d lo hi i c : Nat} {Z : Zs} (hP : okP P) (he : ec ≤ 2) (h0 : FW P ec S0) (h : CZ P ec S0 m d lo hi i c Z) (hi' : i < hi) (hs : zs Z = false) (hc : canN P ec (zR Z i) (c / 8) (c % 8) = true) (hd : ¬ dnS P (aMv P ec (zR Z i) (c / 8) (c % 8))) (hm : metF (zn Z) (zR Z) (fkN (aMv P ec (zR Z i) (c / 8) (c % 8))) = false) (hn : zn Z < m) : CZ P ec S0 m d lo hi i (c + 1) (zn Z + 1, up (zR Z) (zn Z) (aMv P ec (zR Z i) (c / 8) (c % 8)), up (zp Z) (zn Z) i, up (zm Z) (zn Z) c, up (zw Z) (zn Z) (zw Z i ++ [c]), false) := by
  obtain ⟨a, b, e, f⟩ := h
  have ha := a.1
  have hli := (a.2.2.1 i (by omega)).2.1 (by omega) hi'
  have hfw := (a.2.1 i (by omega)).1
  rw [hs] at a
  refine ⟨a.new (T := aMv P ec (zR Z i) (c / 8) (c % 8)) hP he h0 hi' hc hd hn (metF_no hm) (WF.mv hP he hfw (can_b6 hP hc) hc) rfl (fun j hj => up_n _ _ (by omega)) (up_s _ _ _) (fun j hj => ?_) ?_, b.new (by omega) hi' (by omega) hc (metF_no hm) (fun j x h1 h2 h3 h4 => ?_) (fun j hj => up_n _ _ (by omega)) (up_s _ _ _) (fun j hj => up_n _ _ (by omega)) (up_s _ _ _), ?_, fun k k1 k2 => ?_⟩
  · show (up (zw Z) (zn Z) (zw Z i ++ [c]) j).length = _
    rw [up_n _ _ (by omega)]
  · show (up (zw Z) (zn Z) (zw Z i ++ [c]) (zn Z)).length = _
    rw [up_s]; simp only [List.length_append, List.length_singleton]; simp only at hli; omega
  · exact ((a.2.2.2.2.2.1 j x h1 h2 h3 h4).2).resolve_left (by simp)
  · show up (zw Z) (zn Z) (zw Z i ++ [c]) 0 = []
    rw [up_n _ _ (by omega)]; exact e
  · show up (zw Z) (zn Z) (zw Z i ++ [c]) k = up (zw Z) (zn Z) (zw Z i ++ [c]) (up (zp Z) (zn Z) i k) ++ [up (zm Z) (zn Z) c k] ∧ up (zp Z) (zn Z) i k < k
    have k2' : k < zn Z + 1 := k2
    by_cases z : k = zn Z
    · rw [z, up_s, up_s, up_s, up_n _ _ (by omega)]; exact ⟨rfl, by omega⟩
    · obtain ⟨q1, q2⟩ := f k k1 (by omega)
      rw [up_n _ _ z, up_n _ _ z, up_n _ _ z, up_n _ _ (by omega)]; exact ⟨q1, q2⟩
abbrev frS : List Nat := [28, 29, 30, 31, 32, 33, 34, 35, 36, 37]
theorem mvc : ∀ a, a < 6 → ∀ b, b < 6 → (nI a <<< (nI 3 &&& 31)) ||| nI b = nI (8 * a + b) := by decide +kernel
def tt_X3_endsBy : pm_T := fun args M k => match args with
  | [.ref 28, .int x, .int y, .int z] => ∃ P ec S0 m d lo hi i a b Z, x = nI i ∧ y = nI a ∧ z = nI b ∧ okP P ∧ ec ≤ 2 ∧ FW P ec S0 ∧ CZ P ec S0 m d lo hi i (8 * a + b) Z ∧ SZ M P m Z ∧ DkX M P ∧ SdX M 32 ec (zR Z i) ∧ i < hi ∧ b < 6 ∧ canN P ec (zR Z i) a b = true ∧
      (dnS P (aMv P ec (zR Z i) a b) → ∀ M', SZ M' P m Z → SdX M' 32 ec (zR Z i) → M'.1 28 7 = nI i → M'.1 28 8 = nI (8 * a + b) → pm_fr frS M M' → k (some (.int (nI 1))) M') ∧
      (¬ dnS P (aMv P ec (zR Z i) a b) → ∀ M' Z', CZ P ec S0 m d lo hi i (8 * a + b + 1) Z' → SZ M' P m Z' → SdX M' 32 ec (zR Z' i) → pm_fr frS M M' → k (some (.int (nI 0))) M')
  | _ => False
abbrev ct_X3_endsBy : List pm_C := [(false, 100, 4, 3, (some .int), tt_X4_shift), (false, 31, 4, 1, (some .boolean), tt_X4_isDone), (false, 81, 3, 3, none, tt_X3_meet), (false, 109, 4, 4, none, tt_X4_shiftBack)]
set_option maxHeartbeats 4000000 in
theorem sm_X3_endsBy  : pm_Sem SHx yX3_endsBy cX3_endsBy 7 (some .boolean) 4 tt_X3_endsBy := by
  refine pm_Sem_intro bl_X3_endsBy ct_X3_endsBy cs_X3_endsBy rfl (List.forall_mem_cons.mpr ⟨⟨_, _, _, _, sm_X4_shift, by decide, cm_X4_shift, by decide +kernel⟩, List.forall_mem_cons.mpr ⟨⟨_, _, _, _, sm_X4_isDone, by decide, cm_X4_isDone, by decide +kernel⟩, List.forall_mem_cons.mpr ⟨⟨_, _, _, _, sm_X3_meet, by decide, cm_X3_meet, by decide +kernel⟩, List.forall_mem_cons.mpr ⟨⟨_, _, _, _, sm_X4_shiftBack, by decide, cm_X4_shiftBack, by decide +kernel⟩, fun _ h => absurd h List.not_mem_nil⟩⟩⟩⟩) ck_X3_endsBy (by decide +kernel) (by decide) ?_
  intro X k hX args M hT
  have hb0 := hX 0 bk_X3_endsBy_0 (List.mem_of_getElem? (i := 0) rfl)
  have hb46 := hX 46 bk_X3_endsBy_46 (List.mem_of_getElem? (i := 1) rfl)
  have hb60 := hX 60 bk_X3_endsBy_60 (List.mem_of_getElem? (i := 2) rfl)
  clear hX
  unfold tt_X3_endsBy at hT; split at hT
  · obtain ⟨P, ec, S0, m, d, lo, hi, i, a, b, Z, rfl, rfl, rfl, hP, he, h0, hC, hZ, hD, hS, hi', hb, hc, hT1, hT2⟩ := hT
    have e8 : (8 * a + b) / 8 = a := by omega
    have e8' : (8 * a + b) % 8 = b := by omega
    have ha := hC.1.1
    have hfw := (hC.1.2.1 i (by omega)).1
    have hok := hfw.ok hP
    have hmv := hfw.mvK hP he hb hc
    have hT' := WF.mv hP he hfw hb hc
    have hz4 : m ≤ 4000 := hZ.1.2
    have hwT : wfS P (aMv P ec (zR Z i) a b) := WF.wfK hP hT' (fun _ _ _ => rfl)
    have ha6 : a < 6 := hmv.1
    have hcl := cardF_le hfw.inDk ha6
    have hP5 := hP.2.2.2.2.1
    generalize hS' : zR Z i = S at *
    generalize hTT : aMv P ec S a b = T at *
    refine ⟨by simp [lg_sl, Value.category], ?_⟩
    have h60 : ∀ (M' : pm_M) (q : Bool), SdX M' 32 ec T → DkX M' P → (∀ M'', SdX M'' 32 ec S → pm_fr [32, 33, 34, 35, 36, 37] M' M'' → k (some (.int (pb q))) M'') → X 60 [(0, .ref 28), (2, .int (nI a)), (3, .int (nI b)), (5, .int (nI (cardF S a))), (6, .int (pb q))] [] M' := by
      intro M' q q1 q2 q3
      refine hb60 _ _ _ ?_
      simp (maxSteps := 2000000) [bk_X3_endsBy_0, bk_X3_endsBy_46, bk_X3_endsBy_60, pm_call, pm_e_c0, pm_e_c1, pm_e_cti, pm_e_ctl, pm_e_ctr, pm_e_go, pm_e_i, pm_e_ii, pm_e_ldi, pm_e_ldr, pm_e_lk, pm_e_r, pm_e_rm0, pm_e_rm1, pm_e_rs0, pm_e_rs1, pm_e_wp0, pm_e_wp1, pm_f2, pm_f3, pm_fld, pm_fv, pm_obj, pm_recv, pm_s_aload_n, pm_s_getfield, pm_s_goto, pm_s_iconst, pm_s_ifCond_eq, pm_s_ifCond_ne, pm_s_iload, pm_s_iload_n, pm_s_invokevirtual, pm_s_ior, pm_s_ireturn, pm_s_ishl, pm_s_istore, pm_s_putfield, ct_X3_endsBy, pS, pR, pC, pE, pL, -Int32.not_le, -Int32.not_lt, -Int64.not_le, -Int64.not_lt, -List.getD_eq_getElem?_getD, sx_28, sx_32]
      refine ⟨ec, S, P, a, b, Or.inr rfl, rfl, rfl, rfl, by rw [hTT]; exact q1, q2, hok, hfw.inDk, hmv, fun M'' r1 r2 => ?_⟩
      simp (maxSteps := 2000000) [bk_X3_endsBy_0, bk_X3_endsBy_46, bk_X3_endsBy_60, pm_call, pm_e_c0, pm_e_c1, pm_e_cti, pm_e_ctl, pm_e_ctr, pm_e_go, pm_e_i, pm_e_ii, pm_e_ldi, pm_e_ldr, pm_e_lk, pm_e_r, pm_e_rm0, pm_e_rm1, pm_e_rs0, pm_e_rs1, pm_e_wp0, pm_e_wp1, pm_f2, pm_f3, pm_fld, pm_fv, pm_obj, pm_recv, pm_s_aload_n, pm_s_getfield, pm_s_goto, pm_s_iconst, pm_s_ifCond_eq, pm_s_ifCond_ne, pm_s_iload, pm_s_iload_n, pm_s_invokevirtual, pm_s_ior, pm_s_ireturn, pm_s_ishl, pm_s_istore, pm_s_putfield, ct_X3_endsBy, pS, pR, pC, pE, pL, -Int32.not_le, -Int32.not_lt, -Int64.not_le, -Int64.not_lt, -List.getD_eq_getElem?_getD, pb_01]
      exact q3 M'' r1 r2
    refine hb0 _ _ _ ?_
    simp (maxSteps := 2000000) [bk_X3_endsBy_0, bk_X3_endsBy_46, bk_X3_endsBy_60, pm_call, pm_e_c0, pm_e_c1, pm_e_cti, pm_e_ctl, pm_e_ctr, pm_e_go, pm_e_i, pm_e_ii, pm_e_ldi, pm_e_ldr, pm_e_lk, pm_e_r, pm_e_rm0, pm_e_rm1, pm_e_rs0, pm_e_rs1, pm_e_wp0, pm_e_wp1, pm_f2, pm_f3, pm_fld, pm_fv, pm_obj, pm_recv, pm_s_aload_n, pm_s_getfield, pm_s_goto, pm_s_iconst, pm_s_ifCond_eq, pm_s_ifCond_ne, pm_s_iload, pm_s_iload_n, pm_s_invokevirtual, pm_s_ior, pm_s_ireturn, pm_s_ishl, pm_s_istore, pm_s_putfield, ct_X3_endsBy, pS, pR, pC, pE, pL, -Int32.not_le, -Int32.not_lt, -Int64.not_le, -Int64.not_lt, -List.getD_eq_getElem?_getD, lv_args, sx_28, sx_32]
    rw [mvc a ha6 b hb]
    refine ⟨ec, S, P, a, b, Or.inr rfl, rfl, rfl, hS, hD, hfw.inDk, ha6, hb, hmv.2.2.1, hmv.2.2.2.1, hmv.2.2.2.2.1, hmv.2.2.2.2.2.1, fun M1 q1 f1 => ?_⟩
    rw [hTT] at q1
    have f1' : pm_fr [32, 33, 34, 35, 36, 37] M M1 := f1
    have hD1 := hD.moved f1' (by decide)
    have hZ1 : SZ M1 P m Z := SrX.mv hZ f1' (by decide)
    simp (maxSteps := 2000000) [bk_X3_endsBy_0, bk_X3_endsBy_46, bk_X3_endsBy_60, pm_call, pm_e_c0, pm_e_c1, pm_e_cti, pm_e_ctl, pm_e_ctr, pm_e_go, pm_e_i, pm_e_ii, pm_e_ldi, pm_e_ldr, pm_e_lk, pm_e_r, pm_e_rm0, pm_e_rm1, pm_e_rs0, pm_e_rs1, pm_e_wp0, pm_e_wp1, pm_f2, pm_f3, pm_fld, pm_fv, pm_obj, pm_recv, pm_s_aload_n, pm_s_getfield, pm_s_goto, pm_s_iconst, pm_s_ifCond_eq, pm_s_ifCond_ne, pm_s_iload, pm_s_iload_n, pm_s_invokevirtual, pm_s_ior, pm_s_ireturn, pm_s_ishl, pm_s_istore, pm_s_putfield, ct_X3_endsBy, pS, pR, pC, pE, pL, -Int32.not_le, -Int32.not_lt, -Int64.not_le, -Int64.not_lt, -List.getD_eq_getElem?_getD, sx_28, sx_32]
    refine ⟨ec, T, P, Or.inr rfl, q1, hD1, ?_⟩
    simp (maxSteps := 2000000) [bk_X3_endsBy_0, bk_X3_endsBy_46, bk_X3_endsBy_60, pm_call, pm_e_c0, pm_e_c1, pm_e_cti, pm_e_ctl, pm_e_ctr, pm_e_go, pm_e_i, pm_e_ii, pm_e_ldi, pm_e_ldr, pm_e_lk, pm_e_r, pm_e_rm0, pm_e_rm1, pm_e_rs0, pm_e_rs1, pm_e_wp0, pm_e_wp1, pm_f2, pm_f3, pm_fld, pm_fv, pm_obj, pm_recv, pm_s_aload_n, pm_s_getfield, pm_s_goto, pm_s_iconst, pm_s_ifCond_eq, pm_s_ifCond_ne, pm_s_iload, pm_s_iload_n, pm_s_invokevirtual, pm_s_ior, pm_s_ireturn, pm_s_ishl, pm_s_istore, pm_s_putfield, ct_X3_endsBy, pS, pR, pC, pE, pL, -Int32.not_le, -Int32.not_lt, -Int64.not_le, -Int64.not_lt, -List.getD_eq_getElem?_getD, sx_28, pb_eq0]
    refine ⟨fun hn => ?_, fun hd => ?_⟩
    · have hnd : ¬ dnS P T := hn
      have edn : decide (hoS T = P.1 * P.2.1) = false := decide_eq_false hn
      refine hb46 _ _ _ ?_
      have m6 := hZ1.2.1.2.2
      simp (maxSteps := 2000000) [bk_X3_endsBy_0, bk_X3_endsBy_46, bk_X3_endsBy_60, pm_call, pm_e_c0, pm_e_c1, pm_e_cti, pm_e_ctl, pm_e_ctr, pm_e_go, pm_e_i, pm_e_ii, pm_e_ldi, pm_e_ldr, pm_e_lk, pm_e_r, pm_e_rm0, pm_e_rm1, pm_e_rs0, pm_e_rs1, pm_e_wp0, pm_e_wp1, pm_f2, pm_f3, pm_fld, pm_fv, pm_obj, pm_recv, pm_s_aload_n, pm_s_getfield, pm_s_goto, pm_s_iconst, pm_s_ifCond_eq, pm_s_ifCond_ne, pm_s_iload, pm_s_iload_n, pm_s_invokevirtual, pm_s_ior, pm_s_ireturn, pm_s_ishl, pm_s_istore, pm_s_putfield, ct_X3_endsBy, pS, pR, pC, pE, pL, -Int32.not_le, -Int32.not_lt, -Int64.not_le, -Int64.not_lt, -List.getD_eq_getElem?_getD, sx_28, m6, pb_eq0]
      rw [edn]
      refine ⟨fun hs => ?_, fun hs => ?_⟩
      · refine h60 M1 false q1 hD1 (fun M2 r1 r2 => ?_)
        rw [← hS'] at r1
        refine hT2 hnd M2 Z ?_ (SrX.mv hZ1 r2 (by decide)) r1 ((f1'.mono (by decide)).trans (r2.mono (by decide)))
        exact hC.old hi' (by rw [e8, e8', hS', hTT]; exact hnd) (Or.inl hs)
      · refine ⟨P, m, zn Z, zR Z, zp Z, zm Z, zs Z, ec, T, i, 8 * a + b, rfl, rfl, by omega, by omega, hZ1, q1, hwT, fun hm M2 g => ?_, fun hm hn M2 g1 g2 => ?_, fun hm hn M2 g1 g2 => ?_⟩
        · simp (maxSteps := 2000000) [bk_X3_endsBy_0, bk_X3_endsBy_46, bk_X3_endsBy_60, pm_call, pm_e_c0, pm_e_c1, pm_e_cti, pm_e_ctl, pm_e_ctr, pm_e_go, pm_e_i, pm_e_ii, pm_e_ldi, pm_e_ldr, pm_e_lk, pm_e_r, pm_e_rm0, pm_e_rm1, pm_e_rs0, pm_e_rs1, pm_e_wp0, pm_e_wp1, pm_f2, pm_f3, pm_fld, pm_fv, pm_obj, pm_recv, pm_s_aload_n, pm_s_getfield, pm_s_goto, pm_s_iconst, pm_s_ifCond_eq, pm_s_ifCond_ne, pm_s_iload, pm_s_iload_n, pm_s_invokevirtual, pm_s_ior, pm_s_ireturn, pm_s_ishl, pm_s_istore, pm_s_putfield, ct_X3_endsBy, pS, pR, pC, pE, pL, -Int32.not_le, -Int32.not_lt, -Int64.not_le, -Int64.not_lt, -List.getD_eq_getElem?_getD]
          refine h60 M2 false (q1.m5 g) (hD1.moved g (by decide)) (fun M3 r1 r2 => ?_)
          rw [← hS'] at r1
          refine hT2 hnd M3 Z ?_ ((SrX.mv hZ1 g (by decide)).mv r2 (by decide)) r1 (((f1'.mono (by decide)).trans (g.mono (by decide))).trans (r2.mono (by decide)))
          exact hC.old hi' (by rw [e8, e8', hS', hTT]; exact hnd) (Or.inr (by rw [e8, e8', hS', hTT]; exact hm))
        · simp (maxSteps := 2000000) [bk_X3_endsBy_0, bk_X3_endsBy_46, bk_X3_endsBy_60, pm_call, pm_e_c0, pm_e_c1, pm_e_cti, pm_e_ctl, pm_e_ctr, pm_e_go, pm_e_i, pm_e_ii, pm_e_ldi, pm_e_ldr, pm_e_lk, pm_e_r, pm_e_rm0, pm_e_rm1, pm_e_rs0, pm_e_rs1, pm_e_wp0, pm_e_wp1, pm_f2, pm_f3, pm_fld, pm_fv, pm_obj, pm_recv, pm_s_aload_n, pm_s_getfield, pm_s_goto, pm_s_iconst, pm_s_ifCond_eq, pm_s_ifCond_ne, pm_s_iload, pm_s_iload_n, pm_s_invokevirtual, pm_s_ior, pm_s_ireturn, pm_s_ishl, pm_s_istore, pm_s_putfield, ct_X3_endsBy, pS, pR, pC, pE, pL, -Int32.not_le, -Int32.not_lt, -Int64.not_le, -Int64.not_lt, -List.getD_eq_getElem?_getD]
          refine h60 M2 false (q1.mv g2 (by decide)) (hD1.moved g2 (by decide)) (fun M3 r1 r2 => ?_)
          rw [← hS'] at r1
          refine hT2 hnd M3 (zn Z, zR Z, zp Z, zm Z, zw Z, true) ?_ (SrX.mv g1 r2 (by decide)) r1 (((f1'.mono (by decide)).trans (g2.mono (by decide))).trans (r2.mono (by decide)))
          exact hC.full hP he h0 hi' (by rw [e8, e8', hS']; exact hc) (by rw [e8, e8', hS', hTT]; exact hnd) (by rw [e8, e8', hS', hTT]; exact hm) hn
        · simp (maxSteps := 2000000) [bk_X3_endsBy_0, bk_X3_endsBy_46, bk_X3_endsBy_60, pm_call, pm_e_c0, pm_e_c1, pm_e_cti, pm_e_ctl, pm_e_ctr, pm_e_go, pm_e_i, pm_e_ii, pm_e_ldi, pm_e_ldr, pm_e_lk, pm_e_r, pm_e_rm0, pm_e_rm1, pm_e_rs0, pm_e_rs1, pm_e_wp0, pm_e_wp1, pm_f2, pm_f3, pm_fld, pm_fv, pm_obj, pm_recv, pm_s_aload_n, pm_s_getfield, pm_s_goto, pm_s_iconst, pm_s_ifCond_eq, pm_s_ifCond_ne, pm_s_iload, pm_s_iload_n, pm_s_invokevirtual, pm_s_ior, pm_s_ireturn, pm_s_ishl, pm_s_istore, pm_s_putfield, ct_X3_endsBy, pS, pR, pC, pE, pL, -Int32.not_le, -Int32.not_lt, -Int64.not_le, -Int64.not_lt, -List.getD_eq_getElem?_getD]
          refine h60 M2 false (q1.mv g2 (by decide)) (hD1.moved g2 (by decide)) (fun M3 r1 r2 => ?_)
          have hnw := hC.new hP he h0 hi' hs (by rw [e8, e8', hS']; exact hc) (by rw [e8, e8', hS', hTT]; exact hnd) (by rw [e8, e8', hS', hTT]; exact hm) hn
          rw [e8, e8', hS', hTT] at hnw
          refine hT2 hnd M3 _ hnw ?_ ?_ (((f1'.mono (by decide)).trans (g2.mono (by decide))).trans (r2.mono (by decide)))
          · rw [hs] at g1
            exact SrX.mv g1 r2 (by decide)
          · show SdX M3 32 ec (up (zR Z) (zn Z) T i)
            rw [up_n _ _ (by omega), hS']; exact r1
    · have hdn : dnS P T := hd
      have edn : decide (hoS T = P.1 * P.2.1) = true := decide_eq_true hd
      rw [edn]
      have f2 : pm_fr [28] M1 (pm_set (pm_set M1 28 7 (nI i)) 28 8 (nI (8 * a + b))) := (pm_fr.rfl.set (by decide)).set (by decide)
      refine h60 _ true (q1.moved f2 (by decide)) (hD1.moved f2 (by decide)) (fun M2 r1 r2 => ?_)
      refine hT1 hdn M2 (SrX.mv ((SrX.set78 hZ1 (by decide)).set78 (by decide)) r2 (by decide)) r1 ?_ ?_ (((f1'.mono (by decide)).trans (f2.mono (by decide))).trans (r2.mono (by decide)))
      · rw [r2.i (by decide)]; simp [pm_set]
      · rw [r2.i (by decide)]; simp [pm_set]
  · exact hT.elim
