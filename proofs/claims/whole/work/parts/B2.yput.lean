def tyF (t : Nat) (M M' : pm_M) : Prop := yfr [10, 11, 12, 13, 19, 22, 23, 24, 25] [22] M M' ∧ ∀ u, u ≠ t → M'.1 22 u = M.1 22 u ∧ M'.1 23 u = M.1 23 u ∧ ∀ j, j < 32 → M'.1 24 (32 * u + j) = M.1 24 (32 * u + j)
theorem tyF.rfl {t : Nat} {M : pm_M} : tyF t M M := ⟨yfr.rfl, fun _ _ => ⟨Eq.refl _, Eq.refl _, fun _ _ => Eq.refl _⟩⟩
theorem tyF.s22 {t : Nat} {M M' : pm_M} (h : tyF t M M') (v : Int32) : tyF t M (pm_set M' 22 t v) := ⟨h.1.set (by decide) (by decide), fun u hu => ⟨by rw [me_1s, if_neg hu]; exact (h.2 u hu).1, by rw [me_1, if_neg (by omega)]; exact (h.2 u hu).2.1, fun j hj => by rw [me_1, if_neg (by omega)]; exact (h.2 u hu).2.2 j hj⟩⟩
theorem tyF.s23 {t : Nat} {M M' : pm_M} (h : tyF t M M') (v : Int32) : tyF t M (pm_set M' 23 t v) := ⟨h.1.set (by decide) (by decide), fun u hu => ⟨by rw [me_1, if_neg (by omega)]; exact (h.2 u hu).1, by rw [me_1s, if_neg hu]; exact (h.2 u hu).2.1, fun j hj => by rw [me_1, if_neg (by omega)]; exact (h.2 u hu).2.2 j hj⟩⟩
theorem tyF.s24 {t j : Nat} {M M' : pm_M} (h : tyF t M M') (hj : j < 32) (v : Int32) : tyF t M (pm_set M' 24 (32 * t + j) v) := ⟨h.1.set (by decide) (by decide), fun u hu => ⟨by rw [me_1, if_neg (by omega)]; exact (h.2 u hu).1, by rw [me_1, if_neg (by omega)]; exact (h.2 u hu).2.1, fun i hi => by rw [me_1, if_neg (by omega)]; exact (h.2 u hu).2.2 i hi⟩⟩
theorem tyF.y {t : Nat} {M M' M'' : pm_M} (h : tyF t M M') (hf : yfr [10, 11, 12, 13, 19, 25] [22] M' M'') : tyF t M M'' := ⟨h.1.trans (hf.mono (by decide) (by decide)), fun u hu => ⟨by rw [hf.i (by decide) (by decide)]; exact (h.2 u hu).1, by rw [hf.i (by decide) (by decide)]; exact (h.2 u hu).2.1, fun j hj => by rw [hf.i (by decide) (by decide)]; exact (h.2 u hu).2.2 j hj⟩⟩
def tR (M : pm_M) (t : Nat) (L : List Nat) : Prop := M.1 23 t = nI L.length ∧ ∀ j, j < L.length → M.1 24 (32 * t + j) = nI (L.getD j 0)
theorem tR.app {M : pm_M} {t v : Nat} {L : List Nat} (h : tR M t L) : tR (pm_set (pm_set M 23 t (nI (L.length + 1))) 24 (32 * t + L.length) (nI v)) t (L ++ [v]) := by
  refine ⟨?_, fun j hj => ?_⟩
  · rw [me_1, if_neg (by omega), me_1s, if_pos rfl]; simp
  · rw [me_1s]
    rw [List.length_append, List.length_singleton] at hj
    by_cases z : j = L.length
    · rw [if_pos (by omega), z]; simp [List.getD_eq_getElem?_getD]
    · rw [if_neg (by omega), me_1, if_neg (by omega), h.2 j (by omega)]
      congr 1
      rw [List.getD_eq_getElem?_getD, List.getD_eq_getElem?_getD, List.getElem?_append_left (by omega)]
theorem MY.tray {M M' : pm_M} {A : Ab} {t : Nat} {T : Nat × Nat × List Nat} (h : MY M A) (hO : okA A) (hf : tyF t M M') (hT : TrY M' t T) : MY M' (aP A, aS A, aL A, aW A, aH A, aPr A, aLa A, aPl A, up (aT A) t T, aQ A) := by
  obtain ⟨hD, hS, hL, h5', h7', hH, hPl, hTr, hQ⟩ := h
  refine ⟨hD.mv hf.1 (by decide), hS.mv hf.1 (by decide) (by decide), hL.mv hf.1 (by decide), by rw [hf.1.f (by decide)]; exact h5', by rw [hf.1.f (by decide)]; exact h7', hH.mv hf.1 (by decide) (by decide), hPl.mv hf.1 (by decide) (by decide), fun u hu => ?_, by rw [hf.1.f (by decide)]; exact hQ⟩
  show TrY M' u (up (aT A) t T u)
  by_cases z : u = t
  · rw [z, up_s]; exact hT
  · rw [up_n _ _ z]
    obtain ⟨a, b, c⟩ := hTr u hu
    obtain ⟨f1, f2, f3⟩ := hf.2 u z
    have o := (hO.2.2.2.2.2.2.2.1 u hu).2.2.1
    exact ⟨by rw [f1]; exact a, by rw [f2]; exact b, fun j hj => by rw [f3 j (by omega)]; exact c j hj⟩
theorem okA.tray {A : Ab} (h : okA A) {t : Nat} {T : Nat × Nat × List Nat} (hT : okT T) : okA (aP A, aS A, aL A, aW A, aH A, aPr A, aLa A, aPl A, up (aT A) t T, aQ A) := by
  obtain ⟨a, b, c, d, e, f, g, i, j⟩ := h
  refine ⟨a, b, c, d, e, f, g, fun u hu => ?_, j⟩
  show okT (up (aT A) t T u)
  by_cases z : u = t
  · rw [z, up_s]; exact hT
  · rw [up_n _ _ z]; exact i u hu
theorem cdOK_n {P : Pm} (hP : okP P) {c : Nat} (hc : c < 32) : cdOK P (nI c) = (decide (c / 8 < pS P) && (decide (1 ≤ c % 8) && decide (c % 8 ≤ pR P))) := by
  have h1 := hP.1
  have h2 := hP.2.1
  have h3 := hP.2.2.2.1
  rw [← cd_iff hP, sh3 (by omega), ni_a7 (by omega), ni_sub h1, wi_n (by omega) (by omega) (by omega), wi_n (by omega) (by omega) (by omega)]
  congr 1
  rw [decide_eq_true (show 0 ≤ c / 8 by omega), Bool.true_and]
  exact decide_eq_decide.mpr (by omega)
theorem truL_take {P : Pm} {S : St} {c : Nat} (h : c < 32) : (truL P S).take (c + 1) = (truL P S).take c ++ [if c / 8 < pS P ∧ 1 ≤ c % 8 ∧ c % 8 ≤ S.2.2 (c / 8) ∧ c % 8 ≤ 6 then 1 else 0] := by
  unfold truL
  rw [List.take_succ, List.getElem?_map, List.getElem?_range h]; rfl
def tt_X7_put : pm_T := fun args M k => match args with
  | [.ref 0, .int x, .int y, .int z] => ∃ A, okA A ∧ MY M A ∧ ∀ M', MY M' (fPut A x y z).2 → k (some (.int (fPut A x y z).1)) M'
  | _ => False
abbrev ct_X7_put : List pm_C := [(true, 111, 7, 3, (some .boolean), tt_X7_in), (false, 250, 7, 2, (some .int), tt_X7_refused), (false, 244, 7, 1, (some .int), tt_X7_tells), (false, 144, 7, 2, (some .boolean), tt_X7_isCode), (false, 253, 7, 2, (some .int), tt_X7_fine)]
set_option maxHeartbeats 4000000 in
theorem sm_X7_put  : pm_Sem SHy yX7_put cX7_put 7 (some .int) 4 tt_X7_put := by
  refine pm_Sem_intro bl_X7_put ct_X7_put cs_X7_put rfl (List.forall_mem_cons.mpr ⟨⟨_, _, _, _, sm_X7_in, by decide, cm_X7_in, by decide +kernel⟩, List.forall_mem_cons.mpr ⟨⟨_, _, _, _, sm_X7_refused, by decide, cm_X7_refused, by decide +kernel⟩, List.forall_mem_cons.mpr ⟨⟨_, _, _, _, sm_X7_tells, by decide, cm_X7_tells, by decide +kernel⟩, List.forall_mem_cons.mpr ⟨⟨_, _, _, _, sm_X7_isCode, by decide, cm_X7_isCode, by decide +kernel⟩, List.forall_mem_cons.mpr ⟨⟨_, _, _, _, sm_X7_fine, by decide, cm_X7_fine, by decide +kernel⟩, fun _ h => absurd h List.not_mem_nil⟩⟩⟩⟩⟩) ck_X7_put (by decide +kernel) (by decide) ?_
  intro X k hX args M hT
  have hb0 := hX 0 bk_X7_put_0 (List.mem_of_getElem? (i := 0) rfl)
  have hb37 := hX 37 bk_X7_put_37 (List.mem_of_getElem? (i := 1) rfl)
  have hb43 := hX 43 bk_X7_put_43 (List.mem_of_getElem? (i := 2) rfl)
  have hb96 := hX 96 bk_X7_put_96 (List.mem_of_getElem? (i := 3) rfl)
  have hb109 := hX 109 bk_X7_put_109 (List.mem_of_getElem? (i := 4) rfl)
  have hb112 := hX 112 bk_X7_put_112 (List.mem_of_getElem? (i := 5) rfl)
  have hb160 := hX 160 bk_X7_put_160 (List.mem_of_getElem? (i := 6) rfl)
  have hb163 := hX 163 bk_X7_put_163 (List.mem_of_getElem? (i := 7) rfl)
  have hb172 := hX 172 bk_X7_put_172 (List.mem_of_getElem? (i := 8) rfl)
  have hb211 := hX 211 bk_X7_put_211 (List.mem_of_getElem? (i := 9) rfl)
  have hb214 := hX 214 bk_X7_put_214 (List.mem_of_getElem? (i := 10) rfl)
  have hb217 := hX 217 bk_X7_put_217 (List.mem_of_getElem? (i := 11) rfl)
  have hb272 := hX 272 bk_X7_put_272 (List.mem_of_getElem? (i := 12) rfl)
  have hb273 := hX 273 bk_X7_put_273 (List.mem_of_getElem? (i := 13) rfl)
  have hb280 := hX 280 bk_X7_put_280 (List.mem_of_getElem? (i := 14) rfl)
  have hb283 := hX 283 bk_X7_put_283 (List.mem_of_getElem? (i := 15) rfl)
  clear hX
  unfold tt_X7_put at hT; split at hT
  · next x y z =>
    obtain ⟨A, hA, hM, hT⟩ := hT
    have hP := hA.1
    have hW := hA.wf
    have m2 := hM.1.2.2.2.1
    have hC4 := hP.2.2.2.2.2.2.1
    unfold fPut at hT
    refine ⟨by simp [lg_sl, Value.category], ?_⟩
    have bad : (wi x (nI 0) (nI 5) && wi y (nI 0) (nI 4) && (!decide (y = nI 2) || colOK (aP A) z)) = false → X 37 [(0, .ref 0)] [] M := by
      intro hf
      rw [hf] at hT
      refine hb37 _ _ _ ?_
      simp (maxSteps := 2000000) [bk_X7_put_0, bk_X7_put_37, bk_X7_put_43, bk_X7_put_96, bk_X7_put_109, bk_X7_put_112, bk_X7_put_160, bk_X7_put_163, bk_X7_put_172, bk_X7_put_211, bk_X7_put_214, bk_X7_put_217, bk_X7_put_272, bk_X7_put_273, bk_X7_put_280, bk_X7_put_283, pm_arr, pm_call, pm_e_c0, pm_e_c1, pm_e_cti, pm_e_ctl, pm_e_ctr, pm_e_go, pm_e_i, pm_e_ii, pm_e_ldi, pm_e_ldr, pm_e_lk, pm_e_r, pm_e_ri, pm_e_rii, pm_e_rm0, pm_e_rm1, pm_e_rs0, pm_e_rs1, pm_e_sw0, pm_e_sw1, pm_e_v2, pm_e_v3, pm_e_wp0, pm_e_wp1, pm_f2, pm_f3, pm_fld, pm_fv, pm_obj, pm_recv, pm_s_aload_n, pm_s_bipush, pm_s_dup2, pm_s_dup_x2, pm_s_getfield, pm_s_goto, pm_s_iadd, pm_s_iaload, pm_s_iand, pm_s_iastore, pm_s_iconst, pm_s_ifCond_eq, pm_s_ifCond_ne, pm_s_if_icmp_ge, pm_s_if_icmp_lt, pm_s_if_icmp_ne, pm_s_iinc, pm_s_iload, pm_s_iload_n, pm_s_imul, pm_s_invokestatic, pm_s_invokevirtual, pm_s_ireturn, pm_s_ishr, pm_s_istore, pm_s_isub, pm_s_tableswitch, ct_X7_put, tt_X7_in, tt_X7_refused, tt_X7_fine, pS, pR, pC, pE, pL, -Int32.not_le, -Int32.not_lt, -Int64.not_le, -Int64.not_lt, -List.getD_eq_getElem?_getD, sy_0]
      exact hT _ (hM.setQ (yfr.rfl.set0 (by decide)) (by simp [pm_set]))
    have good : (wi x (nI 0) (nI 5) && wi y (nI 0) (nI 4) && (!decide (y = nI 2) || colOK (aP A) z)) = true → X 43 [(0, .ref 0), (1, .int x), (2, .int y), (3, .int z)] [] M := by
      intro hb
      rw [hb] at hT
      simp only [if_true] at hT
      simp only [Bool.and_eq_true, Bool.or_eq_true, Bool.not_eq_true', decide_eq_false_iff_not] at hb
      obtain ⟨⟨q1, q2⟩, q3⟩ := hb
      obtain ⟨x1, x2, x3⟩ := wi_tn (by decide) (by decide) q1
      obtain ⟨y1, y2, y3⟩ := wi_tn (by decide) (by decide) q2
      have q4 : tn y = 2 → z = nI (tn z) ∧ tn z < pC (aP A) := fun e => colOK_e hP (q3.resolve_left (fun n => n (by rw [y1, e])))
      generalize tn x = t at *
      generalize tn y = w at *
      subst x1 y1
      have h283 : ∀ M', TrY M' t (thg A w (tn z)) → tyF t M M' → X 283 [(0, .ref 0)] [] M' := by
        intro M' g1 g2
        have g3 := hM.tray hA g2 g1
        refine hb283 _ _ _ ?_
        simp (maxSteps := 2000000) [bk_X7_put_0, bk_X7_put_37, bk_X7_put_43, bk_X7_put_96, bk_X7_put_109, bk_X7_put_112, bk_X7_put_160, bk_X7_put_163, bk_X7_put_172, bk_X7_put_211, bk_X7_put_214, bk_X7_put_217, bk_X7_put_272, bk_X7_put_273, bk_X7_put_280, bk_X7_put_283, pm_arr, pm_call, pm_e_c0, pm_e_c1, pm_e_cti, pm_e_ctl, pm_e_ctr, pm_e_go, pm_e_i, pm_e_ii, pm_e_ldi, pm_e_ldr, pm_e_lk, pm_e_r, pm_e_ri, pm_e_rii, pm_e_rm0, pm_e_rm1, pm_e_rs0, pm_e_rs1, pm_e_sw0, pm_e_sw1, pm_e_v2, pm_e_v3, pm_e_wp0, pm_e_wp1, pm_f2, pm_f3, pm_fld, pm_fv, pm_obj, pm_recv, pm_s_aload_n, pm_s_bipush, pm_s_dup2, pm_s_dup_x2, pm_s_getfield, pm_s_goto, pm_s_iadd, pm_s_iaload, pm_s_iand, pm_s_iastore, pm_s_iconst, pm_s_ifCond_eq, pm_s_ifCond_ne, pm_s_if_icmp_ge, pm_s_if_icmp_lt, pm_s_if_icmp_ne, pm_s_iinc, pm_s_iload, pm_s_iload_n, pm_s_imul, pm_s_invokestatic, pm_s_invokevirtual, pm_s_ireturn, pm_s_ishr, pm_s_istore, pm_s_isub, pm_s_tableswitch, ct_X7_put, tt_X7_in, tt_X7_refused, tt_X7_fine, pS, pR, pC, pE, pL, -Int32.not_le, -Int32.not_lt, -Int64.not_le, -Int64.not_lt, -List.getD_eq_getElem?_getD, sy_0]
        exact hT _ (g3.setQ (q := 0) (yfr.rfl.set0 (by decide)) (by simp [pm_set]))
      have f1 : tyF t M (pm_set (pm_set M 22 t (nI w)) 23 t (nI 0)) := (tyF.rfl.s22 _).s23 _
      have g1 : (pm_set (pm_set M 22 t (nI w)) 23 t (nI 0)).1 22 t = nI w := by rw [me_1, if_neg (by omega), me_1s, if_pos rfl]
      have g2 : tR (pm_set (pm_set M 22 t (nI w)) 23 t (nI 0)) t [] := ⟨by rw [me_1s, if_pos rfl]; rfl, fun j hj => absurd hj (by simp)⟩
      refine hb43 _ _ _ ?_
      simp (maxSteps := 2000000) [bk_X7_put_0, bk_X7_put_37, bk_X7_put_43, bk_X7_put_96, bk_X7_put_109, bk_X7_put_112, bk_X7_put_160, bk_X7_put_163, bk_X7_put_172, bk_X7_put_211, bk_X7_put_214, bk_X7_put_217, bk_X7_put_272, bk_X7_put_273, bk_X7_put_280, bk_X7_put_283, pm_arr, pm_call, pm_e_c0, pm_e_c1, pm_e_cti, pm_e_ctl, pm_e_ctr, pm_e_go, pm_e_i, pm_e_ii, pm_e_ldi, pm_e_ldr, pm_e_lk, pm_e_r, pm_e_ri, pm_e_rii, pm_e_rm0, pm_e_rm1, pm_e_rs0, pm_e_rs1, pm_e_sw0, pm_e_sw1, pm_e_v2, pm_e_v3, pm_e_wp0, pm_e_wp1, pm_f2, pm_f3, pm_fld, pm_fv, pm_obj, pm_recv, pm_s_aload_n, pm_s_bipush, pm_s_dup2, pm_s_dup_x2, pm_s_getfield, pm_s_goto, pm_s_iadd, pm_s_iaload, pm_s_iand, pm_s_iastore, pm_s_iconst, pm_s_ifCond_eq, pm_s_ifCond_ne, pm_s_if_icmp_ge, pm_s_if_icmp_lt, pm_s_if_icmp_ne, pm_s_iinc, pm_s_iload, pm_s_iload_n, pm_s_imul, pm_s_invokestatic, pm_s_invokevirtual, pm_s_ireturn, pm_s_ishr, pm_s_istore, pm_s_isub, pm_s_tableswitch, ct_X7_put, tt_X7_in, tt_X7_refused, tt_X7_fine, pS, pR, pC, pE, pL, -Int32.not_le, -Int32.not_lt, -Int64.not_le, -Int64.not_lt, -List.getD_eq_getElem?_getD, sy_0, sy_22, sy_23]
      rw [ni_in (by omega), ni_cl (by omega), ni_mul, nI_toInt (by omega)]
      refine ⟨by omega, ?_⟩
      generalize pm_set (pm_set M 22 t (nI w)) 23 t (nI 0) = M1 at *
      -- a list more
      have fin : ∀ (M2 : pm_M) (L : List Nat), thg A w (tn z) = (w, 0, L) → w ≠ 1 → tR M2 t L → M2.1 22 t = nI w → tyF t M M2 → X 283 [(0, .ref 0)] [] M2 := by
        intro M2 L e1 e2 r2 e22 f2
        refine h283 M2 ?_ f2
        rw [e1]
        exact ⟨e22, by rw [if_neg e2]; exact r2.1, r2.2⟩
      rcases (show w = 0 ∨ w = 1 ∨ w = 2 ∨ w = 3 ∨ w = 4 by omega) with rfl | rfl | rfl | rfl | rfl
      · simp
        exact fin M1 [] rfl (by decide) g2 g1 f1
      · simp
        refine hb96 _ _ _ ?_
        have m4 : M1.1 0 4 = nI (pL (aP A)) := by rw [f1.1.f (by decide)]; exact hM.1.2.2.2.2.2
        simp (maxSteps := 2000000) [bk_X7_put_0, bk_X7_put_37, bk_X7_put_43, bk_X7_put_96, bk_X7_put_109, bk_X7_put_112, bk_X7_put_160, bk_X7_put_163, bk_X7_put_172, bk_X7_put_211, bk_X7_put_214, bk_X7_put_217, bk_X7_put_272, bk_X7_put_273, bk_X7_put_280, bk_X7_put_283, pm_arr, pm_call, pm_e_c0, pm_e_c1, pm_e_cti, pm_e_ctl, pm_e_ctr, pm_e_go, pm_e_i, pm_e_ii, pm_e_ldi, pm_e_ldr, pm_e_lk, pm_e_r, pm_e_ri, pm_e_rii, pm_e_rm0, pm_e_rm1, pm_e_rs0, pm_e_rs1, pm_e_sw0, pm_e_sw1, pm_e_v2, pm_e_v3, pm_e_wp0, pm_e_wp1, pm_f2, pm_f3, pm_fld, pm_fv, pm_obj, pm_recv, pm_s_aload_n, pm_s_bipush, pm_s_dup2, pm_s_dup_x2, pm_s_getfield, pm_s_goto, pm_s_iadd, pm_s_iaload, pm_s_iand, pm_s_iastore, pm_s_iconst, pm_s_ifCond_eq, pm_s_ifCond_ne, pm_s_if_icmp_ge, pm_s_if_icmp_lt, pm_s_if_icmp_ne, pm_s_iinc, pm_s_iload, pm_s_iload_n, pm_s_imul, pm_s_invokestatic, pm_s_invokevirtual, pm_s_ireturn, pm_s_ishr, pm_s_istore, pm_s_isub, pm_s_tableswitch, ct_X7_put, tt_X7_in, tt_X7_refused, tt_X7_fine, pS, pR, pC, pE, pL, -Int32.not_le, -Int32.not_lt, -Int64.not_le, -Int64.not_lt, -List.getD_eq_getElem?_getD, sy_0, sy_23, m4]
        rw [ni_in (by omega), ni_cl (by omega)]
        refine ⟨by omega, h283 _ ⟨?_, ?_, fun j hj => ?_⟩ (f1.s23 _)⟩
        · rw [me_1, if_neg (by omega)]; exact g1
        · rw [me_1s, if_pos rfl]; rfl
        · simp [thg] at hj
      · simp
        obtain ⟨z1, z2⟩ := q4 rfl
        generalize tn z = c at *
        subst z1
        have lS := WF.l12 hP hW c (by omega)
        have S1 : SdY M1 2 0 (pR (aP A)) (aS A) := hM.2.1.mv f1.1 (by decide) (by decide)
        have loop : ∀ (f i : Nat) (M2 : pm_M), ((aS A).1 c).length ≤ i + f → i ≤ ((aS A).1 c).length → tR M2 t ((((aS A).1 c).take i).map (cdN (pR (aP A)))) → M2.1 22 t = nI 2 → tyF t M M2 → X 112 [(0, .ref 0), (1, .int (nI t)), (3, .int (nI c)), (4, .int (nI (32 * t))), (5, .int (nI i))] [] M2 := by
          intro f
          have stop : ∀ (M2 : pm_M), tR M2 t (((aS A).1 c).map (cdN (pR (aP A)))) → M2.1 22 t = nI 2 → tyF t M M2 → X 112 [(0, .ref 0), (1, .int (nI t)), (3, .int (nI c)), (4, .int (nI (32 * t))), (5, .int (nI ((aS A).1 c).length))] [] M2 := by
            intro M2 r2 e22 f2
            have S2 : SdY M2 2 0 (pR (aP A)) (aS A) := hM.2.1.mv f2.1 (by decide) (by decide)
            have n2 := S2.n (show c < 4 by omega)
            refine hb112 _ _ _ ?_
            simp (maxSteps := 2000000) [bk_X7_put_0, bk_X7_put_37, bk_X7_put_43, bk_X7_put_96, bk_X7_put_109, bk_X7_put_112, bk_X7_put_160, bk_X7_put_163, bk_X7_put_172, bk_X7_put_211, bk_X7_put_214, bk_X7_put_217, bk_X7_put_272, bk_X7_put_273, bk_X7_put_280, bk_X7_put_283, pm_arr, pm_call, pm_e_c0, pm_e_c1, pm_e_cti, pm_e_ctl, pm_e_ctr, pm_e_go, pm_e_i, pm_e_ii, pm_e_ldi, pm_e_ldr, pm_e_lk, pm_e_r, pm_e_ri, pm_e_rii, pm_e_rm0, pm_e_rm1, pm_e_rs0, pm_e_rs1, pm_e_sw0, pm_e_sw1, pm_e_v2, pm_e_v3, pm_e_wp0, pm_e_wp1, pm_f2, pm_f3, pm_fld, pm_fv, pm_obj, pm_recv, pm_s_aload_n, pm_s_bipush, pm_s_dup2, pm_s_dup_x2, pm_s_getfield, pm_s_goto, pm_s_iadd, pm_s_iaload, pm_s_iand, pm_s_iastore, pm_s_iconst, pm_s_ifCond_eq, pm_s_ifCond_ne, pm_s_if_icmp_ge, pm_s_if_icmp_lt, pm_s_if_icmp_ne, pm_s_iinc, pm_s_iload, pm_s_iload_n, pm_s_imul, pm_s_invokestatic, pm_s_invokevirtual, pm_s_ireturn, pm_s_ishr, pm_s_istore, pm_s_isub, pm_s_tableswitch, ct_X7_put, tt_X7_in, tt_X7_refused, tt_X7_fine, pS, pR, pC, pE, pL, -Int32.not_le, -Int32.not_lt, -Int64.not_le, -Int64.not_lt, -List.getD_eq_getElem?_getD, sy_0, sy_2]
            rw [ni_in (by omega), ni_cl (by omega), n2]
            refine ⟨by omega, fun _ => ?_, fun q => absurd (Int32.le_refl _) q⟩
            refine hb160 _ _ _ ?_
            simp (maxSteps := 2000000) [bk_X7_put_0, bk_X7_put_37, bk_X7_put_43, bk_X7_put_96, bk_X7_put_109, bk_X7_put_112, bk_X7_put_160, bk_X7_put_163, bk_X7_put_172, bk_X7_put_211, bk_X7_put_214, bk_X7_put_217, bk_X7_put_272, bk_X7_put_273, bk_X7_put_280, bk_X7_put_283, pm_arr, pm_call, pm_e_c0, pm_e_c1, pm_e_cti, pm_e_ctl, pm_e_ctr, pm_e_go, pm_e_i, pm_e_ii, pm_e_ldi, pm_e_ldr, pm_e_lk, pm_e_r, pm_e_ri, pm_e_rii, pm_e_rm0, pm_e_rm1, pm_e_rs0, pm_e_rs1, pm_e_sw0, pm_e_sw1, pm_e_v2, pm_e_v3, pm_e_wp0, pm_e_wp1, pm_f2, pm_f3, pm_fld, pm_fv, pm_obj, pm_recv, pm_s_aload_n, pm_s_bipush, pm_s_dup2, pm_s_dup_x2, pm_s_getfield, pm_s_goto, pm_s_iadd, pm_s_iaload, pm_s_iand, pm_s_iastore, pm_s_iconst, pm_s_ifCond_eq, pm_s_ifCond_ne, pm_s_if_icmp_ge, pm_s_if_icmp_lt, pm_s_if_icmp_ne, pm_s_iinc, pm_s_iload, pm_s_iload_n, pm_s_imul, pm_s_invokestatic, pm_s_invokevirtual, pm_s_ireturn, pm_s_ishr, pm_s_istore, pm_s_isub, pm_s_tableswitch, ct_X7_put, tt_X7_in, tt_X7_refused, tt_X7_fine, pS, pR, pC, pE, pL, -Int32.not_le, -Int32.not_lt, -Int64.not_le, -Int64.not_lt, -List.getD_eq_getElem?_getD]
            exact fin M2 _ rfl (by decide) r2 e22 f2
          induction f with
          | zero =>
            intro i M2 a1 a2 r2 e22 f2
            have e : i = ((aS A).1 c).length := by omega
            rw [e, List.take_length] at r2
            rw [e]; exact stop M2 r2 e22 f2
          | succ f ih =>
            intro i M2 a1 a2 r2 e22 f2
            by_cases hi : i < ((aS A).1 c).length
            · have S2 : SdY M2 2 0 (pR (aP A)) (aS A) := hM.2.1.mv f2.1 (by decide) (by decide)
              have n2 := S2.n (show c < 4 by omega)
              have c2 := S2.c (show c < 4 by omega) hi
              have el : ((((aS A).1 c).take i).map (cdN (pR (aP A)))).length = i := by simp; omega
              have t2 : M2.1 23 t = nI i := by have := r2.1; rwa [el] at this
              refine hb112 _ _ _ ?_
              simp (maxSteps := 2000000) [bk_X7_put_0, bk_X7_put_37, bk_X7_put_43, bk_X7_put_96, bk_X7_put_109, bk_X7_put_112, bk_X7_put_160, bk_X7_put_163, bk_X7_put_172, bk_X7_put_211, bk_X7_put_214, bk_X7_put_217, bk_X7_put_272, bk_X7_put_273, bk_X7_put_280, bk_X7_put_283, pm_arr, pm_call, pm_e_c0, pm_e_c1, pm_e_cti, pm_e_ctl, pm_e_ctr, pm_e_go, pm_e_i, pm_e_ii, pm_e_ldi, pm_e_ldr, pm_e_lk, pm_e_r, pm_e_ri, pm_e_rii, pm_e_rm0, pm_e_rm1, pm_e_rs0, pm_e_rs1, pm_e_sw0, pm_e_sw1, pm_e_v2, pm_e_v3, pm_e_wp0, pm_e_wp1, pm_f2, pm_f3, pm_fld, pm_fv, pm_obj, pm_recv, pm_s_aload_n, pm_s_bipush, pm_s_dup2, pm_s_dup_x2, pm_s_getfield, pm_s_goto, pm_s_iadd, pm_s_iaload, pm_s_iand, pm_s_iastore, pm_s_iconst, pm_s_ifCond_eq, pm_s_ifCond_ne, pm_s_if_icmp_ge, pm_s_if_icmp_lt, pm_s_if_icmp_ne, pm_s_iinc, pm_s_iload, pm_s_iload_n, pm_s_imul, pm_s_invokestatic, pm_s_invokevirtual, pm_s_ireturn, pm_s_ishr, pm_s_istore, pm_s_isub, pm_s_tableswitch, ct_X7_put, tt_X7_in, tt_X7_refused, tt_X7_fine, pS, pR, pC, pE, pL, -Int32.not_le, -Int32.not_lt, -Int64.not_le, -Int64.not_lt, -List.getD_eq_getElem?_getD, sy_0, sy_2, sy_3, sy_23, sy_24]
              rw [ni_in (n := 4) (by omega), ni_cl (a := c) (by omega), n2, ni_le (by omega) (by omega), ni_in (n := 6) (by omega), ni_cl (a := t) (by omega), t2, ni_add, ni_add, ni_mul, ni_add, ni_in (n := 48) (by omega), ni_in (n := 192) (by omega), ni_cl (a := 12 * c + i) (by omega), ni_cl (a := 32 * t + i) (by omega)]
              refine ⟨by omega, fun q => by omega, fun _ => ⟨by omega, by omega, by omega, ?_⟩⟩
              rw [me_1, if_neg (by omega), c2]
              have r3 := r2.app (v := cdN (pR (aP A)) (((aS A).1 c).getD i 0))
              rw [el] at r3
              have ea : (((aS A).1 c).take i).map (cdN (pR (aP A))) ++ [cdN (pR (aP A)) (((aS A).1 c).getD i 0)] = (((aS A).1 c).take (i + 1)).map (cdN (pR (aP A))) := by
                rw [List.take_succ, List.map_append, List.getElem?_eq_getElem hi, List.getD_eq_getElem?_getD, List.getElem?_eq_getElem hi]; simp
              rw [ea] at r3
              exact ih (i + 1) _ (by omega) (by omega) r3 (by rw [me_1, if_neg (by omega), me_1, if_neg (by omega)]; exact e22) ((f2.s23 _).s24 (by omega) _)
            · have e : i = ((aS A).1 c).length := by omega
              rw [e, List.take_length] at r2
              rw [e]; exact stop M2 r2 e22 f2
        refine hb109 _ _ _ ?_
        simp (maxSteps := 2000000) [bk_X7_put_0, bk_X7_put_37, bk_X7_put_43, bk_X7_put_96, bk_X7_put_109, bk_X7_put_112, bk_X7_put_160, bk_X7_put_163, bk_X7_put_172, bk_X7_put_211, bk_X7_put_214, bk_X7_put_217, bk_X7_put_272, bk_X7_put_273, bk_X7_put_280, bk_X7_put_283, pm_arr, pm_call, pm_e_c0, pm_e_c1, pm_e_cti, pm_e_ctl, pm_e_ctr, pm_e_go, pm_e_i, pm_e_ii, pm_e_ldi, pm_e_ldr, pm_e_lk, pm_e_r, pm_e_ri, pm_e_rii, pm_e_rm0, pm_e_rm1, pm_e_rs0, pm_e_rs1, pm_e_sw0, pm_e_sw1, pm_e_v2, pm_e_v3, pm_e_wp0, pm_e_wp1, pm_f2, pm_f3, pm_fld, pm_fv, pm_obj, pm_recv, pm_s_aload_n, pm_s_bipush, pm_s_dup2, pm_s_dup_x2, pm_s_getfield, pm_s_goto, pm_s_iadd, pm_s_iaload, pm_s_iand, pm_s_iastore, pm_s_iconst, pm_s_ifCond_eq, pm_s_ifCond_ne, pm_s_if_icmp_ge, pm_s_if_icmp_lt, pm_s_if_icmp_ne, pm_s_iinc, pm_s_iload, pm_s_iload_n, pm_s_imul, pm_s_invokestatic, pm_s_invokevirtual, pm_s_ireturn, pm_s_ishr, pm_s_istore, pm_s_isub, pm_s_tableswitch, ct_X7_put, tt_X7_in, tt_X7_refused, tt_X7_fine, pS, pR, pC, pE, pL, -Int32.not_le, -Int32.not_lt, -Int64.not_le, -Int64.not_lt, -List.getD_eq_getElem?_getD]
        exact loop ((aS A).1 c).length 0 M1 (by omega) (by omega) g2 g1 f1
      · simp
        have hA1 := hA.tray (t := t) (T := (3, 0, [])) ⟨by decide, by decide, by decide, fun x hx => by cases hx⟩
        have hM1 := hM.tray hA f1 (T := (3, 0, [])) ⟨g1, g2.1, g2.2⟩
        refine hb163 _ _ _ ?_
        simp (maxSteps := 2000000) [bk_X7_put_0, bk_X7_put_37, bk_X7_put_43, bk_X7_put_96, bk_X7_put_109, bk_X7_put_112, bk_X7_put_160, bk_X7_put_163, bk_X7_put_172, bk_X7_put_211, bk_X7_put_214, bk_X7_put_217, bk_X7_put_272, bk_X7_put_273, bk_X7_put_280, bk_X7_put_283, pm_arr, pm_call, pm_e_c0, pm_e_c1, pm_e_cti, pm_e_ctl, pm_e_ctr, pm_e_go, pm_e_i, pm_e_ii, pm_e_ldi, pm_e_ldr, pm_e_lk, pm_e_r, pm_e_ri, pm_e_rii, pm_e_rm0, pm_e_rm1, pm_e_rs0, pm_e_rs1, pm_e_sw0, pm_e_sw1, pm_e_v2, pm_e_v3, pm_e_wp0, pm_e_wp1, pm_f2, pm_f3, pm_fld, pm_fv, pm_obj, pm_recv, pm_s_aload_n, pm_s_bipush, pm_s_dup2, pm_s_dup_x2, pm_s_getfield, pm_s_goto, pm_s_iadd, pm_s_iaload, pm_s_iand, pm_s_iastore, pm_s_iconst, pm_s_ifCond_eq, pm_s_ifCond_ne, pm_s_if_icmp_ge, pm_s_if_icmp_lt, pm_s_if_icmp_ne, pm_s_iinc, pm_s_iload, pm_s_iload_n, pm_s_imul, pm_s_invokestatic, pm_s_invokevirtual, pm_s_ireturn, pm_s_ishr, pm_s_istore, pm_s_isub, pm_s_tableswitch, ct_X7_put, tt_X7_in, tt_X7_refused, tt_X7_fine, pS, pR, pC, pE, pL, -Int32.not_le, -Int32.not_lt, -Int64.not_le, -Int64.not_lt, -List.getD_eq_getElem?_getD, sy_0]
        refine ⟨_, hA1, hM1, fun M2 r2 f2 => ?_⟩
        have hfr := (frL_ok hP hW).1
        have f2' := f1.y f2
        have r2' : rowIs M2 25 (frL (aP A) (pE (aP A)) (aS A)) := r2
        have g1' : M2.1 22 t = nI 3 := by rw [f2.i (by decide) (by decide)]; exact g1
        have g2' : tR M2 t [] := ⟨by rw [f2.i (by decide) (by decide)]; exact g2.1, fun j hj => absurd hj (by simp)⟩
        simp (maxSteps := 2000000) [bk_X7_put_0, bk_X7_put_37, bk_X7_put_43, bk_X7_put_96, bk_X7_put_109, bk_X7_put_112, bk_X7_put_160, bk_X7_put_163, bk_X7_put_172, bk_X7_put_211, bk_X7_put_214, bk_X7_put_217, bk_X7_put_272, bk_X7_put_273, bk_X7_put_280, bk_X7_put_283, pm_arr, pm_call, pm_e_c0, pm_e_c1, pm_e_cti, pm_e_ctl, pm_e_ctr, pm_e_go, pm_e_i, pm_e_ii, pm_e_ldi, pm_e_ldr, pm_e_lk, pm_e_r, pm_e_ri, pm_e_rii, pm_e_rm0, pm_e_rm1, pm_e_rs0, pm_e_rs1, pm_e_sw0, pm_e_sw1, pm_e_v2, pm_e_v3, pm_e_wp0, pm_e_wp1, pm_f2, pm_f3, pm_fld, pm_fv, pm_obj, pm_recv, pm_s_aload_n, pm_s_bipush, pm_s_dup2, pm_s_dup_x2, pm_s_getfield, pm_s_goto, pm_s_iadd, pm_s_iaload, pm_s_iand, pm_s_iastore, pm_s_iconst, pm_s_ifCond_eq, pm_s_ifCond_ne, pm_s_if_icmp_ge, pm_s_if_icmp_lt, pm_s_if_icmp_ne, pm_s_iinc, pm_s_iload, pm_s_iload_n, pm_s_imul, pm_s_invokestatic, pm_s_invokevirtual, pm_s_ireturn, pm_s_ishr, pm_s_istore, pm_s_isub, pm_s_tableswitch, ct_X7_put, tt_X7_in, tt_X7_refused, tt_X7_fine, pS, pR, pC, pE, pL, -Int32.not_le, -Int32.not_lt, -Int64.not_le, -Int64.not_lt, -List.getD_eq_getElem?_getD]
        show X 172 [(0, .ref 0), (1, .int (nI t)), (4, .int (nI (32 * t))), (5, .int (nI (frL (aP A) (pE (aP A)) (aS A)).length)), (6, .int (nI 0))] [] M2
        clear r2 f2 hA1 hM1 g1 g2 f1
        have e3 : thg A 3 (tn z) = (3, 0, frL (aP A) (pE (aP A)) (aS A)) := rfl
        rw [e3] at fin
        generalize frL (aP A) (pE (aP A)) (aS A) = L at *
        have loop : ∀ (f i : Nat) (M3 : pm_M), L.length ≤ i + f → i ≤ L.length → tR M3 t (L.take i) → rowIs M3 25 L → M3.1 22 t = nI 3 → tyF t M M3 → X 172 [(0, .ref 0), (1, .int (nI t)), (4, .int (nI (32 * t))), (5, .int (nI L.length)), (6, .int (nI i))] [] M3 := by
          intro f
          have stop : ∀ (M3 : pm_M), tR M3 t L → M3.1 22 t = nI 3 → tyF t M M3 → X 172 [(0, .ref 0), (1, .int (nI t)), (4, .int (nI (32 * t))), (5, .int (nI L.length)), (6, .int (nI L.length))] [] M3 := by
            intro M3 r3 e22 f3
            refine hb172 _ _ _ ?_
            simp (maxSteps := 2000000) [bk_X7_put_0, bk_X7_put_37, bk_X7_put_43, bk_X7_put_96, bk_X7_put_109, bk_X7_put_112, bk_X7_put_160, bk_X7_put_163, bk_X7_put_172, bk_X7_put_211, bk_X7_put_214, bk_X7_put_217, bk_X7_put_272, bk_X7_put_273, bk_X7_put_280, bk_X7_put_283, pm_arr, pm_call, pm_e_c0, pm_e_c1, pm_e_cti, pm_e_ctl, pm_e_ctr, pm_e_go, pm_e_i, pm_e_ii, pm_e_ldi, pm_e_ldr, pm_e_lk, pm_e_r, pm_e_ri, pm_e_rii, pm_e_rm0, pm_e_rm1, pm_e_rs0, pm_e_rs1, pm_e_sw0, pm_e_sw1, pm_e_v2, pm_e_v3, pm_e_wp0, pm_e_wp1, pm_f2, pm_f3, pm_fld, pm_fv, pm_obj, pm_recv, pm_s_aload_n, pm_s_bipush, pm_s_dup2, pm_s_dup_x2, pm_s_getfield, pm_s_goto, pm_s_iadd, pm_s_iaload, pm_s_iand, pm_s_iastore, pm_s_iconst, pm_s_ifCond_eq, pm_s_ifCond_ne, pm_s_if_icmp_ge, pm_s_if_icmp_lt, pm_s_if_icmp_ne, pm_s_iinc, pm_s_iload, pm_s_iload_n, pm_s_imul, pm_s_invokestatic, pm_s_invokevirtual, pm_s_ireturn, pm_s_ishr, pm_s_istore, pm_s_isub, pm_s_tableswitch, ct_X7_put, tt_X7_in, tt_X7_refused, tt_X7_fine, pS, pR, pC, pE, pL, -Int32.not_le, -Int32.not_lt, -Int64.not_le, -Int64.not_lt, -List.getD_eq_getElem?_getD, sy_0]
            refine hb211 _ _ _ ?_
            simp (maxSteps := 2000000) [bk_X7_put_0, bk_X7_put_37, bk_X7_put_43, bk_X7_put_96, bk_X7_put_109, bk_X7_put_112, bk_X7_put_160, bk_X7_put_163, bk_X7_put_172, bk_X7_put_211, bk_X7_put_214, bk_X7_put_217, bk_X7_put_272, bk_X7_put_273, bk_X7_put_280, bk_X7_put_283, pm_arr, pm_call, pm_e_c0, pm_e_c1, pm_e_cti, pm_e_ctl, pm_e_ctr, pm_e_go, pm_e_i, pm_e_ii, pm_e_ldi, pm_e_ldr, pm_e_lk, pm_e_r, pm_e_ri, pm_e_rii, pm_e_rm0, pm_e_rm1, pm_e_rs0, pm_e_rs1, pm_e_sw0, pm_e_sw1, pm_e_v2, pm_e_v3, pm_e_wp0, pm_e_wp1, pm_f2, pm_f3, pm_fld, pm_fv, pm_obj, pm_recv, pm_s_aload_n, pm_s_bipush, pm_s_dup2, pm_s_dup_x2, pm_s_getfield, pm_s_goto, pm_s_iadd, pm_s_iaload, pm_s_iand, pm_s_iastore, pm_s_iconst, pm_s_ifCond_eq, pm_s_ifCond_ne, pm_s_if_icmp_ge, pm_s_if_icmp_lt, pm_s_if_icmp_ne, pm_s_iinc, pm_s_iload, pm_s_iload_n, pm_s_imul, pm_s_invokestatic, pm_s_invokevirtual, pm_s_ireturn, pm_s_ishr, pm_s_istore, pm_s_isub, pm_s_tableswitch, ct_X7_put, tt_X7_in, tt_X7_refused, tt_X7_fine, pS, pR, pC, pE, pL, -Int32.not_le, -Int32.not_lt, -Int64.not_le, -Int64.not_lt, -List.getD_eq_getElem?_getD]
            exact fin M3 _ rfl (by decide) r3 e22 f3
          induction f with
          | zero =>
            intro i M3 a1 a2 r3 o3 e22 f3
            have e : i = L.length := by omega
            rw [e, List.take_length] at r3
            rw [e]; exact stop M3 r3 e22 f3
          | succ f ih =>
            intro i M3 a1 a2 r3 o3 e22 f3
            by_cases hi : i < L.length
            · have el : (L.take i).length = i := by simp; omega
              have t3 : M3.1 23 t = nI i := by have := r3.1; rwa [el] at this
              have v3 := o3 i hi
              refine hb172 _ _ _ ?_
              simp (maxSteps := 2000000) [bk_X7_put_0, bk_X7_put_37, bk_X7_put_43, bk_X7_put_96, bk_X7_put_109, bk_X7_put_112, bk_X7_put_160, bk_X7_put_163, bk_X7_put_172, bk_X7_put_211, bk_X7_put_214, bk_X7_put_217, bk_X7_put_272, bk_X7_put_273, bk_X7_put_280, bk_X7_put_283, pm_arr, pm_call, pm_e_c0, pm_e_c1, pm_e_cti, pm_e_ctl, pm_e_ctr, pm_e_go, pm_e_i, pm_e_ii, pm_e_ldi, pm_e_ldr, pm_e_lk, pm_e_r, pm_e_ri, pm_e_rii, pm_e_rm0, pm_e_rm1, pm_e_rs0, pm_e_rs1, pm_e_sw0, pm_e_sw1, pm_e_v2, pm_e_v3, pm_e_wp0, pm_e_wp1, pm_f2, pm_f3, pm_fld, pm_fv, pm_obj, pm_recv, pm_s_aload_n, pm_s_bipush, pm_s_dup2, pm_s_dup_x2, pm_s_getfield, pm_s_goto, pm_s_iadd, pm_s_iaload, pm_s_iand, pm_s_iastore, pm_s_iconst, pm_s_ifCond_eq, pm_s_ifCond_ne, pm_s_if_icmp_ge, pm_s_if_icmp_lt, pm_s_if_icmp_ne, pm_s_iinc, pm_s_iload, pm_s_iload_n, pm_s_imul, pm_s_invokestatic, pm_s_invokevirtual, pm_s_ireturn, pm_s_ishr, pm_s_istore, pm_s_isub, pm_s_tableswitch, ct_X7_put, tt_X7_in, tt_X7_refused, tt_X7_fine, pS, pR, pC, pE, pL, -Int32.not_le, -Int32.not_lt, -Int64.not_le, -Int64.not_lt, -List.getD_eq_getElem?_getD, sy_0, sy_23, sy_24, sy_25]
              rw [ni_le (by omega) (by omega), ni_in (n := 6) (by omega), ni_cl (a := t) (by omega), t3, ni_add, ni_add, ni_in (n := 192) (by omega), ni_in (n := 20) (by omega), ni_cl (a := i) (by omega), ni_cl (by omega)]
              refine ⟨fun q => by omega, fun _ => ⟨by omega, by omega, by omega, ?_⟩⟩
              rw [me_1, if_neg (by omega), v3]
              have r4 := r3.app (v := L.getD i 0)
              rw [el] at r4
              have ea : L.take i ++ [L.getD i 0] = L.take (i + 1) := by
                rw [List.take_succ, List.getElem?_eq_getElem hi, List.getD_eq_getElem?_getD, List.getElem?_eq_getElem hi]; simp
              rw [ea] at r4
              exact ih (i + 1) _ (by omega) (by omega) r4 (fun j hj => by rw [me_1, if_neg (by omega), me_1, if_neg (by omega)]; exact o3 j hj) (by rw [me_1, if_neg (by omega), me_1, if_neg (by omega)]; exact e22) ((f3.s23 _).s24 (by omega) _)
            · have e : i = L.length := by omega
              rw [e, List.take_length] at r3
              rw [e]; exact stop M3 r3 e22 f3
        exact loop L.length 0 M2 (by omega) (by omega) g2' r2' g1' f2'
      · simp
        have tl : (truL (aP A) (aS A)).length = 32 := by simp [truL]
        have hH := hW.2.2.1
        have h0 := hP.1
        have h1 := hP.2.1
        have h3 := hP.2.2.2.1
        have loop : ∀ (f c : Nat) (M3 : pm_M), 32 ≤ c + f → c ≤ 32 → tR M3 t ((truL (aP A) (aS A)).take c) → M3.1 22 t = nI 4 → tyF t M M3 → X 217 [(0, .ref 0), (1, .int (nI t)), (4, .int (nI (32 * t))), (5, .int (nI c))] [] M3 := by
          intro f
          have stop : ∀ (M3 : pm_M), tR M3 t (truL (aP A) (aS A)) → M3.1 22 t = nI 4 → tyF t M M3 → X 217 [(0, .ref 0), (1, .int (nI t)), (4, .int (nI (32 * t))), (5, .int (nI 32))] [] M3 := by
            intro M3 r3 e22 f3
            refine hb217 _ _ _ ?_
            simp (maxSteps := 2000000) [bk_X7_put_0, bk_X7_put_37, bk_X7_put_43, bk_X7_put_96, bk_X7_put_109, bk_X7_put_112, bk_X7_put_160, bk_X7_put_163, bk_X7_put_172, bk_X7_put_211, bk_X7_put_214, bk_X7_put_217, bk_X7_put_272, bk_X7_put_273, bk_X7_put_280, bk_X7_put_283, pm_arr, pm_call, pm_e_c0, pm_e_c1, pm_e_cti, pm_e_ctl, pm_e_ctr, pm_e_go, pm_e_i, pm_e_ii, pm_e_ldi, pm_e_ldr, pm_e_lk, pm_e_r, pm_e_ri, pm_e_rii, pm_e_rm0, pm_e_rm1, pm_e_rs0, pm_e_rs1, pm_e_sw0, pm_e_sw1, pm_e_v2, pm_e_v3, pm_e_wp0, pm_e_wp1, pm_f2, pm_f3, pm_fld, pm_fv, pm_obj, pm_recv, pm_s_aload_n, pm_s_bipush, pm_s_dup2, pm_s_dup_x2, pm_s_getfield, pm_s_goto, pm_s_iadd, pm_s_iaload, pm_s_iand, pm_s_iastore, pm_s_iconst, pm_s_ifCond_eq, pm_s_ifCond_ne, pm_s_if_icmp_ge, pm_s_if_icmp_lt, pm_s_if_icmp_ne, pm_s_iinc, pm_s_iload, pm_s_iload_n, pm_s_imul, pm_s_invokestatic, pm_s_invokevirtual, pm_s_ireturn, pm_s_ishr, pm_s_istore, pm_s_isub, pm_s_tableswitch, ct_X7_put, tt_X7_in, tt_X7_refused, tt_X7_fine, pS, pR, pC, pE, pL, -Int32.not_le, -Int32.not_lt, -Int64.not_le, -Int64.not_lt, -List.getD_eq_getElem?_getD, sy_0]
            refine hb280 _ _ _ ?_
            simp (maxSteps := 2000000) [bk_X7_put_0, bk_X7_put_37, bk_X7_put_43, bk_X7_put_96, bk_X7_put_109, bk_X7_put_112, bk_X7_put_160, bk_X7_put_163, bk_X7_put_172, bk_X7_put_211, bk_X7_put_214, bk_X7_put_217, bk_X7_put_272, bk_X7_put_273, bk_X7_put_280, bk_X7_put_283, pm_arr, pm_call, pm_e_c0, pm_e_c1, pm_e_cti, pm_e_ctl, pm_e_ctr, pm_e_go, pm_e_i, pm_e_ii, pm_e_ldi, pm_e_ldr, pm_e_lk, pm_e_r, pm_e_ri, pm_e_rii, pm_e_rm0, pm_e_rm1, pm_e_rs0, pm_e_rs1, pm_e_sw0, pm_e_sw1, pm_e_v2, pm_e_v3, pm_e_wp0, pm_e_wp1, pm_f2, pm_f3, pm_fld, pm_fv, pm_obj, pm_recv, pm_s_aload_n, pm_s_bipush, pm_s_dup2, pm_s_dup_x2, pm_s_getfield, pm_s_goto, pm_s_iadd, pm_s_iaload, pm_s_iand, pm_s_iastore, pm_s_iconst, pm_s_ifCond_eq, pm_s_ifCond_ne, pm_s_if_icmp_ge, pm_s_if_icmp_lt, pm_s_if_icmp_ne, pm_s_iinc, pm_s_iload, pm_s_iload_n, pm_s_imul, pm_s_invokestatic, pm_s_invokevirtual, pm_s_ireturn, pm_s_ishr, pm_s_istore, pm_s_isub, pm_s_tableswitch, ct_X7_put, tt_X7_in, tt_X7_refused, tt_X7_fine, pS, pR, pC, pE, pL, -Int32.not_le, -Int32.not_lt, -Int64.not_le, -Int64.not_lt, -List.getD_eq_getElem?_getD]
            exact fin M3 _ rfl (by decide) r3 e22 f3
          induction f with
          | zero =>
            intro c M3 a1 a2 r3 e22 f3
            have e : c = 32 := by omega
            rw [e, ← tl, List.take_length] at r3
            rw [e]; exact stop M3 r3 e22 f3
          | succ f ih =>
            intro c M3 a1 a2 r3 e22 f3
            by_cases hi : c < 32
            · have el : ((truL (aP A) (aS A)).take c).length = c := by rw [List.length_take, tl]; omega
              have t3 : M3.1 23 t = nI c := by have := r3.1; rwa [el] at this
              have h273 : ∀ v, v = (if c / 8 < pS (aP A) ∧ 1 ≤ c % 8 ∧ c % 8 ≤ (aS A).2.2 (c / 8) ∧ c % 8 ≤ 6 then 1 else 0) → X 273 [(0, .ref 0), (1, .int (nI t)), (4, .int (nI (32 * t))), (5, .int (nI c))] [.int (nI v), .int (nI (32 * t + c)), .ref 24] (pm_set M3 23 t (nI (c + 1))) := by
                intro v ev
                refine hb273 _ _ _ ?_
                simp (maxSteps := 2000000) [bk_X7_put_0, bk_X7_put_37, bk_X7_put_43, bk_X7_put_96, bk_X7_put_109, bk_X7_put_112, bk_X7_put_160, bk_X7_put_163, bk_X7_put_172, bk_X7_put_211, bk_X7_put_214, bk_X7_put_217, bk_X7_put_272, bk_X7_put_273, bk_X7_put_280, bk_X7_put_283, pm_arr, pm_call, pm_e_c0, pm_e_c1, pm_e_cti, pm_e_ctl, pm_e_ctr, pm_e_go, pm_e_i, pm_e_ii, pm_e_ldi, pm_e_ldr, pm_e_lk, pm_e_r, pm_e_ri, pm_e_rii, pm_e_rm0, pm_e_rm1, pm_e_rs0, pm_e_rs1, pm_e_sw0, pm_e_sw1, pm_e_v2, pm_e_v3, pm_e_wp0, pm_e_wp1, pm_f2, pm_f3, pm_fld, pm_fv, pm_obj, pm_recv, pm_s_aload_n, pm_s_bipush, pm_s_dup2, pm_s_dup_x2, pm_s_getfield, pm_s_goto, pm_s_iadd, pm_s_iaload, pm_s_iand, pm_s_iastore, pm_s_iconst, pm_s_ifCond_eq, pm_s_ifCond_ne, pm_s_if_icmp_ge, pm_s_if_icmp_lt, pm_s_if_icmp_ne, pm_s_iinc, pm_s_iload, pm_s_iload_n, pm_s_imul, pm_s_invokestatic, pm_s_invokevirtual, pm_s_ireturn, pm_s_ishr, pm_s_istore, pm_s_isub, pm_s_tableswitch, ct_X7_put, tt_X7_in, tt_X7_refused, tt_X7_fine, pS, pR, pC, pE, pL, -Int32.not_le, -Int32.not_lt, -Int64.not_le, -Int64.not_lt, -List.getD_eq_getElem?_getD, sy_24]
                rw [ni_in (by omega), ni_cl (by omega), ni_add]
                refine ⟨by omega, ?_⟩
                have r4 := r3.app (v := v)
                rw [el, ev, ← truL_take hi, ← ev] at r4
                exact ih (c + 1) _ (by omega) (by omega) r4 (by rw [me_1, if_neg (by omega), me_1, if_neg (by omega)]; exact e22) ((f3.s23 _).s24 (by omega) _)
              have h272 : ¬ (c / 8 < pS (aP A) ∧ 1 ≤ c % 8 ∧ c % 8 ≤ (aS A).2.2 (c / 8) ∧ c % 8 ≤ 6) → X 272 [(0, .ref 0), (1, .int (nI t)), (4, .int (nI (32 * t))), (5, .int (nI c))] [.int (nI (32 * t + c)), .ref 24] (pm_set M3 23 t (nI (c + 1))) := by
                intro hn
                refine hb272 _ _ _ ?_
                simp (maxSteps := 2000000) [bk_X7_put_0, bk_X7_put_37, bk_X7_put_43, bk_X7_put_96, bk_X7_put_109, bk_X7_put_112, bk_X7_put_160, bk_X7_put_163, bk_X7_put_172, bk_X7_put_211, bk_X7_put_214, bk_X7_put_217, bk_X7_put_272, bk_X7_put_273, bk_X7_put_280, bk_X7_put_283, pm_arr, pm_call, pm_e_c0, pm_e_c1, pm_e_cti, pm_e_ctl, pm_e_ctr, pm_e_go, pm_e_i, pm_e_ii, pm_e_ldi, pm_e_ldr, pm_e_lk, pm_e_r, pm_e_ri, pm_e_rii, pm_e_rm0, pm_e_rm1, pm_e_rs0, pm_e_rs1, pm_e_sw0, pm_e_sw1, pm_e_v2, pm_e_v3, pm_e_wp0, pm_e_wp1, pm_f2, pm_f3, pm_fld, pm_fv, pm_obj, pm_recv, pm_s_aload_n, pm_s_bipush, pm_s_dup2, pm_s_dup_x2, pm_s_getfield, pm_s_goto, pm_s_iadd, pm_s_iaload, pm_s_iand, pm_s_iastore, pm_s_iconst, pm_s_ifCond_eq, pm_s_ifCond_ne, pm_s_if_icmp_ge, pm_s_if_icmp_lt, pm_s_if_icmp_ne, pm_s_iinc, pm_s_iload, pm_s_iload_n, pm_s_imul, pm_s_invokestatic, pm_s_invokevirtual, pm_s_ireturn, pm_s_ishr, pm_s_istore, pm_s_isub, pm_s_tableswitch, ct_X7_put, tt_X7_in, tt_X7_refused, tt_X7_fine, pS, pR, pC, pE, pL, -Int32.not_le, -Int32.not_lt, -Int64.not_le, -Int64.not_lt, -List.getD_eq_getElem?_getD]
                exact h273 0 (by rw [if_neg hn])
              have f4 := f3.s23 (nI (c + 1))
              have D4 : DkY (pm_set M3 23 t (nI (c + 1))) (aP A) := hM.1.mv f4.1 (by decide)
              have S4 : SdY (pm_set M3 23 t (nI (c + 1))) 2 0 (pR (aP A)) (aS A) := hM.2.1.mv f4.1 (by decide) (by decide)
              have H4 := S4.h (show c / 8 < 4 by omega)
              have hHc := hH (c / 8) (by omega)
              refine hb217 _ _ _ ?_
              simp (maxSteps := 2000000) [bk_X7_put_0, bk_X7_put_37, bk_X7_put_43, bk_X7_put_96, bk_X7_put_109, bk_X7_put_112, bk_X7_put_160, bk_X7_put_163, bk_X7_put_172, bk_X7_put_211, bk_X7_put_214, bk_X7_put_217, bk_X7_put_272, bk_X7_put_273, bk_X7_put_280, bk_X7_put_283, pm_arr, pm_call, pm_e_c0, pm_e_c1, pm_e_cti, pm_e_ctl, pm_e_ctr, pm_e_go, pm_e_i, pm_e_ii, pm_e_ldi, pm_e_ldr, pm_e_lk, pm_e_r, pm_e_ri, pm_e_rii, pm_e_rm0, pm_e_rm1, pm_e_rs0, pm_e_rs1, pm_e_sw0, pm_e_sw1, pm_e_v2, pm_e_v3, pm_e_wp0, pm_e_wp1, pm_f2, pm_f3, pm_fld, pm_fv, pm_obj, pm_recv, pm_s_aload_n, pm_s_bipush, pm_s_dup2, pm_s_dup_x2, pm_s_getfield, pm_s_goto, pm_s_iadd, pm_s_iaload, pm_s_iand, pm_s_iastore, pm_s_iconst, pm_s_ifCond_eq, pm_s_ifCond_ne, pm_s_if_icmp_ge, pm_s_if_icmp_lt, pm_s_if_icmp_ne, pm_s_iinc, pm_s_iload, pm_s_iload_n, pm_s_imul, pm_s_invokestatic, pm_s_invokevirtual, pm_s_ireturn, pm_s_ishr, pm_s_istore, pm_s_isub, pm_s_tableswitch, ct_X7_put, tt_X7_in, tt_X7_refused, tt_X7_fine, pS, pR, pC, pE, pL, -Int32.not_le, -Int32.not_lt, -Int64.not_le, -Int64.not_lt, -List.getD_eq_getElem?_getD, sy_0, sy_23]
              rw [ni_le (by omega) (by omega), ni_in (n := 6) (by omega), ni_cl (a := t) (by omega), t3, ni_add, ni_add]
              refine ⟨fun q => by omega, fun _ => ⟨by omega, ?_⟩⟩
              generalize pm_set M3 23 t (nI (c + 1)) = M4 at *
              refine ⟨aP A, D4, ?_⟩
              rw [cdOK_n hP hi]
              simp (maxSteps := 2000000) [bk_X7_put_0, bk_X7_put_37, bk_X7_put_43, bk_X7_put_96, bk_X7_put_109, bk_X7_put_112, bk_X7_put_160, bk_X7_put_163, bk_X7_put_172, bk_X7_put_211, bk_X7_put_214, bk_X7_put_217, bk_X7_put_272, bk_X7_put_273, bk_X7_put_280, bk_X7_put_283, pm_arr, pm_call, pm_e_c0, pm_e_c1, pm_e_cti, pm_e_ctl, pm_e_ctr, pm_e_go, pm_e_i, pm_e_ii, pm_e_ldi, pm_e_ldr, pm_e_lk, pm_e_r, pm_e_ri, pm_e_rii, pm_e_rm0, pm_e_rm1, pm_e_rs0, pm_e_rs1, pm_e_sw0, pm_e_sw1, pm_e_v2, pm_e_v3, pm_e_wp0, pm_e_wp1, pm_f2, pm_f3, pm_fld, pm_fv, pm_obj, pm_recv, pm_s_aload_n, pm_s_bipush, pm_s_dup2, pm_s_dup_x2, pm_s_getfield, pm_s_goto, pm_s_iadd, pm_s_iaload, pm_s_iand, pm_s_iastore, pm_s_iconst, pm_s_ifCond_eq, pm_s_ifCond_ne, pm_s_if_icmp_ge, pm_s_if_icmp_lt, pm_s_if_icmp_ne, pm_s_iinc, pm_s_iload, pm_s_iload_n, pm_s_imul, pm_s_invokestatic, pm_s_invokevirtual, pm_s_ireturn, pm_s_ishr, pm_s_istore, pm_s_isub, pm_s_tableswitch, ct_X7_put, tt_X7_in, tt_X7_refused, tt_X7_fine, pS, pR, pC, pE, pL, -Int32.not_le, -Int32.not_lt, -Int64.not_le, -Int64.not_lt, -List.getD_eq_getElem?_getD, sy_0, sy_5, pb_eq0]
              have H4' : M4.1 5 (c / 8) = nI ((aS A).2.2 (c / 8)) := H4
              have hb6 : (aS A).2.2 (c / 8) ≤ 6 := by split at hHc <;> omega
              rw [sh3 (by omega), ni_in (by omega), ni_cl (by omega), H4', ni_a7 (by omega), ni_lt (by omega) (by omega)]
              refine ⟨fun q => h272 (fun w => ?_), fun w1 w2 w3 => ⟨by omega, fun q => h272 (fun w => by omega), fun q => h273 1 ?_⟩⟩
              · have w3 : pR (aP A) < c % 8 := q w.1 w.2.1
                rw [if_pos w.1] at hHc
                omega
              · have w3' : c % 8 ≤ pR (aP A) := w3
                rw [if_pos ⟨w1, w2, by omega, by omega⟩]
            · have e : c = 32 := by omega
              rw [e, ← tl, List.take_length] at r3
              rw [e]; exact stop M3 r3 e22 f3
        refine hb214 _ _ _ ?_
        simp (maxSteps := 2000000) [bk_X7_put_0, bk_X7_put_37, bk_X7_put_43, bk_X7_put_96, bk_X7_put_109, bk_X7_put_112, bk_X7_put_160, bk_X7_put_163, bk_X7_put_172, bk_X7_put_211, bk_X7_put_214, bk_X7_put_217, bk_X7_put_272, bk_X7_put_273, bk_X7_put_280, bk_X7_put_283, pm_arr, pm_call, pm_e_c0, pm_e_c1, pm_e_cti, pm_e_ctl, pm_e_ctr, pm_e_go, pm_e_i, pm_e_ii, pm_e_ldi, pm_e_ldr, pm_e_lk, pm_e_r, pm_e_ri, pm_e_rii, pm_e_rm0, pm_e_rm1, pm_e_rs0, pm_e_rs1, pm_e_sw0, pm_e_sw1, pm_e_v2, pm_e_v3, pm_e_wp0, pm_e_wp1, pm_f2, pm_f3, pm_fld, pm_fv, pm_obj, pm_recv, pm_s_aload_n, pm_s_bipush, pm_s_dup2, pm_s_dup_x2, pm_s_getfield, pm_s_goto, pm_s_iadd, pm_s_iaload, pm_s_iand, pm_s_iastore, pm_s_iconst, pm_s_ifCond_eq, pm_s_ifCond_ne, pm_s_if_icmp_ge, pm_s_if_icmp_lt, pm_s_if_icmp_ne, pm_s_iinc, pm_s_iload, pm_s_iload_n, pm_s_imul, pm_s_invokestatic, pm_s_invokevirtual, pm_s_ireturn, pm_s_ishr, pm_s_istore, pm_s_isub, pm_s_tableswitch, ct_X7_put, tt_X7_in, tt_X7_refused, tt_X7_fine, pS, pR, pC, pE, pL, -Int32.not_le, -Int32.not_lt, -Int64.not_le, -Int64.not_lt, -List.getD_eq_getElem?_getD]
        exact loop 32 0 M1 (by omega) (by omega) g2 g1 f1
    refine hb0 _ _ _ ?_
    simp (maxSteps := 2000000) [bk_X7_put_0, bk_X7_put_37, bk_X7_put_43, bk_X7_put_96, bk_X7_put_109, bk_X7_put_112, bk_X7_put_160, bk_X7_put_163, bk_X7_put_172, bk_X7_put_211, bk_X7_put_214, bk_X7_put_217, bk_X7_put_272, bk_X7_put_273, bk_X7_put_280, bk_X7_put_283, pm_arr, pm_call, pm_e_c0, pm_e_c1, pm_e_cti, pm_e_ctl, pm_e_ctr, pm_e_go, pm_e_i, pm_e_ii, pm_e_ldi, pm_e_ldr, pm_e_lk, pm_e_r, pm_e_ri, pm_e_rii, pm_e_rm0, pm_e_rm1, pm_e_rs0, pm_e_rs1, pm_e_sw0, pm_e_sw1, pm_e_v2, pm_e_v3, pm_e_wp0, pm_e_wp1, pm_f2, pm_f3, pm_fld, pm_fv, pm_obj, pm_recv, pm_s_aload_n, pm_s_bipush, pm_s_dup2, pm_s_dup_x2, pm_s_getfield, pm_s_goto, pm_s_iadd, pm_s_iaload, pm_s_iand, pm_s_iastore, pm_s_iconst, pm_s_ifCond_eq, pm_s_ifCond_ne, pm_s_if_icmp_ge, pm_s_if_icmp_lt, pm_s_if_icmp_ne, pm_s_iinc, pm_s_iload, pm_s_iload_n, pm_s_imul, pm_s_invokestatic, pm_s_invokevirtual, pm_s_ireturn, pm_s_ishr, pm_s_istore, pm_s_isub, pm_s_tableswitch, ct_X7_put, tt_X7_in, tt_X7_refused, tt_X7_fine, pS, pR, pC, pE, pL, -Int32.not_le, -Int32.not_lt, -Int64.not_le, -Int64.not_lt, -List.getD_eq_getElem?_getD, lv_args, sy_0, m2, pb_eq0]
    have ez : wi z (nI 0) (nI (aP A).2.2.1 - nI 1) = colOK (aP A) z := rfl
    rw [ez]
    refine ⟨fun h => bad (by rw [h]; rfl), fun h => ⟨fun h2 => bad (by rw [h2]; simp), fun h2 => ⟨fun h3 => good (by rw [h, h2, decide_eq_false h3]; rfl), fun h3 => ⟨fun h4 => good (by rw [h, h2, h4]; simp), fun h4 => bad (by rw [decide_eq_true h3, h4]; simp)⟩⟩⟩⟩
  · exact hT.elim
