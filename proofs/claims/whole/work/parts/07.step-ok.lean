section PM
variable {p : Program} {l : Launch} {e : Env} {R : Room} {s : State} {m : MethodId} {args : Array Value} {below : List Frame} {meth : Method} {c : Code} {SH : List pm_S} {ad : Nat → Nat} {ct : Nat → ClassId} {D : va_G} {own : String} {cc : ByteArray} {nL : Nat} {ret : Option FieldType} {d : Nat} {Ts : List Cond}
theorem pm_ret (C : pm_Cx p R s m args meth c SH ad ct D own cc nL ret d Ts) {H : Heap} {locs : List Loc} {M : pm_M} (hP : va_P D pm_cl (pm_w SH ad ct M) H) (hS : va_S (pm_A SH ad) s.heap H locs) (t : State) (ht : t.heap = H) (hW : s.WarmedH t.vm) : pm_Wd SH ad ct D M t := by
  obtain ⟨hx, hb, hml, hr, hown, hts, hTB, hlocks, hKK, hDD, hRO, hNW, hRf, hRl, hd0⟩ := C
  exact ⟨by rw [ht]; exact hP, va_K.moved hW.alike hKK, hDD M, by rw [ht]; exact (hRO.kept (fun a h1 h2 => hS.2.1 a h1 h2)).moved hW.alike, hNW.warm hW⟩
theorem pm_nar_b {x : Int32} (h : x = 0 ∨ x = 1) : narrow .boolean (.int x) = .int x := by rcases h with rfl | rfl <;> rfl
theorem pm_vnar_b {x : Int32} (h : x = 0 ∨ x = 1) : vp_nar .boolean x = x := by rcases h with rfl | rfl <;> rfl
theorem pm_fit_b {x : Int32} (h : x = 0 ∨ x = 1) : fits .boolean (.int x) = true := by rcases h with rfl | rfl <;> rfl
theorem pm_ac1 : Cond.native arraycopyName ∈ pm_TB := by decide +kernel
theorem pm_ac2 : Cond.static arraycopyName ∈ pm_TB := by decide +kernel
theorem pm_ac3 : Cond.initialized "java/lang/System" ∈ pm_TB := by decide +kernel
theorem pm_tys_at {t : Nat} {ct : Nat → ClassId} (h : t < 5) : (pm_tys ct)[t]? = some (ct t, [FieldType.int, .byte, .boolean, .short, .long].getD t .int) := by
  match t, h with
  | 0, _ => rfl
  | 1, _ => rfl
  | 2, _ => rfl
  | 3, _ => rfl
  | 4, _ => rfl
theorem pm_sw_at {X : pm_X} {x : Int32} {lv : pm_L} {st : List Value} {M : pm_M} : ∀ (ts : List (Nat × List Nat)) (lo : Int), pm_sw X x lo ts lv st M → ∀ (j : Nat) (q : Nat × List Nat), ts[j]? = some q → x.toInt = lo + j → X q.1 (pm_rs q.2 lv) st M
  | [], _, _, j, q, h, _ => by simp at h
  | (t, is) :: ts, lo, h, 0, q, hj, hx => by
    simp at hj; subst hj
    exact h.1 (by simpa using hx)
  | (t, is) :: ts, lo, h, j + 1, q, hj, hx => by
    refine pm_sw_at ts (lo + 1) h.2 j q (by simpa using hj) (by rw [hx]; push_cast; omega)

set_option maxHeartbeats 4000000 in
theorem pm_step_ok (C : pm_Cx p R s m args meth c SH ad ct D own cc nL ret d Ts) {CT : List pm_C} {cs : List (Bool × Nat)} (hcs : CT.map (fun q => (q.1, q.2.1)) = cs) (hCT : ∀ q ∈ CT, pm_Callee SH own d q) {X : pm_X} {K : pm_K} {k : Option Value → pm_M → Prop} {pc n a b : Nat} {i : Instr} {ts : List (Nat × List Nat)} {lv : pm_L} {st : List Value} {M : pm_M}
    (hck : pm_ck own nL cs pc i n a b ts = true) (hdg : decode cc pc = .ok (i, n))
    (hX : ∀ t lv st M, X t lv st M → pm_At p l e R s m args below meth c SH ad ct D nL (MQ below (pm_Q SH ad ct D ret k) args s 0 0 (pm_A SH ad)) t lv st M)
    (hK : ∀ lv st M, K lv st M → pm_At p l e R s m args below meth c SH ad ct D nL (MQ below (pm_Q SH ad ct D ret k) args s 0 0 (pm_A SH ad)) (pc + n) lv st M)
    (h : pm_step SH CT ret X k (pc, i, n, a, b, ts) lv st M K) : pm_At p l e R s m args below meth c SH ad ct D nL (MQ below (pm_Q SH ad ct D ret k) args s 0 0 (pm_A SH ad)) pc lv st M := by
  have C0 := C
  obtain ⟨hx, hb, hml, hr, hown, hts, hTB, hlocks, hKK, hDD, hRO, hNW, hRf, hRl, hd0⟩ := C
  have hgo : ∀ {lv : pm_L} {st : List Value} {M : pm_M} {t : Nat} {is : List Nat} {ts' : List (Nat × List Nat)}, pm_go X ((t, is) :: ts') lv st M → pm_At p l e R s m args below meth c SH ad ct D nL (MQ below (pm_Q SH ad ct D ret k) args s 0 0 (pm_A SH ad)) t lv st M := fun h => (hX _ _ _ _ h).drop
  unfold pm_step at h
  cases i
  all_goals first | exact h.elim | skip
  all_goals dsimp only at h
  all_goals simp only [pm_ck, Bool.and_eq_true, beq_iff_eq, decide_eq_true_eq] at hck
  case aload_n j =>
    obtain ⟨x, h1, h⟩ := pm_ldr_e h
    subst hck
    intro H locs ls hl hP hS
    exact lv_aload_n hx hb hdg rfl (pm_has hl h1) (hK _ _ _ h H locs ls hl hP hS)
  case aload j =>
    obtain ⟨x, h1, h⟩ := pm_ldr_e h
    subst hck
    intro H locs ls hl hP hS
    exact lv_aload hx hb hdg (pm_has hl h1) (hK _ _ _ h H locs ls hl hP hS)
  case iload_n j =>
    obtain ⟨x, h1, h⟩ := pm_ldi_e h
    subst hck
    intro H locs ls hl hP hS
    exact lv_iload_n hx hb hdg rfl (pm_has hl h1) (hK _ _ _ h H locs ls hl hP hS)
  case iload j =>
    obtain ⟨x, h1, h⟩ := pm_ldi_e h
    subst hck
    intro H locs ls hl hP hS
    exact lv_iload hx hb hdg (pm_has hl h1) (hK _ _ _ h H locs ls hl hP hS)
  case lload_n j =>
    obtain ⟨x, h1, h⟩ := pm_ldl_e h
    subst hck
    intro H locs ls hl hP hS
    exact lv_lload_n hx hb hdg rfl (pm_has hl h1) (hK _ _ _ h H locs ls hl hP hS)
  case lload j =>
    obtain ⟨x, h1, h⟩ := pm_ldl_e h
    subst hck
    intro H locs ls hl hP hS
    exact lv_lload hx hb hdg (pm_has hl h1) (hK _ _ _ h H locs ls hl hP hS)
  case astore_n j =>
    obtain ⟨x, r, rfl, h⟩ := pm_r_e h
    obtain ⟨rfl, hj⟩ := hck
    intro H locs ls hl hP hS
    exact lv_astore_n hx hb hdg rfl hl hj rfl (fun ls' hl' => hK _ _ _ h H locs ls' (pm_has_st hl' rfl) hP hS)
  case astore j =>
    obtain ⟨x, r, rfl, h⟩ := pm_r_e h
    obtain ⟨rfl, hj⟩ := hck
    intro H locs ls hl hP hS
    exact lv_astore hx hb hdg hl hj rfl (fun ls' hl' => hK _ _ _ h H locs ls' (pm_has_st hl' rfl) hP hS)
  case istore_n j =>
    obtain ⟨x, r, rfl, h⟩ := pm_i_e h
    obtain ⟨rfl, hj⟩ := hck
    intro H locs ls hl hP hS
    exact lv_istore_n hx hb hdg rfl hl hj rfl (fun ls' hl' => hK _ _ _ h H locs ls' (pm_has_st hl' rfl) hP hS)
  case istore j =>
    obtain ⟨x, r, rfl, h⟩ := pm_i_e h
    obtain ⟨rfl, hj⟩ := hck
    intro H locs ls hl hP hS
    exact lv_istore hx hb hdg hl hj rfl (fun ls' hl' => hK _ _ _ h H locs ls' (pm_has_st hl' rfl) hP hS)
  case lstore_n j =>
    obtain ⟨x, r, rfl, h⟩ := pm_l_e h
    obtain ⟨rfl, hj⟩ := hck
    intro H locs ls hl hP hS
    exact lv_lstore_n hx hb hdg rfl hl hj rfl (fun ls' hl' => hK _ _ _ h H locs ls' (pm_has_stL hl') hP hS)
  case lstore j =>
    obtain ⟨x, r, rfl, h⟩ := pm_l_e h
    obtain ⟨rfl, hj⟩ := hck
    intro H locs ls hl hP hS
    exact lv_lstore hx hb hdg hl hj rfl (fun ls' hl' => hK _ _ _ h H locs ls' (pm_has_stL hl') hP hS)
  case iinc j z =>
    obtain ⟨x, h1, h⟩ := pm_ldi_e h
    obtain ⟨⟨rfl, hj⟩, hz⟩ := hck
    intro H locs ls hl hP hS
    obtain ⟨kk, hkk⟩ := List.getElem?_of_mem (List.mem_map.mpr ⟨(j, Value.int x), h1, rfl⟩ : (j, Value.int x) ∈ lv.map (pm_tp ad))
    exact lv_iinc (v := x + pm_c a b) hx hb hdg hl hkk (by rw [hz]) hj rfl (fun ls' hl' => hK _ _ _ h H locs ls' (pm_has_st hl' rfl) hP hS)
  case iconst z =>
    obtain ⟨rfl, hz⟩ := hck
    intro H locs ls hl hP hS
    exact lv_iconst hx hb hdg hz (hK _ _ _ h H locs ls hl hP hS)
  case bipush z =>
    obtain ⟨rfl, hz⟩ := hck
    intro H locs ls hl hP hS
    exact lv_bipush hx hb hdg hz (hK _ _ _ h H locs ls hl hP hS)
  case sipush z =>
    obtain ⟨rfl, hz⟩ := hck
    intro H locs ls hl hP hS
    exact lv_sipush hx hb hdg hz (hK _ _ _ h H locs ls hl hP hS)
  case ldc j =>
    obtain ⟨rfl, hz⟩ := hck
    intro H locs ls hl hP hS
    exact lv_ldc hx hb hown (hts _ (hTB _ (pm_iT_in hz))) hdg (hK _ _ _ h H locs ls hl hP hS)
  case ldc_w j =>
    obtain ⟨rfl, hz⟩ := hck
    intro H locs ls hl hP hS
    exact lv_ldcw hx hb hown (hts _ (hTB _ (pm_iT_in hz))) hdg (hK _ _ _ h H locs ls hl hP hS)
  case lconst j =>
    obtain ⟨rfl, hz⟩ := hck
    intro H locs ls hl hP hS
    exact lv_lconst (v := lN a) hx hb hdg (by rw [hz]; rfl) (hK _ _ _ h H locs ls hl hP hS)
  case ldc2_w j =>
    obtain ⟨rfl, hz⟩ := hck
    intro H locs ls hl hP hS
    exact lv_ldc2 hx hb hown (hts _ (hTB _ (pm_iT_in hz))) hdg (hK _ _ _ h H locs ls hl hP hS)
  case iadd =>
    obtain ⟨x, y, r, rfl, h⟩ := pm_ii_e h
    subst hck
    intro H locs ls hl hP hS
    exact lv_iadd hx hb hdg (hK _ _ _ h H locs ls hl hP hS)
  case isub =>
    obtain ⟨x, y, r, rfl, h⟩ := pm_ii_e h
    subst hck
    intro H locs ls hl hP hS
    exact lv_isub hx hb hdg (hK _ _ _ h H locs ls hl hP hS)
  case imul =>
    obtain ⟨x, y, r, rfl, h⟩ := pm_ii_e h
    subst hck
    intro H locs ls hl hP hS
    exact lv_imul hx hb hdg (hK _ _ _ h H locs ls hl hP hS)
  case iand =>
    obtain ⟨x, y, r, rfl, h⟩ := pm_ii_e h
    subst hck
    intro H locs ls hl hP hS
    exact lv_iand hx hb hdg (hK _ _ _ h H locs ls hl hP hS)
  case ior =>
    obtain ⟨x, y, r, rfl, h⟩ := pm_ii_e h
    subst hck
    intro H locs ls hl hP hS
    exact lv_ior hx hb hdg (hK _ _ _ h H locs ls hl hP hS)
  case ixor =>
    obtain ⟨x, y, r, rfl, h⟩ := pm_ii_e h
    subst hck
    intro H locs ls hl hP hS
    exact lv_ixor hx hb hdg (hK _ _ _ h H locs ls hl hP hS)
  case ishl =>
    obtain ⟨x, y, r, rfl, h⟩ := pm_ii_e h
    subst hck
    intro H locs ls hl hP hS
    exact lv_ishl hx hb hdg (hK _ _ _ h H locs ls hl hP hS)
  case ishr =>
    obtain ⟨x, y, r, rfl, h⟩ := pm_ii_e h
    subst hck
    intro H locs ls hl hP hS
    exact lv_ishr hx hb hdg (hK _ _ _ h H locs ls hl hP hS)
  case idiv =>
    obtain ⟨x, y, r, rfl, h0, h⟩ := pm_ii_e h
    subst hck
    intro H locs ls hl hP hS
    exact lv_idiv hx hb hdg h0 (hK _ _ _ h H locs ls hl hP hS)
  case irem =>
    obtain ⟨x, y, r, rfl, h0, h⟩ := pm_ii_e h
    subst hck
    intro H locs ls hl hP hS
    exact lv_irem hx hb hdg h0 (hK _ _ _ h H locs ls hl hP hS)
  case iushr =>
    obtain ⟨x, y, r, rfl, h⟩ := pm_ii_e h
    subst hck
    intro H locs ls hl hP hS
    exact lv_iushr hx hb hdg rfl (hK _ _ _ h H locs ls hl hP hS)
  case lsub =>
    obtain ⟨x, y, r, rfl, h⟩ := pm_ll_e h
    subst hck
    intro H locs ls hl hP hS
    exact lv_lsub hx hb hdg (hK _ _ _ h H locs ls hl hP hS)
  case lmul =>
    obtain ⟨x, y, r, rfl, h⟩ := pm_ll_e h
    subst hck
    intro H locs ls hl hP hS
    exact lv_lmul hx hb hdg (hK _ _ _ h H locs ls hl hP hS)
  case land =>
    obtain ⟨x, y, r, rfl, h⟩ := pm_ll_e h
    subst hck
    intro H locs ls hl hP hS
    exact lv_land hx hb hdg (hK _ _ _ h H locs ls hl hP hS)
  case lor =>
    obtain ⟨x, y, r, rfl, h⟩ := pm_ll_e h
    subst hck
    intro H locs ls hl hP hS
    exact lv_lor hx hb hdg (hK _ _ _ h H locs ls hl hP hS)
  case lxor =>
    obtain ⟨x, y, r, rfl, h⟩ := pm_ll_e h
    subst hck
    intro H locs ls hl hP hS
    exact lv_lxor hx hb hdg (hK _ _ _ h H locs ls hl hP hS)
  case lcmp =>
    obtain ⟨x, y, r, rfl, h⟩ := pm_ll_e h
    subst hck
    intro H locs ls hl hP hS
    exact W.lcmp hx hb hdg (hK _ _ _ h H locs ls hl hP hS)
  case lshl =>
    obtain ⟨x, y, r, rfl, h⟩ := pm_li_e h
    subst hck
    intro H locs ls hl hP hS
    exact lv_lshl hx hb hdg rfl (hK _ _ _ h H locs ls hl hP hS)
  case lushr =>
    obtain ⟨x, y, r, rfl, h⟩ := pm_li_e h
    subst hck
    intro H locs ls hl hP hS
    exact lv_lushr hx hb hdg rfl (hK _ _ _ h H locs ls hl hP hS)
  case i2l =>
    obtain ⟨x, r, rfl, h⟩ := pm_i_e h
    subst hck
    intro H locs ls hl hP hS
    exact lv_i2l hx hb hdg rfl (hK _ _ _ h H locs ls hl hP hS)
  case l2i =>
    obtain ⟨x, r, rfl, h⟩ := pm_l_e h
    subst hck
    intro H locs ls hl hP hS
    exact lv_l2i hx hb hdg rfl (hK _ _ _ h H locs ls hl hP hS)
  case i2b =>
    obtain ⟨x, r, rfl, h⟩ := pm_i_e h
    subst hck
    intro H locs ls hl hP hS
    exact lv_i2b hx hb hdg rfl (hK _ _ _ h H locs ls hl hP hS)
  case i2s =>
    obtain ⟨x, r, rfl, h⟩ := pm_i_e h
    subst hck
    intro H locs ls hl hP hS
    exact lv_i2s hx hb hdg rfl (hK _ _ _ h H locs ls hl hP hS)
  case dup =>
    obtain ⟨v, r, rfl, h1, h⟩ := pm_v1_e h
    subst hck
    intro H locs ls hl hP hS
    exact lv_dup hx hb hdg (va := pm_tr ad v) (by rw [pm_tr_cat]; exact h1) (hK _ _ _ h H locs ls hl hP hS)
  case pop =>
    obtain ⟨v, r, rfl, h1, h⟩ := pm_v1_e h
    subst hck
    intro H locs ls hl hP hS
    exact lv_pop hx hb hdg (va := pm_tr ad v) (by rw [pm_tr_cat]; exact h1) (hK _ _ _ h H locs ls hl hP hS)
  case dup_x1 =>
    obtain ⟨v, w, r, rfl, h1, h2, h⟩ := pm_v2_e h
    subst hck
    intro H locs ls hl hP hS
    exact lv_dup_x1 hx hb hdg (va := pm_tr ad v) (vb := pm_tr ad w) (by rw [pm_tr_cat]; exact h1) (by rw [pm_tr_cat]; exact h2) (hK _ _ _ h H locs ls hl hP hS)
  case dup2 =>
    obtain ⟨v, w, r, rfl, h1, h2, h⟩ := pm_v2_e h
    subst hck
    intro H locs ls hl hP hS
    exact lv_dup2_11 hx hb hdg (va := pm_tr ad v) (vb := pm_tr ad w) (by rw [pm_tr_cat]; exact h1) (by rw [pm_tr_cat]; exact h2) (hK _ _ _ h H locs ls hl hP hS)
  case dup_x2 =>
    obtain ⟨v, w, x, r, rfl, h1, h2, h3, h⟩ := pm_v3_e h
    subst hck
    intro H locs ls hl hP hS
    exact lv_dup_x2 hx hb hdg (va := pm_tr ad v) (vb := pm_tr ad w) (vd := pm_tr ad x) (by rw [pm_tr_cat]; exact h1) (by rw [pm_tr_cat]; exact h2) (by rw [pm_tr_cat]; exact h3) (hK _ _ _ h H locs ls hl hP hS)
  case ifCond cd off =>
    obtain ⟨rfl, hck⟩ := hck
    cases ts with
    | nil => simp at hck
    | cons q ts' =>
      obtain ⟨t, is⟩ := q
      simp only [decide_eq_true_eq] at hck
      cases cd
      case eq =>
        dsimp only at h
        obtain ⟨x, r, rfl, ht, hf⟩ := pm_i_e h
        intro H locs ls hl hP hS
        exact lv_if_eq hx hb hdg hck (fun cc => hgo (ht cc) H locs ls hl hP hS) (fun cc => hK _ _ _ (hf cc) H locs ls hl hP hS)
      case ne =>
        dsimp only at h
        obtain ⟨x, r, rfl, ht, hf⟩ := pm_i_e h
        intro H locs ls hl hP hS
        exact lv_if_ne hx hb hdg hck (fun cc => hgo (ht cc) H locs ls hl hP hS) (fun cc => hK _ _ _ (hf cc) H locs ls hl hP hS)
      case lt =>
        dsimp only at h
        obtain ⟨x, r, rfl, ht, hf⟩ := pm_i_e h
        intro H locs ls hl hP hS
        exact lv_if_lt hx hb hdg hck (fun cc => hgo (ht cc) H locs ls hl hP hS) (fun cc => hK _ _ _ (hf cc) H locs ls hl hP hS)
      case ge =>
        dsimp only at h
        obtain ⟨x, r, rfl, ht, hf⟩ := pm_i_e h
        intro H locs ls hl hP hS
        exact lv_if_ge hx hb hdg hck (fun cc => hgo (ht cc) H locs ls hl hP hS) (fun cc => hK _ _ _ (hf cc) H locs ls hl hP hS)
      case gt =>
        dsimp only at h
        obtain ⟨x, r, rfl, ht, hf⟩ := pm_i_e h
        intro H locs ls hl hP hS
        exact lv_if_gt hx hb hdg hck (fun cc => hgo (ht cc) H locs ls hl hP hS) (fun cc => hK _ _ _ (hf cc) H locs ls hl hP hS)
      case le =>
        dsimp only at h
        obtain ⟨x, r, rfl, ht, hf⟩ := pm_i_e h
        intro H locs ls hl hP hS
        exact lv_if_le hx hb hdg hck (fun cc => hgo (ht cc) H locs ls hl hP hS) (fun cc => hK _ _ _ (hf cc) H locs ls hl hP hS)
  case if_icmp cd off =>
    obtain ⟨rfl, hck⟩ := hck
    cases ts with
    | nil => simp at hck
    | cons q ts' =>
      obtain ⟨t, is⟩ := q
      simp only [decide_eq_true_eq] at hck
      cases cd
      case eq =>
        dsimp only at h
        obtain ⟨x, y, r, rfl, ht, hf⟩ := pm_ii_e h
        intro H locs ls hl hP hS
        exact lv_icmp_eq hx hb hdg hck (fun cc => hgo (ht cc) H locs ls hl hP hS) (fun cc => hK _ _ _ (hf cc) H locs ls hl hP hS)
      case ne =>
        dsimp only at h
        obtain ⟨x, y, r, rfl, ht, hf⟩ := pm_ii_e h
        intro H locs ls hl hP hS
        exact lv_icmp_ne hx hb hdg hck (fun cc => hgo (ht cc) H locs ls hl hP hS) (fun cc => hK _ _ _ (hf cc) H locs ls hl hP hS)
      case lt =>
        dsimp only at h
        obtain ⟨x, y, r, rfl, ht, hf⟩ := pm_ii_e h
        intro H locs ls hl hP hS
        exact lv_icmp_lt hx hb hdg hck (fun cc => hgo (ht cc) H locs ls hl hP hS) (fun cc => hK _ _ _ (hf cc) H locs ls hl hP hS)
      case ge =>
        dsimp only at h
        obtain ⟨x, y, r, rfl, ht, hf⟩ := pm_ii_e h
        intro H locs ls hl hP hS
        exact lv_icmp_ge hx hb hdg hck (fun cc => hgo (ht cc) H locs ls hl hP hS) (fun cc => hK _ _ _ (hf cc) H locs ls hl hP hS)
      case gt =>
        dsimp only at h
        obtain ⟨x, y, r, rfl, ht, hf⟩ := pm_ii_e h
        intro H locs ls hl hP hS
        exact lv_icmp_gt hx hb hdg hck (fun cc => hgo (ht cc) H locs ls hl hP hS) (fun cc => hK _ _ _ (hf cc) H locs ls hl hP hS)
      case le =>
        dsimp only at h
        obtain ⟨x, y, r, rfl, ht, hf⟩ := pm_ii_e h
        intro H locs ls hl hP hS
        exact lv_icmp_le hx hb hdg hck (fun cc => hgo (ht cc) H locs ls hl hP hS) (fun cc => hK _ _ _ (hf cc) H locs ls hl hP hS)
  case goto off =>
    obtain ⟨rfl, hck⟩ := hck
    cases ts with
    | nil => simp at hck
    | cons q ts' =>
      obtain ⟨t, is⟩ := q
      simp only [decide_eq_true_eq] at hck
      intro H locs ls hl hP hS
      exact lv_goto hx hb hdg hck (hgo h H locs ls hl hP hS)
  case tableswitch df lo hi offs =>
    cases ts with
    | nil => simp at hck
    | cons q ts' =>
      obtain ⟨t, is⟩ := q
      simp only [Bool.and_eq_true, decide_eq_true_eq] at hck
      obtain ⟨⟨hd1, hd2⟩, hd3⟩ := hck
      obtain ⟨x, r, rfl, h1, h2⟩ := pm_i_e h
      intro H locs ls hl hP hS
      by_cases hout : x.toInt < lo ∨ hi < x.toInt
      · exact lv_tableOut hx hb hdg hout hd1 (hgo (h1 hout) H locs ls hl hP hS)
      · have hn1 : ¬ x.toInt < lo := fun z => hout (Or.inl z)
        have hn2 : ¬ hi < x.toInt := fun z => hout (Or.inr z)
        have hj : (x.toInt - lo).toNat < offs.size := by omega
        have hts' : ts'.length = offs.size := by
          have := congrArg List.length hd2
          simpa using this
        obtain ⟨q2, hq2⟩ : ∃ q2, ts'[(x.toInt - lo).toNat]? = some q2 := ⟨_, List.getElem?_eq_getElem (by omega)⟩
        have ho : offs[(x.toInt - lo).toNat]? = some offs[(x.toInt - lo).toNat] := Array.getElem?_eq_getElem hj
        have hq3 : (pc : Int) + offs[(x.toInt - lo).toNat] = (q2.1 : Int) := by
          have := congrArg (fun z => z[(x.toInt - lo).toNat]?) hd2
          simp [hq2, ho] at this
          exact this.symm
        have hx2 : x.toInt = lo + (((x.toInt - lo).toNat : Nat) : Int) := by omega
        exact lv_tableIn hx hb hdg hn1 hn2 ho hq3 (((hX _ _ _ _ (pm_sw_at ts' lo h2 _ q2 hq2 hx2)).drop) H locs ls hl hP hS)
  case getfield j =>
    obtain ⟨q, r, rfl, h⟩ := pm_r_e h
    obtain ⟨fs, hsh, h⟩ := pm_obj_e h
    obtain ⟨f, hf, h⟩ := pm_fld_e h
    obtain ⟨rfl, hck⟩ := hck
    intro H locs ls hl hP hS
    split at hck
    · next C T N hcl =>
      simp only [Bool.and_eq_true, Bool.or_eq_true, decide_eq_true_eq] at hck
      obtain ⟨hbN, hlk⟩ := hck
      have hv : (fs.mapIdx (fun j f => pm_tr ad (pm_fv M q j f)))[b]? = some (pm_tr ad (pm_fv M q b f)) := by simp [hf]
      have hlays := (pm_lays hcl).1
      rcases hlk with hlk | hlk
      · exact va_get hx hb hts (fun w hw => hTB w (hlays w hw)) hown hKK hP q (pm_w_at hsh) hcl b hbN (hts _ (hTB _ (pm_iT_in hlk))) (fun _ h9 => h9) hv hdg (hK _ _ _ h H locs ls hl hP hS)
      · exact va_getN hx hb hts (fun w hw => hTB w (hlays w hw)) hown hKK hP q (pm_w_at hsh) hcl b hbN (va_Nw.use rfl (hNW _ (pm_iN_in hlk))) (fun _ h9 => h9) hv hdg (hK _ _ _ h H locs ls hl hP hS)
    · cases hck
  case putfield j =>
    split at h
    · next x q r =>
      obtain ⟨fs, hsh, h⟩ := pm_obj_e h
      obtain ⟨f, hf, rfl, hbool, h⟩ := pm_fld_e h
      obtain ⟨rfl, hck⟩ := hck
      intro H locs ls hl hP hS
      split at hck
      · next C T N hcl =>
        simp only [Bool.and_eq_true, Bool.or_eq_true, decide_eq_true_eq] at hck
        obtain ⟨⟨⟨hbN, hlk⟩, hfin⟩, hty⟩ := hck
        obtain ⟨hlays, ty0, hty0, hnm⟩ := pm_lays hcl
        have hlen : b < (fs.mapIdx (fun j f => pm_tr ad (pm_fv M q j f))).length := by
          rw [List.length_mapIdx]; exact (List.getElem?_eq_some_iff.mp hf).1
        have hset : (pm_w SH ad ct M).set q (ad q, .inr (a % 100, (fs.mapIdx (fun j f => pm_tr ad (pm_fv M q j f))).set b (.int x))) = pm_w SH ad ct (pm_set M q b x) := pm_w_set hsh pm_set_ne (by show Sum.inr _ = _; rw [pm_set_fs hf])
        have hnar : narrow (if 100 ≤ a then FieldType.boolean else .int) (.int x) = .int x := by
          split
          · next h9 => exact pm_nar_b (hbool h9)
          · rfl
        have hfit : fits (if 100 ≤ a then FieldType.boolean else .int) (.int x) = true := by
          split
          · next h9 => exact pm_fit_b (hbool h9)
          · rfl
        rcases hlk with hlk | hlk
        · exact va_put hx hb hts (fun w hw => hTB w (hlays w hw)) ty0 hty0 hnm hown hKK hP (hDD M) hS q (pm_w_at hsh) hcl b hbN (hts _ (hTB _ (pm_iT_in hlk))) (fun _ h9 => h9) hfin hty hnar hfit hlen hdg (fun H1 locs1 hP1 _ hS1 => hK _ _ _ h H1 locs1 ls hl (hset ▸ hP1) hS1)
        · exact va_putN hx hb hts (fun w hw => hTB w (hlays w hw)) ty0 hty0 hnm hown hKK hP (hDD M) hS q (pm_w_at hsh) hcl b hbN (va_Nw.use rfl (hNW _ (pm_iN_in hlk))) (fun _ h9 => h9) hfin hty hnar hfit hlen hdg (fun H1 locs1 hP1 _ hS1 => hK _ _ _ h H1 locs1 ls hl (hset ▸ hP1) hS1)
      · cases hck
    · exact h.elim
  case getstatic j =>
    obtain ⟨rfl, hck⟩ := hck
    intro H locs ls hl hP hS
    exact va_gets hx hb hRO.1 hS hown (hts _ (hTB _ (pm_iT_in hck))) (fun _ h9 => h9) hdg (hK _ _ _ h H locs ls hl hP hS)
  case iaload =>
    subst hck
    split at h
    · obtain ⟨q, i, r, rfl, h⟩ := pm_ri_e h
      obtain ⟨t, n, hsh, rfl, hin, h⟩ := pm_arr_e h
      intro H locs ls hl hP hS
      have hw := pm_w_at (ad := ad) (ct := ct) (M := M) hsh
      rw [pm_cell_i (by decide)] at hw
      exact va_iald hx hb hKK hP q 0 hw (pm_tys_at (by decide)) hin hdg (hK _ _ _ h H locs ls hl hP hS)
    · obtain ⟨i, n, r, rfl, hin, h⟩ := pm_si_e h
      intro H locs ls hl hP hS
      exact va_ti hx hb hRO.2 hS hin rfl hdg (hK _ _ _ h H locs ls hl hP hS)
  case baload =>
    subst hck
    obtain ⟨q, i, r, rfl, h⟩ := pm_ri_e h
    obtain ⟨t, n, hsh, ht, hin, h⟩ := pm_arr_e h
    intro H locs ls hl hP hS
    rcases ht with rfl | rfl
    · have hw := pm_w_at (ad := ad) (ct := ct) (M := M) hsh
      rw [pm_cell_i (by decide)] at hw
      exact va_bald hx hb hKK hP q 1 hw (pm_tys_at (by decide)) hin hdg (hK _ _ _ h H locs ls hl hP hS)
    · have hw := pm_w_at (ad := ad) (ct := ct) (M := M) hsh
      rw [pm_cell_i (by decide)] at hw
      exact va_zald hx hb hKK hP q 2 hw (pm_tys_at (by decide)) hin hdg (hK _ _ _ h H locs ls hl hP hS)
  case saload =>
    subst hck
    obtain ⟨q, i, r, rfl, h⟩ := pm_ri_e h
    obtain ⟨t, n, hsh, rfl, hin, h⟩ := pm_arr_e h
    intro H locs ls hl hP hS
    have hw := pm_w_at (ad := ad) (ct := ct) (M := M) hsh
    rw [pm_cell_i (by decide)] at hw
    exact va_sald hx hb hKK hP q 3 hw (pm_tys_at (by decide)) hin hdg (hK _ _ _ h H locs ls hl hP hS)
  case laload =>
    subst hck
    obtain ⟨q, i, r, rfl, h⟩ := pm_ri_e h
    obtain ⟨t, n, hsh, rfl, hin, h⟩ := pm_arr_e h
    intro H locs ls hl hP hS
    have hw := pm_w_at (ad := ad) (ct := ct) (M := M) hsh
    rw [pm_cell_l] at hw
    exact va_lald hx hb hKK hP q 4 hw (pm_tys_at (by decide)) hin hdg (hK _ _ _ h H locs ls hl hP hS)
  case aaload =>
    subst hck
    obtain ⟨q, i, r, rfl, h⟩ := pm_ri_e h
    obtain ⟨ps, hsh, hin, h⟩ := pm_refs_e h
    intro H locs ls hl hP hS
    have hi : i.toNatClampNeg < ps.length := Nat.lt_of_not_le (fun z => hin (Or.inr z))
    have e : va_rf ((ps[i.toNatClampNeg]?).map ad) = pm_tr ad (.ref (ps.getD i.toNatClampNeg 0)) := by
      simp [hi, va_rf, pm_tr]
    refine va_aldq hx hb hKK hP q 5 (pm_w_at hsh) rfl hin hdg ?_
    rw [e]
    exact hK _ _ _ h H locs ls hl hP hS
  case iastore =>
    subst hck
    obtain ⟨q, i, x, r, rfl, h⟩ := pm_rii_e h
    obtain ⟨t, n, hsh, rfl, hin, h⟩ := pm_arr_e h
    intro H locs ls hl hP hS
    have hw := pm_w_at (ad := ad) (ct := ct) (M := M) hsh
    rw [pm_cell_i (by decide)] at hw
    have hset : (pm_w SH ad ct M).set q (ad q, .inl (ct 0, n, .inl (upd (M.1 q) i.toNatClampNeg x))) = pm_w SH ad ct (pm_set M q i.toNatClampNeg x) := pm_w_set hsh pm_set_ne (by rw [pm_cell_i (by decide), pm_set_row])
    exact va_iast hx hb hKK hP (hDD M) hS q 0 hw (pm_tys_at (by decide)) hin hdg (fun H1 locs1 hP1 _ hS1 => hK _ _ _ h H1 locs1 ls hl (hset ▸ hP1) hS1)
  case bastore =>
    subst hck
    obtain ⟨q, i, x, r, rfl, h⟩ := pm_rii_e h
    obtain ⟨t, n, hsh, h⟩ := pm_arr_e h
    intro H locs ls hl hP hS
    rcases h with ⟨rfl, hin, h⟩ | ⟨rfl, hbool, hin, h⟩
    · have hw := pm_w_at (ad := ad) (ct := ct) (M := M) hsh
      rw [pm_cell_i (by decide)] at hw
      have hset : (pm_w SH ad ct M).set q (ad q, .inl (ct 1, n, .inl (upd (M.1 q) i.toNatClampNeg (vp_nar .byte x)))) = pm_w SH ad ct (pm_set M q i.toNatClampNeg x.toInt8.toInt32) := pm_w_set hsh pm_set_ne (by rw [pm_cell_i (by decide), pm_set_row, vp_nar_byte])
      exact va_bast hx hb hKK hP (hDD M) hS q 1 hw (pm_tys_at (by decide)) hin hdg (fun H1 locs1 hP1 _ hS1 => hK _ _ _ h H1 locs1 ls hl (hset ▸ hP1) hS1)
    · have hw := pm_w_at (ad := ad) (ct := ct) (M := M) hsh
      rw [pm_cell_i (by decide)] at hw
      have hset : (pm_w SH ad ct M).set q (ad q, .inl (ct 2, n, .inl (upd (M.1 q) i.toNatClampNeg (vp_nar .boolean x)))) = pm_w SH ad ct (pm_set M q i.toNatClampNeg x) := pm_w_set hsh pm_set_ne (by rw [pm_cell_i (by decide), pm_set_row, pm_vnar_b hbool])
      exact va_zast hx hb hKK hP (hDD M) hS q 2 hw (pm_tys_at (by decide)) hin hdg (fun H1 locs1 hP1 _ hS1 => hK _ _ _ h H1 locs1 ls hl (hset ▸ hP1) hS1)
  case sastore =>
    subst hck
    obtain ⟨q, i, x, r, rfl, h⟩ := pm_rii_e h
    obtain ⟨t, n, hsh, rfl, hin, h⟩ := pm_arr_e h
    intro H locs ls hl hP hS
    have hw := pm_w_at (ad := ad) (ct := ct) (M := M) hsh
    rw [pm_cell_i (by decide)] at hw
    have hset : (pm_w SH ad ct M).set q (ad q, .inl (ct 3, n, .inl (upd (M.1 q) i.toNatClampNeg (vp_nar .short x)))) = pm_w SH ad ct (pm_set M q i.toNatClampNeg x.toInt16.toInt32) := pm_w_set hsh pm_set_ne (by rw [pm_cell_i (by decide), pm_set_row, vp_nar_short])
    exact va_sast hx hb hKK hP (hDD M) hS q 3 hw (pm_tys_at (by decide)) hin hdg (fun H1 locs1 hP1 _ hS1 => hK _ _ _ h H1 locs1 ls hl (hset ▸ hP1) hS1)
  case lastore =>
    subst hck
    obtain ⟨q, i, x, r, rfl, h⟩ := pm_ril_e h
    obtain ⟨t, n, hsh, rfl, hin, h⟩ := pm_arr_e h
    intro H locs ls hl hP hS
    have hw := pm_w_at (ad := ad) (ct := ct) (M := M) hsh
    rw [pm_cell_l] at hw
    have hset : (pm_w SH ad ct M).set q (ad q, .inl (ct 4, n, .inr (.inl (vp_updL (M.2 q) i.toNatClampNeg x)))) = pm_w SH ad ct (pm_setL M q i.toNatClampNeg x) := pm_w_set hsh pm_setL_ne (by rw [pm_cell_l, pm_setL_row])
    exact va_last hx hb hKK hP (hDD M) hS q 4 hw (pm_tys_at (by decide)) hin hdg (fun H1 locs1 hP1 _ hS1 => hK _ _ _ h H1 locs1 ls hl (hset ▸ hP1) hS1)
  case arraylength =>
    subst hck
    obtain ⟨q, r, rfl, h⟩ := pm_r_e h
    obtain ⟨t, n, hsh, ht5, h⟩ := pm_arr_e h
    intro H locs ls hl hP hS
    exact va_alen hx hb hKK hP q t (pm_w_at hsh) (pm_tys_at ht5) rfl hdg (hK _ _ _ h H locs ls hl hP hS)
  case invokevirtual j =>
    obtain ⟨rfl, hck⟩ := hck
    split at h
    · next q hq =>
      have e : q.1 = false ∧ q.2.1 = j := by
        rw [← hcs, List.getElem?_map, hq] at hck
        simpa using hck
      refine pm_call_ok C0 (hCT q (List.mem_of_getElem? hq)) (fun st M hk => hK _ _ _ hk) ?_ h
      rw [hdg, e.1, e.2]; rfl
    · exact h.elim
  case invokestatic j =>
    obtain ⟨rfl, hck⟩ := hck
    split at h
    · split at h
      · next q hq =>
        simp only [decide_eq_true_eq] at hck
        have e : q.1 = true ∧ q.2.1 = j := by
          rw [← hcs, List.getElem?_map, hq] at hck
          simpa using hck
        refine pm_call_ok C0 (hCT q (List.mem_of_getElem? hq)) (fun st M hk => hK _ _ _ hk) ?_ h
        rw [hdg, e.1, e.2]; rfl
      · exact h.elim
    · obtain ⟨q0, x, q1, y, n, r, rfl, h⟩ := pm_cp_e h
      obtain ⟨t0, n0, hs0, h⟩ := pm_arr_e h
      obtain ⟨t1, n1, hs1, rfl, rfl, hx0, hy0, hn0, hle0, hle1, hcat, h⟩ := pm_arr_e h
      intro H locs ls hl hP hS
      have hlkk : Cond.methodLink own j arraycopyName ∈ pm_TB := by first | exact pm_iT_in hck | (split at hck <;> first | exact pm_iT_in hck | contradiction | simp_all)
      have hw0 := pm_w_at (ad := ad) (ct := ct) (M := M) hs0
      have hw1 := pm_w_at (ad := ad) (ct := ct) (M := M) hs1
      rw [pm_cell_i (by decide)] at hw0 hw1
      have hset : (pm_w SH ad ct M).set q1 (ad q1, .inl (ct 0, n1, .inl (va_cpy (M.1 q0) (M.1 q1) x.toNatClampNeg y.toNatClampNeg n.toNatClampNeg))) = pm_w SH ad ct (pm_cpy M q0 x.toNatClampNeg q1 y.toNatClampNeg n.toNatClampNeg) := pm_w_set hs1 pm_cpy_ne (by rw [pm_cell_i (by decide), pm_cpy_row])
      have e1 : ((fun v => v.category) ∘ pm_tr ad) = (fun v : Value => v.category) := by funext v; exact pm_tr_cat ad v
      refine va_copyi hx hb (by rw [hml, hl.1]) hown (hts _ (hTB _ hlkk)) (hts _ (hTB _ pm_ac1)) (hts _ (hTB _ pm_ac2)) (hts _ (hTB _ pm_ac3)) hKK hP (hDD M) hS q0 q1 0 0 hw0 hw1 (pm_tys_at (by decide)) (pm_tys_at (by decide)) rfl hx0 hy0 hn0 hle0 hle1 (fun _ _ => rfl) (by omega) ?_ hdg (fun H1 locs1 hP1 _ hS1 => hK _ _ _ h H1 locs1 ls hl (hset ▸ hP1) hS1)
      rw [List.map_map, e1]
      have e2 : nativeFrameWords "java/lang/System" "arraycopy" 5 ≤ 11 := by decide +kernel
      omega
    · obtain ⟨q0, x, q1, y, n, r, rfl, h⟩ := pm_cp_e h
      obtain ⟨t0, n0, hs0, h⟩ := pm_arr_e h
      obtain ⟨t1, n1, hs1, rfl, rfl, hx0, hy0, hn0, hle0, hle1, hcat, h⟩ := pm_arr_e h
      intro H locs ls hl hP hS
      have hlkk : Cond.methodLink own j arraycopyName ∈ pm_TB := by first | exact pm_iT_in hck | (split at hck <;> first | exact pm_iT_in hck | contradiction | simp_all)
      have hw0 := pm_w_at (ad := ad) (ct := ct) (M := M) hs0
      have hw1 := pm_w_at (ad := ad) (ct := ct) (M := M) hs1
      rw [pm_cell_l] at hw0 hw1
      have hset : (pm_w SH ad ct M).set q1 (ad q1, .inl (ct 4, n1, .inr (.inl (va_cpy (M.2 q0) (M.2 q1) x.toNatClampNeg y.toNatClampNeg n.toNatClampNeg)))) = pm_w SH ad ct (pm_cpyL M q0 x.toNatClampNeg q1 y.toNatClampNeg n.toNatClampNeg) := pm_w_set hs1 pm_cpyL_ne (by rw [pm_cell_l, pm_cpyL_row])
      have e1 : ((fun v => v.category) ∘ pm_tr ad) = (fun v : Value => v.category) := by funext v; exact pm_tr_cat ad v
      refine va_copyl hx hb (by rw [hml, hl.1]) hown (hts _ (hTB _ hlkk)) (hts _ (hTB _ pm_ac1)) (hts _ (hTB _ pm_ac2)) (hts _ (hTB _ pm_ac3)) hKK hP (hDD M) hS q0 q1 4 4 hw0 hw1 (pm_tys_at (by decide)) (pm_tys_at (by decide)) rfl hx0 hy0 hn0 hle0 hle1 (fun _ _ => rfl) (by omega) ?_ hdg (fun H1 locs1 hP1 _ hS1 => hK _ _ _ h H1 locs1 ls hl (hset ▸ hP1) hS1)
      rw [List.map_map, e1]
      have e2 : nativeFrameWords "java/lang/System" "arraycopy" 5 ≤ 11 := by decide +kernel
      omega
  case ireturn =>
    subst hck
    split at h
    · next x =>
      obtain ⟨hret, h⟩ := h
      intro H locs ls hl hP hS
      rcases hret with rfl | ⟨rfl, hbool⟩
      · exact W.iret hx hb hr (fun t ht hW => ⟨⟨x, M, rfl, h, pm_ret C0 hP hS t ht hW⟩, hS.F ht⟩) hS.2.2 hdg
      · exact W.zret hx hb hr (pm_nar_b hbool) (fun t ht hW => ⟨⟨x, M, rfl, h, pm_ret C0 hP hS t ht hW⟩, hS.F ht⟩) hS.2.2 hdg
    · exact h.elim
  case lreturn =>
    subst hck
    split at h
    · next x =>
      obtain ⟨rfl, h⟩ := h
      intro H locs ls hl hP hS
      exact W.lret hx hb hr (fun t ht hW => ⟨⟨x, M, rfl, h, pm_ret C0 hP hS t ht hW⟩, hS.F ht⟩) hS.2.2 hdg
    · exact h.elim
  case return_ =>
    subst hck
    split at h
    · obtain ⟨rfl, h⟩ := h
      intro H locs ls hl hP hS
      exact W.vret hx hb hr (fun t ht hW => ⟨⟨M, rfl, h, pm_ret C0 hP hS t ht hW⟩, hS.F ht⟩) hS.2.2 hdg
    · exact h.elim
end PM
