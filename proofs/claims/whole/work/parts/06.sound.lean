/-! WHAT THE PURE MACHINE SAYS HOLDS OF THE MACHINE -/
def pm_Cx (p : Program) (R : Room) (s : State) (m : MethodId) (args : Array Value) (meth : Method) (c : Code) (SH : List pm_S) (ad : Nat → Nat) (ct : Nat → ClassId) (D : va_G) (own : String) (cc : ByteArray) (nL : Nat) (ret : Option FieldType) (d : Nat) (Ts : List Cond) : Prop :=
  p.tables.exec = Jvm.exec ∧ c.code = cc ∧ c.maxLocals = nL ∧ meth.sig.returnType = ret ∧ s.vm.findClass own = some m.cls ∧ (∀ w ∈ Ts, w.before args s = true) ∧ (∀ w ∈ pm_TB, w ∈ Ts) ∧ meth.locks = false ∧ va_K D pm_cl (pm_tys ct) s ∧ (∀ M, va_D (pm_A SH ad) (pm_w SH ad ct M)) ∧ pm_RO SH ad s s.heap ∧ pm_NW s ∧ d ≤ R.frames ∧ 30 * d ≤ R.locals ∧ 0 < d
def pm_At (p : Program) (l : Launch) (e : Env) (R : Room) (s : State) (m : MethodId) (args : Array Value) (below : List Frame) (meth : Method) (c : Code) (SH : List pm_S) (ad : Nat → Nat) (ct : Nat → ClassId) (D : va_G) (nL : Nat) (Q : State → Prop) (pc : Nat) (lv : pm_L) (st : List Value) (M : pm_M) : Prop :=
  ∀ (H : Heap) (locs : List Loc) (ls : Array Slot), lv_has ls nL (lv.map (pm_tp ad)) → va_P D pm_cl (pm_w SH ad ct M) H → va_S (pm_A SH ad) s.heap H locs → W p l e R s m args below meth c H locs 0 0 Q (F0 m pc ls (st.map (pm_tr ad)))
theorem pm_has {ls : Array Slot} {nL : Nat} {ad : Nat → Nat} {lv : pm_L} {i : Nat} {v : Value} (hl : lv_has ls nL (lv.map (pm_tp ad))) (h : (i, v) ∈ lv) : ls[i]? = some (.val (pm_tr ad v)) := hl.2.2 (i, pm_tr ad v) (List.mem_map.mpr ⟨(i, v), h, rfl⟩)
theorem pm_has_sub {ls : Array Slot} {nL : Nat} {l l' : List (Nat × Value)} (hl : lv_has ls nL l) (h : ∀ q ∈ l', q ∈ l) : lv_has ls nL l' := ⟨hl.1, hl.2.1, fun q hq => hl.2.2 q (h q hq)⟩
theorem pm_map_sub {ad : Nat → Nat} {lv lv' : pm_L} (h : ∀ q ∈ lv', q ∈ lv) : ∀ q ∈ lv'.map (pm_tp ad), q ∈ lv.map (pm_tp ad) := by
  intro q hq
  obtain ⟨x, h1, h2⟩ := List.mem_map.mp hq
  exact List.mem_map.mpr ⟨x, h x h1, h2⟩
theorem pm_has_st {ls : Array Slot} {nL i : Nat} {ad : Nat → Nat} {lv : pm_L} {v v' : Value} (hl : lv_has ls nL ((i, v') :: (lv.map (pm_tp ad)).filter (fun q => !(q.1 == i) && !(q.1 + 1 == i && q.2.category == 2)))) (hv : pm_tr ad v = v') : lv_has ls nL (((i, v) :: pm_rm i lv).map (pm_tp ad)) := by
  refine pm_has_sub hl (fun q hq => ?_)
  rcases List.mem_cons.mp hq with x | x
  · subst x; subst hv; exact List.mem_cons_self
  · obtain ⟨z, h1, rfl⟩ := List.mem_map.mp x
    obtain ⟨h2, h3, h4⟩ := pm_rm_in h1
    refine List.mem_cons_of_mem _ (List.mem_filter.mpr ⟨List.mem_map.mpr ⟨z, h2, rfl⟩, ?_⟩)
    simp only [pm_tp, pm_tr_cat]
    simp only [Bool.and_eq_true, Bool.not_eq_true', beq_eq_false_iff_ne, ne_eq, Bool.and_eq_false_iff]
    refine ⟨h3, ?_⟩
    rcases Nat.decEq (z.1 + 1) i with n | n
    · exact Or.inl n
    · exact Or.inr (fun c => h4 ⟨n, c⟩)
theorem pm_has_stL {ls : Array Slot} {nL i : Nat} {ad : Nat → Nat} {lv : pm_L} {x : Int64} (hl : lv_has ls nL ((i, .long x) :: (lv.map (pm_tp ad)).filter (fun q => !(q.1 == i) && (!(q.1 == i + 1) && !(q.1 + 1 == i && q.2.category == 2))))) : lv_has ls nL (((i, .long x) :: pm_rm (i + 1) (pm_rm i lv)).map (pm_tp ad)) := by
  refine pm_has_sub hl (fun q hq => ?_)
  rcases List.mem_cons.mp hq with y | y
  · subst y; exact List.mem_cons_self
  · obtain ⟨z, h0, rfl⟩ := List.mem_map.mp y
    obtain ⟨h1, h5, -⟩ := pm_rm_in h0
    obtain ⟨h2, h3, h4⟩ := pm_rm_in h1
    refine List.mem_cons_of_mem _ (List.mem_filter.mpr ⟨List.mem_map.mpr ⟨z, h2, rfl⟩, ?_⟩)
    simp only [pm_tp, pm_tr_cat]
    simp only [Bool.and_eq_true, Bool.not_eq_true', beq_eq_false_iff_ne, ne_eq, Bool.and_eq_false_iff]
    refine ⟨h3, h5, ?_⟩
    rcases Nat.decEq (z.1 + 1) i with n | n
    · exact Or.inl n
    · exact Or.inr (fun c => h4 ⟨n, c⟩)
section PM
variable {p : Program} {l : Launch} {e : Env} {R : Room} {s : State} {m : MethodId} {args : Array Value} {below : List Frame} {meth : Method} {c : Code} {SH : List pm_S} {ad : Nat → Nat} {ct : Nat → ClassId} {D : va_G} {own : String} {cc : ByteArray} {nL : Nat} {ret : Option FieldType} {d : Nat} {Ts : List Cond} {Q : State → Prop}
theorem pm_At.drop {t : Nat} {is : List Nat} {lv : pm_L} {st : List Value} {M : pm_M} (h : pm_At p l e R s m args below meth c SH ad ct D nL Q t (pm_rs is lv) st M) : pm_At p l e R s m args below meth c SH ad ct D nL Q t lv st M :=
  fun H locs ls hl hP hS => h H locs ls (pm_has_sub hl (pm_map_sub (fun _ hq => pm_rs_in hq))) hP hS
theorem pm_good {y : MethodName} {bb : ByteArray} {nL : Nat} {rt : Option FieldType} {Ts ws : List Cond} (hT : ∀ w ∈ pm_TB, w ∈ Ts) (hc : Cond.code y bb nL rt ∈ pm_TB) (hw : ∀ w ∈ ws, w ∈ pm_TB) : GoodIn Ts (ws ++ (.code y bb nL rt :: pm_TB)) := by
  intro w hw1
  have h : w ∈ pm_TB := by
    rcases List.mem_append.mp hw1 with x | x
    · exact hw w x
    · rcases List.mem_cons.mp x with z | z
      · subst z; exact hc
      · exact z
  exact ⟨hT w h, pm_TB_good h⟩
/-- a call -/
theorem pm_call_ok (C : pm_Cx p R s m args meth c SH ad ct D own cc nL ret d Ts) {q : pm_C} (hq : pm_Callee SH own d q) {pc : Nat} {lv : pm_L} {st : List Value} {M : pm_M} {K : List Value → pm_M → Prop} (hK : ∀ st M, K st M → pm_At p l e R s m args below meth c SH ad ct D nL Q (pc + 3) lv st M)
    (hdg : decode cc pc = .ok (if q.1 then .invokestatic q.2.1 else .invokevirtual q.2.1, 3)) (h : pm_call SH q st M K) : pm_At p l e R s m args below meth c SH ad ct D nL Q pc lv st M := by
  obtain ⟨hx, hb, hml, hr, hown, hts, hTB, hlocks, hKK, hDD, hRO, hNW, hRf, hRl, hd0⟩ := C
  obtain ⟨y, bb, nC, d', hSem, hd', hcode, hck⟩ := hq
  obtain ⟨qs, qi, qc, qn, qr, qT⟩ := q
  obtain ⟨hlen, hrecv, hcat, hT⟩ := h
  dsimp only at hSem hcode hck hdg hlen hrecv hcat hT
  simp only [pm_ckC, Bool.and_eq_true, decide_eq_true_eq, Bool.or_eq_true, pm_lk1, pm_lk2] at hck
  obtain ⟨⟨⟨⟨hnC, hini0⟩, hmh⟩, hlink⟩, hkind⟩ := hck
  have hini := pm_iT_in hini0
  intro H locs ls hl hP hS
  have hsplit : st = (st.take qn) ++ st.drop qn := (List.take_append_drop qn st).symm
  have hM := hSem l ad ct D (st.take qn).reverse M (fun r M' => K (r.toList ++ st.drop qn) M') hT
  have hRoom : (pm_rm0 d').frames + 1 ≤ R.frames ∧ 8 + (nC + 11) + (pm_rm0 d').locals ≤ R.locals := by
    refine ⟨?_, ?_⟩
    · show d' + 1 ≤ R.frames; omega
    · show 8 + (nC + 11) + 30 * d' ≤ R.locals; omega
  have hblind : FrameBlind (va_Pc ((st.take qn).reverse.map (pm_tr ad)) (pm_Wd SH ad ct D M)) := fun a U g mk q => by
    obtain ⟨q0, qP, qK, qD, qR, qN⟩ := q
    exact ⟨q0, qP, va_K.moved (u := U) (U := U.calling g mk a) (Vm.Alike.refl U.vm) qK, qD, pm_RO.moved (u := U) (U := U.calling g mk a) (Vm.Alike.refl U.vm) qR, pm_NW.same (u := U) (U := U.calling g mk a) rfl qN⟩
  have hROH : pm_RO SH ad s H := hRO.kept (fun a h1 h2 => hS.2.1 a h1 h2)
  have hpre : ∀ U : State, U.heap = H → s.WarmedH U.vm → va_Pc ((st.take qn).reverse.map (pm_tr ad)) (pm_Wd SH ad ct D M) ((st.take qn).reverse.map (pm_tr ad)).toArray U := fun U hU hW =>
    ⟨rfl, by rw [hU]; exact hP, va_K.moved hW.alike hKK, hDD M, by rw [hU]; exact hROH.moved hW.alike, hNW.warm hW⟩
  have hgo : ∀ (r : Option Value) (u : pm_M) (t : State) (H1 : Heap) (locs1 : List Loc), t.heap = H1 → K (r.toList ++ st.drop qn) u → pm_Wd SH ad ct D u t → va_S (pm_A SH ad) s.heap H1 locs1 → W p l e R s m args below meth c H1 locs1 0 0 Q (F0 m (pc + 3) ls ((r.toList ++ st.drop qn).map (pm_tr ad))) := by
    intro r u t H1 locs1 ht hk hw hS1
    exact hK _ _ hk H1 locs1 ls hl (by rw [← ht]; exact hw.1) hS1
  have hrun : va_Run p l e R s m args below meth c H locs 0 0 0 0 (F0 m pc ls (st.map (pm_tr ad))) ((st.drop qn).map (pm_tr ad)) (pm_Q SH ad ct D qr (fun r M' => K (r.toList ++ st.drop qn) M') ((st.take qn).reverse.map (pm_tr ad)).toArray) (pm_A SH ad) := by
    have hroomS : 2 * (F0 m pc ls (st.map (pm_tr ad))).monitorRoom + (((st.drop qn).map (pm_tr ad)).map fun v => v.category).sum ≤ 8 := by
      refine lv_room ?_
      rw [List.map_map]
      have e1 : ((fun v => v.category) ∘ pm_tr ad) = (fun v : Value => v.category) := by funext v; exact pm_tr_cat ad v
      rw [e1]; exact hcat
    cases qs with
    | true =>
      simp only [Bool.and_eq_true, decide_eq_true_eq] at hkind
      obtain ⟨hst0, hpar⟩ := hkind
      have hst := pm_iT_in hst0
      have hnn : ((st.take qn).reverse.map (pm_tr ad)).length = qn := by simp; omega
      have hstk : (F0 m pc ls (st.map (pm_tr ad))).stack = ((st.take qn).reverse.map (pm_tr ad)).reverse ++ (st.drop qn).map (pm_tr ad) := by
        show st.map (pm_tr ad) = _
        rw [← List.map_reverse, List.reverse_reverse, ← List.map_append, List.take_append_drop]
      rcases hlink with hlk0 | hlk0
      · have hlk := pm_iT_in hlk0
        refine va_runS (bytes := bb) (maxL := nC) (ret := qr) ⟨hx, hb, hml, hown, hts⟩ hM ?_ ⟨hblind, hpre⟩ rfl hnn hl.1 hstk hroomS hdg ⟨Nat.zero_le _, Nat.zero_le _⟩
        refine va_cwS qn hts ?_ rfl rfl rfl ⟨hmh.1, hmh.2, hpar⟩ hRoom
        refine pm_good (ws := [.methodLink own qi y, .static y, .initialized y.cls]) hTB hcode ?_
        intro w hw
        simp only [List.mem_cons, List.not_mem_nil, or_false] at hw
        rcases hw with rfl | rfl | rfl
        · exact hlk
        · exact hst
        · exact hini
      · have hlk := pm_iN_in hlk0
        refine va_runSN (host := RX6) (bytes := bb) (maxL := nC) (ret := qr) ⟨hx, hb, hml, hown, hts⟩ hM ⟨?_, hts _ (hTB _ hst), trivial⟩ ⟨hblind, hpre⟩ rfl hnn hl.1 hstk hroomS hdg ⟨Nat.zero_le _, Nat.zero_le _⟩
        refine va_cnB (host := RX6) qn hts (pm_good (ws := []) hTB hcode (fun w h => by cases h)) rfl rfl rfl (hNW _ hlk) (hts _ (hTB _ hini)) ⟨hmh.1, hmh.2, hpar⟩ hRoom
    | false =>
      simp only [Bool.and_eq_true, decide_eq_true_eq] at hkind
      obtain ⟨⟨⟨hinst0, hsel0⟩, hpar⟩, hcls⟩ := hkind
      have hinst := pm_iT_in hinst0
      have hsel := pm_iT_in hsel0
      have hrc := hrecv rfl
      unfold pm_recv at hrc
      split at hrc
      · next q0 as heq =>
        obtain ⟨fs, hsh, -⟩ := pm_obj_e hrc
        rw [heq] at hM hblind hpre ⊢
        have hqn : as.length + 1 = qn := by
          have := congrArg List.length heq
          simp at this
          omega
        have hpar2 : (parseMethodDescriptor y.desc).map (fun d => d.parameters.length) = some as.length := by
          cases hpm : parseMethodDescriptor y.desc with
          | none => rw [hpm] at hpar; cases hpar
          | some dd => rw [hpm] at hpar; simp at hpar ⊢; omega
        have hnn : (as.map (pm_tr ad)).length = as.length := by simp
        have hstk : (F0 m pc ls (st.map (pm_tr ad))).stack = (as.map (pm_tr ad)).reverse ++ .ref (ad q0) :: (st.drop qn).map (pm_tr ad) := by
          show st.map (pm_tr ad) = _
          have h1 : st.take qn = as.reverse ++ [.ref q0] := by
            have := congrArg List.reverse heq
            simpa using this
          conv => lhs; rw [hsplit, h1]
          simp [pm_tr]
        obtain ⟨qcl, hcl⟩ : ∃ z, pm_cl[qc]? = some z := by
          cases hz : pm_cl[qc]? with
          | none => rw [hz] at hcls; cases hcls
          | some z => exact ⟨z, rfl⟩
        have hcn : qcl.1 = y.cls := by rw [hcl] at hcls; simpa using hcls
        have hrv := va_recv hKK hP hcl (pm_w_at hsh)
        rw [hcn] at hrv
        rcases hlink with hlk0 | hlk0
        · have hlk := pm_iT_in hlk0
          refine va_runV (bytes := bb) (maxL := nC) (ret := qr) (C := y.cls) (As := as.map (pm_tr ad)) ⟨hx, hb, hml, hown, hts⟩ hM ?_ ⟨hblind, hrv, hpre⟩ rfl hnn hl.1 hstk hroomS hdg ⟨Nat.zero_le _, Nat.zero_le _⟩
          refine cwV as.length hts ?_ rfl rfl rfl ⟨rfl, hmh.1, hmh.2, hpar2⟩ hRoom
          refine pm_good (ws := [.methodLink own qi y, .instanceMethod y, .selects y.cls y y, .initialized y.cls]) hTB hcode ?_
          intro w hw
          simp only [List.mem_cons, List.not_mem_nil, or_false] at hw
          rcases hw with rfl | rfl | rfl | rfl
          · exact hlk
          · exact hinst
          · exact hsel
          · exact hini
        · have hlk := pm_iN_in hlk0
          refine va_runVN (host := RX6) (bytes := bb) (maxL := nC) (ret := qr) (C := y.cls) (As := as.map (pm_tr ad)) ⟨hx, hb, hml, hown, hts⟩ hM ⟨?_, hts _ (hTB _ hinst), hts _ (hTB _ hsel)⟩ ⟨hblind, hrv, hpre⟩ rfl hnn hl.1 hstk hroomS hdg ⟨Nat.zero_le _, Nat.zero_le _⟩
          refine va_cnB (host := RX6) as.length hts (pm_good (ws := []) hTB hcode (fun w h => by cases h)) rfl rfl rfl (hNW _ hlk) (hts _ (hTB _ hini)) ⟨hmh.1, hmh.2, hpar2⟩ hRoom
      · exact hrc.elim
  have hA1 : ∀ q : Nat, q < H.size → pm_A SH ad q → pm_A SH ad q := fun _ _ h => h
  have hA2 : ∀ q : Nat, pm_A SH ad q → pm_A SH ad q := fun _ h => h
  unfold pm_Q at hrun
  split at hrun
  · exact va_callv hrun hS hA1 hA2 (fun u t H1 locs1 ht _ hp hB _ _ hS1 => hgo none u t H1 locs1 ht hp hB hS1)
  · exact va_calll hrun hS hA1 hA2 (fun r u t H1 locs1 ht _ hp hB _ _ hS1 => hgo (some (.long r)) u t H1 locs1 ht hp hB hS1)
  · exact va_calli hrun hS hA1 hA2 (fun r u t H1 locs1 ht _ hp hB _ _ hS1 => hgo (some (.int r)) u t H1 locs1 ht hp hB hS1)
end PM
