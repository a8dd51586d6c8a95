section PM
variable {p : Program} {l : Launch} {e : Env} {R : Room} {s : State} {m : MethodId} {args : Array Value} {below : List Frame} {meth : Method} {c : Code} {SH : List pm_S} {ad : Nat → Nat} {ct : Nat → ClassId} {D : va_G} {own : String} {cc : ByteArray} {nL : Nat} {ret : Option FieldType} {d : Nat} {Ts : List Cond}
theorem pm_wp_ok (C : pm_Cx p R s m args meth c SH ad ct D own cc nL ret d Ts) {CT : List pm_C} {cs : List (Bool × Nat)} (hcs : CT.map (fun q => (q.1, q.2.1)) = cs) (hCT : ∀ q ∈ CT, pm_Callee SH own d q) {X : pm_X} {k : Option Value → pm_M → Prop} {nx : Nat × List Nat}
    (hX : ∀ t lv st M, X t lv st M → pm_At p l e R s m args below meth c SH ad ct D nL (MQ below (pm_Q SH ad ct D ret k) args s 0 0 (pm_A SH ad)) t lv st M) :
    ∀ (is : List pm_I) (pc : Nat) (lv : pm_L) (st : List Value) (M : pm_M), pm_cks own cc nL cs nx pc is = true → pm_wp SH CT ret X k nx is lv st M → pm_At p l e R s m args below meth c SH ad ct D nL (MQ below (pm_Q SH ad ct D ret k) args s 0 0 (pm_A SH ad)) pc lv st M := by
  intro is
  induction is with
  | nil =>
    intro pc lv st M hck h
    have hpc : pc = nx.1 := by simpa [pm_cks] using hck
    subst hpc
    exact (hX _ _ _ _ h).drop
  | cons it is ih =>
    intro pc lv st M hck h
    obtain ⟨pc', i, n, a, b, ts⟩ := it
    unfold pm_cks at hck
    simp only [Bool.and_eq_true, beq_iff_eq, decide_eq_true_eq] at hck
    obtain ⟨⟨⟨rfl, hdg⟩, hck1⟩, hck2⟩ := hck
    unfold pm_wp at h
    by_cases hr : pm_cks own cc nL cs nx (pc' + n) is = true
    · exact pm_step_ok C hcs hCT hck1 hdg hX (fun lv st M hk => ih (pc' + n) lv st M hr hk) h
    · have h2 : pm_step SH CT ret X k (pc', i, n, a, b, ts) lv st M (fun _ _ _ => False) := by
        split at hck2
        · exact h
        · exact h
        · exact h
        · exact h
        · exact h
        · exact absurd hck2 hr
      exact pm_step_ok C hcs hCT hck1 hdg hX (fun lv st M hk => hk.elim) h2
end PM
theorem pm_sl (ad : Nat → Nat) : ∀ vs : List Value, (lg_sl (vs.map (pm_tr ad))).length = (lg_sl vs).length
  | [] => rfl
  | v :: vs => by
    have := pm_sl ad vs
    cases v <;> simp_all [lg_sl, pm_tr, Value.category]
theorem pm_args (ad : Nat → Nat) : ∀ (vs : List Value) (i : Nat), lv_args i (vs.map (pm_tr ad)) = (lv_args i vs).map (pm_tp ad)
  | [], _ => rfl
  | v :: vs, i => by
    show (i, pm_tr ad v) :: lv_args _ (vs.map (pm_tr ad)) = _
    rw [pm_args ad vs, pm_tr_cat]; rfl
/-- A METHOD OUT OF ITS BLOCKS -/
theorem pm_Sem_intro {SH : List pm_S} {y : MethodName} {bb : ByteArray} {nL : Nat} {ret : Option FieldType} {d : Nat} {T : pm_T} (bl : List (Nat × pm_B)) (CT : List pm_C) (cs : List (Bool × Nat)) (hcs : CT.map (fun q => (q.1, q.2.1)) = cs) (hCT : ∀ q ∈ CT, pm_Callee SH y.cls d q) (hck : pm_ckB y.cls bb nL cs bl = true) (hpl : plainFor y = true) (hd : 0 < d)
    (u : ∀ (X : pm_X) (k : Option Value → pm_M → Prop), (∀ t B, (t, B) ∈ bl → ∀ lv st M, pm_wp SH CT ret X k B.2 B.1 lv st M → X t lv st M) → ∀ (args : List Value) (M : pm_M), T args M k → (lg_sl args).length ≤ nL ∧ X 0 (lv_args 0 args) [] M) : pm_Sem SH y bb nL ret d T := by
  intro l ad ct D args M k hT
  refine va_MetF (cc := bb) (maxL := nL) (ret := ret) hpl rfl ?_
  intro p e s m args' below meth c s₁ B hml hv
  obtain ⟨rfl, hP, hK, hD, hRO, hNW⟩ := hv
  have hx := B.exec
  have hb := B.bytes
  have hr := B.returns
  have hts := atoms_spec (ws := .code y bb nL ret :: pm_TB) B.pre
  have hown : s.vm.findClass y.cls = some m.cls := findClass_of_methodNamed B.named
  have hlocks := B.notSynchronized
  have C : pm_Cx p (headSpec (.code y bb nL ret :: pm_TB) (pm_rm0 d)).room s m (args.map (pm_tr ad)).toArray meth c SH ad ct D y.cls bb nL ret d (.code y bb nL ret :: pm_TB) :=
    ⟨hx, hb, hml, hr, hown, hts, fun w hw => List.mem_cons_of_mem _ hw, hlocks, hK, pm_D hD, hRO, hNW, Nat.le_refl _, Nat.le_refl _, hd⟩
  have hXX : ∀ t B, (t, B) ∈ bl → ∀ lv st M, pm_wp SH CT ret (pm_At p l e (headSpec (.code y bb nL ret :: pm_TB) (pm_rm0 d)).room s m (args.map (pm_tr ad)).toArray below meth c SH ad ct D nL (MQ below (pm_Q SH ad ct D ret k) (args.map (pm_tr ad)).toArray s 0 0 (pm_A SH ad))) k B.2 B.1 lv st M → pm_At p l e (headSpec (.code y bb nL ret :: pm_TB) (pm_rm0 d)).room s m (args.map (pm_tr ad)).toArray below meth c SH ad ct D nL (MQ below (pm_Q SH ad ct D ret k) (args.map (pm_tr ad)).toArray s 0 0 (pm_A SH ad)) t lv st M := by
    intro t B hB lv st M hw
    have hck1 := List.all_eq_true.mp hck (t, B) hB
    exact pm_wp_ok C hcs hCT (fun _ _ _ _ h => h) B.1 t lv st M hck1 hw
  obtain ⟨hlen, hX0⟩ := u _ k hXX args M hT
  have hl := lv_entry (args.map (pm_tr ad)) (n := nL) (by rw [pm_sl]; exact hlen)
  rw [pm_args] at hl
  rw [lg_entry_eq]
  exact hX0 s.heap [] _ hl hP va_S.rf
