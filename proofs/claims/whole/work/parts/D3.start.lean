/-! THE LAW, FROM ITS ENTRY -/
theorem st_int {args : Array Value} {s : State} {t : Term} {v : Int32} (h : (Cond.eq t (.int v)).before args s = true) : t.eval args s none [] s = some (.int v) := Cond.eq_int h rfl
theorem pm_NW_of {args : Array Value} {s : State} (h : ∀ w ∈ lw_tbl, w.before args s = true) : pm_NW s := by
  intro w hw
  have h1 := (List.mem_filter.mp hw).1
  have h2 := (List.mem_filter.mp hw).2
  cases w <;> first | exact va_Nw.of rfl (h _ h1) | (simp [pm_nest] at h2)
theorem arr_known {args : Array Value} {s : State} {ty : FieldType} (h : (Cond.arrayClass ty).before args s = true) (hp : ∀ (U : State) (q : ClassId), U.vm.findClass ("[" ++ ty.toString) = some q → va_RA U q ty) : ∃ cA, ArrOfT s cA ty ∧ va_RA s cA ty := by
  obtain ⟨cA, kA, comp, hf, hk, hkind⟩ := Cond.arrayClass_spec h
  exact ⟨cA, fun n z => ⟨fun k h => (by cases h), kA, hk, comp, hkind⟩, hp s cA hf⟩
theorem tray_known {args : Array Value} {s : State} {C : String} (h : (Cond.arrayOver (.object C)).before args s = true) : ∃ cA, ArrOfT s cA (.object C) ∧ va_RA s cA (.object C) := by
  obtain ⟨comp, c, k, h1, h2, h3, h4, h5⟩ := Cond.arrayOver_spec h
  exact ⟨c, fun n z => ⟨fun k h => (by cases h), k, h3, comp, h4⟩, k, comp, h3, h4, h1, h5⟩
theorem K_known {args : Array Value} {s : State} (h : ∀ w ∈ lw_tbl, w.before args s = true) : ∃ (D : va_G) (ct : Nat → ClassId), va_K D pm_cl (pm_tys ct) s := by
  have ht : ∀ w, pm_iT w = true → w.before args s = true := fun w hw => h w (pm_TB_in (pm_iT_in hw))
  have hp : ∀ {C : String} {T : u_T} {N : Nat}, (∀ w ∈ u_ws C T N, w ∈ pm_TB) → ∀ w ∈ u_ws C T N, w ∈ lw_tbl := fun a w hw => pm_TB_in (a w hw)
  obtain ⟨c0, i0, k0⟩ := u_known (C := RX0) (T := TX0) (N := 8) (n := 8) h (hp pm_lays0) (ht _ (by decide +kernel))
  obtain ⟨c1, i1, k1⟩ := u_known (C := RX1) (T := TX1) (N := 4) (n := 4) h (hp pm_lays1) (ht _ (by decide +kernel))
  obtain ⟨c2, i2, k2⟩ := u_known (C := RX2) (T := TX2) (N := 2) (n := 2) h (hp pm_lays2) (ht _ (by decide +kernel))
  obtain ⟨c3, i3, k3⟩ := u_known (C := RX3) (T := TX3) (N := 9) (n := 9) h (hp pm_lays3) (ht _ (by decide +kernel))
  obtain ⟨c4, i4, k4⟩ := u_known (C := RX4) (T := TX4) (N := 7) (n := 7) h (hp pm_lays4) (ht _ (by decide +kernel))
  obtain ⟨c5, i5, k5⟩ := u_known (C := RX5) (T := TX5) (N := 4) (n := 4) h (hp pm_lays5) (ht _ (by decide +kernel))
  obtain ⟨c6, i6, k6⟩ := u_known (C := RX6) (T := TX6) (N := 10) (n := 10) h (hp pm_lays6) (ht _ (by decide +kernel))
  obtain ⟨c7, i7, k7⟩ := u_known (C := RX7) (T := TX7) (N := 42) (n := 42) h (hp pm_lays7) (ht _ (by decide +kernel))
  obtain ⟨t0, a0, b0⟩ := arr_known (ty := .int) (ht (Cond.arrayClass .int) (by decide +kernel)) (fun _ _ h => h)
  obtain ⟨t1, a1, b1⟩ := arr_known (ty := .byte) (ht (Cond.arrayClass .byte) (by decide +kernel)) (fun _ _ h => h)
  obtain ⟨t2, a2, b2⟩ := arr_known (ty := .boolean) (ht (Cond.arrayClass .boolean) (by decide +kernel)) (fun _ _ h => h)
  obtain ⟨t3, a3, b3⟩ := arr_known (ty := .short) (ht (Cond.arrayClass .short) (by decide +kernel)) (fun _ _ h => h)
  obtain ⟨t4, a4, b4⟩ := arr_known (ty := .long) (ht (Cond.arrayClass .long) (by decide +kernel)) (fun _ _ h => h)
  obtain ⟨t5, a5, b5⟩ := tray_known (C := "PatienceDesk$Tray") (h (Cond.arrayOver (.object "PatienceDesk$Tray")) (by decide +kernel))
  refine ⟨(fun k => match k with | 0 => c0 | 1 => c1 | 2 => c2 | 3 => c3 | 4 => c4 | 5 => c5 | 6 => c6 | _ => c7, fun k => match k with | 0 => i0 | 1 => i1 | 2 => i2 | 3 => i3 | 4 => i4 | 5 => i5 | 6 => i6 | _ => i7), fun k => match k with | 0 => t0 | 1 => t1 | 2 => t2 | 3 => t3 | 4 => t4 | _ => t5, fun k q hq => ?_, fun k q hq => ?_⟩
  · rcases k with _ | _ | _ | _ | _ | _ | _ | _ | k
    · cases hq; exact k0
    · cases hq; exact k1
    · cases hq; exact k2
    · cases hq; exact k3
    · cases hq; exact k4
    · cases hq; exact k5
    · cases hq; exact k6
    · cases hq; exact k7
    · simp [pm_cl] at hq
  · rcases k with _ | _ | _ | _ | _ | _ | k
    · cases hq; exact ⟨a0, b0⟩
    · cases hq; exact ⟨a1, b1⟩
    · cases hq; exact ⟨a2, b2⟩
    · cases hq; exact ⟨a3, b3⟩
    · cases hq; exact ⟨a4, b4⟩
    · cases hq; exact ⟨a5, b5⟩
    · simp [pm_tys] at hq
/-- the row of the laws, as the statement gives it -/
theorem la_known {b : Nat} {s : State} (hts : ∀ w ∈ lw_tbl, w.before #[Value.ref b] s = true) (hgv : (Jvm.Cond.and given_1 narrow_1).before #[Value.ref b] s = true) {A : Nat → Prop} (hA : ∀ a : Nat, a < s.heap.size → ¬ A a) : ∃ la : Nat, va_Z "PatienceDesk" "LAWS_ABOVE" "[I" (.ref la) A s s.heap ∧ va_T .int la 5 (fun j => .int (pm_laws.getD j 0)) A s s.heap := by
  have hs := flat_of_before _ hgv
  have harr : (Cond.arrayOf (Term.static "PatienceDesk" "LAWS_ABOVE" "[I") .int).before #[Value.ref b] s = true := hs _ (by decide +kernel)
  have hlen := st_int (hs (Cond.eq (Term.length (Term.static "PatienceDesk" "LAWS_ABOVE" "[I")) (.int 5)) (by decide +kernel))
  have e0 := st_int (hs (Cond.eq (Term.elem (Term.static "PatienceDesk" "LAWS_ABOVE" "[I") (.int 0)) (.int 1)) (by decide +kernel))
  have e1 := st_int (hs (Cond.eq (Term.elem (Term.static "PatienceDesk" "LAWS_ABOVE" "[I") (.int 1)) (.int 3)) (by decide +kernel))
  have e2 := st_int (hs (Cond.eq (Term.elem (Term.static "PatienceDesk" "LAWS_ABOVE" "[I") (.int 2)) (.int 5)) (by decide +kernel))
  have e3 := st_int (hs (Cond.eq (Term.elem (Term.static "PatienceDesk" "LAWS_ABOVE" "[I") (.int 3)) (.int 11)) (by decide +kernel))
  have e4 := st_int (hs (Cond.eq (Term.elem (Term.static "PatienceDesk" "LAWS_ABOVE" "[I") (.int 4)) (.int 21)) (by decide +kernel))
  obtain ⟨la, h1, h2⟩ := va_Tof (N := 5) (f := fun j => .int (pm_laws.getD j 0)) (A := A) (by decide) harr hlen (fun j hj => by
    rcases (show j = 0 ∨ j = 1 ∨ j = 2 ∨ j = 3 ∨ j = 4 by omega) with rfl | rfl | rfl | rfl | rfl
    · exact e0
    · exact e1
    · exact e2
    · exact e3
    · exact e4) hA
  exact ⟨la, va_Zof (hts (Cond.laysStatic "PatienceDesk" "LAWS_ABOVE" "[I") (by decide +kernel)) (hts (Cond.initialized "PatienceDesk") (by decide +kernel)) h1 hA, h2⟩
theorem hfs_X6 : ∀ j, j < 10 → ∀ ty, parseFieldDescriptor (TX6 j).2.2.1 = some ty → defaultValue ty = vp_V [.null, .null, .null, .null, .null, .null, .null, .int 0, .int 0, .int 0] j := by
  intro j hj ty h
  rcases j with _ | j
  · have e : parseFieldDescriptor (TX6 0).2.2.1 = some (.object "PatienceDesk$Deck") := by decide +kernel
    have e2 := Option.some.inj (e.symm.trans h); subst e2; rfl
  rcases j with _ | j
  · have e : parseFieldDescriptor (TX6 1).2.2.1 = some (.object "PatienceDesk$Stand") := by decide +kernel
    have e2 := Option.some.inj (e.symm.trans h); subst e2; rfl
  rcases j with _ | j
  · have e : parseFieldDescriptor (TX6 2).2.2.1 = some (.object "PatienceDesk$History") := by decide +kernel
    have e2 := Option.some.inj (e.symm.trans h); subst e2; rfl
  rcases j with _ | j
  · have e : parseFieldDescriptor (TX6 3).2.2.1 = some (.array (.object "PatienceDesk$Tray")) := by decide +kernel
    have e2 := Option.some.inj (e.symm.trans h); subst e2; rfl
  rcases j with _ | j
  · have e : parseFieldDescriptor (TX6 4).2.2.1 = some (.array .short) := by decide +kernel
    have e2 := Option.some.inj (e.symm.trans h); subst e2; rfl
  rcases j with _ | j
  · have e : parseFieldDescriptor (TX6 5).2.2.1 = some (.object "PatienceDesk$Search") := by decide +kernel
    have e2 := Option.some.inj (e.symm.trans h); subst e2; rfl
  rcases j with _ | j
  · have e : parseFieldDescriptor (TX6 6).2.2.1 = some (.object "PatienceDesk$Plan") := by decide +kernel
    have e2 := Option.some.inj (e.symm.trans h); subst e2; rfl
  rcases j with _ | j
  · have e : parseFieldDescriptor (TX6 7).2.2.1 = some .int := by decide +kernel
    have e2 := Option.some.inj (e.symm.trans h); subst e2; rfl
  rcases j with _ | j
  · have e : parseFieldDescriptor (TX6 8).2.2.1 = some .int := by decide +kernel
    have e2 := Option.some.inj (e.symm.trans h); subst e2; rfl
  rcases j with _ | j
  · have e : parseFieldDescriptor (TX6 9).2.2.1 = some .int := by decide +kernel
    have e2 := Option.some.inj (e.symm.trans h); subst e2; rfl
  · omega
theorem hfs_X7 : ∀ j, j < 42 → ∀ ty, parseFieldDescriptor (TX7 j).2.2.1 = some ty → defaultValue ty = vp_V [.int 0, .int 0, .int 0, .int 0, .int 0, .int 0, .null, .int 0, .null, .null, .null, .null, .int 0, .int 0, .null, .null, .null, .null, .null, .null, .null, .null, .int 0, .int 0, .null, .null, .null, .null, .null, .null, .int 0, .null, .null, .null, .null, .null, .null, .int 0, .null, .null, .null, .null] j := by
  intro j hj ty h
  rcases j with _ | j
  · have e : parseFieldDescriptor (TX7 0).2.2.1 = some .int := by decide +kernel
    have e2 := Option.some.inj (e.symm.trans h); subst e2; rfl
  rcases j with _ | j
  · have e : parseFieldDescriptor (TX7 1).2.2.1 = some .int := by decide +kernel
    have e2 := Option.some.inj (e.symm.trans h); subst e2; rfl
  rcases j with _ | j
  · have e : parseFieldDescriptor (TX7 2).2.2.1 = some .int := by decide +kernel
    have e2 := Option.some.inj (e.symm.trans h); subst e2; rfl
  rcases j with _ | j
  · have e : parseFieldDescriptor (TX7 3).2.2.1 = some .int := by decide +kernel
    have e2 := Option.some.inj (e.symm.trans h); subst e2; rfl
  rcases j with _ | j
  · have e : parseFieldDescriptor (TX7 4).2.2.1 = some .int := by decide +kernel
    have e2 := Option.some.inj (e.symm.trans h); subst e2; rfl
  rcases j with _ | j
  · have e : parseFieldDescriptor (TX7 5).2.2.1 = some .int := by decide +kernel
    have e2 := Option.some.inj (e.symm.trans h); subst e2; rfl
  rcases j with _ | j
  · have e : parseFieldDescriptor (TX7 6).2.2.1 = some (.array .boolean) := by decide +kernel
    have e2 := Option.some.inj (e.symm.trans h); subst e2; rfl
  rcases j with _ | j
  · have e : parseFieldDescriptor (TX7 7).2.2.1 = some .int := by decide +kernel
    have e2 := Option.some.inj (e.symm.trans h); subst e2; rfl
  rcases j with _ | j
  · have e : parseFieldDescriptor (TX7 8).2.2.1 = some (.array .int) := by decide +kernel
    have e2 := Option.some.inj (e.symm.trans h); subst e2; rfl
  rcases j with _ | j
  · have e : parseFieldDescriptor (TX7 9).2.2.1 = some (.array .int) := by decide +kernel
    have e2 := Option.some.inj (e.symm.trans h); subst e2; rfl
  rcases j with _ | j
  · have e : parseFieldDescriptor (TX7 10).2.2.1 = some (.array .int) := by decide +kernel
    have e2 := Option.some.inj (e.symm.trans h); subst e2; rfl
  rcases j with _ | j
  · have e : parseFieldDescriptor (TX7 11).2.2.1 = some (.array .int) := by decide +kernel
    have e2 := Option.some.inj (e.symm.trans h); subst e2; rfl
  rcases j with _ | j
  · have e : parseFieldDescriptor (TX7 12).2.2.1 = some .int := by decide +kernel
    have e2 := Option.some.inj (e.symm.trans h); subst e2; rfl
  rcases j with _ | j
  · have e : parseFieldDescriptor (TX7 13).2.2.1 = some .int := by decide +kernel
    have e2 := Option.some.inj (e.symm.trans h); subst e2; rfl
  rcases j with _ | j
  · have e : parseFieldDescriptor (TX7 14).2.2.1 = some (.array .int) := by decide +kernel
    have e2 := Option.some.inj (e.symm.trans h); subst e2; rfl
  rcases j with _ | j
  · have e : parseFieldDescriptor (TX7 15).2.2.1 = some (.array .int) := by decide +kernel
    have e2 := Option.some.inj (e.symm.trans h); subst e2; rfl
  rcases j with _ | j
  · have e : parseFieldDescriptor (TX7 16).2.2.1 = some (.array .int) := by decide +kernel
    have e2 := Option.some.inj (e.symm.trans h); subst e2; rfl
  rcases j with _ | j
  · have e : parseFieldDescriptor (TX7 17).2.2.1 = some (.array .int) := by decide +kernel
    have e2 := Option.some.inj (e.symm.trans h); subst e2; rfl
  rcases j with _ | j
  · have e : parseFieldDescriptor (TX7 18).2.2.1 = some (.array .int) := by decide +kernel
    have e2 := Option.some.inj (e.symm.trans h); subst e2; rfl
  rcases j with _ | j
  · have e : parseFieldDescriptor (TX7 19).2.2.1 = some (.array .int) := by decide +kernel
    have e2 := Option.some.inj (e.symm.trans h); subst e2; rfl
  rcases j with _ | j
  · have e : parseFieldDescriptor (TX7 20).2.2.1 = some (.array .int) := by decide +kernel
    have e2 := Option.some.inj (e.symm.trans h); subst e2; rfl
  rcases j with _ | j
  · have e : parseFieldDescriptor (TX7 21).2.2.1 = some (.array .int) := by decide +kernel
    have e2 := Option.some.inj (e.symm.trans h); subst e2; rfl
  rcases j with _ | j
  · have e : parseFieldDescriptor (TX7 22).2.2.1 = some .int := by decide +kernel
    have e2 := Option.some.inj (e.symm.trans h); subst e2; rfl
  rcases j with _ | j
  · have e : parseFieldDescriptor (TX7 23).2.2.1 = some .int := by decide +kernel
    have e2 := Option.some.inj (e.symm.trans h); subst e2; rfl
  rcases j with _ | j
  · have e : parseFieldDescriptor (TX7 24).2.2.1 = some (.array .byte) := by decide +kernel
    have e2 := Option.some.inj (e.symm.trans h); subst e2; rfl
  rcases j with _ | j
  · have e : parseFieldDescriptor (TX7 25).2.2.1 = some (.array .short) := by decide +kernel
    have e2 := Option.some.inj (e.symm.trans h); subst e2; rfl
  rcases j with _ | j
  · have e : parseFieldDescriptor (TX7 26).2.2.1 = some (.array .boolean) := by decide +kernel
    have e2 := Option.some.inj (e.symm.trans h); subst e2; rfl
  rcases j with _ | j
  · have e : parseFieldDescriptor (TX7 27).2.2.1 = some (.array .int) := by decide +kernel
    have e2 := Option.some.inj (e.symm.trans h); subst e2; rfl
  rcases j with _ | j
  · have e : parseFieldDescriptor (TX7 28).2.2.1 = some (.array .byte) := by decide +kernel
    have e2 := Option.some.inj (e.symm.trans h); subst e2; rfl
  rcases j with _ | j
  · have e : parseFieldDescriptor (TX7 29).2.2.1 = some (.array .int) := by decide +kernel
    have e2 := Option.some.inj (e.symm.trans h); subst e2; rfl
  rcases j with _ | j
  · have e : parseFieldDescriptor (TX7 30).2.2.1 = some .int := by decide +kernel
    have e2 := Option.some.inj (e.symm.trans h); subst e2; rfl
  rcases j with _ | j
  · have e : parseFieldDescriptor (TX7 31).2.2.1 = some (.array .int) := by decide +kernel
    have e2 := Option.some.inj (e.symm.trans h); subst e2; rfl
  rcases j with _ | j
  · have e : parseFieldDescriptor (TX7 32).2.2.1 = some (.array .int) := by decide +kernel
    have e2 := Option.some.inj (e.symm.trans h); subst e2; rfl
  rcases j with _ | j
  · have e : parseFieldDescriptor (TX7 33).2.2.1 = some (.array .int) := by decide +kernel
    have e2 := Option.some.inj (e.symm.trans h); subst e2; rfl
  rcases j with _ | j
  · have e : parseFieldDescriptor (TX7 34).2.2.1 = some (.array .int) := by decide +kernel
    have e2 := Option.some.inj (e.symm.trans h); subst e2; rfl
  rcases j with _ | j
  · have e : parseFieldDescriptor (TX7 35).2.2.1 = some (.array .int) := by decide +kernel
    have e2 := Option.some.inj (e.symm.trans h); subst e2; rfl
  rcases j with _ | j
  · have e : parseFieldDescriptor (TX7 36).2.2.1 = some (.array .int) := by decide +kernel
    have e2 := Option.some.inj (e.symm.trans h); subst e2; rfl
  rcases j with _ | j
  · have e : parseFieldDescriptor (TX7 37).2.2.1 = some .int := by decide +kernel
    have e2 := Option.some.inj (e.symm.trans h); subst e2; rfl
  rcases j with _ | j
  · have e : parseFieldDescriptor (TX7 38).2.2.1 = some (.array .int) := by decide +kernel
    have e2 := Option.some.inj (e.symm.trans h); subst e2; rfl
  rcases j with _ | j
  · have e : parseFieldDescriptor (TX7 39).2.2.1 = some (.array .int) := by decide +kernel
    have e2 := Option.some.inj (e.symm.trans h); subst e2; rfl
  rcases j with _ | j
  · have e : parseFieldDescriptor (TX7 40).2.2.1 = some (.array .int) := by decide +kernel
    have e2 := Option.some.inj (e.symm.trans h); subst e2; rfl
  rcases j with _ | j
  · have e : parseFieldDescriptor (TX7 41).2.2.1 = some (.array .int) := by decide +kernel
    have e2 := Option.some.inj (e.symm.trans h); subst e2; rfl
  · omega
theorem ci_blind6 {D : va_G} {ct : Nat → ClassId} {sz la : Nat} {w0 : va_W} {as : List Value} : FrameBlind (va_Pc as (ci_Pre6 D ct sz w0 la)) := fun a U g mk q => by
  obtain ⟨q0, ⟨q1, qP, qK, qD, qN⟩, qA, qZ, qT⟩ := q
  exact ⟨q0, ⟨q1, qP, va_K.moved (u := U) (U := U.calling g mk a) (Vm.Alike.refl U.vm) qK, qD, pm_NW.same (u := U) (U := U.calling g mk a) rfl qN⟩, va_AO.moved (u := U) (U := U.calling g mk a) (Vm.Alike.refl U.vm) qA, va_Z.moved (u := U) (U := U.calling g mk a) (Vm.Alike.refl U.vm) qZ, va_T.moved (u := U) (U := U.calling g mk a) (Vm.Alike.refl U.vm) qT⟩
theorem one_D (q : Nat) (e0 : va_E) : va_D (fun _ => True) [(q, e0)] := ⟨fun i j x y hx hy _ => by
  have h1 := (List.getElem?_eq_some_iff.mp hx).1
  have h2 := (List.getElem?_eq_some_iff.mp hy).1
  simp at h1 h2; omega, fun _ _ _ => trivial⟩
set_option maxHeartbeats 1000000 in
theorem ws_3 {p : Program} {e : Env} {s : State} {m : MethodId} {below : List Frame} {meth : Method} {c : Code} (l : Launch) {b L : Nat} {xs : Nat → Int32} (hL : L ≤ 3072) (C0 : lw_At p s m meth c b L xs) {D : va_G} {ct : Nat → ClassId} {la : Nat} (hK : va_K D pm_cl (pm_tys ct) s) (hNW : pm_NW s) (hZ : va_Z "PatienceDesk" "LAWS_ABOVE" "[I" (.ref la) (lz_fr s) s s.heap) (hTT : va_T .int la 5 (fun j => .int (pm_laws.getD j 0)) (lz_fr s) s s.heap) {x0 y0 : Nat} {H1 : Heap} {locs : List Loc} {ls : Array Slot} {adx ady : Nat → Nat} {Mx : pm_M} {u : va_W} (hl : lv_has ls 4 [(1, .ref x0), (0, .ref b)]) (ax0 : adx 0 = x0) (axL : adx 1000 = la) (hMX : MX Mx A0) (ay0 : ady 0 = y0) (ayL : ady 1000 = la) (hu : ∀ k sh, SHy[k]? = some sh → u[k]? = some (ady k, pm_cell ady ct M0y k sh)) (hP2 : va_P D pm_cl (pm_w SHx adx ct Mx ++ u) H1) (hD2 : va_D (lz_fr s) (pm_w SHx adx ct Mx ++ u)) (hS : va_S (lz_fr s) s.heap H1 locs) : W p l e room_1 s m #[Value.ref b] below meth c H1 locs 70 122683 (lw_Z below #[Value.ref b] s) (F0 m 15 ls [.ref y0]) := by
  obtain ⟨hx, hb, hr, hml, hown, hts, hX, hbl, hlocks, hgv⟩ := id C0
  have lx : (pm_w SHx adx ct Mx).length = 40 := by simp [pm_w]; rfl
  have gx : ∀ (k : Nat) (q : Nat × va_E), (pm_w SHx adx ct Mx)[k]? = some q → (pm_w SHx adx ct Mx ++ u)[k]? = some q := fun k q h => by rw [List.getElem?_append_left (List.getElem?_eq_some_iff.mp h).1]; exact h
  have gy : ∀ (k : Nat) (q : Nat × va_E), (pm_w SHy ady ct M0y)[k]? = some q → (pm_w SHx adx ct Mx ++ u)[40 + k]? = some q := fun k q h => by
    obtain ⟨sh, h1, rfl⟩ := pm_w_get h
    rw [List.getElem?_append_right (by omega), lx, Nat.add_sub_cancel_left]; exact hu k sh h1
  have hPx : va_P D pm_cl (pm_w SHx adx ct Mx) H1 := fun k q h => hP2 k q (gx k q h)
  have hPy : va_P D pm_cl (pm_w SHy ady ct M0y) H1 := fun k q h => hP2 (40 + k) q (gy k q h)
  have ax : ∀ q, pm_A SHx adx q → ∃ k, k < 40 ∧ ∃ e, (pm_w SHx adx ct Mx)[k]? = some (q, e) := fun q ⟨k, h1, h2⟩ => by subst h2; exact ⟨k, h1, _, pm_w_at (List.getElem?_eq_getElem h1)⟩
  have ay : ∀ q, pm_A SHy ady q → ∃ k, ∃ e, (pm_w SHy ady ct M0y)[k]? = some (q, e) := fun q ⟨k, h1, h2⟩ => by subst h2; exact ⟨k, _, pm_w_at (List.getElem?_eq_getElem h1)⟩
  have frx : ∀ q, pm_A SHx adx q → lz_fr s q := fun q h => by obtain ⟨k, -, e, h1⟩ := ax q h; exact hD2.2 k _ (gx k _ h1)
  have fry : ∀ q, pm_A SHy ady q → lz_fr s q := fun q h => by obtain ⟨k, e, h1⟩ := ay q h; exact hD2.2 _ _ (gy k _ h1)
  have hxy : ∀ q, pm_A SHx adx q → ¬ pm_A SHy ady q := fun q h1 h2 => by
    obtain ⟨k, hk, e, g1⟩ := ax q h1
    obtain ⟨k2, e2, g2⟩ := ay q h2
    have := hD2.1 k (40 + k2) _ _ (gx k _ g1) (gy k2 _ g2) rfl
    omega
  have dx : va_D (pm_A SHx adx) (pm_w SHx adx ct Mx) := ⟨fun i j x y hx hy h => hD2.1 i j x y (gx i x hx) (gx j y hy) h, fun k q hk => by obtain ⟨sh, h1, rfl⟩ := pm_w_get hk; exact ⟨k, (List.getElem?_eq_some_iff.mp h1).1, rfl⟩⟩
  have dy : va_D (pm_A SHy ady) (pm_w SHy ady ct M0y) := ⟨fun i j x y hx hy h => (by have := hD2.1 (40 + i) (40 + j) x y (gy i x hx) (gy j y hy) h; omega), fun k q hk => by obtain ⟨sh, h1, rfl⟩ := pm_w_get hk; exact ⟨k, (List.getElem?_eq_some_iff.mp h1).1, rfl⟩⟩
  have C : lz_Cx p s m c b L xs D ct adx ady := ⟨⟨hx, hb, hml, hown, hts⟩, hNW, hK, ⟨hX, hbl⟩, fun M => pm_D dx M, fun M => pm_D dy M, frx, fry, hxy, fun H locs hS => ⟨by rw [axL]; exact (hZ.kept (fun a h1 h2 => hS.2.1 a h1 h2)).narrow frx, by rw [axL]; exact (hTT.kept (fun a h1 h2 => hS.2.1 a h1 h2)).narrow frx⟩, fun H locs hS => ⟨by rw [ayL]; exact (hZ.kept (fun a h1 h2 => hS.2.1 a h1 h2)).narrow fry, by rw [ayL]; exact (hTT.kept (fun a h1 h2 => hS.2.1 a h1 h2)).narrow fry⟩⟩
  refine lv_astore_n (k := 2) (lv' := [(2, .ref y0), (1, .ref x0), (0, .ref b)]) hx hb (by decide +kernel) rfl hl (by decide) rfl (fun ls hl => ?_)
  refine lv_iconst (n := 0) (v := nI 0) hx hb (by decide +kernel) (by decide) ?_
  refine lv_istore_n (k := 3) (lv' := [(3, .int (nI 0)), (2, .ref y0), (1, .ref x0), (0, .ref b)]) hx hb (by decide +kernel) rfl hl (by decide) rfl (fun ls hl => ?_)
  refine W.widen (k := 600000) (n := 7302250) (by decide) (by decide) ?_
  refine lz_loop hL C hr hlocks (L + 6) 0 A0 Mx M0y H1 locs ls (by omega) (by omega) okA_0 hMX MY_0 ⟨hPx, hPy, hS⟩ ?_
  rw [ax0, ay0]
  exact lv_sub hl [3, 2, 1, 0] rfl
set_option maxHeartbeats 1000000 in
set_option maxRecDepth 100000 in
theorem ws_2 {p : Program} {e : Env} {s : State} {m : MethodId} {below : List Frame} {meth : Method} {c : Code} (l : Launch) {b L : Nat} {xs : Nat → Int32} (hL : L ≤ 3072) (C0 : lw_At p s m meth c b L xs) {D : va_G} {ct : Nat → ClassId} {la : Nat} (hK : va_K D pm_cl (pm_tys ct) s) (hNW : pm_NW s) (hZ : va_Z "PatienceDesk" "LAWS_ABOVE" "[I" (.ref la) (lz_fr s) s s.heap) (hTT : va_T .int la 5 (fun j => .int (pm_laws.getD j 0)) (lz_fr s) s s.heap) {x0 : Nat} {H1 : Heap} {locs : List Loc} {ls : Array Slot} {adx : Nat → Nat} {Mx : pm_M} (hl : lv_has ls 4 [(0, .ref b)]) (ax0 : adx 0 = x0) (axL : adx 1000 = la) (hMX : MX Mx A0) (hP1 : va_P D pm_cl (pm_w SHx adx ct Mx) H1) (hDx : va_D (lz_fr s) (pm_w SHx adx ct Mx)) (hS : va_S (lz_fr s) s.heap H1 locs) : W p l e room_1 s m #[Value.ref b] below meth c H1 locs 40 10025 (lw_Z below #[Value.ref b] s) (F0 m 7 ls [.ref x0]) := by
  obtain ⟨hx, hb, hr, hml, hown, hts, hX, hbl, hlocks, hgv⟩ := id C0
  have hG : ∀ {y : MethodName} {bb : ByteArray} {nC : Nat}, Cond.code y bb nC none ∈ pm_TB → GoodIn lw_tbl (.code y bb nC none :: pm_TB) := fun h => pm_good (ws := []) (fun w h => pm_TB_in h) h (fun w h => by cases h)
  refine lv_astore_n (k := 1) (lv' := [(1, .ref x0), (0, .ref b)]) hx hb (by decide +kernel) rfl hl (by decide) rfl (fun ls hl => ?_)
  -- the reference
  obtain ⟨hws7, ty7, hty7, -⟩ := pm_lays (ci := 7) (C := RX7) (T := TX7) (N := 42) rfl
  refine va_new (ci := 7) (fs := [.int 0, .int 0, .int 0, .int 0, .int 0, .int 0, .null, .int 0, .null, .null, .null, .null, .int 0, .int 0, .null, .null, .null, .null, .null, .null, .null, .null, .int 0, .int 0, .null, .null, .null, .null, .null, .null, .int 0, .null, .null, .null, .null, .null, .null, .int 0, .null, .null, .null, .null]) (C := RX7) (T := TX7) (N := 42) hx hb hts (fun w h => pm_TB_in (hws7 w h)) ty7 hty7 hown (hts (.classLink R_law 10 RX7) (by decide +kernel)) (hts (.instantiable RX7 42) (by decide +kernel)) (hts (.initialized RX7) (by decide +kernel)) hK hP1 hDx hS (fun q h => h) rfl (fun j hj => hfs_X7 j hj _ (hty7 j hj)) (by decide) (by decide) (by decide +kernel) (fun y0 H hP hD hS => ?_)
  refine lv_dup hx hb (by decide +kernel) rfl ?_
  have hq40 : (pm_w SHx adx ct Mx ++ [(y0, .inr (7, [.int 0, .int 0, .int 0, .int 0, .int 0, .int 0, .null, .int 0, .null, .null, .null, .null, .int 0, .int 0, .null, .null, .null, .null, .null, .null, .null, .null, .int 0, .int 0, .null, .null, .null, .null, .null, .null, .int 0, .null, .null, .null, .null, .null, .null, .int 0, .null, .null, .null, .null]))])[(pm_w SHx adx ct Mx).length]? = some (y0, .inr (7, [.int 0, .int 0, .int 0, .int 0, .int 0, .int 0, .null, .int 0, .null, .null, .null, .null, .int 0, .int 0, .null, .null, .null, .null, .null, .null, .null, .null, .int 0, .int 0, .null, .null, .null, .null, .null, .null, .int 0, .null, .null, .null, .null, .null, .null, .int 0, .null, .null, .null, .null])) := by simp
  have hF : ∀ q, va_A [(y0, .inr (7, [.int 0, .int 0, .int 0, .int 0, .int 0, .int 0, .null, .int 0, .null, .null, .null, .null, .int 0, .int 0, .null, .null, .null, .null, .null, .null, .null, .null, .int 0, .int 0, .null, .null, .null, .null, .null, .null, .int 0, .null, .null, .null, .null, .null, .null, .int 0, .null, .null, .null, .null]))] H.size q → lz_fr s q := fun a h => by
    rcases h with ⟨k, e2, h2⟩ | h2
    · rcases k with _ | k
      · have e3 : y0 = a := congrArg Prod.fst (Option.some.inj h2)
        rw [← e3]; exact hD.2 _ _ hq40
      · simp at h2
    · exact Nat.le_trans hS.1 h2
  have hPc : va_P D pm_cl [(y0, .inr (7, [.int 0, .int 0, .int 0, .int 0, .int 0, .int 0, .null, .int 0, .null, .null, .null, .null, .int 0, .int 0, .null, .null, .null, .null, .null, .null, .null, .null, .int 0, .int 0, .null, .null, .null, .null, .null, .null, .int 0, .null, .null, .null, .null, .null, .null, .int 0, .null, .null, .null, .null]))] H := fun k x hx => by
    rcases k with _ | k
    · cases hx; exact hP _ _ hq40
    · simp at hx
  have d12 : decode code 12 = .ok (.invokespecial 12, 3) := by decide +kernel
  refine va_callv (va_runI (As := []) (rest := [.ref y0]) ⟨hx, hb, hml, hown, hts⟩ (ci_X7 (ct := ct) y0 la D H.size) (cwI (bytes := cX7_init) (maxL := 1) 0 hts (hG (pm_iT_in (by decide +kernel))) rfl rfl rfl (hts (.initialized RX7) (by decide +kernel)) (hts (.methodLink R_law 12 yX7_init) (by decide +kernel)) (hts (.instanceMethod yX7_init) (by decide +kernel)) rfl (by decide +kernel) (by decide)) ⟨ci_blind, fun U hU hW => ⟨rfl, by rw [hU], by rw [hU]; exact hPc, va_K.moved hW.alike hK, one_D _ _, hNW.warm hW⟩⟩ rfl rfl hl.1 rfl (lv_room (by simp [Value.category])) d12 (by decide)) hS (fun q _ h => hF q h) hF (fun u t H1 locs ht hvm hpo hB hz hk hS => ?_)
  obtain ⟨ady, ay0, ayL, hu⟩ := hpo
  obtain ⟨hP1, -, hD1⟩ := hB
  rw [ht] at hP1
  obtain ⟨hP2, hD2⟩ := ci_glue hP hD hk hF hP1 hD1
  exact ws_3 l hL C0 hK hNW hZ hTT hl ax0 axL hMX ay0 ayL hu hP2 hD2 hS
set_option maxHeartbeats 1000000 in
set_option maxRecDepth 100000 in
theorem whole_start {p : Program} {e : Env} {s : State} {m : MethodId} {below : List Frame} {meth : Method} {c : Code} (l : Launch) {b L : Nat} {xs : Nat → Int32} (hL : L ≤ 3072) (C0 : lw_At p s m meth c b L xs) : W p l e room_1 s m #[Value.ref b] below meth c s.heap [] 0 0 (lw_Z below #[Value.ref b] s) (entryFrame m ([Value.ref b] : List Value).toArray 4) := by
  obtain ⟨hx, hb, hr, hml, hown, hts, hX, hbl, hlocks, hgv⟩ := id C0
  obtain ⟨D, ct, hK⟩ := K_known hts
  have hNW := pm_NW_of hts
  obtain ⟨la, hZ, hTT⟩ := la_known hts hgv (A := lz_fr s) (fun a h1 h2 => absurd h1 (Nat.not_lt.mpr h2))
  have hAO : va_AO "PatienceDesk$Tray" s := va_AO.of (hts (Cond.arrayOver (.object "PatienceDesk$Tray")) (by decide +kernel))
  have hS : va_S (lz_fr s) s.heap s.heap [] := va_S.rf
  have hP : va_P D pm_cl [] s.heap := fun k q h => by simp at h
  have hD : va_D (lz_fr s) [] := ⟨fun i j p q h => by simp at h, fun k q h => by simp at h⟩
  have hl := lv_entry ([.ref b]) (n := 4) (by simp [lg_sl, Value.category])
  rw [lg_entry_eq]
  generalize (lg_sl ([.ref b]) ++ List.replicate (4 - (lg_sl ([.ref b])).length) Slot.unset).toArray = ls at hl ⊢
  have hl : lv_has ls 4 [(0, .ref b)] := hl
  have hG : ∀ {y : MethodName} {bb : ByteArray} {nC : Nat}, Cond.code y bb nC none ∈ pm_TB → GoodIn lw_tbl (.code y bb nC none :: pm_TB) := fun h => pm_good (ws := []) (fun w h => pm_TB_in h) h (fun w h => by cases h)
  -- the desk
  obtain ⟨hws6, ty6, hty6, -⟩ := pm_lays (ci := 6) (C := RX6) (T := TX6) (N := 10) rfl
  refine va_new (ci := 6) (fs := [.null, .null, .null, .null, .null, .null, .null, .int 0, .int 0, .int 0]) (C := RX6) (T := TX6) (N := 10) hx hb hts (fun w h => pm_TB_in (hws6 w h)) ty6 hty6 hown (hts (.classLink R_law 7 RX6) (by decide +kernel)) (hts (.instantiable RX6 10) (by decide +kernel)) (hts (.initialized RX6) (by decide +kernel)) hK hP hD hS (fun q h => h) rfl (fun j hj => hfs_X6 j hj _ (hty6 j hj)) (by decide) (by decide) (by decide +kernel) (fun x0 H hP hD hS => ?_)
  have hP : va_P D pm_cl [(x0, .inr (6, [.null, .null, .null, .null, .null, .null, .null, .int 0, .int 0, .int 0]))] H := hP
  have hD : va_D (lz_fr s) [(x0, .inr (6, [.null, .null, .null, .null, .null, .null, .null, .int 0, .int 0, .int 0]))] := hD
  refine lv_dup hx hb (by decide +kernel) rfl ?_
  have hF : ∀ q, va_A [(x0, .inr (6, [.null, .null, .null, .null, .null, .null, .null, .int 0, .int 0, .int 0]))] H.size q → lz_fr s q := va_free hD hS (fun q h => h) [0] rfl
  have d4 : decode code 4 = .ok (.invokespecial 9, 3) := by decide +kernel
  refine va_callv (va_runI (As := []) (rest := [.ref x0]) ⟨hx, hb, hml, hown, hts⟩ (ci_X6 (ct := ct) x0 la D H.size) (cwI (bytes := cX6_init) (maxL := 2) 0 hts (hG (pm_iT_in (by decide +kernel))) rfl rfl rfl (hts (.initialized RX6) (by decide +kernel)) (hts (.methodLink R_law 9 yX6_init) (by decide +kernel)) (hts (.instanceMethod yX6_init) (by decide +kernel)) rfl (by decide +kernel) (by decide)) ⟨ci_blind6, fun U hU hW => ⟨rfl, ⟨by rw [hU], by rw [hU]; exact hP, va_K.moved hW.alike hK, one_D _ _, hNW.warm hW⟩, va_AO.moved hW.alike hAO, by rw [hU]; exact ((hZ.kept (fun a h1 h2 => hS.2.1 a h1 h2)).narrow hF).moved hW.alike, by rw [hU]; exact ((hTT.kept (fun a h1 h2 => hS.2.1 a h1 h2)).narrow hF).moved hW.alike⟩⟩ rfl rfl hl.1 rfl (lv_room (by simp [Value.category])) d4 (by decide)) hS (fun q _ h => hF q h) hF (fun u t H1 locs ht hvm hpo hB hz hk hS => ?_)
  obtain ⟨adx, Mx, ax0, axL, hMX, hu⟩ := hpo
  obtain ⟨hP1, -, hD1⟩ := hB
  rw [ht, hu] at hP1
  rw [hu] at hD1
  exact ws_2 l hL C0 hK hNW hZ hTT hl ax0 axL hMX hP1 (hD1.weaken (fun k q _ h => hF q.1 h)) hS
