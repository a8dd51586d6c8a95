theorem hfs_X0 : ∀ j, j < 8 → ∀ ty, parseFieldDescriptor (TX0 j).2.2.1 = some ty → defaultValue ty = vp_V [.null, .null, .null, .int 0, .int 0, .int 0, .int 0, .int 0] j := by
  intro j hj ty h
  rcases j with _ | j
  · have e : parseFieldDescriptor (TX0 0).2.2.1 = some (.array .int) := by decide +kernel
    have e2 := Option.some.inj (e.symm.trans h); subst e2; rfl
  rcases j with _ | j
  · have e : parseFieldDescriptor (TX0 1).2.2.1 = some (.array .int) := by decide +kernel
    have e2 := Option.some.inj (e.symm.trans h); subst e2; rfl
  rcases j with _ | j
  · have e : parseFieldDescriptor (TX0 2).2.2.1 = some (.array .int) := by decide +kernel
    have e2 := Option.some.inj (e.symm.trans h); subst e2; rfl
  rcases j with _ | j
  · have e : parseFieldDescriptor (TX0 3).2.2.1 = some .int := by decide +kernel
    have e2 := Option.some.inj (e.symm.trans h); subst e2; rfl
  rcases j with _ | j
  · have e : parseFieldDescriptor (TX0 4).2.2.1 = some .int := by decide +kernel
    have e2 := Option.some.inj (e.symm.trans h); subst e2; rfl
  rcases j with _ | j
  · have e : parseFieldDescriptor (TX0 5).2.2.1 = some .int := by decide +kernel
    have e2 := Option.some.inj (e.symm.trans h); subst e2; rfl
  rcases j with _ | j
  · have e : parseFieldDescriptor (TX0 6).2.2.1 = some .int := by decide +kernel
    have e2 := Option.some.inj (e.symm.trans h); subst e2; rfl
  rcases j with _ | j
  · have e : parseFieldDescriptor (TX0 7).2.2.1 = some .int := by decide +kernel
    have e2 := Option.some.inj (e.symm.trans h); subst e2; rfl
  · omega
theorem hfs_X1 : ∀ j, j < 4 → ∀ ty, parseFieldDescriptor (TX1 j).2.2.1 = some ty → defaultValue ty = vp_V [.null, .null, .int 0, .int 0] j := by
  intro j hj ty h
  rcases j with _ | j
  · have e : parseFieldDescriptor (TX1 0).2.2.1 = some (.array .long) := by decide +kernel
    have e2 := Option.some.inj (e.symm.trans h); subst e2; rfl
  rcases j with _ | j
  · have e : parseFieldDescriptor (TX1 1).2.2.1 = some (.array .int) := by decide +kernel
    have e2 := Option.some.inj (e.symm.trans h); subst e2; rfl
  rcases j with _ | j
  · have e : parseFieldDescriptor (TX1 2).2.2.1 = some .int := by decide +kernel
    have e2 := Option.some.inj (e.symm.trans h); subst e2; rfl
  rcases j with _ | j
  · have e : parseFieldDescriptor (TX1 3).2.2.1 = some .int := by decide +kernel
    have e2 := Option.some.inj (e.symm.trans h); subst e2; rfl
  · omega
theorem hfs_X2 : ∀ j, j < 2 → ∀ ty, parseFieldDescriptor (TX2 j).2.2.1 = some ty → defaultValue ty = vp_V [.null, .int 0] j := by
  intro j hj ty h
  rcases j with _ | j
  · have e : parseFieldDescriptor (TX2 0).2.2.1 = some (.array .long) := by decide +kernel
    have e2 := Option.some.inj (e.symm.trans h); subst e2; rfl
  rcases j with _ | j
  · have e : parseFieldDescriptor (TX2 1).2.2.1 = some .int := by decide +kernel
    have e2 := Option.some.inj (e.symm.trans h); subst e2; rfl
  · omega
theorem hfs_X3 : ∀ j, j < 9 → ∀ ty, parseFieldDescriptor (TX3 j).2.2.1 = some ty → defaultValue ty = vp_V [.null, .null, .null, .null, .int 0, .int 0, .int 0, .int 0, .int 0] j := by
  intro j hj ty h
  rcases j with _ | j
  · have e : parseFieldDescriptor (TX3 0).2.2.1 = some (.object "PatienceDesk$Stand") := by decide +kernel
    have e2 := Option.some.inj (e.symm.trans h); subst e2; rfl
  rcases j with _ | j
  · have e : parseFieldDescriptor (TX3 1).2.2.1 = some (.array .long) := by decide +kernel
    have e2 := Option.some.inj (e.symm.trans h); subst e2; rfl
  rcases j with _ | j
  · have e : parseFieldDescriptor (TX3 2).2.2.1 = some (.array .long) := by decide +kernel
    have e2 := Option.some.inj (e.symm.trans h); subst e2; rfl
  rcases j with _ | j
  · have e : parseFieldDescriptor (TX3 3).2.2.1 = some (.array .short) := by decide +kernel
    have e2 := Option.some.inj (e.symm.trans h); subst e2; rfl
  rcases j with _ | j
  · have e : parseFieldDescriptor (TX3 4).2.2.1 = some .int := by decide +kernel
    have e2 := Option.some.inj (e.symm.trans h); subst e2; rfl
  rcases j with _ | j
  · have e : parseFieldDescriptor (TX3 5).2.2.1 = some .int := by decide +kernel
    have e2 := Option.some.inj (e.symm.trans h); subst e2; rfl
  rcases j with _ | j
  · have e : parseFieldDescriptor (TX3 6).2.2.1 = some .boolean := by decide +kernel
    have e2 := Option.some.inj (e.symm.trans h); subst e2; rfl
  rcases j with _ | j
  · have e : parseFieldDescriptor (TX3 7).2.2.1 = some .int := by decide +kernel
    have e2 := Option.some.inj (e.symm.trans h); subst e2; rfl
  rcases j with _ | j
  · have e : parseFieldDescriptor (TX3 8).2.2.1 = some .int := by decide +kernel
    have e2 := Option.some.inj (e.symm.trans h); subst e2; rfl
  · omega
theorem hfs_X4 : ∀ j, j < 7 → ∀ ty, parseFieldDescriptor (TX4 j).2.2.1 = some ty → defaultValue ty = vp_V [.null, .null, .null, .null, .null, .null, .int 0] j := by
  intro j hj ty h
  rcases j with _ | j
  · have e : parseFieldDescriptor (TX4 0).2.2.1 = some (.object "PatienceDesk$Deck") := by decide +kernel
    have e2 := Option.some.inj (e.symm.trans h); subst e2; rfl
  rcases j with _ | j
  · have e : parseFieldDescriptor (TX4 1).2.2.1 = some (.array .long) := by decide +kernel
    have e2 := Option.some.inj (e.symm.trans h); subst e2; rfl
  rcases j with _ | j
  · have e : parseFieldDescriptor (TX4 2).2.2.1 = some (.array .int) := by decide +kernel
    have e2 := Option.some.inj (e.symm.trans h); subst e2; rfl
  rcases j with _ | j
  · have e : parseFieldDescriptor (TX4 3).2.2.1 = some (.array .int) := by decide +kernel
    have e2 := Option.some.inj (e.symm.trans h); subst e2; rfl
  rcases j with _ | j
  · have e : parseFieldDescriptor (TX4 4).2.2.1 = some (.array .int) := by decide +kernel
    have e2 := Option.some.inj (e.symm.trans h); subst e2; rfl
  rcases j with _ | j
  · have e : parseFieldDescriptor (TX4 5).2.2.1 = some (.array .long) := by decide +kernel
    have e2 := Option.some.inj (e.symm.trans h); subst e2; rfl
  rcases j with _ | j
  · have e : parseFieldDescriptor (TX4 6).2.2.1 = some .int := by decide +kernel
    have e2 := Option.some.inj (e.symm.trans h); subst e2; rfl
  · omega
theorem hfs_X5 : ∀ j, j < 4 → ∀ ty, parseFieldDescriptor (TX5 j).2.2.1 = some ty → defaultValue ty = vp_V [.null, .int 0, .int 0, .int 0] j := by
  intro j hj ty h
  rcases j with _ | j
  · have e : parseFieldDescriptor (TX5 0).2.2.1 = some (.array .short) := by decide +kernel
    have e2 := Option.some.inj (e.symm.trans h); subst e2; rfl
  rcases j with _ | j
  · have e : parseFieldDescriptor (TX5 1).2.2.1 = some .int := by decide +kernel
    have e2 := Option.some.inj (e.symm.trans h); subst e2; rfl
  rcases j with _ | j
  · have e : parseFieldDescriptor (TX5 2).2.2.1 = some .int := by decide +kernel
    have e2 := Option.some.inj (e.symm.trans h); subst e2; rfl
  rcases j with _ | j
  · have e : parseFieldDescriptor (TX5 3).2.2.1 = some .int := by decide +kernel
    have e2 := Option.some.inj (e.symm.trans h); subst e2; rfl
  · omega
set_option maxHeartbeats 4000000 in
set_option maxRecDepth 100000 in
theorem ci_X3 {l : Launch} {ct : Nat → ClassId} (h0 dk : Nat) : ci_Met l yX3_init cX3_init 2 3 9 9049 ct [.ref h0, .ref dk] [(h0, .inr (3, [.null, .null, .null, .null, .int 0, .int 0, .int 0, .int 0, .int 0]))] (fun u => ∃ q1 q2 q3 q4 r1 r2 r3 r4 r5 : Nat, u = [(h0, .inr (3, [.ref q4, .ref q1, .ref q2, .ref q3, .int 0, .int 0, .int 0, .int 0, .int 0])), (q1, .inl (ct 4, 4000, .inr (.inl (fun _ => 0)))), (q2, .inl (ct 4, 4000, .inr (.inl (fun _ => 0)))), (q3, .inl (ct 3, 1024, .inl (fun _ => 0))), (q4, .inr (4, [.ref dk, .ref r1, .ref r2, .ref r3, .ref r4, .ref r5, .int 0])), (r1, .inl (ct 4, 4, .inr (.inl (fun _ => 0)))), (r2, .inl (ct 0, 4, .inl (fun _ => 0))), (r3, .inl (ct 0, 2, .inl (fun _ => 0))), (r4, .inl (ct 0, 4, .inl (fun _ => 0))), (r5, .inl (ct 4, 4, .inr (.inl (fun _ => 0))))]) := by
  refine ci_intro (by decide +kernel) rfl (by simp [lg_sl, Value.category]) ?_
  intro p e s m below meth c D A ls Q C hl hP hD hS ret
  obtain ⟨hx, hb, -, -, hown, hts, -⟩ := id C
  refine ci_obj C (idx := 5) hl.1 (lv_at hl 0 rfl) (by decide +kernel) (by decide) (by decide) (by decide +kernel) (by decide +kernel) ?_
  refine lv_aload_n (k := 0) hx hb (by decide +kernel) rfl (lv_at hl 0 rfl) ?_
  refine lv_sipush (n := 4000) (v := nI 4000) hx hb (by decide +kernel) (by decide) ?_
  refine ci_arr C (fty := (.array .long)) (t := 4) (k := 1) (idx := 11) (aty := .long) (a := .inr (.inl (fun _ => 0))) hP hD hS rfl rfl (fun _ _ h => h) (fun _ => rfl) (by decide) (by decide) (by decide) (by decide) (by decide +kernel) rfl (by decide) (by simp) (by decide +kernel) rfl (by decide +kernel) (fun _ => rfl) (fun _ => rfl) (by decide +kernel) (by decide +kernel) (fun q1 H locs hP hD hS => ?_)
  have hP : va_P D pm_cl [(h0, .inr (3, [.null, .ref q1, .null, .null, .int 0, .int 0, .int 0, .int 0, .int 0])), (q1, .inl (ct 4, 4000, .inr (.inl (fun _ => 0))))] H := hP
  have hD : va_D A [(h0, .inr (3, [.null, .ref q1, .null, .null, .int 0, .int 0, .int 0, .int 0, .int 0])), (q1, .inl (ct 4, 4000, .inr (.inl (fun _ => 0))))] := hD
  refine lv_aload_n (k := 0) hx hb (by decide +kernel) rfl (lv_at hl 0 rfl) ?_
  refine lv_sipush (n := 4000) (v := nI 4000) hx hb (by decide +kernel) (by decide) ?_
  refine ci_arr C (fty := (.array .long)) (t := 4) (k := 2) (idx := 15) (aty := .long) (a := .inr (.inl (fun _ => 0))) hP hD hS rfl rfl (fun _ _ h => h) (fun _ => rfl) (by decide) (by decide) (by decide) (by decide) (by decide +kernel) rfl (by decide) (by simp) (by decide +kernel) rfl (by decide +kernel) (fun _ => rfl) (fun _ => rfl) (by decide +kernel) (by decide +kernel) (fun q2 H locs hP hD hS => ?_)
  have hP : va_P D pm_cl [(h0, .inr (3, [.null, .ref q1, .ref q2, .null, .int 0, .int 0, .int 0, .int 0, .int 0])), (q1, .inl (ct 4, 4000, .inr (.inl (fun _ => 0)))), (q2, .inl (ct 4, 4000, .inr (.inl (fun _ => 0))))] H := hP
  have hD : va_D A [(h0, .inr (3, [.null, .ref q1, .ref q2, .null, .int 0, .int 0, .int 0, .int 0, .int 0])), (q1, .inl (ct 4, 4000, .inr (.inl (fun _ => 0)))), (q2, .inl (ct 4, 4000, .inr (.inl (fun _ => 0))))] := hD
  refine lv_aload_n (k := 0) hx hb (by decide +kernel) rfl (lv_at hl 0 rfl) ?_
  refine lv_sipush (n := 1024) (v := nI 1024) hx hb (by decide +kernel) (by decide) ?_
  refine ci_arr C (fty := (.array .short)) (t := 3) (k := 3) (idx := 18) (aty := .short) (a := .inl (fun _ => 0)) hP hD hS rfl rfl (fun _ _ h => h) (fun _ => rfl) (by decide) (by decide) (by decide) (by decide) (by decide +kernel) rfl (by decide) (by simp) (by decide +kernel) rfl (by decide +kernel) (fun _ => rfl) (fun _ => rfl) (by decide +kernel) (by decide +kernel) (fun q3 H locs hP hD hS => ?_)
  have hP : va_P D pm_cl [(h0, .inr (3, [.null, .ref q1, .ref q2, .ref q3, .int 0, .int 0, .int 0, .int 0, .int 0])), (q1, .inl (ct 4, 4000, .inr (.inl (fun _ => 0)))), (q2, .inl (ct 4, 4000, .inr (.inl (fun _ => 0)))), (q3, .inl (ct 3, 1024, .inl (fun _ => 0)))] H := hP
  have hD : va_D A [(h0, .inr (3, [.null, .ref q1, .ref q2, .ref q3, .int 0, .int 0, .int 0, .int 0, .int 0])), (q1, .inl (ct 4, 4000, .inr (.inl (fun _ => 0)))), (q2, .inl (ct 4, 4000, .inr (.inl (fun _ => 0)))), (q3, .inl (ct 3, 1024, .inl (fun _ => 0)))] := hD
  refine lv_aload_n (k := 0) hx hb (by decide +kernel) rfl (lv_at hl 0 rfl) ?_
  refine ci_new C (ci := 4) (idx := 22) (fs := [.null, .null, .null, .null, .null, .null, .int 0]) hP hD hS rfl hfs_X4 (by decide) (by decide) (by decide +kernel) (by decide +kernel) (by decide +kernel) (by decide +kernel) (by decide +kernel) (fun q4 H hP hD hS => ?_)
  have hP : va_P D pm_cl ([(h0, .inr (3, [.null, .ref q1, .ref q2, .ref q3, .int 0, .int 0, .int 0, .int 0, .int 0])), (q1, .inl (ct 4, 4000, .inr (.inl (fun _ => 0)))), (q2, .inl (ct 4, 4000, .inr (.inl (fun _ => 0)))), (q3, .inl (ct 3, 1024, .inl (fun _ => 0)))] ++ [(q4, .inr (4, [.null, .null, .null, .null, .null, .null, .int 0]))]) H := hP
  have hD : va_D A ([(h0, .inr (3, [.null, .ref q1, .ref q2, .ref q3, .int 0, .int 0, .int 0, .int 0, .int 0])), (q1, .inl (ct 4, 4000, .inr (.inl (fun _ => 0)))), (q2, .inl (ct 4, 4000, .inr (.inl (fun _ => 0)))), (q3, .inl (ct 3, 1024, .inl (fun _ => 0)))] ++ [(q4, .inr (4, [.null, .null, .null, .null, .null, .null, .int 0]))]) := hD
  refine lv_aload_n (k := 1) hx hb (by decide +kernel) rfl (lv_at hl 1 rfl) ?_
  refine ci_call C (idx := 24) (as := [.ref dk]) (ci_X4 q4 dk) hP hD hS (pm_iT_in (by decide +kernel)) (by decide +kernel) (by decide +kernel) (by decide +kernel) (by show (parseMethodDescriptor yX4_init.desc).map (fun d => d.parameters.length) = some 1; decide +kernel) rfl (by decide +kernel) (by decide) (by decide) (by decide) hl.1 (by simp [Value.category]) (by decide +kernel) (fun u H locs hpo hP hD hS => ?_)
  obtain ⟨r1, r2, r3, r4, r5, rfl⟩ := hpo
  have hP : va_P D pm_cl [(h0, .inr (3, [.null, .ref q1, .ref q2, .ref q3, .int 0, .int 0, .int 0, .int 0, .int 0])), (q1, .inl (ct 4, 4000, .inr (.inl (fun _ => 0)))), (q2, .inl (ct 4, 4000, .inr (.inl (fun _ => 0)))), (q3, .inl (ct 3, 1024, .inl (fun _ => 0))), (q4, .inr (4, [.ref dk, .ref r1, .ref r2, .ref r3, .ref r4, .ref r5, .int 0])), (r1, .inl (ct 4, 4, .inr (.inl (fun _ => 0)))), (r2, .inl (ct 0, 4, .inl (fun _ => 0))), (r3, .inl (ct 0, 2, .inl (fun _ => 0))), (r4, .inl (ct 0, 4, .inl (fun _ => 0))), (r5, .inl (ct 4, 4, .inr (.inl (fun _ => 0))))] H := hP
  have hD : va_D A [(h0, .inr (3, [.null, .ref q1, .ref q2, .ref q3, .int 0, .int 0, .int 0, .int 0, .int 0])), (q1, .inl (ct 4, 4000, .inr (.inl (fun _ => 0)))), (q2, .inl (ct 4, 4000, .inr (.inl (fun _ => 0)))), (q3, .inl (ct 3, 1024, .inl (fun _ => 0))), (q4, .inr (4, [.ref dk, .ref r1, .ref r2, .ref r3, .ref r4, .ref r5, .int 0])), (r1, .inl (ct 4, 4, .inr (.inl (fun _ => 0)))), (r2, .inl (ct 0, 4, .inl (fun _ => 0))), (r3, .inl (ct 0, 2, .inl (fun _ => 0))), (r4, .inl (ct 0, 4, .inl (fun _ => 0))), (r5, .inl (ct 4, 4, .inr (.inl (fun _ => 0))))] := hD
  refine ci_put C (fty := (.object "PatienceDesk$Stand")) (k := 0) (idx := 27) hP hD hS rfl (by decide) (by simp) (by decide +kernel) rfl (by decide +kernel) rfl rfl (by decide +kernel) (fun H locs hP hD hS => ?_)
  have hP : va_P D pm_cl [(h0, .inr (3, [.ref q4, .ref q1, .ref q2, .ref q3, .int 0, .int 0, .int 0, .int 0, .int 0])), (q1, .inl (ct 4, 4000, .inr (.inl (fun _ => 0)))), (q2, .inl (ct 4, 4000, .inr (.inl (fun _ => 0)))), (q3, .inl (ct 3, 1024, .inl (fun _ => 0))), (q4, .inr (4, [.ref dk, .ref r1, .ref r2, .ref r3, .ref r4, .ref r5, .int 0])), (r1, .inl (ct 4, 4, .inr (.inl (fun _ => 0)))), (r2, .inl (ct 0, 4, .inl (fun _ => 0))), (r3, .inl (ct 0, 2, .inl (fun _ => 0))), (r4, .inl (ct 0, 4, .inl (fun _ => 0))), (r5, .inl (ct 4, 4, .inr (.inl (fun _ => 0))))] H := hP
  have hD : va_D A [(h0, .inr (3, [.ref q4, .ref q1, .ref q2, .ref q3, .int 0, .int 0, .int 0, .int 0, .int 0])), (q1, .inl (ct 4, 4000, .inr (.inl (fun _ => 0)))), (q2, .inl (ct 4, 4000, .inr (.inl (fun _ => 0)))), (q3, .inl (ct 3, 1024, .inl (fun _ => 0))), (q4, .inr (4, [.ref dk, .ref r1, .ref r2, .ref r3, .ref r4, .ref r5, .int 0])), (r1, .inl (ct 4, 4, .inr (.inl (fun _ => 0)))), (r2, .inl (ct 0, 4, .inl (fun _ => 0))), (r3, .inl (ct 0, 2, .inl (fun _ => 0))), (r4, .inl (ct 0, 4, .inl (fun _ => 0))), (r5, .inl (ct 4, 4, .inr (.inl (fun _ => 0))))] := hD
  exact ret _ _ _ _ _ (by decide +kernel) ⟨q1, q2, q3, q4, r1, r2, r3, r4, r5, rfl⟩ hP hD hS
def M0x : pm_M := (fun _ _ => 0, fun _ _ => 0)
def adX (la h0 a1 b1 b2 b3 a5 s1 s2 s3 s4 s5 a11 y1 y2 a14 t0 u01 t1 u11 t2 u21 t3 u31 t4 u41 t5 u51 a27 a28 z1 z2 z3 z4 z5 z6 z7 z8 z9 a38 w1 : Nat) : Nat → Nat := fun k => match k with | 0 => h0 | 1 => a1 | 2 => b1 | 3 => b2 | 4 => b3 | 5 => a5 | 6 => s1 | 7 => s2 | 8 => s3 | 9 => s4 | 10 => s5 | 11 => a11 | 12 => y1 | 13 => y2 | 14 => a14 | 15 => t0 | 16 => u01 | 17 => t1 | 18 => u11 | 19 => t2 | 20 => u21 | 21 => t3 | 22 => u31 | 23 => t4 | 24 => u41 | 25 => t5 | 26 => u51 | 27 => a27 | 28 => a28 | 29 => z1 | 30 => z2 | 31 => z3 | 32 => z4 | 33 => z5 | 34 => z6 | 35 => z7 | 36 => z8 | 37 => z9 | 38 => a38 | 39 => w1 | _ => la
def gX : Nat → Nat := fun k => match k with | 0 => 0 | 1 => 1 | 2 => 2 | 3 => 3 | 4 => 4 | 5 => 5 | 6 => 6 | 7 => 7 | 8 => 8 | 9 => 9 | 10 => 10 | 11 => 11 | 12 => 12 | 13 => 13 | 14 => 14 | 15 => 28 | 16 => 29 | 17 => 30 | 18 => 31 | 19 => 32 | 20 => 33 | 21 => 34 | 22 => 35 | 23 => 36 | 24 => 37 | 25 => 38 | 26 => 39 | 27 => 15 | 28 => 16 | 29 => 17 | 30 => 18 | 31 => 19 | 32 => 20 | 33 => 21 | 34 => 22 | 35 => 23 | 36 => 24 | 37 => 25 | 38 => 26 | 39 => 27 | _ => 0
set_option maxHeartbeats 4000000 in
set_option maxRecDepth 100000 in
theorem wx_at (la h0 a1 b1 b2 b3 a5 s1 s2 s3 s4 s5 a11 y1 y2 a14 t0 u01 t1 u11 t2 u21 t3 u31 t4 u41 t5 u51 a27 a28 z1 z2 z3 z4 z5 z6 z7 z8 z9 a38 w1 : Nat) (ct : Nat → ClassId) : ∀ k sh, SHx[k]? = some sh → ([(h0, .inr (6, [.ref a1, .ref a5, .ref a11, .ref a14, .ref a27, .ref a28, .ref a38, .int 0, .int 0, .int 0])), (a1, .inr (0, [.ref b1, .ref b2, .ref b3, .int 0, .int 0, .int 0, .int 0, .int 0])), (b1, .inl (ct 0, 16, .inl (fun _ => 0))), (b2, .inl (ct 0, 16, .inl (fun _ => 0))), (b3, .inl (ct 0, 16, .inl (fun _ => 0))), (a5, .inr (4, [.ref a1, .ref s1, .ref s2, .ref s3, .ref s4, .ref s5, .int 0])), (s1, .inl (ct 4, 4, .inr (.inl (fun _ => 0)))), (s2, .inl (ct 0, 4, .inl (fun _ => 0))), (s3, .inl (ct 0, 2, .inl (fun _ => 0))), (s4, .inl (ct 0, 4, .inl (fun _ => 0))), (s5, .inl (ct 4, 4, .inr (.inl (fun _ => 0)))), (a11, .inr (1, [.ref y1, .ref y2, .int 0, .int 0])), (y1, .inl (ct 4, 65, .inr (.inl (fun _ => 0)))), (y2, .inl (ct 0, 65, .inl (fun _ => 0))), (a14, .inl (ct 5, 6, .inr (.inr (.inr (.inr (va_up (va_up (va_up (va_up (va_up (va_up (fun _ => none) (nI 0).toNatClampNeg (some t0)) (nI 1).toNatClampNeg (some t1)) (nI 2).toNatClampNeg (some t2)) (nI 3).toNatClampNeg (some t3)) (nI 4).toNatClampNeg (some t4)) (nI 5).toNatClampNeg (some t5))))))), (a27, .inl (ct 3, 18, .inl (fun _ => 0))), (a28, .inr (3, [.ref z4, .ref z1, .ref z2, .ref z3, .int 0, .int 0, .int 0, .int 0, .int 0])), (z1, .inl (ct 4, 4000, .inr (.inl (fun _ => 0)))), (z2, .inl (ct 4, 4000, .inr (.inl (fun _ => 0)))), (z3, .inl (ct 3, 1024, .inl (fun _ => 0))), (z4, .inr (4, [.ref a1, .ref z5, .ref z6, .ref z7, .ref z8, .ref z9, .int 0])), (z5, .inl (ct 4, 4, .inr (.inl (fun _ => 0)))), (z6, .inl (ct 0, 4, .inl (fun _ => 0))), (z7, .inl (ct 0, 2, .inl (fun _ => 0))), (z8, .inl (ct 0, 4, .inl (fun _ => 0))), (z9, .inl (ct 4, 4, .inr (.inl (fun _ => 0)))), (a38, .inr (2, [.ref w1, .int 0])), (w1, .inl (ct 4, 500, .inr (.inl (fun _ => 0)))), (t0, .inr (5, [.ref u01, .int 0, .int 0, .int 0])), (u01, .inl (ct 3, 32, .inl (fun _ => 0))), (t1, .inr (5, [.ref u11, .int 0, .int 0, .int 0])), (u11, .inl (ct 3, 32, .inl (fun _ => 0))), (t2, .inr (5, [.ref u21, .int 0, .int 0, .int 0])), (u21, .inl (ct 3, 32, .inl (fun _ => 0))), (t3, .inr (5, [.ref u31, .int 0, .int 0, .int 0])), (u31, .inl (ct 3, 32, .inl (fun _ => 0))), (t4, .inr (5, [.ref u41, .int 0, .int 0, .int 0])), (u41, .inl (ct 3, 32, .inl (fun _ => 0))), (t5, .inr (5, [.ref u51, .int 0, .int 0, .int 0])), (u51, .inl (ct 3, 32, .inl (fun _ => 0)))] : va_W)[gX k]? = some (adX la h0 a1 b1 b2 b3 a5 s1 s2 s3 s4 s5 a11 y1 y2 a14 t0 u01 t1 u11 t2 u21 t3 u31 t4 u41 t5 u51 a27 a28 z1 z2 z3 z4 z5 z6 z7 z8 z9 a38 w1 k, pm_cell (adX la h0 a1 b1 b2 b3 a5 s1 s2 s3 s4 s5 a11 y1 y2 a14 t0 u01 t1 u11 t2 u21 t3 u31 t4 u41 t5 u51 a27 a28 z1 z2 z3 z4 z5 z6 z7 z8 z9 a38 w1) ct M0x k sh) := by
  intro k sh h
  rcases k with _ | k
  · have e := Option.some.inj (sx_0.symm.trans h); subst e; rfl
  rcases k with _ | k
  · have e := Option.some.inj (sx_1.symm.trans h); subst e; rfl
  rcases k with _ | k
  · have e := Option.some.inj (sx_2.symm.trans h); subst e; rfl
  rcases k with _ | k
  · have e := Option.some.inj (sx_3.symm.trans h); subst e; rfl
  rcases k with _ | k
  · have e := Option.some.inj (sx_4.symm.trans h); subst e; rfl
  rcases k with _ | k
  · have e := Option.some.inj (sx_5.symm.trans h); subst e; rfl
  rcases k with _ | k
  · have e := Option.some.inj (sx_6.symm.trans h); subst e; rfl
  rcases k with _ | k
  · have e := Option.some.inj (sx_7.symm.trans h); subst e; rfl
  rcases k with _ | k
  · have e := Option.some.inj (sx_8.symm.trans h); subst e; rfl
  rcases k with _ | k
  · have e := Option.some.inj (sx_9.symm.trans h); subst e; rfl
  rcases k with _ | k
  · have e := Option.some.inj (sx_10.symm.trans h); subst e; rfl
  rcases k with _ | k
  · have e := Option.some.inj (sx_11.symm.trans h); subst e; rfl
  rcases k with _ | k
  · have e := Option.some.inj (sx_12.symm.trans h); subst e; rfl
  rcases k with _ | k
  · have e := Option.some.inj (sx_13.symm.trans h); subst e; rfl
  rcases k with _ | k
  · have e := Option.some.inj (sx_14.symm.trans h); subst e
    have hf : (va_up (va_up (va_up (va_up (va_up (va_up (fun _ => none) (nI 0).toNatClampNeg (some t0)) (nI 1).toNatClampNeg (some t1)) (nI 2).toNatClampNeg (some t2)) (nI 3).toNatClampNeg (some t3)) (nI 4).toNatClampNeg (some t4)) (nI 5).toNatClampNeg (some t5) : Nat → Option Nat) = fun j => ([15, 17, 19, 21, 23, 25][j]?).map (adX la h0 a1 b1 b2 b3 a5 s1 s2 s3 s4 s5 a11 y1 y2 a14 t0 u01 t1 u11 t2 u21 t3 u31 t4 u41 t5 u51 a27 a28 z1 z2 z3 z4 z5 z6 z7 z8 z9 a38 w1) := by
      funext j
      rcases j with _ | _ | _ | _ | _ | _ | j <;> rfl
    show some (a14, Sum.inl (ct 5, 6, Sum.inr (Sum.inr (Sum.inr (Sum.inr (va_up (va_up (va_up (va_up (va_up (va_up (fun _ => none) (nI 0).toNatClampNeg (some t0)) (nI 1).toNatClampNeg (some t1)) (nI 2).toNatClampNeg (some t2)) (nI 3).toNatClampNeg (some t3)) (nI 4).toNatClampNeg (some t4)) (nI 5).toNatClampNeg (some t5))))))) = _
    rw [hf]; rfl
  rcases k with _ | k
  · have e := Option.some.inj (sx_15.symm.trans h); subst e; rfl
  rcases k with _ | k
  · have e := Option.some.inj (sx_16.symm.trans h); subst e; rfl
  rcases k with _ | k
  · have e := Option.some.inj (sx_17.symm.trans h); subst e; rfl
  rcases k with _ | k
  · have e := Option.some.inj (sx_18.symm.trans h); subst e; rfl
  rcases k with _ | k
  · have e := Option.some.inj (sx_19.symm.trans h); subst e; rfl
  rcases k with _ | k
  · have e := Option.some.inj (sx_20.symm.trans h); subst e; rfl
  rcases k with _ | k
  · have e := Option.some.inj (sx_21.symm.trans h); subst e; rfl
  rcases k with _ | k
  · have e := Option.some.inj (sx_22.symm.trans h); subst e; rfl
  rcases k with _ | k
  · have e := Option.some.inj (sx_23.symm.trans h); subst e; rfl
  rcases k with _ | k
  · have e := Option.some.inj (sx_24.symm.trans h); subst e; rfl
  rcases k with _ | k
  · have e := Option.some.inj (sx_25.symm.trans h); subst e; rfl
  rcases k with _ | k
  · have e := Option.some.inj (sx_26.symm.trans h); subst e; rfl
  rcases k with _ | k
  · have e := Option.some.inj (sx_27.symm.trans h); subst e; rfl
  rcases k with _ | k
  · have e := Option.some.inj (sx_28.symm.trans h); subst e; rfl
  rcases k with _ | k
  · have e := Option.some.inj (sx_29.symm.trans h); subst e; rfl
  rcases k with _ | k
  · have e := Option.some.inj (sx_30.symm.trans h); subst e; rfl
  rcases k with _ | k
  · have e := Option.some.inj (sx_31.symm.trans h); subst e; rfl
  rcases k with _ | k
  · have e := Option.some.inj (sx_32.symm.trans h); subst e; rfl
  rcases k with _ | k
  · have e := Option.some.inj (sx_33.symm.trans h); subst e; rfl
  rcases k with _ | k
  · have e := Option.some.inj (sx_34.symm.trans h); subst e; rfl
  rcases k with _ | k
  · have e := Option.some.inj (sx_35.symm.trans h); subst e; rfl
  rcases k with _ | k
  · have e := Option.some.inj (sx_36.symm.trans h); subst e; rfl
  rcases k with _ | k
  · have e := Option.some.inj (sx_37.symm.trans h); subst e; rfl
  rcases k with _ | k
  · have e := Option.some.inj (sx_38.symm.trans h); subst e; rfl
  rcases k with _ | k
  · have e := Option.some.inj (sx_39.symm.trans h); subst e; rfl
  · have := (List.getElem?_eq_some_iff.mp h).1
    have e40 : SHx.length = 40 := rfl
    omega
