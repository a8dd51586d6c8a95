/-! THE CONSTRUCTORS THAT MAKE ARRAYS (written by genctor.py) -/
set_option maxHeartbeats 4000000 in
set_option maxRecDepth 100000 in
theorem ci_X0 {l : Launch} {ct : Nat → ClassId} (h0 : Nat) : ci_Met l yX0_init cX0_init 1 2 3 48 ct [.ref h0] [(h0, .inr (0, [.null, .null, .null, .int 0, .int 0, .int 0, .int 0, .int 0]))] (fun u => ∃ q1 q2 q3 : Nat, u = [(h0, .inr (0, [.ref q1, .ref q2, .ref q3, .int 0, .int 0, .int 0, .int 0, .int 0])), (q1, .inl (ct 0, 16, .inl (fun _ => 0))), (q2, .inl (ct 0, 16, .inl (fun _ => 0))), (q3, .inl (ct 0, 16, .inl (fun _ => 0)))]) := by
  refine ci_intro (by decide +kernel) rfl (by simp [lg_sl, Value.category]) ?_
  intro p e s m below meth c D A ls Q C hl hP hD hS ret
  obtain ⟨hx, hb, -, -, hown, hts, -⟩ := id C
  refine ci_obj C (idx := 3) hl.1 (lv_at hl 0 rfl) (by decide +kernel) (by decide) (by decide) (by decide +kernel) (by decide +kernel) ?_
  refine lv_aload_n (k := 0) hx hb (by decide +kernel) rfl (lv_at hl 0 rfl) ?_
  refine lv_bipush (n := 16) (v := nI 16) hx hb (by decide +kernel) (by decide) ?_
  refine ci_arr C (fty := (.array .int)) (t := 0) (k := 0) (idx := 9) (aty := .int) (a := .inl (fun _ => 0)) hP hD hS rfl rfl (fun _ _ h => h) (fun _ => rfl) (by decide) (by decide) (by decide) (by decide) (by decide +kernel) rfl (by decide) (by simp) (by decide +kernel) rfl (by decide +kernel) (fun _ => rfl) (fun _ => rfl) (by decide +kernel) (by decide +kernel) (fun q1 H locs hP hD hS => ?_)
  refine lv_aload_n (k := 0) hx hb (by decide +kernel) rfl (lv_at hl 0 rfl) ?_
  refine lv_bipush (n := 16) (v := nI 16) hx hb (by decide +kernel) (by decide) ?_
  refine ci_arr C (fty := (.array .int)) (t := 0) (k := 1) (idx := 15) (aty := .int) (a := .inl (fun _ => 0)) hP hD hS rfl rfl (fun _ _ h => h) (fun _ => rfl) (by decide) (by decide) (by decide) (by decide) (by decide +kernel) rfl (by decide) (by simp) (by decide +kernel) rfl (by decide +kernel) (fun _ => rfl) (fun _ => rfl) (by decide +kernel) (by decide +kernel) (fun q2 H locs hP hD hS => ?_)
  refine lv_aload_n (k := 0) hx hb (by decide +kernel) rfl (lv_at hl 0 rfl) ?_
  refine lv_bipush (n := 16) (v := nI 16) hx hb (by decide +kernel) (by decide) ?_
  refine ci_arr C (fty := (.array .int)) (t := 0) (k := 2) (idx := 18) (aty := .int) (a := .inl (fun _ => 0)) hP hD hS rfl rfl (fun _ _ h => h) (fun _ => rfl) (by decide) (by decide) (by decide) (by decide) (by decide +kernel) rfl (by decide) (by simp) (by decide +kernel) rfl (by decide +kernel) (fun _ => rfl) (fun _ => rfl) (by decide +kernel) (by decide +kernel) (fun q3 H locs hP hD hS => ?_)
  exact ret _ _ _ _ _ (by decide +kernel) ⟨q1, q2, q3, rfl⟩ hP hD hS
set_option maxHeartbeats 4000000 in
set_option maxRecDepth 100000 in
theorem ci_X1 {l : Launch} {ct : Nat → ClassId} (h0 : Nat) : ci_Met l yX1_init cX1_init 1 2 2 130 ct [.ref h0] [(h0, .inr (1, [.null, .null, .int 0, .int 0]))] (fun u => ∃ q1 q2 : Nat, u = [(h0, .inr (1, [.ref q1, .ref q2, .int 0, .int 0])), (q1, .inl (ct 4, 65, .inr (.inl (fun _ => 0)))), (q2, .inl (ct 0, 65, .inl (fun _ => 0)))]) := by
  refine ci_intro (by decide +kernel) rfl (by simp [lg_sl, Value.category]) ?_
  intro p e s m below meth c D A ls Q C hl hP hD hS ret
  obtain ⟨hx, hb, -, -, hown, hts, -⟩ := id C
  refine ci_obj C (idx := 1) hl.1 (lv_at hl 0 rfl) (by decide +kernel) (by decide) (by decide) (by decide +kernel) (by decide +kernel) ?_
  refine lv_aload_n (k := 0) hx hb (by decide +kernel) rfl (lv_at hl 0 rfl) ?_
  refine lv_bipush (n := 65) (v := nI 65) hx hb (by decide +kernel) (by decide) ?_
  refine ci_arr C (fty := (.array .long)) (t := 4) (k := 0) (idx := 9) (aty := .long) (a := .inr (.inl (fun _ => 0))) hP hD hS rfl rfl (fun _ _ h => h) (fun _ => rfl) (by decide) (by decide) (by decide) (by decide) (by decide +kernel) rfl (by decide) (by simp) (by decide +kernel) rfl (by decide +kernel) (fun _ => rfl) (fun _ => rfl) (by decide +kernel) (by decide +kernel) (fun q1 H locs hP hD hS => ?_)
  refine lv_aload_n (k := 0) hx hb (by decide +kernel) rfl (lv_at hl 0 rfl) ?_
  refine lv_bipush (n := 65) (v := nI 65) hx hb (by decide +kernel) (by decide) ?_
  refine ci_arr C (fty := (.array .int)) (t := 0) (k := 1) (idx := 13) (aty := .int) (a := .inl (fun _ => 0)) hP hD hS rfl rfl (fun _ _ h => h) (fun _ => rfl) (by decide) (by decide) (by decide) (by decide) (by decide +kernel) rfl (by decide) (by simp) (by decide +kernel) rfl (by decide +kernel) (fun _ => rfl) (fun _ => rfl) (by decide +kernel) (by decide +kernel) (fun q2 H locs hP hD hS => ?_)
  exact ret _ _ _ _ _ (by decide +kernel) ⟨q1, q2, rfl⟩ hP hD hS
set_option maxHeartbeats 4000000 in
set_option maxRecDepth 100000 in
theorem ci_X2 {l : Launch} {ct : Nat → ClassId} (h0 : Nat) : ci_Met l yX2_init cX2_init 1 2 1 500 ct [.ref h0] [(h0, .inr (2, [.null, .int 0]))] (fun u => ∃ q1 : Nat, u = [(h0, .inr (2, [.ref q1, .int 0])), (q1, .inl (ct 4, 500, .inr (.inl (fun _ => 0))))]) := by
  refine ci_intro (by decide +kernel) rfl (by simp [lg_sl, Value.category]) ?_
  intro p e s m below meth c D A ls Q C hl hP hD hS ret
  obtain ⟨hx, hb, -, -, hown, hts, -⟩ := id C
  refine ci_obj C (idx := 3) hl.1 (lv_at hl 0 rfl) (by decide +kernel) (by decide) (by decide) (by decide +kernel) (by decide +kernel) ?_
  refine lv_aload_n (k := 0) hx hb (by decide +kernel) rfl (lv_at hl 0 rfl) ?_
  refine lv_sipush (n := 500) (v := nI 500) hx hb (by decide +kernel) (by decide) ?_
  refine ci_arr C (fty := (.array .long)) (t := 4) (k := 0) (idx := 11) (aty := .long) (a := .inr (.inl (fun _ => 0))) hP hD hS rfl rfl (fun _ _ h => h) (fun _ => rfl) (by decide) (by decide) (by decide) (by decide) (by decide +kernel) rfl (by decide) (by simp) (by decide +kernel) rfl (by decide +kernel) (fun _ => rfl) (fun _ => rfl) (by decide +kernel) (by decide +kernel) (fun q1 H locs hP hD hS => ?_)
  exact ret _ _ _ _ _ (by decide +kernel) ⟨q1, rfl⟩ hP hD hS
set_option maxHeartbeats 4000000 in
set_option maxRecDepth 100000 in
theorem ci_X4 {l : Launch} {ct : Nat → ClassId} (h0 : Nat) (dk : Nat) : ci_Met l yX4_init cX4_init 2 2 5 18 ct [.ref h0, .ref dk] [(h0, .inr (4, [.null, .null, .null, .null, .null, .null, .int 0]))] (fun u => ∃ q1 q2 q3 q4 q5 : Nat, u = [(h0, .inr (4, [.ref dk, .ref q1, .ref q2, .ref q3, .ref q4, .ref q5, .int 0])), (q1, .inl (ct 4, 4, .inr (.inl (fun _ => 0)))), (q2, .inl (ct 0, 4, .inl (fun _ => 0))), (q3, .inl (ct 0, 2, .inl (fun _ => 0))), (q4, .inl (ct 0, 4, .inl (fun _ => 0))), (q5, .inl (ct 4, 4, .inr (.inl (fun _ => 0))))]) := by
  refine ci_intro (by decide +kernel) rfl (by simp [lg_sl, Value.category]) ?_
  intro p e s m below meth c D A ls Q C hl hP hD hS ret
  obtain ⟨hx, hb, -, -, hown, hts, -⟩ := id C
  refine ci_obj C (idx := 5) hl.1 (lv_at hl 0 rfl) (by decide +kernel) (by decide) (by decide) (by decide +kernel) (by decide +kernel) ?_
  refine lv_aload_n (k := 0) hx hb (by decide +kernel) rfl (lv_at hl 0 rfl) ?_
  refine lv_iconst (n := 4) (v := nI 4) hx hb (by decide +kernel) (by decide) ?_
  refine ci_arr C (fty := (.array .long)) (t := 4) (k := 1) (idx := 11) (aty := .long) (a := .inr (.inl (fun _ => 0))) hP hD hS rfl rfl (fun _ _ h => h) (fun _ => rfl) (by decide) (by decide) (by decide) (by decide) (by decide +kernel) rfl (by decide) (by simp) (by decide +kernel) rfl (by decide +kernel) (fun _ => rfl) (fun _ => rfl) (by decide +kernel) (by decide +kernel) (fun q1 H locs hP hD hS => ?_)
  refine lv_aload_n (k := 0) hx hb (by decide +kernel) rfl (lv_at hl 0 rfl) ?_
  refine lv_iconst (n := 4) (v := nI 4) hx hb (by decide +kernel) (by decide) ?_
  refine ci_arr C (fty := (.array .int)) (t := 0) (k := 2) (idx := 15) (aty := .int) (a := .inl (fun _ => 0)) hP hD hS rfl rfl (fun _ _ h => h) (fun _ => rfl) (by decide) (by decide) (by decide) (by decide) (by decide +kernel) rfl (by decide) (by simp) (by decide +kernel) rfl (by decide +kernel) (fun _ => rfl) (fun _ => rfl) (by decide +kernel) (by decide +kernel) (fun q2 H locs hP hD hS => ?_)
  refine lv_aload_n (k := 0) hx hb (by decide +kernel) rfl (lv_at hl 0 rfl) ?_
  refine lv_iconst (n := 2) (v := nI 2) hx hb (by decide +kernel) (by decide) ?_
  refine ci_arr C (fty := (.array .int)) (t := 0) (k := 3) (idx := 19) (aty := .int) (a := .inl (fun _ => 0)) hP hD hS rfl rfl (fun _ _ h => h) (fun _ => rfl) (by decide) (by decide) (by decide) (by decide) (by decide +kernel) rfl (by decide) (by simp) (by decide +kernel) rfl (by decide +kernel) (fun _ => rfl) (fun _ => rfl) (by decide +kernel) (by decide +kernel) (fun q3 H locs hP hD hS => ?_)
  refine lv_aload_n (k := 0) hx hb (by decide +kernel) rfl (lv_at hl 0 rfl) ?_
  refine lv_iconst (n := 4) (v := nI 4) hx hb (by decide +kernel) (by decide) ?_
  refine ci_arr C (fty := (.array .int)) (t := 0) (k := 4) (idx := 22) (aty := .int) (a := .inl (fun _ => 0)) hP hD hS rfl rfl (fun _ _ h => h) (fun _ => rfl) (by decide) (by decide) (by decide) (by decide) (by decide +kernel) rfl (by decide) (by simp) (by decide +kernel) rfl (by decide +kernel) (fun _ => rfl) (fun _ => rfl) (by decide +kernel) (by decide +kernel) (fun q4 H locs hP hD hS => ?_)
  refine lv_aload_n (k := 0) hx hb (by decide +kernel) rfl (lv_at hl 0 rfl) ?_
  refine lv_iconst (n := 4) (v := nI 4) hx hb (by decide +kernel) (by decide) ?_
  refine ci_arr C (fty := (.array .long)) (t := 4) (k := 5) (idx := 25) (aty := .long) (a := .inr (.inl (fun _ => 0))) hP hD hS rfl rfl (fun _ _ h => h) (fun _ => rfl) (by decide) (by decide) (by decide) (by decide) (by decide +kernel) rfl (by decide) (by simp) (by decide +kernel) rfl (by decide +kernel) (fun _ => rfl) (fun _ => rfl) (by decide +kernel) (by decide +kernel) (fun q5 H locs hP hD hS => ?_)
  refine lv_aload_n (k := 0) hx hb (by decide +kernel) rfl (lv_at hl 0 rfl) ?_
  refine lv_aload_n (k := 1) hx hb (by decide +kernel) rfl (lv_at hl 1 rfl) ?_
  refine ci_put C (fty := (.object "PatienceDesk$Deck")) (k := 0) (idx := 28) hP hD hS rfl (by decide) (by simp) (by decide +kernel) rfl (by decide +kernel) rfl rfl (by decide +kernel) (fun H locs hP hD hS => ?_)
  exact ret _ _ _ _ _ (by decide +kernel) ⟨q1, q2, q3, q4, q5, rfl⟩ hP hD hS
set_option maxHeartbeats 4000000 in
set_option maxRecDepth 100000 in
theorem ci_X5 {l : Launch} {ct : Nat → ClassId} (h0 : Nat) : ci_Met l yX5_init cX5_init 1 2 1 32 ct [.ref h0] [(h0, .inr (5, [.null, .int 0, .int 0, .int 0]))] (fun u => ∃ q1 : Nat, u = [(h0, .inr (5, [.ref q1, .int 0, .int 0, .int 0])), (q1, .inl (ct 3, 32, .inl (fun _ => 0)))]) := by
  refine ci_intro (by decide +kernel) rfl (by simp [lg_sl, Value.category]) ?_
  intro p e s m below meth c D A ls Q C hl hP hD hS ret
  obtain ⟨hx, hb, -, -, hown, hts, -⟩ := id C
  refine ci_obj C (idx := 3) hl.1 (lv_at hl 0 rfl) (by decide +kernel) (by decide) (by decide) (by decide +kernel) (by decide +kernel) ?_
  refine lv_aload_n (k := 0) hx hb (by decide +kernel) rfl (lv_at hl 0 rfl) ?_
  refine lv_bipush (n := 32) (v := nI 32) hx hb (by decide +kernel) (by decide) ?_
  refine ci_arr C (fty := (.array .short)) (t := 3) (k := 0) (idx := 9) (aty := .short) (a := .inl (fun _ => 0)) hP hD hS rfl rfl (fun _ _ h => h) (fun _ => rfl) (by decide) (by decide) (by decide) (by decide) (by decide +kernel) rfl (by decide) (by simp) (by decide +kernel) rfl (by decide +kernel) (fun _ => rfl) (fun _ => rfl) (by decide +kernel) (by decide +kernel) (fun q1 H locs hP hD hS => ?_)
  refine lv_aload_n (k := 0) hx hb (by decide +kernel) rfl (lv_at hl 0 rfl) ?_
  refine lv_iconst (n := 0) (v := nI 0) hx hb (by decide +kernel) (by decide) ?_
  refine ci_put C (fty := .int) (k := 1) (idx := 15) hP hD hS rfl (by decide) (by simp) (by decide +kernel) rfl (by decide +kernel) rfl rfl (by decide +kernel) (fun H locs hP hD hS => ?_)
  exact ret _ _ _ _ _ (by decide +kernel) ⟨q1, rfl⟩ hP hD hS
