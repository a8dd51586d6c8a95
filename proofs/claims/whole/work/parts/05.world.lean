/-! the pure memory in the machine's heap -/
def pm_tr (ad : Nat → Nat) : Value → Value
  | .ref q => .ref (ad q)
  | .retAddr _ => .ref (ad 1000)
  | v => v
theorem pm_tr_cat (ad : Nat → Nat) (v : Value) : (pm_tr ad v).category = v.category := by cases v <;> rfl
def pm_tp (ad : Nat → Nat) (q : Nat × Value) : Nat × Value := (q.1, pm_tr ad q.2)
def pm_tys (ct : Nat → ClassId) : List (ClassId × FieldType) := [(ct 0, .int), (ct 1, .byte), (ct 2, .boolean), (ct 3, .short), (ct 4, .long), (ct 5, .object "PatienceDesk$Tray")]
def pm_cell (ad : Nat → Nat) (ct : Nat → ClassId) (M : pm_M) (q : Nat) : pm_S → va_E
  | .inl (t, n) => .inl (ct t, n, if t = 4 then .inr (.inl (M.2 q)) else .inl (M.1 q))
  | .inr (.inl ps) => .inl (ct 5, ps.length, .inr (.inr (.inr (.inr (fun j => (ps[j]?).map ad)))))
  | .inr (.inr (ci, fs)) => .inr (ci, fs.mapIdx (fun j f => pm_tr ad (pm_fv M q j f)))
def pm_w (SH : List pm_S) (ad : Nat → Nat) (ct : Nat → ClassId) (M : pm_M) : va_W := SH.mapIdx (fun q sh => (ad q, pm_cell ad ct M q sh))
def pm_A (SH : List pm_S) (ad : Nat → Nat) : Nat → Prop := fun a => ∃ q, q < SH.length ∧ a = ad q
theorem pm_w_at {SH : List pm_S} {ad : Nat → Nat} {ct : Nat → ClassId} {M : pm_M} {q : Nat} {sh : pm_S} (h : SH[q]? = some sh) : (pm_w SH ad ct M)[q]? = some (ad q, pm_cell ad ct M q sh) := by
  simp [pm_w, h]
theorem pm_w_set {SH : List pm_S} {ad : Nat → Nat} {ct : Nat → ClassId} {M M' : pm_M} {q : Nat} {sh : pm_S} {e : va_E} (h : SH[q]? = some sh) (hM : ∀ a sh', a ≠ q → pm_cell ad ct M' a sh' = pm_cell ad ct M a sh') (he : pm_cell ad ct M' q sh = e) : (pm_w SH ad ct M).set q (ad q, e) = pm_w SH ad ct M' := by
  apply List.ext_getElem?
  intro j
  rw [List.getElem?_set]
  split
  · next e1 =>
    subst e1
    have hq : q < SH.length := (List.getElem?_eq_some_iff.mp h).1
    rw [pm_w_at h, he]
    simp [pm_w, hq]
  · next e1 =>
    cases hj : SH[j]? with
    | none => simp [pm_w, hj]
    | some sh' => rw [pm_w_at hj, pm_w_at hj, hM j sh' (fun x => e1 x.symm)]
theorem pm_set_ne {ad : Nat → Nat} {ct : Nat → ClassId} {M : pm_M} {q i : Nat} {v : Int32} (a : Nat) (sh : pm_S) (h : a ≠ q) : pm_cell ad ct (pm_set M q i v) a sh = pm_cell ad ct M a sh := by
  rcases sh with ⟨t, n⟩ | ps | ⟨ci, fs⟩
  · simp [pm_cell, pm_set, h]
  · rfl
  · have e : ∀ j f, pm_fv (pm_set M q i v) a j f = pm_fv M a j f := fun j f => by cases f <;> simp [pm_fv, pm_set, h]
    simp [pm_cell, e]
theorem pm_setL_ne {ad : Nat → Nat} {ct : Nat → ClassId} {M : pm_M} {q i : Nat} {v : Int64} (a : Nat) (sh : pm_S) (h : a ≠ q) : pm_cell ad ct (pm_setL M q i v) a sh = pm_cell ad ct M a sh := by
  rcases sh with ⟨t, n⟩ | ps | ⟨ci, fs⟩
  · simp [pm_cell, pm_setL, h]
  · rfl
  · have e : ∀ j f, pm_fv (pm_setL M q i v) a j f = pm_fv M a j f := fun j f => by cases f <;> rfl
    simp [pm_cell, e]
theorem pm_cpy_ne {ad : Nat → Nat} {ct : Nat → ClassId} {M : pm_M} {q0 x q y n : Nat} (a : Nat) (sh : pm_S) (h : a ≠ q) : pm_cell ad ct (pm_cpy M q0 x q y n) a sh = pm_cell ad ct M a sh := by
  rcases sh with ⟨t, n⟩ | ps | ⟨ci, fs⟩
  · simp [pm_cell, pm_cpy, h]
  · rfl
  · have e : ∀ j f, pm_fv (pm_cpy M q0 x q y n) a j f = pm_fv M a j f := fun j f => by cases f <;> simp [pm_fv, pm_cpy, h]
    simp [pm_cell, e]
theorem pm_cpyL_ne {ad : Nat → Nat} {ct : Nat → ClassId} {M : pm_M} {q0 x q y n : Nat} (a : Nat) (sh : pm_S) (h : a ≠ q) : pm_cell ad ct (pm_cpyL M q0 x q y n) a sh = pm_cell ad ct M a sh := by
  rcases sh with ⟨t, n⟩ | ps | ⟨ci, fs⟩
  · simp [pm_cell, pm_cpyL, h]
  · rfl
  · have e : ∀ j f, pm_fv (pm_cpyL M q0 x q y n) a j f = pm_fv M a j f := fun j f => by cases f <;> rfl
    simp [pm_cell, e]
theorem pm_cell_i {ad : Nat → Nat} {ct : Nat → ClassId} {M : pm_M} {q t n : Nat} (h : t ≠ 4) : pm_cell ad ct M q (.inl (t, n)) = .inl (ct t, n, .inl (M.1 q)) := by simp [pm_cell, h]
theorem pm_cell_l {ad : Nat → Nat} {ct : Nat → ClassId} {M : pm_M} {q n : Nat} : pm_cell ad ct M q (.inl (4, n)) = .inl (ct 4, n, .inr (.inl (M.2 q))) := by simp [pm_cell]
theorem pm_set_row {M : pm_M} {q i : Nat} {v : Int32} : (pm_set M q i v).1 q = upd (M.1 q) i v := by
  funext j; simp [pm_set, upd]
theorem pm_setL_row {M : pm_M} {q i : Nat} {v : Int64} : (pm_setL M q i v).2 q = vp_updL (M.2 q) i v := by
  funext j; simp [pm_setL, vp_updL]
theorem pm_cpy_row {M : pm_M} {q0 x q y n : Nat} : (pm_cpy M q0 x q y n).1 q = va_cpy (M.1 q0) (M.1 q) x y n := by
  funext j; simp [pm_cpy, va_cpy]
theorem pm_cpyL_row {M : pm_M} {q0 x q y n : Nat} : (pm_cpyL M q0 x q y n).2 q = va_cpy (M.2 q0) (M.2 q) x y n := by
  funext j; simp [pm_cpyL, va_cpy]
theorem pm_set_fs {ad : Nat → Nat} {M : pm_M} {q b : Nat} {x : Int32} {fs : List (Option Nat)} (h : fs[b]? = some none) : fs.mapIdx (fun j f => pm_tr ad (pm_fv (pm_set M q b x) q j f)) = (fs.mapIdx (fun j f => pm_tr ad (pm_fv M q j f))).set b (.int x) := by
  apply List.ext_getElem?
  intro j
  rw [List.getElem?_set]
  obtain ⟨hb, hb2⟩ := List.getElem?_eq_some_iff.mp h
  split
  · next e => subst e; simp [hb2, pm_fv, pm_set, pm_tr, hb]
  · next e =>
    cases hj : fs[j]? with
    | none => simp [hj]
    | some f => cases f with
      | none => simp [hj, pm_fv, pm_set, pm_tr, show ¬ j = b from fun x => e x.symm]
      | some r => simp [hj, pm_fv]
def pm_RO (SH : List pm_S) (ad : Nat → Nat) (U : State) (H : Heap) : Prop := va_Z "PatienceDesk" "LAWS_ABOVE" "[I" (.ref (ad 1000)) (pm_A SH ad) U H ∧ va_T .int (ad 1000) 5 (fun j => .int (pm_laws.getD j 0)) (pm_A SH ad) U H
theorem pm_RO.moved {SH : List pm_S} {ad : Nat → Nat} {u U : State} {H : Heap} (hvm : u.vm.Alike U.vm) (h : pm_RO SH ad u H) : pm_RO SH ad U H := ⟨h.1.moved hvm, h.2.moved hvm⟩
theorem pm_RO.kept {SH : List pm_S} {ad : Nat → Nat} {U : State} {H H1 : Heap} (h : pm_RO SH ad U H) (hq : ∀ a : Nat, a < H.size → ¬ pm_A SH ad a → H1[a]? = H[a]?) : pm_RO SH ad U H1 := ⟨h.1.kept hq, h.2.kept hq⟩
def pm_Wd (SH : List pm_S) (ad : Nat → Nat) (ct : Nat → ClassId) (D : va_G) (M : pm_M) (U : State) : Prop := va_P D pm_cl (pm_w SH ad ct M) U.heap ∧ va_K D pm_cl (pm_tys ct) U ∧ va_D (pm_A SH ad) (pm_w SH ad ct M) ∧ pm_RO SH ad U U.heap ∧ pm_NW U
theorem pm_D {SH : List pm_S} {ad : Nat → Nat} {ct : Nat → ClassId} {M : pm_M} (h : va_D (pm_A SH ad) (pm_w SH ad ct M)) (M' : pm_M) : va_D (pm_A SH ad) (pm_w SH ad ct M') := by
  have key : ∀ (i : Nat) (p : Nat × va_E), (pm_w SH ad ct M')[i]? = some p → ∃ p', (pm_w SH ad ct M)[i]? = some p' ∧ p'.1 = p.1 := by
    intro i p hp
    cases hj : SH[i]? with
    | none => simp [pm_w, hj] at hp
    | some sh =>
      rw [pm_w_at hj] at hp
      cases hp
      exact ⟨_, pm_w_at hj, rfl⟩
  refine ⟨fun i j p q hp hq e => ?_, fun k q hq => ?_⟩
  · obtain ⟨p', h1, e1⟩ := key i p hp
    obtain ⟨q', h2, e2⟩ := key j q hq
    exact h.1 i j p' q' h1 h2 (by rw [e1, e2, e])
  · obtain ⟨q', h2, e2⟩ := key k q hq
    rw [← e2]; exact h.2 k q' h2
def pm_Q (SH : List pm_S) (ad : Nat → Nat) (ct : Nat → ClassId) (D : va_G) (ret : Option FieldType) (k : Option Value → pm_M → Prop) : Array Value → State → Outcome → State → Prop := match ret with
  | none => va_Qv (fun u : pm_M => k none u) (fun u t => pm_Wd SH ad ct D u t) (pm_A SH ad)
  | some .long => va_Ql (fun (r : Int64) (u : pm_M) => k (some (.long r)) u) (fun u t => pm_Wd SH ad ct D u t) (pm_A SH ad)
  | some _ => va_Qi (fun (r : Int32) (u : pm_M) => k (some (.int r)) u) (fun u t => pm_Wd SH ad ct D u t) (pm_A SH ad)
def pm_rm0 (d : Nat) : Room := { frames := d, cells := 0, slots := 0, locals := 30 * d }
/-- a method does what T says -/
def pm_Sem (SH : List pm_S) (y : MethodName) (bb : ByteArray) (nL : Nat) (ret : Option FieldType) (d : Nat) (T : pm_T) : Prop :=
  ∀ (l : Launch) (ad : Nat → Nat) (ct : Nat → ClassId) (D : va_G) (args : List Value) (M : pm_M) (k : Option Value → pm_M → Prop), T args M k →
    Met l y (.code y bb nL ret :: pm_TB) (pm_rm0 d) (va_Pc (args.map (pm_tr ad)) (pm_Wd SH ad ct D M)) (pm_Q SH ad ct D ret k) 0 0 (pm_A SH ad)
/-- a call of it, by the tables -/
def pm_lk1 (own : String) (idx : Nat) (y : MethodName) : Bool := pm_iT (Cond.methodLink own idx y)
def pm_lk2 (own : String) (idx : Nat) (y : MethodName) : Bool := pm_iN (Cond.methodLinkNest own idx y RX6)
def pm_ckC (own : String) (c : Bool × Nat × Nat × Nat) (y : MethodName) (nL : Nat) : Bool :=
  decide (nL ≤ 10) && pm_iT (Cond.initialized y.cls) && decide (y.cls ≠ "java/lang/invoke/MethodHandle" ∧ y.cls ≠ "java/lang/invoke/VarHandle") && (pm_lk1 own c.2.1 y || pm_lk2 own c.2.1 y) &&
  (match c.1 with
   | true => pm_iT (Cond.static y) && decide ((parseMethodDescriptor y.desc).map (fun d => d.parameters.length) = some c.2.2.2)
   | false => pm_iT (Cond.instanceMethod y) && pm_iT (Cond.selects y.cls y y) && decide ((parseMethodDescriptor y.desc).map (fun d => d.parameters.length + 1) = some c.2.2.2) && decide ((pm_cl[c.2.2.1]?).map (fun q => q.1) = some y.cls))
def pm_Callee (SH : List pm_S) (own : String) (d : Nat) (c : pm_C) : Prop :=
  ∃ (y : MethodName) (bb : ByteArray) (nL d' : Nat), pm_Sem SH y bb nL c.2.2.2.2.1 d' c.2.2.2.2.2 ∧ d' + 1 ≤ d ∧ Cond.code y bb nL c.2.2.2.2.1 ∈ pm_TB ∧ pm_ckC own (c.1, c.2.1, c.2.2.1, c.2.2.2.1) y nL = true
theorem pm_lays0 : ∀ w ∈ u_ws RX0 TX0 8, w ∈ pm_TB := by decide +kernel
theorem pm_lays1 : ∀ w ∈ u_ws RX1 TX1 4, w ∈ pm_TB := by decide +kernel
theorem pm_lays2 : ∀ w ∈ u_ws RX2 TX2 2, w ∈ pm_TB := by decide +kernel
theorem pm_lays3 : ∀ w ∈ u_ws RX3 TX3 9, w ∈ pm_TB := by decide +kernel
theorem pm_lays4 : ∀ w ∈ u_ws RX4 TX4 7, w ∈ pm_TB := by decide +kernel
theorem pm_lays5 : ∀ w ∈ u_ws RX5 TX5 4, w ∈ pm_TB := by decide +kernel
theorem pm_lays6 : ∀ w ∈ u_ws RX6 TX6 10, w ∈ pm_TB := by decide +kernel
theorem pm_lays7 : ∀ w ∈ u_ws RX7 TX7 42, w ∈ pm_TB := by decide +kernel
theorem pm_lays {ci : Nat} {C : String} {T : u_T} {N : Nat} (h : pm_cl[ci]? = some (C, T, N)) : (∀ w ∈ u_ws C T N, w ∈ pm_TB) ∧ ∃ ty0 : Nat → FieldType, (∀ k, k < N → parseFieldDescriptor (T k).2.2.1 = some (ty0 k)) ∧ (∀ a, a < N → ∀ b, b < N → a ≠ b → (T a).2.1 ≠ (T b).2.1) := by
  match ci, h with
  | 0, h => cases h; exact ⟨pm_lays0, tyX0, tyX0_ok, nmX0⟩
  | 1, h => cases h; exact ⟨pm_lays1, tyX1, tyX1_ok, nmX1⟩
  | 2, h => cases h; exact ⟨pm_lays2, tyX2, tyX2_ok, nmX2⟩
  | 3, h => cases h; exact ⟨pm_lays3, tyX3, tyX3_ok, nmX3⟩
  | 4, h => cases h; exact ⟨pm_lays4, tyX4, tyX4_ok, nmX4⟩
  | 5, h => cases h; exact ⟨pm_lays5, tyX5, tyX5_ok, nmX5⟩
  | 6, h => cases h; exact ⟨pm_lays6, tyX6, tyX6_ok, nmX6⟩
  | 7, h => cases h; exact ⟨pm_lays7, tyX7, tyX7_ok, nmX7⟩
  | ci + 8, h => simp [pm_cl] at h
