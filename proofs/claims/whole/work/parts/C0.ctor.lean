/-! OBJECTS ARE MADE -/
def ci_Cx (p : Program) (s : State) (m : MethodId) (args : Array Value) (meth : Method) (c : Code) (own : String) (cc : ByteArray) (nL : Nat) (D : va_G) (ct : Nat → ClassId) (A : Nat → Prop) : Prop :=
  p.tables.exec = Jvm.exec ∧ c.code = cc ∧ c.maxLocals = nL ∧ meth.sig.returnType = none ∧ s.vm.findClass own = some m.cls ∧ (∀ w ∈ pm_TB, w.before args s = true) ∧ pm_NW s ∧ meth.name = "<init>" ∧ meth.locks = false ∧ va_K D pm_cl (pm_tys ct) s ∧ ∀ q : Nat, s.heap.size ≤ q → A q
theorem ci_oi1 : Cond.instanceMethod Lib.objectInit ∈ pm_TB := by decide +kernel
theorem ci_oi2 : Cond.code Lib.objectInit { data := #[177] } 1 none ∈ pm_TB := by decide +kernel
section CI
variable {p : Program} {l : Launch} {e : Env} {R : Room} {s : State} {m : MethodId} {args : Array Value} {below : List Frame} {meth : Method} {c : Code} {own : String} {cc : ByteArray} {nL : Nat} {D : va_G} {ct : Nat → ClassId} {A : Nat → Prop} {H : Heap} {locs : List Loc} {cells slots : Nat} {Q : State → Prop} {ls : Array Slot} {pc : Nat} {rest : List Value}
theorem ci_obj (C : ci_Cx p s m args meth c own cc nL D ct A) {idx h0 : Nat} (hls : ls.size = nL) (hl : ls[0]? = some (.val (.ref h0))) (hlk : pm_iT (Cond.methodLink own idx Lib.objectInit) = true) (hf : 1 ≤ R.frames) (hL : 12 ≤ R.locals) (hd0 : decode cc 0 = .ok (.aload_n 0, 1)) (hd1 : decode cc 1 = .ok (.invokespecial idx, 3))
    (kk : W p l e R s m args below meth c H locs cells slots Q (F0 m 4 ls [])) : W p l e R s m args below meth c H locs cells slots Q (F0 m 0 ls []) := by
  obtain ⟨hx, hb, hml, hr, hown, hts, hNW, hin, hlo, hK, hA⟩ := C
  refine lv_aload_n hx hb hd0 rfl hl ?_
  refine W.objInit hx hb hown (hts _ (pm_iT_in hlk)) (hts _ ci_oi1) (hts _ ci_oi2) rfl (by rw [hml]; exact hls) rfl hd1 hf (by show 2 * 0 + 0 + 12 ≤ _; omega) ?_
  exact kk
theorem ci_put (C : ci_Cx p s m args meth c own cc nL D ct A) {ws : va_W} {h0 ci k idx NF : Nat} {fs : List Value} {T : u_T} {fty : FieldType} {v : Value} (hP : va_P D pm_cl ((h0, .inr (ci, fs)) :: ws) H) (hD : va_D A ((h0, .inr (ci, fs)) :: ws)) (hS : va_S A s.heap H locs) (hc : pm_cl[ci]? = some (own, T, NF)) (hk : k < NF) (hkf : k < fs.length)
    (hlk : pm_iT (Cond.fieldLink own idx own (T k).2.1 (T k).2.2.1) = true) (hT1 : (T k).1 = own) (hpd : parseFieldDescriptor (T k).2.2.1 = some fty) (hnar : narrow fty v = v) (hfit : fits fty v = true) (hdg : decode cc pc = .ok (.putfield idx, 3))
    (kk : ∀ (H1 : Heap) (locs1 : List Loc), va_P D pm_cl ((h0, .inr (ci, fs.set k v)) :: ws) H1 → va_D A ((h0, .inr (ci, fs.set k v)) :: ws) → va_S A s.heap H1 locs1 → W p l e R s m args below meth c H1 locs1 cells slots Q (F0 m (pc + 3) ls rest)) : W p l e R s m args below meth c H locs cells slots Q (F0 m pc ls (v :: .ref h0 :: rest)) := by
  obtain ⟨hx, hb, hml, hr, hown, hts, hNW, hin, hlo, hK, hA⟩ := C
  obtain ⟨hws, ty0, hty, hnm⟩ := pm_lays hc
  cases hfin : (T k).2.2.2 with
  | true => exact va_putF (ref := own) hx hb hts hws ty0 hty hnm hown hK hP hD hS 0 rfl hc k hk (hts _ (pm_iT_in hlk)) (fun x h => by rw [hT1] at h; exact h) hfin hin hT1 hpd hnar hfit hkf hdg kk
  | false => exact va_put (ref := own) hx hb hts hws ty0 hty hnm hown hK hP hD hS 0 rfl hc k hk (hts _ (pm_iT_in hlk)) (fun x h => by rw [hT1] at h; exact h) hfin hpd hnar hfit hkf hdg kk
theorem ci_newa (C : ci_Cx p s m args meth c own cc nL D ct A) {ws : va_W} {N t : Nat} {aty : ArrayType} {ty : FieldType} {a : (Nat → Int32) ⊕ (Nat → Int64) ⊕ (Nat → UInt32) ⊕ (Nat → UInt64) ⊕ (Nat → Option Nat)} (hP : va_P D pm_cl ws H) (hD : va_D A ws) (hS : va_S A s.heap H locs)
    (ht : (pm_tys ct)[t]? = some (ct t, ty)) (hty : newarray.typeOf aty = ty) (hprim : ∀ (U : State) (q : ClassId), va_RA U q ty → U.vm.findClass ("[" ++ ty.toString) = some q) (ha : ∀ cA : ClassId, vp_cell cA (N, a) = arrV cA N (fun _ => defaultValue ty)) (hN : N < 2 ^ 31) (hbytes : N * componentBytes ty ≤ 536870912) (hcells : cells + 1 ≤ R.cells) (hslots : slots + N ≤ R.slots)
    (harr : pm_iT (Cond.arrayClass ty) = true) (hdg : decode cc pc = .ok (.newarray aty, 2))
    (kk : ∀ (q : Nat) (H1 : Heap), va_P D pm_cl (ws ++ [(q, .inl (ct t, N, a))]) H1 → va_D A (ws ++ [(q, .inl (ct t, N, a))]) → va_S A s.heap H1 locs → W p l e R s m args below meth c H1 locs (cells + 1) (slots + N) Q (F0 m (pc + 2) ls (.ref q :: rest))) : W p l e R s m args below meth c H locs cells slots Q (F0 m pc ls (.int (nI N) :: rest)) := by
  obtain ⟨hx, hb, hml, hr, hown, hts, hNW, hin, hlo, hK, hA⟩ := C
  refine va_newa hx hb (by rw [hty]; exact hts _ (pm_iT_in harr)) hty hK hP hD hS hA ha (by rw [ni_lt0 hN]; exact fun h => h) (ni_cl hN) hbytes hcells hslots hdg (fun q cA H1 hK1 hP1 hD1 hS1 => ?_)
  have h1 := hprim s _ (hK.2 t _ ht).2
  have h2 := hprim s _ (hK1.2 6 (cA, ty) rfl).2
  have e : ct t = cA := Option.some.inj (h1.symm.trans h2)
  rw [← e] at hP1 hD1
  exact kk q H1 hP1 hD1 hS1
/-- an array for a field -/
theorem ci_arr (C : ci_Cx p s m args meth c own cc nL D ct A) {ws : va_W} {h0 ci N t k idx NF : Nat} {fs : List Value} {T : u_T} {aty : ArrayType} {ty fty : FieldType} {a : (Nat → Int32) ⊕ (Nat → Int64) ⊕ (Nat → UInt32) ⊕ (Nat → UInt64) ⊕ (Nat → Option Nat)} (hP : va_P D pm_cl ((h0, .inr (ci, fs)) :: ws) H) (hD : va_D A ((h0, .inr (ci, fs)) :: ws)) (hS : va_S A s.heap H locs)
    (ht : (pm_tys ct)[t]? = some (ct t, ty)) (hty : newarray.typeOf aty = ty) (hprim : ∀ (U : State) (q : ClassId), va_RA U q ty → U.vm.findClass ("[" ++ ty.toString) = some q) (ha : ∀ cA : ClassId, vp_cell cA (N, a) = arrV cA N (fun _ => defaultValue ty)) (hN : N < 2 ^ 31) (hbytes : N * componentBytes ty ≤ 536870912) (hcells : cells + 1 ≤ R.cells) (hslots : slots + N ≤ R.slots) (harr : pm_iT (Cond.arrayClass ty) = true)
    (hc : pm_cl[ci]? = some (own, T, NF)) (hk : k < NF) (hkf : k < fs.length) (hlk : pm_iT (Cond.fieldLink own idx own (T k).2.1 (T k).2.2.1) = true) (hT1 : (T k).1 = own) (hpd : parseFieldDescriptor (T k).2.2.1 = some fty) (hnar : ∀ q : Nat, narrow fty (.ref q) = .ref q) (hfit : ∀ q : Nat, fits fty (.ref q) = true)
    (hdg : decode cc pc = .ok (.newarray aty, 2)) (hdg2 : decode cc (pc + 2) = .ok (.putfield idx, 3))
    (kk : ∀ (q : Nat) (H1 : Heap) (locs1 : List Loc), va_P D pm_cl ((h0, .inr (ci, fs.set k (.ref q))) :: (ws ++ [(q, .inl (ct t, N, a))])) H1 → va_D A ((h0, .inr (ci, fs.set k (.ref q))) :: (ws ++ [(q, .inl (ct t, N, a))])) → va_S A s.heap H1 locs1 → W p l e R s m args below meth c H1 locs1 (cells + 1) (slots + N) Q (F0 m (pc + 2 + 3) ls rest)) : W p l e R s m args below meth c H locs cells slots Q (F0 m pc ls (.int (nI N) :: .ref h0 :: rest)) := by
  refine ci_newa C hP hD hS ht hty hprim ha hN hbytes hcells hslots harr hdg (fun q H1 hP1 hD1 hS1 => ?_)
  have hP1' : va_P D pm_cl ((h0, .inr (ci, fs)) :: (ws ++ [(q, .inl (ct t, N, a))])) H1 := hP1
  have hD1' : va_D A ((h0, .inr (ci, fs)) :: (ws ++ [(q, .inl (ct t, N, a))])) := hD1
  exact ci_put C hP1' hD1' hS1 hc hk hkf hlk hT1 hpd (hnar q) (hfit q) hdg2 (fun H2 locs2 hP2 hD2 hS2 => kk q H2 locs2 hP2 hD2 hS2)
/-- an object, ahead of its constructor -/
theorem ci_new (C : ci_Cx p s m args meth c own cc nL D ct A) {ws : va_W} {ci idx NF : Nat} {Cn : String} {T : u_T} {fs : List Value} (hP : va_P D pm_cl ws H) (hD : va_D A ws) (hS : va_S A s.heap H locs) (hc : pm_cl[ci]? = some (Cn, T, NF)) (hfs : ∀ j, j < NF → ∀ ty, parseFieldDescriptor (T j).2.2.1 = some ty → defaultValue ty = vp_V fs j) (hcells : cells + 1 ≤ R.cells) (hslots : slots + NF ≤ R.slots)
    (hcl : pm_iT (Cond.classLink own idx Cn) = true) (hinst : pm_iT (Cond.instantiable Cn NF) = true) (hini : pm_iT (Cond.initialized Cn) = true) (hdg : decode cc pc = .ok (.new idx, 3)) (hdg2 : decode cc (pc + 3) = .ok (.dup, 1))
    (kk : ∀ (q : Nat) (H1 : Heap), va_P D pm_cl (ws ++ [(q, .inr (ci, fs))]) H1 → va_D A (ws ++ [(q, .inr (ci, fs))]) → va_S A s.heap H1 locs → W p l e R s m args below meth c H1 locs (cells + 1) (slots + NF) Q (F0 m (pc + 3 + 1) ls (.ref q :: .ref q :: rest))) : W p l e R s m args below meth c H locs cells slots Q (F0 m pc ls rest) := by
  obtain ⟨hx, hb, hml, hr, hown, hts, hNW, hin, hlo, hK, hA⟩ := C
  obtain ⟨hws, ty0, hty, hnm⟩ := pm_lays hc
  refine va_new hx hb hts hws ty0 hty hown (hts _ (pm_iT_in hcl)) (hts _ (pm_iT_in hinst)) (hts _ (pm_iT_in hini)) hK hP hD hS hA hc (fun j hj => hfs j hj _ (hty j hj)) hcells hslots hdg (fun q H1 hP1 hD1 hS1 => ?_)
  exact lv_dup hx hb hdg2 rfl (kk q H1 hP1 hD1 hS1)
end CI
def ci_rm (d mc ms : Nat) : Room := { frames := d, cells := mc, slots := ms, locals := 30 * d }
/-- what stands ahead of a constructor, and behind it -/
def ci_Pre (D : va_G) (ct : Nat → ClassId) (sz : Nat) (w0 : va_W) (U : State) : Prop := U.heap.size = sz ∧ va_P D pm_cl w0 U.heap ∧ va_K D pm_cl (pm_tys ct) U ∧ va_D (fun _ => True) w0 ∧ pm_NW U
def ci_Met (l : Launch) (y : MethodName) (bb : ByteArray) (nL d mc ms : Nat) (ct : Nat → ClassId) (args : List Value) (w0 : va_W) (post : va_W → Prop) : Prop :=
  ∀ (D : va_G) (sz : Nat), Met l y (.code y bb nL none :: pm_TB) (ci_rm d mc ms) (va_Pc args (ci_Pre D ct sz w0)) (va_Qv (fun u : va_W => post u) (fun u t => va_P D pm_cl u t.heap ∧ va_K D pm_cl (pm_tys ct) t ∧ va_D (va_A w0 sz) u) (va_A w0 sz)) mc ms (va_A w0 sz)
/-- a constructor out of its walk -/
theorem ci_intro {l : Launch} {y : MethodName} {bb : ByteArray} {nL d mc ms : Nat} {ct : Nat → ClassId} {as : List Value} {w0 : va_W} {post : va_W → Prop} (hpl : plainFor y = true) (hyn : y.name = "<init>") (hnL : (lg_sl as).length ≤ nL)
    (u : ∀ (p : Program) (e : Env) (s : State) (m : MethodId) (below : List Frame) (meth : Method) (c : Code) (D : va_G) (A : Nat → Prop) (ls : Array Slot) (Q : State → Prop), ci_Cx p s m as.toArray meth c y.cls bb nL D ct A → lv_has ls nL (lv_args 0 as) → va_P D pm_cl w0 s.heap → va_D A w0 → va_S A s.heap s.heap [] →
      (∀ (H : Heap) (locs : List Loc) (u : va_W) (pc : Nat) (ls : Array Slot), decode bb pc = .ok (.return_, 1) → post u → va_P D pm_cl u H → va_D A u → va_S A s.heap H locs → W p l e (ci_rm d mc ms) s m as.toArray below meth c H locs mc ms Q (F0 m pc ls [])) → W p l e (ci_rm d mc ms) s m as.toArray below meth c s.heap [] 0 0 Q (F0 m 0 ls [])) : ci_Met l y bb nL d mc ms ct as w0 post := by
  intro D sz
  refine va_MetF (cc := bb) (maxL := nL) (ret := none) hpl rfl ?_
  intro p e s m args below meth c s₁ B hml hv
  obtain ⟨rfl, hsz, hP, hK, hD0, hNW⟩ := hv
  have hts := atoms_spec (ws := .code y bb nL none :: pm_TB) B.pre
  have hown : s.vm.findClass y.cls = some m.cls := findClass_of_methodNamed B.named
  subst hsz
  have hD : va_D (va_A w0 s.heap.size) w0 := hD0.self (sz := s.heap.size)
  have C : ci_Cx p s m as.toArray meth c y.cls bb nL D ct (va_A w0 s.heap.size) := ⟨B.exec, B.bytes, hml, B.returns, hown, fun w hw => hts w (List.mem_cons_of_mem _ hw), hNW, (name_of_methodNamed B.named B.method).1.trans hyn, B.notSynchronized, hK, fun q h => Or.inr h⟩
  have hl := lv_entry as (n := nL) hnL
  rw [lg_entry_eq]
  refine u p e s m below meth c D (va_A w0 s.heap.size) _ _ C hl hP hD va_S.rf ?_
  intro H locs u pc ls hdg hpo hP1 hD1 hS1
  exact W.vret B.exec B.bytes B.returns (fun t ht hW => ⟨⟨u, rfl, hpo, by rw [ht]; exact hP1, va_K.moved hW.alike hK, hD1⟩, hS1.F ht⟩) hS1.2.2 hdg B.notSynchronized
