/-! CALLS AMONG MADE OBJECTS -/
section CI2
variable {p : Program} {l : Launch} {e : Env} {R : Room} {s : State} {m : MethodId} {args : Array Value} {below : List Frame} {meth : Method} {c : Code} {own : String} {cc : ByteArray} {nL : Nat} {D : va_G} {ct : Nat → ClassId} {A : Nat → Prop} {H : Heap} {locs : List Loc} {cells slots : Nat} {Q : State → Prop} {ls : Array Slot} {pc : Nat} {rest : List Value}
theorem ci_blind {D : va_G} {ct : Nat → ClassId} {sz : Nat} {w0 : va_W} {as : List Value} : FrameBlind (va_Pc as (ci_Pre D ct sz w0)) := fun a U g mk q => by
  obtain ⟨q0, q1, qP, qK, qD, qN⟩ := q
  exact ⟨q0, q1, qP, va_K.moved (u := U) (U := U.calling g mk a) (Vm.Alike.refl U.vm) qK, qD, pm_NW.same (u := U) (U := U.calling g mk a) rfl qN⟩
/-- what is left of a world, and what came -/
theorem ci_glue {D : va_G} {A0 : Nat → Prop} {ws u : va_W} {q : Nat} {e0 : va_E} {H H1 : Heap} (hP : va_P D pm_cl (ws ++ [(q, e0)]) H) (hD : va_D A0 (ws ++ [(q, e0)])) (hk : ∀ a : Nat, a < H.size → ¬ va_A [(q, e0)] H.size a → H1[a]? = H[a]?) (hF : ∀ a, va_A [(q, e0)] H.size a → A0 a) (hP1 : va_P D pm_cl u H1) (hD1 : va_D (va_A [(q, e0)] H.size) u) : va_P D pm_cl (ws ++ u) H1 ∧ va_D A0 (ws ++ u) := by
  have hl : ∀ (k : Nat) (x : Nat × va_E), ws[k]? = some x → (ws ++ [(q, e0)])[k]? = some x := fun k x hx => by
    rw [List.getElem?_append_left (List.getElem?_eq_some_iff.mp hx).1]; exact hx
  have hq : (ws ++ [(q, e0)])[ws.length]? = some (q, e0) := by simp
  have ap : ∀ (k : Nat) (x : Nat × va_E), ws[k]? = some x → x.1 < H.size ∧ ¬ va_A [(q, e0)] H.size x.1 := by
    intro k x hx
    have h1 := (hP k x (hl k x hx)).lt
    refine ⟨h1, fun h => ?_⟩
    rcases h with ⟨k2, e2, h2⟩ | h2
    · rcases k2 with _ | k2
      · have e3 : q = x.1 := congrArg Prod.fst (Option.some.inj h2)
        have := hD.1 k ws.length x (q, e0) (hl k x hx) hq e3.symm
        have := (List.getElem?_eq_some_iff.mp hx).1
        omega
      · simp at h2
    · omega
  refine ⟨va_P.app (fun k x hx => ?_) hP1, va_D.app ⟨fun i j x y hx hy hxy => hD.1 i j x y (hl i x hx) (hl j y hy) hxy, fun k x hx => hD.2 k x (hl k x hx)⟩ (hD1.weaken (fun k x _ h => hF x.1 h)) (fun i j x y hx hy hxy => ?_)⟩
  · exact (hP k x (hl k x hx)).kept (hk x.1 (ap k x hx).1 (ap k x hx).2)
  · exact (ap i x hx).2 (by rw [hxy]; exact hD1.2 j y hy)
/-- a constructor of a nest mate is called -/
theorem ci_call (C : ci_Cx p s m args meth c own cc nL D ct A) {ws : va_W} {q idx nC d mc ms : Nat} {e0 : va_E} {y : MethodName} {bb : ByteArray} {as : List Value} {post : va_W → Prop} (hM : ci_Met l y bb nC d mc ms ct (.ref q :: as) [(q, e0)] post) (hP : va_P D pm_cl (ws ++ [(q, e0)]) H) (hD : va_D A (ws ++ [(q, e0)])) (hS : va_S A s.heap H locs)
    (hcode : Cond.code y bb nC none ∈ pm_TB) (hini : pm_iT (Cond.initialized y.cls) = true) (hinst : pm_iT (Cond.instanceMethod y) = true) (hmh : y.cls ≠ "java/lang/invoke/MethodHandle" ∧ y.cls ≠ "java/lang/invoke/VarHandle") (hpar : (parseMethodDescriptor y.desc).map (fun d => d.parameters.length) = some as.length) (hyn : y.name = "<init>") (hlk : pm_iN (Cond.methodLinkNest own idx y RX6) = true) (hroom : d + 1 ≤ R.frames ∧ 8 + (nC + 11) + 30 * d ≤ R.locals) (hcells : cells + mc ≤ R.cells) (hslots : slots + ms ≤ R.slots) (hls : ls.size = nL) (hrest : (rest.map (fun v => v.category)).sum ≤ 8) (hdg : decode cc pc = .ok (.invokespecial idx, 3))
    (kk : ∀ (u : va_W) (H1 : Heap) (locs1 : List Loc), post u → va_P D pm_cl (ws ++ u) H1 → va_D A (ws ++ u) → va_S A s.heap H1 locs1 → W p l e R s m args below meth c H1 locs1 (cells + mc) (slots + ms) Q (F0 m (pc + 3) ls rest)) : W p l e R s m args below meth c H locs cells slots Q (F0 m pc ls (as.reverse ++ .ref q :: rest)) := by
  obtain ⟨hx, hb, hml, hr, hown, hts, hNW, hin, hlo, hK, hA⟩ := C
  have hq : (ws ++ [(q, e0)])[ws.length]? = some (q, e0) := by simp
  have hPc : va_P D pm_cl [(q, e0)] H := fun k x hx => by
    rcases k with _ | k
    · cases hx; exact hP ws.length _ hq
    · simp at hx
  have hDc : va_D (fun _ => True) [(q, e0)] := ⟨fun i j x y hx hy _ => by
    have h1 := (List.getElem?_eq_some_iff.mp hx).1
    have h2 := (List.getElem?_eq_some_iff.mp hy).1
    simp at h1 h2; omega, fun _ _ _ => trivial⟩
  have hF : ∀ a, va_A [(q, e0)] H.size a → A a := fun a h => by
    rcases h with ⟨k, e2, h2⟩ | h2
    · rcases k with _ | k
      · have e3 : q = a := congrArg Prod.fst (Option.some.inj h2)
        rw [← e3]; exact hD.2 ws.length _ hq
      · simp at h2
    · exact hA a (Nat.le_trans hS.1 h2)
  refine va_callv (va_runIN (host := RX6) (bytes := bb) (maxL := nC) (As := as) (rest := rest) (Ts := pm_TB) ⟨hx, hb, hml, hown, hts⟩ (hM D H.size) ⟨va_cnB (host := RX6) as.length hts (pm_good (ws := []) (fun w h => h) hcode (fun w h => by cases h)) rfl rfl rfl (hNW _ (pm_iN_in hlk)) (hts _ (pm_iT_in hini)) ⟨hmh.1, hmh.2, hpar⟩ hroom, hyn, hts _ (pm_iT_in hinst)⟩ ⟨ci_blind, fun U hU hW => ⟨rfl, by rw [hU], by rw [hU]; exact hPc, va_K.moved hW.alike hK, hDc, hNW.warm hW⟩⟩ rfl rfl hls rfl (lv_room hrest) hdg ⟨hcells, hslots⟩) hS (fun a _ h => hF a h) hF (fun u t H1 locs1 ht hvm hpo hB hz hk hS1 => ?_)
  obtain ⟨hP1, hK1, hD1⟩ := hB
  rw [ht] at hP1
  obtain ⟨hP2, hD2⟩ := ci_glue hP hD hk hF hP1 hD1
  exact kk u H1 locs1 hpo hP2 hD2 hS1
/-- a field that holds a cell is read -/
theorem ci_get (C : ci_Cx p s m args meth c own cc nL D ct A) {ws : va_W} {h0 ci k idx NF : Nat} {fs : List Value} {T : u_T} {v : Value} (hP : va_P D pm_cl ((h0, .inr (ci, fs)) :: ws) H) (hc : pm_cl[ci]? = some (own, T, NF)) (hk : k < NF) (hlk : pm_iT (Cond.fieldLink own idx own (T k).2.1 (T k).2.2.1) = true) (hT1 : (T k).1 = own) (hv : fs[k]? = some v) (hdg : decode cc pc = .ok (.getfield idx, 3))
    (kk : W p l e R s m args below meth c H locs cells slots Q (F0 m (pc + 3) ls (v :: rest))) : W p l e R s m args below meth c H locs cells slots Q (F0 m pc ls (.ref h0 :: rest)) := by
  obtain ⟨hx, hb, hml, hr, hown, hts, hNW, hin, hlo, hK, hA⟩ := C
  obtain ⟨hws, ty0, hty, hnm⟩ := pm_lays hc
  exact va_get (ref := own) hx hb hts hws hown hK hP 0 rfl hc k hk (hts _ (pm_iT_in hlk)) (fun x h => by rw [hT1] at h; exact h) hv hdg kk
/-- a row for cells -/
theorem ci_newq (C : ci_Cx p s m args meth c own cc nL D ct A) {ws : va_W} {N idx : Nat} (hover : va_AO "PatienceDesk$Tray" s) (hP : va_P D pm_cl ws H) (hD : va_D A ws) (hS : va_S A s.heap H locs) (hN : N < 2 ^ 31) (hbytes : N * 4 ≤ 536870912) (hcells : cells + 1 ≤ R.cells) (hslots : slots + N ≤ R.slots) (hcl : pm_iT (Cond.classLink own idx "PatienceDesk$Tray") = true) (hdg : decode cc pc = .ok (.anewarray idx, 3))
    (kk : ∀ (q : Nat) (H1 : Heap), va_P D pm_cl (ws ++ [(q, .inl (ct 5, N, .inr (.inr (.inr (.inr (fun _ => none))))))]) H1 → va_D A (ws ++ [(q, .inl (ct 5, N, .inr (.inr (.inr (.inr (fun _ => none))))))]) → va_S A s.heap H1 locs → W p l e R s m args below meth c H1 locs (cells + 1) (slots + N) Q (F0 m (pc + 3) ls (.ref q :: rest))) : W p l e R s m args below meth c H locs cells slots Q (F0 m pc ls (.int (nI N) :: rest)) := by
  obtain ⟨hx, hb, hml, hr, hown, hts, hNW, hin, hlo, hK, hA⟩ := C
  refine va_newq hx hb hown (hts _ (pm_iT_in hcl)) hover hK hP hD hS hA (by rw [ni_lt0 hN]; exact fun h => h) (ni_cl hN) hbytes hcells hslots hdg (fun q cA H1 hK1 hP1 hD1 hS1 => ?_)
  obtain ⟨kA, comp, -, -, -, h1⟩ := (hK.2 5 (ct 5, .object "PatienceDesk$Tray") rfl).2
  obtain ⟨kA', comp', -, -, -, h2⟩ := (hK1.2 6 (cA, .object "PatienceDesk$Tray") rfl).2
  have e : ct 5 = cA := Option.some.inj (h1.symm.trans h2)
  rw [← e] at hP1 hD1
  exact kk q H1 hP1 hD1 hS1
end CI2
section LZ
variable {p : Program} {l : Launch} {e : Env} {R : Room} {s : State} {m : MethodId} {args : Array Value} {below : List Frame} {meth : Method} {c : Code} {own : String} {cc : ByteArray} {nL : Nat} {D : va_G} {ct : Nat → ClassId} {H : Heap} {locs : List Loc} {cells slots : Nat} {Q : State → Prop} {ls : Array Slot} {pc : Nat}
/-- a method of a world of places is called -/
theorem lz_run {Ts : List Cond} (hF : CallFix p m c cc nL s args Ts own) (hTB : ∀ w ∈ pm_TB, w ∈ Ts) (hNW : pm_NW s) (hKK : va_K D pm_cl (pm_tys ct) s) {SH : List pm_S} {ad : Nat → Nat} {M : pm_M} {y : MethodName} {bb : ByteArray} {nC d' qi qc q0 : Nat} {qr : Option FieldType} {T : pm_T} {as rest : List Value} {k : Option Value → pm_M → Prop} {fs : List (Option Nat)} (hSem : pm_Sem SH y bb nC qr d' T) (hT : T (.ref q0 :: as) M k) (hcode : Cond.code y bb nC qr ∈ pm_TB) (hck : pm_ckC own (false, qi, qc, as.length + 1) y nC = true) (hsh : SH[q0]? = some (.inr (.inr (qc, fs)))) (hP : va_P D pm_cl (pm_w SH ad ct M) H) (hDD : va_D (pm_A SH ad) (pm_w SH ad ct M)) (hRO : pm_RO SH ad s H)
    (hroom : d' + 1 ≤ R.frames ∧ 8 + (nC + 11) + 30 * d' ≤ R.locals) (hcs : cells ≤ R.cells ∧ slots ≤ R.slots) (hls : ls.size = nL) (hrest : (rest.map (fun v => v.category)).sum ≤ 8) (hdg : decode cc pc = .ok (.invokevirtual qi, 3)) :
    va_Run p l e R s m args below meth c H locs cells slots 0 0 (F0 m pc ls ((as.map (pm_tr ad)).reverse ++ .ref (ad q0) :: rest)) rest (pm_Q SH ad ct D qr k ((.ref q0 :: as).map (pm_tr ad)).toArray) (pm_A SH ad) := by
  obtain ⟨hx, hb, hml, hown, hts⟩ := hF
  simp only [pm_ckC, Bool.and_eq_true, decide_eq_true_eq, Bool.or_eq_true, pm_lk1, pm_lk2] at hck
  obtain ⟨⟨⟨⟨hnC, hini0⟩, hmh⟩, hlink⟩, ⟨⟨hinst0, hsel0⟩, hpar⟩, hcls⟩ := hck
  have hini := pm_iT_in hini0
  have hinst := pm_iT_in hinst0
  have hsel := pm_iT_in hsel0
  have hM := hSem l ad ct D (.ref q0 :: as) M k hT
  have hRoom : (pm_rm0 d').frames + 1 ≤ R.frames ∧ 8 + (nC + 11) + (pm_rm0 d').locals ≤ R.locals := hroom
  have hblind : FrameBlind (va_Pc ((.ref q0 :: as).map (pm_tr ad)) (pm_Wd SH ad ct D M)) := fun a U g mk q => by
    obtain ⟨q0, qP, qK, qD, qR, qN⟩ := q
    exact ⟨q0, qP, va_K.moved (u := U) (U := U.calling g mk a) (Vm.Alike.refl U.vm) qK, qD, pm_RO.moved (u := U) (U := U.calling g mk a) (Vm.Alike.refl U.vm) qR, pm_NW.same (u := U) (U := U.calling g mk a) rfl qN⟩
  have hpre : ∀ U : State, U.heap = H → s.WarmedH U.vm → va_Pc ((.ref q0 :: as).map (pm_tr ad)) (pm_Wd SH ad ct D M) ((.ref q0 :: as).map (pm_tr ad)).toArray U := fun U hU hW =>
    ⟨rfl, by rw [hU]; exact hP, va_K.moved hW.alike hKK, hDD, by rw [hU]; exact hRO.moved hW.alike, hNW.warm hW⟩
  have hpar2 : (parseMethodDescriptor y.desc).map (fun d => d.parameters.length) = some as.length := by
    cases hpm : parseMethodDescriptor y.desc with
    | none => rw [hpm] at hpar; cases hpar
    | some dd => rw [hpm] at hpar; simp at hpar ⊢; omega
  have hnn : (as.map (pm_tr ad)).length = as.length := by simp
  obtain ⟨qcl, hcl⟩ : ∃ z, pm_cl[qc]? = some z := by
    cases hz : pm_cl[qc]? with
    | none => rw [hz] at hcls; cases hcls
    | some z => exact ⟨z, rfl⟩
  have hcn : qcl.1 = y.cls := by rw [hcl] at hcls; simpa using hcls
  have hrv := va_recv hKK hP hcl (pm_w_at hsh)
  rw [hcn] at hrv
  rcases hlink with hlk0 | hlk0
  · have hlk := pm_iT_in hlk0
    refine va_runV (bytes := bb) (maxL := nC) (ret := qr) (C := y.cls) (As := as.map (pm_tr ad)) ⟨hx, hb, hml, hown, hts⟩ hM ?_ ⟨hblind, hrv, hpre⟩ rfl hnn hls rfl (lv_room hrest) hdg hcs
    refine cwV as.length hts ?_ rfl rfl rfl ⟨rfl, hmh.1, hmh.2, hpar2⟩ hRoom
    refine pm_good (ws := [.methodLink own qi y, .instanceMethod y, .selects y.cls y y, .initialized y.cls]) hTB hcode ?_
    intro w hw
    simp only [List.mem_cons, List.not_mem_nil, or_false] at hw
    rcases hw with rfl | rfl | rfl | rfl
    · exact hlk
    · exact hinst
    · exact hsel
    · exact hini
  · have hlk := pm_iN_in hlk0
    refine va_runVN (host := RX6) (bytes := bb) (maxL := nC) (ret := qr) (C := y.cls) (As := as.map (pm_tr ad)) ⟨hx, hb, hml, hown, hts⟩ hM ⟨?_, hts _ (hTB _ hinst), hts _ (hTB _ hsel)⟩ ⟨hblind, hrv, hpre⟩ rfl hnn hls rfl (lv_room hrest) hdg hcs
    refine va_cnB (host := RX6) as.length hts (pm_good (ws := []) hTB hcode (fun w h => by cases h)) rfl rfl rfl (hNW _ hlk) (hts _ (hTB _ hini)) ⟨hmh.1, hmh.2, hpar2⟩ hRoom
theorem lz_calli {Ts : List Cond} (hF : CallFix p m c cc nL s args Ts own) (hTB : ∀ w ∈ pm_TB, w ∈ Ts) (hNW : pm_NW s) (hKK : va_K D pm_cl (pm_tys ct) s) {SH : List pm_S} {ad : Nat → Nat} {M : pm_M} {y : MethodName} {bb : ByteArray} {nC d' qi qc q0 : Nat} {T : pm_T} {as rest : List Value} {k : Option Value → pm_M → Prop} {fs : List (Option Nat)} {A0 : Nat → Prop} {H0 : Heap} (hSem : pm_Sem SH y bb nC (some .int) d' T) (hT : T (.ref q0 :: as) M k) (hcode : Cond.code y bb nC (some .int) ∈ pm_TB) (hck : pm_ckC own (false, qi, qc, as.length + 1) y nC = true) (hsh : SH[q0]? = some (.inr (.inr (qc, fs)))) (hP : va_P D pm_cl (pm_w SH ad ct M) H) (hDD : va_D (pm_A SH ad) (pm_w SH ad ct M)) (hRO : pm_RO SH ad s H)
    (hroom : d' + 1 ≤ R.frames ∧ 8 + (nC + 11) + 30 * d' ≤ R.locals) (hcs : cells ≤ R.cells ∧ slots ≤ R.slots) (hls : ls.size = nL) (hrest : (rest.map (fun v => v.category)).sum ≤ 8) (hdg : decode cc pc = .ok (.invokevirtual qi, 3)) (hS : va_S A0 H0 H locs) (hA0 : ∀ q, pm_A SH ad q → A0 q)
    (kk : ∀ (r : Int32) (M' : pm_M) (H1 : Heap) (locs1 : List Loc), k (some (.int r)) M' → va_P D pm_cl (pm_w SH ad ct M') H1 → H.size ≤ H1.size → (∀ q : Nat, q < H.size → ¬ pm_A SH ad q → H1[q]? = H[q]?) → va_S A0 H0 H1 locs1 → W p l e R s m args below meth c H1 locs1 cells slots Q (F0 m (pc + 3) ls (.int r :: rest))) : W p l e R s m args below meth c H locs cells slots Q (F0 m pc ls ((as.map (pm_tr ad)).reverse ++ .ref (ad q0) :: rest)) := by
  refine va_calli (a := ((.ref q0 :: as).map (pm_tr ad)).toArray) (lz_run hF hTB hNW hKK hSem hT hcode hck hsh hP hDD hRO hroom hcs hls hrest hdg) hS (fun q _ h => hA0 q h) hA0 (fun r u t H1 locs1 ht hvm hp hB hz hk hS1 => ?_)
  have hB1 := hB.1
  rw [ht] at hB1
  exact kk r u H1 locs1 hp hB1 hz hk hS1
theorem lz_callv {Ts : List Cond} (hF : CallFix p m c cc nL s args Ts own) (hTB : ∀ w ∈ pm_TB, w ∈ Ts) (hNW : pm_NW s) (hKK : va_K D pm_cl (pm_tys ct) s) {SH : List pm_S} {ad : Nat → Nat} {M : pm_M} {y : MethodName} {bb : ByteArray} {nC d' qi qc q0 : Nat} {T : pm_T} {as rest : List Value} {k : Option Value → pm_M → Prop} {fs : List (Option Nat)} {A0 : Nat → Prop} {H0 : Heap} (hSem : pm_Sem SH y bb nC none d' T) (hT : T (.ref q0 :: as) M k) (hcode : Cond.code y bb nC none ∈ pm_TB) (hck : pm_ckC own (false, qi, qc, as.length + 1) y nC = true) (hsh : SH[q0]? = some (.inr (.inr (qc, fs)))) (hP : va_P D pm_cl (pm_w SH ad ct M) H) (hDD : va_D (pm_A SH ad) (pm_w SH ad ct M)) (hRO : pm_RO SH ad s H)
    (hroom : d' + 1 ≤ R.frames ∧ 8 + (nC + 11) + 30 * d' ≤ R.locals) (hcs : cells ≤ R.cells ∧ slots ≤ R.slots) (hls : ls.size = nL) (hrest : (rest.map (fun v => v.category)).sum ≤ 8) (hdg : decode cc pc = .ok (.invokevirtual qi, 3)) (hS : va_S A0 H0 H locs) (hA0 : ∀ q, pm_A SH ad q → A0 q)
    (kk : ∀ (M' : pm_M) (H1 : Heap) (locs1 : List Loc), k none M' → va_P D pm_cl (pm_w SH ad ct M') H1 → H.size ≤ H1.size → (∀ q : Nat, q < H.size → ¬ pm_A SH ad q → H1[q]? = H[q]?) → va_S A0 H0 H1 locs1 → W p l e R s m args below meth c H1 locs1 cells slots Q (F0 m (pc + 3) ls rest)) : W p l e R s m args below meth c H locs cells slots Q (F0 m pc ls ((as.map (pm_tr ad)).reverse ++ .ref (ad q0) :: rest)) := by
  refine va_callv (a := ((.ref q0 :: as).map (pm_tr ad)).toArray) (lz_run hF hTB hNW hKK hSem hT hcode hck hsh hP hDD hRO hroom hcs hls hrest hdg) hS (fun q _ h => hA0 q h) hA0 (fun u t H1 locs1 ht hvm hp hB hz hk hS1 => ?_)
  have hB1 := hB.1
  rw [ht] at hB1
  exact kk u H1 locs1 hp hB1 hz hk hS1
end LZ
