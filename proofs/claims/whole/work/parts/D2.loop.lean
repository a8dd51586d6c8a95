/-! THE LAW's LOOP (written by genlaw.py) -/
def lz_fr (s : State) : Nat → Prop := fun q => s.heap.size ≤ q
def lz_Cx (p : Program) (s : State) (m : MethodId) (c : Code) (b L : Nat) (xs : Nat → Int32) (D : va_G) (ct : Nat → ClassId) (adx ady : Nat → Nat) : Prop :=
  CallFix p m c code 4 s #[Value.ref b] lw_tbl R_law ∧ pm_NW s ∧ va_K D pm_cl (pm_tys ct) s ∧ (va_X b L xs s s.heap ∧ b < s.heap.size) ∧ (∀ M, va_D (pm_A SHx adx) (pm_w SHx adx ct M)) ∧ (∀ M, va_D (pm_A SHy ady) (pm_w SHy ady ct M)) ∧ (∀ q, pm_A SHx adx q → lz_fr s q) ∧ (∀ q, pm_A SHy ady q → lz_fr s q) ∧ (∀ q, pm_A SHx adx q → ¬ pm_A SHy ady q) ∧ (∀ H locs, va_S (lz_fr s) s.heap H locs → pm_RO SHx adx s H) ∧ ∀ H locs, va_S (lz_fr s) s.heap H locs → pm_RO SHy ady s H
def lz_St (s : State) (D : va_G) (ct : Nat → ClassId) (adx ady : Nat → Nat) (Mx My : pm_M) (H : Heap) (locs : List Loc) : Prop := va_P D pm_cl (pm_w SHx adx ct Mx) H ∧ va_P D pm_cl (pm_w SHy ady ct My) H ∧ va_S (lz_fr s) s.heap H locs
theorem lz_keep {D : va_G} {ct : Nat → ClassId} {SH SH' : List pm_S} {ad ad' : Nat → Nat} {M : pm_M} {H H1 : Heap} (hP : va_P D pm_cl (pm_w SH ad ct M) H) (hq : ∀ q : Nat, q < H.size → ¬ pm_A SH' ad' q → H1[q]? = H[q]?) (hd : ∀ q, pm_A SH ad q → ¬ pm_A SH' ad' q) : va_P D pm_cl (pm_w SH ad ct M) H1 := hP.kept (fun k q hk => by
  have hl := (hP k q hk).lt
  obtain ⟨sh, h1, rfl⟩ := pm_w_get hk
  exact hq _ hl (hd _ ⟨k, (List.getElem?_eq_some_iff.mp h1).1, rfl⟩))
theorem lz_int (ad : Nat → Nat) (as : List Int32) : (as.map Value.int).map (pm_tr ad) = as.map Value.int := by rw [List.map_map]; rfl
section LW
variable {p : Program} {l : Launch} {e : Env} {s : State} {m : MethodId} {below : List Frame} {meth : Method} {c : Code} {b L : Nat} {xs : Nat → Int32} {D : va_G} {ct : Nat → ClassId} {adx ady : Nat → Nat} {H : Heap} {locs : List Loc} {Q : State → Prop} {ls : Array Slot} {pc : Nat} {rest : List Value}
theorem lz_x (C : lz_Cx p s m c b L xs D ct adx ady) {Mx My : pm_M} {A A' : Ab} {v : Int32} {y : MethodName} {bb : ByteArray} {nC d' qi : Nat} {T : pm_T} (as : List Int32) (hSem : pm_Sem SHx y bb nC (some .int) d' T) (hT : lzX T as A v A') (hMX : MX Mx A) (hcode : Cond.code y bb nC (some .int) ∈ pm_TB) (hck : pm_ckC R_law (false, qi, 6, as.length + 1) y nC = true) (hroom : d' + 1 ≤ room_1.frames ∧ 8 + (nC + 11) + 30 * d' ≤ room_1.locals) (hst : lz_St s D ct adx ady Mx My H locs) (hls : ls.size = 4) (hrest : (rest.map (fun v => v.category)).sum ≤ 8) (hdg : decode code pc = .ok (.invokevirtual qi, 3))
    (kk : ∀ (Mx' : pm_M) (H1 : Heap) (locs1 : List Loc), MX Mx' A' → okA A' → lz_St s D ct adx ady Mx' My H1 locs1 → W p l e room_1 s m #[Value.ref b] below meth c H1 locs1 600000 7302250 Q (F0 m (pc + 3) ls (.int v :: rest))) : W p l e room_1 s m #[Value.ref b] below meth c H locs 600000 7302250 Q (F0 m pc ls ((as.map Value.int).reverse ++ .ref (adx 0) :: rest)) := by
  obtain ⟨hF, hNW, hK, hX, hDx, hDy, hAx, hAy, hxy, hRx, hRy⟩ := C
  obtain ⟨hPx, hPy, hS⟩ := hst
  have := lz_calli (R := room_1) (cells := 600000) (slots := 7302250) (Q := Q) (below := below) (meth := meth) (l := l) (e := e) (rest := rest) hF (fun w h => pm_TB_in h) hNW hK hSem (hT Mx hMX) hcode (by rw [List.length_map]; exact hck) sx_0 hPx (hDx Mx) (hRx H locs hS) hroom ⟨Nat.le_refl _, Nat.le_refl _⟩ hls hrest hdg hS hAx (fun r M' H1 locs1 hk hP1 hz hq hS1 => (by
    obtain ⟨e1, e2, e3⟩ := hk
    cases e1
    exact kk M' H1 locs1 e2 e3 ⟨hP1, lz_keep hPy hq (fun q h1 h2 => hxy q h2 h1), hS1⟩))
  rw [lz_int] at this
  exact this
theorem lz_y (C : lz_Cx p s m c b L xs D ct adx ady) {Mx My : pm_M} {A A' : Ab} {v : Int32} {y : MethodName} {bb : ByteArray} {nC d' qi : Nat} {T : pm_T} (as : List Int32) (hSem : pm_Sem SHy y bb nC (some .int) d' T) (hT : lzY T as A v A') (hMY : MY My A) (hcode : Cond.code y bb nC (some .int) ∈ pm_TB) (hck : pm_ckC R_law (false, qi, 7, as.length + 1) y nC = true) (hroom : d' + 1 ≤ room_1.frames ∧ 8 + (nC + 11) + 30 * d' ≤ room_1.locals) (hst : lz_St s D ct adx ady Mx My H locs) (hls : ls.size = 4) (hrest : (rest.map (fun v => v.category)).sum ≤ 8) (hdg : decode code pc = .ok (.invokevirtual qi, 3))
    (kk : ∀ (My' : pm_M) (H1 : Heap) (locs1 : List Loc), MY My' A' → lz_St s D ct adx ady Mx My' H1 locs1 → W p l e room_1 s m #[Value.ref b] below meth c H1 locs1 600000 7302250 Q (F0 m (pc + 3) ls (.int v :: rest))) : W p l e room_1 s m #[Value.ref b] below meth c H locs 600000 7302250 Q (F0 m pc ls ((as.map Value.int).reverse ++ .ref (ady 0) :: rest)) := by
  obtain ⟨hF, hNW, hK, hX, hDx, hDy, hAx, hAy, hxy, hRx, hRy⟩ := C
  obtain ⟨hPx, hPy, hS⟩ := hst
  have := lz_calli (R := room_1) (cells := 600000) (slots := 7302250) (Q := Q) (below := below) (meth := meth) (l := l) (e := e) (rest := rest) hF (fun w h => pm_TB_in h) hNW hK hSem (hT My hMY) hcode (by rw [List.length_map]; exact hck) sy_0 hPy (hDy My) (hRy H locs hS) hroom ⟨Nat.le_refl _, Nat.le_refl _⟩ hls hrest hdg hS hAy (fun r M' H1 locs1 hk hP1 hz hq hS1 => (by
    obtain ⟨e1, e2⟩ := hk
    cases e1
    exact kk M' H1 locs1 e2 ⟨lz_keep hPx hq hxy, hP1, hS1⟩))
  rw [lz_int] at this
  exact this
/-- a number of the script -/
theorem lz_arg (C : lz_Cx p s m c b L xs D ct adx ady) {i j : Nat} {n : Int} (hS : va_S (lz_fr s) s.heap H locs) {lv : List (Nat × Value)} (hl0 : ls[0]? = some (.val (.ref b))) (hl3 : ls[3]? = some (.val (.int (nI i)))) (hj : Int32.ofInt n = nI j) (hin : i + j < L) (hL : L ≤ 3072) (d0 : decode code pc = .ok (.aload_n 0, 1)) (d1 : decode code (pc + 1) = .ok (.iload_n 3, 1)) (d2 : decode code (pc + 1 + 1) = .ok (.iconst n, 1)) (d3 : decode code (pc + 1 + 1 + 1) = .ok (.iadd, 1)) (d4 : decode code (pc + 1 + 1 + 1 + 1) = .ok (.iaload, 1))
    (kk : W p l e room_1 s m #[Value.ref b] below meth c H locs 600000 7302250 Q (F0 m (pc + 1 + 1 + 1 + 1 + 1) ls (.int (xs (i + j)) :: rest))) : W p l e room_1 s m #[Value.ref b] below meth c H locs 600000 7302250 Q (F0 m pc ls rest) := by
  obtain ⟨⟨hx, hb, -⟩, hNW, hK, ⟨hX, hbl⟩, -⟩ := C
  have hbA : ¬ lz_fr s b := Nat.not_le.mpr hbl
  refine lv_aload_n hx hb d0 rfl hl0 ?_
  refine lv_iload_n hx hb d1 rfl hl3 ?_
  refine lv_iconst (v := nI j) hx hb d2 hj ?_
  refine lv_iadd hx hb d3 ?_
  rw [ni_add]
  refine va_sld hx hb hX hbl hbA hS (by rw [ni_in (by omega)]; exact hin) d4 ?_
  rw [ni_cl (by omega)]
  exact kk
theorem lz_gt {i L : Nat} (hi : i < 2 ^ 30) (hL : L ≤ 3072) : (nI L - nI 6 < nI i) ↔ L < i + 6 := by
  by_cases h6 : 6 ≤ L
  · rw [ni_sub h6, ni_lt (by omega) (by omega)]; omega
  · have e : ∀ k, k < 6 → (nI k - nI 6).toInt < 0 := by decide +kernel
    have := e L (by omega)
    rw [Int32.lt_iff_toInt_lt, nI_toInt (by omega)]
    omega
set_option maxHeartbeats 8000000 in
set_option maxRecDepth 100000 in
theorem lz_loop (hL : L ≤ 3072) (C : lz_Cx p s m c b L xs D ct adx ady) (hr : meth.sig.returnType = ret) (hlocks : meth.locks = false) : ∀ (n i : Nat) (A : Ab) (Mx My : pm_M) (H : Heap) (locs : List Loc) (ls : Array Slot), L + 6 ≤ i + n → i ≤ 3078 → okA A → MX Mx A → MY My A → lz_St s D ct adx ady Mx My H locs → lv_has ls 4 [(0, .ref b), (1, .ref (adx 0)), (2, .ref (ady 0)), (3, .int (nI i))] → W p l e room_1 s m #[Value.ref b] below meth c H locs 600000 7302250 (lw_Z below #[Value.ref b] s) (F0 m 18 ls []) := by
  obtain ⟨⟨hx, hb, hml, hown, hts⟩, -, -, ⟨hX, hbl⟩, -⟩ := id C
  have hbA : ¬ lz_fr s b := Nat.not_le.mpr hbl
  intro n
  induction n with
  | zero =>
    intro i A Mx My H locs ls h1 h2 hA hMX hMY hst hl
    refine lv_iload_n (k := 3) hx hb (by decide +kernel) rfl (lv_at hl 3 rfl) ?_
    refine lv_aload_n (k := 0) hx hb (by decide +kernel) rfl (lv_at hl 0 rfl) ?_
    refine va_slen hx hb hX hbl hbA hst.2.2 (by decide +kernel) ?_
    refine lv_bipush (n := 6) (v := nI 6) hx hb (by decide +kernel) (by decide) ?_
    refine lv_isub hx hb (by decide +kernel) ?_
    refine lv_icmp_gt (off := 707) (tgt := 731) hx hb (by decide +kernel) (by decide) (fun _ => ?_) (fun hc => absurd ((lz_gt (by omega) hL).mpr (by omega)) hc)
    refine lv_iconst (n := 1) (v := 1) hx hb (by decide +kernel) (by decide) ?_
    refine va_forget (fun q hq => hst.2.2.2.2 q hq) ?_
    exact lw_ret hx hb hr hlocks (by decide +kernel)
  | succ n ih =>
    intro i A Mx My H locs ls h1 h2 hA hMX hMY hst hl
    refine lv_iload_n (k := 3) hx hb (by decide +kernel) rfl (lv_at hl 3 rfl) ?_
    refine lv_aload_n (k := 0) hx hb (by decide +kernel) rfl (lv_at hl 0 rfl) ?_
    refine va_slen hx hb hX hbl hbA hst.2.2 (by decide +kernel) ?_
    refine lv_bipush (n := 6) (v := nI 6) hx hb (by decide +kernel) (by decide) ?_
    refine lv_isub hx hb (by decide +kernel) ?_
    refine lv_icmp_gt (off := 707) (tgt := 731) hx hb (by decide +kernel) (by decide) (fun _ => ?_) (fun hc => ?_)
    · refine lv_iconst (n := 1) (v := 1) hx hb (by decide +kernel) (by decide) ?_
      refine va_forget (fun q hq => hst.2.2.2.2 q hq) ?_
      exact lw_ret hx hb hr hlocks (by decide +kernel)
    · have hi6 : i + 6 ≤ L := by
        have : ¬ L < i + 6 := fun h => hc ((lz_gt (by omega) hL).mpr h)
        omega
      have fin : ∀ (A' : Ab) (Mx' My' : pm_M) (H : Heap) (locs : List Loc), okA A' → MX Mx' A' → MY My' A' → lz_St s D ct adx ady Mx' My' H locs → W p l e room_1 s m #[Value.ref b] below meth c H locs 600000 7302250 (lw_Z below #[Value.ref b] s) (F0 m 725 ls []) := by
        intro A' Mx' My' H locs hA' hMX' hMY' hst'
        refine lv_iinc (n := 6) (v := nI (i + 6)) (lv' := [(3, .int (nI (i + 6))), (0, .ref b), (1, .ref (adx 0)), (2, .ref (ady 0))]) hx hb (by decide +kernel) hl (k := 3) rfl (by rw [← ni_add]; rfl) (by decide) rfl (fun ls hl => ?_)
        refine lv_goto (off := -710) (tgt := 18) hx hb (by decide +kernel) (by decide) ?_
        exact ih (i + 6) A' Mx' My' H locs ls (by omega) (by omega) hA' hMX' hMY' hst' (lv_sub hl [1, 2, 3, 0] rfl)
      refine lv_aload_n (k := 0) hx hb (by decide +kernel) rfl (lv_at hl 0 rfl) ?_
      refine lv_iload_n (k := 3) hx hb (by decide +kernel) rfl (lv_at hl 3 rfl) ?_
      refine va_sld hx hb hX hbl hbA hst.2.2 (by rw [ni_in (by omega)]; omega) (by decide +kernel) ?_
      refine lv_bipush (n := 31) (v := nI 31) hx hb (by decide +kernel) (by decide) ?_
      refine lv_iand hx hb (by decide +kernel) ?_
      obtain ⟨w, hw, ew⟩ : ∃ w, w < 32 ∧ xs (nI i).toNatClampNeg &&& nI 31 = nI w := by
        obtain ⟨z, hz, ez⟩ := wb_of32 (xs (nI i).toNatClampNeg)
        exact ⟨z % 32, Nat.mod_lt _ (by decide), by rw [ez]; exact pk_andN hz 5 (by decide)⟩
      rw [ew]
      have dsw : decode code 33 = .ok (.tableswitch 692 0 20 #[99, 162, 205, 228, 261, 274, 317, 330, 343, 356, 379, 412, 435, 458, 491, 514, 547, 570, 593, 636, 679], 99) := by decide +kernel
      by_cases h20 : 20 < w
      · refine lv_tableOut (tgt := 725) hx hb dsw (Or.inr (by rw [nI_toInt (by omega)]; omega)) (by decide) ?_
        exact fin A Mx My H locs hA hMX hMY hst
      rcases w with _ | w
      · refine lv_tableIn (off := 99) (tgt := 132) hx hb dsw (by decide) (by decide) (by decide +kernel) (by decide) ?_
        have hcs := lz_begin hA (xs (i + 1)) (xs (i + 2)) (xs (i + 3)) (xs (i + 4)) (xs (i + 5))
        refine lv_aload_n (k := 1) hx hb (by decide +kernel) rfl (lv_at hl 1 rfl) ?_
        refine lz_arg C (j := 1) (n := 1) (lv := []) hst.2.2 (lv_at hl 0 rfl) (lv_at hl 3 rfl) (by decide) (by omega) hL (by decide +kernel) (by decide +kernel) (by decide +kernel) (by decide +kernel) (by decide +kernel) ?_
        refine lz_arg C (j := 2) (n := 2) (lv := []) hst.2.2 (lv_at hl 0 rfl) (lv_at hl 3 rfl) (by decide) (by omega) hL (by decide +kernel) (by decide +kernel) (by decide +kernel) (by decide +kernel) (by decide +kernel) ?_
        refine lz_arg C (j := 3) (n := 3) (lv := []) hst.2.2 (lv_at hl 0 rfl) (lv_at hl 3 rfl) (by decide) (by omega) hL (by decide +kernel) (by decide +kernel) (by decide +kernel) (by decide +kernel) (by decide +kernel) ?_
        refine lz_arg C (j := 4) (n := 4) (lv := []) hst.2.2 (lv_at hl 0 rfl) (lv_at hl 3 rfl) (by decide) (by omega) hL (by decide +kernel) (by decide +kernel) (by decide +kernel) (by decide +kernel) (by decide +kernel) ?_
        refine lz_arg C (j := 5) (n := 5) (lv := []) hst.2.2 (lv_at hl 0 rfl) (lv_at hl 3 rfl) (by decide) (by omega) hL (by decide +kernel) (by decide +kernel) (by decide +kernel) (by decide +kernel) (by decide +kernel) ?_
        refine lz_x C (rest := []) [xs (i + 1), xs (i + 2), xs (i + 3), xs (i + 4), xs (i + 5)] sm_X6_begin hcs.1 hMX cm_X6_begin (by show pm_ckC R_law (false, 13, 6, 6) yX6_begin 8 = true; decide +kernel) (by decide) hst hl.1 (by simp) (qi := 13) (by decide +kernel) (fun Mx H locs hMX hA2 hst => ?_)
        refine lv_aload_n (k := 2) hx hb (by decide +kernel) rfl (lv_at hl 2 rfl) ?_
        refine lz_arg C (j := 1) (n := 1) (lv := []) hst.2.2 (lv_at hl 0 rfl) (lv_at hl 3 rfl) (by decide) (by omega) hL (by decide +kernel) (by decide +kernel) (by decide +kernel) (by decide +kernel) (by decide +kernel) ?_
        refine lz_arg C (j := 2) (n := 2) (lv := []) hst.2.2 (lv_at hl 0 rfl) (lv_at hl 3 rfl) (by decide) (by omega) hL (by decide +kernel) (by decide +kernel) (by decide +kernel) (by decide +kernel) (by decide +kernel) ?_
        refine lz_arg C (j := 3) (n := 3) (lv := []) hst.2.2 (lv_at hl 0 rfl) (lv_at hl 3 rfl) (by decide) (by omega) hL (by decide +kernel) (by decide +kernel) (by decide +kernel) (by decide +kernel) (by decide +kernel) ?_
        refine lz_arg C (j := 4) (n := 4) (lv := []) hst.2.2 (lv_at hl 0 rfl) (lv_at hl 3 rfl) (by decide) (by omega) hL (by decide +kernel) (by decide +kernel) (by decide +kernel) (by decide +kernel) (by decide +kernel) ?_
        refine lz_arg C (j := 5) (n := 5) (lv := []) hst.2.2 (lv_at hl 0 rfl) (lv_at hl 3 rfl) (by decide) (by omega) hL (by decide +kernel) (by decide +kernel) (by decide +kernel) (by decide +kernel) (by decide +kernel) ?_
        refine lz_y C [xs (i + 1), xs (i + 2), xs (i + 3), xs (i + 4), xs (i + 5)] sm_X7_begin hcs.2 hMY cm_X7_begin (by show pm_ckC R_law (false, 17, 7, 6) yX7_begin 6 = true; decide +kernel) (by decide) hst hl.1 (by simp [Value.category]) (qi := 17) (by decide +kernel) (fun My H locs hMY hst => ?_)
        exact lv_icmp_eq (off := 535) (tgt := 725) hx hb (by decide +kernel) (by decide) (fun _ => fin _ Mx My H locs hA2 hMX hMY hst) (fun h => absurd rfl h)
      rcases w with _ | w
      · refine lv_tableIn (off := 162) (tgt := 195) hx hb dsw (by decide) (by decide) (by decide +kernel) (by decide) ?_
        have hcs := lz_lay hA (xs (i + 1)) (xs (i + 2)) (xs (i + 3))
        refine lv_aload_n (k := 1) hx hb (by decide +kernel) rfl (lv_at hl 1 rfl) ?_
        refine lz_arg C (j := 1) (n := 1) (lv := []) hst.2.2 (lv_at hl 0 rfl) (lv_at hl 3 rfl) (by decide) (by omega) hL (by decide +kernel) (by decide +kernel) (by decide +kernel) (by decide +kernel) (by decide +kernel) ?_
        refine lz_arg C (j := 2) (n := 2) (lv := []) hst.2.2 (lv_at hl 0 rfl) (lv_at hl 3 rfl) (by decide) (by omega) hL (by decide +kernel) (by decide +kernel) (by decide +kernel) (by decide +kernel) (by decide +kernel) ?_
        refine lz_arg C (j := 3) (n := 3) (lv := []) hst.2.2 (lv_at hl 0 rfl) (lv_at hl 3 rfl) (by decide) (by omega) hL (by decide +kernel) (by decide +kernel) (by decide +kernel) (by decide +kernel) (by decide +kernel) ?_
        refine lz_x C (rest := []) [xs (i + 1), xs (i + 2), xs (i + 3)] sm_X6_lay hcs.1 hMX cm_X6_lay (by show pm_ckC R_law (false, 18, 6, 4) yX6_lay 5 = true; decide +kernel) (by decide) hst hl.1 (by simp) (qi := 18) (by decide +kernel) (fun Mx H locs hMX hA2 hst => ?_)
        refine lv_aload_n (k := 2) hx hb (by decide +kernel) rfl (lv_at hl 2 rfl) ?_
        refine lz_arg C (j := 1) (n := 1) (lv := []) hst.2.2 (lv_at hl 0 rfl) (lv_at hl 3 rfl) (by decide) (by omega) hL (by decide +kernel) (by decide +kernel) (by decide +kernel) (by decide +kernel) (by decide +kernel) ?_
        refine lz_arg C (j := 2) (n := 2) (lv := []) hst.2.2 (lv_at hl 0 rfl) (lv_at hl 3 rfl) (by decide) (by omega) hL (by decide +kernel) (by decide +kernel) (by decide +kernel) (by decide +kernel) (by decide +kernel) ?_
        refine lz_arg C (j := 3) (n := 3) (lv := []) hst.2.2 (lv_at hl 0 rfl) (lv_at hl 3 rfl) (by decide) (by omega) hL (by decide +kernel) (by decide +kernel) (by decide +kernel) (by decide +kernel) (by decide +kernel) ?_
        refine lz_y C [xs (i + 1), xs (i + 2), xs (i + 3)] sm_X7_lay hcs.2 hMY cm_X7_lay (by show pm_ckC R_law (false, 22, 7, 4) yX7_lay 5 = true; decide +kernel) (by decide) hst hl.1 (by simp [Value.category]) (qi := 22) (by decide +kernel) (fun My H locs hMY hst => ?_)
        exact lv_icmp_eq (off := 492) (tgt := 725) hx hb (by decide +kernel) (by decide) (fun _ => fin _ Mx My H locs hA2 hMX hMY hst) (fun h => absurd rfl h)
      rcases w with _ | w
      · refine lv_tableIn (off := 205) (tgt := 238) hx hb dsw (by decide) (by decide) (by decide +kernel) (by decide) ?_
        have hcs := lz_make hA (xs (i + 1))
        refine lv_aload_n (k := 1) hx hb (by decide +kernel) rfl (lv_at hl 1 rfl) ?_
        refine lz_arg C (j := 1) (n := 1) (lv := []) hst.2.2 (lv_at hl 0 rfl) (lv_at hl 3 rfl) (by decide) (by omega) hL (by decide +kernel) (by decide +kernel) (by decide +kernel) (by decide +kernel) (by decide +kernel) ?_
        refine lz_x C (rest := []) [xs (i + 1)] sm_X6_make hcs.1 hMX cm_X6_make (by show pm_ckC R_law (false, 23, 6, 2) yX6_make 6 = true; decide +kernel) (by decide) hst hl.1 (by simp) (qi := 23) (by decide +kernel) (fun Mx H locs hMX hA2 hst => ?_)
        refine lv_aload_n (k := 2) hx hb (by decide +kernel) rfl (lv_at hl 2 rfl) ?_
        refine lz_arg C (j := 1) (n := 1) (lv := []) hst.2.2 (lv_at hl 0 rfl) (lv_at hl 3 rfl) (by decide) (by omega) hL (by decide +kernel) (by decide +kernel) (by decide +kernel) (by decide +kernel) (by decide +kernel) ?_
        refine lz_y C [xs (i + 1)] sm_X7_make hcs.2 hMY cm_X7_make (by show pm_ckC R_law (false, 27, 7, 2) yX7_make 8 = true; decide +kernel) (by decide) hst hl.1 (by simp [Value.category]) (qi := 27) (by decide +kernel) (fun My H locs hMY hst => ?_)
        exact lv_icmp_eq (off := 469) (tgt := 725) hx hb (by decide +kernel) (by decide) (fun _ => fin _ Mx My H locs hA2 hMX hMY hst) (fun h => absurd rfl h)
      rcases w with _ | w
      · refine lv_tableIn (off := 228) (tgt := 261) hx hb dsw (by decide) (by decide) (by decide +kernel) (by decide) ?_
        have hcs := lz_move hA (xs (i + 1)) (xs (i + 2))
        refine lv_aload_n (k := 1) hx hb (by decide +kernel) rfl (lv_at hl 1 rfl) ?_
        refine lz_arg C (j := 1) (n := 1) (lv := []) hst.2.2 (lv_at hl 0 rfl) (lv_at hl 3 rfl) (by decide) (by omega) hL (by decide +kernel) (by decide +kernel) (by decide +kernel) (by decide +kernel) (by decide +kernel) ?_
        refine lz_arg C (j := 2) (n := 2) (lv := []) hst.2.2 (lv_at hl 0 rfl) (lv_at hl 3 rfl) (by decide) (by omega) hL (by decide +kernel) (by decide +kernel) (by decide +kernel) (by decide +kernel) (by decide +kernel) ?_
        refine lz_x C (rest := []) [xs (i + 1), xs (i + 2)] sm_X6_move hcs.1 hMX cm_X6_move (by show pm_ckC R_law (false, 28, 6, 3) yX6_move 3 = true; decide +kernel) (by decide) hst hl.1 (by simp) (qi := 28) (by decide +kernel) (fun Mx H locs hMX hA2 hst => ?_)
        refine lv_aload_n (k := 2) hx hb (by decide +kernel) rfl (lv_at hl 2 rfl) ?_
        refine lz_arg C (j := 1) (n := 1) (lv := []) hst.2.2 (lv_at hl 0 rfl) (lv_at hl 3 rfl) (by decide) (by omega) hL (by decide +kernel) (by decide +kernel) (by decide +kernel) (by decide +kernel) (by decide +kernel) ?_
        refine lz_arg C (j := 2) (n := 2) (lv := []) hst.2.2 (lv_at hl 0 rfl) (lv_at hl 3 rfl) (by decide) (by omega) hL (by decide +kernel) (by decide +kernel) (by decide +kernel) (by decide +kernel) (by decide +kernel) ?_
        refine lz_y C [xs (i + 1), xs (i + 2)] sm_X7_move hcs.2 hMY cm_X7_move (by show pm_ckC R_law (false, 32, 7, 3) yX7_move 3 = true; decide +kernel) (by decide) hst hl.1 (by simp [Value.category]) (qi := 32) (by decide +kernel) (fun My H locs hMY hst => ?_)
        exact lv_icmp_eq (off := 436) (tgt := 725) hx hb (by decide +kernel) (by decide) (fun _ => fin _ Mx My H locs hA2 hMX hMY hst) (fun h => absurd rfl h)
      rcases w with _ | w
      · refine lv_tableIn (off := 261) (tgt := 294) hx hb dsw (by decide) (by decide) (by decide +kernel) (by decide) ?_
        have hcs := lz_why hA
        refine lv_aload_n (k := 1) hx hb (by decide +kernel) rfl (lv_at hl 1 rfl) ?_
        refine lz_x C (rest := []) [] sm_X6_why hcs.1 hMX cm_X6_why (by show pm_ckC R_law (false, 33, 6, 1) yX6_why 1 = true; decide +kernel) (by decide) hst hl.1 (by simp) (qi := 33) (by decide +kernel) (fun Mx H locs hMX hA2 hst => ?_)
        refine lv_aload_n (k := 2) hx hb (by decide +kernel) rfl (lv_at hl 2 rfl) ?_
        refine lz_y C [] sm_X7_why hcs.2 hMY cm_X7_why (by show pm_ckC R_law (false, 37, 7, 1) yX7_why 1 = true; decide +kernel) (by decide) hst hl.1 (by simp [Value.category]) (qi := 37) (by decide +kernel) (fun My H locs hMY hst => ?_)
        exact lv_icmp_eq (off := 423) (tgt := 725) hx hb (by decide +kernel) (by decide) (fun _ => fin _ Mx My H locs hA2 hMX hMY hst) (fun h => absurd rfl h)
      rcases w with _ | w
      · refine lv_tableIn (off := 274) (tgt := 307) hx hb dsw (by decide) (by decide) (by decide +kernel) (by decide) ?_
        have hcs := lz_carry hA (xs (i + 1)) (xs (i + 2)) (xs (i + 3))
        refine lv_aload_n (k := 1) hx hb (by decide +kernel) rfl (lv_at hl 1 rfl) ?_
        refine lz_arg C (j := 1) (n := 1) (lv := []) hst.2.2 (lv_at hl 0 rfl) (lv_at hl 3 rfl) (by decide) (by omega) hL (by decide +kernel) (by decide +kernel) (by decide +kernel) (by decide +kernel) (by decide +kernel) ?_
        refine lz_arg C (j := 2) (n := 2) (lv := []) hst.2.2 (lv_at hl 0 rfl) (lv_at hl 3 rfl) (by decide) (by omega) hL (by decide +kernel) (by decide +kernel) (by decide +kernel) (by decide +kernel) (by decide +kernel) ?_
        refine lz_arg C (j := 3) (n := 3) (lv := []) hst.2.2 (lv_at hl 0 rfl) (lv_at hl 3 rfl) (by decide) (by omega) hL (by decide +kernel) (by decide +kernel) (by decide +kernel) (by decide +kernel) (by decide +kernel) ?_
        refine lz_x C (rest := []) [xs (i + 1), xs (i + 2), xs (i + 3)] sm_X6_carry hcs.1 hMX cm_X6_carry (by show pm_ckC R_law (false, 38, 6, 4) yX6_carry 4 = true; decide +kernel) (by decide) hst hl.1 (by simp) (qi := 38) (by decide +kernel) (fun Mx H locs hMX hA2 hst => ?_)
        refine lv_aload_n (k := 2) hx hb (by decide +kernel) rfl (lv_at hl 2 rfl) ?_
        refine lz_arg C (j := 1) (n := 1) (lv := []) hst.2.2 (lv_at hl 0 rfl) (lv_at hl 3 rfl) (by decide) (by omega) hL (by decide +kernel) (by decide +kernel) (by decide +kernel) (by decide +kernel) (by decide +kernel) ?_
        refine lz_arg C (j := 2) (n := 2) (lv := []) hst.2.2 (lv_at hl 0 rfl) (lv_at hl 3 rfl) (by decide) (by omega) hL (by decide +kernel) (by decide +kernel) (by decide +kernel) (by decide +kernel) (by decide +kernel) ?_
        refine lz_arg C (j := 3) (n := 3) (lv := []) hst.2.2 (lv_at hl 0 rfl) (lv_at hl 3 rfl) (by decide) (by omega) hL (by decide +kernel) (by decide +kernel) (by decide +kernel) (by decide +kernel) (by decide +kernel) ?_
        refine lz_y C [xs (i + 1), xs (i + 2), xs (i + 3)] sm_X7_carry hcs.2 hMY cm_X7_carry (by show pm_ckC R_law (false, 41, 7, 4) yX7_carry 7 = true; decide +kernel) (by decide) hst hl.1 (by simp [Value.category]) (qi := 41) (by decide +kernel) (fun My H locs hMY hst => ?_)
        exact lv_icmp_eq (off := 380) (tgt := 725) hx hb (by decide +kernel) (by decide) (fun _ => fin _ Mx My H locs hA2 hMX hMY hst) (fun h => absurd rfl h)
      rcases w with _ | w
      · refine lv_tableIn (off := 317) (tgt := 350) hx hb dsw (by decide) (by decide) (by decide +kernel) (by decide) ?_
        have hcs := lz_auto hA
        refine lv_aload_n (k := 1) hx hb (by decide +kernel) rfl (lv_at hl 1 rfl) ?_
        refine lz_x C (rest := []) [] sm_X6_auto hcs.1 hMX cm_X6_auto (by show pm_ckC R_law (false, 42, 6, 1) yX6_auto 2 = true; decide +kernel) (by decide) hst hl.1 (by simp) (qi := 42) (by decide +kernel) (fun Mx H locs hMX hA2 hst => ?_)
        refine lv_aload_n (k := 2) hx hb (by decide +kernel) rfl (lv_at hl 2 rfl) ?_
        refine lz_y C [] sm_X7_auto hcs.2 hMY cm_X7_auto (by show pm_ckC R_law (false, 45, 7, 1) yX7_auto 4 = true; decide +kernel) (by decide) hst hl.1 (by simp [Value.category]) (qi := 45) (by decide +kernel) (fun My H locs hMY hst => ?_)
        exact lv_icmp_eq (off := 367) (tgt := 725) hx hb (by decide +kernel) (by decide) (fun _ => fin _ Mx My H locs hA2 hMX hMY hst) (fun h => absurd rfl h)
      rcases w with _ | w
      · refine lv_tableIn (off := 330) (tgt := 363) hx hb dsw (by decide) (by decide) (by decide +kernel) (by decide) ?_
        have hcs := lz_undo hA
        refine lv_aload_n (k := 1) hx hb (by decide +kernel) rfl (lv_at hl 1 rfl) ?_
        refine lz_x C (rest := []) [] sm_X6_undo hcs.1 hMX cm_X6_undo (by show pm_ckC R_law (false, 46, 6, 1) yX6_undo 1 = true; decide +kernel) (by decide) hst hl.1 (by simp) (qi := 46) (by decide +kernel) (fun Mx H locs hMX hA2 hst => ?_)
        refine lv_aload_n (k := 2) hx hb (by decide +kernel) rfl (lv_at hl 2 rfl) ?_
        refine lz_y C [] sm_X7_undo hcs.2 hMY cm_X7_undo (by show pm_ckC R_law (false, 49, 7, 1) yX7_undo 1 = true; decide +kernel) (by decide) hst hl.1 (by simp [Value.category]) (qi := 49) (by decide +kernel) (fun My H locs hMY hst => ?_)
        exact lv_icmp_eq (off := 354) (tgt := 725) hx hb (by decide +kernel) (by decide) (fun _ => fin _ Mx My H locs hA2 hMX hMY hst) (fun h => absurd rfl h)
      rcases w with _ | w
      · refine lv_tableIn (off := 343) (tgt := 376) hx hb dsw (by decide) (by decide) (by decide +kernel) (by decide) ?_
        have hcs := lz_redo hA
        refine lv_aload_n (k := 1) hx hb (by decide +kernel) rfl (lv_at hl 1 rfl) ?_
        refine lz_x C (rest := []) [] sm_X6_redo hcs.1 hMX cm_X6_redo (by show pm_ckC R_law (false, 50, 6, 1) yX6_redo 1 = true; decide +kernel) (by decide) hst hl.1 (by simp) (qi := 50) (by decide +kernel) (fun Mx H locs hMX hA2 hst => ?_)
        refine lv_aload_n (k := 2) hx hb (by decide +kernel) rfl (lv_at hl 2 rfl) ?_
        refine lz_y C [] sm_X7_redo hcs.2 hMY cm_X7_redo (by show pm_ckC R_law (false, 53, 7, 1) yX7_redo 1 = true; decide +kernel) (by decide) hst hl.1 (by simp [Value.category]) (qi := 53) (by decide +kernel) (fun My H locs hMY hst => ?_)
        exact lv_icmp_eq (off := 341) (tgt := 725) hx hb (by decide +kernel) (by decide) (fun _ => fin _ Mx My H locs hA2 hMX hMY hst) (fun h => absurd rfl h)
      rcases w with _ | w
      · refine lv_tableIn (off := 356) (tgt := 389) hx hb dsw (by decide) (by decide) (by decide +kernel) (by decide) ?_
        have hcs := lz_count hA (xs (i + 1))
        refine lv_aload_n (k := 1) hx hb (by decide +kernel) rfl (lv_at hl 1 rfl) ?_
        refine lz_arg C (j := 1) (n := 1) (lv := []) hst.2.2 (lv_at hl 0 rfl) (lv_at hl 3 rfl) (by decide) (by omega) hL (by decide +kernel) (by decide +kernel) (by decide +kernel) (by decide +kernel) (by decide +kernel) ?_
        refine lz_x C (rest := []) [xs (i + 1)] sm_X6_count hcs.1 hMX cm_X6_count (by show pm_ckC R_law (false, 54, 6, 2) yX6_count 2 = true; decide +kernel) (by decide) hst hl.1 (by simp) (qi := 54) (by decide +kernel) (fun Mx H locs hMX hA2 hst => ?_)
        refine lv_aload_n (k := 2) hx hb (by decide +kernel) rfl (lv_at hl 2 rfl) ?_
        refine lz_arg C (j := 1) (n := 1) (lv := []) hst.2.2 (lv_at hl 0 rfl) (lv_at hl 3 rfl) (by decide) (by omega) hL (by decide +kernel) (by decide +kernel) (by decide +kernel) (by decide +kernel) (by decide +kernel) ?_
        refine lz_y C [xs (i + 1)] sm_X7_count hcs.2 hMY cm_X7_count (by show pm_ckC R_law (false, 57, 7, 2) yX7_count 5 = true; decide +kernel) (by decide) hst hl.1 (by simp [Value.category]) (qi := 57) (by decide +kernel) (fun My H locs hMY hst => ?_)
        exact lv_icmp_eq (off := 318) (tgt := 725) hx hb (by decide +kernel) (by decide) (fun _ => fin _ Mx My H locs hA2 hMX hMY hst) (fun h => absurd rfl h)
      rcases w with _ | w
      · refine lv_tableIn (off := 379) (tgt := 412) hx hb dsw (by decide) (by decide) (by decide +kernel) (by decide) ?_
        have hcs := lz_card hA (xs (i + 1)) (xs (i + 2))
        refine lv_aload_n (k := 1) hx hb (by decide +kernel) rfl (lv_at hl 1 rfl) ?_
        refine lz_arg C (j := 1) (n := 1) (lv := []) hst.2.2 (lv_at hl 0 rfl) (lv_at hl 3 rfl) (by decide) (by omega) hL (by decide +kernel) (by decide +kernel) (by decide +kernel) (by decide +kernel) (by decide +kernel) ?_
        refine lz_arg C (j := 2) (n := 2) (lv := []) hst.2.2 (lv_at hl 0 rfl) (lv_at hl 3 rfl) (by decide) (by omega) hL (by decide +kernel) (by decide +kernel) (by decide +kernel) (by decide +kernel) (by decide +kernel) ?_
        refine lz_x C (rest := []) [xs (i + 1), xs (i + 2)] sm_X6_card hcs.1 hMX cm_X6_card (by show pm_ckC R_law (false, 58, 6, 3) yX6_card 3 = true; decide +kernel) (by decide) hst hl.1 (by simp) (qi := 58) (by decide +kernel) (fun Mx H locs hMX hA2 hst => ?_)
        refine lv_aload_n (k := 2) hx hb (by decide +kernel) rfl (lv_at hl 2 rfl) ?_
        refine lz_arg C (j := 1) (n := 1) (lv := []) hst.2.2 (lv_at hl 0 rfl) (lv_at hl 3 rfl) (by decide) (by omega) hL (by decide +kernel) (by decide +kernel) (by decide +kernel) (by decide +kernel) (by decide +kernel) ?_
        refine lz_arg C (j := 2) (n := 2) (lv := []) hst.2.2 (lv_at hl 0 rfl) (lv_at hl 3 rfl) (by decide) (by omega) hL (by decide +kernel) (by decide +kernel) (by decide +kernel) (by decide +kernel) (by decide +kernel) ?_
        refine lz_y C [xs (i + 1), xs (i + 2)] sm_X7_card hcs.2 hMY cm_X7_card (by show pm_ckC R_law (false, 61, 7, 3) yX7_card 3 = true; decide +kernel) (by decide) hst hl.1 (by simp [Value.category]) (qi := 61) (by decide +kernel) (fun My H locs hMY hst => ?_)
        exact lv_icmp_eq (off := 285) (tgt := 725) hx hb (by decide +kernel) (by decide) (fun _ => fin _ Mx My H locs hA2 hMX hMY hst) (fun h => absurd rfl h)
      rcases w with _ | w
      · refine lv_tableIn (off := 412) (tgt := 445) hx hb dsw (by decide) (by decide) (by decide +kernel) (by decide) ?_
        have hcs := lz_cell hA (xs (i + 1))
        refine lv_aload_n (k := 1) hx hb (by decide +kernel) rfl (lv_at hl 1 rfl) ?_
        refine lz_arg C (j := 1) (n := 1) (lv := []) hst.2.2 (lv_at hl 0 rfl) (lv_at hl 3 rfl) (by decide) (by omega) hL (by decide +kernel) (by decide +kernel) (by decide +kernel) (by decide +kernel) (by decide +kernel) ?_
        refine lz_x C (rest := []) [xs (i + 1)] sm_X6_cell hcs.1 hMX cm_X6_cell (by show pm_ckC R_law (false, 62, 6, 2) yX6_cell 2 = true; decide +kernel) (by decide) hst hl.1 (by simp) (qi := 62) (by decide +kernel) (fun Mx H locs hMX hA2 hst => ?_)
        refine lv_aload_n (k := 2) hx hb (by decide +kernel) rfl (lv_at hl 2 rfl) ?_
        refine lz_arg C (j := 1) (n := 1) (lv := []) hst.2.2 (lv_at hl 0 rfl) (lv_at hl 3 rfl) (by decide) (by omega) hL (by decide +kernel) (by decide +kernel) (by decide +kernel) (by decide +kernel) (by decide +kernel) ?_
        refine lz_y C [xs (i + 1)] sm_X7_cell hcs.2 hMY cm_X7_cell (by show pm_ckC R_law (false, 65, 7, 2) yX7_cell 2 = true; decide +kernel) (by decide) hst hl.1 (by simp [Value.category]) (qi := 65) (by decide +kernel) (fun My H locs hMY hst => ?_)
        exact lv_icmp_eq (off := 262) (tgt := 725) hx hb (by decide +kernel) (by decide) (fun _ => fin _ Mx My H locs hA2 hMX hMY hst) (fun h => absurd rfl h)
      rcases w with _ | w
      · refine lv_tableIn (off := 435) (tgt := 468) hx hb dsw (by decide) (by decide) (by decide +kernel) (by decide) ?_
        have hcs := lz_house hA (xs (i + 1))
        refine lv_aload_n (k := 1) hx hb (by decide +kernel) rfl (lv_at hl 1 rfl) ?_
        refine lz_arg C (j := 1) (n := 1) (lv := []) hst.2.2 (lv_at hl 0 rfl) (lv_at hl 3 rfl) (by decide) (by omega) hL (by decide +kernel) (by decide +kernel) (by decide +kernel) (by decide +kernel) (by decide +kernel) ?_
        refine lz_x C (rest := []) [xs (i + 1)] sm_X6_house hcs.1 hMX cm_X6_house (by show pm_ckC R_law (false, 66, 6, 2) yX6_house 2 = true; decide +kernel) (by decide) hst hl.1 (by simp) (qi := 66) (by decide +kernel) (fun Mx H locs hMX hA2 hst => ?_)
        refine lv_aload_n (k := 2) hx hb (by decide +kernel) rfl (lv_at hl 2 rfl) ?_
        refine lz_arg C (j := 1) (n := 1) (lv := []) hst.2.2 (lv_at hl 0 rfl) (lv_at hl 3 rfl) (by decide) (by omega) hL (by decide +kernel) (by decide +kernel) (by decide +kernel) (by decide +kernel) (by decide +kernel) ?_
        refine lz_y C [xs (i + 1)] sm_X7_house hcs.2 hMY cm_X7_house (by show pm_ckC R_law (false, 69, 7, 2) yX7_house 2 = true; decide +kernel) (by decide) hst hl.1 (by simp [Value.category]) (qi := 69) (by decide +kernel) (fun My H locs hMY hst => ?_)
        exact lv_icmp_eq (off := 239) (tgt := 725) hx hb (by decide +kernel) (by decide) (fun _ => fin _ Mx My H locs hA2 hMX hMY hst) (fun h => absurd rfl h)
      rcases w with _ | w
      · refine lv_tableIn (off := 458) (tgt := 491) hx hb dsw (by decide) (by decide) (by decide +kernel) (by decide) ?_
        have hcs := lz_lets hA (xs (i + 1)) (xs (i + 2))
        refine lv_aload_n (k := 1) hx hb (by decide +kernel) rfl (lv_at hl 1 rfl) ?_
        refine lz_arg C (j := 1) (n := 1) (lv := []) hst.2.2 (lv_at hl 0 rfl) (lv_at hl 3 rfl) (by decide) (by omega) hL (by decide +kernel) (by decide +kernel) (by decide +kernel) (by decide +kernel) (by decide +kernel) ?_
        refine lz_arg C (j := 2) (n := 2) (lv := []) hst.2.2 (lv_at hl 0 rfl) (lv_at hl 3 rfl) (by decide) (by omega) hL (by decide +kernel) (by decide +kernel) (by decide +kernel) (by decide +kernel) (by decide +kernel) ?_
        refine lz_x C (rest := []) [xs (i + 1), xs (i + 2)] sm_X6_lets hcs.1 hMX cm_X6_lets (by show pm_ckC R_law (false, 70, 6, 3) yX6_lets 4 = true; decide +kernel) (by decide) hst hl.1 (by simp) (qi := 70) (by decide +kernel) (fun Mx H locs hMX hA2 hst => ?_)
        refine lv_aload_n (k := 2) hx hb (by decide +kernel) rfl (lv_at hl 2 rfl) ?_
        refine lz_arg C (j := 1) (n := 1) (lv := []) hst.2.2 (lv_at hl 0 rfl) (lv_at hl 3 rfl) (by decide) (by omega) hL (by decide +kernel) (by decide +kernel) (by decide +kernel) (by decide +kernel) (by decide +kernel) ?_
        refine lz_arg C (j := 2) (n := 2) (lv := []) hst.2.2 (lv_at hl 0 rfl) (lv_at hl 3 rfl) (by decide) (by omega) hL (by decide +kernel) (by decide +kernel) (by decide +kernel) (by decide +kernel) (by decide +kernel) ?_
        refine lz_y C [xs (i + 1), xs (i + 2)] sm_X7_lets hcs.2 hMY cm_X7_lets (by show pm_ckC R_law (false, 73, 7, 3) yX7_lets 3 = true; decide +kernel) (by decide) hst hl.1 (by simp [Value.category]) (qi := 73) (by decide +kernel) (fun My H locs hMY hst => ?_)
        exact lv_icmp_eq (off := 206) (tgt := 725) hx hb (by decide +kernel) (by decide) (fun _ => fin _ Mx My H locs hA2 hMX hMY hst) (fun h => absurd rfl h)
      rcases w with _ | w
      · refine lv_tableIn (off := 491) (tgt := 524) hx hb dsw (by decide) (by decide) (by decide +kernel) (by decide) ?_
        have hcs := lz_solve hA (xs (i + 1))
        refine lv_aload_n (k := 1) hx hb (by decide +kernel) rfl (lv_at hl 1 rfl) ?_
        refine lz_arg C (j := 1) (n := 1) (lv := []) hst.2.2 (lv_at hl 0 rfl) (lv_at hl 3 rfl) (by decide) (by omega) hL (by decide +kernel) (by decide +kernel) (by decide +kernel) (by decide +kernel) (by decide +kernel) ?_
        refine lz_x C (rest := []) [xs (i + 1)] sm_X6_solve hcs.1 hMX cm_X6_solve (by show pm_ckC R_law (false, 74, 6, 2) yX6_solve 3 = true; decide +kernel) (by decide) hst hl.1 (by simp) (qi := 74) (by decide +kernel) (fun Mx H locs hMX hA2 hst => ?_)
        refine lv_aload_n (k := 2) hx hb (by decide +kernel) rfl (lv_at hl 2 rfl) ?_
        refine lz_arg C (j := 1) (n := 1) (lv := []) hst.2.2 (lv_at hl 0 rfl) (lv_at hl 3 rfl) (by decide) (by omega) hL (by decide +kernel) (by decide +kernel) (by decide +kernel) (by decide +kernel) (by decide +kernel) ?_
        refine lz_y C [xs (i + 1)] sm_X7_solve hcs.2 hMY cm_X7_solve (by show pm_ckC R_law (false, 77, 7, 2) yX7_solve 3 = true; decide +kernel) (by decide) hst hl.1 (by simp [Value.category]) (qi := 77) (by decide +kernel) (fun My H locs hMY hst => ?_)
        exact lv_icmp_eq (off := 183) (tgt := 725) hx hb (by decide +kernel) (by decide) (fun _ => fin _ Mx My H locs hA2 hMX hMY hst) (fun h => absurd rfl h)
      rcases w with _ | w
      · refine lv_tableIn (off := 514) (tgt := 547) hx hb dsw (by decide) (by decide) (by decide +kernel) (by decide) ?_
        have hcs := lz_plan hA (xs (i + 1)) (xs (i + 2))
        refine lv_aload_n (k := 1) hx hb (by decide +kernel) rfl (lv_at hl 1 rfl) ?_
        refine lz_arg C (j := 1) (n := 1) (lv := []) hst.2.2 (lv_at hl 0 rfl) (lv_at hl 3 rfl) (by decide) (by omega) hL (by decide +kernel) (by decide +kernel) (by decide +kernel) (by decide +kernel) (by decide +kernel) ?_
        refine lz_arg C (j := 2) (n := 2) (lv := []) hst.2.2 (lv_at hl 0 rfl) (lv_at hl 3 rfl) (by decide) (by omega) hL (by decide +kernel) (by decide +kernel) (by decide +kernel) (by decide +kernel) (by decide +kernel) ?_
        refine lz_x C (rest := []) [xs (i + 1), xs (i + 2)] sm_X6_plan hcs.1 hMX cm_X6_plan (by show pm_ckC R_law (false, 78, 6, 3) yX6_plan 3 = true; decide +kernel) (by decide) hst hl.1 (by simp) (qi := 78) (by decide +kernel) (fun Mx H locs hMX hA2 hst => ?_)
        refine lv_aload_n (k := 2) hx hb (by decide +kernel) rfl (lv_at hl 2 rfl) ?_
        refine lz_arg C (j := 1) (n := 1) (lv := []) hst.2.2 (lv_at hl 0 rfl) (lv_at hl 3 rfl) (by decide) (by omega) hL (by decide +kernel) (by decide +kernel) (by decide +kernel) (by decide +kernel) (by decide +kernel) ?_
        refine lz_arg C (j := 2) (n := 2) (lv := []) hst.2.2 (lv_at hl 0 rfl) (lv_at hl 3 rfl) (by decide) (by omega) hL (by decide +kernel) (by decide +kernel) (by decide +kernel) (by decide +kernel) (by decide +kernel) ?_
        refine lz_y C [xs (i + 1), xs (i + 2)] sm_X7_plan hcs.2 hMY cm_X7_plan (by show pm_ckC R_law (false, 81, 7, 3) yX7_plan 3 = true; decide +kernel) (by decide) hst hl.1 (by simp [Value.category]) (qi := 81) (by decide +kernel) (fun My H locs hMY hst => ?_)
        exact lv_icmp_eq (off := 150) (tgt := 725) hx hb (by decide +kernel) (by decide) (fun _ => fin _ Mx My H locs hA2 hMX hMY hst) (fun h => absurd rfl h)
      rcases w with _ | w
      · refine lv_tableIn (off := 547) (tgt := 580) hx hb dsw (by decide) (by decide) (by decide +kernel) (by decide) ?_
        have hcs := lz_needs hA (xs (i + 1))
        refine lv_aload_n (k := 1) hx hb (by decide +kernel) rfl (lv_at hl 1 rfl) ?_
        refine lz_arg C (j := 1) (n := 1) (lv := []) hst.2.2 (lv_at hl 0 rfl) (lv_at hl 3 rfl) (by decide) (by omega) hL (by decide +kernel) (by decide +kernel) (by decide +kernel) (by decide +kernel) (by decide +kernel) ?_
        refine lz_x C (rest := []) [xs (i + 1)] sm_X6_needs hcs.1 hMX cm_X6_needs (by show pm_ckC R_law (false, 82, 6, 2) yX6_needs 4 = true; decide +kernel) (by decide) hst hl.1 (by simp) (qi := 82) (by decide +kernel) (fun Mx H locs hMX hA2 hst => ?_)
        refine lv_aload_n (k := 2) hx hb (by decide +kernel) rfl (lv_at hl 2 rfl) ?_
        refine lz_arg C (j := 1) (n := 1) (lv := []) hst.2.2 (lv_at hl 0 rfl) (lv_at hl 3 rfl) (by decide) (by omega) hL (by decide +kernel) (by decide +kernel) (by decide +kernel) (by decide +kernel) (by decide +kernel) ?_
        refine lz_y C [xs (i + 1)] sm_X7_needs hcs.2 hMY cm_X7_needs (by show pm_ckC R_law (false, 85, 7, 2) yX7_needs 4 = true; decide +kernel) (by decide) hst hl.1 (by simp [Value.category]) (qi := 85) (by decide +kernel) (fun My H locs hMY hst => ?_)
        exact lv_icmp_eq (off := 127) (tgt := 725) hx hb (by decide +kernel) (by decide) (fun _ => fin _ Mx My H locs hA2 hMX hMY hst) (fun h => absurd rfl h)
      rcases w with _ | w
      · refine lv_tableIn (off := 570) (tgt := 603) hx hb dsw (by decide) (by decide) (by decide +kernel) (by decide) ?_
        have hcs := lz_form hA (xs (i + 1))
        refine lv_aload_n (k := 1) hx hb (by decide +kernel) rfl (lv_at hl 1 rfl) ?_
        refine lz_arg C (j := 1) (n := 1) (lv := []) hst.2.2 (lv_at hl 0 rfl) (lv_at hl 3 rfl) (by decide) (by omega) hL (by decide +kernel) (by decide +kernel) (by decide +kernel) (by decide +kernel) (by decide +kernel) ?_
        refine lz_x C (rest := []) [xs (i + 1)] sm_X6_form hcs.1 hMX cm_X6_form (by show pm_ckC R_law (false, 86, 6, 2) yX6_form 3 = true; decide +kernel) (by decide) hst hl.1 (by simp) (qi := 86) (by decide +kernel) (fun Mx H locs hMX hA2 hst => ?_)
        refine lv_aload_n (k := 2) hx hb (by decide +kernel) rfl (lv_at hl 2 rfl) ?_
        refine lz_arg C (j := 1) (n := 1) (lv := []) hst.2.2 (lv_at hl 0 rfl) (lv_at hl 3 rfl) (by decide) (by omega) hL (by decide +kernel) (by decide +kernel) (by decide +kernel) (by decide +kernel) (by decide +kernel) ?_
        refine lz_y C [xs (i + 1)] sm_X7_form hcs.2 hMY cm_X7_form (by show pm_ckC R_law (false, 89, 7, 2) yX7_form 3 = true; decide +kernel) (by decide) hst hl.1 (by simp [Value.category]) (qi := 89) (by decide +kernel) (fun My H locs hMY hst => ?_)
        exact lv_icmp_eq (off := 104) (tgt := 725) hx hb (by decide +kernel) (by decide) (fun _ => fin _ Mx My H locs hA2 hMX hMY hst) (fun h => absurd rfl h)
      rcases w with _ | w
      · refine lv_tableIn (off := 593) (tgt := 626) hx hb dsw (by decide) (by decide) (by decide +kernel) (by decide) ?_
        have hcs := lz_put hA (xs (i + 1)) (xs (i + 2)) (xs (i + 3))
        refine lv_aload_n (k := 1) hx hb (by decide +kernel) rfl (lv_at hl 1 rfl) ?_
        refine lz_arg C (j := 1) (n := 1) (lv := []) hst.2.2 (lv_at hl 0 rfl) (lv_at hl 3 rfl) (by decide) (by omega) hL (by decide +kernel) (by decide +kernel) (by decide +kernel) (by decide +kernel) (by decide +kernel) ?_
        refine lz_arg C (j := 2) (n := 2) (lv := []) hst.2.2 (lv_at hl 0 rfl) (lv_at hl 3 rfl) (by decide) (by omega) hL (by decide +kernel) (by decide +kernel) (by decide +kernel) (by decide +kernel) (by decide +kernel) ?_
        refine lz_arg C (j := 3) (n := 3) (lv := []) hst.2.2 (lv_at hl 0 rfl) (lv_at hl 3 rfl) (by decide) (by omega) hL (by decide +kernel) (by decide +kernel) (by decide +kernel) (by decide +kernel) (by decide +kernel) ?_
        refine lz_x C (rest := []) [xs (i + 1), xs (i + 2), xs (i + 3)] sm_X6_put hcs.1 hMX cm_X6_put (by show pm_ckC R_law (false, 90, 6, 4) yX6_put 5 = true; decide +kernel) (by decide) hst hl.1 (by simp) (qi := 90) (by decide +kernel) (fun Mx H locs hMX hA2 hst => ?_)
        refine lv_aload_n (k := 2) hx hb (by decide +kernel) rfl (lv_at hl 2 rfl) ?_
        refine lz_arg C (j := 1) (n := 1) (lv := []) hst.2.2 (lv_at hl 0 rfl) (lv_at hl 3 rfl) (by decide) (by omega) hL (by decide +kernel) (by decide +kernel) (by decide +kernel) (by decide +kernel) (by decide +kernel) ?_
        refine lz_arg C (j := 2) (n := 2) (lv := []) hst.2.2 (lv_at hl 0 rfl) (lv_at hl 3 rfl) (by decide) (by omega) hL (by decide +kernel) (by decide +kernel) (by decide +kernel) (by decide +kernel) (by decide +kernel) ?_
        refine lz_arg C (j := 3) (n := 3) (lv := []) hst.2.2 (lv_at hl 0 rfl) (lv_at hl 3 rfl) (by decide) (by omega) hL (by decide +kernel) (by decide +kernel) (by decide +kernel) (by decide +kernel) (by decide +kernel) ?_
        refine lz_y C [xs (i + 1), xs (i + 2), xs (i + 3)] sm_X7_put hcs.2 hMY cm_X7_put (by show pm_ckC R_law (false, 93, 7, 4) yX7_put 7 = true; decide +kernel) (by decide) hst hl.1 (by simp [Value.category]) (qi := 93) (by decide +kernel) (fun My H locs hMY hst => ?_)
        exact lv_icmp_eq (off := 61) (tgt := 725) hx hb (by decide +kernel) (by decide) (fun _ => fin _ Mx My H locs hA2 hMX hMY hst) (fun h => absurd rfl h)
      rcases w with _ | w
      · refine lv_tableIn (off := 636) (tgt := 669) hx hb dsw (by decide) (by decide) (by decide +kernel) (by decide) ?_
        have hcs := lz_forge hA (xs (i + 1)) (xs (i + 2)) (xs (i + 3))
        refine lv_aload_n (k := 1) hx hb (by decide +kernel) rfl (lv_at hl 1 rfl) ?_
        refine lz_arg C (j := 1) (n := 1) (lv := []) hst.2.2 (lv_at hl 0 rfl) (lv_at hl 3 rfl) (by decide) (by omega) hL (by decide +kernel) (by decide +kernel) (by decide +kernel) (by decide +kernel) (by decide +kernel) ?_
        refine lz_arg C (j := 2) (n := 2) (lv := []) hst.2.2 (lv_at hl 0 rfl) (lv_at hl 3 rfl) (by decide) (by omega) hL (by decide +kernel) (by decide +kernel) (by decide +kernel) (by decide +kernel) (by decide +kernel) ?_
        refine lz_arg C (j := 3) (n := 3) (lv := []) hst.2.2 (lv_at hl 0 rfl) (lv_at hl 3 rfl) (by decide) (by omega) hL (by decide +kernel) (by decide +kernel) (by decide +kernel) (by decide +kernel) (by decide +kernel) ?_
        refine lz_x C (rest := []) [xs (i + 1), xs (i + 2), xs (i + 3)] sm_X6_forge hcs.1 hMX cm_X6_forge (by show pm_ckC R_law (false, 94, 6, 4) yX6_forge 5 = true; decide +kernel) (by decide) hst hl.1 (by simp) (qi := 94) (by decide +kernel) (fun Mx H locs hMX hA2 hst => ?_)
        refine lv_aload_n (k := 2) hx hb (by decide +kernel) rfl (lv_at hl 2 rfl) ?_
        refine lz_arg C (j := 1) (n := 1) (lv := []) hst.2.2 (lv_at hl 0 rfl) (lv_at hl 3 rfl) (by decide) (by omega) hL (by decide +kernel) (by decide +kernel) (by decide +kernel) (by decide +kernel) (by decide +kernel) ?_
        refine lz_arg C (j := 2) (n := 2) (lv := []) hst.2.2 (lv_at hl 0 rfl) (lv_at hl 3 rfl) (by decide) (by omega) hL (by decide +kernel) (by decide +kernel) (by decide +kernel) (by decide +kernel) (by decide +kernel) ?_
        refine lz_arg C (j := 3) (n := 3) (lv := []) hst.2.2 (lv_at hl 0 rfl) (lv_at hl 3 rfl) (by decide) (by omega) hL (by decide +kernel) (by decide +kernel) (by decide +kernel) (by decide +kernel) (by decide +kernel) ?_
        refine lz_y C [xs (i + 1), xs (i + 2), xs (i + 3)] sm_X7_forge hcs.2 hMY cm_X7_forge (by show pm_ckC R_law (false, 97, 7, 4) yX7_forge 8 = true; decide +kernel) (by decide) hst hl.1 (by simp [Value.category]) (qi := 97) (by decide +kernel) (fun My H locs hMY hst => ?_)
        exact lv_icmp_eq (off := 18) (tgt := 725) hx hb (by decide +kernel) (by decide) (fun _ => fin _ Mx My H locs hA2 hMX hMY hst) (fun h => absurd rfl h)
      rcases w with _ | w
      · refine lv_tableIn (off := 679) (tgt := 712) hx hb dsw (by decide) (by decide) (by decide +kernel) (by decide) ?_
        have hcs := lz_status hA
        refine lv_aload_n (k := 1) hx hb (by decide +kernel) rfl (lv_at hl 1 rfl) ?_
        refine lz_x C (rest := []) [] sm_X6_status hcs.1 hMX cm_X6_status (by show pm_ckC R_law (false, 98, 6, 1) yX6_status 1 = true; decide +kernel) (by decide) hst hl.1 (by simp) (qi := 98) (by decide +kernel) (fun Mx H locs hMX hA2 hst => ?_)
        refine lv_aload_n (k := 2) hx hb (by decide +kernel) rfl (lv_at hl 2 rfl) ?_
        refine lz_y C [] sm_X7_status hcs.2 hMY cm_X7_status (by show pm_ckC R_law (false, 101, 7, 1) yX7_status 1 = true; decide +kernel) (by decide) hst hl.1 (by simp [Value.category]) (qi := 101) (by decide +kernel) (fun My H locs hMY hst => ?_)
        exact lv_icmp_eq (off := 5) (tgt := 725) hx hb (by decide +kernel) (by decide) (fun _ => fin _ Mx My H locs hA2 hMX hMY hst) (fun h => absurd rfl h)
      omega
end LW
