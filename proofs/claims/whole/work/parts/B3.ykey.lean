/-! THE REFERENCE's KEY OF A STAND -/
theorem perm_sum {l m : List Nat} (h : l.Perm m) : l.sum = m.sum := by
  induction h with
  | nil => rfl
  | cons x _ ih => simp [ih]
  | swap x y l => simp; omega
  | trans _ _ a b => exact a.trans b
theorem map_inj {α β : Type} {f : α → β} : ∀ (l m : List α), (∀ x ∈ l, ∀ y ∈ m, f x = f y → x = y) → l.map f = m.map f → l = m
  | [], [], _, _ => rfl
  | [], _ :: _, _, h => by simp at h
  | _ :: _, [], _, h => by simp at h
  | x :: l, y :: m, hi, h => by
    rw [List.map_cons, List.map_cons, List.cons.injEq] at h
    rw [hi x List.mem_cons_self y List.mem_cons_self h.1, map_inj l m (fun a ha b hb => hi a (List.mem_cons_of_mem _ ha) b (List.mem_cons_of_mem _ hb)) h.2]
theorem cnt_sum (v : Nat) : ∀ l : List Nat, l.count v = (l.map (fun x => if x = v then 1 else 0)).sum
  | [] => rfl
  | x :: l => by
    rw [List.count_cons, cnt_sum v l, List.map_cons, List.sum_cons]
    simp only [beq_iff_eq]; omega
theorem tbO_perm {P : Pm} (hP : okP P) (S : St) : (tbO P S 4).Perm (List.range (pC P)) := by
  have hC := hP.2.2.2.2.2.2.1
  have key : ∀ l : List Nat, (∀ v ∈ l, v < 4) → (l.map (ky S)).map (· % 4) = l := by
    intro l hl
    rw [List.map_map]
    conv => rhs; rw [← List.map_id l]
    exact List.map_congr_left (fun v hv => ky_mod S (hl v hv))
  have h := (tbO_keys hP S).1.map (· % 4)
  rw [key _ (fun v hv => (tbO_C hv).2), key _ (fun v hv => by rw [List.mem_range] at hv; omega)] at h
  exact h
def colsT (P : Pm) (S : St) : List (List Nat) := (tbO P S 4).map S.1
theorem colsT_len {P : Pm} (hP : okP P) (S : St) : (colsT P S).length = pC P := by unfold colsT; rw [List.length_map, tbO_len hP]
theorem colsT_mem {P : Pm} {S : St} {c : List Nat} (h : c ∈ colsT P S) : ∃ i, i < 4 ∧ i < pC P ∧ c = S.1 i := by
  unfold colsT at h
  obtain ⟨i, h1, h2⟩ := List.mem_map.mp h
  exact ⟨i, (tbO_C h1).2, (tbO_C h1).1, h2.symm⟩
theorem colsT_in {P : Pm} (hP : okP P) {S : St} {i : Nat} (h : i < pC P) : S.1 i ∈ colsT P S := List.mem_map.mpr ⟨i, (tbO_perm hP S).mem_iff.mpr (List.mem_range.mpr h), rfl⟩
theorem colsT_sum {P : Pm} (hP : okP P) {S : St} (w : ∀ i, i < 4 → pC P ≤ i → S.1 i = []) (f : List Nat → Nat) : ((colsT P S).map f).sum + (4 - pC P) * f [] = f (S.1 0) + f (S.1 1) + f (S.1 2) + f (S.1 3) := by
  have h6 := hP.2.2.2.2.2.1
  have hC := hP.2.2.2.2.2.2.1
  unfold colsT
  rw [List.map_map, perm_sum ((tbO_perm hP S).map (f ∘ S.1))]
  rcases (show pC P = 1 ∨ pC P = 2 ∨ pC P = 3 ∨ pC P = 4 by omega) with q | q | q | q
  · rw [w 1 (by decide) (by omega), w 2 (by decide) (by omega), w 3 (by decide) (by omega), q]
    show f (S.1 0) + 0 + _ = _; omega
  · rw [w 2 (by decide) (by omega), w 3 (by decide) (by omega), q]
    show f (S.1 0) + (f (S.1 1) + 0) + _ = _; omega
  · rw [w 3 (by decide) (by omega), q]
    show f (S.1 0) + (f (S.1 1) + (f (S.1 2) + 0)) + _ = _; omega
  · rw [q]
    show f (S.1 0) + (f (S.1 1) + (f (S.1 2) + (f (S.1 3) + 0))) + _ = _; omega
theorem colsT_ms {P : Pm} (hP : okP P) {S S' : St} (w : ∀ i, i < 4 → pC P ≤ i → S.1 i = []) (w' : ∀ i, i < 4 → pC P ≤ i → S'.1 i = []) (h : colsT P S = colsT P S') : msE S S' := fun f => by
  rw [← colsT_sum hP w, ← colsT_sum hP w', h]
theorem ms_colsT {P : Pm} (hP : okP P) {S S' : St} (o : okS S) (o' : okS S') (w : ∀ i, i < 4 → pC P ≤ i → S.1 i = []) (w' : ∀ i, i < 4 → pC P ≤ i → S'.1 i = []) (h : msE S S') : colsT P S = colsT P S' := by
  have so : ∀ U : St, ((colsT P U).map al).Pairwise (· ≤ ·) := by
    intro U
    have h2 := (tbO_keys hP U).2
    unfold colsT
    rw [List.map_map, List.pairwise_map]
    rw [List.pairwise_map] at h2
    refine List.Pairwise.imp_of_mem ?_ h2
    intro a b ha hb hab
    have h1 := (tbO_C ha).2
    have h2 := (tbO_C hb).2
    show al (U.1 a) ≤ al (U.1 b)
    unfold ky at hab; omega
  have pe : ((colsT P S).map al).Perm ((colsT P S').map al) := by
    rw [List.perm_iff_count]
    intro v
    rw [cnt_sum, cnt_sum, List.map_map, List.map_map]
    have e1 := colsT_sum hP w ((fun x => if x = v then 1 else 0) ∘ al)
    have e2 := colsT_sum hP w' ((fun x => if x = v then 1 else 0) ∘ al)
    have e3 := h ((fun x => if x = v then 1 else 0) ∘ al)
    omega
  have ea := srt_uniq2 _ _ pe (so S) (so S')
  refine map_inj _ _ (fun x hx y hy e => ?_) ea
  obtain ⟨i, i1, i2, rfl⟩ := colsT_mem hx
  obtain ⟨j, j1, j2, rfl⟩ := colsT_mem hy
  exact al_inj (fun d hd => by have := (o.1 _ i1).2 d hd; omega) (fun d hd => by have := (o'.1 _ j1).2 d hd; omega) (o.1 _ i1).1 (o'.1 _ j1).1 e
def kyG (r : Nat) (C : List (List Nat)) (lo hi j : Nat) : Nat := if j < 4 then (C.map List.length).getD j 0 else if j < 16 then (C.flatMap (fun c => c.map (cdN r))).getD (j - 4) 0 else if j = 16 then cdN r lo else cdN r hi
def ceLo (ec : Nat) (S : St) : Nat := if ec = 2 ∧ S.2.1 1 < S.2.1 0 then S.2.1 1 else S.2.1 0
def ceHi (ec : Nat) (S : St) : Nat := if ec = 2 ∧ S.2.1 1 < S.2.1 0 then S.2.1 0 else S.2.1 1
def kyF (P : Pm) (ec : Nat) (S : St) (j : Nat) : Nat := kyG (pR P) (colsT P S) (ceLo ec S) (ceHi ec S) j
theorem flat_len (r : Nat) : ∀ C : List (List Nat), (C.flatMap (fun c => c.map (cdN r))).length = (C.map List.length).sum
  | [] => rfl
  | c :: C => by rw [List.flatMap_cons, List.length_append, flat_len r C]; simp
theorem flat_split (r : Nat) : ∀ C C' : List (List Nat), C.map List.length = C'.map List.length → C.flatMap (fun c => c.map (cdN r)) = C'.flatMap (fun c => c.map (cdN r)) → C.map (fun c => c.map (cdN r)) = C'.map (fun c => c.map (cdN r))
  | [], [], _, _ => rfl
  | [], _ :: _, h, _ => by simp at h
  | _ :: _, [], h, _ => by simp at h
  | c :: C, c' :: C', h, e => by
    rw [List.map_cons, List.map_cons, List.cons.injEq] at h
    rw [List.flatMap_cons, List.flatMap_cons] at e
    obtain ⟨e1, e2⟩ := List.append_inj e (by simp [h.1])
    rw [List.map_cons, List.map_cons, e1, flat_split r C C' h.2 e2]
theorem getD_ext {l m : List Nat} (hl : l.length = m.length) (h : ∀ j, j < l.length → l.getD j 0 = m.getD j 0) : l = m := by
  apply List.ext_getElem hl
  intro i h1 h2
  have := h i h1
  rw [List.getD_eq_getElem?_getD, List.getD_eq_getElem?_getD, List.getElem?_eq_getElem h1, List.getElem?_eq_getElem h2] at this
  exact this
theorem colsT_12 {P : Pm} {ec : Nat} {S : St} (hP : okP P) (h : FW P ec S) : ((colsT P S).map List.length).sum ≤ 12 := by
  have e := colsT_sum hP h.1 List.length
  have t := WF.t12 hP h
  unfold tot at t
  simp only [List.length_nil, Nat.mul_zero, Nat.add_zero] at e
  omega
/-- what the cells tell -/
theorem ce_of {P : Pm} {ec : Nat} {S S' : St} (he : ec ≤ 2) (h : FW P ec S) (h' : FW P ec S') : (ceLo ec S = ceLo ec S' ∧ ceHi ec S = ceHi ec S') ↔ ceE S S' := by
  have a := h.2.1 1 (by decide)
  have a' := h'.2.1 1 (by decide)
  unfold ceLo ceHi ceE
  by_cases z : ec = 2
  · simp only [z, true_and]
    split <;> split <;> omega
  · have b := a (by omega)
    have b' := a' (by omega)
    rw [if_neg (by omega), if_neg (by omega), if_neg (by omega), if_neg (by omega), b, b']
    omega
theorem ky_of {P : Pm} {ec : Nat} {S S' : St} (hP : okP P) (he : ec ≤ 2) (h : FW P ec S) (h' : FW P ec S') : (∀ j, j < 18 → kyF P ec S j = kyF P ec S' j) ↔ fkN S = fkN S' := by
  have o := h.ok hP
  have o' := h'.ok hP
  constructor
  · intro e
    have hC := hP.2.2.2.2.2.2.1
    have l4 : (colsT P S).map List.length = (colsT P S').map List.length := by
      refine getD_ext (by simp [colsT_len hP]) (fun j hj => ?_)
      rw [List.length_map, colsT_len hP] at hj
      have := e j (by omega)
      unfold kyF kyG at this
      rw [if_pos (by omega), if_pos (by omega)] at this
      exact this
    have fl : (colsT P S).flatMap (fun c => c.map (cdN (pR P))) = (colsT P S').flatMap (fun c => c.map (cdN (pR P))) := by
      refine getD_ext (by rw [flat_len, flat_len, l4]) (fun j hj => ?_)
      rw [flat_len] at hj
      have h12 := colsT_12 hP h
      have := e (j + 4) (by omega)
      unfold kyF kyG at this
      rw [if_neg (by omega), if_pos (by omega), if_neg (by omega), if_pos (by omega), Nat.add_sub_cancel] at this
      exact this
    have cd : ∀ x y : Nat, cdN (pR P) x = cdN (pR P) y → x = y := fun x y => cdN_inj hP.2.2.1 hP.2.2.2.1
    have ec1 : colsT P S = colsT P S' := map_inj _ _ (fun x _ y _ q => map_inj x y (fun a _ b _ => cd a b) q) (flat_split _ _ _ l4 fl)
    have e16 := e 16 (by decide)
    have e17 := e 17 (by decide)
    unfold kyF kyG at e16 e17
    simp only [show ¬ (16 < 4) by decide, show ¬ (16 < 16) by decide, show ¬ (17 < 4) by decide, show ¬ (17 < 16) by decide, show ¬ (17 = 16) by decide, if_true, if_false] at e16 e17
    exact ms_like o o' (colsT_ms hP h.1 h'.1 ec1) ((ce_of he h h').mp ⟨cd _ _ e16, cd _ _ e17⟩)
  · intro e j hj
    obtain ⟨m, c⟩ := like_ms o o' e
    obtain ⟨c1, c2⟩ := (ce_of he h h').mpr c
    unfold kyF
    rw [ms_colsT hP o o' h.1 h'.1 m, c1, c2]
/-- the stand that a key tells -/
def cnS (P : Pm) (ec : Nat) (S : St) : St := (fun k => (colsT P S).getD k [], fun j => if j = 0 then ceLo ec S else ceHi ec S, S.2.2)
theorem getD4 (f : List Nat → Nat) (C : List (List Nat)) (h : C.length ≤ 4) : f (C.getD 0 []) + f (C.getD 1 []) + f (C.getD 2 []) + f (C.getD 3 []) = (C.map f).sum + (4 - C.length) * f [] := by
  match C with
  | [] => simp; omega
  | [a] => simp; omega
  | [a, b] => simp; omega
  | [a, b, c] => simp; omega
  | [a, b, c, d] => simp; omega
  | _ :: _ :: _ :: _ :: _ :: _ => simp at h
theorem cnS_ms {P : Pm} {ec : Nat} {S : St} (hP : okP P) (w : ∀ i, i < 4 → pC P ≤ i → S.1 i = []) : msE S (cnS P ec S) := fun f => by
  have hC := hP.2.2.2.2.2.2.1
  have e := getD4 f (colsT P S) (by rw [colsT_len hP]; omega)
  rw [colsT_len hP, colsT_sum hP w] at e
  exact e.symm
theorem cnS_ce {P : Pm} {ec : Nat} {S : St} : ceE S (cnS P ec S) := by
  show max _ _ = max (ceLo ec S) (ceHi ec S) ∧ min _ _ = min (ceLo ec S) (ceHi ec S)
  unfold ceLo ceHi
  split <;> omega
theorem cnS_fw {P : Pm} {ec : Nat} {S : St} (hP : okP P) (he : ec ≤ 2) (h : FW P ec S) : FW P ec (cnS P ec S) := by
  have hC := hP.2.2.2.2.2.2.1
  obtain ⟨a, b, c, d, e, f⟩ := id h
  have b1 := b 1 (by decide)
  have b0 := b 0 (by decide)
  have e0 := e 0 (by decide)
  have e1 := e 1 (by decide)
  have cm := fun (n : Nat) => cnS_ms (ec := ec) hP a (fun l => l.count n)
  refine ⟨fun i hi hc => ?_, fun j hj hc => ?_, c, fun i hi x hx => ?_, fun j hj => ?_, fun n n1 n2 => ?_⟩
  · show (colsT P S).getD i [] = []
    rw [List.getD_eq_getElem?_getD, List.getElem?_eq_none (by rw [colsT_len hP]; exact hc)]; rfl
  · show (if j = 0 then ceLo ec S else ceHi ec S) = 0
    unfold ceLo ceHi
    split <;> split <;> omega
  · have hx' : x ∈ (colsT P S).getD i [] := hx
    by_cases z : i < (colsT P S).length
    · rw [List.getD_eq_getElem?_getD, List.getElem?_eq_getElem z] at hx'
      obtain ⟨q, q1, q2, q3⟩ := colsT_mem (List.getElem_mem z)
      rw [q3] at hx'
      exact d q q1 x hx'
    · rw [List.getD_eq_getElem?_getD, List.getElem?_eq_none (by omega)] at hx'
      cases hx'
  · show (if j = 0 then ceLo ec S else ceHi ec S) ≤ _
    unfold ceLo ceHi
    split <;> split <;> assumption
  · have := f n n1 n2
    have g := cm n
    unfold cc at this ⊢
    have h2 : inHo P (cnS P ec S) n = inHo P S n := rfl
    have h3 : (if (cnS P ec S).2.1 0 = n then 1 else 0) + (if (cnS P ec S).2.1 1 = n then 1 else 0) = (if S.2.1 0 = n then 1 else 0) + (if S.2.1 1 = n then 1 else 0) := by
      show (if ceLo ec S = n then 1 else 0) + (if ceHi ec S = n then 1 else 0) = _
      unfold ceLo ceHi
      split <;> omega
    rw [h2]
    omega
theorem cnS_fk {P : Pm} {ec : Nat} {S : St} (hP : okP P) (he : ec ≤ 2) (h : FW P ec S) : fkN (cnS P ec S) = fkN S := (ms_like (h.ok hP) ((cnS_fw hP he h).ok hP) (cnS_ms hP h.1) cnS_ce).symm
/-- done: nothing lies but in the houses -/
theorem cP_nil {P : Pm} (hP : okP P) {l : List Nat} (hd : ∀ d ∈ l, 1 ≤ d ∧ d ≤ pS P * pR P) (h : ∀ t, t < 4 → cP (pR P) t l = 0) : l = [] := by
  cases l with
  | nil => rfl
  | cons x l =>
    exfalso
    have hx := hd x List.mem_cons_self
    have hs := su_lt hP.2.2.1 hx.1 hx.2
    have := h (su (pR P) x) (by have := hP.2.1; omega)
    unfold cP at this
    rw [List.countP_eq_zero] at this
    have := this x List.mem_cons_self
    simp at this
    omega
theorem dn_iff {P : Pm} {ec : Nat} {S : St} (hP : okP P) (h : FW P ec S) : dnS P S ↔ (∀ i, i < 4 → S.1 i = []) ∧ S.2.1 0 = 0 ∧ S.2.1 1 = 0 := by
  have hA := h.allK hP
  have h1 := hP.1
  have h2 := hP.2.1
  have a0 := hA 0 (by decide)
  have a1 := hA 1 (by decide)
  have a2 := hA 2 (by decide)
  have a3 := hA 3 (by decide)
  have es : (if 0 < pS P then pR P else 0) + (if 1 < pS P then pR P else 0) + (if 2 < pS P then pR P else 0) + (if 3 < pS P then pR P else 0) = pS P * pR P := by
    rcases (show pS P = 1 ∨ pS P = 2 ∨ pS P = 3 ∨ pS P = 4 by omega) with q | q | q | q <;> rw [q] <;> simp <;> omega
  unfold dnS hoS
  constructor
  · intro hd
    have z : ∀ t, t < 4 → cP (pR P) t (DS S) = 0 := by
      intro t ht
      rcases (show t = 0 ∨ t = 1 ∨ t = 2 ∨ t = 3 by omega) with rfl | rfl | rfl | rfl <;> omega
    have z' : ∀ t, t < 4 → cP (pR P) t (S.1 0) = 0 ∧ cP (pR P) t (S.1 1) = 0 ∧ cP (pR P) t (S.1 2) = 0 ∧ cP (pR P) t (S.1 3) = 0 ∧ cP (pR P) t [S.2.1 0] = 0 ∧ cP (pR P) t [S.2.1 1] = 0 := fun t ht => by
      have := z t ht
      rw [cP_DS] at this
      omega
    have ce : ∀ j, j < 2 → (∀ t, t < 4 → cP (pR P) t [S.2.1 j] = 0) → S.2.1 j = 0 := fun j hj q => by
      refine Classical.byContradiction (fun y => ?_)
      have := cP_nil hP (l := [S.2.1 j]) (fun d hd => by
        rw [List.mem_singleton] at hd
        rw [hd]
        exact ⟨by omega, h.2.2.2.2.1 j hj⟩) q
      cases this
    refine ⟨fun i hi => cP_nil hP (h.2.2.2.1 i hi) (fun t ht => ?_), ce 0 (by decide) (fun t ht => (z' t ht).2.2.2.2.1), ce 1 (by decide) (fun t ht => (z' t ht).2.2.2.2.2)⟩
    have := z' t ht
    rcases (show i = 0 ∨ i = 1 ∨ i = 2 ∨ i = 3 by omega) with rfl | rfl | rfl | rfl
    · exact this.1
    · exact this.2.1
    · exact this.2.2.1
    · exact this.2.2.2.1
  · rintro ⟨c, d, e⟩
    have z : ∀ t, cP (pR P) t (DS S) = 0 := fun t => by
      rw [cP_DS, c 0 (by decide), c 1 (by decide), c 2 (by decide), c 3 (by decide), d, e]
      simp [cP]
    rw [z] at a0 a1 a2 a3
    omega
theorem ky_done {P : Pm} {ec : Nat} {S : St} (hP : okP P) (h : FW P ec S) : dnS P S ↔ (kyF P ec S 0 = 0 ∧ kyF P ec S 1 = 0 ∧ kyF P ec S 2 = 0 ∧ kyF P ec S 3 = 0 ∧ kyF P ec S 16 = 0 ∧ kyF P ec S 17 = 0) := by
  have hC := hP.2.2.2.2.2.2.1
  have k4 : ∀ j, j < 4 → kyF P ec S j = ((colsT P S).map List.length).getD j 0 := fun j hj => by unfold kyF kyG; rw [if_pos hj]
  have k16 : kyF P ec S 16 = cdN (pR P) (ceLo ec S) := rfl
  have k17 : kyF P ec S 17 = cdN (pR P) (ceHi ec S) := rfl
  rw [dn_iff hP h, k16, k17, cdN_0, cdN_0]
  have ecl : (S.2.1 0 = 0 ∧ S.2.1 1 = 0) ↔ (ceLo ec S = 0 ∧ ceHi ec S = 0) := by unfold ceLo ceHi; split <;> omega
  have eco : (∀ i, i < 4 → S.1 i = []) ↔ (∀ j, j < 4 → kyF P ec S j = 0) := by
    constructor
    · intro q j hj
      rw [k4 j hj]
      by_cases z : j < (colsT P S).length
      · rw [List.getD_eq_getElem?_getD, List.getElem?_map, List.getElem?_eq_getElem z]
        obtain ⟨i, i1, i2, i3⟩ := colsT_mem (List.getElem_mem z)
        show ((colsT P S)[j]).length = 0
        rw [i3, q i i1]; rfl
      · rw [List.getD_eq_getElem?_getD, List.getElem?_eq_none (by rw [List.length_map]; omega)]; rfl
    · intro q i hi
      by_cases z : i < pC P
      · obtain ⟨j, hj, ej⟩ := List.mem_iff_getElem.mp (colsT_in hP (S := S) z)
        have hj' : j < pC P := by rw [colsT_len hP] at hj; exact hj
        have := q j (by omega)
        rw [k4 j (by omega), List.getD_eq_getElem?_getD, List.getElem?_map, List.getElem?_eq_getElem hj] at this
        have t : ((colsT P S)[j]).length = 0 := this
        rw [ej] at t
        exact List.length_eq_zero_iff.mp t
      · exact h.1 i hi (by omega)
  rw [ecl, eco]
  constructor
  · rintro ⟨a, b, c⟩
    exact ⟨a 0 (by decide), a 1 (by decide), a 2 (by decide), a 3 (by decide), b, c⟩
  · rintro ⟨a0, a1, a2, a3, b, c⟩
    refine ⟨fun j hj => ?_, b, c⟩
    rcases (show j = 0 ∨ j = 1 ∨ j = 2 ∨ j = 3 by omega) with rfl | rfl | rfl | rfl <;> assumption
