/-! numbers: nI, lN; the rows that carry a bound take it by omega -/
theorem ni_eq0 {a : Nat} (h : a < 2 ^ 31) : (nI a = 0) = (a = 0) := propext (by rw [← nI_0]; exact nI_eq h (by omega))
theorem ni_eq1 {a : Nat} (h : a < 2 ^ 31) : (nI a = 1) = (a = 1) := propext (by rw [show (1 : Int32) = nI 1 from rfl]; exact nI_eq h (by omega))
theorem ni_lt0 {a : Nat} (h : a < 2 ^ 31) : (nI a < 0) = False := propext (by rw [← nI_0, nI_ltI h (by omega)]; simp)
theorem ni_0le {a : Nat} (h : a < 2 ^ 31) : (0 ≤ nI a) = True := propext (by rw [← nI_0, nI_leI (by omega) h]; simp)
theorem ni_0lt {a : Nat} (h : a < 2 ^ 31) : (0 < nI a) = (0 < a) := propext (by rw [← nI_0, nI_ltI (by omega) h])
theorem ni_le0 {a : Nat} (h : a < 2 ^ 31) : (nI a ≤ 0) = (a = 0) := propext (by rw [← nI_0, nI_leI h (by omega)]; omega)
theorem ni_lt {a b : Nat} (ha : a < 2 ^ 31) (hb : b < 2 ^ 31) : (nI a < nI b) = (a < b) := propext (nI_ltI ha hb)
theorem ni_le {a b : Nat} (ha : a < 2 ^ 31) (hb : b < 2 ^ 31) : (nI a ≤ nI b) = (a ≤ b) := propext (nI_leI ha hb)
theorem ni_eq {a b : Nat} (ha : a < 2 ^ 31) (hb : b < 2 ^ 31) : (nI a = nI b) = (a = b) := propext (nI_eq ha hb)
theorem ni_in {a n : Nat} (h : a < 2 ^ 31) : vp_in (nI a) n = (a < n) := propext (by rw [vp_in_iff, nI_toInt h]; omega)
theorem ni_cl {a : Nat} (h : a < 2 ^ 31) : (nI a).toNatClampNeg = a := nI_clamp h
theorem ni_add (a b : Nat) : nI a + nI b = nI (a + b) := nI_add a b
theorem ni_mul (a b : Nat) : nI a * nI b = nI (a * b) := pk_mul a b
theorem ni_sub {a b : Nat} (h : b ≤ a) : nI a - nI b = nI (a - b) := pk_sub h
theorem ni_div {a d : Nat} (ha : a < 2 ^ 31) (h0 : 0 < d) (hd : d < 2 ^ 31) : nI a / nI d = nI (a / d) := pk_div ha h0 hd
theorem ni_rem {a d : Nat} (ha : a < 2 ^ 31) (h0 : 0 < d) (hd : d < 2 ^ 31) : nI a - nI a / nI d * nI d = nI (a % d) := pk_rem ha h0 hd
theorem ni_ne0 {a : Nat} (h : a < 2 ^ 31) (h0 : 0 < a) : (nI a = 0) = False := by rw [ni_eq0 h]; exact propext ⟨fun x => by omega, False.elim⟩
theorem ni_neg_lt {a b : Nat} (ha : a < 2 ^ 31) (hb : b < 2 ^ 31) : (nI b < -nI a) = False := propext (by
  rw [Int32.lt_iff_toInt_lt, sb_negT ha, nI_toInt hb]; constructor <;> intro h <;> first | omega | exact h.elim)
theorem ni_eq_neg {a b : Nat} (ha : a < 2 ^ 31) (hb : b < 2 ^ 31) (h0 : 0 < a) : (nI b = -nI a) = False := propext (by
  rw [← Int32.toInt_inj, sb_negT ha, nI_toInt hb]; constructor <;> intro h <;> first | omega | exact h.elim)
theorem ni_neg_eq {a b : Nat} (ha : a < 2 ^ 31) (hb : b < 2 ^ 31) (h0 : 0 < a) : (-nI a = nI b) = False := by rw [show (-nI a = nI b) = (nI b = -nI a) from propext eq_comm, ni_eq_neg ha hb h0]
theorem ni_0 : nI 0 = 0 := rfl
theorem ni_1 : nI 1 = 1 := rfl
/-- a number between two others -/
theorem ni_ex {x : Int32} {a b : Nat} (ha : a < 2 ^ 31) (hb : b < 2 ^ 31) (h1 : nI a ≤ x) (h2 : x ≤ nI b) : ∃ j, x = nI j ∧ a ≤ j ∧ j ≤ b := by
  have h0 : ¬ x < 0 := by
    rw [Int32.lt_iff_toInt_lt]
    rw [Int32.le_iff_toInt_le, nI_toInt ha] at h1
    show ¬ x.toInt < 0
    omega
  obtain ⟨j, hj, rfl⟩ := nI_of h0
  exact ⟨j, rfl, (nI_leI ha hj).mp h1, (nI_leI hj hb).mp h2⟩
/-- a truth as an int -/
def pb (b : Bool) : Int32 := if b then 1 else 0
theorem pb_t : pb true = 1 := rfl
theorem pb_f : pb false = 0 := rfl
theorem pb_eq0 {b : Bool} : (pb b = 0) = (b = false) := propext (by cases b <;> decide)
theorem pb_eq1 {b : Bool} : (pb b = 1) = (b = true) := propext (by cases b <;> decide)
theorem pb_01 {b : Bool} : (pb b = 0 ∨ pb b = 1) = True := propext (by cases b <;> decide)
def wi (n a b : Int32) : Bool := !decide (n < a) && !decide (b < n)
theorem wi_n {x a b : Nat} (hx : x < 2 ^ 31) (ha : a < 2 ^ 31) (hb : b < 2 ^ 31) : wi (nI x) (nI a) (nI b) = (decide (a ≤ x) && decide (x ≤ b)) := by
  simp only [wi, ni_lt hx ha, ni_lt hb hx, ← decide_not, Nat.not_lt]
theorem wi_ex {x : Int32} {a b : Nat} (ha : a < 2 ^ 31) (hb : b < 2 ^ 31) (h : wi x (nI a) (nI b) = true) : ∃ j, x = nI j ∧ a ≤ j ∧ j ≤ b := by
  simp only [wi, Bool.and_eq_true, Bool.not_eq_true', decide_eq_false_iff_not, Int32.not_lt] at h
  exact ni_ex ha hb h.1 h.2
theorem wi_no {x : Int32} {a b : Nat} (ha : a < 2 ^ 31) (hb : b < 2 ^ 31) (h : wi x (nI a) (nI b) = false) {j : Nat} (h1 : a ≤ j) (h2 : j ≤ b) : x ≠ nI j := by
  rintro rfl
  rw [wi_n (by omega) ha hb] at h
  simp at h
  omega
-- memory
theorem me_1 {M : pm_M} {q i a j : Nat} {v : Int32} : (pm_set M q i v).1 a j = if a = q ∧ j = i then v else M.1 a j := rfl
theorem me_2 {M : pm_M} {q i : Nat} {v : Int32} : (pm_set M q i v).2 = M.2 := rfl
theorem me_3 {M : pm_M} {q i : Nat} {v : Int64} : (pm_setL M q i v).1 = M.1 := rfl
theorem me_4 {M : pm_M} {q i a j : Nat} {v : Int64} : (pm_setL M q i v).2 a j = if a = q ∧ j = i then v else M.2 a j := rfl
/-- nothing but these places has changed -/
def pm_fr (ps : List Nat) (M M' : pm_M) : Prop := ∀ q, q ∉ ps → M'.1 q = M.1 q ∧ M'.2 q = M.2 q
theorem pm_fr.rfl {ps : List Nat} {M : pm_M} : pm_fr ps M M := fun _ _ => ⟨Eq.refl _, Eq.refl _⟩
theorem pm_fr.trans {ps : List Nat} {M M' M'' : pm_M} (h : pm_fr ps M M') (h' : pm_fr ps M' M'') : pm_fr ps M M'' := fun q hq => ⟨(h' q hq).1.trans (h q hq).1, (h' q hq).2.trans (h q hq).2⟩
theorem pm_fr.mono {ps qs : List Nat} {M M' : pm_M} (h : pm_fr ps M M') (hs : ∀ q ∈ ps, q ∈ qs) : pm_fr qs M M' := fun q hq => h q (fun x => hq (hs q x))
theorem pm_fr.set {ps : List Nat} {M M' : pm_M} {q i : Nat} {v : Int32} (h : pm_fr ps M M') (hq : q ∈ ps) : pm_fr ps M (pm_set M' q i v) := fun a ha => by
  have hn : a ≠ q := fun e => ha (e ▸ hq)
  refine ⟨?_, (h a ha).2⟩
  rw [← (h a ha).1]; funext j; simp [pm_set, hn]
theorem pm_fr.setL {ps : List Nat} {M M' : pm_M} {q i : Nat} {v : Int64} (h : pm_fr ps M M') (hq : q ∈ ps) : pm_fr ps M (pm_setL M' q i v) := fun a ha => by
  have hn : a ≠ q := fun e => ha (e ▸ hq)
  refine ⟨(h a ha).1, ?_⟩
  rw [← (h a ha).2]; funext j; simp [pm_setL, hn]
theorem pm_fr.i {ps : List Nat} {M M' : pm_M} (h : pm_fr ps M M') {q : Nat} (hq : q ∉ ps) (j : Nat) : M'.1 q j = M.1 q j := by rw [(h q hq).1]
theorem pm_fr.l {ps : List Nat} {M M' : pm_M} (h : pm_fr ps M M') {q : Nat} (hq : q ∉ ps) (j : Nat) : M'.2 q j = M.2 q j := by rw [(h q hq).2]
theorem pm_f2 : ((2 : Fin 4) : Nat) = 2 := rfl
theorem pm_f3 : ((3 : Fin 4) : Nat) = 3 := rfl
theorem ni_a1 {a : Nat} (h : a < 2 ^ 32) : nI a &&& nI 1 = nI (a % 2) := pk_andN h 1 (by decide)
theorem ni_a3 {a : Nat} (h : a < 2 ^ 32) : nI a &&& nI 3 = nI (a % 4) := pk_andN h 2 (by decide)
theorem ni_a7 {a : Nat} (h : a < 2 ^ 32) : nI a &&& nI 7 = nI (a % 8) := pk_andN h 3 (by decide)
theorem ni_a15 {a : Nat} (h : a < 2 ^ 32) : nI a &&& nI 15 = nI (a % 16) := pk_andN h 4 (by decide)
