/-! THE PURE MACHINE: a memory of ints and longs by place and index, blocks of instructions, what must hold ahead of a block -/
/-- the words of the tables that stay while the machine runs -/
def pm_TB : List Cond := lw_tbl.filter goodWord
theorem pm_TB_of {w : Cond} (h : w ∈ lw_tbl) (hg : goodWord w = true) : w ∈ pm_TB := List.mem_filter.mpr ⟨h, hg⟩
def pm_iT (w : Cond) : Bool := goodWord w && lw_tbl.contains w
theorem pm_iT_in {w : Cond} (h : pm_iT w = true) : w ∈ pm_TB := by
  simp only [pm_iT, Bool.and_eq_true, List.contains_iff_mem] at h
  exact pm_TB_of h.2 h.1
theorem pm_TB_in {w : Cond} (h : w ∈ pm_TB) : w ∈ lw_tbl := (List.mem_filter.mp h).1
theorem pm_TB_good {w : Cond} (h : w ∈ pm_TB) : (w.onTables && w.keeps) = true ∨ ∃ ty, w = .arrayClass ty := good_of_word (List.mem_filter.mp h).2
/-- the links between nest mates: they stay too, by rows of their own -/
def pm_nest : Cond → Bool
  | .fieldLinkNest .. => true
  | .methodLinkNest .. => true
  | _ => false
def pm_NB : List Cond := lw_tbl.filter pm_nest
def pm_iN (w : Cond) : Bool := pm_nest w && lw_tbl.contains w
theorem pm_iN_in {w : Cond} (h : pm_iN w = true) : w ∈ pm_NB := by
  simp only [pm_iN, Bool.and_eq_true, List.contains_iff_mem] at h
  exact List.mem_filter.mpr ⟨h.2, h.1⟩
def pm_NW (U : State) : Prop := ∀ w ∈ pm_NB, va_Nw w U
theorem pm_NW.warm {s U : State} (hW : s.WarmedH U.vm) (h : pm_NW s) : pm_NW U := by
  intro w hw
  have hn := (List.mem_filter.mp hw).2
  have h1 := h w hw
  unfold pm_nest at hn
  split at hn
  · exact va_Nw.warmF hW h1
  · exact va_Nw.warmM hW h1
  · cases hn
theorem pm_NW.same {u U : State} (e : u.vm = U.vm) (h : pm_NW u) : pm_NW U := by
  intro w hw
  have hn := (List.mem_filter.mp hw).2
  have h1 := h w hw
  unfold pm_nest at hn
  split at hn
  · exact va_Nw.same rfl e h1
  · exact va_Nw.same rfl e h1
  · cases hn
abbrev pm_cl : List vw_C := [(RX0, TX0, 8), (RX1, TX1, 4), (RX2, TX2, 2), (RX3, TX3, 9), (RX4, TX4, 7), (RX5, TX5, 4), (RX6, TX6, 10), (RX7, TX7, 42)]
/-- ints, longs -/
abbrev pm_M : Type := (Nat → Nat → Int32) × (Nat → Nat → Int64)
/-- a place: an array of the type t (0 int, 1 byte, 2 boolean, 3 short, 4 long) of n; an array of references to places; an object of the class ci with its fields (none: an int; some q: a reference to the place q) -/
abbrev pm_S : Type := (Nat × Nat) ⊕ (List Nat ⊕ (Nat × List (Option Nat)))
abbrev pm_L : Type := List (Nat × Value)
/-- what a method does: what must hold ahead of it so that k holds of its answer and the memory behind it -/
abbrev pm_T : Type := List Value → pm_M → (Option Value → pm_M → Prop) → Prop
/-- an instruction: pc, itself, its bytes, numbers looked up ahead (2), its targets with the locals that live there -/
abbrev pm_I : Type := Nat × Instr × Nat × Nat × Nat × List (Nat × List Nat)
/-- a block: its instructions, what follows -/
abbrev pm_B : Type := List pm_I × (Nat × List Nat)
/-- a call: static, index, the receiver's class, how many arguments (the receiver too), what it returns, what it does -/
abbrev pm_C : Type := Bool × Nat × Nat × Nat × Option FieldType × pm_T
abbrev pm_X : Type := Nat → pm_L → List Value → pm_M → Prop
abbrev pm_K : Type := pm_L → List Value → pm_M → Prop
def pm_set (M : pm_M) (q i : Nat) (v : Int32) : pm_M := (fun a j => if a = q ∧ j = i then v else M.1 a j, M.2)
def pm_setL (M : pm_M) (q i : Nat) (v : Int64) : pm_M := (M.1, fun a j => if a = q ∧ j = i then v else M.2 a j)
/-- n of the ints of q0 from a on come to q1 from b on -/
def pm_cpy (M : pm_M) (q0 a q1 b n : Nat) : pm_M := (fun q j => if q = q1 ∧ b ≤ j ∧ j < b + n then M.1 q0 (a + (j - b)) else M.1 q j, M.2)
def pm_cpyL (M : pm_M) (q0 a q1 b n : Nat) : pm_M := (M.1, fun q j => if q = q1 ∧ b ≤ j ∧ j < b + n then M.2 q0 (a + (j - b)) else M.2 q j)
def pm_c (a b : Nat) : Int32 := if b = 0 then nI a else -nI a
def pm_laws : List Int32 := [1, 3, 5, 11, 21]
-- the locals
def pm_lk : pm_L → Nat → Option Value
  | [], _ => none
  | (j, v) :: r, i => if i = j then some v else pm_lk r i
def pm_rm (i : Nat) : pm_L → pm_L
  | [] => []
  | (j, v) :: r => if j = i then pm_rm i r else if j + 1 = i then (if v.category = 2 then pm_rm i r else (j, v) :: pm_rm i r) else (j, v) :: pm_rm i r
def pm_rs : List Nat → pm_L → pm_L
  | [], _ => []
  | i :: is, lv => match pm_lk lv i with
    | some v => (i, v) :: pm_rs is lv
    | none => pm_rs is lv
theorem pm_lk_in {lv : pm_L} {i : Nat} {v : Value} (h : pm_lk lv i = some v) : (i, v) ∈ lv := by
  induction lv with
  | nil => cases h
  | cons a r ih =>
    obtain ⟨j, w⟩ := a
    unfold pm_lk at h
    split at h
    · next e => cases h; subst e; exact List.mem_cons_self
    · exact List.mem_cons_of_mem _ (ih h)
theorem pm_rm_in {lv : pm_L} {i : Nat} {q : Nat × Value} (h : q ∈ pm_rm i lv) : q ∈ lv ∧ q.1 ≠ i ∧ ¬ (q.1 + 1 = i ∧ q.2.category = 2) := by
  induction lv with
  | nil => cases h
  | cons a r ih =>
    obtain ⟨j, w⟩ := a
    unfold pm_rm at h
    split at h
    · exact ⟨List.mem_cons_of_mem _ (ih h).1, (ih h).2⟩
    · next n1 =>
      split at h
      · split at h
        · exact ⟨List.mem_cons_of_mem _ (ih h).1, (ih h).2⟩
        · next n2 =>
          rcases List.mem_cons.mp h with e | e
          · subst e; exact ⟨List.mem_cons_self, n1, fun x => n2 x.2⟩
          · exact ⟨List.mem_cons_of_mem _ (ih e).1, (ih e).2⟩
      · next n2 =>
        rcases List.mem_cons.mp h with e | e
        · subst e; exact ⟨List.mem_cons_self, n1, fun x => n2 x.1⟩
        · exact ⟨List.mem_cons_of_mem _ (ih e).1, (ih e).2⟩
theorem pm_rs_in {is : List Nat} {lv : pm_L} {q : Nat × Value} (h : q ∈ pm_rs is lv) : q ∈ lv := by
  induction is with
  | nil => cases h
  | cons i is ih =>
    unfold pm_rs at h
    split at h
    · next v e =>
      rcases List.mem_cons.mp h with x | x
      · subst x; exact pm_lk_in e
      · exact ih x
    · exact ih h
-- the stack
def pm_i (st : List Value) (f : Int32 → List Value → Prop) : Prop := match st with | .int x :: r => f x r | _ => False
def pm_ii (st : List Value) (f : Int32 → Int32 → List Value → Prop) : Prop := match st with | .int y :: .int x :: r => f x y r | _ => False
def pm_l (st : List Value) (f : Int64 → List Value → Prop) : Prop := match st with | .long x :: r => f x r | _ => False
def pm_ll (st : List Value) (f : Int64 → Int64 → List Value → Prop) : Prop := match st with | .long y :: .long x :: r => f x y r | _ => False
def pm_li (st : List Value) (f : Int64 → Int32 → List Value → Prop) : Prop := match st with | .int y :: .long x :: r => f x y r | _ => False
def pm_r (st : List Value) (f : Nat → List Value → Prop) : Prop := match st with | .ref q :: r => f q r | _ => False
def pm_ri (st : List Value) (f : Nat → Int32 → List Value → Prop) : Prop := match st with | .int i :: .ref q :: r => f q i r | _ => False
def pm_rii (st : List Value) (f : Nat → Int32 → Int32 → List Value → Prop) : Prop := match st with | .int x :: .int i :: .ref q :: r => f q i x r | _ => False
def pm_ril (st : List Value) (f : Nat → Int32 → Int64 → List Value → Prop) : Prop := match st with | .long x :: .int i :: .ref q :: r => f q i x r | _ => False
def pm_si (st : List Value) (f : Int32 → List Value → Prop) : Prop := match st with | .int i :: .retAddr _ :: r => f i r | _ => False
def pm_v1 (st : List Value) (f : Value → List Value → Prop) : Prop := match st with | v :: r => v.category = 1 ∧ f v r | _ => False
def pm_v2 (st : List Value) (f : Value → Value → List Value → Prop) : Prop := match st with | v :: w :: r => v.category = 1 ∧ w.category = 1 ∧ f v w r | _ => False
def pm_v3 (st : List Value) (f : Value → Value → Value → List Value → Prop) : Prop := match st with | v :: w :: x :: r => v.category = 1 ∧ w.category = 1 ∧ x.category = 1 ∧ f v w x r | _ => False
def pm_cp (st : List Value) (f : Nat → Int32 → Nat → Int32 → Int32 → List Value → Prop) : Prop := match st with | .int n :: .int b :: .ref q1 :: .int a :: .ref q0 :: r => f q0 a q1 b n r | _ => False
theorem pm_i_e {st : List Value} {f : Int32 → List Value → Prop} (h : pm_i st f) : ∃ x r, st = .int x :: r ∧ f x r := by
  unfold pm_i at h; split at h
  · exact ⟨_, _, rfl, h⟩
  · exact h.elim
theorem pm_ii_e {st : List Value} {f : Int32 → Int32 → List Value → Prop} (h : pm_ii st f) : ∃ x y r, st = .int y :: .int x :: r ∧ f x y r := by
  unfold pm_ii at h; split at h
  · exact ⟨_, _, _, rfl, h⟩
  · exact h.elim
theorem pm_l_e {st : List Value} {f : Int64 → List Value → Prop} (h : pm_l st f) : ∃ x r, st = .long x :: r ∧ f x r := by
  unfold pm_l at h; split at h
  · exact ⟨_, _, rfl, h⟩
  · exact h.elim
theorem pm_ll_e {st : List Value} {f : Int64 → Int64 → List Value → Prop} (h : pm_ll st f) : ∃ x y r, st = .long y :: .long x :: r ∧ f x y r := by
  unfold pm_ll at h; split at h
  · exact ⟨_, _, _, rfl, h⟩
  · exact h.elim
theorem pm_li_e {st : List Value} {f : Int64 → Int32 → List Value → Prop} (h : pm_li st f) : ∃ x y r, st = .int y :: .long x :: r ∧ f x y r := by
  unfold pm_li at h; split at h
  · exact ⟨_, _, _, rfl, h⟩
  · exact h.elim
theorem pm_r_e {st : List Value} {f : Nat → List Value → Prop} (h : pm_r st f) : ∃ q r, st = .ref q :: r ∧ f q r := by
  unfold pm_r at h; split at h
  · exact ⟨_, _, rfl, h⟩
  · exact h.elim
theorem pm_ri_e {st : List Value} {f : Nat → Int32 → List Value → Prop} (h : pm_ri st f) : ∃ q i r, st = .int i :: .ref q :: r ∧ f q i r := by
  unfold pm_ri at h; split at h
  · exact ⟨_, _, _, rfl, h⟩
  · exact h.elim
theorem pm_rii_e {st : List Value} {f : Nat → Int32 → Int32 → List Value → Prop} (h : pm_rii st f) : ∃ q i x r, st = .int x :: .int i :: .ref q :: r ∧ f q i x r := by
  unfold pm_rii at h; split at h
  · exact ⟨_, _, _, _, rfl, h⟩
  · exact h.elim
theorem pm_ril_e {st : List Value} {f : Nat → Int32 → Int64 → List Value → Prop} (h : pm_ril st f) : ∃ q i x r, st = .long x :: .int i :: .ref q :: r ∧ f q i x r := by
  unfold pm_ril at h; split at h
  · exact ⟨_, _, _, _, rfl, h⟩
  · exact h.elim
theorem pm_si_e {st : List Value} {f : Int32 → List Value → Prop} (h : pm_si st f) : ∃ i n r, st = .int i :: .retAddr n :: r ∧ f i r := by
  unfold pm_si at h; split at h
  · exact ⟨_, _, _, rfl, h⟩
  · exact h.elim
theorem pm_v1_e {st : List Value} {f : Value → List Value → Prop} (h : pm_v1 st f) : ∃ v r, st = v :: r ∧ v.category = 1 ∧ f v r := by
  unfold pm_v1 at h; split at h
  · exact ⟨_, _, rfl, h⟩
  · exact h.elim
theorem pm_v2_e {st : List Value} {f : Value → Value → List Value → Prop} (h : pm_v2 st f) : ∃ v w r, st = v :: w :: r ∧ v.category = 1 ∧ w.category = 1 ∧ f v w r := by
  unfold pm_v2 at h; split at h
  · exact ⟨_, _, _, rfl, h⟩
  · exact h.elim
theorem pm_v3_e {st : List Value} {f : Value → Value → Value → List Value → Prop} (h : pm_v3 st f) : ∃ v w x r, st = v :: w :: x :: r ∧ v.category = 1 ∧ w.category = 1 ∧ x.category = 1 ∧ f v w x r := by
  unfold pm_v3 at h; split at h
  · exact ⟨_, _, _, _, rfl, h⟩
  · exact h.elim
theorem pm_cp_e {st : List Value} {f : Nat → Int32 → Nat → Int32 → Int32 → List Value → Prop} (h : pm_cp st f) : ∃ q0 a q1 b n r, st = .int n :: .int b :: .ref q1 :: .int a :: .ref q0 :: r ∧ f q0 a q1 b n r := by
  unfold pm_cp at h; split at h
  · exact ⟨_, _, _, _, _, _, rfl, h⟩
  · exact h.elim
-- loads
def pm_ldi (lv : pm_L) (i : Nat) (f : Int32 → Prop) : Prop := match pm_lk lv i with | some (.int x) => f x | _ => False
def pm_ldl (lv : pm_L) (i : Nat) (f : Int64 → Prop) : Prop := match pm_lk lv i with | some (.long x) => f x | _ => False
def pm_ldr (lv : pm_L) (i : Nat) (f : Nat → Prop) : Prop := match pm_lk lv i with | some (.ref x) => f x | _ => False
theorem pm_ldi_e {lv : pm_L} {i : Nat} {f : Int32 → Prop} (h : pm_ldi lv i f) : ∃ x, (i, Value.int x) ∈ lv ∧ f x := by
  unfold pm_ldi at h; split at h
  · next e => exact ⟨_, pm_lk_in e, h⟩
  · exact h.elim
theorem pm_ldl_e {lv : pm_L} {i : Nat} {f : Int64 → Prop} (h : pm_ldl lv i f) : ∃ x, (i, Value.long x) ∈ lv ∧ f x := by
  unfold pm_ldl at h; split at h
  · next e => exact ⟨_, pm_lk_in e, h⟩
  · exact h.elim
theorem pm_ldr_e {lv : pm_L} {i : Nat} {f : Nat → Prop} (h : pm_ldr lv i f) : ∃ x, (i, Value.ref x) ∈ lv ∧ f x := by
  unfold pm_ldr at h; split at h
  · next e => exact ⟨_, pm_lk_in e, h⟩
  · exact h.elim
-- shapes
def pm_arr (SH : List pm_S) (q : Nat) (f : Nat → Nat → Prop) : Prop := match SH[q]? with | some (.inl (t, n)) => f t n | _ => False
def pm_refs (SH : List pm_S) (q : Nat) (f : List Nat → Prop) : Prop := match SH[q]? with | some (.inr (.inl ps)) => f ps | _ => False
def pm_obj (SH : List pm_S) (q ci : Nat) (f : List (Option Nat) → Prop) : Prop := match SH[q]? with | some (.inr (.inr (cj, fs))) => cj = ci ∧ f fs | _ => False
theorem pm_arr_e {SH : List pm_S} {q : Nat} {f : Nat → Nat → Prop} (h : pm_arr SH q f) : ∃ t n, SH[q]? = some (.inl (t, n)) ∧ f t n := by
  unfold pm_arr at h; split at h
  · next e => exact ⟨_, _, e, h⟩
  · exact h.elim
theorem pm_refs_e {SH : List pm_S} {q : Nat} {f : List Nat → Prop} (h : pm_refs SH q f) : ∃ ps, SH[q]? = some (.inr (.inl ps)) ∧ f ps := by
  unfold pm_refs at h; split at h
  · next e => exact ⟨_, e, h⟩
  · exact h.elim
theorem pm_obj_e {SH : List pm_S} {q ci : Nat} {f : List (Option Nat) → Prop} (h : pm_obj SH q ci f) : ∃ fs, SH[q]? = some (.inr (.inr (ci, fs))) ∧ f fs := by
  unfold pm_obj at h; split at h
  · next e => obtain ⟨rfl, h⟩ := h; exact ⟨_, e, h⟩
  · exact h.elim
/-- a field's value -/
def pm_fv (M : pm_M) (q k : Nat) : Option Nat → Value
  | none => .int (M.1 q k)
  | some r => .ref r
def pm_fld (fs : List (Option Nat)) (k : Nat) (f : Option Nat → Prop) : Prop := match fs[k]? with | some x => f x | none => False
theorem pm_fld_e {fs : List (Option Nat)} {k : Nat} {f : Option Nat → Prop} (h : pm_fld fs k f) : ∃ x, fs[k]? = some x ∧ f x := by
  unfold pm_fld at h; split at h
  · next e => exact ⟨_, e, h⟩
  · exact h.elim
/-- a jump -/
def pm_go (X : pm_X) (ts : List (Nat × List Nat)) (lv : pm_L) (st : List Value) (M : pm_M) : Prop := match ts with | (t, is) :: _ => X t (pm_rs is lv) st M | [] => False
def pm_sw (X : pm_X) (x : Int32) : Int → List (Nat × List Nat) → pm_L → List Value → pm_M → Prop
  | _, [], _, _, _ => True
  | lo, (t, is) :: ts, lv, st, M => (x.toInt = lo → X t (pm_rs is lv) st M) ∧ pm_sw X x (lo + 1) ts lv st M
def pm_recv (SH : List pm_S) (c : pm_C) (as : List Value) : Prop := match as with | .ref q :: _ => pm_obj SH q c.2.2.1 (fun _ => True) | _ => False
def pm_call (SH : List pm_S) (c : pm_C) (st : List Value) (M : pm_M) (K : List Value → pm_M → Prop) : Prop :=
  c.2.2.2.1 ≤ st.length ∧ (c.1 = false → pm_recv SH c (st.take c.2.2.2.1).reverse) ∧ ((st.drop c.2.2.2.1).map fun v => v.category).sum ≤ 8 ∧ c.2.2.2.2.2 (st.take c.2.2.2.1).reverse M (fun r M' => K (r.toList ++ st.drop c.2.2.2.1) M')
