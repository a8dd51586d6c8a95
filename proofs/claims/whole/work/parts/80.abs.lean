/-! THE DESK, AS MATHEMATICS: both sides are tied to this state and these functions -/
/-- the deck; the stand; which cards are laid; why; the stands kept, which of them is present, how many; the plan; the trays (kind, law, numbers); the status -/
abbrev Ab : Type := Pm × St × (Nat → Bool) × Nat × (Nat → St) × Nat × Nat × List Nat × (Nat → Nat × Nat × List Nat) × Nat
abbrev aP (A : Ab) : Pm := A.1
abbrev aS (A : Ab) : St := A.2.1
abbrev aL (A : Ab) : Nat → Bool := A.2.2.1
abbrev aW (A : Ab) : Nat := A.2.2.2.1
abbrev aH (A : Ab) : Nat → St := A.2.2.2.2.1
abbrev aPr (A : Ab) : Nat := A.2.2.2.2.2.1
abbrev aLa (A : Ab) : Nat := A.2.2.2.2.2.2.1
abbrev aPl (A : Ab) : List Nat := A.2.2.2.2.2.2.2.1
abbrev aT (A : Ab) : Nat → Nat × Nat × List Nat := A.2.2.2.2.2.2.2.2.1
abbrev aQ (A : Ab) : Nat := A.2.2.2.2.2.2.2.2.2
def okT (T : Nat × Nat × List Nat) : Prop := T.1 ≤ 4 ∧ T.2.1 ≤ 4 ∧ T.2.2.length ≤ 32 ∧ ∀ x ∈ T.2.2, x < 32
def okA (A : Ab) : Prop := okP (aP A) ∧ (∀ n, aL A n = true → 1 ≤ n ∧ n ≤ pS (aP A) * pR (aP A)) ∧ (aPr A ≤ aLa A ∧ aLa A ≤ 64) ∧ aH A (aPr A) = aS A ∧ (∀ i, i ≤ aLa A → WF (aP A) (pE (aP A)) (aL A) (aH A i)) ∧ (0 < aLa A → ∀ n, 1 ≤ n → n ≤ pS (aP A) * pR (aP A) → aL A n = true) ∧ ((aPl A).length ≤ 4000 ∧ ∀ x ∈ aPl A, x < 64) ∧ (∀ t, t < 6 → okT (aT A t)) ∧ aW A ≤ 5 ∧ aQ A ≤ 15
theorem okA.wf {A : Ab} (h : okA A) : WF (aP A) (pE (aP A)) (aL A) (aS A) := by rw [← h.2.2.2.1]; exact h.2.2.2.2.1 _ h.2.2.1.1
theorem WF.imp {P : Pm} {ec : Nat} {L L' : Nat → Bool} {S : St} (h : WF P ec L S) (hl : ∀ n, 1 ≤ n → n ≤ pS P * pR P → L n = L' n) : WF P ec L' S := by
  obtain ⟨a, b, c, d, e, f⟩ := h
  exact ⟨a, b, c, d, e, fun n n1 n2 => by rw [f n n1 n2, hl n n1 n2]⟩
/-- how many are laid -/
def lcn (A : Ab) : Nat := cnt 13 (aL A)
def alL (A : Ab) : Bool := decide (lcn A = pS (aP A) * pR (aP A))
theorem cnt_iff (p : Nat → Bool) : ∀ n, (cnt n p = n ↔ ∀ i, i < n → p i = true)
  | 0 => ⟨fun _ i hi => by omega, fun _ => rfl⟩
  | n + 1 => by
    have ih := cnt_iff p n
    have hl := cnt_le n p
    rw [cnt_s]
    by_cases z : p n = true
    · rw [if_pos z]
      constructor
      · intro h i hi
        by_cases y : i = n
        · rw [y]; exact z
        · exact ih.mp (by omega) i (by omega)
      · intro h
        have := ih.mpr (fun i hi => h i (by omega)); omega
    · rw [if_neg z]
      constructor
      · intro h; omega
      · intro h; exact absurd (h n (by omega)) z
theorem cnt_sh (p : Nat → Bool) : ∀ n, cnt (n + 1) p = (if p 0 = true then 1 else 0) + cnt n (fun i => p (i + 1))
  | 0 => by rw [cnt_s]; show 0 + _ = _ + 0; omega
  | n + 1 => by rw [cnt_s, cnt_sh p n, cnt_s]; omega
theorem cnt_cut (p : Nat → Bool) {m : Nat} : ∀ n, m ≤ n → (∀ i, m ≤ i → i < n → p i = false) → cnt n p = cnt m p
  | 0, h, _ => by rw [show m = 0 by omega]
  | n + 1, h, hp => by
    by_cases z : m = n + 1
    · rw [z]
    · rw [cnt_s, hp n (by omega) (by omega), cnt_cut p n (by omega) (fun i h1 h2 => hp i h1 (by omega))]; simp
theorem okA.lc {A : Ab} (h : okA A) : lcn A = cnt (pS (aP A) * pR (aP A)) (fun i => aL A (i + 1)) := by
  have h12 := h.1.2.2.2.2.1
  unfold lcn
  rw [cnt_cut (aL A) (m := pS (aP A) * pR (aP A) + 1) 13 (by omega) (fun i h1 h2 => ?_), cnt_sh]
  · have : aL A 0 ≠ true := fun z => by have := h.2.1 0 z; omega
    rw [if_neg this]; omega
  · cases q : aL A i with
    | false => rfl
    | true => have := h.2.1 i q; omega
theorem okA.al {A : Ab} (h : okA A) : alL A = true ↔ ∀ n, 1 ≤ n → n ≤ pS (aP A) * pR (aP A) → aL A n = true := by
  unfold alL
  rw [decide_eq_true_eq, h.lc, cnt_iff]
  constructor
  · intro q n n1 n2
    have := q (n - 1) (by omega)
    rwa [show n - 1 + 1 = n by omega] at this
  · intro q i hi; exact q (i + 1) (by omega) (by omega)
theorem okA.lcl {A : Ab} (h : okA A) : lcn A ≤ pS (aP A) * pR (aP A) := by rw [h.lc]; exact cnt_le _ _
theorem okA.fw {A : Ab} (h : okA A) (hl : alL A = true) : FW (aP A) (pE (aP A)) (aS A) := h.wf.imp (fun n n1 n2 => h.al.mp hl n n1 n2)
theorem okA.fwH {A : Ab} (h : okA A) (hl : alL A = true) {i : Nat} (hi : i ≤ aLa A) : FW (aP A) (pE (aP A)) (aH A i) := (h.2.2.2.2.1 i hi).imp (fun n n1 n2 => h.al.mp hl n n1 n2)
abbrev tn (x : Int32) : Nat := x.toNatClampNeg
def colOK (P : Pm) (x : Int32) : Bool := wi x (nI 0) (nI (pC P) - nI 1)
def fBegin (A : Ab) (s r c e l : Int32) : Int32 × Ab :=
  if (wi s (nI 1) (nI 4) && wi r (nI 1) (nI 6) && !decide (nI 12 < s * r)) && (wi c (nI 1) (nI 4) && wi e (nI 0) (nI 2)) && wi l (nI 0) (nI 4) then
    (nI (tn s * tn r), ((tn s, tn r, tn c, tn e, tn l), st00, fun _ => false, 0, fun _ => st00, 0, 0, [], aT A, aQ A))
  else (-nI 2, A)
def fLay (A : Ab) (x y z : Int32) : Int32 × Ab :=
  if colOK (aP A) x && (wi y (nI 0) (nI (pS (aP A)) - nI 1) && wi z (nI 1) (nI (pR (aP A)))) then
    if aL A (tn y * pR (aP A) + tn z) = true then (-nI 3, A)
    else (nI (lcn A + 1), (aP A, aPush (aS A) (tn x) (tn y * pR (aP A) + tn z), up (aL A) (tn y * pR (aP A) + tn z) true, aW A, fun _ => aPush (aS A) (tn x) (tn y * pR (aP A) + tn z), 0, 0, aPl A, aT A, aQ A))
  else (-nI 2, A)
def nxt (s : Int32) : Int32 := s * nI 1103515245 + nI 12345
def mkc (P : Pm) (s : Int32) : Nat := ((nxt s).toBitVec.toNat / 2 ^ 16) % pC P
def mkb (s : Int32) : Nat := (nxt s).toBitVec.toNat / 2 ^ 8 % 4
def mk1 (P : Pm) (q : Int32 × St) (d : Nat) : Int32 × St := (nxt q.1, aIns q.2 (mkc P q.1) d (min (mkb q.1) (q.2.1 (mkc P q.1)).length))
/-- t suits of the rank k -/
def mkC (P : Pm) (q : Int32 × St) (k : Nat) : Nat → Int32 × St
  | 0 => q
  | t + 1 => mk1 P (mkC P q k t) (t * pR P + k)
/-- k ranks -/
def mkR (P : Pm) (seed : Int32) : Nat → Int32 × St
  | 0 => (seed, st00)
  | k + 1 => mkC P (mkR P seed k) (k + 1) (pS P)
def fMake (A : Ab) (x : Int32) : Int32 × Ab :=
  (nI (pS (aP A) * pR (aP A)), (aP A, (mkR (aP A) x (pR (aP A))).2, fun n => decide (1 ≤ n ∧ n ≤ pS (aP A) * pR (aP A)), 0, fun _ => (mkR (aP A) x (pR (aP A))).2, 0, 0, [], aT A, aQ A))
/-- a stand more, kept -/
def kpA (A : Ab) (S : St) (w : Nat) : Ab := (aP A, S, aL A, w, kpH (aH A) (aPr A) S, min (aPr A + 1) 64, min (aPr A + 1) 64, aPl A, aT A, aQ A)
def fMove (A : Ab) (x y : Int32) : Int32 × Ab :=
  if nmF (nI (pC (aP A))) (nI (pE (aP A))) x y = true then
    if alL A = true then
      if whyF (aP A) (pE (aP A)) (aS A) (tn x) (tn y) = 0 then (nI 1, kpA A (aMv (aP A) (pE (aP A)) (aS A) (tn x) (tn y)) 0)
      else (nI 0, (aP A, aS A, aL A, whyF (aP A) (pE (aP A)) (aS A) (tn x) (tn y), aH A, aPr A, aLa A, aPl A, aT A, aQ A))
    else (-nI 3, A)
  else (-nI 2, A)
def fCarry (A : Ab) (x y z : Int32) : Int32 × Ab :=
  if colOK (aP A) x && colOK (aP A) y && !decide (x = y) && !decide (z < nI 1) then
    if alL A = true then
      if canF (aP A) (pE (aP A)) (aS A) (tn x) (tn y) (tn z) = true then (nI 1, kpA A (aRow (aS A) (tn x) (tn y) (tn z)) (aW A))
      else (nI 0, A)
    else (-nI 3, A)
  else (-nI 2, A)
/-- the first place from which a safe card goes, or 6 -/
def fstG (P : Pm) (ec : Nat) (S : St) : Nat :=
  if goesN P ec S 0 = true then 0 else if goesN P ec S 1 = true then 1 else if goesN P ec S 2 = true then 2 else if goesN P ec S 3 = true then 3 else if goesN P ec S 4 = true then 4 else if goesN P ec S 5 = true then 5 else 6
def auN (P : Pm) (ec : Nat) : Nat → St → Nat × St
  | 0, S => (0, S)
  | f + 1, S => if fstG P ec S = 6 then (0, S) else ((auN P ec f (aMv P ec S (fstG P ec S) 5)).1 + 1, (auN P ec f (aMv P ec S (fstG P ec S) 5)).2)
def fAuto (A : Ab) : Int32 × Ab :=
  if alL A = true then
    if (auN (aP A) (pE (aP A)) 12 (aS A)).1 = 0 then (nI 0, A) else (nI (auN (aP A) (pE (aP A)) 12 (aS A)).1, kpA A (auN (aP A) (pE (aP A)) 12 (aS A)).2 (aW A))
  else (-nI 3, A)
def fUndo (A : Ab) : Int32 × Ab := if aPr A = 0 then (-nI 1, A) else (nI 1, (aP A, aH A (aPr A - 1), aL A, aW A, aH A, aPr A - 1, aLa A, aPl A, aT A, aQ A))
def fRedo (A : Ab) : Int32 × Ab := if aPr A < aLa A then (nI 1, (aP A, aH A (aPr A + 1), aL A, aW A, aH A, aPr A + 1, aLa A, aPl A, aT A, aQ A)) else (-nI 1, A)
def cntN (A : Ab) : Nat → Nat
  | 0 => pS (aP A) * pR (aP A)
  | 1 => lcn A
  | 2 => hoS (aS A)
  | 3 => nfc (pE (aP A)) (aS A)
  | 4 => cnt (pC (aP A)) (fun i => decide ((aS A).1 i = []))
  | 5 => buryN (aP A) (aS A)
  | 6 => if alL A = true then movesN (aP A) (pE (aP A)) (aS A) else 0
  | 7 => aPr A
  | 8 => if hoS (aS A) = pS (aP A) * pR (aP A) then 1 else 0
  | 9 => pS (aP A)
  | 10 => pR (aP A)
  | 11 => pC (aP A)
  | 12 => pE (aP A)
  | _ => pL (aP A)
def fCount (A : Ab) (x : Int32) : Int32 := if wi x (nI 0) (nI 13) = true then nI (cntN A (tn x)) else -nI 2
def fCard (A : Ab) (x y : Int32) : Int32 :=
  if colOK (aP A) x = true then (if wi y (nI 0) (nI ((aS A).1 (tn x)).length - nI 1) = true then nI (cdN (pR (aP A)) (((aS A).1 (tn x)).getD (tn y) 0)) else nI 0) else -nI 2
def fCell (A : Ab) (x : Int32) : Int32 := if wi x (nI 0) (nI (pE (aP A)) - nI 1) = true then nI (cdN (pR (aP A)) ((aS A).2.1 (tn x))) else -nI 2
def fHouse (A : Ab) (x : Int32) : Int32 := if wi x (nI 0) (nI (pS (aP A)) - nI 1) = true then nI ((aS A).2.2 (tn x)) else -nI 2
/-- a code of the deck -/
def cdOK (P : Pm) (x : Int32) : Bool := anyN 32 (fun c => decide (x = nI c) && decide (c / 8 < pS P) && decide (1 ≤ c % 8) && decide (c % 8 ≤ pR P))
def crdN (P : Pm) (x : Int32) : Nat := tn x / 8 * pR P + tn x % 8
def fLets (A : Ab) (x y : Int32) : Int32 :=
  if cdOK (aP A) x && (decide (y = nI 0) || cdOK (aP A) y) then (if letF (aP A) (crdN (aP A) x) (if y = nI 0 then 0 else crdN (aP A) y) = true then nI 1 else nI 0) else -nI 2
noncomputable def slvA (P : Pm) (ec : Nat) (S : St) (m : Nat) : Int32 := (Classical.epsilon (slv P ec S m))
noncomputable def plnA (P : Pm) (ec : Nat) (S : St) : List Nat := (Classical.epsilon (isPl P ec S))
theorem slvA_e {P : Pm} {ec : Nat} {S : St} {m : Nat} {x : Int32} (h : slv P ec S m x) : slvA P ec S m = x := slv_uniq (Classical.epsilon_spec (p := slv P ec S m) ⟨x, h⟩) h
theorem plnA_e {P : Pm} {ec : Nat} {S : St} {l : List Nat} (h : isPl P ec S l) : plnA P ec S = l := isPl_uniq (Classical.epsilon_spec (p := isPl P ec S) ⟨l, h⟩) h
noncomputable def fSolve (A : Ab) (x : Int32) : Int32 × Ab :=
  if wi x (nI 1) (nI 4000) = true then
    if alL A = true then
      if 0 ≤ slvA (aP A) (pE (aP A)) (aS A) (tn x) then (slvA (aP A) (pE (aP A)) (aS A) (tn x), (aP A, aS A, aL A, aW A, aH A, aPr A, aLa A, plnA (aP A) (pE (aP A)) (aS A), aT A, aQ A))
      else (slvA (aP A) (pE (aP A)) (aS A) (tn x), A)
    else (-nI 4, A)
  else (-nI 2, A)
def fPlan (A : Ab) (x y : Int32) : Int32 :=
  if wi y (nI 0) (nI 1) = true then (if wi x (nI 0) (nI (aPl A).length - nI 1) = true then (if y = nI 0 then nI ((aPl A).getD (tn x) 0 / 8) else nI ((aPl A).getD (tn x) 0 % 8)) else -nI 1) else -nI 2
noncomputable def fNeeds (A : Ab) (x : Int32) : Int32 :=
  if wi x (nI 1) (nI 4000) = true then
    if alL A && decide ((aS A).2.1 0 = 0) && decide ((aS A).2.1 1 = 0) then
      if slvA (aP A) 0 (aS A) (tn x) ≠ -nI 1 then (if slvA (aP A) 0 (aS A) (tn x) = -nI 3 then -nI 3 else nI 0)
      else if slvA (aP A) 1 (aS A) (tn x) ≠ -nI 1 then (if slvA (aP A) 1 (aS A) (tn x) = -nI 3 then -nI 3 else nI 1)
      else if slvA (aP A) 2 (aS A) (tn x) ≠ -nI 1 then (if slvA (aP A) 2 (aS A) (tn x) = -nI 3 then -nI 3 else nI 2)
      else -nI 1
    else -nI 4
  else -nI 2
def fForm (A : Ab) (x : Int32) : Int32 := if wi x (nI 0) (nI (frL (aP A) (pE (aP A)) (aS A)).length - nI 1) = true then nI ((frL (aP A) (pE (aP A)) (aS A)).getD (tn x) 0) else -nI 1
def setQ (A : Ab) (q : Nat) : Ab := (aP A, aS A, aL A, aW A, aH A, aPr A, aLa A, aPl A, aT A, q)
def thg (A : Ab) (w n : Nat) : Nat × Nat × List Nat :=
  if w = 1 then (1, pL (aP A), []) else if w = 2 then (2, 0, ((aS A).1 n).map (cdN (pR (aP A)))) else if w = 3 then (3, 0, frL (aP A) (pE (aP A)) (aS A)) else if w = 4 then (4, 0, truL (aP A) (aS A)) else (0, 0, [])
def fPut (A : Ab) (x y z : Int32) : Int32 × Ab :=
  if wi x (nI 0) (nI 5) && wi y (nI 0) (nI 4) && (!decide (y = nI 2) || colOK (aP A) z) then
    (nI 1, (aP A, aS A, aL A, aW A, aH A, aPr A, aLa A, aPl A, up (aT A) (tn x) (thg A (tn y) (tn z)), 0))
  else (-nI 1, setQ A 1)
def undr (l k : Nat) : Bool := decide (k = 0) || decide (l = k) || (decide (k = 1) && decide (l = 3)) || (decide (k = 2) && decide (l = 4))
def kmod (n : Int32) : Nat := tn (fmF n (nI 5))
/-- what a forge answers, and its status -/
def fgN (T : Nat × Nat × List Nat) (w : Nat) (n : Int32) : Int32 × Nat :=
  if w = 0 then (if T.1 = 0 then (-nI 1, 10) else if T.1 = 1 then (if undr T.2.1 (kmod n) = true then (nI T.2.1, 0) else (-nI 1, 11)) else (-nI 1, 11))
  else if w = 1 ∨ w = 2 ∨ w = 3 then (if T.1 = 0 then (-nI 1, 10) else if T.1 = w + 1 then (if wi n (nI 0) (nI T.2.2.length - nI 1) = true then (nI (T.2.2.getD (tn n) 0), 0) else (-nI 1, 12)) else (-nI 1, 11))
  else if w = 4 then (if n < 0 then (-nI 1, 13) else (n, 0))
  else if w = 5 then (if T.1 = 0 then (-nI 1, 10) else if T.1 = 2 then (if n < 0 ∨ T.2.2.length < tn n + 1 ∨ 7 < tn n + tn n then (-nI 1, 12) else (nI (sumN (tn n) (fun i => T.2.2.getD (i + 1) 0)), 0)) else (-nI 1, 11))
  else if w = 6 then (if T.1 = 0 then (nI 0, 0) else if T.1 = 1 ∧ (T.2.1 = 1 ∨ T.2.1 = 3) then (nI T.2.1, 0) else (-nI 1, 14))
  else if w = 7 then (if n = 0 then (-nI 1, 15) else (nI 1000 / n, 0))
  else (-nI 1, 10)
def fForge (A : Ab) (x y z : Int32) : Int32 × Ab :=
  if wi x (nI 0) (nI 5) && wi y (nI 0) (nI 8) && wi z (-nI 100) (nI 100) then ((fgN (aT A (tn x)) (tn y) z).1, setQ A (fgN (aT A (tn x)) (tn y) z).2) else (-nI 1, setQ A 1)
