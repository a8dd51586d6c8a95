/-! THE CLASS's MEMORY AND THE DESK -/
def LdX (M : pm_M) (L : Nat → Bool) : Prop := ∃ x, x < 8192 ∧ M.1 0 7 = nI x ∧ ∀ i, i < 13 → bt0 (nI x) i = L i
def PlX (M : pm_M) (l : List Nat) : Prop := M.1 38 1 = nI l.length ∧ ∀ i, i < l.length → pmv M i = l.getD i 0
def TrX (M : pm_M) (t : Nat) (T : Nat × Nat × List Nat) : Prop := M.1 (15 + 2 * t) 1 = nI T.1 ∧ (T.1 = 1 → M.1 (15 + 2 * t) 2 = nI T.2.1) ∧ M.1 (15 + 2 * t) 3 = nI T.2.2.length ∧ rowIs M (16 + 2 * t) T.2.2
def MX (M : pm_M) (A : Ab) : Prop := DkX M (aP A) ∧ SdX M 5 (pE (aP A)) (aS A) ∧ HsX M (aH A) (aPr A) (aLa A) ∧ LdX M (aL A) ∧ M.1 0 8 = nI (aW A) ∧ M.1 0 9 = nI (aQ A) ∧ PlX M (aPl A) ∧ ∀ t, t < 6 → TrX M t (aT A t)
theorem LdX.mv {M M' : pm_M} {L : Nat → Bool} {ps : List Nat} (h : LdX M L) (hf : pm_fr ps M M') (hp : 0 ∉ ps) : LdX M' L := by
  obtain ⟨x, a, b, c⟩ := h
  exact ⟨x, a, by rw [hf.i hp]; exact b, c⟩
theorem LdX.eq {M M' : pm_M} {L : Nat → Bool} (h : LdX M L) (e : M'.1 0 7 = M.1 0 7) : LdX M' L := by
  obtain ⟨x, a, b, c⟩ := h
  exact ⟨x, a, by rw [e]; exact b, c⟩
theorem PlX.mv {M M' : pm_M} {l : List Nat} {ps : List Nat} (h : PlX M l) (hf : pm_fr ps M M') (h1 : 38 ∉ ps) (h2 : 39 ∉ ps) : PlX M' l := by
  refine ⟨by rw [hf.i h1]; exact h.1, fun i hi => ?_⟩
  have := h.2 i hi
  unfold pmv at this ⊢
  rw [hf.l h2]; exact this
theorem PlX.nil {M : pm_M} (h : M.1 38 1 = nI 0) : PlX M [] := ⟨h, fun i hi => by cases hi⟩
theorem TrX.mv {M M' : pm_M} {t : Nat} {T : Nat × Nat × List Nat} {ps : List Nat} (h : TrX M t T) (hf : pm_fr ps M M') (h1 : 15 + 2 * t ∉ ps) (h2 : 16 + 2 * t ∉ ps) : TrX M' t T := by
  obtain ⟨a, b, c, d⟩ := h
  exact ⟨by rw [hf.i h1]; exact a, fun z => by rw [hf.i h1]; exact b z, by rw [hf.i h1]; exact c, d.mv hf h2⟩
/-- the trays' places -/
def noTr (ps : List Nat) : Bool := ps.all (fun q => decide (q < 15) || decide (26 < q))
theorem noTr_i {ps : List Nat} (h : noTr ps = true) {q : Nat} (h1 : 15 ≤ q) (h2 : q ≤ 26) : q ∉ ps := fun hm => by
  have := List.all_eq_true.mp h q hm
  simp at this; omega
theorem trs_mv {M M' : pm_M} {T : Nat → Nat × Nat × List Nat} {ps : List Nat} (h : ∀ t, t < 6 → TrX M t (T t)) (hf : pm_fr ps M M') (hn : noTr ps = true) : ∀ t, t < 6 → TrX M' t (T t) := fun t ht => (h t ht).mv hf (noTr_i hn (by omega) (by omega)) (noTr_i hn (by omega) (by omega))
theorem bc_cnt2 : ∀ a, a < 64 → ∀ b, b < 128 → bcF (nI (128 * a + b)) = nI (cnt 13 (bt0 (nI (128 * a + b)))) := by decide +kernel
theorem bc_cnt (x : Nat) (h : x < 8192) : bcF (nI x) = nI (cnt 13 (bt0 (nI x))) := by
  have := bc_cnt2 (x / 128) (by omega) (x % 128) (by omega)
  rwa [show 128 * (x / 128) + x % 128 = x by omega] at this
theorem LdX.bc {M : pm_M} {L : Nat → Bool} (h : LdX M L) : bcF (M.1 0 7) = nI (cnt 13 L) := by
  obtain ⟨x, a, b, c⟩ := h
  rw [b, bc_cnt x a]; congr 1; exact cnt_congr c
theorem al_pb {M : pm_M} {A : Ab} (hA : okA A) (h : MX M A) : decide (bcF (M.1 0 7) = M.1 1 3 * M.1 1 4) = alL A := by
  have h12 := hA.1.2.2.2.2.1
  have hl : cnt 13 (aL A) ≤ pS (aP A) * pR (aP A) := hA.lcl
  rw [h.2.2.2.1.bc, h.1.1.2.1.1, h.1.1.2.1.2.1, ni_mul]
  unfold alL lcn
  exact decide_eq_decide.mpr (by rw [ni_eq (by omega) (by omega)])
theorem shl_n : ∀ d, d < 13 → nI 1 <<< (nI d &&& 31) = nI (2 ^ d) := by decide +kernel
theorem LdX.set {M M' : pm_M} {L : Nat → Bool} (h : LdX M L) {d : Nat} (hd : d < 13) (e : M'.1 0 7 = M.1 0 7 ||| (nI 1 <<< (nI d &&& 31))) : LdX M' (up L d true) := by
  obtain ⟨x, a, b, c⟩ := h
  have h2 : 2 ^ d < 8192 := (Nat.pow_lt_pow_right (by decide) hd : 2 ^ d < 2 ^ 13)
  have e2 : nI x ||| (nI 1 <<< (nI d &&& 31)) = nI (x ||| 2 ^ d) := by
    rw [shl_n d hd]
    apply Int32.toBitVec.inj
    show BitVec.ofNat 32 x ||| BitVec.ofNat 32 (2 ^ d) = BitVec.ofNat 32 (x ||| 2 ^ d)
    exact BitVec.ofNat_or.symm
  refine ⟨x ||| 2 ^ d, Nat.or_lt_two_pow (n := 13) a h2, by rw [e, b, e2], fun i hi => ?_⟩
  rw [← e2, bt0_or _ hd hi, c i hi]
  by_cases z : i = d
  · rw [z, up_s]; simp
  · rw [up_n _ _ z]; simp [z]
theorem LdX.bit {M : pm_M} {L : Nat → Bool} (h : LdX M L) {d : Nat} (hd : d < 13) : (M.1 0 7 &&& (nI 1 <<< (nI d &&& 31)) = 0) = (L d = false) := by
  obtain ⟨x, a, b, c⟩ := h
  have := c d hd
  unfold bt0 at this
  rw [b, ← this]
  simp
theorem LdX.no {M : pm_M} (h : M.1 0 7 = nI 0) : LdX M (fun _ => false) := ⟨0, by decide, h, fun i hi => bt0_0 i hi⟩
