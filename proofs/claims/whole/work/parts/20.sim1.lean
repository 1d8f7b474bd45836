/-! the two states side by side -/
theorem isDr_iff (d : Int32) : isDr d = 0 ↔ ¬ vp_in d 8 := by
  unfold isDr
  rw [vp_in_iff]
  by_cases h : d < 0
  · rw [if_pos h, Int32.lt_iff_toInt_lt] at *
    have h0 : (0 : Int32).toInt = 0 := by decide
    rw [h0] at h
    exact ⟨fun _ q => by omega, fun _ => rfl⟩
  · rw [if_neg h]
    by_cases h2 : 8 ≤ d
    · rw [if_pos h2]
      rw [Int32.le_iff_toInt_le] at h2
      have h8 : (8 : Int32).toInt = 8 := by decide
      rw [h8] at h2
      exact ⟨fun _ q => by omega, fun _ => rfl⟩
    · rw [if_neg h2]
      rw [Int32.le_iff_toInt_le] at h2
      rw [Int32.lt_iff_toInt_lt] at h
      have h8 : (8 : Int32).toInt = 8 := by decide
      have h0 : (0 : Int32).toInt = 0 := by decide
      rw [h8] at h2
      rw [h0] at h
      exact ⟨fun q => absurd q (by decide), fun q => absurd ⟨by omega, by omega⟩ q⟩
theorem dr_no (d : Int32) : isDr d = 0 ↔ ¬ fNo d = 0 := by rw [isDr_iff, fNo_iff]
theorem isTi_iff (i : Int32) : isTi i = 0 ↔ ¬ fBey i.toInt64 0 20 = 0 := by
  unfold isTi
  rw [fBey_iff, Int32.toInt_toInt64]
  have h20 : (20 : Int64).toInt = 20 := by decide
  have h0' : (0 : Int64).toInt = 0 := by decide
  rw [h20, h0']
  by_cases h : i < 0
  · rw [if_pos h, Int32.lt_iff_toInt_lt] at *
    have h0 : (0 : Int32).toInt = 0 := by decide
    rw [h0] at h
    exact ⟨fun _ q => by omega, fun _ => rfl⟩
  · rw [if_neg h]
    rw [Int32.lt_iff_toInt_lt] at h
    have h0 : (0 : Int32).toInt = 0 := by decide
    rw [h0] at h
    by_cases h2 : 20 < i
    · rw [if_pos h2]
      rw [Int32.lt_iff_toInt_lt] at h2
      have h8 : (20 : Int32).toInt = 20 := by decide
      rw [h8] at h2
      exact ⟨fun _ q => by omega, fun _ => rfl⟩
    · rw [if_neg h2]
      rw [Int32.lt_iff_toInt_lt] at h2
      have h8 : (20 : Int32).toInt = 20 := by decide
      rw [h8] at h2
      exact ⟨fun q => absurd q (by decide), fun q => absurd ⟨by omega, by omega⟩ q⟩
/-- what a drawer has, on both sides -/
def RDd (c : zC) (m : zM) (d : Nat) : Prop :=
  (m.1 33 d = 0 ∧ c.2.2 d = 6) ∨
  (m.1 33 d = 1 ∧ ¬ c.2.2 d = 6 ∧ c.1 (c.2.2 d) 0 = 1 ∧ c.1 (c.2.2 d) 1 = m.1 34 d) ∨
  (m.1 33 d = 2 ∧ ¬ c.2.2 d = 6 ∧ vp_in (m.1 36 (m.1 35 d).toNatClampNeg) 7 ∧ c.1 (c.2.2 d) 0 = 2 + m.1 36 (m.1 35 d).toNatClampNeg ∧ c.1 (c.2.2 d) 1 = 0 ∧ c.1 (c.2.2 d) 2 = m.1 37 (m.1 35 d).toNatClampNeg ∧ ∀ i, i < 12 → c.2.1 (c.2.2 d + 9) i = m.2 38 (12 * (m.1 35 d).toNatClampNeg + i))
def RD (c : zC) (m : zM) : Prop :=
  (c.1 6 0 = 0 ∧ c.1 6 1 = 0) ∧ (∀ d, d < 8 → RDd c m d) ∧ (∀ d e, d < 8 → e < 8 → m.1 33 d = 2 → m.1 33 e = 2 → (c.2.2 d = c.2.2 e ↔ m.1 35 d = m.1 35 e))
/-- what the hand has -/
def RH (c : zC) (m : zM) : Prop :=
  (m.1 32 7 = 0 ∧ c.1 0 3 = -9 ∧ c.2.1 0 4 = 0) ∨ (m.1 32 7 = 1 ∧ c.1 0 3 = m.1 32 8 ∧ vp_in (m.1 32 8) 7 ∧ c.2.1 0 4 = m.2 32 9 ∧ (m.1 32 8 = 6 → ¬ m.2 32 9 = 0))
/-- orders, what they met, faults, cards -/
def RO (c : zC) (m : zM) : Prop :=
  c.1 0 7 = m.1 32 13 ∧ (∀ k q, k < 8 → q < 5 → c.1 (24 + k) q = m.1 40 (5 * k + q)) ∧ (∀ k, c.1 4 k = m.1 41 k) ∧ (c.1 0 5 = m.1 32 10 ∧ ∃ n, n ≤ 30 ∧ c.1 0 5 = nI n) ∧ ∀ k, k < (c.1 0 7).toNatClampNeg → k < 8 → ¬ isTi (c.1 (24 + k) 2) = 0 ∧ ¬ isTi (c.1 (24 + k) 4) = 0
def RF (c : zC) (m : zM) : Prop := c.1 0 10 = m.1 32 11 ∧ ∀ k, c.1 5 k = m.1 39 k
/-- the rows that the reference has made: t at most -/
def RT (m : zM) (t : Nat) : Prop := ∃ n, n ≤ t ∧ m.1 32 3 = nI n ∧ ∀ d, d < 8 → m.1 33 d = 2 → (m.1 35 d).toNatClampNeg < n
def Rel (c : zC) (m : zM) : Prop := wfC c ∧ wfM m ∧ RD c m ∧ RH c m ∧ RO c m ∧ RF c m
theorem nI_inj8 {a b : Nat} (h : nI a = nI b) (ha : a < 2 ^ 31) (hb : b < 2 ^ 31) : a = b := (nI_eq ha hb).mp h
/-! holders -/
def cn (D : Nat → Nat) (j : Nat) : Nat → Nat → Nat
  | 0, _ => 0
  | n + 1, k => (if D k = j then 1 else 0) + cn D j n (k + 1)
theorem holN_cn (D : Nat → Nat) (j : Nat) : ∀ (n k : Nat) (a : Int32), holN D j n k a = a + nI (cn D j n k)
  | 0, k, a => by
    show a = a + nI 0
    rw [nI_0]
    simp
  | n + 1, k, a => by
    unfold holN cn
    rw [holN_cn D j n (k + 1)]
    split
    · rw [← nI_add, ← Int32.add_assoc]
      rfl
    · rw [Nat.zero_add]
theorem cn_le (D : Nat → Nat) (j : Nat) : ∀ (n k : Nat), cn D j n k ≤ n
  | 0, k => Nat.le_refl 0
  | n + 1, k => by
    unfold cn
    have := cn_le D j n (k + 1)
    split <;> omega
theorem fHol_cn (c : zC) (j : Nat) : fHol c j = nI (cn c.2.2 j 8 0) := by
  unfold fHol
  rw [holN_cn]
  simp
theorem fHol_0 (c : zC) (j : Nat) : fHol c j = 0 ↔ cn c.2.2 j 8 0 = 0 := by
  rw [fHol_cn]
  have h := cn_le c.2.2 j 8 0
  constructor
  · intro q
    exact nI_inj8 (b := 0) q (by omega) (by omega)
  · intro q
    rw [q]; rfl
theorem cn_0 (D : Nat → Nat) (j : Nat) : ∀ (n k : Nat), cn D j n k = 0 → ∀ i, i < n → ¬ D (k + i) = j
  | 0, k, _, i, hi => by omega
  | n + 1, k, h, i, hi => by
    unfold cn at h
    by_cases h0 : D k = j
    · rw [if_pos h0] at h; omega
    · rw [if_neg h0] at h
      cases i with
      | zero => exact h0
      | succ i =>
        have := cn_0 D j n (k + 1) (by omega) i (by omega)
        rw [show k + (i + 1) = k + 1 + i by omega]
        exact this
theorem cn_pos (D : Nat → Nat) (j : Nat) : ∀ (n k i : Nat), i < n → D (k + i) = j → 1 ≤ cn D j n k
  | 0, k, i, hi, _ => by omega
  | n + 1, k, i, hi, h => by
    unfold cn
    cases i with
    | zero => rw [if_pos (show D k = j from h)]; omega
    | succ i =>
      have := cn_pos D j n (k + 1) i (by omega) (by rw [show k + 1 + i = k + (i + 1) by omega]; exact h)
      omega
theorem cn_sum (D : Nat → Nat) : ∀ (n k : Nat), (∀ i, i < n → 6 ≤ D (k + i) ∧ D (k + i) < 15) → cn D 6 n k + cn D 7 n k + cn D 8 n k + cn D 9 n k + cn D 10 n k + cn D 11 n k + cn D 12 n k + cn D 13 n k + cn D 14 n k = n
  | 0, k, _ => rfl
  | n + 1, k, h => by
    have ih := cn_sum D n (k + 1) (fun i hi => by have := h (i + 1) (by omega); rw [show k + 1 + i = k + (i + 1) by omega]; exact this)
    have h0 := h 0 (by omega)
    rw [Nat.add_zero] at h0
    simp only [cn]
    have hc : D k = 6 ∨ D k = 7 ∨ D k = 8 ∨ D k = 9 ∨ D k = 10 ∨ D k = 11 ∨ D k = 12 ∨ D k = 13 ∨ D k = 14 := by omega
    rcases hc with q | q | q | q | q | q | q | q | q <;> rw [q] <;> simp <;> omega
theorem freN_spec (c : zC) : ∀ (n k f : Nat), 1 ≤ k → (fHol c f = 0 ∨ (f = 7 ∧ ∀ i, 1 ≤ i → i < k → ¬ fHol c (7 + i) = 0)) → (fHol c (freN c n k f) = 0 ∨ (freN c n k f = 7 ∧ ∀ i, 1 ≤ i → i < k + n → ¬ fHol c (7 + i) = 0))
  | 0, k, f, _, h => h
  | n + 1, k, f, hk, h => by
    unfold freN
    have := freN_spec c n (k + 1) (if fHol c (7 + k) = 0 then 7 + k else f) (by omega) (by
      split
      · exact Or.inl (by assumption)
      · rcases h with h | ⟨h1, h2⟩
        · exact Or.inl h
        · refine Or.inr ⟨h1, fun i hi hi2 => ?_⟩
          by_cases e : i = k
          · rw [e]; assumption
          · exact h2 i hi (by omega))
    rw [show k + (n + 1) = k + 1 + n by omega]
    exact this
theorem freN_7 (c : zC) : ∀ (n k f : Nat), 7 ≤ f → 7 ≤ freN c n k f
  | 0, _, f, h => h
  | n + 1, k, f, h => by
    unfold freN
    refine freN_7 c n (k + 1) _ ?_
    split <;> omega
theorem nFree_7 (c : zC) (d : Nat) : 7 ≤ nFree c d := freN_7 _ 7 1 7 (by omega)
theorem nFree_free {c : zC} (h : ∀ k, k < 8 → kd (c.2.2 k) = 6) {d : Nat} (hd : d < 8) : ∀ e, e < 8 → ¬ (sD c d 6).2.2 e = nFree c d := by
  have hD : ∀ e, e < 8 → 6 ≤ (sD c d 6).2.2 e ∧ (sD c d 6).2.2 e < 15 := by
    intro e he
    by_cases q : e = d
    · rw [q, sD_s]; omega
    · rw [sD_n q]; exact kd6 (h e he)
  have hz : cn (sD c d 6).2.2 (nFree c d) 8 0 = 0 := by
    rcases freN_spec (sD c d 6) 7 1 7 (by omega) (Or.inr ⟨rfl, fun i h1 h2 => by omega⟩) with q | ⟨q1, q2⟩
    · exact (fHol_0 _ _).mp q
    · have e : nFree c d = 7 := q1
      rw [e]
      have s := cn_sum (sD c d 6).2.2 8 0 (fun i hi => by rw [Nat.zero_add]; exact hD i hi)
      have h6 : 1 ≤ cn (sD c d 6).2.2 6 8 0 := cn_pos _ _ 8 0 d hd (by rw [Nat.zero_add, sD_s])
      have p : ∀ i, 1 ≤ i → i < 8 → 1 ≤ cn (sD c d 6).2.2 (7 + i) 8 0 := fun i h1 h2 => by
        have := q2 i h1 h2
        rw [fHol_0] at this
        omega
      have p1 := p 1 (by omega) (by omega)
      have p2 := p 2 (by omega) (by omega)
      have p3 := p 3 (by omega) (by omega)
      have p4 := p 4 (by omega) (by omega)
      have p5 := p 5 (by omega) (by omega)
      have p6 := p 6 (by omega) (by omega)
      have p7 := p 7 (by omega) (by omega)
      simp only [Nat.reduceAdd] at p1 p2 p3 p4 p5 p6 p7
      omega
  intro e he
  have := cn_0 _ _ 8 0 hz e he
  rw [Nat.zero_add] at this
  exact this
