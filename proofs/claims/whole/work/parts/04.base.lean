theorem zG_0 {E : zE} {c : zC} {mo : zM} : zG E c mo 0 = .inr (2, [.ref (zl E 6), .ref (zl E 1), .ref (zl E 2), .int (c.1 0 3), .long (c.2.1 0 4), .int (c.1 0 5), .ref (zl E 3), .int (c.1 0 7), .ref (zl E 4), .int (c.1 0 9), .int (c.1 0 10), .ref (zl E 5)]) := by simp [zG, kd]
theorem zG_32 {E : zE} {c : zC} {mo : zM} : zG E c mo 32 = .inr (3, [.ref (zl E 33), .ref (zl E 34), .ref (zl E 35), .int (mo.1 32 3), .ref (zl E 36), .ref (zl E 37), .ref (zl E 38), .int (mo.1 32 7), .int (mo.1 32 8), .long (mo.2 32 9), .int (mo.1 32 10), .int (mo.1 32 11), .ref (zl E 39), .int (mo.1 32 13), .ref (zl E 40), .int (mo.1 32 15), .ref (zl E 41), .int (mo.1 32 17)]) := by simp [zG, kd]
theorem zG_38 {E : zE} {c : zC} {mo : zM} : zG E c mo 38 = .inl (zcy E 1, 60000, .inr (.inl (mo.2 38))) := by simp [zG, kd]
theorem tb_out {x : Int32} (ks : List Int32) (lo hi : Int) (hk : ∀ n : Nat, n ≤ (hi - lo).toNat → ∃ k ∈ ks, k.toInt = lo + n) (h : ∀ k ∈ ks, ¬ x = k) : x.toInt < lo ∨ hi < x.toInt := by
  by_cases h1 : x.toInt < lo
  · exact Or.inl h1
  · by_cases h2 : hi < x.toInt
    · exact Or.inr h2
    · obtain ⟨k, hk1, hk2⟩ := hk (x.toInt - lo).toNat (by omega)
      exact absurd (Int32.toInt_inj.mp (by omega : x.toInt = k.toInt)) (h k hk1)
theorem tb_in {x : Int32} {lo hi : Int} {offs : Array Int} {off : Int} (ks : List Int32) (h : ¬ (x.toInt < lo ∨ hi < x.toInt)) (hk : ∀ k ∈ ks, ¬ x = k) (ht : ∀ n : Nat, n ≤ (hi - lo).toNat → (∃ k ∈ ks, k.toInt = lo + n) ∨ offs[n]? = some off) : offs[(x.toInt - lo).toNat]? = some off := by
  rcases ht (x.toInt - lo).toNat (by omega) with ⟨k, hk1, hk2⟩ | h1
  · exact absurd (Int32.toInt_inj.mp (by omega : x.toInt = k.toInt)) (hk k hk1)
  · exact h1
theorem rv_ix {x : Int32} {n k : Nat} (h : x = nI n) (hk : k < n) : x - 1 - nI k = nI (n - 1 - k) := by
  rw [h, show (1 : Int32) = nI 1 from rfl, pk_sub (by omega), pk_sub (by omega)]
theorem rv_in {x : Int32} {n k : Nat} (h : x = nI n) (hk : k < n) (hn : n ≤ 12) : vp_in (x - 1 - nI k) 12 := by
  rw [rv_ix h hk]; exact vp_in_nI (by omega) (by omega)
theorem rv_k {x : Int32} {n k : Nat} (h : x = nI n) (hk : k < n) (hn : n ≤ 12) : (x - 1 - nI k).toNatClampNeg = n - 1 - k := by
  rw [rv_ix h hk]; exact nI_clamp (by omega)
/-! the class: what its methods answer -/
def isDr (d : Int32) : Int32 := if d < 0 then 0 else if 8 ≤ d then 0 else 1
def isTi (i : Int32) : Int32 := if i < 0 then 0 else if 20 < i then 0 else 1
def fRow (c : zC) (j : Nat) : Int32 := if c.1 j 0 = 0 then 1 else if c.1 j 0 = 1 then 2 else 0
def fCome (c : zC) (j : Nat) (i : Int32) : Int32 := if fRow c j = 0 then (if i < 0 then 3 else if i < c.1 j 2 then 0 else 3) else fRow c j
def hold (c : zC) (k : Int32) (v : Int64) : zC := sJ (sI c 0 3 k) 0 4 v
theorem isDr_in {d : Int32} (h : ¬ isDr d = 0) : vp_in d 8 := by
  unfold isDr at h
  split at h
  · exact absurd rfl h
  · split at h
    · exact absurd rfl h
    · rw [vp_in_iff]
      rename_i h1 h2
      have e1 : ¬ d.toInt < 0 := fun q => h1 (Int32.lt_iff_toInt_lt.mpr q)
      have e2 : ¬ 8 ≤ d.toInt := fun q => h2 (Int32.le_iff_toInt_le.mpr q)
      omega
