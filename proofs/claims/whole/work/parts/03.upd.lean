def sI (c : zC) (i k : Nat) (v : Int32) : zC := (fun a b => if a = i ∧ b = k then v else c.1 a b, c.2.1, c.2.2)
def sJ (c : zC) (i k : Nat) (v : Int64) : zC := (c.1, fun a b => if a = i ∧ b = k then v else c.2.1 a b, c.2.2)
def sD (c : zC) (k j : Nat) : zC := (c.1, c.2.1, va_up c.2.2 k j)
def tI (mo : zM) (i k : Nat) (v : Int32) : zM := (fun a b => if a = i ∧ b = k then v else mo.1 a b, mo.2)
def tJ (mo : zM) (i k : Nat) (v : Int64) : zM := (mo.1, fun a b => if a = i ∧ b = k then v else mo.2 a b)
theorem kd0 {i : Nat} (h : kd i = 0) : i = 0 := by
  unfold kd at h; (repeat' split at h) <;> omega
theorem kd1 {i : Nat} (h : kd i = 1) : i = 1 := by
  unfold kd at h; (repeat' split at h) <;> omega
theorem kd8 {i : Nat} (h : kd i = 8) : i = 32 := by
  unfold kd at h; (repeat' split at h) <;> omega
theorem kd6 {i : Nat} (h : kd i = 6) : 6 ≤ i ∧ i < 15 := by
  unfold kd at h; (repeat' split at h) <;> omega
theorem kd6l {i : Nat} (h : kd i = 6) : i < 42 := by have := kd6 h; omega
theorem kd6o {i : Nat} (h1 : 6 ≤ i) (h2 : i < 15) : kd i = 6 := by
  unfold kd; (repeat' split) <;> omega
theorem kd65 {i : Nat} (h : kd i = 6) : kd (i + 9) = 5 := by
  have := kd6 h; unfold kd; (repeat' split) <;> omega
theorem kd65l {i : Nat} (h : kd i = 6) : i + 9 < 42 := by have := kd6 h; omega
theorem kd7 {i : Nat} (h : kd i = 7) : 24 ≤ i ∧ i < 32 := by
  unfold kd at h; (repeat' split at h) <;> omega
theorem kd7l {i : Nat} (h : kd i = 7) : i < 42 := by have := kd7 h; omega
theorem kd7o {i : Nat} (h1 : 24 ≤ i) (h2 : i < 32) : kd i = 7 := by
  unfold kd; (repeat' split) <;> omega
theorem zG_6 {E : zE} {c : zC} {mo : zM} {i : Nat} (h : kd i = 6) : zG E c mo i = .inr (0, [.int (c.1 i 0), .int (c.1 i 1), .int (c.1 i 2), .ref (zl E (i + 9))]) := by simp [zG, h]
theorem zG_5 {E : zE} {c : zC} {mo : zM} {i : Nat} (h : kd i = 5) : zG E c mo i = .inl (zcy E 1, 12, .inr (.inl (c.2.1 i))) := by simp [zG, h]
theorem zG_7 {E : zE} {c : zC} {mo : zM} {i : Nat} (h : kd i = 7) : zG E c mo i = .inr (1, [.int (c.1 i 0), .int (c.1 i 1), .int (c.1 i 2), .int (c.1 i 3), .int (c.1 i 4)]) := by simp [zG, h]
theorem zG_4 {E : zE} {c : zC} {mo : zM} {i : Nat} (h : kd i = 4) : zG E c mo i = .inl (zcy E 0, ln i, .inl (c.1 i)) := by simp [zG, h]
theorem zG_9 {E : zE} {c : zC} {mo : zM} {i : Nat} (h : kd i = 9) : zG E c mo i = .inl (zcy E 0, ln i, .inl (mo.1 i)) := by simp [zG, h]
theorem zG_cong {E : zE} {c c1 : zC} {mo mo1 : zM} {b : Nat} (hI : ∀ k, c.1 b k = c1.1 b k) (hJ : ∀ k, c.2.1 b k = c1.2.1 b k) (hD : b = 1 → c.2.2 = c1.2.2) (mI : ∀ k, mo.1 b k = mo1.1 b k) (mJ : ∀ k, mo.2 b k = mo1.2 b k) : zG E c mo b = zG E c1 mo1 b := by
  have eI : c.1 b = c1.1 b := funext hI
  have eJ : c.2.1 b = c1.2.1 b := funext hJ
  have fI : mo.1 b = mo1.1 b := funext mI
  have fJ : mo.2 b = mo1.2 b := funext mJ
  by_cases h0 : kd b = 0
  · have hb := kd0 h0
    subst hb
    simp [zG, h0, eI, eJ]
  by_cases h1 : kd b = 1
  · have hb := kd1 h1
    simp [zG, h1, hD hb]
  by_cases h8 : kd b = 8
  · have hb := kd8 h8
    subst hb
    simp [zG, h8, fI, fJ]
  simp [zG, h0, h1, h8, eI, eJ, fI, fJ]
theorem zU0_3 (E : zE) (c : zC) (mo : zM)  (v : Int32) : va_up (zG E c mo) 0 (.inr (2, [.ref (zl E 6), .ref (zl E 1), .ref (zl E 2), .int v, .long (c.2.1 0 4), .int (c.1 0 5), .ref (zl E 3), .int (c.1 0 7), .ref (zl E 4), .int (c.1 0 9), .int (c.1 0 10), .ref (zl E 5)])) = zG E (sI c 0 3 v) mo := by
  funext b
  by_cases hb : b = 0
  · subst hb
    simp [va_up, zG, kd, sI, sJ, sD, tI, tJ]
  · rw [va_up_ne _ _ hb]
    exact zG_cong (fun k => by simp [sI, sJ, sD, hb]) (fun k => by simp [sI, sJ, sD, hb]) (fun h => by simp_all [sI, sJ, sD]) (fun k => by simp [tI, tJ, hb]) (fun k => by simp [tI, tJ, hb])
theorem zU0_5 (E : zE) (c : zC) (mo : zM)  (v : Int32) : va_up (zG E c mo) 0 (.inr (2, [.ref (zl E 6), .ref (zl E 1), .ref (zl E 2), .int (c.1 0 3), .long (c.2.1 0 4), .int v, .ref (zl E 3), .int (c.1 0 7), .ref (zl E 4), .int (c.1 0 9), .int (c.1 0 10), .ref (zl E 5)])) = zG E (sI c 0 5 v) mo := by
  funext b
  by_cases hb : b = 0
  · subst hb
    simp [va_up, zG, kd, sI, sJ, sD, tI, tJ]
  · rw [va_up_ne _ _ hb]
    exact zG_cong (fun k => by simp [sI, sJ, sD, hb]) (fun k => by simp [sI, sJ, sD, hb]) (fun h => by simp_all [sI, sJ, sD]) (fun k => by simp [tI, tJ, hb]) (fun k => by simp [tI, tJ, hb])
theorem zU0_7 (E : zE) (c : zC) (mo : zM)  (v : Int32) : va_up (zG E c mo) 0 (.inr (2, [.ref (zl E 6), .ref (zl E 1), .ref (zl E 2), .int (c.1 0 3), .long (c.2.1 0 4), .int (c.1 0 5), .ref (zl E 3), .int v, .ref (zl E 4), .int (c.1 0 9), .int (c.1 0 10), .ref (zl E 5)])) = zG E (sI c 0 7 v) mo := by
  funext b
  by_cases hb : b = 0
  · subst hb
    simp [va_up, zG, kd, sI, sJ, sD, tI, tJ]
  · rw [va_up_ne _ _ hb]
    exact zG_cong (fun k => by simp [sI, sJ, sD, hb]) (fun k => by simp [sI, sJ, sD, hb]) (fun h => by simp_all [sI, sJ, sD]) (fun k => by simp [tI, tJ, hb]) (fun k => by simp [tI, tJ, hb])
theorem zU0_9 (E : zE) (c : zC) (mo : zM)  (v : Int32) : va_up (zG E c mo) 0 (.inr (2, [.ref (zl E 6), .ref (zl E 1), .ref (zl E 2), .int (c.1 0 3), .long (c.2.1 0 4), .int (c.1 0 5), .ref (zl E 3), .int (c.1 0 7), .ref (zl E 4), .int v, .int (c.1 0 10), .ref (zl E 5)])) = zG E (sI c 0 9 v) mo := by
  funext b
  by_cases hb : b = 0
  · subst hb
    simp [va_up, zG, kd, sI, sJ, sD, tI, tJ]
  · rw [va_up_ne _ _ hb]
    exact zG_cong (fun k => by simp [sI, sJ, sD, hb]) (fun k => by simp [sI, sJ, sD, hb]) (fun h => by simp_all [sI, sJ, sD]) (fun k => by simp [tI, tJ, hb]) (fun k => by simp [tI, tJ, hb])
theorem zU0_10 (E : zE) (c : zC) (mo : zM)  (v : Int32) : va_up (zG E c mo) 0 (.inr (2, [.ref (zl E 6), .ref (zl E 1), .ref (zl E 2), .int (c.1 0 3), .long (c.2.1 0 4), .int (c.1 0 5), .ref (zl E 3), .int (c.1 0 7), .ref (zl E 4), .int (c.1 0 9), .int v, .ref (zl E 5)])) = zG E (sI c 0 10 v) mo := by
  funext b
  by_cases hb : b = 0
  · subst hb
    simp [va_up, zG, kd, sI, sJ, sD, tI, tJ]
  · rw [va_up_ne _ _ hb]
    exact zG_cong (fun k => by simp [sI, sJ, sD, hb]) (fun k => by simp [sI, sJ, sD, hb]) (fun h => by simp_all [sI, sJ, sD]) (fun k => by simp [tI, tJ, hb]) (fun k => by simp [tI, tJ, hb])
theorem zU0_4 (E : zE) (c : zC) (mo : zM)  (v : Int64) : va_up (zG E c mo) 0 (.inr (2, [.ref (zl E 6), .ref (zl E 1), .ref (zl E 2), .int (c.1 0 3), .long v, .int (c.1 0 5), .ref (zl E 3), .int (c.1 0 7), .ref (zl E 4), .int (c.1 0 9), .int (c.1 0 10), .ref (zl E 5)])) = zG E (sJ c 0 4 v) mo := by
  funext b
  by_cases hb : b = 0
  · subst hb
    simp [va_up, zG, kd, sI, sJ, sD, tI, tJ]
  · rw [va_up_ne _ _ hb]
    exact zG_cong (fun k => by simp [sI, sJ, sD, hb]) (fun k => by simp [sI, sJ, sD, hb]) (fun h => by simp_all [sI, sJ, sD]) (fun k => by simp [tI, tJ, hb]) (fun k => by simp [tI, tJ, hb])
theorem zU32_3 (E : zE) (c : zC) (mo : zM)  (v : Int32) : va_up (zG E c mo) 32 (.inr (3, [.ref (zl E 33), .ref (zl E 34), .ref (zl E 35), .int v, .ref (zl E 36), .ref (zl E 37), .ref (zl E 38), .int (mo.1 32 7), .int (mo.1 32 8), .long (mo.2 32 9), .int (mo.1 32 10), .int (mo.1 32 11), .ref (zl E 39), .int (mo.1 32 13), .ref (zl E 40), .int (mo.1 32 15), .ref (zl E 41), .int (mo.1 32 17)])) = zG E c (tI mo 32 3 v) := by
  funext b
  by_cases hb : b = 32
  · subst hb
    simp [va_up, zG, kd, sI, sJ, sD, tI, tJ]
  · rw [va_up_ne _ _ hb]
    exact zG_cong (fun k => by simp [sI, sJ, sD, hb]) (fun k => by simp [sI, sJ, sD, hb]) (fun h => by simp_all [sI, sJ, sD]) (fun k => by simp [tI, tJ, hb]) (fun k => by simp [tI, tJ, hb])
theorem zU32_7 (E : zE) (c : zC) (mo : zM)  (v : Int32) : va_up (zG E c mo) 32 (.inr (3, [.ref (zl E 33), .ref (zl E 34), .ref (zl E 35), .int (mo.1 32 3), .ref (zl E 36), .ref (zl E 37), .ref (zl E 38), .int v, .int (mo.1 32 8), .long (mo.2 32 9), .int (mo.1 32 10), .int (mo.1 32 11), .ref (zl E 39), .int (mo.1 32 13), .ref (zl E 40), .int (mo.1 32 15), .ref (zl E 41), .int (mo.1 32 17)])) = zG E c (tI mo 32 7 v) := by
  funext b
  by_cases hb : b = 32
  · subst hb
    simp [va_up, zG, kd, sI, sJ, sD, tI, tJ]
  · rw [va_up_ne _ _ hb]
    exact zG_cong (fun k => by simp [sI, sJ, sD, hb]) (fun k => by simp [sI, sJ, sD, hb]) (fun h => by simp_all [sI, sJ, sD]) (fun k => by simp [tI, tJ, hb]) (fun k => by simp [tI, tJ, hb])
theorem zU32_8 (E : zE) (c : zC) (mo : zM)  (v : Int32) : va_up (zG E c mo) 32 (.inr (3, [.ref (zl E 33), .ref (zl E 34), .ref (zl E 35), .int (mo.1 32 3), .ref (zl E 36), .ref (zl E 37), .ref (zl E 38), .int (mo.1 32 7), .int v, .long (mo.2 32 9), .int (mo.1 32 10), .int (mo.1 32 11), .ref (zl E 39), .int (mo.1 32 13), .ref (zl E 40), .int (mo.1 32 15), .ref (zl E 41), .int (mo.1 32 17)])) = zG E c (tI mo 32 8 v) := by
  funext b
  by_cases hb : b = 32
  · subst hb
    simp [va_up, zG, kd, sI, sJ, sD, tI, tJ]
  · rw [va_up_ne _ _ hb]
    exact zG_cong (fun k => by simp [sI, sJ, sD, hb]) (fun k => by simp [sI, sJ, sD, hb]) (fun h => by simp_all [sI, sJ, sD]) (fun k => by simp [tI, tJ, hb]) (fun k => by simp [tI, tJ, hb])
theorem zU32_10 (E : zE) (c : zC) (mo : zM)  (v : Int32) : va_up (zG E c mo) 32 (.inr (3, [.ref (zl E 33), .ref (zl E 34), .ref (zl E 35), .int (mo.1 32 3), .ref (zl E 36), .ref (zl E 37), .ref (zl E 38), .int (mo.1 32 7), .int (mo.1 32 8), .long (mo.2 32 9), .int v, .int (mo.1 32 11), .ref (zl E 39), .int (mo.1 32 13), .ref (zl E 40), .int (mo.1 32 15), .ref (zl E 41), .int (mo.1 32 17)])) = zG E c (tI mo 32 10 v) := by
  funext b
  by_cases hb : b = 32
  · subst hb
    simp [va_up, zG, kd, sI, sJ, sD, tI, tJ]
  · rw [va_up_ne _ _ hb]
    exact zG_cong (fun k => by simp [sI, sJ, sD, hb]) (fun k => by simp [sI, sJ, sD, hb]) (fun h => by simp_all [sI, sJ, sD]) (fun k => by simp [tI, tJ, hb]) (fun k => by simp [tI, tJ, hb])
theorem zU32_11 (E : zE) (c : zC) (mo : zM)  (v : Int32) : va_up (zG E c mo) 32 (.inr (3, [.ref (zl E 33), .ref (zl E 34), .ref (zl E 35), .int (mo.1 32 3), .ref (zl E 36), .ref (zl E 37), .ref (zl E 38), .int (mo.1 32 7), .int (mo.1 32 8), .long (mo.2 32 9), .int (mo.1 32 10), .int v, .ref (zl E 39), .int (mo.1 32 13), .ref (zl E 40), .int (mo.1 32 15), .ref (zl E 41), .int (mo.1 32 17)])) = zG E c (tI mo 32 11 v) := by
  funext b
  by_cases hb : b = 32
  · subst hb
    simp [va_up, zG, kd, sI, sJ, sD, tI, tJ]
  · rw [va_up_ne _ _ hb]
    exact zG_cong (fun k => by simp [sI, sJ, sD, hb]) (fun k => by simp [sI, sJ, sD, hb]) (fun h => by simp_all [sI, sJ, sD]) (fun k => by simp [tI, tJ, hb]) (fun k => by simp [tI, tJ, hb])
theorem zU32_13 (E : zE) (c : zC) (mo : zM)  (v : Int32) : va_up (zG E c mo) 32 (.inr (3, [.ref (zl E 33), .ref (zl E 34), .ref (zl E 35), .int (mo.1 32 3), .ref (zl E 36), .ref (zl E 37), .ref (zl E 38), .int (mo.1 32 7), .int (mo.1 32 8), .long (mo.2 32 9), .int (mo.1 32 10), .int (mo.1 32 11), .ref (zl E 39), .int v, .ref (zl E 40), .int (mo.1 32 15), .ref (zl E 41), .int (mo.1 32 17)])) = zG E c (tI mo 32 13 v) := by
  funext b
  by_cases hb : b = 32
  · subst hb
    simp [va_up, zG, kd, sI, sJ, sD, tI, tJ]
  · rw [va_up_ne _ _ hb]
    exact zG_cong (fun k => by simp [sI, sJ, sD, hb]) (fun k => by simp [sI, sJ, sD, hb]) (fun h => by simp_all [sI, sJ, sD]) (fun k => by simp [tI, tJ, hb]) (fun k => by simp [tI, tJ, hb])
theorem zU32_15 (E : zE) (c : zC) (mo : zM)  (v : Int32) : va_up (zG E c mo) 32 (.inr (3, [.ref (zl E 33), .ref (zl E 34), .ref (zl E 35), .int (mo.1 32 3), .ref (zl E 36), .ref (zl E 37), .ref (zl E 38), .int (mo.1 32 7), .int (mo.1 32 8), .long (mo.2 32 9), .int (mo.1 32 10), .int (mo.1 32 11), .ref (zl E 39), .int (mo.1 32 13), .ref (zl E 40), .int v, .ref (zl E 41), .int (mo.1 32 17)])) = zG E c (tI mo 32 15 v) := by
  funext b
  by_cases hb : b = 32
  · subst hb
    simp [va_up, zG, kd, sI, sJ, sD, tI, tJ]
  · rw [va_up_ne _ _ hb]
    exact zG_cong (fun k => by simp [sI, sJ, sD, hb]) (fun k => by simp [sI, sJ, sD, hb]) (fun h => by simp_all [sI, sJ, sD]) (fun k => by simp [tI, tJ, hb]) (fun k => by simp [tI, tJ, hb])
theorem zU32_17 (E : zE) (c : zC) (mo : zM)  (v : Int32) : va_up (zG E c mo) 32 (.inr (3, [.ref (zl E 33), .ref (zl E 34), .ref (zl E 35), .int (mo.1 32 3), .ref (zl E 36), .ref (zl E 37), .ref (zl E 38), .int (mo.1 32 7), .int (mo.1 32 8), .long (mo.2 32 9), .int (mo.1 32 10), .int (mo.1 32 11), .ref (zl E 39), .int (mo.1 32 13), .ref (zl E 40), .int (mo.1 32 15), .ref (zl E 41), .int v])) = zG E c (tI mo 32 17 v) := by
  funext b
  by_cases hb : b = 32
  · subst hb
    simp [va_up, zG, kd, sI, sJ, sD, tI, tJ]
  · rw [va_up_ne _ _ hb]
    exact zG_cong (fun k => by simp [sI, sJ, sD, hb]) (fun k => by simp [sI, sJ, sD, hb]) (fun h => by simp_all [sI, sJ, sD]) (fun k => by simp [tI, tJ, hb]) (fun k => by simp [tI, tJ, hb])
theorem zU32_9 (E : zE) (c : zC) (mo : zM)  (v : Int64) : va_up (zG E c mo) 32 (.inr (3, [.ref (zl E 33), .ref (zl E 34), .ref (zl E 35), .int (mo.1 32 3), .ref (zl E 36), .ref (zl E 37), .ref (zl E 38), .int (mo.1 32 7), .int (mo.1 32 8), .long v, .int (mo.1 32 10), .int (mo.1 32 11), .ref (zl E 39), .int (mo.1 32 13), .ref (zl E 40), .int (mo.1 32 15), .ref (zl E 41), .int (mo.1 32 17)])) = zG E c (tJ mo 32 9 v) := by
  funext b
  by_cases hb : b = 32
  · subst hb
    simp [va_up, zG, kd, sI, sJ, sD, tI, tJ]
  · rw [va_up_ne _ _ hb]
    exact zG_cong (fun k => by simp [sI, sJ, sD, hb]) (fun k => by simp [sI, sJ, sD, hb]) (fun h => by simp_all [sI, sJ, sD]) (fun k => by simp [tI, tJ, hb]) (fun k => by simp [tI, tJ, hb])
theorem zU6_0 (E : zE) (c : zC) (mo : zM) {i : Nat} (h : kd i = 6) (v : Int32) : va_up (zG E c mo) i (.inr (0, [.int v, .int (c.1 i 1), .int (c.1 i 2), .ref (zl E (i + 9))])) = zG E (sI c i 0 v) mo := by
  funext b
  by_cases hb : b = i
  · subst hb
    simp [va_up, zG, sI, h]
  · rw [va_up_ne _ _ hb]
    exact zG_cong (fun k => by simp [sI, hb]) (fun k => rfl) (fun h => rfl) (fun k => rfl) (fun k => rfl)
theorem zU6_1 (E : zE) (c : zC) (mo : zM) {i : Nat} (h : kd i = 6) (v : Int32) : va_up (zG E c mo) i (.inr (0, [.int (c.1 i 0), .int v, .int (c.1 i 2), .ref (zl E (i + 9))])) = zG E (sI c i 1 v) mo := by
  funext b
  by_cases hb : b = i
  · subst hb
    simp [va_up, zG, sI, h]
  · rw [va_up_ne _ _ hb]
    exact zG_cong (fun k => by simp [sI, hb]) (fun k => rfl) (fun h => rfl) (fun k => rfl) (fun k => rfl)
theorem zU6_2 (E : zE) (c : zC) (mo : zM) {i : Nat} (h : kd i = 6) (v : Int32) : va_up (zG E c mo) i (.inr (0, [.int (c.1 i 0), .int (c.1 i 1), .int v, .ref (zl E (i + 9))])) = zG E (sI c i 2 v) mo := by
  funext b
  by_cases hb : b = i
  · subst hb
    simp [va_up, zG, sI, h]
  · rw [va_up_ne _ _ hb]
    exact zG_cong (fun k => by simp [sI, hb]) (fun k => rfl) (fun h => rfl) (fun k => rfl) (fun k => rfl)
theorem zU7_0 (E : zE) (c : zC) (mo : zM) {i : Nat} (h : kd i = 7) (v : Int32) : va_up (zG E c mo) i (.inr (1, [.int v, .int (c.1 i 1), .int (c.1 i 2), .int (c.1 i 3), .int (c.1 i 4)])) = zG E (sI c i 0 v) mo := by
  funext b
  by_cases hb : b = i
  · subst hb
    simp [va_up, zG, sI, h]
  · rw [va_up_ne _ _ hb]
    exact zG_cong (fun k => by simp [sI, hb]) (fun k => rfl) (fun h => rfl) (fun k => rfl) (fun k => rfl)
theorem zU7_1 (E : zE) (c : zC) (mo : zM) {i : Nat} (h : kd i = 7) (v : Int32) : va_up (zG E c mo) i (.inr (1, [.int (c.1 i 0), .int v, .int (c.1 i 2), .int (c.1 i 3), .int (c.1 i 4)])) = zG E (sI c i 1 v) mo := by
  funext b
  by_cases hb : b = i
  · subst hb
    simp [va_up, zG, sI, h]
  · rw [va_up_ne _ _ hb]
    exact zG_cong (fun k => by simp [sI, hb]) (fun k => rfl) (fun h => rfl) (fun k => rfl) (fun k => rfl)
theorem zU7_2 (E : zE) (c : zC) (mo : zM) {i : Nat} (h : kd i = 7) (v : Int32) : va_up (zG E c mo) i (.inr (1, [.int (c.1 i 0), .int (c.1 i 1), .int v, .int (c.1 i 3), .int (c.1 i 4)])) = zG E (sI c i 2 v) mo := by
  funext b
  by_cases hb : b = i
  · subst hb
    simp [va_up, zG, sI, h]
  · rw [va_up_ne _ _ hb]
    exact zG_cong (fun k => by simp [sI, hb]) (fun k => rfl) (fun h => rfl) (fun k => rfl) (fun k => rfl)
theorem zU7_3 (E : zE) (c : zC) (mo : zM) {i : Nat} (h : kd i = 7) (v : Int32) : va_up (zG E c mo) i (.inr (1, [.int (c.1 i 0), .int (c.1 i 1), .int (c.1 i 2), .int v, .int (c.1 i 4)])) = zG E (sI c i 3 v) mo := by
  funext b
  by_cases hb : b = i
  · subst hb
    simp [va_up, zG, sI, h]
  · rw [va_up_ne _ _ hb]
    exact zG_cong (fun k => by simp [sI, hb]) (fun k => rfl) (fun h => rfl) (fun k => rfl) (fun k => rfl)
theorem zU7_4 (E : zE) (c : zC) (mo : zM) {i : Nat} (h : kd i = 7) (v : Int32) : va_up (zG E c mo) i (.inr (1, [.int (c.1 i 0), .int (c.1 i 1), .int (c.1 i 2), .int (c.1 i 3), .int v])) = zG E (sI c i 4 v) mo := by
  funext b
  by_cases hb : b = i
  · subst hb
    simp [va_up, zG, sI, h]
  · rw [va_up_ne _ _ hb]
    exact zG_cong (fun k => by simp [sI, hb]) (fun k => rfl) (fun h => rfl) (fun k => rfl) (fun k => rfl)
theorem zUa4 (E : zE) (c : zC) (mo : zM) {i : Nat} (h : kd i = 4) (k : Nat) (v : Int32) : va_up (zG E c mo) i (.inl (zcy E 0, ln i, .inl (upd (c.1 i) k v))) = zG E (sI c i k v) mo := by
  funext b
  by_cases hb : b = i
  · subst hb
    have : upd (c.1 b) k v = (sI c b k v).1 b := by funext j; simp [upd, sI]
    simp [va_up, zG, h, this]
  · rw [va_up_ne _ _ hb]
    exact zG_cong (fun k => by simp [sI, hb]) (fun k => rfl) (fun h => rfl) (fun k => rfl) (fun k => rfl)
theorem zUa5 (E : zE) (c : zC) (mo : zM) {i : Nat} (h : kd i = 5) (k : Nat) (v : Int64) : va_up (zG E c mo) i (.inl (zcy E 1, 12, .inr (.inl (vp_updL (c.2.1 i) k v)))) = zG E (sJ c i k v) mo := by
  funext b
  by_cases hb : b = i
  · subst hb
    have : vp_updL (c.2.1 b) k v = (sJ c b k v).2.1 b := by funext j; simp [vp_updL, sJ]
    simp [va_up, zG, h, this]
  · rw [va_up_ne _ _ hb]
    exact zG_cong (fun k => rfl) (fun k => by simp [sJ, hb]) (fun h => rfl) (fun k => rfl) (fun k => rfl)
theorem zUa9 (E : zE) (c : zC) (mo : zM) {i : Nat} (h : kd i = 9) (k : Nat) (v : Int32) : va_up (zG E c mo) i (.inl (zcy E 0, ln i, .inl (upd (mo.1 i) k v))) = zG E c (tI mo i k v) := by
  funext b
  by_cases hb : b = i
  · subst hb
    have : upd (mo.1 b) k v = (tI mo b k v).1 b := by funext j; simp [upd, tI]
    simp [va_up, zG, h, this]
  · rw [va_up_ne _ _ hb]
    exact zG_cong (fun k => rfl) (fun k => rfl) (fun h => rfl) (fun k => by simp [tI, hb]) (fun k => rfl)
theorem zUa38 (E : zE) (c : zC) (mo : zM) (k : Nat) (v : Int64) : va_up (zG E c mo) 38 (.inl (zcy E 1, 60000, .inr (.inl (vp_updL (mo.2 38) k v)))) = zG E c (tJ mo 38 k v) := by
  funext b
  by_cases hb : b = 38
  · subst hb
    have : vp_updL (mo.2 38) k v = (tJ mo 38 k v).2 38 := by funext j; simp [vp_updL, tJ]
    simp [va_up, zG, kd, this]
  · rw [va_up_ne _ _ hb]
    exact zG_cong (fun k => rfl) (fun k => rfl) (fun h => rfl) (fun k => rfl) (fun k => by simp [tJ, hb])
theorem zUa1 (E : zE) (c : zC) (mo : zM) (k j : Nat) : va_up (zG E c mo) 1 (.inl (zcy E 2, 8, .inr (.inr (.inr (.inr (va_up (fun k => some (zl E (c.2.2 k))) k (some (zl E j)))))))) = zG E (sD c k j) mo := by
  funext b
  by_cases hb : b = 1
  · subst hb
    have : va_up (fun k => some (zl E (c.2.2 k))) k (some (zl E j)) = fun q => some (zl E ((sD c k j).2.2 q)) := by
      funext q
      by_cases hq : q = k <;> simp [va_up, sD, hq]
    simp only [va_up_self]
    rw [this]
    simp [zG, kd]
  · rw [va_up_ne _ _ hb]
    exact zG_cong (fun k => rfl) (fun k => rfl) (fun h => absurd h hb) (fun k => rfl) (fun k => rfl)
section ZK
variable {p : Program} {l : Launch} {e : Env} {R : Room} {s : State} {m : MethodId} {args : Array Value} {below : List Frame} {meth : Method} {cd : Code} {H0 H : Heap} {locs : List Loc} {cells slots : Nat} {Q : State → Prop} {E : zE} {c : zC} {mo : zM} {cc : ByteArray} {pc : Nat} {ls : Array Slot} {rest : List Value}
theorem y_iald (hx : p.tables.exec = Jvm.exec) (hb : cd.code = cc) (hw : zW E c mo s H0 H locs) {i n : Nat} {f : Nat → Int32} (hi : i < 42) (hG : zG E c mo i = .inl (zcy E 0, n, .inl f)) {x : Int32} (hin : vp_in x n) {k : Nat} (hk : x.toNatClampNeg = k) (hdg : decode cc pc = .ok (.iaload, 1)) (kk : W p l e R s m args below meth cd H locs cells slots Q (F0 m (pc + 1) ls (.int (f k) :: rest))) : W p l e R s m args below meth cd H locs cells slots Q (F0 m pc ls (.int x :: .ref (zl E i) :: rest)) := by
  subst hk
  exact z_iald hx hb hw hi hG hin hdg kk
theorem y_lald (hx : p.tables.exec = Jvm.exec) (hb : cd.code = cc) (hw : zW E c mo s H0 H locs) {i n : Nat} {f : Nat → Int64} (hi : i < 42) (hG : zG E c mo i = .inl (zcy E 1, n, .inr (.inl f))) {x : Int32} (hin : vp_in x n) {k : Nat} (hk : x.toNatClampNeg = k) (hdg : decode cc pc = .ok (.laload, 1)) (kk : W p l e R s m args below meth cd H locs cells slots Q (F0 m (pc + 1) ls (.long (f k) :: rest))) : W p l e R s m args below meth cd H locs cells slots Q (F0 m pc ls (.int x :: .ref (zl E i) :: rest)) := by
  subst hk
  exact z_lald hx hb hw hi hG hin hdg kk
theorem y_aald1 (hx : p.tables.exec = Jvm.exec) (hb : cd.code = cc) (hw : zW E c mo s H0 H locs) {x : Int32} (hin : vp_in x 8) {k : Nat} (hk : x.toNatClampNeg = k) (hdg : decode cc pc = .ok (.aaload, 1)) (kk : W p l e R s m args below meth cd H locs cells slots Q (F0 m (pc + 1) ls (.ref (zl E (c.2.2 k)) :: rest))) : W p l e R s m args below meth cd H locs cells slots Q (F0 m pc ls (.int x :: .ref (zl E 1) :: rest)) := by
  subst hk
  exact z_aald (f := c.2.2) (t0 := 2) (n := 8) hx hb hw (by decide) rfl rfl hin hdg kk
theorem y_aald2 (hx : p.tables.exec = Jvm.exec) (hb : cd.code = cc) (hw : zW E c mo s H0 H locs) {x : Int32} (hin : vp_in x 8) {k : Nat} (hk : x.toNatClampNeg = k) (hdg : decode cc pc = .ok (.aaload, 1)) (kk : W p l e R s m args below meth cd H locs cells slots Q (F0 m (pc + 1) ls (.ref (zl E (7 + k)) :: rest))) : W p l e R s m args below meth cd H locs cells slots Q (F0 m pc ls (.int x :: .ref (zl E 2) :: rest)) := by
  subst hk
  exact z_aald (f := fun k => 7 + k) (t0 := 2) (n := 8) hx hb hw (by decide) rfl rfl hin hdg kk
theorem y_aald3 (hx : p.tables.exec = Jvm.exec) (hb : cd.code = cc) (hw : zW E c mo s H0 H locs) {x : Int32} (hin : vp_in x 8) {k : Nat} (hk : x.toNatClampNeg = k) (hdg : decode cc pc = .ok (.aaload, 1)) (kk : W p l e R s m args below meth cd H locs cells slots Q (F0 m (pc + 1) ls (.ref (zl E (24 + k)) :: rest))) : W p l e R s m args below meth cd H locs cells slots Q (F0 m pc ls (.int x :: .ref (zl E 3) :: rest)) := by
  subst hk
  exact z_aald (f := fun k => 24 + k) (t0 := 3) (n := 8) hx hb hw (by decide) rfl rfl hin hdg kk
theorem y_iast4 (hx : p.tables.exec = Jvm.exec) (hb : cd.code = cc) (hw : zW E c mo s H0 H locs) {i : Nat} (hi : i < 42) (h : kd i = 4) {x v : Int32} (hin : vp_in x (ln i)) {k : Nat} (hk : x.toNatClampNeg = k) (hdg : decode cc pc = .ok (.iastore, 1)) (kk : ∀ (H1 : Heap) (locs1 : List Loc), zW E (sI c i k v) mo s H0 H1 locs1 → W p l e R s m args below meth cd H1 locs1 cells slots Q (F0 m (pc + 1) ls rest)) : W p l e R s m args below meth cd H locs cells slots Q (F0 m pc ls (.int v :: .int x :: .ref (zl E i) :: rest)) := by
  subst hk
  exact z_iast hx hb hw hi (zG_4 h) hin (zUa4 E c mo h _ v) hdg kk
theorem y_iast9 (hx : p.tables.exec = Jvm.exec) (hb : cd.code = cc) (hw : zW E c mo s H0 H locs) {i : Nat} (hi : i < 42) (h : kd i = 9) {x v : Int32} (hin : vp_in x (ln i)) {k : Nat} (hk : x.toNatClampNeg = k) (hdg : decode cc pc = .ok (.iastore, 1)) (kk : ∀ (H1 : Heap) (locs1 : List Loc), zW E c (tI mo i k v) s H0 H1 locs1 → W p l e R s m args below meth cd H1 locs1 cells slots Q (F0 m (pc + 1) ls rest)) : W p l e R s m args below meth cd H locs cells slots Q (F0 m pc ls (.int v :: .int x :: .ref (zl E i) :: rest)) := by
  subst hk
  exact z_iast hx hb hw hi (zG_9 h) hin (zUa9 E c mo h _ v) hdg kk
theorem y_last5 (hx : p.tables.exec = Jvm.exec) (hb : cd.code = cc) (hw : zW E c mo s H0 H locs) {i : Nat} (hi : i < 42) (h : kd i = 5) {x : Int32} {v : Int64} (hin : vp_in x 12) {k : Nat} (hk : x.toNatClampNeg = k) (hdg : decode cc pc = .ok (.lastore, 1)) (kk : ∀ (H1 : Heap) (locs1 : List Loc), zW E (sJ c i k v) mo s H0 H1 locs1 → W p l e R s m args below meth cd H1 locs1 cells slots Q (F0 m (pc + 1) ls rest)) : W p l e R s m args below meth cd H locs cells slots Q (F0 m pc ls (.long v :: .int x :: .ref (zl E i) :: rest)) := by
  subst hk
  exact z_last hx hb hw hi (zG_5 h) hin (zUa5 E c mo h _ v) hdg kk
theorem y_last38 (hx : p.tables.exec = Jvm.exec) (hb : cd.code = cc) (hw : zW E c mo s H0 H locs) {x : Int32} {v : Int64} (hin : vp_in x 60000) {k : Nat} (hk : x.toNatClampNeg = k) (hdg : decode cc pc = .ok (.lastore, 1)) (kk : ∀ (H1 : Heap) (locs1 : List Loc), zW E c (tJ mo 38 k v) s H0 H1 locs1 → W p l e R s m args below meth cd H1 locs1 cells slots Q (F0 m (pc + 1) ls rest)) : W p l e R s m args below meth cd H locs cells slots Q (F0 m pc ls (.long v :: .int x :: .ref (zl E 38) :: rest)) := by
  subst hk
  exact z_last hx hb hw (by decide) rfl hin (zUa38 E c mo _ v) hdg kk
theorem y_aast1 (hx : p.tables.exec = Jvm.exec) (hb : cd.code = cc) (hw : zW E c mo s H0 H locs) {j : Nat} (hj : kd j = 6) {x : Int32} (hin : vp_in x 8) {k : Nat} (hk : x.toNatClampNeg = k) (hdg : decode cc pc = .ok (.aastore, 1)) (kk : ∀ (H1 : Heap) (locs1 : List Loc), zW E (sD c k j) mo s H0 H1 locs1 → W p l e R s m args below meth cd H1 locs1 cells slots Q (F0 m (pc + 1) ls rest)) : W p l e R s m args below meth cd H locs cells slots Q (F0 m pc ls (.ref (zl E j) :: .int x :: .ref (zl E 1) :: rest)) := by
  subst hk
  exact z_aast (t0 := 2) (n := 8) (q := (RX0, TX0, 4)) hx hb hw (by decide) (kd6l hj) rfl (zG_6 hj) rfl rfl hin (zUa1 E c mo _ j) hdg kk
end ZK
