def wfC (c : zC) : Prop := (∀ k, k < 8 → kd (c.2.2 k) = 6) ∧ (∀ j, kd j = 6 → plOk c j) ∧ (∃ n, n ≤ 8 ∧ c.1 0 7 = nI n) ∧ (∃ n, n ≤ 8 ∧ c.1 0 9 = nI n)
theorem in_lt {x : Int32} {n : Nat} (h : vp_in x n) : x.toNatClampNeg < n := Nat.not_le.mp fun q => h (Or.inr q)
theorem in_mono {x : Int32} {n k : Nat} (h : vp_in x n) (hk : n ≤ k) : vp_in x k := fun q => h (q.elim Or.inl (fun z => Or.inr (by omega)))
theorem fRow_5 (c : zC) (j : Nat) : vp_in (fRow c j) 5 := by
  unfold fRow
  (repeat' split) <;> exact vp_in_iff.mpr (by decide)
theorem fCome_5 (c : zC) (j : Nat) (i : Int32) : vp_in (fCome c j i) 5 := by
  unfold fCome
  (repeat' split) <;> first | exact vp_in_iff.mpr (by decide) | exact fRow_5 c j
theorem fLay_5 (c : zC) (j : Nat) (i k : Int32) : vp_in (fLay c j i k) 5 := by
  unfold fLay
  (repeat' split) <;> first | exact vp_in_iff.mpr (by decide) | exact fCome_5 c j i
theorem fCome_pl {c : zC} {j : Nat} {i : Int32} (h : fCome c j i = 0) (hp : plOk c j) : vp_in i (pl c j) := by
  unfold fCome at h
  split at h
  · split at h
    · exact absurd h (by decide)
    · split at h
      · rename_i h0 h1 h2
        rw [hp.2, Int32.lt_iff_toInt_lt, nI_toInt (by have := hp.1; omega)] at h2
        have e1 : ¬ i.toInt < 0 := fun q => h1 (Int32.lt_iff_toInt_lt.mpr q)
        exact vp_in_iff.mpr ⟨by omega, h2⟩
      · exact absurd h (by decide)
  · contradiction
theorem fCome_in {c : zC} {j : Nat} {i : Int32} (h : fCome c j i = 0) (hp : plOk c j) : vp_in i 12 := in_mono (fCome_pl h hp) hp.1
theorem fLay_come {c : zC} {j : Nat} {i k : Int32} (h : fLay c j i k = 0) : fCome c j i = 0 := by
  unfold fLay at h
  split at h
  · assumption
  · contradiction
theorem fLay_in {c : zC} {j : Nat} {i k : Int32} (h : fLay c j i k = 0) (hp : plOk c j) : vp_in i 12 := fCome_in (fLay_come h) hp
abbrev cj (c : zC) (d : Int32) : Nat := c.2.2 d.toNatClampNeg
def rRow (d k n : Int32) : Int32 := if isDr d = 0 then -1 else if k < 0 then -2 else if 6 < k then -2 else if n < 0 then -2 else if n ≤ 12 then n else -2
def sRow (c : zC) (d k n : Int32) : zC := if isDr d = 0 then c else if k < 0 then c else if 6 < k then c else if n < 0 then c else if n ≤ 12 then bRow (newC c d.toNatClampNeg) (nFree c d.toNatClampNeg) k n else c
def rNote (d : Int32) : Int32 := if isDr d = 0 then -1 else 1
def sNote (c : zC) (d v : Int32) : zC := if isDr d = 0 then c else bNote (newC c d.toNatClampNeg) (nFree c d.toNatClampNeg) v
def rShare (d f : Int32) : Int32 := if isDr d = 0 then -1 else if isDr f = 0 then -1 else 1
def sShare (c : zC) (d f : Int32) : zC := if isDr d = 0 then c else if isDr f = 0 then c else sD c d.toNatClampNeg (cj c f)
def rClear (c : zC) (d : Int32) : Int32 := if isDr d = 0 then -1 else if cj c d = 6 then 0 else 1
def sClear (c : zC) (d : Int32) : zC := if isDr d = 0 then c else sD c d.toNatClampNeg 6
def rThink (k : Int32) : Int32 := if k < 0 then -2 else if k ≤ 5 then 1 else -2
def sThink (c : zC) (k : Int32) (v : Int64) : zC := if k < 0 then c else if k ≤ 5 then hold c k (fVok k v) else c
def rCard (c : zC) : Int32 := if c.1 0 5 < 30 then c.1 0 5 + 1 else -3
def sCard (c : zC) : zC := if c.1 0 5 < 30 then hold (sI c 0 5 (c.1 0 5 + 1)) 6 (c.1 0 5 + 1).toInt64 else c
def rTake (c : zC) (d i : Int32) : Int32 := if isDr d = 0 then -1 else if fCome c (cj c d) i = 0 then fKind c (cj c d) i else -10 - fCome c (cj c d) i
def sTake (c : zC) (d i : Int32) : zC := if isDr d = 0 then c else if fCome c (cj c d) i = 0 then hold c (fKind c (cj c d) i) (c.2.1 (cj c d + 9) i.toNatClampNeg) else meet c (fCome c (cj c d) i)
def rLay (c : zC) (d i : Int32) : Int32 := if isDr d = 0 then -1 else if c.1 0 3 = -9 then -3 else if fLay c (cj c d) i (c.1 0 3) = 0 then 1 else -10 - fLay c (cj c d) i (c.1 0 3)
def sLay (c : zC) (d i : Int32) : zC := if isDr d = 0 then c else if c.1 0 3 = -9 then c else if fLay c (cj c d) i (c.1 0 3) = 0 then sJ c (cj c d + 9) i.toNatClampNeg (c.2.1 0 4) else meet c (fLay c (cj c d) i (c.1 0 3))
def sFau (c : zC) (d : Int32) : zC := if isDr d = 0 then c else if fRow c (cj c d) = 0 then c else meet c (fRow c (cj c d))
def rSize (c : zC) (d : Int32) : Int32 := if isDr d = 0 then -1 else if fRow c (cj c d) = 0 then c.1 (cj c d) 2 else -10 - fRow c (cj c d)
def rTurn (c : zC) (d : Int32) : Int32 := if isDr d = 0 then -1 else if fRow c (cj c d) = 0 then c.1 (cj c d) 2 / 2 else -10 - fRow c (cj c d)
def sTurn (c : zC) (d : Int32) : zC := if isDr d = 0 then c else if fRow c (cj c d) = 0 then fRev c (cj c d) else meet c (fRow c (cj c d))
def rSum (c : zC) (d : Int32) : Int64 := if isDr d = 0 then 0 else if fRow c (cj c d) = 0 then fTot c (cj c d) else 0
def rFind (c : zC) (d : Int32) : Int32 := if isDr d = 0 then -1 else if fRow c (cj c d) = 0 then fFpl c (cj c d) (c.1 0 3) (c.2.1 0 4) else -10 - fRow c (cj c d)
def fPo (c : zC) (a : Nat) (i : Int32) (b : Nat) (j : Int32) : Int32 := if fCome c a i = 0 then fLay c b j (fKind c a i) else fCome c a i
def sPo (c : zC) (a : Nat) (i : Int32) (b : Nat) (j : Int32) : zC := if fCome c a i = 0 then (if fLay c b j (fKind c a i) = 0 then sJ c (b + 9) j.toNatClampNeg (c.2.1 (a + 9) i.toNatClampNeg) else c) else c
theorem fPo_5 (c : zC) (a : Nat) (i : Int32) (b : Nat) (j : Int32) : vp_in (fPo c a i b j) 5 := by
  unfold fPo
  split
  · exact fLay_5 _ _ _ _
  · exact fCome_5 _ _ _
def fSw (c : zC) (a : Nat) (i : Int32) (b : Nat) (j : Int32) : Int32 := if fCome c a i = 0 then (if fCome c b j = 0 then (if fLay c a i (fKind c b j) = 0 then fLay c b j (fKind c a i) else fLay c a i (fKind c b j)) else fCome c b j) else fCome c a i
theorem fSw_5 (c : zC) (a : Nat) (i : Int32) (b : Nat) (j : Int32) : vp_in (fSw c a i b j) 5 := by
  unfold fSw
  split
  · split
    · split
      · exact fLay_5 c b j (fKind c a i)
      · exact fLay_5 c a i (fKind c b j)
    · exact fCome_5 c b j
  · exact fCome_5 c a i
theorem fSw_a {c : zC} {a : Nat} {i : Int32} {b : Nat} {j : Int32} (h : fSw c a i b j = 0) : fCome c a i = 0 ∧ fCome c b j = 0 := by
  unfold fSw at h
  split at h
  · split at h
    · exact ⟨by assumption, by assumption⟩
    · contradiction
  · contradiction
def rSwap (c : zC) (a i b j : Int32) : Int32 := if isDr a = 0 then -1 else if isDr b = 0 then -1 else if fSw c (cj c a) i (cj c b) j = 0 then 1 else -10 - fSw c (cj c a) i (cj c b) j
def sSwap (c : zC) (a i b j : Int32) : zC := if isDr a = 0 then c else if isDr b = 0 then c else if fSw c (cj c a) i (cj c b) j = 0 then sJ (sJ c (cj c a + 9) i.toNatClampNeg (c.2.1 (cj c b + 9) j.toNatClampNeg)) (cj c b + 9) j.toNatClampNeg (c.2.1 (cj c a + 9) i.toNatClampNeg) else meet c (fSw c (cj c a) i (cj c b) j)
def porN (d t : Nat) (i j n : Int32) : Nat → Nat → zC → Int32 × zC
  | 0, _, c => (n, c)
  | m + 1, k, c => if fPo c (c.2.2 d) (i + nI k) (c.2.2 t) (j + nI k) = 0 then porN d t i j n m (k + 1) (sPo c (c.2.2 d) (i + nI k) (c.2.2 t) (j + nI k)) else (-100 + nI k, meet c (fPo c (c.2.2 d) (i + nI k) (c.2.2 t) (j + nI k)))
def pPour (c : zC) (d i t j n : Int32) : Int32 × zC := if isDr d = 0 then (-1, c) else if isDr t = 0 then (-1, c) else if isTi i = 0 then (-2, c) else if isTi j = 0 then (-2, c) else if n < 0 then (-2, c) else if n ≤ 12 then porN d.toNatClampNeg t.toNatClampNeg i j n n.toNatClampNeg 0 c else (-2, c)
def wr (c : zC) (o : Nat) (p a i b j : Int32) : zC := sI (sI (sI (sI (sI c o 0 p) o 1 a) o 2 i) o 3 b) o 4 j
def rOrd (c : zC) (p a i b j : Int32) : Int32 := if isDr a = 0 then -1 else if isDr b = 0 then -1 else if p < 0 then -2 else if 4 < p then -2 else if isTi i = 0 then -2 else if isTi j = 0 then -2 else if c.1 0 7 < 8 then (wr c (24 + (c.1 0 7).toNatClampNeg) p a i b j).1 0 7 + 1 else -3
def sOrd (c : zC) (p a i b j : Int32) : zC := if isDr a = 0 then c else if isDr b = 0 then c else if p < 0 then c else if 4 < p then c else if isTi i = 0 then c else if isTi j = 0 then c else if c.1 0 7 < 8 then sI (wr c (24 + (c.1 0 7).toNatClampNeg) p a i b j) 0 7 ((wr c (24 + (c.1 0 7).toNatClampNeg) p a i b j).1 0 7 + 1) else c
def sPerf (c : zC) (o : Nat) : zC := if c.1 o 0 = 0 then sTake c (c.1 o 1) (c.1 o 2) else if c.1 o 0 = 1 then sLay c (c.1 o 3) (c.1 o 4) else if c.1 o 0 = 2 then sSwap c (c.1 o 1) (c.1 o 2) (c.1 o 3) (c.1 o 4) else if c.1 o 0 = 3 then sTurn c (c.1 o 1) else (pPour c (c.1 o 1) (c.1 o 2) (c.1 o 3) (c.1 o 4) 3).2
def rMet (c : zC) (k : Int32) : Int32 := if k < 0 then -9 else if k < c.1 0 9 then c.1 4 k.toNatClampNeg else -9
def rFaus (c : zC) (f : Int32) : Int32 := if f < 0 then -9 else if f ≤ 4 then c.1 5 f.toNatClampNeg else -9
def rTold (c : zC) (d w : Int32) : Int32 := if isDr d = 0 then -1 else if w = 0 then c.1 (cj c d) 0 else if w = 1 then (if fIsR c (cj c d) = 0 then 0 else fHol c (cj c d)) else if w = 2 then c.1 (cj c d) 1 else -2
theorem lt_in {x : Int32} {n : Nat} (h0 : ¬ x < 0) (h : x < nI n) (hn : n < 2 ^ 31) : vp_in x n := by
  rw [Int32.lt_iff_toInt_lt, nI_toInt hn] at h
  have e1 : ¬ x.toInt < 0 := fun q => h0 (Int32.lt_iff_toInt_lt.mpr q)
  exact vp_in_iff.mpr ⟨by omega, h⟩
theorem le_in {x : Int32} {n : Nat} (h0 : ¬ x < 0) (h : x ≤ nI n) (hn : n < 2 ^ 31) : vp_in x (n + 1) := by
  rw [Int32.le_iff_toInt_le, nI_toInt hn] at h
  have e1 : ¬ x.toInt < 0 := fun q => h0 (Int32.lt_iff_toInt_lt.mpr q)
  exact vp_in_iff.mpr ⟨by omega, by omega⟩
theorem in_nI {x : Int32} {n : Nat} (h : vp_in x n) (hn : n < 2 ^ 31) : x = nI x.toNatClampNeg := by
  obtain ⟨k, hk, rfl⟩ := vp_in_of h hn
  rw [nI_clamp (by omega)]
set_option maxHeartbeats 4000000 in
set_option maxRecDepth 100000 in
theorem k_X1_write (l : Launch) (E : zE) (c : zC) (mo : zM) (o : Nat) (op : Int32) (a : Int32) (i : Int32) (b : Int32) (j : Int32) (ho : kd o = 7) : Met l yX1_write wsX1_write (zR 0 0) (zP E c mo [.ref (zl E o), .int op, .int a, .int i, .int b, .int j]) (cQv E (wr c o op a i b j) mo) 0 0 (zA E) := by
  refine z_ent (cc := cX1_write) (maxL := 6) (ret := none) (vs := [.ref (zl E o), .int op, .int a, .int i, .int b, .int j]) (by decide) rfl (Nat.le_of_ble_eq_true rfl) ?_
  intro p e s m below meth cd ls hx hb hr hml hown hts hlocks hl hw
  have hl : lv_has ls 6 [(0, .ref (zl E o)), (1, .int op), (2, .int a), (3, .int i), (4, .int b), (5, .int j)] := hl
  have hown : s.vm.findClass RX1 = some m.cls := hown
  have hin1 : ∀ w ∈ u_ws RX1 TX1 5, w ∈ wsX1_write := by decide +kernel
  refine lv_aload_n hx hb dX1_write_0 rfl (lv_at hl 0 rfl) ?_
  refine lv_iload_n hx hb dX1_write_1 rfl (lv_at hl 1 rfl) ?_
  refine z_put (i := o) (ty := .int) hx hb hts hin1 tyX1 tyX1_ok nmX1 hown hw (kd7l ho) (zG_7 ho) rfl 0 (by decide) (hts (.fieldLink RX1 7 "SeedDrawers$Order" "op" "I") (by decide +kernel)) rfl rfl (by decide +kernel) rfl rfl (Nat.le_of_ble_eq_true rfl) (zU7_0 E c mo ho op) dX1_write_2 (fun H locs hw => ?_)
  refine lv_aload_n hx hb dX1_write_5 rfl (lv_at hl 0 rfl) ?_
  refine lv_iload_n hx hb dX1_write_6 rfl (lv_at hl 2 rfl) ?_
  refine z_put (i := o) (ty := .int) hx hb hts hin1 tyX1 tyX1_ok nmX1 hown hw (kd7l ho) (zG_7 ho) rfl 1 (by decide) (hts (.fieldLink RX1 13 "SeedDrawers$Order" "a" "I") (by decide +kernel)) rfl rfl (by decide +kernel) rfl rfl (Nat.le_of_ble_eq_true rfl) (zU7_1 E (sI c o 0 op) mo ho a) dX1_write_7 (fun H locs hw => ?_)
  refine lv_aload_n hx hb dX1_write_10 rfl (lv_at hl 0 rfl) ?_
  refine lv_iload_n hx hb dX1_write_11 rfl (lv_at hl 3 rfl) ?_
  refine z_put (i := o) (ty := .int) hx hb hts hin1 tyX1 tyX1_ok nmX1 hown hw (kd7l ho) (zG_7 ho) rfl 2 (by decide) (hts (.fieldLink RX1 16 "SeedDrawers$Order" "i" "I") (by decide +kernel)) rfl rfl (by decide +kernel) rfl rfl (Nat.le_of_ble_eq_true rfl) (zU7_2 E (sI (sI c o 0 op) o 1 a) mo ho i) dX1_write_12 (fun H locs hw => ?_)
  refine lv_aload_n hx hb dX1_write_15 rfl (lv_at hl 0 rfl) ?_
  refine lv_iload hx hb dX1_write_16 (lv_at hl 4 rfl) ?_
  refine z_put (i := o) (ty := .int) hx hb hts hin1 tyX1 tyX1_ok nmX1 hown hw (kd7l ho) (zG_7 ho) rfl 3 (by decide) (hts (.fieldLink RX1 19 "SeedDrawers$Order" "b" "I") (by decide +kernel)) rfl rfl (by decide +kernel) rfl rfl (Nat.le_of_ble_eq_true rfl) (zU7_3 E (sI (sI (sI c o 0 op) o 1 a) o 2 i) mo ho b) dX1_write_18 (fun H locs hw => ?_)
  refine lv_aload_n hx hb dX1_write_21 rfl (lv_at hl 0 rfl) ?_
  refine lv_iload hx hb dX1_write_22 (lv_at hl 5 rfl) ?_
  refine z_put (i := o) (ty := .int) hx hb hts hin1 tyX1 tyX1_ok nmX1 hown hw (kd7l ho) (zG_7 ho) rfl 4 (by decide) (hts (.fieldLink RX1 22 "SeedDrawers$Order" "j" "I") (by decide +kernel)) rfl rfl (by decide +kernel) rfl rfl (Nat.le_of_ble_eq_true rfl) (zU7_4 E (sI (sI (sI (sI c o 0 op) o 1 a) o 2 i) o 3 b) mo ho j) dX1_write_24 (fun H locs hw => ?_)
  exact z_vret hx hb hr hlocks hw dX1_write_27 (by rfl) rfl
set_option maxHeartbeats 4000000 in
set_option maxRecDepth 100000 in
theorem k_X2_row (l : Launch) (E : zE) (c : zC) (mo : zM) (d : Int32) (k : Int32) (n : Int32) (hwf : wfC c) : Met l yX2_row wsX2_row (zR 2 46) (zP E c mo [.ref (zl E 0), .int d, .int k, .int n]) (cQi E (rRow d k n) (sRow c d k n) mo) 0 0 (zA E) := by
  refine z_ent (cc := cX2_row) (maxL := 4) (ret := (some .int)) (vs := [.ref (zl E 0), .int d, .int k, .int n]) (by decide) rfl (Nat.le_of_ble_eq_true rfl) ?_
  intro p e s m below meth cd ls hx hb hr hml hown hts hlocks hl hw
  have hl : lv_has ls 4 [(0, .ref (zl E 0)), (1, .int d), (2, .int k), (3, .int n)] := hl
  have hown : s.vm.findClass RX2 = some m.cls := hown
  refine lv_iload_n hx hb dX2_row_0 rfl (lv_at hl 1 rfl) ?_
  refine z_calli (rest := []) (va_runS (As := [.int d]) (rest := []) ⟨hx, hb, hml, hown, hts⟩ (k_X2_isDrawer l E c mo d ) (va_cwS 1 hts gX2_row_X2_isDrawer rfl rfl rfl (by decide +kernel) ⟨Nat.le_of_ble_eq_true rfl, Nat.le_of_ble_eq_true rfl⟩) (z_preS hw [.int d]) rfl rfl hl.1 rfl (lv_room (Nat.le_of_ble_eq_true rfl)) dX2_row_1 ⟨Nat.le_of_ble_eq_true rfl, Nat.le_of_ble_eq_true rfl⟩) hw (fun H locs hw => ?_)
  refine lv_if_ne (tgt := 9) hx hb dX2_row_4 (by decide) (fun q_1 => ?_) (fun q_1 => ?_)
  · have _ := hx
    refine lv_iload_n hx hb dX2_row_9 rfl (lv_at hl 2 rfl) ?_
    refine lv_if_lt (tgt := 29) hx hb dX2_row_10 (by decide) (fun q_2 => ?_) (fun q_2 => ?_)
    · have _ := hx
      refine lv_bipush (v := (-2)) hx hb dX2_row_29 (by decide) ?_
      exact z_iret hx hb hr hlocks hw dX2_row_31 (by first | (simp [rRow, sRow, q_1, q_2]; done) | (simp_all [rRow, sRow]; done)) (by first | (simp [rRow, sRow, q_1, q_2]; done) | (simp_all [rRow, sRow]; done)) rfl
    · have _ := hx
      refine lv_iload_n hx hb dX2_row_13 rfl (lv_at hl 2 rfl) ?_
      refine lv_bipush (v := 6) hx hb dX2_row_14 (by decide) ?_
      refine lv_icmp_gt (tgt := 29) hx hb dX2_row_16 (by decide) (fun q_3 => ?_) (fun q_3 => ?_)
      · have _ := hx
        refine lv_bipush (v := (-2)) hx hb dX2_row_29 (by decide) ?_
        exact z_iret hx hb hr hlocks hw dX2_row_31 (by first | (simp [rRow, sRow, q_1, q_2, q_3]; done) | (simp_all [rRow, sRow]; done)) (by first | (simp [rRow, sRow, q_1, q_2, q_3]; done) | (simp_all [rRow, sRow]; done)) rfl
      · have _ := hx
        refine lv_iload_n hx hb dX2_row_19 rfl (lv_at hl 3 rfl) ?_
        refine lv_if_lt (tgt := 29) hx hb dX2_row_20 (by decide) (fun q_4 => ?_) (fun q_4 => ?_)
        · have _ := hx
          refine lv_bipush (v := (-2)) hx hb dX2_row_29 (by decide) ?_
          exact z_iret hx hb hr hlocks hw dX2_row_31 (by first | (simp [rRow, sRow, q_1, q_2, q_3, q_4]; done) | (simp_all [rRow, sRow]; done)) (by first | (simp [rRow, sRow, q_1, q_2, q_3, q_4]; done) | (simp_all [rRow, sRow]; done)) rfl
        · have _ := hx
          refine lv_iload_n hx hb dX2_row_23 rfl (lv_at hl 3 rfl) ?_
          refine lv_bipush (v := 12) hx hb dX2_row_24 (by decide) ?_
          refine lv_icmp_le (tgt := 32) hx hb dX2_row_26 (by decide) (fun q_5 => ?_) (fun q_5 => ?_)
          · have _ := hx
            refine lv_aload_n hx hb dX2_row_32 rfl (lv_at hl 0 rfl) ?_
            refine lv_iload_n hx hb dX2_row_33 rfl (lv_at hl 1 rfl) ?_
            refine z_callr (rest := []) (va_runV (As := [.int d]) (rest := []) ⟨hx, hb, hml, hown, hts⟩ (k_X2_newContent l E c mo d (isDr_in (by assumption)) hwf.1) (cwV 1 hts gX2_row_X2_newContent rfl rfl rfl (by decide +kernel) ⟨Nat.le_of_ble_eq_true rfl, Nat.le_of_ble_eq_true rfl⟩) (z_preV hw (by decide) zG_0 rfl [.int d]) rfl rfl hl.1 rfl (lv_room (Nat.le_of_ble_eq_true rfl)) dX2_row_34 ⟨Nat.le_of_ble_eq_true rfl, Nat.le_of_ble_eq_true rfl⟩) hw (fun H locs hw => ?_)
            have hf_6 : kd (nFree c d.toNatClampNeg) = 6 := nFree_in _ _
            refine lv_iload_n hx hb dX2_row_37 rfl (lv_at hl 2 rfl) ?_
            refine lv_iload_n hx hb dX2_row_38 rfl (lv_at hl 3 rfl) ?_
            refine z_callv (rest := []) (va_runV (As := [.int k, .int n]) (rest := []) ⟨hx, hb, hml, hown, hts⟩ (k_X0_becomeRow l E (newC c d.toNatClampNeg) mo (nFree c d.toNatClampNeg) k n hf_6) (cwV 2 hts gX2_row_X0_becomeRow rfl rfl rfl (by decide +kernel) ⟨Nat.le_of_ble_eq_true rfl, Nat.le_of_ble_eq_true rfl⟩) (z_preV hw (kd6l hf_6) (zG_6 hf_6) rfl [.int k, .int n]) rfl rfl hl.1 rfl (lv_room (Nat.le_of_ble_eq_true rfl)) dX2_row_39 ⟨Nat.le_of_ble_eq_true rfl, Nat.le_of_ble_eq_true rfl⟩) hw (fun H locs hw => ?_)
            refine lv_iload_n hx hb dX2_row_42 rfl (lv_at hl 3 rfl) ?_
            exact z_iret hx hb hr hlocks hw dX2_row_43 (by first | (simp [rRow, sRow, q_1, q_2, q_3, q_4, q_5]; done) | (simp_all [rRow, sRow]; done)) (by first | (simp [rRow, sRow, q_1, q_2, q_3, q_4, q_5]; done) | (simp_all [rRow, sRow]; done)) rfl
          · have _ := hx
            refine lv_bipush (v := (-2)) hx hb dX2_row_29 (by decide) ?_
            exact z_iret hx hb hr hlocks hw dX2_row_31 (by first | (simp [rRow, sRow, q_1, q_2, q_3, q_4, q_5]; done) | (simp_all [rRow, sRow]; done)) (by first | (simp [rRow, sRow, q_1, q_2, q_3, q_4, q_5]; done) | (simp_all [rRow, sRow]; done)) rfl
  · have _ := hx
    refine lv_iconst (v := (-1)) hx hb dX2_row_7 (by decide) ?_
    exact z_iret hx hb hr hlocks hw dX2_row_8 (by first | (simp [rRow, sRow, q_1]; done) | (simp_all [rRow, sRow]; done)) (by first | (simp [rRow, sRow, q_1]; done) | (simp_all [rRow, sRow]; done)) rfl
set_option maxHeartbeats 4000000 in
set_option maxRecDepth 100000 in
theorem k_X2_note (l : Launch) (E : zE) (c : zC) (mo : zM) (d : Int32) (v : Int32) (hwf : wfC c) : Met l yX2_note wsX2_note (zR 2 46) (zP E c mo [.ref (zl E 0), .int d, .int v]) (cQi E (rNote d) (sNote c d v) mo) 0 0 (zA E) := by
  refine z_ent (cc := cX2_note) (maxL := 3) (ret := (some .int)) (vs := [.ref (zl E 0), .int d, .int v]) (by decide) rfl (Nat.le_of_ble_eq_true rfl) ?_
  intro p e s m below meth cd ls hx hb hr hml hown hts hlocks hl hw
  have hl : lv_has ls 3 [(0, .ref (zl E 0)), (1, .int d), (2, .int v)] := hl
  have hown : s.vm.findClass RX2 = some m.cls := hown
  refine lv_iload_n hx hb dX2_note_0 rfl (lv_at hl 1 rfl) ?_
  refine z_calli (rest := []) (va_runS (As := [.int d]) (rest := []) ⟨hx, hb, hml, hown, hts⟩ (k_X2_isDrawer l E c mo d ) (va_cwS 1 hts gX2_note_X2_isDrawer rfl rfl rfl (by decide +kernel) ⟨Nat.le_of_ble_eq_true rfl, Nat.le_of_ble_eq_true rfl⟩) (z_preS hw [.int d]) rfl rfl hl.1 rfl (lv_room (Nat.le_of_ble_eq_true rfl)) dX2_note_1 ⟨Nat.le_of_ble_eq_true rfl, Nat.le_of_ble_eq_true rfl⟩) hw (fun H locs hw => ?_)
  refine lv_if_ne (tgt := 9) hx hb dX2_note_4 (by decide) (fun q_1 => ?_) (fun q_1 => ?_)
  · have _ := hx
    refine lv_aload_n hx hb dX2_note_9 rfl (lv_at hl 0 rfl) ?_
    refine lv_iload_n hx hb dX2_note_10 rfl (lv_at hl 1 rfl) ?_
    refine z_callr (rest := []) (va_runV (As := [.int d]) (rest := []) ⟨hx, hb, hml, hown, hts⟩ (k_X2_newContent l E c mo d (isDr_in (by assumption)) hwf.1) (cwV 1 hts gX2_note_X2_newContent rfl rfl rfl (by decide +kernel) ⟨Nat.le_of_ble_eq_true rfl, Nat.le_of_ble_eq_true rfl⟩) (z_preV hw (by decide) zG_0 rfl [.int d]) rfl rfl hl.1 rfl (lv_room (Nat.le_of_ble_eq_true rfl)) dX2_note_11 ⟨Nat.le_of_ble_eq_true rfl, Nat.le_of_ble_eq_true rfl⟩) hw (fun H locs hw => ?_)
    have hf_2 : kd (nFree c d.toNatClampNeg) = 6 := nFree_in _ _
    refine lv_iload_n hx hb dX2_note_14 rfl (lv_at hl 2 rfl) ?_
    refine z_callv (rest := []) (va_runV (As := [.int v]) (rest := []) ⟨hx, hb, hml, hown, hts⟩ (k_X0_becomeNote l E (newC c d.toNatClampNeg) mo (nFree c d.toNatClampNeg) v hf_2) (cwV 1 hts gX2_note_X0_becomeNote rfl rfl rfl (by decide +kernel) ⟨Nat.le_of_ble_eq_true rfl, Nat.le_of_ble_eq_true rfl⟩) (z_preV hw (kd6l hf_2) (zG_6 hf_2) rfl [.int v]) rfl rfl hl.1 rfl (lv_room (Nat.le_of_ble_eq_true rfl)) dX2_note_15 ⟨Nat.le_of_ble_eq_true rfl, Nat.le_of_ble_eq_true rfl⟩) hw (fun H locs hw => ?_)
    refine lv_iconst (v := 1) hx hb dX2_note_18 (by decide) ?_
    exact z_iret hx hb hr hlocks hw dX2_note_19 (by first | (simp [rNote, sNote, q_1]; done) | (simp_all [rNote, sNote]; done)) (by first | (simp [rNote, sNote, q_1]; done) | (simp_all [rNote, sNote]; done)) rfl
  · have _ := hx
    refine lv_iconst (v := (-1)) hx hb dX2_note_7 (by decide) ?_
    exact z_iret hx hb hr hlocks hw dX2_note_8 (by first | (simp [rNote, sNote, q_1]; done) | (simp_all [rNote, sNote]; done)) (by first | (simp [rNote, sNote, q_1]; done) | (simp_all [rNote, sNote]; done)) rfl
set_option maxHeartbeats 4000000 in
set_option maxRecDepth 100000 in
theorem k_X2_share (l : Launch) (E : zE) (c : zC) (mo : zM) (d : Int32) (f : Int32) (hwf : wfC c) : Met l yX2_share wsX2_share (zR 1 20) (zP E c mo [.ref (zl E 0), .int d, .int f]) (cQi E (rShare d f) (sShare c d f) mo) 0 0 (zA E) := by
  refine z_ent (cc := cX2_share) (maxL := 3) (ret := (some .int)) (vs := [.ref (zl E 0), .int d, .int f]) (by decide) rfl (Nat.le_of_ble_eq_true rfl) ?_
  intro p e s m below meth cd ls hx hb hr hml hown hts hlocks hl hw
  have hl : lv_has ls 3 [(0, .ref (zl E 0)), (1, .int d), (2, .int f)] := hl
  have hown : s.vm.findClass RX2 = some m.cls := hown
  have hin2 : ∀ w ∈ u_ws RX2 TX2 12, w ∈ wsX2_share := by decide +kernel
  refine lv_iload_n hx hb dX2_share_0 rfl (lv_at hl 1 rfl) ?_
  refine z_calli (rest := []) (va_runS (As := [.int d]) (rest := []) ⟨hx, hb, hml, hown, hts⟩ (k_X2_isDrawer l E c mo d ) (va_cwS 1 hts gX2_share_X2_isDrawer rfl rfl rfl (by decide +kernel) ⟨Nat.le_of_ble_eq_true rfl, Nat.le_of_ble_eq_true rfl⟩) (z_preS hw [.int d]) rfl rfl hl.1 rfl (lv_room (Nat.le_of_ble_eq_true rfl)) dX2_share_1 ⟨Nat.le_of_ble_eq_true rfl, Nat.le_of_ble_eq_true rfl⟩) hw (fun H locs hw => ?_)
  refine lv_if_eq (tgt := 14) hx hb dX2_share_4 (by decide) (fun q_1 => ?_) (fun q_1 => ?_)
  · have _ := hx
    refine lv_iconst (v := (-1)) hx hb dX2_share_14 (by decide) ?_
    exact z_iret hx hb hr hlocks hw dX2_share_15 (by first | (simp [rShare, sShare, q_1]; done) | (simp_all [rShare, sShare]; done)) (by first | (simp [rShare, sShare, q_1]; done) | (simp_all [rShare, sShare]; done)) rfl
  · have _ := hx
    refine lv_iload_n hx hb dX2_share_7 rfl (lv_at hl 2 rfl) ?_
    refine z_calli (rest := []) (va_runS (As := [.int f]) (rest := []) ⟨hx, hb, hml, hown, hts⟩ (k_X2_isDrawer l E c mo f ) (va_cwS 1 hts gX2_share_X2_isDrawer rfl rfl rfl (by decide +kernel) ⟨Nat.le_of_ble_eq_true rfl, Nat.le_of_ble_eq_true rfl⟩) (z_preS hw [.int f]) rfl rfl hl.1 rfl (lv_room (Nat.le_of_ble_eq_true rfl)) dX2_share_8 ⟨Nat.le_of_ble_eq_true rfl, Nat.le_of_ble_eq_true rfl⟩) hw (fun H locs hw => ?_)
    refine lv_if_ne (tgt := 16) hx hb dX2_share_11 (by decide) (fun q_2 => ?_) (fun q_2 => ?_)
    · have _ := hx
      refine lv_aload_n hx hb dX2_share_16 rfl (lv_at hl 0 rfl) ?_
      refine z_get (i := 0) hx hb hts hin2 hown hw (by decide) zG_0 rfl 1 (by decide) (hts (.fieldLink RX2 16 "SeedDrawers" "drawers" "[LSeedDrawers$Content;") (by decide +kernel)) rfl rfl dX2_share_17 ?_
      refine lv_iload_n hx hb dX2_share_20 rfl (lv_at hl 1 rfl) ?_
      refine lv_aload_n hx hb dX2_share_21 rfl (lv_at hl 0 rfl) ?_
      refine z_get (i := 0) hx hb hts hin2 hown hw (by decide) zG_0 rfl 1 (by decide) (hts (.fieldLink RX2 16 "SeedDrawers" "drawers" "[LSeedDrawers$Content;") (by decide +kernel)) rfl rfl dX2_share_22 ?_
      refine lv_iload_n hx hb dX2_share_25 rfl (lv_at hl 2 rfl) ?_
      refine y_aald1 hx hb hw (isDr_in (by assumption)) (k := f.toNatClampNeg) rfl dX2_share_26 ?_
      have hf_3 : kd (c.2.2 f.toNatClampNeg) = 6 := hwf.1 _ (in_lt (isDr_in (by assumption)))
      refine y_aast1 (j := c.2.2 f.toNatClampNeg) hx hb hw hf_3 (isDr_in (by assumption)) (k := d.toNatClampNeg) rfl dX2_share_27 (fun H locs hw => ?_)
      refine lv_iconst (v := 1) hx hb dX2_share_28 (by decide) ?_
      exact z_iret hx hb hr hlocks hw dX2_share_29 (by first | (simp [rShare, sShare, q_1, q_2]; done) | (simp_all [rShare, sShare]; done)) (by first | (simp [rShare, sShare, q_1, q_2]; done) | (simp_all [rShare, sShare]; done)) rfl
    · have _ := hx
      refine lv_iconst (v := (-1)) hx hb dX2_share_14 (by decide) ?_
      exact z_iret hx hb hr hlocks hw dX2_share_15 (by first | (simp [rShare, sShare, q_1, q_2]; done) | (simp_all [rShare, sShare]; done)) (by first | (simp [rShare, sShare, q_1, q_2]; done) | (simp_all [rShare, sShare]; done)) rfl
set_option maxHeartbeats 4000000 in
set_option maxRecDepth 100000 in
theorem k_X2_clear (l : Launch) (E : zE) (c : zC) (mo : zM) (d : Int32) (hwf : wfC c) : Met l yX2_clear wsX2_clear (zR 1 20) (zP E c mo [.ref (zl E 0), .int d]) (cQi E (rClear c d) (sClear c d) mo) 0 0 (zA E) := by
  refine z_ent (cc := cX2_clear) (maxL := 3) (ret := (some .int)) (vs := [.ref (zl E 0), .int d]) (by decide) rfl (Nat.le_of_ble_eq_true rfl) ?_
  intro p e s m below meth cd ls hx hb hr hml hown hts hlocks hl hw
  have hl : lv_has ls 3 [(0, .ref (zl E 0)), (1, .int d)] := hl
  have hown : s.vm.findClass RX2 = some m.cls := hown
  have hin2 : ∀ w ∈ u_ws RX2 TX2 12, w ∈ wsX2_clear := by decide +kernel
  refine lv_iload_n hx hb dX2_clear_0 rfl (lv_at hl 1 rfl) ?_
  refine z_calli (rest := []) (va_runS (As := [.int d]) (rest := []) ⟨hx, hb, hml, hown, hts⟩ (k_X2_isDrawer l E c mo d ) (va_cwS 1 hts gX2_clear_X2_isDrawer rfl rfl rfl (by decide +kernel) ⟨Nat.le_of_ble_eq_true rfl, Nat.le_of_ble_eq_true rfl⟩) (z_preS hw [.int d]) rfl rfl hl.1 rfl (lv_room (Nat.le_of_ble_eq_true rfl)) dX2_clear_1 ⟨Nat.le_of_ble_eq_true rfl, Nat.le_of_ble_eq_true rfl⟩) hw (fun H locs hw => ?_)
  refine lv_if_ne (tgt := 9) hx hb dX2_clear_4 (by decide) (fun q_1 => ?_) (fun q_1 => ?_)
  · have _ := hx
    refine lv_aload_n hx hb dX2_clear_9 rfl (lv_at hl 0 rfl) ?_
    refine z_get (i := 0) hx hb hts hin2 hown hw (by decide) zG_0 rfl 1 (by decide) (hts (.fieldLink RX2 16 "SeedDrawers" "drawers" "[LSeedDrawers$Content;") (by decide +kernel)) rfl rfl dX2_clear_10 ?_
    refine lv_iload_n hx hb dX2_clear_13 rfl (lv_at hl 1 rfl) ?_
    refine y_aald1 hx hb hw (isDr_in (by assumption)) (k := d.toNatClampNeg) rfl dX2_clear_14 ?_
    have hf_2 : kd (c.2.2 d.toNatClampNeg) = 6 := hwf.1 _ (in_lt (isDr_in (by assumption)))
    refine lv_aload_n hx hb dX2_clear_15 rfl (lv_at hl 0 rfl) ?_
    refine z_get (i := 0) hx hb hts hin2 hown hw (by decide) zG_0 rfl 0 (by decide) (hts (.fieldLink RX2 10 "SeedDrawers" "nothing" "LSeedDrawers$Content;") (by decide +kernel)) rfl rfl dX2_clear_16 ?_
    refine z_acmpne (tgt := 26) hx hb hw (kd6l hf_2) (by decide) dX2_clear_19 (by decide) (fun q_3 => ?_) (fun q_3 => ?_)
    · have _ := hx
      refine lv_iconst (v := 1) hx hb dX2_clear_26 (by decide) ?_
      refine lv_istore_n (lv' := [(2, .int 1), (0, .ref (zl E 0)), (1, .int d)]) hx hb dX2_clear_27 rfl hl (by decide) rfl (fun ls hl => ?_)
      refine lv_aload_n hx hb dX2_clear_28 rfl (lv_at hl 1 rfl) ?_
      refine z_get (i := 0) hx hb hts hin2 hown hw (by decide) zG_0 rfl 1 (by decide) (hts (.fieldLink RX2 16 "SeedDrawers" "drawers" "[LSeedDrawers$Content;") (by decide +kernel)) rfl rfl dX2_clear_29 ?_
      refine lv_iload_n hx hb dX2_clear_32 rfl (lv_at hl 2 rfl) ?_
      refine lv_aload_n hx hb dX2_clear_33 rfl (lv_at hl 1 rfl) ?_
      refine z_get (i := 0) hx hb hts hin2 hown hw (by decide) zG_0 rfl 0 (by decide) (hts (.fieldLink RX2 10 "SeedDrawers" "nothing" "LSeedDrawers$Content;") (by decide +kernel)) rfl rfl dX2_clear_34 ?_
      refine y_aast1 (j := 6) hx hb hw (by decide) (isDr_in (by assumption)) (k := d.toNatClampNeg) rfl dX2_clear_37 (fun H locs hw => ?_)
      refine lv_iload_n hx hb dX2_clear_38 rfl (lv_at hl 0 rfl) ?_
      exact z_iret hx hb hr hlocks hw dX2_clear_39 (by first | (simp [rClear, sClear, q_1, q_3]; done) | (simp_all [rClear, sClear]; done)) (by first | (simp [rClear, sClear, q_1, q_3]; done) | (simp_all [rClear, sClear]; done)) rfl
    · have _ := hx
      refine lv_iconst (v := 0) hx hb dX2_clear_22 (by decide) ?_
      refine lv_goto (tgt := 27) hx hb dX2_clear_23 (by decide) ?_
      refine lv_istore_n (lv' := [(2, .int 0), (0, .ref (zl E 0)), (1, .int d)]) hx hb dX2_clear_27 rfl hl (by decide) rfl (fun ls hl => ?_)
      refine lv_aload_n hx hb dX2_clear_28 rfl (lv_at hl 1 rfl) ?_
      refine z_get (i := 0) hx hb hts hin2 hown hw (by decide) zG_0 rfl 1 (by decide) (hts (.fieldLink RX2 16 "SeedDrawers" "drawers" "[LSeedDrawers$Content;") (by decide +kernel)) rfl rfl dX2_clear_29 ?_
      refine lv_iload_n hx hb dX2_clear_32 rfl (lv_at hl 2 rfl) ?_
      refine lv_aload_n hx hb dX2_clear_33 rfl (lv_at hl 1 rfl) ?_
      refine z_get (i := 0) hx hb hts hin2 hown hw (by decide) zG_0 rfl 0 (by decide) (hts (.fieldLink RX2 10 "SeedDrawers" "nothing" "LSeedDrawers$Content;") (by decide +kernel)) rfl rfl dX2_clear_34 ?_
      refine y_aast1 (j := 6) hx hb hw (by decide) (isDr_in (by assumption)) (k := d.toNatClampNeg) rfl dX2_clear_37 (fun H locs hw => ?_)
      refine lv_iload_n hx hb dX2_clear_38 rfl (lv_at hl 0 rfl) ?_
      exact z_iret hx hb hr hlocks hw dX2_clear_39 (by first | (simp [rClear, sClear, q_1, q_3]; done) | (simp_all [rClear, sClear]; done)) (by first | (simp [rClear, sClear, q_1, q_3]; done) | (simp_all [rClear, sClear]; done)) rfl
  · have _ := hx
    refine lv_iconst (v := (-1)) hx hb dX2_clear_7 (by decide) ?_
    exact z_iret hx hb hr hlocks hw dX2_clear_8 (by first | (simp [rClear, sClear, q_1]; done) | (simp_all [rClear, sClear]; done)) (by first | (simp [rClear, sClear, q_1]; done) | (simp_all [rClear, sClear]; done)) rfl
set_option maxHeartbeats 4000000 in
set_option maxRecDepth 100000 in
theorem k_X2_think (l : Launch) (E : zE) (c : zC) (mo : zM) (k : Int32) (v : Int64)  : Met l yX2_think wsX2_think (zR 1 23) (zP E c mo [.ref (zl E 0), .int k, .long v]) (cQi E (rThink k) (sThink c k v) mo) 0 0 (zA E) := by
  refine z_ent (cc := cX2_think) (maxL := 4) (ret := (some .int)) (vs := [.ref (zl E 0), .int k, .long v]) (by decide) rfl (Nat.le_of_ble_eq_true rfl) ?_
  intro p e s m below meth cd ls hx hb hr hml hown hts hlocks hl hw
  have hl : lv_has ls 4 [(0, .ref (zl E 0)), (1, .int k), (2, .long v)] := hl
  have hown : s.vm.findClass RX2 = some m.cls := hown
  refine lv_iload_n hx hb dX2_think_0 rfl (lv_at hl 1 rfl) ?_
  refine lv_if_lt (tgt := 9) hx hb dX2_think_1 (by decide) (fun q_1 => ?_) (fun q_1 => ?_)
  · have _ := hx
    refine lv_bipush (v := (-2)) hx hb dX2_think_9 (by decide) ?_
    exact z_iret hx hb hr hlocks hw dX2_think_11 (by first | (simp [rThink, sThink, q_1]; done) | (simp_all [rThink, sThink]; done)) (by first | (simp [rThink, sThink, q_1]; done) | (simp_all [rThink, sThink]; done)) rfl
  · have _ := hx
    refine lv_iload_n hx hb dX2_think_4 rfl (lv_at hl 1 rfl) ?_
    refine lv_iconst (v := 5) hx hb dX2_think_5 (by decide) ?_
    refine lv_icmp_le (tgt := 12) hx hb dX2_think_6 (by decide) (fun q_2 => ?_) (fun q_2 => ?_)
    · have _ := hx
      refine lv_aload_n hx hb dX2_think_12 rfl (lv_at hl 0 rfl) ?_
      refine lv_iload_n hx hb dX2_think_13 rfl (lv_at hl 1 rfl) ?_
      refine lv_iload_n hx hb dX2_think_14 rfl (lv_at hl 1 rfl) ?_
      refine lv_lload_n hx hb dX2_think_15 rfl (lv_at hl 2 rfl) ?_
      refine z_calll (rest := [.int k, .ref (zl E 0)]) (va_runS (As := [.int k, .long v]) (rest := [.int k, .ref (zl E 0)]) ⟨hx, hb, hml, hown, hts⟩ (k_X2_valueOfKind l E c mo k v ) (va_cwS 2 hts gX2_think_X2_valueOfKind rfl rfl rfl (by decide +kernel) ⟨Nat.le_of_ble_eq_true rfl, Nat.le_of_ble_eq_true rfl⟩) (z_preS hw [.int k, .long v]) rfl rfl hl.1 rfl (lv_room (Nat.le_of_ble_eq_true rfl)) dX2_think_16 ⟨Nat.le_of_ble_eq_true rfl, Nat.le_of_ble_eq_true rfl⟩) hw (fun H locs hw => ?_)
      refine z_callv (rest := []) (va_runV (As := [.int k, .long (fVok k v)]) (rest := []) ⟨hx, hb, hml, hown, hts⟩ (k_X2_hold l E c mo k (fVok k v) ) (cwV 2 hts gX2_think_X2_hold rfl rfl rfl (by decide +kernel) ⟨Nat.le_of_ble_eq_true rfl, Nat.le_of_ble_eq_true rfl⟩) (z_preV hw (by decide) zG_0 rfl [.int k, .long (fVok k v)]) rfl rfl hl.1 rfl (lv_room (Nat.le_of_ble_eq_true rfl)) dX2_think_19 ⟨Nat.le_of_ble_eq_true rfl, Nat.le_of_ble_eq_true rfl⟩) hw (fun H locs hw => ?_)
      refine lv_iconst (v := 1) hx hb dX2_think_22 (by decide) ?_
      exact z_iret hx hb hr hlocks hw dX2_think_23 (by first | (simp [rThink, sThink, q_1, q_2]; done) | (simp_all [rThink, sThink]; done)) (by first | (simp [rThink, sThink, q_1, q_2]; done) | (simp_all [rThink, sThink]; done)) rfl
    · have _ := hx
      refine lv_bipush (v := (-2)) hx hb dX2_think_9 (by decide) ?_
      exact z_iret hx hb hr hlocks hw dX2_think_11 (by first | (simp [rThink, sThink, q_1, q_2]; done) | (simp_all [rThink, sThink]; done)) (by first | (simp [rThink, sThink, q_1, q_2]; done) | (simp_all [rThink, sThink]; done)) rfl
set_option maxHeartbeats 4000000 in
set_option maxRecDepth 100000 in
theorem k_X2_card (l : Launch) (E : zE) (c : zC) (mo : zM)   : Met l yX2_card wsX2_card (zR 1 23) (zP E c mo [.ref (zl E 0)]) (cQi E (rCard c) (sCard c) mo) 0 0 (zA E) := by
  refine z_ent (cc := cX2_card) (maxL := 1) (ret := (some .int)) (vs := [.ref (zl E 0)]) (by decide) rfl (Nat.le_of_ble_eq_true rfl) ?_
  intro p e s m below meth cd ls hx hb hr hml hown hts hlocks hl hw
  have hl : lv_has ls 1 [(0, .ref (zl E 0))] := hl
  have hown : s.vm.findClass RX2 = some m.cls := hown
  have hin2 : ∀ w ∈ u_ws RX2 TX2 12, w ∈ wsX2_card := by decide +kernel
  refine lv_aload_n hx hb dX2_card_0 rfl (lv_at hl 0 rfl) ?_
  refine z_get (i := 0) hx hb hts hin2 hown hw (by decide) zG_0 rfl 5 (by decide) (hts (.fieldLink RX2 65 "SeedDrawers" "cardCount" "I") (by decide +kernel)) rfl rfl dX2_card_1 ?_
  refine lv_bipush (v := 30) hx hb dX2_card_4 (by decide) ?_
  refine lv_icmp_lt (tgt := 12) hx hb dX2_card_6 (by decide) (fun q_1 => ?_) (fun q_1 => ?_)
  · have _ := hx
    refine lv_aload_n hx hb dX2_card_12 rfl (lv_at hl 0 rfl) ?_
    refine lv_dup hx hb dX2_card_13 rfl ?_
    refine z_get (i := 0) hx hb hts hin2 hown hw (by decide) zG_0 rfl 5 (by decide) (hts (.fieldLink RX2 65 "SeedDrawers" "cardCount" "I") (by decide +kernel)) rfl rfl dX2_card_14 ?_
    refine lv_iconst (v := 1) hx hb dX2_card_17 (by decide) ?_
    refine lv_iadd hx hb dX2_card_18 ?_
    refine z_put (i := 0) (ty := .int) hx hb hts hin2 tyX2 tyX2_ok nmX2 hown hw (by decide) zG_0 rfl 5 (by decide) (hts (.fieldLink RX2 65 "SeedDrawers" "cardCount" "I") (by decide +kernel)) rfl rfl (by decide +kernel) rfl rfl (Nat.le_of_ble_eq_true rfl) (zU0_5 E c mo ((c.1 0 5) + 1)) dX2_card_19 (fun H locs hw => ?_)
    refine lv_aload_n hx hb dX2_card_22 rfl (lv_at hl 0 rfl) ?_
    refine lv_bipush (v := 6) hx hb dX2_card_23 (by decide) ?_
    refine lv_aload_n hx hb dX2_card_25 rfl (lv_at hl 0 rfl) ?_
    refine z_get (i := 0) hx hb hts hin2 hown hw (by decide) zG_0 rfl 5 (by decide) (hts (.fieldLink RX2 65 "SeedDrawers" "cardCount" "I") (by decide +kernel)) rfl rfl dX2_card_26 ?_
    refine lv_i2l (v := ((sI c 0 5 ((c.1 0 5) + 1)).1 0 5).toInt64) hx hb dX2_card_29 rfl ?_
    refine z_callv (rest := []) (va_runV (As := [.int 6, .long (((sI c 0 5 ((c.1 0 5) + 1)).1 0 5).toInt64)]) (rest := []) ⟨hx, hb, hml, hown, hts⟩ (k_X2_hold l E (sI c 0 5 ((c.1 0 5) + 1)) mo 6 (((sI c 0 5 ((c.1 0 5) + 1)).1 0 5).toInt64) ) (cwV 2 hts gX2_card_X2_hold rfl rfl rfl (by decide +kernel) ⟨Nat.le_of_ble_eq_true rfl, Nat.le_of_ble_eq_true rfl⟩) (z_preV hw (by decide) zG_0 rfl [.int 6, .long (((sI c 0 5 ((c.1 0 5) + 1)).1 0 5).toInt64)]) rfl rfl hl.1 rfl (lv_room (Nat.le_of_ble_eq_true rfl)) dX2_card_30 ⟨Nat.le_of_ble_eq_true rfl, Nat.le_of_ble_eq_true rfl⟩) hw (fun H locs hw => ?_)
    refine lv_aload_n hx hb dX2_card_33 rfl (lv_at hl 0 rfl) ?_
    refine z_get (i := 0) hx hb hts hin2 hown hw (by decide) zG_0 rfl 5 (by decide) (hts (.fieldLink RX2 65 "SeedDrawers" "cardCount" "I") (by decide +kernel)) rfl rfl dX2_card_34 ?_
    exact z_iret hx hb hr hlocks hw dX2_card_37 (by first | (simp [rCard, sCard, q_1]; done) | (simp [rCard, sCard, q_1, sI, sJ, hold]; done)) (by first | (simp [rCard, sCard, q_1]; done) | (simp [rCard, sCard, q_1, sI, sJ, hold]; done)) rfl
  · have _ := hx
    refine lv_bipush (v := (-3)) hx hb dX2_card_9 (by decide) ?_
    exact z_iret hx hb hr hlocks hw dX2_card_11 (by first | (simp [rCard, sCard, q_1]; done) | (simp [rCard, sCard, q_1, sI, sJ, hold]; done)) (by first | (simp [rCard, sCard, q_1]; done) | (simp [rCard, sCard, q_1, sI, sJ, hold]; done)) rfl
set_option maxHeartbeats 4000000 in
set_option maxRecDepth 100000 in
theorem k_X2_drop (l : Launch) (E : zE) (c : zC) (mo : zM)   : Met l yX2_drop wsX2_drop (zR 1 23) (zP E c mo [.ref (zl E 0)]) (cQi E (c.1 0 3) (hold c (-9) 0) mo) 0 0 (zA E) := by
  refine z_ent (cc := cX2_drop) (maxL := 2) (ret := (some .int)) (vs := [.ref (zl E 0)]) (by decide) rfl (Nat.le_of_ble_eq_true rfl) ?_
  intro p e s m below meth cd ls hx hb hr hml hown hts hlocks hl hw
  have hl : lv_has ls 2 [(0, .ref (zl E 0))] := hl
  have hown : s.vm.findClass RX2 = some m.cls := hown
  have hin2 : ∀ w ∈ u_ws RX2 TX2 12, w ∈ wsX2_drop := by decide +kernel
  refine lv_aload_n hx hb dX2_drop_0 rfl (lv_at hl 0 rfl) ?_
  refine z_get (i := 0) hx hb hts hin2 hown hw (by decide) zG_0 rfl 3 (by decide) (hts (.fieldLink RX2 23 "SeedDrawers" "handKind" "I") (by decide +kernel)) rfl rfl dX2_drop_1 ?_
  refine lv_istore_n (lv' := [(1, .int (c.1 0 3)), (0, .ref (zl E 0))]) hx hb dX2_drop_4 rfl hl (by decide) rfl (fun ls hl => ?_)
  refine lv_aload_n hx hb dX2_drop_5 rfl (lv_at hl 1 rfl) ?_
  refine lv_bipush (v := (-9)) hx hb dX2_drop_6 (by decide) ?_
  refine lv_lconst (v := 0) hx hb dX2_drop_8 (by decide) ?_
  refine z_callv (rest := []) (va_runV (As := [.int (-9), .long 0]) (rest := []) ⟨hx, hb, hml, hown, hts⟩ (k_X2_hold l E c mo (-9) 0 ) (cwV 2 hts gX2_drop_X2_hold rfl rfl rfl (by decide +kernel) ⟨Nat.le_of_ble_eq_true rfl, Nat.le_of_ble_eq_true rfl⟩) (z_preV hw (by decide) zG_0 rfl [.int (-9), .long 0]) rfl rfl hl.1 rfl (lv_room (Nat.le_of_ble_eq_true rfl)) dX2_drop_9 ⟨Nat.le_of_ble_eq_true rfl, Nat.le_of_ble_eq_true rfl⟩) hw (fun H locs hw => ?_)
  refine lv_iload_n hx hb dX2_drop_12 rfl (lv_at hl 0 rfl) ?_
  exact z_iret hx hb hr hlocks hw dX2_drop_13 (by rfl) (by rfl) rfl
set_option maxHeartbeats 4000000 in
set_option maxRecDepth 100000 in
theorem k_X2_take (l : Launch) (E : zE) (c : zC) (mo : zM) (d : Int32) (i : Int32) (hwf : wfC c) : Met l yX2_take wsX2_take (zR 2 42) (zP E c mo [.ref (zl E 0), .int d, .int i]) (cQi E (rTake c d i) (sTake c d i) mo) 0 0 (zA E) := by
  refine z_ent (cc := cX2_take) (maxL := 5) (ret := (some .int)) (vs := [.ref (zl E 0), .int d, .int i]) (by decide) rfl (Nat.le_of_ble_eq_true rfl) ?_
  intro p e s m below meth cd ls hx hb hr hml hown hts hlocks hl hw
  have hl : lv_has ls 5 [(0, .ref (zl E 0)), (1, .int d), (2, .int i)] := hl
  have hown : s.vm.findClass RX2 = some m.cls := hown
  have hin0 : ∀ w ∈ u_ws RX0 TX0 4, w ∈ wsX2_take := by decide +kernel
  have hin2 : ∀ w ∈ u_ws RX2 TX2 12, w ∈ wsX2_take := by decide +kernel
  refine lv_iload_n hx hb dX2_take_0 rfl (lv_at hl 1 rfl) ?_
  refine z_calli (rest := []) (va_runS (As := [.int d]) (rest := []) ⟨hx, hb, hml, hown, hts⟩ (k_X2_isDrawer l E c mo d ) (va_cwS 1 hts gX2_take_X2_isDrawer rfl rfl rfl (by decide +kernel) ⟨Nat.le_of_ble_eq_true rfl, Nat.le_of_ble_eq_true rfl⟩) (z_preS hw [.int d]) rfl rfl hl.1 rfl (lv_room (Nat.le_of_ble_eq_true rfl)) dX2_take_1 ⟨Nat.le_of_ble_eq_true rfl, Nat.le_of_ble_eq_true rfl⟩) hw (fun H locs hw => ?_)
  refine lv_if_ne (tgt := 9) hx hb dX2_take_4 (by decide) (fun q_1 => ?_) (fun q_1 => ?_)
  · have _ := hx
    refine lv_aload_n hx hb dX2_take_9 rfl (lv_at hl 0 rfl) ?_
    refine z_get (i := 0) hx hb hts hin2 hown hw (by decide) zG_0 rfl 1 (by decide) (hts (.fieldLink RX2 16 "SeedDrawers" "drawers" "[LSeedDrawers$Content;") (by decide +kernel)) rfl rfl dX2_take_10 ?_
    refine lv_iload_n hx hb dX2_take_13 rfl (lv_at hl 1 rfl) ?_
    refine y_aald1 hx hb hw (isDr_in (by assumption)) (k := d.toNatClampNeg) rfl dX2_take_14 ?_
    have hf_2 : kd (c.2.2 d.toNatClampNeg) = 6 := hwf.1 _ (in_lt (isDr_in (by assumption)))
    refine lv_astore_n (lv' := [(3, .ref (zl E (c.2.2 d.toNatClampNeg))), (0, .ref (zl E 0)), (1, .int d), (2, .int i)]) hx hb dX2_take_15 rfl hl (by decide) rfl (fun ls hl => ?_)
    refine lv_aload_n hx hb dX2_take_16 rfl (lv_at hl 0 rfl) ?_
    refine lv_iload_n hx hb dX2_take_17 rfl (lv_at hl 3 rfl) ?_
    refine z_calli (rest := []) (va_runV (As := [.int i]) (rest := []) ⟨hx, hb, hml, hown, hts⟩ (k_X0_faultOfComing l E c mo (c.2.2 d.toNatClampNeg) i hf_2) (cwV 1 hts gX2_take_X0_faultOfComing rfl rfl rfl (by decide +kernel) ⟨Nat.le_of_ble_eq_true rfl, Nat.le_of_ble_eq_true rfl⟩) (z_preV hw (kd6l hf_2) (zG_6 hf_2) rfl [.int i]) rfl rfl hl.1 rfl (lv_room (Nat.le_of_ble_eq_true rfl)) dX2_take_18 ⟨Nat.le_of_ble_eq_true rfl, Nat.le_of_ble_eq_true rfl⟩) hw (fun H locs hw => ?_)
    refine lv_istore (lv' := [(4, .int (fCome c (c.2.2 d.toNatClampNeg) i)), (3, .ref (zl E (c.2.2 d.toNatClampNeg))), (0, .ref (zl E 0)), (1, .int d), (2, .int i)]) hx hb dX2_take_21 hl (by decide) rfl (fun ls hl => ?_)
    refine lv_iload hx hb dX2_take_23 (lv_at hl 0 rfl) ?_
    refine lv_if_eq (tgt := 35) hx hb dX2_take_25 (by decide) (fun q_3 => ?_) (fun q_3 => ?_)
    · have _ := hx
      refine lv_aload_n hx hb dX2_take_35 rfl (lv_at hl 2 rfl) ?_
      refine lv_aload_n hx hb dX2_take_36 rfl (lv_at hl 1 rfl) ?_
      refine lv_iload_n hx hb dX2_take_37 rfl (lv_at hl 4 rfl) ?_
      refine z_calli (rest := [.ref (zl E 0)]) (va_runV (As := [.int i]) (rest := [.ref (zl E 0)]) ⟨hx, hb, hml, hown, hts⟩ (k_X0_kindAt l E c mo (c.2.2 d.toNatClampNeg) i hf_2 (fCome_in (by assumption) (hwf.2.1 _ hf_2))) (cwV 1 hts gX2_take_X0_kindAt rfl rfl rfl (by decide +kernel) ⟨Nat.le_of_ble_eq_true rfl, Nat.le_of_ble_eq_true rfl⟩) (z_preV hw (kd6l hf_2) (zG_6 hf_2) rfl [.int i]) rfl rfl hl.1 rfl (lv_room (Nat.le_of_ble_eq_true rfl)) dX2_take_38 ⟨Nat.le_of_ble_eq_true rfl, Nat.le_of_ble_eq_true rfl⟩) hw (fun H locs hw => ?_)
      refine lv_aload_n hx hb dX2_take_41 rfl (lv_at hl 1 rfl) ?_
      refine z_get (i := c.2.2 d.toNatClampNeg) hx hb hts hin0 hown hw (kd6l hf_2) (zG_6 hf_2) rfl 3 (by decide) (hts (.fieldLink RX2 78 "SeedDrawers$Content" "values" "[J") (by decide +kernel)) rfl rfl dX2_take_42 ?_
      refine lv_iload_n hx hb dX2_take_45 rfl (lv_at hl 4 rfl) ?_
      refine y_lald (i := (c.2.2 d.toNatClampNeg) + 9) hx hb hw (kd65l hf_2) (zG_5 (kd65 hf_2)) (fCome_in (by assumption) (hwf.2.1 _ (by assumption))) (k := i.toNatClampNeg) rfl dX2_take_46 ?_
      refine z_callv (rest := []) (va_runV (As := [.int (fKind c (c.2.2 d.toNatClampNeg) i), .long (c.2.1 ((c.2.2 d.toNatClampNeg) + 9) i.toNatClampNeg)]) (rest := []) ⟨hx, hb, hml, hown, hts⟩ (k_X2_hold l E c mo (fKind c (c.2.2 d.toNatClampNeg) i) (c.2.1 ((c.2.2 d.toNatClampNeg) + 9) i.toNatClampNeg) ) (cwV 2 hts gX2_take_X2_hold rfl rfl rfl (by decide +kernel) ⟨Nat.le_of_ble_eq_true rfl, Nat.le_of_ble_eq_true rfl⟩) (z_preV hw (by decide) zG_0 rfl [.int (fKind c (c.2.2 d.toNatClampNeg) i), .long (c.2.1 ((c.2.2 d.toNatClampNeg) + 9) i.toNatClampNeg)]) rfl rfl hl.1 rfl (lv_room (Nat.le_of_ble_eq_true rfl)) dX2_take_47 ⟨Nat.le_of_ble_eq_true rfl, Nat.le_of_ble_eq_true rfl⟩) hw (fun H locs hw => ?_)
      refine lv_aload_n hx hb dX2_take_50 rfl (lv_at hl 2 rfl) ?_
      refine z_get (i := 0) hx hb hts hin2 hown hw (by decide) zG_0 rfl 3 (by decide) (hts (.fieldLink RX2 23 "SeedDrawers" "handKind" "I") (by decide +kernel)) rfl rfl dX2_take_51 ?_
      exact z_iret hx hb hr hlocks hw dX2_take_54 (by first | (simp [rTake, sTake, q_1, q_3]; done) | (simp [rTake, sTake, q_1, q_3, hold, sI, sJ]; done)) (by first | (simp [rTake, sTake, q_1, q_3]; done) | (simp [rTake, sTake, q_1, q_3, hold, sI, sJ]; done)) rfl
    · have _ := hx
      refine lv_aload_n hx hb dX2_take_28 rfl (lv_at hl 2 rfl) ?_
      refine lv_iload hx hb dX2_take_29 (lv_at hl 0 rfl) ?_
      refine z_calli (rest := []) (va_runV (As := [.int (fCome c (c.2.2 d.toNatClampNeg) i)]) (rest := []) ⟨hx, hb, hml, hown, hts⟩ (k_X2_meet l E c mo (fCome c (c.2.2 d.toNatClampNeg) i) (fCome_5 _ _ _)) (cwV 1 hts gX2_take_X2_meet rfl rfl rfl (by decide +kernel) ⟨Nat.le_of_ble_eq_true rfl, Nat.le_of_ble_eq_true rfl⟩) (z_preV hw (by decide) zG_0 rfl [.int (fCome c (c.2.2 d.toNatClampNeg) i)]) rfl rfl hl.1 rfl (lv_room (Nat.le_of_ble_eq_true rfl)) dX2_take_31 ⟨Nat.le_of_ble_eq_true rfl, Nat.le_of_ble_eq_true rfl⟩) hw (fun H locs hw => ?_)
      exact z_iret hx hb hr hlocks hw dX2_take_34 (by first | (simp [rTake, sTake, q_1, q_3]; done) | (simp [rTake, sTake, q_1, q_3, hold, sI, sJ]; done)) (by first | (simp [rTake, sTake, q_1, q_3]; done) | (simp [rTake, sTake, q_1, q_3, hold, sI, sJ]; done)) rfl
  · have _ := hx
    refine lv_iconst (v := (-1)) hx hb dX2_take_7 (by decide) ?_
    exact z_iret hx hb hr hlocks hw dX2_take_8 (by first | (simp [rTake, sTake, q_1]; done) | (simp [rTake, sTake, q_1, hold, sI, sJ]; done)) (by first | (simp [rTake, sTake, q_1]; done) | (simp [rTake, sTake, q_1, hold, sI, sJ]; done)) rfl
set_option maxHeartbeats 4000000 in
set_option maxRecDepth 100000 in
theorem k_X2_lay (l : Launch) (E : zE) (c : zC) (mo : zM) (d : Int32) (i : Int32) (hwf : wfC c) : Met l yX2_lay wsX2_lay (zR 3 65) (zP E c mo [.ref (zl E 0), .int d, .int i]) (cQi E (rLay c d i) (sLay c d i) mo) 0 0 (zA E) := by
  refine z_ent (cc := cX2_lay) (maxL := 5) (ret := (some .int)) (vs := [.ref (zl E 0), .int d, .int i]) (by decide) rfl (Nat.le_of_ble_eq_true rfl) ?_
  intro p e s m below meth cd ls hx hb hr hml hown hts hlocks hl hw
  have hl : lv_has ls 5 [(0, .ref (zl E 0)), (1, .int d), (2, .int i)] := hl
  have hown : s.vm.findClass RX2 = some m.cls := hown
  have hin0 : ∀ w ∈ u_ws RX0 TX0 4, w ∈ wsX2_lay := by decide +kernel
  have hin2 : ∀ w ∈ u_ws RX2 TX2 12, w ∈ wsX2_lay := by decide +kernel
  refine lv_iload_n hx hb dX2_lay_0 rfl (lv_at hl 1 rfl) ?_
  refine z_calli (rest := []) (va_runS (As := [.int d]) (rest := []) ⟨hx, hb, hml, hown, hts⟩ (k_X2_isDrawer l E c mo d ) (va_cwS 1 hts gX2_lay_X2_isDrawer rfl rfl rfl (by decide +kernel) ⟨Nat.le_of_ble_eq_true rfl, Nat.le_of_ble_eq_true rfl⟩) (z_preS hw [.int d]) rfl rfl hl.1 rfl (lv_room (Nat.le_of_ble_eq_true rfl)) dX2_lay_1 ⟨Nat.le_of_ble_eq_true rfl, Nat.le_of_ble_eq_true rfl⟩) hw (fun H locs hw => ?_)
  refine lv_if_ne (tgt := 9) hx hb dX2_lay_4 (by decide) (fun q_1 => ?_) (fun q_1 => ?_)
  · have _ := hx
    refine lv_aload_n hx hb dX2_lay_9 rfl (lv_at hl 0 rfl) ?_
    refine z_get (i := 0) hx hb hts hin2 hown hw (by decide) zG_0 rfl 3 (by decide) (hts (.fieldLink RX2 23 "SeedDrawers" "handKind" "I") (by decide +kernel)) rfl rfl dX2_lay_10 ?_
    refine lv_bipush (v := (-9)) hx hb dX2_lay_13 (by decide) ?_
    refine lv_icmp_ne (tgt := 21) hx hb dX2_lay_15 (by decide) (fun q_2 => ?_) (fun q_2 => ?_)
    · have _ := hx
      refine lv_aload_n hx hb dX2_lay_21 rfl (lv_at hl 0 rfl) ?_
      refine z_get (i := 0) hx hb hts hin2 hown hw (by decide) zG_0 rfl 1 (by decide) (hts (.fieldLink RX2 16 "SeedDrawers" "drawers" "[LSeedDrawers$Content;") (by decide +kernel)) rfl rfl dX2_lay_22 ?_
      refine lv_iload_n hx hb dX2_lay_25 rfl (lv_at hl 1 rfl) ?_
      refine y_aald1 hx hb hw (isDr_in (by assumption)) (k := d.toNatClampNeg) rfl dX2_lay_26 ?_
      have hf_3 : kd (c.2.2 d.toNatClampNeg) = 6 := hwf.1 _ (in_lt (isDr_in (by assumption)))
      refine lv_astore_n (lv' := [(3, .ref (zl E (c.2.2 d.toNatClampNeg))), (0, .ref (zl E 0)), (1, .int d), (2, .int i)]) hx hb dX2_lay_27 rfl hl (by decide) rfl (fun ls hl => ?_)
      refine lv_aload_n hx hb dX2_lay_28 rfl (lv_at hl 0 rfl) ?_
      refine lv_iload_n hx hb dX2_lay_29 rfl (lv_at hl 3 rfl) ?_
      refine lv_aload_n hx hb dX2_lay_30 rfl (lv_at hl 1 rfl) ?_
      refine z_get (i := 0) hx hb hts hin2 hown hw (by decide) zG_0 rfl 3 (by decide) (hts (.fieldLink RX2 23 "SeedDrawers" "handKind" "I") (by decide +kernel)) rfl rfl dX2_lay_31 ?_
      refine z_calli (rest := []) (va_runV (As := [.int i, .int (c.1 0 3)]) (rest := []) ⟨hx, hb, hml, hown, hts⟩ (k_X0_faultOfLaying l E c mo (c.2.2 d.toNatClampNeg) i (c.1 0 3) hf_3) (cwV 2 hts gX2_lay_X0_faultOfLaying rfl rfl rfl (by decide +kernel) ⟨Nat.le_of_ble_eq_true rfl, Nat.le_of_ble_eq_true rfl⟩) (z_preV hw (kd6l hf_3) (zG_6 hf_3) rfl [.int i, .int (c.1 0 3)]) rfl rfl hl.1 rfl (lv_room (Nat.le_of_ble_eq_true rfl)) dX2_lay_34 ⟨Nat.le_of_ble_eq_true rfl, Nat.le_of_ble_eq_true rfl⟩) hw (fun H locs hw => ?_)
      refine lv_istore (lv' := [(4, .int (fLay c (c.2.2 d.toNatClampNeg) i (c.1 0 3))), (3, .ref (zl E (c.2.2 d.toNatClampNeg))), (0, .ref (zl E 0)), (1, .int d), (2, .int i)]) hx hb dX2_lay_37 hl (by decide) rfl (fun ls hl => ?_)
      refine lv_iload hx hb dX2_lay_39 (lv_at hl 0 rfl) ?_
      refine lv_if_eq (tgt := 51) hx hb dX2_lay_41 (by decide) (fun q_4 => ?_) (fun q_4 => ?_)
      · have _ := hx
        refine lv_aload_n hx hb dX2_lay_51 rfl (lv_at hl 1 rfl) ?_
        refine z_get (i := c.2.2 d.toNatClampNeg) hx hb hts hin0 hown hw (kd6l hf_3) (zG_6 hf_3) rfl 3 (by decide) (hts (.fieldLink RX2 78 "SeedDrawers$Content" "values" "[J") (by decide +kernel)) rfl rfl dX2_lay_52 ?_
        refine lv_iload_n hx hb dX2_lay_55 rfl (lv_at hl 4 rfl) ?_
        refine lv_aload_n hx hb dX2_lay_56 rfl (lv_at hl 2 rfl) ?_
        refine z_get (i := 0) hx hb hts hin2 hown hw (by decide) zG_0 rfl 4 (by decide) (hts (.fieldLink RX2 86 "SeedDrawers" "handValue" "J") (by decide +kernel)) rfl rfl dX2_lay_57 ?_
        refine y_last5 (i := (c.2.2 d.toNatClampNeg) + 9) hx hb hw (kd65l hf_3) (kd65 hf_3) (fLay_in (by assumption) (hwf.2.1 _ (by assumption))) (k := i.toNatClampNeg) rfl dX2_lay_60 (fun H locs hw => ?_)
        refine lv_iconst (v := 1) hx hb dX2_lay_61 (by decide) ?_
        exact z_iret hx hb hr hlocks hw dX2_lay_62 (by first | (simp [rLay, sLay, q_1, q_2, q_4]; done) | (simp_all [rLay, sLay]; done)) (by first | (simp [rLay, sLay, q_1, q_2, q_4]; done) | (simp_all [rLay, sLay]; done)) rfl
      · have _ := hx
        refine lv_aload_n hx hb dX2_lay_44 rfl (lv_at hl 2 rfl) ?_
        refine lv_iload hx hb dX2_lay_45 (lv_at hl 0 rfl) ?_
        refine z_calli (rest := []) (va_runV (As := [.int (fLay c (c.2.2 d.toNatClampNeg) i (c.1 0 3))]) (rest := []) ⟨hx, hb, hml, hown, hts⟩ (k_X2_meet l E c mo (fLay c (c.2.2 d.toNatClampNeg) i (c.1 0 3)) (fLay_5 _ _ _ _)) (cwV 1 hts gX2_lay_X2_meet rfl rfl rfl (by decide +kernel) ⟨Nat.le_of_ble_eq_true rfl, Nat.le_of_ble_eq_true rfl⟩) (z_preV hw (by decide) zG_0 rfl [.int (fLay c (c.2.2 d.toNatClampNeg) i (c.1 0 3))]) rfl rfl hl.1 rfl (lv_room (Nat.le_of_ble_eq_true rfl)) dX2_lay_47 ⟨Nat.le_of_ble_eq_true rfl, Nat.le_of_ble_eq_true rfl⟩) hw (fun H locs hw => ?_)
        exact z_iret hx hb hr hlocks hw dX2_lay_50 (by first | (simp [rLay, sLay, q_1, q_2, q_4]; done) | (simp_all [rLay, sLay]; done)) (by first | (simp [rLay, sLay, q_1, q_2, q_4]; done) | (simp_all [rLay, sLay]; done)) rfl
    · have _ := hx
      refine lv_bipush (v := (-3)) hx hb dX2_lay_18 (by decide) ?_
      exact z_iret hx hb hr hlocks hw dX2_lay_20 (by first | (simp [rLay, sLay, q_1, q_2]; done) | (simp_all [rLay, sLay]; done)) (by first | (simp [rLay, sLay, q_1, q_2]; done) | (simp_all [rLay, sLay]; done)) rfl
  · have _ := hx
    refine lv_iconst (v := (-1)) hx hb dX2_lay_7 (by decide) ?_
    exact z_iret hx hb hr hlocks hw dX2_lay_8 (by first | (simp [rLay, sLay, q_1]; done) | (simp_all [rLay, sLay]; done)) (by first | (simp [rLay, sLay, q_1]; done) | (simp_all [rLay, sLay]; done)) rfl
set_option maxHeartbeats 4000000 in
set_option maxRecDepth 100000 in
theorem k_X2_size (l : Launch) (E : zE) (c : zC) (mo : zM) (d : Int32) (hwf : wfC c) : Met l yX2_size wsX2_size (zR 1 21) (zP E c mo [.ref (zl E 0), .int d]) (cQi E (rSize c d) (sFau c d) mo) 0 0 (zA E) := by
  refine z_ent (cc := cX2_size) (maxL := 3) (ret := (some .int)) (vs := [.ref (zl E 0), .int d]) (by decide) rfl (Nat.le_of_ble_eq_true rfl) ?_
  intro p e s m below meth cd ls hx hb hr hml hown hts hlocks hl hw
  have hl : lv_has ls 3 [(0, .ref (zl E 0)), (1, .int d)] := hl
  have hown : s.vm.findClass RX2 = some m.cls := hown
  have hin0 : ∀ w ∈ u_ws RX0 TX0 4, w ∈ wsX2_size := by decide +kernel
  have hin2 : ∀ w ∈ u_ws RX2 TX2 12, w ∈ wsX2_size := by decide +kernel
  refine lv_iload_n hx hb dX2_size_0 rfl (lv_at hl 1 rfl) ?_
  refine z_calli (rest := []) (va_runS (As := [.int d]) (rest := []) ⟨hx, hb, hml, hown, hts⟩ (k_X2_isDrawer l E c mo d ) (va_cwS 1 hts gX2_size_X2_isDrawer rfl rfl rfl (by decide +kernel) ⟨Nat.le_of_ble_eq_true rfl, Nat.le_of_ble_eq_true rfl⟩) (z_preS hw [.int d]) rfl rfl hl.1 rfl (lv_room (Nat.le_of_ble_eq_true rfl)) dX2_size_1 ⟨Nat.le_of_ble_eq_true rfl, Nat.le_of_ble_eq_true rfl⟩) hw (fun H locs hw => ?_)
  refine lv_if_ne (tgt := 9) hx hb dX2_size_4 (by decide) (fun q_1 => ?_) (fun q_1 => ?_)
  · have _ := hx
    refine lv_aload_n hx hb dX2_size_9 rfl (lv_at hl 0 rfl) ?_
    refine z_get (i := 0) hx hb hts hin2 hown hw (by decide) zG_0 rfl 1 (by decide) (hts (.fieldLink RX2 16 "SeedDrawers" "drawers" "[LSeedDrawers$Content;") (by decide +kernel)) rfl rfl dX2_size_10 ?_
    refine lv_iload_n hx hb dX2_size_13 rfl (lv_at hl 1 rfl) ?_
    refine y_aald1 hx hb hw (isDr_in (by assumption)) (k := d.toNatClampNeg) rfl dX2_size_14 ?_
    have hf_2 : kd (c.2.2 d.toNatClampNeg) = 6 := hwf.1 _ (in_lt (isDr_in (by assumption)))
    refine z_calli (rest := []) (va_runV (As := []) (rest := []) ⟨hx, hb, hml, hown, hts⟩ (k_X0_faultOfRow l E c mo (c.2.2 d.toNatClampNeg) hf_2) (cwV 0 hts gX2_size_X0_faultOfRow rfl rfl rfl (by decide +kernel) ⟨Nat.le_of_ble_eq_true rfl, Nat.le_of_ble_eq_true rfl⟩) (z_preV hw (kd6l hf_2) (zG_6 hf_2) rfl []) rfl rfl hl.1 rfl (lv_room (Nat.le_of_ble_eq_true rfl)) dX2_size_15 ⟨Nat.le_of_ble_eq_true rfl, Nat.le_of_ble_eq_true rfl⟩) hw (fun H locs hw => ?_)
    refine lv_istore_n (lv' := [(2, .int (fRow c (c.2.2 d.toNatClampNeg))), (0, .ref (zl E 0)), (1, .int d)]) hx hb dX2_size_18 rfl hl (by decide) rfl (fun ls hl => ?_)
    refine lv_iload_n hx hb dX2_size_19 rfl (lv_at hl 0 rfl) ?_
    refine lv_if_eq (tgt := 31) hx hb dX2_size_20 (by decide) (fun q_3 => ?_) (fun q_3 => ?_)
    · have _ := hx
      refine lv_aload_n hx hb dX2_size_31 rfl (lv_at hl 1 rfl) ?_
      refine z_get (i := 0) hx hb hts hin2 hown hw (by decide) zG_0 rfl 1 (by decide) (hts (.fieldLink RX2 16 "SeedDrawers" "drawers" "[LSeedDrawers$Content;") (by decide +kernel)) rfl rfl dX2_size_32 ?_
      refine lv_iload_n hx hb dX2_size_35 rfl (lv_at hl 2 rfl) ?_
      refine y_aald1 hx hb hw (isDr_in (by assumption)) (k := d.toNatClampNeg) rfl dX2_size_36 ?_
      refine z_get (i := c.2.2 d.toNatClampNeg) hx hb hts hin0 hown hw (kd6l hf_2) (zG_6 hf_2) rfl 2 (by decide) (hts (.fieldLink RX2 94 "SeedDrawers$Content" "places" "I") (by decide +kernel)) rfl rfl dX2_size_37 ?_
      exact z_iret hx hb hr hlocks hw dX2_size_40 (by first | (simp [rSize, sFau, q_1, q_3]; done) | (simp_all [rSize, sFau]; done)) (by first | (simp [rSize, sFau, q_1, q_3]; done) | (simp_all [rSize, sFau]; done)) rfl
    · have _ := hx
      refine lv_aload_n hx hb dX2_size_23 rfl (lv_at hl 1 rfl) ?_
      refine lv_iload_n hx hb dX2_size_24 rfl (lv_at hl 0 rfl) ?_
      refine z_calli (rest := []) (va_runV (As := [.int (fRow c (c.2.2 d.toNatClampNeg))]) (rest := []) ⟨hx, hb, hml, hown, hts⟩ (k_X2_meet l E c mo (fRow c (c.2.2 d.toNatClampNeg)) (fRow_5 _ _)) (cwV 1 hts gX2_size_X2_meet rfl rfl rfl (by decide +kernel) ⟨Nat.le_of_ble_eq_true rfl, Nat.le_of_ble_eq_true rfl⟩) (z_preV hw (by decide) zG_0 rfl [.int (fRow c (c.2.2 d.toNatClampNeg))]) rfl rfl hl.1 rfl (lv_room (Nat.le_of_ble_eq_true rfl)) dX2_size_25 ⟨Nat.le_of_ble_eq_true rfl, Nat.le_of_ble_eq_true rfl⟩) hw (fun H locs hw => ?_)
      refine lv_goto (tgt := 40) hx hb dX2_size_28 (by decide) ?_
      exact z_iret hx hb hr hlocks hw dX2_size_40 (by first | (simp [rSize, sFau, q_1, q_3]; done) | (simp_all [rSize, sFau]; done)) (by first | (simp [rSize, sFau, q_1, q_3]; done) | (simp_all [rSize, sFau]; done)) rfl
  · have _ := hx
    refine lv_iconst (v := (-1)) hx hb dX2_size_7 (by decide) ?_
    exact z_iret hx hb hr hlocks hw dX2_size_8 (by first | (simp [rSize, sFau, q_1]; done) | (simp_all [rSize, sFau]; done)) (by first | (simp [rSize, sFau, q_1]; done) | (simp_all [rSize, sFau]; done)) rfl
set_option maxHeartbeats 4000000 in
set_option maxRecDepth 100000 in
theorem k_X2_turn (l : Launch) (E : zE) (c : zC) (mo : zM) (d : Int32) (hwf : wfC c) : Met l yX2_turn wsX2_turn (zR 1 24) (zP E c mo [.ref (zl E 0), .int d]) (cQi E (rTurn c d) (sTurn c d) mo) 0 0 (zA E) := by
  refine z_ent (cc := cX2_turn) (maxL := 3) (ret := (some .int)) (vs := [.ref (zl E 0), .int d]) (by decide) rfl (Nat.le_of_ble_eq_true rfl) ?_
  intro p e s m below meth cd ls hx hb hr hml hown hts hlocks hl hw
  have hl : lv_has ls 3 [(0, .ref (zl E 0)), (1, .int d)] := hl
  have hown : s.vm.findClass RX2 = some m.cls := hown
  have hin2 : ∀ w ∈ u_ws RX2 TX2 12, w ∈ wsX2_turn := by decide +kernel
  refine lv_iload_n hx hb dX2_turn_0 rfl (lv_at hl 1 rfl) ?_
  refine z_calli (rest := []) (va_runS (As := [.int d]) (rest := []) ⟨hx, hb, hml, hown, hts⟩ (k_X2_isDrawer l E c mo d ) (va_cwS 1 hts gX2_turn_X2_isDrawer rfl rfl rfl (by decide +kernel) ⟨Nat.le_of_ble_eq_true rfl, Nat.le_of_ble_eq_true rfl⟩) (z_preS hw [.int d]) rfl rfl hl.1 rfl (lv_room (Nat.le_of_ble_eq_true rfl)) dX2_turn_1 ⟨Nat.le_of_ble_eq_true rfl, Nat.le_of_ble_eq_true rfl⟩) hw (fun H locs hw => ?_)
  refine lv_if_ne (tgt := 9) hx hb dX2_turn_4 (by decide) (fun q_1 => ?_) (fun q_1 => ?_)
  · have _ := hx
    refine lv_aload_n hx hb dX2_turn_9 rfl (lv_at hl 0 rfl) ?_
    refine z_get (i := 0) hx hb hts hin2 hown hw (by decide) zG_0 rfl 1 (by decide) (hts (.fieldLink RX2 16 "SeedDrawers" "drawers" "[LSeedDrawers$Content;") (by decide +kernel)) rfl rfl dX2_turn_10 ?_
    refine lv_iload_n hx hb dX2_turn_13 rfl (lv_at hl 1 rfl) ?_
    refine y_aald1 hx hb hw (isDr_in (by assumption)) (k := d.toNatClampNeg) rfl dX2_turn_14 ?_
    have hf_2 : kd (c.2.2 d.toNatClampNeg) = 6 := hwf.1 _ (in_lt (isDr_in (by assumption)))
    refine z_calli (rest := []) (va_runV (As := []) (rest := []) ⟨hx, hb, hml, hown, hts⟩ (k_X0_faultOfRow l E c mo (c.2.2 d.toNatClampNeg) hf_2) (cwV 0 hts gX2_turn_X0_faultOfRow rfl rfl rfl (by decide +kernel) ⟨Nat.le_of_ble_eq_true rfl, Nat.le_of_ble_eq_true rfl⟩) (z_preV hw (kd6l hf_2) (zG_6 hf_2) rfl []) rfl rfl hl.1 rfl (lv_room (Nat.le_of_ble_eq_true rfl)) dX2_turn_15 ⟨Nat.le_of_ble_eq_true rfl, Nat.le_of_ble_eq_true rfl⟩) hw (fun H locs hw => ?_)
    refine lv_istore_n (lv' := [(2, .int (fRow c (c.2.2 d.toNatClampNeg))), (0, .ref (zl E 0)), (1, .int d)]) hx hb dX2_turn_18 rfl hl (by decide) rfl (fun ls hl => ?_)
    refine lv_iload_n hx hb dX2_turn_19 rfl (lv_at hl 0 rfl) ?_
    refine lv_if_eq (tgt := 31) hx hb dX2_turn_20 (by decide) (fun q_3 => ?_) (fun q_3 => ?_)
    · have _ := hx
      refine lv_aload_n hx hb dX2_turn_31 rfl (lv_at hl 1 rfl) ?_
      refine z_get (i := 0) hx hb hts hin2 hown hw (by decide) zG_0 rfl 1 (by decide) (hts (.fieldLink RX2 16 "SeedDrawers" "drawers" "[LSeedDrawers$Content;") (by decide +kernel)) rfl rfl dX2_turn_32 ?_
      refine lv_iload_n hx hb dX2_turn_35 rfl (lv_at hl 2 rfl) ?_
      refine y_aald1 hx hb hw (isDr_in (by assumption)) (k := d.toNatClampNeg) rfl dX2_turn_36 ?_
      refine z_calli (rest := []) (va_runV (As := []) (rest := []) ⟨hx, hb, hml, hown, hts⟩ (k_X0_reverse l E c mo (c.2.2 d.toNatClampNeg) hf_2 (hwf.2.1 _ hf_2)) (cwV 0 hts gX2_turn_X0_reverse rfl rfl rfl (by decide +kernel) ⟨Nat.le_of_ble_eq_true rfl, Nat.le_of_ble_eq_true rfl⟩) (z_preV hw (kd6l hf_2) (zG_6 hf_2) rfl []) rfl rfl hl.1 rfl (lv_room (Nat.le_of_ble_eq_true rfl)) dX2_turn_37 ⟨Nat.le_of_ble_eq_true rfl, Nat.le_of_ble_eq_true rfl⟩) hw (fun H locs hw => ?_)
      exact z_iret hx hb hr hlocks hw dX2_turn_40 (by first | (simp [rTurn, sTurn, q_1, q_3]; done) | (simp_all [rTurn, sTurn]; done)) (by first | (simp [rTurn, sTurn, q_1, q_3]; done) | (simp_all [rTurn, sTurn]; done)) rfl
    · have _ := hx
      refine lv_aload_n hx hb dX2_turn_23 rfl (lv_at hl 1 rfl) ?_
      refine lv_iload_n hx hb dX2_turn_24 rfl (lv_at hl 0 rfl) ?_
      refine z_calli (rest := []) (va_runV (As := [.int (fRow c (c.2.2 d.toNatClampNeg))]) (rest := []) ⟨hx, hb, hml, hown, hts⟩ (k_X2_meet l E c mo (fRow c (c.2.2 d.toNatClampNeg)) (fRow_5 _ _)) (cwV 1 hts gX2_turn_X2_meet rfl rfl rfl (by decide +kernel) ⟨Nat.le_of_ble_eq_true rfl, Nat.le_of_ble_eq_true rfl⟩) (z_preV hw (by decide) zG_0 rfl [.int (fRow c (c.2.2 d.toNatClampNeg))]) rfl rfl hl.1 rfl (lv_room (Nat.le_of_ble_eq_true rfl)) dX2_turn_25 ⟨Nat.le_of_ble_eq_true rfl, Nat.le_of_ble_eq_true rfl⟩) hw (fun H locs hw => ?_)
      refine lv_goto (tgt := 40) hx hb dX2_turn_28 (by decide) ?_
      exact z_iret hx hb hr hlocks hw dX2_turn_40 (by first | (simp [rTurn, sTurn, q_1, q_3]; done) | (simp_all [rTurn, sTurn]; done)) (by first | (simp [rTurn, sTurn, q_1, q_3]; done) | (simp_all [rTurn, sTurn]; done)) rfl
  · have _ := hx
    refine lv_iconst (v := (-1)) hx hb dX2_turn_7 (by decide) ?_
    exact z_iret hx hb hr hlocks hw dX2_turn_8 (by first | (simp [rTurn, sTurn, q_1]; done) | (simp_all [rTurn, sTurn]; done)) (by first | (simp [rTurn, sTurn, q_1]; done) | (simp_all [rTurn, sTurn]; done)) rfl
set_option maxHeartbeats 4000000 in
set_option maxRecDepth 100000 in
theorem k_X2_sum (l : Launch) (E : zE) (c : zC) (mo : zM) (d : Int32) (hwf : wfC c) : Met l yX2_sum wsX2_sum (zR 1 23) (zP E c mo [.ref (zl E 0), .int d]) (cQl E (rSum c d) (sFau c d) mo) 0 0 (zA E) := by
  refine z_ent (cc := cX2_sum) (maxL := 3) (ret := (some .long)) (vs := [.ref (zl E 0), .int d]) (by decide) rfl (Nat.le_of_ble_eq_true rfl) ?_
  intro p e s m below meth cd ls hx hb hr hml hown hts hlocks hl hw
  have hl : lv_has ls 3 [(0, .ref (zl E 0)), (1, .int d)] := hl
  have hown : s.vm.findClass RX2 = some m.cls := hown
  have hin2 : ∀ w ∈ u_ws RX2 TX2 12, w ∈ wsX2_sum := by decide +kernel
  refine lv_iload_n hx hb dX2_sum_0 rfl (lv_at hl 1 rfl) ?_
  refine z_calli (rest := []) (va_runS (As := [.int d]) (rest := []) ⟨hx, hb, hml, hown, hts⟩ (k_X2_isDrawer l E c mo d ) (va_cwS 1 hts gX2_sum_X2_isDrawer rfl rfl rfl (by decide +kernel) ⟨Nat.le_of_ble_eq_true rfl, Nat.le_of_ble_eq_true rfl⟩) (z_preS hw [.int d]) rfl rfl hl.1 rfl (lv_room (Nat.le_of_ble_eq_true rfl)) dX2_sum_1 ⟨Nat.le_of_ble_eq_true rfl, Nat.le_of_ble_eq_true rfl⟩) hw (fun H locs hw => ?_)
  refine lv_if_ne (tgt := 9) hx hb dX2_sum_4 (by decide) (fun q_1 => ?_) (fun q_1 => ?_)
  · have _ := hx
    refine lv_aload_n hx hb dX2_sum_9 rfl (lv_at hl 0 rfl) ?_
    refine z_get (i := 0) hx hb hts hin2 hown hw (by decide) zG_0 rfl 1 (by decide) (hts (.fieldLink RX2 16 "SeedDrawers" "drawers" "[LSeedDrawers$Content;") (by decide +kernel)) rfl rfl dX2_sum_10 ?_
    refine lv_iload_n hx hb dX2_sum_13 rfl (lv_at hl 1 rfl) ?_
    refine y_aald1 hx hb hw (isDr_in (by assumption)) (k := d.toNatClampNeg) rfl dX2_sum_14 ?_
    have hf_2 : kd (c.2.2 d.toNatClampNeg) = 6 := hwf.1 _ (in_lt (isDr_in (by assumption)))
    refine z_calli (rest := []) (va_runV (As := []) (rest := []) ⟨hx, hb, hml, hown, hts⟩ (k_X0_faultOfRow l E c mo (c.2.2 d.toNatClampNeg) hf_2) (cwV 0 hts gX2_sum_X0_faultOfRow rfl rfl rfl (by decide +kernel) ⟨Nat.le_of_ble_eq_true rfl, Nat.le_of_ble_eq_true rfl⟩) (z_preV hw (kd6l hf_2) (zG_6 hf_2) rfl []) rfl rfl hl.1 rfl (lv_room (Nat.le_of_ble_eq_true rfl)) dX2_sum_15 ⟨Nat.le_of_ble_eq_true rfl, Nat.le_of_ble_eq_true rfl⟩) hw (fun H locs hw => ?_)
    refine lv_istore_n (lv' := [(2, .int (fRow c (c.2.2 d.toNatClampNeg))), (0, .ref (zl E 0)), (1, .int d)]) hx hb dX2_sum_18 rfl hl (by decide) rfl (fun ls hl => ?_)
    refine lv_iload_n hx hb dX2_sum_19 rfl (lv_at hl 0 rfl) ?_
    refine lv_if_eq (tgt := 31) hx hb dX2_sum_20 (by decide) (fun q_3 => ?_) (fun q_3 => ?_)
    · have _ := hx
      refine lv_aload_n hx hb dX2_sum_31 rfl (lv_at hl 1 rfl) ?_
      refine z_get (i := 0) hx hb hts hin2 hown hw (by decide) zG_0 rfl 1 (by decide) (hts (.fieldLink RX2 16 "SeedDrawers" "drawers" "[LSeedDrawers$Content;") (by decide +kernel)) rfl rfl dX2_sum_32 ?_
      refine lv_iload_n hx hb dX2_sum_35 rfl (lv_at hl 2 rfl) ?_
      refine y_aald1 hx hb hw (isDr_in (by assumption)) (k := d.toNatClampNeg) rfl dX2_sum_36 ?_
      refine z_calll (rest := []) (va_runV (As := []) (rest := []) ⟨hx, hb, hml, hown, hts⟩ (k_X0_total l E c mo (c.2.2 d.toNatClampNeg) hf_2 (hwf.2.1 _ hf_2)) (cwV 0 hts gX2_sum_X0_total rfl rfl rfl (by decide +kernel) ⟨Nat.le_of_ble_eq_true rfl, Nat.le_of_ble_eq_true rfl⟩) (z_preV hw (kd6l hf_2) (zG_6 hf_2) rfl []) rfl rfl hl.1 rfl (lv_room (Nat.le_of_ble_eq_true rfl)) dX2_sum_37 ⟨Nat.le_of_ble_eq_true rfl, Nat.le_of_ble_eq_true rfl⟩) hw (fun H locs hw => ?_)
      exact z_lret hx hb hr hlocks hw dX2_sum_40 (by first | (simp [rSum, sFau, q_1, q_3]; done) | (simp_all [rSum, sFau]; done)) (by first | (simp [rSum, sFau, q_1, q_3]; done) | (simp_all [rSum, sFau]; done)) rfl
    · have _ := hx
      refine lv_aload_n hx hb dX2_sum_23 rfl (lv_at hl 1 rfl) ?_
      refine lv_iload_n hx hb dX2_sum_24 rfl (lv_at hl 0 rfl) ?_
      refine z_calli (rest := []) (va_runV (As := [.int (fRow c (c.2.2 d.toNatClampNeg))]) (rest := []) ⟨hx, hb, hml, hown, hts⟩ (k_X2_meet l E c mo (fRow c (c.2.2 d.toNatClampNeg)) (fRow_5 _ _)) (cwV 1 hts gX2_sum_X2_meet rfl rfl rfl (by decide +kernel) ⟨Nat.le_of_ble_eq_true rfl, Nat.le_of_ble_eq_true rfl⟩) (z_preV hw (by decide) zG_0 rfl [.int (fRow c (c.2.2 d.toNatClampNeg))]) rfl rfl hl.1 rfl (lv_room (Nat.le_of_ble_eq_true rfl)) dX2_sum_25 ⟨Nat.le_of_ble_eq_true rfl, Nat.le_of_ble_eq_true rfl⟩) hw (fun H locs hw => ?_)
      refine lv_pop hx hb dX2_sum_28 rfl ?_
      refine lv_lconst (v := 0) hx hb dX2_sum_29 (by decide) ?_
      exact z_lret hx hb hr hlocks hw dX2_sum_30 (by first | (simp [rSum, sFau, q_1, q_3]; done) | (simp_all [rSum, sFau]; done)) (by first | (simp [rSum, sFau, q_1, q_3]; done) | (simp_all [rSum, sFau]; done)) rfl
  · have _ := hx
    refine lv_lconst (v := 0) hx hb dX2_sum_7 (by decide) ?_
    exact z_lret hx hb hr hlocks hw dX2_sum_8 (by first | (simp [rSum, sFau, q_1]; done) | (simp_all [rSum, sFau]; done)) (by first | (simp [rSum, sFau, q_1]; done) | (simp_all [rSum, sFau]; done)) rfl
set_option maxHeartbeats 4000000 in
set_option maxRecDepth 100000 in
theorem k_X2_find (l : Launch) (E : zE) (c : zC) (mo : zM) (d : Int32) (hwf : wfC c) : Met l yX2_find wsX2_find (zR 2 46) (zP E c mo [.ref (zl E 0), .int d]) (cQi E (rFind c d) (sFau c d) mo) 0 0 (zA E) := by
  refine z_ent (cc := cX2_find) (maxL := 3) (ret := (some .int)) (vs := [.ref (zl E 0), .int d]) (by decide) rfl (Nat.le_of_ble_eq_true rfl) ?_
  intro p e s m below meth cd ls hx hb hr hml hown hts hlocks hl hw
  have hl : lv_has ls 3 [(0, .ref (zl E 0)), (1, .int d)] := hl
  have hown : s.vm.findClass RX2 = some m.cls := hown
  have hin2 : ∀ w ∈ u_ws RX2 TX2 12, w ∈ wsX2_find := by decide +kernel
  refine lv_iload_n hx hb dX2_find_0 rfl (lv_at hl 1 rfl) ?_
  refine z_calli (rest := []) (va_runS (As := [.int d]) (rest := []) ⟨hx, hb, hml, hown, hts⟩ (k_X2_isDrawer l E c mo d ) (va_cwS 1 hts gX2_find_X2_isDrawer rfl rfl rfl (by decide +kernel) ⟨Nat.le_of_ble_eq_true rfl, Nat.le_of_ble_eq_true rfl⟩) (z_preS hw [.int d]) rfl rfl hl.1 rfl (lv_room (Nat.le_of_ble_eq_true rfl)) dX2_find_1 ⟨Nat.le_of_ble_eq_true rfl, Nat.le_of_ble_eq_true rfl⟩) hw (fun H locs hw => ?_)
  refine lv_if_ne (tgt := 9) hx hb dX2_find_4 (by decide) (fun q_1 => ?_) (fun q_1 => ?_)
  · have _ := hx
    refine lv_aload_n hx hb dX2_find_9 rfl (lv_at hl 0 rfl) ?_
    refine z_get (i := 0) hx hb hts hin2 hown hw (by decide) zG_0 rfl 1 (by decide) (hts (.fieldLink RX2 16 "SeedDrawers" "drawers" "[LSeedDrawers$Content;") (by decide +kernel)) rfl rfl dX2_find_10 ?_
    refine lv_iload_n hx hb dX2_find_13 rfl (lv_at hl 1 rfl) ?_
    refine y_aald1 hx hb hw (isDr_in (by assumption)) (k := d.toNatClampNeg) rfl dX2_find_14 ?_
    have hf_2 : kd (c.2.2 d.toNatClampNeg) = 6 := hwf.1 _ (in_lt (isDr_in (by assumption)))
    refine z_calli (rest := []) (va_runV (As := []) (rest := []) ⟨hx, hb, hml, hown, hts⟩ (k_X0_faultOfRow l E c mo (c.2.2 d.toNatClampNeg) hf_2) (cwV 0 hts gX2_find_X0_faultOfRow rfl rfl rfl (by decide +kernel) ⟨Nat.le_of_ble_eq_true rfl, Nat.le_of_ble_eq_true rfl⟩) (z_preV hw (kd6l hf_2) (zG_6 hf_2) rfl []) rfl rfl hl.1 rfl (lv_room (Nat.le_of_ble_eq_true rfl)) dX2_find_15 ⟨Nat.le_of_ble_eq_true rfl, Nat.le_of_ble_eq_true rfl⟩) hw (fun H locs hw => ?_)
    refine lv_istore_n (lv' := [(2, .int (fRow c (c.2.2 d.toNatClampNeg))), (0, .ref (zl E 0)), (1, .int d)]) hx hb dX2_find_18 rfl hl (by decide) rfl (fun ls hl => ?_)
    refine lv_iload_n hx hb dX2_find_19 rfl (lv_at hl 0 rfl) ?_
    refine lv_if_eq (tgt := 31) hx hb dX2_find_20 (by decide) (fun q_3 => ?_) (fun q_3 => ?_)
    · have _ := hx
      refine lv_aload_n hx hb dX2_find_31 rfl (lv_at hl 1 rfl) ?_
      refine z_get (i := 0) hx hb hts hin2 hown hw (by decide) zG_0 rfl 1 (by decide) (hts (.fieldLink RX2 16 "SeedDrawers" "drawers" "[LSeedDrawers$Content;") (by decide +kernel)) rfl rfl dX2_find_32 ?_
      refine lv_iload_n hx hb dX2_find_35 rfl (lv_at hl 2 rfl) ?_
      refine y_aald1 hx hb hw (isDr_in (by assumption)) (k := d.toNatClampNeg) rfl dX2_find_36 ?_
      refine lv_aload_n hx hb dX2_find_37 rfl (lv_at hl 1 rfl) ?_
      refine z_get (i := 0) hx hb hts hin2 hown hw (by decide) zG_0 rfl 3 (by decide) (hts (.fieldLink RX2 23 "SeedDrawers" "handKind" "I") (by decide +kernel)) rfl rfl dX2_find_38 ?_
      refine lv_aload_n hx hb dX2_find_41 rfl (lv_at hl 1 rfl) ?_
      refine z_get (i := 0) hx hb hts hin2 hown hw (by decide) zG_0 rfl 4 (by decide) (hts (.fieldLink RX2 86 "SeedDrawers" "handValue" "J") (by decide +kernel)) rfl rfl dX2_find_42 ?_
      refine z_calli (rest := []) (va_runV (As := [.int (c.1 0 3), .long (c.2.1 0 4)]) (rest := []) ⟨hx, hb, hml, hown, hts⟩ (k_X0_firstPlaceOf l E c mo (c.2.2 d.toNatClampNeg) (c.1 0 3) (c.2.1 0 4) hf_2 (hwf.2.1 _ hf_2)) (cwV 2 hts gX2_find_X0_firstPlaceOf rfl rfl rfl (by decide +kernel) ⟨Nat.le_of_ble_eq_true rfl, Nat.le_of_ble_eq_true rfl⟩) (z_preV hw (kd6l hf_2) (zG_6 hf_2) rfl [.int (c.1 0 3), .long (c.2.1 0 4)]) rfl rfl hl.1 rfl (lv_room (Nat.le_of_ble_eq_true rfl)) dX2_find_45 ⟨Nat.le_of_ble_eq_true rfl, Nat.le_of_ble_eq_true rfl⟩) hw (fun H locs hw => ?_)
      exact z_iret hx hb hr hlocks hw dX2_find_48 (by first | (simp [rFind, sFau, q_1, q_3]; done) | (simp_all [rFind, sFau]; done)) (by first | (simp [rFind, sFau, q_1, q_3]; done) | (simp_all [rFind, sFau]; done)) rfl
    · have _ := hx
      refine lv_aload_n hx hb dX2_find_23 rfl (lv_at hl 1 rfl) ?_
      refine lv_iload_n hx hb dX2_find_24 rfl (lv_at hl 0 rfl) ?_
      refine z_calli (rest := []) (va_runV (As := [.int (fRow c (c.2.2 d.toNatClampNeg))]) (rest := []) ⟨hx, hb, hml, hown, hts⟩ (k_X2_meet l E c mo (fRow c (c.2.2 d.toNatClampNeg)) (fRow_5 _ _)) (cwV 1 hts gX2_find_X2_meet rfl rfl rfl (by decide +kernel) ⟨Nat.le_of_ble_eq_true rfl, Nat.le_of_ble_eq_true rfl⟩) (z_preV hw (by decide) zG_0 rfl [.int (fRow c (c.2.2 d.toNatClampNeg))]) rfl rfl hl.1 rfl (lv_room (Nat.le_of_ble_eq_true rfl)) dX2_find_25 ⟨Nat.le_of_ble_eq_true rfl, Nat.le_of_ble_eq_true rfl⟩) hw (fun H locs hw => ?_)
      refine lv_goto (tgt := 48) hx hb dX2_find_28 (by decide) ?_
      exact z_iret hx hb hr hlocks hw dX2_find_48 (by first | (simp [rFind, sFau, q_1, q_3]; done) | (simp_all [rFind, sFau]; done)) (by first | (simp [rFind, sFau, q_1, q_3]; done) | (simp_all [rFind, sFau]; done)) rfl
  · have _ := hx
    refine lv_iconst (v := (-1)) hx hb dX2_find_7 (by decide) ?_
    exact z_iret hx hb hr hlocks hw dX2_find_8 (by first | (simp [rFind, sFau, q_1]; done) | (simp_all [rFind, sFau]; done)) (by first | (simp [rFind, sFau, q_1]; done) | (simp_all [rFind, sFau]; done)) rfl
set_option maxHeartbeats 4000000 in
set_option maxRecDepth 100000 in
theorem k_X2_pourOne (l : Launch) (E : zE) (c : zC) (mo : zM) (a : Nat) (i : Int32) (b : Nat) (j : Int32) (ha : kd a = 6) (hb_ : kd b = 6) (pa : plOk c a) (pb : plOk c b) : Met l yX2_pourOne wsX2_pourOne (zR 3 65) (zP E c mo [.ref (zl E a), .int i, .ref (zl E b), .int j]) (cQi E (fPo c a i b j) (sPo c a i b j) mo) 0 0 (zA E) := by
  refine z_ent (cc := cX2_pourOne) (maxL := 5) (ret := (some .int)) (vs := [.ref (zl E a), .int i, .ref (zl E b), .int j]) (by decide) rfl (Nat.le_of_ble_eq_true rfl) ?_
  intro p e s m below meth cd ls hx hb hr hml hown hts hlocks hl hw
  have hl : lv_has ls 5 [(0, .ref (zl E a)), (1, .int i), (2, .ref (zl E b)), (3, .int j)] := hl
  have hown : s.vm.findClass RX2 = some m.cls := hown
  have hin0 : ∀ w ∈ u_ws RX0 TX0 4, w ∈ wsX2_pourOne := by decide +kernel
  refine lv_aload_n hx hb dX2_pourOne_0 rfl (lv_at hl 0 rfl) ?_
  refine lv_iload_n hx hb dX2_pourOne_1 rfl (lv_at hl 1 rfl) ?_
  refine z_calli (rest := []) (va_runV (As := [.int i]) (rest := []) ⟨hx, hb, hml, hown, hts⟩ (k_X0_faultOfComing l E c mo a i ha) (cwV 1 hts gX2_pourOne_X0_faultOfComing rfl rfl rfl (by decide +kernel) ⟨Nat.le_of_ble_eq_true rfl, Nat.le_of_ble_eq_true rfl⟩) (z_preV hw (kd6l ha) (zG_6 ha) rfl [.int i]) rfl rfl hl.1 rfl (lv_room (Nat.le_of_ble_eq_true rfl)) dX2_pourOne_2 ⟨Nat.le_of_ble_eq_true rfl, Nat.le_of_ble_eq_true rfl⟩) hw (fun H locs hw => ?_)
  refine lv_istore (lv' := [(4, .int (fCome c a i)), (0, .ref (zl E a)), (1, .int i), (2, .ref (zl E b)), (3, .int j)]) hx hb dX2_pourOne_5 hl (by decide) rfl (fun ls hl => ?_)
  refine lv_iload hx hb dX2_pourOne_7 (lv_at hl 0 rfl) ?_
  refine lv_if_ne (tgt := 24) hx hb dX2_pourOne_9 (by decide) (fun q_1 => ?_) (fun q_1 => ?_)
  · have _ := hx
    refine lv_iload hx hb dX2_pourOne_24 (lv_at hl 0 rfl) ?_
    refine lv_if_ne (tgt := 41) hx hb dX2_pourOne_26 (by decide) (fun q_2 => ?_) (fun q_2 => ?_)
    · have _ := hx
      refine lv_iload hx hb dX2_pourOne_41 (lv_at hl 0 rfl) ?_
      exact z_iret hx hb hr hlocks hw dX2_pourOne_43 (by first | (simp [fPo, sPo, q_1, q_2]; done) | (simp_all [fPo, sPo]; done)) (by first | (simp [fPo, sPo, q_1, q_2]; done) | (simp_all [fPo, sPo]; done)) rfl
    · exact (absurd q_2 q_1)
  · have _ := hx
    refine lv_aload_n hx hb dX2_pourOne_12 rfl (lv_at hl 3 rfl) ?_
    refine lv_iload_n hx hb dX2_pourOne_13 rfl (lv_at hl 4 rfl) ?_
    refine lv_aload_n hx hb dX2_pourOne_14 rfl (lv_at hl 1 rfl) ?_
    refine lv_iload_n hx hb dX2_pourOne_15 rfl (lv_at hl 2 rfl) ?_
    refine z_calli (rest := [.int j, .ref (zl E b)]) (va_runV (As := [.int i]) (rest := [.int j, .ref (zl E b)]) ⟨hx, hb, hml, hown, hts⟩ (k_X0_kindAt l E c mo a i ha (fCome_in (by assumption) pa)) (cwV 1 hts gX2_pourOne_X0_kindAt rfl rfl rfl (by decide +kernel) ⟨Nat.le_of_ble_eq_true rfl, Nat.le_of_ble_eq_true rfl⟩) (z_preV hw (kd6l ha) (zG_6 ha) rfl [.int i]) rfl rfl hl.1 rfl (lv_room (Nat.le_of_ble_eq_true rfl)) dX2_pourOne_16 ⟨Nat.le_of_ble_eq_true rfl, Nat.le_of_ble_eq_true rfl⟩) hw (fun H locs hw => ?_)
    refine z_calli (rest := []) (va_runV (As := [.int j, .int (fKind c a i)]) (rest := []) ⟨hx, hb, hml, hown, hts⟩ (k_X0_faultOfLaying l E c mo b j (fKind c a i) hb_) (cwV 2 hts gX2_pourOne_X0_faultOfLaying rfl rfl rfl (by decide +kernel) ⟨Nat.le_of_ble_eq_true rfl, Nat.le_of_ble_eq_true rfl⟩) (z_preV hw (kd6l hb_) (zG_6 hb_) rfl [.int j, .int (fKind c a i)]) rfl rfl hl.1 rfl (lv_room (Nat.le_of_ble_eq_true rfl)) dX2_pourOne_19 ⟨Nat.le_of_ble_eq_true rfl, Nat.le_of_ble_eq_true rfl⟩) hw (fun H locs hw => ?_)
    refine lv_istore (lv' := [(4, .int (fLay c b j (fKind c a i))), (0, .ref (zl E a)), (1, .int i), (2, .ref (zl E b)), (3, .int j)]) hx hb dX2_pourOne_22 hl (by decide) rfl (fun ls hl => ?_)
    refine lv_iload hx hb dX2_pourOne_24 (lv_at hl 0 rfl) ?_
    refine lv_if_ne (tgt := 41) hx hb dX2_pourOne_26 (by decide) (fun q_3 => ?_) (fun q_3 => ?_)
    · have _ := hx
      refine lv_iload hx hb dX2_pourOne_41 (lv_at hl 0 rfl) ?_
      exact z_iret hx hb hr hlocks hw dX2_pourOne_43 (by first | (simp [fPo, sPo, q_1, q_3]; done) | (simp_all [fPo, sPo]; done)) (by first | (simp [fPo, sPo, q_1, q_3]; done) | (simp_all [fPo, sPo]; done)) rfl
    · have _ := hx
      refine lv_aload_n hx hb dX2_pourOne_29 rfl (lv_at hl 3 rfl) ?_
      refine z_get (i := b) hx hb hts hin0 hown hw (kd6l hb_) (zG_6 hb_) rfl 3 (by decide) (hts (.fieldLink RX2 78 "SeedDrawers$Content" "values" "[J") (by decide +kernel)) rfl rfl dX2_pourOne_30 ?_
      refine lv_iload_n hx hb dX2_pourOne_33 rfl (lv_at hl 4 rfl) ?_
      refine lv_aload_n hx hb dX2_pourOne_34 rfl (lv_at hl 1 rfl) ?_
      refine z_get (i := a) hx hb hts hin0 hown hw (kd6l ha) (zG_6 ha) rfl 3 (by decide) (hts (.fieldLink RX2 78 "SeedDrawers$Content" "values" "[J") (by decide +kernel)) rfl rfl dX2_pourOne_35 ?_
      refine lv_iload_n hx hb dX2_pourOne_38 rfl (lv_at hl 2 rfl) ?_
      refine y_lald (i := a + 9) hx hb hw (kd65l ha) (zG_5 (kd65 ha)) (fCome_in (by assumption) pa) (k := i.toNatClampNeg) rfl dX2_pourOne_39 ?_
      refine y_last5 (i := b + 9) hx hb hw (kd65l hb_) (kd65 hb_) (fLay_in (by assumption) pb) (k := j.toNatClampNeg) rfl dX2_pourOne_40 (fun H locs hw => ?_)
      refine lv_iload hx hb dX2_pourOne_41 (lv_at hl 0 rfl) ?_
      exact z_iret hx hb hr hlocks hw dX2_pourOne_43 (by first | (simp [fPo, sPo, q_1, q_3]; done) | (simp_all [fPo, sPo]; done)) (by first | (simp [fPo, sPo, q_1, q_3]; done) | (simp_all [fPo, sPo]; done)) rfl
set_option maxHeartbeats 4000000 in
set_option maxRecDepth 100000 in
theorem k_X2_faultOfSwapping (l : Launch) (E : zE) (c : zC) (mo : zM) (a : Nat) (i : Int32) (b : Nat) (j : Int32) (ha : kd a = 6) (hb_ : kd b = 6) (pa : plOk c a) (pb : plOk c b) : Met l yX2_faultOfSwapping wsX2_faultOfSwapping (zR 3 65) (zP E c mo [.ref (zl E a), .int i, .ref (zl E b), .int j]) (cQi E (fSw c a i b j) c mo) 0 0 (zA E) := by
  refine z_ent (cc := cX2_faultOfSwapping) (maxL := 5) (ret := (some .int)) (vs := [.ref (zl E a), .int i, .ref (zl E b), .int j]) (by decide) rfl (Nat.le_of_ble_eq_true rfl) ?_
  intro p e s m below meth cd ls hx hb hr hml hown hts hlocks hl hw
  have hl : lv_has ls 5 [(0, .ref (zl E a)), (1, .int i), (2, .ref (zl E b)), (3, .int j)] := hl
  have hown : s.vm.findClass RX2 = some m.cls := hown
  refine lv_aload_n hx hb dX2_faultOfSwapping_0 rfl (lv_at hl 0 rfl) ?_
  refine lv_iload_n hx hb dX2_faultOfSwapping_1 rfl (lv_at hl 1 rfl) ?_
  refine z_calli (rest := []) (va_runV (As := [.int i]) (rest := []) ⟨hx, hb, hml, hown, hts⟩ (k_X0_faultOfComing l E c mo a i ha) (cwV 1 hts gX2_faultOfSwapping_X0_faultOfComing rfl rfl rfl (by decide +kernel) ⟨Nat.le_of_ble_eq_true rfl, Nat.le_of_ble_eq_true rfl⟩) (z_preV hw (kd6l ha) (zG_6 ha) rfl [.int i]) rfl rfl hl.1 rfl (lv_room (Nat.le_of_ble_eq_true rfl)) dX2_faultOfSwapping_2 ⟨Nat.le_of_ble_eq_true rfl, Nat.le_of_ble_eq_true rfl⟩) hw (fun H locs hw => ?_)
  refine lv_istore (lv' := [(4, .int (fCome c a i)), (0, .ref (zl E a)), (1, .int i), (2, .ref (zl E b)), (3, .int j)]) hx hb dX2_faultOfSwapping_5 hl (by decide) rfl (fun ls hl => ?_)
  refine lv_iload hx hb dX2_faultOfSwapping_7 (lv_at hl 0 rfl) ?_
  refine lv_if_ne (tgt := 19) hx hb dX2_faultOfSwapping_9 (by decide) (fun q_1 => ?_) (fun q_1 => ?_)
  · have _ := hx
    refine lv_iload hx hb dX2_faultOfSwapping_19 (lv_at hl 0 rfl) ?_
    refine lv_if_ne (tgt := 36) hx hb dX2_faultOfSwapping_21 (by decide) (fun q_2 => ?_) (fun q_2 => ?_)
    · have _ := hx
      refine lv_iload hx hb dX2_faultOfSwapping_36 (lv_at hl 0 rfl) ?_
      refine lv_if_ne (tgt := 53) hx hb dX2_faultOfSwapping_38 (by decide) (fun q_3 => ?_) (fun q_3 => ?_)
      · have _ := hx
        refine lv_iload hx hb dX2_faultOfSwapping_53 (lv_at hl 0 rfl) ?_
        exact z_iret hx hb hr hlocks hw dX2_faultOfSwapping_55 (by first | (simp [fSw, q_1, q_2, q_3]; done) | (simp_all [fSw]; done)) rfl rfl
      · exact (absurd q_3 q_2)
    · exact (absurd q_2 q_1)
  · have _ := hx
    refine lv_aload_n hx hb dX2_faultOfSwapping_12 rfl (lv_at hl 3 rfl) ?_
    refine lv_iload_n hx hb dX2_faultOfSwapping_13 rfl (lv_at hl 4 rfl) ?_
    refine z_calli (rest := []) (va_runV (As := [.int j]) (rest := []) ⟨hx, hb, hml, hown, hts⟩ (k_X0_faultOfComing l E c mo b j hb_) (cwV 1 hts gX2_faultOfSwapping_X0_faultOfComing rfl rfl rfl (by decide +kernel) ⟨Nat.le_of_ble_eq_true rfl, Nat.le_of_ble_eq_true rfl⟩) (z_preV hw (kd6l hb_) (zG_6 hb_) rfl [.int j]) rfl rfl hl.1 rfl (lv_room (Nat.le_of_ble_eq_true rfl)) dX2_faultOfSwapping_14 ⟨Nat.le_of_ble_eq_true rfl, Nat.le_of_ble_eq_true rfl⟩) hw (fun H locs hw => ?_)
    refine lv_istore (lv' := [(4, .int (fCome c b j)), (0, .ref (zl E a)), (1, .int i), (2, .ref (zl E b)), (3, .int j)]) hx hb dX2_faultOfSwapping_17 hl (by decide) rfl (fun ls hl => ?_)
    refine lv_iload hx hb dX2_faultOfSwapping_19 (lv_at hl 0 rfl) ?_
    refine lv_if_ne (tgt := 36) hx hb dX2_faultOfSwapping_21 (by decide) (fun q_4 => ?_) (fun q_4 => ?_)
    · have _ := hx
      refine lv_iload hx hb dX2_faultOfSwapping_36 (lv_at hl 0 rfl) ?_
      refine lv_if_ne (tgt := 53) hx hb dX2_faultOfSwapping_38 (by decide) (fun q_5 => ?_) (fun q_5 => ?_)
      · have _ := hx
        refine lv_iload hx hb dX2_faultOfSwapping_53 (lv_at hl 0 rfl) ?_
        exact z_iret hx hb hr hlocks hw dX2_faultOfSwapping_55 (by first | (simp [fSw, q_1, q_4, q_5]; done) | (simp_all [fSw]; done)) rfl rfl
      · exact (absurd q_5 q_4)
    · have _ := hx
      refine lv_aload_n hx hb dX2_faultOfSwapping_24 rfl (lv_at hl 1 rfl) ?_
      refine lv_iload_n hx hb dX2_faultOfSwapping_25 rfl (lv_at hl 2 rfl) ?_
      refine lv_aload_n hx hb dX2_faultOfSwapping_26 rfl (lv_at hl 3 rfl) ?_
      refine lv_iload_n hx hb dX2_faultOfSwapping_27 rfl (lv_at hl 4 rfl) ?_
      refine z_calli (rest := [.int i, .ref (zl E a)]) (va_runV (As := [.int j]) (rest := [.int i, .ref (zl E a)]) ⟨hx, hb, hml, hown, hts⟩ (k_X0_kindAt l E c mo b j hb_ (fCome_in (by assumption) pb)) (cwV 1 hts gX2_faultOfSwapping_X0_kindAt rfl rfl rfl (by decide +kernel) ⟨Nat.le_of_ble_eq_true rfl, Nat.le_of_ble_eq_true rfl⟩) (z_preV hw (kd6l hb_) (zG_6 hb_) rfl [.int j]) rfl rfl hl.1 rfl (lv_room (Nat.le_of_ble_eq_true rfl)) dX2_faultOfSwapping_28 ⟨Nat.le_of_ble_eq_true rfl, Nat.le_of_ble_eq_true rfl⟩) hw (fun H locs hw => ?_)
      refine z_calli (rest := []) (va_runV (As := [.int i, .int (fKind c b j)]) (rest := []) ⟨hx, hb, hml, hown, hts⟩ (k_X0_faultOfLaying l E c mo a i (fKind c b j) ha) (cwV 2 hts gX2_faultOfSwapping_X0_faultOfLaying rfl rfl rfl (by decide +kernel) ⟨Nat.le_of_ble_eq_true rfl, Nat.le_of_ble_eq_true rfl⟩) (z_preV hw (kd6l ha) (zG_6 ha) rfl [.int i, .int (fKind c b j)]) rfl rfl hl.1 rfl (lv_room (Nat.le_of_ble_eq_true rfl)) dX2_faultOfSwapping_31 ⟨Nat.le_of_ble_eq_true rfl, Nat.le_of_ble_eq_true rfl⟩) hw (fun H locs hw => ?_)
      refine lv_istore (lv' := [(4, .int (fLay c a i (fKind c b j))), (0, .ref (zl E a)), (1, .int i), (2, .ref (zl E b)), (3, .int j)]) hx hb dX2_faultOfSwapping_34 hl (by decide) rfl (fun ls hl => ?_)
      refine lv_iload hx hb dX2_faultOfSwapping_36 (lv_at hl 0 rfl) ?_
      refine lv_if_ne (tgt := 53) hx hb dX2_faultOfSwapping_38 (by decide) (fun q_6 => ?_) (fun q_6 => ?_)
      · have _ := hx
        refine lv_iload hx hb dX2_faultOfSwapping_53 (lv_at hl 0 rfl) ?_
        exact z_iret hx hb hr hlocks hw dX2_faultOfSwapping_55 (by first | (simp [fSw, q_1, q_4, q_6]; done) | (simp_all [fSw]; done)) rfl rfl
      · have _ := hx
        refine lv_aload_n hx hb dX2_faultOfSwapping_41 rfl (lv_at hl 3 rfl) ?_
        refine lv_iload_n hx hb dX2_faultOfSwapping_42 rfl (lv_at hl 4 rfl) ?_
        refine lv_aload_n hx hb dX2_faultOfSwapping_43 rfl (lv_at hl 1 rfl) ?_
        refine lv_iload_n hx hb dX2_faultOfSwapping_44 rfl (lv_at hl 2 rfl) ?_
        refine z_calli (rest := [.int j, .ref (zl E b)]) (va_runV (As := [.int i]) (rest := [.int j, .ref (zl E b)]) ⟨hx, hb, hml, hown, hts⟩ (k_X0_kindAt l E c mo a i ha (fCome_in (by assumption) pa)) (cwV 1 hts gX2_faultOfSwapping_X0_kindAt rfl rfl rfl (by decide +kernel) ⟨Nat.le_of_ble_eq_true rfl, Nat.le_of_ble_eq_true rfl⟩) (z_preV hw (kd6l ha) (zG_6 ha) rfl [.int i]) rfl rfl hl.1 rfl (lv_room (Nat.le_of_ble_eq_true rfl)) dX2_faultOfSwapping_45 ⟨Nat.le_of_ble_eq_true rfl, Nat.le_of_ble_eq_true rfl⟩) hw (fun H locs hw => ?_)
        refine z_calli (rest := []) (va_runV (As := [.int j, .int (fKind c a i)]) (rest := []) ⟨hx, hb, hml, hown, hts⟩ (k_X0_faultOfLaying l E c mo b j (fKind c a i) hb_) (cwV 2 hts gX2_faultOfSwapping_X0_faultOfLaying rfl rfl rfl (by decide +kernel) ⟨Nat.le_of_ble_eq_true rfl, Nat.le_of_ble_eq_true rfl⟩) (z_preV hw (kd6l hb_) (zG_6 hb_) rfl [.int j, .int (fKind c a i)]) rfl rfl hl.1 rfl (lv_room (Nat.le_of_ble_eq_true rfl)) dX2_faultOfSwapping_48 ⟨Nat.le_of_ble_eq_true rfl, Nat.le_of_ble_eq_true rfl⟩) hw (fun H locs hw => ?_)
        refine lv_istore (lv' := [(4, .int (fLay c b j (fKind c a i))), (0, .ref (zl E a)), (1, .int i), (2, .ref (zl E b)), (3, .int j)]) hx hb dX2_faultOfSwapping_51 hl (by decide) rfl (fun ls hl => ?_)
        refine lv_iload hx hb dX2_faultOfSwapping_53 (lv_at hl 0 rfl) ?_
        exact z_iret hx hb hr hlocks hw dX2_faultOfSwapping_55 (by first | (simp [fSw, q_1, q_4, q_6]; done) | (simp_all [fSw]; done)) rfl rfl
set_option maxHeartbeats 4000000 in
set_option maxRecDepth 100000 in
theorem k_X2_swap (l : Launch) (E : zE) (c : zC) (mo : zM) (a : Int32) (i : Int32) (b : Int32) (j : Int32) (hwf : wfC c) : Met l yX2_swap wsX2_swap (zR 4 89) (zP E c mo [.ref (zl E 0), .int a, .int i, .int b, .int j]) (cQi E (rSwap c a i b j) (sSwap c a i b j) mo) 0 0 (zA E) := by
  refine z_ent (cc := cX2_swap) (maxL := 10) (ret := (some .int)) (vs := [.ref (zl E 0), .int a, .int i, .int b, .int j]) (by decide) rfl (Nat.le_of_ble_eq_true rfl) ?_
  intro p e s m below meth cd ls hx hb hr hml hown hts hlocks hl hw
  have hl : lv_has ls 10 [(0, .ref (zl E 0)), (1, .int a), (2, .int i), (3, .int b), (4, .int j)] := hl
  have hown : s.vm.findClass RX2 = some m.cls := hown
  have hin0 : ∀ w ∈ u_ws RX0 TX0 4, w ∈ wsX2_swap := by decide +kernel
  have hin2 : ∀ w ∈ u_ws RX2 TX2 12, w ∈ wsX2_swap := by decide +kernel
  refine lv_iload_n hx hb dX2_swap_0 rfl (lv_at hl 1 rfl) ?_
  refine z_calli (rest := []) (va_runS (As := [.int a]) (rest := []) ⟨hx, hb, hml, hown, hts⟩ (k_X2_isDrawer l E c mo a ) (va_cwS 1 hts gX2_swap_X2_isDrawer rfl rfl rfl (by decide +kernel) ⟨Nat.le_of_ble_eq_true rfl, Nat.le_of_ble_eq_true rfl⟩) (z_preS hw [.int a]) rfl rfl hl.1 rfl (lv_room (Nat.le_of_ble_eq_true rfl)) dX2_swap_1 ⟨Nat.le_of_ble_eq_true rfl, Nat.le_of_ble_eq_true rfl⟩) hw (fun H locs hw => ?_)
  refine lv_if_eq (tgt := 14) hx hb dX2_swap_4 (by decide) (fun q_1 => ?_) (fun q_1 => ?_)
  · have _ := hx
    refine lv_iconst (v := (-1)) hx hb dX2_swap_14 (by decide) ?_
    exact z_iret hx hb hr hlocks hw dX2_swap_15 (by first | (simp [rSwap, sSwap, q_1]; done) | (simp_all [rSwap, sSwap]; done)) (by first | (simp [rSwap, sSwap, q_1]; done) | (simp_all [rSwap, sSwap]; done)) rfl
  · have _ := hx
    refine lv_iload_n hx hb dX2_swap_7 rfl (lv_at hl 3 rfl) ?_
    refine z_calli (rest := []) (va_runS (As := [.int b]) (rest := []) ⟨hx, hb, hml, hown, hts⟩ (k_X2_isDrawer l E c mo b ) (va_cwS 1 hts gX2_swap_X2_isDrawer rfl rfl rfl (by decide +kernel) ⟨Nat.le_of_ble_eq_true rfl, Nat.le_of_ble_eq_true rfl⟩) (z_preS hw [.int b]) rfl rfl hl.1 rfl (lv_room (Nat.le_of_ble_eq_true rfl)) dX2_swap_8 ⟨Nat.le_of_ble_eq_true rfl, Nat.le_of_ble_eq_true rfl⟩) hw (fun H locs hw => ?_)
    refine lv_if_ne (tgt := 16) hx hb dX2_swap_11 (by decide) (fun q_2 => ?_) (fun q_2 => ?_)
    · have _ := hx
      refine lv_aload_n hx hb dX2_swap_16 rfl (lv_at hl 0 rfl) ?_
      refine z_get (i := 0) hx hb hts hin2 hown hw (by decide) zG_0 rfl 1 (by decide) (hts (.fieldLink RX2 16 "SeedDrawers" "drawers" "[LSeedDrawers$Content;") (by decide +kernel)) rfl rfl dX2_swap_17 ?_
      refine lv_iload_n hx hb dX2_swap_20 rfl (lv_at hl 1 rfl) ?_
      refine y_aald1 hx hb hw (isDr_in (by assumption)) (k := a.toNatClampNeg) rfl dX2_swap_21 ?_
      have hf_3 : kd (c.2.2 a.toNatClampNeg) = 6 := hwf.1 _ (in_lt (isDr_in (by assumption)))
      refine lv_astore (lv' := [(5, .ref (zl E (c.2.2 a.toNatClampNeg))), (0, .ref (zl E 0)), (1, .int a), (2, .int i), (3, .int b), (4, .int j)]) hx hb dX2_swap_22 hl (by decide) rfl (fun ls hl => ?_)
      refine lv_aload_n hx hb dX2_swap_24 rfl (lv_at hl 1 rfl) ?_
      refine z_get (i := 0) hx hb hts hin2 hown hw (by decide) zG_0 rfl 1 (by decide) (hts (.fieldLink RX2 16 "SeedDrawers" "drawers" "[LSeedDrawers$Content;") (by decide +kernel)) rfl rfl dX2_swap_25 ?_
      refine lv_iload_n hx hb dX2_swap_28 rfl (lv_at hl 4 rfl) ?_
      refine y_aald1 hx hb hw (isDr_in (by assumption)) (k := b.toNatClampNeg) rfl dX2_swap_29 ?_
      have hf_4 : kd (c.2.2 b.toNatClampNeg) = 6 := hwf.1 _ (in_lt (isDr_in (by assumption)))
      refine lv_astore (lv' := [(6, .ref (zl E (c.2.2 b.toNatClampNeg))), (5, .ref (zl E (c.2.2 a.toNatClampNeg))), (0, .ref (zl E 0)), (1, .int a), (2, .int i), (3, .int b), (4, .int j)]) hx hb dX2_swap_30 hl (by decide) rfl (fun ls hl => ?_)
      refine lv_aload hx hb dX2_swap_32 (lv_at hl 1 rfl) ?_
      refine lv_iload_n hx hb dX2_swap_34 rfl (lv_at hl 4 rfl) ?_
      refine lv_aload hx hb dX2_swap_35 (lv_at hl 0 rfl) ?_
      refine lv_iload hx hb dX2_swap_37 (lv_at hl 6 rfl) ?_
      refine z_calli (rest := []) (va_runS (As := [.ref (zl E (c.2.2 a.toNatClampNeg)), .int i, .ref (zl E (c.2.2 b.toNatClampNeg)), .int j]) (rest := []) ⟨hx, hb, hml, hown, hts⟩ (k_X2_faultOfSwapping l E c mo (c.2.2 a.toNatClampNeg) i (c.2.2 b.toNatClampNeg) j hf_3 hf_4 (hwf.2.1 _ hf_3) (hwf.2.1 _ hf_4)) (va_cwS 4 hts gX2_swap_X2_faultOfSwapping rfl rfl rfl (by decide +kernel) ⟨Nat.le_of_ble_eq_true rfl, Nat.le_of_ble_eq_true rfl⟩) (z_preS hw [.ref (zl E (c.2.2 a.toNatClampNeg)), .int i, .ref (zl E (c.2.2 b.toNatClampNeg)), .int j]) rfl rfl hl.1 rfl (lv_room (Nat.le_of_ble_eq_true rfl)) dX2_swap_39 ⟨Nat.le_of_ble_eq_true rfl, Nat.le_of_ble_eq_true rfl⟩) hw (fun H locs hw => ?_)
      refine lv_istore (lv' := [(7, .int (fSw c (c.2.2 a.toNatClampNeg) i (c.2.2 b.toNatClampNeg) j)), (6, .ref (zl E (c.2.2 b.toNatClampNeg))), (5, .ref (zl E (c.2.2 a.toNatClampNeg))), (0, .ref (zl E 0)), (1, .int a), (2, .int i), (3, .int b), (4, .int j)]) hx hb dX2_swap_42 hl (by decide) rfl (fun ls hl => ?_)
      refine lv_iload hx hb dX2_swap_44 (lv_at hl 0 rfl) ?_
      refine lv_if_eq (tgt := 56) hx hb dX2_swap_46 (by decide) (fun q_5 => ?_) (fun q_5 => ?_)
      · have _ := hx
        refine lv_aload hx hb dX2_swap_56 (lv_at hl 2 rfl) ?_
        refine z_get (i := c.2.2 a.toNatClampNeg) hx hb hts hin0 hown hw (kd6l hf_3) (zG_6 hf_3) rfl 3 (by decide) (hts (.fieldLink RX2 78 "SeedDrawers$Content" "values" "[J") (by decide +kernel)) rfl rfl dX2_swap_58 ?_
        refine lv_iload_n hx hb dX2_swap_61 rfl (lv_at hl 5 rfl) ?_
        refine y_lald (i := (c.2.2 a.toNatClampNeg) + 9) hx hb hw (kd65l hf_3) (zG_5 (kd65 hf_3)) (fCome_in (fSw_a (by assumption)).1 (hwf.2.1 _ (by assumption))) (k := i.toNatClampNeg) rfl dX2_swap_62 ?_
        refine lv_lstore (lv' := [(8, .long (c.2.1 ((c.2.2 a.toNatClampNeg) + 9) i.toNatClampNeg)), (7, .int (fSw c (c.2.2 a.toNatClampNeg) i (c.2.2 b.toNatClampNeg) j)), (6, .ref (zl E (c.2.2 b.toNatClampNeg))), (5, .ref (zl E (c.2.2 a.toNatClampNeg))), (0, .ref (zl E 0)), (1, .int a), (2, .int i), (3, .int b), (4, .int j)]) hx hb dX2_swap_63 hl (by decide) rfl (fun ls hl => ?_)
        refine lv_aload hx hb dX2_swap_65 (lv_at hl 3 rfl) ?_
        refine z_get (i := c.2.2 a.toNatClampNeg) hx hb hts hin0 hown hw (kd6l hf_3) (zG_6 hf_3) rfl 3 (by decide) (hts (.fieldLink RX2 78 "SeedDrawers$Content" "values" "[J") (by decide +kernel)) rfl rfl dX2_swap_67 ?_
        refine lv_iload_n hx hb dX2_swap_70 rfl (lv_at hl 6 rfl) ?_
        refine lv_aload hx hb dX2_swap_71 (lv_at hl 2 rfl) ?_
        refine z_get (i := c.2.2 b.toNatClampNeg) hx hb hts hin0 hown hw (kd6l hf_4) (zG_6 hf_4) rfl 3 (by decide) (hts (.fieldLink RX2 78 "SeedDrawers$Content" "values" "[J") (by decide +kernel)) rfl rfl dX2_swap_73 ?_
        refine lv_iload hx hb dX2_swap_76 (lv_at hl 8 rfl) ?_
        refine y_lald (i := (c.2.2 b.toNatClampNeg) + 9) hx hb hw (kd65l hf_4) (zG_5 (kd65 hf_4)) (fCome_in (fSw_a (by assumption)).2 (hwf.2.1 _ (by assumption))) (k := j.toNatClampNeg) rfl dX2_swap_78 ?_
        refine y_last5 (i := (c.2.2 a.toNatClampNeg) + 9) hx hb hw (kd65l hf_3) (kd65 hf_3) (fCome_in (fSw_a (by assumption)).1 (hwf.2.1 _ (by assumption))) (k := i.toNatClampNeg) rfl dX2_swap_79 (fun H locs hw => ?_)
        refine lv_aload hx hb dX2_swap_80 (lv_at hl 2 rfl) ?_
        refine z_get (i := c.2.2 b.toNatClampNeg) hx hb hts hin0 hown hw (kd6l hf_4) (zG_6 hf_4) rfl 3 (by decide) (hts (.fieldLink RX2 78 "SeedDrawers$Content" "values" "[J") (by decide +kernel)) rfl rfl dX2_swap_82 ?_
        refine lv_iload hx hb dX2_swap_85 (lv_at hl 8 rfl) ?_
        refine lv_lload hx hb dX2_swap_87 (lv_at hl 0 rfl) ?_
        refine y_last5 (i := (c.2.2 b.toNatClampNeg) + 9) hx hb hw (kd65l hf_4) (kd65 hf_4) (fCome_in (fSw_a (by assumption)).2 (hwf.2.1 _ (by assumption))) (k := j.toNatClampNeg) rfl dX2_swap_89 (fun H locs hw => ?_)
        refine lv_iconst (v := 1) hx hb dX2_swap_90 (by decide) ?_
        exact z_iret hx hb hr hlocks hw dX2_swap_91 (by first | (simp [rSwap, sSwap, q_1, q_2, q_5]; done) | (simp_all [rSwap, sSwap]; done)) (by first | (simp [rSwap, sSwap, q_1, q_2, q_5]; done) | (simp_all [rSwap, sSwap]; done)) rfl
      · have _ := hx
        refine lv_aload_n hx hb dX2_swap_49 rfl (lv_at hl 3 rfl) ?_
        refine lv_iload hx hb dX2_swap_50 (lv_at hl 0 rfl) ?_
        refine z_calli (rest := []) (va_runV (As := [.int (fSw c (c.2.2 a.toNatClampNeg) i (c.2.2 b.toNatClampNeg) j)]) (rest := []) ⟨hx, hb, hml, hown, hts⟩ (k_X2_meet l E c mo (fSw c (c.2.2 a.toNatClampNeg) i (c.2.2 b.toNatClampNeg) j) (fSw_5 _ _ _ _ _)) (cwV 1 hts gX2_swap_X2_meet rfl rfl rfl (by decide +kernel) ⟨Nat.le_of_ble_eq_true rfl, Nat.le_of_ble_eq_true rfl⟩) (z_preV hw (by decide) zG_0 rfl [.int (fSw c (c.2.2 a.toNatClampNeg) i (c.2.2 b.toNatClampNeg) j)]) rfl rfl hl.1 rfl (lv_room (Nat.le_of_ble_eq_true rfl)) dX2_swap_52 ⟨Nat.le_of_ble_eq_true rfl, Nat.le_of_ble_eq_true rfl⟩) hw (fun H locs hw => ?_)
        exact z_iret hx hb hr hlocks hw dX2_swap_55 (by first | (simp [rSwap, sSwap, q_1, q_2, q_5]; done) | (simp_all [rSwap, sSwap]; done)) (by first | (simp [rSwap, sSwap, q_1, q_2, q_5]; done) | (simp_all [rSwap, sSwap]; done)) rfl
    · have _ := hx
      refine lv_iconst (v := (-1)) hx hb dX2_swap_14 (by decide) ?_
      exact z_iret hx hb hr hlocks hw dX2_swap_15 (by first | (simp [rSwap, sSwap, q_1, q_2]; done) | (simp_all [rSwap, sSwap]; done)) (by first | (simp [rSwap, sSwap, q_1, q_2]; done) | (simp_all [rSwap, sSwap]; done)) rfl
set_option maxHeartbeats 4000000 in
set_option maxRecDepth 100000 in
theorem k_X2_fault (l : Launch) (E : zE) (c : zC) (mo : zM)   : Met l yX2_fault wsX2_fault (zR 0 0) (zP E c mo [.ref (zl E 0)]) (cQi E (c.1 0 10) c mo) 0 0 (zA E) := by
  refine z_ent (cc := cX2_fault) (maxL := 1) (ret := (some .int)) (vs := [.ref (zl E 0)]) (by decide) rfl (Nat.le_of_ble_eq_true rfl) ?_
  intro p e s m below meth cd ls hx hb hr hml hown hts hlocks hl hw
  have hl : lv_has ls 1 [(0, .ref (zl E 0))] := hl
  have hown : s.vm.findClass RX2 = some m.cls := hown
  have hin2 : ∀ w ∈ u_ws RX2 TX2 12, w ∈ wsX2_fault := by decide +kernel
  refine lv_aload_n hx hb dX2_fault_0 rfl (lv_at hl 0 rfl) ?_
  refine z_get (i := 0) hx hb hts hin2 hown hw (by decide) zG_0 rfl 10 (by decide) (hts (.fieldLink RX2 129 "SeedDrawers" "latestFault" "I") (by decide +kernel)) rfl rfl dX2_fault_1 ?_
  exact z_iret hx hb hr hlocks hw dX2_fault_4 (by rfl) rfl rfl
set_option maxHeartbeats 4000000 in
set_option maxRecDepth 100000 in
theorem k_X2_hand (l : Launch) (E : zE) (c : zC) (mo : zM)   : Met l yX2_hand wsX2_hand (zR 0 0) (zP E c mo [.ref (zl E 0)]) (cQi E (c.1 0 3) c mo) 0 0 (zA E) := by
  refine z_ent (cc := cX2_hand) (maxL := 1) (ret := (some .int)) (vs := [.ref (zl E 0)]) (by decide) rfl (Nat.le_of_ble_eq_true rfl) ?_
  intro p e s m below meth cd ls hx hb hr hml hown hts hlocks hl hw
  have hl : lv_has ls 1 [(0, .ref (zl E 0))] := hl
  have hown : s.vm.findClass RX2 = some m.cls := hown
  have hin2 : ∀ w ∈ u_ws RX2 TX2 12, w ∈ wsX2_hand := by decide +kernel
  refine lv_aload_n hx hb dX2_hand_0 rfl (lv_at hl 0 rfl) ?_
  refine z_get (i := 0) hx hb hts hin2 hown hw (by decide) zG_0 rfl 3 (by decide) (hts (.fieldLink RX2 23 "SeedDrawers" "handKind" "I") (by decide +kernel)) rfl rfl dX2_hand_1 ?_
  exact z_iret hx hb hr hlocks hw dX2_hand_4 (by rfl) rfl rfl
set_option maxHeartbeats 4000000 in
set_option maxRecDepth 100000 in
theorem k_X2_value (l : Launch) (E : zE) (c : zC) (mo : zM)   : Met l yX2_value wsX2_value (zR 0 0) (zP E c mo [.ref (zl E 0)]) (cQl E (c.2.1 0 4) c mo) 0 0 (zA E) := by
  refine z_ent (cc := cX2_value) (maxL := 1) (ret := (some .long)) (vs := [.ref (zl E 0)]) (by decide) rfl (Nat.le_of_ble_eq_true rfl) ?_
  intro p e s m below meth cd ls hx hb hr hml hown hts hlocks hl hw
  have hl : lv_has ls 1 [(0, .ref (zl E 0))] := hl
  have hown : s.vm.findClass RX2 = some m.cls := hown
  have hin2 : ∀ w ∈ u_ws RX2 TX2 12, w ∈ wsX2_value := by decide +kernel
  refine lv_aload_n hx hb dX2_value_0 rfl (lv_at hl 0 rfl) ?_
  refine z_get (i := 0) hx hb hts hin2 hown hw (by decide) zG_0 rfl 4 (by decide) (hts (.fieldLink RX2 86 "SeedDrawers" "handValue" "J") (by decide +kernel)) rfl rfl dX2_value_1 ?_
  exact z_lret hx hb hr hlocks hw dX2_value_4 (by rfl) rfl rfl
set_option maxHeartbeats 4000000 in
set_option maxRecDepth 100000 in
theorem k_X2_faults (l : Launch) (E : zE) (c : zC) (mo : zM) (f : Int32)  : Met l yX2_faults wsX2_faults (zR 0 0) (zP E c mo [.ref (zl E 0), .int f]) (cQi E (rFaus c f) c mo) 0 0 (zA E) := by
  refine z_ent (cc := cX2_faults) (maxL := 2) (ret := (some .int)) (vs := [.ref (zl E 0), .int f]) (by decide) rfl (Nat.le_of_ble_eq_true rfl) ?_
  intro p e s m below meth cd ls hx hb hr hml hown hts hlocks hl hw
  have hl : lv_has ls 2 [(0, .ref (zl E 0)), (1, .int f)] := hl
  have hown : s.vm.findClass RX2 = some m.cls := hown
  have hin2 : ∀ w ∈ u_ws RX2 TX2 12, w ∈ wsX2_faults := by decide +kernel
  refine lv_iload_n hx hb dX2_faults_0 rfl (lv_at hl 1 rfl) ?_
  refine lv_if_lt (tgt := 9) hx hb dX2_faults_1 (by decide) (fun q_1 => ?_) (fun q_1 => ?_)
  · have _ := hx
    refine lv_bipush (v := (-9)) hx hb dX2_faults_9 (by decide) ?_
    refine lv_goto (tgt := 20) hx hb dX2_faults_11 (by decide) ?_
    exact z_iret hx hb hr hlocks hw dX2_faults_20 (by first | (simp [rFaus, q_1]; done) | (simp_all [rFaus]; done)) rfl rfl
  · have _ := hx
    refine lv_iload_n hx hb dX2_faults_4 rfl (lv_at hl 1 rfl) ?_
    refine lv_iconst (v := 4) hx hb dX2_faults_5 (by decide) ?_
    refine lv_icmp_le (tgt := 14) hx hb dX2_faults_6 (by decide) (fun q_2 => ?_) (fun q_2 => ?_)
    · have _ := hx
      refine lv_aload_n hx hb dX2_faults_14 rfl (lv_at hl 0 rfl) ?_
      refine z_get (i := 0) hx hb hts hin2 hown hw (by decide) zG_0 rfl 11 (by decide) (hts (.fieldLink RX2 38 "SeedDrawers" "faultCounts" "[I") (by decide +kernel)) rfl rfl dX2_faults_15 ?_
      refine lv_iload_n hx hb dX2_faults_18 rfl (lv_at hl 1 rfl) ?_
      refine y_iald (i := 5) hx hb hw (by decide) (zG_4 (i := 5) (by decide)) (le_in (n := 4) (by assumption) (by assumption) (by decide)) (k := f.toNatClampNeg) rfl dX2_faults_19 ?_
      exact z_iret hx hb hr hlocks hw dX2_faults_20 (by first | (simp [rFaus, q_1, q_2]; done) | (simp_all [rFaus]; done)) rfl rfl
    · have _ := hx
      refine lv_bipush (v := (-9)) hx hb dX2_faults_9 (by decide) ?_
      refine lv_goto (tgt := 20) hx hb dX2_faults_11 (by decide) ?_
      exact z_iret hx hb hr hlocks hw dX2_faults_20 (by first | (simp [rFaus, q_1, q_2]; done) | (simp_all [rFaus]; done)) rfl rfl
set_option maxHeartbeats 4000000 in
set_option maxRecDepth 100000 in
theorem k_X2_met (l : Launch) (E : zE) (c : zC) (mo : zM) (k : Int32) (hwf : wfC c) : Met l yX2_met wsX2_met (zR 0 0) (zP E c mo [.ref (zl E 0), .int k]) (cQi E (rMet c k) c mo) 0 0 (zA E) := by
  refine z_ent (cc := cX2_met) (maxL := 2) (ret := (some .int)) (vs := [.ref (zl E 0), .int k]) (by decide) rfl (Nat.le_of_ble_eq_true rfl) ?_
  intro p e s m below meth cd ls hx hb hr hml hown hts hlocks hl hw
  have hl : lv_has ls 2 [(0, .ref (zl E 0)), (1, .int k)] := hl
  have hown : s.vm.findClass RX2 = some m.cls := hown
  have hin2 : ∀ w ∈ u_ws RX2 TX2 12, w ∈ wsX2_met := by decide +kernel
  obtain ⟨nm, hnm1, hnm2⟩ := hwf.2.2.2
  refine lv_iload_n hx hb dX2_met_0 rfl (lv_at hl 1 rfl) ?_
  refine lv_if_lt (tgt := 12) hx hb dX2_met_1 (by decide) (fun q_1 => ?_) (fun q_1 => ?_)
  · have _ := hx
    refine lv_bipush (v := (-9)) hx hb dX2_met_12 (by decide) ?_
    refine lv_goto (tgt := 23) hx hb dX2_met_14 (by decide) ?_
    exact z_iret hx hb hr hlocks hw dX2_met_23 (by first | (simp [rMet, q_1]; done) | (simp_all [rMet]; done)) rfl rfl
  · have _ := hx
    refine lv_iload_n hx hb dX2_met_4 rfl (lv_at hl 1 rfl) ?_
    refine lv_aload_n hx hb dX2_met_5 rfl (lv_at hl 0 rfl) ?_
    refine z_get (i := 0) hx hb hts hin2 hown hw (by decide) zG_0 rfl 9 (by decide) (hts (.fieldLink RX2 132 "SeedDrawers" "metCount" "I") (by decide +kernel)) rfl rfl dX2_met_6 ?_
    refine lv_icmp_lt (tgt := 17) hx hb dX2_met_9 (by decide) (fun q_2 => ?_) (fun q_2 => ?_)
    · have _ := hx
      refine lv_aload_n hx hb dX2_met_17 rfl (lv_at hl 0 rfl) ?_
      refine z_get (i := 0) hx hb hts hin2 hown hw (by decide) zG_0 rfl 8 (by decide) (hts (.fieldLink RX2 34 "SeedDrawers" "metFaults" "[I") (by decide +kernel)) rfl rfl dX2_met_18 ?_
      refine lv_iload_n hx hb dX2_met_21 rfl (lv_at hl 1 rfl) ?_
      refine y_iald (i := 4) hx hb hw (by decide) (zG_4 (i := 4) (by decide)) (in_mono (lt_in (n := nm) (by assumption) (by rw [← hnm2]; assumption) (by omega)) hnm1) (k := k.toNatClampNeg) rfl dX2_met_22 ?_
      exact z_iret hx hb hr hlocks hw dX2_met_23 (by first | (simp [rMet, q_1, q_2]; done) | (simp_all [rMet]; done)) rfl rfl
    · have _ := hx
      refine lv_bipush (v := (-9)) hx hb dX2_met_12 (by decide) ?_
      refine lv_goto (tgt := 23) hx hb dX2_met_14 (by decide) ?_
      exact z_iret hx hb hr hlocks hw dX2_met_23 (by first | (simp [rMet, q_1, q_2]; done) | (simp_all [rMet]; done)) rfl rfl
set_option maxHeartbeats 4000000 in
set_option maxRecDepth 100000 in
theorem k_X2_told (l : Launch) (E : zE) (c : zC) (mo : zM) (d : Int32) (w : Int32) (hwf : wfC c) : Met l yX2_told wsX2_told (zR 1 23) (zP E c mo [.ref (zl E 0), .int d, .int w]) (cQi E (rTold c d w) c mo) 0 0 (zA E) := by
  refine z_ent (cc := cX2_told) (maxL := 4) (ret := (some .int)) (vs := [.ref (zl E 0), .int d, .int w]) (by decide) rfl (Nat.le_of_ble_eq_true rfl) ?_
  intro p e s m below meth cd ls hx hb hr hml hown hts hlocks hl hw
  have hl : lv_has ls 4 [(0, .ref (zl E 0)), (1, .int d), (2, .int w)] := hl
  have hown : s.vm.findClass RX2 = some m.cls := hown
  have hin0 : ∀ w ∈ u_ws RX0 TX0 4, w ∈ wsX2_told := by decide +kernel
  have hin2 : ∀ w ∈ u_ws RX2 TX2 12, w ∈ wsX2_told := by decide +kernel
  refine lv_iload_n hx hb dX2_told_0 rfl (lv_at hl 1 rfl) ?_
  refine z_calli (rest := []) (va_runS (As := [.int d]) (rest := []) ⟨hx, hb, hml, hown, hts⟩ (k_X2_isDrawer l E c mo d ) (va_cwS 1 hts gX2_told_X2_isDrawer rfl rfl rfl (by decide +kernel) ⟨Nat.le_of_ble_eq_true rfl, Nat.le_of_ble_eq_true rfl⟩) (z_preS hw [.int d]) rfl rfl hl.1 rfl (lv_room (Nat.le_of_ble_eq_true rfl)) dX2_told_1 ⟨Nat.le_of_ble_eq_true rfl, Nat.le_of_ble_eq_true rfl⟩) hw (fun H locs hw => ?_)
  refine lv_if_ne (tgt := 9) hx hb dX2_told_4 (by decide) (fun q_1 => ?_) (fun q_1 => ?_)
  · have _ := hx
    refine lv_aload_n hx hb dX2_told_9 rfl (lv_at hl 0 rfl) ?_
    refine z_get (i := 0) hx hb hts hin2 hown hw (by decide) zG_0 rfl 1 (by decide) (hts (.fieldLink RX2 16 "SeedDrawers" "drawers" "[LSeedDrawers$Content;") (by decide +kernel)) rfl rfl dX2_told_10 ?_
    refine lv_iload_n hx hb dX2_told_13 rfl (lv_at hl 1 rfl) ?_
    refine y_aald1 hx hb hw (isDr_in (by assumption)) (k := d.toNatClampNeg) rfl dX2_told_14 ?_
    have hf_2 : kd (c.2.2 d.toNatClampNeg) = 6 := hwf.1 _ (in_lt (isDr_in (by assumption)))
    refine lv_astore_n (lv' := [(3, .ref (zl E (c.2.2 d.toNatClampNeg))), (0, .ref (zl E 0)), (1, .int d), (2, .int w)]) hx hb dX2_told_15 rfl hl (by decide) rfl (fun ls hl => ?_)
    refine lv_iload_n hx hb dX2_told_16 rfl (lv_at hl 3 rfl) ?_
    by_cases q_3 : w = 0
    · have _ := hx
      refine lv_tableIn (tgt := 44) hx hb dX2_told_17 (by rw [q_3]; decide) (by rw [q_3]; decide) (by rw [q_3]; rfl) (by decide) ?_
      refine lv_aload_n hx hb dX2_told_44 rfl (lv_at hl 0 rfl) ?_
      refine z_get (i := c.2.2 d.toNatClampNeg) hx hb hts hin0 hown hw (kd6l hf_2) (zG_6 hf_2) rfl 0 (by decide) (hts (.fieldLink RX2 135 "SeedDrawers$Content" "has" "I") (by decide +kernel)) rfl rfl dX2_told_45 ?_
      exact z_iret hx hb hr hlocks hw dX2_told_48 (by first | (simp [rTold, q_1, q_3]; done) | (simp_all [rTold]; done)) rfl rfl
    by_cases q_4 : w = 1
    · have _ := hx
      refine lv_tableIn (tgt := 49) hx hb dX2_told_17 (by rw [q_4]; decide) (by rw [q_4]; decide) (by rw [q_4]; rfl) (by decide) ?_
      refine lv_aload_n hx hb dX2_told_49 rfl (lv_at hl 0 rfl) ?_
      refine z_calli (rest := []) (va_runV (As := []) (rest := []) ⟨hx, hb, hml, hown, hts⟩ (k_X0_isRow l E c mo (c.2.2 d.toNatClampNeg) hf_2) (cwV 0 hts gX2_told_X0_isRow rfl rfl rfl (by decide +kernel) ⟨Nat.le_of_ble_eq_true rfl, Nat.le_of_ble_eq_true rfl⟩) (z_preV hw (kd6l hf_2) (zG_6 hf_2) rfl []) rfl rfl hl.1 rfl (lv_room (Nat.le_of_ble_eq_true rfl)) dX2_told_50 ⟨Nat.le_of_ble_eq_true rfl, Nat.le_of_ble_eq_true rfl⟩) hw (fun H locs hw => ?_)
      refine lv_if_eq (tgt := 64) hx hb dX2_told_53 (by decide) (fun q_5 => ?_) (fun q_5 => ?_)
      · have _ := hx
        refine lv_iconst (v := 0) hx hb dX2_told_64 (by decide) ?_
        exact z_iret hx hb hr hlocks hw dX2_told_65 (by first | (simp [rTold, q_1, q_3, q_4, q_5]; done) | (simp_all [rTold]; done)) rfl rfl
      · have _ := hx
        refine lv_aload_n hx hb dX2_told_56 rfl (lv_at hl 1 rfl) ?_
        refine lv_aload_n hx hb dX2_told_57 rfl (lv_at hl 0 rfl) ?_
        refine z_calli (rest := []) (va_runV (As := [.ref (zl E (c.2.2 d.toNatClampNeg))]) (rest := []) ⟨hx, hb, hml, hown, hts⟩ (k_X2_holdersOf l E c mo (c.2.2 d.toNatClampNeg) hf_2 hwf.1) (cwV 1 hts gX2_told_X2_holdersOf rfl rfl rfl (by decide +kernel) ⟨Nat.le_of_ble_eq_true rfl, Nat.le_of_ble_eq_true rfl⟩) (z_preV hw (by decide) zG_0 rfl [.ref (zl E (c.2.2 d.toNatClampNeg))]) rfl rfl hl.1 rfl (lv_room (Nat.le_of_ble_eq_true rfl)) dX2_told_58 ⟨Nat.le_of_ble_eq_true rfl, Nat.le_of_ble_eq_true rfl⟩) hw (fun H locs hw => ?_)
        refine lv_goto (tgt := 65) hx hb dX2_told_61 (by decide) ?_
        exact z_iret hx hb hr hlocks hw dX2_told_65 (by first | (simp [rTold, q_1, q_3, q_4, q_5]; done) | (simp_all [rTold]; done)) rfl rfl
    by_cases q_6 : w = 2
    · have _ := hx
      refine lv_tableIn (tgt := 66) hx hb dX2_told_17 (by rw [q_6]; decide) (by rw [q_6]; decide) (by rw [q_6]; rfl) (by decide) ?_
      refine lv_aload_n hx hb dX2_told_66 rfl (lv_at hl 0 rfl) ?_
      refine z_get (i := c.2.2 d.toNatClampNeg) hx hb hts hin0 hown hw (kd6l hf_2) (zG_6 hf_2) rfl 1 (by decide) (hts (.fieldLink RX2 146 "SeedDrawers$Content" "noteNumber" "I") (by decide +kernel)) rfl rfl dX2_told_67 ?_
      exact z_iret hx hb hr hlocks hw dX2_told_70 (by first | (simp [rTold, q_1, q_3, q_4, q_6]; done) | (simp_all [rTold]; done)) rfl rfl
    refine lv_tableOut (tgt := 71) hx hb dX2_told_17 (tb_out [0, 1, 2] 0 2 (by decide +kernel) (by simp [q_3, q_4, q_6])) (by decide) ?_
    refine lv_bipush (v := (-2)) hx hb dX2_told_71 (by decide) ?_
    exact z_iret hx hb hr hlocks hw dX2_told_73 (by first | (simp [rTold, q_1, q_3, q_4, q_6]; done) | (simp_all [rTold]; done)) rfl rfl
  · have _ := hx
    refine lv_iconst (v := (-1)) hx hb dX2_told_7 (by decide) ?_
    exact z_iret hx hb hr hlocks hw dX2_told_8 (by first | (simp [rTold, q_1]; done) | (simp_all [rTold]; done)) rfl rfl
set_option maxHeartbeats 4000000 in
set_option maxRecDepth 100000 in
theorem k_X2_order (l : Launch) (E : zE) (c : zC) (mo : zM) (op : Int32) (a : Int32) (i : Int32) (b : Int32) (j : Int32) (hwf : wfC c) : Met l yX2_order wsX2_order (zR 1 25) (zP E c mo [.ref (zl E 0), .int op, .int a, .int i, .int b, .int j]) (cQi E (rOrd c op a i b j) (sOrd c op a i b j) mo) 0 0 (zA E) := by
  refine z_ent (cc := cX2_order) (maxL := 6) (ret := (some .int)) (vs := [.ref (zl E 0), .int op, .int a, .int i, .int b, .int j]) (by decide) rfl (Nat.le_of_ble_eq_true rfl) ?_
  intro p e s m below meth cd ls hx hb hr hml hown hts hlocks hl hw
  have hl : lv_has ls 6 [(0, .ref (zl E 0)), (1, .int op), (2, .int a), (3, .int i), (4, .int b), (5, .int j)] := hl
  have hown : s.vm.findClass RX2 = some m.cls := hown
  have hin2 : ∀ w ∈ u_ws RX2 TX2 12, w ∈ wsX2_order := by decide +kernel
  obtain ⟨nm, hnm1, hnm2⟩ := hwf.2.2.1
  have hno : c.1 0 7 < 8 → vp_in (c.1 0 7) 8 := fun h => lt_in (n := 8) (by rw [hnm2]; exact nI_pos (by omega)) h (by decide)
  refine lv_iload_n hx hb dX2_order_0 rfl (lv_at hl 2 rfl) ?_
  refine z_calli (rest := []) (va_runS (As := [.int a]) (rest := []) ⟨hx, hb, hml, hown, hts⟩ (k_X2_isDrawer l E c mo a ) (va_cwS 1 hts gX2_order_X2_isDrawer rfl rfl rfl (by decide +kernel) ⟨Nat.le_of_ble_eq_true rfl, Nat.le_of_ble_eq_true rfl⟩) (z_preS hw [.int a]) rfl rfl hl.1 rfl (lv_room (Nat.le_of_ble_eq_true rfl)) dX2_order_1 ⟨Nat.le_of_ble_eq_true rfl, Nat.le_of_ble_eq_true rfl⟩) hw (fun H locs hw => ?_)
  refine lv_if_eq (tgt := 15) hx hb dX2_order_4 (by decide) (fun q_1 => ?_) (fun q_1 => ?_)
  · have _ := hx
    refine lv_iconst (v := (-1)) hx hb dX2_order_15 (by decide) ?_
    exact z_iret hx hb hr hlocks hw dX2_order_16 (by first | (simp [rOrd, sOrd, q_1]; done) | (simp [rOrd, sOrd, q_1, sI]; done)) (by first | (simp [rOrd, sOrd, q_1]; done) | (simp [rOrd, sOrd, q_1, sI]; done)) rfl
  · have _ := hx
    refine lv_iload hx hb dX2_order_7 (lv_at hl 4 rfl) ?_
    refine z_calli (rest := []) (va_runS (As := [.int b]) (rest := []) ⟨hx, hb, hml, hown, hts⟩ (k_X2_isDrawer l E c mo b ) (va_cwS 1 hts gX2_order_X2_isDrawer rfl rfl rfl (by decide +kernel) ⟨Nat.le_of_ble_eq_true rfl, Nat.le_of_ble_eq_true rfl⟩) (z_preS hw [.int b]) rfl rfl hl.1 rfl (lv_room (Nat.le_of_ble_eq_true rfl)) dX2_order_9 ⟨Nat.le_of_ble_eq_true rfl, Nat.le_of_ble_eq_true rfl⟩) hw (fun H locs hw => ?_)
    refine lv_if_ne (tgt := 17) hx hb dX2_order_12 (by decide) (fun q_2 => ?_) (fun q_2 => ?_)
    · have _ := hx
      refine lv_iload_n hx hb dX2_order_17 rfl (lv_at hl 1 rfl) ?_
      refine lv_if_lt (tgt := 41) hx hb dX2_order_18 (by decide) (fun q_3 => ?_) (fun q_3 => ?_)
      · have _ := hx
        refine lv_bipush (v := (-2)) hx hb dX2_order_41 (by decide) ?_
        exact z_iret hx hb hr hlocks hw dX2_order_43 (by first | (simp [rOrd, sOrd, q_1, q_2, q_3]; done) | (simp [rOrd, sOrd, q_1, q_2, q_3, sI]; done)) (by first | (simp [rOrd, sOrd, q_1, q_2, q_3]; done) | (simp [rOrd, sOrd, q_1, q_2, q_3, sI]; done)) rfl
      · have _ := hx
        refine lv_iload_n hx hb dX2_order_21 rfl (lv_at hl 1 rfl) ?_
        refine lv_iconst (v := 4) hx hb dX2_order_22 (by decide) ?_
        refine lv_icmp_gt (tgt := 41) hx hb dX2_order_23 (by decide) (fun q_4 => ?_) (fun q_4 => ?_)
        · have _ := hx
          refine lv_bipush (v := (-2)) hx hb dX2_order_41 (by decide) ?_
          exact z_iret hx hb hr hlocks hw dX2_order_43 (by first | (simp [rOrd, sOrd, q_1, q_2, q_3, q_4]; done) | (simp [rOrd, sOrd, q_1, q_2, q_3, q_4, sI]; done)) (by first | (simp [rOrd, sOrd, q_1, q_2, q_3, q_4]; done) | (simp [rOrd, sOrd, q_1, q_2, q_3, q_4, sI]; done)) rfl
        · have _ := hx
          refine lv_iload_n hx hb dX2_order_26 rfl (lv_at hl 3 rfl) ?_
          refine z_calli (rest := []) (va_runS (As := [.int i]) (rest := []) ⟨hx, hb, hml, hown, hts⟩ (k_X2_isTellableIndex l E c mo i ) (va_cwS 1 hts gX2_order_X2_isTellableIndex rfl rfl rfl (by decide +kernel) ⟨Nat.le_of_ble_eq_true rfl, Nat.le_of_ble_eq_true rfl⟩) (z_preS hw [.int i]) rfl rfl hl.1 rfl (lv_room (Nat.le_of_ble_eq_true rfl)) dX2_order_27 ⟨Nat.le_of_ble_eq_true rfl, Nat.le_of_ble_eq_true rfl⟩) hw (fun H locs hw => ?_)
          refine lv_if_eq (tgt := 41) hx hb dX2_order_30 (by decide) (fun q_5 => ?_) (fun q_5 => ?_)
          · have _ := hx
            refine lv_bipush (v := (-2)) hx hb dX2_order_41 (by decide) ?_
            exact z_iret hx hb hr hlocks hw dX2_order_43 (by first | (simp [rOrd, sOrd, q_1, q_2, q_3, q_4, q_5]; done) | (simp [rOrd, sOrd, q_1, q_2, q_3, q_4, q_5, sI]; done)) (by first | (simp [rOrd, sOrd, q_1, q_2, q_3, q_4, q_5]; done) | (simp [rOrd, sOrd, q_1, q_2, q_3, q_4, q_5, sI]; done)) rfl
          · have _ := hx
            refine lv_iload hx hb dX2_order_33 (lv_at hl 5 rfl) ?_
            refine z_calli (rest := []) (va_runS (As := [.int j]) (rest := []) ⟨hx, hb, hml, hown, hts⟩ (k_X2_isTellableIndex l E c mo j ) (va_cwS 1 hts gX2_order_X2_isTellableIndex rfl rfl rfl (by decide +kernel) ⟨Nat.le_of_ble_eq_true rfl, Nat.le_of_ble_eq_true rfl⟩) (z_preS hw [.int j]) rfl rfl hl.1 rfl (lv_room (Nat.le_of_ble_eq_true rfl)) dX2_order_35 ⟨Nat.le_of_ble_eq_true rfl, Nat.le_of_ble_eq_true rfl⟩) hw (fun H locs hw => ?_)
            refine lv_if_ne (tgt := 44) hx hb dX2_order_38 (by decide) (fun q_6 => ?_) (fun q_6 => ?_)
            · have _ := hx
              refine lv_aload_n hx hb dX2_order_44 rfl (lv_at hl 0 rfl) ?_
              refine z_get (i := 0) hx hb hts hin2 hown hw (by decide) zG_0 rfl 7 (by decide) (hts (.fieldLink RX2 118 "SeedDrawers" "orderCount" "I") (by decide +kernel)) rfl rfl dX2_order_45 ?_
              refine lv_bipush (v := 8) hx hb dX2_order_48 (by decide) ?_
              refine lv_icmp_lt (tgt := 56) hx hb dX2_order_50 (by decide) (fun q_7 => ?_) (fun q_7 => ?_)
              · have _ := hx
                refine lv_aload_n hx hb dX2_order_56 rfl (lv_at hl 0 rfl) ?_
                refine z_get (i := 0) hx hb hts hin2 hown hw (by decide) zG_0 rfl 6 (by decide) (hts (.fieldLink RX2 29 "SeedDrawers" "orders" "[LSeedDrawers$Order;") (by decide +kernel)) rfl rfl dX2_order_57 ?_
                refine lv_aload_n hx hb dX2_order_60 rfl (lv_at hl 0 rfl) ?_
                refine z_get (i := 0) hx hb hts hin2 hown hw (by decide) zG_0 rfl 7 (by decide) (hts (.fieldLink RX2 118 "SeedDrawers" "orderCount" "I") (by decide +kernel)) rfl rfl dX2_order_61 ?_
                refine y_aald3 hx hb hw (hno (by assumption)) (k := (c.1 0 7).toNatClampNeg) rfl dX2_order_64 ?_
                have hf_8 : kd (24 + ((c.1 0 7).toNatClampNeg)) = 7 := kd7o (by omega) (by have := in_lt (hno (by assumption)); omega)
                refine lv_iload_n hx hb dX2_order_65 rfl (lv_at hl 1 rfl) ?_
                refine lv_iload_n hx hb dX2_order_66 rfl (lv_at hl 2 rfl) ?_
                refine lv_iload_n hx hb dX2_order_67 rfl (lv_at hl 3 rfl) ?_
                refine lv_iload hx hb dX2_order_68 (lv_at hl 4 rfl) ?_
                refine lv_iload hx hb dX2_order_70 (lv_at hl 5 rfl) ?_
                refine z_callv (rest := []) (va_runV (As := [.int op, .int a, .int i, .int b, .int j]) (rest := []) ⟨hx, hb, hml, hown, hts⟩ (k_X1_write l E c mo (24 + ((c.1 0 7).toNatClampNeg)) op a i b j hf_8) (cwV 5 hts gX2_order_X1_write rfl rfl rfl (by decide +kernel) ⟨Nat.le_of_ble_eq_true rfl, Nat.le_of_ble_eq_true rfl⟩) (z_preV hw (kd7l hf_8) (zG_7 hf_8) rfl [.int op, .int a, .int i, .int b, .int j]) rfl rfl hl.1 rfl (lv_room (Nat.le_of_ble_eq_true rfl)) dX2_order_72 ⟨Nat.le_of_ble_eq_true rfl, Nat.le_of_ble_eq_true rfl⟩) hw (fun H locs hw => ?_)
                refine lv_aload_n hx hb dX2_order_75 rfl (lv_at hl 0 rfl) ?_
                refine lv_dup hx hb dX2_order_76 rfl ?_
                refine z_get (i := 0) hx hb hts hin2 hown hw (by decide) zG_0 rfl 7 (by decide) (hts (.fieldLink RX2 118 "SeedDrawers" "orderCount" "I") (by decide +kernel)) rfl rfl dX2_order_77 ?_
                refine lv_iconst (v := 1) hx hb dX2_order_80 (by decide) ?_
                refine lv_iadd hx hb dX2_order_81 ?_
                refine z_put (i := 0) (ty := .int) hx hb hts hin2 tyX2 tyX2_ok nmX2 hown hw (by decide) zG_0 rfl 7 (by decide) (hts (.fieldLink RX2 118 "SeedDrawers" "orderCount" "I") (by decide +kernel)) rfl rfl (by decide +kernel) rfl rfl (Nat.le_of_ble_eq_true rfl) (zU0_7 E (wr c (24 + ((c.1 0 7).toNatClampNeg)) op a i b j) mo (((wr c (24 + ((c.1 0 7).toNatClampNeg)) op a i b j).1 0 7) + 1)) dX2_order_82 (fun H locs hw => ?_)
                refine lv_aload_n hx hb dX2_order_85 rfl (lv_at hl 0 rfl) ?_
                refine z_get (i := 0) hx hb hts hin2 hown hw (by decide) zG_0 rfl 7 (by decide) (hts (.fieldLink RX2 118 "SeedDrawers" "orderCount" "I") (by decide +kernel)) rfl rfl dX2_order_86 ?_
                exact z_iret hx hb hr hlocks hw dX2_order_89 (by first | (simp [rOrd, sOrd, q_1, q_2, q_3, q_4, q_5, q_6, q_7]; done) | (simp [rOrd, sOrd, q_1, q_2, q_3, q_4, q_5, q_6, q_7, sI]; done)) (by first | (simp [rOrd, sOrd, q_1, q_2, q_3, q_4, q_5, q_6, q_7]; done) | (simp [rOrd, sOrd, q_1, q_2, q_3, q_4, q_5, q_6, q_7, sI]; done)) rfl
              · have _ := hx
                refine lv_bipush (v := (-3)) hx hb dX2_order_53 (by decide) ?_
                exact z_iret hx hb hr hlocks hw dX2_order_55 (by first | (simp [rOrd, sOrd, q_1, q_2, q_3, q_4, q_5, q_6, q_7]; done) | (simp [rOrd, sOrd, q_1, q_2, q_3, q_4, q_5, q_6, q_7, sI]; done)) (by first | (simp [rOrd, sOrd, q_1, q_2, q_3, q_4, q_5, q_6, q_7]; done) | (simp [rOrd, sOrd, q_1, q_2, q_3, q_4, q_5, q_6, q_7, sI]; done)) rfl
            · have _ := hx
              refine lv_bipush (v := (-2)) hx hb dX2_order_41 (by decide) ?_
              exact z_iret hx hb hr hlocks hw dX2_order_43 (by first | (simp [rOrd, sOrd, q_1, q_2, q_3, q_4, q_5, q_6]; done) | (simp [rOrd, sOrd, q_1, q_2, q_3, q_4, q_5, q_6, sI]; done)) (by first | (simp [rOrd, sOrd, q_1, q_2, q_3, q_4, q_5, q_6]; done) | (simp [rOrd, sOrd, q_1, q_2, q_3, q_4, q_5, q_6, sI]; done)) rfl
    · have _ := hx
      refine lv_iconst (v := (-1)) hx hb dX2_order_15 (by decide) ?_
      exact z_iret hx hb hr hlocks hw dX2_order_16 (by first | (simp [rOrd, sOrd, q_1, q_2]; done) | (simp [rOrd, sOrd, q_1, q_2, sI]; done)) (by first | (simp [rOrd, sOrd, q_1, q_2]; done) | (simp [rOrd, sOrd, q_1, q_2, sI]; done)) rfl
