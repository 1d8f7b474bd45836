def Sm (m m' : zM) : Prop := (∀ a, ¬ a = 32 → ¬ a = 39 → ¬ a = 41 → m'.1 a = m.1 a) ∧ m'.1 32 3 = m.1 32 3 ∧ m'.1 32 10 = m.1 32 10 ∧ m'.1 32 13 = m.1 32 13 ∧ m'.1 32 15 = m.1 32 15
theorem Sm.rf (m : zM) : Sm m m := ⟨fun _ _ _ _ => rfl, rfl, rfl, rfl, rfl⟩
theorem Sm.tr {a b c : zM} (h : Sm a b) (g : Sm b c) : Sm a c := ⟨fun x h1 h2 h3 => (g.1 x h1 h2 h3).trans (h.1 x h1 h2 h3), g.2.1.trans h.2.1, g.2.2.1.trans h.2.2.1, g.2.2.2.1.trans h.2.2.2.1, g.2.2.2.2.trans h.2.2.2.2⟩
theorem Sm.j (m : zM) (i k : Nat) (v : Int64) : Sm m (tJ m i k v) := Sm.rf m
theorem Sm.i32 (m : zM) (k : Nat) (v : Int32) (h : k = 7 ∨ k = 8 ∨ k = 11 ∨ k = 17) : Sm m (tI m 32 k v) := by
  refine ⟨fun a h1 _ _ => tI_r h1, ?_, ?_, ?_, ?_⟩ <;> rcases h with rfl | rfl | rfl | rfl <;> exact tI_n (by decide)
theorem Sm.i39 (m : zM) (k : Nat) (v : Int32) : Sm m (tI m 39 k v) := ⟨fun a _ h2 _ => tI_r h2, by rw [tI_r (by decide)], by rw [tI_r (by decide)], by rw [tI_r (by decide)], by rw [tI_r (by decide)]⟩
theorem Sm.i41 (m : zM) (k : Nat) (v : Int32) : Sm m (tI m 41 k v) := ⟨fun a _ _ h2 => tI_r h2, by rw [tI_r (by decide)], by rw [tI_r (by decide)], by rw [tI_r (by decide)], by rw [tI_r (by decide)]⟩
theorem wfM_sm {m m' : zM} (h : Sm m m') (w : wfM m) : wfM m' := by
  obtain ⟨w1, w2, w3, w4⟩ := w
  refine ⟨fun d hd => by rw [h.1 35 (by decide) (by decide) (by decide)]; exact w1 d hd, fun r hr => by rw [h.1 37 (by decide) (by decide) (by decide)]; exact w2 r hr, ?_, ?_⟩
  · rw [h.2.2.2.1, h.1 40 (by decide) (by decide) (by decide)]; exact w3
  · rw [h.2.2.2.2]; exact w4
theorem Sm_met1 (m : zM) (f : Int32) : Sm m (met1 m f) := (Sm.i32 m 11 f (by simp)).tr ((Sm.i39 _ _ _).tr (Sm.i39 _ _ _))
theorem Sm_tak (m : zM) (d i : Int32) : Sm m (gTak m d i) := by
  unfold gTak
  split
  · exact (Sm.i32 m 7 _ (by simp)).tr ((Sm.i32 _ 8 _ (by simp)).tr (Sm.j _ _ _ _))
  · exact Sm.rf m
theorem Sm_put (m : zM) (d i : Int32) : Sm m (gPut m d i) := by
  unfold gPut
  split
  · exact Sm.j _ _ _ _
  · exact Sm.rf m
def zerM (r : Nat) : Nat → Nat → zM → zM
  | 0, _, m => m
  | n + 1, k, m => zerM r n (k + 1) (tJ m 38 (12 * r + k) 0)
def rowM (m : zM) (d : Nat) (k n : Int32) : zM := zerM (m.1 32 3).toNatClampNeg 12 0 (tI (tI (tI (tI m 33 d 2) 35 d (m.1 32 3)) 36 (m.1 32 3).toNatClampNeg k) 37 (m.1 32 3).toNatClampNeg n)
def hRow (d k n : Int32) : Int32 := if fNo d = 0 then (if fBey k.toInt64 0 6 = 0 then (if fBey n.toInt64 0 12 = 0 then n else -2) else -2) else -1
def tRow (m : zM) (d k n : Int32) : zM := if fNo d = 0 then (if fBey k.toInt64 0 6 = 0 then (if fBey n.toInt64 0 12 = 0 then tI (rowM m d.toNatClampNeg k n) 32 3 (m.1 32 3 + 1) else m) else m) else m
theorem ixm {x : Int32} {r i : Nat} (hx : x = nI r) : 12 * x + nI i = nI (12 * r + i) := by
  rw [hx, show (12 : Int32) = nI 12 from rfl, pk_mul, nI_add]
theorem ixm_in {x : Int32} {r i : Nat} (hx : x = nI r) (hr : r < 5000) (hi : i < 12) : vp_in (12 * x + nI i) 60000 := by
  rw [ixm hx]; exact vp_in_nI (by omega) (by decide)
theorem ixm_k {x : Int32} {r i : Nat} (hx : x = nI r) (hr : r < 5000) (hi : i < 12) : (12 * x + nI i).toNatClampNeg = 12 * r + i := by
  rw [ixm hx]; exact nI_clamp (by omega)
def gPoF (m : zM) (d i t j : Int32) : Int32 := if gCome m d i ≤ 0 then gLay m t j (gKind m d i) else gCome m d i
def psS (m : zM) (d i t j : Int32) : zM := tI (tJ m 38 (gAt m t j).toNatClampNeg (m.2 38 (gAt m d i).toNatClampNeg)) 32 17 (m.1 32 17 + 1)
def psN (d t i j : Int32) : Nat → Nat → zM → Int32 × zM
  | 0, _, m => (0, m)
  | n + 1, k, m => if gPoF m d (i + nI k) t (j + nI k) ≤ 0 then psN d t i j n (k + 1) (psS m d (i + nI k) t (j + nI k)) else (gPoF m d (i + nI k) t (j + nI k), m)
def pPs (m : zM) (d i t j n : Int32) : Int32 × zM := psN d t i j n.toNatClampNeg 0 (tI m 32 17 0)
theorem gPoF_5 (m : zM) (d i t j : Int32) : vp_in (gPoF m d i t j) 5 := by
  unfold gPoF
  split
  · exact gLay_5 m t j (gKind m d i)
  · exact gCome_5 m d i
theorem Sm_psS (m : zM) (d i t j : Int32) : Sm m (psS m d i t j) := (Sm.j m _ _ _).tr (Sm.i32 _ 17 _ (by simp))
theorem psN_5 (d t i j : Int32) : ∀ (n k : Nat) (m : zM), vp_in (psN d t i j n k m).1 5 ∧ Sm m (psN d t i j n k m).2
  | 0, _, m => ⟨show vp_in (0 : Int32) 5 from vp_in_iff.mpr (by decide), Sm.rf m⟩
  | n + 1, k, m => by
    unfold psN
    split
    · have h := psN_5 d t i j n (k + 1) (psS m d (i + nI k) t (j + nI k))
      exact ⟨h.1, (Sm_psS _ _ _ _ _).tr h.2⟩
    · exact ⟨gPoF_5 _ _ _ _ _, Sm.rf m⟩
theorem Sm_pPs (m : zM) (d i t j n : Int32) : Sm m (pPs m d i t j n).2 := (Sm.i32 m 17 0 (by simp)).tr (psN_5 _ _ _ _ _ _ _).2
def qPour (m : zM) (d i t j n : Int32) : Int32 × zM := if fNo d = 0 then (if fNo t = 0 then (if fBey i.toInt64 0 20 = 0 then (if fBey j.toInt64 0 20 = 0 then (if fBey n.toInt64 0 12 = 0 then (if (pPs m d i t j n).1 ≤ 0 then (n, (pPs m d i t j n).2) else ((met1 (pPs m d i t j n).2 (pPs m d i t j n).1).1 32 17 - 100, met1 (pPs m d i t j n).2 (pPs m d i t j n).1)) else (-2, m)) else (-2, m)) else (-2, m)) else (-1, m)) else (-1, m)
def gSw (m : zM) (a i b j : Int32) : Int32 := if gCome m a i ≤ 0 then (if gCome m b j ≤ 0 then (if gLay m a i (gKind m b j) ≤ 0 then gLay m b j (gKind m a i) else gLay m a i (gKind m b j)) else gCome m b j) else gCome m a i
theorem gSw_5 (m : zM) (a i b j : Int32) : vp_in (gSw m a i b j) 5 := by
  unfold gSw
  split
  · split
    · split
      · exact gLay_5 m b j (gKind m a i)
      · exact gLay_5 m a i (gKind m b j)
    · exact gCome_5 m b j
  · exact gCome_5 m a i
def swS (m : zM) (a i b j : Int32) : zM := tJ (tJ m 38 (gAt m a i).toNatClampNeg (m.2 38 (gAt m b j).toNatClampNeg)) 38 (gAt m b j).toNatClampNeg (m.2 38 (gAt m a i).toNatClampNeg)
def gSws (m : zM) (a i b j : Int32) : zM := if gSw m a i b j = 0 then swS m a i b j else m
theorem Sm_sws (m : zM) (a i b j : Int32) : Sm m (gSws m a i b j) := by
  unfold gSws
  split
  · exact (Sm.j m _ _ _).tr (Sm.j _ _ _ _)
  · exact Sm.rf m
def hSwap (m : zM) (a i b j : Int32) : Int32 := if fNo a = 0 then (if fNo b = 0 then rAns (gSw m a i b j) 1 else -1) else -1
def tSwap (m : zM) (a i b j : Int32) : zM := if fNo a = 0 then (if fNo b = 0 then sAns (gSws m a i b j) (gSw m a i b j) else m) else m
def trS (m : zM) (d sz : Int32) (k : Nat) : zM := tJ (tJ m 38 (gAt m d (nI k)).toNatClampNeg (m.2 38 (gAt m d (sz - 1 - nI k)).toNatClampNeg)) 38 (gAt m d (sz - 1 - nI k)).toNatClampNeg (m.2 38 (gAt m d (nI k)).toNatClampNeg)
def trN (d sz : Int32) : Nat → Nat → zM → zM
  | 0, _, m => m
  | n + 1, k, m => trN d sz n (k + 1) (trS m d sz k)
theorem Sm_trN (d sz : Int32) : ∀ (n k : Nat) (m : zM), Sm m (trN d sz n k m)
  | 0, _, m => Sm.rf m
  | n + 1, k, m => by
    unfold trN
    exact ((Sm.j m _ _ _).tr (Sm.j _ _ _ _)).tr (Sm_trN d sz n (k + 1) _)
abbrev gS (m : zM) (d : Int32) : Int32 := m.1 37 (gR m d)
def gTur (m : zM) (d : Int32) : zM := if gRow m d = 0 then trN d (gS m d) ((gS m d).toNatClampNeg / 2) 0 m else m
theorem Sm_tur (m : zM) (d : Int32) : Sm m (gTur m d) := by
  unfold gTur
  split
  · exact Sm_trN _ _ _ _ _
  · exact Sm.rf m
def hTurn (m : zM) (d : Int32) : Int32 := if fNo d = 0 then rAns (gRow m d) (if gRow m d ≤ 0 then (gTur m d).1 37 (gR (gTur m d) d) / 2 else 0) else -1
def tTurn (m : zM) (d : Int32) : zM := if fNo d = 0 then sAns (gTur m d) (gRow m d) else m
def smN (m : zM) (d : Int32) : Nat → Nat → Int64 → Int64
  | 0, _, a => a
  | n + 1, k, a => smN m d n (k + 1) (a + m.2 38 (gAt m d (nI k)).toNatClampNeg)
def hSum (m : zM) (d : Int32) : Int64 := if fNo d = 0 then (if gRow m d ≤ 0 then smN m d (gS m d).toNatClampNeg 0 0 else 0) else 0
def gIs (m : zM) (d : Int32) (k : Nat) : Int32 := if m.1 32 7 = 0 then gEmp m d (nI k) else if m.1 36 (gR m d) = m.1 32 8 then (if lg_cmp (m.2 38 (gAt m d (nI k)).toNatClampNeg) (m.2 32 9) = 0 then 1 else 0) else 0
def fdN (m : zM) (d : Int32) : Nat → Nat → Int32
  | 0, _ => -9
  | n + 1, k => if gIs m d k = 0 then fdN m d n (k + 1) else nI k
def hFind (m : zM) (d : Int32) : Int32 := if fNo d = 0 then (if gRow m d ≤ 0 then fdN m d (gS m d).toNatClampNeg 0 else rAns (gRow m d) 0) else -1
def tFind (m : zM) (d : Int32) : zM := if fNo d = 0 then (if gRow m d ≤ 0 then m else sAns m (gRow m d)) else m
def tSum (m : zM) (d : Int32) : zM := if fNo d = 0 then (if gRow m d ≤ 0 then m else met1 m (gRow m d)) else m
def wrM (m : zM) (n : Nat) (op a i b j : Int32) : zM := tI (tI (tI (tI (tI m 40 (5 * n) op) 40 (5 * n + 1) a) 40 (5 * n + 2) i) 40 (5 * n + 3) b) 40 (5 * n + 4) j
def hOrd (m : zM) (op a i b j : Int32) : Int32 := if fNo a = 0 then (if fNo b = 0 then (if fBey op.toInt64 0 4 = 0 then (if fBey i.toInt64 0 20 = 0 then (if fBey j.toInt64 0 20 = 0 then (if m.1 32 13 = 8 then -3 else m.1 32 13 + 1) else -2) else -2) else -2) else -1) else -1
def tOrd (m : zM) (op a i b j : Int32) : zM := if fNo a = 0 then (if fNo b = 0 then (if fBey op.toInt64 0 4 = 0 then (if fBey i.toInt64 0 20 = 0 then (if fBey j.toInt64 0 20 = 0 then (if m.1 32 13 = 8 then m else tI (wrM m (m.1 32 13).toNatClampNeg op a i b j) 32 13 (m.1 32 13 + 1)) else m) else m) else m) else m) else m
theorem ix5 {x : Int32} {n : Nat} (hx : x = nI n) : 5 * x = nI (5 * n) := by
  rw [hx, show (5 : Int32) = nI 5 from rfl, pk_mul]
theorem ix5a {x : Int32} {n : Nat} (q : Nat) (hx : x = nI n) : 5 * x + nI q = nI (5 * n + q) := by rw [ix5 hx, nI_add]
theorem ix5_in {x y : Int32} {n q : Nat} (hx : x = nI n) (hn : n < 8) (hq : q < 5) (hy : y = nI q) : vp_in (5 * x + y) 40 := by
  rw [hy, ix5a q hx]; exact vp_in_nI (by omega) (by decide)
theorem ix5_k {x y : Int32} {n q : Nat} (hx : x = nI n) (hn : n < 8) (hq : q < 5) (hy : y = nI q) : (5 * x + y).toNatClampNeg = 5 * n + q := by
  rw [hy, ix5a q hx]; exact nI_clamp (by omega)
theorem ix5_in0 {x : Int32} {n : Nat} (hx : x = nI n) (hn : n < 8) : vp_in (5 * x) 40 := by
  rw [ix5 hx]; exact vp_in_nI (by omega) (by decide)
theorem ix5_k0 {x : Int32} {n : Nat} (hx : x = nI n) (hn : n < 8) : (5 * x).toNatClampNeg = 5 * n := by
  rw [ix5 hx]; exact nI_clamp (by omega)
theorem pp_in {x y : Int32} {q : Nat} (hx : vp_in x 36) (hq : q < 5) (hy : y = nI q) : vp_in (x + y) 40 := by
  obtain ⟨k, hk, rfl⟩ := vp_in_of hx (by decide)
  rw [hy, nI_add]; exact vp_in_nI (by omega) (by decide)
theorem pp_k {x y : Int32} {q : Nat} (hx : vp_in x 36) (hq : q < 5) (hy : y = nI q) : (x + y).toNatClampNeg = x.toNatClampNeg + q := by
  obtain ⟨k, hk, rfl⟩ := vp_in_of hx (by decide)
  rw [hy, nI_add, nI_clamp (by omega), nI_clamp (by omega)]
def dP (m : zM) (q : Nat) : Int32 × zM := if m.1 40 q = 0 then (gCome m (m.1 40 (q + 1)) (m.1 40 (q + 2)), gTak m (m.1 40 (q + 1)) (m.1 40 (q + 2))) else if m.1 40 q = 1 then (if m.1 32 7 = 0 then (0, m) else (gLay m (m.1 40 (q + 3)) (m.1 40 (q + 4)) (m.1 32 8), gPut m (m.1 40 (q + 3)) (m.1 40 (q + 4)))) else if m.1 40 q = 2 then (gSw m (m.1 40 (q + 1)) (m.1 40 (q + 2)) (m.1 40 (q + 3)) (m.1 40 (q + 4)), gSws m (m.1 40 (q + 1)) (m.1 40 (q + 2)) (m.1 40 (q + 3)) (m.1 40 (q + 4))) else if m.1 40 q = 3 then (gRow m (m.1 40 (q + 1)), gTur m (m.1 40 (q + 1))) else pPs m (m.1 40 (q + 1)) (m.1 40 (q + 2)) (m.1 40 (q + 3)) (m.1 40 (q + 4)) 3
theorem dP_5 (m : zM) (q : Nat) : vp_in (dP m q).1 5 ∧ Sm m (dP m q).2 := by
  unfold dP
  split
  · exact ⟨gCome_5 _ _ _, Sm_tak _ _ _⟩
  split
  · split
    · exact ⟨show vp_in (0 : Int32) 5 from vp_in_iff.mpr (by decide), Sm.rf m⟩
    · exact ⟨gLay_5 _ _ _ _, Sm_put _ _ _⟩
  split
  · exact ⟨gSw_5 _ _ _ _ _, Sm_sws _ _ _ _ _⟩
  split
  · exact ⟨gRow_5 _ _, Sm_tur _ _⟩
  · exact ⟨(psN_5 _ _ _ _ _ _ _).1, Sm_pPs _ _ _ _ _ _⟩
def rnN : Nat → Nat → Int32 → zM → Int32 × zM
  | 0, _, a, m => (a, m)
  | n + 1, k, a, m => if (dP m (5 * k)).1 ≤ 0 then rnN n (k + 1) (a + 1) (tI (dP m (5 * k)).2 41 k (dP m (5 * k)).1) else rnN n (k + 1) a (met1 (tI (dP m (5 * k)).2 41 k (dP m (5 * k)).1) (dP m (5 * k)).1)
def qRun (m : zM) : Int32 × zM := ((rnN (m.1 32 13).toNatClampNeg 0 0 (tI m 32 15 (m.1 32 13))).1, tI (rnN (m.1 32 13).toNatClampNeg 0 0 (tI m 32 15 (m.1 32 13))).2 32 13 0)
theorem wfM_ord {m : zM} (w : wfM m) {k : Nat} (hk : k < (m.1 32 13).toNatClampNeg) : vp_in (m.1 40 (5 * k + 1)) 8 ∧ vp_in (m.1 40 (5 * k + 3)) 8 ∧ k < 8 := by
  obtain ⟨n, h1, h2, h3⟩ := w.2.2.1
  rw [h2, nI_clamp (by omega)] at hk
  exact ⟨(h3 k hk).1, (h3 k hk).2, by omega⟩
theorem wfM_15 {m : zM} (w : wfM m) : wfM (tI m 32 15 (m.1 32 13)) := by
  obtain ⟨w1, w2, w3, w4⟩ := w
  refine ⟨fun d hd => by rw [tI_r (by decide)]; exact w1 d hd, fun r hr => by rw [tI_r (by decide)]; exact w2 r hr, ?_, ?_⟩
  · rw [tI_n (by decide), tI_r (by decide)]; exact w3
  · rw [tI_s]
    obtain ⟨n, h1, h2, -⟩ := w3
    exact ⟨n, h1, h2⟩
def tlN (m : zM) (d : Int32) : Nat → Nat → Int32 → Int32
  | 0, _, a => a
  | n + 1, k, a => tlN m d n (k + 1) (a + (if m.1 33 d.toNatClampNeg = 2 then (if m.1 33 k = 2 then (if m.1 35 k = m.1 35 d.toNatClampNeg then 1 else 0) else 0) else 0))
def hTold (m : zM) (d w : Int32) : Int32 := if fNo d = 0 then (if w = 0 then (if 2 ≤ m.1 33 d.toNatClampNeg then 2 + m.1 36 (gR m d) else m.1 33 d.toNatClampNeg) else if w = 1 then tlN m d 8 0 0 else if w = 2 then (if m.1 33 d.toNatClampNeg = 1 then m.1 34 d.toNatClampNeg else 0) else -2) else -1
set_option maxHeartbeats 4000000 in
set_option maxRecDepth 100000 in
theorem k_X3_note (l : Launch) (E : zE) (c : zC) (mo : zM) (d : Int32) (v : Int32)  : Met l yX3_note wsX3_note (zR 2 45) (zP E c mo [.ref (zl E 32), .int d, .int v]) (cQi E (hNote d) c (tNote mo d v)) 0 0 (zA E) := by
  refine z_ent (cc := cX3_note) (maxL := 3) (ret := (some .int)) (vs := [.ref (zl E 32), .int d, .int v]) (by decide) rfl (Nat.le_of_ble_eq_true rfl) ?_
  intro p e s m below meth cd ls hx hb hr hml hown hts hlocks hl hw
  have hl : lv_has ls 3 [(0, .ref (zl E 32)), (1, .int d), (2, .int v)] := hl
  have hown : s.vm.findClass RX3 = some m.cls := hown
  have hin3 : ∀ w ∈ u_ws RX3 TX3 18, w ∈ wsX3_note := by decide +kernel
  refine lv_iload_n hx hb dX3_note_0 rfl (lv_at hl 1 rfl) ?_
  refine z_calli (rest := []) (va_runS (As := [.int d]) (rest := []) ⟨hx, hb, hml, hown, hts⟩ (k_X3_no l E c mo d ) (va_cwS 1 hts gX3_note_X3_no rfl rfl rfl (by decide +kernel) ⟨Nat.le_of_ble_eq_true rfl, Nat.le_of_ble_eq_true rfl⟩) (z_preS hw [.int d]) rfl rfl hl.1 rfl (lv_room (Nat.le_of_ble_eq_true rfl)) dX3_note_1 ⟨Nat.le_of_ble_eq_true rfl, Nat.le_of_ble_eq_true rfl⟩) hw (fun H locs hw => ?_)
  refine lv_if_eq (tgt := 9) hx hb dX3_note_4 (by decide) (fun q_1 => ?_) (fun q_1 => ?_)
  · have _ := hx
    refine lv_aload_n hx hb dX3_note_9 rfl (lv_at hl 0 rfl) ?_
    refine z_get (i := 32) hx hb hts hin3 hown hw (by decide) zG_32 rfl 0 (by decide) (hts (.fieldLink RX3 7 "SeedDrawersModel" "has" "[I") (by decide +kernel)) rfl rfl dX3_note_10 ?_
    refine lv_iload_n hx hb dX3_note_13 rfl (lv_at hl 1 rfl) ?_
    refine lv_iconst (v := 1) hx hb dX3_note_14 (by decide) ?_
    refine y_iast9 (i := 33) hx hb hw (by decide) (by decide) (fNo_in (by assumption)) (k := d.toNatClampNeg) rfl dX3_note_15 (fun H locs hw => ?_)
    refine lv_aload_n hx hb dX3_note_16 rfl (lv_at hl 0 rfl) ?_
    refine z_get (i := 32) hx hb hts hin3 hown hw (by decide) zG_32 rfl 1 (by decide) (hts (.fieldLink RX3 13 "SeedDrawersModel" "note" "[I") (by decide +kernel)) rfl rfl dX3_note_17 ?_
    refine lv_iload_n hx hb dX3_note_20 rfl (lv_at hl 1 rfl) ?_
    refine lv_iload_n hx hb dX3_note_21 rfl (lv_at hl 2 rfl) ?_
    refine y_iast9 (i := 34) hx hb hw (by decide) (by decide) (fNo_in (by assumption)) (k := d.toNatClampNeg) rfl dX3_note_22 (fun H locs hw => ?_)
    refine lv_iconst (v := 1) hx hb dX3_note_23 (by decide) ?_
    exact z_iret hx hb hr hlocks hw dX3_note_24 (by first | (simp [hNote, tNote, q_1]; done) | (simp_all [hNote, tNote]; done)) rfl (by first | (simp [hNote, tNote, q_1]; done) | (simp_all [hNote, tNote]; done))
  · have _ := hx
    refine lv_iconst (v := (-1)) hx hb dX3_note_7 (by decide) ?_
    exact z_iret hx hb hr hlocks hw dX3_note_8 (by first | (simp [hNote, tNote, q_1]; done) | (simp_all [hNote, tNote]; done)) rfl (by first | (simp [hNote, tNote, q_1]; done) | (simp_all [hNote, tNote]; done))
set_option maxHeartbeats 4000000 in
set_option maxRecDepth 100000 in
theorem k_X3_share (l : Launch) (E : zE) (c : zC) (mo : zM) (d : Int32) (f : Int32)  : Met l yX3_share wsX3_share (zR 2 45) (zP E c mo [.ref (zl E 32), .int d, .int f]) (cQi E (hShare d f) c (tShare mo d f)) 0 0 (zA E) := by
  refine z_ent (cc := cX3_share) (maxL := 3) (ret := (some .int)) (vs := [.ref (zl E 32), .int d, .int f]) (by decide) rfl (Nat.le_of_ble_eq_true rfl) ?_
  intro p e s m below meth cd ls hx hb hr hml hown hts hlocks hl hw
  have hl : lv_has ls 3 [(0, .ref (zl E 32)), (1, .int d), (2, .int f)] := hl
  have hown : s.vm.findClass RX3 = some m.cls := hown
  have hin3 : ∀ w ∈ u_ws RX3 TX3 18, w ∈ wsX3_share := by decide +kernel
  refine lv_iload_n hx hb dX3_share_0 rfl (lv_at hl 1 rfl) ?_
  refine z_calli (rest := []) (va_runS (As := [.int d]) (rest := []) ⟨hx, hb, hml, hown, hts⟩ (k_X3_no l E c mo d ) (va_cwS 1 hts gX3_share_X3_no rfl rfl rfl (by decide +kernel) ⟨Nat.le_of_ble_eq_true rfl, Nat.le_of_ble_eq_true rfl⟩) (z_preS hw [.int d]) rfl rfl hl.1 rfl (lv_room (Nat.le_of_ble_eq_true rfl)) dX3_share_1 ⟨Nat.le_of_ble_eq_true rfl, Nat.le_of_ble_eq_true rfl⟩) hw (fun H locs hw => ?_)
  refine lv_if_ne (tgt := 14) hx hb dX3_share_4 (by decide) (fun q_1 => ?_) (fun q_1 => ?_)
  · have _ := hx
    refine lv_iconst (v := (-1)) hx hb dX3_share_14 (by decide) ?_
    exact z_iret hx hb hr hlocks hw dX3_share_15 (by first | (simp [hShare, tShare, shr, q_1]; done) | (simp_all [hShare, tShare, shr]; done)) rfl (by first | (simp [hShare, tShare, shr, q_1]; done) | (simp_all [hShare, tShare, shr]; done))
  · have _ := hx
    refine lv_iload_n hx hb dX3_share_7 rfl (lv_at hl 2 rfl) ?_
    refine z_calli (rest := []) (va_runS (As := [.int f]) (rest := []) ⟨hx, hb, hml, hown, hts⟩ (k_X3_no l E c mo f ) (va_cwS 1 hts gX3_share_X3_no rfl rfl rfl (by decide +kernel) ⟨Nat.le_of_ble_eq_true rfl, Nat.le_of_ble_eq_true rfl⟩) (z_preS hw [.int f]) rfl rfl hl.1 rfl (lv_room (Nat.le_of_ble_eq_true rfl)) dX3_share_8 ⟨Nat.le_of_ble_eq_true rfl, Nat.le_of_ble_eq_true rfl⟩) hw (fun H locs hw => ?_)
    refine lv_if_eq (tgt := 16) hx hb dX3_share_11 (by decide) (fun q_2 => ?_) (fun q_2 => ?_)
    · have _ := hx
      refine lv_aload_n hx hb dX3_share_16 rfl (lv_at hl 0 rfl) ?_
      refine z_get (i := 32) hx hb hts hin3 hown hw (by decide) zG_32 rfl 0 (by decide) (hts (.fieldLink RX3 7 "SeedDrawersModel" "has" "[I") (by decide +kernel)) rfl rfl dX3_share_17 ?_
      refine lv_iload_n hx hb dX3_share_20 rfl (lv_at hl 1 rfl) ?_
      refine lv_aload_n hx hb dX3_share_21 rfl (lv_at hl 0 rfl) ?_
      refine z_get (i := 32) hx hb hts hin3 hown hw (by decide) zG_32 rfl 0 (by decide) (hts (.fieldLink RX3 7 "SeedDrawersModel" "has" "[I") (by decide +kernel)) rfl rfl dX3_share_22 ?_
      refine lv_iload_n hx hb dX3_share_25 rfl (lv_at hl 2 rfl) ?_
      refine y_iald (i := 33) hx hb hw (by decide) (zG_9 (i := 33) (by decide)) (fNo_in (by assumption)) (k := f.toNatClampNeg) rfl dX3_share_26 ?_
      refine y_iast9 (i := 33) hx hb hw (by decide) (by decide) (fNo_in (by assumption)) (k := d.toNatClampNeg) rfl dX3_share_27 (fun H locs hw => ?_)
      refine lv_aload_n hx hb dX3_share_28 rfl (lv_at hl 0 rfl) ?_
      refine z_get (i := 32) hx hb hts hin3 hown hw (by decide) zG_32 rfl 1 (by decide) (hts (.fieldLink RX3 13 "SeedDrawersModel" "note" "[I") (by decide +kernel)) rfl rfl dX3_share_29 ?_
      refine lv_iload_n hx hb dX3_share_32 rfl (lv_at hl 1 rfl) ?_
      refine lv_aload_n hx hb dX3_share_33 rfl (lv_at hl 0 rfl) ?_
      refine z_get (i := 32) hx hb hts hin3 hown hw (by decide) zG_32 rfl 1 (by decide) (hts (.fieldLink RX3 13 "SeedDrawersModel" "note" "[I") (by decide +kernel)) rfl rfl dX3_share_34 ?_
      refine lv_iload_n hx hb dX3_share_37 rfl (lv_at hl 2 rfl) ?_
      refine y_iald (i := 34) hx hb hw (by decide) (zG_9 (i := 34) (by decide)) (fNo_in (by assumption)) (k := f.toNatClampNeg) rfl dX3_share_38 ?_
      refine y_iast9 (i := 34) hx hb hw (by decide) (by decide) (fNo_in (by assumption)) (k := d.toNatClampNeg) rfl dX3_share_39 (fun H locs hw => ?_)
      refine lv_aload_n hx hb dX3_share_40 rfl (lv_at hl 0 rfl) ?_
      refine z_get (i := 32) hx hb hts hin3 hown hw (by decide) zG_32 rfl 2 (by decide) (hts (.fieldLink RX3 16 "SeedDrawersModel" "rowOf" "[I") (by decide +kernel)) rfl rfl dX3_share_41 ?_
      refine lv_iload_n hx hb dX3_share_44 rfl (lv_at hl 1 rfl) ?_
      refine lv_aload_n hx hb dX3_share_45 rfl (lv_at hl 0 rfl) ?_
      refine z_get (i := 32) hx hb hts hin3 hown hw (by decide) zG_32 rfl 2 (by decide) (hts (.fieldLink RX3 16 "SeedDrawersModel" "rowOf" "[I") (by decide +kernel)) rfl rfl dX3_share_46 ?_
      refine lv_iload_n hx hb dX3_share_49 rfl (lv_at hl 2 rfl) ?_
      refine y_iald (i := 35) hx hb hw (by decide) (zG_9 (i := 35) (by decide)) (fNo_in (by assumption)) (k := f.toNatClampNeg) rfl dX3_share_50 ?_
      refine y_iast9 (i := 35) hx hb hw (by decide) (by decide) (fNo_in (by assumption)) (k := d.toNatClampNeg) rfl dX3_share_51 (fun H locs hw => ?_)
      refine lv_iconst (v := 1) hx hb dX3_share_52 (by decide) ?_
      exact z_iret hx hb hr hlocks hw dX3_share_53 (by first | (simp [hShare, tShare, shr, q_1, q_2]; done) | (simp_all [hShare, tShare, shr]; done)) rfl (by first | (simp [hShare, tShare, shr, q_1, q_2]; done) | (simp_all [hShare, tShare, shr]; done))
    · have _ := hx
      refine lv_iconst (v := (-1)) hx hb dX3_share_14 (by decide) ?_
      exact z_iret hx hb hr hlocks hw dX3_share_15 (by first | (simp [hShare, tShare, shr, q_1, q_2]; done) | (simp_all [hShare, tShare, shr]; done)) rfl (by first | (simp [hShare, tShare, shr, q_1, q_2]; done) | (simp_all [hShare, tShare, shr]; done))
set_option maxHeartbeats 4000000 in
set_option maxRecDepth 100000 in
theorem k_X3_clear (l : Launch) (E : zE) (c : zC) (mo : zM) (d : Int32)  : Met l yX3_clear wsX3_clear (zR 2 45) (zP E c mo [.ref (zl E 32), .int d]) (cQi E (hClear mo d) c (tClear mo d)) 0 0 (zA E) := by
  refine z_ent (cc := cX3_clear) (maxL := 3) (ret := (some .int)) (vs := [.ref (zl E 32), .int d]) (by decide) rfl (Nat.le_of_ble_eq_true rfl) ?_
  intro p e s m below meth cd ls hx hb hr hml hown hts hlocks hl hw
  have hl : lv_has ls 3 [(0, .ref (zl E 32)), (1, .int d)] := hl
  have hown : s.vm.findClass RX3 = some m.cls := hown
  have hin3 : ∀ w ∈ u_ws RX3 TX3 18, w ∈ wsX3_clear := by decide +kernel
  refine lv_iload_n hx hb dX3_clear_0 rfl (lv_at hl 1 rfl) ?_
  refine z_calli (rest := []) (va_runS (As := [.int d]) (rest := []) ⟨hx, hb, hml, hown, hts⟩ (k_X3_no l E c mo d ) (va_cwS 1 hts gX3_clear_X3_no rfl rfl rfl (by decide +kernel) ⟨Nat.le_of_ble_eq_true rfl, Nat.le_of_ble_eq_true rfl⟩) (z_preS hw [.int d]) rfl rfl hl.1 rfl (lv_room (Nat.le_of_ble_eq_true rfl)) dX3_clear_1 ⟨Nat.le_of_ble_eq_true rfl, Nat.le_of_ble_eq_true rfl⟩) hw (fun H locs hw => ?_)
  refine lv_if_eq (tgt := 9) hx hb dX3_clear_4 (by decide) (fun q_1 => ?_) (fun q_1 => ?_)
  · have _ := hx
    refine lv_aload_n hx hb dX3_clear_9 rfl (lv_at hl 0 rfl) ?_
    refine z_get (i := 32) hx hb hts hin3 hown hw (by decide) zG_32 rfl 0 (by decide) (hts (.fieldLink RX3 7 "SeedDrawersModel" "has" "[I") (by decide +kernel)) rfl rfl dX3_clear_10 ?_
    refine lv_iload_n hx hb dX3_clear_13 rfl (lv_at hl 1 rfl) ?_
    refine y_iald (i := 33) hx hb hw (by decide) (zG_9 (i := 33) (by decide)) (fNo_in (by assumption)) (k := d.toNatClampNeg) rfl dX3_clear_14 ?_
    refine lv_if_le (tgt := 22) hx hb dX3_clear_15 (by decide) (fun q_2 => ?_) (fun q_2 => ?_)
    · have _ := hx
      refine lv_iconst (v := 0) hx hb dX3_clear_22 (by decide) ?_
      refine lv_istore_n (lv' := [(2, .int 0), (0, .ref (zl E 32)), (1, .int d)]) hx hb dX3_clear_23 rfl hl (by decide) rfl (fun ls hl => ?_)
      refine lv_aload_n hx hb dX3_clear_24 rfl (lv_at hl 1 rfl) ?_
      refine z_get (i := 32) hx hb hts hin3 hown hw (by decide) zG_32 rfl 0 (by decide) (hts (.fieldLink RX3 7 "SeedDrawersModel" "has" "[I") (by decide +kernel)) rfl rfl dX3_clear_25 ?_
      refine lv_iload_n hx hb dX3_clear_28 rfl (lv_at hl 2 rfl) ?_
      refine lv_iconst (v := 0) hx hb dX3_clear_29 (by decide) ?_
      refine y_iast9 (i := 33) hx hb hw (by decide) (by decide) (fNo_in (by assumption)) (k := d.toNatClampNeg) rfl dX3_clear_30 (fun H locs hw => ?_)
      refine lv_iload_n hx hb dX3_clear_31 rfl (lv_at hl 0 rfl) ?_
      exact z_iret hx hb hr hlocks hw dX3_clear_32 (by first | (simp [hClear, tClear, q_1, q_2]; done) | (simp_all [hClear, tClear]; done)) rfl (by first | (simp [hClear, tClear, q_1, q_2]; done) | (simp_all [hClear, tClear]; done))
    · have _ := hx
      refine lv_iconst (v := 1) hx hb dX3_clear_18 (by decide) ?_
      refine lv_goto (tgt := 23) hx hb dX3_clear_19 (by decide) ?_
      refine lv_istore_n (lv' := [(2, .int 1), (0, .ref (zl E 32)), (1, .int d)]) hx hb dX3_clear_23 rfl hl (by decide) rfl (fun ls hl => ?_)
      refine lv_aload_n hx hb dX3_clear_24 rfl (lv_at hl 1 rfl) ?_
      refine z_get (i := 32) hx hb hts hin3 hown hw (by decide) zG_32 rfl 0 (by decide) (hts (.fieldLink RX3 7 "SeedDrawersModel" "has" "[I") (by decide +kernel)) rfl rfl dX3_clear_25 ?_
      refine lv_iload_n hx hb dX3_clear_28 rfl (lv_at hl 2 rfl) ?_
      refine lv_iconst (v := 0) hx hb dX3_clear_29 (by decide) ?_
      refine y_iast9 (i := 33) hx hb hw (by decide) (by decide) (fNo_in (by assumption)) (k := d.toNatClampNeg) rfl dX3_clear_30 (fun H locs hw => ?_)
      refine lv_iload_n hx hb dX3_clear_31 rfl (lv_at hl 0 rfl) ?_
      exact z_iret hx hb hr hlocks hw dX3_clear_32 (by first | (simp [hClear, tClear, q_1, q_2]; done) | (simp_all [hClear, tClear]; done)) rfl (by first | (simp [hClear, tClear, q_1, q_2]; done) | (simp_all [hClear, tClear]; done))
  · have _ := hx
    refine lv_iconst (v := (-1)) hx hb dX3_clear_7 (by decide) ?_
    exact z_iret hx hb hr hlocks hw dX3_clear_8 (by first | (simp [hClear, tClear, q_1]; done) | (simp_all [hClear, tClear]; done)) rfl (by first | (simp [hClear, tClear, q_1]; done) | (simp_all [hClear, tClear]; done))
set_option maxHeartbeats 4000000 in
set_option maxRecDepth 100000 in
theorem k_X3_think (l : Launch) (E : zE) (c : zC) (mo : zM) (k : Int32) (v : Int64)  : Met l yX3_think wsX3_think (zR 1 25) (zP E c mo [.ref (zl E 32), .int k, .long v]) (cQi E (hThink k) c (tThink mo k v)) 0 0 (zA E) := by
  refine z_ent (cc := cX3_think) (maxL := 4) (ret := (some .int)) (vs := [.ref (zl E 32), .int k, .long v]) (by decide) rfl (Nat.le_of_ble_eq_true rfl) ?_
  intro p e s m below meth cd ls hx hb hr hml hown hts hlocks hl hw
  have hl : lv_has ls 4 [(0, .ref (zl E 32)), (1, .int k), (2, .long v)] := hl
  have hown : s.vm.findClass RX3 = some m.cls := hown
  have hin3 : ∀ w ∈ u_ws RX3 TX3 18, w ∈ wsX3_think := by decide +kernel
  refine lv_iload_n hx hb dX3_think_0 rfl (lv_at hl 1 rfl) ?_
  refine lv_i2l (v := k.toInt64) hx hb dX3_think_1 rfl ?_
  refine lv_lconst (v := 0) hx hb dX3_think_2 (by decide) ?_
  refine lv_ldc2 (v := 5) hx hb hown (hts (.constantLong RX3 64 (5)) (by decide +kernel)) dX3_think_3 ?_
  refine z_calli (rest := []) (va_runS (As := [.long k.toInt64, .long 0, .long 5]) (rest := []) ⟨hx, hb, hml, hown, hts⟩ (k_X3_beyond l E c mo k.toInt64 0 5 ) (va_cwS 3 hts gX3_think_X3_beyond rfl rfl rfl (by decide +kernel) ⟨Nat.le_of_ble_eq_true rfl, Nat.le_of_ble_eq_true rfl⟩) (z_preS hw [.long k.toInt64, .long 0, .long 5]) rfl rfl hl.1 rfl (lv_room (Nat.le_of_ble_eq_true rfl)) dX3_think_6 ⟨Nat.le_of_ble_eq_true rfl, Nat.le_of_ble_eq_true rfl⟩) hw (fun H locs hw => ?_)
  refine lv_if_eq (tgt := 15) hx hb dX3_think_9 (by decide) (fun q_1 => ?_) (fun q_1 => ?_)
  · have _ := hx
    refine lv_aload_n hx hb dX3_think_15 rfl (lv_at hl 0 rfl) ?_
    refine lv_iconst (v := 1) hx hb dX3_think_16 (by decide) ?_
    refine z_put (i := 32) (ty := .boolean) hx hb hts hin3 tyX3 tyX3_ok nmX3 hown hw (by decide) zG_32 rfl 7 (by decide) (hts (.fieldLink RX3 66 "SeedDrawersModel" "holds" "Z") (by decide +kernel)) rfl rfl (by decide +kernel) rfl rfl (Nat.le_of_ble_eq_true rfl) (zU32_7 E c mo 1) dX3_think_17 (fun H locs hw => ?_)
    refine lv_aload_n hx hb dX3_think_20 rfl (lv_at hl 0 rfl) ?_
    refine lv_iload_n hx hb dX3_think_21 rfl (lv_at hl 1 rfl) ?_
    refine z_put (i := 32) (ty := .int) hx hb hts hin3 tyX3 tyX3_ok nmX3 hown hw (by decide) zG_32 rfl 8 (by decide) (hts (.fieldLink RX3 70 "SeedDrawersModel" "handKind" "I") (by decide +kernel)) rfl rfl (by decide +kernel) rfl rfl (Nat.le_of_ble_eq_true rfl) (zU32_8 E c (tI mo 32 7 1) k) dX3_think_22 (fun H locs hw => ?_)
    refine lv_aload_n hx hb dX3_think_25 rfl (lv_at hl 0 rfl) ?_
    refine lv_iload_n hx hb dX3_think_26 rfl (lv_at hl 1 rfl) ?_
    refine lv_if_ne (tgt := 37) hx hb dX3_think_27 (by decide) (fun q_2 => ?_) (fun q_2 => ?_)
    · have _ := hx
      refine lv_iload_n hx hb dX3_think_37 rfl (lv_at hl 1 rfl) ?_
      refine lv_iconst (v := 1) hx hb dX3_think_38 (by decide) ?_
      refine lv_icmp_ne (tgt := 49) hx hb dX3_think_39 (by decide) (fun q_3 => ?_) (fun q_3 => ?_)
      · have _ := hx
        refine lv_iload_n hx hb dX3_think_49 rfl (lv_at hl 1 rfl) ?_
        refine lv_iconst (v := 2) hx hb dX3_think_50 (by decide) ?_
        refine lv_icmp_ne (tgt := 61) hx hb dX3_think_51 (by decide) (fun q_4 => ?_) (fun q_4 => ?_)
        · have _ := hx
          refine lv_iload_n hx hb dX3_think_61 rfl (lv_at hl 1 rfl) ?_
          refine lv_iconst (v := 3) hx hb dX3_think_62 (by decide) ?_
          refine lv_icmp_ne (tgt := 72) hx hb dX3_think_63 (by decide) (fun q_5 => ?_) (fun q_5 => ?_)
          · have _ := hx
            refine lv_iload_n hx hb dX3_think_72 rfl (lv_at hl 1 rfl) ?_
            refine lv_iconst (v := 4) hx hb dX3_think_73 (by decide) ?_
            refine lv_icmp_ne (tgt := 81) hx hb dX3_think_74 (by decide) (fun q_6 => ?_) (fun q_6 => ?_)
            · have _ := hx
              refine lv_lload_n hx hb dX3_think_81 rfl (lv_at hl 2 rfl) ?_
              refine lv_lconst (v := 0) hx hb dX3_think_82 (by decide) ?_
              refine W.lcmp hx hb dX3_think_83 ?_
              refine lv_if_eq (tgt := 91) hx hb dX3_think_84 (by decide) (fun q_7 => ?_) (fun q_7 => ?_)
              · have _ := hx
                refine lv_lconst (v := 0) hx hb dX3_think_91 (by decide) ?_
                refine z_put (i := 32) (ty := .long) hx hb hts hin3 tyX3 tyX3_ok nmX3 hown hw (by decide) zG_32 rfl 9 (by decide) (hts (.fieldLink RX3 73 "SeedDrawersModel" "handValue" "J") (by decide +kernel)) rfl rfl (by decide +kernel) rfl rfl (Nat.le_of_ble_eq_true rfl) (zU32_9 E c (tI (tI mo 32 7 1) 32 8 k) 0) dX3_think_92 (fun H locs hw => ?_)
                refine lv_iconst (v := 1) hx hb dX3_think_95 (by decide) ?_
                exact z_iret hx hb hr hlocks hw dX3_think_96 (by first | (simp [hThink, tThink, gVok, q_1, q_2, q_3, q_4, q_5, q_6, q_7]; done) | (simp_all [hThink, tThink, gVok]; done)) rfl (by first | (simp [hThink, tThink, gVok, q_1, q_2, q_3, q_4, q_5, q_6, q_7]; done) | (simp_all [hThink, tThink, gVok]; done))
              · have _ := hx
                refine lv_lconst (v := 1) hx hb dX3_think_87 (by decide) ?_
                refine lv_goto (tgt := 92) hx hb dX3_think_88 (by decide) ?_
                refine z_put (i := 32) (ty := .long) hx hb hts hin3 tyX3 tyX3_ok nmX3 hown hw (by decide) zG_32 rfl 9 (by decide) (hts (.fieldLink RX3 73 "SeedDrawersModel" "handValue" "J") (by decide +kernel)) rfl rfl (by decide +kernel) rfl rfl (Nat.le_of_ble_eq_true rfl) (zU32_9 E c (tI (tI mo 32 7 1) 32 8 k) 1) dX3_think_92 (fun H locs hw => ?_)
                refine lv_iconst (v := 1) hx hb dX3_think_95 (by decide) ?_
                exact z_iret hx hb hr hlocks hw dX3_think_96 (by first | (simp [hThink, tThink, gVok, q_1, q_2, q_3, q_4, q_5, q_6, q_7]; done) | (simp_all [hThink, tThink, gVok]; done)) rfl (by first | (simp [hThink, tThink, gVok, q_1, q_2, q_3, q_4, q_5, q_6, q_7]; done) | (simp_all [hThink, tThink, gVok]; done))
            · have _ := hx
              refine lv_lload_n hx hb dX3_think_77 rfl (lv_at hl 2 rfl) ?_
              refine lv_goto (tgt := 92) hx hb dX3_think_78 (by decide) ?_
              refine z_put (i := 32) (ty := .long) hx hb hts hin3 tyX3 tyX3_ok nmX3 hown hw (by decide) zG_32 rfl 9 (by decide) (hts (.fieldLink RX3 73 "SeedDrawersModel" "handValue" "J") (by decide +kernel)) rfl rfl (by decide +kernel) rfl rfl (Nat.le_of_ble_eq_true rfl) (zU32_9 E c (tI (tI mo 32 7 1) 32 8 k) v) dX3_think_92 (fun H locs hw => ?_)
              refine lv_iconst (v := 1) hx hb dX3_think_95 (by decide) ?_
              exact z_iret hx hb hr hlocks hw dX3_think_96 (by first | (simp [hThink, tThink, gVok, q_1, q_2, q_3, q_4, q_5, q_6]; done) | (simp_all [hThink, tThink, gVok]; done)) rfl (by first | (simp [hThink, tThink, gVok, q_1, q_2, q_3, q_4, q_5, q_6]; done) | (simp_all [hThink, tThink, gVok]; done))
          · have _ := hx
            refine lv_lload_n hx hb dX3_think_66 rfl (lv_at hl 2 rfl) ?_
            refine lv_l2i (v := v.toInt32) hx hb dX3_think_67 rfl ?_
            refine lv_i2l (v := v.toInt32.toInt64) hx hb dX3_think_68 rfl ?_
            refine lv_goto (tgt := 92) hx hb dX3_think_69 (by decide) ?_
            refine z_put (i := 32) (ty := .long) hx hb hts hin3 tyX3 tyX3_ok nmX3 hown hw (by decide) zG_32 rfl 9 (by decide) (hts (.fieldLink RX3 73 "SeedDrawersModel" "handValue" "J") (by decide +kernel)) rfl rfl (by decide +kernel) rfl rfl (Nat.le_of_ble_eq_true rfl) (zU32_9 E c (tI (tI mo 32 7 1) 32 8 k) v.toInt32.toInt64) dX3_think_92 (fun H locs hw => ?_)
            refine lv_iconst (v := 1) hx hb dX3_think_95 (by decide) ?_
            exact z_iret hx hb hr hlocks hw dX3_think_96 (by first | (simp [hThink, tThink, gVok, q_1, q_2, q_3, q_4, q_5]; done) | (simp_all [hThink, tThink, gVok]; done)) rfl (by first | (simp [hThink, tThink, gVok, q_1, q_2, q_3, q_4, q_5]; done) | (simp_all [hThink, tThink, gVok]; done))
        · have _ := hx
          refine lv_lload_n hx hb dX3_think_54 rfl (lv_at hl 2 rfl) ?_
          refine lv_l2i (v := v.toInt32) hx hb dX3_think_55 rfl ?_
          refine lv_i2c (v := (v.toInt32.toUInt32 % 65536).toInt32) hx hb dX3_think_56 rfl ?_
          refine lv_i2l (v := ((v.toInt32.toUInt32 % 65536).toInt32).toInt64) hx hb dX3_think_57 rfl ?_
          refine lv_goto (tgt := 92) hx hb dX3_think_58 (by decide) ?_
          refine z_put (i := 32) (ty := .long) hx hb hts hin3 tyX3 tyX3_ok nmX3 hown hw (by decide) zG_32 rfl 9 (by decide) (hts (.fieldLink RX3 73 "SeedDrawersModel" "handValue" "J") (by decide +kernel)) rfl rfl (by decide +kernel) rfl rfl (Nat.le_of_ble_eq_true rfl) (zU32_9 E c (tI (tI mo 32 7 1) 32 8 k) (((v.toInt32.toUInt32 % 65536).toInt32).toInt64)) dX3_think_92 (fun H locs hw => ?_)
          refine lv_iconst (v := 1) hx hb dX3_think_95 (by decide) ?_
          exact z_iret hx hb hr hlocks hw dX3_think_96 (by first | (simp [hThink, tThink, gVok, q_1, q_2, q_3, q_4]; done) | (simp_all [hThink, tThink, gVok]; done)) rfl (by first | (simp [hThink, tThink, gVok, q_1, q_2, q_3, q_4]; done) | (simp_all [hThink, tThink, gVok]; done))
      · have _ := hx
        refine lv_lload_n hx hb dX3_think_42 rfl (lv_at hl 2 rfl) ?_
        refine lv_l2i (v := v.toInt32) hx hb dX3_think_43 rfl ?_
        refine lv_i2s (v := v.toInt32.toInt16.toInt32) hx hb dX3_think_44 rfl ?_
        refine lv_i2l (v := v.toInt32.toInt16.toInt32.toInt64) hx hb dX3_think_45 rfl ?_
        refine lv_goto (tgt := 92) hx hb dX3_think_46 (by decide) ?_
        refine z_put (i := 32) (ty := .long) hx hb hts hin3 tyX3 tyX3_ok nmX3 hown hw (by decide) zG_32 rfl 9 (by decide) (hts (.fieldLink RX3 73 "SeedDrawersModel" "handValue" "J") (by decide +kernel)) rfl rfl (by decide +kernel) rfl rfl (Nat.le_of_ble_eq_true rfl) (zU32_9 E c (tI (tI mo 32 7 1) 32 8 k) v.toInt32.toInt16.toInt32.toInt64) dX3_think_92 (fun H locs hw => ?_)
        refine lv_iconst (v := 1) hx hb dX3_think_95 (by decide) ?_
        exact z_iret hx hb hr hlocks hw dX3_think_96 (by first | (simp [hThink, tThink, gVok, q_1, q_2, q_3]; done) | (simp_all [hThink, tThink, gVok]; done)) rfl (by first | (simp [hThink, tThink, gVok, q_1, q_2, q_3]; done) | (simp_all [hThink, tThink, gVok]; done))
    · have _ := hx
      refine lv_lload_n hx hb dX3_think_30 rfl (lv_at hl 2 rfl) ?_
      refine lv_l2i (v := v.toInt32) hx hb dX3_think_31 rfl ?_
      refine lv_i2b (v := v.toInt32.toInt8.toInt32) hx hb dX3_think_32 rfl ?_
      refine lv_i2l (v := v.toInt32.toInt8.toInt32.toInt64) hx hb dX3_think_33 rfl ?_
      refine lv_goto (tgt := 92) hx hb dX3_think_34 (by decide) ?_
      refine z_put (i := 32) (ty := .long) hx hb hts hin3 tyX3 tyX3_ok nmX3 hown hw (by decide) zG_32 rfl 9 (by decide) (hts (.fieldLink RX3 73 "SeedDrawersModel" "handValue" "J") (by decide +kernel)) rfl rfl (by decide +kernel) rfl rfl (Nat.le_of_ble_eq_true rfl) (zU32_9 E c (tI (tI mo 32 7 1) 32 8 k) v.toInt32.toInt8.toInt32.toInt64) dX3_think_92 (fun H locs hw => ?_)
      refine lv_iconst (v := 1) hx hb dX3_think_95 (by decide) ?_
      exact z_iret hx hb hr hlocks hw dX3_think_96 (by first | (simp [hThink, tThink, gVok, q_1, q_2]; done) | (simp_all [hThink, tThink, gVok]; done)) rfl (by first | (simp [hThink, tThink, gVok, q_1, q_2]; done) | (simp_all [hThink, tThink, gVok]; done))
  · have _ := hx
    refine lv_bipush (v := (-2)) hx hb dX3_think_12 (by decide) ?_
    exact z_iret hx hb hr hlocks hw dX3_think_14 (by first | (simp [hThink, tThink, gVok, q_1]; done) | (simp_all [hThink, tThink, gVok]; done)) rfl (by first | (simp [hThink, tThink, gVok, q_1]; done) | (simp_all [hThink, tThink, gVok]; done))
set_option maxHeartbeats 4000000 in
set_option maxRecDepth 100000 in
theorem k_X3_card (l : Launch) (E : zE) (c : zC) (mo : zM)   : Met l yX3_card wsX3_card (zR 0 0) (zP E c mo [.ref (zl E 32)]) (cQi E (hCard mo) c (tCard mo)) 0 0 (zA E) := by
  refine z_ent (cc := cX3_card) (maxL := 1) (ret := (some .int)) (vs := [.ref (zl E 32)]) (by decide) rfl (Nat.le_of_ble_eq_true rfl) ?_
  intro p e s m below meth cd ls hx hb hr hml hown hts hlocks hl hw
  have hl : lv_has ls 1 [(0, .ref (zl E 32))] := hl
  have hown : s.vm.findClass RX3 = some m.cls := hown
  have hin3 : ∀ w ∈ u_ws RX3 TX3 18, w ∈ wsX3_card := by decide +kernel
  refine lv_aload_n hx hb dX3_card_0 rfl (lv_at hl 0 rfl) ?_
  refine z_get (i := 32) hx hb hts hin3 hown hw (by decide) zG_32 rfl 10 (by decide) (hts (.fieldLink RX3 77 "SeedDrawersModel" "cards" "I") (by decide +kernel)) rfl rfl dX3_card_1 ?_
  refine lv_bipush (v := 30) hx hb dX3_card_4 (by decide) ?_
  refine lv_icmp_ne (tgt := 12) hx hb dX3_card_6 (by decide) (fun q_1 => ?_) (fun q_1 => ?_)
  · have _ := hx
    refine lv_aload_n hx hb dX3_card_12 rfl (lv_at hl 0 rfl) ?_
    refine lv_dup hx hb dX3_card_13 rfl ?_
    refine z_get (i := 32) hx hb hts hin3 hown hw (by decide) zG_32 rfl 10 (by decide) (hts (.fieldLink RX3 77 "SeedDrawersModel" "cards" "I") (by decide +kernel)) rfl rfl dX3_card_14 ?_
    refine lv_iconst (v := 1) hx hb dX3_card_17 (by decide) ?_
    refine lv_iadd hx hb dX3_card_18 ?_
    refine z_put (i := 32) (ty := .int) hx hb hts hin3 tyX3 tyX3_ok nmX3 hown hw (by decide) zG_32 rfl 10 (by decide) (hts (.fieldLink RX3 77 "SeedDrawersModel" "cards" "I") (by decide +kernel)) rfl rfl (by decide +kernel) rfl rfl (Nat.le_of_ble_eq_true rfl) (zU32_10 E c mo ((mo.1 32 10) + 1)) dX3_card_19 (fun H locs hw => ?_)
    refine lv_aload_n hx hb dX3_card_22 rfl (lv_at hl 0 rfl) ?_
    refine lv_iconst (v := 1) hx hb dX3_card_23 (by decide) ?_
    refine z_put (i := 32) (ty := .boolean) hx hb hts hin3 tyX3 tyX3_ok nmX3 hown hw (by decide) zG_32 rfl 7 (by decide) (hts (.fieldLink RX3 66 "SeedDrawersModel" "holds" "Z") (by decide +kernel)) rfl rfl (by decide +kernel) rfl rfl (Nat.le_of_ble_eq_true rfl) (zU32_7 E c (tI mo 32 10 ((mo.1 32 10) + 1)) 1) dX3_card_24 (fun H locs hw => ?_)
    refine lv_aload_n hx hb dX3_card_27 rfl (lv_at hl 0 rfl) ?_
    refine lv_bipush (v := 6) hx hb dX3_card_28 (by decide) ?_
    refine z_put (i := 32) (ty := .int) hx hb hts hin3 tyX3 tyX3_ok nmX3 hown hw (by decide) zG_32 rfl 8 (by decide) (hts (.fieldLink RX3 70 "SeedDrawersModel" "handKind" "I") (by decide +kernel)) rfl rfl (by decide +kernel) rfl rfl (Nat.le_of_ble_eq_true rfl) (zU32_8 E c (tI (tI mo 32 10 ((mo.1 32 10) + 1)) 32 7 1) 6) dX3_card_30 (fun H locs hw => ?_)
    refine lv_aload_n hx hb dX3_card_33 rfl (lv_at hl 0 rfl) ?_
    refine lv_aload_n hx hb dX3_card_34 rfl (lv_at hl 0 rfl) ?_
    refine z_get (i := 32) hx hb hts hin3 hown hw (by decide) zG_32 rfl 10 (by decide) (hts (.fieldLink RX3 77 "SeedDrawersModel" "cards" "I") (by decide +kernel)) rfl rfl dX3_card_35 ?_
    refine lv_i2l (v := ((tI (tI (tI mo 32 10 ((mo.1 32 10) + 1)) 32 7 1) 32 8 6).1 32 10).toInt64) hx hb dX3_card_38 rfl ?_
    refine z_put (i := 32) (ty := .long) hx hb hts hin3 tyX3 tyX3_ok nmX3 hown hw (by decide) zG_32 rfl 9 (by decide) (hts (.fieldLink RX3 73 "SeedDrawersModel" "handValue" "J") (by decide +kernel)) rfl rfl (by decide +kernel) rfl rfl (Nat.le_of_ble_eq_true rfl) (zU32_9 E c (tI (tI (tI mo 32 10 ((mo.1 32 10) + 1)) 32 7 1) 32 8 6) (((tI (tI (tI mo 32 10 ((mo.1 32 10) + 1)) 32 7 1) 32 8 6).1 32 10).toInt64)) dX3_card_39 (fun H locs hw => ?_)
    refine lv_aload_n hx hb dX3_card_42 rfl (lv_at hl 0 rfl) ?_
    refine z_get (i := 32) hx hb hts hin3 hown hw (by decide) zG_32 rfl 10 (by decide) (hts (.fieldLink RX3 77 "SeedDrawersModel" "cards" "I") (by decide +kernel)) rfl rfl dX3_card_43 ?_
    exact z_iret hx hb hr hlocks hw dX3_card_46 (by simp [hCard, tCard, q_1, tI_s, tI_n, tJ_1, tI_r]) rfl (by simp [hCard, tCard, q_1, tI_s, tI_n, tJ_1, tI_r])
  · have _ := hx
    refine lv_bipush (v := (-3)) hx hb dX3_card_9 (by decide) ?_
    exact z_iret hx hb hr hlocks hw dX3_card_11 (by simp [hCard, tCard, q_1, tI_s, tI_n, tJ_1, tI_r]) rfl (by simp [hCard, tCard, q_1, tI_s, tI_n, tJ_1, tI_r])
set_option maxHeartbeats 4000000 in
set_option maxRecDepth 100000 in
theorem k_X3_take (l : Launch) (E : zE) (c : zC) (mo : zM) (d : Int32) (i : Int32) (hwm : wfM mo) : Met l yX3_take wsX3_take (zR 3 71) (zP E c mo [.ref (zl E 32), .int d, .int i]) (cQi E (hTake mo d i) c (tTake mo d i)) 0 0 (zA E) := by
  refine z_ent (cc := cX3_take) (maxL := 4) (ret := (some .int)) (vs := [.ref (zl E 32), .int d, .int i]) (by decide) rfl (Nat.le_of_ble_eq_true rfl) ?_
  intro p e s m below meth cd ls hx hb hr hml hown hts hlocks hl hw
  have hl : lv_has ls 4 [(0, .ref (zl E 32)), (1, .int d), (2, .int i)] := hl
  have hown : s.vm.findClass RX3 = some m.cls := hown
  refine lv_iload_n hx hb dX3_take_0 rfl (lv_at hl 1 rfl) ?_
  refine z_calli (rest := []) (va_runS (As := [.int d]) (rest := []) ⟨hx, hb, hml, hown, hts⟩ (k_X3_no l E c mo d ) (va_cwS 1 hts gX3_take_X3_no rfl rfl rfl (by decide +kernel) ⟨Nat.le_of_ble_eq_true rfl, Nat.le_of_ble_eq_true rfl⟩) (z_preS hw [.int d]) rfl rfl hl.1 rfl (lv_room (Nat.le_of_ble_eq_true rfl)) dX3_take_1 ⟨Nat.le_of_ble_eq_true rfl, Nat.le_of_ble_eq_true rfl⟩) hw (fun H locs hw => ?_)
  refine lv_if_eq (tgt := 9) hx hb dX3_take_4 (by decide) (fun q_1 => ?_) (fun q_1 => ?_)
  · have _ := hx
    refine lv_aload_n hx hb dX3_take_9 rfl (lv_at hl 0 rfl) ?_
    refine lv_iload_n hx hb dX3_take_10 rfl (lv_at hl 1 rfl) ?_
    refine lv_iload_n hx hb dX3_take_11 rfl (lv_at hl 2 rfl) ?_
    refine z_calli (rest := []) (va_runV (As := [.int d, .int i]) (rest := []) ⟨hx, hb, hml, hown, hts⟩ (k_X3_taking l E c mo d i (fNo_in (by assumption)) hwm) (cwV 2 hts gX3_take_X3_taking rfl rfl rfl (by decide +kernel) ⟨Nat.le_of_ble_eq_true rfl, Nat.le_of_ble_eq_true rfl⟩) (z_preV hw (by decide) zG_32 rfl [.int d, .int i]) rfl rfl hl.1 rfl (lv_room (Nat.le_of_ble_eq_true rfl)) dX3_take_12 ⟨Nat.le_of_ble_eq_true rfl, Nat.le_of_ble_eq_true rfl⟩) hw (fun H locs hw => ?_)
    refine lv_istore_n (lv' := [(3, .int (gCome mo d i)), (0, .ref (zl E 32)), (1, .int d), (2, .int i)]) hx hb dX3_take_15 rfl hl (by decide) rfl (fun ls hl => ?_)
    refine lv_aload_n hx hb dX3_take_16 rfl (lv_at hl 1 rfl) ?_
    refine lv_iload_n hx hb dX3_take_17 rfl (lv_at hl 0 rfl) ?_
    refine lv_aload_n hx hb dX3_take_18 rfl (lv_at hl 1 rfl) ?_
    refine z_calli (rest := [.int (gCome mo d i), .ref (zl E 32)]) (va_runV (As := []) (rest := [.int (gCome mo d i), .ref (zl E 32)]) ⟨hx, hb, hml, hown, hts⟩ (k_X3_hand l E c (gTak mo d i)  ) (cwV 0 hts gX3_take_X3_hand rfl rfl rfl (by decide +kernel) ⟨Nat.le_of_ble_eq_true rfl, Nat.le_of_ble_eq_true rfl⟩) (z_preV hw (by decide) zG_32 rfl []) rfl rfl hl.1 rfl (lv_room (Nat.le_of_ble_eq_true rfl)) dX3_take_19 ⟨Nat.le_of_ble_eq_true rfl, Nat.le_of_ble_eq_true rfl⟩) hw (fun H locs hw => ?_)
    refine z_calli (rest := []) (va_runV (As := [.int (gCome mo d i), .int (gHand (gTak mo d i))]) (rest := []) ⟨hx, hb, hml, hown, hts⟩ (k_X3_answer l E c (gTak mo d i) (gCome mo d i) (gHand (gTak mo d i)) (gCome_5 _ _ _)) (cwV 2 hts gX3_take_X3_answer rfl rfl rfl (by decide +kernel) ⟨Nat.le_of_ble_eq_true rfl, Nat.le_of_ble_eq_true rfl⟩) (z_preV hw (by decide) zG_32 rfl [.int (gCome mo d i), .int (gHand (gTak mo d i))]) rfl rfl hl.1 rfl (lv_room (Nat.le_of_ble_eq_true rfl)) dX3_take_22 ⟨Nat.le_of_ble_eq_true rfl, Nat.le_of_ble_eq_true rfl⟩) hw (fun H locs hw => ?_)
    exact z_iret hx hb hr hlocks hw dX3_take_25 (by first | (simp [hTake, tTake, q_1]; done) | (simp_all [hTake, tTake]; done)) rfl (by first | (simp [hTake, tTake, q_1]; done) | (simp_all [hTake, tTake]; done))
  · have _ := hx
    refine lv_iconst (v := (-1)) hx hb dX3_take_7 (by decide) ?_
    exact z_iret hx hb hr hlocks hw dX3_take_8 (by first | (simp [hTake, tTake, q_1]; done) | (simp_all [hTake, tTake]; done)) rfl (by first | (simp [hTake, tTake, q_1]; done) | (simp_all [hTake, tTake]; done))
set_option maxHeartbeats 4000000 in
set_option maxRecDepth 100000 in
theorem k_X3_puts (l : Launch) (E : zE) (c : zC) (mo : zM) (d : Int32) (i : Int32) (hd : vp_in d 8) (hwm : wfM mo) : Met l yX3_puts wsX3_puts (zR 3 72) (zP E c mo [.ref (zl E 32), .int d, .int i]) (cQi E (gLay mo d i (mo.1 32 8)) c (gPut mo d i)) 0 0 (zA E) := by
  refine z_ent (cc := cX3_puts) (maxL := 4) (ret := (some .int)) (vs := [.ref (zl E 32), .int d, .int i]) (by decide) rfl (Nat.le_of_ble_eq_true rfl) ?_
  intro p e s m below meth cd ls hx hb hr hml hown hts hlocks hl hw
  have hl : lv_has ls 4 [(0, .ref (zl E 32)), (1, .int d), (2, .int i)] := hl
  have hown : s.vm.findClass RX3 = some m.cls := hown
  have hin3 : ∀ w ∈ u_ws RX3 TX3 18, w ∈ wsX3_puts := by decide +kernel
  refine lv_aload_n hx hb dX3_puts_0 rfl (lv_at hl 0 rfl) ?_
  refine lv_iload_n hx hb dX3_puts_1 rfl (lv_at hl 1 rfl) ?_
  refine lv_iload_n hx hb dX3_puts_2 rfl (lv_at hl 2 rfl) ?_
  refine lv_aload_n hx hb dX3_puts_3 rfl (lv_at hl 0 rfl) ?_
  refine z_get (i := 32) hx hb hts hin3 hown hw (by decide) zG_32 rfl 8 (by decide) (hts (.fieldLink RX3 70 "SeedDrawersModel" "handKind" "I") (by decide +kernel)) rfl rfl dX3_puts_4 ?_
  refine z_calli (rest := []) (va_runV (As := [.int d, .int i, .int (mo.1 32 8)]) (rest := []) ⟨hx, hb, hml, hown, hts⟩ (k_X3_laying l E c mo d i (mo.1 32 8) (by assumption) (by assumption)) (cwV 3 hts gX3_puts_X3_laying rfl rfl rfl (by decide +kernel) ⟨Nat.le_of_ble_eq_true rfl, Nat.le_of_ble_eq_true rfl⟩) (z_preV hw (by decide) zG_32 rfl [.int d, .int i, .int (mo.1 32 8)]) rfl rfl hl.1 rfl (lv_room (Nat.le_of_ble_eq_true rfl)) dX3_puts_7 ⟨Nat.le_of_ble_eq_true rfl, Nat.le_of_ble_eq_true rfl⟩) hw (fun H locs hw => ?_)
  refine lv_istore_n (lv' := [(3, .int (gLay mo d i (mo.1 32 8))), (0, .ref (zl E 32)), (1, .int d), (2, .int i)]) hx hb dX3_puts_10 rfl hl (by decide) rfl (fun ls hl => ?_)
  refine lv_iload_n hx hb dX3_puts_11 rfl (lv_at hl 0 rfl) ?_
  refine lv_if_ne (tgt := 30) hx hb dX3_puts_12 (by decide) (fun q_1 => ?_) (fun q_1 => ?_)
  · have _ := hx
    refine lv_iload_n hx hb dX3_puts_30 rfl (lv_at hl 0 rfl) ?_
    exact z_iret hx hb hr hlocks hw dX3_puts_31 (by first | rfl | (simp [gPut, q_1]; done)) rfl (by first | rfl | (simp [gPut, q_1]; done))
  · have _ := hx
    refine lv_aload_n hx hb dX3_puts_15 rfl (lv_at hl 1 rfl) ?_
    refine z_get (i := 32) hx hb hts hin3 hown hw (by decide) zG_32 rfl 6 (by decide) (hts (.fieldLink RX3 26 "SeedDrawersModel" "place" "[J") (by decide +kernel)) rfl rfl dX3_puts_16 ?_
    refine lv_aload_n hx hb dX3_puts_19 rfl (lv_at hl 1 rfl) ?_
    refine lv_iload_n hx hb dX3_puts_20 rfl (lv_at hl 2 rfl) ?_
    refine lv_iload_n hx hb dX3_puts_21 rfl (lv_at hl 3 rfl) ?_
    refine z_calli (rest := [.ref (zl E 38)]) (va_runV (As := [.int d, .int i]) (rest := [.ref (zl E 38)]) ⟨hx, hb, hml, hown, hts⟩ (k_X3_at l E c mo d i (by assumption)) (cwV 2 hts gX3_puts_X3_at rfl rfl rfl (by decide +kernel) ⟨Nat.le_of_ble_eq_true rfl, Nat.le_of_ble_eq_true rfl⟩) (z_preV hw (by decide) zG_32 rfl [.int d, .int i]) rfl rfl hl.1 rfl (lv_room (Nat.le_of_ble_eq_true rfl)) dX3_puts_22 ⟨Nat.le_of_ble_eq_true rfl, Nat.le_of_ble_eq_true rfl⟩) hw (fun H locs hw => ?_)
    refine lv_aload_n hx hb dX3_puts_25 rfl (lv_at hl 1 rfl) ?_
    refine z_get (i := 32) hx hb hts hin3 hown hw (by decide) zG_32 rfl 9 (by decide) (hts (.fieldLink RX3 73 "SeedDrawersModel" "handValue" "J") (by decide +kernel)) rfl rfl dX3_puts_26 ?_
    refine y_last38 hx hb hw (gAt_in (wfM_r hwm (by assumption)) (gLay_in (le0 (by assumption)) hwm hd)) (k := (gAt mo d i).toNatClampNeg) rfl dX3_puts_29 (fun H locs hw => ?_)
    refine lv_iload_n hx hb dX3_puts_30 rfl (lv_at hl 0 rfl) ?_
    exact z_iret hx hb hr hlocks hw dX3_puts_31 (by first | rfl | (simp [gPut, q_1]; done)) rfl (by first | rfl | (simp [gPut, q_1]; done))
set_option maxHeartbeats 4000000 in
set_option maxRecDepth 100000 in
theorem k_X3_lay (l : Launch) (E : zE) (c : zC) (mo : zM) (d : Int32) (i : Int32) (hwm : wfM mo) : Met l yX3_lay wsX3_lay (zR 4 95) (zP E c mo [.ref (zl E 32), .int d, .int i]) (cQi E (hLay mo d i) c (tLay mo d i)) 0 0 (zA E) := by
  refine z_ent (cc := cX3_lay) (maxL := 3) (ret := (some .int)) (vs := [.ref (zl E 32), .int d, .int i]) (by decide) rfl (Nat.le_of_ble_eq_true rfl) ?_
  intro p e s m below meth cd ls hx hb hr hml hown hts hlocks hl hw
  have hl : lv_has ls 3 [(0, .ref (zl E 32)), (1, .int d), (2, .int i)] := hl
  have hown : s.vm.findClass RX3 = some m.cls := hown
  have hin3 : ∀ w ∈ u_ws RX3 TX3 18, w ∈ wsX3_lay := by decide +kernel
  refine lv_iload_n hx hb dX3_lay_0 rfl (lv_at hl 1 rfl) ?_
  refine z_calli (rest := []) (va_runS (As := [.int d]) (rest := []) ⟨hx, hb, hml, hown, hts⟩ (k_X3_no l E c mo d ) (va_cwS 1 hts gX3_lay_X3_no rfl rfl rfl (by decide +kernel) ⟨Nat.le_of_ble_eq_true rfl, Nat.le_of_ble_eq_true rfl⟩) (z_preS hw [.int d]) rfl rfl hl.1 rfl (lv_room (Nat.le_of_ble_eq_true rfl)) dX3_lay_1 ⟨Nat.le_of_ble_eq_true rfl, Nat.le_of_ble_eq_true rfl⟩) hw (fun H locs hw => ?_)
  refine lv_if_eq (tgt := 9) hx hb dX3_lay_4 (by decide) (fun q_1 => ?_) (fun q_1 => ?_)
  · have _ := hx
    refine lv_aload_n hx hb dX3_lay_9 rfl (lv_at hl 0 rfl) ?_
    refine z_get (i := 32) hx hb hts hin3 hown hw (by decide) zG_32 rfl 7 (by decide) (hts (.fieldLink RX3 66 "SeedDrawersModel" "holds" "Z") (by decide +kernel)) rfl rfl dX3_lay_10 ?_
    refine lv_if_eq (tgt := 30) hx hb dX3_lay_13 (by decide) (fun q_2 => ?_) (fun q_2 => ?_)
    · have _ := hx
      refine lv_bipush (v := (-3)) hx hb dX3_lay_30 (by decide) ?_
      exact z_iret hx hb hr hlocks hw dX3_lay_32 (by first | (simp [hLay, tLay, q_1, q_2]; done) | (simp_all [hLay, tLay]; done)) rfl (by first | (simp [hLay, tLay, q_1, q_2]; done) | (simp_all [hLay, tLay]; done))
    · have _ := hx
      refine lv_aload_n hx hb dX3_lay_16 rfl (lv_at hl 0 rfl) ?_
      refine lv_aload_n hx hb dX3_lay_17 rfl (lv_at hl 0 rfl) ?_
      refine lv_iload_n hx hb dX3_lay_18 rfl (lv_at hl 1 rfl) ?_
      refine lv_iload_n hx hb dX3_lay_19 rfl (lv_at hl 2 rfl) ?_
      refine z_calli (rest := [.ref (zl E 32)]) (va_runV (As := [.int d, .int i]) (rest := [.ref (zl E 32)]) ⟨hx, hb, hml, hown, hts⟩ (k_X3_puts l E c mo d i (fNo_in (by assumption)) hwm) (cwV 2 hts gX3_lay_X3_puts rfl rfl rfl (by decide +kernel) ⟨Nat.le_of_ble_eq_true rfl, Nat.le_of_ble_eq_true rfl⟩) (z_preV hw (by decide) zG_32 rfl [.int d, .int i]) rfl rfl hl.1 rfl (lv_room (Nat.le_of_ble_eq_true rfl)) dX3_lay_20 ⟨Nat.le_of_ble_eq_true rfl, Nat.le_of_ble_eq_true rfl⟩) hw (fun H locs hw => ?_)
      refine lv_iconst (v := 1) hx hb dX3_lay_23 (by decide) ?_
      refine z_calli (rest := []) (va_runV (As := [.int (gLay mo d i (mo.1 32 8)), .int 1]) (rest := []) ⟨hx, hb, hml, hown, hts⟩ (k_X3_answer l E c (gPut mo d i) (gLay mo d i (mo.1 32 8)) 1 (gLay_5 _ _ _ _)) (cwV 2 hts gX3_lay_X3_answer rfl rfl rfl (by decide +kernel) ⟨Nat.le_of_ble_eq_true rfl, Nat.le_of_ble_eq_true rfl⟩) (z_preV hw (by decide) zG_32 rfl [.int (gLay mo d i (mo.1 32 8)), .int 1]) rfl rfl hl.1 rfl (lv_room (Nat.le_of_ble_eq_true rfl)) dX3_lay_24 ⟨Nat.le_of_ble_eq_true rfl, Nat.le_of_ble_eq_true rfl⟩) hw (fun H locs hw => ?_)
      refine lv_goto (tgt := 32) hx hb dX3_lay_27 (by decide) ?_
      exact z_iret hx hb hr hlocks hw dX3_lay_32 (by first | (simp [hLay, tLay, q_1, q_2]; done) | (simp_all [hLay, tLay]; done)) rfl (by first | (simp [hLay, tLay, q_1, q_2]; done) | (simp_all [hLay, tLay]; done))
  · have _ := hx
    refine lv_iconst (v := (-1)) hx hb dX3_lay_7 (by decide) ?_
    exact z_iret hx hb hr hlocks hw dX3_lay_8 (by first | (simp [hLay, tLay, q_1]; done) | (simp_all [hLay, tLay]; done)) rfl (by first | (simp [hLay, tLay, q_1]; done) | (simp_all [hLay, tLay]; done))
set_option maxHeartbeats 4000000 in
set_option maxRecDepth 100000 in
theorem k_X3_size (l : Launch) (E : zE) (c : zC) (mo : zM) (d : Int32) (hwm : wfM mo) : Met l yX3_size wsX3_size (zR 2 45) (zP E c mo [.ref (zl E 32), .int d]) (cQi E (hSize mo d) c (tFau mo d)) 0 0 (zA E) := by
  refine z_ent (cc := cX3_size) (maxL := 3) (ret := (some .int)) (vs := [.ref (zl E 32), .int d]) (by decide) rfl (Nat.le_of_ble_eq_true rfl) ?_
  intro p e s m below meth cd ls hx hb hr hml hown hts hlocks hl hw
  have hl : lv_has ls 3 [(0, .ref (zl E 32)), (1, .int d)] := hl
  have hown : s.vm.findClass RX3 = some m.cls := hown
  have hin3 : ∀ w ∈ u_ws RX3 TX3 18, w ∈ wsX3_size := by decide +kernel
  refine lv_iload_n hx hb dX3_size_0 rfl (lv_at hl 1 rfl) ?_
  refine z_calli (rest := []) (va_runS (As := [.int d]) (rest := []) ⟨hx, hb, hml, hown, hts⟩ (k_X3_no l E c mo d ) (va_cwS 1 hts gX3_size_X3_no rfl rfl rfl (by decide +kernel) ⟨Nat.le_of_ble_eq_true rfl, Nat.le_of_ble_eq_true rfl⟩) (z_preS hw [.int d]) rfl rfl hl.1 rfl (lv_room (Nat.le_of_ble_eq_true rfl)) dX3_size_1 ⟨Nat.le_of_ble_eq_true rfl, Nat.le_of_ble_eq_true rfl⟩) hw (fun H locs hw => ?_)
  refine lv_if_eq (tgt := 9) hx hb dX3_size_4 (by decide) (fun q_1 => ?_) (fun q_1 => ?_)
  · have _ := hx
    refine lv_aload_n hx hb dX3_size_9 rfl (lv_at hl 0 rfl) ?_
    refine lv_iload_n hx hb dX3_size_10 rfl (lv_at hl 1 rfl) ?_
    refine z_calli (rest := []) (va_runV (As := [.int d]) (rest := []) ⟨hx, hb, hml, hown, hts⟩ (k_X3_rowFault l E c mo d (fNo_in (by assumption))) (cwV 1 hts gX3_size_X3_rowFault rfl rfl rfl (by decide +kernel) ⟨Nat.le_of_ble_eq_true rfl, Nat.le_of_ble_eq_true rfl⟩) (z_preV hw (by decide) zG_32 rfl [.int d]) rfl rfl hl.1 rfl (lv_room (Nat.le_of_ble_eq_true rfl)) dX3_size_11 ⟨Nat.le_of_ble_eq_true rfl, Nat.le_of_ble_eq_true rfl⟩) hw (fun H locs hw => ?_)
    refine lv_istore_n (lv' := [(2, .int (gRow mo d)), (0, .ref (zl E 32)), (1, .int d)]) hx hb dX3_size_14 rfl hl (by decide) rfl (fun ls hl => ?_)
    refine lv_aload_n hx hb dX3_size_15 rfl (lv_at hl 1 rfl) ?_
    refine lv_iload_n hx hb dX3_size_16 rfl (lv_at hl 0 rfl) ?_
    refine lv_iload_n hx hb dX3_size_17 rfl (lv_at hl 0 rfl) ?_
    refine lv_if_le (tgt := 25) hx hb dX3_size_18 (by decide) (fun q_2 => ?_) (fun q_2 => ?_)
    · have _ := hx
      refine lv_aload_n hx hb dX3_size_25 rfl (lv_at hl 1 rfl) ?_
      refine z_get (i := 32) hx hb hts hin3 hown hw (by decide) zG_32 rfl 5 (by decide) (hts (.fieldLink RX3 22 "SeedDrawersModel" "sizeOf" "[I") (by decide +kernel)) rfl rfl dX3_size_26 ?_
      refine lv_aload_n hx hb dX3_size_29 rfl (lv_at hl 1 rfl) ?_
      refine z_get (i := 32) hx hb hts hin3 hown hw (by decide) zG_32 rfl 2 (by decide) (hts (.fieldLink RX3 16 "SeedDrawersModel" "rowOf" "[I") (by decide +kernel)) rfl rfl dX3_size_30 ?_
      refine lv_iload_n hx hb dX3_size_33 rfl (lv_at hl 2 rfl) ?_
      refine y_iald (i := 35) hx hb hw (by decide) (zG_9 (i := 35) (by decide)) (fNo_in (by assumption)) (k := d.toNatClampNeg) rfl dX3_size_34 ?_
      refine y_iald (i := 37) hx hb hw (by decide) (zG_9 (i := 37) (by decide)) (wfM_r hwm (fNo_in (by assumption))) (k := (mo.1 35 d.toNatClampNeg).toNatClampNeg) rfl dX3_size_35 ?_
      refine z_calli (rest := []) (va_runV (As := [.int (gRow mo d), .int (mo.1 37 ((mo.1 35 d.toNatClampNeg).toNatClampNeg))]) (rest := []) ⟨hx, hb, hml, hown, hts⟩ (k_X3_answer l E c mo (gRow mo d) (mo.1 37 ((mo.1 35 d.toNatClampNeg).toNatClampNeg)) (gRow_5 _ _)) (cwV 2 hts gX3_size_X3_answer rfl rfl rfl (by decide +kernel) ⟨Nat.le_of_ble_eq_true rfl, Nat.le_of_ble_eq_true rfl⟩) (z_preV hw (by decide) zG_32 rfl [.int (gRow mo d), .int (mo.1 37 ((mo.1 35 d.toNatClampNeg).toNatClampNeg))]) rfl rfl hl.1 rfl (lv_room (Nat.le_of_ble_eq_true rfl)) dX3_size_36 ⟨Nat.le_of_ble_eq_true rfl, Nat.le_of_ble_eq_true rfl⟩) hw (fun H locs hw => ?_)
      exact z_iret hx hb hr hlocks hw dX3_size_39 (by first | (simp [hSize, tFau, q_1, q_2]; done) | (simp_all [hSize, tFau]; done)) rfl (by first | (simp [hSize, tFau, q_1, q_2]; done) | (simp_all [hSize, tFau]; done))
    · have _ := hx
      refine lv_iconst (v := 0) hx hb dX3_size_21 (by decide) ?_
      refine lv_goto (tgt := 36) hx hb dX3_size_22 (by decide) ?_
      refine z_calli (rest := []) (va_runV (As := [.int (gRow mo d), .int 0]) (rest := []) ⟨hx, hb, hml, hown, hts⟩ (k_X3_answer l E c mo (gRow mo d) 0 (gRow_5 _ _)) (cwV 2 hts gX3_size_X3_answer rfl rfl rfl (by decide +kernel) ⟨Nat.le_of_ble_eq_true rfl, Nat.le_of_ble_eq_true rfl⟩) (z_preV hw (by decide) zG_32 rfl [.int (gRow mo d), .int 0]) rfl rfl hl.1 rfl (lv_room (Nat.le_of_ble_eq_true rfl)) dX3_size_36 ⟨Nat.le_of_ble_eq_true rfl, Nat.le_of_ble_eq_true rfl⟩) hw (fun H locs hw => ?_)
      exact z_iret hx hb hr hlocks hw dX3_size_39 (by first | (simp [hSize, tFau, q_1, q_2]; done) | (simp_all [hSize, tFau]; done)) rfl (by first | (simp [hSize, tFau, q_1, q_2]; done) | (simp_all [hSize, tFau]; done))
  · have _ := hx
    refine lv_iconst (v := (-1)) hx hb dX3_size_7 (by decide) ?_
    exact z_iret hx hb hr hlocks hw dX3_size_8 (by first | (simp [hSize, tFau, q_1]; done) | (simp_all [hSize, tFau]; done)) rfl (by first | (simp [hSize, tFau, q_1]; done) | (simp_all [hSize, tFau]; done))
set_option maxHeartbeats 4000000 in
set_option maxRecDepth 100000 in
theorem k_X3_faults (l : Launch) (E : zE) (c : zC) (mo : zM) (f : Int32)  : Met l yX3_faults wsX3_faults (zR 1 25) (zP E c mo [.ref (zl E 32), .int f]) (cQi E (hFaus mo f) c mo) 0 0 (zA E) := by
  refine z_ent (cc := cX3_faults) (maxL := 2) (ret := (some .int)) (vs := [.ref (zl E 32), .int f]) (by decide) rfl (Nat.le_of_ble_eq_true rfl) ?_
  intro p e s m below meth cd ls hx hb hr hml hown hts hlocks hl hw
  have hl : lv_has ls 2 [(0, .ref (zl E 32)), (1, .int f)] := hl
  have hown : s.vm.findClass RX3 = some m.cls := hown
  have hin3 : ∀ w ∈ u_ws RX3 TX3 18, w ∈ wsX3_faults := by decide +kernel
  refine lv_iload_n hx hb dX3_faults_0 rfl (lv_at hl 1 rfl) ?_
  refine lv_i2l (v := f.toInt64) hx hb dX3_faults_1 rfl ?_
  refine lv_lconst (v := 0) hx hb dX3_faults_2 (by decide) ?_
  refine lv_ldc2 (v := 4) hx hb hown (hts (.constantLong RX3 133 (4)) (by decide +kernel)) dX3_faults_3 ?_
  refine z_calli (rest := []) (va_runS (As := [.long f.toInt64, .long 0, .long 4]) (rest := []) ⟨hx, hb, hml, hown, hts⟩ (k_X3_beyond l E c mo f.toInt64 0 4 ) (va_cwS 3 hts gX3_faults_X3_beyond rfl rfl rfl (by decide +kernel) ⟨Nat.le_of_ble_eq_true rfl, Nat.le_of_ble_eq_true rfl⟩) (z_preS hw [.long f.toInt64, .long 0, .long 4]) rfl rfl hl.1 rfl (lv_room (Nat.le_of_ble_eq_true rfl)) dX3_faults_6 ⟨Nat.le_of_ble_eq_true rfl, Nat.le_of_ble_eq_true rfl⟩) hw (fun H locs hw => ?_)
  refine lv_if_eq (tgt := 17) hx hb dX3_faults_9 (by decide) (fun q_1 => ?_) (fun q_1 => ?_)
  · have _ := hx
    refine lv_aload_n hx hb dX3_faults_17 rfl (lv_at hl 0 rfl) ?_
    refine z_get (i := 32) hx hb hts hin3 hown hw (by decide) zG_32 rfl 12 (by decide) (hts (.fieldLink RX3 30 "SeedDrawersModel" "faults" "[I") (by decide +kernel)) rfl rfl dX3_faults_18 ?_
    refine lv_iload_n hx hb dX3_faults_21 rfl (lv_at hl 1 rfl) ?_
    refine y_iald (i := 39) hx hb hw (by decide) (zG_9 (i := 39) (by decide)) (fBey_in 4 5 (by decide) (by assumption)) (k := f.toNatClampNeg) rfl dX3_faults_22 ?_
    exact z_iret hx hb hr hlocks hw dX3_faults_23 (by first | (simp [hFaus, q_1]; done) | (simp_all [hFaus]; done)) rfl rfl
  · have _ := hx
    refine lv_bipush (v := (-9)) hx hb dX3_faults_12 (by decide) ?_
    refine lv_goto (tgt := 23) hx hb dX3_faults_14 (by decide) ?_
    exact z_iret hx hb hr hlocks hw dX3_faults_23 (by first | (simp [hFaus, q_1]; done) | (simp_all [hFaus]; done)) rfl rfl
set_option maxHeartbeats 4000000 in
set_option maxRecDepth 100000 in
theorem k_X3_met (l : Launch) (E : zE) (c : zC) (mo : zM) (k : Int32) (hwm : wfM mo) : Met l yX3_met wsX3_met (zR 1 25) (zP E c mo [.ref (zl E 32), .int k]) (cQi E (hMet mo k) c mo) 0 0 (zA E) := by
  refine z_ent (cc := cX3_met) (maxL := 2) (ret := (some .int)) (vs := [.ref (zl E 32), .int k]) (by decide) rfl (Nat.le_of_ble_eq_true rfl) ?_
  intro p e s m below meth cd ls hx hb hr hml hown hts hlocks hl hw
  have hl : lv_has ls 2 [(0, .ref (zl E 32)), (1, .int k)] := hl
  have hown : s.vm.findClass RX3 = some m.cls := hown
  have hin3 : ∀ w ∈ u_ws RX3 TX3 18, w ∈ wsX3_met := by decide +kernel
  obtain ⟨nm, hnm1, hnm2⟩ := hwm.2.2.2
  refine lv_iload_n hx hb dX3_met_0 rfl (lv_at hl 1 rfl) ?_
  refine lv_i2l (v := k.toInt64) hx hb dX3_met_1 rfl ?_
  refine lv_lconst (v := 0) hx hb dX3_met_2 (by decide) ?_
  refine lv_aload_n hx hb dX3_met_3 rfl (lv_at hl 0 rfl) ?_
  refine z_get (i := 32) hx hb hts hin3 hown hw (by decide) zG_32 rfl 15 (by decide) (hts (.fieldLink RX3 138 "SeedDrawersModel" "done" "I") (by decide +kernel)) rfl rfl dX3_met_4 ?_
  refine lv_iconst (v := 1) hx hb dX3_met_7 (by decide) ?_
  refine lv_isub hx hb dX3_met_8 ?_
  refine lv_i2l (v := ((mo.1 32 15) - 1).toInt64) hx hb dX3_met_9 rfl ?_
  refine z_calli (rest := []) (va_runS (As := [.long k.toInt64, .long 0, .long (((mo.1 32 15) - 1).toInt64)]) (rest := []) ⟨hx, hb, hml, hown, hts⟩ (k_X3_beyond l E c mo k.toInt64 0 (((mo.1 32 15) - 1).toInt64) ) (va_cwS 3 hts gX3_met_X3_beyond rfl rfl rfl (by decide +kernel) ⟨Nat.le_of_ble_eq_true rfl, Nat.le_of_ble_eq_true rfl⟩) (z_preS hw [.long k.toInt64, .long 0, .long (((mo.1 32 15) - 1).toInt64)]) rfl rfl hl.1 rfl (lv_room (Nat.le_of_ble_eq_true rfl)) dX3_met_10 ⟨Nat.le_of_ble_eq_true rfl, Nat.le_of_ble_eq_true rfl⟩) hw (fun H locs hw => ?_)
  refine lv_if_eq (tgt := 21) hx hb dX3_met_13 (by decide) (fun q_1 => ?_) (fun q_1 => ?_)
  · have _ := hx
    refine lv_aload_n hx hb dX3_met_21 rfl (lv_at hl 0 rfl) ?_
    refine z_get (i := 32) hx hb hts hin3 hown hw (by decide) zG_32 rfl 16 (by decide) (hts (.fieldLink RX3 36 "SeedDrawersModel" "doneFault" "[I") (by decide +kernel)) rfl rfl dX3_met_22 ?_
    refine lv_iload_n hx hb dX3_met_25 rfl (lv_at hl 1 rfl) ?_
    refine y_iald (i := 41) hx hb hw (by decide) (zG_9 (i := 41) (by decide)) (in_mono (fBey_n1 hnm2 (by omega) (by assumption)) hnm1) (k := k.toNatClampNeg) rfl dX3_met_26 ?_
    exact z_iret hx hb hr hlocks hw dX3_met_27 (by first | (simp [hMet, q_1]; done) | (simp_all [hMet]; done)) rfl rfl
  · have _ := hx
    refine lv_bipush (v := (-9)) hx hb dX3_met_16 (by decide) ?_
    refine lv_goto (tgt := 27) hx hb dX3_met_18 (by decide) ?_
    exact z_iret hx hb hr hlocks hw dX3_met_27 (by first | (simp [hMet, q_1]; done) | (simp_all [hMet]; done)) rfl rfl
set_option maxHeartbeats 4000000 in
set_option maxRecDepth 100000 in
theorem k_X3_row (l : Launch) (E : zE) (c : zC) (mo : zM) (d : Int32) (k : Int32) (n : Int32) (hrow : vp_in (mo.1 32 3) 5000) : Met l yX3_row wsX3_row (zR 2 45) (zP E c mo [.ref (zl E 32), .int d, .int k, .int n]) (cQi E (hRow d k n) c (tRow mo d k n)) 0 0 (zA E) := by
  refine z_ent (cc := cX3_row) (maxL := 5) (ret := (some .int)) (vs := [.ref (zl E 32), .int d, .int k, .int n]) (by decide) rfl (Nat.le_of_ble_eq_true rfl) ?_
  intro p e s m below meth cd ls hx hb hr hml hown hts hlocks hl hw
  have hl : lv_has ls 5 [(0, .ref (zl E 32)), (1, .int d), (2, .int k), (3, .int n)] := hl
  have hown : s.vm.findClass RX3 = some m.cls := hown
  have hin3 : ∀ w ∈ u_ws RX3 TX3 18, w ∈ wsX3_row := by decide +kernel
  have hr0 : mo.1 32 3 = nI (mo.1 32 3).toNatClampNeg := in_nI hrow (by decide)
  have hr1 : (mo.1 32 3).toNatClampNeg < 5000 := in_lt hrow
  refine lv_iload_n hx hb dX3_row_0 rfl (lv_at hl 1 rfl) ?_
  refine z_calli (rest := []) (va_runS (As := [.int d]) (rest := []) ⟨hx, hb, hml, hown, hts⟩ (k_X3_no l E c mo d ) (va_cwS 1 hts gX3_row_X3_no rfl rfl rfl (by decide +kernel) ⟨Nat.le_of_ble_eq_true rfl, Nat.le_of_ble_eq_true rfl⟩) (z_preS hw [.int d]) rfl rfl hl.1 rfl (lv_room (Nat.le_of_ble_eq_true rfl)) dX3_row_1 ⟨Nat.le_of_ble_eq_true rfl, Nat.le_of_ble_eq_true rfl⟩) hw (fun H locs hw => ?_)
  refine lv_if_eq (tgt := 9) hx hb dX3_row_4 (by decide) (fun q_1 => ?_) (fun q_1 => ?_)
  · have _ := hx
    refine lv_iload_n hx hb dX3_row_9 rfl (lv_at hl 2 rfl) ?_
    refine lv_i2l (v := k.toInt64) hx hb dX3_row_10 rfl ?_
    refine lv_lconst (v := 0) hx hb dX3_row_11 (by decide) ?_
    refine lv_ldc2 (v := 6) hx hb hown (hts (.constantLong RX3 57 (6)) (by decide +kernel)) dX3_row_12 ?_
    refine z_calli (rest := []) (va_runS (As := [.long k.toInt64, .long 0, .long 6]) (rest := []) ⟨hx, hb, hml, hown, hts⟩ (k_X3_beyond l E c mo k.toInt64 0 6 ) (va_cwS 3 hts gX3_row_X3_beyond rfl rfl rfl (by decide +kernel) ⟨Nat.le_of_ble_eq_true rfl, Nat.le_of_ble_eq_true rfl⟩) (z_preS hw [.long k.toInt64, .long 0, .long 6]) rfl rfl hl.1 rfl (lv_room (Nat.le_of_ble_eq_true rfl)) dX3_row_15 ⟨Nat.le_of_ble_eq_true rfl, Nat.le_of_ble_eq_true rfl⟩) hw (fun H locs hw => ?_)
    refine lv_if_ne (tgt := 33) hx hb dX3_row_18 (by decide) (fun q_2 => ?_) (fun q_2 => ?_)
    · have _ := hx
      refine lv_bipush (v := (-2)) hx hb dX3_row_33 (by decide) ?_
      exact z_iret hx hb hr hlocks hw dX3_row_35 (by simp [hRow, tRow, q_1, q_2]) rfl (by simp [hRow, tRow, q_1, q_2])
    · have _ := hx
      refine lv_iload_n hx hb dX3_row_21 rfl (lv_at hl 3 rfl) ?_
      refine lv_i2l (v := n.toInt64) hx hb dX3_row_22 rfl ?_
      refine lv_lconst (v := 0) hx hb dX3_row_23 (by decide) ?_
      refine lv_ldc2 (v := 12) hx hb hown (hts (.constantLong RX3 59 (12)) (by decide +kernel)) dX3_row_24 ?_
      refine z_calli (rest := []) (va_runS (As := [.long n.toInt64, .long 0, .long 12]) (rest := []) ⟨hx, hb, hml, hown, hts⟩ (k_X3_beyond l E c mo n.toInt64 0 12 ) (va_cwS 3 hts gX3_row_X3_beyond rfl rfl rfl (by decide +kernel) ⟨Nat.le_of_ble_eq_true rfl, Nat.le_of_ble_eq_true rfl⟩) (z_preS hw [.long n.toInt64, .long 0, .long 12]) rfl rfl hl.1 rfl (lv_room (Nat.le_of_ble_eq_true rfl)) dX3_row_27 ⟨Nat.le_of_ble_eq_true rfl, Nat.le_of_ble_eq_true rfl⟩) hw (fun H locs hw => ?_)
      refine lv_if_eq (tgt := 36) hx hb dX3_row_30 (by decide) (fun q_3 => ?_) (fun q_3 => ?_)
      · have _ := hx
        refine lv_aload_n hx hb dX3_row_36 rfl (lv_at hl 0 rfl) ?_
        refine z_get (i := 32) hx hb hts hin3 hown hw (by decide) zG_32 rfl 0 (by decide) (hts (.fieldLink RX3 7 "SeedDrawersModel" "has" "[I") (by decide +kernel)) rfl rfl dX3_row_37 ?_
        refine lv_iload_n hx hb dX3_row_40 rfl (lv_at hl 1 rfl) ?_
        refine lv_iconst (v := 2) hx hb dX3_row_41 (by decide) ?_
        refine y_iast9 (i := 33) hx hb hw (by decide) (by decide) (fNo_in (by assumption)) (k := d.toNatClampNeg) rfl dX3_row_42 (fun H locs hw => ?_)
        refine lv_aload_n hx hb dX3_row_43 rfl (lv_at hl 0 rfl) ?_
        refine z_get (i := 32) hx hb hts hin3 hown hw (by decide) zG_32 rfl 2 (by decide) (hts (.fieldLink RX3 16 "SeedDrawersModel" "rowOf" "[I") (by decide +kernel)) rfl rfl dX3_row_44 ?_
        refine lv_iload_n hx hb dX3_row_47 rfl (lv_at hl 1 rfl) ?_
        refine lv_aload_n hx hb dX3_row_48 rfl (lv_at hl 0 rfl) ?_
        refine z_get (i := 32) hx hb hts hin3 hown hw (by decide) zG_32 rfl 3 (by decide) (hts (.fieldLink RX3 61 "SeedDrawersModel" "rows" "I") (by decide +kernel)) rfl rfl dX3_row_49 ?_
        refine y_iast9 (i := 35) hx hb hw (by decide) (by decide) (fNo_in (by assumption)) (k := d.toNatClampNeg) rfl dX3_row_52 (fun H locs hw => ?_)
        refine lv_aload_n hx hb dX3_row_53 rfl (lv_at hl 0 rfl) ?_
        refine z_get (i := 32) hx hb hts hin3 hown hw (by decide) zG_32 rfl 4 (by decide) (hts (.fieldLink RX3 19 "SeedDrawersModel" "kindOf" "[I") (by decide +kernel)) rfl rfl dX3_row_54 ?_
        refine lv_aload_n hx hb dX3_row_57 rfl (lv_at hl 0 rfl) ?_
        refine z_get (i := 32) hx hb hts hin3 hown hw (by decide) zG_32 rfl 3 (by decide) (hts (.fieldLink RX3 61 "SeedDrawersModel" "rows" "I") (by decide +kernel)) rfl rfl dX3_row_58 ?_
        refine lv_iload_n hx hb dX3_row_61 rfl (lv_at hl 2 rfl) ?_
        refine y_iast9 (i := 36) hx hb hw (by decide) (by decide) (show vp_in (mo.1 32 3) 5000 from hrow) (k := ((tI (tI mo 33 d.toNatClampNeg 2) 35 d.toNatClampNeg ((tI mo 33 d.toNatClampNeg 2).1 32 3)).1 32 3).toNatClampNeg) rfl dX3_row_62 (fun H locs hw => ?_)
        refine lv_aload_n hx hb dX3_row_63 rfl (lv_at hl 0 rfl) ?_
        refine z_get (i := 32) hx hb hts hin3 hown hw (by decide) zG_32 rfl 5 (by decide) (hts (.fieldLink RX3 22 "SeedDrawersModel" "sizeOf" "[I") (by decide +kernel)) rfl rfl dX3_row_64 ?_
        refine lv_aload_n hx hb dX3_row_67 rfl (lv_at hl 0 rfl) ?_
        refine z_get (i := 32) hx hb hts hin3 hown hw (by decide) zG_32 rfl 3 (by decide) (hts (.fieldLink RX3 61 "SeedDrawersModel" "rows" "I") (by decide +kernel)) rfl rfl dX3_row_68 ?_
        refine lv_iload_n hx hb dX3_row_71 rfl (lv_at hl 3 rfl) ?_
        refine y_iast9 (i := 37) hx hb hw (by decide) (by decide) (show vp_in (mo.1 32 3) 5000 from hrow) (k := ((tI (tI (tI mo 33 d.toNatClampNeg 2) 35 d.toNatClampNeg ((tI mo 33 d.toNatClampNeg 2).1 32 3)) 36 (((tI (tI mo 33 d.toNatClampNeg 2) 35 d.toNatClampNeg ((tI mo 33 d.toNatClampNeg 2).1 32 3)).1 32 3).toNatClampNeg) k).1 32 3).toNatClampNeg) rfl dX3_row_72 (fun H locs hw => ?_)
        refine lv_iconst (v := 0) hx hb dX3_row_73 (by decide) ?_
        refine lv_istore (lv' := [(4, .int 0), (0, .ref (zl E 32)), (1, .int d), (2, .int k), (3, .int n)]) hx hb dX3_row_74 hl (by decide) rfl (fun ls hl => ?_)
        have loop76 : ∀ (n_ : Nat) (i : Nat) (m1 : zM) (H : Heap) (locs : List Loc) (ls : Array Slot), 12 - i < n_ → (i ≤ 12) → (m1.1 32 3 = mo.1 32 3) → (zerM (mo.1 32 3).toNatClampNeg (12 - i) i m1 = rowM mo d.toNatClampNeg k n) → zW E c m1 s s.heap H locs → lv_has ls 5 [(4, .int (nI i)), (0, .ref (zl E 32)), (3, .int n)] → W p l e (headSpec wsX3_row (zR 2 45)).room s m ([.ref (zl E 32), .int d, .int k, .int n] : List Value).toArray below meth cd H locs 0 0 (MQ below (cQi E (hRow d k n) c (tRow mo d k n)) ([.ref (zl E 32), .int d, .int k, .int n] : List Value).toArray s 0 0 (zA E)) (F0 m 76 ls []) := by
          intro n_
          induction n_ with
          | zero => intro i m1 H locs ls hn_; exact absurd hn_ (Nat.not_lt_zero _)
          | succ n_ ih =>
            intro i m1 H locs ls hn_ hi hq3 hR hw hl
            refine lv_iload hx hb dX3_row_76 (lv_at hl 0 rfl) ?_
            refine lv_bipush (v := 12) hx hb dX3_row_78 (by decide) ?_
            refine lv_icmp_ge (tgt := 105) hx hb dX3_row_80 (by decide) (fun q_4 => ?_) (fun q_4 => ?_)
            · have _ := hx
              have hk : 12 ≤ i := le_le (b := 12) q_4 (by omega) (by omega)
              rw [show 12 - i = 0 by omega] at hR
              have hR : m1 = rowM mo d.toNatClampNeg k n := hR
              refine lv_aload_n hx hb dX3_row_105 rfl (lv_at hl 1 rfl) ?_
              refine lv_dup hx hb dX3_row_106 rfl ?_
              refine z_get (i := 32) hx hb hts hin3 hown hw (by decide) zG_32 rfl 3 (by decide) (hts (.fieldLink RX3 61 "SeedDrawersModel" "rows" "I") (by decide +kernel)) rfl rfl dX3_row_107 ?_
              refine lv_iconst (v := 1) hx hb dX3_row_110 (by decide) ?_
              refine lv_iadd hx hb dX3_row_111 ?_
              refine z_put (i := 32) (ty := .int) hx hb hts hin3 tyX3 tyX3_ok nmX3 hown hw (by decide) zG_32 rfl 3 (by decide) (hts (.fieldLink RX3 61 "SeedDrawersModel" "rows" "I") (by decide +kernel)) rfl rfl (by decide +kernel) rfl rfl (Nat.le_of_ble_eq_true rfl) (zU32_3 E c m1 ((m1.1 32 3) + 1)) dX3_row_112 (fun H locs hw => ?_)
              refine lv_iload_n hx hb dX3_row_115 rfl (lv_at hl 2 rfl) ?_
              exact z_iret hx hb hr hlocks hw dX3_row_116 (by simp [hRow, tRow, q_1, q_2, q_3, ← hR, hq3]) rfl (by simp [hRow, tRow, q_1, q_2, q_3, ← hR, hq3])
            · have _ := hx
              have hk : i < 12 := nle_lt (b := 12) q_4 (by omega) (by omega)
              refine lv_aload_n hx hb dX3_row_83 rfl (lv_at hl 1 rfl) ?_
              refine z_get (i := 32) hx hb hts hin3 hown hw (by decide) zG_32 rfl 6 (by decide) (hts (.fieldLink RX3 26 "SeedDrawersModel" "place" "[J") (by decide +kernel)) rfl rfl dX3_row_84 ?_
              refine lv_bipush (v := 12) hx hb dX3_row_87 (by decide) ?_
              refine lv_aload_n hx hb dX3_row_89 rfl (lv_at hl 1 rfl) ?_
              refine z_get (i := 32) hx hb hts hin3 hown hw (by decide) zG_32 rfl 3 (by decide) (hts (.fieldLink RX3 61 "SeedDrawersModel" "rows" "I") (by decide +kernel)) rfl rfl dX3_row_90 ?_
              refine lv_imul hx hb dX3_row_93 ?_
              refine lv_iload hx hb dX3_row_94 (lv_at hl 0 rfl) ?_
              refine lv_iadd hx hb dX3_row_96 ?_
              refine lv_lconst (v := 0) hx hb dX3_row_97 (by decide) ?_
              refine y_last38 hx hb hw (ixm_in (hq3.trans hr0) hr1 (by omega)) (k := (12 * (mo.1 32 3).toNatClampNeg + i)) (ixm_k (hq3.trans hr0) hr1 (by omega)) dX3_row_98 (fun H locs hw => ?_)
              refine lv_iinc (v := (nI (i + 1))) (lv' := [(4, .int (nI (i + 1))), (0, .ref (zl E 32)), (3, .int n)]) hx hb dX3_row_99 hl (k := 0) rfl (nI_1 i) (by decide) rfl (fun ls hl => ?_)
              refine lv_goto (tgt := 76) hx hb dX3_row_102 (by decide) ?_
              rw [show 12 - i = (12 - (i + 1)) + 1 by omega] at hR
              exact ih (i + 1) (tJ m1 38 (12 * (mo.1 32 3).toNatClampNeg + i) 0) _ _ _ (by omega) (by omega) hq3 hR hw (lv_sub hl [0, 1, 2] rfl)
        exact loop76 (12 + 1) 0 _ _ _ _ (by omega) (by omega) (by simp [tI_r]) (by simp [rowM, tI_r]) hw (lv_sub hl [0, 1, 4] rfl)
      · have _ := hx
        refine lv_bipush (v := (-2)) hx hb dX3_row_33 (by decide) ?_
        exact z_iret hx hb hr hlocks hw dX3_row_35 (by simp [hRow, tRow, q_1, q_2, q_3]) rfl (by simp [hRow, tRow, q_1, q_2, q_3])
  · have _ := hx
    refine lv_iconst (v := (-1)) hx hb dX3_row_7 (by decide) ?_
    exact z_iret hx hb hr hlocks hw dX3_row_8 (by simp [hRow, tRow, q_1]) rfl (by simp [hRow, tRow, q_1])
