section RW
variable {c : zC} {mo : zM} {i k a b j : Nat} {v : Int32} {w : Int64}
theorem tI_r (h : ¬ a = i) : (tI mo i k v).1 a = mo.1 a := by funext b; simp [tI, h]
theorem tI_s : (tI mo i k v).1 i k = v := by simp [tI]
theorem tI_n (h : ¬ b = k) : (tI mo i k v).1 i b = mo.1 i b := by simp [tI, h]
theorem tI_2 : (tI mo i k v).2 = mo.2 := rfl
theorem tJ_1 : (tJ mo i k w).1 = mo.1 := rfl
theorem tJ_r (h : ¬ a = i) : (tJ mo i k w).2 a = mo.2 a := by funext b; simp [tJ, h]
theorem tJ_s : (tJ mo i k w).2 i k = w := by simp [tJ]
theorem tJ_n (h : ¬ b = k) : (tJ mo i k w).2 i b = mo.2 i b := by simp [tJ, h]
theorem sI_r (h : ¬ a = i) : (sI c i k v).1 a = c.1 a := by funext b; simp [sI, h]
theorem sI_s : (sI c i k v).1 i k = v := by simp [sI]
theorem sI_n (h : ¬ b = k) : (sI c i k v).1 i b = c.1 i b := by simp [sI, h]
theorem sI_2 : (sI c i k v).2 = c.2 := rfl
theorem sJ_1 : (sJ c i k w).1 = c.1 := rfl
theorem sJ_3 : (sJ c i k w).2.2 = c.2.2 := rfl
theorem sJ_r (h : ¬ a = i) : (sJ c i k w).2.1 a = c.2.1 a := by funext b; simp [sJ, h]
theorem sJ_s : (sJ c i k w).2.1 i k = w := by simp [sJ]
theorem sJ_n (h : ¬ b = k) : (sJ c i k w).2.1 i b = c.2.1 i b := by simp [sJ, h]
theorem sD_1 : (sD c k j).1 = c.1 := rfl
theorem sD_2 : (sD c k j).2.1 = c.2.1 := rfl
theorem sD_s : (sD c k j).2.2 k = j := by simp [sD, va_up]
theorem sD_n (h : ¬ b = k) : (sD c k j).2.2 b = c.2.2 b := by simp [sD, va_up, h]
end RW
theorem le0 {x : Int32} (h : x = 0) : x ≤ 0 := by subst h; decide
def fBey (v a b : Int64) : Int32 := if lg_cmp v a < 0 then 1 else if lg_cmp v b ≤ 0 then 0 else 1
def fNo (d : Int32) : Int32 := fBey d.toInt64 0 7
theorem lg_lt (x y : Int64) : lg_cmp x y < 0 ↔ x.toInt < y.toInt := by
  unfold lg_cmp
  simp only [gt_iff_lt, Int64.lt_iff_toInt_lt]
  by_cases h : y.toInt < x.toInt
  · rw [if_pos h]
    exact ⟨fun q => absurd q (by decide), fun q => absurd q (by omega)⟩
  · rw [if_neg h]
    by_cases h2 : x = y
    · rw [if_pos h2, h2]
      exact ⟨fun q => absurd q (by decide), fun q => absurd q (by omega)⟩
    · rw [if_neg h2]
      refine ⟨fun _ => ?_, fun _ => by decide⟩
      have : ¬ x.toInt = y.toInt := fun q => h2 (Int64.toInt_inj.mp q)
      omega
theorem lg_le (x y : Int64) : lg_cmp x y ≤ 0 ↔ x.toInt ≤ y.toInt := by
  unfold lg_cmp
  simp only [gt_iff_lt, Int64.lt_iff_toInt_lt]
  by_cases h : y.toInt < x.toInt
  · rw [if_pos h]
    exact ⟨fun q => absurd q (by decide), fun q => absurd q (by omega)⟩
  · rw [if_neg h]
    by_cases h2 : x = y
    · rw [if_pos h2, h2]
      exact ⟨fun q => by omega, fun q => by decide⟩
    · rw [if_neg h2]
      exact ⟨fun _ => by omega, fun _ => by decide⟩
theorem lg_eq (x y : Int64) : lg_cmp x y = 0 ↔ x = y := by
  unfold lg_cmp
  simp only [gt_iff_lt, Int64.lt_iff_toInt_lt]
  by_cases h : y.toInt < x.toInt
  · rw [if_pos h]
    exact ⟨fun q => absurd q (by decide), fun q => absurd h (by rw [q]; omega)⟩
  · rw [if_neg h]
    by_cases h2 : x = y
    · rw [if_pos h2]; exact ⟨fun _ => h2, fun _ => rfl⟩
    · rw [if_neg h2]; exact ⟨fun q => absurd q (by decide), fun q => absurd q h2⟩
theorem fBey_iff (v a b : Int64) : fBey v a b = 0 ↔ a.toInt ≤ v.toInt ∧ v.toInt ≤ b.toInt := by
  unfold fBey
  by_cases h : lg_cmp v a < 0
  · rw [if_pos h]; rw [lg_lt] at h
    exact ⟨fun q => absurd q (by decide), fun q => absurd q.1 (by omega)⟩
  · rw [if_neg h]; rw [lg_lt] at h
    by_cases h2 : lg_cmp v b ≤ 0
    · rw [if_pos h2]; rw [lg_le] at h2
      exact ⟨fun _ => ⟨by omega, h2⟩, fun _ => rfl⟩
    · rw [if_neg h2]; rw [lg_le] at h2
      exact ⟨fun q => absurd q (by decide), fun q => absurd q.2 h2⟩
theorem fBey_nar (v a b : Int64) : narrow .boolean (.int (fBey v a b)) = .int (fBey v a b) := by
  unfold fBey
  (repeat' split) <;> rfl
theorem fNo_iff (d : Int32) : fNo d = 0 ↔ vp_in d 8 := by
  unfold fNo
  rw [fBey_iff, vp_in_iff, Int32.toInt_toInt64]
  have h7 : (7 : Int64).toInt = 7 := by decide
  have h0 : (0 : Int64).toInt = 0 := by decide
  rw [h7, h0]
  omega
theorem fNo_in {d : Int32} (h : fNo d = 0) : vp_in d 8 := (fNo_iff d).mp h
abbrev gR (mo : zM) (d : Int32) : Nat := (mo.1 35 d.toNatClampNeg).toNatClampNeg
def met1 (mo : zM) (f : Int32) : zM := tI (tI (tI mo 32 11 f) 39 f.toNatClampNeg ((tI mo 32 11 f).1 39 f.toNatClampNeg + 1)) 39 0 ((tI (tI mo 32 11 f) 39 f.toNatClampNeg ((tI mo 32 11 f).1 39 f.toNatClampNeg + 1)).1 39 0 + 1)
def rAns (f g : Int32) : Int32 := if f ≤ 0 then g else -10 - f
def sAns (mo : zM) (f : Int32) : zM := if f ≤ 0 then mo else met1 mo f
def gRow (mo : zM) (d : Int32) : Int32 := if mo.1 33 d.toNatClampNeg = 0 then 1 else if mo.1 33 d.toNatClampNeg = 1 then 2 else 0
def gCome (mo : zM) (d i : Int32) : Int32 := if gRow mo d ≤ 0 then (if fBey i.toInt64 0 (mo.1 37 (gR mo d) - 1).toInt64 = 0 then 0 else 3) else gRow mo d
def gAt (mo : zM) (d i : Int32) : Int32 := 12 * mo.1 35 d.toNatClampNeg + i
def gEmp (mo : zM) (d i : Int32) : Int32 := if mo.1 36 (gR mo d) = 6 then (if lg_cmp (mo.2 38 (gAt mo d i).toNatClampNeg) 0 = 0 then 1 else 0) else 0
def gFits (k r : Int32) : Int32 := if k < 0 then (if k = r then 1 else if r = 6 then 1 else 0) else if k = r then 1 else if k = 0 then (if r = 1 then 1 else if r = 3 then 1 else if r = 4 then 1 else 0) else if k = 1 then (if r = 3 then 1 else if r = 4 then 1 else 0) else if k = 2 then (if r = 3 then 1 else if r = 4 then 1 else 0) else if k = 3 then (if r = 4 then 1 else 0) else 0
def gLay (mo : zM) (d i k : Int32) : Int32 := if gCome mo d i ≤ 0 then (if gFits k (mo.1 36 (gR mo d)) = 0 then 4 else 0) else gCome mo d i
def gKind (mo : zM) (d i : Int32) : Int32 := if gEmp mo d i = 0 then mo.1 36 (gR mo d) else -1
def gHand (mo : zM) : Int32 := if mo.1 32 7 = 0 then -9 else mo.1 32 8
def wfM (mo : zM) : Prop := (∀ d, d < 8 → vp_in (mo.1 35 d) 5000) ∧ (∀ r, r < 5000 → vp_in (mo.1 37 r) 13) ∧ (∃ n, n ≤ 8 ∧ mo.1 32 13 = nI n ∧ ∀ k, k < n → vp_in (mo.1 40 (5 * k + 1)) 8 ∧ vp_in (mo.1 40 (5 * k + 3)) 8) ∧ (∃ n, n ≤ 8 ∧ mo.1 32 15 = nI n)
theorem wfM_r {mo : zM} (w : wfM mo) {d : Int32} (hd : vp_in d 8) : vp_in (mo.1 35 d.toNatClampNeg) 5000 := w.1 _ (in_lt hd)
theorem gRow_5 (mo : zM) (d : Int32) : vp_in (gRow mo d) 5 := by
  unfold gRow
  (repeat' split) <;> exact vp_in_iff.mpr (by decide)
theorem gCome_5 (mo : zM) (d i : Int32) : vp_in (gCome mo d i) 5 := by
  unfold gCome
  split
  · split <;> exact vp_in_iff.mpr (by decide)
  · exact gRow_5 mo d
theorem gLay_5 (mo : zM) (d i k : Int32) : vp_in (gLay mo d i k) 5 := by
  unfold gLay
  split
  · split <;> exact vp_in_iff.mpr (by decide)
  · exact gCome_5 mo d i
theorem gCome_sz {mo : zM} {d i : Int32} (h : gCome mo d i ≤ 0) (w : wfM mo) (hd : vp_in d 8) : vp_in i (mo.1 37 (gR mo d)).toNatClampNeg := by
  have hs := w.2.1 _ (in_lt (wfM_r w hd))
  unfold gCome at h
  split at h
  · split at h
    · rename_i h1 h2
      rw [fBey_iff, Int32.toInt_toInt64, Int32.toInt_toInt64] at h2
      have h0 : (0 : Int64).toInt = 0 := by decide
      rw [h0] at h2
      obtain ⟨n, hn, e⟩ := vp_in_of hs (by decide)
      have en : (mo.1 37 (gR mo d)).toNatClampNeg = n := by rw [show mo.1 37 (gR mo d) = nI n from e]; exact nI_clamp (by omega)
      rw [en]
      rw [show mo.1 37 (gR mo d) = nI n from e, show (1 : Int32) = nI 1 from rfl, pk_sub_toInt (by omega) (by omega)] at h2
      exact vp_in_iff.mpr ⟨h2.1, by omega⟩
    · exact absurd h (by decide)
  · contradiction
theorem gCome_in {mo : zM} {d i : Int32} (h : gCome mo d i ≤ 0) (w : wfM mo) (hd : vp_in d 8) : vp_in i 12 := by
  have h1 := gCome_sz h w hd
  have h2 : (mo.1 37 (gR mo d)).toNatClampNeg < 13 := in_lt (w.2.1 _ (in_lt (wfM_r w hd)))
  exact in_mono h1 (by omega)
theorem gLay_come {mo : zM} {d i k : Int32} (h : gLay mo d i k ≤ 0) : gCome mo d i ≤ 0 := by
  unfold gLay at h
  split at h
  · assumption
  · contradiction
theorem gLay_in {mo : zM} {d i k : Int32} (h : gLay mo d i k ≤ 0) (w : wfM mo) (hd : vp_in d 8) : vp_in i 12 := gCome_in (gLay_come h) w hd
theorem gAt_e {mo : zM} {d i : Int32} (hr : vp_in (mo.1 35 d.toNatClampNeg) 5000) (hi : vp_in i 12) : gAt mo d i = nI (12 * gR mo d + i.toNatClampNeg) := by
  unfold gAt
  rw [show gR mo d = (mo.1 35 d.toNatClampNeg).toNatClampNeg from rfl]
  obtain ⟨r, hr1, e⟩ := vp_in_of hr (by decide)
  obtain ⟨n, hn1, e2⟩ := vp_in_of hi (by decide)
  rw [e, e2, nI_clamp (by omega), nI_clamp (by omega), show (12 : Int32) = nI 12 from rfl, pk_mul, nI_add]
theorem gAt_k {mo : zM} {d i : Int32} (hr : vp_in (mo.1 35 d.toNatClampNeg) 5000) (hi : vp_in i 12) : (gAt mo d i).toNatClampNeg = 12 * gR mo d + i.toNatClampNeg := by
  rw [gAt_e hr hi]
  have h1 := in_lt hr
  have h2 := in_lt hi
  exact nI_clamp (by show 12 * gR mo d + i.toNatClampNeg < 2 ^ 31; have : gR mo d < 5000 := h1; omega)
theorem gAt_in {mo : zM} {d i : Int32} (hr : vp_in (mo.1 35 d.toNatClampNeg) 5000) (hi : vp_in i 12) : vp_in (gAt mo d i) 60000 := by
  rw [gAt_e hr hi]
  have h1 : gR mo d < 5000 := in_lt hr
  have h2 := in_lt hi
  exact vp_in_nI (by omega) (by decide)
def gTak (mo : zM) (d i : Int32) : zM := if gCome mo d i = 0 then tJ (tI (tI mo 32 7 (if gEmp mo d i = 0 then 1 else 0)) 32 8 (mo.1 36 (gR mo d))) 32 9 (mo.2 38 (gAt mo d i).toNatClampNeg) else mo
def hTake (mo : zM) (d i : Int32) : Int32 := if fNo d = 0 then rAns (gCome mo d i) (gHand (gTak mo d i)) else -1
def tTake (mo : zM) (d i : Int32) : zM := if fNo d = 0 then sAns (gTak mo d i) (gCome mo d i) else mo
def gPut (mo : zM) (d i : Int32) : zM := if gLay mo d i (mo.1 32 8) = 0 then tJ mo 38 (gAt mo d i).toNatClampNeg (mo.2 32 9) else mo
def hLay (mo : zM) (d i : Int32) : Int32 := if fNo d = 0 then (if mo.1 32 7 = 0 then -3 else rAns (gLay mo d i (mo.1 32 8)) 1) else -1
def tLay (mo : zM) (d i : Int32) : zM := if fNo d = 0 then (if mo.1 32 7 = 0 then mo else sAns (gPut mo d i) (gLay mo d i (mo.1 32 8))) else mo
def hSize (mo : zM) (d : Int32) : Int32 := if fNo d = 0 then rAns (gRow mo d) (if gRow mo d ≤ 0 then mo.1 37 (gR mo d) else 0) else -1
def tFau (mo : zM) (d : Int32) : zM := if fNo d = 0 then sAns mo (gRow mo d) else mo
def hNote (d : Int32) : Int32 := if fNo d = 0 then 1 else -1
def tNote (mo : zM) (d v : Int32) : zM := if fNo d = 0 then tI (tI mo 33 d.toNatClampNeg 1) 34 d.toNatClampNeg v else mo
def hShare (d f : Int32) : Int32 := if fNo d = 0 then (if fNo f = 0 then 1 else -1) else -1
def shr (mo : zM) (d f : Nat) : zM := tI (tI (tI mo 33 d (mo.1 33 f)) 34 d ((tI mo 33 d (mo.1 33 f)).1 34 f)) 35 d ((tI (tI mo 33 d (mo.1 33 f)) 34 d ((tI mo 33 d (mo.1 33 f)).1 34 f)).1 35 f)
def tShare (mo : zM) (d f : Int32) : zM := if fNo d = 0 then (if fNo f = 0 then shr mo d.toNatClampNeg f.toNatClampNeg else mo) else mo
def hClear (mo : zM) (d : Int32) : Int32 := if fNo d = 0 then (if mo.1 33 d.toNatClampNeg ≤ 0 then 0 else 1) else -1
def tClear (mo : zM) (d : Int32) : zM := if fNo d = 0 then tI mo 33 d.toNatClampNeg 0 else mo
def gVok (k : Int32) (v : Int64) : Int64 := if k = 0 then v.toInt32.toInt8.toInt32.toInt64 else if k = 1 then v.toInt32.toInt16.toInt32.toInt64 else if k = 2 then (v.toInt32.toUInt32 % 65536).toInt32.toInt64 else if k = 3 then v.toInt32.toInt64 else if k = 4 then v else (if lg_cmp v 0 = 0 then 0 else 1)
def hThink (k : Int32) : Int32 := if fBey k.toInt64 0 5 = 0 then 1 else -2
def tThink (mo : zM) (k : Int32) (v : Int64) : zM := if fBey k.toInt64 0 5 = 0 then tJ (tI (tI mo 32 7 1) 32 8 k) 32 9 (gVok k v) else mo
def hCard (mo : zM) : Int32 := if mo.1 32 10 = 30 then -3 else mo.1 32 10 + 1
def tCard (mo : zM) : zM := if mo.1 32 10 = 30 then mo else tJ (tI (tI (tI mo 32 10 (mo.1 32 10 + 1)) 32 7 1) 32 8 6) 32 9 (mo.1 32 10 + 1).toInt64
def hValue (mo : zM) : Int64 := if mo.1 32 7 = 0 then 0 else mo.2 32 9
def hMet (mo : zM) (k : Int32) : Int32 := if fBey k.toInt64 0 (mo.1 32 15 - 1).toInt64 = 0 then mo.1 41 k.toNatClampNeg else -9
def hFaus (mo : zM) (f : Int32) : Int32 := if fBey f.toInt64 0 4 = 0 then mo.1 39 f.toNatClampNeg else -9
theorem fBey_in {k : Int32} (n : Int64) (N : Nat) (hN : n.toInt + 1 = N) (h : fBey k.toInt64 0 n = 0) : vp_in k N := by
  rw [fBey_iff, Int32.toInt_toInt64] at h
  have h0 : (0 : Int64).toInt = 0 := by decide
  rw [h0] at h
  exact vp_in_iff.mpr ⟨h.1, by omega⟩
theorem fBey_n1 {k x : Int32} {n : Nat} (hx : x = nI n) (hn : n < 2 ^ 30) (h : fBey k.toInt64 0 (x - 1).toInt64 = 0) : vp_in k n := by
  rw [fBey_iff, Int32.toInt_toInt64, Int32.toInt_toInt64, hx, show (1 : Int32) = nI 1 from rfl, pk_sub_toInt hn (by omega)] at h
  have h0 : (0 : Int64).toInt = 0 := by decide
  rw [h0] at h
  exact vp_in_iff.mpr ⟨h.1, by omega⟩
set_option maxHeartbeats 4000000 in
set_option maxRecDepth 100000 in
theorem k_X3_beyond (l : Launch) (E : zE) (c : zC) (mo : zM) (v : Int64) (a : Int64) (b : Int64)  : Met l yX3_beyond wsX3_beyond (zR 0 0) (zP E c mo [.long v, .long a, .long b]) (cQi E (fBey v a b) c mo) 0 0 (zA E) := by
  refine z_ent (cc := cX3_beyond) (maxL := 6) (ret := (some .boolean)) (vs := [.long v, .long a, .long b]) (by decide) rfl (Nat.le_of_ble_eq_true rfl) ?_
  intro p e s m below meth cd ls hx hb hr hml hown hts hlocks hl hw
  have hl : lv_has ls 6 [(0, .long v), (2, .long a), (4, .long b)] := hl
  have hown : s.vm.findClass RX3 = some m.cls := hown
  refine lv_lload_n hx hb dX3_beyond_0 rfl (lv_at hl 0 rfl) ?_
  refine lv_lload_n hx hb dX3_beyond_1 rfl (lv_at hl 1 rfl) ?_
  refine W.lcmp hx hb dX3_beyond_2 ?_
  refine lv_if_lt (tgt := 13) hx hb dX3_beyond_3 (by decide) (fun q_1 => ?_) (fun q_1 => ?_)
  · have _ := hx
    refine lv_iconst (v := 1) hx hb dX3_beyond_13 (by decide) ?_
    refine lv_goto (tgt := 18) hx hb dX3_beyond_14 (by decide) ?_
    exact z_zret hx hb hr hlocks hw dX3_beyond_18 rfl (by first | (simp [fBey, q_1]; done) | (simp_all [fBey]; done)) rfl rfl
  · have _ := hx
    refine lv_lload_n hx hb dX3_beyond_6 rfl (lv_at hl 0 rfl) ?_
    refine lv_lload hx hb dX3_beyond_7 (lv_at hl 2 rfl) ?_
    refine W.lcmp hx hb dX3_beyond_9 ?_
    refine lv_if_le (tgt := 17) hx hb dX3_beyond_10 (by decide) (fun q_2 => ?_) (fun q_2 => ?_)
    · have _ := hx
      refine lv_iconst (v := 0) hx hb dX3_beyond_17 (by decide) ?_
      exact z_zret hx hb hr hlocks hw dX3_beyond_18 rfl (by first | (simp [fBey, q_1, q_2]; done) | (simp_all [fBey]; done)) rfl rfl
    · have _ := hx
      refine lv_iconst (v := 1) hx hb dX3_beyond_13 (by decide) ?_
      refine lv_goto (tgt := 18) hx hb dX3_beyond_14 (by decide) ?_
      exact z_zret hx hb hr hlocks hw dX3_beyond_18 rfl (by first | (simp [fBey, q_1, q_2]; done) | (simp_all [fBey]; done)) rfl rfl
set_option maxHeartbeats 4000000 in
set_option maxRecDepth 100000 in
theorem k_X3_no (l : Launch) (E : zE) (c : zC) (mo : zM) (d : Int32)  : Met l yX3_no wsX3_no (zR 1 25) (zP E c mo [.int d]) (cQi E (fNo d) c mo) 0 0 (zA E) := by
  refine z_ent (cc := cX3_no) (maxL := 1) (ret := (some .boolean)) (vs := [.int d]) (by decide) rfl (Nat.le_of_ble_eq_true rfl) ?_
  intro p e s m below meth cd ls hx hb hr hml hown hts hlocks hl hw
  have hl : lv_has ls 1 [(0, .int d)] := hl
  have hown : s.vm.findClass RX3 = some m.cls := hown
  refine lv_iload_n hx hb dX3_no_0 rfl (lv_at hl 0 rfl) ?_
  refine lv_i2l (v := d.toInt64) hx hb dX3_no_1 rfl ?_
  refine lv_lconst (v := 0) hx hb dX3_no_2 (by decide) ?_
  refine lv_ldc2 (v := 7) hx hb hown (hts (.constantLong RX3 39 (7)) (by decide +kernel)) dX3_no_3 ?_
  refine z_calli (rest := []) (va_runS (As := [.long d.toInt64, .long 0, .long 7]) (rest := []) ⟨hx, hb, hml, hown, hts⟩ (k_X3_beyond l E c mo d.toInt64 0 7 ) (va_cwS 3 hts gX3_no_X3_beyond rfl rfl rfl (by decide +kernel) ⟨Nat.le_of_ble_eq_true rfl, Nat.le_of_ble_eq_true rfl⟩) (z_preS hw [.long d.toInt64, .long 0, .long 7]) rfl rfl hl.1 rfl (lv_room (Nat.le_of_ble_eq_true rfl)) dX3_no_6 ⟨Nat.le_of_ble_eq_true rfl, Nat.le_of_ble_eq_true rfl⟩) hw (fun H locs hw => ?_)
  exact z_zret hx hb hr hlocks hw dX3_no_9 (fBey_nar _ _ _) (by rfl) rfl rfl
set_option maxHeartbeats 4000000 in
set_option maxRecDepth 100000 in
theorem k_X3_met1 (l : Launch) (E : zE) (c : zC) (mo : zM) (f : Int32) (hf : vp_in f 5) : Met l yX3_met1 wsX3_met1 (zR 0 0) (zP E c mo [.ref (zl E 32), .int f]) (cQi E f c (met1 mo f)) 0 0 (zA E) := by
  refine z_ent (cc := cX3_met1) (maxL := 2) (ret := (some .int)) (vs := [.ref (zl E 32), .int f]) (by decide) rfl (Nat.le_of_ble_eq_true rfl) ?_
  intro p e s m below meth cd ls hx hb hr hml hown hts hlocks hl hw
  have hl : lv_has ls 2 [(0, .ref (zl E 32)), (1, .int f)] := hl
  have hown : s.vm.findClass RX3 = some m.cls := hown
  have hin3 : ∀ w ∈ u_ws RX3 TX3 18, w ∈ wsX3_met1 := by decide +kernel
  refine lv_aload_n hx hb dX3_met1_0 rfl (lv_at hl 0 rfl) ?_
  refine lv_iload_n hx hb dX3_met1_1 rfl (lv_at hl 1 rfl) ?_
  refine z_put (i := 32) (ty := .int) hx hb hts hin3 tyX3 tyX3_ok nmX3 hown hw (by decide) zG_32 rfl 11 (by decide) (hts (.fieldLink RX3 45 "SeedDrawersModel" "fault" "I") (by decide +kernel)) rfl rfl (by decide +kernel) rfl rfl (Nat.le_of_ble_eq_true rfl) (zU32_11 E c mo f) dX3_met1_2 (fun H locs hw => ?_)
  refine lv_aload_n hx hb dX3_met1_5 rfl (lv_at hl 0 rfl) ?_
  refine z_get (i := 32) hx hb hts hin3 hown hw (by decide) zG_32 rfl 12 (by decide) (hts (.fieldLink RX3 30 "SeedDrawersModel" "faults" "[I") (by decide +kernel)) rfl rfl dX3_met1_6 ?_
  refine lv_iload_n hx hb dX3_met1_9 rfl (lv_at hl 1 rfl) ?_
  refine lv_dup2_11 hx hb dX3_met1_10 rfl rfl ?_
  refine y_iald (i := 39) hx hb hw (by decide) (zG_9 (i := 39) (by decide)) (by assumption) (k := f.toNatClampNeg) rfl dX3_met1_11 ?_
  refine lv_iconst (v := 1) hx hb dX3_met1_12 (by decide) ?_
  refine lv_iadd hx hb dX3_met1_13 ?_
  refine y_iast9 (i := 39) hx hb hw (by decide) (by decide) (by assumption) (k := f.toNatClampNeg) rfl dX3_met1_14 (fun H locs hw => ?_)
  refine lv_aload_n hx hb dX3_met1_15 rfl (lv_at hl 0 rfl) ?_
  refine z_get (i := 32) hx hb hts hin3 hown hw (by decide) zG_32 rfl 12 (by decide) (hts (.fieldLink RX3 30 "SeedDrawersModel" "faults" "[I") (by decide +kernel)) rfl rfl dX3_met1_16 ?_
  refine lv_iconst (v := 0) hx hb dX3_met1_19 (by decide) ?_
  refine lv_dup2_11 hx hb dX3_met1_20 rfl rfl ?_
  refine y_iald (i := 39) hx hb hw (by decide) (zG_9 (i := 39) (by decide)) (vp_in_iff.mpr (by decide)) (k := 0) rfl dX3_met1_21 ?_
  refine lv_iconst (v := 1) hx hb dX3_met1_22 (by decide) ?_
  refine lv_iadd hx hb dX3_met1_23 ?_
  refine y_iast9 (i := 39) hx hb hw (by decide) (by decide) (vp_in_iff.mpr (by decide)) (k := 0) rfl dX3_met1_24 (fun H locs hw => ?_)
  refine lv_iload_n hx hb dX3_met1_25 rfl (lv_at hl 1 rfl) ?_
  exact z_iret hx hb hr hlocks hw dX3_met1_26 (by rfl) rfl (by rfl)
set_option maxHeartbeats 4000000 in
set_option maxRecDepth 100000 in
theorem k_X3_answer (l : Launch) (E : zE) (c : zC) (mo : zM) (f : Int32) (g : Int32) (hf : vp_in f 5) : Met l yX3_answer wsX3_answer (zR 1 21) (zP E c mo [.ref (zl E 32), .int f, .int g]) (cQi E (rAns f g) c (sAns mo f)) 0 0 (zA E) := by
  refine z_ent (cc := cX3_answer) (maxL := 3) (ret := (some .int)) (vs := [.ref (zl E 32), .int f, .int g]) (by decide) rfl (Nat.le_of_ble_eq_true rfl) ?_
  intro p e s m below meth cd ls hx hb hr hml hown hts hlocks hl hw
  have hl : lv_has ls 3 [(0, .ref (zl E 32)), (1, .int f), (2, .int g)] := hl
  have hown : s.vm.findClass RX3 = some m.cls := hown
  refine lv_iload_n hx hb dX3_answer_0 rfl (lv_at hl 1 rfl) ?_
  refine lv_if_le (tgt := 15) hx hb dX3_answer_1 (by decide) (fun q_1 => ?_) (fun q_1 => ?_)
  · have _ := hx
    refine lv_iload_n hx hb dX3_answer_15 rfl (lv_at hl 2 rfl) ?_
    exact z_iret hx hb hr hlocks hw dX3_answer_16 (by first | (simp [rAns, sAns, q_1]; done) | (simp_all [rAns, sAns]; done)) rfl (by first | (simp [rAns, sAns, q_1]; done) | (simp_all [rAns, sAns]; done))
  · have _ := hx
    refine lv_bipush (v := (-10)) hx hb dX3_answer_4 (by decide) ?_
    refine lv_aload_n hx hb dX3_answer_6 rfl (lv_at hl 0 rfl) ?_
    refine lv_iload_n hx hb dX3_answer_7 rfl (lv_at hl 1 rfl) ?_
    refine z_calli (rest := [.int (-10)]) (va_runV (As := [.int f]) (rest := [.int (-10)]) ⟨hx, hb, hml, hown, hts⟩ (k_X3_met1 l E c mo f (by assumption)) (cwV 1 hts gX3_answer_X3_met1 rfl rfl rfl (by decide +kernel) ⟨Nat.le_of_ble_eq_true rfl, Nat.le_of_ble_eq_true rfl⟩) (z_preV hw (by decide) zG_32 rfl [.int f]) rfl rfl hl.1 rfl (lv_room (Nat.le_of_ble_eq_true rfl)) dX3_answer_8 ⟨Nat.le_of_ble_eq_true rfl, Nat.le_of_ble_eq_true rfl⟩) hw (fun H locs hw => ?_)
    refine lv_isub hx hb dX3_answer_11 ?_
    refine lv_goto (tgt := 16) hx hb dX3_answer_12 (by decide) ?_
    exact z_iret hx hb hr hlocks hw dX3_answer_16 (by first | (simp [rAns, sAns, q_1]; done) | (simp_all [rAns, sAns]; done)) rfl (by first | (simp [rAns, sAns, q_1]; done) | (simp_all [rAns, sAns]; done))
set_option maxHeartbeats 4000000 in
set_option maxRecDepth 100000 in
theorem k_X3_rowFault (l : Launch) (E : zE) (c : zC) (mo : zM) (d : Int32) (hd : vp_in d 8) : Met l yX3_rowFault wsX3_rowFault (zR 0 0) (zP E c mo [.ref (zl E 32), .int d]) (cQi E (gRow mo d) c mo) 0 0 (zA E) := by
  refine z_ent (cc := cX3_rowFault) (maxL := 2) (ret := (some .int)) (vs := [.ref (zl E 32), .int d]) (by decide) rfl (Nat.le_of_ble_eq_true rfl) ?_
  intro p e s m below meth cd ls hx hb hr hml hown hts hlocks hl hw
  have hl : lv_has ls 2 [(0, .ref (zl E 32)), (1, .int d)] := hl
  have hown : s.vm.findClass RX3 = some m.cls := hown
  have hin3 : ∀ w ∈ u_ws RX3 TX3 18, w ∈ wsX3_rowFault := by decide +kernel
  refine lv_aload_n hx hb dX3_rowFault_0 rfl (lv_at hl 0 rfl) ?_
  refine z_get (i := 32) hx hb hts hin3 hown hw (by decide) zG_32 rfl 0 (by decide) (hts (.fieldLink RX3 7 "SeedDrawersModel" "has" "[I") (by decide +kernel)) rfl rfl dX3_rowFault_1 ?_
  refine lv_iload_n hx hb dX3_rowFault_4 rfl (lv_at hl 1 rfl) ?_
  refine y_iald (i := 33) hx hb hw (by decide) (zG_9 (i := 33) (by decide)) (by assumption) (k := d.toNatClampNeg) rfl dX3_rowFault_5 ?_
  refine lv_if_ne (tgt := 13) hx hb dX3_rowFault_6 (by decide) (fun q_1 => ?_) (fun q_1 => ?_)
  · have _ := hx
    refine lv_aload_n hx hb dX3_rowFault_13 rfl (lv_at hl 0 rfl) ?_
    refine z_get (i := 32) hx hb hts hin3 hown hw (by decide) zG_32 rfl 0 (by decide) (hts (.fieldLink RX3 7 "SeedDrawersModel" "has" "[I") (by decide +kernel)) rfl rfl dX3_rowFault_14 ?_
    refine lv_iload_n hx hb dX3_rowFault_17 rfl (lv_at hl 1 rfl) ?_
    refine y_iald (i := 33) hx hb hw (by decide) (zG_9 (i := 33) (by decide)) (by assumption) (k := d.toNatClampNeg) rfl dX3_rowFault_18 ?_
    refine lv_iconst (v := 1) hx hb dX3_rowFault_19 (by decide) ?_
    refine lv_icmp_ne (tgt := 27) hx hb dX3_rowFault_20 (by decide) (fun q_2 => ?_) (fun q_2 => ?_)
    · have _ := hx
      refine lv_iconst (v := 0) hx hb dX3_rowFault_27 (by decide) ?_
      exact z_iret hx hb hr hlocks hw dX3_rowFault_28 (by first | (simp [gRow, q_1, q_2]; done) | (simp_all [gRow]; done)) rfl rfl
    · have _ := hx
      refine lv_iconst (v := 2) hx hb dX3_rowFault_23 (by decide) ?_
      refine lv_goto (tgt := 28) hx hb dX3_rowFault_24 (by decide) ?_
      exact z_iret hx hb hr hlocks hw dX3_rowFault_28 (by first | (simp [gRow, q_1, q_2]; done) | (simp_all [gRow]; done)) rfl rfl
  · have _ := hx
    refine lv_iconst (v := 1) hx hb dX3_rowFault_9 (by decide) ?_
    refine lv_goto (tgt := 28) hx hb dX3_rowFault_10 (by decide) ?_
    exact z_iret hx hb hr hlocks hw dX3_rowFault_28 (by first | (simp [gRow, q_1]; done) | (simp_all [gRow]; done)) rfl rfl
set_option maxHeartbeats 4000000 in
set_option maxRecDepth 100000 in
theorem k_X3_come (l : Launch) (E : zE) (c : zC) (mo : zM) (d : Int32) (i : Int32) (hd : vp_in d 8) (hwm : wfM mo) : Met l yX3_come wsX3_come (zR 1 25) (zP E c mo [.ref (zl E 32), .int d, .int i]) (cQi E (gCome mo d i) c mo) 0 0 (zA E) := by
  refine z_ent (cc := cX3_come) (maxL := 4) (ret := (some .int)) (vs := [.ref (zl E 32), .int d, .int i]) (by decide) rfl (Nat.le_of_ble_eq_true rfl) ?_
  intro p e s m below meth cd ls hx hb hr hml hown hts hlocks hl hw
  have hl : lv_has ls 4 [(0, .ref (zl E 32)), (1, .int d), (2, .int i)] := hl
  have hown : s.vm.findClass RX3 = some m.cls := hown
  have hin3 : ∀ w ∈ u_ws RX3 TX3 18, w ∈ wsX3_come := by decide +kernel
  refine lv_aload_n hx hb dX3_come_0 rfl (lv_at hl 0 rfl) ?_
  refine lv_iload_n hx hb dX3_come_1 rfl (lv_at hl 1 rfl) ?_
  refine z_calli (rest := []) (va_runV (As := [.int d]) (rest := []) ⟨hx, hb, hml, hown, hts⟩ (k_X3_rowFault l E c mo d (by assumption)) (cwV 1 hts gX3_come_X3_rowFault rfl rfl rfl (by decide +kernel) ⟨Nat.le_of_ble_eq_true rfl, Nat.le_of_ble_eq_true rfl⟩) (z_preV hw (by decide) zG_32 rfl [.int d]) rfl rfl hl.1 rfl (lv_room (Nat.le_of_ble_eq_true rfl)) dX3_come_2 ⟨Nat.le_of_ble_eq_true rfl, Nat.le_of_ble_eq_true rfl⟩) hw (fun H locs hw => ?_)
  refine lv_istore_n (lv' := [(3, .int (gRow mo d)), (0, .ref (zl E 32)), (1, .int d), (2, .int i)]) hx hb dX3_come_5 rfl hl (by decide) rfl (fun ls hl => ?_)
  refine lv_iload_n hx hb dX3_come_6 rfl (lv_at hl 0 rfl) ?_
  refine lv_if_le (tgt := 14) hx hb dX3_come_7 (by decide) (fun q_1 => ?_) (fun q_1 => ?_)
  · have _ := hx
    refine lv_iload_n hx hb dX3_come_14 rfl (lv_at hl 3 rfl) ?_
    refine lv_i2l (v := i.toInt64) hx hb dX3_come_15 rfl ?_
    refine lv_lconst (v := 0) hx hb dX3_come_16 (by decide) ?_
    refine lv_aload_n hx hb dX3_come_17 rfl (lv_at hl 1 rfl) ?_
    refine z_get (i := 32) hx hb hts hin3 hown hw (by decide) zG_32 rfl 5 (by decide) (hts (.fieldLink RX3 22 "SeedDrawersModel" "sizeOf" "[I") (by decide +kernel)) rfl rfl dX3_come_18 ?_
    refine lv_aload_n hx hb dX3_come_21 rfl (lv_at hl 1 rfl) ?_
    refine z_get (i := 32) hx hb hts hin3 hown hw (by decide) zG_32 rfl 2 (by decide) (hts (.fieldLink RX3 16 "SeedDrawersModel" "rowOf" "[I") (by decide +kernel)) rfl rfl dX3_come_22 ?_
    refine lv_iload_n hx hb dX3_come_25 rfl (lv_at hl 2 rfl) ?_
    refine y_iald (i := 35) hx hb hw (by decide) (zG_9 (i := 35) (by decide)) (by assumption) (k := d.toNatClampNeg) rfl dX3_come_26 ?_
    refine y_iald (i := 37) hx hb hw (by decide) (zG_9 (i := 37) (by decide)) (wfM_r hwm (by assumption)) (k := (mo.1 35 d.toNatClampNeg).toNatClampNeg) rfl dX3_come_27 ?_
    refine lv_iconst (v := 1) hx hb dX3_come_28 (by decide) ?_
    refine lv_isub hx hb dX3_come_29 ?_
    refine lv_i2l (v := ((mo.1 37 ((mo.1 35 d.toNatClampNeg).toNatClampNeg)) - 1).toInt64) hx hb dX3_come_30 rfl ?_
    refine z_calli (rest := []) (va_runS (As := [.long i.toInt64, .long 0, .long (((mo.1 37 ((mo.1 35 d.toNatClampNeg).toNatClampNeg)) - 1).toInt64)]) (rest := []) ⟨hx, hb, hml, hown, hts⟩ (k_X3_beyond l E c mo i.toInt64 0 (((mo.1 37 ((mo.1 35 d.toNatClampNeg).toNatClampNeg)) - 1).toInt64) ) (va_cwS 3 hts gX3_come_X3_beyond rfl rfl rfl (by decide +kernel) ⟨Nat.le_of_ble_eq_true rfl, Nat.le_of_ble_eq_true rfl⟩) (z_preS hw [.long i.toInt64, .long 0, .long (((mo.1 37 ((mo.1 35 d.toNatClampNeg).toNatClampNeg)) - 1).toInt64)]) rfl rfl hl.1 rfl (lv_room (Nat.le_of_ble_eq_true rfl)) dX3_come_31 ⟨Nat.le_of_ble_eq_true rfl, Nat.le_of_ble_eq_true rfl⟩) hw (fun H locs hw => ?_)
    refine lv_if_eq (tgt := 41) hx hb dX3_come_34 (by decide) (fun q_2 => ?_) (fun q_2 => ?_)
    · have _ := hx
      refine lv_iconst (v := 0) hx hb dX3_come_41 (by decide) ?_
      exact z_iret hx hb hr hlocks hw dX3_come_42 (by first | (simp [gCome, q_1, q_2]; done) | (simp_all [gCome]; done)) rfl rfl
    · have _ := hx
      refine lv_iconst (v := 3) hx hb dX3_come_37 (by decide) ?_
      refine lv_goto (tgt := 42) hx hb dX3_come_38 (by decide) ?_
      exact z_iret hx hb hr hlocks hw dX3_come_42 (by first | (simp [gCome, q_1, q_2]; done) | (simp_all [gCome]; done)) rfl rfl
  · have _ := hx
    refine lv_iload_n hx hb dX3_come_10 rfl (lv_at hl 0 rfl) ?_
    refine lv_goto (tgt := 42) hx hb dX3_come_11 (by decide) ?_
    exact z_iret hx hb hr hlocks hw dX3_come_42 (by first | (simp [gCome, q_1]; done) | (simp_all [gCome]; done)) rfl rfl
set_option maxHeartbeats 4000000 in
set_option maxRecDepth 100000 in
theorem k_X3_at (l : Launch) (E : zE) (c : zC) (mo : zM) (d : Int32) (i : Int32) (hd : vp_in d 8) : Met l yX3_at wsX3_at (zR 0 0) (zP E c mo [.ref (zl E 32), .int d, .int i]) (cQi E (gAt mo d i) c mo) 0 0 (zA E) := by
  refine z_ent (cc := cX3_at) (maxL := 3) (ret := (some .int)) (vs := [.ref (zl E 32), .int d, .int i]) (by decide) rfl (Nat.le_of_ble_eq_true rfl) ?_
  intro p e s m below meth cd ls hx hb hr hml hown hts hlocks hl hw
  have hl : lv_has ls 3 [(0, .ref (zl E 32)), (1, .int d), (2, .int i)] := hl
  have hown : s.vm.findClass RX3 = some m.cls := hown
  have hin3 : ∀ w ∈ u_ws RX3 TX3 18, w ∈ wsX3_at := by decide +kernel
  refine lv_bipush (v := 12) hx hb dX3_at_0 (by decide) ?_
  refine lv_aload_n hx hb dX3_at_2 rfl (lv_at hl 0 rfl) ?_
  refine z_get (i := 32) hx hb hts hin3 hown hw (by decide) zG_32 rfl 2 (by decide) (hts (.fieldLink RX3 16 "SeedDrawersModel" "rowOf" "[I") (by decide +kernel)) rfl rfl dX3_at_3 ?_
  refine lv_iload_n hx hb dX3_at_6 rfl (lv_at hl 1 rfl) ?_
  refine y_iald (i := 35) hx hb hw (by decide) (zG_9 (i := 35) (by decide)) (by assumption) (k := d.toNatClampNeg) rfl dX3_at_7 ?_
  refine lv_imul hx hb dX3_at_8 ?_
  refine lv_iload_n hx hb dX3_at_9 rfl (lv_at hl 2 rfl) ?_
  refine lv_iadd hx hb dX3_at_10 ?_
  exact z_iret hx hb hr hlocks hw dX3_at_11 (by rfl) rfl rfl
set_option maxHeartbeats 4000000 in
set_option maxRecDepth 100000 in
theorem k_X3_isEmpty (l : Launch) (E : zE) (c : zC) (mo : zM) (d : Int32) (i : Int32) (hd : vp_in d 8) (hi : vp_in i 12) (hwm : wfM mo) : Met l yX3_isEmpty wsX3_isEmpty (zR 1 22) (zP E c mo [.ref (zl E 32), .int d, .int i]) (cQi E (gEmp mo d i) c mo) 0 0 (zA E) := by
  refine z_ent (cc := cX3_isEmpty) (maxL := 3) (ret := (some .boolean)) (vs := [.ref (zl E 32), .int d, .int i]) (by decide) rfl (Nat.le_of_ble_eq_true rfl) ?_
  intro p e s m below meth cd ls hx hb hr hml hown hts hlocks hl hw
  have hl : lv_has ls 3 [(0, .ref (zl E 32)), (1, .int d), (2, .int i)] := hl
  have hown : s.vm.findClass RX3 = some m.cls := hown
  have hin3 : ∀ w ∈ u_ws RX3 TX3 18, w ∈ wsX3_isEmpty := by decide +kernel
  refine lv_aload_n hx hb dX3_isEmpty_0 rfl (lv_at hl 0 rfl) ?_
  refine z_get (i := 32) hx hb hts hin3 hown hw (by decide) zG_32 rfl 4 (by decide) (hts (.fieldLink RX3 19 "SeedDrawersModel" "kindOf" "[I") (by decide +kernel)) rfl rfl dX3_isEmpty_1 ?_
  refine lv_aload_n hx hb dX3_isEmpty_4 rfl (lv_at hl 0 rfl) ?_
  refine z_get (i := 32) hx hb hts hin3 hown hw (by decide) zG_32 rfl 2 (by decide) (hts (.fieldLink RX3 16 "SeedDrawersModel" "rowOf" "[I") (by decide +kernel)) rfl rfl dX3_isEmpty_5 ?_
  refine lv_iload_n hx hb dX3_isEmpty_8 rfl (lv_at hl 1 rfl) ?_
  refine y_iald (i := 35) hx hb hw (by decide) (zG_9 (i := 35) (by decide)) (by assumption) (k := d.toNatClampNeg) rfl dX3_isEmpty_9 ?_
  refine y_iald (i := 36) hx hb hw (by decide) (zG_9 (i := 36) (by decide)) (wfM_r hwm (by assumption)) (k := (mo.1 35 d.toNatClampNeg).toNatClampNeg) rfl dX3_isEmpty_10 ?_
  refine lv_bipush (v := 6) hx hb dX3_isEmpty_11 (by decide) ?_
  refine lv_icmp_ne (tgt := 36) hx hb dX3_isEmpty_13 (by decide) (fun q_1 => ?_) (fun q_1 => ?_)
  · have _ := hx
    refine lv_iconst (v := 0) hx hb dX3_isEmpty_36 (by decide) ?_
    exact z_zret hx hb hr hlocks hw dX3_isEmpty_37 rfl (by first | (simp [gEmp, q_1]; done) | (simp_all [gEmp]; done)) rfl rfl
  · have _ := hx
    refine lv_aload_n hx hb dX3_isEmpty_16 rfl (lv_at hl 0 rfl) ?_
    refine z_get (i := 32) hx hb hts hin3 hown hw (by decide) zG_32 rfl 6 (by decide) (hts (.fieldLink RX3 26 "SeedDrawersModel" "place" "[J") (by decide +kernel)) rfl rfl dX3_isEmpty_17 ?_
    refine lv_aload_n hx hb dX3_isEmpty_20 rfl (lv_at hl 0 rfl) ?_
    refine lv_iload_n hx hb dX3_isEmpty_21 rfl (lv_at hl 1 rfl) ?_
    refine lv_iload_n hx hb dX3_isEmpty_22 rfl (lv_at hl 2 rfl) ?_
    refine z_calli (rest := [.ref (zl E 38)]) (va_runV (As := [.int d, .int i]) (rest := [.ref (zl E 38)]) ⟨hx, hb, hml, hown, hts⟩ (k_X3_at l E c mo d i (by assumption)) (cwV 2 hts gX3_isEmpty_X3_at rfl rfl rfl (by decide +kernel) ⟨Nat.le_of_ble_eq_true rfl, Nat.le_of_ble_eq_true rfl⟩) (z_preV hw (by decide) zG_32 rfl [.int d, .int i]) rfl rfl hl.1 rfl (lv_room (Nat.le_of_ble_eq_true rfl)) dX3_isEmpty_23 ⟨Nat.le_of_ble_eq_true rfl, Nat.le_of_ble_eq_true rfl⟩) hw (fun H locs hw => ?_)
    refine y_lald (i := 38) hx hb hw (by decide) zG_38 (gAt_in (wfM_r hwm (by assumption)) (by assumption)) (k := (gAt mo d i).toNatClampNeg) rfl dX3_isEmpty_26 ?_
    refine lv_lconst (v := 0) hx hb dX3_isEmpty_27 (by decide) ?_
    refine W.lcmp hx hb dX3_isEmpty_28 ?_
    refine lv_if_ne (tgt := 36) hx hb dX3_isEmpty_29 (by decide) (fun q_2 => ?_) (fun q_2 => ?_)
    · have _ := hx
      refine lv_iconst (v := 0) hx hb dX3_isEmpty_36 (by decide) ?_
      exact z_zret hx hb hr hlocks hw dX3_isEmpty_37 rfl (by first | (simp [gEmp, q_1, q_2]; done) | (simp_all [gEmp]; done)) rfl rfl
    · have _ := hx
      refine lv_iconst (v := 1) hx hb dX3_isEmpty_32 (by decide) ?_
      refine lv_goto (tgt := 37) hx hb dX3_isEmpty_33 (by decide) ?_
      exact z_zret hx hb hr hlocks hw dX3_isEmpty_37 rfl (by first | (simp [gEmp, q_1, q_2]; done) | (simp_all [gEmp]; done)) rfl rfl
set_option maxHeartbeats 4000000 in
set_option maxRecDepth 100000 in
theorem k_X3_fits (l : Launch) (E : zE) (c : zC) (mo : zM) (k : Int32) (r : Int32)  : Met l yX3_fits wsX3_fits (zR 0 0) (zP E c mo [.int k, .int r]) (cQi E (gFits k r) c mo) 0 0 (zA E) := by
  refine z_ent (cc := cX3_fits) (maxL := 2) (ret := (some .boolean)) (vs := [.int k, .int r]) (by decide) rfl (Nat.le_of_ble_eq_true rfl) ?_
  intro p e s m below meth cd ls hx hb hr hml hown hts hlocks hl hw
  have hl : lv_has ls 2 [(0, .int k), (1, .int r)] := hl
  have hown : s.vm.findClass RX3 = some m.cls := hown
  refine lv_iload_n hx hb dX3_fits_0 rfl (lv_at hl 0 rfl) ?_
  refine lv_if_lt (tgt := 9) hx hb dX3_fits_1 (by decide) (fun q_1 => ?_) (fun q_1 => ?_)
  · have _ := hx
    refine lv_iload_n hx hb dX3_fits_9 rfl (lv_at hl 0 rfl) ?_
    refine lv_iload_n hx hb dX3_fits_10 rfl (lv_at hl 1 rfl) ?_
    refine lv_icmp_eq (tgt := 20) hx hb dX3_fits_11 (by decide) (fun q_2 => ?_) (fun q_2 => ?_)
    · have _ := hx
      refine lv_iconst (v := 1) hx hb dX3_fits_20 (by decide) ?_
      refine lv_goto (tgt := 25) hx hb dX3_fits_21 (by decide) ?_
      exact z_zret hx hb hr hlocks hw dX3_fits_25 rfl (by first | (simp [gFits, q_1, q_2]; done) | (simp_all [gFits]; done)) rfl rfl
    · have _ := hx
      refine lv_iload_n hx hb dX3_fits_14 rfl (lv_at hl 1 rfl) ?_
      refine lv_bipush (v := 6) hx hb dX3_fits_15 (by decide) ?_
      refine lv_icmp_ne (tgt := 24) hx hb dX3_fits_17 (by decide) (fun q_3 => ?_) (fun q_3 => ?_)
      · have _ := hx
        refine lv_iconst (v := 0) hx hb dX3_fits_24 (by decide) ?_
        exact z_zret hx hb hr hlocks hw dX3_fits_25 rfl (by first | (simp [gFits, q_1, q_2, q_3]; done) | (simp_all [gFits]; done)) rfl rfl
      · have _ := hx
        refine lv_iconst (v := 1) hx hb dX3_fits_20 (by decide) ?_
        refine lv_goto (tgt := 25) hx hb dX3_fits_21 (by decide) ?_
        exact z_zret hx hb hr hlocks hw dX3_fits_25 rfl (by first | (simp [gFits, q_1, q_2, q_3]; done) | (simp_all [gFits]; done)) rfl rfl
  · have _ := hx
    refine lv_iload_n hx hb dX3_fits_4 rfl (lv_at hl 0 rfl) ?_
    refine lv_iload_n hx hb dX3_fits_5 rfl (lv_at hl 1 rfl) ?_
    refine lv_icmp_ne (tgt := 26) hx hb dX3_fits_6 (by decide) (fun q_4 => ?_) (fun q_4 => ?_)
    · have _ := hx
      refine lv_iload_n hx hb dX3_fits_26 rfl (lv_at hl 0 rfl) ?_
      by_cases q_5 : k = 0
      · have _ := hx
        refine lv_tableIn (tgt := 56) hx hb dX3_fits_27 (by rw [q_5]; decide) (by rw [q_5]; decide) (by rw [q_5]; rfl) (by decide) ?_
        refine lv_iload_n hx hb dX3_fits_56 rfl (lv_at hl 1 rfl) ?_
        refine lv_iconst (v := 1) hx hb dX3_fits_57 (by decide) ?_
        refine lv_icmp_eq (tgt := 71) hx hb dX3_fits_58 (by decide) (fun q_6 => ?_) (fun q_6 => ?_)
        · have _ := hx
          refine lv_iconst (v := 1) hx hb dX3_fits_71 (by decide) ?_
          refine lv_goto (tgt := 76) hx hb dX3_fits_72 (by decide) ?_
          exact z_zret hx hb hr hlocks hw dX3_fits_76 rfl (by first | (simp [gFits, q_1, q_4, q_5, q_6]; done) | (simp_all [gFits]; done)) rfl rfl
        · have _ := hx
          refine lv_iload_n hx hb dX3_fits_61 rfl (lv_at hl 1 rfl) ?_
          refine lv_iconst (v := 3) hx hb dX3_fits_62 (by decide) ?_
          refine lv_icmp_eq (tgt := 71) hx hb dX3_fits_63 (by decide) (fun q_7 => ?_) (fun q_7 => ?_)
          · have _ := hx
            refine lv_iconst (v := 1) hx hb dX3_fits_71 (by decide) ?_
            refine lv_goto (tgt := 76) hx hb dX3_fits_72 (by decide) ?_
            exact z_zret hx hb hr hlocks hw dX3_fits_76 rfl (by first | (simp [gFits, q_1, q_4, q_5, q_6, q_7]; done) | (simp_all [gFits]; done)) rfl rfl
          · have _ := hx
            refine lv_iload_n hx hb dX3_fits_66 rfl (lv_at hl 1 rfl) ?_
            refine lv_iconst (v := 4) hx hb dX3_fits_67 (by decide) ?_
            refine lv_icmp_ne (tgt := 75) hx hb dX3_fits_68 (by decide) (fun q_8 => ?_) (fun q_8 => ?_)
            · have _ := hx
              refine lv_iconst (v := 0) hx hb dX3_fits_75 (by decide) ?_
              exact z_zret hx hb hr hlocks hw dX3_fits_76 rfl (by first | (simp [gFits, q_1, q_4, q_5, q_6, q_7, q_8]; done) | (simp_all [gFits]; done)) rfl rfl
            · have _ := hx
              refine lv_iconst (v := 1) hx hb dX3_fits_71 (by decide) ?_
              refine lv_goto (tgt := 76) hx hb dX3_fits_72 (by decide) ?_
              exact z_zret hx hb hr hlocks hw dX3_fits_76 rfl (by first | (simp [gFits, q_1, q_4, q_5, q_6, q_7, q_8]; done) | (simp_all [gFits]; done)) rfl rfl
      by_cases q_9 : k = 1
      · have _ := hx
        refine lv_tableIn (tgt := 77) hx hb dX3_fits_27 (by rw [q_9]; decide) (by rw [q_9]; decide) (by rw [q_9]; rfl) (by decide) ?_
        refine lv_iload_n hx hb dX3_fits_77 rfl (lv_at hl 1 rfl) ?_
        refine lv_iconst (v := 3) hx hb dX3_fits_78 (by decide) ?_
        refine lv_icmp_eq (tgt := 87) hx hb dX3_fits_79 (by decide) (fun q_10 => ?_) (fun q_10 => ?_)
        · have _ := hx
          refine lv_iconst (v := 1) hx hb dX3_fits_87 (by decide) ?_
          refine lv_goto (tgt := 92) hx hb dX3_fits_88 (by decide) ?_
          exact z_zret hx hb hr hlocks hw dX3_fits_92 rfl (by first | (simp [gFits, q_1, q_4, q_5, q_9, q_10]; done) | (simp_all [gFits]; done)) rfl rfl
        · have _ := hx
          refine lv_iload_n hx hb dX3_fits_82 rfl (lv_at hl 1 rfl) ?_
          refine lv_iconst (v := 4) hx hb dX3_fits_83 (by decide) ?_
          refine lv_icmp_ne (tgt := 91) hx hb dX3_fits_84 (by decide) (fun q_11 => ?_) (fun q_11 => ?_)
          · have _ := hx
            refine lv_iconst (v := 0) hx hb dX3_fits_91 (by decide) ?_
            exact z_zret hx hb hr hlocks hw dX3_fits_92 rfl (by first | (simp [gFits, q_1, q_4, q_5, q_9, q_10, q_11]; done) | (simp_all [gFits]; done)) rfl rfl
          · have _ := hx
            refine lv_iconst (v := 1) hx hb dX3_fits_87 (by decide) ?_
            refine lv_goto (tgt := 92) hx hb dX3_fits_88 (by decide) ?_
            exact z_zret hx hb hr hlocks hw dX3_fits_92 rfl (by first | (simp [gFits, q_1, q_4, q_5, q_9, q_10, q_11]; done) | (simp_all [gFits]; done)) rfl rfl
      by_cases q_12 : k = 2
      · have _ := hx
        refine lv_tableIn (tgt := 77) hx hb dX3_fits_27 (by rw [q_12]; decide) (by rw [q_12]; decide) (by rw [q_12]; rfl) (by decide) ?_
        refine lv_iload_n hx hb dX3_fits_77 rfl (lv_at hl 1 rfl) ?_
        refine lv_iconst (v := 3) hx hb dX3_fits_78 (by decide) ?_
        refine lv_icmp_eq (tgt := 87) hx hb dX3_fits_79 (by decide) (fun q_13 => ?_) (fun q_13 => ?_)
        · have _ := hx
          refine lv_iconst (v := 1) hx hb dX3_fits_87 (by decide) ?_
          refine lv_goto (tgt := 92) hx hb dX3_fits_88 (by decide) ?_
          exact z_zret hx hb hr hlocks hw dX3_fits_92 rfl (by first | (simp [gFits, q_1, q_4, q_5, q_9, q_12, q_13]; done) | (simp_all [gFits]; done)) rfl rfl
        · have _ := hx
          refine lv_iload_n hx hb dX3_fits_82 rfl (lv_at hl 1 rfl) ?_
          refine lv_iconst (v := 4) hx hb dX3_fits_83 (by decide) ?_
          refine lv_icmp_ne (tgt := 91) hx hb dX3_fits_84 (by decide) (fun q_14 => ?_) (fun q_14 => ?_)
          · have _ := hx
            refine lv_iconst (v := 0) hx hb dX3_fits_91 (by decide) ?_
            exact z_zret hx hb hr hlocks hw dX3_fits_92 rfl (by first | (simp [gFits, q_1, q_4, q_5, q_9, q_12, q_13, q_14]; done) | (simp_all [gFits]; done)) rfl rfl
          · have _ := hx
            refine lv_iconst (v := 1) hx hb dX3_fits_87 (by decide) ?_
            refine lv_goto (tgt := 92) hx hb dX3_fits_88 (by decide) ?_
            exact z_zret hx hb hr hlocks hw dX3_fits_92 rfl (by first | (simp [gFits, q_1, q_4, q_5, q_9, q_12, q_13, q_14]; done) | (simp_all [gFits]; done)) rfl rfl
      by_cases q_15 : k = 3
      · have _ := hx
        refine lv_tableIn (tgt := 93) hx hb dX3_fits_27 (by rw [q_15]; decide) (by rw [q_15]; decide) (by rw [q_15]; rfl) (by decide) ?_
        refine lv_iload_n hx hb dX3_fits_93 rfl (lv_at hl 1 rfl) ?_
        refine lv_iconst (v := 4) hx hb dX3_fits_94 (by decide) ?_
        refine lv_icmp_ne (tgt := 102) hx hb dX3_fits_95 (by decide) (fun q_16 => ?_) (fun q_16 => ?_)
        · have _ := hx
          refine lv_iconst (v := 0) hx hb dX3_fits_102 (by decide) ?_
          exact z_zret hx hb hr hlocks hw dX3_fits_103 rfl (by first | (simp [gFits, q_1, q_4, q_5, q_9, q_12, q_15, q_16]; done) | (simp_all [gFits]; done)) rfl rfl
        · have _ := hx
          refine lv_iconst (v := 1) hx hb dX3_fits_98 (by decide) ?_
          refine lv_goto (tgt := 103) hx hb dX3_fits_99 (by decide) ?_
          exact z_zret hx hb hr hlocks hw dX3_fits_103 rfl (by first | (simp [gFits, q_1, q_4, q_5, q_9, q_12, q_15, q_16]; done) | (simp_all [gFits]; done)) rfl rfl
      refine lv_tableOut (tgt := 104) hx hb dX3_fits_27 (tb_out [0, 1, 2, 3] 0 3 (by decide +kernel) (by simp [q_5, q_9, q_12, q_15])) (by decide) ?_
      refine lv_iconst (v := 0) hx hb dX3_fits_104 (by decide) ?_
      exact z_zret hx hb hr hlocks hw dX3_fits_105 rfl (by first | (simp [gFits, q_1, q_4, q_5, q_9, q_12, q_15]; done) | (simp_all [gFits]; done)) rfl rfl
    · have _ := hx
      refine lv_iload_n hx hb dX3_fits_9 rfl (lv_at hl 0 rfl) ?_
      refine lv_iload_n hx hb dX3_fits_10 rfl (lv_at hl 1 rfl) ?_
      refine lv_icmp_eq (tgt := 20) hx hb dX3_fits_11 (by decide) (fun q_17 => ?_) (fun q_17 => ?_)
      · have _ := hx
        refine lv_iconst (v := 1) hx hb dX3_fits_20 (by decide) ?_
        refine lv_goto (tgt := 25) hx hb dX3_fits_21 (by decide) ?_
        exact z_zret hx hb hr hlocks hw dX3_fits_25 rfl (by first | (simp [gFits, q_1, q_4, q_17]; done) | (simp_all [gFits]; done)) rfl rfl
      · have _ := hx
        refine lv_iload_n hx hb dX3_fits_14 rfl (lv_at hl 1 rfl) ?_
        refine lv_bipush (v := 6) hx hb dX3_fits_15 (by decide) ?_
        refine lv_icmp_ne (tgt := 24) hx hb dX3_fits_17 (by decide) (fun q_18 => ?_) (fun q_18 => ?_)
        · have _ := hx
          refine lv_iconst (v := 0) hx hb dX3_fits_24 (by decide) ?_
          exact z_zret hx hb hr hlocks hw dX3_fits_25 rfl (by first | (simp [gFits, q_1, q_4, q_17, q_18]; done) | (simp_all [gFits]; done)) rfl rfl
        · have _ := hx
          refine lv_iconst (v := 1) hx hb dX3_fits_20 (by decide) ?_
          refine lv_goto (tgt := 25) hx hb dX3_fits_21 (by decide) ?_
          exact z_zret hx hb hr hlocks hw dX3_fits_25 rfl (by first | (simp [gFits, q_1, q_4, q_17, q_18]; done) | (simp_all [gFits]; done)) rfl rfl
set_option maxHeartbeats 4000000 in
set_option maxRecDepth 100000 in
theorem k_X3_laying (l : Launch) (E : zE) (c : zC) (mo : zM) (d : Int32) (i : Int32) (k : Int32) (hd : vp_in d 8) (hwm : wfM mo) : Met l yX3_laying wsX3_laying (zR 2 48) (zP E c mo [.ref (zl E 32), .int d, .int i, .int k]) (cQi E (gLay mo d i k) c mo) 0 0 (zA E) := by
  refine z_ent (cc := cX3_laying) (maxL := 5) (ret := (some .int)) (vs := [.ref (zl E 32), .int d, .int i, .int k]) (by decide) rfl (Nat.le_of_ble_eq_true rfl) ?_
  intro p e s m below meth cd ls hx hb hr hml hown hts hlocks hl hw
  have hl : lv_has ls 5 [(0, .ref (zl E 32)), (1, .int d), (2, .int i), (3, .int k)] := hl
  have hown : s.vm.findClass RX3 = some m.cls := hown
  have hin3 : ∀ w ∈ u_ws RX3 TX3 18, w ∈ wsX3_laying := by decide +kernel
  refine lv_aload_n hx hb dX3_laying_0 rfl (lv_at hl 0 rfl) ?_
  refine lv_iload_n hx hb dX3_laying_1 rfl (lv_at hl 1 rfl) ?_
  refine lv_iload_n hx hb dX3_laying_2 rfl (lv_at hl 2 rfl) ?_
  refine z_calli (rest := []) (va_runV (As := [.int d, .int i]) (rest := []) ⟨hx, hb, hml, hown, hts⟩ (k_X3_come l E c mo d i (by assumption) (by assumption)) (cwV 2 hts gX3_laying_X3_come rfl rfl rfl (by decide +kernel) ⟨Nat.le_of_ble_eq_true rfl, Nat.le_of_ble_eq_true rfl⟩) (z_preV hw (by decide) zG_32 rfl [.int d, .int i]) rfl rfl hl.1 rfl (lv_room (Nat.le_of_ble_eq_true rfl)) dX3_laying_3 ⟨Nat.le_of_ble_eq_true rfl, Nat.le_of_ble_eq_true rfl⟩) hw (fun H locs hw => ?_)
  refine lv_istore (lv' := [(4, .int (gCome mo d i)), (0, .ref (zl E 32)), (1, .int d), (2, .int i), (3, .int k)]) hx hb dX3_laying_6 hl (by decide) rfl (fun ls hl => ?_)
  refine lv_iload hx hb dX3_laying_8 (lv_at hl 0 rfl) ?_
  refine lv_if_le (tgt := 18) hx hb dX3_laying_10 (by decide) (fun q_1 => ?_) (fun q_1 => ?_)
  · have _ := hx
    refine lv_iload_n hx hb dX3_laying_18 rfl (lv_at hl 4 rfl) ?_
    refine lv_aload_n hx hb dX3_laying_19 rfl (lv_at hl 1 rfl) ?_
    refine z_get (i := 32) hx hb hts hin3 hown hw (by decide) zG_32 rfl 4 (by decide) (hts (.fieldLink RX3 19 "SeedDrawersModel" "kindOf" "[I") (by decide +kernel)) rfl rfl dX3_laying_20 ?_
    refine lv_aload_n hx hb dX3_laying_23 rfl (lv_at hl 1 rfl) ?_
    refine z_get (i := 32) hx hb hts hin3 hown hw (by decide) zG_32 rfl 2 (by decide) (hts (.fieldLink RX3 16 "SeedDrawersModel" "rowOf" "[I") (by decide +kernel)) rfl rfl dX3_laying_24 ?_
    refine lv_iload_n hx hb dX3_laying_27 rfl (lv_at hl 2 rfl) ?_
    refine y_iald (i := 35) hx hb hw (by decide) (zG_9 (i := 35) (by decide)) (by assumption) (k := d.toNatClampNeg) rfl dX3_laying_28 ?_
    refine y_iald (i := 36) hx hb hw (by decide) (zG_9 (i := 36) (by decide)) (wfM_r hwm (by assumption)) (k := (mo.1 35 d.toNatClampNeg).toNatClampNeg) rfl dX3_laying_29 ?_
    refine z_calli (rest := []) (va_runS (As := [.int k, .int (mo.1 36 ((mo.1 35 d.toNatClampNeg).toNatClampNeg))]) (rest := []) ⟨hx, hb, hml, hown, hts⟩ (k_X3_fits l E c mo k (mo.1 36 ((mo.1 35 d.toNatClampNeg).toNatClampNeg)) ) (va_cwS 2 hts gX3_laying_X3_fits rfl rfl rfl (by decide +kernel) ⟨Nat.le_of_ble_eq_true rfl, Nat.le_of_ble_eq_true rfl⟩) (z_preS hw [.int k, .int (mo.1 36 ((mo.1 35 d.toNatClampNeg).toNatClampNeg))]) rfl rfl hl.1 rfl (lv_room (Nat.le_of_ble_eq_true rfl)) dX3_laying_30 ⟨Nat.le_of_ble_eq_true rfl, Nat.le_of_ble_eq_true rfl⟩) hw (fun H locs hw => ?_)
    refine lv_if_eq (tgt := 40) hx hb dX3_laying_33 (by decide) (fun q_2 => ?_) (fun q_2 => ?_)
    · have _ := hx
      refine lv_iconst (v := 4) hx hb dX3_laying_40 (by decide) ?_
      exact z_iret hx hb hr hlocks hw dX3_laying_41 (by first | (simp [gLay, q_1, q_2]; done) | (simp_all [gLay]; done)) rfl rfl
    · have _ := hx
      refine lv_iconst (v := 0) hx hb dX3_laying_36 (by decide) ?_
      refine lv_goto (tgt := 41) hx hb dX3_laying_37 (by decide) ?_
      exact z_iret hx hb hr hlocks hw dX3_laying_41 (by first | (simp [gLay, q_1, q_2]; done) | (simp_all [gLay]; done)) rfl rfl
  · have _ := hx
    refine lv_iload hx hb dX3_laying_13 (lv_at hl 0 rfl) ?_
    refine lv_goto (tgt := 41) hx hb dX3_laying_15 (by decide) ?_
    exact z_iret hx hb hr hlocks hw dX3_laying_41 (by first | (simp [gLay, q_1]; done) | (simp_all [gLay]; done)) rfl rfl
set_option maxHeartbeats 4000000 in
set_option maxRecDepth 100000 in
theorem k_X3_kindAt (l : Launch) (E : zE) (c : zC) (mo : zM) (d : Int32) (i : Int32) (hd : vp_in d 8) (hi : vp_in i 12) (hwm : wfM mo) : Met l yX3_kindAt wsX3_kindAt (zR 2 44) (zP E c mo [.ref (zl E 32), .int d, .int i]) (cQi E (gKind mo d i) c mo) 0 0 (zA E) := by
  refine z_ent (cc := cX3_kindAt) (maxL := 3) (ret := (some .int)) (vs := [.ref (zl E 32), .int d, .int i]) (by decide) rfl (Nat.le_of_ble_eq_true rfl) ?_
  intro p e s m below meth cd ls hx hb hr hml hown hts hlocks hl hw
  have hl : lv_has ls 3 [(0, .ref (zl E 32)), (1, .int d), (2, .int i)] := hl
  have hown : s.vm.findClass RX3 = some m.cls := hown
  have hin3 : ∀ w ∈ u_ws RX3 TX3 18, w ∈ wsX3_kindAt := by decide +kernel
  refine lv_aload_n hx hb dX3_kindAt_0 rfl (lv_at hl 0 rfl) ?_
  refine lv_iload_n hx hb dX3_kindAt_1 rfl (lv_at hl 1 rfl) ?_
  refine lv_iload_n hx hb dX3_kindAt_2 rfl (lv_at hl 2 rfl) ?_
  refine z_calli (rest := []) (va_runV (As := [.int d, .int i]) (rest := []) ⟨hx, hb, hml, hown, hts⟩ (k_X3_isEmpty l E c mo d i (by assumption) (by assumption) (by assumption)) (cwV 2 hts gX3_kindAt_X3_isEmpty rfl rfl rfl (by decide +kernel) ⟨Nat.le_of_ble_eq_true rfl, Nat.le_of_ble_eq_true rfl⟩) (z_preV hw (by decide) zG_32 rfl [.int d, .int i]) rfl rfl hl.1 rfl (lv_room (Nat.le_of_ble_eq_true rfl)) dX3_kindAt_3 ⟨Nat.le_of_ble_eq_true rfl, Nat.le_of_ble_eq_true rfl⟩) hw (fun H locs hw => ?_)
  refine lv_if_eq (tgt := 13) hx hb dX3_kindAt_6 (by decide) (fun q_1 => ?_) (fun q_1 => ?_)
  · have _ := hx
    refine lv_aload_n hx hb dX3_kindAt_13 rfl (lv_at hl 0 rfl) ?_
    refine z_get (i := 32) hx hb hts hin3 hown hw (by decide) zG_32 rfl 4 (by decide) (hts (.fieldLink RX3 19 "SeedDrawersModel" "kindOf" "[I") (by decide +kernel)) rfl rfl dX3_kindAt_14 ?_
    refine lv_aload_n hx hb dX3_kindAt_17 rfl (lv_at hl 0 rfl) ?_
    refine z_get (i := 32) hx hb hts hin3 hown hw (by decide) zG_32 rfl 2 (by decide) (hts (.fieldLink RX3 16 "SeedDrawersModel" "rowOf" "[I") (by decide +kernel)) rfl rfl dX3_kindAt_18 ?_
    refine lv_iload_n hx hb dX3_kindAt_21 rfl (lv_at hl 1 rfl) ?_
    refine y_iald (i := 35) hx hb hw (by decide) (zG_9 (i := 35) (by decide)) (by assumption) (k := d.toNatClampNeg) rfl dX3_kindAt_22 ?_
    refine y_iald (i := 36) hx hb hw (by decide) (zG_9 (i := 36) (by decide)) (wfM_r hwm (by assumption)) (k := (mo.1 35 d.toNatClampNeg).toNatClampNeg) rfl dX3_kindAt_23 ?_
    exact z_iret hx hb hr hlocks hw dX3_kindAt_24 (by first | (simp [gKind, q_1]; done) | (simp_all [gKind]; done)) rfl rfl
  · have _ := hx
    refine lv_iconst (v := (-1)) hx hb dX3_kindAt_9 (by decide) ?_
    refine lv_goto (tgt := 24) hx hb dX3_kindAt_10 (by decide) ?_
    exact z_iret hx hb hr hlocks hw dX3_kindAt_24 (by first | (simp [gKind, q_1]; done) | (simp_all [gKind]; done)) rfl rfl
set_option maxHeartbeats 4000000 in
set_option maxRecDepth 100000 in
theorem k_X3_hand (l : Launch) (E : zE) (c : zC) (mo : zM)   : Met l yX3_hand wsX3_hand (zR 0 0) (zP E c mo [.ref (zl E 32)]) (cQi E (gHand mo) c mo) 0 0 (zA E) := by
  refine z_ent (cc := cX3_hand) (maxL := 1) (ret := (some .int)) (vs := [.ref (zl E 32)]) (by decide) rfl (Nat.le_of_ble_eq_true rfl) ?_
  intro p e s m below meth cd ls hx hb hr hml hown hts hlocks hl hw
  have hl : lv_has ls 1 [(0, .ref (zl E 32))] := hl
  have hown : s.vm.findClass RX3 = some m.cls := hown
  have hin3 : ∀ w ∈ u_ws RX3 TX3 18, w ∈ wsX3_hand := by decide +kernel
  refine lv_aload_n hx hb dX3_hand_0 rfl (lv_at hl 0 rfl) ?_
  refine z_get (i := 32) hx hb hts hin3 hown hw (by decide) zG_32 rfl 7 (by decide) (hts (.fieldLink RX3 66 "SeedDrawersModel" "holds" "Z") (by decide +kernel)) rfl rfl dX3_hand_1 ?_
  refine lv_if_eq (tgt := 14) hx hb dX3_hand_4 (by decide) (fun q_1 => ?_) (fun q_1 => ?_)
  · have _ := hx
    refine lv_bipush (v := (-9)) hx hb dX3_hand_14 (by decide) ?_
    exact z_iret hx hb hr hlocks hw dX3_hand_16 (by first | (simp [gHand, q_1]; done) | (simp_all [gHand]; done)) rfl rfl
  · have _ := hx
    refine lv_aload_n hx hb dX3_hand_7 rfl (lv_at hl 0 rfl) ?_
    refine z_get (i := 32) hx hb hts hin3 hown hw (by decide) zG_32 rfl 8 (by decide) (hts (.fieldLink RX3 70 "SeedDrawersModel" "handKind" "I") (by decide +kernel)) rfl rfl dX3_hand_8 ?_
    refine lv_goto (tgt := 16) hx hb dX3_hand_11 (by decide) ?_
    exact z_iret hx hb hr hlocks hw dX3_hand_16 (by first | (simp [gHand, q_1]; done) | (simp_all [gHand]; done)) rfl rfl
set_option maxHeartbeats 4000000 in
set_option maxRecDepth 100000 in
theorem k_X3_drop (l : Launch) (E : zE) (c : zC) (mo : zM)   : Met l yX3_drop wsX3_drop (zR 1 20) (zP E c mo [.ref (zl E 32)]) (cQi E (gHand mo) c (tI mo 32 7 0)) 0 0 (zA E) := by
  refine z_ent (cc := cX3_drop) (maxL := 2) (ret := (some .int)) (vs := [.ref (zl E 32)]) (by decide) rfl (Nat.le_of_ble_eq_true rfl) ?_
  intro p e s m below meth cd ls hx hb hr hml hown hts hlocks hl hw
  have hl : lv_has ls 2 [(0, .ref (zl E 32))] := hl
  have hown : s.vm.findClass RX3 = some m.cls := hown
  have hin3 : ∀ w ∈ u_ws RX3 TX3 18, w ∈ wsX3_drop := by decide +kernel
  refine lv_aload_n hx hb dX3_drop_0 rfl (lv_at hl 0 rfl) ?_
  refine z_calli (rest := []) (va_runV (As := []) (rest := []) ⟨hx, hb, hml, hown, hts⟩ (k_X3_hand l E c mo  ) (cwV 0 hts gX3_drop_X3_hand rfl rfl rfl (by decide +kernel) ⟨Nat.le_of_ble_eq_true rfl, Nat.le_of_ble_eq_true rfl⟩) (z_preV hw (by decide) zG_32 rfl []) rfl rfl hl.1 rfl (lv_room (Nat.le_of_ble_eq_true rfl)) dX3_drop_1 ⟨Nat.le_of_ble_eq_true rfl, Nat.le_of_ble_eq_true rfl⟩) hw (fun H locs hw => ?_)
  refine lv_istore_n (lv' := [(1, .int (gHand mo)), (0, .ref (zl E 32))]) hx hb dX3_drop_4 rfl hl (by decide) rfl (fun ls hl => ?_)
  refine lv_aload_n hx hb dX3_drop_5 rfl (lv_at hl 1 rfl) ?_
  refine lv_iconst (v := 0) hx hb dX3_drop_6 (by decide) ?_
  refine z_put (i := 32) (ty := .boolean) hx hb hts hin3 tyX3 tyX3_ok nmX3 hown hw (by decide) zG_32 rfl 7 (by decide) (hts (.fieldLink RX3 66 "SeedDrawersModel" "holds" "Z") (by decide +kernel)) rfl rfl (by decide +kernel) rfl rfl (Nat.le_of_ble_eq_true rfl) (zU32_7 E c mo 0) dX3_drop_7 (fun H locs hw => ?_)
  refine lv_iload_n hx hb dX3_drop_10 rfl (lv_at hl 0 rfl) ?_
  exact z_iret hx hb hr hlocks hw dX3_drop_11 (by rfl) rfl (by rfl)
set_option maxHeartbeats 4000000 in
set_option maxRecDepth 100000 in
theorem k_X3_value (l : Launch) (E : zE) (c : zC) (mo : zM)   : Met l yX3_value wsX3_value (zR 0 0) (zP E c mo [.ref (zl E 32)]) (cQl E (hValue mo) c mo) 0 0 (zA E) := by
  refine z_ent (cc := cX3_value) (maxL := 1) (ret := (some .long)) (vs := [.ref (zl E 32)]) (by decide) rfl (Nat.le_of_ble_eq_true rfl) ?_
  intro p e s m below meth cd ls hx hb hr hml hown hts hlocks hl hw
  have hl : lv_has ls 1 [(0, .ref (zl E 32))] := hl
  have hown : s.vm.findClass RX3 = some m.cls := hown
  have hin3 : ∀ w ∈ u_ws RX3 TX3 18, w ∈ wsX3_value := by decide +kernel
  refine lv_aload_n hx hb dX3_value_0 rfl (lv_at hl 0 rfl) ?_
  refine z_get (i := 32) hx hb hts hin3 hown hw (by decide) zG_32 rfl 7 (by decide) (hts (.fieldLink RX3 66 "SeedDrawersModel" "holds" "Z") (by decide +kernel)) rfl rfl dX3_value_1 ?_
  refine lv_if_eq (tgt := 14) hx hb dX3_value_4 (by decide) (fun q_1 => ?_) (fun q_1 => ?_)
  · have _ := hx
    refine lv_lconst (v := 0) hx hb dX3_value_14 (by decide) ?_
    exact z_lret hx hb hr hlocks hw dX3_value_15 (by first | (simp [hValue, q_1]; done) | (simp_all [hValue]; done)) rfl rfl
  · have _ := hx
    refine lv_aload_n hx hb dX3_value_7 rfl (lv_at hl 0 rfl) ?_
    refine z_get (i := 32) hx hb hts hin3 hown hw (by decide) zG_32 rfl 9 (by decide) (hts (.fieldLink RX3 73 "SeedDrawersModel" "handValue" "J") (by decide +kernel)) rfl rfl dX3_value_8 ?_
    refine lv_goto (tgt := 15) hx hb dX3_value_11 (by decide) ?_
    exact z_lret hx hb hr hlocks hw dX3_value_15 (by first | (simp [hValue, q_1]; done) | (simp_all [hValue]; done)) rfl rfl
set_option maxHeartbeats 4000000 in
set_option maxRecDepth 100000 in
theorem k_X3_fault (l : Launch) (E : zE) (c : zC) (mo : zM)   : Met l yX3_fault wsX3_fault (zR 0 0) (zP E c mo [.ref (zl E 32)]) (cQi E (mo.1 32 11) c mo) 0 0 (zA E) := by
  refine z_ent (cc := cX3_fault) (maxL := 1) (ret := (some .int)) (vs := [.ref (zl E 32)]) (by decide) rfl (Nat.le_of_ble_eq_true rfl) ?_
  intro p e s m below meth cd ls hx hb hr hml hown hts hlocks hl hw
  have hl : lv_has ls 1 [(0, .ref (zl E 32))] := hl
  have hown : s.vm.findClass RX3 = some m.cls := hown
  have hin3 : ∀ w ∈ u_ws RX3 TX3 18, w ∈ wsX3_fault := by decide +kernel
  refine lv_aload_n hx hb dX3_fault_0 rfl (lv_at hl 0 rfl) ?_
  refine z_get (i := 32) hx hb hts hin3 hown hw (by decide) zG_32 rfl 11 (by decide) (hts (.fieldLink RX3 45 "SeedDrawersModel" "fault" "I") (by decide +kernel)) rfl rfl dX3_fault_1 ?_
  exact z_iret hx hb hr hlocks hw dX3_fault_4 (by rfl) rfl rfl
set_option maxHeartbeats 4000000 in
set_option maxRecDepth 100000 in
theorem k_X3_taking (l : Launch) (E : zE) (c : zC) (mo : zM) (d : Int32) (i : Int32) (hd : vp_in d 8) (hwm : wfM mo) : Met l yX3_taking wsX3_taking (zR 2 48) (zP E c mo [.ref (zl E 32), .int d, .int i]) (cQi E (gCome mo d i) c (gTak mo d i)) 0 0 (zA E) := by
  refine z_ent (cc := cX3_taking) (maxL := 4) (ret := (some .int)) (vs := [.ref (zl E 32), .int d, .int i]) (by decide) rfl (Nat.le_of_ble_eq_true rfl) ?_
  intro p e s m below meth cd ls hx hb hr hml hown hts hlocks hl hw
  have hl : lv_has ls 4 [(0, .ref (zl E 32)), (1, .int d), (2, .int i)] := hl
  have hown : s.vm.findClass RX3 = some m.cls := hown
  have hin3 : ∀ w ∈ u_ws RX3 TX3 18, w ∈ wsX3_taking := by decide +kernel
  refine lv_aload_n hx hb dX3_taking_0 rfl (lv_at hl 0 rfl) ?_
  refine lv_iload_n hx hb dX3_taking_1 rfl (lv_at hl 1 rfl) ?_
  refine lv_iload_n hx hb dX3_taking_2 rfl (lv_at hl 2 rfl) ?_
  refine z_calli (rest := []) (va_runV (As := [.int d, .int i]) (rest := []) ⟨hx, hb, hml, hown, hts⟩ (k_X3_come l E c mo d i (by assumption) (by assumption)) (cwV 2 hts gX3_taking_X3_come rfl rfl rfl (by decide +kernel) ⟨Nat.le_of_ble_eq_true rfl, Nat.le_of_ble_eq_true rfl⟩) (z_preV hw (by decide) zG_32 rfl [.int d, .int i]) rfl rfl hl.1 rfl (lv_room (Nat.le_of_ble_eq_true rfl)) dX3_taking_3 ⟨Nat.le_of_ble_eq_true rfl, Nat.le_of_ble_eq_true rfl⟩) hw (fun H locs hw => ?_)
  refine lv_istore_n (lv' := [(3, .int (gCome mo d i)), (0, .ref (zl E 32)), (1, .int d), (2, .int i)]) hx hb dX3_taking_6 rfl hl (by decide) rfl (fun ls hl => ?_)
  refine lv_iload_n hx hb dX3_taking_7 rfl (lv_at hl 0 rfl) ?_
  refine lv_if_ne (tgt := 59) hx hb dX3_taking_8 (by decide) (fun q_1 => ?_) (fun q_1 => ?_)
  · have _ := hx
    refine lv_iload_n hx hb dX3_taking_59 rfl (lv_at hl 0 rfl) ?_
    exact z_iret hx hb hr hlocks hw dX3_taking_60 (by rfl) rfl (by simp [gTak, q_1, gAt, tI_r, tI_2])
  · have _ := hx
    refine lv_aload_n hx hb dX3_taking_11 rfl (lv_at hl 1 rfl) ?_
    refine lv_aload_n hx hb dX3_taking_12 rfl (lv_at hl 1 rfl) ?_
    refine lv_iload_n hx hb dX3_taking_13 rfl (lv_at hl 2 rfl) ?_
    refine lv_iload_n hx hb dX3_taking_14 rfl (lv_at hl 3 rfl) ?_
    refine z_calli (rest := [.ref (zl E 32)]) (va_runV (As := [.int d, .int i]) (rest := [.ref (zl E 32)]) ⟨hx, hb, hml, hown, hts⟩ (k_X3_isEmpty l E c mo d i hd (gCome_in (le0 (by assumption)) hwm hd) hwm) (cwV 2 hts gX3_taking_X3_isEmpty rfl rfl rfl (by decide +kernel) ⟨Nat.le_of_ble_eq_true rfl, Nat.le_of_ble_eq_true rfl⟩) (z_preV hw (by decide) zG_32 rfl [.int d, .int i]) rfl rfl hl.1 rfl (lv_room (Nat.le_of_ble_eq_true rfl)) dX3_taking_15 ⟨Nat.le_of_ble_eq_true rfl, Nat.le_of_ble_eq_true rfl⟩) hw (fun H locs hw => ?_)
    refine lv_if_ne (tgt := 25) hx hb dX3_taking_18 (by decide) (fun q_2 => ?_) (fun q_2 => ?_)
    · have _ := hx
      refine lv_iconst (v := 0) hx hb dX3_taking_25 (by decide) ?_
      refine z_put (i := 32) (ty := .boolean) hx hb hts hin3 tyX3 tyX3_ok nmX3 hown hw (by decide) zG_32 rfl 7 (by decide) (hts (.fieldLink RX3 66 "SeedDrawersModel" "holds" "Z") (by decide +kernel)) rfl rfl (by decide +kernel) rfl rfl (Nat.le_of_ble_eq_true rfl) (zU32_7 E c mo 0) dX3_taking_26 (fun H locs hw => ?_)
      refine lv_aload_n hx hb dX3_taking_29 rfl (lv_at hl 1 rfl) ?_
      refine lv_aload_n hx hb dX3_taking_30 rfl (lv_at hl 1 rfl) ?_
      refine z_get (i := 32) hx hb hts hin3 hown hw (by decide) zG_32 rfl 4 (by decide) (hts (.fieldLink RX3 19 "SeedDrawersModel" "kindOf" "[I") (by decide +kernel)) rfl rfl dX3_taking_31 ?_
      refine lv_aload_n hx hb dX3_taking_34 rfl (lv_at hl 1 rfl) ?_
      refine z_get (i := 32) hx hb hts hin3 hown hw (by decide) zG_32 rfl 2 (by decide) (hts (.fieldLink RX3 16 "SeedDrawersModel" "rowOf" "[I") (by decide +kernel)) rfl rfl dX3_taking_35 ?_
      refine lv_iload_n hx hb dX3_taking_38 rfl (lv_at hl 2 rfl) ?_
      refine y_iald (i := 35) hx hb hw (by decide) (zG_9 (i := 35) (by decide)) hd (k := d.toNatClampNeg) rfl dX3_taking_39 ?_
      refine y_iald (i := 36) hx hb hw (by decide) (zG_9 (i := 36) (by decide)) (show vp_in (mo.1 35 d.toNatClampNeg) 5000 from wfM_r hwm hd) (k := ((tI mo 32 7 0).1 35 d.toNatClampNeg).toNatClampNeg) rfl dX3_taking_40 ?_
      refine z_put (i := 32) (ty := .int) hx hb hts hin3 tyX3 tyX3_ok nmX3 hown hw (by decide) zG_32 rfl 8 (by decide) (hts (.fieldLink RX3 70 "SeedDrawersModel" "handKind" "I") (by decide +kernel)) rfl rfl (by decide +kernel) rfl rfl (Nat.le_of_ble_eq_true rfl) (zU32_8 E c (tI mo 32 7 0) ((tI mo 32 7 0).1 36 (((tI mo 32 7 0).1 35 d.toNatClampNeg).toNatClampNeg))) dX3_taking_41 (fun H locs hw => ?_)
      refine lv_aload_n hx hb dX3_taking_44 rfl (lv_at hl 1 rfl) ?_
      refine lv_aload_n hx hb dX3_taking_45 rfl (lv_at hl 1 rfl) ?_
      refine z_get (i := 32) hx hb hts hin3 hown hw (by decide) zG_32 rfl 6 (by decide) (hts (.fieldLink RX3 26 "SeedDrawersModel" "place" "[J") (by decide +kernel)) rfl rfl dX3_taking_46 ?_
      refine lv_aload_n hx hb dX3_taking_49 rfl (lv_at hl 1 rfl) ?_
      refine lv_iload_n hx hb dX3_taking_50 rfl (lv_at hl 2 rfl) ?_
      refine lv_iload_n hx hb dX3_taking_51 rfl (lv_at hl 3 rfl) ?_
      refine z_calli (rest := [.ref (zl E 38), .ref (zl E 32)]) (va_runV (As := [.int d, .int i]) (rest := [.ref (zl E 38), .ref (zl E 32)]) ⟨hx, hb, hml, hown, hts⟩ (k_X3_at l E c (tI (tI mo 32 7 0) 32 8 ((tI mo 32 7 0).1 36 (((tI mo 32 7 0).1 35 d.toNatClampNeg).toNatClampNeg))) d i (by assumption)) (cwV 2 hts gX3_taking_X3_at rfl rfl rfl (by decide +kernel) ⟨Nat.le_of_ble_eq_true rfl, Nat.le_of_ble_eq_true rfl⟩) (z_preV hw (by decide) zG_32 rfl [.int d, .int i]) rfl rfl hl.1 rfl (lv_room (Nat.le_of_ble_eq_true rfl)) dX3_taking_52 ⟨Nat.le_of_ble_eq_true rfl, Nat.le_of_ble_eq_true rfl⟩) hw (fun H locs hw => ?_)
      refine y_lald (i := 38) hx hb hw (by decide) zG_38 (gAt_in (show vp_in (mo.1 35 d.toNatClampNeg) 5000 from wfM_r hwm hd) (gCome_in (le0 (by assumption)) hwm hd)) (k := (gAt (tI (tI mo 32 7 0) 32 8 ((tI mo 32 7 0).1 36 (((tI mo 32 7 0).1 35 d.toNatClampNeg).toNatClampNeg))) d i).toNatClampNeg) rfl dX3_taking_55 ?_
      refine z_put (i := 32) (ty := .long) hx hb hts hin3 tyX3 tyX3_ok nmX3 hown hw (by decide) zG_32 rfl 9 (by decide) (hts (.fieldLink RX3 73 "SeedDrawersModel" "handValue" "J") (by decide +kernel)) rfl rfl (by decide +kernel) rfl rfl (Nat.le_of_ble_eq_true rfl) (zU32_9 E c (tI (tI mo 32 7 0) 32 8 ((tI mo 32 7 0).1 36 (((tI mo 32 7 0).1 35 d.toNatClampNeg).toNatClampNeg))) ((tI (tI mo 32 7 0) 32 8 ((tI mo 32 7 0).1 36 (((tI mo 32 7 0).1 35 d.toNatClampNeg).toNatClampNeg))).2 38 ((gAt (tI (tI mo 32 7 0) 32 8 ((tI mo 32 7 0).1 36 (((tI mo 32 7 0).1 35 d.toNatClampNeg).toNatClampNeg))) d i).toNatClampNeg))) dX3_taking_56 (fun H locs hw => ?_)
      refine lv_iload_n hx hb dX3_taking_59 rfl (lv_at hl 0 rfl) ?_
      exact z_iret hx hb hr hlocks hw dX3_taking_60 (by rfl) rfl (by simp [gTak, q_1, q_2, gAt, tI_r, tI_2])
    · have _ := hx
      refine lv_iconst (v := 1) hx hb dX3_taking_21 (by decide) ?_
      refine lv_goto (tgt := 26) hx hb dX3_taking_22 (by decide) ?_
      refine z_put (i := 32) (ty := .boolean) hx hb hts hin3 tyX3 tyX3_ok nmX3 hown hw (by decide) zG_32 rfl 7 (by decide) (hts (.fieldLink RX3 66 "SeedDrawersModel" "holds" "Z") (by decide +kernel)) rfl rfl (by decide +kernel) rfl rfl (Nat.le_of_ble_eq_true rfl) (zU32_7 E c mo 1) dX3_taking_26 (fun H locs hw => ?_)
      refine lv_aload_n hx hb dX3_taking_29 rfl (lv_at hl 1 rfl) ?_
      refine lv_aload_n hx hb dX3_taking_30 rfl (lv_at hl 1 rfl) ?_
      refine z_get (i := 32) hx hb hts hin3 hown hw (by decide) zG_32 rfl 4 (by decide) (hts (.fieldLink RX3 19 "SeedDrawersModel" "kindOf" "[I") (by decide +kernel)) rfl rfl dX3_taking_31 ?_
      refine lv_aload_n hx hb dX3_taking_34 rfl (lv_at hl 1 rfl) ?_
      refine z_get (i := 32) hx hb hts hin3 hown hw (by decide) zG_32 rfl 2 (by decide) (hts (.fieldLink RX3 16 "SeedDrawersModel" "rowOf" "[I") (by decide +kernel)) rfl rfl dX3_taking_35 ?_
      refine lv_iload_n hx hb dX3_taking_38 rfl (lv_at hl 2 rfl) ?_
      refine y_iald (i := 35) hx hb hw (by decide) (zG_9 (i := 35) (by decide)) hd (k := d.toNatClampNeg) rfl dX3_taking_39 ?_
      refine y_iald (i := 36) hx hb hw (by decide) (zG_9 (i := 36) (by decide)) (show vp_in (mo.1 35 d.toNatClampNeg) 5000 from wfM_r hwm hd) (k := ((tI mo 32 7 1).1 35 d.toNatClampNeg).toNatClampNeg) rfl dX3_taking_40 ?_
      refine z_put (i := 32) (ty := .int) hx hb hts hin3 tyX3 tyX3_ok nmX3 hown hw (by decide) zG_32 rfl 8 (by decide) (hts (.fieldLink RX3 70 "SeedDrawersModel" "handKind" "I") (by decide +kernel)) rfl rfl (by decide +kernel) rfl rfl (Nat.le_of_ble_eq_true rfl) (zU32_8 E c (tI mo 32 7 1) ((tI mo 32 7 1).1 36 (((tI mo 32 7 1).1 35 d.toNatClampNeg).toNatClampNeg))) dX3_taking_41 (fun H locs hw => ?_)
      refine lv_aload_n hx hb dX3_taking_44 rfl (lv_at hl 1 rfl) ?_
      refine lv_aload_n hx hb dX3_taking_45 rfl (lv_at hl 1 rfl) ?_
      refine z_get (i := 32) hx hb hts hin3 hown hw (by decide) zG_32 rfl 6 (by decide) (hts (.fieldLink RX3 26 "SeedDrawersModel" "place" "[J") (by decide +kernel)) rfl rfl dX3_taking_46 ?_
      refine lv_aload_n hx hb dX3_taking_49 rfl (lv_at hl 1 rfl) ?_
      refine lv_iload_n hx hb dX3_taking_50 rfl (lv_at hl 2 rfl) ?_
      refine lv_iload_n hx hb dX3_taking_51 rfl (lv_at hl 3 rfl) ?_
      refine z_calli (rest := [.ref (zl E 38), .ref (zl E 32)]) (va_runV (As := [.int d, .int i]) (rest := [.ref (zl E 38), .ref (zl E 32)]) ⟨hx, hb, hml, hown, hts⟩ (k_X3_at l E c (tI (tI mo 32 7 1) 32 8 ((tI mo 32 7 1).1 36 (((tI mo 32 7 1).1 35 d.toNatClampNeg).toNatClampNeg))) d i (by assumption)) (cwV 2 hts gX3_taking_X3_at rfl rfl rfl (by decide +kernel) ⟨Nat.le_of_ble_eq_true rfl, Nat.le_of_ble_eq_true rfl⟩) (z_preV hw (by decide) zG_32 rfl [.int d, .int i]) rfl rfl hl.1 rfl (lv_room (Nat.le_of_ble_eq_true rfl)) dX3_taking_52 ⟨Nat.le_of_ble_eq_true rfl, Nat.le_of_ble_eq_true rfl⟩) hw (fun H locs hw => ?_)
      refine y_lald (i := 38) hx hb hw (by decide) zG_38 (gAt_in (show vp_in (mo.1 35 d.toNatClampNeg) 5000 from wfM_r hwm hd) (gCome_in (le0 (by assumption)) hwm hd)) (k := (gAt (tI (tI mo 32 7 1) 32 8 ((tI mo 32 7 1).1 36 (((tI mo 32 7 1).1 35 d.toNatClampNeg).toNatClampNeg))) d i).toNatClampNeg) rfl dX3_taking_55 ?_
      refine z_put (i := 32) (ty := .long) hx hb hts hin3 tyX3 tyX3_ok nmX3 hown hw (by decide) zG_32 rfl 9 (by decide) (hts (.fieldLink RX3 73 "SeedDrawersModel" "handValue" "J") (by decide +kernel)) rfl rfl (by decide +kernel) rfl rfl (Nat.le_of_ble_eq_true rfl) (zU32_9 E c (tI (tI mo 32 7 1) 32 8 ((tI mo 32 7 1).1 36 (((tI mo 32 7 1).1 35 d.toNatClampNeg).toNatClampNeg))) ((tI (tI mo 32 7 1) 32 8 ((tI mo 32 7 1).1 36 (((tI mo 32 7 1).1 35 d.toNatClampNeg).toNatClampNeg))).2 38 ((gAt (tI (tI mo 32 7 1) 32 8 ((tI mo 32 7 1).1 36 (((tI mo 32 7 1).1 35 d.toNatClampNeg).toNatClampNeg))) d i).toNatClampNeg))) dX3_taking_56 (fun H locs hw => ?_)
      refine lv_iload_n hx hb dX3_taking_59 rfl (lv_at hl 0 rfl) ?_
      exact z_iret hx hb hr hlocks hw dX3_taking_60 (by rfl) rfl (by simp [gTak, q_1, q_2, gAt, tI_r, tI_2])
