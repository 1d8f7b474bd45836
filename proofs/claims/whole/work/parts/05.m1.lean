def fFits (k r : Int32) : Int32 := if k = -9 then (if r = 6 then 1 else 0) else if k = 0 then (if r = 0 then 1 else if r = 1 then 1 else if r = 3 then 1 else if r = 4 then 1 else 0) else if k = 1 then (if r = k then 1 else if r = 3 then 1 else if r = 4 then 1 else 0) else if k = 2 then (if r = k then 1 else if r = 3 then 1 else if r = 4 then 1 else 0) else if k = 3 then (if r = 3 then 1 else if r = 4 then 1 else 0) else (if r = k then 1 else 0)
def fLay (c : zC) (j : Nat) (i k : Int32) : Int32 := if fCome c j i = 0 then (if fFits k (c.1 j 0 - 2) = 0 then 4 else 0) else fCome c j i
def fKind (c : zC) (j : Nat) (i : Int32) : Int32 := if c.1 j 0 - 2 = 6 then (if lg_cmp (c.2.1 (j + 9) i.toNatClampNeg) 0 = 0 then -9 else c.1 j 0 - 2) else c.1 j 0 - 2
def fVok (k : Int32) (v : Int64) : Int64 := if k = 0 then v.toInt32.toInt8.toInt32.toInt64 else if k = 1 then v.toInt32.toInt16.toInt32.toInt64 else if k = 2 then (v.toInt32.toUInt32 % 65536).toInt32.toInt64 else if k = 3 then v.toInt32.toInt64 else if k = 5 then (if lg_cmp v 0 = 0 then (0 : Int32).toInt64 else (1 : Int32).toInt64) else v
def meet (c : zC) (f : Int32) : zC := sI (sI (sI c 0 10 f) 5 0 ((sI c 0 10 f).1 5 0 + 1)) 5 f.toNatClampNeg ((sI (sI c 0 10 f) 5 0 ((sI c 0 10 f).1 5 0 + 1)).1 5 f.toNatClampNeg + 1)
def bNote (c : zC) (j : Nat) (v : Int32) : zC := sI (sI c j 0 1) j 1 v
def zer (j : Nat) : Nat → Nat → zC → zC
  | 0, _, c => c
  | n + 1, k, c => zer j n (k + 1) (sJ c (j + 9) k 0)
def bRow (c : zC) (j : Nat) (k n : Int32) : zC := zer j 12 0 (sI (sI (sI c j 0 (2 + k)) j 1 0) j 2 n)
def pl (c : zC) (j : Nat) : Nat := (c.1 j 2).toNatClampNeg
def plOk (c : zC) (j : Nat) : Prop := pl c j ≤ 12 ∧ c.1 j 2 = nI (pl c j)
def revN (j n : Nat) : Nat → Nat → zC → zC
  | 0, _, c => c
  | m + 1, k, c => revN j n m (k + 1) (sJ (sJ c (j + 9) k (c.2.1 (j + 9) (n - 1 - k))) (j + 9) (n - 1 - k) (c.2.1 (j + 9) k))
def fRev (c : zC) (j : Nat) : zC := revN j (pl c j) (pl c j / 2) 0 c
def sumN (f : Nat → Int64) : Nat → Nat → Int64 → Int64
  | 0, _, a => a
  | n + 1, k, a => sumN f n (k + 1) (a + f k)
def fTot (c : zC) (j : Nat) : Int64 := sumN (c.2.1 (j + 9)) (pl c j) 0 0
def fplN (c : zC) (j : Nat) (kind : Int32) (v : Int64) : Nat → Nat → Int32
  | 0, _ => -9
  | n + 1, k => if fKind c j (nI k) = kind then (if lg_cmp (c.2.1 (j + 9) k) v = 0 then nI k else fplN c j kind v n (k + 1)) else fplN c j kind v n (k + 1)
def fFpl (c : zC) (j : Nat) (kind : Int32) (v : Int64) : Int32 := fplN c j kind v (pl c j) 0
def holN (D : Nat → Nat) (j : Nat) : Nat → Nat → Int32 → Int32
  | 0, _, a => a
  | n + 1, k, a => holN D j n (k + 1) (if D k = j then a + 1 else a)
def fHol (c : zC) (j : Nat) : Int32 := holN c.2.2 j 8 0 0
def freN (c : zC) : Nat → Nat → Nat → Nat
  | 0, _, f => f
  | n + 1, k, f => freN c n (k + 1) (if fHol c (7 + k) = 0 then 7 + k else f)
def nFree (c : zC) (d : Nat) : Nat := freN (sD c d 6) 7 1 7
def newC (c : zC) (d : Nat) : zC := sD (sD c d 6) d (nFree c d)
theorem freN_in (c : zC) : ∀ (n k f : Nat), kd f = 6 → k + n ≤ 8 → kd (freN c n k f) = 6
  | 0, _, f, h, _ => h
  | n + 1, k, f, h, hk => by
    unfold freN
    refine freN_in c n (k + 1) _ ?_ (by omega)
    split
    · exact kd6o (by omega) (by omega)
    · exact h
theorem nFree_in (c : zC) (d : Nat) : kd (nFree c d) = 6 := freN_in _ 7 1 7 (by decide) (by omega)
theorem nle_lt {a b : Nat} (h : ¬ nI b ≤ nI a) (ha : a < 2 ^ 31) (hb : b < 2 ^ 31) : a < b := by
  rw [nI_leI hb ha] at h; omega
theorem le_le {a b : Nat} (h : nI b ≤ nI a) (ha : a < 2 ^ 31) (hb : b < 2 ^ 31) : b ≤ a := (nI_leI hb ha).mp h
def fIsR (c : zC) (j : Nat) : Int32 := if c.1 j 0 < 2 then 0 else 1
set_option maxHeartbeats 4000000 in
set_option maxRecDepth 100000 in
theorem k_X2_isDrawer (l : Launch) (E : zE) (c : zC) (mo : zM) (d : Int32)  : Met l yX2_isDrawer wsX2_isDrawer (zR 0 0) (zP E c mo [.int d]) (cQi E (isDr d) c mo) 0 0 (zA E) := by
  refine z_ent (cc := cX2_isDrawer) (maxL := 1) (ret := (some .boolean)) (vs := [.int d]) (by decide) rfl (Nat.le_of_ble_eq_true rfl) ?_
  intro p e s m below meth cd ls hx hb hr hml hown hts hlocks hl hw
  have hl : lv_has ls 1 [(0, .int d)] := hl
  have hown : s.vm.findClass RX2 = some m.cls := hown
  refine lv_iload_n hx hb dX2_isDrawer_0 rfl (lv_at hl 0 rfl) ?_
  refine lv_if_lt (tgt := 14) hx hb dX2_isDrawer_1 (by decide) (fun q_1 => ?_) (fun q_1 => ?_)
  · have _ := hx
    refine lv_iconst (v := 0) hx hb dX2_isDrawer_14 (by decide) ?_
    exact z_zret hx hb hr hlocks hw dX2_isDrawer_15 rfl (by first | (simp [isDr, q_1]; done) | (simp_all [isDr]; done)) rfl rfl
  · have _ := hx
    refine lv_iload_n hx hb dX2_isDrawer_4 rfl (lv_at hl 0 rfl) ?_
    refine lv_bipush (v := 8) hx hb dX2_isDrawer_5 (by decide) ?_
    refine lv_icmp_ge (tgt := 14) hx hb dX2_isDrawer_7 (by decide) (fun q_2 => ?_) (fun q_2 => ?_)
    · have _ := hx
      refine lv_iconst (v := 0) hx hb dX2_isDrawer_14 (by decide) ?_
      exact z_zret hx hb hr hlocks hw dX2_isDrawer_15 rfl (by first | (simp [isDr, q_1, q_2]; done) | (simp_all [isDr]; done)) rfl rfl
    · have _ := hx
      refine lv_iconst (v := 1) hx hb dX2_isDrawer_10 (by decide) ?_
      refine lv_goto (tgt := 15) hx hb dX2_isDrawer_11 (by decide) ?_
      exact z_zret hx hb hr hlocks hw dX2_isDrawer_15 rfl (by first | (simp [isDr, q_1, q_2]; done) | (simp_all [isDr]; done)) rfl rfl
set_option maxHeartbeats 4000000 in
set_option maxRecDepth 100000 in
theorem k_X2_isTellableIndex (l : Launch) (E : zE) (c : zC) (mo : zM) (i : Int32)  : Met l yX2_isTellableIndex wsX2_isTellableIndex (zR 0 0) (zP E c mo [.int i]) (cQi E (isTi i) c mo) 0 0 (zA E) := by
  refine z_ent (cc := cX2_isTellableIndex) (maxL := 1) (ret := (some .boolean)) (vs := [.int i]) (by decide) rfl (Nat.le_of_ble_eq_true rfl) ?_
  intro p e s m below meth cd ls hx hb hr hml hown hts hlocks hl hw
  have hl : lv_has ls 1 [(0, .int i)] := hl
  have hown : s.vm.findClass RX2 = some m.cls := hown
  refine lv_iload_n hx hb dX2_isTellableIndex_0 rfl (lv_at hl 0 rfl) ?_
  refine lv_if_lt (tgt := 14) hx hb dX2_isTellableIndex_1 (by decide) (fun q_1 => ?_) (fun q_1 => ?_)
  · have _ := hx
    refine lv_iconst (v := 0) hx hb dX2_isTellableIndex_14 (by decide) ?_
    exact z_zret hx hb hr hlocks hw dX2_isTellableIndex_15 rfl (by first | (simp [isTi, q_1]; done) | (simp_all [isTi]; done)) rfl rfl
  · have _ := hx
    refine lv_iload_n hx hb dX2_isTellableIndex_4 rfl (lv_at hl 0 rfl) ?_
    refine lv_bipush (v := 20) hx hb dX2_isTellableIndex_5 (by decide) ?_
    refine lv_icmp_gt (tgt := 14) hx hb dX2_isTellableIndex_7 (by decide) (fun q_2 => ?_) (fun q_2 => ?_)
    · have _ := hx
      refine lv_iconst (v := 0) hx hb dX2_isTellableIndex_14 (by decide) ?_
      exact z_zret hx hb hr hlocks hw dX2_isTellableIndex_15 rfl (by first | (simp [isTi, q_1, q_2]; done) | (simp_all [isTi]; done)) rfl rfl
    · have _ := hx
      refine lv_iconst (v := 1) hx hb dX2_isTellableIndex_10 (by decide) ?_
      refine lv_goto (tgt := 15) hx hb dX2_isTellableIndex_11 (by decide) ?_
      exact z_zret hx hb hr hlocks hw dX2_isTellableIndex_15 rfl (by first | (simp [isTi, q_1, q_2]; done) | (simp_all [isTi]; done)) rfl rfl
set_option maxHeartbeats 4000000 in
set_option maxRecDepth 100000 in
theorem k_X2_hold (l : Launch) (E : zE) (c : zC) (mo : zM) (k : Int32) (v : Int64)  : Met l yX2_hold wsX2_hold (zR 0 0) (zP E c mo [.ref (zl E 0), .int k, .long v]) (cQv E (hold c k v) mo) 0 0 (zA E) := by
  refine z_ent (cc := cX2_hold) (maxL := 4) (ret := none) (vs := [.ref (zl E 0), .int k, .long v]) (by decide) rfl (Nat.le_of_ble_eq_true rfl) ?_
  intro p e s m below meth cd ls hx hb hr hml hown hts hlocks hl hw
  have hl : lv_has ls 4 [(0, .ref (zl E 0)), (1, .int k), (2, .long v)] := hl
  have hown : s.vm.findClass RX2 = some m.cls := hown
  have hin2 : ∀ w ∈ u_ws RX2 TX2 12, w ∈ wsX2_hold := by decide +kernel
  refine lv_aload_n hx hb dX2_hold_0 rfl (lv_at hl 0 rfl) ?_
  refine lv_iload_n hx hb dX2_hold_1 rfl (lv_at hl 1 rfl) ?_
  refine z_put (i := 0) (ty := .int) hx hb hts hin2 tyX2 tyX2_ok nmX2 hown hw (by decide) zG_0 rfl 3 (by decide) (hts (.fieldLink RX2 23 "SeedDrawers" "handKind" "I") (by decide +kernel)) rfl rfl (by decide +kernel) rfl rfl (Nat.le_of_ble_eq_true rfl) (zU0_3 E c mo k) dX2_hold_2 (fun H locs hw => ?_)
  refine lv_aload_n hx hb dX2_hold_5 rfl (lv_at hl 0 rfl) ?_
  refine lv_lload_n hx hb dX2_hold_6 rfl (lv_at hl 2 rfl) ?_
  refine z_put (i := 0) (ty := .long) hx hb hts hin2 tyX2 tyX2_ok nmX2 hown hw (by decide) zG_0 rfl 4 (by decide) (hts (.fieldLink RX2 86 "SeedDrawers" "handValue" "J") (by decide +kernel)) rfl rfl (by decide +kernel) rfl rfl (Nat.le_of_ble_eq_true rfl) (zU0_4 E (sI c 0 3 k) mo v) dX2_hold_7 (fun H locs hw => ?_)
  exact z_vret hx hb hr hlocks hw dX2_hold_10 (by first | (simp [hold]; done) | (simp_all [hold]; done)) rfl
set_option maxHeartbeats 4000000 in
set_option maxRecDepth 100000 in
theorem k_X2_fits (l : Launch) (E : zE) (c : zC) (mo : zM) (k : Int32) (r : Int32)  : Met l yX2_fits wsX2_fits (zR 0 0) (zP E c mo [.int k, .int r]) (cQi E (fFits k r) c mo) 0 0 (zA E) := by
  refine z_ent (cc := cX2_fits) (maxL := 2) (ret := (some .boolean)) (vs := [.int k, .int r]) (by decide) rfl (Nat.le_of_ble_eq_true rfl) ?_
  intro p e s m below meth cd ls hx hb hr hml hown hts hlocks hl hw
  have hl : lv_has ls 2 [(0, .int k), (1, .int r)] := hl
  have hown : s.vm.findClass RX2 = some m.cls := hown
  refine lv_iload_n hx hb dX2_fits_0 rfl (lv_at hl 0 rfl) ?_
  by_cases q_1 : k = (-9)
  · have _ := hx
    refine lv_tableIn (tgt := 68) hx hb dX2_fits_1 (by rw [q_1]; decide) (by rw [q_1]; decide) (by rw [q_1]; rfl) (by decide) ?_
    refine lv_iload_n hx hb dX2_fits_68 rfl (lv_at hl 1 rfl) ?_
    refine lv_bipush (v := 6) hx hb dX2_fits_69 (by decide) ?_
    refine lv_icmp_ne (tgt := 78) hx hb dX2_fits_71 (by decide) (fun q_2 => ?_) (fun q_2 => ?_)
    · have _ := hx
      refine lv_iconst (v := 0) hx hb dX2_fits_78 (by decide) ?_
      exact z_zret hx hb hr hlocks hw dX2_fits_79 rfl (by first | (simp [fFits, q_1, q_2]; done) | (simp_all [fFits]; done)) rfl rfl
    · have _ := hx
      refine lv_iconst (v := 1) hx hb dX2_fits_74 (by decide) ?_
      refine lv_goto (tgt := 79) hx hb dX2_fits_75 (by decide) ?_
      exact z_zret hx hb hr hlocks hw dX2_fits_79 rfl (by first | (simp [fFits, q_1, q_2]; done) | (simp_all [fFits]; done)) rfl rfl
  by_cases q_3 : k = 0
  · have _ := hx
    refine lv_tableIn (tgt := 80) hx hb dX2_fits_1 (by rw [q_3]; decide) (by rw [q_3]; decide) (by rw [q_3]; rfl) (by decide) ?_
    refine lv_iload_n hx hb dX2_fits_80 rfl (lv_at hl 1 rfl) ?_
    refine lv_if_eq (tgt := 99) hx hb dX2_fits_81 (by decide) (fun q_4 => ?_) (fun q_4 => ?_)
    · have _ := hx
      refine lv_iconst (v := 1) hx hb dX2_fits_99 (by decide) ?_
      refine lv_goto (tgt := 104) hx hb dX2_fits_100 (by decide) ?_
      exact z_zret hx hb hr hlocks hw dX2_fits_104 rfl (by first | (simp [fFits, q_1, q_3, q_4]; done) | (simp_all [fFits]; done)) rfl rfl
    · have _ := hx
      refine lv_iload_n hx hb dX2_fits_84 rfl (lv_at hl 1 rfl) ?_
      refine lv_iconst (v := 1) hx hb dX2_fits_85 (by decide) ?_
      refine lv_icmp_eq (tgt := 99) hx hb dX2_fits_86 (by decide) (fun q_5 => ?_) (fun q_5 => ?_)
      · have _ := hx
        refine lv_iconst (v := 1) hx hb dX2_fits_99 (by decide) ?_
        refine lv_goto (tgt := 104) hx hb dX2_fits_100 (by decide) ?_
        exact z_zret hx hb hr hlocks hw dX2_fits_104 rfl (by first | (simp [fFits, q_1, q_3, q_4, q_5]; done) | (simp_all [fFits]; done)) rfl rfl
      · have _ := hx
        refine lv_iload_n hx hb dX2_fits_89 rfl (lv_at hl 1 rfl) ?_
        refine lv_iconst (v := 3) hx hb dX2_fits_90 (by decide) ?_
        refine lv_icmp_eq (tgt := 99) hx hb dX2_fits_91 (by decide) (fun q_6 => ?_) (fun q_6 => ?_)
        · have _ := hx
          refine lv_iconst (v := 1) hx hb dX2_fits_99 (by decide) ?_
          refine lv_goto (tgt := 104) hx hb dX2_fits_100 (by decide) ?_
          exact z_zret hx hb hr hlocks hw dX2_fits_104 rfl (by first | (simp [fFits, q_1, q_3, q_4, q_5, q_6]; done) | (simp_all [fFits]; done)) rfl rfl
        · have _ := hx
          refine lv_iload_n hx hb dX2_fits_94 rfl (lv_at hl 1 rfl) ?_
          refine lv_iconst (v := 4) hx hb dX2_fits_95 (by decide) ?_
          refine lv_icmp_ne (tgt := 103) hx hb dX2_fits_96 (by decide) (fun q_7 => ?_) (fun q_7 => ?_)
          · have _ := hx
            refine lv_iconst (v := 0) hx hb dX2_fits_103 (by decide) ?_
            exact z_zret hx hb hr hlocks hw dX2_fits_104 rfl (by first | (simp [fFits, q_1, q_3, q_4, q_5, q_6, q_7]; done) | (simp_all [fFits]; done)) rfl rfl
          · have _ := hx
            refine lv_iconst (v := 1) hx hb dX2_fits_99 (by decide) ?_
            refine lv_goto (tgt := 104) hx hb dX2_fits_100 (by decide) ?_
            exact z_zret hx hb hr hlocks hw dX2_fits_104 rfl (by first | (simp [fFits, q_1, q_3, q_4, q_5, q_6, q_7]; done) | (simp_all [fFits]; done)) rfl rfl
  by_cases q_8 : k = 1
  · have _ := hx
    refine lv_tableIn (tgt := 105) hx hb dX2_fits_1 (by rw [q_8]; decide) (by rw [q_8]; decide) (by rw [q_8]; rfl) (by decide) ?_
    refine lv_iload_n hx hb dX2_fits_105 rfl (lv_at hl 1 rfl) ?_
    refine lv_iload_n hx hb dX2_fits_106 rfl (lv_at hl 0 rfl) ?_
    refine lv_icmp_eq (tgt := 120) hx hb dX2_fits_107 (by decide) (fun q_9 => ?_) (fun q_9 => ?_)
    · have _ := hx
      refine lv_iconst (v := 1) hx hb dX2_fits_120 (by decide) ?_
      refine lv_goto (tgt := 125) hx hb dX2_fits_121 (by decide) ?_
      exact z_zret hx hb hr hlocks hw dX2_fits_125 rfl (by first | (simp [fFits, q_1, q_3, q_8, q_9]; done) | (simp_all [fFits]; done)) rfl rfl
    · have _ := hx
      refine lv_iload_n hx hb dX2_fits_110 rfl (lv_at hl 1 rfl) ?_
      refine lv_iconst (v := 3) hx hb dX2_fits_111 (by decide) ?_
      refine lv_icmp_eq (tgt := 120) hx hb dX2_fits_112 (by decide) (fun q_10 => ?_) (fun q_10 => ?_)
      · have _ := hx
        refine lv_iconst (v := 1) hx hb dX2_fits_120 (by decide) ?_
        refine lv_goto (tgt := 125) hx hb dX2_fits_121 (by decide) ?_
        exact z_zret hx hb hr hlocks hw dX2_fits_125 rfl (by first | (simp [fFits, q_1, q_3, q_8, q_9, q_10]; done) | (simp_all [fFits]; done)) rfl rfl
      · have _ := hx
        refine lv_iload_n hx hb dX2_fits_115 rfl (lv_at hl 1 rfl) ?_
        refine lv_iconst (v := 4) hx hb dX2_fits_116 (by decide) ?_
        refine lv_icmp_ne (tgt := 124) hx hb dX2_fits_117 (by decide) (fun q_11 => ?_) (fun q_11 => ?_)
        · have _ := hx
          refine lv_iconst (v := 0) hx hb dX2_fits_124 (by decide) ?_
          exact z_zret hx hb hr hlocks hw dX2_fits_125 rfl (by first | (simp [fFits, q_1, q_3, q_8, q_9, q_10, q_11]; done) | (simp_all [fFits]; done)) rfl rfl
        · have _ := hx
          refine lv_iconst (v := 1) hx hb dX2_fits_120 (by decide) ?_
          refine lv_goto (tgt := 125) hx hb dX2_fits_121 (by decide) ?_
          exact z_zret hx hb hr hlocks hw dX2_fits_125 rfl (by first | (simp [fFits, q_1, q_3, q_8, q_9, q_10, q_11]; done) | (simp_all [fFits]; done)) rfl rfl
  by_cases q_12 : k = 2
  · have _ := hx
    refine lv_tableIn (tgt := 105) hx hb dX2_fits_1 (by rw [q_12]; decide) (by rw [q_12]; decide) (by rw [q_12]; rfl) (by decide) ?_
    refine lv_iload_n hx hb dX2_fits_105 rfl (lv_at hl 1 rfl) ?_
    refine lv_iload_n hx hb dX2_fits_106 rfl (lv_at hl 0 rfl) ?_
    refine lv_icmp_eq (tgt := 120) hx hb dX2_fits_107 (by decide) (fun q_13 => ?_) (fun q_13 => ?_)
    · have _ := hx
      refine lv_iconst (v := 1) hx hb dX2_fits_120 (by decide) ?_
      refine lv_goto (tgt := 125) hx hb dX2_fits_121 (by decide) ?_
      exact z_zret hx hb hr hlocks hw dX2_fits_125 rfl (by first | (simp [fFits, q_1, q_3, q_8, q_12, q_13]; done) | (simp_all [fFits]; done)) rfl rfl
    · have _ := hx
      refine lv_iload_n hx hb dX2_fits_110 rfl (lv_at hl 1 rfl) ?_
      refine lv_iconst (v := 3) hx hb dX2_fits_111 (by decide) ?_
      refine lv_icmp_eq (tgt := 120) hx hb dX2_fits_112 (by decide) (fun q_14 => ?_) (fun q_14 => ?_)
      · have _ := hx
        refine lv_iconst (v := 1) hx hb dX2_fits_120 (by decide) ?_
        refine lv_goto (tgt := 125) hx hb dX2_fits_121 (by decide) ?_
        exact z_zret hx hb hr hlocks hw dX2_fits_125 rfl (by first | (simp [fFits, q_1, q_3, q_8, q_12, q_13, q_14]; done) | (simp_all [fFits]; done)) rfl rfl
      · have _ := hx
        refine lv_iload_n hx hb dX2_fits_115 rfl (lv_at hl 1 rfl) ?_
        refine lv_iconst (v := 4) hx hb dX2_fits_116 (by decide) ?_
        refine lv_icmp_ne (tgt := 124) hx hb dX2_fits_117 (by decide) (fun q_15 => ?_) (fun q_15 => ?_)
        · have _ := hx
          refine lv_iconst (v := 0) hx hb dX2_fits_124 (by decide) ?_
          exact z_zret hx hb hr hlocks hw dX2_fits_125 rfl (by first | (simp [fFits, q_1, q_3, q_8, q_12, q_13, q_14, q_15]; done) | (simp_all [fFits]; done)) rfl rfl
        · have _ := hx
          refine lv_iconst (v := 1) hx hb dX2_fits_120 (by decide) ?_
          refine lv_goto (tgt := 125) hx hb dX2_fits_121 (by decide) ?_
          exact z_zret hx hb hr hlocks hw dX2_fits_125 rfl (by first | (simp [fFits, q_1, q_3, q_8, q_12, q_13, q_14, q_15]; done) | (simp_all [fFits]; done)) rfl rfl
  by_cases q_16 : k = 3
  · have _ := hx
    refine lv_tableIn (tgt := 126) hx hb dX2_fits_1 (by rw [q_16]; decide) (by rw [q_16]; decide) (by rw [q_16]; rfl) (by decide) ?_
    refine lv_iload_n hx hb dX2_fits_126 rfl (lv_at hl 1 rfl) ?_
    refine lv_iconst (v := 3) hx hb dX2_fits_127 (by decide) ?_
    refine lv_icmp_eq (tgt := 136) hx hb dX2_fits_128 (by decide) (fun q_17 => ?_) (fun q_17 => ?_)
    · have _ := hx
      refine lv_iconst (v := 1) hx hb dX2_fits_136 (by decide) ?_
      refine lv_goto (tgt := 141) hx hb dX2_fits_137 (by decide) ?_
      exact z_zret hx hb hr hlocks hw dX2_fits_141 rfl (by first | (simp [fFits, q_1, q_3, q_8, q_12, q_16, q_17]; done) | (simp_all [fFits]; done)) rfl rfl
    · have _ := hx
      refine lv_iload_n hx hb dX2_fits_131 rfl (lv_at hl 1 rfl) ?_
      refine lv_iconst (v := 4) hx hb dX2_fits_132 (by decide) ?_
      refine lv_icmp_ne (tgt := 140) hx hb dX2_fits_133 (by decide) (fun q_18 => ?_) (fun q_18 => ?_)
      · have _ := hx
        refine lv_iconst (v := 0) hx hb dX2_fits_140 (by decide) ?_
        exact z_zret hx hb hr hlocks hw dX2_fits_141 rfl (by first | (simp [fFits, q_1, q_3, q_8, q_12, q_16, q_17, q_18]; done) | (simp_all [fFits]; done)) rfl rfl
      · have _ := hx
        refine lv_iconst (v := 1) hx hb dX2_fits_136 (by decide) ?_
        refine lv_goto (tgt := 141) hx hb dX2_fits_137 (by decide) ?_
        exact z_zret hx hb hr hlocks hw dX2_fits_141 rfl (by first | (simp [fFits, q_1, q_3, q_8, q_12, q_16, q_17, q_18]; done) | (simp_all [fFits]; done)) rfl rfl
  by_cases q_19 : k.toInt < -9 ∨ 3 < k.toInt
  · have _ := hx
    refine lv_tableOut (tgt := 142) hx hb dX2_fits_1 q_19 (by decide) ?_
    refine lv_iload_n hx hb dX2_fits_142 rfl (lv_at hl 1 rfl) ?_
    refine lv_iload_n hx hb dX2_fits_143 rfl (lv_at hl 0 rfl) ?_
    refine lv_icmp_ne (tgt := 151) hx hb dX2_fits_144 (by decide) (fun q_20 => ?_) (fun q_20 => ?_)
    · have _ := hx
      refine lv_iconst (v := 0) hx hb dX2_fits_151 (by decide) ?_
      exact z_zret hx hb hr hlocks hw dX2_fits_152 rfl (by first | (simp [fFits, q_1, q_3, q_8, q_12, q_16, q_20]; done) | (simp_all [fFits]; done)) rfl rfl
    · have _ := hx
      refine lv_iconst (v := 1) hx hb dX2_fits_147 (by decide) ?_
      refine lv_goto (tgt := 152) hx hb dX2_fits_148 (by decide) ?_
      exact z_zret hx hb hr hlocks hw dX2_fits_152 rfl (by first | (simp [fFits, q_1, q_3, q_8, q_12, q_16, q_20]; done) | (simp_all [fFits]; done)) rfl rfl
  · have _ := hx
    refine lv_tableIn (off := 141) (tgt := 142) hx hb dX2_fits_1 (by omega) (by omega) (tb_in [-9, 0, 1, 2, 3] q_19 (by simp [q_1, q_3, q_8, q_12, q_16]) (by decide +kernel)) (by decide) ?_
    refine lv_iload_n hx hb dX2_fits_142 rfl (lv_at hl 1 rfl) ?_
    refine lv_iload_n hx hb dX2_fits_143 rfl (lv_at hl 0 rfl) ?_
    refine lv_icmp_ne (tgt := 151) hx hb dX2_fits_144 (by decide) (fun q_21 => ?_) (fun q_21 => ?_)
    · have _ := hx
      refine lv_iconst (v := 0) hx hb dX2_fits_151 (by decide) ?_
      exact z_zret hx hb hr hlocks hw dX2_fits_152 rfl (by first | (simp [fFits, q_1, q_3, q_8, q_12, q_16, q_21]; done) | (simp_all [fFits]; done)) rfl rfl
    · have _ := hx
      refine lv_iconst (v := 1) hx hb dX2_fits_147 (by decide) ?_
      refine lv_goto (tgt := 152) hx hb dX2_fits_148 (by decide) ?_
      exact z_zret hx hb hr hlocks hw dX2_fits_152 rfl (by first | (simp [fFits, q_1, q_3, q_8, q_12, q_16, q_21]; done) | (simp_all [fFits]; done)) rfl rfl
set_option maxHeartbeats 4000000 in
set_option maxRecDepth 100000 in
theorem k_X2_valueOfKind (l : Launch) (E : zE) (c : zC) (mo : zM) (k : Int32) (v : Int64)  : Met l yX2_valueOfKind wsX2_valueOfKind (zR 0 0) (zP E c mo [.int k, .long v]) (cQl E (fVok k v) c mo) 0 0 (zA E) := by
  refine z_ent (cc := cX2_valueOfKind) (maxL := 3) (ret := (some .long)) (vs := [.int k, .long v]) (by decide) rfl (Nat.le_of_ble_eq_true rfl) ?_
  intro p e s m below meth cd ls hx hb hr hml hown hts hlocks hl hw
  have hl : lv_has ls 3 [(0, .int k), (1, .long v)] := hl
  have hown : s.vm.findClass RX2 = some m.cls := hown
  refine lv_iload_n hx hb dX2_valueOfKind_0 rfl (lv_at hl 0 rfl) ?_
  by_cases q_1 : k = 0
  · have _ := hx
    refine lv_tableIn (tgt := 40) hx hb dX2_valueOfKind_1 (by rw [q_1]; decide) (by rw [q_1]; decide) (by rw [q_1]; rfl) (by decide) ?_
    refine lv_lload_n hx hb dX2_valueOfKind_40 rfl (lv_at hl 1 rfl) ?_
    refine lv_l2i (v := v.toInt32) hx hb dX2_valueOfKind_41 rfl ?_
    refine lv_i2b (v := v.toInt32.toInt8.toInt32) hx hb dX2_valueOfKind_42 rfl ?_
    refine lv_i2l (v := v.toInt32.toInt8.toInt32.toInt64) hx hb dX2_valueOfKind_43 rfl ?_
    exact z_lret hx hb hr hlocks hw dX2_valueOfKind_44 (by first | (simp [fVok, q_1]; done) | (simp_all [fVok]; done)) rfl rfl
  by_cases q_2 : k = 1
  · have _ := hx
    refine lv_tableIn (tgt := 45) hx hb dX2_valueOfKind_1 (by rw [q_2]; decide) (by rw [q_2]; decide) (by rw [q_2]; rfl) (by decide) ?_
    refine lv_lload_n hx hb dX2_valueOfKind_45 rfl (lv_at hl 1 rfl) ?_
    refine lv_l2i (v := v.toInt32) hx hb dX2_valueOfKind_46 rfl ?_
    refine lv_i2s (v := v.toInt32.toInt16.toInt32) hx hb dX2_valueOfKind_47 rfl ?_
    refine lv_i2l (v := v.toInt32.toInt16.toInt32.toInt64) hx hb dX2_valueOfKind_48 rfl ?_
    exact z_lret hx hb hr hlocks hw dX2_valueOfKind_49 (by first | (simp [fVok, q_1, q_2]; done) | (simp_all [fVok]; done)) rfl rfl
  by_cases q_3 : k = 2
  · have _ := hx
    refine lv_tableIn (tgt := 50) hx hb dX2_valueOfKind_1 (by rw [q_3]; decide) (by rw [q_3]; decide) (by rw [q_3]; rfl) (by decide) ?_
    refine lv_lload_n hx hb dX2_valueOfKind_50 rfl (lv_at hl 1 rfl) ?_
    refine lv_l2i (v := v.toInt32) hx hb dX2_valueOfKind_51 rfl ?_
    refine lv_i2c (v := (v.toInt32.toUInt32 % 65536).toInt32) hx hb dX2_valueOfKind_52 rfl ?_
    refine lv_i2l (v := ((v.toInt32.toUInt32 % 65536).toInt32).toInt64) hx hb dX2_valueOfKind_53 rfl ?_
    exact z_lret hx hb hr hlocks hw dX2_valueOfKind_54 (by first | (simp [fVok, q_1, q_2, q_3]; done) | (simp_all [fVok]; done)) rfl rfl
  by_cases q_4 : k = 3
  · have _ := hx
    refine lv_tableIn (tgt := 55) hx hb dX2_valueOfKind_1 (by rw [q_4]; decide) (by rw [q_4]; decide) (by rw [q_4]; rfl) (by decide) ?_
    refine lv_lload_n hx hb dX2_valueOfKind_55 rfl (lv_at hl 1 rfl) ?_
    refine lv_l2i (v := v.toInt32) hx hb dX2_valueOfKind_56 rfl ?_
    refine lv_i2l (v := v.toInt32.toInt64) hx hb dX2_valueOfKind_57 rfl ?_
    exact z_lret hx hb hr hlocks hw dX2_valueOfKind_58 (by first | (simp [fVok, q_1, q_2, q_3, q_4]; done) | (simp_all [fVok]; done)) rfl rfl
  by_cases q_5 : k = 5
  · have _ := hx
    refine lv_tableIn (tgt := 59) hx hb dX2_valueOfKind_1 (by rw [q_5]; decide) (by rw [q_5]; decide) (by rw [q_5]; rfl) (by decide) ?_
    refine lv_lload_n hx hb dX2_valueOfKind_59 rfl (lv_at hl 1 rfl) ?_
    refine lv_lconst (v := 0) hx hb dX2_valueOfKind_60 (by decide) ?_
    refine W.lcmp hx hb dX2_valueOfKind_61 ?_
    refine lv_if_eq (tgt := 69) hx hb dX2_valueOfKind_62 (by decide) (fun q_6 => ?_) (fun q_6 => ?_)
    · have _ := hx
      refine lv_lconst (v := 0) hx hb dX2_valueOfKind_69 (by decide) ?_
      exact z_lret hx hb hr hlocks hw dX2_valueOfKind_70 (by first | (simp [fVok, q_1, q_2, q_3, q_4, q_5, q_6]; done) | (simp_all [fVok]; done)) rfl rfl
    · have _ := hx
      refine lv_lconst (v := 1) hx hb dX2_valueOfKind_65 (by decide) ?_
      refine lv_goto (tgt := 70) hx hb dX2_valueOfKind_66 (by decide) ?_
      exact z_lret hx hb hr hlocks hw dX2_valueOfKind_70 (by first | (simp [fVok, q_1, q_2, q_3, q_4, q_5, q_6]; done) | (simp_all [fVok]; done)) rfl rfl
  by_cases q_7 : k.toInt < 0 ∨ 5 < k.toInt
  · have _ := hx
    refine lv_tableOut (tgt := 71) hx hb dX2_valueOfKind_1 q_7 (by decide) ?_
    refine lv_lload_n hx hb dX2_valueOfKind_71 rfl (lv_at hl 1 rfl) ?_
    exact z_lret hx hb hr hlocks hw dX2_valueOfKind_72 (by first | (simp [fVok, q_1, q_2, q_3, q_4, q_5]; done) | (simp_all [fVok]; done)) rfl rfl
  · have _ := hx
    refine lv_tableIn (off := 70) (tgt := 71) hx hb dX2_valueOfKind_1 (by omega) (by omega) (tb_in [0, 1, 2, 3, 5] q_7 (by simp [q_1, q_2, q_3, q_4, q_5]) (by decide +kernel)) (by decide) ?_
    refine lv_lload_n hx hb dX2_valueOfKind_71 rfl (lv_at hl 1 rfl) ?_
    exact z_lret hx hb hr hlocks hw dX2_valueOfKind_72 (by first | (simp [fVok, q_1, q_2, q_3, q_4, q_5]; done) | (simp_all [fVok]; done)) rfl rfl
set_option maxHeartbeats 4000000 in
set_option maxRecDepth 100000 in
theorem k_X2_meet (l : Launch) (E : zE) (c : zC) (mo : zM) (f : Int32) (hf : vp_in f 5) : Met l yX2_meet wsX2_meet (zR 0 0) (zP E c mo [.ref (zl E 0), .int f]) (cQi E ((-10) - f) (meet c f) mo) 0 0 (zA E) := by
  refine z_ent (cc := cX2_meet) (maxL := 2) (ret := (some .int)) (vs := [.ref (zl E 0), .int f]) (by decide) rfl (Nat.le_of_ble_eq_true rfl) ?_
  intro p e s m below meth cd ls hx hb hr hml hown hts hlocks hl hw
  have hl : lv_has ls 2 [(0, .ref (zl E 0)), (1, .int f)] := hl
  have hown : s.vm.findClass RX2 = some m.cls := hown
  have hin2 : ∀ w ∈ u_ws RX2 TX2 12, w ∈ wsX2_meet := by decide +kernel
  refine lv_aload_n hx hb dX2_meet_0 rfl (lv_at hl 0 rfl) ?_
  refine lv_iload_n hx hb dX2_meet_1 rfl (lv_at hl 1 rfl) ?_
  refine z_put (i := 0) (ty := .int) hx hb hts hin2 tyX2 tyX2_ok nmX2 hown hw (by decide) zG_0 rfl 10 (by decide) (hts (.fieldLink RX2 129 "SeedDrawers" "latestFault" "I") (by decide +kernel)) rfl rfl (by decide +kernel) rfl rfl (Nat.le_of_ble_eq_true rfl) (zU0_10 E c mo f) dX2_meet_2 (fun H locs hw => ?_)
  refine lv_aload_n hx hb dX2_meet_5 rfl (lv_at hl 0 rfl) ?_
  refine z_get (i := 0) hx hb hts hin2 hown hw (by decide) zG_0 rfl 11 (by decide) (hts (.fieldLink RX2 38 "SeedDrawers" "faultCounts" "[I") (by decide +kernel)) rfl rfl dX2_meet_6 ?_
  refine lv_iconst (v := 0) hx hb dX2_meet_9 (by decide) ?_
  refine lv_dup2_11 hx hb dX2_meet_10 rfl rfl ?_
  refine y_iald (i := 5) hx hb hw (by decide) (zG_4 (i := 5) (by decide)) (vp_in_iff.mpr (by decide)) (k := 0) rfl dX2_meet_11 ?_
  refine lv_iconst (v := 1) hx hb dX2_meet_12 (by decide) ?_
  refine lv_iadd hx hb dX2_meet_13 ?_
  refine y_iast4 (i := 5) hx hb hw (by decide) (by decide) (vp_in_iff.mpr (by decide)) (k := 0) rfl dX2_meet_14 (fun H locs hw => ?_)
  refine lv_aload_n hx hb dX2_meet_15 rfl (lv_at hl 0 rfl) ?_
  refine z_get (i := 0) hx hb hts hin2 hown hw (by decide) zG_0 rfl 11 (by decide) (hts (.fieldLink RX2 38 "SeedDrawers" "faultCounts" "[I") (by decide +kernel)) rfl rfl dX2_meet_16 ?_
  refine lv_iload_n hx hb dX2_meet_19 rfl (lv_at hl 1 rfl) ?_
  refine lv_dup2_11 hx hb dX2_meet_20 rfl rfl ?_
  refine y_iald (i := 5) hx hb hw (by decide) (zG_4 (i := 5) (by decide)) (by assumption) (k := f.toNatClampNeg) rfl dX2_meet_21 ?_
  refine lv_iconst (v := 1) hx hb dX2_meet_22 (by decide) ?_
  refine lv_iadd hx hb dX2_meet_23 ?_
  refine y_iast4 (i := 5) hx hb hw (by decide) (by decide) (by assumption) (k := f.toNatClampNeg) rfl dX2_meet_24 (fun H locs hw => ?_)
  refine lv_bipush (v := (-10)) hx hb dX2_meet_25 (by decide) ?_
  refine lv_iload_n hx hb dX2_meet_27 rfl (lv_at hl 1 rfl) ?_
  refine lv_isub hx hb dX2_meet_28 ?_
  exact z_iret hx hb hr hlocks hw dX2_meet_29 (by rfl) (by rfl) rfl
set_option maxHeartbeats 4000000 in
set_option maxRecDepth 100000 in
theorem k_X0_faultOfRow (l : Launch) (E : zE) (c : zC) (mo : zM) (j : Nat) (hj : kd j = 6) : Met l yX0_faultOfRow wsX0_faultOfRow (zR 0 0) (zP E c mo [.ref (zl E j)]) (cQi E (fRow c j) c mo) 0 0 (zA E) := by
  refine z_ent (cc := cX0_faultOfRow) (maxL := 1) (ret := (some .int)) (vs := [.ref (zl E j)]) (by decide) rfl (Nat.le_of_ble_eq_true rfl) ?_
  intro p e s m below meth cd ls hx hb hr hml hown hts hlocks hl hw
  have hl : lv_has ls 1 [(0, .ref (zl E j))] := hl
  have hown : s.vm.findClass RX0 = some m.cls := hown
  have hin0 : ∀ w ∈ u_ws RX0 TX0 4, w ∈ wsX0_faultOfRow := by decide +kernel
  refine lv_aload_n hx hb dX0_faultOfRow_0 rfl (lv_at hl 0 rfl) ?_
  refine z_get (i := j) hx hb hts hin0 hown hw (kd6l hj) (zG_6 hj) rfl 0 (by decide) (hts (.fieldLink RX0 15 "SeedDrawers$Content" "has" "I") (by decide +kernel)) rfl rfl dX0_faultOfRow_1 ?_
  refine lv_if_ne (tgt := 9) hx hb dX0_faultOfRow_4 (by decide) (fun q_1 => ?_) (fun q_1 => ?_)
  · have _ := hx
    refine lv_aload_n hx hb dX0_faultOfRow_9 rfl (lv_at hl 0 rfl) ?_
    refine z_get (i := j) hx hb hts hin0 hown hw (kd6l hj) (zG_6 hj) rfl 0 (by decide) (hts (.fieldLink RX0 15 "SeedDrawers$Content" "has" "I") (by decide +kernel)) rfl rfl dX0_faultOfRow_10 ?_
    refine lv_iconst (v := 1) hx hb dX0_faultOfRow_13 (by decide) ?_
    refine lv_icmp_ne (tgt := 21) hx hb dX0_faultOfRow_14 (by decide) (fun q_2 => ?_) (fun q_2 => ?_)
    · have _ := hx
      refine lv_iconst (v := 0) hx hb dX0_faultOfRow_21 (by decide) ?_
      exact z_iret hx hb hr hlocks hw dX0_faultOfRow_22 (by first | (simp [fRow, q_1, q_2]; done) | (simp_all [fRow]; done)) rfl rfl
    · have _ := hx
      refine lv_iconst (v := 2) hx hb dX0_faultOfRow_17 (by decide) ?_
      refine lv_goto (tgt := 22) hx hb dX0_faultOfRow_18 (by decide) ?_
      exact z_iret hx hb hr hlocks hw dX0_faultOfRow_22 (by first | (simp [fRow, q_1, q_2]; done) | (simp_all [fRow]; done)) rfl rfl
  · have _ := hx
    refine lv_iconst (v := 1) hx hb dX0_faultOfRow_7 (by decide) ?_
    exact z_iret hx hb hr hlocks hw dX0_faultOfRow_8 (by first | (simp [fRow, q_1]; done) | (simp_all [fRow]; done)) rfl rfl
set_option maxHeartbeats 4000000 in
set_option maxRecDepth 100000 in
theorem k_X0_faultOfComing (l : Launch) (E : zE) (c : zC) (mo : zM) (j : Nat) (i : Int32) (hj : kd j = 6) : Met l yX0_faultOfComing wsX0_faultOfComing (zR 1 20) (zP E c mo [.ref (zl E j), .int i]) (cQi E (fCome c j i) c mo) 0 0 (zA E) := by
  refine z_ent (cc := cX0_faultOfComing) (maxL := 3) (ret := (some .int)) (vs := [.ref (zl E j), .int i]) (by decide) rfl (Nat.le_of_ble_eq_true rfl) ?_
  intro p e s m below meth cd ls hx hb hr hml hown hts hlocks hl hw
  have hl : lv_has ls 3 [(0, .ref (zl E j)), (1, .int i)] := hl
  have hown : s.vm.findClass RX0 = some m.cls := hown
  have hin0 : ∀ w ∈ u_ws RX0 TX0 4, w ∈ wsX0_faultOfComing := by decide +kernel
  refine lv_aload_n hx hb dX0_faultOfComing_0 rfl (lv_at hl 0 rfl) ?_
  refine z_calli (rest := []) (va_runV (As := []) (rest := []) ⟨hx, hb, hml, hown, hts⟩ (k_X0_faultOfRow l E c mo j hj) (cwV 0 hts gX0_faultOfComing_X0_faultOfRow rfl rfl rfl (by decide +kernel) ⟨Nat.le_of_ble_eq_true rfl, Nat.le_of_ble_eq_true rfl⟩) (z_preV hw (kd6l hj) (zG_6 hj) rfl []) rfl rfl hl.1 rfl (lv_room (Nat.le_of_ble_eq_true rfl)) dX0_faultOfComing_1 ⟨Nat.le_of_ble_eq_true rfl, Nat.le_of_ble_eq_true rfl⟩) hw (fun H locs hw => ?_)
  refine lv_istore_n (lv' := [(2, .int (fRow c j)), (0, .ref (zl E j)), (1, .int i)]) hx hb dX0_faultOfComing_4 rfl hl (by decide) rfl (fun ls hl => ?_)
  refine lv_iload_n hx hb dX0_faultOfComing_5 rfl (lv_at hl 0 rfl) ?_
  refine lv_if_eq (tgt := 11) hx hb dX0_faultOfComing_6 (by decide) (fun q_1 => ?_) (fun q_1 => ?_)
  · have _ := hx
    refine lv_iload_n hx hb dX0_faultOfComing_11 rfl (lv_at hl 2 rfl) ?_
    refine lv_if_lt (tgt := 23) hx hb dX0_faultOfComing_12 (by decide) (fun q_2 => ?_) (fun q_2 => ?_)
    · have _ := hx
      refine lv_iconst (v := 3) hx hb dX0_faultOfComing_23 (by decide) ?_
      refine lv_goto (tgt := 28) hx hb dX0_faultOfComing_24 (by decide) ?_
      exact z_iret hx hb hr hlocks hw dX0_faultOfComing_28 (by first | (simp [fCome, q_1, q_2]; done) | (simp_all [fCome]; done)) rfl rfl
    · have _ := hx
      refine lv_iload_n hx hb dX0_faultOfComing_15 rfl (lv_at hl 2 rfl) ?_
      refine lv_aload_n hx hb dX0_faultOfComing_16 rfl (lv_at hl 1 rfl) ?_
      refine z_get (i := j) hx hb hts hin0 hown hw (kd6l hj) (zG_6 hj) rfl 2 (by decide) (hts (.fieldLink RX0 22 "SeedDrawers$Content" "places" "I") (by decide +kernel)) rfl rfl dX0_faultOfComing_17 ?_
      refine lv_icmp_lt (tgt := 27) hx hb dX0_faultOfComing_20 (by decide) (fun q_3 => ?_) (fun q_3 => ?_)
      · have _ := hx
        refine lv_iconst (v := 0) hx hb dX0_faultOfComing_27 (by decide) ?_
        exact z_iret hx hb hr hlocks hw dX0_faultOfComing_28 (by first | (simp [fCome, q_1, q_2, q_3]; done) | (simp_all [fCome]; done)) rfl rfl
      · have _ := hx
        refine lv_iconst (v := 3) hx hb dX0_faultOfComing_23 (by decide) ?_
        refine lv_goto (tgt := 28) hx hb dX0_faultOfComing_24 (by decide) ?_
        exact z_iret hx hb hr hlocks hw dX0_faultOfComing_28 (by first | (simp [fCome, q_1, q_2, q_3]; done) | (simp_all [fCome]; done)) rfl rfl
  · have _ := hx
    refine lv_iload_n hx hb dX0_faultOfComing_9 rfl (lv_at hl 0 rfl) ?_
    exact z_iret hx hb hr hlocks hw dX0_faultOfComing_10 (by first | (simp [fCome, q_1]; done) | (simp_all [fCome]; done)) rfl rfl
set_option maxHeartbeats 4000000 in
set_option maxRecDepth 100000 in
theorem k_X0_faultOfLaying (l : Launch) (E : zE) (c : zC) (mo : zM) (j : Nat) (i : Int32) (k : Int32) (hj : kd j = 6) : Met l yX0_faultOfLaying wsX0_faultOfLaying (zR 2 42) (zP E c mo [.ref (zl E j), .int i, .int k]) (cQi E (fLay c j i k) c mo) 0 0 (zA E) := by
  refine z_ent (cc := cX0_faultOfLaying) (maxL := 4) (ret := (some .int)) (vs := [.ref (zl E j), .int i, .int k]) (by decide) rfl (Nat.le_of_ble_eq_true rfl) ?_
  intro p e s m below meth cd ls hx hb hr hml hown hts hlocks hl hw
  have hl : lv_has ls 4 [(0, .ref (zl E j)), (1, .int i), (2, .int k)] := hl
  have hown : s.vm.findClass RX0 = some m.cls := hown
  have hin0 : ∀ w ∈ u_ws RX0 TX0 4, w ∈ wsX0_faultOfLaying := by decide +kernel
  refine lv_aload_n hx hb dX0_faultOfLaying_0 rfl (lv_at hl 0 rfl) ?_
  refine lv_iload_n hx hb dX0_faultOfLaying_1 rfl (lv_at hl 1 rfl) ?_
  refine z_calli (rest := []) (va_runV (As := [.int i]) (rest := []) ⟨hx, hb, hml, hown, hts⟩ (k_X0_faultOfComing l E c mo j i hj) (cwV 1 hts gX0_faultOfLaying_X0_faultOfComing rfl rfl rfl (by decide +kernel) ⟨Nat.le_of_ble_eq_true rfl, Nat.le_of_ble_eq_true rfl⟩) (z_preV hw (kd6l hj) (zG_6 hj) rfl [.int i]) rfl rfl hl.1 rfl (lv_room (Nat.le_of_ble_eq_true rfl)) dX0_faultOfLaying_2 ⟨Nat.le_of_ble_eq_true rfl, Nat.le_of_ble_eq_true rfl⟩) hw (fun H locs hw => ?_)
  refine lv_istore_n (lv' := [(3, .int (fCome c j i)), (0, .ref (zl E j)), (1, .int i), (2, .int k)]) hx hb dX0_faultOfLaying_5 rfl hl (by decide) rfl (fun ls hl => ?_)
  refine lv_iload_n hx hb dX0_faultOfLaying_6 rfl (lv_at hl 0 rfl) ?_
  refine lv_if_eq (tgt := 12) hx hb dX0_faultOfLaying_7 (by decide) (fun q_1 => ?_) (fun q_1 => ?_)
  · have _ := hx
    refine lv_iload_n hx hb dX0_faultOfLaying_12 rfl (lv_at hl 3 rfl) ?_
    refine lv_aload_n hx hb dX0_faultOfLaying_13 rfl (lv_at hl 1 rfl) ?_
    refine z_get (i := j) hx hb hts hin0 hown hw (kd6l hj) (zG_6 hj) rfl 0 (by decide) (hts (.fieldLink RX0 15 "SeedDrawers$Content" "has" "I") (by decide +kernel)) rfl rfl dX0_faultOfLaying_14 ?_
    refine lv_iconst (v := 2) hx hb dX0_faultOfLaying_17 (by decide) ?_
    refine lv_isub hx hb dX0_faultOfLaying_18 ?_
    refine z_calli (rest := []) (va_runSN (As := [.int k, .int ((c.1 j 0) - 2)]) (rest := []) ⟨hx, hb, hml, hown, hts⟩ (k_X2_fits l E c mo k ((c.1 j 0) - 2) ) ⟨va_cnB 2 hts gX0_faultOfLaying_X2_fits_n33 rfl rfl rfl hw.1.2.2.2.2 (hts (.initialized RX2) (by decide +kernel)) (by decide +kernel) ⟨Nat.le_of_ble_eq_true rfl, Nat.le_of_ble_eq_true rfl⟩, hts (.static yX2_fits) (by decide +kernel), trivial⟩ (z_preS hw [.int k, .int ((c.1 j 0) - 2)]) rfl rfl hl.1 rfl (lv_room (Nat.le_of_ble_eq_true rfl)) dX0_faultOfLaying_19 ⟨Nat.le_of_ble_eq_true rfl, Nat.le_of_ble_eq_true rfl⟩) hw (fun H locs hw => ?_)
    refine lv_if_eq (tgt := 29) hx hb dX0_faultOfLaying_22 (by decide) (fun q_2 => ?_) (fun q_2 => ?_)
    · have _ := hx
      refine lv_iconst (v := 4) hx hb dX0_faultOfLaying_29 (by decide) ?_
      exact z_iret hx hb hr hlocks hw dX0_faultOfLaying_30 (by first | (simp [fLay, q_1, q_2]; done) | (simp_all [fLay]; done)) rfl rfl
    · have _ := hx
      refine lv_iconst (v := 0) hx hb dX0_faultOfLaying_25 (by decide) ?_
      refine lv_goto (tgt := 30) hx hb dX0_faultOfLaying_26 (by decide) ?_
      exact z_iret hx hb hr hlocks hw dX0_faultOfLaying_30 (by first | (simp [fLay, q_1, q_2]; done) | (simp_all [fLay]; done)) rfl rfl
  · have _ := hx
    refine lv_iload_n hx hb dX0_faultOfLaying_10 rfl (lv_at hl 0 rfl) ?_
    exact z_iret hx hb hr hlocks hw dX0_faultOfLaying_11 (by first | (simp [fLay, q_1]; done) | (simp_all [fLay]; done)) rfl rfl
set_option maxHeartbeats 4000000 in
set_option maxRecDepth 100000 in
theorem k_X0_isRow (l : Launch) (E : zE) (c : zC) (mo : zM) (j : Nat) (hj : kd j = 6) : Met l yX0_isRow wsX0_isRow (zR 0 0) (zP E c mo [.ref (zl E j)]) (cQi E (fIsR c j) c mo) 0 0 (zA E) := by
  refine z_ent (cc := cX0_isRow) (maxL := 1) (ret := (some .boolean)) (vs := [.ref (zl E j)]) (by decide) rfl (Nat.le_of_ble_eq_true rfl) ?_
  intro p e s m below meth cd ls hx hb hr hml hown hts hlocks hl hw
  have hl : lv_has ls 1 [(0, .ref (zl E j))] := hl
  have hown : s.vm.findClass RX0 = some m.cls := hown
  have hin0 : ∀ w ∈ u_ws RX0 TX0 4, w ∈ wsX0_isRow := by decide +kernel
  refine lv_aload_n hx hb dX0_isRow_0 rfl (lv_at hl 0 rfl) ?_
  refine z_get (i := j) hx hb hts hin0 hown hw (kd6l hj) (zG_6 hj) rfl 0 (by decide) (hts (.fieldLink RX0 15 "SeedDrawers$Content" "has" "I") (by decide +kernel)) rfl rfl dX0_isRow_1 ?_
  refine lv_iconst (v := 2) hx hb dX0_isRow_4 (by decide) ?_
  refine lv_icmp_lt (tgt := 12) hx hb dX0_isRow_5 (by decide) (fun q_1 => ?_) (fun q_1 => ?_)
  · have _ := hx
    refine lv_iconst (v := 0) hx hb dX0_isRow_12 (by decide) ?_
    exact z_zret hx hb hr hlocks hw dX0_isRow_13 rfl (by first | (simp [fIsR, q_1]; done) | (simp_all [fIsR]; done)) rfl rfl
  · have _ := hx
    refine lv_iconst (v := 1) hx hb dX0_isRow_8 (by decide) ?_
    refine lv_goto (tgt := 13) hx hb dX0_isRow_9 (by decide) ?_
    exact z_zret hx hb hr hlocks hw dX0_isRow_13 rfl (by first | (simp [fIsR, q_1]; done) | (simp_all [fIsR]; done)) rfl rfl
set_option maxHeartbeats 4000000 in
set_option maxRecDepth 100000 in
theorem k_X0_kindAt (l : Launch) (E : zE) (c : zC) (mo : zM) (j : Nat) (i : Int32) (hj : kd j = 6) (hi : vp_in i 12) : Met l yX0_kindAt wsX0_kindAt (zR 0 0) (zP E c mo [.ref (zl E j), .int i]) (cQi E (fKind c j i) c mo) 0 0 (zA E) := by
  refine z_ent (cc := cX0_kindAt) (maxL := 3) (ret := (some .int)) (vs := [.ref (zl E j), .int i]) (by decide) rfl (Nat.le_of_ble_eq_true rfl) ?_
  intro p e s m below meth cd ls hx hb hr hml hown hts hlocks hl hw
  have hl : lv_has ls 3 [(0, .ref (zl E j)), (1, .int i)] := hl
  have hown : s.vm.findClass RX0 = some m.cls := hown
  have hin0 : ∀ w ∈ u_ws RX0 TX0 4, w ∈ wsX0_kindAt := by decide +kernel
  refine lv_aload_n hx hb dX0_kindAt_0 rfl (lv_at hl 0 rfl) ?_
  refine z_get (i := j) hx hb hts hin0 hown hw (kd6l hj) (zG_6 hj) rfl 0 (by decide) (hts (.fieldLink RX0 15 "SeedDrawers$Content" "has" "I") (by decide +kernel)) rfl rfl dX0_kindAt_1 ?_
  refine lv_iconst (v := 2) hx hb dX0_kindAt_4 (by decide) ?_
  refine lv_isub hx hb dX0_kindAt_5 ?_
  refine lv_istore_n (lv' := [(2, .int ((c.1 j 0) - 2)), (0, .ref (zl E j)), (1, .int i)]) hx hb dX0_kindAt_6 rfl hl (by decide) rfl (fun ls hl => ?_)
  refine lv_iload_n hx hb dX0_kindAt_7 rfl (lv_at hl 0 rfl) ?_
  refine lv_bipush (v := 6) hx hb dX0_kindAt_8 (by decide) ?_
  refine lv_icmp_ne (tgt := 29) hx hb dX0_kindAt_10 (by decide) (fun q_1 => ?_) (fun q_1 => ?_)
  · have _ := hx
    refine lv_iload_n hx hb dX0_kindAt_29 rfl (lv_at hl 0 rfl) ?_
    exact z_iret hx hb hr hlocks hw dX0_kindAt_30 (by first | (simp [fKind, q_1]; done) | (simp_all [fKind]; done)) rfl rfl
  · have _ := hx
    refine lv_aload_n hx hb dX0_kindAt_13 rfl (lv_at hl 1 rfl) ?_
    refine z_get (i := j) hx hb hts hin0 hown hw (kd6l hj) (zG_6 hj) rfl 3 (by decide) (hts (.fieldLink RX0 9 "SeedDrawers$Content" "values" "[J") (by decide +kernel)) rfl rfl dX0_kindAt_14 ?_
    refine lv_iload_n hx hb dX0_kindAt_17 rfl (lv_at hl 2 rfl) ?_
    refine y_lald (i := j + 9) hx hb hw (kd65l hj) (zG_5 (kd65 hj)) (by assumption) (k := i.toNatClampNeg) rfl dX0_kindAt_18 ?_
    refine lv_lconst (v := 0) hx hb dX0_kindAt_19 (by decide) ?_
    refine W.lcmp hx hb dX0_kindAt_20 ?_
    refine lv_if_ne (tgt := 29) hx hb dX0_kindAt_21 (by decide) (fun q_2 => ?_) (fun q_2 => ?_)
    · have _ := hx
      refine lv_iload_n hx hb dX0_kindAt_29 rfl (lv_at hl 0 rfl) ?_
      exact z_iret hx hb hr hlocks hw dX0_kindAt_30 (by first | (simp [fKind, q_1, q_2]; done) | (simp_all [fKind]; done)) rfl rfl
    · have _ := hx
      refine lv_bipush (v := (-9)) hx hb dX0_kindAt_24 (by decide) ?_
      refine lv_goto (tgt := 30) hx hb dX0_kindAt_26 (by decide) ?_
      exact z_iret hx hb hr hlocks hw dX0_kindAt_30 (by first | (simp [fKind, q_1, q_2]; done) | (simp_all [fKind]; done)) rfl rfl
set_option maxHeartbeats 4000000 in
set_option maxRecDepth 100000 in
theorem k_X0_becomeNote (l : Launch) (E : zE) (c : zC) (mo : zM) (j : Nat) (v : Int32) (hj : kd j = 6) : Met l yX0_becomeNote wsX0_becomeNote (zR 0 0) (zP E c mo [.ref (zl E j), .int v]) (cQv E (bNote c j v) mo) 0 0 (zA E) := by
  refine z_ent (cc := cX0_becomeNote) (maxL := 2) (ret := none) (vs := [.ref (zl E j), .int v]) (by decide) rfl (Nat.le_of_ble_eq_true rfl) ?_
  intro p e s m below meth cd ls hx hb hr hml hown hts hlocks hl hw
  have hl : lv_has ls 2 [(0, .ref (zl E j)), (1, .int v)] := hl
  have hown : s.vm.findClass RX0 = some m.cls := hown
  have hin0 : ∀ w ∈ u_ws RX0 TX0 4, w ∈ wsX0_becomeNote := by decide +kernel
  refine lv_aload_n hx hb dX0_becomeNote_0 rfl (lv_at hl 0 rfl) ?_
  refine lv_iconst (v := 1) hx hb dX0_becomeNote_1 (by decide) ?_
  refine z_put (i := j) (ty := .int) hx hb hts hin0 tyX0 tyX0_ok nmX0 hown hw (kd6l hj) (zG_6 hj) rfl 0 (by decide) (hts (.fieldLink RX0 15 "SeedDrawers$Content" "has" "I") (by decide +kernel)) rfl rfl (by decide +kernel) rfl rfl (Nat.le_of_ble_eq_true rfl) (zU6_0 E c mo hj 1) dX0_becomeNote_2 (fun H locs hw => ?_)
  refine lv_aload_n hx hb dX0_becomeNote_5 rfl (lv_at hl 0 rfl) ?_
  refine lv_iload_n hx hb dX0_becomeNote_6 rfl (lv_at hl 1 rfl) ?_
  refine z_put (i := j) (ty := .int) hx hb hts hin0 tyX0 tyX0_ok nmX0 hown hw (kd6l hj) (zG_6 hj) rfl 1 (by decide) (hts (.fieldLink RX0 19 "SeedDrawers$Content" "noteNumber" "I") (by decide +kernel)) rfl rfl (by decide +kernel) rfl rfl (Nat.le_of_ble_eq_true rfl) (zU6_1 E (sI c j 0 1) mo hj v) dX0_becomeNote_7 (fun H locs hw => ?_)
  exact z_vret hx hb hr hlocks hw dX0_becomeNote_10 (by first | (simp [bNote]; done) | (simp_all [bNote]; done)) rfl
set_option maxHeartbeats 4000000 in
set_option maxRecDepth 100000 in
theorem k_X0_becomeRow (l : Launch) (E : zE) (c : zC) (mo : zM) (j : Nat) (k : Int32) (n : Int32) (hj : kd j = 6) : Met l yX0_becomeRow wsX0_becomeRow (zR 0 0) (zP E c mo [.ref (zl E j), .int k, .int n]) (cQv E (bRow c j k n) mo) 0 0 (zA E) := by
  refine z_ent (cc := cX0_becomeRow) (maxL := 4) (ret := none) (vs := [.ref (zl E j), .int k, .int n]) (by decide) rfl (Nat.le_of_ble_eq_true rfl) ?_
  intro p e s m below meth cd ls hx hb hr hml hown hts hlocks hl hw
  have hl : lv_has ls 4 [(0, .ref (zl E j)), (1, .int k), (2, .int n)] := hl
  have hown : s.vm.findClass RX0 = some m.cls := hown
  have hin0 : ∀ w ∈ u_ws RX0 TX0 4, w ∈ wsX0_becomeRow := by decide +kernel
  have hi0 : True := trivial
  refine lv_aload_n hx hb dX0_becomeRow_0 rfl (lv_at hl 0 rfl) ?_
  refine lv_iconst (v := 2) hx hb dX0_becomeRow_1 (by decide) ?_
  refine lv_iload_n hx hb dX0_becomeRow_2 rfl (lv_at hl 1 rfl) ?_
  refine lv_iadd hx hb dX0_becomeRow_3 ?_
  refine z_put (i := j) (ty := .int) hx hb hts hin0 tyX0 tyX0_ok nmX0 hown hw (kd6l hj) (zG_6 hj) rfl 0 (by decide) (hts (.fieldLink RX0 15 "SeedDrawers$Content" "has" "I") (by decide +kernel)) rfl rfl (by decide +kernel) rfl rfl (Nat.le_of_ble_eq_true rfl) (zU6_0 E c mo hj (2 + k)) dX0_becomeRow_4 (fun H locs hw => ?_)
  refine lv_aload_n hx hb dX0_becomeRow_7 rfl (lv_at hl 0 rfl) ?_
  refine lv_iconst (v := 0) hx hb dX0_becomeRow_8 (by decide) ?_
  refine z_put (i := j) (ty := .int) hx hb hts hin0 tyX0 tyX0_ok nmX0 hown hw (kd6l hj) (zG_6 hj) rfl 1 (by decide) (hts (.fieldLink RX0 19 "SeedDrawers$Content" "noteNumber" "I") (by decide +kernel)) rfl rfl (by decide +kernel) rfl rfl (Nat.le_of_ble_eq_true rfl) (zU6_1 E (sI c j 0 (2 + k)) mo hj 0) dX0_becomeRow_9 (fun H locs hw => ?_)
  refine lv_aload_n hx hb dX0_becomeRow_12 rfl (lv_at hl 0 rfl) ?_
  refine lv_iload_n hx hb dX0_becomeRow_13 rfl (lv_at hl 2 rfl) ?_
  refine z_put (i := j) (ty := .int) hx hb hts hin0 tyX0 tyX0_ok nmX0 hown hw (kd6l hj) (zG_6 hj) rfl 2 (by decide) (hts (.fieldLink RX0 22 "SeedDrawers$Content" "places" "I") (by decide +kernel)) rfl rfl (by decide +kernel) rfl rfl (Nat.le_of_ble_eq_true rfl) (zU6_2 E (sI (sI c j 0 (2 + k)) j 1 0) mo hj n) dX0_becomeRow_14 (fun H locs hw => ?_)
  refine lv_iconst (v := 0) hx hb dX0_becomeRow_17 (by decide) ?_
  refine lv_istore_n (lv' := [(3, .int 0), (0, .ref (zl E j)), (1, .int k), (2, .int n)]) hx hb dX0_becomeRow_18 rfl hl (by decide) rfl (fun ls hl => ?_)
  have loop19 : ∀ (n_ : Nat) (i : Nat) (c1 : zC) (H : Heap) (locs : List Loc) (ls : Array Slot), 12 - i < n_ → (i ≤ 12) → (zer j (12 - i) i c1 = bRow c j k n) → zW E c1 mo s s.heap H locs → lv_has ls 4 [(3, .int (nI i)), (0, .ref (zl E j))] → W p l e (headSpec wsX0_becomeRow (zR 0 0)).room s m ([.ref (zl E j), .int k, .int n] : List Value).toArray below meth cd H locs 0 0 (MQ below (cQv E (bRow c j k n) mo) ([.ref (zl E j), .int k, .int n] : List Value).toArray s 0 0 (zA E)) (F0 m 19 ls []) := by
    intro n_
    induction n_ with
    | zero => intro i c1 H locs ls hn_; exact absurd hn_ (Nat.not_lt_zero _)
    | succ n_ ih =>
      intro i c1 H locs ls hn_ hi hR hw hl
      refine lv_iload_n hx hb dX0_becomeRow_19 rfl (lv_at hl 0 rfl) ?_
      refine lv_bipush (v := 12) hx hb dX0_becomeRow_20 (by decide) ?_
      refine lv_icmp_ge (tgt := 38) hx hb dX0_becomeRow_22 (by decide) (fun q_1 => ?_) (fun q_1 => ?_)
      · have _ := hx
        have hk : 12 ≤ i := le_le (b := 12) q_1 (by omega) (by omega)
        rw [show 12 - i = 0 by omega] at hR
        exact z_vret hx hb hr hlocks hw dX0_becomeRow_38 (by exact hR) rfl
      · have _ := hx
        have hk : i < 12 := nle_lt (b := 12) q_1 (by omega) (by omega)
        refine lv_aload_n hx hb dX0_becomeRow_25 rfl (lv_at hl 1 rfl) ?_
        refine z_get (i := j) hx hb hts hin0 hown hw (kd6l hj) (zG_6 hj) rfl 3 (by decide) (hts (.fieldLink RX0 9 "SeedDrawers$Content" "values" "[J") (by decide +kernel)) rfl rfl dX0_becomeRow_26 ?_
        refine lv_iload_n hx hb dX0_becomeRow_29 rfl (lv_at hl 0 rfl) ?_
        refine lv_lconst (v := 0) hx hb dX0_becomeRow_30 (by decide) ?_
        refine y_last5 (i := j + 9) hx hb hw (kd65l hj) (kd65 hj) (vp_in_nI (N := 12) (by omega) (by omega)) (k := i) (nI_clamp (by omega)) dX0_becomeRow_31 (fun H locs hw => ?_)
        refine lv_iinc (v := (nI (i + 1))) (lv' := [(3, .int (nI (i + 1))), (0, .ref (zl E j))]) hx hb dX0_becomeRow_32 hl (k := 0) rfl (nI_1 i) (by decide) rfl (fun ls hl => ?_)
        refine lv_goto (tgt := 19) hx hb dX0_becomeRow_35 (by decide) ?_
        rw [show 12 - i = (12 - (i + 1)) + 1 by omega] at hR
        exact ih (i + 1) (sJ c1 (j + 9) i 0) _ _ _ (by omega) (by omega) hR hw (lv_sub hl [0, 1] rfl)
  exact loop19 (12 + 1) 0 _ _ _ _ (by omega) (by omega) rfl hw (lv_sub hl [0, 1] rfl)
set_option maxHeartbeats 4000000 in
set_option maxRecDepth 100000 in
theorem k_X0_total (l : Launch) (E : zE) (c : zC) (mo : zM) (j : Nat) (hj : kd j = 6) (hp : plOk c j) : Met l yX0_total wsX0_total (zR 0 0) (zP E c mo [.ref (zl E j)]) (cQl E (fTot c j) c mo) 0 0 (zA E) := by
  refine z_ent (cc := cX0_total) (maxL := 4) (ret := (some .long)) (vs := [.ref (zl E j)]) (by decide) rfl (Nat.le_of_ble_eq_true rfl) ?_
  intro p e s m below meth cd ls hx hb hr hml hown hts hlocks hl hw
  have hl : lv_has ls 4 [(0, .ref (zl E j))] := hl
  have hown : s.vm.findClass RX0 = some m.cls := hown
  have hin0 : ∀ w ∈ u_ws RX0 TX0 4, w ∈ wsX0_total := by decide +kernel
  obtain ⟨hp1, hp2⟩ := hp
  refine lv_lconst (v := 0) hx hb dX0_total_0 (by decide) ?_
  refine lv_lstore_n (lv' := [(1, .long 0), (0, .ref (zl E j))]) hx hb dX0_total_1 rfl hl (by decide) rfl (fun ls hl => ?_)
  refine lv_iconst (v := 0) hx hb dX0_total_2 (by decide) ?_
  refine lv_istore_n (lv' := [(3, .int 0), (1, .long 0), (0, .ref (zl E j))]) hx hb dX0_total_3 rfl hl (by decide) rfl (fun ls hl => ?_)
  have loop4 : ∀ (n_ : Nat) (i : Nat) (a : Int64) (H : Heap) (locs : List Loc) (ls : Array Slot), pl c j - i < n_ → (i ≤ pl c j) → (sumN (c.2.1 (j + 9)) (pl c j - i) i a = fTot c j) → zW E c mo s s.heap H locs → lv_has ls 4 [(3, .int (nI i)), (1, .long a), (0, .ref (zl E j))] → W p l e (headSpec wsX0_total (zR 0 0)).room s m ([.ref (zl E j)] : List Value).toArray below meth cd H locs 0 0 (MQ below (cQl E (fTot c j) c mo) ([.ref (zl E j)] : List Value).toArray s 0 0 (zA E)) (F0 m 4 ls []) := by
    intro n_
    induction n_ with
    | zero => intro i a H locs ls hn_; exact absurd hn_ (Nat.not_lt_zero _)
    | succ n_ ih =>
      intro i a H locs ls hn_ hi hR hw hl
      refine lv_iload_n hx hb dX0_total_4 rfl (lv_at hl 0 rfl) ?_
      refine lv_aload_n hx hb dX0_total_5 rfl (lv_at hl 2 rfl) ?_
      refine z_get (i := j) hx hb hts hin0 hown hw (kd6l hj) (zG_6 hj) rfl 2 (by decide) (hts (.fieldLink RX0 22 "SeedDrawers$Content" "places" "I") (by decide +kernel)) rfl rfl dX0_total_6 ?_
      refine lv_icmp_ge (tgt := 27) hx hb dX0_total_9 (by decide) (fun q_1 => ?_) (fun q_1 => ?_)
      · have _ := hx
        rw [hp2] at q_1
        have hk : pl c j ≤ i := le_le q_1 (by omega) (by omega)
        rw [show pl c j - i = 0 by omega] at hR
        refine lv_lload_n hx hb dX0_total_27 rfl (lv_at hl 1 rfl) ?_
        exact z_lret hx hb hr hlocks hw dX0_total_28 (by exact hR) rfl rfl
      · have _ := hx
        rw [hp2] at q_1
        have hk : i < pl c j := nle_lt q_1 (by omega) (by omega)
        refine lv_lload_n hx hb dX0_total_12 rfl (lv_at hl 1 rfl) ?_
        refine lv_aload_n hx hb dX0_total_13 rfl (lv_at hl 2 rfl) ?_
        refine z_get (i := j) hx hb hts hin0 hown hw (kd6l hj) (zG_6 hj) rfl 3 (by decide) (hts (.fieldLink RX0 9 "SeedDrawers$Content" "values" "[J") (by decide +kernel)) rfl rfl dX0_total_14 ?_
        refine lv_iload_n hx hb dX0_total_17 rfl (lv_at hl 0 rfl) ?_
        refine y_lald (i := j + 9) hx hb hw (kd65l hj) (zG_5 (kd65 hj)) (vp_in_nI (by omega) (by omega)) (k := i) (nI_clamp (by omega)) dX0_total_18 ?_
        refine lv_ladd hx hb dX0_total_19 ?_
        refine lv_lstore_n (lv' := [(1, .long (a + (c.2.1 (j + 9) i))), (3, .int (nI i)), (0, .ref (zl E j))]) hx hb dX0_total_20 rfl hl (by decide) rfl (fun ls hl => ?_)
        refine lv_iinc (v := (nI (i + 1))) (lv' := [(3, .int (nI (i + 1))), (1, .long (a + (c.2.1 (j + 9) i))), (0, .ref (zl E j))]) hx hb dX0_total_21 hl (k := 1) rfl (nI_1 i) (by decide) rfl (fun ls hl => ?_)
        refine lv_goto (tgt := 4) hx hb dX0_total_24 (by decide) ?_
        rw [show pl c j - i = (pl c j - (i + 1)) + 1 by omega] at hR
        exact ih (i + 1) (a + (c.2.1 (j + 9) i)) _ _ _ (by omega) (by omega) hR hw (lv_sub hl [0, 1, 2] rfl)
  exact loop4 (pl c j + 1) 0 0 _ _ _ (by omega) (by omega) rfl hw (lv_sub hl [0, 1, 2] rfl)
set_option maxHeartbeats 4000000 in
set_option maxRecDepth 100000 in
theorem k_X0_firstPlaceOf (l : Launch) (E : zE) (c : zC) (mo : zM) (j : Nat) (k : Int32) (v : Int64) (hj : kd j = 6) (hp : plOk c j) : Met l yX0_firstPlaceOf wsX0_firstPlaceOf (zR 1 22) (zP E c mo [.ref (zl E j), .int k, .long v]) (cQi E (fFpl c j k v) c mo) 0 0 (zA E) := by
  refine z_ent (cc := cX0_firstPlaceOf) (maxL := 5) (ret := (some .int)) (vs := [.ref (zl E j), .int k, .long v]) (by decide) rfl (Nat.le_of_ble_eq_true rfl) ?_
  intro p e s m below meth cd ls hx hb hr hml hown hts hlocks hl hw
  have hl : lv_has ls 5 [(0, .ref (zl E j)), (1, .int k), (2, .long v)] := hl
  have hown : s.vm.findClass RX0 = some m.cls := hown
  have hin0 : ∀ w ∈ u_ws RX0 TX0 4, w ∈ wsX0_firstPlaceOf := by decide +kernel
  obtain ⟨hp1, hp2⟩ := hp
  refine lv_iconst (v := 0) hx hb dX0_firstPlaceOf_0 (by decide) ?_
  refine lv_istore (lv' := [(4, .int 0), (0, .ref (zl E j)), (1, .int k), (2, .long v)]) hx hb dX0_firstPlaceOf_1 hl (by decide) rfl (fun ls hl => ?_)
  have loop3 : ∀ (n_ : Nat) (i : Nat) (H : Heap) (locs : List Loc) (ls : Array Slot), pl c j - i < n_ → (i ≤ pl c j) → (fplN c j k v (pl c j - i) i = fFpl c j k v) → zW E c mo s s.heap H locs → lv_has ls 5 [(4, .int (nI i)), (0, .ref (zl E j)), (1, .int k), (2, .long v)] → W p l e (headSpec wsX0_firstPlaceOf (zR 1 22)).room s m ([.ref (zl E j), .int k, .long v] : List Value).toArray below meth cd H locs 0 0 (MQ below (cQi E (fFpl c j k v) c mo) ([.ref (zl E j), .int k, .long v] : List Value).toArray s 0 0 (zA E)) (F0 m 3 ls []) := by
    intro n_
    induction n_ with
    | zero => intro i H locs ls hn_; exact absurd hn_ (Nat.not_lt_zero _)
    | succ n_ ih =>
      intro i H locs ls hn_ hi hR hw hl
      refine lv_iload hx hb dX0_firstPlaceOf_3 (lv_at hl 0 rfl) ?_
      refine lv_aload_n hx hb dX0_firstPlaceOf_5 rfl (lv_at hl 1 rfl) ?_
      refine z_get (i := j) hx hb hts hin0 hown hw (kd6l hj) (zG_6 hj) rfl 2 (by decide) (hts (.fieldLink RX0 22 "SeedDrawers$Content" "places" "I") (by decide +kernel)) rfl rfl dX0_firstPlaceOf_6 ?_
      refine lv_icmp_ge (tgt := 43) hx hb dX0_firstPlaceOf_9 (by decide) (fun q_1 => ?_) (fun q_1 => ?_)
      · have _ := hx
        rw [hp2] at q_1
        have hk : pl c j ≤ i := le_le q_1 (by omega) (by omega)
        rw [show pl c j - i = 0 by omega] at hR
        refine lv_bipush (v := (-9)) hx hb dX0_firstPlaceOf_43 (by decide) ?_
        exact z_iret hx hb hr hlocks hw dX0_firstPlaceOf_45 (by exact hR) rfl rfl
      · have _ := hx
        rw [hp2] at q_1
        have hk : i < pl c j := nle_lt q_1 (by omega) (by omega)
        rw [show pl c j - i = (pl c j - (i + 1)) + 1 by omega] at hR
        refine lv_aload_n hx hb dX0_firstPlaceOf_12 rfl (lv_at hl 1 rfl) ?_
        refine lv_iload hx hb dX0_firstPlaceOf_13 (lv_at hl 0 rfl) ?_
        refine z_calli (rest := []) (va_runV (As := [.int (nI i)]) (rest := []) ⟨hx, hb, hml, hown, hts⟩ (k_X0_kindAt l E c mo j (nI i) hj (vp_in_nI (by omega) (by omega))) (cwV 1 hts gX0_firstPlaceOf_X0_kindAt rfl rfl rfl (by decide +kernel) ⟨Nat.le_of_ble_eq_true rfl, Nat.le_of_ble_eq_true rfl⟩) (z_preV hw (kd6l hj) (zG_6 hj) rfl [.int (nI i)]) rfl rfl hl.1 rfl (lv_room (Nat.le_of_ble_eq_true rfl)) dX0_firstPlaceOf_15 ⟨Nat.le_of_ble_eq_true rfl, Nat.le_of_ble_eq_true rfl⟩) hw (fun H locs hw => ?_)
        refine lv_iload_n hx hb dX0_firstPlaceOf_18 rfl (lv_at hl 2 rfl) ?_
        refine lv_icmp_ne (tgt := 37) hx hb dX0_firstPlaceOf_19 (by decide) (fun q_2 => ?_) (fun q_2 => ?_)
        · have _ := hx
          refine lv_iinc (v := (nI (i + 1))) (lv' := [(4, .int (nI (i + 1))), (0, .ref (zl E j)), (1, .int k), (2, .long v)]) hx hb dX0_firstPlaceOf_37 hl (k := 0) rfl (nI_1 i) (by decide) rfl (fun ls hl => ?_)
          refine lv_goto (tgt := 3) hx hb dX0_firstPlaceOf_40 (by decide) ?_
          exact ih (i + 1) _ _ _ (by omega) (by omega) (by simpa [fplN, q_2] using hR) hw (lv_sub hl [0, 1, 2, 3] rfl)
        · have _ := hx
          refine lv_aload_n hx hb dX0_firstPlaceOf_22 rfl (lv_at hl 1 rfl) ?_
          refine z_get (i := j) hx hb hts hin0 hown hw (kd6l hj) (zG_6 hj) rfl 3 (by decide) (hts (.fieldLink RX0 9 "SeedDrawers$Content" "values" "[J") (by decide +kernel)) rfl rfl dX0_firstPlaceOf_23 ?_
          refine lv_iload hx hb dX0_firstPlaceOf_26 (lv_at hl 0 rfl) ?_
          refine y_lald (i := j + 9) hx hb hw (kd65l hj) (zG_5 (kd65 hj)) (vp_in_nI (by omega) (by omega)) (k := i) (nI_clamp (by omega)) dX0_firstPlaceOf_28 ?_
          refine lv_lload_n hx hb dX0_firstPlaceOf_29 rfl (lv_at hl 3 rfl) ?_
          refine W.lcmp hx hb dX0_firstPlaceOf_30 ?_
          refine lv_if_ne (tgt := 37) hx hb dX0_firstPlaceOf_31 (by decide) (fun q_3 => ?_) (fun q_3 => ?_)
          · have _ := hx
            refine lv_iinc (v := (nI (i + 1))) (lv' := [(4, .int (nI (i + 1))), (0, .ref (zl E j)), (1, .int k), (2, .long v)]) hx hb dX0_firstPlaceOf_37 hl (k := 0) rfl (nI_1 i) (by decide) rfl (fun ls hl => ?_)
            refine lv_goto (tgt := 3) hx hb dX0_firstPlaceOf_40 (by decide) ?_
            exact ih (i + 1) _ _ _ (by omega) (by omega) (by simpa [fplN, q_2, q_3] using hR) hw (lv_sub hl [0, 1, 2, 3] rfl)
          · have _ := hx
            refine lv_iload hx hb dX0_firstPlaceOf_34 (lv_at hl 0 rfl) ?_
            exact z_iret hx hb hr hlocks hw dX0_firstPlaceOf_36 (by simpa [fplN, q_2, q_3] using hR) rfl rfl
  exact loop3 (pl c j + 1) 0 _ _ _ (by omega) (by omega) rfl hw (lv_sub hl [0, 1, 2, 3] rfl)
set_option maxHeartbeats 4000000 in
set_option maxRecDepth 100000 in
theorem k_X0_reverse (l : Launch) (E : zE) (c : zC) (mo : zM) (j : Nat) (hj : kd j = 6) (hp : plOk c j) : Met l yX0_reverse wsX0_reverse (zR 0 0) (zP E c mo [.ref (zl E j)]) (cQi E (c.1 j 2 / 2) (fRev c j) mo) 0 0 (zA E) := by
  refine z_ent (cc := cX0_reverse) (maxL := 5) (ret := (some .int)) (vs := [.ref (zl E j)]) (by decide) rfl (Nat.le_of_ble_eq_true rfl) ?_
  intro p e s m below meth cd ls hx hb hr hml hown hts hlocks hl hw
  have hl : lv_has ls 5 [(0, .ref (zl E j))] := hl
  have hown : s.vm.findClass RX0 = some m.cls := hown
  have hin0 : ∀ w ∈ u_ws RX0 TX0 4, w ∈ wsX0_reverse := by decide +kernel
  obtain ⟨hp1, hp2⟩ := hp
  have hpd : c.1 j 2 / 2 = nI (pl c j / 2) := by rw [hp2]; exact pk_div (a := pl c j) (d := 2) (by omega) (by omega) (by omega)
  refine lv_aload_n hx hb dX0_reverse_0 rfl (lv_at hl 0 rfl) ?_
  refine z_get (i := j) hx hb hts hin0 hown hw (kd6l hj) (zG_6 hj) rfl 2 (by decide) (hts (.fieldLink RX0 22 "SeedDrawers$Content" "places" "I") (by decide +kernel)) rfl rfl dX0_reverse_1 ?_
  refine lv_iconst (v := 2) hx hb dX0_reverse_4 (by decide) ?_
  refine lv_idiv hx hb dX0_reverse_5 (by decide) ?_
  refine lv_istore_n (lv' := [(1, .int ((c.1 j 2) / 2)), (0, .ref (zl E j))]) hx hb dX0_reverse_6 rfl hl (by decide) rfl (fun ls hl => ?_)
  refine lv_iconst (v := 0) hx hb dX0_reverse_7 (by decide) ?_
  refine lv_istore_n (lv' := [(2, .int 0), (1, .int ((c.1 j 2) / 2)), (0, .ref (zl E j))]) hx hb dX0_reverse_8 rfl hl (by decide) rfl (fun ls hl => ?_)
  have loop9 : ∀ (n_ : Nat) (k : Nat) (c1 : zC) (H : Heap) (locs : List Loc) (ls : Array Slot), pl c j / 2 - k < n_ → (k ≤ pl c j / 2) → (c1.1 j 2 = nI (pl c j)) → (revN j (pl c j) (pl c j / 2 - k) k c1 = fRev c j) → zW E c1 mo s s.heap H locs → lv_has ls 5 [(2, .int (nI k)), (1, .int (c.1 j 2 / 2)), (0, .ref (zl E j))] → W p l e (headSpec wsX0_reverse (zR 0 0)).room s m ([.ref (zl E j)] : List Value).toArray below meth cd H locs 0 0 (MQ below (cQi E (c.1 j 2 / 2) (fRev c j) mo) ([.ref (zl E j)] : List Value).toArray s 0 0 (zA E)) (F0 m 9 ls []) := by
    intro n_
    induction n_ with
    | zero => intro k c1 H locs ls hn_; exact absurd hn_ (Nat.not_lt_zero _)
    | succ n_ ih =>
      intro k c1 H locs ls hn_ hi hq hR hw hl
      refine lv_iload_n hx hb dX0_reverse_9 rfl (lv_at hl 0 rfl) ?_
      refine lv_iload_n hx hb dX0_reverse_10 rfl (lv_at hl 1 rfl) ?_
      refine lv_icmp_ge (tgt := 60) hx hb dX0_reverse_11 (by decide) (fun q_1 => ?_) (fun q_1 => ?_)
      · have _ := hx
        rw [hpd] at q_1
        have hk : pl c j / 2 ≤ k := le_le q_1 (by omega) (by omega)
        rw [show pl c j / 2 - k = 0 by omega] at hR
        refine lv_iload_n hx hb dX0_reverse_60 rfl (lv_at hl 1 rfl) ?_
        exact z_iret hx hb hr hlocks hw dX0_reverse_61 (by rfl) (by exact hR) rfl
      · have _ := hx
        rw [hpd] at q_1
        have hk : k < pl c j / 2 := nle_lt q_1 (by omega) (by omega)
        refine lv_aload_n hx hb dX0_reverse_14 rfl (lv_at hl 2 rfl) ?_
        refine z_get (i := j) hx hb hts hin0 hown hw (kd6l hj) (zG_6 hj) rfl 3 (by decide) (hts (.fieldLink RX0 9 "SeedDrawers$Content" "values" "[J") (by decide +kernel)) rfl rfl dX0_reverse_15 ?_
        refine lv_iload_n hx hb dX0_reverse_18 rfl (lv_at hl 0 rfl) ?_
        refine y_lald (i := j + 9) hx hb hw (kd65l hj) (zG_5 (kd65 hj)) (vp_in_nI (by omega) (by omega)) (k := k) (nI_clamp (by omega)) dX0_reverse_19 ?_
        refine lv_lstore_n (lv' := [(3, .long (c1.2.1 (j + 9) k)), (2, .int (nI k)), (1, .int (c.1 j 2 / 2)), (0, .ref (zl E j))]) hx hb dX0_reverse_20 rfl hl (by decide) rfl (fun ls hl => ?_)
        refine lv_aload_n hx hb dX0_reverse_21 rfl (lv_at hl 3 rfl) ?_
        refine z_get (i := j) hx hb hts hin0 hown hw (kd6l hj) (zG_6 hj) rfl 3 (by decide) (hts (.fieldLink RX0 9 "SeedDrawers$Content" "values" "[J") (by decide +kernel)) rfl rfl dX0_reverse_22 ?_
        refine lv_iload_n hx hb dX0_reverse_25 rfl (lv_at hl 1 rfl) ?_
        refine lv_aload_n hx hb dX0_reverse_26 rfl (lv_at hl 3 rfl) ?_
        refine z_get (i := j) hx hb hts hin0 hown hw (kd6l hj) (zG_6 hj) rfl 3 (by decide) (hts (.fieldLink RX0 9 "SeedDrawers$Content" "values" "[J") (by decide +kernel)) rfl rfl dX0_reverse_27 ?_
        refine lv_aload_n hx hb dX0_reverse_30 rfl (lv_at hl 3 rfl) ?_
        refine z_get (i := j) hx hb hts hin0 hown hw (kd6l hj) (zG_6 hj) rfl 2 (by decide) (hts (.fieldLink RX0 22 "SeedDrawers$Content" "places" "I") (by decide +kernel)) rfl rfl dX0_reverse_31 ?_
        refine lv_iconst (v := 1) hx hb dX0_reverse_34 (by decide) ?_
        refine lv_isub hx hb dX0_reverse_35 ?_
        refine lv_iload_n hx hb dX0_reverse_36 rfl (lv_at hl 1 rfl) ?_
        refine lv_isub hx hb dX0_reverse_37 ?_
        refine y_lald (i := j + 9) hx hb hw (kd65l hj) (zG_5 (kd65 hj)) (rv_in hq (by omega) (by omega)) (k := (pl c j - 1 - k)) (rv_k hq (by omega) (by omega)) dX0_reverse_38 ?_
        refine y_last5 (i := j + 9) hx hb hw (kd65l hj) (kd65 hj) (vp_in_nI (by omega) (by omega)) (k := k) (nI_clamp (by omega)) dX0_reverse_39 (fun H locs hw => ?_)
        refine lv_aload_n hx hb dX0_reverse_40 rfl (lv_at hl 3 rfl) ?_
        refine z_get (i := j) hx hb hts hin0 hown hw (kd6l hj) (zG_6 hj) rfl 3 (by decide) (hts (.fieldLink RX0 9 "SeedDrawers$Content" "values" "[J") (by decide +kernel)) rfl rfl dX0_reverse_41 ?_
        refine lv_aload_n hx hb dX0_reverse_44 rfl (lv_at hl 3 rfl) ?_
        refine z_get (i := j) hx hb hts hin0 hown hw (kd6l hj) (zG_6 hj) rfl 2 (by decide) (hts (.fieldLink RX0 22 "SeedDrawers$Content" "places" "I") (by decide +kernel)) rfl rfl dX0_reverse_45 ?_
        refine lv_iconst (v := 1) hx hb dX0_reverse_48 (by decide) ?_
        refine lv_isub hx hb dX0_reverse_49 ?_
        refine lv_iload_n hx hb dX0_reverse_50 rfl (lv_at hl 1 rfl) ?_
        refine lv_isub hx hb dX0_reverse_51 ?_
        refine lv_lload_n hx hb dX0_reverse_52 rfl (lv_at hl 0 rfl) ?_
        refine y_last5 (i := j + 9) hx hb hw (kd65l hj) (kd65 hj) (rv_in hq (by omega) (by omega)) (k := (pl c j - 1 - k)) (rv_k hq (by omega) (by omega)) dX0_reverse_53 (fun H locs hw => ?_)
        refine lv_iinc (v := (nI (k + 1))) (lv' := [(2, .int (nI (k + 1))), (3, .long (c1.2.1 (j + 9) k)), (1, .int (c.1 j 2 / 2)), (0, .ref (zl E j))]) hx hb dX0_reverse_54 hl (k := 1) rfl (nI_1 k) (by decide) rfl (fun ls hl => ?_)
        refine lv_goto (tgt := 9) hx hb dX0_reverse_57 (by decide) ?_
        rw [show pl c j / 2 - k = (pl c j / 2 - (k + 1)) + 1 by omega] at hR
        exact ih (k + 1) (sJ (sJ c1 (j + 9) k (c1.2.1 (j + 9) (pl c j - 1 - k))) (j + 9) (pl c j - 1 - k) (c1.2.1 (j + 9) k)) _ _ _ (by omega) (by omega) hq hR hw (lv_sub hl [0, 2, 3] rfl)
  exact loop9 (pl c j / 2 + 1) 0 c _ _ _ (by omega) (by omega) hp2 rfl hw (lv_sub hl [0, 1, 2] rfl)
set_option maxHeartbeats 4000000 in
set_option maxRecDepth 100000 in
theorem k_X2_holdersOf (l : Launch) (E : zE) (c : zC) (mo : zM) (j : Nat) (hj : kd j = 6) (hD : ∀ k, k < 8 → kd (c.2.2 k) = 6) : Met l yX2_holdersOf wsX2_holdersOf (zR 0 0) (zP E c mo [.ref (zl E 0), .ref (zl E j)]) (cQi E (fHol c j) c mo) 0 0 (zA E) := by
  refine z_ent (cc := cX2_holdersOf) (maxL := 4) (ret := (some .int)) (vs := [.ref (zl E 0), .ref (zl E j)]) (by decide) rfl (Nat.le_of_ble_eq_true rfl) ?_
  intro p e s m below meth cd ls hx hb hr hml hown hts hlocks hl hw
  have hl : lv_has ls 4 [(0, .ref (zl E 0)), (1, .ref (zl E j))] := hl
  have hown : s.vm.findClass RX2 = some m.cls := hown
  have hin2 : ∀ w ∈ u_ws RX2 TX2 12, w ∈ wsX2_holdersOf := by decide +kernel
  refine lv_iconst (v := 0) hx hb dX2_holdersOf_0 (by decide) ?_
  refine lv_istore_n (lv' := [(2, .int 0), (0, .ref (zl E 0)), (1, .ref (zl E j))]) hx hb dX2_holdersOf_1 rfl hl (by decide) rfl (fun ls hl => ?_)
  refine lv_iconst (v := 0) hx hb dX2_holdersOf_2 (by decide) ?_
  refine lv_istore_n (lv' := [(3, .int 0), (2, .int 0), (0, .ref (zl E 0)), (1, .ref (zl E j))]) hx hb dX2_holdersOf_3 rfl hl (by decide) rfl (fun ls hl => ?_)
  have loop4 : ∀ (n_ : Nat) (k : Nat) (a : Int32) (H : Heap) (locs : List Loc) (ls : Array Slot), 8 - k < n_ → (k ≤ 8) → (holN c.2.2 j (8 - k) k a = fHol c j) → zW E c mo s s.heap H locs → lv_has ls 4 [(3, .int (nI k)), (2, .int a), (0, .ref (zl E 0)), (1, .ref (zl E j))] → W p l e (headSpec wsX2_holdersOf (zR 0 0)).room s m ([.ref (zl E 0), .ref (zl E j)] : List Value).toArray below meth cd H locs 0 0 (MQ below (cQi E (fHol c j) c mo) ([.ref (zl E 0), .ref (zl E j)] : List Value).toArray s 0 0 (zA E)) (F0 m 4 ls []) := by
    intro n_
    induction n_ with
    | zero => intro k a H locs ls hn_; exact absurd hn_ (Nat.not_lt_zero _)
    | succ n_ ih =>
      intro k a H locs ls hn_ hi hR hw hl
      refine lv_iload_n hx hb dX2_holdersOf_4 rfl (lv_at hl 0 rfl) ?_
      refine lv_bipush (v := 8) hx hb dX2_holdersOf_5 (by decide) ?_
      refine lv_icmp_ge (tgt := 29) hx hb dX2_holdersOf_7 (by decide) (fun q_1 => ?_) (fun q_1 => ?_)
      · have _ := hx
        have hk : 8 ≤ k := le_le (b := 8) q_1 (by omega) (by omega)
        rw [show 8 - k = 0 by omega] at hR
        refine lv_iload_n hx hb dX2_holdersOf_29 rfl (lv_at hl 1 rfl) ?_
        exact z_iret hx hb hr hlocks hw dX2_holdersOf_30 (by exact hR) rfl rfl
      · have _ := hx
        have hk : k < 8 := nle_lt (b := 8) q_1 (by omega) (by omega)
        rw [show 8 - k = (8 - (k + 1)) + 1 by omega] at hR
        refine lv_aload_n hx hb dX2_holdersOf_10 rfl (lv_at hl 2 rfl) ?_
        refine z_get (i := 0) hx hb hts hin2 hown hw (by decide) zG_0 rfl 1 (by decide) (hts (.fieldLink RX2 16 "SeedDrawers" "drawers" "[LSeedDrawers$Content;") (by decide +kernel)) rfl rfl dX2_holdersOf_11 ?_
        refine lv_iload_n hx hb dX2_holdersOf_14 rfl (lv_at hl 0 rfl) ?_
        refine y_aald1 hx hb hw (vp_in_nI (by omega) (by omega)) (k := k) (nI_clamp (by omega)) dX2_holdersOf_15 ?_
        have hf_2 : kd (c.2.2 k) = 6 := hD k (by omega)
        refine lv_aload_n hx hb dX2_holdersOf_16 rfl (lv_at hl 3 rfl) ?_
        refine z_acmpne (tgt := 23) hx hb hw (kd6l hf_2) (kd6l hj) dX2_holdersOf_17 (by decide) (fun q_3 => ?_) (fun q_3 => ?_)
        · have _ := hx
          refine lv_iinc (v := (nI (k + 1))) (lv' := [(3, .int (nI (k + 1))), (2, .int a), (0, .ref (zl E 0)), (1, .ref (zl E j))]) hx hb dX2_holdersOf_23 hl (k := 0) rfl (nI_1 k) (by decide) rfl (fun ls hl => ?_)
          refine lv_goto (tgt := 4) hx hb dX2_holdersOf_26 (by decide) ?_
          exact ih (k + 1) a _ _ _ (by omega) (by omega) (by simpa [holN, q_3] using hR) hw (lv_sub hl [0, 1, 2, 3] rfl)
        · have _ := hx
          refine lv_iinc (v := (a + 1)) (lv' := [(2, .int (a + 1)), (3, .int (nI k)), (0, .ref (zl E 0)), (1, .ref (zl E j))]) hx hb dX2_holdersOf_20 hl (k := 1) rfl rfl (by decide) rfl (fun ls hl => ?_)
          refine lv_iinc (v := (nI (k + 1))) (lv' := [(3, .int (nI (k + 1))), (2, .int (a + 1)), (0, .ref (zl E 0)), (1, .ref (zl E j))]) hx hb dX2_holdersOf_23 hl (k := 1) rfl (nI_1 k) (by decide) rfl (fun ls hl => ?_)
          refine lv_goto (tgt := 4) hx hb dX2_holdersOf_26 (by decide) ?_
          exact ih (k + 1) (a + 1) _ _ _ (by omega) (by omega) (by simpa [holN, q_3] using hR) hw (lv_sub hl [0, 1, 2, 3] rfl)
  exact loop4 (8 + 1) 0 0 _ _ _ (by omega) (by omega) rfl hw (lv_sub hl [0, 1, 2, 3] rfl)
set_option maxHeartbeats 4000000 in
set_option maxRecDepth 100000 in
theorem k_X2_newContent (l : Launch) (E : zE) (c : zC) (mo : zM) (d : Int32) (hd : vp_in d 8) (hD : ∀ k, k < 8 → kd (c.2.2 k) = 6) : Met l yX2_newContent wsX2_newContent (zR 1 23) (zP E c mo [.ref (zl E 0), .int d]) (cQr E (nFree c d.toNatClampNeg) (newC c d.toNatClampNeg) mo) 0 0 (zA E) := by
  refine z_ent (cc := cX2_newContent) (maxL := 4) (ret := (some (.object "SeedDrawers$Content"))) (vs := [.ref (zl E 0), .int d]) (by decide) rfl (Nat.le_of_ble_eq_true rfl) ?_
  intro p e s m below meth cd ls hx hb hr hml hown hts hlocks hl hw
  have hl : lv_has ls 4 [(0, .ref (zl E 0)), (1, .int d)] := hl
  have hown : s.vm.findClass RX2 = some m.cls := hown
  have hin2 : ∀ w ∈ u_ws RX2 TX2 12, w ∈ wsX2_newContent := by decide +kernel
  have hD2 : ∀ k, k < 8 → kd ((sD c d.toNatClampNeg 6).2.2 k) = 6 := by
    intro k hk
    by_cases hq : k = d.toNatClampNeg
    · rw [hq]; simp [sD, va_up, kd]
    · simp only [sD, va_up_ne _ _ hq]; exact hD k hk
  refine lv_aload_n hx hb dX2_newContent_0 rfl (lv_at hl 0 rfl) ?_
  refine z_get (i := 0) hx hb hts hin2 hown hw (by decide) zG_0 rfl 1 (by decide) (hts (.fieldLink RX2 16 "SeedDrawers" "drawers" "[LSeedDrawers$Content;") (by decide +kernel)) rfl rfl dX2_newContent_1 ?_
  refine lv_iload_n hx hb dX2_newContent_4 rfl (lv_at hl 1 rfl) ?_
  refine lv_aload_n hx hb dX2_newContent_5 rfl (lv_at hl 0 rfl) ?_
  refine z_get (i := 0) hx hb hts hin2 hown hw (by decide) zG_0 rfl 0 (by decide) (hts (.fieldLink RX2 10 "SeedDrawers" "nothing" "LSeedDrawers$Content;") (by decide +kernel)) rfl rfl dX2_newContent_6 ?_
  refine y_aast1 (j := 6) hx hb hw (by decide) hd (k := d.toNatClampNeg) rfl dX2_newContent_9 (fun H locs hw => ?_)
  refine lv_aload_n hx hb dX2_newContent_10 rfl (lv_at hl 0 rfl) ?_
  refine z_get (i := 0) hx hb hts hin2 hown hw (by decide) zG_0 rfl 2 (by decide) (hts (.fieldLink RX2 20 "SeedDrawers" "contents" "[LSeedDrawers$Content;") (by decide +kernel)) rfl rfl dX2_newContent_11 ?_
  refine lv_iconst (v := 0) hx hb dX2_newContent_14 (by decide) ?_
  refine y_aald2 hx hb hw (vp_in_iff.mpr (by decide)) (k := 0) rfl dX2_newContent_15 ?_
  have hf_1 : kd (7 + 0) = 6 := (by decide)
  refine lv_astore_n (lv' := [(2, .ref (zl E (7 + 0))), (0, .ref (zl E 0)), (1, .int d)]) hx hb dX2_newContent_16 rfl hl (by decide) rfl (fun ls hl => ?_)
  refine lv_iconst (v := 1) hx hb dX2_newContent_17 (by decide) ?_
  refine lv_istore_n (lv' := [(3, .int 1), (2, .ref (zl E (7 + 0))), (0, .ref (zl E 0)), (1, .int d)]) hx hb dX2_newContent_18 rfl hl (by decide) rfl (fun ls hl => ?_)
  have loop19 : ∀ (n_ : Nat) (k : Nat) (f : Nat) (H : Heap) (locs : List Loc) (ls : Array Slot), 8 - k < n_ → (k ≤ 8 ∧ 1 ≤ k) → (kd f = 6) → (freN (sD c d.toNatClampNeg 6) (8 - k) k f = nFree c d.toNatClampNeg) → zW E (sD c d.toNatClampNeg 6) mo s s.heap H locs → lv_has ls 4 [(3, .int (nI k)), (2, .ref (zl E f)), (0, .ref (zl E 0)), (1, .int d)] → W p l e (headSpec wsX2_newContent (zR 1 23)).room s m ([.ref (zl E 0), .int d] : List Value).toArray below meth cd H locs 0 0 (MQ below (cQr E (nFree c d.toNatClampNeg) (newC c d.toNatClampNeg) mo) ([.ref (zl E 0), .int d] : List Value).toArray s 0 0 (zA E)) (F0 m 19 ls []) := by
    intro n_
    induction n_ with
    | zero => intro k f H locs ls hn_; exact absurd hn_ (Nat.not_lt_zero _)
    | succ n_ ih =>
      intro k f H locs ls hn_ hi hf hR hw hl
      refine lv_iload_n hx hb dX2_newContent_19 rfl (lv_at hl 0 rfl) ?_
      refine lv_bipush (v := 8) hx hb dX2_newContent_20 (by decide) ?_
      refine lv_icmp_ge (tgt := 51) hx hb dX2_newContent_22 (by decide) (fun q_2 => ?_) (fun q_2 => ?_)
      · have _ := hx
        have hk : 8 ≤ k := le_le (b := 8) q_2 (by omega) (by omega)
        rw [show 8 - k = 0 by omega] at hR
        refine lv_aload_n hx hb dX2_newContent_51 rfl (lv_at hl 2 rfl) ?_
        refine z_get (i := 0) hx hb hts hin2 hown hw (by decide) zG_0 rfl 1 (by decide) (hts (.fieldLink RX2 16 "SeedDrawers" "drawers" "[LSeedDrawers$Content;") (by decide +kernel)) rfl rfl dX2_newContent_52 ?_
        refine lv_iload_n hx hb dX2_newContent_55 rfl (lv_at hl 3 rfl) ?_
        refine lv_aload_n hx hb dX2_newContent_56 rfl (lv_at hl 1 rfl) ?_
        refine y_aast1 (j := f) hx hb hw hf hd (k := d.toNatClampNeg) rfl dX2_newContent_57 (fun H locs hw => ?_)
        refine lv_aload_n hx hb dX2_newContent_58 rfl (lv_at hl 1 rfl) ?_
        exact z_rret hx hb hr ⟨_, rfl⟩ hlocks hw dX2_newContent_59 (by exact hR) (by rw [newC, ← show f = nFree c d.toNatClampNeg from hR]) rfl
      · have _ := hx
        have hk : k < 8 := nle_lt (b := 8) q_2 (by omega) (by omega)
        rw [show 8 - k = (8 - (k + 1)) + 1 by omega] at hR
        refine lv_aload_n hx hb dX2_newContent_25 rfl (lv_at hl 2 rfl) ?_
        refine lv_aload_n hx hb dX2_newContent_26 rfl (lv_at hl 2 rfl) ?_
        refine z_get (i := 0) hx hb hts hin2 hown hw (by decide) zG_0 rfl 2 (by decide) (hts (.fieldLink RX2 20 "SeedDrawers" "contents" "[LSeedDrawers$Content;") (by decide +kernel)) rfl rfl dX2_newContent_27 ?_
        refine lv_iload_n hx hb dX2_newContent_30 rfl (lv_at hl 0 rfl) ?_
        refine y_aald2 hx hb hw (vp_in_nI (by omega) (by omega)) (k := k) (nI_clamp (by omega)) dX2_newContent_31 ?_
        have hf_3 : kd (7 + k) = 6 := kd6o (by omega) (by omega)
        refine z_calli (rest := []) (va_runV (As := [.ref (zl E (7 + k))]) (rest := []) ⟨hx, hb, hml, hown, hts⟩ (k_X2_holdersOf l E (sD c d.toNatClampNeg 6) mo (7 + k) hf_3 hD2) (cwV 1 hts gX2_newContent_X2_holdersOf rfl rfl rfl (by decide +kernel) ⟨Nat.le_of_ble_eq_true rfl, Nat.le_of_ble_eq_true rfl⟩) (z_preV hw (by decide) zG_0 rfl [.ref (zl E (7 + k))]) rfl rfl hl.1 rfl (lv_room (Nat.le_of_ble_eq_true rfl)) dX2_newContent_32 ⟨Nat.le_of_ble_eq_true rfl, Nat.le_of_ble_eq_true rfl⟩) hw (fun H locs hw => ?_)
        refine lv_if_ne (tgt := 45) hx hb dX2_newContent_35 (by decide) (fun q_4 => ?_) (fun q_4 => ?_)
        · have _ := hx
          refine lv_iinc (v := (nI (k + 1))) (lv' := [(3, .int (nI (k + 1))), (2, .ref (zl E f)), (0, .ref (zl E 0)), (1, .int d)]) hx hb dX2_newContent_45 hl (k := 0) rfl (nI_1 k) (by decide) rfl (fun ls hl => ?_)
          refine lv_goto (tgt := 19) hx hb dX2_newContent_48 (by decide) ?_
          exact ih (k + 1) f _ _ _ (by omega) (by omega) hf (by simpa [freN, q_4] using hR) hw (lv_sub hl [0, 1, 2, 3] rfl)
        · have _ := hx
          refine lv_aload_n hx hb dX2_newContent_38 rfl (lv_at hl 2 rfl) ?_
          refine z_get (i := 0) hx hb hts hin2 hown hw (by decide) zG_0 rfl 2 (by decide) (hts (.fieldLink RX2 20 "SeedDrawers" "contents" "[LSeedDrawers$Content;") (by decide +kernel)) rfl rfl dX2_newContent_39 ?_
          refine lv_iload_n hx hb dX2_newContent_42 rfl (lv_at hl 0 rfl) ?_
          refine y_aald2 hx hb hw (vp_in_nI (by omega) (by omega)) (k := k) (nI_clamp (by omega)) dX2_newContent_43 ?_
          refine lv_astore_n (lv' := [(2, .ref (zl E (7 + k))), (3, .int (nI k)), (0, .ref (zl E 0)), (1, .int d)]) hx hb dX2_newContent_44 rfl hl (by decide) rfl (fun ls hl => ?_)
          refine lv_iinc (v := (nI (k + 1))) (lv' := [(3, .int (nI (k + 1))), (2, .ref (zl E (7 + k))), (0, .ref (zl E 0)), (1, .int d)]) hx hb dX2_newContent_45 hl (k := 1) rfl (nI_1 k) (by decide) rfl (fun ls hl => ?_)
          refine lv_goto (tgt := 19) hx hb dX2_newContent_48 (by decide) ?_
          exact ih (k + 1) (7 + k) _ _ _ (by omega) (by omega) hf_3 (by simpa [freN, q_4] using hR) hw (lv_sub hl [0, 1, 2, 3] rfl)
  exact loop19 (7 + 1) 1 7 _ _ _ (by omega) (by omega) (by decide) rfl hw (lv_sub hl [0, 1, 2, 3] rfl)
