def Sk (c c' : zC) : Prop := c'.2.2 = c.2.2 ∧ (∀ j k, kd j = 6 → c'.1 j k = c.1 j k) ∧ (∀ j k, kd j = 7 → c'.1 j k = c.1 j k) ∧ c'.1 0 7 = c.1 0 7 ∧ c'.1 0 9 = c.1 0 9 ∧ c'.1 0 5 = c.1 0 5 ∧ c'.1 4 = c.1 4
theorem Sk.rf (c : zC) : Sk c c := ⟨rfl, fun _ _ _ => rfl, fun _ _ _ => rfl, rfl, rfl, rfl, rfl⟩
theorem Sk.tr {a b c : zC} (h : Sk a b) (g : Sk b c) : Sk a c := ⟨g.1.trans h.1, fun j k q => (g.2.1 j k q).trans (h.2.1 j k q), fun j k q => (g.2.2.1 j k q).trans (h.2.2.1 j k q), g.2.2.2.1.trans h.2.2.2.1, g.2.2.2.2.1.trans h.2.2.2.2.1, g.2.2.2.2.2.1.trans h.2.2.2.2.2.1, g.2.2.2.2.2.2.trans h.2.2.2.2.2.2⟩
theorem Sk.j (c : zC) (i k : Nat) (v : Int64) : Sk c (sJ c i k v) := Sk.rf c
theorem Sk.i0 (c : zC) (k : Nat) (v : Int32) (h : k = 3 ∨ k = 10) : Sk c (sI c 0 k v) := by
  refine ⟨rfl, fun j q hj => ?_, fun j q hj => ?_, ?_, ?_, ?_, ?_⟩
  · have := kd6 hj
    simp [sI, show ¬ j = 0 by omega]
  · have := kd7 hj
    simp [sI, show ¬ j = 0 by omega]
  all_goals rcases h with rfl | rfl <;> simp [sI]
theorem Sk.i5 (c : zC) (k : Nat) (v : Int32) : Sk c (sI c 5 k v) := by
  refine ⟨rfl, fun j q hj => ?_, fun j q hj => ?_, ?_, ?_, ?_, ?_⟩
  · have := kd6 hj
    simp [sI, show ¬ j = 5 by omega]
  · have := kd7 hj
    simp [sI, show ¬ j = 5 by omega]
  all_goals simp [sI]
theorem Sk.hold (c : zC) (k : Int32) (v : Int64) : Sk c (hold c k v) := (Sk.i0 c 3 k (Or.inl rfl)).tr (Sk.j _ _ _ _)
theorem Sk.meet (c : zC) (f : Int32) : Sk c (meet c f) := (Sk.i0 c 10 f (Or.inr rfl)).tr ((Sk.i5 _ _ _).tr (Sk.i5 _ _ _))
theorem Sk.take (c : zC) (d i : Int32) : Sk c (sTake c d i) := by
  unfold sTake
  split
  · exact Sk.rf c
  · split
    · exact Sk.hold _ _ _
    · exact Sk.meet _ _
theorem Sk.lay (c : zC) (d i : Int32) : Sk c (sLay c d i) := by
  unfold sLay
  split
  · exact Sk.rf c
  · split
    · exact Sk.rf c
    · split
      · exact Sk.j _ _ _ _
      · exact Sk.meet _ _
theorem Sk.swap (c : zC) (a i b j : Int32) : Sk c (sSwap c a i b j) := by
  unfold sSwap
  split
  · exact Sk.rf c
  · split
    · exact Sk.rf c
    · split
      · exact (Sk.j _ _ _ _).tr (Sk.j _ _ _ _)
      · exact Sk.meet _ _
theorem Sk_revN (j n : Nat) : ∀ (m k : Nat) (c : zC), Sk c (revN j n m k c)
  | 0, _, c => Sk.rf c
  | m + 1, k, c => by
    unfold revN
    exact ((Sk.j _ _ _ _).tr (Sk.j _ _ _ _)).tr (Sk_revN j n m (k + 1) _)
theorem Sk_turn (c : zC) (d : Int32) : Sk c (sTurn c d) := by
  unfold sTurn
  split
  · exact Sk.rf c
  · split
    · exact Sk_revN _ _ _ _ _
    · exact Sk.meet _ _
theorem Sk_po (c : zC) (a : Nat) (i : Int32) (b : Nat) (j : Int32) : Sk c (sPo c a i b j) := by
  unfold sPo
  split
  · split
    · exact Sk.j _ _ _ _
    · exact Sk.rf c
  · exact Sk.rf c
theorem sPo_ne {c : zC} {a : Nat} {i : Int32} {b : Nat} {j : Int32} (h : ¬ fPo c a i b j = 0) : sPo c a i b j = c := by
  unfold fPo at h
  unfold sPo
  split at h
  · rw [if_pos (by assumption), if_neg h]
  · rw [if_neg (by assumption)]
theorem Sk_porN (d t : Nat) (i j n : Int32) : ∀ (m k : Nat) (c : zC), Sk c (porN d t i j n m k c).2
  | 0, _, c => Sk.rf c
  | m + 1, k, c => by
    unfold porN
    split
    · exact (Sk_po _ _ _ _ _).tr (Sk_porN d t i j n m (k + 1) _)
    · exact Sk.meet _ _
theorem Sk_pour (c : zC) (d i t j n : Int32) : Sk c (pPour c d i t j n).2 := by
  unfold pPour
  split
  · exact Sk.rf c
  split
  · exact Sk.rf c
  split
  · exact Sk.rf c
  split
  · exact Sk.rf c
  split
  · exact Sk.rf c
  split
  · exact Sk_porN _ _ _ _ _ _ _ _
  · exact Sk.rf c
theorem Sk_perf (c : zC) (o : Nat) : Sk c (sPerf c o) := by
  unfold sPerf
  split
  · exact Sk.take _ _ _
  split
  · exact Sk.lay _ _ _
  split
  · exact Sk.swap _ _ _ _ _
  split
  · exact Sk_turn _ _
  · exact Sk_pour _ _ _ _ _ _
theorem wfC_sk {c c' : zC} (h : Sk c c') (w : wfC c) : wfC c' := by
  obtain ⟨w1, w2, w3, w4⟩ := w
  refine ⟨fun k hk => by rw [h.1]; exact w1 k hk, fun j hj => ?_, ?_, ?_⟩
  · have e := h.2.1 j 2 hj
    have := w2 j hj
    unfold plOk pl at *
    rw [e]
    exact this
  · rw [h.2.2.2.1]; exact w3
  · rw [h.2.2.2.2.1]; exact w4
theorem wfC_4 {c : zC} (w : wfC c) (k : Nat) (v : Int32) : wfC (sI c 4 k v) := by
  obtain ⟨w1, w2, w3, w4⟩ := w
  refine ⟨w1, fun j hj => ?_, ?_, ?_⟩
  · have hj2 := kd6 hj
    have e : (sI c 4 k v).1 j 2 = c.1 j 2 := by simp [sI, show ¬ j = 4 by omega]
    have := w2 j hj
    unfold plOk pl at *
    rw [e]
    exact this
  · simpa [sI] using w3
  · simpa [sI] using w4
def runN : Nat → Nat → Int32 → zC → Int32 × zC
  | 0, _, a, c => (a, c)
  | m + 1, k, a, c => if (sPerf c (24 + k)).1 5 0 = c.1 5 0 then (if (sI (sPerf c (24 + k)) 4 k 0).1 4 k = 0 then runN m (k + 1) (a + 1) (sI (sPerf c (24 + k)) 4 k 0) else runN m (k + 1) a (sI (sPerf c (24 + k)) 4 k 0)) else (if (sI (sPerf c (24 + k)) 4 k ((sPerf c (24 + k)).1 0 10)).1 4 k = 0 then runN m (k + 1) (a + 1) (sI (sPerf c (24 + k)) 4 k ((sPerf c (24 + k)).1 0 10)) else runN m (k + 1) a (sI (sPerf c (24 + k)) 4 k ((sPerf c (24 + k)).1 0 10)))
def fin (c : zC) : zC := sI (sI c 0 9 (c.1 0 7)) 0 7 0
def pRun (c : zC) : Int32 × zC := ((runN (c.1 0 7).toNatClampNeg 0 0 c).1, fin (runN (c.1 0 7).toNatClampNeg 0 0 c).2)
set_option maxHeartbeats 4000000 in
set_option maxRecDepth 100000 in
theorem k_X2_pour (l : Launch) (E : zE) (c : zC) (mo : zM) (d : Int32) (i : Int32) (t : Int32) (j : Int32) (n : Int32) (hwf : wfC c) : Met l yX2_pour wsX2_pour (zR 4 89) (zP E c mo [.ref (zl E 0), .int d, .int i, .int t, .int j, .int n]) (cQi E ((pPour c d i t j n).1) ((pPour c d i t j n).2) mo) 0 0 (zA E) := by
  refine z_ent (cc := cX2_pour) (maxL := 8) (ret := (some .int)) (vs := [.ref (zl E 0), .int d, .int i, .int t, .int j, .int n]) (by decide) rfl (Nat.le_of_ble_eq_true rfl) ?_
  intro p e s m below meth cd ls hx hb hr hml hown hts hlocks hl hw
  have hl : lv_has ls 8 [(0, .ref (zl E 0)), (1, .int d), (2, .int i), (3, .int t), (4, .int j), (5, .int n)] := hl
  have hown : s.vm.findClass RX2 = some m.cls := hown
  have hin2 : ∀ w ∈ u_ws RX2 TX2 12, w ∈ wsX2_pour := by decide +kernel
  refine lv_iload_n hx hb dX2_pour_0 rfl (lv_at hl 1 rfl) ?_
  refine z_calli (rest := []) (va_runS (As := [.int d]) (rest := []) ⟨hx, hb, hml, hown, hts⟩ (k_X2_isDrawer l E c mo d ) (va_cwS 1 hts gX2_pour_X2_isDrawer rfl rfl rfl (by decide +kernel) ⟨Nat.le_of_ble_eq_true rfl, Nat.le_of_ble_eq_true rfl⟩) (z_preS hw [.int d]) rfl rfl hl.1 rfl (lv_room (Nat.le_of_ble_eq_true rfl)) dX2_pour_1 ⟨Nat.le_of_ble_eq_true rfl, Nat.le_of_ble_eq_true rfl⟩) hw (fun H locs hw => ?_)
  refine lv_if_eq (tgt := 14) hx hb dX2_pour_4 (by decide) (fun q_1 => ?_) (fun q_1 => ?_)
  · have _ := hx
    refine lv_iconst (v := (-1)) hx hb dX2_pour_14 (by decide) ?_
    exact z_iret hx hb hr hlocks hw dX2_pour_15 (by simp [pPour, q_1]) (by simp [pPour, q_1]) rfl
  · have _ := hx
    refine lv_iload_n hx hb dX2_pour_7 rfl (lv_at hl 3 rfl) ?_
    refine z_calli (rest := []) (va_runS (As := [.int t]) (rest := []) ⟨hx, hb, hml, hown, hts⟩ (k_X2_isDrawer l E c mo t ) (va_cwS 1 hts gX2_pour_X2_isDrawer rfl rfl rfl (by decide +kernel) ⟨Nat.le_of_ble_eq_true rfl, Nat.le_of_ble_eq_true rfl⟩) (z_preS hw [.int t]) rfl rfl hl.1 rfl (lv_room (Nat.le_of_ble_eq_true rfl)) dX2_pour_8 ⟨Nat.le_of_ble_eq_true rfl, Nat.le_of_ble_eq_true rfl⟩) hw (fun H locs hw => ?_)
    refine lv_if_ne (tgt := 16) hx hb dX2_pour_11 (by decide) (fun q_2 => ?_) (fun q_2 => ?_)
    · have _ := hx
      refine lv_iload_n hx hb dX2_pour_16 rfl (lv_at hl 2 rfl) ?_
      refine z_calli (rest := []) (va_runS (As := [.int i]) (rest := []) ⟨hx, hb, hml, hown, hts⟩ (k_X2_isTellableIndex l E c mo i ) (va_cwS 1 hts gX2_pour_X2_isTellableIndex rfl rfl rfl (by decide +kernel) ⟨Nat.le_of_ble_eq_true rfl, Nat.le_of_ble_eq_true rfl⟩) (z_preS hw [.int i]) rfl rfl hl.1 rfl (lv_room (Nat.le_of_ble_eq_true rfl)) dX2_pour_17 ⟨Nat.le_of_ble_eq_true rfl, Nat.le_of_ble_eq_true rfl⟩) hw (fun H locs hw => ?_)
      refine lv_if_eq (tgt := 43) hx hb dX2_pour_20 (by decide) (fun q_3 => ?_) (fun q_3 => ?_)
      · have _ := hx
        refine lv_bipush (v := (-2)) hx hb dX2_pour_43 (by decide) ?_
        exact z_iret hx hb hr hlocks hw dX2_pour_45 (by simp [pPour, q_1, q_2, q_3]) (by simp [pPour, q_1, q_2, q_3]) rfl
      · have _ := hx
        refine lv_iload hx hb dX2_pour_23 (lv_at hl 4 rfl) ?_
        refine z_calli (rest := []) (va_runS (As := [.int j]) (rest := []) ⟨hx, hb, hml, hown, hts⟩ (k_X2_isTellableIndex l E c mo j ) (va_cwS 1 hts gX2_pour_X2_isTellableIndex rfl rfl rfl (by decide +kernel) ⟨Nat.le_of_ble_eq_true rfl, Nat.le_of_ble_eq_true rfl⟩) (z_preS hw [.int j]) rfl rfl hl.1 rfl (lv_room (Nat.le_of_ble_eq_true rfl)) dX2_pour_25 ⟨Nat.le_of_ble_eq_true rfl, Nat.le_of_ble_eq_true rfl⟩) hw (fun H locs hw => ?_)
        refine lv_if_eq (tgt := 43) hx hb dX2_pour_28 (by decide) (fun q_4 => ?_) (fun q_4 => ?_)
        · have _ := hx
          refine lv_bipush (v := (-2)) hx hb dX2_pour_43 (by decide) ?_
          exact z_iret hx hb hr hlocks hw dX2_pour_45 (by simp [pPour, q_1, q_2, q_3, q_4]) (by simp [pPour, q_1, q_2, q_3, q_4]) rfl
        · have _ := hx
          refine lv_iload hx hb dX2_pour_31 (lv_at hl 5 rfl) ?_
          refine lv_if_lt (tgt := 43) hx hb dX2_pour_33 (by decide) (fun q_5 => ?_) (fun q_5 => ?_)
          · have _ := hx
            refine lv_bipush (v := (-2)) hx hb dX2_pour_43 (by decide) ?_
            exact z_iret hx hb hr hlocks hw dX2_pour_45 (by simp [pPour, q_1, q_2, q_3, q_4, q_5]) (by simp [pPour, q_1, q_2, q_3, q_4, q_5]) rfl
          · have _ := hx
            refine lv_iload hx hb dX2_pour_36 (lv_at hl 5 rfl) ?_
            refine lv_bipush (v := 12) hx hb dX2_pour_38 (by decide) ?_
            refine lv_icmp_le (tgt := 46) hx hb dX2_pour_40 (by decide) (fun q_6 => ?_) (fun q_6 => ?_)
            · have _ := hx
              refine lv_iconst (v := 0) hx hb dX2_pour_46 (by decide) ?_
              refine lv_istore (lv' := [(6, .int 0), (0, .ref (zl E 0)), (1, .int d), (2, .int i), (3, .int t), (4, .int j), (5, .int n)]) hx hb dX2_pour_47 hl (by decide) rfl (fun ls hl => ?_)
              have hnn : vp_in n 13 := le_in (n := 12) (by assumption) (by assumption) (by decide)
              have hn2 : n = nI n.toNatClampNeg := in_nI hnn (by decide)
              have hn3 : n.toNatClampNeg ≤ 12 := by have := in_lt hnn; omega
              have loop49 : ∀ (n_ : Nat) (k : Nat) (c1 : zC) (H : Heap) (locs : List Loc) (ls : Array Slot), n.toNatClampNeg - k < n_ → (k ≤ n.toNatClampNeg) → (wfC c1) → (porN d.toNatClampNeg t.toNatClampNeg i j n (n.toNatClampNeg - k) k c1 = pPour c d i t j n) → zW E c1 mo s s.heap H locs → lv_has ls 8 [(6, .int (nI k)), (0, .ref (zl E 0)), (1, .int d), (2, .int i), (3, .int t), (4, .int j), (5, .int n)] → W p l e (headSpec wsX2_pour (zR 4 89)).room s m ([.ref (zl E 0), .int d, .int i, .int t, .int j, .int n] : List Value).toArray below meth cd H locs 0 0 (MQ below (cQi E ((pPour c d i t j n).1) ((pPour c d i t j n).2) mo) ([.ref (zl E 0), .int d, .int i, .int t, .int j, .int n] : List Value).toArray s 0 0 (zA E)) (F0 m 49 ls []) := by
                intro n_
                induction n_ with
                | zero => intro k c1 H locs ls hn_; exact absurd hn_ (Nat.not_lt_zero _)
                | succ n_ ih =>
                  intro k c1 H locs ls hn_ hk hwf1 hR hw hl
                  refine lv_iload hx hb dX2_pour_49 (lv_at hl 0 rfl) ?_
                  refine lv_iload hx hb dX2_pour_51 (lv_at hl 6 rfl) ?_
                  refine lv_icmp_ge (tgt := 106) hx hb dX2_pour_53 (by decide) (fun q_7 => ?_) (fun q_7 => ?_)
                  · have _ := hx
                    rw [hn2] at q_7
                    have hk2 : n.toNatClampNeg ≤ k := le_le q_7 (by omega) (by omega)
                    rw [show n.toNatClampNeg - k = 0 by omega] at hR
                    refine lv_iload hx hb dX2_pour_106 (lv_at hl 6 rfl) ?_
                    exact z_iret hx hb hr hlocks hw dX2_pour_108 (by rw [← hR]; rfl) (by rw [← hR]; rfl) rfl
                  · have _ := hx
                    rw [hn2] at q_7
                    have hk2 : k < n.toNatClampNeg := nle_lt q_7 (by omega) (by omega)
                    rw [show n.toNatClampNeg - k = (n.toNatClampNeg - (k + 1)) + 1 by omega] at hR
                    refine lv_aload_n hx hb dX2_pour_56 rfl (lv_at hl 1 rfl) ?_
                    refine z_get (i := 0) hx hb hts hin2 hown hw (by decide) zG_0 rfl 1 (by decide) (hts (.fieldLink RX2 16 "SeedDrawers" "drawers" "[LSeedDrawers$Content;") (by decide +kernel)) rfl rfl dX2_pour_57 ?_
                    refine lv_iload_n hx hb dX2_pour_60 rfl (lv_at hl 2 rfl) ?_
                    refine y_aald1 hx hb hw (isDr_in (by assumption)) (k := d.toNatClampNeg) rfl dX2_pour_61 ?_
                    have hf_8 : kd (c1.2.2 d.toNatClampNeg) = 6 := hwf1.1 _ (in_lt (isDr_in (by assumption)))
                    refine lv_iload_n hx hb dX2_pour_62 rfl (lv_at hl 3 rfl) ?_
                    refine lv_iload hx hb dX2_pour_63 (lv_at hl 0 rfl) ?_
                    refine lv_iadd hx hb dX2_pour_65 ?_
                    refine lv_aload_n hx hb dX2_pour_66 rfl (lv_at hl 1 rfl) ?_
                    refine z_get (i := 0) hx hb hts hin2 hown hw (by decide) zG_0 rfl 1 (by decide) (hts (.fieldLink RX2 16 "SeedDrawers" "drawers" "[LSeedDrawers$Content;") (by decide +kernel)) rfl rfl dX2_pour_67 ?_
                    refine lv_iload_n hx hb dX2_pour_70 rfl (lv_at hl 4 rfl) ?_
                    refine y_aald1 hx hb hw (isDr_in (by assumption)) (k := t.toNatClampNeg) rfl dX2_pour_71 ?_
                    have hf_9 : kd (c1.2.2 t.toNatClampNeg) = 6 := hwf1.1 _ (in_lt (isDr_in (by assumption)))
                    refine lv_iload hx hb dX2_pour_72 (lv_at hl 5 rfl) ?_
                    refine lv_iload hx hb dX2_pour_74 (lv_at hl 0 rfl) ?_
                    refine lv_iadd hx hb dX2_pour_76 ?_
                    refine z_calli (rest := []) (va_runS (As := [.ref (zl E (c1.2.2 d.toNatClampNeg)), .int (i + (nI k)), .ref (zl E (c1.2.2 t.toNatClampNeg)), .int (j + (nI k))]) (rest := []) ⟨hx, hb, hml, hown, hts⟩ (k_X2_pourOne l E c1 mo (c1.2.2 d.toNatClampNeg) (i + (nI k)) (c1.2.2 t.toNatClampNeg) (j + (nI k)) hf_8 hf_9 (hwf1.2.1 _ hf_8) (hwf1.2.1 _ hf_9)) (va_cwS 4 hts gX2_pour_X2_pourOne rfl rfl rfl (by decide +kernel) ⟨Nat.le_of_ble_eq_true rfl, Nat.le_of_ble_eq_true rfl⟩) (z_preS hw [.ref (zl E (c1.2.2 d.toNatClampNeg)), .int (i + (nI k)), .ref (zl E (c1.2.2 t.toNatClampNeg)), .int (j + (nI k))]) rfl rfl hl.1 rfl (lv_room (Nat.le_of_ble_eq_true rfl)) dX2_pour_77 ⟨Nat.le_of_ble_eq_true rfl, Nat.le_of_ble_eq_true rfl⟩) hw (fun H locs hw => ?_)
                    refine lv_istore (lv' := [(7, .int (fPo c1 (c1.2.2 d.toNatClampNeg) (i + (nI k)) (c1.2.2 t.toNatClampNeg) (j + (nI k)))), (6, .int (nI k)), (0, .ref (zl E 0)), (1, .int d), (2, .int i), (3, .int t), (4, .int j), (5, .int n)]) hx hb dX2_pour_80 hl (by decide) rfl (fun ls hl => ?_)
                    refine lv_iload hx hb dX2_pour_82 (lv_at hl 0 rfl) ?_
                    refine lv_if_eq (tgt := 100) hx hb dX2_pour_84 (by decide) (fun q_10 => ?_) (fun q_10 => ?_)
                    · have _ := hx
                      refine lv_iinc (v := (nI (k + 1))) (lv' := [(6, .int (nI (k + 1))), (7, .int (fPo c1 (c1.2.2 d.toNatClampNeg) (i + (nI k)) (c1.2.2 t.toNatClampNeg) (j + (nI k)))), (0, .ref (zl E 0)), (1, .int d), (2, .int i), (3, .int t), (4, .int j), (5, .int n)]) hx hb dX2_pour_100 hl (k := 1) rfl (nI_1 k) (by decide) rfl (fun ls hl => ?_)
                      refine lv_goto (tgt := 49) hx hb dX2_pour_103 (by decide) ?_
                      exact ih (k + 1) (sPo c1 (c1.2.2 d.toNatClampNeg) (i + (nI k)) (c1.2.2 t.toNatClampNeg) (j + (nI k))) _ _ _ (by omega) (by omega) (wfC_sk (Sk_po _ _ _ _ _) hwf1) (by simpa [porN, q_10] using hR) hw (lv_sub hl [0, 2, 3, 4, 5, 6, 7] rfl)
                    · have _ := hx
                      refine lv_aload_n hx hb dX2_pour_87 rfl (lv_at hl 2 rfl) ?_
                      refine lv_iload hx hb dX2_pour_88 (lv_at hl 0 rfl) ?_
                      refine z_calli (rest := []) (va_runV (As := [.int (fPo c1 (c1.2.2 d.toNatClampNeg) (i + (nI k)) (c1.2.2 t.toNatClampNeg) (j + (nI k)))]) (rest := []) ⟨hx, hb, hml, hown, hts⟩ (k_X2_meet l E (sPo c1 (c1.2.2 d.toNatClampNeg) (i + (nI k)) (c1.2.2 t.toNatClampNeg) (j + (nI k))) mo (fPo c1 (c1.2.2 d.toNatClampNeg) (i + (nI k)) (c1.2.2 t.toNatClampNeg) (j + (nI k))) (fPo_5 _ _ _ _ _)) (cwV 1 hts gX2_pour_X2_meet rfl rfl rfl (by decide +kernel) ⟨Nat.le_of_ble_eq_true rfl, Nat.le_of_ble_eq_true rfl⟩) (z_preV hw (by decide) zG_0 rfl [.int (fPo c1 (c1.2.2 d.toNatClampNeg) (i + (nI k)) (c1.2.2 t.toNatClampNeg) (j + (nI k)))]) rfl rfl hl.1 rfl (lv_room (Nat.le_of_ble_eq_true rfl)) dX2_pour_90 ⟨Nat.le_of_ble_eq_true rfl, Nat.le_of_ble_eq_true rfl⟩) hw (fun H locs hw => ?_)
                      refine lv_pop hx hb dX2_pour_93 rfl ?_
                      refine lv_bipush (v := (-100)) hx hb dX2_pour_94 (by decide) ?_
                      refine lv_iload hx hb dX2_pour_96 (lv_at hl 1 rfl) ?_
                      refine lv_iadd hx hb dX2_pour_98 ?_
                      exact z_iret hx hb hr hlocks hw dX2_pour_99 (by rw [← hR]; simp [porN, q_10, sPo_ne q_10]) (by rw [← hR]; simp [porN, q_10, sPo_ne q_10]) rfl
              exact loop49 (n.toNatClampNeg + 1) 0 c _ _ _ (by omega) (by omega) hwf (by rw [Nat.sub_zero]; simp [pPour, q_1, q_2, q_3, q_4, q_5, q_6]) hw (lv_sub hl [0, 1, 2, 3, 4, 5, 6] rfl)
            · have _ := hx
              refine lv_bipush (v := (-2)) hx hb dX2_pour_43 (by decide) ?_
              exact z_iret hx hb hr hlocks hw dX2_pour_45 (by simp [pPour, q_1, q_2, q_3, q_4, q_5, q_6]) (by simp [pPour, q_1, q_2, q_3, q_4, q_5, q_6]) rfl
    · have _ := hx
      refine lv_iconst (v := (-1)) hx hb dX2_pour_14 (by decide) ?_
      exact z_iret hx hb hr hlocks hw dX2_pour_15 (by simp [pPour, q_1, q_2]) (by simp [pPour, q_1, q_2]) rfl
set_option maxHeartbeats 4000000 in
set_option maxRecDepth 100000 in
theorem k_X2_perform (l : Launch) (E : zE) (c : zC) (mo : zM) (o : Nat) (hwf : wfC c) (ho : kd o = 7) : Met l yX2_perform wsX2_perform (zR 5 118) (zP E c mo [.ref (zl E 0), .ref (zl E o)]) (cQv E (sPerf c o) mo) 0 0 (zA E) := by
  refine z_ent (cc := cX2_perform) (maxL := 2) (ret := none) (vs := [.ref (zl E 0), .ref (zl E o)]) (by decide) rfl (Nat.le_of_ble_eq_true rfl) ?_
  intro p e s m below meth cd ls hx hb hr hml hown hts hlocks hl hw
  have hl : lv_has ls 2 [(0, .ref (zl E 0)), (1, .ref (zl E o))] := hl
  have hown : s.vm.findClass RX2 = some m.cls := hown
  have hin1 : ∀ w ∈ u_ws RX1 TX1 5, w ∈ wsX2_perform := by decide +kernel
  refine lv_aload_n hx hb dX2_perform_0 rfl (lv_at hl 1 rfl) ?_
  refine z_get (i := o) hx hb hts hin1 hown hw (kd7l ho) (zG_7 ho) rfl 0 (by decide) (hts (.fieldLink RX2 149 "SeedDrawers$Order" "op" "I") (by decide +kernel)) rfl rfl dX2_perform_1 ?_
  by_cases q_1 : (c.1 o 0) = 0
  · have _ := hx
    refine lv_tableIn (tgt := 36) hx hb dX2_perform_4 (by rw [q_1]; decide) (by rw [q_1]; decide) (by rw [q_1]; rfl) (by decide) ?_
    refine lv_aload_n hx hb dX2_perform_36 rfl (lv_at hl 0 rfl) ?_
    refine lv_aload_n hx hb dX2_perform_37 rfl (lv_at hl 1 rfl) ?_
    refine z_get (i := o) hx hb hts hin1 hown hw (kd7l ho) (zG_7 ho) rfl 1 (by decide) (hts (.fieldLink RX2 152 "SeedDrawers$Order" "a" "I") (by decide +kernel)) rfl rfl dX2_perform_38 ?_
    refine lv_aload_n hx hb dX2_perform_41 rfl (lv_at hl 1 rfl) ?_
    refine z_get (i := o) hx hb hts hin1 hown hw (kd7l ho) (zG_7 ho) rfl 2 (by decide) (hts (.fieldLink RX2 155 "SeedDrawers$Order" "i" "I") (by decide +kernel)) rfl rfl dX2_perform_42 ?_
    refine z_calli (rest := []) (va_runV (As := [.int (c.1 o 1), .int (c.1 o 2)]) (rest := []) ⟨hx, hb, hml, hown, hts⟩ (k_X2_take l E c mo (c.1 o 1) (c.1 o 2) (by assumption)) (cwV 2 hts gX2_perform_X2_take rfl rfl rfl (by decide +kernel) ⟨Nat.le_of_ble_eq_true rfl, Nat.le_of_ble_eq_true rfl⟩) (z_preV hw (by decide) zG_0 rfl [.int (c.1 o 1), .int (c.1 o 2)]) rfl rfl hl.1 rfl (lv_room (Nat.le_of_ble_eq_true rfl)) dX2_perform_45 ⟨Nat.le_of_ble_eq_true rfl, Nat.le_of_ble_eq_true rfl⟩) hw (fun H locs hw => ?_)
    refine lv_pop hx hb dX2_perform_48 rfl ?_
    refine lv_goto (tgt := 126) hx hb dX2_perform_49 (by decide) ?_
    exact z_vret hx hb hr hlocks hw dX2_perform_126 (by first | (simp [sPerf, q_1]; done) | (simp_all [sPerf]; done)) rfl
  by_cases q_2 : (c.1 o 0) = 1
  · have _ := hx
    refine lv_tableIn (tgt := 52) hx hb dX2_perform_4 (by rw [q_2]; decide) (by rw [q_2]; decide) (by rw [q_2]; rfl) (by decide) ?_
    refine lv_aload_n hx hb dX2_perform_52 rfl (lv_at hl 0 rfl) ?_
    refine lv_aload_n hx hb dX2_perform_53 rfl (lv_at hl 1 rfl) ?_
    refine z_get (i := o) hx hb hts hin1 hown hw (kd7l ho) (zG_7 ho) rfl 3 (by decide) (hts (.fieldLink RX2 161 "SeedDrawers$Order" "b" "I") (by decide +kernel)) rfl rfl dX2_perform_54 ?_
    refine lv_aload_n hx hb dX2_perform_57 rfl (lv_at hl 1 rfl) ?_
    refine z_get (i := o) hx hb hts hin1 hown hw (kd7l ho) (zG_7 ho) rfl 4 (by decide) (hts (.fieldLink RX2 164 "SeedDrawers$Order" "j" "I") (by decide +kernel)) rfl rfl dX2_perform_58 ?_
    refine z_calli (rest := []) (va_runV (As := [.int (c.1 o 3), .int (c.1 o 4)]) (rest := []) ⟨hx, hb, hml, hown, hts⟩ (k_X2_lay l E c mo (c.1 o 3) (c.1 o 4) (by assumption)) (cwV 2 hts gX2_perform_X2_lay rfl rfl rfl (by decide +kernel) ⟨Nat.le_of_ble_eq_true rfl, Nat.le_of_ble_eq_true rfl⟩) (z_preV hw (by decide) zG_0 rfl [.int (c.1 o 3), .int (c.1 o 4)]) rfl rfl hl.1 rfl (lv_room (Nat.le_of_ble_eq_true rfl)) dX2_perform_61 ⟨Nat.le_of_ble_eq_true rfl, Nat.le_of_ble_eq_true rfl⟩) hw (fun H locs hw => ?_)
    refine lv_pop hx hb dX2_perform_64 rfl ?_
    refine lv_goto (tgt := 126) hx hb dX2_perform_65 (by decide) ?_
    exact z_vret hx hb hr hlocks hw dX2_perform_126 (by first | (simp [sPerf, q_1, q_2]; done) | (simp_all [sPerf]; done)) rfl
  by_cases q_3 : (c.1 o 0) = 2
  · have _ := hx
    refine lv_tableIn (tgt := 68) hx hb dX2_perform_4 (by rw [q_3]; decide) (by rw [q_3]; decide) (by rw [q_3]; rfl) (by decide) ?_
    refine lv_aload_n hx hb dX2_perform_68 rfl (lv_at hl 0 rfl) ?_
    refine lv_aload_n hx hb dX2_perform_69 rfl (lv_at hl 1 rfl) ?_
    refine z_get (i := o) hx hb hts hin1 hown hw (kd7l ho) (zG_7 ho) rfl 1 (by decide) (hts (.fieldLink RX2 152 "SeedDrawers$Order" "a" "I") (by decide +kernel)) rfl rfl dX2_perform_70 ?_
    refine lv_aload_n hx hb dX2_perform_73 rfl (lv_at hl 1 rfl) ?_
    refine z_get (i := o) hx hb hts hin1 hown hw (kd7l ho) (zG_7 ho) rfl 2 (by decide) (hts (.fieldLink RX2 155 "SeedDrawers$Order" "i" "I") (by decide +kernel)) rfl rfl dX2_perform_74 ?_
    refine lv_aload_n hx hb dX2_perform_77 rfl (lv_at hl 1 rfl) ?_
    refine z_get (i := o) hx hb hts hin1 hown hw (kd7l ho) (zG_7 ho) rfl 3 (by decide) (hts (.fieldLink RX2 161 "SeedDrawers$Order" "b" "I") (by decide +kernel)) rfl rfl dX2_perform_78 ?_
    refine lv_aload_n hx hb dX2_perform_81 rfl (lv_at hl 1 rfl) ?_
    refine z_get (i := o) hx hb hts hin1 hown hw (kd7l ho) (zG_7 ho) rfl 4 (by decide) (hts (.fieldLink RX2 164 "SeedDrawers$Order" "j" "I") (by decide +kernel)) rfl rfl dX2_perform_82 ?_
    refine z_calli (rest := []) (va_runV (As := [.int (c.1 o 1), .int (c.1 o 2), .int (c.1 o 3), .int (c.1 o 4)]) (rest := []) ⟨hx, hb, hml, hown, hts⟩ (k_X2_swap l E c mo (c.1 o 1) (c.1 o 2) (c.1 o 3) (c.1 o 4) (by assumption)) (cwV 4 hts gX2_perform_X2_swap rfl rfl rfl (by decide +kernel) ⟨Nat.le_of_ble_eq_true rfl, Nat.le_of_ble_eq_true rfl⟩) (z_preV hw (by decide) zG_0 rfl [.int (c.1 o 1), .int (c.1 o 2), .int (c.1 o 3), .int (c.1 o 4)]) rfl rfl hl.1 rfl (lv_room (Nat.le_of_ble_eq_true rfl)) dX2_perform_85 ⟨Nat.le_of_ble_eq_true rfl, Nat.le_of_ble_eq_true rfl⟩) hw (fun H locs hw => ?_)
    refine lv_pop hx hb dX2_perform_88 rfl ?_
    refine lv_goto (tgt := 126) hx hb dX2_perform_89 (by decide) ?_
    exact z_vret hx hb hr hlocks hw dX2_perform_126 (by first | (simp [sPerf, q_1, q_2, q_3]; done) | (simp_all [sPerf]; done)) rfl
  by_cases q_4 : (c.1 o 0) = 3
  · have _ := hx
    refine lv_tableIn (tgt := 92) hx hb dX2_perform_4 (by rw [q_4]; decide) (by rw [q_4]; decide) (by rw [q_4]; rfl) (by decide) ?_
    refine lv_aload_n hx hb dX2_perform_92 rfl (lv_at hl 0 rfl) ?_
    refine lv_aload_n hx hb dX2_perform_93 rfl (lv_at hl 1 rfl) ?_
    refine z_get (i := o) hx hb hts hin1 hown hw (kd7l ho) (zG_7 ho) rfl 1 (by decide) (hts (.fieldLink RX2 152 "SeedDrawers$Order" "a" "I") (by decide +kernel)) rfl rfl dX2_perform_94 ?_
    refine z_calli (rest := []) (va_runV (As := [.int (c.1 o 1)]) (rest := []) ⟨hx, hb, hml, hown, hts⟩ (k_X2_turn l E c mo (c.1 o 1) (by assumption)) (cwV 1 hts gX2_perform_X2_turn rfl rfl rfl (by decide +kernel) ⟨Nat.le_of_ble_eq_true rfl, Nat.le_of_ble_eq_true rfl⟩) (z_preV hw (by decide) zG_0 rfl [.int (c.1 o 1)]) rfl rfl hl.1 rfl (lv_room (Nat.le_of_ble_eq_true rfl)) dX2_perform_97 ⟨Nat.le_of_ble_eq_true rfl, Nat.le_of_ble_eq_true rfl⟩) hw (fun H locs hw => ?_)
    refine lv_pop hx hb dX2_perform_100 rfl ?_
    refine lv_goto (tgt := 126) hx hb dX2_perform_101 (by decide) ?_
    exact z_vret hx hb hr hlocks hw dX2_perform_126 (by first | (simp [sPerf, q_1, q_2, q_3, q_4]; done) | (simp_all [sPerf]; done)) rfl
  refine lv_tableOut (tgt := 104) hx hb dX2_perform_4 (tb_out [0, 1, 2, 3] 0 3 (by decide +kernel) (by simp [q_1, q_2, q_3, q_4])) (by decide) ?_
  refine lv_aload_n hx hb dX2_perform_104 rfl (lv_at hl 0 rfl) ?_
  refine lv_aload_n hx hb dX2_perform_105 rfl (lv_at hl 1 rfl) ?_
  refine z_get (i := o) hx hb hts hin1 hown hw (kd7l ho) (zG_7 ho) rfl 1 (by decide) (hts (.fieldLink RX2 152 "SeedDrawers$Order" "a" "I") (by decide +kernel)) rfl rfl dX2_perform_106 ?_
  refine lv_aload_n hx hb dX2_perform_109 rfl (lv_at hl 1 rfl) ?_
  refine z_get (i := o) hx hb hts hin1 hown hw (kd7l ho) (zG_7 ho) rfl 2 (by decide) (hts (.fieldLink RX2 155 "SeedDrawers$Order" "i" "I") (by decide +kernel)) rfl rfl dX2_perform_110 ?_
  refine lv_aload_n hx hb dX2_perform_113 rfl (lv_at hl 1 rfl) ?_
  refine z_get (i := o) hx hb hts hin1 hown hw (kd7l ho) (zG_7 ho) rfl 3 (by decide) (hts (.fieldLink RX2 161 "SeedDrawers$Order" "b" "I") (by decide +kernel)) rfl rfl dX2_perform_114 ?_
  refine lv_aload_n hx hb dX2_perform_117 rfl (lv_at hl 1 rfl) ?_
  refine z_get (i := o) hx hb hts hin1 hown hw (kd7l ho) (zG_7 ho) rfl 4 (by decide) (hts (.fieldLink RX2 164 "SeedDrawers$Order" "j" "I") (by decide +kernel)) rfl rfl dX2_perform_118 ?_
  refine lv_iconst (v := 3) hx hb dX2_perform_121 (by decide) ?_
  refine z_calli (rest := []) (va_runV (As := [.int (c.1 o 1), .int (c.1 o 2), .int (c.1 o 3), .int (c.1 o 4), .int 3]) (rest := []) ⟨hx, hb, hml, hown, hts⟩ (k_X2_pour l E c mo (c.1 o 1) (c.1 o 2) (c.1 o 3) (c.1 o 4) 3 (by assumption)) (cwV 5 hts gX2_perform_X2_pour rfl rfl rfl (by decide +kernel) ⟨Nat.le_of_ble_eq_true rfl, Nat.le_of_ble_eq_true rfl⟩) (z_preV hw (by decide) zG_0 rfl [.int (c.1 o 1), .int (c.1 o 2), .int (c.1 o 3), .int (c.1 o 4), .int 3]) rfl rfl hl.1 rfl (lv_room (Nat.le_of_ble_eq_true rfl)) dX2_perform_122 ⟨Nat.le_of_ble_eq_true rfl, Nat.le_of_ble_eq_true rfl⟩) hw (fun H locs hw => ?_)
  refine lv_pop hx hb dX2_perform_125 rfl ?_
  exact z_vret hx hb hr hlocks hw dX2_perform_126 (by first | (simp [sPerf, q_1, q_2, q_3, q_4]; done) | (simp_all [sPerf]; done)) rfl
set_option maxHeartbeats 4000000 in
set_option maxRecDepth 100000 in
theorem k_X2_run (l : Launch) (E : zE) (c : zC) (mo : zM)  (hwf : wfC c) : Met l yX2_run wsX2_run (zR 6 139) (zP E c mo [.ref (zl E 0)]) (cQi E ((pRun c).1) ((pRun c).2) mo) 0 0 (zA E) := by
  refine z_ent (cc := cX2_run) (maxL := 4) (ret := (some .int)) (vs := [.ref (zl E 0)]) (by decide) rfl (Nat.le_of_ble_eq_true rfl) ?_
  intro p e s m below meth cd ls hx hb hr hml hown hts hlocks hl hw
  have hl : lv_has ls 4 [(0, .ref (zl E 0))] := hl
  have hown : s.vm.findClass RX2 = some m.cls := hown
  have hin2 : ∀ w ∈ u_ws RX2 TX2 12, w ∈ wsX2_run := by decide +kernel
  obtain ⟨nm, hnm1, hnm2⟩ := hwf.2.2.1
  have hN : c.1 0 7 = nI (c.1 0 7).toNatClampNeg := by rw [hnm2, nI_clamp (by omega)]
  have hN8 : (c.1 0 7).toNatClampNeg ≤ 8 := by rw [hnm2, nI_clamp (by omega)]; exact hnm1
  refine lv_iconst (v := 0) hx hb dX2_run_0 (by decide) ?_
  refine lv_istore_n (lv' := [(1, .int 0), (0, .ref (zl E 0))]) hx hb dX2_run_1 rfl hl (by decide) rfl (fun ls hl => ?_)
  refine lv_iconst (v := 0) hx hb dX2_run_2 (by decide) ?_
  refine lv_istore_n (lv' := [(2, .int 0), (1, .int 0), (0, .ref (zl E 0))]) hx hb dX2_run_3 rfl hl (by decide) rfl (fun ls hl => ?_)
  have loop4 : ∀ (n_ : Nat) (k : Nat) (a : Int32) (c1 : zC) (H : Heap) (locs : List Loc) (ls : Array Slot), (c.1 0 7).toNatClampNeg - k < n_ → (k ≤ (c.1 0 7).toNatClampNeg) → (wfC c1) → (c1.1 0 7 = c.1 0 7) → (runN ((c.1 0 7).toNatClampNeg - k) k a c1 = runN (c.1 0 7).toNatClampNeg 0 0 c) → zW E c1 mo s s.heap H locs → lv_has ls 4 [(2, .int (nI k)), (1, .int a), (0, .ref (zl E 0))] → W p l e (headSpec wsX2_run (zR 6 139)).room s m ([.ref (zl E 0)] : List Value).toArray below meth cd H locs 0 0 (MQ below (cQi E ((pRun c).1) ((pRun c).2) mo) ([.ref (zl E 0)] : List Value).toArray s 0 0 (zA E)) (F0 m 4 ls []) := by
    intro n_
    induction n_ with
    | zero => intro k a c1 H locs ls hn_; exact absurd hn_ (Nat.not_lt_zero _)
    | succ n_ ih =>
      intro k a c1 H locs ls hn_ hk hwf1 hoc hR hw hl
      refine lv_iload_n hx hb dX2_run_4 rfl (lv_at hl 0 rfl) ?_
      refine lv_aload_n hx hb dX2_run_5 rfl (lv_at hl 2 rfl) ?_
      refine z_get (i := 0) hx hb hts hin2 hown hw (by decide) zG_0 rfl 7 (by decide) (hts (.fieldLink RX2 118 "SeedDrawers" "orderCount" "I") (by decide +kernel)) rfl rfl dX2_run_6 ?_
      refine lv_icmp_ge (tgt := 71) hx hb dX2_run_9 (by decide) (fun q_1 => ?_) (fun q_1 => ?_)
      · have _ := hx
        rw [hoc, hN] at q_1
        have hk2 : (c.1 0 7).toNatClampNeg ≤ k := le_le q_1 (by omega) (by omega)
        rw [show (c.1 0 7).toNatClampNeg - k = 0 by omega] at hR
        have hR : (a, c1) = runN (c.1 0 7).toNatClampNeg 0 0 c := hR
        refine lv_aload_n hx hb dX2_run_71 rfl (lv_at hl 2 rfl) ?_
        refine lv_aload_n hx hb dX2_run_72 rfl (lv_at hl 2 rfl) ?_
        refine z_get (i := 0) hx hb hts hin2 hown hw (by decide) zG_0 rfl 7 (by decide) (hts (.fieldLink RX2 118 "SeedDrawers" "orderCount" "I") (by decide +kernel)) rfl rfl dX2_run_73 ?_
        refine z_put (i := 0) (ty := .int) hx hb hts hin2 tyX2 tyX2_ok nmX2 hown hw (by decide) zG_0 rfl 9 (by decide) (hts (.fieldLink RX2 132 "SeedDrawers" "metCount" "I") (by decide +kernel)) rfl rfl (by decide +kernel) rfl rfl (Nat.le_of_ble_eq_true rfl) (zU0_9 E c1 mo (c1.1 0 7)) dX2_run_76 (fun H locs hw => ?_)
        refine lv_aload_n hx hb dX2_run_79 rfl (lv_at hl 2 rfl) ?_
        refine lv_iconst (v := 0) hx hb dX2_run_80 (by decide) ?_
        refine z_put (i := 0) (ty := .int) hx hb hts hin2 tyX2 tyX2_ok nmX2 hown hw (by decide) zG_0 rfl 7 (by decide) (hts (.fieldLink RX2 118 "SeedDrawers" "orderCount" "I") (by decide +kernel)) rfl rfl (by decide +kernel) rfl rfl (Nat.le_of_ble_eq_true rfl) (zU0_7 E (sI c1 0 9 (c1.1 0 7)) mo 0) dX2_run_81 (fun H locs hw => ?_)
        refine lv_iload_n hx hb dX2_run_84 rfl (lv_at hl 1 rfl) ?_
        exact z_iret hx hb hr hlocks hw dX2_run_85 (by simp [pRun, fin, ← hR]) (by simp [pRun, fin, ← hR]) rfl
      · have _ := hx
        rw [hoc, hN] at q_1
        have hk2 : k < (c.1 0 7).toNatClampNeg := nle_lt q_1 (by omega) (by omega)
        rw [show (c.1 0 7).toNatClampNeg - k = ((c.1 0 7).toNatClampNeg - (k + 1)) + 1 by omega] at hR
        refine lv_aload_n hx hb dX2_run_12 rfl (lv_at hl 2 rfl) ?_
        refine z_get (i := 0) hx hb hts hin2 hown hw (by decide) zG_0 rfl 11 (by decide) (hts (.fieldLink RX2 38 "SeedDrawers" "faultCounts" "[I") (by decide +kernel)) rfl rfl dX2_run_13 ?_
        refine lv_iconst (v := 0) hx hb dX2_run_16 (by decide) ?_
        refine y_iald (i := 5) hx hb hw (by decide) (zG_4 (i := 5) (by decide)) (vp_in_iff.mpr (by decide)) (k := 0) rfl dX2_run_17 ?_
        refine lv_istore_n (lv' := [(3, .int (c1.1 5 0)), (2, .int (nI k)), (1, .int a), (0, .ref (zl E 0))]) hx hb dX2_run_18 rfl hl (by decide) rfl (fun ls hl => ?_)
        refine lv_aload_n hx hb dX2_run_19 rfl (lv_at hl 3 rfl) ?_
        refine lv_aload_n hx hb dX2_run_20 rfl (lv_at hl 3 rfl) ?_
        refine z_get (i := 0) hx hb hts hin2 hown hw (by decide) zG_0 rfl 6 (by decide) (hts (.fieldLink RX2 29 "SeedDrawers" "orders" "[LSeedDrawers$Order;") (by decide +kernel)) rfl rfl dX2_run_21 ?_
        refine lv_iload_n hx hb dX2_run_24 rfl (lv_at hl 1 rfl) ?_
        refine y_aald3 hx hb hw (vp_in_nI (by omega) (by omega)) (k := k) (nI_clamp (by omega)) dX2_run_25 ?_
        have hf_2 : kd (24 + k) = 7 := kd7o (by omega) (by omega)
        refine z_callv (rest := []) (va_runV (As := [.ref (zl E (24 + k))]) (rest := []) ⟨hx, hb, hml, hown, hts⟩ (k_X2_perform l E c1 mo (24 + k) hwf1 hf_2) (cwV 1 hts gX2_run_X2_perform rfl rfl rfl (by decide +kernel) ⟨Nat.le_of_ble_eq_true rfl, Nat.le_of_ble_eq_true rfl⟩) (z_preV hw (by decide) zG_0 rfl [.ref (zl E (24 + k))]) rfl rfl hl.1 rfl (lv_room (Nat.le_of_ble_eq_true rfl)) dX2_run_26 ⟨Nat.le_of_ble_eq_true rfl, Nat.le_of_ble_eq_true rfl⟩) hw (fun H locs hw => ?_)
        refine lv_aload_n hx hb dX2_run_29 rfl (lv_at hl 3 rfl) ?_
        refine z_get (i := 0) hx hb hts hin2 hown hw (by decide) zG_0 rfl 8 (by decide) (hts (.fieldLink RX2 34 "SeedDrawers" "metFaults" "[I") (by decide +kernel)) rfl rfl dX2_run_30 ?_
        refine lv_iload_n hx hb dX2_run_33 rfl (lv_at hl 1 rfl) ?_
        refine lv_aload_n hx hb dX2_run_34 rfl (lv_at hl 3 rfl) ?_
        refine z_get (i := 0) hx hb hts hin2 hown hw (by decide) zG_0 rfl 11 (by decide) (hts (.fieldLink RX2 38 "SeedDrawers" "faultCounts" "[I") (by decide +kernel)) rfl rfl dX2_run_35 ?_
        refine lv_iconst (v := 0) hx hb dX2_run_38 (by decide) ?_
        refine y_iald (i := 5) hx hb hw (by decide) (zG_4 (i := 5) (by decide)) (vp_in_iff.mpr (by decide)) (k := 0) rfl dX2_run_39 ?_
        refine lv_iload_n hx hb dX2_run_40 rfl (lv_at hl 0 rfl) ?_
        refine lv_icmp_ne (tgt := 48) hx hb dX2_run_41 (by decide) (fun q_3 => ?_) (fun q_3 => ?_)
        · have _ := hx
          refine lv_aload_n hx hb dX2_run_48 rfl (lv_at hl 3 rfl) ?_
          refine z_get (i := 0) hx hb hts hin2 hown hw (by decide) zG_0 rfl 10 (by decide) (hts (.fieldLink RX2 129 "SeedDrawers" "latestFault" "I") (by decide +kernel)) rfl rfl dX2_run_49 ?_
          refine y_iast4 (i := 4) hx hb hw (by decide) (by decide) (vp_in_nI (N := 8) (by omega) (by omega)) (k := k) (nI_clamp (by omega)) dX2_run_52 (fun H locs hw => ?_)
          refine lv_aload_n hx hb dX2_run_53 rfl (lv_at hl 3 rfl) ?_
          refine z_get (i := 0) hx hb hts hin2 hown hw (by decide) zG_0 rfl 8 (by decide) (hts (.fieldLink RX2 34 "SeedDrawers" "metFaults" "[I") (by decide +kernel)) rfl rfl dX2_run_54 ?_
          refine lv_iload_n hx hb dX2_run_57 rfl (lv_at hl 1 rfl) ?_
          refine y_iald (i := 4) hx hb hw (by decide) (zG_4 (i := 4) (by decide)) (vp_in_nI (N := 8) (by omega) (by omega)) (k := k) (nI_clamp (by omega)) dX2_run_58 ?_
          refine lv_if_ne (tgt := 65) hx hb dX2_run_59 (by decide) (fun q_4 => ?_) (fun q_4 => ?_)
          · have _ := hx
            refine lv_iinc (v := (nI (k + 1))) (lv' := [(2, .int (nI (k + 1))), (3, .int (c1.1 5 0)), (1, .int a), (0, .ref (zl E 0))]) hx hb dX2_run_65 hl (k := 1) rfl (nI_1 k) (by decide) rfl (fun ls hl => ?_)
            refine lv_goto (tgt := 4) hx hb dX2_run_68 (by decide) ?_
            exact ih (k + 1) a (sI (sPerf c1 (24 + k)) 4 k ((sPerf c1 (24 + k)).1 0 10)) _ _ _ (by omega) (by omega) (wfC_4 (wfC_sk (Sk_perf _ _) hwf1) _ _) ((Sk_perf _ _).2.2.2.1.trans hoc) (by simpa [runN, q_3, q_4] using hR) hw (lv_sub hl [0, 2, 3] rfl)
          · have _ := hx
            refine lv_iinc (v := (a + 1)) (lv' := [(1, .int (a + 1)), (3, .int (c1.1 5 0)), (2, .int (nI k)), (0, .ref (zl E 0))]) hx hb dX2_run_62 hl (k := 2) rfl rfl (by decide) rfl (fun ls hl => ?_)
            refine lv_iinc (v := (nI (k + 1))) (lv' := [(2, .int (nI (k + 1))), (1, .int (a + 1)), (3, .int (c1.1 5 0)), (0, .ref (zl E 0))]) hx hb dX2_run_65 hl (k := 2) rfl (nI_1 k) (by decide) rfl (fun ls hl => ?_)
            refine lv_goto (tgt := 4) hx hb dX2_run_68 (by decide) ?_
            exact ih (k + 1) (a + 1) (sI (sPerf c1 (24 + k)) 4 k ((sPerf c1 (24 + k)).1 0 10)) _ _ _ (by omega) (by omega) (wfC_4 (wfC_sk (Sk_perf _ _) hwf1) _ _) ((Sk_perf _ _).2.2.2.1.trans hoc) (by simpa [runN, q_3, q_4] using hR) hw (lv_sub hl [0, 1, 3] rfl)
        · have _ := hx
          refine lv_iconst (v := 0) hx hb dX2_run_44 (by decide) ?_
          refine lv_goto (tgt := 52) hx hb dX2_run_45 (by decide) ?_
          refine y_iast4 (i := 4) hx hb hw (by decide) (by decide) (vp_in_nI (N := 8) (by omega) (by omega)) (k := k) (nI_clamp (by omega)) dX2_run_52 (fun H locs hw => ?_)
          refine lv_aload_n hx hb dX2_run_53 rfl (lv_at hl 3 rfl) ?_
          refine z_get (i := 0) hx hb hts hin2 hown hw (by decide) zG_0 rfl 8 (by decide) (hts (.fieldLink RX2 34 "SeedDrawers" "metFaults" "[I") (by decide +kernel)) rfl rfl dX2_run_54 ?_
          refine lv_iload_n hx hb dX2_run_57 rfl (lv_at hl 1 rfl) ?_
          refine y_iald (i := 4) hx hb hw (by decide) (zG_4 (i := 4) (by decide)) (vp_in_nI (N := 8) (by omega) (by omega)) (k := k) (nI_clamp (by omega)) dX2_run_58 ?_
          refine lv_if_ne (tgt := 65) hx hb dX2_run_59 (by decide) (fun q_5 => ?_) (fun q_5 => ?_)
          · have _ := hx
            refine lv_iinc (v := (nI (k + 1))) (lv' := [(2, .int (nI (k + 1))), (3, .int (c1.1 5 0)), (1, .int a), (0, .ref (zl E 0))]) hx hb dX2_run_65 hl (k := 1) rfl (nI_1 k) (by decide) rfl (fun ls hl => ?_)
            refine lv_goto (tgt := 4) hx hb dX2_run_68 (by decide) ?_
            exact ih (k + 1) a (sI (sPerf c1 (24 + k)) 4 k 0) _ _ _ (by omega) (by omega) (wfC_4 (wfC_sk (Sk_perf _ _) hwf1) _ _) ((Sk_perf _ _).2.2.2.1.trans hoc) (by simpa [runN, q_3, q_5] using hR) hw (lv_sub hl [0, 2, 3] rfl)
          · have _ := hx
            refine lv_iinc (v := (a + 1)) (lv' := [(1, .int (a + 1)), (3, .int (c1.1 5 0)), (2, .int (nI k)), (0, .ref (zl E 0))]) hx hb dX2_run_62 hl (k := 2) rfl rfl (by decide) rfl (fun ls hl => ?_)
            refine lv_iinc (v := (nI (k + 1))) (lv' := [(2, .int (nI (k + 1))), (1, .int (a + 1)), (3, .int (c1.1 5 0)), (0, .ref (zl E 0))]) hx hb dX2_run_65 hl (k := 2) rfl (nI_1 k) (by decide) rfl (fun ls hl => ?_)
            refine lv_goto (tgt := 4) hx hb dX2_run_68 (by decide) ?_
            exact ih (k + 1) (a + 1) (sI (sPerf c1 (24 + k)) 4 k 0) _ _ _ (by omega) (by omega) (wfC_4 (wfC_sk (Sk_perf _ _) hwf1) _ _) ((Sk_perf _ _).2.2.2.1.trans hoc) (by simpa [runN, q_3, q_5] using hR) hw (lv_sub hl [0, 1, 3] rfl)
  exact loop4 ((c.1 0 7).toNatClampNeg + 1) 0 0 c _ _ _ (by omega) (by omega) hwf rfl rfl hw (lv_sub hl [0, 1, 2] rfl)
