set_option maxHeartbeats 4000000 in
set_option maxRecDepth 100000 in
theorem k_X3_pours (l : Launch) (E : zE) (c : zC) (mo : zM) (d : Int32) (i : Int32) (t : Int32) (j : Int32) (n : Int32) (hd : vp_in d 8) (ht : vp_in t 8) (hwm : wfM mo) (hn : vp_in n 13) : Met l yX3_pours wsX3_pours (zR 3 72) (zP E c mo [.ref (zl E 32), .int d, .int i, .int t, .int j, .int n]) (cQi E ((pPs mo d i t j n).1) c ((pPs mo d i t j n).2)) 0 0 (zA E) := by
  refine z_ent (cc := cX3_pours) (maxL := 8) (ret := (some .int)) (vs := [.ref (zl E 32), .int d, .int i, .int t, .int j, .int n]) (by decide) rfl (Nat.le_of_ble_eq_true rfl) ?_
  intro p e s m below meth cd ls hx hb hr hml hown hts hlocks hl hw
  have hl : lv_has ls 8 [(0, .ref (zl E 32)), (1, .int d), (2, .int i), (3, .int t), (4, .int j), (5, .int n)] := hl
  have hown : s.vm.findClass RX3 = some m.cls := hown
  have hin3 : ∀ w ∈ u_ws RX3 TX3 18, w ∈ wsX3_pours := by decide +kernel
  have hn2 : n = nI n.toNatClampNeg := in_nI hn (by decide)
  have hn3 : n.toNatClampNeg ≤ 12 := by have := in_lt hn; omega
  refine lv_aload_n hx hb dX3_pours_0 rfl (lv_at hl 0 rfl) ?_
  refine lv_iconst (v := 0) hx hb dX3_pours_1 (by decide) ?_
  refine z_put (i := 32) (ty := .int) hx hb hts hin3 tyX3 tyX3_ok nmX3 hown hw (by decide) zG_32 rfl 17 (by decide) (hts (.fieldLink RX3 114 "SeedDrawersModel" "poured" "I") (by decide +kernel)) rfl rfl (by decide +kernel) rfl rfl (Nat.le_of_ble_eq_true rfl) (zU32_17 E c mo 0) dX3_pours_2 (fun H locs hw => ?_)
  refine lv_iconst (v := 0) hx hb dX3_pours_5 (by decide) ?_
  refine lv_istore (lv' := [(6, .int 0), (0, .ref (zl E 32)), (1, .int d), (2, .int i), (3, .int t), (4, .int j), (5, .int n)]) hx hb dX3_pours_6 hl (by decide) rfl (fun ls hl => ?_)
  have loop8 : ∀ (n_ : Nat) (k : Nat) (m1 : zM) (H : Heap) (locs : List Loc) (ls : Array Slot), n.toNatClampNeg - k < n_ → (k ≤ n.toNatClampNeg) → (wfM m1) → (psN d t i j (n.toNatClampNeg - k) k m1 = pPs mo d i t j n) → zW E c m1 s s.heap H locs → lv_has ls 8 [(6, .int (nI k)), (0, .ref (zl E 32)), (1, .int d), (2, .int i), (3, .int t), (4, .int j), (5, .int n)] → W p l e (headSpec wsX3_pours (zR 3 72)).room s m ([.ref (zl E 32), .int d, .int i, .int t, .int j, .int n] : List Value).toArray below meth cd H locs 0 0 (MQ below (cQi E ((pPs mo d i t j n).1) c ((pPs mo d i t j n).2)) ([.ref (zl E 32), .int d, .int i, .int t, .int j, .int n] : List Value).toArray s 0 0 (zA E)) (F0 m 8 ls []) := by
    intro n_
    induction n_ with
    | zero => intro k m1 H locs ls hn_; exact absurd hn_ (Nat.not_lt_zero _)
    | succ n_ ih =>
      intro k m1 H locs ls hn_ hk hw1 hR hw hl
      refine lv_iload hx hb dX3_pours_8 (lv_at hl 0 rfl) ?_
      refine lv_iload hx hb dX3_pours_10 (lv_at hl 6 rfl) ?_
      refine lv_icmp_ge (tgt := 110) hx hb dX3_pours_12 (by decide) (fun q_1 => ?_) (fun q_1 => ?_)
      · have _ := hx
        rw [hn2] at q_1
        have hk2 : n.toNatClampNeg ≤ k := le_le q_1 (by omega) (by omega)
        rw [show n.toNatClampNeg - k = 0 by omega] at hR
        refine lv_iconst (v := 0) hx hb dX3_pours_110 (by decide) ?_
        exact z_iret hx hb hr hlocks hw dX3_pours_111 (by rw [← hR]; rfl) rfl (by rw [← hR]; rfl)
      · have _ := hx
        rw [hn2] at q_1
        have hk2 : k < n.toNatClampNeg := nle_lt q_1 (by omega) (by omega)
        rw [show n.toNatClampNeg - k = (n.toNatClampNeg - (k + 1)) + 1 by omega] at hR
        refine lv_aload_n hx hb dX3_pours_15 rfl (lv_at hl 1 rfl) ?_
        refine lv_iload_n hx hb dX3_pours_16 rfl (lv_at hl 2 rfl) ?_
        refine lv_iload_n hx hb dX3_pours_17 rfl (lv_at hl 3 rfl) ?_
        refine lv_iload hx hb dX3_pours_18 (lv_at hl 0 rfl) ?_
        refine lv_iadd hx hb dX3_pours_20 ?_
        refine z_calli (rest := []) (va_runV (As := [.int d, .int (i + (nI k))]) (rest := []) ⟨hx, hb, hml, hown, hts⟩ (k_X3_come l E c m1 d (i + (nI k)) hd hw1) (cwV 2 hts gX3_pours_X3_come rfl rfl rfl (by decide +kernel) ⟨Nat.le_of_ble_eq_true rfl, Nat.le_of_ble_eq_true rfl⟩) (z_preV hw (by decide) zG_32 rfl [.int d, .int (i + (nI k))]) rfl rfl hl.1 rfl (lv_room (Nat.le_of_ble_eq_true rfl)) dX3_pours_21 ⟨Nat.le_of_ble_eq_true rfl, Nat.le_of_ble_eq_true rfl⟩) hw (fun H locs hw => ?_)
        refine lv_istore (lv' := [(7, .int (gCome m1 d (i + (nI k)))), (6, .int (nI k)), (0, .ref (zl E 32)), (1, .int d), (2, .int i), (3, .int t), (4, .int j), (5, .int n)]) hx hb dX3_pours_24 hl (by decide) rfl (fun ls hl => ?_)
        refine lv_iload hx hb dX3_pours_26 (lv_at hl 0 rfl) ?_
        refine lv_if_le (tgt := 36) hx hb dX3_pours_28 (by decide) (fun q_2 => ?_) (fun q_2 => ?_)
        · have _ := hx
          refine lv_aload_n hx hb dX3_pours_36 rfl (lv_at hl 2 rfl) ?_
          refine lv_iload_n hx hb dX3_pours_37 rfl (lv_at hl 5 rfl) ?_
          refine lv_iload hx hb dX3_pours_38 (lv_at hl 6 rfl) ?_
          refine lv_iload hx hb dX3_pours_40 (lv_at hl 1 rfl) ?_
          refine lv_iadd hx hb dX3_pours_42 ?_
          refine lv_aload_n hx hb dX3_pours_43 rfl (lv_at hl 2 rfl) ?_
          refine lv_iload_n hx hb dX3_pours_44 rfl (lv_at hl 3 rfl) ?_
          refine lv_iload_n hx hb dX3_pours_45 rfl (lv_at hl 4 rfl) ?_
          refine lv_iload hx hb dX3_pours_46 (lv_at hl 1 rfl) ?_
          refine lv_iadd hx hb dX3_pours_48 ?_
          refine z_calli (rest := [.int (j + (nI k)), .int t, .ref (zl E 32)]) (va_runV (As := [.int d, .int (i + (nI k))]) (rest := [.int (j + (nI k)), .int t, .ref (zl E 32)]) ⟨hx, hb, hml, hown, hts⟩ (k_X3_kindAt l E c m1 d (i + (nI k)) hd (gCome_in (by assumption) hw1 hd) hw1) (cwV 2 hts gX3_pours_X3_kindAt rfl rfl rfl (by decide +kernel) ⟨Nat.le_of_ble_eq_true rfl, Nat.le_of_ble_eq_true rfl⟩) (z_preV hw (by decide) zG_32 rfl [.int d, .int (i + (nI k))]) rfl rfl hl.1 rfl (lv_room (Nat.le_of_ble_eq_true rfl)) dX3_pours_49 ⟨Nat.le_of_ble_eq_true rfl, Nat.le_of_ble_eq_true rfl⟩) hw (fun H locs hw => ?_)
          refine z_calli (rest := []) (va_runV (As := [.int t, .int (j + (nI k)), .int (gKind m1 d (i + (nI k)))]) (rest := []) ⟨hx, hb, hml, hown, hts⟩ (k_X3_laying l E c m1 t (j + (nI k)) (gKind m1 d (i + (nI k))) ht hw1) (cwV 3 hts gX3_pours_X3_laying rfl rfl rfl (by decide +kernel) ⟨Nat.le_of_ble_eq_true rfl, Nat.le_of_ble_eq_true rfl⟩) (z_preV hw (by decide) zG_32 rfl [.int t, .int (j + (nI k)), .int (gKind m1 d (i + (nI k)))]) rfl rfl hl.1 rfl (lv_room (Nat.le_of_ble_eq_true rfl)) dX3_pours_52 ⟨Nat.le_of_ble_eq_true rfl, Nat.le_of_ble_eq_true rfl⟩) hw (fun H locs hw => ?_)
          refine lv_istore (lv' := [(7, .int (gLay m1 t (j + (nI k)) (gKind m1 d (i + (nI k))))), (6, .int (nI k)), (0, .ref (zl E 32)), (1, .int d), (2, .int i), (3, .int t), (4, .int j), (5, .int n)]) hx hb dX3_pours_55 hl (by decide) rfl (fun ls hl => ?_)
          refine lv_iload hx hb dX3_pours_57 (lv_at hl 0 rfl) ?_
          refine lv_if_le (tgt := 65) hx hb dX3_pours_59 (by decide) (fun q_3 => ?_) (fun q_3 => ?_)
          · have _ := hx
            refine lv_aload_n hx hb dX3_pours_65 rfl (lv_at hl 2 rfl) ?_
            refine z_get (i := 32) hx hb hts hin3 hown hw (by decide) zG_32 rfl 6 (by decide) (hts (.fieldLink RX3 26 "SeedDrawersModel" "place" "[J") (by decide +kernel)) rfl rfl dX3_pours_66 ?_
            refine lv_aload_n hx hb dX3_pours_69 rfl (lv_at hl 2 rfl) ?_
            refine lv_iload_n hx hb dX3_pours_70 rfl (lv_at hl 5 rfl) ?_
            refine lv_iload hx hb dX3_pours_71 (lv_at hl 6 rfl) ?_
            refine lv_iload hx hb dX3_pours_73 (lv_at hl 1 rfl) ?_
            refine lv_iadd hx hb dX3_pours_75 ?_
            refine z_calli (rest := [.ref (zl E 38)]) (va_runV (As := [.int t, .int (j + (nI k))]) (rest := [.ref (zl E 38)]) ⟨hx, hb, hml, hown, hts⟩ (k_X3_at l E c m1 t (j + (nI k)) ht) (cwV 2 hts gX3_pours_X3_at rfl rfl rfl (by decide +kernel) ⟨Nat.le_of_ble_eq_true rfl, Nat.le_of_ble_eq_true rfl⟩) (z_preV hw (by decide) zG_32 rfl [.int t, .int (j + (nI k))]) rfl rfl hl.1 rfl (lv_room (Nat.le_of_ble_eq_true rfl)) dX3_pours_76 ⟨Nat.le_of_ble_eq_true rfl, Nat.le_of_ble_eq_true rfl⟩) hw (fun H locs hw => ?_)
            refine lv_aload_n hx hb dX3_pours_79 rfl (lv_at hl 2 rfl) ?_
            refine z_get (i := 32) hx hb hts hin3 hown hw (by decide) zG_32 rfl 6 (by decide) (hts (.fieldLink RX3 26 "SeedDrawersModel" "place" "[J") (by decide +kernel)) rfl rfl dX3_pours_80 ?_
            refine lv_aload_n hx hb dX3_pours_83 rfl (lv_at hl 2 rfl) ?_
            refine lv_iload_n hx hb dX3_pours_84 rfl (lv_at hl 3 rfl) ?_
            refine lv_iload_n hx hb dX3_pours_85 rfl (lv_at hl 4 rfl) ?_
            refine lv_iload hx hb dX3_pours_86 (lv_at hl 1 rfl) ?_
            refine lv_iadd hx hb dX3_pours_88 ?_
            refine z_calli (rest := [.ref (zl E 38), .int (gAt m1 t (j + (nI k))), .ref (zl E 38)]) (va_runV (As := [.int d, .int (i + (nI k))]) (rest := [.ref (zl E 38), .int (gAt m1 t (j + (nI k))), .ref (zl E 38)]) ⟨hx, hb, hml, hown, hts⟩ (k_X3_at l E c m1 d (i + (nI k)) hd) (cwV 2 hts gX3_pours_X3_at rfl rfl rfl (by decide +kernel) ⟨Nat.le_of_ble_eq_true rfl, Nat.le_of_ble_eq_true rfl⟩) (z_preV hw (by decide) zG_32 rfl [.int d, .int (i + (nI k))]) rfl rfl hl.1 rfl (lv_room (Nat.le_of_ble_eq_true rfl)) dX3_pours_89 ⟨Nat.le_of_ble_eq_true rfl, Nat.le_of_ble_eq_true rfl⟩) hw (fun H locs hw => ?_)
            refine y_lald (i := 38) hx hb hw (by decide) zG_38 (gAt_in (wfM_r hw1 hd) (gCome_in (by assumption) hw1 hd)) (k := (gAt m1 d (i + (nI k))).toNatClampNeg) rfl dX3_pours_92 ?_
            refine y_last38 hx hb hw (gAt_in (wfM_r hw1 ht) (gLay_in (by assumption) hw1 ht)) (k := (gAt m1 t (j + (nI k))).toNatClampNeg) rfl dX3_pours_93 (fun H locs hw => ?_)
            refine lv_aload_n hx hb dX3_pours_94 rfl (lv_at hl 2 rfl) ?_
            refine lv_dup hx hb dX3_pours_95 rfl ?_
            refine z_get (i := 32) hx hb hts hin3 hown hw (by decide) zG_32 rfl 17 (by decide) (hts (.fieldLink RX3 114 "SeedDrawersModel" "poured" "I") (by decide +kernel)) rfl rfl dX3_pours_96 ?_
            refine lv_iconst (v := 1) hx hb dX3_pours_99 (by decide) ?_
            refine lv_iadd hx hb dX3_pours_100 ?_
            refine z_put (i := 32) (ty := .int) hx hb hts hin3 tyX3 tyX3_ok nmX3 hown hw (by decide) zG_32 rfl 17 (by decide) (hts (.fieldLink RX3 114 "SeedDrawersModel" "poured" "I") (by decide +kernel)) rfl rfl (by decide +kernel) rfl rfl (Nat.le_of_ble_eq_true rfl) (zU32_17 E c (tJ m1 38 ((gAt m1 t (j + (nI k))).toNatClampNeg) (m1.2 38 ((gAt m1 d (i + (nI k))).toNatClampNeg))) (((tJ m1 38 ((gAt m1 t (j + (nI k))).toNatClampNeg) (m1.2 38 ((gAt m1 d (i + (nI k))).toNatClampNeg))).1 32 17) + 1)) dX3_pours_101 (fun H locs hw => ?_)
            refine lv_iinc (v := (nI (k + 1))) (lv' := [(6, .int (nI (k + 1))), (7, .int (gLay m1 t (j + (nI k)) (gKind m1 d (i + (nI k))))), (0, .ref (zl E 32)), (1, .int d), (2, .int i), (3, .int t), (4, .int j), (5, .int n)]) hx hb dX3_pours_104 hl (k := 1) rfl (nI_1 k) (by decide) rfl (fun ls hl => ?_)
            refine lv_goto (tgt := 8) hx hb dX3_pours_107 (by decide) ?_
            exact ih (k + 1) (tI (tJ m1 38 ((gAt m1 t (j + (nI k))).toNatClampNeg) (m1.2 38 ((gAt m1 d (i + (nI k))).toNatClampNeg))) 32 17 (((tJ m1 38 ((gAt m1 t (j + (nI k))).toNatClampNeg) (m1.2 38 ((gAt m1 d (i + (nI k))).toNatClampNeg))).1 32 17) + 1)) _ _ _ (by omega) (by omega) (wfM_sm (Sm_psS m1 d (i + nI k) t (j + nI k)) hw1) (by simpa [psN, gPoF, psS, tJ_1, q_2, q_3] using hR) hw (lv_sub hl [0, 2, 3, 4, 5, 6, 7] rfl)
          · have _ := hx
            refine lv_iload hx hb dX3_pours_62 (lv_at hl 0 rfl) ?_
            exact z_iret hx hb hr hlocks hw dX3_pours_64 (by rw [← hR]; simp [psN, gPoF, q_2, q_3]) rfl (by rw [← hR]; simp [psN, gPoF, q_2, q_3])
        · have _ := hx
          refine lv_iload hx hb dX3_pours_31 (lv_at hl 0 rfl) ?_
          refine lv_goto (tgt := 55) hx hb dX3_pours_33 (by decide) ?_
          refine lv_istore (lv' := [(7, .int (gCome m1 d (i + (nI k)))), (6, .int (nI k)), (0, .ref (zl E 32)), (1, .int d), (2, .int i), (3, .int t), (4, .int j), (5, .int n)]) hx hb dX3_pours_55 hl (by decide) rfl (fun ls hl => ?_)
          refine lv_iload hx hb dX3_pours_57 (lv_at hl 0 rfl) ?_
          refine lv_if_le (tgt := 65) hx hb dX3_pours_59 (by decide) (fun q_4 => ?_) (fun q_4 => ?_)
          · exact (absurd q_4 q_2)
          · have _ := hx
            refine lv_iload hx hb dX3_pours_62 (lv_at hl 0 rfl) ?_
            exact z_iret hx hb hr hlocks hw dX3_pours_64 (by rw [← hR]; simp [psN, gPoF, q_2, q_4]) rfl (by rw [← hR]; simp [psN, gPoF, q_2, q_4])
  exact loop8 (n.toNatClampNeg + 1) 0 _ _ _ _ (by omega) (by omega) (wfM_sm (Sm.i32 _ 17 _ (by simp)) hwm) rfl hw (lv_sub hl [0, 1, 2, 3, 4, 5, 6] rfl)
set_option maxHeartbeats 4000000 in
set_option maxRecDepth 100000 in
theorem k_X3_pour (l : Launch) (E : zE) (c : zC) (mo : zM) (d : Int32) (i : Int32) (t : Int32) (j : Int32) (n : Int32) (hwm : wfM mo) : Met l yX3_pour wsX3_pour (zR 4 99) (zP E c mo [.ref (zl E 32), .int d, .int i, .int t, .int j, .int n]) (cQi E ((qPour mo d i t j n).1) c ((qPour mo d i t j n).2)) 0 0 (zA E) := by
  refine z_ent (cc := cX3_pour) (maxL := 7) (ret := (some .int)) (vs := [.ref (zl E 32), .int d, .int i, .int t, .int j, .int n]) (by decide) rfl (Nat.le_of_ble_eq_true rfl) ?_
  intro p e s m below meth cd ls hx hb hr hml hown hts hlocks hl hw
  have hl : lv_has ls 7 [(0, .ref (zl E 32)), (1, .int d), (2, .int i), (3, .int t), (4, .int j), (5, .int n)] := hl
  have hown : s.vm.findClass RX3 = some m.cls := hown
  have hin3 : ∀ w ∈ u_ws RX3 TX3 18, w ∈ wsX3_pour := by decide +kernel
  refine lv_iload_n hx hb dX3_pour_0 rfl (lv_at hl 1 rfl) ?_
  refine z_calli (rest := []) (va_runS (As := [.int d]) (rest := []) ⟨hx, hb, hml, hown, hts⟩ (k_X3_no l E c mo d ) (va_cwS 1 hts gX3_pour_X3_no rfl rfl rfl (by decide +kernel) ⟨Nat.le_of_ble_eq_true rfl, Nat.le_of_ble_eq_true rfl⟩) (z_preS hw [.int d]) rfl rfl hl.1 rfl (lv_room (Nat.le_of_ble_eq_true rfl)) dX3_pour_1 ⟨Nat.le_of_ble_eq_true rfl, Nat.le_of_ble_eq_true rfl⟩) hw (fun H locs hw => ?_)
  refine lv_if_ne (tgt := 14) hx hb dX3_pour_4 (by decide) (fun q_1 => ?_) (fun q_1 => ?_)
  · have _ := hx
    refine lv_iconst (v := (-1)) hx hb dX3_pour_14 (by decide) ?_
    exact z_iret hx hb hr hlocks hw dX3_pour_15 (by first | (simp [qPour, q_1]; done) | (simp_all [qPour]; done)) rfl (by first | (simp [qPour, q_1]; done) | (simp_all [qPour]; done))
  · have _ := hx
    refine lv_iload_n hx hb dX3_pour_7 rfl (lv_at hl 3 rfl) ?_
    refine z_calli (rest := []) (va_runS (As := [.int t]) (rest := []) ⟨hx, hb, hml, hown, hts⟩ (k_X3_no l E c mo t ) (va_cwS 1 hts gX3_pour_X3_no rfl rfl rfl (by decide +kernel) ⟨Nat.le_of_ble_eq_true rfl, Nat.le_of_ble_eq_true rfl⟩) (z_preS hw [.int t]) rfl rfl hl.1 rfl (lv_room (Nat.le_of_ble_eq_true rfl)) dX3_pour_8 ⟨Nat.le_of_ble_eq_true rfl, Nat.le_of_ble_eq_true rfl⟩) hw (fun H locs hw => ?_)
    refine lv_if_eq (tgt := 16) hx hb dX3_pour_11 (by decide) (fun q_2 => ?_) (fun q_2 => ?_)
    · have _ := hx
      refine lv_iload_n hx hb dX3_pour_16 rfl (lv_at hl 2 rfl) ?_
      refine lv_i2l (v := i.toInt64) hx hb dX3_pour_17 rfl ?_
      refine lv_lconst (v := 0) hx hb dX3_pour_18 (by decide) ?_
      refine lv_ldc2 (v := 20) hx hb hown (hts (.constantLong RX3 120 (20)) (by decide +kernel)) dX3_pour_19 ?_
      refine z_calli (rest := []) (va_runS (As := [.long i.toInt64, .long 0, .long 20]) (rest := []) ⟨hx, hb, hml, hown, hts⟩ (k_X3_beyond l E c mo i.toInt64 0 20 ) (va_cwS 3 hts gX3_pour_X3_beyond rfl rfl rfl (by decide +kernel) ⟨Nat.le_of_ble_eq_true rfl, Nat.le_of_ble_eq_true rfl⟩) (z_preS hw [.long i.toInt64, .long 0, .long 20]) rfl rfl hl.1 rfl (lv_room (Nat.le_of_ble_eq_true rfl)) dX3_pour_22 ⟨Nat.le_of_ble_eq_true rfl, Nat.le_of_ble_eq_true rfl⟩) hw (fun H locs hw => ?_)
      refine lv_if_ne (tgt := 54) hx hb dX3_pour_25 (by decide) (fun q_3 => ?_) (fun q_3 => ?_)
      · have _ := hx
        refine lv_bipush (v := (-2)) hx hb dX3_pour_54 (by decide) ?_
        exact z_iret hx hb hr hlocks hw dX3_pour_56 (by first | (simp [qPour, q_1, q_2, q_3]; done) | (simp_all [qPour]; done)) rfl (by first | (simp [qPour, q_1, q_2, q_3]; done) | (simp_all [qPour]; done))
      · have _ := hx
        refine lv_iload hx hb dX3_pour_28 (lv_at hl 4 rfl) ?_
        refine lv_i2l (v := j.toInt64) hx hb dX3_pour_30 rfl ?_
        refine lv_lconst (v := 0) hx hb dX3_pour_31 (by decide) ?_
        refine lv_ldc2 (v := 20) hx hb hown (hts (.constantLong RX3 120 (20)) (by decide +kernel)) dX3_pour_32 ?_
        refine z_calli (rest := []) (va_runS (As := [.long j.toInt64, .long 0, .long 20]) (rest := []) ⟨hx, hb, hml, hown, hts⟩ (k_X3_beyond l E c mo j.toInt64 0 20 ) (va_cwS 3 hts gX3_pour_X3_beyond rfl rfl rfl (by decide +kernel) ⟨Nat.le_of_ble_eq_true rfl, Nat.le_of_ble_eq_true rfl⟩) (z_preS hw [.long j.toInt64, .long 0, .long 20]) rfl rfl hl.1 rfl (lv_room (Nat.le_of_ble_eq_true rfl)) dX3_pour_35 ⟨Nat.le_of_ble_eq_true rfl, Nat.le_of_ble_eq_true rfl⟩) hw (fun H locs hw => ?_)
        refine lv_if_ne (tgt := 54) hx hb dX3_pour_38 (by decide) (fun q_4 => ?_) (fun q_4 => ?_)
        · have _ := hx
          refine lv_bipush (v := (-2)) hx hb dX3_pour_54 (by decide) ?_
          exact z_iret hx hb hr hlocks hw dX3_pour_56 (by first | (simp [qPour, q_1, q_2, q_3, q_4]; done) | (simp_all [qPour]; done)) rfl (by first | (simp [qPour, q_1, q_2, q_3, q_4]; done) | (simp_all [qPour]; done))
        · have _ := hx
          refine lv_iload hx hb dX3_pour_41 (lv_at hl 5 rfl) ?_
          refine lv_i2l (v := n.toInt64) hx hb dX3_pour_43 rfl ?_
          refine lv_lconst (v := 0) hx hb dX3_pour_44 (by decide) ?_
          refine lv_ldc2 (v := 12) hx hb hown (hts (.constantLong RX3 59 (12)) (by decide +kernel)) dX3_pour_45 ?_
          refine z_calli (rest := []) (va_runS (As := [.long n.toInt64, .long 0, .long 12]) (rest := []) ⟨hx, hb, hml, hown, hts⟩ (k_X3_beyond l E c mo n.toInt64 0 12 ) (va_cwS 3 hts gX3_pour_X3_beyond rfl rfl rfl (by decide +kernel) ⟨Nat.le_of_ble_eq_true rfl, Nat.le_of_ble_eq_true rfl⟩) (z_preS hw [.long n.toInt64, .long 0, .long 12]) rfl rfl hl.1 rfl (lv_room (Nat.le_of_ble_eq_true rfl)) dX3_pour_48 ⟨Nat.le_of_ble_eq_true rfl, Nat.le_of_ble_eq_true rfl⟩) hw (fun H locs hw => ?_)
          refine lv_if_eq (tgt := 57) hx hb dX3_pour_51 (by decide) (fun q_5 => ?_) (fun q_5 => ?_)
          · have _ := hx
            refine lv_aload_n hx hb dX3_pour_57 rfl (lv_at hl 0 rfl) ?_
            refine lv_iload_n hx hb dX3_pour_58 rfl (lv_at hl 1 rfl) ?_
            refine lv_iload_n hx hb dX3_pour_59 rfl (lv_at hl 2 rfl) ?_
            refine lv_iload_n hx hb dX3_pour_60 rfl (lv_at hl 3 rfl) ?_
            refine lv_iload hx hb dX3_pour_61 (lv_at hl 4 rfl) ?_
            refine lv_iload hx hb dX3_pour_63 (lv_at hl 5 rfl) ?_
            refine z_calli (rest := []) (va_runV (As := [.int d, .int i, .int t, .int j, .int n]) (rest := []) ⟨hx, hb, hml, hown, hts⟩ (k_X3_pours l E c mo d i t j n (fNo_in (by assumption)) (fNo_in (by assumption)) hwm (fBey_in 12 13 (by decide) (by assumption))) (cwV 5 hts gX3_pour_X3_pours rfl rfl rfl (by decide +kernel) ⟨Nat.le_of_ble_eq_true rfl, Nat.le_of_ble_eq_true rfl⟩) (z_preV hw (by decide) zG_32 rfl [.int d, .int i, .int t, .int j, .int n]) rfl rfl hl.1 rfl (lv_room (Nat.le_of_ble_eq_true rfl)) dX3_pour_65 ⟨Nat.le_of_ble_eq_true rfl, Nat.le_of_ble_eq_true rfl⟩) hw (fun H locs hw => ?_)
            refine lv_istore (lv' := [(6, .int ((pPs mo d i t j n).1)), (0, .ref (zl E 32)), (1, .int d), (2, .int i), (3, .int t), (4, .int j), (5, .int n)]) hx hb dX3_pour_68 hl (by decide) rfl (fun ls hl => ?_)
            refine lv_iload hx hb dX3_pour_70 (lv_at hl 0 rfl) ?_
            refine lv_if_le (tgt := 91) hx hb dX3_pour_72 (by decide) (fun q_6 => ?_) (fun q_6 => ?_)
            · have _ := hx
              refine lv_iload hx hb dX3_pour_91 (lv_at hl 6 rfl) ?_
              exact z_iret hx hb hr hlocks hw dX3_pour_93 (by first | (simp [qPour, q_1, q_2, q_3, q_4, q_5, q_6]; done) | (simp_all [qPour]; done)) rfl (by first | (simp [qPour, q_1, q_2, q_3, q_4, q_5, q_6]; done) | (simp_all [qPour]; done))
            · have _ := hx
              refine lv_aload_n hx hb dX3_pour_75 rfl (lv_at hl 1 rfl) ?_
              refine lv_iload hx hb dX3_pour_76 (lv_at hl 0 rfl) ?_
              refine z_calli (rest := []) (va_runV (As := [.int ((pPs mo d i t j n).1)]) (rest := []) ⟨hx, hb, hml, hown, hts⟩ (k_X3_met1 l E c ((pPs mo d i t j n).2) ((pPs mo d i t j n).1) (psN_5 _ _ _ _ _ _ _).1) (cwV 1 hts gX3_pour_X3_met1 rfl rfl rfl (by decide +kernel) ⟨Nat.le_of_ble_eq_true rfl, Nat.le_of_ble_eq_true rfl⟩) (z_preV hw (by decide) zG_32 rfl [.int ((pPs mo d i t j n).1)]) rfl rfl hl.1 rfl (lv_room (Nat.le_of_ble_eq_true rfl)) dX3_pour_78 ⟨Nat.le_of_ble_eq_true rfl, Nat.le_of_ble_eq_true rfl⟩) hw (fun H locs hw => ?_)
              refine lv_istore (lv' := [(6, .int ((pPs mo d i t j n).1)), (0, .ref (zl E 32)), (1, .int d), (2, .int i), (3, .int t), (4, .int j), (5, .int n)]) hx hb dX3_pour_81 hl (by decide) rfl (fun ls hl => ?_)
              refine lv_aload_n hx hb dX3_pour_83 rfl (lv_at hl 1 rfl) ?_
              refine z_get (i := 32) hx hb hts hin3 hown hw (by decide) zG_32 rfl 17 (by decide) (hts (.fieldLink RX3 114 "SeedDrawersModel" "poured" "I") (by decide +kernel)) rfl rfl dX3_pour_84 ?_
              refine lv_bipush (v := 100) hx hb dX3_pour_87 (by decide) ?_
              refine lv_isub hx hb dX3_pour_89 ?_
              exact z_iret hx hb hr hlocks hw dX3_pour_90 (by first | (simp [qPour, q_1, q_2, q_3, q_4, q_5, q_6]; done) | (simp_all [qPour]; done)) rfl (by first | (simp [qPour, q_1, q_2, q_3, q_4, q_5, q_6]; done) | (simp_all [qPour]; done))
          · have _ := hx
            refine lv_bipush (v := (-2)) hx hb dX3_pour_54 (by decide) ?_
            exact z_iret hx hb hr hlocks hw dX3_pour_56 (by first | (simp [qPour, q_1, q_2, q_3, q_4, q_5]; done) | (simp_all [qPour]; done)) rfl (by first | (simp [qPour, q_1, q_2, q_3, q_4, q_5]; done) | (simp_all [qPour]; done))
    · have _ := hx
      refine lv_iconst (v := (-1)) hx hb dX3_pour_14 (by decide) ?_
      exact z_iret hx hb hr hlocks hw dX3_pour_15 (by first | (simp [qPour, q_1, q_2]; done) | (simp_all [qPour]; done)) rfl (by first | (simp [qPour, q_1, q_2]; done) | (simp_all [qPour]; done))
set_option maxHeartbeats 4000000 in
set_option maxRecDepth 100000 in
theorem k_X3_swaps (l : Launch) (E : zE) (c : zC) (mo : zM) (a : Int32) (i : Int32) (b : Int32) (j : Int32) (ha : vp_in a 8) (hb_ : vp_in b 8) (hwm : wfM mo) : Met l yX3_swaps wsX3_swaps (zR 3 72) (zP E c mo [.ref (zl E 32), .int a, .int i, .int b, .int j]) (cQi E (gSw mo a i b j) c (gSws mo a i b j)) 0 0 (zA E) := by
  refine z_ent (cc := cX3_swaps) (maxL := 8) (ret := (some .int)) (vs := [.ref (zl E 32), .int a, .int i, .int b, .int j]) (by decide) rfl (Nat.le_of_ble_eq_true rfl) ?_
  intro p e s m below meth cd ls hx hb hr hml hown hts hlocks hl hw
  have hl : lv_has ls 8 [(0, .ref (zl E 32)), (1, .int a), (2, .int i), (3, .int b), (4, .int j)] := hl
  have hown : s.vm.findClass RX3 = some m.cls := hown
  have hin3 : ∀ w ∈ u_ws RX3 TX3 18, w ∈ wsX3_swaps := by decide +kernel
  refine lv_aload_n hx hb dX3_swaps_0 rfl (lv_at hl 0 rfl) ?_
  refine lv_iload_n hx hb dX3_swaps_1 rfl (lv_at hl 1 rfl) ?_
  refine lv_iload_n hx hb dX3_swaps_2 rfl (lv_at hl 2 rfl) ?_
  refine z_calli (rest := []) (va_runV (As := [.int a, .int i]) (rest := []) ⟨hx, hb, hml, hown, hts⟩ (k_X3_come l E c mo a i ha hwm) (cwV 2 hts gX3_swaps_X3_come rfl rfl rfl (by decide +kernel) ⟨Nat.le_of_ble_eq_true rfl, Nat.le_of_ble_eq_true rfl⟩) (z_preV hw (by decide) zG_32 rfl [.int a, .int i]) rfl rfl hl.1 rfl (lv_room (Nat.le_of_ble_eq_true rfl)) dX3_swaps_3 ⟨Nat.le_of_ble_eq_true rfl, Nat.le_of_ble_eq_true rfl⟩) hw (fun H locs hw => ?_)
  refine lv_istore (lv' := [(5, .int (gCome mo a i)), (0, .ref (zl E 32)), (1, .int a), (2, .int i), (3, .int b), (4, .int j)]) hx hb dX3_swaps_6 hl (by decide) rfl (fun ls hl => ?_)
  refine lv_iload hx hb dX3_swaps_8 (lv_at hl 0 rfl) ?_
  refine lv_if_le (tgt := 18) hx hb dX3_swaps_10 (by decide) (fun q_1 => ?_) (fun q_1 => ?_)
  · have _ := hx
    refine lv_aload_n hx hb dX3_swaps_18 rfl (lv_at hl 1 rfl) ?_
    refine lv_iload_n hx hb dX3_swaps_19 rfl (lv_at hl 4 rfl) ?_
    refine lv_iload hx hb dX3_swaps_20 (lv_at hl 5 rfl) ?_
    refine z_calli (rest := []) (va_runV (As := [.int b, .int j]) (rest := []) ⟨hx, hb, hml, hown, hts⟩ (k_X3_come l E c mo b j hb_ hwm) (cwV 2 hts gX3_swaps_X3_come rfl rfl rfl (by decide +kernel) ⟨Nat.le_of_ble_eq_true rfl, Nat.le_of_ble_eq_true rfl⟩) (z_preV hw (by decide) zG_32 rfl [.int b, .int j]) rfl rfl hl.1 rfl (lv_room (Nat.le_of_ble_eq_true rfl)) dX3_swaps_22 ⟨Nat.le_of_ble_eq_true rfl, Nat.le_of_ble_eq_true rfl⟩) hw (fun H locs hw => ?_)
    refine lv_istore (lv' := [(5, .int (gCome mo b j)), (0, .ref (zl E 32)), (1, .int a), (2, .int i), (3, .int b), (4, .int j)]) hx hb dX3_swaps_25 hl (by decide) rfl (fun ls hl => ?_)
    refine lv_iload hx hb dX3_swaps_27 (lv_at hl 0 rfl) ?_
    refine lv_if_le (tgt := 37) hx hb dX3_swaps_29 (by decide) (fun q_2 => ?_) (fun q_2 => ?_)
    · have _ := hx
      refine lv_aload_n hx hb dX3_swaps_37 rfl (lv_at hl 1 rfl) ?_
      refine lv_iload_n hx hb dX3_swaps_38 rfl (lv_at hl 2 rfl) ?_
      refine lv_iload_n hx hb dX3_swaps_39 rfl (lv_at hl 3 rfl) ?_
      refine lv_aload_n hx hb dX3_swaps_40 rfl (lv_at hl 1 rfl) ?_
      refine lv_iload_n hx hb dX3_swaps_41 rfl (lv_at hl 4 rfl) ?_
      refine lv_iload hx hb dX3_swaps_42 (lv_at hl 5 rfl) ?_
      refine z_calli (rest := [.int i, .int a, .ref (zl E 32)]) (va_runV (As := [.int b, .int j]) (rest := [.int i, .int a, .ref (zl E 32)]) ⟨hx, hb, hml, hown, hts⟩ (k_X3_kindAt l E c mo b j hb_ (gCome_in (by assumption) hwm hb_) hwm) (cwV 2 hts gX3_swaps_X3_kindAt rfl rfl rfl (by decide +kernel) ⟨Nat.le_of_ble_eq_true rfl, Nat.le_of_ble_eq_true rfl⟩) (z_preV hw (by decide) zG_32 rfl [.int b, .int j]) rfl rfl hl.1 rfl (lv_room (Nat.le_of_ble_eq_true rfl)) dX3_swaps_44 ⟨Nat.le_of_ble_eq_true rfl, Nat.le_of_ble_eq_true rfl⟩) hw (fun H locs hw => ?_)
      refine z_calli (rest := []) (va_runV (As := [.int a, .int i, .int (gKind mo b j)]) (rest := []) ⟨hx, hb, hml, hown, hts⟩ (k_X3_laying l E c mo a i (gKind mo b j) ha hwm) (cwV 3 hts gX3_swaps_X3_laying rfl rfl rfl (by decide +kernel) ⟨Nat.le_of_ble_eq_true rfl, Nat.le_of_ble_eq_true rfl⟩) (z_preV hw (by decide) zG_32 rfl [.int a, .int i, .int (gKind mo b j)]) rfl rfl hl.1 rfl (lv_room (Nat.le_of_ble_eq_true rfl)) dX3_swaps_47 ⟨Nat.le_of_ble_eq_true rfl, Nat.le_of_ble_eq_true rfl⟩) hw (fun H locs hw => ?_)
      refine lv_istore (lv' := [(5, .int (gLay mo a i (gKind mo b j))), (0, .ref (zl E 32)), (1, .int a), (2, .int i), (3, .int b), (4, .int j)]) hx hb dX3_swaps_50 hl (by decide) rfl (fun ls hl => ?_)
      refine lv_iload hx hb dX3_swaps_52 (lv_at hl 0 rfl) ?_
      refine lv_if_le (tgt := 62) hx hb dX3_swaps_54 (by decide) (fun q_3 => ?_) (fun q_3 => ?_)
      · have _ := hx
        refine lv_aload_n hx hb dX3_swaps_62 rfl (lv_at hl 1 rfl) ?_
        refine lv_iload_n hx hb dX3_swaps_63 rfl (lv_at hl 4 rfl) ?_
        refine lv_iload hx hb dX3_swaps_64 (lv_at hl 5 rfl) ?_
        refine lv_aload_n hx hb dX3_swaps_66 rfl (lv_at hl 1 rfl) ?_
        refine lv_iload_n hx hb dX3_swaps_67 rfl (lv_at hl 2 rfl) ?_
        refine lv_iload_n hx hb dX3_swaps_68 rfl (lv_at hl 3 rfl) ?_
        refine z_calli (rest := [.int j, .int b, .ref (zl E 32)]) (va_runV (As := [.int a, .int i]) (rest := [.int j, .int b, .ref (zl E 32)]) ⟨hx, hb, hml, hown, hts⟩ (k_X3_kindAt l E c mo a i ha (gCome_in (by assumption) hwm ha) hwm) (cwV 2 hts gX3_swaps_X3_kindAt rfl rfl rfl (by decide +kernel) ⟨Nat.le_of_ble_eq_true rfl, Nat.le_of_ble_eq_true rfl⟩) (z_preV hw (by decide) zG_32 rfl [.int a, .int i]) rfl rfl hl.1 rfl (lv_room (Nat.le_of_ble_eq_true rfl)) dX3_swaps_69 ⟨Nat.le_of_ble_eq_true rfl, Nat.le_of_ble_eq_true rfl⟩) hw (fun H locs hw => ?_)
        refine z_calli (rest := []) (va_runV (As := [.int b, .int j, .int (gKind mo a i)]) (rest := []) ⟨hx, hb, hml, hown, hts⟩ (k_X3_laying l E c mo b j (gKind mo a i) hb_ hwm) (cwV 3 hts gX3_swaps_X3_laying rfl rfl rfl (by decide +kernel) ⟨Nat.le_of_ble_eq_true rfl, Nat.le_of_ble_eq_true rfl⟩) (z_preV hw (by decide) zG_32 rfl [.int b, .int j, .int (gKind mo a i)]) rfl rfl hl.1 rfl (lv_room (Nat.le_of_ble_eq_true rfl)) dX3_swaps_72 ⟨Nat.le_of_ble_eq_true rfl, Nat.le_of_ble_eq_true rfl⟩) hw (fun H locs hw => ?_)
        refine lv_istore (lv' := [(5, .int (gLay mo b j (gKind mo a i))), (0, .ref (zl E 32)), (1, .int a), (2, .int i), (3, .int b), (4, .int j)]) hx hb dX3_swaps_75 hl (by decide) rfl (fun ls hl => ?_)
        refine lv_iload hx hb dX3_swaps_77 (lv_at hl 0 rfl) ?_
        refine lv_if_ne (tgt := 132) hx hb dX3_swaps_79 (by decide) (fun q_4 => ?_) (fun q_4 => ?_)
        · have _ := hx
          refine lv_iload hx hb dX3_swaps_132 (lv_at hl 0 rfl) ?_
          exact z_iret hx hb hr hlocks hw dX3_swaps_134 (by first | (simp [gSw, gSws, swS, q_1, q_2, q_3, q_4]; done) | (simp [gSw, gSws, swS, q_1, q_2, q_3, q_4, gAt, tJ_1]; done) | (simp_all [gSw, gSws, swS]; done)) rfl (by first | (simp [gSw, gSws, swS, q_1, q_2, q_3, q_4]; done) | (simp [gSw, gSws, swS, q_1, q_2, q_3, q_4, gAt, tJ_1]; done) | (simp_all [gSw, gSws, swS]; done))
        · have _ := hx
          refine lv_aload_n hx hb dX3_swaps_82 rfl (lv_at hl 1 rfl) ?_
          refine z_get (i := 32) hx hb hts hin3 hown hw (by decide) zG_32 rfl 6 (by decide) (hts (.fieldLink RX3 26 "SeedDrawersModel" "place" "[J") (by decide +kernel)) rfl rfl dX3_swaps_83 ?_
          refine lv_aload_n hx hb dX3_swaps_86 rfl (lv_at hl 1 rfl) ?_
          refine lv_iload_n hx hb dX3_swaps_87 rfl (lv_at hl 2 rfl) ?_
          refine lv_iload_n hx hb dX3_swaps_88 rfl (lv_at hl 3 rfl) ?_
          refine z_calli (rest := [.ref (zl E 38)]) (va_runV (As := [.int a, .int i]) (rest := [.ref (zl E 38)]) ⟨hx, hb, hml, hown, hts⟩ (k_X3_at l E c mo a i ha) (cwV 2 hts gX3_swaps_X3_at rfl rfl rfl (by decide +kernel) ⟨Nat.le_of_ble_eq_true rfl, Nat.le_of_ble_eq_true rfl⟩) (z_preV hw (by decide) zG_32 rfl [.int a, .int i]) rfl rfl hl.1 rfl (lv_room (Nat.le_of_ble_eq_true rfl)) dX3_swaps_89 ⟨Nat.le_of_ble_eq_true rfl, Nat.le_of_ble_eq_true rfl⟩) hw (fun H locs hw => ?_)
          refine y_lald (i := 38) hx hb hw (by decide) zG_38 (gAt_in (show vp_in (mo.1 35 a.toNatClampNeg) 5000 from wfM_r hwm ha) (gCome_in (by assumption) hwm ha)) (k := (gAt mo a i).toNatClampNeg) rfl dX3_swaps_92 ?_
          refine lv_lstore (lv' := [(6, .long (mo.2 38 ((gAt mo a i).toNatClampNeg))), (5, .int (gLay mo b j (gKind mo a i))), (0, .ref (zl E 32)), (1, .int a), (2, .int i), (3, .int b), (4, .int j)]) hx hb dX3_swaps_93 hl (by decide) rfl (fun ls hl => ?_)
          refine lv_aload_n hx hb dX3_swaps_95 rfl (lv_at hl 2 rfl) ?_
          refine z_get (i := 32) hx hb hts hin3 hown hw (by decide) zG_32 rfl 6 (by decide) (hts (.fieldLink RX3 26 "SeedDrawersModel" "place" "[J") (by decide +kernel)) rfl rfl dX3_swaps_96 ?_
          refine lv_aload_n hx hb dX3_swaps_99 rfl (lv_at hl 2 rfl) ?_
          refine lv_iload_n hx hb dX3_swaps_100 rfl (lv_at hl 3 rfl) ?_
          refine lv_iload_n hx hb dX3_swaps_101 rfl (lv_at hl 4 rfl) ?_
          refine z_calli (rest := [.ref (zl E 38)]) (va_runV (As := [.int a, .int i]) (rest := [.ref (zl E 38)]) ⟨hx, hb, hml, hown, hts⟩ (k_X3_at l E c mo a i ha) (cwV 2 hts gX3_swaps_X3_at rfl rfl rfl (by decide +kernel) ⟨Nat.le_of_ble_eq_true rfl, Nat.le_of_ble_eq_true rfl⟩) (z_preV hw (by decide) zG_32 rfl [.int a, .int i]) rfl rfl hl.1 rfl (lv_room (Nat.le_of_ble_eq_true rfl)) dX3_swaps_102 ⟨Nat.le_of_ble_eq_true rfl, Nat.le_of_ble_eq_true rfl⟩) hw (fun H locs hw => ?_)
          refine lv_aload_n hx hb dX3_swaps_105 rfl (lv_at hl 2 rfl) ?_
          refine z_get (i := 32) hx hb hts hin3 hown hw (by decide) zG_32 rfl 6 (by decide) (hts (.fieldLink RX3 26 "SeedDrawersModel" "place" "[J") (by decide +kernel)) rfl rfl dX3_swaps_106 ?_
          refine lv_aload_n hx hb dX3_swaps_109 rfl (lv_at hl 2 rfl) ?_
          refine lv_iload_n hx hb dX3_swaps_110 rfl (lv_at hl 5 rfl) ?_
          refine lv_iload hx hb dX3_swaps_111 (lv_at hl 6 rfl) ?_
          refine z_calli (rest := [.ref (zl E 38), .int (gAt mo a i), .ref (zl E 38)]) (va_runV (As := [.int b, .int j]) (rest := [.ref (zl E 38), .int (gAt mo a i), .ref (zl E 38)]) ⟨hx, hb, hml, hown, hts⟩ (k_X3_at l E c mo b j hb_) (cwV 2 hts gX3_swaps_X3_at rfl rfl rfl (by decide +kernel) ⟨Nat.le_of_ble_eq_true rfl, Nat.le_of_ble_eq_true rfl⟩) (z_preV hw (by decide) zG_32 rfl [.int b, .int j]) rfl rfl hl.1 rfl (lv_room (Nat.le_of_ble_eq_true rfl)) dX3_swaps_113 ⟨Nat.le_of_ble_eq_true rfl, Nat.le_of_ble_eq_true rfl⟩) hw (fun H locs hw => ?_)
          refine y_lald (i := 38) hx hb hw (by decide) zG_38 (gAt_in (show vp_in (mo.1 35 b.toNatClampNeg) 5000 from wfM_r hwm hb_) (gCome_in (by assumption) hwm hb_)) (k := (gAt mo b j).toNatClampNeg) rfl dX3_swaps_116 ?_
          refine y_last38 hx hb hw (gAt_in (show vp_in (mo.1 35 a.toNatClampNeg) 5000 from wfM_r hwm ha) (gCome_in (by assumption) hwm ha)) (k := (gAt mo a i).toNatClampNeg) rfl dX3_swaps_117 (fun H locs hw => ?_)
          refine lv_aload_n hx hb dX3_swaps_118 rfl (lv_at hl 2 rfl) ?_
          refine z_get (i := 32) hx hb hts hin3 hown hw (by decide) zG_32 rfl 6 (by decide) (hts (.fieldLink RX3 26 "SeedDrawersModel" "place" "[J") (by decide +kernel)) rfl rfl dX3_swaps_119 ?_
          refine lv_aload_n hx hb dX3_swaps_122 rfl (lv_at hl 2 rfl) ?_
          refine lv_iload_n hx hb dX3_swaps_123 rfl (lv_at hl 5 rfl) ?_
          refine lv_iload hx hb dX3_swaps_124 (lv_at hl 6 rfl) ?_
          refine z_calli (rest := [.ref (zl E 38)]) (va_runV (As := [.int b, .int j]) (rest := [.ref (zl E 38)]) ⟨hx, hb, hml, hown, hts⟩ (k_X3_at l E c (tJ mo 38 ((gAt mo a i).toNatClampNeg) (mo.2 38 ((gAt mo b j).toNatClampNeg))) b j hb_) (cwV 2 hts gX3_swaps_X3_at rfl rfl rfl (by decide +kernel) ⟨Nat.le_of_ble_eq_true rfl, Nat.le_of_ble_eq_true rfl⟩) (z_preV hw (by decide) zG_32 rfl [.int b, .int j]) rfl rfl hl.1 rfl (lv_room (Nat.le_of_ble_eq_true rfl)) dX3_swaps_126 ⟨Nat.le_of_ble_eq_true rfl, Nat.le_of_ble_eq_true rfl⟩) hw (fun H locs hw => ?_)
          refine lv_lload hx hb dX3_swaps_129 (lv_at hl 0 rfl) ?_
          refine y_last38 hx hb hw (gAt_in (show vp_in (mo.1 35 b.toNatClampNeg) 5000 from wfM_r hwm hb_) (gCome_in (by assumption) hwm hb_)) (k := (gAt (tJ mo 38 ((gAt mo a i).toNatClampNeg) (mo.2 38 ((gAt mo b j).toNatClampNeg))) b j).toNatClampNeg) rfl dX3_swaps_131 (fun H locs hw => ?_)
          refine lv_iload hx hb dX3_swaps_132 (lv_at hl 1 rfl) ?_
          exact z_iret hx hb hr hlocks hw dX3_swaps_134 (by first | (simp [gSw, gSws, swS, q_1, q_2, q_3, q_4]; done) | (simp [gSw, gSws, swS, q_1, q_2, q_3, q_4, gAt, tJ_1]; done) | (simp_all [gSw, gSws, swS]; done)) rfl (by first | (simp [gSw, gSws, swS, q_1, q_2, q_3, q_4]; done) | (simp [gSw, gSws, swS, q_1, q_2, q_3, q_4, gAt, tJ_1]; done) | (simp_all [gSw, gSws, swS]; done))
      · have _ := hx
        refine lv_iload hx hb dX3_swaps_57 (lv_at hl 0 rfl) ?_
        refine lv_goto (tgt := 75) hx hb dX3_swaps_59 (by decide) ?_
        refine lv_istore (lv' := [(5, .int (gLay mo a i (gKind mo b j))), (0, .ref (zl E 32)), (1, .int a), (2, .int i), (3, .int b), (4, .int j)]) hx hb dX3_swaps_75 hl (by decide) rfl (fun ls hl => ?_)
        refine lv_iload hx hb dX3_swaps_77 (lv_at hl 0 rfl) ?_
        refine lv_if_ne (tgt := 132) hx hb dX3_swaps_79 (by decide) (fun q_5 => ?_) (fun q_5 => ?_)
        · have _ := hx
          refine lv_iload hx hb dX3_swaps_132 (lv_at hl 0 rfl) ?_
          exact z_iret hx hb hr hlocks hw dX3_swaps_134 (by first | (simp [gSw, gSws, swS, q_1, q_2, q_3, q_5]; done) | (simp [gSw, gSws, swS, q_1, q_2, q_3, q_5, gAt, tJ_1]; done) | (simp_all [gSw, gSws, swS]; done)) rfl (by first | (simp [gSw, gSws, swS, q_1, q_2, q_3, q_5]; done) | (simp [gSw, gSws, swS, q_1, q_2, q_3, q_5, gAt, tJ_1]; done) | (simp_all [gSw, gSws, swS]; done))
        · exact (absurd (le0 q_5) q_3)
    · have _ := hx
      refine lv_iload hx hb dX3_swaps_32 (lv_at hl 0 rfl) ?_
      refine lv_goto (tgt := 50) hx hb dX3_swaps_34 (by decide) ?_
      refine lv_istore (lv' := [(5, .int (gCome mo b j)), (0, .ref (zl E 32)), (1, .int a), (2, .int i), (3, .int b), (4, .int j)]) hx hb dX3_swaps_50 hl (by decide) rfl (fun ls hl => ?_)
      refine lv_iload hx hb dX3_swaps_52 (lv_at hl 0 rfl) ?_
      refine lv_if_le (tgt := 62) hx hb dX3_swaps_54 (by decide) (fun q_6 => ?_) (fun q_6 => ?_)
      · exact (absurd q_6 q_2)
      · have _ := hx
        refine lv_iload hx hb dX3_swaps_57 (lv_at hl 0 rfl) ?_
        refine lv_goto (tgt := 75) hx hb dX3_swaps_59 (by decide) ?_
        refine lv_istore (lv' := [(5, .int (gCome mo b j)), (0, .ref (zl E 32)), (1, .int a), (2, .int i), (3, .int b), (4, .int j)]) hx hb dX3_swaps_75 hl (by decide) rfl (fun ls hl => ?_)
        refine lv_iload hx hb dX3_swaps_77 (lv_at hl 0 rfl) ?_
        refine lv_if_ne (tgt := 132) hx hb dX3_swaps_79 (by decide) (fun q_7 => ?_) (fun q_7 => ?_)
        · have _ := hx
          refine lv_iload hx hb dX3_swaps_132 (lv_at hl 0 rfl) ?_
          exact z_iret hx hb hr hlocks hw dX3_swaps_134 (by first | (simp [gSw, gSws, swS, q_1, q_2, q_6, q_7]; done) | (simp [gSw, gSws, swS, q_1, q_2, q_6, q_7, gAt, tJ_1]; done) | (simp_all [gSw, gSws, swS]; done)) rfl (by first | (simp [gSw, gSws, swS, q_1, q_2, q_6, q_7]; done) | (simp [gSw, gSws, swS, q_1, q_2, q_6, q_7, gAt, tJ_1]; done) | (simp_all [gSw, gSws, swS]; done))
        · exact (absurd (le0 q_7) q_6)
  · have _ := hx
    refine lv_iload hx hb dX3_swaps_13 (lv_at hl 0 rfl) ?_
    refine lv_goto (tgt := 25) hx hb dX3_swaps_15 (by decide) ?_
    refine lv_istore (lv' := [(5, .int (gCome mo a i)), (0, .ref (zl E 32)), (1, .int a), (2, .int i), (3, .int b), (4, .int j)]) hx hb dX3_swaps_25 hl (by decide) rfl (fun ls hl => ?_)
    refine lv_iload hx hb dX3_swaps_27 (lv_at hl 0 rfl) ?_
    refine lv_if_le (tgt := 37) hx hb dX3_swaps_29 (by decide) (fun q_8 => ?_) (fun q_8 => ?_)
    · exact (absurd q_8 q_1)
    · have _ := hx
      refine lv_iload hx hb dX3_swaps_32 (lv_at hl 0 rfl) ?_
      refine lv_goto (tgt := 50) hx hb dX3_swaps_34 (by decide) ?_
      refine lv_istore (lv' := [(5, .int (gCome mo a i)), (0, .ref (zl E 32)), (1, .int a), (2, .int i), (3, .int b), (4, .int j)]) hx hb dX3_swaps_50 hl (by decide) rfl (fun ls hl => ?_)
      refine lv_iload hx hb dX3_swaps_52 (lv_at hl 0 rfl) ?_
      refine lv_if_le (tgt := 62) hx hb dX3_swaps_54 (by decide) (fun q_9 => ?_) (fun q_9 => ?_)
      · exact (absurd q_9 q_8)
      · have _ := hx
        refine lv_iload hx hb dX3_swaps_57 (lv_at hl 0 rfl) ?_
        refine lv_goto (tgt := 75) hx hb dX3_swaps_59 (by decide) ?_
        refine lv_istore (lv' := [(5, .int (gCome mo a i)), (0, .ref (zl E 32)), (1, .int a), (2, .int i), (3, .int b), (4, .int j)]) hx hb dX3_swaps_75 hl (by decide) rfl (fun ls hl => ?_)
        refine lv_iload hx hb dX3_swaps_77 (lv_at hl 0 rfl) ?_
        refine lv_if_ne (tgt := 132) hx hb dX3_swaps_79 (by decide) (fun q_10 => ?_) (fun q_10 => ?_)
        · have _ := hx
          refine lv_iload hx hb dX3_swaps_132 (lv_at hl 0 rfl) ?_
          exact z_iret hx hb hr hlocks hw dX3_swaps_134 (by first | (simp [gSw, gSws, swS, q_1, q_8, q_9, q_10]; done) | (simp [gSw, gSws, swS, q_1, q_8, q_9, q_10, gAt, tJ_1]; done) | (simp_all [gSw, gSws, swS]; done)) rfl (by first | (simp [gSw, gSws, swS, q_1, q_8, q_9, q_10]; done) | (simp [gSw, gSws, swS, q_1, q_8, q_9, q_10, gAt, tJ_1]; done) | (simp_all [gSw, gSws, swS]; done))
        · exact (absurd (le0 q_10) q_9)
set_option maxHeartbeats 4000000 in
set_option maxRecDepth 100000 in
theorem k_X3_swap (l : Launch) (E : zE) (c : zC) (mo : zM) (a : Int32) (i : Int32) (b : Int32) (j : Int32) (hwm : wfM mo) : Met l yX3_swap wsX3_swap (zR 4 99) (zP E c mo [.ref (zl E 32), .int a, .int i, .int b, .int j]) (cQi E (hSwap mo a i b j) c (tSwap mo a i b j)) 0 0 (zA E) := by
  refine z_ent (cc := cX3_swap) (maxL := 5) (ret := (some .int)) (vs := [.ref (zl E 32), .int a, .int i, .int b, .int j]) (by decide) rfl (Nat.le_of_ble_eq_true rfl) ?_
  intro p e s m below meth cd ls hx hb hr hml hown hts hlocks hl hw
  have hl : lv_has ls 5 [(0, .ref (zl E 32)), (1, .int a), (2, .int i), (3, .int b), (4, .int j)] := hl
  have hown : s.vm.findClass RX3 = some m.cls := hown
  refine lv_iload_n hx hb dX3_swap_0 rfl (lv_at hl 1 rfl) ?_
  refine z_calli (rest := []) (va_runS (As := [.int a]) (rest := []) ⟨hx, hb, hml, hown, hts⟩ (k_X3_no l E c mo a ) (va_cwS 1 hts gX3_swap_X3_no rfl rfl rfl (by decide +kernel) ⟨Nat.le_of_ble_eq_true rfl, Nat.le_of_ble_eq_true rfl⟩) (z_preS hw [.int a]) rfl rfl hl.1 rfl (lv_room (Nat.le_of_ble_eq_true rfl)) dX3_swap_1 ⟨Nat.le_of_ble_eq_true rfl, Nat.le_of_ble_eq_true rfl⟩) hw (fun H locs hw => ?_)
  refine lv_if_ne (tgt := 14) hx hb dX3_swap_4 (by decide) (fun q_1 => ?_) (fun q_1 => ?_)
  · have _ := hx
    refine lv_iconst (v := (-1)) hx hb dX3_swap_14 (by decide) ?_
    exact z_iret hx hb hr hlocks hw dX3_swap_15 (by first | (simp [hSwap, tSwap, q_1]; done) | (simp_all [hSwap, tSwap]; done)) rfl (by first | (simp [hSwap, tSwap, q_1]; done) | (simp_all [hSwap, tSwap]; done))
  · have _ := hx
    refine lv_iload_n hx hb dX3_swap_7 rfl (lv_at hl 3 rfl) ?_
    refine z_calli (rest := []) (va_runS (As := [.int b]) (rest := []) ⟨hx, hb, hml, hown, hts⟩ (k_X3_no l E c mo b ) (va_cwS 1 hts gX3_swap_X3_no rfl rfl rfl (by decide +kernel) ⟨Nat.le_of_ble_eq_true rfl, Nat.le_of_ble_eq_true rfl⟩) (z_preS hw [.int b]) rfl rfl hl.1 rfl (lv_room (Nat.le_of_ble_eq_true rfl)) dX3_swap_8 ⟨Nat.le_of_ble_eq_true rfl, Nat.le_of_ble_eq_true rfl⟩) hw (fun H locs hw => ?_)
    refine lv_if_eq (tgt := 16) hx hb dX3_swap_11 (by decide) (fun q_2 => ?_) (fun q_2 => ?_)
    · have _ := hx
      refine lv_aload_n hx hb dX3_swap_16 rfl (lv_at hl 0 rfl) ?_
      refine lv_aload_n hx hb dX3_swap_17 rfl (lv_at hl 0 rfl) ?_
      refine lv_iload_n hx hb dX3_swap_18 rfl (lv_at hl 1 rfl) ?_
      refine lv_iload_n hx hb dX3_swap_19 rfl (lv_at hl 2 rfl) ?_
      refine lv_iload_n hx hb dX3_swap_20 rfl (lv_at hl 3 rfl) ?_
      refine lv_iload hx hb dX3_swap_21 (lv_at hl 4 rfl) ?_
      refine z_calli (rest := [.ref (zl E 32)]) (va_runV (As := [.int a, .int i, .int b, .int j]) (rest := [.ref (zl E 32)]) ⟨hx, hb, hml, hown, hts⟩ (k_X3_swaps l E c mo a i b j (fNo_in (by assumption)) (fNo_in (by assumption)) hwm) (cwV 4 hts gX3_swap_X3_swaps rfl rfl rfl (by decide +kernel) ⟨Nat.le_of_ble_eq_true rfl, Nat.le_of_ble_eq_true rfl⟩) (z_preV hw (by decide) zG_32 rfl [.int a, .int i, .int b, .int j]) rfl rfl hl.1 rfl (lv_room (Nat.le_of_ble_eq_true rfl)) dX3_swap_23 ⟨Nat.le_of_ble_eq_true rfl, Nat.le_of_ble_eq_true rfl⟩) hw (fun H locs hw => ?_)
      refine lv_iconst (v := 1) hx hb dX3_swap_26 (by decide) ?_
      refine z_calli (rest := []) (va_runV (As := [.int (gSw mo a i b j), .int 1]) (rest := []) ⟨hx, hb, hml, hown, hts⟩ (k_X3_answer l E c (gSws mo a i b j) (gSw mo a i b j) 1 (gSw_5 _ _ _ _ _)) (cwV 2 hts gX3_swap_X3_answer rfl rfl rfl (by decide +kernel) ⟨Nat.le_of_ble_eq_true rfl, Nat.le_of_ble_eq_true rfl⟩) (z_preV hw (by decide) zG_32 rfl [.int (gSw mo a i b j), .int 1]) rfl rfl hl.1 rfl (lv_room (Nat.le_of_ble_eq_true rfl)) dX3_swap_27 ⟨Nat.le_of_ble_eq_true rfl, Nat.le_of_ble_eq_true rfl⟩) hw (fun H locs hw => ?_)
      exact z_iret hx hb hr hlocks hw dX3_swap_30 (by first | (simp [hSwap, tSwap, q_1, q_2]; done) | (simp_all [hSwap, tSwap]; done)) rfl (by first | (simp [hSwap, tSwap, q_1, q_2]; done) | (simp_all [hSwap, tSwap]; done))
    · have _ := hx
      refine lv_iconst (v := (-1)) hx hb dX3_swap_14 (by decide) ?_
      exact z_iret hx hb hr hlocks hw dX3_swap_15 (by first | (simp [hSwap, tSwap, q_1, q_2]; done) | (simp_all [hSwap, tSwap]; done)) rfl (by first | (simp [hSwap, tSwap, q_1, q_2]; done) | (simp_all [hSwap, tSwap]; done))
