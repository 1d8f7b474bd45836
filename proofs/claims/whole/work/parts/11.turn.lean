theorem tr_in {sz : Int32} {n k : Nat} (h : sz = nI n) (hn : n ≤ 12) (hk : k < n) : vp_in (sz - 1 - nI k) 12 := rv_in h hk hn
theorem gS_ok {m : zM} (w : wfM m) {d : Int32} (hd : vp_in d 8) : gS m d = nI (gS m d).toNatClampNeg ∧ (gS m d).toNatClampNeg ≤ 12 := by
  have h := w.2.1 _ (in_lt (wfM_r w hd))
  have h2 := in_lt h
  exact ⟨in_nI h (by decide), Nat.le_of_lt_succ h2⟩
set_option maxHeartbeats 4000000 in
set_option maxRecDepth 100000 in
theorem k_X3_turns (l : Launch) (E : zE) (c : zC) (mo : zM) (d : Int32) (hd : vp_in d 8) (hwm : wfM mo) : Met l yX3_turns wsX3_turns (zR 1 22) (zP E c mo [.ref (zl E 32), .int d]) (cQi E (gRow mo d) c (gTur mo d)) 0 0 (zA E) := by
  refine z_ent (cc := cX3_turns) (maxL := 7) (ret := (some .int)) (vs := [.ref (zl E 32), .int d]) (by decide) rfl (Nat.le_of_ble_eq_true rfl) ?_
  intro p e s m below meth cd ls hx hb hr hml hown hts hlocks hl hw
  have hl : lv_has ls 7 [(0, .ref (zl E 32)), (1, .int d)] := hl
  have hown : s.vm.findClass RX3 = some m.cls := hown
  have hin3 : ∀ w ∈ u_ws RX3 TX3 18, w ∈ wsX3_turns := by decide +kernel
  obtain ⟨hS1, hS2⟩ := gS_ok hwm hd
  have hS3 : gS mo d / 2 = nI ((gS mo d).toNatClampNeg / 2) := by rw [hS1]; rw [nI_clamp (by omega)]; exact pk_div (a := (gS mo d).toNatClampNeg) (d := 2) (by omega) (by omega) (by omega)
  refine lv_aload_n hx hb dX3_turns_0 rfl (lv_at hl 0 rfl) ?_
  refine lv_iload_n hx hb dX3_turns_1 rfl (lv_at hl 1 rfl) ?_
  refine z_calli (rest := []) (va_runV (As := [.int d]) (rest := []) ⟨hx, hb, hml, hown, hts⟩ (k_X3_rowFault l E c mo d hd) (cwV 1 hts gX3_turns_X3_rowFault rfl rfl rfl (by decide +kernel) ⟨Nat.le_of_ble_eq_true rfl, Nat.le_of_ble_eq_true rfl⟩) (z_preV hw (by decide) zG_32 rfl [.int d]) rfl rfl hl.1 rfl (lv_room (Nat.le_of_ble_eq_true rfl)) dX3_turns_2 ⟨Nat.le_of_ble_eq_true rfl, Nat.le_of_ble_eq_true rfl⟩) hw (fun H locs hw => ?_)
  refine lv_istore_n (lv' := [(2, .int (gRow mo d)), (0, .ref (zl E 32)), (1, .int d)]) hx hb dX3_turns_5 rfl hl (by decide) rfl (fun ls hl => ?_)
  refine lv_iload_n hx hb dX3_turns_6 rfl (lv_at hl 0 rfl) ?_
  refine lv_if_ne (tgt := 99) hx hb dX3_turns_7 (by decide) (fun q_1 => ?_) (fun q_1 => ?_)
  · have _ := hx
    refine lv_iload_n hx hb dX3_turns_99 rfl (lv_at hl 0 rfl) ?_
    exact z_iret hx hb hr hlocks hw dX3_turns_100 (by rfl) rfl (by simp [gTur, q_1])
  · have _ := hx
    refine lv_aload_n hx hb dX3_turns_10 rfl (lv_at hl 1 rfl) ?_
    refine z_get (i := 32) hx hb hts hin3 hown hw (by decide) zG_32 rfl 5 (by decide) (hts (.fieldLink RX3 22 "SeedDrawersModel" "sizeOf" "[I") (by decide +kernel)) rfl rfl dX3_turns_11 ?_
    refine lv_aload_n hx hb dX3_turns_14 rfl (lv_at hl 1 rfl) ?_
    refine z_get (i := 32) hx hb hts hin3 hown hw (by decide) zG_32 rfl 2 (by decide) (hts (.fieldLink RX3 16 "SeedDrawersModel" "rowOf" "[I") (by decide +kernel)) rfl rfl dX3_turns_15 ?_
    refine lv_iload_n hx hb dX3_turns_18 rfl (lv_at hl 2 rfl) ?_
    refine y_iald (i := 35) hx hb hw (by decide) (zG_9 (i := 35) (by decide)) hd (k := d.toNatClampNeg) rfl dX3_turns_19 ?_
    refine y_iald (i := 37) hx hb hw (by decide) (zG_9 (i := 37) (by decide)) (wfM_r hwm hd) (k := (mo.1 35 d.toNatClampNeg).toNatClampNeg) rfl dX3_turns_20 ?_
    refine lv_istore_n (lv' := [(3, .int (mo.1 37 ((mo.1 35 d.toNatClampNeg).toNatClampNeg))), (2, .int (gRow mo d)), (0, .ref (zl E 32)), (1, .int d)]) hx hb dX3_turns_21 rfl hl (by decide) rfl (fun ls hl => ?_)
    refine lv_iconst (v := 0) hx hb dX3_turns_22 (by decide) ?_
    refine lv_istore (lv' := [(4, .int 0), (3, .int (mo.1 37 ((mo.1 35 d.toNatClampNeg).toNatClampNeg))), (2, .int (gRow mo d)), (0, .ref (zl E 32)), (1, .int d)]) hx hb dX3_turns_23 hl (by decide) rfl (fun ls hl => ?_)
    have loop25 : ∀ (n_ : Nat) (k : Nat) (m1 : zM) (H : Heap) (locs : List Loc) (ls : Array Slot), (gS mo d).toNatClampNeg / 2 - k < n_ → (k ≤ (gS mo d).toNatClampNeg / 2) → (wfM m1) → (trN d (gS mo d) ((gS mo d).toNatClampNeg / 2 - k) k m1 = gTur mo d) → zW E c m1 s s.heap H locs → lv_has ls 7 [(4, .int (nI k)), (0, .ref (zl E 32)), (1, .int d), (2, .int (gRow mo d)), (3, .int (gS mo d))] → W p l e (headSpec wsX3_turns (zR 1 22)).room s m ([.ref (zl E 32), .int d] : List Value).toArray below meth cd H locs 0 0 (MQ below (cQi E (gRow mo d) c (gTur mo d)) ([.ref (zl E 32), .int d] : List Value).toArray s 0 0 (zA E)) (F0 m 25 ls []) := by
      intro n_
      induction n_ with
      | zero => intro k m1 H locs ls hn_; exact absurd hn_ (Nat.not_lt_zero _)
      | succ n_ ih =>
        intro k m1 H locs ls hn_ hk hw1 hR hw hl
        refine lv_iload hx hb dX3_turns_25 (lv_at hl 0 rfl) ?_
        refine lv_iload_n hx hb dX3_turns_27 rfl (lv_at hl 4 rfl) ?_
        refine lv_iconst (v := 2) hx hb dX3_turns_28 (by decide) ?_
        refine lv_idiv hx hb dX3_turns_29 (by decide) ?_
        refine lv_icmp_ge (tgt := 99) hx hb dX3_turns_30 (by decide) (fun q_2 => ?_) (fun q_2 => ?_)
        · have _ := hx
          rw [hS3] at q_2
          have hk2 : (gS mo d).toNatClampNeg / 2 ≤ k := le_le q_2 (by omega) (by omega)
          rw [show (gS mo d).toNatClampNeg / 2 - k = 0 by omega] at hR
          refine lv_iload_n hx hb dX3_turns_99 rfl (lv_at hl 3 rfl) ?_
          exact z_iret hx hb hr hlocks hw dX3_turns_100 (by rfl) rfl (by exact hR)
        · have _ := hx
          rw [hS3] at q_2
          have hk2 : k < (gS mo d).toNatClampNeg / 2 := nle_lt q_2 (by omega) (by omega)
          refine lv_aload_n hx hb dX3_turns_33 rfl (lv_at hl 1 rfl) ?_
          refine z_get (i := 32) hx hb hts hin3 hown hw (by decide) zG_32 rfl 6 (by decide) (hts (.fieldLink RX3 26 "SeedDrawersModel" "place" "[J") (by decide +kernel)) rfl rfl dX3_turns_34 ?_
          refine lv_aload_n hx hb dX3_turns_37 rfl (lv_at hl 1 rfl) ?_
          refine lv_iload_n hx hb dX3_turns_38 rfl (lv_at hl 2 rfl) ?_
          refine lv_iload hx hb dX3_turns_39 (lv_at hl 0 rfl) ?_
          refine z_calli (rest := [.ref (zl E 38)]) (va_runV (As := [.int d, .int (nI k)]) (rest := [.ref (zl E 38)]) ⟨hx, hb, hml, hown, hts⟩ (k_X3_at l E c m1 d (nI k) hd) (cwV 2 hts gX3_turns_X3_at rfl rfl rfl (by decide +kernel) ⟨Nat.le_of_ble_eq_true rfl, Nat.le_of_ble_eq_true rfl⟩) (z_preV hw (by decide) zG_32 rfl [.int d, .int (nI k)]) rfl rfl hl.1 rfl (lv_room (Nat.le_of_ble_eq_true rfl)) dX3_turns_41 ⟨Nat.le_of_ble_eq_true rfl, Nat.le_of_ble_eq_true rfl⟩) hw (fun H locs hw => ?_)
          refine y_lald (i := 38) hx hb hw (by decide) zG_38 (gAt_in (show vp_in (m1.1 35 d.toNatClampNeg) 5000 from wfM_r hw1 hd) (vp_in_nI (by omega) (by omega))) (k := (gAt m1 d (nI k)).toNatClampNeg) rfl dX3_turns_44 ?_
          refine lv_lstore (lv' := [(5, .long (m1.2 38 ((gAt m1 d (nI k)).toNatClampNeg))), (4, .int (nI k)), (0, .ref (zl E 32)), (1, .int d), (2, .int (gRow mo d)), (3, .int (gS mo d))]) hx hb dX3_turns_45 hl (by decide) rfl (fun ls hl => ?_)
          refine lv_aload_n hx hb dX3_turns_47 rfl (lv_at hl 2 rfl) ?_
          refine z_get (i := 32) hx hb hts hin3 hown hw (by decide) zG_32 rfl 6 (by decide) (hts (.fieldLink RX3 26 "SeedDrawersModel" "place" "[J") (by decide +kernel)) rfl rfl dX3_turns_48 ?_
          refine lv_aload_n hx hb dX3_turns_51 rfl (lv_at hl 2 rfl) ?_
          refine lv_iload_n hx hb dX3_turns_52 rfl (lv_at hl 3 rfl) ?_
          refine lv_iload hx hb dX3_turns_53 (lv_at hl 1 rfl) ?_
          refine z_calli (rest := [.ref (zl E 38)]) (va_runV (As := [.int d, .int (nI k)]) (rest := [.ref (zl E 38)]) ⟨hx, hb, hml, hown, hts⟩ (k_X3_at l E c m1 d (nI k) hd) (cwV 2 hts gX3_turns_X3_at rfl rfl rfl (by decide +kernel) ⟨Nat.le_of_ble_eq_true rfl, Nat.le_of_ble_eq_true rfl⟩) (z_preV hw (by decide) zG_32 rfl [.int d, .int (nI k)]) rfl rfl hl.1 rfl (lv_room (Nat.le_of_ble_eq_true rfl)) dX3_turns_55 ⟨Nat.le_of_ble_eq_true rfl, Nat.le_of_ble_eq_true rfl⟩) hw (fun H locs hw => ?_)
          refine lv_aload_n hx hb dX3_turns_58 rfl (lv_at hl 2 rfl) ?_
          refine z_get (i := 32) hx hb hts hin3 hown hw (by decide) zG_32 rfl 6 (by decide) (hts (.fieldLink RX3 26 "SeedDrawersModel" "place" "[J") (by decide +kernel)) rfl rfl dX3_turns_59 ?_
          refine lv_aload_n hx hb dX3_turns_62 rfl (lv_at hl 2 rfl) ?_
          refine lv_iload_n hx hb dX3_turns_63 rfl (lv_at hl 3 rfl) ?_
          refine lv_iload_n hx hb dX3_turns_64 rfl (lv_at hl 5 rfl) ?_
          refine lv_iconst (v := 1) hx hb dX3_turns_65 (by decide) ?_
          refine lv_isub hx hb dX3_turns_66 ?_
          refine lv_iload hx hb dX3_turns_67 (lv_at hl 1 rfl) ?_
          refine lv_isub hx hb dX3_turns_69 ?_
          refine z_calli (rest := [.ref (zl E 38), .int (gAt m1 d (nI k)), .ref (zl E 38)]) (va_runV (As := [.int d, .int (((gS mo d) - 1) - (nI k))]) (rest := [.ref (zl E 38), .int (gAt m1 d (nI k)), .ref (zl E 38)]) ⟨hx, hb, hml, hown, hts⟩ (k_X3_at l E c m1 d (((gS mo d) - 1) - (nI k)) hd) (cwV 2 hts gX3_turns_X3_at rfl rfl rfl (by decide +kernel) ⟨Nat.le_of_ble_eq_true rfl, Nat.le_of_ble_eq_true rfl⟩) (z_preV hw (by decide) zG_32 rfl [.int d, .int (((gS mo d) - 1) - (nI k))]) rfl rfl hl.1 rfl (lv_room (Nat.le_of_ble_eq_true rfl)) dX3_turns_70 ⟨Nat.le_of_ble_eq_true rfl, Nat.le_of_ble_eq_true rfl⟩) hw (fun H locs hw => ?_)
          refine y_lald (i := 38) hx hb hw (by decide) zG_38 (gAt_in (show vp_in (m1.1 35 d.toNatClampNeg) 5000 from wfM_r hw1 hd) (tr_in hS1 hS2 (by omega))) (k := (gAt m1 d (((gS mo d) - 1) - (nI k))).toNatClampNeg) rfl dX3_turns_73 ?_
          refine y_last38 hx hb hw (gAt_in (show vp_in (m1.1 35 d.toNatClampNeg) 5000 from wfM_r hw1 hd) (vp_in_nI (by omega) (by omega))) (k := (gAt m1 d (nI k)).toNatClampNeg) rfl dX3_turns_74 (fun H locs hw => ?_)
          refine lv_aload_n hx hb dX3_turns_75 rfl (lv_at hl 2 rfl) ?_
          refine z_get (i := 32) hx hb hts hin3 hown hw (by decide) zG_32 rfl 6 (by decide) (hts (.fieldLink RX3 26 "SeedDrawersModel" "place" "[J") (by decide +kernel)) rfl rfl dX3_turns_76 ?_
          refine lv_aload_n hx hb dX3_turns_79 rfl (lv_at hl 2 rfl) ?_
          refine lv_iload_n hx hb dX3_turns_80 rfl (lv_at hl 3 rfl) ?_
          refine lv_iload_n hx hb dX3_turns_81 rfl (lv_at hl 5 rfl) ?_
          refine lv_iconst (v := 1) hx hb dX3_turns_82 (by decide) ?_
          refine lv_isub hx hb dX3_turns_83 ?_
          refine lv_iload hx hb dX3_turns_84 (lv_at hl 1 rfl) ?_
          refine lv_isub hx hb dX3_turns_86 ?_
          refine z_calli (rest := [.ref (zl E 38)]) (va_runV (As := [.int d, .int (((gS mo d) - 1) - (nI k))]) (rest := [.ref (zl E 38)]) ⟨hx, hb, hml, hown, hts⟩ (k_X3_at l E c (tJ m1 38 ((gAt m1 d (nI k)).toNatClampNeg) (m1.2 38 ((gAt m1 d (((gS mo d) - 1) - (nI k))).toNatClampNeg))) d (((gS mo d) - 1) - (nI k)) hd) (cwV 2 hts gX3_turns_X3_at rfl rfl rfl (by decide +kernel) ⟨Nat.le_of_ble_eq_true rfl, Nat.le_of_ble_eq_true rfl⟩) (z_preV hw (by decide) zG_32 rfl [.int d, .int (((gS mo d) - 1) - (nI k))]) rfl rfl hl.1 rfl (lv_room (Nat.le_of_ble_eq_true rfl)) dX3_turns_87 ⟨Nat.le_of_ble_eq_true rfl, Nat.le_of_ble_eq_true rfl⟩) hw (fun H locs hw => ?_)
          refine lv_lload hx hb dX3_turns_90 (lv_at hl 0 rfl) ?_
          refine y_last38 hx hb hw (gAt_in (show vp_in (m1.1 35 d.toNatClampNeg) 5000 from wfM_r hw1 hd) (tr_in hS1 hS2 (by omega))) (k := (gAt (tJ m1 38 ((gAt m1 d (nI k)).toNatClampNeg) (m1.2 38 ((gAt m1 d (((gS mo d) - 1) - (nI k))).toNatClampNeg))) d (((gS mo d) - 1) - (nI k))).toNatClampNeg) rfl dX3_turns_92 (fun H locs hw => ?_)
          refine lv_iinc (v := (nI (k + 1))) (lv' := [(4, .int (nI (k + 1))), (5, .long (m1.2 38 ((gAt m1 d (nI k)).toNatClampNeg))), (0, .ref (zl E 32)), (1, .int d), (2, .int (gRow mo d)), (3, .int (gS mo d))]) hx hb dX3_turns_93 hl (k := 1) rfl (nI_1 k) (by decide) rfl (fun ls hl => ?_)
          refine lv_goto (tgt := 25) hx hb dX3_turns_96 (by decide) ?_
          rw [show (gS mo d).toNatClampNeg / 2 - k = ((gS mo d).toNatClampNeg / 2 - (k + 1)) + 1 by omega] at hR
          exact ih (k + 1) (tJ (tJ m1 38 ((gAt m1 d (nI k)).toNatClampNeg) (m1.2 38 ((gAt m1 d (((gS mo d) - 1) - (nI k))).toNatClampNeg))) 38 ((gAt (tJ m1 38 ((gAt m1 d (nI k)).toNatClampNeg) (m1.2 38 ((gAt m1 d (((gS mo d) - 1) - (nI k))).toNatClampNeg))) d (((gS mo d) - 1) - (nI k))).toNatClampNeg) (m1.2 38 ((gAt m1 d (nI k)).toNatClampNeg))) _ _ _ (by omega) (by omega) hw1 (by simpa [trN, trS, gAt, tJ_1] using hR) hw (lv_sub hl [0, 2, 3, 4, 5] rfl)
    exact loop25 ((gS mo d).toNatClampNeg / 2 + 1) 0 mo _ _ _ (by omega) (by omega) hwm (by rw [Nat.sub_zero]; simp [gTur, q_1]) hw (lv_sub hl [0, 3, 4, 2, 1] rfl)
set_option maxHeartbeats 4000000 in
set_option maxRecDepth 100000 in
theorem k_X3_turn (l : Launch) (E : zE) (c : zC) (mo : zM) (d : Int32) (hwm : wfM mo) : Met l yX3_turn wsX3_turn (zR 2 48) (zP E c mo [.ref (zl E 32), .int d]) (cQi E (hTurn mo d) c (tTurn mo d)) 0 0 (zA E) := by
  refine z_ent (cc := cX3_turn) (maxL := 3) (ret := (some .int)) (vs := [.ref (zl E 32), .int d]) (by decide) rfl (Nat.le_of_ble_eq_true rfl) ?_
  intro p e s m below meth cd ls hx hb hr hml hown hts hlocks hl hw
  have hl : lv_has ls 3 [(0, .ref (zl E 32)), (1, .int d)] := hl
  have hown : s.vm.findClass RX3 = some m.cls := hown
  have hin3 : ∀ w ∈ u_ws RX3 TX3 18, w ∈ wsX3_turn := by decide +kernel
  refine lv_iload_n hx hb dX3_turn_0 rfl (lv_at hl 1 rfl) ?_
  refine z_calli (rest := []) (va_runS (As := [.int d]) (rest := []) ⟨hx, hb, hml, hown, hts⟩ (k_X3_no l E c mo d ) (va_cwS 1 hts gX3_turn_X3_no rfl rfl rfl (by decide +kernel) ⟨Nat.le_of_ble_eq_true rfl, Nat.le_of_ble_eq_true rfl⟩) (z_preS hw [.int d]) rfl rfl hl.1 rfl (lv_room (Nat.le_of_ble_eq_true rfl)) dX3_turn_1 ⟨Nat.le_of_ble_eq_true rfl, Nat.le_of_ble_eq_true rfl⟩) hw (fun H locs hw => ?_)
  refine lv_if_eq (tgt := 9) hx hb dX3_turn_4 (by decide) (fun q_1 => ?_) (fun q_1 => ?_)
  · have _ := hx
    refine lv_aload_n hx hb dX3_turn_9 rfl (lv_at hl 0 rfl) ?_
    refine lv_iload_n hx hb dX3_turn_10 rfl (lv_at hl 1 rfl) ?_
    refine z_calli (rest := []) (va_runV (As := [.int d]) (rest := []) ⟨hx, hb, hml, hown, hts⟩ (k_X3_turns l E c mo d (fNo_in (by assumption)) hwm) (cwV 1 hts gX3_turn_X3_turns rfl rfl rfl (by decide +kernel) ⟨Nat.le_of_ble_eq_true rfl, Nat.le_of_ble_eq_true rfl⟩) (z_preV hw (by decide) zG_32 rfl [.int d]) rfl rfl hl.1 rfl (lv_room (Nat.le_of_ble_eq_true rfl)) dX3_turn_11 ⟨Nat.le_of_ble_eq_true rfl, Nat.le_of_ble_eq_true rfl⟩) hw (fun H locs hw => ?_)
    refine lv_istore_n (lv' := [(2, .int (gRow mo d)), (0, .ref (zl E 32)), (1, .int d)]) hx hb dX3_turn_14 rfl hl (by decide) rfl (fun ls hl => ?_)
    refine lv_aload_n hx hb dX3_turn_15 rfl (lv_at hl 1 rfl) ?_
    refine lv_iload_n hx hb dX3_turn_16 rfl (lv_at hl 0 rfl) ?_
    refine lv_iload_n hx hb dX3_turn_17 rfl (lv_at hl 0 rfl) ?_
    refine lv_if_le (tgt := 25) hx hb dX3_turn_18 (by decide) (fun q_2 => ?_) (fun q_2 => ?_)
    · have _ := hx
      refine lv_aload_n hx hb dX3_turn_25 rfl (lv_at hl 1 rfl) ?_
      refine z_get (i := 32) hx hb hts hin3 hown hw (by decide) zG_32 rfl 5 (by decide) (hts (.fieldLink RX3 22 "SeedDrawersModel" "sizeOf" "[I") (by decide +kernel)) rfl rfl dX3_turn_26 ?_
      refine lv_aload_n hx hb dX3_turn_29 rfl (lv_at hl 1 rfl) ?_
      refine z_get (i := 32) hx hb hts hin3 hown hw (by decide) zG_32 rfl 2 (by decide) (hts (.fieldLink RX3 16 "SeedDrawersModel" "rowOf" "[I") (by decide +kernel)) rfl rfl dX3_turn_30 ?_
      refine lv_iload_n hx hb dX3_turn_33 rfl (lv_at hl 2 rfl) ?_
      refine y_iald (i := 35) hx hb hw (by decide) (zG_9 (i := 35) (by decide)) (fNo_in (by assumption)) (k := d.toNatClampNeg) rfl dX3_turn_34 ?_
      refine y_iald (i := 37) hx hb hw (by decide) (zG_9 (i := 37) (by decide)) (wfM_r (wfM_sm (Sm_tur mo d) hwm) (fNo_in (by assumption))) (k := ((gTur mo d).1 35 d.toNatClampNeg).toNatClampNeg) rfl dX3_turn_35 ?_
      refine lv_iconst (v := 2) hx hb dX3_turn_36 (by decide) ?_
      refine lv_idiv hx hb dX3_turn_37 (by decide) ?_
      refine z_calli (rest := []) (va_runV (As := [.int (gRow mo d), .int (((gTur mo d).1 37 (((gTur mo d).1 35 d.toNatClampNeg).toNatClampNeg)) / 2)]) (rest := []) ⟨hx, hb, hml, hown, hts⟩ (k_X3_answer l E c (gTur mo d) (gRow mo d) (((gTur mo d).1 37 (((gTur mo d).1 35 d.toNatClampNeg).toNatClampNeg)) / 2) (gRow_5 _ _)) (cwV 2 hts gX3_turn_X3_answer rfl rfl rfl (by decide +kernel) ⟨Nat.le_of_ble_eq_true rfl, Nat.le_of_ble_eq_true rfl⟩) (z_preV hw (by decide) zG_32 rfl [.int (gRow mo d), .int (((gTur mo d).1 37 (((gTur mo d).1 35 d.toNatClampNeg).toNatClampNeg)) / 2)]) rfl rfl hl.1 rfl (lv_room (Nat.le_of_ble_eq_true rfl)) dX3_turn_38 ⟨Nat.le_of_ble_eq_true rfl, Nat.le_of_ble_eq_true rfl⟩) hw (fun H locs hw => ?_)
      exact z_iret hx hb hr hlocks hw dX3_turn_41 (by first | (simp [hTurn, tTurn, q_1, q_2]; done) | (simp_all [hTurn, tTurn]; done)) rfl (by first | (simp [hTurn, tTurn, q_1, q_2]; done) | (simp_all [hTurn, tTurn]; done))
    · have _ := hx
      refine lv_iconst (v := 0) hx hb dX3_turn_21 (by decide) ?_
      refine lv_goto (tgt := 38) hx hb dX3_turn_22 (by decide) ?_
      refine z_calli (rest := []) (va_runV (As := [.int (gRow mo d), .int 0]) (rest := []) ⟨hx, hb, hml, hown, hts⟩ (k_X3_answer l E c (gTur mo d) (gRow mo d) 0 (gRow_5 _ _)) (cwV 2 hts gX3_turn_X3_answer rfl rfl rfl (by decide +kernel) ⟨Nat.le_of_ble_eq_true rfl, Nat.le_of_ble_eq_true rfl⟩) (z_preV hw (by decide) zG_32 rfl [.int (gRow mo d), .int 0]) rfl rfl hl.1 rfl (lv_room (Nat.le_of_ble_eq_true rfl)) dX3_turn_38 ⟨Nat.le_of_ble_eq_true rfl, Nat.le_of_ble_eq_true rfl⟩) hw (fun H locs hw => ?_)
      exact z_iret hx hb hr hlocks hw dX3_turn_41 (by first | (simp [hTurn, tTurn, q_1, q_2]; done) | (simp_all [hTurn, tTurn]; done)) rfl (by first | (simp [hTurn, tTurn, q_1, q_2]; done) | (simp_all [hTurn, tTurn]; done))
  · have _ := hx
    refine lv_iconst (v := (-1)) hx hb dX3_turn_7 (by decide) ?_
    exact z_iret hx hb hr hlocks hw dX3_turn_8 (by first | (simp [hTurn, tTurn, q_1]; done) | (simp_all [hTurn, tTurn]; done)) rfl (by first | (simp [hTurn, tTurn, q_1]; done) | (simp_all [hTurn, tTurn]; done))
set_option maxHeartbeats 4000000 in
set_option maxRecDepth 100000 in
theorem k_X3_sum (l : Launch) (E : zE) (c : zC) (mo : zM) (d : Int32) (hwm : wfM mo) : Met l yX3_sum wsX3_sum (zR 2 45) (zP E c mo [.ref (zl E 32), .int d]) (cQl E (hSum mo d) c (tSum mo d)) 0 0 (zA E) := by
  refine z_ent (cc := cX3_sum) (maxL := 6) (ret := (some .long)) (vs := [.ref (zl E 32), .int d]) (by decide) rfl (Nat.le_of_ble_eq_true rfl) ?_
  intro p e s m below meth cd ls hx hb hr hml hown hts hlocks hl hw
  have hl : lv_has ls 6 [(0, .ref (zl E 32)), (1, .int d)] := hl
  have hown : s.vm.findClass RX3 = some m.cls := hown
  have hin3 : ∀ w ∈ u_ws RX3 TX3 18, w ∈ wsX3_sum := by decide +kernel
  refine lv_iload_n hx hb dX3_sum_0 rfl (lv_at hl 1 rfl) ?_
  refine z_calli (rest := []) (va_runS (As := [.int d]) (rest := []) ⟨hx, hb, hml, hown, hts⟩ (k_X3_no l E c mo d ) (va_cwS 1 hts gX3_sum_X3_no rfl rfl rfl (by decide +kernel) ⟨Nat.le_of_ble_eq_true rfl, Nat.le_of_ble_eq_true rfl⟩) (z_preS hw [.int d]) rfl rfl hl.1 rfl (lv_room (Nat.le_of_ble_eq_true rfl)) dX3_sum_1 ⟨Nat.le_of_ble_eq_true rfl, Nat.le_of_ble_eq_true rfl⟩) hw (fun H locs hw => ?_)
  refine lv_if_eq (tgt := 9) hx hb dX3_sum_4 (by decide) (fun q_1 => ?_) (fun q_1 => ?_)
  · have _ := hx
    refine lv_aload_n hx hb dX3_sum_9 rfl (lv_at hl 0 rfl) ?_
    refine lv_iload_n hx hb dX3_sum_10 rfl (lv_at hl 1 rfl) ?_
    refine z_calli (rest := []) (va_runV (As := [.int d]) (rest := []) ⟨hx, hb, hml, hown, hts⟩ (k_X3_rowFault l E c mo d (fNo_in (by assumption))) (cwV 1 hts gX3_sum_X3_rowFault rfl rfl rfl (by decide +kernel) ⟨Nat.le_of_ble_eq_true rfl, Nat.le_of_ble_eq_true rfl⟩) (z_preV hw (by decide) zG_32 rfl [.int d]) rfl rfl hl.1 rfl (lv_room (Nat.le_of_ble_eq_true rfl)) dX3_sum_11 ⟨Nat.le_of_ble_eq_true rfl, Nat.le_of_ble_eq_true rfl⟩) hw (fun H locs hw => ?_)
    refine lv_istore_n (lv' := [(2, .int (gRow mo d)), (0, .ref (zl E 32)), (1, .int d)]) hx hb dX3_sum_14 rfl hl (by decide) rfl (fun ls hl => ?_)
    refine lv_iload_n hx hb dX3_sum_15 rfl (lv_at hl 0 rfl) ?_
    refine lv_if_le (tgt := 27) hx hb dX3_sum_16 (by decide) (fun q_2 => ?_) (fun q_2 => ?_)
    · have _ := hx
      refine lv_lconst (v := 0) hx hb dX3_sum_27 (by decide) ?_
      refine lv_lstore_n (lv' := [(3, .long 0), (2, .int (gRow mo d)), (0, .ref (zl E 32)), (1, .int d)]) hx hb dX3_sum_28 rfl hl (by decide) rfl (fun ls hl => ?_)
      refine lv_iconst (v := 0) hx hb dX3_sum_29 (by decide) ?_
      refine lv_istore (lv' := [(5, .int 0), (3, .long 0), (2, .int (gRow mo d)), (0, .ref (zl E 32)), (1, .int d)]) hx hb dX3_sum_30 hl (by decide) rfl (fun ls hl => ?_)
      have hd := fNo_in q_1
      obtain ⟨hS1, hS2⟩ := gS_ok hwm hd
      have loop32 : ∀ (n_ : Nat) (k : Nat) (a : Int64) (H : Heap) (locs : List Loc) (ls : Array Slot), (gS mo d).toNatClampNeg - k < n_ → (k ≤ (gS mo d).toNatClampNeg) → (smN mo d ((gS mo d).toNatClampNeg - k) k a = hSum mo d) → zW E c mo s s.heap H locs → lv_has ls 6 [(5, .int (nI k)), (3, .long a), (0, .ref (zl E 32)), (1, .int d)] → W p l e (headSpec wsX3_sum (zR 2 45)).room s m ([.ref (zl E 32), .int d] : List Value).toArray below meth cd H locs 0 0 (MQ below (cQl E (hSum mo d) c (tSum mo d)) ([.ref (zl E 32), .int d] : List Value).toArray s 0 0 (zA E)) (F0 m 32 ls []) := by
        intro n_
        induction n_ with
        | zero => intro k a H locs ls hn_; exact absurd hn_ (Nat.not_lt_zero _)
        | succ n_ ih =>
          intro k a H locs ls hn_ hk hR hw hl
          refine lv_iload hx hb dX3_sum_32 (lv_at hl 0 rfl) ?_
          refine lv_aload_n hx hb dX3_sum_34 rfl (lv_at hl 2 rfl) ?_
          refine z_get (i := 32) hx hb hts hin3 hown hw (by decide) zG_32 rfl 5 (by decide) (hts (.fieldLink RX3 22 "SeedDrawersModel" "sizeOf" "[I") (by decide +kernel)) rfl rfl dX3_sum_35 ?_
          refine lv_aload_n hx hb dX3_sum_38 rfl (lv_at hl 2 rfl) ?_
          refine z_get (i := 32) hx hb hts hin3 hown hw (by decide) zG_32 rfl 2 (by decide) (hts (.fieldLink RX3 16 "SeedDrawersModel" "rowOf" "[I") (by decide +kernel)) rfl rfl dX3_sum_39 ?_
          refine lv_iload_n hx hb dX3_sum_42 rfl (lv_at hl 3 rfl) ?_
          refine y_iald (i := 35) hx hb hw (by decide) (zG_9 (i := 35) (by decide)) hd (k := d.toNatClampNeg) rfl dX3_sum_43 ?_
          refine y_iald (i := 37) hx hb hw (by decide) (zG_9 (i := 37) (by decide)) (wfM_r hwm hd) (k := (mo.1 35 d.toNatClampNeg).toNatClampNeg) rfl dX3_sum_44 ?_
          refine lv_icmp_ge (tgt := 69) hx hb dX3_sum_45 (by decide) (fun q_3 => ?_) (fun q_3 => ?_)
          · have _ := hx
            rw [show mo.1 37 (gR mo d) = nI (gS mo d).toNatClampNeg from hS1] at q_3
            have hk2 : (gS mo d).toNatClampNeg ≤ k := le_le q_3 (by omega) (by omega)
            rw [show (gS mo d).toNatClampNeg - k = 0 by omega] at hR
            refine lv_lload_n hx hb dX3_sum_69 rfl (lv_at hl 1 rfl) ?_
            exact z_lret hx hb hr hlocks hw dX3_sum_70 (by exact hR) rfl (by simp [hSum, tSum, q_1, q_2])
          · have _ := hx
            rw [show mo.1 37 (gR mo d) = nI (gS mo d).toNatClampNeg from hS1] at q_3
            have hk2 : k < (gS mo d).toNatClampNeg := nle_lt q_3 (by omega) (by omega)
            refine lv_lload_n hx hb dX3_sum_48 rfl (lv_at hl 1 rfl) ?_
            refine lv_aload_n hx hb dX3_sum_49 rfl (lv_at hl 2 rfl) ?_
            refine z_get (i := 32) hx hb hts hin3 hown hw (by decide) zG_32 rfl 6 (by decide) (hts (.fieldLink RX3 26 "SeedDrawersModel" "place" "[J") (by decide +kernel)) rfl rfl dX3_sum_50 ?_
            refine lv_aload_n hx hb dX3_sum_53 rfl (lv_at hl 2 rfl) ?_
            refine lv_iload_n hx hb dX3_sum_54 rfl (lv_at hl 3 rfl) ?_
            refine lv_iload hx hb dX3_sum_55 (lv_at hl 0 rfl) ?_
            refine z_calli (rest := [.ref (zl E 38), .long a]) (va_runV (As := [.int d, .int (nI k)]) (rest := [.ref (zl E 38), .long a]) ⟨hx, hb, hml, hown, hts⟩ (k_X3_at l E c mo d (nI k) hd) (cwV 2 hts gX3_sum_X3_at rfl rfl rfl (by decide +kernel) ⟨Nat.le_of_ble_eq_true rfl, Nat.le_of_ble_eq_true rfl⟩) (z_preV hw (by decide) zG_32 rfl [.int d, .int (nI k)]) rfl rfl hl.1 rfl (lv_room (Nat.le_of_ble_eq_true rfl)) dX3_sum_57 ⟨Nat.le_of_ble_eq_true rfl, Nat.le_of_ble_eq_true rfl⟩) hw (fun H locs hw => ?_)
            refine y_lald (i := 38) hx hb hw (by decide) zG_38 (gAt_in (wfM_r hwm hd) (vp_in_nI (by omega) (by omega))) (k := (gAt mo d (nI k)).toNatClampNeg) rfl dX3_sum_60 ?_
            refine lv_ladd hx hb dX3_sum_61 ?_
            refine lv_lstore_n (lv' := [(3, .long (a + (mo.2 38 ((gAt mo d (nI k)).toNatClampNeg)))), (5, .int (nI k)), (0, .ref (zl E 32)), (1, .int d)]) hx hb dX3_sum_62 rfl hl (by decide) rfl (fun ls hl => ?_)
            refine lv_iinc (v := (nI (k + 1))) (lv' := [(5, .int (nI (k + 1))), (3, .long (a + (mo.2 38 ((gAt mo d (nI k)).toNatClampNeg)))), (0, .ref (zl E 32)), (1, .int d)]) hx hb dX3_sum_63 hl (k := 1) rfl (nI_1 k) (by decide) rfl (fun ls hl => ?_)
            refine lv_goto (tgt := 32) hx hb dX3_sum_66 (by decide) ?_
            rw [show (gS mo d).toNatClampNeg - k = ((gS mo d).toNatClampNeg - (k + 1)) + 1 by omega] at hR
            exact ih (k + 1) (a + (mo.2 38 ((gAt mo d (nI k)).toNatClampNeg))) _ _ _ (by omega) (by omega) hR hw (lv_sub hl [0, 1, 2, 3] rfl)
      exact loop32 ((gS mo d).toNatClampNeg + 1) 0 0 _ _ _ (by omega) (by omega) (by rw [Nat.sub_zero]; simp [hSum, q_1, q_2]) hw (lv_sub hl [0, 1, 3, 4] rfl)
    · have _ := hx
      refine lv_aload_n hx hb dX3_sum_19 rfl (lv_at hl 1 rfl) ?_
      refine lv_iload_n hx hb dX3_sum_20 rfl (lv_at hl 0 rfl) ?_
      refine z_calli (rest := []) (va_runV (As := [.int (gRow mo d)]) (rest := []) ⟨hx, hb, hml, hown, hts⟩ (k_X3_met1 l E c mo (gRow mo d) (gRow_5 _ _)) (cwV 1 hts gX3_sum_X3_met1 rfl rfl rfl (by decide +kernel) ⟨Nat.le_of_ble_eq_true rfl, Nat.le_of_ble_eq_true rfl⟩) (z_preV hw (by decide) zG_32 rfl [.int (gRow mo d)]) rfl rfl hl.1 rfl (lv_room (Nat.le_of_ble_eq_true rfl)) dX3_sum_21 ⟨Nat.le_of_ble_eq_true rfl, Nat.le_of_ble_eq_true rfl⟩) hw (fun H locs hw => ?_)
      refine lv_istore_n (lv' := [(2, .int (gRow mo d)), (0, .ref (zl E 32)), (1, .int d)]) hx hb dX3_sum_24 rfl hl (by decide) rfl (fun ls hl => ?_)
      refine lv_lconst (v := 0) hx hb dX3_sum_25 (by decide) ?_
      exact z_lret hx hb hr hlocks hw dX3_sum_26 (by simp [hSum, tSum, q_1, q_2]) rfl (by simp [hSum, tSum, q_1, q_2])
  · have _ := hx
    refine lv_lconst (v := 0) hx hb dX3_sum_7 (by decide) ?_
    exact z_lret hx hb hr hlocks hw dX3_sum_8 (by simp [hSum, tSum, q_1]) rfl (by simp [hSum, tSum, q_1])
