set_option maxHeartbeats 4000000 in
set_option maxRecDepth 100000 in
theorem k_X3_find (l : Launch) (E : zE) (c : zC) (mo : zM) (d : Int32) (hwm : wfM mo) : Met l yX3_find wsX3_find (zR 2 45) (zP E c mo [.ref (zl E 32), .int d]) (cQi E (hFind mo d) c (tFind mo d)) 0 0 (zA E) := by
  refine z_ent (cc := cX3_find) (maxL := 6) (ret := (some .int)) (vs := [.ref (zl E 32), .int d]) (by decide) rfl (Nat.le_of_ble_eq_true rfl) ?_
  intro p e s m below meth cd ls hx hb hr hml hown hts hlocks hl hw
  have hl : lv_has ls 6 [(0, .ref (zl E 32)), (1, .int d)] := hl
  have hown : s.vm.findClass RX3 = some m.cls := hown
  have hin3 : ∀ w ∈ u_ws RX3 TX3 18, w ∈ wsX3_find := by decide +kernel
  refine lv_iload_n hx hb dX3_find_0 rfl (lv_at hl 1 rfl) ?_
  refine z_calli (rest := []) (va_runS (As := [.int d]) (rest := []) ⟨hx, hb, hml, hown, hts⟩ (k_X3_no l E c mo d ) (va_cwS 1 hts gX3_find_X3_no rfl rfl rfl (by decide +kernel) ⟨Nat.le_of_ble_eq_true rfl, Nat.le_of_ble_eq_true rfl⟩) (z_preS hw [.int d]) rfl rfl hl.1 rfl (lv_room (Nat.le_of_ble_eq_true rfl)) dX3_find_1 ⟨Nat.le_of_ble_eq_true rfl, Nat.le_of_ble_eq_true rfl⟩) hw (fun H locs hw => ?_)
  refine lv_if_eq (tgt := 9) hx hb dX3_find_4 (by decide) (fun q_1 => ?_) (fun q_1 => ?_)
  · have _ := hx
    refine lv_aload_n hx hb dX3_find_9 rfl (lv_at hl 0 rfl) ?_
    refine lv_iload_n hx hb dX3_find_10 rfl (lv_at hl 1 rfl) ?_
    refine z_calli (rest := []) (va_runV (As := [.int d]) (rest := []) ⟨hx, hb, hml, hown, hts⟩ (k_X3_rowFault l E c mo d (fNo_in (by assumption))) (cwV 1 hts gX3_find_X3_rowFault rfl rfl rfl (by decide +kernel) ⟨Nat.le_of_ble_eq_true rfl, Nat.le_of_ble_eq_true rfl⟩) (z_preV hw (by decide) zG_32 rfl [.int d]) rfl rfl hl.1 rfl (lv_room (Nat.le_of_ble_eq_true rfl)) dX3_find_11 ⟨Nat.le_of_ble_eq_true rfl, Nat.le_of_ble_eq_true rfl⟩) hw (fun H locs hw => ?_)
    refine lv_istore_n (lv' := [(2, .int (gRow mo d)), (0, .ref (zl E 32)), (1, .int d)]) hx hb dX3_find_14 rfl hl (by decide) rfl (fun ls hl => ?_)
    refine lv_iload_n hx hb dX3_find_15 rfl (lv_at hl 0 rfl) ?_
    refine lv_if_le (tgt := 26) hx hb dX3_find_16 (by decide) (fun q_2 => ?_) (fun q_2 => ?_)
    · have _ := hx
      refine lv_aload_n hx hb dX3_find_26 rfl (lv_at hl 1 rfl) ?_
      refine z_get (i := 32) hx hb hts hin3 hown hw (by decide) zG_32 rfl 4 (by decide) (hts (.fieldLink RX3 19 "SeedDrawersModel" "kindOf" "[I") (by decide +kernel)) rfl rfl dX3_find_27 ?_
      refine lv_aload_n hx hb dX3_find_30 rfl (lv_at hl 1 rfl) ?_
      refine z_get (i := 32) hx hb hts hin3 hown hw (by decide) zG_32 rfl 2 (by decide) (hts (.fieldLink RX3 16 "SeedDrawersModel" "rowOf" "[I") (by decide +kernel)) rfl rfl dX3_find_31 ?_
      refine lv_iload_n hx hb dX3_find_34 rfl (lv_at hl 2 rfl) ?_
      refine y_iald (i := 35) hx hb hw (by decide) (zG_9 (i := 35) (by decide)) (fNo_in (by assumption)) (k := d.toNatClampNeg) rfl dX3_find_35 ?_
      refine y_iald (i := 36) hx hb hw (by decide) (zG_9 (i := 36) (by decide)) (wfM_r hwm (fNo_in (by assumption))) (k := (mo.1 35 d.toNatClampNeg).toNatClampNeg) rfl dX3_find_36 ?_
      refine lv_istore_n (lv' := [(3, .int (mo.1 36 ((mo.1 35 d.toNatClampNeg).toNatClampNeg))), (2, .int (gRow mo d)), (0, .ref (zl E 32)), (1, .int d)]) hx hb dX3_find_37 rfl hl (by decide) rfl (fun ls hl => ?_)
      refine lv_iconst (v := 0) hx hb dX3_find_38 (by decide) ?_
      refine lv_istore (lv' := [(4, .int 0), (3, .int (mo.1 36 ((mo.1 35 d.toNatClampNeg).toNatClampNeg))), (2, .int (gRow mo d)), (0, .ref (zl E 32)), (1, .int d)]) hx hb dX3_find_39 hl (by decide) rfl (fun ls hl => ?_)
      have hd := fNo_in q_1
      obtain ⟨hS1, hS2⟩ := gS_ok hwm hd
      have loop41 : ∀ (n_ : Nat) (k : Nat) (H : Heap) (locs : List Loc) (ls : Array Slot), (gS mo d).toNatClampNeg - k < n_ → (k ≤ (gS mo d).toNatClampNeg) → (fdN mo d ((gS mo d).toNatClampNeg - k) k = hFind mo d) → zW E c mo s s.heap H locs → lv_has ls 6 [(4, .int (nI k)), (0, .ref (zl E 32)), (1, .int d), (3, .int (mo.1 36 (gR mo d)))] → W p l e (headSpec wsX3_find (zR 2 45)).room s m ([.ref (zl E 32), .int d] : List Value).toArray below meth cd H locs 0 0 (MQ below (cQi E (hFind mo d) c (tFind mo d)) ([.ref (zl E 32), .int d] : List Value).toArray s 0 0 (zA E)) (F0 m 41 ls []) := by
        intro n_
        induction n_ with
        | zero => intro k H locs ls hn_; exact absurd hn_ (Nat.not_lt_zero _)
        | succ n_ ih =>
          intro k H locs ls hn_ hk hR hw hl
          refine lv_iload hx hb dX3_find_41 (lv_at hl 0 rfl) ?_
          refine lv_aload_n hx hb dX3_find_43 rfl (lv_at hl 1 rfl) ?_
          refine z_get (i := 32) hx hb hts hin3 hown hw (by decide) zG_32 rfl 5 (by decide) (hts (.fieldLink RX3 22 "SeedDrawersModel" "sizeOf" "[I") (by decide +kernel)) rfl rfl dX3_find_44 ?_
          refine lv_aload_n hx hb dX3_find_47 rfl (lv_at hl 1 rfl) ?_
          refine z_get (i := 32) hx hb hts hin3 hown hw (by decide) zG_32 rfl 2 (by decide) (hts (.fieldLink RX3 16 "SeedDrawersModel" "rowOf" "[I") (by decide +kernel)) rfl rfl dX3_find_48 ?_
          refine lv_iload_n hx hb dX3_find_51 rfl (lv_at hl 2 rfl) ?_
          refine y_iald (i := 35) hx hb hw (by decide) (zG_9 (i := 35) (by decide)) hd (k := d.toNatClampNeg) rfl dX3_find_52 ?_
          refine y_iald (i := 37) hx hb hw (by decide) (zG_9 (i := 37) (by decide)) (wfM_r hwm hd) (k := (mo.1 35 d.toNatClampNeg).toNatClampNeg) rfl dX3_find_53 ?_
          refine lv_icmp_ge (tgt := 123) hx hb dX3_find_54 (by decide) (fun q_3 => ?_) (fun q_3 => ?_)
          · have _ := hx
            rw [show mo.1 37 (gR mo d) = nI (gS mo d).toNatClampNeg from hS1] at q_3
            have hk2 : (gS mo d).toNatClampNeg ≤ k := le_le q_3 (by omega) (by omega)
            rw [show (gS mo d).toNatClampNeg - k = 0 by omega] at hR
            refine lv_bipush (v := (-9)) hx hb dX3_find_123 (by decide) ?_
            exact z_iret hx hb hr hlocks hw dX3_find_125 (by exact hR) rfl (by simp [hFind, tFind, q_1, q_2])
          · have _ := hx
            rw [show mo.1 37 (gR mo d) = nI (gS mo d).toNatClampNeg from hS1] at q_3
            have hk2 : k < (gS mo d).toNatClampNeg := nle_lt q_3 (by omega) (by omega)
            rw [show (gS mo d).toNatClampNeg - k = ((gS mo d).toNatClampNeg - (k + 1)) + 1 by omega] at hR
            refine lv_aload_n hx hb dX3_find_57 rfl (lv_at hl 1 rfl) ?_
            refine z_get (i := 32) hx hb hts hin3 hown hw (by decide) zG_32 rfl 7 (by decide) (hts (.fieldLink RX3 66 "SeedDrawersModel" "holds" "Z") (by decide +kernel)) rfl rfl dX3_find_58 ?_
            refine lv_if_eq (tgt := 100) hx hb dX3_find_61 (by decide) (fun q_4 => ?_) (fun q_4 => ?_)
            · have _ := hx
              refine lv_aload_n hx hb dX3_find_100 rfl (lv_at hl 1 rfl) ?_
              refine lv_iload_n hx hb dX3_find_101 rfl (lv_at hl 2 rfl) ?_
              refine lv_iload hx hb dX3_find_102 (lv_at hl 0 rfl) ?_
              refine z_calli (rest := []) (va_runV (As := [.int d, .int (nI k)]) (rest := []) ⟨hx, hb, hml, hown, hts⟩ (k_X3_isEmpty l E c mo d (nI k) hd (vp_in_nI (by omega) (by omega)) hwm) (cwV 2 hts gX3_find_X3_isEmpty rfl rfl rfl (by decide +kernel) ⟨Nat.le_of_ble_eq_true rfl, Nat.le_of_ble_eq_true rfl⟩) (z_preV hw (by decide) zG_32 rfl [.int d, .int (nI k)]) rfl rfl hl.1 rfl (lv_room (Nat.le_of_ble_eq_true rfl)) dX3_find_104 ⟨Nat.le_of_ble_eq_true rfl, Nat.le_of_ble_eq_true rfl⟩) hw (fun H locs hw => ?_)
              refine lv_istore (lv' := [(5, .int (gEmp mo d (nI k))), (4, .int (nI k)), (0, .ref (zl E 32)), (1, .int d), (3, .int (mo.1 36 (gR mo d)))]) hx hb dX3_find_107 hl (by decide) rfl (fun ls hl => ?_)
              refine lv_iload hx hb dX3_find_109 (lv_at hl 0 rfl) ?_
              refine lv_if_eq (tgt := 117) hx hb dX3_find_111 (by decide) (fun q_5 => ?_) (fun q_5 => ?_)
              · have _ := hx
                refine lv_iinc (v := (nI (k + 1))) (lv' := [(4, .int (nI (k + 1))), (5, .int (gEmp mo d (nI k))), (0, .ref (zl E 32)), (1, .int d), (3, .int (mo.1 36 (gR mo d)))]) hx hb dX3_find_117 hl (k := 1) rfl (nI_1 k) (by decide) rfl (fun ls hl => ?_)
                refine lv_goto (tgt := 41) hx hb dX3_find_120 (by decide) ?_
                exact ih (k + 1) _ _ _ (by omega) (by omega) (by simpa [fdN, gIs, q_4, q_5] using hR) hw (lv_sub hl [0, 2, 3, 4] rfl)
              · have _ := hx
                refine lv_iload hx hb dX3_find_114 (lv_at hl 1 rfl) ?_
                exact z_iret hx hb hr hlocks hw dX3_find_116 (by simpa [fdN, gIs, q_4, q_5] using hR) rfl (by simp [hFind, tFind, q_1, q_2])
            · have _ := hx
              refine lv_iload_n hx hb dX3_find_64 rfl (lv_at hl 3 rfl) ?_
              refine lv_aload_n hx hb dX3_find_65 rfl (lv_at hl 1 rfl) ?_
              refine z_get (i := 32) hx hb hts hin3 hown hw (by decide) zG_32 rfl 8 (by decide) (hts (.fieldLink RX3 70 "SeedDrawersModel" "handKind" "I") (by decide +kernel)) rfl rfl dX3_find_66 ?_
              refine lv_icmp_ne (tgt := 96) hx hb dX3_find_69 (by decide) (fun q_6 => ?_) (fun q_6 => ?_)
              · have _ := hx
                refine lv_iconst (v := 0) hx hb dX3_find_96 (by decide) ?_
                refine lv_goto (tgt := 107) hx hb dX3_find_97 (by decide) ?_
                refine lv_istore (lv' := [(5, .int 0), (4, .int (nI k)), (0, .ref (zl E 32)), (1, .int d), (3, .int (mo.1 36 (gR mo d)))]) hx hb dX3_find_107 hl (by decide) rfl (fun ls hl => ?_)
                refine lv_iload hx hb dX3_find_109 (lv_at hl 0 rfl) ?_
                refine lv_if_eq (tgt := 117) hx hb dX3_find_111 (by decide) (fun q_7 => ?_) (fun q_7 => ?_)
                · have _ := hx
                  refine lv_iinc (v := (nI (k + 1))) (lv' := [(4, .int (nI (k + 1))), (5, .int 0), (0, .ref (zl E 32)), (1, .int d), (3, .int (mo.1 36 (gR mo d)))]) hx hb dX3_find_117 hl (k := 1) rfl (nI_1 k) (by decide) rfl (fun ls hl => ?_)
                  refine lv_goto (tgt := 41) hx hb dX3_find_120 (by decide) ?_
                  exact ih (k + 1) _ _ _ (by omega) (by omega) (by simpa [fdN, gIs, q_4, q_6, q_7] using hR) hw (lv_sub hl [0, 2, 3, 4] rfl)
                · exact (absurd q_7 (by decide))
              · have _ := hx
                refine lv_aload_n hx hb dX3_find_72 rfl (lv_at hl 1 rfl) ?_
                refine z_get (i := 32) hx hb hts hin3 hown hw (by decide) zG_32 rfl 6 (by decide) (hts (.fieldLink RX3 26 "SeedDrawersModel" "place" "[J") (by decide +kernel)) rfl rfl dX3_find_73 ?_
                refine lv_aload_n hx hb dX3_find_76 rfl (lv_at hl 1 rfl) ?_
                refine lv_iload_n hx hb dX3_find_77 rfl (lv_at hl 2 rfl) ?_
                refine lv_iload hx hb dX3_find_78 (lv_at hl 0 rfl) ?_
                refine z_calli (rest := [.ref (zl E 38)]) (va_runV (As := [.int d, .int (nI k)]) (rest := [.ref (zl E 38)]) ⟨hx, hb, hml, hown, hts⟩ (k_X3_at l E c mo d (nI k) hd) (cwV 2 hts gX3_find_X3_at rfl rfl rfl (by decide +kernel) ⟨Nat.le_of_ble_eq_true rfl, Nat.le_of_ble_eq_true rfl⟩) (z_preV hw (by decide) zG_32 rfl [.int d, .int (nI k)]) rfl rfl hl.1 rfl (lv_room (Nat.le_of_ble_eq_true rfl)) dX3_find_80 ⟨Nat.le_of_ble_eq_true rfl, Nat.le_of_ble_eq_true rfl⟩) hw (fun H locs hw => ?_)
                refine y_lald (i := 38) hx hb hw (by decide) zG_38 (gAt_in (wfM_r hwm hd) (vp_in_nI (by omega) (by omega))) (k := (gAt mo d (nI k)).toNatClampNeg) rfl dX3_find_83 ?_
                refine lv_aload_n hx hb dX3_find_84 rfl (lv_at hl 1 rfl) ?_
                refine z_get (i := 32) hx hb hts hin3 hown hw (by decide) zG_32 rfl 9 (by decide) (hts (.fieldLink RX3 73 "SeedDrawersModel" "handValue" "J") (by decide +kernel)) rfl rfl dX3_find_85 ?_
                refine W.lcmp hx hb dX3_find_88 ?_
                refine lv_if_ne (tgt := 96) hx hb dX3_find_89 (by decide) (fun q_8 => ?_) (fun q_8 => ?_)
                · have _ := hx
                  refine lv_iconst (v := 0) hx hb dX3_find_96 (by decide) ?_
                  refine lv_goto (tgt := 107) hx hb dX3_find_97 (by decide) ?_
                  refine lv_istore (lv' := [(5, .int 0), (4, .int (nI k)), (0, .ref (zl E 32)), (1, .int d), (3, .int (mo.1 36 (gR mo d)))]) hx hb dX3_find_107 hl (by decide) rfl (fun ls hl => ?_)
                  refine lv_iload hx hb dX3_find_109 (lv_at hl 0 rfl) ?_
                  refine lv_if_eq (tgt := 117) hx hb dX3_find_111 (by decide) (fun q_9 => ?_) (fun q_9 => ?_)
                  · have _ := hx
                    refine lv_iinc (v := (nI (k + 1))) (lv' := [(4, .int (nI (k + 1))), (5, .int 0), (0, .ref (zl E 32)), (1, .int d), (3, .int (mo.1 36 (gR mo d)))]) hx hb dX3_find_117 hl (k := 1) rfl (nI_1 k) (by decide) rfl (fun ls hl => ?_)
                    refine lv_goto (tgt := 41) hx hb dX3_find_120 (by decide) ?_
                    exact ih (k + 1) _ _ _ (by omega) (by omega) (by simpa [fdN, gIs, q_4, q_6, q_8, q_9] using hR) hw (lv_sub hl [0, 2, 3, 4] rfl)
                  · exact (absurd q_9 (by decide))
                · have _ := hx
                  refine lv_iconst (v := 1) hx hb dX3_find_92 (by decide) ?_
                  refine lv_goto (tgt := 107) hx hb dX3_find_93 (by decide) ?_
                  refine lv_istore (lv' := [(5, .int 1), (4, .int (nI k)), (0, .ref (zl E 32)), (1, .int d), (3, .int (mo.1 36 (gR mo d)))]) hx hb dX3_find_107 hl (by decide) rfl (fun ls hl => ?_)
                  refine lv_iload hx hb dX3_find_109 (lv_at hl 0 rfl) ?_
                  refine lv_if_eq (tgt := 117) hx hb dX3_find_111 (by decide) (fun q_10 => ?_) (fun q_10 => ?_)
                  · exact (absurd q_10 (by decide))
                  · have _ := hx
                    refine lv_iload hx hb dX3_find_114 (lv_at hl 1 rfl) ?_
                    exact z_iret hx hb hr hlocks hw dX3_find_116 (by simpa [fdN, gIs, q_4, q_6, q_8, q_10] using hR) rfl (by simp [hFind, tFind, q_1, q_2])
      exact loop41 ((gS mo d).toNatClampNeg + 1) 0 _ _ _ (by omega) (by omega) (by rw [Nat.sub_zero]; simp [hFind, q_1, q_2]) hw (lv_sub hl [0, 3, 4, 1] rfl)
    · have _ := hx
      refine lv_aload_n hx hb dX3_find_19 rfl (lv_at hl 1 rfl) ?_
      refine lv_iload_n hx hb dX3_find_20 rfl (lv_at hl 0 rfl) ?_
      refine lv_iconst (v := 0) hx hb dX3_find_21 (by decide) ?_
      refine z_calli (rest := []) (va_runV (As := [.int (gRow mo d), .int 0]) (rest := []) ⟨hx, hb, hml, hown, hts⟩ (k_X3_answer l E c mo (gRow mo d) 0 (gRow_5 _ _)) (cwV 2 hts gX3_find_X3_answer rfl rfl rfl (by decide +kernel) ⟨Nat.le_of_ble_eq_true rfl, Nat.le_of_ble_eq_true rfl⟩) (z_preV hw (by decide) zG_32 rfl [.int (gRow mo d), .int 0]) rfl rfl hl.1 rfl (lv_room (Nat.le_of_ble_eq_true rfl)) dX3_find_22 ⟨Nat.le_of_ble_eq_true rfl, Nat.le_of_ble_eq_true rfl⟩) hw (fun H locs hw => ?_)
      exact z_iret hx hb hr hlocks hw dX3_find_25 (by simp [hFind, tFind, q_1, q_2]) rfl (by simp [hFind, tFind, q_1, q_2])
  · have _ := hx
    refine lv_iconst (v := (-1)) hx hb dX3_find_7 (by decide) ?_
    exact z_iret hx hb hr hlocks hw dX3_find_8 (by simp [hFind, tFind, q_1]) rfl (by simp [hFind, tFind, q_1])
