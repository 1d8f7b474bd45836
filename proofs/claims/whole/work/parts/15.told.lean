set_option maxHeartbeats 4000000 in
set_option maxRecDepth 100000 in
theorem k_X3_told (l : Launch) (E : zE) (c : zC) (mo : zM) (d : Int32) (w : Int32) (hwm : wfM mo) : Met l yX3_told wsX3_told (zR 2 45) (zP E c mo [.ref (zl E 32), .int d, .int w]) (cQi E (hTold mo d w) c mo) 0 0 (zA E) := by
  refine z_ent (cc := cX3_told) (maxL := 5) (ret := (some .int)) (vs := [.ref (zl E 32), .int d, .int w]) (by decide) rfl (Nat.le_of_ble_eq_true rfl) ?_
  intro p e s m below meth cd ls hx hb hr hml hown hts hlocks hl hw
  have hl : lv_has ls 5 [(0, .ref (zl E 32)), (1, .int d), (2, .int w)] := hl
  have hown : s.vm.findClass RX3 = some m.cls := hown
  have hin3 : ∀ w ∈ u_ws RX3 TX3 18, w ∈ wsX3_told := by decide +kernel
  refine lv_iload_n hx hb dX3_told_0 rfl (lv_at hl 1 rfl) ?_
  refine z_calli (rest := []) (va_runS (As := [.int d]) (rest := []) ⟨hx, hb, hml, hown, hts⟩ (k_X3_no l E c mo d ) (va_cwS 1 hts gX3_told_X3_no rfl rfl rfl (by decide +kernel) ⟨Nat.le_of_ble_eq_true rfl, Nat.le_of_ble_eq_true rfl⟩) (z_preS hw [.int d]) rfl rfl hl.1 rfl (lv_room (Nat.le_of_ble_eq_true rfl)) dX3_told_1 ⟨Nat.le_of_ble_eq_true rfl, Nat.le_of_ble_eq_true rfl⟩) hw (fun H locs hw => ?_)
  refine lv_if_eq (tgt := 9) hx hb dX3_told_4 (by decide) (fun q_1 => ?_) (fun q_1 => ?_)
  · have _ := hx
    refine lv_iload_n hx hb dX3_told_9 rfl (lv_at hl 2 rfl) ?_
    by_cases q_2 : w = 0
    · have _ := hx
      refine lv_tableIn (tgt := 36) hx hb dX3_told_10 (by rw [q_2]; decide) (by rw [q_2]; decide) (by rw [q_2]; rfl) (by decide) ?_
      refine lv_aload_n hx hb dX3_told_36 rfl (lv_at hl 0 rfl) ?_
      refine z_get (i := 32) hx hb hts hin3 hown hw (by decide) zG_32 rfl 0 (by decide) (hts (.fieldLink RX3 7 "SeedDrawersModel" "has" "[I") (by decide +kernel)) rfl rfl dX3_told_37 ?_
      refine lv_iload_n hx hb dX3_told_40 rfl (lv_at hl 1 rfl) ?_
      refine y_iald (i := 33) hx hb hw (by decide) (zG_9 (i := 33) (by decide)) (fNo_in (by assumption)) (k := d.toNatClampNeg) rfl dX3_told_41 ?_
      refine lv_iconst (v := 2) hx hb dX3_told_42 (by decide) ?_
      refine lv_icmp_ge (tgt := 55) hx hb dX3_told_43 (by decide) (fun q_3 => ?_) (fun q_3 => ?_)
      · have _ := hx
        refine lv_iconst (v := 2) hx hb dX3_told_55 (by decide) ?_
        refine lv_aload_n hx hb dX3_told_56 rfl (lv_at hl 0 rfl) ?_
        refine z_get (i := 32) hx hb hts hin3 hown hw (by decide) zG_32 rfl 4 (by decide) (hts (.fieldLink RX3 19 "SeedDrawersModel" "kindOf" "[I") (by decide +kernel)) rfl rfl dX3_told_57 ?_
        refine lv_aload_n hx hb dX3_told_60 rfl (lv_at hl 0 rfl) ?_
        refine z_get (i := 32) hx hb hts hin3 hown hw (by decide) zG_32 rfl 2 (by decide) (hts (.fieldLink RX3 16 "SeedDrawersModel" "rowOf" "[I") (by decide +kernel)) rfl rfl dX3_told_61 ?_
        refine lv_iload_n hx hb dX3_told_64 rfl (lv_at hl 1 rfl) ?_
        refine y_iald (i := 35) hx hb hw (by decide) (zG_9 (i := 35) (by decide)) (fNo_in (by assumption)) (k := d.toNatClampNeg) rfl dX3_told_65 ?_
        refine y_iald (i := 36) hx hb hw (by decide) (zG_9 (i := 36) (by decide)) (wfM_r hwm (fNo_in (by assumption))) (k := (mo.1 35 d.toNatClampNeg).toNatClampNeg) rfl dX3_told_66 ?_
        refine lv_iadd hx hb dX3_told_67 ?_
        exact z_iret hx hb hr hlocks hw dX3_told_68 (by simp [hTold, q_1, q_2, q_3]) rfl rfl
      · have _ := hx
        refine lv_aload_n hx hb dX3_told_46 rfl (lv_at hl 0 rfl) ?_
        refine z_get (i := 32) hx hb hts hin3 hown hw (by decide) zG_32 rfl 0 (by decide) (hts (.fieldLink RX3 7 "SeedDrawersModel" "has" "[I") (by decide +kernel)) rfl rfl dX3_told_47 ?_
        refine lv_iload_n hx hb dX3_told_50 rfl (lv_at hl 1 rfl) ?_
        refine y_iald (i := 33) hx hb hw (by decide) (zG_9 (i := 33) (by decide)) (fNo_in (by assumption)) (k := d.toNatClampNeg) rfl dX3_told_51 ?_
        refine lv_goto (tgt := 68) hx hb dX3_told_52 (by decide) ?_
        exact z_iret hx hb hr hlocks hw dX3_told_68 (by simp [hTold, q_1, q_2, q_3]) rfl rfl
    by_cases q_4 : w = 1
    · have _ := hx
      refine lv_tableIn (tgt := 69) hx hb dX3_told_10 (by rw [q_4]; decide) (by rw [q_4]; decide) (by rw [q_4]; rfl) (by decide) ?_
      refine lv_iconst (v := 0) hx hb dX3_told_69 (by decide) ?_
      refine lv_istore_n (lv' := [(3, .int 0), (0, .ref (zl E 32)), (1, .int d), (2, .int w)]) hx hb dX3_told_70 rfl hl (by decide) rfl (fun ls hl => ?_)
      refine lv_iconst (v := 0) hx hb dX3_told_71 (by decide) ?_
      refine lv_istore (lv' := [(4, .int 0), (3, .int 0), (0, .ref (zl E 32)), (1, .int d), (2, .int w)]) hx hb dX3_told_72 hl (by decide) rfl (fun ls hl => ?_)
      have loop74 : ∀ (n_ : Nat) (k : Nat) (a : Int32) (H : Heap) (locs : List Loc) (ls : Array Slot), 8 - k < n_ → (k ≤ 8) → (tlN mo d (8 - k) k a = tlN mo d 8 0 0) → zW E c mo s s.heap H locs → lv_has ls 5 [(4, .int (nI k)), (3, .int a), (0, .ref (zl E 32)), (1, .int d)] → W p l e (headSpec wsX3_told (zR 2 45)).room s m ([.ref (zl E 32), .int d, .int w] : List Value).toArray below meth cd H locs 0 0 (MQ below (cQi E (hTold mo d w) c mo) ([.ref (zl E 32), .int d, .int w] : List Value).toArray s 0 0 (zA E)) (F0 m 74 ls []) := by
        intro n_
        induction n_ with
        | zero => intro k a H locs ls hn_; exact absurd hn_ (Nat.not_lt_zero _)
        | succ n_ ih =>
          intro k a H locs ls hn_ hk hR hw hl
          refine lv_iload hx hb dX3_told_74 (lv_at hl 0 rfl) ?_
          refine lv_bipush (v := 8) hx hb dX3_told_76 (by decide) ?_
          refine lv_icmp_ge (tgt := 132) hx hb dX3_told_78 (by decide) (fun q_5 => ?_) (fun q_5 => ?_)
          · have _ := hx
            have hk2 : 8 ≤ k := le_le (b := 8) q_5 (by omega) (by omega)
            rw [show 8 - k = 0 by omega] at hR
            have hR : a = tlN mo d 8 0 0 := hR
            refine lv_iload_n hx hb dX3_told_132 rfl (lv_at hl 1 rfl) ?_
            exact z_iret hx hb hr hlocks hw dX3_told_133 (by simp [hTold, q_1, q_2, q_4, q_5, hR]) rfl rfl
          · have _ := hx
            have hk2 : k < 8 := nle_lt (b := 8) q_5 (by omega) (by omega)
            rw [show 8 - k = (8 - (k + 1)) + 1 by omega] at hR
            refine lv_iload_n hx hb dX3_told_81 rfl (lv_at hl 1 rfl) ?_
            refine lv_aload_n hx hb dX3_told_82 rfl (lv_at hl 2 rfl) ?_
            refine z_get (i := 32) hx hb hts hin3 hown hw (by decide) zG_32 rfl 0 (by decide) (hts (.fieldLink RX3 7 "SeedDrawersModel" "has" "[I") (by decide +kernel)) rfl rfl dX3_told_83 ?_
            refine lv_iload_n hx hb dX3_told_86 rfl (lv_at hl 3 rfl) ?_
            refine y_iald (i := 33) hx hb hw (by decide) (zG_9 (i := 33) (by decide)) (fNo_in (by assumption)) (k := d.toNatClampNeg) rfl dX3_told_87 ?_
            refine lv_iconst (v := 2) hx hb dX3_told_88 (by decide) ?_
            refine lv_icmp_ne (tgt := 123) hx hb dX3_told_89 (by decide) (fun q_6 => ?_) (fun q_6 => ?_)
            · have _ := hx
              refine lv_iconst (v := 0) hx hb dX3_told_123 (by decide) ?_
              refine lv_iadd hx hb dX3_told_124 ?_
              refine lv_istore_n (lv' := [(3, .int (a + 0)), (4, .int (nI k)), (0, .ref (zl E 32)), (1, .int d)]) hx hb dX3_told_125 rfl hl (by decide) rfl (fun ls hl => ?_)
              refine lv_iinc (v := (nI (k + 1))) (lv' := [(4, .int (nI (k + 1))), (3, .int (a + 0)), (0, .ref (zl E 32)), (1, .int d)]) hx hb dX3_told_126 hl (k := 1) rfl (nI_1 k) (by decide) rfl (fun ls hl => ?_)
              refine lv_goto (tgt := 74) hx hb dX3_told_129 (by decide) ?_
              exact ih (k + 1) (a + 0) _ _ _ (by omega) (by omega) (by simpa [tlN, q_6] using hR) hw (lv_sub hl [0, 1, 2, 3] rfl)
            · have _ := hx
              refine lv_aload_n hx hb dX3_told_92 rfl (lv_at hl 2 rfl) ?_
              refine z_get (i := 32) hx hb hts hin3 hown hw (by decide) zG_32 rfl 0 (by decide) (hts (.fieldLink RX3 7 "SeedDrawersModel" "has" "[I") (by decide +kernel)) rfl rfl dX3_told_93 ?_
              refine lv_iload hx hb dX3_told_96 (lv_at hl 0 rfl) ?_
              refine y_iald (i := 33) hx hb hw (by decide) (zG_9 (i := 33) (by decide)) (vp_in_nI (N := 8) (by omega) (by omega)) (k := k) (nI_clamp (by omega)) dX3_told_98 ?_
              refine lv_iconst (v := 2) hx hb dX3_told_99 (by decide) ?_
              refine lv_icmp_ne (tgt := 123) hx hb dX3_told_100 (by decide) (fun q_7 => ?_) (fun q_7 => ?_)
              · have _ := hx
                refine lv_iconst (v := 0) hx hb dX3_told_123 (by decide) ?_
                refine lv_iadd hx hb dX3_told_124 ?_
                refine lv_istore_n (lv' := [(3, .int (a + 0)), (4, .int (nI k)), (0, .ref (zl E 32)), (1, .int d)]) hx hb dX3_told_125 rfl hl (by decide) rfl (fun ls hl => ?_)
                refine lv_iinc (v := (nI (k + 1))) (lv' := [(4, .int (nI (k + 1))), (3, .int (a + 0)), (0, .ref (zl E 32)), (1, .int d)]) hx hb dX3_told_126 hl (k := 1) rfl (nI_1 k) (by decide) rfl (fun ls hl => ?_)
                refine lv_goto (tgt := 74) hx hb dX3_told_129 (by decide) ?_
                exact ih (k + 1) (a + 0) _ _ _ (by omega) (by omega) (by simpa [tlN, q_6, q_7] using hR) hw (lv_sub hl [0, 1, 2, 3] rfl)
              · have _ := hx
                refine lv_aload_n hx hb dX3_told_103 rfl (lv_at hl 2 rfl) ?_
                refine z_get (i := 32) hx hb hts hin3 hown hw (by decide) zG_32 rfl 2 (by decide) (hts (.fieldLink RX3 16 "SeedDrawersModel" "rowOf" "[I") (by decide +kernel)) rfl rfl dX3_told_104 ?_
                refine lv_iload hx hb dX3_told_107 (lv_at hl 0 rfl) ?_
                refine y_iald (i := 35) hx hb hw (by decide) (zG_9 (i := 35) (by decide)) (vp_in_nI (N := 8) (by omega) (by omega)) (k := k) (nI_clamp (by omega)) dX3_told_109 ?_
                refine lv_aload_n hx hb dX3_told_110 rfl (lv_at hl 2 rfl) ?_
                refine z_get (i := 32) hx hb hts hin3 hown hw (by decide) zG_32 rfl 2 (by decide) (hts (.fieldLink RX3 16 "SeedDrawersModel" "rowOf" "[I") (by decide +kernel)) rfl rfl dX3_told_111 ?_
                refine lv_iload_n hx hb dX3_told_114 rfl (lv_at hl 3 rfl) ?_
                refine y_iald (i := 35) hx hb hw (by decide) (zG_9 (i := 35) (by decide)) (fNo_in (by assumption)) (k := d.toNatClampNeg) rfl dX3_told_115 ?_
                refine lv_icmp_ne (tgt := 123) hx hb dX3_told_116 (by decide) (fun q_8 => ?_) (fun q_8 => ?_)
                · have _ := hx
                  refine lv_iconst (v := 0) hx hb dX3_told_123 (by decide) ?_
                  refine lv_iadd hx hb dX3_told_124 ?_
                  refine lv_istore_n (lv' := [(3, .int (a + 0)), (4, .int (nI k)), (0, .ref (zl E 32)), (1, .int d)]) hx hb dX3_told_125 rfl hl (by decide) rfl (fun ls hl => ?_)
                  refine lv_iinc (v := (nI (k + 1))) (lv' := [(4, .int (nI (k + 1))), (3, .int (a + 0)), (0, .ref (zl E 32)), (1, .int d)]) hx hb dX3_told_126 hl (k := 1) rfl (nI_1 k) (by decide) rfl (fun ls hl => ?_)
                  refine lv_goto (tgt := 74) hx hb dX3_told_129 (by decide) ?_
                  exact ih (k + 1) (a + 0) _ _ _ (by omega) (by omega) (by simpa [tlN, q_6, q_7, q_8] using hR) hw (lv_sub hl [0, 1, 2, 3] rfl)
                · have _ := hx
                  refine lv_iconst (v := 1) hx hb dX3_told_119 (by decide) ?_
                  refine lv_goto (tgt := 124) hx hb dX3_told_120 (by decide) ?_
                  refine lv_iadd hx hb dX3_told_124 ?_
                  refine lv_istore_n (lv' := [(3, .int (a + 1)), (4, .int (nI k)), (0, .ref (zl E 32)), (1, .int d)]) hx hb dX3_told_125 rfl hl (by decide) rfl (fun ls hl => ?_)
                  refine lv_iinc (v := (nI (k + 1))) (lv' := [(4, .int (nI (k + 1))), (3, .int (a + 1)), (0, .ref (zl E 32)), (1, .int d)]) hx hb dX3_told_126 hl (k := 1) rfl (nI_1 k) (by decide) rfl (fun ls hl => ?_)
                  refine lv_goto (tgt := 74) hx hb dX3_told_129 (by decide) ?_
                  exact ih (k + 1) (a + 1) _ _ _ (by omega) (by omega) (by simpa [tlN, q_6, q_7, q_8] using hR) hw (lv_sub hl [0, 1, 2, 3] rfl)
      exact loop74 (8 + 1) 0 0 _ _ _ (by omega) (by omega) rfl hw (lv_sub hl [0, 1, 2, 3] rfl)
    by_cases q_9 : w = 2
    · have _ := hx
      refine lv_tableIn (tgt := 134) hx hb dX3_told_10 (by rw [q_9]; decide) (by rw [q_9]; decide) (by rw [q_9]; rfl) (by decide) ?_
      refine lv_aload_n hx hb dX3_told_134 rfl (lv_at hl 0 rfl) ?_
      refine z_get (i := 32) hx hb hts hin3 hown hw (by decide) zG_32 rfl 0 (by decide) (hts (.fieldLink RX3 7 "SeedDrawersModel" "has" "[I") (by decide +kernel)) rfl rfl dX3_told_135 ?_
      refine lv_iload_n hx hb dX3_told_138 rfl (lv_at hl 1 rfl) ?_
      refine y_iald (i := 33) hx hb hw (by decide) (zG_9 (i := 33) (by decide)) (fNo_in (by assumption)) (k := d.toNatClampNeg) rfl dX3_told_139 ?_
      refine lv_iconst (v := 1) hx hb dX3_told_140 (by decide) ?_
      refine lv_icmp_ne (tgt := 153) hx hb dX3_told_141 (by decide) (fun q_10 => ?_) (fun q_10 => ?_)
      · have _ := hx
        refine lv_iconst (v := 0) hx hb dX3_told_153 (by decide) ?_
        exact z_iret hx hb hr hlocks hw dX3_told_154 (by simp [hTold, q_1, q_2, q_4, q_9, q_10]) rfl rfl
      · have _ := hx
        refine lv_aload_n hx hb dX3_told_144 rfl (lv_at hl 0 rfl) ?_
        refine z_get (i := 32) hx hb hts hin3 hown hw (by decide) zG_32 rfl 1 (by decide) (hts (.fieldLink RX3 13 "SeedDrawersModel" "note" "[I") (by decide +kernel)) rfl rfl dX3_told_145 ?_
        refine lv_iload_n hx hb dX3_told_148 rfl (lv_at hl 1 rfl) ?_
        refine y_iald (i := 34) hx hb hw (by decide) (zG_9 (i := 34) (by decide)) (fNo_in (by assumption)) (k := d.toNatClampNeg) rfl dX3_told_149 ?_
        refine lv_goto (tgt := 154) hx hb dX3_told_150 (by decide) ?_
        exact z_iret hx hb hr hlocks hw dX3_told_154 (by simp [hTold, q_1, q_2, q_4, q_9, q_10]) rfl rfl
    refine lv_tableOut (tgt := 155) hx hb dX3_told_10 (tb_out [0, 1, 2] 0 2 (by decide +kernel) (by simp [q_2, q_4, q_9])) (by decide) ?_
    refine lv_bipush (v := (-2)) hx hb dX3_told_155 (by decide) ?_
    exact z_iret hx hb hr hlocks hw dX3_told_157 (by simp [hTold, q_1, q_2, q_4, q_9]) rfl rfl
  · have _ := hx
    refine lv_iconst (v := (-1)) hx hb dX3_told_7 (by decide) ?_
    exact z_iret hx hb hr hlocks hw dX3_told_8 (by simp [hTold, q_1]) rfl rfl
