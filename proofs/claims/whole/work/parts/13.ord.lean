set_option maxHeartbeats 4000000 in
set_option maxRecDepth 100000 in
theorem k_X3_order (l : Launch) (E : zE) (c : zC) (mo : zM) (op : Int32) (a : Int32) (i : Int32) (b : Int32) (j : Int32) (hwm : wfM mo) : Met l yX3_order wsX3_order (zR 2 45) (zP E c mo [.ref (zl E 32), .int op, .int a, .int i, .int b, .int j]) (cQi E (hOrd mo op a i b j) c (tOrd mo op a i b j)) 0 0 (zA E) := by
  refine z_ent (cc := cX3_order) (maxL := 7) (ret := (some .int)) (vs := [.ref (zl E 32), .int op, .int a, .int i, .int b, .int j]) (by decide) rfl (Nat.le_of_ble_eq_true rfl) ?_
  intro p e s m below meth cd ls hx hb hr hml hown hts hlocks hl hw
  have hl : lv_has ls 7 [(0, .ref (zl E 32)), (1, .int op), (2, .int a), (3, .int i), (4, .int b), (5, .int j)] := hl
  have hown : s.vm.findClass RX3 = some m.cls := hown
  have hin3 : ∀ w ∈ u_ws RX3 TX3 18, w ∈ wsX3_order := by decide +kernel
  obtain ⟨nm, hnm1, hnm2, -⟩ := hwm.2.2.1
  have hN : mo.1 32 13 = nI (mo.1 32 13).toNatClampNeg := by rw [hnm2, nI_clamp (by omega)]
  have hN8 : ¬ mo.1 32 13 = 8 → (mo.1 32 13).toNatClampNeg < 8 := by
    intro h
    rw [hnm2] at h ⊢
    rw [nI_clamp (by omega)]
    have : ¬ nm = 8 := fun q => h (by rw [q]; rfl)
    omega
  refine lv_iload_n hx hb dX3_order_0 rfl (lv_at hl 2 rfl) ?_
  refine z_calli (rest := []) (va_runS (As := [.int a]) (rest := []) ⟨hx, hb, hml, hown, hts⟩ (k_X3_no l E c mo a ) (va_cwS 1 hts gX3_order_X3_no rfl rfl rfl (by decide +kernel) ⟨Nat.le_of_ble_eq_true rfl, Nat.le_of_ble_eq_true rfl⟩) (z_preS hw [.int a]) rfl rfl hl.1 rfl (lv_room (Nat.le_of_ble_eq_true rfl)) dX3_order_1 ⟨Nat.le_of_ble_eq_true rfl, Nat.le_of_ble_eq_true rfl⟩) hw (fun H locs hw => ?_)
  refine lv_if_ne (tgt := 15) hx hb dX3_order_4 (by decide) (fun q_1 => ?_) (fun q_1 => ?_)
  · have _ := hx
    refine lv_iconst (v := (-1)) hx hb dX3_order_15 (by decide) ?_
    exact z_iret hx hb hr hlocks hw dX3_order_16 (by simp [hOrd, tOrd, wrM, tI_r, tI_s, q_1]) rfl (by simp [hOrd, tOrd, wrM, tI_r, tI_s, q_1])
  · have _ := hx
    refine lv_iload hx hb dX3_order_7 (lv_at hl 4 rfl) ?_
    refine z_calli (rest := []) (va_runS (As := [.int b]) (rest := []) ⟨hx, hb, hml, hown, hts⟩ (k_X3_no l E c mo b ) (va_cwS 1 hts gX3_order_X3_no rfl rfl rfl (by decide +kernel) ⟨Nat.le_of_ble_eq_true rfl, Nat.le_of_ble_eq_true rfl⟩) (z_preS hw [.int b]) rfl rfl hl.1 rfl (lv_room (Nat.le_of_ble_eq_true rfl)) dX3_order_9 ⟨Nat.le_of_ble_eq_true rfl, Nat.le_of_ble_eq_true rfl⟩) hw (fun H locs hw => ?_)
    refine lv_if_eq (tgt := 17) hx hb dX3_order_12 (by decide) (fun q_2 => ?_) (fun q_2 => ?_)
    · have _ := hx
      refine lv_iload_n hx hb dX3_order_17 rfl (lv_at hl 1 rfl) ?_
      refine lv_i2l (v := op.toInt64) hx hb dX3_order_18 rfl ?_
      refine lv_lconst (v := 0) hx hb dX3_order_19 (by decide) ?_
      refine lv_ldc2 (v := 4) hx hb hown (hts (.constantLong RX3 133 (4)) (by decide +kernel)) dX3_order_20 ?_
      refine z_calli (rest := []) (va_runS (As := [.long op.toInt64, .long 0, .long 4]) (rest := []) ⟨hx, hb, hml, hown, hts⟩ (k_X3_beyond l E c mo op.toInt64 0 4 ) (va_cwS 3 hts gX3_order_X3_beyond rfl rfl rfl (by decide +kernel) ⟨Nat.le_of_ble_eq_true rfl, Nat.le_of_ble_eq_true rfl⟩) (z_preS hw [.long op.toInt64, .long 0, .long 4]) rfl rfl hl.1 rfl (lv_room (Nat.le_of_ble_eq_true rfl)) dX3_order_23 ⟨Nat.le_of_ble_eq_true rfl, Nat.le_of_ble_eq_true rfl⟩) hw (fun H locs hw => ?_)
      refine lv_if_ne (tgt := 54) hx hb dX3_order_26 (by decide) (fun q_3 => ?_) (fun q_3 => ?_)
      · have _ := hx
        refine lv_bipush (v := (-2)) hx hb dX3_order_54 (by decide) ?_
        exact z_iret hx hb hr hlocks hw dX3_order_56 (by simp [hOrd, tOrd, wrM, tI_r, tI_s, q_1, q_2, q_3]) rfl (by simp [hOrd, tOrd, wrM, tI_r, tI_s, q_1, q_2, q_3])
      · have _ := hx
        refine lv_iload_n hx hb dX3_order_29 rfl (lv_at hl 3 rfl) ?_
        refine lv_i2l (v := i.toInt64) hx hb dX3_order_30 rfl ?_
        refine lv_lconst (v := 0) hx hb dX3_order_31 (by decide) ?_
        refine lv_ldc2 (v := 20) hx hb hown (hts (.constantLong RX3 120 (20)) (by decide +kernel)) dX3_order_32 ?_
        refine z_calli (rest := []) (va_runS (As := [.long i.toInt64, .long 0, .long 20]) (rest := []) ⟨hx, hb, hml, hown, hts⟩ (k_X3_beyond l E c mo i.toInt64 0 20 ) (va_cwS 3 hts gX3_order_X3_beyond rfl rfl rfl (by decide +kernel) ⟨Nat.le_of_ble_eq_true rfl, Nat.le_of_ble_eq_true rfl⟩) (z_preS hw [.long i.toInt64, .long 0, .long 20]) rfl rfl hl.1 rfl (lv_room (Nat.le_of_ble_eq_true rfl)) dX3_order_35 ⟨Nat.le_of_ble_eq_true rfl, Nat.le_of_ble_eq_true rfl⟩) hw (fun H locs hw => ?_)
        refine lv_if_ne (tgt := 54) hx hb dX3_order_38 (by decide) (fun q_4 => ?_) (fun q_4 => ?_)
        · have _ := hx
          refine lv_bipush (v := (-2)) hx hb dX3_order_54 (by decide) ?_
          exact z_iret hx hb hr hlocks hw dX3_order_56 (by simp [hOrd, tOrd, wrM, tI_r, tI_s, q_1, q_2, q_3, q_4]) rfl (by simp [hOrd, tOrd, wrM, tI_r, tI_s, q_1, q_2, q_3, q_4])
        · have _ := hx
          refine lv_iload hx hb dX3_order_41 (lv_at hl 5 rfl) ?_
          refine lv_i2l (v := j.toInt64) hx hb dX3_order_43 rfl ?_
          refine lv_lconst (v := 0) hx hb dX3_order_44 (by decide) ?_
          refine lv_ldc2 (v := 20) hx hb hown (hts (.constantLong RX3 120 (20)) (by decide +kernel)) dX3_order_45 ?_
          refine z_calli (rest := []) (va_runS (As := [.long j.toInt64, .long 0, .long 20]) (rest := []) ⟨hx, hb, hml, hown, hts⟩ (k_X3_beyond l E c mo j.toInt64 0 20 ) (va_cwS 3 hts gX3_order_X3_beyond rfl rfl rfl (by decide +kernel) ⟨Nat.le_of_ble_eq_true rfl, Nat.le_of_ble_eq_true rfl⟩) (z_preS hw [.long j.toInt64, .long 0, .long 20]) rfl rfl hl.1 rfl (lv_room (Nat.le_of_ble_eq_true rfl)) dX3_order_48 ⟨Nat.le_of_ble_eq_true rfl, Nat.le_of_ble_eq_true rfl⟩) hw (fun H locs hw => ?_)
          refine lv_if_eq (tgt := 57) hx hb dX3_order_51 (by decide) (fun q_5 => ?_) (fun q_5 => ?_)
          · have _ := hx
            refine lv_aload_n hx hb dX3_order_57 rfl (lv_at hl 0 rfl) ?_
            refine z_get (i := 32) hx hb hts hin3 hown hw (by decide) zG_32 rfl 13 (by decide) (hts (.fieldLink RX3 135 "SeedDrawersModel" "orders" "I") (by decide +kernel)) rfl rfl dX3_order_58 ?_
            refine lv_bipush (v := 8) hx hb dX3_order_61 (by decide) ?_
            refine lv_icmp_ne (tgt := 69) hx hb dX3_order_63 (by decide) (fun q_6 => ?_) (fun q_6 => ?_)
            · have _ := hx
              refine lv_iconst (v := 5) hx hb dX3_order_69 (by decide) ?_
              refine lv_aload_n hx hb dX3_order_70 rfl (lv_at hl 0 rfl) ?_
              refine z_get (i := 32) hx hb hts hin3 hown hw (by decide) zG_32 rfl 13 (by decide) (hts (.fieldLink RX3 135 "SeedDrawersModel" "orders" "I") (by decide +kernel)) rfl rfl dX3_order_71 ?_
              refine lv_imul hx hb dX3_order_74 ?_
              refine lv_istore (lv' := [(6, .int (5 * (mo.1 32 13))), (0, .ref (zl E 32)), (1, .int op), (2, .int a), (3, .int i), (4, .int b), (5, .int j)]) hx hb dX3_order_75 hl (by decide) rfl (fun ls hl => ?_)
              refine lv_aload_n hx hb dX3_order_77 rfl (lv_at hl 1 rfl) ?_
              refine z_get (i := 32) hx hb hts hin3 hown hw (by decide) zG_32 rfl 14 (by decide) (hts (.fieldLink RX3 33 "SeedDrawersModel" "orderOf" "[I") (by decide +kernel)) rfl rfl dX3_order_78 ?_
              refine lv_iload hx hb dX3_order_81 (lv_at hl 0 rfl) ?_
              refine lv_iload_n hx hb dX3_order_83 rfl (lv_at hl 2 rfl) ?_
              refine y_iast9 (i := 40) hx hb hw (by decide) (by decide) (ix5_in0 hN (hN8 (by assumption))) (k := (5 * (mo.1 32 13).toNatClampNeg)) (ix5_k0 hN (hN8 (by assumption))) dX3_order_84 (fun H locs hw => ?_)
              refine lv_aload_n hx hb dX3_order_85 rfl (lv_at hl 1 rfl) ?_
              refine z_get (i := 32) hx hb hts hin3 hown hw (by decide) zG_32 rfl 14 (by decide) (hts (.fieldLink RX3 33 "SeedDrawersModel" "orderOf" "[I") (by decide +kernel)) rfl rfl dX3_order_86 ?_
              refine lv_iload hx hb dX3_order_89 (lv_at hl 0 rfl) ?_
              refine lv_iconst (v := 1) hx hb dX3_order_91 (by decide) ?_
              refine lv_iadd hx hb dX3_order_92 ?_
              refine lv_iload_n hx hb dX3_order_93 rfl (lv_at hl 3 rfl) ?_
              refine y_iast9 (i := 40) hx hb hw (by decide) (by decide) (ix5_in (q := 1) hN (hN8 (by assumption)) (by decide) rfl) (k := (5 * (mo.1 32 13).toNatClampNeg + 1)) (ix5_k (q := 1) hN (hN8 (by assumption)) (by decide) rfl) dX3_order_94 (fun H locs hw => ?_)
              refine lv_aload_n hx hb dX3_order_95 rfl (lv_at hl 1 rfl) ?_
              refine z_get (i := 32) hx hb hts hin3 hown hw (by decide) zG_32 rfl 14 (by decide) (hts (.fieldLink RX3 33 "SeedDrawersModel" "orderOf" "[I") (by decide +kernel)) rfl rfl dX3_order_96 ?_
              refine lv_iload hx hb dX3_order_99 (lv_at hl 0 rfl) ?_
              refine lv_iconst (v := 2) hx hb dX3_order_101 (by decide) ?_
              refine lv_iadd hx hb dX3_order_102 ?_
              refine lv_iload_n hx hb dX3_order_103 rfl (lv_at hl 4 rfl) ?_
              refine y_iast9 (i := 40) hx hb hw (by decide) (by decide) (ix5_in (q := 2) hN (hN8 (by assumption)) (by decide) rfl) (k := (5 * (mo.1 32 13).toNatClampNeg + 2)) (ix5_k (q := 2) hN (hN8 (by assumption)) (by decide) rfl) dX3_order_104 (fun H locs hw => ?_)
              refine lv_aload_n hx hb dX3_order_105 rfl (lv_at hl 1 rfl) ?_
              refine z_get (i := 32) hx hb hts hin3 hown hw (by decide) zG_32 rfl 14 (by decide) (hts (.fieldLink RX3 33 "SeedDrawersModel" "orderOf" "[I") (by decide +kernel)) rfl rfl dX3_order_106 ?_
              refine lv_iload hx hb dX3_order_109 (lv_at hl 0 rfl) ?_
              refine lv_iconst (v := 3) hx hb dX3_order_111 (by decide) ?_
              refine lv_iadd hx hb dX3_order_112 ?_
              refine lv_iload hx hb dX3_order_113 (lv_at hl 5 rfl) ?_
              refine y_iast9 (i := 40) hx hb hw (by decide) (by decide) (ix5_in (q := 3) hN (hN8 (by assumption)) (by decide) rfl) (k := (5 * (mo.1 32 13).toNatClampNeg + 3)) (ix5_k (q := 3) hN (hN8 (by assumption)) (by decide) rfl) dX3_order_115 (fun H locs hw => ?_)
              refine lv_aload_n hx hb dX3_order_116 rfl (lv_at hl 1 rfl) ?_
              refine z_get (i := 32) hx hb hts hin3 hown hw (by decide) zG_32 rfl 14 (by decide) (hts (.fieldLink RX3 33 "SeedDrawersModel" "orderOf" "[I") (by decide +kernel)) rfl rfl dX3_order_117 ?_
              refine lv_iload hx hb dX3_order_120 (lv_at hl 0 rfl) ?_
              refine lv_iconst (v := 4) hx hb dX3_order_122 (by decide) ?_
              refine lv_iadd hx hb dX3_order_123 ?_
              refine lv_iload hx hb dX3_order_124 (lv_at hl 6 rfl) ?_
              refine y_iast9 (i := 40) hx hb hw (by decide) (by decide) (ix5_in (q := 4) hN (hN8 (by assumption)) (by decide) rfl) (k := (5 * (mo.1 32 13).toNatClampNeg + 4)) (ix5_k (q := 4) hN (hN8 (by assumption)) (by decide) rfl) dX3_order_126 (fun H locs hw => ?_)
              refine lv_aload_n hx hb dX3_order_127 rfl (lv_at hl 1 rfl) ?_
              refine lv_dup hx hb dX3_order_128 rfl ?_
              refine z_get (i := 32) hx hb hts hin3 hown hw (by decide) zG_32 rfl 13 (by decide) (hts (.fieldLink RX3 135 "SeedDrawersModel" "orders" "I") (by decide +kernel)) rfl rfl dX3_order_129 ?_
              refine lv_iconst (v := 1) hx hb dX3_order_132 (by decide) ?_
              refine lv_iadd hx hb dX3_order_133 ?_
              refine z_put (i := 32) (ty := .int) hx hb hts hin3 tyX3 tyX3_ok nmX3 hown hw (by decide) zG_32 rfl 13 (by decide) (hts (.fieldLink RX3 135 "SeedDrawersModel" "orders" "I") (by decide +kernel)) rfl rfl (by decide +kernel) rfl rfl (Nat.le_of_ble_eq_true rfl) (zU32_13 E c (tI (tI (tI (tI (tI mo 40 (5 * (mo.1 32 13).toNatClampNeg) op) 40 (5 * (mo.1 32 13).toNatClampNeg + 1) a) 40 (5 * (mo.1 32 13).toNatClampNeg + 2) i) 40 (5 * (mo.1 32 13).toNatClampNeg + 3) b) 40 (5 * (mo.1 32 13).toNatClampNeg + 4) j) (((tI (tI (tI (tI (tI mo 40 (5 * (mo.1 32 13).toNatClampNeg) op) 40 (5 * (mo.1 32 13).toNatClampNeg + 1) a) 40 (5 * (mo.1 32 13).toNatClampNeg + 2) i) 40 (5 * (mo.1 32 13).toNatClampNeg + 3) b) 40 (5 * (mo.1 32 13).toNatClampNeg + 4) j).1 32 13) + 1)) dX3_order_134 (fun H locs hw => ?_)
              refine lv_aload_n hx hb dX3_order_137 rfl (lv_at hl 1 rfl) ?_
              refine z_get (i := 32) hx hb hts hin3 hown hw (by decide) zG_32 rfl 13 (by decide) (hts (.fieldLink RX3 135 "SeedDrawersModel" "orders" "I") (by decide +kernel)) rfl rfl dX3_order_138 ?_
              exact z_iret hx hb hr hlocks hw dX3_order_141 (by simp [hOrd, tOrd, wrM, tI_r, tI_s, q_1, q_2, q_3, q_4, q_5, q_6]) rfl (by simp [hOrd, tOrd, wrM, tI_r, tI_s, q_1, q_2, q_3, q_4, q_5, q_6])
            · have _ := hx
              refine lv_bipush (v := (-3)) hx hb dX3_order_66 (by decide) ?_
              exact z_iret hx hb hr hlocks hw dX3_order_68 (by simp [hOrd, tOrd, wrM, tI_r, tI_s, q_1, q_2, q_3, q_4, q_5, q_6]) rfl (by simp [hOrd, tOrd, wrM, tI_r, tI_s, q_1, q_2, q_3, q_4, q_5, q_6])
          · have _ := hx
            refine lv_bipush (v := (-2)) hx hb dX3_order_54 (by decide) ?_
            exact z_iret hx hb hr hlocks hw dX3_order_56 (by simp [hOrd, tOrd, wrM, tI_r, tI_s, q_1, q_2, q_3, q_4, q_5]) rfl (by simp [hOrd, tOrd, wrM, tI_r, tI_s, q_1, q_2, q_3, q_4, q_5])
    · have _ := hx
      refine lv_iconst (v := (-1)) hx hb dX3_order_15 (by decide) ?_
      exact z_iret hx hb hr hlocks hw dX3_order_16 (by simp [hOrd, tOrd, wrM, tI_r, tI_s, q_1, q_2]) rfl (by simp [hOrd, tOrd, wrM, tI_r, tI_s, q_1, q_2])
set_option maxHeartbeats 4000000 in
set_option maxRecDepth 100000 in
theorem k_X3_does (l : Launch) (E : zE) (c : zC) (mo : zM) (pp : Int32) (hp : vp_in pp 36) (hA : vp_in (mo.1 40 (pp.toNatClampNeg + 1)) 8) (hB : vp_in (mo.1 40 (pp.toNatClampNeg + 3)) 8) (hwm : wfM mo) : Met l yX3_does wsX3_does (zR 4 99) (zP E c mo [.ref (zl E 32), .int pp]) (cQi E ((dP mo pp.toNatClampNeg).1) c ((dP mo pp.toNatClampNeg).2)) 0 0 (zA E) := by
  refine z_ent (cc := cX3_does) (maxL := 6) (ret := (some .int)) (vs := [.ref (zl E 32), .int pp]) (by decide) rfl (Nat.le_of_ble_eq_true rfl) ?_
  intro p e s m below meth cd ls hx hb hr hml hown hts hlocks hl hw
  have hl : lv_has ls 6 [(0, .ref (zl E 32)), (1, .int pp)] := hl
  have hown : s.vm.findClass RX3 = some m.cls := hown
  have hin3 : ∀ w ∈ u_ws RX3 TX3 18, w ∈ wsX3_does := by decide +kernel
  refine lv_aload_n hx hb dX3_does_0 rfl (lv_at hl 0 rfl) ?_
  refine z_get (i := 32) hx hb hts hin3 hown hw (by decide) zG_32 rfl 14 (by decide) (hts (.fieldLink RX3 33 "SeedDrawersModel" "orderOf" "[I") (by decide +kernel)) rfl rfl dX3_does_1 ?_
  refine lv_iload_n hx hb dX3_does_4 rfl (lv_at hl 1 rfl) ?_
  refine lv_iconst (v := 1) hx hb dX3_does_5 (by decide) ?_
  refine lv_iadd hx hb dX3_does_6 ?_
  refine y_iald (i := 40) hx hb hw (by decide) (zG_9 (i := 40) (by decide)) (pp_in (q := 1) hp (by decide) rfl) (k := (pp.toNatClampNeg + 1)) (pp_k (q := 1) hp (by decide) rfl) dX3_does_7 ?_
  refine lv_istore_n (lv' := [(2, .int (mo.1 40 (pp.toNatClampNeg + 1))), (0, .ref (zl E 32)), (1, .int pp)]) hx hb dX3_does_8 rfl hl (by decide) rfl (fun ls hl => ?_)
  refine lv_aload_n hx hb dX3_does_9 rfl (lv_at hl 1 rfl) ?_
  refine z_get (i := 32) hx hb hts hin3 hown hw (by decide) zG_32 rfl 14 (by decide) (hts (.fieldLink RX3 33 "SeedDrawersModel" "orderOf" "[I") (by decide +kernel)) rfl rfl dX3_does_10 ?_
  refine lv_iload_n hx hb dX3_does_13 rfl (lv_at hl 2 rfl) ?_
  refine lv_iconst (v := 2) hx hb dX3_does_14 (by decide) ?_
  refine lv_iadd hx hb dX3_does_15 ?_
  refine y_iald (i := 40) hx hb hw (by decide) (zG_9 (i := 40) (by decide)) (pp_in (q := 2) hp (by decide) rfl) (k := (pp.toNatClampNeg + 2)) (pp_k (q := 2) hp (by decide) rfl) dX3_does_16 ?_
  refine lv_istore_n (lv' := [(3, .int (mo.1 40 (pp.toNatClampNeg + 2))), (2, .int (mo.1 40 (pp.toNatClampNeg + 1))), (0, .ref (zl E 32)), (1, .int pp)]) hx hb dX3_does_17 rfl hl (by decide) rfl (fun ls hl => ?_)
  refine lv_aload_n hx hb dX3_does_18 rfl (lv_at hl 2 rfl) ?_
  refine z_get (i := 32) hx hb hts hin3 hown hw (by decide) zG_32 rfl 14 (by decide) (hts (.fieldLink RX3 33 "SeedDrawersModel" "orderOf" "[I") (by decide +kernel)) rfl rfl dX3_does_19 ?_
  refine lv_iload_n hx hb dX3_does_22 rfl (lv_at hl 3 rfl) ?_
  refine lv_iconst (v := 3) hx hb dX3_does_23 (by decide) ?_
  refine lv_iadd hx hb dX3_does_24 ?_
  refine y_iald (i := 40) hx hb hw (by decide) (zG_9 (i := 40) (by decide)) (pp_in (q := 3) hp (by decide) rfl) (k := (pp.toNatClampNeg + 3)) (pp_k (q := 3) hp (by decide) rfl) dX3_does_25 ?_
  refine lv_istore (lv' := [(4, .int (mo.1 40 (pp.toNatClampNeg + 3))), (3, .int (mo.1 40 (pp.toNatClampNeg + 2))), (2, .int (mo.1 40 (pp.toNatClampNeg + 1))), (0, .ref (zl E 32)), (1, .int pp)]) hx hb dX3_does_26 hl (by decide) rfl (fun ls hl => ?_)
  refine lv_aload_n hx hb dX3_does_28 rfl (lv_at hl 3 rfl) ?_
  refine z_get (i := 32) hx hb hts hin3 hown hw (by decide) zG_32 rfl 14 (by decide) (hts (.fieldLink RX3 33 "SeedDrawersModel" "orderOf" "[I") (by decide +kernel)) rfl rfl dX3_does_29 ?_
  refine lv_iload_n hx hb dX3_does_32 rfl (lv_at hl 4 rfl) ?_
  refine lv_iconst (v := 4) hx hb dX3_does_33 (by decide) ?_
  refine lv_iadd hx hb dX3_does_34 ?_
  refine y_iald (i := 40) hx hb hw (by decide) (zG_9 (i := 40) (by decide)) (pp_in (q := 4) hp (by decide) rfl) (k := (pp.toNatClampNeg + 4)) (pp_k (q := 4) hp (by decide) rfl) dX3_does_35 ?_
  refine lv_istore (lv' := [(5, .int (mo.1 40 (pp.toNatClampNeg + 4))), (4, .int (mo.1 40 (pp.toNatClampNeg + 3))), (3, .int (mo.1 40 (pp.toNatClampNeg + 2))), (2, .int (mo.1 40 (pp.toNatClampNeg + 1))), (0, .ref (zl E 32)), (1, .int pp)]) hx hb dX3_does_36 hl (by decide) rfl (fun ls hl => ?_)
  refine lv_aload_n hx hb dX3_does_38 rfl (lv_at hl 4 rfl) ?_
  refine z_get (i := 32) hx hb hts hin3 hown hw (by decide) zG_32 rfl 14 (by decide) (hts (.fieldLink RX3 33 "SeedDrawersModel" "orderOf" "[I") (by decide +kernel)) rfl rfl dX3_does_39 ?_
  refine lv_iload_n hx hb dX3_does_42 rfl (lv_at hl 5 rfl) ?_
  refine y_iald (i := 40) hx hb hw (by decide) (zG_9 (i := 40) (by decide)) (in_mono hp (by decide)) (k := pp.toNatClampNeg) rfl dX3_does_43 ?_
  by_cases q_1 : (mo.1 40 pp.toNatClampNeg) = 0
  · have _ := hx
    refine lv_tableIn (tgt := 76) hx hb dX3_does_44 (by rw [q_1]; decide) (by rw [q_1]; decide) (by rw [q_1]; rfl) (by decide) ?_
    refine lv_aload_n hx hb dX3_does_76 rfl (lv_at hl 4 rfl) ?_
    refine lv_iload_n hx hb dX3_does_77 rfl (lv_at hl 3 rfl) ?_
    refine lv_iload_n hx hb dX3_does_78 rfl (lv_at hl 2 rfl) ?_
    refine z_calli (rest := []) (va_runV (As := [.int (mo.1 40 (pp.toNatClampNeg + 1)), .int (mo.1 40 (pp.toNatClampNeg + 2))]) (rest := []) ⟨hx, hb, hml, hown, hts⟩ (k_X3_taking l E c mo (mo.1 40 (pp.toNatClampNeg + 1)) (mo.1 40 (pp.toNatClampNeg + 2)) hA hwm) (cwV 2 hts gX3_does_X3_taking rfl rfl rfl (by decide +kernel) ⟨Nat.le_of_ble_eq_true rfl, Nat.le_of_ble_eq_true rfl⟩) (z_preV hw (by decide) zG_32 rfl [.int (mo.1 40 (pp.toNatClampNeg + 1)), .int (mo.1 40 (pp.toNatClampNeg + 2))]) rfl rfl hl.1 rfl (lv_room (Nat.le_of_ble_eq_true rfl)) dX3_does_79 ⟨Nat.le_of_ble_eq_true rfl, Nat.le_of_ble_eq_true rfl⟩) hw (fun H locs hw => ?_)
    exact z_iret hx hb hr hlocks hw dX3_does_82 (by simp [dP, q_1]) rfl (by simp [dP, q_1])
  by_cases q_2 : (mo.1 40 pp.toNatClampNeg) = 1
  · have _ := hx
    refine lv_tableIn (tgt := 83) hx hb dX3_does_44 (by rw [q_2]; decide) (by rw [q_2]; decide) (by rw [q_2]; rfl) (by decide) ?_
    refine lv_aload_n hx hb dX3_does_83 rfl (lv_at hl 4 rfl) ?_
    refine z_get (i := 32) hx hb hts hin3 hown hw (by decide) zG_32 rfl 7 (by decide) (hts (.fieldLink RX3 66 "SeedDrawersModel" "holds" "Z") (by decide +kernel)) rfl rfl dX3_does_84 ?_
    refine lv_if_eq (tgt := 101) hx hb dX3_does_87 (by decide) (fun q_3 => ?_) (fun q_3 => ?_)
    · have _ := hx
      refine lv_iconst (v := 0) hx hb dX3_does_101 (by decide) ?_
      exact z_iret hx hb hr hlocks hw dX3_does_102 (by simp [dP, q_1, q_2, q_3]) rfl (by simp [dP, q_1, q_2, q_3])
    · have _ := hx
      refine lv_aload_n hx hb dX3_does_90 rfl (lv_at hl 4 rfl) ?_
      refine lv_iload hx hb dX3_does_91 (lv_at hl 1 rfl) ?_
      refine lv_iload hx hb dX3_does_93 (lv_at hl 0 rfl) ?_
      refine z_calli (rest := []) (va_runV (As := [.int (mo.1 40 (pp.toNatClampNeg + 3)), .int (mo.1 40 (pp.toNatClampNeg + 4))]) (rest := []) ⟨hx, hb, hml, hown, hts⟩ (k_X3_puts l E c mo (mo.1 40 (pp.toNatClampNeg + 3)) (mo.1 40 (pp.toNatClampNeg + 4)) hB hwm) (cwV 2 hts gX3_does_X3_puts rfl rfl rfl (by decide +kernel) ⟨Nat.le_of_ble_eq_true rfl, Nat.le_of_ble_eq_true rfl⟩) (z_preV hw (by decide) zG_32 rfl [.int (mo.1 40 (pp.toNatClampNeg + 3)), .int (mo.1 40 (pp.toNatClampNeg + 4))]) rfl rfl hl.1 rfl (lv_room (Nat.le_of_ble_eq_true rfl)) dX3_does_95 ⟨Nat.le_of_ble_eq_true rfl, Nat.le_of_ble_eq_true rfl⟩) hw (fun H locs hw => ?_)
      refine lv_goto (tgt := 102) hx hb dX3_does_98 (by decide) ?_
      exact z_iret hx hb hr hlocks hw dX3_does_102 (by simp [dP, q_1, q_2, q_3]) rfl (by simp [dP, q_1, q_2, q_3])
  by_cases q_4 : (mo.1 40 pp.toNatClampNeg) = 2
  · have _ := hx
    refine lv_tableIn (tgt := 103) hx hb dX3_does_44 (by rw [q_4]; decide) (by rw [q_4]; decide) (by rw [q_4]; rfl) (by decide) ?_
    refine lv_aload_n hx hb dX3_does_103 rfl (lv_at hl 4 rfl) ?_
    refine lv_iload_n hx hb dX3_does_104 rfl (lv_at hl 3 rfl) ?_
    refine lv_iload_n hx hb dX3_does_105 rfl (lv_at hl 2 rfl) ?_
    refine lv_iload hx hb dX3_does_106 (lv_at hl 1 rfl) ?_
    refine lv_iload hx hb dX3_does_108 (lv_at hl 0 rfl) ?_
    refine z_calli (rest := []) (va_runV (As := [.int (mo.1 40 (pp.toNatClampNeg + 1)), .int (mo.1 40 (pp.toNatClampNeg + 2)), .int (mo.1 40 (pp.toNatClampNeg + 3)), .int (mo.1 40 (pp.toNatClampNeg + 4))]) (rest := []) ⟨hx, hb, hml, hown, hts⟩ (k_X3_swaps l E c mo (mo.1 40 (pp.toNatClampNeg + 1)) (mo.1 40 (pp.toNatClampNeg + 2)) (mo.1 40 (pp.toNatClampNeg + 3)) (mo.1 40 (pp.toNatClampNeg + 4)) hA hB hwm) (cwV 4 hts gX3_does_X3_swaps rfl rfl rfl (by decide +kernel) ⟨Nat.le_of_ble_eq_true rfl, Nat.le_of_ble_eq_true rfl⟩) (z_preV hw (by decide) zG_32 rfl [.int (mo.1 40 (pp.toNatClampNeg + 1)), .int (mo.1 40 (pp.toNatClampNeg + 2)), .int (mo.1 40 (pp.toNatClampNeg + 3)), .int (mo.1 40 (pp.toNatClampNeg + 4))]) rfl rfl hl.1 rfl (lv_room (Nat.le_of_ble_eq_true rfl)) dX3_does_110 ⟨Nat.le_of_ble_eq_true rfl, Nat.le_of_ble_eq_true rfl⟩) hw (fun H locs hw => ?_)
    exact z_iret hx hb hr hlocks hw dX3_does_113 (by simp [dP, q_1, q_2, q_4]) rfl (by simp [dP, q_1, q_2, q_4])
  by_cases q_5 : (mo.1 40 pp.toNatClampNeg) = 3
  · have _ := hx
    refine lv_tableIn (tgt := 114) hx hb dX3_does_44 (by rw [q_5]; decide) (by rw [q_5]; decide) (by rw [q_5]; rfl) (by decide) ?_
    refine lv_aload_n hx hb dX3_does_114 rfl (lv_at hl 4 rfl) ?_
    refine lv_iload_n hx hb dX3_does_115 rfl (lv_at hl 3 rfl) ?_
    refine z_calli (rest := []) (va_runV (As := [.int (mo.1 40 (pp.toNatClampNeg + 1))]) (rest := []) ⟨hx, hb, hml, hown, hts⟩ (k_X3_turns l E c mo (mo.1 40 (pp.toNatClampNeg + 1)) hA hwm) (cwV 1 hts gX3_does_X3_turns rfl rfl rfl (by decide +kernel) ⟨Nat.le_of_ble_eq_true rfl, Nat.le_of_ble_eq_true rfl⟩) (z_preV hw (by decide) zG_32 rfl [.int (mo.1 40 (pp.toNatClampNeg + 1))]) rfl rfl hl.1 rfl (lv_room (Nat.le_of_ble_eq_true rfl)) dX3_does_116 ⟨Nat.le_of_ble_eq_true rfl, Nat.le_of_ble_eq_true rfl⟩) hw (fun H locs hw => ?_)
    exact z_iret hx hb hr hlocks hw dX3_does_119 (by simp [dP, q_1, q_2, q_4, q_5]) rfl (by simp [dP, q_1, q_2, q_4, q_5])
  refine lv_tableOut (tgt := 120) hx hb dX3_does_44 (tb_out [0, 1, 2, 3] 0 3 (by decide +kernel) (by simp [q_1, q_2, q_4, q_5])) (by decide) ?_
  refine lv_aload_n hx hb dX3_does_120 rfl (lv_at hl 4 rfl) ?_
  refine lv_iload_n hx hb dX3_does_121 rfl (lv_at hl 3 rfl) ?_
  refine lv_iload_n hx hb dX3_does_122 rfl (lv_at hl 2 rfl) ?_
  refine lv_iload hx hb dX3_does_123 (lv_at hl 1 rfl) ?_
  refine lv_iload hx hb dX3_does_125 (lv_at hl 0 rfl) ?_
  refine lv_iconst (v := 3) hx hb dX3_does_127 (by decide) ?_
  refine z_calli (rest := []) (va_runV (As := [.int (mo.1 40 (pp.toNatClampNeg + 1)), .int (mo.1 40 (pp.toNatClampNeg + 2)), .int (mo.1 40 (pp.toNatClampNeg + 3)), .int (mo.1 40 (pp.toNatClampNeg + 4)), .int 3]) (rest := []) ⟨hx, hb, hml, hown, hts⟩ (k_X3_pours l E c mo (mo.1 40 (pp.toNatClampNeg + 1)) (mo.1 40 (pp.toNatClampNeg + 2)) (mo.1 40 (pp.toNatClampNeg + 3)) (mo.1 40 (pp.toNatClampNeg + 4)) 3 hA hB hwm (vp_in_iff.mpr (by decide))) (cwV 5 hts gX3_does_X3_pours rfl rfl rfl (by decide +kernel) ⟨Nat.le_of_ble_eq_true rfl, Nat.le_of_ble_eq_true rfl⟩) (z_preV hw (by decide) zG_32 rfl [.int (mo.1 40 (pp.toNatClampNeg + 1)), .int (mo.1 40 (pp.toNatClampNeg + 2)), .int (mo.1 40 (pp.toNatClampNeg + 3)), .int (mo.1 40 (pp.toNatClampNeg + 4)), .int 3]) rfl rfl hl.1 rfl (lv_room (Nat.le_of_ble_eq_true rfl)) dX3_does_128 ⟨Nat.le_of_ble_eq_true rfl, Nat.le_of_ble_eq_true rfl⟩) hw (fun H locs hw => ?_)
  exact z_iret hx hb hr hlocks hw dX3_does_131 (by simp [dP, q_1, q_2, q_4, q_5]) rfl (by simp [dP, q_1, q_2, q_4, q_5])
