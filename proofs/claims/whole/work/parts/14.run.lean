set_option maxHeartbeats 4000000 in
set_option maxRecDepth 100000 in
theorem k_X3_run (l : Launch) (E : zE) (c : zC) (mo : zM)  (hwm : wfM mo) : Met l yX3_run wsX3_run (zR 5 124) (zP E c mo [.ref (zl E 32)]) (cQi E ((qRun mo).1) c ((qRun mo).2)) 0 0 (zA E) := by
  refine z_ent (cc := cX3_run) (maxL := 4) (ret := (some .int)) (vs := [.ref (zl E 32)]) (by decide) rfl (Nat.le_of_ble_eq_true rfl) ?_
  intro p e s m below meth cd ls hx hb hr hml hown hts hlocks hl hw
  have hl : lv_has ls 4 [(0, .ref (zl E 32))] := hl
  have hown : s.vm.findClass RX3 = some m.cls := hown
  have hin3 : ∀ w ∈ u_ws RX3 TX3 18, w ∈ wsX3_run := by decide +kernel
  obtain ⟨nm, hnm1, hnm2, -⟩ := hwm.2.2.1
  have hN : mo.1 32 13 = nI (mo.1 32 13).toNatClampNeg := by rw [hnm2, nI_clamp (by omega)]
  have hN8 : (mo.1 32 13).toNatClampNeg ≤ 8 := by rw [hnm2, nI_clamp (by omega)]; exact hnm1
  refine lv_iconst (v := 0) hx hb dX3_run_0 (by decide) ?_
  refine lv_istore_n (lv' := [(1, .int 0), (0, .ref (zl E 32))]) hx hb dX3_run_1 rfl hl (by decide) rfl (fun ls hl => ?_)
  refine lv_aload_n hx hb dX3_run_2 rfl (lv_at hl 1 rfl) ?_
  refine lv_aload_n hx hb dX3_run_3 rfl (lv_at hl 1 rfl) ?_
  refine z_get (i := 32) hx hb hts hin3 hown hw (by decide) zG_32 rfl 13 (by decide) (hts (.fieldLink RX3 135 "SeedDrawersModel" "orders" "I") (by decide +kernel)) rfl rfl dX3_run_4 ?_
  refine z_put (i := 32) (ty := .int) hx hb hts hin3 tyX3 tyX3_ok nmX3 hown hw (by decide) zG_32 rfl 15 (by decide) (hts (.fieldLink RX3 138 "SeedDrawersModel" "done" "I") (by decide +kernel)) rfl rfl (by decide +kernel) rfl rfl (Nat.le_of_ble_eq_true rfl) (zU32_15 E c mo (mo.1 32 13)) dX3_run_7 (fun H locs hw => ?_)
  refine lv_iconst (v := 0) hx hb dX3_run_10 (by decide) ?_
  refine lv_istore_n (lv' := [(2, .int 0), (1, .int 0), (0, .ref (zl E 32))]) hx hb dX3_run_11 rfl hl (by decide) rfl (fun ls hl => ?_)
  have loop12 : ∀ (n_ : Nat) (k : Nat) (a : Int32) (m1 : zM) (H : Heap) (locs : List Loc) (ls : Array Slot), (mo.1 32 13).toNatClampNeg - k < n_ → (k ≤ (mo.1 32 13).toNatClampNeg) → (wfM m1) → (m1.1 32 13 = mo.1 32 13) → (rnN ((mo.1 32 13).toNatClampNeg - k) k a m1 = rnN (mo.1 32 13).toNatClampNeg 0 0 (tI mo 32 15 (mo.1 32 13))) → zW E c m1 s s.heap H locs → lv_has ls 4 [(2, .int (nI k)), (1, .int a), (0, .ref (zl E 32))] → W p l e (headSpec wsX3_run (zR 5 124)).room s m ([.ref (zl E 32)] : List Value).toArray below meth cd H locs 0 0 (MQ below (cQi E ((qRun mo).1) c ((qRun mo).2)) ([.ref (zl E 32)] : List Value).toArray s 0 0 (zA E)) (F0 m 12 ls []) := by
    intro n_
    induction n_ with
    | zero => intro k a m1 H locs ls hn_; exact absurd hn_ (Nat.not_lt_zero _)
    | succ n_ ih =>
      intro k a m1 H locs ls hn_ hk hw1 hoc hR hw hl
      refine lv_iload_n hx hb dX3_run_12 rfl (lv_at hl 0 rfl) ?_
      refine lv_aload_n hx hb dX3_run_13 rfl (lv_at hl 2 rfl) ?_
      refine z_get (i := 32) hx hb hts hin3 hown hw (by decide) zG_32 rfl 13 (by decide) (hts (.fieldLink RX3 135 "SeedDrawersModel" "orders" "I") (by decide +kernel)) rfl rfl dX3_run_14 ?_
      refine lv_icmp_ge (tgt := 57) hx hb dX3_run_17 (by decide) (fun q_1 => ?_) (fun q_1 => ?_)
      · have _ := hx
        rw [hoc, hN] at q_1
        have hk2 : (mo.1 32 13).toNatClampNeg ≤ k := le_le q_1 (by omega) (by omega)
        rw [show (mo.1 32 13).toNatClampNeg - k = 0 by omega] at hR
        have hR : (a, m1) = rnN (mo.1 32 13).toNatClampNeg 0 0 (tI mo 32 15 (mo.1 32 13)) := hR
        refine lv_aload_n hx hb dX3_run_57 rfl (lv_at hl 2 rfl) ?_
        refine lv_iconst (v := 0) hx hb dX3_run_58 (by decide) ?_
        refine z_put (i := 32) (ty := .int) hx hb hts hin3 tyX3 tyX3_ok nmX3 hown hw (by decide) zG_32 rfl 13 (by decide) (hts (.fieldLink RX3 135 "SeedDrawersModel" "orders" "I") (by decide +kernel)) rfl rfl (by decide +kernel) rfl rfl (Nat.le_of_ble_eq_true rfl) (zU32_13 E c m1 0) dX3_run_59 (fun H locs hw => ?_)
        refine lv_iload_n hx hb dX3_run_62 rfl (lv_at hl 1 rfl) ?_
        exact z_iret hx hb hr hlocks hw dX3_run_63 (by simp [qRun, ← hR]) rfl (by simp [qRun, ← hR])
      · have _ := hx
        rw [hoc, hN] at q_1
        have hk2 : k < (mo.1 32 13).toNatClampNeg := nle_lt q_1 (by omega) (by omega)
        rw [show (mo.1 32 13).toNatClampNeg - k = ((mo.1 32 13).toNatClampNeg - (k + 1)) + 1 by omega] at hR
        refine lv_aload_n hx hb dX3_run_20 rfl (lv_at hl 2 rfl) ?_
        refine lv_iconst (v := 5) hx hb dX3_run_21 (by decide) ?_
        refine lv_iload_n hx hb dX3_run_22 rfl (lv_at hl 0 rfl) ?_
        refine lv_imul hx hb dX3_run_23 ?_
        obtain ⟨ho1, ho2, ho3⟩ := wfM_ord hw1 (k := k) (by rw [hoc]; omega)
        have e5 : (5 * nI k).toNatClampNeg = 5 * k := ix5_k0 rfl ho3
        refine z_calli (rest := []) (va_runV (As := [.int (5 * (nI k))]) (rest := []) ⟨hx, hb, hml, hown, hts⟩ (k_X3_does l E c m1 (5 * (nI k)) (by rw [ix5 rfl]; exact vp_in_nI (by omega) (by decide)) (by rw [e5]; exact ho1) (by rw [e5]; exact ho2) hw1) (cwV 1 hts gX3_run_X3_does rfl rfl rfl (by decide +kernel) ⟨Nat.le_of_ble_eq_true rfl, Nat.le_of_ble_eq_true rfl⟩) (z_preV hw (by decide) zG_32 rfl [.int (5 * (nI k))]) rfl rfl hl.1 rfl (lv_room (Nat.le_of_ble_eq_true rfl)) dX3_run_24 ⟨Nat.le_of_ble_eq_true rfl, Nat.le_of_ble_eq_true rfl⟩) hw (fun H locs hw => ?_)
        rw [e5] at hw ⊢
        refine lv_istore_n (lv' := [(3, .int ((dP m1 (5 * k)).1)), (2, .int (nI k)), (1, .int a), (0, .ref (zl E 32))]) hx hb dX3_run_27 rfl hl (by decide) rfl (fun ls hl => ?_)
        refine lv_aload_n hx hb dX3_run_28 rfl (lv_at hl 3 rfl) ?_
        refine z_get (i := 32) hx hb hts hin3 hown hw (by decide) zG_32 rfl 16 (by decide) (hts (.fieldLink RX3 36 "SeedDrawersModel" "doneFault" "[I") (by decide +kernel)) rfl rfl dX3_run_29 ?_
        refine lv_iload_n hx hb dX3_run_32 rfl (lv_at hl 1 rfl) ?_
        refine lv_iload_n hx hb dX3_run_33 rfl (lv_at hl 0 rfl) ?_
        refine y_iast9 (i := 41) hx hb hw (by decide) (by decide) (vp_in_nI (N := 8) (by omega) (by omega)) (k := k) (nI_clamp (by omega)) dX3_run_34 (fun H locs hw => ?_)
        refine lv_iload_n hx hb dX3_run_35 rfl (lv_at hl 0 rfl) ?_
        refine lv_if_le (tgt := 48) hx hb dX3_run_36 (by decide) (fun q_2 => ?_) (fun q_2 => ?_)
        · have _ := hx
          refine lv_iinc (v := (a + 1)) (lv' := [(1, .int (a + 1)), (3, .int ((dP m1 (5 * k)).1)), (2, .int (nI k)), (0, .ref (zl E 32))]) hx hb dX3_run_48 hl (k := 2) rfl rfl (by decide) rfl (fun ls hl => ?_)
          refine lv_iinc (v := (nI (k + 1))) (lv' := [(2, .int (nI (k + 1))), (1, .int (a + 1)), (3, .int ((dP m1 (5 * k)).1)), (0, .ref (zl E 32))]) hx hb dX3_run_51 hl (k := 2) rfl (nI_1 k) (by decide) rfl (fun ls hl => ?_)
          refine lv_goto (tgt := 12) hx hb dX3_run_54 (by decide) ?_
          exact ih (k + 1) (a + 1) (tI ((dP m1 (5 * k)).2) 41 k ((dP m1 (5 * k)).1)) _ _ _ (by omega) (by omega) (wfM_sm ((dP_5 m1 (5 * k)).2.tr ((Sm.i41 _ _ _))) hw1) (((dP_5 m1 (5 * k)).2.tr ((Sm.i41 _ _ _))).2.2.2.1.trans hoc) (by simpa [rnN, q_2] using hR) hw (lv_sub hl [0, 1, 3] rfl)
        · have _ := hx
          refine lv_aload_n hx hb dX3_run_39 rfl (lv_at hl 3 rfl) ?_
          refine lv_iload_n hx hb dX3_run_40 rfl (lv_at hl 0 rfl) ?_
          refine z_calli (rest := []) (va_runV (As := [.int ((dP m1 (5 * k)).1)]) (rest := []) ⟨hx, hb, hml, hown, hts⟩ (k_X3_met1 l E c (tI ((dP m1 (5 * k)).2) 41 k ((dP m1 (5 * k)).1)) ((dP m1 (5 * k)).1) (dP_5 _ _).1) (cwV 1 hts gX3_run_X3_met1 rfl rfl rfl (by decide +kernel) ⟨Nat.le_of_ble_eq_true rfl, Nat.le_of_ble_eq_true rfl⟩) (z_preV hw (by decide) zG_32 rfl [.int ((dP m1 (5 * k)).1)]) rfl rfl hl.1 rfl (lv_room (Nat.le_of_ble_eq_true rfl)) dX3_run_41 ⟨Nat.le_of_ble_eq_true rfl, Nat.le_of_ble_eq_true rfl⟩) hw (fun H locs hw => ?_)
          refine lv_istore_n (lv' := [(3, .int ((dP m1 (5 * k)).1)), (2, .int (nI k)), (1, .int a), (0, .ref (zl E 32))]) hx hb dX3_run_44 rfl hl (by decide) rfl (fun ls hl => ?_)
          refine lv_goto (tgt := 51) hx hb dX3_run_45 (by decide) ?_
          refine lv_iinc (v := (nI (k + 1))) (lv' := [(2, .int (nI (k + 1))), (3, .int ((dP m1 (5 * k)).1)), (1, .int a), (0, .ref (zl E 32))]) hx hb dX3_run_51 hl (k := 1) rfl (nI_1 k) (by decide) rfl (fun ls hl => ?_)
          refine lv_goto (tgt := 12) hx hb dX3_run_54 (by decide) ?_
          exact ih (k + 1) a (met1 (tI ((dP m1 (5 * k)).2) 41 k ((dP m1 (5 * k)).1)) ((dP m1 (5 * k)).1)) _ _ _ (by omega) (by omega) (wfM_sm ((dP_5 m1 (5 * k)).2.tr ((Sm.i41 _ _ _).tr (Sm_met1 _ _))) hw1) (((dP_5 m1 (5 * k)).2.tr ((Sm.i41 _ _ _).tr (Sm_met1 _ _))).2.2.2.1.trans hoc) (by simpa [rnN, q_2] using hR) hw (lv_sub hl [0, 2, 3] rfl)
  exact loop12 ((mo.1 32 13).toNatClampNeg + 1) 0 0 _ _ _ _ (by omega) (by omega) (wfM_15 hwm) (tI_n (by decide)) rfl hw (lv_sub hl [0, 1, 2] rfl)
