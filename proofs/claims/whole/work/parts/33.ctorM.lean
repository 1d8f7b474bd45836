def pM (y : Nat → ClassId) (loc : Nat → Nat) (g : Nat → va_E) (b0 : Nat) (u : (Nat → Nat) × (Nat → va_E)) : Prop := (∀ i, i < 32 → u.1 i = loc i ∧ u.2 i = g i) ∧ (u.1 32 = b0) ∧ (u.2 32 = .inr (3, [.ref (u.1 33), .ref (u.1 34), .ref (u.1 35), .int 0, .ref (u.1 36), .ref (u.1 37), .ref (u.1 38), .int 0, .int 0, .long 0, .int 0, .int 0, .ref (u.1 39), .int 0, .ref (u.1 40), .int 0, .ref (u.1 41), .int 0])) ∧ (u.2 33 = .inl (y 0, 8, .inl (fun _ => 0))) ∧ (u.2 34 = .inl (y 0, 8, .inl (fun _ => 0))) ∧ (u.2 35 = .inl (y 0, 8, .inl (fun _ => 0))) ∧ (u.2 36 = .inl (y 0, 5000, .inl (fun _ => 0))) ∧ (u.2 37 = .inl (y 0, 5000, .inl (fun _ => 0))) ∧ (u.2 38 = .inl (y 1, 60000, .inr (.inl (fun _ => 0)))) ∧ (u.2 39 = .inl (y 0, 5, .inl (fun _ => 0))) ∧ (u.2 40 = .inl (y 0, 40, .inl (fun _ => 0))) ∧ (u.2 41 = .inl (y 0, 8, .inl (fun _ => 0)))
set_option maxHeartbeats 4000000 in
set_option maxRecDepth 100000 in
theorem k_X3_init (l : Launch) (D : va_G) (y : Nat → ClassId) (z : Nat) (loc : Nat → Nat) (g : Nat → va_E) (b0 : Nat) : Met l yX3_init wsX3_init ({ frames := 1, cells := 9, slots := 70077, locals := 12 }) (vP D y z (va_up loc 32 b0) (va_up g 32 (.inr (3, [.null, .null, .null, .int 0, .null, .null, .null, .int 0, .int 0, .long 0, .int 0, .int 0, .null, .int 0, .null, .int 0, .null, .int 0]))) 33 [.ref b0]) (va_Qv (pM y loc g b0) (fun u t => vI D y z u.1 u.2 42 t t.heap) (fun q => z ≤ q)) 9 70077 (fun q => z ≤ q) := by
  refine v_ent (cc := cX3_init) (maxL := 1) (ret := none) (vs := [.ref b0]) (by decide) rfl (Nat.le_of_ble_eq_true rfl) ?_
  intro p e s m below meth cd ls hx hb hr hml hown hts hlocks hnm hl hw
  have hl : lv_has ls 1 [(0, .ref b0)] := hl
  have hown : s.vm.findClass RX3 = some m.cls := hown
  have hin3 : ∀ w ∈ u_ws RX3 TX3 18, w ∈ wsX3_init := by decide +kernel
  refine lv_aload_n hx hb dX3_init_0 rfl (lv_at hl 0 rfl) ?_
  refine W.objInit hx hb hown (hts (.methodLink RX3 1 objectInit) (by decide +kernel)) (hts (.instanceMethod objectInit) (by decide +kernel)) (hts _ (List.mem_of_getElem? (i := 3) rfl)) rfl (by rw [hml]; exact hl.1) rfl dX3_init_1 (Nat.le_of_ble_eq_true rfl) (Nat.le_of_ble_eq_true rfl) ?_
  refine W.eq (g2 := F0 m 4 ls []) rfl ?_
  refine lv_aload_n hx hb dX3_init_4 rfl (lv_at hl 0 rfl) ?_
  refine lv_bipush (v := 8) hx hb dX3_init_5 (by decide) ?_
  refine v_newi (N' := 8) hx hb (hts (.arrayClass .int) (by decide +kernel)) hw (N1 := 34) rfl (by decide) (by decide) (by decide) (Nat.le_of_ble_eq_true rfl) (Nat.le_of_ble_eq_true rfl) dX3_init_7 (fun a33 H hw => ?_)
  refine W.widen (k := 1) (n := 8) (by omega) (by omega) ?_
  refine v_putF (i := 32) (ty := (.array .int)) hx hb hts hin3 tyX3 tyX3_ok nmX3 hown hw (by decide) rfl rfl rfl 0 (by decide) (hts (.fieldLink RX3 7 "SeedDrawersModel" "has" "[I") (by decide +kernel)) rfl rfl hnm rfl (by decide +kernel) rfl rfl (Nat.le_of_ble_eq_true rfl) dX3_init_9 (fun H locs hw => ?_)
  refine lv_aload_n hx hb dX3_init_12 rfl (lv_at hl 0 rfl) ?_
  refine lv_bipush (v := 8) hx hb dX3_init_13 (by decide) ?_
  refine v_newi (N' := 8) hx hb (hts (.arrayClass .int) (by decide +kernel)) hw (N1 := 35) rfl (by decide) (by decide) (by decide) (Nat.le_of_ble_eq_true rfl) (Nat.le_of_ble_eq_true rfl) dX3_init_15 (fun a34 H hw => ?_)
  refine W.widen (k := 2) (n := 16) (by omega) (by omega) ?_
  refine v_putF (i := 32) (ty := (.array .int)) hx hb hts hin3 tyX3 tyX3_ok nmX3 hown hw (by decide) rfl rfl rfl 1 (by decide) (hts (.fieldLink RX3 13 "SeedDrawersModel" "note" "[I") (by decide +kernel)) rfl rfl hnm rfl (by decide +kernel) rfl rfl (Nat.le_of_ble_eq_true rfl) dX3_init_17 (fun H locs hw => ?_)
  refine lv_aload_n hx hb dX3_init_20 rfl (lv_at hl 0 rfl) ?_
  refine lv_bipush (v := 8) hx hb dX3_init_21 (by decide) ?_
  refine v_newi (N' := 8) hx hb (hts (.arrayClass .int) (by decide +kernel)) hw (N1 := 36) rfl (by decide) (by decide) (by decide) (Nat.le_of_ble_eq_true rfl) (Nat.le_of_ble_eq_true rfl) dX3_init_23 (fun a35 H hw => ?_)
  refine W.widen (k := 3) (n := 24) (by omega) (by omega) ?_
  refine v_putF (i := 32) (ty := (.array .int)) hx hb hts hin3 tyX3 tyX3_ok nmX3 hown hw (by decide) rfl rfl rfl 2 (by decide) (hts (.fieldLink RX3 16 "SeedDrawersModel" "rowOf" "[I") (by decide +kernel)) rfl rfl hnm rfl (by decide +kernel) rfl rfl (Nat.le_of_ble_eq_true rfl) dX3_init_25 (fun H locs hw => ?_)
  refine lv_aload_n hx hb dX3_init_28 rfl (lv_at hl 0 rfl) ?_
  refine lv_sipush (v := 5000) hx hb dX3_init_29 (by decide) ?_
  refine v_newi (N' := 5000) hx hb (hts (.arrayClass .int) (by decide +kernel)) hw (N1 := 37) rfl (by decide) (by decide) (by decide) (Nat.le_of_ble_eq_true rfl) (Nat.le_of_ble_eq_true rfl) dX3_init_32 (fun a36 H hw => ?_)
  refine W.widen (k := 4) (n := 5024) (by omega) (by omega) ?_
  refine v_putF (i := 32) (ty := (.array .int)) hx hb hts hin3 tyX3 tyX3_ok nmX3 hown hw (by decide) rfl rfl rfl 4 (by decide) (hts (.fieldLink RX3 19 "SeedDrawersModel" "kindOf" "[I") (by decide +kernel)) rfl rfl hnm rfl (by decide +kernel) rfl rfl (Nat.le_of_ble_eq_true rfl) dX3_init_34 (fun H locs hw => ?_)
  refine lv_aload_n hx hb dX3_init_37 rfl (lv_at hl 0 rfl) ?_
  refine lv_sipush (v := 5000) hx hb dX3_init_38 (by decide) ?_
  refine v_newi (N' := 5000) hx hb (hts (.arrayClass .int) (by decide +kernel)) hw (N1 := 38) rfl (by decide) (by decide) (by decide) (Nat.le_of_ble_eq_true rfl) (Nat.le_of_ble_eq_true rfl) dX3_init_41 (fun a37 H hw => ?_)
  refine W.widen (k := 5) (n := 10024) (by omega) (by omega) ?_
  refine v_putF (i := 32) (ty := (.array .int)) hx hb hts hin3 tyX3 tyX3_ok nmX3 hown hw (by decide) rfl rfl rfl 5 (by decide) (hts (.fieldLink RX3 22 "SeedDrawersModel" "sizeOf" "[I") (by decide +kernel)) rfl rfl hnm rfl (by decide +kernel) rfl rfl (Nat.le_of_ble_eq_true rfl) dX3_init_43 (fun H locs hw => ?_)
  refine lv_aload_n hx hb dX3_init_46 rfl (lv_at hl 0 rfl) ?_
  refine lv_ldc (v := 60000) hx hb hown (hts (.constant RX3 25 (60000)) (by decide +kernel)) dX3_init_47 ?_
  refine v_newl (N' := 60000) hx hb (hts (.arrayClass .long) (by decide +kernel)) hw (N1 := 39) rfl (by decide) (by decide) (by decide) (Nat.le_of_ble_eq_true rfl) (Nat.le_of_ble_eq_true rfl) dX3_init_49 (fun a38 H hw => ?_)
  refine W.widen (k := 6) (n := 70024) (by omega) (by omega) ?_
  refine v_putF (i := 32) (ty := (.array .long)) hx hb hts hin3 tyX3 tyX3_ok nmX3 hown hw (by decide) rfl rfl rfl 6 (by decide) (hts (.fieldLink RX3 26 "SeedDrawersModel" "place" "[J") (by decide +kernel)) rfl rfl hnm rfl (by decide +kernel) rfl rfl (Nat.le_of_ble_eq_true rfl) dX3_init_51 (fun H locs hw => ?_)
  refine lv_aload_n hx hb dX3_init_54 rfl (lv_at hl 0 rfl) ?_
  refine lv_iconst (v := 5) hx hb dX3_init_55 (by decide) ?_
  refine v_newi (N' := 5) hx hb (hts (.arrayClass .int) (by decide +kernel)) hw (N1 := 40) rfl (by decide) (by decide) (by decide) (Nat.le_of_ble_eq_true rfl) (Nat.le_of_ble_eq_true rfl) dX3_init_56 (fun a39 H hw => ?_)
  refine W.widen (k := 7) (n := 70029) (by omega) (by omega) ?_
  refine v_putF (i := 32) (ty := (.array .int)) hx hb hts hin3 tyX3 tyX3_ok nmX3 hown hw (by decide) rfl rfl rfl 12 (by decide) (hts (.fieldLink RX3 30 "SeedDrawersModel" "faults" "[I") (by decide +kernel)) rfl rfl hnm rfl (by decide +kernel) rfl rfl (Nat.le_of_ble_eq_true rfl) dX3_init_58 (fun H locs hw => ?_)
  refine lv_aload_n hx hb dX3_init_61 rfl (lv_at hl 0 rfl) ?_
  refine lv_bipush (v := 40) hx hb dX3_init_62 (by decide) ?_
  refine v_newi (N' := 40) hx hb (hts (.arrayClass .int) (by decide +kernel)) hw (N1 := 41) rfl (by decide) (by decide) (by decide) (Nat.le_of_ble_eq_true rfl) (Nat.le_of_ble_eq_true rfl) dX3_init_64 (fun a40 H hw => ?_)
  refine W.widen (k := 8) (n := 70069) (by omega) (by omega) ?_
  refine v_putF (i := 32) (ty := (.array .int)) hx hb hts hin3 tyX3 tyX3_ok nmX3 hown hw (by decide) rfl rfl rfl 14 (by decide) (hts (.fieldLink RX3 33 "SeedDrawersModel" "orderOf" "[I") (by decide +kernel)) rfl rfl hnm rfl (by decide +kernel) rfl rfl (Nat.le_of_ble_eq_true rfl) dX3_init_66 (fun H locs hw => ?_)
  refine lv_aload_n hx hb dX3_init_69 rfl (lv_at hl 0 rfl) ?_
  refine lv_bipush (v := 8) hx hb dX3_init_70 (by decide) ?_
  refine v_newi (N' := 8) hx hb (hts (.arrayClass .int) (by decide +kernel)) hw (N1 := 42) rfl (by decide) (by decide) (by decide) (Nat.le_of_ble_eq_true rfl) (Nat.le_of_ble_eq_true rfl) dX3_init_72 (fun a41 H hw => ?_)
  refine W.widen (k := 9) (n := 70077) (by omega) (by omega) ?_
  refine v_putF (i := 32) (ty := (.array .int)) hx hb hts hin3 tyX3 tyX3_ok nmX3 hown hw (by decide) rfl rfl rfl 16 (by decide) (hts (.fieldLink RX3 36 "SeedDrawersModel" "doneFault" "[I") (by decide +kernel)) rfl rfl hnm rfl (by decide +kernel) rfl rfl (Nat.le_of_ble_eq_true rfl) dX3_init_74 (fun H locs hw => ?_)
  exact v_vret (N := 42) hx hb hr hlocks hw dX3_init_77 ⟨(fun i hi => by have h32 : ¬ i = 32 := (by omega); have h33 : ¬ i = 33 := (by omega); have h34 : ¬ i = 34 := (by omega); have h35 : ¬ i = 35 := (by omega); have h36 : ¬ i = 36 := (by omega); have h37 : ¬ i = 37 := (by omega); have h38 : ¬ i = 38 := (by omega); have h39 : ¬ i = 39 := (by omega); have h40 : ¬ i = 40 := (by omega); have h41 : ¬ i = 41 := (by omega); simp [va_up, h32, h33, h34, h35, h36, h37, h38, h39, h40, h41]), rfl, rfl, rfl, rfl, rfl, rfl, rfl, rfl, rfl, rfl, rfl⟩
