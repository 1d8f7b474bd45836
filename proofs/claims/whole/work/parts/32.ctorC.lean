def pC (y : Nat → ClassId) (a0 : Nat) (u : (Nat → Nat) × (Nat → va_E)) : Prop := (u.1 0 = a0) ∧ (u.2 0 = .inr (2, [.ref (u.1 1), .ref (u.1 3), .ref (u.1 4), .int (-9), .long 0, .int 0, .ref (u.1 21), .int 0, .ref (u.1 30), .int 0, .int 0, .ref (u.1 31)])) ∧ (u.2 1 = .inr (0, [.int 0, .int 0, .int 0, .ref (u.1 2)])) ∧ (u.2 2 = .inl (y 1, 12, .inr (.inl (fun _ => 0)))) ∧ (u.2 3 = .inl (y 2, 8, .inr (.inr (.inr (.inr (va_up (va_up (va_up (va_up (va_up (va_up (va_up (va_up (fun _ => none) 0 (some (u.1 1))) 1 (some (u.1 1))) 2 (some (u.1 1))) 3 (some (u.1 1))) 4 (some (u.1 1))) 5 (some (u.1 1))) 6 (some (u.1 1))) 7 (some (u.1 1)))))))) ∧ (u.2 4 = .inl (y 2, 8, .inr (.inr (.inr (.inr (va_up (va_up (va_up (va_up (va_up (va_up (va_up (va_up (fun _ => none) 0 (some (u.1 5))) 1 (some (u.1 7))) 2 (some (u.1 9))) 3 (some (u.1 11))) 4 (some (u.1 13))) 5 (some (u.1 15))) 6 (some (u.1 17))) 7 (some (u.1 19)))))))) ∧ (u.2 5 = .inr (0, [.int 0, .int 0, .int 0, .ref (u.1 6)])) ∧ (u.2 6 = .inl (y 1, 12, .inr (.inl (fun _ => 0)))) ∧ (u.2 7 = .inr (0, [.int 0, .int 0, .int 0, .ref (u.1 8)])) ∧ (u.2 8 = .inl (y 1, 12, .inr (.inl (fun _ => 0)))) ∧ (u.2 9 = .inr (0, [.int 0, .int 0, .int 0, .ref (u.1 10)])) ∧ (u.2 10 = .inl (y 1, 12, .inr (.inl (fun _ => 0)))) ∧ (u.2 11 = .inr (0, [.int 0, .int 0, .int 0, .ref (u.1 12)])) ∧ (u.2 12 = .inl (y 1, 12, .inr (.inl (fun _ => 0)))) ∧ (u.2 13 = .inr (0, [.int 0, .int 0, .int 0, .ref (u.1 14)])) ∧ (u.2 14 = .inl (y 1, 12, .inr (.inl (fun _ => 0)))) ∧ (u.2 15 = .inr (0, [.int 0, .int 0, .int 0, .ref (u.1 16)])) ∧ (u.2 16 = .inl (y 1, 12, .inr (.inl (fun _ => 0)))) ∧ (u.2 17 = .inr (0, [.int 0, .int 0, .int 0, .ref (u.1 18)])) ∧ (u.2 18 = .inl (y 1, 12, .inr (.inl (fun _ => 0)))) ∧ (u.2 19 = .inr (0, [.int 0, .int 0, .int 0, .ref (u.1 20)])) ∧ (u.2 20 = .inl (y 1, 12, .inr (.inl (fun _ => 0)))) ∧ (u.2 21 = .inl (y 3, 8, .inr (.inr (.inr (.inr (va_up (va_up (va_up (va_up (va_up (va_up (va_up (va_up (fun _ => none) 0 (some (u.1 22))) 1 (some (u.1 23))) 2 (some (u.1 24))) 3 (some (u.1 25))) 4 (some (u.1 26))) 5 (some (u.1 27))) 6 (some (u.1 28))) 7 (some (u.1 29)))))))) ∧ (u.2 22 = .inr (1, [.int 0, .int 0, .int 0, .int 0, .int 0])) ∧ (u.2 23 = .inr (1, [.int 0, .int 0, .int 0, .int 0, .int 0])) ∧ (u.2 24 = .inr (1, [.int 0, .int 0, .int 0, .int 0, .int 0])) ∧ (u.2 25 = .inr (1, [.int 0, .int 0, .int 0, .int 0, .int 0])) ∧ (u.2 26 = .inr (1, [.int 0, .int 0, .int 0, .int 0, .int 0])) ∧ (u.2 27 = .inr (1, [.int 0, .int 0, .int 0, .int 0, .int 0])) ∧ (u.2 28 = .inr (1, [.int 0, .int 0, .int 0, .int 0, .int 0])) ∧ (u.2 29 = .inr (1, [.int 0, .int 0, .int 0, .int 0, .int 0])) ∧ (u.2 30 = .inl (y 0, 8, .inl (fun _ => 0))) ∧ (u.2 31 = .inl (y 0, 5, .inl (fun _ => 0)))
set_option maxHeartbeats 4000000 in
set_option maxRecDepth 100000 in
theorem k_X2_init (l : Launch) (D : va_G) (y : Nat → ClassId) (z : Nat) (loc0 : Nat → Nat) (g0 : Nat → va_E) (a0 : Nat) : Met l yX2_init wsX2_init ({ frames := 2, cells := 31, slots := 221, locals := 32 }) (vP D y z (va_up loc0 0 a0) (va_up g0 0 (.inr (2, [.null, .null, .null, .int 0, .long 0, .int 0, .null, .int 0, .null, .int 0, .int 0, .null]))) 1 [.ref a0]) (va_Qv (pC y a0) (fun u t => vI D y z u.1 u.2 32 t t.heap) (fun q => z ≤ q)) 31 221 (fun q => z ≤ q) := by
  refine v_ent (cc := cX2_init) (maxL := 2) (ret := none) (vs := [.ref a0]) (by decide) rfl (Nat.le_of_ble_eq_true rfl) ?_
  intro p e s m below meth cd ls hx hb hr hml hown hts hlocks hnm hl hw
  have hl : lv_has ls 2 [(0, .ref a0)] := hl
  have hown : s.vm.findClass RX2 = some m.cls := hown
  have hin0 : ∀ w ∈ u_ws RX0 TX0 4, w ∈ wsX2_init := by decide +kernel
  have hin1 : ∀ w ∈ u_ws RX1 TX1 5, w ∈ wsX2_init := by decide +kernel
  have hin2 : ∀ w ∈ u_ws RX2 TX2 12, w ∈ wsX2_init := by decide +kernel
  refine lv_aload_n hx hb dX2_init_0 rfl (lv_at hl 0 rfl) ?_
  refine W.objInit hx hb hown (hts (.methodLink RX2 1 objectInit) (by decide +kernel)) (hts (.instanceMethod objectInit) (by decide +kernel)) (hts _ (List.mem_of_getElem? (i := 3) rfl)) rfl (by rw [hml]; exact hl.1) rfl dX2_init_1 (Nat.le_of_ble_eq_true rfl) (Nat.le_of_ble_eq_true rfl) ?_
  refine W.eq (g2 := F0 m 4 ls []) rfl ?_
  refine lv_aload_n hx hb dX2_init_4 rfl (lv_at hl 0 rfl) ?_
  refine v_new (ci := 0) (fs := [.int 0, .int 0, .int 0, .null]) (C := RX0) (T := TX0) (n := 4) hx hb hts hin0 tyX0 tyX0_ok hown (hts (.classLink RX2 7 RX0) (by decide +kernel)) (hts (.instantiable RX0 4) (by decide +kernel)) (hts (.initialized RX0) (by decide +kernel)) hw (N1 := 2) rfl rfl (fun j hj => by rcases (show j = 0 ∨ j = 1 ∨ j = 2 ∨ j = 3 by omega) with rfl | rfl | rfl | rfl <;> rfl) (Nat.le_of_ble_eq_true rfl) (Nat.le_of_ble_eq_true rfl) dX2_init_5 (fun a1 H hw => ?_)
  refine W.widen (k := 1) (n := 4) (by omega) (by omega) ?_
  refine lv_dup hx hb dX2_init_8 rfl ?_
  refine v_cX0 (i := 1) ⟨hx, hb, hml, hown, hts⟩ hw (by decide) rfl rfl (N1 := 3) rfl hl.1 (Nat.le_of_ble_eq_true rfl) ⟨(Nat.le_of_ble_eq_true rfl), (Nat.le_of_ble_eq_true rfl)⟩ ⟨(Nat.le_of_ble_eq_true rfl), (Nat.le_of_ble_eq_true rfl)⟩ dX2_init_9 (fun a2 H locs hw => ?_)
  refine W.widen (k := 2) (n := 16) (by omega) (by omega) ?_
  refine v_putF (i := 0) (ty := (.object "SeedDrawers$Content")) hx hb hts hin2 tyX2 tyX2_ok nmX2 hown hw (by decide) rfl rfl rfl 0 (by decide) (hts (.fieldLink RX2 10 "SeedDrawers" "nothing" "LSeedDrawers$Content;") (by decide +kernel)) rfl rfl hnm rfl (by decide +kernel) rfl rfl (Nat.le_of_ble_eq_true rfl) dX2_init_12 (fun H locs hw => ?_)
  refine lv_aload_n hx hb dX2_init_15 rfl (lv_at hl 0 rfl) ?_
  refine lv_bipush (v := 8) hx hb dX2_init_16 (by decide) ?_
  refine v_newq (C := RX0) (t0 := 2) (N' := 8) hx hb rfl hown (hts (.classLink RX2 7 RX0) (by decide +kernel)) hw.1.2.2.2.2.2.2.2.1 hw (N1 := 4) rfl (by decide) rfl (by decide) (Nat.le_of_ble_eq_true rfl) (Nat.le_of_ble_eq_true rfl) dX2_init_18 (fun a3 H hw => ?_)
  refine W.widen (k := 3) (n := 24) (by omega) (by omega) ?_
  refine v_putF (i := 0) (ty := (.array (.object "SeedDrawers$Content"))) hx hb hts hin2 tyX2 tyX2_ok nmX2 hown hw (by decide) rfl rfl rfl 1 (by decide) (hts (.fieldLink RX2 16 "SeedDrawers" "drawers" "[LSeedDrawers$Content;") (by decide +kernel)) rfl rfl hnm rfl (by decide +kernel) rfl rfl (Nat.le_of_ble_eq_true rfl) dX2_init_21 (fun H locs hw => ?_)
  refine lv_aload_n hx hb dX2_init_24 rfl (lv_at hl 0 rfl) ?_
  refine lv_bipush (v := 8) hx hb dX2_init_25 (by decide) ?_
  refine v_newq (C := RX0) (t0 := 2) (N' := 8) hx hb rfl hown (hts (.classLink RX2 7 RX0) (by decide +kernel)) hw.1.2.2.2.2.2.2.2.1 hw (N1 := 5) rfl (by decide) rfl (by decide) (Nat.le_of_ble_eq_true rfl) (Nat.le_of_ble_eq_true rfl) dX2_init_27 (fun a4 H hw => ?_)
  refine W.widen (k := 4) (n := 32) (by omega) (by omega) ?_
  refine v_putF (i := 0) (ty := (.array (.object "SeedDrawers$Content"))) hx hb hts hin2 tyX2 tyX2_ok nmX2 hown hw (by decide) rfl rfl rfl 2 (by decide) (hts (.fieldLink RX2 20 "SeedDrawers" "contents" "[LSeedDrawers$Content;") (by decide +kernel)) rfl rfl hnm rfl (by decide +kernel) rfl rfl (Nat.le_of_ble_eq_true rfl) dX2_init_30 (fun H locs hw => ?_)
  refine lv_iconst (v := 0) hx hb dX2_init_33 (by decide) ?_
  refine lv_istore_n (lv' := [(1, .int 0), (0, .ref a0)]) hx hb dX2_init_34 rfl hl (by decide) rfl (fun ls hl => ?_)
  refine lv_iload_n hx hb dX2_init_35 rfl (lv_at hl 0 rfl) ?_
  refine lv_bipush (v := 8) hx hb dX2_init_36 (by decide) ?_
  refine lv_icmp_ge (tgt := 70) hx hb dX2_init_38 (by decide) (fun h9 => absurd h9 (by decide)) (fun _ => ?_)
  refine lv_aload_n hx hb dX2_init_41 rfl (lv_at hl 1 rfl) ?_
  refine v_get (i := 0) hx hb hts hin2 hown hw (by decide) rfl rfl rfl 1 (by decide) (hts (.fieldLink RX2 16 "SeedDrawers" "drawers" "[LSeedDrawers$Content;") (by decide +kernel)) rfl rfl dX2_init_42 ?_
  refine lv_iload_n hx hb dX2_init_45 rfl (lv_at hl 0 rfl) ?_
  refine lv_aload_n hx hb dX2_init_46 rfl (lv_at hl 1 rfl) ?_
  refine v_get (i := 0) hx hb hts hin2 hown hw (by decide) rfl rfl rfl 0 (by decide) (hts (.fieldLink RX2 10 "SeedDrawers" "nothing" "LSeedDrawers$Content;") (by decide +kernel)) rfl rfl dX2_init_47 ?_
  refine v_aast (i := 3) (j := 1) (t0 := 2) (n := 8) (q := (RX0, TX0, 4)) hx hb hw (by decide) (by decide) rfl rfl rfl rfl rfl rfl (vp_in_iff.mpr (by decide)) (k := 0) rfl dX2_init_50 (fun H locs hw => ?_)
  refine lv_aload_n hx hb dX2_init_51 rfl (lv_at hl 1 rfl) ?_
  refine v_get (i := 0) hx hb hts hin2 hown hw (by decide) rfl rfl rfl 2 (by decide) (hts (.fieldLink RX2 20 "SeedDrawers" "contents" "[LSeedDrawers$Content;") (by decide +kernel)) rfl rfl dX2_init_52 ?_
  refine lv_iload_n hx hb dX2_init_55 rfl (lv_at hl 0 rfl) ?_
  refine v_new (ci := 0) (fs := [.int 0, .int 0, .int 0, .null]) (C := RX0) (T := TX0) (n := 4) hx hb hts hin0 tyX0 tyX0_ok hown (hts (.classLink RX2 7 RX0) (by decide +kernel)) (hts (.instantiable RX0 4) (by decide +kernel)) (hts (.initialized RX0) (by decide +kernel)) hw (N1 := 6) rfl rfl (fun j hj => by rcases (show j = 0 ∨ j = 1 ∨ j = 2 ∨ j = 3 by omega) with rfl | rfl | rfl | rfl <;> rfl) (Nat.le_of_ble_eq_true rfl) (Nat.le_of_ble_eq_true rfl) dX2_init_56 (fun a5 H hw => ?_)
  refine W.widen (k := 5) (n := 36) (by omega) (by omega) ?_
  refine lv_dup hx hb dX2_init_59 rfl ?_
  refine v_cX0 (i := 5) ⟨hx, hb, hml, hown, hts⟩ hw (by decide) rfl rfl (N1 := 7) rfl hl.1 (Nat.le_of_ble_eq_true rfl) ⟨(Nat.le_of_ble_eq_true rfl), (Nat.le_of_ble_eq_true rfl)⟩ ⟨(Nat.le_of_ble_eq_true rfl), (Nat.le_of_ble_eq_true rfl)⟩ dX2_init_60 (fun a6 H locs hw => ?_)
  refine W.widen (k := 6) (n := 48) (by omega) (by omega) ?_
  refine v_aast (i := 4) (j := 5) (t0 := 2) (n := 8) (q := (RX0, TX0, 4)) hx hb hw (by decide) (by decide) rfl rfl rfl rfl rfl rfl (vp_in_iff.mpr (by decide)) (k := 0) rfl dX2_init_63 (fun H locs hw => ?_)
  refine lv_iinc (v := 1) (lv' := [(1, .int 1), (0, .ref a0)]) hx hb dX2_init_64 hl (k := 0) rfl (by decide) (by decide) rfl (fun ls hl => ?_)
  refine lv_goto (tgt := 35) hx hb dX2_init_67 (by decide) ?_
  refine lv_iload_n hx hb dX2_init_35 rfl (lv_at hl 0 rfl) ?_
  refine lv_bipush (v := 8) hx hb dX2_init_36 (by decide) ?_
  refine lv_icmp_ge (tgt := 70) hx hb dX2_init_38 (by decide) (fun h9 => absurd h9 (by decide)) (fun _ => ?_)
  refine lv_aload_n hx hb dX2_init_41 rfl (lv_at hl 1 rfl) ?_
  refine v_get (i := 0) hx hb hts hin2 hown hw (by decide) rfl rfl rfl 1 (by decide) (hts (.fieldLink RX2 16 "SeedDrawers" "drawers" "[LSeedDrawers$Content;") (by decide +kernel)) rfl rfl dX2_init_42 ?_
  refine lv_iload_n hx hb dX2_init_45 rfl (lv_at hl 0 rfl) ?_
  refine lv_aload_n hx hb dX2_init_46 rfl (lv_at hl 1 rfl) ?_
  refine v_get (i := 0) hx hb hts hin2 hown hw (by decide) rfl rfl rfl 0 (by decide) (hts (.fieldLink RX2 10 "SeedDrawers" "nothing" "LSeedDrawers$Content;") (by decide +kernel)) rfl rfl dX2_init_47 ?_
  refine v_aast (i := 3) (j := 1) (t0 := 2) (n := 8) (q := (RX0, TX0, 4)) hx hb hw (by decide) (by decide) rfl rfl rfl rfl rfl rfl (vp_in_iff.mpr (by decide)) (k := 1) rfl dX2_init_50 (fun H locs hw => ?_)
  refine lv_aload_n hx hb dX2_init_51 rfl (lv_at hl 1 rfl) ?_
  refine v_get (i := 0) hx hb hts hin2 hown hw (by decide) rfl rfl rfl 2 (by decide) (hts (.fieldLink RX2 20 "SeedDrawers" "contents" "[LSeedDrawers$Content;") (by decide +kernel)) rfl rfl dX2_init_52 ?_
  refine lv_iload_n hx hb dX2_init_55 rfl (lv_at hl 0 rfl) ?_
  refine v_new (ci := 0) (fs := [.int 0, .int 0, .int 0, .null]) (C := RX0) (T := TX0) (n := 4) hx hb hts hin0 tyX0 tyX0_ok hown (hts (.classLink RX2 7 RX0) (by decide +kernel)) (hts (.instantiable RX0 4) (by decide +kernel)) (hts (.initialized RX0) (by decide +kernel)) hw (N1 := 8) rfl rfl (fun j hj => by rcases (show j = 0 ∨ j = 1 ∨ j = 2 ∨ j = 3 by omega) with rfl | rfl | rfl | rfl <;> rfl) (Nat.le_of_ble_eq_true rfl) (Nat.le_of_ble_eq_true rfl) dX2_init_56 (fun a7 H hw => ?_)
  refine W.widen (k := 7) (n := 52) (by omega) (by omega) ?_
  refine lv_dup hx hb dX2_init_59 rfl ?_
  refine v_cX0 (i := 7) ⟨hx, hb, hml, hown, hts⟩ hw (by decide) rfl rfl (N1 := 9) rfl hl.1 (Nat.le_of_ble_eq_true rfl) ⟨(Nat.le_of_ble_eq_true rfl), (Nat.le_of_ble_eq_true rfl)⟩ ⟨(Nat.le_of_ble_eq_true rfl), (Nat.le_of_ble_eq_true rfl)⟩ dX2_init_60 (fun a8 H locs hw => ?_)
  refine W.widen (k := 8) (n := 64) (by omega) (by omega) ?_
  refine v_aast (i := 4) (j := 7) (t0 := 2) (n := 8) (q := (RX0, TX0, 4)) hx hb hw (by decide) (by decide) rfl rfl rfl rfl rfl rfl (vp_in_iff.mpr (by decide)) (k := 1) rfl dX2_init_63 (fun H locs hw => ?_)
  refine lv_iinc (v := 2) (lv' := [(1, .int 2), (0, .ref a0)]) hx hb dX2_init_64 hl (k := 0) rfl (by decide) (by decide) rfl (fun ls hl => ?_)
  refine lv_goto (tgt := 35) hx hb dX2_init_67 (by decide) ?_
  refine lv_iload_n hx hb dX2_init_35 rfl (lv_at hl 0 rfl) ?_
  refine lv_bipush (v := 8) hx hb dX2_init_36 (by decide) ?_
  refine lv_icmp_ge (tgt := 70) hx hb dX2_init_38 (by decide) (fun h9 => absurd h9 (by decide)) (fun _ => ?_)
  refine lv_aload_n hx hb dX2_init_41 rfl (lv_at hl 1 rfl) ?_
  refine v_get (i := 0) hx hb hts hin2 hown hw (by decide) rfl rfl rfl 1 (by decide) (hts (.fieldLink RX2 16 "SeedDrawers" "drawers" "[LSeedDrawers$Content;") (by decide +kernel)) rfl rfl dX2_init_42 ?_
  refine lv_iload_n hx hb dX2_init_45 rfl (lv_at hl 0 rfl) ?_
  refine lv_aload_n hx hb dX2_init_46 rfl (lv_at hl 1 rfl) ?_
  refine v_get (i := 0) hx hb hts hin2 hown hw (by decide) rfl rfl rfl 0 (by decide) (hts (.fieldLink RX2 10 "SeedDrawers" "nothing" "LSeedDrawers$Content;") (by decide +kernel)) rfl rfl dX2_init_47 ?_
  refine v_aast (i := 3) (j := 1) (t0 := 2) (n := 8) (q := (RX0, TX0, 4)) hx hb hw (by decide) (by decide) rfl rfl rfl rfl rfl rfl (vp_in_iff.mpr (by decide)) (k := 2) rfl dX2_init_50 (fun H locs hw => ?_)
  refine lv_aload_n hx hb dX2_init_51 rfl (lv_at hl 1 rfl) ?_
  refine v_get (i := 0) hx hb hts hin2 hown hw (by decide) rfl rfl rfl 2 (by decide) (hts (.fieldLink RX2 20 "SeedDrawers" "contents" "[LSeedDrawers$Content;") (by decide +kernel)) rfl rfl dX2_init_52 ?_
  refine lv_iload_n hx hb dX2_init_55 rfl (lv_at hl 0 rfl) ?_
  refine v_new (ci := 0) (fs := [.int 0, .int 0, .int 0, .null]) (C := RX0) (T := TX0) (n := 4) hx hb hts hin0 tyX0 tyX0_ok hown (hts (.classLink RX2 7 RX0) (by decide +kernel)) (hts (.instantiable RX0 4) (by decide +kernel)) (hts (.initialized RX0) (by decide +kernel)) hw (N1 := 10) rfl rfl (fun j hj => by rcases (show j = 0 ∨ j = 1 ∨ j = 2 ∨ j = 3 by omega) with rfl | rfl | rfl | rfl <;> rfl) (Nat.le_of_ble_eq_true rfl) (Nat.le_of_ble_eq_true rfl) dX2_init_56 (fun a9 H hw => ?_)
  refine W.widen (k := 9) (n := 68) (by omega) (by omega) ?_
  refine lv_dup hx hb dX2_init_59 rfl ?_
  refine v_cX0 (i := 9) ⟨hx, hb, hml, hown, hts⟩ hw (by decide) rfl rfl (N1 := 11) rfl hl.1 (Nat.le_of_ble_eq_true rfl) ⟨(Nat.le_of_ble_eq_true rfl), (Nat.le_of_ble_eq_true rfl)⟩ ⟨(Nat.le_of_ble_eq_true rfl), (Nat.le_of_ble_eq_true rfl)⟩ dX2_init_60 (fun a10 H locs hw => ?_)
  refine W.widen (k := 10) (n := 80) (by omega) (by omega) ?_
  refine v_aast (i := 4) (j := 9) (t0 := 2) (n := 8) (q := (RX0, TX0, 4)) hx hb hw (by decide) (by decide) rfl rfl rfl rfl rfl rfl (vp_in_iff.mpr (by decide)) (k := 2) rfl dX2_init_63 (fun H locs hw => ?_)
  refine lv_iinc (v := 3) (lv' := [(1, .int 3), (0, .ref a0)]) hx hb dX2_init_64 hl (k := 0) rfl (by decide) (by decide) rfl (fun ls hl => ?_)
  refine lv_goto (tgt := 35) hx hb dX2_init_67 (by decide) ?_
  refine lv_iload_n hx hb dX2_init_35 rfl (lv_at hl 0 rfl) ?_
  refine lv_bipush (v := 8) hx hb dX2_init_36 (by decide) ?_
  refine lv_icmp_ge (tgt := 70) hx hb dX2_init_38 (by decide) (fun h9 => absurd h9 (by decide)) (fun _ => ?_)
  refine lv_aload_n hx hb dX2_init_41 rfl (lv_at hl 1 rfl) ?_
  refine v_get (i := 0) hx hb hts hin2 hown hw (by decide) rfl rfl rfl 1 (by decide) (hts (.fieldLink RX2 16 "SeedDrawers" "drawers" "[LSeedDrawers$Content;") (by decide +kernel)) rfl rfl dX2_init_42 ?_
  refine lv_iload_n hx hb dX2_init_45 rfl (lv_at hl 0 rfl) ?_
  refine lv_aload_n hx hb dX2_init_46 rfl (lv_at hl 1 rfl) ?_
  refine v_get (i := 0) hx hb hts hin2 hown hw (by decide) rfl rfl rfl 0 (by decide) (hts (.fieldLink RX2 10 "SeedDrawers" "nothing" "LSeedDrawers$Content;") (by decide +kernel)) rfl rfl dX2_init_47 ?_
  refine v_aast (i := 3) (j := 1) (t0 := 2) (n := 8) (q := (RX0, TX0, 4)) hx hb hw (by decide) (by decide) rfl rfl rfl rfl rfl rfl (vp_in_iff.mpr (by decide)) (k := 3) rfl dX2_init_50 (fun H locs hw => ?_)
  refine lv_aload_n hx hb dX2_init_51 rfl (lv_at hl 1 rfl) ?_
  refine v_get (i := 0) hx hb hts hin2 hown hw (by decide) rfl rfl rfl 2 (by decide) (hts (.fieldLink RX2 20 "SeedDrawers" "contents" "[LSeedDrawers$Content;") (by decide +kernel)) rfl rfl dX2_init_52 ?_
  refine lv_iload_n hx hb dX2_init_55 rfl (lv_at hl 0 rfl) ?_
  refine v_new (ci := 0) (fs := [.int 0, .int 0, .int 0, .null]) (C := RX0) (T := TX0) (n := 4) hx hb hts hin0 tyX0 tyX0_ok hown (hts (.classLink RX2 7 RX0) (by decide +kernel)) (hts (.instantiable RX0 4) (by decide +kernel)) (hts (.initialized RX0) (by decide +kernel)) hw (N1 := 12) rfl rfl (fun j hj => by rcases (show j = 0 ∨ j = 1 ∨ j = 2 ∨ j = 3 by omega) with rfl | rfl | rfl | rfl <;> rfl) (Nat.le_of_ble_eq_true rfl) (Nat.le_of_ble_eq_true rfl) dX2_init_56 (fun a11 H hw => ?_)
  refine W.widen (k := 11) (n := 84) (by omega) (by omega) ?_
  refine lv_dup hx hb dX2_init_59 rfl ?_
  refine v_cX0 (i := 11) ⟨hx, hb, hml, hown, hts⟩ hw (by decide) rfl rfl (N1 := 13) rfl hl.1 (Nat.le_of_ble_eq_true rfl) ⟨(Nat.le_of_ble_eq_true rfl), (Nat.le_of_ble_eq_true rfl)⟩ ⟨(Nat.le_of_ble_eq_true rfl), (Nat.le_of_ble_eq_true rfl)⟩ dX2_init_60 (fun a12 H locs hw => ?_)
  refine W.widen (k := 12) (n := 96) (by omega) (by omega) ?_
  refine v_aast (i := 4) (j := 11) (t0 := 2) (n := 8) (q := (RX0, TX0, 4)) hx hb hw (by decide) (by decide) rfl rfl rfl rfl rfl rfl (vp_in_iff.mpr (by decide)) (k := 3) rfl dX2_init_63 (fun H locs hw => ?_)
  refine lv_iinc (v := 4) (lv' := [(1, .int 4), (0, .ref a0)]) hx hb dX2_init_64 hl (k := 0) rfl (by decide) (by decide) rfl (fun ls hl => ?_)
  refine lv_goto (tgt := 35) hx hb dX2_init_67 (by decide) ?_
  refine lv_iload_n hx hb dX2_init_35 rfl (lv_at hl 0 rfl) ?_
  refine lv_bipush (v := 8) hx hb dX2_init_36 (by decide) ?_
  refine lv_icmp_ge (tgt := 70) hx hb dX2_init_38 (by decide) (fun h9 => absurd h9 (by decide)) (fun _ => ?_)
  refine lv_aload_n hx hb dX2_init_41 rfl (lv_at hl 1 rfl) ?_
  refine v_get (i := 0) hx hb hts hin2 hown hw (by decide) rfl rfl rfl 1 (by decide) (hts (.fieldLink RX2 16 "SeedDrawers" "drawers" "[LSeedDrawers$Content;") (by decide +kernel)) rfl rfl dX2_init_42 ?_
  refine lv_iload_n hx hb dX2_init_45 rfl (lv_at hl 0 rfl) ?_
  refine lv_aload_n hx hb dX2_init_46 rfl (lv_at hl 1 rfl) ?_
  refine v_get (i := 0) hx hb hts hin2 hown hw (by decide) rfl rfl rfl 0 (by decide) (hts (.fieldLink RX2 10 "SeedDrawers" "nothing" "LSeedDrawers$Content;") (by decide +kernel)) rfl rfl dX2_init_47 ?_
  refine v_aast (i := 3) (j := 1) (t0 := 2) (n := 8) (q := (RX0, TX0, 4)) hx hb hw (by decide) (by decide) rfl rfl rfl rfl rfl rfl (vp_in_iff.mpr (by decide)) (k := 4) rfl dX2_init_50 (fun H locs hw => ?_)
  refine lv_aload_n hx hb dX2_init_51 rfl (lv_at hl 1 rfl) ?_
  refine v_get (i := 0) hx hb hts hin2 hown hw (by decide) rfl rfl rfl 2 (by decide) (hts (.fieldLink RX2 20 "SeedDrawers" "contents" "[LSeedDrawers$Content;") (by decide +kernel)) rfl rfl dX2_init_52 ?_
  refine lv_iload_n hx hb dX2_init_55 rfl (lv_at hl 0 rfl) ?_
  refine v_new (ci := 0) (fs := [.int 0, .int 0, .int 0, .null]) (C := RX0) (T := TX0) (n := 4) hx hb hts hin0 tyX0 tyX0_ok hown (hts (.classLink RX2 7 RX0) (by decide +kernel)) (hts (.instantiable RX0 4) (by decide +kernel)) (hts (.initialized RX0) (by decide +kernel)) hw (N1 := 14) rfl rfl (fun j hj => by rcases (show j = 0 ∨ j = 1 ∨ j = 2 ∨ j = 3 by omega) with rfl | rfl | rfl | rfl <;> rfl) (Nat.le_of_ble_eq_true rfl) (Nat.le_of_ble_eq_true rfl) dX2_init_56 (fun a13 H hw => ?_)
  refine W.widen (k := 13) (n := 100) (by omega) (by omega) ?_
  refine lv_dup hx hb dX2_init_59 rfl ?_
  refine v_cX0 (i := 13) ⟨hx, hb, hml, hown, hts⟩ hw (by decide) rfl rfl (N1 := 15) rfl hl.1 (Nat.le_of_ble_eq_true rfl) ⟨(Nat.le_of_ble_eq_true rfl), (Nat.le_of_ble_eq_true rfl)⟩ ⟨(Nat.le_of_ble_eq_true rfl), (Nat.le_of_ble_eq_true rfl)⟩ dX2_init_60 (fun a14 H locs hw => ?_)
  refine W.widen (k := 14) (n := 112) (by omega) (by omega) ?_
  refine v_aast (i := 4) (j := 13) (t0 := 2) (n := 8) (q := (RX0, TX0, 4)) hx hb hw (by decide) (by decide) rfl rfl rfl rfl rfl rfl (vp_in_iff.mpr (by decide)) (k := 4) rfl dX2_init_63 (fun H locs hw => ?_)
  refine lv_iinc (v := 5) (lv' := [(1, .int 5), (0, .ref a0)]) hx hb dX2_init_64 hl (k := 0) rfl (by decide) (by decide) rfl (fun ls hl => ?_)
  refine lv_goto (tgt := 35) hx hb dX2_init_67 (by decide) ?_
  refine lv_iload_n hx hb dX2_init_35 rfl (lv_at hl 0 rfl) ?_
  refine lv_bipush (v := 8) hx hb dX2_init_36 (by decide) ?_
  refine lv_icmp_ge (tgt := 70) hx hb dX2_init_38 (by decide) (fun h9 => absurd h9 (by decide)) (fun _ => ?_)
  refine lv_aload_n hx hb dX2_init_41 rfl (lv_at hl 1 rfl) ?_
  refine v_get (i := 0) hx hb hts hin2 hown hw (by decide) rfl rfl rfl 1 (by decide) (hts (.fieldLink RX2 16 "SeedDrawers" "drawers" "[LSeedDrawers$Content;") (by decide +kernel)) rfl rfl dX2_init_42 ?_
  refine lv_iload_n hx hb dX2_init_45 rfl (lv_at hl 0 rfl) ?_
  refine lv_aload_n hx hb dX2_init_46 rfl (lv_at hl 1 rfl) ?_
  refine v_get (i := 0) hx hb hts hin2 hown hw (by decide) rfl rfl rfl 0 (by decide) (hts (.fieldLink RX2 10 "SeedDrawers" "nothing" "LSeedDrawers$Content;") (by decide +kernel)) rfl rfl dX2_init_47 ?_
  refine v_aast (i := 3) (j := 1) (t0 := 2) (n := 8) (q := (RX0, TX0, 4)) hx hb hw (by decide) (by decide) rfl rfl rfl rfl rfl rfl (vp_in_iff.mpr (by decide)) (k := 5) rfl dX2_init_50 (fun H locs hw => ?_)
  refine lv_aload_n hx hb dX2_init_51 rfl (lv_at hl 1 rfl) ?_
  refine v_get (i := 0) hx hb hts hin2 hown hw (by decide) rfl rfl rfl 2 (by decide) (hts (.fieldLink RX2 20 "SeedDrawers" "contents" "[LSeedDrawers$Content;") (by decide +kernel)) rfl rfl dX2_init_52 ?_
  refine lv_iload_n hx hb dX2_init_55 rfl (lv_at hl 0 rfl) ?_
  refine v_new (ci := 0) (fs := [.int 0, .int 0, .int 0, .null]) (C := RX0) (T := TX0) (n := 4) hx hb hts hin0 tyX0 tyX0_ok hown (hts (.classLink RX2 7 RX0) (by decide +kernel)) (hts (.instantiable RX0 4) (by decide +kernel)) (hts (.initialized RX0) (by decide +kernel)) hw (N1 := 16) rfl rfl (fun j hj => by rcases (show j = 0 ∨ j = 1 ∨ j = 2 ∨ j = 3 by omega) with rfl | rfl | rfl | rfl <;> rfl) (Nat.le_of_ble_eq_true rfl) (Nat.le_of_ble_eq_true rfl) dX2_init_56 (fun a15 H hw => ?_)
  refine W.widen (k := 15) (n := 116) (by omega) (by omega) ?_
  refine lv_dup hx hb dX2_init_59 rfl ?_
  refine v_cX0 (i := 15) ⟨hx, hb, hml, hown, hts⟩ hw (by decide) rfl rfl (N1 := 17) rfl hl.1 (Nat.le_of_ble_eq_true rfl) ⟨(Nat.le_of_ble_eq_true rfl), (Nat.le_of_ble_eq_true rfl)⟩ ⟨(Nat.le_of_ble_eq_true rfl), (Nat.le_of_ble_eq_true rfl)⟩ dX2_init_60 (fun a16 H locs hw => ?_)
  refine W.widen (k := 16) (n := 128) (by omega) (by omega) ?_
  refine v_aast (i := 4) (j := 15) (t0 := 2) (n := 8) (q := (RX0, TX0, 4)) hx hb hw (by decide) (by decide) rfl rfl rfl rfl rfl rfl (vp_in_iff.mpr (by decide)) (k := 5) rfl dX2_init_63 (fun H locs hw => ?_)
  refine lv_iinc (v := 6) (lv' := [(1, .int 6), (0, .ref a0)]) hx hb dX2_init_64 hl (k := 0) rfl (by decide) (by decide) rfl (fun ls hl => ?_)
  refine lv_goto (tgt := 35) hx hb dX2_init_67 (by decide) ?_
  refine lv_iload_n hx hb dX2_init_35 rfl (lv_at hl 0 rfl) ?_
  refine lv_bipush (v := 8) hx hb dX2_init_36 (by decide) ?_
  refine lv_icmp_ge (tgt := 70) hx hb dX2_init_38 (by decide) (fun h9 => absurd h9 (by decide)) (fun _ => ?_)
  refine lv_aload_n hx hb dX2_init_41 rfl (lv_at hl 1 rfl) ?_
  refine v_get (i := 0) hx hb hts hin2 hown hw (by decide) rfl rfl rfl 1 (by decide) (hts (.fieldLink RX2 16 "SeedDrawers" "drawers" "[LSeedDrawers$Content;") (by decide +kernel)) rfl rfl dX2_init_42 ?_
  refine lv_iload_n hx hb dX2_init_45 rfl (lv_at hl 0 rfl) ?_
  refine lv_aload_n hx hb dX2_init_46 rfl (lv_at hl 1 rfl) ?_
  refine v_get (i := 0) hx hb hts hin2 hown hw (by decide) rfl rfl rfl 0 (by decide) (hts (.fieldLink RX2 10 "SeedDrawers" "nothing" "LSeedDrawers$Content;") (by decide +kernel)) rfl rfl dX2_init_47 ?_
  refine v_aast (i := 3) (j := 1) (t0 := 2) (n := 8) (q := (RX0, TX0, 4)) hx hb hw (by decide) (by decide) rfl rfl rfl rfl rfl rfl (vp_in_iff.mpr (by decide)) (k := 6) rfl dX2_init_50 (fun H locs hw => ?_)
  refine lv_aload_n hx hb dX2_init_51 rfl (lv_at hl 1 rfl) ?_
  refine v_get (i := 0) hx hb hts hin2 hown hw (by decide) rfl rfl rfl 2 (by decide) (hts (.fieldLink RX2 20 "SeedDrawers" "contents" "[LSeedDrawers$Content;") (by decide +kernel)) rfl rfl dX2_init_52 ?_
  refine lv_iload_n hx hb dX2_init_55 rfl (lv_at hl 0 rfl) ?_
  refine v_new (ci := 0) (fs := [.int 0, .int 0, .int 0, .null]) (C := RX0) (T := TX0) (n := 4) hx hb hts hin0 tyX0 tyX0_ok hown (hts (.classLink RX2 7 RX0) (by decide +kernel)) (hts (.instantiable RX0 4) (by decide +kernel)) (hts (.initialized RX0) (by decide +kernel)) hw (N1 := 18) rfl rfl (fun j hj => by rcases (show j = 0 ∨ j = 1 ∨ j = 2 ∨ j = 3 by omega) with rfl | rfl | rfl | rfl <;> rfl) (Nat.le_of_ble_eq_true rfl) (Nat.le_of_ble_eq_true rfl) dX2_init_56 (fun a17 H hw => ?_)
  refine W.widen (k := 17) (n := 132) (by omega) (by omega) ?_
  refine lv_dup hx hb dX2_init_59 rfl ?_
  refine v_cX0 (i := 17) ⟨hx, hb, hml, hown, hts⟩ hw (by decide) rfl rfl (N1 := 19) rfl hl.1 (Nat.le_of_ble_eq_true rfl) ⟨(Nat.le_of_ble_eq_true rfl), (Nat.le_of_ble_eq_true rfl)⟩ ⟨(Nat.le_of_ble_eq_true rfl), (Nat.le_of_ble_eq_true rfl)⟩ dX2_init_60 (fun a18 H locs hw => ?_)
  refine W.widen (k := 18) (n := 144) (by omega) (by omega) ?_
  refine v_aast (i := 4) (j := 17) (t0 := 2) (n := 8) (q := (RX0, TX0, 4)) hx hb hw (by decide) (by decide) rfl rfl rfl rfl rfl rfl (vp_in_iff.mpr (by decide)) (k := 6) rfl dX2_init_63 (fun H locs hw => ?_)
  refine lv_iinc (v := 7) (lv' := [(1, .int 7), (0, .ref a0)]) hx hb dX2_init_64 hl (k := 0) rfl (by decide) (by decide) rfl (fun ls hl => ?_)
  refine lv_goto (tgt := 35) hx hb dX2_init_67 (by decide) ?_
  refine lv_iload_n hx hb dX2_init_35 rfl (lv_at hl 0 rfl) ?_
  refine lv_bipush (v := 8) hx hb dX2_init_36 (by decide) ?_
  refine lv_icmp_ge (tgt := 70) hx hb dX2_init_38 (by decide) (fun h9 => absurd h9 (by decide)) (fun _ => ?_)
  refine lv_aload_n hx hb dX2_init_41 rfl (lv_at hl 1 rfl) ?_
  refine v_get (i := 0) hx hb hts hin2 hown hw (by decide) rfl rfl rfl 1 (by decide) (hts (.fieldLink RX2 16 "SeedDrawers" "drawers" "[LSeedDrawers$Content;") (by decide +kernel)) rfl rfl dX2_init_42 ?_
  refine lv_iload_n hx hb dX2_init_45 rfl (lv_at hl 0 rfl) ?_
  refine lv_aload_n hx hb dX2_init_46 rfl (lv_at hl 1 rfl) ?_
  refine v_get (i := 0) hx hb hts hin2 hown hw (by decide) rfl rfl rfl 0 (by decide) (hts (.fieldLink RX2 10 "SeedDrawers" "nothing" "LSeedDrawers$Content;") (by decide +kernel)) rfl rfl dX2_init_47 ?_
  refine v_aast (i := 3) (j := 1) (t0 := 2) (n := 8) (q := (RX0, TX0, 4)) hx hb hw (by decide) (by decide) rfl rfl rfl rfl rfl rfl (vp_in_iff.mpr (by decide)) (k := 7) rfl dX2_init_50 (fun H locs hw => ?_)
  refine lv_aload_n hx hb dX2_init_51 rfl (lv_at hl 1 rfl) ?_
  refine v_get (i := 0) hx hb hts hin2 hown hw (by decide) rfl rfl rfl 2 (by decide) (hts (.fieldLink RX2 20 "SeedDrawers" "contents" "[LSeedDrawers$Content;") (by decide +kernel)) rfl rfl dX2_init_52 ?_
  refine lv_iload_n hx hb dX2_init_55 rfl (lv_at hl 0 rfl) ?_
  refine v_new (ci := 0) (fs := [.int 0, .int 0, .int 0, .null]) (C := RX0) (T := TX0) (n := 4) hx hb hts hin0 tyX0 tyX0_ok hown (hts (.classLink RX2 7 RX0) (by decide +kernel)) (hts (.instantiable RX0 4) (by decide +kernel)) (hts (.initialized RX0) (by decide +kernel)) hw (N1 := 20) rfl rfl (fun j hj => by rcases (show j = 0 ∨ j = 1 ∨ j = 2 ∨ j = 3 by omega) with rfl | rfl | rfl | rfl <;> rfl) (Nat.le_of_ble_eq_true rfl) (Nat.le_of_ble_eq_true rfl) dX2_init_56 (fun a19 H hw => ?_)
  refine W.widen (k := 19) (n := 148) (by omega) (by omega) ?_
  refine lv_dup hx hb dX2_init_59 rfl ?_
  refine v_cX0 (i := 19) ⟨hx, hb, hml, hown, hts⟩ hw (by decide) rfl rfl (N1 := 21) rfl hl.1 (Nat.le_of_ble_eq_true rfl) ⟨(Nat.le_of_ble_eq_true rfl), (Nat.le_of_ble_eq_true rfl)⟩ ⟨(Nat.le_of_ble_eq_true rfl), (Nat.le_of_ble_eq_true rfl)⟩ dX2_init_60 (fun a20 H locs hw => ?_)
  refine W.widen (k := 20) (n := 160) (by omega) (by omega) ?_
  refine v_aast (i := 4) (j := 19) (t0 := 2) (n := 8) (q := (RX0, TX0, 4)) hx hb hw (by decide) (by decide) rfl rfl rfl rfl rfl rfl (vp_in_iff.mpr (by decide)) (k := 7) rfl dX2_init_63 (fun H locs hw => ?_)
  refine lv_iinc (v := 8) (lv' := [(1, .int 8), (0, .ref a0)]) hx hb dX2_init_64 hl (k := 0) rfl (by decide) (by decide) rfl (fun ls hl => ?_)
  refine lv_goto (tgt := 35) hx hb dX2_init_67 (by decide) ?_
  refine lv_iload_n hx hb dX2_init_35 rfl (lv_at hl 0 rfl) ?_
  refine lv_bipush (v := 8) hx hb dX2_init_36 (by decide) ?_
  refine lv_icmp_ge (tgt := 70) hx hb dX2_init_38 (by decide) (fun _ => ?_) (fun h9 => absurd (by decide) h9)
  refine lv_aload_n hx hb dX2_init_70 rfl (lv_at hl 1 rfl) ?_
  refine lv_bipush (v := (-9)) hx hb dX2_init_71 (by decide) ?_
  refine v_put (i := 0) (ty := .int) hx hb hts hin2 tyX2 tyX2_ok nmX2 hown hw (by decide) rfl rfl rfl 3 (by decide) (hts (.fieldLink RX2 23 "SeedDrawers" "handKind" "I") (by decide +kernel)) rfl rfl (by decide +kernel) rfl rfl (Nat.le_of_ble_eq_true rfl) dX2_init_73 (fun H locs hw => ?_)
  refine lv_aload_n hx hb dX2_init_76 rfl (lv_at hl 1 rfl) ?_
  refine lv_bipush (v := 8) hx hb dX2_init_77 (by decide) ?_
  refine v_newq (C := RX1) (t0 := 3) (N' := 8) hx hb rfl hown (hts (.classLink RX2 27 RX1) (by decide +kernel)) hw.1.2.2.2.2.2.2.2.2 hw (N1 := 22) rfl (by decide) rfl (by decide) (Nat.le_of_ble_eq_true rfl) (Nat.le_of_ble_eq_true rfl) dX2_init_79 (fun a21 H hw => ?_)
  refine W.widen (k := 21) (n := 168) (by omega) (by omega) ?_
  refine v_putF (i := 0) (ty := (.array (.object "SeedDrawers$Order"))) hx hb hts hin2 tyX2 tyX2_ok nmX2 hown hw (by decide) rfl rfl rfl 6 (by decide) (hts (.fieldLink RX2 29 "SeedDrawers" "orders" "[LSeedDrawers$Order;") (by decide +kernel)) rfl rfl hnm rfl (by decide +kernel) rfl rfl (Nat.le_of_ble_eq_true rfl) dX2_init_82 (fun H locs hw => ?_)
  refine lv_iconst (v := 0) hx hb dX2_init_85 (by decide) ?_
  refine lv_istore_n (lv' := [(1, .int 0), (0, .ref a0)]) hx hb dX2_init_86 rfl hl (by decide) rfl (fun ls hl => ?_)
  refine lv_iload_n hx hb dX2_init_87 rfl (lv_at hl 0 rfl) ?_
  refine lv_bipush (v := 8) hx hb dX2_init_88 (by decide) ?_
  refine lv_icmp_ge (tgt := 112) hx hb dX2_init_90 (by decide) (fun h9 => absurd h9 (by decide)) (fun _ => ?_)
  refine lv_aload_n hx hb dX2_init_93 rfl (lv_at hl 1 rfl) ?_
  refine v_get (i := 0) hx hb hts hin2 hown hw (by decide) rfl rfl rfl 6 (by decide) (hts (.fieldLink RX2 29 "SeedDrawers" "orders" "[LSeedDrawers$Order;") (by decide +kernel)) rfl rfl dX2_init_94 ?_
  refine lv_iload_n hx hb dX2_init_97 rfl (lv_at hl 0 rfl) ?_
  refine v_new (ci := 1) (fs := [.int 0, .int 0, .int 0, .int 0, .int 0]) (C := RX1) (T := TX1) (n := 5) hx hb hts hin1 tyX1 tyX1_ok hown (hts (.classLink RX2 27 RX1) (by decide +kernel)) (hts (.instantiable RX1 5) (by decide +kernel)) (hts (.initialized RX1) (by decide +kernel)) hw (N1 := 23) rfl rfl (fun j hj => by rcases (show j = 0 ∨ j = 1 ∨ j = 2 ∨ j = 3 ∨ j = 4 by omega) with rfl | rfl | rfl | rfl | rfl <;> rfl) (Nat.le_of_ble_eq_true rfl) (Nat.le_of_ble_eq_true rfl) dX2_init_98 (fun a22 H hw => ?_)
  refine W.widen (k := 22) (n := 173) (by omega) (by omega) ?_
  refine lv_dup hx hb dX2_init_101 rfl ?_
  refine v_cX1 (i := 22) ⟨hx, hb, hml, hown, hts⟩ hw rfl hl.1 (Nat.le_of_ble_eq_true rfl) ⟨(Nat.le_of_ble_eq_true rfl), (Nat.le_of_ble_eq_true rfl)⟩ ⟨(Nat.le_of_ble_eq_true rfl), (Nat.le_of_ble_eq_true rfl)⟩ dX2_init_102 (fun H locs hw => ?_)
  refine v_aast (i := 21) (j := 22) (t0 := 3) (n := 8) (q := (RX1, TX1, 5)) hx hb hw (by decide) (by decide) rfl rfl rfl rfl rfl rfl (vp_in_iff.mpr (by decide)) (k := 0) rfl dX2_init_105 (fun H locs hw => ?_)
  refine lv_iinc (v := 1) (lv' := [(1, .int 1), (0, .ref a0)]) hx hb dX2_init_106 hl (k := 0) rfl (by decide) (by decide) rfl (fun ls hl => ?_)
  refine lv_goto (tgt := 87) hx hb dX2_init_109 (by decide) ?_
  refine lv_iload_n hx hb dX2_init_87 rfl (lv_at hl 0 rfl) ?_
  refine lv_bipush (v := 8) hx hb dX2_init_88 (by decide) ?_
  refine lv_icmp_ge (tgt := 112) hx hb dX2_init_90 (by decide) (fun h9 => absurd h9 (by decide)) (fun _ => ?_)
  refine lv_aload_n hx hb dX2_init_93 rfl (lv_at hl 1 rfl) ?_
  refine v_get (i := 0) hx hb hts hin2 hown hw (by decide) rfl rfl rfl 6 (by decide) (hts (.fieldLink RX2 29 "SeedDrawers" "orders" "[LSeedDrawers$Order;") (by decide +kernel)) rfl rfl dX2_init_94 ?_
  refine lv_iload_n hx hb dX2_init_97 rfl (lv_at hl 0 rfl) ?_
  refine v_new (ci := 1) (fs := [.int 0, .int 0, .int 0, .int 0, .int 0]) (C := RX1) (T := TX1) (n := 5) hx hb hts hin1 tyX1 tyX1_ok hown (hts (.classLink RX2 27 RX1) (by decide +kernel)) (hts (.instantiable RX1 5) (by decide +kernel)) (hts (.initialized RX1) (by decide +kernel)) hw (N1 := 24) rfl rfl (fun j hj => by rcases (show j = 0 ∨ j = 1 ∨ j = 2 ∨ j = 3 ∨ j = 4 by omega) with rfl | rfl | rfl | rfl | rfl <;> rfl) (Nat.le_of_ble_eq_true rfl) (Nat.le_of_ble_eq_true rfl) dX2_init_98 (fun a23 H hw => ?_)
  refine W.widen (k := 23) (n := 178) (by omega) (by omega) ?_
  refine lv_dup hx hb dX2_init_101 rfl ?_
  refine v_cX1 (i := 23) ⟨hx, hb, hml, hown, hts⟩ hw rfl hl.1 (Nat.le_of_ble_eq_true rfl) ⟨(Nat.le_of_ble_eq_true rfl), (Nat.le_of_ble_eq_true rfl)⟩ ⟨(Nat.le_of_ble_eq_true rfl), (Nat.le_of_ble_eq_true rfl)⟩ dX2_init_102 (fun H locs hw => ?_)
  refine v_aast (i := 21) (j := 23) (t0 := 3) (n := 8) (q := (RX1, TX1, 5)) hx hb hw (by decide) (by decide) rfl rfl rfl rfl rfl rfl (vp_in_iff.mpr (by decide)) (k := 1) rfl dX2_init_105 (fun H locs hw => ?_)
  refine lv_iinc (v := 2) (lv' := [(1, .int 2), (0, .ref a0)]) hx hb dX2_init_106 hl (k := 0) rfl (by decide) (by decide) rfl (fun ls hl => ?_)
  refine lv_goto (tgt := 87) hx hb dX2_init_109 (by decide) ?_
  refine lv_iload_n hx hb dX2_init_87 rfl (lv_at hl 0 rfl) ?_
  refine lv_bipush (v := 8) hx hb dX2_init_88 (by decide) ?_
  refine lv_icmp_ge (tgt := 112) hx hb dX2_init_90 (by decide) (fun h9 => absurd h9 (by decide)) (fun _ => ?_)
  refine lv_aload_n hx hb dX2_init_93 rfl (lv_at hl 1 rfl) ?_
  refine v_get (i := 0) hx hb hts hin2 hown hw (by decide) rfl rfl rfl 6 (by decide) (hts (.fieldLink RX2 29 "SeedDrawers" "orders" "[LSeedDrawers$Order;") (by decide +kernel)) rfl rfl dX2_init_94 ?_
  refine lv_iload_n hx hb dX2_init_97 rfl (lv_at hl 0 rfl) ?_
  refine v_new (ci := 1) (fs := [.int 0, .int 0, .int 0, .int 0, .int 0]) (C := RX1) (T := TX1) (n := 5) hx hb hts hin1 tyX1 tyX1_ok hown (hts (.classLink RX2 27 RX1) (by decide +kernel)) (hts (.instantiable RX1 5) (by decide +kernel)) (hts (.initialized RX1) (by decide +kernel)) hw (N1 := 25) rfl rfl (fun j hj => by rcases (show j = 0 ∨ j = 1 ∨ j = 2 ∨ j = 3 ∨ j = 4 by omega) with rfl | rfl | rfl | rfl | rfl <;> rfl) (Nat.le_of_ble_eq_true rfl) (Nat.le_of_ble_eq_true rfl) dX2_init_98 (fun a24 H hw => ?_)
  refine W.widen (k := 24) (n := 183) (by omega) (by omega) ?_
  refine lv_dup hx hb dX2_init_101 rfl ?_
  refine v_cX1 (i := 24) ⟨hx, hb, hml, hown, hts⟩ hw rfl hl.1 (Nat.le_of_ble_eq_true rfl) ⟨(Nat.le_of_ble_eq_true rfl), (Nat.le_of_ble_eq_true rfl)⟩ ⟨(Nat.le_of_ble_eq_true rfl), (Nat.le_of_ble_eq_true rfl)⟩ dX2_init_102 (fun H locs hw => ?_)
  refine v_aast (i := 21) (j := 24) (t0 := 3) (n := 8) (q := (RX1, TX1, 5)) hx hb hw (by decide) (by decide) rfl rfl rfl rfl rfl rfl (vp_in_iff.mpr (by decide)) (k := 2) rfl dX2_init_105 (fun H locs hw => ?_)
  refine lv_iinc (v := 3) (lv' := [(1, .int 3), (0, .ref a0)]) hx hb dX2_init_106 hl (k := 0) rfl (by decide) (by decide) rfl (fun ls hl => ?_)
  refine lv_goto (tgt := 87) hx hb dX2_init_109 (by decide) ?_
  refine lv_iload_n hx hb dX2_init_87 rfl (lv_at hl 0 rfl) ?_
  refine lv_bipush (v := 8) hx hb dX2_init_88 (by decide) ?_
  refine lv_icmp_ge (tgt := 112) hx hb dX2_init_90 (by decide) (fun h9 => absurd h9 (by decide)) (fun _ => ?_)
  refine lv_aload_n hx hb dX2_init_93 rfl (lv_at hl 1 rfl) ?_
  refine v_get (i := 0) hx hb hts hin2 hown hw (by decide) rfl rfl rfl 6 (by decide) (hts (.fieldLink RX2 29 "SeedDrawers" "orders" "[LSeedDrawers$Order;") (by decide +kernel)) rfl rfl dX2_init_94 ?_
  refine lv_iload_n hx hb dX2_init_97 rfl (lv_at hl 0 rfl) ?_
  refine v_new (ci := 1) (fs := [.int 0, .int 0, .int 0, .int 0, .int 0]) (C := RX1) (T := TX1) (n := 5) hx hb hts hin1 tyX1 tyX1_ok hown (hts (.classLink RX2 27 RX1) (by decide +kernel)) (hts (.instantiable RX1 5) (by decide +kernel)) (hts (.initialized RX1) (by decide +kernel)) hw (N1 := 26) rfl rfl (fun j hj => by rcases (show j = 0 ∨ j = 1 ∨ j = 2 ∨ j = 3 ∨ j = 4 by omega) with rfl | rfl | rfl | rfl | rfl <;> rfl) (Nat.le_of_ble_eq_true rfl) (Nat.le_of_ble_eq_true rfl) dX2_init_98 (fun a25 H hw => ?_)
  refine W.widen (k := 25) (n := 188) (by omega) (by omega) ?_
  refine lv_dup hx hb dX2_init_101 rfl ?_
  refine v_cX1 (i := 25) ⟨hx, hb, hml, hown, hts⟩ hw rfl hl.1 (Nat.le_of_ble_eq_true rfl) ⟨(Nat.le_of_ble_eq_true rfl), (Nat.le_of_ble_eq_true rfl)⟩ ⟨(Nat.le_of_ble_eq_true rfl), (Nat.le_of_ble_eq_true rfl)⟩ dX2_init_102 (fun H locs hw => ?_)
  refine v_aast (i := 21) (j := 25) (t0 := 3) (n := 8) (q := (RX1, TX1, 5)) hx hb hw (by decide) (by decide) rfl rfl rfl rfl rfl rfl (vp_in_iff.mpr (by decide)) (k := 3) rfl dX2_init_105 (fun H locs hw => ?_)
  refine lv_iinc (v := 4) (lv' := [(1, .int 4), (0, .ref a0)]) hx hb dX2_init_106 hl (k := 0) rfl (by decide) (by decide) rfl (fun ls hl => ?_)
  refine lv_goto (tgt := 87) hx hb dX2_init_109 (by decide) ?_
  refine lv_iload_n hx hb dX2_init_87 rfl (lv_at hl 0 rfl) ?_
  refine lv_bipush (v := 8) hx hb dX2_init_88 (by decide) ?_
  refine lv_icmp_ge (tgt := 112) hx hb dX2_init_90 (by decide) (fun h9 => absurd h9 (by decide)) (fun _ => ?_)
  refine lv_aload_n hx hb dX2_init_93 rfl (lv_at hl 1 rfl) ?_
  refine v_get (i := 0) hx hb hts hin2 hown hw (by decide) rfl rfl rfl 6 (by decide) (hts (.fieldLink RX2 29 "SeedDrawers" "orders" "[LSeedDrawers$Order;") (by decide +kernel)) rfl rfl dX2_init_94 ?_
  refine lv_iload_n hx hb dX2_init_97 rfl (lv_at hl 0 rfl) ?_
  refine v_new (ci := 1) (fs := [.int 0, .int 0, .int 0, .int 0, .int 0]) (C := RX1) (T := TX1) (n := 5) hx hb hts hin1 tyX1 tyX1_ok hown (hts (.classLink RX2 27 RX1) (by decide +kernel)) (hts (.instantiable RX1 5) (by decide +kernel)) (hts (.initialized RX1) (by decide +kernel)) hw (N1 := 27) rfl rfl (fun j hj => by rcases (show j = 0 ∨ j = 1 ∨ j = 2 ∨ j = 3 ∨ j = 4 by omega) with rfl | rfl | rfl | rfl | rfl <;> rfl) (Nat.le_of_ble_eq_true rfl) (Nat.le_of_ble_eq_true rfl) dX2_init_98 (fun a26 H hw => ?_)
  refine W.widen (k := 26) (n := 193) (by omega) (by omega) ?_
  refine lv_dup hx hb dX2_init_101 rfl ?_
  refine v_cX1 (i := 26) ⟨hx, hb, hml, hown, hts⟩ hw rfl hl.1 (Nat.le_of_ble_eq_true rfl) ⟨(Nat.le_of_ble_eq_true rfl), (Nat.le_of_ble_eq_true rfl)⟩ ⟨(Nat.le_of_ble_eq_true rfl), (Nat.le_of_ble_eq_true rfl)⟩ dX2_init_102 (fun H locs hw => ?_)
  refine v_aast (i := 21) (j := 26) (t0 := 3) (n := 8) (q := (RX1, TX1, 5)) hx hb hw (by decide) (by decide) rfl rfl rfl rfl rfl rfl (vp_in_iff.mpr (by decide)) (k := 4) rfl dX2_init_105 (fun H locs hw => ?_)
  refine lv_iinc (v := 5) (lv' := [(1, .int 5), (0, .ref a0)]) hx hb dX2_init_106 hl (k := 0) rfl (by decide) (by decide) rfl (fun ls hl => ?_)
  refine lv_goto (tgt := 87) hx hb dX2_init_109 (by decide) ?_
  refine lv_iload_n hx hb dX2_init_87 rfl (lv_at hl 0 rfl) ?_
  refine lv_bipush (v := 8) hx hb dX2_init_88 (by decide) ?_
  refine lv_icmp_ge (tgt := 112) hx hb dX2_init_90 (by decide) (fun h9 => absurd h9 (by decide)) (fun _ => ?_)
  refine lv_aload_n hx hb dX2_init_93 rfl (lv_at hl 1 rfl) ?_
  refine v_get (i := 0) hx hb hts hin2 hown hw (by decide) rfl rfl rfl 6 (by decide) (hts (.fieldLink RX2 29 "SeedDrawers" "orders" "[LSeedDrawers$Order;") (by decide +kernel)) rfl rfl dX2_init_94 ?_
  refine lv_iload_n hx hb dX2_init_97 rfl (lv_at hl 0 rfl) ?_
  refine v_new (ci := 1) (fs := [.int 0, .int 0, .int 0, .int 0, .int 0]) (C := RX1) (T := TX1) (n := 5) hx hb hts hin1 tyX1 tyX1_ok hown (hts (.classLink RX2 27 RX1) (by decide +kernel)) (hts (.instantiable RX1 5) (by decide +kernel)) (hts (.initialized RX1) (by decide +kernel)) hw (N1 := 28) rfl rfl (fun j hj => by rcases (show j = 0 ∨ j = 1 ∨ j = 2 ∨ j = 3 ∨ j = 4 by omega) with rfl | rfl | rfl | rfl | rfl <;> rfl) (Nat.le_of_ble_eq_true rfl) (Nat.le_of_ble_eq_true rfl) dX2_init_98 (fun a27 H hw => ?_)
  refine W.widen (k := 27) (n := 198) (by omega) (by omega) ?_
  refine lv_dup hx hb dX2_init_101 rfl ?_
  refine v_cX1 (i := 27) ⟨hx, hb, hml, hown, hts⟩ hw rfl hl.1 (Nat.le_of_ble_eq_true rfl) ⟨(Nat.le_of_ble_eq_true rfl), (Nat.le_of_ble_eq_true rfl)⟩ ⟨(Nat.le_of_ble_eq_true rfl), (Nat.le_of_ble_eq_true rfl)⟩ dX2_init_102 (fun H locs hw => ?_)
  refine v_aast (i := 21) (j := 27) (t0 := 3) (n := 8) (q := (RX1, TX1, 5)) hx hb hw (by decide) (by decide) rfl rfl rfl rfl rfl rfl (vp_in_iff.mpr (by decide)) (k := 5) rfl dX2_init_105 (fun H locs hw => ?_)
  refine lv_iinc (v := 6) (lv' := [(1, .int 6), (0, .ref a0)]) hx hb dX2_init_106 hl (k := 0) rfl (by decide) (by decide) rfl (fun ls hl => ?_)
  refine lv_goto (tgt := 87) hx hb dX2_init_109 (by decide) ?_
  refine lv_iload_n hx hb dX2_init_87 rfl (lv_at hl 0 rfl) ?_
  refine lv_bipush (v := 8) hx hb dX2_init_88 (by decide) ?_
  refine lv_icmp_ge (tgt := 112) hx hb dX2_init_90 (by decide) (fun h9 => absurd h9 (by decide)) (fun _ => ?_)
  refine lv_aload_n hx hb dX2_init_93 rfl (lv_at hl 1 rfl) ?_
  refine v_get (i := 0) hx hb hts hin2 hown hw (by decide) rfl rfl rfl 6 (by decide) (hts (.fieldLink RX2 29 "SeedDrawers" "orders" "[LSeedDrawers$Order;") (by decide +kernel)) rfl rfl dX2_init_94 ?_
  refine lv_iload_n hx hb dX2_init_97 rfl (lv_at hl 0 rfl) ?_
  refine v_new (ci := 1) (fs := [.int 0, .int 0, .int 0, .int 0, .int 0]) (C := RX1) (T := TX1) (n := 5) hx hb hts hin1 tyX1 tyX1_ok hown (hts (.classLink RX2 27 RX1) (by decide +kernel)) (hts (.instantiable RX1 5) (by decide +kernel)) (hts (.initialized RX1) (by decide +kernel)) hw (N1 := 29) rfl rfl (fun j hj => by rcases (show j = 0 ∨ j = 1 ∨ j = 2 ∨ j = 3 ∨ j = 4 by omega) with rfl | rfl | rfl | rfl | rfl <;> rfl) (Nat.le_of_ble_eq_true rfl) (Nat.le_of_ble_eq_true rfl) dX2_init_98 (fun a28 H hw => ?_)
  refine W.widen (k := 28) (n := 203) (by omega) (by omega) ?_
  refine lv_dup hx hb dX2_init_101 rfl ?_
  refine v_cX1 (i := 28) ⟨hx, hb, hml, hown, hts⟩ hw rfl hl.1 (Nat.le_of_ble_eq_true rfl) ⟨(Nat.le_of_ble_eq_true rfl), (Nat.le_of_ble_eq_true rfl)⟩ ⟨(Nat.le_of_ble_eq_true rfl), (Nat.le_of_ble_eq_true rfl)⟩ dX2_init_102 (fun H locs hw => ?_)
  refine v_aast (i := 21) (j := 28) (t0 := 3) (n := 8) (q := (RX1, TX1, 5)) hx hb hw (by decide) (by decide) rfl rfl rfl rfl rfl rfl (vp_in_iff.mpr (by decide)) (k := 6) rfl dX2_init_105 (fun H locs hw => ?_)
  refine lv_iinc (v := 7) (lv' := [(1, .int 7), (0, .ref a0)]) hx hb dX2_init_106 hl (k := 0) rfl (by decide) (by decide) rfl (fun ls hl => ?_)
  refine lv_goto (tgt := 87) hx hb dX2_init_109 (by decide) ?_
  refine lv_iload_n hx hb dX2_init_87 rfl (lv_at hl 0 rfl) ?_
  refine lv_bipush (v := 8) hx hb dX2_init_88 (by decide) ?_
  refine lv_icmp_ge (tgt := 112) hx hb dX2_init_90 (by decide) (fun h9 => absurd h9 (by decide)) (fun _ => ?_)
  refine lv_aload_n hx hb dX2_init_93 rfl (lv_at hl 1 rfl) ?_
  refine v_get (i := 0) hx hb hts hin2 hown hw (by decide) rfl rfl rfl 6 (by decide) (hts (.fieldLink RX2 29 "SeedDrawers" "orders" "[LSeedDrawers$Order;") (by decide +kernel)) rfl rfl dX2_init_94 ?_
  refine lv_iload_n hx hb dX2_init_97 rfl (lv_at hl 0 rfl) ?_
  refine v_new (ci := 1) (fs := [.int 0, .int 0, .int 0, .int 0, .int 0]) (C := RX1) (T := TX1) (n := 5) hx hb hts hin1 tyX1 tyX1_ok hown (hts (.classLink RX2 27 RX1) (by decide +kernel)) (hts (.instantiable RX1 5) (by decide +kernel)) (hts (.initialized RX1) (by decide +kernel)) hw (N1 := 30) rfl rfl (fun j hj => by rcases (show j = 0 ∨ j = 1 ∨ j = 2 ∨ j = 3 ∨ j = 4 by omega) with rfl | rfl | rfl | rfl | rfl <;> rfl) (Nat.le_of_ble_eq_true rfl) (Nat.le_of_ble_eq_true rfl) dX2_init_98 (fun a29 H hw => ?_)
  refine W.widen (k := 29) (n := 208) (by omega) (by omega) ?_
  refine lv_dup hx hb dX2_init_101 rfl ?_
  refine v_cX1 (i := 29) ⟨hx, hb, hml, hown, hts⟩ hw rfl hl.1 (Nat.le_of_ble_eq_true rfl) ⟨(Nat.le_of_ble_eq_true rfl), (Nat.le_of_ble_eq_true rfl)⟩ ⟨(Nat.le_of_ble_eq_true rfl), (Nat.le_of_ble_eq_true rfl)⟩ dX2_init_102 (fun H locs hw => ?_)
  refine v_aast (i := 21) (j := 29) (t0 := 3) (n := 8) (q := (RX1, TX1, 5)) hx hb hw (by decide) (by decide) rfl rfl rfl rfl rfl rfl (vp_in_iff.mpr (by decide)) (k := 7) rfl dX2_init_105 (fun H locs hw => ?_)
  refine lv_iinc (v := 8) (lv' := [(1, .int 8), (0, .ref a0)]) hx hb dX2_init_106 hl (k := 0) rfl (by decide) (by decide) rfl (fun ls hl => ?_)
  refine lv_goto (tgt := 87) hx hb dX2_init_109 (by decide) ?_
  refine lv_iload_n hx hb dX2_init_87 rfl (lv_at hl 0 rfl) ?_
  refine lv_bipush (v := 8) hx hb dX2_init_88 (by decide) ?_
  refine lv_icmp_ge (tgt := 112) hx hb dX2_init_90 (by decide) (fun _ => ?_) (fun h9 => absurd (by decide) h9)
  refine lv_aload_n hx hb dX2_init_112 rfl (lv_at hl 1 rfl) ?_
  refine lv_bipush (v := 8) hx hb dX2_init_113 (by decide) ?_
  refine v_newi (N' := 8) hx hb (hts (.arrayClass .int) (by decide +kernel)) hw (N1 := 31) rfl (by decide) (by decide) (by decide) (Nat.le_of_ble_eq_true rfl) (Nat.le_of_ble_eq_true rfl) dX2_init_115 (fun a30 H hw => ?_)
  refine W.widen (k := 30) (n := 216) (by omega) (by omega) ?_
  refine v_putF (i := 0) (ty := (.array .int)) hx hb hts hin2 tyX2 tyX2_ok nmX2 hown hw (by decide) rfl rfl rfl 8 (by decide) (hts (.fieldLink RX2 34 "SeedDrawers" "metFaults" "[I") (by decide +kernel)) rfl rfl hnm rfl (by decide +kernel) rfl rfl (Nat.le_of_ble_eq_true rfl) dX2_init_117 (fun H locs hw => ?_)
  refine lv_aload_n hx hb dX2_init_120 rfl (lv_at hl 1 rfl) ?_
  refine lv_iconst (v := 5) hx hb dX2_init_121 (by decide) ?_
  refine v_newi (N' := 5) hx hb (hts (.arrayClass .int) (by decide +kernel)) hw (N1 := 32) rfl (by decide) (by decide) (by decide) (Nat.le_of_ble_eq_true rfl) (Nat.le_of_ble_eq_true rfl) dX2_init_122 (fun a31 H hw => ?_)
  refine W.widen (k := 31) (n := 221) (by omega) (by omega) ?_
  refine v_putF (i := 0) (ty := (.array .int)) hx hb hts hin2 tyX2 tyX2_ok nmX2 hown hw (by decide) rfl rfl rfl 11 (by decide) (hts (.fieldLink RX2 38 "SeedDrawers" "faultCounts" "[I") (by decide +kernel)) rfl rfl hnm rfl (by decide +kernel) rfl rfl (Nat.le_of_ble_eq_true rfl) dX2_init_124 (fun H locs hw => ?_)
  exact v_vret (N := 32) hx hb hr hlocks hw dX2_init_127 ⟨rfl, rfl, rfl, rfl, rfl, rfl, rfl, rfl, rfl, rfl, rfl, rfl, rfl, rfl, rfl, rfl, rfl, rfl, rfl, rfl, rfl, rfl, rfl, rfl, rfl, rfl, rfl, rfl, rfl, rfl, rfl, rfl, rfl⟩
