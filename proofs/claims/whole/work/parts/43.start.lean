set_option maxHeartbeats 4000000 in
set_option maxRecDepth 100000 in
/-- THE LAW, from its entry -/
theorem whole_start {p : Program} {e : Env} {s : State} {m : MethodId} {below : List Frame} {meth : Method} {c : Code} (l : Launch) {b L : Nat} {xs : Nat → Int32} (hL : L ≤ 3072) (C0 : lw_At p s m meth c b L xs) : W p l e room_1 s m #[Value.ref b] below meth c s.heap [] 0 0 (lw_Z below #[Value.ref b] s) (entryFrame m ([Value.ref b] : List Value).toArray 4) := by
  obtain ⟨hx, hb, hr, hml, hown, hts0, hX, hbl, hlocks, hgv⟩ := id C0
  have hts : ∀ w ∈ wsL_law, w.before #[Value.ref b] s = true := fun w q => hts0 w (wsL_law_in w q)
  have hown : s.vm.findClass RL = some m.cls := hown
  have hb : c.code = cL_law := hb
  obtain ⟨k0, iS0, hKn0⟩ := u_known (C := RX0) (T := TX0) (N := 4) (n := 4) hts inlX0 (hts (.instantiable RX0 4) (by decide +kernel))
  obtain ⟨k1, iS1, hKn1⟩ := u_known (C := RX1) (T := TX1) (N := 5) (n := 5) hts inlX1 (hts (.instantiable RX1 5) (by decide +kernel))
  obtain ⟨k2, iS2, hKn2⟩ := u_known (C := RX2) (T := TX2) (N := 12) (n := 12) hts inlX2 (hts (.instantiable RX2 12) (by decide +kernel))
  obtain ⟨k3, iS3, hKn3⟩ := u_known (C := RX3) (T := TX3) (N := 18) (n := 18) hts inlX3 (hts (.instantiable RX3 18) (by decide +kernel))
  obtain ⟨D, hKc⟩ : ∃ D : va_G, ∀ (k : Nat) (q : vw_C), vwCl[k]? = some q → u_Kn s q.1 q.2.1 q.2.2 (D.1 k) (D.2 k) := by
    refine ⟨(fun k => if k = 0 then k0 else if k = 1 then k1 else if k = 2 then k2 else k3, fun k => if k = 0 then iS0 else if k = 1 then iS1 else if k = 2 then iS2 else iS3), ?_⟩
    intro k q hq
    match k, hq with
    | 0, hq => cases hq; exact hKn0
    | 1, hq => cases hq; exact hKn1
    | 2, hq => cases hq; exact hKn2
    | 3, hq => cases hq; exact hKn3
    | k + 4, hq => simp [vwCl] at hq
  obtain ⟨yI, kI, cI, i1, i2, i3⟩ := Cond.arrayClass_spec (hts (.arrayClass .int) (by decide +kernel))
  obtain ⟨yJ, kJ, cJ, j1, j2, j3⟩ := Cond.arrayClass_spec (hts (.arrayClass .long) (by decide +kernel))
  have ao0 : (Cond.arrayOver (.object RX0)).before #[Value.ref b] s = true := hts0 _ (by decide +kernel)
  have ao1 : (Cond.arrayOver (.object RX1)).before #[Value.ref b] s = true := hts0 _ (by decide +kernel)
  obtain ⟨cP, yP, kP, p1, p2, p3, p4, p5⟩ := Cond.arrayOver_spec ao0
  obtain ⟨cQ, yQ, kQ, q1, q2, q3, q4, q5⟩ := Cond.arrayOver_spec ao1
  obtain ⟨y, y0, y1, y2, y3⟩ : ∃ y : Nat → ClassId, y 0 = yI ∧ y 1 = yJ ∧ y 2 = yP ∧ y 3 = yQ := ⟨fun k => if k = 0 then yI else if k = 1 then yJ else if k = 2 then yP else yQ, rfl, rfl, rfl, rfl⟩
  subst y0 y1 y2 y3
  have hK : va_K D vwCl (vT y) s := by
    refine ⟨hKc, fun k q hq => ?_⟩
    match k, hq with
    | 0, hq => cases hq; exact ⟨fun n z => ⟨fun k h => (by cases h), kI, i2, cI, i3⟩, i1⟩
    | 1, hq => cases hq; exact ⟨fun n z => ⟨fun k h => (by cases h), kJ, j2, cJ, j3⟩, j1⟩
    | 2, hq => cases hq; exact ⟨fun n z => ⟨fun k h => (by cases h), kP, p3, cP, p4⟩, ⟨kP, cP, p3, p4, p1, p5⟩⟩
    | 3, hq => cases hq; exact ⟨fun n z => ⟨fun k h => (by cases h), kQ, q3, cQ, q4⟩, ⟨kQ, cQ, q3, q4, q1, q5⟩⟩
    | k + 4, hq => simp [vT] at hq
  have hN : vN s := ⟨va_Nw.of rfl (hts0 (.methodLinkNest RX0 33 yX2_fits RX2) (by decide +kernel)), va_Nw.of rfl (hts0 (.methodLinkNest RX2 9 yX0_init RX2) (by decide +kernel)), va_Nw.of rfl (hts0 (.methodLinkNest RX2 33 yX1_init RX2) (by decide +kernel)), ao0, ao1⟩
  have hw : vW D y s.heap.size (fun _ => 0) (fun _ => .inr (0, [])) 0 s s.heap s.heap [] := ⟨⟨fun k q h => by simp [vL] at h, hK, ⟨fun i j p q h => by simp [vL] at h, fun k q h => by simp [vL] at h⟩, Nat.le_refl _, hN⟩, va_S.rf, Nat.le_refl _⟩
  have hl := lv_entry ([.ref b]) (n := 4) (Nat.le_of_ble_eq_true rfl)
  rw [lg_entry_eq]
  generalize (lg_sl ([.ref b]) ++ List.replicate (4 - (lg_sl ([.ref b])).length) Slot.unset).toArray = ls at hl ⊢
  have hl : lv_has ls 4 [(0, .ref b)] := hl
  refine v_new (ci := 2) (fs := [.null, .null, .null, .int 0, .long 0, .int 0, .null, .int 0, .null, .int 0, .int 0, .null]) (C := RX2) (T := TX2) (n := 12) hx hb hts inlX2 tyX2 tyX2_ok hown (hts (.classLink RL 7 RX2) (by decide +kernel)) (hts (.instantiable RX2 12) (by decide +kernel)) (hts (.initialized RX2) (by decide +kernel)) hw (N1 := 1) rfl rfl (fun j hj => by rcases (show j = 0 ∨ j = 1 ∨ j = 2 ∨ j = 3 ∨ j = 4 ∨ j = 5 ∨ j = 6 ∨ j = 7 ∨ j = 8 ∨ j = 9 ∨ j = 10 ∨ j = 11 by omega) with rfl | rfl | rfl | rfl | rfl | rfl | rfl | rfl | rfl | rfl | rfl | rfl <;> rfl) (Nat.le_of_ble_eq_true rfl) (Nat.le_of_ble_eq_true rfl) dL_law_0 (fun a0 H hw => ?_)
  refine W.widen (k := 1) (n := 12) (by omega) (by omega) ?_
  refine lv_dup hx hb dL_law_3 rfl ?_
  refine va_callv (va_runI (As := []) (rest := [.ref a0]) ⟨hx, hb, hml, hown, hts⟩ (k_X2_init l D y s.heap.size (fun _ => 0) (fun _ => .inr (0, [])) a0) (cwI 0 hts gL_law_X2_init rfl rfl rfl (hts (.initialized RX2) (by decide +kernel)) (hts (.methodLink RL 9 yX2_init) (by decide +kernel)) (hts (.instanceMethod yX2_init) (by decide +kernel)) rfl (by decide +kernel) ⟨Nat.le_of_ble_eq_true rfl, Nat.le_of_ble_eq_true rfl⟩) (v_preS hw [.ref a0]) rfl rfl hl.1 rfl (lv_room (Nat.le_of_ble_eq_true rfl)) dL_law_4 ⟨Nat.le_of_ble_eq_true rfl, Nat.le_of_ble_eq_true rfl⟩) hw.2.1 (fun _ _ h => h) (fun _ h => h) (fun u t H locs ht hvm hpC hB _ _ hS => ?_)
  have hw := vW_back hw ht hvm hB hS
  refine W.widen (k := 32) (n := 233) (by omega) (by omega) ?_
  refine lv_astore_n (lv' := [(1, .ref a0), (0, .ref b)]) hx hb dL_law_7 rfl hl (by decide) rfl (fun ls hl => ?_)
  refine v_new (ci := 3) (fs := [.null, .null, .null, .int 0, .null, .null, .null, .int 0, .int 0, .long 0, .int 0, .int 0, .null, .int 0, .null, .int 0, .null, .int 0]) (C := RX3) (T := TX3) (n := 18) hx hb hts inlX3 tyX3 tyX3_ok hown (hts (.classLink RL 10 RX3) (by decide +kernel)) (hts (.instantiable RX3 18) (by decide +kernel)) (hts (.initialized RX3) (by decide +kernel)) hw (N1 := 33) rfl rfl (fun j hj => by rcases (show j = 0 ∨ j = 1 ∨ j = 2 ∨ j = 3 ∨ j = 4 ∨ j = 5 ∨ j = 6 ∨ j = 7 ∨ j = 8 ∨ j = 9 ∨ j = 10 ∨ j = 11 ∨ j = 12 ∨ j = 13 ∨ j = 14 ∨ j = 15 ∨ j = 16 ∨ j = 17 by omega) with rfl | rfl | rfl | rfl | rfl | rfl | rfl | rfl | rfl | rfl | rfl | rfl | rfl | rfl | rfl | rfl | rfl | rfl <;> rfl) (Nat.le_of_ble_eq_true rfl) (Nat.le_of_ble_eq_true rfl) dL_law_8 (fun b0 H hw => ?_)
  refine W.widen (k := 33) (n := 251) (by omega) (by omega) ?_
  refine lv_dup hx hb dL_law_11 rfl ?_
  refine va_callv (va_runI (As := []) (rest := [.ref b0]) ⟨hx, hb, hml, hown, hts⟩ (k_X3_init l D y s.heap.size u.1 u.2 b0) (cwI 0 hts gL_law_X3_init rfl rfl rfl (hts (.initialized RX3) (by decide +kernel)) (hts (.methodLink RL 12 yX3_init) (by decide +kernel)) (hts (.instanceMethod yX3_init) (by decide +kernel)) rfl (by decide +kernel) ⟨Nat.le_of_ble_eq_true rfl, Nat.le_of_ble_eq_true rfl⟩) (v_preS hw [.ref b0]) rfl rfl hl.1 rfl (lv_room (Nat.le_of_ble_eq_true rfl)) dL_law_12 ⟨Nat.le_of_ble_eq_true rfl, Nat.le_of_ble_eq_true rfl⟩) hw.2.1 (fun _ _ h => h) (fun _ h => h) (fun w t2 H locs ht2 hvm2 hpM hB2 _ _ hS2 => ?_)
  have hw := vW_back hw ht2 hvm2 hB2 hS2
  refine W.widen (k := 42) (n := 70328) (by omega) (by omega) ?_
  refine lv_astore_n (lv' := [(2, .ref b0), (1, .ref a0), (0, .ref b)]) hx hb dL_law_15 rfl hl (by decide) rfl (fun ls hl => ?_)
  refine lv_iconst (v := 0) hx hb dL_law_16 (by decide) ?_
  refine lv_istore_n (lv' := [(3, .int 0), (2, .ref b0), (1, .ref a0), (0, .ref b)]) hx hb dL_law_17 rfl hl (by decide) rfl (fun ls hl => ?_)
  have hzW : zW (zEw D y s.heap.size w) c0s m0s s s.heap H locs := ⟨zI_0 (pW_of hpC hpM) hw.1, hw.2.1, hw.2.2⟩
  have hlW := hl
  have ea : w.1 0 = a0 := (hpM.1 0 (by decide)).1.trans hpC.1
  have eb : w.1 32 = b0 := hpM.2.1
  subst ea eb
  exact law_loop (E := zEw D y s.heap.size w) hL C0 rfl (L + 7) 0 c0s m0s _ _ _ (by omega) (by omega) Inv_0 hzW (lv_sub hlW [3, 2, 1, 0] rfl)
