set_option maxHeartbeats 4000000 in
set_option maxRecDepth 100000 in
theorem k_X0_init (l : Launch) (D : va_G) (y : Nat → ClassId) (z : Nat) (loc : Nat → Nat) (g : Nat → va_E) (N i : Nat) (hi : i < N) (hg : g i = .inr (0, [.int 0, .int 0, .int 0, .null])) : Met l yX0_init wsX0_init ({ frames := 1, cells := 1, slots := 12, locals := 12 }) (vP D y z loc g N [.ref (loc i)]) (va_Qv (fun _ : Nat => True) (fun q t => vI D y z (va_up loc N q) (va_up (va_up g N (.inl (y 1, 12, .inr (.inl (fun _ => 0))))) i (.inr (0, [.int 0, .int 0, .int 0, .ref q]))) (N + 1) t t.heap) (fun q => z ≤ q)) 1 12 (fun q => z ≤ q) := by
  refine v_ent (cc := cX0_init) (maxL := 1) (ret := none) (vs := [.ref (loc i)]) (by decide) rfl (Nat.le_of_ble_eq_true rfl) ?_
  intro p e s m below meth cd ls hx hb hr hml hown hts hlocks hnm hl hw
  have hl : lv_has ls 1 [(0, .ref (loc i))] := hl
  have hown : s.vm.findClass RX0 = some m.cls := hown
  have hin0 : ∀ w ∈ u_ws RX0 TX0 4, w ∈ wsX0_init := by decide +kernel
  refine lv_aload_n hx hb dX0_init_0 rfl (lv_at hl 0 rfl) ?_
  refine W.objInit hx hb hown (hts (.methodLink RX0 3 objectInit) (by decide +kernel)) (hts (.instanceMethod objectInit) (by decide +kernel)) (hts _ (List.mem_of_getElem? (i := 3) rfl)) rfl (by rw [hml]; exact hl.1) rfl dX0_init_1 (Nat.le_of_ble_eq_true rfl) (Nat.le_of_ble_eq_true rfl) ?_
  refine W.eq (g2 := F0 m 4 ls []) rfl ?_
  refine lv_aload_n hx hb dX0_init_4 rfl (lv_at hl 0 rfl) ?_
  refine lv_bipush (v := 12) hx hb dX0_init_5 (by decide) ?_
  refine v_newl (N' := 12) hx hb (hts (.arrayClass .long) (by decide +kernel)) hw rfl (by decide) rfl (by decide) (Nat.le_of_ble_eq_true rfl) (Nat.le_of_ble_eq_true rfl) dX0_init_7 (fun q H hw => ?_)
  refine W.widen (k := 1) (n := 12) (by omega) (by omega) ?_
  have hne : ¬ i = N := by omega
  refine v_putF (i := i) (a := loc i) (fs := [.int 0, .int 0, .int 0, .null]) (v := .ref q) (ty := .array .long) hx hb hts hin0 tyX0 tyX0_ok nmX0 hown hw (by omega) (va_up_ne _ _ hne) ((va_up_ne _ _ hne).trans hg) rfl 3 (by decide) (hts (.fieldLink RX0 9 "SeedDrawers$Content" "values" "[J") (by decide +kernel)) rfl rfl hnm rfl (by decide +kernel) rfl rfl (by decide) dX0_init_9 (fun H locs hw => ?_)
  exact W.vret hx hb hr (fun t ht hW => ⟨⟨q, rfl, trivial, vI_to hw.1 ht hW⟩, hw.2.1.F ht⟩) hw.2.1.2.2 dX0_init_12 hlocks
set_option maxHeartbeats 4000000 in
set_option maxRecDepth 100000 in
theorem k_X1_init (l : Launch) (D : va_G) (y : Nat → ClassId) (z : Nat) (loc : Nat → Nat) (g : Nat → va_E) (N i : Nat) : Met l yX1_init wsX1_init ({ frames := 1, cells := 0, slots := 0, locals := 12 }) (vP D y z loc g N [.ref (loc i)]) (va_Qv (fun _ : Unit => True) (fun _ t => vI D y z loc g N t t.heap) (fun q => z ≤ q)) 0 0 (fun q => z ≤ q) := by
  refine v_ent (cc := cX1_init) (maxL := 1) (ret := none) (vs := [.ref (loc i)]) (by decide) rfl (Nat.le_of_ble_eq_true rfl) ?_
  intro p e s m below meth cd ls hx hb hr hml hown hts hlocks hnm hl hw
  have hl : lv_has ls 1 [(0, .ref (loc i))] := hl
  have hown : s.vm.findClass RX1 = some m.cls := hown
  refine lv_aload_n hx hb dX1_init_0 rfl (lv_at hl 0 rfl) ?_
  refine W.objInit hx hb hown (hts (.methodLink RX1 1 objectInit) (by decide +kernel)) (hts (.instanceMethod objectInit) (by decide +kernel)) (hts _ (List.mem_of_getElem? (i := 3) rfl)) rfl (by rw [hml]; exact hl.1) rfl dX1_init_1 (Nat.le_of_ble_eq_true rfl) (Nat.le_of_ble_eq_true rfl) ?_
  refine W.eq (g2 := F0 m 4 ls []) rfl ?_
  exact W.vret hx hb hr (fun t ht hW => ⟨⟨(), rfl, trivial, vI_to hw.1 ht hW⟩, hw.2.1.F ht⟩) hw.2.1.2.2 dX1_init_4 hlocks
section VC2
variable {p : Program} {l : Launch} {e : Env} {R : Room} {s : State} {m : MethodId} {args : Array Value} {below : List Frame} {meth : Method} {cd : Code} {H0 H : Heap} {locs : List Loc} {cells slots : Nat} {Q : State → Prop} {D : va_G} {y : Nat → ClassId} {z : Nat} {loc : Nat → Nat} {g : Nat → va_E} {N : Nat} {cc : ByteArray} {pc nL : Nat} {ls : Array Slot} {rest : List Value}
theorem v_cX0 (S : CallFix p m cd cc nL s args wsX2_init RX2) (hw : vW D y z loc g N s H0 H locs) {i a N1 : Nat} (hi : i < N) (ha : loc i = a) (hg : g i = .inr (0, [.int 0, .int 0, .int 0, .null])) (hN1 : N + 1 = N1) (hl : ls.size = nL) (hrm : (rest.map fun v => v.category).sum ≤ 8) (hR : 1 + 1 ≤ R.frames ∧ 8 + (1 + 11) + 12 ≤ R.locals) (hf : cells + 1 ≤ R.cells ∧ slots + 12 ≤ R.slots) (hdg : decode cc pc = .ok (.invokespecial 9, 3)) (kk : ∀ (q : Nat) (H1 : Heap) (locs1 : List Loc), vW D y z (va_up loc N q) (va_up (va_up g N (.inl (y 1, 12, .inr (.inl (fun _ => 0))))) i (.inr (0, [.int 0, .int 0, .int 0, .ref q]))) N1 s H0 H1 locs1 → W p l e R s m args below meth cd H1 locs1 (cells + 1) (slots + 12) Q (F0 m (pc + 3) ls rest)) : W p l e R s m args below meth cd H locs cells slots Q (F0 m pc ls (.ref a :: rest)) := by
  subst ha hN1
  have hts := S.2.2.2.2
  refine va_callv (va_runIN (As := []) (rest := rest) S (k_X0_init l D y z loc g N i hi hg) ⟨va_cnB 0 hts gX2_init_X0_init_n9 rfl rfl rfl hw.1.2.2.2.2.2.1 (hts (.initialized RX0) (by decide +kernel)) (by decide +kernel) hR, rfl, hts (.instanceMethod yX0_init) (by decide +kernel)⟩ (v_preS hw [.ref (loc i)]) rfl rfl hl rfl (lv_room hrm) hdg hf) hw.2.1 (fun _ _ h => h) (fun _ h => h) (fun q t H1 locs1 ht hvm _ hB _ _ hS => ?_)
  exact kk q H1 locs1 (vW_back hw ht hvm hB hS)
theorem v_cX1 (S : CallFix p m cd cc nL s args wsX2_init RX2) (hw : vW D y z loc g N s H0 H locs) {i a : Nat} (ha : loc i = a) (hl : ls.size = nL) (hrm : (rest.map fun v => v.category).sum ≤ 8) (hR : 1 + 1 ≤ R.frames ∧ 8 + (1 + 11) + 12 ≤ R.locals) (hf : cells + 0 ≤ R.cells ∧ slots + 0 ≤ R.slots) (hdg : decode cc pc = .ok (.invokespecial 33, 3)) (kk : ∀ (H1 : Heap) (locs1 : List Loc), vW D y z loc g N s H0 H1 locs1 → W p l e R s m args below meth cd H1 locs1 cells slots Q (F0 m (pc + 3) ls rest)) : W p l e R s m args below meth cd H locs cells slots Q (F0 m pc ls (.ref a :: rest)) := by
  subst ha
  have hts := S.2.2.2.2
  refine va_callv (va_runIN (As := []) (rest := rest) S (k_X1_init l D y z loc g N i) ⟨va_cnB 0 hts gX2_init_X1_init_n33 rfl rfl rfl hw.1.2.2.2.2.2.2.1 (hts (.initialized RX1) (by decide +kernel)) (by decide +kernel) hR, rfl, hts (.instanceMethod yX1_init) (by decide +kernel)⟩ (v_preS hw [.ref (loc i)]) rfl rfl hl rfl (lv_room hrm) hdg hf) hw.2.1 (fun _ _ h => h) (fun _ h => h) (fun q t H1 locs1 ht hvm _ hB _ _ hS => ?_)
  exact kk H1 locs1 (vW_back hw ht hvm hB hS)
end VC2
