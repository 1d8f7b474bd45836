theorem sc_in {t L : Nat} (k : Nat) {y : Int32} (hk : k < 6) (h : 6 * t + 6 ≤ L) (hL : L ≤ 3072) (hy : y = nI k) : vp_in (nI (6 * t) + y) L := by
  rw [hy, nI_add]; exact vp_in_nI (by omega) (by omega)
theorem sc_in0 {t L : Nat} (h : 6 * t + 6 ≤ L) (hL : L ≤ 3072) : vp_in (nI (6 * t)) L := vp_in_nI (by omega) (by omega)
theorem n6 (t : Nat) : nI (6 * t) + 6 = nI (6 * (t + 1)) := by
  rw [show (6 : Int32) = nI 6 from rfl, nI_add, show 6 * t + 6 = 6 * (t + 1) by omega]
theorem Inv_row {c : zC} {m : zM} {t : Nat} (h : Inv c m t) (ht : t < 4000) : vp_in (m.1 32 3) 5000 := by
  obtain ⟨n, h1, h2, -⟩ := h.2.2
  rw [h2]; exact vp_in_nI (by omega) (by decide)
set_option maxHeartbeats 4000000 in
set_option maxRecDepth 100000 in
theorem lc_row {p : Program} {l : Launch} {e : Env} {s : State} {m : MethodId} {below : List Frame} {meth : Method} {cd : Code} {b L t : Nat} {xs : Nat → Int32} {E : zE} {c : zC} {mo : zM} {H : Heap} {locs : List Loc} {ls : Array Slot} (hL : L ≤ 3072) (C0 : lw_At p s m meth cd b L xs) (hz : zz E = s.heap.size) (h6 : 6 * t + 6 ≤ L) (h : Inv c mo t) (ih : ∀ (c : zC) (mo : zM) (H : Heap) (locs : List Loc) (ls : Array Slot), Inv c mo (t + 1) → zW E c mo s s.heap H locs → lv_has ls 4 [(0, .ref b), (1, .ref (zl E 0)), (2, .ref (zl E 32)), (3, .int (nI (6 * (t + 1))))] → W p l e room_1 s m #[Value.ref b] below meth cd H locs 42 70328 (lw_Z below #[Value.ref b] s) (F0 m 18 ls [])) (hw : zW E c mo s s.heap H locs) (hl : lv_has ls 4 [(0, .ref b), (1, .ref (zl E 0)), (2, .ref (zl E 32)), (3, .int (nI (6 * t)))]) : W p l e room_1 s m #[Value.ref b] below meth cd H locs 42 70328 (lw_Z below #[Value.ref b] s) (F0 m 140 ls []) := by
  obtain ⟨hx, hb, hr, hml, hown, hts0, hX, hbl, hlocks, hgv⟩ := id C0
  have hts : ∀ w ∈ wsL_law, w.before #[Value.ref b] s = true := fun w q => hts0 w (wsL_law_in w q)
  have hown : s.vm.findClass RL = some m.cls := hown
  have hb : cd.code = cL_law := hb
  have hbA : ¬ zA E b := by unfold zA; rw [hz]; exact Nat.not_le.mpr hbl
  have ht : t < 4000 := by omega
  have hwf : wfC c := h.1.1
  have hwm : wfM mo := h.1.2.1
  have hrow : vp_in (mo.1 32 3) 5000 := Inv_row h ht
  refine lv_aload_n hx hb dL_law_140 rfl (lv_at hl 1 rfl) ?_
  refine lv_aload_n hx hb dL_law_141 rfl (lv_at hl 0 rfl) ?_
  refine lv_iload_n hx hb dL_law_142 rfl (lv_at hl 3 rfl) ?_
  refine lv_iconst (v := 1) hx hb dL_law_143 (by decide) ?_
  refine lv_iadd hx hb dL_law_144 ?_
  refine va_sld hx hb hX hbl hbA hw.2.1 (sc_in 1 (by decide) h6 hL rfl) dL_law_145 ?_
  refine lv_aload_n hx hb dL_law_146 rfl (lv_at hl 0 rfl) ?_
  refine lv_iload_n hx hb dL_law_147 rfl (lv_at hl 3 rfl) ?_
  refine lv_iconst (v := 2) hx hb dL_law_148 (by decide) ?_
  refine lv_iadd hx hb dL_law_149 ?_
  refine va_sld hx hb hX hbl hbA hw.2.1 (sc_in 2 (by decide) h6 hL rfl) dL_law_150 ?_
  refine lv_aload_n hx hb dL_law_151 rfl (lv_at hl 0 rfl) ?_
  refine lv_iload_n hx hb dL_law_152 rfl (lv_at hl 3 rfl) ?_
  refine lv_iconst (v := 3) hx hb dL_law_153 (by decide) ?_
  refine lv_iadd hx hb dL_law_154 ?_
  refine va_sld hx hb hX hbl hbA hw.2.1 (sc_in 3 (by decide) h6 hL rfl) dL_law_155 ?_
  refine z_calli (rest := []) (va_runV (As := [.int (xs ((nI (6 * t)) + 1).toNatClampNeg), .int (xs ((nI (6 * t)) + 2).toNatClampNeg), .int (xs ((nI (6 * t)) + 3).toNatClampNeg)]) (rest := []) ⟨hx, hb, hml, hown, hts⟩ (k_X2_row l E c mo (xs ((nI (6 * t)) + 1).toNatClampNeg) (xs ((nI (6 * t)) + 2).toNatClampNeg) (xs ((nI (6 * t)) + 3).toNatClampNeg) (by assumption)) (cwV 3 hts gL_law_X2_row rfl rfl rfl (by decide +kernel) ⟨Nat.le_of_ble_eq_true rfl, Nat.le_of_ble_eq_true rfl⟩) (z_preV hw (by decide) zG_0 rfl [.int (xs ((nI (6 * t)) + 1).toNatClampNeg), .int (xs ((nI (6 * t)) + 2).toNatClampNeg), .int (xs ((nI (6 * t)) + 3).toNatClampNeg)]) rfl rfl hl.1 rfl (lv_room (Nat.le_of_ble_eq_true rfl)) dL_law_156 ⟨Nat.le_of_ble_eq_true rfl, Nat.le_of_ble_eq_true rfl⟩) hw (fun H locs hw => ?_)
  refine lv_aload_n hx hb dL_law_159 rfl (lv_at hl 2 rfl) ?_
  refine lv_aload_n hx hb dL_law_160 rfl (lv_at hl 0 rfl) ?_
  refine lv_iload_n hx hb dL_law_161 rfl (lv_at hl 3 rfl) ?_
  refine lv_iconst (v := 1) hx hb dL_law_162 (by decide) ?_
  refine lv_iadd hx hb dL_law_163 ?_
  refine va_sld hx hb hX hbl hbA hw.2.1 (sc_in 1 (by decide) h6 hL rfl) dL_law_164 ?_
  refine lv_aload_n hx hb dL_law_165 rfl (lv_at hl 0 rfl) ?_
  refine lv_iload_n hx hb dL_law_166 rfl (lv_at hl 3 rfl) ?_
  refine lv_iconst (v := 2) hx hb dL_law_167 (by decide) ?_
  refine lv_iadd hx hb dL_law_168 ?_
  refine va_sld hx hb hX hbl hbA hw.2.1 (sc_in 2 (by decide) h6 hL rfl) dL_law_169 ?_
  refine lv_aload_n hx hb dL_law_170 rfl (lv_at hl 0 rfl) ?_
  refine lv_iload_n hx hb dL_law_171 rfl (lv_at hl 3 rfl) ?_
  refine lv_iconst (v := 3) hx hb dL_law_172 (by decide) ?_
  refine lv_iadd hx hb dL_law_173 ?_
  refine va_sld hx hb hX hbl hbA hw.2.1 (sc_in 3 (by decide) h6 hL rfl) dL_law_174 ?_
  refine z_calli (rest := [.int (rRow (xs ((nI (6 * t)) + 1).toNatClampNeg) (xs ((nI (6 * t)) + 2).toNatClampNeg) (xs ((nI (6 * t)) + 3).toNatClampNeg))]) (va_runV (As := [.int (xs ((nI (6 * t)) + 1).toNatClampNeg), .int (xs ((nI (6 * t)) + 2).toNatClampNeg), .int (xs ((nI (6 * t)) + 3).toNatClampNeg)]) (rest := [.int (rRow (xs ((nI (6 * t)) + 1).toNatClampNeg) (xs ((nI (6 * t)) + 2).toNatClampNeg) (xs ((nI (6 * t)) + 3).toNatClampNeg))]) ⟨hx, hb, hml, hown, hts⟩ (k_X3_row l E (sRow c (xs ((nI (6 * t)) + 1).toNatClampNeg) (xs ((nI (6 * t)) + 2).toNatClampNeg) (xs ((nI (6 * t)) + 3).toNatClampNeg)) mo (xs ((nI (6 * t)) + 1).toNatClampNeg) (xs ((nI (6 * t)) + 2).toNatClampNeg) (xs ((nI (6 * t)) + 3).toNatClampNeg) (by assumption)) (cwV 3 hts gL_law_X3_row rfl rfl rfl (by decide +kernel) ⟨Nat.le_of_ble_eq_true rfl, Nat.le_of_ble_eq_true rfl⟩) (z_preV hw (by decide) zG_32 rfl [.int (xs ((nI (6 * t)) + 1).toNatClampNeg), .int (xs ((nI (6 * t)) + 2).toNatClampNeg), .int (xs ((nI (6 * t)) + 3).toNatClampNeg)]) rfl rfl hl.1 rfl (lv_room (Nat.le_of_ble_eq_true rfl)) dL_law_175 ⟨Nat.le_of_ble_eq_true rfl, Nat.le_of_ble_eq_true rfl⟩) hw (fun H locs hw => ?_)
  refine lv_icmp_eq (tgt := 831) hx hb dL_law_178 (by decide) (fun q_1 => ?_) (fun q_1 => ?_)
  · have _ := hx
    refine lv_iinc (v := nI (6 * (t + 1))) (lv' := [(3, .int (nI (6 * (t + 1)))), (0, .ref b), (1, .ref (zl E 0)), (2, .ref (zl E 32))]) hx hb dL_law_831 hl (k := 3) rfl (n6 t) (by decide) rfl (fun ls hl => ?_)
    refine lv_goto (tgt := 18) hx hb dL_law_834 (by decide) ?_
    exact ih _ _ _ _ _ (op_row h ht).2 hw (lv_sub hl [1, 2, 3, 0] rfl)
  · exact (absurd (op_row h ht).1 q_1)
set_option maxHeartbeats 4000000 in
set_option maxRecDepth 100000 in
theorem lc_note {p : Program} {l : Launch} {e : Env} {s : State} {m : MethodId} {below : List Frame} {meth : Method} {cd : Code} {b L t : Nat} {xs : Nat → Int32} {E : zE} {c : zC} {mo : zM} {H : Heap} {locs : List Loc} {ls : Array Slot} (hL : L ≤ 3072) (C0 : lw_At p s m meth cd b L xs) (hz : zz E = s.heap.size) (h6 : 6 * t + 6 ≤ L) (h : Inv c mo t) (ih : ∀ (c : zC) (mo : zM) (H : Heap) (locs : List Loc) (ls : Array Slot), Inv c mo (t + 1) → zW E c mo s s.heap H locs → lv_has ls 4 [(0, .ref b), (1, .ref (zl E 0)), (2, .ref (zl E 32)), (3, .int (nI (6 * (t + 1))))] → W p l e room_1 s m #[Value.ref b] below meth cd H locs 42 70328 (lw_Z below #[Value.ref b] s) (F0 m 18 ls [])) (hw : zW E c mo s s.heap H locs) (hl : lv_has ls 4 [(0, .ref b), (1, .ref (zl E 0)), (2, .ref (zl E 32)), (3, .int (nI (6 * t)))]) : W p l e room_1 s m #[Value.ref b] below meth cd H locs 42 70328 (lw_Z below #[Value.ref b] s) (F0 m 183 ls []) := by
  obtain ⟨hx, hb, hr, hml, hown, hts0, hX, hbl, hlocks, hgv⟩ := id C0
  have hts : ∀ w ∈ wsL_law, w.before #[Value.ref b] s = true := fun w q => hts0 w (wsL_law_in w q)
  have hown : s.vm.findClass RL = some m.cls := hown
  have hb : cd.code = cL_law := hb
  have hbA : ¬ zA E b := by unfold zA; rw [hz]; exact Nat.not_le.mpr hbl
  have ht : t < 4000 := by omega
  have hwf : wfC c := h.1.1
  have hwm : wfM mo := h.1.2.1
  have hrow : vp_in (mo.1 32 3) 5000 := Inv_row h ht
  refine lv_aload_n hx hb dL_law_183 rfl (lv_at hl 1 rfl) ?_
  refine lv_aload_n hx hb dL_law_184 rfl (lv_at hl 0 rfl) ?_
  refine lv_iload_n hx hb dL_law_185 rfl (lv_at hl 3 rfl) ?_
  refine lv_iconst (v := 1) hx hb dL_law_186 (by decide) ?_
  refine lv_iadd hx hb dL_law_187 ?_
  refine va_sld hx hb hX hbl hbA hw.2.1 (sc_in 1 (by decide) h6 hL rfl) dL_law_188 ?_
  refine lv_aload_n hx hb dL_law_189 rfl (lv_at hl 0 rfl) ?_
  refine lv_iload_n hx hb dL_law_190 rfl (lv_at hl 3 rfl) ?_
  refine lv_iconst (v := 2) hx hb dL_law_191 (by decide) ?_
  refine lv_iadd hx hb dL_law_192 ?_
  refine va_sld hx hb hX hbl hbA hw.2.1 (sc_in 2 (by decide) h6 hL rfl) dL_law_193 ?_
  refine z_calli (rest := []) (va_runV (As := [.int (xs ((nI (6 * t)) + 1).toNatClampNeg), .int (xs ((nI (6 * t)) + 2).toNatClampNeg)]) (rest := []) ⟨hx, hb, hml, hown, hts⟩ (k_X2_note l E c mo (xs ((nI (6 * t)) + 1).toNatClampNeg) (xs ((nI (6 * t)) + 2).toNatClampNeg) (by assumption)) (cwV 2 hts gL_law_X2_note rfl rfl rfl (by decide +kernel) ⟨Nat.le_of_ble_eq_true rfl, Nat.le_of_ble_eq_true rfl⟩) (z_preV hw (by decide) zG_0 rfl [.int (xs ((nI (6 * t)) + 1).toNatClampNeg), .int (xs ((nI (6 * t)) + 2).toNatClampNeg)]) rfl rfl hl.1 rfl (lv_room (Nat.le_of_ble_eq_true rfl)) dL_law_194 ⟨Nat.le_of_ble_eq_true rfl, Nat.le_of_ble_eq_true rfl⟩) hw (fun H locs hw => ?_)
  refine lv_aload_n hx hb dL_law_197 rfl (lv_at hl 2 rfl) ?_
  refine lv_aload_n hx hb dL_law_198 rfl (lv_at hl 0 rfl) ?_
  refine lv_iload_n hx hb dL_law_199 rfl (lv_at hl 3 rfl) ?_
  refine lv_iconst (v := 1) hx hb dL_law_200 (by decide) ?_
  refine lv_iadd hx hb dL_law_201 ?_
  refine va_sld hx hb hX hbl hbA hw.2.1 (sc_in 1 (by decide) h6 hL rfl) dL_law_202 ?_
  refine lv_aload_n hx hb dL_law_203 rfl (lv_at hl 0 rfl) ?_
  refine lv_iload_n hx hb dL_law_204 rfl (lv_at hl 3 rfl) ?_
  refine lv_iconst (v := 2) hx hb dL_law_205 (by decide) ?_
  refine lv_iadd hx hb dL_law_206 ?_
  refine va_sld hx hb hX hbl hbA hw.2.1 (sc_in 2 (by decide) h6 hL rfl) dL_law_207 ?_
  refine z_calli (rest := [.int (rNote (xs ((nI (6 * t)) + 1).toNatClampNeg))]) (va_runV (As := [.int (xs ((nI (6 * t)) + 1).toNatClampNeg), .int (xs ((nI (6 * t)) + 2).toNatClampNeg)]) (rest := [.int (rNote (xs ((nI (6 * t)) + 1).toNatClampNeg))]) ⟨hx, hb, hml, hown, hts⟩ (k_X3_note l E (sNote c (xs ((nI (6 * t)) + 1).toNatClampNeg) (xs ((nI (6 * t)) + 2).toNatClampNeg)) mo (xs ((nI (6 * t)) + 1).toNatClampNeg) (xs ((nI (6 * t)) + 2).toNatClampNeg) ) (cwV 2 hts gL_law_X3_note rfl rfl rfl (by decide +kernel) ⟨Nat.le_of_ble_eq_true rfl, Nat.le_of_ble_eq_true rfl⟩) (z_preV hw (by decide) zG_32 rfl [.int (xs ((nI (6 * t)) + 1).toNatClampNeg), .int (xs ((nI (6 * t)) + 2).toNatClampNeg)]) rfl rfl hl.1 rfl (lv_room (Nat.le_of_ble_eq_true rfl)) dL_law_208 ⟨Nat.le_of_ble_eq_true rfl, Nat.le_of_ble_eq_true rfl⟩) hw (fun H locs hw => ?_)
  refine lv_icmp_eq (tgt := 831) hx hb dL_law_211 (by decide) (fun q_1 => ?_) (fun q_1 => ?_)
  · have _ := hx
    refine lv_iinc (v := nI (6 * (t + 1))) (lv' := [(3, .int (nI (6 * (t + 1)))), (0, .ref b), (1, .ref (zl E 0)), (2, .ref (zl E 32))]) hx hb dL_law_831 hl (k := 3) rfl (n6 t) (by decide) rfl (fun ls hl => ?_)
    refine lv_goto (tgt := 18) hx hb dL_law_834 (by decide) ?_
    exact ih _ _ _ _ _ (op_note h).2 hw (lv_sub hl [1, 2, 3, 0] rfl)
  · exact (absurd (op_note (v := 0) h).1 q_1)
set_option maxHeartbeats 4000000 in
set_option maxRecDepth 100000 in
theorem lc_share {p : Program} {l : Launch} {e : Env} {s : State} {m : MethodId} {below : List Frame} {meth : Method} {cd : Code} {b L t : Nat} {xs : Nat → Int32} {E : zE} {c : zC} {mo : zM} {H : Heap} {locs : List Loc} {ls : Array Slot} (hL : L ≤ 3072) (C0 : lw_At p s m meth cd b L xs) (hz : zz E = s.heap.size) (h6 : 6 * t + 6 ≤ L) (h : Inv c mo t) (ih : ∀ (c : zC) (mo : zM) (H : Heap) (locs : List Loc) (ls : Array Slot), Inv c mo (t + 1) → zW E c mo s s.heap H locs → lv_has ls 4 [(0, .ref b), (1, .ref (zl E 0)), (2, .ref (zl E 32)), (3, .int (nI (6 * (t + 1))))] → W p l e room_1 s m #[Value.ref b] below meth cd H locs 42 70328 (lw_Z below #[Value.ref b] s) (F0 m 18 ls [])) (hw : zW E c mo s s.heap H locs) (hl : lv_has ls 4 [(0, .ref b), (1, .ref (zl E 0)), (2, .ref (zl E 32)), (3, .int (nI (6 * t)))]) : W p l e room_1 s m #[Value.ref b] below meth cd H locs 42 70328 (lw_Z below #[Value.ref b] s) (F0 m 216 ls []) := by
  obtain ⟨hx, hb, hr, hml, hown, hts0, hX, hbl, hlocks, hgv⟩ := id C0
  have hts : ∀ w ∈ wsL_law, w.before #[Value.ref b] s = true := fun w q => hts0 w (wsL_law_in w q)
  have hown : s.vm.findClass RL = some m.cls := hown
  have hb : cd.code = cL_law := hb
  have hbA : ¬ zA E b := by unfold zA; rw [hz]; exact Nat.not_le.mpr hbl
  have ht : t < 4000 := by omega
  have hwf : wfC c := h.1.1
  have hwm : wfM mo := h.1.2.1
  have hrow : vp_in (mo.1 32 3) 5000 := Inv_row h ht
  refine lv_aload_n hx hb dL_law_216 rfl (lv_at hl 1 rfl) ?_
  refine lv_aload_n hx hb dL_law_217 rfl (lv_at hl 0 rfl) ?_
  refine lv_iload_n hx hb dL_law_218 rfl (lv_at hl 3 rfl) ?_
  refine lv_iconst (v := 1) hx hb dL_law_219 (by decide) ?_
  refine lv_iadd hx hb dL_law_220 ?_
  refine va_sld hx hb hX hbl hbA hw.2.1 (sc_in 1 (by decide) h6 hL rfl) dL_law_221 ?_
  refine lv_aload_n hx hb dL_law_222 rfl (lv_at hl 0 rfl) ?_
  refine lv_iload_n hx hb dL_law_223 rfl (lv_at hl 3 rfl) ?_
  refine lv_iconst (v := 2) hx hb dL_law_224 (by decide) ?_
  refine lv_iadd hx hb dL_law_225 ?_
  refine va_sld hx hb hX hbl hbA hw.2.1 (sc_in 2 (by decide) h6 hL rfl) dL_law_226 ?_
  refine z_calli (rest := []) (va_runV (As := [.int (xs ((nI (6 * t)) + 1).toNatClampNeg), .int (xs ((nI (6 * t)) + 2).toNatClampNeg)]) (rest := []) ⟨hx, hb, hml, hown, hts⟩ (k_X2_share l E c mo (xs ((nI (6 * t)) + 1).toNatClampNeg) (xs ((nI (6 * t)) + 2).toNatClampNeg) (by assumption)) (cwV 2 hts gL_law_X2_share rfl rfl rfl (by decide +kernel) ⟨Nat.le_of_ble_eq_true rfl, Nat.le_of_ble_eq_true rfl⟩) (z_preV hw (by decide) zG_0 rfl [.int (xs ((nI (6 * t)) + 1).toNatClampNeg), .int (xs ((nI (6 * t)) + 2).toNatClampNeg)]) rfl rfl hl.1 rfl (lv_room (Nat.le_of_ble_eq_true rfl)) dL_law_227 ⟨Nat.le_of_ble_eq_true rfl, Nat.le_of_ble_eq_true rfl⟩) hw (fun H locs hw => ?_)
  refine lv_aload_n hx hb dL_law_230 rfl (lv_at hl 2 rfl) ?_
  refine lv_aload_n hx hb dL_law_231 rfl (lv_at hl 0 rfl) ?_
  refine lv_iload_n hx hb dL_law_232 rfl (lv_at hl 3 rfl) ?_
  refine lv_iconst (v := 1) hx hb dL_law_233 (by decide) ?_
  refine lv_iadd hx hb dL_law_234 ?_
  refine va_sld hx hb hX hbl hbA hw.2.1 (sc_in 1 (by decide) h6 hL rfl) dL_law_235 ?_
  refine lv_aload_n hx hb dL_law_236 rfl (lv_at hl 0 rfl) ?_
  refine lv_iload_n hx hb dL_law_237 rfl (lv_at hl 3 rfl) ?_
  refine lv_iconst (v := 2) hx hb dL_law_238 (by decide) ?_
  refine lv_iadd hx hb dL_law_239 ?_
  refine va_sld hx hb hX hbl hbA hw.2.1 (sc_in 2 (by decide) h6 hL rfl) dL_law_240 ?_
  refine z_calli (rest := [.int (rShare (xs ((nI (6 * t)) + 1).toNatClampNeg) (xs ((nI (6 * t)) + 2).toNatClampNeg))]) (va_runV (As := [.int (xs ((nI (6 * t)) + 1).toNatClampNeg), .int (xs ((nI (6 * t)) + 2).toNatClampNeg)]) (rest := [.int (rShare (xs ((nI (6 * t)) + 1).toNatClampNeg) (xs ((nI (6 * t)) + 2).toNatClampNeg))]) ⟨hx, hb, hml, hown, hts⟩ (k_X3_share l E (sShare c (xs ((nI (6 * t)) + 1).toNatClampNeg) (xs ((nI (6 * t)) + 2).toNatClampNeg)) mo (xs ((nI (6 * t)) + 1).toNatClampNeg) (xs ((nI (6 * t)) + 2).toNatClampNeg) ) (cwV 2 hts gL_law_X3_share rfl rfl rfl (by decide +kernel) ⟨Nat.le_of_ble_eq_true rfl, Nat.le_of_ble_eq_true rfl⟩) (z_preV hw (by decide) zG_32 rfl [.int (xs ((nI (6 * t)) + 1).toNatClampNeg), .int (xs ((nI (6 * t)) + 2).toNatClampNeg)]) rfl rfl hl.1 rfl (lv_room (Nat.le_of_ble_eq_true rfl)) dL_law_241 ⟨Nat.le_of_ble_eq_true rfl, Nat.le_of_ble_eq_true rfl⟩) hw (fun H locs hw => ?_)
  refine lv_icmp_eq (tgt := 831) hx hb dL_law_244 (by decide) (fun q_1 => ?_) (fun q_1 => ?_)
  · have _ := hx
    refine lv_iinc (v := nI (6 * (t + 1))) (lv' := [(3, .int (nI (6 * (t + 1)))), (0, .ref b), (1, .ref (zl E 0)), (2, .ref (zl E 32))]) hx hb dL_law_831 hl (k := 3) rfl (n6 t) (by decide) rfl (fun ls hl => ?_)
    refine lv_goto (tgt := 18) hx hb dL_law_834 (by decide) ?_
    exact ih _ _ _ _ _ (op_share h).2 hw (lv_sub hl [1, 2, 3, 0] rfl)
  · exact (absurd (op_share h).1 q_1)
set_option maxHeartbeats 4000000 in
set_option maxRecDepth 100000 in
theorem lc_clear {p : Program} {l : Launch} {e : Env} {s : State} {m : MethodId} {below : List Frame} {meth : Method} {cd : Code} {b L t : Nat} {xs : Nat → Int32} {E : zE} {c : zC} {mo : zM} {H : Heap} {locs : List Loc} {ls : Array Slot} (hL : L ≤ 3072) (C0 : lw_At p s m meth cd b L xs) (hz : zz E = s.heap.size) (h6 : 6 * t + 6 ≤ L) (h : Inv c mo t) (ih : ∀ (c : zC) (mo : zM) (H : Heap) (locs : List Loc) (ls : Array Slot), Inv c mo (t + 1) → zW E c mo s s.heap H locs → lv_has ls 4 [(0, .ref b), (1, .ref (zl E 0)), (2, .ref (zl E 32)), (3, .int (nI (6 * (t + 1))))] → W p l e room_1 s m #[Value.ref b] below meth cd H locs 42 70328 (lw_Z below #[Value.ref b] s) (F0 m 18 ls [])) (hw : zW E c mo s s.heap H locs) (hl : lv_has ls 4 [(0, .ref b), (1, .ref (zl E 0)), (2, .ref (zl E 32)), (3, .int (nI (6 * t)))]) : W p l e room_1 s m #[Value.ref b] below meth cd H locs 42 70328 (lw_Z below #[Value.ref b] s) (F0 m 249 ls []) := by
  obtain ⟨hx, hb, hr, hml, hown, hts0, hX, hbl, hlocks, hgv⟩ := id C0
  have hts : ∀ w ∈ wsL_law, w.before #[Value.ref b] s = true := fun w q => hts0 w (wsL_law_in w q)
  have hown : s.vm.findClass RL = some m.cls := hown
  have hb : cd.code = cL_law := hb
  have hbA : ¬ zA E b := by unfold zA; rw [hz]; exact Nat.not_le.mpr hbl
  have ht : t < 4000 := by omega
  have hwf : wfC c := h.1.1
  have hwm : wfM mo := h.1.2.1
  have hrow : vp_in (mo.1 32 3) 5000 := Inv_row h ht
  refine lv_aload_n hx hb dL_law_249 rfl (lv_at hl 1 rfl) ?_
  refine lv_aload_n hx hb dL_law_250 rfl (lv_at hl 0 rfl) ?_
  refine lv_iload_n hx hb dL_law_251 rfl (lv_at hl 3 rfl) ?_
  refine lv_iconst (v := 1) hx hb dL_law_252 (by decide) ?_
  refine lv_iadd hx hb dL_law_253 ?_
  refine va_sld hx hb hX hbl hbA hw.2.1 (sc_in 1 (by decide) h6 hL rfl) dL_law_254 ?_
  refine z_calli (rest := []) (va_runV (As := [.int (xs ((nI (6 * t)) + 1).toNatClampNeg)]) (rest := []) ⟨hx, hb, hml, hown, hts⟩ (k_X2_clear l E c mo (xs ((nI (6 * t)) + 1).toNatClampNeg) (by assumption)) (cwV 1 hts gL_law_X2_clear rfl rfl rfl (by decide +kernel) ⟨Nat.le_of_ble_eq_true rfl, Nat.le_of_ble_eq_true rfl⟩) (z_preV hw (by decide) zG_0 rfl [.int (xs ((nI (6 * t)) + 1).toNatClampNeg)]) rfl rfl hl.1 rfl (lv_room (Nat.le_of_ble_eq_true rfl)) dL_law_255 ⟨Nat.le_of_ble_eq_true rfl, Nat.le_of_ble_eq_true rfl⟩) hw (fun H locs hw => ?_)
  refine lv_aload_n hx hb dL_law_258 rfl (lv_at hl 2 rfl) ?_
  refine lv_aload_n hx hb dL_law_259 rfl (lv_at hl 0 rfl) ?_
  refine lv_iload_n hx hb dL_law_260 rfl (lv_at hl 3 rfl) ?_
  refine lv_iconst (v := 1) hx hb dL_law_261 (by decide) ?_
  refine lv_iadd hx hb dL_law_262 ?_
  refine va_sld hx hb hX hbl hbA hw.2.1 (sc_in 1 (by decide) h6 hL rfl) dL_law_263 ?_
  refine z_calli (rest := [.int (rClear c (xs ((nI (6 * t)) + 1).toNatClampNeg))]) (va_runV (As := [.int (xs ((nI (6 * t)) + 1).toNatClampNeg)]) (rest := [.int (rClear c (xs ((nI (6 * t)) + 1).toNatClampNeg))]) ⟨hx, hb, hml, hown, hts⟩ (k_X3_clear l E (sClear c (xs ((nI (6 * t)) + 1).toNatClampNeg)) mo (xs ((nI (6 * t)) + 1).toNatClampNeg) ) (cwV 1 hts gL_law_X3_clear rfl rfl rfl (by decide +kernel) ⟨Nat.le_of_ble_eq_true rfl, Nat.le_of_ble_eq_true rfl⟩) (z_preV hw (by decide) zG_32 rfl [.int (xs ((nI (6 * t)) + 1).toNatClampNeg)]) rfl rfl hl.1 rfl (lv_room (Nat.le_of_ble_eq_true rfl)) dL_law_264 ⟨Nat.le_of_ble_eq_true rfl, Nat.le_of_ble_eq_true rfl⟩) hw (fun H locs hw => ?_)
  refine lv_icmp_eq (tgt := 831) hx hb dL_law_267 (by decide) (fun q_1 => ?_) (fun q_1 => ?_)
  · have _ := hx
    refine lv_iinc (v := nI (6 * (t + 1))) (lv' := [(3, .int (nI (6 * (t + 1)))), (0, .ref b), (1, .ref (zl E 0)), (2, .ref (zl E 32))]) hx hb dL_law_831 hl (k := 3) rfl (n6 t) (by decide) rfl (fun ls hl => ?_)
    refine lv_goto (tgt := 18) hx hb dL_law_834 (by decide) ?_
    exact ih _ _ _ _ _ (op_clear h).2 hw (lv_sub hl [1, 2, 3, 0] rfl)
  · exact (absurd (op_clear h).1 q_1)
set_option maxHeartbeats 4000000 in
set_option maxRecDepth 100000 in
theorem lc_think {p : Program} {l : Launch} {e : Env} {s : State} {m : MethodId} {below : List Frame} {meth : Method} {cd : Code} {b L t : Nat} {xs : Nat → Int32} {E : zE} {c : zC} {mo : zM} {H : Heap} {locs : List Loc} {ls : Array Slot} (hL : L ≤ 3072) (C0 : lw_At p s m meth cd b L xs) (hz : zz E = s.heap.size) (h6 : 6 * t + 6 ≤ L) (h : Inv c mo t) (ih : ∀ (c : zC) (mo : zM) (H : Heap) (locs : List Loc) (ls : Array Slot), Inv c mo (t + 1) → zW E c mo s s.heap H locs → lv_has ls 4 [(0, .ref b), (1, .ref (zl E 0)), (2, .ref (zl E 32)), (3, .int (nI (6 * (t + 1))))] → W p l e room_1 s m #[Value.ref b] below meth cd H locs 42 70328 (lw_Z below #[Value.ref b] s) (F0 m 18 ls [])) (hw : zW E c mo s s.heap H locs) (hl : lv_has ls 4 [(0, .ref b), (1, .ref (zl E 0)), (2, .ref (zl E 32)), (3, .int (nI (6 * t)))]) : W p l e room_1 s m #[Value.ref b] below meth cd H locs 42 70328 (lw_Z below #[Value.ref b] s) (F0 m 272 ls []) := by
  obtain ⟨hx, hb, hr, hml, hown, hts0, hX, hbl, hlocks, hgv⟩ := id C0
  have hts : ∀ w ∈ wsL_law, w.before #[Value.ref b] s = true := fun w q => hts0 w (wsL_law_in w q)
  have hown : s.vm.findClass RL = some m.cls := hown
  have hb : cd.code = cL_law := hb
  have hbA : ¬ zA E b := by unfold zA; rw [hz]; exact Nat.not_le.mpr hbl
  have ht : t < 4000 := by omega
  have hwf : wfC c := h.1.1
  have hwm : wfM mo := h.1.2.1
  have hrow : vp_in (mo.1 32 3) 5000 := Inv_row h ht
  refine lv_aload_n hx hb dL_law_272 rfl (lv_at hl 1 rfl) ?_
  refine lv_aload_n hx hb dL_law_273 rfl (lv_at hl 0 rfl) ?_
  refine lv_iload_n hx hb dL_law_274 rfl (lv_at hl 3 rfl) ?_
  refine lv_iconst (v := 1) hx hb dL_law_275 (by decide) ?_
  refine lv_iadd hx hb dL_law_276 ?_
  refine va_sld hx hb hX hbl hbA hw.2.1 (sc_in 1 (by decide) h6 hL rfl) dL_law_277 ?_
  refine lv_aload_n hx hb dL_law_278 rfl (lv_at hl 0 rfl) ?_
  refine lv_iload_n hx hb dL_law_279 rfl (lv_at hl 3 rfl) ?_
  refine lv_iconst (v := 2) hx hb dL_law_280 (by decide) ?_
  refine lv_iadd hx hb dL_law_281 ?_
  refine va_sld hx hb hX hbl hbA hw.2.1 (sc_in 2 (by decide) h6 hL rfl) dL_law_282 ?_
  refine lv_i2l (v := (xs ((nI (6 * t)) + 2).toNatClampNeg).toInt64) hx hb dL_law_283 rfl ?_
  refine lv_bipush (v := 32) hx hb dL_law_284 (by decide) ?_
  refine lv_lshl (v := (((xs ((nI (6 * t)) + 2).toNatClampNeg).toInt64) <<< ((32 : Int32).toInt64 &&& 63))) hx hb dL_law_286 rfl ?_
  refine lv_aload_n hx hb dL_law_287 rfl (lv_at hl 0 rfl) ?_
  refine lv_iload_n hx hb dL_law_288 rfl (lv_at hl 3 rfl) ?_
  refine lv_iconst (v := 3) hx hb dL_law_289 (by decide) ?_
  refine lv_iadd hx hb dL_law_290 ?_
  refine va_sld hx hb hX hbl hbA hw.2.1 (sc_in 3 (by decide) h6 hL rfl) dL_law_291 ?_
  refine lv_i2l (v := (xs ((nI (6 * t)) + 3).toNatClampNeg).toInt64) hx hb dL_law_292 rfl ?_
  refine lv_ldc2 (v := 4294967295) hx hb hown (hts (.constantLong RL 32 (4294967295)) (by decide +kernel)) dL_law_293 ?_
  refine lv_land hx hb dL_law_296 ?_
  refine lv_lor hx hb dL_law_297 ?_
  refine z_calli (rest := []) (va_runV (As := [.int (xs ((nI (6 * t)) + 1).toNatClampNeg), .long ((((xs ((nI (6 * t)) + 2).toNatClampNeg).toInt64) <<< ((32 : Int32).toInt64 &&& 63)) ||| (((xs ((nI (6 * t)) + 3).toNatClampNeg).toInt64) &&& 4294967295))]) (rest := []) ⟨hx, hb, hml, hown, hts⟩ (k_X2_think l E c mo (xs ((nI (6 * t)) + 1).toNatClampNeg) ((((xs ((nI (6 * t)) + 2).toNatClampNeg).toInt64) <<< ((32 : Int32).toInt64 &&& 63)) ||| (((xs ((nI (6 * t)) + 3).toNatClampNeg).toInt64) &&& 4294967295)) ) (cwV 2 hts gL_law_X2_think rfl rfl rfl (by decide +kernel) ⟨Nat.le_of_ble_eq_true rfl, Nat.le_of_ble_eq_true rfl⟩) (z_preV hw (by decide) zG_0 rfl [.int (xs ((nI (6 * t)) + 1).toNatClampNeg), .long ((((xs ((nI (6 * t)) + 2).toNatClampNeg).toInt64) <<< ((32 : Int32).toInt64 &&& 63)) ||| (((xs ((nI (6 * t)) + 3).toNatClampNeg).toInt64) &&& 4294967295))]) rfl rfl hl.1 rfl (lv_room (Nat.le_of_ble_eq_true rfl)) dL_law_298 ⟨Nat.le_of_ble_eq_true rfl, Nat.le_of_ble_eq_true rfl⟩) hw (fun H locs hw => ?_)
  refine lv_aload_n hx hb dL_law_301 rfl (lv_at hl 2 rfl) ?_
  refine lv_aload_n hx hb dL_law_302 rfl (lv_at hl 0 rfl) ?_
  refine lv_iload_n hx hb dL_law_303 rfl (lv_at hl 3 rfl) ?_
  refine lv_iconst (v := 1) hx hb dL_law_304 (by decide) ?_
  refine lv_iadd hx hb dL_law_305 ?_
  refine va_sld hx hb hX hbl hbA hw.2.1 (sc_in 1 (by decide) h6 hL rfl) dL_law_306 ?_
  refine lv_aload_n hx hb dL_law_307 rfl (lv_at hl 0 rfl) ?_
  refine lv_iload_n hx hb dL_law_308 rfl (lv_at hl 3 rfl) ?_
  refine lv_iconst (v := 2) hx hb dL_law_309 (by decide) ?_
  refine lv_iadd hx hb dL_law_310 ?_
  refine va_sld hx hb hX hbl hbA hw.2.1 (sc_in 2 (by decide) h6 hL rfl) dL_law_311 ?_
  refine lv_i2l (v := (xs ((nI (6 * t)) + 2).toNatClampNeg).toInt64) hx hb dL_law_312 rfl ?_
  refine lv_bipush (v := 32) hx hb dL_law_313 (by decide) ?_
  refine lv_lshl (v := (((xs ((nI (6 * t)) + 2).toNatClampNeg).toInt64) <<< ((32 : Int32).toInt64 &&& 63))) hx hb dL_law_315 rfl ?_
  refine lv_aload_n hx hb dL_law_316 rfl (lv_at hl 0 rfl) ?_
  refine lv_iload_n hx hb dL_law_317 rfl (lv_at hl 3 rfl) ?_
  refine lv_iconst (v := 3) hx hb dL_law_318 (by decide) ?_
  refine lv_iadd hx hb dL_law_319 ?_
  refine va_sld hx hb hX hbl hbA hw.2.1 (sc_in 3 (by decide) h6 hL rfl) dL_law_320 ?_
  refine lv_i2l (v := (xs ((nI (6 * t)) + 3).toNatClampNeg).toInt64) hx hb dL_law_321 rfl ?_
  refine lv_ldc2 (v := 4294967295) hx hb hown (hts (.constantLong RL 32 (4294967295)) (by decide +kernel)) dL_law_322 ?_
  refine lv_land hx hb dL_law_325 ?_
  refine lv_lor hx hb dL_law_326 ?_
  refine z_calli (rest := [.int (rThink (xs ((nI (6 * t)) + 1).toNatClampNeg))]) (va_runV (As := [.int (xs ((nI (6 * t)) + 1).toNatClampNeg), .long ((((xs ((nI (6 * t)) + 2).toNatClampNeg).toInt64) <<< ((32 : Int32).toInt64 &&& 63)) ||| (((xs ((nI (6 * t)) + 3).toNatClampNeg).toInt64) &&& 4294967295))]) (rest := [.int (rThink (xs ((nI (6 * t)) + 1).toNatClampNeg))]) ⟨hx, hb, hml, hown, hts⟩ (k_X3_think l E (sThink c (xs ((nI (6 * t)) + 1).toNatClampNeg) ((((xs ((nI (6 * t)) + 2).toNatClampNeg).toInt64) <<< ((32 : Int32).toInt64 &&& 63)) ||| (((xs ((nI (6 * t)) + 3).toNatClampNeg).toInt64) &&& 4294967295))) mo (xs ((nI (6 * t)) + 1).toNatClampNeg) ((((xs ((nI (6 * t)) + 2).toNatClampNeg).toInt64) <<< ((32 : Int32).toInt64 &&& 63)) ||| (((xs ((nI (6 * t)) + 3).toNatClampNeg).toInt64) &&& 4294967295)) ) (cwV 2 hts gL_law_X3_think rfl rfl rfl (by decide +kernel) ⟨Nat.le_of_ble_eq_true rfl, Nat.le_of_ble_eq_true rfl⟩) (z_preV hw (by decide) zG_32 rfl [.int (xs ((nI (6 * t)) + 1).toNatClampNeg), .long ((((xs ((nI (6 * t)) + 2).toNatClampNeg).toInt64) <<< ((32 : Int32).toInt64 &&& 63)) ||| (((xs ((nI (6 * t)) + 3).toNatClampNeg).toInt64) &&& 4294967295))]) rfl rfl hl.1 rfl (lv_room (Nat.le_of_ble_eq_true rfl)) dL_law_327 ⟨Nat.le_of_ble_eq_true rfl, Nat.le_of_ble_eq_true rfl⟩) hw (fun H locs hw => ?_)
  refine lv_icmp_eq (tgt := 831) hx hb dL_law_330 (by decide) (fun q_1 => ?_) (fun q_1 => ?_)
  · have _ := hx
    refine lv_iinc (v := nI (6 * (t + 1))) (lv' := [(3, .int (nI (6 * (t + 1)))), (0, .ref b), (1, .ref (zl E 0)), (2, .ref (zl E 32))]) hx hb dL_law_831 hl (k := 3) rfl (n6 t) (by decide) rfl (fun ls hl => ?_)
    refine lv_goto (tgt := 18) hx hb dL_law_834 (by decide) ?_
    exact ih _ _ _ _ _ (op_think h).2 hw (lv_sub hl [1, 2, 3, 0] rfl)
  · exact (absurd (op_think (v := 0) h).1 q_1)
set_option maxHeartbeats 4000000 in
set_option maxRecDepth 100000 in
theorem lc_card {p : Program} {l : Launch} {e : Env} {s : State} {m : MethodId} {below : List Frame} {meth : Method} {cd : Code} {b L t : Nat} {xs : Nat → Int32} {E : zE} {c : zC} {mo : zM} {H : Heap} {locs : List Loc} {ls : Array Slot} (hL : L ≤ 3072) (C0 : lw_At p s m meth cd b L xs) (hz : zz E = s.heap.size) (h6 : 6 * t + 6 ≤ L) (h : Inv c mo t) (ih : ∀ (c : zC) (mo : zM) (H : Heap) (locs : List Loc) (ls : Array Slot), Inv c mo (t + 1) → zW E c mo s s.heap H locs → lv_has ls 4 [(0, .ref b), (1, .ref (zl E 0)), (2, .ref (zl E 32)), (3, .int (nI (6 * (t + 1))))] → W p l e room_1 s m #[Value.ref b] below meth cd H locs 42 70328 (lw_Z below #[Value.ref b] s) (F0 m 18 ls [])) (hw : zW E c mo s s.heap H locs) (hl : lv_has ls 4 [(0, .ref b), (1, .ref (zl E 0)), (2, .ref (zl E 32)), (3, .int (nI (6 * t)))]) : W p l e room_1 s m #[Value.ref b] below meth cd H locs 42 70328 (lw_Z below #[Value.ref b] s) (F0 m 335 ls []) := by
  obtain ⟨hx, hb, hr, hml, hown, hts0, hX, hbl, hlocks, hgv⟩ := id C0
  have hts : ∀ w ∈ wsL_law, w.before #[Value.ref b] s = true := fun w q => hts0 w (wsL_law_in w q)
  have hown : s.vm.findClass RL = some m.cls := hown
  have hb : cd.code = cL_law := hb
  have hbA : ¬ zA E b := by unfold zA; rw [hz]; exact Nat.not_le.mpr hbl
  have ht : t < 4000 := by omega
  have hwf : wfC c := h.1.1
  have hwm : wfM mo := h.1.2.1
  have hrow : vp_in (mo.1 32 3) 5000 := Inv_row h ht
  refine lv_aload_n hx hb dL_law_335 rfl (lv_at hl 1 rfl) ?_
  refine z_calli (rest := []) (va_runV (As := []) (rest := []) ⟨hx, hb, hml, hown, hts⟩ (k_X2_card l E c mo  ) (cwV 0 hts gL_law_X2_card rfl rfl rfl (by decide +kernel) ⟨Nat.le_of_ble_eq_true rfl, Nat.le_of_ble_eq_true rfl⟩) (z_preV hw (by decide) zG_0 rfl []) rfl rfl hl.1 rfl (lv_room (Nat.le_of_ble_eq_true rfl)) dL_law_336 ⟨Nat.le_of_ble_eq_true rfl, Nat.le_of_ble_eq_true rfl⟩) hw (fun H locs hw => ?_)
  refine lv_aload_n hx hb dL_law_339 rfl (lv_at hl 2 rfl) ?_
  refine z_calli (rest := [.int (rCard c)]) (va_runV (As := []) (rest := [.int (rCard c)]) ⟨hx, hb, hml, hown, hts⟩ (k_X3_card l E (sCard c) mo  ) (cwV 0 hts gL_law_X3_card rfl rfl rfl (by decide +kernel) ⟨Nat.le_of_ble_eq_true rfl, Nat.le_of_ble_eq_true rfl⟩) (z_preV hw (by decide) zG_32 rfl []) rfl rfl hl.1 rfl (lv_room (Nat.le_of_ble_eq_true rfl)) dL_law_340 ⟨Nat.le_of_ble_eq_true rfl, Nat.le_of_ble_eq_true rfl⟩) hw (fun H locs hw => ?_)
  refine lv_icmp_eq (tgt := 831) hx hb dL_law_343 (by decide) (fun q_1 => ?_) (fun q_1 => ?_)
  · have _ := hx
    refine lv_iinc (v := nI (6 * (t + 1))) (lv' := [(3, .int (nI (6 * (t + 1)))), (0, .ref b), (1, .ref (zl E 0)), (2, .ref (zl E 32))]) hx hb dL_law_831 hl (k := 3) rfl (n6 t) (by decide) rfl (fun ls hl => ?_)
    refine lv_goto (tgt := 18) hx hb dL_law_834 (by decide) ?_
    exact ih _ _ _ _ _ (op_card h).2 hw (lv_sub hl [1, 2, 3, 0] rfl)
  · exact (absurd (op_card h).1 q_1)
set_option maxHeartbeats 4000000 in
set_option maxRecDepth 100000 in
theorem lc_drop {p : Program} {l : Launch} {e : Env} {s : State} {m : MethodId} {below : List Frame} {meth : Method} {cd : Code} {b L t : Nat} {xs : Nat → Int32} {E : zE} {c : zC} {mo : zM} {H : Heap} {locs : List Loc} {ls : Array Slot} (hL : L ≤ 3072) (C0 : lw_At p s m meth cd b L xs) (hz : zz E = s.heap.size) (h6 : 6 * t + 6 ≤ L) (h : Inv c mo t) (ih : ∀ (c : zC) (mo : zM) (H : Heap) (locs : List Loc) (ls : Array Slot), Inv c mo (t + 1) → zW E c mo s s.heap H locs → lv_has ls 4 [(0, .ref b), (1, .ref (zl E 0)), (2, .ref (zl E 32)), (3, .int (nI (6 * (t + 1))))] → W p l e room_1 s m #[Value.ref b] below meth cd H locs 42 70328 (lw_Z below #[Value.ref b] s) (F0 m 18 ls [])) (hw : zW E c mo s s.heap H locs) (hl : lv_has ls 4 [(0, .ref b), (1, .ref (zl E 0)), (2, .ref (zl E 32)), (3, .int (nI (6 * t)))]) : W p l e room_1 s m #[Value.ref b] below meth cd H locs 42 70328 (lw_Z below #[Value.ref b] s) (F0 m 348 ls []) := by
  obtain ⟨hx, hb, hr, hml, hown, hts0, hX, hbl, hlocks, hgv⟩ := id C0
  have hts : ∀ w ∈ wsL_law, w.before #[Value.ref b] s = true := fun w q => hts0 w (wsL_law_in w q)
  have hown : s.vm.findClass RL = some m.cls := hown
  have hb : cd.code = cL_law := hb
  have hbA : ¬ zA E b := by unfold zA; rw [hz]; exact Nat.not_le.mpr hbl
  have ht : t < 4000 := by omega
  have hwf : wfC c := h.1.1
  have hwm : wfM mo := h.1.2.1
  have hrow : vp_in (mo.1 32 3) 5000 := Inv_row h ht
  refine lv_aload_n hx hb dL_law_348 rfl (lv_at hl 1 rfl) ?_
  refine z_calli (rest := []) (va_runV (As := []) (rest := []) ⟨hx, hb, hml, hown, hts⟩ (k_X2_drop l E c mo  ) (cwV 0 hts gL_law_X2_drop rfl rfl rfl (by decide +kernel) ⟨Nat.le_of_ble_eq_true rfl, Nat.le_of_ble_eq_true rfl⟩) (z_preV hw (by decide) zG_0 rfl []) rfl rfl hl.1 rfl (lv_room (Nat.le_of_ble_eq_true rfl)) dL_law_349 ⟨Nat.le_of_ble_eq_true rfl, Nat.le_of_ble_eq_true rfl⟩) hw (fun H locs hw => ?_)
  refine lv_aload_n hx hb dL_law_352 rfl (lv_at hl 2 rfl) ?_
  refine z_calli (rest := [.int (c.1 0 3)]) (va_runV (As := []) (rest := [.int (c.1 0 3)]) ⟨hx, hb, hml, hown, hts⟩ (k_X3_drop l E (hold c (-9) 0) mo  ) (cwV 0 hts gL_law_X3_drop rfl rfl rfl (by decide +kernel) ⟨Nat.le_of_ble_eq_true rfl, Nat.le_of_ble_eq_true rfl⟩) (z_preV hw (by decide) zG_32 rfl []) rfl rfl hl.1 rfl (lv_room (Nat.le_of_ble_eq_true rfl)) dL_law_353 ⟨Nat.le_of_ble_eq_true rfl, Nat.le_of_ble_eq_true rfl⟩) hw (fun H locs hw => ?_)
  refine lv_icmp_eq (tgt := 831) hx hb dL_law_356 (by decide) (fun q_1 => ?_) (fun q_1 => ?_)
  · have _ := hx
    refine lv_iinc (v := nI (6 * (t + 1))) (lv' := [(3, .int (nI (6 * (t + 1)))), (0, .ref b), (1, .ref (zl E 0)), (2, .ref (zl E 32))]) hx hb dL_law_831 hl (k := 3) rfl (n6 t) (by decide) rfl (fun ls hl => ?_)
    refine lv_goto (tgt := 18) hx hb dL_law_834 (by decide) ?_
    exact ih _ _ _ _ _ (op_drop h).2 hw (lv_sub hl [1, 2, 3, 0] rfl)
  · exact (absurd (op_drop h).1 q_1)
set_option maxHeartbeats 4000000 in
set_option maxRecDepth 100000 in
theorem lc_take {p : Program} {l : Launch} {e : Env} {s : State} {m : MethodId} {below : List Frame} {meth : Method} {cd : Code} {b L t : Nat} {xs : Nat → Int32} {E : zE} {c : zC} {mo : zM} {H : Heap} {locs : List Loc} {ls : Array Slot} (hL : L ≤ 3072) (C0 : lw_At p s m meth cd b L xs) (hz : zz E = s.heap.size) (h6 : 6 * t + 6 ≤ L) (h : Inv c mo t) (ih : ∀ (c : zC) (mo : zM) (H : Heap) (locs : List Loc) (ls : Array Slot), Inv c mo (t + 1) → zW E c mo s s.heap H locs → lv_has ls 4 [(0, .ref b), (1, .ref (zl E 0)), (2, .ref (zl E 32)), (3, .int (nI (6 * (t + 1))))] → W p l e room_1 s m #[Value.ref b] below meth cd H locs 42 70328 (lw_Z below #[Value.ref b] s) (F0 m 18 ls [])) (hw : zW E c mo s s.heap H locs) (hl : lv_has ls 4 [(0, .ref b), (1, .ref (zl E 0)), (2, .ref (zl E 32)), (3, .int (nI (6 * t)))]) : W p l e room_1 s m #[Value.ref b] below meth cd H locs 42 70328 (lw_Z below #[Value.ref b] s) (F0 m 361 ls []) := by
  obtain ⟨hx, hb, hr, hml, hown, hts0, hX, hbl, hlocks, hgv⟩ := id C0
  have hts : ∀ w ∈ wsL_law, w.before #[Value.ref b] s = true := fun w q => hts0 w (wsL_law_in w q)
  have hown : s.vm.findClass RL = some m.cls := hown
  have hb : cd.code = cL_law := hb
  have hbA : ¬ zA E b := by unfold zA; rw [hz]; exact Nat.not_le.mpr hbl
  have ht : t < 4000 := by omega
  have hwf : wfC c := h.1.1
  have hwm : wfM mo := h.1.2.1
  have hrow : vp_in (mo.1 32 3) 5000 := Inv_row h ht
  refine lv_aload_n hx hb dL_law_361 rfl (lv_at hl 1 rfl) ?_
  refine lv_aload_n hx hb dL_law_362 rfl (lv_at hl 0 rfl) ?_
  refine lv_iload_n hx hb dL_law_363 rfl (lv_at hl 3 rfl) ?_
  refine lv_iconst (v := 1) hx hb dL_law_364 (by decide) ?_
  refine lv_iadd hx hb dL_law_365 ?_
  refine va_sld hx hb hX hbl hbA hw.2.1 (sc_in 1 (by decide) h6 hL rfl) dL_law_366 ?_
  refine lv_aload_n hx hb dL_law_367 rfl (lv_at hl 0 rfl) ?_
  refine lv_iload_n hx hb dL_law_368 rfl (lv_at hl 3 rfl) ?_
  refine lv_iconst (v := 2) hx hb dL_law_369 (by decide) ?_
  refine lv_iadd hx hb dL_law_370 ?_
  refine va_sld hx hb hX hbl hbA hw.2.1 (sc_in 2 (by decide) h6 hL rfl) dL_law_371 ?_
  refine z_calli (rest := []) (va_runV (As := [.int (xs ((nI (6 * t)) + 1).toNatClampNeg), .int (xs ((nI (6 * t)) + 2).toNatClampNeg)]) (rest := []) ⟨hx, hb, hml, hown, hts⟩ (k_X2_take l E c mo (xs ((nI (6 * t)) + 1).toNatClampNeg) (xs ((nI (6 * t)) + 2).toNatClampNeg) (by assumption)) (cwV 2 hts gL_law_X2_take rfl rfl rfl (by decide +kernel) ⟨Nat.le_of_ble_eq_true rfl, Nat.le_of_ble_eq_true rfl⟩) (z_preV hw (by decide) zG_0 rfl [.int (xs ((nI (6 * t)) + 1).toNatClampNeg), .int (xs ((nI (6 * t)) + 2).toNatClampNeg)]) rfl rfl hl.1 rfl (lv_room (Nat.le_of_ble_eq_true rfl)) dL_law_372 ⟨Nat.le_of_ble_eq_true rfl, Nat.le_of_ble_eq_true rfl⟩) hw (fun H locs hw => ?_)
  refine lv_aload_n hx hb dL_law_375 rfl (lv_at hl 2 rfl) ?_
  refine lv_aload_n hx hb dL_law_376 rfl (lv_at hl 0 rfl) ?_
  refine lv_iload_n hx hb dL_law_377 rfl (lv_at hl 3 rfl) ?_
  refine lv_iconst (v := 1) hx hb dL_law_378 (by decide) ?_
  refine lv_iadd hx hb dL_law_379 ?_
  refine va_sld hx hb hX hbl hbA hw.2.1 (sc_in 1 (by decide) h6 hL rfl) dL_law_380 ?_
  refine lv_aload_n hx hb dL_law_381 rfl (lv_at hl 0 rfl) ?_
  refine lv_iload_n hx hb dL_law_382 rfl (lv_at hl 3 rfl) ?_
  refine lv_iconst (v := 2) hx hb dL_law_383 (by decide) ?_
  refine lv_iadd hx hb dL_law_384 ?_
  refine va_sld hx hb hX hbl hbA hw.2.1 (sc_in 2 (by decide) h6 hL rfl) dL_law_385 ?_
  refine z_calli (rest := [.int (rTake c (xs ((nI (6 * t)) + 1).toNatClampNeg) (xs ((nI (6 * t)) + 2).toNatClampNeg))]) (va_runV (As := [.int (xs ((nI (6 * t)) + 1).toNatClampNeg), .int (xs ((nI (6 * t)) + 2).toNatClampNeg)]) (rest := [.int (rTake c (xs ((nI (6 * t)) + 1).toNatClampNeg) (xs ((nI (6 * t)) + 2).toNatClampNeg))]) ⟨hx, hb, hml, hown, hts⟩ (k_X3_take l E (sTake c (xs ((nI (6 * t)) + 1).toNatClampNeg) (xs ((nI (6 * t)) + 2).toNatClampNeg)) mo (xs ((nI (6 * t)) + 1).toNatClampNeg) (xs ((nI (6 * t)) + 2).toNatClampNeg) (by assumption)) (cwV 2 hts gL_law_X3_take rfl rfl rfl (by decide +kernel) ⟨Nat.le_of_ble_eq_true rfl, Nat.le_of_ble_eq_true rfl⟩) (z_preV hw (by decide) zG_32 rfl [.int (xs ((nI (6 * t)) + 1).toNatClampNeg), .int (xs ((nI (6 * t)) + 2).toNatClampNeg)]) rfl rfl hl.1 rfl (lv_room (Nat.le_of_ble_eq_true rfl)) dL_law_386 ⟨Nat.le_of_ble_eq_true rfl, Nat.le_of_ble_eq_true rfl⟩) hw (fun H locs hw => ?_)
  refine lv_icmp_eq (tgt := 831) hx hb dL_law_389 (by decide) (fun q_1 => ?_) (fun q_1 => ?_)
  · have _ := hx
    refine lv_iinc (v := nI (6 * (t + 1))) (lv' := [(3, .int (nI (6 * (t + 1)))), (0, .ref b), (1, .ref (zl E 0)), (2, .ref (zl E 32))]) hx hb dL_law_831 hl (k := 3) rfl (n6 t) (by decide) rfl (fun ls hl => ?_)
    refine lv_goto (tgt := 18) hx hb dL_law_834 (by decide) ?_
    exact ih _ _ _ _ _ (op_take h).2 hw (lv_sub hl [1, 2, 3, 0] rfl)
  · exact (absurd (op_take h).1 q_1)
set_option maxHeartbeats 4000000 in
set_option maxRecDepth 100000 in
theorem lc_lay {p : Program} {l : Launch} {e : Env} {s : State} {m : MethodId} {below : List Frame} {meth : Method} {cd : Code} {b L t : Nat} {xs : Nat → Int32} {E : zE} {c : zC} {mo : zM} {H : Heap} {locs : List Loc} {ls : Array Slot} (hL : L ≤ 3072) (C0 : lw_At p s m meth cd b L xs) (hz : zz E = s.heap.size) (h6 : 6 * t + 6 ≤ L) (h : Inv c mo t) (ih : ∀ (c : zC) (mo : zM) (H : Heap) (locs : List Loc) (ls : Array Slot), Inv c mo (t + 1) → zW E c mo s s.heap H locs → lv_has ls 4 [(0, .ref b), (1, .ref (zl E 0)), (2, .ref (zl E 32)), (3, .int (nI (6 * (t + 1))))] → W p l e room_1 s m #[Value.ref b] below meth cd H locs 42 70328 (lw_Z below #[Value.ref b] s) (F0 m 18 ls [])) (hw : zW E c mo s s.heap H locs) (hl : lv_has ls 4 [(0, .ref b), (1, .ref (zl E 0)), (2, .ref (zl E 32)), (3, .int (nI (6 * t)))]) : W p l e room_1 s m #[Value.ref b] below meth cd H locs 42 70328 (lw_Z below #[Value.ref b] s) (F0 m 394 ls []) := by
  obtain ⟨hx, hb, hr, hml, hown, hts0, hX, hbl, hlocks, hgv⟩ := id C0
  have hts : ∀ w ∈ wsL_law, w.before #[Value.ref b] s = true := fun w q => hts0 w (wsL_law_in w q)
  have hown : s.vm.findClass RL = some m.cls := hown
  have hb : cd.code = cL_law := hb
  have hbA : ¬ zA E b := by unfold zA; rw [hz]; exact Nat.not_le.mpr hbl
  have ht : t < 4000 := by omega
  have hwf : wfC c := h.1.1
  have hwm : wfM mo := h.1.2.1
  have hrow : vp_in (mo.1 32 3) 5000 := Inv_row h ht
  refine lv_aload_n hx hb dL_law_394 rfl (lv_at hl 1 rfl) ?_
  refine lv_aload_n hx hb dL_law_395 rfl (lv_at hl 0 rfl) ?_
  refine lv_iload_n hx hb dL_law_396 rfl (lv_at hl 3 rfl) ?_
  refine lv_iconst (v := 1) hx hb dL_law_397 (by decide) ?_
  refine lv_iadd hx hb dL_law_398 ?_
  refine va_sld hx hb hX hbl hbA hw.2.1 (sc_in 1 (by decide) h6 hL rfl) dL_law_399 ?_
  refine lv_aload_n hx hb dL_law_400 rfl (lv_at hl 0 rfl) ?_
  refine lv_iload_n hx hb dL_law_401 rfl (lv_at hl 3 rfl) ?_
  refine lv_iconst (v := 2) hx hb dL_law_402 (by decide) ?_
  refine lv_iadd hx hb dL_law_403 ?_
  refine va_sld hx hb hX hbl hbA hw.2.1 (sc_in 2 (by decide) h6 hL rfl) dL_law_404 ?_
  refine z_calli (rest := []) (va_runV (As := [.int (xs ((nI (6 * t)) + 1).toNatClampNeg), .int (xs ((nI (6 * t)) + 2).toNatClampNeg)]) (rest := []) ⟨hx, hb, hml, hown, hts⟩ (k_X2_lay l E c mo (xs ((nI (6 * t)) + 1).toNatClampNeg) (xs ((nI (6 * t)) + 2).toNatClampNeg) (by assumption)) (cwV 2 hts gL_law_X2_lay rfl rfl rfl (by decide +kernel) ⟨Nat.le_of_ble_eq_true rfl, Nat.le_of_ble_eq_true rfl⟩) (z_preV hw (by decide) zG_0 rfl [.int (xs ((nI (6 * t)) + 1).toNatClampNeg), .int (xs ((nI (6 * t)) + 2).toNatClampNeg)]) rfl rfl hl.1 rfl (lv_room (Nat.le_of_ble_eq_true rfl)) dL_law_405 ⟨Nat.le_of_ble_eq_true rfl, Nat.le_of_ble_eq_true rfl⟩) hw (fun H locs hw => ?_)
  refine lv_aload_n hx hb dL_law_408 rfl (lv_at hl 2 rfl) ?_
  refine lv_aload_n hx hb dL_law_409 rfl (lv_at hl 0 rfl) ?_
  refine lv_iload_n hx hb dL_law_410 rfl (lv_at hl 3 rfl) ?_
  refine lv_iconst (v := 1) hx hb dL_law_411 (by decide) ?_
  refine lv_iadd hx hb dL_law_412 ?_
  refine va_sld hx hb hX hbl hbA hw.2.1 (sc_in 1 (by decide) h6 hL rfl) dL_law_413 ?_
  refine lv_aload_n hx hb dL_law_414 rfl (lv_at hl 0 rfl) ?_
  refine lv_iload_n hx hb dL_law_415 rfl (lv_at hl 3 rfl) ?_
  refine lv_iconst (v := 2) hx hb dL_law_416 (by decide) ?_
  refine lv_iadd hx hb dL_law_417 ?_
  refine va_sld hx hb hX hbl hbA hw.2.1 (sc_in 2 (by decide) h6 hL rfl) dL_law_418 ?_
  refine z_calli (rest := [.int (rLay c (xs ((nI (6 * t)) + 1).toNatClampNeg) (xs ((nI (6 * t)) + 2).toNatClampNeg))]) (va_runV (As := [.int (xs ((nI (6 * t)) + 1).toNatClampNeg), .int (xs ((nI (6 * t)) + 2).toNatClampNeg)]) (rest := [.int (rLay c (xs ((nI (6 * t)) + 1).toNatClampNeg) (xs ((nI (6 * t)) + 2).toNatClampNeg))]) ⟨hx, hb, hml, hown, hts⟩ (k_X3_lay l E (sLay c (xs ((nI (6 * t)) + 1).toNatClampNeg) (xs ((nI (6 * t)) + 2).toNatClampNeg)) mo (xs ((nI (6 * t)) + 1).toNatClampNeg) (xs ((nI (6 * t)) + 2).toNatClampNeg) (by assumption)) (cwV 2 hts gL_law_X3_lay rfl rfl rfl (by decide +kernel) ⟨Nat.le_of_ble_eq_true rfl, Nat.le_of_ble_eq_true rfl⟩) (z_preV hw (by decide) zG_32 rfl [.int (xs ((nI (6 * t)) + 1).toNatClampNeg), .int (xs ((nI (6 * t)) + 2).toNatClampNeg)]) rfl rfl hl.1 rfl (lv_room (Nat.le_of_ble_eq_true rfl)) dL_law_419 ⟨Nat.le_of_ble_eq_true rfl, Nat.le_of_ble_eq_true rfl⟩) hw (fun H locs hw => ?_)
  refine lv_icmp_eq (tgt := 831) hx hb dL_law_422 (by decide) (fun q_1 => ?_) (fun q_1 => ?_)
  · have _ := hx
    refine lv_iinc (v := nI (6 * (t + 1))) (lv' := [(3, .int (nI (6 * (t + 1)))), (0, .ref b), (1, .ref (zl E 0)), (2, .ref (zl E 32))]) hx hb dL_law_831 hl (k := 3) rfl (n6 t) (by decide) rfl (fun ls hl => ?_)
    refine lv_goto (tgt := 18) hx hb dL_law_834 (by decide) ?_
    exact ih _ _ _ _ _ (op_lay h).2 hw (lv_sub hl [1, 2, 3, 0] rfl)
  · exact (absurd (op_lay h).1 q_1)
set_option maxHeartbeats 4000000 in
set_option maxRecDepth 100000 in
theorem lc_size {p : Program} {l : Launch} {e : Env} {s : State} {m : MethodId} {below : List Frame} {meth : Method} {cd : Code} {b L t : Nat} {xs : Nat → Int32} {E : zE} {c : zC} {mo : zM} {H : Heap} {locs : List Loc} {ls : Array Slot} (hL : L ≤ 3072) (C0 : lw_At p s m meth cd b L xs) (hz : zz E = s.heap.size) (h6 : 6 * t + 6 ≤ L) (h : Inv c mo t) (ih : ∀ (c : zC) (mo : zM) (H : Heap) (locs : List Loc) (ls : Array Slot), Inv c mo (t + 1) → zW E c mo s s.heap H locs → lv_has ls 4 [(0, .ref b), (1, .ref (zl E 0)), (2, .ref (zl E 32)), (3, .int (nI (6 * (t + 1))))] → W p l e room_1 s m #[Value.ref b] below meth cd H locs 42 70328 (lw_Z below #[Value.ref b] s) (F0 m 18 ls [])) (hw : zW E c mo s s.heap H locs) (hl : lv_has ls 4 [(0, .ref b), (1, .ref (zl E 0)), (2, .ref (zl E 32)), (3, .int (nI (6 * t)))]) : W p l e room_1 s m #[Value.ref b] below meth cd H locs 42 70328 (lw_Z below #[Value.ref b] s) (F0 m 427 ls []) := by
  obtain ⟨hx, hb, hr, hml, hown, hts0, hX, hbl, hlocks, hgv⟩ := id C0
  have hts : ∀ w ∈ wsL_law, w.before #[Value.ref b] s = true := fun w q => hts0 w (wsL_law_in w q)
  have hown : s.vm.findClass RL = some m.cls := hown
  have hb : cd.code = cL_law := hb
  have hbA : ¬ zA E b := by unfold zA; rw [hz]; exact Nat.not_le.mpr hbl
  have ht : t < 4000 := by omega
  have hwf : wfC c := h.1.1
  have hwm : wfM mo := h.1.2.1
  have hrow : vp_in (mo.1 32 3) 5000 := Inv_row h ht
  refine lv_aload_n hx hb dL_law_427 rfl (lv_at hl 1 rfl) ?_
  refine lv_aload_n hx hb dL_law_428 rfl (lv_at hl 0 rfl) ?_
  refine lv_iload_n hx hb dL_law_429 rfl (lv_at hl 3 rfl) ?_
  refine lv_iconst (v := 1) hx hb dL_law_430 (by decide) ?_
  refine lv_iadd hx hb dL_law_431 ?_
  refine va_sld hx hb hX hbl hbA hw.2.1 (sc_in 1 (by decide) h6 hL rfl) dL_law_432 ?_
  refine z_calli (rest := []) (va_runV (As := [.int (xs ((nI (6 * t)) + 1).toNatClampNeg)]) (rest := []) ⟨hx, hb, hml, hown, hts⟩ (k_X2_size l E c mo (xs ((nI (6 * t)) + 1).toNatClampNeg) (by assumption)) (cwV 1 hts gL_law_X2_size rfl rfl rfl (by decide +kernel) ⟨Nat.le_of_ble_eq_true rfl, Nat.le_of_ble_eq_true rfl⟩) (z_preV hw (by decide) zG_0 rfl [.int (xs ((nI (6 * t)) + 1).toNatClampNeg)]) rfl rfl hl.1 rfl (lv_room (Nat.le_of_ble_eq_true rfl)) dL_law_433 ⟨Nat.le_of_ble_eq_true rfl, Nat.le_of_ble_eq_true rfl⟩) hw (fun H locs hw => ?_)
  refine lv_aload_n hx hb dL_law_436 rfl (lv_at hl 2 rfl) ?_
  refine lv_aload_n hx hb dL_law_437 rfl (lv_at hl 0 rfl) ?_
  refine lv_iload_n hx hb dL_law_438 rfl (lv_at hl 3 rfl) ?_
  refine lv_iconst (v := 1) hx hb dL_law_439 (by decide) ?_
  refine lv_iadd hx hb dL_law_440 ?_
  refine va_sld hx hb hX hbl hbA hw.2.1 (sc_in 1 (by decide) h6 hL rfl) dL_law_441 ?_
  refine z_calli (rest := [.int (rSize c (xs ((nI (6 * t)) + 1).toNatClampNeg))]) (va_runV (As := [.int (xs ((nI (6 * t)) + 1).toNatClampNeg)]) (rest := [.int (rSize c (xs ((nI (6 * t)) + 1).toNatClampNeg))]) ⟨hx, hb, hml, hown, hts⟩ (k_X3_size l E (sFau c (xs ((nI (6 * t)) + 1).toNatClampNeg)) mo (xs ((nI (6 * t)) + 1).toNatClampNeg) (by assumption)) (cwV 1 hts gL_law_X3_size rfl rfl rfl (by decide +kernel) ⟨Nat.le_of_ble_eq_true rfl, Nat.le_of_ble_eq_true rfl⟩) (z_preV hw (by decide) zG_32 rfl [.int (xs ((nI (6 * t)) + 1).toNatClampNeg)]) rfl rfl hl.1 rfl (lv_room (Nat.le_of_ble_eq_true rfl)) dL_law_442 ⟨Nat.le_of_ble_eq_true rfl, Nat.le_of_ble_eq_true rfl⟩) hw (fun H locs hw => ?_)
  refine lv_icmp_eq (tgt := 831) hx hb dL_law_445 (by decide) (fun q_1 => ?_) (fun q_1 => ?_)
  · have _ := hx
    refine lv_iinc (v := nI (6 * (t + 1))) (lv' := [(3, .int (nI (6 * (t + 1)))), (0, .ref b), (1, .ref (zl E 0)), (2, .ref (zl E 32))]) hx hb dL_law_831 hl (k := 3) rfl (n6 t) (by decide) rfl (fun ls hl => ?_)
    refine lv_goto (tgt := 18) hx hb dL_law_834 (by decide) ?_
    exact ih _ _ _ _ _ (op_size h).2 hw (lv_sub hl [1, 2, 3, 0] rfl)
  · exact (absurd (op_size h).1 q_1)
set_option maxHeartbeats 4000000 in
set_option maxRecDepth 100000 in
theorem lc_pour {p : Program} {l : Launch} {e : Env} {s : State} {m : MethodId} {below : List Frame} {meth : Method} {cd : Code} {b L t : Nat} {xs : Nat → Int32} {E : zE} {c : zC} {mo : zM} {H : Heap} {locs : List Loc} {ls : Array Slot} (hL : L ≤ 3072) (C0 : lw_At p s m meth cd b L xs) (hz : zz E = s.heap.size) (h6 : 6 * t + 6 ≤ L) (h : Inv c mo t) (ih : ∀ (c : zC) (mo : zM) (H : Heap) (locs : List Loc) (ls : Array Slot), Inv c mo (t + 1) → zW E c mo s s.heap H locs → lv_has ls 4 [(0, .ref b), (1, .ref (zl E 0)), (2, .ref (zl E 32)), (3, .int (nI (6 * (t + 1))))] → W p l e room_1 s m #[Value.ref b] below meth cd H locs 42 70328 (lw_Z below #[Value.ref b] s) (F0 m 18 ls [])) (hw : zW E c mo s s.heap H locs) (hl : lv_has ls 4 [(0, .ref b), (1, .ref (zl E 0)), (2, .ref (zl E 32)), (3, .int (nI (6 * t)))]) : W p l e room_1 s m #[Value.ref b] below meth cd H locs 42 70328 (lw_Z below #[Value.ref b] s) (F0 m 450 ls []) := by
  obtain ⟨hx, hb, hr, hml, hown, hts0, hX, hbl, hlocks, hgv⟩ := id C0
  have hts : ∀ w ∈ wsL_law, w.before #[Value.ref b] s = true := fun w q => hts0 w (wsL_law_in w q)
  have hown : s.vm.findClass RL = some m.cls := hown
  have hb : cd.code = cL_law := hb
  have hbA : ¬ zA E b := by unfold zA; rw [hz]; exact Nat.not_le.mpr hbl
  have ht : t < 4000 := by omega
  have hwf : wfC c := h.1.1
  have hwm : wfM mo := h.1.2.1
  have hrow : vp_in (mo.1 32 3) 5000 := Inv_row h ht
  refine lv_aload_n hx hb dL_law_450 rfl (lv_at hl 1 rfl) ?_
  refine lv_aload_n hx hb dL_law_451 rfl (lv_at hl 0 rfl) ?_
  refine lv_iload_n hx hb dL_law_452 rfl (lv_at hl 3 rfl) ?_
  refine lv_iconst (v := 1) hx hb dL_law_453 (by decide) ?_
  refine lv_iadd hx hb dL_law_454 ?_
  refine va_sld hx hb hX hbl hbA hw.2.1 (sc_in 1 (by decide) h6 hL rfl) dL_law_455 ?_
  refine lv_aload_n hx hb dL_law_456 rfl (lv_at hl 0 rfl) ?_
  refine lv_iload_n hx hb dL_law_457 rfl (lv_at hl 3 rfl) ?_
  refine lv_iconst (v := 2) hx hb dL_law_458 (by decide) ?_
  refine lv_iadd hx hb dL_law_459 ?_
  refine va_sld hx hb hX hbl hbA hw.2.1 (sc_in 2 (by decide) h6 hL rfl) dL_law_460 ?_
  refine lv_aload_n hx hb dL_law_461 rfl (lv_at hl 0 rfl) ?_
  refine lv_iload_n hx hb dL_law_462 rfl (lv_at hl 3 rfl) ?_
  refine lv_iconst (v := 3) hx hb dL_law_463 (by decide) ?_
  refine lv_iadd hx hb dL_law_464 ?_
  refine va_sld hx hb hX hbl hbA hw.2.1 (sc_in 3 (by decide) h6 hL rfl) dL_law_465 ?_
  refine lv_aload_n hx hb dL_law_466 rfl (lv_at hl 0 rfl) ?_
  refine lv_iload_n hx hb dL_law_467 rfl (lv_at hl 3 rfl) ?_
  refine lv_iconst (v := 4) hx hb dL_law_468 (by decide) ?_
  refine lv_iadd hx hb dL_law_469 ?_
  refine va_sld hx hb hX hbl hbA hw.2.1 (sc_in 4 (by decide) h6 hL rfl) dL_law_470 ?_
  refine lv_aload_n hx hb dL_law_471 rfl (lv_at hl 0 rfl) ?_
  refine lv_iload_n hx hb dL_law_472 rfl (lv_at hl 3 rfl) ?_
  refine lv_iconst (v := 5) hx hb dL_law_473 (by decide) ?_
  refine lv_iadd hx hb dL_law_474 ?_
  refine va_sld hx hb hX hbl hbA hw.2.1 (sc_in 5 (by decide) h6 hL rfl) dL_law_475 ?_
  refine z_calli (rest := []) (va_runV (As := [.int (xs ((nI (6 * t)) + 1).toNatClampNeg), .int (xs ((nI (6 * t)) + 2).toNatClampNeg), .int (xs ((nI (6 * t)) + 3).toNatClampNeg), .int (xs ((nI (6 * t)) + 4).toNatClampNeg), .int (xs ((nI (6 * t)) + 5).toNatClampNeg)]) (rest := []) ⟨hx, hb, hml, hown, hts⟩ (k_X2_pour l E c mo (xs ((nI (6 * t)) + 1).toNatClampNeg) (xs ((nI (6 * t)) + 2).toNatClampNeg) (xs ((nI (6 * t)) + 3).toNatClampNeg) (xs ((nI (6 * t)) + 4).toNatClampNeg) (xs ((nI (6 * t)) + 5).toNatClampNeg) (by assumption)) (cwV 5 hts gL_law_X2_pour rfl rfl rfl (by decide +kernel) ⟨Nat.le_of_ble_eq_true rfl, Nat.le_of_ble_eq_true rfl⟩) (z_preV hw (by decide) zG_0 rfl [.int (xs ((nI (6 * t)) + 1).toNatClampNeg), .int (xs ((nI (6 * t)) + 2).toNatClampNeg), .int (xs ((nI (6 * t)) + 3).toNatClampNeg), .int (xs ((nI (6 * t)) + 4).toNatClampNeg), .int (xs ((nI (6 * t)) + 5).toNatClampNeg)]) rfl rfl hl.1 rfl (lv_room (Nat.le_of_ble_eq_true rfl)) dL_law_476 ⟨Nat.le_of_ble_eq_true rfl, Nat.le_of_ble_eq_true rfl⟩) hw (fun H locs hw => ?_)
  refine lv_aload_n hx hb dL_law_479 rfl (lv_at hl 2 rfl) ?_
  refine lv_aload_n hx hb dL_law_480 rfl (lv_at hl 0 rfl) ?_
  refine lv_iload_n hx hb dL_law_481 rfl (lv_at hl 3 rfl) ?_
  refine lv_iconst (v := 1) hx hb dL_law_482 (by decide) ?_
  refine lv_iadd hx hb dL_law_483 ?_
  refine va_sld hx hb hX hbl hbA hw.2.1 (sc_in 1 (by decide) h6 hL rfl) dL_law_484 ?_
  refine lv_aload_n hx hb dL_law_485 rfl (lv_at hl 0 rfl) ?_
  refine lv_iload_n hx hb dL_law_486 rfl (lv_at hl 3 rfl) ?_
  refine lv_iconst (v := 2) hx hb dL_law_487 (by decide) ?_
  refine lv_iadd hx hb dL_law_488 ?_
  refine va_sld hx hb hX hbl hbA hw.2.1 (sc_in 2 (by decide) h6 hL rfl) dL_law_489 ?_
  refine lv_aload_n hx hb dL_law_490 rfl (lv_at hl 0 rfl) ?_
  refine lv_iload_n hx hb dL_law_491 rfl (lv_at hl 3 rfl) ?_
  refine lv_iconst (v := 3) hx hb dL_law_492 (by decide) ?_
  refine lv_iadd hx hb dL_law_493 ?_
  refine va_sld hx hb hX hbl hbA hw.2.1 (sc_in 3 (by decide) h6 hL rfl) dL_law_494 ?_
  refine lv_aload_n hx hb dL_law_495 rfl (lv_at hl 0 rfl) ?_
  refine lv_iload_n hx hb dL_law_496 rfl (lv_at hl 3 rfl) ?_
  refine lv_iconst (v := 4) hx hb dL_law_497 (by decide) ?_
  refine lv_iadd hx hb dL_law_498 ?_
  refine va_sld hx hb hX hbl hbA hw.2.1 (sc_in 4 (by decide) h6 hL rfl) dL_law_499 ?_
  refine lv_aload_n hx hb dL_law_500 rfl (lv_at hl 0 rfl) ?_
  refine lv_iload_n hx hb dL_law_501 rfl (lv_at hl 3 rfl) ?_
  refine lv_iconst (v := 5) hx hb dL_law_502 (by decide) ?_
  refine lv_iadd hx hb dL_law_503 ?_
  refine va_sld hx hb hX hbl hbA hw.2.1 (sc_in 5 (by decide) h6 hL rfl) dL_law_504 ?_
  refine z_calli (rest := [.int ((pPour c (xs ((nI (6 * t)) + 1).toNatClampNeg) (xs ((nI (6 * t)) + 2).toNatClampNeg) (xs ((nI (6 * t)) + 3).toNatClampNeg) (xs ((nI (6 * t)) + 4).toNatClampNeg) (xs ((nI (6 * t)) + 5).toNatClampNeg)).1)]) (va_runV (As := [.int (xs ((nI (6 * t)) + 1).toNatClampNeg), .int (xs ((nI (6 * t)) + 2).toNatClampNeg), .int (xs ((nI (6 * t)) + 3).toNatClampNeg), .int (xs ((nI (6 * t)) + 4).toNatClampNeg), .int (xs ((nI (6 * t)) + 5).toNatClampNeg)]) (rest := [.int ((pPour c (xs ((nI (6 * t)) + 1).toNatClampNeg) (xs ((nI (6 * t)) + 2).toNatClampNeg) (xs ((nI (6 * t)) + 3).toNatClampNeg) (xs ((nI (6 * t)) + 4).toNatClampNeg) (xs ((nI (6 * t)) + 5).toNatClampNeg)).1)]) ⟨hx, hb, hml, hown, hts⟩ (k_X3_pour l E ((pPour c (xs ((nI (6 * t)) + 1).toNatClampNeg) (xs ((nI (6 * t)) + 2).toNatClampNeg) (xs ((nI (6 * t)) + 3).toNatClampNeg) (xs ((nI (6 * t)) + 4).toNatClampNeg) (xs ((nI (6 * t)) + 5).toNatClampNeg)).2) mo (xs ((nI (6 * t)) + 1).toNatClampNeg) (xs ((nI (6 * t)) + 2).toNatClampNeg) (xs ((nI (6 * t)) + 3).toNatClampNeg) (xs ((nI (6 * t)) + 4).toNatClampNeg) (xs ((nI (6 * t)) + 5).toNatClampNeg) (by assumption)) (cwV 5 hts gL_law_X3_pour rfl rfl rfl (by decide +kernel) ⟨Nat.le_of_ble_eq_true rfl, Nat.le_of_ble_eq_true rfl⟩) (z_preV hw (by decide) zG_32 rfl [.int (xs ((nI (6 * t)) + 1).toNatClampNeg), .int (xs ((nI (6 * t)) + 2).toNatClampNeg), .int (xs ((nI (6 * t)) + 3).toNatClampNeg), .int (xs ((nI (6 * t)) + 4).toNatClampNeg), .int (xs ((nI (6 * t)) + 5).toNatClampNeg)]) rfl rfl hl.1 rfl (lv_room (Nat.le_of_ble_eq_true rfl)) dL_law_505 ⟨Nat.le_of_ble_eq_true rfl, Nat.le_of_ble_eq_true rfl⟩) hw (fun H locs hw => ?_)
  refine lv_icmp_eq (tgt := 831) hx hb dL_law_508 (by decide) (fun q_1 => ?_) (fun q_1 => ?_)
  · have _ := hx
    refine lv_iinc (v := nI (6 * (t + 1))) (lv' := [(3, .int (nI (6 * (t + 1)))), (0, .ref b), (1, .ref (zl E 0)), (2, .ref (zl E 32))]) hx hb dL_law_831 hl (k := 3) rfl (n6 t) (by decide) rfl (fun ls hl => ?_)
    refine lv_goto (tgt := 18) hx hb dL_law_834 (by decide) ?_
    exact ih _ _ _ _ _ (op_pour h).2 hw (lv_sub hl [1, 2, 3, 0] rfl)
  · exact (absurd (op_pour h).1 q_1)
set_option maxHeartbeats 4000000 in
set_option maxRecDepth 100000 in
theorem lc_swap {p : Program} {l : Launch} {e : Env} {s : State} {m : MethodId} {below : List Frame} {meth : Method} {cd : Code} {b L t : Nat} {xs : Nat → Int32} {E : zE} {c : zC} {mo : zM} {H : Heap} {locs : List Loc} {ls : Array Slot} (hL : L ≤ 3072) (C0 : lw_At p s m meth cd b L xs) (hz : zz E = s.heap.size) (h6 : 6 * t + 6 ≤ L) (h : Inv c mo t) (ih : ∀ (c : zC) (mo : zM) (H : Heap) (locs : List Loc) (ls : Array Slot), Inv c mo (t + 1) → zW E c mo s s.heap H locs → lv_has ls 4 [(0, .ref b), (1, .ref (zl E 0)), (2, .ref (zl E 32)), (3, .int (nI (6 * (t + 1))))] → W p l e room_1 s m #[Value.ref b] below meth cd H locs 42 70328 (lw_Z below #[Value.ref b] s) (F0 m 18 ls [])) (hw : zW E c mo s s.heap H locs) (hl : lv_has ls 4 [(0, .ref b), (1, .ref (zl E 0)), (2, .ref (zl E 32)), (3, .int (nI (6 * t)))]) : W p l e room_1 s m #[Value.ref b] below meth cd H locs 42 70328 (lw_Z below #[Value.ref b] s) (F0 m 513 ls []) := by
  obtain ⟨hx, hb, hr, hml, hown, hts0, hX, hbl, hlocks, hgv⟩ := id C0
  have hts : ∀ w ∈ wsL_law, w.before #[Value.ref b] s = true := fun w q => hts0 w (wsL_law_in w q)
  have hown : s.vm.findClass RL = some m.cls := hown
  have hb : cd.code = cL_law := hb
  have hbA : ¬ zA E b := by unfold zA; rw [hz]; exact Nat.not_le.mpr hbl
  have ht : t < 4000 := by omega
  have hwf : wfC c := h.1.1
  have hwm : wfM mo := h.1.2.1
  have hrow : vp_in (mo.1 32 3) 5000 := Inv_row h ht
  refine lv_aload_n hx hb dL_law_513 rfl (lv_at hl 1 rfl) ?_
  refine lv_aload_n hx hb dL_law_514 rfl (lv_at hl 0 rfl) ?_
  refine lv_iload_n hx hb dL_law_515 rfl (lv_at hl 3 rfl) ?_
  refine lv_iconst (v := 1) hx hb dL_law_516 (by decide) ?_
  refine lv_iadd hx hb dL_law_517 ?_
  refine va_sld hx hb hX hbl hbA hw.2.1 (sc_in 1 (by decide) h6 hL rfl) dL_law_518 ?_
  refine lv_aload_n hx hb dL_law_519 rfl (lv_at hl 0 rfl) ?_
  refine lv_iload_n hx hb dL_law_520 rfl (lv_at hl 3 rfl) ?_
  refine lv_iconst (v := 2) hx hb dL_law_521 (by decide) ?_
  refine lv_iadd hx hb dL_law_522 ?_
  refine va_sld hx hb hX hbl hbA hw.2.1 (sc_in 2 (by decide) h6 hL rfl) dL_law_523 ?_
  refine lv_aload_n hx hb dL_law_524 rfl (lv_at hl 0 rfl) ?_
  refine lv_iload_n hx hb dL_law_525 rfl (lv_at hl 3 rfl) ?_
  refine lv_iconst (v := 3) hx hb dL_law_526 (by decide) ?_
  refine lv_iadd hx hb dL_law_527 ?_
  refine va_sld hx hb hX hbl hbA hw.2.1 (sc_in 3 (by decide) h6 hL rfl) dL_law_528 ?_
  refine lv_aload_n hx hb dL_law_529 rfl (lv_at hl 0 rfl) ?_
  refine lv_iload_n hx hb dL_law_530 rfl (lv_at hl 3 rfl) ?_
  refine lv_iconst (v := 4) hx hb dL_law_531 (by decide) ?_
  refine lv_iadd hx hb dL_law_532 ?_
  refine va_sld hx hb hX hbl hbA hw.2.1 (sc_in 4 (by decide) h6 hL rfl) dL_law_533 ?_
  refine z_calli (rest := []) (va_runV (As := [.int (xs ((nI (6 * t)) + 1).toNatClampNeg), .int (xs ((nI (6 * t)) + 2).toNatClampNeg), .int (xs ((nI (6 * t)) + 3).toNatClampNeg), .int (xs ((nI (6 * t)) + 4).toNatClampNeg)]) (rest := []) ⟨hx, hb, hml, hown, hts⟩ (k_X2_swap l E c mo (xs ((nI (6 * t)) + 1).toNatClampNeg) (xs ((nI (6 * t)) + 2).toNatClampNeg) (xs ((nI (6 * t)) + 3).toNatClampNeg) (xs ((nI (6 * t)) + 4).toNatClampNeg) (by assumption)) (cwV 4 hts gL_law_X2_swap rfl rfl rfl (by decide +kernel) ⟨Nat.le_of_ble_eq_true rfl, Nat.le_of_ble_eq_true rfl⟩) (z_preV hw (by decide) zG_0 rfl [.int (xs ((nI (6 * t)) + 1).toNatClampNeg), .int (xs ((nI (6 * t)) + 2).toNatClampNeg), .int (xs ((nI (6 * t)) + 3).toNatClampNeg), .int (xs ((nI (6 * t)) + 4).toNatClampNeg)]) rfl rfl hl.1 rfl (lv_room (Nat.le_of_ble_eq_true rfl)) dL_law_534 ⟨Nat.le_of_ble_eq_true rfl, Nat.le_of_ble_eq_true rfl⟩) hw (fun H locs hw => ?_)
  refine lv_aload_n hx hb dL_law_537 rfl (lv_at hl 2 rfl) ?_
  refine lv_aload_n hx hb dL_law_538 rfl (lv_at hl 0 rfl) ?_
  refine lv_iload_n hx hb dL_law_539 rfl (lv_at hl 3 rfl) ?_
  refine lv_iconst (v := 1) hx hb dL_law_540 (by decide) ?_
  refine lv_iadd hx hb dL_law_541 ?_
  refine va_sld hx hb hX hbl hbA hw.2.1 (sc_in 1 (by decide) h6 hL rfl) dL_law_542 ?_
  refine lv_aload_n hx hb dL_law_543 rfl (lv_at hl 0 rfl) ?_
  refine lv_iload_n hx hb dL_law_544 rfl (lv_at hl 3 rfl) ?_
  refine lv_iconst (v := 2) hx hb dL_law_545 (by decide) ?_
  refine lv_iadd hx hb dL_law_546 ?_
  refine va_sld hx hb hX hbl hbA hw.2.1 (sc_in 2 (by decide) h6 hL rfl) dL_law_547 ?_
  refine lv_aload_n hx hb dL_law_548 rfl (lv_at hl 0 rfl) ?_
  refine lv_iload_n hx hb dL_law_549 rfl (lv_at hl 3 rfl) ?_
  refine lv_iconst (v := 3) hx hb dL_law_550 (by decide) ?_
  refine lv_iadd hx hb dL_law_551 ?_
  refine va_sld hx hb hX hbl hbA hw.2.1 (sc_in 3 (by decide) h6 hL rfl) dL_law_552 ?_
  refine lv_aload_n hx hb dL_law_553 rfl (lv_at hl 0 rfl) ?_
  refine lv_iload_n hx hb dL_law_554 rfl (lv_at hl 3 rfl) ?_
  refine lv_iconst (v := 4) hx hb dL_law_555 (by decide) ?_
  refine lv_iadd hx hb dL_law_556 ?_
  refine va_sld hx hb hX hbl hbA hw.2.1 (sc_in 4 (by decide) h6 hL rfl) dL_law_557 ?_
  refine z_calli (rest := [.int (rSwap c (xs ((nI (6 * t)) + 1).toNatClampNeg) (xs ((nI (6 * t)) + 2).toNatClampNeg) (xs ((nI (6 * t)) + 3).toNatClampNeg) (xs ((nI (6 * t)) + 4).toNatClampNeg))]) (va_runV (As := [.int (xs ((nI (6 * t)) + 1).toNatClampNeg), .int (xs ((nI (6 * t)) + 2).toNatClampNeg), .int (xs ((nI (6 * t)) + 3).toNatClampNeg), .int (xs ((nI (6 * t)) + 4).toNatClampNeg)]) (rest := [.int (rSwap c (xs ((nI (6 * t)) + 1).toNatClampNeg) (xs ((nI (6 * t)) + 2).toNatClampNeg) (xs ((nI (6 * t)) + 3).toNatClampNeg) (xs ((nI (6 * t)) + 4).toNatClampNeg))]) ⟨hx, hb, hml, hown, hts⟩ (k_X3_swap l E (sSwap c (xs ((nI (6 * t)) + 1).toNatClampNeg) (xs ((nI (6 * t)) + 2).toNatClampNeg) (xs ((nI (6 * t)) + 3).toNatClampNeg) (xs ((nI (6 * t)) + 4).toNatClampNeg)) mo (xs ((nI (6 * t)) + 1).toNatClampNeg) (xs ((nI (6 * t)) + 2).toNatClampNeg) (xs ((nI (6 * t)) + 3).toNatClampNeg) (xs ((nI (6 * t)) + 4).toNatClampNeg) (by assumption)) (cwV 4 hts gL_law_X3_swap rfl rfl rfl (by decide +kernel) ⟨Nat.le_of_ble_eq_true rfl, Nat.le_of_ble_eq_true rfl⟩) (z_preV hw (by decide) zG_32 rfl [.int (xs ((nI (6 * t)) + 1).toNatClampNeg), .int (xs ((nI (6 * t)) + 2).toNatClampNeg), .int (xs ((nI (6 * t)) + 3).toNatClampNeg), .int (xs ((nI (6 * t)) + 4).toNatClampNeg)]) rfl rfl hl.1 rfl (lv_room (Nat.le_of_ble_eq_true rfl)) dL_law_558 ⟨Nat.le_of_ble_eq_true rfl, Nat.le_of_ble_eq_true rfl⟩) hw (fun H locs hw => ?_)
  refine lv_icmp_eq (tgt := 831) hx hb dL_law_561 (by decide) (fun q_1 => ?_) (fun q_1 => ?_)
  · have _ := hx
    refine lv_iinc (v := nI (6 * (t + 1))) (lv' := [(3, .int (nI (6 * (t + 1)))), (0, .ref b), (1, .ref (zl E 0)), (2, .ref (zl E 32))]) hx hb dL_law_831 hl (k := 3) rfl (n6 t) (by decide) rfl (fun ls hl => ?_)
    refine lv_goto (tgt := 18) hx hb dL_law_834 (by decide) ?_
    exact ih _ _ _ _ _ (op_swap h).2 hw (lv_sub hl [1, 2, 3, 0] rfl)
  · exact (absurd (op_swap h).1 q_1)
set_option maxHeartbeats 4000000 in
set_option maxRecDepth 100000 in
theorem lc_turn {p : Program} {l : Launch} {e : Env} {s : State} {m : MethodId} {below : List Frame} {meth : Method} {cd : Code} {b L t : Nat} {xs : Nat → Int32} {E : zE} {c : zC} {mo : zM} {H : Heap} {locs : List Loc} {ls : Array Slot} (hL : L ≤ 3072) (C0 : lw_At p s m meth cd b L xs) (hz : zz E = s.heap.size) (h6 : 6 * t + 6 ≤ L) (h : Inv c mo t) (ih : ∀ (c : zC) (mo : zM) (H : Heap) (locs : List Loc) (ls : Array Slot), Inv c mo (t + 1) → zW E c mo s s.heap H locs → lv_has ls 4 [(0, .ref b), (1, .ref (zl E 0)), (2, .ref (zl E 32)), (3, .int (nI (6 * (t + 1))))] → W p l e room_1 s m #[Value.ref b] below meth cd H locs 42 70328 (lw_Z below #[Value.ref b] s) (F0 m 18 ls [])) (hw : zW E c mo s s.heap H locs) (hl : lv_has ls 4 [(0, .ref b), (1, .ref (zl E 0)), (2, .ref (zl E 32)), (3, .int (nI (6 * t)))]) : W p l e room_1 s m #[Value.ref b] below meth cd H locs 42 70328 (lw_Z below #[Value.ref b] s) (F0 m 566 ls []) := by
  obtain ⟨hx, hb, hr, hml, hown, hts0, hX, hbl, hlocks, hgv⟩ := id C0
  have hts : ∀ w ∈ wsL_law, w.before #[Value.ref b] s = true := fun w q => hts0 w (wsL_law_in w q)
  have hown : s.vm.findClass RL = some m.cls := hown
  have hb : cd.code = cL_law := hb
  have hbA : ¬ zA E b := by unfold zA; rw [hz]; exact Nat.not_le.mpr hbl
  have ht : t < 4000 := by omega
  have hwf : wfC c := h.1.1
  have hwm : wfM mo := h.1.2.1
  have hrow : vp_in (mo.1 32 3) 5000 := Inv_row h ht
  refine lv_aload_n hx hb dL_law_566 rfl (lv_at hl 1 rfl) ?_
  refine lv_aload_n hx hb dL_law_567 rfl (lv_at hl 0 rfl) ?_
  refine lv_iload_n hx hb dL_law_568 rfl (lv_at hl 3 rfl) ?_
  refine lv_iconst (v := 1) hx hb dL_law_569 (by decide) ?_
  refine lv_iadd hx hb dL_law_570 ?_
  refine va_sld hx hb hX hbl hbA hw.2.1 (sc_in 1 (by decide) h6 hL rfl) dL_law_571 ?_
  refine z_calli (rest := []) (va_runV (As := [.int (xs ((nI (6 * t)) + 1).toNatClampNeg)]) (rest := []) ⟨hx, hb, hml, hown, hts⟩ (k_X2_turn l E c mo (xs ((nI (6 * t)) + 1).toNatClampNeg) (by assumption)) (cwV 1 hts gL_law_X2_turn rfl rfl rfl (by decide +kernel) ⟨Nat.le_of_ble_eq_true rfl, Nat.le_of_ble_eq_true rfl⟩) (z_preV hw (by decide) zG_0 rfl [.int (xs ((nI (6 * t)) + 1).toNatClampNeg)]) rfl rfl hl.1 rfl (lv_room (Nat.le_of_ble_eq_true rfl)) dL_law_572 ⟨Nat.le_of_ble_eq_true rfl, Nat.le_of_ble_eq_true rfl⟩) hw (fun H locs hw => ?_)
  refine lv_aload_n hx hb dL_law_575 rfl (lv_at hl 2 rfl) ?_
  refine lv_aload_n hx hb dL_law_576 rfl (lv_at hl 0 rfl) ?_
  refine lv_iload_n hx hb dL_law_577 rfl (lv_at hl 3 rfl) ?_
  refine lv_iconst (v := 1) hx hb dL_law_578 (by decide) ?_
  refine lv_iadd hx hb dL_law_579 ?_
  refine va_sld hx hb hX hbl hbA hw.2.1 (sc_in 1 (by decide) h6 hL rfl) dL_law_580 ?_
  refine z_calli (rest := [.int (rTurn c (xs ((nI (6 * t)) + 1).toNatClampNeg))]) (va_runV (As := [.int (xs ((nI (6 * t)) + 1).toNatClampNeg)]) (rest := [.int (rTurn c (xs ((nI (6 * t)) + 1).toNatClampNeg))]) ⟨hx, hb, hml, hown, hts⟩ (k_X3_turn l E (sTurn c (xs ((nI (6 * t)) + 1).toNatClampNeg)) mo (xs ((nI (6 * t)) + 1).toNatClampNeg) (by assumption)) (cwV 1 hts gL_law_X3_turn rfl rfl rfl (by decide +kernel) ⟨Nat.le_of_ble_eq_true rfl, Nat.le_of_ble_eq_true rfl⟩) (z_preV hw (by decide) zG_32 rfl [.int (xs ((nI (6 * t)) + 1).toNatClampNeg)]) rfl rfl hl.1 rfl (lv_room (Nat.le_of_ble_eq_true rfl)) dL_law_581 ⟨Nat.le_of_ble_eq_true rfl, Nat.le_of_ble_eq_true rfl⟩) hw (fun H locs hw => ?_)
  refine lv_icmp_eq (tgt := 831) hx hb dL_law_584 (by decide) (fun q_1 => ?_) (fun q_1 => ?_)
  · have _ := hx
    refine lv_iinc (v := nI (6 * (t + 1))) (lv' := [(3, .int (nI (6 * (t + 1)))), (0, .ref b), (1, .ref (zl E 0)), (2, .ref (zl E 32))]) hx hb dL_law_831 hl (k := 3) rfl (n6 t) (by decide) rfl (fun ls hl => ?_)
    refine lv_goto (tgt := 18) hx hb dL_law_834 (by decide) ?_
    exact ih _ _ _ _ _ (op_turn h).2 hw (lv_sub hl [1, 2, 3, 0] rfl)
  · exact (absurd (op_turn h).1 q_1)
set_option maxHeartbeats 4000000 in
set_option maxRecDepth 100000 in
theorem lc_sum {p : Program} {l : Launch} {e : Env} {s : State} {m : MethodId} {below : List Frame} {meth : Method} {cd : Code} {b L t : Nat} {xs : Nat → Int32} {E : zE} {c : zC} {mo : zM} {H : Heap} {locs : List Loc} {ls : Array Slot} (hL : L ≤ 3072) (C0 : lw_At p s m meth cd b L xs) (hz : zz E = s.heap.size) (h6 : 6 * t + 6 ≤ L) (h : Inv c mo t) (ih : ∀ (c : zC) (mo : zM) (H : Heap) (locs : List Loc) (ls : Array Slot), Inv c mo (t + 1) → zW E c mo s s.heap H locs → lv_has ls 4 [(0, .ref b), (1, .ref (zl E 0)), (2, .ref (zl E 32)), (3, .int (nI (6 * (t + 1))))] → W p l e room_1 s m #[Value.ref b] below meth cd H locs 42 70328 (lw_Z below #[Value.ref b] s) (F0 m 18 ls [])) (hw : zW E c mo s s.heap H locs) (hl : lv_has ls 4 [(0, .ref b), (1, .ref (zl E 0)), (2, .ref (zl E 32)), (3, .int (nI (6 * t)))]) : W p l e room_1 s m #[Value.ref b] below meth cd H locs 42 70328 (lw_Z below #[Value.ref b] s) (F0 m 589 ls []) := by
  obtain ⟨hx, hb, hr, hml, hown, hts0, hX, hbl, hlocks, hgv⟩ := id C0
  have hts : ∀ w ∈ wsL_law, w.before #[Value.ref b] s = true := fun w q => hts0 w (wsL_law_in w q)
  have hown : s.vm.findClass RL = some m.cls := hown
  have hb : cd.code = cL_law := hb
  have hbA : ¬ zA E b := by unfold zA; rw [hz]; exact Nat.not_le.mpr hbl
  have ht : t < 4000 := by omega
  have hwf : wfC c := h.1.1
  have hwm : wfM mo := h.1.2.1
  have hrow : vp_in (mo.1 32 3) 5000 := Inv_row h ht
  refine lv_aload_n hx hb dL_law_589 rfl (lv_at hl 1 rfl) ?_
  refine lv_aload_n hx hb dL_law_590 rfl (lv_at hl 0 rfl) ?_
  refine lv_iload_n hx hb dL_law_591 rfl (lv_at hl 3 rfl) ?_
  refine lv_iconst (v := 1) hx hb dL_law_592 (by decide) ?_
  refine lv_iadd hx hb dL_law_593 ?_
  refine va_sld hx hb hX hbl hbA hw.2.1 (sc_in 1 (by decide) h6 hL rfl) dL_law_594 ?_
  refine z_calll (rest := []) (va_runV (As := [.int (xs ((nI (6 * t)) + 1).toNatClampNeg)]) (rest := []) ⟨hx, hb, hml, hown, hts⟩ (k_X2_sum l E c mo (xs ((nI (6 * t)) + 1).toNatClampNeg) (by assumption)) (cwV 1 hts gL_law_X2_sum rfl rfl rfl (by decide +kernel) ⟨Nat.le_of_ble_eq_true rfl, Nat.le_of_ble_eq_true rfl⟩) (z_preV hw (by decide) zG_0 rfl [.int (xs ((nI (6 * t)) + 1).toNatClampNeg)]) rfl rfl hl.1 rfl (lv_room (Nat.le_of_ble_eq_true rfl)) dL_law_595 ⟨Nat.le_of_ble_eq_true rfl, Nat.le_of_ble_eq_true rfl⟩) hw (fun H locs hw => ?_)
  refine lv_aload_n hx hb dL_law_598 rfl (lv_at hl 2 rfl) ?_
  refine lv_aload_n hx hb dL_law_599 rfl (lv_at hl 0 rfl) ?_
  refine lv_iload_n hx hb dL_law_600 rfl (lv_at hl 3 rfl) ?_
  refine lv_iconst (v := 1) hx hb dL_law_601 (by decide) ?_
  refine lv_iadd hx hb dL_law_602 ?_
  refine va_sld hx hb hX hbl hbA hw.2.1 (sc_in 1 (by decide) h6 hL rfl) dL_law_603 ?_
  refine z_calll (rest := [.long (rSum c (xs ((nI (6 * t)) + 1).toNatClampNeg))]) (va_runV (As := [.int (xs ((nI (6 * t)) + 1).toNatClampNeg)]) (rest := [.long (rSum c (xs ((nI (6 * t)) + 1).toNatClampNeg))]) ⟨hx, hb, hml, hown, hts⟩ (k_X3_sum l E (sFau c (xs ((nI (6 * t)) + 1).toNatClampNeg)) mo (xs ((nI (6 * t)) + 1).toNatClampNeg) (by assumption)) (cwV 1 hts gL_law_X3_sum rfl rfl rfl (by decide +kernel) ⟨Nat.le_of_ble_eq_true rfl, Nat.le_of_ble_eq_true rfl⟩) (z_preV hw (by decide) zG_32 rfl [.int (xs ((nI (6 * t)) + 1).toNatClampNeg)]) rfl rfl hl.1 rfl (lv_room (Nat.le_of_ble_eq_true rfl)) dL_law_604 ⟨Nat.le_of_ble_eq_true rfl, Nat.le_of_ble_eq_true rfl⟩) hw (fun H locs hw => ?_)
  refine W.lcmp hx hb dL_law_607 ?_
  refine lv_if_eq (tgt := 831) hx hb dL_law_608 (by decide) (fun q_1 => ?_) (fun q_1 => ?_)
  · have _ := hx
    refine lv_iinc (v := nI (6 * (t + 1))) (lv' := [(3, .int (nI (6 * (t + 1)))), (0, .ref b), (1, .ref (zl E 0)), (2, .ref (zl E 32))]) hx hb dL_law_831 hl (k := 3) rfl (n6 t) (by decide) rfl (fun ls hl => ?_)
    refine lv_goto (tgt := 18) hx hb dL_law_834 (by decide) ?_
    exact ih _ _ _ _ _ (op_sum h).2 hw (lv_sub hl [1, 2, 3, 0] rfl)
  · exact (absurd ((lg_eq _ _).mpr (op_sum h).1) q_1)
set_option maxHeartbeats 4000000 in
set_option maxRecDepth 100000 in
theorem lc_find {p : Program} {l : Launch} {e : Env} {s : State} {m : MethodId} {below : List Frame} {meth : Method} {cd : Code} {b L t : Nat} {xs : Nat → Int32} {E : zE} {c : zC} {mo : zM} {H : Heap} {locs : List Loc} {ls : Array Slot} (hL : L ≤ 3072) (C0 : lw_At p s m meth cd b L xs) (hz : zz E = s.heap.size) (h6 : 6 * t + 6 ≤ L) (h : Inv c mo t) (ih : ∀ (c : zC) (mo : zM) (H : Heap) (locs : List Loc) (ls : Array Slot), Inv c mo (t + 1) → zW E c mo s s.heap H locs → lv_has ls 4 [(0, .ref b), (1, .ref (zl E 0)), (2, .ref (zl E 32)), (3, .int (nI (6 * (t + 1))))] → W p l e room_1 s m #[Value.ref b] below meth cd H locs 42 70328 (lw_Z below #[Value.ref b] s) (F0 m 18 ls [])) (hw : zW E c mo s s.heap H locs) (hl : lv_has ls 4 [(0, .ref b), (1, .ref (zl E 0)), (2, .ref (zl E 32)), (3, .int (nI (6 * t)))]) : W p l e room_1 s m #[Value.ref b] below meth cd H locs 42 70328 (lw_Z below #[Value.ref b] s) (F0 m 613 ls []) := by
  obtain ⟨hx, hb, hr, hml, hown, hts0, hX, hbl, hlocks, hgv⟩ := id C0
  have hts : ∀ w ∈ wsL_law, w.before #[Value.ref b] s = true := fun w q => hts0 w (wsL_law_in w q)
  have hown : s.vm.findClass RL = some m.cls := hown
  have hb : cd.code = cL_law := hb
  have hbA : ¬ zA E b := by unfold zA; rw [hz]; exact Nat.not_le.mpr hbl
  have ht : t < 4000 := by omega
  have hwf : wfC c := h.1.1
  have hwm : wfM mo := h.1.2.1
  have hrow : vp_in (mo.1 32 3) 5000 := Inv_row h ht
  refine lv_aload_n hx hb dL_law_613 rfl (lv_at hl 1 rfl) ?_
  refine lv_aload_n hx hb dL_law_614 rfl (lv_at hl 0 rfl) ?_
  refine lv_iload_n hx hb dL_law_615 rfl (lv_at hl 3 rfl) ?_
  refine lv_iconst (v := 1) hx hb dL_law_616 (by decide) ?_
  refine lv_iadd hx hb dL_law_617 ?_
  refine va_sld hx hb hX hbl hbA hw.2.1 (sc_in 1 (by decide) h6 hL rfl) dL_law_618 ?_
  refine z_calli (rest := []) (va_runV (As := [.int (xs ((nI (6 * t)) + 1).toNatClampNeg)]) (rest := []) ⟨hx, hb, hml, hown, hts⟩ (k_X2_find l E c mo (xs ((nI (6 * t)) + 1).toNatClampNeg) (by assumption)) (cwV 1 hts gL_law_X2_find rfl rfl rfl (by decide +kernel) ⟨Nat.le_of_ble_eq_true rfl, Nat.le_of_ble_eq_true rfl⟩) (z_preV hw (by decide) zG_0 rfl [.int (xs ((nI (6 * t)) + 1).toNatClampNeg)]) rfl rfl hl.1 rfl (lv_room (Nat.le_of_ble_eq_true rfl)) dL_law_619 ⟨Nat.le_of_ble_eq_true rfl, Nat.le_of_ble_eq_true rfl⟩) hw (fun H locs hw => ?_)
  refine lv_aload_n hx hb dL_law_622 rfl (lv_at hl 2 rfl) ?_
  refine lv_aload_n hx hb dL_law_623 rfl (lv_at hl 0 rfl) ?_
  refine lv_iload_n hx hb dL_law_624 rfl (lv_at hl 3 rfl) ?_
  refine lv_iconst (v := 1) hx hb dL_law_625 (by decide) ?_
  refine lv_iadd hx hb dL_law_626 ?_
  refine va_sld hx hb hX hbl hbA hw.2.1 (sc_in 1 (by decide) h6 hL rfl) dL_law_627 ?_
  refine z_calli (rest := [.int (rFind c (xs ((nI (6 * t)) + 1).toNatClampNeg))]) (va_runV (As := [.int (xs ((nI (6 * t)) + 1).toNatClampNeg)]) (rest := [.int (rFind c (xs ((nI (6 * t)) + 1).toNatClampNeg))]) ⟨hx, hb, hml, hown, hts⟩ (k_X3_find l E (sFau c (xs ((nI (6 * t)) + 1).toNatClampNeg)) mo (xs ((nI (6 * t)) + 1).toNatClampNeg) (by assumption)) (cwV 1 hts gL_law_X3_find rfl rfl rfl (by decide +kernel) ⟨Nat.le_of_ble_eq_true rfl, Nat.le_of_ble_eq_true rfl⟩) (z_preV hw (by decide) zG_32 rfl [.int (xs ((nI (6 * t)) + 1).toNatClampNeg)]) rfl rfl hl.1 rfl (lv_room (Nat.le_of_ble_eq_true rfl)) dL_law_628 ⟨Nat.le_of_ble_eq_true rfl, Nat.le_of_ble_eq_true rfl⟩) hw (fun H locs hw => ?_)
  refine lv_icmp_eq (tgt := 831) hx hb dL_law_631 (by decide) (fun q_1 => ?_) (fun q_1 => ?_)
  · have _ := hx
    refine lv_iinc (v := nI (6 * (t + 1))) (lv' := [(3, .int (nI (6 * (t + 1)))), (0, .ref b), (1, .ref (zl E 0)), (2, .ref (zl E 32))]) hx hb dL_law_831 hl (k := 3) rfl (n6 t) (by decide) rfl (fun ls hl => ?_)
    refine lv_goto (tgt := 18) hx hb dL_law_834 (by decide) ?_
    exact ih _ _ _ _ _ (op_find h).2 hw (lv_sub hl [1, 2, 3, 0] rfl)
  · exact (absurd (op_find h).1 q_1)
set_option maxHeartbeats 4000000 in
set_option maxRecDepth 100000 in
theorem lc_order {p : Program} {l : Launch} {e : Env} {s : State} {m : MethodId} {below : List Frame} {meth : Method} {cd : Code} {b L t : Nat} {xs : Nat → Int32} {E : zE} {c : zC} {mo : zM} {H : Heap} {locs : List Loc} {ls : Array Slot} (hL : L ≤ 3072) (C0 : lw_At p s m meth cd b L xs) (hz : zz E = s.heap.size) (h6 : 6 * t + 6 ≤ L) (h : Inv c mo t) (ih : ∀ (c : zC) (mo : zM) (H : Heap) (locs : List Loc) (ls : Array Slot), Inv c mo (t + 1) → zW E c mo s s.heap H locs → lv_has ls 4 [(0, .ref b), (1, .ref (zl E 0)), (2, .ref (zl E 32)), (3, .int (nI (6 * (t + 1))))] → W p l e room_1 s m #[Value.ref b] below meth cd H locs 42 70328 (lw_Z below #[Value.ref b] s) (F0 m 18 ls [])) (hw : zW E c mo s s.heap H locs) (hl : lv_has ls 4 [(0, .ref b), (1, .ref (zl E 0)), (2, .ref (zl E 32)), (3, .int (nI (6 * t)))]) : W p l e room_1 s m #[Value.ref b] below meth cd H locs 42 70328 (lw_Z below #[Value.ref b] s) (F0 m 636 ls []) := by
  obtain ⟨hx, hb, hr, hml, hown, hts0, hX, hbl, hlocks, hgv⟩ := id C0
  have hts : ∀ w ∈ wsL_law, w.before #[Value.ref b] s = true := fun w q => hts0 w (wsL_law_in w q)
  have hown : s.vm.findClass RL = some m.cls := hown
  have hb : cd.code = cL_law := hb
  have hbA : ¬ zA E b := by unfold zA; rw [hz]; exact Nat.not_le.mpr hbl
  have ht : t < 4000 := by omega
  have hwf : wfC c := h.1.1
  have hwm : wfM mo := h.1.2.1
  have hrow : vp_in (mo.1 32 3) 5000 := Inv_row h ht
  refine lv_aload_n hx hb dL_law_636 rfl (lv_at hl 1 rfl) ?_
  refine lv_aload_n hx hb dL_law_637 rfl (lv_at hl 0 rfl) ?_
  refine lv_iload_n hx hb dL_law_638 rfl (lv_at hl 3 rfl) ?_
  refine lv_iconst (v := 1) hx hb dL_law_639 (by decide) ?_
  refine lv_iadd hx hb dL_law_640 ?_
  refine va_sld hx hb hX hbl hbA hw.2.1 (sc_in 1 (by decide) h6 hL rfl) dL_law_641 ?_
  refine lv_aload_n hx hb dL_law_642 rfl (lv_at hl 0 rfl) ?_
  refine lv_iload_n hx hb dL_law_643 rfl (lv_at hl 3 rfl) ?_
  refine lv_iconst (v := 2) hx hb dL_law_644 (by decide) ?_
  refine lv_iadd hx hb dL_law_645 ?_
  refine va_sld hx hb hX hbl hbA hw.2.1 (sc_in 2 (by decide) h6 hL rfl) dL_law_646 ?_
  refine lv_aload_n hx hb dL_law_647 rfl (lv_at hl 0 rfl) ?_
  refine lv_iload_n hx hb dL_law_648 rfl (lv_at hl 3 rfl) ?_
  refine lv_iconst (v := 3) hx hb dL_law_649 (by decide) ?_
  refine lv_iadd hx hb dL_law_650 ?_
  refine va_sld hx hb hX hbl hbA hw.2.1 (sc_in 3 (by decide) h6 hL rfl) dL_law_651 ?_
  refine lv_aload_n hx hb dL_law_652 rfl (lv_at hl 0 rfl) ?_
  refine lv_iload_n hx hb dL_law_653 rfl (lv_at hl 3 rfl) ?_
  refine lv_iconst (v := 4) hx hb dL_law_654 (by decide) ?_
  refine lv_iadd hx hb dL_law_655 ?_
  refine va_sld hx hb hX hbl hbA hw.2.1 (sc_in 4 (by decide) h6 hL rfl) dL_law_656 ?_
  refine lv_aload_n hx hb dL_law_657 rfl (lv_at hl 0 rfl) ?_
  refine lv_iload_n hx hb dL_law_658 rfl (lv_at hl 3 rfl) ?_
  refine lv_iconst (v := 5) hx hb dL_law_659 (by decide) ?_
  refine lv_iadd hx hb dL_law_660 ?_
  refine va_sld hx hb hX hbl hbA hw.2.1 (sc_in 5 (by decide) h6 hL rfl) dL_law_661 ?_
  refine z_calli (rest := []) (va_runV (As := [.int (xs ((nI (6 * t)) + 1).toNatClampNeg), .int (xs ((nI (6 * t)) + 2).toNatClampNeg), .int (xs ((nI (6 * t)) + 3).toNatClampNeg), .int (xs ((nI (6 * t)) + 4).toNatClampNeg), .int (xs ((nI (6 * t)) + 5).toNatClampNeg)]) (rest := []) ⟨hx, hb, hml, hown, hts⟩ (k_X2_order l E c mo (xs ((nI (6 * t)) + 1).toNatClampNeg) (xs ((nI (6 * t)) + 2).toNatClampNeg) (xs ((nI (6 * t)) + 3).toNatClampNeg) (xs ((nI (6 * t)) + 4).toNatClampNeg) (xs ((nI (6 * t)) + 5).toNatClampNeg) (by assumption)) (cwV 5 hts gL_law_X2_order rfl rfl rfl (by decide +kernel) ⟨Nat.le_of_ble_eq_true rfl, Nat.le_of_ble_eq_true rfl⟩) (z_preV hw (by decide) zG_0 rfl [.int (xs ((nI (6 * t)) + 1).toNatClampNeg), .int (xs ((nI (6 * t)) + 2).toNatClampNeg), .int (xs ((nI (6 * t)) + 3).toNatClampNeg), .int (xs ((nI (6 * t)) + 4).toNatClampNeg), .int (xs ((nI (6 * t)) + 5).toNatClampNeg)]) rfl rfl hl.1 rfl (lv_room (Nat.le_of_ble_eq_true rfl)) dL_law_662 ⟨Nat.le_of_ble_eq_true rfl, Nat.le_of_ble_eq_true rfl⟩) hw (fun H locs hw => ?_)
  refine lv_aload_n hx hb dL_law_665 rfl (lv_at hl 2 rfl) ?_
  refine lv_aload_n hx hb dL_law_666 rfl (lv_at hl 0 rfl) ?_
  refine lv_iload_n hx hb dL_law_667 rfl (lv_at hl 3 rfl) ?_
  refine lv_iconst (v := 1) hx hb dL_law_668 (by decide) ?_
  refine lv_iadd hx hb dL_law_669 ?_
  refine va_sld hx hb hX hbl hbA hw.2.1 (sc_in 1 (by decide) h6 hL rfl) dL_law_670 ?_
  refine lv_aload_n hx hb dL_law_671 rfl (lv_at hl 0 rfl) ?_
  refine lv_iload_n hx hb dL_law_672 rfl (lv_at hl 3 rfl) ?_
  refine lv_iconst (v := 2) hx hb dL_law_673 (by decide) ?_
  refine lv_iadd hx hb dL_law_674 ?_
  refine va_sld hx hb hX hbl hbA hw.2.1 (sc_in 2 (by decide) h6 hL rfl) dL_law_675 ?_
  refine lv_aload_n hx hb dL_law_676 rfl (lv_at hl 0 rfl) ?_
  refine lv_iload_n hx hb dL_law_677 rfl (lv_at hl 3 rfl) ?_
  refine lv_iconst (v := 3) hx hb dL_law_678 (by decide) ?_
  refine lv_iadd hx hb dL_law_679 ?_
  refine va_sld hx hb hX hbl hbA hw.2.1 (sc_in 3 (by decide) h6 hL rfl) dL_law_680 ?_
  refine lv_aload_n hx hb dL_law_681 rfl (lv_at hl 0 rfl) ?_
  refine lv_iload_n hx hb dL_law_682 rfl (lv_at hl 3 rfl) ?_
  refine lv_iconst (v := 4) hx hb dL_law_683 (by decide) ?_
  refine lv_iadd hx hb dL_law_684 ?_
  refine va_sld hx hb hX hbl hbA hw.2.1 (sc_in 4 (by decide) h6 hL rfl) dL_law_685 ?_
  refine lv_aload_n hx hb dL_law_686 rfl (lv_at hl 0 rfl) ?_
  refine lv_iload_n hx hb dL_law_687 rfl (lv_at hl 3 rfl) ?_
  refine lv_iconst (v := 5) hx hb dL_law_688 (by decide) ?_
  refine lv_iadd hx hb dL_law_689 ?_
  refine va_sld hx hb hX hbl hbA hw.2.1 (sc_in 5 (by decide) h6 hL rfl) dL_law_690 ?_
  refine z_calli (rest := [.int (rOrd c (xs ((nI (6 * t)) + 1).toNatClampNeg) (xs ((nI (6 * t)) + 2).toNatClampNeg) (xs ((nI (6 * t)) + 3).toNatClampNeg) (xs ((nI (6 * t)) + 4).toNatClampNeg) (xs ((nI (6 * t)) + 5).toNatClampNeg))]) (va_runV (As := [.int (xs ((nI (6 * t)) + 1).toNatClampNeg), .int (xs ((nI (6 * t)) + 2).toNatClampNeg), .int (xs ((nI (6 * t)) + 3).toNatClampNeg), .int (xs ((nI (6 * t)) + 4).toNatClampNeg), .int (xs ((nI (6 * t)) + 5).toNatClampNeg)]) (rest := [.int (rOrd c (xs ((nI (6 * t)) + 1).toNatClampNeg) (xs ((nI (6 * t)) + 2).toNatClampNeg) (xs ((nI (6 * t)) + 3).toNatClampNeg) (xs ((nI (6 * t)) + 4).toNatClampNeg) (xs ((nI (6 * t)) + 5).toNatClampNeg))]) ⟨hx, hb, hml, hown, hts⟩ (k_X3_order l E (sOrd c (xs ((nI (6 * t)) + 1).toNatClampNeg) (xs ((nI (6 * t)) + 2).toNatClampNeg) (xs ((nI (6 * t)) + 3).toNatClampNeg) (xs ((nI (6 * t)) + 4).toNatClampNeg) (xs ((nI (6 * t)) + 5).toNatClampNeg)) mo (xs ((nI (6 * t)) + 1).toNatClampNeg) (xs ((nI (6 * t)) + 2).toNatClampNeg) (xs ((nI (6 * t)) + 3).toNatClampNeg) (xs ((nI (6 * t)) + 4).toNatClampNeg) (xs ((nI (6 * t)) + 5).toNatClampNeg) (by assumption)) (cwV 5 hts gL_law_X3_order rfl rfl rfl (by decide +kernel) ⟨Nat.le_of_ble_eq_true rfl, Nat.le_of_ble_eq_true rfl⟩) (z_preV hw (by decide) zG_32 rfl [.int (xs ((nI (6 * t)) + 1).toNatClampNeg), .int (xs ((nI (6 * t)) + 2).toNatClampNeg), .int (xs ((nI (6 * t)) + 3).toNatClampNeg), .int (xs ((nI (6 * t)) + 4).toNatClampNeg), .int (xs ((nI (6 * t)) + 5).toNatClampNeg)]) rfl rfl hl.1 rfl (lv_room (Nat.le_of_ble_eq_true rfl)) dL_law_691 ⟨Nat.le_of_ble_eq_true rfl, Nat.le_of_ble_eq_true rfl⟩) hw (fun H locs hw => ?_)
  refine lv_icmp_eq (tgt := 831) hx hb dL_law_694 (by decide) (fun q_1 => ?_) (fun q_1 => ?_)
  · have _ := hx
    refine lv_iinc (v := nI (6 * (t + 1))) (lv' := [(3, .int (nI (6 * (t + 1)))), (0, .ref b), (1, .ref (zl E 0)), (2, .ref (zl E 32))]) hx hb dL_law_831 hl (k := 3) rfl (n6 t) (by decide) rfl (fun ls hl => ?_)
    refine lv_goto (tgt := 18) hx hb dL_law_834 (by decide) ?_
    exact ih _ _ _ _ _ (op_order h).2 hw (lv_sub hl [1, 2, 3, 0] rfl)
  · exact (absurd (op_order h).1 q_1)
set_option maxHeartbeats 4000000 in
set_option maxRecDepth 100000 in
theorem lc_run {p : Program} {l : Launch} {e : Env} {s : State} {m : MethodId} {below : List Frame} {meth : Method} {cd : Code} {b L t : Nat} {xs : Nat → Int32} {E : zE} {c : zC} {mo : zM} {H : Heap} {locs : List Loc} {ls : Array Slot} (hL : L ≤ 3072) (C0 : lw_At p s m meth cd b L xs) (hz : zz E = s.heap.size) (h6 : 6 * t + 6 ≤ L) (h : Inv c mo t) (ih : ∀ (c : zC) (mo : zM) (H : Heap) (locs : List Loc) (ls : Array Slot), Inv c mo (t + 1) → zW E c mo s s.heap H locs → lv_has ls 4 [(0, .ref b), (1, .ref (zl E 0)), (2, .ref (zl E 32)), (3, .int (nI (6 * (t + 1))))] → W p l e room_1 s m #[Value.ref b] below meth cd H locs 42 70328 (lw_Z below #[Value.ref b] s) (F0 m 18 ls [])) (hw : zW E c mo s s.heap H locs) (hl : lv_has ls 4 [(0, .ref b), (1, .ref (zl E 0)), (2, .ref (zl E 32)), (3, .int (nI (6 * t)))]) : W p l e room_1 s m #[Value.ref b] below meth cd H locs 42 70328 (lw_Z below #[Value.ref b] s) (F0 m 699 ls []) := by
  obtain ⟨hx, hb, hr, hml, hown, hts0, hX, hbl, hlocks, hgv⟩ := id C0
  have hts : ∀ w ∈ wsL_law, w.before #[Value.ref b] s = true := fun w q => hts0 w (wsL_law_in w q)
  have hown : s.vm.findClass RL = some m.cls := hown
  have hb : cd.code = cL_law := hb
  have hbA : ¬ zA E b := by unfold zA; rw [hz]; exact Nat.not_le.mpr hbl
  have ht : t < 4000 := by omega
  have hwf : wfC c := h.1.1
  have hwm : wfM mo := h.1.2.1
  have hrow : vp_in (mo.1 32 3) 5000 := Inv_row h ht
  refine lv_aload_n hx hb dL_law_699 rfl (lv_at hl 1 rfl) ?_
  refine z_calli (rest := []) (va_runV (As := []) (rest := []) ⟨hx, hb, hml, hown, hts⟩ (k_X2_run l E c mo  (by assumption)) (cwV 0 hts gL_law_X2_run rfl rfl rfl (by decide +kernel) ⟨Nat.le_of_ble_eq_true rfl, Nat.le_of_ble_eq_true rfl⟩) (z_preV hw (by decide) zG_0 rfl []) rfl rfl hl.1 rfl (lv_room (Nat.le_of_ble_eq_true rfl)) dL_law_700 ⟨Nat.le_of_ble_eq_true rfl, Nat.le_of_ble_eq_true rfl⟩) hw (fun H locs hw => ?_)
  refine lv_aload_n hx hb dL_law_703 rfl (lv_at hl 2 rfl) ?_
  refine z_calli (rest := [.int ((pRun c).1)]) (va_runV (As := []) (rest := [.int ((pRun c).1)]) ⟨hx, hb, hml, hown, hts⟩ (k_X3_run l E ((pRun c).2) mo  (by assumption)) (cwV 0 hts gL_law_X3_run rfl rfl rfl (by decide +kernel) ⟨Nat.le_of_ble_eq_true rfl, Nat.le_of_ble_eq_true rfl⟩) (z_preV hw (by decide) zG_32 rfl []) rfl rfl hl.1 rfl (lv_room (Nat.le_of_ble_eq_true rfl)) dL_law_704 ⟨Nat.le_of_ble_eq_true rfl, Nat.le_of_ble_eq_true rfl⟩) hw (fun H locs hw => ?_)
  refine lv_icmp_eq (tgt := 831) hx hb dL_law_707 (by decide) (fun q_1 => ?_) (fun q_1 => ?_)
  · have _ := hx
    refine lv_iinc (v := nI (6 * (t + 1))) (lv' := [(3, .int (nI (6 * (t + 1)))), (0, .ref b), (1, .ref (zl E 0)), (2, .ref (zl E 32))]) hx hb dL_law_831 hl (k := 3) rfl (n6 t) (by decide) rfl (fun ls hl => ?_)
    refine lv_goto (tgt := 18) hx hb dL_law_834 (by decide) ?_
    exact ih _ _ _ _ _ (op_run h).2 hw (lv_sub hl [1, 2, 3, 0] rfl)
  · exact (absurd (op_run h).1 q_1)
set_option maxHeartbeats 4000000 in
set_option maxRecDepth 100000 in
theorem lc_met {p : Program} {l : Launch} {e : Env} {s : State} {m : MethodId} {below : List Frame} {meth : Method} {cd : Code} {b L t : Nat} {xs : Nat → Int32} {E : zE} {c : zC} {mo : zM} {H : Heap} {locs : List Loc} {ls : Array Slot} (hL : L ≤ 3072) (C0 : lw_At p s m meth cd b L xs) (hz : zz E = s.heap.size) (h6 : 6 * t + 6 ≤ L) (h : Inv c mo t) (ih : ∀ (c : zC) (mo : zM) (H : Heap) (locs : List Loc) (ls : Array Slot), Inv c mo (t + 1) → zW E c mo s s.heap H locs → lv_has ls 4 [(0, .ref b), (1, .ref (zl E 0)), (2, .ref (zl E 32)), (3, .int (nI (6 * (t + 1))))] → W p l e room_1 s m #[Value.ref b] below meth cd H locs 42 70328 (lw_Z below #[Value.ref b] s) (F0 m 18 ls [])) (hw : zW E c mo s s.heap H locs) (hl : lv_has ls 4 [(0, .ref b), (1, .ref (zl E 0)), (2, .ref (zl E 32)), (3, .int (nI (6 * t)))]) : W p l e room_1 s m #[Value.ref b] below meth cd H locs 42 70328 (lw_Z below #[Value.ref b] s) (F0 m 712 ls []) := by
  obtain ⟨hx, hb, hr, hml, hown, hts0, hX, hbl, hlocks, hgv⟩ := id C0
  have hts : ∀ w ∈ wsL_law, w.before #[Value.ref b] s = true := fun w q => hts0 w (wsL_law_in w q)
  have hown : s.vm.findClass RL = some m.cls := hown
  have hb : cd.code = cL_law := hb
  have hbA : ¬ zA E b := by unfold zA; rw [hz]; exact Nat.not_le.mpr hbl
  have ht : t < 4000 := by omega
  have hwf : wfC c := h.1.1
  have hwm : wfM mo := h.1.2.1
  have hrow : vp_in (mo.1 32 3) 5000 := Inv_row h ht
  refine lv_aload_n hx hb dL_law_712 rfl (lv_at hl 1 rfl) ?_
  refine lv_aload_n hx hb dL_law_713 rfl (lv_at hl 0 rfl) ?_
  refine lv_iload_n hx hb dL_law_714 rfl (lv_at hl 3 rfl) ?_
  refine lv_iconst (v := 1) hx hb dL_law_715 (by decide) ?_
  refine lv_iadd hx hb dL_law_716 ?_
  refine va_sld hx hb hX hbl hbA hw.2.1 (sc_in 1 (by decide) h6 hL rfl) dL_law_717 ?_
  refine z_calli (rest := []) (va_runV (As := [.int (xs ((nI (6 * t)) + 1).toNatClampNeg)]) (rest := []) ⟨hx, hb, hml, hown, hts⟩ (k_X2_met l E c mo (xs ((nI (6 * t)) + 1).toNatClampNeg) (by assumption)) (cwV 1 hts gL_law_X2_met rfl rfl rfl (by decide +kernel) ⟨Nat.le_of_ble_eq_true rfl, Nat.le_of_ble_eq_true rfl⟩) (z_preV hw (by decide) zG_0 rfl [.int (xs ((nI (6 * t)) + 1).toNatClampNeg)]) rfl rfl hl.1 rfl (lv_room (Nat.le_of_ble_eq_true rfl)) dL_law_718 ⟨Nat.le_of_ble_eq_true rfl, Nat.le_of_ble_eq_true rfl⟩) hw (fun H locs hw => ?_)
  refine lv_aload_n hx hb dL_law_721 rfl (lv_at hl 2 rfl) ?_
  refine lv_aload_n hx hb dL_law_722 rfl (lv_at hl 0 rfl) ?_
  refine lv_iload_n hx hb dL_law_723 rfl (lv_at hl 3 rfl) ?_
  refine lv_iconst (v := 1) hx hb dL_law_724 (by decide) ?_
  refine lv_iadd hx hb dL_law_725 ?_
  refine va_sld hx hb hX hbl hbA hw.2.1 (sc_in 1 (by decide) h6 hL rfl) dL_law_726 ?_
  refine z_calli (rest := [.int (rMet c (xs ((nI (6 * t)) + 1).toNatClampNeg))]) (va_runV (As := [.int (xs ((nI (6 * t)) + 1).toNatClampNeg)]) (rest := [.int (rMet c (xs ((nI (6 * t)) + 1).toNatClampNeg))]) ⟨hx, hb, hml, hown, hts⟩ (k_X3_met l E c mo (xs ((nI (6 * t)) + 1).toNatClampNeg) (by assumption)) (cwV 1 hts gL_law_X3_met rfl rfl rfl (by decide +kernel) ⟨Nat.le_of_ble_eq_true rfl, Nat.le_of_ble_eq_true rfl⟩) (z_preV hw (by decide) zG_32 rfl [.int (xs ((nI (6 * t)) + 1).toNatClampNeg)]) rfl rfl hl.1 rfl (lv_room (Nat.le_of_ble_eq_true rfl)) dL_law_727 ⟨Nat.le_of_ble_eq_true rfl, Nat.le_of_ble_eq_true rfl⟩) hw (fun H locs hw => ?_)
  refine lv_icmp_eq (tgt := 831) hx hb dL_law_730 (by decide) (fun q_1 => ?_) (fun q_1 => ?_)
  · have _ := hx
    refine lv_iinc (v := nI (6 * (t + 1))) (lv' := [(3, .int (nI (6 * (t + 1)))), (0, .ref b), (1, .ref (zl E 0)), (2, .ref (zl E 32))]) hx hb dL_law_831 hl (k := 3) rfl (n6 t) (by decide) rfl (fun ls hl => ?_)
    refine lv_goto (tgt := 18) hx hb dL_law_834 (by decide) ?_
    exact ih _ _ _ _ _ h.same hw (lv_sub hl [1, 2, 3, 0] rfl)
  · exact (absurd (op_met h).1 q_1)
set_option maxHeartbeats 4000000 in
set_option maxRecDepth 100000 in
theorem lc_fault {p : Program} {l : Launch} {e : Env} {s : State} {m : MethodId} {below : List Frame} {meth : Method} {cd : Code} {b L t : Nat} {xs : Nat → Int32} {E : zE} {c : zC} {mo : zM} {H : Heap} {locs : List Loc} {ls : Array Slot} (hL : L ≤ 3072) (C0 : lw_At p s m meth cd b L xs) (hz : zz E = s.heap.size) (h6 : 6 * t + 6 ≤ L) (h : Inv c mo t) (ih : ∀ (c : zC) (mo : zM) (H : Heap) (locs : List Loc) (ls : Array Slot), Inv c mo (t + 1) → zW E c mo s s.heap H locs → lv_has ls 4 [(0, .ref b), (1, .ref (zl E 0)), (2, .ref (zl E 32)), (3, .int (nI (6 * (t + 1))))] → W p l e room_1 s m #[Value.ref b] below meth cd H locs 42 70328 (lw_Z below #[Value.ref b] s) (F0 m 18 ls [])) (hw : zW E c mo s s.heap H locs) (hl : lv_has ls 4 [(0, .ref b), (1, .ref (zl E 0)), (2, .ref (zl E 32)), (3, .int (nI (6 * t)))]) : W p l e room_1 s m #[Value.ref b] below meth cd H locs 42 70328 (lw_Z below #[Value.ref b] s) (F0 m 735 ls []) := by
  obtain ⟨hx, hb, hr, hml, hown, hts0, hX, hbl, hlocks, hgv⟩ := id C0
  have hts : ∀ w ∈ wsL_law, w.before #[Value.ref b] s = true := fun w q => hts0 w (wsL_law_in w q)
  have hown : s.vm.findClass RL = some m.cls := hown
  have hb : cd.code = cL_law := hb
  have hbA : ¬ zA E b := by unfold zA; rw [hz]; exact Nat.not_le.mpr hbl
  have ht : t < 4000 := by omega
  have hwf : wfC c := h.1.1
  have hwm : wfM mo := h.1.2.1
  have hrow : vp_in (mo.1 32 3) 5000 := Inv_row h ht
  refine lv_aload_n hx hb dL_law_735 rfl (lv_at hl 1 rfl) ?_
  refine z_calli (rest := []) (va_runV (As := []) (rest := []) ⟨hx, hb, hml, hown, hts⟩ (k_X2_fault l E c mo  ) (cwV 0 hts gL_law_X2_fault rfl rfl rfl (by decide +kernel) ⟨Nat.le_of_ble_eq_true rfl, Nat.le_of_ble_eq_true rfl⟩) (z_preV hw (by decide) zG_0 rfl []) rfl rfl hl.1 rfl (lv_room (Nat.le_of_ble_eq_true rfl)) dL_law_736 ⟨Nat.le_of_ble_eq_true rfl, Nat.le_of_ble_eq_true rfl⟩) hw (fun H locs hw => ?_)
  refine lv_aload_n hx hb dL_law_739 rfl (lv_at hl 2 rfl) ?_
  refine z_calli (rest := [.int (c.1 0 10)]) (va_runV (As := []) (rest := [.int (c.1 0 10)]) ⟨hx, hb, hml, hown, hts⟩ (k_X3_fault l E c mo  ) (cwV 0 hts gL_law_X3_fault rfl rfl rfl (by decide +kernel) ⟨Nat.le_of_ble_eq_true rfl, Nat.le_of_ble_eq_true rfl⟩) (z_preV hw (by decide) zG_32 rfl []) rfl rfl hl.1 rfl (lv_room (Nat.le_of_ble_eq_true rfl)) dL_law_740 ⟨Nat.le_of_ble_eq_true rfl, Nat.le_of_ble_eq_true rfl⟩) hw (fun H locs hw => ?_)
  refine lv_icmp_eq (tgt := 831) hx hb dL_law_743 (by decide) (fun q_1 => ?_) (fun q_1 => ?_)
  · have _ := hx
    refine lv_iinc (v := nI (6 * (t + 1))) (lv' := [(3, .int (nI (6 * (t + 1)))), (0, .ref b), (1, .ref (zl E 0)), (2, .ref (zl E 32))]) hx hb dL_law_831 hl (k := 3) rfl (n6 t) (by decide) rfl (fun ls hl => ?_)
    refine lv_goto (tgt := 18) hx hb dL_law_834 (by decide) ?_
    exact ih _ _ _ _ _ h.same hw (lv_sub hl [1, 2, 3, 0] rfl)
  · exact (absurd (op_fault h).1 q_1)
set_option maxHeartbeats 4000000 in
set_option maxRecDepth 100000 in
theorem lc_faults {p : Program} {l : Launch} {e : Env} {s : State} {m : MethodId} {below : List Frame} {meth : Method} {cd : Code} {b L t : Nat} {xs : Nat → Int32} {E : zE} {c : zC} {mo : zM} {H : Heap} {locs : List Loc} {ls : Array Slot} (hL : L ≤ 3072) (C0 : lw_At p s m meth cd b L xs) (hz : zz E = s.heap.size) (h6 : 6 * t + 6 ≤ L) (h : Inv c mo t) (ih : ∀ (c : zC) (mo : zM) (H : Heap) (locs : List Loc) (ls : Array Slot), Inv c mo (t + 1) → zW E c mo s s.heap H locs → lv_has ls 4 [(0, .ref b), (1, .ref (zl E 0)), (2, .ref (zl E 32)), (3, .int (nI (6 * (t + 1))))] → W p l e room_1 s m #[Value.ref b] below meth cd H locs 42 70328 (lw_Z below #[Value.ref b] s) (F0 m 18 ls [])) (hw : zW E c mo s s.heap H locs) (hl : lv_has ls 4 [(0, .ref b), (1, .ref (zl E 0)), (2, .ref (zl E 32)), (3, .int (nI (6 * t)))]) : W p l e room_1 s m #[Value.ref b] below meth cd H locs 42 70328 (lw_Z below #[Value.ref b] s) (F0 m 748 ls []) := by
  obtain ⟨hx, hb, hr, hml, hown, hts0, hX, hbl, hlocks, hgv⟩ := id C0
  have hts : ∀ w ∈ wsL_law, w.before #[Value.ref b] s = true := fun w q => hts0 w (wsL_law_in w q)
  have hown : s.vm.findClass RL = some m.cls := hown
  have hb : cd.code = cL_law := hb
  have hbA : ¬ zA E b := by unfold zA; rw [hz]; exact Nat.not_le.mpr hbl
  have ht : t < 4000 := by omega
  have hwf : wfC c := h.1.1
  have hwm : wfM mo := h.1.2.1
  have hrow : vp_in (mo.1 32 3) 5000 := Inv_row h ht
  refine lv_aload_n hx hb dL_law_748 rfl (lv_at hl 1 rfl) ?_
  refine lv_aload_n hx hb dL_law_749 rfl (lv_at hl 0 rfl) ?_
  refine lv_iload_n hx hb dL_law_750 rfl (lv_at hl 3 rfl) ?_
  refine lv_iconst (v := 1) hx hb dL_law_751 (by decide) ?_
  refine lv_iadd hx hb dL_law_752 ?_
  refine va_sld hx hb hX hbl hbA hw.2.1 (sc_in 1 (by decide) h6 hL rfl) dL_law_753 ?_
  refine z_calli (rest := []) (va_runV (As := [.int (xs ((nI (6 * t)) + 1).toNatClampNeg)]) (rest := []) ⟨hx, hb, hml, hown, hts⟩ (k_X2_faults l E c mo (xs ((nI (6 * t)) + 1).toNatClampNeg) ) (cwV 1 hts gL_law_X2_faults rfl rfl rfl (by decide +kernel) ⟨Nat.le_of_ble_eq_true rfl, Nat.le_of_ble_eq_true rfl⟩) (z_preV hw (by decide) zG_0 rfl [.int (xs ((nI (6 * t)) + 1).toNatClampNeg)]) rfl rfl hl.1 rfl (lv_room (Nat.le_of_ble_eq_true rfl)) dL_law_754 ⟨Nat.le_of_ble_eq_true rfl, Nat.le_of_ble_eq_true rfl⟩) hw (fun H locs hw => ?_)
  refine lv_aload_n hx hb dL_law_757 rfl (lv_at hl 2 rfl) ?_
  refine lv_aload_n hx hb dL_law_758 rfl (lv_at hl 0 rfl) ?_
  refine lv_iload_n hx hb dL_law_759 rfl (lv_at hl 3 rfl) ?_
  refine lv_iconst (v := 1) hx hb dL_law_760 (by decide) ?_
  refine lv_iadd hx hb dL_law_761 ?_
  refine va_sld hx hb hX hbl hbA hw.2.1 (sc_in 1 (by decide) h6 hL rfl) dL_law_762 ?_
  refine z_calli (rest := [.int (rFaus c (xs ((nI (6 * t)) + 1).toNatClampNeg))]) (va_runV (As := [.int (xs ((nI (6 * t)) + 1).toNatClampNeg)]) (rest := [.int (rFaus c (xs ((nI (6 * t)) + 1).toNatClampNeg))]) ⟨hx, hb, hml, hown, hts⟩ (k_X3_faults l E c mo (xs ((nI (6 * t)) + 1).toNatClampNeg) ) (cwV 1 hts gL_law_X3_faults rfl rfl rfl (by decide +kernel) ⟨Nat.le_of_ble_eq_true rfl, Nat.le_of_ble_eq_true rfl⟩) (z_preV hw (by decide) zG_32 rfl [.int (xs ((nI (6 * t)) + 1).toNatClampNeg)]) rfl rfl hl.1 rfl (lv_room (Nat.le_of_ble_eq_true rfl)) dL_law_763 ⟨Nat.le_of_ble_eq_true rfl, Nat.le_of_ble_eq_true rfl⟩) hw (fun H locs hw => ?_)
  refine lv_icmp_eq (tgt := 831) hx hb dL_law_766 (by decide) (fun q_1 => ?_) (fun q_1 => ?_)
  · have _ := hx
    refine lv_iinc (v := nI (6 * (t + 1))) (lv' := [(3, .int (nI (6 * (t + 1)))), (0, .ref b), (1, .ref (zl E 0)), (2, .ref (zl E 32))]) hx hb dL_law_831 hl (k := 3) rfl (n6 t) (by decide) rfl (fun ls hl => ?_)
    refine lv_goto (tgt := 18) hx hb dL_law_834 (by decide) ?_
    exact ih _ _ _ _ _ h.same hw (lv_sub hl [1, 2, 3, 0] rfl)
  · exact (absurd (op_faults h).1 q_1)
set_option maxHeartbeats 4000000 in
set_option maxRecDepth 100000 in
theorem lc_told {p : Program} {l : Launch} {e : Env} {s : State} {m : MethodId} {below : List Frame} {meth : Method} {cd : Code} {b L t : Nat} {xs : Nat → Int32} {E : zE} {c : zC} {mo : zM} {H : Heap} {locs : List Loc} {ls : Array Slot} (hL : L ≤ 3072) (C0 : lw_At p s m meth cd b L xs) (hz : zz E = s.heap.size) (h6 : 6 * t + 6 ≤ L) (h : Inv c mo t) (ih : ∀ (c : zC) (mo : zM) (H : Heap) (locs : List Loc) (ls : Array Slot), Inv c mo (t + 1) → zW E c mo s s.heap H locs → lv_has ls 4 [(0, .ref b), (1, .ref (zl E 0)), (2, .ref (zl E 32)), (3, .int (nI (6 * (t + 1))))] → W p l e room_1 s m #[Value.ref b] below meth cd H locs 42 70328 (lw_Z below #[Value.ref b] s) (F0 m 18 ls [])) (hw : zW E c mo s s.heap H locs) (hl : lv_has ls 4 [(0, .ref b), (1, .ref (zl E 0)), (2, .ref (zl E 32)), (3, .int (nI (6 * t)))]) : W p l e room_1 s m #[Value.ref b] below meth cd H locs 42 70328 (lw_Z below #[Value.ref b] s) (F0 m 771 ls []) := by
  obtain ⟨hx, hb, hr, hml, hown, hts0, hX, hbl, hlocks, hgv⟩ := id C0
  have hts : ∀ w ∈ wsL_law, w.before #[Value.ref b] s = true := fun w q => hts0 w (wsL_law_in w q)
  have hown : s.vm.findClass RL = some m.cls := hown
  have hb : cd.code = cL_law := hb
  have hbA : ¬ zA E b := by unfold zA; rw [hz]; exact Nat.not_le.mpr hbl
  have ht : t < 4000 := by omega
  have hwf : wfC c := h.1.1
  have hwm : wfM mo := h.1.2.1
  have hrow : vp_in (mo.1 32 3) 5000 := Inv_row h ht
  refine lv_aload_n hx hb dL_law_771 rfl (lv_at hl 1 rfl) ?_
  refine lv_aload_n hx hb dL_law_772 rfl (lv_at hl 0 rfl) ?_
  refine lv_iload_n hx hb dL_law_773 rfl (lv_at hl 3 rfl) ?_
  refine lv_iconst (v := 1) hx hb dL_law_774 (by decide) ?_
  refine lv_iadd hx hb dL_law_775 ?_
  refine va_sld hx hb hX hbl hbA hw.2.1 (sc_in 1 (by decide) h6 hL rfl) dL_law_776 ?_
  refine lv_aload_n hx hb dL_law_777 rfl (lv_at hl 0 rfl) ?_
  refine lv_iload_n hx hb dL_law_778 rfl (lv_at hl 3 rfl) ?_
  refine lv_iconst (v := 2) hx hb dL_law_779 (by decide) ?_
  refine lv_iadd hx hb dL_law_780 ?_
  refine va_sld hx hb hX hbl hbA hw.2.1 (sc_in 2 (by decide) h6 hL rfl) dL_law_781 ?_
  refine z_calli (rest := []) (va_runV (As := [.int (xs ((nI (6 * t)) + 1).toNatClampNeg), .int (xs ((nI (6 * t)) + 2).toNatClampNeg)]) (rest := []) ⟨hx, hb, hml, hown, hts⟩ (k_X2_told l E c mo (xs ((nI (6 * t)) + 1).toNatClampNeg) (xs ((nI (6 * t)) + 2).toNatClampNeg) (by assumption)) (cwV 2 hts gL_law_X2_told rfl rfl rfl (by decide +kernel) ⟨Nat.le_of_ble_eq_true rfl, Nat.le_of_ble_eq_true rfl⟩) (z_preV hw (by decide) zG_0 rfl [.int (xs ((nI (6 * t)) + 1).toNatClampNeg), .int (xs ((nI (6 * t)) + 2).toNatClampNeg)]) rfl rfl hl.1 rfl (lv_room (Nat.le_of_ble_eq_true rfl)) dL_law_782 ⟨Nat.le_of_ble_eq_true rfl, Nat.le_of_ble_eq_true rfl⟩) hw (fun H locs hw => ?_)
  refine lv_aload_n hx hb dL_law_785 rfl (lv_at hl 2 rfl) ?_
  refine lv_aload_n hx hb dL_law_786 rfl (lv_at hl 0 rfl) ?_
  refine lv_iload_n hx hb dL_law_787 rfl (lv_at hl 3 rfl) ?_
  refine lv_iconst (v := 1) hx hb dL_law_788 (by decide) ?_
  refine lv_iadd hx hb dL_law_789 ?_
  refine va_sld hx hb hX hbl hbA hw.2.1 (sc_in 1 (by decide) h6 hL rfl) dL_law_790 ?_
  refine lv_aload_n hx hb dL_law_791 rfl (lv_at hl 0 rfl) ?_
  refine lv_iload_n hx hb dL_law_792 rfl (lv_at hl 3 rfl) ?_
  refine lv_iconst (v := 2) hx hb dL_law_793 (by decide) ?_
  refine lv_iadd hx hb dL_law_794 ?_
  refine va_sld hx hb hX hbl hbA hw.2.1 (sc_in 2 (by decide) h6 hL rfl) dL_law_795 ?_
  refine z_calli (rest := [.int (rTold c (xs ((nI (6 * t)) + 1).toNatClampNeg) (xs ((nI (6 * t)) + 2).toNatClampNeg))]) (va_runV (As := [.int (xs ((nI (6 * t)) + 1).toNatClampNeg), .int (xs ((nI (6 * t)) + 2).toNatClampNeg)]) (rest := [.int (rTold c (xs ((nI (6 * t)) + 1).toNatClampNeg) (xs ((nI (6 * t)) + 2).toNatClampNeg))]) ⟨hx, hb, hml, hown, hts⟩ (k_X3_told l E c mo (xs ((nI (6 * t)) + 1).toNatClampNeg) (xs ((nI (6 * t)) + 2).toNatClampNeg) (by assumption)) (cwV 2 hts gL_law_X3_told rfl rfl rfl (by decide +kernel) ⟨Nat.le_of_ble_eq_true rfl, Nat.le_of_ble_eq_true rfl⟩) (z_preV hw (by decide) zG_32 rfl [.int (xs ((nI (6 * t)) + 1).toNatClampNeg), .int (xs ((nI (6 * t)) + 2).toNatClampNeg)]) rfl rfl hl.1 rfl (lv_room (Nat.le_of_ble_eq_true rfl)) dL_law_796 ⟨Nat.le_of_ble_eq_true rfl, Nat.le_of_ble_eq_true rfl⟩) hw (fun H locs hw => ?_)
  refine lv_icmp_eq (tgt := 831) hx hb dL_law_799 (by decide) (fun q_1 => ?_) (fun q_1 => ?_)
  · have _ := hx
    refine lv_iinc (v := nI (6 * (t + 1))) (lv' := [(3, .int (nI (6 * (t + 1)))), (0, .ref b), (1, .ref (zl E 0)), (2, .ref (zl E 32))]) hx hb dL_law_831 hl (k := 3) rfl (n6 t) (by decide) rfl (fun ls hl => ?_)
    refine lv_goto (tgt := 18) hx hb dL_law_834 (by decide) ?_
    exact ih _ _ _ _ _ h.same hw (lv_sub hl [1, 2, 3, 0] rfl)
  · exact (absurd (op_told h).1 q_1)
set_option maxHeartbeats 4000000 in
set_option maxRecDepth 100000 in
theorem lc_hand {p : Program} {l : Launch} {e : Env} {s : State} {m : MethodId} {below : List Frame} {meth : Method} {cd : Code} {b L t : Nat} {xs : Nat → Int32} {E : zE} {c : zC} {mo : zM} {H : Heap} {locs : List Loc} {ls : Array Slot} (hL : L ≤ 3072) (C0 : lw_At p s m meth cd b L xs) (hz : zz E = s.heap.size) (h6 : 6 * t + 6 ≤ L) (h : Inv c mo t) (ih : ∀ (c : zC) (mo : zM) (H : Heap) (locs : List Loc) (ls : Array Slot), Inv c mo (t + 1) → zW E c mo s s.heap H locs → lv_has ls 4 [(0, .ref b), (1, .ref (zl E 0)), (2, .ref (zl E 32)), (3, .int (nI (6 * (t + 1))))] → W p l e room_1 s m #[Value.ref b] below meth cd H locs 42 70328 (lw_Z below #[Value.ref b] s) (F0 m 18 ls [])) (hw : zW E c mo s s.heap H locs) (hl : lv_has ls 4 [(0, .ref b), (1, .ref (zl E 0)), (2, .ref (zl E 32)), (3, .int (nI (6 * t)))]) : W p l e room_1 s m #[Value.ref b] below meth cd H locs 42 70328 (lw_Z below #[Value.ref b] s) (F0 m 804 ls []) := by
  obtain ⟨hx, hb, hr, hml, hown, hts0, hX, hbl, hlocks, hgv⟩ := id C0
  have hts : ∀ w ∈ wsL_law, w.before #[Value.ref b] s = true := fun w q => hts0 w (wsL_law_in w q)
  have hown : s.vm.findClass RL = some m.cls := hown
  have hb : cd.code = cL_law := hb
  have hbA : ¬ zA E b := by unfold zA; rw [hz]; exact Nat.not_le.mpr hbl
  have ht : t < 4000 := by omega
  have hwf : wfC c := h.1.1
  have hwm : wfM mo := h.1.2.1
  have hrow : vp_in (mo.1 32 3) 5000 := Inv_row h ht
  refine lv_aload_n hx hb dL_law_804 rfl (lv_at hl 1 rfl) ?_
  refine z_calli (rest := []) (va_runV (As := []) (rest := []) ⟨hx, hb, hml, hown, hts⟩ (k_X2_hand l E c mo  ) (cwV 0 hts gL_law_X2_hand rfl rfl rfl (by decide +kernel) ⟨Nat.le_of_ble_eq_true rfl, Nat.le_of_ble_eq_true rfl⟩) (z_preV hw (by decide) zG_0 rfl []) rfl rfl hl.1 rfl (lv_room (Nat.le_of_ble_eq_true rfl)) dL_law_805 ⟨Nat.le_of_ble_eq_true rfl, Nat.le_of_ble_eq_true rfl⟩) hw (fun H locs hw => ?_)
  refine lv_aload_n hx hb dL_law_808 rfl (lv_at hl 2 rfl) ?_
  refine z_calli (rest := [.int (c.1 0 3)]) (va_runV (As := []) (rest := [.int (c.1 0 3)]) ⟨hx, hb, hml, hown, hts⟩ (k_X3_hand l E c mo  ) (cwV 0 hts gL_law_X3_hand rfl rfl rfl (by decide +kernel) ⟨Nat.le_of_ble_eq_true rfl, Nat.le_of_ble_eq_true rfl⟩) (z_preV hw (by decide) zG_32 rfl []) rfl rfl hl.1 rfl (lv_room (Nat.le_of_ble_eq_true rfl)) dL_law_809 ⟨Nat.le_of_ble_eq_true rfl, Nat.le_of_ble_eq_true rfl⟩) hw (fun H locs hw => ?_)
  refine lv_icmp_eq (tgt := 831) hx hb dL_law_812 (by decide) (fun q_1 => ?_) (fun q_1 => ?_)
  · have _ := hx
    refine lv_iinc (v := nI (6 * (t + 1))) (lv' := [(3, .int (nI (6 * (t + 1)))), (0, .ref b), (1, .ref (zl E 0)), (2, .ref (zl E 32))]) hx hb dL_law_831 hl (k := 3) rfl (n6 t) (by decide) rfl (fun ls hl => ?_)
    refine lv_goto (tgt := 18) hx hb dL_law_834 (by decide) ?_
    exact ih _ _ _ _ _ h.same hw (lv_sub hl [1, 2, 3, 0] rfl)
  · exact (absurd (op_hand h).1 q_1)
set_option maxHeartbeats 4000000 in
set_option maxRecDepth 100000 in
theorem lc_value {p : Program} {l : Launch} {e : Env} {s : State} {m : MethodId} {below : List Frame} {meth : Method} {cd : Code} {b L t : Nat} {xs : Nat → Int32} {E : zE} {c : zC} {mo : zM} {H : Heap} {locs : List Loc} {ls : Array Slot} (hL : L ≤ 3072) (C0 : lw_At p s m meth cd b L xs) (hz : zz E = s.heap.size) (h6 : 6 * t + 6 ≤ L) (h : Inv c mo t) (ih : ∀ (c : zC) (mo : zM) (H : Heap) (locs : List Loc) (ls : Array Slot), Inv c mo (t + 1) → zW E c mo s s.heap H locs → lv_has ls 4 [(0, .ref b), (1, .ref (zl E 0)), (2, .ref (zl E 32)), (3, .int (nI (6 * (t + 1))))] → W p l e room_1 s m #[Value.ref b] below meth cd H locs 42 70328 (lw_Z below #[Value.ref b] s) (F0 m 18 ls [])) (hw : zW E c mo s s.heap H locs) (hl : lv_has ls 4 [(0, .ref b), (1, .ref (zl E 0)), (2, .ref (zl E 32)), (3, .int (nI (6 * t)))]) : W p l e room_1 s m #[Value.ref b] below meth cd H locs 42 70328 (lw_Z below #[Value.ref b] s) (F0 m 817 ls []) := by
  obtain ⟨hx, hb, hr, hml, hown, hts0, hX, hbl, hlocks, hgv⟩ := id C0
  have hts : ∀ w ∈ wsL_law, w.before #[Value.ref b] s = true := fun w q => hts0 w (wsL_law_in w q)
  have hown : s.vm.findClass RL = some m.cls := hown
  have hb : cd.code = cL_law := hb
  have hbA : ¬ zA E b := by unfold zA; rw [hz]; exact Nat.not_le.mpr hbl
  have ht : t < 4000 := by omega
  have hwf : wfC c := h.1.1
  have hwm : wfM mo := h.1.2.1
  have hrow : vp_in (mo.1 32 3) 5000 := Inv_row h ht
  refine lv_aload_n hx hb dL_law_817 rfl (lv_at hl 1 rfl) ?_
  refine z_calll (rest := []) (va_runV (As := []) (rest := []) ⟨hx, hb, hml, hown, hts⟩ (k_X2_value l E c mo  ) (cwV 0 hts gL_law_X2_value rfl rfl rfl (by decide +kernel) ⟨Nat.le_of_ble_eq_true rfl, Nat.le_of_ble_eq_true rfl⟩) (z_preV hw (by decide) zG_0 rfl []) rfl rfl hl.1 rfl (lv_room (Nat.le_of_ble_eq_true rfl)) dL_law_818 ⟨Nat.le_of_ble_eq_true rfl, Nat.le_of_ble_eq_true rfl⟩) hw (fun H locs hw => ?_)
  refine lv_aload_n hx hb dL_law_821 rfl (lv_at hl 2 rfl) ?_
  refine z_calll (rest := [.long (c.2.1 0 4)]) (va_runV (As := []) (rest := [.long (c.2.1 0 4)]) ⟨hx, hb, hml, hown, hts⟩ (k_X3_value l E c mo  ) (cwV 0 hts gL_law_X3_value rfl rfl rfl (by decide +kernel) ⟨Nat.le_of_ble_eq_true rfl, Nat.le_of_ble_eq_true rfl⟩) (z_preV hw (by decide) zG_32 rfl []) rfl rfl hl.1 rfl (lv_room (Nat.le_of_ble_eq_true rfl)) dL_law_822 ⟨Nat.le_of_ble_eq_true rfl, Nat.le_of_ble_eq_true rfl⟩) hw (fun H locs hw => ?_)
  refine W.lcmp hx hb dL_law_825 ?_
  refine lv_if_eq (tgt := 831) hx hb dL_law_826 (by decide) (fun q_1 => ?_) (fun q_1 => ?_)
  · have _ := hx
    refine lv_iinc (v := nI (6 * (t + 1))) (lv' := [(3, .int (nI (6 * (t + 1)))), (0, .ref b), (1, .ref (zl E 0)), (2, .ref (zl E 32))]) hx hb dL_law_831 hl (k := 3) rfl (n6 t) (by decide) rfl (fun ls hl => ?_)
    refine lv_goto (tgt := 18) hx hb dL_law_834 (by decide) ?_
    exact ih _ _ _ _ _ h.same hw (lv_sub hl [1, 2, 3, 0] rfl)
  · exact (absurd ((lg_eq _ _).mpr (op_value h).1) q_1)
