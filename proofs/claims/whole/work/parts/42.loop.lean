theorem hd_gt {t L : Nat} (hL : L ≤ 3072) (ht : 6 * t ≤ L + 6) (h : ¬ nI L - 6 < nI (6 * t)) : 6 * t + 6 ≤ L := by
  rw [Int32.lt_iff_toInt_lt, show (6 : Int32) = nI 6 from rfl, pk_sub_toInt (by omega) (by omega), nI_toInt (by omega)] at h
  omega
set_option maxHeartbeats 4000000 in
set_option maxRecDepth 100000 in
theorem law_loop {p : Program} {l : Launch} {e : Env} {s : State} {m : MethodId} {below : List Frame} {meth : Method} {cd : Code} {b L : Nat} {xs : Nat → Int32} {E : zE} (hL : L ≤ 3072) (C0 : lw_At p s m meth cd b L xs) (hz : zz E = s.heap.size) : ∀ (n t : Nat) (c : zC) (mo : zM) (H : Heap) (locs : List Loc) (ls : Array Slot), L + 6 - 6 * t < n → 6 * t ≤ L + 6 → Inv c mo t → zW E c mo s s.heap H locs → lv_has ls 4 [(0, .ref b), (1, .ref (zl E 0)), (2, .ref (zl E 32)), (3, .int (nI (6 * t)))] → W p l e room_1 s m #[Value.ref b] below meth cd H locs 42 70328 (lw_Z below #[Value.ref b] s) (F0 m 18 ls []) := by
  intro n
  induction n with
  | zero => intro t c mo H locs ls hn; exact absurd hn (Nat.not_lt_zero _)
  | succ n ih =>
    intro t c mo H locs ls hn ht h hw hl
    obtain ⟨hx, hb, hr, hml, hown, hts0, hX, hbl, hlocks, hgv⟩ := id C0
    have hts : ∀ w ∈ wsL_law, w.before #[Value.ref b] s = true := fun w q => hts0 w (wsL_law_in w q)
    have hown : s.vm.findClass RL = some m.cls := hown
    have hb : cd.code = cL_law := hb
    have hbA : ¬ zA E b := by unfold zA; rw [hz]; exact Nat.not_le.mpr hbl
    refine lv_iload_n hx hb dL_law_18 rfl (lv_at hl 3 rfl) ?_
    refine lv_aload_n hx hb dL_law_19 rfl (lv_at hl 0 rfl) ?_
    refine va_slen hx hb hX hbl hbA hw.2.1 dL_law_20 ?_
    refine lv_bipush (v := 6) hx hb dL_law_21 (by decide) ?_
    refine lv_isub hx hb dL_law_23 ?_
    refine lv_icmp_gt (tgt := 837) hx hb dL_law_24 (by decide) (fun q => ?_) (fun q => ?_)
    · have hS := hw.2.1
      refine va_forget (fun x hx9 => ?_) ?_
      · have := hS.2.2 x hx9
        unfold zA at this
        rw [hz] at this
        exact this
      refine lv_iconst (v := 1) hx hb dL_law_837 (by decide) ?_
      refine W.widen (k := 600000) (n := 7302250) (by omega) (by omega) ?_
      exact lw_ret hx hb hr hlocks dL_law_838
    · have h6 : 6 * t + 6 ≤ L := hd_gt hL ht q
      have ih' : ∀ (c : zC) (mo : zM) (H : Heap) (locs : List Loc) (ls : Array Slot), Inv c mo (t + 1) → zW E c mo s s.heap H locs → lv_has ls 4 [(0, .ref b), (1, .ref (zl E 0)), (2, .ref (zl E 32)), (3, .int (nI (6 * (t + 1))))] → W p l e room_1 s m #[Value.ref b] below meth cd H locs 42 70328 (lw_Z below #[Value.ref b] s) (F0 m 18 ls []) := fun c mo H locs ls i1 w1 l1 => ih (t + 1) c mo H locs ls (by omega) (by omega) i1 w1 l1
      refine lv_aload_n hx hb dL_law_27 rfl (lv_at hl 0 rfl) ?_
      refine lv_iload_n hx hb dL_law_28 rfl (lv_at hl 3 rfl) ?_
      refine va_sld hx hb hX hbl hbA hw.2.1 (sc_in0 h6 hL) dL_law_29 ?_
      refine lv_bipush (v := 31) hx hb dL_law_30 (by decide) ?_
      refine lv_iand hx hb dL_law_32 ?_
      generalize hv : xs (nI (6 * t)).toNatClampNeg &&& 31 = v
      by_cases q0 : v = 0
      · refine lv_tableIn (tgt := 140) hx hb dL_law_33 (by rw [q0]; decide) (by rw [q0]; decide) (by rw [q0]; rfl) (by decide) ?_
        exact lc_row hL C0 hz h6 h ih' hw hl
      by_cases q1 : v = 1
      · refine lv_tableIn (tgt := 183) hx hb dL_law_33 (by rw [q1]; decide) (by rw [q1]; decide) (by rw [q1]; rfl) (by decide) ?_
        exact lc_note hL C0 hz h6 h ih' hw hl
      by_cases q2 : v = 2
      · refine lv_tableIn (tgt := 216) hx hb dL_law_33 (by rw [q2]; decide) (by rw [q2]; decide) (by rw [q2]; rfl) (by decide) ?_
        exact lc_share hL C0 hz h6 h ih' hw hl
      by_cases q3 : v = 3
      · refine lv_tableIn (tgt := 249) hx hb dL_law_33 (by rw [q3]; decide) (by rw [q3]; decide) (by rw [q3]; rfl) (by decide) ?_
        exact lc_clear hL C0 hz h6 h ih' hw hl
      by_cases q4 : v = 4
      · refine lv_tableIn (tgt := 272) hx hb dL_law_33 (by rw [q4]; decide) (by rw [q4]; decide) (by rw [q4]; rfl) (by decide) ?_
        exact lc_think hL C0 hz h6 h ih' hw hl
      by_cases q5 : v = 5
      · refine lv_tableIn (tgt := 335) hx hb dL_law_33 (by rw [q5]; decide) (by rw [q5]; decide) (by rw [q5]; rfl) (by decide) ?_
        exact lc_card hL C0 hz h6 h ih' hw hl
      by_cases q6 : v = 6
      · refine lv_tableIn (tgt := 348) hx hb dL_law_33 (by rw [q6]; decide) (by rw [q6]; decide) (by rw [q6]; rfl) (by decide) ?_
        exact lc_drop hL C0 hz h6 h ih' hw hl
      by_cases q7 : v = 7
      · refine lv_tableIn (tgt := 361) hx hb dL_law_33 (by rw [q7]; decide) (by rw [q7]; decide) (by rw [q7]; rfl) (by decide) ?_
        exact lc_take hL C0 hz h6 h ih' hw hl
      by_cases q8 : v = 8
      · refine lv_tableIn (tgt := 394) hx hb dL_law_33 (by rw [q8]; decide) (by rw [q8]; decide) (by rw [q8]; rfl) (by decide) ?_
        exact lc_lay hL C0 hz h6 h ih' hw hl
      by_cases q9 : v = 9
      · refine lv_tableIn (tgt := 427) hx hb dL_law_33 (by rw [q9]; decide) (by rw [q9]; decide) (by rw [q9]; rfl) (by decide) ?_
        exact lc_size hL C0 hz h6 h ih' hw hl
      by_cases q10 : v = 10
      · refine lv_tableIn (tgt := 450) hx hb dL_law_33 (by rw [q10]; decide) (by rw [q10]; decide) (by rw [q10]; rfl) (by decide) ?_
        exact lc_pour hL C0 hz h6 h ih' hw hl
      by_cases q11 : v = 11
      · refine lv_tableIn (tgt := 513) hx hb dL_law_33 (by rw [q11]; decide) (by rw [q11]; decide) (by rw [q11]; rfl) (by decide) ?_
        exact lc_swap hL C0 hz h6 h ih' hw hl
      by_cases q12 : v = 12
      · refine lv_tableIn (tgt := 566) hx hb dL_law_33 (by rw [q12]; decide) (by rw [q12]; decide) (by rw [q12]; rfl) (by decide) ?_
        exact lc_turn hL C0 hz h6 h ih' hw hl
      by_cases q13 : v = 13
      · refine lv_tableIn (tgt := 589) hx hb dL_law_33 (by rw [q13]; decide) (by rw [q13]; decide) (by rw [q13]; rfl) (by decide) ?_
        exact lc_sum hL C0 hz h6 h ih' hw hl
      by_cases q14 : v = 14
      · refine lv_tableIn (tgt := 613) hx hb dL_law_33 (by rw [q14]; decide) (by rw [q14]; decide) (by rw [q14]; rfl) (by decide) ?_
        exact lc_find hL C0 hz h6 h ih' hw hl
      by_cases q15 : v = 15
      · refine lv_tableIn (tgt := 636) hx hb dL_law_33 (by rw [q15]; decide) (by rw [q15]; decide) (by rw [q15]; rfl) (by decide) ?_
        exact lc_order hL C0 hz h6 h ih' hw hl
      by_cases q16 : v = 16
      · refine lv_tableIn (tgt := 699) hx hb dL_law_33 (by rw [q16]; decide) (by rw [q16]; decide) (by rw [q16]; rfl) (by decide) ?_
        exact lc_run hL C0 hz h6 h ih' hw hl
      by_cases q17 : v = 17
      · refine lv_tableIn (tgt := 712) hx hb dL_law_33 (by rw [q17]; decide) (by rw [q17]; decide) (by rw [q17]; rfl) (by decide) ?_
        exact lc_met hL C0 hz h6 h ih' hw hl
      by_cases q18 : v = 18
      · refine lv_tableIn (tgt := 735) hx hb dL_law_33 (by rw [q18]; decide) (by rw [q18]; decide) (by rw [q18]; rfl) (by decide) ?_
        exact lc_fault hL C0 hz h6 h ih' hw hl
      by_cases q19 : v = 19
      · refine lv_tableIn (tgt := 748) hx hb dL_law_33 (by rw [q19]; decide) (by rw [q19]; decide) (by rw [q19]; rfl) (by decide) ?_
        exact lc_faults hL C0 hz h6 h ih' hw hl
      by_cases q20 : v = 20
      · refine lv_tableIn (tgt := 771) hx hb dL_law_33 (by rw [q20]; decide) (by rw [q20]; decide) (by rw [q20]; rfl) (by decide) ?_
        exact lc_told hL C0 hz h6 h ih' hw hl
      by_cases q21 : v = 21
      · refine lv_tableIn (tgt := 804) hx hb dL_law_33 (by rw [q21]; decide) (by rw [q21]; decide) (by rw [q21]; rfl) (by decide) ?_
        exact lc_hand hL C0 hz h6 h ih' hw hl
      by_cases q22 : v = 22
      · refine lv_tableIn (tgt := 817) hx hb dL_law_33 (by rw [q22]; decide) (by rw [q22]; decide) (by rw [q22]; rfl) (by decide) ?_
        exact lc_value hL C0 hz h6 h ih' hw hl
      refine lv_tableOut (tgt := 831) hx hb dL_law_33 (tb_out [0, 1, 2, 3, 4, 5, 6, 7, 8, 9, 10, 11, 12, 13, 14, 15, 16, 17, 18, 19, 20, 21, 22] 0 22 (by decide +kernel) (by simp [q0, q1, q2, q3, q4, q5, q6, q7, q8, q9, q10, q11, q12, q13, q14, q15, q16, q17, q18, q19, q20, q21, q22])) (by decide) ?_
      refine lv_iinc (v := nI (6 * (t + 1))) (lv' := [(3, .int (nI (6 * (t + 1)))), (0, .ref b), (1, .ref (zl E 0)), (2, .ref (zl E 32))]) hx hb dL_law_831 hl (k := 3) rfl (n6 t) (by decide) rfl (fun ls hl => ?_)
      refine lv_goto (tgt := 18) hx hb dL_law_834 (by decide) ?_
      exact ih' _ _ _ _ _ h.same hw (lv_sub hl [1, 2, 3, 0] rfl)
