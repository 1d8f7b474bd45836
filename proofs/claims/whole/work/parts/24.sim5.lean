section OPS2
variable {c : zC} {m : zM} {t : Nat} {d i : Int32}
theorem bey_iff {x M : Int32} {N : Int64} (h : N.toInt = M.toInt) : fBey x.toInt64 0 N = 0 ↔ ¬ x < 0 ∧ x ≤ M := by
  rw [fBey_iff, Int32.toInt_toInt64, h, Int32.lt_iff_toInt_lt, Int32.le_iff_toInt_le]
  have h0 : (0 : Int64).toInt = 0 := by decide
  have h1 : (0 : Int32).toInt = 0 := by decide
  rw [h0, h1]
  omega
theorem op_pour (h : Inv c m t) {e j n : Int32} : (pPour c d i e j n).1 = (qPour m d i e j n).1 ∧ Inv (pPour c d i e j n).2 (qPour m d i e j n).2 (t + 1) := by
  have r := h.1
  have sk := Sk_pour c d i e j n
  unfold pPour at *
  unfold qPour
  by_cases hd : vp_in d 8
  · rw [if_neg (Dr_ne hd)] at *
    rw [if_pos (no_in hd)]
    by_cases he : vp_in e 8
    · rw [if_neg (Dr_ne he)] at *
      rw [if_pos (no_in he)]
      by_cases q1 : isTi i = 0
      · rw [if_pos q1, if_neg ((isTi_iff i).mp q1)]
        exact ⟨rfl, h.same⟩
      · rw [if_neg q1] at *
        rw [if_pos (Classical.not_not.mp (fun z => q1 ((isTi_iff i).mpr z)))]
        by_cases q2 : isTi j = 0
        · rw [if_pos q2, if_neg ((isTi_iff j).mp q2)]
          exact ⟨rfl, h.same⟩
        · rw [if_neg q2] at *
          rw [if_pos (Classical.not_not.mp (fun z => q2 ((isTi_iff j).mpr z)))]
          have b := bey_iff (x := n) (M := 12) (N := 12) (by decide)
          by_cases q3 : n < 0
          · rw [if_pos q3, if_neg (fun z => (b.mp z).1 q3)]
            exact ⟨rfl, h.same⟩
          · rw [if_neg q3] at *
            by_cases q4 : n ≤ 12
            · rw [if_pos q4] at *
              rw [if_pos (b.mpr ⟨q3, q4⟩)]
              have sm := Sm_pPs m d i e j n
              unfold pPs at *
              rcases por_rel (i := i) (j := j) (n := n) hd he n.toNatClampNeg 0 c (tI m 32 17 0) (Rel_17 r 0) tI_s with ⟨p1, p2, p3, p4⟩ | ⟨p1, p2, c2, p3, p4, p5, p6⟩
              · rw [if_pos (le0 p1)]
                exact ⟨p2, h.up p3 sk sm⟩
              · rw [if_neg (fun z => p1 ((f5_le p2).mp z))]
                refine ⟨?_, ?_⟩
                · rw [p6]
                  show _ = (met1 _ _).1 32 17 - 100
                  have e17 : ∀ (x : zM) (f : Int32), (met1 x f).1 32 17 = x.1 32 17 := fun x f => by simp [met1, tI_r, tI_n]
                  rw [e17, Int32.sub_eq_add_neg, Int32.add_comm]
                · have := Rel_meet p4 p2
                  rw [← p3] at this
                  exact h.up this sk (sm.tr (Sm_met1 _ _))
            · rw [if_neg q4, if_neg (fun z => q4 (b.mp z).2)]
              exact ⟨rfl, h.same⟩
    · have n := no_out he
      rw [if_pos n.1, if_neg n.2]
      exact ⟨rfl, h.same⟩
  · have n := no_out hd
    rw [if_pos n.1, if_neg n.2]
    exact ⟨rfl, h.same⟩
theorem op_fault (h : Inv c m t) : c.1 0 10 = m.1 32 11 ∧ Inv c m (t + 1) := ⟨h.1.2.2.2.2.2.1, h.same⟩
theorem op_hand (h : Inv c m t) : c.1 0 3 = gHand m ∧ Inv c m (t + 1) := by
  refine ⟨?_, h.same⟩
  unfold gHand
  rcases h.1.2.2.2.1 with ⟨h1, h2, h3⟩ | ⟨h1, h2, h3, h4, h5⟩
  · rw [if_pos h1]; exact h2
  · rw [if_neg (by rw [h1]; decide)]; exact h2
theorem op_value (h : Inv c m t) : c.2.1 0 4 = hValue m ∧ Inv c m (t + 1) := by
  refine ⟨?_, h.same⟩
  unfold hValue
  rcases h.1.2.2.2.1 with ⟨h1, h2, h3⟩ | ⟨h1, h2, h3, h4, h5⟩
  · rw [if_pos h1]; exact h3
  · rw [if_neg (by rw [h1]; decide)]; exact h4
theorem op_drop (h : Inv c m t) : c.1 0 3 = gHand m ∧ Inv (hold c (-9) 0) (tI m 32 7 0) (t + 1) := by
  refine ⟨(op_hand h).1, ?_⟩
  have sm := Sm.i32 m 7 0 (by simp)
  refine h.up (Rel_of h.1 (Sk.hold _ _ _) sm (tI_r (by decide)) (fun j hj => ?_) rfl ?_ ?_) (Sk.hold _ _ _) sm
  · unfold hold; rw [sJ_r (kd5_0 hj)]; rfl
  · exact Or.inl ⟨tI_s, by simp [hold, sJ_1, sI_s], by simp [hold, sJ_s]⟩
  · obtain ⟨f1, f2⟩ := h.1.2.2.2.2.2
    exact ⟨by simpa [hold, sJ_1, sI_n, tI_n] using f1, fun k => by simpa [hold, sJ_1, sI_r, tI_r] using f2 k⟩
theorem vok_eq {k : Int32} (v : Int64) (hk : ¬ k < 0) (h5 : k ≤ 5) : fVok k v = gVok k v := by
  obtain ⟨n, hn, rfl⟩ := nI_of2 (M := 5) (n := 5) (by decide) hk h5
  have : n = 0 ∨ n = 1 ∨ n = 2 ∨ n = 3 ∨ n = 4 ∨ n = 5 := by omega
  unfold fVok gVok
  rcases this with rfl | rfl | rfl | rfl | rfl | rfl
  · rfl
  · rfl
  · rfl
  · rfl
  · rfl
  · have e0 : ¬ nI 5 = 0 := by decide
    have e1 : ¬ nI 5 = 1 := by decide
    have e2 : ¬ nI 5 = 2 := by decide
    have e3 : ¬ nI 5 = 3 := by decide
    have e4 : ¬ nI 5 = 4 := by decide
    have e5 : nI 5 = 5 := by decide
    simp only [if_neg e0, if_neg e1, if_neg e2, if_neg e3, if_neg e4, if_pos e5]
    by_cases q : lg_cmp v 0 = 0
    · rw [if_pos q, if_pos q]; decide
    · rw [if_neg q, if_neg q]; decide
theorem op_think (h : Inv c m t) {k : Int32} {v : Int64} : rThink k = hThink k ∧ Inv (sThink c k v) (tThink m k v) (t + 1) := by
  have b := bey_iff (x := k) (M := 5) (N := 5) (by decide)
  unfold rThink hThink sThink tThink
  by_cases q3 : k < 0
  · rw [if_pos q3, if_neg (fun z => (b.mp z).1 q3), if_pos q3, if_neg (fun z => (b.mp z).1 q3)]
    exact ⟨rfl, h.same⟩
  · by_cases q4 : k ≤ 5
    · have bb := b.mpr ⟨q3, q4⟩
      rw [if_neg q3, if_pos q4, if_pos bb, if_neg q3, if_pos q4, if_pos bb]
      refine ⟨rfl, ?_⟩
      have sm := (Sm.i32 m 7 1 (by simp)).tr ((Sm.i32 _ 8 k (by simp)).tr (Sm.j _ 32 9 (gVok k v)))
      have h6 : ¬ k = 6 := by intro z; subst z; exact absurd q4 (by decide)
      have k7 : vp_in k 7 := in_mono (le_in (n := 5) q3 q4 (by decide)) (by decide)
      refine h.up (Rel_of h.1 (Sk.hold _ _ _) sm (by simp [tJ_1, tI_r]) (fun j hj => ?_) (by rw [tJ_r (by decide)]; rfl) ?_ ?_) (Sk.hold _ _ _) sm
      · unfold hold; rw [sJ_r (kd5_0 hj)]; rfl
      · refine Or.inr ⟨by simp [tJ_1, tI_n, tI_s], by simp [hold, sJ_1, sI_s, tJ_1, tI_s], by simp only [tJ_1, tI_s]; exact k7, by simp [hold, sJ_s, tJ_s, vok_eq v q3 q4], ?_⟩
        simp only [tJ_1, tI_s]
        exact fun z => absurd z h6
      · obtain ⟨f1, f2⟩ := h.1.2.2.2.2.2
        exact ⟨by simpa [hold, sJ_1, sI_n, tJ_1, tI_n] using f1, fun q => by simpa [hold, sJ_1, sI_r, tJ_1, tI_r] using f2 q⟩
    · rw [if_neg q3, if_neg q4, if_neg (fun z => q4 (b.mp z).2), if_neg q3, if_neg q4, if_neg (fun z => q4 (b.mp z).2)]
      exact ⟨rfl, h.same⟩
theorem op_faults (h : Inv c m t) {f : Int32} : rFaus c f = hFaus m f ∧ Inv c m (t + 1) := by
  refine ⟨?_, h.same⟩
  have b := bey_iff (x := f) (M := 4) (N := 4) (by decide)
  unfold rFaus hFaus
  by_cases q3 : f < 0
  · rw [if_pos q3, if_neg (fun z => (b.mp z).1 q3)]
  · by_cases q4 : f ≤ 4
    · rw [if_neg q3, if_pos q4, if_pos (b.mpr ⟨q3, q4⟩)]
      exact h.1.2.2.2.2.2.2 _
    · rw [if_neg q3, if_neg q4, if_neg (fun z => q4 (b.mp z).2)]
theorem op_met (h : Inv c m t) {k : Int32} : rMet c k = hMet m k ∧ Inv c m (t + 1) := by
  refine ⟨?_, h.same⟩
  obtain ⟨n, hn, e⟩ := h.1.2.1.2.2.2
  unfold rMet hMet
  rw [h.2.1, e]
  have b : fBey k.toInt64 0 (nI n - 1).toInt64 = 0 ↔ ¬ k < 0 ∧ k < nI n := by
    rw [fBey_iff, Int32.toInt_toInt64, Int32.toInt_toInt64, show (1 : Int32) = nI 1 from rfl, pk_sub_toInt (by omega) (by omega), Int32.lt_iff_toInt_lt, Int32.lt_iff_toInt_lt, nI_toInt (by omega)]
    have h0 : (0 : Int64).toInt = 0 := by decide
    have h1 : (0 : Int32).toInt = 0 := by decide
    rw [h0, h1]
    omega
  by_cases q3 : k < 0
  · rw [if_pos q3, if_neg (fun z => (b.mp z).1 q3)]
  · by_cases q4 : k < nI n
    · rw [if_neg q3, if_pos q4, if_pos (b.mpr ⟨q3, q4⟩)]
      exact h.1.2.2.2.2.1.2.2.1 _
    · rw [if_neg q3, if_neg q4, if_neg (fun z => q4 (b.mp z).2)]
theorem told_eq (h : ∀ k, k < 8 → (c.2.2 k = cj c d ↔ m.1 33 d.toNatClampNeg = 2 ∧ m.1 33 k = 2 ∧ m.1 35 k = m.1 35 d.toNatClampNeg)) : ∀ (f k : Nat) (a : Int32), k + f ≤ 8 → holN c.2.2 (cj c d) f k a = tlN m d f k a
  | 0, _, _, _ => rfl
  | f + 1, k, a, hk => by
    unfold holN tlN
    have e := h k (by omega)
    have ih := told_eq h f (k + 1)
    rw [ih _ (by omega)]
    congr 1
    by_cases q : c.2.2 k = cj c d
    · obtain ⟨q1, q2, q3⟩ := e.mp q
      rw [if_pos q, if_pos q1, if_pos q2, if_pos q3]
    · rw [if_neg q]
      by_cases q1 : m.1 33 d.toNatClampNeg = 2
      · rw [if_pos q1]
        by_cases q2 : m.1 33 k = 2
        · rw [if_pos q2]
          by_cases q3 : m.1 35 k = m.1 35 d.toNatClampNeg
          · exact absurd (e.mpr ⟨q1, q2, q3⟩) q
          · rw [if_neg q3]; simp
        · rw [if_neg q2]; simp
      · rw [if_neg q1]; simp
theorem tlN_0 (h : ¬ m.1 33 d.toNatClampNeg = 2) : ∀ (f k : Nat) (a : Int32), tlN m d f k a = a
  | 0, _, _ => rfl
  | f + 1, k, a => by
    unfold tlN
    rw [tlN_0 h f (k + 1), if_neg h]
    simp
theorem op_told (h : Inv c m t) {w : Int32} : rTold c d w = hTold m d w ∧ Inv c m (t + 1) := by
  refine ⟨?_, h.same⟩
  by_cases hd : vp_in d 8
  · have r := h.1.2.2.1
    unfold rTold hTold
    rw [if_neg (Dr_ne hd), if_pos (no_in hd)]
    have dl := in_lt hd
    rcases r.2.1 _ dl with ⟨h1, h2⟩ | ⟨h1, h2, h3, h4⟩ | ⟨h1, h2, h3, h4, h5, h6, h7⟩
    · rw [show cj c d = 6 from h2, r.1.1, r.1.2, h1, tlN_0 (by rw [h1]; decide)]
      have e : fIsR c 6 = 0 := by unfold fIsR; rw [r.1.1]; decide
      rw [if_pos e, if_neg (show ¬ (2 : Int32) ≤ 0 by decide), if_neg (show ¬ (0 : Int32) = 1 by decide)]
    · rw [show c.1 (cj c d) 0 = 1 from h3, show c.1 (cj c d) 1 = _ from h4, h1, tlN_0 (by rw [h1]; decide)]
      have e : fIsR c (cj c d) = 0 := by unfold fIsR; rw [show c.1 (cj c d) 0 = 1 from h3]; decide
      rw [if_pos e, if_neg (show ¬ (2 : Int32) ≤ 1 by decide), if_pos rfl]
    · rw [show c.1 (cj c d) 0 = _ from h4, show c.1 (cj c d) 1 = 0 from h5, h1]
      have e : ¬ fIsR c (cj c d) = 0 := by
        unfold fIsR
        rw [show c.1 (cj c d) 0 = _ from h4, if_neg (two_ne h3).2.2]; decide
      rw [if_neg e, if_pos (show (2 : Int32) ≤ 2 by decide), if_neg (show ¬ (2 : Int32) = 1 by decide)]
      have te := told_eq (c := c) (m := m) (d := d) (fun k hk => by
        constructor
        · intro q
          have h2k : m.1 33 k = 2 := by
            rcases r.2.1 k hk with ⟨g1, g2⟩ | ⟨g1, g2, g3, g4⟩ | g
            · exact absurd (q.symm.trans g2) h2
            · rw [q] at g3
              have := h4.symm.trans g3
              exact absurd this (two_ne h3).2.1
            · exact g.1
          exact ⟨h1, h2k, (r.2.2 k _ hk dl h2k h1).mp q⟩
        · rintro ⟨q1, q2, q3⟩
          exact (r.2.2 k _ hk dl q2 h1).mpr q3) 8 0 0 (by omega)
      unfold fHol
      rw [te]
  · have n := no_out hd
    unfold rTold hTold
    rw [if_pos n.1, if_neg n.2]
theorem op_run (h : Inv c m t) : (pRun c).1 = (qRun m).1 ∧ Inv (pRun c).2 (qRun m).2 (t + 1) := by
  obtain ⟨r, h9, ht⟩ := h
  have o1 : c.1 0 7 = m.1 32 13 := r.2.2.2.2.1.1
  -- the reference's count of done ones is set ahead
  have r' : Rel c (tI m 32 15 (m.1 32 13)) := by
    obtain ⟨r1, r2, r3, r4, r5, r6⟩ := r
    refine ⟨r1, wfM_15 r2, ?_, ?_, ?_, ?_⟩
    · exact RDd_cong (c := c) (m := m) rfl (fun _ _ _ => rfl) (fun _ _ => rfl) (tI_r (by decide)) (tI_r (by decide)) (tI_r (by decide)) (tI_r (by decide)) (tI_r (by decide)) rfl r1.1 r3
    · unfold RH at *
      simpa [tI_n, tI_2] using r4
    · unfold RO at *
      simpa [tI_n, tI_r] using r5
    · unfold RF at *
      simpa [tI_n, tI_r] using r6
  have e13 : (tI m 32 15 (m.1 32 13)).1 32 13 = m.1 32 13 := tI_n (by decide)
  have rr := run_rel (m.1 32 13).toNatClampNeg 0 0 c _ r' (by rw [e13]; omega)
  have sm := Sm_rnN (m.1 32 13).toNatClampNeg 0 0 (tI m 32 15 (m.1 32 13))
  unfold pRun qRun
  rw [o1]
  generalize hA : runN (m.1 32 13).toNatClampNeg 0 0 c = A at rr ⊢
  generalize hB : rnN (m.1 32 13).toNatClampNeg 0 0 (tI m 32 15 (m.1 32 13)) = B at rr sm ⊢
  obtain ⟨rr1, rr2⟩ := rr
  refine ⟨rr1, ?_⟩
  obtain ⟨r1, r2, r3, r4, r5, r6⟩ := rr2
  obtain ⟨p1, p2, p3, p4, p5⟩ := r5
  have b13 : B.2.1 32 13 = m.1 32 13 := sm.2.2.2.1.trans e13
  have b15 : B.2.1 32 15 = m.1 32 13 := sm.2.2.2.2.trans tI_s
  refine ⟨⟨?_, ?_, ?_, ?_, ?_, ?_⟩, ?_, ?_⟩
  · obtain ⟨w1, w2, w3, w4⟩ := r1
    refine ⟨w1, fun j hj => ?_, ⟨0, by omega, by unfold fin; rw [sI_s]; rfl⟩, ?_⟩
    · have hj2 := kd6 hj
      have e : (fin A.2).1 j = A.2.1 j := by unfold fin; rw [sI_r (by omega), sI_r (by omega)]
      have := w2 j hj
      unfold plOk pl at *
      rw [e]; exact this
    · unfold fin
      rw [sI_n (by decide), sI_s]; exact w3
  · obtain ⟨w1, w2, w3, w4⟩ := r2
    refine ⟨fun x hx => by rw [tI_r (by decide)]; exact w1 x hx, fun x hx => by rw [tI_r (by decide)]; exact w2 x hx, ⟨0, by omega, tI_s, fun k hk => by omega⟩, by rw [tI_n (by decide)]; exact w4⟩
  · refine RDd_cong (c := A.2) (m := B.2) rfl (fun j k hj => ?_) (fun _ _ => rfl) (tI_r (by decide)) (tI_r (by decide)) (tI_r (by decide)) (tI_r (by decide)) (tI_r (by decide)) rfl r1.1 r3
    have hj2 := kd6 hj
    unfold fin
    rw [sI_r (by omega), sI_r (by omega)]
  · unfold RH at *
    unfold fin
    simpa [sI_n, sI_2, tI_n, tI_2] using r4
  · unfold fin
    refine ⟨by rw [sI_s, tI_s], fun k q hk hq => by rw [sI_r (by omega), sI_r (by omega), tI_r (by decide)]; exact p2 k q hk hq, fun k => by rw [sI_r (by decide), sI_r (by decide), tI_r (by decide)]; exact p3 k, by rw [sI_n (by decide), sI_n (by decide), tI_n (by decide)]; exact p4, fun k hk => ?_⟩
    rw [sI_s] at hk
    exact absurd hk (Nat.not_lt_zero _)
  · unfold RF at *
    unfold fin
    simpa [sI_n, sI_r, tI_n, tI_r] using r6
  · unfold fin
    rw [sI_n (by decide), sI_s, tI_n (by decide), p1, b13, b15]
  · obtain ⟨n, n1, n2, n3⟩ := ht
    refine ⟨n, by omega, by rw [tI_n (by decide), sm.2.1, tI_n (by decide)]; exact n2, ?_⟩
    rw [tI_r (by decide), tI_r (by decide), sm.1 33 (by decide) (by decide) (by decide), sm.1 35 (by decide) (by decide) (by decide), tI_r (by decide), tI_r (by decide)]
    exact n3
end OPS2
