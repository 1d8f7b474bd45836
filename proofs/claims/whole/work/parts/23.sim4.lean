theorem f5_ne {f : Int32} (h : vp_in f 5) (h0 : ¬ f = 0) : ¬ f.toNatClampNeg = 0 := by
  obtain ⟨k, hk, rfl⟩ := vp_in_of h (by decide)
  rw [nI_clamp (by omega)]
  intro z
  exact h0 (by rw [z]; rfl)
theorem meet_50 (c : zC) {f : Int32} (h : vp_in f 5) (h0 : ¬ f = 0) : (meet c f).1 5 0 = c.1 5 0 + 1 := by
  have := f5_ne h h0
  unfold meet
  rw [sI_n (Ne.symm this), sI_s, sI_r (by decide)]
theorem meet_lf (c : zC) (f : Int32) : (meet c f).1 0 10 = f := by
  unfold meet
  rw [sI_r (by decide), sI_r (by decide), sI_s]
theorem meet_41 (c : zC) (f : Int32) (k : Nat) (v : Int32) : sI (meet c f) 4 k v = meet (sI c 4 k v) f := by
  refine Prod.ext ?_ rfl
  funext a b
  by_cases h : a = 4
  · subst h
    simp [meet, sI]
  · simp [meet, sI, h]
theorem x_ne (x : Int32) : ¬ x + 1 = x := by
  intro h
  have h2 : x + 1 - x = x - x := by rw [h]
  rw [Int32.sub_self, Int32.add_comm, Int32.add_sub_cancel] at h2
  exact absurd h2 (by decide)
theorem Rel_41 {c : zC} {m : zM} (r : Rel c m) (k : Nat) (v : Int32) : Rel (sI c 4 k v) (tI m 41 k v) := by
  obtain ⟨r1, r2, r3, r4, r5, r6⟩ := r
  refine ⟨wfC_4 r1 k v, wfM_sm (Sm.i41 m k v) r2, ?_, ?_, ?_, ?_⟩
  · refine RDd_cong (c := c) (m := m) rfl (fun j q hj => ?_) (fun j _ => rfl) (tI_r (by decide)) (tI_r (by decide)) (tI_r (by decide)) (tI_r (by decide)) (tI_r (by decide)) rfl r1.1 r3
    have := kd6 hj
    rw [sI_r (by omega)]
  · unfold RH at *
    simpa [sI_r, tI_r, sI_2, tI_2] using r4
  · obtain ⟨o1, o2, o3, o4, o5⟩ := r5
    refine ⟨by rw [sI_r (by decide), tI_r (by decide)]; exact o1, fun a b ha hb => by rw [sI_r (by omega), tI_r (by decide)]; exact o2 a b ha hb, fun a => ?_, by rw [sI_r (by decide), tI_r (by decide)]; exact o4, fun a ha h8 => ?_⟩
    · by_cases h : a = k
      · subst h; rw [sI_s, tI_s]
      · rw [sI_n h, tI_n h]; exact o3 a
    · rw [sI_r (by decide)] at ha
      rw [sI_r (by omega)]
      exact o5 a ha h8
  · unfold RF at *
    simpa [sI_r, tI_r] using r6
theorem perf_ex {c : zC} {m : zM} (r : Rel c m) {k : Nat} (hk : k < (m.1 32 13).toNatClampNeg) : Ex c (sPerf c (24 + k)) (dP m (5 * k)).1 (dP m (5 * k)).2 := by
  obtain ⟨ha, hb, h8⟩ := wfM_ord r.2.1 hk
  obtain ⟨o1, o2, o3, o4, o5⟩ := r.2.2.2.2.1
  have e0 : c.1 (24 + k) 0 = m.1 40 (5 * k) := o2 k 0 h8 (by omega)
  have e1 := o2 k 1 h8 (by omega)
  have e2 := o2 k 2 h8 (by omega)
  have e3 := o2 k 3 h8 (by omega)
  have e4 := o2 k 4 h8 (by omega)
  have ti := o5 k (by rw [o1]; exact hk) h8
  rw [e2, e4] at ti
  unfold sPerf dP
  rw [e0, e1, e2, e3, e4]
  by_cases q0 : m.1 40 (5 * k) = 0
  · rw [if_pos q0, if_pos q0]; exact take_ex r ha
  rw [if_neg q0, if_neg q0]
  by_cases q1 : m.1 40 (5 * k) = 1
  · rw [if_pos q1, if_pos q1]
    by_cases hh : m.1 32 7 = 0
    · rw [if_pos hh]
      have hc : c.1 0 3 = -9 := by
        rcases r.2.2.2.1 with h | h
        · exact h.2.1
        · rw [h.1] at hh; exact absurd hh (by decide)
      unfold sLay
      rw [if_neg (Dr_ne hb), if_pos hc]
      exact Or.inl ⟨rfl, r, rfl⟩
    · rw [if_neg hh]; exact lay_ex r hb hh
  rw [if_neg q1, if_neg q1]
  by_cases q2 : m.1 40 (5 * k) = 2
  · rw [if_pos q2, if_pos q2]; exact swap_ex r ha hb
  rw [if_neg q2, if_neg q2]
  by_cases q3 : m.1 40 (5 * k) = 3
  · rw [if_pos q3, if_pos q3]; exact turn_ex r ha
  rw [if_neg q3, if_neg q3]
  unfold pPour pPs
  rw [if_neg (Dr_ne ha), if_neg (Dr_ne hb), if_neg ti.1, if_neg ti.2, if_neg (by decide), if_pos (by decide)]
  rcases por_rel (i := m.1 40 (5 * k + 2)) (j := m.1 40 (5 * k + 4)) (n := 3) ha hb (3 : Int32).toNatClampNeg 0 c (tI m 32 17 0) (Rel_17 r 0) tI_s with ⟨p1, p2, p3, p4⟩ | ⟨p1, p2, c2, p3, p4, p5, p6⟩
  · exact Or.inl ⟨p1, p3, p4⟩
  · exact Or.inr ⟨p1, p2, c2, p3, p4, p5⟩
theorem Sm_rnN : ∀ (f k : Nat) (a : Int32) (m : zM), Sm m (rnN f k a m).2
  | 0, _, _, m => Sm.rf m
  | f + 1, k, a, m => by
    unfold rnN
    split
    · exact ((dP_5 m (5 * k)).2.tr (Sm.i41 _ _ _)).tr (Sm_rnN f (k + 1) _ _)
    · exact (((dP_5 m (5 * k)).2.tr (Sm.i41 _ _ _)).tr (Sm_met1 _ _)).tr (Sm_rnN f (k + 1) _ _)
theorem run_rel : ∀ (f k : Nat) (a : Int32) (c : zC) (m : zM), Rel c m → k + f ≤ (m.1 32 13).toNatClampNeg → (runN f k a c).1 = (rnN f k a m).1 ∧ Rel (runN f k a c).2 (rnN f k a m).2
  | 0, _, _, c, m, r, _ => ⟨rfl, r⟩
  | f + 1, k, a, c, m, r, hk => by
    have x := perf_ex r (k := k) (by omega)
    have s13 : (dP m (5 * k)).2.1 32 13 = m.1 32 13 := (dP_5 m (5 * k)).2.2.2.2.1
    unfold runN rnN
    rcases x with ⟨x1, x2, x3⟩ | ⟨x1, x2, c2, x3, x4, x5⟩
    · rw [if_pos x3, if_pos (by rw [sI_s]), if_pos (le0 x1), x1]
      exact run_rel f (k + 1) (a + 1) _ _ (Rel_41 x2 k 0) (by rw [tI_r (by decide), s13]; omega)
    · have n1 : ¬ (sPerf c (24 + k)).1 5 0 = c.1 5 0 := by
        rw [x3, meet_50 c2 x2 x1, x5]
        exact x_ne _
      rw [if_neg n1]
      rw [x3, meet_lf]
      rw [if_neg (by rw [sI_s]; exact x1), if_neg (fun z => x1 ((f5_le x2).mp z)), meet_41]
      exact run_rel f (k + 1) a _ _ (Rel_meet (Rel_41 x4 k _) x2) (by rw [(Sm_met1 _ _).2.2.2.1, tI_r (by decide), s13]; omega)
/-- the invariant between calls, t calls on -/
def Inv (c : zC) (m : zM) (t : Nat) : Prop := Rel c m ∧ c.1 0 9 = m.1 32 15 ∧ RT m t
theorem RT_sm {m m' : zM} {t : Nat} (s : Sm m m') (h : RT m t) : RT m' (t + 1) := by
  obtain ⟨n, h1, h2, h3⟩ := h
  refine ⟨n, by omega, by rw [s.2.1]; exact h2, ?_⟩
  rw [s.1 33 (by decide) (by decide) (by decide), s.1 35 (by decide) (by decide) (by decide)]
  exact h3
theorem Inv.up {c c' : zC} {m m' : zM} {t : Nat} (h : Inv c m t) (r : Rel c' m') (s : Sk c c') (q : Sm m m') : Inv c' m' (t + 1) := ⟨r, by rw [s.2.2.2.2.1, q.2.2.2.2]; exact h.2.1, RT_sm q h.2.2⟩
theorem Inv.same {c : zC} {m : zM} {t : Nat} (h : Inv c m t) : Inv c m (t + 1) := h.up h.1 (Sk.rf c) (Sm.rf m)
theorem Sm_ans {m m1 : zM} {f : Int32} (h : Sm m m1) : Sm m (sAns m1 f) := by
  unfold sAns
  split
  · exact h
  · exact h.tr (Sm_met1 _ _)
theorem no_in {d : Int32} (hd : vp_in d 8) : fNo d = 0 := (fNo_iff d).mpr hd
theorem no_out {d : Int32} (hd : ¬ vp_in d 8) : isDr d = 0 ∧ ¬ fNo d = 0 := ⟨(isDr_iff d).mpr hd, fun z => hd ((fNo_iff d).mp z)⟩
theorem ans0 {f g : Int32} (h : f = 0) : rAns f g = g := by unfold rAns; rw [if_pos (le0 h)]
theorem ans1 {f g : Int32} (h5 : vp_in f 5) (h : ¬ f = 0) : rAns f g = -10 - f := by unfold rAns; rw [if_neg (fun z => h ((f5_le h5).mp z))]
section OPS
variable {c : zC} {m : zM} {t : Nat} {d i : Int32}
theorem op_take (h : Inv c m t) : rTake c d i = hTake m d i ∧ Inv (sTake c d i) (tTake m d i) (t + 1) := by
  by_cases hd : vp_in d 8
  · have r := h.1
    have e := come_eq (i := i) r.2.2.1 r.2.1 hd
    refine ⟨?_, ?_⟩
    · unfold rTake hTake
      rw [if_neg (Dr_ne hd), if_pos (no_in hd), e]
      by_cases q : gCome m d i = 0
      · rw [if_pos q, ans0 q]
        have hi := gCome_in (le0 q) r.2.1 hd
        have r3 := row_3 r.2.2.1 hd (come_row q)
        unfold gHand gTak
        rw [if_pos q]
        rcases emp_of r.2.1 hd r3 hi with ⟨h1, h2, h3, h4⟩ | ⟨h1, h2, h3⟩
        · simp [tJ_1, tI_n, tI_s, h1, h2]
        · simp [tJ_1, tI_n, tI_s, h1, h2]
      · rw [if_neg q, ans1 (gCome_5 _ _ _) q]
    · unfold tTake
      rw [if_pos (no_in hd)]
      exact h.up (take_ex r hd).ans (Sk.take _ _ _) (Sm_ans (Sm_tak _ _ _))
  · have n := no_out hd
    unfold rTake hTake sTake tTake
    rw [if_pos n.1, if_neg n.2, if_pos n.1, if_neg n.2]
    exact ⟨rfl, h.same⟩
theorem op_lay (h : Inv c m t) : rLay c d i = hLay m d i ∧ Inv (sLay c d i) (tLay m d i) (t + 1) := by
  by_cases hd : vp_in d 8
  · have r := h.1
    rcases r.2.2.2.1 with ⟨h1, h2, h3⟩ | ⟨h1, h2, h3, h4, h5⟩
    · unfold rLay hLay sLay tLay
      rw [if_neg (Dr_ne hd), if_pos (no_in hd), if_neg (Dr_ne hd), if_pos (no_in hd), if_pos h2, if_pos h1, if_pos h2, if_pos h1]
      exact ⟨rfl, h.same⟩
    · have hh : ¬ m.1 32 7 = 0 := by rw [h1]; decide
      have e := lay_eq (i := i) r.2.2.1 r.2.1 hd (show kk (c.1 0 3) (m.1 32 8) from Or.inr ⟨h2, by rw [h2]; exact h3⟩)
      have hn : ¬ c.1 0 3 = -9 := by rw [h2]; exact in7_ne h3
      refine ⟨?_, ?_⟩
      · unfold rLay hLay
        rw [if_neg (Dr_ne hd), if_pos (no_in hd), if_neg hn, if_neg hh, e]
        by_cases q : gLay m d i (m.1 32 8) = 0
        · rw [if_pos q, ans0 q]
        · rw [if_neg q, ans1 (gLay_5 _ _ _ _) q]
      · unfold tLay
        rw [if_pos (no_in hd), if_neg hh]
        exact h.up (lay_ex r hd hh).ans (Sk.lay _ _ _) (Sm_ans (Sm_put _ _ _))
  · have n := no_out hd
    unfold rLay hLay sLay tLay
    rw [if_pos n.1, if_neg n.2, if_pos n.1, if_neg n.2]
    exact ⟨rfl, h.same⟩
theorem fau_ex (r : Rel c m) (hd : vp_in d 8) : Ex c (sFau c d) (gRow m d) m := by
  unfold sFau
  rw [if_neg (Dr_ne hd), row_eq r.2.2.1 hd]
  by_cases q : gRow m d = 0
  · rw [if_pos q]; exact Or.inl ⟨q, r, rfl⟩
  · rw [if_neg q]; exact Ex.bad r q (gRow_5 _ _)
theorem Sk_fau (c : zC) (d : Int32) : Sk c (sFau c d) := by
  unfold sFau
  split
  · exact Sk.rf c
  · split
    · exact Sk.rf c
    · exact Sk.meet _ _
theorem op_size (h : Inv c m t) : rSize c d = hSize m d ∧ Inv (sFau c d) (tFau m d) (t + 1) := by
  by_cases hd : vp_in d 8
  · have r := h.1
    refine ⟨?_, ?_⟩
    · unfold rSize hSize
      rw [if_neg (Dr_ne hd), if_pos (no_in hd), row_eq r.2.2.1 hd]
      by_cases q : gRow m d = 0
      · rw [if_pos q, ans0 q, if_pos (le0 q)]
        exact (row_3 r.2.2.1 hd q).2.2.2.1
      · rw [if_neg q, ans1 (gRow_5 _ _) q]
    · unfold tFau
      rw [if_pos (no_in hd)]
      exact h.up (fau_ex r hd).ans (Sk_fau _ _) (Sm_ans (Sm.rf m))
  · have n := no_out hd
    unfold rSize hSize sFau tFau
    rw [if_pos n.1, if_neg n.2, if_pos n.1, if_neg n.2]
    exact ⟨rfl, h.same⟩
theorem op_turn (h : Inv c m t) : rTurn c d = hTurn m d ∧ Inv (sTurn c d) (tTurn m d) (t + 1) := by
  by_cases hd : vp_in d 8
  · have r := h.1
    refine ⟨?_, ?_⟩
    · unfold rTurn hTurn
      rw [if_neg (Dr_ne hd), if_pos (no_in hd), row_eq r.2.2.1 hd]
      by_cases q : gRow m d = 0
      · rw [if_pos q, ans0 q, if_pos (le0 q)]
        have s := Sm_tur m d
        rw [show gR (gTur m d) d = gR m d by unfold gR; rw [s.1 35 (by decide) (by decide) (by decide)], s.1 37 (by decide) (by decide) (by decide), (row_3 r.2.2.1 hd q).2.2.2.1]
      · rw [if_neg q, ans1 (gRow_5 _ _) q]
    · unfold tTurn
      rw [if_pos (no_in hd)]
      exact h.up (turn_ex r hd).ans (Sk_turn _ _) (Sm_ans (Sm_tur _ _))
  · have n := no_out hd
    unfold rTurn hTurn sTurn tTurn
    rw [if_pos n.1, if_neg n.2, if_pos n.1, if_neg n.2]
    exact ⟨rfl, h.same⟩
theorem op_swap (h : Inv c m t) {a b j : Int32} : rSwap c a i b j = hSwap m a i b j ∧ Inv (sSwap c a i b j) (tSwap m a i b j) (t + 1) := by
  have r := h.1
  by_cases ha : vp_in a 8
  · by_cases hb : vp_in b 8
    · refine ⟨?_, ?_⟩
      · unfold rSwap hSwap
        rw [if_neg (Dr_ne ha), if_neg (Dr_ne hb), if_pos (no_in ha), if_pos (no_in hb), sw_eq r ha hb]
        by_cases q : gSw m a i b j = 0
        · rw [if_pos q, ans0 q]
        · rw [if_neg q, ans1 (gSw_5 _ _ _ _ _) q]
      · unfold tSwap
        rw [if_pos (no_in ha), if_pos (no_in hb)]
        exact h.up (swap_ex r ha hb).ans (Sk.swap _ _ _ _ _) (Sm_ans (Sm_sws _ _ _ _ _))
    · have n := no_out hb
      unfold rSwap hSwap sSwap tSwap
      rw [if_neg (Dr_ne ha), if_pos n.1, if_pos (no_in ha), if_neg n.2, if_neg (Dr_ne ha), if_pos n.1, if_pos (no_in ha), if_neg n.2]
      exact ⟨rfl, h.same⟩
  · have n := no_out ha
    unfold rSwap hSwap sSwap tSwap
    rw [if_pos n.1, if_neg n.2, if_pos n.1, if_neg n.2]
    exact ⟨rfl, h.same⟩
theorem sum_eq (w : wfM m) (hd : vp_in d 8) (r3 : Row3 c m d) : ∀ (f k : Nat) (a : Int64), k + f ≤ 12 → sumN (c.2.1 (cj c d + 9)) f k a = smN m d f k a
  | 0, _, _, _ => rfl
  | f + 1, k, a, hk => by
    unfold sumN smN
    have k1 : vp_in (nI k) 12 := vp_in_nI (by omega) (by omega)
    have v := val_eq w hd r3 k1
    rw [nI_clamp (by omega)] at v
    rw [← v]
    exact sum_eq w hd r3 f (k + 1) _ (by omega)
theorem op_sum (h : Inv c m t) : rSum c d = hSum m d ∧ Inv (sFau c d) (tSum m d) (t + 1) := by
  by_cases hd : vp_in d 8
  · have r := h.1
    refine ⟨?_, ?_⟩
    · unfold rSum hSum
      rw [if_neg (Dr_ne hd), if_pos (no_in hd), row_eq r.2.2.1 hd]
      by_cases q : gRow m d = 0
      · rw [if_pos q, if_pos (le0 q)]
        have r3 := row_3 r.2.2.1 hd q
        have hs := gS_ok r.2.1 hd
        have hp : pl c (cj c d) = (gS m d).toNatClampNeg := by unfold pl; rw [r3.2.2.2.1]
        unfold fTot
        rw [hp]
        exact sum_eq r.2.1 hd r3 _ 0 0 (by have := hs.2; omega)
      · rw [if_neg q, if_neg (fun z => q ((f5_le (gRow_5 _ _)).mp z))]
    · have x := fau_ex r hd
      have e : tSum m d = sAns m (gRow m d) := by unfold tSum sAns; rw [if_pos (no_in hd)]
      rw [e]
      exact h.up x.ans (Sk_fau _ _) (Sm_ans (Sm.rf m))
  · have n := no_out hd
    unfold rSum hSum sFau tSum
    rw [if_pos n.1, if_neg n.2, if_pos n.1, if_neg n.2]
    exact ⟨rfl, h.same⟩
theorem is_eq (r : Rel c m) (hd : vp_in d 8) (r3 : Row3 c m d) {k : Nat} (hk : k < 12) : (fKind c (cj c d) (nI k) = c.1 0 3 ∧ lg_cmp (c.2.1 (cj c d + 9) k) (c.2.1 0 4) = 0) ↔ ¬ gIs m d k = 0 := by
  have k1 : vp_in (nI k) 12 := vp_in_nI hk (by omega)
  have v := val_eq r.2.1 hd r3 k1
  rw [nI_clamp (by omega)] at v
  rw [v, lg_eq]
  unfold gIs
  rcases r.2.2.2.1 with ⟨h1, h2, h3⟩ | ⟨h1, h2, h3, h4, h5⟩
  · rw [if_pos h1, h2, h3]
    rcases emp_of r.2.1 hd r3 k1 with ⟨e1, e2, e3, e4⟩ | ⟨e1, e2, e3⟩
    · exact ⟨fun _ => e1, fun _ => ⟨e2, e4⟩⟩
    · refine ⟨fun z => ?_, fun z => absurd e1 z⟩
      rw [e2] at z
      exact absurd z.1 (in7_ne r3.2.1)
  · rw [if_neg (by rw [h1]; decide), h2, h4]
    rcases emp_of r.2.1 hd r3 k1 with ⟨e1, e2, e3, e4⟩ | ⟨e1, e2, e3⟩
    · rw [e2, e3, e4]
      refine ⟨fun z => absurd z.1.symm (in7_ne h3), fun z => ?_⟩
      exfalso
      apply z
      by_cases q : (6 : Int32) = m.1 32 8
      · rw [if_pos q, if_neg]
        rw [lg_eq]
        exact fun y => h5 q.symm y.symm
      · rw [if_neg q]
    · rw [e2]
      by_cases q : m.1 36 (gR m d) = m.1 32 8
      · rw [if_pos q]
        by_cases q2 : lg_cmp (m.2 38 (gAt m d (nI k)).toNatClampNeg) (m.2 32 9) = 0
        · rw [if_pos q2]
          exact ⟨fun _ => by decide, fun _ => ⟨q, (lg_eq _ _).mp q2⟩⟩
        · rw [if_neg q2]
          exact ⟨fun z => absurd ((lg_eq _ _).mpr z.2) q2, fun z => absurd rfl z⟩
      · rw [if_neg q]
        exact ⟨fun z => absurd z.1 q, fun z => absurd rfl z⟩
theorem find_eq (r : Rel c m) (hd : vp_in d 8) (r3 : Row3 c m d) : ∀ (f k : Nat), k + f ≤ 12 → fplN c (cj c d) (c.1 0 3) (c.2.1 0 4) f k = fdN m d f k
  | 0, _, _ => rfl
  | f + 1, k, hk => by
    unfold fplN fdN
    have e := is_eq r hd r3 (k := k) (by omega)
    have ih := find_eq r hd r3 f (k + 1) (by omega)
    by_cases q : gIs m d k = 0
    · rw [if_pos q, ih]
      by_cases q1 : fKind c (cj c d) (nI k) = c.1 0 3
      · rw [if_pos q1]
        by_cases q2 : lg_cmp (c.2.1 (cj c d + 9) k) (c.2.1 0 4) = 0
        · exact absurd q (e.mp ⟨q1, q2⟩)
        · rw [if_neg q2]
      · rw [if_neg q1]
    · have z := e.mpr q
      rw [if_neg q, if_pos z.1, if_pos z.2]
theorem op_find (h : Inv c m t) : rFind c d = hFind m d ∧ Inv (sFau c d) (tFind m d) (t + 1) := by
  by_cases hd : vp_in d 8
  · have r := h.1
    refine ⟨?_, ?_⟩
    · unfold rFind hFind
      rw [if_neg (Dr_ne hd), if_pos (no_in hd), row_eq r.2.2.1 hd]
      by_cases q : gRow m d = 0
      · rw [if_pos q, if_pos (le0 q)]
        have r3 := row_3 r.2.2.1 hd q
        have hs := gS_ok r.2.1 hd
        have hp : pl c (cj c d) = (gS m d).toNatClampNeg := by unfold pl; rw [r3.2.2.2.1]
        unfold fFpl
        rw [hp]
        exact find_eq r hd r3 _ 0 (by have := hs.2; omega)
      · rw [if_neg q, if_neg (fun z => q ((f5_le (gRow_5 _ _)).mp z)), ans1 (gRow_5 _ _) q]
    · have x := fau_ex r hd
      have e : tFind m d = sAns m (gRow m d) := by
        unfold tFind sAns
        rw [if_pos (no_in hd)]
        split <;> rfl
      rw [e]
      exact h.up x.ans (Sk_fau _ _) (Sm_ans (Sm.rf m))
  · have n := no_out hd
    unfold rFind hFind sFau tFind
    rw [if_pos n.1, if_neg n.2, if_pos n.1, if_neg n.2]
    exact ⟨rfl, h.same⟩
end OPS
