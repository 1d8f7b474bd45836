theorem two_sub {x : Int32} (h : vp_in x 7) : 2 + x - 2 = x := by
  obtain ⟨k, hk, rfl⟩ := vp_in_of h (by decide)
  rw [show (2 : Int32) = nI 2 from rfl, nI_add, pk_sub (by omega)]
  congr 1
  omega
theorem two_ne {x : Int32} (h : vp_in x 7) : ¬ 2 + x = 0 ∧ ¬ 2 + x = 1 ∧ ¬ 2 + x < 2 := by
  obtain ⟨k, hk, rfl⟩ := vp_in_of h (by decide)
  rw [show (2 : Int32) = nI 2 from rfl, nI_add]
  refine ⟨fun q => ?_, fun q => ?_, nI_nlt (by omega) (by omega)⟩
  · have := nI_inj8 (b := 0) q (by omega) (by omega); omega
  · have := nI_inj8 (b := 1) q (by omega) (by omega); omega
theorem f5_le {f : Int32} (h : vp_in f 5) : f ≤ 0 ↔ f = 0 := by
  obtain ⟨k, hk, rfl⟩ := vp_in_of h (by decide)
  rw [show (0 : Int32) = nI 0 from rfl, nI_leI (by omega) (by omega), nI_eq (by omega) (by omega)]
  omega
section SIM
variable {c : zC} {m : zM} {d i : Int32}
/-- a drawer with a row -/
def Row3 (c : zC) (m : zM) (d : Int32) : Prop := m.1 33 d.toNatClampNeg = 2 ∧ vp_in (m.1 36 (gR m d)) 7 ∧ c.1 (cj c d) 0 = 2 + m.1 36 (gR m d) ∧ c.1 (cj c d) 2 = gS m d ∧ ∀ i, i < 12 → c.2.1 (cj c d + 9) i = m.2 38 (12 * gR m d + i)
theorem row_eq (h : RD c m) (hd : vp_in d 8) : fRow c (cj c d) = gRow m d := by
  unfold fRow gRow
  rcases h.2.1 _ (in_lt hd) with ⟨h1, h2⟩ | ⟨h1, h2, h3, h4⟩ | ⟨h1, h2, h3, h4, h5⟩
  · rw [show cj c d = 6 from h2, h.1.1, h1]
  · rw [show c.1 (cj c d) 0 = 1 from h3, h1]
  · have e := two_ne h3
    rw [show c.1 (cj c d) 0 = _ from h4, h1, if_neg e.1, if_neg e.2.1]; rfl
theorem row_3 (h : RD c m) (hd : vp_in d 8) (q : gRow m d = 0) : Row3 c m d := by
  rcases h.2.1 _ (in_lt hd) with ⟨h1, h2⟩ | ⟨h1, h2, h3, h4⟩ | ⟨h1, h2, h3, h4, h5, h6, h7⟩
  · unfold gRow at q; rw [h1] at q; exact absurd q (by decide)
  · unfold gRow at q; rw [h1] at q; exact absurd q (by decide)
  · exact ⟨h1, h3, h4, h6, h7⟩
theorem come_row (q : gCome m d i = 0) : gRow m d = 0 := by
  unfold gCome at q
  split at q
  · exact (f5_le (gRow_5 m d)).mp (by assumption)
  · exact q
theorem come_eq (h : RD c m) (w : wfM m) (hd : vp_in d 8) : fCome c (cj c d) i = gCome m d i := by
  have e := row_eq h hd
  have hs := gS_ok w hd
  by_cases q : gRow m d = 0
  · have r := row_3 h hd q
    unfold fCome gCome
    rw [e, if_pos q, if_pos (le0 q), r.2.2.2.1]
    rw [show m.1 37 (gR m d) = gS m d from rfl]
    by_cases hb : fBey i.toInt64 0 (gS m d - 1).toInt64 = 0
    · rw [if_pos hb]
      have hv := fBey_n1 hs.1 (by have := hs.2; omega) hb
      rw [if_neg (fun z => hv (Or.inl z)), if_pos]
      rw [hs.1, in_nI hv (by have := hs.2; omega)]
      exact nI_lt (in_lt hv) (by have := hs.2; omega)
    · rw [if_neg hb]
      by_cases h0 : i < 0
      · rw [if_pos h0]
      · rw [if_neg h0, if_neg]
        intro hlt
        apply hb
        have hv : vp_in i (gS m d).toNatClampNeg := lt_in h0 (by rw [← hs.1]; exact hlt) (by have := hs.2; omega)
        rw [fBey_iff, Int32.toInt_toInt64, Int32.toInt_toInt64, hs.1, show (1 : Int32) = nI 1 from rfl, pk_sub_toInt (by have := hs.2; omega) (by omega)]
        have h0 : (0 : Int64).toInt = 0 := by decide
        rw [h0]
        have := vp_in_iff.mp hv
        omega
  · unfold fCome gCome
    rw [e, if_neg q, if_neg (fun z => q ((f5_le (gRow_5 m d)).mp z))]
def kk (x y : Int32) : Prop := (x = -9 ∧ y = -1) ∨ (x = y ∧ vp_in x 7)
theorem fits_all : (∀ k, k < 7 → ∀ r, r < 7 → fFits (nI k) (nI r) = gFits (nI k) (nI r)) ∧ ∀ r, r < 7 → fFits (-9) (nI r) = gFits (-1) (nI r) := by decide +kernel
theorem fits_eq {x y r : Int32} (hk : kk x y) (hr : vp_in r 7) : fFits x r = gFits y r := by
  obtain ⟨b, hb, rfl⟩ := vp_in_of hr (by decide)
  rcases hk with ⟨rfl, rfl⟩ | ⟨rfl, h⟩
  · exact fits_all.2 b hb
  · obtain ⟨a, ha, rfl⟩ := vp_in_of h (by decide)
    exact fits_all.1 a ha b hb
theorem val_eq (w : wfM m) (hd : vp_in d 8) (r : Row3 c m d) (hi : vp_in i 12) : c.2.1 (cj c d + 9) i.toNatClampNeg = m.2 38 (gAt m d i).toNatClampNeg := by
  rw [gAt_k (wfM_r w hd) hi]
  exact r.2.2.2.2 _ (in_lt hi)
theorem emp_of (w : wfM m) (hd : vp_in d 8) (r : Row3 c m d) (hi : vp_in i 12) : (¬ gEmp m d i = 0 ∧ fKind c (cj c d) i = -9 ∧ m.1 36 (gR m d) = 6 ∧ m.2 38 (gAt m d i).toNatClampNeg = 0) ∨ (gEmp m d i = 0 ∧ fKind c (cj c d) i = m.1 36 (gR m d) ∧ (m.1 36 (gR m d) = 6 → ¬ m.2 38 (gAt m d i).toNatClampNeg = 0)) := by
  have e := val_eq w hd r hi
  unfold gEmp fKind
  rw [r.2.2.1, two_sub r.2.1, e]
  by_cases h6 : m.1 36 (gR m d) = 6
  · rw [if_pos h6, if_pos h6]
    by_cases h0 : lg_cmp (m.2 38 (gAt m d i).toNatClampNeg) 0 = 0
    · rw [if_pos h0, if_pos h0]
      exact Or.inl ⟨by decide, rfl, h6, (lg_eq _ _).mp h0⟩
    · rw [if_neg h0, if_neg h0]
      exact Or.inr ⟨rfl, rfl, fun _ z => h0 ((lg_eq _ _).mpr z)⟩
  · rw [if_neg h6, if_neg h6]
    exact Or.inr ⟨rfl, rfl, fun z => absurd z h6⟩
theorem kind_kk (w : wfM m) (hd : vp_in d 8) (r : Row3 c m d) (hi : vp_in i 12) : kk (fKind c (cj c d) i) (gKind m d i) := by
  unfold gKind
  rcases emp_of w hd r hi with ⟨h1, h2, -, -⟩ | ⟨h1, h2, -⟩
  · rw [if_neg h1]; exact Or.inl ⟨h2, rfl⟩
  · rw [if_pos h1]; exact Or.inr ⟨h2, by rw [h2]; exact r.2.1⟩
theorem lay_eq (h : RD c m) (w : wfM m) (hd : vp_in d 8) {x y : Int32} (hk : kk x y) : fLay c (cj c d) i x = gLay m d i y := by
  unfold fLay gLay
  rw [come_eq h w hd]
  by_cases q : gCome m d i = 0
  · have r := row_3 h hd (come_row q)
    rw [if_pos q, if_pos (le0 q), r.2.2.1, two_sub r.2.1, fits_eq hk r.2.1]
  · rw [if_neg q, if_neg (fun z => q ((f5_le (gCome_5 m d i)).mp z))]
end SIM
theorem RDd_cong {c c' : zC} {m m' : zM} (h1 : c'.2.2 = c.2.2) (h2 : ∀ j k, kd j = 6 → c'.1 j k = c.1 j k) (h3 : ∀ j, kd j = 5 → c'.2.1 j = c.2.1 j) (m33 : m'.1 33 = m.1 33) (m34 : m'.1 34 = m.1 34) (m35 : m'.1 35 = m.1 35) (m36 : m'.1 36 = m.1 36) (m37 : m'.1 37 = m.1 37) (m38 : m'.2 38 = m.2 38) (hk : ∀ k, k < 8 → kd (c.2.2 k) = 6) (h : RD c m) : RD c' m' := by
  refine ⟨⟨(h2 6 0 (by decide)).trans h.1.1, (h2 6 1 (by decide)).trans h.1.2⟩, fun d hd => ?_, fun d e hd he => ?_⟩
  · have k6 := hk d hd
    have := h.2.1 d hd
    unfold RDd at *
    rw [h1, m33, m34, m35, m36, m37, m38, h2 _ _ k6, h2 _ _ k6, h2 _ _ k6, h3 _ (kd65 k6)]
    exact this
  · rw [h1, m33, m35]
    exact h.2.2 d e hd he
theorem Rel_of {c c' : zC} {m m' : zM} (r : Rel c m) (s : Sk c c') (t : Sm m m') (h41 : m'.1 41 = m.1 41) (hv : ∀ j, kd j = 5 → c'.2.1 j = c.2.1 j) (hp : m'.2 38 = m.2 38) (hH : RH c' m') (hF : RF c' m') : Rel c' m' := by
  obtain ⟨r1, r2, r3, r4, r5, r6⟩ := r
  refine ⟨wfC_sk s r1, wfM_sm t r2, ?_, hH, ?_, hF⟩
  · exact RDd_cong s.1 s.2.1 hv (t.1 33 (by decide) (by decide) (by decide)) (t.1 34 (by decide) (by decide) (by decide)) (t.1 35 (by decide) (by decide) (by decide)) (t.1 36 (by decide) (by decide) (by decide)) (t.1 37 (by decide) (by decide) (by decide)) hp r1.1 r3
  · obtain ⟨o1, o2, o3, o4, o5⟩ := r5
    refine ⟨by rw [s.2.2.2.1, t.2.2.2.1]; exact o1, fun k q hk hq => ?_, fun k => ?_, ?_, fun k hk h8 => ?_⟩
    · rw [s.2.2.1 (24 + k) q (kd7o (by omega) (by omega)), t.1 40 (by decide) (by decide) (by decide)]
      exact o2 k q hk hq
    · rw [s.2.2.2.2.2.2, h41]; exact o3 k
    · rw [s.2.2.2.2.2.1, t.2.2.1]; exact o4
    · rw [s.2.2.2.1] at hk
      rw [s.2.2.1 (24 + k) 2 (kd7o (by omega) (by omega)), s.2.2.1 (24 + k) 4 (kd7o (by omega) (by omega))]
      exact o5 k hk h8
theorem Rel_meet {c : zC} {m : zM} (r : Rel c m) {f : Int32} (hf : vp_in f 5) : Rel (meet c f) (met1 m f) := by
  refine Rel_of r (Sk.meet c f) (Sm_met1 m f) ?_ (fun j _ => rfl) rfl ?_ ?_
  · simp [met1, tI_r]
  · have := r.2.2.2.1
    unfold RH at *
    simpa [met1, meet, tI_r, tI_n, sI_r, sI_n, sI_2, tI_2] using this
  · obtain ⟨f1, f2⟩ := r.2.2.2.2.2
    refine ⟨by simp [met1, meet, tI_r, tI_s, sI_r, sI_s], fun k => ?_⟩
    by_cases h0 : k = 0
    · subst h0
      by_cases hf0 : f.toNatClampNeg = 0
      · simp [met1, meet, hf0, tI, sI, f2]
      · simp [met1, meet, tI, sI, f2, Ne.symm hf0, hf0]
    · by_cases hk : k = f.toNatClampNeg
      · subst hk
        simp [met1, meet, tI, sI, f2, h0]
      · simp [met1, meet, tI, sI, f2, h0, hk]
theorem RD_write {c : zC} {m : zM} (h : RD c m) (w : wfM m) {d i : Nat} (hd : d < 8) (h2 : m.1 33 d = 2) (hi : i < 12) (v : Int64) : RD (sJ c (c.2.2 d + 9) i v) (tJ m 38 (12 * (m.1 35 d).toNatClampNeg + i) v) := by
  refine ⟨h.1, fun e he => ?_, h.2.2⟩
  rcases h.2.1 e he with q | q | ⟨q1, q2, q3, q4, q5, q6, q7⟩
  · exact Or.inl q
  · exact Or.inr (Or.inl q)
  · refine Or.inr (Or.inr ⟨q1, q2, q3, q4, q5, q6, fun i' hi' => ?_⟩)
    have sh := h.2.2 d e hd he h2 q1
    show (sJ c (c.2.2 d + 9) i v).2.1 (c.2.2 e + 9) i' = (tJ m 38 (12 * (m.1 35 d).toNatClampNeg + i) v).2 38 (12 * (m.1 35 e).toNatClampNeg + i')
    by_cases hD : c.2.2 d = c.2.2 e
    · have hr := sh.mp hD
      rw [← hD, ← hr]
      by_cases hii : i' = i
      · subst hii
        rw [sJ_s, tJ_s]
      · rw [sJ_n hii, tJ_n (by omega)]
        have := q7 i' hi'
        rw [← hD, ← hr] at this
        exact this
    · have hr : ¬ m.1 35 d = m.1 35 e := fun z => hD (sh.mpr z)
      have hn : ¬ (m.1 35 d).toNatClampNeg = (m.1 35 e).toNatClampNeg := by
        intro z
        apply hr
        rw [in_nI (w.1 d hd) (by decide), in_nI (w.1 e he) (by decide), z]
      rw [sJ_r (by omega), tJ_n (by omega)]
      exact q7 i' hi'
theorem Rel_write {c : zC} {m : zM} (r : Rel c m) {d i : Nat} (hd : d < 8) (h2 : m.1 33 d = 2) (hi : i < 12) (v : Int64) : Rel (sJ c (c.2.2 d + 9) i v) (tJ m 38 (12 * (m.1 35 d).toNatClampNeg + i) v) := by
  obtain ⟨r1, r2, r3, r4, r5, r6⟩ := r
  refine ⟨wfC_sk (Sk.j c _ _ _) r1, wfM_sm (Sm.j m _ _ _) r2, RD_write r3 r2 hd h2 hi v, ?_, r5, r6⟩
  unfold RH at *
  rw [sJ_r (by omega), tJ_r (by omega)]
  exact r4
def Ex (c c1 : zC) (f : Int32) (m1 : zM) : Prop := (f = 0 ∧ Rel c1 m1 ∧ c1.1 5 0 = c.1 5 0) ∨ (¬ f = 0 ∧ vp_in f 5 ∧ ∃ c2, c1 = meet c2 f ∧ Rel c2 m1 ∧ c2.1 5 0 = c.1 5 0)
theorem Ex.ans {c c1 : zC} {f : Int32} {m1 : zM} (h : Ex c c1 f m1) : Rel c1 (sAns m1 f) := by
  unfold sAns
  rcases h with ⟨rfl, h, -⟩ | ⟨h0, h5, c2, rfl, h, -⟩
  · rw [if_pos (by decide)]; exact h
  · rw [if_neg (fun z => h0 ((f5_le h5).mp z))]
    exact Rel_meet h h5
theorem Ex.bad {c : zC} {m : zM} (r : Rel c m) {f : Int32} (h : ¬ f = 0) (h5 : vp_in f 5) : Ex c (meet c f) f m := Or.inr ⟨h, h5, c, rfl, r, rfl⟩
