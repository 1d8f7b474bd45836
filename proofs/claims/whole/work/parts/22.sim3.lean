theorem kd5_0 {j : Nat} (h : kd j = 5) : ¬ j = 0 := fun z => by subst z; exact absurd h (by decide)
theorem Dr_ne {d : Int32} (hd : vp_in d 8) : ¬ isDr d = 0 := fun z => (isDr_iff d).mp z hd
theorem in7_ne {x : Int32} (h : vp_in x 7) : ¬ x = -9 := by
  intro z
  subst z
  exact absurd (vp_in_iff.mp h).1 (by decide)
section SIM3
variable {c : zC} {m : zM} {d i : Int32}
theorem take_ex (r : Rel c m) (hd : vp_in d 8) : Ex c (sTake c d i) (gCome m d i) (gTak m d i) := by
  have e := come_eq (i := i) r.2.2.1 r.2.1 hd
  unfold sTake gTak
  rw [if_neg (Dr_ne hd), e]
  by_cases q : gCome m d i = 0
  · rw [if_pos q, if_pos q]
    have hi := gCome_in (le0 q) r.2.1 hd
    have r3 := row_3 r.2.2.1 hd (come_row q)
    have ev := val_eq r.2.1 hd r3 hi
    refine Or.inl ⟨q, Rel_of r (Sk.hold _ _ _) ((Sm.i32 m 7 _ (by simp)).tr ((Sm.i32 _ 8 _ (by simp)).tr (Sm.j _ _ _ _))) (by simp [tJ_1, tI_r]) (fun j hj => ?_) (by rw [tJ_r (by decide)]; rfl) ?_ ?_, ?_⟩
    · unfold hold
      rw [sJ_r (kd5_0 hj)]; rfl
    · rcases emp_of r.2.1 hd r3 hi with ⟨h1, h2, h3, h4⟩ | ⟨h1, h2, h3⟩
      · refine Or.inl ⟨?_, ?_, ?_⟩
        · simp [tJ_1, tI_n, tI_s, h1]
        · simp [hold, sJ_1, sI_s, h2]
        · simp [hold, sJ_s, ev, h4]
      · refine Or.inr ⟨?_, ?_, ?_, ?_, ?_⟩
        · simp [tJ_1, tI_n, tI_s, h1]
        · simp [hold, sJ_1, sI_s, h2, tJ_1, tI_s]
        · simp only [tJ_1, tI_s]; exact r3.2.1
        · simp [hold, sJ_s, ev, tJ_s]
        · simp only [tJ_1, tI_s, tJ_s]; exact h3
    · obtain ⟨f1, f2⟩ := r.2.2.2.2.2
      exact ⟨by simpa [hold, sJ_1, sI_n, tJ_1, tI_n] using f1, fun k => by simpa [hold, sJ_1, sI_r, tJ_1, tI_r] using f2 k⟩
    · simp [hold, sJ_1, sI_r]
  · rw [if_neg q, if_neg q]
    exact Ex.bad r q (gCome_5 _ _ _)
theorem lay_ex (r : Rel c m) (hd : vp_in d 8) (hh : ¬ m.1 32 7 = 0) : Ex c (sLay c d i) (gLay m d i (m.1 32 8)) (gPut m d i) := by
  rcases r.2.2.2.1 with h | ⟨h1, h2, h3, h4, h5⟩
  · exact absurd h.1 hh
  · have e := lay_eq (i := i) r.2.2.1 r.2.1 hd (show kk (c.1 0 3) (m.1 32 8) from Or.inr ⟨h2, by rw [h2]; exact h3⟩)
    unfold sLay gPut
    rw [if_neg (Dr_ne hd), if_neg (by rw [h2]; exact in7_ne h3), e]
    by_cases q : gLay m d i (m.1 32 8) = 0
    · rw [if_pos q, if_pos q]
      have hi := gLay_in (le0 q) r.2.1 hd
      have qc : gCome m d i = 0 := (f5_le (gCome_5 m d i)).mp (gLay_come (le0 q))
      have r3 := row_3 r.2.2.1 hd (come_row qc)
      rw [gAt_k (wfM_r r.2.1 hd) hi, h4]
      exact Or.inl ⟨q, Rel_write r (in_lt hd) r3.1 (in_lt hi) _, rfl⟩
    · rw [if_neg q, if_neg q]
      exact Ex.bad r q (gLay_5 _ _ _ _)
theorem sw_eq (r : Rel c m) {a b j : Int32} (ha : vp_in a 8) (hb : vp_in b 8) : fSw c (cj c a) i (cj c b) j = gSw m a i b j := by
  have ea := come_eq (i := i) r.2.2.1 r.2.1 ha
  have eb := come_eq (i := j) r.2.2.1 r.2.1 hb
  unfold fSw gSw
  rw [ea, eb]
  by_cases qa : gCome m a i = 0
  · rw [if_pos qa, if_pos (le0 qa)]
    by_cases qb : gCome m b j = 0
    · rw [if_pos qb, if_pos (le0 qb)]
      have ka := kind_kk r.2.1 ha (row_3 r.2.2.1 ha (come_row qa)) (gCome_in (le0 qa) r.2.1 ha)
      have kb := kind_kk r.2.1 hb (row_3 r.2.2.1 hb (come_row qb)) (gCome_in (le0 qb) r.2.1 hb)
      rw [lay_eq (i := i) r.2.2.1 r.2.1 ha kb, lay_eq (i := j) r.2.2.1 r.2.1 hb ka]
      by_cases qc : gLay m a i (gKind m b j) = 0
      · rw [if_pos qc, if_pos (le0 qc)]
      · rw [if_neg qc, if_neg (fun z => qc ((f5_le (gLay_5 _ _ _ _)).mp z))]
    · rw [if_neg qb, if_neg (fun z => qb ((f5_le (gCome_5 _ _ _)).mp z))]
  · rw [if_neg qa, if_neg (fun z => qa ((f5_le (gCome_5 _ _ _)).mp z))]
theorem swap_ex (r : Rel c m) {a b j : Int32} (ha : vp_in a 8) (hb : vp_in b 8) : Ex c (sSwap c a i b j) (gSw m a i b j) (gSws m a i b j) := by
  have e := sw_eq (i := i) (j := j) r ha hb
  unfold sSwap gSws
  rw [if_neg (Dr_ne ha), if_neg (Dr_ne hb), e]
  by_cases q : gSw m a i b j = 0
  · rw [if_pos q, if_pos q]
    have q2 := fSw_a (e.trans q)
    rw [come_eq r.2.2.1 r.2.1 ha, come_eq r.2.2.1 r.2.1 hb] at q2
    have hi := gCome_in (le0 q2.1) r.2.1 ha
    have hj := gCome_in (le0 q2.2) r.2.1 hb
    have ra := row_3 r.2.2.1 ha (come_row q2.1)
    have rb := row_3 r.2.2.1 hb (come_row q2.2)
    unfold swS
    rw [val_eq r.2.1 ha ra hi, val_eq r.2.1 hb rb hj]
    rw [gAt_k (wfM_r r.2.1 ha) hi, gAt_k (wfM_r r.2.1 hb) hj]
    have s1 := Rel_write r (in_lt ha) ra.1 (in_lt hi) (m.2 38 (12 * gR m b + j.toNatClampNeg))
    have s2 := Rel_write s1 (in_lt hb) rb.1 (in_lt hj) (m.2 38 (12 * gR m a + i.toNatClampNeg))
    exact Or.inl ⟨q, s2, rfl⟩
  · rw [if_neg q, if_neg q]
    exact Ex.bad r q (gSw_5 _ _ _ _ _)
theorem rev_rel (hd : vp_in d 8) (j n : Nat) (hn : n ≤ 12) : ∀ (f k : Nat) (c : zC) (m : zM), Rel c m → m.1 33 d.toNatClampNeg = 2 → c.2.2 d.toNatClampNeg = j → k + f ≤ n / 2 → Rel (revN j n f k c) (trN d (nI n) f k m)
  | 0, _, c, m, r, _, _, _ => r
  | f + 1, k, c, m, r, h2, hj, hk => by
    unfold revN trN
    have hr := wfM_r r.2.1 hd
    have k1 : vp_in (nI k) 12 := vp_in_nI (by omega) (by omega)
    have k2 : vp_in (nI n - 1 - nI k) 12 := rv_in rfl (by omega) hn
    have e1 : (gAt m d (nI k)).toNatClampNeg = 12 * gR m d + k := by rw [gAt_k hr k1, nI_clamp (by omega)]
    have e2 : (gAt m d (nI n - 1 - nI k)).toNatClampNeg = 12 * gR m d + (n - 1 - k) := by rw [gAt_k hr k2, rv_k rfl (by omega) hn]
    have g2 : gRow m d = 0 := by unfold gRow; rw [h2]; rfl
    have r3 := row_3 r.2.2.1 hd g2
    have v1 := r3.2.2.2.2 k (by omega)
    have v2 := r3.2.2.2.2 (n - 1 - k) (by omega)
    unfold trS
    rw [e1, e2, ← v1, ← v2]
    subst hj
    have s1 := Rel_write r (in_lt hd) h2 (show k < 12 by omega) (c.2.1 (cj c d + 9) (n - 1 - k))
    have s2 := Rel_write s1 (in_lt hd) h2 (show n - 1 - k < 12 by omega) (c.2.1 (cj c d + 9) k)
    exact rev_rel hd _ n hn f (k + 1) _ _ s2 h2 rfl (by omega)
theorem revN_1 (j n : Nat) : ∀ (f k : Nat) (c : zC), (revN j n f k c).1 = c.1
  | 0, _, c => rfl
  | f + 1, k, c => by
    unfold revN
    rw [revN_1 j n f (k + 1)]
    rfl
theorem turn_ex (r : Rel c m) (hd : vp_in d 8) : Ex c (sTurn c d) (gRow m d) (gTur m d) := by
  have e := row_eq r.2.2.1 hd
  unfold sTurn gTur
  rw [if_neg (Dr_ne hd), e]
  by_cases q : gRow m d = 0
  · rw [if_pos q, if_pos q]
    have r3 := row_3 r.2.2.1 hd q
    have hs := gS_ok r.2.1 hd
    have hp : pl c (cj c d) = (gS m d).toNatClampNeg := by unfold pl; rw [r3.2.2.2.1]
    refine Or.inl ⟨q, ?_, ?_⟩
    · unfold fRev
      rw [hp]
      have := rev_rel hd (cj c d) (gS m d).toNatClampNeg hs.2 ((gS m d).toNatClampNeg / 2) 0 c m r r3.1 rfl (by omega)
      rw [← hs.1] at this
      exact this
    · unfold fRev
      rw [revN_1]
  · rw [if_neg q, if_neg q]
    exact Ex.bad r q (gRow_5 _ _)
theorem Rel_17 (r : Rel c m) (v : Int32) : Rel c (tI m 32 17 v) := by
  refine Rel_of r (Sk.rf c) (Sm.i32 m 17 v (by simp)) (tI_r (by decide)) (fun j _ => rfl) rfl ?_ ?_
  · have := r.2.2.2.1
    unfold RH at *
    simpa [tI_n, tI_2] using this
  · have := r.2.2.2.2.2
    unfold RF at *
    simpa [tI_n, tI_r] using this
theorem po_eq (r : Rel c m) {t j : Int32} (hd : vp_in d 8) (ht : vp_in t 8) : fPo c (cj c d) i (cj c t) j = gPoF m d i t j := by
  unfold fPo gPoF
  rw [come_eq r.2.2.1 r.2.1 hd]
  by_cases q : gCome m d i = 0
  · rw [if_pos q, if_pos (le0 q)]
    exact lay_eq r.2.2.1 r.2.1 ht (kind_kk r.2.1 hd (row_3 r.2.2.1 hd (come_row q)) (gCome_in (le0 q) r.2.1 hd))
  · rw [if_neg q, if_neg (fun z => q ((f5_le (gCome_5 _ _ _)).mp z))]
theorem po_rel (r : Rel c m) {t j : Int32} (hd : vp_in d 8) (ht : vp_in t 8) (q : gPoF m d i t j = 0) : Rel (sPo c (cj c d) i (cj c t) j) (psS m d i t j) ∧ (sPo c (cj c d) i (cj c t) j).1 = c.1 ∧ (sPo c (cj c d) i (cj c t) j).2.2 = c.2.2 := by
  have e := po_eq (i := i) (j := j) r hd ht
  rw [q] at e
  unfold fPo at e
  split at e
  · rename_i h1
    have qc : gCome m d i = 0 := by rw [← come_eq r.2.2.1 r.2.1 hd]; exact h1
    have hi := gCome_in (le0 qc) r.2.1 hd
    have r3 := row_3 r.2.2.1 hd (come_row qc)
    have e2 := e
    rw [lay_eq r.2.2.1 r.2.1 ht (kind_kk r.2.1 hd r3 hi)] at e2
    have hj := gLay_in (le0 e2) r.2.1 ht
    have qt : gCome m t j = 0 := (f5_le (gCome_5 _ _ _)).mp (gLay_come (le0 e2))
    have r4 := row_3 r.2.2.1 ht (come_row qt)
    unfold sPo psS
    rw [if_pos h1, if_pos e, val_eq r.2.1 hd r3 hi, gAt_k (wfM_r r.2.1 ht) hj]
    exact ⟨Rel_17 (Rel_write r (in_lt ht) r4.1 (in_lt hj) _) _, rfl, rfl⟩
  · contradiction
theorem por_rel {t j n : Int32} (hd : vp_in d 8) (ht : vp_in t 8) : ∀ (f k : Nat) (c : zC) (m : zM), Rel c m → m.1 32 17 = nI k →
    ((psN d t i j f k m).1 = 0 ∧ (porN d.toNatClampNeg t.toNatClampNeg i j n f k c).1 = n ∧ Rel (porN d.toNatClampNeg t.toNatClampNeg i j n f k c).2 (psN d t i j f k m).2 ∧ (porN d.toNatClampNeg t.toNatClampNeg i j n f k c).2.1 5 0 = c.1 5 0) ∨
    (¬ (psN d t i j f k m).1 = 0 ∧ vp_in (psN d t i j f k m).1 5 ∧ ∃ c2, (porN d.toNatClampNeg t.toNatClampNeg i j n f k c).2 = meet c2 (psN d t i j f k m).1 ∧ Rel c2 (psN d t i j f k m).2 ∧ c2.1 5 0 = c.1 5 0 ∧ (porN d.toNatClampNeg t.toNatClampNeg i j n f k c).1 = -100 + (psN d t i j f k m).2.1 32 17)
  | 0, k, c, m, r, _ => Or.inl ⟨rfl, rfl, r, rfl⟩
  | f + 1, k, c, m, r, h17 => by
    unfold psN porN
    have e := po_eq (i := i + nI k) (j := j + nI k) r hd ht
    rw [show fPo c (c.2.2 d.toNatClampNeg) (i + nI k) (c.2.2 t.toNatClampNeg) (j + nI k) = gPoF m d (i + nI k) t (j + nI k) from e]
    by_cases q : gPoF m d (i + nI k) t (j + nI k) = 0
    · rw [if_pos q, if_pos (le0 q)]
      have s := po_rel r hd ht q
      have ih := por_rel (j := j) (n := n) hd ht f (k + 1) _ _ s.1 (by unfold psS; rw [tI_s, h17]; exact nI_1 k)
      rw [s.2.1] at ih
      exact ih
    · rw [if_neg q, if_neg (fun z => q ((f5_le (gPoF_5 _ _ _ _ _)).mp z))]
      exact Or.inr ⟨q, gPoF_5 _ _ _ _ _, c, rfl, r, rfl, by rw [h17]⟩
end SIM3
