section OPS4
variable {c : zC} {m : zM} {t : Nat} {d i : Int32}
theorem row_inv (h : Inv c m t) (ht5 : t < 4000) {n : Nat} (dl : n < 8) {k q : Int32} (hk : vp_in k 7) (hq : vp_in q 13) : Inv (bRow (newC c n) (nFree c n) k q) (tI (rowM m n k q) 32 3 (m.1 32 3 + 1)) (t + 1) := by
  obtain ⟨⟨r1, r2, r3, r4, r5, r6⟩, h9, ρ, t1, t2, t3⟩ := h
  have hf := nFree_in c n
  have hf7 := nFree_7 c n
  have fr := free_e r1.1 dl
  have nd := newC_D c n
  generalize nFree c n = f at hf hf7 fr nd ⊢
  have f6 := kd6 hf
  have eρ : (m.1 32 3).toNatClampNeg = ρ := by rw [t2]; exact nI_clamp (by omega)
  unfold bRow rowM
  rw [eρ]
  generalize hC : sI (sI (sI (newC c n) f 0 (2 + k)) f 1 0) f 2 q = C
  generalize hM : tI (tI (tI (tI m 33 n 2) 35 n (m.1 32 3)) 36 ρ k) 37 ρ q = M
  have z1 := zer_1 f 12 0 C
  have y1 := zerM_1 ρ 12 0 M
  have c2 : C.2 = (newC c n).2 := by rw [← hC]; rfl
  have m2 : M.2 = m.2 := by rw [← hM]; rfl
  have eI : ∀ j, ¬ j = f → (zer f 12 0 C).1 j = c.1 j := fun j hj => by rw [z1.1, ← hC, sI_r hj, sI_r hj, sI_r hj]; rfl
  have f0 : (zer f 12 0 C).1 f 0 = 2 + k := by rw [z1.1, ← hC, sI_n (by decide), sI_n (by decide), sI_s]
  have f1 : (zer f 12 0 C).1 f 1 = 0 := by rw [z1.1, ← hC, sI_n (by decide), sI_s]
  have f2 : (zer f 12 0 C).1 f 2 = q := by rw [z1.1, ← hC, sI_s]
  have eD : (zer f 12 0 C).2.2 = (newC c n).2.2 := by rw [z1.2, c2]
  have eJ : ∀ a, ¬ a = f + 9 → (zer f 12 0 C).2.1 a = c.2.1 a := fun a ha => by rw [zer_r f 12 0 C a ha, c2]; rfl
  have eV : ∀ b, b < 12 → (zer f 12 0 C).2.1 (f + 9) b = 0 := fun b hb => (zer_v f 12 0 C b).1 (by omega) (by omega)
  have gA : ∀ a, ¬ a = 32 → ¬ a = 33 → ¬ a = 35 → ¬ a = 36 → ¬ a = 37 → (tI (zerM ρ 12 0 M) 32 3 (m.1 32 3 + 1)).1 a = m.1 a := fun a a1 a2 a3 a4 a5 => by rw [tI_r a1, y1.1, ← hM, tI_r a5, tI_r a4, tI_r a3, tI_r a2]
  have g32 : ∀ b, ¬ b = 3 → (tI (zerM ρ 12 0 M) 32 3 (m.1 32 3 + 1)).1 32 b = m.1 32 b := fun b hb => by rw [tI_n hb, y1.1, ← hM, tI_r (by decide), tI_r (by decide), tI_r (by decide), tI_r (by decide)]
  have g3 : (tI (zerM ρ 12 0 M) 32 3 (m.1 32 3 + 1)).1 32 3 = nI (ρ + 1) := by rw [tI_s, t2]; exact nI_1 ρ
  have g33 : (tI (zerM ρ 12 0 M) 32 3 (m.1 32 3 + 1)).1 33 n = 2 ∧ ∀ e, ¬ e = n → (tI (zerM ρ 12 0 M) 32 3 (m.1 32 3 + 1)).1 33 e = m.1 33 e := by
    rw [tI_r (by decide), y1.1, ← hM, tI_r (by decide), tI_r (by decide), tI_r (by decide)]
    exact ⟨tI_s, fun e he => tI_n he⟩
  have g35 : (tI (zerM ρ 12 0 M) 32 3 (m.1 32 3 + 1)).1 35 n = nI ρ ∧ ∀ e, ¬ e = n → (tI (zerM ρ 12 0 M) 32 3 (m.1 32 3 + 1)).1 35 e = m.1 35 e := by
    rw [tI_r (by decide), y1.1, ← hM, tI_r (by decide), tI_r (by decide), ← t2]
    exact ⟨tI_s, fun e he => by rw [tI_n he, tI_r (by decide)]⟩
  have g36 : (tI (zerM ρ 12 0 M) 32 3 (m.1 32 3 + 1)).1 36 ρ = k ∧ ∀ e, ¬ e = ρ → (tI (zerM ρ 12 0 M) 32 3 (m.1 32 3 + 1)).1 36 e = m.1 36 e := by
    rw [tI_r (by decide), y1.1, ← hM, tI_r (by decide)]
    exact ⟨tI_s, fun e he => by rw [tI_n he, tI_r (by decide), tI_r (by decide)]⟩
  have g37 : (tI (zerM ρ 12 0 M) 32 3 (m.1 32 3 + 1)).1 37 ρ = q ∧ ∀ e, ¬ e = ρ → (tI (zerM ρ 12 0 M) 32 3 (m.1 32 3 + 1)).1 37 e = m.1 37 e := by
    rw [tI_r (by decide), y1.1, ← hM]
    exact ⟨tI_s, fun e he => by rw [tI_n he, tI_r (by decide), tI_r (by decide), tI_r (by decide)]⟩
  have g38 : ∀ b, (b < 12 * ρ → (tI (zerM ρ 12 0 M) 32 3 (m.1 32 3 + 1)).2 38 b = m.2 38 b) ∧ (12 * ρ ≤ b → b < 12 * ρ + 12 → (tI (zerM ρ 12 0 M) 32 3 (m.1 32 3 + 1)).2 38 b = 0) := fun b => by
    have v := zerM_v ρ 12 0 M b
    rw [m2] at v
    exact ⟨fun hb => v.2 (Or.inl (by omega)), fun h1 h2 => v.1 (by omega) (by omega)⟩
  have gJ : (tI (zerM ρ 12 0 M) 32 3 (m.1 32 3 + 1)).2 32 = m.2 32 := by rw [tI_2, y1.2, m2]
  generalize tI (zerM ρ 12 0 M) 32 3 (m.1 32 3 + 1) = M' at gA g32 g3 g33 g35 g36 g37 g38 gJ ⊢
  generalize zer f 12 0 C = C' at eI f0 f1 f2 eD eJ eV ⊢
  have cρ : (nI ρ).toNatClampNeg = ρ := nI_clamp (by omega)
  refine ⟨⟨?_, ?_, ?_, ?_, ?_, ?_⟩, ?_, ?_⟩
  · refine wfC_new r1 hf (fun e he => by rw [eD]; exact nd.2 e he) (by rw [eD]; exact nd.1) (fun j _ hj => eI j hj) ?_ (eI 0 (by omega))
    unfold plOk pl
    rw [f2]
    have := in_lt hq
    exact ⟨by omega, in_nI hq (by decide)⟩
  · obtain ⟨w1, w2, w3, w4⟩ := r2
    refine ⟨fun x hx => ?_, fun x hx => ?_, by rw [g32 13 (by decide), gA 40 (by decide) (by decide) (by decide) (by decide) (by decide)]; exact w3, by rw [g32 15 (by decide)]; exact w4⟩
    · by_cases y : x = n
      · rw [y, g35.1]; exact vp_in_nI (by omega) (by decide)
      · rw [g35.2 x y]; exact w1 x hx
    · by_cases y : x = ρ
      · rw [y, g37.1]; exact hq
      · rw [g37.2 x y]; exact w2 x hx
  · refine RD_new r3 r1.1 (f := f) dl (by omega) fr (fun e he => by rw [eD]; exact nd.2 e he) (by rw [eD]; exact nd.1) (fun j _ hj => eI j hj) (fun j _ hj => eJ _ (by omega)) g33.2 (fun e _ => by rw [gA 34 (by decide) (by decide) (by decide) (by decide) (by decide)]) g35.2 (fun e he hne h2 => ?_) ?_ (fun _ e he hne h2 => ?_)
    · have lt := t3 e he h2
      exact ⟨g36.2 _ (by omega), g37.2 _ (by omega), fun i hi => (g38 _).1 (by omega)⟩
    · refine Or.inr (Or.inr ?_)
      rw [g35.1, cρ, eD, nd.1, g36.1, g37.1]
      refine ⟨g33.1, by omega, hk, f0, f1, f2, fun i hi => ?_⟩
      rw [eV i hi, (g38 _).2 (by omega) (by omega)]
    · have lt := t3 e he h2
      rw [g35.1]
      intro z
      rw [← z, cρ] at lt
      omega
  · unfold RH at *
    rw [eI 0 (by omega), g32 7 (by decide), g32 8 (by decide), eJ 0 (by omega), gJ]
    exact r4
  · obtain ⟨o1, o2, o3, o4, o5⟩ := r5
    refine ⟨by rw [eI 0 (by omega), g32 13 (by decide)]; exact o1, fun a b ha hb => by rw [eI _ (by omega), gA 40 (by decide) (by decide) (by decide) (by decide) (by decide)]; exact o2 a b ha hb, fun a => by rw [eI 4 (by omega), gA 41 (by decide) (by decide) (by decide) (by decide) (by decide)]; exact o3 a, by rw [eI 0 (by omega), g32 10 (by decide)]; exact o4, fun a ha h8 => ?_⟩
    rw [eI 0 (by omega)] at ha
    rw [eI _ (by omega)]
    exact o5 a ha h8
  · unfold RF at *
    rw [eI 0 (by omega), eI 5 (by omega), g32 11 (by decide), gA 39 (by decide) (by decide) (by decide) (by decide) (by decide)]
    exact r6
  · rw [eI 0 (by omega), g32 15 (by decide)]; exact h9
  · refine ⟨ρ + 1, by omega, g3, fun e he h2 => ?_⟩
    by_cases y : e = n
    · rw [y, g35.1, cρ]; omega
    · rw [g33.2 e y] at h2
      rw [g35.2 e y]
      have := t3 e he h2
      omega
theorem op_row (h : Inv c m t) (ht5 : t < 4000) {k q : Int32} : rRow d k q = hRow d k q ∧ Inv (sRow c d k q) (tRow m d k q) (t + 1) := by
  have b := bey_iff (x := k) (M := 6) (N := 6) (by decide)
  have b2 := bey_iff (x := q) (M := 12) (N := 12) (by decide)
  unfold rRow hRow sRow tRow
  by_cases hd : vp_in d 8
  · rw [if_neg (Dr_ne hd), if_pos (no_in hd), if_neg (Dr_ne hd), if_pos (no_in hd)]
    by_cases k0 : k < 0
    · rw [if_pos k0, if_neg (fun z => (b.mp z).1 k0), if_pos k0, if_neg (fun z => (b.mp z).1 k0)]
      exact ⟨rfl, h.same⟩
    rw [if_neg k0, if_neg k0]
    by_cases k6 : 6 < k
    · have n6 : ¬ k ≤ 6 := Int32.not_le.mpr k6
      rw [if_pos k6, if_neg (fun z => n6 (b.mp z).2), if_pos k6, if_neg (fun z => n6 (b.mp z).2)]
      exact ⟨rfl, h.same⟩
    have k6' : k ≤ 6 := Int32.not_lt.mp k6
    have bb := b.mpr ⟨k0, k6'⟩
    rw [if_neg k6, if_neg k6, if_pos bb, if_pos bb]
    by_cases q0 : q < 0
    · rw [if_pos q0, if_neg (fun z => (b2.mp z).1 q0), if_pos q0, if_neg (fun z => (b2.mp z).1 q0)]
      exact ⟨rfl, h.same⟩
    rw [if_neg q0, if_neg q0]
    by_cases q12 : q ≤ 12
    · have bq := b2.mpr ⟨q0, q12⟩
      rw [if_pos q12, if_pos q12, if_pos bq, if_pos bq]
      exact ⟨rfl, row_inv h ht5 (in_lt hd) (le_in (n := 6) k0 k6' (by decide)) (le_in (n := 12) q0 q12 (by decide))⟩
    · rw [if_neg q12, if_neg q12, if_neg (fun z => q12 (b2.mp z).2), if_neg (fun z => q12 (b2.mp z).2)]
      exact ⟨rfl, h.same⟩
  · have n := no_out hd
    rw [if_pos n.1, if_neg n.2, if_pos n.1, if_neg n.2]
    exact ⟨rfl, h.same⟩
theorem share_inv (h : Inv c m t) {n f : Nat} (dl : n < 8) (fl : f < 8) : Inv (sD c n (c.2.2 f)) (shr m n f) (t + 1) := by
  obtain ⟨⟨r1, r2, r3, r4, r5, r6⟩, h9, ρ, t1, t2, t3⟩ := h
  have e33 : ∀ e, (shr m n f).1 33 e = m.1 33 (if e = n then f else e) := fun e => by
    unfold shr
    rw [tI_r (by decide), tI_r (by decide)]
    split
    · rename_i q; rw [q, tI_s]
    · rename_i q; rw [tI_n q]
  have e34 : ∀ e, (shr m n f).1 34 e = m.1 34 (if e = n then f else e) := fun e => by
    unfold shr
    rw [tI_r (by decide)]
    split
    · rename_i q; rw [q, tI_s, tI_r (by decide)]
    · rename_i q; rw [tI_n q, tI_r (by decide)]
  have e35 : ∀ e, (shr m n f).1 35 e = m.1 35 (if e = n then f else e) := fun e => by
    unfold shr
    split
    · rename_i q; rw [q, tI_s, tI_r (by decide), tI_r (by decide)]
    · rename_i q; rw [tI_n q, tI_r (by decide), tI_r (by decide)]
  have eA : ∀ a, ¬ a = 33 → ¬ a = 34 → ¬ a = 35 → (shr m n f).1 a = m.1 a := fun a a1 a2 a3 => by
    unfold shr
    rw [tI_r a3, tI_r a2, tI_r a1]
  have e2 : (shr m n f).2 = m.2 := rfl
  have eD : ∀ e, (sD c n (c.2.2 f)).2.2 e = c.2.2 (if e = n then f else e) := fun e => by
    split
    · rename_i q; rw [q, sD_s]
    · rename_i q; rw [sD_n q]
  have gl : ∀ e, e < 8 → (if e = n then f else e) < 8 := fun e he => by split <;> omega
  generalize shr m n f = M' at e33 e34 e35 eA e2 ⊢
  refine ⟨⟨?_, ?_, ?_, ?_, ?_, ?_⟩, ?_, ?_⟩
  · obtain ⟨w1, w2, w3, w4⟩ := r1
    exact ⟨fun k hk => by rw [eD]; exact w1 _ (gl k hk), w2, w3, w4⟩
  · obtain ⟨w1, w2, w3, w4⟩ := r2
    exact ⟨fun x hx => by rw [e35]; exact w1 _ (gl x hx), fun x hx => by rw [eA 37 (by decide) (by decide) (by decide)]; exact w2 x hx, by rw [eA 32 (by decide) (by decide) (by decide), eA 40 (by decide) (by decide) (by decide)]; exact w3, by rw [eA 32 (by decide) (by decide) (by decide)]; exact w4⟩
  · refine ⟨r3.1, fun e he => ?_, fun a b ha hb h1 h2 => ?_⟩
    · have := r3.2.1 _ (gl e he)
      unfold RDd at *
      rw [eD, e33, e34, e35, eA 36 (by decide) (by decide) (by decide), eA 37 (by decide) (by decide) (by decide), e2]
      exact this
    · rw [eD, eD, e35, e35]
      rw [e33] at h1 h2
      exact r3.2.2 _ _ (gl a ha) (gl b hb) h1 h2
  · unfold RH at *
    rw [eA 32 (by decide) (by decide) (by decide), e2]
    exact r4
  · unfold RO at *
    rw [eA 32 (by decide) (by decide) (by decide), eA 40 (by decide) (by decide) (by decide), eA 41 (by decide) (by decide) (by decide)]
    exact r5
  · unfold RF at *
    rw [eA 32 (by decide) (by decide) (by decide), eA 39 (by decide) (by decide) (by decide)]
    exact r6
  · rw [eA 32 (by decide) (by decide) (by decide)]; exact h9
  · refine ⟨ρ, by omega, by rw [eA 32 (by decide) (by decide) (by decide)]; exact t2, fun e he h2 => ?_⟩
    rw [e33] at h2
    rw [e35]
    exact t3 _ (gl e he) h2
theorem op_share (h : Inv c m t) {f : Int32} : rShare d f = hShare d f ∧ Inv (sShare c d f) (tShare m d f) (t + 1) := by
  unfold rShare hShare sShare tShare
  by_cases hd : vp_in d 8
  · rw [if_neg (Dr_ne hd), if_pos (no_in hd), if_neg (Dr_ne hd), if_pos (no_in hd)]
    by_cases hf : vp_in f 8
    · rw [if_neg (Dr_ne hf), if_pos (no_in hf), if_neg (Dr_ne hf), if_pos (no_in hf)]
      exact ⟨rfl, share_inv h (in_lt hd) (in_lt hf)⟩
    · have n := no_out hf
      rw [if_pos n.1, if_neg n.2, if_pos n.1, if_neg n.2]
      exact ⟨rfl, h.same⟩
  · have n := no_out hd
    rw [if_pos n.1, if_neg n.2, if_pos n.1, if_neg n.2]
    exact ⟨rfl, h.same⟩
theorem clear_inv (h : Inv c m t) {n : Nat} (dl : n < 8) : Inv (sD c n 6) (tI m 33 n 0) (t + 1) := by
  obtain ⟨⟨r1, r2, r3, r4, r5, r6⟩, h9, ρ, t1, t2, t3⟩ := h
  refine ⟨⟨?_, ?_, ?_, ?_, ?_, ?_⟩, ?_, ?_⟩
  · obtain ⟨w1, w2, w3, w4⟩ := r1
    refine ⟨fun k hk => ?_, w2, w3, w4⟩
    by_cases q : k = n
    · rw [q, sD_s]; decide
    · rw [sD_n q]; exact w1 k hk
  · obtain ⟨w1, w2, w3, w4⟩ := r2
    exact ⟨fun x hx => by rw [tI_r (by decide)]; exact w1 x hx, fun x hx => by rw [tI_r (by decide)]; exact w2 x hx, by rw [tI_r (by decide), tI_r (by decide)]; exact w3, by rw [tI_r (by decide)]; exact w4⟩
  · refine ⟨r3.1, fun e he => ?_, fun a b ha hb h1 h2 => ?_⟩
    · by_cases q : e = n
      · rw [q]; exact Or.inl ⟨tI_s, sD_s⟩
      · have := r3.2.1 e he
        unfold RDd at *
        rw [sD_n q, tI_n q, tI_r (by decide), tI_r (by decide), tI_r (by decide), tI_r (by decide)]
        exact this
    · by_cases qa : a = n
      · rw [qa, tI_s] at h1; exact absurd h1 (by decide)
      by_cases qb : b = n
      · rw [qb, tI_s] at h2; exact absurd h2 (by decide)
      rw [tI_n qa] at h1
      rw [tI_n qb] at h2
      rw [sD_n qa, sD_n qb, tI_r (by decide)]
      exact r3.2.2 a b ha hb h1 h2
  · unfold RH at *
    rw [tI_r (by decide)]
    exact r4
  · unfold RO at *
    rw [tI_r (by decide), tI_r (by decide), tI_r (by decide)]
    exact r5
  · unfold RF at *
    rw [tI_r (by decide), tI_r (by decide)]
    exact r6
  · rw [tI_r (by decide)]; exact h9
  · refine ⟨ρ, by omega, by rw [tI_r (by decide)]; exact t2, fun e he h2 => ?_⟩
    by_cases q : e = n
    · rw [q, tI_s] at h2; exact absurd h2 (by decide)
    · rw [tI_n q] at h2
      rw [tI_r (by decide)]
      exact t3 e he h2
theorem op_clear (h : Inv c m t) : rClear c d = hClear m d ∧ Inv (sClear c d) (tClear m d) (t + 1) := by
  unfold rClear hClear sClear tClear
  by_cases hd : vp_in d 8
  · rw [if_neg (Dr_ne hd), if_pos (no_in hd), if_neg (Dr_ne hd), if_pos (no_in hd)]
    refine ⟨?_, clear_inv h (in_lt hd)⟩
    rcases h.1.2.2.1.2.1 _ (in_lt hd) with ⟨h1, h2⟩ | ⟨h1, h2, h3, h4⟩ | ⟨h1, h2, h3, h4, h5, h6, h7⟩
    · rw [if_pos h2, h1]; rfl
    · rw [if_neg h2, h1]; rfl
    · rw [if_neg h2, h1]; rfl
  · have n := no_out hd
    rw [if_pos n.1, if_neg n.2, if_pos n.1, if_neg n.2]
    exact ⟨rfl, h.same⟩
end OPS4
