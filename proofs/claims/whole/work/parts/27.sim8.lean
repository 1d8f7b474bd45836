section OPS5
variable {c : zC} {m : zM} {t : Nat} {d i : Int32}
theorem card_rel (r : Rel c m) {n : Nat} (hn : n ≤ 30) : Rel (sI c 0 5 (nI n)) (tI m 32 10 (nI n)) := by
  obtain ⟨r1, r2, r3, r4, r5, r6⟩ := r
  have eI : ∀ j, ¬ j = 0 → (sI c 0 5 (nI n)).1 j = c.1 j := fun j hj => sI_r hj
  refine ⟨?_, ?_, ?_, ?_, ?_, ?_⟩
  · obtain ⟨w1, w2, w3, w4⟩ := r1
    refine ⟨w1, fun j hj => ?_, by rw [sI_n (by decide)]; exact w3, by rw [sI_n (by decide)]; exact w4⟩
    have := w2 j hj
    have k6 := kd6 hj
    unfold plOk pl at *
    rw [eI j (by omega)]; exact this
  · obtain ⟨w1, w2, w3, w4⟩ := r2
    exact ⟨fun x hx => by rw [tI_r (by decide)]; exact w1 x hx, fun x hx => by rw [tI_r (by decide)]; exact w2 x hx, by rw [tI_n (by decide), tI_r (by decide)]; exact w3, by rw [tI_n (by decide)]; exact w4⟩
  · refine RDd_cong (c := c) (m := m) rfl (fun j k hj => ?_) (fun _ _ => rfl) (tI_r (by decide)) (tI_r (by decide)) (tI_r (by decide)) (tI_r (by decide)) (tI_r (by decide)) rfl r1.1 r3
    have k6 := kd6 hj
    rw [eI j (by omega)]
  · unfold RH at *
    rw [sI_n (by decide), tI_n (by decide), tI_n (by decide)]
    exact r4
  · obtain ⟨o1, o2, o3, o4, o5⟩ := r5
    refine ⟨by rw [sI_n (by decide), tI_n (by decide)]; exact o1, fun a b ha hb => by rw [eI _ (by omega), tI_r (by decide)]; exact o2 a b ha hb, fun a => by rw [eI 4 (by decide), tI_r (by decide)]; exact o3 a, by rw [sI_s, tI_s]; exact ⟨rfl, n, hn, rfl⟩, fun a ha h8 => ?_⟩
    rw [sI_n (by decide)] at ha
    rw [eI _ (by omega)]
    exact o5 a ha h8
  · unfold RF at *
    rw [sI_n (by decide), tI_n (by decide), eI 5 (by decide), tI_r (by decide)]
    exact r6
theorem op_card (h : Inv c m t) : rCard c = hCard m ∧ Inv (sCard c) (tCard m) (t + 1) := by
  obtain ⟨r, h9, ht⟩ := h
  obtain ⟨o5, n, hn, e⟩ := r.2.2.2.2.1.2.2.2.1
  unfold rCard hCard sCard tCard
  rw [← o5, e]
  by_cases q : n = 30
  · have n1 : ¬ nI n < 30 := by rw [q]; decide
    have n2 : nI n = 30 := by rw [q]; rfl
    rw [if_neg n1, if_pos n2, if_neg n1, if_pos n2]
    exact ⟨rfl, Inv.same ⟨r, h9, ht⟩⟩
  · have n1 : nI n < 30 := nI_lt (b := 30) (by omega) (by decide)
    have n2 : ¬ nI n = 30 := fun z => q (nI_inj8 (b := 30) z (by omega) (by decide))
    rw [if_pos n1, if_neg n2, if_pos n1, if_neg n2, nI_1]
    refine ⟨rfl, ?_⟩
    have r' := card_rel r (n := n + 1) (by omega)
    have v0 : ¬ (nI (n + 1)).toInt64 = 0 := by
      rw [nI_l (by omega)]
      intro z
      have := (lN_eq (a := n + 1) (b := 0) (by omega) (by omega)).mp z
      omega
    generalize hC : sI c 0 5 (nI (n + 1)) = C at r' ⊢
    generalize hM : tI m 32 10 (nI (n + 1)) = M at r' ⊢
    have sm : Sm M (tJ (tI (tI M 32 7 1) 32 8 6) 32 9 (nI (n + 1)).toInt64) := (Sm.i32 M 7 1 (by simp)).tr ((Sm.i32 _ 8 6 (by simp)).tr (Sm.j _ 32 9 _))
    have sk := Sk.hold C 6 (nI (n + 1)).toInt64
    have i1 : Inv C M t := by
      refine ⟨r', by rw [← hC, ← hM, sI_n (by decide), tI_n (by decide)]; exact h9, ?_⟩
      obtain ⟨ρ, t1, t2, t3⟩ := ht
      refine ⟨ρ, t1, by rw [← hM, tI_n (by decide)]; exact t2, ?_⟩
      rw [← hM, tI_r (by decide), tI_r (by decide)]
      exact t3
    refine i1.up (Rel_of r' sk sm (by simp [tJ_1, tI_r]) (fun j hj => ?_) (by rw [tJ_r (by decide)]; rfl) ?_ ?_) sk sm
    · unfold hold; rw [sJ_r (kd5_0 hj)]; rfl
    · refine Or.inr ⟨by simp [tJ_1, tI_n, tI_s], by simp [hold, sJ_1, sI_s, tJ_1, tI_s], by simp only [tJ_1, tI_s]; exact vp_in_iff.mpr (by decide), by simp [hold, sJ_s, tJ_s], ?_⟩
      simp only [tJ_1, tI_s, tJ_s]
      exact fun _ => v0
    · obtain ⟨f1, f2⟩ := r'.2.2.2.2.2
      exact ⟨by simpa [hold, sJ_1, sI_n, tJ_1, tI_n] using f1, fun q => by simpa [hold, sJ_1, sI_r, tJ_1, tI_r] using f2 q⟩
theorem wr_r {o x : Nat} {op a i b j : Int32} (h : ¬ x = o) : (wr c o op a i b j).1 x = c.1 x := by
  unfold wr
  rw [sI_r h, sI_r h, sI_r h, sI_r h, sI_r h]
theorem wr_at (o : Nat) (op a i b j : Int32) : (wr c o op a i b j).1 o 0 = op ∧ (wr c o op a i b j).1 o 1 = a ∧ (wr c o op a i b j).1 o 2 = i ∧ (wr c o op a i b j).1 o 3 = b ∧ (wr c o op a i b j).1 o 4 = j := by
  unfold wr
  refine ⟨?_, ?_, ?_, ?_, ?_⟩
  · rw [sI_n (by decide), sI_n (by decide), sI_n (by decide), sI_n (by decide), sI_s]
  · rw [sI_n (by decide), sI_n (by decide), sI_n (by decide), sI_s]
  · rw [sI_n (by decide), sI_n (by decide), sI_s]
  · rw [sI_n (by decide), sI_s]
  · rw [sI_s]
theorem wrM_r {n x : Nat} {op a i b j : Int32} (h : ¬ x = 40) : (wrM m n op a i b j).1 x = m.1 x := by
  unfold wrM
  rw [tI_r h, tI_r h, tI_r h, tI_r h, tI_r h]
theorem wrM_n {n x : Nat} {op a i b j : Int32} (h : x < 5 * n ∨ 5 * n + 4 < x) : (wrM m n op a i b j).1 40 x = m.1 40 x := by
  unfold wrM
  rw [tI_n (by omega), tI_n (by omega), tI_n (by omega), tI_n (by omega), tI_n (by omega)]
theorem wrM_at (n : Nat) (op a i b j : Int32) : (wrM m n op a i b j).1 40 (5 * n) = op ∧ (wrM m n op a i b j).1 40 (5 * n + 1) = a ∧ (wrM m n op a i b j).1 40 (5 * n + 2) = i ∧ (wrM m n op a i b j).1 40 (5 * n + 3) = b ∧ (wrM m n op a i b j).1 40 (5 * n + 4) = j := by
  unfold wrM
  refine ⟨?_, ?_, ?_, ?_, ?_⟩
  · rw [tI_n (by omega), tI_n (by omega), tI_n (by omega), tI_n (by omega), tI_s]
  · rw [tI_n (by omega), tI_n (by omega), tI_n (by omega), tI_s]
  · rw [tI_n (by omega), tI_n (by omega), tI_s]
  · rw [tI_n (by omega), tI_s]
  · rw [tI_s]
theorem ord_inv (h : Inv c m t) {n : Nat} (h8 : n < 8) (e7 : c.1 0 7 = nI n) {op a i b j : Int32} (ha : vp_in a 8) (hb : vp_in b 8) (hi : ¬ isTi i = 0) (hj : ¬ isTi j = 0) : Inv (sI (wr c (24 + n) op a i b j) 0 7 (nI (n + 1))) (tI (wrM m n op a i b j) 32 13 (nI (n + 1))) (t + 1) := by
  obtain ⟨⟨r1, r2, r3, r4, r5, r6⟩, h9, ρ, t1, t2, t3⟩ := h
  have wa := wr_at (c := c) (24 + n) op a i b j
  have wm := wrM_at (m := m) n op a i b j
  have eI : ∀ x, ¬ x = 0 → ¬ x = 24 + n → (sI (wr c (24 + n) op a i b j) 0 7 (nI (n + 1))).1 x = c.1 x := fun x hx hx2 => by rw [sI_r hx, wr_r hx2]
  have e0 : ∀ q, ¬ q = 7 → (sI (wr c (24 + n) op a i b j) 0 7 (nI (n + 1))).1 0 q = c.1 0 q := fun q hq => by rw [sI_n hq, wr_r (by omega)]
  have eN : ∀ q, (sI (wr c (24 + n) op a i b j) 0 7 (nI (n + 1))).1 (24 + n) q = (wr c (24 + n) op a i b j).1 (24 + n) q := fun q => by rw [sI_r (by omega)]
  have e07 : (sI (wr c (24 + n) op a i b j) 0 7 (nI (n + 1))).1 0 7 = nI (n + 1) := sI_s
  have gA : ∀ x, ¬ x = 32 → ¬ x = 40 → (tI (wrM m n op a i b j) 32 13 (nI (n + 1))).1 x = m.1 x := fun x hx hx2 => by rw [tI_r hx, wrM_r hx2]
  have g32 : ∀ q, ¬ q = 13 → (tI (wrM m n op a i b j) 32 13 (nI (n + 1))).1 32 q = m.1 32 q := fun q hq => by rw [tI_n hq, wrM_r (by decide)]
  have g13 : (tI (wrM m n op a i b j) 32 13 (nI (n + 1))).1 32 13 = nI (n + 1) := tI_s
  have g40 : ∀ x, (tI (wrM m n op a i b j) 32 13 (nI (n + 1))).1 40 x = (wrM m n op a i b j).1 40 x := fun x => by rw [tI_r (by decide)]
  have e2 : (sI (wr c (24 + n) op a i b j) 0 7 (nI (n + 1))).2 = c.2 := rfl
  have g2 : (tI (wrM m n op a i b j) 32 13 (nI (n + 1))).2 = m.2 := rfl
  generalize tI (wrM m n op a i b j) 32 13 (nI (n + 1)) = M' at gA g32 g13 g40 g2 ⊢
  generalize sI (wr c (24 + n) op a i b j) 0 7 (nI (n + 1)) = C' at eI e0 eN e07 e2 ⊢
  obtain ⟨o1, o2, o3, o4, o5⟩ := r5
  have n13 : m.1 32 13 = nI n := by rw [← o1]; exact e7
  refine ⟨⟨?_, ?_, ?_, ?_, ?_, ?_⟩, ?_, ?_⟩
  · obtain ⟨w1, w2, w3, w4⟩ := r1
    refine ⟨by rw [e2]; exact w1, fun x hx => ?_, ⟨n + 1, by omega, e07⟩, by rw [e0 9 (by decide)]; exact w4⟩
    have := w2 x hx
    have k6 := kd6 hx
    unfold plOk pl at *
    rw [eI x (by omega) (by omega)]; exact this
  · obtain ⟨w1, w2, w3, w4⟩ := r2
    refine ⟨fun x hx => by rw [gA 35 (by decide) (by decide)]; exact w1 x hx, fun x hx => by rw [gA 37 (by decide) (by decide)]; exact w2 x hx, ⟨n + 1, by omega, g13, fun k hk => ?_⟩, by rw [g32 15 (by decide)]; exact w4⟩
    obtain ⟨n', s1, s2, s3⟩ := w3
    have en : n' = n := nI_inj8 (by rw [← s2]; exact n13) (by omega) (by omega)
    rw [g40, g40]
    by_cases y : k = n
    · rw [y, wm.2.1, wm.2.2.2.1]; exact ⟨ha, hb⟩
    · rw [wrM_n (by omega), wrM_n (by omega)]
      exact s3 k (by omega)
  · refine RDd_cong (c := c) (m := m) (by rw [e2]) (fun x k hx => ?_) (fun x _ => by rw [e2]) (gA 33 (by decide) (by decide)) (gA 34 (by decide) (by decide)) (gA 35 (by decide) (by decide)) (gA 36 (by decide) (by decide)) (gA 37 (by decide) (by decide)) (by rw [g2]) r1.1 r3
    have k6 := kd6 hx
    rw [eI x (by omega) (by omega)]
  · unfold RH at *
    rw [e0 3 (by decide), e2, g32 7 (by decide), g32 8 (by decide), g2]
    exact r4
  · refine ⟨by rw [e07, g13], fun k q hk hq => ?_, fun k => by rw [eI 4 (by decide) (by omega), gA 41 (by decide) (by decide)]; exact o3 k, by rw [e0 5 (by decide), g32 10 (by decide)]; exact o4, fun k hk h8' => ?_⟩
    · rw [g40]
      by_cases y : k = n
      · rw [y, eN]
        have : q = 0 ∨ q = 1 ∨ q = 2 ∨ q = 3 ∨ q = 4 := by omega
        rcases this with rfl | rfl | rfl | rfl | rfl
        · exact wa.1.trans wm.1.symm
        · exact wa.2.1.trans wm.2.1.symm
        · exact wa.2.2.1.trans wm.2.2.1.symm
        · exact wa.2.2.2.1.trans wm.2.2.2.1.symm
        · exact wa.2.2.2.2.trans wm.2.2.2.2.symm
      · rw [eI _ (by omega) (by omega), wrM_n (by omega)]
        exact o2 k q hk hq
    · rw [e07, nI_clamp (by omega)] at hk
      by_cases y : k = n
      · rw [y, eN, eN, wa.2.2.1, wa.2.2.2.2]; exact ⟨hi, hj⟩
      · rw [eI _ (by omega) (by omega)]
        exact o5 k (by rw [e7, nI_clamp (by omega)]; omega) h8'
  · unfold RF at *
    rw [e0 10 (by decide), g32 11 (by decide), eI 5 (by decide) (by omega), gA 39 (by decide) (by decide)]
    exact r6
  · rw [e0 9 (by decide), g32 15 (by decide)]; exact h9
  · refine ⟨ρ, by omega, by rw [g32 3 (by decide)]; exact t2, ?_⟩
    rw [gA 33 (by decide) (by decide), gA 35 (by decide) (by decide)]
    exact t3
theorem op_order (h : Inv c m t) {op a i b j : Int32} : rOrd c op a i b j = hOrd m op a i b j ∧ Inv (sOrd c op a i b j) (tOrd m op a i b j) (t + 1) := by
  have bo := bey_iff (x := op) (M := 4) (N := 4) (by decide)
  obtain ⟨n, hn, e13, -⟩ := h.1.2.1.2.2.1
  have e7 : c.1 0 7 = nI n := by rw [← e13]; exact h.1.2.2.2.2.1.1
  unfold rOrd hOrd sOrd tOrd
  by_cases ha : vp_in a 8
  · rw [if_neg (Dr_ne ha), if_pos (no_in ha), if_neg (Dr_ne ha), if_pos (no_in ha)]
    by_cases hb : vp_in b 8
    · rw [if_neg (Dr_ne hb), if_pos (no_in hb), if_neg (Dr_ne hb), if_pos (no_in hb)]
      by_cases k0 : op < 0
      · rw [if_pos k0, if_neg (fun z => (bo.mp z).1 k0), if_pos k0, if_neg (fun z => (bo.mp z).1 k0)]
        exact ⟨rfl, h.same⟩
      rw [if_neg k0, if_neg k0]
      by_cases k6 : 4 < op
      · have n6 : ¬ op ≤ 4 := Int32.not_le.mpr k6
        rw [if_pos k6, if_neg (fun z => n6 (bo.mp z).2), if_pos k6, if_neg (fun z => n6 (bo.mp z).2)]
        exact ⟨rfl, h.same⟩
      have bb := bo.mpr ⟨k0, Int32.not_lt.mp k6⟩
      rw [if_neg k6, if_neg k6, if_pos bb, if_pos bb]
      by_cases q1 : isTi i = 0
      · rw [if_pos q1, if_neg ((isTi_iff i).mp q1), if_pos q1, if_neg ((isTi_iff i).mp q1)]
        exact ⟨rfl, h.same⟩
      have i1 := Classical.not_not.mp (fun z => q1 ((isTi_iff i).mpr z))
      rw [if_neg q1, if_pos i1, if_neg q1, if_pos i1]
      by_cases q2 : isTi j = 0
      · rw [if_pos q2, if_neg ((isTi_iff j).mp q2), if_pos q2, if_neg ((isTi_iff j).mp q2)]
        exact ⟨rfl, h.same⟩
      have i2 := Classical.not_not.mp (fun z => q2 ((isTi_iff j).mpr z))
      rw [if_neg q2, if_pos i2, if_neg q2, if_pos i2]
      by_cases q8 : n = 8
      · have n1 : ¬ c.1 0 7 < 8 := by rw [e7, q8]; decide
        have n2 : m.1 32 13 = 8 := by rw [e13, q8]; rfl
        rw [if_neg n1, if_pos n2, if_neg n1, if_pos n2]
        exact ⟨rfl, h.same⟩
      · have n1 : c.1 0 7 < 8 := by rw [e7]; exact nI_lt (b := 8) (by omega) (by decide)
        have n2 : ¬ m.1 32 13 = 8 := by rw [e13]; exact fun z => q8 (nI_inj8 (b := 8) z (by omega) (by decide))
        have w7 : (wr c (24 + (c.1 0 7).toNatClampNeg) op a i b j).1 0 7 = c.1 0 7 := by rw [wr_r (by omega)]
        rw [if_pos n1, if_neg n2, if_pos n1, if_neg n2, w7, e7, e13, nI_clamp (by omega), nI_1]
        exact ⟨rfl, ord_inv h (by omega) e7 ha hb q1 q2⟩
    · have n := no_out hb
      rw [if_pos n.1, if_neg n.2, if_pos n.1, if_neg n.2]
      exact ⟨rfl, h.same⟩
  · have n := no_out ha
    rw [if_pos n.1, if_neg n.2, if_pos n.1, if_neg n.2]
    exact ⟨rfl, h.same⟩
end OPS5
