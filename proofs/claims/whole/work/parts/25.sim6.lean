section OPS3
variable {c : zC} {m : zM} {t : Nat} {d i : Int32}
theorem RD_new {c c' : zC} {m m' : zM} (h : RD c m) (hk : ∀ k, k < 8 → kd (c.2.2 k) = 6) {d f : Nat} (hd : d < 8) (hf6 : ¬ f = 6) (hfree : ∀ e, e < 8 → ¬ e = d → ¬ c.2.2 e = f)
    (hD : ∀ e, ¬ e = d → c'.2.2 e = c.2.2 e) (hDd : c'.2.2 d = f) (hI : ∀ j, kd j = 6 → ¬ j = f → c'.1 j = c.1 j) (hJ : ∀ j, kd j = 6 → ¬ j = f → c'.2.1 (j + 9) = c.2.1 (j + 9))
    (m33 : ∀ e, ¬ e = d → m'.1 33 e = m.1 33 e) (m34 : ∀ e, ¬ e = d → m'.1 34 e = m.1 34 e) (m35 : ∀ e, ¬ e = d → m'.1 35 e = m.1 35 e)
    (mr : ∀ e, e < 8 → ¬ e = d → m.1 33 e = 2 → m'.1 36 (m.1 35 e).toNatClampNeg = m.1 36 (m.1 35 e).toNatClampNeg ∧ m'.1 37 (m.1 35 e).toNatClampNeg = m.1 37 (m.1 35 e).toNatClampNeg ∧ ∀ i, i < 12 → m'.2 38 (12 * (m.1 35 e).toNatClampNeg + i) = m.2 38 (12 * (m.1 35 e).toNatClampNeg + i))
    (new : RDd c' m' d) (fresh : m'.1 33 d = 2 → ∀ e, e < 8 → ¬ e = d → m.1 33 e = 2 → ¬ m'.1 35 d = m.1 35 e) : RD c' m' := by
  refine ⟨?_, fun e he => ?_, fun a b ha hb h1 h2 => ?_⟩
  · rw [hI 6 (by decide) (fun z => hf6 z.symm)]; exact h.1
  · by_cases q : e = d
    · rw [q]; exact new
    · have k6 := hk e he
      have nf := hfree e he q
      have := h.2.1 e he
      unfold RDd at *
      rw [hD e q, m33 e q, m34 e q, m35 e q, hI _ k6 nf, hJ _ k6 nf]
      rcases this with z | z | ⟨z1, z2, z3, z4, z5, z6, z7⟩
      · exact Or.inl z
      · exact Or.inr (Or.inl z)
      · obtain ⟨r1, r2, r3⟩ := mr e he q z1
        refine Or.inr (Or.inr ⟨z1, z2, by rw [r1]; exact z3, by rw [r1]; exact z4, z5, by rw [r2]; exact z6, fun i hi => by rw [r3 i hi]; exact z7 i hi⟩)
  · by_cases qa : a = d
    · by_cases qb : b = d
      · rw [qa, qb]; exact ⟨fun _ => rfl, fun _ => rfl⟩
      · rw [qa] at h1 ⊢
        rw [hDd, hD b qb, m35 b qb]
        rw [m33 b qb] at h2
        exact ⟨fun z => absurd z.symm (hfree b hb qb), fun z => absurd z (fresh h1 b hb qb h2)⟩
    · by_cases qb : b = d
      · rw [qb] at h2 ⊢
        rw [hDd, hD a qa, m35 a qa]
        rw [m33 a qa] at h1
        exact ⟨fun z => absurd z (hfree a ha qa), fun z => absurd z.symm (fresh h2 a ha qa h1)⟩
      · rw [hD a qa, hD b qb, m35 a qa, m35 b qb]
        rw [m33 a qa] at h1
        rw [m33 b qb] at h2
        exact h.2.2 a b ha hb h1 h2
theorem zer_1 (j : Nat) : ∀ (n k : Nat) (c : zC), (zer j n k c).1 = c.1 ∧ (zer j n k c).2.2 = c.2.2
  | 0, _, c => ⟨rfl, rfl⟩
  | n + 1, k, c => by
    unfold zer
    have := zer_1 j n (k + 1) (sJ c (j + 9) k 0)
    exact this
theorem zer_r (j : Nat) : ∀ (n k : Nat) (c : zC) (a : Nat), ¬ a = j + 9 → (zer j n k c).2.1 a = c.2.1 a
  | 0, _, c, _, _ => rfl
  | n + 1, k, c, a, h => by
    unfold zer
    rw [zer_r j n (k + 1) _ a h, sJ_r h]
theorem zer_v (j : Nat) : ∀ (n k : Nat) (c : zC) (b : Nat), (k ≤ b → b < k + n → (zer j n k c).2.1 (j + 9) b = 0) ∧ (b < k → (zer j n k c).2.1 (j + 9) b = c.2.1 (j + 9) b)
  | 0, k, c, b => ⟨fun h1 h2 => by omega, fun _ => rfl⟩
  | n + 1, k, c, b => by
    unfold zer
    have ih := zer_v j n (k + 1) (sJ c (j + 9) k 0) b
    refine ⟨fun h1 h2 => ?_, fun h1 => ?_⟩
    · by_cases q : b = k
      · rw [ih.2 (by omega), q, sJ_s]
      · exact ih.1 (by omega) (by omega)
    · rw [ih.2 (by omega), sJ_n (by omega)]
theorem zerM_1 (r : Nat) : ∀ (n k : Nat) (m : zM), (zerM r n k m).1 = m.1 ∧ (zerM r n k m).2 32 = m.2 32
  | 0, _, m => ⟨rfl, rfl⟩
  | n + 1, k, m => by
    unfold zerM
    have := zerM_1 r n (k + 1) (tJ m 38 (12 * r + k) 0)
    rw [tJ_r (by decide)] at this
    exact this
theorem zerM_v (r : Nat) : ∀ (n k : Nat) (m : zM) (b : Nat), (12 * r + k ≤ b → b < 12 * r + k + n → (zerM r n k m).2 38 b = 0) ∧ ((b < 12 * r + k ∨ 12 * r + k + n ≤ b) → (zerM r n k m).2 38 b = m.2 38 b)
  | 0, k, m, b => ⟨fun h1 h2 => by omega, fun _ => rfl⟩
  | n + 1, k, m, b => by
    unfold zerM
    have ih := zerM_v r n (k + 1) (tJ m 38 (12 * r + k) 0) b
    refine ⟨fun h1 h2 => ?_, fun h1 => ?_⟩
    · by_cases q : b = 12 * r + k
      · rw [ih.2 (by omega), q, tJ_s]
      · exact ih.1 (by omega) (by omega)
    · rw [ih.2 (by omega), tJ_n (by omega)]
/-- a fresh content: what stays -/
theorem newC_D (c : zC) (d : Nat) : (newC c d).2.2 d = nFree c d ∧ ∀ e, ¬ e = d → (newC c d).2.2 e = c.2.2 e := by
  refine ⟨?_, fun e he => ?_⟩
  · unfold newC; rw [sD_s]
  · unfold newC; rw [sD_n he, sD_n he]
theorem free_e {c : zC} (h : ∀ k, k < 8 → kd (c.2.2 k) = 6) {d : Nat} (hd : d < 8) : ∀ e, e < 8 → ¬ e = d → ¬ c.2.2 e = nFree c d := by
  intro e he q
  have := nFree_free h hd e he
  rw [sD_n q] at this
  exact this
theorem wfC_new {c c' : zC} (w : wfC c) {d f : Nat} (hf : kd f = 6) (hD : ∀ e, ¬ e = d → c'.2.2 e = c.2.2 e) (hDd : c'.2.2 d = f) (hI : ∀ j, kd j = 6 → ¬ j = f → c'.1 j = c.1 j) (hp : plOk c' f) (h0 : c'.1 0 = c.1 0) : wfC c' := by
  obtain ⟨w1, w2, w3, w4⟩ := w
  refine ⟨fun k hk => ?_, fun j hj => ?_, by rw [h0]; exact w3, by rw [h0]; exact w4⟩
  · by_cases q : k = d
    · rw [q, hDd]; exact hf
    · rw [hD k q]; exact w1 k hk
  · by_cases q : j = f
    · rw [q]; exact hp
    · have := w2 j hj
      unfold plOk pl at *
      rw [hI j hj q]; exact this
theorem op_note (h : Inv c m t) {v : Int32} : rNote d = hNote d ∧ Inv (sNote c d v) (tNote m d v) (t + 1) := by
  by_cases hd : vp_in d 8
  · unfold rNote hNote sNote tNote
    rw [if_neg (Dr_ne hd), if_pos (no_in hd), if_neg (Dr_ne hd), if_pos (no_in hd)]
    refine ⟨rfl, ?_⟩
    obtain ⟨⟨r1, r2, r3, r4, r5, r6⟩, h9, ht⟩ := h
    have dl := in_lt hd
    generalize d.toNatClampNeg = n at dl ⊢
    have hf := nFree_in c n
    have hf7 := nFree_7 c n
    have fr := free_e r1.1 dl
    have nd := newC_D c n
    generalize nFree c n = f at hf hf7 fr nd ⊢
    have f6 := kd6 hf
    have eI : ∀ j, ¬ j = f → (bNote (newC c n) f v).1 j = c.1 j := fun j hj => by unfold bNote; rw [sI_r hj, sI_r hj]; rfl
    have eD : (bNote (newC c n) f v).2 = (newC c n).2 := rfl
    have eJ : (newC c n).2.1 = c.2.1 := rfl
    refine ⟨⟨?_, ?_, ?_, ?_, ?_, ?_⟩, ?_, ?_⟩
    · refine wfC_new r1 hf (fun e he => nd.2 e he) nd.1 (fun j _ hj => eI j hj) ?_ (eI 0 (by omega))
      have := r1.2.1 f hf
      unfold plOk pl at *
      have e2 : (bNote (newC c n) f v).1 f 2 = c.1 f 2 := by unfold bNote; rw [sI_n (by decide), sI_n (by decide)]; rfl
      rw [e2]; exact this
    · obtain ⟨w1, w2, w3, w4⟩ := r2
      exact ⟨fun x hx => by rw [tI_r (by decide), tI_r (by decide)]; exact w1 x hx, fun x hx => by rw [tI_r (by decide), tI_r (by decide)]; exact w2 x hx, by rw [tI_r (by decide), tI_r (by decide), tI_r (by decide), tI_r (by decide)]; exact w3, by rw [tI_r (by decide), tI_r (by decide)]; exact w4⟩
    · refine RD_new r3 r1.1 (f := f) dl (by omega) fr (fun e he => nd.2 e he) nd.1 (fun j _ hj => eI j hj) (fun j _ _ => rfl) (fun e he => by rw [tI_r (by decide), tI_n he]) (fun e he => by rw [tI_n he, tI_r (by decide)]) (fun e he => by rw [tI_r (by decide), tI_r (by decide)]) (fun e _ _ _ => by rw [tI_r (by decide), tI_r (by decide), tI_r (by decide), tI_r (by decide)]; exact ⟨rfl, rfl, fun _ _ => rfl⟩) ?_ (fun z => ?_)
      · refine Or.inr (Or.inl ⟨by rw [tI_r (by decide), tI_s], ?_, ?_, ?_⟩)
        · show ¬ (newC c n).2.2 n = 6
          rw [nd.1]; omega
        · show (bNote (newC c n) f v).1 ((newC c n).2.2 n) 0 = 1
          rw [nd.1]; unfold bNote; rw [sI_n (by decide), sI_s]
        · show (bNote (newC c n) f v).1 ((newC c n).2.2 n) 1 = _
          rw [nd.1]; unfold bNote; rw [sI_s, tI_s]
      · rw [tI_r (by decide), tI_s] at z
        exact absurd z (by decide)
    · unfold RH at *
      rw [eI 0 (by omega), tI_r (by decide), tI_r (by decide)]
      exact r4
    · obtain ⟨o1, o2, o3, o4, o5⟩ := r5
      refine ⟨by rw [eI 0 (by omega), tI_r (by decide), tI_r (by decide)]; exact o1, fun k q hk hq => by rw [eI _ (by omega), tI_r (by decide), tI_r (by decide)]; exact o2 k q hk hq, fun k => by rw [eI 4 (by omega), tI_r (by decide), tI_r (by decide)]; exact o3 k, by rw [eI 0 (by omega), tI_r (by decide), tI_r (by decide)]; exact o4, fun k hk h8 => ?_⟩
      rw [eI 0 (by omega)] at hk
      rw [eI _ (by omega)]
      exact o5 k hk h8
    · unfold RF at *
      rw [eI 0 (by omega), eI 5 (by omega), tI_r (by decide), tI_r (by decide), tI_r (by decide), tI_r (by decide)]
      exact r6
    · rw [eI 0 (by omega), tI_r (by decide), tI_r (by decide)]; exact h9
    · obtain ⟨q, n1, n2, n3⟩ := ht
      refine ⟨q, by omega, by rw [tI_r (by decide), tI_r (by decide)]; exact n2, fun e he z => ?_⟩
      rw [tI_r (by decide)] at z
      rw [tI_r (by decide), tI_r (by decide)]
      by_cases y : e = n
      · rw [y, tI_s] at z; exact absurd z (by decide)
      · rw [tI_n y] at z; exact n3 e he z
  · have n := no_out hd
    unfold rNote hNote sNote tNote
    rw [if_pos n.1, if_neg n.2, if_pos n.1, if_neg n.2]
    exact ⟨rfl, h.same⟩
end OPS3
