def pW (y : Nat → ClassId) (w : (Nat → Nat) × (Nat → va_E)) : Prop := (w.2 0 = .inr (2, [.ref (w.1 1), .ref (w.1 3), .ref (w.1 4), .int (-9), .long 0, .int 0, .ref (w.1 21), .int 0, .ref (w.1 30), .int 0, .int 0, .ref (w.1 31)])) ∧ (w.2 1 = .inr (0, [.int 0, .int 0, .int 0, .ref (w.1 2)])) ∧ (w.2 2 = .inl (y 1, 12, .inr (.inl (fun _ => 0)))) ∧ (w.2 3 = .inl (y 2, 8, .inr (.inr (.inr (.inr (va_up (va_up (va_up (va_up (va_up (va_up (va_up (va_up (fun _ => none) 0 (some (w.1 1))) 1 (some (w.1 1))) 2 (some (w.1 1))) 3 (some (w.1 1))) 4 (some (w.1 1))) 5 (some (w.1 1))) 6 (some (w.1 1))) 7 (some (w.1 1)))))))) ∧ (w.2 4 = .inl (y 2, 8, .inr (.inr (.inr (.inr (va_up (va_up (va_up (va_up (va_up (va_up (va_up (va_up (fun _ => none) 0 (some (w.1 5))) 1 (some (w.1 7))) 2 (some (w.1 9))) 3 (some (w.1 11))) 4 (some (w.1 13))) 5 (some (w.1 15))) 6 (some (w.1 17))) 7 (some (w.1 19)))))))) ∧ (w.2 5 = .inr (0, [.int 0, .int 0, .int 0, .ref (w.1 6)])) ∧ (w.2 6 = .inl (y 1, 12, .inr (.inl (fun _ => 0)))) ∧ (w.2 7 = .inr (0, [.int 0, .int 0, .int 0, .ref (w.1 8)])) ∧ (w.2 8 = .inl (y 1, 12, .inr (.inl (fun _ => 0)))) ∧ (w.2 9 = .inr (0, [.int 0, .int 0, .int 0, .ref (w.1 10)])) ∧ (w.2 10 = .inl (y 1, 12, .inr (.inl (fun _ => 0)))) ∧ (w.2 11 = .inr (0, [.int 0, .int 0, .int 0, .ref (w.1 12)])) ∧ (w.2 12 = .inl (y 1, 12, .inr (.inl (fun _ => 0)))) ∧ (w.2 13 = .inr (0, [.int 0, .int 0, .int 0, .ref (w.1 14)])) ∧ (w.2 14 = .inl (y 1, 12, .inr (.inl (fun _ => 0)))) ∧ (w.2 15 = .inr (0, [.int 0, .int 0, .int 0, .ref (w.1 16)])) ∧ (w.2 16 = .inl (y 1, 12, .inr (.inl (fun _ => 0)))) ∧ (w.2 17 = .inr (0, [.int 0, .int 0, .int 0, .ref (w.1 18)])) ∧ (w.2 18 = .inl (y 1, 12, .inr (.inl (fun _ => 0)))) ∧ (w.2 19 = .inr (0, [.int 0, .int 0, .int 0, .ref (w.1 20)])) ∧ (w.2 20 = .inl (y 1, 12, .inr (.inl (fun _ => 0)))) ∧ (w.2 21 = .inl (y 3, 8, .inr (.inr (.inr (.inr (va_up (va_up (va_up (va_up (va_up (va_up (va_up (va_up (fun _ => none) 0 (some (w.1 22))) 1 (some (w.1 23))) 2 (some (w.1 24))) 3 (some (w.1 25))) 4 (some (w.1 26))) 5 (some (w.1 27))) 6 (some (w.1 28))) 7 (some (w.1 29)))))))) ∧ (w.2 22 = .inr (1, [.int 0, .int 0, .int 0, .int 0, .int 0])) ∧ (w.2 23 = .inr (1, [.int 0, .int 0, .int 0, .int 0, .int 0])) ∧ (w.2 24 = .inr (1, [.int 0, .int 0, .int 0, .int 0, .int 0])) ∧ (w.2 25 = .inr (1, [.int 0, .int 0, .int 0, .int 0, .int 0])) ∧ (w.2 26 = .inr (1, [.int 0, .int 0, .int 0, .int 0, .int 0])) ∧ (w.2 27 = .inr (1, [.int 0, .int 0, .int 0, .int 0, .int 0])) ∧ (w.2 28 = .inr (1, [.int 0, .int 0, .int 0, .int 0, .int 0])) ∧ (w.2 29 = .inr (1, [.int 0, .int 0, .int 0, .int 0, .int 0])) ∧ (w.2 30 = .inl (y 0, 8, .inl (fun _ => 0))) ∧ (w.2 31 = .inl (y 0, 5, .inl (fun _ => 0))) ∧ (w.2 32 = .inr (3, [.ref (w.1 33), .ref (w.1 34), .ref (w.1 35), .int 0, .ref (w.1 36), .ref (w.1 37), .ref (w.1 38), .int 0, .int 0, .long 0, .int 0, .int 0, .ref (w.1 39), .int 0, .ref (w.1 40), .int 0, .ref (w.1 41), .int 0])) ∧ (w.2 33 = .inl (y 0, 8, .inl (fun _ => 0))) ∧ (w.2 34 = .inl (y 0, 8, .inl (fun _ => 0))) ∧ (w.2 35 = .inl (y 0, 8, .inl (fun _ => 0))) ∧ (w.2 36 = .inl (y 0, 5000, .inl (fun _ => 0))) ∧ (w.2 37 = .inl (y 0, 5000, .inl (fun _ => 0))) ∧ (w.2 38 = .inl (y 1, 60000, .inr (.inl (fun _ => 0)))) ∧ (w.2 39 = .inl (y 0, 5, .inl (fun _ => 0))) ∧ (w.2 40 = .inl (y 0, 40, .inl (fun _ => 0))) ∧ (w.2 41 = .inl (y 0, 8, .inl (fun _ => 0)))
set_option maxRecDepth 100000 in
set_option maxHeartbeats 4000000 in
theorem pW_of {y : Nat → ClassId} {a0 b0 : Nat} {u w : (Nat → Nat) × (Nat → va_E)} (hC : pC y a0 u) (hM : pM y u.1 u.2 b0 w) : pW y w := by
  obtain ⟨-, c0, c1, c2, c3, c4, c5, c6, c7, c8, c9, c10, c11, c12, c13, c14, c15, c16, c17, c18, c19, c20, c21, c22, c23, c24, c25, c26, c27, c28, c29, c30, c31⟩ := hC
  obtain ⟨hk, -, m32, m33, m34, m35, m36, m37, m38, m39, m40, m41⟩ := hM
  have e1 : ∀ i, i < 32 → u.1 i = w.1 i := fun i hi => (hk i hi).1.symm
  have e2 : ∀ i, i < 32 → w.2 i = u.2 i := fun i hi => (hk i hi).2
  exact ⟨by rw [e2 0 (by decide), c0, e1 1 (by decide), e1 3 (by decide), e1 4 (by decide), e1 21 (by decide), e1 30 (by decide), e1 31 (by decide)], by rw [e2 1 (by decide), c1, e1 2 (by decide)], by rw [e2 2 (by decide), c2], by rw [e2 3 (by decide), c3, e1 1 (by decide)], by rw [e2 4 (by decide), c4, e1 5 (by decide), e1 7 (by decide), e1 9 (by decide), e1 11 (by decide), e1 13 (by decide), e1 15 (by decide), e1 17 (by decide), e1 19 (by decide)], by rw [e2 5 (by decide), c5, e1 6 (by decide)], by rw [e2 6 (by decide), c6], by rw [e2 7 (by decide), c7, e1 8 (by decide)], by rw [e2 8 (by decide), c8], by rw [e2 9 (by decide), c9, e1 10 (by decide)], by rw [e2 10 (by decide), c10], by rw [e2 11 (by decide), c11, e1 12 (by decide)], by rw [e2 12 (by decide), c12], by rw [e2 13 (by decide), c13, e1 14 (by decide)], by rw [e2 14 (by decide), c14], by rw [e2 15 (by decide), c15, e1 16 (by decide)], by rw [e2 16 (by decide), c16], by rw [e2 17 (by decide), c17, e1 18 (by decide)], by rw [e2 18 (by decide), c18], by rw [e2 19 (by decide), c19, e1 20 (by decide)], by rw [e2 20 (by decide), c20], by rw [e2 21 (by decide), c21, e1 22 (by decide), e1 23 (by decide), e1 24 (by decide), e1 25 (by decide), e1 26 (by decide), e1 27 (by decide), e1 28 (by decide), e1 29 (by decide)], by rw [e2 22 (by decide), c22], by rw [e2 23 (by decide), c23], by rw [e2 24 (by decide), c24], by rw [e2 25 (by decide), c25], by rw [e2 26 (by decide), c26], by rw [e2 27 (by decide), c27], by rw [e2 28 (by decide), c28], by rw [e2 29 (by decide), c29], by rw [e2 30 (by decide), c30], by rw [e2 31 (by decide), c31], m32, m33, m34, m35, m36, m37, m38, m39, m40, m41⟩
def zp (i : Nat) : Nat := ([0, 3, 4, 21, 30, 31, 1, 5, 7, 9, 11, 13, 15, 17, 19, 2, 6, 8, 10, 12, 14, 16, 18, 20, 22, 23, 24, 25, 26, 27, 28, 29, 32, 33, 34, 35, 36, 37, 38, 39, 40, 41] : List Nat).getD i 0
theorem zp_lt : ∀ i, i < 42 → zp i < 42 := by decide +kernel
theorem zp_inj : ∀ i, i < 42 → ∀ j, j < 42 → zp i = zp j → i = j := by decide +kernel
def c0s : zC := (fun a b => if a = 0 ∧ b = 3 then -9 else 0, fun _ _ => 0, fun _ => 6)
def m0s : zM := (fun _ _ => 0, fun _ _ => 0)
theorem c0_1 {a b : Nat} (h : ¬ a = 0) : c0s.1 a b = 0 := by simp [c0s, h]
theorem c0_0 {b : Nat} (h : ¬ b = 3) : c0s.1 0 b = 0 := by simp [c0s, h]
theorem Inv_0 : Inv c0s m0s 0 := by
  refine ⟨⟨?_, ?_, ?_, ?_, ?_, ?_⟩, ?_, ?_⟩
  · refine ⟨fun k _ => show kd 6 = 6 by decide, fun j hj => ?_, ⟨0, by omega, c0_0 (by decide)⟩, ⟨0, by omega, c0_0 (by decide)⟩⟩
    have := kd6 hj
    unfold plOk pl
    rw [c0_1 (by omega)]
    exact ⟨by decide, by decide⟩
  · exact ⟨fun _ _ => show vp_in (0 : Int32) 5000 from vp_in_iff.mpr (by decide), fun _ _ => show vp_in (0 : Int32) 13 from vp_in_iff.mpr (by decide), ⟨0, by omega, rfl, fun k hk => by omega⟩, ⟨0, by omega, rfl⟩⟩
  · exact ⟨⟨c0_1 (by decide), c0_1 (by decide)⟩, fun d _ => Or.inl ⟨rfl, rfl⟩, fun d e _ _ h => absurd (show (0 : Int32) = 2 from h) (by decide)⟩
  · exact Or.inl ⟨rfl, rfl, rfl⟩
  · refine ⟨c0_0 (by decide), fun k q hk hq => c0_1 (by omega), fun k => c0_1 (by decide), ⟨c0_0 (by decide), 0, by omega, c0_0 (by decide)⟩, fun k hk => ?_⟩
    rw [c0_0 (by decide)] at hk
    exact absurd hk (Nat.not_lt_zero _)
  · exact ⟨c0_0 (by decide), fun k => c0_1 (by decide)⟩
  · exact c0_0 (by decide)
  · exact ⟨0, by omega, rfl, fun d _ h => absurd (show (0 : Int32) = 2 from h) (by decide)⟩
theorem arr_q {D : va_G} {cl : List vw_C} {a n : Nat} {cA : ClassId} {f f' : Nat → Option Nat} {H : Heap} (h : va_at D cl (a, .inl (cA, n, .inr (.inr (.inr (.inr f))))) H) (hf : ∀ k, k < n → f k = f' k) : va_at D cl (a, .inl (cA, n, .inr (.inr (.inr (.inr f'))))) H := by
  have e : arrV cA n (fun j => va_rf (f j)) = arrV cA n (fun j => va_rf (f' j)) := by
    unfold arrV
    congr 1
    congr 1
    funext j
    show va_rf (f j.val) = va_rf (f' j.val)
    rw [hf j.val j.isLt]
  show H[a]? = some (arrV cA n (fun j => va_rf (f' j)))
  rw [← e]
  exact h
abbrev zEw (D : va_G) (y : Nat → ClassId) (z : Nat) (w : (Nat → Nat) × (Nat → va_E)) : zE := (D.1, D.2, y, fun i => w.1 (zp i), z)
theorem gg_eq (D : va_G) (y : Nat → ClassId) (z : Nat) (w : (Nat → Nat) × (Nat → va_E)) : (zG (zEw D y z w) c0s m0s 0 = .inr (2, [.ref (w.1 1), .ref (w.1 3), .ref (w.1 4), .int (-9), .long 0, .int 0, .ref (w.1 21), .int 0, .ref (w.1 30), .int 0, .int 0, .ref (w.1 31)])) ∧ (zG (zEw D y z w) c0s m0s 4 = .inl (y 0, 8, .inl (fun _ => 0))) ∧ (zG (zEw D y z w) c0s m0s 5 = .inl (y 0, 5, .inl (fun _ => 0))) ∧ (zG (zEw D y z w) c0s m0s 6 = .inr (0, [.int 0, .int 0, .int 0, .ref (w.1 2)])) ∧ (zG (zEw D y z w) c0s m0s 7 = .inr (0, [.int 0, .int 0, .int 0, .ref (w.1 6)])) ∧ (zG (zEw D y z w) c0s m0s 8 = .inr (0, [.int 0, .int 0, .int 0, .ref (w.1 8)])) ∧ (zG (zEw D y z w) c0s m0s 9 = .inr (0, [.int 0, .int 0, .int 0, .ref (w.1 10)])) ∧ (zG (zEw D y z w) c0s m0s 10 = .inr (0, [.int 0, .int 0, .int 0, .ref (w.1 12)])) ∧ (zG (zEw D y z w) c0s m0s 11 = .inr (0, [.int 0, .int 0, .int 0, .ref (w.1 14)])) ∧ (zG (zEw D y z w) c0s m0s 12 = .inr (0, [.int 0, .int 0, .int 0, .ref (w.1 16)])) ∧ (zG (zEw D y z w) c0s m0s 13 = .inr (0, [.int 0, .int 0, .int 0, .ref (w.1 18)])) ∧ (zG (zEw D y z w) c0s m0s 14 = .inr (0, [.int 0, .int 0, .int 0, .ref (w.1 20)])) ∧ (zG (zEw D y z w) c0s m0s 15 = .inl (y 1, 12, .inr (.inl (fun _ => 0)))) ∧ (zG (zEw D y z w) c0s m0s 16 = .inl (y 1, 12, .inr (.inl (fun _ => 0)))) ∧ (zG (zEw D y z w) c0s m0s 17 = .inl (y 1, 12, .inr (.inl (fun _ => 0)))) ∧ (zG (zEw D y z w) c0s m0s 18 = .inl (y 1, 12, .inr (.inl (fun _ => 0)))) ∧ (zG (zEw D y z w) c0s m0s 19 = .inl (y 1, 12, .inr (.inl (fun _ => 0)))) ∧ (zG (zEw D y z w) c0s m0s 20 = .inl (y 1, 12, .inr (.inl (fun _ => 0)))) ∧ (zG (zEw D y z w) c0s m0s 21 = .inl (y 1, 12, .inr (.inl (fun _ => 0)))) ∧ (zG (zEw D y z w) c0s m0s 22 = .inl (y 1, 12, .inr (.inl (fun _ => 0)))) ∧ (zG (zEw D y z w) c0s m0s 23 = .inl (y 1, 12, .inr (.inl (fun _ => 0)))) ∧ (zG (zEw D y z w) c0s m0s 24 = .inr (1, [.int 0, .int 0, .int 0, .int 0, .int 0])) ∧ (zG (zEw D y z w) c0s m0s 25 = .inr (1, [.int 0, .int 0, .int 0, .int 0, .int 0])) ∧ (zG (zEw D y z w) c0s m0s 26 = .inr (1, [.int 0, .int 0, .int 0, .int 0, .int 0])) ∧ (zG (zEw D y z w) c0s m0s 27 = .inr (1, [.int 0, .int 0, .int 0, .int 0, .int 0])) ∧ (zG (zEw D y z w) c0s m0s 28 = .inr (1, [.int 0, .int 0, .int 0, .int 0, .int 0])) ∧ (zG (zEw D y z w) c0s m0s 29 = .inr (1, [.int 0, .int 0, .int 0, .int 0, .int 0])) ∧ (zG (zEw D y z w) c0s m0s 30 = .inr (1, [.int 0, .int 0, .int 0, .int 0, .int 0])) ∧ (zG (zEw D y z w) c0s m0s 31 = .inr (1, [.int 0, .int 0, .int 0, .int 0, .int 0])) ∧ (zG (zEw D y z w) c0s m0s 32 = .inr (3, [.ref (w.1 33), .ref (w.1 34), .ref (w.1 35), .int 0, .ref (w.1 36), .ref (w.1 37), .ref (w.1 38), .int 0, .int 0, .long 0, .int 0, .int 0, .ref (w.1 39), .int 0, .ref (w.1 40), .int 0, .ref (w.1 41), .int 0])) ∧ (zG (zEw D y z w) c0s m0s 33 = .inl (y 0, 8, .inl (fun _ => 0))) ∧ (zG (zEw D y z w) c0s m0s 34 = .inl (y 0, 8, .inl (fun _ => 0))) ∧ (zG (zEw D y z w) c0s m0s 35 = .inl (y 0, 8, .inl (fun _ => 0))) ∧ (zG (zEw D y z w) c0s m0s 36 = .inl (y 0, 5000, .inl (fun _ => 0))) ∧ (zG (zEw D y z w) c0s m0s 37 = .inl (y 0, 5000, .inl (fun _ => 0))) ∧ (zG (zEw D y z w) c0s m0s 38 = .inl (y 1, 60000, .inr (.inl (fun _ => 0)))) ∧ (zG (zEw D y z w) c0s m0s 39 = .inl (y 0, 5, .inl (fun _ => 0))) ∧ (zG (zEw D y z w) c0s m0s 40 = .inl (y 0, 40, .inl (fun _ => 0))) ∧ (zG (zEw D y z w) c0s m0s 41 = .inl (y 0, 8, .inl (fun _ => 0))) := ⟨rfl, rfl, rfl, rfl, rfl, rfl, rfl, rfl, rfl, rfl, rfl, rfl, rfl, rfl, rfl, rfl, rfl, rfl, rfl, rfl, rfl, rfl, rfl, rfl, rfl, rfl, rfl, rfl, rfl, rfl, rfl, rfl, rfl, rfl, rfl, rfl, rfl, rfl, rfl⟩
set_option maxRecDepth 100000 in
set_option maxHeartbeats 4000000 in
theorem zI_0 {D : va_G} {y : Nat → ClassId} {z : Nat} {w : (Nat → Nat) × (Nat → va_E)} {s : State} {H : Heap} (hw : pW y w) (h : vI D y z w.1 w.2 42 s H) : zI (zEw D y z w) c0s m0s s H := by
  obtain ⟨hP, hK, hD, hz, hn⟩ := h
  obtain ⟨w0, w1, w2, w3, w4, w5, w6, w7, w8, w9, w10, w11, w12, w13, w14, w15, w16, w17, w18, w19, w20, w21, w22, w23, w24, w25, w26, w27, w28, w29, w30, w31, w32, w33, w34, w35, w36, w37, w38, w39, w40, w41⟩ := hw
  obtain ⟨g0, g4, g5, g6, g7, g8, g9, g10, g11, g12, g13, g14, g15, g16, g17, g18, g19, g20, g21, g22, g23, g24, g25, g26, g27, g28, g29, g30, g31, g32, g33, g34, g35, g36, g37, g38, g39, g40, g41⟩ := gg_eq D y z w
  refine ⟨fun k q hk => ?_, hK, ⟨fun i j hi hj e => ?_, fun i hi => ?_⟩, hz, hn.1⟩
  · obtain ⟨hk42, rfl⟩ := zL_at hk
    rcases (show k = 0 ∨ k = 1 ∨ k = 2 ∨ k = 3 ∨ k = 4 ∨ k = 5 ∨ k = 6 ∨ k = 7 ∨ k = 8 ∨ k = 9 ∨ k = 10 ∨ k = 11 ∨ k = 12 ∨ k = 13 ∨ k = 14 ∨ k = 15 ∨ k = 16 ∨ k = 17 ∨ k = 18 ∨ k = 19 ∨ k = 20 ∨ k = 21 ∨ k = 22 ∨ k = 23 ∨ k = 24 ∨ k = 25 ∨ k = 26 ∨ k = 27 ∨ k = 28 ∨ k = 29 ∨ k = 30 ∨ k = 31 ∨ k = 32 ∨ k = 33 ∨ k = 34 ∨ k = 35 ∨ k = 36 ∨ k = 37 ∨ k = 38 ∨ k = 39 ∨ k = 40 ∨ k = 41 by omega) with rfl | rfl | rfl | rfl | rfl | rfl | rfl | rfl | rfl | rfl | rfl | rfl | rfl | rfl | rfl | rfl | rfl | rfl | rfl | rfl | rfl | rfl | rfl | rfl | rfl | rfl | rfl | rfl | rfl | rfl | rfl | rfl | rfl | rfl | rfl | rfl | rfl | rfl | rfl | rfl | rfl | rfl
    · have hh := hP 0 _ (vL_get w.1 w.2 (show 0 < 42 by decide))
      rw [w0] at hh
      rw [g0]
      exact hh
    · have hh := hP 3 _ (vL_get w.1 w.2 (show 3 < 42 by decide))
      rw [w3] at hh
      exact arr_q (f' := fun k => some (w.1 1)) hh (fun k hk => by rcases (show k = 0 ∨ k = 1 ∨ k = 2 ∨ k = 3 ∨ k = 4 ∨ k = 5 ∨ k = 6 ∨ k = 7 by omega) with rfl | rfl | rfl | rfl | rfl | rfl | rfl | rfl <;> rfl)
    · have hh := hP 4 _ (vL_get w.1 w.2 (show 4 < 42 by decide))
      rw [w4] at hh
      exact arr_q (f' := fun k => some (w.1 (zp (7 + k)))) hh (fun k hk => by rcases (show k = 0 ∨ k = 1 ∨ k = 2 ∨ k = 3 ∨ k = 4 ∨ k = 5 ∨ k = 6 ∨ k = 7 by omega) with rfl | rfl | rfl | rfl | rfl | rfl | rfl | rfl <;> rfl)
    · have hh := hP 21 _ (vL_get w.1 w.2 (show 21 < 42 by decide))
      rw [w21] at hh
      exact arr_q (f' := fun k => some (w.1 (zp (24 + k)))) hh (fun k hk => by rcases (show k = 0 ∨ k = 1 ∨ k = 2 ∨ k = 3 ∨ k = 4 ∨ k = 5 ∨ k = 6 ∨ k = 7 by omega) with rfl | rfl | rfl | rfl | rfl | rfl | rfl | rfl <;> rfl)
    · have hh := hP 30 _ (vL_get w.1 w.2 (show 30 < 42 by decide))
      rw [w30] at hh
      rw [g4]
      exact hh
    · have hh := hP 31 _ (vL_get w.1 w.2 (show 31 < 42 by decide))
      rw [w31] at hh
      rw [g5]
      exact hh
    · have hh := hP 1 _ (vL_get w.1 w.2 (show 1 < 42 by decide))
      rw [w1] at hh
      rw [g6]
      exact hh
    · have hh := hP 5 _ (vL_get w.1 w.2 (show 5 < 42 by decide))
      rw [w5] at hh
      rw [g7]
      exact hh
    · have hh := hP 7 _ (vL_get w.1 w.2 (show 7 < 42 by decide))
      rw [w7] at hh
      rw [g8]
      exact hh
    · have hh := hP 9 _ (vL_get w.1 w.2 (show 9 < 42 by decide))
      rw [w9] at hh
      rw [g9]
      exact hh
    · have hh := hP 11 _ (vL_get w.1 w.2 (show 11 < 42 by decide))
      rw [w11] at hh
      rw [g10]
      exact hh
    · have hh := hP 13 _ (vL_get w.1 w.2 (show 13 < 42 by decide))
      rw [w13] at hh
      rw [g11]
      exact hh
    · have hh := hP 15 _ (vL_get w.1 w.2 (show 15 < 42 by decide))
      rw [w15] at hh
      rw [g12]
      exact hh
    · have hh := hP 17 _ (vL_get w.1 w.2 (show 17 < 42 by decide))
      rw [w17] at hh
      rw [g13]
      exact hh
    · have hh := hP 19 _ (vL_get w.1 w.2 (show 19 < 42 by decide))
      rw [w19] at hh
      rw [g14]
      exact hh
    · have hh := hP 2 _ (vL_get w.1 w.2 (show 2 < 42 by decide))
      rw [w2] at hh
      rw [g15]
      exact hh
    · have hh := hP 6 _ (vL_get w.1 w.2 (show 6 < 42 by decide))
      rw [w6] at hh
      rw [g16]
      exact hh
    · have hh := hP 8 _ (vL_get w.1 w.2 (show 8 < 42 by decide))
      rw [w8] at hh
      rw [g17]
      exact hh
    · have hh := hP 10 _ (vL_get w.1 w.2 (show 10 < 42 by decide))
      rw [w10] at hh
      rw [g18]
      exact hh
    · have hh := hP 12 _ (vL_get w.1 w.2 (show 12 < 42 by decide))
      rw [w12] at hh
      rw [g19]
      exact hh
    · have hh := hP 14 _ (vL_get w.1 w.2 (show 14 < 42 by decide))
      rw [w14] at hh
      rw [g20]
      exact hh
    · have hh := hP 16 _ (vL_get w.1 w.2 (show 16 < 42 by decide))
      rw [w16] at hh
      rw [g21]
      exact hh
    · have hh := hP 18 _ (vL_get w.1 w.2 (show 18 < 42 by decide))
      rw [w18] at hh
      rw [g22]
      exact hh
    · have hh := hP 20 _ (vL_get w.1 w.2 (show 20 < 42 by decide))
      rw [w20] at hh
      rw [g23]
      exact hh
    · have hh := hP 22 _ (vL_get w.1 w.2 (show 22 < 42 by decide))
      rw [w22] at hh
      rw [g24]
      exact hh
    · have hh := hP 23 _ (vL_get w.1 w.2 (show 23 < 42 by decide))
      rw [w23] at hh
      rw [g25]
      exact hh
    · have hh := hP 24 _ (vL_get w.1 w.2 (show 24 < 42 by decide))
      rw [w24] at hh
      rw [g26]
      exact hh
    · have hh := hP 25 _ (vL_get w.1 w.2 (show 25 < 42 by decide))
      rw [w25] at hh
      rw [g27]
      exact hh
    · have hh := hP 26 _ (vL_get w.1 w.2 (show 26 < 42 by decide))
      rw [w26] at hh
      rw [g28]
      exact hh
    · have hh := hP 27 _ (vL_get w.1 w.2 (show 27 < 42 by decide))
      rw [w27] at hh
      rw [g29]
      exact hh
    · have hh := hP 28 _ (vL_get w.1 w.2 (show 28 < 42 by decide))
      rw [w28] at hh
      rw [g30]
      exact hh
    · have hh := hP 29 _ (vL_get w.1 w.2 (show 29 < 42 by decide))
      rw [w29] at hh
      rw [g31]
      exact hh
    · have hh := hP 32 _ (vL_get w.1 w.2 (show 32 < 42 by decide))
      rw [w32] at hh
      rw [g32]
      exact hh
    · have hh := hP 33 _ (vL_get w.1 w.2 (show 33 < 42 by decide))
      rw [w33] at hh
      rw [g33]
      exact hh
    · have hh := hP 34 _ (vL_get w.1 w.2 (show 34 < 42 by decide))
      rw [w34] at hh
      rw [g34]
      exact hh
    · have hh := hP 35 _ (vL_get w.1 w.2 (show 35 < 42 by decide))
      rw [w35] at hh
      rw [g35]
      exact hh
    · have hh := hP 36 _ (vL_get w.1 w.2 (show 36 < 42 by decide))
      rw [w36] at hh
      rw [g36]
      exact hh
    · have hh := hP 37 _ (vL_get w.1 w.2 (show 37 < 42 by decide))
      rw [w37] at hh
      rw [g37]
      exact hh
    · have hh := hP 38 _ (vL_get w.1 w.2 (show 38 < 42 by decide))
      rw [w38] at hh
      rw [g38]
      exact hh
    · have hh := hP 39 _ (vL_get w.1 w.2 (show 39 < 42 by decide))
      rw [w39] at hh
      rw [g39]
      exact hh
    · have hh := hP 40 _ (vL_get w.1 w.2 (show 40 < 42 by decide))
      rw [w40] at hh
      rw [g40]
      exact hh
    · have hh := hP 41 _ (vL_get w.1 w.2 (show 41 < 42 by decide))
      rw [w41] at hh
      rw [g41]
      exact hh
  · exact zp_inj i hi j hj (hD.1 _ _ _ _ (vL_get w.1 w.2 (zp_lt i hi)) (vL_get w.1 w.2 (zp_lt j hj)) e)
  · exact hD.2 _ _ (vL_get w.1 w.2 (zp_lt i hi))
