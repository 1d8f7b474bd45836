/-! making the cells: a world that grows, cells by number -/
def vL (loc : Nat → Nat) (g : Nat → va_E) (N : Nat) : va_W := (List.range N).map (fun i => (loc i, g i))
abbrev vT (y : Nat → ClassId) : List (ClassId × FieldType) := [(y 0, .int), (y 1, .long), (y 2, .object RX0), (y 3, .object RX1)]
def vN (U : State) : Prop := va_Nw (.methodLinkNest RX0 33 yX2_fits RX2) U ∧ va_Nw (.methodLinkNest RX2 9 yX0_init RX2) U ∧ va_Nw (.methodLinkNest RX2 33 yX1_init RX2) U ∧ va_AO RX0 U ∧ va_AO RX1 U
def vI (D : va_G) (y : Nat → ClassId) (z : Nat) (loc : Nat → Nat) (g : Nat → va_E) (N : Nat) (U : State) (H : Heap) : Prop := va_P D vwCl (vL loc g N) H ∧ va_K D vwCl (vT y) U ∧ va_D (fun q => z ≤ q) (vL loc g N) ∧ z ≤ H.size ∧ vN U
def vW (D : va_G) (y : Nat → ClassId) (z : Nat) (loc : Nat → Nat) (g : Nat → va_E) (N : Nat) (s : State) (H0 H : Heap) (locs : List Loc) : Prop := vI D y z loc g N s H ∧ va_S (fun q => z ≤ q) H0 H locs ∧ z ≤ H0.size
theorem vL_get (loc : Nat → Nat) (g : Nat → va_E) {N i : Nat} (hi : i < N) : (vL loc g N)[i]? = some (loc i, g i) := by simp [vL, hi]
theorem vL_set (loc : Nat → Nat) (g : Nat → va_E) {N i : Nat} (hi : i < N) (e : va_E) : (vL loc g N).set i (loc i, e) = vL loc (va_up g i e) N := by
  apply List.ext_getElem?
  intro k
  by_cases hk : k = i
  · subst hk
    rw [vL_get loc _ hi]
    rw [List.getElem?_set_self (by simpa [vL] using hi)]
    simp [va_up]
  · rw [List.getElem?_set_ne (by omega)]
    by_cases h42 : k < N
    · rw [vL_get loc _ h42, vL_get loc _ h42]
      simp [va_up, hk]
    · rw [List.getElem?_eq_none (by simp [vL]; omega), List.getElem?_eq_none (by simp [vL]; omega)]
theorem vL_push (loc : Nat → Nat) (g : Nat → va_E) (N q : Nat) (e : va_E) : vL loc g N ++ [(q, e)] = vL (va_up loc N q) (va_up g N e) (N + 1) := by
  unfold vL
  rw [List.range_succ, List.map_append]
  congr 1
  · apply List.map_congr_left
    intro i hi
    have : ¬ i = N := by have := List.mem_range.mp hi; omega
    simp [va_up, this]
  · simp [va_up]
theorem vN_moved {s U : State} (hW : s.WarmedH U.vm) (h : vN s) : vN U := ⟨va_Nw.warmM hW h.1, va_Nw.warmM hW h.2.1, va_Nw.warmM hW h.2.2.1, va_AO.moved hW.alike h.2.2.2.1, va_AO.moved hW.alike h.2.2.2.2⟩
theorem vI_to {D : va_G} {y : Nat → ClassId} {z : Nat} {loc : Nat → Nat} {g : Nat → va_E} {N : Nat} {s U : State} {H : Heap} (h : vI D y z loc g N s H) (hU : U.heap = H) (hW : s.WarmedH U.vm) : vI D y z loc g N U U.heap := ⟨by rw [hU]; exact h.1, va_K.moved hW.alike h.2.1, h.2.2.1, by rw [hU]; exact h.2.2.2.1, vN_moved hW h.2.2.2.2⟩
abbrev vP (D : va_G) (y : Nat → ClassId) (z : Nat) (loc : Nat → Nat) (g : Nat → va_E) (N : Nat) (vs : List Value) : Array Value → State → Prop := va_Pc vs (fun U => vI D y z loc g N U U.heap)
theorem vI_blind (D : va_G) (y : Nat → ClassId) (z : Nat) (loc : Nat → Nat) (g : Nat → va_E) (N : Nat) (vs : List Value) : FrameBlind (vP D y z loc g N vs) := by
  intro a U f mk q
  obtain ⟨q0, qP, qK, qD, qz, q1, q2, q3, q4, q5⟩ := q
  exact ⟨q0, qP, va_K.moved (u := U) (U := U.calling f mk a) (Vm.Alike.refl U.vm) qK, qD, qz, va_Nw.same rfl (rfl : U.vm = (U.calling f mk a).vm) q1, va_Nw.same rfl (rfl : U.vm = (U.calling f mk a).vm) q2, va_Nw.same rfl (rfl : U.vm = (U.calling f mk a).vm) q3, va_AO.moved (u := U) (U := U.calling f mk a) (Vm.Alike.refl U.vm) q4, va_AO.moved (u := U) (U := U.calling f mk a) (Vm.Alike.refl U.vm) q5⟩
theorem v_preS {D : va_G} {y : Nat → ClassId} {z : Nat} {loc : Nat → Nat} {g : Nat → va_E} {N : Nat} {s : State} {H0 H : Heap} {locs : List Loc} (hw : vW D y z loc g N s H0 H locs) (As : List Value) : PreS s H (vP D y z loc g N As) As :=
  ⟨vI_blind D y z loc g N As, fun U hU hW => ⟨rfl, vI_to hw.1 hU hW⟩⟩
section VC
variable {p : Program} {l : Launch} {e : Env} {R : Room} {s : State} {m : MethodId} {args : Array Value} {below : List Frame} {meth : Method} {cd : Code} {H0 H : Heap} {locs : List Loc} {cells slots : Nat} {Q : State → Prop} {D : va_G} {y : Nat → ClassId} {z : Nat} {loc : Nat → Nat} {g : Nat → va_E} {N : Nat} {cc : ByteArray} {pc : Nat} {ls : Array Slot} {rest : List Value}
theorem v_ent {l : Launch} {y' : MethodName} {ws ws' : List Cond} {cc : ByteArray} {maxL mc ms : Nat} {ret : Option FieldType} {rm : Room} {Qc : Array Value → State → Outcome → State → Prop} {vs : List Value} (hy : plainName y'.cls = true) (hw : ws = Cond.code y' cc maxL ret :: ws') (hlen : (lg_sl vs).length ≤ maxL)
    (body : ∀ (p : Program) (e : Env) (s : State) (m : MethodId) (below : List Frame) (meth : Method) (cd : Code) (ls : Array Slot), p.tables.exec = Jvm.exec → cd.code = cc → meth.sig.returnType = ret → cd.maxLocals = maxL → s.vm.findClass y'.cls = some m.cls → (∀ w ∈ ws, w.before vs.toArray s = true) → meth.locks = false → meth.name = y'.name → lv_has ls maxL (lv_args 0 vs) → vW D y z loc g N s s.heap s.heap [] →
      W p l e (headSpec ws rm).room s m vs.toArray below meth cd s.heap [] 0 0 (MQ below Qc vs.toArray s mc ms (fun q => z ≤ q)) (F0 m 0 ls [])) : Met l y' ws rm (vP D y z loc g N vs) Qc mc ms (fun q => z ≤ q) := by
  refine Met.ofW hy hw ?_
  intro p e s m args below meth cd s₁ B hml hv
  obtain ⟨rfl, hI⟩ := hv
  have hl := lv_entry vs (n := maxL) hlen
  rw [lg_entry_eq]
  exact body p e s m below meth cd _ B.exec B.bytes B.returns hml (findClass_of_methodNamed B.named) (atoms_spec (ws := ws) B.pre) B.notSynchronized (name_of_methodNamed B.named B.method).1 hl ⟨hI, va_S.rf, hI.2.2.2.1⟩
theorem v_get (hx : p.tables.exec = Jvm.exec) (hb : cd.code = cc) {own ref C : String} {T : u_T} {n ci index i a : Nat} {Ts : List Cond} (hts : ∀ w ∈ Ts, w.before args s = true) (hin : ∀ w ∈ u_ws C T n, w ∈ Ts) (hown : s.vm.findClass own = some m.cls) (hw : vW D y z loc g N s H0 H locs) {fs : List Value} (hi : i < N) (ha : loc i = a) (hG : g i = .inr (ci, fs)) (hc : vwCl[ci]? = some (C, T, n)) (k : Nat) (hk : k < n) (hlink : (Cond.fieldLink own index ref (T k).2.1 (T k).2.2.1).before args s = true) (hsame : (T k).1 = ref) {v : Value} (hv : fs[k]? = some v) (hdg : decode cc pc = .ok (.getfield index, 3))
    (kk : W p l e R s m args below meth cd H locs cells slots Q (F0 m (pc + 3) ls (v :: rest))) : W p l e R s m args below meth cd H locs cells slots Q (F0 m pc ls (.ref a :: rest)) := by
  subst ha
  exact va_get (D := D) (ci := ci) (v := v) (C := C) (T := T) (N := n) hx hb hts hin hown hw.1.2.1 hw.1.1 i (by rw [vL_get loc _ hi, hG]) hc k hk hlink (fun x9 h9 => by rw [← hsame]; exact h9) hv hdg kk
theorem v_put (hx : p.tables.exec = Jvm.exec) (hb : cd.code = cc) {own ref C : String} {T : u_T} {n ci index i a : Nat} {Ts : List Cond} (hts : ∀ w ∈ Ts, w.before args s = true) (hin : ∀ w ∈ u_ws C T n, w ∈ Ts) (ty0 : Nat → FieldType) (hty : ∀ k, k < n → parseFieldDescriptor (T k).2.2.1 = some (ty0 k)) (hnm : ∀ a, a < n → ∀ b, b < n → a ≠ b → (T a).2.1 ≠ (T b).2.1) (hown : s.vm.findClass own = some m.cls) (hw : vW D y z loc g N s H0 H locs) {fs : List Value} (hi : i < N) (ha : loc i = a) (hG : g i = .inr (ci, fs)) (hc : vwCl[ci]? = some (C, T, n)) (k : Nat) (hk : k < n) (hlink : (Cond.fieldLink own index ref (T k).2.1 (T k).2.2.1).before args s = true) (hsame : (T k).1 = ref) (hfin : (T k).2.2.2 = false) {ty : FieldType} {v : Value} (hd : parseFieldDescriptor (T k).2.2.1 = some ty) (hn : narrow ty v = v) (hfit : fits ty v = true) (hl : k < fs.length) (hdg : decode cc pc = .ok (.putfield index, 3))
    (kk : ∀ (H1 : Heap) (locs1 : List Loc), vW D y z loc (va_up g i (.inr (ci, fs.set k v))) N s H0 H1 locs1 → W p l e R s m args below meth cd H1 locs1 cells slots Q (F0 m (pc + 3) ls rest)) : W p l e R s m args below meth cd H locs cells slots Q (F0 m pc ls (v :: .ref a :: rest)) := by
  subst ha
  refine va_put (D := D) (ci := ci) (v := v) (ty := ty) (C := C) (T := T) (N := n) (H0 := H0) hx hb hts hin ty0 hty hnm hown hw.1.2.1 hw.1.1 hw.1.2.2.1 hw.2.1 i (by rw [vL_get loc _ hi, hG]) hc k hk hlink (fun x9 h9 => by rw [← hsame]; exact h9) hfin hd hn hfit hl hdg (fun H1 locs1 hP hD hS => ?_)
  rw [vL_set loc _ hi] at hP hD
  exact kk H1 locs1 ⟨⟨hP, hw.1.2.1, hD, Nat.le_trans hw.2.2 hS.1, hw.1.2.2.2.2⟩, hS, hw.2.2⟩
theorem v_putF (hx : p.tables.exec = Jvm.exec) (hb : cd.code = cc) {own ref C : String} {T : u_T} {n ci index i a : Nat} {Ts : List Cond} (hts : ∀ w ∈ Ts, w.before args s = true) (hin : ∀ w ∈ u_ws C T n, w ∈ Ts) (ty0 : Nat → FieldType) (hty : ∀ k, k < n → parseFieldDescriptor (T k).2.2.1 = some (ty0 k)) (hnm : ∀ a, a < n → ∀ b, b < n → a ≠ b → (T a).2.1 ≠ (T b).2.1) (hown : s.vm.findClass own = some m.cls) (hw : vW D y z loc g N s H0 H locs) {fs : List Value} (hi : i < N) (ha : loc i = a) (hG : g i = .inr (ci, fs)) (hc : vwCl[ci]? = some (C, T, n)) (k : Nat) (hk : k < n) (hlink : (Cond.fieldLink own index ref (T k).2.1 (T k).2.2.1).before args s = true) (hsame : (T k).1 = ref) (hfin : (T k).2.2.2 = true) (hin2 : meth.name = "<init>") (hdecl : (T k).1 = own) {ty : FieldType} {v : Value} (hd : parseFieldDescriptor (T k).2.2.1 = some ty) (hn : narrow ty v = v) (hfit : fits ty v = true) (hl : k < fs.length) (hdg : decode cc pc = .ok (.putfield index, 3))
    (kk : ∀ (H1 : Heap) (locs1 : List Loc), vW D y z loc (va_up g i (.inr (ci, fs.set k v))) N s H0 H1 locs1 → W p l e R s m args below meth cd H1 locs1 cells slots Q (F0 m (pc + 3) ls rest)) : W p l e R s m args below meth cd H locs cells slots Q (F0 m pc ls (v :: .ref a :: rest)) := by
  subst ha
  refine va_putF (D := D) (ci := ci) (v := v) (ty := ty) (C := C) (T := T) (N := n) (H0 := H0) hx hb hts hin ty0 hty hnm hown hw.1.2.1 hw.1.1 hw.1.2.2.1 hw.2.1 i (by rw [vL_get loc _ hi, hG]) hc k hk hlink (fun x9 h9 => by rw [← hsame]; exact h9) hfin hin2 hdecl hd hn hfit hl hdg (fun H1 locs1 hP hD hS => ?_)
  rw [vL_set loc _ hi] at hP hD
  exact kk H1 locs1 ⟨⟨hP, hw.1.2.1, hD, Nat.le_trans hw.2.2 hS.1, hw.1.2.2.2.2⟩, hS, hw.2.2⟩
theorem v_aast (hx : p.tables.exec = Jvm.exec) (hb : cd.code = cc) (hw : vW D y z loc g N s H0 H locs) {i j n t0 ci a b : Nat} {q : vw_C} {vs : List Value} {f : Nat → Option Nat} (hi : i < N) (hj : j < N) (ha : loc i = a) (hjb : loc j = b) (hG : g i = .inl (y t0, n, .inr (.inr (.inr (.inr f))))) (hGj : g j = .inr (ci, vs)) (hc : vwCl[ci]? = some q) (ht : (vT y)[t0]? = some (y t0, .object q.1)) {x : Int32} (hin : vp_in x n) {k : Nat} (hk : x.toNatClampNeg = k) (hdg : decode cc pc = .ok (.aastore, 1)) (kk : ∀ (H1 : Heap) (locs1 : List Loc), vW D y z loc (va_up g i (.inl (y t0, n, .inr (.inr (.inr (.inr (va_up f k (some b)))))))) N s H0 H1 locs1 → W p l e R s m args below meth cd H1 locs1 cells slots Q (F0 m (pc + 1) ls rest)) : W p l e R s m args below meth cd H locs cells slots Q (F0 m pc ls (.ref b :: .int x :: .ref a :: rest)) := by
  subst ha hjb hk
  refine va_astq (H0 := H0) hx hb hw.1.2.1 hw.1.1 hw.1.2.2.1 hw.2.1 i t0 j ci (by rw [vL_get loc _ hi, hG]) ht (by rw [vL_get loc _ hj, hGj]) hc hin hdg (fun H1 locs1 hP hD hS => ?_)
  rw [vL_set loc _ hi] at hP hD
  exact kk H1 locs1 ⟨⟨hP, hw.1.2.1, hD, Nat.le_trans hw.2.2 hS.1, hw.1.2.2.2.2⟩, hS, hw.2.2⟩
theorem v_new (hx : p.tables.exec = Jvm.exec) (hb : cd.code = cc) {own C : String} {T : u_T} {n ci index : Nat} {Ts : List Cond} (hts : ∀ w ∈ Ts, w.before args s = true) (hin : ∀ w ∈ u_ws C T n, w ∈ Ts) (ty : Nat → FieldType) (hty : ∀ k, k < n → parseFieldDescriptor (T k).2.2.1 = some (ty k)) (hown : s.vm.findClass own = some m.cls) (hcl : (Cond.classLink own index C).before args s = true) (hinst : (Cond.instantiable C n).before args s = true) (hini : (Cond.initialized C).before args s = true) (hw : vW D y z loc g N s H0 H locs) {N1 : Nat} (hN1 : N + 1 = N1) (hc : vwCl[ci]? = some (C, T, n)) {fs : List Value} (hfs : ∀ j, j < n → defaultValue (ty j) = vp_V fs j) (hcells : cells + 1 ≤ R.cells) (hslots : slots + n ≤ R.slots) (hdg : decode cc pc = .ok (.new index, 3))
    (kk : ∀ (q : Nat) (H1 : Heap), vW D y z (va_up loc N q) (va_up g N (.inr (ci, fs))) N1 s H0 H1 locs → W p l e R s m args below meth cd H1 locs (cells + 1) (slots + n) Q (F0 m (pc + 3) ls (.ref q :: rest))) : W p l e R s m args below meth cd H locs cells slots Q (F0 m pc ls rest) := by
  subst hN1
  refine va_new (c0 := cd) (ci := ci) (fs := fs) (C := C) (T := T) (N := n) (H0 := H0) hx hb hts hin ty hty hown hcl hinst hini hw.1.2.1 hw.1.1 hw.1.2.2.1 hw.2.1 (fun q h => Nat.le_trans hw.2.2 h) hc hfs hcells hslots hdg (fun q H1 hP hD hS => ?_)
  rw [vL_push] at hP hD
  exact kk q H1 ⟨⟨hP, hw.1.2.1, hD, Nat.le_trans hw.2.2 hS.1, hw.1.2.2.2.2⟩, hS, hw.2.2⟩
theorem v_newi (hx : p.tables.exec = Jvm.exec) (hb : cd.code = cc) (harr : (Cond.arrayClass .int).before args s = true) (hw : vW D y z loc g N s H0 H locs) {N1 : Nat} (hN1 : N + 1 = N1) {x : Int32} {N' : Nat} (hn : ¬ x < 0) (hN : x.toNatClampNeg = N') (hbytes : N' * 4 ≤ 536870912) (hcells : cells + 1 ≤ R.cells) (hslots : slots + N' ≤ R.slots) (hdg : decode cc pc = .ok (.newarray .int, 2))
    (kk : ∀ (q : Nat) (H1 : Heap), vW D y z (va_up loc N q) (va_up g N (.inl (y 0, N', .inl (fun _ => 0)))) N1 s H0 H1 locs → W p l e R s m args below meth cd H1 locs (cells + 1) (slots + N') Q (F0 m (pc + 2) ls (.ref q :: rest))) : W p l e R s m args below meth cd H locs cells slots Q (F0 m pc ls (.int x :: rest)) := by
  subst hN1
  refine va_newa (atype := .int) (H0 := H0) (ty := .int) (a0 := (N', .inl (fun _ => 0))) hx hb harr rfl hw.1.2.1 hw.1.1 hw.1.2.2.1 hw.2.1 (fun q h => Nat.le_trans hw.2.2 h) (fun cA => rfl) hn hN hbytes hcells hslots hdg (fun q cA H1 hK' hP hD hS => ?_)
  have e : cA = y 0 := Option.some.inj ((hK'.2 4 (cA, .int) rfl).2.symm.trans (hw.1.2.1.2 0 (y 0, .int) rfl).2)
  subst e
  rw [vL_push] at hP hD
  exact kk q H1 ⟨⟨hP, hw.1.2.1, hD, Nat.le_trans hw.2.2 hS.1, hw.1.2.2.2.2⟩, hS, hw.2.2⟩
theorem v_newl (hx : p.tables.exec = Jvm.exec) (hb : cd.code = cc) (harr : (Cond.arrayClass .long).before args s = true) (hw : vW D y z loc g N s H0 H locs) {N1 : Nat} (hN1 : N + 1 = N1) {x : Int32} {N' : Nat} (hn : ¬ x < 0) (hN : x.toNatClampNeg = N') (hbytes : N' * 8 ≤ 536870912) (hcells : cells + 1 ≤ R.cells) (hslots : slots + N' ≤ R.slots) (hdg : decode cc pc = .ok (.newarray .long, 2))
    (kk : ∀ (q : Nat) (H1 : Heap), vW D y z (va_up loc N q) (va_up g N (.inl (y 1, N', .inr (.inl (fun _ => 0))))) N1 s H0 H1 locs → W p l e R s m args below meth cd H1 locs (cells + 1) (slots + N') Q (F0 m (pc + 2) ls (.ref q :: rest))) : W p l e R s m args below meth cd H locs cells slots Q (F0 m pc ls (.int x :: rest)) := by
  subst hN1
  refine va_newa (atype := .long) (H0 := H0) (ty := .long) (a0 := (N', .inr (.inl (fun _ => 0)))) hx hb harr rfl hw.1.2.1 hw.1.1 hw.1.2.2.1 hw.2.1 (fun q h => Nat.le_trans hw.2.2 h) (fun cA => rfl) hn hN hbytes hcells hslots hdg (fun q cA H1 hK' hP hD hS => ?_)
  have e : cA = y 1 := Option.some.inj ((hK'.2 4 (cA, .long) rfl).2.symm.trans (hw.1.2.1.2 1 (y 1, .long) rfl).2)
  subst e
  rw [vL_push] at hP hD
  exact kk q H1 ⟨⟨hP, hw.1.2.1, hD, Nat.le_trans hw.2.2 hS.1, hw.1.2.2.2.2⟩, hS, hw.2.2⟩
theorem v_newq (hx : p.tables.exec = Jvm.exec) (hb : cd.code = cc) {own C : String} {index t0 : Nat} (ht : (vT y)[t0]? = some (y t0, .object C)) (hown : s.vm.findClass own = some m.cls) (hcl : (Cond.classLink own index C).before args s = true) (hov : va_AO C s) (hw : vW D y z loc g N s H0 H locs) {N1 : Nat} (hN1 : N + 1 = N1) {x : Int32} {N' : Nat} (hn : ¬ x < 0) (hN : x.toNatClampNeg = N') (hbytes : N' * 4 ≤ 536870912) (hcells : cells + 1 ≤ R.cells) (hslots : slots + N' ≤ R.slots) (hdg : decode cc pc = .ok (.anewarray index, 3))
    (kk : ∀ (q : Nat) (H1 : Heap), vW D y z (va_up loc N q) (va_up g N (.inl (y t0, N', .inr (.inr (.inr (.inr (fun _ => none))))))) N1 s H0 H1 locs → W p l e R s m args below meth cd H1 locs (cells + 1) (slots + N') Q (F0 m (pc + 3) ls (.ref q :: rest))) : W p l e R s m args below meth cd H locs cells slots Q (F0 m pc ls (.int x :: rest)) := by
  subst hN1
  refine va_newq (H0 := H0) hx hb hown hcl hov hw.1.2.1 hw.1.1 hw.1.2.2.1 hw.2.1 (fun q h => Nat.le_trans hw.2.2 h) hn hN hbytes hcells hslots hdg (fun q cA H1 hK' hP hD hS => ?_)
  have e : cA = y t0 := by
    obtain ⟨k1, c1, -, -, -, f1⟩ := (hK'.2 4 (cA, .object C) rfl).2
    obtain ⟨k2, c2, -, -, -, f2⟩ := (hw.1.2.1.2 t0 (y t0, .object C) ht).2
    exact Option.some.inj (f1.symm.trans f2)
  subst e
  rw [vL_push] at hP hD
  exact kk q H1 ⟨⟨hP, hw.1.2.1, hD, Nat.le_trans hw.2.2 hS.1, hw.1.2.2.2.2⟩, hS, hw.2.2⟩
theorem vW_back {loc1 : Nat → Nat} {g1 : Nat → va_E} {N1 : Nat} {H1 : Heap} {locs1 : List Loc} {t : State} (hw : vW D y z loc g N s H0 H locs) (ht : t.heap = H1) (hvm : s.vm.Alike t.vm) (hB : vI D y z loc1 g1 N1 t t.heap) (hS : va_S (fun q => z ≤ q) H0 H1 locs1) : vW D y z loc1 g1 N1 s H0 H1 locs1 := by
  subst ht
  exact ⟨⟨hB.1, va_K.moved hvm.symm hB.2.1, hB.2.2.1, hB.2.2.2.1, hw.1.2.2.2.2⟩, hS, hw.2.2⟩
theorem v_vret {post : (Nat → Nat) × (Nat → va_E) → Prop} (hx : p.tables.exec = Jvm.exec) (hb : cd.code = cc) (hr : meth.sig.returnType = none) (hlocks : meth.locks = false) (hw : vW D y z loc g N s s.heap H locs) (hdg : decode cc pc = .ok (.return_, 1)) (hp : post (loc, g)) : W p l e R s m args below meth cd H locs cells slots (MQ below (va_Qv post (fun u t => vI D y z u.1 u.2 N t t.heap) (fun q => z ≤ q)) args s cells slots (fun q => z ≤ q)) (F0 m pc ls []) :=
  W.vret hx hb hr (fun t ht hW => ⟨⟨(loc, g), rfl, hp, vI_to hw.1 ht hW⟩, hw.2.1.F ht⟩) hw.2.1.2.2 hdg hlocks
end VC
