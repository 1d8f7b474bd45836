/-! The state: 42 cells by number. 0 the object, 1 drawers, 2 contents, 3 orders, 4 metFaults, 5 faultCounts, 6 .. 14 contents (6: nothing), 15 .. 23 their values, 24 .. 31 orders; 32 the model, 33 has, 34 note, 35 rowOf, 36 kindOf, 37 sizeOf, 38 place, 39 faults, 40 orderOf, 41 doneFault. -/
abbrev zE : Type := (Nat → ClassId) × (Nat → Nat → Nat) × (Nat → ClassId) × (Nat → Nat) × Nat
abbrev zC : Type := (Nat → Nat → Int32) × (Nat → Nat → Int64) × (Nat → Nat)
abbrev zM : Type := (Nat → Nat → Int32) × (Nat → Nat → Int64)
abbrev zcy (E : zE) : Nat → ClassId := E.2.2.1
abbrev zl (E : zE) : Nat → Nat := E.2.2.2.1
abbrev zz (E : zE) : Nat := E.2.2.2.2
def kd (i : Nat) : Nat := if i = 0 then 0 else if i = 1 then 1 else if i = 2 then 2 else if i = 3 then 3 else if i < 6 then 4 else if i < 15 then 6 else if i < 24 then 5 else if i < 32 then 7 else if i = 32 then 8 else if i = 38 then 10 else 9
def ln (i : Nat) : Nat := if i = 5 then 5 else if i = 36 then 5000 else if i = 37 then 5000 else if i = 39 then 5 else if i = 40 then 40 else 8
def zG (E : zE) (c : zC) (mo : zM) (i : Nat) : va_E :=
  if kd i = 0 then .inr (2, [.ref (zl E 6), .ref (zl E 1), .ref (zl E 2), .int (c.1 0 3), .long (c.2.1 0 4), .int (c.1 0 5), .ref (zl E 3), .int (c.1 0 7), .ref (zl E 4), .int (c.1 0 9), .int (c.1 0 10), .ref (zl E 5)])
  else if kd i = 1 then .inl (zcy E 2, 8, .inr (.inr (.inr (.inr (fun k => some (zl E (c.2.2 k)))))))
  else if kd i = 2 then .inl (zcy E 2, 8, .inr (.inr (.inr (.inr (fun k => some (zl E (7 + k)))))))
  else if kd i = 3 then .inl (zcy E 3, 8, .inr (.inr (.inr (.inr (fun k => some (zl E (24 + k)))))))
  else if kd i = 4 then .inl (zcy E 0, ln i, .inl (c.1 i))
  else if kd i = 5 then .inl (zcy E 1, 12, .inr (.inl (c.2.1 i)))
  else if kd i = 6 then .inr (0, [.int (c.1 i 0), .int (c.1 i 1), .int (c.1 i 2), .ref (zl E (i + 9))])
  else if kd i = 7 then .inr (1, [.int (c.1 i 0), .int (c.1 i 1), .int (c.1 i 2), .int (c.1 i 3), .int (c.1 i 4)])
  else if kd i = 8 then .inr (3, [.ref (zl E 33), .ref (zl E 34), .ref (zl E 35), .int (mo.1 32 3), .ref (zl E 36), .ref (zl E 37), .ref (zl E 38), .int (mo.1 32 7), .int (mo.1 32 8), .long (mo.2 32 9), .int (mo.1 32 10), .int (mo.1 32 11), .ref (zl E 39), .int (mo.1 32 13), .ref (zl E 40), .int (mo.1 32 15), .ref (zl E 41), .int (mo.1 32 17)])
  else if kd i = 9 then .inl (zcy E 0, ln i, .inl (mo.1 i))
  else .inl (zcy E 1, 60000, .inr (.inl (mo.2 i)))
def zL (E : zE) (g : Nat → va_E) : va_W := (List.range 42).map (fun i => (zl E i, g i))
def zA (E : zE) : Nat → Prop := fun q => zz E ≤ q
def zOk (E : zE) : Prop := (∀ i j, i < 42 → j < 42 → zl E i = zl E j → i = j) ∧ ∀ i, i < 42 → zz E ≤ zl E i
abbrev zD (E : zE) : va_G := (E.1, E.2.1)
abbrev zT (E : zE) : List (ClassId × FieldType) := [(zcy E 0, .int), (zcy E 1, .long), (zcy E 2, .object RX0), (zcy E 3, .object RX1)]
def zI (E : zE) (c : zC) (mo : zM) (U : State) (H : Heap) : Prop := va_P (zD E) vwCl (zL E (zG E c mo)) H ∧ va_K (zD E) vwCl (zT E) U ∧ zOk E ∧ zz E ≤ H.size ∧ va_Nw (.methodLinkNest RX0 33 yX2_fits RX2) U
def zW (E : zE) (c : zC) (mo : zM) (s : State) (H0 H : Heap) (locs : List Loc) : Prop := zI E c mo s H ∧ va_S (zA E) H0 H locs ∧ zz E ≤ H0.size
theorem zL_get (E : zE) (g : Nat → va_E) {i : Nat} (hi : i < 42) : (zL E g)[i]? = some (zl E i, g i) := by
  simp [zL, hi]
theorem zL_at {E : zE} {g : Nat → va_E} {i : Nat} {q : Nat × va_E} (h : (zL E g)[i]? = some q) : i < 42 ∧ q = (zl E i, g i) := by
  have hi : i < 42 := by
    have := (List.getElem?_eq_some_iff.mp h).1
    simpa [zL] using this
  rw [zL_get E g hi] at h
  exact ⟨hi, (Option.some.inj h).symm⟩
theorem zL_set (E : zE) (g : Nat → va_E) {i : Nat} (hi : i < 42) (e : va_E) : (zL E g).set i (zl E i, e) = zL E (va_up g i e) := by
  apply List.ext_getElem?
  intro k
  by_cases hk : k = i
  · subst hk
    rw [zL_get E _ hi]
    rw [List.getElem?_set_self (by simpa [zL] using hi)]
    simp [va_up]
  · rw [List.getElem?_set_ne (by omega)]
    by_cases h42 : k < 42
    · rw [zL_get E _ h42, zL_get E _ h42]
      simp [va_up, hk]
    · rw [List.getElem?_eq_none (by simp [zL]; omega), List.getElem?_eq_none (by simp [zL]; omega)]
theorem zD_of {E : zE} (h : zOk E) (g : Nat → va_E) : va_D (zA E) (zL E g) := by
  refine ⟨fun i j p q h1 h2 h3 => ?_, fun k q h1 => ?_⟩
  · obtain ⟨hi, rfl⟩ := zL_at h1
    obtain ⟨hj, rfl⟩ := zL_at h2
    exact h.1 i j hi hj h3
  · obtain ⟨hi, rfl⟩ := zL_at h1
    exact h.2 k hi
theorem zNw_moved {s U : State} (h : s.WarmedH U.vm) (hZ : va_Nw (.methodLinkNest RX0 33 yX2_fits RX2) s) : va_Nw (.methodLinkNest RX0 33 yX2_fits RX2) U := va_Nw.warmM h hZ
abbrev cQi (E : zE) (r : Int32) (c : zC) (mo : zM) : Array Value → State → Outcome → State → Prop := va_Qi (fun (r' : Int32) (u : zC × zM) => r' = r ∧ u = (c, mo)) (fun u t => zI E u.1 u.2 t t.heap) (zA E)
abbrev cQl (E : zE) (r : Int64) (c : zC) (mo : zM) : Array Value → State → Outcome → State → Prop := va_Ql (fun (r' : Int64) (u : zC × zM) => r' = r ∧ u = (c, mo)) (fun u t => zI E u.1 u.2 t t.heap) (zA E)
abbrev cQv (E : zE) (c : zC) (mo : zM) : Array Value → State → Outcome → State → Prop := va_Qv (fun (u : zC × zM) => u = (c, mo)) (fun u t => zI E u.1 u.2 t t.heap) (zA E)
abbrev cQr (E : zE) (r : Nat) (c : zC) (mo : zM) : Array Value → State → Outcome → State → Prop := va_Qr (fun (u : zC × zM × Nat) => u = (c, mo, r)) (fun u a t => a = zl E u.2.2 ∧ zI E u.1 u.2.1 t t.heap) (zA E)
abbrev zP (E : zE) (c : zC) (mo : zM) (vs : List Value) : Array Value → State → Prop := va_Pc vs (fun U => zI E c mo U U.heap)
abbrev zR (f n : Nat) : Room := { frames := f, cells := 0, slots := 0, locals := n }
theorem zI_blind (E : zE) (c : zC) (mo : zM) (vs : List Value) : FrameBlind (zP E c mo vs) := by
  intro a U g mk q
  obtain ⟨q0, qP, qK, qO, qz, qn⟩ := q
  exact ⟨q0, qP, va_K.moved (u := U) (U := U.calling g mk a) (Vm.Alike.refl U.vm) qK, qO, qz, va_Nw.same rfl (rfl : U.vm = (U.calling g mk a).vm) qn⟩
theorem z_preS {E : zE} {c : zC} {mo : zM} {s : State} {H0 H : Heap} {locs : List Loc} (hw : zW E c mo s H0 H locs) (As : List Value) : PreS s H (zP E c mo As) As := by
  obtain ⟨⟨hP, hK, hO, hz, hn⟩, hS, hz0⟩ := hw
  exact ⟨zI_blind E c mo As, fun U hU hW => ⟨rfl, by rw [hU]; exact hP, va_K.moved hW.alike hK, hO, by rw [hU]; exact hz, zNw_moved hW hn⟩⟩
theorem z_preV {E : zE} {c : zC} {mo : zM} {s : State} {H0 H : Heap} {locs : List Loc} (hw : zW E c mo s H0 H locs) {i ci : Nat} {fs : List Value} {q : vw_C} (hi : i < 42) (hG : zG E c mo i = .inr (ci, fs)) (hc : vwCl[ci]? = some q) (As : List Value) : PreV s H q.1 (zl E i) (zP E c mo (.ref (zl E i) :: As)) As := by
  obtain ⟨⟨hP, hK, hO, hz, hn⟩, hS, hz0⟩ := hw
  exact ⟨zI_blind E c mo _, va_recv hK hP hc (q0 := i) (by rw [zL_get E _ hi, hG]), fun U hU hW => ⟨rfl, by rw [hU]; exact hP, va_K.moved hW.alike hK, hO, by rw [hU]; exact hz, zNw_moved hW hn⟩⟩
section ZW
variable {p : Program} {l : Launch} {e : Env} {R : Room} {s : State} {m : MethodId} {args : Array Value} {below : List Frame} {meth : Method} {cd : Code} {H0 H : Heap} {locs : List Loc} {cells slots : Nat} {Q : State → Prop} {E : zE} {c : zC} {mo : zM} {cc : ByteArray} {pc : Nat} {ls : Array Slot} {rest : List Value}
theorem z_ent {l : Launch} {y : MethodName} {ws ws' : List Cond} {cc : ByteArray} {maxL : Nat} {ret : Option FieldType} {rm : Room} {Qc : Array Value → State → Outcome → State → Prop} {E : zE} {c : zC} {mo : zM} {vs : List Value} (hy : plainName y.cls = true) (hw : ws = Cond.code y cc maxL ret :: ws') (hlen : (lg_sl vs).length ≤ maxL)
    (body : ∀ (p : Program) (e : Env) (s : State) (m : MethodId) (below : List Frame) (meth : Method) (cd : Code) (ls : Array Slot), p.tables.exec = Jvm.exec → cd.code = cc → meth.sig.returnType = ret → cd.maxLocals = maxL → s.vm.findClass y.cls = some m.cls → (∀ w ∈ ws, w.before vs.toArray s = true) → meth.locks = false → lv_has ls maxL (lv_args 0 vs) → zW E c mo s s.heap s.heap [] →
      W p l e (headSpec ws rm).room s m vs.toArray below meth cd s.heap [] 0 0 (MQ below Qc vs.toArray s 0 0 (zA E)) (F0 m 0 ls [])) : Met l y ws rm (zP E c mo vs) Qc 0 0 (zA E) := by
  refine Met.ofW hy hw ?_
  intro p e s m args below meth cd s₁ B hml hv
  obtain ⟨rfl, hI⟩ := hv
  have hl := lv_entry vs (n := maxL) hlen
  rw [lg_entry_eq]
  exact body p e s m below meth cd _ B.exec B.bytes B.returns hml (findClass_of_methodNamed B.named) (atoms_spec (ws := ws) B.pre) B.notSynchronized hl ⟨hI, va_S.rf, hI.2.2.2.1⟩
theorem z_iret {r0 : Int32} {c0 : zC} {mo0 : zM} {v : Int32} (hx : p.tables.exec = Jvm.exec) (hb : cd.code = cc) (hr : meth.sig.returnType = some .int) (hlocks : meth.locks = false) (hw : zW E c mo s s.heap H locs) (hdg : decode cc pc = .ok (.ireturn, 1)) (h1 : v = r0) (h2 : c = c0) (h3 : mo = mo0) : W p l e R s m args below meth cd H locs 0 0 (MQ below (cQi E r0 c0 mo0) args s 0 0 (zA E)) (F0 m pc ls [.int v]) := by
  subst h1 h2 h3
  obtain ⟨⟨hP, hK, hO, hz, hn⟩, hS, hz0⟩ := hw
  exact W.iret hx hb hr (fun t ht hW => ⟨⟨v, (c, mo), rfl, ⟨rfl, rfl⟩, by rw [ht]; exact hP, va_K.moved hW.alike hK, hO, by rw [ht]; exact hz, zNw_moved hW hn⟩, hS.F ht⟩) hS.2.2 hdg hlocks
theorem z_zret {r0 : Int32} {c0 : zC} {mo0 : zM} {v : Int32} (hx : p.tables.exec = Jvm.exec) (hb : cd.code = cc) (hr : meth.sig.returnType = some .boolean) (hlocks : meth.locks = false) (hw : zW E c mo s s.heap H locs) (hdg : decode cc pc = .ok (.ireturn, 1)) (hn2 : narrow .boolean (.int v) = .int v) (h1 : v = r0) (h2 : c = c0) (h3 : mo = mo0) : W p l e R s m args below meth cd H locs 0 0 (MQ below (cQi E r0 c0 mo0) args s 0 0 (zA E)) (F0 m pc ls [.int v]) := by
  subst h1 h2 h3
  obtain ⟨⟨hP, hK, hO, hz, hn⟩, hS, hz0⟩ := hw
  exact W.zret hx hb hr hn2 (fun t ht hW => ⟨⟨v, (c, mo), rfl, ⟨rfl, rfl⟩, by rw [ht]; exact hP, va_K.moved hW.alike hK, hO, by rw [ht]; exact hz, zNw_moved hW hn⟩, hS.F ht⟩) hS.2.2 hdg hlocks
theorem z_lret {r0 : Int64} {c0 : zC} {mo0 : zM} {v : Int64} (hx : p.tables.exec = Jvm.exec) (hb : cd.code = cc) (hr : meth.sig.returnType = some .long) (hlocks : meth.locks = false) (hw : zW E c mo s s.heap H locs) (hdg : decode cc pc = .ok (.lreturn, 1)) (h1 : v = r0) (h2 : c = c0) (h3 : mo = mo0) : W p l e R s m args below meth cd H locs 0 0 (MQ below (cQl E r0 c0 mo0) args s 0 0 (zA E)) (F0 m pc ls [.long v]) := by
  subst h1 h2 h3
  obtain ⟨⟨hP, hK, hO, hz, hn⟩, hS, hz0⟩ := hw
  exact W.lret hx hb hr (fun t ht hW => ⟨⟨v, (c, mo), rfl, ⟨rfl, rfl⟩, by rw [ht]; exact hP, va_K.moved hW.alike hK, hO, by rw [ht]; exact hz, zNw_moved hW hn⟩, hS.F ht⟩) hS.2.2 hdg hlocks
theorem z_vret {c0 : zC} {mo0 : zM} (hx : p.tables.exec = Jvm.exec) (hb : cd.code = cc) (hr : meth.sig.returnType = none) (hlocks : meth.locks = false) (hw : zW E c mo s s.heap H locs) (hdg : decode cc pc = .ok (.return_, 1)) (h2 : c = c0) (h3 : mo = mo0) : W p l e R s m args below meth cd H locs 0 0 (MQ below (cQv E c0 mo0) args s 0 0 (zA E)) (F0 m pc ls []) := by
  subst h2 h3
  obtain ⟨⟨hP, hK, hO, hz, hn⟩, hS, hz0⟩ := hw
  exact W.vret hx hb hr (fun t ht hW => ⟨⟨(c, mo), rfl, rfl, by rw [ht]; exact hP, va_K.moved hW.alike hK, hO, by rw [ht]; exact hz, zNw_moved hW hn⟩, hS.F ht⟩) hS.2.2 hdg hlocks
theorem z_rret {r0 r1 : Nat} {c0 : zC} {mo0 : zM} {rt : FieldType} (hx : p.tables.exec = Jvm.exec) (hb : cd.code = cc) (hr : meth.sig.returnType = some rt) (hrt : ∃ n, rt = .object n) (hlocks : meth.locks = false) (hw : zW E c mo s s.heap H locs) (hdg : decode cc pc = .ok (.areturn, 1)) (h1 : r1 = r0) (h2 : c = c0) (h3 : mo = mo0) : W p l e R s m args below meth cd H locs 0 0 (MQ below (cQr E r0 c0 mo0) args s 0 0 (zA E)) (F0 m pc ls [.ref (zl E r1)]) := by
  subst h1 h2 h3
  obtain ⟨⟨hP, hK, hO, hz, hn⟩, hS, hz0⟩ := hw
  exact W.aret hx hb hr (Or.inl hrt) (Or.inr ⟨_, rfl⟩) (fun t ht hW => ⟨⟨(c, mo, r1), _, rfl, rfl, rfl, by rw [ht]; exact hP, va_K.moved hW.alike hK, hO, by rw [ht]; exact hz, zNw_moved hW hn⟩, hS.F ht⟩) hS.2.2 hdg hlocks
theorem zW_back {c1 : zC} {mo1 : zM} {H1 : Heap} {locs1 : List Loc} {t : State} (hw : zW E c mo s H0 H locs) (ht : t.heap = H1) (hvm : s.vm.Alike t.vm) (hB : zI E c1 mo1 t t.heap) (hS : va_S (zA E) H0 H1 locs1) : zW E c1 mo1 s H0 H1 locs1 := by
  subst ht
  exact ⟨⟨hB.1, va_K.moved hvm.symm hB.2.1, hB.2.2.1, hB.2.2.2.1, hw.1.2.2.2.2⟩, hS, hw.2.2⟩
theorem z_calli {st0 : List Value} {a : Array Value} {r : Int32} {c1 : zC} {mo1 : zM} (hr : va_Run p l e R s m args below meth cd H locs cells slots 0 0 (F0 m pc ls st0) rest (cQi E r c1 mo1 a) (zA E)) (hw : zW E c mo s H0 H locs) (kk : ∀ (H1 : Heap) (locs1 : List Loc), zW E c1 mo1 s H0 H1 locs1 → W p l e R s m args below meth cd H1 locs1 cells slots Q (F0 m (pc + 3) ls (.int r :: rest))) : W p l e R s m args below meth cd H locs cells slots Q (F0 m pc ls st0) := by
  refine va_calli hr hw.2.1 (fun _ _ h => h) (fun _ h => h) (fun r' u t H1 locs1 ht hvm hp hB hz1 hk1 hS => ?_)
  obtain ⟨rfl, rfl⟩ := hp
  exact kk H1 locs1 (zW_back hw ht hvm hB hS)
theorem z_calll {st0 : List Value} {a : Array Value} {r : Int64} {c1 : zC} {mo1 : zM} (hr : va_Run p l e R s m args below meth cd H locs cells slots 0 0 (F0 m pc ls st0) rest (cQl E r c1 mo1 a) (zA E)) (hw : zW E c mo s H0 H locs) (kk : ∀ (H1 : Heap) (locs1 : List Loc), zW E c1 mo1 s H0 H1 locs1 → W p l e R s m args below meth cd H1 locs1 cells slots Q (F0 m (pc + 3) ls (.long r :: rest))) : W p l e R s m args below meth cd H locs cells slots Q (F0 m pc ls st0) := by
  refine va_calll hr hw.2.1 (fun _ _ h => h) (fun _ h => h) (fun r' u t H1 locs1 ht hvm hp hB hz1 hk1 hS => ?_)
  obtain ⟨rfl, rfl⟩ := hp
  exact kk H1 locs1 (zW_back hw ht hvm hB hS)
theorem z_callv {st0 : List Value} {a : Array Value} {c1 : zC} {mo1 : zM} (hr : va_Run p l e R s m args below meth cd H locs cells slots 0 0 (F0 m pc ls st0) rest (cQv E c1 mo1 a) (zA E)) (hw : zW E c mo s H0 H locs) (kk : ∀ (H1 : Heap) (locs1 : List Loc), zW E c1 mo1 s H0 H1 locs1 → W p l e R s m args below meth cd H1 locs1 cells slots Q (F0 m (pc + 3) ls rest)) : W p l e R s m args below meth cd H locs cells slots Q (F0 m pc ls st0) := by
  refine va_callv hr hw.2.1 (fun _ _ h => h) (fun _ h => h) (fun u t H1 locs1 ht hvm hp hB hz1 hk1 hS => ?_)
  subst hp
  exact kk H1 locs1 (zW_back hw ht hvm hB hS)
theorem z_callr {st0 : List Value} {a : Array Value} {r : Nat} {c1 : zC} {mo1 : zM} (hr : va_Run p l e R s m args below meth cd H locs cells slots 0 0 (F0 m pc ls st0) rest (cQr E r c1 mo1 a) (zA E)) (hw : zW E c mo s H0 H locs) (kk : ∀ (H1 : Heap) (locs1 : List Loc), zW E c1 mo1 s H0 H1 locs1 → W p l e R s m args below meth cd H1 locs1 cells slots Q (F0 m (pc + 3) ls (.ref (zl E r) :: rest))) : W p l e R s m args below meth cd H locs cells slots Q (F0 m pc ls st0) := by
  refine va_callr hr hw.2.1 (fun _ _ h => h) (fun _ h => h) (fun u ra t H1 locs1 ht hvm hp hB hz1 hk1 hS => ?_)
  subst hp
  obtain ⟨rfl, hB⟩ := hB
  exact kk H1 locs1 (zW_back hw ht hvm hB hS)
/-- a field is read -/
theorem z_get (hx : p.tables.exec = Jvm.exec) (hb : cd.code = cc) {own ref C : String} {T : u_T} {N ci index i : Nat} {Ts : List Cond} (hts : ∀ w ∈ Ts, w.before args s = true) (hin : ∀ w ∈ u_ws C T N, w ∈ Ts) (hown : s.vm.findClass own = some m.cls) (hw : zW E c mo s H0 H locs) {fs : List Value} (hi : i < 42) (hG : zG E c mo i = .inr (ci, fs)) (hc : vwCl[ci]? = some (C, T, N)) (k : Nat) (hk : k < N) (hlink : (Cond.fieldLink own index ref (T k).2.1 (T k).2.2.1).before args s = true) (hsame : (T k).1 = ref) {v : Value} (hv : fs[k]? = some v) (hdg : decode cc pc = .ok (.getfield index, 3))
    (kk : W p l e R s m args below meth cd H locs cells slots Q (F0 m (pc + 3) ls (v :: rest))) : W p l e R s m args below meth cd H locs cells slots Q (F0 m pc ls (.ref (zl E i) :: rest)) :=
  va_get (D := zD E) (ci := ci) (v := v) (C := C) (T := T) (N := N) hx hb hts hin hown hw.1.2.1 hw.1.1 i (by rw [zL_get E _ hi, hG]) hc k hk hlink (fun x9 h9 => by rw [← hsame]; exact h9) hv hdg kk
/-- a field is written -/
theorem z_put (hx : p.tables.exec = Jvm.exec) (hb : cd.code = cc) {own ref C : String} {T : u_T} {N ci index i : Nat} {Ts : List Cond} (hts : ∀ w ∈ Ts, w.before args s = true) (hin : ∀ w ∈ u_ws C T N, w ∈ Ts) (ty0 : Nat → FieldType) (hty : ∀ k, k < N → parseFieldDescriptor (T k).2.2.1 = some (ty0 k)) (hnm : ∀ a, a < N → ∀ b, b < N → a ≠ b → (T a).2.1 ≠ (T b).2.1) (hown : s.vm.findClass own = some m.cls) (hw : zW E c mo s H0 H locs) {fs : List Value} (hi : i < 42) (hG : zG E c mo i = .inr (ci, fs)) (hc : vwCl[ci]? = some (C, T, N)) (k : Nat) (hk : k < N) (hlink : (Cond.fieldLink own index ref (T k).2.1 (T k).2.2.1).before args s = true) (hsame : (T k).1 = ref) (hfin : (T k).2.2.2 = false) {ty : FieldType} {v : Value} (hd : parseFieldDescriptor (T k).2.2.1 = some ty) (hn : narrow ty v = v) (hfit : fits ty v = true) (hl : k < fs.length) {c1 : zC} {mo1 : zM} (hU : va_up (zG E c mo) i (.inr (ci, fs.set k v)) = zG E c1 mo1) (hdg : decode cc pc = .ok (.putfield index, 3))
    (kk : ∀ (H1 : Heap) (locs1 : List Loc), zW E c1 mo1 s H0 H1 locs1 → W p l e R s m args below meth cd H1 locs1 cells slots Q (F0 m (pc + 3) ls rest)) : W p l e R s m args below meth cd H locs cells slots Q (F0 m pc ls (v :: .ref (zl E i) :: rest)) := by
  refine va_put (D := zD E) (ci := ci) (v := v) (ty := ty) (C := C) (T := T) (N := N) (H0 := H0) hx hb hts hin ty0 hty hnm hown hw.1.2.1 hw.1.1 (zD_of hw.1.2.2.1 _) hw.2.1 i (by rw [zL_get E _ hi, hG]) hc k hk hlink (fun x9 h9 => by rw [← hsame]; exact h9) hfin hd hn hfit hl hdg (fun H1 locs1 hP hD hS => ?_)
  rw [zL_set E _ hi, hU] at hP
  exact kk H1 locs1 ⟨⟨hP, hw.1.2.1, hw.1.2.2.1, Nat.le_trans hw.2.2 hS.1, hw.1.2.2.2.2⟩, hS, hw.2.2⟩
theorem z_iald (hx : p.tables.exec = Jvm.exec) (hb : cd.code = cc) (hw : zW E c mo s H0 H locs) {i n : Nat} {f : Nat → Int32} (hi : i < 42) (hG : zG E c mo i = .inl (zcy E 0, n, .inl f)) {x : Int32} (hin : vp_in x n) (hdg : decode cc pc = .ok (.iaload, 1)) (kk : W p l e R s m args below meth cd H locs cells slots Q (F0 m (pc + 1) ls (.int (f x.toNatClampNeg) :: rest))) : W p l e R s m args below meth cd H locs cells slots Q (F0 m pc ls (.int x :: .ref (zl E i) :: rest)) :=
  va_iald hx hb hw.1.2.1 hw.1.1 i 0 (by rw [zL_get E _ hi, hG]) rfl hin hdg kk
theorem z_lald (hx : p.tables.exec = Jvm.exec) (hb : cd.code = cc) (hw : zW E c mo s H0 H locs) {i n : Nat} {f : Nat → Int64} (hi : i < 42) (hG : zG E c mo i = .inl (zcy E 1, n, .inr (.inl f))) {x : Int32} (hin : vp_in x n) (hdg : decode cc pc = .ok (.laload, 1)) (kk : W p l e R s m args below meth cd H locs cells slots Q (F0 m (pc + 1) ls (.long (f x.toNatClampNeg) :: rest))) : W p l e R s m args below meth cd H locs cells slots Q (F0 m pc ls (.int x :: .ref (zl E i) :: rest)) :=
  va_lald hx hb hw.1.2.1 hw.1.1 i 1 (by rw [zL_get E _ hi, hG]) rfl hin hdg kk
theorem z_aald (hx : p.tables.exec = Jvm.exec) (hb : cd.code = cc) (hw : zW E c mo s H0 H locs) {i n t0 : Nat} {C : String} {f : Nat → Nat} (hi : i < 42) (hG : zG E c mo i = .inl (zcy E t0, n, .inr (.inr (.inr (.inr (fun k => some (zl E (f k)))))))) (ht : (zT E)[t0]? = some (zcy E t0, .object C)) {x : Int32} (hin : vp_in x n) (hdg : decode cc pc = .ok (.aaload, 1)) (kk : W p l e R s m args below meth cd H locs cells slots Q (F0 m (pc + 1) ls (.ref (zl E (f x.toNatClampNeg)) :: rest))) : W p l e R s m args below meth cd H locs cells slots Q (F0 m pc ls (.int x :: .ref (zl E i) :: rest)) :=
  va_aldq (f := fun k => some (zl E (f k))) hx hb hw.1.2.1 hw.1.1 i t0 (by rw [zL_get E _ hi, hG]) ht hin hdg kk
theorem z_iast (hx : p.tables.exec = Jvm.exec) (hb : cd.code = cc) (hw : zW E c mo s H0 H locs) {i n : Nat} {f : Nat → Int32} (hi : i < 42) (hG : zG E c mo i = .inl (zcy E 0, n, .inl f)) {x v : Int32} (hin : vp_in x n) {c1 : zC} {mo1 : zM} (hU : va_up (zG E c mo) i (.inl (zcy E 0, n, .inl (upd f x.toNatClampNeg v))) = zG E c1 mo1) (hdg : decode cc pc = .ok (.iastore, 1)) (kk : ∀ (H1 : Heap) (locs1 : List Loc), zW E c1 mo1 s H0 H1 locs1 → W p l e R s m args below meth cd H1 locs1 cells slots Q (F0 m (pc + 1) ls rest)) : W p l e R s m args below meth cd H locs cells slots Q (F0 m pc ls (.int v :: .int x :: .ref (zl E i) :: rest)) := by
  refine va_iast (H0 := H0) hx hb hw.1.2.1 hw.1.1 (zD_of hw.1.2.2.1 _) hw.2.1 i 0 (by rw [zL_get E _ hi, hG]) rfl hin hdg (fun H1 locs1 hP hD hS => ?_)
  rw [zL_set E _ hi, hU] at hP
  exact kk H1 locs1 ⟨⟨hP, hw.1.2.1, hw.1.2.2.1, Nat.le_trans hw.2.2 hS.1, hw.1.2.2.2.2⟩, hS, hw.2.2⟩
theorem z_last (hx : p.tables.exec = Jvm.exec) (hb : cd.code = cc) (hw : zW E c mo s H0 H locs) {i n : Nat} {f : Nat → Int64} (hi : i < 42) (hG : zG E c mo i = .inl (zcy E 1, n, .inr (.inl f))) {x : Int32} {v : Int64} (hin : vp_in x n) {c1 : zC} {mo1 : zM} (hU : va_up (zG E c mo) i (.inl (zcy E 1, n, .inr (.inl (vp_updL f x.toNatClampNeg v)))) = zG E c1 mo1) (hdg : decode cc pc = .ok (.lastore, 1)) (kk : ∀ (H1 : Heap) (locs1 : List Loc), zW E c1 mo1 s H0 H1 locs1 → W p l e R s m args below meth cd H1 locs1 cells slots Q (F0 m (pc + 1) ls rest)) : W p l e R s m args below meth cd H locs cells slots Q (F0 m pc ls (.long v :: .int x :: .ref (zl E i) :: rest)) := by
  refine va_last (H0 := H0) hx hb hw.1.2.1 hw.1.1 (zD_of hw.1.2.2.1 _) hw.2.1 i 1 (by rw [zL_get E _ hi, hG]) rfl hin hdg (fun H1 locs1 hP hD hS => ?_)
  rw [zL_set E _ hi, hU] at hP
  exact kk H1 locs1 ⟨⟨hP, hw.1.2.1, hw.1.2.2.1, Nat.le_trans hw.2.2 hS.1, hw.1.2.2.2.2⟩, hS, hw.2.2⟩
theorem z_aast (hx : p.tables.exec = Jvm.exec) (hb : cd.code = cc) (hw : zW E c mo s H0 H locs) {i j n t0 ci : Nat} {q : vw_C} {vs : List Value} {f : Nat → Option Nat} (hi : i < 42) (hj : j < 42) (hG : zG E c mo i = .inl (zcy E t0, n, .inr (.inr (.inr (.inr f))))) (hGj : zG E c mo j = .inr (ci, vs)) (hc : vwCl[ci]? = some q) (ht : (zT E)[t0]? = some (zcy E t0, .object q.1)) {x : Int32} (hin : vp_in x n) {c1 : zC} {mo1 : zM} (hU : va_up (zG E c mo) i (.inl (zcy E t0, n, .inr (.inr (.inr (.inr (va_up f x.toNatClampNeg (some (zl E j)))))))) = zG E c1 mo1) (hdg : decode cc pc = .ok (.aastore, 1)) (kk : ∀ (H1 : Heap) (locs1 : List Loc), zW E c1 mo1 s H0 H1 locs1 → W p l e R s m args below meth cd H1 locs1 cells slots Q (F0 m (pc + 1) ls rest)) : W p l e R s m args below meth cd H locs cells slots Q (F0 m pc ls (.ref (zl E j) :: .int x :: .ref (zl E i) :: rest)) := by
  refine va_astq (H0 := H0) hx hb hw.1.2.1 hw.1.1 (zD_of hw.1.2.2.1 _) hw.2.1 i t0 j ci (by rw [zL_get E _ hi, hG]) ht (by rw [zL_get E _ hj, hGj]) hc hin hdg (fun H1 locs1 hP hD hS => ?_)
  rw [zL_set E _ hi, hU] at hP
  exact kk H1 locs1 ⟨⟨hP, hw.1.2.1, hw.1.2.2.1, Nat.le_trans hw.2.2 hS.1, hw.1.2.2.2.2⟩, hS, hw.2.2⟩
theorem z_acmpeq (hx : p.tables.exec = Jvm.exec) (hb : cd.code = cc) (hw : zW E c mo s H0 H locs) {i j : Nat} (hi : i < 42) (hj : j < 42) {off : Int} {tgt : Nat} (hdg : decode cc pc = .ok (.if_acmp .eq off, 3)) (ht : (pc : Int) + off = (tgt : Int)) (kt : i = j → W p l e R s m args below meth cd H locs cells slots Q (F0 m tgt ls rest)) (kf : ¬ i = j → W p l e R s m args below meth cd H locs cells slots Q (F0 m (pc + 3) ls rest)) : W p l e R s m args below meth cd H locs cells slots Q (F0 m pc ls (.ref (zl E j) :: .ref (zl E i) :: rest)) :=
  lv_acmp_eq (rx := some (zl E i)) (ry := some (zl E j)) hx hb hdg ht (fun h => kt (hw.1.2.2.1.1 i j hi hj (Option.some.inj h))) (fun h => kf (fun q => h (by rw [q])))
theorem z_acmpne (hx : p.tables.exec = Jvm.exec) (hb : cd.code = cc) (hw : zW E c mo s H0 H locs) {i j : Nat} (hi : i < 42) (hj : j < 42) {off : Int} {tgt : Nat} (hdg : decode cc pc = .ok (.if_acmp .ne off, 3)) (ht : (pc : Int) + off = (tgt : Int)) (kt : ¬ i = j → W p l e R s m args below meth cd H locs cells slots Q (F0 m tgt ls rest)) (kf : i = j → W p l e R s m args below meth cd H locs cells slots Q (F0 m (pc + 3) ls rest)) : W p l e R s m args below meth cd H locs cells slots Q (F0 m pc ls (.ref (zl E j) :: .ref (zl E i) :: rest)) :=
  lv_acmp_ne (rx := some (zl E i)) (ry := some (zl E j)) hx hb hdg ht (fun h => kt (fun q => h (by rw [q]))) (fun h => kf (hw.1.2.2.1.1 i j hi hj (Option.some.inj h)))
end ZW
