/-! cells that appear: a world that grows, at addresses from sz on; what each cell is: cn -/
def nN (sz : Nat) (cn : Nat → va_E) (n : Nat) : va_W := (List.range n).map (fun i => (sz + i, cn i))
theorem nN_at (sz : Nat) (cn : Nat → va_E) {n i : Nat} (h : i < n) : (nN sz cn n)[i]? = some (sz + i, cn i) := by simp [nN, h]
theorem nN_lt {sz : Nat} {cn : Nat → va_E} {n i : Nat} {q : Nat × va_E} (h : (nN sz cn n)[i]? = some q) : i < n := by
  have := (List.getElem?_eq_some_iff.mp h).1
  simpa [nN] using this
def cu (cn : Nat → va_E) (o : Nat) (x : va_E) : Nat → va_E := fun i => if i = o then x else cn i
theorem cu_s (cn : Nat → va_E) (o : Nat) (x : va_E) : cu cn o x o = x := by simp [cu]
theorem cu_o (cn : Nat → va_E) {o i : Nat} (x : va_E) (h : i ≠ o) : cu cn o x i = cn i := by simp [cu, h]
def nAr (sz : Nat) : Nat → Prop := fun q => sz ≤ q
theorem nN_D (sz : Nat) (cn : Nat → va_E) (n : Nat) : va_D (nAr sz) (nN sz cn n) := by
  refine ⟨fun i j p q hp hq h => ?_, fun k q hk => ?_⟩
  · have hi := nN_lt hp
    have hj := nN_lt hq
    rw [nN_at sz cn hi] at hp
    rw [nN_at sz cn hj] at hq
    cases hp
    cases hq
    have h : sz + i = sz + j := h
    omega
  · have hi := nN_lt hk
    rw [nN_at sz cn hi] at hk
    cases hk
    exact Nat.le_add_right _ _
theorem nN_cg {sz n : Nat} {cn cn' : Nat → va_E} (h : ∀ i, i < n → cn i = cn' i) : nN sz cn n = nN sz cn' n := List.map_congr_left (fun i hi => by rw [h i (List.mem_range.mp hi)])
theorem nN_push (sz : Nat) (cn : Nat → va_E) (n : Nat) (x : va_E) : nN sz cn n ++ [(sz + n, x)] = nN sz (cu cn n x) (n + 1) := by
  unfold nN
  rw [List.range_succ, List.map_append]
  have h1 : (List.range n).map (fun i => (sz + i, cn i)) = (List.range n).map (fun i => (sz + i, cu cn n x i)) := List.map_congr_left (fun i hi => by
    have := List.mem_range.mp hi
    rw [cu_o _ _ (by omega)])
  rw [h1]
  simp [cu]
theorem nN_set (sz : Nat) (cn : Nat → va_E) (n : Nat) {o : Nat} (x : va_E) : (nN sz cn n).set o (sz + o, x) = nN sz (cu cn o x) n := by
  apply List.ext_getElem?
  intro i
  by_cases hi : i < n
  · rw [nN_at sz _ hi]
    by_cases ho : o = i
    · subst ho
      rw [List.getElem?_set_self (by simpa [nN] using hi), cu_s]
    · rw [List.getElem?_set_ne ho, nN_at sz cn hi, cu_o _ _ (fun h => ho h.symm)]
  · rw [List.getElem?_eq_none (by simpa [nN] using hi), List.getElem?_eq_none (by simpa [nN] using hi)]
theorem n_addr {D : va_G} {cl : List vw_C} {sz n q : Nat} {cn : Nat → va_E} {x : va_E} {H1 : Heap} (hP : va_P D cl (nN sz cn n ++ [(q, x)]) H1) (hD : va_D (nAr sz) (nN sz cn n ++ [(q, x)])) (hz : H1.size ≤ sz + n + 1) : q = sz + n := by
  have hl : (nN sz cn n).length = n := by simp [nN]
  have hq : (nN sz cn n ++ [(q, x)])[n]? = some (q, x) := by
    rw [List.getElem?_append_right (by omega), hl, Nat.sub_self]
    rfl
  have h1 : q < H1.size := (hP n _ hq).lt
  have h2 : sz ≤ q := hD.2 n _ hq
  rcases Nat.lt_or_ge q (sz + n) with h3 | h3
  · have h4 : (nN sz cn n ++ [(q, x)])[q - sz]? = some (sz + (q - sz), cn (q - sz)) := by
      rw [List.getElem?_append_left (by omega), nN_at sz cn (by omega)]
    have := hD.1 (q - sz) n _ _ h4 hq (by show sz + (q - sz) = q; omega)
    omega
  · omega
/-- private makers that nest mates call -/
def nNest : List (String × Nat × MethodName) := [(RX2, 9, yX9_init), (RX3, 20, yX9_init), (RX3, 27, yX8_init), (RX4, 17, yX9_init), (RX6, 26, yX8_init), (RX10, 9, yX7_init), (RX10, 18, yX9_init), (RX10, 35, yX1_init), (RX10, 46, yX2_init), (RX10, 49, yX3_init), (RX10, 56, yX6_init), (RX10, 63, yX0_init), (RX10, 70, yX5_init)]
def nE (E : qE) (U : State) : Prop := va_K E.1 vwCl (qT E) U ∧ (∀ q ∈ nNest, va_Nw (.methodLinkNest q.1 q.2.1 q.2.2 "CrowFences") U) ∧ va_AO RX2 U ∧ va_AO RX9 U
theorem nE.warm {E : qE} {s U : State} (hW : s.WarmedH U.vm) (h : nE E s) : nE E U := ⟨va_K.moved hW.alike h.1, fun q hq => va_Nw.warmM hW (h.2.1 q hq), va_AO.moved hW.alike h.2.2.1, va_AO.moved hW.alike h.2.2.2⟩
def nPre (E : qE) (sz : Nat) (cn : Nat → va_E) (n : Nat) (U : State) : Prop := U.heap.size = sz + n ∧ va_P E.1 vwCl (nN sz cn n) U.heap ∧ nE E U
def nM (E : qE) (sz : Nat) (cn : Nat → va_E) (n : Nat) (s : State) (H : Heap) (locs : List Loc) : Prop := va_P E.1 vwCl (nN sz cn n) H ∧ va_S (nAr sz) s.heap H locs
abbrev nQ (E : qE) (sz : Nat) (cn : Nat → va_E) (n : Nat) : Array Value → State → Outcome → State → Prop := va_Qv (S := Unit) (fun _ => True) (fun _ t => va_P E.1 vwCl (nN sz cn n) t.heap) (nAr sz)
/-- a maker: from the world cn of n cells to cn' of n' -/
def NV (E : qE) (sz : Nat) (l : Launch) (y : MethodName) (ws : List Cond) (rm : Room) (mc ms : Nat) (av : List Value) (cn : Nat → va_E) (n : Nat) (cn' : Nat → va_E) (n' : Nat) : Prop := Met l y ws rm (va_Pc av (nPre E sz cn n)) (nQ E sz cn' n') mc ms (nAr sz)
theorem nPre_blind {E : qE} {sz n : Nat} {cn : Nat → va_E} {av : List Value} : FrameBlind (va_Pc av (nPre E sz cn n)) := by
  intro a U g mk q
  obtain ⟨q0, q1, qP, qK, qN, qA, qB⟩ := q
  exact ⟨q0, q1, qP, va_K.moved (u := U) (U := U.calling g mk a) (Vm.Alike.refl U.vm) qK, fun w hw => va_Nw.same (u := U) rfl rfl (qN w hw), va_AO.moved (u := U) (U := U.calling g mk a) (Vm.Alike.refl U.vm) qA, va_AO.moved (u := U) (U := U.calling g mk a) (Vm.Alike.refl U.vm) qB⟩
def nC (E : qE) (sz n0 : Nat) (p : Program) (s : State) (m : MethodId) (args : Array Value) (meth : Method) (c : Code) (cc : ByteArray) (nL : Nat) (Ts : List Cond) (own : String) : Prop :=
  p.tables.exec = Jvm.exec ∧ c.code = cc ∧ c.maxLocals = nL ∧ s.vm.findClass own = some m.cls ∧ (∀ w ∈ Ts, w.before args s = true) ∧ nE E s ∧ meth.locks = false ∧ meth.sig.returnType = none ∧ meth.name = "<init>" ∧ s.heap.size = sz + n0
theorem nM_body {E : qE} {sz n n0 : Nat} {cn : Nat → va_E} {l : Launch} {y : MethodName} {ws ws' : List Cond} {rm : Room} {av : List Value} {Qc : Array Value → State → Outcome → State → Prop} {mc ms : Nat} {cc : ByteArray} {maxL : Nat} (own : String) (hown : y.cls = own) (hy : plainName y.cls = true) (hnm : y.name = "<init>") (hw : ws = Cond.code y cc maxL none :: ws') (hn : n = n0)
    (body : ∀ (p : Program) (e : Env) (s : State) (m : MethodId) (below : List Frame) (meth : Method) (c : Code), nC E sz n0 p s m av.toArray meth c cc maxL ws own → nM E sz cn n s s.heap [] → W p l e (headSpec ws rm).room s m av.toArray below meth c s.heap [] 0 0 (MQ below Qc av.toArray s mc ms (nAr sz)) (entryFrame m av.toArray maxL)) : Met l y ws rm (va_Pc av (nPre E sz cn n)) Qc mc ms (nAr sz) := by
  refine Met.ofW (cc := cc) (maxL := maxL) (ret := none) hy hw ?_
  intro p e s m args below meth c s₁ B hml hv
  obtain ⟨rfl, hsz, hP, hE⟩ := hv
  subst hown
  exact body p e s m below meth c ⟨B.exec, B.bytes, hml, findClass_of_methodNamed B.named, atoms_spec (ws := ws) B.pre, hE, B.notSynchronized, B.returns, (name_of_methodNamed B.named B.method).1.trans hnm, by rw [hsz, hn]⟩ ⟨hP, va_S.rf⟩
section NB
variable {p : Program} {l : Launch} {e : Env} {R : Room} {s : State} {m : MethodId} {args : Array Value} {below : List Frame} {meth : Method} {c : Code} {H : Heap} {locs : List Loc} {cells slots : Nat} {Q : State → Prop}
variable {pc : Nat} {ls : Array Slot} {rest : List Value} {cc : ByteArray} {nL : Nat} {Ts : List Cond} {own : String}
variable {E : qE} {sz n n0 : Nat} {cn : Nat → va_E}
/-- the heap holds no more than what was made -/
theorem n_cap {g : JFrame} (kk : H.size ≤ s.heap.size + cells → W p l e R s m args below meth c H locs cells slots Q g) : W p l e R s m args below meth c H locs cells slots Q g := fun T hT X => kk (by rw [← hT]; exact X.same.2.2.1) T hT X
theorem n_A (C : nC E sz n0 p s m args meth c cc nL Ts own) : ∀ q, s.heap.size ≤ q → nAr sz q := fun q h => by
  have := C.2.2.2.2.2.2.2.2.2
  show sz ≤ q
  omega
theorem n_lo (hM : nM E sz cn n s H locs) (hn : 0 < n) : sz + n ≤ H.size := by
  have : sz + (n - 1) < H.size := (hM.1 (n - 1) _ (nN_at sz cn (by omega))).lt
  omega
theorem n_new (C : nC E sz n0 p s m args meth c cc nL Ts own) (hM : nM E sz cn n s H locs) (hn : n = n0 + cells) {ci N index : Nat} {Cn : String} {T : u_T} {fs : List Value} (hin : ∀ w ∈ u_ws Cn T N, w ∈ Ts) (ty0 : Nat → FieldType) (hty : ∀ k, k < N → parseFieldDescriptor (T k).2.2.1 = some (ty0 k)) (hcl : (Cond.classLink own index Cn).before args s = true) (hinst : (Cond.instantiable Cn N).before args s = true) (hini : (Cond.initialized Cn).before args s = true) (hc : vwCl[ci]? = some (Cn, T, N)) (hfs : ∀ j, j < N → defaultValue (ty0 j) = vp_V fs j) (hcells : cells + 1 ≤ R.cells) (hslots : slots + N ≤ R.slots) (hdg : decode cc pc = .ok (.new index, 3))
    (kk : ∀ H1 : Heap, nM E sz (cu cn n (.inr (ci, fs))) (n + 1) s H1 locs → W p l e R s m args below meth c H1 locs (cells + 1) (slots + N) Q (F0 m (pc + 3) ls (.ref (sz + n) :: rest))) : W p l e R s m args below meth c H locs cells slots Q (F0 m pc ls rest) :=
  va_new (D := E.1) (cl := vwCl) (tys := qT E) (ws := nN sz cn n) (A := nAr sz) (H0 := s.heap) C.1 C.2.1 C.2.2.2.2.1 hin ty0 hty C.2.2.2.1 hcl hinst hini C.2.2.2.2.2.1.1 hM.1 (nN_D sz cn n) hM.2 (n_A C) hc hfs hcells hslots hdg (fun q H1 hP hD hS => n_cap (fun hz => by
    have hs0 := C.2.2.2.2.2.2.2.2.2
    have hq : q = sz + n := n_addr hP hD (by omega)
    subst hq
    rw [nN_push] at hP
    exact kk H1 ⟨hP, hS⟩))
theorem n_newi (C : nC E sz n0 p s m args meth c cc nL Ts own) (hM : nM E sz cn n s H locs) (hn : n = n0 + cells) {v : Int32} {L : Nat} (harr : (Cond.arrayClass .int).before args s = true) (hv : ¬ v < 0) (hL : v.toNatClampNeg = L) (hb : L * componentBytes .int ≤ 536870912) (hcells : cells + 1 ≤ R.cells) (hslots : slots + L ≤ R.slots) (hdg : decode cc pc = .ok (.newarray .int, 2))
    (kk : ∀ H1 : Heap, nM E sz (cu cn n (.inl (E.2.1, L, .inl (fun _ => 0)))) (n + 1) s H1 locs → W p l e R s m args below meth c H1 locs (cells + 1) (slots + L) Q (F0 m (pc + 2) ls (.ref (sz + n) :: rest))) : W p l e R s m args below meth c H locs cells slots Q (F0 m pc ls (.int v :: rest)) :=
  va_newa (D := E.1) (cl := vwCl) (tys := qT E) (ws := nN sz cn n) (A := nAr sz) (H0 := s.heap) (atype := .int) (ty := .int) (a0 := (L, .inl (fun _ => 0))) C.1 C.2.1 harr rfl C.2.2.2.2.2.1.1 hM.1 (nN_D sz cn n) hM.2 (n_A C) (fun _ => rfl) hv hL hb hcells hslots hdg (fun q cA H1 hK hP hD hS => n_cap (fun hz => by
    have hs0 := C.2.2.2.2.2.2.2.2.2
    have hq : q = sz + n := n_addr hP hD (by omega)
    have h1 : s.vm.findClass ("[" ++ FieldType.int.toString) = some cA := (hK.2 4 (cA, .int) rfl).2
    have h2 : s.vm.findClass ("[" ++ FieldType.int.toString) = some E.2.1 := (C.2.2.2.2.2.1.1.2 0 (E.2.1, .int) rfl).2
    have hc : cA = E.2.1 := Option.some.inj (h1.symm.trans h2)
    subst hq
    subst hc
    rw [nN_push] at hP
    exact kk H1 ⟨hP, hS⟩))
theorem n_newz (C : nC E sz n0 p s m args meth c cc nL Ts own) (hM : nM E sz cn n s H locs) (hn : n = n0 + cells) {v : Int32} {L : Nat} (harr : (Cond.arrayClass .boolean).before args s = true) (hv : ¬ v < 0) (hL : v.toNatClampNeg = L) (hb : L * componentBytes .boolean ≤ 536870912) (hcells : cells + 1 ≤ R.cells) (hslots : slots + L ≤ R.slots) (hdg : decode cc pc = .ok (.newarray .boolean, 2))
    (kk : ∀ H1 : Heap, nM E sz (cu cn n (.inl (E.2.2.1, L, .inl (fun _ => 0)))) (n + 1) s H1 locs → W p l e R s m args below meth c H1 locs (cells + 1) (slots + L) Q (F0 m (pc + 2) ls (.ref (sz + n) :: rest))) : W p l e R s m args below meth c H locs cells slots Q (F0 m pc ls (.int v :: rest)) :=
  va_newa (D := E.1) (cl := vwCl) (tys := qT E) (ws := nN sz cn n) (A := nAr sz) (H0 := s.heap) (atype := .boolean) (ty := .boolean) (a0 := (L, .inl (fun _ => 0))) C.1 C.2.1 harr rfl C.2.2.2.2.2.1.1 hM.1 (nN_D sz cn n) hM.2 (n_A C) (fun _ => rfl) hv hL hb hcells hslots hdg (fun q cA H1 hK hP hD hS => n_cap (fun hz => by
    have hs0 := C.2.2.2.2.2.2.2.2.2
    have hq : q = sz + n := n_addr hP hD (by omega)
    have h1 : s.vm.findClass ("[" ++ FieldType.boolean.toString) = some cA := (hK.2 4 (cA, .boolean) rfl).2
    have h2 : s.vm.findClass ("[" ++ FieldType.boolean.toString) = some E.2.2.1 := (C.2.2.2.2.2.1.1.2 1 (E.2.2.1, .boolean) rfl).2
    have hc : cA = E.2.2.1 := Option.some.inj (h1.symm.trans h2)
    subst hq
    subst hc
    rw [nN_push] at hP
    exact kk H1 ⟨hP, hS⟩))
theorem n_newq (C : nC E sz n0 p s m args meth c cc nL Ts own) (hM : nM E sz cn n s H locs) (hn : n = n0 + cells) {Cn : String} {index k : Nat} {cR : ClassId} (hk : (qT E)[k]? = some (cR, .object Cn)) (hcl : (Cond.classLink own index Cn).before args s = true) (hov : va_AO Cn s) {v : Int32} {L : Nat} (hv : ¬ v < 0) (hL : v.toNatClampNeg = L) (hb : L * 4 ≤ 536870912) (hcells : cells + 1 ≤ R.cells) (hslots : slots + L ≤ R.slots) (hdg : decode cc pc = .ok (.anewarray index, 3))
    (kk : ∀ H1 : Heap, nM E sz (cu cn n (.inl (cR, L, .inr (.inr (.inr (.inr (fun _ => none))))))) (n + 1) s H1 locs → W p l e R s m args below meth c H1 locs (cells + 1) (slots + L) Q (F0 m (pc + 3) ls (.ref (sz + n) :: rest))) : W p l e R s m args below meth c H locs cells slots Q (F0 m pc ls (.int v :: rest)) :=
  va_newq (D := E.1) (cl := vwCl) (tys := qT E) (ws := nN sz cn n) (A := nAr sz) (H0 := s.heap) C.1 C.2.1 C.2.2.2.1 hcl hov C.2.2.2.2.2.1.1 hM.1 (nN_D sz cn n) hM.2 (n_A C) hv hL hb hcells hslots hdg (fun q cA H1 hK hP hD hS => n_cap (fun hz => by
    have hs0 := C.2.2.2.2.2.2.2.2.2
    have hq : q = sz + n := n_addr hP hD (by omega)
    obtain ⟨_, _, _, _, _, h1⟩ := (hK.2 4 (cA, .object Cn) rfl).2
    obtain ⟨_, _, _, _, _, h2⟩ := (C.2.2.2.2.2.1.1.2 k (cR, .object Cn) hk).2
    have hc : cA = cR := Option.some.inj (h1.symm.trans h2)
    subst hq
    subst hc
    rw [nN_push] at hP
    exact kk H1 ⟨hP, hS⟩))
theorem n_get (C : nC E sz n0 p s m args meth c cc nL Ts own) (hM : nM E sz cn n s H locs) {o ci N index k : Nat} {ref Cn : String} {T : u_T} {fs : List Value} {v : Value} (ho : cn o = .inr (ci, fs)) (hoN : o < n) (hc : vwCl[ci]? = some (Cn, T, N)) (hin : ∀ w ∈ u_ws Cn T N, w ∈ Ts) (hk : k < N) (hlink : (Cond.fieldLink own index ref (T k).2.1 (T k).2.2.1).before args s = true) (hsame : (T k).1 = ref) (hv : fs[k]? = some v) (hdg : decode cc pc = .ok (.getfield index, 3))
    (kk : W p l e R s m args below meth c H locs cells slots Q (F0 m (pc + 3) ls (v :: rest))) : W p l e R s m args below meth c H locs cells slots Q (F0 m pc ls (.ref (sz + o) :: rest)) :=
  va_get (D := E.1) (cl := vwCl) (ws := nN sz cn n) C.1 C.2.1 C.2.2.2.2.1 hin C.2.2.2.1 C.2.2.2.2.2.1.1 hM.1 o ((nN_at sz cn hoN).trans (by rw [ho])) hc k hk hlink (fun x h => by rw [← hsame]; exact h) hv hdg kk
theorem n_put (C : nC E sz n0 p s m args meth c cc nL Ts own) (hM : nM E sz cn n s H locs) {o ci N index k : Nat} {ref Cn : String} {T : u_T} {fs : List Value} {v : Value} {ty : FieldType} (ho : cn o = .inr (ci, fs)) (hoN : o < n) (hc : vwCl[ci]? = some (Cn, T, N)) (hin : ∀ w ∈ u_ws Cn T N, w ∈ Ts) (ty0 : Nat → FieldType) (hty : ∀ k, k < N → parseFieldDescriptor (T k).2.2.1 = some (ty0 k)) (hnm : ∀ a, a < N → ∀ b, b < N → a ≠ b → (T a).2.1 ≠ (T b).2.1) (hk : k < N) (hlink : (Cond.fieldLink own index ref (T k).2.1 (T k).2.2.1).before args s = true) (hsame : (T k).1 = ref) (hfin : (T k).2.2.2 = false) (hd : parseFieldDescriptor (T k).2.2.1 = some ty) (hnr : narrow ty v = v) (hfit : fits ty v = true) (hl : k < fs.length) (hdg : decode cc pc = .ok (.putfield index, 3))
    (kk : ∀ (H1 : Heap) (locs1 : List Loc), nM E sz (cu cn o (.inr (ci, fs.set k v))) n s H1 locs1 → W p l e R s m args below meth c H1 locs1 cells slots Q (F0 m (pc + 3) ls rest)) : W p l e R s m args below meth c H locs cells slots Q (F0 m pc ls (v :: .ref (sz + o) :: rest)) :=
  va_put (D := E.1) (cl := vwCl) (ws := nN sz cn n) C.1 C.2.1 C.2.2.2.2.1 hin ty0 hty hnm C.2.2.2.1 C.2.2.2.2.2.1.1 hM.1 (nN_D sz cn n) hM.2 o ((nN_at sz cn hoN).trans (by rw [ho])) hc k hk hlink (fun x h => by rw [← hsame]; exact h) hfin hd hnr hfit hl hdg (fun H1 locs1 h1 h2 h3 => by
    rw [nN_set] at h1
    exact kk H1 locs1 ⟨h1, h3⟩)
theorem n_putF (C : nC E sz n0 p s m args meth c cc nL Ts own) (hM : nM E sz cn n s H locs) {o ci N index k : Nat} {ref Cn : String} {T : u_T} {fs : List Value} {v : Value} {ty : FieldType} (ho : cn o = .inr (ci, fs)) (hoN : o < n) (hc : vwCl[ci]? = some (Cn, T, N)) (hin : ∀ w ∈ u_ws Cn T N, w ∈ Ts) (ty0 : Nat → FieldType) (hty : ∀ k, k < N → parseFieldDescriptor (T k).2.2.1 = some (ty0 k)) (hnm : ∀ a, a < N → ∀ b, b < N → a ≠ b → (T a).2.1 ≠ (T b).2.1) (hk : k < N) (hlink : (Cond.fieldLink own index ref (T k).2.1 (T k).2.2.1).before args s = true) (hsame : (T k).1 = ref) (hfin : (T k).2.2.2 = true) (hdecl : (T k).1 = own) (hd : parseFieldDescriptor (T k).2.2.1 = some ty) (hnr : narrow ty v = v) (hfit : fits ty v = true) (hl : k < fs.length) (hdg : decode cc pc = .ok (.putfield index, 3))
    (kk : ∀ (H1 : Heap) (locs1 : List Loc), nM E sz (cu cn o (.inr (ci, fs.set k v))) n s H1 locs1 → W p l e R s m args below meth c H1 locs1 cells slots Q (F0 m (pc + 3) ls rest)) : W p l e R s m args below meth c H locs cells slots Q (F0 m pc ls (v :: .ref (sz + o) :: rest)) :=
  va_putF (D := E.1) (cl := vwCl) (ws := nN sz cn n) C.1 C.2.1 C.2.2.2.2.1 hin ty0 hty hnm C.2.2.2.1 C.2.2.2.2.2.1.1 hM.1 (nN_D sz cn n) hM.2 o ((nN_at sz cn hoN).trans (by rw [ho])) hc k hk hlink (fun x h => by rw [← hsame]; exact h) hfin C.2.2.2.2.2.2.2.2.1 hdecl hd hnr hfit hl hdg (fun H1 locs1 h1 h2 h3 => by
    rw [nN_set] at h1
    exact kk H1 locs1 ⟨h1, h3⟩)
theorem n_aast (C : nC E sz n0 p s m args meth c cc nL Ts own) (hM : nM E sz cn n s H locs) {o v ci L t0 : Nat} {cR : ClassId} {r : vw_C} {vs : List Value} {f : Nat → Option Nat} (ho : cn o = .inl (cR, L, .inr (.inr (.inr (.inr f))))) (hoN : o < n) (ht : (qT E)[t0]? = some (cR, .object r.1)) (hv : cn v = .inr (ci, vs)) (hvN : v < n) (hc : vwCl[ci]? = some r) {i : Int32} (hin : vp_in i L) (hdg : decode cc pc = .ok (.aastore, 1))
    (kk : ∀ (H1 : Heap) (locs1 : List Loc), nM E sz (cu cn o (.inl (cR, L, .inr (.inr (.inr (.inr (va_up f i.toNatClampNeg (some (sz + v))))))))) n s H1 locs1 → W p l e R s m args below meth c H1 locs1 cells slots Q (F0 m (pc + 1) ls rest)) : W p l e R s m args below meth c H locs cells slots Q (F0 m pc ls (.ref (sz + v) :: .int i :: .ref (sz + o) :: rest)) :=
  va_astq (D := E.1) (cl := vwCl) (ws := nN sz cn n) (A := nAr sz) (H0 := s.heap) C.1 C.2.1 C.2.2.2.2.2.1.1 hM.1 (nN_D sz cn n) hM.2 o t0 v ci ((nN_at sz cn hoN).trans (by rw [ho])) ht ((nN_at sz cn hvN).trans (by rw [hv])) hc hin hdg (fun H1 locs1 h1 h2 h3 => by
    rw [nN_set] at h1
    exact kk H1 locs1 ⟨h1, h3⟩)
theorem n_pre (C : nC E sz n0 p s m args meth c cc nL Ts own) (hM : nM E sz cn n s H locs) (hz : H.size = sz + n) {av : List Value} : ∀ U : State, U.heap = H → s.WarmedH U.vm → va_Pc av (nPre E sz cn n) av.toArray U :=
  fun U hU hW => ⟨rfl, by rw [hU]; exact hz, by rw [hU]; exact hM.1, C.2.2.2.2.2.1.warm hW⟩
theorem n_callN (C : nC E sz n0 p s m args meth c cc nL Ts own) (hM : nM E sz cn n s H locs) (hn : n = n0 + cells) (hn1 : 0 < n) {o index maxL mc ms n' : Nat} {cn' : Nat → va_E} {y : MethodName} {bytes : ByteArray} {ws ws' : List Cond} {rm : Room} {st0 : List Value} (K : NV E sz l y ws rm mc ms [.ref (sz + o)] cn n cn' n') (hG : GoodIn Ts ws) (hw : ws = Cond.code y bytes maxL none :: ws') (hrc : rm.cells = mc) (hrs : rm.slots = ms) (hnest : (own, index, y) ∈ nNest) (hini : (Cond.initialized y.cls).before args s = true) (hins : (Cond.instanceMethod y).before args s = true) (hy1 : y.name = "<init>") (hd : y.cls ≠ "java/lang/invoke/MethodHandle" ∧ y.cls ≠ "java/lang/invoke/VarHandle" ∧ (parseMethodDescriptor y.desc).map (fun d => d.parameters.length) = some 0) (hR : rm.frames + 1 ≤ R.frames ∧ 8 + (maxL + 11) + rm.locals ≤ R.locals) (hls : ls.size = nL) (hst : st0 = .ref (sz + o) :: rest) (hroom : (rest.map fun v => v.category).sum ≤ 8) (hf : cells + mc ≤ R.cells ∧ slots + ms ≤ R.slots) (hdg : decode cc pc = .ok (.invokespecial index, 3))
    (kk : ∀ (H1 : Heap) (locs1 : List Loc), nM E sz cn' n' s H1 locs1 → W p l e R s m args below meth c H1 locs1 (cells + mc) (slots + ms) Q (F0 m (pc + 3) ls rest)) : W p l e R s m args below meth c H locs cells slots Q (F0 m pc ls st0) := by
  subst hst
  refine n_cap (fun hz => ?_)
  have hlo := n_lo hM hn1
  have hs0 := C.2.2.2.2.2.2.2.2.2
  have hH : H.size = sz + n := by omega
  exact va_callv (va_runIN (As := []) (rest := rest) (host := "CrowFences") ⟨C.1, C.2.1, C.2.2.1, C.2.2.2.1, C.2.2.2.2.1⟩ K ⟨va_cnB 0 C.2.2.2.2.1 hG hw hrc hrs (C.2.2.2.2.2.1.2.1 _ hnest) hini hd hR, hy1, hins⟩ ⟨nPre_blind, n_pre C hM hH⟩ rfl rfl hls rfl (lv_room hroom) hdg hf) hM.2 (fun q _ h => h) (fun q h => h) (fun u t H1 locs1 ht hvm hw hB hz1 hk1 hS => kk H1 locs1 ⟨by rw [← ht]; exact hB, hS⟩)
theorem n_callI (C : nC E sz n0 p s m args meth c cc nL Ts own) (hM : nM E sz cn n s H locs) (hn : n = n0 + cells) (hn1 : 0 < n) {o index maxL mc ms n' : Nat} {cn' : Nat → va_E} {y : MethodName} {bytes : ByteArray} {ws ws' : List Cond} {rm : Room} {st0 : List Value} (K : NV E sz l y ws rm mc ms [.ref (sz + o)] cn n cn' n') (hG : GoodIn Ts ws) (hw : ws = Cond.code y bytes maxL none :: ws') (hrc : rm.cells = mc) (hrs : rm.slots = ms) (hl : (Cond.methodLink own index y).before args s = true) (hini : (Cond.initialized y.cls).before args s = true) (hins : (Cond.instanceMethod y).before args s = true) (hy1 : y.name = "<init>") (hd : y.cls ≠ "java/lang/invoke/MethodHandle" ∧ y.cls ≠ "java/lang/invoke/VarHandle" ∧ (parseMethodDescriptor y.desc).map (fun d => d.parameters.length) = some 0) (hR : rm.frames + 1 ≤ R.frames ∧ 8 + (maxL + 11) + rm.locals ≤ R.locals) (hls : ls.size = nL) (hst : st0 = .ref (sz + o) :: rest) (hroom : (rest.map fun v => v.category).sum ≤ 8) (hf : cells + mc ≤ R.cells ∧ slots + ms ≤ R.slots) (hdg : decode cc pc = .ok (.invokespecial index, 3))
    (kk : ∀ (H1 : Heap) (locs1 : List Loc), nM E sz cn' n' s H1 locs1 → W p l e R s m args below meth c H1 locs1 (cells + mc) (slots + ms) Q (F0 m (pc + 3) ls rest)) : W p l e R s m args below meth c H locs cells slots Q (F0 m pc ls st0) := by
  subst hst
  refine n_cap (fun hz => ?_)
  have hlo := n_lo hM hn1
  have hs0 := C.2.2.2.2.2.2.2.2.2
  have hH : H.size = sz + n := by omega
  exact va_callv (va_runI (As := []) (rest := rest) ⟨C.1, C.2.1, C.2.2.1, C.2.2.2.1, C.2.2.2.2.1⟩ K (cwI 0 C.2.2.2.2.1 hG hw hrc hrs hini hl hins hy1 hd hR) ⟨nPre_blind, n_pre C hM hH⟩ rfl rfl hls rfl (lv_room hroom) hdg hf) hM.2 (fun q _ h => h) (fun q h => h) (fun u t H1 locs1 ht hvm hw hB hz1 hk1 hS => kk H1 locs1 ⟨by rw [← ht]; exact hB, hS⟩)
theorem n_obj (C : nC E sz n0 p s m args meth c cc nL Ts own) {idx o : Nat} (hlink : (Cond.methodLink own idx Lib.objectInit).before args s = true) (hinst : (Cond.instanceMethod Lib.objectInit).before args s = true) (hcode : (Cond.code Lib.objectInit ⟨#[0xb1]⟩ 1 none).before args s = true) (hls : ls.size = nL) (hframes : 1 ≤ R.frames) (hlocals : (rest.map fun v => v.category).sum + 12 ≤ R.locals) (hdg : decode cc pc = .ok (.invokespecial idx, 3))
    (kk : W p l e R s m args below meth c H locs cells slots Q (F0 m (pc + 3) ls rest)) : W p l e R s m args below meth c H locs cells slots Q (F0 m pc ls (.ref o :: rest)) :=
  W.objInit C.1 C.2.1 C.2.2.2.1 hlink hinst hcode rfl (hls.trans C.2.2.1.symm) rfl hdg hframes (by simpa using hlocals) (W.eq (g2 := F0 m (pc + 3) ls rest) rfl kk)
theorem n_vret (C : nC E sz n0 p s m args meth c cc nL Ts own) {cn' : Nat → va_E} (hM : nM E sz cn n s H locs) (he : ∀ i, i < n → cn i = cn' i) (hdg : decode cc pc = .ok (.return_, 1)) : W p l e R s m args below meth c H locs cells slots (MQ below (nQ E sz cn' n) args s cells slots (nAr sz)) (F0 m pc ls []) :=
  W.vret C.1 C.2.1 C.2.2.2.2.2.2.2.1 (fun t ht hW => ⟨⟨(), rfl, trivial, by show va_P E.1 vwCl (nN sz cn' n) t.heap; rw [ht, ← nN_cg he]; exact hM.1⟩, hM.2.F ht⟩) hM.2.2.2 hdg C.2.2.2.2.2.2.1
theorem nM_cg {cn' : Nat → va_E} (hM : nM E sz cn n s H locs) (he : ∀ i, i < n → cn i = cn' i) : nM E sz cn' n s H locs := ⟨by rw [← nN_cg he]; exact hM.1, hM.2⟩
theorem arrV_cg {cI : ClassId} {N : Nat} {f g : Nat → Value} (h : ∀ j, j < N → f j = g j) : arrV cI N f = arrV cI N g := by
  unfold arrV
  have : (fun j : Fin N => f j.val) = (fun j : Fin N => g j.val) := funext (fun j => h j.1 j.2)
  rw [this]
/-- of a row of cells only the places that it has matter -/
theorem nM_row {o L : Nat} {cR : ClassId} {f g : Nat → Option Nat} (hM : nM E sz cn n s H locs) (ho : cn o = .inl (cR, L, .inr (.inr (.inr (.inr f))))) (h : ∀ j, j < L → f j = g j) : nM E sz (cu cn o (.inl (cR, L, .inr (.inr (.inr (.inr g)))))) n s H locs := by
  refine ⟨fun k q hk => ?_, hM.2⟩
  have hi := nN_lt hk
  rw [nN_at sz _ hi] at hk
  cases hk
  have h0 := hM.1 k _ (nN_at sz cn hi)
  by_cases e : k = o
  · subst e
    rw [cu_s]
    rw [ho] at h0
    show H[sz + k]? = some (vp_cell cR (L, .inr (.inr (.inr (.inr g)))))
    have h1 : H[sz + k]? = some (vp_cell cR (L, .inr (.inr (.inr (.inr f))))) := h0
    rw [h1, vp_cell_q, vp_cell_q]
    congr 1
    exact arrV_cg (fun j hj => by rw [h j hj])
  · rw [cu_o _ _ e]
    exact h0
end NB
