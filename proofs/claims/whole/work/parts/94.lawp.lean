/-! THE CLAIM OUT OF ONE WALK OF THE LAW'S BODY. Your part is whole_start (and what it stands on); all else here is the same for every law, but numbers. -/
def R_law : String := "CrowFencesLaw"
def lw_P (b : Addr) (xs : List Int32) (args : Array Value) (s : State) : Prop := args = #[.ref b] ∧ s.IntsAt b xs ∧ xs.length ≤ 2048 ∧ (Jvm.Cond.and given_1 narrow_1).before args s = true
def lw_Q (_ : Array Value) (s : State) (o : Outcome) (t : State) : Prop := o = .returned (some (.int 1)) ∧ Framed s o t [] 600000 7302250
def lw_Z (below : List Frame) (a : Array Value) (s : State) : State → Prop := fun t => ∃ o, t.status = .running ∧ Ended t below o ∧ lw_Q a s o t
/-- the law's own end, with 1 on the stack, nothing written that was there before, its room as the claim has it -/
theorem lw_ret {p : Program} {l : Launch} {e : Env} {s : State} {m : MethodId} {below : List Frame} {meth : Method} {c : Code} {b : Nat} (hx : p.tables.exec = Jvm.exec) (hb : c.code = code) (hr : meth.sig.returnType = ret) (hlocks : meth.locks = false) {pc : Nat} {H : Heap} {ls : Array Slot} (hdg : decode code pc = .ok (.ireturn, 1)) : W p l e room_1 s m #[Value.ref b] below meth c H [] 600000 7302250 (lw_Z below #[Value.ref b] s) (F0 m pc ls [.int 1]) := by
  intro T hT X
  obtain ⟨fs, hret, hrun, hended, hW, hframe⟩ := X.leave (v := some (.int 1)) (hlocks := hlocks) (fun h => by rw [hr] at h; cases h)
  have hmeth' : T.vm.method? m = some meth := X.method'
  refine ⟨T.setFrames fs, ?_, .returned (some (.int 1)), hrun, hended, rfl, ⟨_, rfl⟩, hW, hframe⟩
  jvm_step X.here [X.here.top, hx, hb, hdg, hmeth', hr, ret, narrow_b1]
  (try refine ⟨rfl, ?_⟩); (try refine ⟨rfl, ?_⟩)
  first | (intro acts; rw [hret _ acts rfl rfl rfl]) | rw [hret _ _ rfl rfl rfl]
  exact Steps.refl _
/-- what holds at the law's entry: the machine, the code, the tables' words (any of lw_tbl by 'hts w (by decide +kernel)'), the script of L ints xs at the cell b, what the Statement gives of the start (any of its parts by flat_of_before) -/
def lw_At (p : Program) (s : State) (m : MethodId) (meth : Method) (c : Code) (b L : Nat) (xs : Nat → Int32) : Prop :=
  p.tables.exec = Jvm.exec ∧ c.code = code ∧ meth.sig.returnType = ret ∧ c.maxLocals = 4 ∧ s.vm.findClass R_law = some m.cls ∧ (∀ w ∈ lw_tbl, w.before #[Value.ref b] s = true) ∧ va_X b L xs s s.heap ∧ b < s.heap.size ∧ meth.locks = false ∧ (Jvm.Cond.and given_1 narrow_1).before #[Value.ref b] s = true
/-! what the law's start knows -/
theorem nest_in : ∀ q ∈ nNest, Cond.methodLinkNest q.1 q.2.1 q.2.2 "CrowFences" ∈ lw_tbl := by decide +kernel
set_option maxRecDepth 100000 in
theorem law_E {s : State} {args : Array Value} (hts : ∀ w ∈ lw_tbl, w.before args s = true) : ∃ E : qE, nE E s := by
  obtain ⟨c0, i0, k0⟩ := u_known (C := RX0) (T := TX0) (N := 3) (n := 3) hts in_wsX00 (hts (.instantiable RX0 3) (by decide +kernel))
  obtain ⟨c1, i1, k1⟩ := u_known (C := RX1) (T := TX1) (N := 1) (n := 1) hts in_wsX10 (hts (.instantiable RX1 1) (by decide +kernel))
  obtain ⟨c2, i2, k2⟩ := u_known (C := RX2) (T := TX2) (N := 3) (n := 3) hts in_wsX20 (hts (.instantiable RX2 3) (by decide +kernel))
  obtain ⟨c3, i3, k3⟩ := u_known (C := RX3) (T := TX3) (N := 5) (n := 5) hts in_wsX30 (hts (.instantiable RX3 5) (by decide +kernel))
  obtain ⟨c4, i4, k4⟩ := u_known (C := RX4) (T := TX4) (N := 3) (n := 3) hts in_wsX40 (hts (.instantiable RX4 3) (by decide +kernel))
  obtain ⟨c5, i5, k5⟩ := u_known (C := RX5) (T := TX5) (N := 13) (n := 13) hts in_wsX50 (hts (.instantiable RX5 13) (by decide +kernel))
  obtain ⟨c6, i6, k6⟩ := u_known (C := RX6) (T := TX6) (N := 8) (n := 8) hts in_wsX60 (hts (.instantiable RX6 8) (by decide +kernel))
  obtain ⟨c7, i7, k7⟩ := u_known (C := RX7) (T := TX7) (N := 6) (n := 6) hts in_wsX70 (hts (.instantiable RX7 6) (by decide +kernel))
  obtain ⟨c8, i8, k8⟩ := u_known (C := RX8) (T := TX8) (N := 6) (n := 6) hts in_wsX80 (hts (.instantiable RX8 6) (by decide +kernel))
  obtain ⟨c9, i9, k9⟩ := u_known (C := RX9) (T := TX9) (N := 8) (n := 8) hts in_wsX90 (hts (.instantiable RX9 8) (by decide +kernel))
  obtain ⟨c10, i10, k10⟩ := u_known (C := RX10) (T := TX10) (N := 11) (n := 11) hts in_wsX100 (hts (.instantiable RX10 11) (by decide +kernel))
  obtain ⟨c11, i11, k11⟩ := u_known (C := RX11) (T := TX11) (N := 45) (n := 45) hts in_wsX110 (hts (.instantiable RX11 45) (by decide +kernel))
  obtain ⟨dC, dI, hKc⟩ : ∃ (dC : Nat → ClassId) (dI : Nat → Nat → Nat), ∀ (k : Nat) (q : vw_C), vwCl[k]? = some q → u_Kn s q.1 q.2.1 q.2.2 (dC k) (dI k) := by
    refine ⟨fun k => match k with | 0 => c0 | 1 => c1 | 2 => c2 | 3 => c3 | 4 => c4 | 5 => c5 | 6 => c6 | 7 => c7 | 8 => c8 | 9 => c9 | 10 => c10 | _ => c11, fun k => match k with | 0 => i0 | 1 => i1 | 2 => i2 | 3 => i3 | 4 => i4 | 5 => i5 | 6 => i6 | 7 => i7 | 8 => i8 | 9 => i9 | 10 => i10 | _ => i11, ?_⟩
    intro k q hq
    match k, hq with
    | 0, hq => cases hq; exact k0
    | 1, hq => cases hq; exact k1
    | 2, hq => cases hq; exact k2
    | 3, hq => cases hq; exact k3
    | 4, hq => cases hq; exact k4
    | 5, hq => cases hq; exact k5
    | 6, hq => cases hq; exact k6
    | 7, hq => cases hq; exact k7
    | 8, hq => cases hq; exact k8
    | 9, hq => cases hq; exact k9
    | 10, hq => cases hq; exact k10
    | 11, hq => cases hq; exact k11
    | k + 12, hq => simp at hq
  obtain ⟨cI, kI, pI, a1, a2, a3⟩ := Cond.arrayClass_spec (hts (.arrayClass .int) (by decide +kernel))
  obtain ⟨cZ, kZ, pZ, z1, z2, z3⟩ := Cond.arrayClass_spec (hts (.arrayClass .boolean) (by decide +kernel))
  have ao2 : va_AO RX2 s := va_AO.of (hts (.arrayOver (.object RX2)) (by decide +kernel))
  have ao9 : va_AO RX9 s := va_AO.of (hts (.arrayOver (.object RX9)) (by decide +kernel))
  obtain ⟨p2, d2, m2, b1, b2, b3, b4, b5⟩ := Cond.arrayOver_spec ao2
  obtain ⟨p9, d9, m9, e1, e2, e3, e4, e5⟩ := Cond.arrayOver_spec ao9
  refine ⟨((dC, dI), cI, cZ, d2, d9), ⟨hKc, fun k q hq => ?_⟩, fun q hq => va_Nw.of rfl (hts _ (nest_in q hq)), ao2, ao9⟩
  match k, hq with
  | 0, hq => cases hq; exact ⟨fun N z => ⟨(fun k h => by cases h), kI, a2, pI, a3⟩, a1⟩
  | 1, hq => cases hq; exact ⟨fun N z => ⟨(fun k h => by cases h), kZ, z2, pZ, z3⟩, z1⟩
  | 2, hq => cases hq; exact ⟨fun N z => ⟨(fun k h => by cases h), m2, b3, p2, b4⟩, m2, p2, b3, b4, b1, b5⟩
  | 3, hq => cases hq; exact ⟨fun N z => ⟨(fun k h => by cases h), m9, e3, p9, e4⟩, m9, p9, e3, e4, e1, e5⟩
  | k + 4, hq => simp at hq
/-- the start: all is tied -/
theorem init_rel {S A : qA2} {b : qB} (h : iP S A b) : Rel S A b := by
  obtain ⟨rfl, ⟨a4, a5, a6, a7, a8⟩, hA, rfl⟩ := h
  have hS : ∀ i, i ≠ 3 → q2 (q2 (q2 S0 3 5 (qall 0)) 3 6 0) 3 7 0 i = S0 i := fun i hi => by rw [q2_or _ _ hi, q2_or _ _ hi, q2_or _ _ hi]
  have e35 : q2 (q2 (q2 S0 3 5 (qall 0)) 3 6 0) 3 7 0 3 5 = 0 := by decide +kernel
  have e36 : q2 (q2 (q2 S0 3 5 (qall 0)) 3 6 0) 3 7 0 3 6 = 0 := by decide +kernel
  have e37 : q2 (q2 (q2 S0 3 5 (qall 0)) 3 6 0) 3 7 0 3 7 = 0 := by decide +kernel
  generalize q2 (q2 (q2 S0 3 5 (qall 0)) 3 6 0) 3 7 0 = S at hS e35 e36 e37 ⊢
  have no : ∀ {P : Nat → Prop}, ∀ k, k < 0 → P k := fun k hk => absurd hk (Nat.not_lt_zero _)
  have f : ∀ j, A 193 j = 0 := fun j => by rw [hA 193 (by omega)]; rfl
  refine ⟨0, 0, 0, 0, 0, 0, ⟨Or.inl rfl, Or.inr rfl, by decide⟩, ⟨0, by omega, by rw [hS 1 (by omega)]; rfl, by rw [hS 188 (by omega)]; rfl, fun k hk => absurd hk (Nat.not_lt_zero _)⟩, by rw [hS 1 (by omega), hS 188 (by omega)]; rfl, ?_, ?_, ?_, ⟨?_, ?_⟩, ?_, ?_, ?_⟩
  · refine ⟨⟨by omega, by omega, by omega, by omega⟩, ?_, ?_, ?_, fun z => absurd rfl z, fun k hk => absurd hk (Nat.not_lt_zero _), fun k hk => absurd hk (Nat.not_lt_zero _), fun k hk => absurd hk (Nat.not_lt_zero _)⟩
    · show S 174 0 = nI 0 ∧ S 174 4 = nI 0 ∧ S 174 5 = nI 0 ∧ S 174 6 = nI 0
      rw [hS 174 (by omega)]
      exact ⟨rfl, rfl, rfl, rfl⟩
    · rw [hS 188 (by omega)]
      exact ⟨rfl, rfl, rfl, rfl⟩
    · show S 174 3 = S 188 3 ∧ hset 0 (S 174 3)
      rw [hS 174 (by omega), hS 188 (by omega)]
      exact ⟨rfl, fun d hd _ => qtb_0 hd⟩
  · unfold rNow
    have a4' : A 4 = qmap (fun _ _ => 0) (A0 (3 + 1)) 12 := a4
    have a6' : A 6 = qmap (fun _ _ => -1) (A0 (3 + 3)) 6 := a6
    rw [a4', a6', e35, e36, e37]
    refine ⟨⟨fun k hk => absurd hk (Nat.not_lt_zero _), fun k _ hk => by rw [qmap_in hk]⟩, fun k hk => absurd hk (Nat.not_lt_zero _), ⟨fun k hk => absurd hk (Nat.not_lt_zero _), fun k hk => by rw [qmap_in hk]; exact Or.inl rfl, fun k _ hk => by rw [qmap_in hk], fun j k hj hk _ hn => ?_⟩, fun k hk => absurd hk (Nat.not_lt_zero _), fun k hk => absurd hk (Nat.not_lt_zero _), ⟨(f 24).symm, fun d hd _ => qtb_0 hd⟩, ⟨(f 35).symm, 0, by omega, rfl⟩, (f 36).symm⟩
    rw [qmap_in hj] at hn
    exact absurd rfl hn
  · refine ⟨⟨by omega, by omega⟩, ⟨by rw [hS 15 (by omega)]; rfl, by rw [hS 15 (by omega)]; rfl, by rw [hS 188 (by omega)]; rfl⟩, fun j hj => absurd hj (Nat.not_lt_zero _)⟩
  · refine ⟨?_, fun z => absurd (by rw [hS 139 (by omega)]; rfl) z⟩
    rw [hS 139 (by omega), hA 213 (by omega)]
    exact ⟨fun _ => rfl, fun _ => rfl⟩
  · refine ⟨?_, fun z => absurd (by rw [hS 146 (by omega)]; rfl) z⟩
    rw [hS 146 (by omega), hA 213 (by omega)]
    exact ⟨fun _ => rfl, fun _ => rfl⟩
  · exact ⟨0, by omega, by rw [hS 164 (by omega)]; rfl, by rw [hS 188 (by omega)]; rfl, fun k hk => absurd hk (Nat.not_lt_zero _)⟩
  · exact ⟨0, by omega, by rw [hS 171 (by omega)]; rfl, by rw [hS 188 (by omega)]; rfl, fun k hk => absurd hk (Nat.not_lt_zero _)⟩
  · refine ⟨by rw [hS 137 (by omega), hS 188 (by omega)]; rfl, 0, by omega, by rw [hS 137 (by omega)]; rfl⟩
/-- of the reference's cells only addresses from 188 on matter -/
theorem qmem_hi (E : qE) {ad ad' : Nat → Nat} (h : ∀ k, ad' (188 + k) = ad (188 + k)) (S A : qA2) (b : qB) {i : Nat} (hi : i < 26) : qmem E ad' S A b (188 + i) = qmem E ad S A b (188 + i) := by
  have hk : ∀ i, i < 26 → i = 0 ∨ qk (188 + i) = 12 ∨ qk (188 + i) = 13 := by decide +kernel
  rcases hk i hi with e | e | e
  · subst e
    rw [qmem_11 _ _ _ _ _ (by decide +kernel), qmem_11 _ _ _ _ _ (by decide +kernel)]
    simp only [qo11, Nat.add_zero, h]
  · rw [qmem_12 _ _ _ _ _ e, qmem_12 _ _ _ _ _ e]
  · rw [qmem_13 _ _ _ _ _ e, qmem_13 _ _ _ _ _ e]
/-- both made: the whole memory -/
theorem law_mem {E : qE} {sz : Nat} {S A : qA2} {b : qB} {cn : Nat → va_E} {H : Heap} (h : iP S A b) (h1 : va_P E.1 vwCl (gW E (fun j => sz + j) S A b) H) (h2 : va_P E.1 vwCl (nN (sz + 188) (mix (finM E (sz + 188)) cn 0) 26) H) : va_P E.1 vwCl (qW E (fun j => sz + j) S A b) H ∧ va_D (nAr sz) (qW E (fun j => sz + j) S A b) := by
  refine ⟨fun k q hk => ?_, fun i j x y hx hy hxy => ?_, fun k q hk => ?_⟩
  · have hl := qW_lt E _ S A b hk
    rw [qW_at E _ S A b hl] at hk
    cases hk
    by_cases hg : k < 188
    · have := h1 k _ (gW_at E _ S A b hg)
      rw [gmem_q E _ _ _ _ hg] at this
      exact this
    · obtain ⟨i, rfl⟩ : ∃ i, k = 188 + i := ⟨k - 188, by omega⟩
      have := h2 i _ (nN_at _ _ (show i < 26 by omega))
      obtain ⟨hb, _, hA, hS⟩ := h
      have e1 : mix (finM E (sz + 188)) cn 0 i = qmem E (fun j => sz + j) S A b (188 + i) := by
        unfold mix finM
        rw [if_neg (Nat.not_lt_zero i), ← hb]
        rw [qmem_hi E (ad := fun j => sz + j) (ad' := fun j => sz + 188 + (j - 188)) (fun k => by show sz + 188 + (188 + k - 188) = sz + (188 + k); omega) S0 A0 (174, 181) (show i < 26 by omega)]
        exact (qmem_cong E _ _ (by rw [hS, q2_or _ _ (by omega), q2_or _ _ (by omega), q2_or _ _ (by omega)]) (hA _ (by omega))).symm
      rw [e1] at this
      rw [show sz + (188 + i) = sz + 188 + i by omega]
      exact this
  · have hi := qW_lt E _ S A b hx
    have hj := qW_lt E _ S A b hy
    rw [qW_at E _ S A b hi] at hx
    rw [qW_at E _ S A b hj] at hy
    cases hx
    cases hy
    have hxy : sz + i = sz + j := hxy
    omega
  · have hl := qW_lt E _ S A b hk
    rw [qW_at E _ S A b hl] at hk
    cases hk
    exact Nat.le_add_right _ _
/-- the address of the reference -/
theorem law_addr {E : qE} {sz q : Nat} {S A : qA2} {b : qB} {x : va_E} {H : Heap} (h1 : va_P E.1 vwCl (gW E (fun j => sz + j) S A b ++ [(q, x)]) H) (h2 : va_D (nAr sz) (gW E (fun j => sz + j) S A b ++ [(q, x)])) (hz : H.size ≤ sz + 189) : q = sz + 188 ∧ H.size = sz + 189 := by
  have hl : (gW E (fun j => sz + j) S A b).length = 188 := by simp [gW]
  have hq : (gW E (fun j => sz + j) S A b ++ [(q, x)])[188]? = some (q, x) := by
    rw [List.getElem?_append_right (by omega), hl]
    rfl
  have h3 : q < H.size := (h1 188 _ hq).lt
  have h4 : sz ≤ q := h2.2 188 _ hq
  have h5 : q = sz + 188 := by
    rcases Nat.lt_or_ge q (sz + 188) with h5 | h5
    · have h6 : (gW E (fun j => sz + j) S A b ++ [(q, x)])[q - sz]? = some (sz + (q - sz), gmem E (fun j => sz + j) S A b (q - sz)) := by
        rw [List.getElem?_append_left (by omega), gW_at E _ S A b (by omega)]
      have := h2.1 (q - sz) 188 _ _ h6 hq (by show sz + (q - sz) = q; omega)
      omega
    · omega
  exact ⟨h5, by omega⟩
