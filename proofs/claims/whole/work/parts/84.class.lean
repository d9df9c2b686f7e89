/-! the class is made -/
theorem gk_q {i : Nat} (h : i < 188) : gk i = qk i := by
  have : ∀ i, i < 188 → gk i = qk i := by decide +kernel
  exact this i h
theorem gmem_q (E : qE) (ad : Nat → Nat) (S A : qA2) (b : qB) {i : Nat} (h : i < 188) : gmem E ad S A b i = qmem E ad S A b i := by
  unfold gmem qmem
  rw [gk_q h]
  rfl
theorem gW_fin (E : qE) (sz : Nat) (cn : Nat → va_E) : nN sz (mix (fin E sz) cn 0) 188 = gW E (fun j => sz + j) S0 A0 (174, 181) := List.map_congr_left (fun i hi => by
  rw [gmem_q E _ _ _ _ (List.mem_range.mp hi)]
  unfold mix
  rw [if_neg (Nat.not_lt_zero i)]
  rfl)
theorem nM_g {E : qE} {sz : Nat} {cn : Nat → va_E} {s : State} {H : Heap} {locs : List Loc} (h : nM E sz (mix (fin E sz) cn 0) 188 s H locs) : gM E (fun j => sz + j) S0 A0 (174, 181) (nAr sz) s H locs := by
  have hD := nN_D sz (mix (fin E sz) cn 0) 188
  obtain ⟨h1, h2⟩ := h
  rw [gW_fin] at h1 hD
  exact ⟨h1, hD, h2⟩
theorem nC_q {E : qE} {sz n0 : Nat} {p : Program} {s : State} {m : MethodId} {args : Array Value} {meth : Method} {c : Code} {cc : ByteArray} {nL : Nat} {Ts : List Cond} {own : String} (C : nC E sz n0 p s m args meth c cc nL Ts own) : qC E p s m args meth c cc nL Ts own none := ⟨C.1, C.2.1, C.2.2.1, C.2.2.2.1, C.2.2.2.2.1, C.2.2.2.2.2.1.1, C.2.2.2.2.2.2.1, C.2.2.2.2.2.2.2.1⟩
/-- what stands when the class is made -/
def iP (S' A' : qA2) (b' : qB) : Prop := (174, 181) = b' ∧ (A' (3 + 1) = qmap (fun _ _ => 0) (A0 (3 + 1)) 12 ∧ A' (3 + 2) = qmap (fun a _ => A0 (174 + 1) a) (A0 (3 + 2)) 6 ∧ A' (3 + 3) = qmap (fun _ _ => -1) (A0 (3 + 3)) 6 ∧ A' (3 + 4) = qmap (fun a _ => A0 (174 + 3) a) (A0 (3 + 4)) 5 ∧ A' (3 + 5) = qmap (fun _ _ => 0) (A0 (3 + 5)) 5) ∧ (∀ i, (i ≤ 3 ∨ 3 + 5 < i) → A' i = A0 i) ∧ S' = q2 (q2 (q2 S0 3 5 (qall 0)) 3 6 0) 3 7 0
set_option maxHeartbeats 4000000 in
set_option maxRecDepth 100000 in
theorem n_X10 (E : qE) (sz : Nat) (l : Launch) (cn : Nat → va_E) (h0 : cn 0 = .inr (10, [.null, .null, .null, .null, .null, .null, .null, .null, .null, .null, .null])) : Met l yX10_init wsX10_init { frames := 3, cells := 187, slots := 1602, locals := 53 } (va_Pc [.ref (sz + 0)] (nPre E sz cn 1)) (va_Qv (S := qA2 × qA2 × qB) (fun u => iP u.1 u.2.1 u.2.2) (fun u t => va_P E.1 vwCl (gW E (fun j => sz + j) u.1 u.2.1 u.2.2) t.heap) (nAr sz)) 187 1602 (nAr sz) := by
  refine nM_body (n0 := 1) RX10 rfl (by decide) rfl rfl rfl ?_
  intro pg e s m below meth cd C hM
  have hx := C.1
  have hb := C.2.1
  have hts := C.2.2.2.2.1
  have hM : nS E sz (fin E sz) cn 0 10 [.null, .null, .null, .null, .null, .null, .null, .null, .null, .null, .null] 138 (.inr (0, [])) 1 s s.heap [] := nS_0 h0 hM
  have hl := lv_entry ([.ref (sz + 0)]) (n := 2) (Nat.le_of_ble_eq_true rfl)
  rw [lg_entry_eq]
  generalize (lg_sl ([.ref (sz + 0)]) ++ List.replicate (2 - (lg_sl ([.ref (sz + 0)])).length) Slot.unset).toArray = ls at hl ⊢
  have hl : lv_has ls 2 [(0, .ref (sz + 0))] := hl
  have hi0 : ∀ w ∈ u_ws RX0 TX0 3, w ∈ wsX10_init := by decide +kernel
  have hi1 : ∀ w ∈ u_ws RX1 TX1 1, w ∈ wsX10_init := by decide +kernel
  have hi2 : ∀ w ∈ u_ws RX2 TX2 3, w ∈ wsX10_init := by decide +kernel
  have hi3 : ∀ w ∈ u_ws RX3 TX3 5, w ∈ wsX10_init := by decide +kernel
  have hi4 : ∀ w ∈ u_ws RX4 TX4 3, w ∈ wsX10_init := by decide +kernel
  have hi5 : ∀ w ∈ u_ws RX5 TX5 13, w ∈ wsX10_init := by decide +kernel
  have hi6 : ∀ w ∈ u_ws RX6 TX6 8, w ∈ wsX10_init := by decide +kernel
  have hi7 : ∀ w ∈ u_ws RX7 TX7 6, w ∈ wsX10_init := by decide +kernel
  have hi9 : ∀ w ∈ u_ws RX9 TX9 8, w ∈ wsX10_init := by decide +kernel
  have hi10 : ∀ w ∈ u_ws RX10 TX10 11, w ∈ wsX10_init := by decide +kernel
  refine lv_aload_n hx hb dX10_init_0 rfl (lv_at hl 0 rfl) ?_
  refine n_obj C (hts (.methodLink RX10 1 objectInit) (by decide +kernel)) (hts (.instanceMethod objectInit) (by decide +kernel)) (hts (.code objectInit ⟨#[0xb1]⟩ 1 none) (by decide +kernel)) hl.1 (Nat.le_of_ble_eq_true rfl) (Nat.le_of_ble_eq_true rfl) dX10_init_1 ?_
  refine lv_aload_n hx hb dX10_init_4 rfl (lv_at hl 0 rfl) ?_
  refine s_new (cj := 7) (ds := [.null, .int 0, .int 0, .int 0, .int 0, .int 0]) C hM (by omega) hi7 tyX7 tyX7_ok (hts (.classLink RX10 7 RX7) (by decide +kernel)) (hts (.instantiable RX7 6) (by decide +kernel)) (hts (.initialized RX7) (by decide +kernel)) rfl (fun j hj => by rcases (show j = 0 ∨ j = 1 ∨ j = 2 ∨ j = 3 ∨ j = 4 ∨ j = 5 by omega) with rfl | rfl | rfl | rfl | rfl | rfl <;> rfl) (Nat.le_of_ble_eq_true rfl) (Nat.le_of_ble_eq_true rfl) dX10_init_5 (fun H hM => ?_)
  refine lv_dup hx hb dX10_init_8 rfl ?_
  refine s_callN C hM (by omega) (by omega) (Or.inr (by omega)) (fun cz hz => n_X7 E sz l cz hz) gX10_init_X7_init_n9 rfl rfl rfl (List.mem_of_getElem? (i := 5) rfl) (hts (.initialized RX7) (by decide +kernel)) (hts (.instanceMethod yX7_init) (by decide +kernel)) rfl (by decide +kernel) ⟨(Nat.le_of_ble_eq_true rfl), (Nat.le_of_ble_eq_true rfl)⟩ hl.1 (Nat.le_of_ble_eq_true rfl) ⟨(Nat.le_of_ble_eq_true rfl), (Nat.le_of_ble_eq_true rfl)⟩ dX10_init_9 (fun H locs hM => ?_)
  have hM : nS E sz (fin E sz) cn 0 10 [.null, .null, .null, .null, .null, .null, .null, .null, .null, .null, .null] 138 (.inr (0, [])) 3 s H locs := hM
  refine s_putF (k := 0) (T := TX10) (ty := .object "CrowFences$Text") (v := .ref (sz + 1)) (fs' := [.ref (sz + 1), .null, .null, .null, .null, .null, .null, .null, .null, .null, .null]) C hM (by omega) rfl hi10 tyX10 tyX10_ok nmX10 (by decide) (hts (.fieldLink RX10 10 "CrowFences" "text" "LCrowFences$Text;") (by decide +kernel)) rfl rfl rfl (by decide +kernel) rfl rfl (Nat.le_of_ble_eq_true rfl) rfl dX10_init_12 (fun H locs hM => ?_)
  refine lv_aload_n hx hb dX10_init_15 rfl (lv_at hl 0 rfl) ?_
  refine s_new (cj := 9) (ds := [.null, .null, .null, .null, .null, .int 0, .int 0, .int 0]) C hM (by omega) hi9 tyX9 tyX9_ok (hts (.classLink RX10 16 RX9) (by decide +kernel)) (hts (.instantiable RX9 8) (by decide +kernel)) (hts (.initialized RX9) (by decide +kernel)) rfl (fun j hj => by rcases (show j = 0 ∨ j = 1 ∨ j = 2 ∨ j = 3 ∨ j = 4 ∨ j = 5 ∨ j = 6 ∨ j = 7 by omega) with rfl | rfl | rfl | rfl | rfl | rfl | rfl | rfl <;> rfl) (Nat.le_of_ble_eq_true rfl) (Nat.le_of_ble_eq_true rfl) dX10_init_16 (fun H hM => ?_)
  refine lv_dup hx hb dX10_init_19 rfl ?_
  refine s_callN C hM (by omega) (by omega) (Or.inr (by omega)) (fun cz hz => n_X9 E sz l cz 3 (show 3 ∈ qwL by decide +kernel) hz) gX10_init_X9_init_n18 rfl rfl rfl (List.mem_of_getElem? (i := 6) rfl) (hts (.initialized RX9) (by decide +kernel)) (hts (.instanceMethod yX9_init) (by decide +kernel)) rfl (by decide +kernel) ⟨(Nat.le_of_ble_eq_true rfl), (Nat.le_of_ble_eq_true rfl)⟩ hl.1 (Nat.le_of_ble_eq_true rfl) ⟨(Nat.le_of_ble_eq_true rfl), (Nat.le_of_ble_eq_true rfl)⟩ dX10_init_20 (fun H locs hM => ?_)
  have hM : nS E sz (fin E sz) cn 0 10 [.ref (sz + 1), .null, .null, .null, .null, .null, .null, .null, .null, .null, .null] 138 (.inr (0, [])) 9 s H locs := hM
  refine s_putF (k := 1) (T := TX10) (ty := .object "CrowFences$Winter") (v := .ref (sz + 3)) (fs' := [.ref (sz + 1), .ref (sz + 3), .null, .null, .null, .null, .null, .null, .null, .null, .null]) C hM (by omega) rfl hi10 tyX10 tyX10_ok nmX10 (by decide) (hts (.fieldLink RX10 19 "CrowFences" "now" "LCrowFences$Winter;") (by decide +kernel)) rfl rfl rfl (by decide +kernel) rfl rfl (Nat.le_of_ble_eq_true rfl) rfl dX10_init_23 (fun H locs hM => ?_)
  refine lv_aload_n hx hb dX10_init_26 rfl (lv_at hl 0 rfl) ?_
  refine s_new (cj := 9) (ds := [.null, .null, .null, .null, .null, .int 0, .int 0, .int 0]) C hM (by omega) hi9 tyX9 tyX9_ok (hts (.classLink RX10 16 RX9) (by decide +kernel)) (hts (.instantiable RX9 8) (by decide +kernel)) (hts (.initialized RX9) (by decide +kernel)) rfl (fun j hj => by rcases (show j = 0 ∨ j = 1 ∨ j = 2 ∨ j = 3 ∨ j = 4 ∨ j = 5 ∨ j = 6 ∨ j = 7 by omega) with rfl | rfl | rfl | rfl | rfl | rfl | rfl | rfl <;> rfl) (Nat.le_of_ble_eq_true rfl) (Nat.le_of_ble_eq_true rfl) dX10_init_27 (fun H hM => ?_)
  refine lv_dup hx hb dX10_init_30 rfl ?_
  refine s_callN C hM (by omega) (by omega) (Or.inr (by omega)) (fun cz hz => n_X9 E sz l cz 9 (show 9 ∈ qwL by decide +kernel) hz) gX10_init_X9_init_n18 rfl rfl rfl (List.mem_of_getElem? (i := 6) rfl) (hts (.initialized RX9) (by decide +kernel)) (hts (.instanceMethod yX9_init) (by decide +kernel)) rfl (by decide +kernel) ⟨(Nat.le_of_ble_eq_true rfl), (Nat.le_of_ble_eq_true rfl)⟩ hl.1 (Nat.le_of_ble_eq_true rfl) ⟨(Nat.le_of_ble_eq_true rfl), (Nat.le_of_ble_eq_true rfl)⟩ dX10_init_31 (fun H locs hM => ?_)
  have hM : nS E sz (fin E sz) cn 0 10 [.ref (sz + 1), .ref (sz + 3), .null, .null, .null, .null, .null, .null, .null, .null, .null] 138 (.inr (0, [])) 15 s H locs := hM
  refine s_putF (k := 2) (T := TX10) (ty := .object "CrowFences$Winter") (v := .ref (sz + 9)) (fs' := [.ref (sz + 1), .ref (sz + 3), .ref (sz + 9), .null, .null, .null, .null, .null, .null, .null, .null]) C hM (by omega) rfl hi10 tyX10 tyX10_ok nmX10 (by decide) (hts (.fieldLink RX10 23 "CrowFences" "trial" "LCrowFences$Winter;") (by decide +kernel)) rfl rfl rfl (by decide +kernel) rfl rfl (Nat.le_of_ble_eq_true rfl) rfl dX10_init_34 (fun H locs hM => ?_)
  refine lv_aload_n hx hb dX10_init_37 rfl (lv_at hl 0 rfl) ?_
  refine s_new (cj := 4) (ds := [.null, .int 0, .int 0]) C hM (by omega) hi4 tyX4 tyX4_ok (hts (.classLink RX10 26 RX4) (by decide +kernel)) (hts (.instantiable RX4 3) (by decide +kernel)) (hts (.initialized RX4) (by decide +kernel)) rfl (fun j hj => by rcases (show j = 0 ∨ j = 1 ∨ j = 2 by omega) with rfl | rfl | rfl <;> rfl) (Nat.le_of_ble_eq_true rfl) (Nat.le_of_ble_eq_true rfl) dX10_init_38 (fun H hM => ?_)
  refine lv_dup hx hb dX10_init_41 rfl ?_
  refine s_callI C hM (by omega) (by omega) (Or.inr (by omega)) (fun cz hz => n_X4 E sz l cz hz) gX10_init_X4_init rfl rfl rfl (hts (.methodLink RX10 28 yX4_init) (by decide +kernel)) (hts (.initialized RX4) (by decide +kernel)) (hts (.instanceMethod yX4_init) (by decide +kernel)) rfl (by decide +kernel) ⟨(Nat.le_of_ble_eq_true rfl), (Nat.le_of_ble_eq_true rfl)⟩ hl.1 (Nat.le_of_ble_eq_true rfl) ⟨(Nat.le_of_ble_eq_true rfl), (Nat.le_of_ble_eq_true rfl)⟩ dX10_init_42 (fun H locs hM => ?_)
  have hM : nS E sz (fin E sz) cn 0 10 [.ref (sz + 1), .ref (sz + 3), .ref (sz + 9), .null, .null, .null, .null, .null, .null, .null, .null] 138 (.inr (0, [])) 137 s H locs := hM
  refine s_putF (k := 3) (T := TX10) (ty := .object "CrowFences$Past") (v := .ref (sz + 15)) (fs' := [.ref (sz + 1), .ref (sz + 3), .ref (sz + 9), .ref (sz + 15), .null, .null, .null, .null, .null, .null, .null]) C hM (by omega) rfl hi10 tyX10 tyX10_ok nmX10 (by decide) (hts (.fieldLink RX10 29 "CrowFences" "past" "LCrowFences$Past;") (by decide +kernel)) rfl rfl rfl (by decide +kernel) rfl rfl (Nat.le_of_ble_eq_true rfl) rfl dX10_init_45 (fun H locs hM => ?_)
  refine lv_aload_n hx hb dX10_init_48 rfl (lv_at hl 0 rfl) ?_
  refine s_new (cj := 1) (ds := [.int 0]) C hM (by omega) hi1 tyX1 tyX1_ok (hts (.classLink RX10 33 RX1) (by decide +kernel)) (hts (.instantiable RX1 1) (by decide +kernel)) (hts (.initialized RX1) (by decide +kernel)) rfl (fun j hj => by rcases (show j = 0 by omega) with rfl <;> rfl) (Nat.le_of_ble_eq_true rfl) (Nat.le_of_ble_eq_true rfl) dX10_init_49 (fun H hM => ?_)
  refine lv_dup hx hb dX10_init_52 rfl ?_
  refine s_callN C hM (by omega) (by omega) (Or.inr (by omega)) (fun cz hz => n_X1 E sz l cz hz) gX10_init_X1_init_n35 rfl rfl rfl (List.mem_of_getElem? (i := 7) rfl) (hts (.initialized RX1) (by decide +kernel)) (hts (.instanceMethod yX1_init) (by decide +kernel)) rfl (by decide +kernel) ⟨(Nat.le_of_ble_eq_true rfl), (Nat.le_of_ble_eq_true rfl)⟩ hl.1 (Nat.le_of_ble_eq_true rfl) ⟨(Nat.le_of_ble_eq_true rfl), (Nat.le_of_ble_eq_true rfl)⟩ dX10_init_53 (fun H locs hM => ?_)
  have hM : nS E sz (fin E sz) cn 0 10 [.ref (sz + 1), .ref (sz + 3), .ref (sz + 9), .ref (sz + 15), .null, .null, .null, .null, .null, .null, .null] 138 (.inr (0, [])) 138 s H locs := hM
  refine s_putF (k := 4) (T := TX10) (ty := .object "CrowFences$Draws") (v := .ref (sz + 137)) (fs' := [.ref (sz + 1), .ref (sz + 3), .ref (sz + 9), .ref (sz + 15), .ref (sz + 137), .null, .null, .null, .null, .null, .null]) C hM (by omega) rfl hi10 tyX10 tyX10_ok nmX10 (by decide) (hts (.fieldLink RX10 36 "CrowFences" "draws" "LCrowFences$Draws;") (by decide +kernel)) rfl rfl rfl (by decide +kernel) rfl rfl (Nat.le_of_ble_eq_true rfl) rfl dX10_init_56 (fun H locs hM => ?_)
  refine lv_aload_n hx hb dX10_init_59 rfl (lv_at hl 0 rfl) ?_
  refine lv_iconst (v := 2) hx hb dX10_init_60 (by decide) ?_
  refine s_newq (k := 2) (v := 2) (L := 2) C hM (by omega) (by omega) rfl (hts (.classLink RX10 40 RX2) (by decide +kernel)) C.2.2.2.2.2.1.2.2.1 (by decide) (by decide) (by decide) (Nat.le_of_ble_eq_true rfl) (Nat.le_of_ble_eq_true rfl) dX10_init_61 (fun H hM => ?_)
  have hM : nS E sz (fin E sz) cn 0 10 [.ref (sz + 1), .ref (sz + 3), .ref (sz + 9), .ref (sz + 15), .ref (sz + 137), .null, .null, .null, .null, .null, .null] 138 (.inl (E.2.2.2.1, 2, .inr (.inr (.inr (.inr (fun _ => none)))))) 139 s H _ := hM
  refine s_putF (k := 5) (T := TX10) (ty := .array (.object "CrowFences$Image")) (v := .ref (sz + 138)) (fs' := [.ref (sz + 1), .ref (sz + 3), .ref (sz + 9), .ref (sz + 15), .ref (sz + 137), .ref (sz + 138), .null, .null, .null, .null, .null]) C hM (by omega) rfl hi10 tyX10 tyX10_ok nmX10 (by decide) (hts (.fieldLink RX10 42 "CrowFences" "images" "[LCrowFences$Image;") (by decide +kernel)) rfl rfl rfl (by decide +kernel) rfl rfl (Nat.le_of_ble_eq_true rfl) rfl dX10_init_64 (fun H locs hM => ?_)
  refine lv_iconst (v := 0) hx hb dX10_init_67 (by decide) ?_
  refine lv_istore_n (lv' := [(1, .int 0), (0, .ref (sz + 0))]) hx hb dX10_init_68 rfl hl (by decide) rfl (fun ls hl => ?_)
  have hM : nS E sz (fin E sz) cn 0 10 [.ref (sz + 1), .ref (sz + 3), .ref (sz + 9), .ref (sz + 15), .ref (sz + 137), .ref (sz + 138), .null, .null, .null, .null, .null] 138 (.inl (E.2.2.2.1, 2, .inr (.inr (.inr (.inr (fun j => if j < 0 then some (sz + (139 + 7 * j)) else none)))))) (139 + 7 * 0) s H locs := s_row hM (by omega) (by omega) (fun j _ => by rw [if_neg (Nat.not_lt_zero j)])
  have loop : ∀ (fu k : Nat), k ≤ 2 → 2 - k < fu → ∀ (H : Heap) (locs : List Loc) (ls : Array Slot), nS E sz (fin E sz) cn 0 10 [.ref (sz + 1), .ref (sz + 3), .ref (sz + 9), .ref (sz + 15), .ref (sz + 137), .ref (sz + 138), .null, .null, .null, .null, .null] 138 (.inl (E.2.2.2.1, 2, .inr (.inr (.inr (.inr (fun j => if j < k then some (sz + (139 + 7 * j)) else none)))))) (139 + 7 * k) s H locs → lv_has ls 2 [(1, .int (nI k)), (0, .ref (sz + 0))] → W pg l e (headSpec wsX10_init { frames := 3, cells := 187, slots := 1602, locals := 53 }).room s m [.ref (sz + 0)].toArray below meth cd H locs (138 + 7 * k) (1196 + 45 * k) (MQ below (va_Qv (S := qA2 × qA2 × qB) (fun u => iP u.1 u.2.1 u.2.2) (fun u t => va_P E.1 vwCl (gW E (fun j => sz + j) u.1 u.2.1 u.2.2) t.heap) (nAr sz)) [.ref (sz + 0)].toArray s 187 1602 (nAr sz)) (F0 m 69 ls []) := by
    intro fu
    induction fu with
    | zero => intro k _ hn; exact absurd hn (Nat.not_lt_zero _)
    | succ fu ih =>
      intro k hk hn H locs ls hM hl
      refine lv_iload_n hx hb dX10_init_69 rfl (lv_at hl 0 rfl) ?_
      refine lv_iconst (v := 2) hx hb dX10_init_70 (by decide) ?_
      refine lv_icmp_ge (tgt := 93) hx hb dX10_init_71 (by decide) (fun cc => ?_) (fun cc => ?_)
      · have cc : 2 ≤ k := (nI_leI (a := 2) (b := k) (by omega) (by omega)).mp cc
        obtain rfl : k = 2 := by omega
        have hM : nS E sz (fin E sz) cn 0 10 [.ref (sz + 1), .ref (sz + 3), .ref (sz + 9), .ref (sz + 15), .ref (sz + 137), .ref (sz + 138), .null, .null, .null, .null, .null] 138 (.inl (E.2.2.2.1, 2, .inr (.inr (.inr (.inr (fun j => some (sz + (139 + 7 * j)))))))) 153 s H locs := s_row hM (by omega) (by omega) (fun j hj => by rw [if_pos hj])
        refine W.widen (k := 152) (n := 1286) (Nat.le_of_ble_eq_true rfl) (Nat.le_of_ble_eq_true rfl) ?_
        refine lv_aload_n hx hb dX10_init_93 rfl (lv_at hl 1 rfl) ?_
        refine s_new (cj := 3) (ds := [.null, .int 0, .null, .null, .null]) C hM (by omega) hi3 tyX3 tyX3_ok (hts (.classLink RX10 47 RX3) (by decide +kernel)) (hts (.instantiable RX3 5) (by decide +kernel)) (hts (.initialized RX3) (by decide +kernel)) rfl (fun j hj => by rcases (show j = 0 ∨ j = 1 ∨ j = 2 ∨ j = 3 ∨ j = 4 by omega) with rfl | rfl | rfl | rfl | rfl <;> rfl) (Nat.le_of_ble_eq_true rfl) (Nat.le_of_ble_eq_true rfl) dX10_init_94 (fun H hM => ?_)
        refine lv_dup hx hb dX10_init_97 rfl ?_
        refine s_callN C hM (by omega) (by omega) (Or.inl (by omega)) (fun cz hz => n_X3 E sz l cz hz) gX10_init_X3_init_n49 rfl rfl rfl (List.mem_of_getElem? (i := 9) rfl) (hts (.initialized RX3) (by decide +kernel)) (hts (.instanceMethod yX3_init) (by decide +kernel)) rfl (by decide +kernel) ⟨(Nat.le_of_ble_eq_true rfl), (Nat.le_of_ble_eq_true rfl)⟩ hl.1 (Nat.le_of_ble_eq_true rfl) ⟨(Nat.le_of_ble_eq_true rfl), (Nat.le_of_ble_eq_true rfl)⟩ dX10_init_98 (fun H locs hM => ?_)
        have hM : nS E sz (fin E sz) cn 0 10 [.ref (sz + 1), .ref (sz + 3), .ref (sz + 9), .ref (sz + 15), .ref (sz + 137), .ref (sz + 138), .null, .null, .null, .null, .null] 138 (.inl (E.2.2.2.1, 2, .inr (.inr (.inr (.inr (fun j => some (sz + (139 + 7 * j)))))))) 164 s H locs := hM
        refine s_putF (k := 6) (T := TX10) (ty := .object "CrowFences$Letting") (v := .ref (sz + 153)) (fs' := [.ref (sz + 1), .ref (sz + 3), .ref (sz + 9), .ref (sz + 15), .ref (sz + 137), .ref (sz + 138), .ref (sz + 153), .null, .null, .null, .null]) C hM (by omega) rfl hi10 tyX10 tyX10_ok nmX10 (by decide) (hts (.fieldLink RX10 50 "CrowFences" "letting" "LCrowFences$Letting;") (by decide +kernel)) rfl rfl rfl (by decide +kernel) rfl rfl (Nat.le_of_ble_eq_true rfl) rfl dX10_init_101 (fun H locs hM => ?_)
        refine lv_aload_n hx hb dX10_init_104 rfl (lv_at hl 1 rfl) ?_
        refine s_new (cj := 6) (ds := [.int 0, .int 0, .null, .null, .null, .null, .int 0, .null]) C hM (by omega) hi6 tyX6 tyX6_ok (hts (.classLink RX10 54 RX6) (by decide +kernel)) (hts (.instantiable RX6 8) (by decide +kernel)) (hts (.initialized RX6) (by decide +kernel)) rfl (fun j hj => by rcases (show j = 0 ∨ j = 1 ∨ j = 2 ∨ j = 3 ∨ j = 4 ∨ j = 5 ∨ j = 6 ∨ j = 7 by omega) with rfl | rfl | rfl | rfl | rfl | rfl | rfl | rfl <;> rfl) (Nat.le_of_ble_eq_true rfl) (Nat.le_of_ble_eq_true rfl) dX10_init_105 (fun H hM => ?_)
        refine lv_dup hx hb dX10_init_108 rfl ?_
        refine s_callN C hM (by omega) (by omega) (Or.inl (by omega)) (fun cz hz => n_X6 E sz l cz hz) gX10_init_X6_init_n56 rfl rfl rfl (List.mem_of_getElem? (i := 10) rfl) (hts (.initialized RX6) (by decide +kernel)) (hts (.instanceMethod yX6_init) (by decide +kernel)) rfl (by decide +kernel) ⟨(Nat.le_of_ble_eq_true rfl), (Nat.le_of_ble_eq_true rfl)⟩ hl.1 (Nat.le_of_ble_eq_true rfl) ⟨(Nat.le_of_ble_eq_true rfl), (Nat.le_of_ble_eq_true rfl)⟩ dX10_init_109 (fun H locs hM => ?_)
        have hM : nS E sz (fin E sz) cn 0 10 [.ref (sz + 1), .ref (sz + 3), .ref (sz + 9), .ref (sz + 15), .ref (sz + 137), .ref (sz + 138), .ref (sz + 153), .null, .null, .null, .null] 138 (.inl (E.2.2.2.1, 2, .inr (.inr (.inr (.inr (fun j => some (sz + (139 + 7 * j)))))))) 171 s H locs := hM
        refine s_putF (k := 7) (T := TX10) (ty := .object "CrowFences$Sits") (v := .ref (sz + 164)) (fs' := [.ref (sz + 1), .ref (sz + 3), .ref (sz + 9), .ref (sz + 15), .ref (sz + 137), .ref (sz + 138), .ref (sz + 153), .ref (sz + 164), .null, .null, .null]) C hM (by omega) rfl hi10 tyX10 tyX10_ok nmX10 (by decide) (hts (.fieldLink RX10 57 "CrowFences" "sits" "LCrowFences$Sits;") (by decide +kernel)) rfl rfl rfl (by decide +kernel) rfl rfl (Nat.le_of_ble_eq_true rfl) rfl dX10_init_112 (fun H locs hM => ?_)
        refine lv_aload_n hx hb dX10_init_115 rfl (lv_at hl 1 rfl) ?_
        refine s_new (cj := 0) (ds := [.int 0, .null, .null]) C hM (by omega) hi0 tyX0 tyX0_ok (hts (.classLink RX10 61 RX0) (by decide +kernel)) (hts (.instantiable RX0 3) (by decide +kernel)) (hts (.initialized RX0) (by decide +kernel)) rfl (fun j hj => by rcases (show j = 0 ∨ j = 1 ∨ j = 2 by omega) with rfl | rfl | rfl <;> rfl) (Nat.le_of_ble_eq_true rfl) (Nat.le_of_ble_eq_true rfl) dX10_init_116 (fun H hM => ?_)
        refine lv_dup hx hb dX10_init_119 rfl ?_
        refine s_callN C hM (by omega) (by omega) (Or.inl (by omega)) (fun cz hz => n_X0 E sz l cz hz) gX10_init_X0_init_n63 rfl rfl rfl (List.mem_of_getElem? (i := 11) rfl) (hts (.initialized RX0) (by decide +kernel)) (hts (.instanceMethod yX0_init) (by decide +kernel)) rfl (by decide +kernel) ⟨(Nat.le_of_ble_eq_true rfl), (Nat.le_of_ble_eq_true rfl)⟩ hl.1 (Nat.le_of_ble_eq_true rfl) ⟨(Nat.le_of_ble_eq_true rfl), (Nat.le_of_ble_eq_true rfl)⟩ dX10_init_120 (fun H locs hM => ?_)
        have hM : nS E sz (fin E sz) cn 0 10 [.ref (sz + 1), .ref (sz + 3), .ref (sz + 9), .ref (sz + 15), .ref (sz + 137), .ref (sz + 138), .ref (sz + 153), .ref (sz + 164), .null, .null, .null] 138 (.inl (E.2.2.2.1, 2, .inr (.inr (.inr (.inr (fun j => some (sz + (139 + 7 * j)))))))) 174 s H locs := hM
        refine s_putF (k := 8) (T := TX10) (ty := .object "CrowFences$Book") (v := .ref (sz + 171)) (fs' := [.ref (sz + 1), .ref (sz + 3), .ref (sz + 9), .ref (sz + 15), .ref (sz + 137), .ref (sz + 138), .ref (sz + 153), .ref (sz + 164), .ref (sz + 171), .null, .null]) C hM (by omega) rfl hi10 tyX10 tyX10_ok nmX10 (by decide) (hts (.fieldLink RX10 64 "CrowFences" "book" "LCrowFences$Book;") (by decide +kernel)) rfl rfl rfl (by decide +kernel) rfl rfl (Nat.le_of_ble_eq_true rfl) rfl dX10_init_123 (fun H locs hM => ?_)
        refine lv_aload_n hx hb dX10_init_126 rfl (lv_at hl 1 rfl) ?_
        refine s_new (cj := 5) (ds := [.int 0, .int 0, .int 0, .int 0, .int 0, .int 0, .int 0, .null, .null, .null, .null, .null, .null]) C hM (by omega) hi5 tyX5 tyX5_ok (hts (.classLink RX10 68 RX5) (by decide +kernel)) (hts (.instantiable RX5 13) (by decide +kernel)) (hts (.initialized RX5) (by decide +kernel)) rfl (fun j hj => by rcases (show j = 0 ∨ j = 1 ∨ j = 2 ∨ j = 3 ∨ j = 4 ∨ j = 5 ∨ j = 6 ∨ j = 7 ∨ j = 8 ∨ j = 9 ∨ j = 10 ∨ j = 11 ∨ j = 12 by omega) with rfl | rfl | rfl | rfl | rfl | rfl | rfl | rfl | rfl | rfl | rfl | rfl | rfl <;> rfl) (Nat.le_of_ble_eq_true rfl) (Nat.le_of_ble_eq_true rfl) dX10_init_127 (fun H hM => ?_)
        refine lv_dup hx hb dX10_init_130 rfl ?_
        refine s_callN C hM (by omega) (by omega) (Or.inl (by omega)) (fun cz hz => n_X5 E sz l cz 174 (Or.inl rfl) hz) gX10_init_X5_init_n70 rfl rfl rfl (List.mem_of_getElem? (i := 12) rfl) (hts (.initialized RX5) (by decide +kernel)) (hts (.instanceMethod yX5_init) (by decide +kernel)) rfl (by decide +kernel) ⟨(Nat.le_of_ble_eq_true rfl), (Nat.le_of_ble_eq_true rfl)⟩ hl.1 (Nat.le_of_ble_eq_true rfl) ⟨(Nat.le_of_ble_eq_true rfl), (Nat.le_of_ble_eq_true rfl)⟩ dX10_init_131 (fun H locs hM => ?_)
        have hM : nS E sz (fin E sz) cn 0 10 [.ref (sz + 1), .ref (sz + 3), .ref (sz + 9), .ref (sz + 15), .ref (sz + 137), .ref (sz + 138), .ref (sz + 153), .ref (sz + 164), .ref (sz + 171), .null, .null] 138 (.inl (E.2.2.2.1, 2, .inr (.inr (.inr (.inr (fun j => some (sz + (139 + 7 * j)))))))) 181 s H locs := hM
        refine s_put (k := 9) (T := TX10) (ty := .object "CrowFences$Plan") (v := .ref (sz + 174)) (fs' := [.ref (sz + 1), .ref (sz + 3), .ref (sz + 9), .ref (sz + 15), .ref (sz + 137), .ref (sz + 138), .ref (sz + 153), .ref (sz + 164), .ref (sz + 171), .ref (sz + 174), .null]) C hM (by omega) rfl hi10 tyX10 tyX10_ok nmX10 (by decide) (hts (.fieldLink RX10 71 "CrowFences" "plan" "LCrowFences$Plan;") (by decide +kernel)) rfl rfl (by decide +kernel) rfl rfl (Nat.le_of_ble_eq_true rfl) rfl dX10_init_134 (fun H locs hM => ?_)
        refine lv_aload_n hx hb dX10_init_137 rfl (lv_at hl 1 rfl) ?_
        refine s_new (cj := 5) (ds := [.int 0, .int 0, .int 0, .int 0, .int 0, .int 0, .int 0, .null, .null, .null, .null, .null, .null]) C hM (by omega) hi5 tyX5 tyX5_ok (hts (.classLink RX10 68 RX5) (by decide +kernel)) (hts (.instantiable RX5 13) (by decide +kernel)) (hts (.initialized RX5) (by decide +kernel)) rfl (fun j hj => by rcases (show j = 0 ∨ j = 1 ∨ j = 2 ∨ j = 3 ∨ j = 4 ∨ j = 5 ∨ j = 6 ∨ j = 7 ∨ j = 8 ∨ j = 9 ∨ j = 10 ∨ j = 11 ∨ j = 12 by omega) with rfl | rfl | rfl | rfl | rfl | rfl | rfl | rfl | rfl | rfl | rfl | rfl | rfl <;> rfl) (Nat.le_of_ble_eq_true rfl) (Nat.le_of_ble_eq_true rfl) dX10_init_138 (fun H hM => ?_)
        refine lv_dup hx hb dX10_init_141 rfl ?_
        refine s_callN C hM (by omega) (by omega) (Or.inl (by omega)) (fun cz hz => n_X5 E sz l cz 181 (Or.inr rfl) hz) gX10_init_X5_init_n70 rfl rfl rfl (List.mem_of_getElem? (i := 12) rfl) (hts (.initialized RX5) (by decide +kernel)) (hts (.instanceMethod yX5_init) (by decide +kernel)) rfl (by decide +kernel) ⟨(Nat.le_of_ble_eq_true rfl), (Nat.le_of_ble_eq_true rfl)⟩ hl.1 (Nat.le_of_ble_eq_true rfl) ⟨(Nat.le_of_ble_eq_true rfl), (Nat.le_of_ble_eq_true rfl)⟩ dX10_init_142 (fun H locs hM => ?_)
        have hM : nS E sz (fin E sz) cn 0 10 [.ref (sz + 1), .ref (sz + 3), .ref (sz + 9), .ref (sz + 15), .ref (sz + 137), .ref (sz + 138), .ref (sz + 153), .ref (sz + 164), .ref (sz + 171), .ref (sz + 174), .null] 138 (.inl (E.2.2.2.1, 2, .inr (.inr (.inr (.inr (fun j => some (sz + (139 + 7 * j)))))))) 188 s H locs := hM
        refine s_put (k := 10) (T := TX10) (ty := .object "CrowFences$Plan") (v := .ref (sz + 181)) (fs' := [.ref (sz + 1), .ref (sz + 3), .ref (sz + 9), .ref (sz + 15), .ref (sz + 137), .ref (sz + 138), .ref (sz + 153), .ref (sz + 164), .ref (sz + 171), .ref (sz + 174), .ref (sz + 181)]) C hM (by omega) rfl hi10 tyX10 tyX10_ok nmX10 (by decide) (hts (.fieldLink RX10 75 "CrowFences" "draft" "LCrowFences$Plan;") (by decide +kernel)) rfl rfl (by decide +kernel) rfl rfl (Nat.le_of_ble_eq_true rfl) rfl dX10_init_145 (fun H locs hM => ?_)
        refine lv_aload_n hx hb dX10_init_148 rfl (lv_at hl 1 rfl) ?_
        refine s_get (k := 1) (T := TX10) (v := .ref (sz + 3)) C hM (by omega) rfl hi10 (by decide) (hts (.fieldLink RX10 19 "CrowFences" "now" "LCrowFences$Winter;") (by decide +kernel)) rfl rfl dX10_init_149 ?_
        refine lv_aload_n hx hb dX10_init_152 rfl (lv_at hl 1 rfl) ?_
        refine s_get (k := 9) (T := TX10) (v := .ref (sz + 174)) C hM (by omega) rfl hi10 (by decide) (hts (.fieldLink RX10 71 "CrowFences" "plan" "LCrowFences$Plan;") (by decide +kernel)) rfl rfl dX10_init_153 ?_
        refine W.widen (k := 187) (n := 1602) (Nat.le_of_ble_eq_true rfl) (Nat.le_of_ble_eq_true rfl) ?_
        have hN := nS_end hM (by rw [fin, qmem_10 _ _ _ _ _ (show qk 0 = 10 by decide +kernel)]; rfl) (fun _ _ => by rw [fin, qmem_14 _ _ _ _ _ (show qk 138 = 14 by decide +kernel)]; rfl)
        have hG : gM E (fun j => sz + j) S0 A0 (174, 181) (nAr sz) s H locs := nM_g hN
        refine g_callVV (n := 1) (o := 3) (As := [.ref (sz + 174)]) (rest := []) (nC_q C) hG (n_A C) (g_X9_begin E (fun j => sz + j) l S0 A0 (174, 181) 3 (show 3 ∈ qwL by decide +kernel) 174 (Or.inl rfl) 0 rfl (by omega)) (gmem_9 E _ S0 A0 (174, 181) (by decide +kernel)) (by omega) rfl gX10_init_X9_begin rfl rfl rfl (by decide +kernel) ⟨(Nat.le_of_ble_eq_true rfl), (Nat.le_of_ble_eq_true rfl)⟩ rfl hl.1 rfl (Nat.le_of_ble_eq_true rfl) ⟨(Nat.le_of_ble_eq_true rfl), (Nat.le_of_ble_eq_true rfl)⟩ dX10_init_156 (fun S' A' b' H locs hp hG => ?_)
        exact W.vret C.1 C.2.1 C.2.2.2.2.2.2.2.1 (fun t ht hW => ⟨⟨(S', A', b'), rfl, hp, by show va_P E.1 vwCl (gW E (fun j => sz + j) S' A' b') t.heap; rw [ht]; exact hG.1⟩, hG.2.2.F ht⟩) hG.2.2.2.2 dX10_init_159 C.2.2.2.2.2.2.1
      · have cc : ¬ (2 ≤ k) := fun z => cc ((nI_leI (a := 2) (b := k) (by omega) (by omega)).mpr z)
        have hRc : (headSpec wsX10_init { frames := 3, cells := 187, slots := 1602, locals := 53 }).room.cells = 187 := rfl
        have hRs : (headSpec wsX10_init { frames := 3, cells := 187, slots := 1602, locals := 53 }).room.slots = 1602 := rfl
        refine lv_aload_n hx hb dX10_init_74 rfl (lv_at hl 1 rfl) ?_
        refine s_get (k := 5) (T := TX10) (v := .ref (sz + 138)) C hM (by omega) rfl hi10 (by decide) (hts (.fieldLink RX10 42 "CrowFences" "images" "[LCrowFences$Image;") (by decide +kernel)) rfl rfl dX10_init_75 ?_
        refine lv_iload_n hx hb dX10_init_78 rfl (lv_at hl 0 rfl) ?_
        refine s_new (cj := 2) (ds := [.null, .int 0, .int 0]) C hM (by omega) hi2 tyX2 tyX2_ok (hts (.classLink RX10 40 RX2) (by decide +kernel)) (hts (.instantiable RX2 3) (by decide +kernel)) (hts (.initialized RX2) (by decide +kernel)) rfl (fun j hj => by rcases (show j = 0 ∨ j = 1 ∨ j = 2 by omega) with rfl | rfl | rfl <;> rfl) (by rw [hRc]; omega) (by rw [hRs]; omega) dX10_init_79 (fun H hM => ?_)
        refine lv_dup hx hb dX10_init_82 rfl ?_
        refine s_callN C hM (by omega) (by omega) (Or.inl (by omega)) (fun cz hz => n_X2 E sz l cz (139 + 7 * k) (qimg_g (show k < 2 by omega)) hz) gX10_init_X2_init_n46 rfl rfl rfl (List.mem_of_getElem? (i := 8) rfl) (hts (.initialized RX2) (by decide +kernel)) (hts (.instanceMethod yX2_init) (by decide +kernel)) rfl (by decide +kernel) ⟨(Nat.le_of_ble_eq_true rfl), (Nat.le_of_ble_eq_true rfl)⟩ hl.1 (Nat.le_of_ble_eq_true rfl) ⟨(by rw [hRc]; omega), (by rw [hRs]; omega)⟩ dX10_init_83 (fun H locs hM => ?_)
        have hM : nS E sz (fin E sz) cn 0 10 [.ref (sz + 1), .ref (sz + 3), .ref (sz + 9), .ref (sz + 15), .ref (sz + 137), .ref (sz + 138), .null, .null, .null, .null, .null] 138 (.inl (E.2.2.2.1, 2, .inr (.inr (.inr (.inr (fun j => if j < k then some (sz + (139 + 7 * j)) else none)))))) (139 + 7 * (k + 1)) s H locs := hM
        refine s_aast (t0 := 2) (cj := 2) (r := (RX2, TX2, 3)) (vs := qo2 (fun j => sz + j) (139 + 7 * k) S0) C hM (by omega) (by omega) rfl (by rw [fin, qmem_2 _ _ _ _ _ ((qg_all (qimg_g (show k < 2 by omega))).1)]) (by omega) (by omega) rfl (vp_nI (by omega) (by omega)) dX10_init_86 (fun H locs hM => ?_)
        rw [nIc (by omega)] at hM
        have hM : nS E sz (fin E sz) cn 0 10 [.ref (sz + 1), .ref (sz + 3), .ref (sz + 9), .ref (sz + 15), .ref (sz + 137), .ref (sz + 138), .null, .null, .null, .null, .null] 138 (.inl (E.2.2.2.1, 2, .inr (.inr (.inr (.inr (fun j => if j < k + 1 then some (sz + (139 + 7 * j)) else none)))))) (139 + 7 * (k + 1)) s H locs := s_row hM (by omega) (by omega) (fun j hj => by
          unfold va_up
          by_cases e1 : j = k
          · rw [if_pos e1, if_pos (by omega), e1]
          · by_cases e2 : j < k
            · rw [if_neg e1, if_pos (show j < k + 1 by omega)]; exact if_pos e2
            · rw [if_neg e1, if_neg (show ¬ j < k + 1 by omega)]; exact if_neg e2)
        refine lv_iinc (v := nI (k + 1)) (lv' := [(1, .int (nI (k + 1))), (0, .ref (sz + 0))]) hx hb dX10_init_87 hl (k := 0) rfl (by rw [nI_succ]; rfl) (by decide) rfl (fun ls hl => ?_)
        refine lv_goto (tgt := 69) hx hb dX10_init_90 (by decide) ?_
        refine W.widen (k := 138 + 7 * (k + 1)) (n := 1196 + 45 * (k + 1)) (by omega) (by omega) ?_
        exact ih (k + 1) (by omega) (by omega) H locs ls hM hl
  exact loop 3 0 (by omega) (by omega) _ _ _ hM hl
