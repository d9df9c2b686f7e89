/-! makers of the class's cells -/
theorem S0_z {i j : Nat} (h1 : i ≠ 1) (h2 : i ≠ 188) : S0 i j = 0 := by simp [S0, h1, h2]
set_option maxHeartbeats 4000000 in
set_option maxRecDepth 100000 in
theorem n_X9 (E : qE) (sz : Nat) (l : Launch) (cn : Nat → va_E) (w : Nat) (hw : qw w) (h0 : cn w = .inr (9, [.null, .null, .null, .null, .null, .int 0, .int 0, .int 0])) : NV E sz l yX9_init wsX9_init { frames := 1, cells := 5, slots := 34, locals := 12 } 5 34 [.ref (sz + w)] cn (w + 1) (mix (fin E sz) cn w) (w + 6) := by
  obtain ⟨⟨kw, kw1, kw2, kw3, kw4, kw5⟩, ⟨lw1, lw2, lw3, lw4, lw5⟩, bw, bw6⟩ := qw_all hw
  refine nM_body (n0 := w + 1) RX9 rfl (by decide) rfl rfl rfl ?_
  intro pg e s m below meth cd C hM
  have hx := C.1
  have hb := C.2.1
  have hts := C.2.2.2.2.1
  have hM : nS E sz (fin E sz) cn w 9 [.null, .null, .null, .null, .null, .int 0, .int 0, .int 0] 0 (.inr (0, [])) (w + 1) s s.heap [] := nS_0 h0 hM
  have hl := lv_entry ([.ref (sz + w)]) (n := 1) (Nat.le_of_ble_eq_true rfl)
  rw [lg_entry_eq]
  generalize (lg_sl ([.ref (sz + w)]) ++ List.replicate (1 - (lg_sl ([.ref (sz + w)])).length) Slot.unset).toArray = ls at hl ⊢
  have hl : lv_has ls 1 [(0, .ref (sz + w))] := hl
  have hi9 : ∀ w ∈ u_ws RX9 TX9 8, w ∈ wsX9_init := by decide +kernel
  refine lv_aload_n hx hb dX9_init_0 rfl (lv_at hl 0 rfl) ?_
  refine n_obj C (hts (.methodLink RX9 3 objectInit) (by decide +kernel)) (hts (.instanceMethod objectInit) (by decide +kernel)) (hts (.code objectInit ⟨#[0xb1]⟩ 1 none) (by decide +kernel)) hl.1 (Nat.le_of_ble_eq_true rfl) (Nat.le_of_ble_eq_true rfl) dX9_init_1 ?_
  refine lv_aload_n hx hb dX9_init_4 rfl (lv_at hl 0 rfl) ?_
  refine lv_bipush (v := 12) hx hb dX9_init_5 (by decide) ?_
  refine s_newi (v := 12) (L := 12) C hM (by omega) (by omega) (by omega) ((fin_12 E sz kw1).trans (by rw [lw1])) (hts (.arrayClass .int) (by decide +kernel)) (by decide) (by decide) (by decide) (Nat.le_of_ble_eq_true rfl) (Nat.le_of_ble_eq_true rfl) dX9_init_7 (fun H hM => ?_)
  have hM : nS E sz (fin E sz) cn w 9 [.null, .null, .null, .null, .null, .int 0, .int 0, .int 0] 0 (.inr (0, [])) (w + 2) s H _ := hM
  refine s_putF (k := 0) (T := TX9) (ty := .array .int) (v := .ref (sz + (w + 1))) (fs' := [.ref (sz + (w + 1)), .null, .null, .null, .null, .int 0, .int 0, .int 0]) C hM (by omega) rfl hi9 tyX9 tyX9_ok nmX9 (by decide) (hts (.fieldLink RX9 9 "CrowFences$Winter" "snow" "[I") (by decide +kernel)) rfl rfl rfl (by decide +kernel) rfl rfl (Nat.le_of_ble_eq_true rfl) rfl dX9_init_9 (fun H locs hM => ?_)
  refine lv_aload_n hx hb dX9_init_12 rfl (lv_at hl 0 rfl) ?_
  refine lv_bipush (v := 6) hx hb dX9_init_13 (by decide) ?_
  refine s_newi (v := 6) (L := 6) C hM (by omega) (by omega) (by omega) ((fin_12 E sz kw2).trans (by rw [lw2])) (hts (.arrayClass .int) (by decide +kernel)) (by decide) (by decide) (by decide) (Nat.le_of_ble_eq_true rfl) (Nat.le_of_ble_eq_true rfl) dX9_init_15 (fun H hM => ?_)
  have hM : nS E sz (fin E sz) cn w 9 [.ref (sz + (w + 1)), .null, .null, .null, .null, .int 0, .int 0, .int 0] 0 (.inr (0, [])) (w + 3) s H _ := hM
  refine s_putF (k := 1) (T := TX9) (ty := .array .int) (v := .ref (sz + (w + 2))) (fs' := [.ref (sz + (w + 1)), .ref (sz + (w + 2)), .null, .null, .null, .int 0, .int 0, .int 0]) C hM (by omega) rfl hi9 tyX9 tyX9_ok nmX9 (by decide) (hts (.fieldLink RX9 15 "CrowFences$Winter" "cellOf" "[I") (by decide +kernel)) rfl rfl rfl (by decide +kernel) rfl rfl (Nat.le_of_ble_eq_true rfl) rfl dX9_init_17 (fun H locs hM => ?_)
  refine lv_aload_n hx hb dX9_init_20 rfl (lv_at hl 0 rfl) ?_
  refine lv_bipush (v := 6) hx hb dX9_init_21 (by decide) ?_
  refine s_newi (v := 6) (L := 6) C hM (by omega) (by omega) (by omega) ((fin_12 E sz kw3).trans (by rw [lw3])) (hts (.arrayClass .int) (by decide +kernel)) (by decide) (by decide) (by decide) (Nat.le_of_ble_eq_true rfl) (Nat.le_of_ble_eq_true rfl) dX9_init_23 (fun H hM => ?_)
  have hM : nS E sz (fin E sz) cn w 9 [.ref (sz + (w + 1)), .ref (sz + (w + 2)), .null, .null, .null, .int 0, .int 0, .int 0] 0 (.inr (0, [])) (w + 4) s H _ := hM
  refine s_putF (k := 2) (T := TX9) (ty := .array .int) (v := .ref (sz + (w + 3))) (fs' := [.ref (sz + (w + 1)), .ref (sz + (w + 2)), .ref (sz + (w + 3)), .null, .null, .int 0, .int 0, .int 0]) C hM (by omega) rfl hi9 tyX9 tyX9_ok nmX9 (by decide) (hts (.fieldLink RX9 18 "CrowFences$Winter" "crowOn" "[I") (by decide +kernel)) rfl rfl rfl (by decide +kernel) rfl rfl (Nat.le_of_ble_eq_true rfl) rfl dX9_init_25 (fun H locs hM => ?_)
  refine lv_aload_n hx hb dX9_init_28 rfl (lv_at hl 0 rfl) ?_
  refine lv_iconst (v := 5) hx hb dX9_init_29 (by decide) ?_
  refine s_newi (v := 5) (L := 5) C hM (by omega) (by omega) (by omega) ((fin_12 E sz kw4).trans (by rw [lw4])) (hts (.arrayClass .int) (by decide +kernel)) (by decide) (by decide) (by decide) (Nat.le_of_ble_eq_true rfl) (Nat.le_of_ble_eq_true rfl) dX9_init_30 (fun H hM => ?_)
  have hM : nS E sz (fin E sz) cn w 9 [.ref (sz + (w + 1)), .ref (sz + (w + 2)), .ref (sz + (w + 3)), .null, .null, .int 0, .int 0, .int 0] 0 (.inr (0, [])) (w + 5) s H _ := hM
  refine s_putF (k := 3) (T := TX9) (ty := .array .int) (v := .ref (sz + (w + 4))) (fs' := [.ref (sz + (w + 1)), .ref (sz + (w + 2)), .ref (sz + (w + 3)), .ref (sz + (w + 4)), .null, .int 0, .int 0, .int 0]) C hM (by omega) rfl hi9 tyX9 tyX9_ok nmX9 (by decide) (hts (.fieldLink RX9 21 "CrowFences$Winter" "bid" "[I") (by decide +kernel)) rfl rfl rfl (by decide +kernel) rfl rfl (Nat.le_of_ble_eq_true rfl) rfl dX9_init_32 (fun H locs hM => ?_)
  refine lv_aload_n hx hb dX9_init_35 rfl (lv_at hl 0 rfl) ?_
  refine lv_iconst (v := 5) hx hb dX9_init_36 (by decide) ?_
  refine s_newi (v := 5) (L := 5) C hM (by omega) (by omega) (by omega) ((fin_12 E sz kw5).trans (by rw [lw5])) (hts (.arrayClass .int) (by decide +kernel)) (by decide) (by decide) (by decide) (Nat.le_of_ble_eq_true rfl) (Nat.le_of_ble_eq_true rfl) dX9_init_37 (fun H hM => ?_)
  have hM : nS E sz (fin E sz) cn w 9 [.ref (sz + (w + 1)), .ref (sz + (w + 2)), .ref (sz + (w + 3)), .ref (sz + (w + 4)), .null, .int 0, .int 0, .int 0] 0 (.inr (0, [])) (w + 6) s H _ := hM
  refine s_putF (k := 4) (T := TX9) (ty := .array .int) (v := .ref (sz + (w + 5))) (fs' := [.ref (sz + (w + 1)), .ref (sz + (w + 2)), .ref (sz + (w + 3)), .ref (sz + (w + 4)), .ref (sz + (w + 5)), .int 0, .int 0, .int 0]) C hM (by omega) rfl hi9 tyX9 tyX9_ok nmX9 (by decide) (hts (.fieldLink RX9 24 "CrowFences$Winter" "paid" "[I") (by decide +kernel)) rfl rfl rfl (by decide +kernel) rfl rfl (Nat.le_of_ble_eq_true rfl) rfl dX9_init_39 (fun H locs hM => ?_)
  refine W.widen (k := 5) (n := 34) (Nat.le_of_ble_eq_true rfl) (Nat.le_of_ble_eq_true rfl) ?_
  exact s_vret C hM (by rw [fin, qmem_9 _ _ _ _ _ kw]; simp only [qo9, S0_z (show w ≠ 1 by omega) (show w ≠ 188 by omega)]) (fun h _ => absurd h (by omega)) dX9_init_42
set_option maxHeartbeats 4000000 in
set_option maxRecDepth 100000 in
theorem n_X8 (E : qE) (sz : Nat) (l : Launch) (cn : Nat → va_E) (y : Nat) (hy : qy y) (h0 : cn y = .inr (8, [.null, .int 0, .int 0, .int 0, .int 0, .int 0])) : NV E sz l yX8_init wsX8_init { frames := 1, cells := 1, slots := 6, locals := 12 } 1 6 [.ref (sz + y)] cn (y + 1) (mix (fin E sz) cn y) (y + 2) := by
  obtain ⟨⟨ky, ky1⟩, ly1, by1, by2⟩ := qy_all hy
  refine nM_body (n0 := y + 1) RX8 rfl (by decide) rfl rfl rfl ?_
  intro pg e s m below meth cd C hM
  have hx := C.1
  have hb := C.2.1
  have hts := C.2.2.2.2.1
  have hM : nS E sz (fin E sz) cn y 8 [.null, .int 0, .int 0, .int 0, .int 0, .int 0] 0 (.inr (0, [])) (y + 1) s s.heap [] := nS_0 h0 hM
  have hl := lv_entry ([.ref (sz + y)]) (n := 1) (Nat.le_of_ble_eq_true rfl)
  rw [lg_entry_eq]
  generalize (lg_sl ([.ref (sz + y)]) ++ List.replicate (1 - (lg_sl ([.ref (sz + y)])).length) Slot.unset).toArray = ls at hl ⊢
  have hl : lv_has ls 1 [(0, .ref (sz + y))] := hl
  have hi8 : ∀ w ∈ u_ws RX8 TX8 6, w ∈ wsX8_init := by decide +kernel
  refine lv_aload_n hx hb dX8_init_0 rfl (lv_at hl 0 rfl) ?_
  refine n_obj C (hts (.methodLink RX8 3 objectInit) (by decide +kernel)) (hts (.instanceMethod objectInit) (by decide +kernel)) (hts (.code objectInit ⟨#[0xb1]⟩ 1 none) (by decide +kernel)) hl.1 (Nat.le_of_ble_eq_true rfl) (Nat.le_of_ble_eq_true rfl) dX8_init_1 ?_
  refine lv_aload_n hx hb dX8_init_4 rfl (lv_at hl 0 rfl) ?_
  refine lv_bipush (v := 6) hx hb dX8_init_5 (by decide) ?_
  refine s_newi (v := 6) (L := 6) C hM (by omega) (by omega) (by omega) ((fin_12 E sz ky1).trans (by rw [ly1])) (hts (.arrayClass .int) (by decide +kernel)) (by decide) (by decide) (by decide) (Nat.le_of_ble_eq_true rfl) (Nat.le_of_ble_eq_true rfl) dX8_init_7 (fun H hM => ?_)
  have hM : nS E sz (fin E sz) cn y 8 [.null, .int 0, .int 0, .int 0, .int 0, .int 0] 0 (.inr (0, [])) (y + 2) s H _ := hM
  refine s_putF (k := 0) (T := TX8) (ty := .array .int) (v := .ref (sz + (y + 1))) (fs' := [.ref (sz + (y + 1)), .int 0, .int 0, .int 0, .int 0, .int 0]) C hM (by omega) rfl hi8 tyX8 tyX8_ok nmX8 (by decide) (hts (.fieldLink RX8 9 "CrowFences$Ways" "crowOn" "[I") (by decide +kernel)) rfl rfl rfl (by decide +kernel) rfl rfl (Nat.le_of_ble_eq_true rfl) rfl dX8_init_9 (fun H locs hM => ?_)
  refine W.widen (k := 1) (n := 6) (Nat.le_of_ble_eq_true rfl) (Nat.le_of_ble_eq_true rfl) ?_
  exact s_vret C hM (by rw [fin, qmem_8 _ _ _ _ _ ky]; simp only [qo8, S0_z (show y ≠ 1 by omega) (show y ≠ 188 by omega)]) (fun h _ => absurd h (by omega)) dX8_init_12
set_option maxHeartbeats 4000000 in
set_option maxRecDepth 100000 in
theorem n_X5 (E : qE) (sz : Nat) (l : Launch) (cn : Nat → va_E) (p : Nat) (hp : qpl p) (h0 : cn p = .inr (5, [.int 0, .int 0, .int 0, .int 0, .int 0, .int 0, .int 0, .null, .null, .null, .null, .null, .null])) : NV E sz l yX5_init wsX5_init { frames := 1, cells := 6, slots := 42, locals := 12 } 6 42 [.ref (sz + p)] cn (p + 1) (mix (fin E sz) cn p) (p + 7) := by
  obtain ⟨⟨kp, kp1, kp2, kp3, kp4, kp5, kp6⟩, ⟨lp1, lp2, lp3, lp4, lp5, lp6⟩, bp, bp7⟩ := qpl_all hp
  refine nM_body (n0 := p + 1) RX5 rfl (by decide) rfl rfl rfl ?_
  intro pg e s m below meth cd C hM
  have hx := C.1
  have hb := C.2.1
  have hts := C.2.2.2.2.1
  have hM : nS E sz (fin E sz) cn p 5 [.int 0, .int 0, .int 0, .int 0, .int 0, .int 0, .int 0, .null, .null, .null, .null, .null, .null] 0 (.inr (0, [])) (p + 1) s s.heap [] := nS_0 h0 hM
  have hl := lv_entry ([.ref (sz + p)]) (n := 1) (Nat.le_of_ble_eq_true rfl)
  rw [lg_entry_eq]
  generalize (lg_sl ([.ref (sz + p)]) ++ List.replicate (1 - (lg_sl ([.ref (sz + p)])).length) Slot.unset).toArray = ls at hl ⊢
  have hl : lv_has ls 1 [(0, .ref (sz + p))] := hl
  have hi5 : ∀ w ∈ u_ws RX5 TX5 13, w ∈ wsX5_init := by decide +kernel
  refine lv_aload_n hx hb dX5_init_0 rfl (lv_at hl 0 rfl) ?_
  refine n_obj C (hts (.methodLink RX5 3 objectInit) (by decide +kernel)) (hts (.instanceMethod objectInit) (by decide +kernel)) (hts (.code objectInit ⟨#[0xb1]⟩ 1 none) (by decide +kernel)) hl.1 (Nat.le_of_ble_eq_true rfl) (Nat.le_of_ble_eq_true rfl) dX5_init_1 ?_
  refine lv_aload_n hx hb dX5_init_4 rfl (lv_at hl 0 rfl) ?_
  refine lv_bipush (v := 6) hx hb dX5_init_5 (by decide) ?_
  refine s_newi (v := 6) (L := 6) C hM (by omega) (by omega) (by omega) ((fin_12 E sz kp1).trans (by rw [lp1])) (hts (.arrayClass .int) (by decide +kernel)) (by decide) (by decide) (by decide) (Nat.le_of_ble_eq_true rfl) (Nat.le_of_ble_eq_true rfl) dX5_init_7 (fun H hM => ?_)
  have hM : nS E sz (fin E sz) cn p 5 [.int 0, .int 0, .int 0, .int 0, .int 0, .int 0, .int 0, .null, .null, .null, .null, .null, .null] 0 (.inr (0, [])) (p + 2) s H _ := hM
  refine s_putF (k := 7) (T := TX5) (ty := .array .int) (v := .ref (sz + (p + 1))) (fs' := [.int 0, .int 0, .int 0, .int 0, .int 0, .int 0, .int 0, .ref (sz + (p + 1)), .null, .null, .null, .null, .null]) C hM (by omega) rfl hi5 tyX5 tyX5_ok nmX5 (by decide) (hts (.fieldLink RX5 9 "CrowFences$Plan" "cellOf" "[I") (by decide +kernel)) rfl rfl rfl (by decide +kernel) rfl rfl (Nat.le_of_ble_eq_true rfl) rfl dX5_init_9 (fun H locs hM => ?_)
  refine lv_aload_n hx hb dX5_init_12 rfl (lv_at hl 0 rfl) ?_
  refine lv_bipush (v := 6) hx hb dX5_init_13 (by decide) ?_
  refine s_newi (v := 6) (L := 6) C hM (by omega) (by omega) (by omega) ((fin_12 E sz kp2).trans (by rw [lp2])) (hts (.arrayClass .int) (by decide +kernel)) (by decide) (by decide) (by decide) (Nat.le_of_ble_eq_true rfl) (Nat.le_of_ble_eq_true rfl) dX5_init_15 (fun H hM => ?_)
  have hM : nS E sz (fin E sz) cn p 5 [.int 0, .int 0, .int 0, .int 0, .int 0, .int 0, .int 0, .ref (sz + (p + 1)), .null, .null, .null, .null, .null] 0 (.inr (0, [])) (p + 3) s H _ := hM
  refine s_putF (k := 8) (T := TX5) (ty := .array .int) (v := .ref (sz + (p + 2))) (fs' := [.int 0, .int 0, .int 0, .int 0, .int 0, .int 0, .int 0, .ref (sz + (p + 1)), .ref (sz + (p + 2)), .null, .null, .null, .null]) C hM (by omega) rfl hi5 tyX5 tyX5_ok nmX5 (by decide) (hts (.fieldLink RX5 15 "CrowFences$Plan" "view" "[I") (by decide +kernel)) rfl rfl rfl (by decide +kernel) rfl rfl (Nat.le_of_ble_eq_true rfl) rfl dX5_init_17 (fun H locs hM => ?_)
  refine lv_aload_n hx hb dX5_init_20 rfl (lv_at hl 0 rfl) ?_
  refine lv_iconst (v := 5) hx hb dX5_init_21 (by decide) ?_
  refine s_newi (v := 5) (L := 5) C hM (by omega) (by omega) (by omega) ((fin_12 E sz kp3).trans (by rw [lp3])) (hts (.arrayClass .int) (by decide +kernel)) (by decide) (by decide) (by decide) (Nat.le_of_ble_eq_true rfl) (Nat.le_of_ble_eq_true rfl) dX5_init_22 (fun H hM => ?_)
  have hM : nS E sz (fin E sz) cn p 5 [.int 0, .int 0, .int 0, .int 0, .int 0, .int 0, .int 0, .ref (sz + (p + 1)), .ref (sz + (p + 2)), .null, .null, .null, .null] 0 (.inr (0, [])) (p + 4) s H _ := hM
  refine s_putF (k := 9) (T := TX5) (ty := .array .int) (v := .ref (sz + (p + 3))) (fs' := [.int 0, .int 0, .int 0, .int 0, .int 0, .int 0, .int 0, .ref (sz + (p + 1)), .ref (sz + (p + 2)), .ref (sz + (p + 3)), .null, .null, .null]) C hM (by omega) rfl hi5 tyX5 tyX5_ok nmX5 (by decide) (hts (.fieldLink RX5 18 "CrowFences$Plan" "bid" "[I") (by decide +kernel)) rfl rfl rfl (by decide +kernel) rfl rfl (Nat.le_of_ble_eq_true rfl) rfl dX5_init_24 (fun H locs hM => ?_)
  refine lv_aload_n hx hb dX5_init_27 rfl (lv_at hl 0 rfl) ?_
  refine lv_iconst (v := 5) hx hb dX5_init_28 (by decide) ?_
  refine s_newi (v := 5) (L := 5) C hM (by omega) (by omega) (by omega) ((fin_12 E sz kp4).trans (by rw [lp4])) (hts (.arrayClass .int) (by decide +kernel)) (by decide) (by decide) (by decide) (Nat.le_of_ble_eq_true rfl) (Nat.le_of_ble_eq_true rfl) dX5_init_29 (fun H hM => ?_)
  have hM : nS E sz (fin E sz) cn p 5 [.int 0, .int 0, .int 0, .int 0, .int 0, .int 0, .int 0, .ref (sz + (p + 1)), .ref (sz + (p + 2)), .ref (sz + (p + 3)), .null, .null, .null] 0 (.inr (0, [])) (p + 5) s H _ := hM
  refine s_putF (k := 10) (T := TX5) (ty := .array .int) (v := .ref (sz + (p + 4))) (fs' := [.int 0, .int 0, .int 0, .int 0, .int 0, .int 0, .int 0, .ref (sz + (p + 1)), .ref (sz + (p + 2)), .ref (sz + (p + 3)), .ref (sz + (p + 4)), .null, .null]) C hM (by omega) rfl hi5 tyX5 tyX5_ok nmX5 (by decide) (hts (.fieldLink RX5 21 "CrowFences$Plan" "perView" "[I") (by decide +kernel)) rfl rfl rfl (by decide +kernel) rfl rfl (Nat.le_of_ble_eq_true rfl) rfl dX5_init_31 (fun H locs hM => ?_)
  refine lv_aload_n hx hb dX5_init_34 rfl (lv_at hl 0 rfl) ?_
  refine lv_bipush (v := 10) hx hb dX5_init_35 (by decide) ?_
  refine s_newi (v := 10) (L := 10) C hM (by omega) (by omega) (by omega) ((fin_12 E sz kp5).trans (by rw [lp5])) (hts (.arrayClass .int) (by decide +kernel)) (by decide) (by decide) (by decide) (Nat.le_of_ble_eq_true rfl) (Nat.le_of_ble_eq_true rfl) dX5_init_37 (fun H hM => ?_)
  have hM : nS E sz (fin E sz) cn p 5 [.int 0, .int 0, .int 0, .int 0, .int 0, .int 0, .int 0, .ref (sz + (p + 1)), .ref (sz + (p + 2)), .ref (sz + (p + 3)), .ref (sz + (p + 4)), .null, .null] 0 (.inr (0, [])) (p + 6) s H _ := hM
  refine s_putF (k := 11) (T := TX5) (ty := .array .int) (v := .ref (sz + (p + 5))) (fs' := [.int 0, .int 0, .int 0, .int 0, .int 0, .int 0, .int 0, .ref (sz + (p + 1)), .ref (sz + (p + 2)), .ref (sz + (p + 3)), .ref (sz + (p + 4)), .ref (sz + (p + 5)), .null]) C hM (by omega) rfl hi5 tyX5 tyX5_ok nmX5 (by decide) (hts (.fieldLink RX5 24 "CrowFences$Plan" "strong" "[I") (by decide +kernel)) rfl rfl rfl (by decide +kernel) rfl rfl (Nat.le_of_ble_eq_true rfl) rfl dX5_init_39 (fun H locs hM => ?_)
  refine lv_aload_n hx hb dX5_init_42 rfl (lv_at hl 0 rfl) ?_
  refine lv_bipush (v := 10) hx hb dX5_init_43 (by decide) ?_
  refine s_newi (v := 10) (L := 10) C hM (by omega) (by omega) (by omega) ((fin_12 E sz kp6).trans (by rw [lp6])) (hts (.arrayClass .int) (by decide +kernel)) (by decide) (by decide) (by decide) (Nat.le_of_ble_eq_true rfl) (Nat.le_of_ble_eq_true rfl) dX5_init_45 (fun H hM => ?_)
  have hM : nS E sz (fin E sz) cn p 5 [.int 0, .int 0, .int 0, .int 0, .int 0, .int 0, .int 0, .ref (sz + (p + 1)), .ref (sz + (p + 2)), .ref (sz + (p + 3)), .ref (sz + (p + 4)), .ref (sz + (p + 5)), .null] 0 (.inr (0, [])) (p + 7) s H _ := hM
  refine s_putF (k := 12) (T := TX5) (ty := .array .int) (v := .ref (sz + (p + 6))) (fs' := [.int 0, .int 0, .int 0, .int 0, .int 0, .int 0, .int 0, .ref (sz + (p + 1)), .ref (sz + (p + 2)), .ref (sz + (p + 3)), .ref (sz + (p + 4)), .ref (sz + (p + 5)), .ref (sz + (p + 6))]) C hM (by omega) rfl hi5 tyX5 tyX5_ok nmX5 (by decide) (hts (.fieldLink RX5 27 "CrowFences$Plan" "fall" "[I") (by decide +kernel)) rfl rfl rfl (by decide +kernel) rfl rfl (Nat.le_of_ble_eq_true rfl) rfl dX5_init_47 (fun H locs hM => ?_)
  refine W.widen (k := 6) (n := 42) (Nat.le_of_ble_eq_true rfl) (Nat.le_of_ble_eq_true rfl) ?_
  exact s_vret C hM (by rw [fin, qmem_5 _ _ _ _ _ kp]; simp only [qo5, S0_z (show p ≠ 1 by omega) (show p ≠ 188 by omega)]) (fun h _ => absurd h (by omega)) dX5_init_50
set_option maxHeartbeats 4000000 in
set_option maxRecDepth 100000 in
theorem n_X0 (E : qE) (sz : Nat) (l : Launch) (cn : Nat → va_E) (h0 : cn 171 = .inr (0, [.int 0, .null, .null])) : NV E sz l yX0_init wsX0_init { frames := 1, cells := 2, slots := 30, locals := 12 } 2 30 [.ref (sz + 171)] cn 172 (mix (fin E sz) cn 171) 174 := by
  refine nM_body (n0 := 172) RX0 rfl (by decide) rfl rfl rfl ?_
  intro pg e s m below meth cd C hM
  have hx := C.1
  have hb := C.2.1
  have hts := C.2.2.2.2.1
  have hM : nS E sz (fin E sz) cn 171 0 [.int 0, .null, .null] 0 (.inr (0, [])) 172 s s.heap [] := nS_0 h0 hM
  have hl := lv_entry ([.ref (sz + 171)]) (n := 1) (Nat.le_of_ble_eq_true rfl)
  rw [lg_entry_eq]
  generalize (lg_sl ([.ref (sz + 171)]) ++ List.replicate (1 - (lg_sl ([.ref (sz + 171)])).length) Slot.unset).toArray = ls at hl ⊢
  have hl : lv_has ls 1 [(0, .ref (sz + 171))] := hl
  have hi0 : ∀ w ∈ u_ws RX0 TX0 3, w ∈ wsX0_init := by decide +kernel
  refine lv_aload_n hx hb dX0_init_0 rfl (lv_at hl 0 rfl) ?_
  refine n_obj C (hts (.methodLink RX0 3 objectInit) (by decide +kernel)) (hts (.instanceMethod objectInit) (by decide +kernel)) (hts (.code objectInit ⟨#[0xb1]⟩ 1 none) (by decide +kernel)) hl.1 (Nat.le_of_ble_eq_true rfl) (Nat.le_of_ble_eq_true rfl) dX0_init_1 ?_
  refine lv_aload_n hx hb dX0_init_4 rfl (lv_at hl 0 rfl) ?_
  refine lv_bipush (v := 15) hx hb dX0_init_5 (by decide) ?_
  refine s_newi (v := 15) (L := 15) C hM (by omega) (by omega) (by omega) ((fin_12 E sz (show qk 172 = 12 by decide +kernel)).trans (by rw [show ql 172 = 15 by decide +kernel])) (hts (.arrayClass .int) (by decide +kernel)) (by decide) (by decide) (by decide) (Nat.le_of_ble_eq_true rfl) (Nat.le_of_ble_eq_true rfl) dX0_init_7 (fun H hM => ?_)
  have hM : nS E sz (fin E sz) cn 171 0 [.int 0, .null, .null] 0 (.inr (0, [])) 173 s H _ := hM
  refine s_putF (k := 1) (T := TX0) (ty := .array .int) (v := .ref (sz + 172)) (fs' := [.int 0, .ref (sz + 172), .null]) C hM (by omega) rfl hi0 tyX0 tyX0_ok nmX0 (by decide) (hts (.fieldLink RX0 9 "CrowFences$Book" "cell" "[I") (by decide +kernel)) rfl rfl rfl (by decide +kernel) rfl rfl (Nat.le_of_ble_eq_true rfl) rfl dX0_init_9 (fun H locs hM => ?_)
  refine lv_aload_n hx hb dX0_init_12 rfl (lv_at hl 0 rfl) ?_
  refine lv_bipush (v := 15) hx hb dX0_init_13 (by decide) ?_
  refine s_newi (v := 15) (L := 15) C hM (by omega) (by omega) (by omega) ((fin_12 E sz (show qk 173 = 12 by decide +kernel)).trans (by rw [show ql 173 = 15 by decide +kernel])) (hts (.arrayClass .int) (by decide +kernel)) (by decide) (by decide) (by decide) (Nat.le_of_ble_eq_true rfl) (Nat.le_of_ble_eq_true rfl) dX0_init_15 (fun H hM => ?_)
  have hM : nS E sz (fin E sz) cn 171 0 [.int 0, .ref (sz + 172), .null] 0 (.inr (0, [])) 174 s H _ := hM
  refine s_putF (k := 2) (T := TX0) (ty := .array .int) (v := .ref (sz + 173)) (fs' := [.int 0, .ref (sz + 172), .ref (sz + 173)]) C hM (by omega) rfl hi0 tyX0 tyX0_ok nmX0 (by decide) (hts (.fieldLink RX0 15 "CrowFences$Book" "snow" "[I") (by decide +kernel)) rfl rfl rfl (by decide +kernel) rfl rfl (Nat.le_of_ble_eq_true rfl) rfl dX0_init_17 (fun H locs hM => ?_)
  refine W.widen (k := 2) (n := 30) (Nat.le_of_ble_eq_true rfl) (Nat.le_of_ble_eq_true rfl) ?_
  exact s_vret C hM (by rw [fin, qmem_0 _ _ _ _ _ (show qk 171 = 0 by decide +kernel)]; rfl) (fun h _ => absurd h (by omega)) dX0_init_20
set_option maxHeartbeats 4000000 in
set_option maxRecDepth 100000 in
theorem n_X1 (E : qE) (sz : Nat) (l : Launch) (cn : Nat → va_E) (h0 : cn 137 = .inr (1, [.int 0])) : NV E sz l yX1_init wsX1_init { frames := 1, cells := 0, slots := 0, locals := 12 } 0 0 [.ref (sz + 137)] cn 138 (mix (fin E sz) cn 137) 138 := by
  refine nM_body (n0 := 138) RX1 rfl (by decide) rfl rfl rfl ?_
  intro pg e s m below meth cd C hM
  have hx := C.1
  have hb := C.2.1
  have hts := C.2.2.2.2.1
  have hM : nS E sz (fin E sz) cn 137 1 [.int 0] 0 (.inr (0, [])) 138 s s.heap [] := nS_0 h0 hM
  have hl := lv_entry ([.ref (sz + 137)]) (n := 1) (Nat.le_of_ble_eq_true rfl)
  rw [lg_entry_eq]
  generalize (lg_sl ([.ref (sz + 137)]) ++ List.replicate (1 - (lg_sl ([.ref (sz + 137)])).length) Slot.unset).toArray = ls at hl ⊢
  have hl : lv_has ls 1 [(0, .ref (sz + 137))] := hl
  refine lv_aload_n hx hb dX1_init_0 rfl (lv_at hl 0 rfl) ?_
  refine n_obj C (hts (.methodLink RX1 1 objectInit) (by decide +kernel)) (hts (.instanceMethod objectInit) (by decide +kernel)) (hts (.code objectInit ⟨#[0xb1]⟩ 1 none) (by decide +kernel)) hl.1 (Nat.le_of_ble_eq_true rfl) (Nat.le_of_ble_eq_true rfl) dX1_init_1 ?_
  refine W.widen (k := 0) (n := 0) (Nat.le_of_ble_eq_true rfl) (Nat.le_of_ble_eq_true rfl) ?_
  exact s_vret C hM (by rw [fin, qmem_1 _ _ _ _ _ (show qk 137 = 1 by decide +kernel)]; rfl) (fun h _ => absurd h (by omega)) dX1_init_4
set_option maxHeartbeats 4000000 in
set_option maxRecDepth 100000 in
theorem n_X7 (E : qE) (sz : Nat) (l : Launch) (cn : Nat → va_E) (h0 : cn 1 = .inr (7, [.null, .int 0, .int 0, .int 0, .int 0, .int 0])) : NV E sz l yX7_init wsX7_init { frames := 1, cells := 1, slots := 240, locals := 12 } 1 240 [.ref (sz + 1)] cn 2 (mix (fin E sz) cn 1) 3 := by
  refine nM_body (n0 := 2) RX7 rfl (by decide) rfl rfl rfl ?_
  intro pg e s m below meth cd C hM
  have hx := C.1
  have hb := C.2.1
  have hts := C.2.2.2.2.1
  have hM : nS E sz (fin E sz) cn 1 7 [.null, .int 0, .int 0, .int 0, .int 0, .int 0] 0 (.inr (0, [])) 2 s s.heap [] := nS_0 h0 hM
  have hl := lv_entry ([.ref (sz + 1)]) (n := 1) (Nat.le_of_ble_eq_true rfl)
  rw [lg_entry_eq]
  generalize (lg_sl ([.ref (sz + 1)]) ++ List.replicate (1 - (lg_sl ([.ref (sz + 1)])).length) Slot.unset).toArray = ls at hl ⊢
  have hl : lv_has ls 1 [(0, .ref (sz + 1))] := hl
  have hi7 : ∀ w ∈ u_ws RX7 TX7 6, w ∈ wsX7_init := by decide +kernel
  refine lv_aload_n hx hb dX7_init_0 rfl (lv_at hl 0 rfl) ?_
  refine n_obj C (hts (.methodLink RX7 3 objectInit) (by decide +kernel)) (hts (.instanceMethod objectInit) (by decide +kernel)) (hts (.code objectInit ⟨#[0xb1]⟩ 1 none) (by decide +kernel)) hl.1 (Nat.le_of_ble_eq_true rfl) (Nat.le_of_ble_eq_true rfl) dX7_init_1 ?_
  refine lv_aload_n hx hb dX7_init_4 rfl (lv_at hl 0 rfl) ?_
  refine lv_sipush (v := 240) hx hb dX7_init_5 (by decide) ?_
  refine s_newi (v := 240) (L := 240) C hM (by omega) (by omega) (by omega) ((fin_12 E sz (show qk 2 = 12 by decide +kernel)).trans (by rw [show ql 2 = 240 by decide +kernel])) (hts (.arrayClass .int) (by decide +kernel)) (by decide) (by decide) (by decide) (Nat.le_of_ble_eq_true rfl) (Nat.le_of_ble_eq_true rfl) dX7_init_8 (fun H hM => ?_)
  have hM : nS E sz (fin E sz) cn 1 7 [.null, .int 0, .int 0, .int 0, .int 0, .int 0] 0 (.inr (0, [])) 3 s H _ := hM
  refine s_putF (k := 0) (T := TX7) (ty := .array .int) (v := .ref (sz + 2)) (fs' := [.ref (sz + 2), .int 0, .int 0, .int 0, .int 0, .int 0]) C hM (by omega) rfl hi7 tyX7 tyX7_ok nmX7 (by decide) (hts (.fieldLink RX7 9 "CrowFences$Text" "letters" "[I") (by decide +kernel)) rfl rfl rfl (by decide +kernel) rfl rfl (Nat.le_of_ble_eq_true rfl) rfl dX7_init_10 (fun H locs hM => ?_)
  refine lv_aload_n hx hb dX7_init_13 rfl (lv_at hl 0 rfl) ?_
  refine lv_iconst (v := (-1)) hx hb dX7_init_14 (by decide) ?_
  refine s_put (k := 3) (T := TX7) (ty := .int) (v := .int (-1)) (fs' := [.ref (sz + 2), .int 0, .int 0, .int (-1), .int 0, .int 0]) C hM (by omega) rfl hi7 tyX7 tyX7_ok nmX7 (by decide) (hts (.fieldLink RX7 15 "CrowFences$Text" "faultAt" "I") (by decide +kernel)) rfl rfl (by decide +kernel) rfl rfl (Nat.le_of_ble_eq_true rfl) rfl dX7_init_15 (fun H locs hM => ?_)
  refine W.widen (k := 1) (n := 240) (Nat.le_of_ble_eq_true rfl) (Nat.le_of_ble_eq_true rfl) ?_
  exact s_vret C hM (by rw [fin, qmem_7 _ _ _ _ _ (show qk 1 = 7 by decide +kernel)]; rfl) (fun h _ => absurd h (by omega)) dX7_init_18
set_option maxHeartbeats 4000000 in
set_option maxRecDepth 100000 in
theorem n_X2 (E : qE) (sz : Nat) (l : Launch) (cn : Nat → va_E) (g : Nat) (hg : qg g) (h0 : cn g = .inr (2, [.null, .int 0, .int 0])) : NV E sz l yX2_init wsX2_init { frames := 2, cells := 6, slots := 42, locals := 32 } 6 42 [.ref (sz + g)] cn (g + 1) (mix (fin E sz) cn g) (g + 7) := by
  obtain ⟨kg, hgw, hge⟩ := qg_all hg
  refine nM_body (n0 := g + 1) RX2 rfl (by decide) rfl rfl rfl ?_
  intro pg e s m below meth cd C hM
  have hx := C.1
  have hb := C.2.1
  have hts := C.2.2.2.2.1
  have hM : nS E sz (fin E sz) cn g 2 [.null, .int 0, .int 0] 0 (.inr (0, [])) (g + 1) s s.heap [] := nS_0 h0 hM
  have hl := lv_entry ([.ref (sz + g)]) (n := 1) (Nat.le_of_ble_eq_true rfl)
  rw [lg_entry_eq]
  generalize (lg_sl ([.ref (sz + g)]) ++ List.replicate (1 - (lg_sl ([.ref (sz + g)])).length) Slot.unset).toArray = ls at hl ⊢
  have hl : lv_has ls 1 [(0, .ref (sz + g))] := hl
  have hi2 : ∀ w ∈ u_ws RX2 TX2 3, w ∈ wsX2_init := by decide +kernel
  have hi9 : ∀ w ∈ u_ws RX9 TX9 8, w ∈ wsX2_init := by decide +kernel
  refine lv_aload_n hx hb dX2_init_0 rfl (lv_at hl 0 rfl) ?_
  refine n_obj C (hts (.methodLink RX2 1 objectInit) (by decide +kernel)) (hts (.instanceMethod objectInit) (by decide +kernel)) (hts (.code objectInit ⟨#[0xb1]⟩ 1 none) (by decide +kernel)) hl.1 (Nat.le_of_ble_eq_true rfl) (Nat.le_of_ble_eq_true rfl) dX2_init_1 ?_
  refine lv_aload_n hx hb dX2_init_4 rfl (lv_at hl 0 rfl) ?_
  refine s_new (cj := 9) (ds := [.null, .null, .null, .null, .null, .int 0, .int 0, .int 0]) C hM (by omega) hi9 tyX9 tyX9_ok (hts (.classLink RX2 7 RX9) (by decide +kernel)) (hts (.instantiable RX9 8) (by decide +kernel)) (hts (.initialized RX9) (by decide +kernel)) rfl (fun j hj => by rcases (show j = 0 ∨ j = 1 ∨ j = 2 ∨ j = 3 ∨ j = 4 ∨ j = 5 ∨ j = 6 ∨ j = 7 by omega) with rfl | rfl | rfl | rfl | rfl | rfl | rfl | rfl <;> rfl) (Nat.le_of_ble_eq_true rfl) (Nat.le_of_ble_eq_true rfl) dX2_init_5 (fun H hM => ?_)
  refine lv_dup hx hb dX2_init_8 rfl ?_
  refine s_callN C hM (by omega) (by omega) (Or.inl (by omega)) (fun cz hz => n_X9 E sz l cz (g + 1) hgw hz) gX2_init_X9_init_n9 rfl rfl rfl (List.mem_of_getElem? (i := 0) rfl) (hts (.initialized RX9) (by decide +kernel)) (hts (.instanceMethod yX9_init) (by decide +kernel)) rfl (by decide +kernel) ⟨(Nat.le_of_ble_eq_true rfl), (Nat.le_of_ble_eq_true rfl)⟩ hl.1 (Nat.le_of_ble_eq_true rfl) ⟨(Nat.le_of_ble_eq_true rfl), (Nat.le_of_ble_eq_true rfl)⟩ dX2_init_9 (fun H locs hM => ?_)
  have hM : nS E sz (fin E sz) cn g 2 [.null, .int 0, .int 0] 0 (.inr (0, [])) (g + 7) s H locs := hM
  refine s_putF (k := 0) (T := TX2) (ty := .object "CrowFences$Winter") (v := .ref (sz + (g + 1))) (fs' := [.ref (sz + (g + 1)), .int 0, .int 0]) C hM (by omega) rfl hi2 tyX2 tyX2_ok nmX2 (by decide) (hts (.fieldLink RX2 10 "CrowFences$Image" "winter" "LCrowFences$Winter;") (by decide +kernel)) rfl rfl rfl (by decide +kernel) rfl rfl (Nat.le_of_ble_eq_true rfl) rfl dX2_init_12 (fun H locs hM => ?_)
  refine W.widen (k := 6) (n := 42) (Nat.le_of_ble_eq_true rfl) (Nat.le_of_ble_eq_true rfl) ?_
  exact s_vret C hM (by rw [fin, qmem_2 _ _ _ _ _ kg]; simp only [qo2, S0_z (show g ≠ 1 by omega) (show g ≠ 188 by omega)]) (fun h _ => absurd h (by omega)) dX2_init_15
set_option maxHeartbeats 4000000 in
set_option maxRecDepth 100000 in
theorem n_X3 (E : qE) (sz : Nat) (l : Launch) (cn : Nat → va_E) (h0 : cn 153 = .inr (3, [.null, .int 0, .null, .null, .null])) : NV E sz l yX3_init wsX3_init { frames := 2, cells := 10, slots := 124, locals := 32 } 10 124 [.ref (sz + 153)] cn 154 (mix (fin E sz) cn 153) 164 := by
  refine nM_body (n0 := 154) RX3 rfl (by decide) rfl rfl rfl ?_
  intro pg e s m below meth cd C hM
  have hx := C.1
  have hb := C.2.1
  have hts := C.2.2.2.2.1
  have hM : nS E sz (fin E sz) cn 153 3 [.null, .int 0, .null, .null, .null] 0 (.inr (0, [])) 154 s s.heap [] := nS_0 h0 hM
  have hl := lv_entry ([.ref (sz + 153)]) (n := 1) (Nat.le_of_ble_eq_true rfl)
  rw [lg_entry_eq]
  generalize (lg_sl ([.ref (sz + 153)]) ++ List.replicate (1 - (lg_sl ([.ref (sz + 153)])).length) Slot.unset).toArray = ls at hl ⊢
  have hl : lv_has ls 1 [(0, .ref (sz + 153))] := hl
  have hi3 : ∀ w ∈ u_ws RX3 TX3 5, w ∈ wsX3_init := by decide +kernel
  have hi8 : ∀ w ∈ u_ws RX8 TX8 6, w ∈ wsX3_init := by decide +kernel
  have hi9 : ∀ w ∈ u_ws RX9 TX9 8, w ∈ wsX3_init := by decide +kernel
  refine lv_aload_n hx hb dX3_init_0 rfl (lv_at hl 0 rfl) ?_
  refine n_obj C (hts (.methodLink RX3 3 objectInit) (by decide +kernel)) (hts (.instanceMethod objectInit) (by decide +kernel)) (hts (.code objectInit ⟨#[0xb1]⟩ 1 none) (by decide +kernel)) hl.1 (Nat.le_of_ble_eq_true rfl) (Nat.le_of_ble_eq_true rfl) dX3_init_1 ?_
  refine lv_aload_n hx hb dX3_init_4 rfl (lv_at hl 0 rfl) ?_
  refine lv_bipush (v := 6) hx hb dX3_init_5 (by decide) ?_
  refine s_newi (v := 6) (L := 6) C hM (by omega) (by omega) (by omega) ((fin_12 E sz (show qk 154 = 12 by decide +kernel)).trans (by rw [show ql 154 = 6 by decide +kernel])) (hts (.arrayClass .int) (by decide +kernel)) (by decide) (by decide) (by decide) (Nat.le_of_ble_eq_true rfl) (Nat.le_of_ble_eq_true rfl) dX3_init_7 (fun H hM => ?_)
  have hM : nS E sz (fin E sz) cn 153 3 [.null, .int 0, .null, .null, .null] 0 (.inr (0, [])) 155 s H _ := hM
  refine s_putF (k := 0) (T := TX3) (ty := .array .int) (v := .ref (sz + 154)) (fs' := [.ref (sz + 154), .int 0, .null, .null, .null]) C hM (by omega) rfl hi3 tyX3 tyX3_ok nmX3 (by decide) (hts (.fieldLink RX3 9 "CrowFences$Letting" "crowOn" "[I") (by decide +kernel)) rfl rfl rfl (by decide +kernel) rfl rfl (Nat.le_of_ble_eq_true rfl) rfl dX3_init_9 (fun H locs hM => ?_)
  refine lv_aload_n hx hb dX3_init_12 rfl (lv_at hl 0 rfl) ?_
  refine lv_bipush (v := 64) hx hb dX3_init_13 (by decide) ?_
  refine s_newi (v := 64) (L := 64) C hM (by omega) (by omega) (by omega) ((fin_12 E sz (show qk 155 = 12 by decide +kernel)).trans (by rw [show ql 155 = 64 by decide +kernel])) (hts (.arrayClass .int) (by decide +kernel)) (by decide) (by decide) (by decide) (Nat.le_of_ble_eq_true rfl) (Nat.le_of_ble_eq_true rfl) dX3_init_15 (fun H hM => ?_)
  have hM : nS E sz (fin E sz) cn 153 3 [.ref (sz + 154), .int 0, .null, .null, .null] 0 (.inr (0, [])) 156 s H _ := hM
  refine s_putF (k := 2) (T := TX3) (ty := .array .int) (v := .ref (sz + 155)) (fs' := [.ref (sz + 154), .int 0, .ref (sz + 155), .null, .null]) C hM (by omega) rfl hi3 tyX3 tyX3_ok nmX3 (by decide) (hts (.fieldLink RX3 15 "CrowFences$Letting" "known" "[I") (by decide +kernel)) rfl rfl rfl (by decide +kernel) rfl rfl (Nat.le_of_ble_eq_true rfl) rfl dX3_init_17 (fun H locs hM => ?_)
  refine lv_aload_n hx hb dX3_init_20 rfl (lv_at hl 0 rfl) ?_
  refine s_new (cj := 9) (ds := [.null, .null, .null, .null, .null, .int 0, .int 0, .int 0]) C hM (by omega) hi9 tyX9 tyX9_ok (hts (.classLink RX3 18 RX9) (by decide +kernel)) (hts (.instantiable RX9 8) (by decide +kernel)) (hts (.initialized RX9) (by decide +kernel)) rfl (fun j hj => by rcases (show j = 0 ∨ j = 1 ∨ j = 2 ∨ j = 3 ∨ j = 4 ∨ j = 5 ∨ j = 6 ∨ j = 7 by omega) with rfl | rfl | rfl | rfl | rfl | rfl | rfl | rfl <;> rfl) (Nat.le_of_ble_eq_true rfl) (Nat.le_of_ble_eq_true rfl) dX3_init_21 (fun H hM => ?_)
  refine lv_dup hx hb dX3_init_24 rfl ?_
  refine s_callN C hM (by omega) (by omega) (Or.inl (by omega)) (fun cz hz => n_X9 E sz l cz 156 (show 156 ∈ qwL by decide +kernel) hz) gX3_init_X9_init_n20 rfl rfl rfl (List.mem_of_getElem? (i := 1) rfl) (hts (.initialized RX9) (by decide +kernel)) (hts (.instanceMethod yX9_init) (by decide +kernel)) rfl (by decide +kernel) ⟨(Nat.le_of_ble_eq_true rfl), (Nat.le_of_ble_eq_true rfl)⟩ hl.1 (Nat.le_of_ble_eq_true rfl) ⟨(Nat.le_of_ble_eq_true rfl), (Nat.le_of_ble_eq_true rfl)⟩ dX3_init_25 (fun H locs hM => ?_)
  have hM : nS E sz (fin E sz) cn 153 3 [.ref (sz + 154), .int 0, .ref (sz + 155), .null, .null] 0 (.inr (0, [])) 162 s H locs := hM
  refine s_putF (k := 3) (T := TX3) (ty := .object "CrowFences$Winter") (v := .ref (sz + 156)) (fs' := [.ref (sz + 154), .int 0, .ref (sz + 155), .ref (sz + 156), .null]) C hM (by omega) rfl hi3 tyX3 tyX3_ok nmX3 (by decide) (hts (.fieldLink RX3 21 "CrowFences$Letting" "trial" "LCrowFences$Winter;") (by decide +kernel)) rfl rfl rfl (by decide +kernel) rfl rfl (Nat.le_of_ble_eq_true rfl) rfl dX3_init_28 (fun H locs hM => ?_)
  refine lv_aload_n hx hb dX3_init_31 rfl (lv_at hl 0 rfl) ?_
  refine s_new (cj := 8) (ds := [.null, .int 0, .int 0, .int 0, .int 0, .int 0]) C hM (by omega) hi8 tyX8 tyX8_ok (hts (.classLink RX3 25 RX8) (by decide +kernel)) (hts (.instantiable RX8 6) (by decide +kernel)) (hts (.initialized RX8) (by decide +kernel)) rfl (fun j hj => by rcases (show j = 0 ∨ j = 1 ∨ j = 2 ∨ j = 3 ∨ j = 4 ∨ j = 5 by omega) with rfl | rfl | rfl | rfl | rfl | rfl <;> rfl) (Nat.le_of_ble_eq_true rfl) (Nat.le_of_ble_eq_true rfl) dX3_init_32 (fun H hM => ?_)
  refine lv_dup hx hb dX3_init_35 rfl ?_
  refine s_callN C hM (by omega) (by omega) (Or.inl (by omega)) (fun cz hz => n_X8 E sz l cz 162 (Or.inl rfl) hz) gX3_init_X8_init_n27 rfl rfl rfl (List.mem_of_getElem? (i := 2) rfl) (hts (.initialized RX8) (by decide +kernel)) (hts (.instanceMethod yX8_init) (by decide +kernel)) rfl (by decide +kernel) ⟨(Nat.le_of_ble_eq_true rfl), (Nat.le_of_ble_eq_true rfl)⟩ hl.1 (Nat.le_of_ble_eq_true rfl) ⟨(Nat.le_of_ble_eq_true rfl), (Nat.le_of_ble_eq_true rfl)⟩ dX3_init_36 (fun H locs hM => ?_)
  have hM : nS E sz (fin E sz) cn 153 3 [.ref (sz + 154), .int 0, .ref (sz + 155), .ref (sz + 156), .null] 0 (.inr (0, [])) 164 s H locs := hM
  refine s_putF (k := 4) (T := TX3) (ty := .object "CrowFences$Ways") (v := .ref (sz + 162)) (fs' := [.ref (sz + 154), .int 0, .ref (sz + 155), .ref (sz + 156), .ref (sz + 162)]) C hM (by omega) rfl hi3 tyX3 tyX3_ok nmX3 (by decide) (hts (.fieldLink RX3 28 "CrowFences$Letting" "ways" "LCrowFences$Ways;") (by decide +kernel)) rfl rfl rfl (by decide +kernel) rfl rfl (Nat.le_of_ble_eq_true rfl) rfl dX3_init_39 (fun H locs hM => ?_)
  refine W.widen (k := 10) (n := 124) (Nat.le_of_ble_eq_true rfl) (Nat.le_of_ble_eq_true rfl) ?_
  exact s_vret C hM (by rw [fin, qmem_3 _ _ _ _ _ (show qk 153 = 3 by decide +kernel)]; rfl) (fun h _ => absurd h (by omega)) dX3_init_42
set_option maxHeartbeats 4000000 in
set_option maxRecDepth 100000 in
theorem n_X6 (E : qE) (sz : Nat) (l : Launch) (cn : Nat → va_E) (h0 : cn 164 = .inr (6, [.int 0, .int 0, .null, .null, .null, .null, .int 0, .null])) : NV E sz l yX6_init wsX6_init { frames := 2, cells := 6, slots := 36, locals := 32 } 6 36 [.ref (sz + 164)] cn 165 (mix (fin E sz) cn 164) 171 := by
  refine nM_body (n0 := 165) RX6 rfl (by decide) rfl rfl rfl ?_
  intro pg e s m below meth cd C hM
  have hx := C.1
  have hb := C.2.1
  have hts := C.2.2.2.2.1
  have hM : nS E sz (fin E sz) cn 164 6 [.int 0, .int 0, .null, .null, .null, .null, .int 0, .null] 0 (.inr (0, [])) 165 s s.heap [] := nS_0 h0 hM
  have hl := lv_entry ([.ref (sz + 164)]) (n := 1) (Nat.le_of_ble_eq_true rfl)
  rw [lg_entry_eq]
  generalize (lg_sl ([.ref (sz + 164)]) ++ List.replicate (1 - (lg_sl ([.ref (sz + 164)])).length) Slot.unset).toArray = ls at hl ⊢
  have hl : lv_has ls 1 [(0, .ref (sz + 164))] := hl
  have hi6 : ∀ w ∈ u_ws RX6 TX6 8, w ∈ wsX6_init := by decide +kernel
  have hi8 : ∀ w ∈ u_ws RX8 TX8 6, w ∈ wsX6_init := by decide +kernel
  refine lv_aload_n hx hb dX6_init_0 rfl (lv_at hl 0 rfl) ?_
  refine n_obj C (hts (.methodLink RX6 3 objectInit) (by decide +kernel)) (hts (.instanceMethod objectInit) (by decide +kernel)) (hts (.code objectInit ⟨#[0xb1]⟩ 1 none) (by decide +kernel)) hl.1 (Nat.le_of_ble_eq_true rfl) (Nat.le_of_ble_eq_true rfl) dX6_init_1 ?_
  refine lv_aload_n hx hb dX6_init_4 rfl (lv_at hl 0 rfl) ?_
  refine lv_bipush (v := 6) hx hb dX6_init_5 (by decide) ?_
  refine s_newi (v := 6) (L := 6) C hM (by omega) (by omega) (by omega) ((fin_12 E sz (show qk 165 = 12 by decide +kernel)).trans (by rw [show ql 165 = 6 by decide +kernel])) (hts (.arrayClass .int) (by decide +kernel)) (by decide) (by decide) (by decide) (Nat.le_of_ble_eq_true rfl) (Nat.le_of_ble_eq_true rfl) dX6_init_7 (fun H hM => ?_)
  have hM : nS E sz (fin E sz) cn 164 6 [.int 0, .int 0, .null, .null, .null, .null, .int 0, .null] 0 (.inr (0, [])) 166 s H _ := hM
  refine s_putF (k := 2) (T := TX6) (ty := .array .int) (v := .ref (sz + 165)) (fs' := [.int 0, .int 0, .ref (sz + 165), .null, .null, .null, .int 0, .null]) C hM (by omega) rfl hi6 tyX6 tyX6_ok nmX6 (by decide) (hts (.fieldLink RX6 9 "CrowFences$Sits" "crow" "[I") (by decide +kernel)) rfl rfl rfl (by decide +kernel) rfl rfl (Nat.le_of_ble_eq_true rfl) rfl dX6_init_9 (fun H locs hM => ?_)
  refine lv_aload_n hx hb dX6_init_12 rfl (lv_at hl 0 rfl) ?_
  refine lv_bipush (v := 6) hx hb dX6_init_13 (by decide) ?_
  refine s_newi (v := 6) (L := 6) C hM (by omega) (by omega) (by omega) ((fin_12 E sz (show qk 166 = 12 by decide +kernel)).trans (by rw [show ql 166 = 6 by decide +kernel])) (hts (.arrayClass .int) (by decide +kernel)) (by decide) (by decide) (by decide) (Nat.le_of_ble_eq_true rfl) (Nat.le_of_ble_eq_true rfl) dX6_init_15 (fun H hM => ?_)
  have hM : nS E sz (fin E sz) cn 164 6 [.int 0, .int 0, .ref (sz + 165), .null, .null, .null, .int 0, .null] 0 (.inr (0, [])) 167 s H _ := hM
  refine s_putF (k := 3) (T := TX6) (ty := .array .int) (v := .ref (sz + 166)) (fs' := [.int 0, .int 0, .ref (sz + 165), .ref (sz + 166), .null, .null, .int 0, .null]) C hM (by omega) rfl hi6 tyX6 tyX6_ok nmX6 (by decide) (hts (.fieldLink RX6 15 "CrowFences$Sits" "post" "[I") (by decide +kernel)) rfl rfl rfl (by decide +kernel) rfl rfl (Nat.le_of_ble_eq_true rfl) rfl dX6_init_17 (fun H locs hM => ?_)
  refine lv_aload_n hx hb dX6_init_20 rfl (lv_at hl 0 rfl) ?_
  refine lv_bipush (v := 6) hx hb dX6_init_21 (by decide) ?_
  refine s_newi (v := 6) (L := 6) C hM (by omega) (by omega) (by omega) ((fin_12 E sz (show qk 167 = 12 by decide +kernel)).trans (by rw [show ql 167 = 6 by decide +kernel])) (hts (.arrayClass .int) (by decide +kernel)) (by decide) (by decide) (by decide) (Nat.le_of_ble_eq_true rfl) (Nat.le_of_ble_eq_true rfl) dX6_init_23 (fun H hM => ?_)
  have hM : nS E sz (fin E sz) cn 164 6 [.int 0, .int 0, .ref (sz + 165), .ref (sz + 166), .null, .null, .int 0, .null] 0 (.inr (0, [])) 168 s H _ := hM
  refine s_putF (k := 4) (T := TX6) (ty := .array .int) (v := .ref (sz + 167)) (fs' := [.int 0, .int 0, .ref (sz + 165), .ref (sz + 166), .ref (sz + 167), .null, .int 0, .null]) C hM (by omega) rfl hi6 tyX6 tyX6_ok nmX6 (by decide) (hts (.fieldLink RX6 18 "CrowFences$Sits" "seenOn" "[I") (by decide +kernel)) rfl rfl rfl (by decide +kernel) rfl rfl (Nat.le_of_ble_eq_true rfl) rfl dX6_init_25 (fun H locs hM => ?_)
  refine lv_aload_n hx hb dX6_init_28 rfl (lv_at hl 0 rfl) ?_
  refine lv_bipush (v := 6) hx hb dX6_init_29 (by decide) ?_
  refine s_newi (v := 6) (L := 6) C hM (by omega) (by omega) (by omega) ((fin_12 E sz (show qk 168 = 12 by decide +kernel)).trans (by rw [show ql 168 = 6 by decide +kernel])) (hts (.arrayClass .int) (by decide +kernel)) (by decide) (by decide) (by decide) (Nat.le_of_ble_eq_true rfl) (Nat.le_of_ble_eq_true rfl) dX6_init_31 (fun H hM => ?_)
  have hM : nS E sz (fin E sz) cn 164 6 [.int 0, .int 0, .ref (sz + 165), .ref (sz + 166), .ref (sz + 167), .null, .int 0, .null] 0 (.inr (0, [])) 169 s H _ := hM
  refine s_putF (k := 5) (T := TX6) (ty := .array .int) (v := .ref (sz + 168)) (fs' := [.int 0, .int 0, .ref (sz + 165), .ref (sz + 166), .ref (sz + 167), .ref (sz + 168), .int 0, .null]) C hM (by omega) rfl hi6 tyX6 tyX6_ok nmX6 (by decide) (hts (.fieldLink RX6 21 "CrowFences$Sits" "tenants" "[I") (by decide +kernel)) rfl rfl rfl (by decide +kernel) rfl rfl (Nat.le_of_ble_eq_true rfl) rfl dX6_init_33 (fun H locs hM => ?_)
  refine lv_aload_n hx hb dX6_init_36 rfl (lv_at hl 0 rfl) ?_
  refine s_new (cj := 8) (ds := [.null, .int 0, .int 0, .int 0, .int 0, .int 0]) C hM (by omega) hi8 tyX8 tyX8_ok (hts (.classLink RX6 24 RX8) (by decide +kernel)) (hts (.instantiable RX8 6) (by decide +kernel)) (hts (.initialized RX8) (by decide +kernel)) rfl (fun j hj => by rcases (show j = 0 ∨ j = 1 ∨ j = 2 ∨ j = 3 ∨ j = 4 ∨ j = 5 by omega) with rfl | rfl | rfl | rfl | rfl | rfl <;> rfl) (Nat.le_of_ble_eq_true rfl) (Nat.le_of_ble_eq_true rfl) dX6_init_37 (fun H hM => ?_)
  refine lv_dup hx hb dX6_init_40 rfl ?_
  refine s_callN C hM (by omega) (by omega) (Or.inl (by omega)) (fun cz hz => n_X8 E sz l cz 169 (Or.inr rfl) hz) gX6_init_X8_init_n26 rfl rfl rfl (List.mem_of_getElem? (i := 4) rfl) (hts (.initialized RX8) (by decide +kernel)) (hts (.instanceMethod yX8_init) (by decide +kernel)) rfl (by decide +kernel) ⟨(Nat.le_of_ble_eq_true rfl), (Nat.le_of_ble_eq_true rfl)⟩ hl.1 (Nat.le_of_ble_eq_true rfl) ⟨(Nat.le_of_ble_eq_true rfl), (Nat.le_of_ble_eq_true rfl)⟩ dX6_init_41 (fun H locs hM => ?_)
  have hM : nS E sz (fin E sz) cn 164 6 [.int 0, .int 0, .ref (sz + 165), .ref (sz + 166), .ref (sz + 167), .ref (sz + 168), .int 0, .null] 0 (.inr (0, [])) 171 s H locs := hM
  refine s_putF (k := 7) (T := TX6) (ty := .object "CrowFences$Ways") (v := .ref (sz + 169)) (fs' := [.int 0, .int 0, .ref (sz + 165), .ref (sz + 166), .ref (sz + 167), .ref (sz + 168), .int 0, .ref (sz + 169)]) C hM (by omega) rfl hi6 tyX6 tyX6_ok nmX6 (by decide) (hts (.fieldLink RX6 27 "CrowFences$Sits" "ways" "LCrowFences$Ways;") (by decide +kernel)) rfl rfl rfl (by decide +kernel) rfl rfl (Nat.le_of_ble_eq_true rfl) rfl dX6_init_44 (fun H locs hM => ?_)
  refine W.widen (k := 6) (n := 36) (Nat.le_of_ble_eq_true rfl) (Nat.le_of_ble_eq_true rfl) ?_
  exact s_vret C hM (by rw [fin, qmem_6 _ _ _ _ _ (show qk 164 = 6 by decide +kernel)]; rfl) (fun h _ => absurd h (by omega)) dX6_init_47
set_option maxHeartbeats 4000000 in
set_option maxRecDepth 100000 in
theorem n_X4 (E : qE) (sz : Nat) (l : Launch) (cn : Nat → va_E) (h0 : cn 15 = .inr (4, [.null, .int 0, .int 0])) : NV E sz l yX4_init wsX4_init { frames := 2, cells := 121, slots := 860, locals := 32 } 121 860 [.ref (sz + 15)] cn 16 (mix (fin E sz) cn 15) 137 := by
  refine nM_body (n0 := 16) RX4 rfl (by decide) rfl rfl rfl ?_
  intro pg e s m below meth cd C hM
  have hx := C.1
  have hb := C.2.1
  have hts := C.2.2.2.2.1
  have hM : nS E sz (fin E sz) cn 15 4 [.null, .int 0, .int 0] 16 (.inr (0, [])) 16 s s.heap [] := nS_0 h0 hM
  have hl := lv_entry ([.ref (sz + 15)]) (n := 2) (Nat.le_of_ble_eq_true rfl)
  rw [lg_entry_eq]
  generalize (lg_sl ([.ref (sz + 15)]) ++ List.replicate (2 - (lg_sl ([.ref (sz + 15)])).length) Slot.unset).toArray = ls at hl ⊢
  have hl : lv_has ls 2 [(0, .ref (sz + 15))] := hl
  have hi4 : ∀ w ∈ u_ws RX4 TX4 3, w ∈ wsX4_init := by decide +kernel
  have hi9 : ∀ w ∈ u_ws RX9 TX9 8, w ∈ wsX4_init := by decide +kernel
  refine lv_aload_n hx hb dX4_init_0 rfl (lv_at hl 0 rfl) ?_
  refine n_obj C (hts (.methodLink RX4 3 objectInit) (by decide +kernel)) (hts (.instanceMethod objectInit) (by decide +kernel)) (hts (.code objectInit ⟨#[0xb1]⟩ 1 none) (by decide +kernel)) hl.1 (Nat.le_of_ble_eq_true rfl) (Nat.le_of_ble_eq_true rfl) dX4_init_1 ?_
  refine lv_aload_n hx hb dX4_init_4 rfl (lv_at hl 0 rfl) ?_
  refine lv_bipush (v := 20) hx hb dX4_init_5 (by decide) ?_
  refine s_newq (k := 3) (v := 20) (L := 20) C hM (by omega) (by omega) rfl (hts (.classLink RX4 9 RX9) (by decide +kernel)) C.2.2.2.2.2.1.2.2.2 (by decide) (by decide) (by decide) (Nat.le_of_ble_eq_true rfl) (Nat.le_of_ble_eq_true rfl) dX4_init_7 (fun H hM => ?_)
  have hM : nS E sz (fin E sz) cn 15 4 [.null, .int 0, .int 0] 16 (.inl (E.2.2.2.2, 20, .inr (.inr (.inr (.inr (fun _ => none)))))) 17 s H _ := hM
  refine s_putF (k := 0) (T := TX4) (ty := .array (.object "CrowFences$Winter")) (v := .ref (sz + 16)) (fs' := [.ref (sz + 16), .int 0, .int 0]) C hM (by omega) rfl hi4 tyX4 tyX4_ok nmX4 (by decide) (hts (.fieldLink RX4 11 "CrowFences$Past" "ahead" "[LCrowFences$Winter;") (by decide +kernel)) rfl rfl rfl (by decide +kernel) rfl rfl (Nat.le_of_ble_eq_true rfl) rfl dX4_init_10 (fun H locs hM => ?_)
  refine lv_iconst (v := 0) hx hb dX4_init_13 (by decide) ?_
  refine lv_istore_n (lv' := [(1, .int 0), (0, .ref (sz + 15))]) hx hb dX4_init_14 rfl hl (by decide) rfl (fun ls hl => ?_)
  have hM : nS E sz (fin E sz) cn 15 4 [.ref (sz + 16), .int 0, .int 0] 16 (.inl (E.2.2.2.2, 20, .inr (.inr (.inr (.inr (fun j => if j < 0 then some (sz + (17 + 6 * j)) else none)))))) (17 + 6 * 0) s H locs := s_row hM (by omega) (by omega) (fun j _ => by rw [if_neg (Nat.not_lt_zero j)])
  have loop : ∀ (fu k : Nat), k ≤ 20 → 20 - k < fu → ∀ (H : Heap) (locs : List Loc) (ls : Array Slot), nS E sz (fin E sz) cn 15 4 [.ref (sz + 16), .int 0, .int 0] 16 (.inl (E.2.2.2.2, 20, .inr (.inr (.inr (.inr (fun j => if j < k then some (sz + (17 + 6 * j)) else none)))))) (17 + 6 * k) s H locs → lv_has ls 2 [(1, .int (nI k)), (0, .ref (sz + 15))] → W pg l e (headSpec wsX4_init { frames := 2, cells := 121, slots := 860, locals := 32 }).room s m [.ref (sz + 15)].toArray below meth cd H locs (1 + 6 * k) (20 + 42 * k) (MQ below (nQ E sz (mix (fin E sz) cn 15) 137) [.ref (sz + 15)].toArray s 121 860 (nAr sz)) (F0 m 15 ls []) := by
    intro fu
    induction fu with
    | zero => intro k _ hn; exact absurd hn (Nat.not_lt_zero _)
    | succ fu ih =>
      intro k hk hn H locs ls hM hl
      refine lv_iload_n hx hb dX4_init_15 rfl (lv_at hl 0 rfl) ?_
      refine lv_bipush (v := 20) hx hb dX4_init_16 (by decide) ?_
      refine lv_icmp_ge (tgt := 40) hx hb dX4_init_18 (by decide) (fun cc => ?_) (fun cc => ?_)
      · have cc : 20 ≤ k := (nI_leI (a := 20) (b := k) (by omega) (by omega)).mp cc
        obtain rfl : k = 20 := by omega
        have hM : nS E sz (fin E sz) cn 15 4 [.ref (sz + 16), .int 0, .int 0] 16 (.inl (E.2.2.2.2, 20, .inr (.inr (.inr (.inr (fun j => some (sz + (17 + 6 * j)))))))) 137 s H locs := s_row hM (by omega) (by omega) (fun j hj => by rw [if_pos hj])
        refine W.widen (k := 121) (n := 860) (Nat.le_of_ble_eq_true rfl) (Nat.le_of_ble_eq_true rfl) ?_
        exact s_vret C hM (by rw [fin, qmem_4 _ _ _ _ _ (show qk 15 = 4 by decide +kernel)]; rfl) (fun _ _ => by rw [fin, qmem_15 _ _ _ _ _ (show qk 16 = 15 by decide +kernel)]; rfl) dX4_init_40
      · have cc : ¬ (20 ≤ k) := fun z => cc ((nI_leI (a := 20) (b := k) (by omega) (by omega)).mpr z)
        have hRc : (headSpec wsX4_init { frames := 2, cells := 121, slots := 860, locals := 32 }).room.cells = 121 := rfl
        have hRs : (headSpec wsX4_init { frames := 2, cells := 121, slots := 860, locals := 32 }).room.slots = 860 := rfl
        refine lv_aload_n hx hb dX4_init_21 rfl (lv_at hl 1 rfl) ?_
        refine s_get (k := 0) (T := TX4) (v := .ref (sz + 16)) C hM (by omega) rfl hi4 (by decide) (hts (.fieldLink RX4 11 "CrowFences$Past" "ahead" "[LCrowFences$Winter;") (by decide +kernel)) rfl rfl dX4_init_22 ?_
        refine lv_iload_n hx hb dX4_init_25 rfl (lv_at hl 0 rfl) ?_
        refine s_new (cj := 9) (ds := [.null, .null, .null, .null, .null, .int 0, .int 0, .int 0]) C hM (by omega) hi9 tyX9 tyX9_ok (hts (.classLink RX4 9 RX9) (by decide +kernel)) (hts (.instantiable RX9 8) (by decide +kernel)) (hts (.initialized RX9) (by decide +kernel)) rfl (fun j hj => by rcases (show j = 0 ∨ j = 1 ∨ j = 2 ∨ j = 3 ∨ j = 4 ∨ j = 5 ∨ j = 6 ∨ j = 7 by omega) with rfl | rfl | rfl | rfl | rfl | rfl | rfl | rfl <;> rfl) (by rw [hRc]; omega) (by rw [hRs]; omega) dX4_init_26 (fun H hM => ?_)
        refine lv_dup hx hb dX4_init_29 rfl ?_
        refine s_callN C hM (by omega) (by omega) (Or.inl (by omega)) (fun cz hz => n_X9 E sz l cz (17 + 6 * k) (qpast_w (show k < 20 by omega)) hz) gX4_init_X9_init_n17 rfl rfl rfl (List.mem_of_getElem? (i := 3) rfl) (hts (.initialized RX9) (by decide +kernel)) (hts (.instanceMethod yX9_init) (by decide +kernel)) rfl (by decide +kernel) ⟨(Nat.le_of_ble_eq_true rfl), (Nat.le_of_ble_eq_true rfl)⟩ hl.1 (Nat.le_of_ble_eq_true rfl) ⟨(by rw [hRc]; omega), (by rw [hRs]; omega)⟩ dX4_init_30 (fun H locs hM => ?_)
        have hM : nS E sz (fin E sz) cn 15 4 [.ref (sz + 16), .int 0, .int 0] 16 (.inl (E.2.2.2.2, 20, .inr (.inr (.inr (.inr (fun j => if j < k then some (sz + (17 + 6 * j)) else none)))))) (17 + 6 * (k + 1)) s H locs := hM
        refine s_aast (t0 := 3) (cj := 9) (r := (RX9, TX9, 8)) (vs := qo9 (fun j => sz + j) (17 + 6 * k) S0) C hM (by omega) (by omega) rfl (by rw [fin, qmem_9 _ _ _ _ _ ((qw_all (qpast_w (show k < 20 by omega))).1.1)]) (by omega) (by omega) rfl (vp_nI (by omega) (by omega)) dX4_init_33 (fun H locs hM => ?_)
        rw [nIc (by omega)] at hM
        have hM : nS E sz (fin E sz) cn 15 4 [.ref (sz + 16), .int 0, .int 0] 16 (.inl (E.2.2.2.2, 20, .inr (.inr (.inr (.inr (fun j => if j < k + 1 then some (sz + (17 + 6 * j)) else none)))))) (17 + 6 * (k + 1)) s H locs := s_row hM (by omega) (by omega) (fun j hj => by
          unfold va_up
          by_cases e1 : j = k
          · rw [if_pos e1, if_pos (by omega), e1]
          · by_cases e2 : j < k
            · rw [if_neg e1, if_pos (show j < k + 1 by omega)]; exact if_pos e2
            · rw [if_neg e1, if_neg (show ¬ j < k + 1 by omega)]; exact if_neg e2)
        refine lv_iinc (v := nI (k + 1)) (lv' := [(1, .int (nI (k + 1))), (0, .ref (sz + 15))]) hx hb dX4_init_34 hl (k := 0) rfl (by rw [nI_succ]; rfl) (by decide) rfl (fun ls hl => ?_)
        refine lv_goto (tgt := 15) hx hb dX4_init_37 (by decide) ?_
        refine W.widen (k := 1 + 6 * (k + 1)) (n := 20 + 42 * (k + 1)) (by omega) (by omega) ?_
        exact ih (k + 1) (by omega) (by omega) H locs ls hM hl
  exact loop 21 0 (by omega) (by omega) _ _ _ hM hl
