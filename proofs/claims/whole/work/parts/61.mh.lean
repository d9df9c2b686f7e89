set_option maxHeartbeats 4000000 in
set_option maxRecDepth 100000 in
theorem c_X11_takeBody (E : qE) (ad : Nat → Nat) (l : Launch) (S A : qA2) (b : qB) (n a : Nat) (hln : S 188 14 = nI n) (hnb : n ≤ 240) (hat : S 188 16 = nI (a + 1)) (hab : a < n) (nC nP nK nW : Nat) (P : qPS) (hP : mPr nC nP nK nW S A P) (is : Nat) (his4 : is ≤ 4) (hb0 : is = 0 → nC = 0) (hb1 : ¬ is = 0 → ¬ nC = 0) (hb2 : is = 2 → nP < 6) (hb3 : is = 3 → nK < 5) (hb4 : is = 4 → nW < 10) : MI E ad l yX11_takeBody wsX11_takeBody { frames := 4, cells := 0, slots := 0, locals := 96 } [.ref (ad 188), .int (nI is)] S A b (fun r S' A' b' => b = b' ∧ (∀ i j, (i ≠ 188 ∨ j < 15 ∨ 27 < j) → S' i j = S i j) ∧ (∀ i, (i < 195 ∨ 201 < i) → A' i = A i) ∧ ((∃ kd pl, mbody (A 194) n a nC nP nK nW P is = .inl (kd, pl) ∧ (1 ≤ kd ∧ kd ≤ 4) ∧ r = nI kd ∧ S' 188 15 = nI pl) ∨ (∃ e P', mbody (A 194) n a nC nP nK nW P is = .inr (e, P') ∧ (a < e ∧ e ≤ 245) ∧ r = 0 ∧ S' 188 16 = nI e ∧ S' 188 15 = S 188 15 ∧ mPX S' A' P'))) := by
  obtain ⟨⟨hRl, hP0, hCb⟩, hP12, hP3, ⟨hR4, hP4, hPb⟩, ⟨hR5, hP5, hKb⟩, ⟨hR6, hP6, hWb⟩, hPp, hPk, hPw⟩ := id hP
  refine MI.of (cc := cX11_takeBody) (maxL := 2) (ret := some .int) RX11 rfl (by decide) rfl ?_
  intro pg e s m below meth cd C hM
  have hx := C.1
  have hb := C.2.1
  have hts := C.2.2.2.2.1
  have hA : ∀ q, s.heap.size ≤ q → qAr ad s.heap.size q := fun _ h => Or.inr h
  have hl := lv_entry ([.ref (ad 188), .int (nI is)]) (n := 2) (Nat.le_of_ble_eq_true rfl)
  rw [lg_entry_eq]
  generalize (lg_sl ([.ref (ad 188), .int (nI is)]) ++ List.replicate (2 - (lg_sl ([.ref (ad 188), .int (nI is)])).length) Slot.unset).toArray = ls at hl ⊢
  have hl : lv_has ls 2 [(0, .ref (ad 188)), (1, .int (nI is))] := hl
  refine lv_iload_n hx hb dX11_takeBody_0 rfl (lv_at hl 1 rfl) ?_
  by_cases c_1 : nI is = 0
  · have hz : (nI is : Int32).toInt = 0 := by rw [c_1]; rfl
    refine lv_tableIn (off := 31) (tgt := 32) hx hb dX11_takeBody_1 (by rw [hz]; decide) (by rw [hz]; decide) (by rw [hz]; rfl) (by decide) ?_
    refine lv_aload_n hx hb dX11_takeBody_32 rfl (lv_at hl 0 rfl) ?_
    have his : is = 0 := (nI_eq (a := is) (b := 0) (by omega) (by omega)).mp c_1
    refine q_callVI (n := 0) (o := 188) (As := []) (rest := []) C hM hA (c_X11_takeLaw E ad l S A b n a hln (by omega) hat (by omega) nC nP nK nW P hP (by omega)) (qmem_11 E ad S A b (show qk 188 = 11 from by decide +kernel)) (by decide) rfl gX11_takeBody_X11_takeLaw rfl rfl rfl (by decide +kernel) ⟨Nat.le_of_ble_eq_true rfl, Nat.le_of_ble_eq_true rfl⟩ rfl hl.1 rfl (Nat.le_of_ble_eq_true rfl) ⟨Nat.zero_le _, Nat.zero_le _⟩ dX11_takeBody_33 (fun r_1 S_2 A_3 b_4 H locs qr_1 hM => ?_)
    obtain ⟨e3, hgS_2, hfAA_3, hD⟩ := qr_1
    subst e3
    rcases hD with ⟨kdb, plb, hnb2, hkb, er_1, h15b⟩ | ⟨enb, Pb, hnb2, henb, er_1, h16b, h15b, hPb2⟩
    · skip
      subst er_1
      exact q_iret C hM dX11_takeBody_36 (by exact ⟨rfl, hgS_2, hfAA_3, Or.inl ⟨kdb, plb, by rw [his]; exact hnb2, hkb, rfl, h15b⟩⟩)
    · skip
      subst er_1
      exact q_iret C hM dX11_takeBody_36 (by exact ⟨rfl, hgS_2, hfAA_3, Or.inr ⟨enb, Pb, by rw [his]; exact hnb2, henb, rfl, h16b, h15b, hPb2⟩⟩)
  have n_1_0 := c_1
  by_cases c_1 : nI is = 1
  · have hz : (nI is : Int32).toInt = 1 := by rw [c_1]; rfl
    refine lv_tableIn (off := 36) (tgt := 37) hx hb dX11_takeBody_1 (by rw [hz]; decide) (by rw [hz]; decide) (by rw [hz]; rfl) (by decide) ?_
    refine lv_aload_n hx hb dX11_takeBody_37 rfl (lv_at hl 0 rfl) ?_
    have his : is = 1 := (nI_eq (a := is) (b := 1) (by omega) (by omega)).mp c_1
    refine q_callVI (n := 0) (o := 188) (As := []) (rest := []) C hM hA (c_X11_takeRoad E ad l S A b n a hln (by omega) hat (by omega) nC nP nK nW P hP (by omega)) (qmem_11 E ad S A b (show qk 188 = 11 from by decide +kernel)) (by decide) rfl gX11_takeBody_X11_takeRoad rfl rfl rfl (by decide +kernel) ⟨Nat.le_of_ble_eq_true rfl, Nat.le_of_ble_eq_true rfl⟩ rfl hl.1 rfl (Nat.le_of_ble_eq_true rfl) ⟨Nat.zero_le _, Nat.zero_le _⟩ dX11_takeBody_38 (fun r_5 S_6 A_7 b_8 H locs qr_5 hM => ?_)
    obtain ⟨e3, hgS_6, hfAA_7, hD⟩ := qr_5
    subst e3
    rcases hD with ⟨kdb, plb, hnb2, hkb, er_5, h15b⟩ | ⟨enb, Pb, hnb2, henb, er_5, h16b, h15b, hPb2⟩
    · skip
      subst er_5
      exact q_iret C hM dX11_takeBody_41 (by exact ⟨rfl, hgS_6, hfAA_7, Or.inl ⟨kdb, plb, by rw [his]; exact hnb2, hkb, rfl, h15b⟩⟩)
    · skip
      subst er_5
      exact q_iret C hM dX11_takeBody_41 (by exact ⟨rfl, hgS_6, hfAA_7, Or.inr ⟨enb, Pb, by rw [his]; exact hnb2, henb, rfl, h16b, h15b, hPb2⟩⟩)
  have n_1_1 := c_1
  by_cases c_1 : nI is = 2
  · have hz : (nI is : Int32).toInt = 2 := by rw [c_1]; rfl
    refine lv_tableIn (off := 41) (tgt := 42) hx hb dX11_takeBody_1 (by rw [hz]; decide) (by rw [hz]; decide) (by rw [hz]; rfl) (by decide) ?_
    refine lv_aload_n hx hb dX11_takeBody_42 rfl (lv_at hl 0 rfl) ?_
    have his : is = 2 := (nI_eq (a := is) (b := 2) (by omega) (by omega)).mp c_1
    refine q_callVI (n := 0) (o := 188) (As := []) (rest := []) C hM hA (c_X11_takePost E ad l S A b n a hln (by omega) hat (by omega) nC nP nK nW P hP (by omega) (by omega)) (qmem_11 E ad S A b (show qk 188 = 11 from by decide +kernel)) (by decide) rfl gX11_takeBody_X11_takePost rfl rfl rfl (by decide +kernel) ⟨Nat.le_of_ble_eq_true rfl, Nat.le_of_ble_eq_true rfl⟩ rfl hl.1 rfl (Nat.le_of_ble_eq_true rfl) ⟨Nat.zero_le _, Nat.zero_le _⟩ dX11_takeBody_43 (fun r_9 S_10 A_11 b_12 H locs qr_9 hM => ?_)
    obtain ⟨e3, hgS_10, hfAA_11, hD⟩ := qr_9
    subst e3
    rcases hD with ⟨kdb, plb, hnb2, hkb, er_9, h15b⟩ | ⟨enb, Pb, hnb2, henb, er_9, h16b, h15b, hPb2⟩
    · skip
      subst er_9
      exact q_iret C hM dX11_takeBody_46 (by exact ⟨rfl, hgS_10, hfAA_11, Or.inl ⟨kdb, plb, by rw [his]; exact hnb2, hkb, rfl, h15b⟩⟩)
    · skip
      subst er_9
      exact q_iret C hM dX11_takeBody_46 (by exact ⟨rfl, hgS_10, hfAA_11, Or.inr ⟨enb, Pb, by rw [his]; exact hnb2, henb, rfl, h16b, h15b, hPb2⟩⟩)
  have n_1_2 := c_1
  by_cases c_1 : nI is = 3
  · have hz : (nI is : Int32).toInt = 3 := by rw [c_1]; rfl
    refine lv_tableIn (off := 46) (tgt := 47) hx hb dX11_takeBody_1 (by rw [hz]; decide) (by rw [hz]; decide) (by rw [hz]; rfl) (by decide) ?_
    refine lv_aload_n hx hb dX11_takeBody_47 rfl (lv_at hl 0 rfl) ?_
    have his : is = 3 := (nI_eq (a := is) (b := 3) (by omega) (by omega)).mp c_1
    refine q_callVI (n := 0) (o := 188) (As := []) (rest := []) C hM hA (c_X11_takeCrow E ad l S A b n a hln (by omega) hat (by omega) nC nP nK nW P hP (by omega)) (qmem_11 E ad S A b (show qk 188 = 11 from by decide +kernel)) (by decide) rfl gX11_takeBody_X11_takeCrow rfl rfl rfl (by decide +kernel) ⟨Nat.le_of_ble_eq_true rfl, Nat.le_of_ble_eq_true rfl⟩ rfl hl.1 rfl (Nat.le_of_ble_eq_true rfl) ⟨Nat.zero_le _, Nat.zero_le _⟩ dX11_takeBody_48 (fun r_13 S_14 A_15 b_16 H locs qr_13 hM => ?_)
    obtain ⟨e3, hgS_14, hfAA_15, hD⟩ := qr_13
    subst e3
    rcases hD with ⟨kdb, plb, hnb2, hkb, er_13, h15b⟩ | ⟨enb, Pb, hnb2, henb, er_13, h16b, h15b, hPb2⟩
    · skip
      subst er_13
      exact q_iret C hM dX11_takeBody_51 (by exact ⟨rfl, hgS_14, hfAA_15, Or.inl ⟨kdb, plb, by rw [his]; exact hnb2, hkb, rfl, h15b⟩⟩)
    · skip
      subst er_13
      exact q_iret C hM dX11_takeBody_51 (by exact ⟨rfl, hgS_14, hfAA_15, Or.inr ⟨enb, Pb, by rw [his]; exact hnb2, henb, rfl, h16b, h15b, hPb2⟩⟩)
  have n_1_3 := c_1
  have m_1_0 := q_neI (i := 0) (by decide) n_1_0
  have m_1_1 := q_neI (i := 1) (by decide) n_1_1
  have m_1_2 := q_neI (i := 2) (by decide) n_1_2
  have m_1_3 := q_neI (i := 3) (by decide) n_1_3
  refine lv_tableOut (tgt := 52) hx hb dX11_takeBody_1 (by omega) (by decide) ?_
  refine lv_aload_n hx hb dX11_takeBody_52 rfl (lv_at hl 0 rfl) ?_
  have his : is = 4 := by have h0 : ¬ is = 0 := fun z => n_1_0 (by rw [z]; rfl); have h1 : ¬ is = 1 := fun z => n_1_1 (by rw [z]; rfl); have h2 : ¬ is = 2 := fun z => n_1_2 (by rw [z]; rfl); have h3 : ¬ is = 3 := fun z => n_1_3 (by rw [z]; rfl); omega
  refine q_callVI (n := 0) (o := 188) (As := []) (rest := []) C hM hA (c_X11_takeHour E ad l S A b n a hln (by omega) hat (by omega) nC nP nK nW P hP (by omega)) (qmem_11 E ad S A b (show qk 188 = 11 from by decide +kernel)) (by decide) rfl gX11_takeBody_X11_takeHour rfl rfl rfl (by decide +kernel) ⟨Nat.le_of_ble_eq_true rfl, Nat.le_of_ble_eq_true rfl⟩ rfl hl.1 rfl (Nat.le_of_ble_eq_true rfl) ⟨Nat.zero_le _, Nat.zero_le _⟩ dX11_takeBody_53 (fun r_17 S_18 A_19 b_20 H locs qr_17 hM => ?_)
  obtain ⟨e3, hgS_18, hfAA_19, hD⟩ := qr_17
  subst e3
  rcases hD with ⟨kdb, plb, hnb2, hkb, er_17, h15b⟩ | ⟨enb, Pb, hnb2, henb, er_17, h16b, h15b, hPb2⟩
  · skip
    subst er_17
    exact q_iret C hM dX11_takeBody_56 (by exact ⟨rfl, hgS_18, hfAA_19, Or.inl ⟨kdb, plb, by rw [his]; exact hnb2, hkb, rfl, h15b⟩⟩)
  · skip
    subst er_17
    exact q_iret C hM dX11_takeBody_56 (by exact ⟨rfl, hgS_18, hfAA_19, Or.inr ⟨enb, Pb, by rw [his]; exact hnb2, henb, rfl, h16b, h15b, hPb2⟩⟩)

set_option maxHeartbeats 4000000 in
set_option maxRecDepth 100000 in
theorem c_X11_takeClause (E : qE) (ad : Nat → Nat) (l : Launch) (S A : qA2) (b : qB) (n a : Nat) (hln : S 188 14 = nI n) (hnb : n ≤ 240) (hat : S 188 16 = nI a) (hab : a < n) (hska : qsk (A 194) n a = a) (nC nP nK nW : Nat) (P : qPS) (hP : mPr nC nP nK nW S A P) : MI E ad l yX11_takeClause wsX11_takeClause { frames := 5, cells := 0, slots := 0, locals := 117 } [.ref (ad 188)] S A b (fun r S' A' b' => b = b' ∧ (∀ i j, (i ≠ 188 ∨ j < 15 ∨ 27 < j) → S' i j = S i j) ∧ (∀ i, (i < 195 ∨ 201 < i) → A' i = A i) ∧ ((∃ kd pl, qcl qstM (A 194) n a nC nP nK nW P = .inl (kd, pl) ∧ (1 ≤ kd ∧ kd ≤ 4) ∧ r = nI kd ∧ S' 188 15 = nI pl) ∨ (∃ e P', qcl qstM (A 194) n a nC nP nK nW P = .inr (e, P') ∧ (a < e ∧ e ≤ 245) ∧ r = 0 ∧ S' 188 16 = nI e ∧ S' 188 15 = S 188 15 ∧ mPX S' A' P'))) := by
  obtain ⟨⟨hRl, hP0, hCb⟩, hP12, hP3, ⟨hR4, hP4, hPb⟩, ⟨hR5, hP5, hKb⟩, ⟨hR6, hP6, hWb⟩, hPp, hPk, hPw⟩ := id hP
  refine MI.of (cc := cX11_takeClause) (maxL := 3) (ret := some .int) RX11 rfl (by decide) rfl ?_
  intro pg e s m below meth cd C hM
  have hx := C.1
  have hb := C.2.1
  have hts := C.2.2.2.2.1
  have hA : ∀ q, s.heap.size ≤ q → qAr ad s.heap.size q := fun _ h => Or.inr h
  have hi11 : ∀ w ∈ u_ws RX11 TX11 45, w ∈ wsX11_takeClause := by decide +kernel
  have hL0 := hts (.fieldLink RX11 110 "CrowFencesModel" "at0" "I") (by decide +kernel)
  have hL1 := hts (.fieldLink RX11 32 "CrowFencesModel" "readLaw" "[I") (by decide +kernel)
  have hl := lv_entry ([.ref (ad 188)]) (n := 3) (Nat.le_of_ble_eq_true rfl)
  rw [lg_entry_eq]
  generalize (lg_sl ([.ref (ad 188)]) ++ List.replicate (3 - (lg_sl ([.ref (ad 188)])).length) Slot.unset).toArray = ls at hl ⊢
  have hl : lv_has ls 3 [(0, .ref (ad 188))] := hl
  refine lv_aload_n hx hb dX11_takeClause_0 rfl (lv_at hl 0 rfl) ?_
  refine lv_aload_n hx hb dX11_takeClause_1 rfl (lv_at hl 0 rfl) ?_
  refine q_callVI (n := 0) (o := 188) (As := []) (rest := [.ref (ad 188)]) C hM hA (c_X11_here E ad l S A b n a hln (by omega) hat (by omega)) (qmem_11 E ad S A b (show qk 188 = 11 from by decide +kernel)) (by decide) rfl gX11_takeClause_X11_here rfl rfl rfl (by decide +kernel) ⟨Nat.le_of_ble_eq_true rfl, Nat.le_of_ble_eq_true rfl⟩ rfl hl.1 rfl (Nat.le_of_ble_eq_true rfl) ⟨Nat.zero_le _, Nat.zero_le _⟩ dX11_takeClause_2 (fun r_1 S_2 A_3 b_4 H locs qr_1 hM => ?_)
  obtain ⟨⟨e2, e3⟩, eS_2, er_1⟩ := qr_1
  subst e2; subst e3
  rw [hska] at eS_2 er_1
  rw [if_pos hab] at er_1
  subst er_1
  · skip
    refine q_callVI (n := 1) (o := 188) (As := [.int (A 194 a)]) (rest := []) C hM hA (c_X11_whichClause E ad l S_2 A b (A 194 a)) (qmem_11 E ad S_2 A b (show qk 188 = 11 from by decide +kernel)) (by decide) rfl gX11_takeClause_X11_whichClause rfl rfl rfl (by decide +kernel) ⟨Nat.le_of_ble_eq_true rfl, Nat.le_of_ble_eq_true rfl⟩ rfl hl.1 rfl (Nat.le_of_ble_eq_true rfl) ⟨Nat.zero_le _, Nat.zero_le _⟩ dX11_takeClause_5 (fun r_5 S_6 A_7 b_8 H locs qr_5 hM => ?_)
    obtain ⟨⟨e1, e2, e3⟩, er_5⟩ := qr_5
    subst e1; subst e2; subst e3
    by_cases hl119 : A 194 a = 119
    · skip
      rw [show mwc (A 194 a) = 0 from by rw [hl119]; decide] at er_5
      subst er_5
      refine lv_istore_n (lv' := [(1, .int 0), (0, .ref (ad 188))]) hx hb dX11_takeClause_8 rfl hl (by decide) rfl (fun ls hl => ?_)
      refine lv_iload_n hx hb dX11_takeClause_9 rfl (lv_at hl 0 rfl) ?_
      refine lv_if_lt (tgt := 26) hx hb dX11_takeClause_10 (by decide) (fun c_10 => ?_) (fun c_10 => ?_)
      · skip
        have c_10 : 0 < 0 := (nI_ltI (a := 0) (b := 0) (by omega) (by omega)).mp c_10
        omega
      · skip
        have c_10 : ¬ (0 < 0) := fun z => c_10 ((nI_ltI (a := 0) (b := 0) (by omega) (by omega)).mpr z)
        refine lv_iload_n hx hb dX11_takeClause_13 rfl (lv_at hl 0 rfl) ?_
        refine lv_if_le (tgt := 36) hx hb dX11_takeClause_14 (by decide) (fun c_14 => ?_) (fun c_14 => ?_)
        · skip
          have c_14 : 0 ≤ 0 := (nI_leI (a := 0) (b := 0) (by omega) (by omega)).mp c_14
          refine lv_aload_n hx hb dX11_takeClause_36 rfl (lv_at hl 1 rfl) ?_
          refine lv_iload_n hx hb dX11_takeClause_37 rfl (lv_at hl 0 rfl) ?_
          refine q_callVI (n := 1) (o := 188) (As := [.int 0]) (rest := []) C hM hA (c_X11_isFull E ad l S_2 A b nC nP nK nW P (mPr_S (fun j h1 h2 => by rw [eS_2, q2_k _ _ (by omega)]) hP) 0 (by decide)) (qmem_11 E ad S_2 A b (show qk 188 = 11 from by decide +kernel)) (by decide) rfl gX11_takeClause_X11_isFull rfl rfl rfl (by decide +kernel) ⟨Nat.le_of_ble_eq_true rfl, Nat.le_of_ble_eq_true rfl⟩ rfl hl.1 rfl (Nat.le_of_ble_eq_true rfl) ⟨Nat.zero_le _, Nat.zero_le _⟩ dX11_takeClause_38 (fun r_9 S_10 A_11 b_12 H locs qr_9 hM => ?_)
          obtain ⟨⟨e1, e2, e3⟩, er_9⟩ := qr_9
          subst e1; subst e2; subst e3
          rcases q01_cases (mfl nC nP nK nW 0 = true) with ⟨hzr_9, hir_9⟩ | ⟨hzr_9, hir_9⟩
          · skip
            rw [hzr_9] at er_9
            subst er_9
            have hfull : ¬ nC = 0 := by simpa [mfl] using hir_9
            refine lv_if_eq (tgt := 54) hx hb dX11_takeClause_41 (by decide) (fun c_41 => ?_) (fun c_41 => ?_)
            · skip
              have c_41 : 1 = 0 := (nI_eq (a := 1) (b := 0) (by omega) (by omega)).mp c_41
              exact absurd c_41 (by decide)
            · skip
              have c_41 : ¬ (1 = 0) := fun z => c_41 ((nI_eq (a := 1) (b := 0) (by omega) (by omega)).mpr z)
              refine lv_aload_n hx hb dX11_takeClause_44 rfl (lv_at hl 1 rfl) ?_
              refine lv_iconst (v := 3) hx hb dX11_takeClause_45 (by decide) ?_
              refine lv_aload_n hx hb dX11_takeClause_46 rfl (lv_at hl 1 rfl) ?_
              refine q_get (o := 188) (ci := 11) (k := 16) (T := TX11) (v := .int (nI a)) C hM (qmem_11 E ad S_2 A b (show qk 188 = 11 from by decide +kernel)) (by decide) rfl hi11 (by decide) hL0 rfl (congrArg (fun z => some (Value.int z)) (show S_2 188 16 = nI a from by rw [eS_2]; exact q2_s _ _ _ _)) dX11_takeClause_47 ?_
              refine q_callVI (n := 2) (o := 188) (As := [.int 3, .int (nI a)]) (rest := []) C hM hA (c_X11_fails E ad l S_2 A b 3 (nI a)) (qmem_11 E ad S_2 A b (show qk 188 = 11 from by decide +kernel)) (by decide) rfl gX11_takeClause_X11_fails rfl rfl rfl (by decide +kernel) ⟨Nat.le_of_ble_eq_true rfl, Nat.le_of_ble_eq_true rfl⟩ rfl hl.1 rfl (Nat.le_of_ble_eq_true rfl) ⟨Nat.zero_le _, Nat.zero_le _⟩ dX11_takeClause_50 (fun r_13 S_14 A_15 b_16 H locs qr_13 hM => ?_)
              obtain ⟨⟨e2, e3⟩, er_13, eS_14⟩ := qr_13
              subst e2; subst e3
              subst er_13
              exact q_iret C hM dX11_takeClause_53 (by exact ⟨rfl, (fun i j hij => by rw [eS_14, q2_ne _ _ (by omega), eS_2, q2_ne _ _ (by omega)]), (fun _ _ => rfl), Or.inl ⟨3, a, (by unfold qcl; rw [show qbody qstM (A 194) n a nC nP nK nW P = _ from (mq_w hl119).trans (if_neg (by omega))]; rfl), by omega, rfl, (show S_14 188 15 = nI a from by rw [eS_14]; exact q2_s _ _ _ _)⟩⟩)
          · skip
            rw [hzr_9] at er_9
            subst er_9
            have hfull : ¬ (¬ nC = 0) := by simpa [mfl] using hir_9
            refine lv_if_eq (tgt := 54) hx hb dX11_takeClause_41 (by decide) (fun c_41 => ?_) (fun c_41 => ?_)
            · skip
              have c_41 : 0 = 0 := (nI_eq (a := 0) (b := 0) (by omega) (by omega)).mp c_41
              refine lv_aload_n hx hb dX11_takeClause_54 rfl (lv_at hl 1 rfl) ?_
              refine lv_dup hx hb dX11_takeClause_55 rfl ?_
              refine q_get (o := 188) (ci := 11) (k := 16) (T := TX11) (v := .int (nI a)) C hM (qmem_11 E ad S_2 A b (show qk 188 = 11 from by decide +kernel)) (by decide) rfl hi11 (by decide) hL0 rfl (congrArg (fun z => some (Value.int z)) (show S_2 188 16 = nI a from by rw [eS_2]; exact q2_s _ _ _ _)) dX11_takeClause_56 ?_
              refine lv_iconst (v := 1) hx hb dX11_takeClause_59 (by decide) ?_
              refine lv_iadd hx hb dX11_takeClause_60 ?_
              refine lv_as (y := nI (a + 1)) (nI_add _ _) ?_
              refine q_put (o := 188) (ci := 11) (k := 16) (T := TX11) (ty := .int) (v := nI (a + 1)) C hM (qmem_11 E ad S_2 A b (show qk 188 = 11 from by decide +kernel)) (by decide) rfl hi11 tyX11 tyX11_ok nmX11 (by decide) hL0 rfl rfl (by decide +kernel) rfl rfl (Nat.le_of_ble_eq_true rfl) (qs_11_16 E ad S_2 A b (show qk 188 = 11 from by decide +kernel) (nI (a + 1))) dX11_takeClause_61 (fun H locs hM => ?_)
              obtain ⟨S_17, eS_17⟩ : ∃ zz, zz = q2 S_2 188 16 (nI (a + 1)) := ⟨_, rfl⟩
              rw [← eS_17] at hM
              refine lv_aload_n hx hb dX11_takeClause_64 rfl (lv_at hl 1 rfl) ?_
              refine lv_iload_n hx hb dX11_takeClause_65 rfl (lv_at hl 0 rfl) ?_
              refine q_callVI (n := 1) (o := 188) (As := [.int 0]) (rest := []) C hM hA (c_X11_takeBody E ad l S_17 A b n a ((show S_17 188 14 = S 188 14 from by rw [eS_17, q2_k _ _ (by omega)]; rw [eS_2, q2_k _ _ (by omega)]).trans hln) (by omega) (show S_17 188 16 = nI (a + 1) from by rw [eS_17]; exact q2_s _ _ _ _) (by omega) nC nP nK nW P (mPr_S (fun j h1 h2 => by rw [eS_17, q2_k _ _ (by omega), eS_2, q2_k _ _ (by omega)]) hP) 0 (by omega) (by omega) (by omega) (by omega) (by omega) (by omega)) (qmem_11 E ad S_17 A b (show qk 188 = 11 from by decide +kernel)) (by decide) rfl gX11_takeClause_X11_takeBody rfl rfl rfl (by decide +kernel) ⟨Nat.le_of_ble_eq_true rfl, Nat.le_of_ble_eq_true rfl⟩ rfl hl.1 rfl (Nat.le_of_ble_eq_true rfl) ⟨Nat.zero_le _, Nat.zero_le _⟩ dX11_takeClause_66 (fun r_18 S_19 A_20 b_21 H locs qr_18 hM => ?_)
              obtain ⟨e3, hgS_19, hfAA_20, hD⟩ := qr_18
              subst e3
              rcases hD with ⟨kdb, plb, hnb2, hkb, er_18, h15b⟩ | ⟨enb, Pb, hnb2, henb, er_18, h16b, h15b, hPb2⟩
              · skip
                subst er_18
                refine lv_istore_n (lv' := [(2, .int (nI kdb)), (1, .int 0), (0, .ref (ad 188))]) hx hb dX11_takeClause_69 rfl hl (by decide) rfl (fun ls hl => ?_)
                refine lv_iload_n hx hb dX11_takeClause_70 rfl (lv_at hl 0 rfl) ?_
                refine lv_if_ne (tgt := 93) hx hb dX11_takeClause_71 (by decide) (fun c_71 => ?_) (fun c_71 => ?_)
                · skip
                  have c_71 : ¬ (kdb = 0) := fun z => c_71 ((nI_eq (a := kdb) (b := 0) (by omega) (by omega)).mpr z)
                  refine lv_aload_n hx hb dX11_takeClause_93 rfl (lv_at hl 2 rfl) ?_
                  refine lv_dup hx hb dX11_takeClause_94 rfl ?_
                  refine q_get (o := 188) (ci := 11) (k := 16) (T := TX11) (v := .int (S_19 188 16)) C hM (qmem_11 E ad S_19 A_20 b (show qk 188 = 11 from by decide +kernel)) (by decide) rfl hi11 (by decide) hL0 rfl rfl dX11_takeClause_95 ?_
                  refine lv_iconst (v := 1) hx hb dX11_takeClause_98 (by decide) ?_
                  refine lv_iadd hx hb dX11_takeClause_99 ?_
                  refine lv_topi (fun v_22 ev_22 => ?_)
                  refine q_put (o := 188) (ci := 11) (k := 16) (T := TX11) (ty := .int) (v := v_22) C hM (qmem_11 E ad S_19 A_20 b (show qk 188 = 11 from by decide +kernel)) (by decide) rfl hi11 tyX11 tyX11_ok nmX11 (by decide) hL0 rfl rfl (by decide +kernel) rfl rfl (Nat.le_of_ble_eq_true rfl) (qs_11_16 E ad S_19 A_20 b (show qk 188 = 11 from by decide +kernel) v_22) dX11_takeClause_100 (fun H locs hM => ?_)
                  obtain ⟨S_23, eS_23⟩ : ∃ zz, zz = q2 S_19 188 16 v_22 := ⟨_, rfl⟩
                  rw [← eS_23] at hM
                  refine lv_iload_n hx hb dX11_takeClause_103 rfl (lv_at hl 0 rfl) ?_
                  exact q_iret C hM dX11_takeClause_104 (by have hbd : qbody qstM (A 194) n a nC nP nK nW P = mbody (A 194) n a nC nP nK nW P 0 := (mq_w hl119).trans (if_pos (by omega)); exact ⟨rfl, (fun i j hij => by rw [eS_23, q2_ne _ _ (by omega), hgS_19 i j hij, eS_17, q2_ne _ _ (by omega), eS_2, q2_ne _ _ (by omega)]), hfAA_20, Or.inl ⟨kdb, plb, (by unfold qcl; rw [hbd, hnb2]; rfl), by omega, rfl, (show S_23 188 15 = nI plb from by rw [eS_23, q2_k _ _ (by omega)]; exact h15b)⟩⟩)
                · skip
                  have c_71 : kdb = 0 := (nI_eq (a := kdb) (b := 0) (by omega) (by omega)).mp c_71
                  omega
              · skip
                subst er_18
                refine lv_istore_n (lv' := [(2, .int 0), (1, .int 0), (0, .ref (ad 188))]) hx hb dX11_takeClause_69 rfl hl (by decide) rfl (fun ls hl => ?_)
                refine lv_iload_n hx hb dX11_takeClause_70 rfl (lv_at hl 0 rfl) ?_
                refine lv_if_ne (tgt := 93) hx hb dX11_takeClause_71 (by decide) (fun c_71 => ?_) (fun c_71 => ?_)
                · skip
                  have c_71 : ¬ (0 = 0) := fun z => c_71 ((nI_eq (a := 0) (b := 0) (by omega) (by omega)).mpr z)
                  exact absurd rfl c_71
                · skip
                  have c_71 : 0 = 0 := (nI_eq (a := 0) (b := 0) (by omega) (by omega)).mp c_71
                  refine lv_aload_n hx hb dX11_takeClause_74 rfl (lv_at hl 2 rfl) ?_
                  refine q_callVI (n := 0) (o := 188) (As := []) (rest := []) C hM hA (c_X11_here E ad l S_19 A_20 b n enb ((show S_19 188 14 = S 188 14 from by rw [hgS_19 188 14 (by omega)]; rw [eS_17, q2_k _ _ (by omega)]; rw [eS_2, q2_k _ _ (by omega)]).trans hln) (by omega) (show S_19 188 16 = nI enb from by exact h16b) (by omega)) (qmem_11 E ad S_19 A_20 b (show qk 188 = 11 from by decide +kernel)) (by decide) rfl gX11_takeClause_X11_here rfl rfl rfl (by decide +kernel) ⟨Nat.le_of_ble_eq_true rfl, Nat.le_of_ble_eq_true rfl⟩ rfl hl.1 rfl (Nat.le_of_ble_eq_true rfl) ⟨Nat.zero_le _, Nat.zero_le _⟩ dX11_takeClause_75 (fun r_24 S_25 A_26 b_27 H locs qr_24 hM => ?_)
                  rw [show A_20 194 = A 194 from by rw [hfAA_20 194 (by omega)]] at qr_24
                  obtain ⟨sk_28, esk_28⟩ : ∃ zz, zz = qsk (A 194) n enb := ⟨_, rfl⟩
                  have lsk_28 := qsk_le (A 194) n enb
                  rw [← esk_28] at lsk_28 qr_24
                  obtain ⟨⟨e2, e3⟩, eS_25, er_24⟩ := qr_24
                  subst e2; subst e3
                  by_cases hltsk_28 : sk_28 < n
                  · skip
                    rw [if_pos hltsk_28] at er_24
                    subst er_24
                    refine lv_bipush (v := 59) hx hb dX11_takeClause_78 (by decide) ?_
                    refine lv_icmp_eq (tgt := 93) hx hb dX11_takeClause_80 (by decide) (fun c_80 => ?_) (fun c_80 => ?_)
                    · skip
                      refine lv_aload_n hx hb dX11_takeClause_93 rfl (lv_at hl 2 rfl) ?_
                      refine lv_dup hx hb dX11_takeClause_94 rfl ?_
                      refine q_get (o := 188) (ci := 11) (k := 16) (T := TX11) (v := .int (nI sk_28)) C hM (qmem_11 E ad S_25 A_20 b (show qk 188 = 11 from by decide +kernel)) (by decide) rfl hi11 (by decide) hL0 rfl (congrArg (fun z => some (Value.int z)) (show S_25 188 16 = nI sk_28 from by rw [eS_25]; exact q2_s _ _ _ _)) dX11_takeClause_95 ?_
                      refine lv_iconst (v := 1) hx hb dX11_takeClause_98 (by decide) ?_
                      refine lv_iadd hx hb dX11_takeClause_99 ?_
                      refine lv_as (y := nI (sk_28 + 1)) (nI_add _ _) ?_
                      refine q_put (o := 188) (ci := 11) (k := 16) (T := TX11) (ty := .int) (v := nI (sk_28 + 1)) C hM (qmem_11 E ad S_25 A_20 b (show qk 188 = 11 from by decide +kernel)) (by decide) rfl hi11 tyX11 tyX11_ok nmX11 (by decide) hL0 rfl rfl (by decide +kernel) rfl rfl (Nat.le_of_ble_eq_true rfl) (qs_11_16 E ad S_25 A_20 b (show qk 188 = 11 from by decide +kernel) (nI (sk_28 + 1))) dX11_takeClause_100 (fun H locs hM => ?_)
                      obtain ⟨S_29, eS_29⟩ : ∃ zz, zz = q2 S_25 188 16 (nI (sk_28 + 1)) := ⟨_, rfl⟩
                      rw [← eS_29] at hM
                      refine lv_iload_n hx hb dX11_takeClause_103 rfl (lv_at hl 0 rfl) ?_
                      exact q_iret C hM dX11_takeClause_104 (by have hbd : qbody qstM (A 194) n a nC nP nK nW P = mbody (A 194) n a nC nP nK nW P 0 := (mq_w hl119).trans (if_pos (by omega)); exact ⟨rfl, (fun i j hij => by rw [eS_29, q2_ne _ _ (by omega), eS_25, q2_ne _ _ (by omega), hgS_19 i j hij, eS_17, q2_ne _ _ (by omega), eS_2, q2_ne _ _ (by omega)]), hfAA_20, Or.inr ⟨sk_28 + 1, Pb, by unfold qcl; rw [hbd, hnb2]; show qend (A 194) n (enb, Pb) = _; simp only [qend, ← esk_28]; exact if_pos ⟨hltsk_28, c_80⟩, by omega, rfl, (show S_29 188 16 = nI (sk_28 + 1) from by rw [eS_29]; exact q2_s _ _ _ _), (show S_29 188 15 = S 188 15 from by rw [eS_29, q2_k _ _ (by omega)]; rw [eS_25, q2_k _ _ (by omega)]; rw [h15b]; rw [eS_17, q2_k _ _ (by omega)]; rw [eS_2, q2_k _ _ (by omega)]), mPX_S (fun j h1 h2 => by rw [eS_29, q2_k _ _ (by omega), eS_25, q2_k _ _ (by omega)]) hPb2⟩⟩)
                    · skip
                      refine lv_aload_n hx hb dX11_takeClause_83 rfl (lv_at hl 2 rfl) ?_
                      refine lv_iconst (v := 1) hx hb dX11_takeClause_84 (by decide) ?_
                      refine lv_aload_n hx hb dX11_takeClause_85 rfl (lv_at hl 2 rfl) ?_
                      refine q_get (o := 188) (ci := 11) (k := 16) (T := TX11) (v := .int (nI sk_28)) C hM (qmem_11 E ad S_25 A_20 b (show qk 188 = 11 from by decide +kernel)) (by decide) rfl hi11 (by decide) hL0 rfl (congrArg (fun z => some (Value.int z)) (show S_25 188 16 = nI sk_28 from by rw [eS_25]; exact q2_s _ _ _ _)) dX11_takeClause_86 ?_
                      refine q_callVI (n := 2) (o := 188) (As := [.int 1, .int (nI sk_28)]) (rest := []) C hM hA (c_X11_fails E ad l S_25 A_20 b 1 (nI sk_28)) (qmem_11 E ad S_25 A_20 b (show qk 188 = 11 from by decide +kernel)) (by decide) rfl gX11_takeClause_X11_fails rfl rfl rfl (by decide +kernel) ⟨Nat.le_of_ble_eq_true rfl, Nat.le_of_ble_eq_true rfl⟩ rfl hl.1 rfl (Nat.le_of_ble_eq_true rfl) ⟨Nat.zero_le _, Nat.zero_le _⟩ dX11_takeClause_89 (fun r_30 S_31 A_32 b_33 H locs qr_30 hM => ?_)
                      obtain ⟨⟨e2, e3⟩, er_30, eS_31⟩ := qr_30
                      subst e2; subst e3
                      subst er_30
                      exact q_iret C hM dX11_takeClause_92 (by have hbd : qbody qstM (A 194) n a nC nP nK nW P = mbody (A 194) n a nC nP nK nW P 0 := (mq_w hl119).trans (if_pos (by omega)); exact ⟨rfl, (fun i j hij => by rw [eS_31, q2_ne _ _ (by omega), eS_25, q2_ne _ _ (by omega), hgS_19 i j hij, eS_17, q2_ne _ _ (by omega), eS_2, q2_ne _ _ (by omega)]), hfAA_20, Or.inl ⟨1, sk_28, (by unfold qcl; rw [hbd, hnb2]; show qend (A 194) n (enb, Pb) = _; simp only [qend, ← esk_28]; exact if_neg (fun z => c_80 z.2)), by omega, rfl, (show S_31 188 15 = nI sk_28 from by rw [eS_31]; exact q2_s _ _ _ _)⟩⟩)
                  · skip
                    rw [if_neg hltsk_28] at er_24
                    subst er_24
                    refine lv_bipush (v := 59) hx hb dX11_takeClause_78 (by decide) ?_
                    refine lv_icmp_eq (tgt := 93) hx hb dX11_takeClause_80 (by decide) (fun c_80 => ?_) (fun c_80 => ?_)
                    · skip
                      exact absurd c_80 (by decide)
                    · skip
                      refine lv_aload_n hx hb dX11_takeClause_83 rfl (lv_at hl 2 rfl) ?_
                      refine lv_iconst (v := 1) hx hb dX11_takeClause_84 (by decide) ?_
                      refine lv_aload_n hx hb dX11_takeClause_85 rfl (lv_at hl 2 rfl) ?_
                      refine q_get (o := 188) (ci := 11) (k := 16) (T := TX11) (v := .int (nI sk_28)) C hM (qmem_11 E ad S_25 A_20 b (show qk 188 = 11 from by decide +kernel)) (by decide) rfl hi11 (by decide) hL0 rfl (congrArg (fun z => some (Value.int z)) (show S_25 188 16 = nI sk_28 from by rw [eS_25]; exact q2_s _ _ _ _)) dX11_takeClause_86 ?_
                      refine q_callVI (n := 2) (o := 188) (As := [.int 1, .int (nI sk_28)]) (rest := []) C hM hA (c_X11_fails E ad l S_25 A_20 b 1 (nI sk_28)) (qmem_11 E ad S_25 A_20 b (show qk 188 = 11 from by decide +kernel)) (by decide) rfl gX11_takeClause_X11_fails rfl rfl rfl (by decide +kernel) ⟨Nat.le_of_ble_eq_true rfl, Nat.le_of_ble_eq_true rfl⟩ rfl hl.1 rfl (Nat.le_of_ble_eq_true rfl) ⟨Nat.zero_le _, Nat.zero_le _⟩ dX11_takeClause_89 (fun r_34 S_35 A_36 b_37 H locs qr_34 hM => ?_)
                      obtain ⟨⟨e2, e3⟩, er_34, eS_35⟩ := qr_34
                      subst e2; subst e3
                      subst er_34
                      exact q_iret C hM dX11_takeClause_92 (by have hbd : qbody qstM (A 194) n a nC nP nK nW P = mbody (A 194) n a nC nP nK nW P 0 := (mq_w hl119).trans (if_pos (by omega)); exact ⟨rfl, (fun i j hij => by rw [eS_35, q2_ne _ _ (by omega), eS_25, q2_ne _ _ (by omega), hgS_19 i j hij, eS_17, q2_ne _ _ (by omega), eS_2, q2_ne _ _ (by omega)]), hfAA_20, Or.inl ⟨1, sk_28, (by unfold qcl; rw [hbd, hnb2]; show qend (A 194) n (enb, Pb) = _; simp only [qend, ← esk_28]; exact if_neg (fun z => hltsk_28 z.1)), by omega, rfl, (show S_35 188 15 = nI sk_28 from by rw [eS_35]; exact q2_s _ _ _ _)⟩⟩)
            · skip
              have c_41 : ¬ (0 = 0) := fun z => c_41 ((nI_eq (a := 0) (b := 0) (by omega) (by omega)).mpr z)
              exact absurd rfl c_41
        · skip
          have c_14 : ¬ (0 ≤ 0) := fun z => c_14 ((nI_leI (a := 0) (b := 0) (by omega) (by omega)).mpr z)
          omega
    by_cases hl114 : A 194 a = 114
    · skip
      rw [show mwc (A 194 a) = 1 from by rw [hl114]; decide] at er_5
      subst er_5
      refine lv_istore_n (lv' := [(1, .int 1), (0, .ref (ad 188))]) hx hb dX11_takeClause_8 rfl hl (by decide) rfl (fun ls hl => ?_)
      refine lv_iload_n hx hb dX11_takeClause_9 rfl (lv_at hl 0 rfl) ?_
      refine lv_if_lt (tgt := 26) hx hb dX11_takeClause_10 (by decide) (fun c_10 => ?_) (fun c_10 => ?_)
      · skip
        have c_10 : 1 < 0 := (nI_ltI (a := 1) (b := 0) (by omega) (by omega)).mp c_10
        omega
      · skip
        have c_10 : ¬ (1 < 0) := fun z => c_10 ((nI_ltI (a := 1) (b := 0) (by omega) (by omega)).mpr z)
        refine lv_iload_n hx hb dX11_takeClause_13 rfl (lv_at hl 0 rfl) ?_
        refine lv_if_le (tgt := 36) hx hb dX11_takeClause_14 (by decide) (fun c_14 => ?_) (fun c_14 => ?_)
        · skip
          have c_14 : 1 ≤ 0 := (nI_leI (a := 1) (b := 0) (by omega) (by omega)).mp c_14
          omega
        · skip
          have c_14 : ¬ (1 ≤ 0) := fun z => c_14 ((nI_leI (a := 1) (b := 0) (by omega) (by omega)).mpr z)
          refine lv_aload_n hx hb dX11_takeClause_17 rfl (lv_at hl 1 rfl) ?_
          refine q_get (o := 188) (ci := 11) (k := 19) (T := TX11) (v := .ref (ad 195)) C hM (qmem_11 E ad S_2 A b (show qk 188 = 11 from by decide +kernel)) (by decide) rfl hi11 (by decide) hL1 rfl rfl dX11_takeClause_18 ?_
          refine lv_iconst (v := 0) hx hb dX11_takeClause_21 (by decide) ?_
          refine q_iald (v := A 195 0) C hM (show qk 195 = 12 from by decide +kernel) (by rw [(show ql 195 = 3 from by decide +kernel)]; exact (vp_nI (by decide) (by decide) : vp_in (nI 0) 3)) (by rw [show Int32.toNatClampNeg 0 = 0 from by decide]) dX11_takeClause_22 ?_
          refine lv_as (y := nI nC) hRl ?_
          refine lv_if_ne (tgt := 36) hx hb dX11_takeClause_23 (by decide) (fun c_23 => ?_) (fun c_23 => ?_)
          · skip
            have c_23 : ¬ (nC = 0) := fun z => c_23 ((nI_eq (a := nC) (b := 0) (by omega) (by omega)).mpr z)
            refine lv_aload_n hx hb dX11_takeClause_36 rfl (lv_at hl 1 rfl) ?_
            refine lv_iload_n hx hb dX11_takeClause_37 rfl (lv_at hl 0 rfl) ?_
            refine q_callVI (n := 1) (o := 188) (As := [.int 1]) (rest := []) C hM hA (c_X11_isFull E ad l S_2 A b nC nP nK nW P (mPr_S (fun j h1 h2 => by rw [eS_2, q2_k _ _ (by omega)]) hP) 1 (by decide)) (qmem_11 E ad S_2 A b (show qk 188 = 11 from by decide +kernel)) (by decide) rfl gX11_takeClause_X11_isFull rfl rfl rfl (by decide +kernel) ⟨Nat.le_of_ble_eq_true rfl, Nat.le_of_ble_eq_true rfl⟩ rfl hl.1 rfl (Nat.le_of_ble_eq_true rfl) ⟨Nat.zero_le _, Nat.zero_le _⟩ dX11_takeClause_38 (fun r_38 S_39 A_40 b_41 H locs qr_38 hM => ?_)
            obtain ⟨⟨e1, e2, e3⟩, er_38⟩ := qr_38
            subst e1; subst e2; subst e3
            rcases q01_cases (mfl nC nP nK nW 1 = true) with ⟨hzr_38, hir_38⟩ | ⟨hzr_38, hir_38⟩
            · skip
              exact absurd hir_38 (show ¬ (false = true) from by decide)
            · skip
              rw [hzr_38] at er_38
              subst er_38
              refine lv_if_eq (tgt := 54) hx hb dX11_takeClause_41 (by decide) (fun c_41 => ?_) (fun c_41 => ?_)
              · skip
                have c_41 : 0 = 0 := (nI_eq (a := 0) (b := 0) (by omega) (by omega)).mp c_41
                refine lv_aload_n hx hb dX11_takeClause_54 rfl (lv_at hl 1 rfl) ?_
                refine lv_dup hx hb dX11_takeClause_55 rfl ?_
                refine q_get (o := 188) (ci := 11) (k := 16) (T := TX11) (v := .int (nI a)) C hM (qmem_11 E ad S_2 A b (show qk 188 = 11 from by decide +kernel)) (by decide) rfl hi11 (by decide) hL0 rfl (congrArg (fun z => some (Value.int z)) (show S_2 188 16 = nI a from by rw [eS_2]; exact q2_s _ _ _ _)) dX11_takeClause_56 ?_
                refine lv_iconst (v := 1) hx hb dX11_takeClause_59 (by decide) ?_
                refine lv_iadd hx hb dX11_takeClause_60 ?_
                refine lv_as (y := nI (a + 1)) (nI_add _ _) ?_
                refine q_put (o := 188) (ci := 11) (k := 16) (T := TX11) (ty := .int) (v := nI (a + 1)) C hM (qmem_11 E ad S_2 A b (show qk 188 = 11 from by decide +kernel)) (by decide) rfl hi11 tyX11 tyX11_ok nmX11 (by decide) hL0 rfl rfl (by decide +kernel) rfl rfl (Nat.le_of_ble_eq_true rfl) (qs_11_16 E ad S_2 A b (show qk 188 = 11 from by decide +kernel) (nI (a + 1))) dX11_takeClause_61 (fun H locs hM => ?_)
                obtain ⟨S_42, eS_42⟩ : ∃ zz, zz = q2 S_2 188 16 (nI (a + 1)) := ⟨_, rfl⟩
                rw [← eS_42] at hM
                refine lv_aload_n hx hb dX11_takeClause_64 rfl (lv_at hl 1 rfl) ?_
                refine lv_iload_n hx hb dX11_takeClause_65 rfl (lv_at hl 0 rfl) ?_
                refine q_callVI (n := 1) (o := 188) (As := [.int 1]) (rest := []) C hM hA (c_X11_takeBody E ad l S_42 A b n a ((show S_42 188 14 = S 188 14 from by rw [eS_42, q2_k _ _ (by omega)]; rw [eS_2, q2_k _ _ (by omega)]).trans hln) (by omega) (show S_42 188 16 = nI (a + 1) from by rw [eS_42]; exact q2_s _ _ _ _) (by omega) nC nP nK nW P (mPr_S (fun j h1 h2 => by rw [eS_42, q2_k _ _ (by omega), eS_2, q2_k _ _ (by omega)]) hP) 1 (by omega) (by omega) (by omega) (by omega) (by omega) (by omega)) (qmem_11 E ad S_42 A b (show qk 188 = 11 from by decide +kernel)) (by decide) rfl gX11_takeClause_X11_takeBody rfl rfl rfl (by decide +kernel) ⟨Nat.le_of_ble_eq_true rfl, Nat.le_of_ble_eq_true rfl⟩ rfl hl.1 rfl (Nat.le_of_ble_eq_true rfl) ⟨Nat.zero_le _, Nat.zero_le _⟩ dX11_takeClause_66 (fun r_43 S_44 A_45 b_46 H locs qr_43 hM => ?_)
                obtain ⟨e3, hgS_44, hfAA_45, hD⟩ := qr_43
                subst e3
                rcases hD with ⟨kdb, plb, hnb2, hkb, er_43, h15b⟩ | ⟨enb, Pb, hnb2, henb, er_43, h16b, h15b, hPb2⟩
                · skip
                  subst er_43
                  refine lv_istore_n (lv' := [(2, .int (nI kdb)), (1, .int 1), (0, .ref (ad 188))]) hx hb dX11_takeClause_69 rfl hl (by decide) rfl (fun ls hl => ?_)
                  refine lv_iload_n hx hb dX11_takeClause_70 rfl (lv_at hl 0 rfl) ?_
                  refine lv_if_ne (tgt := 93) hx hb dX11_takeClause_71 (by decide) (fun c_71 => ?_) (fun c_71 => ?_)
                  · skip
                    have c_71 : ¬ (kdb = 0) := fun z => c_71 ((nI_eq (a := kdb) (b := 0) (by omega) (by omega)).mpr z)
                    refine lv_aload_n hx hb dX11_takeClause_93 rfl (lv_at hl 2 rfl) ?_
                    refine lv_dup hx hb dX11_takeClause_94 rfl ?_
                    refine q_get (o := 188) (ci := 11) (k := 16) (T := TX11) (v := .int (S_44 188 16)) C hM (qmem_11 E ad S_44 A_45 b (show qk 188 = 11 from by decide +kernel)) (by decide) rfl hi11 (by decide) hL0 rfl rfl dX11_takeClause_95 ?_
                    refine lv_iconst (v := 1) hx hb dX11_takeClause_98 (by decide) ?_
                    refine lv_iadd hx hb dX11_takeClause_99 ?_
                    refine lv_topi (fun v_47 ev_47 => ?_)
                    refine q_put (o := 188) (ci := 11) (k := 16) (T := TX11) (ty := .int) (v := v_47) C hM (qmem_11 E ad S_44 A_45 b (show qk 188 = 11 from by decide +kernel)) (by decide) rfl hi11 tyX11 tyX11_ok nmX11 (by decide) hL0 rfl rfl (by decide +kernel) rfl rfl (Nat.le_of_ble_eq_true rfl) (qs_11_16 E ad S_44 A_45 b (show qk 188 = 11 from by decide +kernel) v_47) dX11_takeClause_100 (fun H locs hM => ?_)
                    obtain ⟨S_48, eS_48⟩ : ∃ zz, zz = q2 S_44 188 16 v_47 := ⟨_, rfl⟩
                    rw [← eS_48] at hM
                    refine lv_iload_n hx hb dX11_takeClause_103 rfl (lv_at hl 0 rfl) ?_
                    exact q_iret C hM dX11_takeClause_104 (by have hC1 : ¬ nC = 0 := c_23; have hbd : qbody qstM (A 194) n a nC nP nK nW P = mbody (A 194) n a nC nP nK nW P 1 := mq_r hl114 hC1; exact ⟨rfl, (fun i j hij => by rw [eS_48, q2_ne _ _ (by omega), hgS_44 i j hij, eS_42, q2_ne _ _ (by omega), eS_2, q2_ne _ _ (by omega)]), hfAA_45, Or.inl ⟨kdb, plb, (by unfold qcl; rw [hbd, hnb2]; rfl), by omega, rfl, (show S_48 188 15 = nI plb from by rw [eS_48, q2_k _ _ (by omega)]; exact h15b)⟩⟩)
                  · skip
                    have c_71 : kdb = 0 := (nI_eq (a := kdb) (b := 0) (by omega) (by omega)).mp c_71
                    omega
                · skip
                  subst er_43
                  refine lv_istore_n (lv' := [(2, .int 0), (1, .int 1), (0, .ref (ad 188))]) hx hb dX11_takeClause_69 rfl hl (by decide) rfl (fun ls hl => ?_)
                  refine lv_iload_n hx hb dX11_takeClause_70 rfl (lv_at hl 0 rfl) ?_
                  refine lv_if_ne (tgt := 93) hx hb dX11_takeClause_71 (by decide) (fun c_71 => ?_) (fun c_71 => ?_)
                  · skip
                    have c_71 : ¬ (0 = 0) := fun z => c_71 ((nI_eq (a := 0) (b := 0) (by omega) (by omega)).mpr z)
                    exact absurd rfl c_71
                  · skip
                    have c_71 : 0 = 0 := (nI_eq (a := 0) (b := 0) (by omega) (by omega)).mp c_71
                    refine lv_aload_n hx hb dX11_takeClause_74 rfl (lv_at hl 2 rfl) ?_
                    refine q_callVI (n := 0) (o := 188) (As := []) (rest := []) C hM hA (c_X11_here E ad l S_44 A_45 b n enb ((show S_44 188 14 = S 188 14 from by rw [hgS_44 188 14 (by omega)]; rw [eS_42, q2_k _ _ (by omega)]; rw [eS_2, q2_k _ _ (by omega)]).trans hln) (by omega) (show S_44 188 16 = nI enb from by exact h16b) (by omega)) (qmem_11 E ad S_44 A_45 b (show qk 188 = 11 from by decide +kernel)) (by decide) rfl gX11_takeClause_X11_here rfl rfl rfl (by decide +kernel) ⟨Nat.le_of_ble_eq_true rfl, Nat.le_of_ble_eq_true rfl⟩ rfl hl.1 rfl (Nat.le_of_ble_eq_true rfl) ⟨Nat.zero_le _, Nat.zero_le _⟩ dX11_takeClause_75 (fun r_49 S_50 A_51 b_52 H locs qr_49 hM => ?_)
                    rw [show A_45 194 = A 194 from by rw [hfAA_45 194 (by omega)]] at qr_49
                    obtain ⟨sk_53, esk_53⟩ : ∃ zz, zz = qsk (A 194) n enb := ⟨_, rfl⟩
                    have lsk_53 := qsk_le (A 194) n enb
                    rw [← esk_53] at lsk_53 qr_49
                    obtain ⟨⟨e2, e3⟩, eS_50, er_49⟩ := qr_49
                    subst e2; subst e3
                    by_cases hltsk_53 : sk_53 < n
                    · skip
                      rw [if_pos hltsk_53] at er_49
                      subst er_49
                      refine lv_bipush (v := 59) hx hb dX11_takeClause_78 (by decide) ?_
                      refine lv_icmp_eq (tgt := 93) hx hb dX11_takeClause_80 (by decide) (fun c_80 => ?_) (fun c_80 => ?_)
                      · skip
                        refine lv_aload_n hx hb dX11_takeClause_93 rfl (lv_at hl 2 rfl) ?_
                        refine lv_dup hx hb dX11_takeClause_94 rfl ?_
                        refine q_get (o := 188) (ci := 11) (k := 16) (T := TX11) (v := .int (nI sk_53)) C hM (qmem_11 E ad S_50 A_45 b (show qk 188 = 11 from by decide +kernel)) (by decide) rfl hi11 (by decide) hL0 rfl (congrArg (fun z => some (Value.int z)) (show S_50 188 16 = nI sk_53 from by rw [eS_50]; exact q2_s _ _ _ _)) dX11_takeClause_95 ?_
                        refine lv_iconst (v := 1) hx hb dX11_takeClause_98 (by decide) ?_
                        refine lv_iadd hx hb dX11_takeClause_99 ?_
                        refine lv_as (y := nI (sk_53 + 1)) (nI_add _ _) ?_
                        refine q_put (o := 188) (ci := 11) (k := 16) (T := TX11) (ty := .int) (v := nI (sk_53 + 1)) C hM (qmem_11 E ad S_50 A_45 b (show qk 188 = 11 from by decide +kernel)) (by decide) rfl hi11 tyX11 tyX11_ok nmX11 (by decide) hL0 rfl rfl (by decide +kernel) rfl rfl (Nat.le_of_ble_eq_true rfl) (qs_11_16 E ad S_50 A_45 b (show qk 188 = 11 from by decide +kernel) (nI (sk_53 + 1))) dX11_takeClause_100 (fun H locs hM => ?_)
                        obtain ⟨S_54, eS_54⟩ : ∃ zz, zz = q2 S_50 188 16 (nI (sk_53 + 1)) := ⟨_, rfl⟩
                        rw [← eS_54] at hM
                        refine lv_iload_n hx hb dX11_takeClause_103 rfl (lv_at hl 0 rfl) ?_
                        exact q_iret C hM dX11_takeClause_104 (by have hC1 : ¬ nC = 0 := c_23; have hbd : qbody qstM (A 194) n a nC nP nK nW P = mbody (A 194) n a nC nP nK nW P 1 := mq_r hl114 hC1; exact ⟨rfl, (fun i j hij => by rw [eS_54, q2_ne _ _ (by omega), eS_50, q2_ne _ _ (by omega), hgS_44 i j hij, eS_42, q2_ne _ _ (by omega), eS_2, q2_ne _ _ (by omega)]), hfAA_45, Or.inr ⟨sk_53 + 1, Pb, by unfold qcl; rw [hbd, hnb2]; show qend (A 194) n (enb, Pb) = _; simp only [qend, ← esk_53]; exact if_pos ⟨hltsk_53, c_80⟩, by omega, rfl, (show S_54 188 16 = nI (sk_53 + 1) from by rw [eS_54]; exact q2_s _ _ _ _), (show S_54 188 15 = S 188 15 from by rw [eS_54, q2_k _ _ (by omega)]; rw [eS_50, q2_k _ _ (by omega)]; rw [h15b]; rw [eS_42, q2_k _ _ (by omega)]; rw [eS_2, q2_k _ _ (by omega)]), mPX_S (fun j h1 h2 => by rw [eS_54, q2_k _ _ (by omega), eS_50, q2_k _ _ (by omega)]) hPb2⟩⟩)
                      · skip
                        refine lv_aload_n hx hb dX11_takeClause_83 rfl (lv_at hl 2 rfl) ?_
                        refine lv_iconst (v := 1) hx hb dX11_takeClause_84 (by decide) ?_
                        refine lv_aload_n hx hb dX11_takeClause_85 rfl (lv_at hl 2 rfl) ?_
                        refine q_get (o := 188) (ci := 11) (k := 16) (T := TX11) (v := .int (nI sk_53)) C hM (qmem_11 E ad S_50 A_45 b (show qk 188 = 11 from by decide +kernel)) (by decide) rfl hi11 (by decide) hL0 rfl (congrArg (fun z => some (Value.int z)) (show S_50 188 16 = nI sk_53 from by rw [eS_50]; exact q2_s _ _ _ _)) dX11_takeClause_86 ?_
                        refine q_callVI (n := 2) (o := 188) (As := [.int 1, .int (nI sk_53)]) (rest := []) C hM hA (c_X11_fails E ad l S_50 A_45 b 1 (nI sk_53)) (qmem_11 E ad S_50 A_45 b (show qk 188 = 11 from by decide +kernel)) (by decide) rfl gX11_takeClause_X11_fails rfl rfl rfl (by decide +kernel) ⟨Nat.le_of_ble_eq_true rfl, Nat.le_of_ble_eq_true rfl⟩ rfl hl.1 rfl (Nat.le_of_ble_eq_true rfl) ⟨Nat.zero_le _, Nat.zero_le _⟩ dX11_takeClause_89 (fun r_55 S_56 A_57 b_58 H locs qr_55 hM => ?_)
                        obtain ⟨⟨e2, e3⟩, er_55, eS_56⟩ := qr_55
                        subst e2; subst e3
                        subst er_55
                        exact q_iret C hM dX11_takeClause_92 (by have hC1 : ¬ nC = 0 := c_23; have hbd : qbody qstM (A 194) n a nC nP nK nW P = mbody (A 194) n a nC nP nK nW P 1 := mq_r hl114 hC1; exact ⟨rfl, (fun i j hij => by rw [eS_56, q2_ne _ _ (by omega), eS_50, q2_ne _ _ (by omega), hgS_44 i j hij, eS_42, q2_ne _ _ (by omega), eS_2, q2_ne _ _ (by omega)]), hfAA_45, Or.inl ⟨1, sk_53, (by unfold qcl; rw [hbd, hnb2]; show qend (A 194) n (enb, Pb) = _; simp only [qend, ← esk_53]; exact if_neg (fun z => c_80 z.2)), by omega, rfl, (show S_56 188 15 = nI sk_53 from by rw [eS_56]; exact q2_s _ _ _ _)⟩⟩)
                    · skip
                      rw [if_neg hltsk_53] at er_49
                      subst er_49
                      refine lv_bipush (v := 59) hx hb dX11_takeClause_78 (by decide) ?_
                      refine lv_icmp_eq (tgt := 93) hx hb dX11_takeClause_80 (by decide) (fun c_80 => ?_) (fun c_80 => ?_)
                      · skip
                        exact absurd c_80 (by decide)
                      · skip
                        refine lv_aload_n hx hb dX11_takeClause_83 rfl (lv_at hl 2 rfl) ?_
                        refine lv_iconst (v := 1) hx hb dX11_takeClause_84 (by decide) ?_
                        refine lv_aload_n hx hb dX11_takeClause_85 rfl (lv_at hl 2 rfl) ?_
                        refine q_get (o := 188) (ci := 11) (k := 16) (T := TX11) (v := .int (nI sk_53)) C hM (qmem_11 E ad S_50 A_45 b (show qk 188 = 11 from by decide +kernel)) (by decide) rfl hi11 (by decide) hL0 rfl (congrArg (fun z => some (Value.int z)) (show S_50 188 16 = nI sk_53 from by rw [eS_50]; exact q2_s _ _ _ _)) dX11_takeClause_86 ?_
                        refine q_callVI (n := 2) (o := 188) (As := [.int 1, .int (nI sk_53)]) (rest := []) C hM hA (c_X11_fails E ad l S_50 A_45 b 1 (nI sk_53)) (qmem_11 E ad S_50 A_45 b (show qk 188 = 11 from by decide +kernel)) (by decide) rfl gX11_takeClause_X11_fails rfl rfl rfl (by decide +kernel) ⟨Nat.le_of_ble_eq_true rfl, Nat.le_of_ble_eq_true rfl⟩ rfl hl.1 rfl (Nat.le_of_ble_eq_true rfl) ⟨Nat.zero_le _, Nat.zero_le _⟩ dX11_takeClause_89 (fun r_59 S_60 A_61 b_62 H locs qr_59 hM => ?_)
                        obtain ⟨⟨e2, e3⟩, er_59, eS_60⟩ := qr_59
                        subst e2; subst e3
                        subst er_59
                        exact q_iret C hM dX11_takeClause_92 (by have hC1 : ¬ nC = 0 := c_23; have hbd : qbody qstM (A 194) n a nC nP nK nW P = mbody (A 194) n a nC nP nK nW P 1 := mq_r hl114 hC1; exact ⟨rfl, (fun i j hij => by rw [eS_60, q2_ne _ _ (by omega), eS_50, q2_ne _ _ (by omega), hgS_44 i j hij, eS_42, q2_ne _ _ (by omega), eS_2, q2_ne _ _ (by omega)]), hfAA_45, Or.inl ⟨1, sk_53, (by unfold qcl; rw [hbd, hnb2]; show qend (A 194) n (enb, Pb) = _; simp only [qend, ← esk_53]; exact if_neg (fun z => hltsk_53 z.1)), by omega, rfl, (show S_60 188 15 = nI sk_53 from by rw [eS_60]; exact q2_s _ _ _ _)⟩⟩)
              · skip
                have c_41 : ¬ (0 = 0) := fun z => c_41 ((nI_eq (a := 0) (b := 0) (by omega) (by omega)).mpr z)
                exact absurd rfl c_41
          · skip
            have c_23 : nC = 0 := (nI_eq (a := nC) (b := 0) (by omega) (by omega)).mp c_23
            refine lv_aload_n hx hb dX11_takeClause_26 rfl (lv_at hl 1 rfl) ?_
            refine lv_iconst (v := 1) hx hb dX11_takeClause_27 (by decide) ?_
            refine lv_aload_n hx hb dX11_takeClause_28 rfl (lv_at hl 1 rfl) ?_
            refine q_get (o := 188) (ci := 11) (k := 16) (T := TX11) (v := .int (nI a)) C hM (qmem_11 E ad S_2 A b (show qk 188 = 11 from by decide +kernel)) (by decide) rfl hi11 (by decide) hL0 rfl (congrArg (fun z => some (Value.int z)) (show S_2 188 16 = nI a from by rw [eS_2]; exact q2_s _ _ _ _)) dX11_takeClause_29 ?_
            refine q_callVI (n := 2) (o := 188) (As := [.int 1, .int (nI a)]) (rest := []) C hM hA (c_X11_fails E ad l S_2 A b 1 (nI a)) (qmem_11 E ad S_2 A b (show qk 188 = 11 from by decide +kernel)) (by decide) rfl gX11_takeClause_X11_fails rfl rfl rfl (by decide +kernel) ⟨Nat.le_of_ble_eq_true rfl, Nat.le_of_ble_eq_true rfl⟩ rfl hl.1 rfl (Nat.le_of_ble_eq_true rfl) ⟨Nat.zero_le _, Nat.zero_le _⟩ dX11_takeClause_32 (fun r_63 S_64 A_65 b_66 H locs qr_63 hM => ?_)
            obtain ⟨⟨e2, e3⟩, er_63, eS_64⟩ := qr_63
            subst e2; subst e3
            subst er_63
            exact q_iret C hM dX11_takeClause_35 (by exact ⟨rfl, (fun i j hij => by rw [eS_64, q2_ne _ _ (by omega), eS_2, q2_ne _ _ (by omega)]), (fun _ _ => rfl), Or.inl ⟨1, a, (by unfold qcl; rw [show qbody qstM (A 194) n a nC nP nK nW P = _ from mq_early c_23 hl119]; rfl), by omega, rfl, (show S_64 188 15 = nI a from by rw [eS_64]; exact q2_s _ _ _ _)⟩⟩)
    by_cases hl112 : A 194 a = 112
    · skip
      rw [show mwc (A 194 a) = 2 from by rw [hl112]; decide] at er_5
      subst er_5
      refine lv_istore_n (lv' := [(1, .int 2), (0, .ref (ad 188))]) hx hb dX11_takeClause_8 rfl hl (by decide) rfl (fun ls hl => ?_)
      refine lv_iload_n hx hb dX11_takeClause_9 rfl (lv_at hl 0 rfl) ?_
      refine lv_if_lt (tgt := 26) hx hb dX11_takeClause_10 (by decide) (fun c_10 => ?_) (fun c_10 => ?_)
      · skip
        have c_10 : 2 < 0 := (nI_ltI (a := 2) (b := 0) (by omega) (by omega)).mp c_10
        omega
      · skip
        have c_10 : ¬ (2 < 0) := fun z => c_10 ((nI_ltI (a := 2) (b := 0) (by omega) (by omega)).mpr z)
        refine lv_iload_n hx hb dX11_takeClause_13 rfl (lv_at hl 0 rfl) ?_
        refine lv_if_le (tgt := 36) hx hb dX11_takeClause_14 (by decide) (fun c_14 => ?_) (fun c_14 => ?_)
        · skip
          have c_14 : 2 ≤ 0 := (nI_leI (a := 2) (b := 0) (by omega) (by omega)).mp c_14
          omega
        · skip
          have c_14 : ¬ (2 ≤ 0) := fun z => c_14 ((nI_leI (a := 2) (b := 0) (by omega) (by omega)).mpr z)
          refine lv_aload_n hx hb dX11_takeClause_17 rfl (lv_at hl 1 rfl) ?_
          refine q_get (o := 188) (ci := 11) (k := 19) (T := TX11) (v := .ref (ad 195)) C hM (qmem_11 E ad S_2 A b (show qk 188 = 11 from by decide +kernel)) (by decide) rfl hi11 (by decide) hL1 rfl rfl dX11_takeClause_18 ?_
          refine lv_iconst (v := 0) hx hb dX11_takeClause_21 (by decide) ?_
          refine q_iald (v := A 195 0) C hM (show qk 195 = 12 from by decide +kernel) (by rw [(show ql 195 = 3 from by decide +kernel)]; exact (vp_nI (by decide) (by decide) : vp_in (nI 0) 3)) (by rw [show Int32.toNatClampNeg 0 = 0 from by decide]) dX11_takeClause_22 ?_
          refine lv_as (y := nI nC) hRl ?_
          refine lv_if_ne (tgt := 36) hx hb dX11_takeClause_23 (by decide) (fun c_23 => ?_) (fun c_23 => ?_)
          · skip
            have c_23 : ¬ (nC = 0) := fun z => c_23 ((nI_eq (a := nC) (b := 0) (by omega) (by omega)).mpr z)
            refine lv_aload_n hx hb dX11_takeClause_36 rfl (lv_at hl 1 rfl) ?_
            refine lv_iload_n hx hb dX11_takeClause_37 rfl (lv_at hl 0 rfl) ?_
            refine q_callVI (n := 1) (o := 188) (As := [.int 2]) (rest := []) C hM hA (c_X11_isFull E ad l S_2 A b nC nP nK nW P (mPr_S (fun j h1 h2 => by rw [eS_2, q2_k _ _ (by omega)]) hP) 2 (by decide)) (qmem_11 E ad S_2 A b (show qk 188 = 11 from by decide +kernel)) (by decide) rfl gX11_takeClause_X11_isFull rfl rfl rfl (by decide +kernel) ⟨Nat.le_of_ble_eq_true rfl, Nat.le_of_ble_eq_true rfl⟩ rfl hl.1 rfl (Nat.le_of_ble_eq_true rfl) ⟨Nat.zero_le _, Nat.zero_le _⟩ dX11_takeClause_38 (fun r_67 S_68 A_69 b_70 H locs qr_67 hM => ?_)
            obtain ⟨⟨e1, e2, e3⟩, er_67⟩ := qr_67
            subst e1; subst e2; subst e3
            rcases q01_cases (mfl nC nP nK nW 2 = true) with ⟨hzr_67, hir_67⟩ | ⟨hzr_67, hir_67⟩
            · skip
              rw [hzr_67] at er_67
              subst er_67
              have hfull : nP = 6 := by simpa [mfl] using hir_67
              refine lv_if_eq (tgt := 54) hx hb dX11_takeClause_41 (by decide) (fun c_41 => ?_) (fun c_41 => ?_)
              · skip
                have c_41 : 1 = 0 := (nI_eq (a := 1) (b := 0) (by omega) (by omega)).mp c_41
                exact absurd c_41 (by decide)
              · skip
                have c_41 : ¬ (1 = 0) := fun z => c_41 ((nI_eq (a := 1) (b := 0) (by omega) (by omega)).mpr z)
                refine lv_aload_n hx hb dX11_takeClause_44 rfl (lv_at hl 1 rfl) ?_
                refine lv_iconst (v := 3) hx hb dX11_takeClause_45 (by decide) ?_
                refine lv_aload_n hx hb dX11_takeClause_46 rfl (lv_at hl 1 rfl) ?_
                refine q_get (o := 188) (ci := 11) (k := 16) (T := TX11) (v := .int (nI a)) C hM (qmem_11 E ad S_2 A b (show qk 188 = 11 from by decide +kernel)) (by decide) rfl hi11 (by decide) hL0 rfl (congrArg (fun z => some (Value.int z)) (show S_2 188 16 = nI a from by rw [eS_2]; exact q2_s _ _ _ _)) dX11_takeClause_47 ?_
                refine q_callVI (n := 2) (o := 188) (As := [.int 3, .int (nI a)]) (rest := []) C hM hA (c_X11_fails E ad l S_2 A b 3 (nI a)) (qmem_11 E ad S_2 A b (show qk 188 = 11 from by decide +kernel)) (by decide) rfl gX11_takeClause_X11_fails rfl rfl rfl (by decide +kernel) ⟨Nat.le_of_ble_eq_true rfl, Nat.le_of_ble_eq_true rfl⟩ rfl hl.1 rfl (Nat.le_of_ble_eq_true rfl) ⟨Nat.zero_le _, Nat.zero_le _⟩ dX11_takeClause_50 (fun r_71 S_72 A_73 b_74 H locs qr_71 hM => ?_)
                obtain ⟨⟨e2, e3⟩, er_71, eS_72⟩ := qr_71
                subst e2; subst e3
                subst er_71
                exact q_iret C hM dX11_takeClause_53 (by have hC1 : ¬ nC = 0 := c_23; exact ⟨rfl, (fun i j hij => by rw [eS_72, q2_ne _ _ (by omega), eS_2, q2_ne _ _ (by omega)]), (fun _ _ => rfl), Or.inl ⟨3, a, (by unfold qcl; rw [show qbody qstM (A 194) n a nC nP nK nW P = _ from (mq_p hl112 hC1).trans (if_neg (by omega))]; rfl), by omega, rfl, (show S_72 188 15 = nI a from by rw [eS_72]; exact q2_s _ _ _ _)⟩⟩)
            · skip
              rw [hzr_67] at er_67
              subst er_67
              have hfull : ¬ (nP = 6) := by simpa [mfl] using hir_67
              refine lv_if_eq (tgt := 54) hx hb dX11_takeClause_41 (by decide) (fun c_41 => ?_) (fun c_41 => ?_)
              · skip
                have c_41 : 0 = 0 := (nI_eq (a := 0) (b := 0) (by omega) (by omega)).mp c_41
                refine lv_aload_n hx hb dX11_takeClause_54 rfl (lv_at hl 1 rfl) ?_
                refine lv_dup hx hb dX11_takeClause_55 rfl ?_
                refine q_get (o := 188) (ci := 11) (k := 16) (T := TX11) (v := .int (nI a)) C hM (qmem_11 E ad S_2 A b (show qk 188 = 11 from by decide +kernel)) (by decide) rfl hi11 (by decide) hL0 rfl (congrArg (fun z => some (Value.int z)) (show S_2 188 16 = nI a from by rw [eS_2]; exact q2_s _ _ _ _)) dX11_takeClause_56 ?_
                refine lv_iconst (v := 1) hx hb dX11_takeClause_59 (by decide) ?_
                refine lv_iadd hx hb dX11_takeClause_60 ?_
                refine lv_as (y := nI (a + 1)) (nI_add _ _) ?_
                refine q_put (o := 188) (ci := 11) (k := 16) (T := TX11) (ty := .int) (v := nI (a + 1)) C hM (qmem_11 E ad S_2 A b (show qk 188 = 11 from by decide +kernel)) (by decide) rfl hi11 tyX11 tyX11_ok nmX11 (by decide) hL0 rfl rfl (by decide +kernel) rfl rfl (Nat.le_of_ble_eq_true rfl) (qs_11_16 E ad S_2 A b (show qk 188 = 11 from by decide +kernel) (nI (a + 1))) dX11_takeClause_61 (fun H locs hM => ?_)
                obtain ⟨S_75, eS_75⟩ : ∃ zz, zz = q2 S_2 188 16 (nI (a + 1)) := ⟨_, rfl⟩
                rw [← eS_75] at hM
                refine lv_aload_n hx hb dX11_takeClause_64 rfl (lv_at hl 1 rfl) ?_
                refine lv_iload_n hx hb dX11_takeClause_65 rfl (lv_at hl 0 rfl) ?_
                refine q_callVI (n := 1) (o := 188) (As := [.int 2]) (rest := []) C hM hA (c_X11_takeBody E ad l S_75 A b n a ((show S_75 188 14 = S 188 14 from by rw [eS_75, q2_k _ _ (by omega)]; rw [eS_2, q2_k _ _ (by omega)]).trans hln) (by omega) (show S_75 188 16 = nI (a + 1) from by rw [eS_75]; exact q2_s _ _ _ _) (by omega) nC nP nK nW P (mPr_S (fun j h1 h2 => by rw [eS_75, q2_k _ _ (by omega), eS_2, q2_k _ _ (by omega)]) hP) 2 (by omega) (by omega) (by omega) (by omega) (by omega) (by omega)) (qmem_11 E ad S_75 A b (show qk 188 = 11 from by decide +kernel)) (by decide) rfl gX11_takeClause_X11_takeBody rfl rfl rfl (by decide +kernel) ⟨Nat.le_of_ble_eq_true rfl, Nat.le_of_ble_eq_true rfl⟩ rfl hl.1 rfl (Nat.le_of_ble_eq_true rfl) ⟨Nat.zero_le _, Nat.zero_le _⟩ dX11_takeClause_66 (fun r_76 S_77 A_78 b_79 H locs qr_76 hM => ?_)
                obtain ⟨e3, hgS_77, hfAA_78, hD⟩ := qr_76
                subst e3
                rcases hD with ⟨kdb, plb, hnb2, hkb, er_76, h15b⟩ | ⟨enb, Pb, hnb2, henb, er_76, h16b, h15b, hPb2⟩
                · skip
                  subst er_76
                  refine lv_istore_n (lv' := [(2, .int (nI kdb)), (1, .int 2), (0, .ref (ad 188))]) hx hb dX11_takeClause_69 rfl hl (by decide) rfl (fun ls hl => ?_)
                  refine lv_iload_n hx hb dX11_takeClause_70 rfl (lv_at hl 0 rfl) ?_
                  refine lv_if_ne (tgt := 93) hx hb dX11_takeClause_71 (by decide) (fun c_71 => ?_) (fun c_71 => ?_)
                  · skip
                    have c_71 : ¬ (kdb = 0) := fun z => c_71 ((nI_eq (a := kdb) (b := 0) (by omega) (by omega)).mpr z)
                    refine lv_aload_n hx hb dX11_takeClause_93 rfl (lv_at hl 2 rfl) ?_
                    refine lv_dup hx hb dX11_takeClause_94 rfl ?_
                    refine q_get (o := 188) (ci := 11) (k := 16) (T := TX11) (v := .int (S_77 188 16)) C hM (qmem_11 E ad S_77 A_78 b (show qk 188 = 11 from by decide +kernel)) (by decide) rfl hi11 (by decide) hL0 rfl rfl dX11_takeClause_95 ?_
                    refine lv_iconst (v := 1) hx hb dX11_takeClause_98 (by decide) ?_
                    refine lv_iadd hx hb dX11_takeClause_99 ?_
                    refine lv_topi (fun v_80 ev_80 => ?_)
                    refine q_put (o := 188) (ci := 11) (k := 16) (T := TX11) (ty := .int) (v := v_80) C hM (qmem_11 E ad S_77 A_78 b (show qk 188 = 11 from by decide +kernel)) (by decide) rfl hi11 tyX11 tyX11_ok nmX11 (by decide) hL0 rfl rfl (by decide +kernel) rfl rfl (Nat.le_of_ble_eq_true rfl) (qs_11_16 E ad S_77 A_78 b (show qk 188 = 11 from by decide +kernel) v_80) dX11_takeClause_100 (fun H locs hM => ?_)
                    obtain ⟨S_81, eS_81⟩ : ∃ zz, zz = q2 S_77 188 16 v_80 := ⟨_, rfl⟩
                    rw [← eS_81] at hM
                    refine lv_iload_n hx hb dX11_takeClause_103 rfl (lv_at hl 0 rfl) ?_
                    exact q_iret C hM dX11_takeClause_104 (by have hC1 : ¬ nC = 0 := c_23; have hbd : qbody qstM (A 194) n a nC nP nK nW P = mbody (A 194) n a nC nP nK nW P 2 := (mq_p hl112 hC1).trans (if_pos (by omega)); exact ⟨rfl, (fun i j hij => by rw [eS_81, q2_ne _ _ (by omega), hgS_77 i j hij, eS_75, q2_ne _ _ (by omega), eS_2, q2_ne _ _ (by omega)]), hfAA_78, Or.inl ⟨kdb, plb, (by unfold qcl; rw [hbd, hnb2]; rfl), by omega, rfl, (show S_81 188 15 = nI plb from by rw [eS_81, q2_k _ _ (by omega)]; exact h15b)⟩⟩)
                  · skip
                    have c_71 : kdb = 0 := (nI_eq (a := kdb) (b := 0) (by omega) (by omega)).mp c_71
                    omega
                · skip
                  subst er_76
                  refine lv_istore_n (lv' := [(2, .int 0), (1, .int 2), (0, .ref (ad 188))]) hx hb dX11_takeClause_69 rfl hl (by decide) rfl (fun ls hl => ?_)
                  refine lv_iload_n hx hb dX11_takeClause_70 rfl (lv_at hl 0 rfl) ?_
                  refine lv_if_ne (tgt := 93) hx hb dX11_takeClause_71 (by decide) (fun c_71 => ?_) (fun c_71 => ?_)
                  · skip
                    have c_71 : ¬ (0 = 0) := fun z => c_71 ((nI_eq (a := 0) (b := 0) (by omega) (by omega)).mpr z)
                    exact absurd rfl c_71
                  · skip
                    have c_71 : 0 = 0 := (nI_eq (a := 0) (b := 0) (by omega) (by omega)).mp c_71
                    refine lv_aload_n hx hb dX11_takeClause_74 rfl (lv_at hl 2 rfl) ?_
                    refine q_callVI (n := 0) (o := 188) (As := []) (rest := []) C hM hA (c_X11_here E ad l S_77 A_78 b n enb ((show S_77 188 14 = S 188 14 from by rw [hgS_77 188 14 (by omega)]; rw [eS_75, q2_k _ _ (by omega)]; rw [eS_2, q2_k _ _ (by omega)]).trans hln) (by omega) (show S_77 188 16 = nI enb from by exact h16b) (by omega)) (qmem_11 E ad S_77 A_78 b (show qk 188 = 11 from by decide +kernel)) (by decide) rfl gX11_takeClause_X11_here rfl rfl rfl (by decide +kernel) ⟨Nat.le_of_ble_eq_true rfl, Nat.le_of_ble_eq_true rfl⟩ rfl hl.1 rfl (Nat.le_of_ble_eq_true rfl) ⟨Nat.zero_le _, Nat.zero_le _⟩ dX11_takeClause_75 (fun r_82 S_83 A_84 b_85 H locs qr_82 hM => ?_)
                    rw [show A_78 194 = A 194 from by rw [hfAA_78 194 (by omega)]] at qr_82
                    obtain ⟨sk_86, esk_86⟩ : ∃ zz, zz = qsk (A 194) n enb := ⟨_, rfl⟩
                    have lsk_86 := qsk_le (A 194) n enb
                    rw [← esk_86] at lsk_86 qr_82
                    obtain ⟨⟨e2, e3⟩, eS_83, er_82⟩ := qr_82
                    subst e2; subst e3
                    by_cases hltsk_86 : sk_86 < n
                    · skip
                      rw [if_pos hltsk_86] at er_82
                      subst er_82
                      refine lv_bipush (v := 59) hx hb dX11_takeClause_78 (by decide) ?_
                      refine lv_icmp_eq (tgt := 93) hx hb dX11_takeClause_80 (by decide) (fun c_80 => ?_) (fun c_80 => ?_)
                      · skip
                        refine lv_aload_n hx hb dX11_takeClause_93 rfl (lv_at hl 2 rfl) ?_
                        refine lv_dup hx hb dX11_takeClause_94 rfl ?_
                        refine q_get (o := 188) (ci := 11) (k := 16) (T := TX11) (v := .int (nI sk_86)) C hM (qmem_11 E ad S_83 A_78 b (show qk 188 = 11 from by decide +kernel)) (by decide) rfl hi11 (by decide) hL0 rfl (congrArg (fun z => some (Value.int z)) (show S_83 188 16 = nI sk_86 from by rw [eS_83]; exact q2_s _ _ _ _)) dX11_takeClause_95 ?_
                        refine lv_iconst (v := 1) hx hb dX11_takeClause_98 (by decide) ?_
                        refine lv_iadd hx hb dX11_takeClause_99 ?_
                        refine lv_as (y := nI (sk_86 + 1)) (nI_add _ _) ?_
                        refine q_put (o := 188) (ci := 11) (k := 16) (T := TX11) (ty := .int) (v := nI (sk_86 + 1)) C hM (qmem_11 E ad S_83 A_78 b (show qk 188 = 11 from by decide +kernel)) (by decide) rfl hi11 tyX11 tyX11_ok nmX11 (by decide) hL0 rfl rfl (by decide +kernel) rfl rfl (Nat.le_of_ble_eq_true rfl) (qs_11_16 E ad S_83 A_78 b (show qk 188 = 11 from by decide +kernel) (nI (sk_86 + 1))) dX11_takeClause_100 (fun H locs hM => ?_)
                        obtain ⟨S_87, eS_87⟩ : ∃ zz, zz = q2 S_83 188 16 (nI (sk_86 + 1)) := ⟨_, rfl⟩
                        rw [← eS_87] at hM
                        refine lv_iload_n hx hb dX11_takeClause_103 rfl (lv_at hl 0 rfl) ?_
                        exact q_iret C hM dX11_takeClause_104 (by have hC1 : ¬ nC = 0 := c_23; have hbd : qbody qstM (A 194) n a nC nP nK nW P = mbody (A 194) n a nC nP nK nW P 2 := (mq_p hl112 hC1).trans (if_pos (by omega)); exact ⟨rfl, (fun i j hij => by rw [eS_87, q2_ne _ _ (by omega), eS_83, q2_ne _ _ (by omega), hgS_77 i j hij, eS_75, q2_ne _ _ (by omega), eS_2, q2_ne _ _ (by omega)]), hfAA_78, Or.inr ⟨sk_86 + 1, Pb, by unfold qcl; rw [hbd, hnb2]; show qend (A 194) n (enb, Pb) = _; simp only [qend, ← esk_86]; exact if_pos ⟨hltsk_86, c_80⟩, by omega, rfl, (show S_87 188 16 = nI (sk_86 + 1) from by rw [eS_87]; exact q2_s _ _ _ _), (show S_87 188 15 = S 188 15 from by rw [eS_87, q2_k _ _ (by omega)]; rw [eS_83, q2_k _ _ (by omega)]; rw [h15b]; rw [eS_75, q2_k _ _ (by omega)]; rw [eS_2, q2_k _ _ (by omega)]), mPX_S (fun j h1 h2 => by rw [eS_87, q2_k _ _ (by omega), eS_83, q2_k _ _ (by omega)]) hPb2⟩⟩)
                      · skip
                        refine lv_aload_n hx hb dX11_takeClause_83 rfl (lv_at hl 2 rfl) ?_
                        refine lv_iconst (v := 1) hx hb dX11_takeClause_84 (by decide) ?_
                        refine lv_aload_n hx hb dX11_takeClause_85 rfl (lv_at hl 2 rfl) ?_
                        refine q_get (o := 188) (ci := 11) (k := 16) (T := TX11) (v := .int (nI sk_86)) C hM (qmem_11 E ad S_83 A_78 b (show qk 188 = 11 from by decide +kernel)) (by decide) rfl hi11 (by decide) hL0 rfl (congrArg (fun z => some (Value.int z)) (show S_83 188 16 = nI sk_86 from by rw [eS_83]; exact q2_s _ _ _ _)) dX11_takeClause_86 ?_
                        refine q_callVI (n := 2) (o := 188) (As := [.int 1, .int (nI sk_86)]) (rest := []) C hM hA (c_X11_fails E ad l S_83 A_78 b 1 (nI sk_86)) (qmem_11 E ad S_83 A_78 b (show qk 188 = 11 from by decide +kernel)) (by decide) rfl gX11_takeClause_X11_fails rfl rfl rfl (by decide +kernel) ⟨Nat.le_of_ble_eq_true rfl, Nat.le_of_ble_eq_true rfl⟩ rfl hl.1 rfl (Nat.le_of_ble_eq_true rfl) ⟨Nat.zero_le _, Nat.zero_le _⟩ dX11_takeClause_89 (fun r_88 S_89 A_90 b_91 H locs qr_88 hM => ?_)
                        obtain ⟨⟨e2, e3⟩, er_88, eS_89⟩ := qr_88
                        subst e2; subst e3
                        subst er_88
                        exact q_iret C hM dX11_takeClause_92 (by have hC1 : ¬ nC = 0 := c_23; have hbd : qbody qstM (A 194) n a nC nP nK nW P = mbody (A 194) n a nC nP nK nW P 2 := (mq_p hl112 hC1).trans (if_pos (by omega)); exact ⟨rfl, (fun i j hij => by rw [eS_89, q2_ne _ _ (by omega), eS_83, q2_ne _ _ (by omega), hgS_77 i j hij, eS_75, q2_ne _ _ (by omega), eS_2, q2_ne _ _ (by omega)]), hfAA_78, Or.inl ⟨1, sk_86, (by unfold qcl; rw [hbd, hnb2]; show qend (A 194) n (enb, Pb) = _; simp only [qend, ← esk_86]; exact if_neg (fun z => c_80 z.2)), by omega, rfl, (show S_89 188 15 = nI sk_86 from by rw [eS_89]; exact q2_s _ _ _ _)⟩⟩)
                    · skip
                      rw [if_neg hltsk_86] at er_82
                      subst er_82
                      refine lv_bipush (v := 59) hx hb dX11_takeClause_78 (by decide) ?_
                      refine lv_icmp_eq (tgt := 93) hx hb dX11_takeClause_80 (by decide) (fun c_80 => ?_) (fun c_80 => ?_)
                      · skip
                        exact absurd c_80 (by decide)
                      · skip
                        refine lv_aload_n hx hb dX11_takeClause_83 rfl (lv_at hl 2 rfl) ?_
                        refine lv_iconst (v := 1) hx hb dX11_takeClause_84 (by decide) ?_
                        refine lv_aload_n hx hb dX11_takeClause_85 rfl (lv_at hl 2 rfl) ?_
                        refine q_get (o := 188) (ci := 11) (k := 16) (T := TX11) (v := .int (nI sk_86)) C hM (qmem_11 E ad S_83 A_78 b (show qk 188 = 11 from by decide +kernel)) (by decide) rfl hi11 (by decide) hL0 rfl (congrArg (fun z => some (Value.int z)) (show S_83 188 16 = nI sk_86 from by rw [eS_83]; exact q2_s _ _ _ _)) dX11_takeClause_86 ?_
                        refine q_callVI (n := 2) (o := 188) (As := [.int 1, .int (nI sk_86)]) (rest := []) C hM hA (c_X11_fails E ad l S_83 A_78 b 1 (nI sk_86)) (qmem_11 E ad S_83 A_78 b (show qk 188 = 11 from by decide +kernel)) (by decide) rfl gX11_takeClause_X11_fails rfl rfl rfl (by decide +kernel) ⟨Nat.le_of_ble_eq_true rfl, Nat.le_of_ble_eq_true rfl⟩ rfl hl.1 rfl (Nat.le_of_ble_eq_true rfl) ⟨Nat.zero_le _, Nat.zero_le _⟩ dX11_takeClause_89 (fun r_92 S_93 A_94 b_95 H locs qr_92 hM => ?_)
                        obtain ⟨⟨e2, e3⟩, er_92, eS_93⟩ := qr_92
                        subst e2; subst e3
                        subst er_92
                        exact q_iret C hM dX11_takeClause_92 (by have hC1 : ¬ nC = 0 := c_23; have hbd : qbody qstM (A 194) n a nC nP nK nW P = mbody (A 194) n a nC nP nK nW P 2 := (mq_p hl112 hC1).trans (if_pos (by omega)); exact ⟨rfl, (fun i j hij => by rw [eS_93, q2_ne _ _ (by omega), eS_83, q2_ne _ _ (by omega), hgS_77 i j hij, eS_75, q2_ne _ _ (by omega), eS_2, q2_ne _ _ (by omega)]), hfAA_78, Or.inl ⟨1, sk_86, (by unfold qcl; rw [hbd, hnb2]; show qend (A 194) n (enb, Pb) = _; simp only [qend, ← esk_86]; exact if_neg (fun z => hltsk_86 z.1)), by omega, rfl, (show S_93 188 15 = nI sk_86 from by rw [eS_93]; exact q2_s _ _ _ _)⟩⟩)
              · skip
                have c_41 : ¬ (0 = 0) := fun z => c_41 ((nI_eq (a := 0) (b := 0) (by omega) (by omega)).mpr z)
                exact absurd rfl c_41
          · skip
            have c_23 : nC = 0 := (nI_eq (a := nC) (b := 0) (by omega) (by omega)).mp c_23
            refine lv_aload_n hx hb dX11_takeClause_26 rfl (lv_at hl 1 rfl) ?_
            refine lv_iconst (v := 1) hx hb dX11_takeClause_27 (by decide) ?_
            refine lv_aload_n hx hb dX11_takeClause_28 rfl (lv_at hl 1 rfl) ?_
            refine q_get (o := 188) (ci := 11) (k := 16) (T := TX11) (v := .int (nI a)) C hM (qmem_11 E ad S_2 A b (show qk 188 = 11 from by decide +kernel)) (by decide) rfl hi11 (by decide) hL0 rfl (congrArg (fun z => some (Value.int z)) (show S_2 188 16 = nI a from by rw [eS_2]; exact q2_s _ _ _ _)) dX11_takeClause_29 ?_
            refine q_callVI (n := 2) (o := 188) (As := [.int 1, .int (nI a)]) (rest := []) C hM hA (c_X11_fails E ad l S_2 A b 1 (nI a)) (qmem_11 E ad S_2 A b (show qk 188 = 11 from by decide +kernel)) (by decide) rfl gX11_takeClause_X11_fails rfl rfl rfl (by decide +kernel) ⟨Nat.le_of_ble_eq_true rfl, Nat.le_of_ble_eq_true rfl⟩ rfl hl.1 rfl (Nat.le_of_ble_eq_true rfl) ⟨Nat.zero_le _, Nat.zero_le _⟩ dX11_takeClause_32 (fun r_96 S_97 A_98 b_99 H locs qr_96 hM => ?_)
            obtain ⟨⟨e2, e3⟩, er_96, eS_97⟩ := qr_96
            subst e2; subst e3
            subst er_96
            exact q_iret C hM dX11_takeClause_35 (by exact ⟨rfl, (fun i j hij => by rw [eS_97, q2_ne _ _ (by omega), eS_2, q2_ne _ _ (by omega)]), (fun _ _ => rfl), Or.inl ⟨1, a, (by unfold qcl; rw [show qbody qstM (A 194) n a nC nP nK nW P = _ from mq_early c_23 hl119]; rfl), by omega, rfl, (show S_97 188 15 = nI a from by rw [eS_97]; exact q2_s _ _ _ _)⟩⟩)
    by_cases hl99 : A 194 a = 99
    · skip
      rw [show mwc (A 194 a) = 3 from by rw [hl99]; decide] at er_5
      subst er_5
      refine lv_istore_n (lv' := [(1, .int 3), (0, .ref (ad 188))]) hx hb dX11_takeClause_8 rfl hl (by decide) rfl (fun ls hl => ?_)
      refine lv_iload_n hx hb dX11_takeClause_9 rfl (lv_at hl 0 rfl) ?_
      refine lv_if_lt (tgt := 26) hx hb dX11_takeClause_10 (by decide) (fun c_10 => ?_) (fun c_10 => ?_)
      · skip
        have c_10 : 3 < 0 := (nI_ltI (a := 3) (b := 0) (by omega) (by omega)).mp c_10
        omega
      · skip
        have c_10 : ¬ (3 < 0) := fun z => c_10 ((nI_ltI (a := 3) (b := 0) (by omega) (by omega)).mpr z)
        refine lv_iload_n hx hb dX11_takeClause_13 rfl (lv_at hl 0 rfl) ?_
        refine lv_if_le (tgt := 36) hx hb dX11_takeClause_14 (by decide) (fun c_14 => ?_) (fun c_14 => ?_)
        · skip
          have c_14 : 3 ≤ 0 := (nI_leI (a := 3) (b := 0) (by omega) (by omega)).mp c_14
          omega
        · skip
          have c_14 : ¬ (3 ≤ 0) := fun z => c_14 ((nI_leI (a := 3) (b := 0) (by omega) (by omega)).mpr z)
          refine lv_aload_n hx hb dX11_takeClause_17 rfl (lv_at hl 1 rfl) ?_
          refine q_get (o := 188) (ci := 11) (k := 19) (T := TX11) (v := .ref (ad 195)) C hM (qmem_11 E ad S_2 A b (show qk 188 = 11 from by decide +kernel)) (by decide) rfl hi11 (by decide) hL1 rfl rfl dX11_takeClause_18 ?_
          refine lv_iconst (v := 0) hx hb dX11_takeClause_21 (by decide) ?_
          refine q_iald (v := A 195 0) C hM (show qk 195 = 12 from by decide +kernel) (by rw [(show ql 195 = 3 from by decide +kernel)]; exact (vp_nI (by decide) (by decide) : vp_in (nI 0) 3)) (by rw [show Int32.toNatClampNeg 0 = 0 from by decide]) dX11_takeClause_22 ?_
          refine lv_as (y := nI nC) hRl ?_
          refine lv_if_ne (tgt := 36) hx hb dX11_takeClause_23 (by decide) (fun c_23 => ?_) (fun c_23 => ?_)
          · skip
            have c_23 : ¬ (nC = 0) := fun z => c_23 ((nI_eq (a := nC) (b := 0) (by omega) (by omega)).mpr z)
            refine lv_aload_n hx hb dX11_takeClause_36 rfl (lv_at hl 1 rfl) ?_
            refine lv_iload_n hx hb dX11_takeClause_37 rfl (lv_at hl 0 rfl) ?_
            refine q_callVI (n := 1) (o := 188) (As := [.int 3]) (rest := []) C hM hA (c_X11_isFull E ad l S_2 A b nC nP nK nW P (mPr_S (fun j h1 h2 => by rw [eS_2, q2_k _ _ (by omega)]) hP) 3 (by decide)) (qmem_11 E ad S_2 A b (show qk 188 = 11 from by decide +kernel)) (by decide) rfl gX11_takeClause_X11_isFull rfl rfl rfl (by decide +kernel) ⟨Nat.le_of_ble_eq_true rfl, Nat.le_of_ble_eq_true rfl⟩ rfl hl.1 rfl (Nat.le_of_ble_eq_true rfl) ⟨Nat.zero_le _, Nat.zero_le _⟩ dX11_takeClause_38 (fun r_100 S_101 A_102 b_103 H locs qr_100 hM => ?_)
            obtain ⟨⟨e1, e2, e3⟩, er_100⟩ := qr_100
            subst e1; subst e2; subst e3
            rcases q01_cases (mfl nC nP nK nW 3 = true) with ⟨hzr_100, hir_100⟩ | ⟨hzr_100, hir_100⟩
            · skip
              rw [hzr_100] at er_100
              subst er_100
              have hfull : nK = 5 := by simpa [mfl] using hir_100
              refine lv_if_eq (tgt := 54) hx hb dX11_takeClause_41 (by decide) (fun c_41 => ?_) (fun c_41 => ?_)
              · skip
                have c_41 : 1 = 0 := (nI_eq (a := 1) (b := 0) (by omega) (by omega)).mp c_41
                exact absurd c_41 (by decide)
              · skip
                have c_41 : ¬ (1 = 0) := fun z => c_41 ((nI_eq (a := 1) (b := 0) (by omega) (by omega)).mpr z)
                refine lv_aload_n hx hb dX11_takeClause_44 rfl (lv_at hl 1 rfl) ?_
                refine lv_iconst (v := 3) hx hb dX11_takeClause_45 (by decide) ?_
                refine lv_aload_n hx hb dX11_takeClause_46 rfl (lv_at hl 1 rfl) ?_
                refine q_get (o := 188) (ci := 11) (k := 16) (T := TX11) (v := .int (nI a)) C hM (qmem_11 E ad S_2 A b (show qk 188 = 11 from by decide +kernel)) (by decide) rfl hi11 (by decide) hL0 rfl (congrArg (fun z => some (Value.int z)) (show S_2 188 16 = nI a from by rw [eS_2]; exact q2_s _ _ _ _)) dX11_takeClause_47 ?_
                refine q_callVI (n := 2) (o := 188) (As := [.int 3, .int (nI a)]) (rest := []) C hM hA (c_X11_fails E ad l S_2 A b 3 (nI a)) (qmem_11 E ad S_2 A b (show qk 188 = 11 from by decide +kernel)) (by decide) rfl gX11_takeClause_X11_fails rfl rfl rfl (by decide +kernel) ⟨Nat.le_of_ble_eq_true rfl, Nat.le_of_ble_eq_true rfl⟩ rfl hl.1 rfl (Nat.le_of_ble_eq_true rfl) ⟨Nat.zero_le _, Nat.zero_le _⟩ dX11_takeClause_50 (fun r_104 S_105 A_106 b_107 H locs qr_104 hM => ?_)
                obtain ⟨⟨e2, e3⟩, er_104, eS_105⟩ := qr_104
                subst e2; subst e3
                subst er_104
                exact q_iret C hM dX11_takeClause_53 (by have hC1 : ¬ nC = 0 := c_23; exact ⟨rfl, (fun i j hij => by rw [eS_105, q2_ne _ _ (by omega), eS_2, q2_ne _ _ (by omega)]), (fun _ _ => rfl), Or.inl ⟨3, a, (by unfold qcl; rw [show qbody qstM (A 194) n a nC nP nK nW P = _ from (mq_c hl99 hC1).trans (if_neg (by omega))]; rfl), by omega, rfl, (show S_105 188 15 = nI a from by rw [eS_105]; exact q2_s _ _ _ _)⟩⟩)
            · skip
              rw [hzr_100] at er_100
              subst er_100
              have hfull : ¬ (nK = 5) := by simpa [mfl] using hir_100
              refine lv_if_eq (tgt := 54) hx hb dX11_takeClause_41 (by decide) (fun c_41 => ?_) (fun c_41 => ?_)
              · skip
                have c_41 : 0 = 0 := (nI_eq (a := 0) (b := 0) (by omega) (by omega)).mp c_41
                refine lv_aload_n hx hb dX11_takeClause_54 rfl (lv_at hl 1 rfl) ?_
                refine lv_dup hx hb dX11_takeClause_55 rfl ?_
                refine q_get (o := 188) (ci := 11) (k := 16) (T := TX11) (v := .int (nI a)) C hM (qmem_11 E ad S_2 A b (show qk 188 = 11 from by decide +kernel)) (by decide) rfl hi11 (by decide) hL0 rfl (congrArg (fun z => some (Value.int z)) (show S_2 188 16 = nI a from by rw [eS_2]; exact q2_s _ _ _ _)) dX11_takeClause_56 ?_
                refine lv_iconst (v := 1) hx hb dX11_takeClause_59 (by decide) ?_
                refine lv_iadd hx hb dX11_takeClause_60 ?_
                refine lv_as (y := nI (a + 1)) (nI_add _ _) ?_
                refine q_put (o := 188) (ci := 11) (k := 16) (T := TX11) (ty := .int) (v := nI (a + 1)) C hM (qmem_11 E ad S_2 A b (show qk 188 = 11 from by decide +kernel)) (by decide) rfl hi11 tyX11 tyX11_ok nmX11 (by decide) hL0 rfl rfl (by decide +kernel) rfl rfl (Nat.le_of_ble_eq_true rfl) (qs_11_16 E ad S_2 A b (show qk 188 = 11 from by decide +kernel) (nI (a + 1))) dX11_takeClause_61 (fun H locs hM => ?_)
                obtain ⟨S_108, eS_108⟩ : ∃ zz, zz = q2 S_2 188 16 (nI (a + 1)) := ⟨_, rfl⟩
                rw [← eS_108] at hM
                refine lv_aload_n hx hb dX11_takeClause_64 rfl (lv_at hl 1 rfl) ?_
                refine lv_iload_n hx hb dX11_takeClause_65 rfl (lv_at hl 0 rfl) ?_
                refine q_callVI (n := 1) (o := 188) (As := [.int 3]) (rest := []) C hM hA (c_X11_takeBody E ad l S_108 A b n a ((show S_108 188 14 = S 188 14 from by rw [eS_108, q2_k _ _ (by omega)]; rw [eS_2, q2_k _ _ (by omega)]).trans hln) (by omega) (show S_108 188 16 = nI (a + 1) from by rw [eS_108]; exact q2_s _ _ _ _) (by omega) nC nP nK nW P (mPr_S (fun j h1 h2 => by rw [eS_108, q2_k _ _ (by omega), eS_2, q2_k _ _ (by omega)]) hP) 3 (by omega) (by omega) (by omega) (by omega) (by omega) (by omega)) (qmem_11 E ad S_108 A b (show qk 188 = 11 from by decide +kernel)) (by decide) rfl gX11_takeClause_X11_takeBody rfl rfl rfl (by decide +kernel) ⟨Nat.le_of_ble_eq_true rfl, Nat.le_of_ble_eq_true rfl⟩ rfl hl.1 rfl (Nat.le_of_ble_eq_true rfl) ⟨Nat.zero_le _, Nat.zero_le _⟩ dX11_takeClause_66 (fun r_109 S_110 A_111 b_112 H locs qr_109 hM => ?_)
                obtain ⟨e3, hgS_110, hfAA_111, hD⟩ := qr_109
                subst e3
                rcases hD with ⟨kdb, plb, hnb2, hkb, er_109, h15b⟩ | ⟨enb, Pb, hnb2, henb, er_109, h16b, h15b, hPb2⟩
                · skip
                  subst er_109
                  refine lv_istore_n (lv' := [(2, .int (nI kdb)), (1, .int 3), (0, .ref (ad 188))]) hx hb dX11_takeClause_69 rfl hl (by decide) rfl (fun ls hl => ?_)
                  refine lv_iload_n hx hb dX11_takeClause_70 rfl (lv_at hl 0 rfl) ?_
                  refine lv_if_ne (tgt := 93) hx hb dX11_takeClause_71 (by decide) (fun c_71 => ?_) (fun c_71 => ?_)
                  · skip
                    have c_71 : ¬ (kdb = 0) := fun z => c_71 ((nI_eq (a := kdb) (b := 0) (by omega) (by omega)).mpr z)
                    refine lv_aload_n hx hb dX11_takeClause_93 rfl (lv_at hl 2 rfl) ?_
                    refine lv_dup hx hb dX11_takeClause_94 rfl ?_
                    refine q_get (o := 188) (ci := 11) (k := 16) (T := TX11) (v := .int (S_110 188 16)) C hM (qmem_11 E ad S_110 A_111 b (show qk 188 = 11 from by decide +kernel)) (by decide) rfl hi11 (by decide) hL0 rfl rfl dX11_takeClause_95 ?_
                    refine lv_iconst (v := 1) hx hb dX11_takeClause_98 (by decide) ?_
                    refine lv_iadd hx hb dX11_takeClause_99 ?_
                    refine lv_topi (fun v_113 ev_113 => ?_)
                    refine q_put (o := 188) (ci := 11) (k := 16) (T := TX11) (ty := .int) (v := v_113) C hM (qmem_11 E ad S_110 A_111 b (show qk 188 = 11 from by decide +kernel)) (by decide) rfl hi11 tyX11 tyX11_ok nmX11 (by decide) hL0 rfl rfl (by decide +kernel) rfl rfl (Nat.le_of_ble_eq_true rfl) (qs_11_16 E ad S_110 A_111 b (show qk 188 = 11 from by decide +kernel) v_113) dX11_takeClause_100 (fun H locs hM => ?_)
                    obtain ⟨S_114, eS_114⟩ : ∃ zz, zz = q2 S_110 188 16 v_113 := ⟨_, rfl⟩
                    rw [← eS_114] at hM
                    refine lv_iload_n hx hb dX11_takeClause_103 rfl (lv_at hl 0 rfl) ?_
                    exact q_iret C hM dX11_takeClause_104 (by have hC1 : ¬ nC = 0 := c_23; have hbd : qbody qstM (A 194) n a nC nP nK nW P = mbody (A 194) n a nC nP nK nW P 3 := (mq_c hl99 hC1).trans (if_pos (by omega)); exact ⟨rfl, (fun i j hij => by rw [eS_114, q2_ne _ _ (by omega), hgS_110 i j hij, eS_108, q2_ne _ _ (by omega), eS_2, q2_ne _ _ (by omega)]), hfAA_111, Or.inl ⟨kdb, plb, (by unfold qcl; rw [hbd, hnb2]; rfl), by omega, rfl, (show S_114 188 15 = nI plb from by rw [eS_114, q2_k _ _ (by omega)]; exact h15b)⟩⟩)
                  · skip
                    have c_71 : kdb = 0 := (nI_eq (a := kdb) (b := 0) (by omega) (by omega)).mp c_71
                    omega
                · skip
                  subst er_109
                  refine lv_istore_n (lv' := [(2, .int 0), (1, .int 3), (0, .ref (ad 188))]) hx hb dX11_takeClause_69 rfl hl (by decide) rfl (fun ls hl => ?_)
                  refine lv_iload_n hx hb dX11_takeClause_70 rfl (lv_at hl 0 rfl) ?_
                  refine lv_if_ne (tgt := 93) hx hb dX11_takeClause_71 (by decide) (fun c_71 => ?_) (fun c_71 => ?_)
                  · skip
                    have c_71 : ¬ (0 = 0) := fun z => c_71 ((nI_eq (a := 0) (b := 0) (by omega) (by omega)).mpr z)
                    exact absurd rfl c_71
                  · skip
                    have c_71 : 0 = 0 := (nI_eq (a := 0) (b := 0) (by omega) (by omega)).mp c_71
                    refine lv_aload_n hx hb dX11_takeClause_74 rfl (lv_at hl 2 rfl) ?_
                    refine q_callVI (n := 0) (o := 188) (As := []) (rest := []) C hM hA (c_X11_here E ad l S_110 A_111 b n enb ((show S_110 188 14 = S 188 14 from by rw [hgS_110 188 14 (by omega)]; rw [eS_108, q2_k _ _ (by omega)]; rw [eS_2, q2_k _ _ (by omega)]).trans hln) (by omega) (show S_110 188 16 = nI enb from by exact h16b) (by omega)) (qmem_11 E ad S_110 A_111 b (show qk 188 = 11 from by decide +kernel)) (by decide) rfl gX11_takeClause_X11_here rfl rfl rfl (by decide +kernel) ⟨Nat.le_of_ble_eq_true rfl, Nat.le_of_ble_eq_true rfl⟩ rfl hl.1 rfl (Nat.le_of_ble_eq_true rfl) ⟨Nat.zero_le _, Nat.zero_le _⟩ dX11_takeClause_75 (fun r_115 S_116 A_117 b_118 H locs qr_115 hM => ?_)
                    rw [show A_111 194 = A 194 from by rw [hfAA_111 194 (by omega)]] at qr_115
                    obtain ⟨sk_119, esk_119⟩ : ∃ zz, zz = qsk (A 194) n enb := ⟨_, rfl⟩
                    have lsk_119 := qsk_le (A 194) n enb
                    rw [← esk_119] at lsk_119 qr_115
                    obtain ⟨⟨e2, e3⟩, eS_116, er_115⟩ := qr_115
                    subst e2; subst e3
                    by_cases hltsk_119 : sk_119 < n
                    · skip
                      rw [if_pos hltsk_119] at er_115
                      subst er_115
                      refine lv_bipush (v := 59) hx hb dX11_takeClause_78 (by decide) ?_
                      refine lv_icmp_eq (tgt := 93) hx hb dX11_takeClause_80 (by decide) (fun c_80 => ?_) (fun c_80 => ?_)
                      · skip
                        refine lv_aload_n hx hb dX11_takeClause_93 rfl (lv_at hl 2 rfl) ?_
                        refine lv_dup hx hb dX11_takeClause_94 rfl ?_
                        refine q_get (o := 188) (ci := 11) (k := 16) (T := TX11) (v := .int (nI sk_119)) C hM (qmem_11 E ad S_116 A_111 b (show qk 188 = 11 from by decide +kernel)) (by decide) rfl hi11 (by decide) hL0 rfl (congrArg (fun z => some (Value.int z)) (show S_116 188 16 = nI sk_119 from by rw [eS_116]; exact q2_s _ _ _ _)) dX11_takeClause_95 ?_
                        refine lv_iconst (v := 1) hx hb dX11_takeClause_98 (by decide) ?_
                        refine lv_iadd hx hb dX11_takeClause_99 ?_
                        refine lv_as (y := nI (sk_119 + 1)) (nI_add _ _) ?_
                        refine q_put (o := 188) (ci := 11) (k := 16) (T := TX11) (ty := .int) (v := nI (sk_119 + 1)) C hM (qmem_11 E ad S_116 A_111 b (show qk 188 = 11 from by decide +kernel)) (by decide) rfl hi11 tyX11 tyX11_ok nmX11 (by decide) hL0 rfl rfl (by decide +kernel) rfl rfl (Nat.le_of_ble_eq_true rfl) (qs_11_16 E ad S_116 A_111 b (show qk 188 = 11 from by decide +kernel) (nI (sk_119 + 1))) dX11_takeClause_100 (fun H locs hM => ?_)
                        obtain ⟨S_120, eS_120⟩ : ∃ zz, zz = q2 S_116 188 16 (nI (sk_119 + 1)) := ⟨_, rfl⟩
                        rw [← eS_120] at hM
                        refine lv_iload_n hx hb dX11_takeClause_103 rfl (lv_at hl 0 rfl) ?_
                        exact q_iret C hM dX11_takeClause_104 (by have hC1 : ¬ nC = 0 := c_23; have hbd : qbody qstM (A 194) n a nC nP nK nW P = mbody (A 194) n a nC nP nK nW P 3 := (mq_c hl99 hC1).trans (if_pos (by omega)); exact ⟨rfl, (fun i j hij => by rw [eS_120, q2_ne _ _ (by omega), eS_116, q2_ne _ _ (by omega), hgS_110 i j hij, eS_108, q2_ne _ _ (by omega), eS_2, q2_ne _ _ (by omega)]), hfAA_111, Or.inr ⟨sk_119 + 1, Pb, by unfold qcl; rw [hbd, hnb2]; show qend (A 194) n (enb, Pb) = _; simp only [qend, ← esk_119]; exact if_pos ⟨hltsk_119, c_80⟩, by omega, rfl, (show S_120 188 16 = nI (sk_119 + 1) from by rw [eS_120]; exact q2_s _ _ _ _), (show S_120 188 15 = S 188 15 from by rw [eS_120, q2_k _ _ (by omega)]; rw [eS_116, q2_k _ _ (by omega)]; rw [h15b]; rw [eS_108, q2_k _ _ (by omega)]; rw [eS_2, q2_k _ _ (by omega)]), mPX_S (fun j h1 h2 => by rw [eS_120, q2_k _ _ (by omega), eS_116, q2_k _ _ (by omega)]) hPb2⟩⟩)
                      · skip
                        refine lv_aload_n hx hb dX11_takeClause_83 rfl (lv_at hl 2 rfl) ?_
                        refine lv_iconst (v := 1) hx hb dX11_takeClause_84 (by decide) ?_
                        refine lv_aload_n hx hb dX11_takeClause_85 rfl (lv_at hl 2 rfl) ?_
                        refine q_get (o := 188) (ci := 11) (k := 16) (T := TX11) (v := .int (nI sk_119)) C hM (qmem_11 E ad S_116 A_111 b (show qk 188 = 11 from by decide +kernel)) (by decide) rfl hi11 (by decide) hL0 rfl (congrArg (fun z => some (Value.int z)) (show S_116 188 16 = nI sk_119 from by rw [eS_116]; exact q2_s _ _ _ _)) dX11_takeClause_86 ?_
                        refine q_callVI (n := 2) (o := 188) (As := [.int 1, .int (nI sk_119)]) (rest := []) C hM hA (c_X11_fails E ad l S_116 A_111 b 1 (nI sk_119)) (qmem_11 E ad S_116 A_111 b (show qk 188 = 11 from by decide +kernel)) (by decide) rfl gX11_takeClause_X11_fails rfl rfl rfl (by decide +kernel) ⟨Nat.le_of_ble_eq_true rfl, Nat.le_of_ble_eq_true rfl⟩ rfl hl.1 rfl (Nat.le_of_ble_eq_true rfl) ⟨Nat.zero_le _, Nat.zero_le _⟩ dX11_takeClause_89 (fun r_121 S_122 A_123 b_124 H locs qr_121 hM => ?_)
                        obtain ⟨⟨e2, e3⟩, er_121, eS_122⟩ := qr_121
                        subst e2; subst e3
                        subst er_121
                        exact q_iret C hM dX11_takeClause_92 (by have hC1 : ¬ nC = 0 := c_23; have hbd : qbody qstM (A 194) n a nC nP nK nW P = mbody (A 194) n a nC nP nK nW P 3 := (mq_c hl99 hC1).trans (if_pos (by omega)); exact ⟨rfl, (fun i j hij => by rw [eS_122, q2_ne _ _ (by omega), eS_116, q2_ne _ _ (by omega), hgS_110 i j hij, eS_108, q2_ne _ _ (by omega), eS_2, q2_ne _ _ (by omega)]), hfAA_111, Or.inl ⟨1, sk_119, (by unfold qcl; rw [hbd, hnb2]; show qend (A 194) n (enb, Pb) = _; simp only [qend, ← esk_119]; exact if_neg (fun z => c_80 z.2)), by omega, rfl, (show S_122 188 15 = nI sk_119 from by rw [eS_122]; exact q2_s _ _ _ _)⟩⟩)
                    · skip
                      rw [if_neg hltsk_119] at er_115
                      subst er_115
                      refine lv_bipush (v := 59) hx hb dX11_takeClause_78 (by decide) ?_
                      refine lv_icmp_eq (tgt := 93) hx hb dX11_takeClause_80 (by decide) (fun c_80 => ?_) (fun c_80 => ?_)
                      · skip
                        exact absurd c_80 (by decide)
                      · skip
                        refine lv_aload_n hx hb dX11_takeClause_83 rfl (lv_at hl 2 rfl) ?_
                        refine lv_iconst (v := 1) hx hb dX11_takeClause_84 (by decide) ?_
                        refine lv_aload_n hx hb dX11_takeClause_85 rfl (lv_at hl 2 rfl) ?_
                        refine q_get (o := 188) (ci := 11) (k := 16) (T := TX11) (v := .int (nI sk_119)) C hM (qmem_11 E ad S_116 A_111 b (show qk 188 = 11 from by decide +kernel)) (by decide) rfl hi11 (by decide) hL0 rfl (congrArg (fun z => some (Value.int z)) (show S_116 188 16 = nI sk_119 from by rw [eS_116]; exact q2_s _ _ _ _)) dX11_takeClause_86 ?_
                        refine q_callVI (n := 2) (o := 188) (As := [.int 1, .int (nI sk_119)]) (rest := []) C hM hA (c_X11_fails E ad l S_116 A_111 b 1 (nI sk_119)) (qmem_11 E ad S_116 A_111 b (show qk 188 = 11 from by decide +kernel)) (by decide) rfl gX11_takeClause_X11_fails rfl rfl rfl (by decide +kernel) ⟨Nat.le_of_ble_eq_true rfl, Nat.le_of_ble_eq_true rfl⟩ rfl hl.1 rfl (Nat.le_of_ble_eq_true rfl) ⟨Nat.zero_le _, Nat.zero_le _⟩ dX11_takeClause_89 (fun r_125 S_126 A_127 b_128 H locs qr_125 hM => ?_)
                        obtain ⟨⟨e2, e3⟩, er_125, eS_126⟩ := qr_125
                        subst e2; subst e3
                        subst er_125
                        exact q_iret C hM dX11_takeClause_92 (by have hC1 : ¬ nC = 0 := c_23; have hbd : qbody qstM (A 194) n a nC nP nK nW P = mbody (A 194) n a nC nP nK nW P 3 := (mq_c hl99 hC1).trans (if_pos (by omega)); exact ⟨rfl, (fun i j hij => by rw [eS_126, q2_ne _ _ (by omega), eS_116, q2_ne _ _ (by omega), hgS_110 i j hij, eS_108, q2_ne _ _ (by omega), eS_2, q2_ne _ _ (by omega)]), hfAA_111, Or.inl ⟨1, sk_119, (by unfold qcl; rw [hbd, hnb2]; show qend (A 194) n (enb, Pb) = _; simp only [qend, ← esk_119]; exact if_neg (fun z => hltsk_119 z.1)), by omega, rfl, (show S_126 188 15 = nI sk_119 from by rw [eS_126]; exact q2_s _ _ _ _)⟩⟩)
              · skip
                have c_41 : ¬ (0 = 0) := fun z => c_41 ((nI_eq (a := 0) (b := 0) (by omega) (by omega)).mpr z)
                exact absurd rfl c_41
          · skip
            have c_23 : nC = 0 := (nI_eq (a := nC) (b := 0) (by omega) (by omega)).mp c_23
            refine lv_aload_n hx hb dX11_takeClause_26 rfl (lv_at hl 1 rfl) ?_
            refine lv_iconst (v := 1) hx hb dX11_takeClause_27 (by decide) ?_
            refine lv_aload_n hx hb dX11_takeClause_28 rfl (lv_at hl 1 rfl) ?_
            refine q_get (o := 188) (ci := 11) (k := 16) (T := TX11) (v := .int (nI a)) C hM (qmem_11 E ad S_2 A b (show qk 188 = 11 from by decide +kernel)) (by decide) rfl hi11 (by decide) hL0 rfl (congrArg (fun z => some (Value.int z)) (show S_2 188 16 = nI a from by rw [eS_2]; exact q2_s _ _ _ _)) dX11_takeClause_29 ?_
            refine q_callVI (n := 2) (o := 188) (As := [.int 1, .int (nI a)]) (rest := []) C hM hA (c_X11_fails E ad l S_2 A b 1 (nI a)) (qmem_11 E ad S_2 A b (show qk 188 = 11 from by decide +kernel)) (by decide) rfl gX11_takeClause_X11_fails rfl rfl rfl (by decide +kernel) ⟨Nat.le_of_ble_eq_true rfl, Nat.le_of_ble_eq_true rfl⟩ rfl hl.1 rfl (Nat.le_of_ble_eq_true rfl) ⟨Nat.zero_le _, Nat.zero_le _⟩ dX11_takeClause_32 (fun r_129 S_130 A_131 b_132 H locs qr_129 hM => ?_)
            obtain ⟨⟨e2, e3⟩, er_129, eS_130⟩ := qr_129
            subst e2; subst e3
            subst er_129
            exact q_iret C hM dX11_takeClause_35 (by exact ⟨rfl, (fun i j hij => by rw [eS_130, q2_ne _ _ (by omega), eS_2, q2_ne _ _ (by omega)]), (fun _ _ => rfl), Or.inl ⟨1, a, (by unfold qcl; rw [show qbody qstM (A 194) n a nC nP nK nW P = _ from mq_early c_23 hl119]; rfl), by omega, rfl, (show S_130 188 15 = nI a from by rw [eS_130]; exact q2_s _ _ _ _)⟩⟩)
    by_cases hl104 : A 194 a = 104
    · skip
      rw [show mwc (A 194 a) = 4 from by rw [hl104]; decide] at er_5
      subst er_5
      refine lv_istore_n (lv' := [(1, .int 4), (0, .ref (ad 188))]) hx hb dX11_takeClause_8 rfl hl (by decide) rfl (fun ls hl => ?_)
      refine lv_iload_n hx hb dX11_takeClause_9 rfl (lv_at hl 0 rfl) ?_
      refine lv_if_lt (tgt := 26) hx hb dX11_takeClause_10 (by decide) (fun c_10 => ?_) (fun c_10 => ?_)
      · skip
        have c_10 : 4 < 0 := (nI_ltI (a := 4) (b := 0) (by omega) (by omega)).mp c_10
        omega
      · skip
        have c_10 : ¬ (4 < 0) := fun z => c_10 ((nI_ltI (a := 4) (b := 0) (by omega) (by omega)).mpr z)
        refine lv_iload_n hx hb dX11_takeClause_13 rfl (lv_at hl 0 rfl) ?_
        refine lv_if_le (tgt := 36) hx hb dX11_takeClause_14 (by decide) (fun c_14 => ?_) (fun c_14 => ?_)
        · skip
          have c_14 : 4 ≤ 0 := (nI_leI (a := 4) (b := 0) (by omega) (by omega)).mp c_14
          omega
        · skip
          have c_14 : ¬ (4 ≤ 0) := fun z => c_14 ((nI_leI (a := 4) (b := 0) (by omega) (by omega)).mpr z)
          refine lv_aload_n hx hb dX11_takeClause_17 rfl (lv_at hl 1 rfl) ?_
          refine q_get (o := 188) (ci := 11) (k := 19) (T := TX11) (v := .ref (ad 195)) C hM (qmem_11 E ad S_2 A b (show qk 188 = 11 from by decide +kernel)) (by decide) rfl hi11 (by decide) hL1 rfl rfl dX11_takeClause_18 ?_
          refine lv_iconst (v := 0) hx hb dX11_takeClause_21 (by decide) ?_
          refine q_iald (v := A 195 0) C hM (show qk 195 = 12 from by decide +kernel) (by rw [(show ql 195 = 3 from by decide +kernel)]; exact (vp_nI (by decide) (by decide) : vp_in (nI 0) 3)) (by rw [show Int32.toNatClampNeg 0 = 0 from by decide]) dX11_takeClause_22 ?_
          refine lv_as (y := nI nC) hRl ?_
          refine lv_if_ne (tgt := 36) hx hb dX11_takeClause_23 (by decide) (fun c_23 => ?_) (fun c_23 => ?_)
          · skip
            have c_23 : ¬ (nC = 0) := fun z => c_23 ((nI_eq (a := nC) (b := 0) (by omega) (by omega)).mpr z)
            refine lv_aload_n hx hb dX11_takeClause_36 rfl (lv_at hl 1 rfl) ?_
            refine lv_iload_n hx hb dX11_takeClause_37 rfl (lv_at hl 0 rfl) ?_
            refine q_callVI (n := 1) (o := 188) (As := [.int 4]) (rest := []) C hM hA (c_X11_isFull E ad l S_2 A b nC nP nK nW P (mPr_S (fun j h1 h2 => by rw [eS_2, q2_k _ _ (by omega)]) hP) 4 (by decide)) (qmem_11 E ad S_2 A b (show qk 188 = 11 from by decide +kernel)) (by decide) rfl gX11_takeClause_X11_isFull rfl rfl rfl (by decide +kernel) ⟨Nat.le_of_ble_eq_true rfl, Nat.le_of_ble_eq_true rfl⟩ rfl hl.1 rfl (Nat.le_of_ble_eq_true rfl) ⟨Nat.zero_le _, Nat.zero_le _⟩ dX11_takeClause_38 (fun r_133 S_134 A_135 b_136 H locs qr_133 hM => ?_)
            obtain ⟨⟨e1, e2, e3⟩, er_133⟩ := qr_133
            subst e1; subst e2; subst e3
            rcases q01_cases (mfl nC nP nK nW 4 = true) with ⟨hzr_133, hir_133⟩ | ⟨hzr_133, hir_133⟩
            · skip
              rw [hzr_133] at er_133
              subst er_133
              have hfull : nW = 10 := by simpa [mfl] using hir_133
              refine lv_if_eq (tgt := 54) hx hb dX11_takeClause_41 (by decide) (fun c_41 => ?_) (fun c_41 => ?_)
              · skip
                have c_41 : 1 = 0 := (nI_eq (a := 1) (b := 0) (by omega) (by omega)).mp c_41
                exact absurd c_41 (by decide)
              · skip
                have c_41 : ¬ (1 = 0) := fun z => c_41 ((nI_eq (a := 1) (b := 0) (by omega) (by omega)).mpr z)
                refine lv_aload_n hx hb dX11_takeClause_44 rfl (lv_at hl 1 rfl) ?_
                refine lv_iconst (v := 3) hx hb dX11_takeClause_45 (by decide) ?_
                refine lv_aload_n hx hb dX11_takeClause_46 rfl (lv_at hl 1 rfl) ?_
                refine q_get (o := 188) (ci := 11) (k := 16) (T := TX11) (v := .int (nI a)) C hM (qmem_11 E ad S_2 A b (show qk 188 = 11 from by decide +kernel)) (by decide) rfl hi11 (by decide) hL0 rfl (congrArg (fun z => some (Value.int z)) (show S_2 188 16 = nI a from by rw [eS_2]; exact q2_s _ _ _ _)) dX11_takeClause_47 ?_
                refine q_callVI (n := 2) (o := 188) (As := [.int 3, .int (nI a)]) (rest := []) C hM hA (c_X11_fails E ad l S_2 A b 3 (nI a)) (qmem_11 E ad S_2 A b (show qk 188 = 11 from by decide +kernel)) (by decide) rfl gX11_takeClause_X11_fails rfl rfl rfl (by decide +kernel) ⟨Nat.le_of_ble_eq_true rfl, Nat.le_of_ble_eq_true rfl⟩ rfl hl.1 rfl (Nat.le_of_ble_eq_true rfl) ⟨Nat.zero_le _, Nat.zero_le _⟩ dX11_takeClause_50 (fun r_137 S_138 A_139 b_140 H locs qr_137 hM => ?_)
                obtain ⟨⟨e2, e3⟩, er_137, eS_138⟩ := qr_137
                subst e2; subst e3
                subst er_137
                exact q_iret C hM dX11_takeClause_53 (by have hC1 : ¬ nC = 0 := c_23; exact ⟨rfl, (fun i j hij => by rw [eS_138, q2_ne _ _ (by omega), eS_2, q2_ne _ _ (by omega)]), (fun _ _ => rfl), Or.inl ⟨3, a, (by unfold qcl; rw [show qbody qstM (A 194) n a nC nP nK nW P = _ from (mq_h hl104 hC1).trans (if_neg (by omega))]; rfl), by omega, rfl, (show S_138 188 15 = nI a from by rw [eS_138]; exact q2_s _ _ _ _)⟩⟩)
            · skip
              rw [hzr_133] at er_133
              subst er_133
              have hfull : ¬ (nW = 10) := by simpa [mfl] using hir_133
              refine lv_if_eq (tgt := 54) hx hb dX11_takeClause_41 (by decide) (fun c_41 => ?_) (fun c_41 => ?_)
              · skip
                have c_41 : 0 = 0 := (nI_eq (a := 0) (b := 0) (by omega) (by omega)).mp c_41
                refine lv_aload_n hx hb dX11_takeClause_54 rfl (lv_at hl 1 rfl) ?_
                refine lv_dup hx hb dX11_takeClause_55 rfl ?_
                refine q_get (o := 188) (ci := 11) (k := 16) (T := TX11) (v := .int (nI a)) C hM (qmem_11 E ad S_2 A b (show qk 188 = 11 from by decide +kernel)) (by decide) rfl hi11 (by decide) hL0 rfl (congrArg (fun z => some (Value.int z)) (show S_2 188 16 = nI a from by rw [eS_2]; exact q2_s _ _ _ _)) dX11_takeClause_56 ?_
                refine lv_iconst (v := 1) hx hb dX11_takeClause_59 (by decide) ?_
                refine lv_iadd hx hb dX11_takeClause_60 ?_
                refine lv_as (y := nI (a + 1)) (nI_add _ _) ?_
                refine q_put (o := 188) (ci := 11) (k := 16) (T := TX11) (ty := .int) (v := nI (a + 1)) C hM (qmem_11 E ad S_2 A b (show qk 188 = 11 from by decide +kernel)) (by decide) rfl hi11 tyX11 tyX11_ok nmX11 (by decide) hL0 rfl rfl (by decide +kernel) rfl rfl (Nat.le_of_ble_eq_true rfl) (qs_11_16 E ad S_2 A b (show qk 188 = 11 from by decide +kernel) (nI (a + 1))) dX11_takeClause_61 (fun H locs hM => ?_)
                obtain ⟨S_141, eS_141⟩ : ∃ zz, zz = q2 S_2 188 16 (nI (a + 1)) := ⟨_, rfl⟩
                rw [← eS_141] at hM
                refine lv_aload_n hx hb dX11_takeClause_64 rfl (lv_at hl 1 rfl) ?_
                refine lv_iload_n hx hb dX11_takeClause_65 rfl (lv_at hl 0 rfl) ?_
                refine q_callVI (n := 1) (o := 188) (As := [.int 4]) (rest := []) C hM hA (c_X11_takeBody E ad l S_141 A b n a ((show S_141 188 14 = S 188 14 from by rw [eS_141, q2_k _ _ (by omega)]; rw [eS_2, q2_k _ _ (by omega)]).trans hln) (by omega) (show S_141 188 16 = nI (a + 1) from by rw [eS_141]; exact q2_s _ _ _ _) (by omega) nC nP nK nW P (mPr_S (fun j h1 h2 => by rw [eS_141, q2_k _ _ (by omega), eS_2, q2_k _ _ (by omega)]) hP) 4 (by omega) (by omega) (by omega) (by omega) (by omega) (by omega)) (qmem_11 E ad S_141 A b (show qk 188 = 11 from by decide +kernel)) (by decide) rfl gX11_takeClause_X11_takeBody rfl rfl rfl (by decide +kernel) ⟨Nat.le_of_ble_eq_true rfl, Nat.le_of_ble_eq_true rfl⟩ rfl hl.1 rfl (Nat.le_of_ble_eq_true rfl) ⟨Nat.zero_le _, Nat.zero_le _⟩ dX11_takeClause_66 (fun r_142 S_143 A_144 b_145 H locs qr_142 hM => ?_)
                obtain ⟨e3, hgS_143, hfAA_144, hD⟩ := qr_142
                subst e3
                rcases hD with ⟨kdb, plb, hnb2, hkb, er_142, h15b⟩ | ⟨enb, Pb, hnb2, henb, er_142, h16b, h15b, hPb2⟩
                · skip
                  subst er_142
                  refine lv_istore_n (lv' := [(2, .int (nI kdb)), (1, .int 4), (0, .ref (ad 188))]) hx hb dX11_takeClause_69 rfl hl (by decide) rfl (fun ls hl => ?_)
                  refine lv_iload_n hx hb dX11_takeClause_70 rfl (lv_at hl 0 rfl) ?_
                  refine lv_if_ne (tgt := 93) hx hb dX11_takeClause_71 (by decide) (fun c_71 => ?_) (fun c_71 => ?_)
                  · skip
                    have c_71 : ¬ (kdb = 0) := fun z => c_71 ((nI_eq (a := kdb) (b := 0) (by omega) (by omega)).mpr z)
                    refine lv_aload_n hx hb dX11_takeClause_93 rfl (lv_at hl 2 rfl) ?_
                    refine lv_dup hx hb dX11_takeClause_94 rfl ?_
                    refine q_get (o := 188) (ci := 11) (k := 16) (T := TX11) (v := .int (S_143 188 16)) C hM (qmem_11 E ad S_143 A_144 b (show qk 188 = 11 from by decide +kernel)) (by decide) rfl hi11 (by decide) hL0 rfl rfl dX11_takeClause_95 ?_
                    refine lv_iconst (v := 1) hx hb dX11_takeClause_98 (by decide) ?_
                    refine lv_iadd hx hb dX11_takeClause_99 ?_
                    refine lv_topi (fun v_146 ev_146 => ?_)
                    refine q_put (o := 188) (ci := 11) (k := 16) (T := TX11) (ty := .int) (v := v_146) C hM (qmem_11 E ad S_143 A_144 b (show qk 188 = 11 from by decide +kernel)) (by decide) rfl hi11 tyX11 tyX11_ok nmX11 (by decide) hL0 rfl rfl (by decide +kernel) rfl rfl (Nat.le_of_ble_eq_true rfl) (qs_11_16 E ad S_143 A_144 b (show qk 188 = 11 from by decide +kernel) v_146) dX11_takeClause_100 (fun H locs hM => ?_)
                    obtain ⟨S_147, eS_147⟩ : ∃ zz, zz = q2 S_143 188 16 v_146 := ⟨_, rfl⟩
                    rw [← eS_147] at hM
                    refine lv_iload_n hx hb dX11_takeClause_103 rfl (lv_at hl 0 rfl) ?_
                    exact q_iret C hM dX11_takeClause_104 (by have hC1 : ¬ nC = 0 := c_23; have hbd : qbody qstM (A 194) n a nC nP nK nW P = mbody (A 194) n a nC nP nK nW P 4 := (mq_h hl104 hC1).trans (if_pos (by omega)); exact ⟨rfl, (fun i j hij => by rw [eS_147, q2_ne _ _ (by omega), hgS_143 i j hij, eS_141, q2_ne _ _ (by omega), eS_2, q2_ne _ _ (by omega)]), hfAA_144, Or.inl ⟨kdb, plb, (by unfold qcl; rw [hbd, hnb2]; rfl), by omega, rfl, (show S_147 188 15 = nI plb from by rw [eS_147, q2_k _ _ (by omega)]; exact h15b)⟩⟩)
                  · skip
                    have c_71 : kdb = 0 := (nI_eq (a := kdb) (b := 0) (by omega) (by omega)).mp c_71
                    omega
                · skip
                  subst er_142
                  refine lv_istore_n (lv' := [(2, .int 0), (1, .int 4), (0, .ref (ad 188))]) hx hb dX11_takeClause_69 rfl hl (by decide) rfl (fun ls hl => ?_)
                  refine lv_iload_n hx hb dX11_takeClause_70 rfl (lv_at hl 0 rfl) ?_
                  refine lv_if_ne (tgt := 93) hx hb dX11_takeClause_71 (by decide) (fun c_71 => ?_) (fun c_71 => ?_)
                  · skip
                    have c_71 : ¬ (0 = 0) := fun z => c_71 ((nI_eq (a := 0) (b := 0) (by omega) (by omega)).mpr z)
                    exact absurd rfl c_71
                  · skip
                    have c_71 : 0 = 0 := (nI_eq (a := 0) (b := 0) (by omega) (by omega)).mp c_71
                    refine lv_aload_n hx hb dX11_takeClause_74 rfl (lv_at hl 2 rfl) ?_
                    refine q_callVI (n := 0) (o := 188) (As := []) (rest := []) C hM hA (c_X11_here E ad l S_143 A_144 b n enb ((show S_143 188 14 = S 188 14 from by rw [hgS_143 188 14 (by omega)]; rw [eS_141, q2_k _ _ (by omega)]; rw [eS_2, q2_k _ _ (by omega)]).trans hln) (by omega) (show S_143 188 16 = nI enb from by exact h16b) (by omega)) (qmem_11 E ad S_143 A_144 b (show qk 188 = 11 from by decide +kernel)) (by decide) rfl gX11_takeClause_X11_here rfl rfl rfl (by decide +kernel) ⟨Nat.le_of_ble_eq_true rfl, Nat.le_of_ble_eq_true rfl⟩ rfl hl.1 rfl (Nat.le_of_ble_eq_true rfl) ⟨Nat.zero_le _, Nat.zero_le _⟩ dX11_takeClause_75 (fun r_148 S_149 A_150 b_151 H locs qr_148 hM => ?_)
                    rw [show A_144 194 = A 194 from by rw [hfAA_144 194 (by omega)]] at qr_148
                    obtain ⟨sk_152, esk_152⟩ : ∃ zz, zz = qsk (A 194) n enb := ⟨_, rfl⟩
                    have lsk_152 := qsk_le (A 194) n enb
                    rw [← esk_152] at lsk_152 qr_148
                    obtain ⟨⟨e2, e3⟩, eS_149, er_148⟩ := qr_148
                    subst e2; subst e3
                    by_cases hltsk_152 : sk_152 < n
                    · skip
                      rw [if_pos hltsk_152] at er_148
                      subst er_148
                      refine lv_bipush (v := 59) hx hb dX11_takeClause_78 (by decide) ?_
                      refine lv_icmp_eq (tgt := 93) hx hb dX11_takeClause_80 (by decide) (fun c_80 => ?_) (fun c_80 => ?_)
                      · skip
                        refine lv_aload_n hx hb dX11_takeClause_93 rfl (lv_at hl 2 rfl) ?_
                        refine lv_dup hx hb dX11_takeClause_94 rfl ?_
                        refine q_get (o := 188) (ci := 11) (k := 16) (T := TX11) (v := .int (nI sk_152)) C hM (qmem_11 E ad S_149 A_144 b (show qk 188 = 11 from by decide +kernel)) (by decide) rfl hi11 (by decide) hL0 rfl (congrArg (fun z => some (Value.int z)) (show S_149 188 16 = nI sk_152 from by rw [eS_149]; exact q2_s _ _ _ _)) dX11_takeClause_95 ?_
                        refine lv_iconst (v := 1) hx hb dX11_takeClause_98 (by decide) ?_
                        refine lv_iadd hx hb dX11_takeClause_99 ?_
                        refine lv_as (y := nI (sk_152 + 1)) (nI_add _ _) ?_
                        refine q_put (o := 188) (ci := 11) (k := 16) (T := TX11) (ty := .int) (v := nI (sk_152 + 1)) C hM (qmem_11 E ad S_149 A_144 b (show qk 188 = 11 from by decide +kernel)) (by decide) rfl hi11 tyX11 tyX11_ok nmX11 (by decide) hL0 rfl rfl (by decide +kernel) rfl rfl (Nat.le_of_ble_eq_true rfl) (qs_11_16 E ad S_149 A_144 b (show qk 188 = 11 from by decide +kernel) (nI (sk_152 + 1))) dX11_takeClause_100 (fun H locs hM => ?_)
                        obtain ⟨S_153, eS_153⟩ : ∃ zz, zz = q2 S_149 188 16 (nI (sk_152 + 1)) := ⟨_, rfl⟩
                        rw [← eS_153] at hM
                        refine lv_iload_n hx hb dX11_takeClause_103 rfl (lv_at hl 0 rfl) ?_
                        exact q_iret C hM dX11_takeClause_104 (by have hC1 : ¬ nC = 0 := c_23; have hbd : qbody qstM (A 194) n a nC nP nK nW P = mbody (A 194) n a nC nP nK nW P 4 := (mq_h hl104 hC1).trans (if_pos (by omega)); exact ⟨rfl, (fun i j hij => by rw [eS_153, q2_ne _ _ (by omega), eS_149, q2_ne _ _ (by omega), hgS_143 i j hij, eS_141, q2_ne _ _ (by omega), eS_2, q2_ne _ _ (by omega)]), hfAA_144, Or.inr ⟨sk_152 + 1, Pb, by unfold qcl; rw [hbd, hnb2]; show qend (A 194) n (enb, Pb) = _; simp only [qend, ← esk_152]; exact if_pos ⟨hltsk_152, c_80⟩, by omega, rfl, (show S_153 188 16 = nI (sk_152 + 1) from by rw [eS_153]; exact q2_s _ _ _ _), (show S_153 188 15 = S 188 15 from by rw [eS_153, q2_k _ _ (by omega)]; rw [eS_149, q2_k _ _ (by omega)]; rw [h15b]; rw [eS_141, q2_k _ _ (by omega)]; rw [eS_2, q2_k _ _ (by omega)]), mPX_S (fun j h1 h2 => by rw [eS_153, q2_k _ _ (by omega), eS_149, q2_k _ _ (by omega)]) hPb2⟩⟩)
                      · skip
                        refine lv_aload_n hx hb dX11_takeClause_83 rfl (lv_at hl 2 rfl) ?_
                        refine lv_iconst (v := 1) hx hb dX11_takeClause_84 (by decide) ?_
                        refine lv_aload_n hx hb dX11_takeClause_85 rfl (lv_at hl 2 rfl) ?_
                        refine q_get (o := 188) (ci := 11) (k := 16) (T := TX11) (v := .int (nI sk_152)) C hM (qmem_11 E ad S_149 A_144 b (show qk 188 = 11 from by decide +kernel)) (by decide) rfl hi11 (by decide) hL0 rfl (congrArg (fun z => some (Value.int z)) (show S_149 188 16 = nI sk_152 from by rw [eS_149]; exact q2_s _ _ _ _)) dX11_takeClause_86 ?_
                        refine q_callVI (n := 2) (o := 188) (As := [.int 1, .int (nI sk_152)]) (rest := []) C hM hA (c_X11_fails E ad l S_149 A_144 b 1 (nI sk_152)) (qmem_11 E ad S_149 A_144 b (show qk 188 = 11 from by decide +kernel)) (by decide) rfl gX11_takeClause_X11_fails rfl rfl rfl (by decide +kernel) ⟨Nat.le_of_ble_eq_true rfl, Nat.le_of_ble_eq_true rfl⟩ rfl hl.1 rfl (Nat.le_of_ble_eq_true rfl) ⟨Nat.zero_le _, Nat.zero_le _⟩ dX11_takeClause_89 (fun r_154 S_155 A_156 b_157 H locs qr_154 hM => ?_)
                        obtain ⟨⟨e2, e3⟩, er_154, eS_155⟩ := qr_154
                        subst e2; subst e3
                        subst er_154
                        exact q_iret C hM dX11_takeClause_92 (by have hC1 : ¬ nC = 0 := c_23; have hbd : qbody qstM (A 194) n a nC nP nK nW P = mbody (A 194) n a nC nP nK nW P 4 := (mq_h hl104 hC1).trans (if_pos (by omega)); exact ⟨rfl, (fun i j hij => by rw [eS_155, q2_ne _ _ (by omega), eS_149, q2_ne _ _ (by omega), hgS_143 i j hij, eS_141, q2_ne _ _ (by omega), eS_2, q2_ne _ _ (by omega)]), hfAA_144, Or.inl ⟨1, sk_152, (by unfold qcl; rw [hbd, hnb2]; show qend (A 194) n (enb, Pb) = _; simp only [qend, ← esk_152]; exact if_neg (fun z => c_80 z.2)), by omega, rfl, (show S_155 188 15 = nI sk_152 from by rw [eS_155]; exact q2_s _ _ _ _)⟩⟩)
                    · skip
                      rw [if_neg hltsk_152] at er_148
                      subst er_148
                      refine lv_bipush (v := 59) hx hb dX11_takeClause_78 (by decide) ?_
                      refine lv_icmp_eq (tgt := 93) hx hb dX11_takeClause_80 (by decide) (fun c_80 => ?_) (fun c_80 => ?_)
                      · skip
                        exact absurd c_80 (by decide)
                      · skip
                        refine lv_aload_n hx hb dX11_takeClause_83 rfl (lv_at hl 2 rfl) ?_
                        refine lv_iconst (v := 1) hx hb dX11_takeClause_84 (by decide) ?_
                        refine lv_aload_n hx hb dX11_takeClause_85 rfl (lv_at hl 2 rfl) ?_
                        refine q_get (o := 188) (ci := 11) (k := 16) (T := TX11) (v := .int (nI sk_152)) C hM (qmem_11 E ad S_149 A_144 b (show qk 188 = 11 from by decide +kernel)) (by decide) rfl hi11 (by decide) hL0 rfl (congrArg (fun z => some (Value.int z)) (show S_149 188 16 = nI sk_152 from by rw [eS_149]; exact q2_s _ _ _ _)) dX11_takeClause_86 ?_
                        refine q_callVI (n := 2) (o := 188) (As := [.int 1, .int (nI sk_152)]) (rest := []) C hM hA (c_X11_fails E ad l S_149 A_144 b 1 (nI sk_152)) (qmem_11 E ad S_149 A_144 b (show qk 188 = 11 from by decide +kernel)) (by decide) rfl gX11_takeClause_X11_fails rfl rfl rfl (by decide +kernel) ⟨Nat.le_of_ble_eq_true rfl, Nat.le_of_ble_eq_true rfl⟩ rfl hl.1 rfl (Nat.le_of_ble_eq_true rfl) ⟨Nat.zero_le _, Nat.zero_le _⟩ dX11_takeClause_89 (fun r_158 S_159 A_160 b_161 H locs qr_158 hM => ?_)
                        obtain ⟨⟨e2, e3⟩, er_158, eS_159⟩ := qr_158
                        subst e2; subst e3
                        subst er_158
                        exact q_iret C hM dX11_takeClause_92 (by have hC1 : ¬ nC = 0 := c_23; have hbd : qbody qstM (A 194) n a nC nP nK nW P = mbody (A 194) n a nC nP nK nW P 4 := (mq_h hl104 hC1).trans (if_pos (by omega)); exact ⟨rfl, (fun i j hij => by rw [eS_159, q2_ne _ _ (by omega), eS_149, q2_ne _ _ (by omega), hgS_143 i j hij, eS_141, q2_ne _ _ (by omega), eS_2, q2_ne _ _ (by omega)]), hfAA_144, Or.inl ⟨1, sk_152, (by unfold qcl; rw [hbd, hnb2]; show qend (A 194) n (enb, Pb) = _; simp only [qend, ← esk_152]; exact if_neg (fun z => hltsk_152 z.1)), by omega, rfl, (show S_159 188 15 = nI sk_152 from by rw [eS_159]; exact q2_s _ _ _ _)⟩⟩)
              · skip
                have c_41 : ¬ (0 = 0) := fun z => c_41 ((nI_eq (a := 0) (b := 0) (by omega) (by omega)).mpr z)
                exact absurd rfl c_41
          · skip
            have c_23 : nC = 0 := (nI_eq (a := nC) (b := 0) (by omega) (by omega)).mp c_23
            refine lv_aload_n hx hb dX11_takeClause_26 rfl (lv_at hl 1 rfl) ?_
            refine lv_iconst (v := 1) hx hb dX11_takeClause_27 (by decide) ?_
            refine lv_aload_n hx hb dX11_takeClause_28 rfl (lv_at hl 1 rfl) ?_
            refine q_get (o := 188) (ci := 11) (k := 16) (T := TX11) (v := .int (nI a)) C hM (qmem_11 E ad S_2 A b (show qk 188 = 11 from by decide +kernel)) (by decide) rfl hi11 (by decide) hL0 rfl (congrArg (fun z => some (Value.int z)) (show S_2 188 16 = nI a from by rw [eS_2]; exact q2_s _ _ _ _)) dX11_takeClause_29 ?_
            refine q_callVI (n := 2) (o := 188) (As := [.int 1, .int (nI a)]) (rest := []) C hM hA (c_X11_fails E ad l S_2 A b 1 (nI a)) (qmem_11 E ad S_2 A b (show qk 188 = 11 from by decide +kernel)) (by decide) rfl gX11_takeClause_X11_fails rfl rfl rfl (by decide +kernel) ⟨Nat.le_of_ble_eq_true rfl, Nat.le_of_ble_eq_true rfl⟩ rfl hl.1 rfl (Nat.le_of_ble_eq_true rfl) ⟨Nat.zero_le _, Nat.zero_le _⟩ dX11_takeClause_32 (fun r_162 S_163 A_164 b_165 H locs qr_162 hM => ?_)
            obtain ⟨⟨e2, e3⟩, er_162, eS_163⟩ := qr_162
            subst e2; subst e3
            subst er_162
            exact q_iret C hM dX11_takeClause_35 (by exact ⟨rfl, (fun i j hij => by rw [eS_163, q2_ne _ _ (by omega), eS_2, q2_ne _ _ (by omega)]), (fun _ _ => rfl), Or.inl ⟨1, a, (by unfold qcl; rw [show qbody qstM (A 194) n a nC nP nK nW P = _ from mq_early c_23 hl119]; rfl), by omega, rfl, (show S_163 188 15 = nI a from by rw [eS_163]; exact q2_s _ _ _ _)⟩⟩)
    · skip
      rw [show mwc (A 194 a) = -1 from by unfold mwc; rw [if_neg hl119, if_neg hl114, if_neg hl112, if_neg hl99, if_neg hl104]] at er_5
      subst er_5
      refine lv_istore_n (lv' := [(1, .int (-1)), (0, .ref (ad 188))]) hx hb dX11_takeClause_8 rfl hl (by decide) rfl (fun ls hl => ?_)
      refine lv_iload_n hx hb dX11_takeClause_9 rfl (lv_at hl 0 rfl) ?_
      refine lv_if_lt (tgt := 26) hx hb dX11_takeClause_10 (by decide) (fun c_10 => ?_) (fun c_10 => ?_)
      · skip
        refine lv_aload_n hx hb dX11_takeClause_26 rfl (lv_at hl 1 rfl) ?_
        refine lv_iconst (v := 1) hx hb dX11_takeClause_27 (by decide) ?_
        refine lv_aload_n hx hb dX11_takeClause_28 rfl (lv_at hl 1 rfl) ?_
        refine q_get (o := 188) (ci := 11) (k := 16) (T := TX11) (v := .int (nI a)) C hM (qmem_11 E ad S_2 A b (show qk 188 = 11 from by decide +kernel)) (by decide) rfl hi11 (by decide) hL0 rfl (congrArg (fun z => some (Value.int z)) (show S_2 188 16 = nI a from by rw [eS_2]; exact q2_s _ _ _ _)) dX11_takeClause_29 ?_
        refine q_callVI (n := 2) (o := 188) (As := [.int 1, .int (nI a)]) (rest := []) C hM hA (c_X11_fails E ad l S_2 A b 1 (nI a)) (qmem_11 E ad S_2 A b (show qk 188 = 11 from by decide +kernel)) (by decide) rfl gX11_takeClause_X11_fails rfl rfl rfl (by decide +kernel) ⟨Nat.le_of_ble_eq_true rfl, Nat.le_of_ble_eq_true rfl⟩ rfl hl.1 rfl (Nat.le_of_ble_eq_true rfl) ⟨Nat.zero_le _, Nat.zero_le _⟩ dX11_takeClause_32 (fun r_166 S_167 A_168 b_169 H locs qr_166 hM => ?_)
        obtain ⟨⟨e2, e3⟩, er_166, eS_167⟩ := qr_166
        subst e2; subst e3
        subst er_166
        exact q_iret C hM dX11_takeClause_35 (by exact ⟨rfl, (fun i j hij => by rw [eS_167, q2_ne _ _ (by omega), eS_2, q2_ne _ _ (by omega)]), (fun _ _ => rfl), Or.inl ⟨1, a, (by unfold qcl; rw [show qbody qstM (A 194) n a nC nP nK nW P = _ from mq_none hl119 hl114 hl112 hl99 hl104]; rfl), by omega, rfl, (show S_167 188 15 = nI a from by rw [eS_167]; exact q2_s _ _ _ _)⟩⟩)
      · skip
        exact absurd (by decide) c_10

set_option maxHeartbeats 4000000 in
set_option maxRecDepth 100000 in
theorem c_X11_takeRead (E : qE) (ad : Nat → Nat) (l : Launch) (S A : qA2) (b : qB) (nC nP nK nW : Nat) (P : qPS) (hP : mPr nC nP nK nW S A P) : MV E ad l yX11_takeRead wsX11_takeRead { frames := 0, cells := 0, slots := 0, locals := 0 } [.ref (ad 188)] S A b (fun S' A' b' => b = b' ∧ S' = q2 (q2 (q2 (q2 (q2 (q2 (q2 S 188 0 (A 195 0)) 188 1 (A 195 1)) 188 2 (A 195 2)) 188 3 (S 188 20)) 188 4 (S 188 21)) 188 6 (S 188 24)) 188 8 (S 188 27) ∧ (∀ j, j < 37 → A' 193 j = mini nP nK (A 196) (A 198) j) ∧ A' 189 = qmap (fun p _ => A 197 p) (A 189) 6 ∧ A' 190 = qmap (fun c _ => A 199 c) (A 190) nK ∧ A' 191 = qmap (fun h _ => A 200 h) (A 191) nW ∧ A' 192 = qmap (fun h _ => A 201 h) (A 192) nW ∧ ∀ i, (i < 189 ∨ 193 < i) → A' i = A i) := by
  obtain ⟨⟨hRl, hP0, hCb⟩, hP12, hP3, ⟨hR4, hP4, hPb⟩, ⟨hR5, hP5, hKb⟩, ⟨hR6, hP6, hWb⟩, hPp, hPk, hPw⟩ := id hP
  refine MV.of (cc := cX11_takeRead) (maxL := 2) (ret := none) RX11 rfl (by decide) rfl ?_
  intro pg e s m below meth cd C hM
  have hx := C.1
  have hb := C.2.1
  have hts := C.2.2.2.2.1
  have hA : ∀ q, s.heap.size ≤ q → qAr ad s.heap.size q := fun _ h => Or.inr h
  have hi11 : ∀ w ∈ u_ws RX11 TX11 45, w ∈ wsX11_takeRead := by decide +kernel
  have hL0 := hts (.fieldLink RX11 32 "CrowFencesModel" "readLaw" "[I") (by decide +kernel)
  have hL1 := hts (.fieldLink RX11 90 "CrowFencesModel" "cells" "I") (by decide +kernel)
  have hL2 := hts (.fieldLink RX11 180 "CrowFencesModel" "holds" "I") (by decide +kernel)
  have hL3 := hts (.fieldLink RX11 183 "CrowFencesModel" "open" "I") (by decide +kernel)
  have hL4 := hts (.fieldLink RX11 138 "CrowFencesModel" "readRoad" "I") (by decide +kernel)
  have hL5 := hts (.fieldLink RX11 186 "CrowFencesModel" "road" "I") (by decide +kernel)
  have hL6 := hts (.fieldLink RX11 145 "CrowFencesModel" "readPosts" "I") (by decide +kernel)
  have hL7 := hts (.fieldLink RX11 97 "CrowFencesModel" "posts" "I") (by decide +kernel)
  have hL8 := hts (.fieldLink RX11 148 "CrowFencesModel" "readCrows" "I") (by decide +kernel)
  have hL9 := hts (.fieldLink RX11 100 "CrowFencesModel" "crows" "I") (by decide +kernel)
  have hL10 := hts (.fieldLink RX11 151 "CrowFencesModel" "readWinds" "I") (by decide +kernel)
  have hL11 := hts (.fieldLink RX11 189 "CrowFencesModel" "winds" "I") (by decide +kernel)
  have hL12 := hts (.fieldLink RX11 22 "CrowFencesModel" "now" "[I") (by decide +kernel)
  have hL13 := hts (.fieldLink RX11 16 "CrowFencesModel" "strong" "[I") (by decide +kernel)
  have hL14 := hts (.fieldLink RX11 47 "CrowFencesModel" "readStrong" "[I") (by decide +kernel)
  have hL15 := hts (.fieldLink RX11 19 "CrowFencesModel" "snows" "[I") (by decide +kernel)
  have hL16 := hts (.fieldLink RX11 50 "CrowFencesModel" "readSnows" "[I") (by decide +kernel)
  have hL17 := hts (.fieldLink RX11 41 "CrowFencesModel" "readBids" "[I") (by decide +kernel)
  have hL18 := hts (.fieldLink RX11 13 "CrowFencesModel" "likes" "[I") (by decide +kernel)
  have hL19 := hts (.fieldLink RX11 44 "CrowFencesModel" "readLikes" "[I") (by decide +kernel)
  have hL20 := hts (.fieldLink RX11 7 "CrowFencesModel" "view" "[I") (by decide +kernel)
  have hL21 := hts (.fieldLink RX11 38 "CrowFencesModel" "readView" "[I") (by decide +kernel)
  have hL22 := hts (.fieldLink RX11 35 "CrowFencesModel" "readAt" "[I") (by decide +kernel)
  have hl := lv_entry ([.ref (ad 188)]) (n := 2) (Nat.le_of_ble_eq_true rfl)
  rw [lg_entry_eq]
  generalize (lg_sl ([.ref (ad 188)]) ++ List.replicate (2 - (lg_sl ([.ref (ad 188)])).length) Slot.unset).toArray = ls at hl ⊢
  have hl : lv_has ls 2 [(0, .ref (ad 188))] := hl
  refine lv_aload_n hx hb dX11_takeRead_0 rfl (lv_at hl 0 rfl) ?_
  refine lv_aload_n hx hb dX11_takeRead_1 rfl (lv_at hl 0 rfl) ?_
  refine q_get (o := 188) (ci := 11) (k := 19) (T := TX11) (v := .ref (ad 195)) C hM (qmem_11 E ad S A b (show qk 188 = 11 from by decide +kernel)) (by decide) rfl hi11 (by decide) hL0 rfl rfl dX11_takeRead_2 ?_
  refine lv_iconst (v := 0) hx hb dX11_takeRead_5 (by decide) ?_
  refine q_iald (v := A 195 0) C hM (show qk 195 = 12 from by decide +kernel) (by rw [(show ql 195 = 3 from by decide +kernel)]; exact (vp_nI (by decide) (by decide) : vp_in (nI 0) 3)) (by rw [show Int32.toNatClampNeg 0 = 0 from by decide]) dX11_takeRead_6 ?_
  refine q_put (o := 188) (ci := 11) (k := 0) (T := TX11) (ty := .int) (v := A 195 0) C hM (qmem_11 E ad S A b (show qk 188 = 11 from by decide +kernel)) (by decide) rfl hi11 tyX11 tyX11_ok nmX11 (by decide) hL1 rfl rfl (by decide +kernel) rfl rfl (Nat.le_of_ble_eq_true rfl) (qs_11_0 E ad S A b (show qk 188 = 11 from by decide +kernel) (A 195 0)) dX11_takeRead_7 (fun H locs hM => ?_)
  obtain ⟨S_1, eS_1⟩ : ∃ zz, zz = q2 S 188 0 (A 195 0) := ⟨_, rfl⟩
  rw [← eS_1] at hM
  refine lv_aload_n hx hb dX11_takeRead_10 rfl (lv_at hl 0 rfl) ?_
  refine lv_aload_n hx hb dX11_takeRead_11 rfl (lv_at hl 0 rfl) ?_
  refine q_get (o := 188) (ci := 11) (k := 19) (T := TX11) (v := .ref (ad 195)) C hM (qmem_11 E ad S_1 A b (show qk 188 = 11 from by decide +kernel)) (by decide) rfl hi11 (by decide) hL0 rfl rfl dX11_takeRead_12 ?_
  refine lv_iconst (v := 1) hx hb dX11_takeRead_15 (by decide) ?_
  refine q_iald (v := A 195 1) C hM (show qk 195 = 12 from by decide +kernel) (by rw [(show ql 195 = 3 from by decide +kernel)]; exact (vp_nI (by decide) (by decide) : vp_in (nI 1) 3)) (by rw [show Int32.toNatClampNeg 1 = 1 from by decide]) dX11_takeRead_16 ?_
  refine q_put (o := 188) (ci := 11) (k := 1) (T := TX11) (ty := .int) (v := A 195 1) C hM (qmem_11 E ad S_1 A b (show qk 188 = 11 from by decide +kernel)) (by decide) rfl hi11 tyX11 tyX11_ok nmX11 (by decide) hL2 rfl rfl (by decide +kernel) rfl rfl (Nat.le_of_ble_eq_true rfl) (qs_11_1 E ad S_1 A b (show qk 188 = 11 from by decide +kernel) (A 195 1)) dX11_takeRead_17 (fun H locs hM => ?_)
  obtain ⟨S_2, eS_2⟩ : ∃ zz, zz = q2 S_1 188 1 (A 195 1) := ⟨_, rfl⟩
  rw [← eS_2] at hM
  refine lv_aload_n hx hb dX11_takeRead_20 rfl (lv_at hl 0 rfl) ?_
  refine lv_aload_n hx hb dX11_takeRead_21 rfl (lv_at hl 0 rfl) ?_
  refine q_get (o := 188) (ci := 11) (k := 19) (T := TX11) (v := .ref (ad 195)) C hM (qmem_11 E ad S_2 A b (show qk 188 = 11 from by decide +kernel)) (by decide) rfl hi11 (by decide) hL0 rfl rfl dX11_takeRead_22 ?_
  refine lv_iconst (v := 2) hx hb dX11_takeRead_25 (by decide) ?_
  refine q_iald (v := A 195 2) C hM (show qk 195 = 12 from by decide +kernel) (by rw [(show ql 195 = 3 from by decide +kernel)]; exact (vp_nI (by decide) (by decide) : vp_in (nI 2) 3)) (by rw [show Int32.toNatClampNeg 2 = 2 from by decide]) dX11_takeRead_26 ?_
  refine q_put (o := 188) (ci := 11) (k := 2) (T := TX11) (ty := .int) (v := A 195 2) C hM (qmem_11 E ad S_2 A b (show qk 188 = 11 from by decide +kernel)) (by decide) rfl hi11 tyX11 tyX11_ok nmX11 (by decide) hL3 rfl rfl (by decide +kernel) rfl rfl (Nat.le_of_ble_eq_true rfl) (qs_11_2 E ad S_2 A b (show qk 188 = 11 from by decide +kernel) (A 195 2)) dX11_takeRead_27 (fun H locs hM => ?_)
  obtain ⟨S_3, eS_3⟩ : ∃ zz, zz = q2 S_2 188 2 (A 195 2) := ⟨_, rfl⟩
  rw [← eS_3] at hM
  refine lv_aload_n hx hb dX11_takeRead_30 rfl (lv_at hl 0 rfl) ?_
  refine lv_aload_n hx hb dX11_takeRead_31 rfl (lv_at hl 0 rfl) ?_
  refine q_get (o := 188) (ci := 11) (k := 20) (T := TX11) (v := .int (S 188 20)) C hM (qmem_11 E ad S_3 A b (show qk 188 = 11 from by decide +kernel)) (by decide) rfl hi11 (by decide) hL4 rfl (congrArg (fun z => some (Value.int z)) (show S_3 188 20 = S 188 20 from by rw [eS_3, q2_k _ _ (by omega)]; rw [eS_2, q2_k _ _ (by omega)]; rw [eS_1, q2_k _ _ (by omega)])) dX11_takeRead_32 ?_
  refine q_put (o := 188) (ci := 11) (k := 3) (T := TX11) (ty := .int) (v := S 188 20) C hM (qmem_11 E ad S_3 A b (show qk 188 = 11 from by decide +kernel)) (by decide) rfl hi11 tyX11 tyX11_ok nmX11 (by decide) hL5 rfl rfl (by decide +kernel) rfl rfl (Nat.le_of_ble_eq_true rfl) (qs_11_3 E ad S_3 A b (show qk 188 = 11 from by decide +kernel) (S 188 20)) dX11_takeRead_35 (fun H locs hM => ?_)
  obtain ⟨S_4, eS_4⟩ : ∃ zz, zz = q2 S_3 188 3 (S 188 20) := ⟨_, rfl⟩
  rw [← eS_4] at hM
  refine lv_aload_n hx hb dX11_takeRead_38 rfl (lv_at hl 0 rfl) ?_
  refine lv_aload_n hx hb dX11_takeRead_39 rfl (lv_at hl 0 rfl) ?_
  refine q_get (o := 188) (ci := 11) (k := 21) (T := TX11) (v := .int (S 188 21)) C hM (qmem_11 E ad S_4 A b (show qk 188 = 11 from by decide +kernel)) (by decide) rfl hi11 (by decide) hL6 rfl (congrArg (fun z => some (Value.int z)) (show S_4 188 21 = S 188 21 from by rw [eS_4, q2_k _ _ (by omega)]; rw [eS_3, q2_k _ _ (by omega)]; rw [eS_2, q2_k _ _ (by omega)]; rw [eS_1, q2_k _ _ (by omega)])) dX11_takeRead_40 ?_
  refine q_put (o := 188) (ci := 11) (k := 4) (T := TX11) (ty := .int) (v := S 188 21) C hM (qmem_11 E ad S_4 A b (show qk 188 = 11 from by decide +kernel)) (by decide) rfl hi11 tyX11 tyX11_ok nmX11 (by decide) hL7 rfl rfl (by decide +kernel) rfl rfl (Nat.le_of_ble_eq_true rfl) (qs_11_4 E ad S_4 A b (show qk 188 = 11 from by decide +kernel) (S 188 21)) dX11_takeRead_43 (fun H locs hM => ?_)
  obtain ⟨S_5, eS_5⟩ : ∃ zz, zz = q2 S_4 188 4 (S 188 21) := ⟨_, rfl⟩
  rw [← eS_5] at hM
  refine lv_aload_n hx hb dX11_takeRead_46 rfl (lv_at hl 0 rfl) ?_
  refine lv_aload_n hx hb dX11_takeRead_47 rfl (lv_at hl 0 rfl) ?_
  refine q_get (o := 188) (ci := 11) (k := 24) (T := TX11) (v := .int (S 188 24)) C hM (qmem_11 E ad S_5 A b (show qk 188 = 11 from by decide +kernel)) (by decide) rfl hi11 (by decide) hL8 rfl (congrArg (fun z => some (Value.int z)) (show S_5 188 24 = S 188 24 from by rw [eS_5, q2_k _ _ (by omega)]; rw [eS_4, q2_k _ _ (by omega)]; rw [eS_3, q2_k _ _ (by omega)]; rw [eS_2, q2_k _ _ (by omega)]; rw [eS_1, q2_k _ _ (by omega)])) dX11_takeRead_48 ?_
  refine q_put (o := 188) (ci := 11) (k := 6) (T := TX11) (ty := .int) (v := S 188 24) C hM (qmem_11 E ad S_5 A b (show qk 188 = 11 from by decide +kernel)) (by decide) rfl hi11 tyX11 tyX11_ok nmX11 (by decide) hL9 rfl rfl (by decide +kernel) rfl rfl (Nat.le_of_ble_eq_true rfl) (qs_11_6 E ad S_5 A b (show qk 188 = 11 from by decide +kernel) (S 188 24)) dX11_takeRead_51 (fun H locs hM => ?_)
  obtain ⟨S_6, eS_6⟩ : ∃ zz, zz = q2 S_5 188 6 (S 188 24) := ⟨_, rfl⟩
  rw [← eS_6] at hM
  refine lv_aload_n hx hb dX11_takeRead_54 rfl (lv_at hl 0 rfl) ?_
  refine lv_aload_n hx hb dX11_takeRead_55 rfl (lv_at hl 0 rfl) ?_
  refine q_get (o := 188) (ci := 11) (k := 27) (T := TX11) (v := .int (S 188 27)) C hM (qmem_11 E ad S_6 A b (show qk 188 = 11 from by decide +kernel)) (by decide) rfl hi11 (by decide) hL10 rfl (congrArg (fun z => some (Value.int z)) (show S_6 188 27 = S 188 27 from by rw [eS_6, q2_k _ _ (by omega)]; rw [eS_5, q2_k _ _ (by omega)]; rw [eS_4, q2_k _ _ (by omega)]; rw [eS_3, q2_k _ _ (by omega)]; rw [eS_2, q2_k _ _ (by omega)]; rw [eS_1, q2_k _ _ (by omega)])) dX11_takeRead_56 ?_
  refine q_put (o := 188) (ci := 11) (k := 8) (T := TX11) (ty := .int) (v := S 188 27) C hM (qmem_11 E ad S_6 A b (show qk 188 = 11 from by decide +kernel)) (by decide) rfl hi11 tyX11 tyX11_ok nmX11 (by decide) hL11 rfl rfl (by decide +kernel) rfl rfl (Nat.le_of_ble_eq_true rfl) (qs_11_8 E ad S_6 A b (show qk 188 = 11 from by decide +kernel) (S 188 27)) dX11_takeRead_59 (fun H locs hM => ?_)
  obtain ⟨S_7, eS_7⟩ : ∃ zz, zz = q2 S_6 188 8 (S 188 27) := ⟨_, rfl⟩
  rw [← eS_7] at hM
  refine lv_iconst (v := 0) hx hb dX11_takeRead_62 (by decide) ?_
  refine lv_istore_n (lv' := [(1, .int 0), (0, .ref (ad 188))]) hx hb dX11_takeRead_63 rfl hl (by decide) rfl (fun ls hl => ?_)
  have loop64 : ∀ (fu : Nat) (k : Nat) (A64 : qA2) (hk : k ≤ 37) (hr : A64 193 = qmap (fun _ _ => 0) (A 193) k) (hf : ∀ i, i ≠ 193 → A64 i = A i), 37 - k < fu → ∀ (H : Heap) (locs : List Loc) (ls : Array Slot), qM E ad S_7 A64 b (qAr ad s.heap.size) s H locs → lv_has ls 2 [(1, .int (nI k)), (0, .ref (ad 188))] → W pg l e (headSpec wsX11_takeRead { frames := 0, cells := 0, slots := 0, locals := 0 }).room s m ([.ref (ad 188)] : List Value).toArray below meth cd H locs 0 0 (MQ below (qQv E ad s.heap.size (fun S' A' b' => b = b' ∧ S' = q2 (q2 (q2 (q2 (q2 (q2 (q2 S 188 0 (A 195 0)) 188 1 (A 195 1)) 188 2 (A 195 2)) 188 3 (S 188 20)) 188 4 (S 188 21)) 188 6 (S 188 24)) 188 8 (S 188 27) ∧ (∀ j, j < 37 → A' 193 j = mini nP nK (A 196) (A 198) j) ∧ A' 189 = qmap (fun p _ => A 197 p) (A 189) 6 ∧ A' 190 = qmap (fun c _ => A 199 c) (A 190) nK ∧ A' 191 = qmap (fun h _ => A 200 h) (A 191) nW ∧ A' 192 = qmap (fun h _ => A 201 h) (A 192) nW ∧ ∀ i, (i < 189 ∨ 193 < i) → A' i = A i)) ([.ref (ad 188)] : List Value).toArray s 0 0 (qAr ad s.heap.size)) (F0 m 64 ls []) := by
    intro fu
    induction fu with
    | zero => intro k A64 hk hr hf hn; exact absurd hn (Nat.not_lt_zero _)
    | succ fu ih64 =>
      intro k A64 hk hr hf hn H locs ls hM hl
      refine lv_iload_n hx hb dX11_takeRead_64 rfl (lv_at hl 0 rfl) ?_
      refine lv_bipush (v := 37) hx hb dX11_takeRead_65 (by decide) ?_
      refine lv_icmp_ge (tgt := 83) hx hb dX11_takeRead_67 (by decide) (fun c_67 => ?_) (fun c_67 => ?_)
      · skip
        have c_67 : 37 ≤ k := (nI_leI (a := 37) (b := k) (by omega) (by omega)).mp c_67
        refine lv_iconst (v := 0) hx hb dX11_takeRead_83 (by decide) ?_
        refine lv_istore_n (lv' := [(1, .int 0), (0, .ref (ad 188))]) hx hb dX11_takeRead_84 rfl hl (by decide) rfl (fun ls hl => ?_)
        have loop85 : ∀ (fu : Nat) (k : Nat) (A85 : qA2) (hk : k ≤ 6) (hr : ∀ j, j < 37 → A85 193 j = m85 nP (A 196) k j) (h89 : A85 189 = qmap (fun p _ => A 197 p) (A 189) k) (hf : ∀ i, i ≠ 193 → i ≠ 189 → A85 i = A i), 6 - k < fu → ∀ (H : Heap) (locs : List Loc) (ls : Array Slot), qM E ad S_7 A85 b (qAr ad s.heap.size) s H locs → lv_has ls 2 [(1, .int (nI k)), (0, .ref (ad 188))] → W pg l e (headSpec wsX11_takeRead { frames := 0, cells := 0, slots := 0, locals := 0 }).room s m ([.ref (ad 188)] : List Value).toArray below meth cd H locs 0 0 (MQ below (qQv E ad s.heap.size (fun S' A' b' => b = b' ∧ S' = q2 (q2 (q2 (q2 (q2 (q2 (q2 S 188 0 (A 195 0)) 188 1 (A 195 1)) 188 2 (A 195 2)) 188 3 (S 188 20)) 188 4 (S 188 21)) 188 6 (S 188 24)) 188 8 (S 188 27) ∧ (∀ j, j < 37 → A' 193 j = mini nP nK (A 196) (A 198) j) ∧ A' 189 = qmap (fun p _ => A 197 p) (A 189) 6 ∧ A' 190 = qmap (fun c _ => A 199 c) (A 190) nK ∧ A' 191 = qmap (fun h _ => A 200 h) (A 191) nW ∧ A' 192 = qmap (fun h _ => A 201 h) (A 192) nW ∧ ∀ i, (i < 189 ∨ 193 < i) → A' i = A i)) ([.ref (ad 188)] : List Value).toArray s 0 0 (qAr ad s.heap.size)) (F0 m 85 ls []) := by
          intro fu
          induction fu with
          | zero => intro k A85 hk hr h89 hf hn; exact absurd hn (Nat.not_lt_zero _)
          | succ fu ih85 =>
            intro k A85 hk hr h89 hf hn H locs ls hM hl
            refine lv_iload_n hx hb dX11_takeRead_85 rfl (lv_at hl 0 rfl) ?_
            refine lv_bipush (v := 6) hx hb dX11_takeRead_86 (by decide) ?_
            refine lv_icmp_ge (tgt := 146) hx hb dX11_takeRead_88 (by decide) (fun c_88 => ?_) (fun c_88 => ?_)
            · skip
              have c_88 : 6 ≤ k := (nI_leI (a := 6) (b := k) (by omega) (by omega)).mp c_88
              refine lv_aload_n hx hb dX11_takeRead_146 rfl (lv_at hl 1 rfl) ?_
              refine q_get (o := 188) (ci := 11) (k := 11) (T := TX11) (v := .ref (ad 193)) C hM (qmem_11 E ad S_7 A85 b (show qk 188 = 11 from by decide +kernel)) (by decide) rfl hi11 (by decide) hL12 rfl rfl dX11_takeRead_147 ?_
              refine lv_bipush (v := 24) hx hb dX11_takeRead_150 (by decide) ?_
              refine lv_iconst (v := 1) hx hb dX11_takeRead_152 (by decide) ?_
              refine lv_aload_n hx hb dX11_takeRead_153 rfl (lv_at hl 1 rfl) ?_
              refine q_get (o := 188) (ci := 11) (k := 4) (T := TX11) (v := .int (S 188 21)) C hM (qmem_11 E ad S_7 A85 b (show qk 188 = 11 from by decide +kernel)) (by decide) rfl hi11 (by decide) hL7 rfl (congrArg (fun z => some (Value.int z)) (show S_7 188 4 = S 188 21 from by rw [eS_7, q2_k _ _ (by omega)]; rw [eS_6, q2_k _ _ (by omega)]; rw [eS_5]; exact q2_s _ _ _ _)) dX11_takeRead_154 ?_
              refine lv_as (y := nI nP) hR4 ?_
              refine lv_ishl hx hb dX11_takeRead_157 ?_
              refine lv_iconst (v := 1) hx hb dX11_takeRead_158 (by decide) ?_
              refine lv_isub hx hb dX11_takeRead_159 ?_
              refine lv_topi (fun v_8 ev_8 => ?_)
              refine q_iast C hM (show qk 193 = 12 from by decide +kernel) (by rw [(show ql 193 = 37 from by decide +kernel)]; exact (vp_nI (by decide) (by decide) : vp_in (nI 24) 37)) dX11_takeRead_160 (fun H locs hM => ?_)
              rw [show Int32.toNatClampNeg 24 = 24 from by decide] at hM
              obtain ⟨A_9, eA_9⟩ : ∃ zz, zz = q2 A85 193 24 v_8 := ⟨_, rfl⟩
              rw [← eA_9] at hM
              refine lv_iconst (v := 0) hx hb dX11_takeRead_161 (by decide) ?_
              refine lv_istore_n (lv' := [(1, .int 0), (0, .ref (ad 188))]) hx hb dX11_takeRead_162 rfl hl (by decide) rfl (fun ls hl => ?_)
              have loop163 : ∀ (fu : Nat) (k : Nat) (A163 : qA2) (hk : k ≤ nK) (hr : ∀ j, j < 37 → A163 193 j = mini nP k (A 196) (A 198) j) (h89 : A163 189 = qmap (fun p _ => A 197 p) (A 189) 6) (h90 : A163 190 = qmap (fun c _ => A 199 c) (A 190) k) (hf : ∀ i, i ≠ 193 → i ≠ 189 → i ≠ 190 → A163 i = A i), nK - k < fu → ∀ (H : Heap) (locs : List Loc) (ls : Array Slot), qM E ad S_7 A163 b (qAr ad s.heap.size) s H locs → lv_has ls 2 [(1, .int (nI k)), (0, .ref (ad 188))] → W pg l e (headSpec wsX11_takeRead { frames := 0, cells := 0, slots := 0, locals := 0 }).room s m ([.ref (ad 188)] : List Value).toArray below meth cd H locs 0 0 (MQ below (qQv E ad s.heap.size (fun S' A' b' => b = b' ∧ S' = q2 (q2 (q2 (q2 (q2 (q2 (q2 S 188 0 (A 195 0)) 188 1 (A 195 1)) 188 2 (A 195 2)) 188 3 (S 188 20)) 188 4 (S 188 21)) 188 6 (S 188 24)) 188 8 (S 188 27) ∧ (∀ j, j < 37 → A' 193 j = mini nP nK (A 196) (A 198) j) ∧ A' 189 = qmap (fun p _ => A 197 p) (A 189) 6 ∧ A' 190 = qmap (fun c _ => A 199 c) (A 190) nK ∧ A' 191 = qmap (fun h _ => A 200 h) (A 191) nW ∧ A' 192 = qmap (fun h _ => A 201 h) (A 192) nW ∧ ∀ i, (i < 189 ∨ 193 < i) → A' i = A i)) ([.ref (ad 188)] : List Value).toArray s 0 0 (qAr ad s.heap.size)) (F0 m 163 ls []) := by
                intro fu
                induction fu with
                | zero => intro k A163 hk hr h89 h90 hf hn; exact absurd hn (Nat.not_lt_zero _)
                | succ fu ih163 =>
                  intro k A163 hk hr h89 h90 hf hn H locs ls hM hl
                  refine lv_iload_n hx hb dX11_takeRead_163 rfl (lv_at hl 0 rfl) ?_
                  refine lv_aload_n hx hb dX11_takeRead_164 rfl (lv_at hl 1 rfl) ?_
                  refine q_get (o := 188) (ci := 11) (k := 6) (T := TX11) (v := .int (S 188 24)) C hM (qmem_11 E ad S_7 A163 b (show qk 188 = 11 from by decide +kernel)) (by decide) rfl hi11 (by decide) hL9 rfl (congrArg (fun z => some (Value.int z)) (show S_7 188 6 = S 188 24 from by rw [eS_7, q2_k _ _ (by omega)]; rw [eS_6]; exact q2_s _ _ _ _)) dX11_takeRead_165 ?_
                  refine lv_as (y := nI nK) hR5 ?_
                  refine lv_icmp_ge (tgt := 204) hx hb dX11_takeRead_168 (by decide) (fun c_168 => ?_) (fun c_168 => ?_)
                  · skip
                    have c_168 : nK ≤ k := (nI_leI (a := nK) (b := k) (by omega) (by omega)).mp c_168
                    refine lv_iconst (v := 0) hx hb dX11_takeRead_204 (by decide) ?_
                    refine lv_istore_n (lv' := [(1, .int 0), (0, .ref (ad 188))]) hx hb dX11_takeRead_205 rfl hl (by decide) rfl (fun ls hl => ?_)
                    have loop206 : ∀ (fu : Nat) (k2 : Nat) (A206 : qA2) (hk2 : k2 ≤ nW) (h91 : A206 191 = qmap (fun h _ => A 200 h) (A 191) k2) (h92 : A206 192 = qmap (fun h _ => A 201 h) (A 192) k2) (hf2 : ∀ i, i ≠ 191 → i ≠ 192 → A206 i = A163 i), nW - k2 < fu → ∀ (H : Heap) (locs : List Loc) (ls : Array Slot), qM E ad S_7 A206 b (qAr ad s.heap.size) s H locs → lv_has ls 2 [(1, .int (nI k2)), (0, .ref (ad 188))] → W pg l e (headSpec wsX11_takeRead { frames := 0, cells := 0, slots := 0, locals := 0 }).room s m ([.ref (ad 188)] : List Value).toArray below meth cd H locs 0 0 (MQ below (qQv E ad s.heap.size (fun S' A' b' => b = b' ∧ S' = q2 (q2 (q2 (q2 (q2 (q2 (q2 S 188 0 (A 195 0)) 188 1 (A 195 1)) 188 2 (A 195 2)) 188 3 (S 188 20)) 188 4 (S 188 21)) 188 6 (S 188 24)) 188 8 (S 188 27) ∧ (∀ j, j < 37 → A' 193 j = mini nP nK (A 196) (A 198) j) ∧ A' 189 = qmap (fun p _ => A 197 p) (A 189) 6 ∧ A' 190 = qmap (fun c _ => A 199 c) (A 190) nK ∧ A' 191 = qmap (fun h _ => A 200 h) (A 191) nW ∧ A' 192 = qmap (fun h _ => A 201 h) (A 192) nW ∧ ∀ i, (i < 189 ∨ 193 < i) → A' i = A i)) ([.ref (ad 188)] : List Value).toArray s 0 0 (qAr ad s.heap.size)) (F0 m 206 ls []) := by
                      intro fu
                      induction fu with
                      | zero => intro k2 A206 hk2 h91 h92 hf2 hn; exact absurd hn (Nat.not_lt_zero _)
                      | succ fu ih206 =>
                        intro k2 A206 hk2 h91 h92 hf2 hn H locs ls hM hl
                        refine lv_iload_n hx hb dX11_takeRead_206 rfl (lv_at hl 0 rfl) ?_
                        refine lv_aload_n hx hb dX11_takeRead_207 rfl (lv_at hl 1 rfl) ?_
                        refine q_get (o := 188) (ci := 11) (k := 8) (T := TX11) (v := .int (S 188 27)) C hM (qmem_11 E ad S_7 A206 b (show qk 188 = 11 from by decide +kernel)) (by decide) rfl hi11 (by decide) hL11 rfl (congrArg (fun z => some (Value.int z)) (show S_7 188 8 = S 188 27 from by rw [eS_7]; exact q2_s _ _ _ _)) dX11_takeRead_208 ?_
                        refine lv_as (y := nI nW) hR6 ?_
                        refine lv_icmp_ge (tgt := 244) hx hb dX11_takeRead_211 (by decide) (fun c_211 => ?_) (fun c_211 => ?_)
                        · skip
                          have c_211 : nW ≤ k2 := (nI_leI (a := nW) (b := k2) (by omega) (by omega)).mp c_211
                          exact q_vret C hM dX11_takeRead_244 (by exact ⟨rfl, by subst_vars; rfl, fun j hj => by rw [hf2 193 (by omega) (by omega), hr j hj, show k = nK by omega], by rw [hf2 189 (by omega) (by omega), h89], by rw [hf2 190 (by omega) (by omega), h90, show k = nK by omega], by rw [h91, show k2 = nW by omega], by rw [h92, show k2 = nW by omega], fun i hi => by rw [hf2 i (by omega) (by omega), hf i (by omega) (by omega) (by omega)]⟩)
                        · skip
                          have c_211 : ¬ (nW ≤ k2) := fun z => c_211 ((nI_leI (a := nW) (b := k2) (by omega) (by omega)).mpr z)
                          refine lv_aload_n hx hb dX11_takeRead_214 rfl (lv_at hl 1 rfl) ?_
                          refine q_get (o := 188) (ci := 11) (k := 9) (T := TX11) (v := .ref (ad 191)) C hM (qmem_11 E ad S_7 A206 b (show qk 188 = 11 from by decide +kernel)) (by decide) rfl hi11 (by decide) hL13 rfl rfl dX11_takeRead_215 ?_
                          refine lv_iload_n hx hb dX11_takeRead_218 rfl (lv_at hl 0 rfl) ?_
                          refine lv_aload_n hx hb dX11_takeRead_219 rfl (lv_at hl 1 rfl) ?_
                          refine q_get (o := 188) (ci := 11) (k := 28) (T := TX11) (v := .ref (ad 200)) C hM (qmem_11 E ad S_7 A206 b (show qk 188 = 11 from by decide +kernel)) (by decide) rfl hi11 (by decide) hL14 rfl rfl dX11_takeRead_220 ?_
                          refine lv_iload_n hx hb dX11_takeRead_223 rfl (lv_at hl 0 rfl) ?_
                          refine q_iald (v := A 200 k2) C hM (show qk 200 = 12 from by decide +kernel) (by rw [(show ql 200 = 10 from by decide +kernel)]; exact vp_nI (by omega) (by omega)) (by rw [nIc (by omega)]; exact (show A206 200 k2 = A 200 k2 from by rw [hf2 200 (by omega) (by omega)]; rw [hf 200 (by omega) (by omega) (by omega)])) dX11_takeRead_224 ?_
                          refine q_iast C hM (show qk 191 = 12 from by decide +kernel) (by rw [(show ql 191 = 10 from by decide +kernel)]; exact vp_nI (by omega) (by omega)) dX11_takeRead_225 (fun H locs hM => ?_)
                          rw [nIc (by omega)] at hM
                          obtain ⟨A_10, eA_10⟩ : ∃ zz, zz = q2 A206 191 k2 (A 200 k2) := ⟨_, rfl⟩
                          rw [← eA_10] at hM
                          refine lv_aload_n hx hb dX11_takeRead_226 rfl (lv_at hl 1 rfl) ?_
                          refine q_get (o := 188) (ci := 11) (k := 10) (T := TX11) (v := .ref (ad 192)) C hM (qmem_11 E ad S_7 A_10 b (show qk 188 = 11 from by decide +kernel)) (by decide) rfl hi11 (by decide) hL15 rfl rfl dX11_takeRead_227 ?_
                          refine lv_iload_n hx hb dX11_takeRead_230 rfl (lv_at hl 0 rfl) ?_
                          refine lv_aload_n hx hb dX11_takeRead_231 rfl (lv_at hl 1 rfl) ?_
                          refine q_get (o := 188) (ci := 11) (k := 29) (T := TX11) (v := .ref (ad 201)) C hM (qmem_11 E ad S_7 A_10 b (show qk 188 = 11 from by decide +kernel)) (by decide) rfl hi11 (by decide) hL16 rfl rfl dX11_takeRead_232 ?_
                          refine lv_iload_n hx hb dX11_takeRead_235 rfl (lv_at hl 0 rfl) ?_
                          refine q_iald (v := A 201 k2) C hM (show qk 201 = 12 from by decide +kernel) (by rw [(show ql 201 = 10 from by decide +kernel)]; exact vp_nI (by omega) (by omega)) (by rw [nIc (by omega)]; exact (show A_10 201 k2 = A 201 k2 from by rw [eA_10, q2_o _ _ (by omega)]; rw [hf2 201 (by omega) (by omega)]; rw [hf 201 (by omega) (by omega) (by omega)])) dX11_takeRead_236 ?_
                          refine q_iast C hM (show qk 192 = 12 from by decide +kernel) (by rw [(show ql 192 = 10 from by decide +kernel)]; exact vp_nI (by omega) (by omega)) dX11_takeRead_237 (fun H locs hM => ?_)
                          rw [nIc (by omega)] at hM
                          obtain ⟨A_11, eA_11⟩ : ∃ zz, zz = q2 A_10 192 k2 (A 201 k2) := ⟨_, rfl⟩
                          rw [← eA_11] at hM
                          refine lv_iinc (v := nI (k2 + 1)) (lv' := [(1, .int (nI (k2 + 1))), (0, .ref (ad 188))]) hx hb dX11_takeRead_238 hl (k := 0) rfl (by rw [nI_succ]; rfl) (by decide) rfl (fun ls hl => ?_)
                          refine lv_goto (tgt := 206) hx hb dX11_takeRead_241 (by decide) ?_
                          exact ih206 (k2 + 1) A_11 (by omega) (by rw [eA_11, q2_or _ _ (by omega), eA_10, q2_row, h91]; exact qmap_s _ _ _ _ rfl) (by rw [eA_11, q2_row, eA_10, q2_or _ _ (by omega), h92]; exact qmap_s _ _ _ _ rfl) (fun i h1 h2 => by rw [eA_11, q2_or _ _ h2, eA_10, q2_or _ _ h1]; exact hf2 i h1 h2) (by omega) _ _ _ hM hl
                    exact loop206 (nW - 0 + 1) 0 A163 (by omega) (by rw [qmap_0, hf 191 (by omega) (by omega) (by omega)]) (by rw [qmap_0, hf 192 (by omega) (by omega) (by omega)]) (fun _ _ _ => rfl) (Nat.lt_succ_self _) _ _ _ hM hl
                  · skip
                    have c_168 : ¬ (nK ≤ k) := fun z => c_168 ((nI_leI (a := nK) (b := k) (by omega) (by omega)).mpr z)
                    refine lv_aload_n hx hb dX11_takeRead_171 rfl (lv_at hl 1 rfl) ?_
                    refine q_get (o := 188) (ci := 11) (k := 11) (T := TX11) (v := .ref (ad 193)) C hM (qmem_11 E ad S_7 A163 b (show qk 188 = 11 from by decide +kernel)) (by decide) rfl hi11 (by decide) hL12 rfl rfl dX11_takeRead_172 ?_
                    refine lv_bipush (v := 25) hx hb dX11_takeRead_175 (by decide) ?_
                    refine lv_iload_n hx hb dX11_takeRead_177 rfl (lv_at hl 0 rfl) ?_
                    refine lv_iadd hx hb dX11_takeRead_178 ?_
                    refine lv_as (y := nI (25 + k)) (nI_add _ _) ?_
                    refine lv_aload_n hx hb dX11_takeRead_179 rfl (lv_at hl 1 rfl) ?_
                    refine q_get (o := 188) (ci := 11) (k := 25) (T := TX11) (v := .ref (ad 198)) C hM (qmem_11 E ad S_7 A163 b (show qk 188 = 11 from by decide +kernel)) (by decide) rfl hi11 (by decide) hL17 rfl rfl dX11_takeRead_180 ?_
                    refine lv_iload_n hx hb dX11_takeRead_183 rfl (lv_at hl 0 rfl) ?_
                    refine q_iald (v := A 198 k) C hM (show qk 198 = 12 from by decide +kernel) (by rw [(show ql 198 = 5 from by decide +kernel)]; exact vp_nI (by omega) (by omega)) (by rw [nIc (by omega)]; exact (show A163 198 k = A 198 k from by rw [hf 198 (by omega) (by omega) (by omega)])) dX11_takeRead_184 ?_
                    refine q_iast C hM (show qk 193 = 12 from by decide +kernel) (by rw [(show ql 193 = 37 from by decide +kernel)]; exact vp_nI (by omega) (by omega)) dX11_takeRead_185 (fun H locs hM => ?_)
                    rw [nIc (by omega)] at hM
                    obtain ⟨A_12, eA_12⟩ : ∃ zz, zz = q2 A163 193 (25 + k) (A 198 k) := ⟨_, rfl⟩
                    rw [← eA_12] at hM
                    refine lv_aload_n hx hb dX11_takeRead_186 rfl (lv_at hl 1 rfl) ?_
                    refine q_get (o := 188) (ci := 11) (k := 7) (T := TX11) (v := .ref (ad 190)) C hM (qmem_11 E ad S_7 A_12 b (show qk 188 = 11 from by decide +kernel)) (by decide) rfl hi11 (by decide) hL18 rfl rfl dX11_takeRead_187 ?_
                    refine lv_iload_n hx hb dX11_takeRead_190 rfl (lv_at hl 0 rfl) ?_
                    refine lv_aload_n hx hb dX11_takeRead_191 rfl (lv_at hl 1 rfl) ?_
                    refine q_get (o := 188) (ci := 11) (k := 26) (T := TX11) (v := .ref (ad 199)) C hM (qmem_11 E ad S_7 A_12 b (show qk 188 = 11 from by decide +kernel)) (by decide) rfl hi11 (by decide) hL19 rfl rfl dX11_takeRead_192 ?_
                    refine lv_iload_n hx hb dX11_takeRead_195 rfl (lv_at hl 0 rfl) ?_
                    refine q_iald (v := A 199 k) C hM (show qk 199 = 12 from by decide +kernel) (by rw [(show ql 199 = 5 from by decide +kernel)]; exact vp_nI (by omega) (by omega)) (by rw [nIc (by omega)]; exact (show A_12 199 k = A 199 k from by rw [eA_12, q2_o _ _ (by omega)]; rw [hf 199 (by omega) (by omega) (by omega)])) dX11_takeRead_196 ?_
                    refine q_iast C hM (show qk 190 = 12 from by decide +kernel) (by rw [(show ql 190 = 5 from by decide +kernel)]; exact vp_nI (by omega) (by omega)) dX11_takeRead_197 (fun H locs hM => ?_)
                    rw [nIc (by omega)] at hM
                    obtain ⟨A_13, eA_13⟩ : ∃ zz, zz = q2 A_12 190 k (A 199 k) := ⟨_, rfl⟩
                    rw [← eA_13] at hM
                    refine lv_iinc (v := nI (k + 1)) (lv' := [(1, .int (nI (k + 1))), (0, .ref (ad 188))]) hx hb dX11_takeRead_198 hl (k := 0) rfl (by rw [nI_succ]; rfl) (by decide) rfl (fun ls hl => ?_)
                    refine lv_goto (tgt := 163) hx hb dX11_takeRead_201 (by decide) ?_
                    exact ih163 (k + 1) A_13 (by omega) (fun j hj => by rw [eA_13, q2_or _ _ (by omega), eA_12, q2_row]; exact mini_s (by omega) hr j hj) (by rw [eA_13, q2_or _ _ (by omega), eA_12, q2_or _ _ (by omega)]; exact h89) (by rw [eA_13, q2_row, eA_12, q2_or _ _ (by omega), h90]; exact qmap_s _ _ _ _ rfl) (fun i h1 h2 h3 => by rw [eA_13, q2_or _ _ h3, eA_12, q2_or _ _ h1]; exact hf i h1 h2 h3) (by omega) _ _ _ hM hl
              exact loop163 (nK - 0 + 1) 0 A_9 (by omega) (fun j hj => by rw [eA_9, q2_row]; exact mini_0 (by rw [ev_8]; rfl) (fun j2 h2 => by rw [hr j2 h2, show k = 6 by omega]) j hj) (by rw [eA_9, q2_or _ _ (by omega), h89, show k = 6 by omega]) (by rw [eA_9, q2_or _ _ (by omega), hf 190 (by omega) (by omega), qmap_0]) (fun i h1 h2 _ => by rw [eA_9, q2_or _ _ h1]; exact hf i h1 h2) (Nat.lt_succ_self _) _ _ _ hM hl
            · skip
              have c_88 : ¬ (6 ≤ k) := fun z => c_88 ((nI_leI (a := 6) (b := k) (by omega) (by omega)).mpr z)
              refine lv_aload_n hx hb dX11_takeRead_91 rfl (lv_at hl 1 rfl) ?_
              refine q_get (o := 188) (ci := 11) (k := 11) (T := TX11) (v := .ref (ad 193)) C hM (qmem_11 E ad S_7 A85 b (show qk 188 = 11 from by decide +kernel)) (by decide) rfl hi11 (by decide) hL12 rfl rfl dX11_takeRead_92 ?_
              refine lv_bipush (v := 12) hx hb dX11_takeRead_95 (by decide) ?_
              refine lv_iload_n hx hb dX11_takeRead_97 rfl (lv_at hl 0 rfl) ?_
              refine lv_iadd hx hb dX11_takeRead_98 ?_
              refine lv_as (y := nI (12 + k)) (nI_add _ _) ?_
              refine lv_iload_n hx hb dX11_takeRead_99 rfl (lv_at hl 0 rfl) ?_
              refine lv_aload_n hx hb dX11_takeRead_100 rfl (lv_at hl 1 rfl) ?_
              refine q_get (o := 188) (ci := 11) (k := 4) (T := TX11) (v := .int (S 188 21)) C hM (qmem_11 E ad S_7 A85 b (show qk 188 = 11 from by decide +kernel)) (by decide) rfl hi11 (by decide) hL7 rfl (congrArg (fun z => some (Value.int z)) (show S_7 188 4 = S 188 21 from by rw [eS_7, q2_k _ _ (by omega)]; rw [eS_6, q2_k _ _ (by omega)]; rw [eS_5]; exact q2_s _ _ _ _)) dX11_takeRead_101 ?_
              refine lv_as (y := nI nP) hR4 ?_
              refine lv_icmp_ge (tgt := 116) hx hb dX11_takeRead_104 (by decide) (fun c_104 => ?_) (fun c_104 => ?_)
              · skip
                have c_104 : nP ≤ k := (nI_leI (a := nP) (b := k) (by omega) (by omega)).mp c_104
                refine lv_iconst (v := 0) hx hb dX11_takeRead_116 (by decide) ?_
                refine q_iast C hM (show qk 193 = 12 from by decide +kernel) (by rw [(show ql 193 = 37 from by decide +kernel)]; exact vp_nI (by omega) (by omega)) dX11_takeRead_117 (fun H locs hM => ?_)
                rw [nIc (by omega)] at hM
                obtain ⟨A_14, eA_14⟩ : ∃ zz, zz = q2 A85 193 (12 + k) 0 := ⟨_, rfl⟩
                rw [← eA_14] at hM
                refine lv_aload_n hx hb dX11_takeRead_118 rfl (lv_at hl 1 rfl) ?_
                refine q_get (o := 188) (ci := 11) (k := 11) (T := TX11) (v := .ref (ad 193)) C hM (qmem_11 E ad S_7 A_14 b (show qk 188 = 11 from by decide +kernel)) (by decide) rfl hi11 (by decide) hL12 rfl rfl dX11_takeRead_119 ?_
                refine lv_bipush (v := 18) hx hb dX11_takeRead_122 (by decide) ?_
                refine lv_iload_n hx hb dX11_takeRead_124 rfl (lv_at hl 0 rfl) ?_
                refine lv_iadd hx hb dX11_takeRead_125 ?_
                refine lv_as (y := nI (18 + k)) (nI_add _ _) ?_
                refine lv_iconst (v := (-1)) hx hb dX11_takeRead_126 (by decide) ?_
                refine q_iast C hM (show qk 193 = 12 from by decide +kernel) (by rw [(show ql 193 = 37 from by decide +kernel)]; exact vp_nI (by omega) (by omega)) dX11_takeRead_127 (fun H locs hM => ?_)
                rw [nIc (by omega)] at hM
                obtain ⟨A_15, eA_15⟩ : ∃ zz, zz = q2 A_14 193 (18 + k) (-1) := ⟨_, rfl⟩
                rw [← eA_15] at hM
                refine lv_aload_n hx hb dX11_takeRead_128 rfl (lv_at hl 1 rfl) ?_
                refine q_get (o := 188) (ci := 11) (k := 5) (T := TX11) (v := .ref (ad 189)) C hM (qmem_11 E ad S_7 A_15 b (show qk 188 = 11 from by decide +kernel)) (by decide) rfl hi11 (by decide) hL20 rfl rfl dX11_takeRead_129 ?_
                refine lv_iload_n hx hb dX11_takeRead_132 rfl (lv_at hl 0 rfl) ?_
                refine lv_aload_n hx hb dX11_takeRead_133 rfl (lv_at hl 1 rfl) ?_
                refine q_get (o := 188) (ci := 11) (k := 23) (T := TX11) (v := .ref (ad 197)) C hM (qmem_11 E ad S_7 A_15 b (show qk 188 = 11 from by decide +kernel)) (by decide) rfl hi11 (by decide) hL21 rfl rfl dX11_takeRead_134 ?_
                refine lv_iload_n hx hb dX11_takeRead_137 rfl (lv_at hl 0 rfl) ?_
                refine q_iald (v := A 197 k) C hM (show qk 197 = 12 from by decide +kernel) (by rw [(show ql 197 = 6 from by decide +kernel)]; exact vp_nI (by omega) (by omega)) (by rw [nIc (by omega)]; exact (show A_15 197 k = A 197 k from by rw [eA_15, q2_o _ _ (by omega)]; rw [eA_14, q2_o _ _ (by omega)]; rw [hf 197 (by omega) (by omega)])) dX11_takeRead_138 ?_
                refine q_iast C hM (show qk 189 = 12 from by decide +kernel) (by rw [(show ql 189 = 6 from by decide +kernel)]; exact vp_nI (by omega) (by omega)) dX11_takeRead_139 (fun H locs hM => ?_)
                rw [nIc (by omega)] at hM
                obtain ⟨A_16, eA_16⟩ : ∃ zz, zz = q2 A_15 189 k (A 197 k) := ⟨_, rfl⟩
                rw [← eA_16] at hM
                refine lv_iinc (v := nI (k + 1)) (lv' := [(1, .int (nI (k + 1))), (0, .ref (ad 188))]) hx hb dX11_takeRead_140 hl (k := 0) rfl (by rw [nI_succ]; rfl) (by decide) rfl (fun ls hl => ?_)
                refine lv_goto (tgt := 85) hx hb dX11_takeRead_143 (by decide) ?_
                exact ih85 (k + 1) A_16 (by omega) (fun j hj => by rw [eA_16, q2_or _ _ (by omega), eA_15, q2_row, eA_14, q2_row]; exact m85_s (by omega) hr (by rw [if_neg (by omega)]) j hj) (by rw [eA_16, q2_row, eA_15, q2_or _ _ (by omega), eA_14, q2_or _ _ (by omega), h89]; exact qmap_s _ _ _ _ rfl) (fun i h1 h2 => by rw [eA_16, q2_or _ _ h2, eA_15, q2_or _ _ h1, eA_14, q2_or _ _ h1]; exact hf i h1 h2) (by omega) _ _ _ hM hl
              · skip
                have c_104 : ¬ (nP ≤ k) := fun z => c_104 ((nI_leI (a := nP) (b := k) (by omega) (by omega)).mpr z)
                refine lv_aload_n hx hb dX11_takeRead_107 rfl (lv_at hl 1 rfl) ?_
                refine q_get (o := 188) (ci := 11) (k := 22) (T := TX11) (v := .ref (ad 196)) C hM (qmem_11 E ad S_7 A85 b (show qk 188 = 11 from by decide +kernel)) (by decide) rfl hi11 (by decide) hL22 rfl rfl dX11_takeRead_108 ?_
                refine lv_iload_n hx hb dX11_takeRead_111 rfl (lv_at hl 0 rfl) ?_
                refine q_iald (v := A 196 k) C hM (show qk 196 = 12 from by decide +kernel) (by rw [(show ql 196 = 6 from by decide +kernel)]; exact vp_nI (by omega) (by omega)) (by rw [nIc (by omega)]; exact (show A85 196 k = A 196 k from by rw [hf 196 (by omega) (by omega)])) dX11_takeRead_112 ?_
                refine lv_goto (tgt := 117) hx hb dX11_takeRead_113 (by decide) ?_
                refine q_iast C hM (show qk 193 = 12 from by decide +kernel) (by rw [(show ql 193 = 37 from by decide +kernel)]; exact vp_nI (by omega) (by omega)) dX11_takeRead_117 (fun H locs hM => ?_)
                rw [nIc (by omega)] at hM
                obtain ⟨A_17, eA_17⟩ : ∃ zz, zz = q2 A85 193 (12 + k) (A 196 k) := ⟨_, rfl⟩
                rw [← eA_17] at hM
                refine lv_aload_n hx hb dX11_takeRead_118 rfl (lv_at hl 1 rfl) ?_
                refine q_get (o := 188) (ci := 11) (k := 11) (T := TX11) (v := .ref (ad 193)) C hM (qmem_11 E ad S_7 A_17 b (show qk 188 = 11 from by decide +kernel)) (by decide) rfl hi11 (by decide) hL12 rfl rfl dX11_takeRead_119 ?_
                refine lv_bipush (v := 18) hx hb dX11_takeRead_122 (by decide) ?_
                refine lv_iload_n hx hb dX11_takeRead_124 rfl (lv_at hl 0 rfl) ?_
                refine lv_iadd hx hb dX11_takeRead_125 ?_
                refine lv_as (y := nI (18 + k)) (nI_add _ _) ?_
                refine lv_iconst (v := (-1)) hx hb dX11_takeRead_126 (by decide) ?_
                refine q_iast C hM (show qk 193 = 12 from by decide +kernel) (by rw [(show ql 193 = 37 from by decide +kernel)]; exact vp_nI (by omega) (by omega)) dX11_takeRead_127 (fun H locs hM => ?_)
                rw [nIc (by omega)] at hM
                obtain ⟨A_18, eA_18⟩ : ∃ zz, zz = q2 A_17 193 (18 + k) (-1) := ⟨_, rfl⟩
                rw [← eA_18] at hM
                refine lv_aload_n hx hb dX11_takeRead_128 rfl (lv_at hl 1 rfl) ?_
                refine q_get (o := 188) (ci := 11) (k := 5) (T := TX11) (v := .ref (ad 189)) C hM (qmem_11 E ad S_7 A_18 b (show qk 188 = 11 from by decide +kernel)) (by decide) rfl hi11 (by decide) hL20 rfl rfl dX11_takeRead_129 ?_
                refine lv_iload_n hx hb dX11_takeRead_132 rfl (lv_at hl 0 rfl) ?_
                refine lv_aload_n hx hb dX11_takeRead_133 rfl (lv_at hl 1 rfl) ?_
                refine q_get (o := 188) (ci := 11) (k := 23) (T := TX11) (v := .ref (ad 197)) C hM (qmem_11 E ad S_7 A_18 b (show qk 188 = 11 from by decide +kernel)) (by decide) rfl hi11 (by decide) hL21 rfl rfl dX11_takeRead_134 ?_
                refine lv_iload_n hx hb dX11_takeRead_137 rfl (lv_at hl 0 rfl) ?_
                refine q_iald (v := A 197 k) C hM (show qk 197 = 12 from by decide +kernel) (by rw [(show ql 197 = 6 from by decide +kernel)]; exact vp_nI (by omega) (by omega)) (by rw [nIc (by omega)]; exact (show A_18 197 k = A 197 k from by rw [eA_18, q2_o _ _ (by omega)]; rw [eA_17, q2_o _ _ (by omega)]; rw [hf 197 (by omega) (by omega)])) dX11_takeRead_138 ?_
                refine q_iast C hM (show qk 189 = 12 from by decide +kernel) (by rw [(show ql 189 = 6 from by decide +kernel)]; exact vp_nI (by omega) (by omega)) dX11_takeRead_139 (fun H locs hM => ?_)
                rw [nIc (by omega)] at hM
                obtain ⟨A_19, eA_19⟩ : ∃ zz, zz = q2 A_18 189 k (A 197 k) := ⟨_, rfl⟩
                rw [← eA_19] at hM
                refine lv_iinc (v := nI (k + 1)) (lv' := [(1, .int (nI (k + 1))), (0, .ref (ad 188))]) hx hb dX11_takeRead_140 hl (k := 0) rfl (by rw [nI_succ]; rfl) (by decide) rfl (fun ls hl => ?_)
                refine lv_goto (tgt := 85) hx hb dX11_takeRead_143 (by decide) ?_
                exact ih85 (k + 1) A_19 (by omega) (fun j hj => by rw [eA_19, q2_or _ _ (by omega), eA_18, q2_row, eA_17, q2_row]; exact m85_s (by omega) hr (by rw [if_pos (by omega)]) j hj) (by rw [eA_19, q2_row, eA_18, q2_or _ _ (by omega), eA_17, q2_or _ _ (by omega), h89]; exact qmap_s _ _ _ _ rfl) (fun i h1 h2 => by rw [eA_19, q2_or _ _ h2, eA_18, q2_or _ _ h1, eA_17, q2_or _ _ h1]; exact hf i h1 h2) (by omega) _ _ _ hM hl
        exact loop85 (6 - 0 + 1) 0 A64 (by omega) (fun j hj => by rw [hr, show k = 37 by omega, qmap_in hj]; unfold m85; simp) (by rw [qmap_0, hf 189 (by omega)]) (fun i h1 _ => hf i h1) (Nat.lt_succ_self _) _ _ _ hM hl
      · skip
        have c_67 : ¬ (37 ≤ k) := fun z => c_67 ((nI_leI (a := 37) (b := k) (by omega) (by omega)).mpr z)
        refine lv_aload_n hx hb dX11_takeRead_70 rfl (lv_at hl 1 rfl) ?_
        refine q_get (o := 188) (ci := 11) (k := 11) (T := TX11) (v := .ref (ad 193)) C hM (qmem_11 E ad S_7 A64 b (show qk 188 = 11 from by decide +kernel)) (by decide) rfl hi11 (by decide) hL12 rfl rfl dX11_takeRead_71 ?_
        refine lv_iload_n hx hb dX11_takeRead_74 rfl (lv_at hl 0 rfl) ?_
        refine lv_iconst (v := 0) hx hb dX11_takeRead_75 (by decide) ?_
        refine q_iast C hM (show qk 193 = 12 from by decide +kernel) (by rw [(show ql 193 = 37 from by decide +kernel)]; exact vp_nI (by omega) (by omega)) dX11_takeRead_76 (fun H locs hM => ?_)
        rw [nIc (by omega)] at hM
        obtain ⟨A_20, eA_20⟩ : ∃ zz, zz = q2 A64 193 k 0 := ⟨_, rfl⟩
        rw [← eA_20] at hM
        refine lv_iinc (v := nI (k + 1)) (lv' := [(1, .int (nI (k + 1))), (0, .ref (ad 188))]) hx hb dX11_takeRead_77 hl (k := 0) rfl (by rw [nI_succ]; rfl) (by decide) rfl (fun ls hl => ?_)
        refine lv_goto (tgt := 64) hx hb dX11_takeRead_80 (by decide) ?_
        exact ih64 (k + 1) A_20 (by omega) (by rw [eA_20, q2_row, hr]; exact qmap_s _ _ _ _ rfl) (by rw [eA_20]; exact qfr_up hf) (by omega) _ _ _ hM hl
  exact loop64 (37 - 0 + 1) 0 A (by omega) ((qmap_0 _ _).symm) (fun _ _ => rfl) (Nat.lt_succ_self _) _ _ _ hM hl
