set_option maxHeartbeats 4000000 in
set_option maxRecDepth 100000 in
theorem c_X11_into (E : qE) (ad : Nat → Nat) (l : Launch) (S A : qA2) (b : qB) (g gl kk : Nat) (kg : qk g = 12) (lg0 : ql g = gl) (hgl : gl ≤ 20) (hkk : kk < gl) (hgb : 195 ≤ g ∧ g ≤ 201) (lo mo : Nat) (n a : Nat) (hln : S 188 14 = nI n) (hnb : n ≤ 240) (hat : S 188 16 = nI a) (hab : a ≤ 245) (hlo : lo < 1000) (hmo : mo < 1000) : MI E ad l yX11_into wsX11_into { frames := 2, cells := 0, slots := 0, locals := 48 } [.ref (ad 188), .ref (ad g), .int (nI kk), .int (nI lo), .int (nI mo)] S A b (fun r S' A' b' => b = b' ∧ (∀ i j, (i ≠ 188 ∨ j < 15 ∨ 18 < j) → S' i j = S i j) ∧ ((∃ kd pl x, qnum qstM (A 194) n a lo mo = .inl (kd, pl) ∧ (1 ≤ kd ∧ kd ≤ 2) ∧ r = nI kd ∧ S' 188 15 = nI pl ∧ A' = q2 A g kk x) ∨ (∃ v e a1, qnum qstM (A 194) n a lo mo = .inr (v, e, a1) ∧ lo ≤ v ∧ v ≤ mo ∧ (a ≤ e ∧ e ≤ max n a) ∧ r = 0 ∧ S' 188 15 = S 188 15 ∧ S' 188 16 = nI e ∧ S' 188 17 = nI v ∧ S' 188 18 = nI a1 ∧ A' = q2 A g kk (nI v)))) := by
  refine MI.of (cc := cX11_into) (maxL := 6) (ret := some .int) RX11 rfl (by decide) rfl ?_
  intro pg e s m below meth cd C hM
  have hx := C.1
  have hb := C.2.1
  have hts := C.2.2.2.2.1
  have hA : ∀ q, s.heap.size ≤ q → qAr ad s.heap.size q := fun _ h => Or.inr h
  have hi11 : ∀ w ∈ u_ws RX11 TX11 45, w ∈ wsX11_into := by decide +kernel
  have hL0 := hts (.fieldLink RX11 128 "CrowFencesModel" "number" "I") (by decide +kernel)
  have hl := lv_entry ([.ref (ad 188), .ref (ad g), .int (nI kk), .int (nI lo), .int (nI mo)]) (n := 6) (Nat.le_of_ble_eq_true rfl)
  rw [lg_entry_eq]
  generalize (lg_sl ([.ref (ad 188), .ref (ad g), .int (nI kk), .int (nI lo), .int (nI mo)]) ++ List.replicate (6 - (lg_sl ([.ref (ad 188), .ref (ad g), .int (nI kk), .int (nI lo), .int (nI mo)])).length) Slot.unset).toArray = ls at hl ⊢
  have hl : lv_has ls 6 [(0, .ref (ad 188)), (1, .ref (ad g)), (2, .int (nI kk)), (3, .int (nI lo)), (4, .int (nI mo))] := hl
  refine lv_aload_n hx hb dX11_into_0 rfl (lv_at hl 0 rfl) ?_
  refine lv_iload_n hx hb dX11_into_1 rfl (lv_at hl 3 rfl) ?_
  refine lv_iload hx hb dX11_into_2 (lv_at hl 4 rfl) ?_
  refine q_callVI (n := 2) (o := 188) (As := [.int (nI lo), .int (nI mo)]) (rest := []) C hM hA (c_X11_takeNumber E ad l S A b lo mo n a hln (by omega) hat (by omega) (by omega) (by omega)) (qmem_11 E ad S A b (show qk 188 = 11 from by decide +kernel)) (by decide) rfl gX11_into_X11_takeNumber rfl rfl rfl (by decide +kernel) ⟨Nat.le_of_ble_eq_true rfl, Nat.le_of_ble_eq_true rfl⟩ rfl hl.1 rfl (Nat.le_of_ble_eq_true rfl) ⟨Nat.zero_le _, Nat.zero_le _⟩ dX11_into_4 (fun r_1 S_2 A_3 b_4 H locs qr_1 hM => ?_)
  obtain ⟨⟨e2, e3⟩, hgS_2, hD⟩ := qr_1
  subst e2; subst e3
  rcases hD with ⟨kd5, pl5, hn5, hk5, er_1, h155⟩ | ⟨v5, en5, at5, hn5, hlo5, hhi5, hen5, er_1, h155, h165, h175, h185⟩
  · skip
    subst er_1
    refine lv_istore (lv' := [(5, .int (nI kd5)), (0, .ref (ad 188)), (1, .ref (ad g)), (2, .int (nI kk)), (3, .int (nI lo)), (4, .int (nI mo))]) hx hb dX11_into_7 hl (by decide) rfl (fun ls hl => ?_)
    refine lv_aload_n hx hb dX11_into_9 rfl (lv_at hl 2 rfl) ?_
    refine lv_iload_n hx hb dX11_into_10 rfl (lv_at hl 3 rfl) ?_
    refine lv_aload_n hx hb dX11_into_11 rfl (lv_at hl 1 rfl) ?_
    refine q_get (o := 188) (ci := 11) (k := 17) (T := TX11) (v := .int (S_2 188 17)) C hM (qmem_11 E ad S_2 A b (show qk 188 = 11 from by decide +kernel)) (by decide) rfl hi11 (by decide) hL0 rfl rfl dX11_into_12 ?_
    refine q_iast C hM kg (by rw [lg0]; exact vp_nI (by omega) (by omega)) dX11_into_15 (fun H locs hM => ?_)
    rw [nIc (by omega)] at hM
    obtain ⟨A_6, eA_6⟩ : ∃ zz, zz = q2 A g kk (S_2 188 17) := ⟨_, rfl⟩
    rw [← eA_6] at hM
    refine lv_iload hx hb dX11_into_16 (lv_at hl 0 rfl) ?_
    exact q_iret C hM dX11_into_18 (by exact ⟨rfl, (fun i j hij => by rw [hgS_2 i j (by omega)]), Or.inl ⟨kd5, pl5, _, hn5, hk5, rfl, (show S_2 188 15 = nI pl5 from by exact h155), eA_6⟩⟩)
  · skip
    subst er_1
    refine lv_istore (lv' := [(5, .int 0), (0, .ref (ad 188)), (1, .ref (ad g)), (2, .int (nI kk)), (3, .int (nI lo)), (4, .int (nI mo))]) hx hb dX11_into_7 hl (by decide) rfl (fun ls hl => ?_)
    refine lv_aload_n hx hb dX11_into_9 rfl (lv_at hl 2 rfl) ?_
    refine lv_iload_n hx hb dX11_into_10 rfl (lv_at hl 3 rfl) ?_
    refine lv_aload_n hx hb dX11_into_11 rfl (lv_at hl 1 rfl) ?_
    refine q_get (o := 188) (ci := 11) (k := 17) (T := TX11) (v := .int (nI v5)) C hM (qmem_11 E ad S_2 A b (show qk 188 = 11 from by decide +kernel)) (by decide) rfl hi11 (by decide) hL0 rfl (congrArg (fun z => some (Value.int z)) (show S_2 188 17 = nI v5 from by exact h175)) dX11_into_12 ?_
    refine q_iast C hM kg (by rw [lg0]; exact vp_nI (by omega) (by omega)) dX11_into_15 (fun H locs hM => ?_)
    rw [nIc (by omega)] at hM
    obtain ⟨A_7, eA_7⟩ : ∃ zz, zz = q2 A g kk (nI v5) := ⟨_, rfl⟩
    rw [← eA_7] at hM
    refine lv_iload hx hb dX11_into_16 (lv_at hl 0 rfl) ?_
    exact q_iret C hM dX11_into_18 (by exact ⟨rfl, (fun i j hij => by rw [hgS_2 i j (by omega)]), Or.inr ⟨v5, en5, at5, hn5, hlo5, hhi5, hen5, rfl, (show S_2 188 15 = S 188 15 from by rw [h155]), (show S_2 188 16 = nI en5 from by exact h165), (show S_2 188 17 = nI v5 from by exact h175), (show S_2 188 18 = nI at5 from by exact h185), eA_7⟩⟩)

set_option maxHeartbeats 4000000 in
set_option maxRecDepth 100000 in
theorem c_X11_takeLaw (E : qE) (ad : Nat → Nat) (l : Launch) (S A : qA2) (b : qB) (n a : Nat) (hln : S 188 14 = nI n) (hnb : n ≤ 240) (hat : S 188 16 = nI (a + 1)) (hab : a < n) (nC nP nK nW : Nat) (P : qPS) (hP : mPr nC nP nK nW S A P) (hC0 : nC = 0) : MI E ad l yX11_takeLaw wsX11_takeLaw { frames := 3, cells := 0, slots := 0, locals := 73 } [.ref (ad 188)] S A b (fun r S' A' b' => b = b' ∧ (∀ i j, (i ≠ 188 ∨ j < 15 ∨ 27 < j) → S' i j = S i j) ∧ (∀ i, (i < 195 ∨ 201 < i) → A' i = A i) ∧ ((∃ kd pl, qbW qstM (A 194) n a P = .inl (kd, pl) ∧ (1 ≤ kd ∧ kd ≤ 4) ∧ r = nI kd ∧ S' 188 15 = nI pl) ∨ (∃ e P', qbW qstM (A 194) n a P = .inr (e, P') ∧ (a < e ∧ e ≤ 245) ∧ r = 0 ∧ S' 188 16 = nI e ∧ S' 188 15 = S 188 15 ∧ mPX S' A' P'))) := by
  obtain ⟨⟨hRl, hP0, hCb⟩, hP12, hP3, ⟨hR4, hP4, hPb⟩, ⟨hR5, hP5, hKb⟩, ⟨hR6, hP6, hWb⟩, hPp, hPk, hPw⟩ := id hP
  refine MI.of (cc := cX11_takeLaw) (maxL := 2) (ret := some .int) RX11 rfl (by decide) rfl ?_
  intro pg e s m below meth cd C hM
  have hx := C.1
  have hb := C.2.1
  have hts := C.2.2.2.2.1
  have hA : ∀ q, s.heap.size ≤ q → qAr ad s.heap.size q := fun _ h => Or.inr h
  have hi11 : ∀ w ∈ u_ws RX11 TX11 45, w ∈ wsX11_takeLaw := by decide +kernel
  have hL0 := hts (.fieldLink RX11 32 "CrowFencesModel" "readLaw" "[I") (by decide +kernel)
  have hl := lv_entry ([.ref (ad 188)]) (n := 2) (Nat.le_of_ble_eq_true rfl)
  rw [lg_entry_eq]
  generalize (lg_sl ([.ref (ad 188)]) ++ List.replicate (2 - (lg_sl ([.ref (ad 188)])).length) Slot.unset).toArray = ls at hl ⊢
  have hl : lv_has ls 2 [(0, .ref (ad 188))] := hl
  refine lv_aload_n hx hb dX11_takeLaw_0 rfl (lv_at hl 0 rfl) ?_
  refine lv_aload_n hx hb dX11_takeLaw_1 rfl (lv_at hl 0 rfl) ?_
  refine q_get (o := 188) (ci := 11) (k := 19) (T := TX11) (v := .ref (ad 195)) C hM (qmem_11 E ad S A b (show qk 188 = 11 from by decide +kernel)) (by decide) rfl hi11 (by decide) hL0 rfl rfl dX11_takeLaw_2 ?_
  refine lv_iconst (v := 0) hx hb dX11_takeLaw_5 (by decide) ?_
  refine lv_iconst (v := 1) hx hb dX11_takeLaw_6 (by decide) ?_
  refine lv_bipush (v := 12) hx hb dX11_takeLaw_7 (by decide) ?_
  refine q_callVI (n := 4) (o := 188) (As := [.ref (ad 195), .int 0, .int 1, .int 12]) (rest := []) C hM hA (c_X11_into E ad l S A b 195 3 0 (show qk 195 = 12 from by decide +kernel) (show ql 195 = 3 from by decide +kernel) (by decide) (by omega) (by decide) 1 12 n (a + 1) hln (by omega) hat (by omega) (by omega) (by omega)) (qmem_11 E ad S A b (show qk 188 = 11 from by decide +kernel)) (by decide) rfl gX11_takeLaw_X11_into rfl rfl rfl (by decide +kernel) ⟨Nat.le_of_ble_eq_true rfl, Nat.le_of_ble_eq_true rfl⟩ rfl hl.1 rfl (Nat.le_of_ble_eq_true rfl) ⟨Nat.zero_le _, Nat.zero_le _⟩ dX11_takeLaw_9 (fun r_1 S_2 A_3 b_4 H locs qr_1 hM => ?_)
  obtain ⟨e3, hgS_2, hD⟩ := qr_1
  subst e3
  rcases hD with ⟨kd5, pl5, xx5, hn5, hk5, er_1, h155, eA_3⟩ | ⟨v5, en5, at5, hn5, hlo5, hhi5, hen5, er_1, h155, h165, h175, h185, eA_3⟩
  · skip
    subst er_1
    refine lv_istore_n (lv' := [(1, .int (nI kd5)), (0, .ref (ad 188))]) hx hb dX11_takeLaw_12 rfl hl (by decide) rfl (fun ls hl => ?_)
    refine lv_iload_n hx hb dX11_takeLaw_13 rfl (lv_at hl 0 rfl) ?_
    refine lv_if_le (tgt := 21) hx hb dX11_takeLaw_14 (by decide) (fun c_14 => ?_) (fun c_14 => ?_)
    · skip
      have c_14 : kd5 ≤ 0 := (nI_leI (a := kd5) (b := 0) (by omega) (by omega)).mp c_14
      omega
    · skip
      have c_14 : ¬ (kd5 ≤ 0) := fun z => c_14 ((nI_leI (a := kd5) (b := 0) (by omega) (by omega)).mpr z)
      refine lv_iload_n hx hb dX11_takeLaw_17 rfl (lv_at hl 0 rfl) ?_
      refine lv_goto (tgt := 33) hx hb dX11_takeLaw_18 (by decide) ?_
      refine lv_istore_n (lv' := [(1, .int (nI kd5)), (0, .ref (ad 188))]) hx hb dX11_takeLaw_33 rfl hl (by decide) rfl (fun ls hl => ?_)
      refine lv_iload_n hx hb dX11_takeLaw_34 rfl (lv_at hl 0 rfl) ?_
      refine lv_if_le (tgt := 42) hx hb dX11_takeLaw_35 (by decide) (fun c_35 => ?_) (fun c_35 => ?_)
      · skip
        have c_35 : kd5 ≤ 0 := (nI_leI (a := kd5) (b := 0) (by omega) (by omega)).mp c_35
        omega
      · skip
        have c_35 : ¬ (kd5 ≤ 0) := fun z => c_35 ((nI_leI (a := kd5) (b := 0) (by omega) (by omega)).mpr z)
        refine lv_iload_n hx hb dX11_takeLaw_38 rfl (lv_at hl 0 rfl) ?_
        refine lv_goto (tgt := 54) hx hb dX11_takeLaw_39 (by decide) ?_
        exact q_iret C hM dX11_takeLaw_54 (by exact ⟨rfl, (fun i j hij => by rw [hgS_2 i j (by omega)]), (fun i hi => by rw [eA_3, q2_or _ _ (by omega)]), Or.inl ⟨kd5, pl5, by simp only [qbW, qbind, hn5], by omega, rfl, (show S_2 188 15 = nI pl5 from by exact h155)⟩⟩)
  · skip
    subst er_1
    refine lv_istore_n (lv' := [(1, .int 0), (0, .ref (ad 188))]) hx hb dX11_takeLaw_12 rfl hl (by decide) rfl (fun ls hl => ?_)
    refine lv_iload_n hx hb dX11_takeLaw_13 rfl (lv_at hl 0 rfl) ?_
    refine lv_if_le (tgt := 21) hx hb dX11_takeLaw_14 (by decide) (fun c_14 => ?_) (fun c_14 => ?_)
    · skip
      have c_14 : 0 ≤ 0 := (nI_leI (a := 0) (b := 0) (by omega) (by omega)).mp c_14
      refine lv_aload_n hx hb dX11_takeLaw_21 rfl (lv_at hl 1 rfl) ?_
      refine lv_aload_n hx hb dX11_takeLaw_22 rfl (lv_at hl 1 rfl) ?_
      refine q_get (o := 188) (ci := 11) (k := 19) (T := TX11) (v := .ref (ad 195)) C hM (qmem_11 E ad S_2 A_3 b (show qk 188 = 11 from by decide +kernel)) (by decide) rfl hi11 (by decide) hL0 rfl rfl dX11_takeLaw_23 ?_
      refine lv_iconst (v := 1) hx hb dX11_takeLaw_26 (by decide) ?_
      refine lv_iconst (v := 0) hx hb dX11_takeLaw_27 (by decide) ?_
      refine lv_bipush (v := 9) hx hb dX11_takeLaw_28 (by decide) ?_
      refine q_callVI (n := 4) (o := 188) (As := [.ref (ad 195), .int 1, .int 0, .int 9]) (rest := []) C hM hA (c_X11_into E ad l S_2 A_3 b 195 3 1 (show qk 195 = 12 from by decide +kernel) (show ql 195 = 3 from by decide +kernel) (by decide) (by omega) (by decide) 0 9 n en5 ((show S_2 188 14 = S 188 14 from by rw [hgS_2 188 14 (by omega)]).trans hln) (by omega) (show S_2 188 16 = nI en5 from by exact h165) (by omega) (by omega) (by omega)) (qmem_11 E ad S_2 A_3 b (show qk 188 = 11 from by decide +kernel)) (by decide) rfl gX11_takeLaw_X11_into rfl rfl rfl (by decide +kernel) ⟨Nat.le_of_ble_eq_true rfl, Nat.le_of_ble_eq_true rfl⟩ rfl hl.1 rfl (Nat.le_of_ble_eq_true rfl) ⟨Nat.zero_le _, Nat.zero_le _⟩ dX11_takeLaw_30 (fun r_6 S_7 A_8 b_9 H locs qr_6 hM => ?_)
      rw [show A_3 194 = A 194 from by rw [eA_3, q2_or _ _ (by omega)]] at qr_6
      obtain ⟨e3, hgS_7, hD⟩ := qr_6
      subst e3
      rcases hD with ⟨kd10, pl10, xx10, hn10, hk10, er_6, h1510, eA_8⟩ | ⟨v10, en10, at10, hn10, hlo10, hhi10, hen10, er_6, h1510, h1610, h1710, h1810, eA_8⟩
      · skip
        subst er_6
        refine lv_istore_n (lv' := [(1, .int (nI kd10)), (0, .ref (ad 188))]) hx hb dX11_takeLaw_33 rfl hl (by decide) rfl (fun ls hl => ?_)
        refine lv_iload_n hx hb dX11_takeLaw_34 rfl (lv_at hl 0 rfl) ?_
        refine lv_if_le (tgt := 42) hx hb dX11_takeLaw_35 (by decide) (fun c_35 => ?_) (fun c_35 => ?_)
        · skip
          have c_35 : kd10 ≤ 0 := (nI_leI (a := kd10) (b := 0) (by omega) (by omega)).mp c_35
          omega
        · skip
          have c_35 : ¬ (kd10 ≤ 0) := fun z => c_35 ((nI_leI (a := kd10) (b := 0) (by omega) (by omega)).mpr z)
          refine lv_iload_n hx hb dX11_takeLaw_38 rfl (lv_at hl 0 rfl) ?_
          refine lv_goto (tgt := 54) hx hb dX11_takeLaw_39 (by decide) ?_
          exact q_iret C hM dX11_takeLaw_54 (by exact ⟨rfl, (fun i j hij => by rw [hgS_7 i j (by omega), hgS_2 i j (by omega)]), (fun i hi => by rw [eA_8, q2_or _ _ (by omega), eA_3, q2_or _ _ (by omega)]), Or.inl ⟨kd10, pl10, by simp only [qbW, qbind, hn5, hn10], by omega, rfl, (show S_7 188 15 = nI pl10 from by exact h1510)⟩⟩)
      · skip
        subst er_6
        refine lv_istore_n (lv' := [(1, .int 0), (0, .ref (ad 188))]) hx hb dX11_takeLaw_33 rfl hl (by decide) rfl (fun ls hl => ?_)
        refine lv_iload_n hx hb dX11_takeLaw_34 rfl (lv_at hl 0 rfl) ?_
        refine lv_if_le (tgt := 42) hx hb dX11_takeLaw_35 (by decide) (fun c_35 => ?_) (fun c_35 => ?_)
        · skip
          have c_35 : 0 ≤ 0 := (nI_leI (a := 0) (b := 0) (by omega) (by omega)).mp c_35
          refine lv_aload_n hx hb dX11_takeLaw_42 rfl (lv_at hl 1 rfl) ?_
          refine lv_aload_n hx hb dX11_takeLaw_43 rfl (lv_at hl 1 rfl) ?_
          refine q_get (o := 188) (ci := 11) (k := 19) (T := TX11) (v := .ref (ad 195)) C hM (qmem_11 E ad S_7 A_8 b (show qk 188 = 11 from by decide +kernel)) (by decide) rfl hi11 (by decide) hL0 rfl rfl dX11_takeLaw_44 ?_
          refine lv_iconst (v := 2) hx hb dX11_takeLaw_47 (by decide) ?_
          refine lv_iconst (v := 0) hx hb dX11_takeLaw_48 (by decide) ?_
          refine lv_bipush (v := 99) hx hb dX11_takeLaw_49 (by decide) ?_
          refine q_callVI (n := 4) (o := 188) (As := [.ref (ad 195), .int 2, .int 0, .int 99]) (rest := []) C hM hA (c_X11_into E ad l S_7 A_8 b 195 3 2 (show qk 195 = 12 from by decide +kernel) (show ql 195 = 3 from by decide +kernel) (by decide) (by omega) (by decide) 0 99 n en10 ((show S_7 188 14 = S 188 14 from by rw [hgS_7 188 14 (by omega)]; rw [hgS_2 188 14 (by omega)]).trans hln) (by omega) (show S_7 188 16 = nI en10 from by exact h1610) (by omega) (by omega) (by omega)) (qmem_11 E ad S_7 A_8 b (show qk 188 = 11 from by decide +kernel)) (by decide) rfl gX11_takeLaw_X11_into rfl rfl rfl (by decide +kernel) ⟨Nat.le_of_ble_eq_true rfl, Nat.le_of_ble_eq_true rfl⟩ rfl hl.1 rfl (Nat.le_of_ble_eq_true rfl) ⟨Nat.zero_le _, Nat.zero_le _⟩ dX11_takeLaw_51 (fun r_11 S_12 A_13 b_14 H locs qr_11 hM => ?_)
          rw [show A_8 194 = A 194 from by rw [eA_8, q2_or _ _ (by omega), eA_3, q2_or _ _ (by omega)]] at qr_11
          obtain ⟨e3, hgS_12, hD⟩ := qr_11
          subst e3
          rcases hD with ⟨kd15, pl15, xx15, hn15, hk15, er_11, h1515, eA_13⟩ | ⟨v15, en15, at15, hn15, hlo15, hhi15, hen15, er_11, h1515, h1615, h1715, h1815, eA_13⟩
          · skip
            subst er_11
            exact q_iret C hM dX11_takeLaw_54 (by exact ⟨rfl, (fun i j hij => by rw [hgS_12 i j (by omega), hgS_7 i j (by omega), hgS_2 i j (by omega)]), (fun i hi => by rw [eA_13, q2_or _ _ (by omega), eA_8, q2_or _ _ (by omega), eA_3, q2_or _ _ (by omega)]), Or.inl ⟨kd15, pl15, by simp only [qbW, qbind, hn5, hn10, hn15], by omega, rfl, (show S_12 188 15 = nI pl15 from by exact h1515)⟩⟩)
          · skip
            subst er_11
            exact q_iret C hM dX11_takeLaw_54 (by exact ⟨rfl, (fun i j hij => by rw [hgS_12 i j (by omega), hgS_7 i j (by omega), hgS_2 i j (by omega)]), (fun i hi => by rw [eA_13, q2_or _ _ (by omega), eA_8, q2_or _ _ (by omega), eA_3, q2_or _ _ (by omega)]), Or.inr ⟨en15, _, by simp only [qbW, qbind, hn5, hn10, hn15]; rfl, by omega, rfl, (show S_12 188 16 = nI en15 from by exact h1615), (show S_12 188 15 = S 188 15 from by rw [h1515]; rw [h1510]; rw [h155]), ⟨v5, nP, nK, nW, mPr_law (hC0 ▸ hP) hhi5 ((show S_12 188 20 = S 188 20 from by rw [hgS_12 188 20 (by omega)]; rw [hgS_7 188 20 (by omega)]; rw [hgS_2 188 20 (by omega)])) ((show S_12 188 21 = S 188 21 from by rw [hgS_12 188 21 (by omega)]; rw [hgS_7 188 21 (by omega)]; rw [hgS_2 188 21 (by omega)])) ((show S_12 188 24 = S 188 24 from by rw [hgS_12 188 24 (by omega)]; rw [hgS_7 188 24 (by omega)]; rw [hgS_2 188 24 (by omega)])) ((show S_12 188 27 = S 188 27 from by rw [hgS_12 188 27 (by omega)]; rw [hgS_7 188 27 (by omega)]; rw [hgS_2 188 27 (by omega)])) (by rw [eA_13, eA_8, eA_3])⟩⟩⟩)
        · skip
          have c_35 : ¬ (0 ≤ 0) := fun z => c_35 ((nI_leI (a := 0) (b := 0) (by omega) (by omega)).mpr z)
          omega
    · skip
      have c_14 : ¬ (0 ≤ 0) := fun z => c_14 ((nI_leI (a := 0) (b := 0) (by omega) (by omega)).mpr z)
      omega

set_option maxHeartbeats 4000000 in
set_option maxRecDepth 100000 in
theorem c_X11_takeRoad (E : qE) (ad : Nat → Nat) (l : Launch) (S A : qA2) (b : qB) (n a : Nat) (hln : S 188 14 = nI n) (hnb : n ≤ 240) (hat : S 188 16 = nI (a + 1)) (hab : a < n) (nC nP nK nW : Nat) (P : qPS) (hP : mPr nC nP nK nW S A P) (hC1 : ¬ nC = 0) : MI E ad l yX11_takeRoad wsX11_takeRoad { frames := 2, cells := 0, slots := 0, locals := 48 } [.ref (ad 188)] S A b (fun r S' A' b' => b = b' ∧ (∀ i j, (i ≠ 188 ∨ j < 15 ∨ 27 < j) → S' i j = S i j) ∧ (∀ i, (i < 195 ∨ 201 < i) → A' i = A i) ∧ ((∃ kd pl, qbR qstM (A 194) n a nC P = .inl (kd, pl) ∧ (1 ≤ kd ∧ kd ≤ 4) ∧ r = nI kd ∧ S' 188 15 = nI pl) ∨ (∃ e P', qbR qstM (A 194) n a nC P = .inr (e, P') ∧ (a < e ∧ e ≤ 245) ∧ r = 0 ∧ S' 188 16 = nI e ∧ S' 188 15 = S 188 15 ∧ mPX S' A' P'))) := by
  obtain ⟨⟨hRl, hP0, hCb⟩, hP12, hP3, ⟨hR4, hP4, hPb⟩, ⟨hR5, hP5, hKb⟩, ⟨hR6, hP6, hWb⟩, hPp, hPk, hPw⟩ := id hP
  refine MI.of (cc := cX11_takeRoad) (maxL := 2) (ret := some .int) RX11 rfl (by decide) rfl ?_
  intro pg e s m below meth cd C hM
  have hx := C.1
  have hb := C.2.1
  have hts := C.2.2.2.2.1
  have hA : ∀ q, s.heap.size ≤ q → qAr ad s.heap.size q := fun _ h => Or.inr h
  have hi11 : ∀ w ∈ u_ws RX11 TX11 45, w ∈ wsX11_takeRoad := by decide +kernel
  have hL0 := hts (.fieldLink RX11 32 "CrowFencesModel" "readLaw" "[I") (by decide +kernel)
  have hL1 := hts (.fieldLink RX11 138 "CrowFencesModel" "readRoad" "I") (by decide +kernel)
  have hL2 := hts (.fieldLink RX11 128 "CrowFencesModel" "number" "I") (by decide +kernel)
  have hL3 := hts (.fieldLink RX11 125 "CrowFencesModel" "numberAt" "I") (by decide +kernel)
  have hl := lv_entry ([.ref (ad 188)]) (n := 2) (Nat.le_of_ble_eq_true rfl)
  rw [lg_entry_eq]
  generalize (lg_sl ([.ref (ad 188)]) ++ List.replicate (2 - (lg_sl ([.ref (ad 188)])).length) Slot.unset).toArray = ls at hl ⊢
  have hl : lv_has ls 2 [(0, .ref (ad 188))] := hl
  refine lv_aload_n hx hb dX11_takeRoad_0 rfl (lv_at hl 0 rfl) ?_
  refine lv_iconst (v := 0) hx hb dX11_takeRoad_1 (by decide) ?_
  refine lv_aload_n hx hb dX11_takeRoad_2 rfl (lv_at hl 0 rfl) ?_
  refine q_get (o := 188) (ci := 11) (k := 19) (T := TX11) (v := .ref (ad 195)) C hM (qmem_11 E ad S A b (show qk 188 = 11 from by decide +kernel)) (by decide) rfl hi11 (by decide) hL0 rfl rfl dX11_takeRoad_3 ?_
  refine lv_iconst (v := 0) hx hb dX11_takeRoad_6 (by decide) ?_
  refine q_iald (v := A 195 0) C hM (show qk 195 = 12 from by decide +kernel) (by rw [(show ql 195 = 3 from by decide +kernel)]; exact (vp_nI (by decide) (by decide) : vp_in (nI 0) 3)) (by rw [show Int32.toNatClampNeg 0 = 0 from by decide]) dX11_takeRoad_7 ?_
  refine lv_as (y := nI nC) hRl ?_
  refine lv_iconst (v := 1) hx hb dX11_takeRoad_8 (by decide) ?_
  refine lv_isub hx hb dX11_takeRoad_9 ?_
  refine lv_as (y := nI (nC - 1)) (pk_sub (a := nC) (b := 1) (by omega)) ?_
  refine q_callVI (n := 2) (o := 188) (As := [.int 0, .int (nI (nC - 1))]) (rest := []) C hM hA (c_X11_takeNumber E ad l S A b 0 (nC - 1) n (a + 1) hln (by omega) hat (by omega) (by omega) (by omega)) (qmem_11 E ad S A b (show qk 188 = 11 from by decide +kernel)) (by decide) rfl gX11_takeRoad_X11_takeNumber rfl rfl rfl (by decide +kernel) ⟨Nat.le_of_ble_eq_true rfl, Nat.le_of_ble_eq_true rfl⟩ rfl hl.1 rfl (Nat.le_of_ble_eq_true rfl) ⟨Nat.zero_le _, Nat.zero_le _⟩ dX11_takeRoad_10 (fun r_1 S_2 A_3 b_4 H locs qr_1 hM => ?_)
  obtain ⟨⟨e2, e3⟩, hgS_2, hD⟩ := qr_1
  subst e2; subst e3
  rcases hD with ⟨kd5, pl5, hn5, hk5, er_1, h155⟩ | ⟨v5, en5, at5, hn5, hlo5, hhi5, hen5, er_1, h155, h165, h175, h185⟩
  · skip
    subst er_1
    refine lv_istore_n (lv' := [(1, .int (nI kd5)), (0, .ref (ad 188))]) hx hb dX11_takeRoad_13 rfl hl (by decide) rfl (fun ls hl => ?_)
    refine lv_iload_n hx hb dX11_takeRoad_14 rfl (lv_at hl 0 rfl) ?_
    refine lv_if_ne (tgt := 42) hx hb dX11_takeRoad_15 (by decide) (fun c_15 => ?_) (fun c_15 => ?_)
    · skip
      have c_15 : ¬ (kd5 = 0) := fun z => c_15 ((nI_eq (a := kd5) (b := 0) (by omega) (by omega)).mpr z)
      refine lv_iload_n hx hb dX11_takeRoad_42 rfl (lv_at hl 0 rfl) ?_
      refine lv_if_ne (tgt := 61) hx hb dX11_takeRoad_43 (by decide) (fun c_43 => ?_) (fun c_43 => ?_)
      · skip
        have c_43 : ¬ (kd5 = 0) := fun z => c_43 ((nI_eq (a := kd5) (b := 0) (by omega) (by omega)).mpr z)
        refine lv_iload_n hx hb dX11_takeRoad_61 rfl (lv_at hl 0 rfl) ?_
        exact q_iret C hM dX11_takeRoad_62 (by exact ⟨rfl, (fun i j hij => by rw [hgS_2 i j (by omega)]), (fun _ _ => rfl), Or.inl ⟨kd5, pl5, by simp only [qbR, qbind, hn5], by omega, rfl, (show S_2 188 15 = nI pl5 from by exact h155)⟩⟩)
      · skip
        have c_43 : kd5 = 0 := (nI_eq (a := kd5) (b := 0) (by omega) (by omega)).mp c_43
        omega
    · skip
      have c_15 : kd5 = 0 := (nI_eq (a := kd5) (b := 0) (by omega) (by omega)).mp c_15
      omega
  · skip
    subst er_1
    refine lv_istore_n (lv' := [(1, .int 0), (0, .ref (ad 188))]) hx hb dX11_takeRoad_13 rfl hl (by decide) rfl (fun ls hl => ?_)
    refine lv_iload_n hx hb dX11_takeRoad_14 rfl (lv_at hl 0 rfl) ?_
    refine lv_if_ne (tgt := 42) hx hb dX11_takeRoad_15 (by decide) (fun c_15 => ?_) (fun c_15 => ?_)
    · skip
      have c_15 : ¬ (0 = 0) := fun z => c_15 ((nI_eq (a := 0) (b := 0) (by omega) (by omega)).mpr z)
      exact absurd rfl c_15
    · skip
      have c_15 : 0 = 0 := (nI_eq (a := 0) (b := 0) (by omega) (by omega)).mp c_15
      refine lv_aload_n hx hb dX11_takeRoad_18 rfl (lv_at hl 1 rfl) ?_
      refine q_get (o := 188) (ci := 11) (k := 20) (T := TX11) (v := .int (S 188 20)) C hM (qmem_11 E ad S_2 A b (show qk 188 = 11 from by decide +kernel)) (by decide) rfl hi11 (by decide) hL1 rfl (congrArg (fun z => some (Value.int z)) (show S_2 188 20 = S 188 20 from by rw [hgS_2 188 20 (by omega)])) dX11_takeRoad_19 ?_
      refine lv_aload_n hx hb dX11_takeRoad_22 rfl (lv_at hl 1 rfl) ?_
      refine q_get (o := 188) (ci := 11) (k := 17) (T := TX11) (v := .int (nI v5)) C hM (qmem_11 E ad S_2 A b (show qk 188 = 11 from by decide +kernel)) (by decide) rfl hi11 (by decide) hL2 rfl (congrArg (fun z => some (Value.int z)) (show S_2 188 17 = nI v5 from by exact h175)) dX11_takeRoad_23 ?_
      refine q_callSI (n := 2) (As := [.int (S 188 20), .int (nI v5)]) (rest := []) C hM hA (c_X11_has E ad l S_2 A b (S 188 20) (nI v5)) gX11_takeRoad_X11_has rfl rfl rfl (by decide +kernel) ⟨Nat.le_of_ble_eq_true rfl, Nat.le_of_ble_eq_true rfl⟩ rfl hl.1 rfl (Nat.le_of_ble_eq_true rfl) ⟨Nat.zero_le _, Nat.zero_le _⟩ dX11_takeRoad_26 (fun r_6 S_7 A_8 b_9 H locs qr_6 hM => ?_)
      obtain ⟨⟨e1, e2, e3⟩, er_6⟩ := qr_6
      subst e1; subst e2; subst e3
      refine lv_if_eq (tgt := 42) hx hb dX11_takeRoad_29 (by decide) (fun c_29 => ?_) (fun c_29 => ?_)
      · skip
        refine lv_iload_n hx hb dX11_takeRoad_42 rfl (lv_at hl 0 rfl) ?_
        refine lv_if_ne (tgt := 61) hx hb dX11_takeRoad_43 (by decide) (fun c_43 => ?_) (fun c_43 => ?_)
        · skip
          have c_43 : ¬ (0 = 0) := fun z => c_43 ((nI_eq (a := 0) (b := 0) (by omega) (by omega)).mpr z)
          exact absurd rfl c_43
        · skip
          have c_43 : 0 = 0 := (nI_eq (a := 0) (b := 0) (by omega) (by omega)).mp c_43
          refine lv_aload_n hx hb dX11_takeRoad_46 rfl (lv_at hl 1 rfl) ?_
          refine lv_dup hx hb dX11_takeRoad_47 rfl ?_
          refine q_get (o := 188) (ci := 11) (k := 20) (T := TX11) (v := .int (S 188 20)) C hM (qmem_11 E ad S_2 A b (show qk 188 = 11 from by decide +kernel)) (by decide) rfl hi11 (by decide) hL1 rfl (congrArg (fun z => some (Value.int z)) (show S_2 188 20 = S 188 20 from by rw [hgS_2 188 20 (by omega)])) dX11_takeRoad_48 ?_
          refine lv_iconst (v := 1) hx hb dX11_takeRoad_51 (by decide) ?_
          refine lv_aload_n hx hb dX11_takeRoad_52 rfl (lv_at hl 1 rfl) ?_
          refine q_get (o := 188) (ci := 11) (k := 17) (T := TX11) (v := .int (nI v5)) C hM (qmem_11 E ad S_2 A b (show qk 188 = 11 from by decide +kernel)) (by decide) rfl hi11 (by decide) hL2 rfl (congrArg (fun z => some (Value.int z)) (show S_2 188 17 = nI v5 from by exact h175)) dX11_takeRoad_53 ?_
          refine lv_ishl hx hb dX11_takeRoad_56 ?_
          refine lv_ior hx hb dX11_takeRoad_57 ?_
          refine lv_topi (fun v_10 ev_10 => ?_)
          refine q_put (o := 188) (ci := 11) (k := 20) (T := TX11) (ty := .int) (v := v_10) C hM (qmem_11 E ad S_2 A b (show qk 188 = 11 from by decide +kernel)) (by decide) rfl hi11 tyX11 tyX11_ok nmX11 (by decide) hL1 rfl rfl (by decide +kernel) rfl rfl (Nat.le_of_ble_eq_true rfl) (qs_11_20 E ad S_2 A b (show qk 188 = 11 from by decide +kernel) v_10) dX11_takeRoad_58 (fun H locs hM => ?_)
          obtain ⟨S_11, eS_11⟩ : ∃ zz, zz = q2 S_2 188 20 v_10 := ⟨_, rfl⟩
          rw [← eS_11] at hM
          refine lv_iload_n hx hb dX11_takeRoad_61 rfl (lv_at hl 0 rfl) ?_
          exact q_iret C hM dX11_takeRoad_62 (by exact ⟨rfl, (fun i j hij => by rw [eS_11, q2_ne _ _ (by omega), hgS_2 i j (by omega)]), (fun _ _ => rfl), Or.inr ⟨en5, _, by simp only [qbR, qbind, hn5]; rw [if_pos (by rw [hP3]; exact Classical.not_not.mp (q01_eq0.mp (er_6.symm.trans c_29)))], by omega, rfl, (show S_11 188 16 = nI en5 from by rw [eS_11, q2_k _ _ (by omega)]; exact h165), (show S_11 188 15 = S 188 15 from by rw [eS_11, q2_k _ _ (by omega)]; rw [h155]), ⟨nC, nP, nK, nW, mPr_road hP (by rw [eS_11, q2_s, ev_10]; rfl) ((show S_11 188 21 = S 188 21 from by rw [eS_11, q2_k _ _ (by omega)]; rw [hgS_2 188 21 (by omega)])) ((show S_11 188 24 = S 188 24 from by rw [eS_11, q2_k _ _ (by omega)]; rw [hgS_2 188 24 (by omega)])) ((show S_11 188 27 = S 188 27 from by rw [eS_11, q2_k _ _ (by omega)]; rw [hgS_2 188 27 (by omega)])) rfl⟩⟩⟩)
      · skip
        refine lv_aload_n hx hb dX11_takeRoad_32 rfl (lv_at hl 1 rfl) ?_
        refine lv_iconst (v := 4) hx hb dX11_takeRoad_33 (by decide) ?_
        refine lv_aload_n hx hb dX11_takeRoad_34 rfl (lv_at hl 1 rfl) ?_
        refine q_get (o := 188) (ci := 11) (k := 18) (T := TX11) (v := .int (nI at5)) C hM (qmem_11 E ad S_2 A b (show qk 188 = 11 from by decide +kernel)) (by decide) rfl hi11 (by decide) hL3 rfl (congrArg (fun z => some (Value.int z)) (show S_2 188 18 = nI at5 from by exact h185)) dX11_takeRoad_35 ?_
        refine q_callVI (n := 2) (o := 188) (As := [.int 4, .int (nI at5)]) (rest := []) C hM hA (c_X11_fails E ad l S_2 A b 4 (nI at5)) (qmem_11 E ad S_2 A b (show qk 188 = 11 from by decide +kernel)) (by decide) rfl gX11_takeRoad_X11_fails rfl rfl rfl (by decide +kernel) ⟨Nat.le_of_ble_eq_true rfl, Nat.le_of_ble_eq_true rfl⟩ rfl hl.1 rfl (Nat.le_of_ble_eq_true rfl) ⟨Nat.zero_le _, Nat.zero_le _⟩ dX11_takeRoad_38 (fun r_12 S_13 A_14 b_15 H locs qr_12 hM => ?_)
        obtain ⟨⟨e2, e3⟩, er_12, eS_13⟩ := qr_12
        subst e2; subst e3
        subst er_12
        exact q_iret C hM dX11_takeRoad_41 (by exact ⟨rfl, (fun i j hij => by rw [eS_13, q2_ne _ _ (by omega), hgS_2 i j (by omega)]), (fun _ _ => rfl), Or.inl ⟨4, at5, by simp only [qbR, qbind, hn5]; rw [hP3]; exact if_neg (q01_ne0.mp (fun z => c_29 (er_6.trans z))), by omega, rfl, (show S_13 188 15 = nI at5 from by rw [eS_13]; exact q2_s _ _ _ _)⟩⟩)

set_option maxHeartbeats 4000000 in
set_option maxRecDepth 100000 in
theorem c_X11_takePost (E : qE) (ad : Nat → Nat) (l : Launch) (S A : qA2) (b : qB) (n a : Nat) (hln : S 188 14 = nI n) (hnb : n ≤ 240) (hat : S 188 16 = nI (a + 1)) (hab : a < n) (nC nP nK nW : Nat) (P : qPS) (hP : mPr nC nP nK nW S A P) (hC1 : ¬ nC = 0) (hP6b : nP < 6) : MI E ad l yX11_takePost wsX11_takePost { frames := 3, cells := 0, slots := 0, locals := 73 } [.ref (ad 188)] S A b (fun r S' A' b' => b = b' ∧ (∀ i j, (i ≠ 188 ∨ j < 15 ∨ 27 < j) → S' i j = S i j) ∧ (∀ i, (i < 195 ∨ 201 < i) → A' i = A i) ∧ ((∃ kd pl, qbP qstM (A 194) n a nC nP P = .inl (kd, pl) ∧ (1 ≤ kd ∧ kd ≤ 4) ∧ r = nI kd ∧ S' 188 15 = nI pl) ∨ (∃ e P', qbP qstM (A 194) n a nC nP P = .inr (e, P') ∧ (a < e ∧ e ≤ 245) ∧ r = 0 ∧ S' 188 16 = nI e ∧ S' 188 15 = S 188 15 ∧ mPX S' A' P'))) := by
  obtain ⟨⟨hRl, hP0, hCb⟩, hP12, hP3, ⟨hR4, hP4, hPb⟩, ⟨hR5, hP5, hKb⟩, ⟨hR6, hP6, hWb⟩, hPp, hPk, hPw⟩ := id hP
  refine MI.of (cc := cX11_takePost) (maxL := 4) (ret := some .int) RX11 rfl (by decide) rfl ?_
  intro pg e s m below meth cd C hM
  have hx := C.1
  have hb := C.2.1
  have hts := C.2.2.2.2.1
  have hA : ∀ q, s.heap.size ≤ q → qAr ad s.heap.size q := fun _ h => Or.inr h
  have hi11 : ∀ w ∈ u_ws RX11 TX11 45, w ∈ wsX11_takePost := by decide +kernel
  have hL0 := hts (.fieldLink RX11 145 "CrowFencesModel" "readPosts" "I") (by decide +kernel)
  have hL1 := hts (.fieldLink RX11 35 "CrowFencesModel" "readAt" "[I") (by decide +kernel)
  have hL2 := hts (.fieldLink RX11 32 "CrowFencesModel" "readLaw" "[I") (by decide +kernel)
  have hL3 := hts (.fieldLink RX11 38 "CrowFencesModel" "readView" "[I") (by decide +kernel)
  have hL4 := hts (.fieldLink RX11 125 "CrowFencesModel" "numberAt" "I") (by decide +kernel)
  have hl := lv_entry ([.ref (ad 188)]) (n := 4) (Nat.le_of_ble_eq_true rfl)
  rw [lg_entry_eq]
  generalize (lg_sl ([.ref (ad 188)]) ++ List.replicate (4 - (lg_sl ([.ref (ad 188)])).length) Slot.unset).toArray = ls at hl ⊢
  have hl : lv_has ls 4 [(0, .ref (ad 188))] := hl
  refine lv_aload_n hx hb dX11_takePost_0 rfl (lv_at hl 0 rfl) ?_
  refine q_get (o := 188) (ci := 11) (k := 21) (T := TX11) (v := .int (S 188 21)) C hM (qmem_11 E ad S A b (show qk 188 = 11 from by decide +kernel)) (by decide) rfl hi11 (by decide) hL0 rfl rfl dX11_takePost_1 ?_
  refine lv_as (y := nI nP) hR4 ?_
  refine lv_istore_n (lv' := [(1, .int (nI nP)), (0, .ref (ad 188))]) hx hb dX11_takePost_4 rfl hl (by decide) rfl (fun ls hl => ?_)
  refine lv_aload_n hx hb dX11_takePost_5 rfl (lv_at hl 1 rfl) ?_
  refine lv_dup hx hb dX11_takePost_6 rfl ?_
  refine q_get (o := 188) (ci := 11) (k := 21) (T := TX11) (v := .int (S 188 21)) C hM (qmem_11 E ad S A b (show qk 188 = 11 from by decide +kernel)) (by decide) rfl hi11 (by decide) hL0 rfl rfl dX11_takePost_7 ?_
  refine lv_as (y := nI nP) hR4 ?_
  refine lv_iconst (v := 1) hx hb dX11_takePost_10 (by decide) ?_
  refine lv_iadd hx hb dX11_takePost_11 ?_
  refine lv_as (y := nI (nP + 1)) (nI_add _ _) ?_
  refine q_put (o := 188) (ci := 11) (k := 21) (T := TX11) (ty := .int) (v := nI (nP + 1)) C hM (qmem_11 E ad S A b (show qk 188 = 11 from by decide +kernel)) (by decide) rfl hi11 tyX11 tyX11_ok nmX11 (by decide) hL0 rfl rfl (by decide +kernel) rfl rfl (Nat.le_of_ble_eq_true rfl) (qs_11_21 E ad S A b (show qk 188 = 11 from by decide +kernel) (nI (nP + 1))) dX11_takePost_12 (fun H locs hM => ?_)
  obtain ⟨S_1, eS_1⟩ : ∃ zz, zz = q2 S 188 21 (nI (nP + 1)) := ⟨_, rfl⟩
  rw [← eS_1] at hM
  refine lv_aload_n hx hb dX11_takePost_15 rfl (lv_at hl 1 rfl) ?_
  refine lv_aload_n hx hb dX11_takePost_16 rfl (lv_at hl 1 rfl) ?_
  refine q_get (o := 188) (ci := 11) (k := 22) (T := TX11) (v := .ref (ad 196)) C hM (qmem_11 E ad S_1 A b (show qk 188 = 11 from by decide +kernel)) (by decide) rfl hi11 (by decide) hL1 rfl rfl dX11_takePost_17 ?_
  refine lv_iload_n hx hb dX11_takePost_20 rfl (lv_at hl 0 rfl) ?_
  refine lv_iconst (v := 0) hx hb dX11_takePost_21 (by decide) ?_
  refine lv_aload_n hx hb dX11_takePost_22 rfl (lv_at hl 1 rfl) ?_
  refine q_get (o := 188) (ci := 11) (k := 19) (T := TX11) (v := .ref (ad 195)) C hM (qmem_11 E ad S_1 A b (show qk 188 = 11 from by decide +kernel)) (by decide) rfl hi11 (by decide) hL2 rfl rfl dX11_takePost_23 ?_
  refine lv_iconst (v := 0) hx hb dX11_takePost_26 (by decide) ?_
  refine q_iald (v := A 195 0) C hM (show qk 195 = 12 from by decide +kernel) (by rw [(show ql 195 = 3 from by decide +kernel)]; exact (vp_nI (by decide) (by decide) : vp_in (nI 0) 3)) (by rw [show Int32.toNatClampNeg 0 = 0 from by decide]) dX11_takePost_27 ?_
  refine lv_as (y := nI nC) hRl ?_
  refine lv_iconst (v := 1) hx hb dX11_takePost_28 (by decide) ?_
  refine lv_isub hx hb dX11_takePost_29 ?_
  refine lv_as (y := nI (nC - 1)) (pk_sub (a := nC) (b := 1) (by omega)) ?_
  refine q_callVI (n := 4) (o := 188) (As := [.ref (ad 196), .int (nI nP), .int 0, .int (nI (nC - 1))]) (rest := []) C hM hA (c_X11_into E ad l S_1 A b 196 6 nP (show qk 196 = 12 from by decide +kernel) (show ql 196 = 6 from by decide +kernel) (by decide) (by omega) (by decide) 0 (nC - 1) n (a + 1) ((show S_1 188 14 = S 188 14 from by rw [eS_1, q2_k _ _ (by omega)]).trans hln) (by omega) ((show S_1 188 16 = S 188 16 from by rw [eS_1, q2_k _ _ (by omega)]).trans hat) (by omega) (by omega) (by omega)) (qmem_11 E ad S_1 A b (show qk 188 = 11 from by decide +kernel)) (by decide) rfl gX11_takePost_X11_into rfl rfl rfl (by decide +kernel) ⟨Nat.le_of_ble_eq_true rfl, Nat.le_of_ble_eq_true rfl⟩ rfl hl.1 rfl (Nat.le_of_ble_eq_true rfl) ⟨Nat.zero_le _, Nat.zero_le _⟩ dX11_takePost_30 (fun r_2 S_3 A_4 b_5 H locs qr_2 hM => ?_)
  obtain ⟨e3, hgS_3, hD⟩ := qr_2
  subst e3
  rcases hD with ⟨kd6, pl6, xx6, hn6, hk6, er_2, h156, eA_4⟩ | ⟨v6, en6, at6, hn6, hlo6, hhi6, hen6, er_2, h156, h166, h176, h186, eA_4⟩
  · skip
    subst er_2
    refine lv_istore_n (lv' := [(2, .int (nI kd6)), (1, .int (nI nP)), (0, .ref (ad 188))]) hx hb dX11_takePost_33 rfl hl (by decide) rfl (fun ls hl => ?_)
    refine lv_iconst (v := 0) hx hb dX11_takePost_34 (by decide) ?_
    refine lv_istore_n (lv' := [(3, .int 0), (2, .int (nI kd6)), (1, .int (nI nP)), (0, .ref (ad 188))]) hx hb dX11_takePost_35 rfl hl (by decide) rfl (fun ls hl => ?_)
    have loop36 : ∀ (fu : Nat) (k : Nat) (hk : k ≤ nP) (hq : True), nP - k < fu → ∀ (H : Heap) (locs : List Loc) (ls : Array Slot), qM E ad S_3 A_4 b (qAr ad s.heap.size) s H locs → lv_has ls 4 [(3, .int (nI k)), (2, .int (nI kd6)), (1, .int (nI nP)), (0, .ref (ad 188))] → W pg l e (headSpec wsX11_takePost { frames := 3, cells := 0, slots := 0, locals := 73 }).room s m ([.ref (ad 188)] : List Value).toArray below meth cd H locs 0 0 (MQ below (qQi E ad s.heap.size (fun r S' A' b' => b = b' ∧ (∀ i j, (i ≠ 188 ∨ j < 15 ∨ 27 < j) → S' i j = S i j) ∧ (∀ i, (i < 195 ∨ 201 < i) → A' i = A i) ∧ ((∃ kd pl, qbP qstM (A 194) n a nC nP P = .inl (kd, pl) ∧ (1 ≤ kd ∧ kd ≤ 4) ∧ r = nI kd ∧ S' 188 15 = nI pl) ∨ (∃ e P', qbP qstM (A 194) n a nC nP P = .inr (e, P') ∧ (a < e ∧ e ≤ 245) ∧ r = 0 ∧ S' 188 16 = nI e ∧ S' 188 15 = S 188 15 ∧ mPX S' A' P')))) ([.ref (ad 188)] : List Value).toArray s 0 0 (qAr ad s.heap.size)) (F0 m 36 ls []) := by
      intro fu
      induction fu with
      | zero => intro k hk hq hn; exact absurd hn (Nat.not_lt_zero _)
      | succ fu ih36 =>
        intro k hk hq hn H locs ls hM hl
        refine lv_iload_n hx hb dX11_takePost_36 rfl (lv_at hl 0 rfl) ?_
        refine lv_iload_n hx hb dX11_takePost_37 rfl (lv_at hl 2 rfl) ?_
        refine lv_icmp_ge (tgt := 76) hx hb dX11_takePost_38 (by decide) (fun c_38 => ?_) (fun c_38 => ?_)
        · skip
          have c_38 : nP ≤ k := (nI_leI (a := nP) (b := k) (by omega) (by omega)).mp c_38
          refine lv_iload_n hx hb dX11_takePost_76 rfl (lv_at hl 1 rfl) ?_
          refine lv_if_le (tgt := 84) hx hb dX11_takePost_77 (by decide) (fun c_77 => ?_) (fun c_77 => ?_)
          · skip
            have c_77 : kd6 ≤ 0 := (nI_leI (a := kd6) (b := 0) (by omega) (by omega)).mp c_77
            omega
          · skip
            have c_77 : ¬ (kd6 ≤ 0) := fun z => c_77 ((nI_leI (a := kd6) (b := 0) (by omega) (by omega)).mpr z)
            refine lv_iload_n hx hb dX11_takePost_80 rfl (lv_at hl 1 rfl) ?_
            refine lv_goto (tgt := 96) hx hb dX11_takePost_81 (by decide) ?_
            exact q_iret C hM dX11_takePost_96 (by exact ⟨rfl, (fun i j hij => by rw [hgS_3 i j (by omega), eS_1, q2_ne _ _ (by omega)]), (fun i hi => by rw [eA_4, q2_or _ _ (by omega)]), Or.inl ⟨kd6, pl6, by simp only [qbP, qbind, hn6], by omega, rfl, (show S_3 188 15 = nI pl6 from by exact h156)⟩⟩)
        · skip
          have c_38 : ¬ (nP ≤ k) := fun z => c_38 ((nI_leI (a := nP) (b := k) (by omega) (by omega)).mpr z)
          refine lv_iload_n hx hb dX11_takePost_41 rfl (lv_at hl 1 rfl) ?_
          refine lv_if_ne (tgt := 76) hx hb dX11_takePost_42 (by decide) (fun c_42 => ?_) (fun c_42 => ?_)
          · skip
            have c_42 : ¬ (kd6 = 0) := fun z => c_42 ((nI_eq (a := kd6) (b := 0) (by omega) (by omega)).mpr z)
            refine lv_iload_n hx hb dX11_takePost_76 rfl (lv_at hl 1 rfl) ?_
            refine lv_if_le (tgt := 84) hx hb dX11_takePost_77 (by decide) (fun c_77 => ?_) (fun c_77 => ?_)
            · skip
              have c_77 : kd6 ≤ 0 := (nI_leI (a := kd6) (b := 0) (by omega) (by omega)).mp c_77
              omega
            · skip
              have c_77 : ¬ (kd6 ≤ 0) := fun z => c_77 ((nI_leI (a := kd6) (b := 0) (by omega) (by omega)).mpr z)
              refine lv_iload_n hx hb dX11_takePost_80 rfl (lv_at hl 1 rfl) ?_
              refine lv_goto (tgt := 96) hx hb dX11_takePost_81 (by decide) ?_
              exact q_iret C hM dX11_takePost_96 (by exact ⟨rfl, (fun i j hij => by rw [hgS_3 i j (by omega), eS_1, q2_ne _ _ (by omega)]), (fun i hi => by rw [eA_4, q2_or _ _ (by omega)]), Or.inl ⟨kd6, pl6, by simp only [qbP, qbind, hn6], by omega, rfl, (show S_3 188 15 = nI pl6 from by exact h156)⟩⟩)
          · skip
            have c_42 : kd6 = 0 := (nI_eq (a := kd6) (b := 0) (by omega) (by omega)).mp c_42
            omega
    exact loop36 (nP - 0 + 1) 0 (by omega) trivial (Nat.lt_succ_self _) _ _ _ hM hl
  · skip
    subst er_2
    refine lv_istore_n (lv' := [(2, .int 0), (1, .int (nI nP)), (0, .ref (ad 188))]) hx hb dX11_takePost_33 rfl hl (by decide) rfl (fun ls hl => ?_)
    refine lv_iconst (v := 0) hx hb dX11_takePost_34 (by decide) ?_
    refine lv_istore_n (lv' := [(3, .int 0), (2, .int 0), (1, .int (nI nP)), (0, .ref (ad 188))]) hx hb dX11_takePost_35 rfl hl (by decide) rfl (fun ls hl => ?_)
    have loop36 : ∀ (fu : Nat) (k : Nat) (hk : k ≤ nP) (hq : ∀ j, j < k → ¬ A 196 j = nI v6), nP - k < fu → ∀ (H : Heap) (locs : List Loc) (ls : Array Slot), qM E ad S_3 A_4 b (qAr ad s.heap.size) s H locs → lv_has ls 4 [(3, .int (nI k)), (2, .int 0), (1, .int (nI nP)), (0, .ref (ad 188))] → W pg l e (headSpec wsX11_takePost { frames := 3, cells := 0, slots := 0, locals := 73 }).room s m ([.ref (ad 188)] : List Value).toArray below meth cd H locs 0 0 (MQ below (qQi E ad s.heap.size (fun r S' A' b' => b = b' ∧ (∀ i j, (i ≠ 188 ∨ j < 15 ∨ 27 < j) → S' i j = S i j) ∧ (∀ i, (i < 195 ∨ 201 < i) → A' i = A i) ∧ ((∃ kd pl, qbP qstM (A 194) n a nC nP P = .inl (kd, pl) ∧ (1 ≤ kd ∧ kd ≤ 4) ∧ r = nI kd ∧ S' 188 15 = nI pl) ∨ (∃ e P', qbP qstM (A 194) n a nC nP P = .inr (e, P') ∧ (a < e ∧ e ≤ 245) ∧ r = 0 ∧ S' 188 16 = nI e ∧ S' 188 15 = S 188 15 ∧ mPX S' A' P')))) ([.ref (ad 188)] : List Value).toArray s 0 0 (qAr ad s.heap.size)) (F0 m 36 ls []) := by
      intro fu
      induction fu with
      | zero => intro k hk hq hn; exact absurd hn (Nat.not_lt_zero _)
      | succ fu ih36 =>
        intro k hk hq hn H locs ls hM hl
        refine lv_iload_n hx hb dX11_takePost_36 rfl (lv_at hl 0 rfl) ?_
        refine lv_iload_n hx hb dX11_takePost_37 rfl (lv_at hl 2 rfl) ?_
        refine lv_icmp_ge (tgt := 76) hx hb dX11_takePost_38 (by decide) (fun c_38 => ?_) (fun c_38 => ?_)
        · skip
          have c_38 : nP ≤ k := (nI_leI (a := nP) (b := k) (by omega) (by omega)).mp c_38
          refine lv_iload_n hx hb dX11_takePost_76 rfl (lv_at hl 1 rfl) ?_
          refine lv_if_le (tgt := 84) hx hb dX11_takePost_77 (by decide) (fun c_77 => ?_) (fun c_77 => ?_)
          · skip
            have c_77 : 0 ≤ 0 := (nI_leI (a := 0) (b := 0) (by omega) (by omega)).mp c_77
            refine lv_aload_n hx hb dX11_takePost_84 rfl (lv_at hl 3 rfl) ?_
            refine lv_aload_n hx hb dX11_takePost_85 rfl (lv_at hl 3 rfl) ?_
            refine q_get (o := 188) (ci := 11) (k := 23) (T := TX11) (v := .ref (ad 197)) C hM (qmem_11 E ad S_3 A_4 b (show qk 188 = 11 from by decide +kernel)) (by decide) rfl hi11 (by decide) hL3 rfl rfl dX11_takePost_86 ?_
            refine lv_iload_n hx hb dX11_takePost_89 rfl (lv_at hl 2 rfl) ?_
            refine lv_iconst (v := 0) hx hb dX11_takePost_90 (by decide) ?_
            refine lv_bipush (v := 9) hx hb dX11_takePost_91 (by decide) ?_
            refine q_callVI (n := 4) (o := 188) (As := [.ref (ad 197), .int (nI nP), .int 0, .int 9]) (rest := []) C hM hA (c_X11_into E ad l S_3 A_4 b 197 6 nP (show qk 197 = 12 from by decide +kernel) (show ql 197 = 6 from by decide +kernel) (by decide) (by omega) (by decide) 0 9 n en6 ((show S_3 188 14 = S 188 14 from by rw [hgS_3 188 14 (by omega)]; rw [eS_1, q2_k _ _ (by omega)]).trans hln) (by omega) (show S_3 188 16 = nI en6 from by exact h166) (by omega) (by omega) (by omega)) (qmem_11 E ad S_3 A_4 b (show qk 188 = 11 from by decide +kernel)) (by decide) rfl gX11_takePost_X11_into rfl rfl rfl (by decide +kernel) ⟨Nat.le_of_ble_eq_true rfl, Nat.le_of_ble_eq_true rfl⟩ rfl hl.1 rfl (Nat.le_of_ble_eq_true rfl) ⟨Nat.zero_le _, Nat.zero_le _⟩ dX11_takePost_93 (fun r_7 S_8 A_9 b_10 H locs qr_7 hM => ?_)
            rw [show A_4 194 = A 194 from by rw [eA_4, q2_or _ _ (by omega)]] at qr_7
            obtain ⟨e3, hgS_8, hD⟩ := qr_7
            subst e3
            rcases hD with ⟨kd11, pl11, xx11, hn11, hk11, er_7, h1511, eA_9⟩ | ⟨v11, en11, at11, hn11, hlo11, hhi11, hen11, er_7, h1511, h1611, h1711, h1811, eA_9⟩
            · skip
              subst er_7
              exact q_iret C hM dX11_takePost_96 (by exact ⟨rfl, (fun i j hij => by rw [hgS_8 i j (by omega), hgS_3 i j (by omega), eS_1, q2_ne _ _ (by omega)]), (fun i hi => by rw [eA_9, q2_or _ _ (by omega), eA_4, q2_or _ _ (by omega)]), Or.inl ⟨kd11, pl11, by simp only [qbP, qbind, hn6, hn11]; rw [if_pos ((qfind_m1 nP 0 (by omega)).mpr (fun j _ hj => by rw [(hPp j (by omega)).1]; exact hq j (by omega)))], by omega, rfl, (show S_8 188 15 = nI pl11 from by exact h1511)⟩⟩)
            · skip
              subst er_7
              exact q_iret C hM dX11_takePost_96 (by exact ⟨rfl, (fun i j hij => by rw [hgS_8 i j (by omega), hgS_3 i j (by omega), eS_1, q2_ne _ _ (by omega)]), (fun i hi => by rw [eA_9, q2_or _ _ (by omega), eA_4, q2_or _ _ (by omega)]), Or.inr ⟨en11, _, by simp only [qbP, qbind, hn6, hn11]; rw [if_pos ((qfind_m1 nP 0 (by omega)).mpr (fun j _ hj => by rw [(hPp j (by omega)).1]; exact hq j (by omega)))], by omega, rfl, (show S_8 188 16 = nI en11 from by exact h1611), (show S_8 188 15 = S 188 15 from by rw [h1511]; rw [h156]; rw [eS_1, q2_k _ _ (by omega)]), ⟨nC, nP + 1, nK, nW, mPr_post hP hP6b ((show S_8 188 20 = S 188 20 from by rw [hgS_8 188 20 (by omega)]; rw [hgS_3 188 20 (by omega)]; rw [eS_1, q2_k _ _ (by omega)])) ((show S_8 188 21 = nI (nP + 1) from by rw [hgS_8 188 21 (by omega)]; rw [hgS_3 188 21 (by omega)]; rw [eS_1]; exact q2_s _ _ _ _)) ((show S_8 188 24 = S 188 24 from by rw [hgS_8 188 24 (by omega)]; rw [hgS_3 188 24 (by omega)]; rw [eS_1, q2_k _ _ (by omega)])) ((show S_8 188 27 = S 188 27 from by rw [hgS_8 188 27 (by omega)]; rw [hgS_3 188 27 (by omega)]; rw [eS_1, q2_k _ _ (by omega)])) (by rw [eA_9, eA_4])⟩⟩⟩)
          · skip
            have c_77 : ¬ (0 ≤ 0) := fun z => c_77 ((nI_leI (a := 0) (b := 0) (by omega) (by omega)).mpr z)
            omega
        · skip
          have c_38 : ¬ (nP ≤ k) := fun z => c_38 ((nI_leI (a := nP) (b := k) (by omega) (by omega)).mpr z)
          refine lv_iload_n hx hb dX11_takePost_41 rfl (lv_at hl 1 rfl) ?_
          refine lv_if_ne (tgt := 76) hx hb dX11_takePost_42 (by decide) (fun c_42 => ?_) (fun c_42 => ?_)
          · skip
            have c_42 : ¬ (0 = 0) := fun z => c_42 ((nI_eq (a := 0) (b := 0) (by omega) (by omega)).mpr z)
            exact absurd rfl c_42
          · skip
            have c_42 : 0 = 0 := (nI_eq (a := 0) (b := 0) (by omega) (by omega)).mp c_42
            refine lv_aload_n hx hb dX11_takePost_45 rfl (lv_at hl 3 rfl) ?_
            refine q_get (o := 188) (ci := 11) (k := 22) (T := TX11) (v := .ref (ad 196)) C hM (qmem_11 E ad S_3 A_4 b (show qk 188 = 11 from by decide +kernel)) (by decide) rfl hi11 (by decide) hL1 rfl rfl dX11_takePost_46 ?_
            refine lv_iload_n hx hb dX11_takePost_49 rfl (lv_at hl 0 rfl) ?_
            refine q_iald (v := A 196 k) C hM (show qk 196 = 12 from by decide +kernel) (by rw [(show ql 196 = 6 from by decide +kernel)]; exact vp_nI (by omega) (by omega)) (by rw [nIc (by omega)]; exact (show A_4 196 k = A 196 k from by rw [eA_4, q2_k _ _ (by omega)])) dX11_takePost_50 ?_
            refine lv_aload_n hx hb dX11_takePost_51 rfl (lv_at hl 3 rfl) ?_
            refine q_get (o := 188) (ci := 11) (k := 22) (T := TX11) (v := .ref (ad 196)) C hM (qmem_11 E ad S_3 A_4 b (show qk 188 = 11 from by decide +kernel)) (by decide) rfl hi11 (by decide) hL1 rfl rfl dX11_takePost_52 ?_
            refine lv_iload_n hx hb dX11_takePost_55 rfl (lv_at hl 2 rfl) ?_
            refine q_iald (v := nI v6) C hM (show qk 196 = 12 from by decide +kernel) (by rw [(show ql 196 = 6 from by decide +kernel)]; exact vp_nI (by omega) (by omega)) (by rw [nIc (by omega)]; exact (show A_4 196 nP = nI v6 from by rw [eA_4]; exact q2_s _ _ _ _)) dX11_takePost_56 ?_
            refine lv_icmp_ne (tgt := 70) hx hb dX11_takePost_57 (by decide) (fun c_57 => ?_) (fun c_57 => ?_)
            · skip
              refine lv_iinc (v := nI (k + 1)) (lv' := [(3, .int (nI (k + 1))), (2, .int 0), (1, .int (nI nP)), (0, .ref (ad 188))]) hx hb dX11_takePost_70 hl (k := 0) rfl (by rw [nI_succ]; rfl) (by decide) rfl (fun ls hl => ?_)
              refine lv_goto (tgt := 36) hx hb dX11_takePost_73 (by decide) ?_
              exact ih36 (k + 1) (by omega) (fun j hj => by by_cases e : j = k; (subst e; exact c_57); (exact hq j (by omega))) (by omega) _ _ _ hM hl
            · skip
              refine lv_aload_n hx hb dX11_takePost_60 rfl (lv_at hl 3 rfl) ?_
              refine lv_iconst (v := 4) hx hb dX11_takePost_61 (by decide) ?_
              refine lv_aload_n hx hb dX11_takePost_62 rfl (lv_at hl 3 rfl) ?_
              refine q_get (o := 188) (ci := 11) (k := 18) (T := TX11) (v := .int (nI at6)) C hM (qmem_11 E ad S_3 A_4 b (show qk 188 = 11 from by decide +kernel)) (by decide) rfl hi11 (by decide) hL4 rfl (congrArg (fun z => some (Value.int z)) (show S_3 188 18 = nI at6 from by exact h186)) dX11_takePost_63 ?_
              refine q_callVI (n := 2) (o := 188) (As := [.int 4, .int (nI at6)]) (rest := []) C hM hA (c_X11_fails E ad l S_3 A_4 b 4 (nI at6)) (qmem_11 E ad S_3 A_4 b (show qk 188 = 11 from by decide +kernel)) (by decide) rfl gX11_takePost_X11_fails rfl rfl rfl (by decide +kernel) ⟨Nat.le_of_ble_eq_true rfl, Nat.le_of_ble_eq_true rfl⟩ rfl hl.1 rfl (Nat.le_of_ble_eq_true rfl) ⟨Nat.zero_le _, Nat.zero_le _⟩ dX11_takePost_66 (fun r_12 S_13 A_14 b_15 H locs qr_12 hM => ?_)
              obtain ⟨⟨e2, e3⟩, er_12, eS_13⟩ := qr_12
              subst e2; subst e3
              subst er_12
              exact q_iret C hM dX11_takePost_69 (by exact ⟨rfl, (fun i j hij => by rw [eS_13, q2_ne _ _ (by omega), hgS_3 i j (by omega), eS_1, q2_ne _ _ (by omega)]), (fun i hi => by rw [eA_4, q2_or _ _ (by omega)]), Or.inl ⟨4, at6, by simp only [qbP, qbind, hn6]; exact if_neg (fun z => (qfind_m1 nP 0 (by omega)).mp z k (by omega) (by omega) (by rw [(hPp k (by omega)).1]; exact c_57)), by omega, rfl, (show S_13 188 15 = nI at6 from by rw [eS_13]; exact q2_s _ _ _ _)⟩⟩)
    exact loop36 (nP - 0 + 1) 0 (by omega) (fun j hj => absurd hj (Nat.not_lt_zero _)) (Nat.lt_succ_self _) _ _ _ hM hl

set_option maxHeartbeats 4000000 in
set_option maxRecDepth 100000 in
theorem c_X11_takeCrow (E : qE) (ad : Nat → Nat) (l : Launch) (S A : qA2) (b : qB) (n a : Nat) (hln : S 188 14 = nI n) (hnb : n ≤ 240) (hat : S 188 16 = nI (a + 1)) (hab : a < n) (nC nP nK nW : Nat) (P : qPS) (hP : mPr nC nP nK nW S A P) (hcd : nK < 5) : MI E ad l yX11_takeCrow wsX11_takeCrow { frames := 3, cells := 0, slots := 0, locals := 73 } [.ref (ad 188)] S A b (fun r S' A' b' => b = b' ∧ (∀ i j, (i ≠ 188 ∨ j < 15 ∨ 27 < j) → S' i j = S i j) ∧ (∀ i, (i < 195 ∨ 201 < i) → A' i = A i) ∧ ((∃ kd pl, qbC qstM (A 194) n a nK P = .inl (kd, pl) ∧ (1 ≤ kd ∧ kd ≤ 4) ∧ r = nI kd ∧ S' 188 15 = nI pl) ∨ (∃ e P', qbC qstM (A 194) n a nK P = .inr (e, P') ∧ (a < e ∧ e ≤ 245) ∧ r = 0 ∧ S' 188 16 = nI e ∧ S' 188 15 = S 188 15 ∧ mPX S' A' P'))) := by
  obtain ⟨⟨hRl, hP0, hCb⟩, hP12, hP3, ⟨hR4, hP4, hPb⟩, ⟨hR5, hP5, hKb⟩, ⟨hR6, hP6, hWb⟩, hPp, hPk, hPw⟩ := id hP
  refine MI.of (cc := cX11_takeCrow) (maxL := 3) (ret := some .int) RX11 rfl (by decide) rfl ?_
  intro pg e s m below meth cd C hM
  have hx := C.1
  have hb := C.2.1
  have hts := C.2.2.2.2.1
  have hA : ∀ q, s.heap.size ≤ q → qAr ad s.heap.size q := fun _ h => Or.inr h
  have hi11 : ∀ w ∈ u_ws RX11 TX11 45, w ∈ wsX11_takeCrow := by decide +kernel
  have hL0 := hts (.fieldLink RX11 148 "CrowFencesModel" "readCrows" "I") (by decide +kernel)
  have hL1 := hts (.fieldLink RX11 41 "CrowFencesModel" "readBids" "[I") (by decide +kernel)
  have hL2 := hts (.fieldLink RX11 44 "CrowFencesModel" "readLikes" "[I") (by decide +kernel)
  have hl := lv_entry ([.ref (ad 188)]) (n := 3) (Nat.le_of_ble_eq_true rfl)
  rw [lg_entry_eq]
  generalize (lg_sl ([.ref (ad 188)]) ++ List.replicate (3 - (lg_sl ([.ref (ad 188)])).length) Slot.unset).toArray = ls at hl ⊢
  have hl : lv_has ls 3 [(0, .ref (ad 188))] := hl
  refine lv_aload_n hx hb dX11_takeCrow_0 rfl (lv_at hl 0 rfl) ?_
  refine q_get (o := 188) (ci := 11) (k := 24) (T := TX11) (v := .int (S 188 24)) C hM (qmem_11 E ad S A b (show qk 188 = 11 from by decide +kernel)) (by decide) rfl hi11 (by decide) hL0 rfl rfl dX11_takeCrow_1 ?_
  refine lv_as (y := nI nK) hR5 ?_
  refine lv_istore_n (lv' := [(1, .int (nI nK)), (0, .ref (ad 188))]) hx hb dX11_takeCrow_4 rfl hl (by decide) rfl (fun ls hl => ?_)
  refine lv_aload_n hx hb dX11_takeCrow_5 rfl (lv_at hl 1 rfl) ?_
  refine lv_dup hx hb dX11_takeCrow_6 rfl ?_
  refine q_get (o := 188) (ci := 11) (k := 24) (T := TX11) (v := .int (S 188 24)) C hM (qmem_11 E ad S A b (show qk 188 = 11 from by decide +kernel)) (by decide) rfl hi11 (by decide) hL0 rfl rfl dX11_takeCrow_7 ?_
  refine lv_as (y := nI nK) hR5 ?_
  refine lv_iconst (v := 1) hx hb dX11_takeCrow_10 (by decide) ?_
  refine lv_iadd hx hb dX11_takeCrow_11 ?_
  refine lv_as (y := nI (nK + 1)) (nI_add _ _) ?_
  refine q_put (o := 188) (ci := 11) (k := 24) (T := TX11) (ty := .int) (v := nI (nK + 1)) C hM (qmem_11 E ad S A b (show qk 188 = 11 from by decide +kernel)) (by decide) rfl hi11 tyX11 tyX11_ok nmX11 (by decide) hL0 rfl rfl (by decide +kernel) rfl rfl (Nat.le_of_ble_eq_true rfl) (qs_11_24 E ad S A b (show qk 188 = 11 from by decide +kernel) (nI (nK + 1))) dX11_takeCrow_12 (fun H locs hM => ?_)
  obtain ⟨S_1, eS_1⟩ : ∃ zz, zz = q2 S 188 24 (nI (nK + 1)) := ⟨_, rfl⟩
  rw [← eS_1] at hM
  refine lv_aload_n hx hb dX11_takeCrow_15 rfl (lv_at hl 1 rfl) ?_
  refine lv_aload_n hx hb dX11_takeCrow_16 rfl (lv_at hl 1 rfl) ?_
  refine q_get (o := 188) (ci := 11) (k := 25) (T := TX11) (v := .ref (ad 198)) C hM (qmem_11 E ad S_1 A b (show qk 188 = 11 from by decide +kernel)) (by decide) rfl hi11 (by decide) hL1 rfl rfl dX11_takeCrow_17 ?_
  refine lv_iload_n hx hb dX11_takeCrow_20 rfl (lv_at hl 0 rfl) ?_
  refine lv_iconst (v := 0) hx hb dX11_takeCrow_21 (by decide) ?_
  refine lv_bipush (v := 99) hx hb dX11_takeCrow_22 (by decide) ?_
  refine q_callVI (n := 4) (o := 188) (As := [.ref (ad 198), .int (nI nK), .int 0, .int 99]) (rest := []) C hM hA (c_X11_into E ad l S_1 A b 198 5 nK (show qk 198 = 12 from by decide +kernel) (show ql 198 = 5 from by decide +kernel) (by decide) (by omega) (by decide) 0 99 n (a + 1) ((show S_1 188 14 = S 188 14 from by rw [eS_1, q2_k _ _ (by omega)]).trans hln) (by omega) ((show S_1 188 16 = S 188 16 from by rw [eS_1, q2_k _ _ (by omega)]).trans hat) (by omega) (by omega) (by omega)) (qmem_11 E ad S_1 A b (show qk 188 = 11 from by decide +kernel)) (by decide) rfl gX11_takeCrow_X11_into rfl rfl rfl (by decide +kernel) ⟨Nat.le_of_ble_eq_true rfl, Nat.le_of_ble_eq_true rfl⟩ rfl hl.1 rfl (Nat.le_of_ble_eq_true rfl) ⟨Nat.zero_le _, Nat.zero_le _⟩ dX11_takeCrow_24 (fun r_2 S_3 A_4 b_5 H locs qr_2 hM => ?_)
  obtain ⟨e3, hgS_3, hD⟩ := qr_2
  subst e3
  rcases hD with ⟨kd6, pl6, xx6, hn6, hk6, er_2, h156, eA_4⟩ | ⟨v6, en6, at6, hn6, hlo6, hhi6, hen6, er_2, h156, h166, h176, h186, eA_4⟩
  · skip
    subst er_2
    refine lv_istore_n (lv' := [(2, .int (nI kd6)), (1, .int (nI nK)), (0, .ref (ad 188))]) hx hb dX11_takeCrow_27 rfl hl (by decide) rfl (fun ls hl => ?_)
    refine lv_iload_n hx hb dX11_takeCrow_28 rfl (lv_at hl 0 rfl) ?_
    refine lv_if_le (tgt := 36) hx hb dX11_takeCrow_29 (by decide) (fun c_29 => ?_) (fun c_29 => ?_)
    · skip
      have c_29 : kd6 ≤ 0 := (nI_leI (a := kd6) (b := 0) (by omega) (by omega)).mp c_29
      omega
    · skip
      have c_29 : ¬ (kd6 ≤ 0) := fun z => c_29 ((nI_leI (a := kd6) (b := 0) (by omega) (by omega)).mpr z)
      refine lv_iload_n hx hb dX11_takeCrow_32 rfl (lv_at hl 0 rfl) ?_
      refine lv_goto (tgt := 48) hx hb dX11_takeCrow_33 (by decide) ?_
      exact q_iret C hM dX11_takeCrow_48 (by exact ⟨rfl, (fun i j hij => by rw [hgS_3 i j (by omega), eS_1, q2_ne _ _ (by omega)]), (fun i hi => by rw [eA_4, q2_or _ _ (by omega)]), Or.inl ⟨kd6, pl6, by simp only [qbC, qbind, hn6], by omega, rfl, (show S_3 188 15 = nI pl6 from by exact h156)⟩⟩)
  · skip
    subst er_2
    refine lv_istore_n (lv' := [(2, .int 0), (1, .int (nI nK)), (0, .ref (ad 188))]) hx hb dX11_takeCrow_27 rfl hl (by decide) rfl (fun ls hl => ?_)
    refine lv_iload_n hx hb dX11_takeCrow_28 rfl (lv_at hl 0 rfl) ?_
    refine lv_if_le (tgt := 36) hx hb dX11_takeCrow_29 (by decide) (fun c_29 => ?_) (fun c_29 => ?_)
    · skip
      have c_29 : 0 ≤ 0 := (nI_leI (a := 0) (b := 0) (by omega) (by omega)).mp c_29
      refine lv_aload_n hx hb dX11_takeCrow_36 rfl (lv_at hl 2 rfl) ?_
      refine lv_aload_n hx hb dX11_takeCrow_37 rfl (lv_at hl 2 rfl) ?_
      refine q_get (o := 188) (ci := 11) (k := 26) (T := TX11) (v := .ref (ad 199)) C hM (qmem_11 E ad S_3 A_4 b (show qk 188 = 11 from by decide +kernel)) (by decide) rfl hi11 (by decide) hL2 rfl rfl dX11_takeCrow_38 ?_
      refine lv_iload_n hx hb dX11_takeCrow_41 rfl (lv_at hl 1 rfl) ?_
      refine lv_iconst (v := 0) hx hb dX11_takeCrow_42 (by decide) ?_
      refine lv_bipush (v := 9) hx hb dX11_takeCrow_43 (by decide) ?_
      refine q_callVI (n := 4) (o := 188) (As := [.ref (ad 199), .int (nI nK), .int 0, .int 9]) (rest := []) C hM hA (c_X11_into E ad l S_3 A_4 b 199 5 nK (show qk 199 = 12 from by decide +kernel) (show ql 199 = 5 from by decide +kernel) (by decide) (by omega) (by decide) 0 9 n en6 ((show S_3 188 14 = S 188 14 from by rw [hgS_3 188 14 (by omega)]; rw [eS_1, q2_k _ _ (by omega)]).trans hln) (by omega) (show S_3 188 16 = nI en6 from by exact h166) (by omega) (by omega) (by omega)) (qmem_11 E ad S_3 A_4 b (show qk 188 = 11 from by decide +kernel)) (by decide) rfl gX11_takeCrow_X11_into rfl rfl rfl (by decide +kernel) ⟨Nat.le_of_ble_eq_true rfl, Nat.le_of_ble_eq_true rfl⟩ rfl hl.1 rfl (Nat.le_of_ble_eq_true rfl) ⟨Nat.zero_le _, Nat.zero_le _⟩ dX11_takeCrow_45 (fun r_7 S_8 A_9 b_10 H locs qr_7 hM => ?_)
      rw [show A_4 194 = A 194 from by rw [eA_4, q2_or _ _ (by omega)]] at qr_7
      obtain ⟨e3, hgS_8, hD⟩ := qr_7
      subst e3
      rcases hD with ⟨kd11, pl11, xx11, hn11, hk11, er_7, h1511, eA_9⟩ | ⟨v11, en11, at11, hn11, hlo11, hhi11, hen11, er_7, h1511, h1611, h1711, h1811, eA_9⟩
      · skip
        subst er_7
        exact q_iret C hM dX11_takeCrow_48 (by exact ⟨rfl, (fun i j hij => by rw [hgS_8 i j (by omega), hgS_3 i j (by omega), eS_1, q2_ne _ _ (by omega)]), (fun i hi => by rw [eA_9, q2_or _ _ (by omega), eA_4, q2_or _ _ (by omega)]), Or.inl ⟨kd11, pl11, by simp only [qbC, qbind, hn6, hn11], by omega, rfl, (show S_8 188 15 = nI pl11 from by exact h1511)⟩⟩)
      · skip
        subst er_7
        exact q_iret C hM dX11_takeCrow_48 (by exact ⟨rfl, (fun i j hij => by rw [hgS_8 i j (by omega), hgS_3 i j (by omega), eS_1, q2_ne _ _ (by omega)]), (fun i hi => by rw [eA_9, q2_or _ _ (by omega), eA_4, q2_or _ _ (by omega)]), Or.inr ⟨en11, _, by simp only [qbC, qbind, hn6, hn11]; rfl, by omega, rfl, (show S_8 188 16 = nI en11 from by exact h1611), (show S_8 188 15 = S 188 15 from by rw [h1511]; rw [h156]; rw [eS_1, q2_k _ _ (by omega)]), ⟨nC, nP, nK + 1, nW, mPr_crow hP hcd ((show S_8 188 20 = S 188 20 from by rw [hgS_8 188 20 (by omega)]; rw [hgS_3 188 20 (by omega)]; rw [eS_1, q2_k _ _ (by omega)])) ((show S_8 188 21 = S 188 21 from by rw [hgS_8 188 21 (by omega)]; rw [hgS_3 188 21 (by omega)]; rw [eS_1, q2_k _ _ (by omega)])) ((show S_8 188 24 = nI (nK + 1) from by rw [hgS_8 188 24 (by omega)]; rw [hgS_3 188 24 (by omega)]; rw [eS_1]; exact q2_s _ _ _ _)) ((show S_8 188 27 = S 188 27 from by rw [hgS_8 188 27 (by omega)]; rw [hgS_3 188 27 (by omega)]; rw [eS_1, q2_k _ _ (by omega)])) (by rw [eA_9, eA_4])⟩⟩⟩)
    · skip
      have c_29 : ¬ (0 ≤ 0) := fun z => c_29 ((nI_leI (a := 0) (b := 0) (by omega) (by omega)).mpr z)
      omega

set_option maxHeartbeats 4000000 in
set_option maxRecDepth 100000 in
theorem c_X11_takeHour (E : qE) (ad : Nat → Nat) (l : Launch) (S A : qA2) (b : qB) (n a : Nat) (hln : S 188 14 = nI n) (hnb : n ≤ 240) (hat : S 188 16 = nI (a + 1)) (hab : a < n) (nC nP nK nW : Nat) (P : qPS) (hP : mPr nC nP nK nW S A P) (hcd : nW < 10) : MI E ad l yX11_takeHour wsX11_takeHour { frames := 3, cells := 0, slots := 0, locals := 73 } [.ref (ad 188)] S A b (fun r S' A' b' => b = b' ∧ (∀ i j, (i ≠ 188 ∨ j < 15 ∨ 27 < j) → S' i j = S i j) ∧ (∀ i, (i < 195 ∨ 201 < i) → A' i = A i) ∧ ((∃ kd pl, qbH qstM (A 194) n a nW P = .inl (kd, pl) ∧ (1 ≤ kd ∧ kd ≤ 4) ∧ r = nI kd ∧ S' 188 15 = nI pl) ∨ (∃ e P', qbH qstM (A 194) n a nW P = .inr (e, P') ∧ (a < e ∧ e ≤ 245) ∧ r = 0 ∧ S' 188 16 = nI e ∧ S' 188 15 = S 188 15 ∧ mPX S' A' P'))) := by
  obtain ⟨⟨hRl, hP0, hCb⟩, hP12, hP3, ⟨hR4, hP4, hPb⟩, ⟨hR5, hP5, hKb⟩, ⟨hR6, hP6, hWb⟩, hPp, hPk, hPw⟩ := id hP
  refine MI.of (cc := cX11_takeHour) (maxL := 3) (ret := some .int) RX11 rfl (by decide) rfl ?_
  intro pg e s m below meth cd C hM
  have hx := C.1
  have hb := C.2.1
  have hts := C.2.2.2.2.1
  have hA : ∀ q, s.heap.size ≤ q → qAr ad s.heap.size q := fun _ h => Or.inr h
  have hi11 : ∀ w ∈ u_ws RX11 TX11 45, w ∈ wsX11_takeHour := by decide +kernel
  have hL0 := hts (.fieldLink RX11 151 "CrowFencesModel" "readWinds" "I") (by decide +kernel)
  have hL1 := hts (.fieldLink RX11 47 "CrowFencesModel" "readStrong" "[I") (by decide +kernel)
  have hL2 := hts (.fieldLink RX11 50 "CrowFencesModel" "readSnows" "[I") (by decide +kernel)
  have hl := lv_entry ([.ref (ad 188)]) (n := 3) (Nat.le_of_ble_eq_true rfl)
  rw [lg_entry_eq]
  generalize (lg_sl ([.ref (ad 188)]) ++ List.replicate (3 - (lg_sl ([.ref (ad 188)])).length) Slot.unset).toArray = ls at hl ⊢
  have hl : lv_has ls 3 [(0, .ref (ad 188))] := hl
  refine lv_aload_n hx hb dX11_takeHour_0 rfl (lv_at hl 0 rfl) ?_
  refine q_get (o := 188) (ci := 11) (k := 27) (T := TX11) (v := .int (S 188 27)) C hM (qmem_11 E ad S A b (show qk 188 = 11 from by decide +kernel)) (by decide) rfl hi11 (by decide) hL0 rfl rfl dX11_takeHour_1 ?_
  refine lv_as (y := nI nW) hR6 ?_
  refine lv_istore_n (lv' := [(1, .int (nI nW)), (0, .ref (ad 188))]) hx hb dX11_takeHour_4 rfl hl (by decide) rfl (fun ls hl => ?_)
  refine lv_aload_n hx hb dX11_takeHour_5 rfl (lv_at hl 1 rfl) ?_
  refine lv_dup hx hb dX11_takeHour_6 rfl ?_
  refine q_get (o := 188) (ci := 11) (k := 27) (T := TX11) (v := .int (S 188 27)) C hM (qmem_11 E ad S A b (show qk 188 = 11 from by decide +kernel)) (by decide) rfl hi11 (by decide) hL0 rfl rfl dX11_takeHour_7 ?_
  refine lv_as (y := nI nW) hR6 ?_
  refine lv_iconst (v := 1) hx hb dX11_takeHour_10 (by decide) ?_
  refine lv_iadd hx hb dX11_takeHour_11 ?_
  refine lv_as (y := nI (nW + 1)) (nI_add _ _) ?_
  refine q_put (o := 188) (ci := 11) (k := 27) (T := TX11) (ty := .int) (v := nI (nW + 1)) C hM (qmem_11 E ad S A b (show qk 188 = 11 from by decide +kernel)) (by decide) rfl hi11 tyX11 tyX11_ok nmX11 (by decide) hL0 rfl rfl (by decide +kernel) rfl rfl (Nat.le_of_ble_eq_true rfl) (qs_11_27 E ad S A b (show qk 188 = 11 from by decide +kernel) (nI (nW + 1))) dX11_takeHour_12 (fun H locs hM => ?_)
  obtain ⟨S_1, eS_1⟩ : ∃ zz, zz = q2 S 188 27 (nI (nW + 1)) := ⟨_, rfl⟩
  rw [← eS_1] at hM
  refine lv_aload_n hx hb dX11_takeHour_15 rfl (lv_at hl 1 rfl) ?_
  refine lv_aload_n hx hb dX11_takeHour_16 rfl (lv_at hl 1 rfl) ?_
  refine q_get (o := 188) (ci := 11) (k := 28) (T := TX11) (v := .ref (ad 200)) C hM (qmem_11 E ad S_1 A b (show qk 188 = 11 from by decide +kernel)) (by decide) rfl hi11 (by decide) hL1 rfl rfl dX11_takeHour_17 ?_
  refine lv_iload_n hx hb dX11_takeHour_20 rfl (lv_at hl 0 rfl) ?_
  refine lv_iconst (v := 0) hx hb dX11_takeHour_21 (by decide) ?_
  refine lv_bipush (v := 18) hx hb dX11_takeHour_22 (by decide) ?_
  refine q_callVI (n := 4) (o := 188) (As := [.ref (ad 200), .int (nI nW), .int 0, .int 18]) (rest := []) C hM hA (c_X11_into E ad l S_1 A b 200 10 nW (show qk 200 = 12 from by decide +kernel) (show ql 200 = 10 from by decide +kernel) (by decide) (by omega) (by decide) 0 18 n (a + 1) ((show S_1 188 14 = S 188 14 from by rw [eS_1, q2_k _ _ (by omega)]).trans hln) (by omega) ((show S_1 188 16 = S 188 16 from by rw [eS_1, q2_k _ _ (by omega)]).trans hat) (by omega) (by omega) (by omega)) (qmem_11 E ad S_1 A b (show qk 188 = 11 from by decide +kernel)) (by decide) rfl gX11_takeHour_X11_into rfl rfl rfl (by decide +kernel) ⟨Nat.le_of_ble_eq_true rfl, Nat.le_of_ble_eq_true rfl⟩ rfl hl.1 rfl (Nat.le_of_ble_eq_true rfl) ⟨Nat.zero_le _, Nat.zero_le _⟩ dX11_takeHour_24 (fun r_2 S_3 A_4 b_5 H locs qr_2 hM => ?_)
  obtain ⟨e3, hgS_3, hD⟩ := qr_2
  subst e3
  rcases hD with ⟨kd6, pl6, xx6, hn6, hk6, er_2, h156, eA_4⟩ | ⟨v6, en6, at6, hn6, hlo6, hhi6, hen6, er_2, h156, h166, h176, h186, eA_4⟩
  · skip
    subst er_2
    refine lv_istore_n (lv' := [(2, .int (nI kd6)), (1, .int (nI nW)), (0, .ref (ad 188))]) hx hb dX11_takeHour_27 rfl hl (by decide) rfl (fun ls hl => ?_)
    refine lv_iload_n hx hb dX11_takeHour_28 rfl (lv_at hl 0 rfl) ?_
    refine lv_if_le (tgt := 36) hx hb dX11_takeHour_29 (by decide) (fun c_29 => ?_) (fun c_29 => ?_)
    · skip
      have c_29 : kd6 ≤ 0 := (nI_leI (a := kd6) (b := 0) (by omega) (by omega)).mp c_29
      omega
    · skip
      have c_29 : ¬ (kd6 ≤ 0) := fun z => c_29 ((nI_leI (a := kd6) (b := 0) (by omega) (by omega)).mpr z)
      refine lv_iload_n hx hb dX11_takeHour_32 rfl (lv_at hl 0 rfl) ?_
      refine lv_goto (tgt := 48) hx hb dX11_takeHour_33 (by decide) ?_
      exact q_iret C hM dX11_takeHour_48 (by exact ⟨rfl, (fun i j hij => by rw [hgS_3 i j (by omega), eS_1, q2_ne _ _ (by omega)]), (fun i hi => by rw [eA_4, q2_or _ _ (by omega)]), Or.inl ⟨kd6, pl6, by simp only [qbH, qbind, hn6], by omega, rfl, (show S_3 188 15 = nI pl6 from by exact h156)⟩⟩)
  · skip
    subst er_2
    refine lv_istore_n (lv' := [(2, .int 0), (1, .int (nI nW)), (0, .ref (ad 188))]) hx hb dX11_takeHour_27 rfl hl (by decide) rfl (fun ls hl => ?_)
    refine lv_iload_n hx hb dX11_takeHour_28 rfl (lv_at hl 0 rfl) ?_
    refine lv_if_le (tgt := 36) hx hb dX11_takeHour_29 (by decide) (fun c_29 => ?_) (fun c_29 => ?_)
    · skip
      have c_29 : 0 ≤ 0 := (nI_leI (a := 0) (b := 0) (by omega) (by omega)).mp c_29
      refine lv_aload_n hx hb dX11_takeHour_36 rfl (lv_at hl 2 rfl) ?_
      refine lv_aload_n hx hb dX11_takeHour_37 rfl (lv_at hl 2 rfl) ?_
      refine q_get (o := 188) (ci := 11) (k := 29) (T := TX11) (v := .ref (ad 201)) C hM (qmem_11 E ad S_3 A_4 b (show qk 188 = 11 from by decide +kernel)) (by decide) rfl hi11 (by decide) hL2 rfl rfl dX11_takeHour_38 ?_
      refine lv_iload_n hx hb dX11_takeHour_41 rfl (lv_at hl 1 rfl) ?_
      refine lv_iconst (v := 0) hx hb dX11_takeHour_42 (by decide) ?_
      refine lv_bipush (v := 30) hx hb dX11_takeHour_43 (by decide) ?_
      refine q_callVI (n := 4) (o := 188) (As := [.ref (ad 201), .int (nI nW), .int 0, .int 30]) (rest := []) C hM hA (c_X11_into E ad l S_3 A_4 b 201 10 nW (show qk 201 = 12 from by decide +kernel) (show ql 201 = 10 from by decide +kernel) (by decide) (by omega) (by decide) 0 30 n en6 ((show S_3 188 14 = S 188 14 from by rw [hgS_3 188 14 (by omega)]; rw [eS_1, q2_k _ _ (by omega)]).trans hln) (by omega) (show S_3 188 16 = nI en6 from by exact h166) (by omega) (by omega) (by omega)) (qmem_11 E ad S_3 A_4 b (show qk 188 = 11 from by decide +kernel)) (by decide) rfl gX11_takeHour_X11_into rfl rfl rfl (by decide +kernel) ⟨Nat.le_of_ble_eq_true rfl, Nat.le_of_ble_eq_true rfl⟩ rfl hl.1 rfl (Nat.le_of_ble_eq_true rfl) ⟨Nat.zero_le _, Nat.zero_le _⟩ dX11_takeHour_45 (fun r_7 S_8 A_9 b_10 H locs qr_7 hM => ?_)
      rw [show A_4 194 = A 194 from by rw [eA_4, q2_or _ _ (by omega)]] at qr_7
      obtain ⟨e3, hgS_8, hD⟩ := qr_7
      subst e3
      rcases hD with ⟨kd11, pl11, xx11, hn11, hk11, er_7, h1511, eA_9⟩ | ⟨v11, en11, at11, hn11, hlo11, hhi11, hen11, er_7, h1511, h1611, h1711, h1811, eA_9⟩
      · skip
        subst er_7
        exact q_iret C hM dX11_takeHour_48 (by exact ⟨rfl, (fun i j hij => by rw [hgS_8 i j (by omega), hgS_3 i j (by omega), eS_1, q2_ne _ _ (by omega)]), (fun i hi => by rw [eA_9, q2_or _ _ (by omega), eA_4, q2_or _ _ (by omega)]), Or.inl ⟨kd11, pl11, by simp only [qbH, qbind, hn6, hn11], by omega, rfl, (show S_8 188 15 = nI pl11 from by exact h1511)⟩⟩)
      · skip
        subst er_7
        exact q_iret C hM dX11_takeHour_48 (by exact ⟨rfl, (fun i j hij => by rw [hgS_8 i j (by omega), hgS_3 i j (by omega), eS_1, q2_ne _ _ (by omega)]), (fun i hi => by rw [eA_9, q2_or _ _ (by omega), eA_4, q2_or _ _ (by omega)]), Or.inr ⟨en11, _, by simp only [qbH, qbind, hn6, hn11]; rfl, by omega, rfl, (show S_8 188 16 = nI en11 from by exact h1611), (show S_8 188 15 = S 188 15 from by rw [h1511]; rw [h156]; rw [eS_1, q2_k _ _ (by omega)]), ⟨nC, nP, nK, nW + 1, mPr_hour hP hcd ((show S_8 188 20 = S 188 20 from by rw [hgS_8 188 20 (by omega)]; rw [hgS_3 188 20 (by omega)]; rw [eS_1, q2_k _ _ (by omega)])) ((show S_8 188 21 = S 188 21 from by rw [hgS_8 188 21 (by omega)]; rw [hgS_3 188 21 (by omega)]; rw [eS_1, q2_k _ _ (by omega)])) ((show S_8 188 24 = S 188 24 from by rw [hgS_8 188 24 (by omega)]; rw [hgS_3 188 24 (by omega)]; rw [eS_1, q2_k _ _ (by omega)])) ((show S_8 188 27 = nI (nW + 1) from by rw [hgS_8 188 27 (by omega)]; rw [hgS_3 188 27 (by omega)]; rw [eS_1]; exact q2_s _ _ _ _)) (by rw [eA_9, eA_4])⟩⟩⟩)
    · skip
      have c_29 : ¬ (0 ≤ 0) := fun z => c_29 ((nI_leI (a := 0) (b := 0) (by omega) (by omega)).mpr z)
      omega

set_option maxHeartbeats 4000000 in
set_option maxRecDepth 100000 in
theorem c_X11_whichClause (E : qE) (ad : Nat → Nat) (l : Launch) (S A : qA2) (b : qB) (a1 : Int32) : MI E ad l yX11_whichClause wsX11_whichClause { frames := 0, cells := 0, slots := 0, locals := 0 } [.ref (ad 188), .int a1] S A b (fun r S' A' b' => (S = S' ∧ A = A' ∧ b = b') ∧ r = mwc a1) := by
  refine MI.of (cc := cX11_whichClause) (maxL := 2) (ret := some .int) RX11 rfl (by decide) rfl ?_
  intro pg e s m below meth cd C hM
  have hx := C.1
  have hb := C.2.1
  have hts := C.2.2.2.2.1
  have hA : ∀ q, s.heap.size ≤ q → qAr ad s.heap.size q := fun _ h => Or.inr h
  have hl := lv_entry ([.ref (ad 188), .int a1]) (n := 2) (Nat.le_of_ble_eq_true rfl)
  rw [lg_entry_eq]
  generalize (lg_sl ([.ref (ad 188), .int a1]) ++ List.replicate (2 - (lg_sl ([.ref (ad 188), .int a1])).length) Slot.unset).toArray = ls at hl ⊢
  have hl : lv_has ls 2 [(0, .ref (ad 188)), (1, .int a1)] := hl
  refine lv_iload_n hx hb dX11_whichClause_0 rfl (lv_at hl 1 rfl) ?_
  refine lv_bipush (v := 119) hx hb dX11_whichClause_1 (by decide) ?_
  refine lv_icmp_ne (tgt := 10) hx hb dX11_whichClause_3 (by decide) (fun c_3 => ?_) (fun c_3 => ?_)
  · skip
    refine lv_iload_n hx hb dX11_whichClause_10 rfl (lv_at hl 1 rfl) ?_
    refine lv_bipush (v := 114) hx hb dX11_whichClause_11 (by decide) ?_
    refine lv_icmp_ne (tgt := 20) hx hb dX11_whichClause_13 (by decide) (fun c_13 => ?_) (fun c_13 => ?_)
    · skip
      refine lv_iload_n hx hb dX11_whichClause_20 rfl (lv_at hl 1 rfl) ?_
      refine lv_bipush (v := 112) hx hb dX11_whichClause_21 (by decide) ?_
      refine lv_icmp_ne (tgt := 30) hx hb dX11_whichClause_23 (by decide) (fun c_23 => ?_) (fun c_23 => ?_)
      · skip
        refine lv_iload_n hx hb dX11_whichClause_30 rfl (lv_at hl 1 rfl) ?_
        refine lv_bipush (v := 99) hx hb dX11_whichClause_31 (by decide) ?_
        refine lv_icmp_ne (tgt := 40) hx hb dX11_whichClause_33 (by decide) (fun c_33 => ?_) (fun c_33 => ?_)
        · skip
          refine lv_iload_n hx hb dX11_whichClause_40 rfl (lv_at hl 1 rfl) ?_
          refine lv_bipush (v := 104) hx hb dX11_whichClause_41 (by decide) ?_
          refine lv_icmp_ne (tgt := 50) hx hb dX11_whichClause_43 (by decide) (fun c_43 => ?_) (fun c_43 => ?_)
          · skip
            refine lv_iconst (v := (-1)) hx hb dX11_whichClause_50 (by decide) ?_
            exact q_iret C hM dX11_whichClause_51 (by exact ⟨⟨rfl, rfl, rfl⟩, (by unfold mwc; rw [if_neg c_3, if_neg c_13, if_neg c_23, if_neg c_33, if_neg c_43])⟩)
          · skip
            refine lv_iconst (v := 4) hx hb dX11_whichClause_46 (by decide) ?_
            refine lv_goto (tgt := 51) hx hb dX11_whichClause_47 (by decide) ?_
            exact q_iret C hM dX11_whichClause_51 (by exact ⟨⟨rfl, rfl, rfl⟩, (by unfold mwc; rw [if_neg c_3, if_neg c_13, if_neg c_23, if_neg c_33, if_pos c_43])⟩)
        · skip
          refine lv_iconst (v := 3) hx hb dX11_whichClause_36 (by decide) ?_
          refine lv_goto (tgt := 51) hx hb dX11_whichClause_37 (by decide) ?_
          exact q_iret C hM dX11_whichClause_51 (by exact ⟨⟨rfl, rfl, rfl⟩, (by unfold mwc; rw [if_neg c_3, if_neg c_13, if_neg c_23, if_pos c_33])⟩)
      · skip
        refine lv_iconst (v := 2) hx hb dX11_whichClause_26 (by decide) ?_
        refine lv_goto (tgt := 51) hx hb dX11_whichClause_27 (by decide) ?_
        exact q_iret C hM dX11_whichClause_51 (by exact ⟨⟨rfl, rfl, rfl⟩, (by unfold mwc; rw [if_neg c_3, if_neg c_13, if_pos c_23])⟩)
    · skip
      refine lv_iconst (v := 1) hx hb dX11_whichClause_16 (by decide) ?_
      refine lv_goto (tgt := 51) hx hb dX11_whichClause_17 (by decide) ?_
      exact q_iret C hM dX11_whichClause_51 (by exact ⟨⟨rfl, rfl, rfl⟩, (by unfold mwc; rw [if_neg c_3, if_pos c_13])⟩)
  · skip
    refine lv_iconst (v := 0) hx hb dX11_whichClause_6 (by decide) ?_
    refine lv_goto (tgt := 51) hx hb dX11_whichClause_7 (by decide) ?_
    exact q_iret C hM dX11_whichClause_51 (by exact ⟨⟨rfl, rfl, rfl⟩, (by unfold mwc; rw [if_pos c_3])⟩)

set_option maxHeartbeats 4000000 in
set_option maxRecDepth 100000 in
theorem c_X11_isFull (E : qE) (ad : Nat → Nat) (l : Launch) (S A : qA2) (b : qB) (nC nP nK nW : Nat) (P : qPS) (hP : mPr nC nP nK nW S A P) (is : Nat) (his4 : is ≤ 4) : MI E ad l yX11_isFull wsX11_isFull { frames := 0, cells := 0, slots := 0, locals := 0 } [.ref (ad 188), .int (nI is)] S A b (fun r S' A' b' => (S = S' ∧ A = A' ∧ b = b') ∧ r = q01 (mfl nC nP nK nW is = true)) := by
  obtain ⟨⟨hRl, hP0, hCb⟩, hP12, hP3, ⟨hR4, hP4, hPb⟩, ⟨hR5, hP5, hKb⟩, ⟨hR6, hP6, hWb⟩, hPp, hPk, hPw⟩ := id hP
  refine MI.of (cc := cX11_isFull) (maxL := 2) (ret := some .boolean) RX11 rfl (by decide) rfl ?_
  intro pg e s m below meth cd C hM
  have hx := C.1
  have hb := C.2.1
  have hts := C.2.2.2.2.1
  have hA : ∀ q, s.heap.size ≤ q → qAr ad s.heap.size q := fun _ h => Or.inr h
  have hi11 : ∀ w ∈ u_ws RX11 TX11 45, w ∈ wsX11_isFull := by decide +kernel
  have hL0 := hts (.fieldLink RX11 32 "CrowFencesModel" "readLaw" "[I") (by decide +kernel)
  have hL1 := hts (.fieldLink RX11 145 "CrowFencesModel" "readPosts" "I") (by decide +kernel)
  have hL2 := hts (.fieldLink RX11 148 "CrowFencesModel" "readCrows" "I") (by decide +kernel)
  have hL3 := hts (.fieldLink RX11 151 "CrowFencesModel" "readWinds" "I") (by decide +kernel)
  have hl := lv_entry ([.ref (ad 188), .int (nI is)]) (n := 2) (Nat.le_of_ble_eq_true rfl)
  rw [lg_entry_eq]
  generalize (lg_sl ([.ref (ad 188), .int (nI is)]) ++ List.replicate (2 - (lg_sl ([.ref (ad 188), .int (nI is)])).length) Slot.unset).toArray = ls at hl ⊢
  have hl : lv_has ls 2 [(0, .ref (ad 188)), (1, .int (nI is))] := hl
  refine lv_iload_n hx hb dX11_isFull_0 rfl (lv_at hl 1 rfl) ?_
  by_cases c_1 : nI is = 0
  · have hz : (nI is : Int32).toInt = 0 := by rw [c_1]; rfl
    refine lv_tableIn (off := 31) (tgt := 32) hx hb dX11_isFull_1 (by rw [hz]; decide) (by rw [hz]; decide) (by rw [hz]; rfl) (by decide) ?_
    refine lv_aload_n hx hb dX11_isFull_32 rfl (lv_at hl 0 rfl) ?_
    have his : is = 0 := (nI_eq (a := is) (b := 0) (by omega) (by omega)).mp c_1
    refine q_get (o := 188) (ci := 11) (k := 19) (T := TX11) (v := .ref (ad 195)) C hM (qmem_11 E ad S A b (show qk 188 = 11 from by decide +kernel)) (by decide) rfl hi11 (by decide) hL0 rfl rfl dX11_isFull_33 ?_
    refine lv_iconst (v := 0) hx hb dX11_isFull_36 (by decide) ?_
    refine q_iald (v := A 195 0) C hM (show qk 195 = 12 from by decide +kernel) (by rw [(show ql 195 = 3 from by decide +kernel)]; exact (vp_nI (by decide) (by decide) : vp_in (nI 0) 3)) (by rw [show Int32.toNatClampNeg 0 = 0 from by decide]) dX11_isFull_37 ?_
    refine lv_as (y := nI nC) hRl ?_
    refine lv_if_le (tgt := 45) hx hb dX11_isFull_38 (by decide) (fun c_38 => ?_) (fun c_38 => ?_)
    · skip
      have c_38 : nC ≤ 0 := (nI_leI (a := nC) (b := 0) (by omega) (by omega)).mp c_38
      refine lv_iconst (v := 0) hx hb dX11_isFull_45 (by decide) ?_
      exact q_zret C hM dX11_isFull_46 rfl (by exact ⟨⟨rfl, rfl, rfl⟩, (by rw [his, q01, if_neg (by simp [mfl]; omega)])⟩)
    · skip
      have c_38 : ¬ (nC ≤ 0) := fun z => c_38 ((nI_leI (a := nC) (b := 0) (by omega) (by omega)).mpr z)
      refine lv_iconst (v := 1) hx hb dX11_isFull_41 (by decide) ?_
      refine lv_goto (tgt := 46) hx hb dX11_isFull_42 (by decide) ?_
      exact q_zret C hM dX11_isFull_46 rfl (by exact ⟨⟨rfl, rfl, rfl⟩, (by rw [his, q01, if_pos (by simp [mfl]; omega)])⟩)
  have n_1_0 := c_1
  by_cases c_1 : nI is = 1
  · have hz : (nI is : Int32).toInt = 1 := by rw [c_1]; rfl
    refine lv_tableIn (off := 46) (tgt := 47) hx hb dX11_isFull_1 (by rw [hz]; decide) (by rw [hz]; decide) (by rw [hz]; rfl) (by decide) ?_
    refine lv_iconst (v := 0) hx hb dX11_isFull_47 (by decide) ?_
    exact q_zret C hM dX11_isFull_48 rfl (by have his : is = 1 := (nI_eq (a := is) (b := 1) (by omega) (by omega)).mp c_1; exact ⟨⟨rfl, rfl, rfl⟩, (by rw [his]; rfl)⟩)
  have n_1_1 := c_1
  by_cases c_1 : nI is = 2
  · have hz : (nI is : Int32).toInt = 2 := by rw [c_1]; rfl
    refine lv_tableIn (off := 48) (tgt := 49) hx hb dX11_isFull_1 (by rw [hz]; decide) (by rw [hz]; decide) (by rw [hz]; rfl) (by decide) ?_
    refine lv_aload_n hx hb dX11_isFull_49 rfl (lv_at hl 0 rfl) ?_
    have his : is = 2 := (nI_eq (a := is) (b := 2) (by omega) (by omega)).mp c_1
    refine q_get (o := 188) (ci := 11) (k := 21) (T := TX11) (v := .int (S 188 21)) C hM (qmem_11 E ad S A b (show qk 188 = 11 from by decide +kernel)) (by decide) rfl hi11 (by decide) hL1 rfl rfl dX11_isFull_50 ?_
    refine lv_as (y := nI nP) hR4 ?_
    refine lv_bipush (v := 6) hx hb dX11_isFull_53 (by decide) ?_
    refine lv_icmp_ne (tgt := 62) hx hb dX11_isFull_55 (by decide) (fun c_55 => ?_) (fun c_55 => ?_)
    · skip
      have c_55 : ¬ (nP = 6) := fun z => c_55 ((nI_eq (a := nP) (b := 6) (by omega) (by omega)).mpr z)
      refine lv_iconst (v := 0) hx hb dX11_isFull_62 (by decide) ?_
      exact q_zret C hM dX11_isFull_63 rfl (by exact ⟨⟨rfl, rfl, rfl⟩, (by rw [his, q01, if_neg (by simp [mfl]; omega)])⟩)
    · skip
      have c_55 : nP = 6 := (nI_eq (a := nP) (b := 6) (by omega) (by omega)).mp c_55
      refine lv_iconst (v := 1) hx hb dX11_isFull_58 (by decide) ?_
      refine lv_goto (tgt := 63) hx hb dX11_isFull_59 (by decide) ?_
      exact q_zret C hM dX11_isFull_63 rfl (by exact ⟨⟨rfl, rfl, rfl⟩, (by rw [his, q01, if_pos (by simp [mfl]; omega)])⟩)
  have n_1_2 := c_1
  by_cases c_1 : nI is = 3
  · have hz : (nI is : Int32).toInt = 3 := by rw [c_1]; rfl
    refine lv_tableIn (off := 63) (tgt := 64) hx hb dX11_isFull_1 (by rw [hz]; decide) (by rw [hz]; decide) (by rw [hz]; rfl) (by decide) ?_
    refine lv_aload_n hx hb dX11_isFull_64 rfl (lv_at hl 0 rfl) ?_
    have his : is = 3 := (nI_eq (a := is) (b := 3) (by omega) (by omega)).mp c_1
    refine q_get (o := 188) (ci := 11) (k := 24) (T := TX11) (v := .int (S 188 24)) C hM (qmem_11 E ad S A b (show qk 188 = 11 from by decide +kernel)) (by decide) rfl hi11 (by decide) hL2 rfl rfl dX11_isFull_65 ?_
    refine lv_as (y := nI nK) hR5 ?_
    refine lv_iconst (v := 5) hx hb dX11_isFull_68 (by decide) ?_
    refine lv_icmp_ne (tgt := 76) hx hb dX11_isFull_69 (by decide) (fun c_69 => ?_) (fun c_69 => ?_)
    · skip
      have c_69 : ¬ (nK = 5) := fun z => c_69 ((nI_eq (a := nK) (b := 5) (by omega) (by omega)).mpr z)
      refine lv_iconst (v := 0) hx hb dX11_isFull_76 (by decide) ?_
      exact q_zret C hM dX11_isFull_77 rfl (by exact ⟨⟨rfl, rfl, rfl⟩, (by rw [his, q01, if_neg (by simp [mfl]; omega)])⟩)
    · skip
      have c_69 : nK = 5 := (nI_eq (a := nK) (b := 5) (by omega) (by omega)).mp c_69
      refine lv_iconst (v := 1) hx hb dX11_isFull_72 (by decide) ?_
      refine lv_goto (tgt := 77) hx hb dX11_isFull_73 (by decide) ?_
      exact q_zret C hM dX11_isFull_77 rfl (by exact ⟨⟨rfl, rfl, rfl⟩, (by rw [his, q01, if_pos (by simp [mfl]; omega)])⟩)
  have n_1_3 := c_1
  have m_1_0 := q_neI (i := 0) (by decide) n_1_0
  have m_1_1 := q_neI (i := 1) (by decide) n_1_1
  have m_1_2 := q_neI (i := 2) (by decide) n_1_2
  have m_1_3 := q_neI (i := 3) (by decide) n_1_3
  refine lv_tableOut (tgt := 78) hx hb dX11_isFull_1 (by omega) (by decide) ?_
  refine lv_aload_n hx hb dX11_isFull_78 rfl (lv_at hl 0 rfl) ?_
  have his : is = 4 := by have h0 : ¬ is = 0 := fun z => n_1_0 (by rw [z]; rfl); have h1 : ¬ is = 1 := fun z => n_1_1 (by rw [z]; rfl); have h2 : ¬ is = 2 := fun z => n_1_2 (by rw [z]; rfl); have h3 : ¬ is = 3 := fun z => n_1_3 (by rw [z]; rfl); omega
  refine q_get (o := 188) (ci := 11) (k := 27) (T := TX11) (v := .int (S 188 27)) C hM (qmem_11 E ad S A b (show qk 188 = 11 from by decide +kernel)) (by decide) rfl hi11 (by decide) hL3 rfl rfl dX11_isFull_79 ?_
  refine lv_as (y := nI nW) hR6 ?_
  refine lv_bipush (v := 10) hx hb dX11_isFull_82 (by decide) ?_
  refine lv_icmp_ne (tgt := 91) hx hb dX11_isFull_84 (by decide) (fun c_84 => ?_) (fun c_84 => ?_)
  · skip
    have c_84 : ¬ (nW = 10) := fun z => c_84 ((nI_eq (a := nW) (b := 10) (by omega) (by omega)).mpr z)
    refine lv_iconst (v := 0) hx hb dX11_isFull_91 (by decide) ?_
    exact q_zret C hM dX11_isFull_92 rfl (by exact ⟨⟨rfl, rfl, rfl⟩, (by rw [his, q01, if_neg (by simp [mfl]; omega)])⟩)
  · skip
    have c_84 : nW = 10 := (nI_eq (a := nW) (b := 10) (by omega) (by omega)).mp c_84
    refine lv_iconst (v := 1) hx hb dX11_isFull_87 (by decide) ?_
    refine lv_goto (tgt := 92) hx hb dX11_isFull_88 (by decide) ?_
    exact q_zret C hM dX11_isFull_92 rfl (by exact ⟨⟨rfl, rfl, rfl⟩, (by rw [his, q01, if_pos (by simp [mfl]; omega)])⟩)
