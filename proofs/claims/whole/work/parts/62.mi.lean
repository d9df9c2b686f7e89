set_option maxHeartbeats 4000000 in
set_option maxRecDepth 100000 in
theorem c_X11_plateau (E : qE) (ad : Nat → Nat) (l : Launch) (S A : qA2) (b : qB) (n : Nat) (hln : S 188 14 = nI n) (hnb : n ≤ 240) (hLn : ∀ k, k < n → ¬ A 194 k < 0) (P0 : qPS) (h00 : P0.1 0 = 0) (h03 : P0.1 3 = 0) (h04 : P0.1 4 = 0) (h05 : P0.1 5 = 0) (h06 : P0.1 6 = 0) : MI E ad l yX11_plateau wsX11_plateau { frames := 6, cells := 0, slots := 0, locals := 139 } [.ref (ad 188)] S A b (fun r S' A' b' => b = b' ∧ ((∃ kd pl, qparse qstM (A 194) n 240 (qsk (A 194) n 0) P0 = .inl (kd, pl) ∧ (1 ≤ kd ∧ kd ≤ 4) ∧ r = (-10) - nI kd ∧ S' 188 15 = nI pl ∧ S' 188 14 = 0 ∧ (∀ i j, (i ≠ 188 ∨ j < 14 ∨ 27 < j) → S' i j = S i j) ∧ (∀ i, (i < 195 ∨ 201 < i) → A' i = A i)) ∨ (∃ P nC nP nK nW, qparse qstM (A 194) n 240 (qsk (A 194) n 0) P0 = .inr P ∧ r = nI nC ∧ mPr nC nP nK nW S' A' P ∧ (S' 188 0 = nI nC ∧ S' 188 1 = A' 195 1 ∧ S' 188 2 = A' 195 2 ∧ S' 188 3 = S' 188 20 ∧ S' 188 4 = nI nP ∧ S' 188 6 = nI nK ∧ S' 188 8 = nI nW) ∧ (S' 188 14 = 0 ∧ S' 188 15 = -1 ∧ S' 188 30 = 0 ∧ S' 188 36 = 0 ∧ S' 188 40 = 0) ∧ (A' 213 0 = 0 ∧ A' 213 1 = 0) ∧ (∀ j, j < 37 → A' 193 j = mini nP nK (A' 196) (A' 198) j) ∧ (∀ p, p < 6 → A' 189 p = A' 197 p) ∧ (∀ c, c < nK → A' 190 c = A' 199 c) ∧ (∀ h, h < nW → A' 191 h = A' 200 h ∧ A' 192 h = A' 201 h) ∧ (∀ i, i ≠ 188 → S' i = S i) ∧ S' 188 12 = S 188 12 ∧ (∀ i, (i < 189 ∨ i = 194 ∨ (201 < i ∧ i ≠ 213)) → A' i = A i)))) := by
  refine MI.of (cc := cX11_plateau) (maxL := 2) (ret := some .int) RX11 rfl (by decide) rfl ?_
  intro pg e s m below meth cd C hM
  have hx := C.1
  have hb := C.2.1
  have hts := C.2.2.2.2.1
  have hA : ∀ q, s.heap.size ≤ q → qAr ad s.heap.size q := fun _ h => Or.inr h
  have hi11 : ∀ w ∈ u_ws RX11 TX11 45, w ∈ wsX11_plateau := by decide +kernel
  have hL0 := hts (.fieldLink RX11 28 "CrowFencesModel" "faultPlace" "I") (by decide +kernel)
  have hL1 := hts (.fieldLink RX11 110 "CrowFencesModel" "at0" "I") (by decide +kernel)
  have hL2 := hts (.fieldLink RX11 138 "CrowFencesModel" "readRoad" "I") (by decide +kernel)
  have hL3 := hts (.fieldLink RX11 145 "CrowFencesModel" "readPosts" "I") (by decide +kernel)
  have hL4 := hts (.fieldLink RX11 148 "CrowFencesModel" "readCrows" "I") (by decide +kernel)
  have hL5 := hts (.fieldLink RX11 151 "CrowFencesModel" "readWinds" "I") (by decide +kernel)
  have hL6 := hts (.fieldLink RX11 106 "CrowFencesModel" "texted" "I") (by decide +kernel)
  have hL7 := hts (.fieldLink RX11 198 "CrowFencesModel" "seen" "I") (by decide +kernel)
  have hL8 := hts (.fieldLink RX11 201 "CrowFencesModel" "booked" "I") (by decide +kernel)
  have hL9 := hts (.fieldLink RX11 204 "CrowFencesModel" "undos" "I") (by decide +kernel)
  have hL10 := hts (.fieldLink RX11 87 "CrowFencesModel" "isKept" "[Z") (by decide +kernel)
  have hL11 := hts (.fieldLink RX11 90 "CrowFencesModel" "cells" "I") (by decide +kernel)
  have hL12 := hts (.fieldLink RX11 32 "CrowFencesModel" "readLaw" "[I") (by decide +kernel)
  have hl := lv_entry ([.ref (ad 188)]) (n := 2) (Nat.le_of_ble_eq_true rfl)
  rw [lg_entry_eq]
  generalize (lg_sl ([.ref (ad 188)]) ++ List.replicate (2 - (lg_sl ([.ref (ad 188)])).length) Slot.unset).toArray = ls at hl ⊢
  have hl : lv_has ls 2 [(0, .ref (ad 188))] := hl
  refine lv_aload_n hx hb dX11_plateau_0 rfl (lv_at hl 0 rfl) ?_
  refine lv_iconst (v := (-1)) hx hb dX11_plateau_1 (by decide) ?_
  refine q_put (o := 188) (ci := 11) (k := 15) (T := TX11) (ty := .int) (v := (-1)) C hM (qmem_11 E ad S A b (show qk 188 = 11 from by decide +kernel)) (by decide) rfl hi11 tyX11 tyX11_ok nmX11 (by decide) hL0 rfl rfl (by decide +kernel) rfl rfl (Nat.le_of_ble_eq_true rfl) (qs_11_15 E ad S A b (show qk 188 = 11 from by decide +kernel) (-1)) dX11_plateau_2 (fun H locs hM => ?_)
  obtain ⟨S_1, eS_1⟩ : ∃ zz, zz = q2 S 188 15 (-1) := ⟨_, rfl⟩
  rw [← eS_1] at hM
  refine lv_aload_n hx hb dX11_plateau_5 rfl (lv_at hl 0 rfl) ?_
  refine lv_iconst (v := 0) hx hb dX11_plateau_6 (by decide) ?_
  refine q_put (o := 188) (ci := 11) (k := 16) (T := TX11) (ty := .int) (v := 0) C hM (qmem_11 E ad S_1 A b (show qk 188 = 11 from by decide +kernel)) (by decide) rfl hi11 tyX11 tyX11_ok nmX11 (by decide) hL1 rfl rfl (by decide +kernel) rfl rfl (Nat.le_of_ble_eq_true rfl) (qs_11_16 E ad S_1 A b (show qk 188 = 11 from by decide +kernel) 0) dX11_plateau_7 (fun H locs hM => ?_)
  obtain ⟨S_2, eS_2⟩ : ∃ zz, zz = q2 S_1 188 16 0 := ⟨_, rfl⟩
  rw [← eS_2] at hM
  refine lv_iconst (v := 0) hx hb dX11_plateau_10 (by decide) ?_
  refine lv_istore_n (lv' := [(1, .int 0), (0, .ref (ad 188))]) hx hb dX11_plateau_11 rfl hl (by decide) rfl (fun ls hl => ?_)
  have loop12 : ∀ (fu : Nat) (k : Nat) (A12 : qA2) (hk : k ≤ 3) (hr : A12 195 = qmap (fun _ _ => 0) (A 195) k) (hf : ∀ i, i ≠ 195 → A12 i = A i), 3 - k < fu → ∀ (H : Heap) (locs : List Loc) (ls : Array Slot), qM E ad S_2 A12 b (qAr ad s.heap.size) s H locs → lv_has ls 2 [(1, .int (nI k)), (0, .ref (ad 188))] → W pg l e (headSpec wsX11_plateau { frames := 6, cells := 0, slots := 0, locals := 139 }).room s m ([.ref (ad 188)] : List Value).toArray below meth cd H locs 0 0 (MQ below (qQi E ad s.heap.size (fun r S' A' b' => b = b' ∧ ((∃ kd pl, qparse qstM (A 194) n 240 (qsk (A 194) n 0) P0 = .inl (kd, pl) ∧ (1 ≤ kd ∧ kd ≤ 4) ∧ r = (-10) - nI kd ∧ S' 188 15 = nI pl ∧ S' 188 14 = 0 ∧ (∀ i j, (i ≠ 188 ∨ j < 14 ∨ 27 < j) → S' i j = S i j) ∧ (∀ i, (i < 195 ∨ 201 < i) → A' i = A i)) ∨ (∃ P nC nP nK nW, qparse qstM (A 194) n 240 (qsk (A 194) n 0) P0 = .inr P ∧ r = nI nC ∧ mPr nC nP nK nW S' A' P ∧ (S' 188 0 = nI nC ∧ S' 188 1 = A' 195 1 ∧ S' 188 2 = A' 195 2 ∧ S' 188 3 = S' 188 20 ∧ S' 188 4 = nI nP ∧ S' 188 6 = nI nK ∧ S' 188 8 = nI nW) ∧ (S' 188 14 = 0 ∧ S' 188 15 = -1 ∧ S' 188 30 = 0 ∧ S' 188 36 = 0 ∧ S' 188 40 = 0) ∧ (A' 213 0 = 0 ∧ A' 213 1 = 0) ∧ (∀ j, j < 37 → A' 193 j = mini nP nK (A' 196) (A' 198) j) ∧ (∀ p, p < 6 → A' 189 p = A' 197 p) ∧ (∀ c, c < nK → A' 190 c = A' 199 c) ∧ (∀ h, h < nW → A' 191 h = A' 200 h ∧ A' 192 h = A' 201 h) ∧ (∀ i, i ≠ 188 → S' i = S i) ∧ S' 188 12 = S 188 12 ∧ (∀ i, (i < 189 ∨ i = 194 ∨ (201 < i ∧ i ≠ 213)) → A' i = A i))))) ([.ref (ad 188)] : List Value).toArray s 0 0 (qAr ad s.heap.size)) (F0 m 12 ls []) := by
    intro fu
    induction fu with
    | zero => intro k A12 hk hr hf hn; exact absurd hn (Nat.not_lt_zero _)
    | succ fu ih12 =>
      intro k A12 hk hr hf hn H locs ls hM hl
      refine lv_iload_n hx hb dX11_plateau_12 rfl (lv_at hl 0 rfl) ?_
      refine lv_iconst (v := 3) hx hb dX11_plateau_13 (by decide) ?_
      refine lv_icmp_ge (tgt := 30) hx hb dX11_plateau_14 (by decide) (fun c_14 => ?_) (fun c_14 => ?_)
      · skip
        have c_14 : 3 ≤ k := (nI_leI (a := 3) (b := k) (by omega) (by omega)).mp c_14
        refine lv_aload_n hx hb dX11_plateau_30 rfl (lv_at hl 1 rfl) ?_
        refine lv_iconst (v := 0) hx hb dX11_plateau_31 (by decide) ?_
        refine q_put (o := 188) (ci := 11) (k := 20) (T := TX11) (ty := .int) (v := 0) C hM (qmem_11 E ad S_2 A12 b (show qk 188 = 11 from by decide +kernel)) (by decide) rfl hi11 tyX11 tyX11_ok nmX11 (by decide) hL2 rfl rfl (by decide +kernel) rfl rfl (Nat.le_of_ble_eq_true rfl) (qs_11_20 E ad S_2 A12 b (show qk 188 = 11 from by decide +kernel) 0) dX11_plateau_32 (fun H locs hM => ?_)
        obtain ⟨S_3, eS_3⟩ : ∃ zz, zz = q2 S_2 188 20 0 := ⟨_, rfl⟩
        rw [← eS_3] at hM
        refine lv_aload_n hx hb dX11_plateau_35 rfl (lv_at hl 1 rfl) ?_
        refine lv_iconst (v := 0) hx hb dX11_plateau_36 (by decide) ?_
        refine q_put (o := 188) (ci := 11) (k := 21) (T := TX11) (ty := .int) (v := 0) C hM (qmem_11 E ad S_3 A12 b (show qk 188 = 11 from by decide +kernel)) (by decide) rfl hi11 tyX11 tyX11_ok nmX11 (by decide) hL3 rfl rfl (by decide +kernel) rfl rfl (Nat.le_of_ble_eq_true rfl) (qs_11_21 E ad S_3 A12 b (show qk 188 = 11 from by decide +kernel) 0) dX11_plateau_37 (fun H locs hM => ?_)
        obtain ⟨S_4, eS_4⟩ : ∃ zz, zz = q2 S_3 188 21 0 := ⟨_, rfl⟩
        rw [← eS_4] at hM
        refine lv_aload_n hx hb dX11_plateau_40 rfl (lv_at hl 1 rfl) ?_
        refine lv_iconst (v := 0) hx hb dX11_plateau_41 (by decide) ?_
        refine q_put (o := 188) (ci := 11) (k := 24) (T := TX11) (ty := .int) (v := 0) C hM (qmem_11 E ad S_4 A12 b (show qk 188 = 11 from by decide +kernel)) (by decide) rfl hi11 tyX11 tyX11_ok nmX11 (by decide) hL4 rfl rfl (by decide +kernel) rfl rfl (Nat.le_of_ble_eq_true rfl) (qs_11_24 E ad S_4 A12 b (show qk 188 = 11 from by decide +kernel) 0) dX11_plateau_42 (fun H locs hM => ?_)
        obtain ⟨S_5, eS_5⟩ : ∃ zz, zz = q2 S_4 188 24 0 := ⟨_, rfl⟩
        rw [← eS_5] at hM
        refine lv_aload_n hx hb dX11_plateau_45 rfl (lv_at hl 1 rfl) ?_
        refine lv_iconst (v := 0) hx hb dX11_plateau_46 (by decide) ?_
        refine q_put (o := 188) (ci := 11) (k := 27) (T := TX11) (ty := .int) (v := 0) C hM (qmem_11 E ad S_5 A12 b (show qk 188 = 11 from by decide +kernel)) (by decide) rfl hi11 tyX11 tyX11_ok nmX11 (by decide) hL5 rfl rfl (by decide +kernel) rfl rfl (Nat.le_of_ble_eq_true rfl) (qs_11_27 E ad S_5 A12 b (show qk 188 = 11 from by decide +kernel) 0) dX11_plateau_47 (fun H locs hM => ?_)
        obtain ⟨S_6, eS_6⟩ : ∃ zz, zz = q2 S_5 188 27 0 := ⟨_, rfl⟩
        rw [← eS_6] at hM
        refine lv_iconst (v := 0) hx hb dX11_plateau_50 (by decide) ?_
        refine lv_istore_n (lv' := [(1, .int 0), (0, .ref (ad 188))]) hx hb dX11_plateau_51 rfl hl (by decide) rfl (fun ls hl => ?_)
        have loop52 : ∀ (fu : Nat) (ga : Nat) (gf : Nat) (gm : Nat) (gP : qPS) (gk : Nat) (S52 : qA2) (A52 : qA2) (hga : ga ≤ 245) (hgk4 : gk ≤ 4) (hgm : gk = 0 → 246 ≤ ga + gm) (hm0 : gk = 0 → (S52 188 16 = nI ga ∧ n ≤ ga + gf ∧ qparse qstM (A 194) n 240 (qsk (A 194) n 0) P0 = qparse qstM (A 194) n gf (qsk (A 194) n ga) gP ∧ mPX S52 A52 gP ∧ S52 188 15 = -1)) (hm1 : ¬ gk = 0 → ∃ pl, qparse qstM (A 194) n 240 (qsk (A 194) n 0) P0 = .inl (gk, pl) ∧ S52 188 15 = nI pl ∧ gk ≤ 4) (hfS : ∀ i j, (i ≠ 188 ∨ j < 15 ∨ 27 < j) → S52 i j = S i j) (hfA : ∀ i, (i < 195 ∨ 201 < i) → A52 i = A i), gm < fu → ∀ (H : Heap) (locs : List Loc) (ls : Array Slot), qM E ad S52 A52 b (qAr ad s.heap.size) s H locs → lv_has ls 2 [(1, .int (nI gk)), (0, .ref (ad 188))] → W pg l e (headSpec wsX11_plateau { frames := 6, cells := 0, slots := 0, locals := 139 }).room s m ([.ref (ad 188)] : List Value).toArray below meth cd H locs 0 0 (MQ below (qQi E ad s.heap.size (fun r S' A' b' => b = b' ∧ ((∃ kd pl, qparse qstM (A 194) n 240 (qsk (A 194) n 0) P0 = .inl (kd, pl) ∧ (1 ≤ kd ∧ kd ≤ 4) ∧ r = (-10) - nI kd ∧ S' 188 15 = nI pl ∧ S' 188 14 = 0 ∧ (∀ i j, (i ≠ 188 ∨ j < 14 ∨ 27 < j) → S' i j = S i j) ∧ (∀ i, (i < 195 ∨ 201 < i) → A' i = A i)) ∨ (∃ P nC nP nK nW, qparse qstM (A 194) n 240 (qsk (A 194) n 0) P0 = .inr P ∧ r = nI nC ∧ mPr nC nP nK nW S' A' P ∧ (S' 188 0 = nI nC ∧ S' 188 1 = A' 195 1 ∧ S' 188 2 = A' 195 2 ∧ S' 188 3 = S' 188 20 ∧ S' 188 4 = nI nP ∧ S' 188 6 = nI nK ∧ S' 188 8 = nI nW) ∧ (S' 188 14 = 0 ∧ S' 188 15 = -1 ∧ S' 188 30 = 0 ∧ S' 188 36 = 0 ∧ S' 188 40 = 0) ∧ (A' 213 0 = 0 ∧ A' 213 1 = 0) ∧ (∀ j, j < 37 → A' 193 j = mini nP nK (A' 196) (A' 198) j) ∧ (∀ p, p < 6 → A' 189 p = A' 197 p) ∧ (∀ c, c < nK → A' 190 c = A' 199 c) ∧ (∀ h, h < nW → A' 191 h = A' 200 h ∧ A' 192 h = A' 201 h) ∧ (∀ i, i ≠ 188 → S' i = S i) ∧ S' 188 12 = S 188 12 ∧ (∀ i, (i < 189 ∨ i = 194 ∨ (201 < i ∧ i ≠ 213)) → A' i = A i))))) ([.ref (ad 188)] : List Value).toArray s 0 0 (qAr ad s.heap.size)) (F0 m 52 ls []) := by
          intro fu
          induction fu with
          | zero => intro ga gf gm gP gk S52 A52 hga hgk4 hgm hm0 hm1 hfS hfA hn; exact absurd hn (Nat.not_lt_zero _)
          | succ fu ih52 =>
            intro ga gf gm gP gk S52 A52 hga hgk4 hgm hm0 hm1 hfS hfA hn H locs ls hM hl
            refine lv_iload_n hx hb dX11_plateau_52 rfl (lv_at hl 0 rfl) ?_
            refine lv_if_ne (tgt := 71) hx hb dX11_plateau_53 (by decide) (fun c_53 => ?_) (fun c_53 => ?_)
            · skip
              have c_53 : ¬ (gk = 0) := fun z => c_53 ((nI_eq (a := gk) (b := 0) (by omega) (by omega)).mpr z)
              refine lv_aload_n hx hb dX11_plateau_71 rfl (lv_at hl 1 rfl) ?_
              refine lv_iconst (v := 0) hx hb dX11_plateau_72 (by decide) ?_
              refine q_put (o := 188) (ci := 11) (k := 14) (T := TX11) (ty := .int) (v := 0) C hM (qmem_11 E ad S52 A52 b (show qk 188 = 11 from by decide +kernel)) (by decide) rfl hi11 tyX11 tyX11_ok nmX11 (by decide) hL6 rfl rfl (by decide +kernel) rfl rfl (Nat.le_of_ble_eq_true rfl) (qs_11_14 E ad S52 A52 b (show qk 188 = 11 from by decide +kernel) 0) dX11_plateau_73 (fun H locs hM => ?_)
              obtain ⟨S_7, eS_7⟩ : ∃ zz, zz = q2 S52 188 14 0 := ⟨_, rfl⟩
              rw [← eS_7] at hM
              refine lv_iload_n hx hb dX11_plateau_76 rfl (lv_at hl 0 rfl) ?_
              refine lv_if_le (tgt := 85) hx hb dX11_plateau_77 (by decide) (fun c_77 => ?_) (fun c_77 => ?_)
              · skip
                have c_77 : gk ≤ 0 := (nI_leI (a := gk) (b := 0) (by omega) (by omega)).mp c_77
                omega
              · skip
                have c_77 : ¬ (gk ≤ 0) := fun z => c_77 ((nI_leI (a := gk) (b := 0) (by omega) (by omega)).mpr z)
                refine lv_bipush (v := (-10)) hx hb dX11_plateau_80 (by decide) ?_
                refine lv_iload_n hx hb dX11_plateau_82 rfl (lv_at hl 0 rfl) ?_
                refine lv_isub hx hb dX11_plateau_83 ?_
                exact q_iret C hM dX11_plateau_84 (by obtain ⟨pl, hT, h15, _⟩ := hm1 c_53; exact ⟨rfl, Or.inl ⟨gk, pl, hT, by omega, rfl, by rw [eS_7, q2_k _ _ (by omega)]; exact h15, by rw [eS_7, q2_s], fun i j hij => by rw [eS_7, q2_ne _ _ (by omega)]; exact hfS i j (by omega), hfA⟩⟩)
            · skip
              have c_53 : gk = 0 := (nI_eq (a := gk) (b := 0) (by omega) (by omega)).mp c_53
              refine lv_aload_n hx hb dX11_plateau_56 rfl (lv_at hl 1 rfl) ?_
              obtain ⟨h16, hgf, hTG, ⟨nC, nP, nK, nW, hP⟩, h15⟩ := hm0 c_53
              refine q_callVI (n := 0) (o := 188) (As := []) (rest := []) C hM hA (c_X11_here E ad l S52 A52 b n ga ((show S52 188 14 = S 188 14 from by rw [hfS 188 14 (by omega)]).trans hln) (by omega) h16 (by omega)) (qmem_11 E ad S52 A52 b (show qk 188 = 11 from by decide +kernel)) (by decide) rfl gX11_plateau_X11_here rfl rfl rfl (by decide +kernel) ⟨Nat.le_of_ble_eq_true rfl, Nat.le_of_ble_eq_true rfl⟩ rfl hl.1 rfl (Nat.le_of_ble_eq_true rfl) ⟨Nat.zero_le _, Nat.zero_le _⟩ dX11_plateau_57 (fun r_8 S_9 A_10 b_11 H locs qr_8 hM => ?_)
              rw [show A52 194 = A 194 from by rw [hfA 194 (by omega)]] at qr_8
              obtain ⟨sk_12, esk_12⟩ : ∃ zz, zz = qsk (A 194) n ga := ⟨_, rfl⟩
              have lsk_12 := qsk_le (A 194) n ga
              rw [← esk_12] at lsk_12 qr_8
              obtain ⟨⟨e2, e3⟩, eS_9, er_8⟩ := qr_8
              subst e2; subst e3
              by_cases hltsk_12 : sk_12 < n
              · skip
                rw [if_pos hltsk_12] at er_8
                subst er_8
                refine lv_if_lt (tgt := 71) hx hb dX11_plateau_60 (by decide) (fun c_60 => ?_) (fun c_60 => ?_)
                · skip
                  exact absurd c_60 (hLn _ hltsk_12)
                · skip
                  refine lv_aload_n hx hb dX11_plateau_63 rfl (lv_at hl 1 rfl) ?_
                  refine q_callVI (n := 0) (o := 188) (As := []) (rest := []) C hM hA (c_X11_takeClause E ad l S_9 A52 b n sk_12 ((show S_9 188 14 = S 188 14 from by rw [eS_9, q2_k _ _ (by omega)]; rw [hfS 188 14 (by omega)]).trans hln) (by omega) (show S_9 188 16 = nI sk_12 from by rw [eS_9]; exact q2_s _ _ _ _) hltsk_12 (by rw [hfA 194 (by omega), esk_12]; exact qsk_idem _ _ _) nC nP nK nW gP (mPr_S (fun j h1 h2 => by rw [eS_9, q2_k _ _ (by omega)]) hP)) (qmem_11 E ad S_9 A52 b (show qk 188 = 11 from by decide +kernel)) (by decide) rfl gX11_plateau_X11_takeClause rfl rfl rfl (by decide +kernel) ⟨Nat.le_of_ble_eq_true rfl, Nat.le_of_ble_eq_true rfl⟩ rfl hl.1 rfl (Nat.le_of_ble_eq_true rfl) ⟨Nat.zero_le _, Nat.zero_le _⟩ dX11_plateau_64 (fun r_13 S_14 A_15 b_16 H locs qr_13 hM => ?_)
                  rw [show A52 194 = A 194 from by rw [hfA 194 (by omega)]] at qr_13
                  obtain ⟨e3, hgS_14, hfAA_15, hD⟩ := qr_13
                  subst e3
                  rcases hD with ⟨kdb, plb, hnb2, hkb, er_13, h15b⟩ | ⟨enb, Pb, hnb2, henb, er_13, h16b, h15b, hPb2⟩
                  · skip
                    subst er_13
                    refine lv_istore_n (lv' := [(1, .int (nI kdb)), (0, .ref (ad 188))]) hx hb dX11_plateau_67 rfl hl (by decide) rfl (fun ls hl => ?_)
                    refine lv_goto (tgt := 52) hx hb dX11_plateau_68 (by decide) ?_
                    exact ih52 ga gf (gm - 1) gP kdb S_14 A_15 (by omega) (by omega) (by omega) (fun z => absurd z (by omega)) (fun _ => ⟨plb, hTG.trans (by rw [← esk_12, mPr_step hP hltsk_12 (by omega), hnb2]; rfl), h15b, by omega⟩) (fun i j hij => by rw [hgS_14 i j hij, eS_9, q2_ne _ _ (by omega)]; exact hfS i j hij) (fun i hi => by rw [hfAA_15 i hi]; exact hfA i hi) (by omega) _ _ _ hM hl
                  · skip
                    subst er_13
                    refine lv_istore_n (lv' := [(1, .int 0), (0, .ref (ad 188))]) hx hb dX11_plateau_67 rfl hl (by decide) rfl (fun ls hl => ?_)
                    refine lv_goto (tgt := 52) hx hb dX11_plateau_68 (by decide) ?_
                    exact ih52 enb (gf - 1) (gm - 1) Pb 0 S_14 A_15 (by omega) (by omega) (by omega) (fun _ => ⟨h16b, by omega, hTG.trans (by rw [← esk_12, mPr_step hP hltsk_12 (by omega), hnb2]; rfl), hPb2, ((show S_14 188 15 = S52 188 15 from by rw [h15b]; rw [eS_9, q2_k _ _ (by omega)])).trans h15⟩) (fun z => absurd rfl z) (fun i j hij => by rw [hgS_14 i j hij, eS_9, q2_ne _ _ (by omega)]; exact hfS i j hij) (fun i hi => by rw [hfAA_15 i hi]; exact hfA i hi) (by omega) _ _ _ hM hl
              · skip
                rw [if_neg hltsk_12] at er_8
                subst er_8
                refine lv_if_lt (tgt := 71) hx hb dX11_plateau_60 (by decide) (fun c_60 => ?_) (fun c_60 => ?_)
                · skip
                  refine lv_aload_n hx hb dX11_plateau_71 rfl (lv_at hl 1 rfl) ?_
                  refine lv_iconst (v := 0) hx hb dX11_plateau_72 (by decide) ?_
                  refine q_put (o := 188) (ci := 11) (k := 14) (T := TX11) (ty := .int) (v := 0) C hM (qmem_11 E ad S_9 A52 b (show qk 188 = 11 from by decide +kernel)) (by decide) rfl hi11 tyX11 tyX11_ok nmX11 (by decide) hL6 rfl rfl (by decide +kernel) rfl rfl (Nat.le_of_ble_eq_true rfl) (qs_11_14 E ad S_9 A52 b (show qk 188 = 11 from by decide +kernel) 0) dX11_plateau_73 (fun H locs hM => ?_)
                  obtain ⟨S_17, eS_17⟩ : ∃ zz, zz = q2 S_9 188 14 0 := ⟨_, rfl⟩
                  rw [← eS_17] at hM
                  refine lv_iload_n hx hb dX11_plateau_76 rfl (lv_at hl 0 rfl) ?_
                  refine lv_if_le (tgt := 85) hx hb dX11_plateau_77 (by decide) (fun c_77 => ?_) (fun c_77 => ?_)
                  · skip
                    have c_77 : gk ≤ 0 := (nI_leI (a := gk) (b := 0) (by omega) (by omega)).mp c_77
                    refine lv_aload_n hx hb dX11_plateau_85 rfl (lv_at hl 1 rfl) ?_
                    refine q_callVV (n := 0) (o := 188) (As := []) (rest := []) C hM hA (c_X11_takeRead E ad l S_17 A52 b nC nP nK nW gP (mPr_S (fun j h1 h2 => by rw [eS_17, q2_k _ _ (by omega), eS_9, q2_k _ _ (by omega)]) hP)) (qmem_11 E ad S_17 A52 b (show qk 188 = 11 from by decide +kernel)) (by decide) rfl gX11_plateau_X11_takeRead rfl rfl rfl (by decide +kernel) ⟨Nat.le_of_ble_eq_true rfl, Nat.le_of_ble_eq_true rfl⟩ rfl hl.1 rfl (Nat.le_of_ble_eq_true rfl) ⟨Nat.zero_le _, Nat.zero_le _⟩ dX11_plateau_86 (fun S_19 A_20 b_21 H locs qr_18 hM => ?_)
                    obtain ⟨e3, eS_19, hw193, hw189, hw190, hw191, hw192, hfR⟩ := qr_18
                    subst e3
                    obtain ⟨S_22, eS_22⟩ : ∃ zz, zz = q2 S_17 188 0 (A52 195 0) := ⟨_, rfl⟩
                    rw [← eS_22] at eS_19
                    obtain ⟨S_23, eS_23⟩ : ∃ zz, zz = q2 S_22 188 1 (A52 195 1) := ⟨_, rfl⟩
                    rw [← eS_23] at eS_19
                    obtain ⟨S_24, eS_24⟩ : ∃ zz, zz = q2 S_23 188 2 (A52 195 2) := ⟨_, rfl⟩
                    rw [← eS_24] at eS_19
                    obtain ⟨S_25, eS_25⟩ : ∃ zz, zz = q2 S_24 188 3 (S_17 188 20) := ⟨_, rfl⟩
                    rw [← eS_25] at eS_19
                    obtain ⟨S_26, eS_26⟩ : ∃ zz, zz = q2 S_25 188 4 (S_17 188 21) := ⟨_, rfl⟩
                    rw [← eS_26] at eS_19
                    obtain ⟨S_27, eS_27⟩ : ∃ zz, zz = q2 S_26 188 6 (S_17 188 24) := ⟨_, rfl⟩
                    rw [← eS_27] at eS_19
                    refine lv_aload_n hx hb dX11_plateau_89 rfl (lv_at hl 1 rfl) ?_
                    refine lv_iconst (v := 0) hx hb dX11_plateau_90 (by decide) ?_
                    refine q_put (o := 188) (ci := 11) (k := 36) (T := TX11) (ty := .int) (v := 0) C hM (qmem_11 E ad S_19 A_20 b (show qk 188 = 11 from by decide +kernel)) (by decide) rfl hi11 tyX11 tyX11_ok nmX11 (by decide) hL7 rfl rfl (by decide +kernel) rfl rfl (Nat.le_of_ble_eq_true rfl) (qs_11_36 E ad S_19 A_20 b (show qk 188 = 11 from by decide +kernel) 0) dX11_plateau_91 (fun H locs hM => ?_)
                    obtain ⟨S_28, eS_28⟩ : ∃ zz, zz = q2 S_19 188 36 0 := ⟨_, rfl⟩
                    rw [← eS_28] at hM
                    refine lv_aload_n hx hb dX11_plateau_94 rfl (lv_at hl 1 rfl) ?_
                    refine lv_iconst (v := 0) hx hb dX11_plateau_95 (by decide) ?_
                    refine q_put (o := 188) (ci := 11) (k := 40) (T := TX11) (ty := .int) (v := 0) C hM (qmem_11 E ad S_28 A_20 b (show qk 188 = 11 from by decide +kernel)) (by decide) rfl hi11 tyX11 tyX11_ok nmX11 (by decide) hL8 rfl rfl (by decide +kernel) rfl rfl (Nat.le_of_ble_eq_true rfl) (qs_11_40 E ad S_28 A_20 b (show qk 188 = 11 from by decide +kernel) 0) dX11_plateau_96 (fun H locs hM => ?_)
                    obtain ⟨S_29, eS_29⟩ : ∃ zz, zz = q2 S_28 188 40 0 := ⟨_, rfl⟩
                    rw [← eS_29] at hM
                    refine lv_aload_n hx hb dX11_plateau_99 rfl (lv_at hl 1 rfl) ?_
                    refine lv_iconst (v := 0) hx hb dX11_plateau_100 (by decide) ?_
                    refine q_put (o := 188) (ci := 11) (k := 30) (T := TX11) (ty := .int) (v := 0) C hM (qmem_11 E ad S_29 A_20 b (show qk 188 = 11 from by decide +kernel)) (by decide) rfl hi11 tyX11 tyX11_ok nmX11 (by decide) hL9 rfl rfl (by decide +kernel) rfl rfl (Nat.le_of_ble_eq_true rfl) (qs_11_30 E ad S_29 A_20 b (show qk 188 = 11 from by decide +kernel) 0) dX11_plateau_101 (fun H locs hM => ?_)
                    obtain ⟨S_30, eS_30⟩ : ∃ zz, zz = q2 S_29 188 30 0 := ⟨_, rfl⟩
                    rw [← eS_30] at hM
                    refine lv_aload_n hx hb dX11_plateau_104 rfl (lv_at hl 1 rfl) ?_
                    refine q_get (o := 188) (ci := 11) (k := 44) (T := TX11) (v := .ref (ad 213)) C hM (qmem_11 E ad S_30 A_20 b (show qk 188 = 11 from by decide +kernel)) (by decide) rfl hi11 (by decide) hL10 rfl rfl dX11_plateau_105 ?_
                    refine lv_iconst (v := 0) hx hb dX11_plateau_108 (by decide) ?_
                    refine lv_iconst (v := 0) hx hb dX11_plateau_109 (by decide) ?_
                    refine q_zast C hM (show qk 213 = 13 from by decide +kernel) (by rw [(show ql 213 = 2 from by decide +kernel)]; exact (vp_nI (by decide) (by decide) : vp_in (nI 0) 2)) dX11_plateau_110 (fun H locs hM => ?_)
                    rw [show Int32.toNatClampNeg 0 = 0 from by decide] at hM
                    rw [show vp_nar .boolean 0 = 0 from rfl] at hM
                    obtain ⟨A_31, eA_31⟩ : ∃ zz, zz = q2 A_20 213 0 0 := ⟨_, rfl⟩
                    rw [← eA_31] at hM
                    refine lv_aload_n hx hb dX11_plateau_111 rfl (lv_at hl 1 rfl) ?_
                    refine q_get (o := 188) (ci := 11) (k := 44) (T := TX11) (v := .ref (ad 213)) C hM (qmem_11 E ad S_30 A_31 b (show qk 188 = 11 from by decide +kernel)) (by decide) rfl hi11 (by decide) hL10 rfl rfl dX11_plateau_112 ?_
                    refine lv_iconst (v := 1) hx hb dX11_plateau_115 (by decide) ?_
                    refine lv_iconst (v := 0) hx hb dX11_plateau_116 (by decide) ?_
                    refine q_zast C hM (show qk 213 = 13 from by decide +kernel) (by rw [(show ql 213 = 2 from by decide +kernel)]; exact (vp_nI (by decide) (by decide) : vp_in (nI 1) 2)) dX11_plateau_117 (fun H locs hM => ?_)
                    rw [show Int32.toNatClampNeg 1 = 1 from by decide] at hM
                    rw [show vp_nar .boolean 0 = 0 from rfl] at hM
                    obtain ⟨A_32, eA_32⟩ : ∃ zz, zz = q2 A_31 213 1 0 := ⟨_, rfl⟩
                    rw [← eA_32] at hM
                    refine lv_aload_n hx hb dX11_plateau_118 rfl (lv_at hl 1 rfl) ?_
                    refine q_get (o := 188) (ci := 11) (k := 0) (T := TX11) (v := .int (A52 195 0)) C hM (qmem_11 E ad S_30 A_32 b (show qk 188 = 11 from by decide +kernel)) (by decide) rfl hi11 (by decide) hL11 rfl (congrArg (fun z => some (Value.int z)) (show S_30 188 0 = A52 195 0 from by rw [eS_30, q2_k _ _ (by omega)]; rw [eS_29, q2_k _ _ (by omega)]; rw [eS_28, q2_k _ _ (by omega)]; rw [eS_19, q2_k _ _ (by omega)]; rw [eS_27, q2_k _ _ (by omega)]; rw [eS_26, q2_k _ _ (by omega)]; rw [eS_25, q2_k _ _ (by omega)]; rw [eS_24, q2_k _ _ (by omega)]; rw [eS_23, q2_k _ _ (by omega)]; rw [eS_22]; exact q2_s _ _ _ _)) dX11_plateau_119 ?_
                    refine lv_as (y := nI nC) hP.1.1 ?_
                    exact q_iret C hM dX11_plateau_122 (by exact ⟨rfl, Or.inr ⟨gP, nC, nP, nK, nW, hTG.trans (by rw [← esk_12]; exact qparse_end hltsk_12), rfl, mPr_A (fun j h1 h2 => by rw [eA_32, q2_or _ _ (by omega), eA_31, q2_or _ _ (by omega), hfR j (by omega)]) (mPr_S (fun j h1 h2 => by rw [eS_30, q2_k _ _ (by omega), eS_29, q2_k _ _ (by omega), eS_28, q2_k _ _ (by omega), eS_19, q2_k _ _ (by omega), eS_27, q2_k _ _ (by omega), eS_26, q2_k _ _ (by omega), eS_25, q2_k _ _ (by omega), eS_24, q2_k _ _ (by omega), eS_23, q2_k _ _ (by omega), eS_22, q2_k _ _ (by omega), eS_17, q2_k _ _ (by omega), eS_9, q2_k _ _ (by omega)]) hP), ⟨((show S_30 188 0 = A52 195 0 from by rw [eS_30, q2_k _ _ (by omega)]; rw [eS_29, q2_k _ _ (by omega)]; rw [eS_28, q2_k _ _ (by omega)]; rw [eS_19, q2_k _ _ (by omega)]; rw [eS_27, q2_k _ _ (by omega)]; rw [eS_26, q2_k _ _ (by omega)]; rw [eS_25, q2_k _ _ (by omega)]; rw [eS_24, q2_k _ _ (by omega)]; rw [eS_23, q2_k _ _ (by omega)]; rw [eS_22]; exact q2_s _ _ _ _)).trans hP.1.1, by rw [eA_32, q2_or _ _ (by omega), eA_31, q2_or _ _ (by omega), hfR 195 (by omega)]; exact (show S_30 188 1 = A52 195 1 from by rw [eS_30, q2_k _ _ (by omega)]; rw [eS_29, q2_k _ _ (by omega)]; rw [eS_28, q2_k _ _ (by omega)]; rw [eS_19, q2_k _ _ (by omega)]; rw [eS_27, q2_k _ _ (by omega)]; rw [eS_26, q2_k _ _ (by omega)]; rw [eS_25, q2_k _ _ (by omega)]; rw [eS_24, q2_k _ _ (by omega)]; rw [eS_23]; exact q2_s _ _ _ _), by rw [eA_32, q2_or _ _ (by omega), eA_31, q2_or _ _ (by omega), hfR 195 (by omega)]; exact (show S_30 188 2 = A52 195 2 from by rw [eS_30, q2_k _ _ (by omega)]; rw [eS_29, q2_k _ _ (by omega)]; rw [eS_28, q2_k _ _ (by omega)]; rw [eS_19, q2_k _ _ (by omega)]; rw [eS_27, q2_k _ _ (by omega)]; rw [eS_26, q2_k _ _ (by omega)]; rw [eS_25, q2_k _ _ (by omega)]; rw [eS_24]; exact q2_s _ _ _ _), ((show S_30 188 3 = S_17 188 20 from by rw [eS_30, q2_k _ _ (by omega)]; rw [eS_29, q2_k _ _ (by omega)]; rw [eS_28, q2_k _ _ (by omega)]; rw [eS_19, q2_k _ _ (by omega)]; rw [eS_27, q2_k _ _ (by omega)]; rw [eS_26, q2_k _ _ (by omega)]; rw [eS_25]; exact q2_s _ _ _ _)).trans (by first | rfl | rw [eS_30, q2_k _ _ (by omega), eS_29, q2_k _ _ (by omega), eS_28, q2_k _ _ (by omega), eS_19, q2_k _ _ (by omega), eS_27, q2_k _ _ (by omega), eS_26, q2_k _ _ (by omega), eS_25, q2_k _ _ (by omega), eS_24, q2_k _ _ (by omega), eS_23, q2_k _ _ (by omega), eS_22, q2_k _ _ (by omega), eS_17, q2_k _ _ (by omega), eS_9, q2_k _ _ (by omega)]), ((show S_30 188 4 = S_17 188 21 from by rw [eS_30, q2_k _ _ (by omega)]; rw [eS_29, q2_k _ _ (by omega)]; rw [eS_28, q2_k _ _ (by omega)]; rw [eS_19, q2_k _ _ (by omega)]; rw [eS_27, q2_k _ _ (by omega)]; rw [eS_26]; exact q2_s _ _ _ _)).trans (by rw [eS_17, q2_k _ _ (by omega), eS_9, q2_k _ _ (by omega)]; exact hP.2.2.2.1.1), ((show S_30 188 6 = S_17 188 24 from by rw [eS_30, q2_k _ _ (by omega)]; rw [eS_29, q2_k _ _ (by omega)]; rw [eS_28, q2_k _ _ (by omega)]; rw [eS_19, q2_k _ _ (by omega)]; rw [eS_27]; exact q2_s _ _ _ _)).trans (by rw [eS_17, q2_k _ _ (by omega), eS_9, q2_k _ _ (by omega)]; exact hP.2.2.2.2.1.1), ((show S_30 188 8 = S_17 188 27 from by rw [eS_30, q2_k _ _ (by omega)]; rw [eS_29, q2_k _ _ (by omega)]; rw [eS_28, q2_k _ _ (by omega)]; rw [eS_19]; exact q2_s _ _ _ _)).trans (by rw [eS_17, q2_k _ _ (by omega), eS_9, q2_k _ _ (by omega)]; exact hP.2.2.2.2.2.1.1)⟩, ⟨(show S_30 188 14 = 0 from by rw [eS_30, q2_k _ _ (by omega)]; rw [eS_29, q2_k _ _ (by omega)]; rw [eS_28, q2_k _ _ (by omega)]; rw [eS_19, q2_k _ _ (by omega)]; rw [eS_27, q2_k _ _ (by omega)]; rw [eS_26, q2_k _ _ (by omega)]; rw [eS_25, q2_k _ _ (by omega)]; rw [eS_24, q2_k _ _ (by omega)]; rw [eS_23, q2_k _ _ (by omega)]; rw [eS_22, q2_k _ _ (by omega)]; rw [eS_17]; exact q2_s _ _ _ _), ((show S_30 188 15 = S52 188 15 from by rw [eS_30, q2_k _ _ (by omega)]; rw [eS_29, q2_k _ _ (by omega)]; rw [eS_28, q2_k _ _ (by omega)]; rw [eS_19, q2_k _ _ (by omega)]; rw [eS_27, q2_k _ _ (by omega)]; rw [eS_26, q2_k _ _ (by omega)]; rw [eS_25, q2_k _ _ (by omega)]; rw [eS_24, q2_k _ _ (by omega)]; rw [eS_23, q2_k _ _ (by omega)]; rw [eS_22, q2_k _ _ (by omega)]; rw [eS_17, q2_k _ _ (by omega)]; rw [eS_9, q2_k _ _ (by omega)])).trans h15, (show S_30 188 30 = 0 from by rw [eS_30]; exact q2_s _ _ _ _), (show S_30 188 36 = 0 from by rw [eS_30, q2_k _ _ (by omega)]; rw [eS_29, q2_k _ _ (by omega)]; rw [eS_28]; exact q2_s _ _ _ _), (show S_30 188 40 = 0 from by rw [eS_30, q2_k _ _ (by omega)]; rw [eS_29]; exact q2_s _ _ _ _)⟩, ⟨by rw [eA_32, q2_row, upd_o _ _ (by omega), eA_31, q2_row, upd_s], by rw [eA_32, q2_row, upd_s]⟩, fun j hj => by rw [(show A_32 196 = A52 196 from by rw [eA_32, q2_or _ _ (by omega), eA_31, q2_or _ _ (by omega), hfR 196 (by omega)]), (show A_32 198 = A52 198 from by rw [eA_32, q2_or _ _ (by omega), eA_31, q2_or _ _ (by omega), hfR 198 (by omega)]), eA_32, q2_or _ _ (by omega), eA_31, q2_or _ _ (by omega), hw193 j hj], fun p hp => by rw [(show A_32 197 = A52 197 from by rw [eA_32, q2_or _ _ (by omega), eA_31, q2_or _ _ (by omega), hfR 197 (by omega)]), eA_32, q2_or _ _ (by omega), eA_31, q2_or _ _ (by omega), hw189, qmap_in hp], fun c hc => by rw [(show A_32 199 = A52 199 from by rw [eA_32, q2_or _ _ (by omega), eA_31, q2_or _ _ (by omega), hfR 199 (by omega)]), eA_32, q2_or _ _ (by omega), eA_31, q2_or _ _ (by omega), hw190, qmap_in hc], fun h hh => ⟨by rw [(show A_32 200 = A52 200 from by rw [eA_32, q2_or _ _ (by omega), eA_31, q2_or _ _ (by omega), hfR 200 (by omega)]), eA_32, q2_or _ _ (by omega), eA_31, q2_or _ _ (by omega), hw191, qmap_in hh], by rw [(show A_32 201 = A52 201 from by rw [eA_32, q2_or _ _ (by omega), eA_31, q2_or _ _ (by omega), hfR 201 (by omega)]), eA_32, q2_or _ _ (by omega), eA_31, q2_or _ _ (by omega), hw192, qmap_in hh]⟩, fun i hi => by funext j; rw [eS_30, q2_o _ _ hi, eS_29, q2_o _ _ hi, eS_28, q2_o _ _ hi, eS_19, q2_o _ _ hi, eS_27, q2_o _ _ hi, eS_26, q2_o _ _ hi, eS_25, q2_o _ _ hi, eS_24, q2_o _ _ hi, eS_23, q2_o _ _ hi, eS_22, q2_o _ _ hi, eS_17, q2_o _ _ hi, eS_9, q2_o _ _ hi]; exact hfS i j (Or.inl hi), (show S_30 188 12 = S 188 12 from by rw [eS_30, q2_k _ _ (by omega)]; rw [eS_29, q2_k _ _ (by omega)]; rw [eS_28, q2_k _ _ (by omega)]; rw [eS_19, q2_k _ _ (by omega)]; rw [eS_27, q2_k _ _ (by omega)]; rw [eS_26, q2_k _ _ (by omega)]; rw [eS_25, q2_k _ _ (by omega)]; rw [eS_24, q2_k _ _ (by omega)]; rw [eS_23, q2_k _ _ (by omega)]; rw [eS_22, q2_k _ _ (by omega)]; rw [eS_17, q2_k _ _ (by omega)]; rw [eS_9, q2_k _ _ (by omega)]; rw [hfS 188 12 (by omega)]), fun i hi => by rw [eA_32, q2_or _ _ (by omega), eA_31, q2_or _ _ (by omega), hfR i (by omega), hfA i (by omega)]⟩⟩)
                  · skip
                    have c_77 : ¬ (gk ≤ 0) := fun z => c_77 ((nI_leI (a := gk) (b := 0) (by omega) (by omega)).mpr z)
                    omega
                · skip
                  exact absurd (by decide) c_60
        exact loop52 (246 + 1) 0 240 246 P0 0 S_6 A12 (by omega) (by omega) (by omega) (fun _ => ⟨(show S_6 188 16 = 0 from by rw [eS_6, q2_k _ _ (by omega)]; rw [eS_5, q2_k _ _ (by omega)]; rw [eS_4, q2_k _ _ (by omega)]; rw [eS_3, q2_k _ _ (by omega)]; rw [eS_2]; exact q2_s _ _ _ _), by omega, rfl, mPX_0 h00 h03 h04 h05 h06 (by rw [hr, show k = 3 by omega]; rfl) (show S_6 188 20 = 0 from by rw [eS_6, q2_k _ _ (by omega)]; rw [eS_5, q2_k _ _ (by omega)]; rw [eS_4, q2_k _ _ (by omega)]; rw [eS_3]; exact q2_s _ _ _ _) (show S_6 188 21 = 0 from by rw [eS_6, q2_k _ _ (by omega)]; rw [eS_5, q2_k _ _ (by omega)]; rw [eS_4]; exact q2_s _ _ _ _) (show S_6 188 24 = 0 from by rw [eS_6, q2_k _ _ (by omega)]; rw [eS_5]; exact q2_s _ _ _ _) (show S_6 188 27 = 0 from by rw [eS_6]; exact q2_s _ _ _ _), (show S_6 188 15 = (-1) from by rw [eS_6, q2_k _ _ (by omega)]; rw [eS_5, q2_k _ _ (by omega)]; rw [eS_4, q2_k _ _ (by omega)]; rw [eS_3, q2_k _ _ (by omega)]; rw [eS_2, q2_k _ _ (by omega)]; rw [eS_1]; exact q2_s _ _ _ _)⟩) (fun z => absurd rfl z) (fun i j hij => by rw [eS_6, q2_ne _ _ (by omega), eS_5, q2_ne _ _ (by omega), eS_4, q2_ne _ _ (by omega), eS_3, q2_ne _ _ (by omega), eS_2, q2_ne _ _ (by omega), eS_1, q2_ne _ _ (by omega)]) (fun i hi => hf i (by omega)) (Nat.lt_succ_self _) _ _ _ hM hl
      · skip
        have c_14 : ¬ (3 ≤ k) := fun z => c_14 ((nI_leI (a := 3) (b := k) (by omega) (by omega)).mpr z)
        refine lv_aload_n hx hb dX11_plateau_17 rfl (lv_at hl 1 rfl) ?_
        refine q_get (o := 188) (ci := 11) (k := 19) (T := TX11) (v := .ref (ad 195)) C hM (qmem_11 E ad S_2 A12 b (show qk 188 = 11 from by decide +kernel)) (by decide) rfl hi11 (by decide) hL12 rfl rfl dX11_plateau_18 ?_
        refine lv_iload_n hx hb dX11_plateau_21 rfl (lv_at hl 0 rfl) ?_
        refine lv_iconst (v := 0) hx hb dX11_plateau_22 (by decide) ?_
        refine q_iast C hM (show qk 195 = 12 from by decide +kernel) (by rw [(show ql 195 = 3 from by decide +kernel)]; exact vp_nI (by omega) (by omega)) dX11_plateau_23 (fun H locs hM => ?_)
        rw [nIc (by omega)] at hM
        obtain ⟨A_33, eA_33⟩ : ∃ zz, zz = q2 A12 195 k 0 := ⟨_, rfl⟩
        rw [← eA_33] at hM
        refine lv_iinc (v := nI (k + 1)) (lv' := [(1, .int (nI (k + 1))), (0, .ref (ad 188))]) hx hb dX11_plateau_24 hl (k := 0) rfl (by rw [nI_succ]; rfl) (by decide) rfl (fun ls hl => ?_)
        refine lv_goto (tgt := 12) hx hb dX11_plateau_27 (by decide) ?_
        exact ih12 (k + 1) A_33 (by omega) (by rw [eA_33, q2_row, hr]; exact qmap_s _ _ _ _ rfl) (by rw [eA_33]; exact qfr_up hf) (by omega) _ _ _ hM hl
  exact loop12 (3 - 0 + 1) 0 A (by omega) ((qmap_0 _ _).symm) (fun _ _ => rfl) (Nat.lt_succ_self _) _ _ _ hM hl
