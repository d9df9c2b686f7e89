set_option maxHeartbeats 4000000 in
set_option maxRecDepth 100000 in
theorem c_X11_findOpens (E : qE) (ad : Nat → Nat) (l : Launch) (S A : qA2) (b : qB) (n : Nat) (hn : n ≤ 100) (nC : Nat) (hC : S 188 0 = nI nC) (hCb : nC ≤ 12) (nP : Nat) (hPo : S 188 4 = nI nP) (hPb : nP ≤ 6) (nW : Nat) (hWi : S 188 8 = nI nW) (hWb : nW ≤ 10) (nH : Nat) (hH : A 193 35 = nI nH) (hHb : nH ≤ 80000) : MV E ad l yX11_findOpens wsX11_findOpens { frames := 6, cells := 0, slots := 0, locals := 138 } [.ref (ad 188), .int (nI n)] S A b (fun S' A' b' => (S = S' ∧ b = b') ∧ (∀ m, m < 2 ^ nP → A' 204 m = q01 (mopn nC nP nW (S 188 1) (S 188 2) (S 188 3) (A 191) (A 192) (A 193) n m)) ∧ ∀ i, i ≠ 203 → i ≠ 204 → A' i = A i) := by
  have h2p := q2p hPb
  refine MV.of (cc := cX11_findOpens) (maxL := 4) (ret := none) RX11 rfl (by decide) rfl ?_
  intro pg e s m below meth cd C hM
  have hx := C.1
  have hb := C.2.1
  have hts := C.2.2.2.2.1
  have hA : ∀ q, s.heap.size ≤ q → qAr ad s.heap.size q := fun _ h => Or.inr h
  have hi11 : ∀ w ∈ u_ws RX11 TX11 45, w ∈ wsX11_findOpens := by decide +kernel
  have hL0 := hts (.fieldLink RX11 97 "CrowFencesModel" "posts" "I") (by decide +kernel)
  have hL1 := hts (.fieldLink RX11 22 "CrowFencesModel" "now" "[I") (by decide +kernel)
  have hL2 := hts (.fieldLink RX11 59 "CrowFencesModel" "opens" "[Z") (by decide +kernel)
  have hL3 := hts (.fieldLink RX11 186 "CrowFencesModel" "road" "I") (by decide +kernel)
  have hl := lv_entry ([.ref (ad 188), .int (nI n)]) (n := 4) (Nat.le_of_ble_eq_true rfl)
  rw [lg_entry_eq]
  generalize (lg_sl ([.ref (ad 188), .int (nI n)]) ++ List.replicate (4 - (lg_sl ([.ref (ad 188), .int (nI n)])).length) Slot.unset).toArray = ls at hl ⊢
  have hl : lv_has ls 4 [(0, .ref (ad 188)), (1, .int (nI n))] := hl
  refine lv_aload_n hx hb dX11_findOpens_0 rfl (lv_at hl 0 rfl) ?_
  refine q_callVV (n := 0) (o := 188) (As := []) (rest := []) C hM hA (c_X11_save E ad l S A b) (qmem_11 E ad S A b (show qk 188 = 11 from by decide +kernel)) (by decide) rfl gX11_findOpens_X11_save rfl rfl rfl (by decide +kernel) ⟨Nat.le_of_ble_eq_true rfl, Nat.le_of_ble_eq_true rfl⟩ rfl hl.1 rfl (Nat.le_of_ble_eq_true rfl) ⟨Nat.zero_le _, Nat.zero_le _⟩ dX11_findOpens_1 (fun S_2 A_3 b_4 H locs qr_1 hM => ?_)
  obtain ⟨⟨e1, e3⟩, hrA_3, hfA_3⟩ := qr_1
  subst e1; subst e3
  refine lv_iconst (v := 0) hx hb dX11_findOpens_4 (by decide) ?_
  refine lv_istore_n (lv' := [(2, .int 0), (0, .ref (ad 188)), (1, .int (nI n))]) hx hb dX11_findOpens_5 rfl hl (by decide) rfl (fun ls hl => ?_)
  have loop6 : ∀ (fu : Nat) (mm : Nat) (A6 : qA2) (hm : mm ≤ 2 ^ nP) (ho : ∀ j, j < mm → A6 204 j = q01 (mopn nC nP nW (S 188 1) (S 188 2) (S 188 3) (A 191) (A 192) (A 193) n j)) (hw : A6 203 = qmap (fun k _ => A 193 k) (A 203) 37) (hf : ∀ i, i ≠ 203 → i ≠ 204 → A6 i = A i), 2 ^ nP - mm < fu → ∀ (H : Heap) (locs : List Loc) (ls : Array Slot), qM E ad S A6 b (qAr ad s.heap.size) s H locs → lv_has ls 4 [(2, .int (nI mm)), (0, .ref (ad 188)), (1, .int (nI n))] → W pg l e (headSpec wsX11_findOpens { frames := 6, cells := 0, slots := 0, locals := 138 }).room s m ([.ref (ad 188), .int (nI n)] : List Value).toArray below meth cd H locs 0 0 (MQ below (qQv E ad s.heap.size (fun S' A' b' => (S = S' ∧ b = b') ∧ (∀ m, m < 2 ^ nP → A' 204 m = q01 (mopn nC nP nW (S 188 1) (S 188 2) (S 188 3) (A 191) (A 192) (A 193) n m)) ∧ ∀ i, i ≠ 203 → i ≠ 204 → A' i = A i)) ([.ref (ad 188), .int (nI n)] : List Value).toArray s 0 0 (qAr ad s.heap.size)) (F0 m 6 ls []) := by
    intro fu
    induction fu with
    | zero => intro mm A6 hm ho hw hf hn; exact absurd hn (Nat.not_lt_zero _)
    | succ fu ih6 =>
      intro mm A6 hm ho hw hf hn H locs ls hM hl
      refine lv_iload_n hx hb dX11_findOpens_6 rfl (lv_at hl 0 rfl) ?_
      refine lv_iconst (v := 1) hx hb dX11_findOpens_7 (by decide) ?_
      refine lv_aload_n hx hb dX11_findOpens_8 rfl (lv_at hl 1 rfl) ?_
      refine q_get (o := 188) (ci := 11) (k := 4) (T := TX11) (v := .int (S 188 4)) C hM (qmem_11 E ad S A6 b (show qk 188 = 11 from by decide +kernel)) (by decide) rfl hi11 (by decide) hL0 rfl rfl dX11_findOpens_9 ?_
      refine lv_as (y := nI nP) hPo ?_
      refine lv_ishl hx hb dX11_findOpens_12 ?_
      refine lv_as (y := nI (2 ^ nP)) (qbit_nI (by omega)) ?_
      refine lv_icmp_ge (tgt := 106) hx hb dX11_findOpens_13 (by decide) (fun c_13 => ?_) (fun c_13 => ?_)
      · skip
        have c_13 : 2 ^ nP ≤ mm := (nI_leI (a := 2 ^ nP) (b := mm) (by omega) (by omega)).mp c_13
        exact q_vret C hM dX11_findOpens_106 (by exact ⟨⟨rfl, rfl⟩, fun m3 hm3 => ho m3 (by omega), hf⟩)
      · skip
        have c_13 : ¬ (2 ^ nP ≤ mm) := fun z => c_13 ((nI_leI (a := 2 ^ nP) (b := mm) (by omega) (by omega)).mpr z)
        refine lv_iconst (v := 0) hx hb dX11_findOpens_16 (by decide) ?_
        refine lv_istore_n (lv' := [(3, .int 0), (2, .int (nI mm)), (0, .ref (ad 188)), (1, .int (nI n))]) hx hb dX11_findOpens_17 rfl hl (by decide) rfl (fun ls hl => ?_)
        have loop18 : ∀ (fu : Nat) (k : Nat) (A18 : qA2) (hk : k ≤ nP) (hr2 : A18 193 = mput (A 193) mm k) (hf2 : ∀ i, i ≠ 193 → A18 i = A6 i), nP - k < fu → ∀ (H : Heap) (locs : List Loc) (ls : Array Slot), qM E ad S A18 b (qAr ad s.heap.size) s H locs → lv_has ls 4 [(3, .int (nI k)), (2, .int (nI mm)), (0, .ref (ad 188)), (1, .int (nI n))] → W pg l e (headSpec wsX11_findOpens { frames := 6, cells := 0, slots := 0, locals := 138 }).room s m ([.ref (ad 188), .int (nI n)] : List Value).toArray below meth cd H locs 0 0 (MQ below (qQv E ad s.heap.size (fun S' A' b' => (S = S' ∧ b = b') ∧ (∀ m, m < 2 ^ nP → A' 204 m = q01 (mopn nC nP nW (S 188 1) (S 188 2) (S 188 3) (A 191) (A 192) (A 193) n m)) ∧ ∀ i, i ≠ 203 → i ≠ 204 → A' i = A i)) ([.ref (ad 188), .int (nI n)] : List Value).toArray s 0 0 (qAr ad s.heap.size)) (F0 m 18 ls []) := by
          intro fu
          induction fu with
          | zero => intro k A18 hk hr2 hf2 hn; exact absurd hn (Nat.not_lt_zero _)
          | succ fu ih18 =>
            intro k A18 hk hr2 hf2 hn H locs ls hM hl
            refine lv_iload_n hx hb dX11_findOpens_18 rfl (lv_at hl 0 rfl) ?_
            refine lv_aload_n hx hb dX11_findOpens_19 rfl (lv_at hl 2 rfl) ?_
            refine q_get (o := 188) (ci := 11) (k := 4) (T := TX11) (v := .int (S 188 4)) C hM (qmem_11 E ad S A18 b (show qk 188 = 11 from by decide +kernel)) (by decide) rfl hi11 (by decide) hL0 rfl rfl dX11_findOpens_20 ?_
            refine lv_as (y := nI nP) hPo ?_
            refine lv_icmp_ge (tgt := 54) hx hb dX11_findOpens_23 (by decide) (fun c_23 => ?_) (fun c_23 => ?_)
            · skip
              have c_23 : nP ≤ k := (nI_leI (a := nP) (b := k) (by omega) (by omega)).mp c_23
              refine lv_aload_n hx hb dX11_findOpens_54 rfl (lv_at hl 2 rfl) ?_
              have h35 : A18 193 35 = nI nH := by rw [hr2, mput, if_neg (by omega)]; exact hH
              refine q_get (o := 188) (ci := 11) (k := 11) (T := TX11) (v := .ref (ad 193)) C hM (qmem_11 E ad S A18 b (show qk 188 = 11 from by decide +kernel)) (by decide) rfl hi11 (by decide) hL1 rfl rfl dX11_findOpens_55 ?_
              refine lv_bipush (v := 24) hx hb dX11_findOpens_58 (by decide) ?_
              refine lv_iconst (v := 1) hx hb dX11_findOpens_60 (by decide) ?_
              refine lv_aload_n hx hb dX11_findOpens_61 rfl (lv_at hl 2 rfl) ?_
              refine q_get (o := 188) (ci := 11) (k := 4) (T := TX11) (v := .int (S 188 4)) C hM (qmem_11 E ad S A18 b (show qk 188 = 11 from by decide +kernel)) (by decide) rfl hi11 (by decide) hL0 rfl rfl dX11_findOpens_62 ?_
              refine lv_as (y := nI nP) hPo ?_
              refine lv_ishl hx hb dX11_findOpens_65 ?_
              refine lv_iconst (v := 1) hx hb dX11_findOpens_66 (by decide) ?_
              refine lv_isub hx hb dX11_findOpens_67 ?_
              refine lv_topi (fun v_5 ev_5 => ?_)
              refine q_iast C hM (show qk 193 = 12 from by decide +kernel) (by rw [(show ql 193 = 37 from by decide +kernel)]; exact (vp_nI (by decide) (by decide) : vp_in (nI 24) 37)) dX11_findOpens_68 (fun H locs hM => ?_)
              rw [show Int32.toNatClampNeg 24 = 24 from by decide] at hM
              obtain ⟨A_6, eA_6⟩ : ∃ zz, zz = q2 A18 193 24 v_5 := ⟨_, rfl⟩
              rw [← eA_6] at hM
              refine lv_aload_n hx hb dX11_findOpens_69 rfl (lv_at hl 2 rfl) ?_
              refine lv_iload_n hx hb dX11_findOpens_70 rfl (lv_at hl 3 rfl) ?_
              refine q_callVV (n := 1) (o := 188) (As := [.int (nI n)]) (rest := []) C hM hA (c_X11_passAll E ad l S A_6 b n (by omega) nC hC (by omega) nP hPo (by omega) nW hWi (by omega) nH ((show A_6 193 35 = A18 193 35 from by rw [eA_6, q2_k _ _ (by omega)]).trans h35) (by omega)) (qmem_11 E ad S A_6 b (show qk 188 = 11 from by decide +kernel)) (by decide) rfl gX11_findOpens_X11_passAll rfl rfl rfl (by decide +kernel) ⟨Nat.le_of_ble_eq_true rfl, Nat.le_of_ble_eq_true rfl⟩ rfl hl.1 rfl (Nat.le_of_ble_eq_true rfl) ⟨Nat.zero_le _, Nat.zero_le _⟩ dX11_findOpens_71 (fun S_8 A_9 b_10 H locs qr_7 hM => ?_)
              obtain ⟨⟨e1, e3⟩, hrA_9, hfA_9⟩ := qr_7
              subst e1; subst e3
              refine lv_aload_n hx hb dX11_findOpens_74 rfl (lv_at hl 2 rfl) ?_
              refine q_get (o := 188) (ci := 11) (k := 33) (T := TX11) (v := .ref (ad 204)) C hM (qmem_11 E ad S A_9 b (show qk 188 = 11 from by decide +kernel)) (by decide) rfl hi11 (by decide) hL2 rfl rfl dX11_findOpens_75 ?_
              refine lv_iload_n hx hb dX11_findOpens_78 rfl (lv_at hl 1 rfl) ?_
              refine lv_aload_n hx hb dX11_findOpens_79 rfl (lv_at hl 2 rfl) ?_
              refine q_callVI (n := 0) (o := 188) (As := []) (rest := [.int (nI mm), .ref (ad 204)]) C hM hA (c_X11_openCells E ad l S A_9 b nC hC (by omega)) (qmem_11 E ad S A_9 b (show qk 188 = 11 from by decide +kernel)) (by decide) rfl gX11_findOpens_X11_openCells rfl rfl rfl (by decide +kernel) ⟨Nat.le_of_ble_eq_true rfl, Nat.le_of_ble_eq_true rfl⟩ rfl hl.1 rfl (Nat.le_of_ble_eq_true rfl) ⟨Nat.zero_le _, Nat.zero_le _⟩ dX11_findOpens_80 (fun r_11 S_12 A_13 b_14 H locs qr_11 hM => ?_)
              obtain ⟨⟨e1, e2, e3⟩, er_11⟩ := qr_11
              subst e1; subst e2; subst e3
              refine lv_aload_n hx hb dX11_findOpens_83 rfl (lv_at hl 2 rfl) ?_
              refine q_get (o := 188) (ci := 11) (k := 3) (T := TX11) (v := .int (S 188 3)) C hM (qmem_11 E ad S A_9 b (show qk 188 = 11 from by decide +kernel)) (by decide) rfl hi11 (by decide) hL3 rfl rfl dX11_findOpens_84 ?_
              refine lv_icmp_ne (tgt := 94) hx hb dX11_findOpens_87 (by decide) (fun c_87 => ?_) (fun c_87 => ?_)
              · skip
                refine lv_iconst (v := 0) hx hb dX11_findOpens_94 (by decide) ?_
                refine q_zast C hM (show qk 204 = 13 from by decide +kernel) (by rw [(show ql 204 = 64 from by decide +kernel)]; exact vp_nI (by omega) (by omega)) dX11_findOpens_95 (fun H locs hM => ?_)
                rw [nIc (by omega)] at hM
                rw [show vp_nar .boolean 0 = 0 from rfl] at hM
                obtain ⟨A_15, eA_15⟩ : ∃ zz, zz = q2 A_9 204 mm 0 := ⟨_, rfl⟩
                rw [← eA_15] at hM
                refine lv_aload_n hx hb dX11_findOpens_96 rfl (lv_at hl 2 rfl) ?_
                refine q_callVV (n := 0) (o := 188) (As := []) (rest := []) C hM hA (c_X11_putBack E ad l S A_15 b) (qmem_11 E ad S A_15 b (show qk 188 = 11 from by decide +kernel)) (by decide) rfl gX11_findOpens_X11_putBack rfl rfl rfl (by decide +kernel) ⟨Nat.le_of_ble_eq_true rfl, Nat.le_of_ble_eq_true rfl⟩ rfl hl.1 rfl (Nat.le_of_ble_eq_true rfl) ⟨Nat.zero_le _, Nat.zero_le _⟩ dX11_findOpens_97 (fun S_17 A_18 b_19 H locs qr_16 hM => ?_)
                obtain ⟨⟨e1, e3⟩, hrA_18, hfA_18⟩ := qr_16
                subst e1; subst e3
                refine lv_iinc (v := nI (mm + 1)) (lv' := [(2, .int (nI (mm + 1))), (3, .int (nI k)), (0, .ref (ad 188)), (1, .int (nI n))]) hx hb dX11_findOpens_100 hl (k := 1) rfl (by rw [nI_succ]; rfl) (by decide) rfl (fun ls hl => ?_)
                refine lv_goto (tgt := 6) hx hb dX11_findOpens_103 (by decide) ?_
                exact ih6 (mm + 1) A_18 (by omega) (fun j hj => by rw [hfA_18 204 (by omega), eA_15, q2_row]; by_cases hz : j = mm; (rw [hz, upd_s]; rw [er_11, hrA_9, (show A_6 193 = upd (mput (A 193) mm nP) 24 (qall nP) from by rw [eA_6, q2_row, hr2, show k = nP by omega, ev_5]; rfl), (show A_6 191 = A 191 from by rw [eA_6, q2_or _ _ (by omega), hf2 191 (by omega), hf 191 (by omega) (by omega)]), (show A_6 192 = A 192 from by rw [eA_6, q2_or _ _ (by omega), hf2 192 (by omega), hf 192 (by omega) (by omega)])] at c_87; rw [q01, if_neg c_87]); (rw [upd_o _ _ hz, hfA_9 204 (by omega), eA_6, q2_or _ _ (by omega), hf2 204 (by omega)]; exact ho j (by omega))) (by rw [hfA_18 203 (by omega), eA_15, q2_or _ _ (by omega), hfA_9 203 (by omega), eA_6, q2_or _ _ (by omega), hf2 203 (by omega)]; exact hw) (fun i h1 h2 => by by_cases hz : i = 193; (rw [hz, hrA_18]; exact qback (show A_15 203 = _ from (by rw [eA_15, q2_or _ _ (by omega), hfA_9 203 (by omega), eA_6, q2_or _ _ (by omega), hf2 203 (by omega)]; exact hw)) (fun a ha => by rw [eA_15, q2_or _ _ (by omega), hrA_9, mpass_hi (by omega) (by omega) (by omega) (by omega), (show A_6 193 = upd (mput (A 193) mm nP) 24 (qall nP) from by rw [eA_6, q2_row, hr2, show k = nP by omega, ev_5]; rfl), upd_o _ _ (by omega), mput, if_neg (by omega)])); (rw [hfA_18 i hz, eA_15, q2_or _ _ h2, hfA_9 i hz, eA_6, q2_or _ _ hz, hf2 i hz, hf i h1 h2])) (by omega) _ _ _ hM (lv_sub hl [0, 2, 3] rfl)
              · skip
                refine lv_iconst (v := 1) hx hb dX11_findOpens_90 (by decide) ?_
                refine lv_goto (tgt := 95) hx hb dX11_findOpens_91 (by decide) ?_
                refine q_zast C hM (show qk 204 = 13 from by decide +kernel) (by rw [(show ql 204 = 64 from by decide +kernel)]; exact vp_nI (by omega) (by omega)) dX11_findOpens_95 (fun H locs hM => ?_)
                rw [nIc (by omega)] at hM
                rw [show vp_nar .boolean 1 = 1 from rfl] at hM
                obtain ⟨A_20, eA_20⟩ : ∃ zz, zz = q2 A_9 204 mm 1 := ⟨_, rfl⟩
                rw [← eA_20] at hM
                refine lv_aload_n hx hb dX11_findOpens_96 rfl (lv_at hl 2 rfl) ?_
                refine q_callVV (n := 0) (o := 188) (As := []) (rest := []) C hM hA (c_X11_putBack E ad l S A_20 b) (qmem_11 E ad S A_20 b (show qk 188 = 11 from by decide +kernel)) (by decide) rfl gX11_findOpens_X11_putBack rfl rfl rfl (by decide +kernel) ⟨Nat.le_of_ble_eq_true rfl, Nat.le_of_ble_eq_true rfl⟩ rfl hl.1 rfl (Nat.le_of_ble_eq_true rfl) ⟨Nat.zero_le _, Nat.zero_le _⟩ dX11_findOpens_97 (fun S_22 A_23 b_24 H locs qr_21 hM => ?_)
                obtain ⟨⟨e1, e3⟩, hrA_23, hfA_23⟩ := qr_21
                subst e1; subst e3
                refine lv_iinc (v := nI (mm + 1)) (lv' := [(2, .int (nI (mm + 1))), (3, .int (nI k)), (0, .ref (ad 188)), (1, .int (nI n))]) hx hb dX11_findOpens_100 hl (k := 1) rfl (by rw [nI_succ]; rfl) (by decide) rfl (fun ls hl => ?_)
                refine lv_goto (tgt := 6) hx hb dX11_findOpens_103 (by decide) ?_
                exact ih6 (mm + 1) A_23 (by omega) (fun j hj => by rw [hfA_23 204 (by omega), eA_20, q2_row]; by_cases hz : j = mm; (rw [hz, upd_s]; rw [er_11, hrA_9, (show A_6 193 = upd (mput (A 193) mm nP) 24 (qall nP) from by rw [eA_6, q2_row, hr2, show k = nP by omega, ev_5]; rfl), (show A_6 191 = A 191 from by rw [eA_6, q2_or _ _ (by omega), hf2 191 (by omega), hf 191 (by omega) (by omega)]), (show A_6 192 = A 192 from by rw [eA_6, q2_or _ _ (by omega), hf2 192 (by omega), hf 192 (by omega) (by omega)])] at c_87; rw [q01, if_pos c_87]); (rw [upd_o _ _ hz, hfA_9 204 (by omega), eA_6, q2_or _ _ (by omega), hf2 204 (by omega)]; exact ho j (by omega))) (by rw [hfA_23 203 (by omega), eA_20, q2_or _ _ (by omega), hfA_9 203 (by omega), eA_6, q2_or _ _ (by omega), hf2 203 (by omega)]; exact hw) (fun i h1 h2 => by by_cases hz : i = 193; (rw [hz, hrA_23]; exact qback (show A_20 203 = _ from (by rw [eA_20, q2_or _ _ (by omega), hfA_9 203 (by omega), eA_6, q2_or _ _ (by omega), hf2 203 (by omega)]; exact hw)) (fun a ha => by rw [eA_20, q2_or _ _ (by omega), hrA_9, mpass_hi (by omega) (by omega) (by omega) (by omega), (show A_6 193 = upd (mput (A 193) mm nP) 24 (qall nP) from by rw [eA_6, q2_row, hr2, show k = nP by omega, ev_5]; rfl), upd_o _ _ (by omega), mput, if_neg (by omega)])); (rw [hfA_23 i hz, eA_20, q2_or _ _ h2, hfA_9 i hz, eA_6, q2_or _ _ hz, hf2 i hz, hf i h1 h2])) (by omega) _ _ _ hM (lv_sub hl [0, 2, 3] rfl)
            · skip
              have c_23 : ¬ (nP ≤ k) := fun z => c_23 ((nI_leI (a := nP) (b := k) (by omega) (by omega)).mpr z)
              refine lv_aload_n hx hb dX11_findOpens_26 rfl (lv_at hl 2 rfl) ?_
              refine q_get (o := 188) (ci := 11) (k := 11) (T := TX11) (v := .ref (ad 193)) C hM (qmem_11 E ad S A18 b (show qk 188 = 11 from by decide +kernel)) (by decide) rfl hi11 (by decide) hL1 rfl rfl dX11_findOpens_27 ?_
              refine lv_bipush (v := 18) hx hb dX11_findOpens_30 (by decide) ?_
              refine lv_iload_n hx hb dX11_findOpens_32 rfl (lv_at hl 0 rfl) ?_
              refine lv_iadd hx hb dX11_findOpens_33 ?_
              refine lv_as (y := nI (18 + k)) (nI_add _ _) ?_
              refine lv_iload_n hx hb dX11_findOpens_34 rfl (lv_at hl 1 rfl) ?_
              refine lv_iload_n hx hb dX11_findOpens_35 rfl (lv_at hl 0 rfl) ?_
              refine q_callSI (n := 2) (As := [.int (nI mm), .int (nI k)]) (rest := [.int (nI (18 + k)), .ref (ad 193)]) C hM hA (c_X11_has E ad l S A18 b (nI mm) (nI k)) gX11_findOpens_X11_has rfl rfl rfl (by decide +kernel) ⟨Nat.le_of_ble_eq_true rfl, Nat.le_of_ble_eq_true rfl⟩ rfl hl.1 rfl (Nat.le_of_ble_eq_true rfl) ⟨Nat.zero_le _, Nat.zero_le _⟩ dX11_findOpens_36 (fun r_25 S_26 A_27 b_28 H locs qr_25 hM => ?_)
              obtain ⟨⟨e1, e2, e3⟩, er_25⟩ := qr_25
              subst e1; subst e2; subst e3
              refine lv_if_eq (tgt := 46) hx hb dX11_findOpens_39 (by decide) (fun c_39 => ?_) (fun c_39 => ?_)
              · skip
                refine lv_iconst (v := (-1)) hx hb dX11_findOpens_46 (by decide) ?_
                refine q_iast C hM (show qk 193 = 12 from by decide +kernel) (by rw [(show ql 193 = 37 from by decide +kernel)]; exact vp_nI (by omega) (by omega)) dX11_findOpens_47 (fun H locs hM => ?_)
                rw [nIc (by omega)] at hM
                obtain ⟨A_29, eA_29⟩ : ∃ zz, zz = q2 A18 193 (18 + k) (-1) := ⟨_, rfl⟩
                rw [← eA_29] at hM
                refine lv_iinc (v := nI (k + 1)) (lv' := [(3, .int (nI (k + 1))), (2, .int (nI mm)), (0, .ref (ad 188)), (1, .int (nI n))]) hx hb dX11_findOpens_48 hl (k := 0) rfl (by rw [nI_succ]; rfl) (by decide) rfl (fun ls hl => ?_)
                refine lv_goto (tgt := 18) hx hb dX11_findOpens_51 (by decide) ?_
                exact ih18 (k + 1) A_29 (by omega) (by rw [eA_29, q2_row, hr2]; exact mput_s _ _ _ _ (by rw [er_25] at c_39; rw [if_pos (Classical.not_not.mp (q01_eq0.mp c_39))])) (by rw [eA_29]; exact qfr_up hf2) (by omega) _ _ _ hM hl
              · skip
                refine lv_iconst (v := 0) hx hb dX11_findOpens_42 (by decide) ?_
                refine lv_goto (tgt := 47) hx hb dX11_findOpens_43 (by decide) ?_
                refine q_iast C hM (show qk 193 = 12 from by decide +kernel) (by rw [(show ql 193 = 37 from by decide +kernel)]; exact vp_nI (by omega) (by omega)) dX11_findOpens_47 (fun H locs hM => ?_)
                rw [nIc (by omega)] at hM
                obtain ⟨A_30, eA_30⟩ : ∃ zz, zz = q2 A18 193 (18 + k) 0 := ⟨_, rfl⟩
                rw [← eA_30] at hM
                refine lv_iinc (v := nI (k + 1)) (lv' := [(3, .int (nI (k + 1))), (2, .int (nI mm)), (0, .ref (ad 188)), (1, .int (nI n))]) hx hb dX11_findOpens_48 hl (k := 0) rfl (by rw [nI_succ]; rfl) (by decide) rfl (fun ls hl => ?_)
                refine lv_goto (tgt := 18) hx hb dX11_findOpens_51 (by decide) ?_
                exact ih18 (k + 1) A_30 (by omega) (by rw [eA_30, q2_row, hr2]; exact mput_s _ _ _ _ (by rw [er_25] at c_39; rw [if_neg (q01_ne0.mp c_39)])) (by rw [eA_30]; exact qfr_up hf2) (by omega) _ _ _ hM hl
        exact loop18 (nP - 0 + 1) 0 A6 (by omega) (by rw [mput_0, hf 193 (by omega) (by omega)]) (fun _ _ => rfl) (Nat.lt_succ_self _) _ _ _ hM hl
  exact loop6 (2 ^ nP - 0 + 1) 0 A_3 (by omega) (fun j hj => absurd hj (Nat.not_lt_zero _)) hrA_3 (fun i h1 _ => hfA_3 i h1) (Nat.lt_succ_self _) _ _ _ hM hl

set_option maxHeartbeats 4000000 in
set_option maxRecDepth 100000 in
theorem c_X11_fewest (E : qE) (ad : Nat → Nat) (l : Launch) (S A : qA2) (b : qB) (a1 : Int32) (nC : Nat) (hC : S 188 0 = nI nC) (hCb : nC ≤ 12) (nP : Nat) (hPo : S 188 4 = nI nP) (hPb : nP ≤ 6) (nW : Nat) (hWi : S 188 8 = nI nW) (hWb : nW ≤ 10) (nH : Nat) (hH : A 193 35 = nI nH) (hHb : nH ≤ 80000) : MI E ad l yX11_fewest wsX11_fewest { frames := 7, cells := 0, slots := 0, locals := 161 } [.ref (ad 188), .int a1] S A b (fun r S' A' b' => (S = S' ∧ b = b') ∧ ((qir a1 1 40 = none ∧ r = (-1000000002)) ∨ (∃ n, qir a1 1 40 = some n ∧ mFew (fun m2 => mopn nC nP nW (S 188 1) (S 188 2) (S 188 3) (A 191) (A 192) (A 193) n m2) (2 ^ nP) r)) ∧ ∀ i, i ≠ 203 → i ≠ 204 → A' i = A i) := by
  have h2p := q2p hPb
  refine MI.of (cc := cX11_fewest) (maxL := 5) (ret := some .int) RX11 rfl (by decide) rfl ?_
  intro pg e s m below meth cd C hM
  have hx := C.1
  have hb := C.2.1
  have hts := C.2.2.2.2.1
  have hA : ∀ q, s.heap.size ≤ q → qAr ad s.heap.size q := fun _ h => Or.inr h
  have hi11 : ∀ w ∈ u_ws RX11 TX11 45, w ∈ wsX11_fewest := by decide +kernel
  have hL0 := hts (.constantLong RX11 279 (40)) (by decide +kernel)
  have hL1 := hts (.fieldLink RX11 97 "CrowFencesModel" "posts" "I") (by decide +kernel)
  have hL2 := hts (.fieldLink RX11 59 "CrowFencesModel" "opens" "[Z") (by decide +kernel)
  have hL3 := hts (.constant RX11 105 (-1000000002)) (by decide +kernel)
  have hl := lv_entry ([.ref (ad 188), .int a1]) (n := 5) (Nat.le_of_ble_eq_true rfl)
  rw [lg_entry_eq]
  generalize (lg_sl ([.ref (ad 188), .int a1]) ++ List.replicate (5 - (lg_sl ([.ref (ad 188), .int a1])).length) Slot.unset).toArray = ls at hl ⊢
  have hl : lv_has ls 5 [(0, .ref (ad 188)), (1, .int a1)] := hl
  refine lv_iload_n hx hb dX11_fewest_0 rfl (lv_at hl 1 rfl) ?_
  refine lv_i2l (v := (a1 : Int32).toInt64) hx hb dX11_fewest_1 rfl ?_
  refine lv_lconst (v := 1) hx hb dX11_fewest_2 rfl ?_
  refine lv_ldc2 (v := 40) hx hb C.2.2.2.1 hL0 dX11_fewest_3 ?_
  refine q_callSI (n := 3) (As := [.long ((a1 : Int32).toInt64), .long 1, .long 40]) (rest := []) C hM hA (c_X11_in E ad l S A b ((a1 : Int32).toInt64) 1 40) gX11_fewest_X11_in rfl rfl rfl (by decide +kernel) ⟨Nat.le_of_ble_eq_true rfl, Nat.le_of_ble_eq_true rfl⟩ rfl hl.1 rfl (Nat.le_of_ble_eq_true rfl) ⟨Nat.zero_le _, Nat.zero_le _⟩ dX11_fewest_6 (fun r_1 S_2 A_3 b_4 H locs qr_1 hM => ?_)
  obtain ⟨⟨e1, e2, e3⟩, er_1⟩ := qr_1
  subst e1; subst e2; subst e3
  rw [q64 (x := a1) (lo := 1) (hi := 40) (by first | rfl | decide) (by first | rfl | decide)] at er_1
  rcases q01_cases (1 ≤ a1 ∧ a1 ≤ 40) with ⟨hzr_1, hir_1⟩ | ⟨hzr_1, hir_1⟩
  · skip
    rw [hzr_1] at er_1
    subst er_1
    obtain ⟨ka1, hloka1, hhika1, eka1⟩ := qin_of (l := 1) (h := 40) rfl rfl (by omega) (by omega) hir_1
    subst eka1
    refine lv_if_ne (tgt := 15) hx hb dX11_fewest_9 (by decide) (fun c_9 => ?_) (fun c_9 => ?_)
    · skip
      have c_9 : ¬ (1 = 0) := fun z => c_9 ((nI_eq (a := 1) (b := 0) (by omega) (by omega)).mpr z)
      refine lv_aload_n hx hb dX11_fewest_15 rfl (lv_at hl 0 rfl) ?_
      refine lv_iload_n hx hb dX11_fewest_16 rfl (lv_at hl 1 rfl) ?_
      refine q_callVV (n := 1) (o := 188) (As := [.int (nI ka1)]) (rest := []) C hM hA (c_X11_findOpens E ad l S A b ka1 (by omega) nC hC (by omega) nP hPo (by omega) nW hWi (by omega) nH hH (by omega)) (qmem_11 E ad S A b (show qk 188 = 11 from by decide +kernel)) (by decide) rfl gX11_fewest_X11_findOpens rfl rfl rfl (by decide +kernel) ⟨Nat.le_of_ble_eq_true rfl, Nat.le_of_ble_eq_true rfl⟩ rfl hl.1 rfl (Nat.le_of_ble_eq_true rfl) ⟨Nat.zero_le _, Nat.zero_le _⟩ dX11_fewest_17 (fun S_6 A_7 b_8 H locs qr_5 hM => ?_)
      obtain ⟨⟨e1, e3⟩, hO, hfA_7⟩ := qr_5
      subst e1; subst e3
      refine lv_iconst (v := (-1)) hx hb dX11_fewest_20 (by decide) ?_
      refine lv_istore_n (lv' := [(2, .int (-1)), (0, .ref (ad 188)), (1, .int (nI ka1))]) hx hb dX11_fewest_21 rfl hl (by decide) rfl (fun ls hl => ?_)
      refine lv_iconst (v := 0) hx hb dX11_fewest_22 (by decide) ?_
      refine lv_istore_n (lv' := [(3, .int 0), (2, .int (-1)), (0, .ref (ad 188)), (1, .int (nI ka1))]) hx hb dX11_fewest_23 rfl hl (by decide) rfl (fun ls hl => ?_)
      have loop24 : ∀ (fu : Nat) (be : Int32) (mm : Nat) (hm : mm ≤ 2 ^ nP) (hbb : mFew (fun m2 => mopn nC nP nW (S 188 1) (S 188 2) (S 188 3) (A 191) (A 192) (A 193) ka1 m2) mm be), 2 ^ nP - mm < fu → ∀ (H : Heap) (locs : List Loc) (ls : Array Slot), qM E ad S A_7 b (qAr ad s.heap.size) s H locs → lv_has ls 5 [(3, .int (nI mm)), (2, .int be), (0, .ref (ad 188)), (1, .int (nI ka1))] → W pg l e (headSpec wsX11_fewest { frames := 7, cells := 0, slots := 0, locals := 161 }).room s m ([.ref (ad 188), .int (nI ka1)] : List Value).toArray below meth cd H locs 0 0 (MQ below (qQi E ad s.heap.size (fun r S' A' b' => (S = S' ∧ b = b') ∧ ((qir (nI ka1) 1 40 = none ∧ r = (-1000000002)) ∨ (∃ n, qir (nI ka1) 1 40 = some n ∧ mFew (fun m2 => mopn nC nP nW (S 188 1) (S 188 2) (S 188 3) (A 191) (A 192) (A 193) n m2) (2 ^ nP) r)) ∧ ∀ i, i ≠ 203 → i ≠ 204 → A' i = A i)) ([.ref (ad 188), .int (nI ka1)] : List Value).toArray s 0 0 (qAr ad s.heap.size)) (F0 m 24 ls []) := by
        intro fu
        induction fu with
        | zero => intro be mm hm hbb hn; exact absurd hn (Nat.not_lt_zero _)
        | succ fu ih24 =>
          intro be mm hm hbb hn H locs ls hM hl
          refine lv_iload_n hx hb dX11_fewest_24 rfl (lv_at hl 0 rfl) ?_
          refine lv_iconst (v := 1) hx hb dX11_fewest_25 (by decide) ?_
          refine lv_aload_n hx hb dX11_fewest_26 rfl (lv_at hl 2 rfl) ?_
          refine q_get (o := 188) (ci := 11) (k := 4) (T := TX11) (v := .int (S 188 4)) C hM (qmem_11 E ad S A_7 b (show qk 188 = 11 from by decide +kernel)) (by decide) rfl hi11 (by decide) hL1 rfl rfl dX11_fewest_27 ?_
          refine lv_as (y := nI nP) hPo ?_
          refine lv_ishl hx hb dX11_fewest_30 ?_
          refine lv_as (y := nI (2 ^ nP)) (qbit_nI (by omega)) ?_
          refine lv_icmp_ge (tgt := 82) hx hb dX11_fewest_31 (by decide) (fun c_31 => ?_) (fun c_31 => ?_)
          · skip
            have c_31 : 2 ^ nP ≤ mm := (nI_leI (a := 2 ^ nP) (b := mm) (by omega) (by omega)).mp c_31
            refine lv_iload_n hx hb dX11_fewest_82 rfl (lv_at hl 1 rfl) ?_
            exact q_iret C hM dX11_fewest_83 (by exact ⟨⟨rfl, rfl⟩, Or.inr ⟨ka1, qir_in hloka1 hhika1 (by omega), by rw [show 2 ^ nP = mm by omega]; exact hbb⟩, hfA_7⟩)
          · skip
            have c_31 : ¬ (2 ^ nP ≤ mm) := fun z => c_31 ((nI_leI (a := 2 ^ nP) (b := mm) (by omega) (by omega)).mpr z)
            refine lv_iload_n hx hb dX11_fewest_34 rfl (lv_at hl 1 rfl) ?_
            refine lv_if_lt (tgt := 49) hx hb dX11_fewest_35 (by decide) (fun c_35 => ?_) (fun c_35 => ?_)
            · skip
              refine lv_iconst (v := 1) hx hb dX11_fewest_49 (by decide) ?_
              refine lv_goto (tgt := 54) hx hb dX11_fewest_50 (by decide) ?_
              refine lv_istore (lv' := [(4, .int 1), (3, .int (nI mm)), (2, .int be), (0, .ref (ad 188)), (1, .int (nI ka1))]) hx hb dX11_fewest_54 hl (by decide) rfl (fun ls hl => ?_)
              refine lv_iload hx hb dX11_fewest_56 (lv_at hl 0 rfl) ?_
              refine lv_if_eq (tgt := 74) hx hb dX11_fewest_58 (by decide) (fun c_58 => ?_) (fun c_58 => ?_)
              · skip
                have c_58 : 1 = 0 := (nI_eq (a := 1) (b := 0) (by omega) (by omega)).mp c_58
                exact absurd c_58 (by decide)
              · skip
                have c_58 : ¬ (1 = 0) := fun z => c_58 ((nI_eq (a := 1) (b := 0) (by omega) (by omega)).mpr z)
                refine lv_aload_n hx hb dX11_fewest_61 rfl (lv_at hl 3 rfl) ?_
                refine q_get (o := 188) (ci := 11) (k := 33) (T := TX11) (v := .ref (ad 204)) C hM (qmem_11 E ad S A_7 b (show qk 188 = 11 from by decide +kernel)) (by decide) rfl hi11 (by decide) hL2 rfl rfl dX11_fewest_62 ?_
                refine lv_iload_n hx hb dX11_fewest_65 rfl (lv_at hl 1 rfl) ?_
                refine q_zald (v := A_7 204 mm) C hM (show qk 204 = 13 from by decide +kernel) (by rw [(show ql 204 = 64 from by decide +kernel)]; exact vp_nI (by omega) (by omega)) (by rw [nIc (by omega)]) dX11_fewest_66 ?_
                refine lv_if_eq (tgt := 74) hx hb dX11_fewest_67 (by decide) (fun c_67 => ?_) (fun c_67 => ?_)
                · skip
                  refine lv_iload_n hx hb dX11_fewest_74 rfl (lv_at hl 2 rfl) ?_
                  refine lv_istore_n (lv' := [(2, .int be), (4, .int 1), (3, .int (nI mm)), (0, .ref (ad 188)), (1, .int (nI ka1))]) hx hb dX11_fewest_75 rfl hl (by decide) rfl (fun ls hl => ?_)
                  refine lv_iinc (v := nI (mm + 1)) (lv' := [(3, .int (nI (mm + 1))), (2, .int be), (4, .int 1), (0, .ref (ad 188)), (1, .int (nI ka1))]) hx hb dX11_fewest_76 hl (k := 2) rfl (by rw [nI_succ]; rfl) (by decide) rfl (fun ls hl => ?_)
                  refine lv_goto (tgt := 24) hx hb dX11_fewest_79 (by decide) ?_
                  exact ih24 be (mm + 1) (by omega) (mFew_skip hbb (fun z => by rw [hO mm (by omega)] at c_67; exact (q01_eq0.mp c_67) z)) (by omega) _ _ _ hM (lv_sub hl [0, 1, 3, 4] rfl)
                · skip
                  refine lv_iload_n hx hb dX11_fewest_70 rfl (lv_at hl 1 rfl) ?_
                  refine lv_goto (tgt := 75) hx hb dX11_fewest_71 (by decide) ?_
                  refine lv_istore_n (lv' := [(2, .int (nI mm)), (4, .int 1), (3, .int (nI mm)), (0, .ref (ad 188)), (1, .int (nI ka1))]) hx hb dX11_fewest_75 rfl hl (by decide) rfl (fun ls hl => ?_)
                  refine lv_iinc (v := nI (mm + 1)) (lv' := [(3, .int (nI (mm + 1))), (2, .int (nI mm)), (4, .int 1), (0, .ref (ad 188)), (1, .int (nI ka1))]) hx hb dX11_fewest_76 hl (k := 2) rfl (by rw [nI_succ]; rfl) (by decide) rfl (fun ls hl => ?_)
                  refine lv_goto (tgt := 24) hx hb dX11_fewest_79 (by decide) ?_
                  exact ih24 (nI mm) (mm + 1) (by omega) (mFew_new (by omega) hbb c_35 (by rw [hO mm (by omega)] at c_67; exact q01_ne0.mp c_67)) (by omega) _ _ _ hM (lv_sub hl [0, 1, 3, 4] rfl)
            · skip
              refine lv_iload_n hx hb dX11_fewest_38 rfl (lv_at hl 0 rfl) ?_
              refine q_callSI (n := 1) (As := [.int (nI mm)]) (rest := []) C hM hA (c_X11_bits E ad l S A_7 b (nI mm)) gX11_fewest_X11_bits rfl rfl rfl (by decide +kernel) ⟨Nat.le_of_ble_eq_true rfl, Nat.le_of_ble_eq_true rfl⟩ rfl hl.1 rfl (Nat.le_of_ble_eq_true rfl) ⟨Nat.zero_le _, Nat.zero_le _⟩ dX11_fewest_39 (fun r_9 S_10 A_11 b_12 H locs qr_9 hM => ?_)
              obtain ⟨⟨e1, e2, e3⟩, er_9⟩ := qr_9
              subst e1; subst e2; subst e3
              refine lv_iload_n hx hb dX11_fewest_42 rfl (lv_at hl 1 rfl) ?_
              refine q_callSI (n := 1) (As := [.int be]) (rest := [.int r_9]) C hM hA (c_X11_bits E ad l S A_7 b be) gX11_fewest_X11_bits rfl rfl rfl (by decide +kernel) ⟨Nat.le_of_ble_eq_true rfl, Nat.le_of_ble_eq_true rfl⟩ rfl hl.1 rfl (Nat.le_of_ble_eq_true rfl) ⟨Nat.zero_le _, Nat.zero_le _⟩ dX11_fewest_43 (fun r_13 S_14 A_15 b_16 H locs qr_13 hM => ?_)
              obtain ⟨⟨e1, e2, e3⟩, er_13⟩ := qr_13
              subst e1; subst e2; subst e3
              refine lv_icmp_ge (tgt := 53) hx hb dX11_fewest_46 (by decide) (fun c_46 => ?_) (fun c_46 => ?_)
              · skip
                refine lv_iconst (v := 0) hx hb dX11_fewest_53 (by decide) ?_
                refine lv_istore (lv' := [(4, .int 0), (3, .int (nI mm)), (2, .int be), (0, .ref (ad 188)), (1, .int (nI ka1))]) hx hb dX11_fewest_54 hl (by decide) rfl (fun ls hl => ?_)
                refine lv_iload hx hb dX11_fewest_56 (lv_at hl 0 rfl) ?_
                refine lv_if_eq (tgt := 74) hx hb dX11_fewest_58 (by decide) (fun c_58 => ?_) (fun c_58 => ?_)
                · skip
                  have c_58 : 0 = 0 := (nI_eq (a := 0) (b := 0) (by omega) (by omega)).mp c_58
                  refine lv_iload_n hx hb dX11_fewest_74 rfl (lv_at hl 2 rfl) ?_
                  refine lv_istore_n (lv' := [(2, .int be), (4, .int 0), (3, .int (nI mm)), (0, .ref (ad 188)), (1, .int (nI ka1))]) hx hb dX11_fewest_75 rfl hl (by decide) rfl (fun ls hl => ?_)
                  refine lv_iinc (v := nI (mm + 1)) (lv' := [(3, .int (nI (mm + 1))), (2, .int be), (4, .int 0), (0, .ref (ad 188)), (1, .int (nI ka1))]) hx hb dX11_fewest_76 hl (k := 2) rfl (by rw [nI_succ]; rfl) (by decide) rfl (fun ls hl => ?_)
                  refine lv_goto (tgt := 24) hx hb dX11_fewest_79 (by decide) ?_
                  exact ih24 be (mm + 1) (by omega) (mFew_keep (by omega) hbb c_35 (by rw [er_9, er_13] at c_46; exact c_46)) (by omega) _ _ _ hM (lv_sub hl [0, 1, 3, 4] rfl)
                · skip
                  have c_58 : ¬ (0 = 0) := fun z => c_58 ((nI_eq (a := 0) (b := 0) (by omega) (by omega)).mpr z)
                  exact absurd rfl c_58
              · skip
                refine lv_iconst (v := 1) hx hb dX11_fewest_49 (by decide) ?_
                refine lv_goto (tgt := 54) hx hb dX11_fewest_50 (by decide) ?_
                refine lv_istore (lv' := [(4, .int 1), (3, .int (nI mm)), (2, .int be), (0, .ref (ad 188)), (1, .int (nI ka1))]) hx hb dX11_fewest_54 hl (by decide) rfl (fun ls hl => ?_)
                refine lv_iload hx hb dX11_fewest_56 (lv_at hl 0 rfl) ?_
                refine lv_if_eq (tgt := 74) hx hb dX11_fewest_58 (by decide) (fun c_58 => ?_) (fun c_58 => ?_)
                · skip
                  have c_58 : 1 = 0 := (nI_eq (a := 1) (b := 0) (by omega) (by omega)).mp c_58
                  exact absurd c_58 (by decide)
                · skip
                  have c_58 : ¬ (1 = 0) := fun z => c_58 ((nI_eq (a := 1) (b := 0) (by omega) (by omega)).mpr z)
                  refine lv_aload_n hx hb dX11_fewest_61 rfl (lv_at hl 3 rfl) ?_
                  refine q_get (o := 188) (ci := 11) (k := 33) (T := TX11) (v := .ref (ad 204)) C hM (qmem_11 E ad S A_7 b (show qk 188 = 11 from by decide +kernel)) (by decide) rfl hi11 (by decide) hL2 rfl rfl dX11_fewest_62 ?_
                  refine lv_iload_n hx hb dX11_fewest_65 rfl (lv_at hl 1 rfl) ?_
                  refine q_zald (v := A_7 204 mm) C hM (show qk 204 = 13 from by decide +kernel) (by rw [(show ql 204 = 64 from by decide +kernel)]; exact vp_nI (by omega) (by omega)) (by rw [nIc (by omega)]) dX11_fewest_66 ?_
                  refine lv_if_eq (tgt := 74) hx hb dX11_fewest_67 (by decide) (fun c_67 => ?_) (fun c_67 => ?_)
                  · skip
                    refine lv_iload_n hx hb dX11_fewest_74 rfl (lv_at hl 2 rfl) ?_
                    refine lv_istore_n (lv' := [(2, .int be), (4, .int 1), (3, .int (nI mm)), (0, .ref (ad 188)), (1, .int (nI ka1))]) hx hb dX11_fewest_75 rfl hl (by decide) rfl (fun ls hl => ?_)
                    refine lv_iinc (v := nI (mm + 1)) (lv' := [(3, .int (nI (mm + 1))), (2, .int be), (4, .int 1), (0, .ref (ad 188)), (1, .int (nI ka1))]) hx hb dX11_fewest_76 hl (k := 2) rfl (by rw [nI_succ]; rfl) (by decide) rfl (fun ls hl => ?_)
                    refine lv_goto (tgt := 24) hx hb dX11_fewest_79 (by decide) ?_
                    exact ih24 be (mm + 1) (by omega) (mFew_skip hbb (fun z => by rw [hO mm (by omega)] at c_67; exact (q01_eq0.mp c_67) z)) (by omega) _ _ _ hM (lv_sub hl [0, 1, 3, 4] rfl)
                  · skip
                    refine lv_iload_n hx hb dX11_fewest_70 rfl (lv_at hl 1 rfl) ?_
                    refine lv_goto (tgt := 75) hx hb dX11_fewest_71 (by decide) ?_
                    refine lv_istore_n (lv' := [(2, .int (nI mm)), (4, .int 1), (3, .int (nI mm)), (0, .ref (ad 188)), (1, .int (nI ka1))]) hx hb dX11_fewest_75 rfl hl (by decide) rfl (fun ls hl => ?_)
                    refine lv_iinc (v := nI (mm + 1)) (lv' := [(3, .int (nI (mm + 1))), (2, .int (nI mm)), (4, .int 1), (0, .ref (ad 188)), (1, .int (nI ka1))]) hx hb dX11_fewest_76 hl (k := 2) rfl (by rw [nI_succ]; rfl) (by decide) rfl (fun ls hl => ?_)
                    refine lv_goto (tgt := 24) hx hb dX11_fewest_79 (by decide) ?_
                    exact ih24 (nI mm) (mm + 1) (by omega) (mFew_less (by omega) hbb c_35 (by rw [er_9, er_13] at c_46; exact Int32.not_le.mp c_46) (by rw [hO mm (by omega)] at c_67; exact q01_ne0.mp c_67)) (by omega) _ _ _ hM (lv_sub hl [0, 1, 3, 4] rfl)
      exact loop24 (2 ^ nP - 0 + 1) (-1) 0 (by omega) (Or.inl ⟨rfl, fun m3 h3 => absurd h3 (Nat.not_lt_zero _)⟩) (Nat.lt_succ_self _) _ _ _ hM hl
    · skip
      have c_9 : 1 = 0 := (nI_eq (a := 1) (b := 0) (by omega) (by omega)).mp c_9
      exact absurd c_9 (by decide)
  · skip
    rw [hzr_1] at er_1
    subst er_1
    refine lv_if_ne (tgt := 15) hx hb dX11_fewest_9 (by decide) (fun c_9 => ?_) (fun c_9 => ?_)
    · skip
      have c_9 : ¬ (0 = 0) := fun z => c_9 ((nI_eq (a := 0) (b := 0) (by omega) (by omega)).mpr z)
      exact absurd rfl c_9
    · skip
      have c_9 : 0 = 0 := (nI_eq (a := 0) (b := 0) (by omega) (by omega)).mp c_9
      refine lv_ldc (v := (-1000000002)) hx hb C.2.2.2.1 hL3 dX11_fewest_12 ?_
      exact q_iret C hM dX11_fewest_14 (by exact ⟨⟨rfl, rfl⟩, Or.inl ⟨qir_out hir_1, rfl⟩, fun _ _ _ => rfl⟩)

set_option maxHeartbeats 4000000 in
set_option maxRecDepth 100000 in
theorem c_X11_lets (E : qE) (ad : Nat → Nat) (l : Launch) (S A : qA2) (b : qB) (a1 a2 : Int32) (nC : Nat) (hC : S 188 0 = nI nC) (hCb : nC ≤ 12) (nP : Nat) (hPo : S 188 4 = nI nP) (hPb : nP ≤ 6) (nK : Nat) (hK : S 188 6 = nI nK) (hKb : nK ≤ 5) (nW : Nat) (hWi : S 188 8 = nI nW) (hWb : nW ≤ 10) (nH : Nat) (hH : A 193 35 = nI nH) (hHb : nH ≤ 80000) : MI E ad l yX11_lets wsX11_lets { frames := 7, cells := 0, slots := 0, locals := 161 } [.ref (ad 188), .int a1, .int a2] S A b (fun r S' A' b' => (S = S' ∧ b = b') ∧ ((r = (-1000000001) ∧ ¬ a2 = -1 ∧ qix a2 nP = none) ∨ ((a2 = -1 ∨ ∃ k, qix a2 nP = some k) ∧ r = (qir a1 1 40).elim (-1000000002) (fun n => if (mfm nP nK (fun m2 => mopn nC nP nW (S 188 1) (S 188 2) (S 188 3) (A 191) (A 192) (A 193) n m2) (fun way => qspoons way (fun c => A 193 (25 + c)) (A 190) (A 189) nP) (-1, A 206) (6 ^ nP)).1 < 0 ∨ a2 = -1 then (mfm nP nK (fun m2 => mopn nC nP nW (S 188 1) (S 188 2) (S 188 3) (A 191) (A 192) (A 193) n m2) (fun way => qspoons way (fun c => A 193 (25 + c)) (A 190) (A 189) nP) (-1, A 206) (6 ^ nP)).1 else (mfm nP nK (fun m2 => mopn nC nP nW (S 188 1) (S 188 2) (S 188 3) (A 191) (A 192) (A 193) n m2) (fun way => qspoons way (fun c => A 193 (25 + c)) (A 190) (A 189) nP) (-1, A 206) (6 ^ nP)).2 a2.toNatClampNeg))) ∧ ∀ i, (i < 203 ∨ 206 < i) → A' i = A i) := by
  have h2p := q2p hPb
  have h6p := q6p hPb
  refine MI.of (cc := cX11_lets) (maxL := 6) (ret := some .int) RX11 rfl (by decide) rfl ?_
  intro pg e s m below meth cd C hM
  have hx := C.1
  have hb := C.2.1
  have hts := C.2.2.2.2.1
  have hA : ∀ q, s.heap.size ≤ q → qAr ad s.heap.size q := fun _ h => Or.inr h
  have hi11 : ∀ w ∈ u_ws RX11 TX11 45, w ∈ wsX11_lets := by decide +kernel
  have hL0 := hts (.constantLong RX11 279 (40)) (by decide +kernel)
  have hL1 := hts (.fieldLink RX11 59 "CrowFencesModel" "opens" "[Z") (by decide +kernel)
  have hL2 := hts (.fieldLink RX11 97 "CrowFencesModel" "posts" "I") (by decide +kernel)
  have hL3 := hts (.fieldLink RX11 66 "CrowFencesModel" "bestGiven" "[I") (by decide +kernel)
  have hL4 := hts (.fieldLink RX11 63 "CrowFencesModel" "given" "[I") (by decide +kernel)
  have hL5 := hts (.constant RX11 105 (-1000000002)) (by decide +kernel)
  have hL6 := hts (.constant RX11 219 (-1000000001)) (by decide +kernel)
  have hl := lv_entry ([.ref (ad 188), .int a1, .int a2]) (n := 6) (Nat.le_of_ble_eq_true rfl)
  rw [lg_entry_eq]
  generalize (lg_sl ([.ref (ad 188), .int a1, .int a2]) ++ List.replicate (6 - (lg_sl ([.ref (ad 188), .int a1, .int a2])).length) Slot.unset).toArray = ls at hl ⊢
  have hl : lv_has ls 6 [(0, .ref (ad 188)), (1, .int a1), (2, .int a2)] := hl
  refine lv_iload_n hx hb dX11_lets_0 rfl (lv_at hl 2 rfl) ?_
  refine lv_iconst (v := (-1)) hx hb dX11_lets_1 (by decide) ?_
  refine lv_icmp_eq (tgt := 16) hx hb dX11_lets_2 (by decide) (fun c_2 => ?_) (fun c_2 => ?_)
  · skip
    refine lv_iload_n hx hb dX11_lets_16 rfl (lv_at hl 1 rfl) ?_
    refine lv_i2l (v := (a1 : Int32).toInt64) hx hb dX11_lets_17 rfl ?_
    refine lv_lconst (v := 1) hx hb dX11_lets_18 rfl ?_
    refine lv_ldc2 (v := 40) hx hb C.2.2.2.1 hL0 dX11_lets_19 ?_
    refine q_callSI (n := 3) (As := [.long ((a1 : Int32).toInt64), .long 1, .long 40]) (rest := []) C hM hA (c_X11_in E ad l S A b ((a1 : Int32).toInt64) 1 40) gX11_lets_X11_in rfl rfl rfl (by decide +kernel) ⟨Nat.le_of_ble_eq_true rfl, Nat.le_of_ble_eq_true rfl⟩ rfl hl.1 rfl (Nat.le_of_ble_eq_true rfl) ⟨Nat.zero_le _, Nat.zero_le _⟩ dX11_lets_22 (fun r_1 S_2 A_3 b_4 H locs qr_1 hM => ?_)
    obtain ⟨⟨e1, e2, e3⟩, er_1⟩ := qr_1
    subst e1; subst e2; subst e3
    rw [q64 (x := a1) (lo := 1) (hi := 40) (by first | rfl | decide) (by first | rfl | decide)] at er_1
    rcases q01_cases (1 ≤ a1 ∧ a1 ≤ 40) with ⟨hzr_1, hir_1⟩ | ⟨hzr_1, hir_1⟩
    · skip
      rw [hzr_1] at er_1
      subst er_1
      obtain ⟨ka1, hloka1, hhika1, eka1⟩ := qin_of (l := 1) (h := 40) rfl rfl (by omega) (by omega) hir_1
      subst eka1
      refine lv_if_ne (tgt := 31) hx hb dX11_lets_25 (by decide) (fun c_25 => ?_) (fun c_25 => ?_)
      · skip
        have c_25 : ¬ (1 = 0) := fun z => c_25 ((nI_eq (a := 1) (b := 0) (by omega) (by omega)).mpr z)
        refine lv_aload_n hx hb dX11_lets_31 rfl (lv_at hl 0 rfl) ?_
        refine lv_iload_n hx hb dX11_lets_32 rfl (lv_at hl 1 rfl) ?_
        refine q_callVV (n := 1) (o := 188) (As := [.int (nI ka1)]) (rest := []) C hM hA (c_X11_findOpens E ad l S A b ka1 (by omega) nC hC (by omega) nP hPo (by omega) nW hWi (by omega) nH hH (by omega)) (qmem_11 E ad S A b (show qk 188 = 11 from by decide +kernel)) (by decide) rfl gX11_lets_X11_findOpens rfl rfl rfl (by decide +kernel) ⟨Nat.le_of_ble_eq_true rfl, Nat.le_of_ble_eq_true rfl⟩ rfl hl.1 rfl (Nat.le_of_ble_eq_true rfl) ⟨Nat.zero_le _, Nat.zero_le _⟩ dX11_lets_33 (fun S_6 A_7 b_8 H locs qr_5 hM => ?_)
        obtain ⟨⟨e1, e3⟩, hO, hfA_7⟩ := qr_5
        subst e1; subst e3
        refine lv_iconst (v := (-1)) hx hb dX11_lets_36 (by decide) ?_
        refine lv_istore_n (lv' := [(3, .int (-1)), (0, .ref (ad 188)), (1, .int (nI ka1)), (2, .int a2)]) hx hb dX11_lets_37 rfl hl (by decide) rfl (fun ls hl => ?_)
        refine lv_iconst (v := 0) hx hb dX11_lets_38 (by decide) ?_
        refine lv_istore (lv' := [(4, .int 0), (3, .int (-1)), (0, .ref (ad 188)), (1, .int (nI ka1)), (2, .int a2)]) hx hb dX11_lets_39 hl (by decide) rfl (fun ls hl => ?_)
        have loop41 : ∀ (fu : Nat) (mo : Int32) (mm : Nat) (A41 : qA2) (hm : mm ≤ 6 ^ nP) (hbb : (mo, A41 206) = mfm nP nK (fun m2 => mopn nC nP nW (S 188 1) (S 188 2) (S 188 3) (A 191) (A 192) (A 193) ka1 m2) (fun way => qspoons way (fun c => A 193 (25 + c)) (A 190) (A 189) nP) (-1, A 206) mm) (hf : ∀ i, i ≠ 205 → i ≠ 206 → A41 i = A_7 i), 6 ^ nP - mm < fu → ∀ (H : Heap) (locs : List Loc) (ls : Array Slot), qM E ad S A41 b (qAr ad s.heap.size) s H locs → lv_has ls 6 [(4, .int (nI mm)), (3, .int mo), (0, .ref (ad 188)), (1, .int (nI ka1)), (2, .int a2)] → W pg l e (headSpec wsX11_lets { frames := 7, cells := 0, slots := 0, locals := 161 }).room s m ([.ref (ad 188), .int (nI ka1), .int a2] : List Value).toArray below meth cd H locs 0 0 (MQ below (qQi E ad s.heap.size (fun r S' A' b' => (S = S' ∧ b = b') ∧ ((r = (-1000000001) ∧ ¬ a2 = -1 ∧ qix a2 nP = none) ∨ ((a2 = -1 ∨ ∃ k, qix a2 nP = some k) ∧ r = (qir (nI ka1) 1 40).elim (-1000000002) (fun n => if (mfm nP nK (fun m2 => mopn nC nP nW (S 188 1) (S 188 2) (S 188 3) (A 191) (A 192) (A 193) n m2) (fun way => qspoons way (fun c => A 193 (25 + c)) (A 190) (A 189) nP) (-1, A 206) (6 ^ nP)).1 < 0 ∨ a2 = -1 then (mfm nP nK (fun m2 => mopn nC nP nW (S 188 1) (S 188 2) (S 188 3) (A 191) (A 192) (A 193) n m2) (fun way => qspoons way (fun c => A 193 (25 + c)) (A 190) (A 189) nP) (-1, A 206) (6 ^ nP)).1 else (mfm nP nK (fun m2 => mopn nC nP nW (S 188 1) (S 188 2) (S 188 3) (A 191) (A 192) (A 193) n m2) (fun way => qspoons way (fun c => A 193 (25 + c)) (A 190) (A 189) nP) (-1, A 206) (6 ^ nP)).2 a2.toNatClampNeg))) ∧ ∀ i, (i < 203 ∨ 206 < i) → A' i = A i)) ([.ref (ad 188), .int (nI ka1), .int a2] : List Value).toArray s 0 0 (qAr ad s.heap.size)) (F0 m 41 ls []) := by
          intro fu
          induction fu with
          | zero => intro mo mm A41 hm hbb hf hn; exact absurd hn (Nat.not_lt_zero _)
          | succ fu ih41 =>
            intro mo mm A41 hm hbb hf hn H locs ls hM hl
            refine lv_iload hx hb dX11_lets_41 (lv_at hl 0 rfl) ?_
            refine lv_aload_n hx hb dX11_lets_43 rfl (lv_at hl 2 rfl) ?_
            refine q_callVI (n := 0) (o := 188) (As := []) (rest := [.int (nI mm)]) C hM hA (c_X11_waysToLet E ad l S A41 b nP hPo (by omega)) (qmem_11 E ad S A41 b (show qk 188 = 11 from by decide +kernel)) (by decide) rfl gX11_lets_X11_waysToLet rfl rfl rfl (by decide +kernel) ⟨Nat.le_of_ble_eq_true rfl, Nat.le_of_ble_eq_true rfl⟩ rfl hl.1 rfl (Nat.le_of_ble_eq_true rfl) ⟨Nat.zero_le _, Nat.zero_le _⟩ dX11_lets_44 (fun r_9 S_10 A_11 b_12 H locs qr_9 hM => ?_)
            obtain ⟨⟨e1, e2, e3⟩, er_9⟩ := qr_9
            subst e1; subst e2; subst e3
            subst er_9
            refine lv_icmp_ge (tgt := 122) hx hb dX11_lets_47 (by decide) (fun c_47 => ?_) (fun c_47 => ?_)
            · skip
              have c_47 : 6 ^ nP ≤ mm := (nI_leI (a := 6 ^ nP) (b := mm) (by omega) (by omega)).mp c_47
              refine lv_iload_n hx hb dX11_lets_122 rfl (lv_at hl 1 rfl) ?_
              refine lv_if_lt (tgt := 131) hx hb dX11_lets_123 (by decide) (fun c_123 => ?_) (fun c_123 => ?_)
              · skip
                refine lv_iload_n hx hb dX11_lets_131 rfl (lv_at hl 1 rfl) ?_
                refine lv_goto (tgt := 141) hx hb dX11_lets_132 (by decide) ?_
                exact q_iret C hM dX11_lets_141 (by have hbe : (mo, A41 206) = mfm nP nK (fun m2 => mopn nC nP nW (S 188 1) (S 188 2) (S 188 3) (A 191) (A 192) (A 193) ka1 m2) (fun way => qspoons way (fun c => A 193 (25 + c)) (A 190) (A 189) nP) (-1, A 206) (6 ^ nP) := (by rw [show 6 ^ nP = mm by omega]; exact hbb); exact ⟨⟨rfl, rfl⟩, Or.inr ⟨Or.inl c_2, by rw [qir_in hloka1 hhika1 (by omega)]; dsimp only [Option.elim]; rw [← hbe]; exact (if_pos (Or.inl c_123)).symm⟩, fun i hi => by rw [hf i (by omega) (by omega), hfA_7 i (by omega) (by omega)]⟩)
              · skip
                refine lv_iload_n hx hb dX11_lets_126 rfl (lv_at hl 4 rfl) ?_
                refine lv_iconst (v := (-1)) hx hb dX11_lets_127 (by decide) ?_
                refine lv_icmp_ne (tgt := 135) hx hb dX11_lets_128 (by decide) (fun c_128 => ?_) (fun c_128 => ?_)
                · skip
                  exact absurd c_2 c_128
                · skip
                  refine lv_iload_n hx hb dX11_lets_131 rfl (lv_at hl 1 rfl) ?_
                  refine lv_goto (tgt := 141) hx hb dX11_lets_132 (by decide) ?_
                  exact q_iret C hM dX11_lets_141 (by have hbe : (mo, A41 206) = mfm nP nK (fun m2 => mopn nC nP nW (S 188 1) (S 188 2) (S 188 3) (A 191) (A 192) (A 193) ka1 m2) (fun way => qspoons way (fun c => A 193 (25 + c)) (A 190) (A 189) nP) (-1, A 206) (6 ^ nP) := (by rw [show 6 ^ nP = mm by omega]; exact hbb); exact ⟨⟨rfl, rfl⟩, Or.inr ⟨Or.inl c_2, by rw [qir_in hloka1 hhika1 (by omega)]; dsimp only [Option.elim]; rw [← hbe]; exact (if_pos (Or.inr c_128)).symm⟩, fun i hi => by rw [hf i (by omega) (by omega), hfA_7 i (by omega) (by omega)]⟩)
            · skip
              have c_47 : ¬ (6 ^ nP ≤ mm) := fun z => c_47 ((nI_leI (a := 6 ^ nP) (b := mm) (by omega) (by omega)).mpr z)
              refine lv_aload_n hx hb dX11_lets_50 rfl (lv_at hl 2 rfl) ?_
              refine lv_iload hx hb dX11_lets_51 (lv_at hl 0 rfl) ?_
              refine q_callVI (n := 1) (o := 188) (As := [.int (nI mm)]) (rest := []) C hM hA (c_X11_takeGiven E ad l S A41 b mm (by omega) nP hPo (by omega) nK hK (by omega)) (qmem_11 E ad S A41 b (show qk 188 = 11 from by decide +kernel)) (by decide) rfl gX11_lets_X11_takeGiven rfl rfl rfl (by decide +kernel) ⟨Nat.le_of_ble_eq_true rfl, Nat.le_of_ble_eq_true rfl⟩ rfl hl.1 rfl (Nat.le_of_ble_eq_true rfl) ⟨Nat.zero_le _, Nat.zero_le _⟩ dX11_lets_53 (fun r_13 S_14 A_15 b_16 H locs qr_13 hM => ?_)
              obtain ⟨⟨e1, e3⟩, hDr_13, hrA_15, hfA_15⟩ := qr_13
              subst e1; subst e3
              rcases hDr_13 with ⟨er_13, hgood⟩ | ⟨er_13, hgood⟩
              · skip
                subst er_13
                refine lv_if_eq (tgt := 116) hx hb dX11_lets_56 (by decide) (fun c_56 => ?_) (fun c_56 => ?_)
                · skip
                  have c_56 : 1 = 0 := (nI_eq (a := 1) (b := 0) (by omega) (by omega)).mp c_56
                  exact absurd c_56 (by decide)
                · skip
                  have c_56 : ¬ (1 = 0) := fun z => c_56 ((nI_eq (a := 1) (b := 0) (by omega) (by omega)).mpr z)
                  refine lv_aload_n hx hb dX11_lets_59 rfl (lv_at hl 2 rfl) ?_
                  refine q_get (o := 188) (ci := 11) (k := 33) (T := TX11) (v := .ref (ad 204)) C hM (qmem_11 E ad S A_15 b (show qk 188 = 11 from by decide +kernel)) (by decide) rfl hi11 (by decide) hL1 rfl rfl dX11_lets_60 ?_
                  refine lv_aload_n hx hb dX11_lets_63 rfl (lv_at hl 2 rfl) ?_
                  refine q_callVI (n := 0) (o := 188) (As := []) (rest := [.ref (ad 204)]) C hM hA (c_X11_givenSet E ad l S A_15 b nP hPo (by omega) (fun q hq => by rw [hrA_15 q hq]; exact mway_cw _ _ _)) (qmem_11 E ad S A_15 b (show qk 188 = 11 from by decide +kernel)) (by decide) rfl gX11_lets_X11_givenSet rfl rfl rfl (by decide +kernel) ⟨Nat.le_of_ble_eq_true rfl, Nat.le_of_ble_eq_true rfl⟩ rfl hl.1 rfl (Nat.le_of_ble_eq_true rfl) ⟨Nat.zero_le _, Nat.zero_le _⟩ dX11_lets_64 (fun r_17 S_18 A_19 b_20 H locs qr_17 hM => ?_)
                  obtain ⟨⟨e1, e2, e3⟩, er_17⟩ := qr_17
                  subst e1; subst e2; subst e3
                  obtain ⟨gs, hgs, egs⟩ := qlets_lt (f := mway nP mm) nP hPb
                  rw [qlets_cong hrA_15, egs] at er_17
                  subst er_17
                  refine q_zald (v := A_7 204 gs) C hM (show qk 204 = 13 from by decide +kernel) (by rw [(show ql 204 = 64 from by decide +kernel)]; exact vp_nI (by omega) (by omega)) (by rw [nIc (by omega)]; exact (show A_15 204 gs = A_7 204 gs from by rw [hfA_15 204 (by omega)]; rw [hf 204 (by omega) (by omega)])) dX11_lets_67 ?_
                  refine lv_if_eq (tgt := 116) hx hb dX11_lets_68 (by decide) (fun c_68 => ?_) (fun c_68 => ?_)
                  · skip
                    refine lv_iinc (v := nI (mm + 1)) (lv' := [(4, .int (nI (mm + 1))), (3, .int mo), (0, .ref (ad 188)), (1, .int (nI ka1)), (2, .int a2)]) hx hb dX11_lets_116 hl (k := 0) rfl (by rw [nI_succ]; rfl) (by decide) rfl (fun ls hl => ?_)
                    refine lv_goto (tgt := 41) hx hb dX11_lets_119 (by decide) ?_
                    exact ih41 mo (mm + 1) A_15 (by omega) (by show (_, A_15 206) = mbr nP nK _ _ mm (mfm nP nK (fun m2 => mopn nC nP nW (S 188 1) (S 188 2) (S 188 3) (A 191) (A 192) (A 193) ka1 m2) (fun way => qspoons way (fun c => A 193 (25 + c)) (A 190) (A 189) nP) (-1, A 206) mm); rw [← hbb, mbr_no (fun z => by have h2 := z.2.1; rw [(show (qlets (mway nP mm) nP).toNatClampNeg = gs from by rw [egs]; exact nIc (by omega))] at h2; rw [hO gs (by omega)] at c_68; exact (q01_eq0.mp c_68) h2), hfA_15 206 (by omega)]) (fun i h1 h2 => by rw [hfA_15 i h1, hf i h1 h2]) (by omega) _ _ _ hM hl
                  · skip
                    refine lv_aload_n hx hb dX11_lets_71 rfl (lv_at hl 2 rfl) ?_
                    refine q_callVI (n := 0) (o := 188) (As := []) (rest := []) C hM hA (c_X11_givenSpoons E ad l S A_15 b nP hPo (by omega) (fun q hq => by rw [hrA_15 q hq]; exact mway_cw _ _ _)) (qmem_11 E ad S A_15 b (show qk 188 = 11 from by decide +kernel)) (by decide) rfl gX11_lets_X11_givenSpoons rfl rfl rfl (by decide +kernel) ⟨Nat.le_of_ble_eq_true rfl, Nat.le_of_ble_eq_true rfl⟩ rfl hl.1 rfl (Nat.le_of_ble_eq_true rfl) ⟨Nat.zero_le _, Nat.zero_le _⟩ dX11_lets_72 (fun r_21 S_22 A_23 b_24 H locs qr_21 hM => ?_)
                    obtain ⟨⟨e1, e2, e3⟩, er_21⟩ := qr_21
                    subst e1; subst e2; subst e3
                    rw [qspoons_cong hrA_15, show A_15 193 = A 193 from by rw [hfA_15 193 (by omega), hf 193 (by omega) (by omega), hfA_7 193 (by omega) (by omega)], show A_15 190 = A 190 from by rw [hfA_15 190 (by omega), hf 190 (by omega) (by omega), hfA_7 190 (by omega) (by omega)], show A_15 189 = A 189 from by rw [hfA_15 189 (by omega), hf 189 (by omega) (by omega), hfA_7 189 (by omega) (by omega)]] at er_21
                    refine lv_iload_n hx hb dX11_lets_75 rfl (lv_at hl 1 rfl) ?_
                    refine lv_icmp_le (tgt := 116) hx hb dX11_lets_76 (by decide) (fun c_76 => ?_) (fun c_76 => ?_)
                    · skip
                      refine lv_iinc (v := nI (mm + 1)) (lv' := [(4, .int (nI (mm + 1))), (3, .int mo), (0, .ref (ad 188)), (1, .int (nI ka1)), (2, .int a2)]) hx hb dX11_lets_116 hl (k := 0) rfl (by rw [nI_succ]; rfl) (by decide) rfl (fun ls hl => ?_)
                      refine lv_goto (tgt := 41) hx hb dX11_lets_119 (by decide) ?_
                      exact ih41 mo (mm + 1) A_15 (by omega) (by show (_, A_15 206) = mbr nP nK _ _ mm (mfm nP nK (fun m2 => mopn nC nP nW (S 188 1) (S 188 2) (S 188 3) (A 191) (A 192) (A 193) ka1 m2) (fun way => qspoons way (fun c => A 193 (25 + c)) (A 190) (A 189) nP) (-1, A 206) mm); rw [← hbb, mbr_no (fun z => Int32.not_lt.mpr (by rw [← er_21]; exact c_76) z.2.2), hfA_15 206 (by omega)]) (fun i h1 h2 => by rw [hfA_15 i h1, hf i h1 h2]) (by omega) _ _ _ hM hl
                    · skip
                      refine lv_aload_n hx hb dX11_lets_79 rfl (lv_at hl 2 rfl) ?_
                      refine q_callVI (n := 0) (o := 188) (As := []) (rest := []) C hM hA (c_X11_givenSpoons E ad l S A_15 b nP hPo (by omega) (fun q hq => by rw [hrA_15 q hq]; exact mway_cw _ _ _)) (qmem_11 E ad S A_15 b (show qk 188 = 11 from by decide +kernel)) (by decide) rfl gX11_lets_X11_givenSpoons rfl rfl rfl (by decide +kernel) ⟨Nat.le_of_ble_eq_true rfl, Nat.le_of_ble_eq_true rfl⟩ rfl hl.1 rfl (Nat.le_of_ble_eq_true rfl) ⟨Nat.zero_le _, Nat.zero_le _⟩ dX11_lets_80 (fun r_25 S_26 A_27 b_28 H locs qr_25 hM => ?_)
                      obtain ⟨⟨e1, e2, e3⟩, er_25⟩ := qr_25
                      subst e1; subst e2; subst e3
                      rw [qspoons_cong hrA_15, show A_15 193 = A 193 from by rw [hfA_15 193 (by omega), hf 193 (by omega) (by omega), hfA_7 193 (by omega) (by omega)], show A_15 190 = A 190 from by rw [hfA_15 190 (by omega), hf 190 (by omega) (by omega), hfA_7 190 (by omega) (by omega)], show A_15 189 = A 189 from by rw [hfA_15 189 (by omega), hf 189 (by omega) (by omega), hfA_7 189 (by omega) (by omega)]] at er_25
                      refine lv_istore_n (lv' := [(3, .int r_25), (4, .int (nI mm)), (0, .ref (ad 188)), (1, .int (nI ka1)), (2, .int a2)]) hx hb dX11_lets_83 rfl hl (by decide) rfl (fun ls hl => ?_)
                      refine lv_iconst (v := 0) hx hb dX11_lets_84 (by decide) ?_
                      refine lv_istore (lv' := [(5, .int 0), (3, .int r_25), (4, .int (nI mm)), (0, .ref (ad 188)), (1, .int (nI ka1)), (2, .int a2)]) hx hb dX11_lets_85 hl (by decide) rfl (fun ls hl => ?_)
                      have loop87 : ∀ (fu : Nat) (k : Nat) (A87 : qA2) (hk : k ≤ nP) (hr3 : A87 206 = qmap (fun k _ => mway nP mm k) (A41 206) k) (hf3 : ∀ i, i ≠ 206 → A87 i = A_15 i), nP - k < fu → ∀ (H : Heap) (locs : List Loc) (ls : Array Slot), qM E ad S A87 b (qAr ad s.heap.size) s H locs → lv_has ls 6 [(5, .int (nI k)), (3, .int r_25), (4, .int (nI mm)), (0, .ref (ad 188)), (1, .int (nI ka1)), (2, .int a2)] → W pg l e (headSpec wsX11_lets { frames := 7, cells := 0, slots := 0, locals := 161 }).room s m ([.ref (ad 188), .int (nI ka1), .int a2] : List Value).toArray below meth cd H locs 0 0 (MQ below (qQi E ad s.heap.size (fun r S' A' b' => (S = S' ∧ b = b') ∧ ((r = (-1000000001) ∧ ¬ a2 = -1 ∧ qix a2 nP = none) ∨ ((a2 = -1 ∨ ∃ k, qix a2 nP = some k) ∧ r = (qir (nI ka1) 1 40).elim (-1000000002) (fun n => if (mfm nP nK (fun m2 => mopn nC nP nW (S 188 1) (S 188 2) (S 188 3) (A 191) (A 192) (A 193) n m2) (fun way => qspoons way (fun c => A 193 (25 + c)) (A 190) (A 189) nP) (-1, A 206) (6 ^ nP)).1 < 0 ∨ a2 = -1 then (mfm nP nK (fun m2 => mopn nC nP nW (S 188 1) (S 188 2) (S 188 3) (A 191) (A 192) (A 193) n m2) (fun way => qspoons way (fun c => A 193 (25 + c)) (A 190) (A 189) nP) (-1, A 206) (6 ^ nP)).1 else (mfm nP nK (fun m2 => mopn nC nP nW (S 188 1) (S 188 2) (S 188 3) (A 191) (A 192) (A 193) n m2) (fun way => qspoons way (fun c => A 193 (25 + c)) (A 190) (A 189) nP) (-1, A 206) (6 ^ nP)).2 a2.toNatClampNeg))) ∧ ∀ i, (i < 203 ∨ 206 < i) → A' i = A i)) ([.ref (ad 188), .int (nI ka1), .int a2] : List Value).toArray s 0 0 (qAr ad s.heap.size)) (F0 m 87 ls []) := by
                        intro fu
                        induction fu with
                        | zero => intro k A87 hk hr3 hf3 hn; exact absurd hn (Nat.not_lt_zero _)
                        | succ fu ih87 =>
                          intro k A87 hk hr3 hf3 hn H locs ls hM hl
                          refine lv_iload hx hb dX11_lets_87 (lv_at hl 0 rfl) ?_
                          refine lv_aload_n hx hb dX11_lets_89 rfl (lv_at hl 3 rfl) ?_
                          refine q_get (o := 188) (ci := 11) (k := 4) (T := TX11) (v := .int (S 188 4)) C hM (qmem_11 E ad S A87 b (show qk 188 = 11 from by decide +kernel)) (by decide) rfl hi11 (by decide) hL2 rfl rfl dX11_lets_90 ?_
                          refine lv_as (y := nI nP) hPo ?_
                          refine lv_icmp_ge (tgt := 116) hx hb dX11_lets_93 (by decide) (fun c_93 => ?_) (fun c_93 => ?_)
                          · skip
                            have c_93 : nP ≤ k := (nI_leI (a := nP) (b := k) (by omega) (by omega)).mp c_93
                            refine lv_iinc (v := nI (mm + 1)) (lv' := [(4, .int (nI (mm + 1))), (5, .int (nI k)), (3, .int r_25), (0, .ref (ad 188)), (1, .int (nI ka1)), (2, .int a2)]) hx hb dX11_lets_116 hl (k := 2) rfl (by rw [nI_succ]; rfl) (by decide) rfl (fun ls hl => ?_)
                            refine lv_goto (tgt := 41) hx hb dX11_lets_119 (by decide) ?_
                            exact ih41 r_25 (mm + 1) A87 (by omega) (by show (_, A87 206) = mbr nP nK _ _ mm (mfm nP nK (fun m2 => mopn nC nP nW (S 188 1) (S 188 2) (S 188 3) (A 191) (A 192) (A 193) ka1 m2) (fun way => qspoons way (fun c => A 193 (25 + c)) (A 190) (A 189) nP) (-1, A 206) mm); rw [← hbb, mbr_yes ⟨hgood, by rw [(show (qlets (mway nP mm) nP).toNatClampNeg = gs from by rw [egs]; exact nIc (by omega))]; rw [hO gs (by omega)] at c_68; exact q01_ne0.mp c_68, by rw [er_21] at c_76; exact Int32.not_le.mp c_76⟩, er_25, hr3, show k = nP by omega]) (fun i h1 h2 => by rw [hf3 i h2, hfA_15 i h1, hf i h1 h2]) (by omega) _ _ _ hM (lv_sub hl [0, 2, 3, 4, 5] rfl)
                          · skip
                            have c_93 : ¬ (nP ≤ k) := fun z => c_93 ((nI_leI (a := nP) (b := k) (by omega) (by omega)).mpr z)
                            refine lv_aload_n hx hb dX11_lets_96 rfl (lv_at hl 3 rfl) ?_
                            refine q_get (o := 188) (ci := 11) (k := 35) (T := TX11) (v := .ref (ad 206)) C hM (qmem_11 E ad S A87 b (show qk 188 = 11 from by decide +kernel)) (by decide) rfl hi11 (by decide) hL3 rfl rfl dX11_lets_97 ?_
                            refine lv_iload hx hb dX11_lets_100 (lv_at hl 0 rfl) ?_
                            refine lv_aload_n hx hb dX11_lets_102 rfl (lv_at hl 3 rfl) ?_
                            refine q_get (o := 188) (ci := 11) (k := 34) (T := TX11) (v := .ref (ad 205)) C hM (qmem_11 E ad S A87 b (show qk 188 = 11 from by decide +kernel)) (by decide) rfl hi11 (by decide) hL4 rfl rfl dX11_lets_103 ?_
                            refine lv_iload hx hb dX11_lets_106 (lv_at hl 0 rfl) ?_
                            refine q_iald (v := A_15 205 k) C hM (show qk 205 = 12 from by decide +kernel) (by rw [(show ql 205 = 6 from by decide +kernel)]; exact vp_nI (by omega) (by omega)) (by rw [nIc (by omega)]; exact (show A87 205 k = A_15 205 k from by rw [hf3 205 (by omega)])) dX11_lets_108 ?_
                            refine q_iast C hM (show qk 206 = 12 from by decide +kernel) (by rw [(show ql 206 = 6 from by decide +kernel)]; exact vp_nI (by omega) (by omega)) dX11_lets_109 (fun H locs hM => ?_)
                            rw [nIc (by omega)] at hM
                            obtain ⟨A_29, eA_29⟩ : ∃ zz, zz = q2 A87 206 k (A_15 205 k) := ⟨_, rfl⟩
                            rw [← eA_29] at hM
                            refine lv_iinc (v := nI (k + 1)) (lv' := [(5, .int (nI (k + 1))), (3, .int r_25), (4, .int (nI mm)), (0, .ref (ad 188)), (1, .int (nI ka1)), (2, .int a2)]) hx hb dX11_lets_110 hl (k := 0) rfl (by rw [nI_succ]; rfl) (by decide) rfl (fun ls hl => ?_)
                            refine lv_goto (tgt := 87) hx hb dX11_lets_113 (by decide) ?_
                            exact ih87 (k + 1) A_29 (by omega) (by rw [eA_29, q2_row, hr3]; exact qmap_s _ _ _ _ (hrA_15 k (by omega))) (by rw [eA_29]; exact qfr_up hf3) (by omega) _ _ _ hM hl
                      exact loop87 (nP - 0 + 1) 0 A_15 (by omega) (by rw [qmap_0, hfA_15 206 (by omega)]) (fun _ _ => rfl) (Nat.lt_succ_self _) _ _ _ hM hl
              · skip
                subst er_13
                refine lv_if_eq (tgt := 116) hx hb dX11_lets_56 (by decide) (fun c_56 => ?_) (fun c_56 => ?_)
                · skip
                  have c_56 : 0 = 0 := (nI_eq (a := 0) (b := 0) (by omega) (by omega)).mp c_56
                  refine lv_iinc (v := nI (mm + 1)) (lv' := [(4, .int (nI (mm + 1))), (3, .int mo), (0, .ref (ad 188)), (1, .int (nI ka1)), (2, .int a2)]) hx hb dX11_lets_116 hl (k := 0) rfl (by rw [nI_succ]; rfl) (by decide) rfl (fun ls hl => ?_)
                  refine lv_goto (tgt := 41) hx hb dX11_lets_119 (by decide) ?_
                  exact ih41 mo (mm + 1) A_15 (by omega) (by show (_, A_15 206) = mbr nP nK _ _ mm (mfm nP nK (fun m2 => mopn nC nP nW (S 188 1) (S 188 2) (S 188 3) (A 191) (A 192) (A 193) ka1 m2) (fun way => qspoons way (fun c => A 193 (25 + c)) (A 190) (A 189) nP) (-1, A 206) mm); rw [← hbb, mbr_no (fun z => hgood z.1), hfA_15 206 (by omega)]) (fun i h1 h2 => by rw [hfA_15 i h1, hf i h1 h2]) (by omega) _ _ _ hM hl
                · skip
                  have c_56 : ¬ (0 = 0) := fun z => c_56 ((nI_eq (a := 0) (b := 0) (by omega) (by omega)).mpr z)
                  exact absurd rfl c_56
        exact loop41 (6 ^ nP - 0 + 1) (-1) 0 A_7 (by omega) (by rw [hfA_7 206 (by omega) (by omega)]; rfl) (fun _ _ _ => rfl) (Nat.lt_succ_self _) _ _ _ hM hl
      · skip
        have c_25 : 1 = 0 := (nI_eq (a := 1) (b := 0) (by omega) (by omega)).mp c_25
        exact absurd c_25 (by decide)
    · skip
      rw [hzr_1] at er_1
      subst er_1
      refine lv_if_ne (tgt := 31) hx hb dX11_lets_25 (by decide) (fun c_25 => ?_) (fun c_25 => ?_)
      · skip
        have c_25 : ¬ (0 = 0) := fun z => c_25 ((nI_eq (a := 0) (b := 0) (by omega) (by omega)).mpr z)
        exact absurd rfl c_25
      · skip
        have c_25 : 0 = 0 := (nI_eq (a := 0) (b := 0) (by omega) (by omega)).mp c_25
        refine lv_ldc (v := (-1000000002)) hx hb C.2.2.2.1 hL5 dX11_lets_28 ?_
        exact q_iret C hM dX11_lets_30 (by exact ⟨⟨rfl, rfl⟩, Or.inr ⟨Or.inl c_2, by rw [qir_out hir_1]; rfl⟩, fun _ _ => rfl⟩)
  · skip
    refine lv_aload_n hx hb dX11_lets_5 rfl (lv_at hl 0 rfl) ?_
    refine lv_iload_n hx hb dX11_lets_6 rfl (lv_at hl 2 rfl) ?_
    refine q_callVI (n := 1) (o := 188) (As := [.int a2]) (rest := []) C hM hA (c_X11_isPost E ad l S A b a2 nP hPo (by omega)) (qmem_11 E ad S A b (show qk 188 = 11 from by decide +kernel)) (by decide) rfl gX11_lets_X11_isPost rfl rfl rfl (by decide +kernel) ⟨Nat.le_of_ble_eq_true rfl, Nat.le_of_ble_eq_true rfl⟩ rfl hl.1 rfl (Nat.le_of_ble_eq_true rfl) ⟨Nat.zero_le _, Nat.zero_le _⟩ dX11_lets_7 (fun r_30 S_31 A_32 b_33 H locs qr_30 hM => ?_)
    obtain ⟨⟨e1, e2, e3⟩, hDr_30⟩ := qr_30
    subst e1; subst e2; subst e3
    rcases hDr_30 with ⟨er_30, ka2, hka2, eka2⟩ | ⟨er_30, hnoa2⟩
    · skip
      subst er_30
      subst eka2
      refine lv_if_ne (tgt := 16) hx hb dX11_lets_10 (by decide) (fun c_10 => ?_) (fun c_10 => ?_)
      · skip
        have c_10 : ¬ (1 = 0) := fun z => c_10 ((nI_eq (a := 1) (b := 0) (by omega) (by omega)).mpr z)
        refine lv_iload_n hx hb dX11_lets_16 rfl (lv_at hl 1 rfl) ?_
        refine lv_i2l (v := (a1 : Int32).toInt64) hx hb dX11_lets_17 rfl ?_
        refine lv_lconst (v := 1) hx hb dX11_lets_18 rfl ?_
        refine lv_ldc2 (v := 40) hx hb C.2.2.2.1 hL0 dX11_lets_19 ?_
        refine q_callSI (n := 3) (As := [.long ((a1 : Int32).toInt64), .long 1, .long 40]) (rest := []) C hM hA (c_X11_in E ad l S A b ((a1 : Int32).toInt64) 1 40) gX11_lets_X11_in rfl rfl rfl (by decide +kernel) ⟨Nat.le_of_ble_eq_true rfl, Nat.le_of_ble_eq_true rfl⟩ rfl hl.1 rfl (Nat.le_of_ble_eq_true rfl) ⟨Nat.zero_le _, Nat.zero_le _⟩ dX11_lets_22 (fun r_34 S_35 A_36 b_37 H locs qr_34 hM => ?_)
        obtain ⟨⟨e1, e2, e3⟩, er_34⟩ := qr_34
        subst e1; subst e2; subst e3
        rw [q64 (x := a1) (lo := 1) (hi := 40) (by first | rfl | decide) (by first | rfl | decide)] at er_34
        rcases q01_cases (1 ≤ a1 ∧ a1 ≤ 40) with ⟨hzr_34, hir_34⟩ | ⟨hzr_34, hir_34⟩
        · skip
          rw [hzr_34] at er_34
          subst er_34
          obtain ⟨ka1, hloka1, hhika1, eka1⟩ := qin_of (l := 1) (h := 40) rfl rfl (by omega) (by omega) hir_34
          subst eka1
          refine lv_if_ne (tgt := 31) hx hb dX11_lets_25 (by decide) (fun c_25 => ?_) (fun c_25 => ?_)
          · skip
            have c_25 : ¬ (1 = 0) := fun z => c_25 ((nI_eq (a := 1) (b := 0) (by omega) (by omega)).mpr z)
            refine lv_aload_n hx hb dX11_lets_31 rfl (lv_at hl 0 rfl) ?_
            refine lv_iload_n hx hb dX11_lets_32 rfl (lv_at hl 1 rfl) ?_
            refine q_callVV (n := 1) (o := 188) (As := [.int (nI ka1)]) (rest := []) C hM hA (c_X11_findOpens E ad l S A b ka1 (by omega) nC hC (by omega) nP hPo (by omega) nW hWi (by omega) nH hH (by omega)) (qmem_11 E ad S A b (show qk 188 = 11 from by decide +kernel)) (by decide) rfl gX11_lets_X11_findOpens rfl rfl rfl (by decide +kernel) ⟨Nat.le_of_ble_eq_true rfl, Nat.le_of_ble_eq_true rfl⟩ rfl hl.1 rfl (Nat.le_of_ble_eq_true rfl) ⟨Nat.zero_le _, Nat.zero_le _⟩ dX11_lets_33 (fun S_39 A_40 b_41 H locs qr_38 hM => ?_)
            obtain ⟨⟨e1, e3⟩, hO, hfA_40⟩ := qr_38
            subst e1; subst e3
            refine lv_iconst (v := (-1)) hx hb dX11_lets_36 (by decide) ?_
            refine lv_istore_n (lv' := [(3, .int (-1)), (0, .ref (ad 188)), (1, .int (nI ka1)), (2, .int (nI ka2))]) hx hb dX11_lets_37 rfl hl (by decide) rfl (fun ls hl => ?_)
            refine lv_iconst (v := 0) hx hb dX11_lets_38 (by decide) ?_
            refine lv_istore (lv' := [(4, .int 0), (3, .int (-1)), (0, .ref (ad 188)), (1, .int (nI ka1)), (2, .int (nI ka2))]) hx hb dX11_lets_39 hl (by decide) rfl (fun ls hl => ?_)
            have loop41 : ∀ (fu : Nat) (mo : Int32) (mm : Nat) (A41 : qA2) (hm : mm ≤ 6 ^ nP) (hbb : (mo, A41 206) = mfm nP nK (fun m2 => mopn nC nP nW (S 188 1) (S 188 2) (S 188 3) (A 191) (A 192) (A 193) ka1 m2) (fun way => qspoons way (fun c => A 193 (25 + c)) (A 190) (A 189) nP) (-1, A 206) mm) (hf : ∀ i, i ≠ 205 → i ≠ 206 → A41 i = A_40 i), 6 ^ nP - mm < fu → ∀ (H : Heap) (locs : List Loc) (ls : Array Slot), qM E ad S A41 b (qAr ad s.heap.size) s H locs → lv_has ls 6 [(4, .int (nI mm)), (3, .int mo), (0, .ref (ad 188)), (1, .int (nI ka1)), (2, .int (nI ka2))] → W pg l e (headSpec wsX11_lets { frames := 7, cells := 0, slots := 0, locals := 161 }).room s m ([.ref (ad 188), .int (nI ka1), .int (nI ka2)] : List Value).toArray below meth cd H locs 0 0 (MQ below (qQi E ad s.heap.size (fun r S' A' b' => (S = S' ∧ b = b') ∧ ((r = (-1000000001) ∧ ¬ (nI ka2) = -1 ∧ qix (nI ka2) nP = none) ∨ (((nI ka2) = -1 ∨ ∃ k, qix (nI ka2) nP = some k) ∧ r = (qir (nI ka1) 1 40).elim (-1000000002) (fun n => if (mfm nP nK (fun m2 => mopn nC nP nW (S 188 1) (S 188 2) (S 188 3) (A 191) (A 192) (A 193) n m2) (fun way => qspoons way (fun c => A 193 (25 + c)) (A 190) (A 189) nP) (-1, A 206) (6 ^ nP)).1 < 0 ∨ (nI ka2) = -1 then (mfm nP nK (fun m2 => mopn nC nP nW (S 188 1) (S 188 2) (S 188 3) (A 191) (A 192) (A 193) n m2) (fun way => qspoons way (fun c => A 193 (25 + c)) (A 190) (A 189) nP) (-1, A 206) (6 ^ nP)).1 else (mfm nP nK (fun m2 => mopn nC nP nW (S 188 1) (S 188 2) (S 188 3) (A 191) (A 192) (A 193) n m2) (fun way => qspoons way (fun c => A 193 (25 + c)) (A 190) (A 189) nP) (-1, A 206) (6 ^ nP)).2 (nI ka2).toNatClampNeg))) ∧ ∀ i, (i < 203 ∨ 206 < i) → A' i = A i)) ([.ref (ad 188), .int (nI ka1), .int (nI ka2)] : List Value).toArray s 0 0 (qAr ad s.heap.size)) (F0 m 41 ls []) := by
              intro fu
              induction fu with
              | zero => intro mo mm A41 hm hbb hf hn; exact absurd hn (Nat.not_lt_zero _)
              | succ fu ih41 =>
                intro mo mm A41 hm hbb hf hn H locs ls hM hl
                refine lv_iload hx hb dX11_lets_41 (lv_at hl 0 rfl) ?_
                refine lv_aload_n hx hb dX11_lets_43 rfl (lv_at hl 2 rfl) ?_
                refine q_callVI (n := 0) (o := 188) (As := []) (rest := [.int (nI mm)]) C hM hA (c_X11_waysToLet E ad l S A41 b nP hPo (by omega)) (qmem_11 E ad S A41 b (show qk 188 = 11 from by decide +kernel)) (by decide) rfl gX11_lets_X11_waysToLet rfl rfl rfl (by decide +kernel) ⟨Nat.le_of_ble_eq_true rfl, Nat.le_of_ble_eq_true rfl⟩ rfl hl.1 rfl (Nat.le_of_ble_eq_true rfl) ⟨Nat.zero_le _, Nat.zero_le _⟩ dX11_lets_44 (fun r_42 S_43 A_44 b_45 H locs qr_42 hM => ?_)
                obtain ⟨⟨e1, e2, e3⟩, er_42⟩ := qr_42
                subst e1; subst e2; subst e3
                subst er_42
                refine lv_icmp_ge (tgt := 122) hx hb dX11_lets_47 (by decide) (fun c_47 => ?_) (fun c_47 => ?_)
                · skip
                  have c_47 : 6 ^ nP ≤ mm := (nI_leI (a := 6 ^ nP) (b := mm) (by omega) (by omega)).mp c_47
                  refine lv_iload_n hx hb dX11_lets_122 rfl (lv_at hl 1 rfl) ?_
                  refine lv_if_lt (tgt := 131) hx hb dX11_lets_123 (by decide) (fun c_123 => ?_) (fun c_123 => ?_)
                  · skip
                    refine lv_iload_n hx hb dX11_lets_131 rfl (lv_at hl 1 rfl) ?_
                    refine lv_goto (tgt := 141) hx hb dX11_lets_132 (by decide) ?_
                    exact q_iret C hM dX11_lets_141 (by have hbe : (mo, A41 206) = mfm nP nK (fun m2 => mopn nC nP nW (S 188 1) (S 188 2) (S 188 3) (A 191) (A 192) (A 193) ka1 m2) (fun way => qspoons way (fun c => A 193 (25 + c)) (A 190) (A 189) nP) (-1, A 206) (6 ^ nP) := (by rw [show 6 ^ nP = mm by omega]; exact hbb); exact ⟨⟨rfl, rfl⟩, Or.inr ⟨Or.inr ⟨ka2, qix_in hka2 (by omega)⟩, by rw [qir_in hloka1 hhika1 (by omega)]; dsimp only [Option.elim]; rw [← hbe]; exact (if_pos (Or.inl c_123)).symm⟩, fun i hi => by rw [hf i (by omega) (by omega), hfA_40 i (by omega) (by omega)]⟩)
                  · skip
                    refine lv_iload_n hx hb dX11_lets_126 rfl (lv_at hl 4 rfl) ?_
                    refine lv_iconst (v := (-1)) hx hb dX11_lets_127 (by decide) ?_
                    refine lv_icmp_ne (tgt := 135) hx hb dX11_lets_128 (by decide) (fun c_128 => ?_) (fun c_128 => ?_)
                    · skip
                      refine lv_aload_n hx hb dX11_lets_135 rfl (lv_at hl 2 rfl) ?_
                      refine q_get (o := 188) (ci := 11) (k := 35) (T := TX11) (v := .ref (ad 206)) C hM (qmem_11 E ad S A41 b (show qk 188 = 11 from by decide +kernel)) (by decide) rfl hi11 (by decide) hL3 rfl rfl dX11_lets_136 ?_
                      refine lv_iload_n hx hb dX11_lets_139 rfl (lv_at hl 4 rfl) ?_
                      refine q_iald (v := A41 206 ka2) C hM (show qk 206 = 12 from by decide +kernel) (by rw [(show ql 206 = 6 from by decide +kernel)]; exact vp_nI (by omega) (by omega)) (by rw [nIc (by omega)]) dX11_lets_140 ?_
                      exact q_iret C hM dX11_lets_141 (by have hbe : (mo, A41 206) = mfm nP nK (fun m2 => mopn nC nP nW (S 188 1) (S 188 2) (S 188 3) (A 191) (A 192) (A 193) ka1 m2) (fun way => qspoons way (fun c => A 193 (25 + c)) (A 190) (A 189) nP) (-1, A 206) (6 ^ nP) := (by rw [show 6 ^ nP = mm by omega]; exact hbb); exact ⟨⟨rfl, rfl⟩, Or.inr ⟨Or.inr ⟨ka2, qix_in hka2 (by omega)⟩, by rw [qir_in hloka1 hhika1 (by omega)]; dsimp only [Option.elim]; rw [← hbe, nIc (by omega)]; exact (if_neg (fun z => z.elim c_123 c_128)).symm⟩, fun i hi => by rw [hf i (by omega) (by omega), hfA_40 i (by omega) (by omega)]⟩)
                    · skip
                      exact absurd c_128 (nI_nm1 (by omega))
                · skip
                  have c_47 : ¬ (6 ^ nP ≤ mm) := fun z => c_47 ((nI_leI (a := 6 ^ nP) (b := mm) (by omega) (by omega)).mpr z)
                  refine lv_aload_n hx hb dX11_lets_50 rfl (lv_at hl 2 rfl) ?_
                  refine lv_iload hx hb dX11_lets_51 (lv_at hl 0 rfl) ?_
                  refine q_callVI (n := 1) (o := 188) (As := [.int (nI mm)]) (rest := []) C hM hA (c_X11_takeGiven E ad l S A41 b mm (by omega) nP hPo (by omega) nK hK (by omega)) (qmem_11 E ad S A41 b (show qk 188 = 11 from by decide +kernel)) (by decide) rfl gX11_lets_X11_takeGiven rfl rfl rfl (by decide +kernel) ⟨Nat.le_of_ble_eq_true rfl, Nat.le_of_ble_eq_true rfl⟩ rfl hl.1 rfl (Nat.le_of_ble_eq_true rfl) ⟨Nat.zero_le _, Nat.zero_le _⟩ dX11_lets_53 (fun r_46 S_47 A_48 b_49 H locs qr_46 hM => ?_)
                  obtain ⟨⟨e1, e3⟩, hDr_46, hrA_48, hfA_48⟩ := qr_46
                  subst e1; subst e3
                  rcases hDr_46 with ⟨er_46, hgood⟩ | ⟨er_46, hgood⟩
                  · skip
                    subst er_46
                    refine lv_if_eq (tgt := 116) hx hb dX11_lets_56 (by decide) (fun c_56 => ?_) (fun c_56 => ?_)
                    · skip
                      have c_56 : 1 = 0 := (nI_eq (a := 1) (b := 0) (by omega) (by omega)).mp c_56
                      exact absurd c_56 (by decide)
                    · skip
                      have c_56 : ¬ (1 = 0) := fun z => c_56 ((nI_eq (a := 1) (b := 0) (by omega) (by omega)).mpr z)
                      refine lv_aload_n hx hb dX11_lets_59 rfl (lv_at hl 2 rfl) ?_
                      refine q_get (o := 188) (ci := 11) (k := 33) (T := TX11) (v := .ref (ad 204)) C hM (qmem_11 E ad S A_48 b (show qk 188 = 11 from by decide +kernel)) (by decide) rfl hi11 (by decide) hL1 rfl rfl dX11_lets_60 ?_
                      refine lv_aload_n hx hb dX11_lets_63 rfl (lv_at hl 2 rfl) ?_
                      refine q_callVI (n := 0) (o := 188) (As := []) (rest := [.ref (ad 204)]) C hM hA (c_X11_givenSet E ad l S A_48 b nP hPo (by omega) (fun q hq => by rw [hrA_48 q hq]; exact mway_cw _ _ _)) (qmem_11 E ad S A_48 b (show qk 188 = 11 from by decide +kernel)) (by decide) rfl gX11_lets_X11_givenSet rfl rfl rfl (by decide +kernel) ⟨Nat.le_of_ble_eq_true rfl, Nat.le_of_ble_eq_true rfl⟩ rfl hl.1 rfl (Nat.le_of_ble_eq_true rfl) ⟨Nat.zero_le _, Nat.zero_le _⟩ dX11_lets_64 (fun r_50 S_51 A_52 b_53 H locs qr_50 hM => ?_)
                      obtain ⟨⟨e1, e2, e3⟩, er_50⟩ := qr_50
                      subst e1; subst e2; subst e3
                      obtain ⟨gs, hgs, egs⟩ := qlets_lt (f := mway nP mm) nP hPb
                      rw [qlets_cong hrA_48, egs] at er_50
                      subst er_50
                      refine q_zald (v := A_40 204 gs) C hM (show qk 204 = 13 from by decide +kernel) (by rw [(show ql 204 = 64 from by decide +kernel)]; exact vp_nI (by omega) (by omega)) (by rw [nIc (by omega)]; exact (show A_48 204 gs = A_40 204 gs from by rw [hfA_48 204 (by omega)]; rw [hf 204 (by omega) (by omega)])) dX11_lets_67 ?_
                      refine lv_if_eq (tgt := 116) hx hb dX11_lets_68 (by decide) (fun c_68 => ?_) (fun c_68 => ?_)
                      · skip
                        refine lv_iinc (v := nI (mm + 1)) (lv' := [(4, .int (nI (mm + 1))), (3, .int mo), (0, .ref (ad 188)), (1, .int (nI ka1)), (2, .int (nI ka2))]) hx hb dX11_lets_116 hl (k := 0) rfl (by rw [nI_succ]; rfl) (by decide) rfl (fun ls hl => ?_)
                        refine lv_goto (tgt := 41) hx hb dX11_lets_119 (by decide) ?_
                        exact ih41 mo (mm + 1) A_48 (by omega) (by show (_, A_48 206) = mbr nP nK _ _ mm (mfm nP nK (fun m2 => mopn nC nP nW (S 188 1) (S 188 2) (S 188 3) (A 191) (A 192) (A 193) ka1 m2) (fun way => qspoons way (fun c => A 193 (25 + c)) (A 190) (A 189) nP) (-1, A 206) mm); rw [← hbb, mbr_no (fun z => by have h2 := z.2.1; rw [(show (qlets (mway nP mm) nP).toNatClampNeg = gs from by rw [egs]; exact nIc (by omega))] at h2; rw [hO gs (by omega)] at c_68; exact (q01_eq0.mp c_68) h2), hfA_48 206 (by omega)]) (fun i h1 h2 => by rw [hfA_48 i h1, hf i h1 h2]) (by omega) _ _ _ hM hl
                      · skip
                        refine lv_aload_n hx hb dX11_lets_71 rfl (lv_at hl 2 rfl) ?_
                        refine q_callVI (n := 0) (o := 188) (As := []) (rest := []) C hM hA (c_X11_givenSpoons E ad l S A_48 b nP hPo (by omega) (fun q hq => by rw [hrA_48 q hq]; exact mway_cw _ _ _)) (qmem_11 E ad S A_48 b (show qk 188 = 11 from by decide +kernel)) (by decide) rfl gX11_lets_X11_givenSpoons rfl rfl rfl (by decide +kernel) ⟨Nat.le_of_ble_eq_true rfl, Nat.le_of_ble_eq_true rfl⟩ rfl hl.1 rfl (Nat.le_of_ble_eq_true rfl) ⟨Nat.zero_le _, Nat.zero_le _⟩ dX11_lets_72 (fun r_54 S_55 A_56 b_57 H locs qr_54 hM => ?_)
                        obtain ⟨⟨e1, e2, e3⟩, er_54⟩ := qr_54
                        subst e1; subst e2; subst e3
                        rw [qspoons_cong hrA_48, show A_48 193 = A 193 from by rw [hfA_48 193 (by omega), hf 193 (by omega) (by omega), hfA_40 193 (by omega) (by omega)], show A_48 190 = A 190 from by rw [hfA_48 190 (by omega), hf 190 (by omega) (by omega), hfA_40 190 (by omega) (by omega)], show A_48 189 = A 189 from by rw [hfA_48 189 (by omega), hf 189 (by omega) (by omega), hfA_40 189 (by omega) (by omega)]] at er_54
                        refine lv_iload_n hx hb dX11_lets_75 rfl (lv_at hl 1 rfl) ?_
                        refine lv_icmp_le (tgt := 116) hx hb dX11_lets_76 (by decide) (fun c_76 => ?_) (fun c_76 => ?_)
                        · skip
                          refine lv_iinc (v := nI (mm + 1)) (lv' := [(4, .int (nI (mm + 1))), (3, .int mo), (0, .ref (ad 188)), (1, .int (nI ka1)), (2, .int (nI ka2))]) hx hb dX11_lets_116 hl (k := 0) rfl (by rw [nI_succ]; rfl) (by decide) rfl (fun ls hl => ?_)
                          refine lv_goto (tgt := 41) hx hb dX11_lets_119 (by decide) ?_
                          exact ih41 mo (mm + 1) A_48 (by omega) (by show (_, A_48 206) = mbr nP nK _ _ mm (mfm nP nK (fun m2 => mopn nC nP nW (S 188 1) (S 188 2) (S 188 3) (A 191) (A 192) (A 193) ka1 m2) (fun way => qspoons way (fun c => A 193 (25 + c)) (A 190) (A 189) nP) (-1, A 206) mm); rw [← hbb, mbr_no (fun z => Int32.not_lt.mpr (by rw [← er_54]; exact c_76) z.2.2), hfA_48 206 (by omega)]) (fun i h1 h2 => by rw [hfA_48 i h1, hf i h1 h2]) (by omega) _ _ _ hM hl
                        · skip
                          refine lv_aload_n hx hb dX11_lets_79 rfl (lv_at hl 2 rfl) ?_
                          refine q_callVI (n := 0) (o := 188) (As := []) (rest := []) C hM hA (c_X11_givenSpoons E ad l S A_48 b nP hPo (by omega) (fun q hq => by rw [hrA_48 q hq]; exact mway_cw _ _ _)) (qmem_11 E ad S A_48 b (show qk 188 = 11 from by decide +kernel)) (by decide) rfl gX11_lets_X11_givenSpoons rfl rfl rfl (by decide +kernel) ⟨Nat.le_of_ble_eq_true rfl, Nat.le_of_ble_eq_true rfl⟩ rfl hl.1 rfl (Nat.le_of_ble_eq_true rfl) ⟨Nat.zero_le _, Nat.zero_le _⟩ dX11_lets_80 (fun r_58 S_59 A_60 b_61 H locs qr_58 hM => ?_)
                          obtain ⟨⟨e1, e2, e3⟩, er_58⟩ := qr_58
                          subst e1; subst e2; subst e3
                          rw [qspoons_cong hrA_48, show A_48 193 = A 193 from by rw [hfA_48 193 (by omega), hf 193 (by omega) (by omega), hfA_40 193 (by omega) (by omega)], show A_48 190 = A 190 from by rw [hfA_48 190 (by omega), hf 190 (by omega) (by omega), hfA_40 190 (by omega) (by omega)], show A_48 189 = A 189 from by rw [hfA_48 189 (by omega), hf 189 (by omega) (by omega), hfA_40 189 (by omega) (by omega)]] at er_58
                          refine lv_istore_n (lv' := [(3, .int r_58), (4, .int (nI mm)), (0, .ref (ad 188)), (1, .int (nI ka1)), (2, .int (nI ka2))]) hx hb dX11_lets_83 rfl hl (by decide) rfl (fun ls hl => ?_)
                          refine lv_iconst (v := 0) hx hb dX11_lets_84 (by decide) ?_
                          refine lv_istore (lv' := [(5, .int 0), (3, .int r_58), (4, .int (nI mm)), (0, .ref (ad 188)), (1, .int (nI ka1)), (2, .int (nI ka2))]) hx hb dX11_lets_85 hl (by decide) rfl (fun ls hl => ?_)
                          have loop87 : ∀ (fu : Nat) (k : Nat) (A87 : qA2) (hk : k ≤ nP) (hr3 : A87 206 = qmap (fun k _ => mway nP mm k) (A41 206) k) (hf3 : ∀ i, i ≠ 206 → A87 i = A_48 i), nP - k < fu → ∀ (H : Heap) (locs : List Loc) (ls : Array Slot), qM E ad S A87 b (qAr ad s.heap.size) s H locs → lv_has ls 6 [(5, .int (nI k)), (3, .int r_58), (4, .int (nI mm)), (0, .ref (ad 188)), (1, .int (nI ka1)), (2, .int (nI ka2))] → W pg l e (headSpec wsX11_lets { frames := 7, cells := 0, slots := 0, locals := 161 }).room s m ([.ref (ad 188), .int (nI ka1), .int (nI ka2)] : List Value).toArray below meth cd H locs 0 0 (MQ below (qQi E ad s.heap.size (fun r S' A' b' => (S = S' ∧ b = b') ∧ ((r = (-1000000001) ∧ ¬ (nI ka2) = -1 ∧ qix (nI ka2) nP = none) ∨ (((nI ka2) = -1 ∨ ∃ k, qix (nI ka2) nP = some k) ∧ r = (qir (nI ka1) 1 40).elim (-1000000002) (fun n => if (mfm nP nK (fun m2 => mopn nC nP nW (S 188 1) (S 188 2) (S 188 3) (A 191) (A 192) (A 193) n m2) (fun way => qspoons way (fun c => A 193 (25 + c)) (A 190) (A 189) nP) (-1, A 206) (6 ^ nP)).1 < 0 ∨ (nI ka2) = -1 then (mfm nP nK (fun m2 => mopn nC nP nW (S 188 1) (S 188 2) (S 188 3) (A 191) (A 192) (A 193) n m2) (fun way => qspoons way (fun c => A 193 (25 + c)) (A 190) (A 189) nP) (-1, A 206) (6 ^ nP)).1 else (mfm nP nK (fun m2 => mopn nC nP nW (S 188 1) (S 188 2) (S 188 3) (A 191) (A 192) (A 193) n m2) (fun way => qspoons way (fun c => A 193 (25 + c)) (A 190) (A 189) nP) (-1, A 206) (6 ^ nP)).2 (nI ka2).toNatClampNeg))) ∧ ∀ i, (i < 203 ∨ 206 < i) → A' i = A i)) ([.ref (ad 188), .int (nI ka1), .int (nI ka2)] : List Value).toArray s 0 0 (qAr ad s.heap.size)) (F0 m 87 ls []) := by
                            intro fu
                            induction fu with
                            | zero => intro k A87 hk hr3 hf3 hn; exact absurd hn (Nat.not_lt_zero _)
                            | succ fu ih87 =>
                              intro k A87 hk hr3 hf3 hn H locs ls hM hl
                              refine lv_iload hx hb dX11_lets_87 (lv_at hl 0 rfl) ?_
                              refine lv_aload_n hx hb dX11_lets_89 rfl (lv_at hl 3 rfl) ?_
                              refine q_get (o := 188) (ci := 11) (k := 4) (T := TX11) (v := .int (S 188 4)) C hM (qmem_11 E ad S A87 b (show qk 188 = 11 from by decide +kernel)) (by decide) rfl hi11 (by decide) hL2 rfl rfl dX11_lets_90 ?_
                              refine lv_as (y := nI nP) hPo ?_
                              refine lv_icmp_ge (tgt := 116) hx hb dX11_lets_93 (by decide) (fun c_93 => ?_) (fun c_93 => ?_)
                              · skip
                                have c_93 : nP ≤ k := (nI_leI (a := nP) (b := k) (by omega) (by omega)).mp c_93
                                refine lv_iinc (v := nI (mm + 1)) (lv' := [(4, .int (nI (mm + 1))), (5, .int (nI k)), (3, .int r_58), (0, .ref (ad 188)), (1, .int (nI ka1)), (2, .int (nI ka2))]) hx hb dX11_lets_116 hl (k := 2) rfl (by rw [nI_succ]; rfl) (by decide) rfl (fun ls hl => ?_)
                                refine lv_goto (tgt := 41) hx hb dX11_lets_119 (by decide) ?_
                                exact ih41 r_58 (mm + 1) A87 (by omega) (by show (_, A87 206) = mbr nP nK _ _ mm (mfm nP nK (fun m2 => mopn nC nP nW (S 188 1) (S 188 2) (S 188 3) (A 191) (A 192) (A 193) ka1 m2) (fun way => qspoons way (fun c => A 193 (25 + c)) (A 190) (A 189) nP) (-1, A 206) mm); rw [← hbb, mbr_yes ⟨hgood, by rw [(show (qlets (mway nP mm) nP).toNatClampNeg = gs from by rw [egs]; exact nIc (by omega))]; rw [hO gs (by omega)] at c_68; exact q01_ne0.mp c_68, by rw [er_54] at c_76; exact Int32.not_le.mp c_76⟩, er_58, hr3, show k = nP by omega]) (fun i h1 h2 => by rw [hf3 i h2, hfA_48 i h1, hf i h1 h2]) (by omega) _ _ _ hM (lv_sub hl [0, 2, 3, 4, 5] rfl)
                              · skip
                                have c_93 : ¬ (nP ≤ k) := fun z => c_93 ((nI_leI (a := nP) (b := k) (by omega) (by omega)).mpr z)
                                refine lv_aload_n hx hb dX11_lets_96 rfl (lv_at hl 3 rfl) ?_
                                refine q_get (o := 188) (ci := 11) (k := 35) (T := TX11) (v := .ref (ad 206)) C hM (qmem_11 E ad S A87 b (show qk 188 = 11 from by decide +kernel)) (by decide) rfl hi11 (by decide) hL3 rfl rfl dX11_lets_97 ?_
                                refine lv_iload hx hb dX11_lets_100 (lv_at hl 0 rfl) ?_
                                refine lv_aload_n hx hb dX11_lets_102 rfl (lv_at hl 3 rfl) ?_
                                refine q_get (o := 188) (ci := 11) (k := 34) (T := TX11) (v := .ref (ad 205)) C hM (qmem_11 E ad S A87 b (show qk 188 = 11 from by decide +kernel)) (by decide) rfl hi11 (by decide) hL4 rfl rfl dX11_lets_103 ?_
                                refine lv_iload hx hb dX11_lets_106 (lv_at hl 0 rfl) ?_
                                refine q_iald (v := A_48 205 k) C hM (show qk 205 = 12 from by decide +kernel) (by rw [(show ql 205 = 6 from by decide +kernel)]; exact vp_nI (by omega) (by omega)) (by rw [nIc (by omega)]; exact (show A87 205 k = A_48 205 k from by rw [hf3 205 (by omega)])) dX11_lets_108 ?_
                                refine q_iast C hM (show qk 206 = 12 from by decide +kernel) (by rw [(show ql 206 = 6 from by decide +kernel)]; exact vp_nI (by omega) (by omega)) dX11_lets_109 (fun H locs hM => ?_)
                                rw [nIc (by omega)] at hM
                                obtain ⟨A_62, eA_62⟩ : ∃ zz, zz = q2 A87 206 k (A_48 205 k) := ⟨_, rfl⟩
                                rw [← eA_62] at hM
                                refine lv_iinc (v := nI (k + 1)) (lv' := [(5, .int (nI (k + 1))), (3, .int r_58), (4, .int (nI mm)), (0, .ref (ad 188)), (1, .int (nI ka1)), (2, .int (nI ka2))]) hx hb dX11_lets_110 hl (k := 0) rfl (by rw [nI_succ]; rfl) (by decide) rfl (fun ls hl => ?_)
                                refine lv_goto (tgt := 87) hx hb dX11_lets_113 (by decide) ?_
                                exact ih87 (k + 1) A_62 (by omega) (by rw [eA_62, q2_row, hr3]; exact qmap_s _ _ _ _ (hrA_48 k (by omega))) (by rw [eA_62]; exact qfr_up hf3) (by omega) _ _ _ hM hl
                          exact loop87 (nP - 0 + 1) 0 A_48 (by omega) (by rw [qmap_0, hfA_48 206 (by omega)]) (fun _ _ => rfl) (Nat.lt_succ_self _) _ _ _ hM hl
                  · skip
                    subst er_46
                    refine lv_if_eq (tgt := 116) hx hb dX11_lets_56 (by decide) (fun c_56 => ?_) (fun c_56 => ?_)
                    · skip
                      have c_56 : 0 = 0 := (nI_eq (a := 0) (b := 0) (by omega) (by omega)).mp c_56
                      refine lv_iinc (v := nI (mm + 1)) (lv' := [(4, .int (nI (mm + 1))), (3, .int mo), (0, .ref (ad 188)), (1, .int (nI ka1)), (2, .int (nI ka2))]) hx hb dX11_lets_116 hl (k := 0) rfl (by rw [nI_succ]; rfl) (by decide) rfl (fun ls hl => ?_)
                      refine lv_goto (tgt := 41) hx hb dX11_lets_119 (by decide) ?_
                      exact ih41 mo (mm + 1) A_48 (by omega) (by show (_, A_48 206) = mbr nP nK _ _ mm (mfm nP nK (fun m2 => mopn nC nP nW (S 188 1) (S 188 2) (S 188 3) (A 191) (A 192) (A 193) ka1 m2) (fun way => qspoons way (fun c => A 193 (25 + c)) (A 190) (A 189) nP) (-1, A 206) mm); rw [← hbb, mbr_no (fun z => hgood z.1), hfA_48 206 (by omega)]) (fun i h1 h2 => by rw [hfA_48 i h1, hf i h1 h2]) (by omega) _ _ _ hM hl
                    · skip
                      have c_56 : ¬ (0 = 0) := fun z => c_56 ((nI_eq (a := 0) (b := 0) (by omega) (by omega)).mpr z)
                      exact absurd rfl c_56
            exact loop41 (6 ^ nP - 0 + 1) (-1) 0 A_40 (by omega) (by rw [hfA_40 206 (by omega) (by omega)]; rfl) (fun _ _ _ => rfl) (Nat.lt_succ_self _) _ _ _ hM hl
          · skip
            have c_25 : 1 = 0 := (nI_eq (a := 1) (b := 0) (by omega) (by omega)).mp c_25
            exact absurd c_25 (by decide)
        · skip
          rw [hzr_34] at er_34
          subst er_34
          refine lv_if_ne (tgt := 31) hx hb dX11_lets_25 (by decide) (fun c_25 => ?_) (fun c_25 => ?_)
          · skip
            have c_25 : ¬ (0 = 0) := fun z => c_25 ((nI_eq (a := 0) (b := 0) (by omega) (by omega)).mpr z)
            exact absurd rfl c_25
          · skip
            have c_25 : 0 = 0 := (nI_eq (a := 0) (b := 0) (by omega) (by omega)).mp c_25
            refine lv_ldc (v := (-1000000002)) hx hb C.2.2.2.1 hL5 dX11_lets_28 ?_
            exact q_iret C hM dX11_lets_30 (by exact ⟨⟨rfl, rfl⟩, Or.inr ⟨Or.inr ⟨ka2, qix_in hka2 (by omega)⟩, by rw [qir_out hir_34]; rfl⟩, fun _ _ => rfl⟩)
      · skip
        have c_10 : 1 = 0 := (nI_eq (a := 1) (b := 0) (by omega) (by omega)).mp c_10
        exact absurd c_10 (by decide)
    · skip
      subst er_30
      refine lv_if_ne (tgt := 16) hx hb dX11_lets_10 (by decide) (fun c_10 => ?_) (fun c_10 => ?_)
      · skip
        have c_10 : ¬ (0 = 0) := fun z => c_10 ((nI_eq (a := 0) (b := 0) (by omega) (by omega)).mpr z)
        exact absurd rfl c_10
      · skip
        have c_10 : 0 = 0 := (nI_eq (a := 0) (b := 0) (by omega) (by omega)).mp c_10
        refine lv_ldc (v := (-1000000001)) hx hb C.2.2.2.1 hL6 dX11_lets_13 ?_
        exact q_iret C hM dX11_lets_15 (by exact ⟨⟨rfl, rfl⟩, Or.inl ⟨rfl, c_2, qix_out (by omega) hnoa2⟩, fun _ _ => rfl⟩)

set_option maxHeartbeats 4000000 in
set_option maxRecDepth 100000 in
theorem c_X11_fit (E : qE) (ad : Nat → Nat) (l : Launch) (S A : qA2) (b : qB) (a1 : Int32) (nP : Nat) (hPo : S 188 4 = nI nP) (hPb : nP ≤ 6) (nK : Nat) (hK : S 188 6 = nI nK) (hKb : nK ≤ 5) (nS : Nat) (hS : S 188 36 = nI nS) (hSb : nS ≤ 6) (sp : Nat → Nat) (hsp : ∀ k, k < nS → A 208 k = nI (sp k) ∧ sp k < 6) : MI E ad l yX11_fit wsX11_fit { frames := 2, cells := 0, slots := 0, locals := 47 } [.ref (ad 188), .int a1] S A b (fun r S' A' b' => (S = S' ∧ b = b') ∧ r = (qir a1 0 1).elim (-1000000002) (fun w => if w = 0 then (mfw nP nK (fun way => qfits nP (fun p => qsat (A 207) sp p nS) (qsall (A 207) nS) way) (0, qmap (fun _ _ => 0) (A 209) 6) (6 ^ nP)).1 else (qlook (fun k => qsum (fun j => qtb ((mfw nP nK (fun way => qfits nP (fun p => qsat (A 207) sp p nS) (qsall (A 207) nS) way) (0, qmap (fun _ _ => 0) (A 209) 6) (6 ^ nP)).2 k) (nI j)) 6) nP).1) ∧ ∀ i, i ≠ 205 → i ≠ 209 → A' i = A i) := by
  have h6p := q6p hPb
  refine MI.of (cc := cX11_fit) (maxL := 6) (ret := some .int) RX11 rfl (by decide) rfl ?_
  intro pg e s m below meth cd C hM
  have hx := C.1
  have hb := C.2.1
  have hts := C.2.2.2.2.1
  have hA : ∀ q, s.heap.size ≤ q → qAr ad s.heap.size q := fun _ h => Or.inr h
  have hi11 : ∀ w ∈ u_ws RX11 TX11 45, w ∈ wsX11_fit := by decide +kernel
  have hL0 := hts (.fieldLink RX11 97 "CrowFencesModel" "posts" "I") (by decide +kernel)
  have hL1 := hts (.fieldLink RX11 75 "CrowFencesModel" "can" "[I") (by decide +kernel)
  have hL2 := hts (.fieldLink RX11 63 "CrowFencesModel" "given" "[I") (by decide +kernel)
  have hL3 := hts (.constant RX11 105 (-1000000002)) (by decide +kernel)
  have hl := lv_entry ([.ref (ad 188), .int a1]) (n := 6) (Nat.le_of_ble_eq_true rfl)
  rw [lg_entry_eq]
  generalize (lg_sl ([.ref (ad 188), .int a1]) ++ List.replicate (6 - (lg_sl ([.ref (ad 188), .int a1])).length) Slot.unset).toArray = ls at hl ⊢
  have hl : lv_has ls 6 [(0, .ref (ad 188)), (1, .int a1)] := hl
  refine lv_iload_n hx hb dX11_fit_0 rfl (lv_at hl 1 rfl) ?_
  refine lv_i2l (v := (a1 : Int32).toInt64) hx hb dX11_fit_1 rfl ?_
  refine lv_lconst (v := 0) hx hb dX11_fit_2 rfl ?_
  refine lv_lconst (v := 1) hx hb dX11_fit_3 rfl ?_
  refine q_callSI (n := 3) (As := [.long ((a1 : Int32).toInt64), .long 0, .long 1]) (rest := []) C hM hA (c_X11_in E ad l S A b ((a1 : Int32).toInt64) 0 1) gX11_fit_X11_in rfl rfl rfl (by decide +kernel) ⟨Nat.le_of_ble_eq_true rfl, Nat.le_of_ble_eq_true rfl⟩ rfl hl.1 rfl (Nat.le_of_ble_eq_true rfl) ⟨Nat.zero_le _, Nat.zero_le _⟩ dX11_fit_4 (fun r_1 S_2 A_3 b_4 H locs qr_1 hM => ?_)
  obtain ⟨⟨e1, e2, e3⟩, er_1⟩ := qr_1
  subst e1; subst e2; subst e3
  rw [q64 (x := a1) (lo := 0) (hi := 1) (by first | rfl | decide) (by first | rfl | decide)] at er_1
  rcases q01_cases (0 ≤ a1 ∧ a1 ≤ 1) with ⟨hzr_1, hir_1⟩ | ⟨hzr_1, hir_1⟩
  · skip
    rw [hzr_1] at er_1
    subst er_1
    obtain ⟨ka1, hloka1, hhika1, eka1⟩ := qin_of (l := 0) (h := 1) rfl rfl (by omega) (by omega) hir_1
    subst eka1
    refine lv_if_ne (tgt := 13) hx hb dX11_fit_7 (by decide) (fun c_7 => ?_) (fun c_7 => ?_)
    · skip
      have c_7 : ¬ (1 = 0) := fun z => c_7 ((nI_eq (a := 1) (b := 0) (by omega) (by omega)).mpr z)
      refine lv_iconst (v := 0) hx hb dX11_fit_13 (by decide) ?_
      refine lv_istore_n (lv' := [(2, .int 0), (0, .ref (ad 188)), (1, .int (nI ka1))]) hx hb dX11_fit_14 rfl hl (by decide) rfl (fun ls hl => ?_)
      have loop15 : ∀ (fu : Nat) (k : Nat) (A15 : qA2) (hk : k ≤ 6) (hr0 : A15 209 = qmap (fun _ _ => 0) (A 209) k) (hf0 : ∀ i, i ≠ 209 → A15 i = A i), 6 - k < fu → ∀ (H : Heap) (locs : List Loc) (ls : Array Slot), qM E ad S A15 b (qAr ad s.heap.size) s H locs → lv_has ls 6 [(2, .int (nI k)), (0, .ref (ad 188)), (1, .int (nI ka1))] → W pg l e (headSpec wsX11_fit { frames := 2, cells := 0, slots := 0, locals := 47 }).room s m ([.ref (ad 188), .int (nI ka1)] : List Value).toArray below meth cd H locs 0 0 (MQ below (qQi E ad s.heap.size (fun r S' A' b' => (S = S' ∧ b = b') ∧ r = (qir (nI ka1) 0 1).elim (-1000000002) (fun w => if w = 0 then (mfw nP nK (fun way => qfits nP (fun p => qsat (A 207) sp p nS) (qsall (A 207) nS) way) (0, qmap (fun _ _ => 0) (A 209) 6) (6 ^ nP)).1 else (qlook (fun k => qsum (fun j => qtb ((mfw nP nK (fun way => qfits nP (fun p => qsat (A 207) sp p nS) (qsall (A 207) nS) way) (0, qmap (fun _ _ => 0) (A 209) 6) (6 ^ nP)).2 k) (nI j)) 6) nP).1) ∧ ∀ i, i ≠ 205 → i ≠ 209 → A' i = A i)) ([.ref (ad 188), .int (nI ka1)] : List Value).toArray s 0 0 (qAr ad s.heap.size)) (F0 m 15 ls []) := by
        intro fu
        induction fu with
        | zero => intro k A15 hk hr0 hf0 hn; exact absurd hn (Nat.not_lt_zero _)
        | succ fu ih15 =>
          intro k A15 hk hr0 hf0 hn H locs ls hM hl
          refine lv_iload_n hx hb dX11_fit_15 rfl (lv_at hl 0 rfl) ?_
          refine lv_bipush (v := 6) hx hb dX11_fit_16 (by decide) ?_
          refine lv_icmp_ge (tgt := 34) hx hb dX11_fit_18 (by decide) (fun c_18 => ?_) (fun c_18 => ?_)
          · skip
            have c_18 : 6 ≤ k := (nI_leI (a := 6) (b := k) (by omega) (by omega)).mp c_18
            refine lv_iconst (v := 0) hx hb dX11_fit_34 (by decide) ?_
            refine lv_istore_n (lv' := [(2, .int 0), (0, .ref (ad 188)), (1, .int (nI ka1))]) hx hb dX11_fit_35 rfl hl (by decide) rfl (fun ls hl => ?_)
            refine lv_iconst (v := 0) hx hb dX11_fit_36 (by decide) ?_
            refine lv_istore_n (lv' := [(3, .int 0), (2, .int 0), (0, .ref (ad 188)), (1, .int (nI ka1))]) hx hb dX11_fit_37 rfl hl (by decide) rfl (fun ls hl => ?_)
            have loop38 : ∀ (fu : Nat) (n : Int32) (mm : Nat) (A38 : qA2) (hm : mm ≤ 6 ^ nP) (hbb : (n, A38 209) = mfw nP nK (fun way => qfits nP (fun p => qsat (A 207) sp p nS) (qsall (A 207) nS) way) (0, qmap (fun _ _ => 0) (A 209) 6) mm) (hf : ∀ i, i ≠ 205 → i ≠ 209 → A38 i = A15 i), 6 ^ nP - mm < fu → ∀ (H : Heap) (locs : List Loc) (ls : Array Slot), qM E ad S A38 b (qAr ad s.heap.size) s H locs → lv_has ls 6 [(3, .int (nI mm)), (2, .int n), (0, .ref (ad 188)), (1, .int (nI ka1))] → W pg l e (headSpec wsX11_fit { frames := 2, cells := 0, slots := 0, locals := 47 }).room s m ([.ref (ad 188), .int (nI ka1)] : List Value).toArray below meth cd H locs 0 0 (MQ below (qQi E ad s.heap.size (fun r S' A' b' => (S = S' ∧ b = b') ∧ r = (qir (nI ka1) 0 1).elim (-1000000002) (fun w => if w = 0 then (mfw nP nK (fun way => qfits nP (fun p => qsat (A 207) sp p nS) (qsall (A 207) nS) way) (0, qmap (fun _ _ => 0) (A 209) 6) (6 ^ nP)).1 else (qlook (fun k => qsum (fun j => qtb ((mfw nP nK (fun way => qfits nP (fun p => qsat (A 207) sp p nS) (qsall (A 207) nS) way) (0, qmap (fun _ _ => 0) (A 209) 6) (6 ^ nP)).2 k) (nI j)) 6) nP).1) ∧ ∀ i, i ≠ 205 → i ≠ 209 → A' i = A i)) ([.ref (ad 188), .int (nI ka1)] : List Value).toArray s 0 0 (qAr ad s.heap.size)) (F0 m 38 ls []) := by
              intro fu
              induction fu with
              | zero => intro n mm A38 hm hbb hf hn; exact absurd hn (Nat.not_lt_zero _)
              | succ fu ih38 =>
                intro n mm A38 hm hbb hf hn H locs ls hM hl
                refine lv_iload_n hx hb dX11_fit_38 rfl (lv_at hl 0 rfl) ?_
                refine lv_aload_n hx hb dX11_fit_39 rfl (lv_at hl 2 rfl) ?_
                refine q_callVI (n := 0) (o := 188) (As := []) (rest := [.int (nI mm)]) C hM hA (c_X11_waysToLet E ad l S A38 b nP hPo (by omega)) (qmem_11 E ad S A38 b (show qk 188 = 11 from by decide +kernel)) (by decide) rfl gX11_fit_X11_waysToLet rfl rfl rfl (by decide +kernel) ⟨Nat.le_of_ble_eq_true rfl, Nat.le_of_ble_eq_true rfl⟩ rfl hl.1 rfl (Nat.le_of_ble_eq_true rfl) ⟨Nat.zero_le _, Nat.zero_le _⟩ dX11_fit_40 (fun r_5 S_6 A_7 b_8 H locs qr_5 hM => ?_)
                obtain ⟨⟨e1, e2, e3⟩, er_5⟩ := qr_5
                subst e1; subst e2; subst e3
                subst er_5
                refine lv_icmp_ge (tgt := 121) hx hb dX11_fit_43 (by decide) (fun c_43 => ?_) (fun c_43 => ?_)
                · skip
                  have c_43 : 6 ^ nP ≤ mm := (nI_leI (a := 6 ^ nP) (b := mm) (by omega) (by omega)).mp c_43
                  refine lv_iload_n hx hb dX11_fit_121 rfl (lv_at hl 3 rfl) ?_
                  refine lv_if_ne (tgt := 127) hx hb dX11_fit_122 (by decide) (fun c_122 => ?_) (fun c_122 => ?_)
                  · skip
                    have c_122 : ¬ (ka1 = 0) := fun z => c_122 ((nI_eq (a := ka1) (b := 0) (by omega) (by omega)).mpr z)
                    refine lv_iconst (v := (-1)) hx hb dX11_fit_127 (by decide) ?_
                    refine lv_istore_n (lv' := [(3, .int (-1)), (2, .int n), (0, .ref (ad 188)), (1, .int (nI ka1))]) hx hb dX11_fit_128 rfl hl (by decide) rfl (fun ls hl => ?_)
                    refine lv_iconst (v := 0) hx hb dX11_fit_129 (by decide) ?_
                    refine lv_istore (lv' := [(4, .int 0), (3, .int (-1)), (2, .int n), (0, .ref (ad 188)), (1, .int (nI ka1))]) hx hb dX11_fit_130 hl (by decide) rfl (fun ls hl => ?_)
                    refine lv_iconst (v := 0) hx hb dX11_fit_132 (by decide) ?_
                    refine lv_istore (lv' := [(5, .int 0), (4, .int 0), (3, .int (-1)), (2, .int n), (0, .ref (ad 188)), (1, .int (nI ka1))]) hx hb dX11_fit_133 hl (by decide) rfl (fun ls hl => ?_)
                    have loop135 : ∀ (fu : Nat) (be : Int32) (mo : Int32) (k : Nat) (hk2 : k ≤ nP) (hl2 : (be, mo) = qlook (fun k => qsum (fun j => qtb (A38 209 k) (nI j)) 6) k), nP - k < fu → ∀ (H : Heap) (locs : List Loc) (ls : Array Slot), qM E ad S A38 b (qAr ad s.heap.size) s H locs → lv_has ls 6 [(5, .int (nI k)), (4, .int mo), (3, .int be), (0, .ref (ad 188))] → W pg l e (headSpec wsX11_fit { frames := 2, cells := 0, slots := 0, locals := 47 }).room s m ([.ref (ad 188), .int (nI ka1)] : List Value).toArray below meth cd H locs 0 0 (MQ below (qQi E ad s.heap.size (fun r S' A' b' => (S = S' ∧ b = b') ∧ r = (qir (nI ka1) 0 1).elim (-1000000002) (fun w => if w = 0 then (mfw nP nK (fun way => qfits nP (fun p => qsat (A 207) sp p nS) (qsall (A 207) nS) way) (0, qmap (fun _ _ => 0) (A 209) 6) (6 ^ nP)).1 else (qlook (fun k => qsum (fun j => qtb ((mfw nP nK (fun way => qfits nP (fun p => qsat (A 207) sp p nS) (qsall (A 207) nS) way) (0, qmap (fun _ _ => 0) (A 209) 6) (6 ^ nP)).2 k) (nI j)) 6) nP).1) ∧ ∀ i, i ≠ 205 → i ≠ 209 → A' i = A i)) ([.ref (ad 188), .int (nI ka1)] : List Value).toArray s 0 0 (qAr ad s.heap.size)) (F0 m 135 ls []) := by
                      intro fu
                      induction fu with
                      | zero => intro be mo k hk2 hl2 hn; exact absurd hn (Nat.not_lt_zero _)
                      | succ fu ih135 =>
                        intro be mo k hk2 hl2 hn H locs ls hM hl
                        refine lv_iload hx hb dX11_fit_135 (lv_at hl 0 rfl) ?_
                        refine lv_aload_n hx hb dX11_fit_137 rfl (lv_at hl 3 rfl) ?_
                        refine q_get (o := 188) (ci := 11) (k := 4) (T := TX11) (v := .int (S 188 4)) C hM (qmem_11 E ad S A38 b (show qk 188 = 11 from by decide +kernel)) (by decide) rfl hi11 (by decide) hL0 rfl rfl dX11_fit_138 ?_
                        refine lv_as (y := nI nP) hPo ?_
                        refine lv_icmp_ge (tgt := 204) hx hb dX11_fit_141 (by decide) (fun c_141 => ?_) (fun c_141 => ?_)
                        · skip
                          have c_141 : nP ≤ k := (nI_leI (a := nP) (b := k) (by omega) (by omega)).mp c_141
                          refine lv_iload_n hx hb dX11_fit_204 rfl (lv_at hl 2 rfl) ?_
                          exact q_iret C hM dX11_fit_205 (by have hbe : (n, A38 209) = mfw nP nK (fun way => qfits nP (fun p => qsat (A 207) sp p nS) (qsall (A 207) nS) way) (0, qmap (fun _ _ => 0) (A 209) 6) (6 ^ nP) := (by rw [show 6 ^ nP = mm by omega]; exact hbb); rw [qir_in hloka1 hhika1 (by omega)]; exact ⟨⟨rfl, rfl⟩, by dsimp only [Option.elim]; rw [if_neg c_122, ← hbe, show nP = k by omega, ← hl2], fun i h1 h2 => by rw [hf i h1 h2, hf0 i h2]⟩)
                        · skip
                          have c_141 : ¬ (nP ≤ k) := fun z => c_141 ((nI_leI (a := nP) (b := k) (by omega) (by omega)).mpr z)
                          refine lv_aload_n hx hb dX11_fit_144 rfl (lv_at hl 3 rfl) ?_
                          refine q_get (o := 188) (ci := 11) (k := 39) (T := TX11) (v := .ref (ad 209)) C hM (qmem_11 E ad S A38 b (show qk 188 = 11 from by decide +kernel)) (by decide) rfl hi11 (by decide) hL1 rfl rfl dX11_fit_145 ?_
                          refine lv_iload hx hb dX11_fit_148 (lv_at hl 0 rfl) ?_
                          refine q_iald (v := A38 209 k) C hM (show qk 209 = 12 from by decide +kernel) (by rw [(show ql 209 = 6 from by decide +kernel)]; exact vp_nI (by omega) (by omega)) (by rw [nIc (by omega)]) dX11_fit_150 ?_
                          refine q_callSI (n := 1) (As := [.int (A38 209 k)]) (rest := []) C hM hA (c_X11_bits E ad l S A38 b (A38 209 k)) gX11_fit_X11_bits rfl rfl rfl (by decide +kernel) ⟨Nat.le_of_ble_eq_true rfl, Nat.le_of_ble_eq_true rfl⟩ rfl hl.1 rfl (Nat.le_of_ble_eq_true rfl) ⟨Nat.zero_le _, Nat.zero_le _⟩ dX11_fit_151 (fun r_9 S_10 A_11 b_12 H locs qr_9 hM => ?_)
                          obtain ⟨⟨e1, e2, e3⟩, er_9⟩ := qr_9
                          subst e1; subst e2; subst e3
                          refine lv_iload hx hb dX11_fit_154 (lv_at hl 1 rfl) ?_
                          refine lv_icmp_le (tgt := 164) hx hb dX11_fit_156 (by decide) (fun c_156 => ?_) (fun c_156 => ?_)
                          · skip
                            refine lv_iload_n hx hb dX11_fit_164 rfl (lv_at hl 2 rfl) ?_
                            refine lv_istore_n (lv' := [(3, .int be), (5, .int (nI k)), (4, .int mo), (0, .ref (ad 188))]) hx hb dX11_fit_165 rfl hl (by decide) rfl (fun ls hl => ?_)
                            refine lv_aload_n hx hb dX11_fit_166 rfl (lv_at hl 3 rfl) ?_
                            refine q_get (o := 188) (ci := 11) (k := 39) (T := TX11) (v := .ref (ad 209)) C hM (qmem_11 E ad S A38 b (show qk 188 = 11 from by decide +kernel)) (by decide) rfl hi11 (by decide) hL1 rfl rfl dX11_fit_167 ?_
                            refine lv_iload hx hb dX11_fit_170 (lv_at hl 1 rfl) ?_
                            refine q_iald (v := A38 209 k) C hM (show qk 209 = 12 from by decide +kernel) (by rw [(show ql 209 = 6 from by decide +kernel)]; exact vp_nI (by omega) (by omega)) (by rw [nIc (by omega)]) dX11_fit_172 ?_
                            refine q_callSI (n := 1) (As := [.int (A38 209 k)]) (rest := []) C hM hA (c_X11_bits E ad l S A38 b (A38 209 k)) gX11_fit_X11_bits rfl rfl rfl (by decide +kernel) ⟨Nat.le_of_ble_eq_true rfl, Nat.le_of_ble_eq_true rfl⟩ rfl hl.1 rfl (Nat.le_of_ble_eq_true rfl) ⟨Nat.zero_le _, Nat.zero_le _⟩ dX11_fit_173 (fun r_13 S_14 A_15 b_16 H locs qr_13 hM => ?_)
                            obtain ⟨⟨e1, e2, e3⟩, er_13⟩ := qr_13
                            subst e1; subst e2; subst e3
                            refine lv_iload hx hb dX11_fit_176 (lv_at hl 2 rfl) ?_
                            refine lv_icmp_le (tgt := 194) hx hb dX11_fit_178 (by decide) (fun c_178 => ?_) (fun c_178 => ?_)
                            · skip
                              refine lv_iload hx hb dX11_fit_194 (lv_at hl 2 rfl) ?_
                              refine lv_istore (lv' := [(4, .int mo), (3, .int be), (5, .int (nI k)), (0, .ref (ad 188))]) hx hb dX11_fit_196 hl (by decide) rfl (fun ls hl => ?_)
                              refine lv_iinc (v := nI (k + 1)) (lv' := [(5, .int (nI (k + 1))), (4, .int mo), (3, .int be), (0, .ref (ad 188))]) hx hb dX11_fit_198 hl (k := 2) rfl (by rw [nI_succ]; rfl) (by decide) rfl (fun ls hl => ?_)
                              refine lv_goto (tgt := 135) hx hb dX11_fit_201 (by decide) ?_
                              exact ih135 be mo (k + 1) (by omega) (by rw [er_9] at c_156; simp only [qlook, ← hl2]; rw [if_neg (Int32.not_lt.mpr c_156)]) (by omega) _ _ _ hM hl
                            · skip
                              exact absurd (by rw [er_13, ← er_9]; exact c_156) c_178
                          · skip
                            refine lv_iload hx hb dX11_fit_159 (lv_at hl 0 rfl) ?_
                            refine lv_goto (tgt := 165) hx hb dX11_fit_161 (by decide) ?_
                            refine lv_istore_n (lv' := [(3, .int (nI k)), (5, .int (nI k)), (4, .int mo), (0, .ref (ad 188))]) hx hb dX11_fit_165 rfl hl (by decide) rfl (fun ls hl => ?_)
                            refine lv_aload_n hx hb dX11_fit_166 rfl (lv_at hl 3 rfl) ?_
                            refine q_get (o := 188) (ci := 11) (k := 39) (T := TX11) (v := .ref (ad 209)) C hM (qmem_11 E ad S A38 b (show qk 188 = 11 from by decide +kernel)) (by decide) rfl hi11 (by decide) hL1 rfl rfl dX11_fit_167 ?_
                            refine lv_iload hx hb dX11_fit_170 (lv_at hl 1 rfl) ?_
                            refine q_iald (v := A38 209 k) C hM (show qk 209 = 12 from by decide +kernel) (by rw [(show ql 209 = 6 from by decide +kernel)]; exact vp_nI (by omega) (by omega)) (by rw [nIc (by omega)]) dX11_fit_172 ?_
                            refine q_callSI (n := 1) (As := [.int (A38 209 k)]) (rest := []) C hM hA (c_X11_bits E ad l S A38 b (A38 209 k)) gX11_fit_X11_bits rfl rfl rfl (by decide +kernel) ⟨Nat.le_of_ble_eq_true rfl, Nat.le_of_ble_eq_true rfl⟩ rfl hl.1 rfl (Nat.le_of_ble_eq_true rfl) ⟨Nat.zero_le _, Nat.zero_le _⟩ dX11_fit_173 (fun r_17 S_18 A_19 b_20 H locs qr_17 hM => ?_)
                            obtain ⟨⟨e1, e2, e3⟩, er_17⟩ := qr_17
                            subst e1; subst e2; subst e3
                            refine lv_iload hx hb dX11_fit_176 (lv_at hl 2 rfl) ?_
                            refine lv_icmp_le (tgt := 194) hx hb dX11_fit_178 (by decide) (fun c_178 => ?_) (fun c_178 => ?_)
                            · skip
                              exact absurd (by rw [er_9, ← er_17]; exact c_178) c_156
                            · skip
                              refine lv_aload_n hx hb dX11_fit_181 rfl (lv_at hl 3 rfl) ?_
                              refine q_get (o := 188) (ci := 11) (k := 39) (T := TX11) (v := .ref (ad 209)) C hM (qmem_11 E ad S A38 b (show qk 188 = 11 from by decide +kernel)) (by decide) rfl hi11 (by decide) hL1 rfl rfl dX11_fit_182 ?_
                              refine lv_iload hx hb dX11_fit_185 (lv_at hl 1 rfl) ?_
                              refine q_iald (v := A38 209 k) C hM (show qk 209 = 12 from by decide +kernel) (by rw [(show ql 209 = 6 from by decide +kernel)]; exact vp_nI (by omega) (by omega)) (by rw [nIc (by omega)]) dX11_fit_187 ?_
                              refine q_callSI (n := 1) (As := [.int (A38 209 k)]) (rest := []) C hM hA (c_X11_bits E ad l S A38 b (A38 209 k)) gX11_fit_X11_bits rfl rfl rfl (by decide +kernel) ⟨Nat.le_of_ble_eq_true rfl, Nat.le_of_ble_eq_true rfl⟩ rfl hl.1 rfl (Nat.le_of_ble_eq_true rfl) ⟨Nat.zero_le _, Nat.zero_le _⟩ dX11_fit_188 (fun r_21 S_22 A_23 b_24 H locs qr_21 hM => ?_)
                              obtain ⟨⟨e1, e2, e3⟩, er_21⟩ := qr_21
                              subst e1; subst e2; subst e3
                              refine lv_goto (tgt := 196) hx hb dX11_fit_191 (by decide) ?_
                              refine lv_istore (lv' := [(4, .int r_21), (3, .int (nI k)), (5, .int (nI k)), (0, .ref (ad 188))]) hx hb dX11_fit_196 hl (by decide) rfl (fun ls hl => ?_)
                              refine lv_iinc (v := nI (k + 1)) (lv' := [(5, .int (nI (k + 1))), (4, .int r_21), (3, .int (nI k)), (0, .ref (ad 188))]) hx hb dX11_fit_198 hl (k := 2) rfl (by rw [nI_succ]; rfl) (by decide) rfl (fun ls hl => ?_)
                              refine lv_goto (tgt := 135) hx hb dX11_fit_201 (by decide) ?_
                              exact ih135 (nI k) r_21 (k + 1) (by omega) (by rw [er_9] at c_156; simp only [qlook, ← hl2]; rw [if_pos (Int32.not_le.mp c_156), er_21]) (by omega) _ _ _ hM hl
                    exact loop135 (nP - 0 + 1) (-1) 0 0 (by omega) rfl (Nat.lt_succ_self _) _ _ _ hM (lv_sub hl [0, 1, 2, 4] rfl)
                  · skip
                    have c_122 : ka1 = 0 := (nI_eq (a := ka1) (b := 0) (by omega) (by omega)).mp c_122
                    refine lv_iload_n hx hb dX11_fit_125 rfl (lv_at hl 1 rfl) ?_
                    exact q_iret C hM dX11_fit_126 (by have hbe : (n, A38 209) = mfw nP nK (fun way => qfits nP (fun p => qsat (A 207) sp p nS) (qsall (A 207) nS) way) (0, qmap (fun _ _ => 0) (A 209) 6) (6 ^ nP) := (by rw [show 6 ^ nP = mm by omega]; exact hbb); rw [qir_in hloka1 hhika1 (by omega)]; exact ⟨⟨rfl, rfl⟩, by dsimp only [Option.elim]; rw [if_pos c_122, ← hbe], fun i h1 h2 => by rw [hf i h1 h2, hf0 i h2]⟩)
                · skip
                  have c_43 : ¬ (6 ^ nP ≤ mm) := fun z => c_43 ((nI_leI (a := 6 ^ nP) (b := mm) (by omega) (by omega)).mpr z)
                  refine lv_aload_n hx hb dX11_fit_46 rfl (lv_at hl 2 rfl) ?_
                  refine lv_iload_n hx hb dX11_fit_47 rfl (lv_at hl 0 rfl) ?_
                  refine q_callVI (n := 1) (o := 188) (As := [.int (nI mm)]) (rest := []) C hM hA (c_X11_takeGiven E ad l S A38 b mm (by omega) nP hPo (by omega) nK hK (by omega)) (qmem_11 E ad S A38 b (show qk 188 = 11 from by decide +kernel)) (by decide) rfl gX11_fit_X11_takeGiven rfl rfl rfl (by decide +kernel) ⟨Nat.le_of_ble_eq_true rfl, Nat.le_of_ble_eq_true rfl⟩ rfl hl.1 rfl (Nat.le_of_ble_eq_true rfl) ⟨Nat.zero_le _, Nat.zero_le _⟩ dX11_fit_48 (fun r_25 S_26 A_27 b_28 H locs qr_25 hM => ?_)
                  obtain ⟨⟨e1, e3⟩, hDr_25, hrA_27, hfA_27⟩ := qr_25
                  subst e1; subst e3
                  rcases hDr_25 with ⟨er_25, hgood⟩ | ⟨er_25, hgood⟩
                  · skip
                    subst er_25
                    refine lv_if_eq (tgt := 115) hx hb dX11_fit_51 (by decide) (fun c_51 => ?_) (fun c_51 => ?_)
                    · skip
                      have c_51 : 1 = 0 := (nI_eq (a := 1) (b := 0) (by omega) (by omega)).mp c_51
                      exact absurd c_51 (by decide)
                    · skip
                      have c_51 : ¬ (1 = 0) := fun z => c_51 ((nI_eq (a := 1) (b := 0) (by omega) (by omega)).mpr z)
                      refine lv_aload_n hx hb dX11_fit_54 rfl (lv_at hl 2 rfl) ?_
                      refine q_callVI (n := 0) (o := 188) (As := []) (rest := []) C hM hA (c_X11_couldBe E ad l S A_27 b nP hPo (by omega) nS hS (by omega) sp (fun k hk => by rw [hfA_27 208 (by omega), hf 208 (by omega) (by omega), hf0 208 (by omega)]; exact hsp k hk) (fun q hq => by rw [hrA_27 q hq]; exact mway_cw _ _ _)) (qmem_11 E ad S A_27 b (show qk 188 = 11 from by decide +kernel)) (by decide) rfl gX11_fit_X11_couldBe rfl rfl rfl (by decide +kernel) ⟨Nat.le_of_ble_eq_true rfl, Nat.le_of_ble_eq_true rfl⟩ rfl hl.1 rfl (Nat.le_of_ble_eq_true rfl) ⟨Nat.zero_le _, Nat.zero_le _⟩ dX11_fit_55 (fun r_29 S_30 A_31 b_32 H locs qr_29 hM => ?_)
                      obtain ⟨⟨e1, e2, e3⟩, hDr_29⟩ := qr_29
                      subst e1; subst e2; subst e3
                      rcases hDr_29 with ⟨er_29, hcould⟩ | ⟨er_29, hcould⟩
                      · skip
                        subst er_29
                        refine lv_if_eq (tgt := 115) hx hb dX11_fit_58 (by decide) (fun c_58 => ?_) (fun c_58 => ?_)
                        · skip
                          have c_58 : 1 = 0 := (nI_eq (a := 1) (b := 0) (by omega) (by omega)).mp c_58
                          exact absurd c_58 (by decide)
                        · skip
                          have c_58 : ¬ (1 = 0) := fun z => c_58 ((nI_eq (a := 1) (b := 0) (by omega) (by omega)).mpr z)
                          obtain ⟨x2_33, ex2_33⟩ : ∃ zz : Int32, zz = n + 1 := ⟨_, rfl⟩
                          refine lv_iinc (v := x2_33) (lv' := [(2, .int x2_33), (3, .int (nI mm)), (0, .ref (ad 188)), (1, .int (nI ka1))]) hx hb dX11_fit_61 hl (k := 1) rfl (by rw [ex2_33]; rfl) (by decide) rfl (fun ls hl => ?_)
                          refine lv_iconst (v := 0) hx hb dX11_fit_64 (by decide) ?_
                          refine lv_istore (lv' := [(4, .int 0), (2, .int x2_33), (3, .int (nI mm)), (0, .ref (ad 188)), (1, .int (nI ka1))]) hx hb dX11_fit_65 hl (by decide) rfl (fun ls hl => ?_)
                          have loop67 : ∀ (fu : Nat) (k : Nat) (A67 : qA2) (hk : k ≤ nP) (hr3 : A67 209 = qmap (fun p x => x ||| ((1 : Int32) <<< ((if mway nP mm p < 0 then 5 else mway nP mm p) &&& 31))) (A38 209) k) (hf3 : ∀ i, i ≠ 209 → A67 i = A_27 i), nP - k < fu → ∀ (H : Heap) (locs : List Loc) (ls : Array Slot), qM E ad S A67 b (qAr ad s.heap.size) s H locs → lv_has ls 6 [(4, .int (nI k)), (2, .int x2_33), (3, .int (nI mm)), (0, .ref (ad 188)), (1, .int (nI ka1))] → W pg l e (headSpec wsX11_fit { frames := 2, cells := 0, slots := 0, locals := 47 }).room s m ([.ref (ad 188), .int (nI ka1)] : List Value).toArray below meth cd H locs 0 0 (MQ below (qQi E ad s.heap.size (fun r S' A' b' => (S = S' ∧ b = b') ∧ r = (qir (nI ka1) 0 1).elim (-1000000002) (fun w => if w = 0 then (mfw nP nK (fun way => qfits nP (fun p => qsat (A 207) sp p nS) (qsall (A 207) nS) way) (0, qmap (fun _ _ => 0) (A 209) 6) (6 ^ nP)).1 else (qlook (fun k => qsum (fun j => qtb ((mfw nP nK (fun way => qfits nP (fun p => qsat (A 207) sp p nS) (qsall (A 207) nS) way) (0, qmap (fun _ _ => 0) (A 209) 6) (6 ^ nP)).2 k) (nI j)) 6) nP).1) ∧ ∀ i, i ≠ 205 → i ≠ 209 → A' i = A i)) ([.ref (ad 188), .int (nI ka1)] : List Value).toArray s 0 0 (qAr ad s.heap.size)) (F0 m 67 ls []) := by
                            intro fu
                            induction fu with
                            | zero => intro k A67 hk hr3 hf3 hn; exact absurd hn (Nat.not_lt_zero _)
                            | succ fu ih67 =>
                              intro k A67 hk hr3 hf3 hn H locs ls hM hl
                              refine lv_iload hx hb dX11_fit_67 (lv_at hl 0 rfl) ?_
                              refine lv_aload_n hx hb dX11_fit_69 rfl (lv_at hl 3 rfl) ?_
                              refine q_get (o := 188) (ci := 11) (k := 4) (T := TX11) (v := .int (S 188 4)) C hM (qmem_11 E ad S A67 b (show qk 188 = 11 from by decide +kernel)) (by decide) rfl hi11 (by decide) hL0 rfl rfl dX11_fit_70 ?_
                              refine lv_as (y := nI nP) hPo ?_
                              refine lv_icmp_ge (tgt := 115) hx hb dX11_fit_73 (by decide) (fun c_73 => ?_) (fun c_73 => ?_)
                              · skip
                                have c_73 : nP ≤ k := (nI_leI (a := nP) (b := k) (by omega) (by omega)).mp c_73
                                refine lv_iinc (v := nI (mm + 1)) (lv' := [(3, .int (nI (mm + 1))), (4, .int (nI k)), (2, .int x2_33), (0, .ref (ad 188)), (1, .int (nI ka1))]) hx hb dX11_fit_115 hl (k := 2) rfl (by rw [nI_succ]; rfl) (by decide) rfl (fun ls hl => ?_)
                                refine lv_goto (tgt := 38) hx hb dX11_fit_118 (by decide) ?_
                                exact ih38 x2_33 (mm + 1) A67 (by omega) (by show (_, A67 209) = mfs nP nK _ mm (mfw nP nK (fun way => qfits nP (fun p => qsat (A 207) sp p nS) (qsall (A 207) nS) way) (0, qmap (fun _ _ => 0) (A 209) 6) mm); rw [← hbb, mfs_yes ⟨hgood, (show qfits nP (fun p => qsat (A 207) sp p nS) (qsall (A 207) nS) (mway nP mm) ↔ qfits nP (fun p => qsat (A_27 207) sp p nS) (qsall (A_27 207) nS) (A_27 205) from by rw [show A_27 207 = A 207 from by rw [hfA_27 207 (by omega), hf 207 (by omega) (by omega), hf0 207 (by omega)]]; exact qfits_way (fun q hq => (hrA_27 q hq).symm)).mpr hcould⟩, ex2_33, hr3, show k = nP by omega]) (fun i h1 h2 => by rw [hf3 i h2, hfA_27 i h1, hf i h1 h2]) (by omega) _ _ _ hM (lv_sub hl [0, 2, 3, 4] rfl)
                              · skip
                                have c_73 : ¬ (nP ≤ k) := fun z => c_73 ((nI_leI (a := nP) (b := k) (by omega) (by omega)).mpr z)
                                refine lv_aload_n hx hb dX11_fit_76 rfl (lv_at hl 3 rfl) ?_
                                refine q_get (o := 188) (ci := 11) (k := 39) (T := TX11) (v := .ref (ad 209)) C hM (qmem_11 E ad S A67 b (show qk 188 = 11 from by decide +kernel)) (by decide) rfl hi11 (by decide) hL1 rfl rfl dX11_fit_77 ?_
                                refine lv_iload hx hb dX11_fit_80 (lv_at hl 0 rfl) ?_
                                refine lv_dup2_11 hx hb dX11_fit_82 rfl rfl ?_
                                refine q_iald (v := A67 209 k) C hM (show qk 209 = 12 from by decide +kernel) (by rw [(show ql 209 = 6 from by decide +kernel)]; exact vp_nI (by omega) (by omega)) (by rw [nIc (by omega)]) dX11_fit_83 ?_
                                refine lv_iconst (v := 1) hx hb dX11_fit_84 (by decide) ?_
                                refine lv_aload_n hx hb dX11_fit_85 rfl (lv_at hl 3 rfl) ?_
                                refine q_get (o := 188) (ci := 11) (k := 34) (T := TX11) (v := .ref (ad 205)) C hM (qmem_11 E ad S A67 b (show qk 188 = 11 from by decide +kernel)) (by decide) rfl hi11 (by decide) hL2 rfl rfl dX11_fit_86 ?_
                                refine lv_iload hx hb dX11_fit_89 (lv_at hl 0 rfl) ?_
                                refine q_iald (v := A_27 205 k) C hM (show qk 205 = 12 from by decide +kernel) (by rw [(show ql 205 = 6 from by decide +kernel)]; exact vp_nI (by omega) (by omega)) (by rw [nIc (by omega)]; exact (show A67 205 k = A_27 205 k from by rw [hf3 205 (by omega)])) dX11_fit_91 ?_
                                refine lv_if_ge (tgt := 99) hx hb dX11_fit_92 (by decide) (fun c_92 => ?_) (fun c_92 => ?_)
                                · skip
                                  refine lv_aload_n hx hb dX11_fit_99 rfl (lv_at hl 3 rfl) ?_
                                  refine q_get (o := 188) (ci := 11) (k := 34) (T := TX11) (v := .ref (ad 205)) C hM (qmem_11 E ad S A67 b (show qk 188 = 11 from by decide +kernel)) (by decide) rfl hi11 (by decide) hL2 rfl rfl dX11_fit_100 ?_
                                  refine lv_iload hx hb dX11_fit_103 (lv_at hl 0 rfl) ?_
                                  refine q_iald (v := A_27 205 k) C hM (show qk 205 = 12 from by decide +kernel) (by rw [(show ql 205 = 6 from by decide +kernel)]; exact vp_nI (by omega) (by omega)) (by rw [nIc (by omega)]; exact (show A67 205 k = A_27 205 k from by rw [hf3 205 (by omega)])) dX11_fit_105 ?_
                                  refine lv_ishl hx hb dX11_fit_106 ?_
                                  refine lv_ior hx hb dX11_fit_107 ?_
                                  refine lv_topi (fun v_34 ev_34 => ?_)
                                  refine q_iast C hM (show qk 209 = 12 from by decide +kernel) (by rw [(show ql 209 = 6 from by decide +kernel)]; exact vp_nI (by omega) (by omega)) dX11_fit_108 (fun H locs hM => ?_)
                                  rw [nIc (by omega)] at hM
                                  obtain ⟨A_35, eA_35⟩ : ∃ zz, zz = q2 A67 209 k v_34 := ⟨_, rfl⟩
                                  rw [← eA_35] at hM
                                  refine lv_iinc (v := nI (k + 1)) (lv' := [(4, .int (nI (k + 1))), (2, .int x2_33), (3, .int (nI mm)), (0, .ref (ad 188)), (1, .int (nI ka1))]) hx hb dX11_fit_109 hl (k := 0) rfl (by rw [nI_succ]; rfl) (by decide) rfl (fun ls hl => ?_)
                                  refine lv_goto (tgt := 67) hx hb dX11_fit_112 (by decide) ?_
                                  exact ih67 (k + 1) A_35 (by omega) (by rw [eA_35, q2_row, hr3]; exact qmap_s _ _ _ _ (by rw [hrA_27 k (by omega)] at c_92; rw [if_neg (Int32.not_lt.mpr c_92), ev_34, hrA_27 k (by omega), hr3, qmap_at])) (by rw [eA_35]; exact qfr_up hf3) (by omega) _ _ _ hM hl
                                · skip
                                  refine lv_iconst (v := 5) hx hb dX11_fit_95 (by decide) ?_
                                  refine lv_goto (tgt := 106) hx hb dX11_fit_96 (by decide) ?_
                                  refine lv_ishl hx hb dX11_fit_106 ?_
                                  refine lv_ior hx hb dX11_fit_107 ?_
                                  refine lv_topi (fun v_36 ev_36 => ?_)
                                  refine q_iast C hM (show qk 209 = 12 from by decide +kernel) (by rw [(show ql 209 = 6 from by decide +kernel)]; exact vp_nI (by omega) (by omega)) dX11_fit_108 (fun H locs hM => ?_)
                                  rw [nIc (by omega)] at hM
                                  obtain ⟨A_37, eA_37⟩ : ∃ zz, zz = q2 A67 209 k v_36 := ⟨_, rfl⟩
                                  rw [← eA_37] at hM
                                  refine lv_iinc (v := nI (k + 1)) (lv' := [(4, .int (nI (k + 1))), (2, .int x2_33), (3, .int (nI mm)), (0, .ref (ad 188)), (1, .int (nI ka1))]) hx hb dX11_fit_109 hl (k := 0) rfl (by rw [nI_succ]; rfl) (by decide) rfl (fun ls hl => ?_)
                                  refine lv_goto (tgt := 67) hx hb dX11_fit_112 (by decide) ?_
                                  exact ih67 (k + 1) A_37 (by omega) (by rw [eA_37, q2_row, hr3]; exact qmap_s _ _ _ _ (by rw [hrA_27 k (by omega)] at c_92; rw [if_pos (Int32.not_le.mp c_92), ev_36, hr3, qmap_at])) (by rw [eA_37]; exact qfr_up hf3) (by omega) _ _ _ hM hl
                          exact loop67 (nP - 0 + 1) 0 A_27 (by omega) (by rw [qmap_0, hfA_27 209 (by omega)]) (fun _ _ => rfl) (Nat.lt_succ_self _) _ _ _ hM hl
                      · skip
                        subst er_29
                        refine lv_if_eq (tgt := 115) hx hb dX11_fit_58 (by decide) (fun c_58 => ?_) (fun c_58 => ?_)
                        · skip
                          have c_58 : 0 = 0 := (nI_eq (a := 0) (b := 0) (by omega) (by omega)).mp c_58
                          refine lv_iinc (v := nI (mm + 1)) (lv' := [(3, .int (nI (mm + 1))), (2, .int n), (0, .ref (ad 188)), (1, .int (nI ka1))]) hx hb dX11_fit_115 hl (k := 0) rfl (by rw [nI_succ]; rfl) (by decide) rfl (fun ls hl => ?_)
                          refine lv_goto (tgt := 38) hx hb dX11_fit_118 (by decide) ?_
                          exact ih38 n (mm + 1) A_27 (by omega) (by show (_, A_27 209) = mfs nP nK _ mm (mfw nP nK (fun way => qfits nP (fun p => qsat (A 207) sp p nS) (qsall (A 207) nS) way) (0, qmap (fun _ _ => 0) (A 209) 6) mm); rw [← hbb, mfs_no (fun z => hcould ((show qfits nP (fun p => qsat (A 207) sp p nS) (qsall (A 207) nS) (mway nP mm) ↔ qfits nP (fun p => qsat (A_27 207) sp p nS) (qsall (A_27 207) nS) (A_27 205) from by rw [show A_27 207 = A 207 from by rw [hfA_27 207 (by omega), hf 207 (by omega) (by omega), hf0 207 (by omega)]]; exact qfits_way (fun q hq => (hrA_27 q hq).symm)).mp z.2)), hfA_27 209 (by omega)]) (fun i h1 h2 => by rw [hfA_27 i h1, hf i h1 h2]) (by omega) _ _ _ hM hl
                        · skip
                          have c_58 : ¬ (0 = 0) := fun z => c_58 ((nI_eq (a := 0) (b := 0) (by omega) (by omega)).mpr z)
                          exact absurd rfl c_58
                  · skip
                    subst er_25
                    refine lv_if_eq (tgt := 115) hx hb dX11_fit_51 (by decide) (fun c_51 => ?_) (fun c_51 => ?_)
                    · skip
                      have c_51 : 0 = 0 := (nI_eq (a := 0) (b := 0) (by omega) (by omega)).mp c_51
                      refine lv_iinc (v := nI (mm + 1)) (lv' := [(3, .int (nI (mm + 1))), (2, .int n), (0, .ref (ad 188)), (1, .int (nI ka1))]) hx hb dX11_fit_115 hl (k := 0) rfl (by rw [nI_succ]; rfl) (by decide) rfl (fun ls hl => ?_)
                      refine lv_goto (tgt := 38) hx hb dX11_fit_118 (by decide) ?_
                      exact ih38 n (mm + 1) A_27 (by omega) (by show (_, A_27 209) = mfs nP nK _ mm (mfw nP nK (fun way => qfits nP (fun p => qsat (A 207) sp p nS) (qsall (A 207) nS) way) (0, qmap (fun _ _ => 0) (A 209) 6) mm); rw [← hbb, mfs_no (fun z => hgood z.1), hfA_27 209 (by omega)]) (fun i h1 h2 => by rw [hfA_27 i h1, hf i h1 h2]) (by omega) _ _ _ hM hl
                    · skip
                      have c_51 : ¬ (0 = 0) := fun z => c_51 ((nI_eq (a := 0) (b := 0) (by omega) (by omega)).mpr z)
                      exact absurd rfl c_51
            exact loop38 (6 ^ nP - 0 + 1) 0 0 A15 (by omega) (by rw [hr0, show k = 6 by omega]; rfl) (fun _ _ _ => rfl) (Nat.lt_succ_self _) _ _ _ hM hl
          · skip
            have c_18 : ¬ (6 ≤ k) := fun z => c_18 ((nI_leI (a := 6) (b := k) (by omega) (by omega)).mpr z)
            refine lv_aload_n hx hb dX11_fit_21 rfl (lv_at hl 1 rfl) ?_
            refine q_get (o := 188) (ci := 11) (k := 39) (T := TX11) (v := .ref (ad 209)) C hM (qmem_11 E ad S A15 b (show qk 188 = 11 from by decide +kernel)) (by decide) rfl hi11 (by decide) hL1 rfl rfl dX11_fit_22 ?_
            refine lv_iload_n hx hb dX11_fit_25 rfl (lv_at hl 0 rfl) ?_
            refine lv_iconst (v := 0) hx hb dX11_fit_26 (by decide) ?_
            refine q_iast C hM (show qk 209 = 12 from by decide +kernel) (by rw [(show ql 209 = 6 from by decide +kernel)]; exact vp_nI (by omega) (by omega)) dX11_fit_27 (fun H locs hM => ?_)
            rw [nIc (by omega)] at hM
            obtain ⟨A_38, eA_38⟩ : ∃ zz, zz = q2 A15 209 k 0 := ⟨_, rfl⟩
            rw [← eA_38] at hM
            refine lv_iinc (v := nI (k + 1)) (lv' := [(2, .int (nI (k + 1))), (0, .ref (ad 188)), (1, .int (nI ka1))]) hx hb dX11_fit_28 hl (k := 0) rfl (by rw [nI_succ]; rfl) (by decide) rfl (fun ls hl => ?_)
            refine lv_goto (tgt := 15) hx hb dX11_fit_31 (by decide) ?_
            exact ih15 (k + 1) A_38 (by omega) (by rw [eA_38, q2_row, hr0]; exact qmap_s _ _ _ _ rfl) (by rw [eA_38]; exact qfr_up hf0) (by omega) _ _ _ hM hl
      exact loop15 (6 - 0 + 1) 0 A (by omega) ((qmap_0 _ _).symm) (fun _ _ => rfl) (Nat.lt_succ_self _) _ _ _ hM hl
    · skip
      have c_7 : 1 = 0 := (nI_eq (a := 1) (b := 0) (by omega) (by omega)).mp c_7
      exact absurd c_7 (by decide)
  · skip
    rw [hzr_1] at er_1
    subst er_1
    refine lv_if_ne (tgt := 13) hx hb dX11_fit_7 (by decide) (fun c_7 => ?_) (fun c_7 => ?_)
    · skip
      have c_7 : ¬ (0 = 0) := fun z => c_7 ((nI_eq (a := 0) (b := 0) (by omega) (by omega)).mpr z)
      exact absurd rfl c_7
    · skip
      have c_7 : 0 = 0 := (nI_eq (a := 0) (b := 0) (by omega) (by omega)).mp c_7
      refine lv_ldc (v := (-1000000002)) hx hb C.2.2.2.1 hL3 dX11_fit_10 ?_
      exact q_iret C hM dX11_fit_12 (by rw [qir_out hir_1]; exact ⟨⟨rfl, rfl⟩, rfl, fun _ _ _ => rfl⟩)
