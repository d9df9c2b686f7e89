/-! what ties the class's cells to the reference's -/
def rWin (nC nP nK : Nat) (sn ce cr bi pa : Nat → Int32) (st hr sp : Int32) (f : Nat → Int32) : Prop :=
  ((∀ k, k < nC → sn k = f k ∧ ∃ x, x ≤ 9999 ∧ sn k = nI x) ∧ (∀ k, nC ≤ k → k < 12 → sn k = 0)) ∧ (∀ k, k < nP → ce k = f (12 + k) ∧ ∃ c, c < nC ∧ ce k = nI c) ∧ ((∀ k, k < nP → cr k = f (18 + k)) ∧ (∀ k, k < 6 → qcw nK (cr k)) ∧ (∀ k, nP ≤ k → k < 6 → cr k = -1) ∧ (∀ j k, j < 6 → k < 6 → cr j = cr k → ¬ cr j = -1 → j = k)) ∧ (∀ k, k < nK → bi k = f (25 + k) ∧ ∃ x, x ≤ 99 ∧ bi k = nI x) ∧ (∀ k, k < nK → pa k = f (30 + k)) ∧ (st = f 24 ∧ hset nP st) ∧ (hr = f 35 ∧ ∃ h, h ≤ 9060 ∧ hr = nI h) ∧ sp = f 36
theorem rWin_cg {nC nP nK : Nat} (hC : nC ≤ 12) (hP : nP ≤ 6) (hK : nK ≤ 5) {sn ce cr bi pa f sn' ce' cr' bi' pa' f' : Nat → Int32} {st hr sp st' hr' sp' : Int32} (h : rWin nC nP nK sn ce cr bi pa st hr sp f) (h1 : ∀ k, k < 12 → sn' k = sn k) (h2 : ∀ k, k < 6 → ce' k = ce k) (h3 : ∀ k, k < 6 → cr' k = cr k) (h4 : ∀ k, k < 5 → bi' k = bi k) (h5 : ∀ k, k < 5 → pa' k = pa k) (h6 : st' = st) (h7 : hr' = hr) (h8 : sp' = sp) (h9 : ∀ k, k < 37 → f' k = f k) : rWin nC nP nK sn' ce' cr' bi' pa' st' hr' sp' f' := by
  obtain ⟨⟨a1, a2⟩, a3, ⟨a4, a5, a6, a7⟩, a8, a9, a10, a11, a12⟩ := h
  subst h6 h7 h8
  refine ⟨⟨fun k hk => ?_, fun k hk hk2 => ?_⟩, fun k hk => ?_, ⟨fun k hk => ?_, fun k hk => ?_, fun k hk hk2 => ?_, fun j k hj hk => ?_⟩, fun k hk => ?_, fun k hk => ?_, ?_, ?_, ?_⟩
  · rw [h1 k (by omega), h9 k (by omega)]; exact a1 k hk
  · rw [h1 k hk2]; exact a2 k hk hk2
  · rw [h2 k (by omega), h9 _ (by omega)]; exact a3 k hk
  · rw [h3 k (by omega), h9 _ (by omega)]; exact a4 k hk
  · rw [h3 k hk]; exact a5 k hk
  · rw [h3 k hk2]; exact a6 k hk hk2
  · rw [h3 j hj, h3 k hk]; exact a7 j k hj hk
  · rw [h4 k (by omega), h9 _ (by omega)]; exact a8 k hk
  · rw [h5 k (by omega), h9 _ (by omega)]; exact a9 k hk
  · rw [h9 24 (by omega)]; exact a10
  · rw [h9 35 (by omega)]; exact a11
  · rw [h9 36 (by omega)]; exact a12
def rTxt (S A : qA2) : Prop := ∃ n, n ≤ 240 ∧ S 1 1 = nI n ∧ S 188 14 = nI n ∧ ∀ k, k < n → A 2 k = A 194 k ∧ ∃ c, c ≤ 255 ∧ A 2 k = nI c
def rPlan (nC nP nK nW : Nat) (p : Nat) (S A : qA2) : Prop :=
  (nC ≤ 12 ∧ nP ≤ 6 ∧ nK ≤ 5 ∧ nW ≤ 10) ∧ (S p 0 = nI nC ∧ S p 4 = nI nP ∧ S p 5 = nI nK ∧ S p 6 = nI nW) ∧ (S 188 0 = nI nC ∧ S 188 4 = nI nP ∧ S 188 6 = nI nK ∧ S 188 8 = nI nW) ∧ (S p 3 = S 188 3 ∧ hset nC (S p 3)) ∧ (¬ nC = 0 → S p 1 = S 188 1 ∧ S p 2 = S 188 2) ∧ (∀ k, k < nP → A (p + 2) k = A 189 k) ∧ (∀ k, k < nK → A (p + 4) k = A 190 k) ∧ hW nW (A (p + 5)) (A (p + 6)) (A 191) (A 192)
def rPast (nC nP nK nw nc : Nat) (S A : qA2) : Prop :=
  (nw < 20 ∧ nc ≤ 20) ∧ (S 15 2 = nI nw ∧ S 15 1 = nI nc ∧ S 188 30 = nI nc) ∧ ∀ j, j < nc → ∀ w, w = 17 + 6 * ((nw + 20 - (nc - 1 - j)) % 20) → rWin nC nP nK (A (w + 1)) (A (w + 2)) (A (w + 3)) (A (w + 4)) (A (w + 5)) (S w 5) (S w 6) (S w 7) (fun k => A 202 (37 * j + k))
def rImg (nC nP nK i g : Nat) (S A : qA2) : Prop :=
  (S g 2 = 0 ↔ A 213 i = 0) ∧ (¬ S g 2 = 0 → rWin nC nP nK (A (g + 2)) (A (g + 3)) (A (g + 4)) (A (g + 5)) (A (g + 6)) (S (g + 1) 5) (S (g + 1) 6) (S (g + 1) 7) (fun k => A 212 (38 * i + k)) ∧ S g 1 = A 212 (38 * i + 37) ∧ ∃ y, y < 2 ^ 31 ∧ S g 1 = nI y)
def rSit (nP nK : Nat) (S A : qA2) : Prop := ∃ nS, nS ≤ 6 ∧ S 164 0 = nI nS ∧ S 188 36 = nI nS ∧ ∀ k, k < nS → (A 165 k = A 207 k ∧ ∃ c, c < nK ∧ A 165 k = nI c) ∧ (A 166 k = A 208 k ∧ ∃ q, q < nP ∧ A 166 k = nI q)
def rBk (nC : Nat) (S A : qA2) : Prop := ∃ nB, nB ≤ 15 ∧ S 171 0 = nI nB ∧ S 188 40 = nI nB ∧ ∀ k, k < nB → (A 172 k = A 210 k ∧ ∃ c, c < nC ∧ A 172 k = nI c) ∧ A 173 k = A 211 k
def rSd (S : qA2) : Prop := S 137 0 = S 188 12 ∧ ∃ y, y < 2 ^ 31 ∧ S 137 0 = nI y
def rNow (nC nP nK : Nat) (S A : qA2) : Prop := rWin nC nP nK (A 4) (A 5) (A 6) (A 7) (A 8) (S 3 5) (S 3 6) (S 3 7) (A 193)
def rB (b : qB) : Prop := qpl b.1 ∧ qpl b.2 ∧ ¬ b.1 = b.2
def Rl (nC nP nK nW nw nc : Nat) (S A : qA2) (b : qB) : Prop := rB b ∧ rTxt S A ∧ S 1 3 = S 188 15 ∧ rPlan nC nP nK nW b.1 S A ∧ rNow nC nP nK S A ∧ rPast nC nP nK nw nc S A ∧ (rImg nC nP nK 0 139 S A ∧ rImg nC nP nK 1 146 S A) ∧ rSit nP nK S A ∧ rBk nC S A ∧ rSd S
def Rel (S A : qA2) (b : qB) : Prop := ∃ nC nP nK nW nw nc, Rl nC nP nK nW nw nc S A b
theorem rTxt_cg {S A S' A' : qA2} (h : rTxt S A) (h1 : S' 1 1 = S 1 1) (h2 : S' 188 14 = S 188 14) (h3 : A' 2 = A 2) (h4 : A' 194 = A 194) : rTxt S' A' := by
  unfold rTxt at h ⊢
  rw [h1, h2, h3, h4]
  exact h
theorem rPlan_cg {nC nP nK nW p : Nat} {S A S' A' : qA2} (h : rPlan nC nP nK nW p S A) (h1 : S' p = S p) (h2 : ∀ j, j < 9 → S' 188 j = S 188 j) (h3 : ∀ j, j < 7 → A' (p + j) = A (p + j)) (h4 : ∀ j, 188 < j → j < 193 → A' j = A j) : rPlan nC nP nK nW p S' A' := by
  unfold rPlan at h ⊢
  rw [h1, h2 0 (by omega), h2 4 (by omega), h2 6 (by omega), h2 8 (by omega), h2 3 (by omega), h2 1 (by omega), h2 2 (by omega), h3 2 (by omega), h3 4 (by omega), h3 5 (by omega), h3 6 (by omega), h4 189 (by omega) (by omega), h4 190 (by omega) (by omega), h4 191 (by omega) (by omega), h4 192 (by omega) (by omega)]
  exact h
theorem rNow_cg {nC nP nK : Nat} {S A S' A' : qA2} (h : rNow nC nP nK S A) (h1 : S' 3 = S 3) (h2 : ∀ j, 3 < j → j < 9 → A' j = A j) (h3 : A' 193 = A 193) : rNow nC nP nK S' A' := by
  unfold rNow at h ⊢
  rw [h1, h2 4 (by omega) (by omega), h2 5 (by omega) (by omega), h2 6 (by omega) (by omega), h2 7 (by omega) (by omega), h2 8 (by omega) (by omega), h3]
  exact h
theorem rPast_cg {nC nP nK nw nc : Nat} {S A S' A' : qA2} (h : rPast nC nP nK nw nc S A) (h1 : S' 15 = S 15) (h2 : S' 188 30 = S 188 30) (h3 : ∀ j, 16 < j → j < 137 → S' j = S j ∧ A' j = A j) (h4 : A' 202 = A 202) : rPast nC nP nK nw nc S' A' := by
  obtain ⟨a1, a2, a3⟩ := h
  refine ⟨a1, by rw [h1, h2]; exact a2, fun j hj w hw => ?_⟩
  have hm : (nw + 20 - (nc - 1 - j)) % 20 < 20 := Nat.mod_lt _ (by omega)
  rw [(h3 (w + 1) (by omega) (by omega)).2, (h3 (w + 2) (by omega) (by omega)).2, (h3 (w + 3) (by omega) (by omega)).2, (h3 (w + 4) (by omega) (by omega)).2, (h3 (w + 5) (by omega) (by omega)).2, (h3 w (by omega) (by omega)).1, h4]
  exact a3 j hj w hw
theorem rImg_cg {nC nP nK i g : Nat} {S A S' A' : qA2} (h : rImg nC nP nK i g S A) (h1 : S' g = S g) (h2 : S' (g + 1) = S (g + 1)) (h3 : ∀ j, g < j → j < g + 7 → A' j = A j) (h4 : A' 212 = A 212) (h5 : A' 213 = A 213) : rImg nC nP nK i g S' A' := by
  unfold rImg at h ⊢
  rw [h1, h2, h3 (g + 2) (by omega) (by omega), h3 (g + 3) (by omega) (by omega), h3 (g + 4) (by omega) (by omega), h3 (g + 5) (by omega) (by omega), h3 (g + 6) (by omega) (by omega), h4, h5]
  exact h
theorem rSit_cg {nP nK : Nat} {S A S' A' : qA2} (h : rSit nP nK S A) (h1 : S' 164 0 = S 164 0) (h2 : S' 188 36 = S 188 36) (h3 : A' 165 = A 165) (h4 : A' 166 = A 166) (h5 : A' 207 = A 207) (h6 : A' 208 = A 208) : rSit nP nK S' A' := by
  unfold rSit at h ⊢
  rw [h1, h2, h3, h4, h5, h6]
  exact h
theorem rBk_cg {nC : Nat} {S A S' A' : qA2} (h : rBk nC S A) (h1 : S' 171 0 = S 171 0) (h2 : S' 188 40 = S 188 40) (h3 : A' 172 = A 172) (h4 : A' 173 = A 173) (h5 : A' 210 = A 210) (h6 : A' 211 = A 211) : rBk nC S' A' := by
  unfold rBk at h ⊢
  rw [h1, h2, h3, h4, h5, h6]
  exact h
theorem rSd_cg {S S' : qA2} (h : rSd S) (h1 : S' 137 0 = S 137 0) (h2 : S' 188 12 = S 188 12) : rSd S' := by
  unfold rSd at h ⊢
  rw [h1, h2]
  exact h
/-- cells that matter to neither side are free -/
theorem Rel_ro {S A S' A' : qA2} {b : qB} (h : Rel S A b) (hA : ∀ i, (i < 10 ∨ 14 < i) → (i < 153 ∨ 163 < i) → i ≠ 167 → i ≠ 168 → i ≠ 170 → (i < 203 ∨ 206 < i) → i ≠ 209 → A' i = A i) (hS : ∀ i, i ≠ 9 → i ≠ 153 → i ≠ 156 → i ≠ 162 → i ≠ 164 → i ≠ 169 → S' i = S i) (h164 : S' 164 0 = S 164 0) : Rel S' A' b := by
  obtain ⟨nC, nP, nK, nW, nw, nc, hb, h1, h2, h3, h4, h5, ⟨h6, h6'⟩, h7, h8, h9⟩ := h
  have hp : 174 ≤ b.1 ∧ b.1 + 7 ≤ 188 := (qpl_all hb.1).2.2
  have s188 : S' 188 = S 188 := hS 188 (by omega) (by omega) (by omega) (by omega) (by omega) (by omega)
  have s1 : S' 1 = S 1 := hS 1 (by omega) (by omega) (by omega) (by omega) (by omega) (by omega)
  refine ⟨nC, nP, nK, nW, nw, nc, hb, rTxt_cg h1 (by rw [s1]) (by rw [s188]) (hA _ (by omega) (by omega) (by omega) (by omega) (by omega) (by omega) (by omega)) (hA _ (by omega) (by omega) (by omega) (by omega) (by omega) (by omega) (by omega)), by rw [s1, s188]; exact h2, rPlan_cg h3 (hS _ (by omega) (by omega) (by omega) (by omega) (by omega) (by omega)) (fun j _ => by rw [s188]) (fun j hj => hA _ (by omega) (by omega) (by omega) (by omega) (by omega) (by omega) (by omega)) (fun j _ hj => hA _ (by omega) (by omega) (by omega) (by omega) (by omega) (by omega) (by omega)), rNow_cg h4 (hS _ (by omega) (by omega) (by omega) (by omega) (by omega) (by omega)) (fun j _ hj => hA _ (by omega) (by omega) (by omega) (by omega) (by omega) (by omega) (by omega)) (hA _ (by omega) (by omega) (by omega) (by omega) (by omega) (by omega) (by omega)), rPast_cg h5 (hS _ (by omega) (by omega) (by omega) (by omega) (by omega) (by omega)) (by rw [s188]) (fun j hj1 hj2 => ⟨hS _ (by omega) (by omega) (by omega) (by omega) (by omega) (by omega), hA _ (by omega) (by omega) (by omega) (by omega) (by omega) (by omega) (by omega)⟩) (hA _ (by omega) (by omega) (by omega) (by omega) (by omega) (by omega) (by omega)), ⟨rImg_cg h6 (hS _ (by omega) (by omega) (by omega) (by omega) (by omega) (by omega)) (hS _ (by omega) (by omega) (by omega) (by omega) (by omega) (by omega)) (fun j _ _ => hA _ (by omega) (by omega) (by omega) (by omega) (by omega) (by omega) (by omega)) (hA _ (by omega) (by omega) (by omega) (by omega) (by omega) (by omega) (by omega)) (hA _ (by omega) (by omega) (by omega) (by omega) (by omega) (by omega) (by omega)), rImg_cg h6' (hS _ (by omega) (by omega) (by omega) (by omega) (by omega) (by omega)) (hS _ (by omega) (by omega) (by omega) (by omega) (by omega) (by omega)) (fun j _ _ => hA _ (by omega) (by omega) (by omega) (by omega) (by omega) (by omega) (by omega)) (hA _ (by omega) (by omega) (by omega) (by omega) (by omega) (by omega) (by omega)) (hA _ (by omega) (by omega) (by omega) (by omega) (by omega) (by omega) (by omega))⟩, rSit_cg h7 h164 (by rw [s188]) (hA _ (by omega) (by omega) (by omega) (by omega) (by omega) (by omega) (by omega)) (hA _ (by omega) (by omega) (by omega) (by omega) (by omega) (by omega) (by omega)) (hA _ (by omega) (by omega) (by omega) (by omega) (by omega) (by omega) (by omega)) (hA _ (by omega) (by omega) (by omega) (by omega) (by omega) (by omega) (by omega)), rBk_cg h8 (by rw [hS 171 (by omega) (by omega) (by omega) (by omega) (by omega) (by omega)]) (by rw [s188]) (hA _ (by omega) (by omega) (by omega) (by omega) (by omega) (by omega) (by omega)) (hA _ (by omega) (by omega) (by omega) (by omega) (by omega) (by omega) (by omega)) (hA _ (by omega) (by omega) (by omega) (by omega) (by omega) (by omega) (by omega)) (hA _ (by omega) (by omega) (by omega) (by omega) (by omega) (by omega) (by omega)), rSd_cg h9 (by rw [hS 137 (by omega) (by omega) (by omega) (by omega) (by omega) (by omega)]) (by rw [s188])⟩
/-- one call of the class, then the same of the reference: the same answer, and what ties them -/
def qTwo (E : qE) (ad : Nat → Nat) (l : Launch) (y1 : MethodName) (ws1 : List Cond) (rm1 : Room) (y2 : MethodName) (ws2 : List Cond) (rm2 : Room) (As : List Value) (S A : qA2) (b : qB) : Prop :=
  ∃ post, MI E ad l y1 ws1 rm1 (.ref (ad 0) :: As) S A b post ∧ ∀ r S1 A1 b1, post r S1 A1 b1 → ∃ post2, MI E ad l y2 ws2 rm2 (.ref (ad 188) :: As) S1 A1 b1 post2 ∧ ∀ r2 S2 A2 b2, post2 r2 S2 A2 b2 → r = r2 ∧ Rel S2 A2 b2
