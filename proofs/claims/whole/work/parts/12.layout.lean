theorem qs_0_0 (E : qE) (ad : Nat → Nat) (S A : qA2) (b : qB) {i : Nat} (h : qk i = 0) (v : Int32) : qmem E ad (q2 S i 0 v) A b i = .inr (0, (qo0 ad i S).set 0 (.int v)) := by rw [qmem_0 _ _ _ _ _ h]; simp [qo0, q2]
theorem qs_1_0 (E : qE) (ad : Nat → Nat) (S A : qA2) (b : qB) {i : Nat} (h : qk i = 1) (v : Int32) : qmem E ad (q2 S i 0 v) A b i = .inr (1, (qo1 ad i S).set 0 (.int v)) := by rw [qmem_1 _ _ _ _ _ h]; simp [qo1, q2]
theorem qs_2_1 (E : qE) (ad : Nat → Nat) (S A : qA2) (b : qB) {i : Nat} (h : qk i = 2) (v : Int32) : qmem E ad (q2 S i 1 v) A b i = .inr (2, (qo2 ad i S).set 1 (.int v)) := by rw [qmem_2 _ _ _ _ _ h]; simp [qo2, q2]
theorem qs_2_2 (E : qE) (ad : Nat → Nat) (S A : qA2) (b : qB) {i : Nat} (h : qk i = 2) (v : Int32) : qmem E ad (q2 S i 2 v) A b i = .inr (2, (qo2 ad i S).set 2 (.int v)) := by rw [qmem_2 _ _ _ _ _ h]; simp [qo2, q2]
theorem qs_3_1 (E : qE) (ad : Nat → Nat) (S A : qA2) (b : qB) {i : Nat} (h : qk i = 3) (v : Int32) : qmem E ad (q2 S i 1 v) A b i = .inr (3, (qo3 ad i S).set 1 (.int v)) := by rw [qmem_3 _ _ _ _ _ h]; simp [qo3, q2]
theorem qs_4_1 (E : qE) (ad : Nat → Nat) (S A : qA2) (b : qB) {i : Nat} (h : qk i = 4) (v : Int32) : qmem E ad (q2 S i 1 v) A b i = .inr (4, (qo4 ad i S).set 1 (.int v)) := by rw [qmem_4 _ _ _ _ _ h]; simp [qo4, q2]
theorem qs_4_2 (E : qE) (ad : Nat → Nat) (S A : qA2) (b : qB) {i : Nat} (h : qk i = 4) (v : Int32) : qmem E ad (q2 S i 2 v) A b i = .inr (4, (qo4 ad i S).set 2 (.int v)) := by rw [qmem_4 _ _ _ _ _ h]; simp [qo4, q2]
theorem qs_5_0 (E : qE) (ad : Nat → Nat) (S A : qA2) (b : qB) {i : Nat} (h : qk i = 5) (v : Int32) : qmem E ad (q2 S i 0 v) A b i = .inr (5, (qo5 ad i S).set 0 (.int v)) := by rw [qmem_5 _ _ _ _ _ h]; simp [qo5, q2]
theorem qs_5_1 (E : qE) (ad : Nat → Nat) (S A : qA2) (b : qB) {i : Nat} (h : qk i = 5) (v : Int32) : qmem E ad (q2 S i 1 v) A b i = .inr (5, (qo5 ad i S).set 1 (.int v)) := by rw [qmem_5 _ _ _ _ _ h]; simp [qo5, q2]
theorem qs_5_2 (E : qE) (ad : Nat → Nat) (S A : qA2) (b : qB) {i : Nat} (h : qk i = 5) (v : Int32) : qmem E ad (q2 S i 2 v) A b i = .inr (5, (qo5 ad i S).set 2 (.int v)) := by rw [qmem_5 _ _ _ _ _ h]; simp [qo5, q2]
theorem qs_5_3 (E : qE) (ad : Nat → Nat) (S A : qA2) (b : qB) {i : Nat} (h : qk i = 5) (v : Int32) : qmem E ad (q2 S i 3 v) A b i = .inr (5, (qo5 ad i S).set 3 (.int v)) := by rw [qmem_5 _ _ _ _ _ h]; simp [qo5, q2]
theorem qs_5_4 (E : qE) (ad : Nat → Nat) (S A : qA2) (b : qB) {i : Nat} (h : qk i = 5) (v : Int32) : qmem E ad (q2 S i 4 v) A b i = .inr (5, (qo5 ad i S).set 4 (.int v)) := by rw [qmem_5 _ _ _ _ _ h]; simp [qo5, q2]
theorem qs_5_5 (E : qE) (ad : Nat → Nat) (S A : qA2) (b : qB) {i : Nat} (h : qk i = 5) (v : Int32) : qmem E ad (q2 S i 5 v) A b i = .inr (5, (qo5 ad i S).set 5 (.int v)) := by rw [qmem_5 _ _ _ _ _ h]; simp [qo5, q2]
theorem qs_5_6 (E : qE) (ad : Nat → Nat) (S A : qA2) (b : qB) {i : Nat} (h : qk i = 5) (v : Int32) : qmem E ad (q2 S i 6 v) A b i = .inr (5, (qo5 ad i S).set 6 (.int v)) := by rw [qmem_5 _ _ _ _ _ h]; simp [qo5, q2]
theorem qs_6_0 (E : qE) (ad : Nat → Nat) (S A : qA2) (b : qB) {i : Nat} (h : qk i = 6) (v : Int32) : qmem E ad (q2 S i 0 v) A b i = .inr (6, (qo6 ad i S).set 0 (.int v)) := by rw [qmem_6 _ _ _ _ _ h]; simp [qo6, q2]
theorem qs_6_1 (E : qE) (ad : Nat → Nat) (S A : qA2) (b : qB) {i : Nat} (h : qk i = 6) (v : Int32) : qmem E ad (q2 S i 1 v) A b i = .inr (6, (qo6 ad i S).set 1 (.int v)) := by rw [qmem_6 _ _ _ _ _ h]; simp [qo6, q2]
theorem qs_6_6 (E : qE) (ad : Nat → Nat) (S A : qA2) (b : qB) {i : Nat} (h : qk i = 6) (v : Int32) : qmem E ad (q2 S i 6 v) A b i = .inr (6, (qo6 ad i S).set 6 (.int v)) := by rw [qmem_6 _ _ _ _ _ h]; simp [qo6, q2]
theorem qs_7_1 (E : qE) (ad : Nat → Nat) (S A : qA2) (b : qB) {i : Nat} (h : qk i = 7) (v : Int32) : qmem E ad (q2 S i 1 v) A b i = .inr (7, (qo7 ad i S).set 1 (.int v)) := by rw [qmem_7 _ _ _ _ _ h]; simp [qo7, q2]
theorem qs_7_2 (E : qE) (ad : Nat → Nat) (S A : qA2) (b : qB) {i : Nat} (h : qk i = 7) (v : Int32) : qmem E ad (q2 S i 2 v) A b i = .inr (7, (qo7 ad i S).set 2 (.int v)) := by rw [qmem_7 _ _ _ _ _ h]; simp [qo7, q2]
theorem qs_7_3 (E : qE) (ad : Nat → Nat) (S A : qA2) (b : qB) {i : Nat} (h : qk i = 7) (v : Int32) : qmem E ad (q2 S i 3 v) A b i = .inr (7, (qo7 ad i S).set 3 (.int v)) := by rw [qmem_7 _ _ _ _ _ h]; simp [qo7, q2]
theorem qs_7_4 (E : qE) (ad : Nat → Nat) (S A : qA2) (b : qB) {i : Nat} (h : qk i = 7) (v : Int32) : qmem E ad (q2 S i 4 v) A b i = .inr (7, (qo7 ad i S).set 4 (.int v)) := by rw [qmem_7 _ _ _ _ _ h]; simp [qo7, q2]
theorem qs_7_5 (E : qE) (ad : Nat → Nat) (S A : qA2) (b : qB) {i : Nat} (h : qk i = 7) (v : Int32) : qmem E ad (q2 S i 5 v) A b i = .inr (7, (qo7 ad i S).set 5 (.int v)) := by rw [qmem_7 _ _ _ _ _ h]; simp [qo7, q2]
theorem qs_8_1 (E : qE) (ad : Nat → Nat) (S A : qA2) (b : qB) {i : Nat} (h : qk i = 8) (v : Int32) : qmem E ad (q2 S i 1 v) A b i = .inr (8, (qo8 ad i S).set 1 (.int v)) := by rw [qmem_8 _ _ _ _ _ h]; simp [qo8, q2]
theorem qs_8_2 (E : qE) (ad : Nat → Nat) (S A : qA2) (b : qB) {i : Nat} (h : qk i = 8) (v : Int32) : qmem E ad (q2 S i 2 v) A b i = .inr (8, (qo8 ad i S).set 2 (.int v)) := by rw [qmem_8 _ _ _ _ _ h]; simp [qo8, q2]
theorem qs_8_3 (E : qE) (ad : Nat → Nat) (S A : qA2) (b : qB) {i : Nat} (h : qk i = 8) (v : Int32) : qmem E ad (q2 S i 3 v) A b i = .inr (8, (qo8 ad i S).set 3 (.int v)) := by rw [qmem_8 _ _ _ _ _ h]; simp [qo8, q2]
theorem qs_8_4 (E : qE) (ad : Nat → Nat) (S A : qA2) (b : qB) {i : Nat} (h : qk i = 8) (v : Int32) : qmem E ad (q2 S i 4 v) A b i = .inr (8, (qo8 ad i S).set 4 (.int v)) := by rw [qmem_8 _ _ _ _ _ h]; simp [qo8, q2]
theorem qs_8_5 (E : qE) (ad : Nat → Nat) (S A : qA2) (b : qB) {i : Nat} (h : qk i = 8) (v : Int32) : qmem E ad (q2 S i 5 v) A b i = .inr (8, (qo8 ad i S).set 5 (.int v)) := by rw [qmem_8 _ _ _ _ _ h]; simp [qo8, q2]
theorem qs_9_5 (E : qE) (ad : Nat → Nat) (S A : qA2) (b : qB) {i : Nat} (h : qk i = 9) (v : Int32) : qmem E ad (q2 S i 5 v) A b i = .inr (9, (qo9 ad i S).set 5 (.int v)) := by rw [qmem_9 _ _ _ _ _ h]; simp [qo9, q2]
theorem qs_9_6 (E : qE) (ad : Nat → Nat) (S A : qA2) (b : qB) {i : Nat} (h : qk i = 9) (v : Int32) : qmem E ad (q2 S i 6 v) A b i = .inr (9, (qo9 ad i S).set 6 (.int v)) := by rw [qmem_9 _ _ _ _ _ h]; simp [qo9, q2]
theorem qs_9_7 (E : qE) (ad : Nat → Nat) (S A : qA2) (b : qB) {i : Nat} (h : qk i = 9) (v : Int32) : qmem E ad (q2 S i 7 v) A b i = .inr (9, (qo9 ad i S).set 7 (.int v)) := by rw [qmem_9 _ _ _ _ _ h]; simp [qo9, q2]
theorem qs_11_0 (E : qE) (ad : Nat → Nat) (S A : qA2) (b : qB) {i : Nat} (h : qk i = 11) (v : Int32) : qmem E ad (q2 S i 0 v) A b i = .inr (11, (qo11 ad i S).set 0 (.int v)) := by rw [qmem_11 _ _ _ _ _ h]; simp [qo11, q2]
theorem qs_11_1 (E : qE) (ad : Nat → Nat) (S A : qA2) (b : qB) {i : Nat} (h : qk i = 11) (v : Int32) : qmem E ad (q2 S i 1 v) A b i = .inr (11, (qo11 ad i S).set 1 (.int v)) := by rw [qmem_11 _ _ _ _ _ h]; simp [qo11, q2]
theorem qs_11_2 (E : qE) (ad : Nat → Nat) (S A : qA2) (b : qB) {i : Nat} (h : qk i = 11) (v : Int32) : qmem E ad (q2 S i 2 v) A b i = .inr (11, (qo11 ad i S).set 2 (.int v)) := by rw [qmem_11 _ _ _ _ _ h]; simp [qo11, q2]
theorem qs_11_3 (E : qE) (ad : Nat → Nat) (S A : qA2) (b : qB) {i : Nat} (h : qk i = 11) (v : Int32) : qmem E ad (q2 S i 3 v) A b i = .inr (11, (qo11 ad i S).set 3 (.int v)) := by rw [qmem_11 _ _ _ _ _ h]; simp [qo11, q2]
theorem qs_11_4 (E : qE) (ad : Nat → Nat) (S A : qA2) (b : qB) {i : Nat} (h : qk i = 11) (v : Int32) : qmem E ad (q2 S i 4 v) A b i = .inr (11, (qo11 ad i S).set 4 (.int v)) := by rw [qmem_11 _ _ _ _ _ h]; simp [qo11, q2]
theorem qs_11_6 (E : qE) (ad : Nat → Nat) (S A : qA2) (b : qB) {i : Nat} (h : qk i = 11) (v : Int32) : qmem E ad (q2 S i 6 v) A b i = .inr (11, (qo11 ad i S).set 6 (.int v)) := by rw [qmem_11 _ _ _ _ _ h]; simp [qo11, q2]
theorem qs_11_8 (E : qE) (ad : Nat → Nat) (S A : qA2) (b : qB) {i : Nat} (h : qk i = 11) (v : Int32) : qmem E ad (q2 S i 8 v) A b i = .inr (11, (qo11 ad i S).set 8 (.int v)) := by rw [qmem_11 _ _ _ _ _ h]; simp [qo11, q2]
theorem qs_11_12 (E : qE) (ad : Nat → Nat) (S A : qA2) (b : qB) {i : Nat} (h : qk i = 11) (v : Int32) : qmem E ad (q2 S i 12 v) A b i = .inr (11, (qo11 ad i S).set 12 (.int v)) := by rw [qmem_11 _ _ _ _ _ h]; simp [qo11, q2]
theorem qs_11_14 (E : qE) (ad : Nat → Nat) (S A : qA2) (b : qB) {i : Nat} (h : qk i = 11) (v : Int32) : qmem E ad (q2 S i 14 v) A b i = .inr (11, (qo11 ad i S).set 14 (.int v)) := by rw [qmem_11 _ _ _ _ _ h]; simp [qo11, q2]
theorem qs_11_15 (E : qE) (ad : Nat → Nat) (S A : qA2) (b : qB) {i : Nat} (h : qk i = 11) (v : Int32) : qmem E ad (q2 S i 15 v) A b i = .inr (11, (qo11 ad i S).set 15 (.int v)) := by rw [qmem_11 _ _ _ _ _ h]; simp [qo11, q2]
theorem qs_11_16 (E : qE) (ad : Nat → Nat) (S A : qA2) (b : qB) {i : Nat} (h : qk i = 11) (v : Int32) : qmem E ad (q2 S i 16 v) A b i = .inr (11, (qo11 ad i S).set 16 (.int v)) := by rw [qmem_11 _ _ _ _ _ h]; simp [qo11, q2]
theorem qs_11_17 (E : qE) (ad : Nat → Nat) (S A : qA2) (b : qB) {i : Nat} (h : qk i = 11) (v : Int32) : qmem E ad (q2 S i 17 v) A b i = .inr (11, (qo11 ad i S).set 17 (.int v)) := by rw [qmem_11 _ _ _ _ _ h]; simp [qo11, q2]
theorem qs_11_18 (E : qE) (ad : Nat → Nat) (S A : qA2) (b : qB) {i : Nat} (h : qk i = 11) (v : Int32) : qmem E ad (q2 S i 18 v) A b i = .inr (11, (qo11 ad i S).set 18 (.int v)) := by rw [qmem_11 _ _ _ _ _ h]; simp [qo11, q2]
theorem qs_11_20 (E : qE) (ad : Nat → Nat) (S A : qA2) (b : qB) {i : Nat} (h : qk i = 11) (v : Int32) : qmem E ad (q2 S i 20 v) A b i = .inr (11, (qo11 ad i S).set 20 (.int v)) := by rw [qmem_11 _ _ _ _ _ h]; simp [qo11, q2]
theorem qs_11_21 (E : qE) (ad : Nat → Nat) (S A : qA2) (b : qB) {i : Nat} (h : qk i = 11) (v : Int32) : qmem E ad (q2 S i 21 v) A b i = .inr (11, (qo11 ad i S).set 21 (.int v)) := by rw [qmem_11 _ _ _ _ _ h]; simp [qo11, q2]
theorem qs_11_24 (E : qE) (ad : Nat → Nat) (S A : qA2) (b : qB) {i : Nat} (h : qk i = 11) (v : Int32) : qmem E ad (q2 S i 24 v) A b i = .inr (11, (qo11 ad i S).set 24 (.int v)) := by rw [qmem_11 _ _ _ _ _ h]; simp [qo11, q2]
theorem qs_11_27 (E : qE) (ad : Nat → Nat) (S A : qA2) (b : qB) {i : Nat} (h : qk i = 11) (v : Int32) : qmem E ad (q2 S i 27 v) A b i = .inr (11, (qo11 ad i S).set 27 (.int v)) := by rw [qmem_11 _ _ _ _ _ h]; simp [qo11, q2]
theorem qs_11_30 (E : qE) (ad : Nat → Nat) (S A : qA2) (b : qB) {i : Nat} (h : qk i = 11) (v : Int32) : qmem E ad (q2 S i 30 v) A b i = .inr (11, (qo11 ad i S).set 30 (.int v)) := by rw [qmem_11 _ _ _ _ _ h]; simp [qo11, q2]
theorem qs_11_36 (E : qE) (ad : Nat → Nat) (S A : qA2) (b : qB) {i : Nat} (h : qk i = 11) (v : Int32) : qmem E ad (q2 S i 36 v) A b i = .inr (11, (qo11 ad i S).set 36 (.int v)) := by rw [qmem_11 _ _ _ _ _ h]; simp [qo11, q2]
theorem qs_11_40 (E : qE) (ad : Nat → Nat) (S A : qA2) (b : qB) {i : Nat} (h : qk i = 11) (v : Int32) : qmem E ad (q2 S i 40 v) A b i = .inr (11, (qo11 ad i S).set 40 (.int v)) := by rw [qmem_11 _ _ _ _ _ h]; simp [qo11, q2]
def qwL : List Nat := [3, 9, 17, 23, 29, 35, 41, 47, 53, 59, 65, 71, 77, 83, 89, 95, 101, 107, 113, 119, 125, 131, 140, 147, 156]
def qw (w : Nat) : Prop := w ∈ qwL
def qwP (w : Nat) : Prop := (qk w = 9 ∧ qk (w + 1) = 12 ∧ qk (w + 2) = 12 ∧ qk (w + 3) = 12 ∧ qk (w + 4) = 12 ∧ qk (w + 5) = 12) ∧ (ql (w + 1) = 12 ∧ ql (w + 2) = 6 ∧ ql (w + 3) = 6 ∧ ql (w + 4) = 5 ∧ ql (w + 5) = 5) ∧ 3 ≤ w ∧ w + 6 ≤ 162
theorem qw_all {w : Nat} (h : qw w) : qwP w := by
  have hh : ∀ w ∈ qwL, ((qk w = 9 ∧ qk (w + 1) = 12 ∧ qk (w + 2) = 12 ∧ qk (w + 3) = 12 ∧ qk (w + 4) = 12 ∧ qk (w + 5) = 12) ∧ (ql (w + 1) = 12 ∧ ql (w + 2) = 6 ∧ ql (w + 3) = 6 ∧ ql (w + 4) = 5 ∧ ql (w + 5) = 5) ∧ 3 ≤ w ∧ w + 6 ≤ 162) := by decide +kernel
  exact hh w h
def qpl (p : Nat) : Prop := p = 174 ∨ p = 181
theorem qpl_all {p : Nat} (h : qpl p) : (qk p = 5 ∧ qk (p + 1) = 12 ∧ qk (p + 2) = 12 ∧ qk (p + 3) = 12 ∧ qk (p + 4) = 12 ∧ qk (p + 5) = 12 ∧ qk (p + 6) = 12) ∧ (ql (p + 1) = 6 ∧ ql (p + 2) = 6 ∧ ql (p + 3) = 5 ∧ ql (p + 4) = 5 ∧ ql (p + 5) = 10 ∧ ql (p + 6) = 10) ∧ 174 ≤ p ∧ p + 7 ≤ 188 := by rcases h with h | h <;> subst h <;> decide +kernel
def qy (y : Nat) : Prop := y = 162 ∨ y = 169
theorem qy_all {y : Nat} (h : qy y) : (qk y = 8 ∧ qk (y + 1) = 12) ∧ ql (y + 1) = 6 ∧ 162 ≤ y ∧ y + 2 ≤ 171 := by rcases h with h | h <;> subst h <;> decide +kernel
theorem qpast_w {i : Nat} (h : i < 20) : qw (17 + 6 * i) := by
  have hh : ∀ i, i < 20 → (17 + 6 * i) ∈ qwL := by decide +kernel
  exact hh i h
theorem qw_ap {w : Nat} (h : qw w) : ∀ c ∈ [0, 1, 2, 15, 16, 137, 138, 139, 146, 153, 154, 155], c < w ∨ w + 5 < c := by
  have hh : ∀ w ∈ qwL, ∀ c ∈ [0, 1, 2, 15, 16, 137, 138, 139, 146, 153, 154, 155], c < w ∨ w + 5 < c := by decide +kernel
  exact hh w h
def qg (g : Nat) : Prop := g = 139 ∨ g = 146
theorem qg_all {g : Nat} (h : qg g) : qk g = 2 ∧ qw (g + 1) ∧ (g = 139 ∨ g = 146) := by
  rcases h with h | h
  · subst h; exact ⟨by decide +kernel, by show _ ∈ qwL; decide +kernel, Or.inl rfl⟩
  · subst h; exact ⟨by decide +kernel, by show _ ∈ qwL; decide +kernel, Or.inr rfl⟩
theorem qimg_g {i : Nat} (h : i < 2) : qg (139 + 7 * i) := by
  rcases (show i = 0 ∨ i = 1 by omega) with h | h <;> subst h
  · exact Or.inl rfl
  · exact Or.inr rfl
theorem nI_lit (n : Nat) : (OfNat.ofNat n : Int32) = nI n := rfl
theorem vp_nI {k n : Nat} (h : k < n) (hn : n < 1000) : vp_in (nI k) n := vp_in_nI h (by omega)
theorem nIc {k : Nat} (h : k < 1000) : (nI k).toNatClampNeg = k := nI_clamp (by omega)
