/-! ===== who has what: the plant as functions of units, batches, pieces ===== -/
def u2 (f : Int → Int → Int) (a c v : Int) : Int → Int → Int := fun x w => if x = a ∧ w = c then v else f x w
set_option maxHeartbeats 100000 in
theorem u2_eq {f : Int → Int → Int} {a c v : Int} : u2 f a c v a c = v := if_pos ⟨rfl, rfl⟩
set_option maxHeartbeats 100000 in
theorem u2_ne {f : Int → Int → Int} {a c v x w : Int} (h : x ≠ a ∨ w ≠ c) : u2 f a c v x w = f x w := if_neg (by omega)
/-- U: a unit's kind, capacity, holder, broken, cleaning; B: a batch's cells; S: who has a piece; P: a batch's present phase; x: a batch whose unit may be of another kind than its phase -/
def jaU (U B : Int → Int → Int) (n2 n3 : Int) : Prop := ∀ u, 0 ≤ u → u < n2 → U u 2 ≠ -1 → (0 ≤ U u 2 ∧ U u 2 < n3) ∧ B (U u 2) 8 = u ∧ U u 4 = 0 ∧ B (U u 2) 2 ≤ U u 1 ∧ 1 ≤ B (U u 2) 5 ∧ B (U u 2) 5 ≤ 3
def jaB (U B : Int → Int → Int) (n2 n3 : Int) : Prop := ∀ b, 0 ≤ b → b < n3 → B b 8 ≠ -1 → (0 ≤ B b 8 ∧ B b 8 < n2) ∧ U (B b 8) 2 = b ∧ (B b 5 = 1 ∨ B b 5 = 3 → U (B b 8) 3 = 0)
def jaK (U B : Int → Int → Int) (P : Int → Int) (n3 x : Int) : Prop := ∀ b, 0 ≤ b → b < n3 → b ≠ x → B b 8 ≠ -1 → U (B b 8) 0 = P b % 4
def jaR (B : Int → Int → Int) (n3 : Int) : Prop := ∀ b, 0 ≤ b → b < n3 → B b 5 = 0 → B b 6 = 0 ∧ B b 7 = 0
def jaF (B : Int → Int → Int) (n3 : Int) : Prop := ∀ b, 0 ≤ b → b < n3 → B b 4 ≠ -1 → (0 ≤ B b 4 ∧ B b 4 < b) ∧ (0 < B b 6 ∨ 0 < B b 7 ∨ B b 5 = 6 → B (B b 4) 5 = 6)
def jaM (B : Int → Int → Int) (n3 : Int) : Prop := ∀ b, 0 ≤ b → b < n3 → B b 9 ≤ szF (B b 2)
def jaS (B : Int → Int → Int) (S P : Int → Int) (n3 : Int) : Prop := ∀ k, 0 ≤ k → k < 3 → S k ≠ -1 → (0 ≤ S k ∧ S k < n3) ∧ (B (S k) 5 = 1 ∨ B (S k) 5 = 3) ∧ P (S k) / 512 % 4 - 1 = k ∧ B (S k) 8 ≠ -1
def JA (U B : Int → Int → Int) (S P : Int → Int) (n2 n3 x : Int) : Prop := jaU U B n2 n3 ∧ jaB U B n2 n3 ∧ jaK U B P n3 x ∧ jaR B n3 ∧ jaF B n3 ∧ jaM B n3 ∧ jaS B S P n3
section JAS
variable {U U' B B' : Int → Int → Int} {S S' P P' : Int → Int} {n2 n3 x : Int}
set_option maxHeartbeats 100000 in
theorem JA.congr (h : JA U B S P n2 n3 x) (eU : ∀ u w, 0 ≤ u → u < n2 → 0 ≤ w → w < 4 → U' u w = U u w) (e4 : ∀ u, 0 ≤ u → u < n2 → U u 4 = 0 → U' u 4 = 0) (eB : ∀ b w, 0 ≤ b → b < n3 → 0 ≤ w → w < 10 → w ≠ 3 → B' b w = B b w) (eS : ∀ k, 0 ≤ k → k < 3 → S' k = S k) (eP : ∀ b, 0 ≤ b → b < n3 → P' b = P b) : JA U' B' S' P' n2 n3 x := by
  obtain ⟨h1, h2, h3, h4, h5, h6, h7⟩ := h
  unfold jaU at h1
  unfold jaB at h2
  unfold jaK at h3
  unfold jaR at h4
  unfold jaF at h5
  unfold jaM at h6
  unfold jaS at h7
  refine ⟨?_, ?_, ?_, ?_, ?_, ?_, ?_⟩
  · intro u u0 u1
    have := h1 u u0 u1
    try clear h1
    try clear h2
    try clear h3
    try clear h4
    try clear h5
    try clear h6
    try clear h7
    grind
  · intro b b0 b1
    have := h2 b b0 b1
    try clear h1
    try clear h2
    try clear h3
    try clear h4
    try clear h5
    try clear h6
    try clear h7
    grind
  · intro b b0 b1 bx
    have := h3 b b0 b1 bx
    have := h2 b b0 b1
    try clear h1
    try clear h2
    try clear h3
    try clear h4
    try clear h5
    try clear h6
    try clear h7
    grind
  · intro b b0 b1
    have := h4 b b0 b1
    try clear h1
    try clear h2
    try clear h3
    try clear h4
    try clear h5
    try clear h6
    try clear h7
    grind
  · intro b b0 b1
    have := h5 b b0 b1
    try clear h1
    try clear h2
    try clear h3
    try clear h4
    try clear h5
    try clear h6
    try clear h7
    grind
  · intro b b0 b1
    have := h6 b b0 b1
    try clear h1
    try clear h2
    try clear h3
    try clear h4
    try clear h5
    try clear h6
    try clear h7
    grind
  · intro k k0 k1
    have := h7 k k0 k1
    try clear h1
    try clear h2
    try clear h3
    try clear h4
    try clear h5
    try clear h6
    try clear h7
    grind
set_option maxHeartbeats 100000 in
theorem JA.relS {b : Int} (h : JA U B S P n2 n3 x) (eS : ∀ k, 0 ≤ k → k < 3 → S' k = if S k = b then -1 else S k) : JA U B S' P n2 n3 x := by
  obtain ⟨h1, h2, h3, h4, h5, h6, h7⟩ := h
  refine ⟨h1, h2, h3, h4, h5, h6, ?_⟩
  unfold jaS at *
  intro k k0 k1
  have := h7 k k0 k1
  have := eS k k0 k1
  try clear h1
  try clear h2
  try clear h3
  try clear h4
  try clear h5
  try clear h6
  try clear h7
  grind
set_option maxHeartbeats 100000 in
theorem JA.relU {b cl : Int} (h : JA U B S P n2 n3 x) (b0 : 0 ≤ b) (b1 : b < n3) (hx : x = -1 ∨ x = b) (h8 : B b 8 ≠ -1) (hS : ∀ k, 0 ≤ k → k < 3 → S k ≠ b) : JA (u2 (u2 U (B b 8) 2 (-1)) (B b 8) 4 cl) (u2 B b 8 (-1)) S P n2 n3 (-1) := by
  obtain ⟨h1, h2, h3, h4, h5, h6, h7⟩ := h
  unfold jaU at h1
  unfold jaB at h2
  unfold jaK at h3
  unfold jaR at h4
  unfold jaF at h5
  unfold jaM at h6
  unfold jaS at h7
  have hb := h2 b b0 b1 h8
  refine ⟨?_, ?_, ?_, ?_, ?_, ?_, ?_⟩
  · intro u u0 u1
    have := h1 u u0 u1
    try clear h1
    try clear h2
    try clear h3
    try clear h4
    try clear h5
    try clear h6
    try clear h7
    grind [u2]
  · intro y y0 y1
    have := h2 y y0 y1
    try clear h1
    try clear h2
    try clear h3
    try clear h4
    try clear h5
    try clear h6
    try clear h7
    grind [u2]
  · intro y y0 y1 yx
    have := h3 y y0 y1
    have := h2 y y0 y1
    try clear h1
    try clear h2
    try clear h3
    try clear h4
    try clear h5
    try clear h6
    try clear h7
    grind [u2]
  · intro y y0 y1
    have := h4 y y0 y1
    try clear h1
    try clear h2
    try clear h3
    try clear h4
    try clear h5
    try clear h6
    try clear h7
    grind [u2]
  · intro y y0 y1
    have := h5 y y0 y1
    try clear h1
    try clear h2
    try clear h3
    try clear h4
    try clear h5
    try clear h6
    try clear h7
    grind [u2]
  · intro y y0 y1
    have := h6 y y0 y1
    try clear h1
    try clear h2
    try clear h3
    try clear h4
    try clear h5
    try clear h6
    try clear h7
    grind [u2]
  · intro k k0 k1
    have := h7 k k0 k1
    have := hS k k0 k1
    try clear h1
    try clear h2
    try clear h3
    try clear h4
    try clear h5
    try clear h6
    try clear h7
    grind [u2]
-- another state
set_option maxHeartbeats 100000 in
theorem JA.state {b st : Int} (h : JA U B S P n2 n3 x) (b0 : 0 ≤ b) (b1 : b < n3) (hold : B b 5 ≠ 6) (hst : 1 ≤ st ∧ st ≤ 6) (h13 : st = 1 ∨ st = 3 → B b 8 ≠ -1 → U (B b 8) 3 = 0) (h3s : 3 < st → B b 8 = -1) (hS : (∃ k, 0 ≤ k ∧ k < 3 ∧ S k = b) → st = 1 ∨ st = 3) (hs6 : st = 6 → B b 4 ≠ -1 → B (B b 4) 5 = 6) : JA U (u2 B b 5 st) S P n2 n3 x := by
  obtain ⟨h1, h2, h3, h4, h5, h6, h7⟩ := h
  unfold jaU at h1
  unfold jaB at h2
  unfold jaK at h3
  unfold jaR at h4
  unfold jaF at h5
  unfold jaM at h6
  unfold jaS at h7
  refine ⟨?_, ?_, ?_, ?_, ?_, ?_, ?_⟩
  · intro u u0 u1
    have := h1 u u0 u1
    try clear h1
    try clear h2
    try clear h3
    try clear h4
    try clear h5
    try clear h6
    try clear h7
    grind [u2]
  · intro y y0 y1
    have := h2 y y0 y1
    try clear h1
    try clear h2
    try clear h3
    try clear h4
    try clear h5
    try clear h6
    try clear h7
    grind [u2]
  · intro y y0 y1 yx
    have := h3 y y0 y1 yx
    try clear h1
    try clear h2
    try clear h3
    try clear h4
    try clear h5
    try clear h6
    try clear h7
    grind [u2]
  · intro y y0 y1
    have := h4 y y0 y1
    try clear h1
    try clear h2
    try clear h3
    try clear h4
    try clear h5
    try clear h6
    try clear h7
    grind [u2]
  · intro y y0 y1
    have := h5 y y0 y1
    try clear h1
    try clear h2
    try clear h3
    try clear h4
    try clear h5
    try clear h6
    try clear h7
    grind [u2]
  · intro y y0 y1
    have := h6 y y0 y1
    try clear h1
    try clear h2
    try clear h3
    try clear h4
    try clear h5
    try clear h6
    try clear h7
    grind [u2]
  · intro k k0 k1
    have := h7 k k0 k1
    have : S k = b → st = 1 ∨ st = 3 := fun q => hS ⟨k, k0, k1, q⟩
    try clear h1
    try clear h2
    try clear h3
    try clear h4
    try clear h5
    try clear h6
    try clear h7
    grind [u2]
-- a unit is taken
set_option maxHeartbeats 100000 in
theorem JA.take {b u : Int} (h : JA U B S P n2 n3 x) (b0 : 0 ≤ b) (b1 : b < n3) (u0 : 0 ≤ u) (u1 : u < n2) (h5a : 1 ≤ B b 5 ∧ B b 5 ≤ 3) (h8 : B b 8 = -1) (hf : U u 2 = -1 ∧ U u 3 = 0 ∧ U u 4 = 0) (hk : U u 0 = P b % 4) (hc : B b 2 ≤ U u 1) : JA (u2 U u 2 b) (u2 B b 8 u) S P n2 n3 x := by
  obtain ⟨h1, h2, h3, h4, h5, h6, h7⟩ := h
  unfold jaU at h1
  unfold jaB at h2
  unfold jaK at h3
  unfold jaR at h4
  unfold jaF at h5
  unfold jaM at h6
  unfold jaS at h7
  refine ⟨?_, ?_, ?_, ?_, ?_, ?_, ?_⟩
  · intro v v0 v1
    have := h1 v v0 v1
    try clear h1
    try clear h2
    try clear h3
    try clear h4
    try clear h5
    try clear h6
    try clear h7
    grind [u2]
  · intro y y0 y1
    have := h2 y y0 y1
    try clear h1
    try clear h2
    try clear h3
    try clear h4
    try clear h5
    try clear h6
    try clear h7
    grind [u2]
  · intro y y0 y1 yx
    have := h3 y y0 y1 yx
    have := h2 y y0 y1
    try clear h1
    try clear h2
    try clear h3
    try clear h4
    try clear h5
    try clear h6
    try clear h7
    grind [u2]
  · intro y y0 y1
    have := h4 y y0 y1
    try clear h1
    try clear h2
    try clear h3
    try clear h4
    try clear h5
    try clear h6
    try clear h7
    grind [u2]
  · intro y y0 y1
    have := h5 y y0 y1
    try clear h1
    try clear h2
    try clear h3
    try clear h4
    try clear h5
    try clear h6
    try clear h7
    grind [u2]
  · intro y y0 y1
    have := h6 y y0 y1
    try clear h1
    try clear h2
    try clear h3
    try clear h4
    try clear h5
    try clear h6
    try clear h7
    grind [u2]
  · intro k k0 k1
    have := h7 k k0 k1
    try clear h1
    try clear h2
    try clear h3
    try clear h4
    try clear h5
    try clear h6
    try clear h7
    grind [u2]
-- a piece is taken
set_option maxHeartbeats 100000 in
theorem JA.piece {b j : Int} (h : JA U B S P n2 n3 x) (b0 : 0 ≤ b) (b1 : b < n3) (h5a : B b 5 = 1 ∨ B b 5 = 3) (h8 : B b 8 ≠ -1) (hp : P b / 512 % 4 - 1 = j) (eS : ∀ k, 0 ≤ k → k < 3 → S' k = if k = j then b else S k) : JA U B S' P n2 n3 x := by
  obtain ⟨h1, h2, h3, h4, h5, h6, h7⟩ := h
  refine ⟨h1, h2, h3, h4, h5, h6, ?_⟩
  unfold jaS at *
  intro k k0 k1
  have := h7 k k0 k1
  have := eS k k0 k1
  try clear h1
  try clear h2
  try clear h3
  try clear h4
  try clear h5
  try clear h6
  try clear h7
  grind
-- ticks done of a phase
set_option maxHeartbeats 100000 in
theorem JA.done {b v : Int} (h : JA U B S P n2 n3 x) (b0 : 0 ≤ b) (b1 : b < n3) (h5a : B b 5 ≠ 0) (hb : 0 < v → B b 4 ≠ -1 → B (B b 4) 5 = 6) : JA U (u2 B b 7 v) S P n2 n3 x := by
  obtain ⟨h1, h2, h3, h4, h5, h6, h7⟩ := h
  unfold jaU at h1
  unfold jaB at h2
  unfold jaK at h3
  unfold jaR at h4
  unfold jaF at h5
  unfold jaM at h6
  unfold jaS at h7
  refine ⟨?_, ?_, ?_, ?_, ?_, ?_, ?_⟩
  · intro v v0 v1
    have := h1 v v0 v1
    try clear h1
    try clear h2
    try clear h3
    try clear h4
    try clear h5
    try clear h6
    try clear h7
    grind [u2]
  · intro y y0 y1
    have := h2 y y0 y1
    try clear h1
    try clear h2
    try clear h3
    try clear h4
    try clear h5
    try clear h6
    try clear h7
    grind [u2]
  · intro y y0 y1 yx
    have := h3 y y0 y1 yx
    try clear h1
    try clear h2
    try clear h3
    try clear h4
    try clear h5
    try clear h6
    try clear h7
    grind [u2]
  · intro y y0 y1
    have := h4 y y0 y1
    try clear h1
    try clear h2
    try clear h3
    try clear h4
    try clear h5
    try clear h6
    try clear h7
    grind [u2]
  · intro y y0 y1
    have := h5 y y0 y1
    try clear h1
    try clear h2
    try clear h3
    try clear h4
    try clear h5
    try clear h6
    try clear h7
    grind [u2]
  · intro y y0 y1
    have := h6 y y0 y1
    try clear h1
    try clear h2
    try clear h3
    try clear h4
    try clear h5
    try clear h6
    try clear h7
    grind [u2]
  · intro k k0 k1
    have := h7 k k0 k1
    try clear h1
    try clear h2
    try clear h3
    try clear h4
    try clear h5
    try clear h6
    try clear h7
    grind [u2]
-- the end of a phase
set_option maxHeartbeats 100000 in
theorem JA.phase {b a : Int} (h : JA U B S P n2 n3 (-1)) (b0 : 0 ≤ b) (b1 : b < n3) (h5a : B b 5 ≠ 0) (hS : ∀ k, 0 ≤ k → k < 3 → S k ≠ b) (hb : B b 4 ≠ -1 → B (B b 4) 5 = 6) (ha : a ≤ szF (B b 2)) (hP : ∀ y, 0 ≤ y → y < n3 → y ≠ b → P' y = P y) : JA U (u2 (u2 (u2 B b 9 a) b 6 (B b 6 + 1)) b 7 0) S P' n2 n3 b := by
  obtain ⟨h1, h2, h3, h4, h5, h6, h7⟩ := h
  unfold jaU at h1
  unfold jaB at h2
  unfold jaK at h3
  unfold jaR at h4
  unfold jaF at h5
  unfold jaM at h6
  unfold jaS at h7
  refine ⟨?_, ?_, ?_, ?_, ?_, ?_, ?_⟩
  · intro v v0 v1
    have := h1 v v0 v1
    try clear h1
    try clear h2
    try clear h3
    try clear h4
    try clear h5
    try clear h6
    try clear h7
    grind [u2]
  · intro y y0 y1
    have := h2 y y0 y1
    try clear h1
    try clear h2
    try clear h3
    try clear h4
    try clear h5
    try clear h6
    try clear h7
    grind [u2]
  · intro y y0 y1 yx
    have := h3 y y0 y1
    have := hP y y0 y1
    try clear h1
    try clear h2
    try clear h3
    try clear h4
    try clear h5
    try clear h6
    try clear h7
    grind [u2]
  · intro y y0 y1
    have := h4 y y0 y1
    try clear h1
    try clear h2
    try clear h3
    try clear h4
    try clear h5
    try clear h6
    try clear h7
    grind [u2]
  · intro y y0 y1
    have := h5 y y0 y1
    try clear h1
    try clear h2
    try clear h3
    try clear h4
    try clear h5
    try clear h6
    try clear h7
    grind [u2]
  · intro y y0 y1
    have := h6 y y0 y1
    try clear h1
    try clear h2
    try clear h3
    try clear h4
    try clear h5
    try clear h6
    try clear h7
    grind [u2]
  · intro k k0 k1
    have := h7 k k0 k1
    have := hS k k0 k1
    have := hP (S k)
    try clear h1
    try clear h2
    try clear h3
    try clear h4
    try clear h5
    try clear h6
    try clear h7
    grind [u2]
-- a unit breaks, or is repaired
set_option maxHeartbeats 100000 in
theorem JA.brk {u v : Int} (h : JA U B S P n2 n3 x) (hv : v = 0 ∨ U u 2 = -1 ∨ ¬ (B (U u 2) 5 = 1 ∨ B (U u 2) 5 = 3)) : JA (u2 U u 3 v) B S P n2 n3 x := by
  obtain ⟨h1, h2, h3, h4, h5, h6, h7⟩ := h
  unfold jaU at h1
  unfold jaB at h2
  unfold jaK at h3
  refine ⟨?_, ?_, ?_, h4, h5, h6, h7⟩
  · intro v v0 v1
    have := h1 v v0 v1
    try clear h1
    try clear h2
    try clear h3
    try clear h4
    try clear h5
    try clear h6
    try clear h7
    grind [u2]
  · intro y y0 y1
    have := h2 y y0 y1
    try clear h1
    try clear h2
    try clear h3
    try clear h4
    try clear h5
    try clear h6
    try clear h7
    grind [u2]
  · intro y y0 y1 yx
    have := h3 y y0 y1 yx
    try clear h1
    try clear h2
    try clear h3
    try clear h4
    try clear h5
    try clear h6
    try clear h7
    grind [u2]
-- the kind fits after all
set_option maxHeartbeats 100000 in
theorem JA.kind {b : Int} (h : JA U B S P n2 n3 b) (hk : B b 8 ≠ -1 → U (B b 8) 0 = P b % 4) : JA U B S P n2 n3 (-1) := by
  obtain ⟨h1, h2, h3, h4, h5, h6, h7⟩ := h
  refine ⟨h1, h2, ?_, h4, h5, h6, h7⟩
  unfold jaK at *
  intro y y0 y1 yx h8
  by_cases e : y = b
  · rw [e] at h8 ⊢
    exact hk h8
  · exact h3 y y0 y1 e h8
end JAS
