/-! THE RULES AND WORDS AS ONE VALUE: (letters, swap, drop, gap, costs, words, length, the words' letters, parts, texts, the texts' letters, the texts' lengths) -/
abbrev Cfg : Type := Int × Int × Int × Int × (Int → Int) × Int × Int × (Int → Int) × (Int → Int) × Int × (Int → Int) × (Int → Int)
def cf (M : Mem) : Cfg := (M 1 0, M 1 1, M 1 2, M 1 3, M 2, M 6 0, M 6 1, M 7, M 8, M 9 0, M 10, M 11)
def cfM (M : Mem) : Cfg := (M 43 1, M 43 3, M 43 4, M 43 5, M 44, M 43 6, M 43 7, M 45, M 46, M 43 10, M 47, M 48)
abbrev kN (c : Cfg) : Int := c.1
abbrev kSw (c : Cfg) : Int := c.2.1
abbrev kDr (c : Cfg) : Int := c.2.2.1
abbrev kGp (c : Cfg) : Int := c.2.2.2.1
abbrev kC (c : Cfg) : Int → Int := c.2.2.2.2.1
abbrev kW (c : Cfg) : Int := c.2.2.2.2.2.1
abbrev kL (c : Cfg) : Int := c.2.2.2.2.2.2.1
abbrev kWl (c : Cfg) : Int → Int := c.2.2.2.2.2.2.2.1
abbrev kP (c : Cfg) : Int → Int := c.2.2.2.2.2.2.2.2.1
abbrev kT (c : Cfg) : Int := c.2.2.2.2.2.2.2.2.2.1
abbrev kX (c : Cfg) : Int → Int := c.2.2.2.2.2.2.2.2.2.2.1
abbrev kXs (c : Cfg) : Int → Int := c.2.2.2.2.2.2.2.2.2.2.2
def WfK (c : Cfg) : Prop := (2 ≤ kN c ∧ kN c ≤ 4) ∧ (0 ≤ kSw c ∧ kSw c ≤ 9) ∧ (1 ≤ kDr c ∧ kDr c ≤ 9) ∧ (0 ≤ kGp c ∧ kGp c ≤ 63) ∧ (∀ a b, 0 ≤ a → a ≤ 3 → 0 ≤ b → b ≤ 3 → (a = b → kC c (a * 4 + b) = 0) ∧ (a ≠ b → 1 ≤ kC c (a * 4 + b) ∧ kC c (a * 4 + b) ≤ 9))
  ∧ (0 ≤ kW c ∧ kW c ≤ 8) ∧ (0 ≤ kL c ∧ kL c ≤ 7) ∧ (0 < kW c → 1 ≤ kL c) ∧ (∀ w i, 0 ≤ w → w < kW c → 0 ≤ i → i < kL c → 0 ≤ kWl c (w * 7 + i) ∧ kWl c (w * 7 + i) < kN c) ∧ (∀ w, 0 ≤ w → w < kW c → 0 ≤ kP c w ∧ kP c w ≤ 2)
  ∧ (0 ≤ kT c ∧ kT c ≤ 5) ∧ (∀ t, 0 ≤ t → t < kT c → 1 ≤ kXs c t ∧ kXs c t ≤ 24) ∧ (∀ t i, 0 ≤ t → t < kT c → 0 ≤ i → i < kXs c t → 0 ≤ kX c (t * 24 + i) ∧ kX c (t * 24 + i) < kN c)
theorem wf_let {M : Mem} (h : WfK (cf M)) : 2 ≤ M 1 0 ∧ M 1 0 ≤ 4 := h.1
theorem wf_sw {M : Mem} (h : WfK (cf M)) : 0 ≤ M 1 1 ∧ M 1 1 ≤ 9 := h.2.1
theorem wf_dr {M : Mem} (h : WfK (cf M)) : 1 ≤ M 1 2 ∧ M 1 2 ≤ 9 := h.2.2.1
theorem wf_gp {M : Mem} (h : WfK (cf M)) : 0 ≤ M 1 3 ∧ M 1 3 ≤ 63 := h.2.2.2.1
theorem wf_co {M : Mem} (h : WfK (cf M)) : ∀ a b, 0 ≤ a → a ≤ 3 → 0 ≤ b → b ≤ 3 → (a = b → M 2 (a * 4 + b) = 0) ∧ (a ≠ b → 1 ≤ M 2 (a * 4 + b) ∧ M 2 (a * 4 + b) ≤ 9) := h.2.2.2.2.1
theorem wf_w {M : Mem} (h : WfK (cf M)) : 0 ≤ M 6 0 ∧ M 6 0 ≤ 8 := h.2.2.2.2.2.1
theorem wf_l {M : Mem} (h : WfK (cf M)) : 0 ≤ M 6 1 ∧ M 6 1 ≤ 7 := h.2.2.2.2.2.2.1
theorem wf_l1 {M : Mem} (h : WfK (cf M)) : 0 < M 6 0 → 1 ≤ M 6 1 := h.2.2.2.2.2.2.2.1
theorem wf_wl {M : Mem} (h : WfK (cf M)) : ∀ w i, 0 ≤ w → w < M 6 0 → 0 ≤ i → i < M 6 1 → 0 ≤ M 7 (w * 7 + i) ∧ M 7 (w * 7 + i) < M 1 0 := h.2.2.2.2.2.2.2.2.1
theorem wf_p {M : Mem} (h : WfK (cf M)) : ∀ w, 0 ≤ w → w < M 6 0 → 0 ≤ M 8 w ∧ M 8 w ≤ 2 := h.2.2.2.2.2.2.2.2.2.1
theorem wf_t {M : Mem} (h : WfK (cf M)) : 0 ≤ M 9 0 ∧ M 9 0 ≤ 5 := h.2.2.2.2.2.2.2.2.2.2.1
theorem wf_xs {M : Mem} (h : WfK (cf M)) : ∀ t, 0 ≤ t → t < M 9 0 → 1 ≤ M 11 t ∧ M 11 t ≤ 24 := h.2.2.2.2.2.2.2.2.2.2.2.1
theorem wf_x {M : Mem} (h : WfK (cf M)) : ∀ t i, 0 ≤ t → t < M 9 0 → 0 ≤ i → i < M 11 t → 0 ≤ M 10 (t * 24 + i) ∧ M 10 (t * 24 + i) < M 1 0 := h.2.2.2.2.2.2.2.2.2.2.2.2
theorem wf_pr {M : Mem} (h : WfK (cf M)) : ∀ k, 0 ≤ k → k < 16 → 0 ≤ M 2 k ∧ M 2 k ≤ 9 := by
  intro k h1 h2
  have h3 := wf_co h (k / 4) (k % 4) (by omega) (by omega) (by omega) (by omega)
  rw [show k / 4 * 4 + k % 4 = k by omega] at h3
  by_cases e : k / 4 = k % 4
  · rw [h3.1 e]; omega
  · have := h3.2 e; omega
theorem wm_let {M : Mem} (h : WfK (cfM M)) : 2 ≤ M 43 1 ∧ M 43 1 ≤ 4 := h.1
theorem wm_sw {M : Mem} (h : WfK (cfM M)) : 0 ≤ M 43 3 ∧ M 43 3 ≤ 9 := h.2.1
theorem wm_dr {M : Mem} (h : WfK (cfM M)) : 1 ≤ M 43 4 ∧ M 43 4 ≤ 9 := h.2.2.1
theorem wm_gp {M : Mem} (h : WfK (cfM M)) : 0 ≤ M 43 5 ∧ M 43 5 ≤ 63 := h.2.2.2.1
theorem wm_co {M : Mem} (h : WfK (cfM M)) : ∀ a b, 0 ≤ a → a ≤ 3 → 0 ≤ b → b ≤ 3 → (a = b → M 44 (a * 4 + b) = 0) ∧ (a ≠ b → 1 ≤ M 44 (a * 4 + b) ∧ M 44 (a * 4 + b) ≤ 9) := h.2.2.2.2.1
theorem wm_w {M : Mem} (h : WfK (cfM M)) : 0 ≤ M 43 6 ∧ M 43 6 ≤ 8 := h.2.2.2.2.2.1
theorem wm_l {M : Mem} (h : WfK (cfM M)) : 0 ≤ M 43 7 ∧ M 43 7 ≤ 7 := h.2.2.2.2.2.2.1
theorem wm_l1 {M : Mem} (h : WfK (cfM M)) : 0 < M 43 6 → 1 ≤ M 43 7 := h.2.2.2.2.2.2.2.1
theorem wm_wl {M : Mem} (h : WfK (cfM M)) : ∀ w i, 0 ≤ w → w < M 43 6 → 0 ≤ i → i < M 43 7 → 0 ≤ M 45 (w * 7 + i) ∧ M 45 (w * 7 + i) < M 43 1 := h.2.2.2.2.2.2.2.2.1
theorem wm_p {M : Mem} (h : WfK (cfM M)) : ∀ w, 0 ≤ w → w < M 43 6 → 0 ≤ M 46 w ∧ M 46 w ≤ 2 := h.2.2.2.2.2.2.2.2.2.1
theorem wm_t {M : Mem} (h : WfK (cfM M)) : 0 ≤ M 43 10 ∧ M 43 10 ≤ 5 := h.2.2.2.2.2.2.2.2.2.2.1
theorem wm_xs {M : Mem} (h : WfK (cfM M)) : ∀ t, 0 ≤ t → t < M 43 10 → 1 ≤ M 48 t ∧ M 48 t ≤ 24 := h.2.2.2.2.2.2.2.2.2.2.2.1
theorem wm_x {M : Mem} (h : WfK (cfM M)) : ∀ t i, 0 ≤ t → t < M 43 10 → 0 ≤ i → i < M 48 t → 0 ≤ M 47 (t * 24 + i) ∧ M 47 (t * 24 + i) < M 43 1 := h.2.2.2.2.2.2.2.2.2.2.2.2
theorem wm_pr {M : Mem} (h : WfK (cfM M)) : ∀ k, 0 ≤ k → k < 16 → 0 ≤ M 44 k ∧ M 44 k ≤ 9 := by
  intro k h1 h2
  have h3 := wm_co h (k / 4) (k % 4) (by omega) (by omega) (by omega) (by omega)
  rw [show k / 4 * 4 + k % 4 = k by omega] at h3
  by_cases e : k / 4 = k % 4
  · rw [h3.1 e]; omega
  · have := h3.2 e; omega
