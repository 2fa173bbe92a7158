/-! THE MOTIF -/
def ptX (c : Cfg) (t i : Int) : Int → Int := fun p => kX c (t * 24 + i + p)
/-- DISTANCE of the first n letters of x to a PIECE -/
def pcD (c : Cfg) (x : Int → Int) (t n i : Int) : Int := dst (kC c) (kSw c) x (ptX c t i) n
def nPc (c : Cfg) (m t : Int) : Int := kXs c t - m + 1
def pfx (c : Cfg) (m t : Int) : Int := smT (nPc c m) t
def moT (c : Cfg) (x : Int → Int) (m t : Int) : Int := miT (pcD c x t m) (nPc c m t)
def moR (c : Cfg) (x : Int → Int) (m : Int) : Int := mxT (moT c x m) (kT c)
def moK (c : Cfg) (m k : Int) : Int := moR c (dg (kN c) m k) m
def okM (c : Cfg) (m : Int) : Prop := 1 ≤ m ∧ m ≤ 6 ∧ 0 < kT c ∧ ∀ t, 0 ≤ t → t < kT c → m ≤ kXs c t
theorem pc_nn {c : Cfg} (hW : WfK c) {x : Int → Int} {m t i : Int} (ht : 0 ≤ t ∧ t < kT c) (hi : 0 ≤ i ∧ i < nPc c m t) (hx : ∀ p, 0 ≤ p → p < m → 0 ≤ x p ∧ x p ≤ 3) : ∀ p, 0 ≤ p → p < m → 0 ≤ kC c (x p * 4 + ptX c t i p) ∧ kC c (x p * 4 + ptX c t i p) ≤ 9 := by
  obtain ⟨h1, h2, h3, h4, h5, h6, h7, h8, h9, h10, h11, h12, h13⟩ := hW
  intro p q1 q2
  have hn : nPc c m t = kXs c t - m + 1 := rfl
  have a := hx p q1 q2
  have b := h13 t (i + p) ht.1 ht.2 (by omega) (by omega)
  rw [← Int.add_assoc] at b
  have d := h5 (x p) (kX c (t * 24 + i + p)) a.1 a.2 b.1 (by omega)
  show 0 ≤ kC c (x p * 4 + kX c (t * 24 + i + p)) ∧ kC c (x p * 4 + kX c (t * 24 + i + p)) ≤ 9
  by_cases e : x p = kX c (t * 24 + i + p)
  · have := d.1 e; omega
  · have := d.2 e; omega
theorem pcD_rng {c : Cfg} (hW : WfK c) {x : Int → Int} {m t i : Int} (ht : 0 ≤ t ∧ t < kT c) (hi : 0 ≤ i ∧ i < nPc c m t) (hx : ∀ p, 0 ≤ p → p < m → 0 ≤ x p ∧ x p ≤ 3) : ∀ n, 0 ≤ n → n ≤ m → 0 ≤ pcD c x t n i ∧ pcD c x t n i ≤ 9 * n := dst_rng (hW.2.1).1 (pc_nn hW ht hi hx)
theorem pcD_congr {c : Cfg} {x y : Int → Int} {t n i : Int} (hn : 0 ≤ n) (hx : ∀ p, 0 ≤ p → p < n → x p = y p) : pcD c x t n i = pcD c y t n i := dst_congr (n := n) hx (fun _ _ _ => rfl) (fun _ _ _ => rfl) n hn (Int.le_refl _)
theorem moT_rng {c : Cfg} (hW : WfK c) {x : Int → Int} {m t : Int} (hm : 0 ≤ m ∧ m ≤ 6) (ht : 0 ≤ t ∧ t < kT c) (hp : m ≤ kXs c t) (hx : ∀ p, 0 ≤ p → p < m → 0 ≤ x p ∧ x p ≤ 3) : 0 ≤ moT c x m t ∧ moT c x m t ≤ 54 := by
  have hn : nPc c m t = kXs c t - m + 1 := rfl
  refine (miT_rng (f := pcD c x t m) (n := nPc c m t) (B := 54) (by omega) (by decide) (fun j q1 q2 => ?_)).1
  have := pcD_rng hW ht ⟨q1, q2⟩ hx m hm.1 (Int.le_refl _)
  omega
theorem moR_rng {c : Cfg} (hW : WfK c) {x : Int → Int} {m : Int} (hm : okM c m) (hx : ∀ p, 0 ≤ p → p < m → 0 ≤ x p ∧ x p ≤ 3) : 0 ≤ moR c x m ∧ moR c x m ≤ 54 := by
  obtain ⟨a, b, d, e⟩ := hm
  exact (fold_rng (f := moT c x m) (B := 54) (n := kT c) (by decide) (fun t q1 q2 => moT_rng hW (by omega) ⟨q1, q2⟩ (e t q1 q2) hx) (kT c) (by omega) (Int.le_refl _)).1
theorem moK_rng {c : Cfg} (hW : WfK c) {m k : Int} (hm : okM c m) : 0 ≤ moK c m k ∧ moK c m k ≤ 54 := moR_rng hW hm (fun _ _ _ => dgc_rng hW)
theorem miT_mono {f g : Int → Int} : ∀ n, 0 ≤ n → (∀ j, 0 ≤ j → j < n → f j ≤ g j) → miT f n ≤ miT g n := by
  apply int_ind
  · intro _; exact Int.le_refl _
  · intro n hn ih h
    have a := ih (fun j q1 q2 => h j q1 (by omega))
    have b := h n hn (by omega)
    rw [miT_s hn, miT_s hn]
    split <;> split <;> omega
theorem mxT_mono {f g : Int → Int} : ∀ n, 0 ≤ n → (∀ j, 0 ≤ j → j < n → f j ≤ g j) → mxT f n ≤ mxT g n := by
  apply int_ind
  · intro _; exact Int.le_refl _
  · intro n hn ih h
    have a := ih (fun j q1 q2 => h j q1 (by omega))
    have b := h n hn (by omega)
    rw [mxT_s hn, mxT_s hn]
    split <;> split <;> omega
theorem mxT_congr {f g : Int → Int} : ∀ n, 0 ≤ n → (∀ j, 0 ≤ j → j < n → f j = g j) → mxT f n = mxT g n := by
  apply int_ind
  · intro _; rfl
  · intro n hn ih h
    rw [mxT_s hn, mxT_s hn, ih (fun j q1 q2 => h j q1 (by omega)), h n hn (by omega)]
theorem moR_congr {c : Cfg} {x y : Int → Int} {m : Int} (hm : okM c m) (hx : ∀ p, 0 ≤ p → p < m → x p = y p) : moR c x m = moR c y m := by
  obtain ⟨a, b, d, e⟩ := hm
  refine mxT_congr (kT c) (by omega) (fun t q1 q2 => ?_)
  have hn : nPc c m t = kXs c t - m + 1 := rfl
  have := e t q1 q2
  exact miT_congr (nPc c m t) (by omega) (fun i _ _ => pcD_congr (by omega) hx)
/-- what a distance comes to at the least, behind its first p + 1 letters -/
theorem dst_low {c : Int → Int} {sw : Int} {x y : Int → Int} {n p B : Int} (hs : 0 ≤ sw) (hp : 0 ≤ p) (hc : ∀ i, 0 ≤ i → i < n → 0 ≤ c (x i * 4 + y i) ∧ c (x i * 4 + y i) ≤ 9) (h1 : B ≤ dst c sw x y (p + 1)) (h2 : 0 < sw → B ≤ dst c sw x y p + sw) : ∀ e, 0 ≤ e → (p + 1 + e ≤ n → B ≤ dst c sw x y (p + 1 + e) ∧ (e = 0 ∨ B ≤ dst c sw x y (p + e))) := by
  apply int_ind
  · intro _; rw [Int.add_zero]; exact ⟨h1, Or.inl rfl⟩
  · intro e he ih hn
    have ih := ih (by omega)
    have hq := hc (p + 1 + e) (by omega) (by omega)
    refine ⟨?_, Or.inr (by rw [show p + (e + 1) = p + 1 + e by omega]; exact ih.1)⟩
    rw [show p + 1 + (e + 1) = p + 1 + e + 1 by omega, dst_succ (by omega)]
    split
    · rename_i g
      rw [show p + 1 + e - 1 = p + e by omega]
      unfold mn
      split
      · omega
      · rcases ih.2 with z | z
        · have := h2 g.2.1
          rw [z, Int.add_zero]
          exact this
        · omega
    · omega
/-- the bound that the class keeps for a PIECE -/
def lsP (c : Cfg) (x : Int → Int) (m p t i : Int) : Int := if 0 < kSw c ∧ p < m - 1 ∧ pcD c x t p i + kSw c < pcD c x t (p + 1) i then pcD c x t p i + kSw c else pcD c x t (p + 1) i
def lrP (c : Cfg) (x : Int → Int) (m p : Int) : Int := mxT (fun t => miT (lsP c x m p t) (nPc c m t)) (kT c)
theorem ls_le {c : Cfg} (hW : WfK c) {x y : Int → Int} {m p t i : Int} (hp : 0 ≤ p ∧ p < m) (ht : 0 ≤ t ∧ t < kT c) (hi : 0 ≤ i ∧ i < nPc c m t) (hy : ∀ q, 0 ≤ q → q < m → 0 ≤ y q ∧ y q ≤ 3) (hxy : ∀ q, 0 ≤ q → q < p + 1 → x q = y q) : lsP c x m p t i ≤ pcD c y t m i := by
  have hs := hW.2.1
  have e1 : pcD c x t p i = pcD c y t p i := pcD_congr hp.1 (fun q z1 z2 => hxy q z1 (by omega))
  have e2 : pcD c x t (p + 1) i = pcD c y t (p + 1) i := pcD_congr (by omega) hxy
  unfold lsP
  rw [e1, e2]
  by_cases e : p = m - 1
  · rw [if_neg (by omega), show p + 1 = m by omega]
    exact Int.le_refl _
  · have h := (dst_low (c := kC c) (sw := kSw c) (x := y) (y := ptX c t i) (n := m) (p := p) (B := if 0 < kSw c ∧ p < m - 1 ∧ pcD c y t p i + kSw c < pcD c y t (p + 1) i then pcD c y t p i + kSw c else pcD c y t (p + 1) i) hs.1 hp.1 (pc_nn hW ht hi hy) (by
      have z : dst (kC c) (kSw c) y (ptX c t i) (p + 1) = pcD c y t (p + 1) i := rfl
      rw [z]
      split <;> omega) (fun z0 => by
      have z : dst (kC c) (kSw c) y (ptX c t i) p = pcD c y t p i := rfl
      rw [z]
      split
      · omega
      · rename_i g
        have : ¬ (pcD c y t p i + kSw c < pcD c y t (p + 1) i) := fun q => g ⟨z0, by omega, q⟩
        omega) (m - (p + 1)) (by omega) (by omega)).1
    rw [show p + 1 + (m - (p + 1)) = m by omega] at h
    exact h
theorem lr_le {c : Cfg} (hW : WfK c) {x y : Int → Int} {m p : Int} (hm : okM c m) (hp : 0 ≤ p ∧ p < m) (hy : ∀ q, 0 ≤ q → q < m → 0 ≤ y q ∧ y q ≤ 3) (hxy : ∀ q, 0 ≤ q → q < p + 1 → x q = y q) : lrP c x m p ≤ moR c y m := by
  obtain ⟨a, b, d, e⟩ := hm
  refine mxT_mono (kT c) (by omega) (fun t q1 q2 => ?_)
  have hn : nPc c m t = kXs c t - m + 1 := rfl
  have := e t q1 q2
  exact miT_mono (nPc c m t) (by omega) (fun i z1 z2 => ls_le hW hp ⟨q1, q2⟩ ⟨z1, z2⟩ hy hxy)
theorem lr_whole {c : Cfg} {x : Int → Int} {m : Int} (hm : okM c m) : lrP c x m (m - 1) = moR c x m := by
  obtain ⟨a, b, d, e⟩ := hm
  refine mxT_congr (kT c) (by omega) (fun t q1 q2 => ?_)
  have hn : nPc c m t = kXs c t - m + 1 := rfl
  have := e t q1 q2
  refine miT_congr (nPc c m t) (by omega) (fun i z1 z2 => ?_)
  unfold lsP
  rw [if_neg (by omega), show m - 1 + 1 = m by omega]
theorem lr_rng {c : Cfg} (hW : WfK c) {x : Int → Int} {m p : Int} (hm : okM c m) (hp : 0 ≤ p ∧ p < m) (hx : ∀ q, 0 ≤ q → q < m → 0 ≤ x q ∧ x q ≤ 3) : 0 ≤ lrP c x m p ∧ lrP c x m p ≤ 54 := by
  have h1 := lr_le hW hm hp hx (fun _ _ _ => rfl)
  have h2 := moR_rng hW hm hx
  obtain ⟨a, b, d, e⟩ := hm
  refine ⟨?_, by omega⟩
  have key : ∀ (f : Int → Int) n, 0 ≤ n → 0 ≤ mxT f n := fun f => by
    apply int_ind
    · exact Int.le_refl _
    · intro n hn ih
      rw [mxT_s hn]
      split <;> omega
  exact key _ (kT c) (by omega)
theorem FM_skip {f : Int → Int} {n n2 k : Int} (h : FM (fun _ => true) f n k) (hn : n ≤ n2) (hm : ∀ j, n ≤ j → j < n2 → f k ≤ f j) : FM (fun _ => true) f n2 k := by
  obtain ⟨a, b, d, e⟩ := h
  refine ⟨a, by omega, rfl, fun j q1 q2 q3 => ?_⟩
  by_cases z : j < n
  · exact e j q1 z q3
  · have := hm j (by omega) q2
    omega
/-- what the search has found among the first k rows -/
def MoI (c : Cfg) (m s f k : Int) : Prop := (k = 0 ∧ s = 2147483647) ∨ ∃ b, FM (fun _ => true) (moK c m) k b ∧ s = moK c m b ∧ f = vl 4 (dg (kN c) m b) m
theorem MoI_skip {c : Cfg} {m s f k k2 : Int} (h : MoI c m s f k) (hs : s ≠ 2147483647) (hk : k ≤ k2) (hm : ∀ j, k ≤ j → j < k2 → s ≤ moK c m j) : MoI c m s f k2 := by
  rcases h with ⟨a, b⟩ | ⟨b, a, d, e⟩
  · exact absurd b hs
  · exact Or.inr ⟨b, FM_skip a hk (fun j q1 q2 => by rw [← d]; exact hm j q1 q2), d, e⟩
theorem MoI_new {c : Cfg} {m s f k f2 : Int} (h : MoI c m s f k) (hk : 0 ≤ k) (hlt : moK c m k < s) (hf : f2 = vl 4 (dg (kN c) m k) m) : MoI c m (moK c m k) f2 (k + 1) := by
  refine Or.inr ⟨k, ?_, rfl, hf⟩
  rcases h with ⟨a, b⟩ | ⟨b, a, d, e⟩
  · subst a
    exact FM_first (fun j q1 q2 => by omega) rfl (by omega)
  · exact FM_new a rfl (by omega) hk
theorem MoI_rng {c : Cfg} (hW : WfK c) {m s f k : Int} (hm : okM c m) (h : MoI c m s f k) : 0 ≤ s ∧ s ≤ 2147483647 := by
  rcases h with ⟨a, b⟩ | ⟨b, a, d, e⟩
  · omega
  · have := moK_rng hW (k := b) hm
    omega
/-- all rows are looked at -/
def MoS (c : Cfg) (m s f : Int) : Prop := ∃ b, FM (fun _ => true) (moK c m) (kN c ^ m.toNat) b ∧ s = moK c m b ∧ f = vl 4 (dg (kN c) m b) m
theorem MoI_end {c : Cfg} (hW : WfK c) {m s f : Int} (h : MoI c m s f (kN c ^ m.toNat)) : MoS c m s f := by
  rcases h with ⟨a, b⟩ | h
  · have : (0 : Int) < kN c ^ m.toNat := Int.pow_pos (by have := hW.1; omega)
    omega
  · exact h
/-- the walk stands ready for the texts -/
def MoA (c : Cfg) (M : Mem) (m : Int) : Prop := M 37 4 = 120 ∧ M 37 0 = m ∧ M 37 1 = pfx c m (kT c) ∧ (∀ t i p, 0 ≤ t → t < kT c → 0 ≤ i → i < nPc c m t → 0 ≤ p → p < m → M 40 (p * 120 + (pfx c m t + i)) = kX c (t * 24 + i + p)) ∧ ∀ i t, 0 ≤ i → i < m → 0 ≤ t → t < M 37 1 → 0 ≤ M 40 (i * 120 + t) ∧ M 40 (i * 120 + t) ≤ 3
theorem MoA_c {c : Cfg} {M M' : Mem} {m : Int} (h1 : M' 37 = M 37) (h2 : M' 40 = M 40) (h : MoA c M m) : MoA c M' m := by
  unfold MoA at h ⊢
  rw [h1, h2]
  exact h
theorem pfx_s {c : Cfg} {m t : Int} (h : 0 ≤ t) : pfx c m (t + 1) = pfx c m t + nPc c m t := smT_s h
theorem pfx_rng {c : Cfg} (hW : WfK c) {m : Int} (hm : okM c m) : ∀ t, 0 ≤ t → t ≤ kT c → 0 ≤ pfx c m t ∧ pfx c m t ≤ 24 * t := fun t h1 h2 => by
  obtain ⟨a, b, d, e⟩ := hm
  exact (fold_rng (f := nPc c m) (B := 24) (n := kT c) (by decide) (fun u q1 q2 => by
    have h := e u q1 q2
    have h12 := hW.2.2.2.2.2.2.2.2.2.2.2.1 u q1 q2
    show 0 ≤ kXs c u - m + 1 ∧ kXs c u - m + 1 ≤ 24
    omega) t h1 h2).2
theorem pfx_mono {c : Cfg} {m t : Int} (hm : okM c m) (ht : 0 ≤ t) : ∀ e, 0 ≤ e → (t + e ≤ kT c → pfx c m t ≤ pfx c m (t + e)) := by
  obtain ⟨a, b, d, g⟩ := hm
  apply int_ind
  · intro _; rw [Int.add_zero]; exact Int.le_refl _
  · intro e he ih hn
    have h1 := ih (by omega)
    have h2 := g (t + e) (by omega) (by omega)
    have hn : nPc c m (t + e) = kXs c (t + e) - m + 1 := rfl
    rw [show t + (e + 1) = t + e + 1 by omega, pfx_s (by omega)]
    omega
theorem pfx_in {c : Cfg} {m t i : Int} (hm : okM c m) (ht : 0 ≤ t ∧ t < kT c) (hi : 0 ≤ i ∧ i < nPc c m t) : pfx c m t + i < pfx c m (kT c) := by
  have h1 := pfx_mono hm (t := t + 1) (by omega) (kT c - (t + 1)) (by omega) (by omega)
  rw [show t + 1 + (kT c - (t + 1)) = kT c by omega, pfx_s ht.1] at h1
  omega
theorem MoA_WR {M : Mem} {m : Int} (hW : WfK (cf M)) (hm : okM (cf M) m) (h : MoA (cf M) M m) (hx : ∀ i, 0 ≤ i → i < m → 0 ≤ M 38 i ∧ M 38 i ≤ 3) : WRb M := by
  obtain ⟨a, b, d, e, g⟩ := h
  have h1 := pfx_rng hW hm (kT (cf M)) (by have := hm.2.2.1; omega) (Int.le_refl _)
  have h2 := hW.2.2.2.2.2.2.2.2.2.2.1
  have h3 := hm.1
  have h4 := hm.2.1
  refine ⟨a, by omega, by omega, fun i q1 q2 => hx i q1 (by omega), fun i t q1 q2 q3 q4 => g i t q1 (by omega) q3 q4, wf_pr hW, fun b q1 q2 => ((wf_co hW) b b q1 q2 q1 q2).1 rfl, wf_sw hW⟩
theorem MoA_D {M : Mem} {m : Int} (h : MoA (cf M) M m) {t i n : Int} (ht : 0 ≤ t ∧ t < kT (cf M)) (hi : 0 ≤ i ∧ i < nPc (cf M) m t) (hn : 0 ≤ n ∧ n ≤ m) : wDb M (pfx (cf M) m t + i) n = pcD (cf M) (M 38) t n i := dst_congr (n := m) (fun _ _ _ => rfl) (fun p q1 q2 => h.2.2.2.1 t i p ht.1 ht.2 hi.1 hi.2 q1 q2) (fun _ _ _ => rfl) n hn.1 hn.2
/-- row 0 of the second walk -/
def Z0b (M : Mem) : Prop := (∀ t, 0 ≤ t → t < 120 → M 39 t = 0) ∧ M 41 0 = 0 ∧ M 42 0 = 0
theorem Z0b_c {M M' : Mem} (h1 : M' 39 = M 39) (h2 : M' 41 = M 41) (h3 : M' 42 = M 42) (h : Z0b M) : Z0b M' := by
  unfold Z0b at h ⊢
  rw [h1, h2, h3]
  exact h
theorem WSb_0 {M : Mem} (hT : M 37 1 ≤ 120) (h : Z0b M) : WSb M 0 := by
  refine ⟨fun i q1 q2 t q3 q4 => ?_, fun i q1 q2 => ?_⟩
  · rw [show i = 0 by omega, show 0 * 120 + t = t by omega, h.1 t q3 (by omega)]
    exact dst_0.symm
  · rw [show i = 0 by omega, h.2.1, h.2.2]
    exact ⟨rfl, rfl⟩
theorem WSb_d {M : Mem} {p q : Int} (h : WSb M p) (hq : q ≤ p) : WSb M q := ⟨fun i q1 q2 => h.1 i q1 (by omega), fun i q1 q2 => h.2 i q1 (by omega)⟩
theorem WSb_adv {M M' : Mem} {n p : Int} (h : WSb M n) (hS : Sm [38] M M') (hp : p ≤ n) (hr : ∀ i, 0 ≤ i → i < p → M' 38 i = M 38 i) : WSb M' p := by
  unfold WSb wDb
  rw [hS 37 (by decide), hS 39 (by decide), hS 40 (by decide), hS 41 (by decide), hS 42 (by decide), hS 2 (by decide), hS 1 (by decide)]
  refine ⟨fun i q1 q2 t q3 q4 => ?_, fun i q1 q2 => ?_⟩
  · rw [h.1 i q1 (by omega) t q3 q4]
    exact (dst_congr (n := i) (fun j z1 z2 => hr j z1 (by omega)) (fun _ _ _ => rfl) (fun _ _ _ => rfl) i q1 (Int.le_refl _)).symm
  · rw [(h.2 i q1 (by omega)).1, (h.2 i q1 (by omega)).2]
    exact ⟨(vl_congr (n := i) (fun j z1 z2 => hr j z1 (by omega)) i q1 (Int.le_refl _)).symm, (spI_congr (fun j z1 z2 => hr j z1 (by omega))).symm⟩
theorem WSb_c {M M' : Mem} {p : Int} (h1 : M' 37 = M 37) (h2 : M' 38 = M 38) (h3 : M' 39 = M 39) (h4 : M' 40 = M 40) (h5 : M' 41 = M 41) (h6 : M' 42 = M 42) (h7 : M' 2 = M 2) (h8 : M' 1 = M 1) (h : WSb M p) : WSb M' p := by
  unfold WSb wDb at h ⊢
  rw [h1, h2, h3, h4, h5, h6, h7, h8]
  exact h
/-- what the class reckons with at a place -/
def lsF (M : Mem) (p t : Int) : Int := if 0 < M 1 1 ∧ p < M 37 0 - 1 ∧ M 39 (p * 120 + t) + M 1 1 < M 39 (p * 120 + 120 + t) then M 39 (p * 120 + t) + M 1 1 else M 39 (p * 120 + 120 + t)
theorem lsF_is {M : Mem} {m p t i : Int} (hW : WfK (cf M)) (hm : okM (cf M) m) (h : MoA (cf M) M m) (hS : WSb M (p + 1)) (hp : 0 ≤ p ∧ p < m) (ht : 0 ≤ t ∧ t < kT (cf M)) (hi : 0 ≤ i ∧ i < nPc (cf M) m t) : lsF M p (pfx (cf M) m t + i) = lsP (cf M) (M 38) m p t i := by
  have h1 := pfx_in hm ht hi
  have h2 := pfx_rng hW hm t ht.1 (by omega)
  have e0 : M 39 (p * 120 + (pfx (cf M) m t + i)) = pcD (cf M) (M 38) t p i := by
    rw [hS.1 p hp.1 (by omega) _ (by omega) (by rw [h.2.2.1]; exact h1)]
    exact MoA_D h ht hi (by omega)
  have e1 : M 39 (p * 120 + 120 + (pfx (cf M) m t + i)) = pcD (cf M) (M 38) t (p + 1) i := by
    rw [show p * 120 + 120 = (p + 1) * 120 by omega, hS.1 (p + 1) (by omega) (Int.le_refl _) _ (by omega) (by rw [h.2.2.1]; exact h1)]
    exact MoA_D h ht hi (by omega)
  unfold lsF lsP
  rw [e0, e1, h.2.1]
  rfl
/-- the class's store of motifs -/
def MoC (c : Cfg) (M : Mem) : Prop := ∀ m, 1 ≤ m → m ≤ 6 → M 34 m = -2 ∨ (okM c m ∧ MoS c m (M 34 m) (M 35 m))
theorem MoC_c {c : Cfg} {M M' : Mem} (h1 : M' 34 = M 34) (h2 : M' 35 = M 35) (h : MoC c M) : MoC c M' := by
  unfold MoC at h ⊢
  rw [h1, h2]
  exact h
/-- the answers -/
def PMo (c : Cfg) (m r : Int) : Prop := (okM c m ∧ ∃ k, FM (fun _ => true) (moK c m) (kN c ^ m.toNat) k ∧ r = moK c m k) ∨ (¬ okM c m ∧ r = -1)
def PMoA (c : Cfg) (m i r : Int) : Prop := ((okM c m ∧ 0 ≤ i ∧ i < m) ∧ ∃ k, FM (fun _ => true) (moK c m) (kN c ^ m.toNat) k ∧ r = dg (kN c) m k i) ∨ (¬ (okM c m ∧ 0 ≤ i ∧ i < m) ∧ r = -1)
def PMoI (c : Cfg) (m t r : Int) : Prop := ∃ k, FM (fun _ => true) (moK c m) (kN c ^ m.toNat) k ∧ FM (fun _ => true) (pcD c (dg (kN c) m k) t m) (nPc c m t) r
theorem PMo_one {c : Cfg} {m r s : Int} (h : PMo c m r) (h2 : PMo c m s) : r = s := by
  rcases h with ⟨a, k, b, d⟩ | ⟨a, b⟩ <;> rcases h2 with ⟨a2, k2, b2, d2⟩ | ⟨a2, b2⟩
  · rw [d, d2, FM_one b b2]
  · exact absurd a a2
  · exact absurd a2 a
  · omega
theorem PMoA_one {c : Cfg} {m i r s : Int} (h : PMoA c m i r) (h2 : PMoA c m i s) : r = s := by
  rcases h with ⟨a, k, b, d⟩ | ⟨a, b⟩ <;> rcases h2 with ⟨a2, k2, b2, d2⟩ | ⟨a2, b2⟩
  · rw [d, d2, FM_one b b2]
  · exact absurd a a2
  · exact absurd a2 a
  · omega
theorem PMoI_one {c : Cfg} {m t r s : Int} (h : PMoI c m t r) (h2 : PMoI c m t s) : r = s := by
  obtain ⟨k, a, b⟩ := h
  obtain ⟨k2, a2, b2⟩ := h2
  have e := FM_one a a2
  subst e
  exact FM_one b b2
theorem dg4_m {c : Cfg} (hW : WfK c) {m b i : Int} (hm : 0 ≤ m) (hi : 0 ≤ i ∧ i < m) : dg 4 m (vl 4 (dg (kN c) m b) m) i = dg (kN c) m b i := (vl_dg (N := 4) (x := dg (kN c) m b) (by decide) m hm (fun j _ _ => by have := dgc_rng hW (n := m) (k := b) (i := j); omega) i hi.1 hi.2).symm
theorem vl4_m {c : Cfg} (hW : WfK c) {m b : Int} (hm : 0 ≤ m ∧ m ≤ 6) : 0 ≤ vl 4 (dg (kN c) m b) m ∧ vl 4 (dg (kN c) m b) m ≤ 65536 := by
  have h1 := pk4_lt (x := dg (kN c) m b) (n := m) (fun i _ _ => dgc_rng hW) m hm.1 (Int.le_refl _)
  have h2 := (pw_n (N := 4) (n := m) (by decide) (by omega)).2
  omega
