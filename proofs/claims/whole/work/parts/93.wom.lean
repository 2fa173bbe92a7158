/-! WITHOUT k: the (k + 1)-th greatest DISTANCE and the sets that are HELD -/
theorem cnI_le {p q : Int → Bool} : ∀ n, 0 ≤ n → (∀ j, 0 ≤ j → j < n → p j = true → q j = true) → cnI p n ≤ cnI q n := by
  apply int_ind
  · intro _; exact Int.le_refl _
  · intro n h ih hz
    have h1 := ih (fun j q1 q2 => hz j q1 (by omega))
    rw [cnI_s h, cnI_s h]
    by_cases e : p n = true
    · rw [if_pos e, if_pos (hz n h (by omega) e)]; omega
    · rw [if_neg e]; split <;> omega
theorem cnI_lt {p q : Int → Bool} {j0 : Int} (h0 : 0 ≤ j0) (hq : q j0 = true) (hp : p j0 = false) : ∀ n, 0 ≤ n → j0 < n → (∀ j, 0 ≤ j → j < n → p j = true → q j = true) → cnI p n + 1 ≤ cnI q n := by
  apply int_ind
  · intro h; omega
  · intro n h ih hj hz
    rw [cnI_s h, cnI_s h]
    by_cases e : j0 = n
    · have h1 := cnI_le (p := p) (q := q) n h (fun j q1 q2 => hz j q1 (by omega))
      rw [← e, hq, hp]
      rw [← e] at h1
      simp only [if_true, Bool.false_eq_true, if_false]
      omega
    · have h1 := ih (by omega) (fun j q1 q2 => hz j q1 (by omega))
      by_cases e2 : p n = true
      · rw [if_pos e2, if_pos (hz n h (by omega) e2)]; omega
      · rw [if_neg e2]; split <;> omega
/-- NEAR WORDS further than r -/
def fuB (D P : Int → Int) (r w : Int) : Bool := decide (P w = 1) && decide (r < D w)
theorem ahB_t {D P : Int → Int} {w o : Int} : ahB D P w o = true ↔ P o = 1 ∧ (D w < D o ∨ (D o = D w ∧ o < w)) := by
  unfold ahB
  simp only [Bool.and_eq_true, Bool.or_eq_true, decide_eq_true_eq]
theorem fuB_t {D P : Int → Int} {r w : Int} : fuB D P r w = true ↔ P w = 1 ∧ r < D w := by
  unfold fuB
  simp only [Bool.and_eq_true, decide_eq_true_eq]
theorem ah_self {D P : Int → Int} {w : Int} : ahB D P w w = false := by
  rw [Bool.eq_false_iff]
  intro h
  have := ahB_t.mp h
  omega
/-- each rank is some word's -/
theorem rank_all {D P : Int → Int} : ∀ n, 0 ≤ n → ∀ but, 0 ≤ but → but < mny P 1 n → ∃ w, (0 ≤ w ∧ w < n) ∧ P w = 1 ∧ cnI (ahB D P w) n = but := by
  apply int_ind
  · intro but h1 h2; rw [mny_0] at h2; omega
  · intro n hn ih but h1 h2
    rw [mny_s hn] at h2
    by_cases hp : P n = 1
    · rw [if_pos hp] at h2
      have hs : cnI (ahB D P n) (n + 1) = cnI (ahB D P n) n := by rw [cnI_s hn, ah_self]; simp
      have hr := cnI_rng (p := ahB D P n) n hn
      have hsplit : ∀ w, 0 ≤ w → w < n → P w = 1 → (D n ≤ D w → cnI (ahB D P w) (n + 1) = cnI (ahB D P w) n ∧ cnI (ahB D P w) n + 1 ≤ cnI (ahB D P n) n) ∧ (D w < D n → cnI (ahB D P w) (n + 1) = cnI (ahB D P w) n + 1 ∧ cnI (ahB D P n) n ≤ cnI (ahB D P w) n) := by
        intro w q1 q2 q3
        refine ⟨fun q => ⟨?_, ?_⟩, fun q => ⟨?_, ?_⟩⟩
        · rw [cnI_s hn, if_neg (fun h => by have := ahB_t.mp h; omega)]; omega
        · refine cnI_lt q1 (ahB_t.mpr ⟨q3, by omega⟩) ah_self n hn q2 (fun j z1 z2 z3 => ?_)
          have := ahB_t.mp z3
          exact ahB_t.mpr ⟨this.1, by omega⟩
        · rw [cnI_s hn, if_pos (ahB_t.mpr ⟨hp, by omega⟩)]
        · refine cnI_le n hn (fun j z1 z2 z3 => ?_)
          have := ahB_t.mp z3
          exact ahB_t.mpr ⟨this.1, by omega⟩
      rcases Int.lt_trichotomy but (cnI (ahB D P n) n) with q | q | q
      · have hm : but < mny P 1 n := by
          have h5 : cnI (ahB D P n) n ≤ mny P 1 n := by
            have h6 : ∀ m, 0 ≤ m → cnI (ahB D P n) m ≤ mny P 1 m := by
              apply int_ind
              · rw [cnI_0, mny_0]; omega
              · intro m hm ih2
                rw [cnI_s hm, mny_s hm]
                by_cases e : ahB D P n m = true
                · rw [if_pos e, if_pos (ahB_t.mp e).1]; omega
                · rw [if_neg e]; split <;> omega
            exact h6 n hn
          omega
        obtain ⟨w, w1, w2, w3⟩ := ih but h1 hm
        refine ⟨w, by omega, w2, ?_⟩
        have h5 := hsplit w w1.1 w1.2 w2
        rcases Int.lt_or_le (D w) (D n) with z | z
        · have := (h5.2 z).2; omega
        · rw [(h5.1 z).1]; exact w3
      · exact ⟨n, by omega, hp, by rw [hs]; omega⟩
      · obtain ⟨w, w1, w2, w3⟩ := ih (but - 1) (by omega) (by omega)
        refine ⟨w, by omega, w2, ?_⟩
        have h5 := hsplit w w1.1 w1.2 w2
        rcases Int.lt_or_le (D w) (D n) with z | z
        · have := (h5.2 z).1; omega
        · have := (h5.1 z).2; omega
    · rw [if_neg hp] at h2
      obtain ⟨w, w1, w2, w3⟩ := ih but h1 (by omega)
      refine ⟨w, by omega, w2, ?_⟩
      rw [cnI_s hn, if_neg (fun h => hp (ahB_t.mp h).1)]
      omega
theorem rbN_is {D P : Int → Int} {W but w0 : Int} (h0 : 0 ≤ w0 ∧ w0 < W) (hp : P w0 = 1) (hb : ahI D P W w0 = but) : ∀ n : Nat, w0 < (n : Int) → (n : Int) ≤ W → ∃ w, (0 ≤ w ∧ w < (n : Int)) ∧ P w = 1 ∧ ahI D P W w = but ∧ rbN D P W but n = D w
  | 0, h, _ => by omega
  | n + 1, h, hn => by
    rw [rbN]
    by_cases e : P (n : Int) = 1 ∧ ahI D P W (n : Int) = but
    · rw [if_pos e]
      exact ⟨n, by omega, e.1, e.2, rfl⟩
    · rw [if_neg e]
      have hne : w0 ≠ (n : Int) := fun z => e (by rw [← z]; exact ⟨hp, hb⟩)
      obtain ⟨w, a, b⟩ := rbN_is h0 hp hb n (by omega) (by omega)
      exact ⟨w, by omega, b⟩
theorem rbN_no {D P : Int → Int} {W but : Int} : ∀ n : Nat, (∀ w, 0 ≤ w → w < (n : Int) → P w = 1 → ahI D P W w ≠ but) → rbN D P W but n = 0
  | 0, _ => rfl
  | n + 1, h => by
    rw [rbN, if_neg (fun e => h n (by omega) (by omega) e.1 e.2)]
    exact rbN_no n (fun w q1 q2 => h w q1 (by omega))
theorem rb_le {D P : Int → Int} {W but r : Int} (hW : 0 ≤ W) (hb : 0 ≤ but) (hr : 0 ≤ r) : rbN D P W but W.toNat ≤ r ↔ cnI (fuB D P r) W ≤ but := by
  have key : ∀ w, 0 ≤ w → w < W → P w = 1 → ahI D P W w = but → (D w ≤ r ↔ cnI (fuB D P r) W ≤ but) := by
    intro w q1 q2 q3 q4
    have q5 : cnI (ahB D P w) W = but := q4
    constructor
    · intro h
      rw [← q5]
      refine cnI_le W hW (fun j z1 z2 z3 => ?_)
      have := fuB_t.mp z3
      exact ahB_t.mpr ⟨this.1, by omega⟩
    · intro h
      rcases Int.lt_or_le r (D w) with z | z
      · have := cnI_lt (p := ahB D P w) (q := fuB D P r) q1 (fuB_t.mpr ⟨q3, z⟩) ah_self W hW q2 (fun j z1 z2 z3 => by
          have := ahB_t.mp z3
          exact fuB_t.mpr ⟨this.1, by omega⟩)
        omega
      · exact z
  rcases Int.lt_or_le but (mny P 1 W) with q | q
  · obtain ⟨w0, a, b, d⟩ := rank_all (D := D) (P := P) W hW but hb q
    obtain ⟨w, w1, w2, w3, w4⟩ := rbN_is (D := D) (P := P) (W := W) (but := but) a b d W.toNat (by omega) (by omega)
    rw [w4]
    exact key w w1.1 (by omega) w2 w3
  · have h5 : ∀ m, 0 ≤ m → cnI (fuB D P r) m ≤ mny P 1 m := by
      apply int_ind
      · rw [cnI_0, mny_0]; omega
      · intro m hm ih2
        rw [cnI_s hm, mny_s hm]
        by_cases e : fuB D P r m = true
        · rw [if_pos e, if_pos (fuB_t.mp e).1]; omega
        · rw [if_neg e]; split <;> omega
    have h6 := h5 W hW
    refine ⟨fun _ => by omega, fun _ => ?_⟩
    by_cases hx : ∃ w, (0 ≤ w ∧ w < W) ∧ P w = 1 ∧ ahI D P W w = but
    · obtain ⟨w0, a, b, d⟩ := hx
      have h7 : cnI (ahB D P w0) W = but := d
      have h8 : ∀ m, 0 ≤ m → cnI (ahB D P w0) m ≤ cnI (fun o => decide (P o = 1)) m := fun m hm => cnI_le m hm (fun j _ _ z => decide_eq_true (ahB_t.mp z).1)
      have h9 := cnI_lt (p := ahB D P w0) (q := fun o => decide (P o = 1)) a.1 (decide_eq_true b) ah_self W hW a.2 (fun j _ _ z => decide_eq_true (ahB_t.mp z).1)
      have h10 : ∀ m, 0 ≤ m → cnI (fun o => decide (P o = 1)) m = mny P 1 m := by
        apply int_ind
        · rfl
        · intro m hm ih2
          rw [cnI_s hm, mny_s hm, ih2]
          simp only [decide_eq_true_eq]
      rw [h10 W hW] at h9
      omega
    · rw [rbN_no W.toNat (fun w q1 q2 q3 q4 => hx ⟨w, ⟨q1, by omega⟩, q3, q4⟩)]
      exact hr
theorem mxW_le {f p : Int → Int} {r : Int} (hr : 0 ≤ r) : ∀ n : Nat, mxW f p n ≤ r ↔ cnI (fuB f p r) (n : Int) ≤ 0
  | 0 => by rw [mxW]; constructor <;> intro _ <;> first | exact hr | exact Int.le_refl 0
  | n + 1 => by
    have ih := mxW_le (f := f) (p := p) hr n
    have h0 := (cnI_rng (p := fuB f p r) (n : Int) (by omega)).1
    rw [mxW, show ((n + 1 : Nat) : Int) = (n : Int) + 1 by omega, cnI_s (by omega)]
    by_cases e : p (n : Int) = 1
    · rw [if_pos e, mx]
      by_cases g : r < f (n : Int)
      · rw [if_pos (fuB_t.mpr ⟨e, g⟩)]
        constructor
        · intro h; split at h <;> omega
        · intro h; omega
      · rw [if_neg (fun h => g (fuB_t.mp h).2)]
        constructor
        · intro h
          have : mxW f p n ≤ r := by split at h <;> omega
          have := ih.mp this
          omega
        · intro h
          have := ih.mpr (by omega)
          split <;> omega
    · rw [if_neg e, if_neg (fun h => e (fuB_t.mp h).1), ih]
      omega
theorem rb_0 {c : Cfg} (hW : WfK c) (k : Int) : rbK c 0 k = rdK c k := by
  have hw := hW.2.2.2.2.2.1
  have h1 := (rdK_rng hW k).1
  have h2 := rbK_rng hW 0 k
  have a : ∀ r, 0 ≤ r → (rbK c 0 k ≤ r ↔ rdK c k ≤ r) := fun r hr => by
    show rbN (Dw c (rwX c k)) (kP c) (kW c) 0 (kW c).toNat ≤ r ↔ mxW (Dw c (rwX c k)) (kP c) (kW c).toNat ≤ r
    rw [rb_le hw.1 (by decide) hr, mxW_le hr, Int.toNat_of_nonneg hw.1]
  have b := (a (rdK c k) (by omega)).mpr (Int.le_refl _)
  have d := (a (rbK c 0 k) (by omega)).mp (Int.le_refl _)
  omega
theorem nf_rb {c : Cfg} (hW : WfK c) (k : Int) : nfK c k = rbK c k := by
  funext j
  unfold nfK
  split
  · rename_i e; rw [e, rb_0 hW]
  · rfl
/-- bits and counts -/
theorem pc_cn {s W : Nat} {q : Int → Bool} (h : ∀ b : Nat, s.testBit b = (decide (b < W) && q (b : Int))) : ∀ n : Nat, ((pcN s n : Nat) : Int) = cnN q (min n W)
  | 0 => by rw [Nat.zero_min]; rfl
  | n + 1 => by
    have ih := pc_cn h n
    rw [pcN, h n]
    by_cases e : n < W
    · rw [show min (n + 1) W = n + 1 by omega, cnN, Int.natCast_add, ih, show min n W = n by omega]
      simp only [e, decide_true, Bool.true_and]
      split <;> rfl
    · rw [show min (n + 1) W = min n W by omega]
      simp only [e, decide_false, Bool.false_and, Bool.false_eq_true, if_false, Nat.add_zero]
      exact ih
theorem pc_mono {a b : Nat} (h : ∀ i : Nat, a.testBit i = true → b.testBit i = true) : ∀ n, pcN a n ≤ pcN b n
  | 0 => Nat.le_refl _
  | n + 1 => by
    have ih := pc_mono h n
    rw [pcN, pcN]
    by_cases e : a.testBit n = true
    · rw [if_pos e, if_pos (h n e)]; omega
    · rw [if_neg e]; split <;> omega
theorem pc_congr {a b : Nat} : ∀ n, (∀ i : Nat, i < n → a.testBit i = b.testBit i) → pcN a n = pcN b n
  | 0, _ => rfl
  | n + 1, h => by
    rw [pcN, pcN, pc_congr n (fun i hi => h i (by omega)), h n (by omega)]
theorem pc_ivt {s m : Nat} : ∀ n, m ≤ pcN s n → ∃ i, i ≤ n ∧ pcN s i = m
  | 0, h => ⟨0, Nat.le_refl _, by rw [pcN] at h ⊢; omega⟩
  | n + 1, h => by
    by_cases e : m ≤ pcN s n
    · obtain ⟨i, a, b⟩ := pc_ivt n e
      exact ⟨i, by omega, b⟩
    · refine ⟨n + 1, Nat.le_refl _, ?_⟩
      rw [pcN] at h ⊢
      split at h <;> rename_i g
      · rw [if_pos g]; omega
      · omega
theorem pc_zero {s i : Nat} : ∀ n, i ≤ n → pcN (s % 2 ^ i) n = pcN s i := by
  intro n
  induction n with
  | zero => intro h; rw [show i = 0 by omega]; rfl
  | succ n ih =>
    intro h
    by_cases e : i = n + 1
    · rw [e]
      exact pc_congr (n + 1) (fun j hj => by rw [Nat.testBit_mod_two_pow]; simp [hj])
    · rw [pcN, ih (by omega), Nat.testBit_mod_two_pow]
      simp
      intro z; omega
theorem sub_size {L m : Int} (hL : 0 ≤ L ∧ L < 256) (hm : 0 ≤ m ∧ m ≤ bc8 L) : ∃ S, (0 ≤ S ∧ S < 256) ∧ sub2 S L ∧ bc8 S = m := by
  obtain ⟨i, i1, i2⟩ := pc_ivt (s := L.toNat) (m := m.toNat) 8 (by have := hm.2; unfold bc8 at this; omega)
  have h5 : L.toNat % 2 ^ i ≤ L.toNat := Nat.mod_le _ _
  refine ⟨((L.toNat % 2 ^ i : Nat) : Int), by omega, fun b hb => ?_, ?_⟩
  · rw [Int.toNat_natCast, Nat.testBit_mod_two_pow] at hb
    simp at hb
    exact hb.2
  · unfold bc8
    rw [Int.toNat_natCast, pc_zero 8 i1, i2]
    omega
theorem bc_near {c : Cfg} (hW : WfK c) : bc8 (nrB c) = mny (kP c) 1 (kW c) := by
  have hw := hW.2.2.2.2.2.1
  have h := pc_cn (s := (nrB c).toNat) (W := (kW c).toNat) (q := fun o => decide (kP c o = 1)) (fun b => by
    unfold nrB bsI
    rw [Int.toNat_natCast, hvN_bit]) 8
  unfold bc8
  rw [h, show min 8 (kW c).toNat = (kW c).toNat by omega]
  have h10 : ∀ m, 0 ≤ m → cnI (fun o => decide (kP c o = 1)) m = mny (kP c) 1 m := by
    apply int_ind
    · rfl
    · intro m hm ih2
      rw [cnI_s hm, mny_s hm, ih2]
      simp only [decide_eq_true_eq]
  exact h10 (kW c) hw.1
theorem fu_sets {c : Cfg} (hW : WfK c) {x : Int → Int} {k r : Int} (hk : 0 ≤ k) : cnI (fuB (Dw c x) (kP c) r) (kW c) ≤ k ↔ ∃ S, (0 ≤ S ∧ S < 256) ∧ sub2 S (nrB c) ∧ bc8 S = mx2 0 (bc8 (nrB c) - k) ∧ ∀ b : Nat, S.toNat.testBit b = true → Dw c x (b : Int) ≤ r := by
  have hw := hW.2.2.2.2.2.1
  have hL := bqI_rng (q := fun w => decide (kP c w = 1) && decide (Dw c x w ≤ r)) (n := kW c) hw.2
  have hLb : ∀ b : Nat, (bqI (fun w => decide (kP c w = 1) && decide (Dw c x w ≤ r)) (kW c)).toNat.testBit b = (decide (b < (kW c).toNat) && (decide (kP c (b : Int) = 1) && decide (Dw c x (b : Int) ≤ r))) := fun b => by
    unfold bqI
    rw [Int.toNat_natCast, bqN_bit]
  have hLc : bc8 (bqI (fun w => decide (kP c w = 1) && decide (Dw c x w ≤ r)) (kW c)) = cnI (fun w => decide (kP c w = 1) && decide (Dw c x w ≤ r)) (kW c) := by
    have h := pc_cn (q := fun w => decide (kP c w = 1) && decide (Dw c x w ≤ r)) hLb 8
    unfold bc8
    rw [h, show min 8 (kW c).toNat = (kW c).toNat by omega]
    rfl
  have hsum : mny (kP c) 1 (kW c) = cnI (fun w => decide (kP c w = 1) && decide (Dw c x w ≤ r)) (kW c) + cnI (fuB (Dw c x) (kP c) r) (kW c) := by
    have h10 : ∀ m, 0 ≤ m → mny (kP c) 1 m = cnI (fun w => decide (kP c w = 1) && decide (Dw c x w ≤ r)) m + cnI (fuB (Dw c x) (kP c) r) m := by
      apply int_ind
      · rfl
      · intro m hm ih
        rw [mny_s hm, cnI_s hm, cnI_s hm, ih]
        unfold fuB
        by_cases e : kP c m = 1
        · by_cases g : Dw c x m ≤ r
          · simp only [e, g, decide_true, Bool.and_self, if_true, show ¬ r < Dw c x m by omega, decide_false, Bool.and_false, Bool.false_eq_true, if_false]; omega
          · simp only [e, g, decide_true, Bool.and_self, if_true, show r < Dw c x m by omega, decide_false, Bool.and_false, Bool.false_eq_true, if_false]; omega
        · simp only [e, decide_false, Bool.false_and, Bool.false_eq_true, if_false]; omega
    exact h10 (kW c) hw.1
  have hc0 := (cnI_rng (p := fun w => decide (kP c w = 1) && decide (Dw c x w ≤ r)) (kW c) hw.1).1
  have hmx : mx2 0 (bc8 (nrB c) - k) = if 0 ≤ bc8 (nrB c) - k then bc8 (nrB c) - k else 0 := rfl
  rw [hmx, bc_near hW]
  constructor
  · intro h
    obtain ⟨S, s1, s2, s3⟩ := sub_size hL (m := if 0 ≤ mny (kP c) 1 (kW c) - k then mny (kP c) 1 (kW c) - k else 0) (by
      rw [hLc]
      split <;> omega)
    refine ⟨S, s1, fun b hb => ?_, s3, fun b hb => ?_⟩
    · have h5 := s2 b hb
      rw [hLb b] at h5
      simp only [Bool.and_eq_true, decide_eq_true_eq] at h5
      exact (nrB_bit hw.1).mpr ⟨by omega, h5.2.1⟩
    · have h5 := s2 b hb
      rw [hLb b] at h5
      simp only [Bool.and_eq_true, decide_eq_true_eq] at h5
      exact h5.2.2
  · rintro ⟨S, s1, s2, s3, s4⟩
    have h6 : bc8 S ≤ bc8 (bqI (fun w => decide (kP c w = 1) && decide (Dw c x w ≤ r)) (kW c)) := by
      have h7 := pc_mono (a := S.toNat) (b := (bqI (fun w => decide (kP c w = 1) && decide (Dw c x w ≤ r)) (kW c)).toNat) (fun i hi => by
        rw [hLb i]
        have h8 := (nrB_bit hw.1).mp (s2 i hi)
        have h9 := s4 i hi
        simp only [Bool.and_eq_true, decide_eq_true_eq]
        exact ⟨by omega, h8.2, h9⟩) 8
      unfold bc8
      omega
    rw [hLc] at h6
    split at s3 <;> omega
/-- packed rows lie in their order -/
theorem vl4_mono {N : Int} (hN : 2 ≤ N ∧ N ≤ 4) {x y : Int → Int} : ∀ n, 0 ≤ n → (∀ i, 0 ≤ i → i < n → (0 ≤ x i ∧ x i < N) ∧ (0 ≤ y i ∧ y i < N)) → (vl N x n < vl N y n → vl 4 x n < vl 4 y n) ∧ (vl N x n = vl N y n → vl 4 x n = vl 4 y n) := by
  apply int_ind
  · intro _; rw [vl_0, vl_0, vl_0, vl_0]; exact ⟨id, id⟩
  · intro n hn ih h
    have h1 := ih (fun i q1 q2 => h i q1 (by omega))
    have h2 := h n hn (by omega)
    rw [vl_s hn, vl_s hn, vl_s hn, vl_s hn]
    generalize vl N x n = a at *
    generalize vl N y n = b at *
    generalize vl 4 x n = u at *
    generalize vl 4 y n = v at *
    have hN3 : N = 2 ∨ N = 3 ∨ N = 4 := by omega
    rcases Int.lt_trichotomy a b with q | q | q
    · have := h1.1 q
      rcases hN3 with e | e | e <;> subst e <;> omega
    · have := h1.2 q
      subst q
      rcases hN3 with e | e | e <;> subst e <;> omega
    · rcases hN3 with e | e | e <;> subst e <;> omega
theorem pkK_lt {c : Cfg} (hW : WfK c) {i j : Int} (hi : 0 ≤ i) (hij : i < j) (hj : j < nK c) : pkK c i < pkK c j := by
  have hl := hW.2.2.2.2.2.2.1
  have hn := hW.1
  refine (vl4_mono (N := kN c) hn (x := rwX c i) (y := rwX c j) (kL c) hl.1 (fun t _ _ => ⟨rwX_nat hW, rwX_nat hW⟩)).1 ?_
  have e1 : vl (kN c) (rwX c i) (kL c) = i := dg_vl (by omega) (kL c) hl.1 i hi (by show i < nK c; omega)
  have e2 : vl (kN c) (rwX c j) (kL c) = j := dg_vl (by omega) (kL c) hl.1 j (by omega) hj
  rw [e1, e2]
  exact hij
theorem lw_fm {c : Cfg} {K : Int → Int} {k x : Int} (hW : WfK c) (hK : KyOK c K) (hk : 0 ≤ k) (h : LwS K (nrB c) (mx2 0 (bc8 (nrB c) - k)) 256 x) : (x = 2147483647 ∧ ∀ j, 0 ≤ j → j < nK c → cdK c j = false) ∨ ∃ j, FM (cdK c) (nfK c k) (nK c) j ∧ x = rbK c k j * 16384 + pkK c j := by
  have hw := hW.2.2.2.2.2.1
  have hA : ∀ j r, 0 ≤ r → (rbK c k j ≤ r ↔ ∃ S, (0 ≤ S ∧ S < 256) ∧ sub2 S (nrB c) ∧ bc8 S = mx2 0 (bc8 (nrB c) - k) ∧ ∀ b : Nat, S.toNat.testBit b = true → Dw c (rwX c j) (b : Int) ≤ r) := fun j r hr => by
    rw [← fu_sets hW hk]
    exact rb_le hw.1 hk hr
  have hB : ∀ j, 0 ≤ j → j < nK c → cdK c j = true → x ≤ rbK c k j * 16384 + pkK c j := fun j q1 q2 q3 => by
    have hr := rbK_rng hW k j
    obtain ⟨S, s1, s2, s3, s4⟩ := (hA j (rbK c k j) hr.1).mp (Int.le_refl _)
    have h1 := h.1 S s1.1 s1.2 s2 s3
    have h2 := hK.2 j q1 q2 q3 S s1.1 s1.2 s2 (rbK c k j) hr.1 s4
    omega
  have hpk : ∀ j, 0 ≤ pkK c j ∧ pkK c j ≤ 16383 := fun j => vl4_rng hW j
  have hmax : x = 2147483647 → (∀ j, 0 ≤ j → j < nK c → cdK c j = false) := fun e j q1 q2 => by
    cases hq : cdK c j with
    | false => rfl
    | true =>
      have h1 := hB j q1 q2 hq
      have h2 := rbK_rng hW k j
      have h3 := hpk j
      omega
  rcases h.2 with e | ⟨S, s1, s2, s3, s4⟩
  · exact Or.inl ⟨e, hmax e⟩
  · rcases hK.1 S s1.1 s1.2 with e | ⟨j, j1, j2, r, r1, r2, r3⟩
    · exact Or.inl ⟨by omega, hmax (by omega)⟩
    · right
      have h1 := (hA j r r1.1).mpr ⟨S, s1, s2, s3, fun b hb => (r3 b hb).2⟩
      have h2 := hB j j1.1 j1.2 j2
      have h3 := rbK_rng hW k j
      have hr : rbK c k j = r := by omega
      refine ⟨j, ⟨j1.1, j1.2, j2, fun i q1 q2 q3 => ?_⟩, by rw [hr]; omega⟩
      rw [nf_rb hW]
      have h4 := hB i q1 q2 q3
      have h5 := hpk i
      have h6 := hpk j
      rcases Int.lt_trichotomy (rbK c k j) (rbK c k i) with z | z | z
      · exact Or.inl z
      · refine Or.inr ⟨z, ?_⟩
        rcases Int.lt_or_le i j with y | y
        · have := pkK_lt hW q1 y j1.2
          omega
        · exact y
      · omega
theorem lw_ans {c : Cfg} {K : Int → Int} {k x : Int} (hW : WfK c) (hn : nrB c ≠ 0) (hK : KyOK c K) (hk : 0 ≤ k ∧ k ≤ 7) (h : LwS K (nrB c) (mx2 0 (bc8 (nrB c) - k)) 256 x) : (x = 2147483647 ∧ ∀ g, PWo c k g (-1)) ∨ (∃ j, x = rbK c k j * 16384 + pkK c j ∧ x ≠ 2147483647 ∧ x / 16384 = rbK c k j ∧ x % 16384 = pkK c j ∧ ∀ g, PWo c k g (g j)) := by
  rcases lw_fm hW hK hk.1 h with ⟨a, b⟩ | ⟨j, a, b⟩
  · exact Or.inl ⟨a, fun g => Or.inl ⟨hk, Or.inr (Or.inl ⟨hn, b, rfl⟩)⟩⟩
  · have h1 := rbK_rng hW k j
    have h2 : 0 ≤ pkK c j ∧ pkK c j ≤ 16383 := vl4_rng hW j
    exact Or.inr ⟨j, b, by omega, by omega, by omega, fun g => Or.inl ⟨hk, Or.inr (Or.inr ⟨hn, j, a, rfl⟩)⟩⟩
theorem lo_eq {c : Cfg} (hW : WfK c) (k j : Int) : bqI (fun w => decide (kP c w = 1) && decide (rbK c k j < Dw c (fun i => dg 4 (kL c) (pkK c j) i) w)) (kW c) = loK c k j := by
  unfold loK
  refine bqI_congr (fun w q1 q2 => ?_)
  have hl := hW.2.2.2.2.2.2.1
  have e : Dw c (fun i => dg 4 (kL c) (pkK c j) i) w = Dw c (rwX c j) w := Dw_congr hl.1 (fun i z1 z2 => dg4_row hW ⟨z1, z2⟩)
  rw [e]
