/-! the keys: for each set of NEAR WORDS the least r and the first row that holds it -/
def nthN (P : Int → Int) : Nat → Int → Int
  | 0, _ => 0
  | n + 1, t => if P (n : Int) = 1 ∧ mny P 1 (n : Int) = t then (n : Int) else nthN P n t
def wof (c : Cfg) (t : Int) : Int := nthN (kP c) (kW c).toNat t
theorem nthN_ok {P : Int → Int} : ∀ (n : Nat) (w : Int), 0 ≤ w → w < (n : Int) → P w = 1 → nthN P n (mny P 1 w) = w
  | 0, w, h1, h2, _ => by omega
  | n + 1, w, h1, h2, h3 => by
    rw [nthN]
    split
    · rename_i e
      exact (mny_inj (p := P) (v := 1) (by omega) h1 e.1 h3 e.2)
    · rename_i e
      refine nthN_ok n w h1 ?_ h3
      have : w ≠ (n : Int) := fun z => e (by rw [← z]; exact ⟨h3, rfl⟩)
      omega
theorem wof_ok {c : Cfg} {w : Int} (hw : 0 ≤ w ∧ w < kW c) (h : kP c w = 1) : wof c (mny (kP c) 1 w) = w := nthN_ok (kW c).toNat w hw.1 (by omega) h
theorem wof_t {c : Cfg} (hW : 0 ≤ kW c) {t : Int} (ht : 0 ≤ t ∧ t < mny (kP c) 1 (kW c)) : (0 ≤ wof c t ∧ wof c t < kW c) ∧ kP c (wof c t) = 1 ∧ mny (kP c) 1 (wof c t) = t := by
  obtain ⟨w, a, b, d, e⟩ := mny_sur (p := kP c) (v := 1) (t := t) (kW c) hW ht.1 ht.2
  have h := wof_ok (c := c) ⟨a, b⟩ d
  rw [e] at h
  rw [h]
  exact ⟨⟨a, b⟩, d, e⟩
def pkK (c : Cfg) (k : Int) : Int := vl 4 (rwX c k) (kL c)
theorem nrB_bit {c : Cfg} {b : Nat} (hW : 0 ≤ kW c) : (nrB c).toNat.testBit b = true ↔ (b : Int) < kW c ∧ kP c (b : Int) = 1 := by
  unfold nrB bsI
  rw [Int.toNat_natCast, hvN_bit, Bool.and_eq_true, decide_eq_true_eq, decide_eq_true_eq]
  constructor
  · rintro ⟨a, d⟩; exact ⟨by omega, d⟩
  · rintro ⟨a, d⟩; exact ⟨by omega, d⟩
def KyA (c : Cfg) (K : Int → Int) (n : Int) : Prop := ∀ S, 0 ≤ S → S < 256 → K S = 2147483647 ∨ ∃ k, (0 ≤ k ∧ k < n) ∧ cdK c k = true ∧ ∃ r, (0 ≤ r ∧ r ≤ 63) ∧ K S = r * 16384 + pkK c k ∧ ∀ b : Nat, S.toNat.testBit b = true → ((b : Int) < kW c ∧ kP c (b : Int) = 1) ∧ Dw c (rwX c k) (b : Int) ≤ r
def KyB (c : Cfg) (K : Int → Int) (n : Int) : Prop := ∀ k, 0 ≤ k → k < n → cdK c k = true → ∀ S, 0 ≤ S → S < 256 → sub2 S (nrB c) → ∀ r, 0 ≤ r → (∀ b : Nat, S.toNat.testBit b = true → Dw c (rwX c k) (b : Int) ≤ r) → ∃ T, (0 ≤ T ∧ T < 256) ∧ sub2 S T ∧ K T ≤ r * 16384 + pkK c k
theorem KyA_no {c : Cfg} {K : Int → Int} {n : Int} (h : KyA c K n) : KyA c K (n + 1) := fun S q1 q2 => by
  rcases h S q1 q2 with a | ⟨k, a, b⟩
  · exact Or.inl a
  · exact Or.inr ⟨k, by omega, b⟩
theorem KyB_no {c : Cfg} {K : Int → Int} {n : Int} (h : KyB c K n) (hn : cdK c n = false) : KyB c K (n + 1) := fun k q1 q2 q3 => by
  by_cases e : k = n
  · rw [e, hn] at q3; cases q3
  · exact h k q1 (by omega) q3
theorem Ky_yes {c : Cfg} {K K' D O : Int → Int} {k A : Int} (hW : WfK c) (hA : KyA c K k) (hB : KyB c K k) (h0 : 0 ≤ k) (hy : cdK c k = true) (hD : ∀ t, 0 ≤ t → t < mny (kP c) 1 (kW c) → D t = Dw c (rwX c k) (wof c t)) (hP : PermO O (mny (kP c) 1 (kW c))) (h1 : Snd K K' (wof c) D (mny (kP c) 1 (kW c)) (pkK c k)) (h2 : Dec K K') (h3 : Cmp K' (wof c) D (mny (kP c) 1 (kW c)) (pkK c k) A) (h4 : Bts (wof c) O (mny (kP c) 1 (kW c)) A) : KyA c K' (k + 1) ∧ KyB c K' (k + 1) := by
  have hw := hW.2.2.2.2.2.1
  constructor
  · intro S q1 q2
    rcases h1 S q1 q2 with a | ⟨r, a, b, d⟩
    · rw [a]
      exact KyA_no hA S q1 q2
    · refine Or.inr ⟨k, by omega, hy, r, a, b, fun t ht => ?_⟩
      obtain ⟨u, u1, u2, u3⟩ := d t ht
      have h5 := wof_t hw.1 u1
      rw [hD u u1.1 u1.2] at u3
      rw [u2] at h5 u3
      exact ⟨⟨h5.1.2, h5.2.1⟩, u3⟩
  · intro j q1 q2 q3 S s1 s2 s3 r r1 r2
    by_cases e : j = k
    · subst e
      refine h3 S s1 s2 (fun b hb => ?_) r r1 (fun t t1 t2 t3 => ?_)
      · have hnb := (nrB_bit hw.1).mp (s3 b hb)
        have hlt := mny_lt (p := kP c) (v := 1) (w := (b : Int)) (n := kW c) (by omega) hnb.1 hnb.2
        have hm := mny_rng (p := kP c) (v := 1) (b : Int) (by omega)
        obtain ⟨i, i1, i2, i3⟩ := hP.2 (mny (kP c) 1 (b : Int)) hm.1 hlt
        exact (h4 b).mpr ⟨i, ⟨i1, i2⟩, by rw [i3]; exact wof_ok ⟨by omega, hnb.1⟩ hnb.2⟩
      · have h5 := wof_t hw.1 ⟨t1, t2⟩
        rw [hD t t1 t2]
        have h6 := r2 _ t3
        rw [Int.toNat_of_nonneg h5.1.1] at h6
        exact h6
    · obtain ⟨T, t1, t2, t3⟩ := hB j q1 (by omega) q3 S s1 s2 s3 r r1 r2
      exact ⟨T, t1, t2, Int.le_trans (h2 T t1.1 t1.2) t3⟩
/-- the keys when all is done -/
def KyOK (c : Cfg) (K : Int → Int) : Prop := (∀ S, 0 ≤ S → S < 256 → K S = 2147483647 ∨ ∃ k, (0 ≤ k ∧ k < nK c) ∧ cdK c k = true ∧ ∃ r, (0 ≤ r ∧ r ≤ 63) ∧ K S = r * 16384 + pkK c k ∧ ∀ b : Nat, S.toNat.testBit b = true → ((b : Int) < kW c ∧ kP c (b : Int) = 1) ∧ Dw c (rwX c k) (b : Int) ≤ r) ∧ (∀ k, 0 ≤ k → k < nK c → cdK c k = true → ∀ S, 0 ≤ S → S < 256 → sub2 S (nrB c) → ∀ r, 0 ≤ r → (∀ b : Nat, S.toNat.testBit b = true → Dw c (rwX c k) (b : Int) ≤ r) → K S ≤ r * 16384 + pkK c k)
theorem Ky_low {c : Cfg} {K K' : Int → Int} (hA : KyA c K (nK c)) (hB : KyB c K (nK c)) (h : Low 8 K K') : KyOK c K' := by
  refine ⟨fun S q1 q2 => ?_, fun k q1 q2 q3 S s1 s2 s3 r r1 r2 => ?_⟩
  · obtain ⟨T, t1, t2, t3⟩ := h.1 S q1 q2
    rw [t3]
    rcases hA T t1.1 t1.2 with a | ⟨k, a, b, r, d, e, g⟩
    · exact Or.inl a
    · exact Or.inr ⟨k, a, b, r, d, e, fun b2 hb => g b2 (t2 b2 hb)⟩
  · obtain ⟨T, t1, t2, t3⟩ := hB k q1 q2 q3 S s1 s2 s3 r r1 r2
    exact Int.le_trans (h.2 S T s1 s2 t1.1 t1.2 t2 (fun i hi _ => by have := bit_lt8 t1 hi; omega)) t3
