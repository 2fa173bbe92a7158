/-! the targets of a walk: NEAR WORDS first, FAR WORDS behind them -/
def Aim (M M' : Mem) (v T0 w0 : Int) : Prop := M' 15 0 = M 15 0 ∧ M' 15 4 = 8 ∧ M' 15 1 = T0 + mny (M 8) v w0 ∧ (∀ w, 0 ≤ w → w < w0 → M 8 w = v → M' 13 (T0 + mny (M 8) v w) = 1 * 2 ^ w.toNat ∧ ∀ i, 0 ≤ i → i < M 15 0 → M' 18 (i * 8 + (T0 + mny (M 8) v w)) = M 7 (w * 7 + i)) ∧ (∀ t, 0 ≤ t → t < T0 → M' 13 t = M 13 t ∧ ∀ i, M' 18 (i * 8 + t) = M 18 (i * 8 + t))
theorem Aim_0 {M : Mem} {v T0 : Int} (h1 : M 15 4 = 8) (h2 : M 15 1 = T0) : Aim M M v T0 0 := by
  refine ⟨rfl, h1, by rw [mny_0, h2]; omega, fun w q1 q2 => by omega, fun t _ _ => ⟨rfl, fun _ => rfl⟩⟩
theorem Aim_no {M M' : Mem} {v T0 w0 : Int} (h : Aim M M' v T0 w0) (h0 : 0 ≤ w0) (hn : M 8 w0 ≠ v) : Aim M M' v T0 (w0 + 1) := by
  obtain ⟨a1, a2, a3, a4, a5⟩ := h
  refine ⟨a1, a2, by rw [mny_s h0, if_neg hn, a3]; omega, fun w q1 q2 q3 => a4 w q1 ?_ q3, a5⟩
  by_cases e : w = w0
  · rw [e] at q3; exact absurd q3 hn
  · omega
theorem Aim_yes {M M1 M2 : Mem} {v T0 w0 : Int} (h : Aim M M1 v T0 w0) (h0 : 0 ≤ w0) (hT0 : 0 ≤ T0) (hT : T0 + mny (M 8) v w0 < 8) (hy : M 8 w0 = v) (e1 : M2 15 0 = M1 15 0) (e2 : M2 15 1 = M1 15 1 + 1) (e3 : M2 15 4 = 8) (hb : ∀ j, M2 13 j = if j = M1 15 1 then 1 * 2 ^ w0.toNat else M1 13 j) (h4 : ∀ i, 0 ≤ i → i < M1 15 0 → M2 18 (i * 8 + M1 15 1) = M 7 (w0 * 7 + i)) (h5 : ∀ i t, 0 ≤ t → t < 8 → t ≠ M1 15 1 → M2 18 (i * 8 + t) = M1 18 (i * 8 + t)) : Aim M M2 v T0 (w0 + 1) := by
  obtain ⟨a1, a2, a3, a4, a5⟩ := h
  have hm0 := (mny_rng (p := M 8) (v := v) w0 h0).1
  refine ⟨by rw [e1, a1], e3, by rw [mny_s h0, if_pos hy, e2, a3]; omega, fun w q1 q2 q3 => ?_, fun t q1 q2 => ?_⟩
  · by_cases e : w = w0
    · subst e
      rw [hb, a3, if_pos rfl]
      refine ⟨rfl, fun i z1 z2 => ?_⟩
      rw [← a3]
      exact h4 i z1 (by rw [a1]; exact z2)
    · have hlt := mny_lt (p := M 8) (v := v) (w := w) (n := w0) q1 (by omega) q3
      have hm := (mny_rng (p := M 8) (v := v) w q1).1
      rw [hb, a3, if_neg (by omega)]
      have b := a4 w q1 (by omega) q3
      refine ⟨b.1, fun i z1 z2 => ?_⟩
      rw [h5 i _ (by omega) (by omega) (by omega)]
      exact b.2 i z1 z2
  · have b := a5 t q1 q2
    rw [hb, a3, if_neg (by omega)]
    refine ⟨b.1, fun i => ?_⟩
    rw [h5 i t q1 (by omega) (by omega)]
    exact b.2 i
theorem mny_two {p : Int → Int} {u v : Int} (h : u ≠ v) : ∀ n, 0 ≤ n → mny p u n + mny p v n ≤ n := by
  apply int_ind
  · rw [mny_0, mny_0]; omega
  · intro n hn ih
    rw [mny_s hn, mny_s hn]
    by_cases e : p n = u
    · rw [if_pos e, if_neg (by omega)]; omega
    · rw [if_neg e]; split <;> omega
/-- the walk stands ready for the words of M: near ones first, far ones (with a gap) behind them -/
def CdR (M : Mem) : Prop := M 15 4 = 8 ∧ M 15 0 = M 6 1 ∧ M 12 2 = mny (M 8) 1 (M 6 0) ∧ M 15 1 = M 12 2 + (if 0 < M 1 3 then mny (M 8) 2 (M 6 0) else 0) ∧ (∀ w, 0 ≤ w → w < M 6 0 → M 8 w = 1 → M 13 (mny (M 8) 1 w) = 1 * 2 ^ w.toNat ∧ ∀ i, 0 ≤ i → i < M 6 1 → M 18 (i * 8 + mny (M 8) 1 w) = M 7 (w * 7 + i)) ∧ (∀ w, 0 ≤ w → w < M 6 0 → M 8 w = 2 → 0 < M 1 3 → ∀ i, 0 ≤ i → i < M 6 1 → M 18 (i * 8 + (M 12 2 + mny (M 8) 2 w)) = M 7 (w * 7 + i))
theorem CdR_c {M M' : Mem} (h1 : M' 1 = M 1) (h2 : M' 6 = M 6) (h3 : M' 7 = M 7) (h4 : M' 8 = M 8) (h5 : M' 12 = M 12) (h6 : M' 13 = M 13) (h7 : M' 15 = M 15) (h8 : M' 18 = M 18) (h : CdR M) : CdR M' := by
  unfold CdR at h ⊢
  rw [h1, h2, h3, h4, h5, h6, h7, h8]
  exact h
theorem CdR_WR {M : Mem} (hW : WfK (cf M)) (h : CdR M) (hr : ∀ i, 0 ≤ i → i < M 6 1 → 0 ≤ M 16 i ∧ M 16 i < M 1 0) : WRa M := by
  obtain ⟨a1, a2, a3, a4, a5, a6⟩ := h
  have w1 := wf_let hW
  have w2 := wf_w hW
  have w3 := wf_l hW
  have m1 := mny_rng (p := M 8) (v := 1) (M 6 0) w2.1
  have m2 := mny_rng (p := M 8) (v := 2) (M 6 0) w2.1
  have m3 := mny_two (p := M 8) (u := 1) (v := 2) (by decide) (M 6 0) w2.1
  have hT : 0 ≤ M 15 1 ∧ M 15 1 ≤ 8 := by
    rw [a4]
    split <;> omega
  refine ⟨a1, by omega, hT, fun i q1 q2 => ?_, fun i t q1 q2 q3 q4 => ?_, wf_pr hW, fun b q1 q2 => ((wf_co hW) b b q1 q2 q1 q2).1 rfl, wf_sw hW⟩
  · have := hr i q1 (by omega); omega
  · by_cases e : t < M 12 2
    · obtain ⟨w, b1, b2, b3, b4⟩ := mny_sur (p := M 8) (v := 1) (t := t) (M 6 0) w2.1 q3 (by omega)
      have := (a5 w b1 b2 b3).2 i q1 (by omega)
      rw [b4] at this
      have h9 := wf_wl hW w i b1 b2 q1 (by omega)
      omega
    · have hg : 0 < M 1 3 := by
        rw [a4] at q4
        by_cases g : 0 < M 1 3
        · exact g
        · rw [if_neg g] at q4; omega
      rw [a4, if_pos hg] at q4
      obtain ⟨w, b1, b2, b3, b4⟩ := mny_sur (p := M 8) (v := 2) (t := t - M 12 2) (M 6 0) w2.1 (by omega) (by omega)
      have := a6 w b1 b2 b3 hg i q1 (by omega)
      rw [b4, show M 12 2 + (t - M 12 2) = t by omega] at this
      have h9 := wf_wl hW w i b1 b2 q1 (by omega)
      omega
/-- as bits: the places below n where q holds -/
def bqN (q : Int → Bool) : Nat → Nat
  | 0 => 0
  | n + 1 => if q (n : Int) = true then bqN q n ||| 2 ^ n else bqN q n
def bqI (q : Int → Bool) (n : Int) : Int := ((bqN q n.toNat : Nat) : Int)
theorem bqN_lt (q : Int → Bool) : ∀ n, bqN q n < 2 ^ n
  | 0 => by simp [bqN]
  | n + 1 => by
    have h := bqN_lt q n
    unfold bqN
    have h2 : 2 ^ n < 2 ^ (n + 1) := Nat.pow_lt_pow_right (by decide) (by omega)
    split
    · exact Nat.or_lt_two_pow (by omega) h2
    · omega
theorem bqN_bit (q : Int → Bool) : ∀ n i, (bqN q n).testBit i = (decide (i < n) && q (i : Int))
  | 0, i => by simp [bqN]
  | n + 1, i => by
    have h := bqN_bit q n i
    unfold bqN
    split
    · rename_i hp
      rw [Nat.testBit_or, h, Nat.testBit_two_pow]
      by_cases hi : n = i
      · subst hi
        simp [hp]
      · have : (i < n + 1) ↔ (i < n) := by omega
        simp [hi, this]
    · rename_i hp
      rw [h]
      by_cases hi : n = i
      · subst hi
        simp [hp]
      · have : (i < n + 1) ↔ (i < n) := by omega
        simp [this]
theorem bqI_rng {q : Int → Bool} {n : Int} (hn : n ≤ 8) : 0 ≤ bqI q n ∧ bqI q n < 256 := by
  have h := bqN_lt q n.toNat
  have h2 : 2 ^ n.toNat ≤ 2 ^ 8 := Nat.pow_le_pow_right (by decide) (by omega)
  unfold bqI
  omega
theorem bqI_0 {q : Int → Bool} : bqI q 0 = 0 := rfl
theorem bqI_yes {q : Int → Bool} {n : Int} (h0 : 0 ≤ n) (h : q n = true) : bqI q (n + 1) = (((bqI q n).toNat ||| (1 * 2 ^ n.toNat : Int).toNat : Nat) : Int) := by
  obtain ⟨x, rfl⟩ := Int.eq_ofNat_of_zero_le h0
  unfold bqI
  rw [show ((x : Int) + 1).toNat = x + 1 by omega, show (x : Int).toNat = x by omega]
  have e : ((1 * 2 ^ x : Int)).toNat = 2 ^ x := by
    rw [Int.one_mul, show ((2 : Int) ^ x) = ((2 ^ x : Nat) : Int) by rw [Int.natCast_pow]; rfl]
    rfl
  rw [e, bqN, if_pos h]
  rfl
theorem bqI_no {q : Int → Bool} {n : Int} (h0 : 0 ≤ n) (h : ¬ q n = true) : bqI q (n + 1) = bqI q n := by
  obtain ⟨x, rfl⟩ := Int.eq_ofNat_of_zero_le h0
  unfold bqI
  rw [show ((x : Int) + 1).toNat = x + 1 by omega, show (x : Int).toNat = x by omega, bqN, if_neg h]
theorem bqN_congr {q q' : Int → Bool} : ∀ n : Nat, (∀ i : Nat, i < n → q (i : Int) = q' (i : Int)) → bqN q n = bqN q' n
  | 0, _ => rfl
  | n + 1, h => by
    rw [bqN, bqN, bqN_congr n (fun i hi => h i (by omega)), h n (by omega)]
theorem bqI_congr {q q' : Int → Bool} {n : Int} (h : ∀ i, 0 ≤ i → i < n → q i = q' i) : bqI q n = bqI q' n := by
  unfold bqI
  rw [bqN_congr n.toNat (fun i hi => h i (by omega) (by omega))]
/-- DISTANCE of a row to a WORD -/
def Dw (c : Cfg) (x : Int → Int) (w : Int) : Int := dst (kC c) (kSw c) x (fun i => kWl c (w * 7 + i)) (kL c)
theorem Dw_congr {c : Cfg} {x y : Int → Int} {w : Int} (hl : 0 ≤ kL c) (h : ∀ i, 0 ≤ i → i < kL c → x i = y i) : Dw c x w = Dw c y w := dst_congr (n := kL c) h (fun _ _ _ => rfl) (fun _ _ _ => rfl) (kL c) hl (Int.le_refl _)
theorem Dw_rng {c : Cfg} (hW : WfK c) {x : Int → Int} {w : Int} (hw : 0 ≤ w ∧ w < kW c) (hx : ∀ i, 0 ≤ i → i < kL c → 0 ≤ x i ∧ x i ≤ 3) : 0 ≤ Dw c x w ∧ Dw c x w ≤ 63 := by
  obtain ⟨h1, h2, h3, h4, h5, h6, h7, h8, h9, h10⟩ := hW
  have h := dst_rng (c := kC c) (sw := kSw c) (x := x) (y := fun i => kWl c (w * 7 + i)) (n := kL c) h2.1 (fun i q1 q2 => by
    have a := hx i q1 q2
    have b := h9 w i hw.1 hw.2 q1 q2
    have d := h5 (x i) (kWl c (w * 7 + i)) a.1 a.2 b.1 (by omega)
    show 0 ≤ kC c (x i * 4 + kWl c (w * 7 + i)) ∧ kC c (x i * 4 + kWl c (w * 7 + i)) ≤ 9
    by_cases e : x i = kWl c (w * 7 + i)
    · have := d.1 e; omega
    · have := d.2 e; omega) (kL c) h7.1 (Int.le_refl _)
  show 0 ≤ dst _ _ _ _ _ ∧ dst _ _ _ _ _ ≤ 63
  omega
theorem beg_no {M M1 M2 : Mem} (hF1 : Sm [15, 16] M M1) (e0 : M1 15 0 = M 6 1) (e1 : M1 15 1 = 0) (hF2 : Sm [13, 15, 18] M1 M2) (hA : Aim M1 M2 1 (M1 15 1) (M1 6 0)) (hg : M 1 3 ≤ 0) : CdR (up2 M2 12 2 (M2 15 1)) := by
  have c1 : up2 M2 12 2 (M2 15 1) 1 = M 1 := (up2_ne (by decide)).trans ((hF2 1 (by decide)).trans (hF1 1 (by decide)))
  have c6 : up2 M2 12 2 (M2 15 1) 6 = M 6 := (up2_ne (by decide)).trans ((hF2 6 (by decide)).trans (hF1 6 (by decide)))
  have c7 : up2 M2 12 2 (M2 15 1) 7 = M 7 := (up2_ne (by decide)).trans ((hF2 7 (by decide)).trans (hF1 7 (by decide)))
  have c8 : up2 M2 12 2 (M2 15 1) 8 = M 8 := (up2_ne (by decide)).trans ((hF2 8 (by decide)).trans (hF1 8 (by decide)))
  have c13 : up2 M2 12 2 (M2 15 1) 13 = M2 13 := up2_ne (by decide)
  have c15 : up2 M2 12 2 (M2 15 1) 15 = M2 15 := up2_ne (by decide)
  have c18 : up2 M2 12 2 (M2 15 1) 18 = M2 18 := up2_ne (by decide)
  obtain ⟨a1, a2, a3, a4, a5⟩ := hA
  rw [e1, hF1 8 (by decide), hF1 6 (by decide)] at a3
  rw [e1, e0, hF1 8 (by decide), hF1 6 (by decide), hF1 7 (by decide)] at a4
  unfold CdR
  rw [c1, c6, c7, c8, c13, c15, c18, rd_eq]
  refine ⟨a2, by rw [a1, e0], by omega, by rw [if_neg (by omega)]; omega, fun w q1 q2 q3 => ?_, fun w q1 q2 q3 q4 => by omega⟩
  have b := a4 w q1 q2 q3
  rw [Int.zero_add] at b
  exact b
theorem beg_yes {M M1 M2 M3 : Mem} (hF1 : Sm [15, 16] M M1) (e0 : M1 15 0 = M 6 1) (e1 : M1 15 1 = 0) (hF2 : Sm [13, 15, 18] M1 M2) (hA : Aim M1 M2 1 (M1 15 1) (M1 6 0)) (hg : 0 < M 1 3) (hF3 : Sm [13, 15, 18] (up2 M2 12 2 (M2 15 1)) M3) (hB : Aim (up2 M2 12 2 (M2 15 1)) M3 2 (up2 M2 12 2 (M2 15 1) 15 1) (up2 M2 12 2 (M2 15 1) 6 0)) (hw : 0 ≤ M 6 0) : CdR M3 := by
  have c1 : up2 M2 12 2 (M2 15 1) 1 = M 1 := (up2_ne (by decide)).trans ((hF2 1 (by decide)).trans (hF1 1 (by decide)))
  have c6 : up2 M2 12 2 (M2 15 1) 6 = M 6 := (up2_ne (by decide)).trans ((hF2 6 (by decide)).trans (hF1 6 (by decide)))
  have c7 : up2 M2 12 2 (M2 15 1) 7 = M 7 := (up2_ne (by decide)).trans ((hF2 7 (by decide)).trans (hF1 7 (by decide)))
  have c8 : up2 M2 12 2 (M2 15 1) 8 = M 8 := (up2_ne (by decide)).trans ((hF2 8 (by decide)).trans (hF1 8 (by decide)))
  have c13 : up2 M2 12 2 (M2 15 1) 13 = M2 13 := up2_ne (by decide)
  have c15 : up2 M2 12 2 (M2 15 1) 15 = M2 15 := up2_ne (by decide)
  have c18 : up2 M2 12 2 (M2 15 1) 18 = M2 18 := up2_ne (by decide)
  obtain ⟨a1, a2, a3, a4, a5⟩ := hA
  rw [e1, hF1 8 (by decide), hF1 6 (by decide), Int.zero_add] at a3
  rw [e1, e0, hF1 8 (by decide), hF1 6 (by decide), hF1 7 (by decide)] at a4
  obtain ⟨b1, b2, b3, b4, b5⟩ := hB
  rw [c15, c6, c8, a3] at b3
  rw [c15, c6, c7, c8, a3, a1, e0] at b4
  rw [c13, c15, c18, a3] at b5
  have m1 := mny_rng (p := M 8) (v := 1) (M 6 0) hw
  unfold CdR
  rw [hF3 1 (by decide), hF3 6 (by decide), hF3 7 (by decide), hF3 8 (by decide), hF3 12 (by decide), c1, c6, c7, c8, rd_eq, a3]
  refine ⟨b2, by rw [b1, c15, a1, e0], rfl, by rw [if_pos hg, b3], fun w q1 q2 q3 => ?_, fun w q1 q2 q3 _ => (b4 w q1 q2 q3).2⟩
  have b := a4 w q1 q2 q3
  rw [Int.zero_add] at b
  have hlt := mny_lt (p := M 8) (v := 1) (w := w) (n := M 6 0) q1 q2 q3
  have hm := mny_rng (p := M 8) (v := 1) w q1
  have d := b5 (mny (M 8) 1 w) hm.1 hlt
  rw [d.1]
  refine ⟨b.1, fun i z1 z2 => ?_⟩
  rw [d.2 i]
  exact b.2 i z1 z2
