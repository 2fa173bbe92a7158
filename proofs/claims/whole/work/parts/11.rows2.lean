/-! switches, copies of arrays, and bits counted -/
theorem pw_tout {X : CX} {K : KX} {lay : List PD} {cc : ByteArray} {own : String} {nL : Nat} {ret : Option FieldType} {d : Nat} {cs : Nat × Nat} {Z : State → Prop} {pc : Nat} {st : List Value} {M : Mem} (C : CXok X K lay cc own nL ret d) {L : List (Option Value)}
    {dflt lo hi : Int} {offs : Array Int} {len : Nat} {a : Int} {tgt : Nat} (hd : decode cc pc = .ok (.tableswitch dflt lo hi offs, len)) (ha : -2147483648 ≤ a ∧ a ≤ 2147483647) (h : a < lo ∨ hi < a) (ht : (pc : Int) + dflt = (tgt : Int)) (k : PW X K lay nL cs Z tgt L st M) : PW X K lay nL cs Z pc L (iV a :: st) M := by
  obtain ⟨p, l, e, R, s, m, args, below, meth, c, A⟩ := X
  obtain ⟨hx, hb, hml, hown, hts, hK, hinj, hAk, hA, hlk, hrt, hfr, hlo⟩ := C
  intro H locs ls hP hS hl
  exact lv_tableOut hx hb hd (by rw [i32_rng ha]; exact h) ht (k H locs ls hP hS hl)
theorem pw_tin {X : CX} {K : KX} {lay : List PD} {cc : ByteArray} {own : String} {nL : Nat} {ret : Option FieldType} {d : Nat} {cs : Nat × Nat} {Z : State → Prop} {pc : Nat} {st : List Value} {M : Mem} (C : CXok X K lay cc own nL ret d) {L : List (Option Value)}
    {dflt lo hi : Int} {offs : Array Int} {len : Nat} {a : Int} {off : Int} {tgt : Nat} (hd : decode cc pc = .ok (.tableswitch dflt lo hi offs, len)) (ha : -2147483648 ≤ a ∧ a ≤ 2147483647) (h : lo ≤ a ∧ a ≤ hi) (ho : offs[(a - lo).toNat]? = some off) (ht : (pc : Int) + off = (tgt : Int)) (k : PW X K lay nL cs Z tgt L st M) : PW X K lay nL cs Z pc L (iV a :: st) M := by
  obtain ⟨p, l, e, R, s, m, args, below, meth, c, A⟩ := X
  obtain ⟨hx, hb, hml, hown, hts, hK, hinj, hAk, hA, hlk, hrt, hfr, hlo⟩ := C
  intro H locs ls hP hS hl
  exact lv_tableIn hx hb hd (by rw [i32_rng ha]; omega) (by rw [i32_rng ha]; omega) (by rw [i32_rng ha]; exact ho) ht (k H locs ls hP hS hl)
theorem pw_iushr {X : CX} {K : KX} {lay : List PD} {cc : ByteArray} {own : String} {nL : Nat} {ret : Option FieldType} {d : Nat} {cs : Nat × Nat} {Z : State → Prop} {pc : Nat} {st : List Value} {M : Mem} (C : CXok X K lay cc own nL ret d) {L : List (Option Value)} {a b : Int} (z : Int) (h : ((Int32.ofInt a).toUInt32 >>> ((Int32.ofInt b).toUInt32 &&& Int32.toUInt32 31)).toInt32 = Int32.ofInt z) (hd : decode cc pc = .ok (.iushr, 1)) (k : PW X K lay nL cs Z (pc + 1) L (iV z :: st) M) : PW X K lay nL cs Z pc L (iV b :: iV a :: st) M := by
  obtain ⟨p, l, e, R, s, m, args, below, meth, c, A⟩ := X
  obtain ⟨hx, hb, hml, hown, hts, hK, hinj, hAk, hA, hlk, hrt, hfr, hlo⟩ := C
  intro H locs ls hP hS hl
  exact lv_iushr hx hb hd h (k H locs ls hP hS hl)
/-- a row of an int array copied into another one (or the same) -/
def cp2 (M : Mem) (q0 : Nat) (sp : Int) (q1 : Nat) (dp n : Int) : Mem := fun k j => if k = q1 ∧ dp ≤ j ∧ j < dp + n then M q0 (sp + (j - dp)) else M k j
theorem cp2_ne {M : Mem} {q0 q1 k : Nat} {sp dp n : Int} (h : k ≠ q1) : cp2 M q0 sp q1 dp n k = M k := by
  funext j
  simp [cp2, h]
theorem pw_acopy {X : CX} {K : KX} {lay : List PD} {cc : ByteArray} {own : String} {nL : Nat} {ret : Option FieldType} {d : Nat} {Z : State → Prop} {pc : Nat} {st : List Value} {M : Mem} {L : List (Option Value)} (C : CXok X K lay cc own nL ret (d + 1)) {q0 q1 n0 n1 idx : Nat} {sp dp n : Int} (hl0 : lay[q0]? = some (1, n0, [])) (hl1 : lay[q1]? = some (1, n1, [])) (hn0 : n0 < 2147483648) (hn1 : n1 < 2147483648) (h1 : 0 ≤ sp) (h2 : 0 ≤ dp) (h3 : 0 ≤ n) (h4 : sp + n ≤ (n0 : Int)) (h5 : dp + n ≤ (n1 : Int)) (hrest : (st.map fun v => v.category).sum ≤ 8) (hml9 : Cond.methodLink own idx arraycopyName ∈ wsL_law0) (hd : decode cc pc = .ok (.invokestatic idx, 3))
    (kk : ∀ M', Sm [q1] M M' → (∀ j, M' q1 j = if dp ≤ j ∧ j < dp + n then M q0 (sp + (j - dp)) else M q1 j) → PW X K lay nL (0, 0) Z (pc + 3) L st M') : PW X K lay nL (0, 0) Z pc L (iV n :: iV dp :: rV K q1 :: iV sp :: rV K q0 :: st) M := by
  have kk := kk (cp2 M q0 sp q1 dp n) (fun k hk => cp2_ne (by simpa using hk)) (fun j => by simp [cp2])
  obtain ⟨p, l, e, R, s, m, args, below, meth, c0, A⟩ := X
  obtain ⟨hx, hb, hml, hown, hts, hK, hinj, hAk, hA, hlk, hrt, hfr, hlo⟩ := C
  intro H locs ls hP hS hl
  refine va_copyi (D := K.1) (ty := .int) hx hb (by rw [hml, hl.1.1]) hown (hts _ hml9) (hts _ nt_arraycopyName) (hts _ st_arraycopyName) (hts _ in__java_lang_System_) hK hP (wld_D hinj hAk) hS q0 q1 0 0 (wld_get hl0) (wld_get hl1) rfl rfl rfl (sp := Int32.ofInt sp) (dp := Int32.ofInt dp) (n := Int32.ofInt n) ?_ ?_ ?_ ?_ ?_ (fun i _ => rfl) (by omega) ?_ hd (fun H1 locs1 hP1 hD1 hS1 => ?_)
  · rw [i32_0, i32_lt (by omega) (by omega)]; omega
  · rw [i32_0, i32_lt (by omega) (by omega)]; omega
  · rw [i32_0, i32_lt (by omega) (by omega)]; omega
  · show _ ≤ n0
    rw [i32_clamp (by omega), i32_clamp (by omega)]; omega
  · show _ ≤ n1
    rw [i32_clamp (by omega), i32_clamp (by omega)]; omega
  · have e1 : nativeFrameWords "java/lang/System" "arraycopy" 5 + 11 ≤ 40 := by decide +kernel
    omega
  · refine kk H1 locs1 ls ?_ hS1 hl
    have e1 := wld_set (K := K) (lay := lay) (M := M) (M' := cp2 M q0 sp q1 dp n) hl1 (fun a ha => cp2_ne ha)
    rw [← e1]
    have e2 : cE K (1, n1, []) (cp2 M q0 sp q1 dp n q1) = .inl (K.2.1.1, n1, .inl (va_cpy (fun j : Nat => Int32.ofInt (M q0 (j : Int))) (fun j : Nat => Int32.ofInt (M q1 (j : Int))) (Int32.ofInt sp).toNatClampNeg (Int32.ofInt dp).toNatClampNeg (Int32.ofInt n).toNatClampNeg)) := by
      show Sum.inl (_, n1, Sum.inl (fun j : Nat => Int32.ofInt (cp2 M q0 sp q1 dp n q1 (j : Int)))) = _
      rw [i32_clamp (by omega), i32_clamp (by omega), i32_clamp (by omega)]
      congr 3
      congr 1
      funext j
      unfold va_cpy cp2
      by_cases h : dp.toNat ≤ j ∧ j < dp.toNat + n.toNat
      · rw [if_pos h, if_pos (by omega)]
        congr 2
        omega
      · rw [if_neg h, if_neg (by omega)]
    rw [e2]
    exact hP1
