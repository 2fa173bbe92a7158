theorem i32_rng {z : Int} (h : -2147483648 ≤ z ∧ z ≤ 2147483647) : (Int32.ofInt z).toInt = z := by
  rw [Int32.toInt_ofInt, Int.bmod_def]
  have e1 : ((Int32.size : Nat) : Int) = 4294967296 := by decide
  rw [e1]
  split <;> omega
theorem i32_lt {a b : Int} (ha : -2147483648 ≤ a ∧ a ≤ 2147483647) (hb : -2147483648 ≤ b ∧ b ≤ 2147483647) : Int32.ofInt a < Int32.ofInt b ↔ a < b := by
  rw [Int32.lt_iff_toInt_lt, i32_rng ha, i32_rng hb]
theorem i32_le {a b : Int} (ha : -2147483648 ≤ a ∧ a ≤ 2147483647) (hb : -2147483648 ≤ b ∧ b ≤ 2147483647) : Int32.ofInt a ≤ Int32.ofInt b ↔ a ≤ b := by
  rw [Int32.le_iff_toInt_le, i32_rng ha, i32_rng hb]
theorem i32_eq {a b : Int} (ha : -2147483648 ≤ a ∧ a ≤ 2147483647) (hb : -2147483648 ≤ b ∧ b ≤ 2147483647) : Int32.ofInt a = Int32.ofInt b ↔ a = b := by
  constructor
  · intro h
    have := congrArg Int32.toInt h
    rwa [i32_rng ha, i32_rng hb] at this
  · intro h
    rw [h]
theorem i32_0 : (0 : Int32) = Int32.ofInt 0 := by decide
theorem i32_clamp {z : Int} (h : 0 ≤ z ∧ z ≤ 2147483647) : (Int32.ofInt z).toNatClampNeg = z.toNat := by
  show (Int32.ofInt z).toInt.toNat = z.toNat
  rw [i32_rng (by omega)]
theorem i32_in {z : Int} {n : Nat} (h : 0 ≤ z ∧ z < (n : Int)) (hn : n < 2147483648) : vp_in (Int32.ofInt z) n := by
  intro h1
  rcases h1 with h1 | h1
  · rw [i32_0, i32_lt (by omega) (by omega)] at h1
    omega
  · rw [i32_clamp (by omega)] at h1
    omega
theorem pw_iconst {X : CX} {K : KX} {lay : List PD} {cc : ByteArray} {own : String} {nL : Nat} {ret : Option FieldType} {d : Nat} {cs : Nat × Nat} {Z : State → Prop} {pc : Nat} {st : List Value} {M : Mem} (C : CXok X K lay cc own nL ret d) {L : List (Option Value)} {n : Int} (hd : decode cc pc = .ok (.iconst n, 1)) (k : PW X K lay nL cs Z (pc + 1) L (iV n :: st) M) :
    PW X K lay nL cs Z pc L st M := by
  obtain ⟨p, l, e, R, s, m, args, below, meth, c, A⟩ := X
  obtain ⟨hx, hb, hml, hown, hts, hK, hinj, hAk, hA, hlk, hrt, hfr, hlo⟩ := C
  intro H locs ls hP hS hl
  exact lv_iconst hx hb hd rfl (k H locs ls hP hS hl)
theorem pw_bipush {X : CX} {K : KX} {lay : List PD} {cc : ByteArray} {own : String} {nL : Nat} {ret : Option FieldType} {d : Nat} {cs : Nat × Nat} {Z : State → Prop} {pc : Nat} {st : List Value} {M : Mem} (C : CXok X K lay cc own nL ret d) {L : List (Option Value)} {n : Int} (hd : decode cc pc = .ok (.bipush n, 2)) (hn : (Int8.ofInt n).toInt32 = Int32.ofInt n) (k : PW X K lay nL cs Z (pc + 2) L (iV n :: st) M) :
    PW X K lay nL cs Z pc L st M := by
  obtain ⟨p, l, e, R, s, m, args, below, meth, c, A⟩ := X
  obtain ⟨hx, hb, hml, hown, hts, hK, hinj, hAk, hA, hlk, hrt, hfr, hlo⟩ := C
  intro H locs ls hP hS hl
  exact lv_bipush hx hb hd hn (k H locs ls hP hS hl)
theorem pw_sipush {X : CX} {K : KX} {lay : List PD} {cc : ByteArray} {own : String} {nL : Nat} {ret : Option FieldType} {d : Nat} {cs : Nat × Nat} {Z : State → Prop} {pc : Nat} {st : List Value} {M : Mem} (C : CXok X K lay cc own nL ret d) {L : List (Option Value)} {n : Int} (hd : decode cc pc = .ok (.sipush n, 3)) (hn : (Int16.ofInt n).toInt32 = Int32.ofInt n) (k : PW X K lay nL cs Z (pc + 3) L (iV n :: st) M) :
    PW X K lay nL cs Z pc L st M := by
  obtain ⟨p, l, e, R, s, m, args, below, meth, c, A⟩ := X
  obtain ⟨hx, hb, hml, hown, hts, hK, hinj, hAk, hA, hlk, hrt, hfr, hlo⟩ := C
  intro H locs ls hP hS hl
  exact lv_sipush hx hb hd hn (k H locs ls hP hS hl)
theorem pw_ldc {X : CX} {K : KX} {lay : List PD} {cc : ByteArray} {own : String} {nL : Nat} {ret : Option FieldType} {d : Nat} {cs : Nat × Nat} {Z : State → Prop} {pc : Nat} {st : List Value} {M : Mem} (C : CXok X K lay cc own nL ret d) {L : List (Option Value)} {i : Nat} {v : Int32} {z : Int} (hv : v = Int32.ofInt z) (hw : Cond.constant own i v ∈ wsL_law0) (hd : decode cc pc = .ok (.ldc i, 2)) (k : PW X K lay nL cs Z (pc + 2) L (iV z :: st) M) :
    PW X K lay nL cs Z pc L st M := by
  obtain ⟨p, l, e, R, s, m, args, below, meth, c, A⟩ := X
  obtain ⟨hx, hb, hml, hown, hts, hK, hinj, hAk, hA, hlk, hrt, hfr, hlo⟩ := C
  intro H locs ls hP hS hl
  subst hv
  exact lv_ldc hx hb hown (hts _ hw) hd (k H locs ls hP hS hl)
theorem pw_ldcw {X : CX} {K : KX} {lay : List PD} {cc : ByteArray} {own : String} {nL : Nat} {ret : Option FieldType} {d : Nat} {cs : Nat × Nat} {Z : State → Prop} {pc : Nat} {st : List Value} {M : Mem} (C : CXok X K lay cc own nL ret d) {L : List (Option Value)} {i : Nat} {v : Int32} {z : Int} (hv : v = Int32.ofInt z) (hw : Cond.constant own i v ∈ wsL_law0) (hd : decode cc pc = .ok (.ldc_w i, 3)) (k : PW X K lay nL cs Z (pc + 3) L (iV z :: st) M) :
    PW X K lay nL cs Z pc L st M := by
  obtain ⟨p, l, e, R, s, m, args, below, meth, c, A⟩ := X
  obtain ⟨hx, hb, hml, hown, hts, hK, hinj, hAk, hA, hlk, hrt, hfr, hlo⟩ := C
  intro H locs ls hP hS hl
  subst hv
  exact lv_ldcw hx hb hown (hts _ hw) hd (k H locs ls hP hS hl)
theorem pw_iload0 {X : CX} {K : KX} {lay : List PD} {cc : ByteArray} {own : String} {nL : Nat} {ret : Option FieldType} {d : Nat} {cs : Nat × Nat} {Z : State → Prop} {pc : Nat} {st : List Value} {M : Mem} (C : CXok X K lay cc own nL ret d) {r : List (Option Value)} {z : Int} (hd : decode cc pc = .ok (.iload_n 0, 1)) (k : PW X K lay nL cs Z (pc + 1) (some (iV z) :: r) (iV z :: st) M) :
    PW X K lay nL cs Z pc (some (iV z) :: r) st M := by
  obtain ⟨p, l, e, R, s, m, args, below, meth, c, A⟩ := X
  obtain ⟨hx, hb, hml, hown, hts, hK, hinj, hAk, hA, hlk, hrt, hfr, hlo⟩ := C
  intro H locs ls hP hS hl
  exact lv_iload_n hx hb hd rfl (hl.at (i := 0) rfl) (k H locs ls hP hS hl)
theorem pw_istore0 {X : CX} {K : KX} {lay : List PD} {cc : ByteArray} {own : String} {nL : Nat} {ret : Option FieldType} {d : Nat} {cs : Nat × Nat} {Z : State → Prop} {pc : Nat} {st : List Value} {M : Mem} (C : CXok X K lay cc own nL ret d) {r : List (Option Value)} {b : Option Value} {z : Int} (hn : 0 < nL) (hd : decode cc pc = .ok (.istore_n 0, 1)) (k : PW X K lay nL cs Z (pc + 1) (some (iV z) :: r) st M) :
    PW X K lay nL cs Z pc (b :: r) (iV z :: st) M := by
  obtain ⟨p, l, e, R, s, m, args, below, meth, c, A⟩ := X
  obtain ⟨hx, hb, hml, hown, hts, hK, hinj, hAk, hA, hlk, hrt, hfr, hlo⟩ := C
  intro H locs ls hP hS hl
  refine lv_istore_n (lv' := _) hx hb hd rfl hl.1 hn rfl (fun ls1 h1 => ?_)
  exact k H locs ls1 hP hS (LV.set (i := 0) (v := iV z) rfl hl.2 h1)
theorem pw_aload0 {X : CX} {K : KX} {lay : List PD} {cc : ByteArray} {own : String} {nL : Nat} {ret : Option FieldType} {d : Nat} {cs : Nat × Nat} {Z : State → Prop} {pc : Nat} {st : List Value} {M : Mem} (C : CXok X K lay cc own nL ret d) {r : List (Option Value)} {q : Nat} (hd : decode cc pc = .ok (.aload_n 0, 1)) (k : PW X K lay nL cs Z (pc + 1) (some (rV K q) :: r) (rV K q :: st) M) :
    PW X K lay nL cs Z pc (some (rV K q) :: r) st M := by
  obtain ⟨p, l, e, R, s, m, args, below, meth, c, A⟩ := X
  obtain ⟨hx, hb, hml, hown, hts, hK, hinj, hAk, hA, hlk, hrt, hfr, hlo⟩ := C
  intro H locs ls hP hS hl
  exact lv_aload_n hx hb hd rfl (hl.at (i := 0) rfl) (k H locs ls hP hS hl)
theorem pw_astore0 {X : CX} {K : KX} {lay : List PD} {cc : ByteArray} {own : String} {nL : Nat} {ret : Option FieldType} {d : Nat} {cs : Nat × Nat} {Z : State → Prop} {pc : Nat} {st : List Value} {M : Mem} (C : CXok X K lay cc own nL ret d) {r : List (Option Value)} {b : Option Value} {q : Nat} (hn : 0 < nL) (hd : decode cc pc = .ok (.astore_n 0, 1)) (k : PW X K lay nL cs Z (pc + 1) (some (rV K q) :: r) st M) :
    PW X K lay nL cs Z pc (b :: r) (rV K q :: st) M := by
  obtain ⟨p, l, e, R, s, m, args, below, meth, c, A⟩ := X
  obtain ⟨hx, hb, hml, hown, hts, hK, hinj, hAk, hA, hlk, hrt, hfr, hlo⟩ := C
  intro H locs ls hP hS hl
  refine lv_astore_n (lv' := _) hx hb hd rfl hl.1 hn rfl (fun ls1 h1 => ?_)
  exact k H locs ls1 hP hS (LV.set (i := 0) (v := rV K q) rfl hl.2 h1)
theorem pw_iinc0 {X : CX} {K : KX} {lay : List PD} {cc : ByteArray} {own : String} {nL : Nat} {ret : Option FieldType} {d : Nat} {cs : Nat × Nat} {Z : State → Prop} {pc : Nat} {st : List Value} {M : Mem} (C : CXok X K lay cc own nL ret d) {r : List (Option Value)} {z n : Int} (hn : 0 < nL) (hd : decode cc pc = .ok (.iinc 0 n, 3)) (k : PW X K lay nL cs Z (pc + 3) (some (iV (z + n)) :: r) st M) :
    PW X K lay nL cs Z pc (some (iV z) :: r) st M := by
  obtain ⟨p, l, e, R, s, m, args, below, meth, c, A⟩ := X
  obtain ⟨hx, hb, hml, hown, hts, hK, hinj, hAk, hA, hlk, hrt, hfr, hlo⟩ := C
  intro H locs ls hP hS hl
  have hm : (0, iV z) ∈ lvl 0 (some (iV z) :: r) := (lvl_mem _ 0 0 _).mpr ⟨0, by omega, rfl⟩
  obtain ⟨k0, hk0⟩ := List.getElem?_of_mem hm
  refine lv_iinc (v := Int32.ofInt (z + n)) (lv' := _) hx hb hd hl.1 hk0 (Int32.ofInt_add z n).symm hn rfl (fun ls1 h1 => ?_)
  exact k H locs ls1 hP hS (LV.set (i := 0) (v := iV (z + n)) rfl hl.2 h1)
theorem pw_iload1 {X : CX} {K : KX} {lay : List PD} {cc : ByteArray} {own : String} {nL : Nat} {ret : Option FieldType} {d : Nat} {cs : Nat × Nat} {Z : State → Prop} {pc : Nat} {st : List Value} {M : Mem} (C : CXok X K lay cc own nL ret d) {a0 : Option Value} {r : List (Option Value)} {z : Int} (hd : decode cc pc = .ok (.iload_n 1, 1)) (k : PW X K lay nL cs Z (pc + 1) (a0 :: some (iV z) :: r) (iV z :: st) M) :
    PW X K lay nL cs Z pc (a0 :: some (iV z) :: r) st M := by
  obtain ⟨p, l, e, R, s, m, args, below, meth, c, A⟩ := X
  obtain ⟨hx, hb, hml, hown, hts, hK, hinj, hAk, hA, hlk, hrt, hfr, hlo⟩ := C
  intro H locs ls hP hS hl
  exact lv_iload_n hx hb hd rfl (hl.at (i := 1) rfl) (k H locs ls hP hS hl)
theorem pw_istore1 {X : CX} {K : KX} {lay : List PD} {cc : ByteArray} {own : String} {nL : Nat} {ret : Option FieldType} {d : Nat} {cs : Nat × Nat} {Z : State → Prop} {pc : Nat} {st : List Value} {M : Mem} (C : CXok X K lay cc own nL ret d) {a0 : Option Value} {r : List (Option Value)} {b : Option Value} {z : Int} (hn : 1 < nL) (hd : decode cc pc = .ok (.istore_n 1, 1)) (k : PW X K lay nL cs Z (pc + 1) (a0 :: some (iV z) :: r) st M) :
    PW X K lay nL cs Z pc (a0 :: b :: r) (iV z :: st) M := by
  obtain ⟨p, l, e, R, s, m, args, below, meth, c, A⟩ := X
  obtain ⟨hx, hb, hml, hown, hts, hK, hinj, hAk, hA, hlk, hrt, hfr, hlo⟩ := C
  intro H locs ls hP hS hl
  refine lv_istore_n (lv' := _) hx hb hd rfl hl.1 hn rfl (fun ls1 h1 => ?_)
  exact k H locs ls1 hP hS (LV.set (i := 1) (v := iV z) rfl hl.2 h1)
theorem pw_aload1 {X : CX} {K : KX} {lay : List PD} {cc : ByteArray} {own : String} {nL : Nat} {ret : Option FieldType} {d : Nat} {cs : Nat × Nat} {Z : State → Prop} {pc : Nat} {st : List Value} {M : Mem} (C : CXok X K lay cc own nL ret d) {a0 : Option Value} {r : List (Option Value)} {q : Nat} (hd : decode cc pc = .ok (.aload_n 1, 1)) (k : PW X K lay nL cs Z (pc + 1) (a0 :: some (rV K q) :: r) (rV K q :: st) M) :
    PW X K lay nL cs Z pc (a0 :: some (rV K q) :: r) st M := by
  obtain ⟨p, l, e, R, s, m, args, below, meth, c, A⟩ := X
  obtain ⟨hx, hb, hml, hown, hts, hK, hinj, hAk, hA, hlk, hrt, hfr, hlo⟩ := C
  intro H locs ls hP hS hl
  exact lv_aload_n hx hb hd rfl (hl.at (i := 1) rfl) (k H locs ls hP hS hl)
theorem pw_astore1 {X : CX} {K : KX} {lay : List PD} {cc : ByteArray} {own : String} {nL : Nat} {ret : Option FieldType} {d : Nat} {cs : Nat × Nat} {Z : State → Prop} {pc : Nat} {st : List Value} {M : Mem} (C : CXok X K lay cc own nL ret d) {a0 : Option Value} {r : List (Option Value)} {b : Option Value} {q : Nat} (hn : 1 < nL) (hd : decode cc pc = .ok (.astore_n 1, 1)) (k : PW X K lay nL cs Z (pc + 1) (a0 :: some (rV K q) :: r) st M) :
    PW X K lay nL cs Z pc (a0 :: b :: r) (rV K q :: st) M := by
  obtain ⟨p, l, e, R, s, m, args, below, meth, c, A⟩ := X
  obtain ⟨hx, hb, hml, hown, hts, hK, hinj, hAk, hA, hlk, hrt, hfr, hlo⟩ := C
  intro H locs ls hP hS hl
  refine lv_astore_n (lv' := _) hx hb hd rfl hl.1 hn rfl (fun ls1 h1 => ?_)
  exact k H locs ls1 hP hS (LV.set (i := 1) (v := rV K q) rfl hl.2 h1)
theorem pw_iinc1 {X : CX} {K : KX} {lay : List PD} {cc : ByteArray} {own : String} {nL : Nat} {ret : Option FieldType} {d : Nat} {cs : Nat × Nat} {Z : State → Prop} {pc : Nat} {st : List Value} {M : Mem} (C : CXok X K lay cc own nL ret d) {a0 : Option Value} {r : List (Option Value)} {z n : Int} (hn : 1 < nL) (hd : decode cc pc = .ok (.iinc 1 n, 3)) (k : PW X K lay nL cs Z (pc + 3) (a0 :: some (iV (z + n)) :: r) st M) :
    PW X K lay nL cs Z pc (a0 :: some (iV z) :: r) st M := by
  obtain ⟨p, l, e, R, s, m, args, below, meth, c, A⟩ := X
  obtain ⟨hx, hb, hml, hown, hts, hK, hinj, hAk, hA, hlk, hrt, hfr, hlo⟩ := C
  intro H locs ls hP hS hl
  have hm : (1, iV z) ∈ lvl 0 (a0 :: some (iV z) :: r) := (lvl_mem _ 0 1 _).mpr ⟨1, by omega, rfl⟩
  obtain ⟨k0, hk0⟩ := List.getElem?_of_mem hm
  refine lv_iinc (v := Int32.ofInt (z + n)) (lv' := _) hx hb hd hl.1 hk0 (Int32.ofInt_add z n).symm hn rfl (fun ls1 h1 => ?_)
  exact k H locs ls1 hP hS (LV.set (i := 1) (v := iV (z + n)) rfl hl.2 h1)
theorem pw_iload2 {X : CX} {K : KX} {lay : List PD} {cc : ByteArray} {own : String} {nL : Nat} {ret : Option FieldType} {d : Nat} {cs : Nat × Nat} {Z : State → Prop} {pc : Nat} {st : List Value} {M : Mem} (C : CXok X K lay cc own nL ret d) {a0 a1 : Option Value} {r : List (Option Value)} {z : Int} (hd : decode cc pc = .ok (.iload_n 2, 1)) (k : PW X K lay nL cs Z (pc + 1) (a0 :: a1 :: some (iV z) :: r) (iV z :: st) M) :
    PW X K lay nL cs Z pc (a0 :: a1 :: some (iV z) :: r) st M := by
  obtain ⟨p, l, e, R, s, m, args, below, meth, c, A⟩ := X
  obtain ⟨hx, hb, hml, hown, hts, hK, hinj, hAk, hA, hlk, hrt, hfr, hlo⟩ := C
  intro H locs ls hP hS hl
  exact lv_iload_n hx hb hd rfl (hl.at (i := 2) rfl) (k H locs ls hP hS hl)
theorem pw_istore2 {X : CX} {K : KX} {lay : List PD} {cc : ByteArray} {own : String} {nL : Nat} {ret : Option FieldType} {d : Nat} {cs : Nat × Nat} {Z : State → Prop} {pc : Nat} {st : List Value} {M : Mem} (C : CXok X K lay cc own nL ret d) {a0 a1 : Option Value} {r : List (Option Value)} {b : Option Value} {z : Int} (hn : 2 < nL) (hd : decode cc pc = .ok (.istore_n 2, 1)) (k : PW X K lay nL cs Z (pc + 1) (a0 :: a1 :: some (iV z) :: r) st M) :
    PW X K lay nL cs Z pc (a0 :: a1 :: b :: r) (iV z :: st) M := by
  obtain ⟨p, l, e, R, s, m, args, below, meth, c, A⟩ := X
  obtain ⟨hx, hb, hml, hown, hts, hK, hinj, hAk, hA, hlk, hrt, hfr, hlo⟩ := C
  intro H locs ls hP hS hl
  refine lv_istore_n (lv' := _) hx hb hd rfl hl.1 hn rfl (fun ls1 h1 => ?_)
  exact k H locs ls1 hP hS (LV.set (i := 2) (v := iV z) rfl hl.2 h1)
theorem pw_aload2 {X : CX} {K : KX} {lay : List PD} {cc : ByteArray} {own : String} {nL : Nat} {ret : Option FieldType} {d : Nat} {cs : Nat × Nat} {Z : State → Prop} {pc : Nat} {st : List Value} {M : Mem} (C : CXok X K lay cc own nL ret d) {a0 a1 : Option Value} {r : List (Option Value)} {q : Nat} (hd : decode cc pc = .ok (.aload_n 2, 1)) (k : PW X K lay nL cs Z (pc + 1) (a0 :: a1 :: some (rV K q) :: r) (rV K q :: st) M) :
    PW X K lay nL cs Z pc (a0 :: a1 :: some (rV K q) :: r) st M := by
  obtain ⟨p, l, e, R, s, m, args, below, meth, c, A⟩ := X
  obtain ⟨hx, hb, hml, hown, hts, hK, hinj, hAk, hA, hlk, hrt, hfr, hlo⟩ := C
  intro H locs ls hP hS hl
  exact lv_aload_n hx hb hd rfl (hl.at (i := 2) rfl) (k H locs ls hP hS hl)
theorem pw_astore2 {X : CX} {K : KX} {lay : List PD} {cc : ByteArray} {own : String} {nL : Nat} {ret : Option FieldType} {d : Nat} {cs : Nat × Nat} {Z : State → Prop} {pc : Nat} {st : List Value} {M : Mem} (C : CXok X K lay cc own nL ret d) {a0 a1 : Option Value} {r : List (Option Value)} {b : Option Value} {q : Nat} (hn : 2 < nL) (hd : decode cc pc = .ok (.astore_n 2, 1)) (k : PW X K lay nL cs Z (pc + 1) (a0 :: a1 :: some (rV K q) :: r) st M) :
    PW X K lay nL cs Z pc (a0 :: a1 :: b :: r) (rV K q :: st) M := by
  obtain ⟨p, l, e, R, s, m, args, below, meth, c, A⟩ := X
  obtain ⟨hx, hb, hml, hown, hts, hK, hinj, hAk, hA, hlk, hrt, hfr, hlo⟩ := C
  intro H locs ls hP hS hl
  refine lv_astore_n (lv' := _) hx hb hd rfl hl.1 hn rfl (fun ls1 h1 => ?_)
  exact k H locs ls1 hP hS (LV.set (i := 2) (v := rV K q) rfl hl.2 h1)
theorem pw_iinc2 {X : CX} {K : KX} {lay : List PD} {cc : ByteArray} {own : String} {nL : Nat} {ret : Option FieldType} {d : Nat} {cs : Nat × Nat} {Z : State → Prop} {pc : Nat} {st : List Value} {M : Mem} (C : CXok X K lay cc own nL ret d) {a0 a1 : Option Value} {r : List (Option Value)} {z n : Int} (hn : 2 < nL) (hd : decode cc pc = .ok (.iinc 2 n, 3)) (k : PW X K lay nL cs Z (pc + 3) (a0 :: a1 :: some (iV (z + n)) :: r) st M) :
    PW X K lay nL cs Z pc (a0 :: a1 :: some (iV z) :: r) st M := by
  obtain ⟨p, l, e, R, s, m, args, below, meth, c, A⟩ := X
  obtain ⟨hx, hb, hml, hown, hts, hK, hinj, hAk, hA, hlk, hrt, hfr, hlo⟩ := C
  intro H locs ls hP hS hl
  have hm : (2, iV z) ∈ lvl 0 (a0 :: a1 :: some (iV z) :: r) := (lvl_mem _ 0 2 _).mpr ⟨2, by omega, rfl⟩
  obtain ⟨k0, hk0⟩ := List.getElem?_of_mem hm
  refine lv_iinc (v := Int32.ofInt (z + n)) (lv' := _) hx hb hd hl.1 hk0 (Int32.ofInt_add z n).symm hn rfl (fun ls1 h1 => ?_)
  exact k H locs ls1 hP hS (LV.set (i := 2) (v := iV (z + n)) rfl hl.2 h1)
theorem pw_iload3 {X : CX} {K : KX} {lay : List PD} {cc : ByteArray} {own : String} {nL : Nat} {ret : Option FieldType} {d : Nat} {cs : Nat × Nat} {Z : State → Prop} {pc : Nat} {st : List Value} {M : Mem} (C : CXok X K lay cc own nL ret d) {a0 a1 a2 : Option Value} {r : List (Option Value)} {z : Int} (hd : decode cc pc = .ok (.iload_n 3, 1)) (k : PW X K lay nL cs Z (pc + 1) (a0 :: a1 :: a2 :: some (iV z) :: r) (iV z :: st) M) :
    PW X K lay nL cs Z pc (a0 :: a1 :: a2 :: some (iV z) :: r) st M := by
  obtain ⟨p, l, e, R, s, m, args, below, meth, c, A⟩ := X
  obtain ⟨hx, hb, hml, hown, hts, hK, hinj, hAk, hA, hlk, hrt, hfr, hlo⟩ := C
  intro H locs ls hP hS hl
  exact lv_iload_n hx hb hd rfl (hl.at (i := 3) rfl) (k H locs ls hP hS hl)
theorem pw_istore3 {X : CX} {K : KX} {lay : List PD} {cc : ByteArray} {own : String} {nL : Nat} {ret : Option FieldType} {d : Nat} {cs : Nat × Nat} {Z : State → Prop} {pc : Nat} {st : List Value} {M : Mem} (C : CXok X K lay cc own nL ret d) {a0 a1 a2 : Option Value} {r : List (Option Value)} {b : Option Value} {z : Int} (hn : 3 < nL) (hd : decode cc pc = .ok (.istore_n 3, 1)) (k : PW X K lay nL cs Z (pc + 1) (a0 :: a1 :: a2 :: some (iV z) :: r) st M) :
    PW X K lay nL cs Z pc (a0 :: a1 :: a2 :: b :: r) (iV z :: st) M := by
  obtain ⟨p, l, e, R, s, m, args, below, meth, c, A⟩ := X
  obtain ⟨hx, hb, hml, hown, hts, hK, hinj, hAk, hA, hlk, hrt, hfr, hlo⟩ := C
  intro H locs ls hP hS hl
  refine lv_istore_n (lv' := _) hx hb hd rfl hl.1 hn rfl (fun ls1 h1 => ?_)
  exact k H locs ls1 hP hS (LV.set (i := 3) (v := iV z) rfl hl.2 h1)
theorem pw_aload3 {X : CX} {K : KX} {lay : List PD} {cc : ByteArray} {own : String} {nL : Nat} {ret : Option FieldType} {d : Nat} {cs : Nat × Nat} {Z : State → Prop} {pc : Nat} {st : List Value} {M : Mem} (C : CXok X K lay cc own nL ret d) {a0 a1 a2 : Option Value} {r : List (Option Value)} {q : Nat} (hd : decode cc pc = .ok (.aload_n 3, 1)) (k : PW X K lay nL cs Z (pc + 1) (a0 :: a1 :: a2 :: some (rV K q) :: r) (rV K q :: st) M) :
    PW X K lay nL cs Z pc (a0 :: a1 :: a2 :: some (rV K q) :: r) st M := by
  obtain ⟨p, l, e, R, s, m, args, below, meth, c, A⟩ := X
  obtain ⟨hx, hb, hml, hown, hts, hK, hinj, hAk, hA, hlk, hrt, hfr, hlo⟩ := C
  intro H locs ls hP hS hl
  exact lv_aload_n hx hb hd rfl (hl.at (i := 3) rfl) (k H locs ls hP hS hl)
theorem pw_astore3 {X : CX} {K : KX} {lay : List PD} {cc : ByteArray} {own : String} {nL : Nat} {ret : Option FieldType} {d : Nat} {cs : Nat × Nat} {Z : State → Prop} {pc : Nat} {st : List Value} {M : Mem} (C : CXok X K lay cc own nL ret d) {a0 a1 a2 : Option Value} {r : List (Option Value)} {b : Option Value} {q : Nat} (hn : 3 < nL) (hd : decode cc pc = .ok (.astore_n 3, 1)) (k : PW X K lay nL cs Z (pc + 1) (a0 :: a1 :: a2 :: some (rV K q) :: r) st M) :
    PW X K lay nL cs Z pc (a0 :: a1 :: a2 :: b :: r) (rV K q :: st) M := by
  obtain ⟨p, l, e, R, s, m, args, below, meth, c, A⟩ := X
  obtain ⟨hx, hb, hml, hown, hts, hK, hinj, hAk, hA, hlk, hrt, hfr, hlo⟩ := C
  intro H locs ls hP hS hl
  refine lv_astore_n (lv' := _) hx hb hd rfl hl.1 hn rfl (fun ls1 h1 => ?_)
  exact k H locs ls1 hP hS (LV.set (i := 3) (v := rV K q) rfl hl.2 h1)
theorem pw_iinc3 {X : CX} {K : KX} {lay : List PD} {cc : ByteArray} {own : String} {nL : Nat} {ret : Option FieldType} {d : Nat} {cs : Nat × Nat} {Z : State → Prop} {pc : Nat} {st : List Value} {M : Mem} (C : CXok X K lay cc own nL ret d) {a0 a1 a2 : Option Value} {r : List (Option Value)} {z n : Int} (hn : 3 < nL) (hd : decode cc pc = .ok (.iinc 3 n, 3)) (k : PW X K lay nL cs Z (pc + 3) (a0 :: a1 :: a2 :: some (iV (z + n)) :: r) st M) :
    PW X K lay nL cs Z pc (a0 :: a1 :: a2 :: some (iV z) :: r) st M := by
  obtain ⟨p, l, e, R, s, m, args, below, meth, c, A⟩ := X
  obtain ⟨hx, hb, hml, hown, hts, hK, hinj, hAk, hA, hlk, hrt, hfr, hlo⟩ := C
  intro H locs ls hP hS hl
  have hm : (3, iV z) ∈ lvl 0 (a0 :: a1 :: a2 :: some (iV z) :: r) := (lvl_mem _ 0 3 _).mpr ⟨3, by omega, rfl⟩
  obtain ⟨k0, hk0⟩ := List.getElem?_of_mem hm
  refine lv_iinc (v := Int32.ofInt (z + n)) (lv' := _) hx hb hd hl.1 hk0 (Int32.ofInt_add z n).symm hn rfl (fun ls1 h1 => ?_)
  exact k H locs ls1 hP hS (LV.set (i := 3) (v := iV (z + n)) rfl hl.2 h1)
theorem pw_iload4 {X : CX} {K : KX} {lay : List PD} {cc : ByteArray} {own : String} {nL : Nat} {ret : Option FieldType} {d : Nat} {cs : Nat × Nat} {Z : State → Prop} {pc : Nat} {st : List Value} {M : Mem} (C : CXok X K lay cc own nL ret d) {a0 a1 a2 a3 : Option Value} {r : List (Option Value)} {z : Int} (hd : decode cc pc = .ok (.iload 4, 2)) (k : PW X K lay nL cs Z (pc + 2) (a0 :: a1 :: a2 :: a3 :: some (iV z) :: r) (iV z :: st) M) :
    PW X K lay nL cs Z pc (a0 :: a1 :: a2 :: a3 :: some (iV z) :: r) st M := by
  obtain ⟨p, l, e, R, s, m, args, below, meth, c, A⟩ := X
  obtain ⟨hx, hb, hml, hown, hts, hK, hinj, hAk, hA, hlk, hrt, hfr, hlo⟩ := C
  intro H locs ls hP hS hl
  exact lv_iload hx hb hd (hl.at (i := 4) rfl) (k H locs ls hP hS hl)
theorem pw_istore4 {X : CX} {K : KX} {lay : List PD} {cc : ByteArray} {own : String} {nL : Nat} {ret : Option FieldType} {d : Nat} {cs : Nat × Nat} {Z : State → Prop} {pc : Nat} {st : List Value} {M : Mem} (C : CXok X K lay cc own nL ret d) {a0 a1 a2 a3 : Option Value} {r : List (Option Value)} {b : Option Value} {z : Int} (hn : 4 < nL) (hd : decode cc pc = .ok (.istore 4, 2)) (k : PW X K lay nL cs Z (pc + 2) (a0 :: a1 :: a2 :: a3 :: some (iV z) :: r) st M) :
    PW X K lay nL cs Z pc (a0 :: a1 :: a2 :: a3 :: b :: r) (iV z :: st) M := by
  obtain ⟨p, l, e, R, s, m, args, below, meth, c, A⟩ := X
  obtain ⟨hx, hb, hml, hown, hts, hK, hinj, hAk, hA, hlk, hrt, hfr, hlo⟩ := C
  intro H locs ls hP hS hl
  refine lv_istore (lv' := _) hx hb hd hl.1 hn rfl (fun ls1 h1 => ?_)
  exact k H locs ls1 hP hS (LV.set (i := 4) (v := iV z) rfl hl.2 h1)
theorem pw_aload4 {X : CX} {K : KX} {lay : List PD} {cc : ByteArray} {own : String} {nL : Nat} {ret : Option FieldType} {d : Nat} {cs : Nat × Nat} {Z : State → Prop} {pc : Nat} {st : List Value} {M : Mem} (C : CXok X K lay cc own nL ret d) {a0 a1 a2 a3 : Option Value} {r : List (Option Value)} {q : Nat} (hd : decode cc pc = .ok (.aload 4, 2)) (k : PW X K lay nL cs Z (pc + 2) (a0 :: a1 :: a2 :: a3 :: some (rV K q) :: r) (rV K q :: st) M) :
    PW X K lay nL cs Z pc (a0 :: a1 :: a2 :: a3 :: some (rV K q) :: r) st M := by
  obtain ⟨p, l, e, R, s, m, args, below, meth, c, A⟩ := X
  obtain ⟨hx, hb, hml, hown, hts, hK, hinj, hAk, hA, hlk, hrt, hfr, hlo⟩ := C
  intro H locs ls hP hS hl
  exact lv_aload hx hb hd (hl.at (i := 4) rfl) (k H locs ls hP hS hl)
theorem pw_astore4 {X : CX} {K : KX} {lay : List PD} {cc : ByteArray} {own : String} {nL : Nat} {ret : Option FieldType} {d : Nat} {cs : Nat × Nat} {Z : State → Prop} {pc : Nat} {st : List Value} {M : Mem} (C : CXok X K lay cc own nL ret d) {a0 a1 a2 a3 : Option Value} {r : List (Option Value)} {b : Option Value} {q : Nat} (hn : 4 < nL) (hd : decode cc pc = .ok (.astore 4, 2)) (k : PW X K lay nL cs Z (pc + 2) (a0 :: a1 :: a2 :: a3 :: some (rV K q) :: r) st M) :
    PW X K lay nL cs Z pc (a0 :: a1 :: a2 :: a3 :: b :: r) (rV K q :: st) M := by
  obtain ⟨p, l, e, R, s, m, args, below, meth, c, A⟩ := X
  obtain ⟨hx, hb, hml, hown, hts, hK, hinj, hAk, hA, hlk, hrt, hfr, hlo⟩ := C
  intro H locs ls hP hS hl
  refine lv_astore (lv' := _) hx hb hd hl.1 hn rfl (fun ls1 h1 => ?_)
  exact k H locs ls1 hP hS (LV.set (i := 4) (v := rV K q) rfl hl.2 h1)
theorem pw_iinc4 {X : CX} {K : KX} {lay : List PD} {cc : ByteArray} {own : String} {nL : Nat} {ret : Option FieldType} {d : Nat} {cs : Nat × Nat} {Z : State → Prop} {pc : Nat} {st : List Value} {M : Mem} (C : CXok X K lay cc own nL ret d) {a0 a1 a2 a3 : Option Value} {r : List (Option Value)} {z n : Int} (hn : 4 < nL) (hd : decode cc pc = .ok (.iinc 4 n, 3)) (k : PW X K lay nL cs Z (pc + 3) (a0 :: a1 :: a2 :: a3 :: some (iV (z + n)) :: r) st M) :
    PW X K lay nL cs Z pc (a0 :: a1 :: a2 :: a3 :: some (iV z) :: r) st M := by
  obtain ⟨p, l, e, R, s, m, args, below, meth, c, A⟩ := X
  obtain ⟨hx, hb, hml, hown, hts, hK, hinj, hAk, hA, hlk, hrt, hfr, hlo⟩ := C
  intro H locs ls hP hS hl
  have hm : (4, iV z) ∈ lvl 0 (a0 :: a1 :: a2 :: a3 :: some (iV z) :: r) := (lvl_mem _ 0 4 _).mpr ⟨4, by omega, rfl⟩
  obtain ⟨k0, hk0⟩ := List.getElem?_of_mem hm
  refine lv_iinc (v := Int32.ofInt (z + n)) (lv' := _) hx hb hd hl.1 hk0 (Int32.ofInt_add z n).symm hn rfl (fun ls1 h1 => ?_)
  exact k H locs ls1 hP hS (LV.set (i := 4) (v := iV (z + n)) rfl hl.2 h1)
theorem pw_iload5 {X : CX} {K : KX} {lay : List PD} {cc : ByteArray} {own : String} {nL : Nat} {ret : Option FieldType} {d : Nat} {cs : Nat × Nat} {Z : State → Prop} {pc : Nat} {st : List Value} {M : Mem} (C : CXok X K lay cc own nL ret d) {a0 a1 a2 a3 a4 : Option Value} {r : List (Option Value)} {z : Int} (hd : decode cc pc = .ok (.iload 5, 2)) (k : PW X K lay nL cs Z (pc + 2) (a0 :: a1 :: a2 :: a3 :: a4 :: some (iV z) :: r) (iV z :: st) M) :
    PW X K lay nL cs Z pc (a0 :: a1 :: a2 :: a3 :: a4 :: some (iV z) :: r) st M := by
  obtain ⟨p, l, e, R, s, m, args, below, meth, c, A⟩ := X
  obtain ⟨hx, hb, hml, hown, hts, hK, hinj, hAk, hA, hlk, hrt, hfr, hlo⟩ := C
  intro H locs ls hP hS hl
  exact lv_iload hx hb hd (hl.at (i := 5) rfl) (k H locs ls hP hS hl)
theorem pw_istore5 {X : CX} {K : KX} {lay : List PD} {cc : ByteArray} {own : String} {nL : Nat} {ret : Option FieldType} {d : Nat} {cs : Nat × Nat} {Z : State → Prop} {pc : Nat} {st : List Value} {M : Mem} (C : CXok X K lay cc own nL ret d) {a0 a1 a2 a3 a4 : Option Value} {r : List (Option Value)} {b : Option Value} {z : Int} (hn : 5 < nL) (hd : decode cc pc = .ok (.istore 5, 2)) (k : PW X K lay nL cs Z (pc + 2) (a0 :: a1 :: a2 :: a3 :: a4 :: some (iV z) :: r) st M) :
    PW X K lay nL cs Z pc (a0 :: a1 :: a2 :: a3 :: a4 :: b :: r) (iV z :: st) M := by
  obtain ⟨p, l, e, R, s, m, args, below, meth, c, A⟩ := X
  obtain ⟨hx, hb, hml, hown, hts, hK, hinj, hAk, hA, hlk, hrt, hfr, hlo⟩ := C
  intro H locs ls hP hS hl
  refine lv_istore (lv' := _) hx hb hd hl.1 hn rfl (fun ls1 h1 => ?_)
  exact k H locs ls1 hP hS (LV.set (i := 5) (v := iV z) rfl hl.2 h1)
theorem pw_aload5 {X : CX} {K : KX} {lay : List PD} {cc : ByteArray} {own : String} {nL : Nat} {ret : Option FieldType} {d : Nat} {cs : Nat × Nat} {Z : State → Prop} {pc : Nat} {st : List Value} {M : Mem} (C : CXok X K lay cc own nL ret d) {a0 a1 a2 a3 a4 : Option Value} {r : List (Option Value)} {q : Nat} (hd : decode cc pc = .ok (.aload 5, 2)) (k : PW X K lay nL cs Z (pc + 2) (a0 :: a1 :: a2 :: a3 :: a4 :: some (rV K q) :: r) (rV K q :: st) M) :
    PW X K lay nL cs Z pc (a0 :: a1 :: a2 :: a3 :: a4 :: some (rV K q) :: r) st M := by
  obtain ⟨p, l, e, R, s, m, args, below, meth, c, A⟩ := X
  obtain ⟨hx, hb, hml, hown, hts, hK, hinj, hAk, hA, hlk, hrt, hfr, hlo⟩ := C
  intro H locs ls hP hS hl
  exact lv_aload hx hb hd (hl.at (i := 5) rfl) (k H locs ls hP hS hl)
theorem pw_astore5 {X : CX} {K : KX} {lay : List PD} {cc : ByteArray} {own : String} {nL : Nat} {ret : Option FieldType} {d : Nat} {cs : Nat × Nat} {Z : State → Prop} {pc : Nat} {st : List Value} {M : Mem} (C : CXok X K lay cc own nL ret d) {a0 a1 a2 a3 a4 : Option Value} {r : List (Option Value)} {b : Option Value} {q : Nat} (hn : 5 < nL) (hd : decode cc pc = .ok (.astore 5, 2)) (k : PW X K lay nL cs Z (pc + 2) (a0 :: a1 :: a2 :: a3 :: a4 :: some (rV K q) :: r) st M) :
    PW X K lay nL cs Z pc (a0 :: a1 :: a2 :: a3 :: a4 :: b :: r) (rV K q :: st) M := by
  obtain ⟨p, l, e, R, s, m, args, below, meth, c, A⟩ := X
  obtain ⟨hx, hb, hml, hown, hts, hK, hinj, hAk, hA, hlk, hrt, hfr, hlo⟩ := C
  intro H locs ls hP hS hl
  refine lv_astore (lv' := _) hx hb hd hl.1 hn rfl (fun ls1 h1 => ?_)
  exact k H locs ls1 hP hS (LV.set (i := 5) (v := rV K q) rfl hl.2 h1)
theorem pw_iinc5 {X : CX} {K : KX} {lay : List PD} {cc : ByteArray} {own : String} {nL : Nat} {ret : Option FieldType} {d : Nat} {cs : Nat × Nat} {Z : State → Prop} {pc : Nat} {st : List Value} {M : Mem} (C : CXok X K lay cc own nL ret d) {a0 a1 a2 a3 a4 : Option Value} {r : List (Option Value)} {z n : Int} (hn : 5 < nL) (hd : decode cc pc = .ok (.iinc 5 n, 3)) (k : PW X K lay nL cs Z (pc + 3) (a0 :: a1 :: a2 :: a3 :: a4 :: some (iV (z + n)) :: r) st M) :
    PW X K lay nL cs Z pc (a0 :: a1 :: a2 :: a3 :: a4 :: some (iV z) :: r) st M := by
  obtain ⟨p, l, e, R, s, m, args, below, meth, c, A⟩ := X
  obtain ⟨hx, hb, hml, hown, hts, hK, hinj, hAk, hA, hlk, hrt, hfr, hlo⟩ := C
  intro H locs ls hP hS hl
  have hm : (5, iV z) ∈ lvl 0 (a0 :: a1 :: a2 :: a3 :: a4 :: some (iV z) :: r) := (lvl_mem _ 0 5 _).mpr ⟨5, by omega, rfl⟩
  obtain ⟨k0, hk0⟩ := List.getElem?_of_mem hm
  refine lv_iinc (v := Int32.ofInt (z + n)) (lv' := _) hx hb hd hl.1 hk0 (Int32.ofInt_add z n).symm hn rfl (fun ls1 h1 => ?_)
  exact k H locs ls1 hP hS (LV.set (i := 5) (v := iV (z + n)) rfl hl.2 h1)
theorem pw_iload6 {X : CX} {K : KX} {lay : List PD} {cc : ByteArray} {own : String} {nL : Nat} {ret : Option FieldType} {d : Nat} {cs : Nat × Nat} {Z : State → Prop} {pc : Nat} {st : List Value} {M : Mem} (C : CXok X K lay cc own nL ret d) {a0 a1 a2 a3 a4 a5 : Option Value} {r : List (Option Value)} {z : Int} (hd : decode cc pc = .ok (.iload 6, 2)) (k : PW X K lay nL cs Z (pc + 2) (a0 :: a1 :: a2 :: a3 :: a4 :: a5 :: some (iV z) :: r) (iV z :: st) M) :
    PW X K lay nL cs Z pc (a0 :: a1 :: a2 :: a3 :: a4 :: a5 :: some (iV z) :: r) st M := by
  obtain ⟨p, l, e, R, s, m, args, below, meth, c, A⟩ := X
  obtain ⟨hx, hb, hml, hown, hts, hK, hinj, hAk, hA, hlk, hrt, hfr, hlo⟩ := C
  intro H locs ls hP hS hl
  exact lv_iload hx hb hd (hl.at (i := 6) rfl) (k H locs ls hP hS hl)
theorem pw_istore6 {X : CX} {K : KX} {lay : List PD} {cc : ByteArray} {own : String} {nL : Nat} {ret : Option FieldType} {d : Nat} {cs : Nat × Nat} {Z : State → Prop} {pc : Nat} {st : List Value} {M : Mem} (C : CXok X K lay cc own nL ret d) {a0 a1 a2 a3 a4 a5 : Option Value} {r : List (Option Value)} {b : Option Value} {z : Int} (hn : 6 < nL) (hd : decode cc pc = .ok (.istore 6, 2)) (k : PW X K lay nL cs Z (pc + 2) (a0 :: a1 :: a2 :: a3 :: a4 :: a5 :: some (iV z) :: r) st M) :
    PW X K lay nL cs Z pc (a0 :: a1 :: a2 :: a3 :: a4 :: a5 :: b :: r) (iV z :: st) M := by
  obtain ⟨p, l, e, R, s, m, args, below, meth, c, A⟩ := X
  obtain ⟨hx, hb, hml, hown, hts, hK, hinj, hAk, hA, hlk, hrt, hfr, hlo⟩ := C
  intro H locs ls hP hS hl
  refine lv_istore (lv' := _) hx hb hd hl.1 hn rfl (fun ls1 h1 => ?_)
  exact k H locs ls1 hP hS (LV.set (i := 6) (v := iV z) rfl hl.2 h1)
theorem pw_aload6 {X : CX} {K : KX} {lay : List PD} {cc : ByteArray} {own : String} {nL : Nat} {ret : Option FieldType} {d : Nat} {cs : Nat × Nat} {Z : State → Prop} {pc : Nat} {st : List Value} {M : Mem} (C : CXok X K lay cc own nL ret d) {a0 a1 a2 a3 a4 a5 : Option Value} {r : List (Option Value)} {q : Nat} (hd : decode cc pc = .ok (.aload 6, 2)) (k : PW X K lay nL cs Z (pc + 2) (a0 :: a1 :: a2 :: a3 :: a4 :: a5 :: some (rV K q) :: r) (rV K q :: st) M) :
    PW X K lay nL cs Z pc (a0 :: a1 :: a2 :: a3 :: a4 :: a5 :: some (rV K q) :: r) st M := by
  obtain ⟨p, l, e, R, s, m, args, below, meth, c, A⟩ := X
  obtain ⟨hx, hb, hml, hown, hts, hK, hinj, hAk, hA, hlk, hrt, hfr, hlo⟩ := C
  intro H locs ls hP hS hl
  exact lv_aload hx hb hd (hl.at (i := 6) rfl) (k H locs ls hP hS hl)
theorem pw_astore6 {X : CX} {K : KX} {lay : List PD} {cc : ByteArray} {own : String} {nL : Nat} {ret : Option FieldType} {d : Nat} {cs : Nat × Nat} {Z : State → Prop} {pc : Nat} {st : List Value} {M : Mem} (C : CXok X K lay cc own nL ret d) {a0 a1 a2 a3 a4 a5 : Option Value} {r : List (Option Value)} {b : Option Value} {q : Nat} (hn : 6 < nL) (hd : decode cc pc = .ok (.astore 6, 2)) (k : PW X K lay nL cs Z (pc + 2) (a0 :: a1 :: a2 :: a3 :: a4 :: a5 :: some (rV K q) :: r) st M) :
    PW X K lay nL cs Z pc (a0 :: a1 :: a2 :: a3 :: a4 :: a5 :: b :: r) (rV K q :: st) M := by
  obtain ⟨p, l, e, R, s, m, args, below, meth, c, A⟩ := X
  obtain ⟨hx, hb, hml, hown, hts, hK, hinj, hAk, hA, hlk, hrt, hfr, hlo⟩ := C
  intro H locs ls hP hS hl
  refine lv_astore (lv' := _) hx hb hd hl.1 hn rfl (fun ls1 h1 => ?_)
  exact k H locs ls1 hP hS (LV.set (i := 6) (v := rV K q) rfl hl.2 h1)
theorem pw_iinc6 {X : CX} {K : KX} {lay : List PD} {cc : ByteArray} {own : String} {nL : Nat} {ret : Option FieldType} {d : Nat} {cs : Nat × Nat} {Z : State → Prop} {pc : Nat} {st : List Value} {M : Mem} (C : CXok X K lay cc own nL ret d) {a0 a1 a2 a3 a4 a5 : Option Value} {r : List (Option Value)} {z n : Int} (hn : 6 < nL) (hd : decode cc pc = .ok (.iinc 6 n, 3)) (k : PW X K lay nL cs Z (pc + 3) (a0 :: a1 :: a2 :: a3 :: a4 :: a5 :: some (iV (z + n)) :: r) st M) :
    PW X K lay nL cs Z pc (a0 :: a1 :: a2 :: a3 :: a4 :: a5 :: some (iV z) :: r) st M := by
  obtain ⟨p, l, e, R, s, m, args, below, meth, c, A⟩ := X
  obtain ⟨hx, hb, hml, hown, hts, hK, hinj, hAk, hA, hlk, hrt, hfr, hlo⟩ := C
  intro H locs ls hP hS hl
  have hm : (6, iV z) ∈ lvl 0 (a0 :: a1 :: a2 :: a3 :: a4 :: a5 :: some (iV z) :: r) := (lvl_mem _ 0 6 _).mpr ⟨6, by omega, rfl⟩
  obtain ⟨k0, hk0⟩ := List.getElem?_of_mem hm
  refine lv_iinc (v := Int32.ofInt (z + n)) (lv' := _) hx hb hd hl.1 hk0 (Int32.ofInt_add z n).symm hn rfl (fun ls1 h1 => ?_)
  exact k H locs ls1 hP hS (LV.set (i := 6) (v := iV (z + n)) rfl hl.2 h1)
theorem pw_iload7 {X : CX} {K : KX} {lay : List PD} {cc : ByteArray} {own : String} {nL : Nat} {ret : Option FieldType} {d : Nat} {cs : Nat × Nat} {Z : State → Prop} {pc : Nat} {st : List Value} {M : Mem} (C : CXok X K lay cc own nL ret d) {a0 a1 a2 a3 a4 a5 a6 : Option Value} {r : List (Option Value)} {z : Int} (hd : decode cc pc = .ok (.iload 7, 2)) (k : PW X K lay nL cs Z (pc + 2) (a0 :: a1 :: a2 :: a3 :: a4 :: a5 :: a6 :: some (iV z) :: r) (iV z :: st) M) :
    PW X K lay nL cs Z pc (a0 :: a1 :: a2 :: a3 :: a4 :: a5 :: a6 :: some (iV z) :: r) st M := by
  obtain ⟨p, l, e, R, s, m, args, below, meth, c, A⟩ := X
  obtain ⟨hx, hb, hml, hown, hts, hK, hinj, hAk, hA, hlk, hrt, hfr, hlo⟩ := C
  intro H locs ls hP hS hl
  exact lv_iload hx hb hd (hl.at (i := 7) rfl) (k H locs ls hP hS hl)
theorem pw_istore7 {X : CX} {K : KX} {lay : List PD} {cc : ByteArray} {own : String} {nL : Nat} {ret : Option FieldType} {d : Nat} {cs : Nat × Nat} {Z : State → Prop} {pc : Nat} {st : List Value} {M : Mem} (C : CXok X K lay cc own nL ret d) {a0 a1 a2 a3 a4 a5 a6 : Option Value} {r : List (Option Value)} {b : Option Value} {z : Int} (hn : 7 < nL) (hd : decode cc pc = .ok (.istore 7, 2)) (k : PW X K lay nL cs Z (pc + 2) (a0 :: a1 :: a2 :: a3 :: a4 :: a5 :: a6 :: some (iV z) :: r) st M) :
    PW X K lay nL cs Z pc (a0 :: a1 :: a2 :: a3 :: a4 :: a5 :: a6 :: b :: r) (iV z :: st) M := by
  obtain ⟨p, l, e, R, s, m, args, below, meth, c, A⟩ := X
  obtain ⟨hx, hb, hml, hown, hts, hK, hinj, hAk, hA, hlk, hrt, hfr, hlo⟩ := C
  intro H locs ls hP hS hl
  refine lv_istore (lv' := _) hx hb hd hl.1 hn rfl (fun ls1 h1 => ?_)
  exact k H locs ls1 hP hS (LV.set (i := 7) (v := iV z) rfl hl.2 h1)
theorem pw_aload7 {X : CX} {K : KX} {lay : List PD} {cc : ByteArray} {own : String} {nL : Nat} {ret : Option FieldType} {d : Nat} {cs : Nat × Nat} {Z : State → Prop} {pc : Nat} {st : List Value} {M : Mem} (C : CXok X K lay cc own nL ret d) {a0 a1 a2 a3 a4 a5 a6 : Option Value} {r : List (Option Value)} {q : Nat} (hd : decode cc pc = .ok (.aload 7, 2)) (k : PW X K lay nL cs Z (pc + 2) (a0 :: a1 :: a2 :: a3 :: a4 :: a5 :: a6 :: some (rV K q) :: r) (rV K q :: st) M) :
    PW X K lay nL cs Z pc (a0 :: a1 :: a2 :: a3 :: a4 :: a5 :: a6 :: some (rV K q) :: r) st M := by
  obtain ⟨p, l, e, R, s, m, args, below, meth, c, A⟩ := X
  obtain ⟨hx, hb, hml, hown, hts, hK, hinj, hAk, hA, hlk, hrt, hfr, hlo⟩ := C
  intro H locs ls hP hS hl
  exact lv_aload hx hb hd (hl.at (i := 7) rfl) (k H locs ls hP hS hl)
theorem pw_astore7 {X : CX} {K : KX} {lay : List PD} {cc : ByteArray} {own : String} {nL : Nat} {ret : Option FieldType} {d : Nat} {cs : Nat × Nat} {Z : State → Prop} {pc : Nat} {st : List Value} {M : Mem} (C : CXok X K lay cc own nL ret d) {a0 a1 a2 a3 a4 a5 a6 : Option Value} {r : List (Option Value)} {b : Option Value} {q : Nat} (hn : 7 < nL) (hd : decode cc pc = .ok (.astore 7, 2)) (k : PW X K lay nL cs Z (pc + 2) (a0 :: a1 :: a2 :: a3 :: a4 :: a5 :: a6 :: some (rV K q) :: r) st M) :
    PW X K lay nL cs Z pc (a0 :: a1 :: a2 :: a3 :: a4 :: a5 :: a6 :: b :: r) (rV K q :: st) M := by
  obtain ⟨p, l, e, R, s, m, args, below, meth, c, A⟩ := X
  obtain ⟨hx, hb, hml, hown, hts, hK, hinj, hAk, hA, hlk, hrt, hfr, hlo⟩ := C
  intro H locs ls hP hS hl
  refine lv_astore (lv' := _) hx hb hd hl.1 hn rfl (fun ls1 h1 => ?_)
  exact k H locs ls1 hP hS (LV.set (i := 7) (v := rV K q) rfl hl.2 h1)
theorem pw_iinc7 {X : CX} {K : KX} {lay : List PD} {cc : ByteArray} {own : String} {nL : Nat} {ret : Option FieldType} {d : Nat} {cs : Nat × Nat} {Z : State → Prop} {pc : Nat} {st : List Value} {M : Mem} (C : CXok X K lay cc own nL ret d) {a0 a1 a2 a3 a4 a5 a6 : Option Value} {r : List (Option Value)} {z n : Int} (hn : 7 < nL) (hd : decode cc pc = .ok (.iinc 7 n, 3)) (k : PW X K lay nL cs Z (pc + 3) (a0 :: a1 :: a2 :: a3 :: a4 :: a5 :: a6 :: some (iV (z + n)) :: r) st M) :
    PW X K lay nL cs Z pc (a0 :: a1 :: a2 :: a3 :: a4 :: a5 :: a6 :: some (iV z) :: r) st M := by
  obtain ⟨p, l, e, R, s, m, args, below, meth, c, A⟩ := X
  obtain ⟨hx, hb, hml, hown, hts, hK, hinj, hAk, hA, hlk, hrt, hfr, hlo⟩ := C
  intro H locs ls hP hS hl
  have hm : (7, iV z) ∈ lvl 0 (a0 :: a1 :: a2 :: a3 :: a4 :: a5 :: a6 :: some (iV z) :: r) := (lvl_mem _ 0 7 _).mpr ⟨7, by omega, rfl⟩
  obtain ⟨k0, hk0⟩ := List.getElem?_of_mem hm
  refine lv_iinc (v := Int32.ofInt (z + n)) (lv' := _) hx hb hd hl.1 hk0 (Int32.ofInt_add z n).symm hn rfl (fun ls1 h1 => ?_)
  exact k H locs ls1 hP hS (LV.set (i := 7) (v := iV (z + n)) rfl hl.2 h1)
theorem pw_iload8 {X : CX} {K : KX} {lay : List PD} {cc : ByteArray} {own : String} {nL : Nat} {ret : Option FieldType} {d : Nat} {cs : Nat × Nat} {Z : State → Prop} {pc : Nat} {st : List Value} {M : Mem} (C : CXok X K lay cc own nL ret d) {a0 a1 a2 a3 a4 a5 a6 a7 : Option Value} {r : List (Option Value)} {z : Int} (hd : decode cc pc = .ok (.iload 8, 2)) (k : PW X K lay nL cs Z (pc + 2) (a0 :: a1 :: a2 :: a3 :: a4 :: a5 :: a6 :: a7 :: some (iV z) :: r) (iV z :: st) M) :
    PW X K lay nL cs Z pc (a0 :: a1 :: a2 :: a3 :: a4 :: a5 :: a6 :: a7 :: some (iV z) :: r) st M := by
  obtain ⟨p, l, e, R, s, m, args, below, meth, c, A⟩ := X
  obtain ⟨hx, hb, hml, hown, hts, hK, hinj, hAk, hA, hlk, hrt, hfr, hlo⟩ := C
  intro H locs ls hP hS hl
  exact lv_iload hx hb hd (hl.at (i := 8) rfl) (k H locs ls hP hS hl)
theorem pw_istore8 {X : CX} {K : KX} {lay : List PD} {cc : ByteArray} {own : String} {nL : Nat} {ret : Option FieldType} {d : Nat} {cs : Nat × Nat} {Z : State → Prop} {pc : Nat} {st : List Value} {M : Mem} (C : CXok X K lay cc own nL ret d) {a0 a1 a2 a3 a4 a5 a6 a7 : Option Value} {r : List (Option Value)} {b : Option Value} {z : Int} (hn : 8 < nL) (hd : decode cc pc = .ok (.istore 8, 2)) (k : PW X K lay nL cs Z (pc + 2) (a0 :: a1 :: a2 :: a3 :: a4 :: a5 :: a6 :: a7 :: some (iV z) :: r) st M) :
    PW X K lay nL cs Z pc (a0 :: a1 :: a2 :: a3 :: a4 :: a5 :: a6 :: a7 :: b :: r) (iV z :: st) M := by
  obtain ⟨p, l, e, R, s, m, args, below, meth, c, A⟩ := X
  obtain ⟨hx, hb, hml, hown, hts, hK, hinj, hAk, hA, hlk, hrt, hfr, hlo⟩ := C
  intro H locs ls hP hS hl
  refine lv_istore (lv' := _) hx hb hd hl.1 hn rfl (fun ls1 h1 => ?_)
  exact k H locs ls1 hP hS (LV.set (i := 8) (v := iV z) rfl hl.2 h1)
theorem pw_aload8 {X : CX} {K : KX} {lay : List PD} {cc : ByteArray} {own : String} {nL : Nat} {ret : Option FieldType} {d : Nat} {cs : Nat × Nat} {Z : State → Prop} {pc : Nat} {st : List Value} {M : Mem} (C : CXok X K lay cc own nL ret d) {a0 a1 a2 a3 a4 a5 a6 a7 : Option Value} {r : List (Option Value)} {q : Nat} (hd : decode cc pc = .ok (.aload 8, 2)) (k : PW X K lay nL cs Z (pc + 2) (a0 :: a1 :: a2 :: a3 :: a4 :: a5 :: a6 :: a7 :: some (rV K q) :: r) (rV K q :: st) M) :
    PW X K lay nL cs Z pc (a0 :: a1 :: a2 :: a3 :: a4 :: a5 :: a6 :: a7 :: some (rV K q) :: r) st M := by
  obtain ⟨p, l, e, R, s, m, args, below, meth, c, A⟩ := X
  obtain ⟨hx, hb, hml, hown, hts, hK, hinj, hAk, hA, hlk, hrt, hfr, hlo⟩ := C
  intro H locs ls hP hS hl
  exact lv_aload hx hb hd (hl.at (i := 8) rfl) (k H locs ls hP hS hl)
theorem pw_astore8 {X : CX} {K : KX} {lay : List PD} {cc : ByteArray} {own : String} {nL : Nat} {ret : Option FieldType} {d : Nat} {cs : Nat × Nat} {Z : State → Prop} {pc : Nat} {st : List Value} {M : Mem} (C : CXok X K lay cc own nL ret d) {a0 a1 a2 a3 a4 a5 a6 a7 : Option Value} {r : List (Option Value)} {b : Option Value} {q : Nat} (hn : 8 < nL) (hd : decode cc pc = .ok (.astore 8, 2)) (k : PW X K lay nL cs Z (pc + 2) (a0 :: a1 :: a2 :: a3 :: a4 :: a5 :: a6 :: a7 :: some (rV K q) :: r) st M) :
    PW X K lay nL cs Z pc (a0 :: a1 :: a2 :: a3 :: a4 :: a5 :: a6 :: a7 :: b :: r) (rV K q :: st) M := by
  obtain ⟨p, l, e, R, s, m, args, below, meth, c, A⟩ := X
  obtain ⟨hx, hb, hml, hown, hts, hK, hinj, hAk, hA, hlk, hrt, hfr, hlo⟩ := C
  intro H locs ls hP hS hl
  refine lv_astore (lv' := _) hx hb hd hl.1 hn rfl (fun ls1 h1 => ?_)
  exact k H locs ls1 hP hS (LV.set (i := 8) (v := rV K q) rfl hl.2 h1)
theorem pw_iinc8 {X : CX} {K : KX} {lay : List PD} {cc : ByteArray} {own : String} {nL : Nat} {ret : Option FieldType} {d : Nat} {cs : Nat × Nat} {Z : State → Prop} {pc : Nat} {st : List Value} {M : Mem} (C : CXok X K lay cc own nL ret d) {a0 a1 a2 a3 a4 a5 a6 a7 : Option Value} {r : List (Option Value)} {z n : Int} (hn : 8 < nL) (hd : decode cc pc = .ok (.iinc 8 n, 3)) (k : PW X K lay nL cs Z (pc + 3) (a0 :: a1 :: a2 :: a3 :: a4 :: a5 :: a6 :: a7 :: some (iV (z + n)) :: r) st M) :
    PW X K lay nL cs Z pc (a0 :: a1 :: a2 :: a3 :: a4 :: a5 :: a6 :: a7 :: some (iV z) :: r) st M := by
  obtain ⟨p, l, e, R, s, m, args, below, meth, c, A⟩ := X
  obtain ⟨hx, hb, hml, hown, hts, hK, hinj, hAk, hA, hlk, hrt, hfr, hlo⟩ := C
  intro H locs ls hP hS hl
  have hm : (8, iV z) ∈ lvl 0 (a0 :: a1 :: a2 :: a3 :: a4 :: a5 :: a6 :: a7 :: some (iV z) :: r) := (lvl_mem _ 0 8 _).mpr ⟨8, by omega, rfl⟩
  obtain ⟨k0, hk0⟩ := List.getElem?_of_mem hm
  refine lv_iinc (v := Int32.ofInt (z + n)) (lv' := _) hx hb hd hl.1 hk0 (Int32.ofInt_add z n).symm hn rfl (fun ls1 h1 => ?_)
  exact k H locs ls1 hP hS (LV.set (i := 8) (v := iV (z + n)) rfl hl.2 h1)
theorem pw_iload9 {X : CX} {K : KX} {lay : List PD} {cc : ByteArray} {own : String} {nL : Nat} {ret : Option FieldType} {d : Nat} {cs : Nat × Nat} {Z : State → Prop} {pc : Nat} {st : List Value} {M : Mem} (C : CXok X K lay cc own nL ret d) {a0 a1 a2 a3 a4 a5 a6 a7 a8 : Option Value} {r : List (Option Value)} {z : Int} (hd : decode cc pc = .ok (.iload 9, 2)) (k : PW X K lay nL cs Z (pc + 2) (a0 :: a1 :: a2 :: a3 :: a4 :: a5 :: a6 :: a7 :: a8 :: some (iV z) :: r) (iV z :: st) M) :
    PW X K lay nL cs Z pc (a0 :: a1 :: a2 :: a3 :: a4 :: a5 :: a6 :: a7 :: a8 :: some (iV z) :: r) st M := by
  obtain ⟨p, l, e, R, s, m, args, below, meth, c, A⟩ := X
  obtain ⟨hx, hb, hml, hown, hts, hK, hinj, hAk, hA, hlk, hrt, hfr, hlo⟩ := C
  intro H locs ls hP hS hl
  exact lv_iload hx hb hd (hl.at (i := 9) rfl) (k H locs ls hP hS hl)
theorem pw_istore9 {X : CX} {K : KX} {lay : List PD} {cc : ByteArray} {own : String} {nL : Nat} {ret : Option FieldType} {d : Nat} {cs : Nat × Nat} {Z : State → Prop} {pc : Nat} {st : List Value} {M : Mem} (C : CXok X K lay cc own nL ret d) {a0 a1 a2 a3 a4 a5 a6 a7 a8 : Option Value} {r : List (Option Value)} {b : Option Value} {z : Int} (hn : 9 < nL) (hd : decode cc pc = .ok (.istore 9, 2)) (k : PW X K lay nL cs Z (pc + 2) (a0 :: a1 :: a2 :: a3 :: a4 :: a5 :: a6 :: a7 :: a8 :: some (iV z) :: r) st M) :
    PW X K lay nL cs Z pc (a0 :: a1 :: a2 :: a3 :: a4 :: a5 :: a6 :: a7 :: a8 :: b :: r) (iV z :: st) M := by
  obtain ⟨p, l, e, R, s, m, args, below, meth, c, A⟩ := X
  obtain ⟨hx, hb, hml, hown, hts, hK, hinj, hAk, hA, hlk, hrt, hfr, hlo⟩ := C
  intro H locs ls hP hS hl
  refine lv_istore (lv' := _) hx hb hd hl.1 hn rfl (fun ls1 h1 => ?_)
  exact k H locs ls1 hP hS (LV.set (i := 9) (v := iV z) rfl hl.2 h1)
theorem pw_aload9 {X : CX} {K : KX} {lay : List PD} {cc : ByteArray} {own : String} {nL : Nat} {ret : Option FieldType} {d : Nat} {cs : Nat × Nat} {Z : State → Prop} {pc : Nat} {st : List Value} {M : Mem} (C : CXok X K lay cc own nL ret d) {a0 a1 a2 a3 a4 a5 a6 a7 a8 : Option Value} {r : List (Option Value)} {q : Nat} (hd : decode cc pc = .ok (.aload 9, 2)) (k : PW X K lay nL cs Z (pc + 2) (a0 :: a1 :: a2 :: a3 :: a4 :: a5 :: a6 :: a7 :: a8 :: some (rV K q) :: r) (rV K q :: st) M) :
    PW X K lay nL cs Z pc (a0 :: a1 :: a2 :: a3 :: a4 :: a5 :: a6 :: a7 :: a8 :: some (rV K q) :: r) st M := by
  obtain ⟨p, l, e, R, s, m, args, below, meth, c, A⟩ := X
  obtain ⟨hx, hb, hml, hown, hts, hK, hinj, hAk, hA, hlk, hrt, hfr, hlo⟩ := C
  intro H locs ls hP hS hl
  exact lv_aload hx hb hd (hl.at (i := 9) rfl) (k H locs ls hP hS hl)
theorem pw_astore9 {X : CX} {K : KX} {lay : List PD} {cc : ByteArray} {own : String} {nL : Nat} {ret : Option FieldType} {d : Nat} {cs : Nat × Nat} {Z : State → Prop} {pc : Nat} {st : List Value} {M : Mem} (C : CXok X K lay cc own nL ret d) {a0 a1 a2 a3 a4 a5 a6 a7 a8 : Option Value} {r : List (Option Value)} {b : Option Value} {q : Nat} (hn : 9 < nL) (hd : decode cc pc = .ok (.astore 9, 2)) (k : PW X K lay nL cs Z (pc + 2) (a0 :: a1 :: a2 :: a3 :: a4 :: a5 :: a6 :: a7 :: a8 :: some (rV K q) :: r) st M) :
    PW X K lay nL cs Z pc (a0 :: a1 :: a2 :: a3 :: a4 :: a5 :: a6 :: a7 :: a8 :: b :: r) (rV K q :: st) M := by
  obtain ⟨p, l, e, R, s, m, args, below, meth, c, A⟩ := X
  obtain ⟨hx, hb, hml, hown, hts, hK, hinj, hAk, hA, hlk, hrt, hfr, hlo⟩ := C
  intro H locs ls hP hS hl
  refine lv_astore (lv' := _) hx hb hd hl.1 hn rfl (fun ls1 h1 => ?_)
  exact k H locs ls1 hP hS (LV.set (i := 9) (v := rV K q) rfl hl.2 h1)
theorem pw_iinc9 {X : CX} {K : KX} {lay : List PD} {cc : ByteArray} {own : String} {nL : Nat} {ret : Option FieldType} {d : Nat} {cs : Nat × Nat} {Z : State → Prop} {pc : Nat} {st : List Value} {M : Mem} (C : CXok X K lay cc own nL ret d) {a0 a1 a2 a3 a4 a5 a6 a7 a8 : Option Value} {r : List (Option Value)} {z n : Int} (hn : 9 < nL) (hd : decode cc pc = .ok (.iinc 9 n, 3)) (k : PW X K lay nL cs Z (pc + 3) (a0 :: a1 :: a2 :: a3 :: a4 :: a5 :: a6 :: a7 :: a8 :: some (iV (z + n)) :: r) st M) :
    PW X K lay nL cs Z pc (a0 :: a1 :: a2 :: a3 :: a4 :: a5 :: a6 :: a7 :: a8 :: some (iV z) :: r) st M := by
  obtain ⟨p, l, e, R, s, m, args, below, meth, c, A⟩ := X
  obtain ⟨hx, hb, hml, hown, hts, hK, hinj, hAk, hA, hlk, hrt, hfr, hlo⟩ := C
  intro H locs ls hP hS hl
  have hm : (9, iV z) ∈ lvl 0 (a0 :: a1 :: a2 :: a3 :: a4 :: a5 :: a6 :: a7 :: a8 :: some (iV z) :: r) := (lvl_mem _ 0 9 _).mpr ⟨9, by omega, rfl⟩
  obtain ⟨k0, hk0⟩ := List.getElem?_of_mem hm
  refine lv_iinc (v := Int32.ofInt (z + n)) (lv' := _) hx hb hd hl.1 hk0 (Int32.ofInt_add z n).symm hn rfl (fun ls1 h1 => ?_)
  exact k H locs ls1 hP hS (LV.set (i := 9) (v := iV (z + n)) rfl hl.2 h1)
theorem pw_iload10 {X : CX} {K : KX} {lay : List PD} {cc : ByteArray} {own : String} {nL : Nat} {ret : Option FieldType} {d : Nat} {cs : Nat × Nat} {Z : State → Prop} {pc : Nat} {st : List Value} {M : Mem} (C : CXok X K lay cc own nL ret d) {a0 a1 a2 a3 a4 a5 a6 a7 a8 a9 : Option Value} {r : List (Option Value)} {z : Int} (hd : decode cc pc = .ok (.iload 10, 2)) (k : PW X K lay nL cs Z (pc + 2) (a0 :: a1 :: a2 :: a3 :: a4 :: a5 :: a6 :: a7 :: a8 :: a9 :: some (iV z) :: r) (iV z :: st) M) :
    PW X K lay nL cs Z pc (a0 :: a1 :: a2 :: a3 :: a4 :: a5 :: a6 :: a7 :: a8 :: a9 :: some (iV z) :: r) st M := by
  obtain ⟨p, l, e, R, s, m, args, below, meth, c, A⟩ := X
  obtain ⟨hx, hb, hml, hown, hts, hK, hinj, hAk, hA, hlk, hrt, hfr, hlo⟩ := C
  intro H locs ls hP hS hl
  exact lv_iload hx hb hd (hl.at (i := 10) rfl) (k H locs ls hP hS hl)
theorem pw_istore10 {X : CX} {K : KX} {lay : List PD} {cc : ByteArray} {own : String} {nL : Nat} {ret : Option FieldType} {d : Nat} {cs : Nat × Nat} {Z : State → Prop} {pc : Nat} {st : List Value} {M : Mem} (C : CXok X K lay cc own nL ret d) {a0 a1 a2 a3 a4 a5 a6 a7 a8 a9 : Option Value} {r : List (Option Value)} {b : Option Value} {z : Int} (hn : 10 < nL) (hd : decode cc pc = .ok (.istore 10, 2)) (k : PW X K lay nL cs Z (pc + 2) (a0 :: a1 :: a2 :: a3 :: a4 :: a5 :: a6 :: a7 :: a8 :: a9 :: some (iV z) :: r) st M) :
    PW X K lay nL cs Z pc (a0 :: a1 :: a2 :: a3 :: a4 :: a5 :: a6 :: a7 :: a8 :: a9 :: b :: r) (iV z :: st) M := by
  obtain ⟨p, l, e, R, s, m, args, below, meth, c, A⟩ := X
  obtain ⟨hx, hb, hml, hown, hts, hK, hinj, hAk, hA, hlk, hrt, hfr, hlo⟩ := C
  intro H locs ls hP hS hl
  refine lv_istore (lv' := _) hx hb hd hl.1 hn rfl (fun ls1 h1 => ?_)
  exact k H locs ls1 hP hS (LV.set (i := 10) (v := iV z) rfl hl.2 h1)
theorem pw_aload10 {X : CX} {K : KX} {lay : List PD} {cc : ByteArray} {own : String} {nL : Nat} {ret : Option FieldType} {d : Nat} {cs : Nat × Nat} {Z : State → Prop} {pc : Nat} {st : List Value} {M : Mem} (C : CXok X K lay cc own nL ret d) {a0 a1 a2 a3 a4 a5 a6 a7 a8 a9 : Option Value} {r : List (Option Value)} {q : Nat} (hd : decode cc pc = .ok (.aload 10, 2)) (k : PW X K lay nL cs Z (pc + 2) (a0 :: a1 :: a2 :: a3 :: a4 :: a5 :: a6 :: a7 :: a8 :: a9 :: some (rV K q) :: r) (rV K q :: st) M) :
    PW X K lay nL cs Z pc (a0 :: a1 :: a2 :: a3 :: a4 :: a5 :: a6 :: a7 :: a8 :: a9 :: some (rV K q) :: r) st M := by
  obtain ⟨p, l, e, R, s, m, args, below, meth, c, A⟩ := X
  obtain ⟨hx, hb, hml, hown, hts, hK, hinj, hAk, hA, hlk, hrt, hfr, hlo⟩ := C
  intro H locs ls hP hS hl
  exact lv_aload hx hb hd (hl.at (i := 10) rfl) (k H locs ls hP hS hl)
theorem pw_astore10 {X : CX} {K : KX} {lay : List PD} {cc : ByteArray} {own : String} {nL : Nat} {ret : Option FieldType} {d : Nat} {cs : Nat × Nat} {Z : State → Prop} {pc : Nat} {st : List Value} {M : Mem} (C : CXok X K lay cc own nL ret d) {a0 a1 a2 a3 a4 a5 a6 a7 a8 a9 : Option Value} {r : List (Option Value)} {b : Option Value} {q : Nat} (hn : 10 < nL) (hd : decode cc pc = .ok (.astore 10, 2)) (k : PW X K lay nL cs Z (pc + 2) (a0 :: a1 :: a2 :: a3 :: a4 :: a5 :: a6 :: a7 :: a8 :: a9 :: some (rV K q) :: r) st M) :
    PW X K lay nL cs Z pc (a0 :: a1 :: a2 :: a3 :: a4 :: a5 :: a6 :: a7 :: a8 :: a9 :: b :: r) (rV K q :: st) M := by
  obtain ⟨p, l, e, R, s, m, args, below, meth, c, A⟩ := X
  obtain ⟨hx, hb, hml, hown, hts, hK, hinj, hAk, hA, hlk, hrt, hfr, hlo⟩ := C
  intro H locs ls hP hS hl
  refine lv_astore (lv' := _) hx hb hd hl.1 hn rfl (fun ls1 h1 => ?_)
  exact k H locs ls1 hP hS (LV.set (i := 10) (v := rV K q) rfl hl.2 h1)
theorem pw_iinc10 {X : CX} {K : KX} {lay : List PD} {cc : ByteArray} {own : String} {nL : Nat} {ret : Option FieldType} {d : Nat} {cs : Nat × Nat} {Z : State → Prop} {pc : Nat} {st : List Value} {M : Mem} (C : CXok X K lay cc own nL ret d) {a0 a1 a2 a3 a4 a5 a6 a7 a8 a9 : Option Value} {r : List (Option Value)} {z n : Int} (hn : 10 < nL) (hd : decode cc pc = .ok (.iinc 10 n, 3)) (k : PW X K lay nL cs Z (pc + 3) (a0 :: a1 :: a2 :: a3 :: a4 :: a5 :: a6 :: a7 :: a8 :: a9 :: some (iV (z + n)) :: r) st M) :
    PW X K lay nL cs Z pc (a0 :: a1 :: a2 :: a3 :: a4 :: a5 :: a6 :: a7 :: a8 :: a9 :: some (iV z) :: r) st M := by
  obtain ⟨p, l, e, R, s, m, args, below, meth, c, A⟩ := X
  obtain ⟨hx, hb, hml, hown, hts, hK, hinj, hAk, hA, hlk, hrt, hfr, hlo⟩ := C
  intro H locs ls hP hS hl
  have hm : (10, iV z) ∈ lvl 0 (a0 :: a1 :: a2 :: a3 :: a4 :: a5 :: a6 :: a7 :: a8 :: a9 :: some (iV z) :: r) := (lvl_mem _ 0 10 _).mpr ⟨10, by omega, rfl⟩
  obtain ⟨k0, hk0⟩ := List.getElem?_of_mem hm
  refine lv_iinc (v := Int32.ofInt (z + n)) (lv' := _) hx hb hd hl.1 hk0 (Int32.ofInt_add z n).symm hn rfl (fun ls1 h1 => ?_)
  exact k H locs ls1 hP hS (LV.set (i := 10) (v := iV (z + n)) rfl hl.2 h1)
theorem pw_iload11 {X : CX} {K : KX} {lay : List PD} {cc : ByteArray} {own : String} {nL : Nat} {ret : Option FieldType} {d : Nat} {cs : Nat × Nat} {Z : State → Prop} {pc : Nat} {st : List Value} {M : Mem} (C : CXok X K lay cc own nL ret d) {a0 a1 a2 a3 a4 a5 a6 a7 a8 a9 a10 : Option Value} {r : List (Option Value)} {z : Int} (hd : decode cc pc = .ok (.iload 11, 2)) (k : PW X K lay nL cs Z (pc + 2) (a0 :: a1 :: a2 :: a3 :: a4 :: a5 :: a6 :: a7 :: a8 :: a9 :: a10 :: some (iV z) :: r) (iV z :: st) M) :
    PW X K lay nL cs Z pc (a0 :: a1 :: a2 :: a3 :: a4 :: a5 :: a6 :: a7 :: a8 :: a9 :: a10 :: some (iV z) :: r) st M := by
  obtain ⟨p, l, e, R, s, m, args, below, meth, c, A⟩ := X
  obtain ⟨hx, hb, hml, hown, hts, hK, hinj, hAk, hA, hlk, hrt, hfr, hlo⟩ := C
  intro H locs ls hP hS hl
  exact lv_iload hx hb hd (hl.at (i := 11) rfl) (k H locs ls hP hS hl)
theorem pw_istore11 {X : CX} {K : KX} {lay : List PD} {cc : ByteArray} {own : String} {nL : Nat} {ret : Option FieldType} {d : Nat} {cs : Nat × Nat} {Z : State → Prop} {pc : Nat} {st : List Value} {M : Mem} (C : CXok X K lay cc own nL ret d) {a0 a1 a2 a3 a4 a5 a6 a7 a8 a9 a10 : Option Value} {r : List (Option Value)} {b : Option Value} {z : Int} (hn : 11 < nL) (hd : decode cc pc = .ok (.istore 11, 2)) (k : PW X K lay nL cs Z (pc + 2) (a0 :: a1 :: a2 :: a3 :: a4 :: a5 :: a6 :: a7 :: a8 :: a9 :: a10 :: some (iV z) :: r) st M) :
    PW X K lay nL cs Z pc (a0 :: a1 :: a2 :: a3 :: a4 :: a5 :: a6 :: a7 :: a8 :: a9 :: a10 :: b :: r) (iV z :: st) M := by
  obtain ⟨p, l, e, R, s, m, args, below, meth, c, A⟩ := X
  obtain ⟨hx, hb, hml, hown, hts, hK, hinj, hAk, hA, hlk, hrt, hfr, hlo⟩ := C
  intro H locs ls hP hS hl
  refine lv_istore (lv' := _) hx hb hd hl.1 hn rfl (fun ls1 h1 => ?_)
  exact k H locs ls1 hP hS (LV.set (i := 11) (v := iV z) rfl hl.2 h1)
theorem pw_aload11 {X : CX} {K : KX} {lay : List PD} {cc : ByteArray} {own : String} {nL : Nat} {ret : Option FieldType} {d : Nat} {cs : Nat × Nat} {Z : State → Prop} {pc : Nat} {st : List Value} {M : Mem} (C : CXok X K lay cc own nL ret d) {a0 a1 a2 a3 a4 a5 a6 a7 a8 a9 a10 : Option Value} {r : List (Option Value)} {q : Nat} (hd : decode cc pc = .ok (.aload 11, 2)) (k : PW X K lay nL cs Z (pc + 2) (a0 :: a1 :: a2 :: a3 :: a4 :: a5 :: a6 :: a7 :: a8 :: a9 :: a10 :: some (rV K q) :: r) (rV K q :: st) M) :
    PW X K lay nL cs Z pc (a0 :: a1 :: a2 :: a3 :: a4 :: a5 :: a6 :: a7 :: a8 :: a9 :: a10 :: some (rV K q) :: r) st M := by
  obtain ⟨p, l, e, R, s, m, args, below, meth, c, A⟩ := X
  obtain ⟨hx, hb, hml, hown, hts, hK, hinj, hAk, hA, hlk, hrt, hfr, hlo⟩ := C
  intro H locs ls hP hS hl
  exact lv_aload hx hb hd (hl.at (i := 11) rfl) (k H locs ls hP hS hl)
theorem pw_astore11 {X : CX} {K : KX} {lay : List PD} {cc : ByteArray} {own : String} {nL : Nat} {ret : Option FieldType} {d : Nat} {cs : Nat × Nat} {Z : State → Prop} {pc : Nat} {st : List Value} {M : Mem} (C : CXok X K lay cc own nL ret d) {a0 a1 a2 a3 a4 a5 a6 a7 a8 a9 a10 : Option Value} {r : List (Option Value)} {b : Option Value} {q : Nat} (hn : 11 < nL) (hd : decode cc pc = .ok (.astore 11, 2)) (k : PW X K lay nL cs Z (pc + 2) (a0 :: a1 :: a2 :: a3 :: a4 :: a5 :: a6 :: a7 :: a8 :: a9 :: a10 :: some (rV K q) :: r) st M) :
    PW X K lay nL cs Z pc (a0 :: a1 :: a2 :: a3 :: a4 :: a5 :: a6 :: a7 :: a8 :: a9 :: a10 :: b :: r) (rV K q :: st) M := by
  obtain ⟨p, l, e, R, s, m, args, below, meth, c, A⟩ := X
  obtain ⟨hx, hb, hml, hown, hts, hK, hinj, hAk, hA, hlk, hrt, hfr, hlo⟩ := C
  intro H locs ls hP hS hl
  refine lv_astore (lv' := _) hx hb hd hl.1 hn rfl (fun ls1 h1 => ?_)
  exact k H locs ls1 hP hS (LV.set (i := 11) (v := rV K q) rfl hl.2 h1)
theorem pw_iinc11 {X : CX} {K : KX} {lay : List PD} {cc : ByteArray} {own : String} {nL : Nat} {ret : Option FieldType} {d : Nat} {cs : Nat × Nat} {Z : State → Prop} {pc : Nat} {st : List Value} {M : Mem} (C : CXok X K lay cc own nL ret d) {a0 a1 a2 a3 a4 a5 a6 a7 a8 a9 a10 : Option Value} {r : List (Option Value)} {z n : Int} (hn : 11 < nL) (hd : decode cc pc = .ok (.iinc 11 n, 3)) (k : PW X K lay nL cs Z (pc + 3) (a0 :: a1 :: a2 :: a3 :: a4 :: a5 :: a6 :: a7 :: a8 :: a9 :: a10 :: some (iV (z + n)) :: r) st M) :
    PW X K lay nL cs Z pc (a0 :: a1 :: a2 :: a3 :: a4 :: a5 :: a6 :: a7 :: a8 :: a9 :: a10 :: some (iV z) :: r) st M := by
  obtain ⟨p, l, e, R, s, m, args, below, meth, c, A⟩ := X
  obtain ⟨hx, hb, hml, hown, hts, hK, hinj, hAk, hA, hlk, hrt, hfr, hlo⟩ := C
  intro H locs ls hP hS hl
  have hm : (11, iV z) ∈ lvl 0 (a0 :: a1 :: a2 :: a3 :: a4 :: a5 :: a6 :: a7 :: a8 :: a9 :: a10 :: some (iV z) :: r) := (lvl_mem _ 0 11 _).mpr ⟨11, by omega, rfl⟩
  obtain ⟨k0, hk0⟩ := List.getElem?_of_mem hm
  refine lv_iinc (v := Int32.ofInt (z + n)) (lv' := _) hx hb hd hl.1 hk0 (Int32.ofInt_add z n).symm hn rfl (fun ls1 h1 => ?_)
  exact k H locs ls1 hP hS (LV.set (i := 11) (v := iV (z + n)) rfl hl.2 h1)
theorem pw_iload12 {X : CX} {K : KX} {lay : List PD} {cc : ByteArray} {own : String} {nL : Nat} {ret : Option FieldType} {d : Nat} {cs : Nat × Nat} {Z : State → Prop} {pc : Nat} {st : List Value} {M : Mem} (C : CXok X K lay cc own nL ret d) {a0 a1 a2 a3 a4 a5 a6 a7 a8 a9 a10 a11 : Option Value} {r : List (Option Value)} {z : Int} (hd : decode cc pc = .ok (.iload 12, 2)) (k : PW X K lay nL cs Z (pc + 2) (a0 :: a1 :: a2 :: a3 :: a4 :: a5 :: a6 :: a7 :: a8 :: a9 :: a10 :: a11 :: some (iV z) :: r) (iV z :: st) M) :
    PW X K lay nL cs Z pc (a0 :: a1 :: a2 :: a3 :: a4 :: a5 :: a6 :: a7 :: a8 :: a9 :: a10 :: a11 :: some (iV z) :: r) st M := by
  obtain ⟨p, l, e, R, s, m, args, below, meth, c, A⟩ := X
  obtain ⟨hx, hb, hml, hown, hts, hK, hinj, hAk, hA, hlk, hrt, hfr, hlo⟩ := C
  intro H locs ls hP hS hl
  exact lv_iload hx hb hd (hl.at (i := 12) rfl) (k H locs ls hP hS hl)
theorem pw_istore12 {X : CX} {K : KX} {lay : List PD} {cc : ByteArray} {own : String} {nL : Nat} {ret : Option FieldType} {d : Nat} {cs : Nat × Nat} {Z : State → Prop} {pc : Nat} {st : List Value} {M : Mem} (C : CXok X K lay cc own nL ret d) {a0 a1 a2 a3 a4 a5 a6 a7 a8 a9 a10 a11 : Option Value} {r : List (Option Value)} {b : Option Value} {z : Int} (hn : 12 < nL) (hd : decode cc pc = .ok (.istore 12, 2)) (k : PW X K lay nL cs Z (pc + 2) (a0 :: a1 :: a2 :: a3 :: a4 :: a5 :: a6 :: a7 :: a8 :: a9 :: a10 :: a11 :: some (iV z) :: r) st M) :
    PW X K lay nL cs Z pc (a0 :: a1 :: a2 :: a3 :: a4 :: a5 :: a6 :: a7 :: a8 :: a9 :: a10 :: a11 :: b :: r) (iV z :: st) M := by
  obtain ⟨p, l, e, R, s, m, args, below, meth, c, A⟩ := X
  obtain ⟨hx, hb, hml, hown, hts, hK, hinj, hAk, hA, hlk, hrt, hfr, hlo⟩ := C
  intro H locs ls hP hS hl
  refine lv_istore (lv' := _) hx hb hd hl.1 hn rfl (fun ls1 h1 => ?_)
  exact k H locs ls1 hP hS (LV.set (i := 12) (v := iV z) rfl hl.2 h1)
theorem pw_aload12 {X : CX} {K : KX} {lay : List PD} {cc : ByteArray} {own : String} {nL : Nat} {ret : Option FieldType} {d : Nat} {cs : Nat × Nat} {Z : State → Prop} {pc : Nat} {st : List Value} {M : Mem} (C : CXok X K lay cc own nL ret d) {a0 a1 a2 a3 a4 a5 a6 a7 a8 a9 a10 a11 : Option Value} {r : List (Option Value)} {q : Nat} (hd : decode cc pc = .ok (.aload 12, 2)) (k : PW X K lay nL cs Z (pc + 2) (a0 :: a1 :: a2 :: a3 :: a4 :: a5 :: a6 :: a7 :: a8 :: a9 :: a10 :: a11 :: some (rV K q) :: r) (rV K q :: st) M) :
    PW X K lay nL cs Z pc (a0 :: a1 :: a2 :: a3 :: a4 :: a5 :: a6 :: a7 :: a8 :: a9 :: a10 :: a11 :: some (rV K q) :: r) st M := by
  obtain ⟨p, l, e, R, s, m, args, below, meth, c, A⟩ := X
  obtain ⟨hx, hb, hml, hown, hts, hK, hinj, hAk, hA, hlk, hrt, hfr, hlo⟩ := C
  intro H locs ls hP hS hl
  exact lv_aload hx hb hd (hl.at (i := 12) rfl) (k H locs ls hP hS hl)
theorem pw_astore12 {X : CX} {K : KX} {lay : List PD} {cc : ByteArray} {own : String} {nL : Nat} {ret : Option FieldType} {d : Nat} {cs : Nat × Nat} {Z : State → Prop} {pc : Nat} {st : List Value} {M : Mem} (C : CXok X K lay cc own nL ret d) {a0 a1 a2 a3 a4 a5 a6 a7 a8 a9 a10 a11 : Option Value} {r : List (Option Value)} {b : Option Value} {q : Nat} (hn : 12 < nL) (hd : decode cc pc = .ok (.astore 12, 2)) (k : PW X K lay nL cs Z (pc + 2) (a0 :: a1 :: a2 :: a3 :: a4 :: a5 :: a6 :: a7 :: a8 :: a9 :: a10 :: a11 :: some (rV K q) :: r) st M) :
    PW X K lay nL cs Z pc (a0 :: a1 :: a2 :: a3 :: a4 :: a5 :: a6 :: a7 :: a8 :: a9 :: a10 :: a11 :: b :: r) (rV K q :: st) M := by
  obtain ⟨p, l, e, R, s, m, args, below, meth, c, A⟩ := X
  obtain ⟨hx, hb, hml, hown, hts, hK, hinj, hAk, hA, hlk, hrt, hfr, hlo⟩ := C
  intro H locs ls hP hS hl
  refine lv_astore (lv' := _) hx hb hd hl.1 hn rfl (fun ls1 h1 => ?_)
  exact k H locs ls1 hP hS (LV.set (i := 12) (v := rV K q) rfl hl.2 h1)
theorem pw_iinc12 {X : CX} {K : KX} {lay : List PD} {cc : ByteArray} {own : String} {nL : Nat} {ret : Option FieldType} {d : Nat} {cs : Nat × Nat} {Z : State → Prop} {pc : Nat} {st : List Value} {M : Mem} (C : CXok X K lay cc own nL ret d) {a0 a1 a2 a3 a4 a5 a6 a7 a8 a9 a10 a11 : Option Value} {r : List (Option Value)} {z n : Int} (hn : 12 < nL) (hd : decode cc pc = .ok (.iinc 12 n, 3)) (k : PW X K lay nL cs Z (pc + 3) (a0 :: a1 :: a2 :: a3 :: a4 :: a5 :: a6 :: a7 :: a8 :: a9 :: a10 :: a11 :: some (iV (z + n)) :: r) st M) :
    PW X K lay nL cs Z pc (a0 :: a1 :: a2 :: a3 :: a4 :: a5 :: a6 :: a7 :: a8 :: a9 :: a10 :: a11 :: some (iV z) :: r) st M := by
  obtain ⟨p, l, e, R, s, m, args, below, meth, c, A⟩ := X
  obtain ⟨hx, hb, hml, hown, hts, hK, hinj, hAk, hA, hlk, hrt, hfr, hlo⟩ := C
  intro H locs ls hP hS hl
  have hm : (12, iV z) ∈ lvl 0 (a0 :: a1 :: a2 :: a3 :: a4 :: a5 :: a6 :: a7 :: a8 :: a9 :: a10 :: a11 :: some (iV z) :: r) := (lvl_mem _ 0 12 _).mpr ⟨12, by omega, rfl⟩
  obtain ⟨k0, hk0⟩ := List.getElem?_of_mem hm
  refine lv_iinc (v := Int32.ofInt (z + n)) (lv' := _) hx hb hd hl.1 hk0 (Int32.ofInt_add z n).symm hn rfl (fun ls1 h1 => ?_)
  exact k H locs ls1 hP hS (LV.set (i := 12) (v := iV (z + n)) rfl hl.2 h1)
theorem pw_iload13 {X : CX} {K : KX} {lay : List PD} {cc : ByteArray} {own : String} {nL : Nat} {ret : Option FieldType} {d : Nat} {cs : Nat × Nat} {Z : State → Prop} {pc : Nat} {st : List Value} {M : Mem} (C : CXok X K lay cc own nL ret d) {a0 a1 a2 a3 a4 a5 a6 a7 a8 a9 a10 a11 a12 : Option Value} {r : List (Option Value)} {z : Int} (hd : decode cc pc = .ok (.iload 13, 2)) (k : PW X K lay nL cs Z (pc + 2) (a0 :: a1 :: a2 :: a3 :: a4 :: a5 :: a6 :: a7 :: a8 :: a9 :: a10 :: a11 :: a12 :: some (iV z) :: r) (iV z :: st) M) :
    PW X K lay nL cs Z pc (a0 :: a1 :: a2 :: a3 :: a4 :: a5 :: a6 :: a7 :: a8 :: a9 :: a10 :: a11 :: a12 :: some (iV z) :: r) st M := by
  obtain ⟨p, l, e, R, s, m, args, below, meth, c, A⟩ := X
  obtain ⟨hx, hb, hml, hown, hts, hK, hinj, hAk, hA, hlk, hrt, hfr, hlo⟩ := C
  intro H locs ls hP hS hl
  exact lv_iload hx hb hd (hl.at (i := 13) rfl) (k H locs ls hP hS hl)
theorem pw_istore13 {X : CX} {K : KX} {lay : List PD} {cc : ByteArray} {own : String} {nL : Nat} {ret : Option FieldType} {d : Nat} {cs : Nat × Nat} {Z : State → Prop} {pc : Nat} {st : List Value} {M : Mem} (C : CXok X K lay cc own nL ret d) {a0 a1 a2 a3 a4 a5 a6 a7 a8 a9 a10 a11 a12 : Option Value} {r : List (Option Value)} {b : Option Value} {z : Int} (hn : 13 < nL) (hd : decode cc pc = .ok (.istore 13, 2)) (k : PW X K lay nL cs Z (pc + 2) (a0 :: a1 :: a2 :: a3 :: a4 :: a5 :: a6 :: a7 :: a8 :: a9 :: a10 :: a11 :: a12 :: some (iV z) :: r) st M) :
    PW X K lay nL cs Z pc (a0 :: a1 :: a2 :: a3 :: a4 :: a5 :: a6 :: a7 :: a8 :: a9 :: a10 :: a11 :: a12 :: b :: r) (iV z :: st) M := by
  obtain ⟨p, l, e, R, s, m, args, below, meth, c, A⟩ := X
  obtain ⟨hx, hb, hml, hown, hts, hK, hinj, hAk, hA, hlk, hrt, hfr, hlo⟩ := C
  intro H locs ls hP hS hl
  refine lv_istore (lv' := _) hx hb hd hl.1 hn rfl (fun ls1 h1 => ?_)
  exact k H locs ls1 hP hS (LV.set (i := 13) (v := iV z) rfl hl.2 h1)
theorem pw_aload13 {X : CX} {K : KX} {lay : List PD} {cc : ByteArray} {own : String} {nL : Nat} {ret : Option FieldType} {d : Nat} {cs : Nat × Nat} {Z : State → Prop} {pc : Nat} {st : List Value} {M : Mem} (C : CXok X K lay cc own nL ret d) {a0 a1 a2 a3 a4 a5 a6 a7 a8 a9 a10 a11 a12 : Option Value} {r : List (Option Value)} {q : Nat} (hd : decode cc pc = .ok (.aload 13, 2)) (k : PW X K lay nL cs Z (pc + 2) (a0 :: a1 :: a2 :: a3 :: a4 :: a5 :: a6 :: a7 :: a8 :: a9 :: a10 :: a11 :: a12 :: some (rV K q) :: r) (rV K q :: st) M) :
    PW X K lay nL cs Z pc (a0 :: a1 :: a2 :: a3 :: a4 :: a5 :: a6 :: a7 :: a8 :: a9 :: a10 :: a11 :: a12 :: some (rV K q) :: r) st M := by
  obtain ⟨p, l, e, R, s, m, args, below, meth, c, A⟩ := X
  obtain ⟨hx, hb, hml, hown, hts, hK, hinj, hAk, hA, hlk, hrt, hfr, hlo⟩ := C
  intro H locs ls hP hS hl
  exact lv_aload hx hb hd (hl.at (i := 13) rfl) (k H locs ls hP hS hl)
theorem pw_astore13 {X : CX} {K : KX} {lay : List PD} {cc : ByteArray} {own : String} {nL : Nat} {ret : Option FieldType} {d : Nat} {cs : Nat × Nat} {Z : State → Prop} {pc : Nat} {st : List Value} {M : Mem} (C : CXok X K lay cc own nL ret d) {a0 a1 a2 a3 a4 a5 a6 a7 a8 a9 a10 a11 a12 : Option Value} {r : List (Option Value)} {b : Option Value} {q : Nat} (hn : 13 < nL) (hd : decode cc pc = .ok (.astore 13, 2)) (k : PW X K lay nL cs Z (pc + 2) (a0 :: a1 :: a2 :: a3 :: a4 :: a5 :: a6 :: a7 :: a8 :: a9 :: a10 :: a11 :: a12 :: some (rV K q) :: r) st M) :
    PW X K lay nL cs Z pc (a0 :: a1 :: a2 :: a3 :: a4 :: a5 :: a6 :: a7 :: a8 :: a9 :: a10 :: a11 :: a12 :: b :: r) (rV K q :: st) M := by
  obtain ⟨p, l, e, R, s, m, args, below, meth, c, A⟩ := X
  obtain ⟨hx, hb, hml, hown, hts, hK, hinj, hAk, hA, hlk, hrt, hfr, hlo⟩ := C
  intro H locs ls hP hS hl
  refine lv_astore (lv' := _) hx hb hd hl.1 hn rfl (fun ls1 h1 => ?_)
  exact k H locs ls1 hP hS (LV.set (i := 13) (v := rV K q) rfl hl.2 h1)
theorem pw_iinc13 {X : CX} {K : KX} {lay : List PD} {cc : ByteArray} {own : String} {nL : Nat} {ret : Option FieldType} {d : Nat} {cs : Nat × Nat} {Z : State → Prop} {pc : Nat} {st : List Value} {M : Mem} (C : CXok X K lay cc own nL ret d) {a0 a1 a2 a3 a4 a5 a6 a7 a8 a9 a10 a11 a12 : Option Value} {r : List (Option Value)} {z n : Int} (hn : 13 < nL) (hd : decode cc pc = .ok (.iinc 13 n, 3)) (k : PW X K lay nL cs Z (pc + 3) (a0 :: a1 :: a2 :: a3 :: a4 :: a5 :: a6 :: a7 :: a8 :: a9 :: a10 :: a11 :: a12 :: some (iV (z + n)) :: r) st M) :
    PW X K lay nL cs Z pc (a0 :: a1 :: a2 :: a3 :: a4 :: a5 :: a6 :: a7 :: a8 :: a9 :: a10 :: a11 :: a12 :: some (iV z) :: r) st M := by
  obtain ⟨p, l, e, R, s, m, args, below, meth, c, A⟩ := X
  obtain ⟨hx, hb, hml, hown, hts, hK, hinj, hAk, hA, hlk, hrt, hfr, hlo⟩ := C
  intro H locs ls hP hS hl
  have hm : (13, iV z) ∈ lvl 0 (a0 :: a1 :: a2 :: a3 :: a4 :: a5 :: a6 :: a7 :: a8 :: a9 :: a10 :: a11 :: a12 :: some (iV z) :: r) := (lvl_mem _ 0 13 _).mpr ⟨13, by omega, rfl⟩
  obtain ⟨k0, hk0⟩ := List.getElem?_of_mem hm
  refine lv_iinc (v := Int32.ofInt (z + n)) (lv' := _) hx hb hd hl.1 hk0 (Int32.ofInt_add z n).symm hn rfl (fun ls1 h1 => ?_)
  exact k H locs ls1 hP hS (LV.set (i := 13) (v := iV (z + n)) rfl hl.2 h1)
theorem pw_iload14 {X : CX} {K : KX} {lay : List PD} {cc : ByteArray} {own : String} {nL : Nat} {ret : Option FieldType} {d : Nat} {cs : Nat × Nat} {Z : State → Prop} {pc : Nat} {st : List Value} {M : Mem} (C : CXok X K lay cc own nL ret d) {a0 a1 a2 a3 a4 a5 a6 a7 a8 a9 a10 a11 a12 a13 : Option Value} {r : List (Option Value)} {z : Int} (hd : decode cc pc = .ok (.iload 14, 2)) (k : PW X K lay nL cs Z (pc + 2) (a0 :: a1 :: a2 :: a3 :: a4 :: a5 :: a6 :: a7 :: a8 :: a9 :: a10 :: a11 :: a12 :: a13 :: some (iV z) :: r) (iV z :: st) M) :
    PW X K lay nL cs Z pc (a0 :: a1 :: a2 :: a3 :: a4 :: a5 :: a6 :: a7 :: a8 :: a9 :: a10 :: a11 :: a12 :: a13 :: some (iV z) :: r) st M := by
  obtain ⟨p, l, e, R, s, m, args, below, meth, c, A⟩ := X
  obtain ⟨hx, hb, hml, hown, hts, hK, hinj, hAk, hA, hlk, hrt, hfr, hlo⟩ := C
  intro H locs ls hP hS hl
  exact lv_iload hx hb hd (hl.at (i := 14) rfl) (k H locs ls hP hS hl)
theorem pw_istore14 {X : CX} {K : KX} {lay : List PD} {cc : ByteArray} {own : String} {nL : Nat} {ret : Option FieldType} {d : Nat} {cs : Nat × Nat} {Z : State → Prop} {pc : Nat} {st : List Value} {M : Mem} (C : CXok X K lay cc own nL ret d) {a0 a1 a2 a3 a4 a5 a6 a7 a8 a9 a10 a11 a12 a13 : Option Value} {r : List (Option Value)} {b : Option Value} {z : Int} (hn : 14 < nL) (hd : decode cc pc = .ok (.istore 14, 2)) (k : PW X K lay nL cs Z (pc + 2) (a0 :: a1 :: a2 :: a3 :: a4 :: a5 :: a6 :: a7 :: a8 :: a9 :: a10 :: a11 :: a12 :: a13 :: some (iV z) :: r) st M) :
    PW X K lay nL cs Z pc (a0 :: a1 :: a2 :: a3 :: a4 :: a5 :: a6 :: a7 :: a8 :: a9 :: a10 :: a11 :: a12 :: a13 :: b :: r) (iV z :: st) M := by
  obtain ⟨p, l, e, R, s, m, args, below, meth, c, A⟩ := X
  obtain ⟨hx, hb, hml, hown, hts, hK, hinj, hAk, hA, hlk, hrt, hfr, hlo⟩ := C
  intro H locs ls hP hS hl
  refine lv_istore (lv' := _) hx hb hd hl.1 hn rfl (fun ls1 h1 => ?_)
  exact k H locs ls1 hP hS (LV.set (i := 14) (v := iV z) rfl hl.2 h1)
theorem pw_aload14 {X : CX} {K : KX} {lay : List PD} {cc : ByteArray} {own : String} {nL : Nat} {ret : Option FieldType} {d : Nat} {cs : Nat × Nat} {Z : State → Prop} {pc : Nat} {st : List Value} {M : Mem} (C : CXok X K lay cc own nL ret d) {a0 a1 a2 a3 a4 a5 a6 a7 a8 a9 a10 a11 a12 a13 : Option Value} {r : List (Option Value)} {q : Nat} (hd : decode cc pc = .ok (.aload 14, 2)) (k : PW X K lay nL cs Z (pc + 2) (a0 :: a1 :: a2 :: a3 :: a4 :: a5 :: a6 :: a7 :: a8 :: a9 :: a10 :: a11 :: a12 :: a13 :: some (rV K q) :: r) (rV K q :: st) M) :
    PW X K lay nL cs Z pc (a0 :: a1 :: a2 :: a3 :: a4 :: a5 :: a6 :: a7 :: a8 :: a9 :: a10 :: a11 :: a12 :: a13 :: some (rV K q) :: r) st M := by
  obtain ⟨p, l, e, R, s, m, args, below, meth, c, A⟩ := X
  obtain ⟨hx, hb, hml, hown, hts, hK, hinj, hAk, hA, hlk, hrt, hfr, hlo⟩ := C
  intro H locs ls hP hS hl
  exact lv_aload hx hb hd (hl.at (i := 14) rfl) (k H locs ls hP hS hl)
theorem pw_astore14 {X : CX} {K : KX} {lay : List PD} {cc : ByteArray} {own : String} {nL : Nat} {ret : Option FieldType} {d : Nat} {cs : Nat × Nat} {Z : State → Prop} {pc : Nat} {st : List Value} {M : Mem} (C : CXok X K lay cc own nL ret d) {a0 a1 a2 a3 a4 a5 a6 a7 a8 a9 a10 a11 a12 a13 : Option Value} {r : List (Option Value)} {b : Option Value} {q : Nat} (hn : 14 < nL) (hd : decode cc pc = .ok (.astore 14, 2)) (k : PW X K lay nL cs Z (pc + 2) (a0 :: a1 :: a2 :: a3 :: a4 :: a5 :: a6 :: a7 :: a8 :: a9 :: a10 :: a11 :: a12 :: a13 :: some (rV K q) :: r) st M) :
    PW X K lay nL cs Z pc (a0 :: a1 :: a2 :: a3 :: a4 :: a5 :: a6 :: a7 :: a8 :: a9 :: a10 :: a11 :: a12 :: a13 :: b :: r) (rV K q :: st) M := by
  obtain ⟨p, l, e, R, s, m, args, below, meth, c, A⟩ := X
  obtain ⟨hx, hb, hml, hown, hts, hK, hinj, hAk, hA, hlk, hrt, hfr, hlo⟩ := C
  intro H locs ls hP hS hl
  refine lv_astore (lv' := _) hx hb hd hl.1 hn rfl (fun ls1 h1 => ?_)
  exact k H locs ls1 hP hS (LV.set (i := 14) (v := rV K q) rfl hl.2 h1)
theorem pw_iinc14 {X : CX} {K : KX} {lay : List PD} {cc : ByteArray} {own : String} {nL : Nat} {ret : Option FieldType} {d : Nat} {cs : Nat × Nat} {Z : State → Prop} {pc : Nat} {st : List Value} {M : Mem} (C : CXok X K lay cc own nL ret d) {a0 a1 a2 a3 a4 a5 a6 a7 a8 a9 a10 a11 a12 a13 : Option Value} {r : List (Option Value)} {z n : Int} (hn : 14 < nL) (hd : decode cc pc = .ok (.iinc 14 n, 3)) (k : PW X K lay nL cs Z (pc + 3) (a0 :: a1 :: a2 :: a3 :: a4 :: a5 :: a6 :: a7 :: a8 :: a9 :: a10 :: a11 :: a12 :: a13 :: some (iV (z + n)) :: r) st M) :
    PW X K lay nL cs Z pc (a0 :: a1 :: a2 :: a3 :: a4 :: a5 :: a6 :: a7 :: a8 :: a9 :: a10 :: a11 :: a12 :: a13 :: some (iV z) :: r) st M := by
  obtain ⟨p, l, e, R, s, m, args, below, meth, c, A⟩ := X
  obtain ⟨hx, hb, hml, hown, hts, hK, hinj, hAk, hA, hlk, hrt, hfr, hlo⟩ := C
  intro H locs ls hP hS hl
  have hm : (14, iV z) ∈ lvl 0 (a0 :: a1 :: a2 :: a3 :: a4 :: a5 :: a6 :: a7 :: a8 :: a9 :: a10 :: a11 :: a12 :: a13 :: some (iV z) :: r) := (lvl_mem _ 0 14 _).mpr ⟨14, by omega, rfl⟩
  obtain ⟨k0, hk0⟩ := List.getElem?_of_mem hm
  refine lv_iinc (v := Int32.ofInt (z + n)) (lv' := _) hx hb hd hl.1 hk0 (Int32.ofInt_add z n).symm hn rfl (fun ls1 h1 => ?_)
  exact k H locs ls1 hP hS (LV.set (i := 14) (v := iV (z + n)) rfl hl.2 h1)
theorem pw_iload15 {X : CX} {K : KX} {lay : List PD} {cc : ByteArray} {own : String} {nL : Nat} {ret : Option FieldType} {d : Nat} {cs : Nat × Nat} {Z : State → Prop} {pc : Nat} {st : List Value} {M : Mem} (C : CXok X K lay cc own nL ret d) {a0 a1 a2 a3 a4 a5 a6 a7 a8 a9 a10 a11 a12 a13 a14 : Option Value} {r : List (Option Value)} {z : Int} (hd : decode cc pc = .ok (.iload 15, 2)) (k : PW X K lay nL cs Z (pc + 2) (a0 :: a1 :: a2 :: a3 :: a4 :: a5 :: a6 :: a7 :: a8 :: a9 :: a10 :: a11 :: a12 :: a13 :: a14 :: some (iV z) :: r) (iV z :: st) M) :
    PW X K lay nL cs Z pc (a0 :: a1 :: a2 :: a3 :: a4 :: a5 :: a6 :: a7 :: a8 :: a9 :: a10 :: a11 :: a12 :: a13 :: a14 :: some (iV z) :: r) st M := by
  obtain ⟨p, l, e, R, s, m, args, below, meth, c, A⟩ := X
  obtain ⟨hx, hb, hml, hown, hts, hK, hinj, hAk, hA, hlk, hrt, hfr, hlo⟩ := C
  intro H locs ls hP hS hl
  exact lv_iload hx hb hd (hl.at (i := 15) rfl) (k H locs ls hP hS hl)
theorem pw_istore15 {X : CX} {K : KX} {lay : List PD} {cc : ByteArray} {own : String} {nL : Nat} {ret : Option FieldType} {d : Nat} {cs : Nat × Nat} {Z : State → Prop} {pc : Nat} {st : List Value} {M : Mem} (C : CXok X K lay cc own nL ret d) {a0 a1 a2 a3 a4 a5 a6 a7 a8 a9 a10 a11 a12 a13 a14 : Option Value} {r : List (Option Value)} {b : Option Value} {z : Int} (hn : 15 < nL) (hd : decode cc pc = .ok (.istore 15, 2)) (k : PW X K lay nL cs Z (pc + 2) (a0 :: a1 :: a2 :: a3 :: a4 :: a5 :: a6 :: a7 :: a8 :: a9 :: a10 :: a11 :: a12 :: a13 :: a14 :: some (iV z) :: r) st M) :
    PW X K lay nL cs Z pc (a0 :: a1 :: a2 :: a3 :: a4 :: a5 :: a6 :: a7 :: a8 :: a9 :: a10 :: a11 :: a12 :: a13 :: a14 :: b :: r) (iV z :: st) M := by
  obtain ⟨p, l, e, R, s, m, args, below, meth, c, A⟩ := X
  obtain ⟨hx, hb, hml, hown, hts, hK, hinj, hAk, hA, hlk, hrt, hfr, hlo⟩ := C
  intro H locs ls hP hS hl
  refine lv_istore (lv' := _) hx hb hd hl.1 hn rfl (fun ls1 h1 => ?_)
  exact k H locs ls1 hP hS (LV.set (i := 15) (v := iV z) rfl hl.2 h1)
theorem pw_aload15 {X : CX} {K : KX} {lay : List PD} {cc : ByteArray} {own : String} {nL : Nat} {ret : Option FieldType} {d : Nat} {cs : Nat × Nat} {Z : State → Prop} {pc : Nat} {st : List Value} {M : Mem} (C : CXok X K lay cc own nL ret d) {a0 a1 a2 a3 a4 a5 a6 a7 a8 a9 a10 a11 a12 a13 a14 : Option Value} {r : List (Option Value)} {q : Nat} (hd : decode cc pc = .ok (.aload 15, 2)) (k : PW X K lay nL cs Z (pc + 2) (a0 :: a1 :: a2 :: a3 :: a4 :: a5 :: a6 :: a7 :: a8 :: a9 :: a10 :: a11 :: a12 :: a13 :: a14 :: some (rV K q) :: r) (rV K q :: st) M) :
    PW X K lay nL cs Z pc (a0 :: a1 :: a2 :: a3 :: a4 :: a5 :: a6 :: a7 :: a8 :: a9 :: a10 :: a11 :: a12 :: a13 :: a14 :: some (rV K q) :: r) st M := by
  obtain ⟨p, l, e, R, s, m, args, below, meth, c, A⟩ := X
  obtain ⟨hx, hb, hml, hown, hts, hK, hinj, hAk, hA, hlk, hrt, hfr, hlo⟩ := C
  intro H locs ls hP hS hl
  exact lv_aload hx hb hd (hl.at (i := 15) rfl) (k H locs ls hP hS hl)
theorem pw_astore15 {X : CX} {K : KX} {lay : List PD} {cc : ByteArray} {own : String} {nL : Nat} {ret : Option FieldType} {d : Nat} {cs : Nat × Nat} {Z : State → Prop} {pc : Nat} {st : List Value} {M : Mem} (C : CXok X K lay cc own nL ret d) {a0 a1 a2 a3 a4 a5 a6 a7 a8 a9 a10 a11 a12 a13 a14 : Option Value} {r : List (Option Value)} {b : Option Value} {q : Nat} (hn : 15 < nL) (hd : decode cc pc = .ok (.astore 15, 2)) (k : PW X K lay nL cs Z (pc + 2) (a0 :: a1 :: a2 :: a3 :: a4 :: a5 :: a6 :: a7 :: a8 :: a9 :: a10 :: a11 :: a12 :: a13 :: a14 :: some (rV K q) :: r) st M) :
    PW X K lay nL cs Z pc (a0 :: a1 :: a2 :: a3 :: a4 :: a5 :: a6 :: a7 :: a8 :: a9 :: a10 :: a11 :: a12 :: a13 :: a14 :: b :: r) (rV K q :: st) M := by
  obtain ⟨p, l, e, R, s, m, args, below, meth, c, A⟩ := X
  obtain ⟨hx, hb, hml, hown, hts, hK, hinj, hAk, hA, hlk, hrt, hfr, hlo⟩ := C
  intro H locs ls hP hS hl
  refine lv_astore (lv' := _) hx hb hd hl.1 hn rfl (fun ls1 h1 => ?_)
  exact k H locs ls1 hP hS (LV.set (i := 15) (v := rV K q) rfl hl.2 h1)
theorem pw_iinc15 {X : CX} {K : KX} {lay : List PD} {cc : ByteArray} {own : String} {nL : Nat} {ret : Option FieldType} {d : Nat} {cs : Nat × Nat} {Z : State → Prop} {pc : Nat} {st : List Value} {M : Mem} (C : CXok X K lay cc own nL ret d) {a0 a1 a2 a3 a4 a5 a6 a7 a8 a9 a10 a11 a12 a13 a14 : Option Value} {r : List (Option Value)} {z n : Int} (hn : 15 < nL) (hd : decode cc pc = .ok (.iinc 15 n, 3)) (k : PW X K lay nL cs Z (pc + 3) (a0 :: a1 :: a2 :: a3 :: a4 :: a5 :: a6 :: a7 :: a8 :: a9 :: a10 :: a11 :: a12 :: a13 :: a14 :: some (iV (z + n)) :: r) st M) :
    PW X K lay nL cs Z pc (a0 :: a1 :: a2 :: a3 :: a4 :: a5 :: a6 :: a7 :: a8 :: a9 :: a10 :: a11 :: a12 :: a13 :: a14 :: some (iV z) :: r) st M := by
  obtain ⟨p, l, e, R, s, m, args, below, meth, c, A⟩ := X
  obtain ⟨hx, hb, hml, hown, hts, hK, hinj, hAk, hA, hlk, hrt, hfr, hlo⟩ := C
  intro H locs ls hP hS hl
  have hm : (15, iV z) ∈ lvl 0 (a0 :: a1 :: a2 :: a3 :: a4 :: a5 :: a6 :: a7 :: a8 :: a9 :: a10 :: a11 :: a12 :: a13 :: a14 :: some (iV z) :: r) := (lvl_mem _ 0 15 _).mpr ⟨15, by omega, rfl⟩
  obtain ⟨k0, hk0⟩ := List.getElem?_of_mem hm
  refine lv_iinc (v := Int32.ofInt (z + n)) (lv' := _) hx hb hd hl.1 hk0 (Int32.ofInt_add z n).symm hn rfl (fun ls1 h1 => ?_)
  exact k H locs ls1 hP hS (LV.set (i := 15) (v := iV (z + n)) rfl hl.2 h1)
theorem pw_dup {X : CX} {K : KX} {lay : List PD} {cc : ByteArray} {own : String} {nL : Nat} {ret : Option FieldType} {d : Nat} {cs : Nat × Nat} {Z : State → Prop} {pc : Nat} {st : List Value} {M : Mem} (C : CXok X K lay cc own nL ret d) {L : List (Option Value)} {v : Value} (hv : v.category = 1) (hd : decode cc pc = .ok (.dup, 1)) (k : PW X K lay nL cs Z (pc + 1) L (v :: v :: st) M) :
    PW X K lay nL cs Z pc L (v :: st) M := by
  obtain ⟨p, l, e, R, s, m, args, below, meth, c, A⟩ := X
  obtain ⟨hx, hb, hml, hown, hts, hK, hinj, hAk, hA, hlk, hrt, hfr, hlo⟩ := C
  intro H locs ls hP hS hl
  exact lv_dup hx hb hd hv (k H locs ls hP hS hl)
theorem pw_dup2 {X : CX} {K : KX} {lay : List PD} {cc : ByteArray} {own : String} {nL : Nat} {ret : Option FieldType} {d : Nat} {cs : Nat × Nat} {Z : State → Prop} {pc : Nat} {st : List Value} {M : Mem} (C : CXok X K lay cc own nL ret d) {L : List (Option Value)} {v w : Value} (hv : v.category = 1) (hw : w.category = 1) (hd : decode cc pc = .ok (.dup2, 1)) (k : PW X K lay nL cs Z (pc + 1) L (v :: w :: v :: w :: st) M) :
    PW X K lay nL cs Z pc L (v :: w :: st) M := by
  obtain ⟨p, l, e, R, s, m, args, below, meth, c, A⟩ := X
  obtain ⟨hx, hb, hml, hown, hts, hK, hinj, hAk, hA, hlk, hrt, hfr, hlo⟩ := C
  intro H locs ls hP hS hl
  exact lv_dup2_11 hx hb hd hv hw (k H locs ls hP hS hl)
theorem pw_iadd {X : CX} {K : KX} {lay : List PD} {cc : ByteArray} {own : String} {nL : Nat} {ret : Option FieldType} {d : Nat} {cs : Nat × Nat} {Z : State → Prop} {pc : Nat} {st : List Value} {M : Mem} (C : CXok X K lay cc own nL ret d) {L : List (Option Value)} {a b : Int} (hd : decode cc pc = .ok (.iadd, 1)) (k : PW X K lay nL cs Z (pc + 1) L (iV (a + b) :: st) M) :
    PW X K lay nL cs Z pc L (iV b :: iV a :: st) M := by
  obtain ⟨p, l, e, R, s, m, args, below, meth, c, A⟩ := X
  obtain ⟨hx, hb, hml, hown, hts, hK, hinj, hAk, hA, hlk, hrt, hfr, hlo⟩ := C
  intro H locs ls hP hS hl
  refine lv_iadd hx hb hd ?_
  rw [← Int32.ofInt_add]
  exact k H locs ls hP hS hl
theorem pw_isub {X : CX} {K : KX} {lay : List PD} {cc : ByteArray} {own : String} {nL : Nat} {ret : Option FieldType} {d : Nat} {cs : Nat × Nat} {Z : State → Prop} {pc : Nat} {st : List Value} {M : Mem} (C : CXok X K lay cc own nL ret d) {L : List (Option Value)} {a b : Int} (hd : decode cc pc = .ok (.isub, 1)) (k : PW X K lay nL cs Z (pc + 1) L (iV (a - b) :: st) M) :
    PW X K lay nL cs Z pc L (iV b :: iV a :: st) M := by
  obtain ⟨p, l, e, R, s, m, args, below, meth, c, A⟩ := X
  obtain ⟨hx, hb, hml, hown, hts, hK, hinj, hAk, hA, hlk, hrt, hfr, hlo⟩ := C
  intro H locs ls hP hS hl
  refine lv_isub hx hb hd ?_
  rw [← Int32.ofInt_sub]
  exact k H locs ls hP hS hl
theorem pw_imul {X : CX} {K : KX} {lay : List PD} {cc : ByteArray} {own : String} {nL : Nat} {ret : Option FieldType} {d : Nat} {cs : Nat × Nat} {Z : State → Prop} {pc : Nat} {st : List Value} {M : Mem} (C : CXok X K lay cc own nL ret d) {L : List (Option Value)} {a b : Int} (hd : decode cc pc = .ok (.imul, 1)) (k : PW X K lay nL cs Z (pc + 1) L (iV (a * b) :: st) M) :
    PW X K lay nL cs Z pc L (iV b :: iV a :: st) M := by
  obtain ⟨p, l, e, R, s, m, args, below, meth, c, A⟩ := X
  obtain ⟨hx, hb, hml, hown, hts, hK, hinj, hAk, hA, hlk, hrt, hfr, hlo⟩ := C
  intro H locs ls hP hS hl
  refine lv_imul hx hb hd ?_
  rw [← Int32.ofInt_mul]
  exact k H locs ls hP hS hl
theorem pw_ineg {X : CX} {K : KX} {lay : List PD} {cc : ByteArray} {own : String} {nL : Nat} {ret : Option FieldType} {d : Nat} {cs : Nat × Nat} {Z : State → Prop} {pc : Nat} {st : List Value} {M : Mem} (C : CXok X K lay cc own nL ret d) {L : List (Option Value)} {a : Int} (hd : decode cc pc = .ok (.ineg, 1)) (k : PW X K lay nL cs Z (pc + 1) L (iV (-a) :: st) M) :
    PW X K lay nL cs Z pc L (iV a :: st) M := by
  obtain ⟨p, l, e, R, s, m, args, below, meth, c, A⟩ := X
  obtain ⟨hx, hb, hml, hown, hts, hK, hinj, hAk, hA, hlk, hrt, hfr, hlo⟩ := C
  intro H locs ls hP hS hl
  refine lv_ineg hx hb hd ?_
  rw [← Int32.ofInt_neg]
  exact k H locs ls hP hS hl
theorem pw_iand {X : CX} {K : KX} {lay : List PD} {cc : ByteArray} {own : String} {nL : Nat} {ret : Option FieldType} {d : Nat} {cs : Nat × Nat} {Z : State → Prop} {pc : Nat} {st : List Value} {M : Mem} (C : CXok X K lay cc own nL ret d) {L : List (Option Value)} {a b : Int} (z : Int) (h : Int32.ofInt a &&& Int32.ofInt b = Int32.ofInt z) (hd : decode cc pc = .ok (.iand, 1)) (k : PW X K lay nL cs Z (pc + 1) L (iV z :: st) M) :
    PW X K lay nL cs Z pc L (iV b :: iV a :: st) M := by
  obtain ⟨p, l, e, R, s, m, args, below, meth, c, A⟩ := X
  obtain ⟨hx, hb, hml, hown, hts, hK, hinj, hAk, hA, hlk, hrt, hfr, hlo⟩ := C
  intro H locs ls hP hS hl
  refine lv_iand hx hb hd ?_
  rw [h]
  exact k H locs ls hP hS hl
theorem pw_ior {X : CX} {K : KX} {lay : List PD} {cc : ByteArray} {own : String} {nL : Nat} {ret : Option FieldType} {d : Nat} {cs : Nat × Nat} {Z : State → Prop} {pc : Nat} {st : List Value} {M : Mem} (C : CXok X K lay cc own nL ret d) {L : List (Option Value)} {a b : Int} (z : Int) (h : Int32.ofInt a ||| Int32.ofInt b = Int32.ofInt z) (hd : decode cc pc = .ok (.ior, 1)) (k : PW X K lay nL cs Z (pc + 1) L (iV z :: st) M) :
    PW X K lay nL cs Z pc L (iV b :: iV a :: st) M := by
  obtain ⟨p, l, e, R, s, m, args, below, meth, c, A⟩ := X
  obtain ⟨hx, hb, hml, hown, hts, hK, hinj, hAk, hA, hlk, hrt, hfr, hlo⟩ := C
  intro H locs ls hP hS hl
  refine lv_ior hx hb hd ?_
  rw [h]
  exact k H locs ls hP hS hl
theorem pw_ixor {X : CX} {K : KX} {lay : List PD} {cc : ByteArray} {own : String} {nL : Nat} {ret : Option FieldType} {d : Nat} {cs : Nat × Nat} {Z : State → Prop} {pc : Nat} {st : List Value} {M : Mem} (C : CXok X K lay cc own nL ret d) {L : List (Option Value)} {a b : Int} (z : Int) (h : Int32.ofInt a ^^^ Int32.ofInt b = Int32.ofInt z) (hd : decode cc pc = .ok (.ixor, 1)) (k : PW X K lay nL cs Z (pc + 1) L (iV z :: st) M) :
    PW X K lay nL cs Z pc L (iV b :: iV a :: st) M := by
  obtain ⟨p, l, e, R, s, m, args, below, meth, c, A⟩ := X
  obtain ⟨hx, hb, hml, hown, hts, hK, hinj, hAk, hA, hlk, hrt, hfr, hlo⟩ := C
  intro H locs ls hP hS hl
  refine lv_ixor hx hb hd ?_
  rw [h]
  exact k H locs ls hP hS hl
theorem pw_ishl {X : CX} {K : KX} {lay : List PD} {cc : ByteArray} {own : String} {nL : Nat} {ret : Option FieldType} {d : Nat} {cs : Nat × Nat} {Z : State → Prop} {pc : Nat} {st : List Value} {M : Mem} (C : CXok X K lay cc own nL ret d) {L : List (Option Value)} {a b : Int} (z : Int) (h : Int32.ofInt a <<< (Int32.ofInt b &&& 31) = Int32.ofInt z) (hd : decode cc pc = .ok (.ishl, 1)) (k : PW X K lay nL cs Z (pc + 1) L (iV z :: st) M) :
    PW X K lay nL cs Z pc L (iV b :: iV a :: st) M := by
  obtain ⟨p, l, e, R, s, m, args, below, meth, c, A⟩ := X
  obtain ⟨hx, hb, hml, hown, hts, hK, hinj, hAk, hA, hlk, hrt, hfr, hlo⟩ := C
  intro H locs ls hP hS hl
  refine lv_ishl hx hb hd ?_
  rw [h]
  exact k H locs ls hP hS hl
theorem pw_ishr {X : CX} {K : KX} {lay : List PD} {cc : ByteArray} {own : String} {nL : Nat} {ret : Option FieldType} {d : Nat} {cs : Nat × Nat} {Z : State → Prop} {pc : Nat} {st : List Value} {M : Mem} (C : CXok X K lay cc own nL ret d) {L : List (Option Value)} {a b : Int} (z : Int) (h : Int32.ofInt a >>> (Int32.ofInt b &&& 31) = Int32.ofInt z) (hd : decode cc pc = .ok (.ishr, 1)) (k : PW X K lay nL cs Z (pc + 1) L (iV z :: st) M) :
    PW X K lay nL cs Z pc L (iV b :: iV a :: st) M := by
  obtain ⟨p, l, e, R, s, m, args, below, meth, c, A⟩ := X
  obtain ⟨hx, hb, hml, hown, hts, hK, hinj, hAk, hA, hlk, hrt, hfr, hlo⟩ := C
  intro H locs ls hP hS hl
  refine lv_ishr hx hb hd ?_
  rw [h]
  exact k H locs ls hP hS hl
theorem i32_ne0 {b : Int} (h : 0 < b ∧ b ≤ 2147483647) : ¬ Int32.ofInt b = 0 := by
  rw [i32_0, i32_eq (by omega) (by omega)]
  omega
theorem i32_nI {z : Int} (h : 0 ≤ z ∧ z ≤ 2147483647) : Int32.ofInt z = nI z.toNat := by
  apply Int32.toInt_inj.mp
  rw [i32_rng (by omega), nI_toInt (by omega)]
  omega
theorem pw_idiv {X : CX} {K : KX} {lay : List PD} {cc : ByteArray} {own : String} {nL : Nat} {ret : Option FieldType} {d : Nat} {cs : Nat × Nat} {Z : State → Prop} {pc : Nat} {st : List Value} {M : Mem} (C : CXok X K lay cc own nL ret d) {L : List (Option Value)} {a b : Int} (ha : 0 ≤ a ∧ a ≤ 2147483647) (hb9 : 0 < b ∧ b ≤ 2147483647) (hd : decode cc pc = .ok (.idiv, 1)) (k : PW X K lay nL cs Z (pc + 1) L (iV (a / b) :: st) M) :
    PW X K lay nL cs Z pc L (iV b :: iV a :: st) M := by
  obtain ⟨p, l, e, R, s, m, args, below, meth, c, A⟩ := X
  obtain ⟨hx, hb, hml, hown, hts, hK, hinj, hAk, hA, hlk, hrt, hfr, hlo⟩ := C
  intro H locs ls hP hS hl
  refine lv_idiv hx hb hd (i32_ne0 hb9) ?_
  have e : Int32.ofInt a / Int32.ofInt b = Int32.ofInt (a / b) := by
    rw [i32_nI ha, i32_nI (by omega), pk_div (by omega) (by omega) (by omega), i32_nI ⟨Int.ediv_nonneg ha.1 (by omega), Int.le_trans (Int.ediv_le_self b ha.1) ha.2⟩]
    congr 1
    obtain ⟨x, rfl⟩ := Int.eq_ofNat_of_zero_le ha.1
    obtain ⟨y, rfl⟩ := Int.eq_ofNat_of_zero_le (show 0 ≤ b by omega)
    rfl
  rw [e]
  exact k H locs ls hP hS hl
theorem pw_irem {X : CX} {K : KX} {lay : List PD} {cc : ByteArray} {own : String} {nL : Nat} {ret : Option FieldType} {d : Nat} {cs : Nat × Nat} {Z : State → Prop} {pc : Nat} {st : List Value} {M : Mem} (C : CXok X K lay cc own nL ret d) {L : List (Option Value)} {a b : Int} (ha : 0 ≤ a ∧ a ≤ 2147483647) (hb9 : 0 < b ∧ b ≤ 2147483647) (hd : decode cc pc = .ok (.irem, 1)) (k : PW X K lay nL cs Z (pc + 1) L (iV (a % b) :: st) M) :
    PW X K lay nL cs Z pc L (iV b :: iV a :: st) M := by
  obtain ⟨p, l, e, R, s, m, args, below, meth, c, A⟩ := X
  obtain ⟨hx, hb, hml, hown, hts, hK, hinj, hAk, hA, hlk, hrt, hfr, hlo⟩ := C
  intro H locs ls hP hS hl
  refine lv_irem hx hb hd (i32_ne0 hb9) ?_
  have hm := Int.emod_nonneg a (show b ≠ 0 by omega)
  have hm2 := Int.emod_lt_of_pos a hb9.1
  have e : Int32.ofInt a - Int32.ofInt a / Int32.ofInt b * Int32.ofInt b = Int32.ofInt (a % b) := by
    rw [i32_nI ha, i32_nI (z := b) (by omega), pk_rem (by omega) (by omega) (by omega), i32_nI (z := a % b) (by omega)]
    congr 1
    obtain ⟨x, rfl⟩ := Int.eq_ofNat_of_zero_le ha.1
    obtain ⟨y, rfl⟩ := Int.eq_ofNat_of_zero_le (show 0 ≤ b by omega)
    rfl
  rw [e]
  exact k H locs ls hP hS hl
theorem pw_i2b {X : CX} {K : KX} {lay : List PD} {cc : ByteArray} {own : String} {nL : Nat} {ret : Option FieldType} {d : Nat} {cs : Nat × Nat} {Z : State → Prop} {pc : Nat} {st : List Value} {M : Mem} (C : CXok X K lay cc own nL ret d) {L : List (Option Value)} {a : Int} (z : Int) (h : (Int32.ofInt a).toInt8.toInt32 = Int32.ofInt z) (hd : decode cc pc = .ok (.i2b, 1)) (k : PW X K lay nL cs Z (pc + 1) L (iV z :: st) M) :
    PW X K lay nL cs Z pc L (iV a :: st) M := by
  obtain ⟨p, l, e, R, s, m, args, below, meth, c, A⟩ := X
  obtain ⟨hx, hb, hml, hown, hts, hK, hinj, hAk, hA, hlk, hrt, hfr, hlo⟩ := C
  intro H locs ls hP hS hl
  exact lv_i2b hx hb hd h (k H locs ls hP hS hl)
theorem i32_r0 : -2147483648 ≤ (0 : Int) ∧ (0 : Int) ≤ 2147483647 := by decide
theorem pw_icmp_eq {X : CX} {K : KX} {lay : List PD} {cc : ByteArray} {own : String} {nL : Nat} {ret : Option FieldType} {d : Nat} {cs : Nat × Nat} {Z : State → Prop} {pc : Nat} {st : List Value} {M : Mem} (C : CXok X K lay cc own nL ret d) {L : List (Option Value)} {a b : Int} {off : Int} {tgt : Nat} (hd : decode cc pc = .ok (.if_icmp .eq off, 3)) (ht : (pc : Int) + off = (tgt : Int)) (ha : -2147483648 ≤ a ∧ a ≤ 2147483647) (hb9 : -2147483648 ≤ b ∧ b ≤ 2147483647) (kt : a = b → PW X K lay nL cs Z tgt L st M) (kf : a ≠ b → PW X K lay nL cs Z (pc + 3) L st M) :
    PW X K lay nL cs Z pc L (iV b :: iV a :: st) M := by
  obtain ⟨p, l, e, R, s, m, args, below, meth, c, A⟩ := X
  obtain ⟨hx, hb, hml, hown, hts, hK, hinj, hAk, hA, hlk, hrt, hfr, hlo⟩ := C
  intro H locs ls hP hS hl
  exact lv_icmp_eq hx hb hd ht (fun h => kt ((i32_eq ha hb9).mp h) H locs ls hP hS hl) (fun h => kf (fun h9 => h ((i32_eq ha hb9).mpr h9)) H locs ls hP hS hl)
theorem pw_if_eq {X : CX} {K : KX} {lay : List PD} {cc : ByteArray} {own : String} {nL : Nat} {ret : Option FieldType} {d : Nat} {cs : Nat × Nat} {Z : State → Prop} {pc : Nat} {st : List Value} {M : Mem} (C : CXok X K lay cc own nL ret d) {L : List (Option Value)} {a : Int} {off : Int} {tgt : Nat} (hd : decode cc pc = .ok (.ifCond .eq off, 3)) (ht : (pc : Int) + off = (tgt : Int)) (ha : -2147483648 ≤ a ∧ a ≤ 2147483647) (kt : a = 0 → PW X K lay nL cs Z tgt L st M) (kf : a ≠ 0 → PW X K lay nL cs Z (pc + 3) L st M) :
    PW X K lay nL cs Z pc L (iV a :: st) M := by
  obtain ⟨p, l, e, R, s, m, args, below, meth, c, A⟩ := X
  obtain ⟨hx, hb, hml, hown, hts, hK, hinj, hAk, hA, hlk, hrt, hfr, hlo⟩ := C
  intro H locs ls hP hS hl
  exact lv_if_eq hx hb hd ht (fun h => kt ((i32_eq ha i32_r0).mp h) H locs ls hP hS hl) (fun h => kf (fun h9 => h ((i32_eq ha i32_r0).mpr h9)) H locs ls hP hS hl)
theorem pw_icmp_ne {X : CX} {K : KX} {lay : List PD} {cc : ByteArray} {own : String} {nL : Nat} {ret : Option FieldType} {d : Nat} {cs : Nat × Nat} {Z : State → Prop} {pc : Nat} {st : List Value} {M : Mem} (C : CXok X K lay cc own nL ret d) {L : List (Option Value)} {a b : Int} {off : Int} {tgt : Nat} (hd : decode cc pc = .ok (.if_icmp .ne off, 3)) (ht : (pc : Int) + off = (tgt : Int)) (ha : -2147483648 ≤ a ∧ a ≤ 2147483647) (hb9 : -2147483648 ≤ b ∧ b ≤ 2147483647) (kt : a ≠ b → PW X K lay nL cs Z tgt L st M) (kf : a = b → PW X K lay nL cs Z (pc + 3) L st M) :
    PW X K lay nL cs Z pc L (iV b :: iV a :: st) M := by
  obtain ⟨p, l, e, R, s, m, args, below, meth, c, A⟩ := X
  obtain ⟨hx, hb, hml, hown, hts, hK, hinj, hAk, hA, hlk, hrt, hfr, hlo⟩ := C
  intro H locs ls hP hS hl
  exact lv_icmp_ne hx hb hd ht (fun h => kt (fun h9 => h ((i32_eq ha hb9).mpr h9)) H locs ls hP hS hl) (fun h => kf ((i32_eq ha hb9).mp h) H locs ls hP hS hl)
theorem pw_if_ne {X : CX} {K : KX} {lay : List PD} {cc : ByteArray} {own : String} {nL : Nat} {ret : Option FieldType} {d : Nat} {cs : Nat × Nat} {Z : State → Prop} {pc : Nat} {st : List Value} {M : Mem} (C : CXok X K lay cc own nL ret d) {L : List (Option Value)} {a : Int} {off : Int} {tgt : Nat} (hd : decode cc pc = .ok (.ifCond .ne off, 3)) (ht : (pc : Int) + off = (tgt : Int)) (ha : -2147483648 ≤ a ∧ a ≤ 2147483647) (kt : a ≠ 0 → PW X K lay nL cs Z tgt L st M) (kf : a = 0 → PW X K lay nL cs Z (pc + 3) L st M) :
    PW X K lay nL cs Z pc L (iV a :: st) M := by
  obtain ⟨p, l, e, R, s, m, args, below, meth, c, A⟩ := X
  obtain ⟨hx, hb, hml, hown, hts, hK, hinj, hAk, hA, hlk, hrt, hfr, hlo⟩ := C
  intro H locs ls hP hS hl
  exact lv_if_ne hx hb hd ht (fun h => kt (fun h9 => h ((i32_eq ha i32_r0).mpr h9)) H locs ls hP hS hl) (fun h => kf ((i32_eq ha i32_r0).mp h) H locs ls hP hS hl)
theorem pw_icmp_lt {X : CX} {K : KX} {lay : List PD} {cc : ByteArray} {own : String} {nL : Nat} {ret : Option FieldType} {d : Nat} {cs : Nat × Nat} {Z : State → Prop} {pc : Nat} {st : List Value} {M : Mem} (C : CXok X K lay cc own nL ret d) {L : List (Option Value)} {a b : Int} {off : Int} {tgt : Nat} (hd : decode cc pc = .ok (.if_icmp .lt off, 3)) (ht : (pc : Int) + off = (tgt : Int)) (ha : -2147483648 ≤ a ∧ a ≤ 2147483647) (hb9 : -2147483648 ≤ b ∧ b ≤ 2147483647) (kt : a < b → PW X K lay nL cs Z tgt L st M) (kf : b ≤ a → PW X K lay nL cs Z (pc + 3) L st M) :
    PW X K lay nL cs Z pc L (iV b :: iV a :: st) M := by
  obtain ⟨p, l, e, R, s, m, args, below, meth, c, A⟩ := X
  obtain ⟨hx, hb, hml, hown, hts, hK, hinj, hAk, hA, hlk, hrt, hfr, hlo⟩ := C
  intro H locs ls hP hS hl
  exact lv_icmp_lt hx hb hd ht (fun h => kt ((i32_lt ha hb9).mp h) H locs ls hP hS hl) (fun h => kf (Int.not_lt.mp fun h9 => h ((i32_lt ha hb9).mpr h9)) H locs ls hP hS hl)
theorem pw_if_lt {X : CX} {K : KX} {lay : List PD} {cc : ByteArray} {own : String} {nL : Nat} {ret : Option FieldType} {d : Nat} {cs : Nat × Nat} {Z : State → Prop} {pc : Nat} {st : List Value} {M : Mem} (C : CXok X K lay cc own nL ret d) {L : List (Option Value)} {a : Int} {off : Int} {tgt : Nat} (hd : decode cc pc = .ok (.ifCond .lt off, 3)) (ht : (pc : Int) + off = (tgt : Int)) (ha : -2147483648 ≤ a ∧ a ≤ 2147483647) (kt : a < 0 → PW X K lay nL cs Z tgt L st M) (kf : 0 ≤ a → PW X K lay nL cs Z (pc + 3) L st M) :
    PW X K lay nL cs Z pc L (iV a :: st) M := by
  obtain ⟨p, l, e, R, s, m, args, below, meth, c, A⟩ := X
  obtain ⟨hx, hb, hml, hown, hts, hK, hinj, hAk, hA, hlk, hrt, hfr, hlo⟩ := C
  intro H locs ls hP hS hl
  exact lv_if_lt hx hb hd ht (fun h => kt ((i32_lt ha i32_r0).mp h) H locs ls hP hS hl) (fun h => kf (Int.not_lt.mp fun h9 => h ((i32_lt ha i32_r0).mpr h9)) H locs ls hP hS hl)
theorem pw_icmp_ge {X : CX} {K : KX} {lay : List PD} {cc : ByteArray} {own : String} {nL : Nat} {ret : Option FieldType} {d : Nat} {cs : Nat × Nat} {Z : State → Prop} {pc : Nat} {st : List Value} {M : Mem} (C : CXok X K lay cc own nL ret d) {L : List (Option Value)} {a b : Int} {off : Int} {tgt : Nat} (hd : decode cc pc = .ok (.if_icmp .ge off, 3)) (ht : (pc : Int) + off = (tgt : Int)) (ha : -2147483648 ≤ a ∧ a ≤ 2147483647) (hb9 : -2147483648 ≤ b ∧ b ≤ 2147483647) (kt : b ≤ a → PW X K lay nL cs Z tgt L st M) (kf : a < b → PW X K lay nL cs Z (pc + 3) L st M) :
    PW X K lay nL cs Z pc L (iV b :: iV a :: st) M := by
  obtain ⟨p, l, e, R, s, m, args, below, meth, c, A⟩ := X
  obtain ⟨hx, hb, hml, hown, hts, hK, hinj, hAk, hA, hlk, hrt, hfr, hlo⟩ := C
  intro H locs ls hP hS hl
  exact lv_icmp_ge hx hb hd ht (fun h => kt ((i32_le hb9 ha).mp h) H locs ls hP hS hl) (fun h => kf (Int.not_le.mp fun h9 => h ((i32_le hb9 ha).mpr h9)) H locs ls hP hS hl)
theorem pw_if_ge {X : CX} {K : KX} {lay : List PD} {cc : ByteArray} {own : String} {nL : Nat} {ret : Option FieldType} {d : Nat} {cs : Nat × Nat} {Z : State → Prop} {pc : Nat} {st : List Value} {M : Mem} (C : CXok X K lay cc own nL ret d) {L : List (Option Value)} {a : Int} {off : Int} {tgt : Nat} (hd : decode cc pc = .ok (.ifCond .ge off, 3)) (ht : (pc : Int) + off = (tgt : Int)) (ha : -2147483648 ≤ a ∧ a ≤ 2147483647) (kt : 0 ≤ a → PW X K lay nL cs Z tgt L st M) (kf : a < 0 → PW X K lay nL cs Z (pc + 3) L st M) :
    PW X K lay nL cs Z pc L (iV a :: st) M := by
  obtain ⟨p, l, e, R, s, m, args, below, meth, c, A⟩ := X
  obtain ⟨hx, hb, hml, hown, hts, hK, hinj, hAk, hA, hlk, hrt, hfr, hlo⟩ := C
  intro H locs ls hP hS hl
  exact lv_if_ge hx hb hd ht (fun h => kt ((i32_le i32_r0 ha).mp h) H locs ls hP hS hl) (fun h => kf (Int.not_le.mp fun h9 => h ((i32_le i32_r0 ha).mpr h9)) H locs ls hP hS hl)
theorem pw_icmp_gt {X : CX} {K : KX} {lay : List PD} {cc : ByteArray} {own : String} {nL : Nat} {ret : Option FieldType} {d : Nat} {cs : Nat × Nat} {Z : State → Prop} {pc : Nat} {st : List Value} {M : Mem} (C : CXok X K lay cc own nL ret d) {L : List (Option Value)} {a b : Int} {off : Int} {tgt : Nat} (hd : decode cc pc = .ok (.if_icmp .gt off, 3)) (ht : (pc : Int) + off = (tgt : Int)) (ha : -2147483648 ≤ a ∧ a ≤ 2147483647) (hb9 : -2147483648 ≤ b ∧ b ≤ 2147483647) (kt : b < a → PW X K lay nL cs Z tgt L st M) (kf : a ≤ b → PW X K lay nL cs Z (pc + 3) L st M) :
    PW X K lay nL cs Z pc L (iV b :: iV a :: st) M := by
  obtain ⟨p, l, e, R, s, m, args, below, meth, c, A⟩ := X
  obtain ⟨hx, hb, hml, hown, hts, hK, hinj, hAk, hA, hlk, hrt, hfr, hlo⟩ := C
  intro H locs ls hP hS hl
  exact lv_icmp_gt hx hb hd ht (fun h => kt ((i32_lt hb9 ha).mp h) H locs ls hP hS hl) (fun h => kf (Int.not_lt.mp fun h9 => h ((i32_lt hb9 ha).mpr h9)) H locs ls hP hS hl)
theorem pw_if_gt {X : CX} {K : KX} {lay : List PD} {cc : ByteArray} {own : String} {nL : Nat} {ret : Option FieldType} {d : Nat} {cs : Nat × Nat} {Z : State → Prop} {pc : Nat} {st : List Value} {M : Mem} (C : CXok X K lay cc own nL ret d) {L : List (Option Value)} {a : Int} {off : Int} {tgt : Nat} (hd : decode cc pc = .ok (.ifCond .gt off, 3)) (ht : (pc : Int) + off = (tgt : Int)) (ha : -2147483648 ≤ a ∧ a ≤ 2147483647) (kt : 0 < a → PW X K lay nL cs Z tgt L st M) (kf : a ≤ 0 → PW X K lay nL cs Z (pc + 3) L st M) :
    PW X K lay nL cs Z pc L (iV a :: st) M := by
  obtain ⟨p, l, e, R, s, m, args, below, meth, c, A⟩ := X
  obtain ⟨hx, hb, hml, hown, hts, hK, hinj, hAk, hA, hlk, hrt, hfr, hlo⟩ := C
  intro H locs ls hP hS hl
  exact lv_if_gt hx hb hd ht (fun h => kt ((i32_lt i32_r0 ha).mp h) H locs ls hP hS hl) (fun h => kf (Int.not_lt.mp fun h9 => h ((i32_lt i32_r0 ha).mpr h9)) H locs ls hP hS hl)
theorem pw_icmp_le {X : CX} {K : KX} {lay : List PD} {cc : ByteArray} {own : String} {nL : Nat} {ret : Option FieldType} {d : Nat} {cs : Nat × Nat} {Z : State → Prop} {pc : Nat} {st : List Value} {M : Mem} (C : CXok X K lay cc own nL ret d) {L : List (Option Value)} {a b : Int} {off : Int} {tgt : Nat} (hd : decode cc pc = .ok (.if_icmp .le off, 3)) (ht : (pc : Int) + off = (tgt : Int)) (ha : -2147483648 ≤ a ∧ a ≤ 2147483647) (hb9 : -2147483648 ≤ b ∧ b ≤ 2147483647) (kt : a ≤ b → PW X K lay nL cs Z tgt L st M) (kf : b < a → PW X K lay nL cs Z (pc + 3) L st M) :
    PW X K lay nL cs Z pc L (iV b :: iV a :: st) M := by
  obtain ⟨p, l, e, R, s, m, args, below, meth, c, A⟩ := X
  obtain ⟨hx, hb, hml, hown, hts, hK, hinj, hAk, hA, hlk, hrt, hfr, hlo⟩ := C
  intro H locs ls hP hS hl
  exact lv_icmp_le hx hb hd ht (fun h => kt ((i32_le ha hb9).mp h) H locs ls hP hS hl) (fun h => kf (Int.not_le.mp fun h9 => h ((i32_le ha hb9).mpr h9)) H locs ls hP hS hl)
theorem pw_if_le {X : CX} {K : KX} {lay : List PD} {cc : ByteArray} {own : String} {nL : Nat} {ret : Option FieldType} {d : Nat} {cs : Nat × Nat} {Z : State → Prop} {pc : Nat} {st : List Value} {M : Mem} (C : CXok X K lay cc own nL ret d) {L : List (Option Value)} {a : Int} {off : Int} {tgt : Nat} (hd : decode cc pc = .ok (.ifCond .le off, 3)) (ht : (pc : Int) + off = (tgt : Int)) (ha : -2147483648 ≤ a ∧ a ≤ 2147483647) (kt : a ≤ 0 → PW X K lay nL cs Z tgt L st M) (kf : 0 < a → PW X K lay nL cs Z (pc + 3) L st M) :
    PW X K lay nL cs Z pc L (iV a :: st) M := by
  obtain ⟨p, l, e, R, s, m, args, below, meth, c, A⟩ := X
  obtain ⟨hx, hb, hml, hown, hts, hK, hinj, hAk, hA, hlk, hrt, hfr, hlo⟩ := C
  intro H locs ls hP hS hl
  exact lv_if_le hx hb hd ht (fun h => kt ((i32_le ha i32_r0).mp h) H locs ls hP hS hl) (fun h => kf (Int.not_le.mp fun h9 => h ((i32_le ha i32_r0).mpr h9)) H locs ls hP hS hl)
theorem pw_goto {X : CX} {K : KX} {lay : List PD} {cc : ByteArray} {own : String} {nL : Nat} {ret : Option FieldType} {d : Nat} {cs : Nat × Nat} {Z : State → Prop} {pc : Nat} {st : List Value} {M : Mem} (C : CXok X K lay cc own nL ret d) {L : List (Option Value)} {off : Int} {tgt : Nat} (hd : decode cc pc = .ok (.goto off, 3)) (ht : (pc : Int) + off = (tgt : Int)) (k : PW X K lay nL cs Z tgt L st M) :
    PW X K lay nL cs Z pc L st M := by
  obtain ⟨p, l, e, R, s, m, args, below, meth, c, A⟩ := X
  obtain ⟨hx, hb, hml, hown, hts, hK, hinj, hAk, hA, hlk, hrt, hfr, hlo⟩ := C
  intro H locs ls hP hS hl
  exact lv_goto hx hb hd ht (k H locs ls hP hS hl)
theorem pw_top {X : CX} {K : KX} {lay : List PD} {cc : ByteArray} {own : String} {nL : Nat} {ret : Option FieldType} {d : Nat} {cs : Nat × Nat} {Z : State → Prop} {pc : Nat} {st : List Value} {M : Mem} (C : CXok X K lay cc own nL ret d) {L : List (Option Value)} {a : Int} (z : Int) (h : a = z) (k : PW X K lay nL cs Z pc L (iV z :: st) M) :
    PW X K lay nL cs Z pc L (iV a :: st) M := by
  subst h
  exact k
