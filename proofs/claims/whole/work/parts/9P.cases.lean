/-! the law's own rows -/
def SCR (X : CX) (b n : Nat) (xs : Nat → Int32) : Prop := match X with
  | (_, _, _, _, s, _, _, _, _, _, A) => va_X b n xs s s.heap ∧ b < s.heap.size ∧ ¬ A b
theorem i32x (x : Int32) : -2147483648 ≤ x.toInt ∧ x.toInt ≤ 2147483647 := ⟨x.le_toInt, Int.le_of_lt_add_one (x.toInt_lt)⟩
theorem iV_x (x : Int32) : Value.int x = iV x.toInt := by
  unfold iV
  rw [Int32.ofInt_toInt]
theorem pw_sld {X : CX} {K : KX} {lay : List PD} {cc : ByteArray} {own : String} {nL : Nat} {ret : Option FieldType} {d : Nat} {cs : Nat × Nat} {Z : State → Prop} {pc : Nat} {st : List Value} {M : Mem} (C : CXok X K lay cc own nL ret d) {L : List (Option Value)} {b n : Nat} {xs : Nat → Int32} {z : Int} (hX : SCR X b n xs) (hz : 0 ≤ z ∧ z < (n : Int)) (hn : n < 2147483648) (hd : decode cc pc = .ok (.iaload, 1)) (k : PW X K lay nL cs Z (pc + 1) L (iV (xs z.toNat).toInt :: st) M) : PW X K lay nL cs Z pc L (iV z :: Value.ref b :: st) M := by
  obtain ⟨p, l, e, R, s, m, args, below, meth, c0, A⟩ := X
  obtain ⟨hx, hb, hml, hown, hts, hK, hinj, hAk, hA, hlk, hrt, hfr, hlo⟩ := C
  intro H locs ls hP hS hl
  obtain ⟨h1, h2, h3⟩ := hX
  refine va_sld hx hb h1 h2 h3 hS (i32_in hz hn) hd ?_
  rw [i32_clamp (by omega), iV_x]
  exact k H locs ls hP hS hl
theorem pw_slen {X : CX} {K : KX} {lay : List PD} {cc : ByteArray} {own : String} {nL : Nat} {ret : Option FieldType} {d : Nat} {cs : Nat × Nat} {Z : State → Prop} {pc : Nat} {st : List Value} {M : Mem} (C : CXok X K lay cc own nL ret d) {L : List (Option Value)} {b n : Nat} {xs : Nat → Int32} (hX : SCR X b n xs) (hd : decode cc pc = .ok (.arraylength, 1)) (k : PW X K lay nL cs Z (pc + 1) L (iV (n : Int) :: st) M) : PW X K lay nL cs Z pc L (Value.ref b :: st) M := by
  obtain ⟨p, l, e, R, s, m, args, below, meth, c0, A⟩ := X
  obtain ⟨hx, hb, hml, hown, hts, hK, hinj, hAk, hA, hlk, hrt, hfr, hlo⟩ := C
  intro H locs ls hP hS hl
  obtain ⟨h1, h2, h3⟩ := hX
  refine va_slen hx hb h1 h2 h3 hS hd ?_
  exact k H locs ls hP hS hl
theorem pw_sa0 {X : CX} {K : KX} {lay : List PD} {cc : ByteArray} {own : String} {nL : Nat} {ret : Option FieldType} {d : Nat} {cs : Nat × Nat} {Z : State → Prop} {pc : Nat} {st : List Value} {M : Mem} (C : CXok X K lay cc own nL ret d) {r : List (Option Value)} {b : Nat} (hd : decode cc pc = .ok (.aload_n 0, 1)) (k : PW X K lay nL cs Z (pc + 1) (some (Value.ref b) :: r) (Value.ref b :: st) M) : PW X K lay nL cs Z pc (some (Value.ref b) :: r) st M := by
  obtain ⟨p, l, e, R, s, m, args, below, meth, c0, A⟩ := X
  obtain ⟨hx, hb, hml, hown, hts, hK, hinj, hAk, hA, hlk, hrt, hfr, hlo⟩ := C
  intro H locs ls hP hS hl
  exact lv_aload_n hx hb hd rfl (hl.at (i := 0) rfl) (k H locs ls hP hS hl)
theorem pw_ieq {X : CX} {K : KX} {lay : List PD} {cc : ByteArray} {own : String} {nL : Nat} {ret : Option FieldType} {d : Nat} {cs : Nat × Nat} {Z : State → Prop} {pc : Nat} {st : List Value} {M : Mem} (C : CXok X K lay cc own nL ret d) {L : List (Option Value)} {off : Int} {tgt : Nat} {r : Int} (hd : decode cc pc = .ok (.if_icmp .eq off, 3)) (ht : (pc : Int) + off = (tgt : Int)) (k : PW X K lay nL cs Z tgt L st M) : PW X K lay nL cs Z pc L (iV r :: iV r :: st) M := by
  obtain ⟨p, l, e, R, s, m, args, below, meth, c0, A⟩ := X
  obtain ⟨hx, hb, hml, hown, hts, hK, hinj, hAk, hA, hlk, hrt, hfr, hlo⟩ := C
  intro H locs ls hP hS hl
  exact lv_icmp_eq hx hb hd ht (fun _ => k H locs ls hP hS hl) (fun q => absurd rfl q)
theorem pw_lV {X : CX} {K : KX} {lay : List PD} {cc : ByteArray} {own : String} {nL : Nat} {ret : Option FieldType} {d : Nat} {cs : Nat × Nat} {Z : State → Prop} {pc : Nat} {st : List Value} {M : Mem} (C : CXok X K lay cc own nL ret d) {L : List (Option Value)} {Cn : String} {T : u_T} {N ci k idx n nL' d' : Nat} {codes : List Nat} {y : MethodName} {cc' : ByteArray} {ret' : Option FieldType} (As rest : List Value) {Q : Int → Mem → Prop} (hM : MCi (lOf X) K lay y cc' nL' ret' d' (rV K k :: As) M Q) (hB : CB y cc' nL' ret' n) (hlay : lay[k]? = some (0, ci, codes)) (hci : vwCl[ci]? = some (Cn, T, N)) (hcl : y.cls = Cn) (hml9 : Cond.methodLink own idx y ∈ wsL_law0) (hd : decode cc pc = .ok (.invokevirtual idx, 3)) (hdd : d' < d) (hcs : cs.1 ≤ X.2.2.2.1.cells ∧ cs.2 ≤ X.2.2.2.1.slots) (hn : As.length = n) (hrest : (rest.map fun v => v.category).sum ≤ 8) (hst : st = As.reverse ++ rV K k :: rest)
    (kk : ∀ (r : Int) (M' : Mem), Q r M' → PW X K lay nL cs Z (pc + 3) L (iV r :: rest) M') : PW X K lay nL cs Z pc L st M :=
  pw_callV C hM hB hlay hci hcl hml9 hd hdd hcs hn hrest hst (fun v M' hq => by
    obtain ⟨r, hv, q⟩ := hq
    subst hv
    exact kk r M' q)
/-- what the reference's calls ask for -/
def RI (M : Mem) : Prop := WfK (cfM M) ∧ (0 ≤ M 43 17 ∧ M 43 17 ≤ 40) ∧ (∀ j, 0 ≤ j → j < M 43 17 → -128 ≤ M 49 j ∧ M 49 j ≤ 127) ∧ KnP (cfM M) M ∧ KmP (cfM M) M ∧ KoP (cfM M) M
theorem RI_of {M M1 : Mem} (h : Inv M) (hi : ∀ k, 43 ≤ k → M1 k = M k) : RI M1 := by
  have e : cfM M1 = cfM M := cfM_e (congrFun (hi 43 (by decide)) _) (congrFun (hi 43 (by decide)) _) (congrFun (hi 43 (by decide)) _) (congrFun (hi 43 (by decide)) _) (congrFun (hi 43 (by decide)) _) (congrFun (hi 43 (by decide)) _) (congrFun (hi 43 (by decide)) _) (hi 44 (by decide)) (hi 45 (by decide)) (hi 46 (by decide)) (hi 47 (by decide)) (hi 48 (by decide))
  unfold RI
  rw [e]
  refine ⟨Inv_wm h, by rw [hi 43 (by decide)]; exact Inv_ts h, by rw [hi 43 (by decide), hi 49 (by decide)]; exact Inv_tb h, kKn (congrFun (hi 43 (by decide)) _) (hi 52 (by decide)) h.2.1.1, kKm (congrFun (hi 43 (by decide)) _) (congrFun (hi 43 (by decide)) _) (congrFun (hi 43 (by decide)) _) (hi 58 (by decide)) h.2.1.2.1, kKo (congrFun (hi 43 (by decide)) _) (congrFun (hi 43 (by decide)) _) (congrFun (hi 43 (by decide)) _) h.2.1.2.2⟩
set_option maxHeartbeats 1000000 in
theorem lc_letters {X : CX} {K : KX} {cs : Nat × Nat} {Z : State → Prop} {b n : Nat} {xs : Nat → Int32} {i : Int} {M : Mem} (C : CXok X K LAY cL_law RL 7 (some .boolean) 100) (hX : SCR X b n xs) (hi : 0 ≤ i ∧ i + 6 ≤ (n : Int)) (hn : n < 2147483648) (hcs : cs.1 ≤ X.2.2.2.1.cells ∧ cs.2 ≤ X.2.2.2.1.slots) (h : Inv M) (hk : ∀ M9, Inv M9 → PW X K LAY 7 cs Z 1174 [some (Value.ref b), some (rV K 0), some (rV K 43), some (rV K 60), some (iV i), none, none] [] M9) : PW X K LAY 7 cs Z 196 [some (Value.ref b), some (rV K 0), some (rV K 43), some (rV K 60), some (iV i), none, none] [] M := by
  refine pw_aload1 C dL_law_196 ?_
  refine pw_sa0 C dL_law_197 ?_
  refine pw_iload4 C dL_law_198 ?_
  refine pw_iconst C dL_law_200 ?_
  refine pw_iadd C dL_law_201 ?_
  refine pw_sld C hX (by omega) hn dL_law_202 ?_
  refine pw_lV C [iV (xs (i + 1).toNat).toInt] [] (c_X10_letters _ K _ ((xs (i + 1).toNat).toInt) (i32x _) (wf_w h.1.1) (wf_t h.1.1)) cb_X10_letters lay_0 kc_10 rfl ml_L_19 dL_law_203 (by decide) hcs rfl (Nat.le_of_ble_eq_true rfl) rfl (fun r1 M1 q1 => ?_)
  have hR : RI M1 := RI_of h (fun k hk9 => q1.2 k (by simp; omega))
  refine pw_aload2 C dL_law_206 ?_
  refine pw_sa0 C dL_law_207 ?_
  refine pw_iload4 C dL_law_208 ?_
  refine pw_iconst C dL_law_210 ?_
  refine pw_iadd C dL_law_211 ?_
  refine pw_sld C hX (by omega) hn dL_law_212 ?_
  refine pw_lV C [iV (xs (i + 1).toNat).toInt] [iV r1] (c_X11_letters _ K _ ((xs (i + 1).toNat).toInt) (i32x _) (wm_w hR.1) (wm_t hR.1)) cb_X11_letters lay_43 kc_11 rfl ml_L_23 dL_law_213 (by decide) hcs rfl (Nat.le_of_ble_eq_true rfl) rfl (fun r2 M2 q2 => ?_)
  obtain ⟨e9, hI9⟩ := st_letters h q1 q2
  rw [← e9]
  exact pw_ieq (tgt := 1174) C dL_law_216 (by decide) (hk M2 hI9)
set_option maxHeartbeats 1000000 in
theorem lc_cost {X : CX} {K : KX} {cs : Nat × Nat} {Z : State → Prop} {b n : Nat} {xs : Nat → Int32} {i : Int} {M : Mem} (C : CXok X K LAY cL_law RL 7 (some .boolean) 100) (hX : SCR X b n xs) (hi : 0 ≤ i ∧ i + 6 ≤ (n : Int)) (hn : n < 2147483648) (hcs : cs.1 ≤ X.2.2.2.1.cells ∧ cs.2 ≤ X.2.2.2.1.slots) (h : Inv M) (hk : ∀ M9, Inv M9 → PW X K LAY 7 cs Z 1174 [some (Value.ref b), some (rV K 0), some (rV K 43), some (rV K 60), some (iV i), none, none] [] M9) : PW X K LAY 7 cs Z 221 [some (Value.ref b), some (rV K 0), some (rV K 43), some (rV K 60), some (iV i), none, none] [] M := by
  refine pw_aload1 C dL_law_221 ?_
  refine pw_sa0 C dL_law_222 ?_
  refine pw_iload4 C dL_law_223 ?_
  refine pw_iconst C dL_law_225 ?_
  refine pw_iadd C dL_law_226 ?_
  refine pw_sld C hX (by omega) hn dL_law_227 ?_
  refine pw_sa0 C dL_law_228 ?_
  refine pw_iload4 C dL_law_229 ?_
  refine pw_iconst C dL_law_231 ?_
  refine pw_iadd C dL_law_232 ?_
  refine pw_sld C hX (by omega) hn dL_law_233 ?_
  refine pw_sa0 C dL_law_234 ?_
  refine pw_iload4 C dL_law_235 ?_
  refine pw_iconst C dL_law_237 ?_
  refine pw_iadd C dL_law_238 ?_
  refine pw_sld C hX (by omega) hn dL_law_239 ?_
  refine pw_lV C [iV (xs (i + 1).toNat).toInt, iV (xs (i + 2).toNat).toInt, iV (xs (i + 3).toNat).toInt] [] (c_X10_cost _ K _ ((xs (i + 1).toNat).toInt) ((xs (i + 2).toNat).toInt) ((xs (i + 3).toNat).toInt) (i32x _) (i32x _) (i32x _)) cb_X10_cost lay_0 kc_10 rfl ml_L_24 dL_law_240 (by decide) hcs rfl (Nat.le_of_ble_eq_true rfl) rfl (fun r1 M1 q1 => ?_)
  have hR : RI M1 := RI_of h (fun k hk9 => q1.2 k (by simp; omega))
  refine pw_aload2 C dL_law_243 ?_
  refine pw_sa0 C dL_law_244 ?_
  refine pw_iload4 C dL_law_245 ?_
  refine pw_iconst C dL_law_247 ?_
  refine pw_iadd C dL_law_248 ?_
  refine pw_sld C hX (by omega) hn dL_law_249 ?_
  refine pw_sa0 C dL_law_250 ?_
  refine pw_iload4 C dL_law_251 ?_
  refine pw_iconst C dL_law_253 ?_
  refine pw_iadd C dL_law_254 ?_
  refine pw_sld C hX (by omega) hn dL_law_255 ?_
  refine pw_sa0 C dL_law_256 ?_
  refine pw_iload4 C dL_law_257 ?_
  refine pw_iconst C dL_law_259 ?_
  refine pw_iadd C dL_law_260 ?_
  refine pw_sld C hX (by omega) hn dL_law_261 ?_
  refine pw_lV C [iV (xs (i + 1).toNat).toInt, iV (xs (i + 2).toNat).toInt, iV (xs (i + 3).toNat).toInt] [iV r1] (c_X11_cost _ K _ ((xs (i + 1).toNat).toInt) ((xs (i + 2).toNat).toInt) ((xs (i + 3).toNat).toInt) (i32x _) (i32x _) (i32x _)) cb_X11_cost lay_43 kc_11 rfl ml_L_28 dL_law_262 (by decide) hcs rfl (Nat.le_of_ble_eq_true rfl) rfl (fun r2 M2 q2 => ?_)
  obtain ⟨e9, hI9⟩ := st_cost h q1 q2
  rw [← e9]
  exact pw_ieq (tgt := 1174) C dL_law_265 (by decide) (hk M2 hI9)
set_option maxHeartbeats 1000000 in
theorem lc_swap {X : CX} {K : KX} {cs : Nat × Nat} {Z : State → Prop} {b n : Nat} {xs : Nat → Int32} {i : Int} {M : Mem} (C : CXok X K LAY cL_law RL 7 (some .boolean) 100) (hX : SCR X b n xs) (hi : 0 ≤ i ∧ i + 6 ≤ (n : Int)) (hn : n < 2147483648) (hcs : cs.1 ≤ X.2.2.2.1.cells ∧ cs.2 ≤ X.2.2.2.1.slots) (h : Inv M) (hk : ∀ M9, Inv M9 → PW X K LAY 7 cs Z 1174 [some (Value.ref b), some (rV K 0), some (rV K 43), some (rV K 60), some (iV i), none, none] [] M9) : PW X K LAY 7 cs Z 270 [some (Value.ref b), some (rV K 0), some (rV K 43), some (rV K 60), some (iV i), none, none] [] M := by
  refine pw_aload1 C dL_law_270 ?_
  refine pw_sa0 C dL_law_271 ?_
  refine pw_iload4 C dL_law_272 ?_
  refine pw_iconst C dL_law_274 ?_
  refine pw_iadd C dL_law_275 ?_
  refine pw_sld C hX (by omega) hn dL_law_276 ?_
  refine pw_lV C [iV (xs (i + 1).toNat).toInt] [] (c_X10_swap _ K _ ((xs (i + 1).toNat).toInt) (i32x _)) cb_X10_swap lay_0 kc_10 rfl ml_L_29 dL_law_277 (by decide) hcs rfl (Nat.le_of_ble_eq_true rfl) rfl (fun r1 M1 q1 => ?_)
  have hR : RI M1 := RI_of h (fun k hk9 => q1.2 k (by simp; omega))
  refine pw_aload2 C dL_law_280 ?_
  refine pw_sa0 C dL_law_281 ?_
  refine pw_iload4 C dL_law_282 ?_
  refine pw_iconst C dL_law_284 ?_
  refine pw_iadd C dL_law_285 ?_
  refine pw_sld C hX (by omega) hn dL_law_286 ?_
  refine pw_lV C [iV (xs (i + 1).toNat).toInt] [iV r1] (c_X11_swap _ K _ ((xs (i + 1).toNat).toInt) (i32x _)) cb_X11_swap lay_43 kc_11 rfl ml_L_32 dL_law_287 (by decide) hcs rfl (Nat.le_of_ble_eq_true rfl) rfl (fun r2 M2 q2 => ?_)
  obtain ⟨e9, hI9⟩ := st_swap h q1 q2
  rw [← e9]
  exact pw_ieq (tgt := 1174) C dL_law_290 (by decide) (hk M2 hI9)
set_option maxHeartbeats 1000000 in
theorem lc_drop {X : CX} {K : KX} {cs : Nat × Nat} {Z : State → Prop} {b n : Nat} {xs : Nat → Int32} {i : Int} {M : Mem} (C : CXok X K LAY cL_law RL 7 (some .boolean) 100) (hX : SCR X b n xs) (hi : 0 ≤ i ∧ i + 6 ≤ (n : Int)) (hn : n < 2147483648) (hcs : cs.1 ≤ X.2.2.2.1.cells ∧ cs.2 ≤ X.2.2.2.1.slots) (h : Inv M) (hk : ∀ M9, Inv M9 → PW X K LAY 7 cs Z 1174 [some (Value.ref b), some (rV K 0), some (rV K 43), some (rV K 60), some (iV i), none, none] [] M9) : PW X K LAY 7 cs Z 295 [some (Value.ref b), some (rV K 0), some (rV K 43), some (rV K 60), some (iV i), none, none] [] M := by
  refine pw_aload1 C dL_law_295 ?_
  refine pw_sa0 C dL_law_296 ?_
  refine pw_iload4 C dL_law_297 ?_
  refine pw_iconst C dL_law_299 ?_
  refine pw_iadd C dL_law_300 ?_
  refine pw_sld C hX (by omega) hn dL_law_301 ?_
  refine pw_lV C [iV (xs (i + 1).toNat).toInt] [] (c_X10_drop _ K _ ((xs (i + 1).toNat).toInt) (i32x _)) cb_X10_drop lay_0 kc_10 rfl ml_L_33 dL_law_302 (by decide) hcs rfl (Nat.le_of_ble_eq_true rfl) rfl (fun r1 M1 q1 => ?_)
  have hR : RI M1 := RI_of h (fun k hk9 => q1.2 k (by simp; omega))
  refine pw_aload2 C dL_law_305 ?_
  refine pw_sa0 C dL_law_306 ?_
  refine pw_iload4 C dL_law_307 ?_
  refine pw_iconst C dL_law_309 ?_
  refine pw_iadd C dL_law_310 ?_
  refine pw_sld C hX (by omega) hn dL_law_311 ?_
  refine pw_lV C [iV (xs (i + 1).toNat).toInt] [iV r1] (c_X11_drop _ K _ ((xs (i + 1).toNat).toInt) (i32x _)) cb_X11_drop lay_43 kc_11 rfl ml_L_36 dL_law_312 (by decide) hcs rfl (Nat.le_of_ble_eq_true rfl) rfl (fun r2 M2 q2 => ?_)
  obtain ⟨e9, hI9⟩ := st_drop h q1 q2
  rw [← e9]
  exact pw_ieq (tgt := 1174) C dL_law_315 (by decide) (hk M2 hI9)
set_option maxHeartbeats 1000000 in
theorem lc_gap {X : CX} {K : KX} {cs : Nat × Nat} {Z : State → Prop} {b n : Nat} {xs : Nat → Int32} {i : Int} {M : Mem} (C : CXok X K LAY cL_law RL 7 (some .boolean) 100) (hX : SCR X b n xs) (hi : 0 ≤ i ∧ i + 6 ≤ (n : Int)) (hn : n < 2147483648) (hcs : cs.1 ≤ X.2.2.2.1.cells ∧ cs.2 ≤ X.2.2.2.1.slots) (h : Inv M) (hk : ∀ M9, Inv M9 → PW X K LAY 7 cs Z 1174 [some (Value.ref b), some (rV K 0), some (rV K 43), some (rV K 60), some (iV i), none, none] [] M9) : PW X K LAY 7 cs Z 320 [some (Value.ref b), some (rV K 0), some (rV K 43), some (rV K 60), some (iV i), none, none] [] M := by
  refine pw_aload1 C dL_law_320 ?_
  refine pw_sa0 C dL_law_321 ?_
  refine pw_iload4 C dL_law_322 ?_
  refine pw_iconst C dL_law_324 ?_
  refine pw_iadd C dL_law_325 ?_
  refine pw_sld C hX (by omega) hn dL_law_326 ?_
  refine pw_lV C [iV (xs (i + 1).toNat).toInt] [] (c_X10_gap _ K _ ((xs (i + 1).toNat).toInt) (i32x _)) cb_X10_gap lay_0 kc_10 rfl ml_L_37 dL_law_327 (by decide) hcs rfl (Nat.le_of_ble_eq_true rfl) rfl (fun r1 M1 q1 => ?_)
  have hR : RI M1 := RI_of h (fun k hk9 => q1.2 k (by simp; omega))
  refine pw_aload2 C dL_law_330 ?_
  refine pw_sa0 C dL_law_331 ?_
  refine pw_iload4 C dL_law_332 ?_
  refine pw_iconst C dL_law_334 ?_
  refine pw_iadd C dL_law_335 ?_
  refine pw_sld C hX (by omega) hn dL_law_336 ?_
  refine pw_lV C [iV (xs (i + 1).toNat).toInt] [iV r1] (c_X11_gap _ K _ ((xs (i + 1).toNat).toInt) (i32x _)) cb_X11_gap lay_43 kc_11 rfl ml_L_40 dL_law_337 (by decide) hcs rfl (Nat.le_of_ble_eq_true rfl) rfl (fun r2 M2 q2 => ?_)
  obtain ⟨e9, hI9⟩ := st_gap h q1 q2
  rw [← e9]
  exact pw_ieq (tgt := 1174) C dL_law_340 (by decide) (hk M2 hI9)
set_option maxHeartbeats 1000000 in
theorem lc_feed {X : CX} {K : KX} {cs : Nat × Nat} {Z : State → Prop} {b n : Nat} {xs : Nat → Int32} {i : Int} {M : Mem} (C : CXok X K LAY cL_law RL 7 (some .boolean) 100) (hX : SCR X b n xs) (hi : 0 ≤ i ∧ i + 6 ≤ (n : Int)) (hn : n < 2147483648) (hcs : cs.1 ≤ X.2.2.2.1.cells ∧ cs.2 ≤ X.2.2.2.1.slots) (h : Inv M) (hk : ∀ M9, Inv M9 → PW X K LAY 7 cs Z 1174 [some (Value.ref b), some (rV K 0), some (rV K 43), some (rV K 60), some (iV i), none, none] [] M9) : PW X K LAY 7 cs Z 345 [some (Value.ref b), some (rV K 0), some (rV K 43), some (rV K 60), some (iV i), none, none] [] M := by
  refine pw_aload1 C dL_law_345 ?_
  refine pw_sa0 C dL_law_346 ?_
  refine pw_iload4 C dL_law_347 ?_
  refine pw_iconst C dL_law_349 ?_
  refine pw_iadd C dL_law_350 ?_
  refine pw_sld C hX (by omega) hn dL_law_351 ?_
  refine pw_sa0 C dL_law_352 ?_
  refine pw_iload4 C dL_law_353 ?_
  refine pw_iconst C dL_law_355 ?_
  refine pw_iadd C dL_law_356 ?_
  refine pw_sld C hX (by omega) hn dL_law_357 ?_
  refine pw_sa0 C dL_law_358 ?_
  refine pw_iload4 C dL_law_359 ?_
  refine pw_iconst C dL_law_361 ?_
  refine pw_iadd C dL_law_362 ?_
  refine pw_sld C hX (by omega) hn dL_law_363 ?_
  refine pw_sa0 C dL_law_364 ?_
  refine pw_iload4 C dL_law_365 ?_
  refine pw_iconst C dL_law_367 ?_
  refine pw_iadd C dL_law_368 ?_
  refine pw_sld C hX (by omega) hn dL_law_369 ?_
  refine pw_sa0 C dL_law_370 ?_
  refine pw_iload4 C dL_law_371 ?_
  refine pw_iconst C dL_law_373 ?_
  refine pw_iadd C dL_law_374 ?_
  refine pw_sld C hX (by omega) hn dL_law_375 ?_
  refine pw_lV C [iV (xs (i + 1).toNat).toInt, iV (xs (i + 2).toNat).toInt, iV (xs (i + 3).toNat).toInt, iV (xs (i + 4).toNat).toInt, iV (xs (i + 5).toNat).toInt] [] (c_X10_feed _ K _ ((xs (i + 1).toNat).toInt) ((xs (i + 2).toNat).toInt) ((xs (i + 3).toNat).toInt) ((xs (i + 4).toNat).toInt) ((xs (i + 5).toNat).toInt) (i32x _) (i32x _) (i32x _) (i32x _) (i32x _) (h.1.2.1)) cb_X10_feed lay_0 kc_10 rfl ml_L_41 dL_law_376 (by decide) hcs rfl (Nat.le_of_ble_eq_true rfl) rfl (fun r1 M1 q1 => ?_)
  have hR : RI M1 := RI_of h (fun k hk9 => q1.2 k (by simp; omega))
  refine pw_aload2 C dL_law_379 ?_
  refine pw_sa0 C dL_law_380 ?_
  refine pw_iload4 C dL_law_381 ?_
  refine pw_iconst C dL_law_383 ?_
  refine pw_iadd C dL_law_384 ?_
  refine pw_sld C hX (by omega) hn dL_law_385 ?_
  refine pw_sa0 C dL_law_386 ?_
  refine pw_iload4 C dL_law_387 ?_
  refine pw_iconst C dL_law_389 ?_
  refine pw_iadd C dL_law_390 ?_
  refine pw_sld C hX (by omega) hn dL_law_391 ?_
  refine pw_sa0 C dL_law_392 ?_
  refine pw_iload4 C dL_law_393 ?_
  refine pw_iconst C dL_law_395 ?_
  refine pw_iadd C dL_law_396 ?_
  refine pw_sld C hX (by omega) hn dL_law_397 ?_
  refine pw_sa0 C dL_law_398 ?_
  refine pw_iload4 C dL_law_399 ?_
  refine pw_iconst C dL_law_401 ?_
  refine pw_iadd C dL_law_402 ?_
  refine pw_sld C hX (by omega) hn dL_law_403 ?_
  refine pw_sa0 C dL_law_404 ?_
  refine pw_iload4 C dL_law_405 ?_
  refine pw_iconst C dL_law_407 ?_
  refine pw_iadd C dL_law_408 ?_
  refine pw_sld C hX (by omega) hn dL_law_409 ?_
  refine pw_lV C [iV (xs (i + 1).toNat).toInt, iV (xs (i + 2).toNat).toInt, iV (xs (i + 3).toNat).toInt, iV (xs (i + 4).toNat).toInt, iV (xs (i + 5).toNat).toInt] [iV r1] (c_X11_feed _ K _ ((xs (i + 1).toNat).toInt) ((xs (i + 2).toNat).toInt) ((xs (i + 3).toNat).toInt) ((xs (i + 4).toNat).toInt) ((xs (i + 5).toNat).toInt) (i32x _) (i32x _) (i32x _) (i32x _) (i32x _) (hR.2.1)) cb_X11_feed lay_43 kc_11 rfl ml_L_45 dL_law_410 (by decide) hcs rfl (Nat.le_of_ble_eq_true rfl) rfl (fun r2 M2 q2 => ?_)
  obtain ⟨e9, hI9⟩ := st_feed h q1 q2
  rw [← e9]
  exact pw_ieq (tgt := 1174) C dL_law_413 (by decide) (hk M2 hI9)
set_option maxHeartbeats 1000000 in
theorem lc_end {X : CX} {K : KX} {cs : Nat × Nat} {Z : State → Prop} {b n : Nat} {xs : Nat → Int32} {i : Int} {M : Mem} (C : CXok X K LAY cL_law RL 7 (some .boolean) 100) (hX : SCR X b n xs) (hi : 0 ≤ i ∧ i + 6 ≤ (n : Int)) (hn : n < 2147483648) (hcs : cs.1 ≤ X.2.2.2.1.cells ∧ cs.2 ≤ X.2.2.2.1.slots) (h : Inv M) (hk : ∀ M9, Inv M9 → PW X K LAY 7 cs Z 1174 [some (Value.ref b), some (rV K 0), some (rV K 43), some (rV K 60), some (iV i), none, none] [] M9) : PW X K LAY 7 cs Z 418 [some (Value.ref b), some (rV K 0), some (rV K 43), some (rV K 60), some (iV i), none, none] [] M := by
  refine pw_aload1 C dL_law_418 ?_
  refine pw_sa0 C dL_law_419 ?_
  refine pw_iload4 C dL_law_420 ?_
  refine pw_iconst C dL_law_422 ?_
  refine pw_iadd C dL_law_423 ?_
  refine pw_sld C hX (by omega) hn dL_law_424 ?_
  refine pw_lV C [iV (xs (i + 1).toNat).toInt] [] (c_X10_end _ K _ ((xs (i + 1).toNat).toInt) (i32x _) (h.1.2.1)) cb_X10_end lay_0 kc_10 rfl ml_L_46 dL_law_425 (by decide) hcs rfl (Nat.le_of_ble_eq_true rfl) rfl (fun r1 M1 q1 => ?_)
  have hR : RI M1 := RI_of h (fun k hk9 => q1.2 k (by simp; omega))
  refine pw_aload2 C dL_law_428 ?_
  refine pw_sa0 C dL_law_429 ?_
  refine pw_iload4 C dL_law_430 ?_
  refine pw_iconst C dL_law_432 ?_
  refine pw_iadd C dL_law_433 ?_
  refine pw_sld C hX (by omega) hn dL_law_434 ?_
  refine pw_lV C [iV (xs (i + 1).toNat).toInt] [iV r1] (c_X11_end _ K _ ((xs (i + 1).toNat).toInt) (i32x _) (hR.2.1)) cb_X11_end lay_43 kc_11 rfl ml_L_50 dL_law_435 (by decide) hcs rfl (Nat.le_of_ble_eq_true rfl) rfl (fun r2 M2 q2 => ?_)
  obtain ⟨e9, hI9⟩ := st_end h q1 q2
  rw [← e9]
  exact pw_ieq (tgt := 1174) C dL_law_438 (by decide) (hk M2 hI9)
set_option maxHeartbeats 1000000 in
theorem lc_word {X : CX} {K : KX} {cs : Nat × Nat} {Z : State → Prop} {b n : Nat} {xs : Nat → Int32} {i : Int} {M : Mem} (C : CXok X K LAY cL_law RL 7 (some .boolean) 100) (hX : SCR X b n xs) (hi : 0 ≤ i ∧ i + 6 ≤ (n : Int)) (hn : n < 2147483648) (hcs : cs.1 ≤ X.2.2.2.1.cells ∧ cs.2 ≤ X.2.2.2.1.slots) (h : Inv M) (hk : ∀ M9, Inv M9 → PW X K LAY 7 cs Z 1174 [some (Value.ref b), some (rV K 0), some (rV K 43), some (rV K 60), some (iV i), none, none] [] M9) : PW X K LAY 7 cs Z 443 [some (Value.ref b), some (rV K 0), some (rV K 43), some (rV K 60), some (iV i), none, none] [] M := by
  refine pw_aload1 C dL_law_443 ?_
  refine pw_lV C [] [] (c_X10_word _ K _  (wf_let h.1.1) (h.1.2.1) (h.1.2.2.1) (wf_w h.1.1) (wf_l h.1.1)) cb_X10_word lay_0 kc_10 rfl ml_L_51 dL_law_444 (by decide) hcs rfl (Nat.le_of_ble_eq_true rfl) rfl (fun r1 M1 q1 => ?_)
  have hR : RI M1 := RI_of h (fun k hk9 => q1.2.2 k (by simp; omega))
  refine pw_aload2 C dL_law_447 ?_
  refine pw_lV C [] [iV r1] (c_X11_word _ K _  (hR.1) (hR.2.1) (hR.2.2.1)) cb_X11_word lay_43 kc_11 rfl ml_L_55 dL_law_448 (by decide) hcs rfl (Nat.le_of_ble_eq_true rfl) rfl (fun r2 M2 q2 => ?_)
  obtain ⟨e9, hI9⟩ := st_word h q1 q2
  rw [← e9]
  exact pw_ieq (tgt := 1174) C dL_law_451 (by decide) (hk M2 hI9)
set_option maxHeartbeats 1000000 in
theorem lc_text {X : CX} {K : KX} {cs : Nat × Nat} {Z : State → Prop} {b n : Nat} {xs : Nat → Int32} {i : Int} {M : Mem} (C : CXok X K LAY cL_law RL 7 (some .boolean) 100) (hX : SCR X b n xs) (hi : 0 ≤ i ∧ i + 6 ≤ (n : Int)) (hn : n < 2147483648) (hcs : cs.1 ≤ X.2.2.2.1.cells ∧ cs.2 ≤ X.2.2.2.1.slots) (h : Inv M) (hk : ∀ M9, Inv M9 → PW X K LAY 7 cs Z 1174 [some (Value.ref b), some (rV K 0), some (rV K 43), some (rV K 60), some (iV i), none, none] [] M9) : PW X K LAY 7 cs Z 456 [some (Value.ref b), some (rV K 0), some (rV K 43), some (rV K 60), some (iV i), none, none] [] M := by
  refine pw_aload1 C dL_law_456 ?_
  refine pw_lV C [] [] (c_X10_text _ K _  (wf_let h.1.1) (h.1.2.1) (h.1.2.2.1) (wf_t h.1.1)) cb_X10_text lay_0 kc_10 rfl ml_L_56 dL_law_457 (by decide) hcs rfl (Nat.le_of_ble_eq_true rfl) rfl (fun r1 M1 q1 => ?_)
  have hR : RI M1 := RI_of h (fun k hk9 => q1.2.2 k (by simp; omega))
  refine pw_aload2 C dL_law_460 ?_
  refine pw_lV C [] [iV r1] (c_X11_text _ K _  (hR.1) (hR.2.1) (hR.2.2.1)) cb_X11_text lay_43 kc_11 rfl ml_L_59 dL_law_461 (by decide) hcs rfl (Nat.le_of_ble_eq_true rfl) rfl (fun r2 M2 q2 => ?_)
  obtain ⟨e9, hI9⟩ := st_text h q1 q2
  rw [← e9]
  exact pw_ieq (tgt := 1174) C dL_law_464 (by decide) (hk M2 hI9)
set_option maxHeartbeats 1000000 in
theorem lc_part {X : CX} {K : KX} {cs : Nat × Nat} {Z : State → Prop} {b n : Nat} {xs : Nat → Int32} {i : Int} {M : Mem} (C : CXok X K LAY cL_law RL 7 (some .boolean) 100) (hX : SCR X b n xs) (hi : 0 ≤ i ∧ i + 6 ≤ (n : Int)) (hn : n < 2147483648) (hcs : cs.1 ≤ X.2.2.2.1.cells ∧ cs.2 ≤ X.2.2.2.1.slots) (h : Inv M) (hk : ∀ M9, Inv M9 → PW X K LAY 7 cs Z 1174 [some (Value.ref b), some (rV K 0), some (rV K 43), some (rV K 60), some (iV i), none, none] [] M9) : PW X K LAY 7 cs Z 469 [some (Value.ref b), some (rV K 0), some (rV K 43), some (rV K 60), some (iV i), none, none] [] M := by
  refine pw_aload1 C dL_law_469 ?_
  refine pw_sa0 C dL_law_470 ?_
  refine pw_iload4 C dL_law_471 ?_
  refine pw_iconst C dL_law_473 ?_
  refine pw_iadd C dL_law_474 ?_
  refine pw_sld C hX (by omega) hn dL_law_475 ?_
  refine pw_sa0 C dL_law_476 ?_
  refine pw_iload4 C dL_law_477 ?_
  refine pw_iconst C dL_law_479 ?_
  refine pw_iadd C dL_law_480 ?_
  refine pw_sld C hX (by omega) hn dL_law_481 ?_
  refine pw_lV C [iV (xs (i + 1).toNat).toInt, iV (xs (i + 2).toNat).toInt] [] (c_X10_part _ K _ ((xs (i + 1).toNat).toInt) ((xs (i + 2).toNat).toInt) (h.1.1) (i32x _) (i32x _)) cb_X10_part lay_0 kc_10 rfl ml_L_60 dL_law_482 (by decide) hcs rfl (Nat.le_of_ble_eq_true rfl) rfl (fun r1 M1 q1 => ?_)
  have hR : RI M1 := RI_of h (fun k hk9 => q1.2 k (by simp; omega))
  refine pw_aload2 C dL_law_485 ?_
  refine pw_sa0 C dL_law_486 ?_
  refine pw_iload4 C dL_law_487 ?_
  refine pw_iconst C dL_law_489 ?_
  refine pw_iadd C dL_law_490 ?_
  refine pw_sld C hX (by omega) hn dL_law_491 ?_
  refine pw_sa0 C dL_law_492 ?_
  refine pw_iload4 C dL_law_493 ?_
  refine pw_iconst C dL_law_495 ?_
  refine pw_iadd C dL_law_496 ?_
  refine pw_sld C hX (by omega) hn dL_law_497 ?_
  refine pw_lV C [iV (xs (i + 1).toNat).toInt, iV (xs (i + 2).toNat).toInt] [iV r1] (c_X11_part _ K _ ((xs (i + 1).toNat).toInt) ((xs (i + 2).toNat).toInt) (hR.1) (i32x _) (i32x _)) cb_X11_part lay_43 kc_11 rfl ml_L_64 dL_law_498 (by decide) hcs rfl (Nat.le_of_ble_eq_true rfl) rfl (fun r2 M2 q2 => ?_)
  obtain ⟨e9, hI9⟩ := st_part h q1 q2
  rw [← e9]
  exact pw_ieq (tgt := 1174) C dL_law_501 (by decide) (hk M2 hI9)
set_option maxHeartbeats 1000000 in
theorem lc_apart {X : CX} {K : KX} {cs : Nat × Nat} {Z : State → Prop} {b n : Nat} {xs : Nat → Int32} {i : Int} {M : Mem} (C : CXok X K LAY cL_law RL 7 (some .boolean) 100) (hX : SCR X b n xs) (hi : 0 ≤ i ∧ i + 6 ≤ (n : Int)) (hn : n < 2147483648) (hcs : cs.1 ≤ X.2.2.2.1.cells ∧ cs.2 ≤ X.2.2.2.1.slots) (h : Inv M) (hk : ∀ M9, Inv M9 → PW X K LAY 7 cs Z 1174 [some (Value.ref b), some (rV K 0), some (rV K 43), some (rV K 60), some (iV i), none, none] [] M9) : PW X K LAY 7 cs Z 506 [some (Value.ref b), some (rV K 0), some (rV K 43), some (rV K 60), some (iV i), none, none] [] M := by
  refine pw_aload1 C dL_law_506 ?_
  refine pw_sa0 C dL_law_507 ?_
  refine pw_iload4 C dL_law_508 ?_
  refine pw_iconst C dL_law_510 ?_
  refine pw_iadd C dL_law_511 ?_
  refine pw_sld C hX (by omega) hn dL_law_512 ?_
  refine pw_sa0 C dL_law_513 ?_
  refine pw_iload4 C dL_law_514 ?_
  refine pw_iconst C dL_law_516 ?_
  refine pw_iadd C dL_law_517 ?_
  refine pw_sld C hX (by omega) hn dL_law_518 ?_
  refine pw_lV C [iV (xs (i + 1).toNat).toInt, iV (xs (i + 2).toNat).toInt] [] (c_X10_apart _ K _ ((xs (i + 1).toNat).toInt) ((xs (i + 2).toNat).toInt) (h.1.1) (i32x _) (i32x _)) cb_X10_apart lay_0 kc_10 rfl ml_L_65 dL_law_519 (by decide) hcs rfl (Nat.le_of_ble_eq_true rfl) rfl (fun r1 M1 q1 => ?_)
  have hR : RI M1 := RI_of h (fun k hk9 => by rw [q1.2])
  refine pw_aload2 C dL_law_522 ?_
  refine pw_sa0 C dL_law_523 ?_
  refine pw_iload4 C dL_law_524 ?_
  refine pw_iconst C dL_law_526 ?_
  refine pw_iadd C dL_law_527 ?_
  refine pw_sld C hX (by omega) hn dL_law_528 ?_
  refine pw_sa0 C dL_law_529 ?_
  refine pw_iload4 C dL_law_530 ?_
  refine pw_iconst C dL_law_532 ?_
  refine pw_iadd C dL_law_533 ?_
  refine pw_sld C hX (by omega) hn dL_law_534 ?_
  refine pw_lV C [iV (xs (i + 1).toNat).toInt, iV (xs (i + 2).toNat).toInt] [iV r1] (c_X11_apart _ K _ ((xs (i + 1).toNat).toInt) ((xs (i + 2).toNat).toInt) (hR.1) (i32x _) (i32x _)) cb_X11_apart lay_43 kc_11 rfl ml_L_68 dL_law_535 (by decide) hcs rfl (Nat.le_of_ble_eq_true rfl) rfl (fun r2 M2 q2 => ?_)
  obtain ⟨e9, hI9⟩ := st_apart h q1 q2
  rw [← e9]
  exact pw_ieq (tgt := 1174) C dL_law_538 (by decide) (hk M2 hI9)
set_option maxHeartbeats 1000000 in
theorem lc_from {X : CX} {K : KX} {cs : Nat × Nat} {Z : State → Prop} {b n : Nat} {xs : Nat → Int32} {i : Int} {M : Mem} (C : CXok X K LAY cL_law RL 7 (some .boolean) 100) (hX : SCR X b n xs) (hi : 0 ≤ i ∧ i + 6 ≤ (n : Int)) (hn : n < 2147483648) (hcs : cs.1 ≤ X.2.2.2.1.cells ∧ cs.2 ≤ X.2.2.2.1.slots) (h : Inv M) (hk : ∀ M9, Inv M9 → PW X K LAY 7 cs Z 1174 [some (Value.ref b), some (rV K 0), some (rV K 43), some (rV K 60), some (iV i), none, none] [] M9) : PW X K LAY 7 cs Z 543 [some (Value.ref b), some (rV K 0), some (rV K 43), some (rV K 60), some (iV i), none, none] [] M := by
  refine pw_aload1 C dL_law_543 ?_
  refine pw_sa0 C dL_law_544 ?_
  refine pw_iload4 C dL_law_545 ?_
  refine pw_iconst C dL_law_547 ?_
  refine pw_iadd C dL_law_548 ?_
  refine pw_sld C hX (by omega) hn dL_law_549 ?_
  refine pw_lV C [iV (xs (i + 1).toNat).toInt] [] (c_X10_from _ K _ ((xs (i + 1).toNat).toInt) (h.1.1) (i32x _) (h.1.2.1) (h.1.2.2.1)) cb_X10_from lay_0 kc_10 rfl ml_L_69 dL_law_550 (by decide) hcs rfl (Nat.le_of_ble_eq_true rfl) rfl (fun r1 M1 q1 => ?_)
  have hR : RI M1 := RI_of h (fun k hk9 => q1.2.2 k (by simp; omega))
  refine pw_aload2 C dL_law_553 ?_
  refine pw_sa0 C dL_law_554 ?_
  refine pw_iload4 C dL_law_555 ?_
  refine pw_iconst C dL_law_557 ?_
  refine pw_iadd C dL_law_558 ?_
  refine pw_sld C hX (by omega) hn dL_law_559 ?_
  refine pw_lV C [iV (xs (i + 1).toNat).toInt] [iV r1] (c_X11_from _ K _ ((xs (i + 1).toNat).toInt) (hR.1) (i32x _) (hR.2.1) (hR.2.2.1)) cb_X11_from lay_43 kc_11 rfl ml_L_72 dL_law_560 (by decide) hcs rfl (Nat.le_of_ble_eq_true rfl) rfl (fun r2 M2 q2 => ?_)
  obtain ⟨e9, hI9⟩ := st_from h q1 q2
  rw [← e9]
  exact pw_ieq (tgt := 1174) C dL_law_563 (by decide) (hk M2 hI9)
set_option maxHeartbeats 1000000 in
theorem lc_centre {X : CX} {K : KX} {cs : Nat × Nat} {Z : State → Prop} {b n : Nat} {xs : Nat → Int32} {i : Int} {M : Mem} (C : CXok X K LAY cL_law RL 7 (some .boolean) 100) (hX : SCR X b n xs) (hi : 0 ≤ i ∧ i + 6 ≤ (n : Int)) (hn : n < 2147483648) (hcs : cs.1 ≤ X.2.2.2.1.cells ∧ cs.2 ≤ X.2.2.2.1.slots) (h : Inv M) (hk : ∀ M9, Inv M9 → PW X K LAY 7 cs Z 1174 [some (Value.ref b), some (rV K 0), some (rV K 43), some (rV K 60), some (iV i), none, none] [] M9) : PW X K LAY 7 cs Z 568 [some (Value.ref b), some (rV K 0), some (rV K 43), some (rV K 60), some (iV i), none, none] [] M := by
  refine pw_aload1 C dL_law_568 ?_
  refine pw_lV C [] [] (c_X10_centre _ K _  (h.1.1) (h.1.2.2.2.1) (h.1.2.2.2.2.1) (h.1.2.2.2.2.2.1)) cb_X10_centre lay_0 kc_10 rfl ml_L_73 dL_law_569 (by decide) hcs rfl (Nat.le_of_ble_eq_true rfl) rfl (fun r1 M1 q1 => ?_)
  have hR : RI M1 := RI_of h (fun k hk9 => q1.2.2.2.2.2 k (by simp; omega))
  refine pw_aload2 C dL_law_572 ?_
  refine pw_lV C [] [iV r1] (c_X11_centre _ K _  (hR.1) (hR.2.2.2.1)) cb_X11_centre lay_43 kc_11 rfl ml_L_76 dL_law_573 (by decide) hcs rfl (Nat.le_of_ble_eq_true rfl) rfl (fun r2 M2 q2 => ?_)
  obtain ⟨e9, hI9⟩ := st_centre h q1 q2
  rw [← e9]
  exact pw_ieq (tgt := 1174) C dL_law_576 (by decide) (hk M2 hI9)
set_option maxHeartbeats 1000000 in
theorem lc_centreAt {X : CX} {K : KX} {cs : Nat × Nat} {Z : State → Prop} {b n : Nat} {xs : Nat → Int32} {i : Int} {M : Mem} (C : CXok X K LAY cL_law RL 7 (some .boolean) 100) (hX : SCR X b n xs) (hi : 0 ≤ i ∧ i + 6 ≤ (n : Int)) (hn : n < 2147483648) (hcs : cs.1 ≤ X.2.2.2.1.cells ∧ cs.2 ≤ X.2.2.2.1.slots) (h : Inv M) (hk : ∀ M9, Inv M9 → PW X K LAY 7 cs Z 1174 [some (Value.ref b), some (rV K 0), some (rV K 43), some (rV K 60), some (iV i), none, none] [] M9) : PW X K LAY 7 cs Z 581 [some (Value.ref b), some (rV K 0), some (rV K 43), some (rV K 60), some (iV i), none, none] [] M := by
  refine pw_aload1 C dL_law_581 ?_
  refine pw_sa0 C dL_law_582 ?_
  refine pw_iload4 C dL_law_583 ?_
  refine pw_iconst C dL_law_585 ?_
  refine pw_iadd C dL_law_586 ?_
  refine pw_sld C hX (by omega) hn dL_law_587 ?_
  refine pw_lV C [iV (xs (i + 1).toNat).toInt] [] (c_X10_centreAt _ K _ ((xs (i + 1).toNat).toInt) (h.1.1) (h.1.2.2.2.1) (h.1.2.2.2.2.1) (h.1.2.2.2.2.2.1) (i32x _)) cb_X10_centreAt lay_0 kc_10 rfl ml_L_77 dL_law_588 (by decide) hcs rfl (Nat.le_of_ble_eq_true rfl) rfl (fun r1 M1 q1 => ?_)
  have hR : RI M1 := RI_of h (fun k hk9 => q1.2.2.2.2.2 k (by simp; omega))
  refine pw_aload2 C dL_law_591 ?_
  refine pw_sa0 C dL_law_592 ?_
  refine pw_iload4 C dL_law_593 ?_
  refine pw_iconst C dL_law_595 ?_
  refine pw_iadd C dL_law_596 ?_
  refine pw_sld C hX (by omega) hn dL_law_597 ?_
  refine pw_lV C [iV (xs (i + 1).toNat).toInt] [iV r1] (c_X11_centreAt _ K _ ((xs (i + 1).toNat).toInt) (hR.1) (hR.2.2.2.1) (i32x _)) cb_X11_centreAt lay_43 kc_11 rfl ml_L_80 dL_law_598 (by decide) hcs rfl (Nat.le_of_ble_eq_true rfl) rfl (fun r2 M2 q2 => ?_)
  obtain ⟨e9, hI9⟩ := st_centreAt h q1 q2
  rw [← e9]
  exact pw_ieq (tgt := 1174) C dL_law_601 (by decide) (hk M2 hI9)
set_option maxHeartbeats 1000000 in
theorem lc_without {X : CX} {K : KX} {cs : Nat × Nat} {Z : State → Prop} {b n : Nat} {xs : Nat → Int32} {i : Int} {M : Mem} (C : CXok X K LAY cL_law RL 7 (some .boolean) 100) (hX : SCR X b n xs) (hi : 0 ≤ i ∧ i + 6 ≤ (n : Int)) (hn : n < 2147483648) (hcs : cs.1 ≤ X.2.2.2.1.cells ∧ cs.2 ≤ X.2.2.2.1.slots) (h : Inv M) (hk : ∀ M9, Inv M9 → PW X K LAY 7 cs Z 1174 [some (Value.ref b), some (rV K 0), some (rV K 43), some (rV K 60), some (iV i), none, none] [] M9) : PW X K LAY 7 cs Z 606 [some (Value.ref b), some (rV K 0), some (rV K 43), some (rV K 60), some (iV i), none, none] [] M := by
  refine pw_aload1 C dL_law_606 ?_
  refine pw_sa0 C dL_law_607 ?_
  refine pw_iload4 C dL_law_608 ?_
  refine pw_iconst C dL_law_610 ?_
  refine pw_iadd C dL_law_611 ?_
  refine pw_sld C hX (by omega) hn dL_law_612 ?_
  refine pw_lV C [iV (xs (i + 1).toNat).toInt] [] (c_X10_without _ K _ ((xs (i + 1).toNat).toInt) (h.1.1) (h.1.2.2.2.1) (h.1.2.2.2.2.1) (h.1.2.2.2.2.2.2.1) (i32x _)) cb_X10_without lay_0 kc_10 rfl ml_L_81 dL_law_613 (by decide) hcs rfl (Nat.le_of_ble_eq_true rfl) rfl (fun r1 M1 q1 => ?_)
  have hR : RI M1 := RI_of h (fun k hk9 => q1.2.2.2.2 k (by simp; omega))
  refine pw_aload2 C dL_law_616 ?_
  refine pw_sa0 C dL_law_617 ?_
  refine pw_iload4 C dL_law_618 ?_
  refine pw_iconst C dL_law_620 ?_
  refine pw_iadd C dL_law_621 ?_
  refine pw_sld C hX (by omega) hn dL_law_622 ?_
  refine pw_lV C [iV (xs (i + 1).toNat).toInt] [iV r1] (c_X11_without _ K _ ((xs (i + 1).toNat).toInt) (hR.1) (hR.2.2.2.1) (i32x _)) cb_X11_without lay_43 kc_11 rfl ml_L_84 dL_law_623 (by decide) hcs rfl (Nat.le_of_ble_eq_true rfl) rfl (fun r2 M2 q2 => ?_)
  obtain ⟨e9, hI9⟩ := st_without h q1 q2
  rw [← e9]
  exact pw_ieq (tgt := 1174) C dL_law_626 (by decide) (hk M2 hI9)
set_option maxHeartbeats 1000000 in
theorem lc_leftOut {X : CX} {K : KX} {cs : Nat × Nat} {Z : State → Prop} {b n : Nat} {xs : Nat → Int32} {i : Int} {M : Mem} (C : CXok X K LAY cL_law RL 7 (some .boolean) 100) (hX : SCR X b n xs) (hi : 0 ≤ i ∧ i + 6 ≤ (n : Int)) (hn : n < 2147483648) (hcs : cs.1 ≤ X.2.2.2.1.cells ∧ cs.2 ≤ X.2.2.2.1.slots) (h : Inv M) (hk : ∀ M9, Inv M9 → PW X K LAY 7 cs Z 1174 [some (Value.ref b), some (rV K 0), some (rV K 43), some (rV K 60), some (iV i), none, none] [] M9) : PW X K LAY 7 cs Z 631 [some (Value.ref b), some (rV K 0), some (rV K 43), some (rV K 60), some (iV i), none, none] [] M := by
  refine pw_aload1 C dL_law_631 ?_
  refine pw_sa0 C dL_law_632 ?_
  refine pw_iload4 C dL_law_633 ?_
  refine pw_iconst C dL_law_635 ?_
  refine pw_iadd C dL_law_636 ?_
  refine pw_sld C hX (by omega) hn dL_law_637 ?_
  refine pw_lV C [iV (xs (i + 1).toNat).toInt] [] (c_X10_leftOut _ K _ ((xs (i + 1).toNat).toInt) (h.1.1) (h.1.2.2.2.1) (h.1.2.2.2.2.1) (h.1.2.2.2.2.2.2.1) (i32x _)) cb_X10_leftOut lay_0 kc_10 rfl ml_L_85 dL_law_638 (by decide) hcs rfl (Nat.le_of_ble_eq_true rfl) rfl (fun r1 M1 q1 => ?_)
  have hR : RI M1 := RI_of h (fun k hk9 => q1.2.2.2.2 k (by simp; omega))
  refine pw_aload2 C dL_law_641 ?_
  refine pw_sa0 C dL_law_642 ?_
  refine pw_iload4 C dL_law_643 ?_
  refine pw_iconst C dL_law_645 ?_
  refine pw_iadd C dL_law_646 ?_
  refine pw_sld C hX (by omega) hn dL_law_647 ?_
  refine pw_lV C [iV (xs (i + 1).toNat).toInt] [iV r1] (c_X11_leftOut _ K _ ((xs (i + 1).toNat).toInt) (hR.1) (hR.2.2.2.1) (i32x _)) cb_X11_leftOut lay_43 kc_11 rfl ml_L_88 dL_law_648 (by decide) hcs rfl (Nat.le_of_ble_eq_true rfl) rfl (fun r2 M2 q2 => ?_)
  obtain ⟨e9, hI9⟩ := st_leftOut h q1 q2
  rw [← e9]
  exact pw_ieq (tgt := 1174) C dL_law_651 (by decide) (hk M2 hI9)
set_option maxHeartbeats 1000000 in
theorem lc_within {X : CX} {K : KX} {cs : Nat × Nat} {Z : State → Prop} {b n : Nat} {xs : Nat → Int32} {i : Int} {M : Mem} (C : CXok X K LAY cL_law RL 7 (some .boolean) 100) (hX : SCR X b n xs) (hi : 0 ≤ i ∧ i + 6 ≤ (n : Int)) (hn : n < 2147483648) (hcs : cs.1 ≤ X.2.2.2.1.cells ∧ cs.2 ≤ X.2.2.2.1.slots) (h : Inv M) (hk : ∀ M9, Inv M9 → PW X K LAY 7 cs Z 1174 [some (Value.ref b), some (rV K 0), some (rV K 43), some (rV K 60), some (iV i), none, none] [] M9) : PW X K LAY 7 cs Z 656 [some (Value.ref b), some (rV K 0), some (rV K 43), some (rV K 60), some (iV i), none, none] [] M := by
  refine pw_aload1 C dL_law_656 ?_
  refine pw_sa0 C dL_law_657 ?_
  refine pw_iload4 C dL_law_658 ?_
  refine pw_iconst C dL_law_660 ?_
  refine pw_iadd C dL_law_661 ?_
  refine pw_sld C hX (by omega) hn dL_law_662 ?_
  refine pw_lV C [iV (xs (i + 1).toNat).toInt] [] (c_X10_within _ K _ ((xs (i + 1).toNat).toInt) (h.1.1) (h.1.2.2.2.1) (h.1.2.2.2.2.1) (h.1.2.2.2.2.2.1) (i32x _)) cb_X10_within lay_0 kc_10 rfl ml_L_89 dL_law_663 (by decide) hcs rfl (Nat.le_of_ble_eq_true rfl) rfl (fun r1 M1 q1 => ?_)
  have hR : RI M1 := RI_of h (fun k hk9 => q1.2.2.2.2 k (by simp; omega))
  refine pw_aload2 C dL_law_666 ?_
  refine pw_sa0 C dL_law_667 ?_
  refine pw_iload4 C dL_law_668 ?_
  refine pw_iconst C dL_law_670 ?_
  refine pw_iadd C dL_law_671 ?_
  refine pw_sld C hX (by omega) hn dL_law_672 ?_
  refine pw_lV C [iV (xs (i + 1).toNat).toInt] [iV r1] (c_X11_within_ _ K _ ((xs (i + 1).toNat).toInt) (hR.1) (hR.2.2.2.1) (i32x _)) cb_X11_within_ lay_43 kc_11 rfl ml_L_92 dL_law_673 (by decide) hcs rfl (Nat.le_of_ble_eq_true rfl) rfl (fun r2 M2 q2 => ?_)
  obtain ⟨e9, hI9⟩ := st_within h q1 q2
  rw [← e9]
  exact pw_ieq (tgt := 1174) C dL_law_676 (by decide) (hk M2 hI9)
set_option maxHeartbeats 1000000 in
theorem lc_lettersAt {X : CX} {K : KX} {cs : Nat × Nat} {Z : State → Prop} {b n : Nat} {xs : Nat → Int32} {i : Int} {M : Mem} (C : CXok X K LAY cL_law RL 7 (some .boolean) 100) (hX : SCR X b n xs) (hi : 0 ≤ i ∧ i + 6 ≤ (n : Int)) (hn : n < 2147483648) (hcs : cs.1 ≤ X.2.2.2.1.cells ∧ cs.2 ≤ X.2.2.2.1.slots) (h : Inv M) (hk : ∀ M9, Inv M9 → PW X K LAY 7 cs Z 1174 [some (Value.ref b), some (rV K 0), some (rV K 43), some (rV K 60), some (iV i), none, none] [] M9) : PW X K LAY 7 cs Z 681 [some (Value.ref b), some (rV K 0), some (rV K 43), some (rV K 60), some (iV i), none, none] [] M := by
  refine pw_aload1 C dL_law_681 ?_
  refine pw_sa0 C dL_law_682 ?_
  refine pw_iload4 C dL_law_683 ?_
  refine pw_iconst C dL_law_685 ?_
  refine pw_iadd C dL_law_686 ?_
  refine pw_sld C hX (by omega) hn dL_law_687 ?_
  refine pw_sa0 C dL_law_688 ?_
  refine pw_iload4 C dL_law_689 ?_
  refine pw_iconst C dL_law_691 ?_
  refine pw_iadd C dL_law_692 ?_
  refine pw_sld C hX (by omega) hn dL_law_693 ?_
  refine pw_lV C [iV (xs (i + 1).toNat).toInt, iV (xs (i + 2).toNat).toInt] [] (c_X10_lettersAt _ K _ ((xs (i + 1).toNat).toInt) ((xs (i + 2).toNat).toInt) (h.1.1) (h.1.2.2.2.1) (h.1.2.2.2.2.1) (h.1.2.2.2.2.2.1) (i32x _) (i32x _)) cb_X10_lettersAt lay_0 kc_10 rfl ml_L_93 dL_law_694 (by decide) hcs rfl (Nat.le_of_ble_eq_true rfl) rfl (fun r1 M1 q1 => ?_)
  have hR : RI M1 := RI_of h (fun k hk9 => q1.2.2.2.2 k (by simp; omega))
  refine pw_aload2 C dL_law_697 ?_
  refine pw_sa0 C dL_law_698 ?_
  refine pw_iload4 C dL_law_699 ?_
  refine pw_iconst C dL_law_701 ?_
  refine pw_iadd C dL_law_702 ?_
  refine pw_sld C hX (by omega) hn dL_law_703 ?_
  refine pw_sa0 C dL_law_704 ?_
  refine pw_iload4 C dL_law_705 ?_
  refine pw_iconst C dL_law_707 ?_
  refine pw_iadd C dL_law_708 ?_
  refine pw_sld C hX (by omega) hn dL_law_709 ?_
  refine pw_lV C [iV (xs (i + 1).toNat).toInt, iV (xs (i + 2).toNat).toInt] [iV r1] (c_X11_lettersAt _ K _ ((xs (i + 1).toNat).toInt) ((xs (i + 2).toNat).toInt) (hR.1) (hR.2.2.2.1) (i32x _) (i32x _)) cb_X11_lettersAt lay_43 kc_11 rfl ml_L_96 dL_law_710 (by decide) hcs rfl (Nat.le_of_ble_eq_true rfl) rfl (fun r2 M2 q2 => ?_)
  obtain ⟨e9, hI9⟩ := st_lettersAt h q1 q2
  rw [← e9]
  exact pw_ieq (tgt := 1174) C dL_law_713 (by decide) (hk M2 hI9)
set_option maxHeartbeats 1000000 in
theorem lc_core {X : CX} {K : KX} {cs : Nat × Nat} {Z : State → Prop} {b n : Nat} {xs : Nat → Int32} {i : Int} {M : Mem} (C : CXok X K LAY cL_law RL 7 (some .boolean) 100) (hX : SCR X b n xs) (hi : 0 ≤ i ∧ i + 6 ≤ (n : Int)) (hn : n < 2147483648) (hcs : cs.1 ≤ X.2.2.2.1.cells ∧ cs.2 ≤ X.2.2.2.1.slots) (h : Inv M) (hk : ∀ M9, Inv M9 → PW X K LAY 7 cs Z 1174 [some (Value.ref b), some (rV K 0), some (rV K 43), some (rV K 60), some (iV i), none, none] [] M9) : PW X K LAY 7 cs Z 718 [some (Value.ref b), some (rV K 0), some (rV K 43), some (rV K 60), some (iV i), none, none] [] M := by
  refine pw_aload1 C dL_law_718 ?_
  refine pw_sa0 C dL_law_719 ?_
  refine pw_iload4 C dL_law_720 ?_
  refine pw_iconst C dL_law_722 ?_
  refine pw_iadd C dL_law_723 ?_
  refine pw_sld C hX (by omega) hn dL_law_724 ?_
  refine pw_lV C [iV (xs (i + 1).toNat).toInt] [] (c_X10_core _ K _ ((xs (i + 1).toNat).toInt) (h.1.1) (h.1.2.2.2.1) (h.1.2.2.2.2.1) (h.1.2.2.2.2.2.2.1) (i32x _)) cb_X10_core lay_0 kc_10 rfl ml_L_97 dL_law_725 (by decide) hcs rfl (Nat.le_of_ble_eq_true rfl) rfl (fun r1 M1 q1 => ?_)
  have hR : RI M1 := RI_of h (fun k hk9 => q1.2.2.2.2 k (by simp; omega))
  refine pw_aload2 C dL_law_728 ?_
  refine pw_sa0 C dL_law_729 ?_
  refine pw_iload4 C dL_law_730 ?_
  refine pw_iconst C dL_law_732 ?_
  refine pw_iadd C dL_law_733 ?_
  refine pw_sld C hX (by omega) hn dL_law_734 ?_
  refine pw_lV C [iV (xs (i + 1).toNat).toInt] [iV r1] (c_X11_core _ K _ ((xs (i + 1).toNat).toInt) (hR.1) (hR.2.2.2.1) (i32x _)) cb_X11_core lay_43 kc_11 rfl ml_L_100 dL_law_735 (by decide) hcs rfl (Nat.le_of_ble_eq_true rfl) rfl (fun r2 M2 q2 => ?_)
  obtain ⟨e9, hI9⟩ := st_core h q1 q2
  rw [← e9]
  exact pw_ieq (tgt := 1174) C dL_law_738 (by decide) (hk M2 hI9)
set_option maxHeartbeats 1000000 in
theorem lc_coreSet {X : CX} {K : KX} {cs : Nat × Nat} {Z : State → Prop} {b n : Nat} {xs : Nat → Int32} {i : Int} {M : Mem} (C : CXok X K LAY cL_law RL 7 (some .boolean) 100) (hX : SCR X b n xs) (hi : 0 ≤ i ∧ i + 6 ≤ (n : Int)) (hn : n < 2147483648) (hcs : cs.1 ≤ X.2.2.2.1.cells ∧ cs.2 ≤ X.2.2.2.1.slots) (h : Inv M) (hk : ∀ M9, Inv M9 → PW X K LAY 7 cs Z 1174 [some (Value.ref b), some (rV K 0), some (rV K 43), some (rV K 60), some (iV i), none, none] [] M9) : PW X K LAY 7 cs Z 743 [some (Value.ref b), some (rV K 0), some (rV K 43), some (rV K 60), some (iV i), none, none] [] M := by
  refine pw_aload1 C dL_law_743 ?_
  refine pw_sa0 C dL_law_744 ?_
  refine pw_iload4 C dL_law_745 ?_
  refine pw_iconst C dL_law_747 ?_
  refine pw_iadd C dL_law_748 ?_
  refine pw_sld C hX (by omega) hn dL_law_749 ?_
  refine pw_lV C [iV (xs (i + 1).toNat).toInt] [] (c_X10_coreSet _ K _ ((xs (i + 1).toNat).toInt) (h.1.1) (h.1.2.2.2.1) (h.1.2.2.2.2.1) (h.1.2.2.2.2.2.2.1) (i32x _)) cb_X10_coreSet lay_0 kc_10 rfl ml_L_101 dL_law_750 (by decide) hcs rfl (Nat.le_of_ble_eq_true rfl) rfl (fun r1 M1 q1 => ?_)
  have hR : RI M1 := RI_of h (fun k hk9 => q1.2.2.2.2 k (by simp; omega))
  refine pw_aload2 C dL_law_753 ?_
  refine pw_sa0 C dL_law_754 ?_
  refine pw_iload4 C dL_law_755 ?_
  refine pw_iconst C dL_law_757 ?_
  refine pw_iadd C dL_law_758 ?_
  refine pw_sld C hX (by omega) hn dL_law_759 ?_
  refine pw_lV C [iV (xs (i + 1).toNat).toInt] [iV r1] (c_X11_coreSet _ K _ ((xs (i + 1).toNat).toInt) (hR.1) (hR.2.2.2.1) (i32x _)) cb_X11_coreSet lay_43 kc_11 rfl ml_L_104 dL_law_760 (by decide) hcs rfl (Nat.le_of_ble_eq_true rfl) rfl (fun r2 M2 q2 => ?_)
  obtain ⟨e9, hI9⟩ := st_coreSet h q1 q2
  rw [← e9]
  exact pw_ieq (tgt := 1174) C dL_law_763 (by decide) (hk M2 hI9)
set_option maxHeartbeats 1000000 in
theorem lc_cover {X : CX} {K : KX} {cs : Nat × Nat} {Z : State → Prop} {b n : Nat} {xs : Nat → Int32} {i : Int} {M : Mem} (C : CXok X K LAY cL_law RL 7 (some .boolean) 100) (hX : SCR X b n xs) (hi : 0 ≤ i ∧ i + 6 ≤ (n : Int)) (hn : n < 2147483648) (hcs : cs.1 ≤ X.2.2.2.1.cells ∧ cs.2 ≤ X.2.2.2.1.slots) (h : Inv M) (hk : ∀ M9, Inv M9 → PW X K LAY 7 cs Z 1174 [some (Value.ref b), some (rV K 0), some (rV K 43), some (rV K 60), some (iV i), none, none] [] M9) : PW X K LAY 7 cs Z 768 [some (Value.ref b), some (rV K 0), some (rV K 43), some (rV K 60), some (iV i), none, none] [] M := by
  refine pw_aload1 C dL_law_768 ?_
  refine pw_sa0 C dL_law_769 ?_
  refine pw_iload4 C dL_law_770 ?_
  refine pw_iconst C dL_law_772 ?_
  refine pw_iadd C dL_law_773 ?_
  refine pw_sld C hX (by omega) hn dL_law_774 ?_
  refine pw_lV C [iV (xs (i + 1).toNat).toInt] [] (c_X10_cover _ K _ ((xs (i + 1).toNat).toInt) (h.1.1) (h.1.2.2.2.1) (h.1.2.2.2.2.1) (h.1.2.2.2.2.2.2.1) (i32x _)) cb_X10_cover lay_0 kc_10 rfl ml_L_105 dL_law_775 (by decide) hcs rfl (Nat.le_of_ble_eq_true rfl) rfl (fun r1 M1 q1 => ?_)
  have hR : RI M1 := RI_of h (fun k hk9 => q1.2.2.2.2 k (by simp; omega))
  refine pw_aload2 C dL_law_778 ?_
  refine pw_sa0 C dL_law_779 ?_
  refine pw_iload4 C dL_law_780 ?_
  refine pw_iconst C dL_law_782 ?_
  refine pw_iadd C dL_law_783 ?_
  refine pw_sld C hX (by omega) hn dL_law_784 ?_
  refine pw_lV C [iV (xs (i + 1).toNat).toInt] [iV r1] (c_X11_cover _ K _ ((xs (i + 1).toNat).toInt) (hR.1) (hR.2.2.2.1) (i32x _)) cb_X11_cover lay_43 kc_11 rfl ml_L_108 dL_law_785 (by decide) hcs rfl (Nat.le_of_ble_eq_true rfl) rfl (fun r2 M2 q2 => ?_)
  obtain ⟨e9, hI9⟩ := st_cover h q1 q2
  rw [← e9]
  exact pw_ieq (tgt := 1174) C dL_law_788 (by decide) (hk M2 hI9)
set_option maxHeartbeats 1000000 in
theorem lc_centres {X : CX} {K : KX} {cs : Nat × Nat} {Z : State → Prop} {b n : Nat} {xs : Nat → Int32} {i : Int} {M : Mem} (C : CXok X K LAY cL_law RL 7 (some .boolean) 100) (hX : SCR X b n xs) (hi : 0 ≤ i ∧ i + 6 ≤ (n : Int)) (hn : n < 2147483648) (hcs : cs.1 ≤ X.2.2.2.1.cells ∧ cs.2 ≤ X.2.2.2.1.slots) (h : Inv M) (hk : ∀ M9, Inv M9 → PW X K LAY 7 cs Z 1174 [some (Value.ref b), some (rV K 0), some (rV K 43), some (rV K 60), some (iV i), none, none] [] M9) : PW X K LAY 7 cs Z 793 [some (Value.ref b), some (rV K 0), some (rV K 43), some (rV K 60), some (iV i), none, none] [] M := by
  refine pw_aload1 C dL_law_793 ?_
  refine pw_sa0 C dL_law_794 ?_
  refine pw_iload4 C dL_law_795 ?_
  refine pw_iconst C dL_law_797 ?_
  refine pw_iadd C dL_law_798 ?_
  refine pw_sld C hX (by omega) hn dL_law_799 ?_
  refine pw_lV C [iV (xs (i + 1).toNat).toInt] [] (c_X10_centres _ K _ ((xs (i + 1).toNat).toInt) (h.1.1) (h.1.2.2.2.1) (h.1.2.2.2.2.1) (h.1.2.2.2.2.2.2.1) (i32x _)) cb_X10_centres lay_0 kc_10 rfl ml_L_109 dL_law_800 (by decide) hcs rfl (Nat.le_of_ble_eq_true rfl) rfl (fun r1 M1 q1 => ?_)
  have hR : RI M1 := RI_of h (fun k hk9 => q1.2.2.2.2 k (by simp; omega))
  refine pw_aload2 C dL_law_803 ?_
  refine pw_sa0 C dL_law_804 ?_
  refine pw_iload4 C dL_law_805 ?_
  refine pw_iconst C dL_law_807 ?_
  refine pw_iadd C dL_law_808 ?_
  refine pw_sld C hX (by omega) hn dL_law_809 ?_
  refine pw_lV C [iV (xs (i + 1).toNat).toInt] [iV r1] (c_X11_centres _ K _ ((xs (i + 1).toNat).toInt) (hR.1) (hR.2.2.2.1) (i32x _)) cb_X11_centres lay_43 kc_11 rfl ml_L_112 dL_law_810 (by decide) hcs rfl (Nat.le_of_ble_eq_true rfl) rfl (fun r2 M2 q2 => ?_)
  obtain ⟨e9, hI9⟩ := st_centres h q1 q2
  rw [← e9]
  exact pw_ieq (tgt := 1174) C dL_law_813 (by decide) (hk M2 hI9)
set_option maxHeartbeats 1000000 in
theorem lc_edits {X : CX} {K : KX} {cs : Nat × Nat} {Z : State → Prop} {b n : Nat} {xs : Nat → Int32} {i : Int} {M : Mem} (C : CXok X K LAY cL_law RL 7 (some .boolean) 100) (hX : SCR X b n xs) (hi : 0 ≤ i ∧ i + 6 ≤ (n : Int)) (hn : n < 2147483648) (hcs : cs.1 ≤ X.2.2.2.1.cells ∧ cs.2 ≤ X.2.2.2.1.slots) (h : Inv M) (hk : ∀ M9, Inv M9 → PW X K LAY 7 cs Z 1174 [some (Value.ref b), some (rV K 0), some (rV K 43), some (rV K 60), some (iV i), none, none] [] M9) : PW X K LAY 7 cs Z 818 [some (Value.ref b), some (rV K 0), some (rV K 43), some (rV K 60), some (iV i), none, none] [] M := by
  refine pw_aload1 C dL_law_818 ?_
  refine pw_sa0 C dL_law_819 ?_
  refine pw_iload4 C dL_law_820 ?_
  refine pw_iconst C dL_law_822 ?_
  refine pw_iadd C dL_law_823 ?_
  refine pw_sld C hX (by omega) hn dL_law_824 ?_
  refine pw_sa0 C dL_law_825 ?_
  refine pw_iload4 C dL_law_826 ?_
  refine pw_iconst C dL_law_828 ?_
  refine pw_iadd C dL_law_829 ?_
  refine pw_sld C hX (by omega) hn dL_law_830 ?_
  refine pw_lV C [iV (xs (i + 1).toNat).toInt, iV (xs (i + 2).toNat).toInt] [] (c_X10_edits _ K _ ((xs (i + 1).toNat).toInt) ((xs (i + 2).toNat).toInt) (h.1.1) (i32x _) (i32x _)) cb_X10_edits lay_0 kc_10 rfl ml_L_113 dL_law_831 (by decide) hcs rfl (Nat.le_of_ble_eq_true rfl) rfl (fun r1 M1 q1 => ?_)
  have hR : RI M1 := RI_of h (fun k hk9 => q1.2 k (by simp; omega))
  refine pw_aload2 C dL_law_834 ?_
  refine pw_sa0 C dL_law_835 ?_
  refine pw_iload4 C dL_law_836 ?_
  refine pw_iconst C dL_law_838 ?_
  refine pw_iadd C dL_law_839 ?_
  refine pw_sld C hX (by omega) hn dL_law_840 ?_
  refine pw_sa0 C dL_law_841 ?_
  refine pw_iload4 C dL_law_842 ?_
  refine pw_iconst C dL_law_844 ?_
  refine pw_iadd C dL_law_845 ?_
  refine pw_sld C hX (by omega) hn dL_law_846 ?_
  refine pw_lV C [iV (xs (i + 1).toNat).toInt, iV (xs (i + 2).toNat).toInt] [iV r1] (c_X11_edits_ _ K _ ((xs (i + 1).toNat).toInt) ((xs (i + 2).toNat).toInt) (hR.1) (i32x _) (i32x _)) cb_X11_edits_ lay_43 kc_11 rfl ml_L_116 dL_law_847 (by decide) hcs rfl (Nat.le_of_ble_eq_true rfl) rfl (fun r2 M2 q2 => ?_)
  obtain ⟨e9, hI9⟩ := st_edits h q1 q2
  rw [← e9]
  exact pw_ieq (tgt := 1174) C dL_law_850 (by decide) (hk M2 hI9)
set_option maxHeartbeats 1000000 in
theorem lc_editsFrom {X : CX} {K : KX} {cs : Nat × Nat} {Z : State → Prop} {b n : Nat} {xs : Nat → Int32} {i : Int} {M : Mem} (C : CXok X K LAY cL_law RL 7 (some .boolean) 100) (hX : SCR X b n xs) (hi : 0 ≤ i ∧ i + 6 ≤ (n : Int)) (hn : n < 2147483648) (hcs : cs.1 ≤ X.2.2.2.1.cells ∧ cs.2 ≤ X.2.2.2.1.slots) (h : Inv M) (hk : ∀ M9, Inv M9 → PW X K LAY 7 cs Z 1174 [some (Value.ref b), some (rV K 0), some (rV K 43), some (rV K 60), some (iV i), none, none] [] M9) : PW X K LAY 7 cs Z 855 [some (Value.ref b), some (rV K 0), some (rV K 43), some (rV K 60), some (iV i), none, none] [] M := by
  refine pw_aload1 C dL_law_855 ?_
  refine pw_sa0 C dL_law_856 ?_
  refine pw_iload4 C dL_law_857 ?_
  refine pw_iconst C dL_law_859 ?_
  refine pw_iadd C dL_law_860 ?_
  refine pw_sld C hX (by omega) hn dL_law_861 ?_
  refine pw_lV C [iV (xs (i + 1).toNat).toInt] [] (c_X10_editsFrom _ K _ ((xs (i + 1).toNat).toInt) (h.1.1) (i32x _) (h.1.2.1) (h.1.2.2.1)) cb_X10_editsFrom lay_0 kc_10 rfl ml_L_117 dL_law_862 (by decide) hcs rfl (Nat.le_of_ble_eq_true rfl) rfl (fun r1 M1 q1 => ?_)
  have hR : RI M1 := RI_of h (fun k hk9 => q1.2.2 k (by simp; omega))
  refine pw_aload2 C dL_law_865 ?_
  refine pw_sa0 C dL_law_866 ?_
  refine pw_iload4 C dL_law_867 ?_
  refine pw_iconst C dL_law_869 ?_
  refine pw_iadd C dL_law_870 ?_
  refine pw_sld C hX (by omega) hn dL_law_871 ?_
  refine pw_lV C [iV (xs (i + 1).toNat).toInt] [iV r1] (c_X11_editsFrom _ K _ ((xs (i + 1).toNat).toInt) (hR.1) (i32x _) (hR.2.1) (hR.2.2.1)) cb_X11_editsFrom lay_43 kc_11 rfl ml_L_120 dL_law_872 (by decide) hcs rfl (Nat.le_of_ble_eq_true rfl) rfl (fun r2 M2 q2 => ?_)
  obtain ⟨e9, hI9⟩ := st_editsFrom h q1 q2
  rw [← e9]
  exact pw_ieq (tgt := 1174) C dL_law_875 (by decide) (hk M2 hI9)
set_option maxHeartbeats 1000000 in
theorem lc_middle {X : CX} {K : KX} {cs : Nat × Nat} {Z : State → Prop} {b n : Nat} {xs : Nat → Int32} {i : Int} {M : Mem} (C : CXok X K LAY cL_law RL 7 (some .boolean) 100) (hX : SCR X b n xs) (hi : 0 ≤ i ∧ i + 6 ≤ (n : Int)) (hn : n < 2147483648) (hcs : cs.1 ≤ X.2.2.2.1.cells ∧ cs.2 ≤ X.2.2.2.1.slots) (h : Inv M) (hk : ∀ M9, Inv M9 → PW X K LAY 7 cs Z 1174 [some (Value.ref b), some (rV K 0), some (rV K 43), some (rV K 60), some (iV i), none, none] [] M9) : PW X K LAY 7 cs Z 880 [some (Value.ref b), some (rV K 0), some (rV K 43), some (rV K 60), some (iV i), none, none] [] M := by
  refine pw_aload1 C dL_law_880 ?_
  refine pw_lV C [] [] (c_X10_middle _ K _  (h.1.1) (h.1.2.2.2.2.2.2.2.1)) cb_X10_middle lay_0 kc_10 rfl ml_L_121 dL_law_881 (by decide) hcs rfl (Nat.le_of_ble_eq_true rfl) rfl (fun r1 M1 q1 => ?_)
  have hR : RI M1 := RI_of h (fun k hk9 => q1.2.2.2 k (by simp; omega))
  refine pw_aload2 C dL_law_884 ?_
  refine pw_lV C [] [iV r1] (c_X11_middle _ K _  (hR.1) (hR.2.2.2.2.1)) cb_X11_middle lay_43 kc_11 rfl ml_L_124 dL_law_885 (by decide) hcs rfl (Nat.le_of_ble_eq_true rfl) rfl (fun r2 M2 q2 => ?_)
  obtain ⟨e9, hI9⟩ := st_middle h q1 q2
  rw [← e9]
  exact pw_ieq (tgt := 1174) C dL_law_888 (by decide) (hk M2 hI9)
set_option maxHeartbeats 1000000 in
theorem lc_middleLength {X : CX} {K : KX} {cs : Nat × Nat} {Z : State → Prop} {b n : Nat} {xs : Nat → Int32} {i : Int} {M : Mem} (C : CXok X K LAY cL_law RL 7 (some .boolean) 100) (hX : SCR X b n xs) (hi : 0 ≤ i ∧ i + 6 ≤ (n : Int)) (hn : n < 2147483648) (hcs : cs.1 ≤ X.2.2.2.1.cells ∧ cs.2 ≤ X.2.2.2.1.slots) (h : Inv M) (hk : ∀ M9, Inv M9 → PW X K LAY 7 cs Z 1174 [some (Value.ref b), some (rV K 0), some (rV K 43), some (rV K 60), some (iV i), none, none] [] M9) : PW X K LAY 7 cs Z 893 [some (Value.ref b), some (rV K 0), some (rV K 43), some (rV K 60), some (iV i), none, none] [] M := by
  refine pw_aload1 C dL_law_893 ?_
  refine pw_lV C [] [] (c_X10_middleLength _ K _  (h.1.1) (h.1.2.2.2.2.2.2.2.1)) cb_X10_middleLength lay_0 kc_10 rfl ml_L_125 dL_law_894 (by decide) hcs rfl (Nat.le_of_ble_eq_true rfl) rfl (fun r1 M1 q1 => ?_)
  have hR : RI M1 := RI_of h (fun k hk9 => q1.2.2.2 k (by simp; omega))
  refine pw_aload2 C dL_law_897 ?_
  refine pw_lV C [] [iV r1] (c_X11_middleLength _ K _  (hR.1) (hR.2.2.2.2.1)) cb_X11_middleLength lay_43 kc_11 rfl ml_L_128 dL_law_898 (by decide) hcs rfl (Nat.le_of_ble_eq_true rfl) rfl (fun r2 M2 q2 => ?_)
  obtain ⟨e9, hI9⟩ := st_middleLength h q1 q2
  rw [← e9]
  exact pw_ieq (tgt := 1174) C dL_law_901 (by decide) (hk M2 hI9)
set_option maxHeartbeats 1000000 in
theorem lc_middleAt {X : CX} {K : KX} {cs : Nat × Nat} {Z : State → Prop} {b n : Nat} {xs : Nat → Int32} {i : Int} {M : Mem} (C : CXok X K LAY cL_law RL 7 (some .boolean) 100) (hX : SCR X b n xs) (hi : 0 ≤ i ∧ i + 6 ≤ (n : Int)) (hn : n < 2147483648) (hcs : cs.1 ≤ X.2.2.2.1.cells ∧ cs.2 ≤ X.2.2.2.1.slots) (h : Inv M) (hk : ∀ M9, Inv M9 → PW X K LAY 7 cs Z 1174 [some (Value.ref b), some (rV K 0), some (rV K 43), some (rV K 60), some (iV i), none, none] [] M9) : PW X K LAY 7 cs Z 906 [some (Value.ref b), some (rV K 0), some (rV K 43), some (rV K 60), some (iV i), none, none] [] M := by
  refine pw_aload1 C dL_law_906 ?_
  refine pw_sa0 C dL_law_907 ?_
  refine pw_iload4 C dL_law_908 ?_
  refine pw_iconst C dL_law_910 ?_
  refine pw_iadd C dL_law_911 ?_
  refine pw_sld C hX (by omega) hn dL_law_912 ?_
  refine pw_lV C [iV (xs (i + 1).toNat).toInt] [] (c_X10_middleAt _ K _ ((xs (i + 1).toNat).toInt) (h.1.1) (h.1.2.2.2.2.2.2.2.1) (i32x _)) cb_X10_middleAt lay_0 kc_10 rfl ml_L_129 dL_law_913 (by decide) hcs rfl (Nat.le_of_ble_eq_true rfl) rfl (fun r1 M1 q1 => ?_)
  have hR : RI M1 := RI_of h (fun k hk9 => q1.2.2.2 k (by simp; omega))
  refine pw_aload2 C dL_law_916 ?_
  refine pw_sa0 C dL_law_917 ?_
  refine pw_iload4 C dL_law_918 ?_
  refine pw_iconst C dL_law_920 ?_
  refine pw_iadd C dL_law_921 ?_
  refine pw_sld C hX (by omega) hn dL_law_922 ?_
  refine pw_lV C [iV (xs (i + 1).toNat).toInt] [iV r1] (c_X11_middleAt _ K _ ((xs (i + 1).toNat).toInt) (hR.1) (hR.2.2.2.2.1) (i32x _)) cb_X11_middleAt lay_43 kc_11 rfl ml_L_132 dL_law_923 (by decide) hcs rfl (Nat.le_of_ble_eq_true rfl) rfl (fun r2 M2 q2 => ?_)
  obtain ⟨e9, hI9⟩ := st_middleAt h q1 q2
  rw [← e9]
  exact pw_ieq (tgt := 1174) C dL_law_926 (by decide) (hk M2 hI9)
set_option maxHeartbeats 1000000 in
theorem lc_median {X : CX} {K : KX} {cs : Nat × Nat} {Z : State → Prop} {b n : Nat} {xs : Nat → Int32} {i : Int} {M : Mem} (C : CXok X K LAY cL_law RL 7 (some .boolean) 100) (hX : SCR X b n xs) (hi : 0 ≤ i ∧ i + 6 ≤ (n : Int)) (hn : n < 2147483648) (hcs : cs.1 ≤ X.2.2.2.1.cells ∧ cs.2 ≤ X.2.2.2.1.slots) (h : Inv M) (hk : ∀ M9, Inv M9 → PW X K LAY 7 cs Z 1174 [some (Value.ref b), some (rV K 0), some (rV K 43), some (rV K 60), some (iV i), none, none] [] M9) : PW X K LAY 7 cs Z 931 [some (Value.ref b), some (rV K 0), some (rV K 43), some (rV K 60), some (iV i), none, none] [] M := by
  refine pw_aload1 C dL_law_931 ?_
  refine pw_lV C [] [] (c_X10_median _ K _  (h.1.1) (h.1.2.2.2.1) (h.1.2.2.2.2.1) (h.1.2.2.2.2.2.1)) cb_X10_median lay_0 kc_10 rfl ml_L_133 dL_law_932 (by decide) hcs rfl (Nat.le_of_ble_eq_true rfl) rfl (fun r1 M1 q1 => ?_)
  have hR : RI M1 := RI_of h (fun k hk9 => q1.2.2.2.2.2 k (by simp; omega))
  refine pw_aload2 C dL_law_935 ?_
  refine pw_lV C [] [iV r1] (c_X11_median _ K _  (hR.1) (hR.2.2.2.1)) cb_X11_median lay_43 kc_11 rfl ml_L_136 dL_law_936 (by decide) hcs rfl (Nat.le_of_ble_eq_true rfl) rfl (fun r2 M2 q2 => ?_)
  obtain ⟨e9, hI9⟩ := st_median h q1 q2
  rw [← e9]
  exact pw_ieq (tgt := 1174) C dL_law_939 (by decide) (hk M2 hI9)
set_option maxHeartbeats 1000000 in
theorem lc_medianAt {X : CX} {K : KX} {cs : Nat × Nat} {Z : State → Prop} {b n : Nat} {xs : Nat → Int32} {i : Int} {M : Mem} (C : CXok X K LAY cL_law RL 7 (some .boolean) 100) (hX : SCR X b n xs) (hi : 0 ≤ i ∧ i + 6 ≤ (n : Int)) (hn : n < 2147483648) (hcs : cs.1 ≤ X.2.2.2.1.cells ∧ cs.2 ≤ X.2.2.2.1.slots) (h : Inv M) (hk : ∀ M9, Inv M9 → PW X K LAY 7 cs Z 1174 [some (Value.ref b), some (rV K 0), some (rV K 43), some (rV K 60), some (iV i), none, none] [] M9) : PW X K LAY 7 cs Z 944 [some (Value.ref b), some (rV K 0), some (rV K 43), some (rV K 60), some (iV i), none, none] [] M := by
  refine pw_aload1 C dL_law_944 ?_
  refine pw_sa0 C dL_law_945 ?_
  refine pw_iload4 C dL_law_946 ?_
  refine pw_iconst C dL_law_948 ?_
  refine pw_iadd C dL_law_949 ?_
  refine pw_sld C hX (by omega) hn dL_law_950 ?_
  refine pw_lV C [iV (xs (i + 1).toNat).toInt] [] (c_X10_medianAt _ K _ ((xs (i + 1).toNat).toInt) (h.1.1) (h.1.2.2.2.1) (h.1.2.2.2.2.1) (h.1.2.2.2.2.2.1) (i32x _)) cb_X10_medianAt lay_0 kc_10 rfl ml_L_137 dL_law_951 (by decide) hcs rfl (Nat.le_of_ble_eq_true rfl) rfl (fun r1 M1 q1 => ?_)
  have hR : RI M1 := RI_of h (fun k hk9 => q1.2.2.2.2.2 k (by simp; omega))
  refine pw_aload2 C dL_law_954 ?_
  refine pw_sa0 C dL_law_955 ?_
  refine pw_iload4 C dL_law_956 ?_
  refine pw_iconst C dL_law_958 ?_
  refine pw_iadd C dL_law_959 ?_
  refine pw_sld C hX (by omega) hn dL_law_960 ?_
  refine pw_lV C [iV (xs (i + 1).toNat).toInt] [iV r1] (c_X11_medianAt _ K _ ((xs (i + 1).toNat).toInt) (hR.1) (hR.2.2.2.1) (i32x _)) cb_X11_medianAt lay_43 kc_11 rfl ml_L_140 dL_law_961 (by decide) hcs rfl (Nat.le_of_ble_eq_true rfl) rfl (fun r2 M2 q2 => ?_)
  obtain ⟨e9, hI9⟩ := st_medianAt h q1 q2
  rw [← e9]
  exact pw_ieq (tgt := 1174) C dL_law_964 (by decide) (hk M2 hI9)
set_option maxHeartbeats 1000000 in
theorem lc_medians {X : CX} {K : KX} {cs : Nat × Nat} {Z : State → Prop} {b n : Nat} {xs : Nat → Int32} {i : Int} {M : Mem} (C : CXok X K LAY cL_law RL 7 (some .boolean) 100) (hX : SCR X b n xs) (hi : 0 ≤ i ∧ i + 6 ≤ (n : Int)) (hn : n < 2147483648) (hcs : cs.1 ≤ X.2.2.2.1.cells ∧ cs.2 ≤ X.2.2.2.1.slots) (h : Inv M) (hk : ∀ M9, Inv M9 → PW X K LAY 7 cs Z 1174 [some (Value.ref b), some (rV K 0), some (rV K 43), some (rV K 60), some (iV i), none, none] [] M9) : PW X K LAY 7 cs Z 969 [some (Value.ref b), some (rV K 0), some (rV K 43), some (rV K 60), some (iV i), none, none] [] M := by
  refine pw_aload1 C dL_law_969 ?_
  refine pw_lV C [] [] (c_X10_medians _ K _  (h.1.1) (h.1.2.2.2.1) (h.1.2.2.2.2.1) (h.1.2.2.2.2.2.1)) cb_X10_medians lay_0 kc_10 rfl ml_L_141 dL_law_970 (by decide) hcs rfl (Nat.le_of_ble_eq_true rfl) rfl (fun r1 M1 q1 => ?_)
  have hR : RI M1 := RI_of h (fun k hk9 => q1.2.2.2.2.2 k (by simp; omega))
  refine pw_aload2 C dL_law_973 ?_
  refine pw_lV C [] [iV r1] (c_X11_medians _ K _  (hR.1) (hR.2.2.2.1)) cb_X11_medians lay_43 kc_11 rfl ml_L_144 dL_law_974 (by decide) hcs rfl (Nat.le_of_ble_eq_true rfl) rfl (fun r2 M2 q2 => ?_)
  obtain ⟨e9, hI9⟩ := st_medians h q1 q2
  rw [← e9]
  exact pw_ieq (tgt := 1174) C dL_law_977 (by decide) (hk M2 hI9)
set_option maxHeartbeats 1000000 in
theorem lc_motif {X : CX} {K : KX} {cs : Nat × Nat} {Z : State → Prop} {b n : Nat} {xs : Nat → Int32} {i : Int} {M : Mem} (C : CXok X K LAY cL_law RL 7 (some .boolean) 100) (hX : SCR X b n xs) (hi : 0 ≤ i ∧ i + 6 ≤ (n : Int)) (hn : n < 2147483648) (hcs : cs.1 ≤ X.2.2.2.1.cells ∧ cs.2 ≤ X.2.2.2.1.slots) (h : Inv M) (hk : ∀ M9, Inv M9 → PW X K LAY 7 cs Z 1174 [some (Value.ref b), some (rV K 0), some (rV K 43), some (rV K 60), some (iV i), none, none] [] M9) : PW X K LAY 7 cs Z 982 [some (Value.ref b), some (rV K 0), some (rV K 43), some (rV K 60), some (iV i), none, none] [] M := by
  refine pw_aload1 C dL_law_982 ?_
  refine pw_sa0 C dL_law_983 ?_
  refine pw_iload4 C dL_law_984 ?_
  refine pw_iconst C dL_law_986 ?_
  refine pw_iadd C dL_law_987 ?_
  refine pw_sld C hX (by omega) hn dL_law_988 ?_
  refine pw_lV C [iV (xs (i + 1).toNat).toInt] [] (c_X10_motif _ K _ ((xs (i + 1).toNat).toInt) (h.1.1) (h.1.2.2.2.2.2.2.2.2.1) (h.1.2.2.2.2.2.2.2.2.2.1) (h.1.2.2.2.2.2.2.2.2.2.2) (i32x _)) cb_X10_motif lay_0 kc_10 rfl ml_L_145 dL_law_989 (by decide) hcs rfl (Nat.le_of_ble_eq_true rfl) rfl (fun r1 M1 q1 => ?_)
  have hR : RI M1 := RI_of h (fun k hk9 => q1.2.2.2.2 k (by simp; omega))
  refine pw_aload2 C dL_law_992 ?_
  refine pw_sa0 C dL_law_993 ?_
  refine pw_iload4 C dL_law_994 ?_
  refine pw_iconst C dL_law_996 ?_
  refine pw_iadd C dL_law_997 ?_
  refine pw_sld C hX (by omega) hn dL_law_998 ?_
  refine pw_lV C [iV (xs (i + 1).toNat).toInt] [iV r1] (c_X11_motif _ K _ ((xs (i + 1).toNat).toInt) (hR.1) (i32x _) (hR.2.2.2.2.2)) cb_X11_motif lay_43 kc_11 rfl ml_L_148 dL_law_999 (by decide) hcs rfl (Nat.le_of_ble_eq_true rfl) rfl (fun r2 M2 q2 => ?_)
  obtain ⟨e9, hI9⟩ := st_motif h q1 q2
  rw [← e9]
  exact pw_ieq (tgt := 1174) C dL_law_1002 (by decide) (hk M2 hI9)
set_option maxHeartbeats 1000000 in
theorem lc_motifAt {X : CX} {K : KX} {cs : Nat × Nat} {Z : State → Prop} {b n : Nat} {xs : Nat → Int32} {i : Int} {M : Mem} (C : CXok X K LAY cL_law RL 7 (some .boolean) 100) (hX : SCR X b n xs) (hi : 0 ≤ i ∧ i + 6 ≤ (n : Int)) (hn : n < 2147483648) (hcs : cs.1 ≤ X.2.2.2.1.cells ∧ cs.2 ≤ X.2.2.2.1.slots) (h : Inv M) (hk : ∀ M9, Inv M9 → PW X K LAY 7 cs Z 1174 [some (Value.ref b), some (rV K 0), some (rV K 43), some (rV K 60), some (iV i), none, none] [] M9) : PW X K LAY 7 cs Z 1007 [some (Value.ref b), some (rV K 0), some (rV K 43), some (rV K 60), some (iV i), none, none] [] M := by
  refine pw_aload1 C dL_law_1007 ?_
  refine pw_sa0 C dL_law_1008 ?_
  refine pw_iload4 C dL_law_1009 ?_
  refine pw_iconst C dL_law_1011 ?_
  refine pw_iadd C dL_law_1012 ?_
  refine pw_sld C hX (by omega) hn dL_law_1013 ?_
  refine pw_sa0 C dL_law_1014 ?_
  refine pw_iload4 C dL_law_1015 ?_
  refine pw_iconst C dL_law_1017 ?_
  refine pw_iadd C dL_law_1018 ?_
  refine pw_sld C hX (by omega) hn dL_law_1019 ?_
  refine pw_lV C [iV (xs (i + 1).toNat).toInt, iV (xs (i + 2).toNat).toInt] [] (c_X10_motifAt _ K _ ((xs (i + 1).toNat).toInt) ((xs (i + 2).toNat).toInt) (h.1.1) (h.1.2.2.2.2.2.2.2.2.1) (h.1.2.2.2.2.2.2.2.2.2.1) (h.1.2.2.2.2.2.2.2.2.2.2) (i32x _) (i32x _)) cb_X10_motifAt lay_0 kc_10 rfl ml_L_149 dL_law_1020 (by decide) hcs rfl (Nat.le_of_ble_eq_true rfl) rfl (fun r1 M1 q1 => ?_)
  have hR : RI M1 := RI_of h (fun k hk9 => q1.2.2.2.2 k (by simp; omega))
  refine pw_aload2 C dL_law_1023 ?_
  refine pw_sa0 C dL_law_1024 ?_
  refine pw_iload4 C dL_law_1025 ?_
  refine pw_iconst C dL_law_1027 ?_
  refine pw_iadd C dL_law_1028 ?_
  refine pw_sld C hX (by omega) hn dL_law_1029 ?_
  refine pw_sa0 C dL_law_1030 ?_
  refine pw_iload4 C dL_law_1031 ?_
  refine pw_iconst C dL_law_1033 ?_
  refine pw_iadd C dL_law_1034 ?_
  refine pw_sld C hX (by omega) hn dL_law_1035 ?_
  refine pw_lV C [iV (xs (i + 1).toNat).toInt, iV (xs (i + 2).toNat).toInt] [iV r1] (c_X11_motifAt _ K _ ((xs (i + 1).toNat).toInt) ((xs (i + 2).toNat).toInt) (hR.1) (i32x _) (i32x _) (hR.2.2.2.2.2)) cb_X11_motifAt lay_43 kc_11 rfl ml_L_152 dL_law_1036 (by decide) hcs rfl (Nat.le_of_ble_eq_true rfl) rfl (fun r2 M2 q2 => ?_)
  obtain ⟨e9, hI9⟩ := st_motifAt h q1 q2
  rw [← e9]
  exact pw_ieq (tgt := 1174) C dL_law_1039 (by decide) (hk M2 hI9)
set_option maxHeartbeats 1000000 in
theorem lc_of {X : CX} {K : KX} {cs : Nat × Nat} {Z : State → Prop} {b n : Nat} {xs : Nat → Int32} {i : Int} {M : Mem} (C : CXok X K LAY cL_law RL 7 (some .boolean) 100) (hX : SCR X b n xs) (hi : 0 ≤ i ∧ i + 6 ≤ (n : Int)) (hn : n < 2147483648) (hcs : cs.1 ≤ X.2.2.2.1.cells ∧ cs.2 ≤ X.2.2.2.1.slots) (h : Inv M) (hk : ∀ M9, Inv M9 → PW X K LAY 7 cs Z 1174 [some (Value.ref b), some (rV K 0), some (rV K 43), some (rV K 60), some (iV i), none, none] [] M9) : PW X K LAY 7 cs Z 1112 [some (Value.ref b), some (rV K 0), some (rV K 43), some (rV K 60), some (iV i), none, none] [] M := by
  refine pw_aload1 C dL_law_1112 ?_
  refine pw_sa0 C dL_law_1113 ?_
  refine pw_iload4 C dL_law_1114 ?_
  refine pw_iconst C dL_law_1116 ?_
  refine pw_iadd C dL_law_1117 ?_
  refine pw_sld C hX (by omega) hn dL_law_1118 ?_
  refine pw_sa0 C dL_law_1119 ?_
  refine pw_iload4 C dL_law_1120 ?_
  refine pw_iconst C dL_law_1122 ?_
  refine pw_iadd C dL_law_1123 ?_
  refine pw_sld C hX (by omega) hn dL_law_1124 ?_
  refine pw_lV C [iV (xs (i + 1).toNat).toInt, iV (xs (i + 2).toNat).toInt] [] (c_X10_of _ K _ ((xs (i + 1).toNat).toInt) ((xs (i + 2).toNat).toInt) (h.1.1) (i32x _) (i32x _)) cb_X10_of lay_0 kc_10 rfl ml_L_162 dL_law_1125 (by decide) hcs rfl (Nat.le_of_ble_eq_true rfl) rfl (fun r1 M1 q1 => ?_)
  have hR : RI M1 := RI_of h (fun k hk9 => by rw [q1.2])
  refine pw_aload2 C dL_law_1128 ?_
  refine pw_sa0 C dL_law_1129 ?_
  refine pw_iload4 C dL_law_1130 ?_
  refine pw_iconst C dL_law_1132 ?_
  refine pw_iadd C dL_law_1133 ?_
  refine pw_sld C hX (by omega) hn dL_law_1134 ?_
  refine pw_sa0 C dL_law_1135 ?_
  refine pw_iload4 C dL_law_1136 ?_
  refine pw_iconst C dL_law_1138 ?_
  refine pw_iadd C dL_law_1139 ?_
  refine pw_sld C hX (by omega) hn dL_law_1140 ?_
  refine pw_lV C [iV (xs (i + 1).toNat).toInt, iV (xs (i + 2).toNat).toInt] [iV r1] (c_X11_of _ K _ ((xs (i + 1).toNat).toInt) ((xs (i + 2).toNat).toInt) (hR.1) (i32x _) (i32x _)) cb_X11_of lay_43 kc_11 rfl ml_L_165 dL_law_1141 (by decide) hcs rfl (Nat.le_of_ble_eq_true rfl) rfl (fun r2 M2 q2 => ?_)
  obtain ⟨e9, hI9⟩ := st_of h q1 q2
  rw [← e9]
  exact pw_ieq (tgt := 1174) C dL_law_1144 (by decide) (hk M2 hI9)
set_option maxHeartbeats 1000000 in
theorem lc_count {X : CX} {K : KX} {cs : Nat × Nat} {Z : State → Prop} {b n : Nat} {xs : Nat → Int32} {i : Int} {M : Mem} (C : CXok X K LAY cL_law RL 7 (some .boolean) 100) (hX : SCR X b n xs) (hi : 0 ≤ i ∧ i + 6 ≤ (n : Int)) (hn : n < 2147483648) (hcs : cs.1 ≤ X.2.2.2.1.cells ∧ cs.2 ≤ X.2.2.2.1.slots) (h : Inv M) (hk : ∀ M9, Inv M9 → PW X K LAY 7 cs Z 1174 [some (Value.ref b), some (rV K 0), some (rV K 43), some (rV K 60), some (iV i), none, none] [] M9) : PW X K LAY 7 cs Z 1149 [some (Value.ref b), some (rV K 0), some (rV K 43), some (rV K 60), some (iV i), none, none] [] M := by
  refine pw_aload1 C dL_law_1149 ?_
  refine pw_sa0 C dL_law_1150 ?_
  refine pw_iload4 C dL_law_1151 ?_
  refine pw_iconst C dL_law_1153 ?_
  refine pw_iadd C dL_law_1154 ?_
  refine pw_sld C hX (by omega) hn dL_law_1155 ?_
  refine pw_lV C [iV (xs (i + 1).toNat).toInt] [] (c_X10_count _ K _ ((xs (i + 1).toNat).toInt) (h.1.1) (i32x _) (h.1.2.1)) cb_X10_count lay_0 kc_10 rfl ml_L_166 dL_law_1156 (by decide) hcs rfl (Nat.le_of_ble_eq_true rfl) rfl (fun r1 M1 q1 => ?_)
  have hR : RI M1 := RI_of h (fun k hk9 => by rw [q1.2])
  refine pw_aload2 C dL_law_1159 ?_
  refine pw_sa0 C dL_law_1160 ?_
  refine pw_iload4 C dL_law_1161 ?_
  refine pw_iconst C dL_law_1163 ?_
  refine pw_iadd C dL_law_1164 ?_
  refine pw_sld C hX (by omega) hn dL_law_1165 ?_
  refine pw_lV C [iV (xs (i + 1).toNat).toInt] [iV r1] (c_X11_count _ K _ ((xs (i + 1).toNat).toInt) (hR.1) (i32x _) (hR.2.1)) cb_X11_count lay_43 kc_11 rfl ml_L_169 dL_law_1166 (by decide) hcs rfl (Nat.le_of_ble_eq_true rfl) rfl (fun r2 M2 q2 => ?_)
  obtain ⟨e9, hI9⟩ := st_count h q1 q2
  rw [← e9]
  exact pw_ieq (tgt := 1174) C dL_law_1169 (by decide) (hk M2 hI9)
