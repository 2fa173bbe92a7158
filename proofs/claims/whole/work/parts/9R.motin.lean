/-! motifIn: it returns or throws -/
def thN : List String := ["java/lang/RuntimeException", "java/lang/Exception"]
abbrev thR : ByteArray := prog_21_method_4_code
def thW : List Cond := vx_atX RX10 254 "java/util/NoSuchElementException" 13 thR thN
theorem th_0 : decode thR 0 = .ok (.aload_n 0, 1) := by decide +kernel
theorem th_1 : decode thR 1 = .ok (.aload_n 1, 1) := by decide +kernel
theorem th_2 : decode thR 2 = .ok (.invokespecial 13, 3) := by decide +kernel
theorem th_5 : decode thR 5 = .ok (.return_, 1) := by decide +kernel
def TXq (A : Nat → Prop) (U : State) (H : Heap) : Prop := (∀ w ∈ thW, w.before #[] U = true) ∧ (∃ a, vk_R RX10 252 "no such text" a U) ∧ (∃ a, vk_R RX10 257 "no motif" a U) ∧ vx_Zq Bundle.tN "UNASSIGNED_STACK" Bundle.steD A U H ∧ vx_Zq Bundle.tN "SUPPRESSED_SENTINEL" Bundle.listD A U H
theorem th_kind : ∀ w ∈ thW, (goodWord w || (w.onTables && w.faceAtom)) = true := by decide +kernel
theorem th_cast : Cond.castable "java/util/NoSuchElementException" "java/util/NoSuchElementException" ∈ thW := by decide +kernel
theorem th_go {args a' : Array Value} {s U : State} {w : Cond} (hw : w ∈ thW) (hW : s.WarmedH U.vm) (h : w.before args s = true) : w.before a' U = true := by
  have hk := th_kind w hw
  simp only [Bool.or_eq_true, Bool.and_eq_true] at hk
  rcases hk with hk | hk
  · exact word_at hW (good_of_word hk) h
  · exact va_tabs (u := s.setVm U.vm) (A := args) hk.1 rfl (Cond.faceAtom_setVm hW.alike w hk.2 h)
theorem TXq.go {A B : Nat → Prop} {s U : State} {H0 H : Heap} (h : TXq A s H0) (hW : s.WarmedH U.vm) (hq : ∀ a : Nat, a < H0.size → ¬ A a → H[a]? = H0[a]?) (hAB : ∀ q, B q → A q) : TXq B U H := by
  obtain ⟨h1, ⟨a1, h3⟩, ⟨a2, h4⟩, h5, h6⟩ := h
  exact ⟨fun w hw => th_go hw hW (h1 w hw), ⟨a1, vk_R.warm hW h3⟩, ⟨a2, vk_R.warm hW h4⟩, ((vx_Zq.moved hW.alike h5).kept hq).narrow hAB, ((vx_Zq.moved hW.alike h6).kept hq).narrow hAB⟩
theorem th_ot : ∀ w ∈ Cond.classLink RX10 250 "java/util/NoSuchElementException" :: Cond.initialized "java/util/NoSuchElementException" :: thW, vx_ot w = true := by decide +kernel
theorem th_fit : ∀ n ∈ thN, Bundle.fit n = true := by decide +kernel
theorem TXq.all {A : Nat → Prop} {s : State} {H : Heap} {args : Array Value} (h : TXq A s H) : ∀ w ∈ thW, w.before args s = true := fun w hw => th_go hw (State.WarmedH.refl s) (h.1 w hw)
theorem pw_entry {p : Program} {l : Launch} {e : Env} {R : Room} {s : State} {m : MethodId} {av : List Value} {below : List Frame} {meth : Method} {c : Code} {A : Nat → Prop} {K : KX} {lay : List PD} {nL : Nat} {Z : State → Prop} {M : Mem} (hc : ∀ v ∈ av, v.category = 1) (hn : av.length ≤ nL) (hP : va_P K.1 vwCl (wld K lay M) s.heap) (k : PW (p, l, e, R, s, m, av.toArray, below, meth, c, A) K lay nL (0, 0) Z 0 (LV0 av nL) [] M) : W p l e R s m av.toArray below meth c s.heap [] 0 0 Z (entryFrame m av.toArray nL) := by
  have hl := lv_entry av (n := nL) (by rw [lg_sl_len1 av hc]; exact hn)
  rw [lg_entry_eq]
  refine k s.heap [] _ hP va_S.rf ⟨?_, ?_⟩
  · rw [LV0, lvl_pad, ← lvl_args av 0 hc]
    exact hl
  · intro v hv
    rcases List.mem_append.mp hv with h1 | h1
    · obtain ⟨w, hw, e1⟩ := List.mem_map.mp h1
      cases e1
      exact hc v hw
    · have := List.eq_of_mem_replicate h1
      cases this
def QmI (M : Mem) (m t r : Int) (M' : Mem) : Prop := (okM (cf M) m ∧ 0 ≤ t ∧ t < M 9 0) ∧ PMoI (cf M) m t r ∧ MoC (cf M) M' ∧ M' 37 4 = 120 ∧ Z0b M' ∧ Sm [34, 35, 36, 37, 38, 39, 40, 41, 42] M M'
abbrev rmX : Room := { frames := 20, cells := 1, slots := 6, locals := 1280 }
def PcX (K : KX) (M : Mem) (sz : Nat) : State → Prop := fun U => U.heap.size = sz ∧ va_P K.1 vwCl (wld K LAY M) U.heap ∧ va_K K.1 vwCl (tysK K) U ∧ injK K LAY ∧ TXq (AK K LAY sz) U U.heap
def XCX (K : KX) (M : Mem) (m t : Int) (A : Nat → Prop) : String → State → State → Prop := vx_X (fun _ : Unit => ¬ (okM (cf M) m ∧ 0 ≤ t ∧ t < M 9 0)) (fun E _ T => E = "java/util/NoSuchElementException" ∧ va_P K.1 vwCl (wld K LAY M) T.heap ∧ va_K K.1 vwCl (tysK K) T) A
theorem va_P_more {D : va_G} {cl : List vw_C} {ws : va_W} {H H1 : Heap} (h : va_P D cl ws H) (hq : ∀ q : Nat, q < H.size → H1[q]? = H[q]?) : va_P D cl ws H1 := h.kept (fun k q hk => hq q.1 (vx_lt h hk))
set_option maxHeartbeats 4000000 in
theorem c_X10_motifIn {l : Launch} (hl : l.stackTraces = false) (K : KX) (M : Mem) (m t : Int) (hW : WfK (cf M)) (hwd : M 37 4 = 120) (hZ : Z0b M) (hC : MoC (cf M) M) (hm9 : -2147483648 ≤ m ∧ m ≤ 2147483647) (ht9 : -2147483648 ≤ t ∧ t ≤ 2147483647) (sz : Nat) :
    vx_Met l yX10_motifIn (.code yX10_motifIn cX10_motifIn 3 (some .int) :: wsL_law0) rmX (va_Pc [rV K 0, iV m, iV t] (PcX K M sz)) (QQ K LAY (AK K LAY sz) (fun v M' => ∃ r : Int, v = some (iV r) ∧ QmI M m t r M')) (XCX K M m t (AK K LAY sz)) 1 6 (AK K LAY sz) := by
  refine vx_ofW (cc := cX10_motifIn) (maxL := 3) (ret := some .int) (by decide +kernel) rfl ?_
  intro p e s m0 args below meth c s₁ B hml hnt hv
  obtain ⟨rfl, hsz, hP0, hK0, hinj0, hTX⟩ := hv
  subst hsz
  have hts0 := atoms_spec (ws := .code yX10_motifIn cX10_motifIn 3 (some .int) :: wsL_law0) B.pre
  have C : CXok (p, l, e, rmX, s, m0, [rV K 0, iV m, iV t].toArray, below, meth, c, AK K LAY s.heap.size) K LAY cX10_motifIn RX10 3 (some .int) 20 :=
    ⟨B.exec, B.bytes, hml, findClass_of_methodNamed B.named, fun w hw => hts0 w (List.mem_cons_of_mem _ hw), hK0, hinj0, fun k hk => Or.inl ⟨k, hk, rfl⟩, fun q h => Or.inr h, B.notSynchronized, B.returns, Nat.le_refl _, Nat.le_refl _⟩
  have w_t := wf_t hW
  have hall := hTX.all (args := [rV K 0, iV m, iV t].toArray)
  obtain ⟨-, ⟨a1, hs1⟩, ⟨a2, hs2⟩, hU, hN⟩ := hTX
  refine pw_entry (A := AK K LAY s.heap.size) (cat_r (cat_i (cat_i cat_nil))) (Nat.le_of_ble_eq_true rfl) hP0 ?_
  show PW _ K LAY 3 (0, 0) _ 0 [some (rV K 0), some (iV m), some (iV t)] [] M
  have hthr : ∀ (H : Heap) (t9 : State), ¬ (okM (cf M) m ∧ 0 ≤ t ∧ t < M 9 0) → va_P K.1 vwCl (wld K LAY M) H → ∀ locs, va_S (AK K LAY s.heap.size) s.heap H locs → s.vm.Alike t9.vm → H.size ≤ t9.heap.size → (∀ q : Nat, q < H.size → t9.heap[q]? = H[q]?) → XCX K M m t (AK K LAY s.heap.size) "java/util/NoSuchElementException" s t9 := by
    intro H t9 hno hP locs hS ha hz hq
    exact ⟨(), hno, ⟨rfl, va_P_more hP hq, va_K.moved ha hK0⟩, Nat.le_trans hS.1 hz, fun q h1 h2 => by rw [hq q (Nat.lt_of_lt_of_le h1 hS.1)]; exact hS.2.1 q h1 h2⟩
  refine pw_aload0 C dX10_motifIn_0 ?_
  refine g_0_3 C fl_X10_33 dX10_motifIn_1 ?_
  refine pw_iload2 C dX10_motifIn_4 ?_
  refine pw_cVi1 C (c_X7_has _ K _ _ ht9 w_t) cb_X7_has lay_9 kc_7 rfl ml_X10_249 dX10_motifIn_5 (by decide) (Nat.le_of_ble_eq_true rfl) (fun r5 M5 hQ => ?_)
  obtain ⟨hp5, hMe⟩ := hQ
  replace hMe := hMe.symm
  subst hMe
  have h501 : r5 = 0 ∨ r5 = 1 := by rw [hp5]; split <;> simp
  refine pw_if_ne (tgt := 21) C dX10_motifIn_8 (by decide) (by omega) (fun h8 => ?_) (fun h8 => ?_)
  · have ht0 : 0 ≤ t ∧ t < M 9 0 := by
      by_cases h : 0 ≤ t ∧ t < M 9 0
      · exact h
      · rw [if_neg h] at hp5; omega
    refine pw_aload0 C dX10_motifIn_21 ?_
    refine g_0_3 C fl_X10_33 dX10_motifIn_22 ?_
    refine pw_iload1 C dX10_motifIn_25 ?_
    refine pw_cVi1 C (c_X7_allHave _ K _ _ (hW) (hm9)) cb_X7_allHave lay_9 kc_7 rfl ml_X10_236 dX10_motifIn_26 (by decide) (Nat.le_of_ble_eq_true rfl) (fun r26 M26 hQ => ?_)
    obtain ⟨hp_26, hMe⟩ := hQ
    replace hMe := hMe.symm
    subst hMe
    have h261 : r26 = 0 ∨ r26 = 1 := hp_26.elim (fun h => Or.inr h.2) (fun h => Or.inl h.2)
    refine pw_if_ne (tgt := 43) C dX10_motifIn_29 (by decide) (by omega) (fun h29 => ?_) (fun h29 => ?_)
    · have hok : okM (cf M) m := hp_26.elim (fun h => h.1) (fun h => absurd h.2 (by omega))
      refine pw_aload0 C dX10_motifIn_43 ?_
      refine g_0_8 C fl_X10_74 dX10_motifIn_44 ?_
      refine pw_iload1 C dX10_motifIn_47 ?_
      refine pw_cVv1 C (c_X2_refresh _ K _ _ (hW) (hwd) (hZ) (hC) (hok)) cb_X2_refresh lay_33 kc_2 rfl ml_X10_239 dX10_motifIn_48 (by decide) (Nat.le_of_ble_eq_true rfl) (fun M48 hQ => ?_)
      obtain ⟨hS_48, hC_48, hwd_48, hZ_48, hF48⟩ := hQ
      obtain ⟨b, hb1, hb2, hb3⟩ := hS_48
      have ec : cf M48 = cf M := cf_e (hF48 1 (by decide)) (hF48 2 (by decide)) (hF48 6 (by decide)) (hF48 7 (by decide)) (hF48 8 (by decide)) (hF48 9 (by decide)) (hF48 10 (by decide)) (hF48 11 (by decide))
      refine pw_aload0 C dX10_motifIn_51 ?_
      refine g_0_8 C fl_X10_74 dX10_motifIn_52 ?_
      refine pw_iload1 C dX10_motifIn_55 ?_
      refine pw_iload2 C dX10_motifIn_56 ?_
      refine pw_cVi2 C (c_X2_nearestPiece _ K _ _ _ b (by rw [ec]; exact hW) (by rw [ec]; exact hok) (by rw [hF48 9 (by decide)]; exact ht0) (by rw [hF48 1 (by decide)]; exact hb3)) cb_X2_nearestPiece lay_33 kc_2 rfl ml_X10_259 dX10_motifIn_57 (by decide) (Nat.le_of_ble_eq_true rfl) (fun r57 M57 hQ => ?_)
      obtain ⟨hp57, hF57⟩ := hQ
      rw [ec, hF48 1 (by decide)] at hp57
      obtain ⟨hx, hb, hml1, hown, hts, hK, hinj, hAk, hA, hlk, hrt, hfr, hlo⟩ := C
      intro H locs ls hP hS hl9
      refine W.widen (k := 1) (n := 6) (by omega) (by omega) (vx_ret (W.iret (v := Int32.ofInt r57) hx hb hrt (fun t9 ht hWt => ⟨⟨_, M57, rfl, ⟨r57, rfl, ⟨hok, ht0⟩, ⟨b, hb1, hp57⟩, ?_, ?_, ?_, ?_⟩, by rw [ht]; exact hP, va_K.moved hWt.alike hK⟩, hS.F ht⟩) hS.2.2 dX10_motifIn_60))
      · exact MoC_c (hF57 34 (by decide)) (hF57 35 (by decide)) hC_48
      · rw [hF57 37 (by decide)]; exact hwd_48
      · exact Z0b_c (hF57 39 (by decide)) (hF57 41 (by decide)) (hF57 42 (by decide)) hZ_48
      · exact Sm_trans (fun k hk => hF48 k (by simp at hk ⊢; omega)) hF57 (by decide)
    · have hno : ¬ (okM (cf M) m ∧ 0 ≤ t ∧ t < M 9 0) := fun h => hp_26.elim (fun h => absurd h.2 (by omega)) (fun h9 => h9.1 h.1)
      obtain ⟨hx, hb, hml1, hown, hts, hK, hinj, hAk, hA, hlk, hrt, hfr, hlo⟩ := C
      intro H locs ls hP hS hl9
      exact vx_throwSWX (mc := 1) (ms := 6) (names := thN) hx hb hl th_0 th_1 th_2 th_5 hown (by decide +kernel) th_fit (hts _ cl_X10_250) (hts _ in__java_util_NoSuchElementException_) hs2 hall th_ot hU hN hS (hl9.1.1.trans hml1.symm) dX10_motifIn_32 dX10_motifIn_35 dX10_motifIn_36 dX10_motifIn_39 dX10_motifIn_42 (fun x hx9 => (hnt x hx9).elim) (by decide) (by decide) (by decide) (by decide) hlk (fun t9 ha hz hq => hthr H t9 hno hP locs hS ha hz hq) hS.2.2 (by decide) (by decide)
  · have hno : ¬ (okM (cf M) m ∧ 0 ≤ t ∧ t < M 9 0) := fun h => by rw [if_pos h.2] at hp5; omega
    obtain ⟨hx, hb, hml1, hown, hts, hK, hinj, hAk, hA, hlk, hrt, hfr, hlo⟩ := C
    intro H locs ls hP hS hl9
    exact vx_throwSX (mc := 1) (ms := 6) (names := thN) hx hb hl th_0 th_1 th_2 th_5 hown (by decide +kernel) th_fit (hts _ cl_X10_250) (hts _ in__java_util_NoSuchElementException_) hs1 hall th_ot hU hN hS (hl9.1.1.trans hml1.symm) dX10_motifIn_11 dX10_motifIn_14 dX10_motifIn_15 dX10_motifIn_17 dX10_motifIn_20 (fun x hx9 => (hnt x hx9).elim) (by decide) (by decide) (by decide) (by decide) hlk (fun t9 ha hz hq => hthr H t9 hno hP locs hS ha hz hq) hS.2.2 (by decide) (by decide)
