/-! the law's loop, its start and its end -/
theorem sub6 {N : Nat} (hN : N ≤ 3072) (i : Nat) (hi : i ≤ 4000) : (nI N - nI 6 < nI i → N < i + 6) ∧ (¬ nI N - nI 6 < nI i → i + 6 ≤ N) := by
  by_cases h : 6 ≤ N
  · rw [pk_sub h, nlt (by omega) (by omega)]
    omega
  · have hl : nI N - nI 6 < nI i := by
      have h0 : nI N - nI 6 < nI 0 := by
        rcases (show N = 0 ∨ N = 1 ∨ N = 2 ∨ N = 3 ∨ N = 4 ∨ N = 5 by omega) with rfl | rfl | rfl | rfl | rfl | rfl <;> decide +kernel
      exact Int32.lt_of_lt_of_le h0 ((nle (by omega) (by omega)).mpr (Nat.zero_le _))
    exact ⟨fun _ => by omega, fun q => absurd hl q⟩
theorem law_loop {κ : KX} {N : Nat} {xs : Nat → Int32} (w : LWk κ N xs) (fin : ∀ L (h : Hp), X κ NC 1602 L [] h) : ∀ (m i : Nat) (σ : Sg), i ≤ 3078 → N < i + m → LI σ → X κ NC 18 (LL i) [] (hv σ)
  | 0, i, σ, hi, hm, hL => by
    have w0 := w
    obtain ⟨G, hx, hk0, hX, hz, hbl, hN⟩ := w
    refine x_iload3 G dl_18 ?_
    refine x_aload0 G dl_19 ?_
    refine x_slen G dl_20 rfl hX hz hbl ?_
    refine x_bipush (v := nI 6) G dl_21 rfl ?_
    refine x_isub G dl_23 ?_
    refine x_icmp_gt G dl_24 (fun _ => fin _ _) (fun c => ?_)
    have := (sub6 hN i (by omega)).2 c
    omega
  | m + 1, i, σ, hi, hm, hL => by
    have w0 := w
    obtain ⟨G, hx, hk0, hX, hz, hbl, hN⟩ := w
    have hk : 4 ≤ kn κ := Nat.le_of_eq hk0.symm
    refine x_iload3 G dl_18 ?_
    refine x_aload0 G dl_19 ?_
    refine x_slen G dl_20 rfl hX hz hbl ?_
    refine x_bipush (v := nI 6) G dl_21 rfl ?_
    refine x_isub G dl_23 ?_
    refine x_icmp_gt G dl_24 (fun _ => fin _ _) (fun c => ?_)
    have hi6 := (sub6 hN i (by omega)).2 c
    have back : ∀ σ2, LI σ2 → X κ NC 1596 (LL i) [] (hv σ2) := fun σ2 h2 => by
      refine x_iinc3 (v := nI (i + 6)) G dl_1596 rfl hk (nI_add i 6) ?_
      refine x_goto G dl_1599 ?_
      exact law_loop w0 fin m (i + 6) σ2 (by omega) (by omega) h2
    refine x_aload0 G dl_27 ?_
    refine x_iload3 G dl_28 ?_
    refine x_sld i G dl_29 rfl hX hz hbl rfl ⟨by omega, by omega⟩ ?_
    refine x_bipush (v := nI 63) G dl_30 rfl ?_
    refine x_iand G dl_32 ?_
    generalize xs i &&& nI 63 = x
    rcases sw_ix x 44 (by decide) with ⟨k, hk44, rfl⟩ | ho
    · rcases (show k = 0 ∨ k = 1 ∨ k = 2 ∨ k = 3 ∨ k = 4 ∨ k = 5 ∨ k = 6 ∨ k = 7 ∨ k = 8 ∨ k = 9 ∨ k = 10 ∨ k = 11 ∨ k = 12 ∨ k = 13 ∨ k = 14 ∨ k = 15 ∨ k = 16 ∨ k = 17 ∨ k = 18 ∨ k = 19 ∨ k = 20 ∨ k = 21 ∨ k = 22 ∨ k = 23 ∨ k = 24 ∨ k = 25 ∨ k = 26 ∨ k = 27 ∨ k = 28 ∨ k = 29 ∨ k = 30 ∨ k = 31 ∨ k = 32 ∨ k = 33 ∨ k = 34 ∨ k = 35 ∨ k = 36 ∨ k = 37 ∨ k = 38 ∨ k = 39 ∨ k = 40 ∨ k = 41 ∨ k = 42 ∨ k = 43 by omega) with rfl | rfl | rfl | rfl | rfl | rfl | rfl | rfl | rfl | rfl | rfl | rfl | rfl | rfl | rfl | rfl | rfl | rfl | rfl | rfl | rfl | rfl | rfl | rfl | rfl | rfl | rfl | rfl | rfl | rfl | rfl | rfl | rfl | rfl | rfl | rfl | rfl | rfl | rfl | rfl | rfl | rfl | rfl | rfl
      · exact x_tabIn (191) 224 G dl_33 (by decide +kernel) (by decide +kernel) (by decide +kernel) rfl (lc_0 w0 i hi6 hL back)
      · exact x_tabIn (234) 267 G dl_33 (by decide +kernel) (by decide +kernel) (by decide +kernel) rfl (lc_1 w0 i hi6 hL back)
      · exact x_tabIn (267) 300 G dl_33 (by decide +kernel) (by decide +kernel) (by decide +kernel) rfl (lc_2 w0 i hi6 hL back)
      · exact x_tabIn (310) 343 G dl_33 (by decide +kernel) (by decide +kernel) (by decide +kernel) rfl (lc_3 w0 i hi6 hL back)
      · exact x_tabIn (343) 376 G dl_33 (by decide +kernel) (by decide +kernel) (by decide +kernel) rfl (lc_4 w0 i hi6 hL back)
      · exact x_tabIn (376) 409 G dl_33 (by decide +kernel) (by decide +kernel) (by decide +kernel) rfl (lc_5 w0 i hi6 hL back)
      · exact x_tabIn (419) 452 G dl_33 (by decide +kernel) (by decide +kernel) (by decide +kernel) rfl (lc_6 w0 i hi6 hL back)
      · exact x_tabIn (462) 495 G dl_33 (by decide +kernel) (by decide +kernel) (by decide +kernel) rfl (lc_7 w0 i hi6 hL back)
      · exact x_tabIn (495) 528 G dl_33 (by decide +kernel) (by decide +kernel) (by decide +kernel) rfl (lc_8 w0 i hi6 hL back)
      · exact x_tabIn (538) 571 G dl_33 (by decide +kernel) (by decide +kernel) (by decide +kernel) rfl (lc_9 w0 i hi6 hL back)
      · exact x_tabIn (571) 604 G dl_33 (by decide +kernel) (by decide +kernel) (by decide +kernel) rfl (lc_10 w0 i hi6 hL back)
      · exact x_tabIn (594) 627 G dl_33 (by decide +kernel) (by decide +kernel) (by decide +kernel) rfl (lc_11 w0 i hi6 hL back)
      · exact x_tabIn (617) 650 G dl_33 (by decide +kernel) (by decide +kernel) (by decide +kernel) rfl (lc_12 w0 i hi6 hL back)
      · exact x_tabIn (640) 673 G dl_33 (by decide +kernel) (by decide +kernel) (by decide +kernel) rfl (lc_13 w0 i hi6 hL back)
      · exact x_tabIn (663) 696 G dl_33 (by decide +kernel) (by decide +kernel) (by decide +kernel) rfl (lc_14 w0 i hi6 hL back)
      · exact x_tabIn (686) 719 G dl_33 (by decide +kernel) (by decide +kernel) (by decide +kernel) rfl (lc_15 w0 i hi6 hL back)
      · exact x_tabIn (709) 742 G dl_33 (by decide +kernel) (by decide +kernel) (by decide +kernel) rfl (lc_16 w0 i hi6 hL back)
      · exact x_tabIn (742) 775 G dl_33 (by decide +kernel) (by decide +kernel) (by decide +kernel) rfl (lc_17 w0 i hi6 hL back)
      · exact x_tabIn (785) 818 G dl_33 (by decide +kernel) (by decide +kernel) (by decide +kernel) rfl (lc_18 w0 i hi6 hL back)
      · exact x_tabIn (808) 841 G dl_33 (by decide +kernel) (by decide +kernel) (by decide +kernel) rfl (lc_19 w0 i hi6 hL back)
      · exact x_tabIn (851) 884 G dl_33 (by decide +kernel) (by decide +kernel) (by decide +kernel) rfl (lc_20 w0 i hi6 hL back)
      · exact x_tabIn (884) 917 G dl_33 (by decide +kernel) (by decide +kernel) (by decide +kernel) rfl (lc_21 w0 i hi6 hL back)
      · exact x_tabIn (917) 950 G dl_33 (by decide +kernel) (by decide +kernel) (by decide +kernel) rfl (lc_22 w0 i hi6 hL back)
      · exact x_tabIn (960) 993 G dl_33 (by decide +kernel) (by decide +kernel) (by decide +kernel) rfl (lc_23 w0 i hi6 hL back)
      · exact x_tabIn (973) 1006 G dl_33 (by decide +kernel) (by decide +kernel) (by decide +kernel) rfl (lc_24 w0 i hi6 hL back)
      · exact x_tabIn (996) 1029 G dl_33 (by decide +kernel) (by decide +kernel) (by decide +kernel) rfl (lc_25 w0 i hi6 hL back)
      · exact x_tabIn (1039) 1072 G dl_33 (by decide +kernel) (by decide +kernel) (by decide +kernel) rfl (lc_26 w0 i hi6 hL back)
      · exact x_tabIn (1062) 1095 G dl_33 (by decide +kernel) (by decide +kernel) (by decide +kernel) rfl (lc_27 w0 i hi6 hL back)
      · exact x_tabIn (1075) 1108 G dl_33 (by decide +kernel) (by decide +kernel) (by decide +kernel) rfl (lc_28 w0 i hi6 hL back)
      · exact x_tabIn (1108) 1141 G dl_33 (by decide +kernel) (by decide +kernel) (by decide +kernel) rfl (lc_29 w0 i hi6 hL back)
      · exact x_tabIn (1131) 1164 G dl_33 (by decide +kernel) (by decide +kernel) (by decide +kernel) rfl (lc_30 w0 i hi6 hL back)
      · exact x_tabIn (1174) 1207 G dl_33 (by decide +kernel) (by decide +kernel) (by decide +kernel) rfl (lc_31 w0 i hi6 hL back)
      · exact x_tabIn (1217) 1250 G dl_33 (by decide +kernel) (by decide +kernel) (by decide +kernel) rfl (lc_32 w0 i hi6 hL back)
      · exact x_tabIn (1240) 1273 G dl_33 (by decide +kernel) (by decide +kernel) (by decide +kernel) rfl (lc_33 w0 i hi6 hL back)
      · exact x_tabIn (1263) 1296 G dl_33 (by decide +kernel) (by decide +kernel) (by decide +kernel) rfl (lc_34 w0 i hi6 hL back)
      · exact x_tabIn (1326) 1359 G dl_33 (by decide +kernel) (by decide +kernel) (by decide +kernel) rfl (lc_35 w0 i hi6 hL back)
      · exact x_tabIn (1369) 1402 G dl_33 (by decide +kernel) (by decide +kernel) (by decide +kernel) rfl (lc_36 w0 i hi6 hL back)
      · exact x_tabIn (1402) 1435 G dl_33 (by decide +kernel) (by decide +kernel) (by decide +kernel) rfl (lc_37 w0 i hi6 hL back)
      · exact x_tabIn (1435) 1468 G dl_33 (by decide +kernel) (by decide +kernel) (by decide +kernel) rfl (lc_38 w0 i hi6 hL back)
      · exact x_tabIn (1468) 1501 G dl_33 (by decide +kernel) (by decide +kernel) (by decide +kernel) rfl (lc_39 w0 i hi6 hL back)
      · exact x_tabIn (1491) 1524 G dl_33 (by decide +kernel) (by decide +kernel) (by decide +kernel) rfl (lc_40 w0 i hi6 hL back)
      · exact x_tabIn (1514) 1547 G dl_33 (by decide +kernel) (by decide +kernel) (by decide +kernel) rfl (lc_41 w0 i hi6 hL back)
      · exact x_tabIn (1527) 1560 G dl_33 (by decide +kernel) (by decide +kernel) (by decide +kernel) rfl (lc_42 w0 i hi6 hL back)
      · exact x_tabIn (1540) 1573 G dl_33 (by decide +kernel) (by decide +kernel) (by decide +kernel) rfl (lc_43 w0 i hi6 hL back)
    · exact x_tabOut 1596 G dl_33 ho rfl (back σ hL)
theorem Fr0 : Fr 0 cF cF z0 := fun _ _ _ => ⟨rfl, rfl, rfl⟩
theorem k_row22 : Cond.classLink "NoonFieldsLaw" 7 (gcl 0).1 ∈ WS := ws_in 87 (by decide +kernel) (by decide +kernel)
theorem k_row954 : Cond.classLink "NoonFieldsLaw" 10 (gcl 12).1 ∈ WS := ws_in 1019 (by decide +kernel) (by decide +kernel)
theorem k_ini1 : Cond.initialized (gcl 0).1 ∈ WS := ws_in 66 (by decide +kernel) (by decide +kernel)
theorem k_ini13 : Cond.initialized (gcl 12).1 ∈ WS := ws_in 78 (by decide +kernel) (by decide +kernel)
theorem law_start {κ : KX} {N : Nat} {xs : Nat → Int32} (w : LWk κ N xs) (fin : ∀ L (h : Hp), X κ NC 1602 L [] h) : X κ 0 0 [some (.ref 2150), none, none, none] [] (wd cF cF z0) := by
  have w0 := w
  obtain ⟨G, hx, hk0, hX, hz, hbl, hN⟩ := w
  have hk : 4 ≤ kn κ := Nat.le_of_eq hk0.symm
  have hF := Fr0
  refine f_new (ci := 0) hF G dl_0 (by decide) rfl k_row22 (cl_inst 0 (by decide)) k_ini1 (by rw [hx]; decide) (by decide) (by decide +kernel) (fun hz0 hF => ?_)
  refine x_dup G dl_3 rfl ?_
  refine f_callI (b_N_init_0 (kg κ) 200 (by decide) z0 hz0) hF G dl_4 lk_LAW_9 ⟨by decide, by decide⟩ (by decide) rfl (Nat.le_of_ble_eq_true rfl) ⟨by decide, by rw [hx]; decide⟩ (fun hF => ?_)
  refine x_astore1 G dl_7 rfl hk ?_
  refine f_new (ci := 12) hF G dl_8 (by decide) rfl k_row954 (cl_inst 12 (by decide)) k_ini13 (by rw [hx]; decide) (by decide) (by decide +kernel) (fun hz1 hF => ?_)
  refine x_dup G dl_11 rfl ?_
  rw [wd_or]
  have hD : ∀ a b : Nat, a < 113 → (fun a b => cF a b || mkc 0 1 113 cF a b) a b = true := fun a b h => by
    show (cF a b || (cF a b || (a == 0 || (decide (1 ≤ a) && decide (a < 113))))) = true
    by_cases h0 : a = 0
    · subst h0
      rfl
    · rw [decide_eq_true (show 1 ≤ a by omega), decide_eq_true h]
      simp
  refine x_callI (As := []) (b_M_init (kg κ) 200 (by decide) (fun a b => cF a b || mkc 0 1 113 cF a b) (sgNN z0) hD (fun a ha b => ⟨by show (cF a b || mkc 0 1 113 cF a b) = false; rw [(hF a ha b).1, (hF a ha b).2.1]; rfl, rfl, (hF a ha b).2.2⟩) hz1) G dl_12 lk_LAW_12 ⟨by decide, by decide⟩ (by decide) rfl (Nat.le_of_ble_eq_true rfl) ⟨by decide, by rw [hx]; decide⟩ (fun r h' ⟨σ', e1, e2, e3⟩ => ?_)
  subst e1
  subst e2
  have e4 : σ' = zM := e3
  subst e4
  refine x_astore2 G dl_15 rfl hk ?_
  refine x_iconst (v := nI 0) G dl_16 rfl ?_
  refine x_istore3 G dl_17 rfl hk ?_
  exact law_loop w0 fin 3079 0 zM (by decide) (by omega) z_LI
theorem whole_start {p : Program} {e : Env} {s : State} {m : MethodId} {below : List Frame} {meth : Method} {c : Code} (l : Launch) (hflags : l.flags = flags0) {b L : Nat} {xs : Nat → Int32} (hL : L ≤ 3072) (C0 : lw_At p s m meth c b L xs) : W p l e room_1 s m #[Value.ref b] below meth c s.heap [] 0 0 (lw_Z below #[Value.ref b] s) (entryFrame m ([Value.ref b] : List Value).toArray 4) := by
  have C1 := C0
  obtain ⟨g, g1, g2, g3, G⟩ := st_g (p := p) (e := e) (below := below) l C0 (lw_Z below #[Value.ref b] s)
  obtain ⟨hx, hb, hr, hml, hown, hts, hX, hbl, hlk, hg⟩ := C1
  subst g1
  have w : LWk ((p, e, room_1, s, m, #[.ref b]), (below, meth, c, lw_Z below #[Value.ref b] s), (g, 0, 135, 4)) L xs := ⟨G, rfl, rfl, by show va_X (cxV g 50) L xs s s.heap; rw [g3]; exact hX, g2, by show cxV g 50 < s.heap.size; rw [g3]; exact hbl, hL⟩
  have fin : ∀ L' (h : Hp), X ((p, e, room_1, s, m, #[.ref b]), (below, meth, c, lw_Z below #[Value.ref b] s), (g, 0, 135, 4)) NC 1602 L' [] h := fun L' h => by
    refine x_iconst (v := nI 1) G dl_1602 rfl ?_
    intro H locs ls hz0 hP hS hl
    refine va_forget (fun q hq => by have := hS.2.2 q hq; show s.heap.size ≤ q.base; rw [← g2]; exact this) ?_
    refine W.widen (k := 600000) (n := 7302249) (by show 135 - 0 ≤ 600000; decide) (by show ss 135 - ss 0 ≤ 7302249; decide +kernel) ?_
    exact lw_ret hx hb hr hlk dl_1603.1
  have hX0 := law_start w fin
  have hL0 := lv_entry ([.ref 2150].map (vV g)) (n := 4) (by rw [lin_len]; decide)
  rw [lg_entry_eq]
  have hv0 : ([.ref 2150] : List Value).map (vV g) = [.ref b] := by show [Value.ref (cxV g 50)] = _; rw [g3]
  rw [← lin_lcl g 3, hv0] at hL0
  exact W.cs rfl rfl (hX0 s.heap [] _ (Nat.le_refl _) (fun k q hq => by cases hq) va_S.rf hL0)
set_option maxHeartbeats 4000000 in
theorem lw_walk (l : Launch) (hflags : l.flags = flags0) (b : Addr) (xs : List Int32) : MetFree l x (headSpec (Jvm.Cond.code x code maxLocals ret :: tables_1) room_1) (lw_P b xs) (fun _ _ _ _ _ => True) lw_Q := by
  refine MetFree.of_bodyS (code := code) (maxLocals := maxLocals) (ret := ret) (by decide) ?_ ?_
  · intro args s m h hn
    obtain ⟨meth, c, h1, h2, h3, h4, h5, h6, -, -⟩ := Cond.code_spec hn (atoms_spec (ws := Jvm.Cond.code x code maxLocals ret :: tables_1) h _ List.mem_cons_self)
    exact ⟨meth, c, h1, h2, h3, h4, h5, h6⟩
  · intro p e s m args below meth c s₁ B hml0 hP _
    obtain ⟨rfl, hx, hbd, hgv⟩ := hP
    obtain ⟨scr, harrAt, hlist, hof, hsmall⟩ := hx
    obtain ⟨hcb, hkn, -, -⟩ := State.arrayAt?_spec harrAt
    have hown : s.vm.findClass R_law = some m.cls := findClass_of_methodNamed B.named
    have hts0 : ∀ c ∈ (Jvm.Cond.code x code maxLocals ret :: tables_1), c.before #[Value.ref b] s = true := atoms_spec (ws := Jvm.Cond.code x code maxLocals ret :: tables_1) B.pre
    have hts : ∀ w ∈ lw_tbl, w.before #[Value.ref b] s = true := k2_hts_sels lw_privs (fun w hw => hts0 w (List.mem_cons_of_mem _ hw)) lw_privs_ok
    have hml : c.maxLocals = 4 := B.maxLocals_eq (hts0 _ List.mem_cons_self)
    have X₀ : Stand p l e room_1 s m #[Value.ref b] below meth c s₁ [] 0 0 := Stand.of_body B
    have hh0 : s₁.heap = s.heap := by rw [B.state]; rfl
    have hsz : scr.slots.size = xs.length := by rw [← Array.length_toList, hlist, List.length_map]
    have hval : ∀ j : Nat, j < xs.length → scr.slots[j]? = some (.int (xs.getD j 0)) := fun j hj => by
      rw [← Array.getElem?_toList, hlist]
      simp [hj]
    have hbl : b < s.heap.size := (Array.getElem?_eq_some_iff.mp hcb).1
    have hX : va_X b xs.length (fun j => xs.getD j 0) s s.heap := ⟨scr, hcb, hof, hkn, hsz, hval⟩
    have K : W p l e room_1 s m #[Value.ref b] below meth c s₁.heap [] 0 0 (lw_Z below #[Value.ref b] s) (entryFrame m ([Value.ref b] : List Value).toArray 4) := by
      rw [hh0]
      exact whole_start l hflags hbd ⟨B.exec, B.bytes, B.returns, hml, hown, hts, hX, hbl, B.notSynchronized, hgv⟩
    obtain ⟨t, a1, o, b1, b2, b3⟩ := K s₁ rfl X₀
    exact ⟨t, o, a1, b1, b2, b3⟩
theorem lw_pre_spec {args : Array Value} {s : State} (h : (Jvm.Cond.and given_1 narrow_1).before args s = true) (hr : rest_1_c.before args s = true) : ∃ (b : Addr) (xs : List Int32), lw_P b xs args s := by
  have hs := flat_of_before _ h
  have hq := flat_of_before _ hr
  have hc : (Cond.count 1).before args s = true := hs _ (by decide +kernel)
  have harr : (Cond.arrayOf (.arg 0) .int).before args s = true := hs _ (by decide +kernel)
  have hle : (Cond.le (.length (.arg 0)) (.int 3072)).before args s = true := hs _ (by decide +kernel)
  have hlen : (Cond.isInt (.length (.arg 0))).before args s = true := hq _ (by decide +kernel)
  have hall : (Cond.all (.arg 0) (.isInt (.elem (.arg 0) (.index 0)))).before args s = true := hq _ (by decide +kernel)
  obtain ⟨b, xs, hb, hx⟩ := State.ints_of_pre rfl harr hlen hall
  have hsm : xs.length < 2 ^ 31 := hx.choose_spec.2.2.2
  have hev : (Term.length (.arg 0)).eval args s none [] s = some (.int xs.length.toInt32) := hx.length_eval hb
  have hv := Cond.le_ints hev (show (Term.int 3072).eval args s none [] s = some (.int 3072) from rfl)
  have hd : xs.length.toInt32 ≤ 3072 := by
    simpa [Cond.before, Cond.holds, hv] using hle
  have hN : xs.length ≤ 3072 := (Int32.ofNat_le_ofNat hsm (by decide)).mp (show Int32.ofNat xs.length ≤ Int32.ofNat 3072 from hd)
  exact ⟨b, xs, Cond.one_arg hc (show args[0]? = some (.ref b) from hb), hx, hN, h⟩
theorem lw_comes (l : Launch) (hflags : l.flags = flags0) : Comes l x (Jvm.Cond.code x code maxLocals ret :: tables_1) room_1 (fun tb e args s => Calls_1 tb e args s ∧ rest_1 tb e args s ∧ Pre_1 tb e args s)
    (fun _ _ args s o t => lw_Q args s o t) := by
  intro p e ha hc hk s m args below hf hfit hheap happ hpre
  obtain ⟨b, xs, hP⟩ := lw_pre_spec hpre.2.2 hpre.2.1
  obtain ⟨k, o, h1, h2, h3, hQ⟩ := lw_walk l hflags b xs p e ha hc hk s m args below hf ((Spec.applies_iff_loose hf).mp happ).1 hP trivial
  exact ⟨k, o, h1, h2, h3, hQ⟩
theorem lw_frame {s t : State} {o : Outcome} {args : Array Value} (h : Framed s o t [] 600000 7302249) :
    Framed s o t (fieldLocs frame_1_writes args s ++ arrayLocs frame_1_arrays args s ++ staticLocs frame_1_statics s) 600000 7302249 := h
theorem lw_limb (L : Cond) (hL : ∀ (args : Array Value) (s t : State), L.after args s (.returned (some (.int 1))) t = true) :
    ArmFor flags0 classFile x code maxLocals ret World_1 tables_1 room_1 Calls_1 rest_1 Pre_1
      (fun tb e a s o t => postC L tb e a s o t ∧ Framed s o t (fieldLocs frame_1_writes a s ++ arrayLocs frame_1_arrays a s ++ staticLocs frame_1_statics s) 600000 7302249) := by
  intro l hflags _ _ p e ha hc hk s m args below hf hfit hheap happ hpre
  obtain ⟨k, o, h1, h2, h3, rfl, hF⟩ := lw_comes l hflags p e ha hc hk s m args below hf hfit hheap happ hpre
  exact ⟨k, _, h1, h2, h3, hL args s _, lw_frame hF⟩
theorem i_vc : Claimed_1_1 ∧ Claimed_1_2 := ⟨lw_limb limb_1_1 (fun args s t => by simp [limb_1_1, Cond.after, Cond.holds, Cond.value]), lw_limb limb_1_2 (fun args s t => Cond.after_iff.mpr (by
  first | (rw [show limb_1_2 = Cond.eq .result (.int 1) from rfl, Cond.eq_ints (x := 1) (y := 1) rfl rfl]; simp; done) | (simp [limb_1_2, Cond.value, Term.eval]; done)))⟩
